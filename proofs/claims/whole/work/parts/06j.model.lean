set_option maxHeartbeats 1000000 in
set_option maxRecDepth 100000 in
theorem c_X5_resize {E : z_E} {mi : z_Mi} {mr : z_Mr} {o : Nat} {P F X L M U V B : Int → Int} {n h : Int} (hM : z_MO E mr o) (hz1 : z_R n) (hz2 : z_R h) (hH : p_hd P) (hF1 : 0 ≤ F 1) (hF2 : F 1 ≤ 8) (hL : ∀ j, -9 ≤ L j ∧ L j ≤ 99) (hMk : ∀ j, -9 ≤ M j ∧ M j ≤ 9999) (hU : ∀ j, 0 ≤ U j ∧ U j ≤ 9999) (hb0 : 0 ≤ F 9) (hb1 : F 9 ≤ 9999) : z_mi M_X5_resize E [zo o, zi n, zi h] (z_u (z_u (z_u (z_u (z_u (z_u (z_u (z_u mi (o + 2) X) (o + 3) L) (o + 4) M) (o + 5) U) (o + 6) V) (o + 7) B) o F) (o + 1) P) mr (fun x m r => ((4 ≤ n ∧ n ≤ 20 ∧ 2 ≤ h ∧ h ≤ 8) → ∃ F0 U0 V0 F' X' L' M' U' V' B' : Int → Int, x = y_many (p_rec (F 1) P) n ∧ m = (z_u (z_u (z_u (z_u (z_u (z_u (z_u (z_u mi (o + 2) X') (o + 3) L') (o + 4) M') (o + 5) U') (o + 6) V') (o + 7) B') o F') (o + 1) (y_land U' V' B' (y_top (p_rec (F 1) P) n h) (y_pg n h (y_top (p_rec (F 1) P) n h - y_base (p_rec (F 1) P) n h) X' (p_rec (F 1) P)) ((p_rec (F 1) P) 7 + 1))) ∧ (F', X', U', V', B') = y_run (p_rec (F 1) P) L' M' (F0, y_fr X 704, U0, V0, (y_run (p_rec (F 1) P) L' M' (z_v (z_v (f_rec F) 8 n) 10 0, X, U, V, (y_bz B 4))).2.2.2.2) ∧ L' = (y_mk (p_rec (F 1) P) 2 L 4) ∧ M' = (y_mk (p_rec (F 1) P) 3 M 4) ∧ F0 8 = n ∧ F0 9 = y_base (p_rec (F 1) P) n h ∧ F0 10 = 1 ∧ F' 1 = f_rec F 1 ∧ (∀ j, -9 ≤ L' j ∧ L' j ≤ 99) ∧ (∀ j, -9 ≤ M' j ∧ M' j ≤ 9999) ∧ (∀ j, 0 ≤ U' j ∧ U' j ≤ 9999) ∧ 0 ≤ F' 9 ∧ F' 9 ≤ 9999) ∧ (¬ (4 ≤ n ∧ n ≤ 20 ∧ 2 ≤ h ∧ h ≤ 8) → x = -1 ∧ m = (z_u (z_u (z_u (z_u (z_u (z_u (z_u (z_u mi (o + 2) X) (o + 3) L) (o + 4) M) (o + 5) U) (o + 6) V) (o + 7) B) o F) (o + 1) P)) ∧ r = mr) := by
  obtain ⟨t0, t1, t2, t3, t4, t5, t6, t7, q0, q2, q3, q4, q5, q6, q7⟩ := id hM
  obtain ⟨hw0, hw1, hh0, hh1, hf0, hf1, hf2, hr0, hr1, hc0, hc1, hp0, hp1, hk0, hk1, hi0, hi1, hkp, hP⟩ := id hH
  refine z_ofi (ls := [some (zo o), some (zi n), some (zi h), none, none, none]) rfl (fun _ _ => trivial) ⟨rfl, rfl⟩ (Nat.le_of_ble_eq_true rfl) rfl ?_
  refine z_iload_n e_X5_resize_0 rfl ?_
  refine z_iconst e_X5_resize_1 ?_
  refine z_bipush e_X5_resize_2 (by decide +kernel) ?_
  refine z_callSi (M' := M_X5_in) (As := [zi n, zi 4, zi 20]) (rest := []) e_X5_resize_4 l_RX5_47 rfl rfl rfl rfl (c_X5_in ⟨by omega, by omega⟩ ⟨by omega, by omega⟩ ⟨by omega, by omega⟩) (fun xq mq rq hq => ?_)
  obtain ⟨e1q, e2q, e3q⟩ := hq
  subst xq mq rq
  refine z_if_eqB e_X5_resize_7  (fun h7_1 => ?_) (fun h7_1 => ?_)
  · refine z_iconst e_X5_resize_20 ?_
    refine z_iret e_X5_resize_21 (Or.inl rfl) rfl rfl ⟨rfl, _, rfl, ?_⟩
    exact ⟨fun hb => absurd hb (by omega), fun _ => ⟨rfl, rfl⟩, rfl⟩
  · refine z_iload_n e_X5_resize_10 rfl ?_
    refine z_iconst e_X5_resize_11 ?_
    refine z_bipush e_X5_resize_12 (by decide +kernel) ?_
    refine z_callSi (M' := M_X5_in) (As := [zi h, zi 2, zi 8]) (rest := []) e_X5_resize_14 l_RX5_47 rfl rfl rfl rfl (c_X5_in ⟨by omega, by omega⟩ ⟨by omega, by omega⟩ ⟨by omega, by omega⟩) (fun xq mq rq hq => ?_)
    obtain ⟨e1q, e2q, e3q⟩ := hq
    subst xq mq rq
    refine z_if_neB e_X5_resize_17  (fun h17_2 => ?_) (fun h17_2 => ?_)
    · refine z_aload_n e_X5_resize_22 rfl ?_
      refine z_callVv (M' := M_X5_records) (As := []) (rest := []) e_X5_resize_23 l_RX5_96 rfl rfl rfl rfl t0 ⟨_, _, rfl⟩ (c_X5_records hM (by omega) (by omega)) (fun mq rq hq => ?_)
      obtain ⟨e2q, e3q⟩ := hq
      subst mq rq
      generalize hgP1 : (p_rec (F 1) P) = P1
      have hd1 : p_hd P1 := by rw [← hgP1]; exact p_hd_rec hH hF1
      have e1 : ∀ k, k < 719 → P1 k = P k := by intro k hk; rw [← hgP1]; exact p_rec_hd hF1 hk
      have e1_0 : P1 0 = P 0 := e1 0 (by decide)
      have e1_1 : P1 1 = P 1 := e1 1 (by decide)
      have e1_2 : P1 2 = P 2 := e1 2 (by decide)
      have e1_3 : P1 3 = P 3 := e1 3 (by decide)
      have e1_4 : P1 4 = P 4 := e1 4 (by decide)
      have e1_5 : P1 5 = P 5 := e1 5 (by decide)
      have e1_7 : P1 7 = P 7 := e1 7 (by decide)
      have e1_14 : P1 14 = P 14 := e1 14 (by decide)
      clear hw0 hw1 hh0 hh1 hf0 hf1 hf2 hr0 hr1 hc0 hc1 hp0 hp1 hk0 hk1 hi0 hi1 hkp
      obtain ⟨hw0, hw1, hh0, hh1, hf0, hf1, hf2, hr0, hr1, hc0, hc1, hp0, hp1, hk0, hk1, hi0, hi1, hkp, hP1⟩ := id hd1
      have hb2 : f_rec F 9 = F 9 := z_vn (by decide)
      refine z_aload_n e_X5_resize_26 rfl ?_
      refine z_callVv (M' := M_X5_marks) (As := []) (rest := []) e_X5_resize_27 l_RX5_214 rfl rfl rfl rfl t0 ⟨_, _, rfl⟩ (c_X5_marks hM hd1) (fun mq rq hq => ?_)
      obtain ⟨e2q, e3q⟩ := hq
      subst mq rq
      generalize hgL1 : (y_mk P1 2 L 4) = L1
      have hL1 : ∀ j, -9 ≤ L1 j ∧ L1 j ≤ 99 := by intro j; rw [← hgL1]; exact y_mk2_b hd1 hL 4 j
      generalize hgM1 : (y_mk P1 3 M 4) = M1
      have hM1 : ∀ j, -9 ≤ M1 j ∧ M1 j ≤ 9999 := by intro j; rw [← hgM1]; exact y_mk3_b hd1 hMk 4 j
      generalize hgB1 : (y_bz B 4) = B1
      refine z_aload_n e_X5_resize_30 rfl ?_
      refine z_iload_n e_X5_resize_31 rfl ?_
      refine z_callVi (M' := M_X5_rowsWith) (As := [zi n]) (rest := []) e_X5_resize_32 l_RX5_211 rfl rfl rfl rfl t0 ⟨_, _, rfl⟩ (c_X5_rowsWith hM hd1 hL1 hM1 hU (by omega) (by omega) (by omega) (by omega)) (fun xq mq rq hq => ?_)
      obtain ⟨Fw51, Uw51, Vw51, Bw51, e1q, e2q, e3q, hxb51, hFw51, hUw51, hWw51, hBw51⟩ := hq
      subst xq mq rq
      refine z_istore_n (ls' := [some (zo o), some (zi n), some (zi h), some (zi (y_many P1 n)), none, none]) e_X5_resize_35 rfl rfl rfl ?_
      have join48_2 : ∀ (top : Int), top = y_top P1 n h → z_A M_X5_resize E 0 0 48 [some (zo o), some (zi n), some (zi h), some (zi (y_many P1 n)), none, none] [zi top] (z_u (z_u (z_u (z_u (z_u (z_u (z_u (z_u mi (o + 2) X) (o + 3) L1) (o + 4) M1) (o + 5) Uw51) (o + 6) Vw51) (o + 7) Bw51) o Fw51) (o + 1) P1) mr (z_qi E (fun x m r => ((4 ≤ n ∧ n ≤ 20 ∧ 2 ≤ h ∧ h ≤ 8) → ∃ F0 U0 V0 F' X' L' M' U' V' B' : Int → Int, x = y_many P1 n ∧ m = (z_u (z_u (z_u (z_u (z_u (z_u (z_u (z_u mi (o + 2) X') (o + 3) L') (o + 4) M') (o + 5) U') (o + 6) V') (o + 7) B') o F') (o + 1) (y_land U' V' B' (y_top P1 n h) (y_pg n h (y_top P1 n h - y_base P1 n h) X' P1) (P1 7 + 1))) ∧ (F', X', U', V', B') = y_run P1 L' M' (F0, y_fr X 704, U0, V0, (y_run P1 L' M' (z_v (z_v (f_rec F) 8 n) 10 0, X, U, V, B1)).2.2.2.2) ∧ L' = L1 ∧ M' = M1 ∧ F0 8 = n ∧ F0 9 = y_base P1 n h ∧ F0 10 = 1 ∧ F' 1 = f_rec F 1 ∧ (∀ j, -9 ≤ L' j ∧ L' j ≤ 99) ∧ (∀ j, -9 ≤ M' j ∧ M' j ≤ 9999) ∧ (∀ j, 0 ≤ U' j ∧ U' j ≤ 9999) ∧ 0 ≤ F' 9 ∧ F' 9 ≤ 9999) ∧ (¬ (4 ≤ n ∧ n ≤ 20 ∧ 2 ≤ h ∧ h ≤ 8) → x = -1 ∧ m = (z_u (z_u (z_u (z_u (z_u (z_u (z_u (z_u mi (o + 2) X) (o + 3) L) (o + 4) M) (o + 5) U) (o + 6) V) (o + 7) B) o F) (o + 1) P)) ∧ r = mr)) := by
        intro top hj
        have htop := hj
        have ht2 : (top = y_many P1 n - h ∧ h < y_many P1 n) ∨ (top = 0 ∧ y_many P1 n ≤ h) := by rw [hj]; unfold y_top; split <;> omega
        refine z_istore (ls' := [some (zo o), some (zi n), some (zi h), some (zi (y_many P1 n)), some (zi top), none]) e_X5_resize_48 rfl rfl rfl ?_
        refine z_aload_n e_X5_resize_50 rfl ?_
        have join67_3 : ∀ (base : Int), base = y_base P1 n h → z_A M_X5_resize E 0 0 67 [some (zo o), some (zi n), some (zi h), some (zi (y_many P1 n)), some (zi top), none] [zi base, zo o] (z_u (z_u (z_u (z_u (z_u (z_u (z_u (z_u mi (o + 2) X) (o + 3) L1) (o + 4) M1) (o + 5) Uw51) (o + 6) Vw51) (o + 7) Bw51) o Fw51) (o + 1) P1) mr (z_qi E (fun x m r => ((4 ≤ n ∧ n ≤ 20 ∧ 2 ≤ h ∧ h ≤ 8) → ∃ F0 U0 V0 F' X' L' M' U' V' B' : Int → Int, x = y_many P1 n ∧ m = (z_u (z_u (z_u (z_u (z_u (z_u (z_u (z_u mi (o + 2) X') (o + 3) L') (o + 4) M') (o + 5) U') (o + 6) V') (o + 7) B') o F') (o + 1) (y_land U' V' B' (y_top P1 n h) (y_pg n h (y_top P1 n h - y_base P1 n h) X' P1) (P1 7 + 1))) ∧ (F', X', U', V', B') = y_run P1 L' M' (F0, y_fr X 704, U0, V0, (y_run P1 L' M' (z_v (z_v (f_rec F) 8 n) 10 0, X, U, V, B1)).2.2.2.2) ∧ L' = L1 ∧ M' = M1 ∧ F0 8 = n ∧ F0 9 = y_base P1 n h ∧ F0 10 = 1 ∧ F' 1 = f_rec F 1 ∧ (∀ j, -9 ≤ L' j ∧ L' j ≤ 99) ∧ (∀ j, -9 ≤ M' j ∧ M' j ≤ 9999) ∧ (∀ j, 0 ≤ U' j ∧ U' j ≤ 9999) ∧ 0 ≤ F' 9 ∧ F' 9 ≤ 9999) ∧ (¬ (4 ≤ n ∧ n ≤ 20 ∧ 2 ≤ h ∧ h ≤ 8) → x = -1 ∧ m = (z_u (z_u (z_u (z_u (z_u (z_u (z_u (z_u mi (o + 2) X) (o + 3) L) (o + 4) M) (o + 5) U) (o + 6) V) (o + 7) B) o F) (o + 1) P)) ∧ r = mr)) := by
          intro base hj
          have hbase := hj
          have hbs2 : (base = top - 24 ∧ 24 < top) ∨ (base = 0 ∧ top ≤ 24) := by rw [hj]; unfold y_base; rw [← htop]; split <;> omega
          refine z_putiX (fi := 9) (f := Fw51) e_X5_resize_67 f_RX5_183 t0 rfl rfl (Or.inl rfl) (((z_un (by omega)).trans (z_us _ _ _))) (z_ux (by omega) (z_uu _ _ _ _)) ?_
          refine z_iconst e_X5_resize_70 ?_
          refine z_istore (ls' := [some (zo o), some (zi n), some (zi h), some (zi (y_many P1 n)), some (zi top), some (zi 0)]) e_X5_resize_71 rfl rfl rfl ?_
          have loop73 : ∀ (nn : Nat) (k : Int) (X1 : Int → Int), (704 - k).toNat = nn → (0 ≤ k ∧ k ≤ 704 ∧ X1 = y_fr X k) → z_A M_X5_resize E 0 0 73 [some (zo o), some (zi n), some (zi h), some (zi (y_many P1 n)), some (zi top), some (zi k)] [] (z_u (z_u (z_u (z_u (z_u (z_u (z_u (z_u mi (o + 2) X1) (o + 3) L1) (o + 4) M1) (o + 5) Uw51) (o + 6) Vw51) (o + 7) Bw51) o (z_v Fw51 9 base)) (o + 1) P1) mr (z_qi E (fun x m r => ((4 ≤ n ∧ n ≤ 20 ∧ 2 ≤ h ∧ h ≤ 8) → ∃ F0 U0 V0 F' X' L' M' U' V' B' : Int → Int, x = y_many P1 n ∧ m = (z_u (z_u (z_u (z_u (z_u (z_u (z_u (z_u mi (o + 2) X') (o + 3) L') (o + 4) M') (o + 5) U') (o + 6) V') (o + 7) B') o F') (o + 1) (y_land U' V' B' (y_top P1 n h) (y_pg n h (y_top P1 n h - y_base P1 n h) X' P1) (P1 7 + 1))) ∧ (F', X', U', V', B') = y_run P1 L' M' (F0, y_fr X 704, U0, V0, (y_run P1 L' M' (z_v (z_v (f_rec F) 8 n) 10 0, X, U, V, B1)).2.2.2.2) ∧ L' = L1 ∧ M' = M1 ∧ F0 8 = n ∧ F0 9 = y_base P1 n h ∧ F0 10 = 1 ∧ F' 1 = f_rec F 1 ∧ (∀ j, -9 ≤ L' j ∧ L' j ≤ 99) ∧ (∀ j, -9 ≤ M' j ∧ M' j ≤ 9999) ∧ (∀ j, 0 ≤ U' j ∧ U' j ≤ 9999) ∧ 0 ≤ F' 9 ∧ F' 9 ≤ 9999) ∧ (¬ (4 ≤ n ∧ n ≤ 20 ∧ 2 ≤ h ∧ h ≤ 8) → x = -1 ∧ m = (z_u (z_u (z_u (z_u (z_u (z_u (z_u (z_u mi (o + 2) X) (o + 3) L) (o + 4) M) (o + 5) U) (o + 6) V) (o + 7) B) o F) (o + 1) P)) ∧ r = mr)) := by
            intro nn
            induction nn using Nat.strongRecOn with
            | _ nn ih73 =>
              intro k X1 hmeas hinv
              obtain ⟨hj0, hj1, hX1⟩ := hinv
              refine z_iload e_X5_resize_73 rfl ?_
              refine z_sipush e_X5_resize_75 (by decide +kernel) ?_
              refine z_icmp_ge e_X5_resize_78 ⟨by omega, by omega⟩ (by decide) (fun h78_5 => ?_) (fun h78_5 => ?_)
              · have hX2 : X1 = y_fr X 704 := by rw [hX1, show k = 704 by omega]
                rw [hX2]
                refine z_aload_n e_X5_resize_110 rfl ?_
                refine z_iconst e_X5_resize_111 ?_
                refine z_putiX (fi := 10) (f := (z_v Fw51 9 base)) e_X5_resize_112 f_RX5_186 t0 rfl rfl (Or.inr ⟨rfl, Or.inr rfl⟩) (((z_un (by omega)).trans (z_us _ _ _))) (z_ux (by omega) (z_uu _ _ _ _)) ?_
                have hBb : Bw51 0 = 0 ∨ Bw51 0 = 1 := by rw [hBw51]; exact y_all_b L1 M1 _ 0 _ 0 (Or.inl (by rw [← hgB1]; rfl))
                have fz10 : (z_v (z_v Fw51 9 base) 10 1) 10 = 1 := z_vs _ _ _
                have fz9 : (z_v (z_v Fw51 9 base) 10 1) 9 = base := (z_vn (by decide)).trans (z_vs _ _ _)
                have fz8 : (z_v (z_v Fw51 9 base) 10 1) 8 = n := (z_vn (by decide)).trans ((z_vn (by decide)).trans hWw51)
                have fz1 : (z_v (z_v Fw51 9 base) 10 1) 1 = f_rec F 1 := (z_vn (by decide)).trans ((z_vn (by decide)).trans (hFw51 1 (by decide) (by decide) (by decide) (by decide)))
                have hrc : (y_run P1 L1 M1 (z_v (z_v Fw51 9 base) 10 1, y_fr X 704, Uw51, Vw51, Bw51)).1 11 = y_many P1 n := (y_run_rc P1 L1 M1 (z_v (z_v Fw51 9 base) 10 1, y_fr X 704, Uw51, Vw51, Bw51)).trans (congrArg (y_many P1) fz8)
                refine z_aload_n e_X5_resize_115 rfl ?_
                refine z_callVi (M' := M_X5_poursAll) (As := []) (rest := []) e_X5_resize_116 l_RX5_208 rfl rfl rfl rfl t0 ⟨_, _, rfl⟩ (c_X5_poursAll hM hd1 hL1 hM1 (Or.inr fz10) (by omega) (by omega) (by omega) (by omega) (fun _ => by rw [hrc]; omega)) (fun xq mq rq hq => ?_)
                obtain ⟨e1q, e2q, e3q, hxb⟩ := hq
                subst mq rq
                clear e1q
                revert hrc
                generalize hG : (y_run P1 L1 M1 ((z_v (z_v Fw51 9 base) 10 1), (y_fr X 704), Uw51, Vw51, Bw51)) = G
                intro hrc
                have g1 : G.1 1 = f_rec F 1 := by rw [← hG]; exact (y_run_c P1 L1 M1 _ (by decide) (by decide)).trans fz1
                have g9 : G.1 9 = base := by rw [← hG]; exact (y_run_c P1 L1 M1 _ (by decide) (by decide)).trans fz9
                have hB0 : G.2.2.2.2 0 = 0 ∨ G.2.2.2.2 0 = 1 := by rw [← hG]; exact y_all_b L1 M1 _ 0 _ 0 hBb
                have hU2 : ∀ j, 0 ≤ G.2.2.1 j ∧ G.2.2.1 j ≤ 9999 := by
                  intro j
                  have hu := y_run_u P1 L1 M1 ((z_v (z_v Fw51 9 base) 10 1), (y_fr X 704), Uw51, Vw51, Bw51) j
                  rw [hG] at hu
                  have hu2 := hUw51 j
                  have hu3 : (((z_v (z_v Fw51 9 base) 10 1), (y_fr X 704), Uw51, Vw51, Bw51) : y_S).2.2.1 j = Uw51 j := rfl
                  omega
                refine z_pop e_X5_resize_119 rfl ?_
                refine z_aload_n e_X5_resize_120 rfl ?_
                refine z_getr (fi := 0) (r := some (o + 1)) e_X5_resize_121 f_RX5_7 t0 rfl rfl (q0) ?_
                refine z_iconst e_X5_resize_124 ?_
                refine z_iload_n e_X5_resize_125 rfl ?_
                refine z_iastU e_X5_resize_126 t1 (by decide) (by decide) (by decide) ?_
                refine z_aload_n e_X5_resize_127 rfl ?_
                refine z_getr (fi := 0) (r := some (o + 1)) e_X5_resize_128 f_RX5_7 t0 rfl rfl (q0) ?_
                refine z_iconst e_X5_resize_131 ?_
                refine z_iload_n e_X5_resize_132 rfl ?_
                refine z_iastU e_X5_resize_133 t1 (by decide) (by decide) (by decide) ?_
                refine z_aload_n e_X5_resize_134 rfl ?_
                refine z_getr (fi := 0) (r := some (o + 1)) e_X5_resize_135 f_RX5_7 t0 rfl rfl (q0) ?_
                refine z_iconst e_X5_resize_138 ?_
                refine z_iconst e_X5_resize_139 ?_
                refine z_iastU e_X5_resize_140 t1 (by decide) (by decide) (by decide) ?_
                refine z_aload_n e_X5_resize_141 rfl ?_
                refine z_getr (fi := 0) (r := some (o + 1)) e_X5_resize_142 f_RX5_7 t0 rfl rfl (q0) ?_
                refine z_iconst e_X5_resize_145 ?_
                refine z_iload_n e_X5_resize_146 rfl ?_
                refine z_iconst e_X5_resize_147 ?_
                refine z_isub e_X5_resize_148 ?_
                refine z_iastU e_X5_resize_149 t1 (by decide) (by decide) (by decide) ?_
                refine z_aload_n e_X5_resize_150 rfl ?_
                refine z_getr (fi := 0) (r := some (o + 1)) e_X5_resize_151 f_RX5_7 t0 rfl rfl (q0) ?_
                refine z_bipush e_X5_resize_154 (by decide +kernel) ?_
                refine z_iload e_X5_resize_156 rfl ?_
                refine z_aload_n e_X5_resize_158 rfl ?_
                refine z_geti (fi := 9) (x := base) e_X5_resize_159 f_RX5_183 t0 rfl rfl ((congrFun (((z_un (by omega)).trans (z_us _ _ _))) _).trans g9) ?_
                refine z_isub e_X5_resize_162 ?_
                refine z_iastU e_X5_resize_163 t1 (by decide) (by decide) (by decide) ?_
                refine z_iconst e_X5_resize_164 ?_
                refine z_istore (ls' := [some (zo o), some (zi n), some (zi h), some (zi (y_many P1 n)), some (zi top), some (zi 0)]) e_X5_resize_165 rfl rfl rfl ?_
                have hm0 : 0 ≤ top - base ∧ top - base ≤ 24 := by omega
                have loop167 : ∀ (nn : Nat) (k : Int) (P2 : Int → Int), (24 - k).toNat = nn → (0 ≤ k ∧ k ≤ 24 ∧ P2 = y_tk G.2.1 0 0 (top - base) (z_v (z_v (z_v (z_v (z_v P1 0 n) 1 h) 2 0) 3 (h - 1)) 14 (top - base)) k) → z_A M_X5_resize E 0 0 167 [some (zo o), some (zi n), some (zi h), some (zi (y_many P1 n)), some (zi top), some (zi k)] [] (z_u (z_u (z_u (z_u (z_u (z_u (z_u (z_u mi (o + 2) G.2.1) (o + 3) L1) (o + 4) M1) (o + 5) G.2.2.1) (o + 6) G.2.2.2.1) (o + 7) G.2.2.2.2) o G.1) (o + 1) P2) mr (z_qi E (fun x m r => ((4 ≤ n ∧ n ≤ 20 ∧ 2 ≤ h ∧ h ≤ 8) → ∃ F0 U0 V0 F' X' L' M' U' V' B' : Int → Int, x = y_many P1 n ∧ m = (z_u (z_u (z_u (z_u (z_u (z_u (z_u (z_u mi (o + 2) X') (o + 3) L') (o + 4) M') (o + 5) U') (o + 6) V') (o + 7) B') o F') (o + 1) (y_land U' V' B' (y_top P1 n h) (y_pg n h (y_top P1 n h - y_base P1 n h) X' P1) (P1 7 + 1))) ∧ (F', X', U', V', B') = y_run P1 L' M' (F0, y_fr X 704, U0, V0, (y_run P1 L' M' (z_v (z_v (f_rec F) 8 n) 10 0, X, U, V, B1)).2.2.2.2) ∧ L' = L1 ∧ M' = M1 ∧ F0 8 = n ∧ F0 9 = y_base P1 n h ∧ F0 10 = 1 ∧ F' 1 = f_rec F 1 ∧ (∀ j, -9 ≤ L' j ∧ L' j ≤ 99) ∧ (∀ j, -9 ≤ M' j ∧ M' j ≤ 9999) ∧ (∀ j, 0 ≤ U' j ∧ U' j ≤ 9999) ∧ 0 ≤ F' 9 ∧ F' 9 ≤ 9999) ∧ (¬ (4 ≤ n ∧ n ≤ 20 ∧ 2 ≤ h ∧ h ≤ 8) → x = -1 ∧ m = (z_u (z_u (z_u (z_u (z_u (z_u (z_u (z_u mi (o + 2) X) (o + 3) L) (o + 4) M) (o + 5) U) (o + 6) V) (o + 7) B) o F) (o + 1) P)) ∧ r = mr)) := by
                  intro nn
                  induction nn using Nat.strongRecOn with
                  | _ nn ih167 =>
                    intro k P2 hmeas hinv
                    obtain ⟨hj0, hj1, hP2⟩ := hinv
                    refine z_iload e_X5_resize_167 rfl ?_
                    refine z_bipush e_X5_resize_169 (by decide +kernel) ?_
                    refine z_icmp_ge e_X5_resize_171 ⟨by omega, by omega⟩ (by decide) (fun h171_6 => ?_) (fun h171_6 => ?_)
                    · refine z_iconst e_X5_resize_206 ?_
                      refine z_istore (ls' := [some (zo o), some (zi n), some (zi h), some (zi (y_many P1 n)), some (zi top), some (zi 0)]) e_X5_resize_207 rfl rfl rfl ?_
                      have hP3 : P2 = y_tk G.2.1 0 0 (top - base) (z_v (z_v (z_v (z_v (z_v P1 0 n) 1 h) 2 0) 3 (h - 1)) 14 (top - base)) 24 := by rw [hP2, show k = 24 by omega]
                      have loop209 : ∀ (nn : Nat) (q : Int) (P3 : Int → Int), (8 - q).toNat = nn → (0 ≤ q ∧ q ≤ 8 ∧ P3 = y_tk G.2.1 24 (top - base) h P2 q) → z_A M_X5_resize E 0 0 209 [some (zo o), some (zi n), some (zi h), some (zi (y_many P1 n)), some (zi top), some (zi q)] [] (z_u (z_u (z_u (z_u (z_u (z_u (z_u (z_u mi (o + 2) G.2.1) (o + 3) L1) (o + 4) M1) (o + 5) G.2.2.1) (o + 6) G.2.2.2.1) (o + 7) G.2.2.2.2) o G.1) (o + 1) P3) mr (z_qi E (fun x m r => ((4 ≤ n ∧ n ≤ 20 ∧ 2 ≤ h ∧ h ≤ 8) → ∃ F0 U0 V0 F' X' L' M' U' V' B' : Int → Int, x = y_many P1 n ∧ m = (z_u (z_u (z_u (z_u (z_u (z_u (z_u (z_u mi (o + 2) X') (o + 3) L') (o + 4) M') (o + 5) U') (o + 6) V') (o + 7) B') o F') (o + 1) (y_land U' V' B' (y_top P1 n h) (y_pg n h (y_top P1 n h - y_base P1 n h) X' P1) (P1 7 + 1))) ∧ (F', X', U', V', B') = y_run P1 L' M' (F0, y_fr X 704, U0, V0, (y_run P1 L' M' (z_v (z_v (f_rec F) 8 n) 10 0, X, U, V, B1)).2.2.2.2) ∧ L' = L1 ∧ M' = M1 ∧ F0 8 = n ∧ F0 9 = y_base P1 n h ∧ F0 10 = 1 ∧ F' 1 = f_rec F 1 ∧ (∀ j, -9 ≤ L' j ∧ L' j ≤ 99) ∧ (∀ j, -9 ≤ M' j ∧ M' j ≤ 9999) ∧ (∀ j, 0 ≤ U' j ∧ U' j ≤ 9999) ∧ 0 ≤ F' 9 ∧ F' 9 ≤ 9999) ∧ (¬ (4 ≤ n ∧ n ≤ 20 ∧ 2 ≤ h ∧ h ≤ 8) → x = -1 ∧ m = (z_u (z_u (z_u (z_u (z_u (z_u (z_u (z_u mi (o + 2) X) (o + 3) L) (o + 4) M) (o + 5) U) (o + 6) V) (o + 7) B) o F) (o + 1) P)) ∧ r = mr)) := by
                        intro nn
                        induction nn using Nat.strongRecOn with
                        | _ nn ih209 =>
                          intro q P3 hmeas hinv
                          obtain ⟨hq0, hq1, hP4⟩ := hinv
                          refine z_iload e_X5_resize_209 rfl ?_
                          refine z_bipush e_X5_resize_211 (by decide +kernel) ?_
                          refine z_icmp_ge e_X5_resize_213 ⟨by omega, by omega⟩ (by decide) (fun h213_7 => ?_) (fun h213_7 => ?_)
                          · have hP5 : P3 = y_pg n h (top - base) G.2.1 P1 := by rw [hP4, hP3, show q = 8 by omega]; rfl
                            have e77 : P3 7 = P1 7 := by rw [hP5]; unfold y_pg; rw [y_tk_k (by omega) (by omega), y_tk_k (by omega) (by omega), z_vn (by decide), z_vn (by decide), z_vn (by decide), z_vn (by decide), z_vn (by decide)]
                            refine z_aload_n e_X5_resize_256 rfl ?_
                            refine z_iload e_X5_resize_257 rfl ?_
                            refine z_callVv (M' := M_X5_lands) (As := [zi top]) (rest := []) e_X5_resize_259 l_RX5_220 rfl rfl rfl rfl t0 ⟨_, _, rfl⟩ (c_X5_lands hM hU2 (by omega) (by omega) hB0 (by omega) (by omega)) (fun mq rq hq => ?_)
                            obtain ⟨e2q, e3q⟩ := hq
                            subst mq rq
                            refine z_iload_n e_X5_resize_262 rfl ?_
                            refine z_iret e_X5_resize_263 (Or.inl rfl) rfl rfl ⟨rfl, _, rfl, ?_⟩
                            refine ⟨fun hb => ?_, fun hb => absurd (by omega) hb, rfl⟩
                            rw [← htop, ← hbase]
                            refine ⟨z_v (z_v Fw51 9 base) 10 1, Uw51, Vw51, G.1, G.2.1, L1, M1, G.2.2.1, G.2.2.2.1, G.2.2.2.2, rfl, ?_, ?_, rfl, rfl, fz8, fz9, fz10, g1, hL1, hM1, hU2, by omega, by omega⟩
                            · rw [← hP5, ← e77]
                            · rw [← hBw51, hG]
                          · refine z_aload_n e_X5_resize_216 rfl ?_
                            refine z_bipush e_X5_resize_217 (by decide +kernel) ?_
                            refine z_iload e_X5_resize_219 rfl ?_
                            refine z_iadd e_X5_resize_221 ?_
                            refine z_callVv (M' := M_X5_blanks) (As := [zi (24 + q)]) (rest := []) e_X5_resize_222 l_RX5_32 rfl rfl rfl rfl t0 ⟨_, _, rfl⟩ (c_X5_blanks hM (by omega) (by omega)) (fun mq rq hq => ?_)
                            obtain ⟨e2q, e3q⟩ := hq
                            subst mq rq
                            refine z_iload e_X5_resize_225 rfl ?_
                            refine z_iload_n e_X5_resize_227 rfl ?_
                            refine z_icmp_ge e_X5_resize_228 ⟨by omega, by omega⟩ ⟨by omega, by omega⟩ (fun h228_8 => ?_) (fun h228_8 => ?_)
                            · refine z_iinc (y := (q + 1)) (ls' := [some (zo o), some (zi n), some (zi h), some (zi (y_many P1 n)), some (zi top), some (zi (q + 1))]) e_X5_resize_250 rfl rfl rfl rfl rfl ?_
                              refine z_goto e_X5_resize_253 ?_
                              exact ih209 _ (by omega) (q + 1) (p_upd P3 (24 + q) r_blank) rfl (⟨by omega, by omega, y_tk_a (by omega) hP4 (by omega)⟩)
                            · refine z_aload_n e_X5_resize_231 rfl ?_
                              refine z_iload e_X5_resize_232 rfl ?_
                              refine z_aload_n e_X5_resize_234 rfl ?_
                              refine z_geti (fi := 9) (x := base) e_X5_resize_235 f_RX5_183 t0 rfl rfl ((congrFun (((z_un (by omega)).trans (z_us _ _ _))) _).trans g9) ?_
                              refine z_isub e_X5_resize_238 ?_
                              refine z_iload e_X5_resize_239 rfl ?_
                              refine z_iadd e_X5_resize_241 ?_
                              refine z_bipush e_X5_resize_242 (by decide +kernel) ?_
                              refine z_iload e_X5_resize_244 rfl ?_
                              refine z_iadd e_X5_resize_246 ?_
                              refine z_callVv (M' := M_X5_takes) (As := [zi ((top - base) + q), zi (24 + q)]) (rest := []) e_X5_resize_247 l_RX5_217 rfl rfl rfl rfl t0 ⟨_, _, rfl⟩ (c_X5_takes hM (by omega) (by omega) (by omega) (by omega)) (fun mq rq hq => ?_)
                              obtain ⟨e2q, e3q⟩ := hq
                              subst mq rq
                              refine z_iinc (y := (q + 1)) (ls' := [some (zo o), some (zi n), some (zi h), some (zi (y_many P1 n)), some (zi top), some (zi (q + 1))]) e_X5_resize_250 rfl rfl rfl rfl rfl ?_
                              refine z_goto e_X5_resize_253 ?_
                              exact ih209 _ (by omega) (q + 1) (p_upd (p_upd P3 (24 + q) r_blank) (24 + q) (fun c => G.2.1 (22 * ((top - base) + q) + c))) rfl (⟨by omega, by omega, y_tk_b (by omega) hP4 (by omega)⟩)
                      exact loop209 _ 0 P2 rfl (⟨by omega, by omega, (y_tk_0 _ _ _ _ _).symm⟩)
                    · refine z_aload_n e_X5_resize_174 rfl ?_
                      refine z_iload e_X5_resize_175 rfl ?_
                      refine z_callVv (M' := M_X5_blanks) (As := [zi k]) (rest := []) e_X5_resize_177 l_RX5_32 rfl rfl rfl rfl t0 ⟨_, _, rfl⟩ (c_X5_blanks hM (by omega) (by omega)) (fun mq rq hq => ?_)
                      obtain ⟨e2q, e3q⟩ := hq
                      subst mq rq
                      refine z_iload e_X5_resize_180 rfl ?_
                      refine z_iload e_X5_resize_182 rfl ?_
                      refine z_aload_n e_X5_resize_184 rfl ?_
                      refine z_geti (fi := 9) (x := base) e_X5_resize_185 f_RX5_183 t0 rfl rfl ((congrFun (((z_un (by omega)).trans (z_us _ _ _))) _).trans g9) ?_
                      refine z_isub e_X5_resize_188 ?_
                      refine z_icmp_ge e_X5_resize_189 ⟨by omega, by omega⟩ ⟨by omega, by omega⟩ (fun h189_9 => ?_) (fun h189_9 => ?_)
                      · refine z_iinc (y := (k + 1)) (ls' := [some (zo o), some (zi n), some (zi h), some (zi (y_many P1 n)), some (zi top), some (zi (k + 1))]) e_X5_resize_200 rfl rfl rfl rfl rfl ?_
                        refine z_goto e_X5_resize_203 ?_
                        exact ih167 _ (by omega) (k + 1) (p_upd P2 k r_blank) rfl (⟨by omega, by omega, by have ht := y_tk_a (by omega) hP2 (by omega); rw [Int.zero_add] at ht; exact ht⟩)
                      · refine z_aload_n e_X5_resize_192 rfl ?_
                        refine z_iload e_X5_resize_193 rfl ?_
                        refine z_iload e_X5_resize_195 rfl ?_
                        refine z_callVv (M' := M_X5_takes) (As := [zi k, zi k]) (rest := []) e_X5_resize_197 l_RX5_217 rfl rfl rfl rfl t0 ⟨_, _, rfl⟩ (c_X5_takes hM (by omega) (by omega) (by omega) (by omega)) (fun mq rq hq => ?_)
                        obtain ⟨e2q, e3q⟩ := hq
                        subst mq rq
                        refine z_iinc (y := (k + 1)) (ls' := [some (zo o), some (zi n), some (zi h), some (zi (y_many P1 n)), some (zi top), some (zi (k + 1))]) e_X5_resize_200 rfl rfl rfl rfl rfl ?_
                        refine z_goto e_X5_resize_203 ?_
                        exact ih167 _ (by omega) (k + 1) (p_upd (p_upd P2 k r_blank) k (fun c => G.2.1 (22 * k + c))) rfl (⟨by omega, by omega, by have ht := y_tk_b (by omega) hP2 (by omega); rw [Int.zero_add] at ht; exact ht⟩)
                exact loop167 _ 0 (z_v (z_v (z_v (z_v (z_v P1 0 n) 1 h) 2 0) 3 (h - 1)) 14 (top - base)) rfl (⟨by omega, by omega, (y_tk_0 _ _ _ _ _).symm⟩)
              · refine z_aload_n e_X5_resize_81 rfl ?_
                refine z_getr (fi := 2) (r := some (o + 2)) e_X5_resize_82 f_RX5_13 t0 rfl rfl (q2) ?_
                refine z_iload e_X5_resize_85 rfl ?_
                have join103_9 : ∀ (w : Int), w = (if k % 22 < 20 then 32 else 0) → z_A M_X5_resize E 0 0 103 [some (zo o), some (zi n), some (zi h), some (zi (y_many P1 n)), some (zi top), some (zi k)] [zi w, zi k, zo (o + 2)] (z_u (z_u (z_u (z_u (z_u (z_u (z_u (z_u mi (o + 2) X1) (o + 3) L1) (o + 4) M1) (o + 5) Uw51) (o + 6) Vw51) (o + 7) Bw51) o (z_v Fw51 9 base)) (o + 1) P1) mr (z_qi E (fun x m r => ((4 ≤ n ∧ n ≤ 20 ∧ 2 ≤ h ∧ h ≤ 8) → ∃ F0 U0 V0 F' X' L' M' U' V' B' : Int → Int, x = y_many P1 n ∧ m = (z_u (z_u (z_u (z_u (z_u (z_u (z_u (z_u mi (o + 2) X') (o + 3) L') (o + 4) M') (o + 5) U') (o + 6) V') (o + 7) B') o F') (o + 1) (y_land U' V' B' (y_top P1 n h) (y_pg n h (y_top P1 n h - y_base P1 n h) X' P1) (P1 7 + 1))) ∧ (F', X', U', V', B') = y_run P1 L' M' (F0, y_fr X 704, U0, V0, (y_run P1 L' M' (z_v (z_v (f_rec F) 8 n) 10 0, X, U, V, B1)).2.2.2.2) ∧ L' = L1 ∧ M' = M1 ∧ F0 8 = n ∧ F0 9 = y_base P1 n h ∧ F0 10 = 1 ∧ F' 1 = f_rec F 1 ∧ (∀ j, -9 ≤ L' j ∧ L' j ≤ 99) ∧ (∀ j, -9 ≤ M' j ∧ M' j ≤ 9999) ∧ (∀ j, 0 ≤ U' j ∧ U' j ≤ 9999) ∧ 0 ≤ F' 9 ∧ F' 9 ≤ 9999) ∧ (¬ (4 ≤ n ∧ n ≤ 20 ∧ 2 ≤ h ∧ h ≤ 8) → x = -1 ∧ m = (z_u (z_u (z_u (z_u (z_u (z_u (z_u (z_u mi (o + 2) X) (o + 3) L) (o + 4) M) (o + 5) U) (o + 6) V) (o + 7) B) o F) (o + 1) P)) ∧ r = mr)) := by
                  intro w hj
                  have hw := hj
                  refine z_iastX (f := X1) e_X5_resize_103 t2 (by decide) (by omega) (by omega) (((z_un (by omega)).trans (((z_un (by omega)).trans (((z_un (by omega)).trans (((z_un (by omega)).trans (((z_un (by omega)).trans (((z_un (by omega)).trans (((z_un (by omega)).trans (z_us _ _ _))))))))))))))) (z_ux (by omega) (z_ux (by omega) (z_ux (by omega) (z_ux (by omega) (z_ux (by omega) (z_ux (by omega) (z_ux (by omega) (z_uu _ _ _ _)))))))) ?_
                  refine z_iinc (y := (k + 1)) (ls' := [some (zo o), some (zi n), some (zi h), some (zi (y_many P1 n)), some (zi top), some (zi (k + 1))]) e_X5_resize_104 rfl rfl rfl rfl rfl ?_
                  refine z_goto e_X5_resize_107 ?_
                  exact ih73 _ (by omega) (k + 1) (z_v X1 k w) rfl (⟨by omega, by omega, y_fr_s (by omega) hX1 hw⟩)
                refine z_iload e_X5_resize_87 rfl ?_
                refine z_bipush e_X5_resize_89 (by decide +kernel) ?_
                refine z_irem e_X5_resize_91 (by omega) (by omega) ⟨by omega, by omega⟩ (by decide) ?_
                refine z_bipush e_X5_resize_92 (by decide +kernel) ?_
                refine z_icmp_ge e_X5_resize_94 ⟨by omega, by omega⟩ (by decide) (fun h94_11 => ?_) (fun h94_11 => ?_)
                · refine z_iconst e_X5_resize_102 ?_
                  exact join103_9 0 ((if_neg (by omega)).symm)
                · refine z_bipush e_X5_resize_97 (by decide +kernel) ?_
                  refine z_goto e_X5_resize_99 ?_
                  exact join103_9 32 ((if_pos (by omega)).symm)
          exact loop73 _ 0 X rfl (⟨by omega, by omega, (y_fr_0 X).symm⟩)
        refine z_iload e_X5_resize_51 rfl ?_
        refine z_bipush e_X5_resize_53 (by decide +kernel) ?_
        refine z_icmp_le e_X5_resize_55 ⟨by omega, by omega⟩ (by decide) (fun h55_12 => ?_) (fun h55_12 => ?_)
        · refine z_iconst e_X5_resize_66 ?_
          exact join67_3 0 (by unfold y_base; rw [← htop]; exact (if_neg (by omega)).symm)
        · refine z_iload e_X5_resize_58 rfl ?_
          refine z_bipush e_X5_resize_60 (by decide +kernel) ?_
          refine z_isub e_X5_resize_62 ?_
          refine z_goto e_X5_resize_63 ?_
          exact join67_3 (top - 24) (by unfold y_base; rw [← htop]; exact (if_pos (by omega)).symm)
      refine z_iload_n e_X5_resize_36 rfl ?_
      refine z_iload_n e_X5_resize_37 rfl ?_
      refine z_icmp_le e_X5_resize_38 ⟨by omega, by omega⟩ ⟨by omega, by omega⟩ (fun h38_13 => ?_) (fun h38_13 => ?_)
      · refine z_iconst e_X5_resize_47 ?_
        exact join48_2 0 ((if_neg (by omega)).symm)
      · refine z_iload_n e_X5_resize_41 rfl ?_
        refine z_iload_n e_X5_resize_42 rfl ?_
        refine z_isub e_X5_resize_43 ?_
        refine z_goto e_X5_resize_44 ?_
        exact join48_2 ((y_many P1 n) - h) ((if_pos (by omega)).symm)
    · refine z_iconst e_X5_resize_20 ?_
      refine z_iret e_X5_resize_21 (Or.inl rfl) rfl rfl ⟨rfl, _, rfl, ?_⟩
      exact ⟨fun hb => absurd hb (by omega), fun _ => ⟨rfl, rfl⟩, rfl⟩
