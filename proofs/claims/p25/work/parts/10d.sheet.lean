set_option maxHeartbeats 1000000 in
set_option maxRecDepth 100000 in
theorem e_X3_eraseInRow {E : z_E} {mi : z_Mi} {mr : z_Mr} {s : Nat} {sg : Int → Nat} {P : Int → Int} {kind : Int} (hc : z_Sc E mr s) (hd : z_Sd mi s P) (hr : z_Sr E mi mr s sg (P 0) (P 14 + P 1) (p_rows P)) (hH : p_hd P) (h0 : 0 ≤ kind) (h1 : kind ≤ 2) : z_mv M_X3_eraseInRow E [zo s, zi kind] mi mr (fun m r => z_T E s mi mr (p_erases P (P 4) (if kind = 0 then P 5 else 0) (if kind = 1 then P 5 else P 0 - 1)) m r) := by
  obtain ⟨t0, t1, t2, t3, t4, q0, q1, q2⟩ := id hc
  obtain ⟨d3, d4, d5, d6, d7, d8, u0, u1, u2, uk, uz⟩ := id hd
  obtain ⟨hw0, hw1, hh0, hh1, hf0, hf1, hf2, hr0, hr1, hc0, hc1, hp0, hp1, hk0, hk1, hi0, hi1, hkp, hP⟩ := id hH
  have hn : P 14 + P 1 ≤ 32 := by omega
  refine z_ofv (ls := [some (zo s), some (zi kind), none, none]) rfl (fun _ _ => trivial) ⟨rfl, rfl⟩ (Nat.le_of_ble_eq_true rfl) rfl ?_
  have join15_0 : ∀ (a : Int), a = (if kind = 0 then P 5 else 0) → z_A M_X3_eraseInRow E 0 0 15 [some (zo s), some (zi kind), none, none] [zi a] mi mr (z_qv E (fun m r => z_T E s mi mr (p_erases P (P 4) (if kind = 0 then P 5 else 0) (if kind = 1 then P 5 else P 0 - 1)) m r)) := by
    intro a hj
    have ea := hj
    have hab : 0 ≤ a ∧ a ≤ P 5 := by rw [ea]; split <;> omega
    refine z_istore_n (ls' := [some (zo s), some (zi kind), some (zi a), none]) e_X3_eraseInRow_15 rfl rfl rfl ?_
    have join37_1 : ∀ (b : Int), b = (if kind = 1 then P 5 else P 0 - 1) → z_A M_X3_eraseInRow E 0 0 37 [some (zo s), some (zi kind), some (zi a), none] [zi b] mi mr (z_qv E (fun m r => z_T E s mi mr (p_erases P (P 4) (if kind = 0 then P 5 else 0) (if kind = 1 then P 5 else P 0 - 1)) m r)) := by
      intro b hj
      have eb := hj
      have hbb : P 5 ≤ b ∧ b < P 0 := by rw [eb]; split <;> omega
      refine z_istore_n (ls' := [some (zo s), some (zi kind), some (zi a), some (zi b)]) e_X3_eraseInRow_37 rfl rfl rfl ?_
      refine z_aload_n e_X3_eraseInRow_38 rfl ?_
      refine z_aload_n e_X3_eraseInRow_39 rfl ?_
      refine z_getr (fi := 1) (r := some (s + 2)) e_X3_eraseInRow_40 f_RX3_20 t0 rfl rfl (q1) ?_
      refine z_geti (fi := 0) (x := (P 4)) e_X3_eraseInRow_43 f_RX3_66 t2 rfl rfl (u0) ?_
      refine z_callVr (M' := M_X3_screenRow) (As := [zi (P 4)]) (rest := []) e_X3_eraseInRow_46 l_RX3_76 rfl rfl rfl rfl t0 ⟨_, _, rfl⟩ (d_X3_screenRow hc hd hr hH (by omega) (by omega)) (fun xq mq rq hq => ?_)
      obtain ⟨e1q, e2q, e3q⟩ := hq
      subst xq mq rq
      refine z_iload_n e_X3_eraseInRow_49 rfl ?_
      refine z_iload_n e_X3_eraseInRow_50 rfl ?_
      refine z_aload_n e_X3_eraseInRow_51 rfl ?_
      refine z_geti (fi := 5) (x := (P 0)) e_X3_eraseInRow_52 f_RX3_35 t0 rfl rfl (d5) ?_
      refine z_callVv (M' := M_X2_erase) (As := [zi a, zi b, zi (P 0)]) (rest := []) e_X3_eraseInRow_55 l_RX3_121 rfl rfl rfl rfl (hr.1 (P 14 + (P 4)) (by omega) (by omega)).2.1.1 ⟨_, _, rfl⟩ (e_X2_erase hc hd hr hH (by omega) (by omega) (by omega) (by omega) (by omega)) (fun m1 r1 hq => ?_)
      obtain ⟨sg, hc, hd, hr, fr1⟩ := hq
      have hH : p_hd (p_erases P (P 4) a b) := p_hd_erases hH (by omega)
      generalize hP1 : p_erases P (P 4) a b = P1 at hd hr hH
      obtain ⟨t0, t1, t2, t3, t4, q0, q1, q2⟩ := id hc
      obtain ⟨d3, d4, d5, d6, d7, d8, u0, u1, u2, uk, uz⟩ := id hd
      obtain ⟨hw0, hw1, hh0, hh1, hf0, hf1, hf2, hr0, hr1, hc0, hc1, hp0, hp1, hk0, hk1, hi0, hi1, hkp, hP⟩ := id hH
      have hn : P1 14 + P1 1 ≤ 32 := by omega
      refine z_ret e_X3_eraseInRow_58 rfl rfl rfl ⟨rfl, rfl, ?_⟩
      rw [← ea, ← eb, hP1]
      exact ⟨sg, hc, hd, hr, fr1⟩
    refine z_iload_n e_X3_eraseInRow_16 rfl ?_
    refine z_iconst e_X3_eraseInRow_17 ?_
    refine z_icmp_ne e_X3_eraseInRow_18 ⟨by omega, by omega⟩ (by decide) (fun h18_3 => ?_) (fun h18_3 => ?_)
    · refine z_aload_n e_X3_eraseInRow_31 rfl ?_
      refine z_geti (fi := 5) (x := (P 0)) e_X3_eraseInRow_32 f_RX3_35 t0 rfl rfl (d5) ?_
      refine z_iconst e_X3_eraseInRow_35 ?_
      refine z_isub e_X3_eraseInRow_36 ?_
      exact join37_1 ((P 0) - 1) ((if_neg (by omega)).symm)
    · refine z_aload_n e_X3_eraseInRow_21 rfl ?_
      refine z_getr (fi := 1) (r := some (s + 2)) e_X3_eraseInRow_22 f_RX3_20 t0 rfl rfl (q1) ?_
      refine z_geti (fi := 1) (x := (P 5)) e_X3_eraseInRow_25 f_RX3_69 t2 rfl rfl (u1) ?_
      refine z_goto e_X3_eraseInRow_28 ?_
      exact join37_1 (P 5) ((if_pos (by omega)).symm)
  refine z_iload_n e_X3_eraseInRow_0 rfl ?_
  refine z_if_ne e_X3_eraseInRow_1 ⟨by omega, by omega⟩ (fun h1_4 => ?_) (fun h1_4 => ?_)
  · refine z_iconst e_X3_eraseInRow_14 ?_
    exact join15_0 0 ((if_neg (by omega)).symm)
  · refine z_aload_n e_X3_eraseInRow_4 rfl ?_
    refine z_getr (fi := 1) (r := some (s + 2)) e_X3_eraseInRow_5 f_RX3_20 t0 rfl rfl (q1) ?_
    refine z_geti (fi := 1) (x := (P 5)) e_X3_eraseInRow_8 f_RX3_69 t2 rfl rfl (u1) ?_
    refine z_goto e_X3_eraseInRow_11 ?_
    exact join15_0 (P 5) ((if_pos (by omega)).symm)
set_option maxHeartbeats 1000000 in
set_option maxRecDepth 100000 in
theorem e_X3_eraseRows {E : z_E} {mi : z_Mi} {mr : z_Mr} {s : Nat} {sg : Int → Nat} {P : Int → Int} {a b : Int} (hc : z_Sc E mr s) (hd : z_Sd mi s P) (hr : z_Sr E mi mr s sg (P 0) (P 14 + P 1) (p_rows P)) (hH : p_hd P) (h0 : 0 ≤ a) (h00 : a ≤ 99) (h1 : b < P 1) (h11 : -1 ≤ b) : z_mv M_X3_eraseRows E [zo s, zi a, zi b] mi mr (fun m r => z_T E s mi mr (p_ers P a (b + 1)) m r) := by
  obtain ⟨t0, t1, t2, t3, t4, q0, q1, q2⟩ := id hc
  obtain ⟨d3, d4, d5, d6, d7, d8, u0, u1, u2, uk, uz⟩ := id hd
  obtain ⟨hw0, hw1, hh0, hh1, hf0, hf1, hf2, hr0, hr1, hc0, hc1, hp0, hp1, hk0, hk1, hi0, hi1, hkp, hP⟩ := id hH
  have hn : P 14 + P 1 ≤ 32 := by omega
  have hH0 := hH
  refine z_ofv (ls := [some (zo s), some (zi a), some (zi b), none]) rfl (fun _ _ => trivial) ⟨rfl, rfl⟩ (Nat.le_of_ble_eq_true rfl) rfl ?_
  refine z_iload_n e_X3_eraseRows_0 rfl ?_
  refine z_istore_n (ls' := [some (zo s), some (zi a), some (zi b), some (zi a)]) e_X3_eraseRows_1 rfl rfl rfl ?_
  have loop2 : ∀ (nn : Nat) (k : Int) (ml : z_Mi) (rl : z_Mr), (b + 1 - k).toNat = nn → (a ≤ k ∧ (k ≤ b + 1 ∨ k = a) ∧ z_T E s mi mr (p_ers P a k) ml rl) → z_A M_X3_eraseRows E 0 0 2 [some (zo s), some (zi a), some (zi b), some (zi k)] [] ml rl (z_qv E (fun m r => z_T E s mi mr (p_ers P a (b + 1)) m r)) := by
    intro nn
    induction nn using Nat.strongRecOn with
    | _ nn ih2 =>
      intro k ml rl hmeas hinv
      obtain ⟨ia0, ia1, hT⟩ := hinv
      obtain ⟨sg, hc, hd, hr, frl⟩ := hT
      have gl_0 : (p_ers P a k) 0 = P 0 := (p_hd_ers hH0 h0).2 0 (by decide)
      have gl_1 : (p_ers P a k) 1 = P 1 := (p_hd_ers hH0 h0).2 1 (by decide)
      have gl_2 : (p_ers P a k) 2 = P 2 := (p_hd_ers hH0 h0).2 2 (by decide)
      have gl_3 : (p_ers P a k) 3 = P 3 := (p_hd_ers hH0 h0).2 3 (by decide)
      have gl_4 : (p_ers P a k) 4 = P 4 := (p_hd_ers hH0 h0).2 4 (by decide)
      have gl_5 : (p_ers P a k) 5 = P 5 := (p_hd_ers hH0 h0).2 5 (by decide)
      have gl_6 : (p_ers P a k) 6 = P 6 := (p_hd_ers hH0 h0).2 6 (by decide)
      have gl_7 : (p_ers P a k) 7 = P 7 := (p_hd_ers hH0 h0).2 7 (by decide)
      have gl_14 : (p_ers P a k) 14 = P 14 := (p_hd_ers hH0 h0).2 14 (by decide)
      have hH : p_hd (p_ers P a k) := (p_hd_ers hH0 h0).1
      generalize hPl : p_ers P a k = Pl at hd hr hH gl_0 gl_1 gl_2 gl_3 gl_4 gl_5 gl_6 gl_7 gl_14
      obtain ⟨t0, t1, t2, t3, t4, q0, q1, q2⟩ := id hc
      obtain ⟨d3, d4, d5, d6, d7, d8, u0, u1, u2, uk, uz⟩ := id hd
      obtain ⟨hw0, hw1, hh0, hh1, hf0, hf1, hf2, hr0, hr1, hc0, hc1, hp0, hp1, hk0, hk1, hi0, hi1, hkp, hP⟩ := id hH
      have hn : Pl 14 + Pl 1 ≤ 32 := by omega
      have hHl := hH
      refine z_iload_n e_X3_eraseRows_2 rfl ?_
      refine z_iload_n e_X3_eraseRows_3 rfl ?_
      refine z_icmp_gt e_X3_eraseRows_4 ⟨by omega, by omega⟩ ⟨by omega, by omega⟩ (fun h4_1 => ?_) (fun h4_1 => ?_)
      · refine z_ret e_X3_eraseRows_32 rfl rfl rfl ⟨rfl, rfl, ?_⟩
        rcases ia1 with ia1 | ia1
        · by_cases q : k = b + 1
          · rw [show b + 1 = k by omega, hPl]; exact ⟨sg, hc, hd, hr, frl⟩
          · exfalso; omega
        · by_cases q : k = b + 1
          · rw [show b + 1 = k by omega, hPl]; exact ⟨sg, hc, hd, hr, frl⟩
          · have e : p_ers P a (b + 1) = Pl := by rw [← hPl, ia1, p_ers_0]; unfold p_ers; rw [show (b + 1 - a).toNat = 0 by omega]; rfl
            rw [e]; exact ⟨sg, hc, hd, hr, frl⟩
      · refine z_aload_n e_X3_eraseRows_7 rfl ?_
        refine z_iload_n e_X3_eraseRows_8 rfl ?_
        refine z_callVr (M' := M_X3_screenRow) (As := [zi k]) (rest := []) e_X3_eraseRows_9 l_RX3_76 rfl rfl rfl rfl t0 ⟨_, _, rfl⟩ (d_X3_screenRow hc hd hr hH (by omega) (by omega)) (fun xq mq rq hq => ?_)
        obtain ⟨e1q, e2q, e3q⟩ := hq
        subst xq mq rq
        refine z_iconst e_X3_eraseRows_12 ?_
        refine z_aload_n e_X3_eraseRows_13 rfl ?_
        refine z_geti (fi := 5) (x := (Pl 0)) e_X3_eraseRows_14 f_RX3_35 t0 rfl rfl (d5) ?_
        refine z_iconst e_X3_eraseRows_17 ?_
        refine z_isub e_X3_eraseRows_18 ?_
        refine z_aload_n e_X3_eraseRows_19 rfl ?_
        refine z_geti (fi := 5) (x := (Pl 0)) e_X3_eraseRows_20 f_RX3_35 t0 rfl rfl (d5) ?_
        refine z_callVv (M' := M_X2_erase) (As := [zi 0, zi ((Pl 0) - 1), zi (Pl 0)]) (rest := []) e_X3_eraseRows_23 l_RX3_121 rfl rfl rfl rfl (hr.1 (Pl 14 + k) (by omega) (by omega)).2.1.1 ⟨_, _, rfl⟩ (e_X2_erase hc hd hr hH (by omega) (by omega) (by omega) (by omega) (by omega)) (fun m1 r1 hq => ?_)
        rw [gl_0] at hq
        obtain ⟨sg, hc, hd, hr, fr1⟩ := hq
        have hH : p_hd (p_erases Pl k 0 (P 0 - 1)) := p_hd_erases hH (by omega)
        generalize hP1 : p_erases Pl k 0 (P 0 - 1) = P1 at hd hr hH
        obtain ⟨t0, t1, t2, t3, t4, q0, q1, q2⟩ := id hc
        obtain ⟨d3, d4, d5, d6, d7, d8, u0, u1, u2, uk, uz⟩ := id hd
        obtain ⟨hw0, hw1, hh0, hh1, hf0, hf1, hf2, hr0, hr1, hc0, hc1, hp0, hp1, hk0, hk1, hi0, hi1, hkp, hP⟩ := id hH
        have hn : P1 14 + P1 1 ≤ 32 := by omega
        refine z_iinc (y := (k + 1)) (ls' := [some (zo s), some (zi a), some (zi b), some (zi (k + 1))]) e_X3_eraseRows_26 rfl rfl rfl rfl rfl ?_
        refine z_goto e_X3_eraseRows_29 ?_
        exact ih2 _ (by omega) (k + 1) m1 r1 rfl (⟨by omega, by omega, by rw [p_ers_s P ia0, hPl, hP1]; exact z_T_t frl ⟨sg, hc, hd, hr, fr1⟩⟩)
  exact loop2 _ a mi mr rfl (⟨by omega, by omega, by rw [p_ers_0]; exact z_T_id hc hd hr⟩)
set_option maxHeartbeats 1000000 in
set_option maxRecDepth 100000 in
theorem d_X3_keptPlace {E : z_E} {mi : z_Mi} {mr : z_Mr} {s : Nat} {k : Int} (t0 : E.2.2[s]? = some (3, 0)) (t3 : E.2.2[s + 3]? = some (13, 3)) (q2 : mr s 2 = some (s + 3)) (h0 : 0 ≤ k) (h1 : k < 3) (hk : mr (s + 3) k = some (s + 68 + k.toNat)) : z_mf M_X3_keptPlace E [zo s, zi k] mi mr (fun x m r => x = s + 68 + (k).toNat ∧ m = mi ∧ r = mr) := by
  refine z_ofr (ls := [some (zo s), some (zi k)]) rfl (fun _ _ => trivial) ⟨rfl, rfl⟩ (Nat.le_of_ble_eq_true rfl) rfl ?_
  refine z_iload_n e_X3_keptPlace_0 rfl ?_
  refine z_if_lt e_X3_keptPlace_1 ⟨by omega, by omega⟩ (fun h1_1 => ?_) (fun h1_1 => ?_)
  · exfalso; omega
  · refine z_iload_n e_X3_keptPlace_4 rfl ?_
    refine z_aload_n e_X3_keptPlace_5 rfl ?_
    refine z_getr (fi := 2) (r := some (s + 3)) e_X3_keptPlace_6 f_RX3_24 t0 rfl rfl (q2) ?_
    refine z_alen e_X3_keptPlace_9 t3 (by decide) ?_
    refine z_icmp_ge e_X3_keptPlace_10 ⟨by omega, by omega⟩ ⟨by omega, by omega⟩ (fun h10_2 => ?_) (fun h10_2 => ?_)
    · exfalso; omega
    · refine z_aload_n e_X3_keptPlace_13 rfl ?_
      refine z_getr (fi := 2) (r := some (s + 3)) e_X3_keptPlace_14 f_RX3_24 t0 rfl rfl (q2) ?_
      refine z_iload_n e_X3_keptPlace_17 rfl ?_
      refine z_aald (r := some (s + 68 + (k).toNat)) e_X3_keptPlace_18 t3 (by decide) (by decide) (by omega) (by omega) (hk) ?_
      refine z_goto e_X3_keptPlace_19 ?_
      refine z_aret e_X3_keptPlace_26 ⟨_, rfl⟩ rfl rfl ⟨rfl, _, rfl, ?_⟩
      exact ⟨rfl, rfl, rfl⟩
set_option maxHeartbeats 1000000 in
set_option maxRecDepth 100000 in
theorem e_X3_keepCursor {E : z_E} {mi : z_Mi} {mr : z_Mr} {s : Nat} {sg : Int → Nat} {P : Int → Int} (hc : z_Sc E mr s) (hd : z_Sd mi s P) (hr : z_Sr E mi mr s sg (P 0) (P 14 + P 1) (p_rows P)) (hH : p_hd P) (h3 : P 7 < 3) : z_mv M_X3_keepCursor E [zo s] mi mr (fun m r => z_T E s mi mr (p_kp P) m r) := by
  obtain ⟨t0, t1, t2, t3, t4, q0, q1, q2⟩ := id hc
  obtain ⟨d3, d4, d5, d6, d7, d8, u0, u1, u2, uk, uz⟩ := id hd
  obtain ⟨hw0, hw1, hh0, hh1, hf0, hf1, hf2, hr0, hr1, hc0, hc1, hp0, hp1, hk0, hk1, hi0, hi1, hkp, hP⟩ := id hH
  have hn : P 14 + P 1 ≤ 32 := by omega
  refine z_ofv (ls := [some (zo s)]) rfl (fun _ _ => trivial) ⟨rfl, rfl⟩ (Nat.le_of_ble_eq_true rfl) rfl ?_
  refine z_aload_n e_X3_keepCursor_0 rfl ?_
  refine z_aload_n e_X3_keepCursor_1 rfl ?_
  refine z_geti (fi := 3) (x := (P 7)) e_X3_keepCursor_2 f_RX3_28 t0 rfl rfl (d3) ?_
  refine z_callVr (M' := M_X3_keptPlace) (As := [zi (P 7)]) (rest := []) e_X3_keepCursor_5 l_RX3_52 rfl rfl rfl rfl t0 ⟨_, _, rfl⟩ (d_X3_keptPlace t0 t3 q2 (by omega) (by omega) (t4 (P 7) (by omega) (by omega)).2) (fun xq mq rq hq => ?_)
  obtain ⟨e1q, e2q, e3q⟩ := hq
  subst xq mq rq
  refine z_aload_n e_X3_keepCursor_8 rfl ?_
  refine z_getr (fi := 1) (r := some (s + 2)) e_X3_keepCursor_9 f_RX3_20 t0 rfl rfl (q1) ?_
  refine z_geti (fi := 0) (x := (P 4)) e_X3_keepCursor_12 f_RX3_66 t2 rfl rfl (u0) ?_
  refine z_aload_n e_X3_keepCursor_15 rfl ?_
  refine z_getr (fi := 1) (r := some (s + 2)) e_X3_keepCursor_16 f_RX3_20 t0 rfl rfl (q1) ?_
  refine z_geti (fi := 1) (x := (P 5)) e_X3_keepCursor_19 f_RX3_69 t2 rfl rfl (u1) ?_
  refine z_callVv (M' := M_X0_set) (As := [zi (P 4), zi (P 5)]) (rest := []) e_X3_keepCursor_22 l_RX3_72 rfl rfl rfl rfl (t4 (P 7) (by omega) (by omega)).1 ⟨_, _, rfl⟩ (d_X0_set (t4 (P 7) (by omega) (by omega)).1) (fun mq rq hq => ?_)
  obtain ⟨e2q, e3q⟩ := hq
  subst mq rq
  refine z_aload_n e_X3_keepCursor_25 rfl ?_
  refine z_dup e_X3_keepCursor_26 rfl ?_
  refine z_geti (fi := 3) (x := (P 7)) e_X3_keepCursor_27 f_RX3_28 t0 rfl rfl ((congrFun (z_un (by omega)) _).trans d3) ?_
  refine z_iconst e_X3_keepCursor_30 ?_
  refine z_iadd e_X3_keepCursor_31 ?_
  refine z_putiN (fi := 3) (f := (mi s)) e_X3_keepCursor_32 f_RX3_28 t0 rfl rfl (Or.inl rfl) ((z_un (by omega))) ?_
  refine z_ret e_X3_keepCursor_35 rfl rfl rfl ⟨rfl, rfl, ?_⟩
  exact z_T_kp hc hd hr hH h3
set_option maxHeartbeats 1000000 in
set_option maxRecDepth 100000 in
theorem e_X3_takeCursorBack {E : z_E} {mi : z_Mi} {mr : z_Mr} {s : Nat} {sg : Int → Nat} {P : Int → Int} (hc : z_Sc E mr s) (hd : z_Sd mi s P) (hr : z_Sr E mi mr s sg (P 0) (P 14 + P 1) (p_rows P)) (hH : p_hd P) (h3 : 0 < P 7) : z_mv M_X3_takeCursorBack E [zo s] mi mr (fun m r => z_T E s mi mr (p_bk P) m r) := by
  obtain ⟨t0, t1, t2, t3, t4, q0, q1, q2⟩ := id hc
  obtain ⟨d3, d4, d5, d6, d7, d8, u0, u1, u2, uk, uz⟩ := id hd
  obtain ⟨hw0, hw1, hh0, hh1, hf0, hf1, hf2, hr0, hr1, hc0, hc1, hp0, hp1, hk0, hk1, hi0, hi1, hkp, hP⟩ := id hH
  have hn : P 14 + P 1 ≤ 32 := by omega
  refine z_ofv (ls := [some (zo s)]) rfl (fun _ _ => trivial) ⟨rfl, rfl⟩ (Nat.le_of_ble_eq_true rfl) rfl ?_
  refine z_aload_n e_X3_takeCursorBack_0 rfl ?_
  refine z_dup e_X3_takeCursorBack_1 rfl ?_
  refine z_geti (fi := 3) (x := (P 7)) e_X3_takeCursorBack_2 f_RX3_28 t0 rfl rfl (d3) ?_
  refine z_iconst e_X3_takeCursorBack_5 ?_
  refine z_isub e_X3_takeCursorBack_6 ?_
  refine z_putiN (fi := 3) (f := (mi s)) e_X3_takeCursorBack_7 f_RX3_28 t0 rfl rfl (Or.inl rfl) (rfl) ?_
  refine z_aload_n e_X3_takeCursorBack_10 rfl ?_
  refine z_getr (fi := 1) (r := some (s + 2)) e_X3_takeCursorBack_11 f_RX3_20 t0 rfl rfl (q1) ?_
  refine z_aload_n e_X3_takeCursorBack_14 rfl ?_
  refine z_aload_n e_X3_takeCursorBack_15 rfl ?_
  refine z_geti (fi := 3) (x := (P 7 - 1)) e_X3_takeCursorBack_16 f_RX3_28 t0 rfl rfl ((congrFun (z_us _ _ _) _).trans (z_vs _ _ _)) ?_
  refine z_callVr (M' := M_X3_keptPlace) (As := [zi (P 7 - 1)]) (rest := [zo (s + 2)]) e_X3_takeCursorBack_19 l_RX3_52 rfl rfl rfl rfl t0 ⟨_, _, rfl⟩ (d_X3_keptPlace t0 t3 q2 (by omega) (by omega) (t4 (P 7 - 1) (by omega) (by omega)).2) (fun xq mq rq hq => ?_)
  obtain ⟨e1q, e2q, e3q⟩ := hq
  subst xq mq rq
  refine z_callVv (M' := M_X0_copyFrom) (As := [zo (s + 68 + ((P 7 - 1)).toNat)]) (rest := []) e_X3_takeCursorBack_22 l_RX3_48 rfl rfl rfl rfl t2 ⟨_, _, rfl⟩ (d_X0_copyFrom t2 (t4 (P 7 - 1) (by omega) (by omega)).1 (by omega) (by rw [z_un (by omega), (uk (P 7 - 1) (by omega) (by omega)).2.2]; exact Or.inl rfl)) (fun mq rq hq => ?_)
  obtain ⟨e2q, e3q⟩ := hq
  subst mq rq
  refine z_ret e_X3_takeCursorBack_25 rfl rfl rfl ⟨rfl, rfl, ?_⟩
  have ek := uk (P 7 - 1) (by omega) (by omega)
  exact z_T_bk hc hd hr hH h3 (by rw [z_vn (by decide), z_vn (by decide), z_vs, z_un (by omega)]; exact ek.1) (by rw [z_vn (by decide), z_vs, z_un (by omega)]; exact ek.2.1) (by rw [z_vs, z_un (by omega)]; exact ek.2.2)
