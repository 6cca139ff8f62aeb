set_option maxHeartbeats 1000000 in
set_option maxRecDepth 100000 in
theorem c_L_isSecond {E : z_E} {mi : z_Mi} {mr : z_Mr} {o : Nat} {P : Int → Int} {n nx : Int} {row column : Int} (hX : z_X E o mi mr P n nx) (hr0 : 0 ≤ row) (hr1 : row < P 1) (hl0 : 0 ≤ column) (hl1 : column < P 0) : z_mi M_L_isSecond E [zo o, zi row, zi column] mi mr (fun x m r => x = (if 128 ≤ p_row P (24 + row) column then 1 else 0) ∧ m = mi ∧ r = mr) := by
  have to := hX.1.1
  have hH : p_hd P := hX.2.2.1
  have hW := x_W hX
  obtain ⟨pw0, pw1, ph0, ph1, pf0, pf1, pf2, pr0, pr1, pc0, pc1, pp0, pp1, pk0, pk1, pi0, pi1, pkp, pP⟩ := id hH
  have hw : c_wf (P 0) (p_row P (24 + row)) := hW (24 + row) (Or.inr ⟨by omega, by omega⟩)
  refine z_ofi (ls := [some (zo o), some (zi row), some (zi column), none, none]) rfl (fun _ _ => trivial) ⟨rfl, rfl⟩ (Nat.le_of_ble_eq_true rfl) rfl ?_
  refine z_iconst e_L_isSecond_0 ?_
  refine z_istore_n (ls' := [some (zo o), some (zi row), some (zi column), some (zi 0), none]) e_L_isSecond_1 rfl rfl rfl ?_
  have loop2 : ∀ (nn : Nat) (c : Int), (column - c).toNat = nn → (0 ≤ c ∧ c ≤ column + 1 ∧ (c < P 0 → ¬ 128 ≤ (p_row P (24 + row)) c) ∧ (c = column + 1 → 128 ≤ (p_row P (24 + row)) column)) → z_A M_L_isSecond E 0 0 2 [some (zo o), some (zi row), some (zi column), some (zi c), none] [] mi mr (z_qi E (fun x m r => x = (if 128 ≤ p_row P (24 + row) column then 1 else 0) ∧ m = mi ∧ r = mr)) := by
    intro nn
    induction nn using Nat.strongRecOn with
    | _ nn ih2 =>
      intro c hmeas hinv
      obtain ⟨hc0, hc1, hnr, hri⟩ := hinv
      refine z_iload_n e_L_isSecond_2 rfl ?_
      refine z_iload_n e_L_isSecond_3 rfl ?_
      refine z_icmp_ge e_L_isSecond_4 ⟨by omega, by omega⟩ ⟨by omega, by omega⟩ (fun h4_1 => ?_) (fun h4_1 => ?_)
      · refine z_iload_n e_L_isSecond_40 rfl ?_
        refine z_iload_n e_L_isSecond_41 rfl ?_
        refine z_icmp_le e_L_isSecond_42 ⟨by omega, by omega⟩ ⟨by omega, by omega⟩ (fun h42_2 => ?_) (fun h42_2 => ?_)
        · refine z_iconst e_L_isSecond_49 ?_
          refine z_iret e_L_isSecond_50 (Or.inr ⟨rfl, Or.inl rfl⟩) rfl rfl ⟨rfl, _, rfl, ?_⟩
          have hcc : c = column := by omega
          exact ⟨(if_neg (fun q => hnr (by omega) (by rw [hcc]; exact q))).symm, rfl, rfl⟩
        · refine z_iconst e_L_isSecond_45 ?_
          refine z_goto e_L_isSecond_46 ?_
          refine z_iret e_L_isSecond_50 (Or.inr ⟨rfl, Or.inr rfl⟩) rfl rfl ⟨rfl, _, rfl, ?_⟩
          have hcc : c = column + 1 := by omega
          exact ⟨(if_pos (hri hcc)).symm, rfl, rfl⟩
      · have hcl : c < P 0 := by omega
        have hb := sc_b hw hc0 hcl (hnr hcl)
        refine z_aload_n e_L_isSecond_7 rfl ?_
        refine z_iload_n e_L_isSecond_8 rfl ?_
        refine z_iload_n e_L_isSecond_9 rfl ?_
        refine z_callVi (M' := M_X4_cell) (As := [zi row, zi c]) (rest := []) e_L_isSecond_10 l_RL_53 rfl rfl rfl rfl to ⟨_, _, rfl⟩ (c_X4_cell hX ⟨by omega, by omega⟩ ⟨by omega, by omega⟩) (fun xq mq rq hq => ?_)
        obtain ⟨e1q, e2q, e3q⟩ := hq
        rw [cell_in hH hr0 hr1 (by omega) (by omega), if_neg (hnr (by omega))] at e1q
        subst xq mq rq
        refine z_istore (ls' := [some (zo o), some (zi row), some (zi column), some (zi c), some (zi (p_row P (24 + row) c))]) e_L_isSecond_13 rfl rfl rfl ?_
        rcases (show (65 ≤ p_row P (24 + row) c ∧ p_row P (24 + row) c ≤ 90) ∨ p_row P (24 + row) c < 65 ∨ 90 < p_row P (24 + row) c by omega) with hq | hq | hq
        · obtain ⟨a1, a2, anx⟩ := sc_w hw hc0 hcl hq
          have ari : c + 2 = column + 1 → 128 ≤ p_row P (24 + row) column := fun hx => by rw [show column = c + 1 by omega, a2]; omega
          refine z_iload_n e_L_isSecond_15 rfl ?_
          refine z_iload e_L_isSecond_16 rfl ?_
          refine z_bipush e_L_isSecond_18 (by decide +kernel) ?_
          refine z_icmp_lt e_L_isSecond_20 ⟨by omega, by omega⟩ (by decide) (fun h20_3 => ?_) (fun h20_3 => ?_)
          · omega
          · refine z_iload e_L_isSecond_23 rfl ?_
            refine z_bipush e_L_isSecond_25 (by decide +kernel) ?_
            refine z_icmp_gt e_L_isSecond_27 ⟨by omega, by omega⟩ (by decide) (fun h27_4 => ?_) (fun h27_4 => ?_)
            · omega
            · refine z_iconst e_L_isSecond_30 ?_
              refine z_goto e_L_isSecond_31 ?_
              refine z_iadd e_L_isSecond_35 ?_
              refine z_istore_n (ls' := [some (zo o), some (zi row), some (zi column), some (zi (c + 2)), some (zi (p_row P (24 + row) c))]) e_L_isSecond_36 rfl rfl rfl ?_
              refine z_goto e_L_isSecond_37 ?_
              refine z_fgt (ls' := [some (zo o), some (zi row), some (zi column), some (zi (c + 2)), none]) ⟨rfl, rfl, rfl, rfl, trivial⟩ ?_
              exact ih2 _ (by omega) (c + 2) rfl (⟨by omega, by omega, anx, ari⟩)
        · have anx := sc_n hw hc0 (show ¬ (65 ≤ p_row P (24 + row) c ∧ p_row P (24 + row) c ≤ 90) by omega)
          have ari : c + 1 = column + 1 → 128 ≤ p_row P (24 + row) column := fun hx => absurd hx (by omega)
          refine z_iload_n e_L_isSecond_15 rfl ?_
          refine z_iload e_L_isSecond_16 rfl ?_
          refine z_bipush e_L_isSecond_18 (by decide +kernel) ?_
          refine z_icmp_lt e_L_isSecond_20 ⟨by omega, by omega⟩ (by decide) (fun h20_5 => ?_) (fun h20_5 => ?_)
          · refine z_iconst e_L_isSecond_34 ?_
            refine z_iadd e_L_isSecond_35 ?_
            refine z_istore_n (ls' := [some (zo o), some (zi row), some (zi column), some (zi (c + 1)), some (zi (p_row P (24 + row) c))]) e_L_isSecond_36 rfl rfl rfl ?_
            refine z_goto e_L_isSecond_37 ?_
            refine z_fgt (ls' := [some (zo o), some (zi row), some (zi column), some (zi (c + 1)), none]) ⟨rfl, rfl, rfl, rfl, trivial⟩ ?_
            exact ih2 _ (by omega) (c + 1) rfl (⟨by omega, by omega, anx, ari⟩)
          · omega
        · have anx := sc_n hw hc0 (show ¬ (65 ≤ p_row P (24 + row) c ∧ p_row P (24 + row) c ≤ 90) by omega)
          have ari : c + 1 = column + 1 → 128 ≤ p_row P (24 + row) column := fun hx => absurd hx (by omega)
          refine z_iload_n e_L_isSecond_15 rfl ?_
          refine z_iload e_L_isSecond_16 rfl ?_
          refine z_bipush e_L_isSecond_18 (by decide +kernel) ?_
          refine z_icmp_lt e_L_isSecond_20 ⟨by omega, by omega⟩ (by decide) (fun h20_6 => ?_) (fun h20_6 => ?_)
          · omega
          · refine z_iload e_L_isSecond_23 rfl ?_
            refine z_bipush e_L_isSecond_25 (by decide +kernel) ?_
            refine z_icmp_gt e_L_isSecond_27 ⟨by omega, by omega⟩ (by decide) (fun h27_7 => ?_) (fun h27_7 => ?_)
            · refine z_iconst e_L_isSecond_34 ?_
              refine z_iadd e_L_isSecond_35 ?_
              refine z_istore_n (ls' := [some (zo o), some (zi row), some (zi column), some (zi (c + 1)), some (zi (p_row P (24 + row) c))]) e_L_isSecond_36 rfl rfl rfl ?_
              refine z_goto e_L_isSecond_37 ?_
              refine z_fgt (ls' := [some (zo o), some (zi row), some (zi column), some (zi (c + 1)), none]) ⟨rfl, rfl, rfl, rfl, trivial⟩ ?_
              exact ih2 _ (by omega) (c + 1) rfl (⟨by omega, by omega, anx, ari⟩)
            · omega
  exact loop2 _ 0 rfl (⟨by omega, by omega, fun _ => c_wf_0 hw (by omega), fun hx => absurd hx (by omega)⟩)
/-! something is done to the screen -/
def z_ac (E : z_E) (o : Nat) (m : z_Mi) (r : z_Mr) : Prop := ∃ (P : Int → Int) (n nx : Int), z_X E o m r P n nx ∧ p_G P
theorem ac_2 {E : z_E} {mi m : z_Mi} {mr r : z_Mr} {o : Nat} {P Q : Int → Int} {n n' nx x v w : Int} {A : Prop} (hX : z_X E o mi mr P n nx) (hG : p_G P) (hQ : A → p_G Q) (h : (A → x = v ∧ z_Z E o mi mr Q n' m r) ∧ (¬ A → x = w ∧ m = mi ∧ r = mr)) : z_ac E o m r := by
  by_cases hA : A
  · obtain ⟨-, ⟨nx', h1⟩, -⟩ := h.1 hA
    exact ⟨Q, n', nx', h1, hQ hA⟩
  · obtain ⟨-, rfl, rfl⟩ := h.2 hA
    exact ⟨P, n, nx, hX, hG⟩
theorem ac_3 {E : z_E} {mi m : z_Mi} {mr r : z_Mr} {o : Nat} {P Q : Int → Int} {n n' nx x v w w2 : Int} {A C : Prop} (hX : z_X E o mi mr P n nx) (hG : p_G P) (hQ : A ∧ C → p_G Q) (h : (A ∧ C → x = v ∧ z_Z E o mi mr Q n' m r) ∧ (¬ A → x = w ∧ m = mi ∧ r = mr) ∧ (A ∧ ¬ C → x = w2 ∧ m = mi ∧ r = mr)) : z_ac E o m r := by
  by_cases hA : A
  · by_cases hC : C
    · obtain ⟨-, ⟨nx', h1⟩, -⟩ := h.1 ⟨hA, hC⟩
      exact ⟨Q, n', nx', h1, hQ ⟨hA, hC⟩⟩
    · obtain ⟨-, rfl, rfl⟩ := h.2.2 ⟨hA, hC⟩
      exact ⟨P, n, nx, hX, hG⟩
  · obtain ⟨-, rfl, rfl⟩ := h.2.1 hA
    exact ⟨P, n, nx, hX, hG⟩
theorem ac_r {E : z_E} {mi m : z_Mi} {mr r : z_Mr} {o : Nat} {P : Int → Int} {n nx x w h : Int} (hX : z_X E o mi mr P n nx) (hG : p_G P) (hq : (r_ok w h → x = y_many P w ∧ r_to E o P w h m r) ∧ (¬ r_ok w h → x = -1 ∧ m = mi ∧ r = mr)) : z_ac E o m r := by
  by_cases hA : r_ok w h
  · obtain ⟨-, Q, n', nx', h1, h2, -⟩ := hq.1 hA
    exact ⟨Q, n', nx', h1, h2⟩
  · obtain ⟨-, rfl, rfl⟩ := hq.2 hA
    exact ⟨P, n, nx, hX, hG⟩
set_option maxHeartbeats 1000000 in
set_option maxRecDepth 100000 in
theorem c_L_acts {E : z_E} {mi : z_Mi} {mr : z_Mr} {o : Nat} {P : Int → Int} {n nx : Int} {k : Int} (hX : z_X E o mi mr P n nx) (hG : p_G P) (hk0 : 0 ≤ k) (hk1 : z_R k) : z_mv M_L_acts E [zo o, zi k] mi mr (fun m r => z_ac E o m r) := by
  have to := hX.1.1
  have hH : p_hd P := hX.2.2.1
  obtain ⟨hk2, hk3⟩ := hk1
  obtain ⟨pw0, pw1, ph0, ph1, pf0, pf1, pf2, pr0, pr1, pc0, pc1, pp0, pp1, pk0, pk1, pi0, pi1, pkp, pP⟩ := id hH
  have hn := hX.2.1.2.2.2.2.1
  have hR : p_hd (p_rec n P) := p_hd_rec hH hn
  have gR : p_G (p_rec n P) := gg_rec hH hG hn
  have a3 : p_rec n P 3 = P 3 := p_rec_hd hn (by decide)
  have a4 : p_rec n P 4 = P 4 := p_rec_hd hn (by decide)
  have a7 : p_rec n P 7 = P 7 := p_rec_hd hn (by decide)
  refine z_ofv (ls := [some (zo o), some (zi k), none, none, none]) rfl (fun _ _ => trivial) ⟨rfl, rfl⟩ (Nat.le_of_ble_eq_true rfl) rfl ?_
  refine z_aload_n e_L_acts_0 rfl ?_
  refine z_iconst e_L_acts_1 ?_
  refine z_callVi (M' := M_X4_told) (As := [zi 0]) (rest := []) e_L_acts_2 l_RL_9 rfl rfl rfl rfl to ⟨_, _, rfl⟩ (c_X4_told hX ⟨by decide, by decide⟩) (fun xq mq rq hq => ?_)
  obtain ⟨e1q, e2q, e3q⟩ := hq
  rw [told_0] at e1q
  subst xq mq rq
  refine z_istore_n (ls' := [some (zo o), some (zi k), some (zi (P 0)), none, none]) e_L_acts_5 rfl rfl rfl ?_
  refine z_aload_n e_L_acts_6 rfl ?_
  refine z_iconst e_L_acts_7 ?_
  refine z_callVi (M' := M_X4_told) (As := [zi 1]) (rest := []) e_L_acts_8 l_RL_9 rfl rfl rfl rfl to ⟨_, _, rfl⟩ (c_X4_told hX ⟨by decide, by decide⟩) (fun xq mq rq hq => ?_)
  obtain ⟨e1q, e2q, e3q⟩ := hq
  rw [told_1] at e1q
  subst xq mq rq
  refine z_istore_n (ls' := [some (zo o), some (zi k), some (zi (P 0)), some (zi (P 1)), none]) e_L_acts_11 rfl rfl rfl ?_
  refine z_iload_n e_L_acts_12 rfl ?_
  refine z_iconst e_L_acts_13 ?_
  refine z_ishr e_L_acts_14 (by omega) ⟨by omega, by omega⟩ (fun z14 hz14a hz14b => ?_)
  obtain ⟨hz14c, hz14d⟩ := hz14b
  refine z_bipush e_L_acts_15 (by decide +kernel) ?_
  refine z_irem e_L_acts_17 (by omega) (by omega) ⟨by omega, by omega⟩ (by decide) ?_
  refine z_istore (ls' := [some (zo o), some (zi k), some (zi (P 0)), some (zi (P 1)), some (zi (z14 % 40))]) e_L_acts_18 rfl rfl rfl ?_
  refine z_iload_n e_L_acts_20 rfl ?_
  refine z_bipush e_L_acts_21 (by decide +kernel) ?_
  refine z_irem e_L_acts_23 (by omega) (by omega) ⟨by omega, by omega⟩ (by decide) ?_
  by_cases hs24_1 : (k % 19) < 0 ∨ 17 < (k % 19)
  · refine z_tsOut (tgt := 343) e_L_acts_24 ⟨by omega, by omega⟩ hs24_1 rfl ?_
    refine z_iload e_L_acts_343 rfl ?_
    refine z_iconst e_L_acts_345 ?_
    refine z_irem e_L_acts_346 (by omega) (by omega) ⟨by omega, by omega⟩ (by decide) ?_
    refine z_if_ne e_L_acts_347 ⟨by omega, by omega⟩ (fun h347_2 => ?_) (fun h347_2 => ?_)
    · refine z_iload e_L_acts_375 rfl ?_
      refine z_iconst e_L_acts_377 ?_
      refine z_irem e_L_acts_378 (by omega) (by omega) ⟨by omega, by omega⟩ (by decide) ?_
      refine z_iconst e_L_acts_379 ?_
      refine z_icmp_ne e_L_acts_380 ⟨by omega, by omega⟩ (by decide) (fun h380_3 => ?_) (fun h380_3 => ?_)
      · refine z_aload_n e_L_acts_391 rfl ?_
        refine z_callVi (M' := M_X4_back) (As := []) (rest := []) e_L_acts_392 l_RL_50 rfl rfl rfl rfl to ⟨_, _, rfl⟩ (c_X4_back hX) (fun x1 m1 r1 hq => ?_)
        have hac : z_ac E o m1 r1 := ac_2 hX hG (fun _ => gg_bk hR gR) hq
        refine z_pop e_L_acts_395 rfl ?_
        refine z_ret e_L_acts_396 rfl rfl rfl ⟨rfl, rfl, ?_⟩
        exact hac
      · refine z_aload_n e_L_acts_383 rfl ?_
        refine z_callVi (M' := M_X4_keep) (As := []) (rest := []) e_L_acts_384 l_RL_46 rfl rfl rfl rfl to ⟨_, _, rfl⟩ (c_X4_keep hX) (fun x1 m1 r1 hq => ?_)
        have hac : z_ac E o m1 r1 := ac_2 hX hG (fun hA => gg_kp hR gR (by rw [a7]; exact hA)) hq
        refine z_pop e_L_acts_387 rfl ?_
        refine z_goto e_L_acts_388 ?_
        refine z_ret e_L_acts_396 rfl rfl rfl ⟨rfl, rfl, ?_⟩
        exact hac
    · refine z_aload_n e_L_acts_350 rfl ?_
      refine z_iconst e_L_acts_351 ?_
      refine z_iload_n e_L_acts_352 rfl ?_
      refine z_bipush e_L_acts_353 (by decide +kernel) ?_
      refine z_ishr e_L_acts_355 (by omega) ⟨by omega, by omega⟩ (fun z355 hz355a hz355b => ?_)
      obtain ⟨hz355c, hz355d⟩ := hz355b
      refine z_bipush e_L_acts_356 (by decide +kernel) ?_
      refine z_irem e_L_acts_358 (by omega) (by omega) ⟨by omega, by omega⟩ (by decide) ?_
      refine z_iadd e_L_acts_359 ?_
      refine z_iconst e_L_acts_360 ?_
      refine z_iload_n e_L_acts_361 rfl ?_
      refine z_bipush e_L_acts_362 (by decide +kernel) ?_
      refine z_ishr e_L_acts_364 (by omega) ⟨by omega, by omega⟩ (fun z364 hz364a hz364b => ?_)
      obtain ⟨hz364c, hz364d⟩ := hz364b
      refine z_iconst e_L_acts_365 ?_
      refine z_irem e_L_acts_366 (by omega) (by omega) ⟨by omega, by omega⟩ (by decide) ?_
      refine z_iadd e_L_acts_367 ?_
      refine z_callVi (M' := M_X4_resize) (As := [zi (4 + (z355 % 10)), zi (2 + (z364 % 5))]) (rest := []) e_L_acts_368 l_RL_43 rfl rfl rfl rfl to ⟨_, _, rfl⟩ (k_X4_resize hX ⟨by omega, by omega⟩ ⟨by omega, by omega⟩) (fun x1 m1 r1 hq => ?_)
      have hac : z_ac E o m1 r1 := ac_r hX hG hq
      refine z_pop e_L_acts_371 rfl ?_
      refine z_goto e_L_acts_372 ?_
      refine z_ret e_L_acts_396 rfl rfl rfl ⟨rfl, rfl, ?_⟩
      exact hac
  · rcases (show (k % 19) = 0 ∨ (k % 19) = 1 ∨ (k % 19) = 2 ∨ (k % 19) = 3 ∨ (k % 19) = 4 ∨ (k % 19) = 5 ∨ (k % 19) = 6 ∨ (k % 19) = 7 ∨ (k % 19) = 8 ∨ (k % 19) = 9 ∨ (k % 19) = 10 ∨ (k % 19) = 11 ∨ (k % 19) = 12 ∨ (k % 19) = 13 ∨ (k % 19) = 14 ∨ (k % 19) = 15 ∨ (k % 19) = 16 ∨ (k % 19) = 17 by omega) with hs24_1 | hs24_1 | hs24_1 | hs24_1 | hs24_1 | hs24_1 | hs24_1 | hs24_1 | hs24_1 | hs24_1 | hs24_1 | hs24_1 | hs24_1 | hs24_1 | hs24_1 | hs24_1 | hs24_1 | hs24_1
    · refine z_tsIn (off := 88) (tgt := 112) e_L_acts_24 ⟨by omega, by omega⟩ (by omega) (by omega) (by rw [hs24_1]; rfl) rfl ?_
      refine z_aload_n e_L_acts_112 rfl ?_
      refine z_bipush e_L_acts_113 (by decide +kernel) ?_
      refine z_iload e_L_acts_115 rfl ?_
      refine z_bipush e_L_acts_117 (by decide +kernel) ?_
      refine z_irem e_L_acts_119 (by omega) (by omega) ⟨by omega, by omega⟩ (by decide) ?_
      refine z_iadd e_L_acts_120 ?_
      refine z_callVi (M' := M_X4_feed) (As := [zi (65 + ((z14 % 40) % 26))]) (rest := []) e_L_acts_121 l_RL_15 rfl rfl rfl rfl to ⟨_, _, rfl⟩ (c_X4_feed hX ⟨by omega, by omega⟩) (fun x1 m1 r1 hq => ?_)
      have hac : z_ac E o m1 r1 := ac_2 hX hG (fun hA => by split; exact gg_write hR gR (by omega) (by omega); exact gg_move hR gR) hq
      refine z_pop e_L_acts_124 rfl ?_
      refine z_goto e_L_acts_125 ?_
      refine z_ret e_L_acts_396 rfl rfl rfl ⟨rfl, rfl, ?_⟩
      exact hac
    · refine z_tsIn (off := 88) (tgt := 112) e_L_acts_24 ⟨by omega, by omega⟩ (by omega) (by omega) (by rw [hs24_1]; rfl) rfl ?_
      refine z_aload_n e_L_acts_112 rfl ?_
      refine z_bipush e_L_acts_113 (by decide +kernel) ?_
      refine z_iload e_L_acts_115 rfl ?_
      refine z_bipush e_L_acts_117 (by decide +kernel) ?_
      refine z_irem e_L_acts_119 (by omega) (by omega) ⟨by omega, by omega⟩ (by decide) ?_
      refine z_iadd e_L_acts_120 ?_
      refine z_callVi (M' := M_X4_feed) (As := [zi (65 + ((z14 % 40) % 26))]) (rest := []) e_L_acts_121 l_RL_15 rfl rfl rfl rfl to ⟨_, _, rfl⟩ (c_X4_feed hX ⟨by omega, by omega⟩) (fun x1 m1 r1 hq => ?_)
      have hac : z_ac E o m1 r1 := ac_2 hX hG (fun hA => by split; exact gg_write hR gR (by omega) (by omega); exact gg_move hR gR) hq
      refine z_pop e_L_acts_124 rfl ?_
      refine z_goto e_L_acts_125 ?_
      refine z_ret e_L_acts_396 rfl rfl rfl ⟨rfl, rfl, ?_⟩
      exact hac
    · refine z_tsIn (off := 88) (tgt := 112) e_L_acts_24 ⟨by omega, by omega⟩ (by omega) (by omega) (by rw [hs24_1]; rfl) rfl ?_
      refine z_aload_n e_L_acts_112 rfl ?_
      refine z_bipush e_L_acts_113 (by decide +kernel) ?_
      refine z_iload e_L_acts_115 rfl ?_
      refine z_bipush e_L_acts_117 (by decide +kernel) ?_
      refine z_irem e_L_acts_119 (by omega) (by omega) ⟨by omega, by omega⟩ (by decide) ?_
      refine z_iadd e_L_acts_120 ?_
      refine z_callVi (M' := M_X4_feed) (As := [zi (65 + ((z14 % 40) % 26))]) (rest := []) e_L_acts_121 l_RL_15 rfl rfl rfl rfl to ⟨_, _, rfl⟩ (c_X4_feed hX ⟨by omega, by omega⟩) (fun x1 m1 r1 hq => ?_)
      have hac : z_ac E o m1 r1 := ac_2 hX hG (fun hA => by split; exact gg_write hR gR (by omega) (by omega); exact gg_move hR gR) hq
      refine z_pop e_L_acts_124 rfl ?_
      refine z_goto e_L_acts_125 ?_
      refine z_ret e_L_acts_396 rfl rfl rfl ⟨rfl, rfl, ?_⟩
      exact hac
    · refine z_tsIn (off := 88) (tgt := 112) e_L_acts_24 ⟨by omega, by omega⟩ (by omega) (by omega) (by rw [hs24_1]; rfl) rfl ?_
      refine z_aload_n e_L_acts_112 rfl ?_
      refine z_bipush e_L_acts_113 (by decide +kernel) ?_
      refine z_iload e_L_acts_115 rfl ?_
      refine z_bipush e_L_acts_117 (by decide +kernel) ?_
      refine z_irem e_L_acts_119 (by omega) (by omega) ⟨by omega, by omega⟩ (by decide) ?_
      refine z_iadd e_L_acts_120 ?_
      refine z_callVi (M' := M_X4_feed) (As := [zi (65 + ((z14 % 40) % 26))]) (rest := []) e_L_acts_121 l_RL_15 rfl rfl rfl rfl to ⟨_, _, rfl⟩ (c_X4_feed hX ⟨by omega, by omega⟩) (fun x1 m1 r1 hq => ?_)
      have hac : z_ac E o m1 r1 := ac_2 hX hG (fun hA => by split; exact gg_write hR gR (by omega) (by omega); exact gg_move hR gR) hq
      refine z_pop e_L_acts_124 rfl ?_
      refine z_goto e_L_acts_125 ?_
      refine z_ret e_L_acts_396 rfl rfl rfl ⟨rfl, rfl, ?_⟩
      exact hac
    · refine z_tsIn (off := 104) (tgt := 128) e_L_acts_24 ⟨by omega, by omega⟩ (by omega) (by omega) (by rw [hs24_1]; rfl) rfl ?_
      refine z_aload_n e_L_acts_128 rfl ?_
      refine z_bipush e_L_acts_129 (by decide +kernel) ?_
      refine z_iload e_L_acts_131 rfl ?_
      refine z_bipush e_L_acts_133 (by decide +kernel) ?_
      refine z_irem e_L_acts_135 (by omega) (by omega) ⟨by omega, by omega⟩ (by decide) ?_
      refine z_iadd e_L_acts_136 ?_
      refine z_callVi (M' := M_X4_feed) (As := [zi (97 + ((z14 % 40) % 26))]) (rest := []) e_L_acts_137 l_RL_15 rfl rfl rfl rfl to ⟨_, _, rfl⟩ (c_X4_feed hX ⟨by omega, by omega⟩) (fun x1 m1 r1 hq => ?_)
      have hac : z_ac E o m1 r1 := ac_2 hX hG (fun hA => by split; exact gg_write hR gR (by omega) (by omega); exact gg_move hR gR) hq
      refine z_pop e_L_acts_140 rfl ?_
      refine z_goto e_L_acts_141 ?_
      refine z_ret e_L_acts_396 rfl rfl rfl ⟨rfl, rfl, ?_⟩
      exact hac
    · refine z_tsIn (off := 104) (tgt := 128) e_L_acts_24 ⟨by omega, by omega⟩ (by omega) (by omega) (by rw [hs24_1]; rfl) rfl ?_
      refine z_aload_n e_L_acts_128 rfl ?_
      refine z_bipush e_L_acts_129 (by decide +kernel) ?_
      refine z_iload e_L_acts_131 rfl ?_
      refine z_bipush e_L_acts_133 (by decide +kernel) ?_
      refine z_irem e_L_acts_135 (by omega) (by omega) ⟨by omega, by omega⟩ (by decide) ?_
      refine z_iadd e_L_acts_136 ?_
      refine z_callVi (M' := M_X4_feed) (As := [zi (97 + ((z14 % 40) % 26))]) (rest := []) e_L_acts_137 l_RL_15 rfl rfl rfl rfl to ⟨_, _, rfl⟩ (c_X4_feed hX ⟨by omega, by omega⟩) (fun x1 m1 r1 hq => ?_)
      have hac : z_ac E o m1 r1 := ac_2 hX hG (fun hA => by split; exact gg_write hR gR (by omega) (by omega); exact gg_move hR gR) hq
      refine z_pop e_L_acts_140 rfl ?_
      refine z_goto e_L_acts_141 ?_
      refine z_ret e_L_acts_396 rfl rfl rfl ⟨rfl, rfl, ?_⟩
      exact hac
    · refine z_tsIn (off := 104) (tgt := 128) e_L_acts_24 ⟨by omega, by omega⟩ (by omega) (by omega) (by rw [hs24_1]; rfl) rfl ?_
      refine z_aload_n e_L_acts_128 rfl ?_
      refine z_bipush e_L_acts_129 (by decide +kernel) ?_
      refine z_iload e_L_acts_131 rfl ?_
      refine z_bipush e_L_acts_133 (by decide +kernel) ?_
      refine z_irem e_L_acts_135 (by omega) (by omega) ⟨by omega, by omega⟩ (by decide) ?_
      refine z_iadd e_L_acts_136 ?_
      refine z_callVi (M' := M_X4_feed) (As := [zi (97 + ((z14 % 40) % 26))]) (rest := []) e_L_acts_137 l_RL_15 rfl rfl rfl rfl to ⟨_, _, rfl⟩ (c_X4_feed hX ⟨by omega, by omega⟩) (fun x1 m1 r1 hq => ?_)
      have hac : z_ac E o m1 r1 := ac_2 hX hG (fun hA => by split; exact gg_write hR gR (by omega) (by omega); exact gg_move hR gR) hq
      refine z_pop e_L_acts_140 rfl ?_
      refine z_goto e_L_acts_141 ?_
      refine z_ret e_L_acts_396 rfl rfl rfl ⟨rfl, rfl, ?_⟩
      exact hac
    · refine z_tsIn (off := 104) (tgt := 128) e_L_acts_24 ⟨by omega, by omega⟩ (by omega) (by omega) (by rw [hs24_1]; rfl) rfl ?_
      refine z_aload_n e_L_acts_128 rfl ?_
      refine z_bipush e_L_acts_129 (by decide +kernel) ?_
      refine z_iload e_L_acts_131 rfl ?_
      refine z_bipush e_L_acts_133 (by decide +kernel) ?_
      refine z_irem e_L_acts_135 (by omega) (by omega) ⟨by omega, by omega⟩ (by decide) ?_
      refine z_iadd e_L_acts_136 ?_
      refine z_callVi (M' := M_X4_feed) (As := [zi (97 + ((z14 % 40) % 26))]) (rest := []) e_L_acts_137 l_RL_15 rfl rfl rfl rfl to ⟨_, _, rfl⟩ (c_X4_feed hX ⟨by omega, by omega⟩) (fun x1 m1 r1 hq => ?_)
      have hac : z_ac E o m1 r1 := ac_2 hX hG (fun hA => by split; exact gg_write hR gR (by omega) (by omega); exact gg_move hR gR) hq
      refine z_pop e_L_acts_140 rfl ?_
      refine z_goto e_L_acts_141 ?_
      refine z_ret e_L_acts_396 rfl rfl rfl ⟨rfl, rfl, ?_⟩
      exact hac
    · refine z_tsIn (off := 104) (tgt := 128) e_L_acts_24 ⟨by omega, by omega⟩ (by omega) (by omega) (by rw [hs24_1]; rfl) rfl ?_
      refine z_aload_n e_L_acts_128 rfl ?_
      refine z_bipush e_L_acts_129 (by decide +kernel) ?_
      refine z_iload e_L_acts_131 rfl ?_
      refine z_bipush e_L_acts_133 (by decide +kernel) ?_
      refine z_irem e_L_acts_135 (by omega) (by omega) ⟨by omega, by omega⟩ (by decide) ?_
      refine z_iadd e_L_acts_136 ?_
      refine z_callVi (M' := M_X4_feed) (As := [zi (97 + ((z14 % 40) % 26))]) (rest := []) e_L_acts_137 l_RL_15 rfl rfl rfl rfl to ⟨_, _, rfl⟩ (c_X4_feed hX ⟨by omega, by omega⟩) (fun x1 m1 r1 hq => ?_)
      have hac : z_ac E o m1 r1 := ac_2 hX hG (fun hA => by split; exact gg_write hR gR (by omega) (by omega); exact gg_move hR gR) hq
      refine z_pop e_L_acts_140 rfl ?_
      refine z_goto e_L_acts_141 ?_
      refine z_ret e_L_acts_396 rfl rfl rfl ⟨rfl, rfl, ?_⟩
      exact hac
    · refine z_tsIn (off := 120) (tgt := 144) e_L_acts_24 ⟨by omega, by omega⟩ (by omega) (by omega) (by rw [hs24_1]; rfl) rfl ?_
      refine z_aload_n e_L_acts_144 rfl ?_
      refine z_iload e_L_acts_145 rfl ?_
      refine z_iconst e_L_acts_147 ?_
      refine z_irem e_L_acts_148 (by omega) (by omega) ⟨by omega, by omega⟩ (by decide) ?_
      refine z_if_ne e_L_acts_149 ⟨by omega, by omega⟩ (fun h149_4 => ?_) (fun h149_4 => ?_)
      · refine z_iload e_L_acts_157 rfl ?_
        refine z_iconst e_L_acts_159 ?_
        refine z_irem e_L_acts_160 (by omega) (by omega) ⟨by omega, by omega⟩ (by decide) ?_
        refine z_iconst e_L_acts_161 ?_
        refine z_icmp_ne e_L_acts_162 ⟨by omega, by omega⟩ (by decide) (fun h162_5 => ?_) (fun h162_5 => ?_)
        · refine z_iload e_L_acts_170 rfl ?_
          refine z_iconst e_L_acts_172 ?_
          refine z_irem e_L_acts_173 (by omega) (by omega) ⟨by omega, by omega⟩ (by decide) ?_
          refine z_iconst e_L_acts_174 ?_
          refine z_icmp_ne e_L_acts_175 ⟨by omega, by omega⟩ (by decide) (fun h175_6 => ?_) (fun h175_6 => ?_)
          · refine z_iload e_L_acts_183 rfl ?_
            refine z_iconst e_L_acts_185 ?_
            refine z_irem e_L_acts_186 (by omega) (by omega) ⟨by omega, by omega⟩ (by decide) ?_
            refine z_iconst e_L_acts_187 ?_
            refine z_icmp_ne e_L_acts_188 ⟨by omega, by omega⟩ (by decide) (fun h188_7 => ?_) (fun h188_7 => ?_)
            · refine z_bipush e_L_acts_196 (by decide +kernel) ?_
              refine z_callVi (M' := M_X4_feed) (As := [zi 13]) (rest := []) e_L_acts_198 l_RL_15 rfl rfl rfl rfl to ⟨_, _, rfl⟩ (c_X4_feed hX ⟨by omega, by omega⟩) (fun x1 m1 r1 hq => ?_)
              have hac : z_ac E o m1 r1 := ac_2 hX hG (fun hA => by split; exact gg_write hR gR (by omega) (by omega); exact gg_move hR gR) hq
              refine z_pop e_L_acts_201 rfl ?_
              refine z_goto e_L_acts_202 ?_
              refine z_ret e_L_acts_396 rfl rfl rfl ⟨rfl, rfl, ?_⟩
              exact hac
            · refine z_bipush e_L_acts_191 (by decide +kernel) ?_
              refine z_goto e_L_acts_193 ?_
              refine z_callVi (M' := M_X4_feed) (As := [zi 10]) (rest := []) e_L_acts_198 l_RL_15 rfl rfl rfl rfl to ⟨_, _, rfl⟩ (c_X4_feed hX ⟨by omega, by omega⟩) (fun x1 m1 r1 hq => ?_)
              have hac : z_ac E o m1 r1 := ac_2 hX hG (fun hA => by split; exact gg_write hR gR (by omega) (by omega); exact gg_move hR gR) hq
              refine z_pop e_L_acts_201 rfl ?_
              refine z_goto e_L_acts_202 ?_
              refine z_ret e_L_acts_396 rfl rfl rfl ⟨rfl, rfl, ?_⟩
              exact hac
          · refine z_bipush e_L_acts_178 (by decide +kernel) ?_
            refine z_goto e_L_acts_180 ?_
            refine z_callVi (M' := M_X4_feed) (As := [zi 9]) (rest := []) e_L_acts_198 l_RL_15 rfl rfl rfl rfl to ⟨_, _, rfl⟩ (c_X4_feed hX ⟨by omega, by omega⟩) (fun x1 m1 r1 hq => ?_)
            have hac : z_ac E o m1 r1 := ac_2 hX hG (fun hA => by split; exact gg_write hR gR (by omega) (by omega); exact gg_move hR gR) hq
            refine z_pop e_L_acts_201 rfl ?_
            refine z_goto e_L_acts_202 ?_
            refine z_ret e_L_acts_396 rfl rfl rfl ⟨rfl, rfl, ?_⟩
            exact hac
        · refine z_bipush e_L_acts_165 (by decide +kernel) ?_
          refine z_goto e_L_acts_167 ?_
          refine z_callVi (M' := M_X4_feed) (As := [zi 8]) (rest := []) e_L_acts_198 l_RL_15 rfl rfl rfl rfl to ⟨_, _, rfl⟩ (c_X4_feed hX ⟨by omega, by omega⟩) (fun x1 m1 r1 hq => ?_)
          have hac : z_ac E o m1 r1 := ac_2 hX hG (fun hA => by split; exact gg_write hR gR (by omega) (by omega); exact gg_move hR gR) hq
          refine z_pop e_L_acts_201 rfl ?_
          refine z_goto e_L_acts_202 ?_
          refine z_ret e_L_acts_396 rfl rfl rfl ⟨rfl, rfl, ?_⟩
          exact hac
      · refine z_bipush e_L_acts_152 (by decide +kernel) ?_
        refine z_goto e_L_acts_154 ?_
        refine z_callVi (M' := M_X4_feed) (As := [zi 32]) (rest := []) e_L_acts_198 l_RL_15 rfl rfl rfl rfl to ⟨_, _, rfl⟩ (c_X4_feed hX ⟨by omega, by omega⟩) (fun x1 m1 r1 hq => ?_)
        have hac : z_ac E o m1 r1 := ac_2 hX hG (fun hA => by split; exact gg_write hR gR (by omega) (by omega); exact gg_move hR gR) hq
        refine z_pop e_L_acts_201 rfl ?_
        refine z_goto e_L_acts_202 ?_
        refine z_ret e_L_acts_396 rfl rfl rfl ⟨rfl, rfl, ?_⟩
        exact hac
    · refine z_tsIn (off := 181) (tgt := 205) e_L_acts_24 ⟨by omega, by omega⟩ (by omega) (by omega) (by rw [hs24_1]; rfl) rfl ?_
      refine z_aload_n e_L_acts_205 rfl ?_
      refine z_iload e_L_acts_206 rfl ?_
      refine z_iload_n e_L_acts_208 rfl ?_
      refine z_irem e_L_acts_209 (by omega) (by omega) ⟨by omega, by omega⟩ ⟨by omega, by omega⟩ ?_
      have hy209 := And.intro (Int.emod_nonneg (z14 % 40) (show (P 1) ≠ 0 by omega)) (Int.emod_lt_of_pos (z14 % 40) (show 0 < (P 1) by omega))
      generalize (z14 % 40) % (P 1) = y209 at hy209 ⊢
      refine z_iload_n e_L_acts_210 rfl ?_
      refine z_bipush e_L_acts_211 (by decide +kernel) ?_
      refine z_ishr e_L_acts_213 (by omega) ⟨by omega, by omega⟩ (fun z213 hz213a hz213b => ?_)
      obtain ⟨hz213c, hz213d⟩ := hz213b
      refine z_iload_n e_L_acts_214 rfl ?_
      refine z_irem e_L_acts_215 (by omega) (by omega) ⟨by omega, by omega⟩ ⟨by omega, by omega⟩ ?_
      have hy215 := And.intro (Int.emod_nonneg z213 (show (P 0) ≠ 0 by omega)) (Int.emod_lt_of_pos z213 (show 0 < (P 0) by omega))
      generalize z213 % (P 0) = y215 at hy215 ⊢
      refine z_callVi (M' := M_X4_moveTo) (As := [zi y209, zi y215]) (rest := []) e_L_acts_216 l_RL_18 rfl rfl rfl rfl to ⟨_, _, rfl⟩ (c_X4_moveTo hX ⟨by omega, by omega⟩ ⟨by omega, by omega⟩) (fun x1 m1 r1 hq => ?_)
      have hac : z_ac E o m1 r1 := ac_2 hX hG (fun _ => gg_goes hR gR) hq
      refine z_pop e_L_acts_219 rfl ?_
      refine z_goto e_L_acts_220 ?_
      refine z_ret e_L_acts_396 rfl rfl rfl ⟨rfl, rfl, ?_⟩
      exact hac
    · refine z_tsIn (off := 199) (tgt := 223) e_L_acts_24 ⟨by omega, by omega⟩ (by omega) (by omega) (by rw [hs24_1]; rfl) rfl ?_
      refine z_aload_n e_L_acts_223 rfl ?_
      refine z_iload e_L_acts_224 rfl ?_
      refine z_iload_n e_L_acts_226 rfl ?_
      refine z_iconst e_L_acts_227 ?_
      refine z_isub e_L_acts_228 ?_
      refine z_irem e_L_acts_229 (by omega) (by omega) ⟨by omega, by omega⟩ ⟨by omega, by omega⟩ ?_
      have hy229 := And.intro (Int.emod_nonneg (z14 % 40) (show ((P 1) - 1) ≠ 0 by omega)) (Int.emod_lt_of_pos (z14 % 40) (show 0 < ((P 1) - 1) by omega))
      generalize (z14 % 40) % ((P 1) - 1) = y229 at hy229 ⊢
      refine z_iload e_L_acts_230 rfl ?_
      refine z_iload_n e_L_acts_232 rfl ?_
      refine z_iconst e_L_acts_233 ?_
      refine z_isub e_L_acts_234 ?_
      refine z_irem e_L_acts_235 (by omega) (by omega) ⟨by omega, by omega⟩ ⟨by omega, by omega⟩ ?_
      have hy235 := And.intro (Int.emod_nonneg (z14 % 40) (show ((P 1) - 1) ≠ 0 by omega)) (Int.emod_lt_of_pos (z14 % 40) (show 0 < ((P 1) - 1) by omega))
      generalize (z14 % 40) % ((P 1) - 1) = y235 at hy235 ⊢
      refine z_iconst e_L_acts_236 ?_
      refine z_iadd e_L_acts_237 ?_
      refine z_iload_n e_L_acts_238 rfl ?_
      refine z_bipush e_L_acts_239 (by decide +kernel) ?_
      refine z_ishr e_L_acts_241 (by omega) ⟨by omega, by omega⟩ (fun z241 hz241a hz241b => ?_)
      obtain ⟨hz241c, hz241d⟩ := hz241b
      refine z_iload_n e_L_acts_242 rfl ?_
      refine z_iconst e_L_acts_243 ?_
      refine z_isub e_L_acts_244 ?_
      refine z_iload e_L_acts_245 rfl ?_
      refine z_iload_n e_L_acts_247 rfl ?_
      refine z_iconst e_L_acts_248 ?_
      refine z_isub e_L_acts_249 ?_
      refine z_irem e_L_acts_250 (by omega) (by omega) ⟨by omega, by omega⟩ ⟨by omega, by omega⟩ ?_
      have hy250 := And.intro (Int.emod_nonneg (z14 % 40) (show ((P 1) - 1) ≠ 0 by omega)) (Int.emod_lt_of_pos (z14 % 40) (show 0 < ((P 1) - 1) by omega))
      generalize (z14 % 40) % ((P 1) - 1) = y250 at hy250 ⊢
      refine z_isub e_L_acts_251 ?_
      refine z_irem e_L_acts_252 (by omega) (by omega) ⟨by omega, by omega⟩ ⟨by omega, by omega⟩ ?_
      have hy252 := And.intro (Int.emod_nonneg z241 (show (((P 1) - 1) - y250) ≠ 0 by omega)) (Int.emod_lt_of_pos z241 (show 0 < (((P 1) - 1) - y250) by omega))
      generalize z241 % (((P 1) - 1) - y250) = y252 at hy252 ⊢
      refine z_iadd e_L_acts_253 ?_
      refine z_callVi (M' := M_X4_setRegion) (As := [zi y229, zi ((y235 + 1) + y252)]) (rest := []) e_L_acts_254 l_RL_22 rfl rfl rfl rfl to ⟨_, _, rfl⟩ (c_X4_setRegion hX ⟨by omega, by omega⟩ ⟨by omega, by omega⟩) (fun x1 m1 r1 hq => ?_)
      have hac : z_ac E o m1 r1 := ac_2 hX hG (fun _ => gg_reg hR gR) hq
      refine z_pop e_L_acts_257 rfl ?_
      refine z_goto e_L_acts_258 ?_
      refine z_ret e_L_acts_396 rfl rfl rfl ⟨rfl, rfl, ?_⟩
      exact hac
    · refine z_tsIn (off := 237) (tgt := 261) e_L_acts_24 ⟨by omega, by omega⟩ (by omega) (by omega) (by rw [hs24_1]; rfl) rfl ?_
      refine z_aload_n e_L_acts_261 rfl ?_
      refine z_iload e_L_acts_262 rfl ?_
      refine z_iconst e_L_acts_264 ?_
      refine z_irem e_L_acts_265 (by omega) (by omega) ⟨by omega, by omega⟩ (by decide) ?_
      refine z_callVi (M' := M_X4_eraseLine) (As := [zi ((z14 % 40) % 3)]) (rest := []) e_L_acts_266 l_RL_25 rfl rfl rfl rfl to ⟨_, _, rfl⟩ (c_X4_eraseLine hX ⟨by omega, by omega⟩) (fun x1 m1 r1 hq => ?_)
      have hac : z_ac E o m1 r1 := ac_2 hX hG (fun _ => gg_eline hR gR) hq
      refine z_pop e_L_acts_269 rfl ?_
      refine z_goto e_L_acts_270 ?_
      refine z_ret e_L_acts_396 rfl rfl rfl ⟨rfl, rfl, ?_⟩
      exact hac
    · refine z_tsIn (off := 249) (tgt := 273) e_L_acts_24 ⟨by omega, by omega⟩ (by omega) (by omega) (by rw [hs24_1]; rfl) rfl ?_
      refine z_aload_n e_L_acts_273 rfl ?_
      refine z_iload e_L_acts_274 rfl ?_
      refine z_iconst e_L_acts_276 ?_
      refine z_irem e_L_acts_277 (by omega) (by omega) ⟨by omega, by omega⟩ (by decide) ?_
      refine z_callVi (M' := M_X4_eraseScreen) (As := [zi ((z14 % 40) % 3)]) (rest := []) e_L_acts_278 l_RL_28 rfl rfl rfl rfl to ⟨_, _, rfl⟩ (c_X4_eraseScreen hX ⟨by omega, by omega⟩) (fun x1 m1 r1 hq => ?_)
      have hac : z_ac E o m1 r1 := ac_2 hX hG (fun _ => gg_escr hR gR) hq
      refine z_pop e_L_acts_281 rfl ?_
      refine z_goto e_L_acts_282 ?_
      refine z_ret e_L_acts_396 rfl rfl rfl ⟨rfl, rfl, ?_⟩
      exact hac
    · refine z_tsIn (off := 261) (tgt := 285) e_L_acts_24 ⟨by omega, by omega⟩ (by omega) (by omega) (by rw [hs24_1]; rfl) rfl ?_
      refine z_aload_n e_L_acts_285 rfl ?_
      refine z_iconst e_L_acts_286 ?_
      refine z_iload e_L_acts_287 rfl ?_
      refine z_iconst e_L_acts_289 ?_
      refine z_irem e_L_acts_290 (by omega) (by omega) ⟨by omega, by omega⟩ (by decide) ?_
      refine z_iadd e_L_acts_291 ?_
      refine z_callVi (M' := M_X4_insertRows) (As := [zi (1 + ((z14 % 40) % 3))]) (rest := []) e_L_acts_292 l_RL_31 rfl rfl rfl rfl to ⟨_, _, rfl⟩ (c_X4_insertRows hX ⟨by omega, by omega⟩) (fun x1 m1 r1 hq => ?_)
      have hac : z_ac E o m1 r1 := ac_3 hX hG (fun hA => gg_insr hR gR (by omega) (by rw [a4, a3]; omega)) hq
      refine z_pop e_L_acts_295 rfl ?_
      refine z_goto e_L_acts_296 ?_
      refine z_ret e_L_acts_396 rfl rfl rfl ⟨rfl, rfl, ?_⟩
      exact hac
    · refine z_tsIn (off := 275) (tgt := 299) e_L_acts_24 ⟨by omega, by omega⟩ (by omega) (by omega) (by rw [hs24_1]; rfl) rfl ?_
      refine z_aload_n e_L_acts_299 rfl ?_
      refine z_iconst e_L_acts_300 ?_
      refine z_iload e_L_acts_301 rfl ?_
      refine z_iconst e_L_acts_303 ?_
      refine z_irem e_L_acts_304 (by omega) (by omega) ⟨by omega, by omega⟩ (by decide) ?_
      refine z_iadd e_L_acts_305 ?_
      refine z_callVi (M' := M_X4_deleteRows) (As := [zi (1 + ((z14 % 40) % 3))]) (rest := []) e_L_acts_306 l_RL_34 rfl rfl rfl rfl to ⟨_, _, rfl⟩ (c_X4_deleteRows hX ⟨by omega, by omega⟩) (fun x1 m1 r1 hq => ?_)
      have hac : z_ac E o m1 r1 := ac_3 hX hG (fun hA => gg_delr hR gR (by omega) (by rw [a4, a3]; omega)) hq
      refine z_pop e_L_acts_309 rfl ?_
      refine z_goto e_L_acts_310 ?_
      refine z_ret e_L_acts_396 rfl rfl rfl ⟨rfl, rfl, ?_⟩
      exact hac
    · refine z_tsIn (off := 289) (tgt := 313) e_L_acts_24 ⟨by omega, by omega⟩ (by omega) (by omega) (by rw [hs24_1]; rfl) rfl ?_
      refine z_aload_n e_L_acts_313 rfl ?_
      refine z_iconst e_L_acts_314 ?_
      refine z_iload e_L_acts_315 rfl ?_
      refine z_bipush e_L_acts_317 (by decide +kernel) ?_
      refine z_irem e_L_acts_319 (by omega) (by omega) ⟨by omega, by omega⟩ (by decide) ?_
      refine z_iadd e_L_acts_320 ?_
      refine z_callVi (M' := M_X4_insertCells) (As := [zi (1 + ((z14 % 40) % 6))]) (rest := []) e_L_acts_321 l_RL_37 rfl rfl rfl rfl to ⟨_, _, rfl⟩ (c_X4_insertCells hX ⟨by omega, by omega⟩) (fun x1 m1 r1 hq => ?_)
      have hac : z_ac E o m1 r1 := ac_2 hX hG (fun _ => gg_insc hR gR) hq
      refine z_pop e_L_acts_324 rfl ?_
      refine z_goto e_L_acts_325 ?_
      refine z_ret e_L_acts_396 rfl rfl rfl ⟨rfl, rfl, ?_⟩
      exact hac
    · refine z_tsIn (off := 304) (tgt := 328) e_L_acts_24 ⟨by omega, by omega⟩ (by omega) (by omega) (by rw [hs24_1]; rfl) rfl ?_
      refine z_aload_n e_L_acts_328 rfl ?_
      refine z_iconst e_L_acts_329 ?_
      refine z_iload e_L_acts_330 rfl ?_
      refine z_bipush e_L_acts_332 (by decide +kernel) ?_
      refine z_irem e_L_acts_334 (by omega) (by omega) ⟨by omega, by omega⟩ (by decide) ?_
      refine z_iadd e_L_acts_335 ?_
      refine z_callVi (M' := M_X4_deleteCells) (As := [zi (1 + ((z14 % 40) % 6))]) (rest := []) e_L_acts_336 l_RL_40 rfl rfl rfl rfl to ⟨_, _, rfl⟩ (c_X4_deleteCells hX ⟨by omega, by omega⟩) (fun x1 m1 r1 hq => ?_)
      have hac : z_ac E o m1 r1 := ac_2 hX hG (fun _ => gg_delc hR gR) hq
      refine z_pop e_L_acts_339 rfl ?_
      refine z_goto e_L_acts_340 ?_
      refine z_ret e_L_acts_396 rfl rfl rfl ⟨rfl, rfl, ?_⟩
      exact hac
