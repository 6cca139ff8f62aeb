set_option maxHeartbeats 1000000 in
set_option maxRecDepth 100000 in
theorem c_X5_isInRegion {E : z_E} {mi : z_Mi} {mr : z_Mr} {o : Nat} {P : Int → Int} (hM : z_MO E mr o) (hH : p_hd P) : z_mi M_X5_isInRegion E [zo o] (z_u mi (o + 1) P) mr (fun x m r => x = (if P 2 ≤ P 4 ∧ P 4 ≤ P 3 then 1 else 0) ∧ m = z_u mi (o + 1) P ∧ r = mr) := by
  obtain ⟨t0, t1, t2, t3, t4, t5, t6, t7, q0, q2, q3, q4, q5, q6, q7⟩ := id hM
  obtain ⟨hw0, hw1, hh0, hh1, hf0, hf1, hf2, hr0, hr1, hc0, hc1, hp0, hp1, hk0, hk1, hi0, hi1, hkp, hP⟩ := id hH
  refine z_ofi (ls := [some (zo o)]) rfl (fun _ _ => trivial) ⟨rfl, rfl⟩ (Nat.le_of_ble_eq_true rfl) rfl ?_
  refine z_aload_n e_X5_isInRegion_0 rfl ?_
  refine z_getr (fi := 0) (r := some (o + 1)) e_X5_isInRegion_1 f_RX5_7 t0 rfl rfl (q0) ?_
  refine z_iconst e_X5_isInRegion_4 ?_
  refine z_iald (x := (P 4)) e_X5_isInRegion_5 t1 (by decide) (by decide) (by decide) (congrFun (z_us _ _ _) _) ?_
  refine z_aload_n e_X5_isInRegion_6 rfl ?_
  refine z_getr (fi := 0) (r := some (o + 1)) e_X5_isInRegion_7 f_RX5_7 t0 rfl rfl (q0) ?_
  refine z_iconst e_X5_isInRegion_10 ?_
  refine z_iald (x := (P 2)) e_X5_isInRegion_11 t1 (by decide) (by decide) (by decide) (congrFun (z_us _ _ _) _) ?_
  refine z_aload_n e_X5_isInRegion_12 rfl ?_
  refine z_getr (fi := 0) (r := some (o + 1)) e_X5_isInRegion_13 f_RX5_7 t0 rfl rfl (q0) ?_
  refine z_iconst e_X5_isInRegion_16 ?_
  refine z_iald (x := (P 3)) e_X5_isInRegion_17 t1 (by decide) (by decide) (by decide) (congrFun (z_us _ _ _) _) ?_
  refine z_callSi (M' := M_X5_in) (As := [zi (P 4), zi (P 2), zi (P 3)]) (rest := []) e_X5_isInRegion_18 l_RX5_47 rfl rfl rfl rfl (c_X5_in ⟨by omega, by omega⟩ ⟨by omega, by omega⟩ ⟨by omega, by omega⟩) (fun xq mq rq hq => ?_)
  obtain ⟨e1q, e2q, e3q⟩ := hq
  subst xq mq rq
  refine z_iret e_X5_isInRegion_21 (Or.inr ⟨rfl, by split <;> simp⟩) rfl rfl ⟨rfl, _, rfl, ?_⟩
  exact ⟨rfl, rfl, rfl⟩
set_option maxHeartbeats 1000000 in
set_option maxRecDepth 100000 in
theorem c_X5_filledRows {E : z_E} {mi : z_Mi} {mr : z_Mr} {o : Nat} {P : Int → Int} {a b : Int} (hM : z_MO E mr o) (hH : p_hd P) (h0 : 0 ≤ a) (h1 : a ≤ b + 1) (h2 : b ≤ 7) : z_mi M_X5_filledRows E [zo o, zi a, zi b] (z_u mi (o + 1) P) mr (fun x m r => x = m_frows P a (b + 1 - a).toNat ∧ m = z_u mi (o + 1) P ∧ r = mr) := by
  obtain ⟨t0, t1, t2, t3, t4, t5, t6, t7, q0, q2, q3, q4, q5, q6, q7⟩ := id hM
  obtain ⟨hw0, hw1, hh0, hh1, hf0, hf1, hf2, hr0, hr1, hc0, hc1, hp0, hp1, hk0, hk1, hi0, hi1, hkp, hP⟩ := id hH
  refine z_ofi (ls := [some (zo o), some (zi a), some (zi b), none, none]) rfl (fun _ _ => trivial) ⟨rfl, rfl⟩ (Nat.le_of_ble_eq_true rfl) rfl ?_
  refine z_iconst e_X5_filledRows_0 ?_
  refine z_istore_n (ls' := [some (zo o), some (zi a), some (zi b), some (zi 0), none]) e_X5_filledRows_1 rfl rfl rfl ?_
  refine z_iload_n e_X5_filledRows_2 rfl ?_
  refine z_istore (ls' := [some (zo o), some (zi a), some (zi b), some (zi 0), some (zi a)]) e_X5_filledRows_3 rfl rfl rfl ?_
  have loop5 : ∀ (nn : Nat) (n : Int) (c : Int), (b + 1 - c).toNat = nn → (a ≤ c ∧ c ≤ b + 1 ∧ n = m_frows P a (c - a).toNat) → z_A M_X5_filledRows E 0 0 5 [some (zo o), some (zi a), some (zi b), some (zi n), some (zi c)] [] (z_u mi (o + 1) P) mr (z_qi E (fun x m r => x = m_frows P a (b + 1 - a).toNat ∧ m = z_u mi (o + 1) P ∧ r = mr)) := by
    intro nn
    induction nn using Nat.strongRecOn with
    | _ nn ih =>
      intro n c hmeas hinv
      obtain ⟨hl0, hl1, hn⟩ := hinv
      refine z_iload e_X5_filledRows_5 rfl ?_
      refine z_iload_n e_X5_filledRows_7 rfl ?_
      refine z_icmp_gt e_X5_filledRows_8 ⟨by omega, by omega⟩ ⟨by omega, by omega⟩ (fun h8_1 => ?_) (fun h8_1 => ?_)
      · refine z_iload_n e_X5_filledRows_37 rfl ?_
        refine z_iret e_X5_filledRows_38 (Or.inl rfl) rfl rfl ⟨rfl, _, rfl, ?_⟩
        refine ⟨?_, rfl, rfl⟩
        rw [hn, show c = b + 1 by omega]
      · refine z_iload_n e_X5_filledRows_11 rfl ?_
        refine z_aload_n e_X5_filledRows_12 rfl ?_
        refine z_bipush e_X5_filledRows_13 (by decide +kernel) ?_
        refine z_iload e_X5_filledRows_15 rfl ?_
        refine z_iadd e_X5_filledRows_17 ?_
        refine z_callVi (M' := M_X5_filled) (As := [zi (24 + c)]) (rest := [zi n]) e_X5_filledRows_18 l_RX5_68 rfl rfl rfl rfl t0 ⟨_, _, rfl⟩ (c_X5_filled hM (by omega) (by omega) (by omega) (by omega) hP) (fun xq mq rq hq => ?_)
        obtain ⟨e1q, e2q, e3q⟩ := hq
        subst xq mq rq
        have hfb := m_fill_b (P := P) (s := (24 + c)) (by omega)
        refine z_if_le e_X5_filledRows_21 ⟨by omega, by omega⟩ (fun h21_2 => ?_) (fun h21_2 => ?_)
        · refine z_iconst e_X5_filledRows_28 ?_
          refine z_iadd e_X5_filledRows_29 ?_
          refine z_istore_n (ls' := [some (zo o), some (zi a), some (zi b), some (zi (n + 0)), some (zi c)]) e_X5_filledRows_30 rfl rfl rfl ?_
          refine z_iinc (y := (c + 1)) (ls' := [some (zo o), some (zi a), some (zi b), some (zi (n + 0)), some (zi (c + 1))]) e_X5_filledRows_31 rfl rfl rfl rfl rfl ?_
          refine z_goto e_X5_filledRows_34 ?_
          exact ih _ (by omega) (n + 0) (c + 1) rfl (⟨by omega, by omega, by rw [hn, show c + 1 - a = (c - a) + 1 by omega]; unfold m_frows; rw [n_cnt_s _ (by omega), show a + (c - a) = c by omega]; rw [if_neg (by omega)]⟩)
        · refine z_iconst e_X5_filledRows_24 ?_
          refine z_goto e_X5_filledRows_25 ?_
          refine z_iadd e_X5_filledRows_29 ?_
          refine z_istore_n (ls' := [some (zo o), some (zi a), some (zi b), some (zi (n + 1)), some (zi c)]) e_X5_filledRows_30 rfl rfl rfl ?_
          refine z_iinc (y := (c + 1)) (ls' := [some (zo o), some (zi a), some (zi b), some (zi (n + 1)), some (zi (c + 1))]) e_X5_filledRows_31 rfl rfl rfl rfl rfl ?_
          refine z_goto e_X5_filledRows_34 ?_
          exact ih _ (by omega) (n + 1) (c + 1) rfl (⟨by omega, by omega, by rw [hn, show c + 1 - a = (c - a) + 1 by omega]; unfold m_frows; rw [n_cnt_s _ (by omega), show a + (c - a) = c by omega]; rw [if_pos (by omega)]⟩)
  exact loop5 _ 0 a rfl (⟨by omega, by omega, by rw [show (a - a).toNat = 0 by omega]; rfl⟩)
