set_option maxHeartbeats 4000000 in
set_option maxRecDepth 100000 in
theorem c_X5_filledAll {E : z_E} {mi : z_Mi} {mr : z_Mr} {o : Nat} {P : Int → Int} (hM : z_MO E mr o) (hH : p_hd P) : z_mi M_X5_filledAll E [zo o] (z_u mi (o + 1) P) mr (fun x m r => x = m_fillA P ∧ m = z_u mi (o + 1) P ∧ r = mr) := by
  obtain ⟨t0, t1, t2, t3, t4, t5, t6, t7, q0, q2, q3, q4, q5, q6, q7⟩ := id hM
  obtain ⟨hw0, hw1, hh0, hh1, hf0, hf1, hf2, hr0, hr1, hc0, hc1, hp0, hp1, hk0, hk1, hi0, hi1, hkp, hP⟩ := id hH
  refine z_ofi (ls := [some (zo o), none, none]) rfl (fun _ _ => trivial) ⟨rfl, rfl⟩ (Nat.le_of_ble_eq_true rfl) rfl ?_
  refine z_iconst e_X5_filledAll_0 ?_
  refine z_istore_n (ls' := [some (zo o), some (zi 0), none]) e_X5_filledAll_1 rfl rfl rfl ?_
  refine z_iconst e_X5_filledAll_2 ?_
  refine z_istore_n (ls' := [some (zo o), some (zi 0), some (zi 0)]) e_X5_filledAll_3 rfl rfl rfl ?_
  have loop4 : ∀ (nn : Nat) (n : Int) (c : Int), (P 1 - c).toNat = nn → (0 ≤ c ∧ c ≤ P 1 ∧ n = n_sum (fun r => m_fill P (24 + r)) c.toNat) → z_A M_X5_filledAll E 0 0 4 [some (zo o), some (zi n), some (zi c)] [] (z_u mi (o + 1) P) mr (z_qi E (fun x m r => x = m_fillA P ∧ m = z_u mi (o + 1) P ∧ r = mr)) := by
    intro nn
    induction nn using Nat.strongRecOn with
    | _ nn ih =>
      intro n c hmeas hinv
      obtain ⟨hl0, hl1, hn⟩ := hinv
      refine z_iload_n e_X5_filledAll_4 rfl ?_
      refine z_aload_n e_X5_filledAll_5 rfl ?_
      refine z_getr (fi := 0) (r := some (o + 1)) e_X5_filledAll_6 f_RX5_7 t0 rfl rfl (q0) ?_
      refine z_iconst e_X5_filledAll_9 ?_
      refine z_iald (x := (P 1)) e_X5_filledAll_10 t1 (by decide) (by decide) (by decide) (congrFun (z_us _ _ _) _) ?_
      refine z_icmp_ge e_X5_filledAll_11 ⟨by omega, by omega⟩ ⟨by omega, by omega⟩ (fun h11_1 => ?_) (fun h11_1 => ?_)
      · refine z_iload_n e_X5_filledAll_31 rfl ?_
        refine z_iret e_X5_filledAll_32 (Or.inl rfl) rfl rfl ⟨rfl, _, rfl, ?_⟩
        refine ⟨?_, rfl, rfl⟩
        rw [hn, show c = P 1 by omega]
        rfl
      · refine z_iload_n e_X5_filledAll_14 rfl ?_
        refine z_aload_n e_X5_filledAll_15 rfl ?_
        refine z_bipush e_X5_filledAll_16 (by decide +kernel) ?_
        refine z_iload_n e_X5_filledAll_18 rfl ?_
        refine z_iadd e_X5_filledAll_19 ?_
        refine z_callVi (M' := M_X5_filled) (As := [zi (24 + c)]) (rest := [zi n]) e_X5_filledAll_20 l_RX5_68 rfl rfl rfl rfl t0 ⟨_, _, rfl⟩ (c_X5_filled hM (by omega) (by omega) (by omega) (by omega) hP) (fun xq mq rq hq => ?_)
        obtain ⟨e1q, e2q, e3q⟩ := hq
        subst xq mq rq
        have hfb := m_fill_b (P := P) (s := (24 + c)) (by omega)
        refine z_iadd e_X5_filledAll_23 ?_
        refine z_istore_n (ls' := [some (zo o), some (zi (n + (m_fill P (24 + c)))), some (zi c)]) e_X5_filledAll_24 rfl rfl rfl ?_
        refine z_iinc (y := (c + 1)) (ls' := [some (zo o), some (zi (n + (m_fill P (24 + c)))), some (zi (c + 1))]) e_X5_filledAll_25 rfl rfl rfl rfl rfl ?_
        refine z_goto e_X5_filledAll_28 ?_
        exact ih _ (by omega) (n + (m_fill P (24 + c))) (c + 1) rfl (⟨by omega, by omega, by rw [n_sum_s _ hl0, hn]⟩)
  exact loop4 _ 0 0 rfl (⟨by omega, by omega, rfl⟩)
set_option maxHeartbeats 4000000 in
set_option maxRecDepth 100000 in
theorem c_X5_keepsRow {E : z_E} {mi : z_Mi} {mr : z_Mr} {o : Nat} {P : Int → Int} {s : Int} (hM : z_MO E mr o) (hH : p_hd P) (h0 : 24 ≤ s) (h1 : s ≤ 31) : z_mv M_X5_keepsRow E [zo o, zi s] (z_u mi (o + 1) P) mr (fun m r => m = z_u mi (o + 1) (p_keep P s) ∧ r = mr) := by
  obtain ⟨t0, t1, t2, t3, t4, t5, t6, t7, q0, q2, q3, q4, q5, q6, q7⟩ := id hM
  obtain ⟨hw0, hw1, hh0, hh1, hf0, hf1, hf2, hr0, hr1, hc0, hc1, hp0, hp1, hk0, hk1, hi0, hi1, hkp, hP⟩ := id hH
  refine z_ofv (ls := [some (zo o), some (zi s), none]) rfl (fun _ _ => trivial) ⟨rfl, rfl⟩ (Nat.le_of_ble_eq_true rfl) rfl ?_
  refine z_aload_n e_X5_keepsRow_0 rfl ?_
  refine z_getr (fi := 0) (r := some (o + 1)) e_X5_keepsRow_1 f_RX5_7 t0 rfl rfl (q0) ?_
  refine z_bipush e_X5_keepsRow_4 (by decide +kernel) ?_
  refine z_iald (x := (P 14)) e_X5_keepsRow_6 t1 (by decide) (by decide) (by decide) (congrFun (z_us _ _ _) _) ?_
  refine z_bipush e_X5_keepsRow_7 (by decide +kernel) ?_
  refine z_icmp_ne e_X5_keepsRow_9 ⟨by omega, by omega⟩ (by decide) (fun h9_1 => ?_) (fun h9_1 => ?_)
  · refine z_aload_n e_X5_keepsRow_45 rfl ?_
    refine z_iload_n e_X5_keepsRow_46 rfl ?_
    refine z_aload_n e_X5_keepsRow_47 rfl ?_
    refine z_getr (fi := 0) (r := some (o + 1)) e_X5_keepsRow_48 f_RX5_7 t0 rfl rfl (q0) ?_
    refine z_bipush e_X5_keepsRow_51 (by decide +kernel) ?_
    refine z_iald (x := (P 14)) e_X5_keepsRow_53 t1 (by decide) (by decide) (by decide) (congrFun (z_us _ _ _) _) ?_
    refine z_callVv (M' := M_X5_copies) (As := [zi s, zi (P 14)]) (rest := []) e_X5_keepsRow_54 l_RX5_72 rfl rfl rfl rfl t0 ⟨_, _, rfl⟩ (c_X5_copies hM (by omega) (by omega) (by omega) (by omega) (by omega)) (fun mq rq hq => ?_)
    obtain ⟨e2q, e3q⟩ := hq
    subst mq rq
    refine z_aload_n e_X5_keepsRow_57 rfl ?_
    refine z_getr (fi := 0) (r := some (o + 1)) e_X5_keepsRow_58 f_RX5_7 t0 rfl rfl (q0) ?_
    refine z_bipush e_X5_keepsRow_61 (by decide +kernel) ?_
    refine z_dup2 e_X5_keepsRow_63 rfl rfl ?_
    refine z_iald (x := (P 14)) e_X5_keepsRow_64 t1 (by decide) (by decide) (by decide) ((congrFun (z_us _ _ _) _).trans (p_upd_hd _ _ (by omega))) ?_
    refine z_iconst e_X5_keepsRow_65 ?_
    refine z_iadd e_X5_keepsRow_66 ?_
    refine z_iastU e_X5_keepsRow_67 t1 (by decide) (by decide) (by decide) ?_
    refine z_ret e_X5_keepsRow_68 rfl rfl rfl ⟨rfl, rfl, ?_⟩
    refine ⟨congrArg _ ?_, rfl⟩
    unfold p_keep
    rw [if_neg (by assumption)]
  · refine z_iconst e_X5_keepsRow_12 ?_
    refine z_istore_n (ls' := [some (zo o), some (zi s), some (zi 1)]) e_X5_keepsRow_13 rfl rfl rfl ?_
    have loop14 : ∀ (nn : Nat) (k : Int) (P1 : Int → Int), (24 - k).toNat = nn → (1 ≤ k ∧ k ≤ 24 ∧ P1 = p_sh P 0 (k - 1)) → z_A M_X5_keepsRow E 0 0 14 [some (zo o), some (zi s), some (zi k)] [] (z_u mi (o + 1) P1) mr (z_qv E (fun m r => m = z_u mi (o + 1) (p_keep P s) ∧ r = mr)) := by
      intro nn
      induction nn using Nat.strongRecOn with
      | _ nn ih =>
        intro k P1 hmeas hinv
        obtain ⟨hl0, hl1, hP1⟩ := hinv
        have e14 : P1 14 = P 14 := by rw [hP1]; exact p_sh_hd (by decide) (by decide)
        refine z_iload_n e_X5_keepsRow_14 rfl ?_
        refine z_bipush e_X5_keepsRow_15 (by decide +kernel) ?_
        refine z_icmp_ge e_X5_keepsRow_17 ⟨by omega, by omega⟩ (by decide) (fun h17_2 => ?_) (fun h17_2 => ?_)
        · refine z_aload_n e_X5_keepsRow_34 rfl ?_
          refine z_getr (fi := 0) (r := some (o + 1)) e_X5_keepsRow_35 f_RX5_7 t0 rfl rfl (q0) ?_
          refine z_bipush e_X5_keepsRow_38 (by decide +kernel) ?_
          refine z_dup2 e_X5_keepsRow_40 rfl rfl ?_
          refine z_iald (x := 24) e_X5_keepsRow_41 t1 (by decide) (by decide) (by decide) ((congrFun (z_us _ _ _) _).trans (by omega)) ?_
          refine z_iconst e_X5_keepsRow_42 ?_
          refine z_isub e_X5_keepsRow_43 ?_
          refine z_iastU e_X5_keepsRow_44 t1 (by decide) (by decide) (by decide) ?_
          refine z_aload_n e_X5_keepsRow_45 rfl ?_
          refine z_iload_n e_X5_keepsRow_46 rfl ?_
          refine z_aload_n e_X5_keepsRow_47 rfl ?_
          refine z_getr (fi := 0) (r := some (o + 1)) e_X5_keepsRow_48 f_RX5_7 t0 rfl rfl (q0) ?_
          refine z_bipush e_X5_keepsRow_51 (by decide +kernel) ?_
          refine z_iald (x := (24 - 1)) e_X5_keepsRow_53 t1 (by decide) (by decide) (by decide) ((congrFun (z_us _ _ _) _).trans (z_vs _ _ _)) ?_
          refine z_callVv (M' := M_X5_copies) (As := [zi s, zi (24 - 1)]) (rest := []) e_X5_keepsRow_54 l_RX5_72 rfl rfl rfl rfl t0 ⟨_, _, rfl⟩ (c_X5_copies hM (by omega) (by omega) (by omega) (by omega) (by omega)) (fun mq rq hq => ?_)
          obtain ⟨e2q, e3q⟩ := hq
          subst mq rq
          refine z_aload_n e_X5_keepsRow_57 rfl ?_
          refine z_getr (fi := 0) (r := some (o + 1)) e_X5_keepsRow_58 f_RX5_7 t0 rfl rfl (q0) ?_
          refine z_bipush e_X5_keepsRow_61 (by decide +kernel) ?_
          refine z_dup2 e_X5_keepsRow_63 rfl rfl ?_
          refine z_iald (x := (24 - 1)) e_X5_keepsRow_64 t1 (by decide) (by decide) (by decide) ((congrFun (z_us _ _ _) _).trans ((p_upd_hd _ _ (by omega)).trans (z_vs _ _ _))) ?_
          refine z_iconst e_X5_keepsRow_65 ?_
          refine z_iadd e_X5_keepsRow_66 ?_
          refine z_iastU e_X5_keepsRow_67 t1 (by decide) (by decide) (by decide) ?_
          refine z_ret e_X5_keepsRow_68 rfl rfl rfl ⟨rfl, rfl, ?_⟩
          refine ⟨congrArg _ ?_, rfl⟩
          unfold p_keep
          rw [if_pos (by assumption)]
          have hk : k = 24 := by omega
          subst hk
          rw [hP1]
          funext j
          simp only [z_v, p_upd, p_row, p_sh]
          grind
        · refine z_aload_n e_X5_keepsRow_20 rfl ?_
          refine z_iload_n e_X5_keepsRow_21 rfl ?_
          refine z_iload_n e_X5_keepsRow_22 rfl ?_
          refine z_iconst e_X5_keepsRow_23 ?_
          refine z_isub e_X5_keepsRow_24 ?_
          refine z_callVv (M' := M_X5_copies) (As := [zi k, zi (k - 1)]) (rest := []) e_X5_keepsRow_25 l_RX5_72 rfl rfl rfl rfl t0 ⟨_, _, rfl⟩ (c_X5_copies hM (by omega) (by omega) (by omega) (by omega) (by omega)) (fun mq rq hq => ?_)
          obtain ⟨e2q, e3q⟩ := hq
          subst mq rq
          refine z_iinc (y := (k + 1)) (ls' := [some (zo o), some (zi s), some (zi (k + 1))]) e_X5_keepsRow_28 rfl rfl rfl rfl rfl ?_
          refine z_goto e_X5_keepsRow_31 ?_
          exact ih _ (by omega) (k + 1) (p_upd P1 (k - 1) (p_row P1 k)) rfl (⟨by omega, by omega, by rw [show k + 1 - 1 = k by omega]; exact p_sh_s hP1 (by omega) (by omega)⟩)
    exact loop14 _ 1 P rfl (⟨by omega, by omega, (p_sh_0 P 0).symm⟩)
set_option maxHeartbeats 4000000 in
set_option maxRecDepth 100000 in
theorem c_X5_scrolls {E : z_E} {mi : z_Mi} {mr : z_Mr} {o : Nat} {P : Int → Int} (hM : z_MO E mr o) (hH : p_hd P) : z_mv M_X5_scrolls E [zo o] (z_u mi (o + 1) P) mr (fun m r => m = z_u mi (o + 1) (p_scroll P) ∧ r = mr) := by
  obtain ⟨t0, t1, t2, t3, t4, t5, t6, t7, q0, q2, q3, q4, q5, q6, q7⟩ := id hM
  obtain ⟨hw0, hw1, hh0, hh1, hf0, hf1, hf2, hr0, hr1, hc0, hc1, hp0, hp1, hk0, hk1, hi0, hi1, hkp, hP⟩ := id hH
  refine z_ofv (ls := [some (zo o), none, none, none]) rfl (fun _ _ => trivial) ⟨rfl, rfl⟩ (Nat.le_of_ble_eq_true rfl) rfl ?_
  have join32_0 : ∀ (P1 : Int → Int), P1 = p_scr1 P → z_A M_X5_scrolls E 0 0 32 [some (zo o), some (zi (P 2)), some (zi (P 3)), none] [] (z_u mi (o + 1) P1) mr (z_qv E (fun m r => m = z_u mi (o + 1) (p_scroll P) ∧ r = mr)) := by
    intro P1 hj
    refine z_iload_n e_X5_scrolls_32 rfl ?_
    refine z_istore_n (ls' := [some (zo o), some (zi (P 2)), some (zi (P 3)), some (zi (P 2))]) e_X5_scrolls_33 rfl rfl rfl ?_
    have loop34 : ∀ (nn : Nat) (k : Int) (P2 : Int → Int), (P 3 - k).toNat = nn → (P 2 ≤ k ∧ k ≤ P 3 ∧ P2 = p_sh P1 (24 + P 2) (24 + k)) → z_A M_X5_scrolls E 0 0 34 [some (zo o), some (zi (P 2)), some (zi (P 3)), some (zi k)] [] (z_u mi (o + 1) P2) mr (z_qv E (fun m r => m = z_u mi (o + 1) (p_scroll P) ∧ r = mr)) := by
      intro nn
      induction nn using Nat.strongRecOn with
      | _ nn ih =>
        intro k P2 hmeas hinv
        obtain ⟨hl0, hl1, hP2⟩ := hinv
        refine z_iload_n e_X5_scrolls_34 rfl ?_
        refine z_iload_n e_X5_scrolls_35 rfl ?_
        refine z_icmp_ge e_X5_scrolls_36 ⟨by omega, by omega⟩ ⟨by omega, by omega⟩ (fun h36_2 => ?_) (fun h36_2 => ?_)
        · refine z_aload_n e_X5_scrolls_59 rfl ?_
          refine z_bipush e_X5_scrolls_60 (by decide +kernel) ?_
          refine z_iload_n e_X5_scrolls_62 rfl ?_
          refine z_iadd e_X5_scrolls_63 ?_
          refine z_iconst e_X5_scrolls_64 ?_
          refine z_isub e_X5_scrolls_65 ?_
          refine z_callVv (M' := M_X5_unwraps) (As := [zi ((24 + (P 3)) - 1)]) (rest := []) e_X5_scrolls_66 l_RX5_44 rfl rfl rfl rfl t0 ⟨_, _, rfl⟩ (c_X5_unwraps hM (by omega) (by omega)) (fun mq rq hq => ?_)
          obtain ⟨e2q, e3q⟩ := hq
          subst mq rq
          refine z_aload_n e_X5_scrolls_69 rfl ?_
          refine z_bipush e_X5_scrolls_70 (by decide +kernel) ?_
          refine z_iload_n e_X5_scrolls_72 rfl ?_
          refine z_iadd e_X5_scrolls_73 ?_
          refine z_callVv (M' := M_X5_blanks) (As := [zi (24 + (P 3))]) (rest := []) e_X5_scrolls_74 l_RX5_32 rfl rfl rfl rfl t0 ⟨_, _, rfl⟩ (c_X5_blanks hM (by omega) (by omega)) (fun mq rq hq => ?_)
          obtain ⟨e2q, e3q⟩ := hq
          subst mq rq
          refine z_ret e_X5_scrolls_77 rfl rfl rfl ⟨rfl, rfl, ?_⟩
          refine ⟨congrArg _ ?_, rfl⟩
          have hk : k = P 3 := by omega
          subst hk
          unfold p_scroll p_scr2
          rw [hP2, hj]
        · refine z_aload_n e_X5_scrolls_39 rfl ?_
          refine z_bipush e_X5_scrolls_40 (by decide +kernel) ?_
          refine z_iload_n e_X5_scrolls_42 rfl ?_
          refine z_iadd e_X5_scrolls_43 ?_
          refine z_iconst e_X5_scrolls_44 ?_
          refine z_iadd e_X5_scrolls_45 ?_
          refine z_bipush e_X5_scrolls_46 (by decide +kernel) ?_
          refine z_iload_n e_X5_scrolls_48 rfl ?_
          refine z_iadd e_X5_scrolls_49 ?_
          refine z_callVv (M' := M_X5_copies) (As := [zi ((24 + k) + 1), zi (24 + k)]) (rest := []) e_X5_scrolls_50 l_RX5_72 rfl rfl rfl rfl t0 ⟨_, _, rfl⟩ (c_X5_copies hM (by omega) (by omega) (by omega) (by omega) (by omega)) (fun mq rq hq => ?_)
          obtain ⟨e2q, e3q⟩ := hq
          subst mq rq
          refine z_iinc (y := (k + 1)) (ls' := [some (zo o), some (zi (P 2)), some (zi (P 3)), some (zi (k + 1))]) e_X5_scrolls_53 rfl rfl rfl rfl rfl ?_
          refine z_goto e_X5_scrolls_56 ?_
          exact ih _ (by omega) (k + 1) (p_upd P2 (24 + k) (p_row P2 ((24 + k) + 1))) rfl (⟨by omega, by omega, by rw [p_sh_s hP2 (by omega) rfl, show 24 + k + 1 = 24 + (k + 1) by omega]⟩)
    exact loop34 _ (P 2) P1 rfl (⟨by omega, by omega, (p_sh_0 P1 _).symm⟩)
  refine z_aload_n e_X5_scrolls_0 rfl ?_
  refine z_getr (fi := 0) (r := some (o + 1)) e_X5_scrolls_1 f_RX5_7 t0 rfl rfl (q0) ?_
  refine z_iconst e_X5_scrolls_4 ?_
  refine z_iald (x := (P 2)) e_X5_scrolls_5 t1 (by decide) (by decide) (by decide) (congrFun (z_us _ _ _) _) ?_
  refine z_istore_n (ls' := [some (zo o), some (zi (P 2)), none, none]) e_X5_scrolls_6 rfl rfl rfl ?_
  refine z_aload_n e_X5_scrolls_7 rfl ?_
  refine z_getr (fi := 0) (r := some (o + 1)) e_X5_scrolls_8 f_RX5_7 t0 rfl rfl (q0) ?_
  refine z_iconst e_X5_scrolls_11 ?_
  refine z_iald (x := (P 3)) e_X5_scrolls_12 t1 (by decide) (by decide) (by decide) (congrFun (z_us _ _ _) _) ?_
  refine z_istore_n (ls' := [some (zo o), some (zi (P 2)), some (zi (P 3)), none]) e_X5_scrolls_13 rfl rfl rfl ?_
  refine z_iload_n e_X5_scrolls_14 rfl ?_
  refine z_if_ne e_X5_scrolls_15 ⟨by omega, by omega⟩ (fun h15_3 => ?_) (fun h15_3 => ?_)
  · refine z_aload_n e_X5_scrolls_27 rfl ?_
    refine z_iload_n e_X5_scrolls_28 rfl ?_
    refine z_callVv (M' := M_X5_unwrapsAhead) (As := [zi (P 2)]) (rest := []) e_X5_scrolls_29 l_RX5_79 rfl rfl rfl rfl t0 ⟨_, _, rfl⟩ (c_X5_unwrapsAhead hM (by omega) ⟨by omega, by omega⟩ (by omega) (by omega)) (fun mq rq hq => ?_)
    obtain ⟨e2q, e3q⟩ := hq
    subst mq rq
    exact join32_0 (p_ahead P (P 2)) ((if_neg (by assumption)).symm)
  · refine z_aload_n e_X5_scrolls_18 rfl ?_
    refine z_bipush e_X5_scrolls_19 (by decide +kernel) ?_
    refine z_callVv (M' := M_X5_keepsRow) (As := [zi 24]) (rest := []) e_X5_scrolls_21 l_RX5_76 rfl rfl rfl rfl t0 ⟨_, _, rfl⟩ (c_X5_keepsRow hM hH (by omega) (by omega)) (fun mq rq hq => ?_)
    obtain ⟨e2q, e3q⟩ := hq
    subst mq rq
    refine z_goto e_X5_scrolls_24 ?_
    exact join32_0 (p_keep P 24) ((if_pos (by assumption)).symm)
set_option maxHeartbeats 4000000 in
set_option maxRecDepth 100000 in
theorem c_X5_feedsLine {E : z_E} {mi : z_Mi} {mr : z_Mr} {o : Nat} {P : Int → Int} (hM : z_MO E mr o) (hH : p_hd P) : z_mi M_X5_feedsLine E [zo o] (z_u mi (o + 1) P) mr (fun x m r => x = (if P 4 = P 3 ∨ P 4 ≠ P 1 - 1 then 1 else 0) ∧ m = z_u mi (o + 1) (p_fl P) ∧ r = mr) := by
  obtain ⟨t0, t1, t2, t3, t4, t5, t6, t7, q0, q2, q3, q4, q5, q6, q7⟩ := id hM
  obtain ⟨hw0, hw1, hh0, hh1, hf0, hf1, hf2, hr0, hr1, hc0, hc1, hp0, hp1, hk0, hk1, hi0, hi1, hkp, hP⟩ := id hH
  refine z_ofi (ls := [some (zo o)]) rfl (fun _ _ => trivial) ⟨rfl, rfl⟩ (Nat.le_of_ble_eq_true rfl) rfl ?_
  refine z_aload_n e_X5_feedsLine_0 rfl ?_
  refine z_getr (fi := 0) (r := some (o + 1)) e_X5_feedsLine_1 f_RX5_7 t0 rfl rfl (q0) ?_
  refine z_iconst e_X5_feedsLine_4 ?_
  refine z_iald (x := (P 4)) e_X5_feedsLine_5 t1 (by decide) (by decide) (by decide) (congrFun (z_us _ _ _) _) ?_
  refine z_aload_n e_X5_feedsLine_6 rfl ?_
  refine z_getr (fi := 0) (r := some (o + 1)) e_X5_feedsLine_7 f_RX5_7 t0 rfl rfl (q0) ?_
  refine z_iconst e_X5_feedsLine_10 ?_
  refine z_iald (x := (P 3)) e_X5_feedsLine_11 t1 (by decide) (by decide) (by decide) (congrFun (z_us _ _ _) _) ?_
  refine z_icmp_ne e_X5_feedsLine_12 ⟨by omega, by omega⟩ ⟨by omega, by omega⟩ (fun h12_1 => ?_) (fun h12_1 => ?_)
  · refine z_aload_n e_X5_feedsLine_21 rfl ?_
    refine z_getr (fi := 0) (r := some (o + 1)) e_X5_feedsLine_22 f_RX5_7 t0 rfl rfl (q0) ?_
    refine z_iconst e_X5_feedsLine_25 ?_
    refine z_iald (x := (P 4)) e_X5_feedsLine_26 t1 (by decide) (by decide) (by decide) (congrFun (z_us _ _ _) _) ?_
    refine z_aload_n e_X5_feedsLine_27 rfl ?_
    refine z_getr (fi := 0) (r := some (o + 1)) e_X5_feedsLine_28 f_RX5_7 t0 rfl rfl (q0) ?_
    refine z_iconst e_X5_feedsLine_31 ?_
    refine z_iald (x := (P 1)) e_X5_feedsLine_32 t1 (by decide) (by decide) (by decide) (congrFun (z_us _ _ _) _) ?_
    refine z_iconst e_X5_feedsLine_33 ?_
    refine z_isub e_X5_feedsLine_34 ?_
    refine z_icmp_ne e_X5_feedsLine_35 ⟨by omega, by omega⟩ ⟨by omega, by omega⟩ (fun h35_2 => ?_) (fun h35_2 => ?_)
    · refine z_aload_n e_X5_feedsLine_40 rfl ?_
      refine z_getr (fi := 0) (r := some (o + 1)) e_X5_feedsLine_41 f_RX5_7 t0 rfl rfl (q0) ?_
      refine z_iconst e_X5_feedsLine_44 ?_
      refine z_dup2 e_X5_feedsLine_45 rfl rfl ?_
      refine z_iald (x := (P 4)) e_X5_feedsLine_46 t1 (by decide) (by decide) (by decide) (congrFun (z_us _ _ _) _) ?_
      refine z_iconst e_X5_feedsLine_47 ?_
      refine z_iadd e_X5_feedsLine_48 ?_
      refine z_iastU e_X5_feedsLine_49 t1 (by decide) (by decide) (by decide) ?_
      refine z_iconst e_X5_feedsLine_50 ?_
      refine z_iret e_X5_feedsLine_51 (Or.inr ⟨rfl, Or.inr rfl⟩) rfl rfl ⟨rfl, _, rfl, ?_⟩
      refine ⟨?_, congrArg _ ?_, rfl⟩
      · rw [if_pos (by omega)]
      · unfold p_fl; grind
    · refine z_iconst e_X5_feedsLine_38 ?_
      refine z_iret e_X5_feedsLine_39 (Or.inr ⟨rfl, Or.inl rfl⟩) rfl rfl ⟨rfl, _, rfl, ?_⟩
      refine ⟨?_, congrArg _ ?_, rfl⟩
      · rw [if_neg (by omega)]
      · unfold p_fl; grind
  · refine z_aload_n e_X5_feedsLine_15 rfl ?_
    refine z_callVv (M' := M_X5_scrolls) (As := []) (rest := []) e_X5_feedsLine_16 l_RX5_82 rfl rfl rfl rfl t0 ⟨_, _, rfl⟩ (c_X5_scrolls hM hH) (fun mq rq hq => ?_)
    obtain ⟨e2q, e3q⟩ := hq
    subst mq rq
    refine z_iconst e_X5_feedsLine_19 ?_
    refine z_iret e_X5_feedsLine_20 (Or.inr ⟨rfl, Or.inr rfl⟩) rfl rfl ⟨rfl, _, rfl, ?_⟩
    refine ⟨?_, congrArg _ ?_, rfl⟩
    · rw [if_pos (by omega)]
    · unfold p_fl; grind
set_option maxHeartbeats 4000000 in
set_option maxRecDepth 100000 in
theorem c_X5_goesOn {E : z_E} {mi : z_Mi} {mr : z_Mr} {o : Nat} {P : Int → Int} {g : Int} (hM : z_MO E mr o) (hH : p_hd P) (hg : g = 0 ∨ g = 1) : z_mv M_X5_goesOn E [zo o, zi g] (z_u mi (o + 1) P) mr (fun m r => m = z_u mi (o + 1) (p_go g P) ∧ r = mr) := by
  obtain ⟨t0, t1, t2, t3, t4, t5, t6, t7, q0, q2, q3, q4, q5, q6, q7⟩ := id hM
  obtain ⟨hw0, hw1, hh0, hh1, hf0, hf1, hf2, hr0, hr1, hc0, hc1, hp0, hp1, hk0, hk1, hi0, hi1, hkp, hP⟩ := id hH
  refine z_ofv (ls := [some (zo o), some (zi g), none, none]) rfl (fun _ _ => trivial) ⟨rfl, rfl⟩ (Nat.le_of_ble_eq_true rfl) rfl ?_
  refine z_aload_n e_X5_goesOn_0 rfl ?_
  refine z_callVi (M' := M_X5_feedsLine) (As := []) (rest := []) e_X5_goesOn_1 l_RX5_85 rfl rfl rfl rfl t0 ⟨_, _, rfl⟩ (c_X5_feedsLine hM hH) (fun xq mq rq hq => ?_)
  obtain ⟨e1q, e2q, e3q⟩ := hq
  subst xq mq rq
  refine z_istore_n (ls' := [some (zo o), some (zi g), some (zi (if P 4 = P 3 ∨ P 4 ≠ P 1 - 1 then 1 else 0)), none]) e_X5_goesOn_4 rfl rfl rfl ?_
  refine z_aload_n e_X5_goesOn_5 rfl ?_
  refine z_getr (fi := 0) (r := some (o + 1)) e_X5_goesOn_6 f_RX5_7 t0 rfl rfl (q0) ?_
  refine z_iconst e_X5_goesOn_9 ?_
  refine z_iconst e_X5_goesOn_10 ?_
  refine z_iastU e_X5_goesOn_11 t1 (by decide) (by decide) (by decide) ?_
  generalize hgQ : (z_v (p_fl P) 5 0) = Q
  have hdQ : p_hd Q := by rw [← hgQ]; exact p_hd_fl5 hH
  obtain ⟨hw0, hw1, hh0, hh1, hf0, hf1, hf2, hr0, hr1, hc0, hc1, hp0, hp1, hk0, hk1, hi0, hi1, hkp, prQ⟩ := id hdQ
  refine z_iload_n e_X5_goesOn_12 rfl ?_
  refine z_if_eqB e_X5_goesOn_13  (fun h13_1 => ?_) (fun h13_1 => ?_)
  · refine z_ret e_X5_goesOn_70 rfl rfl rfl ⟨rfl, rfl, ?_⟩
    refine ⟨congrArg _ ?_, rfl⟩
    subst hgQ
    unfold p_go
    rw [if_neg (by assumption)]
  · have hq4 : 0 < Q 4 := by rw [← hgQ, z_vn (by decide)]; exact p_fl_4 hH (by assumption)
    refine z_bipush e_X5_goesOn_16 (by decide +kernel) ?_
    refine z_aload_n e_X5_goesOn_18 rfl ?_
    refine z_getr (fi := 0) (r := some (o + 1)) e_X5_goesOn_19 f_RX5_7 t0 rfl rfl (q0) ?_
    refine z_iconst e_X5_goesOn_22 ?_
    refine z_iald (x := (Q 4)) e_X5_goesOn_23 t1 (by decide) (by decide) (by decide) (congrFun (z_us _ _ _) _) ?_
    refine z_iadd e_X5_goesOn_24 ?_
    refine z_iconst e_X5_goesOn_25 ?_
    refine z_isub e_X5_goesOn_26 ?_
    refine z_istore_n (ls' := [some (zo o), some (zi g), some (zi (if P 4 = P 3 ∨ P 4 ≠ P 1 - 1 then 1 else 0)), some (zi ((24 + (Q 4)) - 1))]) e_X5_goesOn_27 rfl rfl rfl ?_
    refine z_aload_n e_X5_goesOn_28 rfl ?_
    refine z_getr (fi := 0) (r := some (o + 1)) e_X5_goesOn_29 f_RX5_7 t0 rfl rfl (q0) ?_
    refine z_iload_n e_X5_goesOn_32 rfl ?_
    refine z_bipush e_X5_goesOn_33 (by decide +kernel) ?_
    refine z_callSi (M' := M_X5_at) (As := [zi ((24 + (Q 4)) - 1), zi 20]) (rest := [zo (o + 1)]) e_X5_goesOn_35 l_RX5_40 rfl rfl rfl rfl (c_X5_at ) (fun xq mq rq hq => ?_)
    obtain ⟨e1q, e2q, e3q⟩ := hq
    subst xq mq rq
    refine z_iconst e_X5_goesOn_38 ?_
    refine z_iastU e_X5_goesOn_39 t1 (by decide) (by omega) (by omega) ?_
    refine z_aload_n e_X5_goesOn_40 rfl ?_
    refine z_getr (fi := 0) (r := some (o + 1)) e_X5_goesOn_41 f_RX5_7 t0 rfl rfl (q0) ?_
    refine z_iload_n e_X5_goesOn_44 rfl ?_
    refine z_bipush e_X5_goesOn_45 (by decide +kernel) ?_
    refine z_callSi (M' := M_X5_at) (As := [zi ((24 + (Q 4)) - 1), zi 21]) (rest := [zo (o + 1)]) e_X5_goesOn_47 l_RX5_40 rfl rfl rfl rfl (c_X5_at ) (fun xq mq rq hq => ?_)
    obtain ⟨e1q, e2q, e3q⟩ := hq
    subst xq mq rq
    refine z_iload_n e_X5_goesOn_50 rfl ?_
    refine z_if_eq e_X5_goesOn_51 ⟨by omega, by omega⟩ (fun h51_2 => ?_) (fun h51_2 => ?_)
    · refine z_aload_n e_X5_goesOn_58 rfl ?_
      refine z_getr (fi := 0) (r := some (o + 1)) e_X5_goesOn_59 f_RX5_7 t0 rfl rfl (q0) ?_
      refine z_iload_n e_X5_goesOn_62 rfl ?_
      refine z_bipush e_X5_goesOn_63 (by decide +kernel) ?_
      refine z_callSi (M' := M_X5_at) (As := [zi ((24 + (Q 4)) - 1), zi 21]) (rest := [zo (o + 1), zi (15 + 22 * ((24 + (Q 4)) - 1) + 21), zo (o + 1)]) e_X5_goesOn_65 l_RX5_40 rfl rfl rfl rfl (c_X5_at ) (fun xq mq rq hq => ?_)
      obtain ⟨e1q, e2q, e3q⟩ := hq
      subst xq mq rq
      refine z_iald (x := (Q (15 + 22 * ((24 + (Q 4)) - 1) + 21))) e_X5_goesOn_68 t1 (by decide) (by omega) (by omega) ((congrFun (z_us _ _ _) _).trans (z_vn (by omega))) ?_
      refine z_iastU e_X5_goesOn_69 t1 (by decide) (by omega) (by omega) ?_
      refine z_ret e_X5_goesOn_70 rfl rfl rfl ⟨rfl, rfl, ?_⟩
      refine ⟨congrArg _ ?_, rfl⟩
      subst hgQ
      unfold p_go
      rw [if_pos (by assumption)]
      unfold p_go1
      grind
    · refine z_iconst e_X5_goesOn_54 ?_
      refine z_goto e_X5_goesOn_55 ?_
      refine z_iastU e_X5_goesOn_69 t1 (by decide) (by omega) (by omega) ?_
      refine z_ret e_X5_goesOn_70 rfl rfl rfl ⟨rfl, rfl, ?_⟩
      refine ⟨congrArg _ ?_, rfl⟩
      subst hgQ
      unfold p_go
      rw [if_pos (by assumption)]
      unfold p_go1
      grind
set_option maxHeartbeats 4000000 in
set_option maxRecDepth 100000 in
theorem c_X5_writes {E : z_E} {mi : z_Mi} {mr : z_Mr} {o : Nat} {P : Int → Int} {code : Int} (hM : z_MO E mr o) (hH : p_hd P) (hc2 : 32 ≤ code) (hc3 : code ≤ 126) : z_mv M_X5_writes E [zo o, zi code] (z_u mi (o + 1) P) mr (fun m r => m = z_u mi (o + 1) (p_write code P) ∧ r = mr) := by
  obtain ⟨t0, t1, t2, t3, t4, t5, t6, t7, q0, q2, q3, q4, q5, q6, q7⟩ := id hM
  obtain ⟨hw0, hw1, hh0, hh1, hf0, hf1, hf2, hr0, hr1, hc0, hc1, hp0, hp1, hk0, hk1, hi0, hi1, hkp, hP⟩ := id hH
  refine z_ofv (ls := [some (zo o), some (zi code), none, none]) rfl (fun _ _ => trivial) ⟨rfl, rfl⟩ (Nat.le_of_ble_eq_true rfl) rfl ?_
  have join24_0 : ∀ (P1 : Int → Int), P1 = p_w1 P → z_A M_X5_writes E 0 0 24 [some (zo o), some (zi code), none, none] [] (z_u mi (o + 1) P1) mr (z_qv E (fun m r => m = z_u mi (o + 1) (p_write code P) ∧ r = mr)) := by
    intro P1 hj
    have hj1 := hj
    have hd1 : p_hd P1 := by rw [hj]; exact p_hd_w1 hH
    obtain ⟨hw0, hw1, hh0, hh1, hf0, hf1, hf2, hr0, hr1, hc0, hc1, hp0, hp1, hk0, hk1, hi0, hi1, hkp, hP1⟩ := id hd1
    have join37_1 : ∀ (sz : Int), sz = p_sz code → z_A M_X5_writes E 0 0 37 [some (zo o), some (zi code), some (zi sz), none] [] (z_u mi (o + 1) P1) mr (z_qv E (fun m r => m = z_u mi (o + 1) (p_write code P) ∧ r = mr)) := by
      intro sz hj
      have hj2 := hj
      have hs := p_sz_b code
      have join86_2 : ∀ (P2 : Int → Int), P2 = p_w2 code P1 → z_A M_X5_writes E 0 0 86 [some (zo o), some (zi code), some (zi sz), none] [] (z_u mi (o + 1) P2) mr (z_qv E (fun m r => m = z_u mi (o + 1) (p_write code P) ∧ r = mr)) := by
        intro P2 hj
        have hj3 := hj
        have hd2 : p_hd P2 := by rw [hj]; exact p_hd_w2 hd1
        have hroom : P2 5 + p_sz code ≤ P2 0 := by rw [hj]; exact p_w2_room hd1
        obtain ⟨hw0, hw1, hh0, hh1, hf0, hf1, hf2, hr0, hr1, hc0, hc1, hp0, hp1, hk0, hk1, hi0, hi1, hkp, hP2⟩ := id hd2
        refine z_aload_n e_X5_writes_86 rfl ?_
        refine z_getr (fi := 0) (r := some (o + 1)) e_X5_writes_87 f_RX5_7 t0 rfl rfl (q0) ?_
        refine z_iconst e_X5_writes_90 ?_
        refine z_iald (x := (P2 5)) e_X5_writes_91 t1 (by decide) (by decide) (by decide) (congrFun (z_us _ _ _) _) ?_
        refine z_istore_n (ls' := [some (zo o), some (zi code), some (zi sz), some (zi (P2 5))]) e_X5_writes_92 rfl rfl rfl ?_
        refine z_aload_n e_X5_writes_93 rfl ?_
        refine z_aload_n e_X5_writes_94 rfl ?_
        refine z_getr (fi := 0) (r := some (o + 1)) e_X5_writes_95 f_RX5_7 t0 rfl rfl (q0) ?_
        refine z_iconst e_X5_writes_98 ?_
        refine z_iald (x := (P2 4)) e_X5_writes_99 t1 (by decide) (by decide) (by decide) (congrFun (z_us _ _ _) _) ?_
        refine z_iload_n e_X5_writes_100 rfl ?_
        refine z_iload_n e_X5_writes_101 rfl ?_
        refine z_iload_n e_X5_writes_102 rfl ?_
        refine z_iadd e_X5_writes_103 ?_
        refine z_iconst e_X5_writes_104 ?_
        refine z_isub e_X5_writes_105 ?_
        refine z_callVv (M' := M_X5_frees) (As := [zi (P2 4), zi (P2 5), zi (((P2 5) + sz) - 1)]) (rest := []) e_X5_writes_106 l_RX5_65 rfl rfl rfl rfl t0 ⟨_, _, rfl⟩ (c_X5_frees hM (by omega) (by omega) (by omega) (by omega) (by omega) (by omega) (by omega) hP2) (fun mq rq hq => ?_)
        obtain ⟨e2q, e3q⟩ := hq
        subst mq rq
        generalize hgP8 : (p_frees P2 (P2 4) (P2 5) ((P2 5) + sz - 1)) = P8
        have hdP8 : p_hd P8 := by rw [← hgP8]; exact p_hd_frees hd2 (by omega)
        obtain ⟨hw0, hw1, hh0, hh1, hf0, hf1, hf2, hr0, hr1, hc0, hc1, hp0, hp1, hk0, hk1, hi0, hi1, hkp, hP8⟩ := id hdP8
        have eP8_4 : P8 4 = P2 4 := by rw [← hgP8]; exact p_frees_hd (by decide) (by omega)
        have eP8_0 : P8 0 = P2 0 := by rw [← hgP8]; exact p_frees_hd (by decide) (by omega)
        refine z_aload_n e_X5_writes_109 rfl ?_
        refine z_aload_n e_X5_writes_110 rfl ?_
        refine z_getr (fi := 0) (r := some (o + 1)) e_X5_writes_111 f_RX5_7 t0 rfl rfl (q0) ?_
        refine z_iconst e_X5_writes_114 ?_
        refine z_iald (x := (P8 4)) e_X5_writes_115 t1 (by decide) (by decide) (by decide) (congrFun (z_us _ _ _) _) ?_
        refine z_iload_n e_X5_writes_116 rfl ?_
        refine z_iload_n e_X5_writes_117 rfl ?_
        refine z_callVv (M' := M_X5_sets) (As := [zi (P8 4), zi (P2 5), zi code]) (rest := []) e_X5_writes_118 l_RX5_58 rfl rfl rfl rfl t0 ⟨_, _, rfl⟩ (c_X5_sets hM (by omega) (by omega) (by omega) (by omega) (by omega) (by omega)) (fun mq rq hq => ?_)
        obtain ⟨e2q, e3q⟩ := hq
        subst mq rq
        generalize hgP3 : (p_sets P8 (P8 4) (P2 5) code) = P3
        have hdP3 : p_hd P3 := by rw [← hgP3]; exact p_hd_sets hdP8 (by omega) (by omega) (by omega)
        obtain ⟨hw0, hw1, hh0, hh1, hf0, hf1, hf2, hr0, hr1, hc0, hc1, hp0, hp1, hk0, hk1, hi0, hi1, hkp, hP3⟩ := id hdP3
        have eP3_4 : P3 4 = P2 4 := by rw [← hgP3]; exact (p_sets_hd (by decide) (by omega)).trans eP8_4
        have eP3_0 : P3 0 = P2 0 := by rw [← hgP3]; exact (p_sets_hd (by decide) (by omega)).trans eP8_0
        have hw3 : P3 = p_w3 code P2 := by rw [← hgP3, ← hgP8]; unfold p_w3; rw [p_frees_hd (by decide) (by omega)]; grind
        refine z_iload_n e_X5_writes_121 rfl ?_
        refine z_iconst e_X5_writes_122 ?_
        have join144_3 : ∀ (P4 : Int → Int), P4 = p_w4 code P2 P3 → z_A M_X5_writes E 0 0 144 [some (zo o), some (zi code), some (zi sz), some (zi (P2 5))] [] (z_u mi (o + 1) P4) mr (z_qv E (fun m r => m = z_u mi (o + 1) (p_write code P) ∧ r = mr)) := by
          intro P4 hj
          have hj4 := hj
          have eP4_0 : P4 0 = P2 0 := by rw [hj, p_w4_hd (by omega) (by decide)]; exact eP3_0
          refine z_aload_n e_X5_writes_144 rfl ?_
          refine z_getr (fi := 0) (r := some (o + 1)) e_X5_writes_145 f_RX5_7 t0 rfl rfl (q0) ?_
          refine z_iconst e_X5_writes_148 ?_
          refine z_iload_n e_X5_writes_149 rfl ?_
          refine z_iload_n e_X5_writes_150 rfl ?_
          refine z_iadd e_X5_writes_151 ?_
          refine z_aload_n e_X5_writes_152 rfl ?_
          refine z_getr (fi := 0) (r := some (o + 1)) e_X5_writes_153 f_RX5_7 t0 rfl rfl (q0) ?_
          refine z_iconst e_X5_writes_156 ?_
          refine z_iald (x := (P4 0)) e_X5_writes_157 t1 (by decide) (by decide) (by decide) (congrFun (z_us _ _ _) _) ?_
          refine z_icmp_ge e_X5_writes_158 ⟨by omega, by omega⟩ ⟨by omega, by omega⟩ (fun h158_5 => ?_) (fun h158_5 => ?_)
          · refine z_aload_n e_X5_writes_167 rfl ?_
            refine z_getr (fi := 0) (r := some (o + 1)) e_X5_writes_168 f_RX5_7 t0 rfl rfl (q0) ?_
            refine z_iconst e_X5_writes_171 ?_
            refine z_iald (x := (P4 0)) e_X5_writes_172 t1 (by decide) (by decide) (by decide) (congrFun (z_us _ _ _) _) ?_
            refine z_iconst e_X5_writes_173 ?_
            refine z_isub e_X5_writes_174 ?_
            refine z_iastU e_X5_writes_175 t1 (by decide) (by decide) (by decide) ?_
            refine z_aload_n e_X5_writes_176 rfl ?_
            refine z_getr (fi := 0) (r := some (o + 1)) e_X5_writes_177 f_RX5_7 t0 rfl rfl (q0) ?_
            refine z_bipush e_X5_writes_180 (by decide +kernel) ?_
            refine z_iload_n e_X5_writes_182 rfl ?_
            refine z_iload_n e_X5_writes_183 rfl ?_
            refine z_iadd e_X5_writes_184 ?_
            refine z_aload_n e_X5_writes_185 rfl ?_
            refine z_getr (fi := 0) (r := some (o + 1)) e_X5_writes_186 f_RX5_7 t0 rfl rfl (q0) ?_
            refine z_iconst e_X5_writes_189 ?_
            refine z_iald (x := (P4 0)) e_X5_writes_190 t1 (by decide) (by decide) (by decide) ((congrFun (z_us _ _ _) _).trans ((z_vn (by decide)))) ?_
            refine z_icmp_ne e_X5_writes_191 ⟨by omega, by omega⟩ ⟨by omega, by omega⟩ (fun h191_6 => ?_) (fun h191_6 => ?_)
            · refine z_iconst e_X5_writes_198 ?_
              refine z_iastU e_X5_writes_199 t1 (by decide) (by decide) (by decide) ?_
              refine z_ret e_X5_writes_200 rfl rfl rfl ⟨rfl, rfl, ?_⟩
              refine ⟨congrArg _ ?_, rfl⟩
              show _ = p_w6 code (p_w2 code (p_w1 P))
              rw [← hj1, ← hj3, p_w6, ← hw3, ← hj4, p_w5, ← hj2]
              grind
            · refine z_iconst e_X5_writes_194 ?_
              refine z_goto e_X5_writes_195 ?_
              refine z_iastU e_X5_writes_199 t1 (by decide) (by decide) (by decide) ?_
              refine z_ret e_X5_writes_200 rfl rfl rfl ⟨rfl, rfl, ?_⟩
              refine ⟨congrArg _ ?_, rfl⟩
              show _ = p_w6 code (p_w2 code (p_w1 P))
              rw [← hj1, ← hj3, p_w6, ← hw3, ← hj4, p_w5, ← hj2]
              grind
          · refine z_iload_n e_X5_writes_161 rfl ?_
            refine z_iload_n e_X5_writes_162 rfl ?_
            refine z_iadd e_X5_writes_163 ?_
            refine z_goto e_X5_writes_164 ?_
            refine z_iastU e_X5_writes_175 t1 (by decide) (by decide) (by decide) ?_
            refine z_aload_n e_X5_writes_176 rfl ?_
            refine z_getr (fi := 0) (r := some (o + 1)) e_X5_writes_177 f_RX5_7 t0 rfl rfl (q0) ?_
            refine z_bipush e_X5_writes_180 (by decide +kernel) ?_
            refine z_iload_n e_X5_writes_182 rfl ?_
            refine z_iload_n e_X5_writes_183 rfl ?_
            refine z_iadd e_X5_writes_184 ?_
            refine z_aload_n e_X5_writes_185 rfl ?_
            refine z_getr (fi := 0) (r := some (o + 1)) e_X5_writes_186 f_RX5_7 t0 rfl rfl (q0) ?_
            refine z_iconst e_X5_writes_189 ?_
            refine z_iald (x := (P4 0)) e_X5_writes_190 t1 (by decide) (by decide) (by decide) ((congrFun (z_us _ _ _) _).trans ((z_vn (by decide)))) ?_
            refine z_icmp_ne e_X5_writes_191 ⟨by omega, by omega⟩ ⟨by omega, by omega⟩ (fun h191_7 => ?_) (fun h191_7 => ?_)
            · refine z_iconst e_X5_writes_198 ?_
              refine z_iastU e_X5_writes_199 t1 (by decide) (by decide) (by decide) ?_
              refine z_ret e_X5_writes_200 rfl rfl rfl ⟨rfl, rfl, ?_⟩
              refine ⟨congrArg _ ?_, rfl⟩
              show _ = p_w6 code (p_w2 code (p_w1 P))
              rw [← hj1, ← hj3, p_w6, ← hw3, ← hj4, p_w5, ← hj2]
              grind
            · refine z_iconst e_X5_writes_194 ?_
              refine z_goto e_X5_writes_195 ?_
              refine z_iastU e_X5_writes_199 t1 (by decide) (by decide) (by decide) ?_
              refine z_ret e_X5_writes_200 rfl rfl rfl ⟨rfl, rfl, ?_⟩
              refine ⟨congrArg _ ?_, rfl⟩
              show _ = p_w6 code (p_w2 code (p_w1 P))
              rw [← hj1, ← hj3, p_w6, ← hw3, ← hj4, p_w5, ← hj2]
              grind
        refine z_icmp_ne e_X5_writes_123 ⟨by omega, by omega⟩ (by decide) (fun h123_8 => ?_) (fun h123_8 => ?_)
        · exact join144_3 P3 ((if_neg (by grind [p_sz])).symm)
        · refine z_aload_n e_X5_writes_126 rfl ?_
          refine z_aload_n e_X5_writes_127 rfl ?_
          refine z_getr (fi := 0) (r := some (o + 1)) e_X5_writes_128 f_RX5_7 t0 rfl rfl (q0) ?_
          refine z_iconst e_X5_writes_131 ?_
          refine z_iald (x := (P3 4)) e_X5_writes_132 t1 (by decide) (by decide) (by decide) (congrFun (z_us _ _ _) _) ?_
          refine z_iload_n e_X5_writes_133 rfl ?_
          refine z_iconst e_X5_writes_134 ?_
          refine z_iadd e_X5_writes_135 ?_
          refine z_iload_n e_X5_writes_136 rfl ?_
          refine z_sipush e_X5_writes_137 (by decide +kernel) ?_
          refine z_iadd e_X5_writes_140 ?_
          refine z_callVv (M' := M_X5_sets) (As := [zi (P3 4), zi ((P2 5) + 1), zi (code + 128)]) (rest := []) e_X5_writes_141 l_RX5_58 rfl rfl rfl rfl t0 ⟨_, _, rfl⟩ (c_X5_sets hM (by omega) (by omega) (by omega) (by omega) (by omega) (by omega)) (fun mq rq hq => ?_)
          obtain ⟨e2q, e3q⟩ := hq
          subst mq rq
          exact join144_3 (p_sets P3 (P3 4) (P2 5 + 1) (code + 128)) (by unfold p_w4; rw [if_pos (by grind [p_sz]), eP3_4])
      refine z_iload_n e_X5_writes_37 rfl ?_
      refine z_iconst e_X5_writes_38 ?_
      refine z_icmp_ne e_X5_writes_39 ⟨by omega, by omega⟩ (by decide) (fun h39_9 => ?_) (fun h39_9 => ?_)
      · exact join86_2 P1 ((if_neg (by grind [p_sz])).symm)
      · refine z_aload_n e_X5_writes_42 rfl ?_
        refine z_getr (fi := 0) (r := some (o + 1)) e_X5_writes_43 f_RX5_7 t0 rfl rfl (q0) ?_
        refine z_iconst e_X5_writes_46 ?_
        refine z_iald (x := (P1 5)) e_X5_writes_47 t1 (by decide) (by decide) (by decide) (congrFun (z_us _ _ _) _) ?_
        refine z_aload_n e_X5_writes_48 rfl ?_
        refine z_getr (fi := 0) (r := some (o + 1)) e_X5_writes_49 f_RX5_7 t0 rfl rfl (q0) ?_
        refine z_iconst e_X5_writes_52 ?_
        refine z_iald (x := (P1 0)) e_X5_writes_53 t1 (by decide) (by decide) (by decide) (congrFun (z_us _ _ _) _) ?_
        refine z_iconst e_X5_writes_54 ?_
        refine z_isub e_X5_writes_55 ?_
        refine z_icmp_ne e_X5_writes_56 ⟨by omega, by omega⟩ ⟨by omega, by omega⟩ (fun h56_10 => ?_) (fun h56_10 => ?_)
        · exact join86_2 P1 ((if_neg (by grind [p_sz])).symm)
        · refine z_aload_n e_X5_writes_59 rfl ?_
          refine z_aload_n e_X5_writes_60 rfl ?_
          refine z_getr (fi := 0) (r := some (o + 1)) e_X5_writes_61 f_RX5_7 t0 rfl rfl (q0) ?_
          refine z_iconst e_X5_writes_64 ?_
          refine z_iald (x := (P1 4)) e_X5_writes_65 t1 (by decide) (by decide) (by decide) (congrFun (z_us _ _ _) _) ?_
          refine z_aload_n e_X5_writes_66 rfl ?_
          refine z_getr (fi := 0) (r := some (o + 1)) e_X5_writes_67 f_RX5_7 t0 rfl rfl (q0) ?_
          refine z_iconst e_X5_writes_70 ?_
          refine z_iald (x := (P1 5)) e_X5_writes_71 t1 (by decide) (by decide) (by decide) (congrFun (z_us _ _ _) _) ?_
          refine z_aload_n e_X5_writes_72 rfl ?_
          refine z_getr (fi := 0) (r := some (o + 1)) e_X5_writes_73 f_RX5_7 t0 rfl rfl (q0) ?_
          refine z_iconst e_X5_writes_76 ?_
          refine z_iald (x := (P1 5)) e_X5_writes_77 t1 (by decide) (by decide) (by decide) (congrFun (z_us _ _ _) _) ?_
          refine z_callVv (M' := M_X5_erases) (As := [zi (P1 4), zi (P1 5), zi (P1 5)]) (rest := []) e_X5_writes_78 l_RX5_93 rfl rfl rfl rfl t0 ⟨_, _, rfl⟩ (c_X5_erases hM (by omega) (by omega) (by omega) (by omega) (by omega) (by omega) (by omega) hP1) (fun mq rq hq => ?_)
          obtain ⟨e2q, e3q⟩ := hq
          subst mq rq
          refine z_aload_n e_X5_writes_81 rfl ?_
          refine z_iconst e_X5_writes_82 ?_
          refine z_callVv (M' := M_X5_goesOn) (As := [zi 1]) (rest := []) e_X5_writes_83 l_RX5_89 rfl rfl rfl rfl t0 ⟨_, _, rfl⟩ (c_X5_goesOn hM (p_hd_erases hd1 (by omega)) (Or.inr rfl)) (fun mq rq hq => ?_)
          obtain ⟨e2q, e3q⟩ := hq
          subst mq rq
          exact join86_2 (p_go 1 (p_erases P1 (P1 4) (P1 5) (P1 5))) ((if_pos ⟨by grind [p_sz], by assumption⟩).symm)
    refine z_iload_n e_X5_writes_24 rfl ?_
    refine z_callSi (M' := M_X5_isWide) (As := [zi code]) (rest := []) e_X5_writes_25 l_RX5_62 rfl rfl rfl rfl (c_X5_isWide ⟨by omega, by omega⟩) (fun xq mq rq hq => ?_)
    obtain ⟨e1q, e2q, e3q⟩ := hq
    subst xq mq rq
    refine z_if_eqB e_X5_writes_28  (fun h28_11 => ?_) (fun h28_11 => ?_)
    · refine z_iconst e_X5_writes_35 ?_
      refine z_istore_n (ls' := [some (zo o), some (zi code), some (zi 1), none]) e_X5_writes_36 rfl rfl rfl ?_
      exact join37_1 1 ((if_neg (by assumption)).symm)
    · refine z_iconst e_X5_writes_31 ?_
      refine z_goto e_X5_writes_32 ?_
      refine z_istore_n (ls' := [some (zo o), some (zi code), some (zi 2), none]) e_X5_writes_36 rfl rfl rfl ?_
      exact join37_1 2 ((if_pos (by assumption)).symm)
  refine z_aload_n e_X5_writes_0 rfl ?_
  refine z_getr (fi := 0) (r := some (o + 1)) e_X5_writes_1 f_RX5_7 t0 rfl rfl (q0) ?_
  refine z_bipush e_X5_writes_4 (by decide +kernel) ?_
  refine z_iald (x := (P 6)) e_X5_writes_6 t1 (by decide) (by decide) (by decide) (congrFun (z_us _ _ _) _) ?_
  refine z_iconst e_X5_writes_7 ?_
  refine z_icmp_ne e_X5_writes_8 ⟨by omega, by omega⟩ (by decide) (fun h8_12 => ?_) (fun h8_12 => ?_)
  · exact join24_0 P ((if_neg (by assumption)).symm)
  · refine z_aload_n e_X5_writes_11 rfl ?_
    refine z_getr (fi := 0) (r := some (o + 1)) e_X5_writes_12 f_RX5_7 t0 rfl rfl (q0) ?_
    refine z_bipush e_X5_writes_15 (by decide +kernel) ?_
    refine z_iconst e_X5_writes_17 ?_
    refine z_iastU e_X5_writes_18 t1 (by decide) (by decide) (by decide) ?_
    refine z_aload_n e_X5_writes_19 rfl ?_
    refine z_iconst e_X5_writes_20 ?_
    refine z_callVv (M' := M_X5_goesOn) (As := [zi 0]) (rest := []) e_X5_writes_21 l_RX5_89 rfl rfl rfl rfl t0 ⟨_, _, rfl⟩ (c_X5_goesOn hM (p_hd_6 hH) (Or.inl rfl)) (fun mq rq hq => ?_)
    obtain ⟨e2q, e3q⟩ := hq
    subst mq rq
    exact join24_0 (p_go 0 (z_v P 6 0)) ((if_pos (by assumption)).symm)
set_option maxHeartbeats 4000000 in
set_option maxRecDepth 100000 in
theorem c_X5_moves {E : z_E} {mi : z_Mi} {mr : z_Mr} {o : Nat} {P : Int → Int} {code : Int} (hM : z_MO E mr o) (hH : p_hd P) (hz : z_R code) : z_mv M_X5_moves E [zo o, zi code] (z_u mi (o + 1) P) mr (fun m r => m = z_u mi (o + 1) (p_move code P) ∧ r = mr) := by
  obtain ⟨t0, t1, t2, t3, t4, t5, t6, t7, q0, q2, q3, q4, q5, q6, q7⟩ := id hM
  obtain ⟨hw0, hw1, hh0, hh1, hf0, hf1, hf2, hr0, hr1, hc0, hc1, hp0, hp1, hk0, hk1, hi0, hi1, hkp, hP⟩ := id hH
  refine z_ofv (ls := [some (zo o), some (zi code), none, none]) rfl (fun _ _ => trivial) ⟨rfl, rfl⟩ (Nat.le_of_ble_eq_true rfl) rfl ?_
  refine z_aload_n e_X5_moves_0 rfl ?_
  refine z_getr (fi := 0) (r := some (o + 1)) e_X5_moves_1 f_RX5_7 t0 rfl rfl (q0) ?_
  refine z_iconst e_X5_moves_4 ?_
  refine z_iald (x := (P 5)) e_X5_moves_5 t1 (by decide) (by decide) (by decide) (congrFun (z_us _ _ _) _) ?_
  refine z_istore_n (ls' := [some (zo o), some (zi code), some (zi (P 5)), none]) e_X5_moves_6 rfl rfl rfl ?_
  have join18_0 : ∀ (P1 : Int → Int), P1 = p_mvq code P → z_A M_X5_moves E 0 0 18 [some (zo o), some (zi code), some (zi (P 5)), none] [] (z_u mi (o + 1) P1) mr (z_qv E (fun m r => m = z_u mi (o + 1) (p_move code P) ∧ r = mr)) := by
    intro P1 hj
    have hj1 := hj
    have hd1 : p_hd P1 := by rw [hj]; exact p_hd_mvq hH
    have e0 : P1 0 = P 0 := by rw [hj]; exact p_mvq_hd hH (by decide) (by decide)
    obtain ⟨hw0, hw1, hh0, hh1, hf0, hf1, hf2, hr0, hr1, hc0, hc1, hp0, hp1, hk0, hk1, hi0, hi1, hkp, hP1⟩ := id hd1
    refine z_iconst e_X5_moves_18 ?_
    refine z_iload_n e_X5_moves_19 rfl ?_
    refine z_iconst e_X5_moves_20 ?_
    refine z_idiv e_X5_moves_21 (by omega) (by omega) ⟨by omega, by omega⟩ (by decide) ?_
    refine z_iconst e_X5_moves_22 ?_
    refine z_iadd e_X5_moves_23 ?_
    refine z_imul e_X5_moves_24 ?_
    refine z_istore_n (ls' := [some (zo o), some (zi code), some (zi (P 5)), some (zi (4 * (((P 5) / 4) + 1)))]) e_X5_moves_25 rfl rfl rfl ?_
    have join48_1 : ∀ (t : Int), t = (if 4 * (P 5 / 4 + 1) < P 0 then 4 * (P 5 / 4 + 1) else P 0 - 1) → z_A M_X5_moves E 0 0 48 [some (zo o), some (zi code), some (zi (P 5)), none] [zi t] (z_u mi (o + 1) P1) mr (z_qv E (fun m r => m = z_u mi (o + 1) (p_move code P) ∧ r = mr)) := by
      intro t hj
      have hj2 := hj
      have ht : 0 ≤ t ∧ t < P 0 := by rw [hj]; split <;> omega
      refine z_istore_n (ls' := [some (zo o), some (zi code), some (zi (P 5)), some (zi t)]) e_X5_moves_48 rfl rfl rfl ?_
      have join95_2 : ∀ (v : Int), v = p_mvc code (P 5) (P 0) → z_A M_X5_moves E 0 0 95 [some (zo o), some (zi code), some (zi (P 5)), some (zi t)] [zi v, zi 5, zo (o + 1)] (z_u mi (o + 1) P1) mr (z_qv E (fun m r => m = z_u mi (o + 1) (p_move code P) ∧ r = mr)) := by
        intro v hj
        have hj3 := hj
        refine z_iastU e_X5_moves_95 t1 (by decide) (by decide) (by decide) ?_
        refine z_aload_n e_X5_moves_96 rfl ?_
        refine z_getr (fi := 0) (r := some (o + 1)) e_X5_moves_97 f_RX5_7 t0 rfl rfl (q0) ?_
        refine z_bipush e_X5_moves_100 (by decide +kernel) ?_
        refine z_iconst e_X5_moves_102 ?_
        refine z_iastU e_X5_moves_103 t1 (by decide) (by decide) (by decide) ?_
        refine z_ret e_X5_moves_104 rfl rfl rfl ⟨rfl, rfl, ?_⟩
        refine ⟨congrArg _ ?_, rfl⟩
        unfold p_move
        rw [← hj1, ← hj3]
      refine z_aload_n e_X5_moves_49 rfl ?_
      refine z_getr (fi := 0) (r := some (o + 1)) e_X5_moves_50 f_RX5_7 t0 rfl rfl (q0) ?_
      refine z_iconst e_X5_moves_53 ?_
      refine z_iload_n e_X5_moves_54 rfl ?_
      refine z_bipush e_X5_moves_55 (by decide +kernel) ?_
      refine z_icmp_ne e_X5_moves_57 ⟨by omega, by omega⟩ (by decide) (fun h57_4 => ?_) (fun h57_4 => ?_)
      · refine z_iload_n e_X5_moves_74 rfl ?_
        refine z_bipush e_X5_moves_75 (by decide +kernel) ?_
        refine z_icmp_ne e_X5_moves_77 ⟨by omega, by omega⟩ (by decide) (fun h77_5 => ?_) (fun h77_5 => ?_)
        · refine z_iload_n e_X5_moves_84 rfl ?_
          refine z_bipush e_X5_moves_85 (by decide +kernel) ?_
          refine z_icmp_ne e_X5_moves_87 ⟨by omega, by omega⟩ (by decide) (fun h87_6 => ?_) (fun h87_6 => ?_)
          · refine z_iload_n e_X5_moves_94 rfl ?_
            exact join95_2 (P 5) (by unfold p_mvc; grind)
          · refine z_iconst e_X5_moves_90 ?_
            refine z_goto e_X5_moves_91 ?_
            exact join95_2 0 (by unfold p_mvc; grind)
        · refine z_iload_n e_X5_moves_80 rfl ?_
          refine z_goto e_X5_moves_81 ?_
          exact join95_2 t (by unfold p_mvc; grind)
      · refine z_iload_n e_X5_moves_60 rfl ?_
        refine z_if_le e_X5_moves_61 ⟨by omega, by omega⟩ (fun h61_7 => ?_) (fun h61_7 => ?_)
        · refine z_iconst e_X5_moves_70 ?_
          refine z_goto e_X5_moves_71 ?_
          exact join95_2 0 (by unfold p_mvc; grind)
        · refine z_iload_n e_X5_moves_64 rfl ?_
          refine z_iconst e_X5_moves_65 ?_
          refine z_isub e_X5_moves_66 ?_
          refine z_goto e_X5_moves_67 ?_
          exact join95_2 ((P 5) - 1) (by unfold p_mvc; grind)
    refine z_iload_n e_X5_moves_26 rfl ?_
    refine z_aload_n e_X5_moves_27 rfl ?_
    refine z_getr (fi := 0) (r := some (o + 1)) e_X5_moves_28 f_RX5_7 t0 rfl rfl (q0) ?_
    refine z_iconst e_X5_moves_31 ?_
    refine z_iald (x := (P1 0)) e_X5_moves_32 t1 (by decide) (by decide) (by decide) (congrFun (z_us _ _ _) _) ?_
    refine z_icmp_ge e_X5_moves_33 ⟨by omega, by omega⟩ ⟨by omega, by omega⟩ (fun h33_8 => ?_) (fun h33_8 => ?_)
    · refine z_aload_n e_X5_moves_40 rfl ?_
      refine z_getr (fi := 0) (r := some (o + 1)) e_X5_moves_41 f_RX5_7 t0 rfl rfl (q0) ?_
      refine z_iconst e_X5_moves_44 ?_
      refine z_iald (x := (P1 0)) e_X5_moves_45 t1 (by decide) (by decide) (by decide) (congrFun (z_us _ _ _) _) ?_
      refine z_iconst e_X5_moves_46 ?_
      refine z_isub e_X5_moves_47 ?_
      refine z_fgt (ls' := [some (zo o), some (zi code), some (zi (P 5)), none]) ⟨rfl, rfl, rfl, trivial⟩ ?_
      exact join48_1 ((P1 0) - 1) (by rw [e0]; exact (if_neg (by omega)).symm)
    · refine z_iload_n e_X5_moves_36 rfl ?_
      refine z_goto e_X5_moves_37 ?_
      refine z_fgt (ls' := [some (zo o), some (zi code), some (zi (P 5)), none]) ⟨rfl, rfl, rfl, trivial⟩ ?_
      exact join48_1 (4 * (((P 5) / 4) + 1)) ((if_pos (by omega)).symm)
  refine z_iload_n e_X5_moves_7 rfl ?_
  refine z_bipush e_X5_moves_8 (by decide +kernel) ?_
  refine z_icmp_ne e_X5_moves_10 ⟨by omega, by omega⟩ (by decide) (fun h10_9 => ?_) (fun h10_9 => ?_)
  · exact join18_0 P ((if_neg (by assumption)).symm)
  · refine z_aload_n e_X5_moves_13 rfl ?_
    refine z_callVi (M' := M_X5_feedsLine) (As := []) (rest := []) e_X5_moves_14 l_RX5_85 rfl rfl rfl rfl t0 ⟨_, _, rfl⟩ (c_X5_feedsLine hM hH) (fun xq mq rq hq => ?_)
    obtain ⟨e1q, e2q, e3q⟩ := hq
    subst xq mq rq
    refine z_pop e_X5_moves_17 rfl ?_
    exact join18_0 (p_fl P) ((if_pos (by assumption)).symm)
set_option maxHeartbeats 4000000 in
set_option maxRecDepth 100000 in
theorem c_X5_feed {E : z_E} {mi : z_Mi} {mr : z_Mr} {o : Nat} {P F : Int → Int} {code : Int} (hM : z_MO E mr o) (hH : p_hd P) (hF1 : 0 ≤ F 1) (hF2 : F 1 ≤ 8) (hz : z_R code) : z_mi M_X5_feed E [zo o, zi code] (z_u (z_u mi o F) (o + 1) P) mr (fun x m r => (((8 ≤ code ∧ code ≤ 10) ∨ code = 13 ∨ (32 ≤ code ∧ code ≤ 126)) → x = (if 32 ≤ code then p_write code (p_rec (F 1) P) else p_move code (p_rec (F 1) P)) 14 ∧ m = z_u (z_u mi o (f_rec F)) (o + 1) (if 32 ≤ code then p_write code (p_rec (F 1) P) else p_move code (p_rec (F 1) P))) ∧ (¬ (((8 ≤ code ∧ code ≤ 10) ∨ code = 13 ∨ (32 ≤ code ∧ code ≤ 126))) → x = -1 ∧ m = z_u (z_u mi o F) (o + 1) P) ∧ r = mr) := by
  obtain ⟨t0, t1, t2, t3, t4, t5, t6, t7, q0, q2, q3, q4, q5, q6, q7⟩ := id hM
  obtain ⟨hw0, hw1, hh0, hh1, hf0, hf1, hf2, hr0, hr1, hc0, hc1, hp0, hp1, hk0, hk1, hi0, hi1, hkp, hP⟩ := id hH
  refine z_ofi (ls := [some (zo o), some (zi code), none]) rfl (fun _ _ => trivial) ⟨rfl, rfl⟩ (Nat.le_of_ble_eq_true rfl) rfl ?_
  refine z_iload_n e_X5_feed_0 rfl ?_
  refine z_bipush e_X5_feed_1 (by decide +kernel) ?_
  refine z_bipush e_X5_feed_3 (by decide +kernel) ?_
  refine z_callSi (M' := M_X5_in) (As := [zi code, zi 8, zi 10]) (rest := []) e_X5_feed_5 l_RX5_47 rfl rfl rfl rfl (c_X5_in ⟨by omega, by omega⟩ ⟨by omega, by omega⟩ ⟨by omega, by omega⟩) (fun xq mq rq hq => ?_)
  obtain ⟨e1q, e2q, e3q⟩ := hq
  subst xq mq rq
  refine z_if_neB e_X5_feed_8  (fun h8_1 => ?_) (fun h8_1 => ?_)
  · refine z_iconst e_X5_feed_17 ?_
    refine z_goto e_X5_feed_18 ?_
    refine z_istore_n (ls' := [some (zo o), some (zi code), some (zi 1)]) e_X5_feed_22 rfl rfl rfl ?_
    refine z_iload_n e_X5_feed_23 rfl ?_
    refine z_if_ne e_X5_feed_24 (by decide) (fun _ => ?_) (fun hq => absurd hq (by decide))
    refine z_aload_n e_X5_feed_40 rfl ?_
    refine z_callVv (M' := M_X5_records) (As := []) (rest := []) e_X5_feed_41 l_RX5_96 rfl rfl rfl rfl t0 ⟨_, _, rfl⟩ (c_X5_records hM (by omega) (by omega)) (fun mq rq hq => ?_)
    obtain ⟨e2q, e3q⟩ := hq
    subst mq rq
    generalize hgP1 : (p_rec (F 1) P) = P1
    have hd1 : p_hd P1 := by rw [← hgP1]; exact p_hd_rec hH hF1
    have e1 : ∀ k, k < 719 → P1 k = P k := by intro k hk; rw [← hgP1]; exact p_rec_hd hF1 hk
    obtain ⟨hw0, hw1, hh0, hh1, hf0, hf1, hf2, hr0, hr1, hc0, hc1, hp0, hp1, hk0, hk1, hi0, hi1, hkp, hP1⟩ := id hd1
    refine z_iload_n e_X5_feed_44 rfl ?_
    refine z_if_eq e_X5_feed_45 (by decide) (fun hq => absurd hq (by decide)) (fun _ => ?_)
    refine z_aload_n e_X5_feed_48 rfl ?_
    refine z_iload_n e_X5_feed_49 rfl ?_
    refine z_callVv (M' := M_X5_moves) (As := [zi code]) (rest := []) e_X5_feed_50 l_RX5_99 rfl rfl rfl rfl t0 ⟨_, _, rfl⟩ (c_X5_moves hM hd1 hz) (fun mq rq hq => ?_)
    obtain ⟨e2q, e3q⟩ := hq
    subst mq rq
    refine z_goto e_X5_feed_53 ?_
    refine z_aload_n e_X5_feed_61 rfl ?_
    refine z_getr (fi := 0) (r := some (o + 1)) e_X5_feed_62 f_RX5_7 t0 rfl rfl (q0) ?_
    refine z_bipush e_X5_feed_65 (by decide +kernel) ?_
    refine z_iald (x := ((p_move code P1) 14)) e_X5_feed_67 t1 (by decide) (by decide) (by decide) (congrFun (z_us _ _ _) _) ?_
    refine z_iret e_X5_feed_68 (Or.inl rfl) rfl rfl ⟨rfl, _, rfl, ?_⟩
    refine ⟨fun hb => ⟨?_, ?_⟩, fun hb => absurd (by omega) hb, rfl⟩
    · subst hgP1; grind
    · subst hgP1; grind
  · refine z_iload_n e_X5_feed_11 rfl ?_
    refine z_bipush e_X5_feed_12 (by decide +kernel) ?_
    refine z_icmp_ne e_X5_feed_14 ⟨by omega, by omega⟩ (by decide) (fun h14_2 => ?_) (fun h14_2 => ?_)
    · refine z_iconst e_X5_feed_21 ?_
      refine z_istore_n (ls' := [some (zo o), some (zi code), some (zi 0)]) e_X5_feed_22 rfl rfl rfl ?_
      refine z_iload_n e_X5_feed_23 rfl ?_
      refine z_if_ne e_X5_feed_24 (by decide) (fun hq => absurd hq (by decide)) (fun _ => ?_)
      refine z_iload_n e_X5_feed_27 rfl ?_
      refine z_bipush e_X5_feed_28 (by decide +kernel) ?_
      refine z_bipush e_X5_feed_30 (by decide +kernel) ?_
      refine z_callSi (M' := M_X5_in) (As := [zi code, zi 32, zi 126]) (rest := []) e_X5_feed_32 l_RX5_47 rfl rfl rfl rfl (c_X5_in ⟨by omega, by omega⟩ ⟨by omega, by omega⟩ ⟨by omega, by omega⟩) (fun xq mq rq hq => ?_)
      obtain ⟨e1q, e2q, e3q⟩ := hq
      subst xq mq rq
      refine z_if_neB e_X5_feed_35  (fun h35_3 => ?_) (fun h35_3 => ?_)
      · refine z_aload_n e_X5_feed_40 rfl ?_
        refine z_callVv (M' := M_X5_records) (As := []) (rest := []) e_X5_feed_41 l_RX5_96 rfl rfl rfl rfl t0 ⟨_, _, rfl⟩ (c_X5_records hM (by omega) (by omega)) (fun mq rq hq => ?_)
        obtain ⟨e2q, e3q⟩ := hq
        subst mq rq
        generalize hgP1 : (p_rec (F 1) P) = P1
        have hd1 : p_hd P1 := by rw [← hgP1]; exact p_hd_rec hH hF1
        have e1 : ∀ k, k < 719 → P1 k = P k := by intro k hk; rw [← hgP1]; exact p_rec_hd hF1 hk
        obtain ⟨hw0, hw1, hh0, hh1, hf0, hf1, hf2, hr0, hr1, hc0, hc1, hp0, hp1, hk0, hk1, hi0, hi1, hkp, hP1⟩ := id hd1
        refine z_iload_n e_X5_feed_44 rfl ?_
        refine z_if_eq e_X5_feed_45 (by decide) (fun _ => ?_) (fun hq => absurd hq (by decide))
        refine z_aload_n e_X5_feed_56 rfl ?_
        refine z_iload_n e_X5_feed_57 rfl ?_
        refine z_callVv (M' := M_X5_writes) (As := [zi code]) (rest := []) e_X5_feed_58 l_RX5_102 rfl rfl rfl rfl t0 ⟨_, _, rfl⟩ (c_X5_writes hM hd1 (by omega) (by omega)) (fun mq rq hq => ?_)
        obtain ⟨e2q, e3q⟩ := hq
        subst mq rq
        refine z_aload_n e_X5_feed_61 rfl ?_
        refine z_getr (fi := 0) (r := some (o + 1)) e_X5_feed_62 f_RX5_7 t0 rfl rfl (q0) ?_
        refine z_bipush e_X5_feed_65 (by decide +kernel) ?_
        refine z_iald (x := ((p_write code P1) 14)) e_X5_feed_67 t1 (by decide) (by decide) (by decide) (congrFun (z_us _ _ _) _) ?_
        refine z_iret e_X5_feed_68 (Or.inl rfl) rfl rfl ⟨rfl, _, rfl, ?_⟩
        refine ⟨fun hb => ⟨?_, ?_⟩, fun hb => absurd (by omega) hb, rfl⟩
        · subst hgP1; grind
        · subst hgP1; grind
      · refine z_iconst e_X5_feed_38 ?_
        refine z_iret e_X5_feed_39 (Or.inl rfl) rfl rfl ⟨rfl, _, rfl, ?_⟩
        exact ⟨fun hb => absurd hb (by omega), fun _ => ⟨rfl, rfl⟩, rfl⟩
    · refine z_iconst e_X5_feed_17 ?_
      refine z_goto e_X5_feed_18 ?_
      refine z_istore_n (ls' := [some (zo o), some (zi code), some (zi 1)]) e_X5_feed_22 rfl rfl rfl ?_
      refine z_iload_n e_X5_feed_23 rfl ?_
      refine z_if_ne e_X5_feed_24 (by decide) (fun _ => ?_) (fun hq => absurd hq (by decide))
      refine z_aload_n e_X5_feed_40 rfl ?_
      refine z_callVv (M' := M_X5_records) (As := []) (rest := []) e_X5_feed_41 l_RX5_96 rfl rfl rfl rfl t0 ⟨_, _, rfl⟩ (c_X5_records hM (by omega) (by omega)) (fun mq rq hq => ?_)
      obtain ⟨e2q, e3q⟩ := hq
      subst mq rq
      generalize hgP1 : (p_rec (F 1) P) = P1
      have hd1 : p_hd P1 := by rw [← hgP1]; exact p_hd_rec hH hF1
      have e1 : ∀ k, k < 719 → P1 k = P k := by intro k hk; rw [← hgP1]; exact p_rec_hd hF1 hk
      obtain ⟨hw0, hw1, hh0, hh1, hf0, hf1, hf2, hr0, hr1, hc0, hc1, hp0, hp1, hk0, hk1, hi0, hi1, hkp, hP1⟩ := id hd1
      refine z_iload_n e_X5_feed_44 rfl ?_
      refine z_if_eq e_X5_feed_45 (by decide) (fun hq => absurd hq (by decide)) (fun _ => ?_)
      refine z_aload_n e_X5_feed_48 rfl ?_
      refine z_iload_n e_X5_feed_49 rfl ?_
      refine z_callVv (M' := M_X5_moves) (As := [zi code]) (rest := []) e_X5_feed_50 l_RX5_99 rfl rfl rfl rfl t0 ⟨_, _, rfl⟩ (c_X5_moves hM hd1 hz) (fun mq rq hq => ?_)
      obtain ⟨e2q, e3q⟩ := hq
      subst mq rq
      refine z_goto e_X5_feed_53 ?_
      refine z_aload_n e_X5_feed_61 rfl ?_
      refine z_getr (fi := 0) (r := some (o + 1)) e_X5_feed_62 f_RX5_7 t0 rfl rfl (q0) ?_
      refine z_bipush e_X5_feed_65 (by decide +kernel) ?_
      refine z_iald (x := ((p_move code P1) 14)) e_X5_feed_67 t1 (by decide) (by decide) (by decide) (congrFun (z_us _ _ _) _) ?_
      refine z_iret e_X5_feed_68 (Or.inl rfl) rfl rfl ⟨rfl, _, rfl, ?_⟩
      refine ⟨fun hb => ⟨?_, ?_⟩, fun hb => absurd (by omega) hb, rfl⟩
      · subst hgP1; grind
      · subst hgP1; grind
