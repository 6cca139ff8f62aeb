set_option maxHeartbeats 1000000 in
set_option maxRecDepth 100000 in
theorem c_X3_startOf {E : z_E} {mi : z_Mi} {mr : z_Mr} {s : Nat} {sg : Int → Nat} {P : Int → Int} {k : Int} (hS : z_Sh E mi mr s sg P (p_rows P)) (hH : p_hd P) (h0 : 0 ≤ k) (h1 : k < m_count P) : z_mi M_X3_startOf E [zo s, zi k] mi mr (fun x m r => x = m_lbeg P (m_count P) (m_lno P (m_count P) k) ∧ m = mi ∧ r = mr) := by
  obtain ⟨⟨t0, t1, t2, t3, t4, q0, q1, q2⟩, ⟨d3, d4, d5, d6, d7, d8, u0, u1, u2, uk, uz⟩, hrows⟩ := id hS
  obtain ⟨hw0, hw1, hh0, hh1, hf0, hf1, hf2, hr0, hr1, hc0, hc1, hp0, hp1, hk0, hk1, hi0, hi1, hkp, hP⟩ := id hH
  have hcb0 := m_count_b hH
  refine z_ofi (ls := [some (zo s), some (zi k), none]) rfl (fun _ _ => trivial) ⟨rfl, rfl⟩ (Nat.le_of_ble_eq_true rfl) rfl ?_
  refine z_iload_n e_X3_startOf_0 rfl ?_
  refine z_istore_n (ls' := [some (zo s), some (zi k), some (zi k)]) e_X3_startOf_1 rfl rfl rfl ?_
  have loop2 : ∀ (nn : Nat) (i : Int), i.toNat = nn → (0 ≤ i ∧ i ≤ k ∧ (∀ j, i ≤ j → j < k → ¬ m_ends P (m_count P) j)) → z_A M_X3_startOf E 0 0 2 [some (zo s), some (zi k), some (zi i)] [] mi mr (z_qi E (fun x m r => x = m_lbeg P (m_count P) (m_lno P (m_count P) k) ∧ m = mi ∧ r = mr)) := by
    intro nn
    induction nn using Nat.strongRecOn with
    | _ nn ih2 =>
      intro i hmeas hinv
      obtain ⟨hi9, hi8, hne⟩ := hinv
      refine z_iload_n e_X3_startOf_2 rfl ?_
      refine z_if_le e_X3_startOf_3 ⟨by omega, by omega⟩ (fun h3_1 => ?_) (fun h3_1 => ?_)
      · refine z_iload_n e_X3_startOf_25 rfl ?_
        refine z_iret e_X3_startOf_26 (Or.inl rfl) rfl rfl ⟨rfl, _, rfl, ?_⟩
        refine ⟨?_, rfl, rfl⟩
        exact (m_lbeg_eq hi9 (by omega) (by first | exact Or.inl (by omega) | exact Or.inr (by rw [hme]; omega)) (Or.inl (m_lno_same hi9 hi8 hne).symm)).symm
      · refine z_aload_n e_X3_startOf_6 rfl ?_
        have hrw := z_Sh_rw hS (k := i - 1) (by omega) (by omega)
        have hme := m_ends_row (n := m_count P) hrw.2.2.1
        have hfl := hrw.2.2.1
        refine z_iload_n e_X3_startOf_7 rfl ?_
        refine z_iconst e_X3_startOf_8 ?_
        refine z_isub e_X3_startOf_9 ?_
        refine z_callVr (M' := M_X3_rowAt) (As := [zi (i - 1)]) (rest := []) e_X3_startOf_10 l_RX3_56 rfl rfl rfl rfl t0 ⟨_, _, rfl⟩ (c_X3_rowAt hS hH (by omega) (by omega)) (fun xq mq rq hq => ?_)
        obtain ⟨e1q, e2q, e3q⟩ := hq
        subst xq mq rq
        refine z_geti (fi := 1) (x := (p_rows P (i - 1) 20)) e_X3_startOf_13 f_RX3_105 (z_Sh_tag hS (k := (i - 1)) (by omega) (by omega)) rfl rfl (hrw.1.2.2.1) ?_
        refine z_if_eq e_X3_startOf_16 ⟨by omega, by omega⟩ (fun h16_2 => ?_) (fun h16_2 => ?_)
        · refine z_iload_n e_X3_startOf_25 rfl ?_
          refine z_iret e_X3_startOf_26 (Or.inl rfl) rfl rfl ⟨rfl, _, rfl, ?_⟩
          refine ⟨?_, rfl, rfl⟩
          exact (m_lbeg_eq hi9 (by omega) (by first | exact Or.inl (by omega) | exact Or.inr (by rw [hme]; omega)) (Or.inl (m_lno_same hi9 hi8 hne).symm)).symm
        · refine z_iinc (y := (i + (-1))) (ls' := [some (zo s), some (zi k), some (zi (i + (-1)))]) e_X3_startOf_19 rfl rfl rfl rfl rfl ?_
          refine z_goto e_X3_startOf_22 ?_
          exact ih2 _ (by omega) (i + (-1)) rfl (⟨by omega, by omega, fun j g0 g1 => by
                by_cases hj : j = i - 1
                · rw [hj, hme]; omega
                · exact hne j (by omega) g1⟩)
  exact loop2 _ k rfl (⟨by omega, by omega, fun j g0 g1 => absurd g0 (by omega)⟩)
set_option maxHeartbeats 1000000 in
set_option maxRecDepth 100000 in
theorem c_X3_endOf {E : z_E} {mi : z_Mi} {mr : z_Mr} {s : Nat} {sg : Int → Nat} {P : Int → Int} {k : Int} (hS : z_Sh E mi mr s sg P (p_rows P)) (hH : p_hd P) (h0 : 0 ≤ k) (h1 : k < m_count P) : z_mi M_X3_endOf E [zo s, zi k] mi mr (fun x m r => x = m_lend P (m_count P) k ∧ m = mi ∧ r = mr) := by
  obtain ⟨⟨t0, t1, t2, t3, t4, q0, q1, q2⟩, ⟨d3, d4, d5, d6, d7, d8, u0, u1, u2, uk, uz⟩, hrows⟩ := id hS
  obtain ⟨hw0, hw1, hh0, hh1, hf0, hf1, hf2, hr0, hr1, hc0, hc1, hp0, hp1, hk0, hk1, hi0, hi1, hkp, hP⟩ := id hH
  have hcb0 := m_count_b hH
  refine z_ofi (ls := [some (zo s), some (zi k), none, none]) rfl (fun _ _ => trivial) ⟨rfl, rfl⟩ (Nat.le_of_ble_eq_true rfl) rfl ?_
  refine z_aload_n e_X3_endOf_0 rfl ?_
  refine z_callVi (M' := M_X3_countedRows) (As := []) (rest := []) e_X3_endOf_1 l_RX3_139 rfl rfl rfl rfl t0 ⟨_, _, rfl⟩ (c_X3_countedRows hS hH) (fun xq mq rq hq => ?_)
  obtain ⟨e1q, e2q, e3q⟩ := hq
  subst xq mq rq
  have hcb := m_count_b hH
  refine z_istore_n (ls' := [some (zo s), some (zi k), some (zi (m_count P)), none]) e_X3_endOf_4 rfl rfl rfl ?_
  refine z_iload_n e_X3_endOf_5 rfl ?_
  refine z_istore_n (ls' := [some (zo s), some (zi k), some (zi (m_count P)), some (zi k)]) e_X3_endOf_6 rfl rfl rfl ?_
  have loop7 : ∀ (nn : Nat) (e : Int), (m_count P - e).toNat = nn → (k ≤ e ∧ e < m_count P ∧ (∀ j, k ≤ j → j < e → ¬ m_ends P (m_count P) j)) → z_A M_X3_endOf E 0 0 7 [some (zo s), some (zi k), some (zi (m_count P)), some (zi e)] [] mi mr (z_qi E (fun x m r => x = m_lend P (m_count P) k ∧ m = mi ∧ r = mr)) := by
    intro nn
    induction nn using Nat.strongRecOn with
    | _ nn ih7 =>
      intro e hmeas hinv
      obtain ⟨hi9, hi8, hne⟩ := hinv
      refine z_iload_n e_X3_endOf_7 rfl ?_
      refine z_iload_n e_X3_endOf_8 rfl ?_
      refine z_icmp_ge e_X3_endOf_9 ⟨by omega, by omega⟩ ⟨by omega, by omega⟩ (fun h9_1 => ?_) (fun h9_1 => ?_)
      · exfalso; omega
      · refine z_aload_n e_X3_endOf_12 rfl ?_
        refine z_iload_n e_X3_endOf_13 rfl ?_
        refine z_iload_n e_X3_endOf_14 rfl ?_
        refine z_callVi (M' := M_X3_endsLine) (As := [zi e, zi (m_count P)]) (rest := []) e_X3_endOf_15 l_RX3_142 rfl rfl rfl rfl t0 ⟨_, _, rfl⟩ (c_X3_endsLine hS hH (by omega) (by omega) (by omega) (by omega)) (fun xq mq rq hq => ?_)
        obtain ⟨e1q, e2q, e3q⟩ := hq
        subst xq mq rq
        refine z_if_neB e_X3_endOf_18  (fun h18_2 => ?_) (fun h18_2 => ?_)
        · refine z_iload_n e_X3_endOf_27 rfl ?_
          refine z_iret e_X3_endOf_28 (Or.inl rfl) rfl rfl ⟨rfl, _, rfl, ?_⟩
          refine ⟨?_, rfl, rfl⟩
          exact (m_lend_eq hi9 hi8 (by assumption) hne).symm
        · refine z_iinc (y := (e + 1)) (ls' := [some (zo s), some (zi k), some (zi (m_count P)), some (zi (e + 1))]) e_X3_endOf_21 rfl rfl rfl rfl rfl ?_
          refine z_goto e_X3_endOf_24 ?_
          exact ih7 _ (by omega) (e + 1) rfl (⟨by omega, by have hnl : ¬ (m_count P - 1 ≤ e) := (fun x => absurd (Or.inl x : m_ends P (m_count P) e) (by assumption)); omega, fun j g0 g1 => by
                by_cases hj : j = e
                · rw [hj]; assumption
                · exact hne j g0 (by omega)⟩)
  exact loop7 _ k rfl (⟨by omega, by omega, fun j g0 g1 => absurd g0 (by omega)⟩)
set_option maxHeartbeats 1000000 in
set_option maxRecDepth 100000 in
theorem c_X3_cellsOfLine {E : z_E} {mi : z_Mi} {mr : z_Mr} {s : Nat} {sg : Int → Nat} {P : Int → Int} {k b : Int} (hS : z_Sh E mi mr s sg P (p_rows P)) (hH : p_hd P) (h0 : 0 ≤ k) (h1 : k < P 14 + P 1) (hb : b = 0 ∨ b = 1) : z_mi M_X3_cellsOfLine E [zo s, zi k, zi b] mi mr (fun x m r => x = m_cl P k b ∧ m = mi ∧ r = mr) := by
  obtain ⟨⟨t0, t1, t2, t3, t4, q0, q1, q2⟩, ⟨d3, d4, d5, d6, d7, d8, u0, u1, u2, uk, uz⟩, hrows⟩ := id hS
  obtain ⟨hw0, hw1, hh0, hh1, hf0, hf1, hf2, hr0, hr1, hc0, hc1, hp0, hp1, hk0, hk1, hi0, hi1, hkp, hP⟩ := id hH
  have hrw := z_Sh_rw hS h0 h1
  have hfl := hrw.2.2.2
  refine z_ofi (ls := [some (zo s), some (zi k), some (zi b), none]) rfl (fun _ _ => trivial) ⟨rfl, rfl⟩ (Nat.le_of_ble_eq_true rfl) rfl ?_
  refine z_aload_n e_X3_cellsOfLine_0 rfl ?_
  refine z_iload_n e_X3_cellsOfLine_1 rfl ?_
  refine z_callVr (M' := M_X3_rowAt) (As := [zi k]) (rest := []) e_X3_cellsOfLine_2 l_RX3_56 rfl rfl rfl rfl t0 ⟨_, _, rfl⟩ (c_X3_rowAt hS hH (by omega) (by omega)) (fun xq mq rq hq => ?_)
  obtain ⟨e1q, e2q, e3q⟩ := hq
  subst xq mq rq
  refine z_astore_n (ls' := [some (zo s), some (zi k), some (zi b), some (zo (sg k))]) e_X3_cellsOfLine_5 rfl rfl rfl ?_
  refine z_iload_n e_X3_cellsOfLine_6 rfl ?_
  refine z_if_eq e_X3_cellsOfLine_7 ⟨by omega, by omega⟩ (fun h7_1 => ?_) (fun h7_1 => ?_)
  · refine z_aload_n e_X3_cellsOfLine_15 rfl ?_
    refine z_geti (fi := 2) (x := (p_rows P k 21)) e_X3_cellsOfLine_16 f_RX3_99 (z_Sh_tag hS (k := k) (by omega) (by omega)) rfl rfl (hrw.1.2.2.2) ?_
    refine z_if_eq e_X3_cellsOfLine_19 ⟨by omega, by omega⟩ (fun h19_2 => ?_) (fun h19_2 => ?_)
    · refine z_aload_n e_X3_cellsOfLine_31 rfl ?_
      refine z_geti (fi := 5) (x := (P 0)) e_X3_cellsOfLine_32 f_RX3_35 t0 rfl rfl (d5) ?_
      refine z_iret e_X3_cellsOfLine_35 (Or.inl rfl) rfl rfl ⟨rfl, _, rfl, ?_⟩
      refine ⟨?_, rfl, rfl⟩
      unfold m_cl
      rw [if_neg (by omega)]
      exact (if_neg (show ¬ P (15 + 22 * m_slot P k + 21) = 1 by have hz : p_rows P k 21 = P (15 + 22 * m_slot P k + 21) := rfl; omega)).symm
    · refine z_aload_n e_X3_cellsOfLine_22 rfl ?_
      refine z_geti (fi := 5) (x := (P 0)) e_X3_cellsOfLine_23 f_RX3_35 t0 rfl rfl (d5) ?_
      refine z_iconst e_X3_cellsOfLine_26 ?_
      refine z_isub e_X3_cellsOfLine_27 ?_
      refine z_goto e_X3_cellsOfLine_28 ?_
      refine z_iret e_X3_cellsOfLine_35 (Or.inl rfl) rfl rfl ⟨rfl, _, rfl, ?_⟩
      refine ⟨?_, rfl, rfl⟩
      unfold m_cl
      rw [if_neg (by omega)]
      exact (if_pos (show P (15 + 22 * m_slot P k + 21) = 1 by have hz : p_rows P k 21 = P (15 + 22 * m_slot P k + 21) := rfl; omega)).symm
  · refine z_aload_n e_X3_cellsOfLine_10 rfl ?_
    refine z_callVi (M' := M_X2_filled) (As := []) (rest := []) e_X3_cellsOfLine_11 l_RX3_136 rfl rfl rfl rfl (z_Sh_tag hS (k := k) (by omega) (by omega)) ⟨_, _, rfl⟩ (d_X2_filled (z_Sh_row hS (k := k) (by omega) (by omega)).2 (z_Sh_xr hS (k := k) (by omega) (by omega))) (fun xq mq rq hq => ?_)
    obtain ⟨e1q, e2q, e3q⟩ := hq
    have htk : xq = n_used (p_rows P k) (P 0).toNat := e1q.trans (c_fil_eq (z_Sh_rw hS (k := k) (by omega) (by omega)).1 (by omega) (by omega))
    clear e1q
    subst htk
    subst mq rq
    have hub := n_used_b (p_rows P k) (P 0).toNat
    refine z_iret e_X3_cellsOfLine_14 (Or.inl rfl) rfl rfl ⟨rfl, _, rfl, ?_⟩
    refine ⟨?_, rfl, rfl⟩
    unfold m_cl
    rw [if_pos (by omega)]; rfl
set_option maxHeartbeats 1000000 in
set_option maxRecDepth 100000 in
theorem c_X3_signsOfLine {E : z_E} {mi : z_Mi} {mr : z_Mr} {s : Nat} {sg : Int → Nat} {P : Int → Int} {b e : Int} (hS : z_Sh E mi mr s sg P (p_rows P)) (hH : p_hd P) (h0 : 0 ≤ b) (h1 : b ≤ e) (h2 : e < P 14 + P 1) : z_mi M_X3_signsOfLine E [zo s, zi b, zi e] mi mr (fun x m r => x = m_signs P b e ∧ m = mi ∧ r = mr) := by
  obtain ⟨⟨t0, t1, t2, t3, t4, q0, q1, q2⟩, ⟨d3, d4, d5, d6, d7, d8, u0, u1, u2, uk, uz⟩, hrows⟩ := id hS
  obtain ⟨hw0, hw1, hh0, hh1, hf0, hf1, hf2, hr0, hr1, hc0, hc1, hp0, hp1, hk0, hk1, hi0, hi1, hkp, hP⟩ := id hH
  refine z_ofi (ls := [some (zo s), some (zi b), some (zi e), none, none]) rfl (fun _ _ => trivial) ⟨rfl, rfl⟩ (Nat.le_of_ble_eq_true rfl) rfl ?_
  refine z_iconst e_X3_signsOfLine_0 ?_
  refine z_istore_n (ls' := [some (zo s), some (zi b), some (zi e), some (zi 0), none]) e_X3_signsOfLine_1 rfl rfl rfl ?_
  refine z_iload_n e_X3_signsOfLine_2 rfl ?_
  refine z_istore (ls' := [some (zo s), some (zi b), some (zi e), some (zi 0), some (zi b)]) e_X3_signsOfLine_3 rfl rfl rfl ?_
  have loop5 : ∀ (nn : Nat) (k : Int) (n : Int), (e + 1 - k).toNat = nn → (b ≤ k ∧ k ≤ e + 1 ∧ n = m_sgn P e b (k - b).toNat) → z_A M_X3_signsOfLine E 0 0 5 [some (zo s), some (zi b), some (zi e), some (zi n), some (zi k)] [] mi mr (z_qi E (fun x m r => x = m_signs P b e ∧ m = mi ∧ r = mr)) := by
    intro nn
    induction nn using Nat.strongRecOn with
    | _ nn ih5 =>
      intro k n hmeas hinv
      obtain ⟨hi9, hi8, hn⟩ := hinv
      refine z_iload e_X3_signsOfLine_5 rfl ?_
      refine z_iload_n e_X3_signsOfLine_7 rfl ?_
      refine z_icmp_gt e_X3_signsOfLine_8 ⟨by omega, by omega⟩ ⟨by omega, by omega⟩ (fun h8_1 => ?_) (fun h8_1 => ?_)
      · refine z_iload_n e_X3_signsOfLine_46 rfl ?_
        refine z_iret e_X3_signsOfLine_47 (Or.inl rfl) rfl rfl ⟨rfl, _, rfl, ?_⟩
        refine ⟨?_, rfl, rfl⟩
        rw [hn, show k = e + 1 by omega]
        rfl
      · refine z_iload_n e_X3_signsOfLine_11 rfl ?_
        refine z_aload_n e_X3_signsOfLine_12 rfl ?_
        refine z_iload e_X3_signsOfLine_13 rfl ?_
        refine z_callVr (M' := M_X3_rowAt) (As := [zi k]) (rest := [zi n]) e_X3_signsOfLine_15 l_RX3_56 rfl rfl rfl rfl t0 ⟨_, _, rfl⟩ (c_X3_rowAt hS hH (by omega) (by omega)) (fun xq mq rq hq => ?_)
        obtain ⟨e1q, e2q, e3q⟩ := hq
        subst xq mq rq
        refine z_aload_n e_X3_signsOfLine_18 rfl ?_
        refine z_iload e_X3_signsOfLine_19 rfl ?_
        have join32_1 : ∀ (be : Int), be = (if k = e then 1 else 0) → z_A M_X3_signsOfLine E 0 0 32 [some (zo s), some (zi b), some (zi e), some (zi n), some (zi k)] [zi be, zi k, zo s, zo (sg k), zi n] mi mr (z_qi E (fun x m r => x = m_signs P b e ∧ m = mi ∧ r = mr)) := by
          intro be hj
          have hbe := hj
          have hbe2 : be = 0 ∨ be = 1 := by rw [hj]; split <;> omega
          refine z_callVi (M' := M_X3_cellsOfLine) (As := [zi k, zi be]) (rest := [zo (sg k), zi n]) e_X3_signsOfLine_32 l_RX3_149 rfl rfl rfl rfl t0 ⟨_, _, rfl⟩ (c_X3_cellsOfLine hS hH (by omega) (by omega) (by omega)) (fun xq mq rq hq => ?_)
          obtain ⟨e1q, e2q, e3q⟩ := hq
          subst xq mq rq
          have hclb := m_cl_b hH k be
          refine z_callVi (M' := M_X2_signsBefore) (As := [zi (m_cl P k be)]) (rest := [zi n]) e_X3_signsOfLine_35 l_RX3_153 rfl rfl rfl rfl (z_Sh_tag hS (k := k) (by omega) (by omega)) ⟨_, _, rfl⟩ (d_X2_signsBefore (z_Sh_row hS (k := k) (by omega) (by omega)).2 (z_Sh_xr hS (k := k) (by omega) (by omega)) ⟨by omega, by omega⟩) (fun xq mq rq hq => ?_)
          obtain ⟨e1q, e2q, e3q⟩ := hq
          have ht20 : (if (m_cl P k be) < 20 then (m_cl P k be) else 20) = (m_cl P k be) := by by_cases q : (m_cl P k be) < 20 <;> omega
          rw [ht20, c_sb_eq (W := P 0) (z_Sh_rw hS (k := k) (by omega) (by omega)).1 (z_Sh_rw hS (k := k) (by omega) (by omega)).2 (by omega) (by omega)] at e1q
          have htk : xq = m_sin P (m_slot P k) (m_cl P k be) := e1q
          clear e1q
          subst htk
          subst mq rq
          refine z_iadd e_X3_signsOfLine_38 ?_
          refine z_istore_n (ls' := [some (zo s), some (zi b), some (zi e), some (zi (n + (m_sin P (m_slot P k) (m_cl P k be)))), some (zi k)]) e_X3_signsOfLine_39 rfl rfl rfl ?_
          refine z_iinc (y := (k + 1)) (ls' := [some (zo s), some (zi b), some (zi e), some (zi (n + (m_sin P (m_slot P k) (m_cl P k be)))), some (zi (k + 1))]) e_X3_signsOfLine_40 rfl rfl rfl rfl rfl ?_
          refine z_goto e_X3_signsOfLine_43 ?_
          exact ih5 _ (by omega) (k + 1) (n + (m_sin P (m_slot P k) (m_cl P k be))) rfl (⟨by omega, by omega, by rw [hn, hbe, m_cl_e, show k + 1 - b = (k - b) + 1 by omega]; unfold m_sgn; rw [n_sum_s _ (by omega), show b + (k - b) = k by omega]; rfl⟩)
        refine z_iload e_X3_signsOfLine_21 rfl ?_
        refine z_iload_n e_X3_signsOfLine_23 rfl ?_
        refine z_icmp_ne e_X3_signsOfLine_24 ⟨by omega, by omega⟩ ⟨by omega, by omega⟩ (fun h24_3 => ?_) (fun h24_3 => ?_)
        · refine z_iconst e_X3_signsOfLine_31 ?_
          exact join32_1 0 ((if_neg (by omega)).symm)
        · refine z_iconst e_X3_signsOfLine_27 ?_
          refine z_goto e_X3_signsOfLine_28 ?_
          exact join32_1 1 ((if_pos (by omega)).symm)
  exact loop5 _ b 0 rfl (⟨by omega, by omega, by rw [show (b - b).toNat = 0 by omega]; rfl⟩)
set_option maxHeartbeats 1000000 in
set_option maxRecDepth 100000 in
theorem c_X3_lineOf {E : z_E} {mi : z_Mi} {mr : z_Mr} {s : Nat} {sg : Int → Nat} {P : Int → Int} {p : Nat} {row col pe : Int} (hS : z_Sh E mi mr s sg P (p_rows P)) (hH : p_hd P) (tp : E.2.2[p]? = some (0, 0)) (p0 : mi p 0 = row) (p1 : mi p 1 = col) (p2 : mi p 2 = pe) (h0 : 0 ≤ row) (h1 : P 14 + row < m_count P) : z_mi M_X3_lineOf E [zo s, zo p] mi mr (fun x m r => x = m_lno P (m_count P) (P 14 + row) ∧ m = mi ∧ r = mr) := by
  obtain ⟨⟨t0, t1, t2, t3, t4, q0, q1, q2⟩, ⟨d3, d4, d5, d6, d7, d8, u0, u1, u2, uk, uz⟩, hrows⟩ := id hS
  obtain ⟨hw0, hw1, hh0, hh1, hf0, hf1, hf2, hr0, hr1, hc0, hc1, hp0, hp1, hk0, hk1, hi0, hi1, hkp, hP⟩ := id hH
  have hcb0 := m_count_b hH
  refine z_ofi (ls := [some (zo s), some (zo p)]) rfl (fun _ _ => trivial) ⟨rfl, rfl⟩ (Nat.le_of_ble_eq_true rfl) rfl ?_
  refine z_aload_n e_X3_lineOf_0 rfl ?_
  refine z_aload_n e_X3_lineOf_1 rfl ?_
  refine z_aload_n e_X3_lineOf_2 rfl ?_
  refine z_geti (fi := 4) (x := (P 14)) e_X3_lineOf_3 f_RX3_32 t0 rfl rfl (d4) ?_
  refine z_aload_n e_X3_lineOf_6 rfl ?_
  refine z_geti (fi := 0) (x := row) e_X3_lineOf_7 f_RX3_66 tp rfl rfl (p0) ?_
  refine z_iadd e_X3_lineOf_10 ?_
  refine z_callVi (M' := M_X3_startOf) (As := [zi ((P 14) + row)]) (rest := [zo s]) e_X3_lineOf_11 l_RX3_156 rfl rfl rfl rfl t0 ⟨_, _, rfl⟩ (c_X3_startOf hS hH (by omega) (by omega)) (fun xq mq rq hq => ?_)
  obtain ⟨e1q, e2q, e3q⟩ := hq
  subst xq mq rq
  have hbo := m_lbeg_of (P := P) (n := m_count P) (k := ((P 14) + row)) (by omega) (by omega)
  have hbo1 := hbo.1
  have hbo2 := hbo.2.1
  refine z_callVi (M' := M_X3_linesBefore) (As := [zi (m_lbeg P (m_count P) (m_lno P (m_count P) ((P 14) + row)))]) (rest := []) e_X3_lineOf_14 l_RX3_146 rfl rfl rfl rfl t0 ⟨_, _, rfl⟩ (c_X3_linesBefore hS hH (by omega) (by omega)) (fun xq mq rq hq => ?_)
  obtain ⟨e1q, e2q, e3q⟩ := hq
  subst xq mq rq
  refine z_iret e_X3_lineOf_17 (Or.inl rfl) rfl rfl ⟨rfl, _, rfl, ?_⟩
  refine ⟨?_, rfl, rfl⟩
  have hbo9 := m_lbeg_of (P := P) (n := m_count P) (k := P 14 + row) (by omega) (by omega)
  exact (m_lno_same hbo9.2.1 hbo9.1 hbo9.2.2.2).symm
set_option maxHeartbeats 1000000 in
set_option maxRecDepth 100000 in
theorem c_X3_markOf {E : z_E} {mi : z_Mi} {mr : z_Mr} {s : Nat} {sg : Int → Nat} {P : Int → Int} {p : Nat} {row col pe : Int} (hS : z_Sh E mi mr s sg P (p_rows P)) (hH : p_hd P) (tp : E.2.2[p]? = some (0, 0)) (p0 : mi p 0 = row) (p1 : mi p 1 = col) (p2 : mi p 2 = pe) (h0 : 0 ≤ row) (h1 : P 14 + row < m_count P) (h2 : 0 ≤ col) (h3 : col < P 0) (h4 : pe = 0 ∨ pe = 1) : z_mi M_X3_markOf E [zo s, zo p] mi mr (fun x m r => x = m_mark P (m_count P) row (if pe = 1 then P 0 else col) ∧ m = mi ∧ r = mr) := by
  obtain ⟨⟨t0, t1, t2, t3, t4, q0, q1, q2⟩, ⟨d3, d4, d5, d6, d7, d8, u0, u1, u2, uk, uz⟩, hrows⟩ := id hS
  obtain ⟨hw0, hw1, hh0, hh1, hf0, hf1, hf2, hr0, hr1, hc0, hc1, hp0, hp1, hk0, hk1, hi0, hi1, hkp, hP⟩ := id hH
  have hcb0 := m_count_b hH
  have hle := m_lend_spec (P := P) (n := m_count P) (k := P 14 + row) (by omega)
  have hle1 := hle.1
  have hle2 := hle.2.1
  refine z_ofi (ls := [some (zo s), some (zo p), none, none, none, none, none]) rfl (fun _ _ => trivial) ⟨rfl, rfl⟩ (Nat.le_of_ble_eq_true rfl) rfl ?_
  refine z_aload_n e_X3_markOf_0 rfl ?_
  refine z_geti (fi := 4) (x := (P 14)) e_X3_markOf_1 f_RX3_32 t0 rfl rfl (d4) ?_
  refine z_aload_n e_X3_markOf_4 rfl ?_
  refine z_geti (fi := 0) (x := row) e_X3_markOf_5 f_RX3_66 tp rfl rfl (p0) ?_
  refine z_iadd e_X3_markOf_8 ?_
  refine z_istore_n (ls' := [some (zo s), some (zo p), some (zi ((P 14) + row)), none, none, none, none]) e_X3_markOf_9 rfl rfl rfl ?_
  refine z_iconst e_X3_markOf_10 ?_
  refine z_istore_n (ls' := [some (zo s), some (zo p), some (zi ((P 14) + row)), some (zi 0), none, none, none]) e_X3_markOf_11 rfl rfl rfl ?_
  refine z_aload_n e_X3_markOf_12 rfl ?_
  refine z_iload_n e_X3_markOf_13 rfl ?_
  refine z_callVi (M' := M_X3_startOf) (As := [zi ((P 14) + row)]) (rest := []) e_X3_markOf_14 l_RX3_156 rfl rfl rfl rfl t0 ⟨_, _, rfl⟩ (c_X3_startOf hS hH (by omega) (by omega)) (fun xq mq rq hq => ?_)
  obtain ⟨e1q, e2q, e3q⟩ := hq
  subst xq mq rq
  have hbo := m_lbeg_of (P := P) (n := m_count P) (k := ((P 14) + row)) (by omega) (by omega)
  have hbo1 := hbo.1
  have hbo2 := hbo.2.1
  refine z_istore (ls' := [some (zo s), some (zo p), some (zi ((P 14) + row)), some (zi 0), some (zi (m_lbeg P (m_count P) (m_lno P (m_count P) ((P 14) + row)))), none, none]) e_X3_markOf_17 rfl rfl rfl ?_
  have loop19 : ∀ (nn : Nat) (k : Int) (n : Int), (P 14 + row - k).toNat = nn → ((m_lbeg P (m_count P) (m_lno P (m_count P) (P 14 + row))) ≤ k ∧ k ≤ P 14 + row ∧ n = m_sgn P (m_lend P (m_count P) (P 14 + row)) (m_lbeg P (m_count P) (m_lno P (m_count P) (P 14 + row))) (k - (m_lbeg P (m_count P) (m_lno P (m_count P) (P 14 + row)))).toNat) → z_A M_X3_markOf E 0 0 19 [some (zo s), some (zo p), some (zi ((P 14) + row)), some (zi n), some (zi k), none, none] [] mi mr (z_qi E (fun x m r => x = m_mark P (m_count P) row (if pe = 1 then P 0 else col) ∧ m = mi ∧ r = mr)) := by
    intro nn
    induction nn using Nat.strongRecOn with
    | _ nn ih19 =>
      intro k n hmeas hinv
      obtain ⟨hi9, hi8, hn⟩ := hinv
      refine z_iload e_X3_markOf_19 rfl ?_
      refine z_iload_n e_X3_markOf_21 rfl ?_
      refine z_icmp_ge e_X3_markOf_22 ⟨by omega, by omega⟩ ⟨by omega, by omega⟩ (fun h22_1 => ?_) (fun h22_1 => ?_)
      · have hk : k = P 14 + row := by omega
        have hgb := m_sgn_b (P := P) (e := m_lend P (m_count P) (P 14 + row)) (b := (m_lbeg P (m_count P) (m_lno P (m_count P) (P 14 + row)))) hH (k - (m_lbeg P (m_count P) (m_lno P (m_count P) (P 14 + row)))).toNat
        have hgk : (k - (m_lbeg P (m_count P) (m_lno P (m_count P) (P 14 + row)))).toNat ≤ 32 := by omega
        refine z_aload_n e_X3_markOf_50 rfl ?_
        refine z_iload_n e_X3_markOf_51 rfl ?_
        refine z_aload_n e_X3_markOf_52 rfl ?_
        refine z_callVi (M' := M_X3_countedRows) (As := []) (rest := [zi ((P 14) + row), zo s]) e_X3_markOf_53 l_RX3_139 rfl rfl rfl rfl t0 ⟨_, _, rfl⟩ (c_X3_countedRows hS hH) (fun xq mq rq hq => ?_)
        obtain ⟨e1q, e2q, e3q⟩ := hq
        subst xq mq rq
        have hcb := m_count_b hH
        refine z_callVi (M' := M_X3_endsLine) (As := [zi ((P 14) + row), zi (m_count P)]) (rest := []) e_X3_markOf_56 l_RX3_142 rfl rfl rfl rfl t0 ⟨_, _, rfl⟩ (c_X3_endsLine hS hH (by omega) (by omega) (by omega) (by omega)) (fun xq mq rq hq => ?_)
        obtain ⟨e1q, e2q, e3q⟩ := hq
        subst xq mq rq
        generalize hen : (if m_ends P (m_count P) (P 14 + row) then (1 : Int) else 0) = en
        have hen2 : en = (if P 14 + row = m_lend P (m_count P) (P 14 + row) then 1 else 0) := by
          rw [← hen]
          by_cases q : m_ends P (m_count P) (P 14 + row)
          · rw [if_pos q, if_pos ((m_ends_lend (by omega)).1 q)]
          · rw [if_neg q, if_neg (fun x => q ((m_ends_lend (by omega)).2 x))]
        have hen3 : (en = 1 ∧ P 14 + row = m_lend P (m_count P) (P 14 + row)) ∨ (en = 0 ∧ P 14 + row ≠ m_lend P (m_count P) (P 14 + row)) := by
          rw [hen2]
          by_cases q : P 14 + row = m_lend P (m_count P) (P 14 + row)
          · rw [if_pos q]; exact Or.inl ⟨rfl, q⟩
          · rw [if_neg q]; exact Or.inr ⟨rfl, q⟩
        refine z_istore (ls' := [some (zo s), some (zo p), some (zi ((P 14) + row)), some (zi n), some (zi en), none, none]) e_X3_markOf_59 rfl rfl rfl ?_
        refine z_aload_n e_X3_markOf_61 rfl ?_
        refine z_iload_n e_X3_markOf_62 rfl ?_
        refine z_iload e_X3_markOf_63 rfl ?_
        refine z_callVi (M' := M_X3_cellsOfLine) (As := [zi ((P 14) + row), zi en]) (rest := []) e_X3_markOf_65 l_RX3_149 rfl rfl rfl rfl t0 ⟨_, _, rfl⟩ (c_X3_cellsOfLine hS hH (by omega) (by omega) (by omega)) (fun xq mq rq hq => ?_)
        obtain ⟨e1q, e2q, e3q⟩ := hq
        subst xq mq rq
        have hclb := m_cl_b hH ((P 14) + row) en
        have hcl : m_cl P (P 14 + row) en = m_cells P (P 14 + row) (m_lend P (m_count P) (P 14 + row)) := by rw [hen2]; exact m_cl_e _ _ _
        rw [hcl] at *
        have hceb := m_cells_b (k := P 14 + row) (e := m_lend P (m_count P) (P 14 + row)) hH
        have join88_1 : ∀ (cc : Int), cc = (if pe = 1 then P 0 else col) → z_A M_X3_markOf E 0 0 88 [some (zo s), some (zo p), some (zi ((P 14) + row)), some (zi n), some (zi en), some (zi (m_cells P (P 14 + row) (m_lend P (m_count P) (P 14 + row)))), none] [zi cc] mi mr (z_qi E (fun x m r => x = m_mark P (m_count P) row (if pe = 1 then P 0 else col) ∧ m = mi ∧ r = mr)) := by
          intro cc hj
          have hcc := hj
          have hccb : 0 ≤ cc ∧ cc ≤ 20 := by
            rw [hj]
            by_cases q : pe = 1
            · rw [if_pos q]; omega
            · rw [if_neg q]; omega
          refine z_istore (ls' := [some (zo s), some (zo p), some (zi ((P 14) + row)), some (zi n), some (zi en), some (zi (m_cells P (P 14 + row) (m_lend P (m_count P) (P 14 + row)))), some (zi cc)]) e_X3_markOf_88 rfl rfl rfl ?_
          refine z_iload_n e_X3_markOf_90 rfl ?_
          refine z_aload_n e_X3_markOf_91 rfl ?_
          refine z_iload_n e_X3_markOf_92 rfl ?_
          refine z_callVr (M' := M_X3_rowAt) (As := [zi ((P 14) + row)]) (rest := [zi n]) e_X3_markOf_93 l_RX3_56 rfl rfl rfl rfl t0 ⟨_, _, rfl⟩ (c_X3_rowAt hS hH (by omega) (by omega)) (fun xq mq rq hq => ?_)
          obtain ⟨e1q, e2q, e3q⟩ := hq
          subst xq mq rq
          refine z_iload e_X3_markOf_96 rfl ?_
          refine z_iload e_X3_markOf_98 rfl ?_
          refine z_min (x := (if (m_cells P (P 14 + row) (m_lend P (m_count P) (P 14 + row))) < cc then (m_cells P (P 14 + row) (m_lend P (m_count P) (P 14 + row))) else cc)) e_X3_markOf_100 mm_RX3_159 rfl rfl ⟨by omega, by omega⟩ ⟨by omega, by omega⟩ (rfl) ?_
          have hmi : 0 ≤ (if cc < (m_cells P (P 14 + row) (m_lend P (m_count P) (P 14 + row))) then cc else (m_cells P (P 14 + row) (m_lend P (m_count P) (P 14 + row)))) ∧ (if cc < (m_cells P (P 14 + row) (m_lend P (m_count P) (P 14 + row))) then cc else (m_cells P (P 14 + row) (m_lend P (m_count P) (P 14 + row)))) ≤ P 0 := by split <;> omega
          refine z_callVi (M' := M_X2_signsBefore) (As := [zi (if (m_cells P (P 14 + row) (m_lend P (m_count P) (P 14 + row))) < cc then (m_cells P (P 14 + row) (m_lend P (m_count P) (P 14 + row))) else cc)]) (rest := [zi n]) e_X3_markOf_103 l_RX3_153 rfl rfl rfl rfl (z_Sh_tag hS (k := ((P 14) + row)) (by omega) (by omega)) ⟨_, _, rfl⟩ (d_X2_signsBefore (z_Sh_row hS (k := ((P 14) + row)) (by omega) (by omega)).2 (z_Sh_xr hS (k := ((P 14) + row)) (by omega) (by omega)) ⟨by omega, by omega⟩) (fun xq mq rq hq => ?_)
          obtain ⟨e1q, e2q, e3q⟩ := hq
          have ht20 : (if (if (m_cells P (P 14 + row) (m_lend P (m_count P) (P 14 + row))) < cc then (m_cells P (P 14 + row) (m_lend P (m_count P) (P 14 + row))) else cc) < 20 then (if (m_cells P (P 14 + row) (m_lend P (m_count P) (P 14 + row))) < cc then (m_cells P (P 14 + row) (m_lend P (m_count P) (P 14 + row))) else cc) else 20) = (if (m_cells P (P 14 + row) (m_lend P (m_count P) (P 14 + row))) < cc then (m_cells P (P 14 + row) (m_lend P (m_count P) (P 14 + row))) else cc) := by by_cases q : (if (m_cells P (P 14 + row) (m_lend P (m_count P) (P 14 + row))) < cc then (m_cells P (P 14 + row) (m_lend P (m_count P) (P 14 + row))) else cc) < 20 <;> omega
          rw [ht20, c_sb_eq (W := P 0) (z_Sh_rw hS (k := ((P 14) + row)) (by omega) (by omega)).1 (z_Sh_rw hS (k := ((P 14) + row)) (by omega) (by omega)).2 (by omega) (by omega)] at e1q
          have htk : xq = m_sin P (m_slot P ((P 14) + row)) (if (m_cells P (P 14 + row) (m_lend P (m_count P) (P 14 + row))) < cc then (m_cells P (P 14 + row) (m_lend P (m_count P) (P 14 + row))) else cc) := e1q
          clear e1q
          subst htk
          subst mq rq
          refine z_iadd e_X3_markOf_106 ?_
          refine z_istore_n (ls' := [some (zo s), some (zo p), some (zi ((P 14) + row)), some (zi (n + (m_sin P (m_slot P ((P 14) + row)) (if (m_cells P (P 14 + row) (m_lend P (m_count P) (P 14 + row))) < cc then (m_cells P (P 14 + row) (m_lend P (m_count P) (P 14 + row))) else cc)))), some (zi en), some (zi (m_cells P (P 14 + row) (m_lend P (m_count P) (P 14 + row)))), some (zi cc)]) e_X3_markOf_107 rfl rfl rfl ?_
          refine z_iload e_X3_markOf_108 rfl ?_
          refine z_if_eq e_X3_markOf_110 ⟨by omega, by omega⟩ (fun h110_3 => ?_) (fun h110_3 => ?_)
          · refine z_iload_n e_X3_markOf_127 rfl ?_
            refine z_iret e_X3_markOf_128 (Or.inl rfl) rfl rfl ⟨rfl, _, rfl, ?_⟩
            refine ⟨?_, rfl, rfl⟩
            unfold m_mark
            rw [← hcc, hn, hk, show (if m_cells P (P 14 + row) (m_lend P (m_count P) (P 14 + row)) < cc then m_cells P (P 14 + row) (m_lend P (m_count P) (P 14 + row)) else cc) = (if cc < m_cells P (P 14 + row) (m_lend P (m_count P) (P 14 + row)) then cc else m_cells P (P 14 + row) (m_lend P (m_count P) (P 14 + row))) by split <;> split <;> omega]
            rw [if_neg (show ¬ (P 14 + row = m_lend P (m_count P) (P 14 + row) ∧ m_cells P (P 14 + row) (m_lend P (m_count P) (P 14 + row)) < cc) by omega), Int.add_zero]
          · refine z_iload_n e_X3_markOf_113 rfl ?_
            refine z_iconst e_X3_markOf_114 ?_
            refine z_iload e_X3_markOf_115 rfl ?_
            refine z_iload e_X3_markOf_117 rfl ?_
            refine z_isub e_X3_markOf_119 ?_
            refine z_max (x := (if 0 < (cc - (m_cells P (P 14 + row) (m_lend P (m_count P) (P 14 + row)))) then (cc - (m_cells P (P 14 + row) (m_lend P (m_count P) (P 14 + row)))) else 0)) e_X3_markOf_120 mm_RX3_130 rfl rfl (by decide) ⟨by omega, by omega⟩ (rfl) ?_
            refine z_iadd e_X3_markOf_123 ?_
            refine z_goto e_X3_markOf_124 ?_
            refine z_iret e_X3_markOf_128 (Or.inl rfl) rfl rfl ⟨rfl, _, rfl, ?_⟩
            refine ⟨?_, rfl, rfl⟩
            unfold m_mark
            rw [← hcc, hn, hk, show (if m_cells P (P 14 + row) (m_lend P (m_count P) (P 14 + row)) < cc then m_cells P (P 14 + row) (m_lend P (m_count P) (P 14 + row)) else cc) = (if cc < m_cells P (P 14 + row) (m_lend P (m_count P) (P 14 + row)) then cc else m_cells P (P 14 + row) (m_lend P (m_count P) (P 14 + row))) by split <;> split <;> omega]
            rw [show (if P 14 + row = m_lend P (m_count P) (P 14 + row) ∧ m_cells P (P 14 + row) (m_lend P (m_count P) (P 14 + row)) < cc then cc - m_cells P (P 14 + row) (m_lend P (m_count P) (P 14 + row)) else 0) = (if 0 < cc - m_cells P (P 14 + row) (m_lend P (m_count P) (P 14 + row)) then cc - m_cells P (P 14 + row) (m_lend P (m_count P) (P 14 + row)) else 0) by split <;> split <;> omega]
        refine z_istore (ls' := [some (zo s), some (zo p), some (zi ((P 14) + row)), some (zi n), some (zi en), some (zi (m_cells P (P 14 + row) (m_lend P (m_count P) (P 14 + row)))), none]) e_X3_markOf_68 rfl rfl rfl ?_
        refine z_aload_n e_X3_markOf_70 rfl ?_
        refine z_geti (fi := 2) (x := pe) e_X3_markOf_71 f_RX3_83 tp rfl rfl (p2) ?_
        refine z_if_eq e_X3_markOf_74 ⟨by omega, by omega⟩ (fun h74_4 => ?_) (fun h74_4 => ?_)
        · refine z_aload_n e_X3_markOf_84 rfl ?_
          refine z_geti (fi := 1) (x := col) e_X3_markOf_85 f_RX3_69 tp rfl rfl (p1) ?_
          exact join88_1 col ((if_neg (by omega)).symm)
        · refine z_aload_n e_X3_markOf_77 rfl ?_
          refine z_geti (fi := 5) (x := (P 0)) e_X3_markOf_78 f_RX3_35 t0 rfl rfl (d5) ?_
          refine z_goto e_X3_markOf_81 ?_
          exact join88_1 (P 0) ((if_pos (by omega)).symm)
      · refine z_iload_n e_X3_markOf_25 rfl ?_
        refine z_aload_n e_X3_markOf_26 rfl ?_
        refine z_iload e_X3_markOf_27 rfl ?_
        refine z_callVr (M' := M_X3_rowAt) (As := [zi k]) (rest := [zi n]) e_X3_markOf_29 l_RX3_56 rfl rfl rfl rfl t0 ⟨_, _, rfl⟩ (c_X3_rowAt hS hH (by omega) (by omega)) (fun xq mq rq hq => ?_)
        obtain ⟨e1q, e2q, e3q⟩ := hq
        subst xq mq rq
        refine z_aload_n e_X3_markOf_32 rfl ?_
        refine z_iload e_X3_markOf_33 rfl ?_
        refine z_iconst e_X3_markOf_35 ?_
        refine z_callVi (M' := M_X3_cellsOfLine) (As := [zi k, zi 0]) (rest := [zo (sg k), zi n]) e_X3_markOf_36 l_RX3_149 rfl rfl rfl rfl t0 ⟨_, _, rfl⟩ (c_X3_cellsOfLine hS hH (by omega) (by omega) (by omega)) (fun xq mq rq hq => ?_)
        obtain ⟨e1q, e2q, e3q⟩ := hq
        subst xq mq rq
        have hclb := m_cl_b hH k 0
        refine z_callVi (M' := M_X2_signsBefore) (As := [zi (m_cl P k 0)]) (rest := [zi n]) e_X3_markOf_39 l_RX3_153 rfl rfl rfl rfl (z_Sh_tag hS (k := k) (by omega) (by omega)) ⟨_, _, rfl⟩ (d_X2_signsBefore (z_Sh_row hS (k := k) (by omega) (by omega)).2 (z_Sh_xr hS (k := k) (by omega) (by omega)) ⟨by omega, by omega⟩) (fun xq mq rq hq => ?_)
        obtain ⟨e1q, e2q, e3q⟩ := hq
        have ht20 : (if (m_cl P k 0) < 20 then (m_cl P k 0) else 20) = (m_cl P k 0) := by by_cases q : (m_cl P k 0) < 20 <;> omega
        rw [ht20, c_sb_eq (W := P 0) (z_Sh_rw hS (k := k) (by omega) (by omega)).1 (z_Sh_rw hS (k := k) (by omega) (by omega)).2 (by omega) (by omega)] at e1q
        have htk : xq = m_sin P (m_slot P k) (m_cl P k 0) := e1q
        clear e1q
        subst htk
        subst mq rq
        refine z_iadd e_X3_markOf_42 ?_
        refine z_istore_n (ls' := [some (zo s), some (zo p), some (zi ((P 14) + row)), some (zi (n + (m_sin P (m_slot P k) (m_cl P k 0)))), some (zi k), none, none]) e_X3_markOf_43 rfl rfl rfl ?_
        refine z_iinc (y := (k + 1)) (ls' := [some (zo s), some (zo p), some (zi ((P 14) + row)), some (zi (n + (m_sin P (m_slot P k) (m_cl P k 0)))), some (zi (k + 1)), none, none]) e_X3_markOf_44 rfl rfl rfl rfl rfl ?_
        refine z_goto e_X3_markOf_47 ?_
        exact ih19 _ (by omega) (k + 1) (n + (m_sin P (m_slot P k) (m_cl P k 0))) rfl (⟨by omega, by omega, by rw [hn, m_cl_0 (e := m_lend P (m_count P) (P 14 + row)) (by omega), show k + 1 - (m_lbeg P (m_count P) (m_lno P (m_count P) (P 14 + row))) = (k - (m_lbeg P (m_count P) (m_lno P (m_count P) (P 14 + row)))) + 1 by omega]; unfold m_sgn; rw [n_sum_s _ (by omega), show (m_lbeg P (m_count P) (m_lno P (m_count P) (P 14 + row))) + (k - (m_lbeg P (m_count P) (m_lno P (m_count P) (P 14 + row)))) = k by omega]; rfl⟩)
  exact loop19 _ (m_lbeg P (m_count P) (m_lno P (m_count P) ((P 14) + row))) 0 rfl (⟨by omega, by omega, by rw [show ((m_lbeg P (m_count P) (m_lno P (m_count P) (P 14 + row))) - (m_lbeg P (m_count P) (m_lno P (m_count P) (P 14 + row)))).toNat = 0 by omega]; rfl⟩)
