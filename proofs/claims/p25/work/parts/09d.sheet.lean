set_option maxHeartbeats 1000000 in
set_option maxRecDepth 100000 in
theorem c_X3_countedRows {E : z_E} {mi : z_Mi} {mr : z_Mr} {s : Nat} {sg : Int → Nat} {P : Int → Int} (hS : z_Sh E mi mr s sg P (p_rows P)) (hH : p_hd P) : z_mi M_X3_countedRows E [zo s] mi mr (fun x m r => x = m_count P ∧ m = mi ∧ r = mr) := by
  obtain ⟨⟨t0, t1, t2, t3, t4, q0, q1, q2⟩, ⟨d3, d4, d5, d6, d7, d8, u0, u1, u2, uk, uz⟩, hrows⟩ := id hS
  obtain ⟨hw0, hw1, hh0, hh1, hf0, hf1, hf2, hr0, hr1, hc0, hc1, hp0, hp1, hk0, hk1, hi0, hi1, hkp, hP⟩ := id hH
  refine z_ofi (ls := [some (zo s), none, none]) rfl (fun _ _ => trivial) ⟨rfl, rfl⟩ (Nat.le_of_ble_eq_true rfl) rfl ?_
  refine z_aload_n e_X3_countedRows_0 rfl ?_
  refine z_getr (fi := 1) (r := some (s + 2)) e_X3_countedRows_1 f_RX3_20 t0 rfl rfl (q1) ?_
  refine z_geti (fi := 0) (x := (P 4)) e_X3_countedRows_4 f_RX3_66 t2 rfl rfl (u0) ?_
  refine z_istore_n (ls' := [some (zo s), some (zi (P 4)), none]) e_X3_countedRows_7 rfl rfl rfl ?_
  refine z_iconst e_X3_countedRows_8 ?_
  refine z_istore_n (ls' := [some (zo s), some (zi (P 4)), some (zi 0)]) e_X3_countedRows_9 rfl rfl rfl ?_
  have loop10 : ∀ (nn : Nat) (k : Int) (l : Int), (P 7 - k).toNat = nn → (0 ≤ k ∧ k ≤ P 7 ∧ l = m_lastk P k.toNat) → z_A M_X3_countedRows E 0 0 10 [some (zo s), some (zi l), some (zi k)] [] mi mr (z_qi E (fun x m r => x = m_count P ∧ m = mi ∧ r = mr)) := by
    intro nn
    induction nn using Nat.strongRecOn with
    | _ nn ih10 =>
      intro k l hmeas hinv
      obtain ⟨hk9, hk8, hl⟩ := hinv
      have hlb := m_lastk_b hH k.toNat (by omega)
      have hkb := hP (8 + 2 * k)
      refine z_iload_n e_X3_countedRows_10 rfl ?_
      refine z_aload_n e_X3_countedRows_11 rfl ?_
      refine z_geti (fi := 3) (x := (P 7)) e_X3_countedRows_12 f_RX3_28 t0 rfl rfl (d3) ?_
      refine z_icmp_ge e_X3_countedRows_15 ⟨by omega, by omega⟩ ⟨by omega, by omega⟩ (fun h15_1 => ?_) (fun h15_1 => ?_)
      · have hl7 : l = m_lastk P (P 7).toNat := by rw [hl, show k = P 7 by omega]
        refine z_aload_n e_X3_countedRows_37 rfl ?_
        refine z_geti (fi := 6) (x := (P 1)) e_X3_countedRows_38 f_RX3_38 t0 rfl rfl (d6) ?_
        refine z_iconst e_X3_countedRows_41 ?_
        refine z_isub e_X3_countedRows_42 ?_
        refine z_istore_n (ls' := [some (zo s), some (zi l), some (zi ((P 1) - 1))]) e_X3_countedRows_43 rfl rfl rfl ?_
        have loop44 : ∀ (nn : Nat) (q : Int) (l2 : Int), (q + 1).toNat = nn → (-1 ≤ q ∧ q < P 1 ∧ l ≤ l2 ∧ l2 < P 1 ∧ m_lastr P l2 (q + 1).toNat = m_last P) → z_A M_X3_countedRows E 0 0 44 [some (zo s), some (zi l2), some (zi q)] [] mi mr (z_qi E (fun x m r => x = m_count P ∧ m = mi ∧ r = mr)) := by
          intro nn
          induction nn using Nat.strongRecOn with
          | _ nn ih44 =>
            intro q l2 hmeas hinv
            obtain ⟨hq0, hq1, hq2, hq3, hq4⟩ := hinv
            refine z_iload_n e_X3_countedRows_44 rfl ?_
            refine z_iload_n e_X3_countedRows_45 rfl ?_
            refine z_icmp_le e_X3_countedRows_46 ⟨by omega, by omega⟩ ⟨by omega, by omega⟩ (fun h46_2 => ?_) (fun h46_2 => ?_)
            · refine z_aload_n e_X3_countedRows_73 rfl ?_
              refine z_geti (fi := 4) (x := (P 14)) e_X3_countedRows_74 f_RX3_32 t0 rfl rfl (d4) ?_
              refine z_iload_n e_X3_countedRows_77 rfl ?_
              refine z_iadd e_X3_countedRows_78 ?_
              refine z_iconst e_X3_countedRows_79 ?_
              refine z_iadd e_X3_countedRows_80 ?_
              refine z_iret e_X3_countedRows_81 (Or.inl rfl) rfl rfl ⟨rfl, _, rfl, ?_⟩
              refine ⟨?_, rfl, rfl⟩
              have e9 : l2 = m_last P := by rw [← hq4, m_lastr_top _ (by omega)]
              rw [e9]; rfl
            · refine z_aload_n e_X3_countedRows_49 rfl ?_
              refine z_aload_n e_X3_countedRows_50 rfl ?_
              refine z_geti (fi := 4) (x := (P 14)) e_X3_countedRows_51 f_RX3_32 t0 rfl rfl (d4) ?_
              refine z_iload_n e_X3_countedRows_54 rfl ?_
              refine z_iadd e_X3_countedRows_55 ?_
              refine z_callVr (M' := M_X3_rowAt) (As := [zi ((P 14) + q)]) (rest := []) e_X3_countedRows_56 l_RX3_56 rfl rfl rfl rfl t0 ⟨_, _, rfl⟩ (c_X3_rowAt hS hH (by omega) (by omega)) (fun xq mq rq hq => ?_)
              obtain ⟨e1q, e2q, e3q⟩ := hq
              subst xq mq rq
              refine z_callVi (M' := M_X2_filled) (As := []) (rest := []) e_X3_countedRows_59 l_RX3_136 rfl rfl rfl rfl (z_Sh_tag hS (k := ((P 14) + q)) (by omega) (by omega)) ⟨_, _, rfl⟩ (d_X2_filled (z_Sh_row hS (k := ((P 14) + q)) (by omega) (by omega)).2 (z_Sh_xr hS (k := ((P 14) + q)) (by omega) (by omega))) (fun xq mq rq hq => ?_)
              obtain ⟨e1q, e2q, e3q⟩ := hq
              have htk : xq = n_used (p_rows P ((P 14) + q)) (P 0).toNat := e1q.trans (c_fil_eq (z_Sh_rw hS (k := ((P 14) + q)) (by omega) (by omega)).1 (by omega) (by omega))
              clear e1q
              subst htk
              subst mq rq
              have hub := n_used_b (p_rows P ((P 14) + q)) (P 0).toNat
              have hfp := p_rows_fill (P := P) (q := q) (by omega)
              refine z_if_le e_X3_countedRows_62 ⟨by omega, by omega⟩ (fun h62_3 => ?_) (fun h62_3 => ?_)
              · refine z_iinc (y := (q + (-1))) (ls' := [some (zo s), some (zi l2), some (zi (q + (-1)))]) e_X3_countedRows_67 rfl rfl rfl rfl rfl ?_
                refine z_goto e_X3_countedRows_70 ?_
                exact ih44 _ (by omega) (q + (-1)) l2 rfl (⟨by omega, by omega, by omega, by omega, by rw [show q + -1 + 1 = q by omega, ← hq4, m_lastr_s _ _ (by omega), if_neg (fun x => by have := hfp.2 x.2; omega)]⟩)
              · refine z_iload_n e_X3_countedRows_65 rfl ?_
                refine z_istore_n (ls' := [some (zo s), some (zi q), some (zi q)]) e_X3_countedRows_66 rfl rfl rfl ?_
                refine z_iinc (y := (q + (-1))) (ls' := [some (zo s), some (zi q), some (zi (q + (-1)))]) e_X3_countedRows_67 rfl rfl rfl rfl rfl ?_
                refine z_goto e_X3_countedRows_70 ?_
                exact ih44 _ (by omega) (q + (-1)) q rfl (⟨by omega, by omega, by omega, by omega, by rw [show q + -1 + 1 = q by omega, m_lastr_top _ (by omega), ← hq4, m_lastr_s _ _ (by omega), if_pos ⟨by have := m_lastr_lt (P := P) (l := l2) q.toNat (by omega); omega, hfp.1 (by omega)⟩]⟩)
        exact loop44 _ ((P 1) - 1) l rfl (⟨by omega, by omega, by omega, by omega, by unfold m_last; rw [← hl7, show P 1 - 1 + 1 = P 1 by omega]⟩)
      · refine z_iload_n e_X3_countedRows_18 rfl ?_
        refine z_aload_n e_X3_countedRows_19 rfl ?_
        refine z_iload_n e_X3_countedRows_20 rfl ?_
        refine z_callVr (M' := M_X3_keptPlace) (As := [zi k]) (rest := [zi l]) e_X3_countedRows_21 l_RX3_52 rfl rfl rfl rfl t0 ⟨_, _, rfl⟩ (c_X3_keptPlace hS hH (by omega) (by omega)) (fun xq mq rq hq => ?_)
        obtain ⟨e1q, e2q, e3q⟩ := hq
        subst xq mq rq
        refine z_geti (fi := 0) (x := (P (8 + 2 * k))) e_X3_countedRows_24 f_RX3_66 (t4 k (by omega) (by omega)).1 rfl rfl ((uk k (by omega) (by omega)).1) ?_
        refine z_max (x := (if l < (P (8 + 2 * k)) then (P (8 + 2 * k)) else l)) e_X3_countedRows_27 mm_RX3_130 rfl rfl ⟨by omega, by omega⟩ ⟨by omega, by omega⟩ (rfl) ?_
        refine z_istore_n (ls' := [some (zo s), some (zi (if l < (P (8 + 2 * k)) then (P (8 + 2 * k)) else l)), some (zi k)]) e_X3_countedRows_30 rfl rfl rfl ?_
        refine z_iinc (y := (k + 1)) (ls' := [some (zo s), some (zi (if l < (P (8 + 2 * k)) then (P (8 + 2 * k)) else l)), some (zi (k + 1))]) e_X3_countedRows_31 rfl rfl rfl rfl rfl ?_
        refine z_goto e_X3_countedRows_34 ?_
        exact ih10 _ (by omega) (k + 1) (if l < (P (8 + 2 * k)) then (P (8 + 2 * k)) else l) rfl (⟨by omega, by omega, by rw [m_lastk_s _ hk9, ← hl]⟩)
  exact loop10 _ 0 (P 4) rfl (⟨by omega, by omega, rfl⟩)
set_option maxHeartbeats 1000000 in
set_option maxRecDepth 100000 in
theorem c_X3_endsLine {E : z_E} {mi : z_Mi} {mr : z_Mr} {s : Nat} {sg : Int → Nat} {P : Int → Int} {k n : Int} (hS : z_Sh E mi mr s sg P (p_rows P)) (hH : p_hd P) (h0 : 0 ≤ k) (h1 : k < P 14 + P 1) (hn : n ≤ 40) (hn0 : -9 ≤ n) : z_mi M_X3_endsLine E [zo s, zi k, zi n] mi mr (fun x m r => x = (if m_ends P n k then 1 else 0) ∧ m = mi ∧ r = mr) := by
  obtain ⟨⟨t0, t1, t2, t3, t4, q0, q1, q2⟩, ⟨d3, d4, d5, d6, d7, d8, u0, u1, u2, uk, uz⟩, hrows⟩ := id hS
  obtain ⟨hw0, hw1, hh0, hh1, hf0, hf1, hf2, hr0, hr1, hc0, hc1, hp0, hp1, hk0, hk1, hi0, hi1, hkp, hP⟩ := id hH
  have hrw := z_Sh_rw hS h0 h1
  have hme := m_ends_row (n := n) hrw.2.2.1
  have hfl := hrw.2.2.1
  refine z_ofi (ls := [some (zo s), some (zi k), some (zi n)]) rfl (fun _ _ => trivial) ⟨rfl, rfl⟩ (Nat.le_of_ble_eq_true rfl) rfl ?_
  refine z_iload_n e_X3_endsLine_0 rfl ?_
  refine z_iload_n e_X3_endsLine_1 rfl ?_
  refine z_iconst e_X3_endsLine_2 ?_
  refine z_isub e_X3_endsLine_3 ?_
  refine z_icmp_ge e_X3_endsLine_4 ⟨by omega, by omega⟩ ⟨by omega, by omega⟩ (fun h4_1 => ?_) (fun h4_1 => ?_)
  · refine z_iconst e_X3_endsLine_18 ?_
    refine z_goto e_X3_endsLine_19 ?_
    refine z_iret e_X3_endsLine_23 (Or.inr ⟨rfl, Or.inr rfl⟩) rfl rfl ⟨rfl, _, rfl, ?_⟩
    exact ⟨(if_pos (by rw [hme]; omega)).symm, rfl, rfl⟩
  · refine z_aload_n e_X3_endsLine_7 rfl ?_
    refine z_iload_n e_X3_endsLine_8 rfl ?_
    refine z_callVr (M' := M_X3_rowAt) (As := [zi k]) (rest := []) e_X3_endsLine_9 l_RX3_56 rfl rfl rfl rfl t0 ⟨_, _, rfl⟩ (c_X3_rowAt hS hH (by omega) (by omega)) (fun xq mq rq hq => ?_)
    obtain ⟨e1q, e2q, e3q⟩ := hq
    subst xq mq rq
    refine z_geti (fi := 1) (x := (p_rows P k 20)) e_X3_endsLine_12 f_RX3_105 (z_Sh_tag hS (k := k) (by omega) (by omega)) rfl rfl (hrw.1.2.2.1) ?_
    refine z_if_ne e_X3_endsLine_15 ⟨by omega, by omega⟩ (fun h15_2 => ?_) (fun h15_2 => ?_)
    · refine z_iconst e_X3_endsLine_22 ?_
      refine z_iret e_X3_endsLine_23 (Or.inr ⟨rfl, Or.inl rfl⟩) rfl rfl ⟨rfl, _, rfl, ?_⟩
      exact ⟨(if_neg (by rw [hme]; omega)).symm, rfl, rfl⟩
    · refine z_iconst e_X3_endsLine_18 ?_
      refine z_goto e_X3_endsLine_19 ?_
      refine z_iret e_X3_endsLine_23 (Or.inr ⟨rfl, Or.inr rfl⟩) rfl rfl ⟨rfl, _, rfl, ?_⟩
      exact ⟨(if_pos (by rw [hme]; omega)).symm, rfl, rfl⟩
set_option maxHeartbeats 1000000 in
set_option maxRecDepth 100000 in
theorem c_X3_linesBefore {E : z_E} {mi : z_Mi} {mr : z_Mr} {s : Nat} {sg : Int → Nat} {P : Int → Int} {k : Int} (hS : z_Sh E mi mr s sg P (p_rows P)) (hH : p_hd P) (h0 : 0 ≤ k) (h1 : k ≤ m_count P) : z_mi M_X3_linesBefore E [zo s, zi k] mi mr (fun x m r => x = m_lno P (m_count P) k ∧ m = mi ∧ r = mr) := by
  obtain ⟨⟨t0, t1, t2, t3, t4, q0, q1, q2⟩, ⟨d3, d4, d5, d6, d7, d8, u0, u1, u2, uk, uz⟩, hrows⟩ := id hS
  obtain ⟨hw0, hw1, hh0, hh1, hf0, hf1, hf2, hr0, hr1, hc0, hc1, hp0, hp1, hk0, hk1, hi0, hi1, hkp, hP⟩ := id hH
  have hcb0 := m_count_b hH
  refine z_ofi (ls := [some (zo s), some (zi k), none, none, none]) rfl (fun _ _ => trivial) ⟨rfl, rfl⟩ (Nat.le_of_ble_eq_true rfl) rfl ?_
  refine z_aload_n e_X3_linesBefore_0 rfl ?_
  refine z_callVi (M' := M_X3_countedRows) (As := []) (rest := []) e_X3_linesBefore_1 l_RX3_139 rfl rfl rfl rfl t0 ⟨_, _, rfl⟩ (c_X3_countedRows hS hH) (fun xq mq rq hq => ?_)
  obtain ⟨e1q, e2q, e3q⟩ := hq
  subst xq mq rq
  have hcb := m_count_b hH
  refine z_istore_n (ls' := [some (zo s), some (zi k), some (zi (m_count P)), none, none]) e_X3_linesBefore_4 rfl rfl rfl ?_
  refine z_iconst e_X3_linesBefore_5 ?_
  refine z_istore_n (ls' := [some (zo s), some (zi k), some (zi (m_count P)), some (zi 0), none]) e_X3_linesBefore_6 rfl rfl rfl ?_
  refine z_iconst e_X3_linesBefore_7 ?_
  refine z_istore (ls' := [some (zo s), some (zi k), some (zi (m_count P)), some (zi 0), some (zi 0)]) e_X3_linesBefore_8 rfl rfl rfl ?_
  have loop10 : ∀ (nn : Nat) (i : Int) (n : Int), (k - i).toNat = nn → (0 ≤ i ∧ i ≤ k ∧ n = m_lno P (m_count P) i) → z_A M_X3_linesBefore E 0 0 10 [some (zo s), some (zi k), some (zi (m_count P)), some (zi n), some (zi i)] [] mi mr (z_qi E (fun x m r => x = m_lno P (m_count P) k ∧ m = mi ∧ r = mr)) := by
    intro nn
    induction nn using Nat.strongRecOn with
    | _ nn ih10 =>
      intro i n hmeas hinv
      obtain ⟨hi9, hi8, hn⟩ := hinv
      refine z_iload e_X3_linesBefore_10 rfl ?_
      refine z_iload_n e_X3_linesBefore_12 rfl ?_
      refine z_icmp_ge e_X3_linesBefore_13 ⟨by omega, by omega⟩ ⟨by omega, by omega⟩ (fun h13_1 => ?_) (fun h13_1 => ?_)
      · refine z_iload_n e_X3_linesBefore_40 rfl ?_
        refine z_iret e_X3_linesBefore_41 (Or.inl rfl) rfl rfl ⟨rfl, _, rfl, ?_⟩
        refine ⟨?_, rfl, rfl⟩
        rw [hn, show i = k by omega]
      · refine z_iload_n e_X3_linesBefore_16 rfl ?_
        refine z_aload_n e_X3_linesBefore_17 rfl ?_
        refine z_iload e_X3_linesBefore_18 rfl ?_
        refine z_iload_n e_X3_linesBefore_20 rfl ?_
        refine z_callVi (M' := M_X3_endsLine) (As := [zi i, zi (m_count P)]) (rest := [zi n]) e_X3_linesBefore_21 l_RX3_142 rfl rfl rfl rfl t0 ⟨_, _, rfl⟩ (c_X3_endsLine hS hH (by omega) (by omega) (by omega) (by omega)) (fun xq mq rq hq => ?_)
        obtain ⟨e1q, e2q, e3q⟩ := hq
        subst xq mq rq
        refine z_if_eqB e_X3_linesBefore_24  (fun h24_2 => ?_) (fun h24_2 => ?_)
        · refine z_iconst e_X3_linesBefore_31 ?_
          refine z_iadd e_X3_linesBefore_32 ?_
          refine z_istore_n (ls' := [some (zo s), some (zi k), some (zi (m_count P)), some (zi (n + 0)), some (zi i)]) e_X3_linesBefore_33 rfl rfl rfl ?_
          refine z_iinc (y := (i + 1)) (ls' := [some (zo s), some (zi k), some (zi (m_count P)), some (zi (n + 0)), some (zi (i + 1))]) e_X3_linesBefore_34 rfl rfl rfl rfl rfl ?_
          refine z_goto e_X3_linesBefore_37 ?_
          exact ih10 _ (by omega) (i + 1) (n + 0) rfl (⟨by omega, by omega, by rw [hn]; unfold m_lno; rw [n_cnt_s _ hi9, if_neg (by assumption)]⟩)
        · refine z_iconst e_X3_linesBefore_27 ?_
          refine z_goto e_X3_linesBefore_28 ?_
          refine z_iadd e_X3_linesBefore_32 ?_
          refine z_istore_n (ls' := [some (zo s), some (zi k), some (zi (m_count P)), some (zi (n + 1)), some (zi i)]) e_X3_linesBefore_33 rfl rfl rfl ?_
          refine z_iinc (y := (i + 1)) (ls' := [some (zo s), some (zi k), some (zi (m_count P)), some (zi (n + 1)), some (zi (i + 1))]) e_X3_linesBefore_34 rfl rfl rfl rfl rfl ?_
          refine z_goto e_X3_linesBefore_37 ?_
          exact ih10 _ (by omega) (i + 1) (n + 1) rfl (⟨by omega, by omega, by rw [hn]; unfold m_lno; rw [n_cnt_s _ hi9, if_pos (by assumption)]⟩)
  exact loop10 _ 0 0 rfl (⟨by omega, by omega, rfl⟩)
set_option maxHeartbeats 1000000 in
set_option maxRecDepth 100000 in
theorem c_X3_lines {E : z_E} {mi : z_Mi} {mr : z_Mr} {s : Nat} {sg : Int → Nat} {P : Int → Int} (hS : z_Sh E mi mr s sg P (p_rows P)) (hH : p_hd P) : z_mi M_X3_lines E [zo s] mi mr (fun x m r => x = m_lno P (m_count P) (m_count P) ∧ m = mi ∧ r = mr) := by
  obtain ⟨⟨t0, t1, t2, t3, t4, q0, q1, q2⟩, ⟨d3, d4, d5, d6, d7, d8, u0, u1, u2, uk, uz⟩, hrows⟩ := id hS
  obtain ⟨hw0, hw1, hh0, hh1, hf0, hf1, hf2, hr0, hr1, hc0, hc1, hp0, hp1, hk0, hk1, hi0, hi1, hkp, hP⟩ := id hH
  have hcb0 := m_count_b hH
  refine z_ofi (ls := [some (zo s)]) rfl (fun _ _ => trivial) ⟨rfl, rfl⟩ (Nat.le_of_ble_eq_true rfl) rfl ?_
  refine z_aload_n e_X3_lines_0 rfl ?_
  refine z_aload_n e_X3_lines_1 rfl ?_
  refine z_callVi (M' := M_X3_countedRows) (As := []) (rest := [zo s]) e_X3_lines_2 l_RX3_139 rfl rfl rfl rfl t0 ⟨_, _, rfl⟩ (c_X3_countedRows hS hH) (fun xq mq rq hq => ?_)
  obtain ⟨e1q, e2q, e3q⟩ := hq
  subst xq mq rq
  have hcb := m_count_b hH
  refine z_callVi (M' := M_X3_linesBefore) (As := [zi (m_count P)]) (rest := []) e_X3_lines_5 l_RX3_146 rfl rfl rfl rfl t0 ⟨_, _, rfl⟩ (c_X3_linesBefore hS hH (by omega) (by omega)) (fun xq mq rq hq => ?_)
  obtain ⟨e1q, e2q, e3q⟩ := hq
  subst xq mq rq
  refine z_iret e_X3_lines_8 (Or.inl rfl) rfl rfl ⟨rfl, _, rfl, ?_⟩
  exact ⟨rfl, rfl, rfl⟩
set_option maxHeartbeats 1000000 in
set_option maxRecDepth 100000 in
theorem c_X3_startOfLine {E : z_E} {mi : z_Mi} {mr : z_Mr} {s : Nat} {sg : Int → Nat} {P : Int → Int} {line : Int} (hS : z_Sh E mi mr s sg P (p_rows P)) (hH : p_hd P) (h0 : 0 ≤ line) (hz : z_R line) : z_mi M_X3_startOfLine E [zo s, zi line] mi mr (fun x m r => x = (if m_lbeg P (m_count P) line < m_count P then m_lbeg P (m_count P) line else -1) ∧ m = mi ∧ r = mr) := by
  obtain ⟨⟨t0, t1, t2, t3, t4, q0, q1, q2⟩, ⟨d3, d4, d5, d6, d7, d8, u0, u1, u2, uk, uz⟩, hrows⟩ := id hS
  obtain ⟨hw0, hw1, hh0, hh1, hf0, hf1, hf2, hr0, hr1, hc0, hc1, hp0, hp1, hk0, hk1, hi0, hi1, hkp, hP⟩ := id hH
  have hcb0 := m_count_b hH
  refine z_ofi (ls := [some (zo s), some (zi line), none, none, none]) rfl (fun _ _ => trivial) ⟨rfl, rfl⟩ (Nat.le_of_ble_eq_true rfl) rfl ?_
  refine z_aload_n e_X3_startOfLine_0 rfl ?_
  refine z_callVi (M' := M_X3_countedRows) (As := []) (rest := []) e_X3_startOfLine_1 l_RX3_139 rfl rfl rfl rfl t0 ⟨_, _, rfl⟩ (c_X3_countedRows hS hH) (fun xq mq rq hq => ?_)
  obtain ⟨e1q, e2q, e3q⟩ := hq
  subst xq mq rq
  have hcb := m_count_b hH
  refine z_istore_n (ls' := [some (zo s), some (zi line), some (zi (m_count P)), none, none]) e_X3_startOfLine_4 rfl rfl rfl ?_
  refine z_iconst e_X3_startOfLine_5 ?_
  refine z_istore_n (ls' := [some (zo s), some (zi line), some (zi (m_count P)), some (zi 0), none]) e_X3_startOfLine_6 rfl rfl rfl ?_
  refine z_iconst e_X3_startOfLine_7 ?_
  refine z_istore (ls' := [some (zo s), some (zi line), some (zi (m_count P)), some (zi 0), some (zi 0)]) e_X3_startOfLine_8 rfl rfl rfl ?_
  have loop10 : ∀ (nn : Nat) (i : Int) (n : Int), (m_count P - i).toNat = nn → (0 ≤ i ∧ i ≤ m_count P ∧ n = m_lno P (m_count P) i ∧ (∀ j, 0 ≤ j → j < i → m_lno P (m_count P) j ≠ line)) → z_A M_X3_startOfLine E 0 0 10 [some (zo s), some (zi line), some (zi (m_count P)), some (zi n), some (zi i)] [] mi mr (z_qi E (fun x m r => x = (if m_lbeg P (m_count P) line < m_count P then m_lbeg P (m_count P) line else -1) ∧ m = mi ∧ r = mr)) := by
    intro nn
    induction nn using Nat.strongRecOn with
    | _ nn ih10 =>
      intro i n hmeas hinv
      obtain ⟨hi9, hi8, hn, hne⟩ := hinv
      have hnb := m_lno_b P (m_count P) i hi9
      refine z_iload e_X3_startOfLine_10 rfl ?_
      refine z_iload_n e_X3_startOfLine_12 rfl ?_
      refine z_icmp_ge e_X3_startOfLine_13 ⟨by omega, by omega⟩ ⟨by omega, by omega⟩ (fun h13_1 => ?_) (fun h13_1 => ?_)
      · refine z_iconst e_X3_startOfLine_48 ?_
        refine z_iret e_X3_startOfLine_49 (Or.inl rfl) rfl rfl ⟨rfl, _, rfl, ?_⟩
        refine ⟨?_, rfl, rfl⟩
        have e9 : m_lbeg P (m_count P) line = m_count P := n_fst_eq (by omega) (by omega) (fun j g0 g1 => hne j g0 (by omega)) (fun hl => absurd hl (by omega))
        rw [e9, if_neg (by omega)]
      · refine z_iload_n e_X3_startOfLine_16 rfl ?_
        refine z_iload_n e_X3_startOfLine_17 rfl ?_
        refine z_icmp_ne e_X3_startOfLine_18 ⟨by omega, by omega⟩ ⟨by omega, by omega⟩ (fun h18_2 => ?_) (fun h18_2 => ?_)
        · refine z_iload_n e_X3_startOfLine_24 rfl ?_
          refine z_aload_n e_X3_startOfLine_25 rfl ?_
          refine z_iload e_X3_startOfLine_26 rfl ?_
          refine z_iload_n e_X3_startOfLine_28 rfl ?_
          refine z_callVi (M' := M_X3_endsLine) (As := [zi i, zi (m_count P)]) (rest := [zi n]) e_X3_startOfLine_29 l_RX3_142 rfl rfl rfl rfl t0 ⟨_, _, rfl⟩ (c_X3_endsLine hS hH (by omega) (by omega) (by omega) (by omega)) (fun xq mq rq hq => ?_)
          obtain ⟨e1q, e2q, e3q⟩ := hq
          subst xq mq rq
          refine z_if_eqB e_X3_startOfLine_32  (fun h32_3 => ?_) (fun h32_3 => ?_)
          · refine z_iconst e_X3_startOfLine_39 ?_
            refine z_iadd e_X3_startOfLine_40 ?_
            refine z_istore_n (ls' := [some (zo s), some (zi line), some (zi (m_count P)), some (zi (n + 0)), some (zi i)]) e_X3_startOfLine_41 rfl rfl rfl ?_
            refine z_iinc (y := (i + 1)) (ls' := [some (zo s), some (zi line), some (zi (m_count P)), some (zi (n + 0)), some (zi (i + 1))]) e_X3_startOfLine_42 rfl rfl rfl rfl rfl ?_
            refine z_goto e_X3_startOfLine_45 ?_
            exact ih10 _ (by omega) (i + 1) (n + 0) rfl (⟨by omega, by omega, by rw [hn]; unfold m_lno; rw [n_cnt_s _ hi9, if_neg (by assumption)], fun j g0 g1 => by
                by_cases hj : j = i
                · rw [hj, ← hn]; assumption
                · exact hne j g0 (by omega)⟩)
          · refine z_iconst e_X3_startOfLine_35 ?_
            refine z_goto e_X3_startOfLine_36 ?_
            refine z_iadd e_X3_startOfLine_40 ?_
            refine z_istore_n (ls' := [some (zo s), some (zi line), some (zi (m_count P)), some (zi (n + 1)), some (zi i)]) e_X3_startOfLine_41 rfl rfl rfl ?_
            refine z_iinc (y := (i + 1)) (ls' := [some (zo s), some (zi line), some (zi (m_count P)), some (zi (n + 1)), some (zi (i + 1))]) e_X3_startOfLine_42 rfl rfl rfl rfl rfl ?_
            refine z_goto e_X3_startOfLine_45 ?_
            exact ih10 _ (by omega) (i + 1) (n + 1) rfl (⟨by omega, by omega, by rw [hn]; unfold m_lno; rw [n_cnt_s _ hi9, if_pos (by assumption)], fun j g0 g1 => by
                by_cases hj : j = i
                · rw [hj, ← hn]; assumption
                · exact hne j g0 (by omega)⟩)
        · refine z_iload e_X3_startOfLine_21 rfl ?_
          refine z_iret e_X3_startOfLine_23 (Or.inl rfl) rfl rfl ⟨rfl, _, rfl, ?_⟩
          refine ⟨?_, rfl, rfl⟩
          have e9 : m_lbeg P (m_count P) line = i := n_fst_eq hi9 (by omega) hne (fun _ => by rw [← hn]; assumption)
          rw [e9, if_pos (by omega)]
  exact loop10 _ 0 0 rfl (⟨by omega, by omega, rfl, fun j g0 g1 => absurd g0 (by omega)⟩)
