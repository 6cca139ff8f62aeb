set_option maxHeartbeats 1000000 in
set_option maxRecDepth 100000 in
theorem c_X5_line {E : z_E} {mi : z_Mi} {mr : z_Mr} {o : Nat} {P : Int → Int} {line what : Int} (hM : z_MO E mr o) (hH : p_hd P) (hz1 : z_R line) (hz2 : z_R what) : z_mi M_X5_line E [zo o, zi line, zi what] (z_u mi (o + 1) P) mr (fun x m r => x = m_lineA P line what ∧ m = z_u mi (o + 1) P ∧ r = mr) := by
  obtain ⟨t0, t1, t2, t3, t4, t5, t6, t7, q0, q2, q3, q4, q5, q6, q7⟩ := id hM
  obtain ⟨hw0, hw1, hh0, hh1, hf0, hf1, hf2, hr0, hr1, hc0, hc1, hp0, hp1, hk0, hk1, hi0, hi1, hkp, hP⟩ := id hH
  refine z_ofi (ls := [some (zo o), some (zi line), some (zi what), none, none]) rfl (fun _ _ => trivial) ⟨rfl, rfl⟩ (Nat.le_of_ble_eq_true rfl) rfl ?_
  refine z_iload_n e_X5_line_0 rfl ?_
  refine z_if_lt e_X5_line_1 ⟨by omega, by omega⟩ (fun h1_1 => ?_) (fun h1_1 => ?_)
  · refine z_iconst e_X5_line_13 ?_
    refine z_iret e_X5_line_14 (Or.inl rfl) rfl rfl ⟨rfl, _, rfl, ?_⟩
    refine ⟨?_, rfl, rfl⟩
    unfold m_lineA
    rw [if_pos (by omega)]
  · refine z_iload_n e_X5_line_4 rfl ?_
    refine z_iconst e_X5_line_5 ?_
    refine z_iconst e_X5_line_6 ?_
    refine z_callSi (M' := M_X5_in) (As := [zi what, zi 0, zi 2]) (rest := []) e_X5_line_7 l_RX5_47 rfl rfl rfl rfl (c_X5_in ⟨by omega, by omega⟩ ⟨by omega, by omega⟩ ⟨by omega, by omega⟩) (fun xq mq rq hq => ?_)
    obtain ⟨e1q, e2q, e3q⟩ := hq
    subst xq mq rq
    refine z_if_neB e_X5_line_10  (fun h10_2 => ?_) (fun h10_2 => ?_)
    · refine z_aload_n e_X5_line_15 rfl ?_
      refine z_callVi (M' := M_X5_counted) (As := []) (rest := []) e_X5_line_16 l_RX5_140 rfl rfl rfl rfl t0 ⟨_, _, rfl⟩ (c_X5_counted hM hH) (fun xq mq rq hq => ?_)
      obtain ⟨e1q, e2q, e3q⟩ := hq
      subst xq mq rq
      have hcb := m_count_b hH
      refine z_istore_n (ls' := [some (zo o), some (zi line), some (zi what), some (zi (m_count P)), none]) e_X5_line_19 rfl rfl rfl ?_
      refine z_aload_n e_X5_line_20 rfl ?_
      refine z_iload_n e_X5_line_21 rfl ?_
      refine z_iload_n e_X5_line_22 rfl ?_
      refine z_callVi (M' := M_X5_lineBegin) (As := [zi line, zi (m_count P)]) (rest := []) e_X5_line_23 l_RX5_155 rfl rfl rfl rfl t0 ⟨_, _, rfl⟩ (c_X5_lineBegin hM hH (by omega) ⟨by omega, by omega⟩ (by omega) (by omega)) (fun xq mq rq hq => ?_)
      obtain ⟨e1q, e2q, e3q⟩ := hq
      subst xq mq rq
      have hlg := m_lbeg_spec (P := P) (n := (m_count P)) (line := line) (by omega)
      have hlg0 := hlg.1
      have hlg1 := hlg.2.1
      refine z_istore (ls' := [some (zo o), some (zi line), some (zi what), some (zi (m_count P)), some (zi (m_lbeg P (m_count P) line))]) e_X5_line_26 rfl rfl rfl ?_
      refine z_iload e_X5_line_28 rfl ?_
      refine z_iload_n e_X5_line_30 rfl ?_
      refine z_icmp_ge e_X5_line_31 ⟨by omega, by omega⟩ ⟨by omega, by omega⟩ (fun h31_3 => ?_) (fun h31_3 => ?_)
      · refine z_bipush e_X5_line_51 (by decide +kernel) ?_
        refine z_iret e_X5_line_53 (Or.inl rfl) rfl rfl ⟨rfl, _, rfl, ?_⟩
        refine ⟨?_, rfl, rfl⟩
        unfold m_lineA
        rw [if_neg (by omega), if_neg (by omega)]
      · refine z_aload_n e_X5_line_34 rfl ?_
        refine z_iload e_X5_line_35 rfl ?_
        refine z_aload_n e_X5_line_37 rfl ?_
        refine z_iload e_X5_line_38 rfl ?_
        refine z_iload_n e_X5_line_40 rfl ?_
        refine z_callVi (M' := M_X5_lineEnd) (As := [zi (m_lbeg P (m_count P) line), zi (m_count P)]) (rest := [zi (m_lbeg P (m_count P) line), zo o]) e_X5_line_41 l_RX5_137 rfl rfl rfl rfl t0 ⟨_, _, rfl⟩ (c_X5_lineEnd hM hH (by omega) (by omega) (by omega)) (fun xq mq rq hq => ?_)
        obtain ⟨e1q, e2q, e3q⟩ := hq
        subst xq mq rq
        have hle := m_lend_spec (P := P) (n := (m_count P)) (k := (m_lbeg P (m_count P) line)) (by omega)
        have hle1 := hle.1
        have hle2 := hle.2.1
        refine z_iload_n e_X5_line_44 rfl ?_
        refine z_callVi (M' := M_X5_lineOf) (As := [zi (m_lbeg P (m_count P) line), zi (m_lend P (m_count P) (m_lbeg P (m_count P) line)), zi what]) (rest := []) e_X5_line_45 l_RX5_158 rfl rfl rfl rfl t0 ⟨_, _, rfl⟩ (c_X5_lineOf hM hH (by omega) (by omega) (by omega) ⟨by omega, by omega⟩) (fun xq mq rq hq => ?_)
        obtain ⟨e1q, e2q, e3q⟩ := hq
        subst xq mq rq
        refine z_goto e_X5_line_48 ?_
        refine z_iret e_X5_line_53 (Or.inl rfl) rfl rfl ⟨rfl, _, rfl, ?_⟩
        refine ⟨?_, rfl, rfl⟩
        unfold m_lineA
        rw [if_neg (by omega), if_pos (by omega)]
    · refine z_iconst e_X5_line_13 ?_
      refine z_iret e_X5_line_14 (Or.inl rfl) rfl rfl ⟨rfl, _, rfl, ?_⟩
      refine ⟨?_, rfl, rfl⟩
      unfold m_lineA
      rw [if_pos (by omega)]
set_option maxHeartbeats 1000000 in
set_option maxRecDepth 100000 in
theorem c_X5_signOf {E : z_E} {mi : z_Mi} {mr : z_Mr} {o : Nat} {P : Int → Int} {b e k : Int} (hM : z_MO E mr o) (hH : p_hd P) (h0 : 0 ≤ b) (h1 : b ≤ e) (h2 : e < P 14 + 8) (h3 : 0 ≤ k) (hz : z_R k) : z_mi M_X5_signOf E [zo o, zi b, zi e, zi k] (z_u mi (o + 1) P) mr (fun x m r => x = m_sgA P b e k ∧ m = z_u mi (o + 1) P ∧ r = mr) := by
  obtain ⟨t0, t1, t2, t3, t4, t5, t6, t7, q0, q2, q3, q4, q5, q6, q7⟩ := id hM
  obtain ⟨hw0, hw1, hh0, hh1, hf0, hf1, hf2, hr0, hr1, hc0, hc1, hp0, hp1, hk0, hk1, hi0, hi1, hkp, hP⟩ := id hH
  refine z_ofi (ls := [some (zo o), some (zi b), some (zi e), some (zi k), none, none, none, none, none]) rfl (fun _ _ => trivial) ⟨rfl, rfl⟩ (Nat.le_of_ble_eq_true rfl) rfl ?_
  refine z_iload_n e_X5_signOf_0 rfl ?_
  refine z_istore (ls' := [some (zo o), some (zi b), some (zi e), some (zi k), some (zi k), none, none, none, none]) e_X5_signOf_1 rfl rfl rfl ?_
  refine z_iload_n e_X5_signOf_3 rfl ?_
  refine z_istore (ls' := [some (zo o), some (zi b), some (zi e), some (zi k), some (zi k), some (zi b), none, none, none]) e_X5_signOf_4 rfl rfl rfl ?_
  have loop6 : ∀ (nn : Nat) (left : Int) (row : Int), (e + 1 - row).toNat = nn → (b ≤ row ∧ row ≤ e + 1 ∧ 0 ≤ left ∧ left ≤ k ∧ (m_line P b e)[k.toNat]? = (m_ss P e row (e + 1 - row).toNat)[left.toNat]?) → z_A M_X5_signOf E 0 0 6 [some (zo o), some (zi b), some (zi e), some (zi k), some (zi left), some (zi row), none, none, none] [] (z_u mi (o + 1) P) mr (z_qi E (fun x m r => x = m_sgA P b e k ∧ m = z_u mi (o + 1) P ∧ r = mr)) := by
    intro nn
    induction nn using Nat.strongRecOn with
    | _ nn ih6 =>
      intro left row hmeas hinv
      obtain ⟨hl0, hl1, hl2, hl3, hl4⟩ := hinv
      refine z_iload e_X5_signOf_6 rfl ?_
      refine z_iload_n e_X5_signOf_8 rfl ?_
      refine z_icmp_gt e_X5_signOf_9 ⟨by omega, by omega⟩ ⟨by omega, by omega⟩ (fun h9_1 => ?_) (fun h9_1 => ?_)
      · refine z_bipush e_X5_signOf_76 (by decide +kernel) ?_
        refine z_iret e_X5_signOf_78 (Or.inl rfl) rfl rfl ⟨rfl, _, rfl, ?_⟩
        refine ⟨?_, rfl, rfl⟩
        unfold m_sgA
        rw [hl4, show row = e + 1 by omega, show (e + 1 - (e + 1)).toNat = 0 by omega]
        rfl
      · refine z_aload_n e_X5_signOf_12 rfl ?_
        refine z_iload e_X5_signOf_13 rfl ?_
        refine z_iload_n e_X5_signOf_15 rfl ?_
        refine z_callVi (M' := M_X5_cellsOf) (As := [zi row, zi e]) (rest := []) e_X5_signOf_16 l_RX5_146 rfl rfl rfl rfl t0 ⟨_, _, rfl⟩ (c_X5_cellsOf hM hH (by omega) (by omega) ⟨by omega, by omega⟩) (fun xq mq rq hq => ?_)
        obtain ⟨e1q, e2q, e3q⟩ := hq
        subst xq mq rq
        have hceb := m_cells_b (k := row) (e := e) hH
        refine z_istore (ls' := [some (zo o), some (zi b), some (zi e), some (zi k), some (zi left), some (zi row), some (zi (m_cells P row e)), none, none]) e_X5_signOf_19 rfl rfl rfl ?_
        refine z_iconst e_X5_signOf_21 ?_
        refine z_istore (ls' := [some (zo o), some (zi b), some (zi e), some (zi k), some (zi left), some (zi row), some (zi (m_cells P row e)), some (zi 0), none]) e_X5_signOf_22 rfl rfl rfl ?_
        have loop24 : ∀ (nn : Nat) (left : Int) (c : Int), (m_cells P row e - c).toNat = nn → (0 ≤ c ∧ c ≤ m_cells P row e ∧ 0 ≤ left ∧ left ≤ k ∧ (m_line P b e)[k.toNat]? = (n_ss (p_row P (m_slot P row)) c (m_cells P row e - c).toNat ++ m_ss P e (row + 1) (e + 1 - (row + 1)).toNat)[left.toNat]?) → z_A M_X5_signOf E 0 0 24 [some (zo o), some (zi b), some (zi e), some (zi k), some (zi left), some (zi row), some (zi (m_cells P row e)), some (zi c), none] [] (z_u mi (o + 1) P) mr (z_qi E (fun x m r => x = m_sgA P b e k ∧ m = z_u mi (o + 1) P ∧ r = mr)) := by
          intro nn
          induction nn using Nat.strongRecOn with
          | _ nn ih24 =>
            intro left c hmeas hinv
            obtain ⟨hc0', hc1', hc2, hc3, hc4⟩ := hinv
            refine z_iload e_X5_signOf_24 rfl ?_
            refine z_iload e_X5_signOf_26 rfl ?_
            refine z_icmp_ge e_X5_signOf_28 ⟨by omega, by omega⟩ ⟨by omega, by omega⟩ (fun h28_2 => ?_) (fun h28_2 => ?_)
            · refine z_iinc (y := (row + 1)) (ls' := [some (zo o), some (zi b), some (zi e), some (zi k), some (zi left), some (zi (row + 1)), some (zi (m_cells P row e)), some (zi c), none]) e_X5_signOf_70 rfl rfl rfl rfl rfl ?_
              refine z_goto e_X5_signOf_73 ?_
              refine z_fgt (ls' := [some (zo o), some (zi b), some (zi e), some (zi k), some (zi left), some (zi (row + 1)), none, none, none]) ⟨rfl, rfl, rfl, rfl, rfl, rfl, trivial⟩ ?_
              exact ih6 _ (by omega) left (row + 1) rfl (⟨by omega, by omega, by omega, by omega, by rw [hc4, show c = m_cells P row e by omega, ss_end]⟩)
            · refine z_aload_n e_X5_signOf_31 rfl ?_
              refine z_aload_n e_X5_signOf_32 rfl ?_
              refine z_iload e_X5_signOf_33 rfl ?_
              refine z_callVi (M' := M_X5_slot) (As := [zi row]) (rest := [zo o]) e_X5_signOf_35 l_RX5_130 rfl rfl rfl rfl t0 ⟨_, _, rfl⟩ (c_X5_slot hM hH ⟨by omega, by omega⟩) (fun xq mq rq hq => ?_)
              obtain ⟨e1q, e2q, e3q⟩ := hq
              subst xq mq rq
              have hsb := m_slot_b (k := row) hH (by omega) (by omega)
              refine z_iload e_X5_signOf_38 rfl ?_
              refine z_callVi (M' := M_X5_code) (As := [zi (m_slot P row), zi c]) (rest := []) e_X5_signOf_40 l_RX5_51 rfl rfl rfl rfl t0 ⟨_, _, rfl⟩ (c_X5_code hM (by omega) (by omega)) (fun xq mq rq hq => ?_)
              obtain ⟨e1q, e2q, e3q⟩ := hq
              subst xq mq rq
              have hbq := hP (15 + 22 * (m_slot P row) + c)
              refine z_istore (ls' := [some (zo o), some (zi b), some (zi e), some (zi k), some (zi left), some (zi row), some (zi (m_cells P row e)), some (zi c), some (zi (P (15 + 22 * (m_slot P row) + c)))]) e_X5_signOf_43 rfl rfl rfl ?_
              refine z_iload e_X5_signOf_45 rfl ?_
              refine z_callSi (M' := M_X5_isRight) (As := [zi (P (15 + 22 * (m_slot P row) + c))]) (rest := []) e_X5_signOf_47 l_RX5_54 rfl rfl rfl rfl (c_X5_isRight ⟨by omega, by omega⟩) (fun xq mq rq hq => ?_)
              obtain ⟨e1q, e2q, e3q⟩ := hq
              subst xq mq rq
              refine z_if_neB e_X5_signOf_50  (fun h50_3 => ?_) (fun h50_3 => ?_)
              · refine z_iinc (y := (c + 1)) (ls' := [some (zo o), some (zi b), some (zi e), some (zi k), some (zi left), some (zi row), some (zi (m_cells P row e)), some (zi (c + 1)), some (zi (P (15 + 22 * (m_slot P row) + c)))]) e_X5_signOf_64 rfl rfl rfl rfl rfl ?_
                refine z_goto e_X5_signOf_67 ?_
                refine z_fgt (ls' := [some (zo o), some (zi b), some (zi e), some (zi k), some (zi left), some (zi row), some (zi (m_cells P row e)), some (zi (c + 1)), none]) ⟨rfl, rfl, rfl, rfl, rfl, rfl, rfl, rfl, trivial⟩ ?_
                exact ih24 _ (by omega) left (c + 1) rfl (⟨by omega, by omega, by omega, by omega, by rw [hc4]; exact ss_right (by omega) (by assumption)⟩)
              · refine z_iload e_X5_signOf_53 rfl ?_
                refine z_if_ne e_X5_signOf_55 ⟨by omega, by omega⟩ (fun h55_4 => ?_) (fun h55_4 => ?_)
                · refine z_iinc (y := (left + (-1))) (ls' := [some (zo o), some (zi b), some (zi e), some (zi k), some (zi (left + (-1))), some (zi row), some (zi (m_cells P row e)), some (zi c), some (zi (P (15 + 22 * (m_slot P row) + c)))]) e_X5_signOf_61 rfl rfl rfl rfl rfl ?_
                  refine z_iinc (y := (c + 1)) (ls' := [some (zo o), some (zi b), some (zi e), some (zi k), some (zi (left + (-1))), some (zi row), some (zi (m_cells P row e)), some (zi (c + 1)), some (zi (P (15 + 22 * (m_slot P row) + c)))]) e_X5_signOf_64 rfl rfl rfl rfl rfl ?_
                  refine z_goto e_X5_signOf_67 ?_
                  refine z_fgt (ls' := [some (zo o), some (zi b), some (zi e), some (zi k), some (zi (left + (-1))), some (zi row), some (zi (m_cells P row e)), some (zi (c + 1)), none]) ⟨rfl, rfl, rfl, rfl, rfl, rfl, rfl, rfl, trivial⟩ ?_
                  exact ih24 _ (by omega) (left + (-1)) (c + 1) rfl (⟨by omega, by omega, by omega, by omega, by rw [hc4]; exact ss_succ (by omega) (by assumption) (by omega)⟩)
                · refine z_iload e_X5_signOf_58 rfl ?_
                  refine z_iret e_X5_signOf_60 (Or.inl rfl) rfl rfl ⟨rfl, _, rfl, ?_⟩
                  refine ⟨?_, rfl, rfl⟩
                  unfold m_sgA
                  rw [hc4, show left = 0 by omega, ss_zero (by omega) (by assumption)]
                  rfl
        exact loop24 _ left 0 rfl (⟨by omega, by omega, by omega, by omega, by rw [hl4, m_ss_s (by omega), Int.sub_zero]⟩)
  exact loop6 _ k b rfl (⟨by omega, by omega, by omega, by omega, rfl⟩)
set_option maxHeartbeats 1000000 in
set_option maxRecDepth 100000 in
theorem c_X5_sign {E : z_E} {mi : z_Mi} {mr : z_Mr} {o : Nat} {P : Int → Int} {line k : Int} (hM : z_MO E mr o) (hH : p_hd P) (hz1 : z_R line) (hz2 : z_R k) : z_mi M_X5_sign E [zo o, zi line, zi k] (z_u mi (o + 1) P) mr (fun x m r => x = m_signA P line k ∧ m = z_u mi (o + 1) P ∧ r = mr) := by
  obtain ⟨t0, t1, t2, t3, t4, t5, t6, t7, q0, q2, q3, q4, q5, q6, q7⟩ := id hM
  obtain ⟨hw0, hw1, hh0, hh1, hf0, hf1, hf2, hr0, hr1, hc0, hc1, hp0, hp1, hk0, hk1, hi0, hi1, hkp, hP⟩ := id hH
  refine z_ofi (ls := [some (zo o), some (zi line), some (zi k), none, none]) rfl (fun _ _ => trivial) ⟨rfl, rfl⟩ (Nat.le_of_ble_eq_true rfl) rfl ?_
  refine z_iload_n e_X5_sign_0 rfl ?_
  refine z_if_lt e_X5_sign_1 ⟨by omega, by omega⟩ (fun h1_1 => ?_) (fun h1_1 => ?_)
  · refine z_iconst e_X5_sign_8 ?_
    refine z_iret e_X5_sign_9 (Or.inl rfl) rfl rfl ⟨rfl, _, rfl, ?_⟩
    refine ⟨?_, rfl, rfl⟩
    unfold m_signA
    rw [if_pos (by omega)]
  · refine z_iload_n e_X5_sign_4 rfl ?_
    refine z_if_ge e_X5_sign_5 ⟨by omega, by omega⟩ (fun h5_2 => ?_) (fun h5_2 => ?_)
    · refine z_aload_n e_X5_sign_10 rfl ?_
      refine z_callVi (M' := M_X5_counted) (As := []) (rest := []) e_X5_sign_11 l_RX5_140 rfl rfl rfl rfl t0 ⟨_, _, rfl⟩ (c_X5_counted hM hH) (fun xq mq rq hq => ?_)
      obtain ⟨e1q, e2q, e3q⟩ := hq
      subst xq mq rq
      have hcb := m_count_b hH
      refine z_istore_n (ls' := [some (zo o), some (zi line), some (zi k), some (zi (m_count P)), none]) e_X5_sign_14 rfl rfl rfl ?_
      refine z_aload_n e_X5_sign_15 rfl ?_
      refine z_iload_n e_X5_sign_16 rfl ?_
      refine z_iload_n e_X5_sign_17 rfl ?_
      refine z_callVi (M' := M_X5_lineBegin) (As := [zi line, zi (m_count P)]) (rest := []) e_X5_sign_18 l_RX5_155 rfl rfl rfl rfl t0 ⟨_, _, rfl⟩ (c_X5_lineBegin hM hH (by omega) ⟨by omega, by omega⟩ (by omega) (by omega)) (fun xq mq rq hq => ?_)
      obtain ⟨e1q, e2q, e3q⟩ := hq
      subst xq mq rq
      have hlg := m_lbeg_spec (P := P) (n := (m_count P)) (line := line) (by omega)
      have hlg0 := hlg.1
      have hlg1 := hlg.2.1
      refine z_istore (ls' := [some (zo o), some (zi line), some (zi k), some (zi (m_count P)), some (zi (m_lbeg P (m_count P) line))]) e_X5_sign_21 rfl rfl rfl ?_
      refine z_iload e_X5_sign_23 rfl ?_
      refine z_iload_n e_X5_sign_25 rfl ?_
      refine z_icmp_ge e_X5_sign_26 ⟨by omega, by omega⟩ ⟨by omega, by omega⟩ (fun h26_3 => ?_) (fun h26_3 => ?_)
      · refine z_bipush e_X5_sign_46 (by decide +kernel) ?_
        refine z_iret e_X5_sign_48 (Or.inl rfl) rfl rfl ⟨rfl, _, rfl, ?_⟩
        refine ⟨?_, rfl, rfl⟩
        unfold m_signA
        rw [if_neg (by omega), if_neg (by omega)]
      · refine z_aload_n e_X5_sign_29 rfl ?_
        refine z_iload e_X5_sign_30 rfl ?_
        refine z_aload_n e_X5_sign_32 rfl ?_
        refine z_iload e_X5_sign_33 rfl ?_
        refine z_iload_n e_X5_sign_35 rfl ?_
        refine z_callVi (M' := M_X5_lineEnd) (As := [zi (m_lbeg P (m_count P) line), zi (m_count P)]) (rest := [zi (m_lbeg P (m_count P) line), zo o]) e_X5_sign_36 l_RX5_137 rfl rfl rfl rfl t0 ⟨_, _, rfl⟩ (c_X5_lineEnd hM hH (by omega) (by omega) (by omega)) (fun xq mq rq hq => ?_)
        obtain ⟨e1q, e2q, e3q⟩ := hq
        subst xq mq rq
        have hle := m_lend_spec (P := P) (n := (m_count P)) (k := (m_lbeg P (m_count P) line)) (by omega)
        have hle1 := hle.1
        have hle2 := hle.2.1
        refine z_iload_n e_X5_sign_39 rfl ?_
        refine z_callVi (M' := M_X5_signOf) (As := [zi (m_lbeg P (m_count P) line), zi (m_lend P (m_count P) (m_lbeg P (m_count P) line)), zi k]) (rest := []) e_X5_sign_40 l_RX5_162 rfl rfl rfl rfl t0 ⟨_, _, rfl⟩ (c_X5_signOf hM hH (by omega) (by omega) (by omega) (by omega) ⟨by omega, by omega⟩) (fun xq mq rq hq => ?_)
        obtain ⟨e1q, e2q, e3q⟩ := hq
        subst xq mq rq
        refine z_goto e_X5_sign_43 ?_
        refine z_iret e_X5_sign_48 (Or.inl rfl) rfl rfl ⟨rfl, _, rfl, ?_⟩
        refine ⟨?_, rfl, rfl⟩
        unfold m_signA
        rw [if_neg (by omega), if_pos (by omega)]
    · refine z_iconst e_X5_sign_8 ?_
      refine z_iret e_X5_sign_9 (Or.inl rfl) rfl rfl ⟨rfl, _, rfl, ?_⟩
      refine ⟨?_, rfl, rfl⟩
      unfold m_signA
      rw [if_pos (by omega)]
set_option maxHeartbeats 1000000 in
set_option maxRecDepth 100000 in
theorem c_X5_lineAt {E : z_E} {mi : z_Mi} {mr : z_Mr} {o : Nat} {P : Int → Int} {row : Int} (hM : z_MO E mr o) (hH : p_hd P) (h0 : 0 ≤ row) (h1 : P 14 + row < m_count P) : z_mi M_X5_lineAt E [zo o, zi row] (z_u mi (o + 1) P) mr (fun x m r => x = m_lno P (m_count P) (P 14 + row) ∧ m = z_u mi (o + 1) P ∧ r = mr) := by
  obtain ⟨t0, t1, t2, t3, t4, t5, t6, t7, q0, q2, q3, q4, q5, q6, q7⟩ := id hM
  obtain ⟨hw0, hw1, hh0, hh1, hf0, hf1, hf2, hr0, hr1, hc0, hc1, hp0, hp1, hk0, hk1, hi0, hi1, hkp, hP⟩ := id hH
  refine z_ofi (ls := [some (zo o), some (zi row), none, none, none, none]) rfl (fun _ _ => trivial) ⟨rfl, rfl⟩ (Nat.le_of_ble_eq_true rfl) rfl ?_
  refine z_aload_n e_X5_lineAt_0 rfl ?_
  refine z_callVi (M' := M_X5_counted) (As := []) (rest := []) e_X5_lineAt_1 l_RX5_140 rfl rfl rfl rfl t0 ⟨_, _, rfl⟩ (c_X5_counted hM hH) (fun xq mq rq hq => ?_)
  obtain ⟨e1q, e2q, e3q⟩ := hq
  subst xq mq rq
  have hcb := m_count_b hH
  refine z_istore_n (ls' := [some (zo o), some (zi row), some (zi (m_count P)), none, none, none]) e_X5_lineAt_4 rfl rfl rfl ?_
  refine z_aload_n e_X5_lineAt_5 rfl ?_
  refine z_getr (fi := 0) (r := some (o + 1)) e_X5_lineAt_6 f_RX5_7 t0 rfl rfl (q0) ?_
  refine z_bipush e_X5_lineAt_9 (by decide +kernel) ?_
  refine z_iald (x := (P 14)) e_X5_lineAt_11 t1 (by decide) (by decide) (by decide) (congrFun (z_us _ _ _) _) ?_
  refine z_iload_n e_X5_lineAt_12 rfl ?_
  refine z_iadd e_X5_lineAt_13 ?_
  refine z_istore_n (ls' := [some (zo o), some (zi row), some (zi (m_count P)), some (zi ((P 14) + row)), none, none]) e_X5_lineAt_14 rfl rfl rfl ?_
  refine z_iconst e_X5_lineAt_15 ?_
  refine z_istore (ls' := [some (zo o), some (zi row), some (zi (m_count P)), some (zi ((P 14) + row)), some (zi 0), none]) e_X5_lineAt_16 rfl rfl rfl ?_
  refine z_iconst e_X5_lineAt_18 ?_
  refine z_istore (ls' := [some (zo o), some (zi row), some (zi (m_count P)), some (zi ((P 14) + row)), some (zi 0), some (zi 0)]) e_X5_lineAt_19 rfl rfl rfl ?_
  have loop21 : ∀ (nn : Nat) (l : Int) (k : Int), (m_count P - k).toNat = nn → (0 ≤ k ∧ k ≤ P 14 + row ∧ m_lno P (m_count P) k = l) → z_A M_X5_lineAt E 0 0 21 [some (zo o), some (zi row), some (zi (m_count P)), some (zi ((P 14) + row)), some (zi l), some (zi k)] [] (z_u mi (o + 1) P) mr (z_qi E (fun x m r => x = m_lno P (m_count P) (P 14 + row) ∧ m = z_u mi (o + 1) P ∧ r = mr)) := by
    intro nn
    induction nn using Nat.strongRecOn with
    | _ nn ih21 =>
      intro l k hmeas hinv
      obtain ⟨hl0, hl1, hl2⟩ := hinv
      refine z_aload_n e_X5_lineAt_21 rfl ?_
      refine z_iload e_X5_lineAt_22 rfl ?_
      refine z_iload_n e_X5_lineAt_24 rfl ?_
      refine z_callVi (M' := M_X5_lineEnd) (As := [zi k, zi (m_count P)]) (rest := []) e_X5_lineAt_25 l_RX5_137 rfl rfl rfl rfl t0 ⟨_, _, rfl⟩ (c_X5_lineEnd hM hH (by omega) (by omega) (by omega)) (fun xq mq rq hq => ?_)
      obtain ⟨e1q, e2q, e3q⟩ := hq
      subst xq mq rq
      have hle := m_lend_spec (P := P) (n := (m_count P)) (k := k) (by omega)
      have hle1 := hle.1
      have hle2 := hle.2.1
      refine z_iload_n e_X5_lineAt_28 rfl ?_
      refine z_icmp_ge e_X5_lineAt_29 ⟨by omega, by omega⟩ ⟨by omega, by omega⟩ (fun h29_1 => ?_) (fun h29_1 => ?_)
      · refine z_iload e_X5_lineAt_49 rfl ?_
        refine z_iret e_X5_lineAt_51 (Or.inl rfl) rfl rfl ⟨rfl, _, rfl, ?_⟩
        refine ⟨?_, rfl, rfl⟩
        rw [← hl2]
        exact (m_lno_same hl0 hl1 (fun j g0 g1 => hle.2.2.2 j g0 (by omega))).symm
      · refine z_aload_n e_X5_lineAt_32 rfl ?_
        refine z_iload e_X5_lineAt_33 rfl ?_
        refine z_iload_n e_X5_lineAt_35 rfl ?_
        refine z_callVi (M' := M_X5_lineEnd) (As := [zi k, zi (m_count P)]) (rest := []) e_X5_lineAt_36 l_RX5_137 rfl rfl rfl rfl t0 ⟨_, _, rfl⟩ (c_X5_lineEnd hM hH (by omega) (by omega) (by omega)) (fun xq mq rq hq => ?_)
        obtain ⟨e1q, e2q, e3q⟩ := hq
        subst xq mq rq
        have hle := m_lend_spec (P := P) (n := (m_count P)) (k := k) (by omega)
        have hle1 := hle.1
        have hle2 := hle.2.1
        refine z_iconst e_X5_lineAt_39 ?_
        refine z_iadd e_X5_lineAt_40 ?_
        refine z_istore (ls' := [some (zo o), some (zi row), some (zi (m_count P)), some (zi ((P 14) + row)), some (zi l), some (zi ((m_lend P (m_count P) k) + 1))]) e_X5_lineAt_41 rfl rfl rfl ?_
        refine z_iinc (y := (l + 1)) (ls' := [some (zo o), some (zi row), some (zi (m_count P)), some (zi ((P 14) + row)), some (zi (l + 1)), some (zi ((m_lend P (m_count P) k) + 1))]) e_X5_lineAt_43 rfl rfl rfl rfl rfl ?_
        refine z_goto e_X5_lineAt_46 ?_
        exact ih21 _ (by omega) (l + 1) ((m_lend P (m_count P) k) + 1) rfl (⟨by omega, by omega, by rw [m_lno_next (by omega) (by omega), hl2]⟩)
  exact loop21 _ 0 0 rfl (⟨by omega, by omega, rfl⟩)
set_option maxHeartbeats 1000000 in
set_option maxRecDepth 100000 in
theorem c_X5_markOf {E : z_E} {mi : z_Mi} {mr : z_Mr} {o : Nat} {P : Int → Int} {row col : Int} (hM : z_MO E mr o) (hH : p_hd P) (h0 : 0 ≤ row) (h1 : P 14 + row < m_count P) (h2 : 0 ≤ col) (h3 : col ≤ 20) : z_mi M_X5_markOf E [zo o, zi row, zi col] (z_u mi (o + 1) P) mr (fun x m r => x = m_mark P (m_count P) row col ∧ m = z_u mi (o + 1) P ∧ r = mr) := by
  obtain ⟨t0, t1, t2, t3, t4, t5, t6, t7, q0, q2, q3, q4, q5, q6, q7⟩ := id hM
  obtain ⟨hw0, hw1, hh0, hh1, hf0, hf1, hf2, hr0, hr1, hc0, hc1, hp0, hp1, hk0, hk1, hi0, hi1, hkp, hP⟩ := id hH
  refine z_ofi (ls := [some (zo o), some (zi row), some (zi col), none, none, none, none, none, none]) rfl (fun _ _ => trivial) ⟨rfl, rfl⟩ (Nat.le_of_ble_eq_true rfl) rfl ?_
  refine z_aload_n e_X5_markOf_0 rfl ?_
  refine z_callVi (M' := M_X5_counted) (As := []) (rest := []) e_X5_markOf_1 l_RX5_140 rfl rfl rfl rfl t0 ⟨_, _, rfl⟩ (c_X5_counted hM hH) (fun xq mq rq hq => ?_)
  obtain ⟨e1q, e2q, e3q⟩ := hq
  subst xq mq rq
  have hcb := m_count_b hH
  refine z_istore_n (ls' := [some (zo o), some (zi row), some (zi col), some (zi (m_count P)), none, none, none, none, none]) e_X5_markOf_4 rfl rfl rfl ?_
  refine z_aload_n e_X5_markOf_5 rfl ?_
  refine z_getr (fi := 0) (r := some (o + 1)) e_X5_markOf_6 f_RX5_7 t0 rfl rfl (q0) ?_
  refine z_bipush e_X5_markOf_9 (by decide +kernel) ?_
  refine z_iald (x := (P 14)) e_X5_markOf_11 t1 (by decide) (by decide) (by decide) (congrFun (z_us _ _ _) _) ?_
  refine z_iload_n e_X5_markOf_12 rfl ?_
  refine z_iadd e_X5_markOf_13 ?_
  refine z_istore (ls' := [some (zo o), some (zi row), some (zi col), some (zi (m_count P)), some (zi ((P 14) + row)), none, none, none, none]) e_X5_markOf_14 rfl rfl rfl ?_
  refine z_aload_n e_X5_markOf_16 rfl ?_
  refine z_aload_n e_X5_markOf_17 rfl ?_
  refine z_iload_n e_X5_markOf_18 rfl ?_
  refine z_callVi (M' := M_X5_lineAt) (As := [zi row]) (rest := [zo o]) e_X5_markOf_19 l_RX5_165 rfl rfl rfl rfl t0 ⟨_, _, rfl⟩ (c_X5_lineAt hM hH (by omega) (by omega)) (fun xq mq rq hq => ?_)
  obtain ⟨e1q, e2q, e3q⟩ := hq
  subst xq mq rq
  have hnob := m_lno_b P (m_count P) (P 14 + row) (by omega)
  refine z_iload_n e_X5_markOf_22 rfl ?_
  refine z_callVi (M' := M_X5_lineBegin) (As := [zi (m_lno P (m_count P) (P 14 + row)), zi (m_count P)]) (rest := []) e_X5_markOf_23 l_RX5_155 rfl rfl rfl rfl t0 ⟨_, _, rfl⟩ (c_X5_lineBegin hM hH (by omega) ⟨by omega, by omega⟩ (by omega) (by omega)) (fun xq mq rq hq => ?_)
  obtain ⟨e1q, e2q, e3q⟩ := hq
  subst xq mq rq
  have hlg := m_lbeg_spec (P := P) (n := (m_count P)) (line := (m_lno P (m_count P) (P 14 + row))) (by omega)
  have hlg0 := hlg.1
  have hlg1 := hlg.2.1
  obtain ⟨hb1, hb2, hb3, hb4⟩ := m_lbeg_of (P := P) (n := m_count P) (k := P 14 + row) (by omega) h1
  have hlo := m_lend_of hb1 h1 hb4
  have hls := m_lend_spec (P := P) (n := m_count P) (k := P 14 + row) h1
  have hls1 := hls.1
  have hls2 := hls.2.1
  refine z_istore (ls' := [some (zo o), some (zi row), some (zi col), some (zi (m_count P)), some (zi ((P 14) + row)), some (zi (m_lbeg P (m_count P) (m_lno P (m_count P) (P 14 + row)))), none, none, none]) e_X5_markOf_26 rfl rfl rfl ?_
  refine z_aload_n e_X5_markOf_28 rfl ?_
  refine z_iload e_X5_markOf_29 rfl ?_
  refine z_iload_n e_X5_markOf_31 rfl ?_
  refine z_callVi (M' := M_X5_lineEnd) (As := [zi (m_lbeg P (m_count P) (m_lno P (m_count P) (P 14 + row))), zi (m_count P)]) (rest := []) e_X5_markOf_32 l_RX5_137 rfl rfl rfl rfl t0 ⟨_, _, rfl⟩ (c_X5_lineEnd hM hH (by omega) (by omega) (by omega)) (fun xq mq rq hq => ?_)
  obtain ⟨e1q, e2q, e3q⟩ := hq
  rw [hlo] at e1q
  subst xq mq rq
  refine z_istore (ls' := [some (zo o), some (zi row), some (zi col), some (zi (m_count P)), some (zi ((P 14) + row)), some (zi (m_lbeg P (m_count P) (m_lno P (m_count P) (P 14 + row)))), some (zi (m_lend P (m_count P) (P 14 + row))), none, none]) e_X5_markOf_35 rfl rfl rfl ?_
  refine z_iconst e_X5_markOf_37 ?_
  refine z_istore (ls' := [some (zo o), some (zi row), some (zi col), some (zi (m_count P)), some (zi ((P 14) + row)), some (zi (m_lbeg P (m_count P) (m_lno P (m_count P) (P 14 + row)))), some (zi (m_lend P (m_count P) (P 14 + row))), some (zi 0), none]) e_X5_markOf_38 rfl rfl rfl ?_
  refine z_iload e_X5_markOf_40 rfl ?_
  refine z_istore (ls' := [some (zo o), some (zi row), some (zi col), some (zi (m_count P)), some (zi ((P 14) + row)), some (zi (m_lbeg P (m_count P) (m_lno P (m_count P) (P 14 + row)))), some (zi (m_lend P (m_count P) (P 14 + row))), some (zi 0), some (zi (m_lbeg P (m_count P) (m_lno P (m_count P) (P 14 + row))))]) e_X5_markOf_42 rfl rfl rfl ?_
  have loop44 : ∀ (nn : Nat) (n : Int) (k : Int), (P 14 + row - k).toNat = nn → ((m_lbeg P (m_count P) (m_lno P (m_count P) (P 14 + row))) ≤ k ∧ k ≤ P 14 + row ∧ n = m_sgn P (m_lend P (m_count P) (P 14 + row)) (m_lbeg P (m_count P) (m_lno P (m_count P) (P 14 + row))) (k - (m_lbeg P (m_count P) (m_lno P (m_count P) (P 14 + row)))).toNat) → z_A M_X5_markOf E 0 0 44 [some (zo o), some (zi row), some (zi col), some (zi (m_count P)), some (zi ((P 14) + row)), some (zi (m_lbeg P (m_count P) (m_lno P (m_count P) (P 14 + row)))), some (zi (m_lend P (m_count P) (P 14 + row))), some (zi n), some (zi k)] [] (z_u mi (o + 1) P) mr (z_qi E (fun x m r => x = m_mark P (m_count P) row col ∧ m = z_u mi (o + 1) P ∧ r = mr)) := by
    intro nn
    induction nn using Nat.strongRecOn with
    | _ nn ih44 =>
      intro n k hmeas hinv
      obtain ⟨hl0, hl1, hn⟩ := hinv
      refine z_iload e_X5_markOf_44 rfl ?_
      refine z_iload e_X5_markOf_46 rfl ?_
      refine z_icmp_ge e_X5_markOf_48 ⟨by omega, by omega⟩ ⟨by omega, by omega⟩ (fun h48_1 => ?_) (fun h48_1 => ?_)
      · have hk : k = P 14 + row := by omega
        have hgb := m_sgn_b (P := P) (e := m_lend P (m_count P) (P 14 + row)) (b := (m_lbeg P (m_count P) (m_lno P (m_count P) (P 14 + row)))) hH (k - (m_lbeg P (m_count P) (m_lno P (m_count P) (P 14 + row)))).toNat
        have hgk : (k - (m_lbeg P (m_count P) (m_lno P (m_count P) (P 14 + row)))).toNat ≤ 32 := by omega
        refine z_aload_n e_X5_markOf_80 rfl ?_
        refine z_iload e_X5_markOf_81 rfl ?_
        refine z_iload e_X5_markOf_83 rfl ?_
        refine z_callVi (M' := M_X5_cellsOf) (As := [zi ((P 14) + row), zi (m_lend P (m_count P) (P 14 + row))]) (rest := []) e_X5_markOf_85 l_RX5_146 rfl rfl rfl rfl t0 ⟨_, _, rfl⟩ (c_X5_cellsOf hM hH (by omega) (by omega) ⟨by omega, by omega⟩) (fun xq mq rq hq => ?_)
        obtain ⟨e1q, e2q, e3q⟩ := hq
        subst xq mq rq
        have hceb := m_cells_b (k := ((P 14) + row)) (e := (m_lend P (m_count P) (P 14 + row))) hH
        refine z_istore (ls' := [some (zo o), some (zi row), some (zi col), some (zi (m_count P)), some (zi ((P 14) + row)), some (zi (m_lbeg P (m_count P) (m_lno P (m_count P) (P 14 + row)))), some (zi (m_lend P (m_count P) (P 14 + row))), some (zi n), some (zi (m_cells P ((P 14) + row) (m_lend P (m_count P) (P 14 + row))))]) e_X5_markOf_88 rfl rfl rfl ?_
        refine z_iload e_X5_markOf_90 rfl ?_
        refine z_aload_n e_X5_markOf_92 rfl ?_
        refine z_aload_n e_X5_markOf_93 rfl ?_
        refine z_iload e_X5_markOf_94 rfl ?_
        refine z_callVi (M' := M_X5_slot) (As := [zi ((P 14) + row)]) (rest := [zo o, zi n]) e_X5_markOf_96 l_RX5_130 rfl rfl rfl rfl t0 ⟨_, _, rfl⟩ (c_X5_slot hM hH ⟨by omega, by omega⟩) (fun xq mq rq hq => ?_)
        obtain ⟨e1q, e2q, e3q⟩ := hq
        subst xq mq rq
        have hsb := m_slot_b (k := ((P 14) + row)) hH (by omega) (by omega)
        refine z_iload_n e_X5_markOf_99 rfl ?_
        refine z_iload e_X5_markOf_100 rfl ?_
        refine z_icmp_ge e_X5_markOf_102 ⟨by omega, by omega⟩ ⟨by omega, by omega⟩ (fun h102_2 => ?_) (fun h102_2 => ?_)
        · refine z_iload e_X5_markOf_109 rfl ?_
          refine z_callVi (M' := M_X5_signsIn) (As := [zi (m_slot P ((P 14) + row)), zi (m_cells P ((P 14) + row) (m_lend P (m_count P) (P 14 + row)))]) (rest := [zi n]) e_X5_markOf_111 l_RX5_149 rfl rfl rfl rfl t0 ⟨_, _, rfl⟩ (c_X5_signsIn hM hH (by omega) (by omega) (by omega) (by omega)) (fun xq mq rq hq => ?_)
          obtain ⟨e1q, e2q, e3q⟩ := hq
          subst xq mq rq
          have hsib := m_sin_b P (m_slot P ((P 14) + row)) (m_cells P ((P 14) + row) (m_lend P (m_count P) (P 14 + row))) (by omega)
          refine z_iadd e_X5_markOf_114 ?_
          refine z_istore (ls' := [some (zo o), some (zi row), some (zi col), some (zi (m_count P)), some (zi ((P 14) + row)), some (zi (m_lbeg P (m_count P) (m_lno P (m_count P) (P 14 + row)))), some (zi (m_lend P (m_count P) (P 14 + row))), some (zi (n + (m_sin P (m_slot P ((P 14) + row)) (m_cells P ((P 14) + row) (m_lend P (m_count P) (P 14 + row)))))), some (zi (m_cells P ((P 14) + row) (m_lend P (m_count P) (P 14 + row))))]) e_X5_markOf_115 rfl rfl rfl ?_
          refine z_iload e_X5_markOf_117 rfl ?_
          refine z_iload e_X5_markOf_119 rfl ?_
          refine z_icmp_ne e_X5_markOf_121 ⟨by omega, by omega⟩ ⟨by omega, by omega⟩ (fun h121_3 => ?_) (fun h121_3 => ?_)
          · refine z_iload e_X5_markOf_140 rfl ?_
            refine z_iret e_X5_markOf_142 (Or.inl rfl) rfl rfl ⟨rfl, _, rfl, ?_⟩
            refine ⟨?_, rfl, rfl⟩
            have hn2 : n = m_sgn P (m_lend P (m_count P) (P 14 + row)) (m_lbeg P (m_count P) (m_lno P (m_count P) (P 14 + row))) (P 14 + row - (m_lbeg P (m_count P) (m_lno P (m_count P) (P 14 + row)))).toNat := by rw [hn, hk]
            unfold m_mark
            rw [← hn2]
            grind
          · refine z_iload_n e_X5_markOf_124 rfl ?_
            refine z_iload e_X5_markOf_125 rfl ?_
            refine z_icmp_le e_X5_markOf_127 ⟨by omega, by omega⟩ ⟨by omega, by omega⟩ (fun h127_4 => ?_) (fun h127_4 => ?_)
            · refine z_iload e_X5_markOf_140 rfl ?_
              refine z_iret e_X5_markOf_142 (Or.inl rfl) rfl rfl ⟨rfl, _, rfl, ?_⟩
              refine ⟨?_, rfl, rfl⟩
              have hn2 : n = m_sgn P (m_lend P (m_count P) (P 14 + row)) (m_lbeg P (m_count P) (m_lno P (m_count P) (P 14 + row))) (P 14 + row - (m_lbeg P (m_count P) (m_lno P (m_count P) (P 14 + row)))).toNat := by rw [hn, hk]
              unfold m_mark
              rw [← hn2]
              grind
            · refine z_iload e_X5_markOf_130 rfl ?_
              refine z_iload_n e_X5_markOf_132 rfl ?_
              refine z_iadd e_X5_markOf_133 ?_
              refine z_iload e_X5_markOf_134 rfl ?_
              refine z_isub e_X5_markOf_136 ?_
              refine z_goto e_X5_markOf_137 ?_
              refine z_iret e_X5_markOf_142 (Or.inl rfl) rfl rfl ⟨rfl, _, rfl, ?_⟩
              refine ⟨?_, rfl, rfl⟩
              have hn2 : n = m_sgn P (m_lend P (m_count P) (P 14 + row)) (m_lbeg P (m_count P) (m_lno P (m_count P) (P 14 + row))) (P 14 + row - (m_lbeg P (m_count P) (m_lno P (m_count P) (P 14 + row)))).toNat := by rw [hn, hk]
              unfold m_mark
              rw [← hn2]
              grind
        · refine z_iload_n e_X5_markOf_105 rfl ?_
          refine z_goto e_X5_markOf_106 ?_
          refine z_callVi (M' := M_X5_signsIn) (As := [zi (m_slot P ((P 14) + row)), zi col]) (rest := [zi n]) e_X5_markOf_111 l_RX5_149 rfl rfl rfl rfl t0 ⟨_, _, rfl⟩ (c_X5_signsIn hM hH (by omega) (by omega) (by omega) (by omega)) (fun xq mq rq hq => ?_)
          obtain ⟨e1q, e2q, e3q⟩ := hq
          subst xq mq rq
          have hsib := m_sin_b P (m_slot P ((P 14) + row)) col (by omega)
          refine z_iadd e_X5_markOf_114 ?_
          refine z_istore (ls' := [some (zo o), some (zi row), some (zi col), some (zi (m_count P)), some (zi ((P 14) + row)), some (zi (m_lbeg P (m_count P) (m_lno P (m_count P) (P 14 + row)))), some (zi (m_lend P (m_count P) (P 14 + row))), some (zi (n + (m_sin P (m_slot P ((P 14) + row)) col))), some (zi (m_cells P ((P 14) + row) (m_lend P (m_count P) (P 14 + row))))]) e_X5_markOf_115 rfl rfl rfl ?_
          refine z_iload e_X5_markOf_117 rfl ?_
          refine z_iload e_X5_markOf_119 rfl ?_
          refine z_icmp_ne e_X5_markOf_121 ⟨by omega, by omega⟩ ⟨by omega, by omega⟩ (fun h121_5 => ?_) (fun h121_5 => ?_)
          · refine z_iload e_X5_markOf_140 rfl ?_
            refine z_iret e_X5_markOf_142 (Or.inl rfl) rfl rfl ⟨rfl, _, rfl, ?_⟩
            refine ⟨?_, rfl, rfl⟩
            have hn2 : n = m_sgn P (m_lend P (m_count P) (P 14 + row)) (m_lbeg P (m_count P) (m_lno P (m_count P) (P 14 + row))) (P 14 + row - (m_lbeg P (m_count P) (m_lno P (m_count P) (P 14 + row)))).toNat := by rw [hn, hk]
            unfold m_mark
            rw [← hn2]
            grind
          · refine z_iload_n e_X5_markOf_124 rfl ?_
            refine z_iload e_X5_markOf_125 rfl ?_
            refine z_icmp_le e_X5_markOf_127 ⟨by omega, by omega⟩ ⟨by omega, by omega⟩ (fun h127_6 => ?_) (fun h127_6 => ?_)
            · refine z_iload e_X5_markOf_140 rfl ?_
              refine z_iret e_X5_markOf_142 (Or.inl rfl) rfl rfl ⟨rfl, _, rfl, ?_⟩
              refine ⟨?_, rfl, rfl⟩
              have hn2 : n = m_sgn P (m_lend P (m_count P) (P 14 + row)) (m_lbeg P (m_count P) (m_lno P (m_count P) (P 14 + row))) (P 14 + row - (m_lbeg P (m_count P) (m_lno P (m_count P) (P 14 + row)))).toNat := by rw [hn, hk]
              unfold m_mark
              rw [← hn2]
              grind
            · refine z_iload e_X5_markOf_130 rfl ?_
              refine z_iload_n e_X5_markOf_132 rfl ?_
              refine z_iadd e_X5_markOf_133 ?_
              refine z_iload e_X5_markOf_134 rfl ?_
              refine z_isub e_X5_markOf_136 ?_
              refine z_goto e_X5_markOf_137 ?_
              refine z_iret e_X5_markOf_142 (Or.inl rfl) rfl rfl ⟨rfl, _, rfl, ?_⟩
              refine ⟨?_, rfl, rfl⟩
              have hn2 : n = m_sgn P (m_lend P (m_count P) (P 14 + row)) (m_lbeg P (m_count P) (m_lno P (m_count P) (P 14 + row))) (P 14 + row - (m_lbeg P (m_count P) (m_lno P (m_count P) (P 14 + row)))).toNat := by rw [hn, hk]
              unfold m_mark
              rw [← hn2]
              grind
      · refine z_iload e_X5_markOf_51 rfl ?_
        refine z_aload_n e_X5_markOf_53 rfl ?_
        refine z_aload_n e_X5_markOf_54 rfl ?_
        refine z_iload e_X5_markOf_55 rfl ?_
        refine z_callVi (M' := M_X5_slot) (As := [zi k]) (rest := [zo o, zi n]) e_X5_markOf_57 l_RX5_130 rfl rfl rfl rfl t0 ⟨_, _, rfl⟩ (c_X5_slot hM hH ⟨by omega, by omega⟩) (fun xq mq rq hq => ?_)
        obtain ⟨e1q, e2q, e3q⟩ := hq
        subst xq mq rq
        have hsb := m_slot_b (k := k) hH (by omega) (by omega)
        refine z_aload_n e_X5_markOf_60 rfl ?_
        refine z_iload e_X5_markOf_61 rfl ?_
        refine z_iload e_X5_markOf_63 rfl ?_
        refine z_callVi (M' := M_X5_cellsOf) (As := [zi k, zi (m_lend P (m_count P) (P 14 + row))]) (rest := [zi (m_slot P k), zo o, zi n]) e_X5_markOf_65 l_RX5_146 rfl rfl rfl rfl t0 ⟨_, _, rfl⟩ (c_X5_cellsOf hM hH (by omega) (by omega) ⟨by omega, by omega⟩) (fun xq mq rq hq => ?_)
        obtain ⟨e1q, e2q, e3q⟩ := hq
        subst xq mq rq
        have hceb := m_cells_b (k := k) (e := (m_lend P (m_count P) (P 14 + row))) hH
        refine z_callVi (M' := M_X5_signsIn) (As := [zi (m_slot P k), zi (m_cells P k (m_lend P (m_count P) (P 14 + row)))]) (rest := [zi n]) e_X5_markOf_68 l_RX5_149 rfl rfl rfl rfl t0 ⟨_, _, rfl⟩ (c_X5_signsIn hM hH (by omega) (by omega) (by omega) (by omega)) (fun xq mq rq hq => ?_)
        obtain ⟨e1q, e2q, e3q⟩ := hq
        subst xq mq rq
        have hsib := m_sin_b P (m_slot P k) (m_cells P k (m_lend P (m_count P) (P 14 + row))) (by omega)
        refine z_iadd e_X5_markOf_71 ?_
        refine z_istore (ls' := [some (zo o), some (zi row), some (zi col), some (zi (m_count P)), some (zi ((P 14) + row)), some (zi (m_lbeg P (m_count P) (m_lno P (m_count P) (P 14 + row)))), some (zi (m_lend P (m_count P) (P 14 + row))), some (zi (n + (m_sin P (m_slot P k) (m_cells P k (m_lend P (m_count P) (P 14 + row)))))), some (zi k)]) e_X5_markOf_72 rfl rfl rfl ?_
        refine z_iinc (y := (k + 1)) (ls' := [some (zo o), some (zi row), some (zi col), some (zi (m_count P)), some (zi ((P 14) + row)), some (zi (m_lbeg P (m_count P) (m_lno P (m_count P) (P 14 + row)))), some (zi (m_lend P (m_count P) (P 14 + row))), some (zi (n + (m_sin P (m_slot P k) (m_cells P k (m_lend P (m_count P) (P 14 + row)))))), some (zi (k + 1))]) e_X5_markOf_74 rfl rfl rfl rfl rfl ?_
        refine z_goto e_X5_markOf_77 ?_
        exact ih44 _ (by omega) (n + (m_sin P (m_slot P k) (m_cells P k (m_lend P (m_count P) (P 14 + row))))) (k + 1) rfl (⟨by omega, by omega, by rw [hn, show k + 1 - (m_lbeg P (m_count P) (m_lno P (m_count P) (P 14 + row))) = (k - (m_lbeg P (m_count P) (m_lno P (m_count P) (P 14 + row)))) + 1 by omega]; unfold m_sgn; rw [n_sum_s _ (by omega), show (m_lbeg P (m_count P) (m_lno P (m_count P) (P 14 + row))) + (k - (m_lbeg P (m_count P) (m_lno P (m_count P) (P 14 + row)))) = k by omega]; rfl⟩)
  exact loop44 _ 0 (m_lbeg P (m_count P) (m_lno P (m_count P) (P 14 + row))) rfl (⟨by omega, by omega, by rw [show ((m_lbeg P (m_count P) (m_lno P (m_count P) (P 14 + row))) - (m_lbeg P (m_count P) (m_lno P (m_count P) (P 14 + row)))).toNat = 0 by omega]; rfl⟩)
set_option maxHeartbeats 1000000 in
set_option maxRecDepth 100000 in
theorem c_X5_rowOf {E : z_E} {mi : z_Mi} {mr : z_Mr} {o : Nat} {P : Int → Int} {w : Int} (hM : z_MO E mr o) (hH : p_hd P) (h0 : 0 ≤ w) (h1 : w ≤ P 7) : z_mi M_X5_rowOf E [zo o, zi w] (z_u mi (o + 1) P) mr (fun x m r => x = m_row P w ∧ m = z_u mi (o + 1) P ∧ r = mr) := by
  obtain ⟨t0, t1, t2, t3, t4, t5, t6, t7, q0, q2, q3, q4, q5, q6, q7⟩ := id hM
  obtain ⟨hw0, hw1, hh0, hh1, hf0, hf1, hf2, hr0, hr1, hc0, hc1, hp0, hp1, hk0, hk1, hi0, hi1, hkp, hP⟩ := id hH
  refine z_ofi (ls := [some (zo o), some (zi w)]) rfl (fun _ _ => trivial) ⟨rfl, rfl⟩ (Nat.le_of_ble_eq_true rfl) rfl ?_
  refine z_iload_n e_X5_rowOf_0 rfl ?_
  refine z_if_ne e_X5_rowOf_1 ⟨by omega, by omega⟩ (fun h1_1 => ?_) (fun h1_1 => ?_)
  · refine z_aload_n e_X5_rowOf_13 rfl ?_
    refine z_getr (fi := 0) (r := some (o + 1)) e_X5_rowOf_14 f_RX5_7 t0 rfl rfl (q0) ?_
    refine z_bipush e_X5_rowOf_17 (by decide +kernel) ?_
    refine z_iconst e_X5_rowOf_19 ?_
    refine z_aload_n e_X5_rowOf_20 rfl ?_
    refine z_getr (fi := 0) (r := some (o + 1)) e_X5_rowOf_21 f_RX5_7 t0 rfl rfl (q0) ?_
    refine z_bipush e_X5_rowOf_24 (by decide +kernel) ?_
    refine z_iald (x := (P 7)) e_X5_rowOf_26 t1 (by decide) (by decide) (by decide) (congrFun (z_us _ _ _) _) ?_
    refine z_iload_n e_X5_rowOf_27 rfl ?_
    refine z_isub e_X5_rowOf_28 ?_
    refine z_imul e_X5_rowOf_29 ?_
    refine z_iadd e_X5_rowOf_30 ?_
    refine z_iald (x := (P (8 + (2 * ((P 7) - w))))) e_X5_rowOf_31 t1 (by decide) (by omega) (by omega) (congrFun (z_us _ _ _) _) ?_
    refine z_iret e_X5_rowOf_32 (Or.inl rfl) rfl rfl ⟨rfl, _, rfl, ?_⟩
    exact ⟨(if_neg (by assumption)).symm, rfl, rfl⟩
  · refine z_aload_n e_X5_rowOf_4 rfl ?_
    refine z_getr (fi := 0) (r := some (o + 1)) e_X5_rowOf_5 f_RX5_7 t0 rfl rfl (q0) ?_
    refine z_iconst e_X5_rowOf_8 ?_
    refine z_iald (x := (P 4)) e_X5_rowOf_9 t1 (by decide) (by decide) (by decide) (congrFun (z_us _ _ _) _) ?_
    refine z_goto e_X5_rowOf_10 ?_
    refine z_iret e_X5_rowOf_32 (Or.inl rfl) rfl rfl ⟨rfl, _, rfl, ?_⟩
    exact ⟨(if_pos (by assumption)).symm, rfl, rfl⟩
set_option maxHeartbeats 1000000 in
set_option maxRecDepth 100000 in
theorem c_X5_columnOf {E : z_E} {mi : z_Mi} {mr : z_Mr} {o : Nat} {P : Int → Int} {w : Int} (hM : z_MO E mr o) (hH : p_hd P) (h0 : 0 ≤ w) (h1 : w ≤ P 7) : z_mi M_X5_columnOf E [zo o, zi w] (z_u mi (o + 1) P) mr (fun x m r => x = m_col P w ∧ m = z_u mi (o + 1) P ∧ r = mr) := by
  obtain ⟨t0, t1, t2, t3, t4, t5, t6, t7, q0, q2, q3, q4, q5, q6, q7⟩ := id hM
  obtain ⟨hw0, hw1, hh0, hh1, hf0, hf1, hf2, hr0, hr1, hc0, hc1, hp0, hp1, hk0, hk1, hi0, hi1, hkp, hP⟩ := id hH
  refine z_ofi (ls := [some (zo o), some (zi w)]) rfl (fun _ _ => trivial) ⟨rfl, rfl⟩ (Nat.le_of_ble_eq_true rfl) rfl ?_
  refine z_iload_n e_X5_columnOf_0 rfl ?_
  refine z_if_ne e_X5_columnOf_1 ⟨by omega, by omega⟩ (fun h1_1 => ?_) (fun h1_1 => ?_)
  · refine z_aload_n e_X5_columnOf_13 rfl ?_
    refine z_getr (fi := 0) (r := some (o + 1)) e_X5_columnOf_14 f_RX5_7 t0 rfl rfl (q0) ?_
    refine z_bipush e_X5_columnOf_17 (by decide +kernel) ?_
    refine z_iconst e_X5_columnOf_19 ?_
    refine z_aload_n e_X5_columnOf_20 rfl ?_
    refine z_getr (fi := 0) (r := some (o + 1)) e_X5_columnOf_21 f_RX5_7 t0 rfl rfl (q0) ?_
    refine z_bipush e_X5_columnOf_24 (by decide +kernel) ?_
    refine z_iald (x := (P 7)) e_X5_columnOf_26 t1 (by decide) (by decide) (by decide) (congrFun (z_us _ _ _) _) ?_
    refine z_iload_n e_X5_columnOf_27 rfl ?_
    refine z_isub e_X5_columnOf_28 ?_
    refine z_imul e_X5_columnOf_29 ?_
    refine z_iadd e_X5_columnOf_30 ?_
    refine z_iconst e_X5_columnOf_31 ?_
    refine z_iadd e_X5_columnOf_32 ?_
    refine z_iald (x := (P ((8 + (2 * ((P 7) - w))) + 1))) e_X5_columnOf_33 t1 (by decide) (by omega) (by omega) (congrFun (z_us _ _ _) _) ?_
    refine z_iret e_X5_columnOf_34 (Or.inl rfl) rfl rfl ⟨rfl, _, rfl, ?_⟩
    exact ⟨(if_neg (by assumption)).symm, rfl, rfl⟩
  · refine z_aload_n e_X5_columnOf_4 rfl ?_
    refine z_getr (fi := 0) (r := some (o + 1)) e_X5_columnOf_5 f_RX5_7 t0 rfl rfl (q0) ?_
    refine z_iconst e_X5_columnOf_8 ?_
    refine z_iald (x := (P 5)) e_X5_columnOf_9 t1 (by decide) (by decide) (by decide) (congrFun (z_us _ _ _) _) ?_
    refine z_goto e_X5_columnOf_10 ?_
    refine z_iret e_X5_columnOf_34 (Or.inl rfl) rfl rfl ⟨rfl, _, rfl, ?_⟩
    exact ⟨(if_pos (by assumption)).symm, rfl, rfl⟩
set_option maxHeartbeats 1000000 in
set_option maxRecDepth 100000 in
theorem c_X5_cursorOf {E : z_E} {mi : z_Mi} {mr : z_Mr} {o : Nat} {P : Int → Int} {w what : Int} (hM : z_MO E mr o) (hH : p_hd P) (h0 : 0 ≤ w) (h1 : w ≤ P 7) (h2 : z_R what) : z_mi M_X5_cursorOf E [zo o, zi w, zi what] (z_u mi (o + 1) P) mr (fun x m r => x = m_cur P w (if what < 0 ∨ 2 < what then 3 else what) ∧ m = z_u mi (o + 1) P ∧ r = mr) := by
  obtain ⟨t0, t1, t2, t3, t4, t5, t6, t7, q0, q2, q3, q4, q5, q6, q7⟩ := id hM
  obtain ⟨hw0, hw1, hh0, hh1, hf0, hf1, hf2, hr0, hr1, hc0, hc1, hp0, hp1, hk0, hk1, hi0, hi1, hkp, hP⟩ := id hH
  have hrb := m_row_b hH h0 h1
  have hlb := m_last_b hH
  have hcn : m_count P = P 14 + m_last P + 1 := rfl
  refine z_ofi (ls := [some (zo o), some (zi w), some (zi what), none]) rfl (fun _ _ => trivial) ⟨rfl, rfl⟩ (Nat.le_of_ble_eq_true rfl) rfl ?_
  have join29_0 : ∀ (col : Int), col = m_pcol P w → z_A M_X5_cursorOf E 0 0 29 [some (zo o), some (zi w), some (zi what), none] [zi col] (z_u mi (o + 1) P) mr (z_qi E (fun x m r => x = m_cur P w (if what < 0 ∨ 2 < what then 3 else what) ∧ m = z_u mi (o + 1) P ∧ r = mr)) := by
    intro col hj
    have hcol := hj
    have hcb2 : 0 ≤ col ∧ col ≤ P 0 := by rw [hj]; unfold m_pcol; split <;> omega
    refine z_istore_n (ls' := [some (zo o), some (zi w), some (zi what), some (zi col)]) e_X5_cursorOf_29 rfl rfl rfl ?_
    refine z_iload_n e_X5_cursorOf_30 rfl ?_
    by_cases hs31_2 : what < 0 ∨ 2 < what
    · refine z_tsOut (tgt := 78) e_X5_cursorOf_31 ⟨by omega, by omega⟩ hs31_2 rfl ?_
      refine z_aload_n e_X5_cursorOf_78 rfl ?_
      refine z_aload_n e_X5_cursorOf_79 rfl ?_
      refine z_iload_n e_X5_cursorOf_80 rfl ?_
      refine z_callVi (M' := M_X5_rowOf) (As := [zi w]) (rest := [zo o]) e_X5_cursorOf_81 l_RX5_171 rfl rfl rfl rfl t0 ⟨_, _, rfl⟩ (c_X5_rowOf hM hH (by omega) (by omega)) (fun xq mq rq hq => ?_)
      obtain ⟨e1q, e2q, e3q⟩ := hq
      subst xq mq rq
      refine z_iload_n e_X5_cursorOf_84 rfl ?_
      refine z_callVi (M' := M_X5_markOf) (As := [zi (m_row P w), zi col]) (rest := []) e_X5_cursorOf_85 l_RX5_174 rfl rfl rfl rfl t0 ⟨_, _, rfl⟩ (c_X5_markOf hM hH (by omega) (by omega) (by omega) (by omega)) (fun xq mq rq hq => ?_)
      obtain ⟨e1q, e2q, e3q⟩ := hq
      subst xq mq rq
      refine z_iret e_X5_cursorOf_88 (Or.inl rfl) rfl rfl ⟨rfl, _, rfl, ?_⟩
      refine ⟨?_, rfl, rfl⟩
      try rw [hcol]
      unfold m_cur
      grind
    · rcases (show what = 0 ∨ what = 1 ∨ what = 2 by omega) with hs31_2 | hs31_2 | hs31_2
      · refine z_tsIn (off := 25) (tgt := 56) e_X5_cursorOf_31 ⟨by omega, by omega⟩ (by omega) (by omega) (by rw [hs31_2]; rfl) rfl ?_
        refine z_aload_n e_X5_cursorOf_56 rfl ?_
        refine z_iload_n e_X5_cursorOf_57 rfl ?_
        refine z_callVi (M' := M_X5_rowOf) (As := [zi w]) (rest := []) e_X5_cursorOf_58 l_RX5_171 rfl rfl rfl rfl t0 ⟨_, _, rfl⟩ (c_X5_rowOf hM hH (by omega) (by omega)) (fun xq mq rq hq => ?_)
        obtain ⟨e1q, e2q, e3q⟩ := hq
        subst xq mq rq
        refine z_iret e_X5_cursorOf_61 (Or.inl rfl) rfl rfl ⟨rfl, _, rfl, ?_⟩
        refine ⟨?_, rfl, rfl⟩
        try rw [hcol]
        unfold m_cur
        grind
      · refine z_tsIn (off := 31) (tgt := 62) e_X5_cursorOf_31 ⟨by omega, by omega⟩ (by omega) (by omega) (by rw [hs31_2]; rfl) rfl ?_
        refine z_aload_n e_X5_cursorOf_62 rfl ?_
        refine z_iload_n e_X5_cursorOf_63 rfl ?_
        refine z_callVi (M' := M_X5_columnOf) (As := [zi w]) (rest := []) e_X5_cursorOf_64 l_RX5_168 rfl rfl rfl rfl t0 ⟨_, _, rfl⟩ (c_X5_columnOf hM hH (by omega) (by omega)) (fun xq mq rq hq => ?_)
        obtain ⟨e1q, e2q, e3q⟩ := hq
        subst xq mq rq
        refine z_iret e_X5_cursorOf_67 (Or.inl rfl) rfl rfl ⟨rfl, _, rfl, ?_⟩
        refine ⟨?_, rfl, rfl⟩
        try rw [hcol]
        unfold m_cur
        grind
      · refine z_tsIn (off := 37) (tgt := 68) e_X5_cursorOf_31 ⟨by omega, by omega⟩ (by omega) (by omega) (by rw [hs31_2]; rfl) rfl ?_
        refine z_aload_n e_X5_cursorOf_68 rfl ?_
        refine z_aload_n e_X5_cursorOf_69 rfl ?_
        refine z_iload_n e_X5_cursorOf_70 rfl ?_
        refine z_callVi (M' := M_X5_rowOf) (As := [zi w]) (rest := [zo o]) e_X5_cursorOf_71 l_RX5_171 rfl rfl rfl rfl t0 ⟨_, _, rfl⟩ (c_X5_rowOf hM hH (by omega) (by omega)) (fun xq mq rq hq => ?_)
        obtain ⟨e1q, e2q, e3q⟩ := hq
        subst xq mq rq
        refine z_callVi (M' := M_X5_lineAt) (As := [zi (m_row P w)]) (rest := []) e_X5_cursorOf_74 l_RX5_165 rfl rfl rfl rfl t0 ⟨_, _, rfl⟩ (c_X5_lineAt hM hH (by omega) (by omega)) (fun xq mq rq hq => ?_)
        obtain ⟨e1q, e2q, e3q⟩ := hq
        subst xq mq rq
        have hnob := m_lno_b P (m_count P) (P 14 + (m_row P w)) (by omega)
        refine z_iret e_X5_cursorOf_77 (Or.inl rfl) rfl rfl ⟨rfl, _, rfl, ?_⟩
        refine ⟨?_, rfl, rfl⟩
        try rw [hcol]
        unfold m_cur
        grind
  refine z_iload_n e_X5_cursorOf_0 rfl ?_
  refine z_if_ne e_X5_cursorOf_1 ⟨by omega, by omega⟩ (fun h1_3 => ?_) (fun h1_3 => ?_)
  · refine z_aload_n e_X5_cursorOf_24 rfl ?_
    refine z_iload_n e_X5_cursorOf_25 rfl ?_
    refine z_callVi (M' := M_X5_columnOf) (As := [zi w]) (rest := []) e_X5_cursorOf_26 l_RX5_168 rfl rfl rfl rfl t0 ⟨_, _, rfl⟩ (c_X5_columnOf hM hH (by omega) (by omega)) (fun xq mq rq hq => ?_)
    obtain ⟨e1q, e2q, e3q⟩ := hq
    subst xq mq rq
    exact join29_0 (m_col P w) ((if_neg (by rintro ⟨h8, h9⟩; first | exact absurd h8 (by assumption) | exact absurd h9 (by assumption))).symm)
  · refine z_aload_n e_X5_cursorOf_4 rfl ?_
    refine z_getr (fi := 0) (r := some (o + 1)) e_X5_cursorOf_5 f_RX5_7 t0 rfl rfl (q0) ?_
    refine z_bipush e_X5_cursorOf_8 (by decide +kernel) ?_
    refine z_iald (x := (P 6)) e_X5_cursorOf_10 t1 (by decide) (by decide) (by decide) (congrFun (z_us _ _ _) _) ?_
    refine z_iconst e_X5_cursorOf_11 ?_
    refine z_icmp_ne e_X5_cursorOf_12 ⟨by omega, by omega⟩ (by decide) (fun h12_4 => ?_) (fun h12_4 => ?_)
    · refine z_aload_n e_X5_cursorOf_24 rfl ?_
      refine z_iload_n e_X5_cursorOf_25 rfl ?_
      refine z_callVi (M' := M_X5_columnOf) (As := [zi w]) (rest := []) e_X5_cursorOf_26 l_RX5_168 rfl rfl rfl rfl t0 ⟨_, _, rfl⟩ (c_X5_columnOf hM hH (by omega) (by omega)) (fun xq mq rq hq => ?_)
      obtain ⟨e1q, e2q, e3q⟩ := hq
      subst xq mq rq
      exact join29_0 (m_col P w) ((if_neg (by rintro ⟨h8, h9⟩; first | exact absurd h8 (by assumption) | exact absurd h9 (by assumption))).symm)
    · refine z_aload_n e_X5_cursorOf_15 rfl ?_
      refine z_getr (fi := 0) (r := some (o + 1)) e_X5_cursorOf_16 f_RX5_7 t0 rfl rfl (q0) ?_
      refine z_iconst e_X5_cursorOf_19 ?_
      refine z_iald (x := (P 0)) e_X5_cursorOf_20 t1 (by decide) (by decide) (by decide) (congrFun (z_us _ _ _) _) ?_
      refine z_goto e_X5_cursorOf_21 ?_
      exact join29_0 (P 0) ((if_pos ⟨by assumption, by assumption⟩).symm)
set_option maxHeartbeats 1000000 in
set_option maxRecDepth 100000 in
theorem c_X5_cursor {E : z_E} {mi : z_Mi} {mr : z_Mr} {o : Nat} {P : Int → Int} {w what : Int} (hM : z_MO E mr o) (hH : p_hd P) (hz1 : z_R w) (hz2 : z_R what) : z_mi M_X5_cursor E [zo o, zi w, zi what] (z_u mi (o + 1) P) mr (fun x m r => x = m_curA P w what ∧ m = z_u mi (o + 1) P ∧ r = mr) := by
  obtain ⟨t0, t1, t2, t3, t4, t5, t6, t7, q0, q2, q3, q4, q5, q6, q7⟩ := id hM
  obtain ⟨hw0, hw1, hh0, hh1, hf0, hf1, hf2, hr0, hr1, hc0, hc1, hp0, hp1, hk0, hk1, hi0, hi1, hkp, hP⟩ := id hH
  refine z_ofi (ls := [some (zo o), some (zi w), some (zi what)]) rfl (fun _ _ => trivial) ⟨rfl, rfl⟩ (Nat.le_of_ble_eq_true rfl) rfl ?_
  refine z_iload_n e_X5_cursor_0 rfl ?_
  refine z_iconst e_X5_cursor_1 ?_
  refine z_iconst e_X5_cursor_2 ?_
  refine z_callSi (M' := M_X5_in) (As := [zi w, zi 0, zi 3]) (rest := []) e_X5_cursor_3 l_RX5_47 rfl rfl rfl rfl (c_X5_in ⟨by omega, by omega⟩ ⟨by omega, by omega⟩ ⟨by omega, by omega⟩) (fun xq mq rq hq => ?_)
  obtain ⟨e1q, e2q, e3q⟩ := hq
  subst xq mq rq
  refine z_if_eqB e_X5_cursor_6  (fun h6_1 => ?_) (fun h6_1 => ?_)
  · refine z_iconst e_X5_cursor_18 ?_
    refine z_iret e_X5_cursor_19 (Or.inl rfl) rfl rfl ⟨rfl, _, rfl, ?_⟩
    refine ⟨?_, rfl, rfl⟩
    unfold m_curA
    rw [if_pos (by omega)]
  · refine z_iload_n e_X5_cursor_9 rfl ?_
    refine z_iconst e_X5_cursor_10 ?_
    refine z_iconst e_X5_cursor_11 ?_
    refine z_callSi (M' := M_X5_in) (As := [zi what, zi 0, zi 3]) (rest := []) e_X5_cursor_12 l_RX5_47 rfl rfl rfl rfl (c_X5_in ⟨by omega, by omega⟩ ⟨by omega, by omega⟩ ⟨by omega, by omega⟩) (fun xq mq rq hq => ?_)
    obtain ⟨e1q, e2q, e3q⟩ := hq
    subst xq mq rq
    refine z_if_neB e_X5_cursor_15  (fun h15_2 => ?_) (fun h15_2 => ?_)
    · refine z_iload_n e_X5_cursor_20 rfl ?_
      refine z_aload_n e_X5_cursor_21 rfl ?_
      refine z_getr (fi := 0) (r := some (o + 1)) e_X5_cursor_22 f_RX5_7 t0 rfl rfl (q0) ?_
      refine z_bipush e_X5_cursor_25 (by decide +kernel) ?_
      refine z_iald (x := (P 7)) e_X5_cursor_27 t1 (by decide) (by decide) (by decide) (congrFun (z_us _ _ _) _) ?_
      refine z_icmp_gt e_X5_cursor_28 ⟨by omega, by omega⟩ ⟨by omega, by omega⟩ (fun h28_3 => ?_) (fun h28_3 => ?_)
      · refine z_bipush e_X5_cursor_40 (by decide +kernel) ?_
        refine z_iret e_X5_cursor_42 (Or.inl rfl) rfl rfl ⟨rfl, _, rfl, ?_⟩
        refine ⟨?_, rfl, rfl⟩
        unfold m_curA
        rw [if_neg (by omega), if_neg (by omega)]
      · refine z_aload_n e_X5_cursor_31 rfl ?_
        refine z_iload_n e_X5_cursor_32 rfl ?_
        refine z_iload_n e_X5_cursor_33 rfl ?_
        refine z_callVi (M' := M_X5_cursorOf) (As := [zi w, zi what]) (rest := []) e_X5_cursor_34 l_RX5_177 rfl rfl rfl rfl t0 ⟨_, _, rfl⟩ (c_X5_cursorOf hM hH (by omega) (by omega) ⟨by omega, by omega⟩) (fun xq mq rq hq => ?_)
        obtain ⟨e1q, e2q, e3q⟩ := hq
        subst xq mq rq
        refine z_goto e_X5_cursor_37 ?_
        refine z_iret e_X5_cursor_42 (Or.inl rfl) rfl rfl ⟨rfl, _, rfl, ?_⟩
        refine ⟨?_, rfl, rfl⟩
        rw [show (if what < 0 ∨ 2 < what then (3:Int) else what) = what by split <;> omega]
        unfold m_curA
        rw [if_neg (by omega), if_pos (by omega)]
    · refine z_iconst e_X5_cursor_18 ?_
      refine z_iret e_X5_cursor_19 (Or.inl rfl) rfl rfl ⟨rfl, _, rfl, ?_⟩
      refine ⟨?_, rfl, rfl⟩
      unfold m_curA
      rw [if_pos (by omega)]
set_option maxHeartbeats 1000000 in
set_option maxRecDepth 100000 in
theorem c_X5_cell {E : z_E} {mi : z_Mi} {mr : z_Mr} {o : Nat} {P : Int → Int} {row c : Int} (hM : z_MO E mr o) (hH : p_hd P) (hz1 : z_R row) (hz2 : z_R c) : z_mi M_X5_cell E [zo o, zi row, zi c] (z_u mi (o + 1) P) mr (fun x m r => x = m_cellA P row c ∧ m = z_u mi (o + 1) P ∧ r = mr) := by
  obtain ⟨t0, t1, t2, t3, t4, t5, t6, t7, q0, q2, q3, q4, q5, q6, q7⟩ := id hM
  obtain ⟨hw0, hw1, hh0, hh1, hf0, hf1, hf2, hr0, hr1, hc0, hc1, hp0, hp1, hk0, hk1, hi0, hi1, hkp, hP⟩ := id hH
  refine z_ofi (ls := [some (zo o), some (zi row), some (zi c), none]) rfl (fun _ _ => trivial) ⟨rfl, rfl⟩ (Nat.le_of_ble_eq_true rfl) rfl ?_
  refine z_aload_n e_X5_cell_0 rfl ?_
  refine z_iload_n e_X5_cell_1 rfl ?_
  refine z_callVi (M' := M_X5_isRow) (As := [zi row]) (rest := []) e_X5_cell_2 l_RX5_105 rfl rfl rfl rfl t0 ⟨_, _, rfl⟩ (c_X5_isRow hM hH ⟨by omega, by omega⟩) (fun xq mq rq hq => ?_)
  obtain ⟨e1q, e2q, e3q⟩ := hq
  subst xq mq rq
  refine z_if_eqB e_X5_cell_5  (fun h5_1 => ?_) (fun h5_1 => ?_)
  · refine z_iconst e_X5_cell_16 ?_
    refine z_iret e_X5_cell_17 (Or.inl rfl) rfl rfl ⟨rfl, _, rfl, ?_⟩
    refine ⟨?_, rfl, rfl⟩
    unfold m_cellA
    rw [if_pos (by omega)]
  · refine z_aload_n e_X5_cell_8 rfl ?_
    refine z_iload_n e_X5_cell_9 rfl ?_
    refine z_callVi (M' := M_X5_isColumn) (As := [zi c]) (rest := []) e_X5_cell_10 l_RX5_108 rfl rfl rfl rfl t0 ⟨_, _, rfl⟩ (c_X5_isColumn hM hH ⟨by omega, by omega⟩) (fun xq mq rq hq => ?_)
    obtain ⟨e1q, e2q, e3q⟩ := hq
    subst xq mq rq
    refine z_if_neB e_X5_cell_13  (fun h13_2 => ?_) (fun h13_2 => ?_)
    · refine z_aload_n e_X5_cell_18 rfl ?_
      refine z_bipush e_X5_cell_19 (by decide +kernel) ?_
      refine z_iload_n e_X5_cell_21 rfl ?_
      refine z_iadd e_X5_cell_22 ?_
      refine z_iload_n e_X5_cell_23 rfl ?_
      refine z_callVi (M' := M_X5_code) (As := [zi (24 + row), zi c]) (rest := []) e_X5_cell_24 l_RX5_51 rfl rfl rfl rfl t0 ⟨_, _, rfl⟩ (c_X5_code hM (by omega) (by omega)) (fun xq mq rq hq => ?_)
      obtain ⟨e1q, e2q, e3q⟩ := hq
      subst xq mq rq
      have hbq := hP (15 + 22 * (24 + row) + c)
      refine z_istore_n (ls' := [some (zo o), some (zi row), some (zi c), some (zi (P (15 + 22 * (24 + row) + c)))]) e_X5_cell_27 rfl rfl rfl ?_
      refine z_iload_n e_X5_cell_28 rfl ?_
      refine z_callSi (M' := M_X5_isRight) (As := [zi (P (15 + 22 * (24 + row) + c))]) (rest := []) e_X5_cell_29 l_RX5_54 rfl rfl rfl rfl (c_X5_isRight ⟨by omega, by omega⟩) (fun xq mq rq hq => ?_)
      obtain ⟨e1q, e2q, e3q⟩ := hq
      subst xq mq rq
      refine z_if_eqB e_X5_cell_32  (fun h32_3 => ?_) (fun h32_3 => ?_)
      · refine z_iload_n e_X5_cell_43 rfl ?_
        refine z_iret e_X5_cell_44 (Or.inl rfl) rfl rfl ⟨rfl, _, rfl, ?_⟩
        refine ⟨?_, rfl, rfl⟩
        unfold m_cellA
        rw [if_neg (by omega), if_neg (by assumption)]
      · refine z_iload_n e_X5_cell_35 rfl ?_
        refine z_sipush e_X5_cell_36 (by decide +kernel) ?_
        refine z_isub e_X5_cell_39 ?_
        refine z_goto e_X5_cell_40 ?_
        refine z_iret e_X5_cell_44 (Or.inl rfl) rfl rfl ⟨rfl, _, rfl, ?_⟩
        refine ⟨?_, rfl, rfl⟩
        unfold m_cellA
        rw [if_neg (by omega), if_pos (by assumption)]
    · refine z_iconst e_X5_cell_16 ?_
      refine z_iret e_X5_cell_17 (Or.inl rfl) rfl rfl ⟨rfl, _, rfl, ?_⟩
      refine ⟨?_, rfl, rfl⟩
      unfold m_cellA
      rw [if_pos (by omega)]
set_option maxHeartbeats 1000000 in
set_option maxRecDepth 100000 in
theorem c_X5_signsFilled {E : z_E} {mi : z_Mi} {mr : z_Mr} {o : Nat} {P : Int → Int} {s : Int} (hM : z_MO E mr o) (hH : p_hd P) (h0 : 0 ≤ s) (h1 : s ≤ 31) : z_mi M_X5_signsFilled E [zo o, zi s] (z_u mi (o + 1) P) mr (fun x m r => x = m_sfill P s ∧ m = z_u mi (o + 1) P ∧ r = mr) := by
  obtain ⟨t0, t1, t2, t3, t4, t5, t6, t7, q0, q2, q3, q4, q5, q6, q7⟩ := id hM
  obtain ⟨hw0, hw1, hh0, hh1, hf0, hf1, hf2, hr0, hr1, hc0, hc1, hp0, hp1, hk0, hk1, hi0, hi1, hkp, hP⟩ := id hH
  refine z_ofi (ls := [some (zo o), some (zi s), none, none]) rfl (fun _ _ => trivial) ⟨rfl, rfl⟩ (Nat.le_of_ble_eq_true rfl) rfl ?_
  refine z_iconst e_X5_signsFilled_0 ?_
  refine z_istore_n (ls' := [some (zo o), some (zi s), some (zi 0), none]) e_X5_signsFilled_1 rfl rfl rfl ?_
  refine z_iconst e_X5_signsFilled_2 ?_
  refine z_istore_n (ls' := [some (zo o), some (zi s), some (zi 0), some (zi 0)]) e_X5_signsFilled_3 rfl rfl rfl ?_
  have loop4 : ∀ (nn : Nat) (n : Int) (c : Int), (P 0 - c).toNat = nn → (0 ≤ c ∧ c ≤ P 0 ∧ n = n_cnt (fun c => P (15 + 22 * s + c) ≠ 32 ∧ ¬ 128 ≤ P (15 + 22 * s + c)) c.toNat) → z_A M_X5_signsFilled E 0 0 4 [some (zo o), some (zi s), some (zi n), some (zi c)] [] (z_u mi (o + 1) P) mr (z_qi E (fun x m r => x = m_sfill P s ∧ m = z_u mi (o + 1) P ∧ r = mr)) := by
    intro nn
    induction nn using Nat.strongRecOn with
    | _ nn ih4 =>
      intro n c hmeas hinv
      obtain ⟨hl0, hl1, hn⟩ := hinv
      refine z_iload_n e_X5_signsFilled_4 rfl ?_
      refine z_aload_n e_X5_signsFilled_5 rfl ?_
      refine z_getr (fi := 0) (r := some (o + 1)) e_X5_signsFilled_6 f_RX5_7 t0 rfl rfl (q0) ?_
      refine z_iconst e_X5_signsFilled_9 ?_
      refine z_iald (x := (P 0)) e_X5_signsFilled_10 t1 (by decide) (by decide) (by decide) (congrFun (z_us _ _ _) _) ?_
      refine z_icmp_ge e_X5_signsFilled_11 ⟨by omega, by omega⟩ ⟨by omega, by omega⟩ (fun h11_1 => ?_) (fun h11_1 => ?_)
      · refine z_iload_n e_X5_signsFilled_51 rfl ?_
        refine z_iret e_X5_signsFilled_52 (Or.inl rfl) rfl rfl ⟨rfl, _, rfl, ?_⟩
        refine ⟨?_, rfl, rfl⟩
        rw [hn, show c = P 0 by omega]
        rfl
      · refine z_iload_n e_X5_signsFilled_14 rfl ?_
        refine z_aload_n e_X5_signsFilled_15 rfl ?_
        refine z_iload_n e_X5_signsFilled_16 rfl ?_
        refine z_iload_n e_X5_signsFilled_17 rfl ?_
        refine z_callVi (M' := M_X5_code) (As := [zi s, zi c]) (rest := [zi n]) e_X5_signsFilled_18 l_RX5_51 rfl rfl rfl rfl t0 ⟨_, _, rfl⟩ (c_X5_code hM (by omega) (by omega)) (fun xq mq rq hq => ?_)
        obtain ⟨e1q, e2q, e3q⟩ := hq
        subst xq mq rq
        have hbq := hP (15 + 22 * s + c)
        refine z_bipush e_X5_signsFilled_21 (by decide +kernel) ?_
        refine z_icmp_eq e_X5_signsFilled_23 ⟨by omega, by omega⟩ (by decide) (fun h23_2 => ?_) (fun h23_2 => ?_)
        · refine z_iconst e_X5_signsFilled_42 ?_
          refine z_iadd e_X5_signsFilled_43 ?_
          refine z_istore_n (ls' := [some (zo o), some (zi s), some (zi (n + 0)), some (zi c)]) e_X5_signsFilled_44 rfl rfl rfl ?_
          refine z_iinc (y := (c + 1)) (ls' := [some (zo o), some (zi s), some (zi (n + 0)), some (zi (c + 1))]) e_X5_signsFilled_45 rfl rfl rfl rfl rfl ?_
          refine z_goto e_X5_signsFilled_48 ?_
          exact ih4 _ (by omega) (n + 0) (c + 1) rfl (⟨by omega, by omega, by rw [n_cnt_s _ hl0, hn, if_neg (by omega)]⟩)
        · refine z_aload_n e_X5_signsFilled_26 rfl ?_
          refine z_iload_n e_X5_signsFilled_27 rfl ?_
          refine z_iload_n e_X5_signsFilled_28 rfl ?_
          refine z_callVi (M' := M_X5_code) (As := [zi s, zi c]) (rest := [zi n]) e_X5_signsFilled_29 l_RX5_51 rfl rfl rfl rfl t0 ⟨_, _, rfl⟩ (c_X5_code hM (by omega) (by omega)) (fun xq mq rq hq => ?_)
          obtain ⟨e1q, e2q, e3q⟩ := hq
          subst xq mq rq
          have hbq := hP (15 + 22 * s + c)
          refine z_callSi (M' := M_X5_isRight) (As := [zi (P (15 + 22 * s + c))]) (rest := [zi n]) e_X5_signsFilled_32 l_RX5_54 rfl rfl rfl rfl (c_X5_isRight ⟨by omega, by omega⟩) (fun xq mq rq hq => ?_)
          obtain ⟨e1q, e2q, e3q⟩ := hq
          subst xq mq rq
          refine z_if_neB e_X5_signsFilled_35  (fun h35_3 => ?_) (fun h35_3 => ?_)
          · refine z_iconst e_X5_signsFilled_42 ?_
            refine z_iadd e_X5_signsFilled_43 ?_
            refine z_istore_n (ls' := [some (zo o), some (zi s), some (zi (n + 0)), some (zi c)]) e_X5_signsFilled_44 rfl rfl rfl ?_
            refine z_iinc (y := (c + 1)) (ls' := [some (zo o), some (zi s), some (zi (n + 0)), some (zi (c + 1))]) e_X5_signsFilled_45 rfl rfl rfl rfl rfl ?_
            refine z_goto e_X5_signsFilled_48 ?_
            exact ih4 _ (by omega) (n + 0) (c + 1) rfl (⟨by omega, by omega, by rw [n_cnt_s _ hl0, hn, if_neg (by omega)]⟩)
          · refine z_iconst e_X5_signsFilled_38 ?_
            refine z_goto e_X5_signsFilled_39 ?_
            refine z_iadd e_X5_signsFilled_43 ?_
            refine z_istore_n (ls' := [some (zo o), some (zi s), some (zi (n + 1)), some (zi c)]) e_X5_signsFilled_44 rfl rfl rfl ?_
            refine z_iinc (y := (c + 1)) (ls' := [some (zo o), some (zi s), some (zi (n + 1)), some (zi (c + 1))]) e_X5_signsFilled_45 rfl rfl rfl rfl rfl ?_
            refine z_goto e_X5_signsFilled_48 ?_
            exact ih4 _ (by omega) (n + 1) (c + 1) rfl (⟨by omega, by omega, by rw [n_cnt_s _ hl0, hn, if_pos (by omega)]⟩)
  exact loop4 _ 0 0 rfl (⟨by omega, by omega, rfl⟩)
set_option maxHeartbeats 1000000 in
set_option maxRecDepth 100000 in
theorem c_X5_rowOfSlot {E : z_E} {mi : z_Mi} {mr : z_Mr} {o : Nat} {P : Int → Int} {s what : Int} (hM : z_MO E mr o) (hH : p_hd P) (h0 : 0 ≤ s) (h1 : s ≤ 31) (h2 : 0 ≤ what) (h3 : what ≤ 3) : z_mi M_X5_rowOfSlot E [zo o, zi s, zi what] (z_u mi (o + 1) P) mr (fun x m r => x = m_ros P s what ∧ m = z_u mi (o + 1) P ∧ r = mr) := by
  obtain ⟨t0, t1, t2, t3, t4, t5, t6, t7, q0, q2, q3, q4, q5, q6, q7⟩ := id hM
  obtain ⟨hw0, hw1, hh0, hh1, hf0, hf1, hf2, hr0, hr1, hc0, hc1, hp0, hp1, hk0, hk1, hi0, hi1, hkp, hP⟩ := id hH
  refine z_ofi (ls := [some (zo o), some (zi s), some (zi what)]) rfl (fun _ _ => trivial) ⟨rfl, rfl⟩ (Nat.le_of_ble_eq_true rfl) rfl ?_
  refine z_iload_n e_X5_rowOfSlot_0 rfl ?_
  refine z_iconst e_X5_rowOfSlot_1 ?_
  refine z_icmp_ge e_X5_rowOfSlot_2 ⟨by omega, by omega⟩ (by decide) (fun h2_1 => ?_) (fun h2_1 => ?_)
  · refine z_iload_n e_X5_rowOfSlot_21 rfl ?_
    refine z_iconst e_X5_rowOfSlot_22 ?_
    refine z_icmp_ne e_X5_rowOfSlot_23 ⟨by omega, by omega⟩ (by decide) (fun h23_2 => ?_) (fun h23_2 => ?_)
    · refine z_aload_n e_X5_rowOfSlot_34 rfl ?_
      refine z_iload_n e_X5_rowOfSlot_35 rfl ?_
      refine z_callVi (M' := M_X5_signsFilled) (As := [zi s]) (rest := []) e_X5_rowOfSlot_36 l_RX5_223 rfl rfl rfl rfl t0 ⟨_, _, rfl⟩ (c_X5_signsFilled hM hH (by omega) (by omega)) (fun xq mq rq hq => ?_)
      obtain ⟨e1q, e2q, e3q⟩ := hq
      subst xq mq rq
      refine z_iret e_X5_rowOfSlot_39 (Or.inl rfl) rfl rfl ⟨rfl, _, rfl, ?_⟩
      refine ⟨?_, rfl, rfl⟩
      unfold m_ros
      rw [if_neg (by omega), if_neg (by assumption)]
    · refine z_aload_n e_X5_rowOfSlot_26 rfl ?_
      refine z_iload_n e_X5_rowOfSlot_27 rfl ?_
      refine z_callVi (M' := M_X5_usedCells) (As := [zi s]) (rest := []) e_X5_rowOfSlot_28 l_RX5_143 rfl rfl rfl rfl t0 ⟨_, _, rfl⟩ (c_X5_usedCells hM (by omega) (by omega) (by omega) (by omega) hP) (fun xq mq rq hq => ?_)
      obtain ⟨e1q, e2q, e3q⟩ := hq
      subst xq mq rq
      have hub := m_used_b (P := P) (s := s) (by omega)
      refine z_goto e_X5_rowOfSlot_31 ?_
      refine z_iret e_X5_rowOfSlot_39 (Or.inl rfl) rfl rfl ⟨rfl, _, rfl, ?_⟩
      refine ⟨?_, rfl, rfl⟩
      unfold m_ros
      rw [if_neg (by omega), if_pos (by assumption)]
  · refine z_aload_n e_X5_rowOfSlot_5 rfl ?_
    refine z_getr (fi := 0) (r := some (o + 1)) e_X5_rowOfSlot_6 f_RX5_7 t0 rfl rfl (q0) ?_
    refine z_iload_n e_X5_rowOfSlot_9 rfl ?_
    refine z_bipush e_X5_rowOfSlot_10 (by decide +kernel) ?_
    refine z_iload_n e_X5_rowOfSlot_12 rfl ?_
    refine z_iadd e_X5_rowOfSlot_13 ?_
    refine z_callSi (M' := M_X5_at) (As := [zi s, zi (20 + what)]) (rest := [zo (o + 1)]) e_X5_rowOfSlot_14 l_RX5_40 rfl rfl rfl rfl (c_X5_at ) (fun xq mq rq hq => ?_)
    obtain ⟨e1q, e2q, e3q⟩ := hq
    subst xq mq rq
    refine z_iald (x := (P (15 + 22 * s + (20 + what)))) e_X5_rowOfSlot_17 t1 (by decide) (by omega) (by omega) (congrFun (z_us _ _ _) _) ?_
    refine z_goto e_X5_rowOfSlot_18 ?_
    refine z_iret e_X5_rowOfSlot_39 (Or.inl rfl) rfl rfl ⟨rfl, _, rfl, ?_⟩
    refine ⟨?_, rfl, rfl⟩
    unfold m_ros
    rw [if_pos (by omega)]
set_option maxHeartbeats 1000000 in
set_option maxRecDepth 100000 in
theorem c_X5_row {E : z_E} {mi : z_Mi} {mr : z_Mr} {o : Nat} {P : Int → Int} {row what : Int} (hM : z_MO E mr o) (hH : p_hd P) (hz1 : z_R row) (hz2 : z_R what) : z_mi M_X5_row E [zo o, zi row, zi what] (z_u mi (o + 1) P) mr (fun x m r => x = m_rowA P row what ∧ m = z_u mi (o + 1) P ∧ r = mr) := by
  obtain ⟨t0, t1, t2, t3, t4, t5, t6, t7, q0, q2, q3, q4, q5, q6, q7⟩ := id hM
  obtain ⟨hw0, hw1, hh0, hh1, hf0, hf1, hf2, hr0, hr1, hc0, hc1, hp0, hp1, hk0, hk1, hi0, hi1, hkp, hP⟩ := id hH
  refine z_ofi (ls := [some (zo o), some (zi row), some (zi what)]) rfl (fun _ _ => trivial) ⟨rfl, rfl⟩ (Nat.le_of_ble_eq_true rfl) rfl ?_
  refine z_iload_n e_X5_row_0 rfl ?_
  refine z_bipush e_X5_row_1 (by decide +kernel) ?_
  refine z_aload_n e_X5_row_3 rfl ?_
  refine z_getr (fi := 0) (r := some (o + 1)) e_X5_row_4 f_RX5_7 t0 rfl rfl (q0) ?_
  refine z_iconst e_X5_row_7 ?_
  refine z_iald (x := (P 1)) e_X5_row_8 t1 (by decide) (by decide) (by decide) (congrFun (z_us _ _ _) _) ?_
  refine z_iconst e_X5_row_9 ?_
  refine z_isub e_X5_row_10 ?_
  refine z_callSi (M' := M_X5_in) (As := [zi row, zi (-24), zi ((P 1) - 1)]) (rest := []) e_X5_row_11 l_RX5_47 rfl rfl rfl rfl (c_X5_in ⟨by omega, by omega⟩ ⟨by omega, by omega⟩ ⟨by omega, by omega⟩) (fun xq mq rq hq => ?_)
  obtain ⟨e1q, e2q, e3q⟩ := hq
  subst xq mq rq
  refine z_if_eqB e_X5_row_14  (fun h14_1 => ?_) (fun h14_1 => ?_)
  · refine z_iconst e_X5_row_26 ?_
    refine z_iret e_X5_row_27 (Or.inl rfl) rfl rfl ⟨rfl, _, rfl, ?_⟩
    refine ⟨?_, rfl, rfl⟩
    unfold m_rowA
    rw [if_pos (by omega)]
  · refine z_iload_n e_X5_row_17 rfl ?_
    refine z_iconst e_X5_row_18 ?_
    refine z_iconst e_X5_row_19 ?_
    refine z_callSi (M' := M_X5_in) (As := [zi what, zi 0, zi 3]) (rest := []) e_X5_row_20 l_RX5_47 rfl rfl rfl rfl (c_X5_in ⟨by omega, by omega⟩ ⟨by omega, by omega⟩ ⟨by omega, by omega⟩) (fun xq mq rq hq => ?_)
    obtain ⟨e1q, e2q, e3q⟩ := hq
    subst xq mq rq
    refine z_if_neB e_X5_row_23  (fun h23_2 => ?_) (fun h23_2 => ?_)
    · refine z_iload_n e_X5_row_28 rfl ?_
      refine z_aload_n e_X5_row_29 rfl ?_
      refine z_getr (fi := 0) (r := some (o + 1)) e_X5_row_30 f_RX5_7 t0 rfl rfl (q0) ?_
      refine z_bipush e_X5_row_33 (by decide +kernel) ?_
      refine z_iald (x := (P 14)) e_X5_row_35 t1 (by decide) (by decide) (by decide) (congrFun (z_us _ _ _) _) ?_
      refine z_ineg e_X5_row_36 ?_
      refine z_icmp_ge e_X5_row_37 ⟨by omega, by omega⟩ ⟨by omega, by omega⟩ (fun h37_3 => ?_) (fun h37_3 => ?_)
      · refine z_aload_n e_X5_row_43 rfl ?_
        refine z_iload_n e_X5_row_44 rfl ?_
        refine z_if_ge e_X5_row_45 ⟨by omega, by omega⟩ (fun h45_4 => ?_) (fun h45_4 => ?_)
        · refine z_bipush e_X5_row_60 (by decide +kernel) ?_
          refine z_iload_n e_X5_row_62 rfl ?_
          refine z_iadd e_X5_row_63 ?_
          refine z_iload_n e_X5_row_64 rfl ?_
          refine z_callVi (M' := M_X5_rowOfSlot) (As := [zi (24 + row), zi what]) (rest := []) e_X5_row_65 l_RX5_226 rfl rfl rfl rfl t0 ⟨_, _, rfl⟩ (c_X5_rowOfSlot hM hH (by omega) (by omega) (by omega) (by omega)) (fun xq mq rq hq => ?_)
          obtain ⟨e1q, e2q, e3q⟩ := hq
          subst xq mq rq
          refine z_iret e_X5_row_68 (Or.inl rfl) rfl rfl ⟨rfl, _, rfl, ?_⟩
          refine ⟨?_, rfl, rfl⟩
          unfold m_rowA
          rw [if_neg (by omega), if_neg (by omega)]
          congr 1
          first | rw [if_pos (by omega)] | rw [if_neg (by omega)]
        · refine z_aload_n e_X5_row_48 rfl ?_
          refine z_getr (fi := 0) (r := some (o + 1)) e_X5_row_49 f_RX5_7 t0 rfl rfl (q0) ?_
          refine z_bipush e_X5_row_52 (by decide +kernel) ?_
          refine z_iald (x := (P 14)) e_X5_row_54 t1 (by decide) (by decide) (by decide) (congrFun (z_us _ _ _) _) ?_
          refine z_iload_n e_X5_row_55 rfl ?_
          refine z_iadd e_X5_row_56 ?_
          refine z_goto e_X5_row_57 ?_
          refine z_iload_n e_X5_row_64 rfl ?_
          refine z_callVi (M' := M_X5_rowOfSlot) (As := [zi ((P 14) + row), zi what]) (rest := []) e_X5_row_65 l_RX5_226 rfl rfl rfl rfl t0 ⟨_, _, rfl⟩ (c_X5_rowOfSlot hM hH (by omega) (by omega) (by omega) (by omega)) (fun xq mq rq hq => ?_)
          obtain ⟨e1q, e2q, e3q⟩ := hq
          subst xq mq rq
          refine z_iret e_X5_row_68 (Or.inl rfl) rfl rfl ⟨rfl, _, rfl, ?_⟩
          refine ⟨?_, rfl, rfl⟩
          unfold m_rowA
          rw [if_neg (by omega), if_neg (by omega)]
          congr 1
          first | rw [if_pos (by omega)] | rw [if_neg (by omega)]
      · refine z_bipush e_X5_row_40 (by decide +kernel) ?_
        refine z_iret e_X5_row_42 (Or.inl rfl) rfl rfl ⟨rfl, _, rfl, ?_⟩
        refine ⟨?_, rfl, rfl⟩
        unfold m_rowA
        rw [if_neg (by omega), if_pos (by omega)]
    · refine z_iconst e_X5_row_26 ?_
      refine z_iret e_X5_row_27 (Or.inl rfl) rfl rfl ⟨rfl, _, rfl, ?_⟩
      refine ⟨?_, rfl, rfl⟩
      unfold m_rowA
      rw [if_pos (by omega)]
