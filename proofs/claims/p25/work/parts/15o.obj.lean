set_option maxHeartbeats 1000000 in
set_option maxRecDepth 100000 in
theorem c_X4_cell {E : z_E} {mi : z_Mi} {mr : z_Mr} {o : Nat} {P : Int → Int} {n nx : Int} {row c : Int} (hX : z_X E o mi mr P n nx) (hz1 : z_R row) (hz2 : z_R c) : z_mi M_X4_cell E [zo o, zi row, zi c] mi mr (fun x m r => x = m_cellA P row c ∧ m = mi ∧ r = mr) := by
  obtain ⟨⟨to, ta, tq, ro0, ro1, ro2, rok⟩, ⟨fo3, fo4, nb0, nb1, nb2, nb3⟩, hH, ⟨sg, hS⟩, hM⟩ := id hX
  obtain ⟨hc, hd, hr⟩ := id hS
  obtain ⟨t0, t1, t2, t3, t4, q0, q1, q2⟩ := id hc
  obtain ⟨d3, d4, d5, d6, d7, d8, u0, u1, u2, uk, uz⟩ := id hd
  obtain ⟨hw0, hw1, hh0, hh1, hf0, hf1, hf2, hr0, hr1, hc0, hc1, hp0, hp1, hk0, hk1, hi0, hi1, hkp, hP⟩ := id hH
  refine z_ofi (ls := [some (zo o), some (zi row), some (zi c)]) rfl (fun _ _ => trivial) ⟨rfl, rfl⟩ (Nat.le_of_ble_eq_true rfl) rfl ?_
  refine z_aload_n e_X4_cell_0 rfl ?_
  refine z_getr (fi := 0) (r := some (o + 1)) e_X4_cell_1 f_RX4_12 to rfl rfl (ro0) ?_
  refine z_iload_n e_X4_cell_4 rfl ?_
  refine z_iload_n e_X4_cell_5 rfl ?_
  refine z_callVi (M' := M_X3_hasCell) (As := [zi row, zi c]) (rest := []) e_X4_cell_6 l_RX4_52 rfl rfl rfl rfl t0 ⟨_, _, rfl⟩ (c_X3_hasCell ⟨hc, hd, hr⟩ hH hz1 hz2) (fun xq mq rq hq => ?_)
  obtain ⟨e1q, e2q, e3q⟩ := hq
  subst xq mq rq
  refine z_if_neB e_X4_cell_9  (fun h9_1 => ?_) (fun h9_1 => ?_)
  · refine z_aload_n e_X4_cell_14 rfl ?_
    refine z_getr (fi := 0) (r := some (o + 1)) e_X4_cell_15 f_RX4_12 to rfl rfl (ro0) ?_
    refine z_iload_n e_X4_cell_18 rfl ?_
    refine z_callVr (M' := M_X3_screenRow) (As := [zi row]) (rest := []) e_X4_cell_19 l_RX4_109 rfl rfl rfl rfl t0 ⟨_, _, rfl⟩ (d_X3_screenRow hc hd hr hH (by omega) (by omega)) (fun xq mq rq hq => ?_)
    obtain ⟨e1q, e2q, e3q⟩ := hq
    subst xq mq rq
    refine z_iload_n e_X4_cell_22 rfl ?_
    refine z_callVi (M' := M_X2_at) (As := [zi c]) (rest := []) e_X4_cell_23 l_RX4_145 rfl rfl rfl rfl (hr.1 (P 14 + row) (by omega) (by omega)).2.1.1 ⟨_, _, rfl⟩ (d_X2_at (hr.1 (P 14 + row) (by omega) (by omega)).2.1 hz2) (fun xq mq rq hq => ?_)
    obtain ⟨e1q, e2q, e3q⟩ := hq
    rw [c_rw_at (hr.2.2 (P 14 + row) (by omega) (by omega)).1 (by omega), if_pos ⟨by omega, by omega⟩, p_rows_scr (by omega)] at e1q
    replace e1q : xq = c_en (P (15 + 22 * (24 + row) + c)) := e1q
    subst xq mq rq
    have hPv := hP (15 + 22 * (24 + row) + c)
    have hcb : (128 ≤ (P (15 + 22 * (24 + row) + c)) ∧ c_en (P (15 + 22 * (24 + row) + c)) = 128 - (P (15 + 22 * (24 + row) + c))) ∨ (¬ 128 ≤ (P (15 + 22 * (24 + row) + c)) ∧ c_en (P (15 + 22 * (24 + row) + c)) = (P (15 + 22 * (24 + row) + c))) := by unfold c_en; split <;> omega
    refine z_abs (x := (if 0 ≤ (c_en (P (15 + 22 * (24 + row) + c))) then (c_en (P (15 + 22 * (24 + row) + c))) else 0 - (c_en (P (15 + 22 * (24 + row) + c))))) e_X4_cell_26 mm_RX4_148 rfl rfl ⟨by omega, by omega⟩ (rfl) ?_
    refine z_iret e_X4_cell_29 (Or.inl rfl) rfl rfl ⟨rfl, _, rfl, ?_⟩
    refine ⟨?_, rfl, rfl⟩
    unfold m_cellA
    (repeat' split) <;> omega
  · refine z_iconst e_X4_cell_12 ?_
    refine z_iret e_X4_cell_13 (Or.inl rfl) rfl rfl ⟨rfl, _, rfl, ?_⟩
    refine ⟨?_, rfl, rfl⟩
    unfold m_cellA
    (repeat' split) <;> omega
set_option maxHeartbeats 1000000 in
set_option maxRecDepth 100000 in
theorem c_X4_row {E : z_E} {mi : z_Mi} {mr : z_Mr} {o : Nat} {P : Int → Int} {n nx : Int} {row what : Int} (hX : z_X E o mi mr P n nx) (hz1 : z_R row) (hz2 : z_R what) : z_mi M_X4_row E [zo o, zi row, zi what] mi mr (fun x m r => x = m_rowA P row what ∧ m = mi ∧ r = mr) := by
  obtain ⟨⟨to, ta, tq, ro0, ro1, ro2, rok⟩, ⟨fo3, fo4, nb0, nb1, nb2, nb3⟩, hH, ⟨sg, hS⟩, hM⟩ := id hX
  obtain ⟨hc, hd, hr⟩ := id hS
  obtain ⟨t0, t1, t2, t3, t4, q0, q1, q2⟩ := id hc
  obtain ⟨d3, d4, d5, d6, d7, d8, u0, u1, u2, uk, uz⟩ := id hd
  obtain ⟨hw0, hw1, hh0, hh1, hf0, hf1, hf2, hr0, hr1, hc0, hc1, hp0, hp1, hk0, hk1, hi0, hi1, hkp, hP⟩ := id hH
  refine z_ofi (ls := [some (zo o), some (zi row), some (zi what), none]) rfl (fun _ _ => trivial) ⟨rfl, rfl⟩ (Nat.le_of_ble_eq_true rfl) rfl ?_
  refine z_iload_n e_X4_row_0 rfl ?_
  refine z_bipush e_X4_row_1 (by decide +kernel) ?_
  refine z_icmp_lt e_X4_row_3 ⟨by omega, by omega⟩ (by decide) (fun h3_1 => ?_) (fun h3_1 => ?_)
  · refine z_iconst e_X4_row_26 ?_
    refine z_iret e_X4_row_27 (Or.inl rfl) rfl rfl ⟨rfl, _, rfl, ?_⟩
    refine ⟨?_, rfl, rfl⟩
    unfold m_rowA
    rw [if_pos (by omega)]
  · refine z_iload_n e_X4_row_6 rfl ?_
    refine z_aload_n e_X4_row_7 rfl ?_
    refine z_getr (fi := 0) (r := some (o + 1)) e_X4_row_8 f_RX4_12 to rfl rfl (ro0) ?_
    refine z_geti (fi := 6) (x := (P 1)) e_X4_row_11 f_RX4_75 t0 rfl rfl (d6) ?_
    refine z_icmp_ge e_X4_row_14 ⟨by omega, by omega⟩ ⟨by omega, by omega⟩ (fun h14_2 => ?_) (fun h14_2 => ?_)
    · refine z_iconst e_X4_row_26 ?_
      refine z_iret e_X4_row_27 (Or.inl rfl) rfl rfl ⟨rfl, _, rfl, ?_⟩
      refine ⟨?_, rfl, rfl⟩
      unfold m_rowA
      rw [if_pos (by omega)]
    · refine z_iload_n e_X4_row_17 rfl ?_
      refine z_if_lt e_X4_row_18 ⟨by omega, by omega⟩ (fun h18_3 => ?_) (fun h18_3 => ?_)
      · refine z_iconst e_X4_row_26 ?_
        refine z_iret e_X4_row_27 (Or.inl rfl) rfl rfl ⟨rfl, _, rfl, ?_⟩
        refine ⟨?_, rfl, rfl⟩
        unfold m_rowA
        rw [if_pos (by omega)]
      · refine z_iload_n e_X4_row_21 rfl ?_
        refine z_iconst e_X4_row_22 ?_
        refine z_icmp_le e_X4_row_23 ⟨by omega, by omega⟩ (by decide) (fun h23_4 => ?_) (fun h23_4 => ?_)
        · refine z_iload_n e_X4_row_28 rfl ?_
          refine z_aload_n e_X4_row_29 rfl ?_
          refine z_getr (fi := 0) (r := some (o + 1)) e_X4_row_30 f_RX4_12 to rfl rfl (ro0) ?_
          refine z_geti (fi := 4) (x := (P 14)) e_X4_row_33 f_RX4_49 t0 rfl rfl (d4) ?_
          refine z_ineg e_X4_row_36 ?_
          refine z_icmp_ge e_X4_row_37 ⟨by omega, by omega⟩ ⟨by omega, by omega⟩ (fun h37_5 => ?_) (fun h37_5 => ?_)
          · refine z_aload_n e_X4_row_43 rfl ?_
            refine z_getr (fi := 0) (r := some (o + 1)) e_X4_row_44 f_RX4_12 to rfl rfl (ro0) ?_
            refine z_iload_n e_X4_row_47 rfl ?_
            refine z_callVr (M' := M_X3_screenRow) (As := [zi row]) (rest := []) e_X4_row_48 l_RX4_109 rfl rfl rfl rfl t0 ⟨_, _, rfl⟩ (d_X3_screenRow hc hd hr hH (by omega) (by omega)) (fun xq mq rq hq => ?_)
            obtain ⟨e1q, e2q, e3q⟩ := hq
            subst xq mq rq
            have hwf := (hr.2.2 (P 14 + row) (by omega) (by omega)).2.2
            refine z_astore_n (ls' := [some (zo o), some (zi row), some (zi what), some (zo (sg (P 14 + row)))]) e_X4_row_51 rfl rfl rfl ?_
            refine z_iload_n e_X4_row_52 rfl ?_
            by_cases hs53_6 : what < 0 ∨ 2 < what
            · refine z_tsOut (tgt := 111) e_X4_row_53 ⟨by omega, by omega⟩ hs53_6 rfl ?_
              refine z_aload_n e_X4_row_111 rfl ?_
              refine z_callVi (M' := M_X2_signs) (As := []) (rest := []) e_X4_row_112 l_RX4_160 rfl rfl rfl rfl (hr.1 (P 14 + row) (by omega) (by omega)).2.1.1 ⟨_, _, rfl⟩ (d_X2_signs (hr.1 (P 14 + row) (by omega) (by omega)).2.1 (hr.1 (P 14 + row) (by omega) (by omega)).2.2.2.2.1) (fun xq mq rq hq => ?_)
              obtain ⟨e1q, e2q, e3q⟩ := hq
              rw [c_sgs_eq (hr.2.2 (P 14 + row) (by omega) (by omega)).1 (hr.2.2 (P 14 + row) (by omega) (by omega)).2 (by omega) (by omega)] at e1q
              replace e1q : xq = m_sfill P (m_slot P (P 14 + row)) := e1q
              subst xq mq rq
              refine z_iret e_X4_row_115 (Or.inl rfl) rfl rfl ⟨rfl, _, rfl, ?_⟩
              refine ⟨?_, rfl, rfl⟩
              have hA : m_rowA P row what = m_ros P (m_slot P (P 14 + row)) what := by
                have hslot : (if row < 0 then P 14 + row else 24 + row) = m_slot P (P 14 + row) := by unfold m_slot; split <;> split <;> omega
                unfold m_rowA; rw [if_neg (by omega), if_neg (by omega), hslot]
              rw [hA]; unfold m_ros
              rw [if_neg (by omega), if_neg (by omega)]
            · rcases (show what = 0 ∨ what = 1 ∨ what = 2 by omega) with hs53_6 | hs53_6 | hs53_6
              · refine z_tsIn (off := 27) (tgt := 80) e_X4_row_53 ⟨by omega, by omega⟩ (by omega) (by omega) (by rw [hs53_6]; rfl) rfl ?_
                refine z_aload_n e_X4_row_80 rfl ?_
                refine z_geti (fi := 1) (x := (p_rows P (P 14 + row) 20)) e_X4_row_81 f_RX4_151 (hr.1 (P 14 + row) (by omega) (by omega)).2.1.1 rfl rfl ((hr.2.2 (P 14 + row) (by omega) (by omega)).1.2.2.1) ?_
                refine z_if_eq e_X4_row_84 ⟨by omega, by omega⟩ (fun h84_7 => ?_) (fun h84_7 => ?_)
                · refine z_iconst e_X4_row_91 ?_
                  refine z_iret e_X4_row_92 (Or.inl rfl) rfl rfl ⟨rfl, _, rfl, ?_⟩
                  refine ⟨?_, rfl, rfl⟩
                  have hA : m_rowA P row what = m_ros P (m_slot P (P 14 + row)) what := by
                    have hslot : (if row < 0 then P 14 + row else 24 + row) = m_slot P (P 14 + row) := by unfold m_slot; split <;> split <;> omega
                    unfold m_rowA; rw [if_neg (by omega), if_neg (by omega), hslot]
                  rw [hA]; unfold m_ros
                  rw [if_pos (by omega)]
                  first | (rw [show 20 + what = 20 by omega]; show _ = p_rows P (P 14 + row) 20; omega) | (rw [show 20 + what = 21 by omega]; show _ = p_rows P (P 14 + row) 21; omega)
                · refine z_iconst e_X4_row_87 ?_
                  refine z_goto e_X4_row_88 ?_
                  refine z_iret e_X4_row_92 (Or.inl rfl) rfl rfl ⟨rfl, _, rfl, ?_⟩
                  refine ⟨?_, rfl, rfl⟩
                  have hA : m_rowA P row what = m_ros P (m_slot P (P 14 + row)) what := by
                    have hslot : (if row < 0 then P 14 + row else 24 + row) = m_slot P (P 14 + row) := by unfold m_slot; split <;> split <;> omega
                    unfold m_rowA; rw [if_neg (by omega), if_neg (by omega), hslot]
                  rw [hA]; unfold m_ros
                  rw [if_pos (by omega)]
                  first | (rw [show 20 + what = 20 by omega]; show _ = p_rows P (P 14 + row) 20; omega) | (rw [show 20 + what = 21 by omega]; show _ = p_rows P (P 14 + row) 21; omega)
              · refine z_tsIn (off := 40) (tgt := 93) e_X4_row_53 ⟨by omega, by omega⟩ (by omega) (by omega) (by rw [hs53_6]; rfl) rfl ?_
                refine z_aload_n e_X4_row_93 rfl ?_
                refine z_geti (fi := 2) (x := (p_rows P (P 14 + row) 21)) e_X4_row_94 f_RX4_154 (hr.1 (P 14 + row) (by omega) (by omega)).2.1.1 rfl rfl ((hr.2.2 (P 14 + row) (by omega) (by omega)).1.2.2.2) ?_
                refine z_if_eq e_X4_row_97 ⟨by omega, by omega⟩ (fun h97_8 => ?_) (fun h97_8 => ?_)
                · refine z_iconst e_X4_row_104 ?_
                  refine z_iret e_X4_row_105 (Or.inl rfl) rfl rfl ⟨rfl, _, rfl, ?_⟩
                  refine ⟨?_, rfl, rfl⟩
                  have hA : m_rowA P row what = m_ros P (m_slot P (P 14 + row)) what := by
                    have hslot : (if row < 0 then P 14 + row else 24 + row) = m_slot P (P 14 + row) := by unfold m_slot; split <;> split <;> omega
                    unfold m_rowA; rw [if_neg (by omega), if_neg (by omega), hslot]
                  rw [hA]; unfold m_ros
                  rw [if_pos (by omega)]
                  first | (rw [show 20 + what = 20 by omega]; show _ = p_rows P (P 14 + row) 20; omega) | (rw [show 20 + what = 21 by omega]; show _ = p_rows P (P 14 + row) 21; omega)
                · refine z_iconst e_X4_row_100 ?_
                  refine z_goto e_X4_row_101 ?_
                  refine z_iret e_X4_row_105 (Or.inl rfl) rfl rfl ⟨rfl, _, rfl, ?_⟩
                  refine ⟨?_, rfl, rfl⟩
                  have hA : m_rowA P row what = m_ros P (m_slot P (P 14 + row)) what := by
                    have hslot : (if row < 0 then P 14 + row else 24 + row) = m_slot P (P 14 + row) := by unfold m_slot; split <;> split <;> omega
                    unfold m_rowA; rw [if_neg (by omega), if_neg (by omega), hslot]
                  rw [hA]; unfold m_ros
                  rw [if_pos (by omega)]
                  first | (rw [show 20 + what = 20 by omega]; show _ = p_rows P (P 14 + row) 20; omega) | (rw [show 20 + what = 21 by omega]; show _ = p_rows P (P 14 + row) 21; omega)
              · refine z_tsIn (off := 53) (tgt := 106) e_X4_row_53 ⟨by omega, by omega⟩ (by omega) (by omega) (by rw [hs53_6]; rfl) rfl ?_
                refine z_aload_n e_X4_row_106 rfl ?_
                refine z_callVi (M' := M_X2_filled) (As := []) (rest := []) e_X4_row_107 l_RX4_157 rfl rfl rfl rfl (hr.1 (P 14 + row) (by omega) (by omega)).2.1.1 ⟨_, _, rfl⟩ (d_X2_filled (hr.1 (P 14 + row) (by omega) (by omega)).2.1 (hr.1 (P 14 + row) (by omega) (by omega)).2.2.2.2.1) (fun xq mq rq hq => ?_)
                obtain ⟨e1q, e2q, e3q⟩ := hq
                rw [c_fil_eq (hr.2.2 (P 14 + row) (by omega) (by omega)).1 (by omega) (by omega)] at e1q
                replace e1q : xq = m_used P (m_slot P (P 14 + row)) := e1q
                subst xq mq rq
                refine z_iret e_X4_row_110 (Or.inl rfl) rfl rfl ⟨rfl, _, rfl, ?_⟩
                refine ⟨?_, rfl, rfl⟩
                have hA : m_rowA P row what = m_ros P (m_slot P (P 14 + row)) what := by
                  have hslot : (if row < 0 then P 14 + row else 24 + row) = m_slot P (P 14 + row) := by unfold m_slot; split <;> split <;> omega
                  unfold m_rowA; rw [if_neg (by omega), if_neg (by omega), hslot]
                rw [hA]; unfold m_ros
                rw [if_neg (by omega), if_pos (by omega)]
          · refine z_bipush e_X4_row_40 (by decide +kernel) ?_
            refine z_iret e_X4_row_42 (Or.inl rfl) rfl rfl ⟨rfl, _, rfl, ?_⟩
            refine ⟨?_, rfl, rfl⟩
            unfold m_rowA
            rw [if_neg (by omega), if_pos (by omega)]
        · refine z_iconst e_X4_row_26 ?_
          refine z_iret e_X4_row_27 (Or.inl rfl) rfl rfl ⟨rfl, _, rfl, ?_⟩
          refine ⟨?_, rfl, rfl⟩
          unfold m_rowA
          rw [if_pos (by omega)]
set_option maxHeartbeats 1000000 in
set_option maxRecDepth 100000 in
theorem c_X4_line {E : z_E} {mi : z_Mi} {mr : z_Mr} {o : Nat} {P : Int → Int} {n nx : Int} {line what : Int} (hX : z_X E o mi mr P n nx) (hz1 : z_R line) (hz2 : z_R what) : z_mi M_X4_line E [zo o, zi line, zi what] mi mr (fun x m r => x = m_lineA P line what ∧ m = mi ∧ r = mr) := by
  obtain ⟨⟨to, ta, tq, ro0, ro1, ro2, rok⟩, ⟨fo3, fo4, nb0, nb1, nb2, nb3⟩, hH, ⟨sg, hS⟩, hM⟩ := id hX
  obtain ⟨hc, hd, hr⟩ := id hS
  obtain ⟨t0, t1, t2, t3, t4, q0, q1, q2⟩ := id hc
  obtain ⟨d3, d4, d5, d6, d7, d8, u0, u1, u2, uk, uz⟩ := id hd
  obtain ⟨hw0, hw1, hh0, hh1, hf0, hf1, hf2, hr0, hr1, hc0, hc1, hp0, hp1, hk0, hk1, hi0, hi1, hkp, hP⟩ := id hH
  refine z_ofi (ls := [some (zo o), some (zi line), some (zi what), none, none]) rfl (fun _ _ => trivial) ⟨rfl, rfl⟩ (Nat.le_of_ble_eq_true rfl) rfl ?_
  refine z_iload_n e_X4_line_0 rfl ?_
  refine z_if_lt e_X4_line_1 ⟨by omega, by omega⟩ (fun h1_1 => ?_) (fun h1_1 => ?_)
  · refine z_iconst e_X4_line_13 ?_
    refine z_iret e_X4_line_14 (Or.inl rfl) rfl rfl ⟨rfl, _, rfl, ?_⟩
    refine ⟨?_, rfl, rfl⟩
    unfold m_lineA
    rw [if_pos (by omega)]
  · refine z_iload_n e_X4_line_4 rfl ?_
    refine z_if_lt e_X4_line_5 ⟨by omega, by omega⟩ (fun h5_2 => ?_) (fun h5_2 => ?_)
    · refine z_iconst e_X4_line_13 ?_
      refine z_iret e_X4_line_14 (Or.inl rfl) rfl rfl ⟨rfl, _, rfl, ?_⟩
      refine ⟨?_, rfl, rfl⟩
      unfold m_lineA
      rw [if_pos (by omega)]
    · refine z_iload_n e_X4_line_8 rfl ?_
      refine z_iconst e_X4_line_9 ?_
      refine z_icmp_le e_X4_line_10 ⟨by omega, by omega⟩ (by decide) (fun h10_3 => ?_) (fun h10_3 => ?_)
      · refine z_aload_n e_X4_line_15 rfl ?_
        refine z_getr (fi := 0) (r := some (o + 1)) e_X4_line_16 f_RX4_12 to rfl rfl (ro0) ?_
        refine z_iload_n e_X4_line_19 rfl ?_
        refine z_callVi (M' := M_X3_startOfLine) (As := [zi line]) (rest := []) e_X4_line_20 l_RX4_163 rfl rfl rfl rfl t0 ⟨_, _, rfl⟩ (c_X3_startOfLine ⟨hc, hd, hr⟩ hH (by omega) ⟨by omega, by omega⟩) (fun sl mq rq hq => ?_)
        obtain ⟨hsl0, e2q, e3q⟩ := hq
        subst mq rq
        have hcnt := m_count_b hH
        have hlb := m_lbeg_spec (P := P) (line := line) (n := m_count P) (by omega)
        have hsl : (m_lbeg P (m_count P) line < m_count P ∧ sl = m_lbeg P (m_count P) line) ∨ (¬ m_lbeg P (m_count P) line < m_count P ∧ sl = -1) := by rw [hsl0]; split <;> omega
        clear hsl0
        refine z_istore_n (ls' := [some (zo o), some (zi line), some (zi what), some (zi sl), none]) e_X4_line_23 rfl rfl rfl ?_
        refine z_iload_n e_X4_line_24 rfl ?_
        refine z_if_ge e_X4_line_25 ⟨by omega, by omega⟩ (fun h25_4 => ?_) (fun h25_4 => ?_)
        · refine z_aload_n e_X4_line_31 rfl ?_
          refine z_getr (fi := 0) (r := some (o + 1)) e_X4_line_32 f_RX4_12 to rfl rfl (ro0) ?_
          refine z_iload_n e_X4_line_35 rfl ?_
          refine z_callVi (M' := M_X3_endOf) (As := [zi sl]) (rest := []) e_X4_line_36 l_RX4_166 rfl rfl rfl rfl t0 ⟨_, _, rfl⟩ (c_X3_endOf ⟨hc, hd, hr⟩ hH (by omega) (by omega)) (fun xq mq rq hq => ?_)
          obtain ⟨e1q, e2q, e3q⟩ := hq
          subst xq mq rq
          have hle := m_lend_spec (P := P) (n := m_count P) (k := sl) (by omega)
          have hle1 := hle.1
          have hle2 := hle.2.1
          refine z_istore (ls' := [some (zo o), some (zi line), some (zi what), some (zi sl), some (zi (m_lend P (m_count P) sl))]) e_X4_line_39 rfl rfl rfl ?_
          refine z_iload_n e_X4_line_41 rfl ?_
          rcases (show what = 0 ∨ what = 1 ∨ what = 2 by omega) with hs42_5 | hs42_5 | hs42_5
          · refine z_lsw (off := 26) (tgt := 68) e_X4_line_42 ⟨by omega, by omega⟩ (by decide) (by rw [hs42_5]; rfl) rfl ?_
            refine z_aload_n e_X4_line_68 rfl ?_
            refine z_getr (fi := 0) (r := some (o + 1)) e_X4_line_69 f_RX4_12 to rfl rfl (ro0) ?_
            refine z_iload_n e_X4_line_72 rfl ?_
            refine z_iload e_X4_line_73 rfl ?_
            refine z_callVi (M' := M_X3_signsOfLine) (As := [zi sl, zi (m_lend P (m_count P) sl)]) (rest := []) e_X4_line_75 l_RX4_169 rfl rfl rfl rfl t0 ⟨_, _, rfl⟩ (c_X3_signsOfLine ⟨hc, hd, hr⟩ hH (by omega) (by omega) (by omega)) (fun xq mq rq hq => ?_)
            obtain ⟨e1q, e2q, e3q⟩ := hq
            subst xq mq rq
            refine z_iret e_X4_line_78 (Or.inl rfl) rfl rfl ⟨rfl, _, rfl, ?_⟩
            refine ⟨?_, rfl, rfl⟩
            have hA : m_lineA P line what = m_lof P sl (m_lend P (m_count P) sl) what := by
              have e : m_lbeg P (m_count P) line = sl := by omega
              unfold m_lineA; rw [if_neg (by omega), if_pos (by omega), e]
            rw [hA]; unfold m_lof
            (repeat' split) <;> omega
          · refine z_lsw (off := 37) (tgt := 79) e_X4_line_42 ⟨by omega, by omega⟩ (by decide) (by rw [hs42_5]; rfl) rfl ?_
            refine z_iload e_X4_line_79 rfl ?_
            refine z_iload_n e_X4_line_81 rfl ?_
            refine z_isub e_X4_line_82 ?_
            refine z_iconst e_X4_line_83 ?_
            refine z_iadd e_X4_line_84 ?_
            refine z_iret e_X4_line_85 (Or.inl rfl) rfl rfl ⟨rfl, _, rfl, ?_⟩
            refine ⟨?_, rfl, rfl⟩
            have hA : m_lineA P line what = m_lof P sl (m_lend P (m_count P) sl) what := by
              have e : m_lbeg P (m_count P) line = sl := by omega
              unfold m_lineA; rw [if_neg (by omega), if_pos (by omega), e]
            rw [hA]; unfold m_lof
            (repeat' split) <;> omega
          · refine z_lsw (off := 44) (tgt := 86) e_X4_line_42 ⟨by omega, by omega⟩ (by decide) (by rw [hs42_5]; rfl) rfl ?_
            refine z_iconst e_X4_line_86 ?_
            refine z_iload e_X4_line_87 rfl ?_
            refine z_iconst e_X4_line_89 ?_
            refine z_iadd e_X4_line_90 ?_
            refine z_aload_n e_X4_line_91 rfl ?_
            refine z_getr (fi := 0) (r := some (o + 1)) e_X4_line_92 f_RX4_12 to rfl rfl (ro0) ?_
            refine z_geti (fi := 4) (x := (P 14)) e_X4_line_95 f_RX4_49 t0 rfl rfl (d4) ?_
            refine z_min (x := (if (P 14) < ((m_lend P (m_count P) sl) + 1) then (P 14) else ((m_lend P (m_count P) sl) + 1))) e_X4_line_98 mm_RX4_116 rfl rfl ⟨by omega, by omega⟩ ⟨by omega, by omega⟩ (rfl) ?_
            refine z_iload_n e_X4_line_101 rfl ?_
            refine z_isub e_X4_line_102 ?_
            refine z_max (x := (if 0 < ((if (P 14) < ((m_lend P (m_count P) sl) + 1) then (P 14) else ((m_lend P (m_count P) sl) + 1)) - sl) then ((if (P 14) < ((m_lend P (m_count P) sl) + 1) then (P 14) else ((m_lend P (m_count P) sl) + 1)) - sl) else 0)) e_X4_line_103 mm_RX4_172 rfl rfl (by decide) ⟨by omega, by omega⟩ (rfl) ?_
            refine z_iret e_X4_line_106 (Or.inl rfl) rfl rfl ⟨rfl, _, rfl, ?_⟩
            refine ⟨?_, rfl, rfl⟩
            have hA : m_lineA P line what = m_lof P sl (m_lend P (m_count P) sl) what := by
              have e : m_lbeg P (m_count P) line = sl := by omega
              unfold m_lineA; rw [if_neg (by omega), if_pos (by omega), e]
            rw [hA]; unfold m_lof
            (repeat' split) <;> omega
        · refine z_bipush e_X4_line_28 (by decide +kernel) ?_
          refine z_iret e_X4_line_30 (Or.inl rfl) rfl rfl ⟨rfl, _, rfl, ?_⟩
          refine ⟨?_, rfl, rfl⟩
          unfold m_lineA
          rw [if_neg (by omega), if_neg (by omega)]
      · refine z_iconst e_X4_line_13 ?_
        refine z_iret e_X4_line_14 (Or.inl rfl) rfl rfl ⟨rfl, _, rfl, ?_⟩
        refine ⟨?_, rfl, rfl⟩
        unfold m_lineA
        rw [if_pos (by omega)]
set_option maxHeartbeats 1000000 in
set_option maxRecDepth 100000 in
theorem c_X4_cursor {E : z_E} {mi : z_Mi} {mr : z_Mr} {o : Nat} {P : Int → Int} {n nx : Int} {w what : Int} (hX : z_X E o mi mr P n nx) (hz1 : z_R w) (hz2 : z_R what) : z_mi M_X4_cursor E [zo o, zi w, zi what] mi mr (fun x m r => x = m_curA P w what ∧ m = mi ∧ r = mr) := by
  obtain ⟨⟨to, ta, tq, ro0, ro1, ro2, rok⟩, ⟨fo3, fo4, nb0, nb1, nb2, nb3⟩, hH, ⟨sg, hS⟩, hM⟩ := id hX
  obtain ⟨hc, hd, hr⟩ := id hS
  obtain ⟨t0, t1, t2, t3, t4, q0, q1, q2⟩ := id hc
  obtain ⟨d3, d4, d5, d6, d7, d8, u0, u1, u2, uk, uz⟩ := id hd
  obtain ⟨hw0, hw1, hh0, hh1, hf0, hf1, hf2, hr0, hr1, hc0, hc1, hp0, hp1, hk0, hk1, hi0, hi1, hkp, hP⟩ := id hH
  refine z_ofi (ls := [some (zo o), some (zi w), some (zi what), none]) rfl (fun _ _ => trivial) ⟨rfl, rfl⟩ (Nat.le_of_ble_eq_true rfl) rfl ?_
  refine z_iload_n e_X4_cursor_0 rfl ?_
  refine z_if_lt e_X4_cursor_1 ⟨by omega, by omega⟩ (fun h1_1 => ?_) (fun h1_1 => ?_)
  · refine z_iconst e_X4_cursor_18 ?_
    refine z_iret e_X4_cursor_19 (Or.inl rfl) rfl rfl ⟨rfl, _, rfl, ?_⟩
    refine ⟨?_, rfl, rfl⟩
    unfold m_curA
    rw [if_pos (by omega)]
  · refine z_iload_n e_X4_cursor_4 rfl ?_
    refine z_iconst e_X4_cursor_5 ?_
    refine z_icmp_gt e_X4_cursor_6 ⟨by omega, by omega⟩ (by decide) (fun h6_2 => ?_) (fun h6_2 => ?_)
    · refine z_iconst e_X4_cursor_18 ?_
      refine z_iret e_X4_cursor_19 (Or.inl rfl) rfl rfl ⟨rfl, _, rfl, ?_⟩
      refine ⟨?_, rfl, rfl⟩
      unfold m_curA
      rw [if_pos (by omega)]
    · refine z_iload_n e_X4_cursor_9 rfl ?_
      refine z_if_lt e_X4_cursor_10 ⟨by omega, by omega⟩ (fun h10_3 => ?_) (fun h10_3 => ?_)
      · refine z_iconst e_X4_cursor_18 ?_
        refine z_iret e_X4_cursor_19 (Or.inl rfl) rfl rfl ⟨rfl, _, rfl, ?_⟩
        refine ⟨?_, rfl, rfl⟩
        unfold m_curA
        rw [if_pos (by omega)]
      · refine z_iload_n e_X4_cursor_13 rfl ?_
        refine z_iconst e_X4_cursor_14 ?_
        refine z_icmp_le e_X4_cursor_15 ⟨by omega, by omega⟩ (by decide) (fun h15_4 => ?_) (fun h15_4 => ?_)
        · refine z_iload_n e_X4_cursor_20 rfl ?_
          refine z_aload_n e_X4_cursor_21 rfl ?_
          refine z_getr (fi := 0) (r := some (o + 1)) e_X4_cursor_22 f_RX4_12 to rfl rfl (ro0) ?_
          refine z_geti (fi := 3) (x := (P 7)) e_X4_cursor_25 f_RX4_129 t0 rfl rfl (d3) ?_
          refine z_icmp_le e_X4_cursor_28 ⟨by omega, by omega⟩ ⟨by omega, by omega⟩ (fun h28_5 => ?_) (fun h28_5 => ?_)
          · refine z_iload_n e_X4_cursor_34 rfl ?_
            refine z_if_ne e_X4_cursor_35 ⟨by omega, by omega⟩ (fun h35_6 => ?_) (fun h35_6 => ?_)
            · refine z_aload_n e_X4_cursor_48 rfl ?_
              refine z_getr (fi := 0) (r := some (o + 1)) e_X4_cursor_49 f_RX4_12 to rfl rfl (ro0) ?_
              refine z_aload_n e_X4_cursor_52 rfl ?_
              refine z_getr (fi := 0) (r := some (o + 1)) e_X4_cursor_53 f_RX4_12 to rfl rfl (ro0) ?_
              refine z_geti (fi := 3) (x := (P 7)) e_X4_cursor_56 f_RX4_129 t0 rfl rfl (d3) ?_
              refine z_iload_n e_X4_cursor_59 rfl ?_
              refine z_isub e_X4_cursor_60 ?_
              refine z_callVr (M' := M_X3_keptPlace) (As := [zi ((P 7) - w)]) (rest := []) e_X4_cursor_61 l_RX4_179 rfl rfl rfl rfl t0 ⟨_, _, rfl⟩ (d_X3_keptPlace t0 t3 q2 (by omega) (by omega) (t4 (P 7 - w) (by omega) (by omega)).2) (fun xq mq rq hq => ?_)
              obtain ⟨e1q, e2q, e3q⟩ := hq
              subst xq mq rq
              have ukw := uk (P 7 - w) (by omega) (by omega)
              have hkw := hkp (P 7 - w) (by omega) (by omega)
              have hmr := m_row_b hH (w := w) (by omega) (by omega)
              refine z_astore_n (ls' := [some (zo o), some (zi w), some (zi what), some (zo (o + 1 + 68 + (P 7 - w).toNat))]) e_X4_cursor_64 rfl rfl rfl ?_
              refine z_iload_n e_X4_cursor_65 rfl ?_
              by_cases hs66_7 : what < 0 ∨ 2 < what
              · refine z_tsOut (tgt := 111) e_X4_cursor_66 ⟨by omega, by omega⟩ hs66_7 rfl ?_
                refine z_aload_n e_X4_cursor_111 rfl ?_
                refine z_getr (fi := 0) (r := some (o + 1)) e_X4_cursor_112 f_RX4_12 to rfl rfl (ro0) ?_
                refine z_aload_n e_X4_cursor_115 rfl ?_
                refine z_callVi (M' := M_X3_markOf) (As := [zo (o + 1 + 68 + (P 7 - w).toNat)]) (rest := []) e_X4_cursor_116 l_RX4_187 rfl rfl rfl rfl t0 ⟨_, _, rfl⟩ (c_X3_markOf (row := P (8 + 2 * (P 7 - w))) (col := P (8 + 2 * (P 7 - w) + 1)) (pe := 0) ⟨hc, hd, hr⟩ hH (t4 (P 7 - w) (by omega) (by omega)).1 ukw.1 ukw.2.1 ukw.2.2 (hP _).1 ((m_count_row hH).2 (P 7 - w) (by omega) (by omega)) (hP _).1 hkw.2 (Or.inl rfl)) (fun xq mq rq hq => ?_)
                obtain ⟨e1q, e2q, e3q⟩ := hq
                subst xq mq rq
                refine z_iret e_X4_cursor_119 (Or.inl rfl) rfl rfl ⟨rfl, _, rfl, ?_⟩
                refine ⟨?_, rfl, rfl⟩
                have hA : m_curA P w what = m_cur P w what := by unfold m_curA; rw [if_neg (by omega), if_pos (by omega)]
                have e3 : m_cur P w what = m_mark P (m_count P) (m_row P w) (m_pcol P w) := by unfold m_cur; rw [if_neg (show ¬ what = 0 by omega), if_neg (show ¬ what = 1 by omega), if_neg (show ¬ what = 2 by omega)]
                rw [hA, e3]
                have hpk := m_pcolk (P := P) (j := P 7 - w) (by omega)
                rw [show P 7 - (P 7 - w) = w by omega] at hpk
                rw [hpk.1, hpk.2, if_neg (show ¬ (0 : Int) = 1 by decide)]
              · rcases (show what = 0 ∨ what = 1 ∨ what = 2 by omega) with hs66_7 | hs66_7 | hs66_7
                · refine z_tsIn (off := 26) (tgt := 92) e_X4_cursor_66 ⟨by omega, by omega⟩ (by omega) (by omega) (by rw [hs66_7]; rfl) rfl ?_
                  refine z_aload_n e_X4_cursor_92 rfl ?_
                  refine z_geti (fi := 0) (x := (P (8 + 2 * (P 7 - w)))) e_X4_cursor_93 f_RX4_63 (t4 (P 7 - w) (by omega) (by omega)).1 rfl rfl (ukw.1) ?_
                  refine z_iret e_X4_cursor_96 (Or.inl rfl) rfl rfl ⟨rfl, _, rfl, ?_⟩
                  refine ⟨?_, rfl, rfl⟩
                  have hA : m_curA P w what = m_cur P w what := by unfold m_curA; rw [if_neg (by omega), if_pos (by omega)]
                  rw [hA]; unfold m_cur
                  rw [if_pos (by omega)]
                  unfold m_row
                  rw [if_neg (by omega)]
                · refine z_tsIn (off := 31) (tgt := 97) e_X4_cursor_66 ⟨by omega, by omega⟩ (by omega) (by omega) (by rw [hs66_7]; rfl) rfl ?_
                  refine z_aload_n e_X4_cursor_97 rfl ?_
                  refine z_geti (fi := 1) (x := (P (8 + 2 * (P 7 - w) + 1))) e_X4_cursor_98 f_RX4_68 (t4 (P 7 - w) (by omega) (by omega)).1 rfl rfl (ukw.2.1) ?_
                  refine z_iret e_X4_cursor_101 (Or.inl rfl) rfl rfl ⟨rfl, _, rfl, ?_⟩
                  refine ⟨?_, rfl, rfl⟩
                  have hA : m_curA P w what = m_cur P w what := by unfold m_curA; rw [if_neg (by omega), if_pos (by omega)]
                  rw [hA]; unfold m_cur
                  rw [if_neg (by omega), if_pos (by omega)]
                  unfold m_col
                  rw [if_neg (by omega)]
                · refine z_tsIn (off := 36) (tgt := 102) e_X4_cursor_66 ⟨by omega, by omega⟩ (by omega) (by omega) (by rw [hs66_7]; rfl) rfl ?_
                  refine z_aload_n e_X4_cursor_102 rfl ?_
                  refine z_getr (fi := 0) (r := some (o + 1)) e_X4_cursor_103 f_RX4_12 to rfl rfl (ro0) ?_
                  refine z_aload_n e_X4_cursor_106 rfl ?_
                  refine z_callVi (M' := M_X3_lineOf) (As := [zo (o + 1 + 68 + (P 7 - w).toNat)]) (rest := []) e_X4_cursor_107 l_RX4_183 rfl rfl rfl rfl t0 ⟨_, _, rfl⟩ (c_X3_lineOf (row := P (8 + 2 * (P 7 - w))) (col := P (8 + 2 * (P 7 - w) + 1)) (pe := 0) ⟨hc, hd, hr⟩ hH (t4 (P 7 - w) (by omega) (by omega)).1 ukw.1 ukw.2.1 ukw.2.2 (hP _).1 ((m_count_row hH).2 (P 7 - w) (by omega) (by omega))) (fun xq mq rq hq => ?_)
                  obtain ⟨e1q, e2q, e3q⟩ := hq
                  subst xq mq rq
                  refine z_iret e_X4_cursor_110 (Or.inl rfl) rfl rfl ⟨rfl, _, rfl, ?_⟩
                  refine ⟨?_, rfl, rfl⟩
                  have hA : m_curA P w what = m_cur P w what := by unfold m_curA; rw [if_neg (by omega), if_pos (by omega)]
                  rw [hA]; unfold m_cur
                  rw [if_neg (by omega), if_neg (by omega), if_pos (by omega)]
                  unfold m_row
                  rw [if_neg (by omega)]
            · refine z_aload_n e_X4_cursor_38 rfl ?_
              refine z_getr (fi := 0) (r := some (o + 1)) e_X4_cursor_39 f_RX4_12 to rfl rfl (ro0) ?_
              refine z_getr (fi := 1) (r := some (o + 1 + 2)) e_X4_cursor_42 f_RX4_59 t0 rfl rfl (q1) ?_
              refine z_goto e_X4_cursor_45 ?_
              refine z_astore_n (ls' := [some (zo o), some (zi w), some (zi what), some (zo (o + 1 + 2))]) e_X4_cursor_64 rfl rfl rfl ?_
              refine z_iload_n e_X4_cursor_65 rfl ?_
              by_cases hs66_8 : what < 0 ∨ 2 < what
              · refine z_tsOut (tgt := 111) e_X4_cursor_66 ⟨by omega, by omega⟩ hs66_8 rfl ?_
                refine z_aload_n e_X4_cursor_111 rfl ?_
                refine z_getr (fi := 0) (r := some (o + 1)) e_X4_cursor_112 f_RX4_12 to rfl rfl (ro0) ?_
                refine z_aload_n e_X4_cursor_115 rfl ?_
                refine z_callVi (M' := M_X3_markOf) (As := [zo (o + 1 + 2)]) (rest := []) e_X4_cursor_116 l_RX4_187 rfl rfl rfl rfl t0 ⟨_, _, rfl⟩ (c_X3_markOf (row := P 4) (col := P 5) (pe := P 6) ⟨hc, hd, hr⟩ hH t2 u0 u1 u2 hr0 (m_count_row hH).1 hc0 hc1 (by omega)) (fun xq mq rq hq => ?_)
                obtain ⟨e1q, e2q, e3q⟩ := hq
                subst xq mq rq
                refine z_iret e_X4_cursor_119 (Or.inl rfl) rfl rfl ⟨rfl, _, rfl, ?_⟩
                refine ⟨?_, rfl, rfl⟩
                have hA : m_curA P w what = m_cur P w what := by unfold m_curA; rw [if_neg (by omega), if_pos (by omega)]
                have e3 : m_cur P w what = m_mark P (m_count P) (m_row P w) (m_pcol P w) := by unfold m_cur; rw [if_neg (show ¬ what = 0 by omega), if_neg (show ¬ what = 1 by omega), if_neg (show ¬ what = 2 by omega)]
                rw [hA, e3]
                have hw : w = 0 := by omega
                rw [hw, m_pcol0, show m_row P 0 = P 4 from if_pos rfl]
              · rcases (show what = 0 ∨ what = 1 ∨ what = 2 by omega) with hs66_8 | hs66_8 | hs66_8
                · refine z_tsIn (off := 26) (tgt := 92) e_X4_cursor_66 ⟨by omega, by omega⟩ (by omega) (by omega) (by rw [hs66_8]; rfl) rfl ?_
                  refine z_aload_n e_X4_cursor_92 rfl ?_
                  refine z_geti (fi := 0) (x := (P 4)) e_X4_cursor_93 f_RX4_63 t2 rfl rfl (u0) ?_
                  refine z_iret e_X4_cursor_96 (Or.inl rfl) rfl rfl ⟨rfl, _, rfl, ?_⟩
                  refine ⟨?_, rfl, rfl⟩
                  have hA : m_curA P w what = m_cur P w what := by unfold m_curA; rw [if_neg (by omega), if_pos (by omega)]
                  rw [hA]; unfold m_cur
                  rw [if_pos (by omega)]
                  unfold m_row
                  rw [if_pos (by omega)]
                · refine z_tsIn (off := 31) (tgt := 97) e_X4_cursor_66 ⟨by omega, by omega⟩ (by omega) (by omega) (by rw [hs66_8]; rfl) rfl ?_
                  refine z_aload_n e_X4_cursor_97 rfl ?_
                  refine z_geti (fi := 1) (x := (P 5)) e_X4_cursor_98 f_RX4_68 t2 rfl rfl (u1) ?_
                  refine z_iret e_X4_cursor_101 (Or.inl rfl) rfl rfl ⟨rfl, _, rfl, ?_⟩
                  refine ⟨?_, rfl, rfl⟩
                  have hA : m_curA P w what = m_cur P w what := by unfold m_curA; rw [if_neg (by omega), if_pos (by omega)]
                  rw [hA]; unfold m_cur
                  rw [if_neg (by omega), if_pos (by omega)]
                  unfold m_col
                  rw [if_pos (by omega)]
                · refine z_tsIn (off := 36) (tgt := 102) e_X4_cursor_66 ⟨by omega, by omega⟩ (by omega) (by omega) (by rw [hs66_8]; rfl) rfl ?_
                  refine z_aload_n e_X4_cursor_102 rfl ?_
                  refine z_getr (fi := 0) (r := some (o + 1)) e_X4_cursor_103 f_RX4_12 to rfl rfl (ro0) ?_
                  refine z_aload_n e_X4_cursor_106 rfl ?_
                  refine z_callVi (M' := M_X3_lineOf) (As := [zo (o + 1 + 2)]) (rest := []) e_X4_cursor_107 l_RX4_183 rfl rfl rfl rfl t0 ⟨_, _, rfl⟩ (c_X3_lineOf (row := P 4) (col := P 5) (pe := P 6) ⟨hc, hd, hr⟩ hH t2 u0 u1 u2 hr0 (m_count_row hH).1) (fun xq mq rq hq => ?_)
                  obtain ⟨e1q, e2q, e3q⟩ := hq
                  subst xq mq rq
                  refine z_iret e_X4_cursor_110 (Or.inl rfl) rfl rfl ⟨rfl, _, rfl, ?_⟩
                  refine ⟨?_, rfl, rfl⟩
                  have hA : m_curA P w what = m_cur P w what := by unfold m_curA; rw [if_neg (by omega), if_pos (by omega)]
                  rw [hA]; unfold m_cur
                  rw [if_neg (by omega), if_neg (by omega), if_pos (by omega)]
                  unfold m_row
                  rw [if_pos (by omega)]
          · refine z_bipush e_X4_cursor_31 (by decide +kernel) ?_
            refine z_iret e_X4_cursor_33 (Or.inl rfl) rfl rfl ⟨rfl, _, rfl, ?_⟩
            refine ⟨?_, rfl, rfl⟩
            unfold m_curA
            rw [if_neg (by omega), if_neg (by omega)]
        · refine z_iconst e_X4_cursor_18 ?_
          refine z_iret e_X4_cursor_19 (Or.inl rfl) rfl rfl ⟨rfl, _, rfl, ?_⟩
          refine ⟨?_, rfl, rfl⟩
          unfold m_curA
          rw [if_pos (by omega)]
set_option maxHeartbeats 1000000 in
set_option maxRecDepth 100000 in
theorem c_X4_told {E : z_E} {mi : z_Mi} {mr : z_Mr} {o : Nat} {P : Int → Int} {n nx : Int} {what : Int} (hX : z_X E o mi mr P n nx) (hz : z_R what) : z_mi M_X4_told E [zo o, zi what] mi mr (fun x m r => x = m_toldA P n what ∧ m = mi ∧ r = mr) := by
  obtain ⟨⟨to, ta, tq, ro0, ro1, ro2, rok⟩, ⟨fo3, fo4, nb0, nb1, nb2, nb3⟩, hH, ⟨sg, hS⟩, hM⟩ := id hX
  obtain ⟨hc, hd, hr⟩ := id hS
  obtain ⟨t0, t1, t2, t3, t4, q0, q1, q2⟩ := id hc
  obtain ⟨d3, d4, d5, d6, d7, d8, u0, u1, u2, uk, uz⟩ := id hd
  obtain ⟨hw0, hw1, hh0, hh1, hf0, hf1, hf2, hr0, hr1, hc0, hc1, hp0, hp1, hk0, hk1, hi0, hi1, hkp, hP⟩ := id hH
  refine z_ofi (ls := [some (zo o), some (zi what)]) rfl (fun _ _ => trivial) ⟨rfl, rfl⟩ (Nat.le_of_ble_eq_true rfl) rfl ?_
  refine z_iload_n e_X4_told_0 rfl ?_
  by_cases hs1_1 : what < 0 ∨ 10 < what
  · refine z_tsOut (tgt := 156) e_X4_told_1 ⟨by omega, by omega⟩ hs1_1 rfl ?_
    refine z_iconst e_X4_told_156 ?_
    refine z_iret e_X4_told_157 (Or.inl rfl) rfl rfl ⟨rfl, _, rfl, ?_⟩
    refine ⟨?_, rfl, rfl⟩
    unfold m_toldA
    (repeat' split) <;> first | rfl | (exfalso; omega) | (congr 1; omega) | omega
  · rcases (show what = 0 ∨ what = 1 ∨ what = 2 ∨ what = 3 ∨ what = 4 ∨ what = 5 ∨ what = 6 ∨ what = 7 ∨ what = 8 ∨ what = 9 ∨ what = 10 by omega) with hs1_1 | hs1_1 | hs1_1 | hs1_1 | hs1_1 | hs1_1 | hs1_1 | hs1_1 | hs1_1 | hs1_1 | hs1_1
    · refine z_tsIn (off := 59) (tgt := 60) e_X4_told_1 ⟨by omega, by omega⟩ (by omega) (by omega) (by rw [hs1_1]; rfl) rfl ?_
      refine z_aload_n e_X4_told_60 rfl ?_
      refine z_getr (fi := 0) (r := some (o + 1)) e_X4_told_61 f_RX4_12 to rfl rfl (ro0) ?_
      refine z_geti (fi := 5) (x := (P 0)) e_X4_told_64 f_RX4_56 t0 rfl rfl (d5) ?_
      refine z_iret e_X4_told_67 (Or.inl rfl) rfl rfl ⟨rfl, _, rfl, ?_⟩
      refine ⟨?_, rfl, rfl⟩
      unfold m_toldA
      (repeat' split) <;> first | rfl | (exfalso; omega) | (congr 1; omega) | omega
    · refine z_tsIn (off := 67) (tgt := 68) e_X4_told_1 ⟨by omega, by omega⟩ (by omega) (by omega) (by rw [hs1_1]; rfl) rfl ?_
      refine z_aload_n e_X4_told_68 rfl ?_
      refine z_getr (fi := 0) (r := some (o + 1)) e_X4_told_69 f_RX4_12 to rfl rfl (ro0) ?_
      refine z_geti (fi := 6) (x := (P 1)) e_X4_told_72 f_RX4_75 t0 rfl rfl (d6) ?_
      refine z_iret e_X4_told_75 (Or.inl rfl) rfl rfl ⟨rfl, _, rfl, ?_⟩
      refine ⟨?_, rfl, rfl⟩
      unfold m_toldA
      (repeat' split) <;> first | rfl | (exfalso; omega) | (congr 1; omega) | omega
    · refine z_tsIn (off := 75) (tgt := 76) e_X4_told_1 ⟨by omega, by omega⟩ (by omega) (by omega) (by rw [hs1_1]; rfl) rfl ?_
      refine z_aload_n e_X4_told_76 rfl ?_
      refine z_getr (fi := 0) (r := some (o + 1)) e_X4_told_77 f_RX4_12 to rfl rfl (ro0) ?_
      refine z_geti (fi := 7) (x := (P 2)) e_X4_told_80 f_RX4_78 t0 rfl rfl (d7) ?_
      refine z_iret e_X4_told_83 (Or.inl rfl) rfl rfl ⟨rfl, _, rfl, ?_⟩
      refine ⟨?_, rfl, rfl⟩
      unfold m_toldA
      (repeat' split) <;> first | rfl | (exfalso; omega) | (congr 1; omega) | omega
    · refine z_tsIn (off := 83) (tgt := 84) e_X4_told_1 ⟨by omega, by omega⟩ (by omega) (by omega) (by rw [hs1_1]; rfl) rfl ?_
      refine z_aload_n e_X4_told_84 rfl ?_
      refine z_getr (fi := 0) (r := some (o + 1)) e_X4_told_85 f_RX4_12 to rfl rfl (ro0) ?_
      refine z_geti (fi := 8) (x := (P 3)) e_X4_told_88 f_RX4_81 t0 rfl rfl (d8) ?_
      refine z_iret e_X4_told_91 (Or.inl rfl) rfl rfl ⟨rfl, _, rfl, ?_⟩
      refine ⟨?_, rfl, rfl⟩
      unfold m_toldA
      (repeat' split) <;> first | rfl | (exfalso; omega) | (congr 1; omega) | omega
    · refine z_tsIn (off := 91) (tgt := 92) e_X4_told_1 ⟨by omega, by omega⟩ (by omega) (by omega) (by rw [hs1_1]; rfl) rfl ?_
      refine z_aload_n e_X4_told_92 rfl ?_
      refine z_getr (fi := 0) (r := some (o + 1)) e_X4_told_93 f_RX4_12 to rfl rfl (ro0) ?_
      refine z_getr (fi := 1) (r := some (o + 1 + 2)) e_X4_told_96 f_RX4_59 t0 rfl rfl (q1) ?_
      refine z_geti (fi := 2) (x := (P 6)) e_X4_told_99 f_RX4_91 t2 rfl rfl (u2) ?_
      refine z_if_eq e_X4_told_102 ⟨by omega, by omega⟩ (fun h102_2 => ?_) (fun h102_2 => ?_)
      · refine z_iconst e_X4_told_109 ?_
        refine z_iret e_X4_told_110 (Or.inl rfl) rfl rfl ⟨rfl, _, rfl, ?_⟩
        refine ⟨?_, rfl, rfl⟩
        unfold m_toldA
        (repeat' split) <;> first | rfl | (exfalso; omega) | (congr 1; omega) | omega
      · refine z_iconst e_X4_told_105 ?_
        refine z_goto e_X4_told_106 ?_
        refine z_iret e_X4_told_110 (Or.inl rfl) rfl rfl ⟨rfl, _, rfl, ?_⟩
        refine ⟨?_, rfl, rfl⟩
        unfold m_toldA
        (repeat' split) <;> first | rfl | (exfalso; omega) | (congr 1; omega) | omega
    · refine z_tsIn (off := 110) (tgt := 111) e_X4_told_1 ⟨by omega, by omega⟩ (by omega) (by omega) (by rw [hs1_1]; rfl) rfl ?_
      refine z_aload_n e_X4_told_111 rfl ?_
      refine z_getr (fi := 0) (r := some (o + 1)) e_X4_told_112 f_RX4_12 to rfl rfl (ro0) ?_
      refine z_geti (fi := 4) (x := (P 14)) e_X4_told_115 f_RX4_49 t0 rfl rfl (d4) ?_
      refine z_iret e_X4_told_118 (Or.inl rfl) rfl rfl ⟨rfl, _, rfl, ?_⟩
      refine ⟨?_, rfl, rfl⟩
      unfold m_toldA
      (repeat' split) <;> first | rfl | (exfalso; omega) | (congr 1; omega) | omega
    · refine z_tsIn (off := 118) (tgt := 119) e_X4_told_1 ⟨by omega, by omega⟩ (by omega) (by omega) (by rw [hs1_1]; rfl) rfl ?_
      refine z_aload_n e_X4_told_119 rfl ?_
      refine z_getr (fi := 0) (r := some (o + 1)) e_X4_told_120 f_RX4_12 to rfl rfl (ro0) ?_
      refine z_geti (fi := 3) (x := (P 7)) e_X4_told_123 f_RX4_129 t0 rfl rfl (d3) ?_
      refine z_iret e_X4_told_126 (Or.inl rfl) rfl rfl ⟨rfl, _, rfl, ?_⟩
      refine ⟨?_, rfl, rfl⟩
      unfold m_toldA
      (repeat' split) <;> first | rfl | (exfalso; omega) | (congr 1; omega) | omega
    · refine z_tsIn (off := 126) (tgt := 127) e_X4_told_1 ⟨by omega, by omega⟩ (by omega) (by omega) (by rw [hs1_1]; rfl) rfl ?_
      refine z_aload_n e_X4_told_127 rfl ?_
      refine z_getr (fi := 0) (r := some (o + 1)) e_X4_told_128 f_RX4_12 to rfl rfl (ro0) ?_
      refine z_callVi (M' := M_X3_lines) (As := []) (rest := []) e_X4_told_131 l_RX4_194 rfl rfl rfl rfl t0 ⟨_, _, rfl⟩ (c_X3_lines ⟨hc, hd, hr⟩ hH) (fun xq mq rq hq => ?_)
      obtain ⟨e1q, e2q, e3q⟩ := hq
      subst xq mq rq
      refine z_iret e_X4_told_134 (Or.inl rfl) rfl rfl ⟨rfl, _, rfl, ?_⟩
      refine ⟨?_, rfl, rfl⟩
      unfold m_toldA
      (repeat' split) <;> first | rfl | (exfalso; omega) | (congr 1; omega) | omega
    · refine z_tsIn (off := 134) (tgt := 135) e_X4_told_1 ⟨by omega, by omega⟩ (by omega) (by omega) (by rw [hs1_1]; rfl) rfl ?_
      refine z_aload_n e_X4_told_135 rfl ?_
      refine z_getr (fi := 0) (r := some (o + 1)) e_X4_told_136 f_RX4_12 to rfl rfl (ro0) ?_
      refine z_callVi (M' := M_X3_countedRows) (As := []) (rest := []) e_X4_told_139 l_RX4_197 rfl rfl rfl rfl t0 ⟨_, _, rfl⟩ (c_X3_countedRows ⟨hc, hd, hr⟩ hH) (fun xq mq rq hq => ?_)
      obtain ⟨e1q, e2q, e3q⟩ := hq
      subst xq mq rq
      refine z_iret e_X4_told_142 (Or.inl rfl) rfl rfl ⟨rfl, _, rfl, ?_⟩
      refine ⟨?_, rfl, rfl⟩
      unfold m_toldA
      (repeat' split) <;> first | rfl | (exfalso; omega) | (congr 1; omega) | omega
    · refine z_tsIn (off := 142) (tgt := 143) e_X4_told_1 ⟨by omega, by omega⟩ (by omega) (by omega) (by rw [hs1_1]; rfl) rfl ?_
      refine z_aload_n e_X4_told_143 rfl ?_
      refine z_getr (fi := 0) (r := some (o + 1)) e_X4_told_144 f_RX4_12 to rfl rfl (ro0) ?_
      refine z_callVi (M' := M_X3_taken) (As := []) (rest := []) e_X4_told_147 l_RX4_84 rfl rfl rfl rfl t0 ⟨_, _, rfl⟩ (c_X3_taken ⟨hc, hd, hr⟩ hH) (fun xq mq rq hq => ?_)
      obtain ⟨e1q, e2q, e3q⟩ := hq
      rw [n_takA_fill] at e1q
      subst xq mq rq
      refine z_iret e_X4_told_150 (Or.inl rfl) rfl rfl ⟨rfl, _, rfl, ?_⟩
      refine ⟨?_, rfl, rfl⟩
      unfold m_toldA
      (repeat' split) <;> first | rfl | (exfalso; omega) | (congr 1; omega) | omega
    · refine z_tsIn (off := 150) (tgt := 151) e_X4_told_1 ⟨by omega, by omega⟩ (by omega) (by omega) (by rw [hs1_1]; rfl) rfl ?_
      refine z_aload_n e_X4_told_151 rfl ?_
      refine z_geti (fi := 4) (x := n) e_X4_told_152 f_RX4_31 to rfl rfl (fo4) ?_
      refine z_iret e_X4_told_155 (Or.inl rfl) rfl rfl ⟨rfl, _, rfl, ?_⟩
      refine ⟨?_, rfl, rfl⟩
      unfold m_toldA
      (repeat' split) <;> first | rfl | (exfalso; omega) | (congr 1; omega) | omega
