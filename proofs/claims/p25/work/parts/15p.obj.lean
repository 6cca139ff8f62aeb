set_option maxHeartbeats 1000000 in
set_option maxRecDepth 100000 in
theorem c_X4_sign {E : z_E} {mi : z_Mi} {mr : z_Mr} {o : Nat} {P : Int → Int} {n nx : Int} {line k : Int} (hX : z_X E o mi mr P n nx) (hz1 : z_R line) (hz2 : z_R k) : z_mi M_X4_sign E [zo o, zi line, zi k] mi mr (fun x m r => x = m_signA P line k ∧ ∃ (G' : Int → Int) (f' : Int → Option Nat), m = z_u mi (o + 73) G' ∧ r = z_u mr (o + 73) f') := by
  obtain ⟨⟨to, ta, tq, ro0, ro1, ro2, rok⟩, ⟨fo3, fo4, nb0, nb1, nb2, nb3⟩, hH, ⟨sg, hS⟩, hM⟩ := id hX
  obtain ⟨hc, hd, hr⟩ := id hS
  obtain ⟨t0, t1, t2, t3, t4, q0, q1, q2⟩ := id hc
  obtain ⟨d3, d4, d5, d6, d7, d8, u0, u1, u2, uk, uz⟩ := id hd
  obtain ⟨hw0, hw1, hh0, hh1, hf0, hf1, hf2, hr0, hr1, hc0, hc1, hp0, hp1, hk0, hk1, hi0, hi1, hkp, hP⟩ := id hH
  refine z_ofi (ls := [some (zo o), some (zi line), some (zi k), none]) rfl (fun _ _ => trivial) ⟨rfl, rfl⟩ (Nat.le_of_ble_eq_true rfl) rfl ?_
  refine z_iload_n e_X4_sign_0 rfl ?_
  refine z_if_lt e_X4_sign_1 ⟨by omega, by omega⟩ (fun h1_1 => ?_) (fun h1_1 => ?_)
  · refine z_iconst e_X4_sign_8 ?_
    refine z_iret e_X4_sign_9 (Or.inl rfl) rfl rfl ⟨rfl, _, rfl, ?_⟩
    refine ⟨?_, ⟨mi (o + 73), mr (o + 73), (z_uself _ _).symm, (z_uself _ _).symm⟩⟩
    unfold m_signA
    rw [if_pos (by omega)]
  · refine z_iload_n e_X4_sign_4 rfl ?_
    refine z_if_ge e_X4_sign_5 ⟨by omega, by omega⟩ (fun h5_2 => ?_) (fun h5_2 => ?_)
    · refine z_aload_n e_X4_sign_10 rfl ?_
      refine z_getr (fi := 0) (r := some (o + 1)) e_X4_sign_11 f_RX4_12 to rfl rfl (ro0) ?_
      refine z_iload_n e_X4_sign_14 rfl ?_
      refine z_callVi (M' := M_X3_startOfLine) (As := [zi line]) (rest := []) e_X4_sign_15 l_RX4_163 rfl rfl rfl rfl t0 ⟨_, _, rfl⟩ (c_X3_startOfLine ⟨hc, hd, hr⟩ hH (by omega) ⟨by omega, by omega⟩) (fun sl mq rq hq => ?_)
      obtain ⟨hsl0, e2q, e3q⟩ := hq
      subst mq rq
      have hcnt := m_count_b hH
      have hlb := m_lbeg_spec (P := P) (line := line) (n := m_count P) (by omega)
      have hsl : (m_lbeg P (m_count P) line < m_count P ∧ sl = m_lbeg P (m_count P) line) ∨ (¬ m_lbeg P (m_count P) line < m_count P ∧ sl = -1) := by rw [hsl0]; split <;> omega
      clear hsl0
      refine z_istore_n (ls' := [some (zo o), some (zi line), some (zi k), some (zi sl)]) e_X4_sign_18 rfl rfl rfl ?_
      refine z_iload_n e_X4_sign_19 rfl ?_
      refine z_if_lt e_X4_sign_20 ⟨by omega, by omega⟩ (fun h20_3 => ?_) (fun h20_3 => ?_)
      · refine z_bipush e_X4_sign_30 (by decide +kernel) ?_
        refine z_iret e_X4_sign_32 (Or.inl rfl) rfl rfl ⟨rfl, _, rfl, ?_⟩
        refine ⟨?_, ⟨mi (o + 73), mr (o + 73), (z_uself _ _).symm, (z_uself _ _).symm⟩⟩
        unfold m_signA
        rw [if_neg (by omega)]
        by_cases qq : m_lbeg P (m_count P) line < m_count P
        · rw [if_pos qq]
          have hle := m_lend_spec (P := P) (n := m_count P) (k := m_lbeg P (m_count P) line) qq
          have hln := m_line_len (b := m_lbeg P (m_count P) line) (e := m_lend P (m_count P) (m_lbeg P (m_count P) line)) hH (by omega) hle.1 (by omega)
          unfold m_sgA
          rw [List.getElem?_eq_none (by omega)]; rfl
        · rw [if_neg qq]
      · refine z_iload_n e_X4_sign_23 rfl ?_
        refine z_sipush e_X4_sign_24 (by decide +kernel) ?_
        refine z_icmp_lt e_X4_sign_27 ⟨by omega, by omega⟩ (by decide) (fun h27_4 => ?_) (fun h27_4 => ?_)
        · refine z_aload_n e_X4_sign_33 rfl ?_
          refine z_getr (fi := 2) (r := some (o + 73)) e_X4_sign_34 f_RX4_23 to rfl rfl (ro2) ?_
          refine z_aload_n e_X4_sign_37 rfl ?_
          refine z_getr (fi := 0) (r := some (o + 1)) e_X4_sign_38 f_RX4_12 to rfl rfl (ro0) ?_
          refine z_iload_n e_X4_sign_41 rfl ?_
          refine z_aload_n e_X4_sign_42 rfl ?_
          refine z_getr (fi := 0) (r := some (o + 1)) e_X4_sign_43 f_RX4_12 to rfl rfl (ro0) ?_
          refine z_iload_n e_X4_sign_46 rfl ?_
          refine z_callVi (M' := M_X3_endOf) (As := [zi sl]) (rest := [zi sl, zo (o + 1), zo (o + 73)]) e_X4_sign_47 l_RX4_166 rfl rfl rfl rfl t0 ⟨_, _, rfl⟩ (c_X3_endOf ⟨hc, hd, hr⟩ hH (by omega) (by omega)) (fun xq mq rq hq => ?_)
          obtain ⟨e1q, e2q, e3q⟩ := hq
          subst xq mq rq
          have hle := m_lend_spec (P := P) (n := m_count P) (k := sl) (by omega)
          have hle1 := hle.1
          have hle2 := hle.2.1
          have hp := c_X1_signOf (b := sl) (e := m_lend P (m_count P) sl) (k := k) (f := mr (o + 73)) (G := mi (o + 73)) tq ⟨hc, hd, hr⟩ hH (by omega) (by omega) (by omega) (by omega) (by omega) (by omega)
          rw [z_uself, z_uself] at hp
          refine z_iload_n e_X4_sign_50 rfl ?_
          refine z_callVi (M' := M_X1_signOf) (As := [zo (o + 1), zi sl, zi (m_lend P (m_count P) sl), zi k]) (rest := []) e_X4_sign_51 l_RX4_175 rfl rfl rfl rfl tq ⟨_, _, rfl⟩ (hp) (fun xp mq rq hq => ?_)
          obtain ⟨hxp, G9, f9, e2q, e3q⟩ := hq
          subst mq rq
          refine z_iret e_X4_sign_54 (Or.inl rfl) rfl rfl ⟨rfl, _, rfl, ?_⟩
          refine ⟨?_, G9, f9, rfl, rfl⟩
          have e : m_lbeg P (m_count P) line = sl := by omega
          unfold m_signA
          rw [if_neg (by omega), if_pos (by omega), e]
          exact hxp
        · refine z_bipush e_X4_sign_30 (by decide +kernel) ?_
          refine z_iret e_X4_sign_32 (Or.inl rfl) rfl rfl ⟨rfl, _, rfl, ?_⟩
          refine ⟨?_, ⟨mi (o + 73), mr (o + 73), (z_uself _ _).symm, (z_uself _ _).symm⟩⟩
          unfold m_signA
          rw [if_neg (by omega)]
          by_cases qq : m_lbeg P (m_count P) line < m_count P
          · rw [if_pos qq]
            have hle := m_lend_spec (P := P) (n := m_count P) (k := m_lbeg P (m_count P) line) qq
            have hln := m_line_len (b := m_lbeg P (m_count P) line) (e := m_lend P (m_count P) (m_lbeg P (m_count P) line)) hH (by omega) hle.1 (by omega)
            unfold m_sgA
            rw [List.getElem?_eq_none (by omega)]; rfl
          · rw [if_neg qq]
    · refine z_iconst e_X4_sign_8 ?_
      refine z_iret e_X4_sign_9 (Or.inl rfl) rfl rfl ⟨rfl, _, rfl, ?_⟩
      refine ⟨?_, ⟨mi (o + 73), mr (o + 73), (z_uself _ _).symm, (z_uself _ _).symm⟩⟩
      unfold m_signA
      rw [if_pos (by omega)]
set_option maxHeartbeats 1000000 in
set_option maxRecDepth 100000 in
theorem c_X4_ifWidth {E : z_E} {mi : z_Mi} {mr : z_Mr} {o : Nat} {P : Int → Int} {n nx : Int} {w : Int} (hX : z_X E o mi mr P n nx) (hz1 : z_R w) : z_mi M_X4_ifWidth E [zo o, zi w] mi mr (fun x m r => x = (if 4 ≤ w ∧ w ≤ 20 then y_many P w else -1) ∧ ∃ (G' : Int → Int) (f' : Int → Option Nat), m = z_u mi (o + 73) G' ∧ r = z_u mr (o + 73) f') := by
  obtain ⟨⟨to, ta, tq, ro0, ro1, ro2, rok⟩, ⟨fo3, fo4, nb0, nb1, nb2, nb3⟩, hH, ⟨sg, hS⟩, hM⟩ := id hX
  obtain ⟨hc, hd, hr⟩ := id hS
  obtain ⟨t0, t1, t2, t3, t4, q0, q1, q2⟩ := id hc
  obtain ⟨d3, d4, d5, d6, d7, d8, u0, u1, u2, uk, uz⟩ := id hd
  obtain ⟨hw0, hw1, hh0, hh1, hf0, hf1, hf2, hr0, hr1, hc0, hc1, hp0, hp1, hk0, hk1, hi0, hi1, hkp, hP⟩ := id hH
  refine z_ofi (ls := [some (zo o), some (zi w)]) rfl (fun _ _ => trivial) ⟨rfl, rfl⟩ (Nat.le_of_ble_eq_true rfl) rfl ?_
  refine z_iload_n e_X4_ifWidth_0 rfl ?_
  refine z_callSi (M' := M_X4_isWidth) (As := [zi w]) (rest := []) e_X4_ifWidth_1 l_RX4_138 rfl rfl rfl rfl (c_X4_isWidth hz1) (fun xq mq rq hq => ?_)
  obtain ⟨e1q, e2q, e3q⟩ := hq
  subst xq mq rq
  refine z_if_eqB e_X4_ifWidth_4  (fun h4_1 => ?_) (fun h4_1 => ?_)
  · refine z_iconst e_X4_ifWidth_22 ?_
    refine z_iret e_X4_ifWidth_23 (Or.inl rfl) rfl rfl ⟨rfl, _, rfl, ?_⟩
    refine ⟨(if_neg (by omega)).symm, ⟨mi (o + 73), mr (o + 73), (z_uself _ _).symm, (z_uself _ _).symm⟩⟩
  · have hp := c_X1_rowsIn (w := w) (f := mr (o + 73)) (G := mi (o + 73)) tq ⟨hc, hd, hr⟩ hH (by omega) (by omega) (by omega)
    rw [z_uself, z_uself] at hp
    refine z_aload_n e_X4_ifWidth_7 rfl ?_
    refine z_getr (fi := 2) (r := some (o + 73)) e_X4_ifWidth_8 f_RX4_23 to rfl rfl (ro2) ?_
    refine z_aload_n e_X4_ifWidth_11 rfl ?_
    refine z_getr (fi := 0) (r := some (o + 1)) e_X4_ifWidth_12 f_RX4_12 to rfl rfl (ro0) ?_
    refine z_iload_n e_X4_ifWidth_15 rfl ?_
    refine z_callVi (M' := M_X1_rowsIn) (As := [zo (o + 1), zi w]) (rest := []) e_X4_ifWidth_16 l_RX4_190 rfl rfl rfl rfl tq ⟨_, _, rfl⟩ (hp) (fun xp mq rq hq => ?_)
    obtain ⟨hxp, G9, f9, e2q, e3q⟩ := hq
    subst mq rq
    refine z_goto e_X4_ifWidth_19 ?_
    refine z_iret e_X4_ifWidth_23 (Or.inl rfl) rfl rfl ⟨rfl, _, rfl, ?_⟩
    exact ⟨hxp.trans (if_pos (by omega)).symm, G9, f9, rfl, rfl⟩
