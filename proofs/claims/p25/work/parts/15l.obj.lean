set_option maxHeartbeats 1000000 in
set_option maxRecDepth 100000 in
theorem c_X4_insertCells {E : z_E} {mi : z_Mi} {mr : z_Mr} {o : Nat} {P : Int → Int} {n nx : Int} {k : Int} (hX : z_X E o mi mr P n nx) (hz : z_R k) : z_mi M_X4_insertCells E [zo o, zi k] mi mr (fun x m r => ((1 ≤ k ∧ k ≤ 20) → x = m_fill (p_rec n P) (24 + (p_rec n P) 4) - m_fill (p_insc k (p_rec n P)) (24 + (p_rec n P) 4) ∧ z_Z E o mi mr (p_insc k (p_rec n P)) (n_rec n) m r) ∧ (¬ (1 ≤ k ∧ k ≤ 20) → x = -1 ∧ m = mi ∧ r = mr)) := by
  obtain ⟨⟨to, ta, tq, ro0, ro1, ro2, rok⟩, ⟨fo3, fo4, nb0, nb1, nb2, nb3⟩, hH, ⟨sg, hS⟩, hM⟩ := id hX
  obtain ⟨hc, hd, hr⟩ := id hS
  obtain ⟨t0, t1, t2, t3, t4, q0, q1, q2⟩ := id hc
  obtain ⟨d3, d4, d5, d6, d7, d8, u0, u1, u2, uk, uz⟩ := id hd
  obtain ⟨hw0, hw1, hh0, hh1, hf0, hf1, hf2, hr0, hr1, hc0, hc1, hp0, hp1, hk0, hk1, hi0, hi1, hkp, hP⟩ := id hH
  refine z_ofi (ls := [some (zo o), some (zi k), none, none]) rfl (fun _ _ => trivial) ⟨rfl, rfl⟩ (Nat.le_of_ble_eq_true rfl) rfl ?_
  refine z_iload_n e_X4_insertCells_0 rfl ?_
  refine z_iconst e_X4_insertCells_1 ?_
  refine z_icmp_lt e_X4_insertCells_2 ⟨by omega, by omega⟩ (by decide) (fun h2_1 => ?_) (fun h2_1 => ?_)
  · refine z_iconst e_X4_insertCells_11 ?_
    refine z_iret e_X4_insertCells_12 (Or.inl rfl) rfl rfl ⟨rfl, _, rfl, ?_⟩
    exact ⟨fun q => absurd q (by omega), fun _ => ⟨rfl, rfl, rfl⟩⟩
  · refine z_iload_n e_X4_insertCells_5 rfl ?_
    refine z_bipush e_X4_insertCells_6 (by decide +kernel) ?_
    refine z_icmp_le e_X4_insertCells_8 ⟨by omega, by omega⟩ (by decide) (fun h8_2 => ?_) (fun h8_2 => ?_)
    · refine z_aload_n e_X4_insertCells_13 rfl ?_
      refine z_callVr (M' := M_X4_remember) (As := []) (rest := []) e_X4_insertCells_14 l_RX4_38 rfl rfl rfl rfl to ⟨_, _, rfl⟩ (c_X4_remember hX) (fun x1 m1 r1 hq => ?_)
      obtain ⟨hxr, hX, hSr, fx1⟩ := hq
      subst hxr
      generalize hn1 : (if n < 8 then n + 1 else 8) = n1 at hX
      generalize hnx1 : (nx + 1) % 8 = nx1 at hX
      have g1_0 : (p_rec n P) 0 = P 0 := p_rec_hd nb2 (by decide)
      have g1_1 : (p_rec n P) 1 = P 1 := p_rec_hd nb2 (by decide)
      have g1_2 : (p_rec n P) 2 = P 2 := p_rec_hd nb2 (by decide)
      have g1_3 : (p_rec n P) 3 = P 3 := p_rec_hd nb2 (by decide)
      have g1_4 : (p_rec n P) 4 = P 4 := p_rec_hd nb2 (by decide)
      have g1_5 : (p_rec n P) 5 = P 5 := p_rec_hd nb2 (by decide)
      have g1_6 : (p_rec n P) 6 = P 6 := p_rec_hd nb2 (by decide)
      have g1_7 : (p_rec n P) 7 = P 7 := p_rec_hd nb2 (by decide)
      have g1_14 : (p_rec n P) 14 = P 14 := p_rec_hd nb2 (by decide)
      generalize hP1 : p_rec n P = P1 at hX hSr g1_0 g1_1 g1_2 g1_3 g1_4 g1_5 g1_6 g1_7 g1_14
      obtain ⟨⟨to, ta, tq, ro0, ro1, ro2, rok⟩, ⟨fo3, fo4, nb0, nb1, nb2, nb3⟩, hH, ⟨sg, hS⟩, hM⟩ := id hX
      obtain ⟨hc, hd, hr⟩ := id hS
      obtain ⟨t0, t1, t2, t3, t4, q0, q1, q2⟩ := id hc
      obtain ⟨d3, d4, d5, d6, d7, d8, u0, u1, u2, uk, uz⟩ := id hd
      obtain ⟨hw0, hw1, hh0, hh1, hf0, hf1, hf2, hr0, hr1, hc0, hc1, hp0, hp1, hk0, hk1, hi0, hi1, hkp, hP⟩ := id hH
      refine z_pop e_X4_insertCells_17 rfl ?_
      refine z_aload_n e_X4_insertCells_18 rfl ?_
      refine z_getr (fi := 0) (r := some (o + 1)) e_X4_insertCells_19 f_RX4_12 to rfl rfl (ro0) ?_
      refine z_aload_n e_X4_insertCells_22 rfl ?_
      refine z_getr (fi := 0) (r := some (o + 1)) e_X4_insertCells_23 f_RX4_12 to rfl rfl (ro0) ?_
      refine z_getr (fi := 1) (r := some (o + 1 + 2)) e_X4_insertCells_26 f_RX4_59 t0 rfl rfl (q1) ?_
      refine z_geti (fi := 0) (x := (P1 4)) e_X4_insertCells_29 f_RX4_63 t2 rfl rfl (u0) ?_
      refine z_callVr (M' := M_X3_screenRow) (As := [zi (P1 4)]) (rest := []) e_X4_insertCells_32 l_RX4_109 rfl rfl rfl rfl t0 ⟨_, _, rfl⟩ (d_X3_screenRow hc hd hr hH (by omega) (by omega)) (fun xq mq rq hq => ?_)
      obtain ⟨e1q, e2q, e3q⟩ := hq
      subst xq mq rq
      refine z_astore_n (ls' := [some (zo o), some (zi k), some (zo (sg (P1 14 + (P1 4)))), none]) e_X4_insertCells_35 rfl rfl rfl ?_
      refine z_aload_n e_X4_insertCells_36 rfl ?_
      refine z_callVi (M' := M_X2_taken) (As := []) (rest := []) e_X4_insertCells_37 l_RX4_113 rfl rfl rfl rfl (hr.1 (P1 14 + (P1 4)) (by omega) (by omega)).2.1.1 ⟨_, _, rfl⟩ (d_X2_taken (hr.1 (P1 14 + P1 4) (by omega) (by omega)).2.1 (hr.1 (P1 14 + P1 4) (by omega) (by omega)).2.2.2.2.1) (fun xq mq rq hq => ?_)
      obtain ⟨e1q, e2q, e3q⟩ := hq
      rw [c_tak_eq (hr.2.2 (P1 14 + P1 4) (by omega) (by omega)).1 (by omega) (by omega), p_rows_scr (by omega)] at e1q
      replace e1q : xq = m_fill P1 (24 + P1 4) := e1q
      subst xq mq rq
      refine z_istore_n (ls' := [some (zo o), some (zi k), some (zo (sg (P1 14 + (P1 4)))), some (zi (m_fill P1 (24 + P1 4)))]) e_X4_insertCells_40 rfl rfl rfl ?_
      refine z_aload_n e_X4_insertCells_41 rfl ?_
      refine z_aload_n e_X4_insertCells_42 rfl ?_
      refine z_getr (fi := 0) (r := some (o + 1)) e_X4_insertCells_43 f_RX4_12 to rfl rfl (ro0) ?_
      refine z_getr (fi := 1) (r := some (o + 1 + 2)) e_X4_insertCells_46 f_RX4_59 t0 rfl rfl (q1) ?_
      refine z_geti (fi := 1) (x := (P1 5)) e_X4_insertCells_49 f_RX4_68 t2 rfl rfl (u1) ?_
      refine z_iload_n e_X4_insertCells_52 rfl ?_
      refine z_aload_n e_X4_insertCells_53 rfl ?_
      refine z_getr (fi := 0) (r := some (o + 1)) e_X4_insertCells_54 f_RX4_12 to rfl rfl (ro0) ?_
      refine z_geti (fi := 5) (x := (P1 0)) e_X4_insertCells_57 f_RX4_56 t0 rfl rfl (d5) ?_
      refine z_aload_n e_X4_insertCells_60 rfl ?_
      refine z_getr (fi := 0) (r := some (o + 1)) e_X4_insertCells_61 f_RX4_12 to rfl rfl (ro0) ?_
      refine z_getr (fi := 1) (r := some (o + 1 + 2)) e_X4_insertCells_64 f_RX4_59 t0 rfl rfl (q1) ?_
      refine z_geti (fi := 1) (x := (P1 5)) e_X4_insertCells_67 f_RX4_68 t2 rfl rfl (u1) ?_
      refine z_isub e_X4_insertCells_70 ?_
      refine z_min (x := (if ((P1 0) - (P1 5)) < k then ((P1 0) - (P1 5)) else k)) e_X4_insertCells_71 mm_RX4_116 rfl rfl ⟨by omega, by omega⟩ ⟨by omega, by omega⟩ (rfl) ?_
      have emc : (if P1 0 - P1 5 < k then P1 0 - P1 5 else k) = m_mc k P1 := by unfold m_mc; split <;> split <;> omega
      rw [emc]
      have hmcb : 1 ≤ m_mc k P1 ∧ P1 5 + m_mc k P1 ≤ P1 0 := by unfold m_mc; split <;> omega
      refine z_aload_n e_X4_insertCells_74 rfl ?_
      refine z_getr (fi := 0) (r := some (o + 1)) e_X4_insertCells_75 f_RX4_12 to rfl rfl (ro0) ?_
      refine z_geti (fi := 5) (x := (P1 0)) e_X4_insertCells_78 f_RX4_56 t0 rfl rfl (d5) ?_
      refine z_callVv (M' := M_X2_openCells) (As := [zi (P1 5), zi (m_mc k P1), zi (P1 0)]) (rest := []) e_X4_insertCells_81 l_RX4_122 rfl rfl rfl rfl (hr.1 (P1 14 + (P1 4)) (by omega) (by omega)).2.1.1 ⟨_, _, rfl⟩ (h_X2_openCells (w := P1 4) (k := m_mc k P1) hc hd hr hH (by omega) (by omega) (by omega) (by omega) (by omega)) (fun m2 r2 hq => ?_)
      obtain ⟨e3q, hS2, hfr2⟩ := hq
      subst e3q
      have g2_0 : (p_upd P1 (24 + P1 4) (r_insc (P1 0) (P1 5) (m_mc k P1) (p_row P1 (24 + P1 4)))) 0 = P1 0 := p_upd_hd _ _ (by omega)
      have g2_1 : (p_upd P1 (24 + P1 4) (r_insc (P1 0) (P1 5) (m_mc k P1) (p_row P1 (24 + P1 4)))) 1 = P1 1 := p_upd_hd _ _ (by omega)
      have g2_2 : (p_upd P1 (24 + P1 4) (r_insc (P1 0) (P1 5) (m_mc k P1) (p_row P1 (24 + P1 4)))) 2 = P1 2 := p_upd_hd _ _ (by omega)
      have g2_3 : (p_upd P1 (24 + P1 4) (r_insc (P1 0) (P1 5) (m_mc k P1) (p_row P1 (24 + P1 4)))) 3 = P1 3 := p_upd_hd _ _ (by omega)
      have g2_4 : (p_upd P1 (24 + P1 4) (r_insc (P1 0) (P1 5) (m_mc k P1) (p_row P1 (24 + P1 4)))) 4 = P1 4 := p_upd_hd _ _ (by omega)
      have g2_5 : (p_upd P1 (24 + P1 4) (r_insc (P1 0) (P1 5) (m_mc k P1) (p_row P1 (24 + P1 4)))) 5 = P1 5 := p_upd_hd _ _ (by omega)
      have g2_6 : (p_upd P1 (24 + P1 4) (r_insc (P1 0) (P1 5) (m_mc k P1) (p_row P1 (24 + P1 4)))) 6 = P1 6 := p_upd_hd _ _ (by omega)
      have g2_7 : (p_upd P1 (24 + P1 4) (r_insc (P1 0) (P1 5) (m_mc k P1) (p_row P1 (24 + P1 4)))) 7 = P1 7 := p_upd_hd _ _ (by omega)
      have g2_14 : (p_upd P1 (24 + P1 4) (r_insc (P1 0) (P1 5) (m_mc k P1) (p_row P1 (24 + P1 4)))) 14 = P1 14 := p_upd_hd _ _ (by omega)
      have hX := z_X_T hX ⟨sg, hS2.1, hS2.2.1, hS2.2.2, hfr2⟩ (p_hd_upd hH (by omega) (z_pr_insc (z_pr_row (p_hd_pr hH) _))) (p_o_upd (p_o_r _) (by omega))
      have fx2 : z_Xf o m1 r2 m2 r2 := fun c hc9 => hfr2 c (by omega)
      generalize hP2 : p_upd P1 (24 + P1 4) (r_insc (P1 0) (P1 5) (m_mc k P1) (p_row P1 (24 + P1 4))) = P2 at hX hS2 g2_0 g2_1 g2_2 g2_3 g2_4 g2_5 g2_6 g2_7 g2_14
      obtain ⟨hc, hd, hr⟩ := hS2
      have hH := hX.2.2.1
      obtain ⟨t0, t1, t2, t3, t4, q0, q1, q2⟩ := id hc
      obtain ⟨d3, d4, d5, d6, d7, d8, u0, u1, u2, uk, uz⟩ := id hd
      obtain ⟨hw0, hw1, hh0, hh1, hf0, hf1, hf2, hr0, hr1, hc0, hc1, hp0, hp1, hk0, hk1, hi0, hi1, hkp, hP⟩ := id hH
      have hrx := hr.1 (P1 14 + P1 4) (by omega) (by omega)
      refine z_aload_n e_X4_insertCells_84 rfl ?_
      refine z_getr (fi := 0) (r := some (o + 1)) e_X4_insertCells_85 f_RX4_12 to rfl rfl (ro0) ?_
      refine z_getr (fi := 1) (r := some (o + 1 + 2)) e_X4_insertCells_88 f_RX4_59 t0 rfl rfl (q1) ?_
      refine z_iconst e_X4_insertCells_91 ?_
      refine z_putiN (fi := 2) (f := (m2 (o + 1 + 2))) e_X4_insertCells_92 f_RX4_91 t2 rfl rfl (Or.inr ⟨rfl, Or.inl rfl⟩) (rfl) ?_
      refine z_iload_n e_X4_insertCells_95 rfl ?_
      refine z_aload_n e_X4_insertCells_96 rfl ?_
      refine z_callVi (M' := M_X2_taken) (As := []) (rest := [zi (m_fill P1 (24 + P1 4))]) e_X4_insertCells_97 l_RX4_113 rfl rfl rfl rfl (hr.1 (P1 14 + (P1 4)) (by omega) (by omega)).2.1.1 ⟨_, _, rfl⟩ (d_X2_taken (hr.1 (P1 14 + P1 4) (by omega) (by omega)).2.1 (by rw [z_un (by omega)]; exact hrx.2.2.2.2.1)) (fun xq mq rq hq => ?_)
      obtain ⟨e1q, e2q, e3q⟩ := hq
      rw [z_un (show sg (P1 14 + P1 4) + 1 ≠ o + 1 + 2 by omega), c_tak_eq (hr.2.2 (P1 14 + P1 4) (by omega) (by omega)).1 (by omega) (by omega), ← g2_14, p_rows_scr (by omega)] at e1q
      replace e1q : xq = m_fill P2 (24 + P1 4) := e1q
      subst xq mq rq
      refine z_isub e_X4_insertCells_100 ?_
      refine z_iret e_X4_insertCells_101 (Or.inl rfl) rfl rfl ⟨rfl, _, rfl, ?_⟩
      have ep : p_insc k P1 = z_v P2 6 0 := by unfold p_insc; rw [hP2]
      have hT := z_T_cur (F := z_v (m2 (o + 1 + 2)) 2 0) (Q := z_v P2 6 0) hc hd hr hH (fun k _ hk => z_vn (by omega)) ((z_vn (by decide)).trans (u0.trans (z_vn (by decide)).symm)) ((z_vn (by decide)).trans (u1.trans (z_vn (by decide)).symm)) ((z_vs _ _ _).trans (z_vs _ _ _).symm)
      have hX := z_X_T hX hT (p_hd_6 hH) (p_o_v (p_o_r _) (by decide))
      have fx3 := z_Xf_T (o := o) hT (by omega)
      refine ⟨fun _ => ⟨?_, ⟨nx1, ?_⟩, z_Xf_t fx1 (z_Xf_t fx2 fx3)⟩, fun q => absurd (by omega) q⟩
      · rw [ep, m_fill_6 (by omega)]
      · have hnr : n_rec n = n1 := hn1
        rw [hnr, ep]; exact hX
    · refine z_iconst e_X4_insertCells_11 ?_
      refine z_iret e_X4_insertCells_12 (Or.inl rfl) rfl rfl ⟨rfl, _, rfl, ?_⟩
      exact ⟨fun q => absurd q (by omega), fun _ => ⟨rfl, rfl, rfl⟩⟩
