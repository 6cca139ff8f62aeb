set_option maxHeartbeats 1000000 in
set_option maxRecDepth 100000 in
theorem c_X4_eraseScreen {E : z_E} {mi : z_Mi} {mr : z_Mr} {o : Nat} {P : Int → Int} {n nx : Int} {kind : Int} (hX : z_X E o mi mr P n nx) (hz : z_R kind) : z_mi M_X4_eraseScreen E [zo o, zi kind] mi mr (fun x m r => ((0 ≤ kind ∧ kind ≤ 2) → x = m_fillA (p_rec n P) - m_fillA (p_escr kind (p_rec n P)) ∧ z_Z E o mi mr (p_escr kind (p_rec n P)) (n_rec n) m r) ∧ (¬ (0 ≤ kind ∧ kind ≤ 2) → x = -1 ∧ m = mi ∧ r = mr)) := by
  obtain ⟨⟨to, ta, tq, ro0, ro1, ro2, rok⟩, ⟨fo3, fo4, nb0, nb1, nb2, nb3⟩, hH, ⟨sg, hS⟩, hM⟩ := id hX
  obtain ⟨hc, hd, hr⟩ := id hS
  obtain ⟨t0, t1, t2, t3, t4, q0, q1, q2⟩ := id hc
  obtain ⟨d3, d4, d5, d6, d7, d8, u0, u1, u2, uk, uz⟩ := id hd
  obtain ⟨hw0, hw1, hh0, hh1, hf0, hf1, hf2, hr0, hr1, hc0, hc1, hp0, hp1, hk0, hk1, hi0, hi1, hkp, hP⟩ := id hH
  refine z_ofi (ls := [some (zo o), some (zi kind), none]) rfl (fun _ _ => trivial) ⟨rfl, rfl⟩ (Nat.le_of_ble_eq_true rfl) rfl ?_
  refine z_iload_n e_X4_eraseScreen_0 rfl ?_
  refine z_if_lt e_X4_eraseScreen_1 ⟨by omega, by omega⟩ (fun h1_1 => ?_) (fun h1_1 => ?_)
  · refine z_iconst e_X4_eraseScreen_9 ?_
    refine z_iret e_X4_eraseScreen_10 (Or.inl rfl) rfl rfl ⟨rfl, _, rfl, ?_⟩
    exact ⟨fun q => absurd q (by omega), fun _ => ⟨rfl, rfl, rfl⟩⟩
  · refine z_iload_n e_X4_eraseScreen_4 rfl ?_
    refine z_iconst e_X4_eraseScreen_5 ?_
    refine z_icmp_le e_X4_eraseScreen_6 ⟨by omega, by omega⟩ (by decide) (fun h6_2 => ?_) (fun h6_2 => ?_)
    · refine z_aload_n e_X4_eraseScreen_11 rfl ?_
      refine z_callVr (M' := M_X4_remember) (As := []) (rest := []) e_X4_eraseScreen_12 l_RX4_38 rfl rfl rfl rfl to ⟨_, _, rfl⟩ (c_X4_remember hX) (fun x1 m1 r1 hq => ?_)
      obtain ⟨hxr, hX, hSr, fx1⟩ := hq
      subst hxr
      generalize hn1 : (if n < 8 then n + 1 else 8) = n1 at hX
      generalize hnx1 : (nx + 1) % 8 = nx1 at hX
      have g1_0 : (p_rec n P) 0 = P 0 := p_rec_hd nb2 (by decide)
      have g1_1 : (p_rec n P) 1 = P 1 := p_rec_hd nb2 (by decide)
      have g1_2 : (p_rec n P) 2 = P 2 := p_rec_hd nb2 (by decide)
      have g1_3 : (p_rec n P) 3 = P 3 := p_rec_hd nb2 (by decide)
      have g1_4 : (p_rec n P) 4 = P 4 := p_rec_hd nb2 (by decide)
      have g1_5 : (p_rec n P) 5 = P 5 := p_rec_hd nb2 (by decide)
      have g1_6 : (p_rec n P) 6 = P 6 := p_rec_hd nb2 (by decide)
      have g1_7 : (p_rec n P) 7 = P 7 := p_rec_hd nb2 (by decide)
      have g1_14 : (p_rec n P) 14 = P 14 := p_rec_hd nb2 (by decide)
      generalize hP1 : p_rec n P = P1 at hX hSr g1_0 g1_1 g1_2 g1_3 g1_4 g1_5 g1_6 g1_7 g1_14
      obtain ⟨⟨to, ta, tq, ro0, ro1, ro2, rok⟩, ⟨fo3, fo4, nb0, nb1, nb2, nb3⟩, hH, ⟨sg, hS⟩, hM⟩ := id hX
      obtain ⟨hc, hd, hr⟩ := id hS
      obtain ⟨t0, t1, t2, t3, t4, q0, q1, q2⟩ := id hc
      obtain ⟨d3, d4, d5, d6, d7, d8, u0, u1, u2, uk, uz⟩ := id hd
      obtain ⟨hw0, hw1, hh0, hh1, hf0, hf1, hf2, hr0, hr1, hc0, hc1, hp0, hp1, hk0, hk1, hi0, hi1, hkp, hP⟩ := id hH
      refine z_pop e_X4_eraseScreen_15 rfl ?_
      have hHr := hH
      refine z_aload_n e_X4_eraseScreen_16 rfl ?_
      refine z_getr (fi := 0) (r := some (o + 1)) e_X4_eraseScreen_17 f_RX4_12 to rfl rfl (ro0) ?_
      refine z_callVi (M' := M_X3_taken) (As := []) (rest := []) e_X4_eraseScreen_20 l_RX4_84 rfl rfl rfl rfl t0 ⟨_, _, rfl⟩ (c_X3_taken ⟨hc, hd, hr⟩ hH) (fun xq mq rq hq => ?_)
      obtain ⟨e1q, e2q, e3q⟩ := hq
      rw [n_takA_fill] at e1q
      subst xq mq rq
      refine z_istore_n (ls' := [some (zo o), some (zi kind), some (zi (m_fillA P1))]) e_X4_eraseScreen_23 rfl rfl rfl ?_
      refine z_aload_n e_X4_eraseScreen_24 rfl ?_
      refine z_getr (fi := 0) (r := some (o + 1)) e_X4_eraseScreen_25 f_RX4_12 to rfl rfl (ro0) ?_
      refine z_iload_n e_X4_eraseScreen_28 rfl ?_
      refine z_callVv (M' := M_X3_eraseInRow) (As := [zi kind]) (rest := []) e_X4_eraseScreen_29 l_RX4_88 rfl rfl rfl rfl t0 ⟨_, _, rfl⟩ (e_X3_eraseInRow hc hd hr hH (by omega) (by omega)) (fun m2 r2 hq => ?_)
      have hX := z_X_T hX hq (p_hd_erases hH hr0) (p_o_erases hH (by omega))
      have fx2 := z_Xf_T (o := o) hq (by omega)
      have g2_0 : (p_erases P1 (P1 4) (if kind = 0 then P1 5 else 0) (if kind = 1 then P1 5 else P1 0 - 1)) 0 = P1 0 := p_erases_hd (by decide) hr0
      have g2_1 : (p_erases P1 (P1 4) (if kind = 0 then P1 5 else 0) (if kind = 1 then P1 5 else P1 0 - 1)) 1 = P1 1 := p_erases_hd (by decide) hr0
      have g2_2 : (p_erases P1 (P1 4) (if kind = 0 then P1 5 else 0) (if kind = 1 then P1 5 else P1 0 - 1)) 2 = P1 2 := p_erases_hd (by decide) hr0
      have g2_3 : (p_erases P1 (P1 4) (if kind = 0 then P1 5 else 0) (if kind = 1 then P1 5 else P1 0 - 1)) 3 = P1 3 := p_erases_hd (by decide) hr0
      have g2_4 : (p_erases P1 (P1 4) (if kind = 0 then P1 5 else 0) (if kind = 1 then P1 5 else P1 0 - 1)) 4 = P1 4 := p_erases_hd (by decide) hr0
      have g2_5 : (p_erases P1 (P1 4) (if kind = 0 then P1 5 else 0) (if kind = 1 then P1 5 else P1 0 - 1)) 5 = P1 5 := p_erases_hd (by decide) hr0
      have g2_6 : (p_erases P1 (P1 4) (if kind = 0 then P1 5 else 0) (if kind = 1 then P1 5 else P1 0 - 1)) 6 = P1 6 := p_erases_hd (by decide) hr0
      have g2_7 : (p_erases P1 (P1 4) (if kind = 0 then P1 5 else 0) (if kind = 1 then P1 5 else P1 0 - 1)) 7 = P1 7 := p_erases_hd (by decide) hr0
      have g2_14 : (p_erases P1 (P1 4) (if kind = 0 then P1 5 else 0) (if kind = 1 then P1 5 else P1 0 - 1)) 14 = P1 14 := p_erases_hd (by decide) hr0
      generalize hP2 : p_erases P1 (P1 4) (if kind = 0 then P1 5 else 0) (if kind = 1 then P1 5 else P1 0 - 1) = P2 at hX g2_0 g2_1 g2_2 g2_3 g2_4 g2_5 g2_6 g2_7 g2_14
      obtain ⟨⟨to, ta, tq, ro0, ro1, ro2, rok⟩, ⟨fo3, fo4, nb0, nb1, nb2, nb3⟩, hH, ⟨sg, hS⟩, hM⟩ := id hX
      obtain ⟨hc, hd, hr⟩ := id hS
      obtain ⟨t0, t1, t2, t3, t4, q0, q1, q2⟩ := id hc
      obtain ⟨d3, d4, d5, d6, d7, d8, u0, u1, u2, uk, uz⟩ := id hd
      obtain ⟨hw0, hw1, hh0, hh1, hf0, hf1, hf2, hr0, hr1, hc0, hc1, hp0, hp1, hk0, hk1, hi0, hi1, hkp, hP⟩ := id hH
      refine z_iload_n e_X4_eraseScreen_32 rfl ?_
      refine z_if_eq e_X4_eraseScreen_33 ⟨by omega, by omega⟩ (fun h33_3 => ?_) (fun h33_3 => ?_)
      · refine z_iload_n e_X4_eraseScreen_56 rfl ?_
        refine z_iconst e_X4_eraseScreen_57 ?_
        refine z_icmp_eq e_X4_eraseScreen_58 ⟨by omega, by omega⟩ (by decide) (fun h58_4 => ?_) (fun h58_4 => ?_)
        · exfalso; omega
        · refine z_aload_n e_X4_eraseScreen_61 rfl ?_
          refine z_getr (fi := 0) (r := some (o + 1)) e_X4_eraseScreen_62 f_RX4_12 to rfl rfl (ro0) ?_
          refine z_aload_n e_X4_eraseScreen_65 rfl ?_
          refine z_getr (fi := 0) (r := some (o + 1)) e_X4_eraseScreen_66 f_RX4_12 to rfl rfl (ro0) ?_
          refine z_getr (fi := 1) (r := some (o + 1 + 2)) e_X4_eraseScreen_69 f_RX4_59 t0 rfl rfl (q1) ?_
          refine z_geti (fi := 0) (x := (P2 4)) e_X4_eraseScreen_72 f_RX4_63 t2 rfl rfl (u0) ?_
          refine z_iconst e_X4_eraseScreen_75 ?_
          refine z_iadd e_X4_eraseScreen_76 ?_
          refine z_aload_n e_X4_eraseScreen_77 rfl ?_
          refine z_getr (fi := 0) (r := some (o + 1)) e_X4_eraseScreen_78 f_RX4_12 to rfl rfl (ro0) ?_
          refine z_geti (fi := 6) (x := (P2 1)) e_X4_eraseScreen_81 f_RX4_75 t0 rfl rfl (d6) ?_
          refine z_iconst e_X4_eraseScreen_84 ?_
          refine z_isub e_X4_eraseScreen_85 ?_
          refine z_callVv (M' := M_X3_eraseRows) (As := [zi ((P2 4) + 1), zi ((P2 1) - 1)]) (rest := []) e_X4_eraseScreen_86 l_RX4_95 rfl rfl rfl rfl t0 ⟨_, _, rfl⟩ (e_X3_eraseRows hc hd hr hH (by omega) (by omega) (by omega) (by omega)) (fun m3 r3 hq => ?_)
          have hX := z_X_T hX hq ((p_hd_ers hH (by omega)).1) (p_o_ers hH (by omega) (by omega))
          have fx3 := z_Xf_T (o := o) hq (by omega)
          have g3_0 : (p_ers P2 ((P2 4) + 1) (((P2 1) - 1) + 1)) 0 = P2 0 := (p_hd_ers hH (by omega)).2 0 (by decide)
          have g3_1 : (p_ers P2 ((P2 4) + 1) (((P2 1) - 1) + 1)) 1 = P2 1 := (p_hd_ers hH (by omega)).2 1 (by decide)
          have g3_2 : (p_ers P2 ((P2 4) + 1) (((P2 1) - 1) + 1)) 2 = P2 2 := (p_hd_ers hH (by omega)).2 2 (by decide)
          have g3_3 : (p_ers P2 ((P2 4) + 1) (((P2 1) - 1) + 1)) 3 = P2 3 := (p_hd_ers hH (by omega)).2 3 (by decide)
          have g3_4 : (p_ers P2 ((P2 4) + 1) (((P2 1) - 1) + 1)) 4 = P2 4 := (p_hd_ers hH (by omega)).2 4 (by decide)
          have g3_5 : (p_ers P2 ((P2 4) + 1) (((P2 1) - 1) + 1)) 5 = P2 5 := (p_hd_ers hH (by omega)).2 5 (by decide)
          have g3_6 : (p_ers P2 ((P2 4) + 1) (((P2 1) - 1) + 1)) 6 = P2 6 := (p_hd_ers hH (by omega)).2 6 (by decide)
          have g3_7 : (p_ers P2 ((P2 4) + 1) (((P2 1) - 1) + 1)) 7 = P2 7 := (p_hd_ers hH (by omega)).2 7 (by decide)
          have g3_14 : (p_ers P2 ((P2 4) + 1) (((P2 1) - 1) + 1)) 14 = P2 14 := (p_hd_ers hH (by omega)).2 14 (by decide)
          generalize hP3 : p_ers P2 ((P2 4) + 1) (((P2 1) - 1) + 1) = P3 at hX g3_0 g3_1 g3_2 g3_3 g3_4 g3_5 g3_6 g3_7 g3_14
          obtain ⟨⟨to, ta, tq, ro0, ro1, ro2, rok⟩, ⟨fo3, fo4, nb0, nb1, nb2, nb3⟩, hH, ⟨sg, hS⟩, hM⟩ := id hX
          obtain ⟨hc, hd, hr⟩ := id hS
          obtain ⟨t0, t1, t2, t3, t4, q0, q1, q2⟩ := id hc
          obtain ⟨d3, d4, d5, d6, d7, d8, u0, u1, u2, uk, uz⟩ := id hd
          obtain ⟨hw0, hw1, hh0, hh1, hf0, hf1, hf2, hr0, hr1, hc0, hc1, hp0, hp1, hk0, hk1, hi0, hi1, hkp, hP⟩ := id hH
          refine z_aload_n e_X4_eraseScreen_89 rfl ?_
          refine z_getr (fi := 0) (r := some (o + 1)) e_X4_eraseScreen_90 f_RX4_12 to rfl rfl (ro0) ?_
          refine z_getr (fi := 1) (r := some (o + 1 + 2)) e_X4_eraseScreen_93 f_RX4_59 t0 rfl rfl (q1) ?_
          refine z_iconst e_X4_eraseScreen_96 ?_
          refine z_putiN (fi := 2) (f := (m3 (o + 1 + 2))) e_X4_eraseScreen_97 f_RX4_91 t2 rfl rfl (Or.inr ⟨rfl, Or.inl rfl⟩) (rfl) ?_
          have hq := z_T_cur (F := z_v (m3 (o + 1 + 2)) 2 0) (Q := z_v P3 6 0) hc hd hr hH (fun k _ hk => z_vn (by omega)) ((z_vn (by decide)).trans (u0.trans (z_vn (by decide)).symm)) ((z_vn (by decide)).trans (u1.trans (z_vn (by decide)).symm)) ((z_vs _ _ _).trans (z_vs _ _ _).symm)
          generalize hm4 : (z_u m3 (o + 1 + 2) (z_v (m3 (o + 1 + 2)) 2 0)) = m4 at hq ⊢
          have hX := z_X_T hX hq (p_hd_6 hH) (p_o_v (p_o_r _) (by decide))
          have fx4 := z_Xf_T (o := o) hq (by omega)
          have g4_0 : (z_v P3 6 0) 0 = P3 0 := z_vn (by decide)
          have g4_1 : (z_v P3 6 0) 1 = P3 1 := z_vn (by decide)
          have g4_2 : (z_v P3 6 0) 2 = P3 2 := z_vn (by decide)
          have g4_3 : (z_v P3 6 0) 3 = P3 3 := z_vn (by decide)
          have g4_4 : (z_v P3 6 0) 4 = P3 4 := z_vn (by decide)
          have g4_5 : (z_v P3 6 0) 5 = P3 5 := z_vn (by decide)
          have g4_6 : (z_v P3 6 0) 6 = 0 := z_vs _ _ _
          have g4_7 : (z_v P3 6 0) 7 = P3 7 := z_vn (by decide)
          have g4_14 : (z_v P3 6 0) 14 = P3 14 := z_vn (by decide)
          generalize hP4 : z_v P3 6 0 = P4 at hX g4_0 g4_1 g4_2 g4_3 g4_4 g4_5 g4_6 g4_7 g4_14
          obtain ⟨⟨to, ta, tq, ro0, ro1, ro2, rok⟩, ⟨fo3, fo4, nb0, nb1, nb2, nb3⟩, hH, ⟨sg, hS⟩, hM⟩ := id hX
          obtain ⟨hc, hd, hr⟩ := id hS
          obtain ⟨t0, t1, t2, t3, t4, q0, q1, q2⟩ := id hc
          obtain ⟨d3, d4, d5, d6, d7, d8, u0, u1, u2, uk, uz⟩ := id hd
          obtain ⟨hw0, hw1, hh0, hh1, hf0, hf1, hf2, hr0, hr1, hc0, hc1, hp0, hp1, hk0, hk1, hi0, hi1, hkp, hP⟩ := id hH
          refine z_iload_n e_X4_eraseScreen_100 rfl ?_
          refine z_aload_n e_X4_eraseScreen_101 rfl ?_
          refine z_getr (fi := 0) (r := some (o + 1)) e_X4_eraseScreen_102 f_RX4_12 to rfl rfl (ro0) ?_
          refine z_callVi (M' := M_X3_taken) (As := []) (rest := [zi (m_fillA P1)]) e_X4_eraseScreen_105 l_RX4_84 rfl rfl rfl rfl t0 ⟨_, _, rfl⟩ (c_X3_taken ⟨hc, hd, hr⟩ hH) (fun xq mq rq hq => ?_)
          obtain ⟨e1q, e2q, e3q⟩ := hq
          rw [n_takA_fill] at e1q
          subst xq mq rq
          refine z_isub e_X4_eraseScreen_108 ?_
          refine z_iret e_X4_eraseScreen_109 (Or.inl rfl) rfl rfl ⟨rfl, _, rfl, ?_⟩
          have hag : ∀ j, 0 ≤ j → p_escr kind P1 j = P4 j := by
            rw [← hP4]
            intro j j0
            refine p_escr_cl hHr hP2 (by omega) (by omega) ?_ j j0
            rw [if_pos (by omega), ← hP3, g2_4, g2_1, show P1 1 - 1 + 1 = P1 1 by omega]
          refine ⟨fun _ => ⟨?_, ⟨nx1, ?_⟩, z_Xf_t fx1 (z_Xf_t fx2 (z_Xf_t fx3 (fx4)))⟩, fun q => absurd (by omega) q⟩
          · rw [m_fillA_ag hH hag]
          · have hnr : n_rec n = n1 := hn1
            rw [hnr]
            exact z_X_ag hX (p_hd_escr hHr) (fun j j0 _ => hag j j0)
      · refine z_aload_n e_X4_eraseScreen_36 rfl ?_
        refine z_getr (fi := 0) (r := some (o + 1)) e_X4_eraseScreen_37 f_RX4_12 to rfl rfl (ro0) ?_
        refine z_iconst e_X4_eraseScreen_40 ?_
        refine z_aload_n e_X4_eraseScreen_41 rfl ?_
        refine z_getr (fi := 0) (r := some (o + 1)) e_X4_eraseScreen_42 f_RX4_12 to rfl rfl (ro0) ?_
        refine z_getr (fi := 1) (r := some (o + 1 + 2)) e_X4_eraseScreen_45 f_RX4_59 t0 rfl rfl (q1) ?_
        refine z_geti (fi := 0) (x := (P2 4)) e_X4_eraseScreen_48 f_RX4_63 t2 rfl rfl (u0) ?_
        refine z_iconst e_X4_eraseScreen_51 ?_
        refine z_isub e_X4_eraseScreen_52 ?_
        refine z_callVv (M' := M_X3_eraseRows) (As := [zi 0, zi ((P2 4) - 1)]) (rest := []) e_X4_eraseScreen_53 l_RX4_95 rfl rfl rfl rfl t0 ⟨_, _, rfl⟩ (e_X3_eraseRows hc hd hr hH (by omega) (by omega) (by omega) (by omega)) (fun m5 r5 hq => ?_)
        have hX := z_X_T hX hq ((p_hd_ers hH (by omega)).1) (p_o_ers hH (by omega) (by omega))
        have fx5 := z_Xf_T (o := o) hq (by omega)
        have g5_0 : (p_ers P2 0 (((P2 4) - 1) + 1)) 0 = P2 0 := (p_hd_ers hH (by omega)).2 0 (by decide)
        have g5_1 : (p_ers P2 0 (((P2 4) - 1) + 1)) 1 = P2 1 := (p_hd_ers hH (by omega)).2 1 (by decide)
        have g5_2 : (p_ers P2 0 (((P2 4) - 1) + 1)) 2 = P2 2 := (p_hd_ers hH (by omega)).2 2 (by decide)
        have g5_3 : (p_ers P2 0 (((P2 4) - 1) + 1)) 3 = P2 3 := (p_hd_ers hH (by omega)).2 3 (by decide)
        have g5_4 : (p_ers P2 0 (((P2 4) - 1) + 1)) 4 = P2 4 := (p_hd_ers hH (by omega)).2 4 (by decide)
        have g5_5 : (p_ers P2 0 (((P2 4) - 1) + 1)) 5 = P2 5 := (p_hd_ers hH (by omega)).2 5 (by decide)
        have g5_6 : (p_ers P2 0 (((P2 4) - 1) + 1)) 6 = P2 6 := (p_hd_ers hH (by omega)).2 6 (by decide)
        have g5_7 : (p_ers P2 0 (((P2 4) - 1) + 1)) 7 = P2 7 := (p_hd_ers hH (by omega)).2 7 (by decide)
        have g5_14 : (p_ers P2 0 (((P2 4) - 1) + 1)) 14 = P2 14 := (p_hd_ers hH (by omega)).2 14 (by decide)
        generalize hP5 : p_ers P2 0 (((P2 4) - 1) + 1) = P5 at hX g5_0 g5_1 g5_2 g5_3 g5_4 g5_5 g5_6 g5_7 g5_14
        obtain ⟨⟨to, ta, tq, ro0, ro1, ro2, rok⟩, ⟨fo3, fo4, nb0, nb1, nb2, nb3⟩, hH, ⟨sg, hS⟩, hM⟩ := id hX
        obtain ⟨hc, hd, hr⟩ := id hS
        obtain ⟨t0, t1, t2, t3, t4, q0, q1, q2⟩ := id hc
        obtain ⟨d3, d4, d5, d6, d7, d8, u0, u1, u2, uk, uz⟩ := id hd
        obtain ⟨hw0, hw1, hh0, hh1, hf0, hf1, hf2, hr0, hr1, hc0, hc1, hp0, hp1, hk0, hk1, hi0, hi1, hkp, hP⟩ := id hH
        refine z_iload_n e_X4_eraseScreen_56 rfl ?_
        refine z_iconst e_X4_eraseScreen_57 ?_
        refine z_icmp_eq e_X4_eraseScreen_58 ⟨by omega, by omega⟩ (by decide) (fun h58_5 => ?_) (fun h58_5 => ?_)
        · refine z_aload_n e_X4_eraseScreen_89 rfl ?_
          refine z_getr (fi := 0) (r := some (o + 1)) e_X4_eraseScreen_90 f_RX4_12 to rfl rfl (ro0) ?_
          refine z_getr (fi := 1) (r := some (o + 1 + 2)) e_X4_eraseScreen_93 f_RX4_59 t0 rfl rfl (q1) ?_
          refine z_iconst e_X4_eraseScreen_96 ?_
          refine z_putiN (fi := 2) (f := (m5 (o + 1 + 2))) e_X4_eraseScreen_97 f_RX4_91 t2 rfl rfl (Or.inr ⟨rfl, Or.inl rfl⟩) (rfl) ?_
          have hq := z_T_cur (F := z_v (m5 (o + 1 + 2)) 2 0) (Q := z_v P5 6 0) hc hd hr hH (fun k _ hk => z_vn (by omega)) ((z_vn (by decide)).trans (u0.trans (z_vn (by decide)).symm)) ((z_vn (by decide)).trans (u1.trans (z_vn (by decide)).symm)) ((z_vs _ _ _).trans (z_vs _ _ _).symm)
          generalize hm6 : (z_u m5 (o + 1 + 2) (z_v (m5 (o + 1 + 2)) 2 0)) = m6 at hq ⊢
          have hX := z_X_T hX hq (p_hd_6 hH) (p_o_v (p_o_r _) (by decide))
          have fx6 := z_Xf_T (o := o) hq (by omega)
          have g6_0 : (z_v P5 6 0) 0 = P5 0 := z_vn (by decide)
          have g6_1 : (z_v P5 6 0) 1 = P5 1 := z_vn (by decide)
          have g6_2 : (z_v P5 6 0) 2 = P5 2 := z_vn (by decide)
          have g6_3 : (z_v P5 6 0) 3 = P5 3 := z_vn (by decide)
          have g6_4 : (z_v P5 6 0) 4 = P5 4 := z_vn (by decide)
          have g6_5 : (z_v P5 6 0) 5 = P5 5 := z_vn (by decide)
          have g6_6 : (z_v P5 6 0) 6 = 0 := z_vs _ _ _
          have g6_7 : (z_v P5 6 0) 7 = P5 7 := z_vn (by decide)
          have g6_14 : (z_v P5 6 0) 14 = P5 14 := z_vn (by decide)
          generalize hP6 : z_v P5 6 0 = P6 at hX g6_0 g6_1 g6_2 g6_3 g6_4 g6_5 g6_6 g6_7 g6_14
          obtain ⟨⟨to, ta, tq, ro0, ro1, ro2, rok⟩, ⟨fo3, fo4, nb0, nb1, nb2, nb3⟩, hH, ⟨sg, hS⟩, hM⟩ := id hX
          obtain ⟨hc, hd, hr⟩ := id hS
          obtain ⟨t0, t1, t2, t3, t4, q0, q1, q2⟩ := id hc
          obtain ⟨d3, d4, d5, d6, d7, d8, u0, u1, u2, uk, uz⟩ := id hd
          obtain ⟨hw0, hw1, hh0, hh1, hf0, hf1, hf2, hr0, hr1, hc0, hc1, hp0, hp1, hk0, hk1, hi0, hi1, hkp, hP⟩ := id hH
          refine z_iload_n e_X4_eraseScreen_100 rfl ?_
          refine z_aload_n e_X4_eraseScreen_101 rfl ?_
          refine z_getr (fi := 0) (r := some (o + 1)) e_X4_eraseScreen_102 f_RX4_12 to rfl rfl (ro0) ?_
          refine z_callVi (M' := M_X3_taken) (As := []) (rest := [zi (m_fillA P1)]) e_X4_eraseScreen_105 l_RX4_84 rfl rfl rfl rfl t0 ⟨_, _, rfl⟩ (c_X3_taken ⟨hc, hd, hr⟩ hH) (fun xq mq rq hq => ?_)
          obtain ⟨e1q, e2q, e3q⟩ := hq
          rw [n_takA_fill] at e1q
          subst xq mq rq
          refine z_isub e_X4_eraseScreen_108 ?_
          refine z_iret e_X4_eraseScreen_109 (Or.inl rfl) rfl rfl ⟨rfl, _, rfl, ?_⟩
          have hag : ∀ j, 0 ≤ j → p_escr kind P1 j = P6 j := by
            rw [← hP6]
            intro j j0
            refine p_escr_cl hHr hP2 (by omega) (by omega) ?_ j j0
            rw [if_neg (by omega), if_pos (by omega), ← hP5, g2_4, show P1 4 - 1 + 1 = P1 4 by omega]
          refine ⟨fun _ => ⟨?_, ⟨nx1, ?_⟩, z_Xf_t fx1 (z_Xf_t fx2 (z_Xf_t fx5 (fx6)))⟩, fun q => absurd (by omega) q⟩
          · rw [m_fillA_ag hH hag]
          · have hnr : n_rec n = n1 := hn1
            rw [hnr]
            exact z_X_ag hX (p_hd_escr hHr) (fun j j0 _ => hag j j0)
        · refine z_aload_n e_X4_eraseScreen_61 rfl ?_
          refine z_getr (fi := 0) (r := some (o + 1)) e_X4_eraseScreen_62 f_RX4_12 to rfl rfl (ro0) ?_
          refine z_aload_n e_X4_eraseScreen_65 rfl ?_
          refine z_getr (fi := 0) (r := some (o + 1)) e_X4_eraseScreen_66 f_RX4_12 to rfl rfl (ro0) ?_
          refine z_getr (fi := 1) (r := some (o + 1 + 2)) e_X4_eraseScreen_69 f_RX4_59 t0 rfl rfl (q1) ?_
          refine z_geti (fi := 0) (x := (P5 4)) e_X4_eraseScreen_72 f_RX4_63 t2 rfl rfl (u0) ?_
          refine z_iconst e_X4_eraseScreen_75 ?_
          refine z_iadd e_X4_eraseScreen_76 ?_
          refine z_aload_n e_X4_eraseScreen_77 rfl ?_
          refine z_getr (fi := 0) (r := some (o + 1)) e_X4_eraseScreen_78 f_RX4_12 to rfl rfl (ro0) ?_
          refine z_geti (fi := 6) (x := (P5 1)) e_X4_eraseScreen_81 f_RX4_75 t0 rfl rfl (d6) ?_
          refine z_iconst e_X4_eraseScreen_84 ?_
          refine z_isub e_X4_eraseScreen_85 ?_
          refine z_callVv (M' := M_X3_eraseRows) (As := [zi ((P5 4) + 1), zi ((P5 1) - 1)]) (rest := []) e_X4_eraseScreen_86 l_RX4_95 rfl rfl rfl rfl t0 ⟨_, _, rfl⟩ (e_X3_eraseRows hc hd hr hH (by omega) (by omega) (by omega) (by omega)) (fun m7 r7 hq => ?_)
          have hX := z_X_T hX hq ((p_hd_ers hH (by omega)).1) (p_o_ers hH (by omega) (by omega))
          have fx7 := z_Xf_T (o := o) hq (by omega)
          have g7_0 : (p_ers P5 ((P5 4) + 1) (((P5 1) - 1) + 1)) 0 = P5 0 := (p_hd_ers hH (by omega)).2 0 (by decide)
          have g7_1 : (p_ers P5 ((P5 4) + 1) (((P5 1) - 1) + 1)) 1 = P5 1 := (p_hd_ers hH (by omega)).2 1 (by decide)
          have g7_2 : (p_ers P5 ((P5 4) + 1) (((P5 1) - 1) + 1)) 2 = P5 2 := (p_hd_ers hH (by omega)).2 2 (by decide)
          have g7_3 : (p_ers P5 ((P5 4) + 1) (((P5 1) - 1) + 1)) 3 = P5 3 := (p_hd_ers hH (by omega)).2 3 (by decide)
          have g7_4 : (p_ers P5 ((P5 4) + 1) (((P5 1) - 1) + 1)) 4 = P5 4 := (p_hd_ers hH (by omega)).2 4 (by decide)
          have g7_5 : (p_ers P5 ((P5 4) + 1) (((P5 1) - 1) + 1)) 5 = P5 5 := (p_hd_ers hH (by omega)).2 5 (by decide)
          have g7_6 : (p_ers P5 ((P5 4) + 1) (((P5 1) - 1) + 1)) 6 = P5 6 := (p_hd_ers hH (by omega)).2 6 (by decide)
          have g7_7 : (p_ers P5 ((P5 4) + 1) (((P5 1) - 1) + 1)) 7 = P5 7 := (p_hd_ers hH (by omega)).2 7 (by decide)
          have g7_14 : (p_ers P5 ((P5 4) + 1) (((P5 1) - 1) + 1)) 14 = P5 14 := (p_hd_ers hH (by omega)).2 14 (by decide)
          generalize hP7 : p_ers P5 ((P5 4) + 1) (((P5 1) - 1) + 1) = P7 at hX g7_0 g7_1 g7_2 g7_3 g7_4 g7_5 g7_6 g7_7 g7_14
          obtain ⟨⟨to, ta, tq, ro0, ro1, ro2, rok⟩, ⟨fo3, fo4, nb0, nb1, nb2, nb3⟩, hH, ⟨sg, hS⟩, hM⟩ := id hX
          obtain ⟨hc, hd, hr⟩ := id hS
          obtain ⟨t0, t1, t2, t3, t4, q0, q1, q2⟩ := id hc
          obtain ⟨d3, d4, d5, d6, d7, d8, u0, u1, u2, uk, uz⟩ := id hd
          obtain ⟨hw0, hw1, hh0, hh1, hf0, hf1, hf2, hr0, hr1, hc0, hc1, hp0, hp1, hk0, hk1, hi0, hi1, hkp, hP⟩ := id hH
          refine z_aload_n e_X4_eraseScreen_89 rfl ?_
          refine z_getr (fi := 0) (r := some (o + 1)) e_X4_eraseScreen_90 f_RX4_12 to rfl rfl (ro0) ?_
          refine z_getr (fi := 1) (r := some (o + 1 + 2)) e_X4_eraseScreen_93 f_RX4_59 t0 rfl rfl (q1) ?_
          refine z_iconst e_X4_eraseScreen_96 ?_
          refine z_putiN (fi := 2) (f := (m7 (o + 1 + 2))) e_X4_eraseScreen_97 f_RX4_91 t2 rfl rfl (Or.inr ⟨rfl, Or.inl rfl⟩) (rfl) ?_
          have hq := z_T_cur (F := z_v (m7 (o + 1 + 2)) 2 0) (Q := z_v P7 6 0) hc hd hr hH (fun k _ hk => z_vn (by omega)) ((z_vn (by decide)).trans (u0.trans (z_vn (by decide)).symm)) ((z_vn (by decide)).trans (u1.trans (z_vn (by decide)).symm)) ((z_vs _ _ _).trans (z_vs _ _ _).symm)
          generalize hm8 : (z_u m7 (o + 1 + 2) (z_v (m7 (o + 1 + 2)) 2 0)) = m8 at hq ⊢
          have hX := z_X_T hX hq (p_hd_6 hH) (p_o_v (p_o_r _) (by decide))
          have fx8 := z_Xf_T (o := o) hq (by omega)
          have g8_0 : (z_v P7 6 0) 0 = P7 0 := z_vn (by decide)
          have g8_1 : (z_v P7 6 0) 1 = P7 1 := z_vn (by decide)
          have g8_2 : (z_v P7 6 0) 2 = P7 2 := z_vn (by decide)
          have g8_3 : (z_v P7 6 0) 3 = P7 3 := z_vn (by decide)
          have g8_4 : (z_v P7 6 0) 4 = P7 4 := z_vn (by decide)
          have g8_5 : (z_v P7 6 0) 5 = P7 5 := z_vn (by decide)
          have g8_6 : (z_v P7 6 0) 6 = 0 := z_vs _ _ _
          have g8_7 : (z_v P7 6 0) 7 = P7 7 := z_vn (by decide)
          have g8_14 : (z_v P7 6 0) 14 = P7 14 := z_vn (by decide)
          generalize hP8 : z_v P7 6 0 = P8 at hX g8_0 g8_1 g8_2 g8_3 g8_4 g8_5 g8_6 g8_7 g8_14
          obtain ⟨⟨to, ta, tq, ro0, ro1, ro2, rok⟩, ⟨fo3, fo4, nb0, nb1, nb2, nb3⟩, hH, ⟨sg, hS⟩, hM⟩ := id hX
          obtain ⟨hc, hd, hr⟩ := id hS
          obtain ⟨t0, t1, t2, t3, t4, q0, q1, q2⟩ := id hc
          obtain ⟨d3, d4, d5, d6, d7, d8, u0, u1, u2, uk, uz⟩ := id hd
          obtain ⟨hw0, hw1, hh0, hh1, hf0, hf1, hf2, hr0, hr1, hc0, hc1, hp0, hp1, hk0, hk1, hi0, hi1, hkp, hP⟩ := id hH
          refine z_iload_n e_X4_eraseScreen_100 rfl ?_
          refine z_aload_n e_X4_eraseScreen_101 rfl ?_
          refine z_getr (fi := 0) (r := some (o + 1)) e_X4_eraseScreen_102 f_RX4_12 to rfl rfl (ro0) ?_
          refine z_callVi (M' := M_X3_taken) (As := []) (rest := [zi (m_fillA P1)]) e_X4_eraseScreen_105 l_RX4_84 rfl rfl rfl rfl t0 ⟨_, _, rfl⟩ (c_X3_taken ⟨hc, hd, hr⟩ hH) (fun xq mq rq hq => ?_)
          obtain ⟨e1q, e2q, e3q⟩ := hq
          rw [n_takA_fill] at e1q
          subst xq mq rq
          refine z_isub e_X4_eraseScreen_108 ?_
          refine z_iret e_X4_eraseScreen_109 (Or.inl rfl) rfl rfl ⟨rfl, _, rfl, ?_⟩
          have hag : ∀ j, 0 ≤ j → p_escr kind P1 j = P8 j := by
            rw [← hP8]
            intro j j0
            refine p_escr_cl hHr hP2 (by omega) (by omega) ?_ j j0
            rw [if_neg (by omega), if_neg (by omega), ← hP7, g5_4, g5_1, ← hP5, g2_1, g2_4, show P1 4 - 1 + 1 = P1 4 by omega, show P1 1 - 1 + 1 = P1 1 by omega]
          refine ⟨fun _ => ⟨?_, ⟨nx1, ?_⟩, z_Xf_t fx1 (z_Xf_t fx2 (z_Xf_t fx5 (z_Xf_t fx7 (fx8))))⟩, fun q => absurd (by omega) q⟩
          · rw [m_fillA_ag hH hag]
          · have hnr : n_rec n = n1 := hn1
            rw [hnr]
            exact z_X_ag hX (p_hd_escr hHr) (fun j j0 _ => hag j j0)
    · refine z_iconst e_X4_eraseScreen_9 ?_
      refine z_iret e_X4_eraseScreen_10 (Or.inl rfl) rfl rfl ⟨rfl, _, rfl, ?_⟩
      exact ⟨fun q => absurd q (by omega), fun _ => ⟨rfl, rfl, rfl⟩⟩
set_option maxHeartbeats 1000000 in
set_option maxRecDepth 100000 in
theorem c_X4_insertRows {E : z_E} {mi : z_Mi} {mr : z_Mr} {o : Nat} {P : Int → Int} {n nx : Int} {k : Int} (hX : z_X E o mi mr P n nx) (hz : z_R k) : z_mi M_X4_insertRows E [zo o, zi k] mi mr (fun x m r => ((1 ≤ k ∧ k ≤ 8) ∧ (P 2 ≤ P 4 ∧ P 4 ≤ P 3) → x = m_frows (p_rec n P) ((p_rec n P) 3 - m_many k (p_rec n P) + 1) (m_many k (p_rec n P)).toNat ∧ z_Z E o mi mr (p_insr k (p_rec n P)) (n_rec n) m r) ∧ (¬ (1 ≤ k ∧ k ≤ 8) → x = -1 ∧ m = mi ∧ r = mr) ∧ ((1 ≤ k ∧ k ≤ 8) ∧ ¬ (P 2 ≤ P 4 ∧ P 4 ≤ P 3) → x = -2 ∧ m = mi ∧ r = mr)) := by
  obtain ⟨⟨to, ta, tq, ro0, ro1, ro2, rok⟩, ⟨fo3, fo4, nb0, nb1, nb2, nb3⟩, hH, ⟨sg, hS⟩, hM⟩ := id hX
  obtain ⟨hc, hd, hr⟩ := id hS
  obtain ⟨t0, t1, t2, t3, t4, q0, q1, q2⟩ := id hc
  obtain ⟨d3, d4, d5, d6, d7, d8, u0, u1, u2, uk, uz⟩ := id hd
  obtain ⟨hw0, hw1, hh0, hh1, hf0, hf1, hf2, hr0, hr1, hc0, hc1, hp0, hp1, hk0, hk1, hi0, hi1, hkp, hP⟩ := id hH
  refine z_ofi (ls := [some (zo o), some (zi k)]) rfl (fun _ _ => trivial) ⟨rfl, rfl⟩ (Nat.le_of_ble_eq_true rfl) rfl ?_
  refine z_iload_n e_X4_insertRows_0 rfl ?_
  refine z_iconst e_X4_insertRows_1 ?_
  refine z_icmp_lt e_X4_insertRows_2 ⟨by omega, by omega⟩ (by decide) (fun h2_1 => ?_) (fun h2_1 => ?_)
  · refine z_iconst e_X4_insertRows_11 ?_
    refine z_iret e_X4_insertRows_12 (Or.inl rfl) rfl rfl ⟨rfl, _, rfl, ?_⟩
    exact ⟨fun q => absurd q (by omega), fun _ => ⟨rfl, rfl, rfl⟩, fun q => absurd q (by omega)⟩
  · refine z_iload_n e_X4_insertRows_5 rfl ?_
    refine z_bipush e_X4_insertRows_6 (by decide +kernel) ?_
    refine z_icmp_le e_X4_insertRows_8 ⟨by omega, by omega⟩ (by decide) (fun h8_2 => ?_) (fun h8_2 => ?_)
    · refine z_aload_n e_X4_insertRows_13 rfl ?_
      refine z_getr (fi := 0) (r := some (o + 1)) e_X4_insertRows_14 f_RX4_12 to rfl rfl (ro0) ?_
      refine z_callVi (M' := M_X3_isCursorInRegion) (As := []) (rest := []) e_X4_insertRows_17 l_RX4_98 rfl rfl rfl rfl t0 ⟨_, _, rfl⟩ (c_X3_isCursorInRegion ⟨hc, hd, hr⟩ hH) (fun xq mq rq hq => ?_)
      obtain ⟨e1q, e2q, e3q⟩ := hq
      subst xq mq rq
      refine z_if_neB e_X4_insertRows_20  (fun h20_3 => ?_) (fun h20_3 => ?_)
      · refine z_aload_n e_X4_insertRows_26 rfl ?_
        refine z_callVr (M' := M_X4_remember) (As := []) (rest := []) e_X4_insertRows_27 l_RX4_38 rfl rfl rfl rfl to ⟨_, _, rfl⟩ (c_X4_remember hX) (fun x1 m1 r1 hq => ?_)
        obtain ⟨hxr, hX, hSr, fx1⟩ := hq
        subst hxr
        generalize hn1 : (if n < 8 then n + 1 else 8) = n1 at hX
        generalize hnx1 : (nx + 1) % 8 = nx1 at hX
        have g1_0 : (p_rec n P) 0 = P 0 := p_rec_hd nb2 (by decide)
        have g1_1 : (p_rec n P) 1 = P 1 := p_rec_hd nb2 (by decide)
        have g1_2 : (p_rec n P) 2 = P 2 := p_rec_hd nb2 (by decide)
        have g1_3 : (p_rec n P) 3 = P 3 := p_rec_hd nb2 (by decide)
        have g1_4 : (p_rec n P) 4 = P 4 := p_rec_hd nb2 (by decide)
        have g1_5 : (p_rec n P) 5 = P 5 := p_rec_hd nb2 (by decide)
        have g1_6 : (p_rec n P) 6 = P 6 := p_rec_hd nb2 (by decide)
        have g1_7 : (p_rec n P) 7 = P 7 := p_rec_hd nb2 (by decide)
        have g1_14 : (p_rec n P) 14 = P 14 := p_rec_hd nb2 (by decide)
        generalize hP1 : p_rec n P = P1 at hX hSr g1_0 g1_1 g1_2 g1_3 g1_4 g1_5 g1_6 g1_7 g1_14
        obtain ⟨⟨to, ta, tq, ro0, ro1, ro2, rok⟩, ⟨fo3, fo4, nb0, nb1, nb2, nb3⟩, hH, ⟨sg, hS⟩, hM⟩ := id hX
        obtain ⟨hc, hd, hr⟩ := id hS
        obtain ⟨t0, t1, t2, t3, t4, q0, q1, q2⟩ := id hc
        obtain ⟨d3, d4, d5, d6, d7, d8, u0, u1, u2, uk, uz⟩ := id hd
        obtain ⟨hw0, hw1, hh0, hh1, hf0, hf1, hf2, hr0, hr1, hc0, hc1, hp0, hp1, hk0, hk1, hi0, hi1, hkp, hP⟩ := id hH
        refine z_pop e_X4_insertRows_30 rfl ?_
        have hHr := hH
        have hmm := m_many_b (n := k) (P := P1) (by omega) (by omega)
        refine z_aload_n e_X4_insertRows_31 rfl ?_
        refine z_getr (fi := 0) (r := some (o + 1)) e_X4_insertRows_32 f_RX4_12 to rfl rfl (ro0) ?_
        refine z_getr (fi := 1) (r := some (o + 1 + 2)) e_X4_insertRows_35 f_RX4_59 t0 rfl rfl (q1) ?_
        refine z_iconst e_X4_insertRows_38 ?_
        refine z_putiN (fi := 2) (f := (m1 (o + 1 + 2))) e_X4_insertRows_39 f_RX4_91 t2 rfl rfl (Or.inr ⟨rfl, Or.inl rfl⟩) (rfl) ?_
        have hq := z_T_cur (F := z_v (m1 (o + 1 + 2)) 2 0) (Q := z_v P1 6 0) hc hd hr hH (fun k _ hk => z_vn (by omega)) ((z_vn (by decide)).trans (u0.trans (z_vn (by decide)).symm)) ((z_vn (by decide)).trans (u1.trans (z_vn (by decide)).symm)) ((z_vs _ _ _).trans (z_vs _ _ _).symm)
        generalize hm2 : (z_u m1 (o + 1 + 2) (z_v (m1 (o + 1 + 2)) 2 0)) = m2 at hq ⊢
        have hX := z_X_T hX hq (p_hd_6 hH) (p_o_v (p_o_r _) (by decide))
        have fx2 := z_Xf_T (o := o) hq (by omega)
        have g2_0 : (z_v P1 6 0) 0 = P1 0 := z_vn (by decide)
        have g2_1 : (z_v P1 6 0) 1 = P1 1 := z_vn (by decide)
        have g2_2 : (z_v P1 6 0) 2 = P1 2 := z_vn (by decide)
        have g2_3 : (z_v P1 6 0) 3 = P1 3 := z_vn (by decide)
        have g2_4 : (z_v P1 6 0) 4 = P1 4 := z_vn (by decide)
        have g2_5 : (z_v P1 6 0) 5 = P1 5 := z_vn (by decide)
        have g2_6 : (z_v P1 6 0) 6 = 0 := z_vs _ _ _
        have g2_7 : (z_v P1 6 0) 7 = P1 7 := z_vn (by decide)
        have g2_14 : (z_v P1 6 0) 14 = P1 14 := z_vn (by decide)
        generalize hP2 : z_v P1 6 0 = P2 at hX g2_0 g2_1 g2_2 g2_3 g2_4 g2_5 g2_6 g2_7 g2_14
        obtain ⟨⟨to, ta, tq, ro0, ro1, ro2, rok⟩, ⟨fo3, fo4, nb0, nb1, nb2, nb3⟩, hH, ⟨sg, hS⟩, hM⟩ := id hX
        obtain ⟨hc, hd, hr⟩ := id hS
        obtain ⟨t0, t1, t2, t3, t4, q0, q1, q2⟩ := id hc
        obtain ⟨d3, d4, d5, d6, d7, d8, u0, u1, u2, uk, uz⟩ := id hd
        obtain ⟨hw0, hw1, hh0, hh1, hf0, hf1, hf2, hr0, hr1, hc0, hc1, hp0, hp1, hk0, hk1, hi0, hi1, hkp, hP⟩ := id hH
        refine z_aload_n e_X4_insertRows_42 rfl ?_
        refine z_getr (fi := 0) (r := some (o + 1)) e_X4_insertRows_43 f_RX4_12 to rfl rfl (ro0) ?_
        refine z_iload_n e_X4_insertRows_46 rfl ?_
        refine z_callVi (M' := M_X3_openRows) (As := [zi k]) (rest := []) e_X4_insertRows_47 l_RX4_102 rfl rfl rfl rfl t0 ⟨_, _, rfl⟩ (e_X3_openRows hc hd hr hH (by omega) (by omega) (by omega)) (fun x3 m3 r3 hq => ?_)
        obtain ⟨hx3, hq⟩ := hq
        rw [← hP2, m_many_6] at hq
        have hq : z_T E (o + 1) m2 r1 (p_insr k P1) m3 r3 := z_T_rg hq (by rw [z_vn (by decide)]; exact hHr.2.1) (by rw [z_vn (by decide)]; omega) (fun j j0 j1 => p_insr_hd hHr (by omega) (by omega) j1) (fun j j0 j1 c c0 c1 => by rw [p_insr_rows hHr (by omega) (by omega) j0 c0 c1]; exact (o_ins_6 (by omega) (by omega) j0 c0 (by omega) (by omega)).symm)
        have hX := z_X_T hX hq (p_hd_insr hHr (by omega) (by omega)) (p_o_t (by rw [← hP2]; exact p_o_v6 (p_o_insr hHr (by omega) (by omega))) (p_o_r _))
        have fx3 := z_Xf_T (o := o) hq (by omega)
        generalize hP3 : p_insr k P1 = P3 at hX
        obtain ⟨⟨to, ta, tq, ro0, ro1, ro2, rok⟩, ⟨fo3, fo4, nb0, nb1, nb2, nb3⟩, hH, ⟨sg, hS⟩, hM⟩ := id hX
        obtain ⟨hc, hd, hr⟩ := id hS
        obtain ⟨t0, t1, t2, t3, t4, q0, q1, q2⟩ := id hc
        obtain ⟨d3, d4, d5, d6, d7, d8, u0, u1, u2, uk, uz⟩ := id hd
        obtain ⟨hw0, hw1, hh0, hh1, hf0, hf1, hf2, hr0, hr1, hc0, hc1, hp0, hp1, hk0, hk1, hi0, hi1, hkp, hP⟩ := id hH
        refine z_iret e_X4_insertRows_50 (Or.inl rfl) rfl rfl ⟨rfl, _, rfl, ?_⟩
        refine ⟨fun _ => ⟨?_, ⟨nx1, ?_⟩, z_Xf_t fx1 (z_Xf_t fx2 (fx3))⟩, fun q => absurd q (by omega), fun q => absurd q (by omega)⟩
        · rw [hx3, ← hP2, m_many_6]; rw [← m_frows_rev (by omega)]; exact n_cnt_c (fun j j0 j1 => by rw [p_6 P1 3 (by decide), m_fill_6 (by omega)])
        · have hnr : n_rec n = n1 := hn1
          have ep := hP3
          rw [hnr]
          first | exact hX | (rw [ep]; exact hX)
      · refine z_bipush e_X4_insertRows_23 (by decide +kernel) ?_
        refine z_iret e_X4_insertRows_25 (Or.inl rfl) rfl rfl ⟨rfl, _, rfl, ?_⟩
        exact ⟨fun q => absurd q (by omega), fun q => absurd q (by omega), fun _ => ⟨rfl, rfl, rfl⟩⟩
    · refine z_iconst e_X4_insertRows_11 ?_
      refine z_iret e_X4_insertRows_12 (Or.inl rfl) rfl rfl ⟨rfl, _, rfl, ?_⟩
      exact ⟨fun q => absurd q (by omega), fun _ => ⟨rfl, rfl, rfl⟩, fun q => absurd q (by omega)⟩
set_option maxHeartbeats 1000000 in
set_option maxRecDepth 100000 in
theorem c_X4_deleteRows {E : z_E} {mi : z_Mi} {mr : z_Mr} {o : Nat} {P : Int → Int} {n nx : Int} {k : Int} (hX : z_X E o mi mr P n nx) (hz : z_R k) : z_mi M_X4_deleteRows E [zo o, zi k] mi mr (fun x m r => ((1 ≤ k ∧ k ≤ 8) ∧ (P 2 ≤ P 4 ∧ P 4 ≤ P 3) → x = m_frows (p_rec n P) ((p_rec n P) 4) (m_many k (p_rec n P)).toNat ∧ z_Z E o mi mr (p_delr k (p_rec n P)) (n_rec n) m r) ∧ (¬ (1 ≤ k ∧ k ≤ 8) → x = -1 ∧ m = mi ∧ r = mr) ∧ ((1 ≤ k ∧ k ≤ 8) ∧ ¬ (P 2 ≤ P 4 ∧ P 4 ≤ P 3) → x = -2 ∧ m = mi ∧ r = mr)) := by
  obtain ⟨⟨to, ta, tq, ro0, ro1, ro2, rok⟩, ⟨fo3, fo4, nb0, nb1, nb2, nb3⟩, hH, ⟨sg, hS⟩, hM⟩ := id hX
  obtain ⟨hc, hd, hr⟩ := id hS
  obtain ⟨t0, t1, t2, t3, t4, q0, q1, q2⟩ := id hc
  obtain ⟨d3, d4, d5, d6, d7, d8, u0, u1, u2, uk, uz⟩ := id hd
  obtain ⟨hw0, hw1, hh0, hh1, hf0, hf1, hf2, hr0, hr1, hc0, hc1, hp0, hp1, hk0, hk1, hi0, hi1, hkp, hP⟩ := id hH
  refine z_ofi (ls := [some (zo o), some (zi k)]) rfl (fun _ _ => trivial) ⟨rfl, rfl⟩ (Nat.le_of_ble_eq_true rfl) rfl ?_
  refine z_iload_n e_X4_deleteRows_0 rfl ?_
  refine z_iconst e_X4_deleteRows_1 ?_
  refine z_icmp_lt e_X4_deleteRows_2 ⟨by omega, by omega⟩ (by decide) (fun h2_1 => ?_) (fun h2_1 => ?_)
  · refine z_iconst e_X4_deleteRows_11 ?_
    refine z_iret e_X4_deleteRows_12 (Or.inl rfl) rfl rfl ⟨rfl, _, rfl, ?_⟩
    exact ⟨fun q => absurd q (by omega), fun _ => ⟨rfl, rfl, rfl⟩, fun q => absurd q (by omega)⟩
  · refine z_iload_n e_X4_deleteRows_5 rfl ?_
    refine z_bipush e_X4_deleteRows_6 (by decide +kernel) ?_
    refine z_icmp_le e_X4_deleteRows_8 ⟨by omega, by omega⟩ (by decide) (fun h8_2 => ?_) (fun h8_2 => ?_)
    · refine z_aload_n e_X4_deleteRows_13 rfl ?_
      refine z_getr (fi := 0) (r := some (o + 1)) e_X4_deleteRows_14 f_RX4_12 to rfl rfl (ro0) ?_
      refine z_callVi (M' := M_X3_isCursorInRegion) (As := []) (rest := []) e_X4_deleteRows_17 l_RX4_98 rfl rfl rfl rfl t0 ⟨_, _, rfl⟩ (c_X3_isCursorInRegion ⟨hc, hd, hr⟩ hH) (fun xq mq rq hq => ?_)
      obtain ⟨e1q, e2q, e3q⟩ := hq
      subst xq mq rq
      refine z_if_neB e_X4_deleteRows_20  (fun h20_3 => ?_) (fun h20_3 => ?_)
      · refine z_aload_n e_X4_deleteRows_26 rfl ?_
        refine z_callVr (M' := M_X4_remember) (As := []) (rest := []) e_X4_deleteRows_27 l_RX4_38 rfl rfl rfl rfl to ⟨_, _, rfl⟩ (c_X4_remember hX) (fun x1 m1 r1 hq => ?_)
        obtain ⟨hxr, hX, hSr, fx1⟩ := hq
        subst hxr
        generalize hn1 : (if n < 8 then n + 1 else 8) = n1 at hX
        generalize hnx1 : (nx + 1) % 8 = nx1 at hX
        have g1_0 : (p_rec n P) 0 = P 0 := p_rec_hd nb2 (by decide)
        have g1_1 : (p_rec n P) 1 = P 1 := p_rec_hd nb2 (by decide)
        have g1_2 : (p_rec n P) 2 = P 2 := p_rec_hd nb2 (by decide)
        have g1_3 : (p_rec n P) 3 = P 3 := p_rec_hd nb2 (by decide)
        have g1_4 : (p_rec n P) 4 = P 4 := p_rec_hd nb2 (by decide)
        have g1_5 : (p_rec n P) 5 = P 5 := p_rec_hd nb2 (by decide)
        have g1_6 : (p_rec n P) 6 = P 6 := p_rec_hd nb2 (by decide)
        have g1_7 : (p_rec n P) 7 = P 7 := p_rec_hd nb2 (by decide)
        have g1_14 : (p_rec n P) 14 = P 14 := p_rec_hd nb2 (by decide)
        generalize hP1 : p_rec n P = P1 at hX hSr g1_0 g1_1 g1_2 g1_3 g1_4 g1_5 g1_6 g1_7 g1_14
        obtain ⟨⟨to, ta, tq, ro0, ro1, ro2, rok⟩, ⟨fo3, fo4, nb0, nb1, nb2, nb3⟩, hH, ⟨sg, hS⟩, hM⟩ := id hX
        obtain ⟨hc, hd, hr⟩ := id hS
        obtain ⟨t0, t1, t2, t3, t4, q0, q1, q2⟩ := id hc
        obtain ⟨d3, d4, d5, d6, d7, d8, u0, u1, u2, uk, uz⟩ := id hd
        obtain ⟨hw0, hw1, hh0, hh1, hf0, hf1, hf2, hr0, hr1, hc0, hc1, hp0, hp1, hk0, hk1, hi0, hi1, hkp, hP⟩ := id hH
        refine z_pop e_X4_deleteRows_30 rfl ?_
        have hHr := hH
        have hmm := m_many_b (n := k) (P := P1) (by omega) (by omega)
        refine z_aload_n e_X4_deleteRows_31 rfl ?_
        refine z_getr (fi := 0) (r := some (o + 1)) e_X4_deleteRows_32 f_RX4_12 to rfl rfl (ro0) ?_
        refine z_getr (fi := 1) (r := some (o + 1 + 2)) e_X4_deleteRows_35 f_RX4_59 t0 rfl rfl (q1) ?_
        refine z_iconst e_X4_deleteRows_38 ?_
        refine z_putiN (fi := 2) (f := (m1 (o + 1 + 2))) e_X4_deleteRows_39 f_RX4_91 t2 rfl rfl (Or.inr ⟨rfl, Or.inl rfl⟩) (rfl) ?_
        have hq := z_T_cur (F := z_v (m1 (o + 1 + 2)) 2 0) (Q := z_v P1 6 0) hc hd hr hH (fun k _ hk => z_vn (by omega)) ((z_vn (by decide)).trans (u0.trans (z_vn (by decide)).symm)) ((z_vn (by decide)).trans (u1.trans (z_vn (by decide)).symm)) ((z_vs _ _ _).trans (z_vs _ _ _).symm)
        generalize hm2 : (z_u m1 (o + 1 + 2) (z_v (m1 (o + 1 + 2)) 2 0)) = m2 at hq ⊢
        have hX := z_X_T hX hq (p_hd_6 hH) (p_o_v (p_o_r _) (by decide))
        have fx2 := z_Xf_T (o := o) hq (by omega)
        have g2_0 : (z_v P1 6 0) 0 = P1 0 := z_vn (by decide)
        have g2_1 : (z_v P1 6 0) 1 = P1 1 := z_vn (by decide)
        have g2_2 : (z_v P1 6 0) 2 = P1 2 := z_vn (by decide)
        have g2_3 : (z_v P1 6 0) 3 = P1 3 := z_vn (by decide)
        have g2_4 : (z_v P1 6 0) 4 = P1 4 := z_vn (by decide)
        have g2_5 : (z_v P1 6 0) 5 = P1 5 := z_vn (by decide)
        have g2_6 : (z_v P1 6 0) 6 = 0 := z_vs _ _ _
        have g2_7 : (z_v P1 6 0) 7 = P1 7 := z_vn (by decide)
        have g2_14 : (z_v P1 6 0) 14 = P1 14 := z_vn (by decide)
        generalize hP2 : z_v P1 6 0 = P2 at hX g2_0 g2_1 g2_2 g2_3 g2_4 g2_5 g2_6 g2_7 g2_14
        obtain ⟨⟨to, ta, tq, ro0, ro1, ro2, rok⟩, ⟨fo3, fo4, nb0, nb1, nb2, nb3⟩, hH, ⟨sg, hS⟩, hM⟩ := id hX
        obtain ⟨hc, hd, hr⟩ := id hS
        obtain ⟨t0, t1, t2, t3, t4, q0, q1, q2⟩ := id hc
        obtain ⟨d3, d4, d5, d6, d7, d8, u0, u1, u2, uk, uz⟩ := id hd
        obtain ⟨hw0, hw1, hh0, hh1, hf0, hf1, hf2, hr0, hr1, hc0, hc1, hp0, hp1, hk0, hk1, hi0, hi1, hkp, hP⟩ := id hH
        refine z_aload_n e_X4_deleteRows_42 rfl ?_
        refine z_getr (fi := 0) (r := some (o + 1)) e_X4_deleteRows_43 f_RX4_12 to rfl rfl (ro0) ?_
        refine z_iload_n e_X4_deleteRows_46 rfl ?_
        refine z_callVi (M' := M_X3_closeRows) (As := [zi k]) (rest := []) e_X4_deleteRows_47 l_RX4_106 rfl rfl rfl rfl t0 ⟨_, _, rfl⟩ (e_X3_closeRows hc hd hr hH (by omega) (by omega) (by omega)) (fun x3 m3 r3 hq => ?_)
        obtain ⟨hx3, hq⟩ := hq
        rw [← hP2, m_many_6] at hq
        have hq : z_T E (o + 1) m2 r1 (p_delr k P1) m3 r3 := z_T_rg hq (by rw [z_vn (by decide)]; exact hHr.2.1) (by rw [z_vn (by decide)]; omega) (fun j j0 j1 => p_delr_hd hHr (by omega) (by omega) j1) (fun j j0 j1 c c0 c1 => by rw [p_delr_rows hHr (by omega) (by omega) j0 c0 c1]; exact (o_del_6 (by omega) (by omega) j0 c0 (by omega)).symm)
        have hX := z_X_T hX hq (p_hd_delr hHr (by omega) (by omega)) (p_o_t (by rw [← hP2]; exact p_o_v6 (p_o_delr hHr (by omega) (by omega))) (p_o_r _))
        have fx3 := z_Xf_T (o := o) hq (by omega)
        generalize hP3 : p_delr k P1 = P3 at hX
        obtain ⟨⟨to, ta, tq, ro0, ro1, ro2, rok⟩, ⟨fo3, fo4, nb0, nb1, nb2, nb3⟩, hH, ⟨sg, hS⟩, hM⟩ := id hX
        obtain ⟨hc, hd, hr⟩ := id hS
        obtain ⟨t0, t1, t2, t3, t4, q0, q1, q2⟩ := id hc
        obtain ⟨d3, d4, d5, d6, d7, d8, u0, u1, u2, uk, uz⟩ := id hd
        obtain ⟨hw0, hw1, hh0, hh1, hf0, hf1, hf2, hr0, hr1, hc0, hc1, hp0, hp1, hk0, hk1, hi0, hi1, hkp, hP⟩ := id hH
        refine z_iret e_X4_deleteRows_50 (Or.inl rfl) rfl rfl ⟨rfl, _, rfl, ?_⟩
        refine ⟨fun _ => ⟨?_, ⟨nx1, ?_⟩, z_Xf_t fx1 (z_Xf_t fx2 (fx3))⟩, fun q => absurd q (by omega), fun q => absurd q (by omega)⟩
        · rw [hx3, ← hP2, m_many_6]; exact n_cnt_c (fun j j0 j1 => by rw [p_6 P1 4 (by decide), m_fill_6 (by omega)])
        · have hnr : n_rec n = n1 := hn1
          have ep := hP3
          rw [hnr]
          first | exact hX | (rw [ep]; exact hX)
      · refine z_bipush e_X4_deleteRows_23 (by decide +kernel) ?_
        refine z_iret e_X4_deleteRows_25 (Or.inl rfl) rfl rfl ⟨rfl, _, rfl, ?_⟩
        exact ⟨fun q => absurd q (by omega), fun q => absurd q (by omega), fun _ => ⟨rfl, rfl, rfl⟩⟩
    · refine z_iconst e_X4_deleteRows_11 ?_
      refine z_iret e_X4_deleteRows_12 (Or.inl rfl) rfl rfl ⟨rfl, _, rfl, ?_⟩
      exact ⟨fun q => absurd q (by omega), fun _ => ⟨rfl, rfl, rfl⟩, fun q => absurd q (by omega)⟩
