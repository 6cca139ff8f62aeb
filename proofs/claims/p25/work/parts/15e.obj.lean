set_option maxHeartbeats 1000000 in
set_option maxRecDepth 100000 in
theorem c_X4_moveTo {E : z_E} {mi : z_Mi} {mr : z_Mr} {o : Nat} {P : Int → Int} {n nx : Int} {row column : Int} (hX : z_X E o mi mr P n nx) (hz1 : z_R row) (hz2 : z_R column) : z_mi M_X4_moveTo E [zo o, zi row, zi column] mi mr (fun x m r => (((0 ≤ row ∧ row ≤ P 1 - 1) ∧ (0 ≤ column ∧ column ≤ P 0 - 1)) → x = P 0 * P 4 + P 5 ∧ z_Z E o mi mr (p_goes row column (p_rec n P)) (n_rec n) m r) ∧ (¬ ((0 ≤ row ∧ row ≤ P 1 - 1) ∧ (0 ≤ column ∧ column ≤ P 0 - 1)) → x = -1 ∧ m = mi ∧ r = mr)) := by
  obtain ⟨⟨to, ta, tq, ro0, ro1, ro2, rok⟩, ⟨fo3, fo4, nb0, nb1, nb2, nb3⟩, hH, ⟨sg, hS⟩, hM⟩ := id hX
  obtain ⟨hc, hd, hr⟩ := id hS
  obtain ⟨t0, t1, t2, t3, t4, q0, q1, q2⟩ := id hc
  obtain ⟨d3, d4, d5, d6, d7, d8, u0, u1, u2, uk, uz⟩ := id hd
  obtain ⟨hw0, hw1, hh0, hh1, hf0, hf1, hf2, hr0, hr1, hc0, hc1, hp0, hp1, hk0, hk1, hi0, hi1, hkp, hP⟩ := id hH
  refine z_ofi (ls := [some (zo o), some (zi row), some (zi column), none]) rfl (fun _ _ => trivial) ⟨rfl, rfl⟩ (Nat.le_of_ble_eq_true rfl) rfl ?_
  refine z_aload_n e_X4_moveTo_0 rfl ?_
  refine z_getr (fi := 0) (r := some (o + 1)) e_X4_moveTo_1 f_RX4_12 to rfl rfl (ro0) ?_
  refine z_iload_n e_X4_moveTo_4 rfl ?_
  refine z_iload_n e_X4_moveTo_5 rfl ?_
  refine z_callVi (M' := M_X3_hasCell) (As := [zi row, zi column]) (rest := []) e_X4_moveTo_6 l_RX4_52 rfl rfl rfl rfl t0 ⟨_, _, rfl⟩ (c_X3_hasCell hS hH hz1 hz2) (fun xq mq rq hq => ?_)
  obtain ⟨e1q, e2q, e3q⟩ := hq
  subst xq mq rq
  refine z_if_neB e_X4_moveTo_9  (fun h9_1 => ?_) (fun h9_1 => ?_)
  · refine z_aload_n e_X4_moveTo_14 rfl ?_
    refine z_callVr (M' := M_X4_remember) (As := []) (rest := []) e_X4_moveTo_15 l_RX4_38 rfl rfl rfl rfl to ⟨_, _, rfl⟩ (c_X4_remember hX) (fun x1 m1 r1 hq => ?_)
    obtain ⟨hxr, hX, hSr, fx1⟩ := hq
    subst hxr
    generalize hn1 : (if n < 8 then n + 1 else 8) = n1 at hX
    generalize hnx1 : (nx + 1) % 8 = nx1 at hX
    have g1_0 : (p_rec n P) 0 = P 0 := p_rec_hd nb2 (by decide)
    have g1_1 : (p_rec n P) 1 = P 1 := p_rec_hd nb2 (by decide)
    have g1_2 : (p_rec n P) 2 = P 2 := p_rec_hd nb2 (by decide)
    have g1_3 : (p_rec n P) 3 = P 3 := p_rec_hd nb2 (by decide)
    have g1_4 : (p_rec n P) 4 = P 4 := p_rec_hd nb2 (by decide)
    have g1_5 : (p_rec n P) 5 = P 5 := p_rec_hd nb2 (by decide)
    have g1_6 : (p_rec n P) 6 = P 6 := p_rec_hd nb2 (by decide)
    have g1_7 : (p_rec n P) 7 = P 7 := p_rec_hd nb2 (by decide)
    have g1_14 : (p_rec n P) 14 = P 14 := p_rec_hd nb2 (by decide)
    generalize hP1 : p_rec n P = P1 at hX hSr g1_0 g1_1 g1_2 g1_3 g1_4 g1_5 g1_6 g1_7 g1_14
    obtain ⟨⟨to, ta, tq, ro0, ro1, ro2, rok⟩, ⟨fo3, fo4, nb0, nb1, nb2, nb3⟩, hH, ⟨sg, hS⟩, hM⟩ := id hX
    obtain ⟨hc, hd, hr⟩ := id hS
    obtain ⟨t0, t1, t2, t3, t4, q0, q1, q2⟩ := id hc
    obtain ⟨d3, d4, d5, d6, d7, d8, u0, u1, u2, uk, uz⟩ := id hd
    obtain ⟨hw0, hw1, hh0, hh1, hf0, hf1, hf2, hr0, hr1, hc0, hc1, hp0, hp1, hk0, hk1, hi0, hi1, hkp, hP⟩ := id hH
    refine z_pop e_X4_moveTo_18 rfl ?_
    refine z_aload_n e_X4_moveTo_19 rfl ?_
    refine z_getr (fi := 0) (r := some (o + 1)) e_X4_moveTo_20 f_RX4_12 to rfl rfl (ro0) ?_
    refine z_geti (fi := 5) (x := (P1 0)) e_X4_moveTo_23 f_RX4_56 t0 rfl rfl (d5) ?_
    refine z_aload_n e_X4_moveTo_26 rfl ?_
    refine z_getr (fi := 0) (r := some (o + 1)) e_X4_moveTo_27 f_RX4_12 to rfl rfl (ro0) ?_
    refine z_getr (fi := 1) (r := some (o + 1 + 2)) e_X4_moveTo_30 f_RX4_59 t0 rfl rfl (q1) ?_
    refine z_geti (fi := 0) (x := (P1 4)) e_X4_moveTo_33 f_RX4_63 t2 rfl rfl (u0) ?_
    refine z_imul e_X4_moveTo_36 ?_
    refine z_aload_n e_X4_moveTo_37 rfl ?_
    refine z_getr (fi := 0) (r := some (o + 1)) e_X4_moveTo_38 f_RX4_12 to rfl rfl (ro0) ?_
    refine z_getr (fi := 1) (r := some (o + 1 + 2)) e_X4_moveTo_41 f_RX4_59 t0 rfl rfl (q1) ?_
    refine z_geti (fi := 1) (x := (P1 5)) e_X4_moveTo_44 f_RX4_68 t2 rfl rfl (u1) ?_
    refine z_iadd e_X4_moveTo_47 ?_
    refine z_istore_n (ls' := [some (zo o), some (zi row), some (zi column), some (zi (((P1 0) * (P1 4)) + (P1 5)))]) e_X4_moveTo_48 rfl rfl rfl ?_
    refine z_aload_n e_X4_moveTo_49 rfl ?_
    refine z_getr (fi := 0) (r := some (o + 1)) e_X4_moveTo_50 f_RX4_12 to rfl rfl (ro0) ?_
    refine z_getr (fi := 1) (r := some (o + 1 + 2)) e_X4_moveTo_53 f_RX4_59 t0 rfl rfl (q1) ?_
    refine z_iload_n e_X4_moveTo_56 rfl ?_
    refine z_iload_n e_X4_moveTo_57 rfl ?_
    refine z_callVv (M' := M_X0_set) (As := [zi row, zi column]) (rest := []) e_X4_moveTo_58 l_RX4_71 rfl rfl rfl rfl t2 ⟨_, _, rfl⟩ (d_X0_set t2) (fun mq rq hq => ?_)
    obtain ⟨e2q, e3q⟩ := hq
    subst mq rq
    have hq := z_T_cur (F := z_v (z_v (z_v (m1 (o + 1 + 2)) 0 row) 1 column) 2 0) (Q := p_goes row column P1) hc hd hr hH (fun k _ hk => (z_vn (by omega)).trans ((z_vn (by omega)).trans (z_vn (by omega)))) (by simp [p_goes, z_v]) (by simp [p_goes, z_v]) (by simp [p_goes, z_v])
    generalize hm2 : (z_u m1 (o + 1 + 2) (z_v (z_v (z_v (m1 (o + 1 + 2)) 0 row) 1 column) 2 0)) = m2 at hq ⊢
    have hX := z_X_T hX hq (p_hd_goes hH (by omega) (by omega) (by omega) (by omega)) (p_o_goes)
    have fx2 := z_Xf_T (o := o) hq (by omega)
    generalize hP2 : p_goes row column P1 = P2 at hX
    obtain ⟨⟨to, ta, tq, ro0, ro1, ro2, rok⟩, ⟨fo3, fo4, nb0, nb1, nb2, nb3⟩, hH, ⟨sg, hS⟩, hM⟩ := id hX
    obtain ⟨hc, hd, hr⟩ := id hS
    obtain ⟨t0, t1, t2, t3, t4, q0, q1, q2⟩ := id hc
    obtain ⟨d3, d4, d5, d6, d7, d8, u0, u1, u2, uk, uz⟩ := id hd
    obtain ⟨hw0, hw1, hh0, hh1, hf0, hf1, hf2, hr0, hr1, hc0, hc1, hp0, hp1, hk0, hk1, hi0, hi1, hkp, hP⟩ := id hH
    refine z_iload_n e_X4_moveTo_61 rfl ?_
    refine z_iret e_X4_moveTo_62 (Or.inl rfl) rfl rfl ⟨rfl, _, rfl, ?_⟩
    refine ⟨fun _ => ⟨?_, ⟨nx1, ?_⟩, z_Xf_t fx1 (fx2)⟩, fun q => absurd (by omega) q⟩
    · rw [g1_0, g1_4, g1_5]
    · have hnr : n_rec n = n1 := hn1
      have ep := hP2
      rw [hnr]
      first | exact hX | (rw [ep]; exact hX)
  · refine z_iconst e_X4_moveTo_12 ?_
    refine z_iret e_X4_moveTo_13 (Or.inl rfl) rfl rfl ⟨rfl, _, rfl, ?_⟩
    exact ⟨fun q => absurd q (by omega), fun _ => ⟨rfl, rfl, rfl⟩⟩
set_option maxHeartbeats 1000000 in
set_option maxRecDepth 100000 in
theorem c_X4_setRegion {E : z_E} {mi : z_Mi} {mr : z_Mr} {o : Nat} {P : Int → Int} {n nx : Int} {a b : Int} (hX : z_X E o mi mr P n nx) (hz1 : z_R a) (hz2 : z_R b) : z_mi M_X4_setRegion E [zo o, zi a, zi b] mi mr (fun x m r => (((0 ≤ a ∧ a ≤ P 1 - 1) ∧ (0 ≤ b ∧ b ≤ P 1 - 1) ∧ a < b) → x = b - a + 1 ∧ z_Z E o mi mr (p_reg a b (p_rec n P)) (n_rec n) m r) ∧ (¬ ((0 ≤ a ∧ a ≤ P 1 - 1) ∧ (0 ≤ b ∧ b ≤ P 1 - 1) ∧ a < b) → x = -1 ∧ m = mi ∧ r = mr)) := by
  obtain ⟨⟨to, ta, tq, ro0, ro1, ro2, rok⟩, ⟨fo3, fo4, nb0, nb1, nb2, nb3⟩, hH, ⟨sg, hS⟩, hM⟩ := id hX
  obtain ⟨hc, hd, hr⟩ := id hS
  obtain ⟨t0, t1, t2, t3, t4, q0, q1, q2⟩ := id hc
  obtain ⟨d3, d4, d5, d6, d7, d8, u0, u1, u2, uk, uz⟩ := id hd
  obtain ⟨hw0, hw1, hh0, hh1, hf0, hf1, hf2, hr0, hr1, hc0, hc1, hp0, hp1, hk0, hk1, hi0, hi1, hkp, hP⟩ := id hH
  refine z_ofi (ls := [some (zo o), some (zi a), some (zi b)]) rfl (fun _ _ => trivial) ⟨rfl, rfl⟩ (Nat.le_of_ble_eq_true rfl) rfl ?_
  refine z_iload_n e_X4_setRegion_0 rfl ?_
  refine z_if_lt e_X4_setRegion_1 ⟨by omega, by omega⟩ (fun h1_1 => ?_) (fun h1_1 => ?_)
  · refine z_iconst e_X4_setRegion_20 ?_
    refine z_iret e_X4_setRegion_21 (Or.inl rfl) rfl rfl ⟨rfl, _, rfl, ?_⟩
    exact ⟨fun q => absurd q (by omega), fun _ => ⟨rfl, rfl, rfl⟩⟩
  · refine z_iload_n e_X4_setRegion_4 rfl ?_
    refine z_aload_n e_X4_setRegion_5 rfl ?_
    refine z_getr (fi := 0) (r := some (o + 1)) e_X4_setRegion_6 f_RX4_12 to rfl rfl (ro0) ?_
    refine z_geti (fi := 6) (x := (P 1)) e_X4_setRegion_9 f_RX4_75 t0 rfl rfl (d6) ?_
    refine z_icmp_ge e_X4_setRegion_12 ⟨by omega, by omega⟩ ⟨by omega, by omega⟩ (fun h12_2 => ?_) (fun h12_2 => ?_)
    · refine z_iconst e_X4_setRegion_20 ?_
      refine z_iret e_X4_setRegion_21 (Or.inl rfl) rfl rfl ⟨rfl, _, rfl, ?_⟩
      exact ⟨fun q => absurd q (by omega), fun _ => ⟨rfl, rfl, rfl⟩⟩
    · refine z_iload_n e_X4_setRegion_15 rfl ?_
      refine z_iload_n e_X4_setRegion_16 rfl ?_
      refine z_icmp_lt e_X4_setRegion_17 ⟨by omega, by omega⟩ ⟨by omega, by omega⟩ (fun h17_3 => ?_) (fun h17_3 => ?_)
      · refine z_aload_n e_X4_setRegion_22 rfl ?_
        refine z_callVr (M' := M_X4_remember) (As := []) (rest := []) e_X4_setRegion_23 l_RX4_38 rfl rfl rfl rfl to ⟨_, _, rfl⟩ (c_X4_remember hX) (fun x1 m1 r1 hq => ?_)
        obtain ⟨hxr, hX, hSr, fx1⟩ := hq
        subst hxr
        generalize hn1 : (if n < 8 then n + 1 else 8) = n1 at hX
        generalize hnx1 : (nx + 1) % 8 = nx1 at hX
        have g1_0 : (p_rec n P) 0 = P 0 := p_rec_hd nb2 (by decide)
        have g1_1 : (p_rec n P) 1 = P 1 := p_rec_hd nb2 (by decide)
        have g1_2 : (p_rec n P) 2 = P 2 := p_rec_hd nb2 (by decide)
        have g1_3 : (p_rec n P) 3 = P 3 := p_rec_hd nb2 (by decide)
        have g1_4 : (p_rec n P) 4 = P 4 := p_rec_hd nb2 (by decide)
        have g1_5 : (p_rec n P) 5 = P 5 := p_rec_hd nb2 (by decide)
        have g1_6 : (p_rec n P) 6 = P 6 := p_rec_hd nb2 (by decide)
        have g1_7 : (p_rec n P) 7 = P 7 := p_rec_hd nb2 (by decide)
        have g1_14 : (p_rec n P) 14 = P 14 := p_rec_hd nb2 (by decide)
        generalize hP1 : p_rec n P = P1 at hX hSr g1_0 g1_1 g1_2 g1_3 g1_4 g1_5 g1_6 g1_7 g1_14
        obtain ⟨⟨to, ta, tq, ro0, ro1, ro2, rok⟩, ⟨fo3, fo4, nb0, nb1, nb2, nb3⟩, hH, ⟨sg, hS⟩, hM⟩ := id hX
        obtain ⟨hc, hd, hr⟩ := id hS
        obtain ⟨t0, t1, t2, t3, t4, q0, q1, q2⟩ := id hc
        obtain ⟨d3, d4, d5, d6, d7, d8, u0, u1, u2, uk, uz⟩ := id hd
        obtain ⟨hw0, hw1, hh0, hh1, hf0, hf1, hf2, hr0, hr1, hc0, hc1, hp0, hp1, hk0, hk1, hi0, hi1, hkp, hP⟩ := id hH
        refine z_pop e_X4_setRegion_26 rfl ?_
        refine z_aload_n e_X4_setRegion_27 rfl ?_
        refine z_getr (fi := 0) (r := some (o + 1)) e_X4_setRegion_28 f_RX4_12 to rfl rfl (ro0) ?_
        refine z_iload_n e_X4_setRegion_31 rfl ?_
        refine z_putiN (fi := 7) (f := (m1 (o + 1))) e_X4_setRegion_32 f_RX4_78 t0 rfl rfl (Or.inl rfl) (rfl) ?_
        refine z_aload_n e_X4_setRegion_35 rfl ?_
        refine z_getr (fi := 0) (r := some (o + 1)) e_X4_setRegion_36 f_RX4_12 to rfl rfl (ro0) ?_
        refine z_iload_n e_X4_setRegion_39 rfl ?_
        refine z_putiU (fi := 8) e_X4_setRegion_40 f_RX4_81 t0 rfl rfl (Or.inl rfl) ?_
        refine z_aload_n e_X4_setRegion_43 rfl ?_
        refine z_getr (fi := 0) (r := some (o + 1)) e_X4_setRegion_44 f_RX4_12 to rfl rfl (ro0) ?_
        refine z_getr (fi := 1) (r := some (o + 1 + 2)) e_X4_setRegion_47 f_RX4_59 t0 rfl rfl (q1) ?_
        refine z_iconst e_X4_setRegion_50 ?_
        refine z_iconst e_X4_setRegion_51 ?_
        refine z_callVv (M' := M_X0_set) (As := [zi 0, zi 0]) (rest := []) e_X4_setRegion_52 l_RX4_71 rfl rfl rfl rfl t2 ⟨_, _, rfl⟩ (d_X0_set t2) (fun mq rq hq => ?_)
        obtain ⟨e2q, e3q⟩ := hq
        subst mq rq
        rw [z_un (show o + 1 + 2 ≠ o + 1 by omega)]
        have hq := z_T_reg (a := a) (b := b) (F := z_v (z_v (z_v (m1 (o + 1 + 2)) 0 0) 1 0) 2 0) hc hd hr hH (by simp [z_v]) (by simp [z_v]) (by simp [z_v])
        generalize hm2 : (z_u (z_u m1 (o + 1) (z_v (z_v (m1 (o + 1)) 7 a) 8 b)) (o + 1 + 2) (z_v (z_v (z_v (m1 (o + 1 + 2)) 0 0) 1 0) 2 0)) = m2 at hq ⊢
        have hX := z_X_T hX hq (p_hd_reg hH (by omega) (by omega) (by omega)) (p_o_reg)
        have fx2 := z_Xf_T (o := o) hq (by omega)
        generalize hP2 : p_reg a b P1 = P2 at hX
        obtain ⟨⟨to, ta, tq, ro0, ro1, ro2, rok⟩, ⟨fo3, fo4, nb0, nb1, nb2, nb3⟩, hH, ⟨sg, hS⟩, hM⟩ := id hX
        obtain ⟨hc, hd, hr⟩ := id hS
        obtain ⟨t0, t1, t2, t3, t4, q0, q1, q2⟩ := id hc
        obtain ⟨d3, d4, d5, d6, d7, d8, u0, u1, u2, uk, uz⟩ := id hd
        obtain ⟨hw0, hw1, hh0, hh1, hf0, hf1, hf2, hr0, hr1, hc0, hc1, hp0, hp1, hk0, hk1, hi0, hi1, hkp, hP⟩ := id hH
        refine z_iload_n e_X4_setRegion_55 rfl ?_
        refine z_iload_n e_X4_setRegion_56 rfl ?_
        refine z_isub e_X4_setRegion_57 ?_
        refine z_iconst e_X4_setRegion_58 ?_
        refine z_iadd e_X4_setRegion_59 ?_
        refine z_iret e_X4_setRegion_60 (Or.inl rfl) rfl rfl ⟨rfl, _, rfl, ?_⟩
        refine ⟨fun _ => ⟨?_, ⟨nx1, ?_⟩, z_Xf_t fx1 (fx2)⟩, fun q => absurd (by omega) q⟩
        · rfl
        · have hnr : n_rec n = n1 := hn1
          have ep := hP2
          rw [hnr]
          first | exact hX | (rw [ep]; exact hX)
      · refine z_iconst e_X4_setRegion_20 ?_
        refine z_iret e_X4_setRegion_21 (Or.inl rfl) rfl rfl ⟨rfl, _, rfl, ?_⟩
        exact ⟨fun q => absurd q (by omega), fun _ => ⟨rfl, rfl, rfl⟩⟩
set_option maxHeartbeats 1000000 in
set_option maxRecDepth 100000 in
theorem c_X4_obey {E : z_E} {mi : z_Mi} {mr : z_Mr} {o : Nat} {P : Int → Int} {n nx : Int} {code : Int} (hX : z_X E o mi mr P n nx) (hco : (code = 8 ∨ code = 9 ∨ code = 10 ∨ code = 13)) : z_mv M_X4_obey E [zo o, zi code] mi mr (fun m r => z_T E (o + 1) mi mr (p_move code P) m r) := by
  obtain ⟨⟨to, ta, tq, ro0, ro1, ro2, rok⟩, ⟨fo3, fo4, nb0, nb1, nb2, nb3⟩, hH, ⟨sg, hS⟩, hM⟩ := id hX
  obtain ⟨hc, hd, hr⟩ := id hS
  obtain ⟨t0, t1, t2, t3, t4, q0, q1, q2⟩ := id hc
  obtain ⟨d3, d4, d5, d6, d7, d8, u0, u1, u2, uk, uz⟩ := id hd
  obtain ⟨hw0, hw1, hh0, hh1, hf0, hf1, hf2, hr0, hr1, hc0, hc1, hp0, hp1, hk0, hk1, hi0, hi1, hkp, hP⟩ := id hH
  have hH0 := hH
  refine z_ofv (ls := [some (zo o), some (zi code), none]) rfl (fun _ _ => trivial) ⟨rfl, rfl⟩ (Nat.le_of_ble_eq_true rfl) rfl ?_
  refine z_aload_n e_X4_obey_0 rfl ?_
  refine z_getr (fi := 0) (r := some (o + 1)) e_X4_obey_1 f_RX4_12 to rfl rfl (ro0) ?_
  refine z_getr (fi := 1) (r := some (o + 1 + 2)) e_X4_obey_4 f_RX4_59 t0 rfl rfl (q1) ?_
  refine z_astore_n (ls' := [some (zo o), some (zi code), some (zo (o + 1 + 2))]) e_X4_obey_7 rfl rfl rfl ?_
  refine z_iload_n e_X4_obey_8 rfl ?_
  by_cases hs9_1 : code < 8 ∨ 10 < code
  · refine z_tsOut (tgt := 93) e_X4_obey_9 ⟨by omega, by omega⟩ hs9_1 rfl ?_
    refine z_aload_n e_X4_obey_93 rfl ?_
    refine z_iconst e_X4_obey_94 ?_
    refine z_putiN (fi := 1) (f := (mi (o + 1 + 2))) e_X4_obey_95 f_RX4_68 t2 rfl rfl (Or.inl rfl) (rfl) ?_
    refine z_aload_n e_X4_obey_98 rfl ?_
    refine z_iconst e_X4_obey_99 ?_
    refine z_putiU (fi := 2) e_X4_obey_100 f_RX4_91 t2 rfl rfl (Or.inr ⟨rfl, Or.inl rfl⟩) ?_
    refine z_ret e_X4_obey_103 rfl rfl rfl ⟨rfl, rfl, ?_⟩
    rw [p_move_n (by omega)]
    exact z_T_cur (F := (z_v (z_v (mi (o + 1 + 2)) 1 0) 2 0)) hc hd hr hH (fun k _ hk => (z_vn (by omega)).trans (z_vn (by omega))) ((z_vn (by decide)).trans ((z_vn (by decide)).trans (u0.trans ((z_vn (by decide)).trans (z_vn (by decide))).symm))) (by rw [z_vn (by decide), z_vs, z_vn (by decide), z_vs]; unfold p_mvc; (repeat' split) <;> omega) ((z_vs _ _ _).trans (z_vs _ _ _).symm)
  · rcases (show code = 8 ∨ code = 9 ∨ code = 10 by omega) with hs9_1 | hs9_1 | hs9_1
    · refine z_tsIn (off := 27) (tgt := 36) e_X4_obey_9 ⟨by omega, by omega⟩ (by omega) (by omega) (by rw [hs9_1]; rfl) rfl ?_
      refine z_aload_n e_X4_obey_36 rfl ?_
      refine z_iconst e_X4_obey_37 ?_
      refine z_aload_n e_X4_obey_38 rfl ?_
      refine z_geti (fi := 1) (x := (P 5)) e_X4_obey_39 f_RX4_68 t2 rfl rfl (u1) ?_
      refine z_iconst e_X4_obey_42 ?_
      refine z_isub e_X4_obey_43 ?_
      refine z_max (x := (if 0 < ((P 5) - 1) then ((P 5) - 1) else 0)) e_X4_obey_44 mm_RX4_172 rfl rfl (by decide) ⟨by omega, by omega⟩ (rfl) ?_
      refine z_putiN (fi := 1) (f := (mi (o + 1 + 2))) e_X4_obey_47 f_RX4_68 t2 rfl rfl (Or.inl rfl) (rfl) ?_
      refine z_goto e_X4_obey_50 ?_
      refine z_aload_n e_X4_obey_98 rfl ?_
      refine z_iconst e_X4_obey_99 ?_
      refine z_putiU (fi := 2) e_X4_obey_100 f_RX4_91 t2 rfl rfl (Or.inr ⟨rfl, Or.inl rfl⟩) ?_
      refine z_ret e_X4_obey_103 rfl rfl rfl ⟨rfl, rfl, ?_⟩
      rw [p_move_n (by omega)]
      exact z_T_cur (F := (z_v (z_v (mi (o + 1 + 2)) 1 (if 0 < ((P 5) - 1) then ((P 5) - 1) else 0)) 2 0)) hc hd hr hH (fun k _ hk => (z_vn (by omega)).trans (z_vn (by omega))) ((z_vn (by decide)).trans ((z_vn (by decide)).trans (u0.trans ((z_vn (by decide)).trans (z_vn (by decide))).symm))) (by rw [z_vn (by decide), z_vs, z_vn (by decide), z_vs]; unfold p_mvc; (repeat' split) <;> omega) ((z_vs _ _ _).trans (z_vs _ _ _).symm)
    · refine z_tsIn (off := 44) (tgt := 53) e_X4_obey_9 ⟨by omega, by omega⟩ (by omega) (by omega) (by rw [hs9_1]; rfl) rfl ?_
      refine z_aload_n e_X4_obey_53 rfl ?_
      refine z_aload_n e_X4_obey_54 rfl ?_
      refine z_getr (fi := 0) (r := some (o + 1)) e_X4_obey_55 f_RX4_12 to rfl rfl (ro0) ?_
      refine z_geti (fi := 5) (x := (P 0)) e_X4_obey_58 f_RX4_56 t0 rfl rfl (d5) ?_
      refine z_iconst e_X4_obey_61 ?_
      refine z_isub e_X4_obey_62 ?_
      refine z_aload_n e_X4_obey_63 rfl ?_
      refine z_geti (fi := 1) (x := (P 5)) e_X4_obey_64 f_RX4_68 t2 rfl rfl (u1) ?_
      refine z_iconst e_X4_obey_67 ?_
      refine z_idiv e_X4_obey_68 (by omega) (by omega) ⟨by omega, by omega⟩ (by decide) ?_
      refine z_iconst e_X4_obey_69 ?_
      refine z_iadd e_X4_obey_70 ?_
      refine z_iconst e_X4_obey_71 ?_
      refine z_imul e_X4_obey_72 ?_
      refine z_min (x := (if ((((P 5) / 4) + 1) * 4) < ((P 0) - 1) then ((((P 5) / 4) + 1) * 4) else ((P 0) - 1))) e_X4_obey_73 mm_RX4_116 rfl rfl ⟨by omega, by omega⟩ ⟨by omega, by omega⟩ (rfl) ?_
      refine z_putiN (fi := 1) (f := (mi (o + 1 + 2))) e_X4_obey_76 f_RX4_68 t2 rfl rfl (Or.inl rfl) (rfl) ?_
      refine z_goto e_X4_obey_79 ?_
      refine z_aload_n e_X4_obey_98 rfl ?_
      refine z_iconst e_X4_obey_99 ?_
      refine z_putiU (fi := 2) e_X4_obey_100 f_RX4_91 t2 rfl rfl (Or.inr ⟨rfl, Or.inl rfl⟩) ?_
      refine z_ret e_X4_obey_103 rfl rfl rfl ⟨rfl, rfl, ?_⟩
      rw [p_move_n (by omega)]
      exact z_T_cur (F := (z_v (z_v (mi (o + 1 + 2)) 1 (if ((((P 5) / 4) + 1) * 4) < ((P 0) - 1) then ((((P 5) / 4) + 1) * 4) else ((P 0) - 1))) 2 0)) hc hd hr hH (fun k _ hk => (z_vn (by omega)).trans (z_vn (by omega))) ((z_vn (by decide)).trans ((z_vn (by decide)).trans (u0.trans ((z_vn (by decide)).trans (z_vn (by decide))).symm))) (by rw [z_vn (by decide), z_vs, z_vn (by decide), z_vs]; unfold p_mvc; (repeat' split) <;> omega) ((z_vs _ _ _).trans (z_vs _ _ _).symm)
    · refine z_tsIn (off := 73) (tgt := 82) e_X4_obey_9 ⟨by omega, by omega⟩ (by omega) (by omega) (by rw [hs9_1]; rfl) rfl ?_
      refine z_aload_n e_X4_obey_82 rfl ?_
      refine z_getr (fi := 0) (r := some (o + 1)) e_X4_obey_83 f_RX4_12 to rfl rfl (ro0) ?_
      refine z_callVi (M' := M_X3_lineFeed) (As := []) (rest := []) e_X4_obey_86 l_RX4_255 rfl rfl rfl rfl t0 ⟨_, _, rfl⟩ (e_X3_lineFeed hc hd hr hH) (fun x1 m1 r1 hq => ?_)
      obtain ⟨hx1, hq⟩ := hq
      have hx1b : x1 = 0 ∨ x1 = 1 := by rw [hx1]; split <;> omega
      obtain ⟨sg, hc, hd, hr, fr1⟩ := hq
      have g1_0 : (p_fl P) 0 = P 0 := p_fl_hd hH (by decide) (by decide)
      have g1_1 : (p_fl P) 1 = P 1 := p_fl_hd hH (by decide) (by decide)
      have g1_2 : (p_fl P) 2 = P 2 := p_fl_hd hH (by decide) (by decide)
      have g1_3 : (p_fl P) 3 = P 3 := p_fl_hd hH (by decide) (by decide)
      have g1_5 : (p_fl P) 5 = P 5 := p_fl_hd hH (by decide) (by decide)
      have g1_6 : (p_fl P) 6 = P 6 := p_fl_hd hH (by decide) (by decide)
      have g1_7 : (p_fl P) 7 = P 7 := p_fl_hd hH (by decide) (by decide)
      have hH : p_hd (p_fl P) := p_hd_fl hH
      generalize hP1 : p_fl P = P1 at hd hr hH g1_0 g1_1 g1_2 g1_3 g1_5 g1_6 g1_7
      obtain ⟨t0, t1, t2, t3, t4, q0, q1, q2⟩ := id hc
      obtain ⟨d3, d4, d5, d6, d7, d8, u0, u1, u2, uk, uz⟩ := id hd
      obtain ⟨hw0, hw1, hh0, hh1, hf0, hf1, hf2, hr0, hr1, hc0, hc1, hp0, hp1, hk0, hk1, hi0, hi1, hkp, hP⟩ := id hH
      have hn : P1 14 + P1 1 ≤ 32 := by omega
      refine z_pop e_X4_obey_89 rfl ?_
      refine z_goto e_X4_obey_90 ?_
      refine z_aload_n e_X4_obey_98 rfl ?_
      refine z_iconst e_X4_obey_99 ?_
      refine z_putiN (fi := 2) (f := (m1 (o + 1 + 2))) e_X4_obey_100 f_RX4_91 t2 rfl rfl (Or.inr ⟨rfl, Or.inl rfl⟩) (rfl) ?_
      refine z_ret e_X4_obey_103 rfl rfl rfl ⟨rfl, rfl, ?_⟩
      have ec : code = 10 := by omega
      rw [ec, p_move_10 hH0, hP1]
      exact z_T_t fr1 (z_T_cur (F := (z_v (m1 (o + 1 + 2)) 2 0)) hc hd hr hH (fun k _ hk => z_vn (by omega)) ((z_vn (by decide)).trans (u0.trans (z_vn (by decide)).symm)) ((z_vn (by decide)).trans (u1.trans (z_vn (by decide)).symm)) ((z_vs _ _ _).trans (z_vs _ _ _).symm))
set_option maxHeartbeats 1000000 in
set_option maxRecDepth 100000 in
theorem c_X4_feed {E : z_E} {mi : z_Mi} {mr : z_Mr} {o : Nat} {P : Int → Int} {n nx : Int} {code : Int} (hX : z_X E o mi mr P n nx) (hz : z_R code) : z_mi M_X4_feed E [zo o, zi code] mi mr (fun x m r => (((8 ≤ code ∧ code ≤ 10) ∨ code = 13 ∨ (32 ≤ code ∧ code ≤ 126)) → x = (if 32 ≤ code then p_write code (p_rec n P) else p_move code (p_rec n P)) 14 ∧ z_Z E o mi mr ((if 32 ≤ code then p_write code (p_rec n P) else p_move code (p_rec n P))) (n_rec n) m r) ∧ (¬ ((8 ≤ code ∧ code ≤ 10) ∨ code = 13 ∨ (32 ≤ code ∧ code ≤ 126)) → x = -1 ∧ m = mi ∧ r = mr)) := by
  obtain ⟨⟨to, ta, tq, ro0, ro1, ro2, rok⟩, ⟨fo3, fo4, nb0, nb1, nb2, nb3⟩, hH, ⟨sg, hS⟩, hM⟩ := id hX
  obtain ⟨hc, hd, hr⟩ := id hS
  obtain ⟨t0, t1, t2, t3, t4, q0, q1, q2⟩ := id hc
  obtain ⟨d3, d4, d5, d6, d7, d8, u0, u1, u2, uk, uz⟩ := id hd
  obtain ⟨hw0, hw1, hh0, hh1, hf0, hf1, hf2, hr0, hr1, hc0, hc1, hp0, hp1, hk0, hk1, hi0, hi1, hkp, hP⟩ := id hH
  refine z_ofi (ls := [some (zo o), some (zi code), none]) rfl (fun _ _ => trivial) ⟨rfl, rfl⟩ (Nat.le_of_ble_eq_true rfl) rfl ?_
  have join17_0 : ∀ (wv : Int), wv = (if 32 ≤ code ∧ code ≤ 126 then 1 else 0) → z_A M_X4_feed E 0 0 17 [some (zo o), some (zi code), none] [zi wv] mi mr (z_qi E (fun x m r => (((8 ≤ code ∧ code ≤ 10) ∨ code = 13 ∨ (32 ≤ code ∧ code ≤ 126)) → x = (if 32 ≤ code then p_write code (p_rec n P) else p_move code (p_rec n P)) 14 ∧ z_Z E o mi mr ((if 32 ≤ code then p_write code (p_rec n P) else p_move code (p_rec n P))) (n_rec n) m r) ∧ (¬ ((8 ≤ code ∧ code ≤ 10) ∨ code = 13 ∨ (32 ≤ code ∧ code ≤ 126)) → x = -1 ∧ m = mi ∧ r = mr))) := by
    intro wv hj
    have hwv : (wv = 1 ∧ 32 ≤ code ∧ code ≤ 126) ∨ (wv = 0 ∧ ¬ (32 ≤ code ∧ code ≤ 126)) := by rw [hj]; split <;> omega
    refine z_istore_n (ls' := [some (zo o), some (zi code), some (zi wv)]) e_X4_feed_17 rfl rfl rfl ?_
    refine z_iload_n e_X4_feed_18 rfl ?_
    refine z_if_ne e_X4_feed_19 ⟨by omega, by omega⟩ (fun h19_2 => ?_) (fun h19_2 => ?_)
    · refine z_aload_n e_X4_feed_31 rfl ?_
      refine z_callVr (M' := M_X4_remember) (As := []) (rest := []) e_X4_feed_32 l_RX4_38 rfl rfl rfl rfl to ⟨_, _, rfl⟩ (c_X4_remember hX) (fun x1 m1 r1 hq => ?_)
      obtain ⟨hxr, hX, hSr, fx1⟩ := hq
      subst hxr
      generalize hn1 : (if n < 8 then n + 1 else 8) = n1 at hX
      generalize hnx1 : (nx + 1) % 8 = nx1 at hX
      have g1_0 : (p_rec n P) 0 = P 0 := p_rec_hd nb2 (by decide)
      have g1_1 : (p_rec n P) 1 = P 1 := p_rec_hd nb2 (by decide)
      have g1_2 : (p_rec n P) 2 = P 2 := p_rec_hd nb2 (by decide)
      have g1_3 : (p_rec n P) 3 = P 3 := p_rec_hd nb2 (by decide)
      have g1_4 : (p_rec n P) 4 = P 4 := p_rec_hd nb2 (by decide)
      have g1_5 : (p_rec n P) 5 = P 5 := p_rec_hd nb2 (by decide)
      have g1_6 : (p_rec n P) 6 = P 6 := p_rec_hd nb2 (by decide)
      have g1_7 : (p_rec n P) 7 = P 7 := p_rec_hd nb2 (by decide)
      have g1_14 : (p_rec n P) 14 = P 14 := p_rec_hd nb2 (by decide)
      generalize hP1 : p_rec n P = P1 at hX hSr g1_0 g1_1 g1_2 g1_3 g1_4 g1_5 g1_6 g1_7 g1_14
      obtain ⟨⟨to, ta, tq, ro0, ro1, ro2, rok⟩, ⟨fo3, fo4, nb0, nb1, nb2, nb3⟩, hH, ⟨sg, hS⟩, hM⟩ := id hX
      obtain ⟨hc, hd, hr⟩ := id hS
      obtain ⟨t0, t1, t2, t3, t4, q0, q1, q2⟩ := id hc
      obtain ⟨d3, d4, d5, d6, d7, d8, u0, u1, u2, uk, uz⟩ := id hd
      obtain ⟨hw0, hw1, hh0, hh1, hf0, hf1, hf2, hr0, hr1, hc0, hc1, hp0, hp1, hk0, hk1, hi0, hi1, hkp, hP⟩ := id hH
      refine z_pop e_X4_feed_35 rfl ?_
      refine z_iload_n e_X4_feed_36 rfl ?_
      refine z_if_eq e_X4_feed_37 ⟨by omega, by omega⟩ (fun h37_3 => ?_) (fun h37_3 => ?_)
      · refine z_aload_n e_X4_feed_51 rfl ?_
        refine z_iload_n e_X4_feed_52 rfl ?_
        refine z_callVv (M' := M_X4_obey) (As := [zi code]) (rest := []) e_X4_feed_53 l_RX4_46 rfl rfl rfl rfl to ⟨_, _, rfl⟩ (c_X4_obey hX (by omega)) (fun m2 r2 hq => ?_)
        have hX := z_X_T hX hq (p_hd_move hH) (p_o_move hH)
        have fx2 := z_Xf_T (o := o) hq (by omega)
        generalize hP2 : p_move code P1 = P2 at hX
        obtain ⟨⟨to, ta, tq, ro0, ro1, ro2, rok⟩, ⟨fo3, fo4, nb0, nb1, nb2, nb3⟩, hH, ⟨sg, hS⟩, hM⟩ := id hX
        obtain ⟨hc, hd, hr⟩ := id hS
        obtain ⟨t0, t1, t2, t3, t4, q0, q1, q2⟩ := id hc
        obtain ⟨d3, d4, d5, d6, d7, d8, u0, u1, u2, uk, uz⟩ := id hd
        obtain ⟨hw0, hw1, hh0, hh1, hf0, hf1, hf2, hr0, hr1, hc0, hc1, hp0, hp1, hk0, hk1, hi0, hi1, hkp, hP⟩ := id hH
        refine z_aload_n e_X4_feed_56 rfl ?_
        refine z_getr (fi := 0) (r := some (o + 1)) e_X4_feed_57 f_RX4_12 to rfl rfl (ro0) ?_
        refine z_geti (fi := 4) (x := (P2 14)) e_X4_feed_60 f_RX4_49 t0 rfl rfl (d4) ?_
        refine z_iret e_X4_feed_63 (Or.inl rfl) rfl rfl ⟨rfl, _, rfl, ?_⟩
        refine ⟨fun _ => ⟨?_, ⟨nx1, ?_⟩, z_Xf_t fx1 (fx2)⟩, fun q => absurd (by omega) q⟩
        · rw [if_neg (show ¬ 32 ≤ code by omega)]
        · have hnr : n_rec n = n1 := hn1
          rw [if_neg (show ¬ 32 ≤ code by omega)]
          have ep := hP2
          rw [hnr]
          first | exact hX | (rw [ep]; exact hX)
      · refine z_aload_n e_X4_feed_40 rfl ?_
        refine z_getr (fi := 0) (r := some (o + 1)) e_X4_feed_41 f_RX4_12 to rfl rfl (ro0) ?_
        refine z_iload_n e_X4_feed_44 rfl ?_
        refine z_callVv (M' := M_X3_write) (As := [zi code]) (rest := []) e_X4_feed_45 l_RX4_42 rfl rfl rfl rfl t0 ⟨_, _, rfl⟩ (e_X3_write hc hd hr hH (by omega) (by omega)) (fun m3 r3 hq => ?_)
        have hX := z_X_T hX hq (p_hd_write hH (by omega) (by omega)) (p_o_write hH)
        have fx3 := z_Xf_T (o := o) hq (by omega)
        generalize hP3 : p_write code P1 = P3 at hX
        obtain ⟨⟨to, ta, tq, ro0, ro1, ro2, rok⟩, ⟨fo3, fo4, nb0, nb1, nb2, nb3⟩, hH, ⟨sg, hS⟩, hM⟩ := id hX
        obtain ⟨hc, hd, hr⟩ := id hS
        obtain ⟨t0, t1, t2, t3, t4, q0, q1, q2⟩ := id hc
        obtain ⟨d3, d4, d5, d6, d7, d8, u0, u1, u2, uk, uz⟩ := id hd
        obtain ⟨hw0, hw1, hh0, hh1, hf0, hf1, hf2, hr0, hr1, hc0, hc1, hp0, hp1, hk0, hk1, hi0, hi1, hkp, hP⟩ := id hH
        refine z_goto e_X4_feed_48 ?_
        refine z_aload_n e_X4_feed_56 rfl ?_
        refine z_getr (fi := 0) (r := some (o + 1)) e_X4_feed_57 f_RX4_12 to rfl rfl (ro0) ?_
        refine z_geti (fi := 4) (x := (P3 14)) e_X4_feed_60 f_RX4_49 t0 rfl rfl (d4) ?_
        refine z_iret e_X4_feed_63 (Or.inl rfl) rfl rfl ⟨rfl, _, rfl, ?_⟩
        refine ⟨fun _ => ⟨?_, ⟨nx1, ?_⟩, z_Xf_t fx1 (fx3)⟩, fun q => absurd (by omega) q⟩
        · rw [if_pos (show 32 ≤ code by omega)]
        · have hnr : n_rec n = n1 := hn1
          rw [if_pos (show 32 ≤ code by omega)]
          have ep := hP3
          rw [hnr]
          first | exact hX | (rw [ep]; exact hX)
    · refine z_iload_n e_X4_feed_22 rfl ?_
      refine z_callSi (M' := M_X4_isControl) (As := [zi code]) (rest := []) e_X4_feed_23 l_RX4_34 rfl rfl rfl rfl (c_X4_isControl hz) (fun xq mq rq hq => ?_)
      obtain ⟨e1q, e2q, e3q⟩ := hq
      subst xq mq rq
      refine z_if_neB e_X4_feed_26  (fun h26_4 => ?_) (fun h26_4 => ?_)
      · refine z_aload_n e_X4_feed_31 rfl ?_
        refine z_callVr (M' := M_X4_remember) (As := []) (rest := []) e_X4_feed_32 l_RX4_38 rfl rfl rfl rfl to ⟨_, _, rfl⟩ (c_X4_remember hX) (fun x4 m4 r4 hq => ?_)
        obtain ⟨hxr, hX, hSr, fx4⟩ := hq
        subst hxr
        generalize hn4 : (if n < 8 then n + 1 else 8) = n4 at hX
        generalize hnx4 : (nx + 1) % 8 = nx4 at hX
        have g4_0 : (p_rec n P) 0 = P 0 := p_rec_hd nb2 (by decide)
        have g4_1 : (p_rec n P) 1 = P 1 := p_rec_hd nb2 (by decide)
        have g4_2 : (p_rec n P) 2 = P 2 := p_rec_hd nb2 (by decide)
        have g4_3 : (p_rec n P) 3 = P 3 := p_rec_hd nb2 (by decide)
        have g4_4 : (p_rec n P) 4 = P 4 := p_rec_hd nb2 (by decide)
        have g4_5 : (p_rec n P) 5 = P 5 := p_rec_hd nb2 (by decide)
        have g4_6 : (p_rec n P) 6 = P 6 := p_rec_hd nb2 (by decide)
        have g4_7 : (p_rec n P) 7 = P 7 := p_rec_hd nb2 (by decide)
        have g4_14 : (p_rec n P) 14 = P 14 := p_rec_hd nb2 (by decide)
        generalize hP4 : p_rec n P = P4 at hX hSr g4_0 g4_1 g4_2 g4_3 g4_4 g4_5 g4_6 g4_7 g4_14
        obtain ⟨⟨to, ta, tq, ro0, ro1, ro2, rok⟩, ⟨fo3, fo4, nb0, nb1, nb2, nb3⟩, hH, ⟨sg, hS⟩, hM⟩ := id hX
        obtain ⟨hc, hd, hr⟩ := id hS
        obtain ⟨t0, t1, t2, t3, t4, q0, q1, q2⟩ := id hc
        obtain ⟨d3, d4, d5, d6, d7, d8, u0, u1, u2, uk, uz⟩ := id hd
        obtain ⟨hw0, hw1, hh0, hh1, hf0, hf1, hf2, hr0, hr1, hc0, hc1, hp0, hp1, hk0, hk1, hi0, hi1, hkp, hP⟩ := id hH
        refine z_pop e_X4_feed_35 rfl ?_
        refine z_iload_n e_X4_feed_36 rfl ?_
        refine z_if_eq e_X4_feed_37 ⟨by omega, by omega⟩ (fun h37_5 => ?_) (fun h37_5 => ?_)
        · refine z_aload_n e_X4_feed_51 rfl ?_
          refine z_iload_n e_X4_feed_52 rfl ?_
          refine z_callVv (M' := M_X4_obey) (As := [zi code]) (rest := []) e_X4_feed_53 l_RX4_46 rfl rfl rfl rfl to ⟨_, _, rfl⟩ (c_X4_obey hX (by omega)) (fun m5 r5 hq => ?_)
          have hX := z_X_T hX hq (p_hd_move hH) (p_o_move hH)
          have fx5 := z_Xf_T (o := o) hq (by omega)
          generalize hP5 : p_move code P4 = P5 at hX
          obtain ⟨⟨to, ta, tq, ro0, ro1, ro2, rok⟩, ⟨fo3, fo4, nb0, nb1, nb2, nb3⟩, hH, ⟨sg, hS⟩, hM⟩ := id hX
          obtain ⟨hc, hd, hr⟩ := id hS
          obtain ⟨t0, t1, t2, t3, t4, q0, q1, q2⟩ := id hc
          obtain ⟨d3, d4, d5, d6, d7, d8, u0, u1, u2, uk, uz⟩ := id hd
          obtain ⟨hw0, hw1, hh0, hh1, hf0, hf1, hf2, hr0, hr1, hc0, hc1, hp0, hp1, hk0, hk1, hi0, hi1, hkp, hP⟩ := id hH
          refine z_aload_n e_X4_feed_56 rfl ?_
          refine z_getr (fi := 0) (r := some (o + 1)) e_X4_feed_57 f_RX4_12 to rfl rfl (ro0) ?_
          refine z_geti (fi := 4) (x := (P5 14)) e_X4_feed_60 f_RX4_49 t0 rfl rfl (d4) ?_
          refine z_iret e_X4_feed_63 (Or.inl rfl) rfl rfl ⟨rfl, _, rfl, ?_⟩
          refine ⟨fun _ => ⟨?_, ⟨nx4, ?_⟩, z_Xf_t fx4 (fx5)⟩, fun q => absurd (by omega) q⟩
          · rw [if_neg (show ¬ 32 ≤ code by omega)]
          · have hnr : n_rec n = n4 := hn4
            rw [if_neg (show ¬ 32 ≤ code by omega)]
            have ep := hP5
            rw [hnr]
            first | exact hX | (rw [ep]; exact hX)
        · refine z_aload_n e_X4_feed_40 rfl ?_
          refine z_getr (fi := 0) (r := some (o + 1)) e_X4_feed_41 f_RX4_12 to rfl rfl (ro0) ?_
          refine z_iload_n e_X4_feed_44 rfl ?_
          refine z_callVv (M' := M_X3_write) (As := [zi code]) (rest := []) e_X4_feed_45 l_RX4_42 rfl rfl rfl rfl t0 ⟨_, _, rfl⟩ (e_X3_write hc hd hr hH (by omega) (by omega)) (fun m6 r6 hq => ?_)
          have hX := z_X_T hX hq (p_hd_write hH (by omega) (by omega)) (p_o_write hH)
          have fx6 := z_Xf_T (o := o) hq (by omega)
          generalize hP6 : p_write code P4 = P6 at hX
          obtain ⟨⟨to, ta, tq, ro0, ro1, ro2, rok⟩, ⟨fo3, fo4, nb0, nb1, nb2, nb3⟩, hH, ⟨sg, hS⟩, hM⟩ := id hX
          obtain ⟨hc, hd, hr⟩ := id hS
          obtain ⟨t0, t1, t2, t3, t4, q0, q1, q2⟩ := id hc
          obtain ⟨d3, d4, d5, d6, d7, d8, u0, u1, u2, uk, uz⟩ := id hd
          obtain ⟨hw0, hw1, hh0, hh1, hf0, hf1, hf2, hr0, hr1, hc0, hc1, hp0, hp1, hk0, hk1, hi0, hi1, hkp, hP⟩ := id hH
          refine z_goto e_X4_feed_48 ?_
          refine z_aload_n e_X4_feed_56 rfl ?_
          refine z_getr (fi := 0) (r := some (o + 1)) e_X4_feed_57 f_RX4_12 to rfl rfl (ro0) ?_
          refine z_geti (fi := 4) (x := (P6 14)) e_X4_feed_60 f_RX4_49 t0 rfl rfl (d4) ?_
          refine z_iret e_X4_feed_63 (Or.inl rfl) rfl rfl ⟨rfl, _, rfl, ?_⟩
          refine ⟨fun _ => ⟨?_, ⟨nx4, ?_⟩, z_Xf_t fx4 (fx6)⟩, fun q => absurd (by omega) q⟩
          · rw [if_pos (show 32 ≤ code by omega)]
          · have hnr : n_rec n = n4 := hn4
            rw [if_pos (show 32 ≤ code by omega)]
            have ep := hP6
            rw [hnr]
            first | exact hX | (rw [ep]; exact hX)
      · refine z_iconst e_X4_feed_29 ?_
        refine z_iret e_X4_feed_30 (Or.inl rfl) rfl rfl ⟨rfl, _, rfl, ?_⟩
        exact ⟨fun q => absurd q (by omega), fun _ => ⟨rfl, rfl, rfl⟩⟩
  refine z_iload_n e_X4_feed_0 rfl ?_
  refine z_bipush e_X4_feed_1 (by decide +kernel) ?_
  refine z_icmp_lt e_X4_feed_3 ⟨by omega, by omega⟩ (by decide) (fun h3_6 => ?_) (fun h3_6 => ?_)
  · refine z_iconst e_X4_feed_16 ?_
    exact join17_0 0 ((if_neg (by omega)).symm)
  · refine z_iload_n e_X4_feed_6 rfl ?_
    refine z_bipush e_X4_feed_7 (by decide +kernel) ?_
    refine z_icmp_gt e_X4_feed_9 ⟨by omega, by omega⟩ (by decide) (fun h9_7 => ?_) (fun h9_7 => ?_)
    · refine z_iconst e_X4_feed_16 ?_
      exact join17_0 0 ((if_neg (by omega)).symm)
    · refine z_iconst e_X4_feed_12 ?_
      refine z_goto e_X4_feed_13 ?_
      exact join17_0 1 ((if_pos (by omega)).symm)
set_option maxHeartbeats 1000000 in
set_option maxRecDepth 100000 in
theorem c_X4_eraseLine {E : z_E} {mi : z_Mi} {mr : z_Mr} {o : Nat} {P : Int → Int} {n nx : Int} {kind : Int} (hX : z_X E o mi mr P n nx) (hz : z_R kind) : z_mi M_X4_eraseLine E [zo o, zi kind] mi mr (fun x m r => ((0 ≤ kind ∧ kind ≤ 2) → x = m_fillA (p_rec n P) - m_fillA (p_eline kind (p_rec n P)) ∧ z_Z E o mi mr (p_eline kind (p_rec n P)) (n_rec n) m r) ∧ (¬ (0 ≤ kind ∧ kind ≤ 2) → x = -1 ∧ m = mi ∧ r = mr)) := by
  obtain ⟨⟨to, ta, tq, ro0, ro1, ro2, rok⟩, ⟨fo3, fo4, nb0, nb1, nb2, nb3⟩, hH, ⟨sg, hS⟩, hM⟩ := id hX
  obtain ⟨hc, hd, hr⟩ := id hS
  obtain ⟨t0, t1, t2, t3, t4, q0, q1, q2⟩ := id hc
  obtain ⟨d3, d4, d5, d6, d7, d8, u0, u1, u2, uk, uz⟩ := id hd
  obtain ⟨hw0, hw1, hh0, hh1, hf0, hf1, hf2, hr0, hr1, hc0, hc1, hp0, hp1, hk0, hk1, hi0, hi1, hkp, hP⟩ := id hH
  refine z_ofi (ls := [some (zo o), some (zi kind), none]) rfl (fun _ _ => trivial) ⟨rfl, rfl⟩ (Nat.le_of_ble_eq_true rfl) rfl ?_
  refine z_iload_n e_X4_eraseLine_0 rfl ?_
  refine z_if_lt e_X4_eraseLine_1 ⟨by omega, by omega⟩ (fun h1_1 => ?_) (fun h1_1 => ?_)
  · refine z_iconst e_X4_eraseLine_9 ?_
    refine z_iret e_X4_eraseLine_10 (Or.inl rfl) rfl rfl ⟨rfl, _, rfl, ?_⟩
    exact ⟨fun q => absurd q (by omega), fun _ => ⟨rfl, rfl, rfl⟩⟩
  · refine z_iload_n e_X4_eraseLine_4 rfl ?_
    refine z_iconst e_X4_eraseLine_5 ?_
    refine z_icmp_le e_X4_eraseLine_6 ⟨by omega, by omega⟩ (by decide) (fun h6_2 => ?_) (fun h6_2 => ?_)
    · refine z_aload_n e_X4_eraseLine_11 rfl ?_
      refine z_callVr (M' := M_X4_remember) (As := []) (rest := []) e_X4_eraseLine_12 l_RX4_38 rfl rfl rfl rfl to ⟨_, _, rfl⟩ (c_X4_remember hX) (fun x1 m1 r1 hq => ?_)
      obtain ⟨hxr, hX, hSr, fx1⟩ := hq
      subst hxr
      generalize hn1 : (if n < 8 then n + 1 else 8) = n1 at hX
      generalize hnx1 : (nx + 1) % 8 = nx1 at hX
      have g1_0 : (p_rec n P) 0 = P 0 := p_rec_hd nb2 (by decide)
      have g1_1 : (p_rec n P) 1 = P 1 := p_rec_hd nb2 (by decide)
      have g1_2 : (p_rec n P) 2 = P 2 := p_rec_hd nb2 (by decide)
      have g1_3 : (p_rec n P) 3 = P 3 := p_rec_hd nb2 (by decide)
      have g1_4 : (p_rec n P) 4 = P 4 := p_rec_hd nb2 (by decide)
      have g1_5 : (p_rec n P) 5 = P 5 := p_rec_hd nb2 (by decide)
      have g1_6 : (p_rec n P) 6 = P 6 := p_rec_hd nb2 (by decide)
      have g1_7 : (p_rec n P) 7 = P 7 := p_rec_hd nb2 (by decide)
      have g1_14 : (p_rec n P) 14 = P 14 := p_rec_hd nb2 (by decide)
      generalize hP1 : p_rec n P = P1 at hX hSr g1_0 g1_1 g1_2 g1_3 g1_4 g1_5 g1_6 g1_7 g1_14
      obtain ⟨⟨to, ta, tq, ro0, ro1, ro2, rok⟩, ⟨fo3, fo4, nb0, nb1, nb2, nb3⟩, hH, ⟨sg, hS⟩, hM⟩ := id hX
      obtain ⟨hc, hd, hr⟩ := id hS
      obtain ⟨t0, t1, t2, t3, t4, q0, q1, q2⟩ := id hc
      obtain ⟨d3, d4, d5, d6, d7, d8, u0, u1, u2, uk, uz⟩ := id hd
      obtain ⟨hw0, hw1, hh0, hh1, hf0, hf1, hf2, hr0, hr1, hc0, hc1, hp0, hp1, hk0, hk1, hi0, hi1, hkp, hP⟩ := id hH
      refine z_pop e_X4_eraseLine_15 rfl ?_
      refine z_aload_n e_X4_eraseLine_16 rfl ?_
      refine z_getr (fi := 0) (r := some (o + 1)) e_X4_eraseLine_17 f_RX4_12 to rfl rfl (ro0) ?_
      refine z_callVi (M' := M_X3_taken) (As := []) (rest := []) e_X4_eraseLine_20 l_RX4_84 rfl rfl rfl rfl t0 ⟨_, _, rfl⟩ (c_X3_taken ⟨hc, hd, hr⟩ hH) (fun xq mq rq hq => ?_)
      obtain ⟨e1q, e2q, e3q⟩ := hq
      rw [n_takA_fill] at e1q
      subst xq mq rq
      refine z_istore_n (ls' := [some (zo o), some (zi kind), some (zi (m_fillA P1))]) e_X4_eraseLine_23 rfl rfl rfl ?_
      refine z_aload_n e_X4_eraseLine_24 rfl ?_
      refine z_getr (fi := 0) (r := some (o + 1)) e_X4_eraseLine_25 f_RX4_12 to rfl rfl (ro0) ?_
      refine z_iload_n e_X4_eraseLine_28 rfl ?_
      refine z_callVv (M' := M_X3_eraseInRow) (As := [zi kind]) (rest := []) e_X4_eraseLine_29 l_RX4_88 rfl rfl rfl rfl t0 ⟨_, _, rfl⟩ (e_X3_eraseInRow hc hd hr hH (by omega) (by omega)) (fun m2 r2 hq => ?_)
      have hX := z_X_T hX hq (p_hd_erases hH hr0) (p_o_erases hH (by omega))
      have fx2 := z_Xf_T (o := o) hq (by omega)
      have g2_0 : (p_erases P1 (P1 4) (if kind = 0 then P1 5 else 0) (if kind = 1 then P1 5 else P1 0 - 1)) 0 = P1 0 := p_erases_hd (by decide) hr0
      have g2_1 : (p_erases P1 (P1 4) (if kind = 0 then P1 5 else 0) (if kind = 1 then P1 5 else P1 0 - 1)) 1 = P1 1 := p_erases_hd (by decide) hr0
      have g2_2 : (p_erases P1 (P1 4) (if kind = 0 then P1 5 else 0) (if kind = 1 then P1 5 else P1 0 - 1)) 2 = P1 2 := p_erases_hd (by decide) hr0
      have g2_3 : (p_erases P1 (P1 4) (if kind = 0 then P1 5 else 0) (if kind = 1 then P1 5 else P1 0 - 1)) 3 = P1 3 := p_erases_hd (by decide) hr0
      have g2_4 : (p_erases P1 (P1 4) (if kind = 0 then P1 5 else 0) (if kind = 1 then P1 5 else P1 0 - 1)) 4 = P1 4 := p_erases_hd (by decide) hr0
      have g2_5 : (p_erases P1 (P1 4) (if kind = 0 then P1 5 else 0) (if kind = 1 then P1 5 else P1 0 - 1)) 5 = P1 5 := p_erases_hd (by decide) hr0
      have g2_6 : (p_erases P1 (P1 4) (if kind = 0 then P1 5 else 0) (if kind = 1 then P1 5 else P1 0 - 1)) 6 = P1 6 := p_erases_hd (by decide) hr0
      have g2_7 : (p_erases P1 (P1 4) (if kind = 0 then P1 5 else 0) (if kind = 1 then P1 5 else P1 0 - 1)) 7 = P1 7 := p_erases_hd (by decide) hr0
      have g2_14 : (p_erases P1 (P1 4) (if kind = 0 then P1 5 else 0) (if kind = 1 then P1 5 else P1 0 - 1)) 14 = P1 14 := p_erases_hd (by decide) hr0
      generalize hP2 : p_erases P1 (P1 4) (if kind = 0 then P1 5 else 0) (if kind = 1 then P1 5 else P1 0 - 1) = P2 at hX g2_0 g2_1 g2_2 g2_3 g2_4 g2_5 g2_6 g2_7 g2_14
      obtain ⟨⟨to, ta, tq, ro0, ro1, ro2, rok⟩, ⟨fo3, fo4, nb0, nb1, nb2, nb3⟩, hH, ⟨sg, hS⟩, hM⟩ := id hX
      obtain ⟨hc, hd, hr⟩ := id hS
      obtain ⟨t0, t1, t2, t3, t4, q0, q1, q2⟩ := id hc
      obtain ⟨d3, d4, d5, d6, d7, d8, u0, u1, u2, uk, uz⟩ := id hd
      obtain ⟨hw0, hw1, hh0, hh1, hf0, hf1, hf2, hr0, hr1, hc0, hc1, hp0, hp1, hk0, hk1, hi0, hi1, hkp, hP⟩ := id hH
      refine z_aload_n e_X4_eraseLine_32 rfl ?_
      refine z_getr (fi := 0) (r := some (o + 1)) e_X4_eraseLine_33 f_RX4_12 to rfl rfl (ro0) ?_
      refine z_getr (fi := 1) (r := some (o + 1 + 2)) e_X4_eraseLine_36 f_RX4_59 t0 rfl rfl (q1) ?_
      refine z_iconst e_X4_eraseLine_39 ?_
      refine z_putiN (fi := 2) (f := (m2 (o + 1 + 2))) e_X4_eraseLine_40 f_RX4_91 t2 rfl rfl (Or.inr ⟨rfl, Or.inl rfl⟩) (rfl) ?_
      have hq := z_T_cur (F := z_v (m2 (o + 1 + 2)) 2 0) (Q := z_v P2 6 0) hc hd hr hH (fun k _ hk => z_vn (by omega)) ((z_vn (by decide)).trans (u0.trans (z_vn (by decide)).symm)) ((z_vn (by decide)).trans (u1.trans (z_vn (by decide)).symm)) ((z_vs _ _ _).trans (z_vs _ _ _).symm)
      generalize hm3 : (z_u m2 (o + 1 + 2) (z_v (m2 (o + 1 + 2)) 2 0)) = m3 at hq ⊢
      have hX := z_X_T hX hq (p_hd_6 hH) (p_o_v (p_o_r _) (by decide))
      have fx3 := z_Xf_T (o := o) hq (by omega)
      have g3_0 : (z_v P2 6 0) 0 = P2 0 := z_vn (by decide)
      have g3_1 : (z_v P2 6 0) 1 = P2 1 := z_vn (by decide)
      have g3_2 : (z_v P2 6 0) 2 = P2 2 := z_vn (by decide)
      have g3_3 : (z_v P2 6 0) 3 = P2 3 := z_vn (by decide)
      have g3_4 : (z_v P2 6 0) 4 = P2 4 := z_vn (by decide)
      have g3_5 : (z_v P2 6 0) 5 = P2 5 := z_vn (by decide)
      have g3_6 : (z_v P2 6 0) 6 = 0 := z_vs _ _ _
      have g3_7 : (z_v P2 6 0) 7 = P2 7 := z_vn (by decide)
      have g3_14 : (z_v P2 6 0) 14 = P2 14 := z_vn (by decide)
      generalize hP3 : z_v P2 6 0 = P3 at hX g3_0 g3_1 g3_2 g3_3 g3_4 g3_5 g3_6 g3_7 g3_14
      obtain ⟨⟨to, ta, tq, ro0, ro1, ro2, rok⟩, ⟨fo3, fo4, nb0, nb1, nb2, nb3⟩, hH, ⟨sg, hS⟩, hM⟩ := id hX
      obtain ⟨hc, hd, hr⟩ := id hS
      obtain ⟨t0, t1, t2, t3, t4, q0, q1, q2⟩ := id hc
      obtain ⟨d3, d4, d5, d6, d7, d8, u0, u1, u2, uk, uz⟩ := id hd
      obtain ⟨hw0, hw1, hh0, hh1, hf0, hf1, hf2, hr0, hr1, hc0, hc1, hp0, hp1, hk0, hk1, hi0, hi1, hkp, hP⟩ := id hH
      refine z_iload_n e_X4_eraseLine_43 rfl ?_
      refine z_aload_n e_X4_eraseLine_44 rfl ?_
      refine z_getr (fi := 0) (r := some (o + 1)) e_X4_eraseLine_45 f_RX4_12 to rfl rfl (ro0) ?_
      refine z_callVi (M' := M_X3_taken) (As := []) (rest := [zi (m_fillA P1)]) e_X4_eraseLine_48 l_RX4_84 rfl rfl rfl rfl t0 ⟨_, _, rfl⟩ (c_X3_taken ⟨hc, hd, hr⟩ hH) (fun xq mq rq hq => ?_)
      obtain ⟨e1q, e2q, e3q⟩ := hq
      rw [n_takA_fill] at e1q
      subst xq mq rq
      refine z_isub e_X4_eraseLine_51 ?_
      refine z_iret e_X4_eraseLine_52 (Or.inl rfl) rfl rfl ⟨rfl, _, rfl, ?_⟩
      have ep : p_eline kind P1 = P3 := by unfold p_eline; rw [hP2, hP3]
      refine ⟨fun _ => ⟨?_, ⟨nx1, ?_⟩, z_Xf_t fx1 (z_Xf_t fx2 (fx3))⟩, fun q => absurd (by omega) q⟩
      · rw [ep]
      · have hnr : n_rec n = n1 := hn1
        rw [hnr]
        first | exact hX | (rw [ep]; exact hX)
    · refine z_iconst e_X4_eraseLine_9 ?_
      refine z_iret e_X4_eraseLine_10 (Or.inl rfl) rfl rfl ⟨rfl, _, rfl, ?_⟩
      exact ⟨fun q => absurd q (by omega), fun _ => ⟨rfl, rfl, rfl⟩⟩
set_option maxHeartbeats 1000000 in
set_option maxRecDepth 100000 in
theorem c_X4_keep {E : z_E} {mi : z_Mi} {mr : z_Mr} {o : Nat} {P : Int → Int} {n nx : Int} (hX : z_X E o mi mr P n nx) : z_mi M_X4_keep E [zo o] mi mr (fun x m r => (P 7 ≠ 3 → x = P 7 + 1 ∧ z_Z E o mi mr (p_kp (p_rec n P)) (n_rec n) m r) ∧ (¬ P 7 ≠ 3 → x = -3 ∧ m = mi ∧ r = mr)) := by
  obtain ⟨⟨to, ta, tq, ro0, ro1, ro2, rok⟩, ⟨fo3, fo4, nb0, nb1, nb2, nb3⟩, hH, ⟨sg, hS⟩, hM⟩ := id hX
  obtain ⟨hc, hd, hr⟩ := id hS
  obtain ⟨t0, t1, t2, t3, t4, q0, q1, q2⟩ := id hc
  obtain ⟨d3, d4, d5, d6, d7, d8, u0, u1, u2, uk, uz⟩ := id hd
  obtain ⟨hw0, hw1, hh0, hh1, hf0, hf1, hf2, hr0, hr1, hc0, hc1, hp0, hp1, hk0, hk1, hi0, hi1, hkp, hP⟩ := id hH
  refine z_ofi (ls := [some (zo o)]) rfl (fun _ _ => trivial) ⟨rfl, rfl⟩ (Nat.le_of_ble_eq_true rfl) rfl ?_
  refine z_aload_n e_X4_keep_0 rfl ?_
  refine z_getr (fi := 0) (r := some (o + 1)) e_X4_keep_1 f_RX4_12 to rfl rfl (ro0) ?_
  refine z_geti (fi := 3) (x := (P 7)) e_X4_keep_4 f_RX4_129 t0 rfl rfl (d3) ?_
  refine z_iconst e_X4_keep_7 ?_
  refine z_icmp_lt e_X4_keep_8 ⟨by omega, by omega⟩ (by decide) (fun h8_1 => ?_) (fun h8_1 => ?_)
  · refine z_aload_n e_X4_keep_14 rfl ?_
    refine z_callVr (M' := M_X4_remember) (As := []) (rest := []) e_X4_keep_15 l_RX4_38 rfl rfl rfl rfl to ⟨_, _, rfl⟩ (c_X4_remember hX) (fun x1 m1 r1 hq => ?_)
    obtain ⟨hxr, hX, hSr, fx1⟩ := hq
    subst hxr
    generalize hn1 : (if n < 8 then n + 1 else 8) = n1 at hX
    generalize hnx1 : (nx + 1) % 8 = nx1 at hX
    have g1_0 : (p_rec n P) 0 = P 0 := p_rec_hd nb2 (by decide)
    have g1_1 : (p_rec n P) 1 = P 1 := p_rec_hd nb2 (by decide)
    have g1_2 : (p_rec n P) 2 = P 2 := p_rec_hd nb2 (by decide)
    have g1_3 : (p_rec n P) 3 = P 3 := p_rec_hd nb2 (by decide)
    have g1_4 : (p_rec n P) 4 = P 4 := p_rec_hd nb2 (by decide)
    have g1_5 : (p_rec n P) 5 = P 5 := p_rec_hd nb2 (by decide)
    have g1_6 : (p_rec n P) 6 = P 6 := p_rec_hd nb2 (by decide)
    have g1_7 : (p_rec n P) 7 = P 7 := p_rec_hd nb2 (by decide)
    have g1_14 : (p_rec n P) 14 = P 14 := p_rec_hd nb2 (by decide)
    generalize hP1 : p_rec n P = P1 at hX hSr g1_0 g1_1 g1_2 g1_3 g1_4 g1_5 g1_6 g1_7 g1_14
    obtain ⟨⟨to, ta, tq, ro0, ro1, ro2, rok⟩, ⟨fo3, fo4, nb0, nb1, nb2, nb3⟩, hH, ⟨sg, hS⟩, hM⟩ := id hX
    obtain ⟨hc, hd, hr⟩ := id hS
    obtain ⟨t0, t1, t2, t3, t4, q0, q1, q2⟩ := id hc
    obtain ⟨d3, d4, d5, d6, d7, d8, u0, u1, u2, uk, uz⟩ := id hd
    obtain ⟨hw0, hw1, hh0, hh1, hf0, hf1, hf2, hr0, hr1, hc0, hc1, hp0, hp1, hk0, hk1, hi0, hi1, hkp, hP⟩ := id hH
    refine z_pop e_X4_keep_18 rfl ?_
    refine z_aload_n e_X4_keep_19 rfl ?_
    refine z_getr (fi := 0) (r := some (o + 1)) e_X4_keep_20 f_RX4_12 to rfl rfl (ro0) ?_
    refine z_callVv (M' := M_X3_keepCursor) (As := []) (rest := []) e_X4_keep_23 l_RX4_132 rfl rfl rfl rfl t0 ⟨_, _, rfl⟩ (e_X3_keepCursor hc hd hr hH (by omega)) (fun m2 r2 hq => ?_)
    have hX := z_X_T hX hq (p_hd_kp hH (by omega)) (p_o_kp (by omega))
    have fx2 := z_Xf_T (o := o) hq (by omega)
    have g2_7 : (p_kp P1) 7 = P1 7 + 1 := z_vs _ _ _
    generalize hP2 : p_kp P1 = P2 at hX g2_7
    obtain ⟨⟨to, ta, tq, ro0, ro1, ro2, rok⟩, ⟨fo3, fo4, nb0, nb1, nb2, nb3⟩, hH, ⟨sg, hS⟩, hM⟩ := id hX
    obtain ⟨hc, hd, hr⟩ := id hS
    obtain ⟨t0, t1, t2, t3, t4, q0, q1, q2⟩ := id hc
    obtain ⟨d3, d4, d5, d6, d7, d8, u0, u1, u2, uk, uz⟩ := id hd
    obtain ⟨hw0, hw1, hh0, hh1, hf0, hf1, hf2, hr0, hr1, hc0, hc1, hp0, hp1, hk0, hk1, hi0, hi1, hkp, hP⟩ := id hH
    refine z_aload_n e_X4_keep_26 rfl ?_
    refine z_getr (fi := 0) (r := some (o + 1)) e_X4_keep_27 f_RX4_12 to rfl rfl (ro0) ?_
    refine z_geti (fi := 3) (x := (P2 7)) e_X4_keep_30 f_RX4_129 t0 rfl rfl (d3) ?_
    refine z_iret e_X4_keep_33 (Or.inl rfl) rfl rfl ⟨rfl, _, rfl, ?_⟩
    refine ⟨fun _ => ⟨?_, ⟨nx1, ?_⟩, z_Xf_t fx1 (fx2)⟩, fun q => absurd (by omega) q⟩
    · omega
    · have hnr : n_rec n = n1 := hn1
      have ep := hP2
      rw [hnr]
      first | exact hX | (rw [ep]; exact hX)
  · refine z_bipush e_X4_keep_11 (by decide +kernel) ?_
    refine z_iret e_X4_keep_13 (Or.inl rfl) rfl rfl ⟨rfl, _, rfl, ?_⟩
    exact ⟨fun q => absurd q (by omega), fun _ => ⟨rfl, rfl, rfl⟩⟩
set_option maxHeartbeats 1000000 in
set_option maxRecDepth 100000 in
theorem c_X4_back {E : z_E} {mi : z_Mi} {mr : z_Mr} {o : Nat} {P : Int → Int} {n nx : Int} (hX : z_X E o mi mr P n nx) : z_mi M_X4_back E [zo o] mi mr (fun x m r => (P 7 ≠ 0 → x = P 7 - 1 ∧ z_Z E o mi mr (p_bk (p_rec n P)) (n_rec n) m r) ∧ (¬ P 7 ≠ 0 → x = -2 ∧ m = mi ∧ r = mr)) := by
  obtain ⟨⟨to, ta, tq, ro0, ro1, ro2, rok⟩, ⟨fo3, fo4, nb0, nb1, nb2, nb3⟩, hH, ⟨sg, hS⟩, hM⟩ := id hX
  obtain ⟨hc, hd, hr⟩ := id hS
  obtain ⟨t0, t1, t2, t3, t4, q0, q1, q2⟩ := id hc
  obtain ⟨d3, d4, d5, d6, d7, d8, u0, u1, u2, uk, uz⟩ := id hd
  obtain ⟨hw0, hw1, hh0, hh1, hf0, hf1, hf2, hr0, hr1, hc0, hc1, hp0, hp1, hk0, hk1, hi0, hi1, hkp, hP⟩ := id hH
  refine z_ofi (ls := [some (zo o)]) rfl (fun _ _ => trivial) ⟨rfl, rfl⟩ (Nat.le_of_ble_eq_true rfl) rfl ?_
  refine z_aload_n e_X4_back_0 rfl ?_
  refine z_getr (fi := 0) (r := some (o + 1)) e_X4_back_1 f_RX4_12 to rfl rfl (ro0) ?_
  refine z_geti (fi := 3) (x := (P 7)) e_X4_back_4 f_RX4_129 t0 rfl rfl (d3) ?_
  refine z_if_ne e_X4_back_7 ⟨by omega, by omega⟩ (fun h7_1 => ?_) (fun h7_1 => ?_)
  · refine z_aload_n e_X4_back_13 rfl ?_
    refine z_callVr (M' := M_X4_remember) (As := []) (rest := []) e_X4_back_14 l_RX4_38 rfl rfl rfl rfl to ⟨_, _, rfl⟩ (c_X4_remember hX) (fun x1 m1 r1 hq => ?_)
    obtain ⟨hxr, hX, hSr, fx1⟩ := hq
    subst hxr
    generalize hn1 : (if n < 8 then n + 1 else 8) = n1 at hX
    generalize hnx1 : (nx + 1) % 8 = nx1 at hX
    have g1_0 : (p_rec n P) 0 = P 0 := p_rec_hd nb2 (by decide)
    have g1_1 : (p_rec n P) 1 = P 1 := p_rec_hd nb2 (by decide)
    have g1_2 : (p_rec n P) 2 = P 2 := p_rec_hd nb2 (by decide)
    have g1_3 : (p_rec n P) 3 = P 3 := p_rec_hd nb2 (by decide)
    have g1_4 : (p_rec n P) 4 = P 4 := p_rec_hd nb2 (by decide)
    have g1_5 : (p_rec n P) 5 = P 5 := p_rec_hd nb2 (by decide)
    have g1_6 : (p_rec n P) 6 = P 6 := p_rec_hd nb2 (by decide)
    have g1_7 : (p_rec n P) 7 = P 7 := p_rec_hd nb2 (by decide)
    have g1_14 : (p_rec n P) 14 = P 14 := p_rec_hd nb2 (by decide)
    generalize hP1 : p_rec n P = P1 at hX hSr g1_0 g1_1 g1_2 g1_3 g1_4 g1_5 g1_6 g1_7 g1_14
    obtain ⟨⟨to, ta, tq, ro0, ro1, ro2, rok⟩, ⟨fo3, fo4, nb0, nb1, nb2, nb3⟩, hH, ⟨sg, hS⟩, hM⟩ := id hX
    obtain ⟨hc, hd, hr⟩ := id hS
    obtain ⟨t0, t1, t2, t3, t4, q0, q1, q2⟩ := id hc
    obtain ⟨d3, d4, d5, d6, d7, d8, u0, u1, u2, uk, uz⟩ := id hd
    obtain ⟨hw0, hw1, hh0, hh1, hf0, hf1, hf2, hr0, hr1, hc0, hc1, hp0, hp1, hk0, hk1, hi0, hi1, hkp, hP⟩ := id hH
    refine z_pop e_X4_back_17 rfl ?_
    refine z_aload_n e_X4_back_18 rfl ?_
    refine z_getr (fi := 0) (r := some (o + 1)) e_X4_back_19 f_RX4_12 to rfl rfl (ro0) ?_
    refine z_callVv (M' := M_X3_takeCursorBack) (As := []) (rest := []) e_X4_back_22 l_RX4_135 rfl rfl rfl rfl t0 ⟨_, _, rfl⟩ (e_X3_takeCursorBack hc hd hr hH (by omega)) (fun m2 r2 hq => ?_)
    have hX := z_X_T hX hq (p_hd_bk hH (by omega)) (p_o_bk)
    have fx2 := z_Xf_T (o := o) hq (by omega)
    have g2_7 : (p_bk P1) 7 = P1 7 - 1 := by simp [p_bk, p_goes, z_v]
    generalize hP2 : p_bk P1 = P2 at hX g2_7
    obtain ⟨⟨to, ta, tq, ro0, ro1, ro2, rok⟩, ⟨fo3, fo4, nb0, nb1, nb2, nb3⟩, hH, ⟨sg, hS⟩, hM⟩ := id hX
    obtain ⟨hc, hd, hr⟩ := id hS
    obtain ⟨t0, t1, t2, t3, t4, q0, q1, q2⟩ := id hc
    obtain ⟨d3, d4, d5, d6, d7, d8, u0, u1, u2, uk, uz⟩ := id hd
    obtain ⟨hw0, hw1, hh0, hh1, hf0, hf1, hf2, hr0, hr1, hc0, hc1, hp0, hp1, hk0, hk1, hi0, hi1, hkp, hP⟩ := id hH
    refine z_aload_n e_X4_back_25 rfl ?_
    refine z_getr (fi := 0) (r := some (o + 1)) e_X4_back_26 f_RX4_12 to rfl rfl (ro0) ?_
    refine z_geti (fi := 3) (x := (P2 7)) e_X4_back_29 f_RX4_129 t0 rfl rfl (d3) ?_
    refine z_iret e_X4_back_32 (Or.inl rfl) rfl rfl ⟨rfl, _, rfl, ?_⟩
    refine ⟨fun _ => ⟨?_, ⟨nx1, ?_⟩, z_Xf_t fx1 (fx2)⟩, fun q => absurd (by omega) q⟩
    · omega
    · have hnr : n_rec n = n1 := hn1
      have ep := hP2
      rw [hnr]
      first | exact hX | (rw [ep]; exact hX)
  · refine z_bipush e_X4_back_10 (by decide +kernel) ?_
    refine z_iret e_X4_back_12 (Or.inl rfl) rfl rfl ⟨rfl, _, rfl, ?_⟩
    exact ⟨fun q => absurd q (by omega), fun _ => ⟨rfl, rfl, rfl⟩⟩
