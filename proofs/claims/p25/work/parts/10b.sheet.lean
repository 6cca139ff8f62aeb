set_option maxHeartbeats 1000000 in
set_option maxRecDepth 100000 in
theorem d_X3_screenRow {E : z_E} {mi : z_Mi} {mr : z_Mr} {s : Nat} {sg : Int → Nat} {P : Int → Int} {k : Int} (hc : z_Sc E mr s) (hd : z_Sd mi s P) (hr : z_Sr E mi mr s sg (P 0) (P 14 + P 1) (p_rows P)) (hH : p_hd P) (h0 : 0 ≤ P 14 + k) (h1 : P 14 + k < 32) : z_mf M_X3_screenRow E [zo s, zi k] mi mr (fun x m r => x = sg (P 14 + k) ∧ m = mi ∧ r = mr) := by
  obtain ⟨t0, t1, t2, t3, t4, q0, q1, q2⟩ := id hc
  obtain ⟨d3, d4, d5, d6, d7, d8, u0, u1, u2, uk, uz⟩ := id hd
  obtain ⟨hw0, hw1, hh0, hh1, hf0, hf1, hf2, hr0, hr1, hc0, hc1, hp0, hp1, hk0, hk1, hi0, hi1, hkp, hP⟩ := id hH
  have hn : P 14 + P 1 ≤ 32 := by omega
  refine z_ofr (ls := [some (zo s), some (zi k)]) rfl (fun _ _ => trivial) ⟨rfl, rfl⟩ (Nat.le_of_ble_eq_true rfl) rfl ?_
  refine z_aload_n e_X3_screenRow_0 rfl ?_
  refine z_aload_n e_X3_screenRow_1 rfl ?_
  refine z_geti (fi := 4) (x := (P 14)) e_X3_screenRow_2 f_RX3_32 t0 rfl rfl (d4) ?_
  refine z_iload_n e_X3_screenRow_5 rfl ?_
  refine z_iadd e_X3_screenRow_6 ?_
  refine z_callVr (M' := M_X3_rowAt) (As := [zi ((P 14) + k)]) (rest := []) e_X3_screenRow_7 l_RX3_56 rfl rfl rfl rfl t0 ⟨_, _, rfl⟩ (d_X3_rowAt hc hd hr (by omega) (by omega) (by omega) (by omega) (by omega)) (fun xq mq rq hq => ?_)
  obtain ⟨e1q, e2q, e3q⟩ := hq
  subst xq mq rq
  refine z_aret e_X3_screenRow_10 ⟨_, rfl⟩ rfl rfl ⟨rfl, _, rfl, ?_⟩
  exact ⟨rfl, rfl, rfl⟩
set_option maxHeartbeats 1000000 in
set_option maxRecDepth 100000 in
theorem e_X3_goOn {E : z_E} {mi : z_Mi} {mr : z_Mr} {s : Nat} {sg : Int → Nat} {P : Int → Int} (hc : z_Sc E mr s) (hd : z_Sd mi s P) (hr : z_Sr E mi mr s sg (P 0) (P 14 + P 1) (p_rows P)) (hH : p_hd P) : z_mi M_X3_goOn E [zo s] mi mr (fun x m r => x = (if P 4 = P 3 ∨ P 4 ≠ P 1 - 1 then 1 else 0) ∧ z_T E s mi mr (p_go 0 P) m r) := by
  obtain ⟨t0, t1, t2, t3, t4, q0, q1, q2⟩ := id hc
  obtain ⟨d3, d4, d5, d6, d7, d8, u0, u1, u2, uk, uz⟩ := id hd
  obtain ⟨hw0, hw1, hh0, hh1, hf0, hf1, hf2, hr0, hr1, hc0, hc1, hp0, hp1, hk0, hk1, hi0, hi1, hkp, hP⟩ := id hH
  have hn : P 14 + P 1 ≤ 32 := by omega
  have hH0 := hH
  refine z_ofi (ls := [some (zo s), none]) rfl (fun _ _ => trivial) ⟨rfl, rfl⟩ (Nat.le_of_ble_eq_true rfl) rfl ?_
  refine z_aload_n e_X3_goOn_0 rfl ?_
  refine z_callVi (M' := M_X3_lineFeed) (As := []) (rest := []) e_X3_goOn_1 l_RX3_102 rfl rfl rfl rfl t0 ⟨_, _, rfl⟩ (e_X3_lineFeed hc hd hr hH) (fun x1 m1 r1 hq => ?_)
  obtain ⟨hx1, hq⟩ := hq
  have hx1b : x1 = 0 ∨ x1 = 1 := by rw [hx1]; split <;> omega
  obtain ⟨sg, hc, hd, hr, fr1⟩ := hq
  have g1_0 : (p_fl P) 0 = P 0 := p_fl_hd hH (by decide) (by decide)
  have g1_1 : (p_fl P) 1 = P 1 := p_fl_hd hH (by decide) (by decide)
  have g1_2 : (p_fl P) 2 = P 2 := p_fl_hd hH (by decide) (by decide)
  have g1_3 : (p_fl P) 3 = P 3 := p_fl_hd hH (by decide) (by decide)
  have g1_5 : (p_fl P) 5 = P 5 := p_fl_hd hH (by decide) (by decide)
  have g1_6 : (p_fl P) 6 = P 6 := p_fl_hd hH (by decide) (by decide)
  have g1_7 : (p_fl P) 7 = P 7 := p_fl_hd hH (by decide) (by decide)
  have hH : p_hd (p_fl P) := p_hd_fl hH
  generalize hP1 : p_fl P = P1 at hd hr hH g1_0 g1_1 g1_2 g1_3 g1_5 g1_6 g1_7
  obtain ⟨t0, t1, t2, t3, t4, q0, q1, q2⟩ := id hc
  obtain ⟨d3, d4, d5, d6, d7, d8, u0, u1, u2, uk, uz⟩ := id hd
  obtain ⟨hw0, hw1, hh0, hh1, hf0, hf1, hf2, hr0, hr1, hc0, hc1, hp0, hp1, hk0, hk1, hi0, hi1, hkp, hP⟩ := id hH
  have hn : P1 14 + P1 1 ≤ 32 := by omega
  refine z_istore_n (ls' := [some (zo s), some (zi x1)]) e_X3_goOn_4 rfl rfl rfl ?_
  refine z_aload_n e_X3_goOn_5 rfl ?_
  refine z_getr (fi := 1) (r := some (s + 2)) e_X3_goOn_6 f_RX3_20 t0 rfl rfl (q1) ?_
  refine z_iconst e_X3_goOn_9 ?_
  refine z_putiN (fi := 1) (f := (m1 (s + 2))) e_X3_goOn_10 f_RX3_69 t2 rfl rfl (Or.inl rfl) (rfl) ?_
  obtain ⟨sg, hc, hd, hr, fr2⟩ := z_T_cur (F := z_v (m1 (s + 2)) 1 0) (Q := z_v P1 5 0) hc hd hr hH (fun k _ hk => z_vn (by omega)) ((z_vn (by decide)).trans (u0.trans (z_vn (by decide)).symm)) ((z_vs _ _ _).trans (z_vs _ _ _).symm) ((z_vn (by decide)).trans (u2.trans (z_vn (by decide)).symm))
  generalize hm2 : (z_u m1 (s + 2) (z_v (m1 (s + 2)) 1 0)) = m2 at hd hr fr2 ⊢
  have g2_0 : (z_v P1 5 0) 0 = P1 0 := z_vn (by decide)
  have g2_1 : (z_v P1 5 0) 1 = P1 1 := z_vn (by decide)
  have g2_2 : (z_v P1 5 0) 2 = P1 2 := z_vn (by decide)
  have g2_3 : (z_v P1 5 0) 3 = P1 3 := z_vn (by decide)
  have g2_4 : (z_v P1 5 0) 4 = P1 4 := z_vn (by decide)
  have g2_6 : (z_v P1 5 0) 6 = P1 6 := z_vn (by decide)
  have g2_7 : (z_v P1 5 0) 7 = P1 7 := z_vn (by decide)
  have g2_14 : (z_v P1 5 0) 14 = P1 14 := z_vn (by decide)
  have g2_5 : (z_v P1 5 0) 5 = 0 := z_vs _ _ _
  have hH : p_hd (z_v P1 5 0) := p_hd_set hH (by omega)
  generalize hP2 : z_v P1 5 0 = P2 at hd hr hH g2_0 g2_1 g2_2 g2_3 g2_4 g2_6 g2_7 g2_14 g2_5
  obtain ⟨t0, t1, t2, t3, t4, q0, q1, q2⟩ := id hc
  obtain ⟨d3, d4, d5, d6, d7, d8, u0, u1, u2, uk, uz⟩ := id hd
  obtain ⟨hw0, hw1, hh0, hh1, hf0, hf1, hf2, hr0, hr1, hc0, hc1, hp0, hp1, hk0, hk1, hi0, hi1, hkp, hP⟩ := id hH
  have hn : P2 14 + P2 1 ≤ 32 := by omega
  refine z_iload_n e_X3_goOn_13 rfl ?_
  refine z_if_eq e_X3_goOn_14 ⟨by omega, by omega⟩ (fun hz => ?_) (fun hz => ?_)
  · have hb : ¬ (P 4 = P 3 ∨ P 4 ≠ P 1 - 1) := fun q => by rw [if_pos q] at hx1; omega
    refine z_iload_n e_X3_goOn_34 rfl ?_
    refine z_iret e_X3_goOn_35 (Or.inr ⟨rfl, by omega⟩) rfl rfl ⟨rfl, _, rfl, ?_⟩
    refine ⟨hx1, ?_⟩
    have ep : p_go 0 P = P2 := by rw [p_go_n hb, hP1, hP2]
    rw [ep]
    exact z_T_t fr1 ⟨sg, hc, hd, hr, fr2⟩
  · have hb : P 4 = P 3 ∨ P 4 ≠ P 1 - 1 := Classical.byContradiction (fun q => by rw [if_neg q] at hx1; omega)
    have hfl := p_fl_4 hH0 hb
    rw [hP1] at hfl
    refine z_aload_n e_X3_goOn_17 rfl ?_
    refine z_aload_n e_X3_goOn_18 rfl ?_
    refine z_getr (fi := 1) (r := some (s + 2)) e_X3_goOn_19 f_RX3_20 t0 rfl rfl (q1) ?_
    refine z_geti (fi := 0) (x := (P2 4)) e_X3_goOn_22 f_RX3_66 t2 rfl rfl (u0) ?_
    refine z_iconst e_X3_goOn_25 ?_
    refine z_isub e_X3_goOn_26 ?_
    refine z_callVr (M' := M_X3_screenRow) (As := [zi ((P2 4) - 1)]) (rest := []) e_X3_goOn_27 l_RX3_76 rfl rfl rfl rfl t0 ⟨_, _, rfl⟩ (d_X3_screenRow hc hd hr hH (by omega) (by omega)) (fun xq mq rq hq => ?_)
    obtain ⟨e1q, e2q, e3q⟩ := hq
    subst xq mq rq
    refine z_iconst e_X3_goOn_30 ?_
    refine z_putiN (fi := 1) (f := (m2 (sg (P2 14 + ((P2 4) - 1))))) e_X3_goOn_31 f_RX3_105 (hr.1 (P2 14 + ((P2 4) - 1)) (by omega) (by omega)).2.1.1 rfl rfl (Or.inr ⟨rfl, Or.inr rfl⟩) (rfl) ?_
    refine z_iload_n e_X3_goOn_34 rfl ?_
    refine z_iret e_X3_goOn_35 (Or.inr ⟨rfl, by omega⟩) rfl rfl ⟨rfl, _, rfl, ?_⟩
    refine ⟨hx1, ?_⟩
    have hT := z_T_wrap (w := P2 4 - 1) hc hd hr hH (by omega) (by omega)
    have ep : p_go 0 P = z_v P2 (15 + 22 * (24 + (P2 4 - 1)) + 20) 1 := by
      rw [p_go_b hb, hP1, hP2, p_go1_0, show 24 + P2 4 - 1 = 24 + (P2 4 - 1) by omega]
    rw [ep]
    exact z_T_t fr1 (z_T_t fr2 hT)
set_option maxHeartbeats 1000000 in
set_option maxRecDepth 100000 in
theorem e_X3_write {E : z_E} {mi : z_Mi} {mr : z_Mr} {s : Nat} {sg : Int → Nat} {P : Int → Int} {code : Int} (hc : z_Sc E mr s) (hd : z_Sd mi s P) (hr : z_Sr E mi mr s sg (P 0) (P 14 + P 1) (p_rows P)) (hH : p_hd P) (h0 : 32 ≤ code) (h1 : code ≤ 126) : z_mv M_X3_write E [zo s, zi code] mi mr (fun m r => z_T E s mi mr (p_write code P) m r) := by
  obtain ⟨t0, t1, t2, t3, t4, q0, q1, q2⟩ := id hc
  obtain ⟨d3, d4, d5, d6, d7, d8, u0, u1, u2, uk, uz⟩ := id hd
  obtain ⟨hw0, hw1, hh0, hh1, hf0, hf1, hf2, hr0, hr1, hc0, hc1, hp0, hp1, hk0, hk1, hi0, hi1, hkp, hP⟩ := id hH
  have hn : P 14 + P 1 ≤ 32 := by omega
  have hH0 := hH
  have hcs : (c_sz code = 2 ∧ 65 ≤ code ∧ code ≤ 90) ∨ (c_sz code = 1 ∧ ¬ (65 ≤ code ∧ code ≤ 90)) := by unfold c_sz; split <;> omega
  have hcp : c_sz code = p_sz code := rfl
  refine z_ofv (ls := [some (zo s), some (zi code)]) rfl (fun _ _ => trivial) ⟨rfl, rfl⟩ (Nat.le_of_ble_eq_true rfl) rfl ?_
  have join23_0 : ∀ (ma : z_Mi) (ra : z_Mr), z_T E s mi mr (p_w1 P) ma ra → z_A M_X3_write E 0 0 23 [some (zo s), some (zi code)] [] ma ra (z_qv E (fun m r => z_T E s mi mr (p_write code P) m r)) := by
    intro ma ra hj
    obtain ⟨sg, hc, hd, hr, fra⟩ := hj
    have ga_6 : (p_w1 P) 6 = 0 := p_w1_6 hH
    have hH : p_hd (p_w1 P) := p_hd_w1 hH
    generalize hPa : p_w1 P = Pa at hd hr hH ga_6
    obtain ⟨t0, t1, t2, t3, t4, q0, q1, q2⟩ := id hc
    obtain ⟨d3, d4, d5, d6, d7, d8, u0, u1, u2, uk, uz⟩ := id hd
    obtain ⟨hw0, hw1, hh0, hh1, hf0, hf1, hf2, hr0, hr1, hc0, hc1, hp0, hp1, hk0, hk1, hi0, hi1, hkp, hP⟩ := id hH
    have hn : Pa 14 + Pa 1 ≤ 32 := by omega
    have hHa := hH
    have join98_1 : ∀ (mb : z_Mi) (rb : z_Mr), z_T E s mi mr (p_w2 code Pa) mb rb → z_A M_X3_write E 0 0 98 [some (zo s), some (zi code)] [] mb rb (z_qv E (fun m r => z_T E s mi mr (p_write code P) m r)) := by
      intro mb rb hj
      obtain ⟨sg, hc, hd, hr, frb⟩ := hj
      have gb_6 : (p_w2 code Pa) 6 = 0 := (p_w2_6 hHa).trans ga_6
      have hroom : (p_w2 code Pa) 5 + p_sz code ≤ (p_w2 code Pa) 0 := p_w2_room hHa
      have hH : p_hd (p_w2 code Pa) := p_hd_w2 hH
      generalize hPb : p_w2 code Pa = Pb at hd hr hH gb_6 hroom
      obtain ⟨t0, t1, t2, t3, t4, q0, q1, q2⟩ := id hc
      obtain ⟨d3, d4, d5, d6, d7, d8, u0, u1, u2, uk, uz⟩ := id hd
      obtain ⟨hw0, hw1, hh0, hh1, hf0, hf1, hf2, hr0, hr1, hc0, hc1, hp0, hp1, hk0, hk1, hi0, hi1, hkp, hP⟩ := id hH
      have hn : Pb 14 + Pb 1 ≤ 32 := by omega
      have hHb := hH
      refine z_aload_n e_X3_write_98 rfl ?_
      refine z_aload_n e_X3_write_99 rfl ?_
      refine z_getr (fi := 1) (r := some (s + 2)) e_X3_write_100 f_RX3_20 t0 rfl rfl (q1) ?_
      refine z_geti (fi := 0) (x := (Pb 4)) e_X3_write_103 f_RX3_66 t2 rfl rfl (u0) ?_
      refine z_callVr (M' := M_X3_screenRow) (As := [zi (Pb 4)]) (rest := []) e_X3_write_106 l_RX3_76 rfl rfl rfl rfl t0 ⟨_, _, rfl⟩ (d_X3_screenRow hc hd hr hH (by omega) (by omega)) (fun xq mq rq hq => ?_)
      obtain ⟨e1q, e2q, e3q⟩ := hq
      subst xq mq rq
      refine z_aload_n e_X3_write_109 rfl ?_
      refine z_getr (fi := 1) (r := some (s + 2)) e_X3_write_110 f_RX3_20 t0 rfl rfl (q1) ?_
      refine z_geti (fi := 1) (x := (Pb 5)) e_X3_write_113 f_RX3_69 t2 rfl rfl (u1) ?_
      refine z_iload_n e_X3_write_116 rfl ?_
      refine z_aload_n e_X3_write_117 rfl ?_
      refine z_geti (fi := 5) (x := (Pb 0)) e_X3_write_118 f_RX3_35 t0 rfl rfl (d5) ?_
      refine z_callVv (M' := M_X2_overwrite) (As := [zi (Pb 5), zi code, zi (Pb 0)]) (rest := []) e_X3_write_121 l_RX3_95 rfl rfl rfl rfl (hr.1 (Pb 14 + (Pb 4)) (by omega) (by omega)).2.1.1 ⟨_, _, rfl⟩ (e_X2_overwrite hc hd hr hH (by omega) (by omega) (by omega) (by omega) (by omega) (by omega)) (fun m1 r1 hq => ?_)
      rw [← p_w4_ovw hH] at hq
      obtain ⟨sg, hc, hd, hr, fr1⟩ := hq
      have g1_0 : (p_w4 code Pb (p_w3 code Pb)) 0 = Pb 0 := (p_w4_hd (by omega) (by decide)).trans (p_w3_hd hH (by decide))
      have g1_1 : (p_w4 code Pb (p_w3 code Pb)) 1 = Pb 1 := (p_w4_hd (by omega) (by decide)).trans (p_w3_hd hH (by decide))
      have g1_2 : (p_w4 code Pb (p_w3 code Pb)) 2 = Pb 2 := (p_w4_hd (by omega) (by decide)).trans (p_w3_hd hH (by decide))
      have g1_3 : (p_w4 code Pb (p_w3 code Pb)) 3 = Pb 3 := (p_w4_hd (by omega) (by decide)).trans (p_w3_hd hH (by decide))
      have g1_4 : (p_w4 code Pb (p_w3 code Pb)) 4 = Pb 4 := (p_w4_hd (by omega) (by decide)).trans (p_w3_hd hH (by decide))
      have g1_5 : (p_w4 code Pb (p_w3 code Pb)) 5 = Pb 5 := (p_w4_hd (by omega) (by decide)).trans (p_w3_hd hH (by decide))
      have g1_6 : (p_w4 code Pb (p_w3 code Pb)) 6 = Pb 6 := (p_w4_hd (by omega) (by decide)).trans (p_w3_hd hH (by decide))
      have g1_7 : (p_w4 code Pb (p_w3 code Pb)) 7 = Pb 7 := (p_w4_hd (by omega) (by decide)).trans (p_w3_hd hH (by decide))
      have g1_14 : (p_w4 code Pb (p_w3 code Pb)) 14 = Pb 14 := (p_w4_hd (by omega) (by decide)).trans (p_w3_hd hH (by decide))
      have hH : p_hd (p_w4 code Pb (p_w3 code Pb)) := p_hd_w4 (p_hd_w3 hH (by omega) (by omega)) (by omega) (by omega) (by omega)
      generalize hP1 : p_w4 code Pb (p_w3 code Pb) = P1 at hd hr hH g1_0 g1_1 g1_2 g1_3 g1_4 g1_5 g1_6 g1_7 g1_14
      obtain ⟨t0, t1, t2, t3, t4, q0, q1, q2⟩ := id hc
      obtain ⟨d3, d4, d5, d6, d7, d8, u0, u1, u2, uk, uz⟩ := id hd
      obtain ⟨hw0, hw1, hh0, hh1, hf0, hf1, hf2, hr0, hr1, hc0, hc1, hp0, hp1, hk0, hk1, hi0, hi1, hkp, hP⟩ := id hH
      have hn : P1 14 + P1 1 ≤ 32 := by omega
      refine z_aload_n e_X3_write_124 rfl ?_
      refine z_getr (fi := 1) (r := some (s + 2)) e_X3_write_125 f_RX3_20 t0 rfl rfl (q1) ?_
      refine z_dup e_X3_write_128 rfl ?_
      refine z_geti (fi := 1) (x := (P1 5)) e_X3_write_129 f_RX3_69 t2 rfl rfl (u1) ?_
      refine z_iload_n e_X3_write_132 rfl ?_
      refine z_callSi (M' := M_X4_sizeOf) (As := [zi code]) (rest := [zi (P1 5), zo (s + 2)]) e_X3_write_133 l_RX3_91 rfl rfl rfl rfl (c_X4_sizeOf ⟨by omega, by omega⟩) (fun xq mq rq hq => ?_)
      obtain ⟨e1q, e2q, e3q⟩ := hq
      subst xq mq rq
      have hszb := c_sz_b code
      refine z_iadd e_X3_write_136 ?_
      refine z_putiN (fi := 1) (f := (m1 (s + 2))) e_X3_write_137 f_RX3_69 t2 rfl rfl (Or.inl rfl) (rfl) ?_
      refine z_aload_n e_X3_write_140 rfl ?_
      refine z_getr (fi := 1) (r := some (s + 2)) e_X3_write_141 f_RX3_20 t0 rfl rfl (q1) ?_
      refine z_geti (fi := 1) (x := ((P1 5) + (c_sz code))) e_X3_write_144 f_RX3_69 t2 rfl rfl ((congrFun (z_us _ _ _) _).trans (z_vs _ _ _)) ?_
      refine z_aload_n e_X3_write_147 rfl ?_
      refine z_geti (fi := 5) (x := (P1 0)) e_X3_write_148 f_RX3_35 t0 rfl rfl ((congrFun ((z_un (by omega))) _).trans d5) ?_
      refine z_icmp_lt e_X3_write_151 ⟨by omega, by omega⟩ ⟨by omega, by omega⟩ (fun h151_3 => ?_) (fun h151_3 => ?_)
      · refine z_ret e_X3_write_175 rfl rfl rfl ⟨rfl, rfl, ?_⟩
        have ep : p_write code P = z_v (z_v P1 5 (if Pb 5 + p_sz code < Pb 0 then Pb 5 + p_sz code else Pb 0 - 1)) 6 (if Pb 5 + p_sz code = Pb 0 then 1 else 0) := by unfold p_write p_w6 p_w5; rw [hPa, hPb, hP1]
        rw [ep]
        rw [if_pos (by omega), if_neg (by omega)]
        exact z_T_t frb (z_T_t fr1 (z_T_cur (F := (z_v (m1 (s + 2)) 1 ((P1 5) + (c_sz code)))) hc hd hr hH (fun k _ hk => (z_vn (by omega)).trans (z_vn (by omega))) (by rw [z_vn (by decide), z_vn (by decide), z_vn (by decide)]; exact u0) (by rw [z_vs, z_vn (by decide), z_vs]; omega) (by rw [z_vn (by decide), z_vs]; omega)))
      · refine z_aload_n e_X3_write_154 rfl ?_
        refine z_getr (fi := 1) (r := some (s + 2)) e_X3_write_155 f_RX3_20 t0 rfl rfl (q1) ?_
        refine z_aload_n e_X3_write_158 rfl ?_
        refine z_geti (fi := 5) (x := (P1 0)) e_X3_write_159 f_RX3_35 t0 rfl rfl ((congrFun ((z_un (by omega))) _).trans d5) ?_
        refine z_iconst e_X3_write_162 ?_
        refine z_isub e_X3_write_163 ?_
        refine z_putiU (fi := 1) e_X3_write_164 f_RX3_69 t2 rfl rfl (Or.inl rfl) ?_
        refine z_aload_n e_X3_write_167 rfl ?_
        refine z_getr (fi := 1) (r := some (s + 2)) e_X3_write_168 f_RX3_20 t0 rfl rfl (q1) ?_
        refine z_iconst e_X3_write_171 ?_
        refine z_putiU (fi := 2) e_X3_write_172 f_RX3_83 t2 rfl rfl (Or.inr ⟨rfl, Or.inr rfl⟩) ?_
        refine z_ret e_X3_write_175 rfl rfl rfl ⟨rfl, rfl, ?_⟩
        have ep : p_write code P = z_v (z_v P1 5 (if Pb 5 + p_sz code < Pb 0 then Pb 5 + p_sz code else Pb 0 - 1)) 6 (if Pb 5 + p_sz code = Pb 0 then 1 else 0) := by unfold p_write p_w6 p_w5; rw [hPa, hPb, hP1]
        rw [ep]
        rw [if_neg (by omega), if_pos (by omega)]
        exact z_T_t frb (z_T_t fr1 (z_T_cur (F := (z_v (z_v (z_v (m1 (s + 2)) 1 ((P1 5) + (c_sz code))) 1 ((P1 0) - 1)) 2 1)) hc hd hr hH (fun k _ hk => (z_vn (by omega)).trans (z_vn (by omega))) (by rw [z_vn (by decide), z_vn (by decide), z_vn (by decide), z_vn (by decide), z_vn (by decide)]; exact u0) (by rw [z_vn (by decide), z_vs, z_vn (by decide), z_vs]; omega) (by rw [z_vs, z_vs])))
    refine z_iload_n e_X3_write_23 rfl ?_
    refine z_callSi (M' := M_X4_sizeOf) (As := [zi code]) (rest := []) e_X3_write_24 l_RX3_91 rfl rfl rfl rfl (c_X4_sizeOf ⟨by omega, by omega⟩) (fun xq mq rq hq => ?_)
    obtain ⟨e1q, e2q, e3q⟩ := hq
    subst xq mq rq
    have hszb := c_sz_b code
    refine z_iconst e_X3_write_27 ?_
    refine z_icmp_ne e_X3_write_28 ⟨by omega, by omega⟩ (by decide) (fun h28_4 => ?_) (fun h28_4 => ?_)
    · exact join98_1 ma ra (by have e : p_w2 code Pa = Pa := if_neg (by omega); rw [e]; exact ⟨sg, hc, hd, hr, fra⟩)
    · refine z_aload_n e_X3_write_31 rfl ?_
      refine z_getr (fi := 1) (r := some (s + 2)) e_X3_write_32 f_RX3_20 t0 rfl rfl (q1) ?_
      refine z_geti (fi := 1) (x := (Pa 5)) e_X3_write_35 f_RX3_69 t2 rfl rfl (u1) ?_
      refine z_aload_n e_X3_write_38 rfl ?_
      refine z_geti (fi := 5) (x := (Pa 0)) e_X3_write_39 f_RX3_35 t0 rfl rfl (d5) ?_
      refine z_iconst e_X3_write_42 ?_
      refine z_isub e_X3_write_43 ?_
      refine z_icmp_ne e_X3_write_44 ⟨by omega, by omega⟩ ⟨by omega, by omega⟩ (fun h44_5 => ?_) (fun h44_5 => ?_)
      · exact join98_1 ma ra (by have e : p_w2 code Pa = Pa := if_neg (by omega); rw [e]; exact ⟨sg, hc, hd, hr, fra⟩)
      · refine z_aload_n e_X3_write_47 rfl ?_
        refine z_aload_n e_X3_write_48 rfl ?_
        refine z_getr (fi := 1) (r := some (s + 2)) e_X3_write_49 f_RX3_20 t0 rfl rfl (q1) ?_
        refine z_geti (fi := 0) (x := (Pa 4)) e_X3_write_52 f_RX3_66 t2 rfl rfl (u0) ?_
        refine z_callVr (M' := M_X3_screenRow) (As := [zi (Pa 4)]) (rest := []) e_X3_write_55 l_RX3_76 rfl rfl rfl rfl t0 ⟨_, _, rfl⟩ (d_X3_screenRow hc hd hr hH (by omega) (by omega)) (fun xq mq rq hq => ?_)
        obtain ⟨e1q, e2q, e3q⟩ := hq
        subst xq mq rq
        refine z_aload_n e_X3_write_58 rfl ?_
        refine z_getr (fi := 1) (r := some (s + 2)) e_X3_write_59 f_RX3_20 t0 rfl rfl (q1) ?_
        refine z_geti (fi := 1) (x := (Pa 5)) e_X3_write_62 f_RX3_69 t2 rfl rfl (u1) ?_
        refine z_bipush e_X3_write_65 (by decide +kernel) ?_
        refine z_aload_n e_X3_write_67 rfl ?_
        refine z_geti (fi := 5) (x := (Pa 0)) e_X3_write_68 f_RX3_35 t0 rfl rfl (d5) ?_
        refine z_callVv (M' := M_X2_overwrite) (As := [zi (Pa 5), zi 32, zi (Pa 0)]) (rest := []) e_X3_write_71 l_RX3_95 rfl rfl rfl rfl (hr.1 (Pa 14 + (Pa 4)) (by omega) (by omega)).2.1.1 ⟨_, _, rfl⟩ (e_X2_overwrite hc hd hr hH (by omega) (by omega) (by omega) (by rw [p_sz_32]; omega) (by decide) (by decide)) (fun m2 r2 hq => ?_)
        rw [p_ovw_32 _ _ _ (by omega) (by omega) (by omega)] at hq
        obtain ⟨sg, hc, hd, hr, fr2⟩ := hq
        have g2_0 : (p_erases Pa (Pa 4) (Pa 5) (Pa 5)) 0 = Pa 0 := p_erases_hd (by decide) (by omega)
        have g2_1 : (p_erases Pa (Pa 4) (Pa 5) (Pa 5)) 1 = Pa 1 := p_erases_hd (by decide) (by omega)
        have g2_2 : (p_erases Pa (Pa 4) (Pa 5) (Pa 5)) 2 = Pa 2 := p_erases_hd (by decide) (by omega)
        have g2_3 : (p_erases Pa (Pa 4) (Pa 5) (Pa 5)) 3 = Pa 3 := p_erases_hd (by decide) (by omega)
        have g2_4 : (p_erases Pa (Pa 4) (Pa 5) (Pa 5)) 4 = Pa 4 := p_erases_hd (by decide) (by omega)
        have g2_5 : (p_erases Pa (Pa 4) (Pa 5) (Pa 5)) 5 = Pa 5 := p_erases_hd (by decide) (by omega)
        have g2_6 : (p_erases Pa (Pa 4) (Pa 5) (Pa 5)) 6 = Pa 6 := p_erases_hd (by decide) (by omega)
        have g2_7 : (p_erases Pa (Pa 4) (Pa 5) (Pa 5)) 7 = Pa 7 := p_erases_hd (by decide) (by omega)
        have g2_14 : (p_erases Pa (Pa 4) (Pa 5) (Pa 5)) 14 = Pa 14 := p_erases_hd (by decide) (by omega)
        have hH : p_hd (p_erases Pa (Pa 4) (Pa 5) (Pa 5)) := p_hd_erases hH (by omega)
        generalize hP2 : p_erases Pa (Pa 4) (Pa 5) (Pa 5) = P2 at hd hr hH g2_0 g2_1 g2_2 g2_3 g2_4 g2_5 g2_6 g2_7 g2_14
        obtain ⟨t0, t1, t2, t3, t4, q0, q1, q2⟩ := id hc
        obtain ⟨d3, d4, d5, d6, d7, d8, u0, u1, u2, uk, uz⟩ := id hd
        obtain ⟨hw0, hw1, hh0, hh1, hf0, hf1, hf2, hr0, hr1, hc0, hc1, hp0, hp1, hk0, hk1, hi0, hi1, hkp, hP⟩ := id hH
        have hn : P2 14 + P2 1 ≤ 32 := by omega
        have hHe := hH
        refine z_aload_n e_X3_write_74 rfl ?_
        refine z_callVi (M' := M_X3_goOn) (As := []) (rest := []) e_X3_write_75 l_RX3_87 rfl rfl rfl rfl t0 ⟨_, _, rfl⟩ (e_X3_goOn hc hd hr hH) (fun x3 m3 r3 hq => ?_)
        obtain ⟨hx3, hq⟩ := hq
        have hx3b : x3 = 0 ∨ x3 = 1 := by rw [hx3]; split <;> omega
        obtain ⟨sg, hc, hd, hr, fr3⟩ := hq
        have g3_0 : (p_go 0 P2) 0 = P2 0 := p_go_hd hH (by decide) (by decide) (by decide)
        have g3_1 : (p_go 0 P2) 1 = P2 1 := p_go_hd hH (by decide) (by decide) (by decide)
        have g3_2 : (p_go 0 P2) 2 = P2 2 := p_go_hd hH (by decide) (by decide) (by decide)
        have g3_3 : (p_go 0 P2) 3 = P2 3 := p_go_hd hH (by decide) (by decide) (by decide)
        have g3_6 : (p_go 0 P2) 6 = P2 6 := p_go_hd hH (by decide) (by decide) (by decide)
        have g3_7 : (p_go 0 P2) 7 = P2 7 := p_go_hd hH (by decide) (by decide) (by decide)
        have hH : p_hd (p_go 0 P2) := p_hd_go hH
        generalize hP3 : p_go 0 P2 = P3 at hd hr hH g3_0 g3_1 g3_2 g3_3 g3_6 g3_7
        obtain ⟨t0, t1, t2, t3, t4, q0, q1, q2⟩ := id hc
        obtain ⟨d3, d4, d5, d6, d7, d8, u0, u1, u2, uk, uz⟩ := id hd
        obtain ⟨hw0, hw1, hh0, hh1, hf0, hf1, hf2, hr0, hr1, hc0, hc1, hp0, hp1, hk0, hk1, hi0, hi1, hkp, hP⟩ := id hH
        have hn : P3 14 + P3 1 ≤ 32 := by omega
        refine z_if_eq e_X3_write_78 ⟨by omega, by omega⟩ (fun hz => ?_) (fun hz => ?_)
        · have hb : ¬ (P2 4 = P2 3 ∨ P2 4 ≠ P2 1 - 1) := fun q => by rw [if_pos q] at hx3; omega
          exact join98_1 m3 r3 (by have e : p_w2 code Pa = P3 := (by unfold p_w2; rw [if_pos (by omega), hP2, p_go_n hb, ← p_go_n (g := 0) hb, hP3]); rw [e]; exact z_T_t fra (z_T_t fr2 ⟨sg, hc, hd, hr, fr3⟩))
        · have hb : P2 4 = P2 3 ∨ P2 4 ≠ P2 1 - 1 := Classical.byContradiction (fun q => by rw [if_neg q] at hx3; omega)
          have hg4 := (p_go_4 (g := 0) hHe hb).1
          rw [hP3] at hg4
          refine z_aload_n e_X3_write_81 rfl ?_
          refine z_aload_n e_X3_write_82 rfl ?_
          refine z_getr (fi := 1) (r := some (s + 2)) e_X3_write_83 f_RX3_20 t0 rfl rfl (q1) ?_
          refine z_geti (fi := 0) (x := (P3 4)) e_X3_write_86 f_RX3_66 t2 rfl rfl (u0) ?_
          refine z_iconst e_X3_write_89 ?_
          refine z_isub e_X3_write_90 ?_
          refine z_callVr (M' := M_X3_screenRow) (As := [zi ((P3 4) - 1)]) (rest := []) e_X3_write_91 l_RX3_76 rfl rfl rfl rfl t0 ⟨_, _, rfl⟩ (d_X3_screenRow hc hd hr hH (by omega) (by omega)) (fun xq mq rq hq => ?_)
          obtain ⟨e1q, e2q, e3q⟩ := hq
          subst xq mq rq
          refine z_iconst e_X3_write_94 ?_
          refine z_putiN (fi := 2) (f := (m3 (sg (P3 14 + ((P3 4) - 1))))) e_X3_write_95 f_RX3_99 (hr.1 (P3 14 + ((P3 4) - 1)) (by omega) (by omega)).2.1.1 rfl rfl (Or.inr ⟨rfl, Or.inr rfl⟩) (rfl) ?_
          exact join98_1 (z_u m3 (sg (P3 14 + ((P3 4) - 1))) (z_v (m3 (sg (P3 14 + ((P3 4) - 1)))) 2 1)) r3 (by have e : p_w2 code Pa = z_v P3 (15 + 22 * (24 + (P3 4 - 1)) + 21) 1 := (by unfold p_w2; rw [if_pos (by omega), hP2, p_go_gap hHe hb, hP3]); rw [e]; exact z_T_t fra (z_T_t fr2 (z_T_t fr3 (z_T_gap (w := P3 4 - 1) hc hd hr hH (by omega) (by omega)))))
  refine z_aload_n e_X3_write_0 rfl ?_
  refine z_getr (fi := 1) (r := some (s + 2)) e_X3_write_1 f_RX3_20 t0 rfl rfl (q1) ?_
  refine z_geti (fi := 2) (x := (P 6)) e_X3_write_4 f_RX3_83 t2 rfl rfl (u2) ?_
  refine z_if_eq e_X3_write_7 ⟨by omega, by omega⟩ (fun h7_7 => ?_) (fun h7_7 => ?_)
  · exact join23_0 mi mr (by have e : p_w1 P = P := if_neg (by omega); rw [e]; exact z_T_id hc hd hr)
  · refine z_aload_n e_X3_write_10 rfl ?_
    refine z_callVi (M' := M_X3_goOn) (As := []) (rest := []) e_X3_write_11 l_RX3_87 rfl rfl rfl rfl t0 ⟨_, _, rfl⟩ (e_X3_goOn hc hd hr hH) (fun x4 m4 r4 hq => ?_)
    obtain ⟨hx4, hq⟩ := hq
    have hx4b : x4 = 0 ∨ x4 = 1 := by rw [hx4]; split <;> omega
    obtain ⟨sg, hc, hd, hr, fr4⟩ := hq
    have g4_0 : (p_go 0 P) 0 = P 0 := p_go_hd hH (by decide) (by decide) (by decide)
    have g4_1 : (p_go 0 P) 1 = P 1 := p_go_hd hH (by decide) (by decide) (by decide)
    have g4_2 : (p_go 0 P) 2 = P 2 := p_go_hd hH (by decide) (by decide) (by decide)
    have g4_3 : (p_go 0 P) 3 = P 3 := p_go_hd hH (by decide) (by decide) (by decide)
    have g4_6 : (p_go 0 P) 6 = P 6 := p_go_hd hH (by decide) (by decide) (by decide)
    have g4_7 : (p_go 0 P) 7 = P 7 := p_go_hd hH (by decide) (by decide) (by decide)
    have hH : p_hd (p_go 0 P) := p_hd_go hH
    generalize hP4 : p_go 0 P = P4 at hd hr hH g4_0 g4_1 g4_2 g4_3 g4_6 g4_7
    obtain ⟨t0, t1, t2, t3, t4, q0, q1, q2⟩ := id hc
    obtain ⟨d3, d4, d5, d6, d7, d8, u0, u1, u2, uk, uz⟩ := id hd
    obtain ⟨hw0, hw1, hh0, hh1, hf0, hf1, hf2, hr0, hr1, hc0, hc1, hp0, hp1, hk0, hk1, hi0, hi1, hkp, hP⟩ := id hH
    have hn : P4 14 + P4 1 ≤ 32 := by omega
    refine z_pop e_X3_write_14 rfl ?_
    refine z_aload_n e_X3_write_15 rfl ?_
    refine z_getr (fi := 1) (r := some (s + 2)) e_X3_write_16 f_RX3_20 t0 rfl rfl (q1) ?_
    refine z_iconst e_X3_write_19 ?_
    refine z_putiN (fi := 2) (f := (m4 (s + 2))) e_X3_write_20 f_RX3_83 t2 rfl rfl (Or.inr ⟨rfl, Or.inl rfl⟩) (rfl) ?_
    exact join23_0 (z_u m4 (s + 2) (z_v (m4 (s + 2)) 2 0)) r4 (z_T_t fr4 (z_T_ag (z_T_cur (F := z_v (m4 (s + 2)) 2 0) (Q := z_v P4 6 0) hc hd hr hH (fun k _ hk => z_vn (by omega)) ((z_vn (by decide)).trans (u0.trans (z_vn (by decide)).symm)) ((z_vn (by decide)).trans (u1.trans (z_vn (by decide)).symm)) ((z_vs _ _ _).trans (z_vs _ _ _).symm)) (p_hd_6 hH) (fun k k0 => by rw [p_w1_ag hH0 (by omega) k k0, hP4])))
