set_option maxHeartbeats 1000000 in
set_option maxRecDepth 100000 in
theorem d_X3_takeRow {E : z_E} {mi : z_Mi} {mr : z_Mr} {s : Nat} {sg : Int → Nat} {P : Int → Int} {W n : Int} {R : Int → Int → Int} {i : Int} (hc : z_Sc E mr s) (hd : z_Sd mi s P) (hr : z_Sr E mi mr s sg W n R) (hW0 : 0 ≤ W) (hW : W ≤ 20) (hn : n ≤ 32) (h0 : 0 ≤ P 14 + i) (h1 : i ≤ P 3) (h2 : P 14 + P 3 < n) : z_mv M_X3_takeRow E [zo s, zi i] mi mr (fun m r => ∃ sg' : Int → Nat, z_Sc E r s ∧ z_Sd m s P ∧ z_Sr E m r s sg' W n ((fun k => if k = P 14 + P 3 then r_blank else (fun k => if k = P 14 + P 3 then r_unw ((fun k => if k = P 14 + i - 1 then r_unw (R k) else R k) k) else (fun k => if k = P 14 + i - 1 then r_unw (R k) else R k) k) (cy_i (P 14 + i) (P 14 + P 3) k))) ∧ z_Fr s mi mr m r) := by
  obtain ⟨t0, t1, t2, t3, t4, q0, q1, q2⟩ := id hc
  obtain ⟨d3, d4, d5, d6, d7, d8, u0, u1, u2, uk, uz⟩ := id hd
  refine z_ofv (ls := [some (zo s), some (zi i)]) rfl (fun _ _ => trivial) ⟨rfl, rfl⟩ (Nat.le_of_ble_eq_true rfl) rfl ?_
  refine z_aload_n e_X3_takeRow_0 rfl ?_
  refine z_aload_n e_X3_takeRow_1 rfl ?_
  refine z_geti (fi := 4) (x := (P 14)) e_X3_takeRow_2 f_RX3_32 t0 rfl rfl (d4) ?_
  refine z_iload_n e_X3_takeRow_5 rfl ?_
  refine z_iadd e_X3_takeRow_6 ?_
  refine z_callVv (M' := M_X3_unmarkAbove) (As := [zi ((P 14) + i)]) (rest := []) e_X3_takeRow_7 l_RX3_127 rfl rfl rfl rfl t0 ⟨_, _, rfl⟩ (d_X3_unmarkAbove hc hd hr hW0 hW hn (by omega) (by omega)) (fun m1 r1 hq => ?_)
  obtain ⟨sg, hc, hd, hr, hf1⟩ := hq
  obtain ⟨t0, t1, t2, t3, t4, q0, q1, q2⟩ := id hc
  obtain ⟨d3, d4, d5, d6, d7, d8, u0, u1, u2, uk, uz⟩ := id hd
  refine z_aload_n e_X3_takeRow_10 rfl ?_
  refine z_aload_n e_X3_takeRow_11 rfl ?_
  refine z_geti (fi := 4) (x := (P 14)) e_X3_takeRow_12 f_RX3_32 t0 rfl rfl (d4) ?_
  refine z_aload_n e_X3_takeRow_15 rfl ?_
  refine z_geti (fi := 8) (x := (P 3)) e_X3_takeRow_16 f_RX3_44 t0 rfl rfl (d8) ?_
  refine z_iadd e_X3_takeRow_19 ?_
  refine z_callVr (M' := M_X3_rowAt) (As := [zi ((P 14) + (P 3))]) (rest := []) e_X3_takeRow_20 l_RX3_56 rfl rfl rfl rfl t0 ⟨_, _, rfl⟩ (d_X3_rowAt hc hd hr hW0 hW hn (by omega) (by omega)) (fun xq mq rq hq => ?_)
  obtain ⟨e1q, e2q, e3q⟩ := hq
  subst xq mq rq
  refine z_callVv (M' := M_X2_unmark) (As := []) (rest := []) e_X3_takeRow_23 l_RX3_115 rfl rfl rfl rfl (hr.1 ((P 14) + (P 3)) (by omega) (by omega)).2.1.1 ⟨_, _, rfl⟩ (e_X2_unmark hc hd hr hW hn (k := ((P 14) + (P 3))) (by omega) (by omega)) (fun m2 r2 hq => ?_)
  obtain ⟨sg, hc, hd, hr, hf2⟩ := hq
  obtain ⟨t0, t1, t2, t3, t4, q0, q1, q2⟩ := id hc
  obtain ⟨d3, d4, d5, d6, d7, d8, u0, u1, u2, uk, uz⟩ := id hd
  refine z_aload_n e_X3_takeRow_26 rfl ?_
  refine z_aload_n e_X3_takeRow_27 rfl ?_
  refine z_geti (fi := 4) (x := (P 14)) e_X3_takeRow_28 f_RX3_32 t0 rfl rfl (d4) ?_
  refine z_iload_n e_X3_takeRow_31 rfl ?_
  refine z_iadd e_X3_takeRow_32 ?_
  refine z_aload_n e_X3_takeRow_33 rfl ?_
  refine z_geti (fi := 4) (x := (P 14)) e_X3_takeRow_34 f_RX3_32 t0 rfl rfl (d4) ?_
  refine z_aload_n e_X3_takeRow_37 rfl ?_
  refine z_geti (fi := 8) (x := (P 3)) e_X3_takeRow_38 f_RX3_44 t0 rfl rfl (d8) ?_
  refine z_iadd e_X3_takeRow_41 ?_
  refine z_callVv (M' := M_X3_carryBlank) (As := [zi ((P 14) + i), zi ((P 14) + (P 3))]) (rest := []) e_X3_takeRow_42 l_RX3_118 rfl rfl rfl rfl t0 ⟨_, _, rfl⟩ (d_X3_carryBlank hc hd hr hW0 hW (by omega) (by omega) (by omega) (by omega) hn (fun k k0 k1 kb => by unfold cy_i; split <;> (try split) <;> (try split) <;> omega)) (fun m3 r3 hq => ?_)
  obtain ⟨sg, hc, hd, hr, hf3⟩ := hq
  obtain ⟨t0, t1, t2, t3, t4, q0, q1, q2⟩ := id hc
  obtain ⟨d3, d4, d5, d6, d7, d8, u0, u1, u2, uk, uz⟩ := id hd
  refine z_ret e_X3_takeRow_45 rfl rfl rfl ⟨rfl, rfl, ?_⟩
  exact ⟨sg, hc, hd, hr, z_Fr_t (z_Fr_t hf1 hf2) hf3⟩
