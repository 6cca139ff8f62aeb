theorem p_blk_00 {P : Int → Int} : p_blk P 0 0 = P := by
  funext k; unfold p_blk; rw [if_neg (by omega)]
set_option maxHeartbeats 1000000 in
set_option maxRecDepth 100000 in
theorem c_X5_init {E : z_E} {mi : z_Mi} {mr : z_Mr} {o : Nat} (ha : E.2.2[o]? = some (5, 0)) (hl : E.2.2.length = o + 1) (h0 : mi o = fun _ => 0) : z_mk M_X5_init E [zo o] mi mr 7 (fun E' m r => z_MO E' r o ∧ m o = (fun _ => 0) ∧ m (o + 1) = p_new ∧ m (o + 3) = (fun _ => 0) ∧ m (o + 4) = (fun _ => 0) ∧ m (o + 5) = (fun _ => 0) ∧ ∀ c, c < o → m c = mi c ∧ r c = mr c) := by
  refine z_ofk (ls := [some (zo o), none]) rfl (fun _ _ => trivial) (Nat.le_of_ble_eq_true rfl) rfl ?_
  generalize hQ : (z_qk E 7 (fun E' m r => z_MO E' r o ∧ m o = (fun _ => 0) ∧ m (o + 1) = p_new ∧ m (o + 3) = (fun _ => 0) ∧ m (o + 4) = (fun _ => 0) ∧ m (o + 5) = (fun _ => 0) ∧ ∀ c, c < o → m c = mi c ∧ r c = mr c)) = Q
  refine z_aload_n e_X5_init_0 rfl ?_
  refine z_obj e_X5_init_1 mm_RX5_1 rfl rfl ?_
  refine z_aload_n e_X5_init_4 rfl ?_
  refine z_sipush e_X5_init_5 (by decide +kernel) ?_
  refine z_newi (len := 6471) e_X5_init_8 (z_tab 75 (by decide +kernel) rfl) (Nat.le_of_ble_eq_true rfl) rfl ⟨by omega, trivial⟩ ⟨by omega, trivial⟩ (fun q1 => ?_)
  have V1 := z_up_1 (z_up_r E) q1 (10, 6471)
  have U1 := z_up_1 (z_up_r E) q1 (10, 6471)
  have T0 := z_up_get V1 ha
  have T1 : (z_E1 E q1 (10, 6471)).2.2[o + 1]? = some (10, 6471) := z_E1_at hl
  have l1 : (z_E1 E q1 (10, 6471)).2.2.length = o + 2 := by rw [z_E1_len, hl]
  rw [hl]
  generalize z_E1 E q1 (10, 6471) = E1 at V1 U1 T0 T1 l1 ⊢
  refine z_putr (fi := 0) e_X5_init_10 f_RX5_7 T0 rfl (Or.inr ⟨rfl, rfl, rfl, z_tab 608 (by decide +kernel) rfl⟩) rfl (fun b hb => by cases hb; omega) ?_
  refine z_aload_n e_X5_init_13 rfl ?_
  refine z_sipush e_X5_init_14 (by decide +kernel) ?_
  refine z_newi (len := 704) e_X5_init_17 (z_tab 75 (by decide +kernel) rfl) (Nat.le_of_ble_eq_true rfl) rfl ⟨by omega, trivial⟩ ⟨by omega, trivial⟩ (fun q2 => ?_)
  have V2 := z_up_1 (z_up_r E1) q2 (10, 704)
  have U2 := z_up_1 U1 q2 (10, 704)
  have T0 := z_up_get V2 T0
  have T1 := z_up_get V2 T1
  have T2 : (z_E1 E1 q2 (10, 704)).2.2[o + 2]? = some (10, 704) := z_E1_at l1
  have l2 : (z_E1 E1 q2 (10, 704)).2.2.length = o + 3 := by rw [z_E1_len, l1]
  rw [l1]
  generalize z_E1 E1 q2 (10, 704) = E2 at V2 U2 T0 T1 T2 l2 ⊢
  refine z_putr (fi := 2) e_X5_init_19 f_RX5_13 T0 rfl (Or.inr ⟨rfl, rfl, rfl, z_tab 610 (by decide +kernel) rfl⟩) rfl (fun b hb => by cases hb; omega) ?_
  refine z_aload_n e_X5_init_22 rfl ?_
  refine z_iconst e_X5_init_23 ?_
  refine z_newi (len := 4) e_X5_init_24 (z_tab 75 (by decide +kernel) rfl) (Nat.le_of_ble_eq_true rfl) rfl ⟨by omega, trivial⟩ ⟨by omega, trivial⟩ (fun q3 => ?_)
  have V3 := z_up_1 (z_up_r E2) q3 (10, 4)
  have U3 := z_up_1 U2 q3 (10, 4)
  have T0 := z_up_get V3 T0
  have T1 := z_up_get V3 T1
  have T2 := z_up_get V3 T2
  have T3 : (z_E1 E2 q3 (10, 4)).2.2[o + 3]? = some (10, 4) := z_E1_at l2
  have l3 : (z_E1 E2 q3 (10, 4)).2.2.length = o + 4 := by rw [z_E1_len, l2]
  rw [l2]
  generalize z_E1 E2 q3 (10, 4) = E3 at V3 U3 T0 T1 T2 T3 l3 ⊢
  refine z_putr (fi := 3) e_X5_init_26 f_RX5_16 T0 rfl (Or.inr ⟨rfl, rfl, rfl, z_tab 611 (by decide +kernel) rfl⟩) rfl (fun b hb => by cases hb; omega) ?_
  refine z_aload_n e_X5_init_29 rfl ?_
  refine z_iconst e_X5_init_30 ?_
  refine z_newi (len := 4) e_X5_init_31 (z_tab 75 (by decide +kernel) rfl) (Nat.le_of_ble_eq_true rfl) rfl ⟨by omega, trivial⟩ ⟨by omega, trivial⟩ (fun q4 => ?_)
  have V4 := z_up_1 (z_up_r E3) q4 (10, 4)
  have U4 := z_up_1 U3 q4 (10, 4)
  have T0 := z_up_get V4 T0
  have T1 := z_up_get V4 T1
  have T2 := z_up_get V4 T2
  have T3 := z_up_get V4 T3
  have T4 : (z_E1 E3 q4 (10, 4)).2.2[o + 4]? = some (10, 4) := z_E1_at l3
  have l4 : (z_E1 E3 q4 (10, 4)).2.2.length = o + 5 := by rw [z_E1_len, l3]
  rw [l3]
  generalize z_E1 E3 q4 (10, 4) = E4 at V4 U4 T0 T1 T2 T3 T4 l4 ⊢
  refine z_putr (fi := 4) e_X5_init_33 f_RX5_19 T0 rfl (Or.inr ⟨rfl, rfl, rfl, z_tab 612 (by decide +kernel) rfl⟩) rfl (fun b hb => by cases hb; omega) ?_
  refine z_aload_n e_X5_init_36 rfl ?_
  refine z_iconst e_X5_init_37 ?_
  refine z_newi (len := 4) e_X5_init_38 (z_tab 75 (by decide +kernel) rfl) (Nat.le_of_ble_eq_true rfl) rfl ⟨by omega, trivial⟩ ⟨by omega, trivial⟩ (fun q5 => ?_)
  have V5 := z_up_1 (z_up_r E4) q5 (10, 4)
  have U5 := z_up_1 U4 q5 (10, 4)
  have T0 := z_up_get V5 T0
  have T1 := z_up_get V5 T1
  have T2 := z_up_get V5 T2
  have T3 := z_up_get V5 T3
  have T4 := z_up_get V5 T4
  have T5 : (z_E1 E4 q5 (10, 4)).2.2[o + 5]? = some (10, 4) := z_E1_at l4
  have l5 : (z_E1 E4 q5 (10, 4)).2.2.length = o + 6 := by rw [z_E1_len, l4]
  rw [l4]
  generalize z_E1 E4 q5 (10, 4) = E5 at V5 U5 T0 T1 T2 T3 T4 T5 l5 ⊢
  refine z_putr (fi := 5) e_X5_init_40 f_RX5_22 T0 rfl (Or.inr ⟨rfl, rfl, rfl, z_tab 613 (by decide +kernel) rfl⟩) rfl (fun b hb => by cases hb; omega) ?_
  refine z_aload_n e_X5_init_43 rfl ?_
  refine z_iconst e_X5_init_44 ?_
  refine z_newi (len := 4) e_X5_init_45 (z_tab 75 (by decide +kernel) rfl) (Nat.le_of_ble_eq_true rfl) rfl ⟨by omega, trivial⟩ ⟨by omega, trivial⟩ (fun q6 => ?_)
  have V6 := z_up_1 (z_up_r E5) q6 (10, 4)
  have U6 := z_up_1 U5 q6 (10, 4)
  have T0 := z_up_get V6 T0
  have T1 := z_up_get V6 T1
  have T2 := z_up_get V6 T2
  have T3 := z_up_get V6 T3
  have T4 := z_up_get V6 T4
  have T5 := z_up_get V6 T5
  have T6 : (z_E1 E5 q6 (10, 4)).2.2[o + 6]? = some (10, 4) := z_E1_at l5
  have l6 : (z_E1 E5 q6 (10, 4)).2.2.length = o + 7 := by rw [z_E1_len, l5]
  rw [l5]
  generalize z_E1 E5 q6 (10, 4) = E6 at V6 U6 T0 T1 T2 T3 T4 T5 T6 l6 ⊢
  refine z_putr (fi := 6) e_X5_init_47 f_RX5_25 T0 rfl (Or.inr ⟨rfl, rfl, rfl, z_tab 614 (by decide +kernel) rfl⟩) rfl (fun b hb => by cases hb; omega) ?_
  refine z_aload_n e_X5_init_50 rfl ?_
  refine z_iconst e_X5_init_51 ?_
  refine z_newz (len := 4) e_X5_init_52 (z_tab 648 (by decide +kernel) rfl) (Nat.le_of_ble_eq_true rfl) rfl ⟨by omega, trivial⟩ ⟨by omega, trivial⟩ (fun q7 => ?_)
  have V7 := z_up_1 (z_up_r E6) q7 (11, 4)
  have U7 := z_up_1 U6 q7 (11, 4)
  have T0 := z_up_get V7 T0
  have T1 := z_up_get V7 T1
  have T2 := z_up_get V7 T2
  have T3 := z_up_get V7 T3
  have T4 := z_up_get V7 T4
  have T5 := z_up_get V7 T5
  have T6 := z_up_get V7 T6
  have T7 : (z_E1 E6 q7 (11, 4)).2.2[o + 7]? = some (11, 4) := z_E1_at l6
  have l7 : (z_E1 E6 q7 (11, 4)).2.2.length = o + 8 := by rw [z_E1_len, l6]
  rw [l6]
  generalize z_E1 E6 q7 (11, 4) = E7 at V7 U7 T0 T1 T2 T3 T4 T5 T6 T7 l7 ⊢
  refine z_putr (fi := 7) e_X5_init_54 f_RX5_28 T0 rfl (Or.inr ⟨rfl, rfl, rfl, z_tab 615 (by decide +kernel) rfl⟩) rfl (fun b hb => by cases hb; omega) ?_
  generalize hm : (z_u (z_u (z_u (z_u (z_u (z_u (z_u mi (o + 1) (fun _ => 0)) (o + 2) (fun _ => 0)) (o + 3) (fun _ => 0)) (o + 4) (fun _ => 0)) (o + 5) (fun _ => 0)) (o + 6) (fun _ => 0)) (o + 7) (fun _ => 0)) = m0
  generalize hr : (z_u (z_u (z_u (z_u (z_u (z_u (z_u (z_u (z_u (z_u (z_u (z_u (z_u (z_u mr (o + 1) (fun _ => none)) o (z_v ((z_u mr (o + 1) (fun _ => none)) o) 0 (some (o + 1)))) (o + 2) (fun _ => none)) o (z_v ((z_u (z_u (z_u mr (o + 1) (fun _ => none)) o (z_v ((z_u mr (o + 1) (fun _ => none)) o) 0 (some (o + 1)))) (o + 2) (fun _ => none)) o) 2 (some (o + 2)))) (o + 3) (fun _ => none)) o (z_v ((z_u (z_u (z_u (z_u (z_u mr (o + 1) (fun _ => none)) o (z_v ((z_u mr (o + 1) (fun _ => none)) o) 0 (some (o + 1)))) (o + 2) (fun _ => none)) o (z_v ((z_u (z_u (z_u mr (o + 1) (fun _ => none)) o (z_v ((z_u mr (o + 1) (fun _ => none)) o) 0 (some (o + 1)))) (o + 2) (fun _ => none)) o) 2 (some (o + 2)))) (o + 3) (fun _ => none)) o) 3 (some (o + 3)))) (o + 4) (fun _ => none)) o (z_v ((z_u (z_u (z_u (z_u (z_u (z_u (z_u mr (o + 1) (fun _ => none)) o (z_v ((z_u mr (o + 1) (fun _ => none)) o) 0 (some (o + 1)))) (o + 2) (fun _ => none)) o (z_v ((z_u (z_u (z_u mr (o + 1) (fun _ => none)) o (z_v ((z_u mr (o + 1) (fun _ => none)) o) 0 (some (o + 1)))) (o + 2) (fun _ => none)) o) 2 (some (o + 2)))) (o + 3) (fun _ => none)) o (z_v ((z_u (z_u (z_u (z_u (z_u mr (o + 1) (fun _ => none)) o (z_v ((z_u mr (o + 1) (fun _ => none)) o) 0 (some (o + 1)))) (o + 2) (fun _ => none)) o (z_v ((z_u (z_u (z_u mr (o + 1) (fun _ => none)) o (z_v ((z_u mr (o + 1) (fun _ => none)) o) 0 (some (o + 1)))) (o + 2) (fun _ => none)) o) 2 (some (o + 2)))) (o + 3) (fun _ => none)) o) 3 (some (o + 3)))) (o + 4) (fun _ => none)) o) 4 (some (o + 4)))) (o + 5) (fun _ => none)) o (z_v ((z_u (z_u (z_u (z_u (z_u (z_u (z_u (z_u (z_u mr (o + 1) (fun _ => none)) o (z_v ((z_u mr (o + 1) (fun _ => none)) o) 0 (some (o + 1)))) (o + 2) (fun _ => none)) o (z_v ((z_u (z_u (z_u mr (o + 1) (fun _ => none)) o (z_v ((z_u mr (o + 1) (fun _ => none)) o) 0 (some (o + 1)))) (o + 2) (fun _ => none)) o) 2 (some (o + 2)))) (o + 3) (fun _ => none)) o (z_v ((z_u (z_u (z_u (z_u (z_u mr (o + 1) (fun _ => none)) o (z_v ((z_u mr (o + 1) (fun _ => none)) o) 0 (some (o + 1)))) (o + 2) (fun _ => none)) o (z_v ((z_u (z_u (z_u mr (o + 1) (fun _ => none)) o (z_v ((z_u mr (o + 1) (fun _ => none)) o) 0 (some (o + 1)))) (o + 2) (fun _ => none)) o) 2 (some (o + 2)))) (o + 3) (fun _ => none)) o) 3 (some (o + 3)))) (o + 4) (fun _ => none)) o (z_v ((z_u (z_u (z_u (z_u (z_u (z_u (z_u mr (o + 1) (fun _ => none)) o (z_v ((z_u mr (o + 1) (fun _ => none)) o) 0 (some (o + 1)))) (o + 2) (fun _ => none)) o (z_v ((z_u (z_u (z_u mr (o + 1) (fun _ => none)) o (z_v ((z_u mr (o + 1) (fun _ => none)) o) 0 (some (o + 1)))) (o + 2) (fun _ => none)) o) 2 (some (o + 2)))) (o + 3) (fun _ => none)) o (z_v ((z_u (z_u (z_u (z_u (z_u mr (o + 1) (fun _ => none)) o (z_v ((z_u mr (o + 1) (fun _ => none)) o) 0 (some (o + 1)))) (o + 2) (fun _ => none)) o (z_v ((z_u (z_u (z_u mr (o + 1) (fun _ => none)) o (z_v ((z_u mr (o + 1) (fun _ => none)) o) 0 (some (o + 1)))) (o + 2) (fun _ => none)) o) 2 (some (o + 2)))) (o + 3) (fun _ => none)) o) 3 (some (o + 3)))) (o + 4) (fun _ => none)) o) 4 (some (o + 4)))) (o + 5) (fun _ => none)) o) 5 (some (o + 5)))) (o + 6) (fun _ => none)) o (z_v ((z_u (z_u (z_u (z_u (z_u (z_u (z_u (z_u (z_u (z_u (z_u mr (o + 1) (fun _ => none)) o (z_v ((z_u mr (o + 1) (fun _ => none)) o) 0 (some (o + 1)))) (o + 2) (fun _ => none)) o (z_v ((z_u (z_u (z_u mr (o + 1) (fun _ => none)) o (z_v ((z_u mr (o + 1) (fun _ => none)) o) 0 (some (o + 1)))) (o + 2) (fun _ => none)) o) 2 (some (o + 2)))) (o + 3) (fun _ => none)) o (z_v ((z_u (z_u (z_u (z_u (z_u mr (o + 1) (fun _ => none)) o (z_v ((z_u mr (o + 1) (fun _ => none)) o) 0 (some (o + 1)))) (o + 2) (fun _ => none)) o (z_v ((z_u (z_u (z_u mr (o + 1) (fun _ => none)) o (z_v ((z_u mr (o + 1) (fun _ => none)) o) 0 (some (o + 1)))) (o + 2) (fun _ => none)) o) 2 (some (o + 2)))) (o + 3) (fun _ => none)) o) 3 (some (o + 3)))) (o + 4) (fun _ => none)) o (z_v ((z_u (z_u (z_u (z_u (z_u (z_u (z_u mr (o + 1) (fun _ => none)) o (z_v ((z_u mr (o + 1) (fun _ => none)) o) 0 (some (o + 1)))) (o + 2) (fun _ => none)) o (z_v ((z_u (z_u (z_u mr (o + 1) (fun _ => none)) o (z_v ((z_u mr (o + 1) (fun _ => none)) o) 0 (some (o + 1)))) (o + 2) (fun _ => none)) o) 2 (some (o + 2)))) (o + 3) (fun _ => none)) o (z_v ((z_u (z_u (z_u (z_u (z_u mr (o + 1) (fun _ => none)) o (z_v ((z_u mr (o + 1) (fun _ => none)) o) 0 (some (o + 1)))) (o + 2) (fun _ => none)) o (z_v ((z_u (z_u (z_u mr (o + 1) (fun _ => none)) o (z_v ((z_u mr (o + 1) (fun _ => none)) o) 0 (some (o + 1)))) (o + 2) (fun _ => none)) o) 2 (some (o + 2)))) (o + 3) (fun _ => none)) o) 3 (some (o + 3)))) (o + 4) (fun _ => none)) o) 4 (some (o + 4)))) (o + 5) (fun _ => none)) o (z_v ((z_u (z_u (z_u (z_u (z_u (z_u (z_u (z_u (z_u mr (o + 1) (fun _ => none)) o (z_v ((z_u mr (o + 1) (fun _ => none)) o) 0 (some (o + 1)))) (o + 2) (fun _ => none)) o (z_v ((z_u (z_u (z_u mr (o + 1) (fun _ => none)) o (z_v ((z_u mr (o + 1) (fun _ => none)) o) 0 (some (o + 1)))) (o + 2) (fun _ => none)) o) 2 (some (o + 2)))) (o + 3) (fun _ => none)) o (z_v ((z_u (z_u (z_u (z_u (z_u mr (o + 1) (fun _ => none)) o (z_v ((z_u mr (o + 1) (fun _ => none)) o) 0 (some (o + 1)))) (o + 2) (fun _ => none)) o (z_v ((z_u (z_u (z_u mr (o + 1) (fun _ => none)) o (z_v ((z_u mr (o + 1) (fun _ => none)) o) 0 (some (o + 1)))) (o + 2) (fun _ => none)) o) 2 (some (o + 2)))) (o + 3) (fun _ => none)) o) 3 (some (o + 3)))) (o + 4) (fun _ => none)) o (z_v ((z_u (z_u (z_u (z_u (z_u (z_u (z_u mr (o + 1) (fun _ => none)) o (z_v ((z_u mr (o + 1) (fun _ => none)) o) 0 (some (o + 1)))) (o + 2) (fun _ => none)) o (z_v ((z_u (z_u (z_u mr (o + 1) (fun _ => none)) o (z_v ((z_u mr (o + 1) (fun _ => none)) o) 0 (some (o + 1)))) (o + 2) (fun _ => none)) o) 2 (some (o + 2)))) (o + 3) (fun _ => none)) o (z_v ((z_u (z_u (z_u (z_u (z_u mr (o + 1) (fun _ => none)) o (z_v ((z_u mr (o + 1) (fun _ => none)) o) 0 (some (o + 1)))) (o + 2) (fun _ => none)) o (z_v ((z_u (z_u (z_u mr (o + 1) (fun _ => none)) o (z_v ((z_u mr (o + 1) (fun _ => none)) o) 0 (some (o + 1)))) (o + 2) (fun _ => none)) o) 2 (some (o + 2)))) (o + 3) (fun _ => none)) o) 3 (some (o + 3)))) (o + 4) (fun _ => none)) o) 4 (some (o + 4)))) (o + 5) (fun _ => none)) o) 5 (some (o + 5)))) (o + 6) (fun _ => none)) o) 6 (some (o + 6)))) (o + 7) (fun _ => none)) o (z_v ((z_u (z_u (z_u (z_u (z_u (z_u (z_u (z_u (z_u (z_u (z_u (z_u (z_u mr (o + 1) (fun _ => none)) o (z_v ((z_u mr (o + 1) (fun _ => none)) o) 0 (some (o + 1)))) (o + 2) (fun _ => none)) o (z_v ((z_u (z_u (z_u mr (o + 1) (fun _ => none)) o (z_v ((z_u mr (o + 1) (fun _ => none)) o) 0 (some (o + 1)))) (o + 2) (fun _ => none)) o) 2 (some (o + 2)))) (o + 3) (fun _ => none)) o (z_v ((z_u (z_u (z_u (z_u (z_u mr (o + 1) (fun _ => none)) o (z_v ((z_u mr (o + 1) (fun _ => none)) o) 0 (some (o + 1)))) (o + 2) (fun _ => none)) o (z_v ((z_u (z_u (z_u mr (o + 1) (fun _ => none)) o (z_v ((z_u mr (o + 1) (fun _ => none)) o) 0 (some (o + 1)))) (o + 2) (fun _ => none)) o) 2 (some (o + 2)))) (o + 3) (fun _ => none)) o) 3 (some (o + 3)))) (o + 4) (fun _ => none)) o (z_v ((z_u (z_u (z_u (z_u (z_u (z_u (z_u mr (o + 1) (fun _ => none)) o (z_v ((z_u mr (o + 1) (fun _ => none)) o) 0 (some (o + 1)))) (o + 2) (fun _ => none)) o (z_v ((z_u (z_u (z_u mr (o + 1) (fun _ => none)) o (z_v ((z_u mr (o + 1) (fun _ => none)) o) 0 (some (o + 1)))) (o + 2) (fun _ => none)) o) 2 (some (o + 2)))) (o + 3) (fun _ => none)) o (z_v ((z_u (z_u (z_u (z_u (z_u mr (o + 1) (fun _ => none)) o (z_v ((z_u mr (o + 1) (fun _ => none)) o) 0 (some (o + 1)))) (o + 2) (fun _ => none)) o (z_v ((z_u (z_u (z_u mr (o + 1) (fun _ => none)) o (z_v ((z_u mr (o + 1) (fun _ => none)) o) 0 (some (o + 1)))) (o + 2) (fun _ => none)) o) 2 (some (o + 2)))) (o + 3) (fun _ => none)) o) 3 (some (o + 3)))) (o + 4) (fun _ => none)) o) 4 (some (o + 4)))) (o + 5) (fun _ => none)) o (z_v ((z_u (z_u (z_u (z_u (z_u (z_u (z_u (z_u (z_u mr (o + 1) (fun _ => none)) o (z_v ((z_u mr (o + 1) (fun _ => none)) o) 0 (some (o + 1)))) (o + 2) (fun _ => none)) o (z_v ((z_u (z_u (z_u mr (o + 1) (fun _ => none)) o (z_v ((z_u mr (o + 1) (fun _ => none)) o) 0 (some (o + 1)))) (o + 2) (fun _ => none)) o) 2 (some (o + 2)))) (o + 3) (fun _ => none)) o (z_v ((z_u (z_u (z_u (z_u (z_u mr (o + 1) (fun _ => none)) o (z_v ((z_u mr (o + 1) (fun _ => none)) o) 0 (some (o + 1)))) (o + 2) (fun _ => none)) o (z_v ((z_u (z_u (z_u mr (o + 1) (fun _ => none)) o (z_v ((z_u mr (o + 1) (fun _ => none)) o) 0 (some (o + 1)))) (o + 2) (fun _ => none)) o) 2 (some (o + 2)))) (o + 3) (fun _ => none)) o) 3 (some (o + 3)))) (o + 4) (fun _ => none)) o (z_v ((z_u (z_u (z_u (z_u (z_u (z_u (z_u mr (o + 1) (fun _ => none)) o (z_v ((z_u mr (o + 1) (fun _ => none)) o) 0 (some (o + 1)))) (o + 2) (fun _ => none)) o (z_v ((z_u (z_u (z_u mr (o + 1) (fun _ => none)) o (z_v ((z_u mr (o + 1) (fun _ => none)) o) 0 (some (o + 1)))) (o + 2) (fun _ => none)) o) 2 (some (o + 2)))) (o + 3) (fun _ => none)) o (z_v ((z_u (z_u (z_u (z_u (z_u mr (o + 1) (fun _ => none)) o (z_v ((z_u mr (o + 1) (fun _ => none)) o) 0 (some (o + 1)))) (o + 2) (fun _ => none)) o (z_v ((z_u (z_u (z_u mr (o + 1) (fun _ => none)) o (z_v ((z_u mr (o + 1) (fun _ => none)) o) 0 (some (o + 1)))) (o + 2) (fun _ => none)) o) 2 (some (o + 2)))) (o + 3) (fun _ => none)) o) 3 (some (o + 3)))) (o + 4) (fun _ => none)) o) 4 (some (o + 4)))) (o + 5) (fun _ => none)) o) 5 (some (o + 5)))) (o + 6) (fun _ => none)) o (z_v ((z_u (z_u (z_u (z_u (z_u (z_u (z_u (z_u (z_u (z_u (z_u mr (o + 1) (fun _ => none)) o (z_v ((z_u mr (o + 1) (fun _ => none)) o) 0 (some (o + 1)))) (o + 2) (fun _ => none)) o (z_v ((z_u (z_u (z_u mr (o + 1) (fun _ => none)) o (z_v ((z_u mr (o + 1) (fun _ => none)) o) 0 (some (o + 1)))) (o + 2) (fun _ => none)) o) 2 (some (o + 2)))) (o + 3) (fun _ => none)) o (z_v ((z_u (z_u (z_u (z_u (z_u mr (o + 1) (fun _ => none)) o (z_v ((z_u mr (o + 1) (fun _ => none)) o) 0 (some (o + 1)))) (o + 2) (fun _ => none)) o (z_v ((z_u (z_u (z_u mr (o + 1) (fun _ => none)) o (z_v ((z_u mr (o + 1) (fun _ => none)) o) 0 (some (o + 1)))) (o + 2) (fun _ => none)) o) 2 (some (o + 2)))) (o + 3) (fun _ => none)) o) 3 (some (o + 3)))) (o + 4) (fun _ => none)) o (z_v ((z_u (z_u (z_u (z_u (z_u (z_u (z_u mr (o + 1) (fun _ => none)) o (z_v ((z_u mr (o + 1) (fun _ => none)) o) 0 (some (o + 1)))) (o + 2) (fun _ => none)) o (z_v ((z_u (z_u (z_u mr (o + 1) (fun _ => none)) o (z_v ((z_u mr (o + 1) (fun _ => none)) o) 0 (some (o + 1)))) (o + 2) (fun _ => none)) o) 2 (some (o + 2)))) (o + 3) (fun _ => none)) o (z_v ((z_u (z_u (z_u (z_u (z_u mr (o + 1) (fun _ => none)) o (z_v ((z_u mr (o + 1) (fun _ => none)) o) 0 (some (o + 1)))) (o + 2) (fun _ => none)) o (z_v ((z_u (z_u (z_u mr (o + 1) (fun _ => none)) o (z_v ((z_u mr (o + 1) (fun _ => none)) o) 0 (some (o + 1)))) (o + 2) (fun _ => none)) o) 2 (some (o + 2)))) (o + 3) (fun _ => none)) o) 3 (some (o + 3)))) (o + 4) (fun _ => none)) o) 4 (some (o + 4)))) (o + 5) (fun _ => none)) o (z_v ((z_u (z_u (z_u (z_u (z_u (z_u (z_u (z_u (z_u mr (o + 1) (fun _ => none)) o (z_v ((z_u mr (o + 1) (fun _ => none)) o) 0 (some (o + 1)))) (o + 2) (fun _ => none)) o (z_v ((z_u (z_u (z_u mr (o + 1) (fun _ => none)) o (z_v ((z_u mr (o + 1) (fun _ => none)) o) 0 (some (o + 1)))) (o + 2) (fun _ => none)) o) 2 (some (o + 2)))) (o + 3) (fun _ => none)) o (z_v ((z_u (z_u (z_u (z_u (z_u mr (o + 1) (fun _ => none)) o (z_v ((z_u mr (o + 1) (fun _ => none)) o) 0 (some (o + 1)))) (o + 2) (fun _ => none)) o (z_v ((z_u (z_u (z_u mr (o + 1) (fun _ => none)) o (z_v ((z_u mr (o + 1) (fun _ => none)) o) 0 (some (o + 1)))) (o + 2) (fun _ => none)) o) 2 (some (o + 2)))) (o + 3) (fun _ => none)) o) 3 (some (o + 3)))) (o + 4) (fun _ => none)) o (z_v ((z_u (z_u (z_u (z_u (z_u (z_u (z_u mr (o + 1) (fun _ => none)) o (z_v ((z_u mr (o + 1) (fun _ => none)) o) 0 (some (o + 1)))) (o + 2) (fun _ => none)) o (z_v ((z_u (z_u (z_u mr (o + 1) (fun _ => none)) o (z_v ((z_u mr (o + 1) (fun _ => none)) o) 0 (some (o + 1)))) (o + 2) (fun _ => none)) o) 2 (some (o + 2)))) (o + 3) (fun _ => none)) o (z_v ((z_u (z_u (z_u (z_u (z_u mr (o + 1) (fun _ => none)) o (z_v ((z_u mr (o + 1) (fun _ => none)) o) 0 (some (o + 1)))) (o + 2) (fun _ => none)) o (z_v ((z_u (z_u (z_u mr (o + 1) (fun _ => none)) o (z_v ((z_u mr (o + 1) (fun _ => none)) o) 0 (some (o + 1)))) (o + 2) (fun _ => none)) o) 2 (some (o + 2)))) (o + 3) (fun _ => none)) o) 3 (some (o + 3)))) (o + 4) (fun _ => none)) o) 4 (some (o + 4)))) (o + 5) (fun _ => none)) o) 5 (some (o + 5)))) (o + 6) (fun _ => none)) o) 6 (some (o + 6)))) (o + 7) (fun _ => none)) o) 7 (some (o + 7)))) = r0
  have hr0 : r0 o 0 = some (o + 1) ∧ r0 o 2 = some (o + 2) ∧ r0 o 3 = some (o + 3) ∧ r0 o 4 = some (o + 4) ∧ r0 o 5 = some (o + 5) ∧ r0 o 6 = some (o + 6) ∧ r0 o 7 = some (o + 7) := by subst hr; simp [z_u, z_v]
  have hm0 : m0 o = (fun _ => 0) ∧ m0 (o + 1) = (fun _ => 0) ∧ m0 (o + 3) = (fun _ => 0) ∧ m0 (o + 4) = (fun _ => 0) ∧ m0 (o + 5) = (fun _ => 0) := by subst hm; simp [z_u, h0]
  have hf0 : ∀ c, c < o → m0 c = mi c ∧ r0 c = mr c := by
    intro c hc
    have n0 : c ≠ o := by omega
    have n1 : c ≠ o + 1 := by omega
    have n2 : c ≠ o + 2 := by omega
    have n3 : c ≠ o + 3 := by omega
    have n4 : c ≠ o + 4 := by omega
    have n5 : c ≠ o + 5 := by omega
    have n6 : c ≠ o + 6 := by omega
    have n7 : c ≠ o + 7 := by omega
    subst hm hr; simp [z_u, n0, n1, n2, n3, n4, n5, n6, n7]
  clear hm hr
  have hMO : z_MO E7 r0 o := ⟨T0, T1, T2, T3, T4, T5, T6, T7, hr0⟩
  refine z_aload_n e_X5_init_57 rfl ?_
  refine z_getr (fi := 0) (r := some (o + 1)) e_X5_init_58 f_RX5_7 T0 rfl rfl hr0.1 ?_
  refine z_iconst e_X5_init_61 ?_
  refine z_bipush e_X5_init_62 (by decide +kernel) ?_
  refine z_iastN (f := fun _ => 0) e_X5_init_64 T1 (by decide) (by decide) (by decide) hm0.2.1 ?_
  refine z_aload_n e_X5_init_65 rfl ?_
  refine z_getr (fi := 0) (r := some (o + 1)) e_X5_init_66 f_RX5_7 T0 rfl rfl hr0.1 ?_
  refine z_iconst e_X5_init_69 ?_
  refine z_iconst e_X5_init_70 ?_
  refine z_iastU e_X5_init_71 T1 (by decide) (by decide) (by decide) ?_
  refine z_aload_n e_X5_init_72 rfl ?_
  refine z_getr (fi := 0) (r := some (o + 1)) e_X5_init_73 f_RX5_7 T0 rfl rfl hr0.1 ?_
  refine z_iconst e_X5_init_76 ?_
  refine z_iconst e_X5_init_77 ?_
  refine z_iastU e_X5_init_78 T1 (by decide) (by decide) (by decide) ?_
  refine z_iconst e_X5_init_79 ?_
  refine z_istore_n (ls' := [some (zo o), some (zi 0)]) e_X5_init_80 rfl rfl rfl ?_
  have loop81 : ∀ (nn : Nat) (i : Int) (P1 : Int → Int), (32 - i).toNat = nn → 0 ≤ i → i ≤ 32 → P1 = p_blk (z_v (z_v (z_v (fun _ => 0) 0 10) 1 4) 3 3) 0 i → z_A M_X5_init E7 7 7195 81 [some (zo o), some (zi i)] [] (z_u m0 (o + 1) P1) r0 Q := by
    intro nn
    induction nn with
    | zero =>
      intro i P1 hn i0 i1 hP
      obtain rfl : i = 32 := by omega
      refine z_iload_n e_X5_init_81 rfl ?_
      refine z_bipush e_X5_init_82 (by decide +kernel) ?_
      refine z_icmp_ge e_X5_init_84 (by decide) (by decide) (fun _ => ?_) (fun hq => absurd hq (by decide))
      refine z_ret e_X5_init_98 rfl rfl rfl ?_
      subst hQ
      refine ⟨rfl, U7, hMO, ?_, ?_, ?_, ?_, ?_, fun c hc => ?_⟩
      · rw [z_un (by omega)]; exact hm0.1
      · rw [z_us]; exact hP
      · rw [z_un (by omega)]; exact hm0.2.2.1
      · rw [z_un (by omega)]; exact hm0.2.2.2.1
      · rw [z_un (by omega)]; exact hm0.2.2.2.2
      · rw [z_un (by omega)]; exact hf0 c hc
    | succ nn ih =>
      intro i P1 hn i0 i1 hP
      refine z_iload_n e_X5_init_81 rfl ?_
      refine z_bipush e_X5_init_82 (by decide +kernel) ?_
      refine z_icmp_ge e_X5_init_84 ⟨by omega, by omega⟩ (by decide) (fun hq => absurd hq (by omega)) (fun hq => ?_)
      refine z_aload_n e_X5_init_87 rfl ?_
      refine z_iload_n e_X5_init_88 rfl ?_
      refine z_callVv (M' := M_X5_blanks) (As := [zi i]) (rest := []) e_X5_init_89 l_RX5_32 rfl rfl rfl rfl T0 ⟨_, _, rfl⟩ (c_X5_blanks hMO (by omega) (by omega)) (fun mq rq hq => ?_)
      obtain ⟨e2q, e3q⟩ := hq
      subst mq rq
      refine z_iinc (y := (i + 1)) (ls' := [some (zo o), some (zi (i + 1))]) e_X5_init_92 rfl rfl rfl rfl rfl ?_
      refine z_goto e_X5_init_95 ?_
      exact ih (i + 1) _ (by omega) (by omega) (by omega) (p_blk_s hP (by omega))
  exact loop81 _ 0 _ rfl (by omega) (by omega) p_blk_00.symm
