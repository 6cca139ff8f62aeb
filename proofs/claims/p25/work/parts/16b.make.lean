set_option maxHeartbeats 1000000 in
set_option maxRecDepth 100000 in
theorem c_X0_init {E : z_E} {mi : z_Mi} {mr : z_Mr} {a : Nat} (ha : E.2.2[a]? = some (0, 0)) : z_mv M_X0_init E [zo a] mi mr (fun m r => m = z_u mi a (z_v (z_v (z_v (mi a) 0 0) 1 0) 2 0) ∧ r = mr) := by
  refine z_ofv (ls := [some (zo a)]) rfl (fun _ _ => trivial) ⟨rfl, rfl⟩ (Nat.le_of_ble_eq_true rfl) rfl ?_
  refine z_aload_n e_X0_init_0 rfl ?_
  refine z_obj e_X0_init_1 mm_RX0_1 rfl rfl ?_
  refine z_aload_n e_X0_init_4 rfl ?_
  refine z_iconst e_X0_init_5 ?_
  refine z_putiN (fi := 0) (f := (mi a)) e_X0_init_6 f_RX0_7 ha rfl rfl (Or.inl rfl) (rfl) ?_
  refine z_aload_n e_X0_init_9 rfl ?_
  refine z_iconst e_X0_init_10 ?_
  refine z_putiU (fi := 1) e_X0_init_11 f_RX0_13 ha rfl rfl (Or.inl rfl) ?_
  refine z_aload_n e_X0_init_14 rfl ?_
  refine z_iconst e_X0_init_15 ?_
  refine z_putiU (fi := 2) e_X0_init_16 f_RX0_16 ha rfl rfl (Or.inr ⟨rfl, Or.inl rfl⟩) ?_
  refine z_ret e_X0_init_19 rfl rfl rfl ⟨rfl, rfl, ?_⟩
  exact ⟨rfl, rfl⟩
set_option maxHeartbeats 1000000 in
set_option maxRecDepth 100000 in
theorem c_X1_init {E : z_E} {mi : z_Mi} {mr : z_Mr} {a : Nat} (ha : E.2.2[a]? = some (1, 0)) : z_mv M_X1_init E [zo a] mi mr (fun m r => ∃ (G : Int → Int) (f : Int → Option Nat), m = z_u mi a G ∧ r = z_u mr a f) := by
  refine z_ofv (ls := [some (zo a)]) rfl (fun _ _ => trivial) ⟨rfl, rfl⟩ (Nat.le_of_ble_eq_true rfl) rfl ?_
  refine z_aload_n e_X1_init_0 rfl ?_
  refine z_obj e_X1_init_1 mm_RX1_3 rfl rfl ?_
  refine z_aload_n e_X1_init_4 rfl ?_
  refine z_null e_X1_init_5 ?_
  refine z_putr (fi := 0) e_X1_init_6 f_RX1_9 ha rfl (Or.inl rfl) rfl (fun b hb => by cases hb) ?_
  refine z_aload_n e_X1_init_9 rfl ?_
  refine z_iconst e_X1_init_10 ?_
  refine z_putiN (fi := 1) (f := (mi a)) e_X1_init_11 f_RX1_15 ha rfl rfl (Or.inl rfl) (rfl) ?_
  refine z_aload_n e_X1_init_14 rfl ?_
  refine z_iconst e_X1_init_15 ?_
  refine z_putiU (fi := 2) e_X1_init_16 f_RX1_19 ha rfl rfl (Or.inl rfl) ?_
  refine z_aload_n e_X1_init_19 rfl ?_
  refine z_iconst e_X1_init_20 ?_
  refine z_putiU (fi := 3) e_X1_init_21 f_RX1_22 ha rfl rfl (Or.inl rfl) ?_
  refine z_aload_n e_X1_init_24 rfl ?_
  refine z_iconst e_X1_init_25 ?_
  refine z_putiU (fi := 4) e_X1_init_26 f_RX1_25 ha rfl rfl (Or.inl rfl) ?_
  refine z_aload_n e_X1_init_29 rfl ?_
  refine z_bipush e_X1_init_30 (by decide +kernel) ?_
  refine z_putiU (fi := 5) e_X1_init_32 f_RX1_28 ha rfl rfl (Or.inl rfl) ?_
  refine z_aload_n e_X1_init_35 rfl ?_
  refine z_bipush e_X1_init_36 (by decide +kernel) ?_
  refine z_putiU (fi := 6) e_X1_init_38 f_RX1_31 ha rfl rfl (Or.inl rfl) ?_
  refine z_aload_n e_X1_init_41 rfl ?_
  refine z_iconst e_X1_init_42 ?_
  refine z_putiU (fi := 7) e_X1_init_43 f_RX1_34 ha rfl rfl (Or.inl rfl) ?_
  refine z_aload_n e_X1_init_46 rfl ?_
  refine z_iconst e_X1_init_47 ?_
  refine z_putiU (fi := 8) e_X1_init_48 f_RX1_37 ha rfl rfl (Or.inl rfl) ?_
  refine z_aload_n e_X1_init_51 rfl ?_
  refine z_iconst e_X1_init_52 ?_
  refine z_putiU (fi := 9) e_X1_init_53 f_RX1_40 ha rfl rfl (Or.inl rfl) ?_
  refine z_aload_n e_X1_init_56 rfl ?_
  refine z_iconst e_X1_init_57 ?_
  refine z_putiU (fi := 10) e_X1_init_58 f_RX1_43 ha rfl rfl (Or.inl rfl) ?_
  refine z_aload_n e_X1_init_61 rfl ?_
  refine z_iconst e_X1_init_62 ?_
  refine z_putiU (fi := 11) e_X1_init_63 f_RX1_46 ha rfl rfl (Or.inr ⟨rfl, Or.inl rfl⟩) ?_
  refine z_aload_n e_X1_init_66 rfl ?_
  refine z_iconst e_X1_init_67 ?_
  refine z_putiU (fi := 12) e_X1_init_68 f_RX1_50 ha rfl rfl (Or.inr ⟨rfl, Or.inl rfl⟩) ?_
  refine z_ret e_X1_init_71 rfl rfl rfl ⟨rfl, rfl, ?_⟩
  exact ⟨_, _, rfl, rfl⟩
set_option maxHeartbeats 1000000 in
set_option maxRecDepth 100000 in
theorem c_X2_init {E : z_E} {mi : z_Mi} {mr : z_Mr} {a : Nat} (ha : E.2.2[a]? = some (2, 0)) (hl : E.2.2.length = a + 1) : z_mk M_X2_init E [zo a] mi mr 1 (fun E' m r => z_CR E' r a ∧ m = z_u (z_u mi (a + 1) (c_bl (fun _ => 0) 20)) a (c_un (mi a)) ∧ (∀ c, c ≠ a → c ≠ a + 1 → r c = mr c)) := by
  refine z_ofk (ls := [some (zo a)]) rfl (fun _ _ => trivial) (Nat.le_of_ble_eq_true rfl) rfl ?_
  refine z_aload_n e_X2_init_0 rfl ?_
  refine z_obj e_X2_init_1 mm_RX2_3 rfl rfl ?_
  refine z_aload_n e_X2_init_4 rfl ?_
  refine z_bipush e_X2_init_5 (by decide +kernel) ?_
  refine z_newi (len := 20) e_X2_init_7 (z_tab 74 (by decide +kernel) rfl) (by decide) rfl ⟨by omega, trivial⟩ ⟨by omega, trivial⟩ (fun q => ?_)
  have hup := z_up_1 (z_up_r E) q (10, 20)
  have ta := z_E1_get (q := q) (t := (10, 20)) ha
  have tb : (z_E1 E q (10, 20)).2.2[a + 1]? = some (10, 20) := z_E1_at hl
  refine z_putr (fi := 0) e_X2_init_9 f_RX2_9 ta rfl (Or.inr ⟨rfl, rfl, rfl, z_tab 58 (by decide +kernel) rfl⟩) rfl (fun b hb => by cases hb; rw [z_E1_len]; omega) ?_
  rw [hl]
  refine z_aload_n e_X2_init_12 rfl ?_
  have hM : z_CR (z_E1 E q (10, 20)) (z_u (z_u mr (a + 1) (fun _ => none)) a (z_v (z_u mr (a + 1) (fun _ => none) a) 0 (some (a + 1)))) a := ⟨ta, tb, by rw [z_us, z_vs]⟩
  have hcl := c_X2_clear (mi := z_u mi (a + 1) (fun _ => 0)) (F := mi a) (X := fun _ => 0) hM
  have e1 : z_u (z_u (z_u mi (a + 1) (fun _ => 0)) a (mi a)) (a + 1) (fun _ => 0) = z_u mi (a + 1) (fun _ => 0) := by
    have e2 : mi a = z_u mi (a + 1) (fun _ => 0) a := (z_un (by omega)).symm
    rw [z_uc _ _ _ (by omega : a ≠ a + 1), z_uu]
    conv => lhs; rw [e2, z_uself]
  rw [e1] at hcl
  refine z_callVv (M' := M_X2_clear) (As := []) (rest := []) e_X2_init_13 l_RX2_15 rfl rfl rfl rfl ta ⟨_, _, rfl⟩ hcl (fun mq rq hq => ?_)
  obtain ⟨e2q, e3q⟩ := hq
  subst mq rq
  refine z_ret e_X2_init_16 rfl rfl rfl ⟨rfl, hup, hM, ?_, fun c h1 h2 => by rw [z_un h1, z_un h2]⟩
  rw [z_uc _ _ _ (by omega : a ≠ a + 1), z_uu]
