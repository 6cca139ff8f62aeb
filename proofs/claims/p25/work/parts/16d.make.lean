set_option maxHeartbeats 1000000 in
set_option maxRecDepth 100000 in
theorem c_X3_init {E : z_E} {mi : z_Mi} {mr : z_Mr} {s : Nat} (ha : E.2.2[s]? = some (3, 0)) (hl : E.2.2.length = s + 1) : z_mk M_X3_init E [zo s] mi mr 70 (fun E' m r => z_S E' m r s p_new ∧ ∀ c, c < s → m c = mi c ∧ r c = mr c) := by
  refine z_ofk (ls := [some (zo s), none]) rfl (fun _ _ => trivial) (Nat.le_of_ble_eq_true rfl) rfl ?_
  generalize hQ : (z_qk E 70 (fun E' m r => z_S E' m r s p_new ∧ ∀ c, c < s → m c = mi c ∧ r c = mr c)) = Q
  have loop92 : ∀ (nn : Nat) (j : Int) (E1 : z_E) (m : z_Mi) (r : z_Mr) (kc ks : Nat), (3 - j).toNat = nn → 0 ≤ j → j ≤ 3 → kc = 67 + j.toNat → ks = 774 + 3 * j.toNat → z_N E E1 s mi mr m r 32 j → z_A M_X3_init E1 kc ks 92 [some (zo s), some (zi j)] [] m r Q := by
    intro nn
    induction nn with
    | zero =>
      intro j E1 m r kc ks hn j0 j1 hkc hks hN
      obtain rfl : j = 3 := by omega
      subst hkc hks
      refine z_iload_n e_X3_init_92 rfl ?_
      refine z_iconst e_X3_init_93 ?_
      refine z_icmp_ge e_X3_init_94 (by decide) (by decide) (fun _ => ?_) (fun hq => absurd hq (by decide))
      refine z_ret e_X3_init_116 rfl rfl rfl ?_
      subst hQ
      exact ⟨rfl, hN.1.2, z_N_end hN, hN.2.2.2.2.2.2⟩
    | succ nn ih =>
      intro j E1 m r kc ks hn j0 j1 hkc hks hN
      have hlen : E1.2.2.length = s + 68 + j.toNat := by rw [hN.1.1]; omega
      refine z_iload_n e_X3_init_92 rfl ?_
      refine z_iconst e_X3_init_93 ?_
      refine z_icmp_ge e_X3_init_94 ⟨by omega, by omega⟩ (by decide) (fun hq => absurd hq (by omega)) (fun hq => ?_)
      refine z_aload_n e_X3_init_97 rfl ?_
      refine z_getr (fi := 2) (r := some (s + 3)) e_X3_init_98 f_RX3_24 hN.2.1.1 rfl rfl hN.2.2.1.2.2 ?_
      refine z_iload_n e_X3_init_101 rfl ?_
      refine z_new (ci := 0) e_X3_init_102 rfl (z_tab 24 (by decide +kernel) rfl) (z_tab 25 (by decide +kernel) rfl) (z_tab 3 (by decide +kernel) rfl) (z_rn_i (show kc + 1 ≤ 70 by omega) (show ks + 3 ≤ 783 by omega)) ⟨by omega, trivial⟩ ⟨by omega, trivial⟩ (fun q => ?_)
      have hu := z_up_1 (z_up_r E1) q (0, 0)
      have ta : (z_E1 E1 q (0, 0)).2.2[s + 68 + j.toNat]? = some (0, 0) := z_E1_at hlen
      have tk := z_up_get hu hN.2.1.2.2.2
      rw [hlen]
      generalize z_E1 E1 q (0, 0) = E2 at hu ta tk ⊢
      refine z_dup e_X3_init_105 rfl ?_
      refine z_callIv (M' := M_X0_init) (As := []) (rest := [zo (s + 68 + j.toNat), zi j, zo (s + 3)]) e_X3_init_106 l_RX3_19 rfl (z_rm_i rfl (show kc + 1 + 0 ≤ 70 by omega) (show ks + 3 + 0 ≤ 783 by omega)) rfl rfl rfl (c_X0_init ta) (fun mq rq hq => ?_)
      obtain ⟨e2q, e3q⟩ := hq
      subst mq rq
      refine z_aast e_X3_init_109 tk ta (Or.inr (Or.inl ⟨rfl, rfl⟩)) (by decide) (by omega) (by omega) ?_
      refine z_iinc (y := (j + 1)) (ls' := [some (zo s), some (zi (j + 1))]) e_X3_init_110 rfl rfl rfl rfl rfl ?_
      refine z_goto e_X3_init_113 ?_
      refine ih (j + 1) E2 _ _ _ _ (by omega) (by omega) (by omega) (by omega) (by omega) (z_N_pl (a := s + 68 + j.toNat) hN j0 (by omega) rfl hu ta (fun c hc => ?_) ?_ (fun c hc hc2 => ?_) ?_)
      · rw [z_un hc, z_un hc]
      · rw [z_us]; exact ⟨(z_vn (by decide)).trans ((z_vn (by decide)).trans (z_vs _ _ _)), (z_vn (by decide)).trans (z_vs _ _ _), z_vs _ _ _⟩
      · rw [z_un hc2, z_un hc]
      · rw [z_us, z_un (by omega)]
  have loop65 : ∀ (nn : Nat) (i : Int) (E1 : z_E) (m : z_Mi) (r : z_Mr) (kc ks : Nat), (32 - i).toNat = nn → 0 ≤ i → i ≤ 32 → kc = 3 + 2 * i.toNat → ks = 38 + 23 * i.toNat → z_N E E1 s mi mr m r i 0 → z_A M_X3_init E1 kc ks 65 [some (zo s), some (zi i)] [] m r Q := by
    intro nn
    induction nn with
    | zero =>
      intro i E1 m r kc ks hn i0 i1 hkc hks hN
      obtain rfl : i = 32 := by omega
      refine z_iload_n e_X3_init_65 rfl ?_
      refine z_bipush e_X3_init_66 (by decide +kernel) ?_
      refine z_icmp_ge e_X3_init_68 (by decide) (by decide) (fun _ => ?_) (fun hq => absurd hq (by decide))
      refine z_iconst e_X3_init_90 ?_
      refine z_istore_n (ls' := [some (zo s), some (zi 0)]) e_X3_init_91 rfl rfl rfl ?_
      exact loop92 _ 0 E1 m r kc ks rfl (by omega) (by omega) (by omega) (by omega) hN
    | succ nn ih =>
      intro i E1 m r kc ks hn i0 i1 hkc hks hN
      have hlen : E1.2.2.length = s + 4 + 2 * i.toNat := by rw [hN.1.1]; omega
      refine z_iload_n e_X3_init_65 rfl ?_
      refine z_bipush e_X3_init_66 (by decide +kernel) ?_
      refine z_icmp_ge e_X3_init_68 ⟨by omega, by omega⟩ (by decide) (fun hq => absurd hq (by omega)) (fun hq => ?_)
      refine z_aload_n e_X3_init_71 rfl ?_
      refine z_getr (fi := 0) (r := some (s + 1)) e_X3_init_72 f_RX3_11 hN.2.1.1 rfl rfl hN.2.2.1.1 ?_
      refine z_iload_n e_X3_init_75 rfl ?_
      refine z_new (ci := 2) e_X3_init_76 rfl (z_tab 22 (by decide +kernel) rfl) (z_tab 49 (by decide +kernel) rfl) (z_tab 4 (by decide +kernel) rfl) (z_rn_i (show kc + 1 ≤ 70 by omega) (show ks + 3 ≤ 783 by omega)) ⟨by omega, trivial⟩ ⟨by omega, trivial⟩ (fun q => ?_)
      have hu := z_up_1 (z_up_r E1) q (2, 0)
      have ta : (z_E1 E1 q (2, 0)).2.2[s + 4 + 2 * i.toNat]? = some (2, 0) := z_E1_at hlen
      have hl2 : (z_E1 E1 q (2, 0)).2.2.length = s + 4 + 2 * i.toNat + 1 := by rw [z_E1_len, hlen]
      rw [hlen]
      generalize z_E1 E1 q (2, 0) = E2 at hu ta hl2 ⊢
      refine z_dup e_X3_init_79 rfl ?_
      refine z_callK (M' := M_X2_init) (As := []) (rest := [zo (s + 4 + 2 * i.toNat), zi i, zo (s + 1)]) e_X3_init_80 l_RX3_47 rfl (z_rm_i rfl (show kc + 1 + 1 ≤ 70 by omega) (show ks + 3 + 20 ≤ 783 by omega)) rfl rfl rfl ⟨by omega, trivial⟩ ⟨by omega, by omega, trivial⟩ (c_X2_init ta hl2) (fun E3 mq rq hu3 hq => ?_)
      obtain ⟨hCR, hmq, hrq⟩ := hq
      have hu' := z_up_t hu hu3
      refine z_aast e_X3_init_83 (z_up_get hu' hN.2.1.2.1) hCR.1 (Or.inl ⟨rfl, rfl⟩) (by decide) (by omega) (by omega) ?_
      refine z_iinc (y := (i + 1)) (ls' := [some (zo s), some (zi (i + 1))]) e_X3_init_84 rfl rfl rfl rfl rfl ?_
      refine z_goto e_X3_init_87 ?_
      refine ih (i + 1) E3 _ _ _ _ (by omega) (by omega) (by omega) (show kc + 1 + 1 = _ by omega) (show ks + 3 + 20 = _ by omega) (z_N_row (a := s + 4 + 2 * i.toNat) hN i0 (by omega) rfl hu' (fun c hc hc2 => ?_) ?_ ?_ (fun c hc hc2 hc3 => ?_) ?_ ?_)
      · rw [hmq, z_un hc, z_un hc2, z_un hc]
      · rw [hmq, z_us, z_us]; exact ⟨rfl, rfl⟩
      · rw [hmq, z_un (by omega), z_us]
      · rw [z_un hc3, hrq c hc hc2, z_un hc]
      · rw [z_us, hrq _ (by omega) (by omega), z_un (by omega)]
      · exact ⟨hCR.1, hCR.2.1, by rw [z_un (by omega)]; exact hCR.2.2⟩
  refine z_aload_n e_X3_init_0 rfl ?_
  refine z_obj e_X3_init_1 mm_RX3_3 rfl rfl ?_
  refine z_aload_n e_X3_init_4 rfl ?_
  refine z_bipush e_X3_init_5 (by decide +kernel) ?_
  refine z_newq (len := 32) (t := 12) (ci := 2) e_X3_init_7 (z_tab 22 (by decide +kernel) rfl) (z_nst 23 (by decide +kernel) rfl) (Or.inl ⟨rfl, rfl⟩) (by decide) rfl ⟨by omega, trivial⟩ ⟨by omega, trivial⟩ (fun qa => ?_)
  have u1 := z_up_1 (z_up_r E) qa (12, 32)
  have t10 := z_up_get u1 ha
  have t11 : (z_E1 E qa (12, 32)).2.2[s + 1]? = some (12, 32) := z_E1_at hl
  have l1 : (z_E1 E qa (12, 32)).2.2.length = s + 2 := by rw [z_E1_len, hl]
  rw [hl]
  generalize z_E1 E qa (12, 32) = E1 at u1 t10 t11 l1 ⊢
  refine z_putr (fi := 0) e_X3_init_10 f_RX3_11 t10 rfl (Or.inr ⟨rfl, rfl, rfl, z_tab 75 (by decide +kernel) rfl⟩) rfl (fun b hb => by cases hb; omega) ?_
  refine z_aload_n e_X3_init_13 rfl ?_
  refine z_new (ci := 0) e_X3_init_14 rfl (z_tab 24 (by decide +kernel) rfl) (z_tab 25 (by decide +kernel) rfl) (z_tab 3 (by decide +kernel) rfl) rfl ⟨by omega, trivial⟩ ⟨by omega, trivial⟩ (fun qb => ?_)
  have u2 := z_up_1 u1 qb (0, 0)
  have v2 := z_up_1 (z_up_r E1) qb (0, 0)
  have t20 := z_up_get v2 t10
  have t21 := z_up_get v2 t11
  have t22 : (z_E1 E1 qb (0, 0)).2.2[s + 2]? = some (0, 0) := z_E1_at l1
  have l2 : (z_E1 E1 qb (0, 0)).2.2.length = s + 3 := by rw [z_E1_len, l1]
  rw [l1]
  generalize z_E1 E1 qb (0, 0) = E2 at u2 v2 t20 t21 t22 l2 ⊢
  refine z_dup e_X3_init_17 rfl ?_
  refine z_callIv (M' := M_X0_init) (As := []) (rest := [zo (s + 2), zo s]) e_X3_init_18 l_RX3_19 rfl rfl rfl rfl rfl (c_X0_init t22) (fun mq rq hq => ?_)
  obtain ⟨e2q, e3q⟩ := hq
  subst mq rq
  refine z_putr (fi := 1) e_X3_init_21 f_RX3_20 t20 rfl (Or.inr ⟨rfl, rfl, rfl, z_tab 76 (by decide +kernel) rfl⟩) rfl (fun b hb => by cases hb; omega) ?_
  refine z_aload_n e_X3_init_24 rfl ?_
  refine z_iconst e_X3_init_25 ?_
  refine z_newq (len := 3) (t := 13) (ci := 0) e_X3_init_26 (z_tab 24 (by decide +kernel) rfl) (z_nst 48 (by decide +kernel) rfl) (Or.inr (Or.inl ⟨rfl, rfl⟩)) (by decide) rfl ⟨by omega, trivial⟩ ⟨by omega, trivial⟩ (fun qc => ?_)
  have u3 := z_up_1 u2 qc (13, 3)
  have v3 := z_up_1 (z_up_r E2) qc (13, 3)
  have t30 := z_up_get v3 t20
  have t31 := z_up_get v3 t21
  have t32 := z_up_get v3 t22
  have t33 : (z_E1 E2 qc (13, 3)).2.2[s + 3]? = some (13, 3) := z_E1_at l2
  have l3 : (z_E1 E2 qc (13, 3)).2.2.length = s + 4 := by rw [z_E1_len, l2]
  rw [l2]
  generalize z_E1 E2 qc (13, 3) = E3 at u3 v3 t30 t31 t32 t33 l3 ⊢
  refine z_putr (fi := 2) e_X3_init_29 f_RX3_24 t30 rfl (Or.inr ⟨rfl, rfl, rfl, z_tab 79 (by decide +kernel) rfl⟩) rfl (fun b hb => by cases hb; omega) ?_
  refine z_aload_n e_X3_init_32 rfl ?_
  refine z_iconst e_X3_init_33 ?_
  refine z_putiN (fi := 3) e_X3_init_34 f_RX3_28 t30 rfl rfl (Or.inl rfl) rfl ?_
  refine z_aload_n e_X3_init_37 rfl ?_
  refine z_iconst e_X3_init_38 ?_
  refine z_putiU (fi := 4) e_X3_init_39 f_RX3_32 t30 rfl rfl (Or.inl rfl) ?_
  refine z_aload_n e_X3_init_42 rfl ?_
  refine z_bipush e_X3_init_43 (by decide +kernel) ?_
  refine z_putiU (fi := 5) e_X3_init_45 f_RX3_35 t30 rfl rfl (Or.inl rfl) ?_
  refine z_aload_n e_X3_init_48 rfl ?_
  refine z_iconst e_X3_init_49 ?_
  refine z_putiU (fi := 6) e_X3_init_50 f_RX3_38 t30 rfl rfl (Or.inl rfl) ?_
  refine z_aload_n e_X3_init_53 rfl ?_
  refine z_iconst e_X3_init_54 ?_
  refine z_putiU (fi := 7) e_X3_init_55 f_RX3_41 t30 rfl rfl (Or.inl rfl) ?_
  refine z_aload_n e_X3_init_58 rfl ?_
  refine z_iconst e_X3_init_59 ?_
  refine z_putiU (fi := 8) e_X3_init_60 f_RX3_44 t30 rfl rfl (Or.inl rfl) ?_
  refine z_iconst e_X3_init_63 ?_
  refine z_istore_n (ls' := [some (zo s), some (zi 0)]) e_X3_init_64 rfl rfl rfl ?_
  refine loop65 _ 0 E3 _ _ _ _ rfl (by omega) (by omega) rfl rfl ⟨⟨l3, u3⟩, ⟨t30, t31, t32, t33⟩, ?_, ?_, fun k k0 k1 => by omega, fun k k0 k1 => by omega, fun c hc => ?_⟩
  · simp [z_u, z_v]
  · simp [z_u, z_v]
  · have n0 : c ≠ s := by omega
    have n1 : c ≠ s + 1 := by omega
    have n2 : c ≠ s + 2 := by omega
    have n3 : c ≠ s + 3 := by omega
    simp [z_u, n0, n1, n2, n3]
