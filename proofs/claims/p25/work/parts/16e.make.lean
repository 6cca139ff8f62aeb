theorem z_S_up {E E2 : z_E} {s N : Nat} {m m2 : z_Mi} {r r2 : z_Mr} {D : Int → Int} (hS : z_S E m r s D) (hD : p_hd D) (hu : z_up E E2 N) (hf : ∀ c, s ≤ c → c < s + 71 → m2 c = m c ∧ r2 c = r c) : z_S E2 m2 r2 s D := by
  have hS := z_S_fr hS hD hf
  obtain ⟨sg, ⟨t0, t1, t2, t3, tp, q0, q1, q2⟩, hd, hr⟩ := hS
  refine ⟨sg, ⟨z_up_get hu t0, z_up_get hu t1, z_up_get hu t2, z_up_get hu t3, fun j j0 j1 => ⟨z_up_get hu (tp j j0 j1).1, (tp j j0 j1).2⟩, q0, q1, q2⟩, hd, fun k k0 k1 => ?_, hr.2.1, hr.2.2⟩
  obtain ⟨g1, g2, g3⟩ := hr.1 k k0 k1
  exact ⟨g1, z_CR_up g2 hu rfl, g3⟩
def z_NX (E0 E : z_E) (o : Nat) (mi : z_Mi) (mr : z_Mr) (m : z_Mi) (r : z_Mr) (i : Int) : Prop :=
  (E.2.2.length = o + 74 + 71 * i.toNat ∧ z_up E0 E (73 + 71 * i.toNat))
  ∧ (E.2.2[o]? = some (4, 0) ∧ E.2.2[o + 72]? = some (14, 8) ∧ E.2.2[o + 73]? = some (1, 0))
  ∧ (r o 0 = some (o + 1) ∧ r o 1 = some (o + 72) ∧ r o 2 = some (o + 73))
  ∧ (m o 3 = 0 ∧ m o 4 = 0)
  ∧ z_S E m r (o + 1) p_new
  ∧ (∀ k : Int, 0 ≤ k → k < i → r (o + 72) k = some (o + 74 + 71 * k.toNat) ∧ z_S E m r (o + 74 + 71 * k.toNat) p_new)
  ∧ (∀ c, c < o → m c = mi c ∧ r c = mr c)
section ZNX
variable {E0 E E2 : z_E} {o a : Nat} {mi m m2 : z_Mi} {mr r r3 : z_Mr} {i : Int}
theorem z_NX_step (h : z_NX E0 E o mi mr m r i) (h0 : 0 ≤ i) (h1 : i < 8) (ha : a = o + 74 + 71 * i.toNat) (hu : z_up E E2 71) (hm : ∀ c, c < a → m2 c = m c) (hr : ∀ c, c < a → c ≠ o + 72 → r3 c = r c) (hr1 : r3 (o + 72) = z_v (r (o + 72)) i (some a)) (hS : z_S E2 m2 r3 a p_new) : z_NX E0 E2 o mi mr m2 r3 (i + 1) := by
  obtain ⟨⟨b1, b2⟩, ⟨t0, t1, t2⟩, ⟨q0, q1, q2⟩, hd, hs, hk, hf⟩ := h
  refine ⟨⟨by rw [z_up_len hu, b1]; omega, ?_⟩, ⟨z_up_get hu t0, z_up_get hu t1, z_up_get hu t2⟩, ?_, ?_, ?_, fun k k0 k1 => ?_, fun c hc => ?_⟩
  · have := z_up_t b2 hu
    rw [show 73 + 71 * (i + 1).toNat = 73 + 71 * i.toNat + 71 by omega]; exact this
  · rw [hr o (by omega) (by omega)]; exact ⟨q0, q1, q2⟩
  · rw [hm o (by omega)]; exact hd
  · exact z_S_up hs p_new_hd hu (fun c c0 c1 => ⟨hm c (by omega), hr c (by omega) (by omega)⟩)
  · by_cases hki : k = i
    · subst hki
      rw [hr1, z_vs, ← ha]; exact ⟨rfl, hS⟩
    · obtain ⟨g1, g2⟩ := hk k k0 (by omega)
      rw [hr1, z_vn hki]
      exact ⟨g1, z_S_up g2 p_new_hd hu (fun c c0 c1 => ⟨hm c (by omega), hr c (by omega) (by omega)⟩)⟩
  · rw [hm c (by omega), hr c (by omega) (by omega)]; exact hf c hc
theorem z_NX_end (h : z_NX E0 E o mi mr m r 8) : z_X E o m r p_new 0 0 := by
  obtain ⟨⟨b1, b2⟩, ⟨t0, t1, t2⟩, ⟨q0, q1, q2⟩, ⟨d3, d4⟩, hs, hk, hf⟩ := h
  exact ⟨⟨t0, t1, t2, q0, q1, q2, fun i i0 i1 => (hk i i0 i1).1⟩, ⟨d3, d4, by decide, by decide, by decide, by decide⟩, p_new_hd, hs, fun i i0 i1 => ⟨_, p_new_hd, (hk i i0 i1).2⟩, fun i i0 i1 => by omega⟩
end ZNX
set_option maxHeartbeats 1000000 in
set_option maxRecDepth 100000 in
theorem c_X4_init {E : z_E} {mi : z_Mi} {mr : z_Mr} {o : Nat} (ha : E.2.2[o]? = some (4, 0)) (hl : E.2.2.length = o + 1) : z_mk M_X4_init E [zo o] mi mr 641 (fun E' m r => z_X E' o m r p_new 0 0 ∧ ∀ c, c < o → m c = mi c ∧ r c = mr c) := by
  refine z_ofk (ls := [some (zo o), none]) rfl (fun _ _ => trivial) (Nat.le_of_ble_eq_true rfl) rfl ?_
  generalize hQ : (z_qk E 641 (fun E' m r => z_X E' o m r p_new 0 0 ∧ ∀ c, c < o → m c = mi c ∧ r c = mr c)) = Q
  have loop47 : ∀ (nn : Nat) (i : Int) (E1 : z_E) (m : z_Mi) (r : z_Mr) (kc ks : Nat), (8 - i).toNat = nn → 0 ≤ i → i ≤ 8 → kc = 73 + 71 * i.toNat → ks = 813 + 792 * i.toNat → z_NX E E1 o mi mr m r i → z_A M_X4_init E1 kc ks 47 [some (zo o), some (zi i)] [] m r Q := by
    intro nn
    induction nn with
    | zero =>
      intro i E1 m r kc ks hn i0 i1 hkc hks hN
      obtain rfl : i = 8 := by omega
      subst hkc hks
      refine z_iload_n e_X4_init_47 rfl ?_
      refine z_bipush e_X4_init_48 (by decide +kernel) ?_
      refine z_icmp_ge e_X4_init_50 (by decide) (by decide) (fun _ => ?_) (fun hq => absurd hq (by decide))
      refine z_ret e_X4_init_72 rfl rfl rfl ?_
      subst hQ
      exact ⟨rfl, hN.1.2, z_NX_end hN, hN.2.2.2.2.2.2⟩
    | succ nn ih =>
      intro i E1 m r kc ks hn i0 i1 hkc hks hN
      have hlen : E1.2.2.length = o + 74 + 71 * i.toNat := hN.1.1
      refine z_iload_n e_X4_init_47 rfl ?_
      refine z_bipush e_X4_init_48 (by decide +kernel) ?_
      refine z_icmp_ge e_X4_init_50 ⟨by omega, by omega⟩ (by decide) (fun hq => absurd hq (by omega)) (fun hq => ?_)
      refine z_aload_n e_X4_init_53 rfl ?_
      refine z_getr (fi := 1) (r := some (o + 72)) e_X4_init_54 f_RX4_16 hN.2.1.1 rfl rfl hN.2.2.1.2.1 ?_
      refine z_iload_n e_X4_init_57 rfl ?_
      refine z_new (ci := 3) e_X4_init_58 rfl (z_tab 16 (by decide +kernel) rfl) (z_tab 17 (by decide +kernel) rfl) (z_tab 2 (by decide +kernel) rfl) (z_rn_i (show kc + 1 ≤ 641 by omega) (show ks + 9 ≤ 7149 by omega)) ⟨by omega, trivial⟩ ⟨by omega, trivial⟩ (fun q => ?_)
      have hu := z_up_1 (z_up_r E1) q (3, 0)
      have ta : (z_E1 E1 q (3, 0)).2.2[o + 74 + 71 * i.toNat]? = some (3, 0) := z_E1_at hlen
      have hl2 : (z_E1 E1 q (3, 0)).2.2.length = o + 74 + 71 * i.toNat + 1 := by rw [z_E1_len, hlen]
      rw [hlen]
      generalize z_E1 E1 q (3, 0) = E2 at hu ta hl2 ⊢
      refine z_dup e_X4_init_61 rfl ?_
      refine z_callK (M' := M_X3_init) (As := []) (rest := [zo (o + 74 + 71 * i.toNat), zi i, zo (o + 72)]) e_X4_init_62 l_RX4_11 rfl (z_rm_i rfl (show kc + 1 + 70 ≤ 641 by omega) (show ks + 9 + 783 ≤ 7149 by omega)) rfl rfl rfl ⟨by omega, trivial⟩ ⟨by omega, by omega, trivial⟩ (c_X3_init ta hl2) (fun E3 mq rq hu3 hq => ?_)
      obtain ⟨hS, hfr⟩ := hq
      have hu' := z_up_t hu hu3
      have tS := hS
      obtain ⟨_, ⟨tS, _⟩, _⟩ := tS
      refine z_aast e_X4_init_65 (z_up_get hu' hN.2.1.2.1) tS (Or.inr (Or.inr ⟨rfl, rfl⟩)) (by decide) (by omega) (by omega) ?_
      refine z_iinc (y := (i + 1)) (ls' := [some (zo o), some (zi (i + 1))]) e_X4_init_66 rfl rfl rfl rfl rfl ?_
      refine z_goto e_X4_init_69 ?_
      refine ih (i + 1) E3 _ _ _ _ (by omega) (by omega) (by omega) (show kc + 1 + 70 = _ by omega) (show ks + 9 + 783 = _ by omega) (z_NX_step (a := o + 74 + 71 * i.toNat) hN i0 (by omega) rfl hu' (fun c hc => ?_) (fun c hc hc3 => ?_) ?_ ?_)
      · rw [(hfr c hc).1, z_un (by omega)]
      · rw [z_un hc3, (hfr c hc).2, z_un (by omega)]
      · rw [z_us, (hfr _ (by omega)).2, z_un (by omega)]
      · exact z_S_fr hS p_new_hd (fun c c0 c1 => ⟨rfl, z_un (by omega)⟩)
  refine z_aload_n e_X4_init_0 rfl ?_
  refine z_obj e_X4_init_1 mm_RX4_3 rfl rfl ?_
  refine z_aload_n e_X4_init_4 rfl ?_
  refine z_new (ci := 3) e_X4_init_5 rfl (z_tab 16 (by decide +kernel) rfl) (z_tab 17 (by decide +kernel) rfl) (z_tab 2 (by decide +kernel) rfl) rfl ⟨by omega, trivial⟩ ⟨by omega, trivial⟩ (fun qa => ?_)
  have u1 := z_up_1 (z_up_r E) qa (3, 0)
  have t10 := z_up_get u1 ha
  have t11 : (z_E1 E qa (3, 0)).2.2[o + 1]? = some (3, 0) := z_E1_at hl
  have l1 : (z_E1 E qa (3, 0)).2.2.length = o + 2 := by rw [z_E1_len, hl]
  rw [hl]
  generalize z_E1 E qa (3, 0) = E1 at u1 t10 t11 l1 ⊢
  refine z_dup e_X4_init_8 rfl ?_
  refine z_callK (M' := M_X3_init) (As := []) (rest := [zo (o + 1), zo o]) e_X4_init_9 l_RX4_11 rfl rfl rfl rfl rfl ⟨by omega, trivial⟩ ⟨by omega, by omega, trivial⟩ (c_X3_init t11 l1) (fun E2 m2 r2 v2 hq => ?_)
  obtain ⟨hS, hfr⟩ := hq
  have u2 := z_up_t u1 v2
  have t20 := z_up_get v2 t10
  have l2 : E2.2.2.length = o + 72 := by rw [z_up_len v2, l1]
  have f2 : ∀ c, c < o + 1 → m2 c = mi c ∧ r2 c = mr c := fun c hc => ⟨(hfr c hc).1.trans (z_un (by omega)), (hfr c hc).2.trans (z_un (by omega))⟩
  refine z_putr (fi := 0) e_X4_init_12 f_RX4_12 t20 rfl (Or.inr ⟨rfl, rfl, rfl, z_tab 161 (by decide +kernel) rfl⟩) rfl (fun b hb => by cases hb; omega) ?_
  refine z_aload_n e_X4_init_15 rfl ?_
  refine z_bipush e_X4_init_16 (by decide +kernel) ?_
  refine z_newq (len := 8) (t := 14) (ci := 3) e_X4_init_18 (z_tab 16 (by decide +kernel) rfl) (z_nst 114 (by decide +kernel) rfl) (Or.inr (Or.inr ⟨rfl, rfl⟩)) (by decide) rfl ⟨by omega, trivial⟩ ⟨by omega, trivial⟩ (fun qc => ?_)
  have u3 := z_up_1 u2 qc (14, 8)
  have v3 := z_up_1 (z_up_r E2) qc (14, 8)
  have t30 := z_up_get v3 t20
  have t31 : (z_E1 E2 qc (14, 8)).2.2[o + 72]? = some (14, 8) := z_E1_at l2
  have l3 : (z_E1 E2 qc (14, 8)).2.2.length = o + 73 := by rw [z_E1_len, l2]
  rw [l2]
  generalize z_E1 E2 qc (14, 8) = E3 at u3 v3 t30 t31 l3 ⊢
  refine z_putr (fi := 1) e_X4_init_21 f_RX4_16 t30 rfl (Or.inr ⟨rfl, rfl, rfl, z_tab 162 (by decide +kernel) rfl⟩) rfl (fun b hb => by cases hb; omega) ?_
  refine z_aload_n e_X4_init_24 rfl ?_
  refine z_new (ci := 1) e_X4_init_25 rfl (z_tab 115 (by decide +kernel) rfl) (z_tab 116 (by decide +kernel) rfl) (z_tab 5 (by decide +kernel) rfl) rfl ⟨by omega, trivial⟩ ⟨by omega, trivial⟩ (fun qd => ?_)
  have u4 := z_up_1 u3 qd (1, 0)
  have v4 := z_up_1 v3 qd (1, 0)
  have w4 := z_up_1 (z_up_r E3) qd (1, 0)
  have t40 := z_up_get w4 t30
  have t41 := z_up_get w4 t31
  have t42 : (z_E1 E3 qd (1, 0)).2.2[o + 73]? = some (1, 0) := z_E1_at l3
  have l4 : (z_E1 E3 qd (1, 0)).2.2.length = o + 74 := by rw [z_E1_len, l3]
  rw [l3]
  generalize z_E1 E3 qd (1, 0) = E4 at u4 v4 w4 t40 t41 t42 l4 ⊢
  refine z_dup e_X4_init_28 rfl ?_
  refine z_callIv (M' := M_X1_init) (As := []) (rest := [zo (o + 73), zo o]) e_X4_init_29 l_RX4_22 rfl rfl rfl rfl rfl (c_X1_init t42) (fun mq rq hq => ?_)
  obtain ⟨G, f, e2q, e3q⟩ := hq
  subst mq rq
  refine z_putr (fi := 2) e_X4_init_32 f_RX4_23 t40 rfl (Or.inr ⟨rfl, rfl, rfl, z_tab 163 (by decide +kernel) rfl⟩) rfl (fun b hb => by cases hb; omega) ?_
  refine z_aload_n e_X4_init_35 rfl ?_
  refine z_iconst e_X4_init_36 ?_
  refine z_putiN (fi := 3) e_X4_init_37 f_RX4_27 t40 rfl rfl (Or.inl rfl) rfl ?_
  refine z_aload_n e_X4_init_40 rfl ?_
  refine z_iconst e_X4_init_41 ?_
  refine z_putiU (fi := 4) e_X4_init_42 f_RX4_31 t40 rfl rfl (Or.inl rfl) ?_
  refine z_iconst e_X4_init_45 ?_
  refine z_istore_n (ls' := [some (zo o), some (zi 0)]) e_X4_init_46 rfl rfl rfl ?_
  refine loop47 _ 0 E4 _ _ _ _ rfl (by omega) (by omega) rfl rfl ⟨⟨l4, u4⟩, ⟨t40, t41, t42⟩, ?_, ?_, ?_, fun k k0 k1 => by omega, fun c hc => ?_⟩
  · simp [z_u, z_v]
  · simp [z_u, z_v]
  · refine z_S_up hS p_new_hd v4 (fun c c0 c1 => ?_)
    have n0 : c ≠ o := by omega
    have n1 : c ≠ o + 72 := by omega
    have n2 : c ≠ o + 73 := by omega
    simp [z_u, n0, n1, n2]
  · have n0 : c ≠ o := by omega
    have n1 : c ≠ o + 72 := by omega
    have n2 : c ≠ o + 73 := by omega
    have := f2 c (by omega)
    simp [z_u, n0, n1, n2, this.1, this.2]
