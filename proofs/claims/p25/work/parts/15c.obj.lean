set_option maxHeartbeats 1000000 in
set_option maxRecDepth 100000 in
theorem c_X4_isControl {E : z_E} {mi : z_Mi} {mr : z_Mr} {v : Int} (h1 : z_R v) : z_mi M_X4_isControl E [zi v] mi mr (fun x m r => x = (if (8 ≤ v ∧ v ≤ 10) ∨ v = 13 then 1 else 0) ∧ m = mi ∧ r = mr) := by
  refine z_ofi (ls := [some (zi v)]) rfl (fun _ _ => trivial) ⟨rfl, rfl⟩ (Nat.le_of_ble_eq_true rfl) rfl ?_
  refine z_iload_n e_X4_isControl_0 rfl ?_
  refine z_bipush e_X4_isControl_1 (by decide +kernel) ?_
  refine z_icmp_eq e_X4_isControl_3 ⟨by omega, by omega⟩ (by decide) (fun h3_1 => ?_) (fun h3_1 => ?_)
  · refine z_iconst e_X4_isControl_24 ?_
    refine z_goto e_X4_isControl_25 ?_
    refine z_iret e_X4_isControl_29 (Or.inr ⟨rfl, Or.inr rfl⟩) rfl rfl ⟨rfl, _, rfl, ?_⟩
    exact ⟨(if_pos (by omega)).symm, rfl, rfl⟩
  · refine z_iload_n e_X4_isControl_6 rfl ?_
    refine z_bipush e_X4_isControl_7 (by decide +kernel) ?_
    refine z_icmp_eq e_X4_isControl_9 ⟨by omega, by omega⟩ (by decide) (fun h9_2 => ?_) (fun h9_2 => ?_)
    · refine z_iconst e_X4_isControl_24 ?_
      refine z_goto e_X4_isControl_25 ?_
      refine z_iret e_X4_isControl_29 (Or.inr ⟨rfl, Or.inr rfl⟩) rfl rfl ⟨rfl, _, rfl, ?_⟩
      exact ⟨(if_pos (by omega)).symm, rfl, rfl⟩
    · refine z_iload_n e_X4_isControl_12 rfl ?_
      refine z_bipush e_X4_isControl_13 (by decide +kernel) ?_
      refine z_icmp_eq e_X4_isControl_15 ⟨by omega, by omega⟩ (by decide) (fun h15_3 => ?_) (fun h15_3 => ?_)
      · refine z_iconst e_X4_isControl_24 ?_
        refine z_goto e_X4_isControl_25 ?_
        refine z_iret e_X4_isControl_29 (Or.inr ⟨rfl, Or.inr rfl⟩) rfl rfl ⟨rfl, _, rfl, ?_⟩
        exact ⟨(if_pos (by omega)).symm, rfl, rfl⟩
      · refine z_iload_n e_X4_isControl_18 rfl ?_
        refine z_bipush e_X4_isControl_19 (by decide +kernel) ?_
        refine z_icmp_ne e_X4_isControl_21 ⟨by omega, by omega⟩ (by decide) (fun h21_4 => ?_) (fun h21_4 => ?_)
        · refine z_iconst e_X4_isControl_28 ?_
          refine z_iret e_X4_isControl_29 (Or.inr ⟨rfl, Or.inl rfl⟩) rfl rfl ⟨rfl, _, rfl, ?_⟩
          exact ⟨(if_neg (by omega)).symm, rfl, rfl⟩
        · refine z_iconst e_X4_isControl_24 ?_
          refine z_goto e_X4_isControl_25 ?_
          refine z_iret e_X4_isControl_29 (Or.inr ⟨rfl, Or.inr rfl⟩) rfl rfl ⟨rfl, _, rfl, ?_⟩
          exact ⟨(if_pos (by omega)).symm, rfl, rfl⟩
set_option maxHeartbeats 1000000 in
set_option maxRecDepth 100000 in
theorem c_X4_isWidth {E : z_E} {mi : z_Mi} {mr : z_Mr} {v : Int} (h1 : z_R v) : z_mi M_X4_isWidth E [zi v] mi mr (fun x m r => x = (if 4 ≤ v ∧ v ≤ 20 then 1 else 0) ∧ m = mi ∧ r = mr) := by
  refine z_ofi (ls := [some (zi v)]) rfl (fun _ _ => trivial) ⟨rfl, rfl⟩ (Nat.le_of_ble_eq_true rfl) rfl ?_
  refine z_iload_n e_X4_isWidth_0 rfl ?_
  refine z_iconst e_X4_isWidth_1 ?_
  refine z_icmp_lt e_X4_isWidth_2 ⟨by omega, by omega⟩ (by decide) (fun h2_1 => ?_) (fun h2_1 => ?_)
  · refine z_iconst e_X4_isWidth_15 ?_
    refine z_iret e_X4_isWidth_16 (Or.inr ⟨rfl, Or.inl rfl⟩) rfl rfl ⟨rfl, _, rfl, ?_⟩
    exact ⟨(if_neg (by omega)).symm, rfl, rfl⟩
  · refine z_iload_n e_X4_isWidth_5 rfl ?_
    refine z_bipush e_X4_isWidth_6 (by decide +kernel) ?_
    refine z_icmp_gt e_X4_isWidth_8 ⟨by omega, by omega⟩ (by decide) (fun h8_2 => ?_) (fun h8_2 => ?_)
    · refine z_iconst e_X4_isWidth_15 ?_
      refine z_iret e_X4_isWidth_16 (Or.inr ⟨rfl, Or.inl rfl⟩) rfl rfl ⟨rfl, _, rfl, ?_⟩
      exact ⟨(if_neg (by omega)).symm, rfl, rfl⟩
    · refine z_iconst e_X4_isWidth_11 ?_
      refine z_goto e_X4_isWidth_12 ?_
      refine z_iret e_X4_isWidth_16 (Or.inr ⟨rfl, Or.inr rfl⟩) rfl rfl ⟨rfl, _, rfl, ?_⟩
      exact ⟨(if_pos (by omega)).symm, rfl, rfl⟩
set_option maxHeartbeats 1000000 in
set_option maxRecDepth 100000 in
theorem c_X4_stateAt {E : z_E} {mi : z_Mi} {mr : z_Mr} {o a : Nat} {i : Int} (to : E.2.2[o]? = some (4, 0)) (ta : E.2.2[o + 72]? = some (14, 8)) (ro1 : mr o 1 = some (o + 72)) (h0 : 0 ≤ i) (h1 : i < 8) (hk : mr (o + 72) i = some a) : z_mf M_X4_stateAt E [zo o, zi i] mi mr (fun x m r => x = a ∧ m = mi ∧ r = mr) := by
  refine z_ofr (ls := [some (zo o), some (zi i)]) rfl (fun _ _ => trivial) ⟨rfl, rfl⟩ (Nat.le_of_ble_eq_true rfl) rfl ?_
  refine z_iload_n e_X4_stateAt_0 rfl ?_
  refine z_if_lt e_X4_stateAt_1 ⟨by omega, by omega⟩ (fun h1_1 => ?_) (fun h1_1 => ?_)
  · exfalso; omega
  · refine z_iload_n e_X4_stateAt_4 rfl ?_
    refine z_aload_n e_X4_stateAt_5 rfl ?_
    refine z_getr (fi := 1) (r := some (o + 72)) e_X4_stateAt_6 f_RX4_16 to rfl rfl (ro1) ?_
    refine z_alen e_X4_stateAt_9 ta (by decide) ?_
    refine z_icmp_ge e_X4_stateAt_10 ⟨by omega, by omega⟩ ⟨by omega, by omega⟩ (fun h10_2 => ?_) (fun h10_2 => ?_)
    · exfalso; omega
    · refine z_aload_n e_X4_stateAt_13 rfl ?_
      refine z_getr (fi := 1) (r := some (o + 72)) e_X4_stateAt_14 f_RX4_16 to rfl rfl (ro1) ?_
      refine z_iload_n e_X4_stateAt_17 rfl ?_
      refine z_aald (r := some a) e_X4_stateAt_18 ta (by decide) (by decide) (by omega) (by omega) (hk) ?_
      refine z_goto e_X4_stateAt_19 ?_
      refine z_aret e_X4_stateAt_26 ⟨_, rfl⟩ rfl rfl ⟨rfl, _, rfl, ?_⟩
      exact ⟨rfl, rfl, rfl⟩
set_option maxHeartbeats 1000000 in
set_option maxRecDepth 100000 in
theorem c_X4_remember {E : z_E} {mi : z_Mi} {mr : z_Mr} {o : Nat} {P : Int → Int} {n nx : Int} (hX : z_X E o mi mr P n nx) : z_mf M_X4_remember E [zo o] mi mr (fun x m r => x = o + 74 + 71 * (nx).toNat ∧ z_X E o m r (p_rec n P) (if n < 8 then n + 1 else 8) ((nx + 1) % 8) ∧ z_S E m r (o + 74 + 71 * (nx).toNat) (p_rec n P) ∧ z_Xf o mi mr m r) := by
  obtain ⟨⟨to, ta, tq, ro0, ro1, ro2, rok⟩, ⟨fo3, fo4, nb0, nb1, nb2, nb3⟩, hH, ⟨sg, hS⟩, hM⟩ := id hX
  obtain ⟨hc, hd, hr⟩ := id hS
  obtain ⟨t0, t1, t2, t3, t4, q0, q1, q2⟩ := id hc
  obtain ⟨d3, d4, d5, d6, d7, d8, u0, u1, u2, uk, uz⟩ := id hd
  obtain ⟨hw0, hw1, hh0, hh1, hf0, hf1, hf2, hr0, hr1, hc0, hc1, hp0, hp1, hk0, hk1, hi0, hi1, hkp, hP⟩ := id hH
  obtain ⟨D, hDH, sgD, hcD, hdD, hrD⟩ := hM.1 nx (by omega) (by omega)
  refine z_ofr (ls := [some (zo o), none]) rfl (fun _ _ => trivial) ⟨rfl, rfl⟩ (Nat.le_of_ble_eq_true rfl) rfl ?_
  refine z_aload_n e_X4_remember_0 rfl ?_
  refine z_aload_n e_X4_remember_1 rfl ?_
  refine z_geti (fi := 3) (x := nx) e_X4_remember_2 f_RX4_27 to rfl rfl (fo3) ?_
  refine z_callVr (M' := M_X4_stateAt) (As := [zi nx]) (rest := []) e_X4_remember_5 l_RX4_200 rfl rfl rfl rfl to ⟨_, _, rfl⟩ (c_X4_stateAt to ta ro1 (by omega) (by omega) (rok nx (by omega) (by omega))) (fun xq mq rq hq => ?_)
  obtain ⟨e1q, e2q, e3q⟩ := hq
  subst xq mq rq
  refine z_astore_n (ls' := [some (zo o), some (zo (o + 74 + 71 * (nx).toNat))]) e_X4_remember_8 rfl rfl rfl ?_
  refine z_aload_n e_X4_remember_9 rfl ?_
  refine z_aload_n e_X4_remember_10 rfl ?_
  refine z_getr (fi := 0) (r := some (o + 1)) e_X4_remember_11 f_RX4_12 to rfl rfl (ro0) ?_
  refine z_callVv (M' := M_X3_copyFrom) (As := [zo (o + 1)]) (rest := []) e_X4_remember_14 l_RX4_204 rfl rfl rfl rfl hcD.1 ⟨_, _, rfl⟩ (e_X3_copyFrom hcD hdD hrD hc hd hr hH (by omega)) (fun m1 r1 hq => ?_)
  obtain ⟨sgT, cT, dT, rT, hfT⟩ := id hq
  have hTo := (hfT o (by omega)).1
  refine z_aload_n e_X4_remember_17 rfl ?_
  refine z_aload_n e_X4_remember_18 rfl ?_
  refine z_geti (fi := 3) (x := nx) e_X4_remember_19 f_RX4_27 to rfl rfl ((congrFun hTo _).trans fo3) ?_
  refine z_iconst e_X4_remember_22 ?_
  refine z_iadd e_X4_remember_23 ?_
  refine z_bipush e_X4_remember_24 (by decide +kernel) ?_
  refine z_irem e_X4_remember_26 (by omega) (by omega) ⟨by omega, by omega⟩ (by decide) ?_
  refine z_putiN (fi := 3) (f := (m1 o)) e_X4_remember_27 f_RX4_27 to rfl rfl (Or.inl rfl) (rfl) ?_
  refine z_aload_n e_X4_remember_30 rfl ?_
  refine z_bipush e_X4_remember_31 (by decide +kernel) ?_
  refine z_aload_n e_X4_remember_33 rfl ?_
  refine z_geti (fi := 4) (x := n) e_X4_remember_34 f_RX4_31 to rfl rfl ((congrFun (z_us _ _ _) _).trans ((z_vn (by decide)).trans ((congrFun hTo _).trans fo4))) ?_
  refine z_iconst e_X4_remember_37 ?_
  refine z_iadd e_X4_remember_38 ?_
  refine z_min (x := (if (n + 1) < 8 then (n + 1) else 8)) e_X4_remember_39 mm_RX4_116 rfl rfl (by decide) ⟨by omega, by omega⟩ (rfl) ?_
  refine z_putiU (fi := 4) e_X4_remember_42 f_RX4_31 to rfl rfl (Or.inl rfl) ?_
  refine z_aload_n e_X4_remember_45 rfl ?_
  refine z_aret e_X4_remember_46 ⟨_, rfl⟩ rfl rfl ⟨rfl, _, rfl, ?_⟩
  have hz := z_X_rec (F := z_v (z_v (m1 o) 3 ((nx + 1) % 8)) 4 (if n + 1 < 8 then n + 1 else 8)) hX hq (fun k k3 k4 => (z_vn k4).trans ((z_vn k3).trans (congrFun hTo _))) ((z_vn (by decide)).trans (z_vs _ _ _)) (by rw [z_vs]; split <;> split <;> omega)
  exact ⟨rfl, hz.1, hz.2.1, hz.2.2⟩
