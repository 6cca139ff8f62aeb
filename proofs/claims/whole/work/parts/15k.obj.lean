set_option maxHeartbeats 1000000 in
set_option maxRecDepth 100000 in
theorem c_X4_undo {E : z_E} {mi : z_Mi} {mr : z_Mr} {o : Nat} {P : Int → Int} {n nx : Int} (hX : z_X E o mi mr P n nx) : z_mi M_X4_undo E [zo o] mi mr (fun x m r => (n = 0 → x = -2 ∧ m = mi ∧ r = mr) ∧ (n ≠ 0 → x = n - 1 ∧ z_Z E o mi mr (p_und n P) (n - 1) m r)) := by
  obtain ⟨⟨to, ta, tq, ro0, ro1, ro2, rok⟩, ⟨fo3, fo4, nb0, nb1, nb2, nb3⟩, hH, ⟨sg, hS⟩, hM⟩ := id hX
  obtain ⟨hc, hd, hr⟩ := id hS
  obtain ⟨t0, t1, t2, t3, t4, q0, q1, q2⟩ := id hc
  obtain ⟨d3, d4, d5, d6, d7, d8, u0, u1, u2, uk, uz⟩ := id hd
  obtain ⟨hw0, hw1, hh0, hh1, hf0, hf1, hf2, hr0, hr1, hc0, hc1, hp0, hp1, hk0, hk1, hi0, hi1, hkp, hP⟩ := id hH
  refine z_ofi (ls := [some (zo o)]) rfl (fun _ _ => trivial) ⟨rfl, rfl⟩ (Nat.le_of_ble_eq_true rfl) rfl ?_
  refine z_aload_n e_X4_undo_0 rfl ?_
  refine z_geti (fi := 4) (x := n) e_X4_undo_1 f_RX4_31 to rfl rfl (fo4) ?_
  refine z_if_ne e_X4_undo_4 ⟨by omega, by omega⟩ (fun h4_1 => ?_) (fun h4_1 => ?_)
  · obtain ⟨U, sgU, hU, hH2, hcU, hdU, hrU⟩ := z_X_prev hM (by omega)
    obtain ⟨xw0, xw1, xh0, xh1, xf0, xf1, xf2, xr0, xr1, xc0, xc1, xp0, xp1, xk0, xk1, xi0, xi1, xkp, xP⟩ := id hH2
    refine z_aload_n e_X4_undo_10 rfl ?_
    refine z_aload_n e_X4_undo_11 rfl ?_
    refine z_geti (fi := 3) (x := nx) e_X4_undo_12 f_RX4_27 to rfl rfl (fo3) ?_
    refine z_bipush e_X4_undo_15 (by decide +kernel) ?_
    refine z_iadd e_X4_undo_17 ?_
    refine z_iconst e_X4_undo_18 ?_
    refine z_isub e_X4_undo_19 ?_
    refine z_bipush e_X4_undo_20 (by decide +kernel) ?_
    refine z_irem e_X4_undo_22 (by omega) (by omega) ⟨by omega, by omega⟩ (by decide) ?_
    refine z_putiN (fi := 3) (f := (mi o)) e_X4_undo_23 f_RX4_27 to rfl rfl (Or.inl rfl) (rfl) ?_
    refine z_aload_n e_X4_undo_26 rfl ?_
    refine z_getr (fi := 0) (r := some (o + 1)) e_X4_undo_27 f_RX4_12 to rfl rfl (ro0) ?_
    refine z_aload_n e_X4_undo_30 rfl ?_
    refine z_aload_n e_X4_undo_31 rfl ?_
    refine z_geti (fi := 3) (x := (((nx + 8) - 1) % 8)) e_X4_undo_32 f_RX4_27 to rfl rfl ((congrFun (z_us _ _ _) _).trans (z_vs _ _ _)) ?_
    refine z_callVr (M' := M_X4_stateAt) (As := [zi (((nx + 8) - 1) % 8)]) (rest := [zo (o + 1)]) e_X4_undo_35 l_RX4_200 rfl rfl rfl rfl to ⟨_, _, rfl⟩ (c_X4_stateAt to ta ro1 (by omega) (by omega) (rok ((nx + 8 - 1) % 8) (by omega) (by omega))) (fun xq mq rq hq => ?_)
    obtain ⟨e1q, e2q, e3q⟩ := hq
    subst xq mq rq
    refine z_callVv (M' := M_X3_copyFrom) (As := [zo (o + 74 + 71 * (((nx + 8 - 1) % 8)).toNat)]) (rest := []) e_X4_undo_38 l_RX4_204 rfl rfl rfl rfl t0 ⟨_, _, rfl⟩ (e_X3_copyFrom hc (z_Sd_fr hd hk1 (fun c c0 c1 => z_un (by omega))) (z_Sr_m hr (by omega) (fun c c0 c1 => z_un (by omega))) hcU (z_Sd_fr hdU hH2.2.2.2.2.2.2.2.2.2.2.2.2.2.2.1 (fun c c0 c1 => z_un (by omega))) (z_Sr_m hrU (by omega) (fun c c0 c1 => z_un (by omega))) hH2 (by omega)) (fun m1 r1 hq => ?_)
    have hq2 := z_T_base hq (by omega) hH2
    obtain ⟨sgT, cT, dT, rT, hfT⟩ := id hq
    have hTo : m1 o = z_v (mi o) 3 ((nx + 8 - 1) % 8) := (hfT o (by omega)).1.trans (z_us _ _ _)
    refine z_aload_n e_X4_undo_41 rfl ?_
    refine z_dup e_X4_undo_42 rfl ?_
    refine z_geti (fi := 4) (x := n) e_X4_undo_43 f_RX4_31 to rfl rfl ((congrFun hTo _).trans ((z_vn (by decide)).trans fo4)) ?_
    refine z_iconst e_X4_undo_46 ?_
    refine z_isub e_X4_undo_47 ?_
    refine z_putiN (fi := 4) (f := (m1 o)) e_X4_undo_48 f_RX4_31 to rfl rfl (Or.inl rfl) (rfl) ?_
    refine z_aload_n e_X4_undo_51 rfl ?_
    refine z_geti (fi := 4) (x := (n - 1)) e_X4_undo_52 f_RX4_31 to rfl rfl ((congrFun (z_us _ _ _) _).trans (z_vs _ _ _)) ?_
    refine z_iret e_X4_undo_55 (Or.inl rfl) rfl rfl ⟨rfl, _, rfl, ?_⟩
    rw [hU] at hq2
    have hz := z_X_und (F := z_v (m1 o) 4 (n - 1)) hX (by omega) hq2 (by rw [z_vn (by decide), hTo, z_vs]; omega) (z_vs _ _ _)
    rw [z_uu] at hz
    exact ⟨fun q => absurd q (by omega), fun _ => ⟨rfl, ⟨_, hz.1⟩, hz.2⟩⟩
  · refine z_bipush e_X4_undo_7 (by decide +kernel) ?_
    refine z_iret e_X4_undo_9 (Or.inl rfl) rfl rfl ⟨rfl, _, rfl, ?_⟩
    exact ⟨fun _ => ⟨rfl, rfl, rfl⟩, fun q => absurd (by omega) q⟩
