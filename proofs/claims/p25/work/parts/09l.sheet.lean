set_option maxHeartbeats 1000000 in
set_option maxRecDepth 100000 in
theorem d_X3_rowAt {E : z_E} {mi : z_Mi} {mr : z_Mr} {s : Nat} {sg : Int → Nat} {P : Int → Int} {W n : Int} {R : Int → Int → Int} {k : Int} (hc : z_Sc E mr s) (hd : z_Sd mi s P) (hr : z_Sr E mi mr s sg W n R) (hW0 : 0 ≤ W) (hW : W ≤ 20) (hn : n ≤ 32) (h0 : 0 ≤ k) (h1 : k < 32) : z_mf M_X3_rowAt E [zo s, zi k] mi mr (fun x m r => x = sg k ∧ m = mi ∧ r = mr) := by
  obtain ⟨t0, t1, t2, t3, t4, q0, q1, q2⟩ := id hc
  obtain ⟨d3, d4, d5, d6, d7, d8, u0, u1, u2, uk, uz⟩ := id hd
  refine z_ofr (ls := [some (zo s), some (zi k)]) rfl (fun _ _ => trivial) ⟨rfl, rfl⟩ (Nat.le_of_ble_eq_true rfl) rfl ?_
  refine z_aload_n e_X3_rowAt_0 rfl ?_
  refine z_getr (fi := 0) (r := some (s + 1)) e_X3_rowAt_1 f_RX3_11 t0 rfl rfl (q0) ?_
  refine z_iload_n e_X3_rowAt_4 rfl ?_
  refine z_if_lt e_X3_rowAt_5 ⟨by omega, by omega⟩ (fun h5_1 => ?_) (fun h5_1 => ?_)
  · exfalso; omega
  · refine z_iload_n e_X3_rowAt_8 rfl ?_
    refine z_bipush e_X3_rowAt_9 (by decide +kernel) ?_
    refine z_icmp_ge e_X3_rowAt_11 ⟨by omega, by omega⟩ (by decide) (fun h11_2 => ?_) (fun h11_2 => ?_)
    · exfalso; omega
    · refine z_iload_n e_X3_rowAt_14 rfl ?_
      refine z_goto e_X3_rowAt_15 ?_
      refine z_aald (r := some (sg k)) e_X3_rowAt_19 t1 (by decide) (by decide) (by omega) (by omega) ((hr.1 k h0 h1).1) ?_
      refine z_aret e_X3_rowAt_20 ⟨_, rfl⟩ rfl rfl ⟨rfl, _, rfl, ?_⟩
      exact ⟨rfl, rfl, rfl⟩
set_option maxHeartbeats 1000000 in
set_option maxRecDepth 100000 in
theorem d_X3_unmarkAbove {E : z_E} {mi : z_Mi} {mr : z_Mr} {s : Nat} {sg : Int → Nat} {P : Int → Int} {W n : Int} {R : Int → Int → Int} {i : Int} (hc : z_Sc E mr s) (hd : z_Sd mi s P) (hr : z_Sr E mi mr s sg W n R) (hW0 : 0 ≤ W) (hW : W ≤ 20) (hn : n ≤ 32) (h0 : 0 ≤ i) (h1 : i ≤ 32) : z_mv M_X3_unmarkAbove E [zo s, zi i] mi mr (fun m r => ∃ sg' : Int → Nat, z_Sc E r s ∧ z_Sd m s P ∧ z_Sr E m r s sg' W n (fun k => if k = i - 1 then r_unw (R k) else R k) ∧ z_Fr s mi mr m r) := by
  obtain ⟨t0, t1, t2, t3, t4, q0, q1, q2⟩ := id hc
  obtain ⟨d3, d4, d5, d6, d7, d8, u0, u1, u2, uk, uz⟩ := id hd
  refine z_ofv (ls := [some (zo s), some (zi i)]) rfl (fun _ _ => trivial) ⟨rfl, rfl⟩ (Nat.le_of_ble_eq_true rfl) rfl ?_
  refine z_iload_n e_X3_unmarkAbove_0 rfl ?_
  refine z_if_le e_X3_unmarkAbove_1 ⟨by omega, by omega⟩ (fun h1_1 => ?_) (fun h1_1 => ?_)
  · refine z_ret e_X3_unmarkAbove_14 rfl rfl rfl ⟨rfl, rfl, ?_⟩
    exact ⟨sg, hc, hd, z_Sr_un0 hr (by omega), z_Fr_r s mi mr⟩
  · refine z_aload_n e_X3_unmarkAbove_4 rfl ?_
    refine z_iload_n e_X3_unmarkAbove_5 rfl ?_
    refine z_iconst e_X3_unmarkAbove_6 ?_
    refine z_isub e_X3_unmarkAbove_7 ?_
    refine z_callVr (M' := M_X3_rowAt) (As := [zi (i - 1)]) (rest := []) e_X3_unmarkAbove_8 l_RX3_56 rfl rfl rfl rfl t0 ⟨_, _, rfl⟩ (d_X3_rowAt hc hd hr hW0 hW hn (by omega) (by omega)) (fun xq mq rq hq => ?_)
    obtain ⟨e1q, e2q, e3q⟩ := hq
    subst xq mq rq
    refine z_callVv (M' := M_X2_unmark) (As := []) (rest := []) e_X3_unmarkAbove_11 l_RX3_115 rfl rfl rfl rfl (hr.1 (i - 1) (by omega) (by omega)).2.1.1 ⟨_, _, rfl⟩ (d_X2_unmark (hr.1 (i - 1) (by omega) (by omega)).2.1) (fun mq rq hq => ?_)
    obtain ⟨e2q, e3q⟩ := hq
    subst mq rq
    refine z_ret e_X3_unmarkAbove_14 rfl rfl rfl ⟨rfl, rfl, ?_⟩
    exact ⟨sg, hc, z_Sd_un hd hr (by omega) (by omega), z_Sr_un hr hn hW (by omega) (by omega), z_Fr_un hr (by omega) (by omega)⟩
