set_option maxHeartbeats 1000000 in
set_option maxRecDepth 100000 in
theorem d_X3_pushTopRow {E : z_E} {mi : z_Mi} {mr : z_Mr} {s : Nat} {sg : Int → Nat} {P : Int → Int} {W n : Int} {R : Int → Int → Int} (hc : z_Sc E mr s) (hd : z_Sd mi s P) (hr : z_Sr E mi mr s sg W n R) (hW0 : 0 ≤ W) (hW : W ≤ 20) (hn : n ≤ 32) (hnn : n = P 14 + P 1) (hh0 : 0 ≤ P 14) (hh1 : P 14 ≤ 24) (hl0 : 0 ≤ P 3) (hl1 : P 3 < P 1) (hh8 : P 1 ≤ 8) (h7 : P 7 ≤ 3) : z_mv M_X3_pushTopRow E [zo s] mi mr (fun m r => (P 14 < 24 → ∃ sg' : Int → Nat, z_Sc E r s ∧ z_Sd m s (z_v P 14 (P 14 + 1)) ∧ z_Sr E m r s sg' W (n + 1) ((fun k => if k = P 14 + P 3 + 1 then r_blank else (fun k => if k = P 14 + P 3 then r_unw (R k) else R k) (cy_i (P 14 + P 1) (P 14 + P 3 + 1) k))) ∧ z_Fr s mi mr m r) ∧ (¬ P 14 < 24 → ∃ sg' : Int → Nat, z_Sc E r s ∧ z_Sd m s P ∧ z_Sr E m r s sg' W n ((fun k => if k = P 14 + P 3 then r_blank else (fun k => if k = P 14 + P 3 then r_unw (R k) else R k) (cy_i 0 (P 14 + P 3) k))) ∧ z_Fr s mi mr m r)) := by
  obtain ⟨t0, t1, t2, t3, t4, q0, q1, q2⟩ := id hc
  obtain ⟨d3, d4, d5, d6, d7, d8, u0, u1, u2, uk, uz⟩ := id hd
  refine z_ofv (ls := [some (zo s), none]) rfl (fun _ _ => trivial) ⟨rfl, rfl⟩ (Nat.le_of_ble_eq_true rfl) rfl ?_
  refine z_aload_n e_X3_pushTopRow_0 rfl ?_
  refine z_geti (fi := 4) (x := (P 14)) e_X3_pushTopRow_1 f_RX3_32 t0 rfl rfl (d4) ?_
  refine z_aload_n e_X3_pushTopRow_4 rfl ?_
  refine z_geti (fi := 8) (x := (P 3)) e_X3_pushTopRow_5 f_RX3_44 t0 rfl rfl (d8) ?_
  refine z_iadd e_X3_pushTopRow_8 ?_
  refine z_istore_n (ls' := [some (zo s), some (zi ((P 14) + (P 3)))]) e_X3_pushTopRow_9 rfl rfl rfl ?_
  refine z_aload_n e_X3_pushTopRow_10 rfl ?_
  refine z_iload_n e_X3_pushTopRow_11 rfl ?_
  refine z_callVr (M' := M_X3_rowAt) (As := [zi ((P 14) + (P 3))]) (rest := []) e_X3_pushTopRow_12 l_RX3_56 rfl rfl rfl rfl t0 ⟨_, _, rfl⟩ (d_X3_rowAt hc hd hr hW0 hW hn (by omega) (by omega)) (fun xq mq rq hq => ?_)
  obtain ⟨e1q, e2q, e3q⟩ := hq
  subst xq mq rq
  refine z_callVv (M' := M_X2_unmark) (As := []) (rest := []) e_X3_pushTopRow_15 l_RX3_115 rfl rfl rfl rfl (hr.1 ((P 14) + (P 3)) (by omega) (by omega)).2.1.1 ⟨_, _, rfl⟩ (e_X2_unmark hc hd hr hW hn (k := ((P 14) + (P 3))) (by omega) (by omega)) (fun m1 r1 hq => ?_)
  obtain ⟨sg, hc, hd, hr, hf1⟩ := hq
  obtain ⟨t0, t1, t2, t3, t4, q0, q1, q2⟩ := id hc
  obtain ⟨d3, d4, d5, d6, d7, d8, u0, u1, u2, uk, uz⟩ := id hd
  refine z_aload_n e_X3_pushTopRow_18 rfl ?_
  refine z_geti (fi := 4) (x := (P 14)) e_X3_pushTopRow_19 f_RX3_32 t0 rfl rfl (d4) ?_
  refine z_bipush e_X3_pushTopRow_22 (by decide +kernel) ?_
  refine z_icmp_ge e_X3_pushTopRow_24 ⟨by omega, by omega⟩ (by decide) (fun h24_1 => ?_) (fun h24_1 => ?_)
  · refine z_aload_n e_X3_pushTopRow_56 rfl ?_
    refine z_iconst e_X3_pushTopRow_57 ?_
    refine z_iload_n e_X3_pushTopRow_58 rfl ?_
    refine z_callVv (M' := M_X3_carryBlank) (As := [zi 0, zi ((P 14) + (P 3))]) (rest := []) e_X3_pushTopRow_59 l_RX3_118 rfl rfl rfl rfl t0 ⟨_, _, rfl⟩ (d_X3_carryBlank hc hd hr hW0 hW (by omega) (by omega) (by omega) (by omega) hn (fun k k0 k1 kb => by unfold cy_i; split <;> (try split) <;> (try split) <;> omega)) (fun m2 r2 hq => ?_)
    obtain ⟨sg, hc, hd, hr, hf2⟩ := hq
    obtain ⟨t0, t1, t2, t3, t4, q0, q1, q2⟩ := id hc
    obtain ⟨d3, d4, d5, d6, d7, d8, u0, u1, u2, uk, uz⟩ := id hd
    refine z_ret e_X3_pushTopRow_62 rfl rfl rfl ⟨rfl, rfl, ?_⟩
    exact ⟨fun q => absurd q (by omega), fun _ => ⟨sg, hc, hd, hr, z_Fr_t hf1 hf2⟩⟩
  · refine z_aload_n e_X3_pushTopRow_27 rfl ?_
    refine z_aload_n e_X3_pushTopRow_28 rfl ?_
    refine z_geti (fi := 4) (x := (P 14)) e_X3_pushTopRow_29 f_RX3_32 t0 rfl rfl (d4) ?_
    refine z_aload_n e_X3_pushTopRow_32 rfl ?_
    refine z_geti (fi := 6) (x := (P 1)) e_X3_pushTopRow_33 f_RX3_38 t0 rfl rfl (d6) ?_
    refine z_iadd e_X3_pushTopRow_36 ?_
    refine z_iload_n e_X3_pushTopRow_37 rfl ?_
    refine z_iconst e_X3_pushTopRow_38 ?_
    refine z_iadd e_X3_pushTopRow_39 ?_
    refine z_callVv (M' := M_X3_carryBlank) (As := [zi ((P 14) + (P 1)), zi (((P 14) + (P 3)) + 1)]) (rest := []) e_X3_pushTopRow_40 l_RX3_118 rfl rfl rfl rfl t0 ⟨_, _, rfl⟩ (d_X3_carryBlank hc hd hr hW0 hW (by omega) (by omega) (by omega) (by omega) (show n + 1 ≤ 32 by omega) (fun k k0 k1 kb => by unfold cy_i; split <;> (try split) <;> (try split) <;> omega)) (fun m3 r3 hq => ?_)
    obtain ⟨sg, hc, hd, hr, hf3⟩ := hq
    obtain ⟨t0, t1, t2, t3, t4, q0, q1, q2⟩ := id hc
    obtain ⟨d3, d4, d5, d6, d7, d8, u0, u1, u2, uk, uz⟩ := id hd
    refine z_aload_n e_X3_pushTopRow_43 rfl ?_
    refine z_dup e_X3_pushTopRow_44 rfl ?_
    refine z_geti (fi := 4) (x := (P 14)) e_X3_pushTopRow_45 f_RX3_32 t0 rfl rfl (d4) ?_
    refine z_iconst e_X3_pushTopRow_48 ?_
    refine z_iadd e_X3_pushTopRow_49 ?_
    refine z_putiN (fi := 4) (f := (m3 s)) e_X3_pushTopRow_50 f_RX3_32 t0 rfl rfl (Or.inl rfl) (rfl) ?_
    refine z_goto e_X3_pushTopRow_53 ?_
    refine z_ret e_X3_pushTopRow_62 rfl rfl rfl ⟨rfl, rfl, ?_⟩
    exact ⟨fun _ => ⟨sg, hc, z_Sd_14 hd h7, z_Sr_s hr (by omega), z_Fr_t (z_Fr_t hf1 hf3) z_Fr_s⟩, fun q => absurd (show P 14 < 24 by omega) q⟩
