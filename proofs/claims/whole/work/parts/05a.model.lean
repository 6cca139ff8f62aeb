set_option maxHeartbeats 4000000 in
set_option maxRecDepth 100000 in
theorem c_X5_in {E : z_E} {mi : z_Mi} {mr : z_Mr} {v low high : Int} (h1 : z_R v) (h2 : z_R low) (h3 : z_R high) : z_mi M_X5_in E [zi v, zi low, zi high] mi mr (fun x m r => x = (if low ≤ v ∧ v ≤ high then 1 else 0) ∧ m = mi ∧ r = mr) := by
  refine z_ofi (ls := [some (zi v), some (zi low), some (zi high)]) rfl (fun _ _ => trivial) ⟨rfl, rfl⟩ (Nat.le_of_ble_eq_true rfl) rfl ?_
  refine z_iload_n e_X5_in_0 rfl ?_
  refine z_iload_n e_X5_in_1 rfl ?_
  refine z_icmp_lt e_X5_in_2 ⟨by omega, by omega⟩ ⟨by omega, by omega⟩ (fun h2_1 => ?_) (fun h2_1 => ?_)
  · refine z_iconst e_X5_in_14 ?_
    refine z_iret e_X5_in_15 (Or.inr ⟨rfl, Or.inl rfl⟩) rfl rfl ⟨rfl, _, rfl, ?_⟩
    exact ⟨(if_neg (by omega)).symm, rfl, rfl⟩
  · refine z_iload_n e_X5_in_5 rfl ?_
    refine z_iload_n e_X5_in_6 rfl ?_
    refine z_icmp_gt e_X5_in_7 ⟨by omega, by omega⟩ ⟨by omega, by omega⟩ (fun h7_2 => ?_) (fun h7_2 => ?_)
    · refine z_iconst e_X5_in_14 ?_
      refine z_iret e_X5_in_15 (Or.inr ⟨rfl, Or.inl rfl⟩) rfl rfl ⟨rfl, _, rfl, ?_⟩
      exact ⟨(if_neg (by omega)).symm, rfl, rfl⟩
    · refine z_iconst e_X5_in_10 ?_
      refine z_goto e_X5_in_11 ?_
      refine z_iret e_X5_in_15 (Or.inr ⟨rfl, Or.inr rfl⟩) rfl rfl ⟨rfl, _, rfl, ?_⟩
      exact ⟨(if_pos ⟨by omega, by omega⟩).symm, rfl, rfl⟩
set_option maxHeartbeats 4000000 in
set_option maxRecDepth 100000 in
theorem c_X5_at {E : z_E} {mi : z_Mi} {mr : z_Mr} {s c : Int} : z_mi M_X5_at E [zi s, zi c] mi mr (fun x m r => x = 15 + 22 * s + c ∧ m = mi ∧ r = mr) := by
  refine z_ofi (ls := [some (zi s), some (zi c)]) rfl (fun _ _ => trivial) ⟨rfl, rfl⟩ (Nat.le_of_ble_eq_true rfl) rfl ?_
  refine z_bipush e_X5_at_0 (by decide +kernel) ?_
  refine z_bipush e_X5_at_2 (by decide +kernel) ?_
  refine z_iload_n e_X5_at_4 rfl ?_
  refine z_imul e_X5_at_5 ?_
  refine z_iadd e_X5_at_6 ?_
  refine z_iload_n e_X5_at_7 rfl ?_
  refine z_iadd e_X5_at_8 ?_
  refine z_iret e_X5_at_9 (Or.inl rfl) rfl rfl ⟨rfl, _, rfl, ?_⟩
  exact ⟨rfl, rfl, rfl⟩
set_option maxHeartbeats 4000000 in
set_option maxRecDepth 100000 in
theorem c_X5_code {E : z_E} {mi : z_Mi} {mr : z_Mr} {o : Nat} {P : Int → Int} {s c : Int} (hM : z_MO E mr o) (h0 : 0 ≤ 15 + 22 * s + c) (h1 : 15 + 22 * s + c < 6471) : z_mi M_X5_code E [zo o, zi s, zi c] (z_u mi (o + 1) P) mr (fun x m r => x = P (15 + 22 * s + c) ∧ m = z_u mi (o + 1) P ∧ r = mr) := by
  obtain ⟨t0, t1, t2, t3, t4, t5, t6, t7, q0, q2, q3, q4, q5, q6, q7⟩ := id hM
  refine z_ofi (ls := [some (zo o), some (zi s), some (zi c)]) rfl (fun _ _ => trivial) ⟨rfl, rfl⟩ (Nat.le_of_ble_eq_true rfl) rfl ?_
  refine z_aload_n e_X5_code_0 rfl ?_
  refine z_getr (fi := 0) (r := some (o + 1)) e_X5_code_1 f_RX5_7 t0 rfl rfl (q0) ?_
  refine z_iload_n e_X5_code_4 rfl ?_
  refine z_iload_n e_X5_code_5 rfl ?_
  refine z_callSi (M' := M_X5_at) (As := [zi s, zi c]) (rest := [zo (o + 1)]) e_X5_code_6 l_RX5_40 rfl rfl rfl rfl (c_X5_at ) (fun xq mq rq hq => ?_)
  obtain ⟨e1q, e2q, e3q⟩ := hq
  subst xq mq rq
  refine z_iald (x := (P (15 + 22 * s + c))) e_X5_code_9 t1 (by decide) (by omega) (by omega) (congrFun (z_us _ _ _) _) ?_
  refine z_iret e_X5_code_10 (Or.inl rfl) rfl rfl ⟨rfl, _, rfl, ?_⟩
  exact ⟨rfl, rfl, rfl⟩
set_option maxHeartbeats 4000000 in
set_option maxRecDepth 100000 in
theorem c_X5_isIt {E : z_E} {mi : z_Mi} {mr : z_Mr} {o : Nat} {P : Int → Int} {s w : Int} (hM : z_MO E mr o) (h0 : 0 ≤ 15 + 22 * s + w) (h1 : 15 + 22 * s + w < 6471) (h2 : z_R (P (15 + 22 * s + w))) : z_mi M_X5_isIt E [zo o, zi s, zi w] (z_u mi (o + 1) P) mr (fun x m r => x = (if P (15 + 22 * s + w) = 1 then 1 else 0) ∧ m = z_u mi (o + 1) P ∧ r = mr) := by
  obtain ⟨t0, t1, t2, t3, t4, t5, t6, t7, q0, q2, q3, q4, q5, q6, q7⟩ := id hM
  refine z_ofi (ls := [some (zo o), some (zi s), some (zi w)]) rfl (fun _ _ => trivial) ⟨rfl, rfl⟩ (Nat.le_of_ble_eq_true rfl) rfl ?_
  refine z_aload_n e_X5_isIt_0 rfl ?_
  refine z_getr (fi := 0) (r := some (o + 1)) e_X5_isIt_1 f_RX5_7 t0 rfl rfl (q0) ?_
  refine z_iload_n e_X5_isIt_4 rfl ?_
  refine z_iload_n e_X5_isIt_5 rfl ?_
  refine z_callSi (M' := M_X5_at) (As := [zi s, zi w]) (rest := [zo (o + 1)]) e_X5_isIt_6 l_RX5_40 rfl rfl rfl rfl (c_X5_at ) (fun xq mq rq hq => ?_)
  obtain ⟨e1q, e2q, e3q⟩ := hq
  subst xq mq rq
  refine z_iald (x := (P (15 + 22 * s + w))) e_X5_isIt_9 t1 (by decide) (by omega) (by omega) (congrFun (z_us _ _ _) _) ?_
  refine z_iconst e_X5_isIt_10 ?_
  refine z_icmp_ne e_X5_isIt_11 ⟨by omega, by omega⟩ (by decide) (fun h11_1 => ?_) (fun h11_1 => ?_)
  · refine z_iconst e_X5_isIt_18 ?_
    refine z_iret e_X5_isIt_19 (Or.inr ⟨rfl, Or.inl rfl⟩) rfl rfl ⟨rfl, _, rfl, ?_⟩
    exact ⟨(if_neg (by assumption)).symm, rfl, rfl⟩
  · refine z_iconst e_X5_isIt_14 ?_
    refine z_goto e_X5_isIt_15 ?_
    refine z_iret e_X5_isIt_19 (Or.inr ⟨rfl, Or.inr rfl⟩) rfl rfl ⟨rfl, _, rfl, ?_⟩
    exact ⟨(if_pos (by assumption)).symm, rfl, rfl⟩
set_option maxHeartbeats 4000000 in
set_option maxRecDepth 100000 in
theorem c_X5_unwraps {E : z_E} {mi : z_Mi} {mr : z_Mr} {o : Nat} {P : Int → Int} {s : Int} (hM : z_MO E mr o) (h0 : 0 ≤ s) (h1 : s ≤ 292) : z_mv M_X5_unwraps E [zo o, zi s] (z_u mi (o + 1) P) mr (fun m r => m = z_u mi (o + 1) (p_upd P s (r_unw (p_row P s))) ∧ r = mr) := by
  obtain ⟨t0, t1, t2, t3, t4, t5, t6, t7, q0, q2, q3, q4, q5, q6, q7⟩ := id hM
  refine z_ofv (ls := [some (zo o), some (zi s)]) rfl (fun _ _ => trivial) ⟨rfl, rfl⟩ (Nat.le_of_ble_eq_true rfl) rfl ?_
  refine z_aload_n e_X5_unwraps_0 rfl ?_
  refine z_getr (fi := 0) (r := some (o + 1)) e_X5_unwraps_1 f_RX5_7 t0 rfl rfl (q0) ?_
  refine z_iload_n e_X5_unwraps_4 rfl ?_
  refine z_bipush e_X5_unwraps_5 (by decide +kernel) ?_
  refine z_callSi (M' := M_X5_at) (As := [zi s, zi 20]) (rest := [zo (o + 1)]) e_X5_unwraps_7 l_RX5_40 rfl rfl rfl rfl (c_X5_at ) (fun xq mq rq hq => ?_)
  obtain ⟨e1q, e2q, e3q⟩ := hq
  subst xq mq rq
  refine z_iconst e_X5_unwraps_10 ?_
  refine z_iastU e_X5_unwraps_11 t1 (by decide) (by omega) (by omega) ?_
  refine z_aload_n e_X5_unwraps_12 rfl ?_
  refine z_getr (fi := 0) (r := some (o + 1)) e_X5_unwraps_13 f_RX5_7 t0 rfl rfl (q0) ?_
  refine z_iload_n e_X5_unwraps_16 rfl ?_
  refine z_bipush e_X5_unwraps_17 (by decide +kernel) ?_
  refine z_callSi (M' := M_X5_at) (As := [zi s, zi 21]) (rest := [zo (o + 1)]) e_X5_unwraps_19 l_RX5_40 rfl rfl rfl rfl (c_X5_at ) (fun xq mq rq hq => ?_)
  obtain ⟨e1q, e2q, e3q⟩ := hq
  subst xq mq rq
  refine z_iconst e_X5_unwraps_22 ?_
  refine z_iastU e_X5_unwraps_23 t1 (by decide) (by omega) (by omega) ?_
  refine z_ret e_X5_unwraps_24 rfl rfl rfl ⟨rfl, rfl, ?_⟩
  refine ⟨congrArg _ ?_, rfl⟩
  rw [p_v_upd _ _ _ _ (by decide) (by decide), p_v_upd _ _ _ _ (by decide) (by decide), p_upd_upd]
  refine p_upd_ext (fun c h0 h1 => ?_)
  unfold z_v
  rw [p_row_upd _ _ _ h0 h1]
  unfold r_unw
  grind
set_option maxHeartbeats 4000000 in
set_option maxRecDepth 100000 in
theorem c_X5_blanks {E : z_E} {mi : z_Mi} {mr : z_Mr} {o : Nat} {P : Int → Int} {s : Int} (hM : z_MO E mr o) (h0 : 0 ≤ s) (h1 : s ≤ 292) : z_mv M_X5_blanks E [zo o, zi s] (z_u mi (o + 1) P) mr (fun m r => m = z_u mi (o + 1) (p_upd P s r_blank) ∧ r = mr) := by
  obtain ⟨t0, t1, t2, t3, t4, t5, t6, t7, q0, q2, q3, q4, q5, q6, q7⟩ := id hM
  refine z_ofv (ls := [some (zo o), some (zi s), none]) rfl (fun _ _ => trivial) ⟨rfl, rfl⟩ (Nat.le_of_ble_eq_true rfl) rfl ?_
  refine z_iconst e_X5_blanks_0 ?_
  refine z_istore_n (ls' := [some (zo o), some (zi s), some (zi 0)]) e_X5_blanks_1 rfl rfl rfl ?_
  have loop2 : ∀ (nn : Nat) (c : Int) (P1 : Int → Int), (20 - c).toNat = nn → (0 ≤ c ∧ c ≤ 20 ∧ P1 = p_upd P s (fun j => if j < c then 32 else p_row P s j)) → z_A M_X5_blanks E 0 0 2 [some (zo o), some (zi s), some (zi c)] [] (z_u mi (o + 1) P1) mr (z_qv E (fun m r => m = z_u mi (o + 1) (p_upd P s r_blank) ∧ r = mr)) := by
    intro nn
    induction nn using Nat.strongRecOn with
    | _ nn ih =>
      intro c P1 hmeas hinv
      obtain ⟨hc0, hc1, hP1⟩ := hinv
      refine z_iload_n e_X5_blanks_2 rfl ?_
      refine z_bipush e_X5_blanks_3 (by decide +kernel) ?_
      refine z_icmp_ge e_X5_blanks_5 ⟨by omega, by omega⟩ (by decide) (fun h5_1 => ?_) (fun h5_1 => ?_)
      · refine z_aload_n e_X5_blanks_26 rfl ?_
        refine z_iload_n e_X5_blanks_27 rfl ?_
        refine z_callVv (M' := M_X5_unwraps) (As := [zi s]) (rest := []) e_X5_blanks_28 l_RX5_44 rfl rfl rfl rfl t0 ⟨_, _, rfl⟩ (c_X5_unwraps hM (by omega) (by omega)) (fun mq rq hq => ?_)
        obtain ⟨e2q, e3q⟩ := hq
        subst mq rq
        refine z_ret e_X5_blanks_31 rfl rfl rfl ⟨rfl, rfl, ?_⟩
        refine ⟨congrArg _ ?_, rfl⟩
        rw [hP1, p_upd_upd]
        refine p_upd_ext (fun j h0 h1 => ?_)
        unfold r_unw r_blank
        rw [p_row_upd _ _ _ h0 h1]
        grind
      · refine z_aload_n e_X5_blanks_8 rfl ?_
        refine z_getr (fi := 0) (r := some (o + 1)) e_X5_blanks_9 f_RX5_7 t0 rfl rfl (q0) ?_
        refine z_iload_n e_X5_blanks_12 rfl ?_
        refine z_iload_n e_X5_blanks_13 rfl ?_
        refine z_callSi (M' := M_X5_at) (As := [zi s, zi c]) (rest := [zo (o + 1)]) e_X5_blanks_14 l_RX5_40 rfl rfl rfl rfl (c_X5_at ) (fun xq mq rq hq => ?_)
        obtain ⟨e1q, e2q, e3q⟩ := hq
        subst xq mq rq
        refine z_bipush e_X5_blanks_17 (by decide +kernel) ?_
        refine z_iastU e_X5_blanks_19 t1 (by decide) (by omega) (by omega) ?_
        refine z_iinc (y := (c + 1)) (ls' := [some (zo o), some (zi s), some (zi (c + 1))]) e_X5_blanks_20 rfl rfl rfl rfl rfl ?_
        refine z_goto e_X5_blanks_23 ?_
        exact ih _ (by omega) (c + 1) (z_v P1 (15 + 22 * s + c) 32) rfl (⟨by omega, by omega, by rw [p_v_upd _ _ _ _ (by omega) (by omega), hP1, p_upd_upd]; exact p_upd_ext (fun j h0 h1 => by unfold z_v; rw [p_row_upd _ _ _ h0 h1]; grind)⟩)
  exact loop2 _ 0 P rfl (⟨by omega, by omega, p_upd_eq (fun c h0 h1 => if_neg (by omega))⟩)
set_option maxHeartbeats 4000000 in
set_option maxRecDepth 100000 in
theorem c_X5_copies {E : z_E} {mi : z_Mi} {mr : z_Mr} {o : Nat} {P : Int → Int} {s t : Int} (hM : z_MO E mr o) (h0 : 0 ≤ s) (h1 : s ≤ 292) (h2 : 0 ≤ t) (h3 : t ≤ 292) (h4 : s ≠ t) : z_mv M_X5_copies E [zo o, zi s, zi t] (z_u mi (o + 1) P) mr (fun m r => m = z_u mi (o + 1) (p_upd P t (p_row P s)) ∧ r = mr) := by
  obtain ⟨t0, t1, t2, t3, t4, t5, t6, t7, q0, q2, q3, q4, q5, q6, q7⟩ := id hM
  refine z_ofv (ls := [some (zo o), some (zi s), some (zi t), none]) rfl (fun _ _ => trivial) ⟨rfl, rfl⟩ (Nat.le_of_ble_eq_true rfl) rfl ?_
  refine z_iconst e_X5_copies_0 ?_
  refine z_istore_n (ls' := [some (zo o), some (zi s), some (zi t), some (zi 0)]) e_X5_copies_1 rfl rfl rfl ?_
  have loop2 : ∀ (nn : Nat) (c : Int) (P1 : Int → Int), (22 - c).toNat = nn → (0 ≤ c ∧ c ≤ 22 ∧ P1 = p_upd P t (fun j => if j < c then p_row P s j else p_row P t j)) → z_A M_X5_copies E 0 0 2 [some (zo o), some (zi s), some (zi t), some (zi c)] [] (z_u mi (o + 1) P1) mr (z_qv E (fun m r => m = z_u mi (o + 1) (p_upd P t (p_row P s)) ∧ r = mr)) := by
    intro nn
    induction nn using Nat.strongRecOn with
    | _ nn ih =>
      intro c P1 hmeas hinv
      obtain ⟨hc0, hc1, hP1⟩ := hinv
      refine z_iload_n e_X5_copies_2 rfl ?_
      refine z_bipush e_X5_copies_3 (by decide +kernel) ?_
      refine z_icmp_ge e_X5_copies_5 ⟨by omega, by omega⟩ (by decide) (fun h5_1 => ?_) (fun h5_1 => ?_)
      · refine z_ret e_X5_copies_34 rfl rfl rfl ⟨rfl, rfl, ?_⟩
        refine ⟨congrArg _ ?_, rfl⟩
        rw [hP1]
        exact p_upd_ext (fun j h0 h1 => if_pos (by omega))
      · refine z_aload_n e_X5_copies_8 rfl ?_
        refine z_getr (fi := 0) (r := some (o + 1)) e_X5_copies_9 f_RX5_7 t0 rfl rfl (q0) ?_
        refine z_iload_n e_X5_copies_12 rfl ?_
        refine z_iload_n e_X5_copies_13 rfl ?_
        refine z_callSi (M' := M_X5_at) (As := [zi t, zi c]) (rest := [zo (o + 1)]) e_X5_copies_14 l_RX5_40 rfl rfl rfl rfl (c_X5_at ) (fun xq mq rq hq => ?_)
        obtain ⟨e1q, e2q, e3q⟩ := hq
        subst xq mq rq
        refine z_aload_n e_X5_copies_17 rfl ?_
        refine z_getr (fi := 0) (r := some (o + 1)) e_X5_copies_18 f_RX5_7 t0 rfl rfl (q0) ?_
        refine z_iload_n e_X5_copies_21 rfl ?_
        refine z_iload_n e_X5_copies_22 rfl ?_
        refine z_callSi (M' := M_X5_at) (As := [zi s, zi c]) (rest := [zo (o + 1), zi (15 + 22 * t + c), zo (o + 1)]) e_X5_copies_23 l_RX5_40 rfl rfl rfl rfl (c_X5_at ) (fun xq mq rq hq => ?_)
        obtain ⟨e1q, e2q, e3q⟩ := hq
        subst xq mq rq
        refine z_iald (x := (P1 (15 + 22 * s + c))) e_X5_copies_26 t1 (by decide) (by omega) (by omega) (congrFun (z_us _ _ _) _) ?_
        refine z_iastU e_X5_copies_27 t1 (by decide) (by omega) (by omega) ?_
        refine z_iinc (y := (c + 1)) (ls' := [some (zo o), some (zi s), some (zi t), some (zi (c + 1))]) e_X5_copies_28 rfl rfl rfl rfl rfl ?_
        refine z_goto e_X5_copies_31 ?_
        exact ih _ (by omega) (c + 1) (z_v P1 (15 + 22 * t + c) (P1 (15 + 22 * s + c))) rfl (⟨by omega, by omega, by have e1 : P1 (15 + 22 * s + c) = p_row P s c := (by rw [hP1]; exact p_upd_out _ _ (by omega)); rw [e1, p_v_upd _ _ _ _ (by omega) (by omega), hP1, p_upd_upd]; exact p_upd_ext (fun j h0 h1 => by unfold z_v; rw [p_row_upd _ _ _ h0 h1]; grind)⟩)
  exact loop2 _ 0 P rfl (⟨by omega, by omega, p_upd_eq (fun c h0 h1 => if_neg (by omega))⟩)
set_option maxHeartbeats 4000000 in
set_option maxRecDepth 100000 in
theorem c_X5_isWide {E : z_E} {mi : z_Mi} {mr : z_Mr} {c : Int} (h1 : z_R c) : z_mi M_X5_isWide E [zi c] mi mr (fun x m r => x = (if 65 ≤ c ∧ c ≤ 90 then 1 else 0) ∧ m = mi ∧ r = mr) := by
  refine z_ofi (ls := [some (zi c)]) rfl (fun _ _ => trivial) ⟨rfl, rfl⟩ (Nat.le_of_ble_eq_true rfl) rfl ?_
  refine z_iload_n e_X5_isWide_0 rfl ?_
  refine z_bipush e_X5_isWide_1 (by decide +kernel) ?_
  refine z_bipush e_X5_isWide_3 (by decide +kernel) ?_
  refine z_callSi (M' := M_X5_in) (As := [zi c, zi 65, zi 90]) (rest := []) e_X5_isWide_5 l_RX5_47 rfl rfl rfl rfl (c_X5_in ⟨by omega, by omega⟩ ⟨by omega, by omega⟩ ⟨by omega, by omega⟩) (fun xq mq rq hq => ?_)
  obtain ⟨e1q, e2q, e3q⟩ := hq
  subst xq mq rq
  refine z_iret e_X5_isWide_8 (Or.inr ⟨rfl, by omega⟩) rfl rfl ⟨rfl, _, rfl, ?_⟩
  exact ⟨rfl, rfl, rfl⟩
set_option maxHeartbeats 4000000 in
set_option maxRecDepth 100000 in
theorem c_X5_isRight {E : z_E} {mi : z_Mi} {mr : z_Mr} {c : Int} (h1 : z_R c) : z_mi M_X5_isRight E [zi c] mi mr (fun x m r => x = (if 128 ≤ c then 1 else 0) ∧ m = mi ∧ r = mr) := by
  refine z_ofi (ls := [some (zi c)]) rfl (fun _ _ => trivial) ⟨rfl, rfl⟩ (Nat.le_of_ble_eq_true rfl) rfl ?_
  refine z_iload_n e_X5_isRight_0 rfl ?_
  refine z_sipush e_X5_isRight_1 (by decide +kernel) ?_
  refine z_icmp_lt e_X5_isRight_4 ⟨by omega, by omega⟩ (by decide) (fun h4_1 => ?_) (fun h4_1 => ?_)
  · refine z_iconst e_X5_isRight_11 ?_
    refine z_iret e_X5_isRight_12 (Or.inr ⟨rfl, Or.inl rfl⟩) rfl rfl ⟨rfl, _, rfl, ?_⟩
    exact ⟨(if_neg (by omega)).symm, rfl, rfl⟩
  · refine z_iconst e_X5_isRight_7 ?_
    refine z_goto e_X5_isRight_8 ?_
    refine z_iret e_X5_isRight_12 (Or.inr ⟨rfl, Or.inr rfl⟩) rfl rfl ⟨rfl, _, rfl, ?_⟩
    exact ⟨(if_pos (by omega)).symm, rfl, rfl⟩
