set_option maxHeartbeats 4000000 in
set_option maxRecDepth 100000 in
theorem c_X5_records {E : z_E} {mi : z_Mi} {mr : z_Mr} {o : Nat} {P F : Int → Int} (hM : z_MO E mr o) (h0 : 0 ≤ F 1) (h1 : F 1 ≤ 8) : z_mv M_X5_records E [zo o] (z_u (z_u mi o F) (o + 1) P) mr (fun m r => m = z_u (z_u mi o (f_rec F)) (o + 1) (p_rec (F 1) P) ∧ r = mr) := by
  obtain ⟨t0, t1, t2, t3, t4, t5, t6, t7, q0, q2, q3, q4, q5, q6, q7⟩ := id hM
  refine z_ofv (ls := [some (zo o), none]) rfl (fun _ _ => trivial) ⟨rfl, rfl⟩ (Nat.le_of_ble_eq_true rfl) rfl ?_
  have join52_0 : ∀ (F1 : Int → Int) (P1 : Int → Int), (F1 1 = (if F 1 = 8 then 7 else F 1) ∧ (∀ j, j ≠ 1 → F1 j = F j) ∧ P1 = (if F 1 = 8 then (fun j => if 719 ≤ j ∧ j < 5752 then P (j + 719) else P j) else P)) → z_A M_X5_records E 0 0 52 [some (zo o), none] [] (z_u (z_u mi o F1) (o + 1) P1) mr (z_qv E (fun m r => m = z_u (z_u mi o (f_rec F)) (o + 1) (p_rec (F 1) P) ∧ r = mr)) := by
    intro F1 P1 hj
    obtain ⟨hF1, hF2, hP1⟩ := hj
    have hn0 : 0 ≤ F1 1 := by rw [hF1]; split <;> omega
    have hn1 : F1 1 ≤ 7 := by rw [hF1]; split <;> omega
    refine z_aload_n e_X5_records_52 rfl ?_
    refine z_dup e_X5_records_53 rfl ?_
    refine z_geti (fi := 1) (x := (F1 1)) e_X5_records_54 f_RX5_36 t0 rfl rfl (congrFun (((z_un (by omega)).trans (z_us _ _ _))) _) ?_
    refine z_iconst e_X5_records_57 ?_
    refine z_iadd e_X5_records_58 ?_
    refine z_putiX (fi := 1) (f := F1) e_X5_records_59 f_RX5_36 t0 rfl rfl (Or.inl rfl) (((z_un (by omega)).trans (z_us _ _ _))) (z_ux (by omega) (z_uu _ _ _ _)) ?_
    refine z_iconst e_X5_records_62 ?_
    refine z_istore_n (ls' := [some (zo o), some (zi 0)]) e_X5_records_63 rfl rfl rfl ?_
    have loop64 : ∀ (nn : Nat) (k : Int) (P2 : Int → Int), (719 - k).toNat = nn → (0 ≤ k ∧ k ≤ 719 ∧ P2 = (fun j => if 719 * (F1 1 + 1) ≤ j ∧ j < 719 * (F1 1 + 1) + k then P1 (j - 719 * (F1 1 + 1)) else P1 j)) → z_A M_X5_records E 0 0 64 [some (zo o), some (zi k)] [] (z_u (z_u mi o (z_v F1 1 ((F1 1) + 1))) (o + 1) P2) mr (z_qv E (fun m r => m = z_u (z_u mi o (f_rec F)) (o + 1) (p_rec (F 1) P) ∧ r = mr)) := by
      intro nn
      induction nn using Nat.strongRecOn with
      | _ nn ih =>
        intro k P2 hmeas hinv
        obtain ⟨hc0, hc1, hP2⟩ := hinv
        refine z_iload_n e_X5_records_64 rfl ?_
        refine z_sipush e_X5_records_65 (by decide +kernel) ?_
        refine z_icmp_ge e_X5_records_68 ⟨by omega, by omega⟩ (by decide) (fun h68_2 => ?_) (fun h68_2 => ?_)
        · refine z_ret e_X5_records_98 rfl rfl rfl ⟨rfl, rfl, ?_⟩
          have e1 : z_v F1 1 (F1 1 + 1) = f_rec F := by
            funext j; unfold f_rec z_v
            by_cases hj : j = 1
            · rw [if_pos hj, if_pos hj, hF1]; split <;> omega
            · rw [if_neg hj, if_neg hj]; exact hF2 j hj
          have e2 : P2 = p_rec (F 1) P := by
            rw [hP2, hP1, hF1]; funext j; unfold p_rec
            by_cases h8 : F 1 = 8
            · simp only [h8, if_true]; grind
            · simp only [h8, if_false]; grind
          rw [e1, e2]
          exact ⟨rfl, rfl⟩
        · refine z_aload_n e_X5_records_71 rfl ?_
          refine z_getr (fi := 0) (r := some (o + 1)) e_X5_records_72 f_RX5_7 t0 rfl rfl (q0) ?_
          refine z_sipush e_X5_records_75 (by decide +kernel) ?_
          refine z_aload_n e_X5_records_78 rfl ?_
          refine z_geti (fi := 1) (x := ((F1 1) + 1)) e_X5_records_79 f_RX5_36 t0 rfl rfl ((congrFun (((z_un (by omega)).trans (z_us _ _ _))) _).trans (z_vs _ _ _)) ?_
          refine z_imul e_X5_records_82 ?_
          refine z_iload_n e_X5_records_83 rfl ?_
          refine z_iadd e_X5_records_84 ?_
          refine z_aload_n e_X5_records_85 rfl ?_
          refine z_getr (fi := 0) (r := some (o + 1)) e_X5_records_86 f_RX5_7 t0 rfl rfl (q0) ?_
          refine z_iload_n e_X5_records_89 rfl ?_
          refine z_iald (x := (P2 k)) e_X5_records_90 t1 (by decide) (by omega) (by omega) (congrFun (z_us _ _ _) _) ?_
          refine z_iastU e_X5_records_91 t1 (by decide) (by omega) (by omega) ?_
          refine z_iinc (y := (k + 1)) (ls' := [some (zo o), some (zi (k + 1))]) e_X5_records_92 rfl rfl rfl rfl rfl ?_
          refine z_goto e_X5_records_95 ?_
          exact ih _ (by omega) (k + 1) (z_v P2 ((719 * ((F1 1) + 1)) + k) (P2 k)) rfl (⟨by omega, by omega, by have e1 : P2 k = P1 k := (by rw [hP2]; exact if_neg (by omega)); rw [e1, hP2]; funext j; unfold z_v; grind⟩)
    exact loop64 _ 0 P1 rfl (⟨by omega, by omega, by funext j; rw [if_neg (by omega)]⟩)
  refine z_aload_n e_X5_records_0 rfl ?_
  refine z_geti (fi := 1) (x := (F 1)) e_X5_records_1 f_RX5_36 t0 rfl rfl (congrFun (((z_un (by omega)).trans (z_us _ _ _))) _) ?_
  refine z_bipush e_X5_records_4 (by decide +kernel) ?_
  refine z_icmp_ne e_X5_records_6 ⟨by omega, by omega⟩ (by decide) (fun h6_3 => ?_) (fun h6_3 => ?_)
  · exact join52_0 F P (⟨by rw [if_neg (by assumption)], fun j hj => rfl, by rw [if_neg (by assumption)]⟩)
  · refine z_sipush e_X5_records_9 (by decide +kernel) ?_
    refine z_istore_n (ls' := [some (zo o), some (zi 719)]) e_X5_records_12 rfl rfl rfl ?_
    have loop13 : ∀ (nn : Nat) (k : Int) (P1 : Int → Int), (5752 - k).toNat = nn → (719 ≤ k ∧ k ≤ 5752 ∧ P1 = (fun j => if 719 ≤ j ∧ j < k then P (j + 719) else P j)) → z_A M_X5_records E 0 0 13 [some (zo o), some (zi k)] [] (z_u (z_u mi o F) (o + 1) P1) mr (z_qv E (fun m r => m = z_u (z_u mi o (f_rec F)) (o + 1) (p_rec (F 1) P) ∧ r = mr)) := by
      intro nn
      induction nn using Nat.strongRecOn with
      | _ nn ih =>
        intro k P1 hmeas hinv
        obtain ⟨hc0, hc1, hP1⟩ := hinv
        refine z_iload_n e_X5_records_13 rfl ?_
        refine z_sipush e_X5_records_14 (by decide +kernel) ?_
        refine z_icmp_ge e_X5_records_17 ⟨by omega, by omega⟩ (by decide) (fun h17_4 => ?_) (fun h17_4 => ?_)
        · refine z_aload_n e_X5_records_42 rfl ?_
          refine z_dup e_X5_records_43 rfl ?_
          refine z_geti (fi := 1) (x := (F 1)) e_X5_records_44 f_RX5_36 t0 rfl rfl (congrFun (((z_un (by omega)).trans (z_us _ _ _))) _) ?_
          refine z_iconst e_X5_records_47 ?_
          refine z_isub e_X5_records_48 ?_
          refine z_putiX (fi := 1) (f := F) e_X5_records_49 f_RX5_36 t0 rfl rfl (Or.inl rfl) (((z_un (by omega)).trans (z_us _ _ _))) (z_ux (by omega) (z_uu _ _ _ _)) ?_
          refine z_fgt (ls' := [some (zo o), none]) ⟨rfl, trivial⟩ ?_
          exact join52_0 (z_v F 1 ((F 1) - 1)) P1 (⟨by rw [if_pos (by assumption)]; unfold z_v; rw [if_pos rfl]; omega, fun j hj => z_vn hj, by rw [if_pos (by assumption), hP1]; funext j; grind⟩)
        · refine z_aload_n e_X5_records_20 rfl ?_
          refine z_getr (fi := 0) (r := some (o + 1)) e_X5_records_21 f_RX5_7 t0 rfl rfl (q0) ?_
          refine z_iload_n e_X5_records_24 rfl ?_
          refine z_aload_n e_X5_records_25 rfl ?_
          refine z_getr (fi := 0) (r := some (o + 1)) e_X5_records_26 f_RX5_7 t0 rfl rfl (q0) ?_
          refine z_iload_n e_X5_records_29 rfl ?_
          refine z_sipush e_X5_records_30 (by decide +kernel) ?_
          refine z_iadd e_X5_records_33 ?_
          refine z_iald (x := (P1 (k + 719))) e_X5_records_34 t1 (by decide) (by omega) (by omega) (congrFun (z_us _ _ _) _) ?_
          refine z_iastU e_X5_records_35 t1 (by decide) (by omega) (by omega) ?_
          refine z_iinc (y := (k + 1)) (ls' := [some (zo o), some (zi (k + 1))]) e_X5_records_36 rfl rfl rfl rfl rfl ?_
          refine z_goto e_X5_records_39 ?_
          exact ih _ (by omega) (k + 1) (z_v P1 k (P1 (k + 719))) rfl (⟨by omega, by omega, by rw [hP1]; funext j; unfold z_v; grind⟩)
    exact loop13 _ 719 P rfl (⟨by omega, by omega, by funext j; rw [if_neg (by omega)]⟩)
set_option maxHeartbeats 4000000 in
set_option maxRecDepth 100000 in
theorem c_X5_unwrapsAhead {E : z_E} {mi : z_Mi} {mr : z_Mr} {o : Nat} {P : Int → Int} {row : Int} (hM : z_MO E mr o) (h0 : row ≤ 8) (h1 : z_R row) (h2 : 0 ≤ P 14) (h3 : P 14 ≤ 24) : z_mv M_X5_unwrapsAhead E [zo o, zi row] (z_u mi (o + 1) P) mr (fun m r => m = z_u mi (o + 1) (p_ahead P row) ∧ r = mr) := by
  obtain ⟨t0, t1, t2, t3, t4, t5, t6, t7, q0, q2, q3, q4, q5, q6, q7⟩ := id hM
  refine z_ofv (ls := [some (zo o), some (zi row)]) rfl (fun _ _ => trivial) ⟨rfl, rfl⟩ (Nat.le_of_ble_eq_true rfl) rfl ?_
  refine z_iload_n e_X5_unwrapsAhead_0 rfl ?_
  refine z_if_le e_X5_unwrapsAhead_1 ⟨by omega, by omega⟩ (fun h1_1 => ?_) (fun h1_1 => ?_)
  · refine z_aload_n e_X5_unwrapsAhead_17 rfl ?_
    refine z_getr (fi := 0) (r := some (o + 1)) e_X5_unwrapsAhead_18 f_RX5_7 t0 rfl rfl (q0) ?_
    refine z_bipush e_X5_unwrapsAhead_21 (by decide +kernel) ?_
    refine z_iald (x := (P 14)) e_X5_unwrapsAhead_23 t1 (by decide) (by decide) (by decide) (congrFun (z_us _ _ _) _) ?_
    refine z_if_le e_X5_unwrapsAhead_24 ⟨by omega, by omega⟩ (fun h24_2 => ?_) (fun h24_2 => ?_)
    · refine z_ret e_X5_unwrapsAhead_40 rfl rfl rfl ⟨rfl, rfl, ?_⟩
      refine ⟨congrArg _ ?_, rfl⟩
      unfold p_ahead
      grind
    · refine z_aload_n e_X5_unwrapsAhead_27 rfl ?_
      refine z_aload_n e_X5_unwrapsAhead_28 rfl ?_
      refine z_getr (fi := 0) (r := some (o + 1)) e_X5_unwrapsAhead_29 f_RX5_7 t0 rfl rfl (q0) ?_
      refine z_bipush e_X5_unwrapsAhead_32 (by decide +kernel) ?_
      refine z_iald (x := (P 14)) e_X5_unwrapsAhead_34 t1 (by decide) (by decide) (by decide) (congrFun (z_us _ _ _) _) ?_
      refine z_iconst e_X5_unwrapsAhead_35 ?_
      refine z_isub e_X5_unwrapsAhead_36 ?_
      refine z_callVv (M' := M_X5_unwraps) (As := [zi ((P 14) - 1)]) (rest := []) e_X5_unwrapsAhead_37 l_RX5_44 rfl rfl rfl rfl t0 ⟨_, _, rfl⟩ (c_X5_unwraps hM (by omega) (by omega)) (fun mq rq hq => ?_)
      obtain ⟨e2q, e3q⟩ := hq
      subst mq rq
      refine z_ret e_X5_unwrapsAhead_40 rfl rfl rfl ⟨rfl, rfl, ?_⟩
      refine ⟨congrArg _ ?_, rfl⟩
      unfold p_ahead
      grind
  · refine z_aload_n e_X5_unwrapsAhead_4 rfl ?_
    refine z_bipush e_X5_unwrapsAhead_5 (by decide +kernel) ?_
    refine z_iload_n e_X5_unwrapsAhead_7 rfl ?_
    refine z_iadd e_X5_unwrapsAhead_8 ?_
    refine z_iconst e_X5_unwrapsAhead_9 ?_
    refine z_isub e_X5_unwrapsAhead_10 ?_
    refine z_callVv (M' := M_X5_unwraps) (As := [zi ((24 + row) - 1)]) (rest := []) e_X5_unwrapsAhead_11 l_RX5_44 rfl rfl rfl rfl t0 ⟨_, _, rfl⟩ (c_X5_unwraps hM (by omega) (by omega)) (fun mq rq hq => ?_)
    obtain ⟨e2q, e3q⟩ := hq
    subst mq rq
    refine z_goto e_X5_unwrapsAhead_14 ?_
    refine z_ret e_X5_unwrapsAhead_40 rfl rfl rfl ⟨rfl, rfl, ?_⟩
    refine ⟨congrArg _ ?_, rfl⟩
    unfold p_ahead
    grind
set_option maxHeartbeats 4000000 in
set_option maxRecDepth 100000 in
theorem c_X5_sets {E : z_E} {mi : z_Mi} {mr : z_Mr} {o : Nat} {P : Int → Int} {row c v : Int} (hM : z_MO E mr o) (h0 : 0 ≤ row) (h1 : row < 8) (h2 : 0 ≤ c) (h3 : c < 20) (h4 : 0 ≤ P 0) (h5 : P 0 ≤ 255) : z_mv M_X5_sets E [zo o, zi row, zi c, zi v] (z_u mi (o + 1) P) mr (fun m r => m = z_u mi (o + 1) (p_sets P row c v) ∧ r = mr) := by
  obtain ⟨t0, t1, t2, t3, t4, t5, t6, t7, q0, q2, q3, q4, q5, q6, q7⟩ := id hM
  refine z_ofv (ls := [some (zo o), some (zi row), some (zi c), some (zi v)]) rfl (fun _ _ => trivial) ⟨rfl, rfl⟩ (Nat.le_of_ble_eq_true rfl) rfl ?_
  refine z_aload_n e_X5_sets_0 rfl ?_
  refine z_getr (fi := 0) (r := some (o + 1)) e_X5_sets_1 f_RX5_7 t0 rfl rfl (q0) ?_
  refine z_bipush e_X5_sets_4 (by decide +kernel) ?_
  refine z_iload_n e_X5_sets_6 rfl ?_
  refine z_iadd e_X5_sets_7 ?_
  refine z_iload_n e_X5_sets_8 rfl ?_
  refine z_callSi (M' := M_X5_at) (As := [zi (24 + row), zi c]) (rest := [zo (o + 1)]) e_X5_sets_9 l_RX5_40 rfl rfl rfl rfl (c_X5_at ) (fun xq mq rq hq => ?_)
  obtain ⟨e1q, e2q, e3q⟩ := hq
  subst xq mq rq
  refine z_iload_n e_X5_sets_12 rfl ?_
  refine z_iastU e_X5_sets_13 t1 (by decide) (by omega) (by omega) ?_
  refine z_iload_n e_X5_sets_14 rfl ?_
  refine z_aload_n e_X5_sets_15 rfl ?_
  refine z_getr (fi := 0) (r := some (o + 1)) e_X5_sets_16 f_RX5_7 t0 rfl rfl (q0) ?_
  refine z_iconst e_X5_sets_19 ?_
  refine z_iald (x := (P 0)) e_X5_sets_20 t1 (by decide) (by decide) (by decide) ((congrFun (z_us _ _ _) _).trans (z_vn (by omega))) ?_
  refine z_iconst e_X5_sets_21 ?_
  refine z_isub e_X5_sets_22 ?_
  refine z_icmp_ne e_X5_sets_23 ⟨by omega, by omega⟩ ⟨by omega, by omega⟩ (fun h23_1 => ?_) (fun h23_1 => ?_)
  · refine z_ret e_X5_sets_34 rfl rfl rfl ⟨rfl, rfl, ?_⟩
    refine ⟨congrArg _ ?_, rfl⟩
    rw [p_v_upd _ _ _ _ (by omega) (by omega)]
    refine p_upd_ext (fun j g0 g1 => ?_)
    unfold r_set z_v
    grind
  · refine z_aload_n e_X5_sets_26 rfl ?_
    refine z_bipush e_X5_sets_27 (by decide +kernel) ?_
    refine z_iload_n e_X5_sets_29 rfl ?_
    refine z_iadd e_X5_sets_30 ?_
    refine z_callVv (M' := M_X5_unwraps) (As := [zi (24 + row)]) (rest := []) e_X5_sets_31 l_RX5_44 rfl rfl rfl rfl t0 ⟨_, _, rfl⟩ (c_X5_unwraps hM (by omega) (by omega)) (fun mq rq hq => ?_)
    obtain ⟨e2q, e3q⟩ := hq
    subst mq rq
    refine z_ret e_X5_sets_34 rfl rfl rfl ⟨rfl, rfl, ?_⟩
    refine ⟨congrArg _ ?_, rfl⟩
    rw [p_v_upd _ _ _ _ (by omega) (by omega), p_upd_upd]
    refine p_upd_ext (fun j g0 g1 => ?_)
    unfold r_unw
    rw [p_row_upd _ _ _ g0 g1]
    unfold r_set z_v
    grind
set_option maxHeartbeats 4000000 in
set_option maxRecDepth 100000 in
theorem c_X5_frees {E : z_E} {mi : z_Mi} {mr : z_Mr} {o : Nat} {P : Int → Int} {row a b : Int} (hM : z_MO E mr o) (h0 : 0 ≤ row) (h1 : row < 8) (h2 : 0 ≤ a) (h3 : a ≤ b) (h4 : b < P 0) (hw0 : 4 ≤ P 0) (hw1 : P 0 ≤ 20) (hP : z_pr P) : z_mv M_X5_frees E [zo o, zi row, zi a, zi b] (z_u mi (o + 1) P) mr (fun m r => m = z_u mi (o + 1) (p_frees P row a b) ∧ r = mr) := by
  obtain ⟨t0, t1, t2, t3, t4, t5, t6, t7, q0, q2, q3, q4, q5, q6, q7⟩ := id hM
  refine z_ofv (ls := [some (zo o), some (zi row), some (zi a), some (zi b)]) rfl (fun _ _ => trivial) ⟨rfl, rfl⟩ (Nat.le_of_ble_eq_true rfl) rfl ?_
  have join29_0 : ∀ (P1 : Int → Int), P1 = p_upd P (24 + row) (r_free1 (P 0) a (p_row P (24 + row))) → z_A M_X5_frees E 0 0 29 [some (zo o), some (zi row), some (zi a), some (zi b)] [] (z_u mi (o + 1) P1) mr (z_qv E (fun m r => m = z_u mi (o + 1) (p_frees P row a b) ∧ r = mr)) := by
    intro P1 hj
    have hP1 : z_pr P1 := by rw [hj]; exact z_pr_up hP (z_pr_free1 (z_pr_row hP _))
    have e0 : P1 0 = P 0 := by rw [hj]; exact p_upd_hd _ _ (by omega)
    refine z_iload_n e_X5_frees_29 rfl ?_
    refine z_iconst e_X5_frees_30 ?_
    refine z_iadd e_X5_frees_31 ?_
    refine z_aload_n e_X5_frees_32 rfl ?_
    refine z_getr (fi := 0) (r := some (o + 1)) e_X5_frees_33 f_RX5_7 t0 rfl rfl (q0) ?_
    refine z_iconst e_X5_frees_36 ?_
    refine z_iald (x := (P 0)) e_X5_frees_37 t1 (by decide) (by decide) (by decide) ((congrFun (z_us _ _ _) _).trans e0) ?_
    refine z_icmp_ge e_X5_frees_38 ⟨by omega, by omega⟩ ⟨by omega, by omega⟩ (fun h38_2 => ?_) (fun h38_2 => ?_)
    · refine z_ret e_X5_frees_66 rfl rfl rfl ⟨rfl, rfl, ?_⟩
      refine ⟨congrArg _ ?_, rfl⟩
      exact p_free2_no hj (by omega) (by omega) (by first | exact Or.inl (by omega) | exact Or.inr (by assumption))
    · refine z_aload_n e_X5_frees_41 rfl ?_
      refine z_bipush e_X5_frees_42 (by decide +kernel) ?_
      refine z_iload_n e_X5_frees_44 rfl ?_
      refine z_iadd e_X5_frees_45 ?_
      refine z_iload_n e_X5_frees_46 rfl ?_
      refine z_callVi (M' := M_X5_code) (As := [zi (24 + row), zi b]) (rest := []) e_X5_frees_47 l_RX5_51 rfl rfl rfl rfl t0 ⟨_, _, rfl⟩ (c_X5_code hM (by omega) (by omega)) (fun xq mq rq hq => ?_)
      obtain ⟨e1q, e2q, e3q⟩ := hq
      subst xq mq rq
      have hbq := hP1 (15 + 22 * (24 + row) + b)
      refine z_callSi (M' := M_X5_isWide) (As := [zi (P1 (15 + 22 * (24 + row) + b))]) (rest := []) e_X5_frees_50 l_RX5_62 rfl rfl rfl rfl (c_X5_isWide ⟨by omega, by omega⟩) (fun xq mq rq hq => ?_)
      obtain ⟨e1q, e2q, e3q⟩ := hq
      subst xq mq rq
      refine z_if_eqB e_X5_frees_53  (fun h53_3 => ?_) (fun h53_3 => ?_)
      · refine z_ret e_X5_frees_66 rfl rfl rfl ⟨rfl, rfl, ?_⟩
        refine ⟨congrArg _ ?_, rfl⟩
        exact p_free2_no hj (by omega) (by omega) (by first | exact Or.inl (by omega) | exact Or.inr (by assumption))
      · refine z_aload_n e_X5_frees_56 rfl ?_
        refine z_iload_n e_X5_frees_57 rfl ?_
        refine z_iload_n e_X5_frees_58 rfl ?_
        refine z_iconst e_X5_frees_59 ?_
        refine z_iadd e_X5_frees_60 ?_
        refine z_bipush e_X5_frees_61 (by decide +kernel) ?_
        refine z_callVv (M' := M_X5_sets) (As := [zi row, zi (b + 1), zi 32]) (rest := []) e_X5_frees_63 l_RX5_58 rfl rfl rfl rfl t0 ⟨_, _, rfl⟩ (c_X5_sets hM (by omega) (by omega) (by omega) (by omega) (by omega) (by omega)) (fun mq rq hq => ?_)
        obtain ⟨e2q, e3q⟩ := hq
        subst mq rq
        refine z_ret e_X5_frees_66 rfl rfl rfl ⟨rfl, rfl, ?_⟩
        refine ⟨congrArg _ ?_, rfl⟩
        show p_upd P1 (24 + row) (r_set (P1 0) (b + 1) 32 (p_row P1 (24 + row))) = _
        rw [e0]
        exact p_free2_do hj (by omega) (by omega) (by omega) (by assumption)
  refine z_iload_n e_X5_frees_0 rfl ?_
  refine z_if_le e_X5_frees_1 ⟨by omega, by omega⟩ (fun h1_4 => ?_) (fun h1_4 => ?_)
  · exact join29_0 P (p_free1_no (by first | exact Or.inl (by omega) | exact Or.inr (by assumption)))
  · refine z_aload_n e_X5_frees_4 rfl ?_
    refine z_bipush e_X5_frees_5 (by decide +kernel) ?_
    refine z_iload_n e_X5_frees_7 rfl ?_
    refine z_iadd e_X5_frees_8 ?_
    refine z_iload_n e_X5_frees_9 rfl ?_
    refine z_callVi (M' := M_X5_code) (As := [zi (24 + row), zi a]) (rest := []) e_X5_frees_10 l_RX5_51 rfl rfl rfl rfl t0 ⟨_, _, rfl⟩ (c_X5_code hM (by omega) (by omega)) (fun xq mq rq hq => ?_)
    obtain ⟨e1q, e2q, e3q⟩ := hq
    subst xq mq rq
    have hbq := hP (15 + 22 * (24 + row) + a)
    refine z_callSi (M' := M_X5_isRight) (As := [zi (P (15 + 22 * (24 + row) + a))]) (rest := []) e_X5_frees_13 l_RX5_54 rfl rfl rfl rfl (c_X5_isRight ⟨by omega, by omega⟩) (fun xq mq rq hq => ?_)
    obtain ⟨e1q, e2q, e3q⟩ := hq
    subst xq mq rq
    refine z_if_eqB e_X5_frees_16  (fun h16_5 => ?_) (fun h16_5 => ?_)
    · exact join29_0 P (p_free1_no (by first | exact Or.inl (by omega) | exact Or.inr (by assumption)))
    · refine z_aload_n e_X5_frees_19 rfl ?_
      refine z_iload_n e_X5_frees_20 rfl ?_
      refine z_iload_n e_X5_frees_21 rfl ?_
      refine z_iconst e_X5_frees_22 ?_
      refine z_isub e_X5_frees_23 ?_
      refine z_bipush e_X5_frees_24 (by decide +kernel) ?_
      refine z_callVv (M' := M_X5_sets) (As := [zi row, zi (a - 1), zi 32]) (rest := []) e_X5_frees_26 l_RX5_58 rfl rfl rfl rfl t0 ⟨_, _, rfl⟩ (c_X5_sets hM (by omega) (by omega) (by omega) (by omega) (by omega) (by omega)) (fun mq rq hq => ?_)
      obtain ⟨e2q, e3q⟩ := hq
      subst mq rq
      exact join29_0 (p_sets P row (a - 1) 32) (p_free1_do (by omega) (by assumption))
set_option maxHeartbeats 4000000 in
set_option maxRecDepth 100000 in
theorem c_X5_erases {E : z_E} {mi : z_Mi} {mr : z_Mr} {o : Nat} {P : Int → Int} {row a b : Int} (hM : z_MO E mr o) (h0 : 0 ≤ row) (h1 : row < 8) (h2 : 0 ≤ a) (h3 : a ≤ b) (h4 : b < P 0) (hw0 : 4 ≤ P 0) (hw1 : P 0 ≤ 20) (hP : z_pr P) : z_mv M_X5_erases E [zo o, zi row, zi a, zi b] (z_u mi (o + 1) P) mr (fun m r => m = z_u mi (o + 1) (p_erases P row a b) ∧ r = mr) := by
  obtain ⟨t0, t1, t2, t3, t4, t5, t6, t7, q0, q2, q3, q4, q5, q6, q7⟩ := id hM
  refine z_ofv (ls := [some (zo o), some (zi row), some (zi a), some (zi b), none]) rfl (fun _ _ => trivial) ⟨rfl, rfl⟩ (Nat.le_of_ble_eq_true rfl) rfl ?_
  refine z_aload_n e_X5_erases_0 rfl ?_
  refine z_iload_n e_X5_erases_1 rfl ?_
  refine z_iload_n e_X5_erases_2 rfl ?_
  refine z_iload_n e_X5_erases_3 rfl ?_
  refine z_callVv (M' := M_X5_frees) (As := [zi row, zi a, zi b]) (rest := []) e_X5_erases_4 l_RX5_65 rfl rfl rfl rfl t0 ⟨_, _, rfl⟩ (c_X5_frees hM (by omega) (by omega) (by omega) (by omega) (by omega) (by omega) (by omega) hP) (fun mq rq hq => ?_)
  obtain ⟨e2q, e3q⟩ := hq
  subst mq rq
  refine z_iload_n e_X5_erases_7 rfl ?_
  refine z_istore (ls' := [some (zo o), some (zi row), some (zi a), some (zi b), some (zi a)]) e_X5_erases_8 rfl rfl rfl ?_
  have loop10 : ∀ (nn : Nat) (c : Int) (P1 : Int → Int), (20 - c).toNat = nn → (a ≤ c ∧ c ≤ b + 1 ∧ P1 = p_upd P (24 + row) (r_fill (P 0) a (c - 1) (r_free (P 0) a b (p_row P (24 + row))))) → z_A M_X5_erases E 0 0 10 [some (zo o), some (zi row), some (zi a), some (zi b), some (zi c)] [] (z_u mi (o + 1) P1) mr (z_qv E (fun m r => m = z_u mi (o + 1) (p_erases P row a b) ∧ r = mr)) := by
    intro nn
    induction nn using Nat.strongRecOn with
    | _ nn ih =>
      intro c P1 hmeas hinv
      obtain ⟨hc0, hc1, hP1⟩ := hinv
      have e0 : P1 0 = P 0 := by rw [hP1]; exact p_upd_hd _ _ (by omega)
      refine z_iload e_X5_erases_10 rfl ?_
      refine z_iload_n e_X5_erases_12 rfl ?_
      refine z_icmp_gt e_X5_erases_13 ⟨by omega, by omega⟩ ⟨by omega, by omega⟩ (fun h13_1 => ?_) (fun h13_1 => ?_)
      · refine z_ret e_X5_erases_31 rfl rfl rfl ⟨rfl, rfl, ?_⟩
        have hcb : c = b + 1 := by omega
        subst hcb
        rw [hP1, show b + 1 - 1 = b by omega]
        exact ⟨rfl, rfl⟩
      · refine z_aload_n e_X5_erases_16 rfl ?_
        refine z_iload_n e_X5_erases_17 rfl ?_
        refine z_iload e_X5_erases_18 rfl ?_
        refine z_bipush e_X5_erases_20 (by decide +kernel) ?_
        refine z_callVv (M' := M_X5_sets) (As := [zi row, zi c, zi 32]) (rest := []) e_X5_erases_22 l_RX5_58 rfl rfl rfl rfl t0 ⟨_, _, rfl⟩ (c_X5_sets hM (by omega) (by omega) (by omega) (by omega) (by omega) (by omega)) (fun mq rq hq => ?_)
        obtain ⟨e2q, e3q⟩ := hq
        subst mq rq
        refine z_iinc (y := (c + 1)) (ls' := [some (zo o), some (zi row), some (zi a), some (zi b), some (zi (c + 1))]) e_X5_erases_25 rfl rfl rfl rfl rfl ?_
        refine z_goto e_X5_erases_28 ?_
        exact ih _ (by omega) (c + 1) (p_sets P1 row c 32) rfl (⟨by omega, by omega, by show p_upd P1 (24 + row) (r_set (P1 0) c 32 (p_row P1 (24 + row))) = _; rw [e0, p_set_on hP1]; exact p_upd_ext (fun j g0 g1 => by rw [r_fill_s (by omega) (by omega) (by omega) (by omega) j]; congr 1; omega)⟩)
  exact loop10 _ a (p_frees P row a b) rfl (⟨by omega, by omega, p_upd_ext (fun c h0 h1 => (r_fill_0 c).symm)⟩)
set_option maxHeartbeats 4000000 in
set_option maxRecDepth 100000 in
theorem c_X5_usedCells {E : z_E} {mi : z_Mi} {mr : z_Mr} {o : Nat} {P : Int → Int} {s : Int} (hM : z_MO E mr o) (h0 : 0 ≤ s) (h1 : s ≤ 31) (hw0 : 4 ≤ P 0) (hw1 : P 0 ≤ 20) (hP : z_pr P) : z_mi M_X5_usedCells E [zo o, zi s] (z_u mi (o + 1) P) mr (fun x m r => x = m_used P s ∧ m = z_u mi (o + 1) P ∧ r = mr) := by
  obtain ⟨t0, t1, t2, t3, t4, t5, t6, t7, q0, q2, q3, q4, q5, q6, q7⟩ := id hM
  refine z_ofi (ls := [some (zo o), some (zi s), none]) rfl (fun _ _ => trivial) ⟨rfl, rfl⟩ (Nat.le_of_ble_eq_true rfl) rfl ?_
  refine z_aload_n e_X5_usedCells_0 rfl ?_
  refine z_getr (fi := 0) (r := some (o + 1)) e_X5_usedCells_1 f_RX5_7 t0 rfl rfl (q0) ?_
  refine z_iconst e_X5_usedCells_4 ?_
  refine z_iald (x := (P 0)) e_X5_usedCells_5 t1 (by decide) (by decide) (by decide) (congrFun (z_us _ _ _) _) ?_
  refine z_istore_n (ls' := [some (zo o), some (zi s), some (zi (P 0))]) e_X5_usedCells_6 rfl rfl rfl ?_
  have loop7 : ∀ (nn : Nat) (n : Int), n.toNat = nn → (0 ≤ n ∧ n ≤ P 0 ∧ m_used P s = n_used (p_row P s) n.toNat) → z_A M_X5_usedCells E 0 0 7 [some (zo o), some (zi s), some (zi n)] [] (z_u mi (o + 1) P) mr (z_qi E (fun x m r => x = m_used P s ∧ m = z_u mi (o + 1) P ∧ r = mr)) := by
    intro nn
    induction nn using Nat.strongRecOn with
    | _ nn ih =>
      intro n hmeas hinv
      obtain ⟨hc0, hc1, hn⟩ := hinv
      refine z_iload_n e_X5_usedCells_7 rfl ?_
      refine z_if_le e_X5_usedCells_8 ⟨by omega, by omega⟩ (fun h8_1 => ?_) (fun h8_1 => ?_)
      · refine z_iload_n e_X5_usedCells_30 rfl ?_
        refine z_iret e_X5_usedCells_31 (Or.inl rfl) rfl rfl ⟨rfl, _, rfl, ?_⟩
        refine ⟨?_, rfl, rfl⟩
        rw [hn]
        first | exact (n_used_n (by omega) (by assumption)).symm | (rw [show n = 0 by omega]; rfl)
      · refine z_aload_n e_X5_usedCells_11 rfl ?_
        refine z_iload_n e_X5_usedCells_12 rfl ?_
        refine z_iload_n e_X5_usedCells_13 rfl ?_
        refine z_iconst e_X5_usedCells_14 ?_
        refine z_isub e_X5_usedCells_15 ?_
        refine z_callVi (M' := M_X5_code) (As := [zi s, zi (n - 1)]) (rest := []) e_X5_usedCells_16 l_RX5_51 rfl rfl rfl rfl t0 ⟨_, _, rfl⟩ (c_X5_code hM (by omega) (by omega)) (fun xq mq rq hq => ?_)
        obtain ⟨e1q, e2q, e3q⟩ := hq
        subst xq mq rq
        have hbq := hP (15 + 22 * s + (n - 1))
        refine z_bipush e_X5_usedCells_19 (by decide +kernel) ?_
        refine z_icmp_ne e_X5_usedCells_21 ⟨by omega, by omega⟩ (by decide) (fun h21_2 => ?_) (fun h21_2 => ?_)
        · refine z_iload_n e_X5_usedCells_30 rfl ?_
          refine z_iret e_X5_usedCells_31 (Or.inl rfl) rfl rfl ⟨rfl, _, rfl, ?_⟩
          refine ⟨?_, rfl, rfl⟩
          rw [hn]
          first | exact (n_used_n (by omega) (by assumption)).symm | (rw [show n = 0 by omega]; rfl)
        · refine z_iinc (y := (n + (-1))) (ls' := [some (zo o), some (zi s), some (zi (n + (-1)))]) e_X5_usedCells_24 rfl rfl rfl rfl rfl ?_
          refine z_goto e_X5_usedCells_27 ?_
          exact ih _ (by omega) (n + (-1)) rfl (⟨by omega, by omega, by rw [hn]; exact n_used_z (by omega) (by assumption)⟩)
  exact loop7 _ (P 0) rfl (⟨by omega, by omega, rfl⟩)
set_option maxHeartbeats 4000000 in
set_option maxRecDepth 100000 in
theorem c_X5_filled {E : z_E} {mi : z_Mi} {mr : z_Mr} {o : Nat} {P : Int → Int} {s : Int} (hM : z_MO E mr o) (h0 : 0 ≤ s) (h1 : s ≤ 31) (hw0 : 4 ≤ P 0) (hw1 : P 0 ≤ 20) (hP : z_pr P) : z_mi M_X5_filled E [zo o, zi s] (z_u mi (o + 1) P) mr (fun x m r => x = m_fill P s ∧ m = z_u mi (o + 1) P ∧ r = mr) := by
  obtain ⟨t0, t1, t2, t3, t4, t5, t6, t7, q0, q2, q3, q4, q5, q6, q7⟩ := id hM
  refine z_ofi (ls := [some (zo o), some (zi s), none, none]) rfl (fun _ _ => trivial) ⟨rfl, rfl⟩ (Nat.le_of_ble_eq_true rfl) rfl ?_
  refine z_iconst e_X5_filled_0 ?_
  refine z_istore_n (ls' := [some (zo o), some (zi s), some (zi 0), none]) e_X5_filled_1 rfl rfl rfl ?_
  refine z_iconst e_X5_filled_2 ?_
  refine z_istore_n (ls' := [some (zo o), some (zi s), some (zi 0), some (zi 0)]) e_X5_filled_3 rfl rfl rfl ?_
  have loop4 : ∀ (nn : Nat) (n : Int) (c : Int), (P 0 - c).toNat = nn → (0 ≤ c ∧ c ≤ P 0 ∧ n = n_cnt (fun c => P (15 + 22 * s + c) ≠ 32) c.toNat) → z_A M_X5_filled E 0 0 4 [some (zo o), some (zi s), some (zi n), some (zi c)] [] (z_u mi (o + 1) P) mr (z_qi E (fun x m r => x = m_fill P s ∧ m = z_u mi (o + 1) P ∧ r = mr)) := by
    intro nn
    induction nn using Nat.strongRecOn with
    | _ nn ih =>
      intro n c hmeas hinv
      obtain ⟨hc0, hc1, hn⟩ := hinv
      refine z_iload_n e_X5_filled_4 rfl ?_
      refine z_aload_n e_X5_filled_5 rfl ?_
      refine z_getr (fi := 0) (r := some (o + 1)) e_X5_filled_6 f_RX5_7 t0 rfl rfl (q0) ?_
      refine z_iconst e_X5_filled_9 ?_
      refine z_iald (x := (P 0)) e_X5_filled_10 t1 (by decide) (by decide) (by decide) (congrFun (z_us _ _ _) _) ?_
      refine z_icmp_ge e_X5_filled_11 ⟨by omega, by omega⟩ ⟨by omega, by omega⟩ (fun h11_1 => ?_) (fun h11_1 => ?_)
      · refine z_iload_n e_X5_filled_39 rfl ?_
        refine z_iret e_X5_filled_40 (Or.inl rfl) rfl rfl ⟨rfl, _, rfl, ?_⟩
        refine ⟨?_, rfl, rfl⟩
        rw [hn, show c = P 0 by omega]
        rfl
      · refine z_iload_n e_X5_filled_14 rfl ?_
        refine z_aload_n e_X5_filled_15 rfl ?_
        refine z_iload_n e_X5_filled_16 rfl ?_
        refine z_iload_n e_X5_filled_17 rfl ?_
        refine z_callVi (M' := M_X5_code) (As := [zi s, zi c]) (rest := [zi n]) e_X5_filled_18 l_RX5_51 rfl rfl rfl rfl t0 ⟨_, _, rfl⟩ (c_X5_code hM (by omega) (by omega)) (fun xq mq rq hq => ?_)
        obtain ⟨e1q, e2q, e3q⟩ := hq
        subst xq mq rq
        have hbq := hP (15 + 22 * s + c)
        refine z_bipush e_X5_filled_21 (by decide +kernel) ?_
        refine z_icmp_ne e_X5_filled_23 ⟨by omega, by omega⟩ (by decide) (fun h23_2 => ?_) (fun h23_2 => ?_)
        · refine z_iconst e_X5_filled_30 ?_
          refine z_iadd e_X5_filled_31 ?_
          refine z_istore_n (ls' := [some (zo o), some (zi s), some (zi (n + 1)), some (zi c)]) e_X5_filled_32 rfl rfl rfl ?_
          refine z_iinc (y := (c + 1)) (ls' := [some (zo o), some (zi s), some (zi (n + 1)), some (zi (c + 1))]) e_X5_filled_33 rfl rfl rfl rfl rfl ?_
          refine z_goto e_X5_filled_36 ?_
          exact ih _ (by omega) (n + 1) (c + 1) rfl (⟨by omega, by omega, by rw [n_cnt_s _ hc0, hn, if_pos (by assumption)]⟩)
        · refine z_iconst e_X5_filled_26 ?_
          refine z_goto e_X5_filled_27 ?_
          refine z_iadd e_X5_filled_31 ?_
          refine z_istore_n (ls' := [some (zo o), some (zi s), some (zi (n + 0)), some (zi c)]) e_X5_filled_32 rfl rfl rfl ?_
          refine z_iinc (y := (c + 1)) (ls' := [some (zo o), some (zi s), some (zi (n + 0)), some (zi (c + 1))]) e_X5_filled_33 rfl rfl rfl rfl rfl ?_
          refine z_goto e_X5_filled_36 ?_
          exact ih _ (by omega) (n + 0) (c + 1) rfl (⟨by omega, by omega, by rw [n_cnt_s _ hc0, hn, if_neg (by simpa using (by assumption : P (15 + 22 * s + c) = 32))]⟩)
  exact loop4 _ 0 0 rfl (⟨by omega, by omega, rfl⟩)
