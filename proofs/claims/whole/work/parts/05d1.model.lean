set_option maxHeartbeats 1000000 in
set_option maxRecDepth 100000 in
theorem c_X5_isRow {E : z_E} {mi : z_Mi} {mr : z_Mr} {o : Nat} {P : Int → Int} {row : Int} (hM : z_MO E mr o) (hH : p_hd P) (hz : z_R row) : z_mi M_X5_isRow E [zo o, zi row] (z_u mi (o + 1) P) mr (fun x m r => x = (if 0 ≤ row ∧ row ≤ P 1 - 1 then 1 else 0) ∧ m = z_u mi (o + 1) P ∧ r = mr) := by
  obtain ⟨t0, t1, t2, t3, t4, t5, t6, t7, q0, q2, q3, q4, q5, q6, q7⟩ := id hM
  obtain ⟨hw0, hw1, hh0, hh1, hf0, hf1, hf2, hr0, hr1, hc0, hc1, hp0, hp1, hk0, hk1, hi0, hi1, hkp, hP⟩ := id hH
  refine z_ofi (ls := [some (zo o), some (zi row)]) rfl (fun _ _ => trivial) ⟨rfl, rfl⟩ (Nat.le_of_ble_eq_true rfl) rfl ?_
  refine z_iload_n e_X5_isRow_0 rfl ?_
  refine z_iconst e_X5_isRow_1 ?_
  refine z_aload_n e_X5_isRow_2 rfl ?_
  refine z_getr (fi := 0) (r := some (o + 1)) e_X5_isRow_3 f_RX5_7 t0 rfl rfl (q0) ?_
  refine z_iconst e_X5_isRow_6 ?_
  refine z_iald (x := (P 1)) e_X5_isRow_7 t1 (by decide) (by decide) (by decide) (congrFun (z_us _ _ _) _) ?_
  refine z_iconst e_X5_isRow_8 ?_
  refine z_isub e_X5_isRow_9 ?_
  refine z_callSi (M' := M_X5_in) (As := [zi row, zi 0, zi ((P 1) - 1)]) (rest := []) e_X5_isRow_10 l_RX5_47 rfl rfl rfl rfl (c_X5_in ⟨by omega, by omega⟩ ⟨by omega, by omega⟩ ⟨by omega, by omega⟩) (fun xq mq rq hq => ?_)
  obtain ⟨e1q, e2q, e3q⟩ := hq
  subst xq mq rq
  refine z_iret e_X5_isRow_13 (Or.inr ⟨rfl, by split <;> simp⟩) rfl rfl ⟨rfl, _, rfl, ?_⟩
  exact ⟨rfl, rfl, rfl⟩
set_option maxHeartbeats 1000000 in
set_option maxRecDepth 100000 in
theorem c_X5_isColumn {E : z_E} {mi : z_Mi} {mr : z_Mr} {o : Nat} {P : Int → Int} {column : Int} (hM : z_MO E mr o) (hH : p_hd P) (hz : z_R column) : z_mi M_X5_isColumn E [zo o, zi column] (z_u mi (o + 1) P) mr (fun x m r => x = (if 0 ≤ column ∧ column ≤ P 0 - 1 then 1 else 0) ∧ m = z_u mi (o + 1) P ∧ r = mr) := by
  obtain ⟨t0, t1, t2, t3, t4, t5, t6, t7, q0, q2, q3, q4, q5, q6, q7⟩ := id hM
  obtain ⟨hw0, hw1, hh0, hh1, hf0, hf1, hf2, hr0, hr1, hc0, hc1, hp0, hp1, hk0, hk1, hi0, hi1, hkp, hP⟩ := id hH
  refine z_ofi (ls := [some (zo o), some (zi column)]) rfl (fun _ _ => trivial) ⟨rfl, rfl⟩ (Nat.le_of_ble_eq_true rfl) rfl ?_
  refine z_iload_n e_X5_isColumn_0 rfl ?_
  refine z_iconst e_X5_isColumn_1 ?_
  refine z_aload_n e_X5_isColumn_2 rfl ?_
  refine z_getr (fi := 0) (r := some (o + 1)) e_X5_isColumn_3 f_RX5_7 t0 rfl rfl (q0) ?_
  refine z_iconst e_X5_isColumn_6 ?_
  refine z_iald (x := (P 0)) e_X5_isColumn_7 t1 (by decide) (by decide) (by decide) (congrFun (z_us _ _ _) _) ?_
  refine z_iconst e_X5_isColumn_8 ?_
  refine z_isub e_X5_isColumn_9 ?_
  refine z_callSi (M' := M_X5_in) (As := [zi column, zi 0, zi ((P 0) - 1)]) (rest := []) e_X5_isColumn_10 l_RX5_47 rfl rfl rfl rfl (c_X5_in ⟨by omega, by omega⟩ ⟨by omega, by omega⟩ ⟨by omega, by omega⟩) (fun xq mq rq hq => ?_)
  obtain ⟨e1q, e2q, e3q⟩ := hq
  subst xq mq rq
  refine z_iret e_X5_isColumn_13 (Or.inr ⟨rfl, by split <;> simp⟩) rfl rfl ⟨rfl, _, rfl, ?_⟩
  exact ⟨rfl, rfl, rfl⟩
set_option maxHeartbeats 1000000 in
set_option maxRecDepth 100000 in
theorem c_X5_goes {E : z_E} {mi : z_Mi} {mr : z_Mr} {o : Nat} {P : Int → Int} {row c : Int} (hM : z_MO E mr o) : z_mv M_X5_goes E [zo o, zi row, zi c] (z_u mi (o + 1) P) mr (fun m r => m = z_u mi (o + 1) (p_goes row c P) ∧ r = mr) := by
  obtain ⟨t0, t1, t2, t3, t4, t5, t6, t7, q0, q2, q3, q4, q5, q6, q7⟩ := id hM
  refine z_ofv (ls := [some (zo o), some (zi row), some (zi c)]) rfl (fun _ _ => trivial) ⟨rfl, rfl⟩ (Nat.le_of_ble_eq_true rfl) rfl ?_
  refine z_aload_n e_X5_goes_0 rfl ?_
  refine z_getr (fi := 0) (r := some (o + 1)) e_X5_goes_1 f_RX5_7 t0 rfl rfl (q0) ?_
  refine z_iconst e_X5_goes_4 ?_
  refine z_iload_n e_X5_goes_5 rfl ?_
  refine z_iastU e_X5_goes_6 t1 (by decide) (by decide) (by decide) ?_
  refine z_aload_n e_X5_goes_7 rfl ?_
  refine z_getr (fi := 0) (r := some (o + 1)) e_X5_goes_8 f_RX5_7 t0 rfl rfl (q0) ?_
  refine z_iconst e_X5_goes_11 ?_
  refine z_iload_n e_X5_goes_12 rfl ?_
  refine z_iastU e_X5_goes_13 t1 (by decide) (by decide) (by decide) ?_
  refine z_aload_n e_X5_goes_14 rfl ?_
  refine z_getr (fi := 0) (r := some (o + 1)) e_X5_goes_15 f_RX5_7 t0 rfl rfl (q0) ?_
  refine z_bipush e_X5_goes_18 (by decide +kernel) ?_
  refine z_iconst e_X5_goes_20 ?_
  refine z_iastU e_X5_goes_21 t1 (by decide) (by decide) (by decide) ?_
  refine z_ret e_X5_goes_22 rfl rfl rfl ⟨rfl, rfl, ?_⟩
  exact ⟨rfl, rfl⟩
set_option maxHeartbeats 1000000 in
set_option maxRecDepth 100000 in
theorem c_X5_moveTo {E : z_E} {mi : z_Mi} {mr : z_Mr} {o : Nat} {P F : Int → Int} {row column : Int} (hM : z_MO E mr o) (hH : p_hd P) (hF1 : 0 ≤ F 1) (hF2 : F 1 ≤ 8) (hz1 : z_R row) (hz2 : z_R column) : z_mi M_X5_moveTo E [zo o, zi row, zi column] (z_u (z_u mi o F) (o + 1) P) mr (fun x m r => (((0 ≤ row ∧ row ≤ P 1 - 1) ∧ (0 ≤ column ∧ column ≤ P 0 - 1)) → x = P 0 * P 4 + P 5 ∧ m = z_u (z_u mi o (f_rec F)) (o + 1) (p_goes row column (p_rec (F 1) P))) ∧ (¬ (((0 ≤ row ∧ row ≤ P 1 - 1) ∧ (0 ≤ column ∧ column ≤ P 0 - 1))) → x = -1 ∧ m = z_u (z_u mi o F) (o + 1) P) ∧ r = mr) := by
  obtain ⟨t0, t1, t2, t3, t4, t5, t6, t7, q0, q2, q3, q4, q5, q6, q7⟩ := id hM
  obtain ⟨hw0, hw1, hh0, hh1, hf0, hf1, hf2, hr0, hr1, hc0, hc1, hp0, hp1, hk0, hk1, hi0, hi1, hkp, hP⟩ := id hH
  refine z_ofi (ls := [some (zo o), some (zi row), some (zi column), none]) rfl (fun _ _ => trivial) ⟨rfl, rfl⟩ (Nat.le_of_ble_eq_true rfl) rfl ?_
  refine z_aload_n e_X5_moveTo_0 rfl ?_
  refine z_iload_n e_X5_moveTo_1 rfl ?_
  refine z_callVi (M' := M_X5_isRow) (As := [zi row]) (rest := []) e_X5_moveTo_2 l_RX5_105 rfl rfl rfl rfl t0 ⟨_, _, rfl⟩ (c_X5_isRow hM hH ⟨by omega, by omega⟩) (fun xq mq rq hq => ?_)
  obtain ⟨e1q, e2q, e3q⟩ := hq
  subst xq mq rq
  refine z_if_eqB e_X5_moveTo_5  (fun h5_1 => ?_) (fun h5_1 => ?_)
  · refine z_iconst e_X5_moveTo_16 ?_
    refine z_iret e_X5_moveTo_17 (Or.inl rfl) rfl rfl ⟨rfl, _, rfl, ?_⟩
    exact ⟨fun hb => absurd hb (by omega), fun _ => ⟨rfl, rfl⟩, rfl⟩
  · refine z_aload_n e_X5_moveTo_8 rfl ?_
    refine z_iload_n e_X5_moveTo_9 rfl ?_
    refine z_callVi (M' := M_X5_isColumn) (As := [zi column]) (rest := []) e_X5_moveTo_10 l_RX5_108 rfl rfl rfl rfl t0 ⟨_, _, rfl⟩ (c_X5_isColumn hM hH ⟨by omega, by omega⟩) (fun xq mq rq hq => ?_)
    obtain ⟨e1q, e2q, e3q⟩ := hq
    subst xq mq rq
    refine z_if_neB e_X5_moveTo_13  (fun h13_2 => ?_) (fun h13_2 => ?_)
    · refine z_aload_n e_X5_moveTo_18 rfl ?_
      refine z_callVv (M' := M_X5_records) (As := []) (rest := []) e_X5_moveTo_19 l_RX5_96 rfl rfl rfl rfl t0 ⟨_, _, rfl⟩ (c_X5_records hM (by omega) (by omega)) (fun mq rq hq => ?_)
      obtain ⟨e2q, e3q⟩ := hq
      subst mq rq
      generalize hgP1 : (p_rec (F 1) P) = P1
      have hd1 : p_hd P1 := by rw [← hgP1]; exact p_hd_rec hH hF1
      have e1 : ∀ k, k < 719 → P1 k = P k := by intro k hk; rw [← hgP1]; exact p_rec_hd hF1 hk
      have e1_0 : P1 0 = P 0 := e1 0 (by decide)
      have e1_1 : P1 1 = P 1 := e1 1 (by decide)
      have e1_2 : P1 2 = P 2 := e1 2 (by decide)
      have e1_3 : P1 3 = P 3 := e1 3 (by decide)
      have e1_4 : P1 4 = P 4 := e1 4 (by decide)
      have e1_5 : P1 5 = P 5 := e1 5 (by decide)
      have e1_7 : P1 7 = P 7 := e1 7 (by decide)
      have e1_14 : P1 14 = P 14 := e1 14 (by decide)
      clear hw0 hw1 hh0 hh1 hf0 hf1 hf2 hr0 hr1 hc0 hc1 hp0 hp1 hk0 hk1 hi0 hi1 hkp
      obtain ⟨hw0, hw1, hh0, hh1, hf0, hf1, hf2, hr0, hr1, hc0, hc1, hp0, hp1, hk0, hk1, hi0, hi1, hkp, hP1⟩ := id hd1
      refine z_aload_n e_X5_moveTo_22 rfl ?_
      refine z_getr (fi := 0) (r := some (o + 1)) e_X5_moveTo_23 f_RX5_7 t0 rfl rfl (q0) ?_
      refine z_iconst e_X5_moveTo_26 ?_
      refine z_iald (x := (P1 0)) e_X5_moveTo_27 t1 (by decide) (by decide) (by decide) (congrFun (z_us _ _ _) _) ?_
      refine z_aload_n e_X5_moveTo_28 rfl ?_
      refine z_getr (fi := 0) (r := some (o + 1)) e_X5_moveTo_29 f_RX5_7 t0 rfl rfl (q0) ?_
      refine z_iconst e_X5_moveTo_32 ?_
      refine z_iald (x := (P1 4)) e_X5_moveTo_33 t1 (by decide) (by decide) (by decide) (congrFun (z_us _ _ _) _) ?_
      refine z_imul e_X5_moveTo_34 ?_
      refine z_aload_n e_X5_moveTo_35 rfl ?_
      refine z_getr (fi := 0) (r := some (o + 1)) e_X5_moveTo_36 f_RX5_7 t0 rfl rfl (q0) ?_
      refine z_iconst e_X5_moveTo_39 ?_
      refine z_iald (x := (P1 5)) e_X5_moveTo_40 t1 (by decide) (by decide) (by decide) (congrFun (z_us _ _ _) _) ?_
      refine z_iadd e_X5_moveTo_41 ?_
      refine z_istore_n (ls' := [some (zo o), some (zi row), some (zi column), some (zi (((P1 0) * (P1 4)) + (P1 5)))]) e_X5_moveTo_42 rfl rfl rfl ?_
      refine z_aload_n e_X5_moveTo_43 rfl ?_
      refine z_iload_n e_X5_moveTo_44 rfl ?_
      refine z_iload_n e_X5_moveTo_45 rfl ?_
      refine z_callVv (M' := M_X5_goes) (As := [zi row, zi column]) (rest := []) e_X5_moveTo_46 l_RX5_111 rfl rfl rfl rfl t0 ⟨_, _, rfl⟩ (c_X5_goes hM) (fun mq rq hq => ?_)
      obtain ⟨e2q, e3q⟩ := hq
      subst mq rq
      refine z_iload_n e_X5_moveTo_49 rfl ?_
      refine z_iret e_X5_moveTo_50 (Or.inl rfl) rfl rfl ⟨rfl, _, rfl, ?_⟩
      refine ⟨fun hb => ⟨?_, ?_⟩, fun hb => absurd (by omega) hb, rfl⟩
      · rw [e1 0 (by decide), e1 4 (by decide), e1 5 (by decide)]
      · rfl
    · refine z_iconst e_X5_moveTo_16 ?_
      refine z_iret e_X5_moveTo_17 (Or.inl rfl) rfl rfl ⟨rfl, _, rfl, ?_⟩
      exact ⟨fun hb => absurd hb (by omega), fun _ => ⟨rfl, rfl⟩, rfl⟩
set_option maxHeartbeats 1000000 in
set_option maxRecDepth 100000 in
theorem c_X5_setRegion {E : z_E} {mi : z_Mi} {mr : z_Mr} {o : Nat} {P F : Int → Int} {a b : Int} (hM : z_MO E mr o) (hH : p_hd P) (hF1 : 0 ≤ F 1) (hF2 : F 1 ≤ 8) (hz1 : z_R a) (hz2 : z_R b) : z_mi M_X5_setRegion E [zo o, zi a, zi b] (z_u (z_u mi o F) (o + 1) P) mr (fun x m r => (((0 ≤ a ∧ a ≤ P 1 - 1) ∧ (0 ≤ b ∧ b ≤ P 1 - 1) ∧ a < b) → x = b - a + 1 ∧ m = z_u (z_u mi o (f_rec F)) (o + 1) (p_reg a b (p_rec (F 1) P))) ∧ (¬ (((0 ≤ a ∧ a ≤ P 1 - 1) ∧ (0 ≤ b ∧ b ≤ P 1 - 1) ∧ a < b)) → x = -1 ∧ m = z_u (z_u mi o F) (o + 1) P) ∧ r = mr) := by
  obtain ⟨t0, t1, t2, t3, t4, t5, t6, t7, q0, q2, q3, q4, q5, q6, q7⟩ := id hM
  obtain ⟨hw0, hw1, hh0, hh1, hf0, hf1, hf2, hr0, hr1, hc0, hc1, hp0, hp1, hk0, hk1, hi0, hi1, hkp, hP⟩ := id hH
  refine z_ofi (ls := [some (zo o), some (zi a), some (zi b)]) rfl (fun _ _ => trivial) ⟨rfl, rfl⟩ (Nat.le_of_ble_eq_true rfl) rfl ?_
  refine z_aload_n e_X5_setRegion_0 rfl ?_
  refine z_iload_n e_X5_setRegion_1 rfl ?_
  refine z_callVi (M' := M_X5_isRow) (As := [zi a]) (rest := []) e_X5_setRegion_2 l_RX5_105 rfl rfl rfl rfl t0 ⟨_, _, rfl⟩ (c_X5_isRow hM hH ⟨by omega, by omega⟩) (fun xq mq rq hq => ?_)
  obtain ⟨e1q, e2q, e3q⟩ := hq
  subst xq mq rq
  refine z_if_eqB e_X5_setRegion_5  (fun h5_1 => ?_) (fun h5_1 => ?_)
  · refine z_iconst e_X5_setRegion_21 ?_
    refine z_iret e_X5_setRegion_22 (Or.inl rfl) rfl rfl ⟨rfl, _, rfl, ?_⟩
    exact ⟨fun hb => absurd hb (by omega), fun _ => ⟨rfl, rfl⟩, rfl⟩
  · refine z_aload_n e_X5_setRegion_8 rfl ?_
    refine z_iload_n e_X5_setRegion_9 rfl ?_
    refine z_callVi (M' := M_X5_isRow) (As := [zi b]) (rest := []) e_X5_setRegion_10 l_RX5_105 rfl rfl rfl rfl t0 ⟨_, _, rfl⟩ (c_X5_isRow hM hH ⟨by omega, by omega⟩) (fun xq mq rq hq => ?_)
    obtain ⟨e1q, e2q, e3q⟩ := hq
    subst xq mq rq
    refine z_if_eqB e_X5_setRegion_13  (fun h13_2 => ?_) (fun h13_2 => ?_)
    · refine z_iconst e_X5_setRegion_21 ?_
      refine z_iret e_X5_setRegion_22 (Or.inl rfl) rfl rfl ⟨rfl, _, rfl, ?_⟩
      exact ⟨fun hb => absurd hb (by omega), fun _ => ⟨rfl, rfl⟩, rfl⟩
    · refine z_iload_n e_X5_setRegion_16 rfl ?_
      refine z_iload_n e_X5_setRegion_17 rfl ?_
      refine z_icmp_gt e_X5_setRegion_18 ⟨by omega, by omega⟩ ⟨by omega, by omega⟩ (fun h18_3 => ?_) (fun h18_3 => ?_)
      · refine z_aload_n e_X5_setRegion_23 rfl ?_
        refine z_callVv (M' := M_X5_records) (As := []) (rest := []) e_X5_setRegion_24 l_RX5_96 rfl rfl rfl rfl t0 ⟨_, _, rfl⟩ (c_X5_records hM (by omega) (by omega)) (fun mq rq hq => ?_)
        obtain ⟨e2q, e3q⟩ := hq
        subst mq rq
        generalize hgP1 : (p_rec (F 1) P) = P1
        have hd1 : p_hd P1 := by rw [← hgP1]; exact p_hd_rec hH hF1
        have e1 : ∀ k, k < 719 → P1 k = P k := by intro k hk; rw [← hgP1]; exact p_rec_hd hF1 hk
        have e1_0 : P1 0 = P 0 := e1 0 (by decide)
        have e1_1 : P1 1 = P 1 := e1 1 (by decide)
        have e1_2 : P1 2 = P 2 := e1 2 (by decide)
        have e1_3 : P1 3 = P 3 := e1 3 (by decide)
        have e1_4 : P1 4 = P 4 := e1 4 (by decide)
        have e1_5 : P1 5 = P 5 := e1 5 (by decide)
        have e1_7 : P1 7 = P 7 := e1 7 (by decide)
        have e1_14 : P1 14 = P 14 := e1 14 (by decide)
        clear hw0 hw1 hh0 hh1 hf0 hf1 hf2 hr0 hr1 hc0 hc1 hp0 hp1 hk0 hk1 hi0 hi1 hkp
        obtain ⟨hw0, hw1, hh0, hh1, hf0, hf1, hf2, hr0, hr1, hc0, hc1, hp0, hp1, hk0, hk1, hi0, hi1, hkp, hP1⟩ := id hd1
        refine z_aload_n e_X5_setRegion_27 rfl ?_
        refine z_getr (fi := 0) (r := some (o + 1)) e_X5_setRegion_28 f_RX5_7 t0 rfl rfl (q0) ?_
        refine z_iconst e_X5_setRegion_31 ?_
        refine z_iload_n e_X5_setRegion_32 rfl ?_
        refine z_iastU e_X5_setRegion_33 t1 (by decide) (by decide) (by decide) ?_
        refine z_aload_n e_X5_setRegion_34 rfl ?_
        refine z_getr (fi := 0) (r := some (o + 1)) e_X5_setRegion_35 f_RX5_7 t0 rfl rfl (q0) ?_
        refine z_iconst e_X5_setRegion_38 ?_
        refine z_iload_n e_X5_setRegion_39 rfl ?_
        refine z_iastU e_X5_setRegion_40 t1 (by decide) (by decide) (by decide) ?_
        refine z_aload_n e_X5_setRegion_41 rfl ?_
        refine z_iconst e_X5_setRegion_42 ?_
        refine z_iconst e_X5_setRegion_43 ?_
        refine z_callVv (M' := M_X5_goes) (As := [zi 0, zi 0]) (rest := []) e_X5_setRegion_44 l_RX5_111 rfl rfl rfl rfl t0 ⟨_, _, rfl⟩ (c_X5_goes hM) (fun mq rq hq => ?_)
        obtain ⟨e2q, e3q⟩ := hq
        subst mq rq
        refine z_iload_n e_X5_setRegion_47 rfl ?_
        refine z_iload_n e_X5_setRegion_48 rfl ?_
        refine z_isub e_X5_setRegion_49 ?_
        refine z_iconst e_X5_setRegion_50 ?_
        refine z_iadd e_X5_setRegion_51 ?_
        refine z_iret e_X5_setRegion_52 (Or.inl rfl) rfl rfl ⟨rfl, _, rfl, ?_⟩
        refine ⟨fun hb => ⟨?_, ?_⟩, fun hb => absurd (by omega) hb, rfl⟩
        · rfl
        · rfl
      · refine z_iconst e_X5_setRegion_21 ?_
        refine z_iret e_X5_setRegion_22 (Or.inl rfl) rfl rfl ⟨rfl, _, rfl, ?_⟩
        exact ⟨fun hb => absurd hb (by omega), fun _ => ⟨rfl, rfl⟩, rfl⟩
set_option maxHeartbeats 1000000 in
set_option maxRecDepth 100000 in
theorem c_X5_erasesLine {E : z_E} {mi : z_Mi} {mr : z_Mr} {o : Nat} {P : Int → Int} {kind : Int} (hM : z_MO E mr o) (hH : p_hd P) (hz : z_R kind) : z_mv M_X5_erasesLine E [zo o, zi kind] (z_u mi (o + 1) P) mr (fun m r => m = z_u mi (o + 1) (p_eline kind P) ∧ r = mr) := by
  obtain ⟨t0, t1, t2, t3, t4, t5, t6, t7, q0, q2, q3, q4, q5, q6, q7⟩ := id hM
  obtain ⟨hw0, hw1, hh0, hh1, hf0, hf1, hf2, hr0, hr1, hc0, hc1, hp0, hp1, hk0, hk1, hi0, hi1, hkp, hP⟩ := id hH
  refine z_ofv (ls := [some (zo o), some (zi kind), none, none]) rfl (fun _ _ => trivial) ⟨rfl, rfl⟩ (Nat.le_of_ble_eq_true rfl) rfl ?_
  have join14_0 : ∀ (a : Int), a = (if kind = 0 then P 5 else 0) → z_A M_X5_erasesLine E 0 0 14 [some (zo o), some (zi kind), none, none] [zi a] (z_u mi (o + 1) P) mr (z_qv E (fun m r => m = z_u mi (o + 1) (p_eline kind P) ∧ r = mr)) := by
    intro a hj
    have hj1 := hj
    have ha : 0 ≤ a ∧ a ≤ P 5 := by rw [hj]; split <;> omega
    refine z_istore_n (ls' := [some (zo o), some (zi kind), some (zi a), none]) e_X5_erasesLine_14 rfl rfl rfl ?_
    have join37_1 : ∀ (b : Int), b = (if kind = 1 then P 5 else P 0 - 1) → z_A M_X5_erasesLine E 0 0 37 [some (zo o), some (zi kind), some (zi a), none] [zi b] (z_u mi (o + 1) P) mr (z_qv E (fun m r => m = z_u mi (o + 1) (p_eline kind P) ∧ r = mr)) := by
      intro b hj
      have hj2 := hj
      have hb : P 5 ≤ b ∧ b < P 0 := by rw [hj]; split <;> omega
      refine z_istore_n (ls' := [some (zo o), some (zi kind), some (zi a), some (zi b)]) e_X5_erasesLine_37 rfl rfl rfl ?_
      refine z_aload_n e_X5_erasesLine_38 rfl ?_
      refine z_aload_n e_X5_erasesLine_39 rfl ?_
      refine z_getr (fi := 0) (r := some (o + 1)) e_X5_erasesLine_40 f_RX5_7 t0 rfl rfl (q0) ?_
      refine z_iconst e_X5_erasesLine_43 ?_
      refine z_iald (x := (P 4)) e_X5_erasesLine_44 t1 (by decide) (by decide) (by decide) (congrFun (z_us _ _ _) _) ?_
      refine z_iload_n e_X5_erasesLine_45 rfl ?_
      refine z_iload_n e_X5_erasesLine_46 rfl ?_
      refine z_callVv (M' := M_X5_erases) (As := [zi (P 4), zi a, zi b]) (rest := []) e_X5_erasesLine_47 l_RX5_93 rfl rfl rfl rfl t0 ⟨_, _, rfl⟩ (c_X5_erases hM (by omega) (by omega) (by omega) (by omega) (by omega) (by omega) (by omega) hP) (fun mq rq hq => ?_)
      obtain ⟨e2q, e3q⟩ := hq
      subst mq rq
      refine z_aload_n e_X5_erasesLine_50 rfl ?_
      refine z_getr (fi := 0) (r := some (o + 1)) e_X5_erasesLine_51 f_RX5_7 t0 rfl rfl (q0) ?_
      refine z_bipush e_X5_erasesLine_54 (by decide +kernel) ?_
      refine z_iconst e_X5_erasesLine_56 ?_
      refine z_iastU e_X5_erasesLine_57 t1 (by decide) (by decide) (by decide) ?_
      refine z_ret e_X5_erasesLine_58 rfl rfl rfl ⟨rfl, rfl, ?_⟩
      refine ⟨congrArg _ ?_, rfl⟩
      unfold p_eline
      rw [← hj1, ← hj2]
    refine z_iload_n e_X5_erasesLine_15 rfl ?_
    refine z_iconst e_X5_erasesLine_16 ?_
    refine z_icmp_ne e_X5_erasesLine_17 ⟨by omega, by omega⟩ (by decide) (fun h17_3 => ?_) (fun h17_3 => ?_)
    · refine z_aload_n e_X5_erasesLine_29 rfl ?_
      refine z_getr (fi := 0) (r := some (o + 1)) e_X5_erasesLine_30 f_RX5_7 t0 rfl rfl (q0) ?_
      refine z_iconst e_X5_erasesLine_33 ?_
      refine z_iald (x := (P 0)) e_X5_erasesLine_34 t1 (by decide) (by decide) (by decide) (congrFun (z_us _ _ _) _) ?_
      refine z_iconst e_X5_erasesLine_35 ?_
      refine z_isub e_X5_erasesLine_36 ?_
      exact join37_1 ((P 0) - 1) ((if_neg (by omega)).symm)
    · refine z_aload_n e_X5_erasesLine_20 rfl ?_
      refine z_getr (fi := 0) (r := some (o + 1)) e_X5_erasesLine_21 f_RX5_7 t0 rfl rfl (q0) ?_
      refine z_iconst e_X5_erasesLine_24 ?_
      refine z_iald (x := (P 5)) e_X5_erasesLine_25 t1 (by decide) (by decide) (by decide) (congrFun (z_us _ _ _) _) ?_
      refine z_goto e_X5_erasesLine_26 ?_
      exact join37_1 (P 5) ((if_pos (by omega)).symm)
  refine z_iload_n e_X5_erasesLine_0 rfl ?_
  refine z_if_ne e_X5_erasesLine_1 ⟨by omega, by omega⟩ (fun h1_4 => ?_) (fun h1_4 => ?_)
  · refine z_iconst e_X5_erasesLine_13 ?_
    exact join14_0 0 ((if_neg (by omega)).symm)
  · refine z_aload_n e_X5_erasesLine_4 rfl ?_
    refine z_getr (fi := 0) (r := some (o + 1)) e_X5_erasesLine_5 f_RX5_7 t0 rfl rfl (q0) ?_
    refine z_iconst e_X5_erasesLine_8 ?_
    refine z_iald (x := (P 5)) e_X5_erasesLine_9 t1 (by decide) (by decide) (by decide) (congrFun (z_us _ _ _) _) ?_
    refine z_goto e_X5_erasesLine_10 ?_
    exact join14_0 (P 5) ((if_pos (by omega)).symm)
set_option maxHeartbeats 1000000 in
set_option maxRecDepth 100000 in
theorem c_X5_eraseLine {E : z_E} {mi : z_Mi} {mr : z_Mr} {o : Nat} {P F : Int → Int} {kind : Int} (hM : z_MO E mr o) (hH : p_hd P) (hF1 : 0 ≤ F 1) (hF2 : F 1 ≤ 8) (hz : z_R kind) : z_mi M_X5_eraseLine E [zo o, zi kind] (z_u (z_u mi o F) (o + 1) P) mr (fun x m r => ((0 ≤ kind ∧ kind ≤ 2) → x = m_fillA (p_rec (F 1) P) - m_fillA (p_eline kind (p_rec (F 1) P)) ∧ m = z_u (z_u mi o (f_rec F)) (o + 1) (p_eline kind (p_rec (F 1) P))) ∧ (¬ ((0 ≤ kind ∧ kind ≤ 2)) → x = -1 ∧ m = z_u (z_u mi o F) (o + 1) P) ∧ r = mr) := by
  obtain ⟨t0, t1, t2, t3, t4, t5, t6, t7, q0, q2, q3, q4, q5, q6, q7⟩ := id hM
  obtain ⟨hw0, hw1, hh0, hh1, hf0, hf1, hf2, hr0, hr1, hc0, hc1, hp0, hp1, hk0, hk1, hi0, hi1, hkp, hP⟩ := id hH
  refine z_ofi (ls := [some (zo o), some (zi kind), none]) rfl (fun _ _ => trivial) ⟨rfl, rfl⟩ (Nat.le_of_ble_eq_true rfl) rfl ?_
  refine z_iload_n e_X5_eraseLine_0 rfl ?_
  refine z_iconst e_X5_eraseLine_1 ?_
  refine z_iconst e_X5_eraseLine_2 ?_
  refine z_callSi (M' := M_X5_in) (As := [zi kind, zi 0, zi 2]) (rest := []) e_X5_eraseLine_3 l_RX5_47 rfl rfl rfl rfl (c_X5_in ⟨by omega, by omega⟩ ⟨by omega, by omega⟩ ⟨by omega, by omega⟩) (fun xq mq rq hq => ?_)
  obtain ⟨e1q, e2q, e3q⟩ := hq
  subst xq mq rq
  refine z_if_neB e_X5_eraseLine_6  (fun h6_1 => ?_) (fun h6_1 => ?_)
  · refine z_aload_n e_X5_eraseLine_11 rfl ?_
    refine z_callVv (M' := M_X5_records) (As := []) (rest := []) e_X5_eraseLine_12 l_RX5_96 rfl rfl rfl rfl t0 ⟨_, _, rfl⟩ (c_X5_records hM (by omega) (by omega)) (fun mq rq hq => ?_)
    obtain ⟨e2q, e3q⟩ := hq
    subst mq rq
    generalize hgP1 : (p_rec (F 1) P) = P1
    have hd1 : p_hd P1 := by rw [← hgP1]; exact p_hd_rec hH hF1
    have e1 : ∀ k, k < 719 → P1 k = P k := by intro k hk; rw [← hgP1]; exact p_rec_hd hF1 hk
    have e1_0 : P1 0 = P 0 := e1 0 (by decide)
    have e1_1 : P1 1 = P 1 := e1 1 (by decide)
    have e1_2 : P1 2 = P 2 := e1 2 (by decide)
    have e1_3 : P1 3 = P 3 := e1 3 (by decide)
    have e1_4 : P1 4 = P 4 := e1 4 (by decide)
    have e1_5 : P1 5 = P 5 := e1 5 (by decide)
    have e1_7 : P1 7 = P 7 := e1 7 (by decide)
    have e1_14 : P1 14 = P 14 := e1 14 (by decide)
    clear hw0 hw1 hh0 hh1 hf0 hf1 hf2 hr0 hr1 hc0 hc1 hp0 hp1 hk0 hk1 hi0 hi1 hkp
    obtain ⟨hw0, hw1, hh0, hh1, hf0, hf1, hf2, hr0, hr1, hc0, hc1, hp0, hp1, hk0, hk1, hi0, hi1, hkp, hP1⟩ := id hd1
    refine z_aload_n e_X5_eraseLine_15 rfl ?_
    refine z_callVi (M' := M_X5_filledAll) (As := []) (rest := []) e_X5_eraseLine_16 l_RX5_114 rfl rfl rfl rfl t0 ⟨_, _, rfl⟩ (c_X5_filledAll hM hd1) (fun xq mq rq hq => ?_)
    obtain ⟨e1q, e2q, e3q⟩ := hq
    subst xq mq rq
    refine z_istore_n (ls' := [some (zo o), some (zi kind), some (zi (m_fillA P1))]) e_X5_eraseLine_19 rfl rfl rfl ?_
    refine z_aload_n e_X5_eraseLine_20 rfl ?_
    refine z_iload_n e_X5_eraseLine_21 rfl ?_
    refine z_callVv (M' := M_X5_erasesLine) (As := [zi kind]) (rest := []) e_X5_eraseLine_22 l_RX5_118 rfl rfl rfl rfl t0 ⟨_, _, rfl⟩ (c_X5_erasesLine hM hd1 ⟨by omega, by omega⟩) (fun mq rq hq => ?_)
    obtain ⟨e2q, e3q⟩ := hq
    subst mq rq
    refine z_iload_n e_X5_eraseLine_25 rfl ?_
    refine z_aload_n e_X5_eraseLine_26 rfl ?_
    refine z_callVi (M' := M_X5_filledAll) (As := []) (rest := [zi (m_fillA P1)]) e_X5_eraseLine_27 l_RX5_114 rfl rfl rfl rfl t0 ⟨_, _, rfl⟩ (c_X5_filledAll hM (p_hd_eline hd1)) (fun xq mq rq hq => ?_)
    obtain ⟨e1q, e2q, e3q⟩ := hq
    subst xq mq rq
    refine z_isub e_X5_eraseLine_30 ?_
    refine z_iret e_X5_eraseLine_31 (Or.inl rfl) rfl rfl ⟨rfl, _, rfl, ?_⟩
    refine ⟨fun hb => ⟨?_, ?_⟩, fun hb => absurd (by omega) hb, rfl⟩
    · rfl
    · rfl
  · refine z_iconst e_X5_eraseLine_9 ?_
    refine z_iret e_X5_eraseLine_10 (Or.inl rfl) rfl rfl ⟨rfl, _, rfl, ?_⟩
    exact ⟨fun hb => absurd hb (by omega), fun _ => ⟨rfl, rfl⟩, rfl⟩
