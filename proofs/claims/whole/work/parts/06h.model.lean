set_option maxHeartbeats 1000000 in
set_option maxRecDepth 100000 in
theorem c_X5_marks {E : z_E} {mi : z_Mi} {mr : z_Mr} {o : Nat} {P F X L M U V B : Int → Int} (hM : z_MO E mr o) (hH : p_hd P) : z_mv M_X5_marks E [zo o] (z_u (z_u (z_u (z_u (z_u (z_u (z_u (z_u mi (o + 2) X) (o + 3) L) (o + 4) M) (o + 5) U) (o + 6) V) (o + 7) B) o F) (o + 1) P) mr (fun m r => m = (z_u (z_u (z_u (z_u (z_u (z_u (z_u (z_u mi (o + 2) X) (o + 3) (y_mk P 2 L 4)) (o + 4) (y_mk P 3 M 4)) (o + 5) U) (o + 6) V) (o + 7) (y_bz B 4)) o F) (o + 1) P) ∧ r = mr) := by
  obtain ⟨t0, t1, t2, t3, t4, t5, t6, t7, q0, q2, q3, q4, q5, q6, q7⟩ := id hM
  obtain ⟨hw0, hw1, hh0, hh1, hf0, hf1, hf2, hr0, hr1, hc0, hc1, hp0, hp1, hk0, hk1, hi0, hi1, hkp, hP⟩ := id hH
  refine z_ofv (ls := [some (zo o), none, none]) rfl (fun _ _ => trivial) ⟨rfl, rfl⟩ (Nat.le_of_ble_eq_true rfl) rfl ?_
  refine z_iconst e_X5_marks_0 ?_
  refine z_istore_n (ls' := [some (zo o), some (zi 0), none]) e_X5_marks_1 rfl rfl rfl ?_
  have loop2 : ∀ (nn : Nat) (j : Int) (L1 : Int → Int) (M1 : Int → Int) (B1 : Int → Int), (4 - j).toNat = nn → (0 ≤ j ∧ j ≤ 4 ∧ L1 = y_mk P 2 L j ∧ M1 = y_mk P 3 M j ∧ B1 = y_bz B j) → z_A M_X5_marks E 0 0 2 [some (zo o), some (zi j), none] [] (z_u (z_u (z_u (z_u (z_u (z_u (z_u (z_u mi (o + 2) X) (o + 3) L1) (o + 4) M1) (o + 5) U) (o + 6) V) (o + 7) B1) o F) (o + 1) P) mr (z_qv E (fun m r => m = (z_u (z_u (z_u (z_u (z_u (z_u (z_u (z_u mi (o + 2) X) (o + 3) (y_mk P 2 L 4)) (o + 4) (y_mk P 3 M 4)) (o + 5) U) (o + 6) V) (o + 7) (y_bz B 4)) o F) (o + 1) P) ∧ r = mr)) := by
    intro nn
    induction nn using Nat.strongRecOn with
    | _ nn ih2 =>
      intro j L1 M1 B1 hmeas hinv
      obtain ⟨hj0, hj1, hL1, hM1, hB1⟩ := hinv
      refine z_iload_n e_X5_marks_2 rfl ?_
      refine z_iconst e_X5_marks_3 ?_
      refine z_icmp_ge e_X5_marks_4 ⟨by omega, by omega⟩ (by decide) (fun h4_1 => ?_) (fun h4_1 => ?_)
      · refine z_ret e_X5_marks_79 rfl rfl rfl ⟨rfl, rfl, ?_⟩
        refine ⟨?_, rfl⟩
        rw [hL1, hM1, hB1, show j = 4 by omega]
      · have join23_1 : ∀ (is : Int), is = (if j ≤ P 7 then 1 else 0) → z_A M_X5_marks E 0 0 23 [some (zo o), some (zi j), none] [zi is] (z_u (z_u (z_u (z_u (z_u (z_u (z_u (z_u mi (o + 2) X) (o + 3) L1) (o + 4) M1) (o + 5) U) (o + 6) V) (o + 7) B1) o F) (o + 1) P) mr (z_qv E (fun m r => m = (z_u (z_u (z_u (z_u (z_u (z_u (z_u (z_u mi (o + 2) X) (o + 3) (y_mk P 2 L 4)) (o + 4) (y_mk P 3 M 4)) (o + 5) U) (o + 6) V) (o + 7) (y_bz B 4)) o F) (o + 1) P) ∧ r = mr)) := by
          intro is hj
          have his := hj
          have hisb : is = 1 ∧ j ≤ P 7 ∨ is = 0 ∧ ¬ j ≤ P 7 := by rw [hj]; split <;> omega
          refine z_istore_n (ls' := [some (zo o), some (zi j), some (zi is)]) e_X5_marks_23 rfl rfl rfl ?_
          refine z_aload_n e_X5_marks_24 rfl ?_
          refine z_getr (fi := 3) (r := some (o + 3)) e_X5_marks_25 f_RX5_16 t0 rfl rfl (q3) ?_
          refine z_iload_n e_X5_marks_28 rfl ?_
          have join44_2 : ∀ (v2 : Int), v2 = (if j ≤ P 7 then m_cur P j 2 else -9) → z_A M_X5_marks E 0 0 44 [some (zo o), some (zi j), some (zi is)] [zi v2, zi j, zo (o + 3)] (z_u (z_u (z_u (z_u (z_u (z_u (z_u (z_u mi (o + 2) X) (o + 3) L1) (o + 4) M1) (o + 5) U) (o + 6) V) (o + 7) B1) o F) (o + 1) P) mr (z_qv E (fun m r => m = (z_u (z_u (z_u (z_u (z_u (z_u (z_u (z_u mi (o + 2) X) (o + 3) (y_mk P 2 L 4)) (o + 4) (y_mk P 3 M 4)) (o + 5) U) (o + 6) V) (o + 7) (y_bz B 4)) o F) (o + 1) P) ∧ r = mr)) := by
            intro v2 hj
            have hv2 := hj
            refine z_iastX (f := L1) e_X5_marks_44 t3 (by decide) (by omega) (by omega) (((z_un (by omega)).trans (((z_un (by omega)).trans (((z_un (by omega)).trans (((z_un (by omega)).trans (((z_un (by omega)).trans (((z_un (by omega)).trans (z_us _ _ _))))))))))))) (z_ux (by omega) (z_ux (by omega) (z_ux (by omega) (z_ux (by omega) (z_ux (by omega) (z_ux (by omega) (z_uu _ _ _ _))))))) ?_
            refine z_aload_n e_X5_marks_45 rfl ?_
            refine z_getr (fi := 4) (r := some (o + 4)) e_X5_marks_46 f_RX5_19 t0 rfl rfl (q4) ?_
            refine z_iload_n e_X5_marks_49 rfl ?_
            have join65_3 : ∀ (v3 : Int), v3 = (if j ≤ P 7 then m_cur P j 3 else -9) → z_A M_X5_marks E 0 0 65 [some (zo o), some (zi j), some (zi is)] [zi v3, zi j, zo (o + 4)] (z_u (z_u (z_u (z_u (z_u (z_u (z_u (z_u mi (o + 2) X) (o + 3) (z_v L1 j v2)) (o + 4) M1) (o + 5) U) (o + 6) V) (o + 7) B1) o F) (o + 1) P) mr (z_qv E (fun m r => m = (z_u (z_u (z_u (z_u (z_u (z_u (z_u (z_u mi (o + 2) X) (o + 3) (y_mk P 2 L 4)) (o + 4) (y_mk P 3 M 4)) (o + 5) U) (o + 6) V) (o + 7) (y_bz B 4)) o F) (o + 1) P) ∧ r = mr)) := by
              intro v3 hj
              have hv3 := hj
              refine z_iastX (f := M1) e_X5_marks_65 t4 (by decide) (by omega) (by omega) (((z_un (by omega)).trans (((z_un (by omega)).trans (((z_un (by omega)).trans (((z_un (by omega)).trans (((z_un (by omega)).trans (z_us _ _ _))))))))))) (z_ux (by omega) (z_ux (by omega) (z_ux (by omega) (z_ux (by omega) (z_ux (by omega) (z_uu _ _ _ _)))))) ?_
              refine z_aload_n e_X5_marks_66 rfl ?_
              refine z_getr (fi := 7) (r := some (o + 7)) e_X5_marks_67 f_RX5_28 t0 rfl rfl (q7) ?_
              refine z_iload_n e_X5_marks_70 rfl ?_
              refine z_iconst e_X5_marks_71 ?_
              refine z_zastX (f := B1) e_X5_marks_72 t7 (by decide) (by omega) (by omega) (Or.inl rfl) (((z_un (by omega)).trans (((z_un (by omega)).trans (z_us _ _ _))))) (z_ux (by omega) (z_ux (by omega) (z_uu _ _ _ _))) ?_
              refine z_iinc (y := (j + 1)) (ls' := [some (zo o), some (zi (j + 1)), some (zi is)]) e_X5_marks_73 rfl rfl rfl rfl rfl ?_
              refine z_goto e_X5_marks_76 ?_
              refine z_fgt (ls' := [some (zo o), some (zi (j + 1)), none]) ⟨rfl, rfl, trivial⟩ ?_
              exact ih2 _ (by omega) (j + 1) (z_v L1 j v2) (z_v M1 j v3) (z_v B1 j 0) rfl (⟨by omega, by omega, y_mk_s (by omega) hL1 hv2, y_mk_s (by omega) hM1 hv3, y_bz_s (by omega) hB1⟩)
            refine z_iload_n e_X5_marks_50 rfl ?_
            refine z_if_eq e_X5_marks_51 ⟨by omega, by omega⟩ (fun h51_5 => ?_) (fun h51_5 => ?_)
            · refine z_bipush e_X5_marks_63 (by decide +kernel) ?_
              exact join65_3 (-9) ((if_neg (by omega)).symm)
            · refine z_aload_n e_X5_marks_54 rfl ?_
              refine z_iload_n e_X5_marks_55 rfl ?_
              refine z_iconst e_X5_marks_56 ?_
              refine z_callVi (M' := M_X5_cursorOf) (As := [zi j, zi 3]) (rest := [zi j, zo (o + 4)]) e_X5_marks_57 l_RX5_177 rfl rfl rfl rfl t0 ⟨_, _, rfl⟩ (c_X5_cursorOf hM hH (by omega) (by omega) ⟨by omega, by omega⟩) (fun xq mq rq hq => ?_)
              obtain ⟨e1q, e2q, e3q⟩ := hq
              subst xq mq rq
              refine z_goto e_X5_marks_60 ?_
              exact join65_3 (m_cur P j (if 3 < 0 ∨ 2 < 3 then 3 else 3)) ((if_pos (by omega)).symm)
          refine z_iload_n e_X5_marks_29 rfl ?_
          refine z_if_eq e_X5_marks_30 ⟨by omega, by omega⟩ (fun h30_6 => ?_) (fun h30_6 => ?_)
          · refine z_bipush e_X5_marks_42 (by decide +kernel) ?_
            exact join44_2 (-9) ((if_neg (by omega)).symm)
          · refine z_aload_n e_X5_marks_33 rfl ?_
            refine z_iload_n e_X5_marks_34 rfl ?_
            refine z_iconst e_X5_marks_35 ?_
            refine z_callVi (M' := M_X5_cursorOf) (As := [zi j, zi 2]) (rest := [zi j, zo (o + 3)]) e_X5_marks_36 l_RX5_177 rfl rfl rfl rfl t0 ⟨_, _, rfl⟩ (c_X5_cursorOf hM hH (by omega) (by omega) ⟨by omega, by omega⟩) (fun xq mq rq hq => ?_)
            obtain ⟨e1q, e2q, e3q⟩ := hq
            subst xq mq rq
            refine z_goto e_X5_marks_39 ?_
            exact join44_2 (m_cur P j (if 2 < 0 ∨ 2 < 2 then 3 else 2)) ((if_pos (by omega)).symm)
        refine z_iload_n e_X5_marks_7 rfl ?_
        refine z_aload_n e_X5_marks_8 rfl ?_
        refine z_getr (fi := 0) (r := some (o + 1)) e_X5_marks_9 f_RX5_7 t0 rfl rfl (q0) ?_
        refine z_bipush e_X5_marks_12 (by decide +kernel) ?_
        refine z_iald (x := (P 7)) e_X5_marks_14 t1 (by decide) (by decide) (by decide) (congrFun (z_us _ _ _) _) ?_
        refine z_icmp_gt e_X5_marks_15 ⟨by omega, by omega⟩ ⟨by omega, by omega⟩ (fun h15_7 => ?_) (fun h15_7 => ?_)
        · refine z_iconst e_X5_marks_22 ?_
          exact join23_1 0 ((if_neg (by omega)).symm)
        · refine z_iconst e_X5_marks_18 ?_
          refine z_goto e_X5_marks_19 ?_
          exact join23_1 1 ((if_pos (by omega)).symm)
  exact loop2 _ 0 L M B rfl (⟨by omega, by omega, (y_mk_0 _ _ _).symm, (y_mk_0 _ _ _).symm, (y_bz_0 _).symm⟩)
set_option maxHeartbeats 1000000 in
set_option maxRecDepth 100000 in
theorem c_X5_takes {E : z_E} {mi : z_Mi} {mr : z_Mr} {o : Nat} {P F X L M U V B : Int → Int} {row s : Int} (hM : z_MO E mr o) (h0 : 0 ≤ row) (h1 : row ≤ 31) (h2 : 0 ≤ s) (h3 : s ≤ 31) : z_mv M_X5_takes E [zo o, zi row, zi s] (z_u (z_u (z_u (z_u (z_u (z_u (z_u (z_u mi (o + 2) X) (o + 3) L) (o + 4) M) (o + 5) U) (o + 6) V) (o + 7) B) o F) (o + 1) P) mr (fun m r => m = (z_u (z_u (z_u (z_u (z_u (z_u (z_u (z_u mi (o + 2) X) (o + 3) L) (o + 4) M) (o + 5) U) (o + 6) V) (o + 7) B) o F) (o + 1) (p_upd P s (fun c => X (22 * row + c)))) ∧ r = mr) := by
  obtain ⟨t0, t1, t2, t3, t4, t5, t6, t7, q0, q2, q3, q4, q5, q6, q7⟩ := id hM
  refine z_ofv (ls := [some (zo o), some (zi row), some (zi s), none]) rfl (fun _ _ => trivial) ⟨rfl, rfl⟩ (Nat.le_of_ble_eq_true rfl) rfl ?_
  refine z_iconst e_X5_takes_0 ?_
  refine z_istore_n (ls' := [some (zo o), some (zi row), some (zi s), some (zi 0)]) e_X5_takes_1 rfl rfl rfl ?_
  have loop2 : ∀ (nn : Nat) (k : Int) (P1 : Int → Int), (22 - k).toNat = nn → (0 ≤ k ∧ k ≤ 22 ∧ P1 = (fun j => if 15 + 22 * s ≤ j ∧ j < 15 + 22 * s + k then X (22 * row + (j - (15 + 22 * s))) else P j)) → z_A M_X5_takes E 0 0 2 [some (zo o), some (zi row), some (zi s), some (zi k)] [] (z_u (z_u (z_u (z_u (z_u (z_u (z_u (z_u mi (o + 2) X) (o + 3) L) (o + 4) M) (o + 5) U) (o + 6) V) (o + 7) B) o F) (o + 1) P1) mr (z_qv E (fun m r => m = (z_u (z_u (z_u (z_u (z_u (z_u (z_u (z_u mi (o + 2) X) (o + 3) L) (o + 4) M) (o + 5) U) (o + 6) V) (o + 7) B) o F) (o + 1) (p_upd P s (fun c => X (22 * row + c)))) ∧ r = mr)) := by
    intro nn
    induction nn using Nat.strongRecOn with
    | _ nn ih2 =>
      intro k P1 hmeas hinv
      obtain ⟨hj0, hj1, hP1⟩ := hinv
      refine z_iload_n e_X5_takes_2 rfl ?_
      refine z_bipush e_X5_takes_3 (by decide +kernel) ?_
      refine z_icmp_ge e_X5_takes_5 ⟨by omega, by omega⟩ (by decide) (fun h5_1 => ?_) (fun h5_1 => ?_)
      · refine z_ret e_X5_takes_35 rfl rfl rfl ⟨rfl, rfl, ?_⟩
        refine ⟨?_, rfl⟩
        rw [hP1, show k = 22 by omega]
        rfl
      · refine z_aload_n e_X5_takes_8 rfl ?_
        refine z_getr (fi := 0) (r := some (o + 1)) e_X5_takes_9 f_RX5_7 t0 rfl rfl (q0) ?_
        refine z_iload_n e_X5_takes_12 rfl ?_
        refine z_iload_n e_X5_takes_13 rfl ?_
        refine z_callSi (M' := M_X5_at) (As := [zi s, zi k]) (rest := [zo (o + 1)]) e_X5_takes_14 l_RX5_40 rfl rfl rfl rfl (c_X5_at ) (fun xq mq rq hq => ?_)
        obtain ⟨e1q, e2q, e3q⟩ := hq
        subst xq mq rq
        refine z_aload_n e_X5_takes_17 rfl ?_
        refine z_getr (fi := 2) (r := some (o + 2)) e_X5_takes_18 f_RX5_13 t0 rfl rfl (q2) ?_
        refine z_bipush e_X5_takes_21 (by decide +kernel) ?_
        refine z_iload_n e_X5_takes_23 rfl ?_
        refine z_imul e_X5_takes_24 ?_
        refine z_iload_n e_X5_takes_25 rfl ?_
        refine z_iadd e_X5_takes_26 ?_
        refine z_iald (x := (X ((22 * row) + k))) e_X5_takes_27 t2 (by decide) (by omega) (by omega) (congrFun (((z_un (by omega)).trans (((z_un (by omega)).trans (((z_un (by omega)).trans (((z_un (by omega)).trans (((z_un (by omega)).trans (((z_un (by omega)).trans (((z_un (by omega)).trans (z_us _ _ _))))))))))))))) _) ?_
        refine z_iastU e_X5_takes_28 t1 (by decide) (by omega) (by omega) ?_
        refine z_iinc (y := (k + 1)) (ls' := [some (zo o), some (zi row), some (zi s), some (zi (k + 1))]) e_X5_takes_29 rfl rfl rfl rfl rfl ?_
        refine z_goto e_X5_takes_32 ?_
        exact ih2 _ (by omega) (k + 1) (z_v P1 (15 + 22 * s + k) (X ((22 * row) + k))) rfl (⟨by omega, by omega, by rw [hP1]; funext j; unfold z_v; grind⟩)
  exact loop2 _ 0 P rfl (⟨by omega, by omega, by funext j; exact (if_neg (by omega)).symm⟩)
set_option maxHeartbeats 1000000 in
set_option maxRecDepth 100000 in
theorem c_X5_lands {E : z_E} {mi : z_Mi} {mr : z_Mr} {o : Nat} {P F X L M U V B : Int → Int} {top : Int} (hM : z_MO E mr o) (hU : ∀ j, 0 ≤ U j ∧ U j ≤ 9999) (ht0 : 0 ≤ top) (ht1 : top ≤ 9999) (hB : B 0 = 0 ∨ B 0 = 1) (h70 : 0 ≤ P 7) (h71 : P 7 ≤ 3) : z_mv M_X5_lands E [zo o, zi top] (z_u (z_u (z_u (z_u (z_u (z_u (z_u (z_u mi (o + 2) X) (o + 3) L) (o + 4) M) (o + 5) U) (o + 6) V) (o + 7) B) o F) (o + 1) P) mr (fun m r => m = (z_u (z_u (z_u (z_u (z_u (z_u (z_u (z_u mi (o + 2) X) (o + 3) L) (o + 4) M) (o + 5) U) (o + 6) V) (o + 7) B) o F) (o + 1) (y_land U V B top P (P 7 + 1))) ∧ r = mr) := by
  obtain ⟨t0, t1, t2, t3, t4, t5, t6, t7, q0, q2, q3, q4, q5, q6, q7⟩ := id hM
  refine z_ofv (ls := [some (zo o), some (zi top), none, none, none, none]) rfl (fun _ _ => trivial) ⟨rfl, rfl⟩ (Nat.le_of_ble_eq_true rfl) rfl ?_
  refine z_iconst e_X5_lands_0 ?_
  refine z_istore_n (ls' := [some (zo o), some (zi top), some (zi 0), none, none, none]) e_X5_lands_1 rfl rfl rfl ?_
  have loop2 : ∀ (nn : Nat) (j : Int) (P1 : Int → Int), (P 7 + 1 - j).toNat = nn → (0 ≤ j ∧ j ≤ P 7 + 1 ∧ P1 = y_land U V B top P j) → z_A M_X5_lands E 0 0 2 [some (zo o), some (zi top), some (zi j), none, none, none] [] (z_u (z_u (z_u (z_u (z_u (z_u (z_u (z_u mi (o + 2) X) (o + 3) L) (o + 4) M) (o + 5) U) (o + 6) V) (o + 7) B) o F) (o + 1) P1) mr (z_qv E (fun m r => m = (z_u (z_u (z_u (z_u (z_u (z_u (z_u (z_u mi (o + 2) X) (o + 3) L) (o + 4) M) (o + 5) U) (o + 6) V) (o + 7) B) o F) (o + 1) (y_land U V B top P (P 7 + 1))) ∧ r = mr)) := by
    intro nn
    induction nn using Nat.strongRecOn with
    | _ nn ih2 =>
      intro j P1 hmeas hinv
      obtain ⟨hj0, hj1, hP1⟩ := hinv
      have e7 : P1 7 = P 7 := by rw [hP1]; exact y_land_k (Or.inl rfl) h71 hj1
      have hUj := hU j
      refine z_iload_n e_X5_lands_2 rfl ?_
      refine z_aload_n e_X5_lands_3 rfl ?_
      refine z_getr (fi := 0) (r := some (o + 1)) e_X5_lands_4 f_RX5_7 t0 rfl rfl (q0) ?_
      refine z_bipush e_X5_lands_7 (by decide +kernel) ?_
      refine z_iald (x := (P 7)) e_X5_lands_9 t1 (by decide) (by decide) (by decide) ((congrFun (z_us _ _ _) _).trans e7) ?_
      refine z_icmp_gt e_X5_lands_10 ⟨by omega, by omega⟩ ⟨by omega, by omega⟩ (fun h10_1 => ?_) (fun h10_1 => ?_)
      · refine z_ret e_X5_lands_153 rfl rfl rfl ⟨rfl, rfl, ?_⟩
        refine ⟨?_, rfl⟩
        rw [hP1, show j = P 7 + 1 by omega]
      · have join28_1 : ∀ (is : Int), is = (if top ≤ U j then 1 else 0) → z_A M_X5_lands E 0 0 28 [some (zo o), some (zi top), some (zi j), none, none, none] [zi is] (z_u (z_u (z_u (z_u (z_u (z_u (z_u (z_u mi (o + 2) X) (o + 3) L) (o + 4) M) (o + 5) U) (o + 6) V) (o + 7) B) o F) (o + 1) P1) mr (z_qv E (fun m r => m = (z_u (z_u (z_u (z_u (z_u (z_u (z_u (z_u mi (o + 2) X) (o + 3) L) (o + 4) M) (o + 5) U) (o + 6) V) (o + 7) B) o F) (o + 1) (y_land U V B top P (P 7 + 1))) ∧ r = mr)) := by
          intro is hj
          have his := hj
          have hisb : is = 1 ∧ top ≤ U j ∨ is = 0 ∧ ¬ top ≤ U j := by rw [hj]; split <;> omega
          refine z_istore_n (ls' := [some (zo o), some (zi top), some (zi j), some (zi is), none, none]) e_X5_lands_28 rfl rfl rfl ?_
          have join45_2 : ∀ (rw : Int), rw = y_lr U top j → z_A M_X5_lands E 0 0 45 [some (zo o), some (zi top), some (zi j), some (zi is), none, none] [zi rw] (z_u (z_u (z_u (z_u (z_u (z_u (z_u (z_u mi (o + 2) X) (o + 3) L) (o + 4) M) (o + 5) U) (o + 6) V) (o + 7) B) o F) (o + 1) P1) mr (z_qv E (fun m r => m = (z_u (z_u (z_u (z_u (z_u (z_u (z_u (z_u mi (o + 2) X) (o + 3) L) (o + 4) M) (o + 5) U) (o + 6) V) (o + 7) B) o F) (o + 1) (y_land U V B top P (P 7 + 1))) ∧ r = mr)) := by
            intro rw hj
            have hrw := hj
            refine z_istore (ls' := [some (zo o), some (zi top), some (zi j), some (zi is), some (zi rw), none]) e_X5_lands_45 rfl rfl rfl ?_
            have join61_3 : ∀ (cl : Int), cl = y_lc U V top j → z_A M_X5_lands E 0 0 61 [some (zo o), some (zi top), some (zi j), some (zi is), some (zi rw), none] [zi cl] (z_u (z_u (z_u (z_u (z_u (z_u (z_u (z_u mi (o + 2) X) (o + 3) L) (o + 4) M) (o + 5) U) (o + 6) V) (o + 7) B) o F) (o + 1) P1) mr (z_qv E (fun m r => m = (z_u (z_u (z_u (z_u (z_u (z_u (z_u (z_u mi (o + 2) X) (o + 3) L) (o + 4) M) (o + 5) U) (o + 6) V) (o + 7) B) o F) (o + 1) (y_land U V B top P (P 7 + 1))) ∧ r = mr)) := by
              intro cl hj
              have hcl := hj
              refine z_istore (ls' := [some (zo o), some (zi top), some (zi j), some (zi is), some (zi rw), some (zi cl)]) e_X5_lands_61 rfl rfl rfl ?_
              refine z_iload_n e_X5_lands_63 rfl ?_
              refine z_if_ne e_X5_lands_64 ⟨by omega, by omega⟩ (fun h64_5 => ?_) (fun h64_5 => ?_)
              · refine z_aload_n e_X5_lands_103 rfl ?_
                refine z_getr (fi := 0) (r := some (o + 1)) e_X5_lands_104 f_RX5_7 t0 rfl rfl (q0) ?_
                refine z_bipush e_X5_lands_107 (by decide +kernel) ?_
                refine z_iconst e_X5_lands_109 ?_
                refine z_aload_n e_X5_lands_110 rfl ?_
                refine z_getr (fi := 0) (r := some (o + 1)) e_X5_lands_111 f_RX5_7 t0 rfl rfl (q0) ?_
                refine z_bipush e_X5_lands_114 (by decide +kernel) ?_
                refine z_iald (x := (P 7)) e_X5_lands_116 t1 (by decide) (by decide) (by decide) ((congrFun (z_us _ _ _) _).trans e7) ?_
                refine z_iload_n e_X5_lands_117 rfl ?_
                refine z_isub e_X5_lands_118 ?_
                refine z_imul e_X5_lands_119 ?_
                refine z_iadd e_X5_lands_120 ?_
                refine z_iload e_X5_lands_121 rfl ?_
                refine z_iastU e_X5_lands_123 t1 (by decide) (by omega) (by omega) ?_
                refine z_aload_n e_X5_lands_124 rfl ?_
                refine z_getr (fi := 0) (r := some (o + 1)) e_X5_lands_125 f_RX5_7 t0 rfl rfl (q0) ?_
                refine z_bipush e_X5_lands_128 (by decide +kernel) ?_
                refine z_iconst e_X5_lands_130 ?_
                refine z_aload_n e_X5_lands_131 rfl ?_
                refine z_getr (fi := 0) (r := some (o + 1)) e_X5_lands_132 f_RX5_7 t0 rfl rfl (q0) ?_
                refine z_bipush e_X5_lands_135 (by decide +kernel) ?_
                refine z_iald (x := (P 7)) e_X5_lands_137 t1 (by decide) (by decide) (by decide) ((congrFun (z_us _ _ _) _).trans ((z_vn (by omega)).trans e7)) ?_
                refine z_iload_n e_X5_lands_138 rfl ?_
                refine z_isub e_X5_lands_139 ?_
                refine z_imul e_X5_lands_140 ?_
                refine z_iadd e_X5_lands_141 ?_
                refine z_iconst e_X5_lands_142 ?_
                refine z_iadd e_X5_lands_143 ?_
                refine z_iload e_X5_lands_144 rfl ?_
                refine z_iastU e_X5_lands_146 t1 (by decide) (by omega) (by omega) ?_
                refine z_iinc (y := (j + 1)) (ls' := [some (zo o), some (zi top), some (zi (j + 1)), some (zi is), some (zi rw), some (zi cl)]) e_X5_lands_147 rfl rfl rfl rfl rfl ?_
                refine z_goto e_X5_lands_150 ?_
                refine z_fgt (ls' := [some (zo o), some (zi top), some (zi (j + 1)), none, none, none]) ⟨rfl, rfl, rfl, trivial⟩ ?_
                exact ih2 _ (by omega) (j + 1) (z_v (z_v P1 (8 + (2 * ((P 7) - j))) rw) ((8 + (2 * ((P 7) - j))) + 1) cl) rfl (⟨by omega, by omega, y_land_s (by omega) (by omega) hP1 hrw hcl⟩)
              · have hj9 : j = 0 := by omega
                refine z_aload_n e_X5_lands_67 rfl ?_
                refine z_iload e_X5_lands_68 rfl ?_
                refine z_iload e_X5_lands_70 rfl ?_
                refine z_callVv (M' := M_X5_goes) (As := [zi rw, zi cl]) (rest := []) e_X5_lands_72 l_RX5_111 rfl rfl rfl rfl t0 ⟨_, _, rfl⟩ (c_X5_goes hM) (fun mq rq hq => ?_)
                obtain ⟨e2q, e3q⟩ := hq
                subst mq rq
                refine z_aload_n e_X5_lands_75 rfl ?_
                refine z_getr (fi := 0) (r := some (o + 1)) e_X5_lands_76 f_RX5_7 t0 rfl rfl (q0) ?_
                refine z_bipush e_X5_lands_79 (by decide +kernel) ?_
                have join99_5 : ∀ (ff : Int), ff = (if top ≤ U 0 ∧ B 0 = 1 then 1 else 0) → z_A M_X5_lands E 0 0 99 [some (zo o), some (zi top), some (zi j), some (zi is), some (zi rw), some (zi cl)] [zi ff, zi 6, zo (o + 1)] (z_u (z_u (z_u (z_u (z_u (z_u (z_u (z_u mi (o + 2) X) (o + 3) L) (o + 4) M) (o + 5) U) (o + 6) V) (o + 7) B) o F) (o + 1) (p_goes rw cl P1)) mr (z_qv E (fun m r => m = (z_u (z_u (z_u (z_u (z_u (z_u (z_u (z_u mi (o + 2) X) (o + 3) L) (o + 4) M) (o + 5) U) (o + 6) V) (o + 7) B) o F) (o + 1) (y_land U V B top P (P 7 + 1))) ∧ r = mr)) := by
                  intro ff hj
                  have hff := hj
                  refine z_iastU e_X5_lands_99 t1 (by decide) (by decide) (by decide) ?_
                  refine z_goto e_X5_lands_100 ?_
                  refine z_iinc (y := (j + 1)) (ls' := [some (zo o), some (zi top), some (zi (j + 1)), some (zi is), some (zi rw), some (zi cl)]) e_X5_lands_147 rfl rfl rfl rfl rfl ?_
                  refine z_goto e_X5_lands_150 ?_
                  refine z_fgt (ls' := [some (zo o), some (zi top), some (zi (j + 1)), none, none, none]) ⟨rfl, rfl, rfl, trivial⟩ ?_
                  exact ih2 _ (by omega) (j + 1) (z_v (p_goes rw cl P1) 6 ff) rfl (⟨by omega, by omega, by subst hj9; exact y_land_1 hP1 hrw hcl hff⟩)
                refine z_iload_n e_X5_lands_81 rfl ?_
                refine z_if_eq e_X5_lands_82 ⟨by omega, by omega⟩ (fun h82_7 => ?_) (fun h82_7 => ?_)
                · refine z_iconst e_X5_lands_98 ?_
                  exact join99_5 0 ((if_neg (by subst hj9; omega)).symm)
                · refine z_aload_n e_X5_lands_85 rfl ?_
                  refine z_getr (fi := 7) (r := some (o + 7)) e_X5_lands_86 f_RX5_28 t0 rfl rfl (q7) ?_
                  refine z_iconst e_X5_lands_89 ?_
                  refine z_zald (x := (B 0)) e_X5_lands_90 t7 (by decide) (by decide) (by decide) (congrFun (((z_un (by omega)).trans (((z_un (by omega)).trans (z_us _ _ _))))) _) ?_
                  refine z_if_eq e_X5_lands_91 ⟨by omega, by omega⟩ (fun h91_8 => ?_) (fun h91_8 => ?_)
                  · refine z_iconst e_X5_lands_98 ?_
                    exact join99_5 0 ((if_neg (by subst hj9; omega)).symm)
                  · refine z_iconst e_X5_lands_94 ?_
                    refine z_goto e_X5_lands_95 ?_
                    exact join99_5 1 ((if_pos (by subst hj9; omega)).symm)
            refine z_iload_n e_X5_lands_47 rfl ?_
            refine z_if_eq e_X5_lands_48 ⟨by omega, by omega⟩ (fun h48_9 => ?_) (fun h48_9 => ?_)
            · refine z_iconst e_X5_lands_60 ?_
              exact join61_3 0 ((if_neg (by omega)).symm)
            · refine z_aload_n e_X5_lands_51 rfl ?_
              refine z_getr (fi := 6) (r := some (o + 6)) e_X5_lands_52 f_RX5_25 t0 rfl rfl (q6) ?_
              refine z_iload_n e_X5_lands_55 rfl ?_
              refine z_iald (x := (V j)) e_X5_lands_56 t6 (by decide) (by omega) (by omega) (congrFun (((z_un (by omega)).trans (((z_un (by omega)).trans (((z_un (by omega)).trans (z_us _ _ _))))))) _) ?_
              refine z_goto e_X5_lands_57 ?_
              exact join61_3 (V j) ((if_pos (by omega)).symm)
          refine z_iload_n e_X5_lands_29 rfl ?_
          refine z_if_eq e_X5_lands_30 ⟨by omega, by omega⟩ (fun h30_10 => ?_) (fun h30_10 => ?_)
          · refine z_iconst e_X5_lands_44 ?_
            exact join45_2 0 ((if_neg (by omega)).symm)
          · refine z_aload_n e_X5_lands_33 rfl ?_
            refine z_getr (fi := 5) (r := some (o + 5)) e_X5_lands_34 f_RX5_22 t0 rfl rfl (q5) ?_
            refine z_iload_n e_X5_lands_37 rfl ?_
            refine z_iald (x := (U j)) e_X5_lands_38 t5 (by decide) (by omega) (by omega) (congrFun (((z_un (by omega)).trans (((z_un (by omega)).trans (((z_un (by omega)).trans (((z_un (by omega)).trans (z_us _ _ _))))))))) _) ?_
            refine z_iload_n e_X5_lands_39 rfl ?_
            refine z_isub e_X5_lands_40 ?_
            refine z_goto e_X5_lands_41 ?_
            exact join45_2 ((U j) - top) ((if_pos (by omega)).symm)
        refine z_aload_n e_X5_lands_13 rfl ?_
        refine z_getr (fi := 5) (r := some (o + 5)) e_X5_lands_14 f_RX5_22 t0 rfl rfl (q5) ?_
        refine z_iload_n e_X5_lands_17 rfl ?_
        refine z_iald (x := (U j)) e_X5_lands_18 t5 (by decide) (by omega) (by omega) (congrFun (((z_un (by omega)).trans (((z_un (by omega)).trans (((z_un (by omega)).trans (((z_un (by omega)).trans (z_us _ _ _))))))))) _) ?_
        refine z_iload_n e_X5_lands_19 rfl ?_
        refine z_icmp_lt e_X5_lands_20 ⟨by omega, by omega⟩ ⟨by omega, by omega⟩ (fun h20_11 => ?_) (fun h20_11 => ?_)
        · refine z_iconst e_X5_lands_27 ?_
          exact join28_1 0 ((if_neg (by omega)).symm)
        · refine z_iconst e_X5_lands_23 ?_
          refine z_goto e_X5_lands_24 ?_
          exact join28_1 1 ((if_pos (by omega)).symm)
  exact loop2 _ 0 P rfl (⟨by omega, by omega, (y_land_0 _ _ _ _ _).symm⟩)
