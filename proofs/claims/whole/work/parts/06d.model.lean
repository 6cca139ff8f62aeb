set_option maxHeartbeats 1000000 in
set_option maxRecDepth 100000 in
theorem c_X5_told {E : z_E} {mi : z_Mi} {mr : z_Mr} {o : Nat} {P F : Int → Int} {what : Int} (hM : z_MO E mr o) (hH : p_hd P) (hF1 : 0 ≤ F 1) (hF2 : F 1 ≤ 8) (hz : z_R what) : z_mi M_X5_told E [zo o, zi what] (z_u (z_u mi o F) (o + 1) P) mr (fun x m r => x = m_toldA P (F 1) what ∧ m = z_u (z_u mi o F) (o + 1) P ∧ r = mr) := by
  obtain ⟨t0, t1, t2, t3, t4, t5, t6, t7, q0, q2, q3, q4, q5, q6, q7⟩ := id hM
  obtain ⟨hw0, hw1, hh0, hh1, hf0, hf1, hf2, hr0, hr1, hc0, hc1, hp0, hp1, hk0, hk1, hi0, hi1, hkp, hP⟩ := id hH
  refine z_ofi (ls := [some (zo o), some (zi what)]) rfl (fun _ _ => trivial) ⟨rfl, rfl⟩ (Nat.le_of_ble_eq_true rfl) rfl ?_
  refine z_iload_n e_X5_told_0 rfl ?_
  by_cases hs1_1 : what < 0 ∨ 10 < what
  · refine z_tsOut (tgt := 111) e_X5_told_1 ⟨by omega, by omega⟩ hs1_1 rfl ?_
    refine z_iconst e_X5_told_111 ?_
    refine z_iret e_X5_told_112 (Or.inl rfl) rfl rfl ⟨rfl, _, rfl, ?_⟩
    refine ⟨?_, rfl, rfl⟩
    unfold m_toldA
    (repeat' split) <;> omega
  · rcases (show what = 0 ∨ what = 1 ∨ what = 2 ∨ what = 3 ∨ what = 4 ∨ what = 5 ∨ what = 6 ∨ what = 7 ∨ what = 8 ∨ what = 9 ∨ what = 10 by omega) with hs1_1 | hs1_1 | hs1_1 | hs1_1 | hs1_1 | hs1_1 | hs1_1 | hs1_1 | hs1_1 | hs1_1 | hs1_1
    · refine z_tsIn (off := 59) (tgt := 60) e_X5_told_1 ⟨by omega, by omega⟩ (by omega) (by omega) (by rw [hs1_1]; rfl) rfl ?_
      refine z_aload_n e_X5_told_60 rfl ?_
      refine z_getr (fi := 0) (r := some (o + 1)) e_X5_told_61 f_RX5_7 t0 rfl rfl (q0) ?_
      refine z_iload_n e_X5_told_64 rfl ?_
      refine z_iald (x := (P what)) e_X5_told_65 t1 (by decide) (by omega) (by omega) (congrFun (z_us _ _ _) _) ?_
      refine z_iret e_X5_told_66 (Or.inl rfl) rfl rfl ⟨rfl, _, rfl, ?_⟩
      refine ⟨?_, rfl, rfl⟩
      unfold m_toldA
      (repeat' split) <;> omega
    · refine z_tsIn (off := 59) (tgt := 60) e_X5_told_1 ⟨by omega, by omega⟩ (by omega) (by omega) (by rw [hs1_1]; rfl) rfl ?_
      refine z_aload_n e_X5_told_60 rfl ?_
      refine z_getr (fi := 0) (r := some (o + 1)) e_X5_told_61 f_RX5_7 t0 rfl rfl (q0) ?_
      refine z_iload_n e_X5_told_64 rfl ?_
      refine z_iald (x := (P what)) e_X5_told_65 t1 (by decide) (by omega) (by omega) (congrFun (z_us _ _ _) _) ?_
      refine z_iret e_X5_told_66 (Or.inl rfl) rfl rfl ⟨rfl, _, rfl, ?_⟩
      refine ⟨?_, rfl, rfl⟩
      unfold m_toldA
      (repeat' split) <;> omega
    · refine z_tsIn (off := 59) (tgt := 60) e_X5_told_1 ⟨by omega, by omega⟩ (by omega) (by omega) (by rw [hs1_1]; rfl) rfl ?_
      refine z_aload_n e_X5_told_60 rfl ?_
      refine z_getr (fi := 0) (r := some (o + 1)) e_X5_told_61 f_RX5_7 t0 rfl rfl (q0) ?_
      refine z_iload_n e_X5_told_64 rfl ?_
      refine z_iald (x := (P what)) e_X5_told_65 t1 (by decide) (by omega) (by omega) (congrFun (z_us _ _ _) _) ?_
      refine z_iret e_X5_told_66 (Or.inl rfl) rfl rfl ⟨rfl, _, rfl, ?_⟩
      refine ⟨?_, rfl, rfl⟩
      unfold m_toldA
      (repeat' split) <;> omega
    · refine z_tsIn (off := 59) (tgt := 60) e_X5_told_1 ⟨by omega, by omega⟩ (by omega) (by omega) (by rw [hs1_1]; rfl) rfl ?_
      refine z_aload_n e_X5_told_60 rfl ?_
      refine z_getr (fi := 0) (r := some (o + 1)) e_X5_told_61 f_RX5_7 t0 rfl rfl (q0) ?_
      refine z_iload_n e_X5_told_64 rfl ?_
      refine z_iald (x := (P what)) e_X5_told_65 t1 (by decide) (by omega) (by omega) (congrFun (z_us _ _ _) _) ?_
      refine z_iret e_X5_told_66 (Or.inl rfl) rfl rfl ⟨rfl, _, rfl, ?_⟩
      refine ⟨?_, rfl, rfl⟩
      unfold m_toldA
      (repeat' split) <;> omega
    · refine z_tsIn (off := 66) (tgt := 67) e_X5_told_1 ⟨by omega, by omega⟩ (by omega) (by omega) (by rw [hs1_1]; rfl) rfl ?_
      refine z_aload_n e_X5_told_67 rfl ?_
      refine z_getr (fi := 0) (r := some (o + 1)) e_X5_told_68 f_RX5_7 t0 rfl rfl (q0) ?_
      refine z_bipush e_X5_told_71 (by decide +kernel) ?_
      refine z_iald (x := (P 6)) e_X5_told_73 t1 (by decide) (by decide) (by decide) (congrFun (z_us _ _ _) _) ?_
      refine z_iret e_X5_told_74 (Or.inl rfl) rfl rfl ⟨rfl, _, rfl, ?_⟩
      refine ⟨?_, rfl, rfl⟩
      unfold m_toldA
      (repeat' split) <;> omega
    · refine z_tsIn (off := 74) (tgt := 75) e_X5_told_1 ⟨by omega, by omega⟩ (by omega) (by omega) (by rw [hs1_1]; rfl) rfl ?_
      refine z_aload_n e_X5_told_75 rfl ?_
      refine z_getr (fi := 0) (r := some (o + 1)) e_X5_told_76 f_RX5_7 t0 rfl rfl (q0) ?_
      refine z_bipush e_X5_told_79 (by decide +kernel) ?_
      refine z_iald (x := (P 14)) e_X5_told_81 t1 (by decide) (by decide) (by decide) (congrFun (z_us _ _ _) _) ?_
      refine z_iret e_X5_told_82 (Or.inl rfl) rfl rfl ⟨rfl, _, rfl, ?_⟩
      refine ⟨?_, rfl, rfl⟩
      unfold m_toldA
      (repeat' split) <;> omega
    · refine z_tsIn (off := 82) (tgt := 83) e_X5_told_1 ⟨by omega, by omega⟩ (by omega) (by omega) (by rw [hs1_1]; rfl) rfl ?_
      refine z_aload_n e_X5_told_83 rfl ?_
      refine z_getr (fi := 0) (r := some (o + 1)) e_X5_told_84 f_RX5_7 t0 rfl rfl (q0) ?_
      refine z_bipush e_X5_told_87 (by decide +kernel) ?_
      refine z_iald (x := (P 7)) e_X5_told_89 t1 (by decide) (by decide) (by decide) (congrFun (z_us _ _ _) _) ?_
      refine z_iret e_X5_told_90 (Or.inl rfl) rfl rfl ⟨rfl, _, rfl, ?_⟩
      refine ⟨?_, rfl, rfl⟩
      unfold m_toldA
      (repeat' split) <;> omega
    · refine z_tsIn (off := 90) (tgt := 91) e_X5_told_1 ⟨by omega, by omega⟩ (by omega) (by omega) (by rw [hs1_1]; rfl) rfl ?_
      refine z_aload_n e_X5_told_91 rfl ?_
      refine z_callVi (M' := M_X5_lines) (As := []) (rest := []) e_X5_told_92 l_RX5_229 rfl rfl rfl rfl t0 ⟨_, _, rfl⟩ (c_X5_lines hM hH) (fun xq mq rq hq => ?_)
      obtain ⟨e1q, e2q, e3q⟩ := hq
      subst xq mq rq
      refine z_iret e_X5_told_95 (Or.inl rfl) rfl rfl ⟨rfl, _, rfl, ?_⟩
      refine ⟨?_, rfl, rfl⟩
      unfold m_toldA
      (repeat' split) <;> omega
    · refine z_tsIn (off := 95) (tgt := 96) e_X5_told_1 ⟨by omega, by omega⟩ (by omega) (by omega) (by rw [hs1_1]; rfl) rfl ?_
      refine z_aload_n e_X5_told_96 rfl ?_
      refine z_callVi (M' := M_X5_counted) (As := []) (rest := []) e_X5_told_97 l_RX5_140 rfl rfl rfl rfl t0 ⟨_, _, rfl⟩ (c_X5_counted hM hH) (fun xq mq rq hq => ?_)
      obtain ⟨e1q, e2q, e3q⟩ := hq
      subst xq mq rq
      have hcb := m_count_b hH
      refine z_iret e_X5_told_100 (Or.inl rfl) rfl rfl ⟨rfl, _, rfl, ?_⟩
      refine ⟨?_, rfl, rfl⟩
      unfold m_toldA
      (repeat' split) <;> omega
    · refine z_tsIn (off := 100) (tgt := 101) e_X5_told_1 ⟨by omega, by omega⟩ (by omega) (by omega) (by rw [hs1_1]; rfl) rfl ?_
      refine z_aload_n e_X5_told_101 rfl ?_
      refine z_callVi (M' := M_X5_filledAll) (As := []) (rest := []) e_X5_told_102 l_RX5_114 rfl rfl rfl rfl t0 ⟨_, _, rfl⟩ (c_X5_filledAll hM hH) (fun xq mq rq hq => ?_)
      obtain ⟨e1q, e2q, e3q⟩ := hq
      subst xq mq rq
      refine z_iret e_X5_told_105 (Or.inl rfl) rfl rfl ⟨rfl, _, rfl, ?_⟩
      refine ⟨?_, rfl, rfl⟩
      unfold m_toldA
      (repeat' split) <;> omega
    · refine z_tsIn (off := 105) (tgt := 106) e_X5_told_1 ⟨by omega, by omega⟩ (by omega) (by omega) (by rw [hs1_1]; rfl) rfl ?_
      refine z_aload_n e_X5_told_106 rfl ?_
      refine z_geti (fi := 1) (x := (F 1)) e_X5_told_107 f_RX5_36 t0 rfl rfl (congrFun (((z_un (by omega)).trans (z_us _ _ _))) _) ?_
      refine z_iret e_X5_told_110 (Or.inl rfl) rfl rfl ⟨rfl, _, rfl, ?_⟩
      refine ⟨?_, rfl, rfl⟩
      unfold m_toldA
      (repeat' split) <;> omega
set_option maxHeartbeats 1000000 in
set_option maxRecDepth 100000 in
theorem c_X5_undo {E : z_E} {mi : z_Mi} {mr : z_Mr} {o : Nat} {P F : Int → Int} (hM : z_MO E mr o) (hF1 : 0 ≤ F 1) (hF2 : F 1 ≤ 8) : z_mi M_X5_undo E [zo o] (z_u (z_u mi o F) (o + 1) P) mr (fun x m r => (F 1 = 0 → x = -2 ∧ m = z_u (z_u mi o F) (o + 1) P) ∧ (F 1 ≠ 0 → x = F 1 - 1 ∧ m = z_u (z_u mi o (z_v F 1 (F 1 - 1))) (o + 1) (p_und (F 1) P)) ∧ r = mr) := by
  obtain ⟨t0, t1, t2, t3, t4, t5, t6, t7, q0, q2, q3, q4, q5, q6, q7⟩ := id hM
  refine z_ofi (ls := [some (zo o), none]) rfl (fun _ _ => trivial) ⟨rfl, rfl⟩ (Nat.le_of_ble_eq_true rfl) rfl ?_
  refine z_aload_n e_X5_undo_0 rfl ?_
  refine z_geti (fi := 1) (x := (F 1)) e_X5_undo_1 f_RX5_36 t0 rfl rfl (congrFun (((z_un (by omega)).trans (z_us _ _ _))) _) ?_
  refine z_if_ne e_X5_undo_4 ⟨by omega, by omega⟩ (fun h4_1 => ?_) (fun h4_1 => ?_)
  · refine z_iconst e_X5_undo_10 ?_
    refine z_istore_n (ls' := [some (zo o), some (zi 0)]) e_X5_undo_11 rfl rfl rfl ?_
    have loop12 : ∀ (nn : Nat) (k : Int) (P1 : Int → Int), (719 - k).toNat = nn → (0 ≤ k ∧ k ≤ 719 ∧ P1 = (fun j => if 0 ≤ j ∧ j < k then P (719 * F 1 + j) else P j)) → z_A M_X5_undo E 0 0 12 [some (zo o), some (zi k)] [] (z_u (z_u mi o F) (o + 1) P1) mr (z_qi E (fun x m r => (F 1 = 0 → x = -2 ∧ m = z_u (z_u mi o F) (o + 1) P) ∧ (F 1 ≠ 0 → x = F 1 - 1 ∧ m = z_u (z_u mi o (z_v F 1 (F 1 - 1))) (o + 1) (p_und (F 1) P)) ∧ r = mr)) := by
      intro nn
      induction nn using Nat.strongRecOn with
      | _ nn ih12 =>
        intro k P1 hmeas hinv
        obtain ⟨hc0, hc1, hP1⟩ := hinv
        refine z_iload_n e_X5_undo_12 rfl ?_
        refine z_sipush e_X5_undo_13 (by decide +kernel) ?_
        refine z_icmp_ge e_X5_undo_16 ⟨by omega, by omega⟩ (by decide) (fun h16_2 => ?_) (fun h16_2 => ?_)
        · refine z_aload_n e_X5_undo_46 rfl ?_
          refine z_dup e_X5_undo_47 rfl ?_
          refine z_geti (fi := 1) (x := (F 1)) e_X5_undo_48 f_RX5_36 t0 rfl rfl (congrFun (((z_un (by omega)).trans (z_us _ _ _))) _) ?_
          refine z_iconst e_X5_undo_51 ?_
          refine z_isub e_X5_undo_52 ?_
          refine z_putiX (fi := 1) (f := F) e_X5_undo_53 f_RX5_36 t0 rfl rfl (Or.inl rfl) (((z_un (by omega)).trans (z_us _ _ _))) (z_ux (by omega) (z_uu _ _ _ _)) ?_
          refine z_aload_n e_X5_undo_56 rfl ?_
          refine z_geti (fi := 1) (x := ((F 1) - 1)) e_X5_undo_57 f_RX5_36 t0 rfl rfl ((congrFun (((z_un (by omega)).trans (z_us _ _ _))) _).trans (z_vs _ _ _)) ?_
          refine z_iret e_X5_undo_60 (Or.inl rfl) rfl rfl ⟨rfl, _, rfl, ?_⟩
          refine ⟨fun h => absurd h (by assumption), fun _ => ⟨?_, ?_⟩, rfl⟩
          · first | rfl | exact z_vs _ _ _
          · have hk : k = 719 := by omega
            subst hk
            refine congrArg _ ?_
            rw [hP1]; rfl
        · refine z_aload_n e_X5_undo_19 rfl ?_
          refine z_getr (fi := 0) (r := some (o + 1)) e_X5_undo_20 f_RX5_7 t0 rfl rfl (q0) ?_
          refine z_iload_n e_X5_undo_23 rfl ?_
          refine z_aload_n e_X5_undo_24 rfl ?_
          refine z_getr (fi := 0) (r := some (o + 1)) e_X5_undo_25 f_RX5_7 t0 rfl rfl (q0) ?_
          refine z_sipush e_X5_undo_28 (by decide +kernel) ?_
          refine z_aload_n e_X5_undo_31 rfl ?_
          refine z_geti (fi := 1) (x := (F 1)) e_X5_undo_32 f_RX5_36 t0 rfl rfl (congrFun (((z_un (by omega)).trans (z_us _ _ _))) _) ?_
          refine z_imul e_X5_undo_35 ?_
          refine z_iload_n e_X5_undo_36 rfl ?_
          refine z_iadd e_X5_undo_37 ?_
          refine z_iald (x := (P1 ((719 * (F 1)) + k))) e_X5_undo_38 t1 (by decide) (by omega) (by omega) (congrFun (z_us _ _ _) _) ?_
          refine z_iastU e_X5_undo_39 t1 (by decide) (by omega) (by omega) ?_
          refine z_iinc (y := (k + 1)) (ls' := [some (zo o), some (zi (k + 1))]) e_X5_undo_40 rfl rfl rfl rfl rfl ?_
          refine z_goto e_X5_undo_43 ?_
          exact ih12 _ (by omega) (k + 1) (z_v P1 k (P1 ((719 * (F 1)) + k))) rfl (⟨by omega, by omega, by have e1 : P1 (719 * F 1 + k) = P (719 * F 1 + k) := (by rw [hP1]; exact if_neg (by omega)); rw [e1, hP1]; funext j; unfold z_v; grind⟩)
    exact loop12 _ 0 P rfl (⟨by omega, by omega, by funext j; rw [if_neg (by omega)]⟩)
  · refine z_bipush e_X5_undo_7 (by decide +kernel) ?_
    refine z_iret e_X5_undo_9 (Or.inl rfl) rfl rfl ⟨rfl, _, rfl, ?_⟩
    exact ⟨fun _ => ⟨rfl, rfl⟩, fun h => absurd (by assumption) h, rfl⟩
set_option maxHeartbeats 1000000 in
set_option maxRecDepth 100000 in
theorem c_X5_lays {E : z_E} {mi : z_Mi} {mr : z_Mr} {o : Nat} {P F X L M U V B : Int → Int} {c w : Int} (hM : z_MO E mr o) (h0 : 0 ≤ c) (h1 : c ≤ 21) (hf : F 10 = 0 ∨ F 10 = 1) (hz : z_R (F 11 - F 9)) (hr : F 10 = 1 → F 11 - F 9 ≤ 31) : z_mv M_X5_lays E [zo o, zi c, zi w] (z_u (z_u (z_u (z_u (z_u (z_u (z_u (z_u mi (o + 2) X) (o + 3) L) (o + 4) M) (o + 5) U) (o + 6) V) (o + 7) B) o F) (o + 1) P) mr (fun m r => m = (z_u (z_u (z_u (z_u (z_u (z_u (z_u (z_u mi (o + 2) (y_lay F c w X)) (o + 3) L) (o + 4) M) (o + 5) U) (o + 6) V) (o + 7) B) o F) (o + 1) P) ∧ r = mr) := by
  obtain ⟨t0, t1, t2, t3, t4, t5, t6, t7, q0, q2, q3, q4, q5, q6, q7⟩ := id hM
  refine z_ofv (ls := [some (zo o), some (zi c), some (zi w), none]) rfl (fun _ _ => trivial) ⟨rfl, rfl⟩ (Nat.le_of_ble_eq_true rfl) rfl ?_
  refine z_aload_n e_X5_lays_0 rfl ?_
  refine z_geti (fi := 11) (x := (F 11)) e_X5_lays_1 f_RX5_180 t0 rfl rfl (congrFun (((z_un (by omega)).trans (z_us _ _ _))) _) ?_
  refine z_aload_n e_X5_lays_4 rfl ?_
  refine z_geti (fi := 9) (x := (F 9)) e_X5_lays_5 f_RX5_183 t0 rfl rfl (congrFun (((z_un (by omega)).trans (z_us _ _ _))) _) ?_
  refine z_isub e_X5_lays_8 ?_
  refine z_istore_n (ls' := [some (zo o), some (zi c), some (zi w), some (zi ((F 11) - (F 9)))]) e_X5_lays_9 rfl rfl rfl ?_
  refine z_aload_n e_X5_lays_10 rfl ?_
  refine z_geti (fi := 10) (x := (F 10)) e_X5_lays_11 f_RX5_186 t0 rfl rfl (congrFun (((z_un (by omega)).trans (z_us _ _ _))) _) ?_
  refine z_if_eq e_X5_lays_14 ⟨by omega, by omega⟩ (fun h14_1 => ?_) (fun h14_1 => ?_)
  · refine z_ret e_X5_lays_33 rfl rfl rfl ⟨rfl, rfl, ?_⟩
    refine ⟨?_, rfl⟩
    have hX : y_lay F c w X = X := if_neg (by omega)
    rw [hX]
  · refine z_iload_n e_X5_lays_17 rfl ?_
    refine z_if_lt e_X5_lays_18 ⟨by omega, by omega⟩ (fun h18_2 => ?_) (fun h18_2 => ?_)
    · refine z_ret e_X5_lays_33 rfl rfl rfl ⟨rfl, rfl, ?_⟩
      refine ⟨?_, rfl⟩
      have hX : y_lay F c w X = X := if_neg (by omega)
      rw [hX]
    · refine z_aload_n e_X5_lays_21 rfl ?_
      refine z_getr (fi := 2) (r := some (o + 2)) e_X5_lays_22 f_RX5_13 t0 rfl rfl (q2) ?_
      refine z_bipush e_X5_lays_25 (by decide +kernel) ?_
      refine z_iload_n e_X5_lays_27 rfl ?_
      refine z_imul e_X5_lays_28 ?_
      refine z_iload_n e_X5_lays_29 rfl ?_
      refine z_iadd e_X5_lays_30 ?_
      refine z_iload_n e_X5_lays_31 rfl ?_
      refine z_iastX (f := X) e_X5_lays_32 t2 (by decide) (by omega) (by omega) (((z_un (by omega)).trans (((z_un (by omega)).trans (((z_un (by omega)).trans (((z_un (by omega)).trans (((z_un (by omega)).trans (((z_un (by omega)).trans (((z_un (by omega)).trans (z_us _ _ _))))))))))))))) (z_ux (by omega) (z_ux (by omega) (z_ux (by omega) (z_ux (by omega) (z_ux (by omega) (z_ux (by omega) (z_ux (by omega) (z_uu _ _ _ _)))))))) ?_
      refine z_ret e_X5_lays_33 rfl rfl rfl ⟨rfl, rfl, ?_⟩
      refine ⟨?_, rfl⟩
      have hX : y_lay F c w X = (z_v X ((22 * ((F 11) - (F 9))) + c) w) := if_pos ⟨by omega, by omega⟩
      rw [hX]
set_option maxHeartbeats 1000000 in
set_option maxRecDepth 100000 in
theorem c_X5_pours {E : z_E} {mi : z_Mi} {mr : z_Mr} {o : Nat} {P F X L M U V B : Int → Int} {code : Int} (hM : z_MO E mr o) (hz : 0 ≤ code) (hz1 : code ≤ 255) (hf : F 10 = 0 ∨ F 10 = 1) (hw0 : 4 ≤ F 8) (hw1 : F 8 ≤ 20) (hc0 : 0 ≤ F 12) (hc1 : F 12 ≤ F 8) (hr0 : 0 ≤ F 11) (hr1 : F 11 ≤ 9999) (hb0 : 0 ≤ F 9) (hb1 : F 9 ≤ 9999) (hr : F 10 = 1 → y_F code F 11 - F 9 ≤ 31) : z_mv M_X5_pours E [zo o, zi code] (z_u (z_u (z_u (z_u (z_u (z_u (z_u (z_u mi (o + 2) X) (o + 3) L) (o + 4) M) (o + 5) U) (o + 6) V) (o + 7) B) o F) (o + 1) P) mr (fun m r => m = (z_u (z_u (z_u (z_u (z_u (z_u (z_u (z_u mi (o + 2) (y_X code F X)) (o + 3) L) (o + 4) M) (o + 5) U) (o + 6) V) (o + 7) B) o (y_F code F)) (o + 1) P) ∧ r = mr) := by
  obtain ⟨t0, t1, t2, t3, t4, t5, t6, t7, q0, q2, q3, q4, q5, q6, q7⟩ := id hM
  have hs := p_sz_b code
  have hyr := y_F_r code F
  have hyw := y_F_w (code := code) hc0 hw0
  refine z_ofv (ls := [some (zo o), some (zi code), none]) rfl (fun _ _ => trivial) ⟨rfl, rfl⟩ (Nat.le_of_ble_eq_true rfl) rfl ?_
  have join12_0 : ∀ (sz : Int), sz = p_sz code → z_A M_X5_pours E 0 0 12 [some (zo o), some (zi code), none] [zi sz] (z_u (z_u (z_u (z_u (z_u (z_u (z_u (z_u mi (o + 2) X) (o + 3) L) (o + 4) M) (o + 5) U) (o + 6) V) (o + 7) B) o F) (o + 1) P) mr (z_qv E (fun m r => m = (z_u (z_u (z_u (z_u (z_u (z_u (z_u (z_u mi (o + 2) (y_X code F X)) (o + 3) L) (o + 4) M) (o + 5) U) (o + 6) V) (o + 7) B) o (y_F code F)) (o + 1) P) ∧ r = mr)) := by
    intro sz hj
    have hj2 := hj
    refine z_istore_n (ls' := [some (zo o), some (zi code), some (zi sz)]) e_X5_pours_12 rfl rfl rfl ?_
    have join70_1 : ∀ (F1 : Int → Int) (X1 : Int → Int), (F1 = y_F code F ∧ X1 = y_X1 code F X) → z_A M_X5_pours E 0 0 70 [some (zo o), some (zi code), some (zi sz)] [] (z_u (z_u (z_u (z_u (z_u (z_u (z_u (z_u mi (o + 2) X1) (o + 3) L) (o + 4) M) (o + 5) U) (o + 6) V) (o + 7) B) o F1) (o + 1) P) mr (z_qv E (fun m r => m = (z_u (z_u (z_u (z_u (z_u (z_u (z_u (z_u mi (o + 2) (y_X code F X)) (o + 3) L) (o + 4) M) (o + 5) U) (o + 6) V) (o + 7) B) o (y_F code F)) (o + 1) P) ∧ r = mr)) := by
      intro F1 X1 hj
      obtain ⟨hF1, hX1⟩ := hj
      have e8 : F1 8 = F 8 := by rw [hF1]; exact y_F_c code F (by decide) (by decide)
      have e9 : F1 9 = F 9 := by rw [hF1]; exact y_F_c code F (by decide) (by decide)
      have e10 : F1 10 = F 10 := by rw [hF1]; exact y_F_c code F (by decide) (by decide)
      rw [← hF1] at hr hyr hyw
      refine z_aload_n e_X5_pours_70 rfl ?_
      refine z_aload_n e_X5_pours_71 rfl ?_
      refine z_geti (fi := 12) (x := (F1 12)) e_X5_pours_72 f_RX5_190 t0 rfl rfl (congrFun (((z_un (by omega)).trans (z_us _ _ _))) _) ?_
      refine z_iload_n e_X5_pours_75 rfl ?_
      refine z_callVv (M' := M_X5_lays) (As := [zi (F1 12), zi code]) (rest := []) e_X5_pours_76 l_RX5_196 rfl rfl rfl rfl t0 ⟨_, _, rfl⟩ (c_X5_lays hM (by omega) (by omega) (by omega) ⟨by omega, by omega⟩ (by omega)) (fun mq rq hq => ?_)
      obtain ⟨e2q, e3q⟩ := hq
      subst mq rq
      refine z_iload_n e_X5_pours_79 rfl ?_
      refine z_iconst e_X5_pours_80 ?_
      refine z_icmp_ne e_X5_pours_81 ⟨by omega, by omega⟩ (by decide) (fun h81_3 => ?_) (fun h81_3 => ?_)
      · refine z_ret e_X5_pours_99 rfl rfl rfl ⟨rfl, rfl, ?_⟩
        refine ⟨?_, rfl⟩
        have hX : y_X code F X = (y_lay F1 (F1 12) code X1) := by unfold y_X y_X2; rw [← hF1, ← hX1, if_neg (by omega)]
        rw [hX, ← hF1]
      · refine z_aload_n e_X5_pours_84 rfl ?_
        refine z_aload_n e_X5_pours_85 rfl ?_
        refine z_geti (fi := 12) (x := (F1 12)) e_X5_pours_86 f_RX5_190 t0 rfl rfl (congrFun (((z_un (by omega)).trans (z_us _ _ _))) _) ?_
        refine z_iconst e_X5_pours_89 ?_
        refine z_iadd e_X5_pours_90 ?_
        refine z_iload_n e_X5_pours_91 rfl ?_
        refine z_sipush e_X5_pours_92 (by decide +kernel) ?_
        refine z_iadd e_X5_pours_95 ?_
        refine z_callVv (M' := M_X5_lays) (As := [zi ((F1 12) + 1), zi (code + 128)]) (rest := []) e_X5_pours_96 l_RX5_196 rfl rfl rfl rfl t0 ⟨_, _, rfl⟩ (c_X5_lays hM (by omega) (by omega) (by omega) ⟨by omega, by omega⟩ (by omega)) (fun mq rq hq => ?_)
        obtain ⟨e2q, e3q⟩ := hq
        subst mq rq
        refine z_ret e_X5_pours_99 rfl rfl rfl ⟨rfl, rfl, ?_⟩
        refine ⟨?_, rfl⟩
        have hX : y_X code F X = (y_lay F1 ((F1 12) + 1) (code + 128) (y_lay F1 (F1 12) code X1)) := by unfold y_X y_X2; rw [← hF1, ← hX1, if_pos (by omega)]
        rw [hX, ← hF1]
    refine z_aload_n e_X5_pours_13 rfl ?_
    refine z_geti (fi := 12) (x := (F 12)) e_X5_pours_14 f_RX5_190 t0 rfl rfl (congrFun (((z_un (by omega)).trans (z_us _ _ _))) _) ?_
    refine z_iload_n e_X5_pours_17 rfl ?_
    refine z_iadd e_X5_pours_18 ?_
    refine z_aload_n e_X5_pours_19 rfl ?_
    refine z_geti (fi := 8) (x := (F 8)) e_X5_pours_20 f_RX5_193 t0 rfl rfl (congrFun (((z_un (by omega)).trans (z_us _ _ _))) _) ?_
    refine z_icmp_le e_X5_pours_23 ⟨by omega, by omega⟩ ⟨by omega, by omega⟩ (fun h23_4 => ?_) (fun h23_4 => ?_)
    · exact join70_1 F X (⟨(if_neg (by omega)).symm, (if_neg (by omega)).symm⟩)
    · refine z_aload_n e_X5_pours_26 rfl ?_
      refine z_bipush e_X5_pours_27 (by decide +kernel) ?_
      refine z_iconst e_X5_pours_29 ?_
      refine z_callVv (M' := M_X5_lays) (As := [zi 20, zi 1]) (rest := []) e_X5_pours_30 l_RX5_196 rfl rfl rfl rfl t0 ⟨_, _, rfl⟩ (c_X5_lays hM (by omega) (by omega) (by omega) ⟨by omega, by omega⟩ (by omega)) (fun mq rq hq => ?_)
      obtain ⟨e2q, e3q⟩ := hq
      subst mq rq
      refine z_aload_n e_X5_pours_33 rfl ?_
      refine z_bipush e_X5_pours_34 (by decide +kernel) ?_
      have join52_4 : ∀ (gp : Int), gp = (if F 12 < F 8 then 1 else 0) → z_A M_X5_pours E 0 0 52 [some (zo o), some (zi code), some (zi sz)] [zi gp, zi 21, zo o] (z_u (z_u (z_u (z_u (z_u (z_u (z_u (z_u mi (o + 2) (y_lay F 20 1 X)) (o + 3) L) (o + 4) M) (o + 5) U) (o + 6) V) (o + 7) B) o F) (o + 1) P) mr (z_qv E (fun m r => m = (z_u (z_u (z_u (z_u (z_u (z_u (z_u (z_u mi (o + 2) (y_X code F X)) (o + 3) L) (o + 4) M) (o + 5) U) (o + 6) V) (o + 7) B) o (y_F code F)) (o + 1) P) ∧ r = mr)) := by
        intro gp hj
        have hgp := hj
        refine z_callVv (M' := M_X5_lays) (As := [zi 21, zi gp]) (rest := []) e_X5_pours_52 l_RX5_196 rfl rfl rfl rfl t0 ⟨_, _, rfl⟩ (c_X5_lays hM (by omega) (by omega) (by omega) ⟨by omega, by omega⟩ (by omega)) (fun mq rq hq => ?_)
        obtain ⟨e2q, e3q⟩ := hq
        subst mq rq
        refine z_aload_n e_X5_pours_55 rfl ?_
        refine z_dup e_X5_pours_56 rfl ?_
        refine z_geti (fi := 11) (x := (F 11)) e_X5_pours_57 f_RX5_180 t0 rfl rfl (congrFun (((z_un (by omega)).trans (z_us _ _ _))) _) ?_
        refine z_iconst e_X5_pours_60 ?_
        refine z_iadd e_X5_pours_61 ?_
        refine z_putiX (fi := 11) (f := F) e_X5_pours_62 f_RX5_180 t0 rfl rfl (Or.inl rfl) (((z_un (by omega)).trans (z_us _ _ _))) (z_ux (by omega) (z_uu _ _ _ _)) ?_
        refine z_aload_n e_X5_pours_65 rfl ?_
        refine z_iconst e_X5_pours_66 ?_
        refine z_putiX (fi := 12) (f := (z_v F 11 ((F 11) + 1))) e_X5_pours_67 f_RX5_190 t0 rfl rfl (Or.inl rfl) (((z_un (by omega)).trans (z_us _ _ _))) (z_ux (by omega) (z_uu _ _ _ _)) ?_
        exact join70_1 (z_v (z_v F 11 ((F 11) + 1)) 12 0) (y_lay F 21 gp (y_lay F 20 1 X)) (⟨(if_pos (by omega)).symm, by unfold y_X1; rw [if_pos (by omega), hgp]⟩)
      refine z_aload_n e_X5_pours_36 rfl ?_
      refine z_geti (fi := 12) (x := (F 12)) e_X5_pours_37 f_RX5_190 t0 rfl rfl (congrFun (((z_un (by omega)).trans (z_us _ _ _))) _) ?_
      refine z_aload_n e_X5_pours_40 rfl ?_
      refine z_geti (fi := 8) (x := (F 8)) e_X5_pours_41 f_RX5_193 t0 rfl rfl (congrFun (((z_un (by omega)).trans (z_us _ _ _))) _) ?_
      refine z_icmp_ge e_X5_pours_44 ⟨by omega, by omega⟩ ⟨by omega, by omega⟩ (fun h44_6 => ?_) (fun h44_6 => ?_)
      · refine z_iconst e_X5_pours_51 ?_
        exact join52_4 0 ((if_neg (by omega)).symm)
      · refine z_iconst e_X5_pours_47 ?_
        refine z_goto e_X5_pours_48 ?_
        exact join52_4 1 ((if_pos (by omega)).symm)
  refine z_iload_n e_X5_pours_0 rfl ?_
  refine z_callSi (M' := M_X5_isWide) (As := [zi code]) (rest := []) e_X5_pours_1 l_RX5_62 rfl rfl rfl rfl (c_X5_isWide ⟨by omega, by omega⟩) (fun xq mq rq hq => ?_)
  obtain ⟨e1q, e2q, e3q⟩ := hq
  subst xq mq rq
  refine z_if_eqB e_X5_pours_4  (fun h4_7 => ?_) (fun h4_7 => ?_)
  · refine z_iconst e_X5_pours_11 ?_
    exact join12_0 1 (by unfold p_sz; grind)
  · refine z_iconst e_X5_pours_7 ?_
    refine z_goto e_X5_pours_8 ?_
    exact join12_0 2 (by unfold p_sz; grind)
set_option maxHeartbeats 1000000 in
set_option maxRecDepth 100000 in
theorem c_X5_meets {E : z_E} {mi : z_Mi} {mr : z_Mr} {o : Nat} {P F X L M U V B : Int → Int} {line k : Int} (hM : z_MO E mr o) (hl0 : 0 ≤ line) (hl1 : line ≤ 99) (hk0 : 0 ≤ k) (hk1 : k ≤ 9999) (hL : ∀ j, -9 ≤ L j ∧ L j ≤ 99) (hMk : ∀ j, -9 ≤ M j ∧ M j ≤ 9999) : z_mv M_X5_meets E [zo o, zi line, zi k] (z_u (z_u (z_u (z_u (z_u (z_u (z_u (z_u mi (o + 2) X) (o + 3) L) (o + 4) M) (o + 5) U) (o + 6) V) (o + 7) B) o F) (o + 1) P) mr (fun m r => m = (z_u (z_u (z_u (z_u (z_u (z_u (z_u (z_u mi (o + 2) X) (o + 3) L) (o + 4) M) (o + 5) (y_mt L M line k (F 11) U 4)) (o + 6) (y_mt L M line k (F 12) V 4)) (o + 7) B) o F) (o + 1) P) ∧ r = mr) := by
  obtain ⟨t0, t1, t2, t3, t4, t5, t6, t7, q0, q2, q3, q4, q5, q6, q7⟩ := id hM
  refine z_ofv (ls := [some (zo o), some (zi line), some (zi k), none]) rfl (fun _ _ => trivial) ⟨rfl, rfl⟩ (Nat.le_of_ble_eq_true rfl) rfl ?_
  refine z_iconst e_X5_meets_0 ?_
  refine z_istore_n (ls' := [some (zo o), some (zi line), some (zi k), some (zi 0)]) e_X5_meets_1 rfl rfl rfl ?_
  have loop2 : ∀ (nn : Nat) (j : Int) (U1 : Int → Int) (V1 : Int → Int), (4 - j).toNat = nn → (0 ≤ j ∧ j ≤ 4 ∧ U1 = y_mt L M line k (F 11) U j ∧ V1 = y_mt L M line k (F 12) V j) → z_A M_X5_meets E 0 0 2 [some (zo o), some (zi line), some (zi k), some (zi j)] [] (z_u (z_u (z_u (z_u (z_u (z_u (z_u (z_u mi (o + 2) X) (o + 3) L) (o + 4) M) (o + 5) U1) (o + 6) V1) (o + 7) B) o F) (o + 1) P) mr (z_qv E (fun m r => m = (z_u (z_u (z_u (z_u (z_u (z_u (z_u (z_u mi (o + 2) X) (o + 3) L) (o + 4) M) (o + 5) (y_mt L M line k (F 11) U 4)) (o + 6) (y_mt L M line k (F 12) V 4)) (o + 7) B) o F) (o + 1) P) ∧ r = mr)) := by
    intro nn
    induction nn using Nat.strongRecOn with
    | _ nn ih2 =>
      intro j U1 V1 hmeas hinv
      obtain ⟨hj0, hj1, hU, hV⟩ := hinv
      have hLj := hL j
      have hMj := hMk j
      refine z_iload_n e_X5_meets_2 rfl ?_
      refine z_iconst e_X5_meets_3 ?_
      refine z_icmp_ge e_X5_meets_4 ⟨by omega, by omega⟩ (by decide) (fun h4_1 => ?_) (fun h4_1 => ?_)
      · refine z_ret e_X5_meets_53 rfl rfl rfl ⟨rfl, rfl, ?_⟩
        refine ⟨?_, rfl⟩
        rw [hU, hV, show j = 4 by omega]
      · refine z_aload_n e_X5_meets_7 rfl ?_
        refine z_getr (fi := 3) (r := some (o + 3)) e_X5_meets_8 f_RX5_16 t0 rfl rfl (q3) ?_
        refine z_iload_n e_X5_meets_11 rfl ?_
        refine z_iald (x := (L j)) e_X5_meets_12 t3 (by decide) (by omega) (by omega) (congrFun (((z_un (by omega)).trans (((z_un (by omega)).trans (((z_un (by omega)).trans (((z_un (by omega)).trans (((z_un (by omega)).trans (((z_un (by omega)).trans (z_us _ _ _))))))))))))) _) ?_
        refine z_iload_n e_X5_meets_13 rfl ?_
        refine z_icmp_ne e_X5_meets_14 ⟨by omega, by omega⟩ ⟨by omega, by omega⟩ (fun h14_2 => ?_) (fun h14_2 => ?_)
        · refine z_iinc (y := (j + 1)) (ls' := [some (zo o), some (zi line), some (zi k), some (zi (j + 1))]) e_X5_meets_47 rfl rfl rfl rfl rfl ?_
          refine z_goto e_X5_meets_50 ?_
          exact ih2 _ (by omega) (j + 1) U1 V1 rfl (⟨by omega, by omega, y_mt_n hU (by omega), y_mt_n hV (by omega)⟩)
        · refine z_aload_n e_X5_meets_17 rfl ?_
          refine z_getr (fi := 4) (r := some (o + 4)) e_X5_meets_18 f_RX5_19 t0 rfl rfl (q4) ?_
          refine z_iload_n e_X5_meets_21 rfl ?_
          refine z_iald (x := (M j)) e_X5_meets_22 t4 (by decide) (by omega) (by omega) (congrFun (((z_un (by omega)).trans (((z_un (by omega)).trans (((z_un (by omega)).trans (((z_un (by omega)).trans (((z_un (by omega)).trans (z_us _ _ _))))))))))) _) ?_
          refine z_iload_n e_X5_meets_23 rfl ?_
          refine z_icmp_ne e_X5_meets_24 ⟨by omega, by omega⟩ ⟨by omega, by omega⟩ (fun h24_3 => ?_) (fun h24_3 => ?_)
          · refine z_iinc (y := (j + 1)) (ls' := [some (zo o), some (zi line), some (zi k), some (zi (j + 1))]) e_X5_meets_47 rfl rfl rfl rfl rfl ?_
            refine z_goto e_X5_meets_50 ?_
            exact ih2 _ (by omega) (j + 1) U1 V1 rfl (⟨by omega, by omega, y_mt_n hU (by omega), y_mt_n hV (by omega)⟩)
          · refine z_aload_n e_X5_meets_27 rfl ?_
            refine z_getr (fi := 5) (r := some (o + 5)) e_X5_meets_28 f_RX5_22 t0 rfl rfl (q5) ?_
            refine z_iload_n e_X5_meets_31 rfl ?_
            refine z_aload_n e_X5_meets_32 rfl ?_
            refine z_geti (fi := 11) (x := (F 11)) e_X5_meets_33 f_RX5_180 t0 rfl rfl (congrFun (((z_un (by omega)).trans (z_us _ _ _))) _) ?_
            refine z_iastX (f := U1) e_X5_meets_36 t5 (by decide) (by omega) (by omega) (((z_un (by omega)).trans (((z_un (by omega)).trans (((z_un (by omega)).trans (((z_un (by omega)).trans (z_us _ _ _))))))))) (z_ux (by omega) (z_ux (by omega) (z_ux (by omega) (z_ux (by omega) (z_uu _ _ _ _))))) ?_
            refine z_aload_n e_X5_meets_37 rfl ?_
            refine z_getr (fi := 6) (r := some (o + 6)) e_X5_meets_38 f_RX5_25 t0 rfl rfl (q6) ?_
            refine z_iload_n e_X5_meets_41 rfl ?_
            refine z_aload_n e_X5_meets_42 rfl ?_
            refine z_geti (fi := 12) (x := (F 12)) e_X5_meets_43 f_RX5_190 t0 rfl rfl (congrFun (((z_un (by omega)).trans (z_us _ _ _))) _) ?_
            refine z_iastX (f := V1) e_X5_meets_46 t6 (by decide) (by omega) (by omega) (((z_un (by omega)).trans (((z_un (by omega)).trans (((z_un (by omega)).trans (z_us _ _ _))))))) (z_ux (by omega) (z_ux (by omega) (z_ux (by omega) (z_uu _ _ _ _)))) ?_
            refine z_iinc (y := (j + 1)) (ls' := [some (zo o), some (zi line), some (zi k), some (zi (j + 1))]) e_X5_meets_47 rfl rfl rfl rfl rfl ?_
            refine z_goto e_X5_meets_50 ?_
            exact ih2 _ (by omega) (j + 1) (z_v U1 j (F 11)) (z_v V1 j (F 12)) rfl (⟨by omega, by omega, y_mt_y (by omega) hU (by assumption) (by assumption), y_mt_y (by omega) hV (by assumption) (by assumption)⟩)
  exact loop2 _ 0 U V rfl (⟨by omega, by omega, by funext i; exact (if_neg (by omega)).symm, by funext i; exact (if_neg (by omega)).symm⟩)
set_option maxHeartbeats 1000000 in
set_option maxRecDepth 100000 in
theorem c_X5_ends {E : z_E} {mi : z_Mi} {mr : z_Mr} {o : Nat} {P F X L M U V B : Int → Int} {line k : Int} (hM : z_MO E mr o) (hl0 : 0 ≤ line) (hl1 : line ≤ 99) (hk0 : 0 ≤ k) (hk1 : k ≤ 9999) (hL : ∀ j, -9 ≤ L j ∧ L j ≤ 99) (hMk : ∀ j, -9 ≤ M j ∧ M j ≤ 9999) (hw0 : 4 ≤ F 8) (hw1 : F 8 ≤ 20) (hc0 : 0 ≤ F 12) (hc1 : F 12 ≤ F 8) : z_mv M_X5_ends E [zo o, zi line, zi k] (z_u (z_u (z_u (z_u (z_u (z_u (z_u (z_u mi (o + 2) X) (o + 3) L) (o + 4) M) (o + 5) U) (o + 6) V) (o + 7) B) o F) (o + 1) P) mr (fun m r => m = (z_u (z_u (z_u (z_u (z_u (z_u (z_u (z_u mi (o + 2) X) (o + 3) L) (o + 4) M) (o + 5) (y_en L M line k (fun _ => F 11) U 4)) (o + 6) (y_en L M line k (y_ec F M k) V 4)) (o + 7) (y_en L M line k (y_ef F M k) B 4)) o F) (o + 1) P) ∧ r = mr) := by
  obtain ⟨t0, t1, t2, t3, t4, t5, t6, t7, q0, q2, q3, q4, q5, q6, q7⟩ := id hM
  refine z_ofv (ls := [some (zo o), some (zi line), some (zi k), none, none]) rfl (fun _ _ => trivial) ⟨rfl, rfl⟩ (Nat.le_of_ble_eq_true rfl) rfl ?_
  refine z_iconst e_X5_ends_0 ?_
  refine z_istore_n (ls' := [some (zo o), some (zi line), some (zi k), some (zi 0), none]) e_X5_ends_1 rfl rfl rfl ?_
  have loop2 : ∀ (nn : Nat) (j : Int) (U1 : Int → Int) (V1 : Int → Int) (B1 : Int → Int), (4 - j).toNat = nn → (0 ≤ j ∧ j ≤ 4 ∧ U1 = y_en L M line k (fun _ => F 11) U j ∧ V1 = y_en L M line k (y_ec F M k) V j ∧ B1 = y_en L M line k (y_ef F M k) B j) → z_A M_X5_ends E 0 0 2 [some (zo o), some (zi line), some (zi k), some (zi j), none] [] (z_u (z_u (z_u (z_u (z_u (z_u (z_u (z_u mi (o + 2) X) (o + 3) L) (o + 4) M) (o + 5) U1) (o + 6) V1) (o + 7) B1) o F) (o + 1) P) mr (z_qv E (fun m r => m = (z_u (z_u (z_u (z_u (z_u (z_u (z_u (z_u mi (o + 2) X) (o + 3) L) (o + 4) M) (o + 5) (y_en L M line k (fun _ => F 11) U 4)) (o + 6) (y_en L M line k (y_ec F M k) V 4)) (o + 7) (y_en L M line k (y_ef F M k) B 4)) o F) (o + 1) P) ∧ r = mr)) := by
    intro nn
    induction nn using Nat.strongRecOn with
    | _ nn ih2 =>
      intro j U1 V1 B1 hmeas hinv
      obtain ⟨hj0, hj1, hU, hV, hB⟩ := hinv
      have hLj := hL j
      have hMj := hMk j
      refine z_iload_n e_X5_ends_2 rfl ?_
      refine z_iconst e_X5_ends_3 ?_
      refine z_icmp_ge e_X5_ends_4 ⟨by omega, by omega⟩ (by decide) (fun h4_1 => ?_) (fun h4_1 => ?_)
      · refine z_ret e_X5_ends_120 rfl rfl rfl ⟨rfl, rfl, ?_⟩
        refine ⟨?_, rfl⟩
        rw [hU, hV, hB, show j = 4 by omega]
      · refine z_aload_n e_X5_ends_7 rfl ?_
        refine z_getr (fi := 3) (r := some (o + 3)) e_X5_ends_8 f_RX5_16 t0 rfl rfl (q3) ?_
        refine z_iload_n e_X5_ends_11 rfl ?_
        refine z_iald (x := (L j)) e_X5_ends_12 t3 (by decide) (by omega) (by omega) (congrFun (((z_un (by omega)).trans (((z_un (by omega)).trans (((z_un (by omega)).trans (((z_un (by omega)).trans (((z_un (by omega)).trans (((z_un (by omega)).trans (z_us _ _ _))))))))))))) _) ?_
        refine z_iload_n e_X5_ends_13 rfl ?_
        refine z_icmp_ne e_X5_ends_14 ⟨by omega, by omega⟩ ⟨by omega, by omega⟩ (fun h14_2 => ?_) (fun h14_2 => ?_)
        · refine z_iinc (y := (j + 1)) (ls' := [some (zo o), some (zi line), some (zi k), some (zi (j + 1)), none]) e_X5_ends_114 rfl rfl rfl rfl rfl ?_
          refine z_goto e_X5_ends_117 ?_
          exact ih2 _ (by omega) (j + 1) U1 V1 B1 rfl (⟨by omega, by omega, y_en_n hU (by omega), y_en_n hV (by omega), y_en_n hB (by omega)⟩)
        · refine z_aload_n e_X5_ends_17 rfl ?_
          refine z_getr (fi := 4) (r := some (o + 4)) e_X5_ends_18 f_RX5_19 t0 rfl rfl (q4) ?_
          refine z_iload_n e_X5_ends_21 rfl ?_
          refine z_iald (x := (M j)) e_X5_ends_22 t4 (by decide) (by omega) (by omega) (congrFun (((z_un (by omega)).trans (((z_un (by omega)).trans (((z_un (by omega)).trans (((z_un (by omega)).trans (((z_un (by omega)).trans (z_us _ _ _))))))))))) _) ?_
          refine z_iload_n e_X5_ends_23 rfl ?_
          refine z_icmp_lt e_X5_ends_24 ⟨by omega, by omega⟩ ⟨by omega, by omega⟩ (fun h24_3 => ?_) (fun h24_3 => ?_)
          · refine z_iinc (y := (j + 1)) (ls' := [some (zo o), some (zi line), some (zi k), some (zi (j + 1)), none]) e_X5_ends_114 rfl rfl rfl rfl rfl ?_
            refine z_goto e_X5_ends_117 ?_
            exact ih2 _ (by omega) (j + 1) U1 V1 B1 rfl (⟨by omega, by omega, y_en_n hU (by omega), y_en_n hV (by omega), y_en_n hB (by omega)⟩)
          · refine z_aload_n e_X5_ends_27 rfl ?_
            refine z_geti (fi := 12) (x := (F 12)) e_X5_ends_28 f_RX5_190 t0 rfl rfl (congrFun (((z_un (by omega)).trans (z_us _ _ _))) _) ?_
            refine z_aload_n e_X5_ends_31 rfl ?_
            refine z_getr (fi := 4) (r := some (o + 4)) e_X5_ends_32 f_RX5_19 t0 rfl rfl (q4) ?_
            refine z_iload_n e_X5_ends_35 rfl ?_
            refine z_iald (x := (M j)) e_X5_ends_36 t4 (by decide) (by omega) (by omega) (congrFun (((z_un (by omega)).trans (((z_un (by omega)).trans (((z_un (by omega)).trans (((z_un (by omega)).trans (((z_un (by omega)).trans (z_us _ _ _))))))))))) _) ?_
            refine z_iadd e_X5_ends_37 ?_
            refine z_iload_n e_X5_ends_38 rfl ?_
            refine z_isub e_X5_ends_39 ?_
            refine z_istore (ls' := [some (zo o), some (zi line), some (zi k), some (zi j), some (zi (((F 12) + (M j)) - k))]) e_X5_ends_40 rfl rfl rfl ?_
            refine z_aload_n e_X5_ends_42 rfl ?_
            refine z_getr (fi := 5) (r := some (o + 5)) e_X5_ends_43 f_RX5_22 t0 rfl rfl (q5) ?_
            refine z_iload_n e_X5_ends_46 rfl ?_
            refine z_aload_n e_X5_ends_47 rfl ?_
            refine z_geti (fi := 11) (x := (F 11)) e_X5_ends_48 f_RX5_180 t0 rfl rfl (congrFun (((z_un (by omega)).trans (z_us _ _ _))) _) ?_
            refine z_iastX (f := U1) e_X5_ends_51 t5 (by decide) (by omega) (by omega) (((z_un (by omega)).trans (((z_un (by omega)).trans (((z_un (by omega)).trans (((z_un (by omega)).trans (z_us _ _ _))))))))) (z_ux (by omega) (z_ux (by omega) (z_ux (by omega) (z_ux (by omega) (z_uu _ _ _ _))))) ?_
            refine z_aload_n e_X5_ends_52 rfl ?_
            refine z_getr (fi := 6) (r := some (o + 6)) e_X5_ends_53 f_RX5_25 t0 rfl rfl (q6) ?_
            refine z_iload_n e_X5_ends_56 rfl ?_
            have join77_3 : ∀ (cc : Int), cc = y_ec F M k j → z_A M_X5_ends E 0 0 77 [some (zo o), some (zi line), some (zi k), some (zi j), none] [zi cc, zi j, zo (o + 6)] (z_u (z_u (z_u (z_u (z_u (z_u (z_u (z_u mi (o + 2) X) (o + 3) L) (o + 4) M) (o + 5) (z_v U1 j (F 11))) (o + 6) V1) (o + 7) B1) o F) (o + 1) P) mr (z_qv E (fun m r => m = (z_u (z_u (z_u (z_u (z_u (z_u (z_u (z_u mi (o + 2) X) (o + 3) L) (o + 4) M) (o + 5) (y_en L M line k (fun _ => F 11) U 4)) (o + 6) (y_en L M line k (y_ec F M k) V 4)) (o + 7) (y_en L M line k (y_ef F M k) B 4)) o F) (o + 1) P) ∧ r = mr)) := by
              intro cc hj
              have hcc := hj
              refine z_iastX (f := V1) e_X5_ends_77 t6 (by decide) (by omega) (by omega) (((z_un (by omega)).trans (((z_un (by omega)).trans (((z_un (by omega)).trans (z_us _ _ _))))))) (z_ux (by omega) (z_ux (by omega) (z_ux (by omega) (z_uu _ _ _ _)))) ?_
              refine z_aload_n e_X5_ends_78 rfl ?_
              refine z_getr (fi := 7) (r := some (o + 7)) e_X5_ends_79 f_RX5_28 t0 rfl rfl (q7) ?_
              refine z_iload_n e_X5_ends_82 rfl ?_
              have join113_4 : ∀ (ff : Int), ff = y_ef F M k j → z_A M_X5_ends E 0 0 113 [some (zo o), some (zi line), some (zi k), some (zi j), none] [zi ff, zi j, zo (o + 7)] (z_u (z_u (z_u (z_u (z_u (z_u (z_u (z_u mi (o + 2) X) (o + 3) L) (o + 4) M) (o + 5) (z_v U1 j (F 11))) (o + 6) (z_v V1 j cc)) (o + 7) B1) o F) (o + 1) P) mr (z_qv E (fun m r => m = (z_u (z_u (z_u (z_u (z_u (z_u (z_u (z_u mi (o + 2) X) (o + 3) L) (o + 4) M) (o + 5) (y_en L M line k (fun _ => F 11) U 4)) (o + 6) (y_en L M line k (y_ec F M k) V 4)) (o + 7) (y_en L M line k (y_ef F M k) B 4)) o F) (o + 1) P) ∧ r = mr)) := by
                intro ff hj
                have hff := hj
                have hfb : ff = 0 ∨ ff = 1 := by rw [hj]; unfold y_ef; split <;> omega
                refine z_zastX (f := B1) e_X5_ends_113 t7 (by decide) (by omega) (by omega) (by omega) (((z_un (by omega)).trans (((z_un (by omega)).trans (z_us _ _ _))))) (z_ux (by omega) (z_ux (by omega) (z_uu _ _ _ _))) ?_
                refine z_iinc (y := (j + 1)) (ls' := [some (zo o), some (zi line), some (zi k), some (zi (j + 1)), none]) e_X5_ends_114 rfl rfl rfl rfl rfl ?_
                refine z_goto e_X5_ends_117 ?_
                exact ih2 _ (by omega) (j + 1) (z_v U1 j (F 11)) (z_v V1 j cc) (z_v B1 j ff) rfl (⟨by omega, by omega, y_en_y (by omega) hU (by assumption) (by omega) rfl, y_en_y (by omega) hV (by assumption) (by omega) hcc, y_en_y (by omega) hB (by assumption) (by omega) hff⟩)
              refine z_iload_n e_X5_ends_83 rfl ?_
              refine z_if_le e_X5_ends_84 ⟨by omega, by omega⟩ (fun h84_6 => ?_) (fun h84_6 => ?_)
              · refine z_iconst e_X5_ends_112 ?_
                exact join113_4 0 ((if_neg (by omega)).symm)
              · refine z_aload_n e_X5_ends_87 rfl ?_
                refine z_getr (fi := 4) (r := some (o + 4)) e_X5_ends_88 f_RX5_19 t0 rfl rfl (q4) ?_
                refine z_iload_n e_X5_ends_91 rfl ?_
                refine z_iald (x := (M j)) e_X5_ends_92 t4 (by decide) (by omega) (by omega) (congrFun (((z_un (by omega)).trans (((z_un (by omega)).trans (((z_un (by omega)).trans (((z_un (by omega)).trans (((z_un (by omega)).trans (z_us _ _ _))))))))))) _) ?_
                refine z_iload_n e_X5_ends_93 rfl ?_
                refine z_icmp_ne e_X5_ends_94 ⟨by omega, by omega⟩ ⟨by omega, by omega⟩ (fun h94_7 => ?_) (fun h94_7 => ?_)
                · refine z_iconst e_X5_ends_112 ?_
                  exact join113_4 0 ((if_neg (by omega)).symm)
                · refine z_aload_n e_X5_ends_97 rfl ?_
                  refine z_geti (fi := 12) (x := (F 12)) e_X5_ends_98 f_RX5_190 t0 rfl rfl (congrFun (((z_un (by omega)).trans (z_us _ _ _))) _) ?_
                  refine z_aload_n e_X5_ends_101 rfl ?_
                  refine z_geti (fi := 8) (x := (F 8)) e_X5_ends_102 f_RX5_193 t0 rfl rfl (congrFun (((z_un (by omega)).trans (z_us _ _ _))) _) ?_
                  refine z_icmp_ne e_X5_ends_105 ⟨by omega, by omega⟩ ⟨by omega, by omega⟩ (fun h105_8 => ?_) (fun h105_8 => ?_)
                  · refine z_iconst e_X5_ends_112 ?_
                    exact join113_4 0 ((if_neg (by omega)).symm)
                  · refine z_iconst e_X5_ends_108 ?_
                    refine z_goto e_X5_ends_109 ?_
                    exact join113_4 1 ((if_pos ⟨by omega, by omega, by omega⟩).symm)
            refine z_iload e_X5_ends_57 rfl ?_
            refine z_aload_n e_X5_ends_59 rfl ?_
            refine z_geti (fi := 8) (x := (F 8)) e_X5_ends_60 f_RX5_193 t0 rfl rfl (congrFun (((z_un (by omega)).trans (z_us _ _ _))) _) ?_
            refine z_icmp_ge e_X5_ends_63 ⟨by omega, by omega⟩ ⟨by omega, by omega⟩ (fun h63_9 => ?_) (fun h63_9 => ?_)
            · refine z_aload_n e_X5_ends_71 rfl ?_
              refine z_geti (fi := 8) (x := (F 8)) e_X5_ends_72 f_RX5_193 t0 rfl rfl (congrFun (((z_un (by omega)).trans (z_us _ _ _))) _) ?_
              refine z_iconst e_X5_ends_75 ?_
              refine z_isub e_X5_ends_76 ?_
              refine z_fgt (ls' := [some (zo o), some (zi line), some (zi k), some (zi j), none]) ⟨rfl, rfl, rfl, rfl, trivial⟩ ?_
              exact join77_3 ((F 8) - 1) ((if_neg (by omega)).symm)
            · refine z_iload e_X5_ends_66 rfl ?_
              refine z_goto e_X5_ends_68 ?_
              refine z_fgt (ls' := [some (zo o), some (zi line), some (zi k), some (zi j), none]) ⟨rfl, rfl, rfl, rfl, trivial⟩ ?_
              exact join77_3 (((F 12) + (M j)) - k) ((if_pos (by omega)).symm)
  exact loop2 _ 0 U V B rfl (⟨by omega, by omega, by funext i; exact (if_neg (by omega)).symm, by funext i; exact (if_neg (by omega)).symm, by funext i; exact (if_neg (by omega)).symm⟩)
