set_option maxHeartbeats 1000000 in
set_option maxRecDepth 100000 in
theorem c_X5_splits {E : z_E} {mi : z_Mi} {mr : z_Mr} {o : Nat} {P : Int → Int} {g : Int} (hM : z_MO E mr o) (hH : p_hd P) (hg : g = 0 ∨ g = 1) (hwf : 128 ≤ P (15 + 22 * (24 + P 4) + P 5) → 1 ≤ P 5) : z_mv M_X5_splits E [zo o, zi g] (z_u mi (o + 1) P) mr (fun m r => m = z_u mi (o + 1) (p_split g P) ∧ r = mr) := by
  obtain ⟨t0, t1, t2, t3, t4, t5, t6, t7, q0, q2, q3, q4, q5, q6, q7⟩ := id hM
  obtain ⟨hw0, hw1, hh0, hh1, hf0, hf1, hf2, hr0, hr1, hc0, hc1, hp0, hp1, hk0, hk1, hi0, hi1, hkp, hP⟩ := id hH
  refine z_ofv (ls := [some (zo o), some (zi g), none, none]) rfl (fun _ _ => trivial) ⟨rfl, rfl⟩ (Nat.le_of_ble_eq_true rfl) rfl ?_
  refine z_bipush e_X5_splits_0 (by decide +kernel) ?_
  refine z_aload_n e_X5_splits_2 rfl ?_
  refine z_getr (fi := 0) (r := some (o + 1)) e_X5_splits_3 f_RX5_7 t0 rfl rfl (q0) ?_
  refine z_iconst e_X5_splits_6 ?_
  refine z_iald (x := (P 4)) e_X5_splits_7 t1 (by decide) (by decide) (by decide) (congrFun (z_us _ _ _) _) ?_
  refine z_iadd e_X5_splits_8 ?_
  refine z_istore_n (ls' := [some (zo o), some (zi g), some (zi (24 + (P 4))), none]) e_X5_splits_9 rfl rfl rfl ?_
  refine z_aload_n e_X5_splits_10 rfl ?_
  refine z_getr (fi := 0) (r := some (o + 1)) e_X5_splits_11 f_RX5_7 t0 rfl rfl (q0) ?_
  refine z_iconst e_X5_splits_14 ?_
  refine z_iald (x := (P 5)) e_X5_splits_15 t1 (by decide) (by decide) (by decide) (congrFun (z_us _ _ _) _) ?_
  refine z_istore_n (ls' := [some (zo o), some (zi g), some (zi (24 + (P 4))), some (zi (P 5))]) e_X5_splits_16 rfl rfl rfl ?_
  refine z_aload_n e_X5_splits_17 rfl ?_
  refine z_iload_n e_X5_splits_18 rfl ?_
  refine z_iload_n e_X5_splits_19 rfl ?_
  refine z_callVi (M' := M_X5_code) (As := [zi (24 + (P 4)), zi (P 5)]) (rest := []) e_X5_splits_20 l_RX5_51 rfl rfl rfl rfl t0 ⟨_, _, rfl⟩ (c_X5_code hM (by omega) (by omega)) (fun xq mq rq hq => ?_)
  obtain ⟨e1q, e2q, e3q⟩ := hq
  subst xq mq rq
  have hbq := hP (15 + 22 * (24 + (P 4)) + (P 5))
  have hbq2 := hP (15 + 22 * (24 + P 4) + P 5)
  refine z_callSi (M' := M_X5_isRight) (As := [zi (P (15 + 22 * (24 + (P 4)) + (P 5)))]) (rest := []) e_X5_splits_23 l_RX5_54 rfl rfl rfl rfl (c_X5_isRight ⟨by omega, by omega⟩) (fun xq mq rq hq => ?_)
  obtain ⟨e1q, e2q, e3q⟩ := hq
  subst xq mq rq
  refine z_if_eqB e_X5_splits_26  (fun h26_1 => ?_) (fun h26_1 => ?_)
  · refine z_ret e_X5_splits_68 rfl rfl rfl ⟨rfl, rfl, ?_⟩
    refine ⟨congrArg _ ?_, rfl⟩
    unfold p_split r_split
    rw [if_neg (by assumption), p_upd_self]
  · have hc1' : 1 ≤ P 5 := hwf (by assumption)
    refine z_aload_n e_X5_splits_29 rfl ?_
    refine z_getr (fi := 0) (r := some (o + 1)) e_X5_splits_30 f_RX5_7 t0 rfl rfl (q0) ?_
    refine z_iload_n e_X5_splits_33 rfl ?_
    refine z_iload_n e_X5_splits_34 rfl ?_
    refine z_iconst e_X5_splits_35 ?_
    refine z_isub e_X5_splits_36 ?_
    refine z_callSi (M' := M_X5_at) (As := [zi (24 + (P 4)), zi ((P 5) - 1)]) (rest := [zo (o + 1)]) e_X5_splits_37 l_RX5_40 rfl rfl rfl rfl (c_X5_at ) (fun xq mq rq hq => ?_)
    obtain ⟨e1q, e2q, e3q⟩ := hq
    subst xq mq rq
    refine z_bipush e_X5_splits_40 (by decide +kernel) ?_
    refine z_iastU e_X5_splits_42 t1 (by decide) (by omega) (by omega) ?_
    refine z_aload_n e_X5_splits_43 rfl ?_
    refine z_getr (fi := 0) (r := some (o + 1)) e_X5_splits_44 f_RX5_7 t0 rfl rfl (q0) ?_
    refine z_iload_n e_X5_splits_47 rfl ?_
    refine z_iload_n e_X5_splits_48 rfl ?_
    refine z_callSi (M' := M_X5_at) (As := [zi (24 + (P 4)), zi (P 5)]) (rest := [zo (o + 1)]) e_X5_splits_49 l_RX5_40 rfl rfl rfl rfl (c_X5_at ) (fun xq mq rq hq => ?_)
    obtain ⟨e1q, e2q, e3q⟩ := hq
    subst xq mq rq
    refine z_iload_n e_X5_splits_52 rfl ?_
    refine z_if_eq e_X5_splits_53 ⟨by omega, by omega⟩ (fun h53_2 => ?_) (fun h53_2 => ?_)
    · refine z_aload_n e_X5_splits_61 rfl ?_
      refine z_iload_n e_X5_splits_62 rfl ?_
      refine z_iload_n e_X5_splits_63 rfl ?_
      refine z_callVi (M' := M_X5_code) (As := [zi (24 + (P 4)), zi (P 5)]) (rest := [zi (15 + 22 * (24 + (P 4)) + (P 5)), zo (o + 1)]) e_X5_splits_64 l_RX5_51 rfl rfl rfl rfl t0 ⟨_, _, rfl⟩ (c_X5_code hM (by omega) (by omega)) (fun xq mq rq hq => ?_)
      obtain ⟨e1q, e2q, e3q⟩ := hq
      subst xq mq rq
      rw [z_vn (by omega)]
      refine z_iastU e_X5_splits_67 t1 (by decide) (by omega) (by omega) ?_
      refine z_ret e_X5_splits_68 rfl rfl rfl ⟨rfl, rfl, ?_⟩
      refine ⟨congrArg _ ?_, rfl⟩
      unfold p_split r_split
      rw [if_pos (by assumption), p_v_upd _ _ _ _ (by omega) (by omega), p_v_upd _ _ _ _ (by omega) (by omega), p_upd_upd]
      refine p_upd_ext (fun j g0 g1 => ?_)
      unfold z_v
      rw [p_row_upd _ _ _ g0 g1]
      grind [p_row]
    · refine z_bipush e_X5_splits_56 (by decide +kernel) ?_
      refine z_goto e_X5_splits_58 ?_
      refine z_iastU e_X5_splits_67 t1 (by decide) (by omega) (by omega) ?_
      refine z_ret e_X5_splits_68 rfl rfl rfl ⟨rfl, rfl, ?_⟩
      refine ⟨congrArg _ ?_, rfl⟩
      unfold p_split r_split
      rw [if_pos (by assumption), p_v_upd _ _ _ _ (by omega) (by omega), p_v_upd _ _ _ _ (by omega) (by omega), p_upd_upd]
      refine p_upd_ext (fun j g0 g1 => ?_)
      unfold z_v
      rw [p_row_upd _ _ _ g0 g1]
      grind [p_row]
set_option maxHeartbeats 1000000 in
set_option maxRecDepth 100000 in
theorem c_X5_insertCells {E : z_E} {mi : z_Mi} {mr : z_Mr} {o : Nat} {P F : Int → Int} {n : Int} (hM : z_MO E mr o) (hH : p_hd P) (hF1 : 0 ≤ F 1) (hF2 : F 1 ≤ 8) (hz : z_R n) (hwf : 128 ≤ P (15 + 22 * (24 + P 4) + P 5) → 1 ≤ P 5) : z_mi M_X5_insertCells E [zo o, zi n] (z_u (z_u mi o F) (o + 1) P) mr (fun x m r => ((1 ≤ n ∧ n ≤ 20) → x = m_fill (p_rec (F 1) P) (24 + (p_rec (F 1) P) 4) - m_fill (p_insc n (p_rec (F 1) P)) (24 + (p_rec (F 1) P) 4) ∧ m = z_u (z_u mi o (f_rec F)) (o + 1) (p_insc n (p_rec (F 1) P))) ∧ (¬ ((1 ≤ n ∧ n ≤ 20)) → x = -1 ∧ m = z_u (z_u mi o F) (o + 1) P) ∧ r = mr) := by
  obtain ⟨t0, t1, t2, t3, t4, t5, t6, t7, q0, q2, q3, q4, q5, q6, q7⟩ := id hM
  obtain ⟨hw0, hw1, hh0, hh1, hf0, hf1, hf2, hr0, hr1, hc0, hc1, hp0, hp1, hk0, hk1, hi0, hi1, hkp, hP⟩ := id hH
  refine z_ofi (ls := [some (zo o), some (zi n), none, none, none, none, none]) rfl (fun _ _ => trivial) ⟨rfl, rfl⟩ (Nat.le_of_ble_eq_true rfl) rfl ?_
  refine z_iload_n e_X5_insertCells_0 rfl ?_
  refine z_iconst e_X5_insertCells_1 ?_
  refine z_bipush e_X5_insertCells_2 (by decide +kernel) ?_
  refine z_callSi (M' := M_X5_in) (As := [zi n, zi 1, zi 20]) (rest := []) e_X5_insertCells_4 l_RX5_47 rfl rfl rfl rfl (c_X5_in ⟨by omega, by omega⟩ ⟨by omega, by omega⟩ ⟨by omega, by omega⟩) (fun xq mq rq hq => ?_)
  obtain ⟨e1q, e2q, e3q⟩ := hq
  subst xq mq rq
  refine z_if_neB e_X5_insertCells_7  (fun h7_1 => ?_) (fun h7_1 => ?_)
  · refine z_aload_n e_X5_insertCells_12 rfl ?_
    refine z_callVv (M' := M_X5_records) (As := []) (rest := []) e_X5_insertCells_13 l_RX5_96 rfl rfl rfl rfl t0 ⟨_, _, rfl⟩ (c_X5_records hM (by omega) (by omega)) (fun mq rq hq => ?_)
    obtain ⟨e2q, e3q⟩ := hq
    subst mq rq
    generalize hgP1 : (p_rec (F 1) P) = P1
    have hd1 : p_hd P1 := by rw [← hgP1]; exact p_hd_rec hH hF1
    have e1 : ∀ k, k < 719 → P1 k = P k := by intro k hk; rw [← hgP1]; exact p_rec_hd hF1 hk
    have e1_0 : P1 0 = P 0 := e1 0 (by decide)
    have e1_1 : P1 1 = P 1 := e1 1 (by decide)
    have e1_2 : P1 2 = P 2 := e1 2 (by decide)
    have e1_3 : P1 3 = P 3 := e1 3 (by decide)
    have e1_4 : P1 4 = P 4 := e1 4 (by decide)
    have e1_5 : P1 5 = P 5 := e1 5 (by decide)
    have e1_7 : P1 7 = P 7 := e1 7 (by decide)
    have e1_14 : P1 14 = P 14 := e1 14 (by decide)
    have hwf1 : 128 ≤ P1 (15 + 22 * (24 + P1 4) + P1 5) → 1 ≤ P1 5 := by rw [e1_4, e1_5, e1 _ (by omega)]; exact hwf
    clear hw0 hw1 hh0 hh1 hf0 hf1 hf2 hr0 hr1 hc0 hc1 hp0 hp1 hk0 hk1 hi0 hi1 hkp
    obtain ⟨hw0, hw1, hh0, hh1, hf0, hf1, hf2, hr0, hr1, hc0, hc1, hp0, hp1, hk0, hk1, hi0, hi1, hkp, hP1⟩ := id hd1
    refine z_bipush e_X5_insertCells_16 (by decide +kernel) ?_
    refine z_aload_n e_X5_insertCells_18 rfl ?_
    refine z_getr (fi := 0) (r := some (o + 1)) e_X5_insertCells_19 f_RX5_7 t0 rfl rfl (q0) ?_
    refine z_iconst e_X5_insertCells_22 ?_
    refine z_iald (x := (P1 4)) e_X5_insertCells_23 t1 (by decide) (by decide) (by decide) (congrFun (z_us _ _ _) _) ?_
    refine z_iadd e_X5_insertCells_24 ?_
    refine z_istore_n (ls' := [some (zo o), some (zi n), some (zi (24 + (P1 4))), none, none, none, none]) e_X5_insertCells_25 rfl rfl rfl ?_
    refine z_aload_n e_X5_insertCells_26 rfl ?_
    refine z_getr (fi := 0) (r := some (o + 1)) e_X5_insertCells_27 f_RX5_7 t0 rfl rfl (q0) ?_
    refine z_iconst e_X5_insertCells_30 ?_
    refine z_iald (x := (P1 5)) e_X5_insertCells_31 t1 (by decide) (by decide) (by decide) (congrFun (z_us _ _ _) _) ?_
    refine z_istore_n (ls' := [some (zo o), some (zi n), some (zi (24 + (P1 4))), some (zi (P1 5)), none, none, none]) e_X5_insertCells_32 rfl rfl rfl ?_
    have join57_1 : ∀ (mm : Int), mm = m_mc n P1 → z_A M_X5_insertCells E 0 0 57 [some (zo o), some (zi n), some (zi (24 + (P1 4))), some (zi (P1 5)), none, none, none] [zi mm] (z_u (z_u mi o (f_rec F)) (o + 1) P1) mr (z_qi E (fun x m r => ((1 ≤ n ∧ n ≤ 20) → x = m_fill P1 (24 + P1 4) - m_fill (p_insc n P1) (24 + P1 4) ∧ m = z_u (z_u mi o (f_rec F)) (o + 1) (p_insc n P1)) ∧ (¬ ((1 ≤ n ∧ n ≤ 20)) → x = -1 ∧ m = z_u (z_u mi o F) (o + 1) P) ∧ r = mr)) := by
      intro mm hj
      have hmm := hj
      have hmb : 1 ≤ mm ∧ mm ≤ P1 0 - P1 5 := by rw [hj]; unfold m_mc; split <;> omega
      refine z_istore (ls' := [some (zo o), some (zi n), some (zi (24 + (P1 4))), some (zi (P1 5)), some (zi mm), none, none]) e_X5_insertCells_57 rfl rfl rfl ?_
      refine z_aload_n e_X5_insertCells_59 rfl ?_
      refine z_iload_n e_X5_insertCells_60 rfl ?_
      refine z_callVi (M' := M_X5_filled) (As := [zi (24 + (P1 4))]) (rest := []) e_X5_insertCells_61 l_RX5_68 rfl rfl rfl rfl t0 ⟨_, _, rfl⟩ (c_X5_filled hM (by omega) (by omega) (by omega) (by omega) (p_hd_pr hd1)) (fun xq mq rq hq => ?_)
      obtain ⟨e1q, e2q, e3q⟩ := hq
      subst xq mq rq
      refine z_istore (ls' := [some (zo o), some (zi n), some (zi (24 + (P1 4))), some (zi (P1 5)), some (zi mm), some (zi (m_fill P1 (24 + P1 4))), none]) e_X5_insertCells_64 rfl rfl rfl ?_
      refine z_aload_n e_X5_insertCells_66 rfl ?_
      refine z_iconst e_X5_insertCells_67 ?_
      refine z_callVv (M' := M_X5_splits) (As := [zi 1]) (rest := []) e_X5_insertCells_68 l_RX5_127 rfl rfl rfl rfl t0 ⟨_, _, rfl⟩ (c_X5_splits hM hd1 (Or.inr rfl) hwf1) (fun mq rq hq => ?_)
      obtain ⟨e2q, e3q⟩ := hq
      subst mq rq
      generalize hgP2 : (p_split 1 P1) = P2
      have e2 : P2 = p_upd P1 (24 + P1 4) (r_split 1 (P1 5) (p_row P1 (24 + P1 4))) := by rw [← hgP2]; rfl
      have e20 : P2 0 = P1 0 := by rw [e2]; exact p_upd_hd _ _ (by omega)
      refine z_aload_n e_X5_insertCells_71 rfl ?_
      refine z_getr (fi := 0) (r := some (o + 1)) e_X5_insertCells_72 f_RX5_7 t0 rfl rfl (q0) ?_
      refine z_iconst e_X5_insertCells_75 ?_
      refine z_iald (x := (P1 0)) e_X5_insertCells_76 t1 (by decide) (by decide) (by decide) ((congrFun (z_us _ _ _) _).trans e20) ?_
      refine z_iconst e_X5_insertCells_77 ?_
      refine z_isub e_X5_insertCells_78 ?_
      refine z_istore (ls' := [some (zo o), some (zi n), some (zi (24 + (P1 4))), some (zi (P1 5)), some (zi mm), some (zi (m_fill P1 (24 + P1 4))), some (zi ((P1 0) - 1))]) e_X5_insertCells_79 rfl rfl rfl ?_
      have loop81 : ∀ (nn : Nat) (k : Int) (P3 : Int → Int), (k + 1).toNat = nn → (P1 5 + mm - 1 ≤ k ∧ k ≤ P1 0 - 1 ∧ P3 = p_upd P1 (24 + P1 4) (r_shr mm (P1 0) (k + 1) (r_split 1 (P1 5) (p_row P1 (24 + P1 4))))) → z_A M_X5_insertCells E 0 0 81 [some (zo o), some (zi n), some (zi (24 + (P1 4))), some (zi (P1 5)), some (zi mm), some (zi (m_fill P1 (24 + P1 4))), some (zi k)] [] (z_u (z_u mi o (f_rec F)) (o + 1) P3) mr (z_qi E (fun x m r => ((1 ≤ n ∧ n ≤ 20) → x = m_fill P1 (24 + P1 4) - m_fill (p_insc n P1) (24 + P1 4) ∧ m = z_u (z_u mi o (f_rec F)) (o + 1) (p_insc n P1)) ∧ (¬ ((1 ≤ n ∧ n ≤ 20)) → x = -1 ∧ m = z_u (z_u mi o F) (o + 1) P) ∧ r = mr)) := by
        intro nn
        induction nn using Nat.strongRecOn with
        | _ nn ih =>
          intro k P3 hmeas hinv
          obtain ⟨hl0, hl1, hP3⟩ := hinv
          refine z_iload e_X5_insertCells_81 rfl ?_
          refine z_iload_n e_X5_insertCells_83 rfl ?_
          refine z_iload e_X5_insertCells_84 rfl ?_
          refine z_iadd e_X5_insertCells_86 ?_
          refine z_icmp_lt e_X5_insertCells_87 ⟨by omega, by omega⟩ ⟨by omega, by omega⟩ (fun h87_3 => ?_) (fun h87_3 => ?_)
          · have hk : k = P1 5 + mm - 1 := by omega
            refine z_iload_n e_X5_insertCells_117 rfl ?_
            refine z_istore (ls' := [some (zo o), some (zi n), some (zi (24 + (P1 4))), some (zi (P1 5)), some (zi mm), some (zi (m_fill P1 (24 + P1 4))), some (zi (P1 5))]) e_X5_insertCells_118 rfl rfl rfl ?_
            have loop120 : ∀ (nn : Nat) (q : Int) (P4 : Int → Int), (P1 5 + mm - q).toNat = nn → (P1 5 ≤ q ∧ q ≤ P1 5 + mm ∧ P4 = p_upd P1 (24 + P1 4) (r_f32 (P1 5) q (r_shr mm (P1 0) (P1 5 + mm) (r_split 1 (P1 5) (p_row P1 (24 + P1 4)))))) → z_A M_X5_insertCells E 0 0 120 [some (zo o), some (zi n), some (zi (24 + (P1 4))), some (zi (P1 5)), some (zi mm), some (zi (m_fill P1 (24 + P1 4))), some (zi q)] [] (z_u (z_u mi o (f_rec F)) (o + 1) P4) mr (z_qi E (fun x m r => ((1 ≤ n ∧ n ≤ 20) → x = m_fill P1 (24 + P1 4) - m_fill (p_insc n P1) (24 + P1 4) ∧ m = z_u (z_u mi o (f_rec F)) (o + 1) (p_insc n P1)) ∧ (¬ ((1 ≤ n ∧ n ≤ 20)) → x = -1 ∧ m = z_u (z_u mi o F) (o + 1) P) ∧ r = mr)) := by
              intro nn
              induction nn using Nat.strongRecOn with
              | _ nn ih =>
                intro q P4 hmeas hinv
                obtain ⟨hq0, hq1, hP4⟩ := hinv
                refine z_iload e_X5_insertCells_120 rfl ?_
                refine z_iload_n e_X5_insertCells_122 rfl ?_
                refine z_iload e_X5_insertCells_123 rfl ?_
                refine z_iadd e_X5_insertCells_125 ?_
                refine z_icmp_ge e_X5_insertCells_126 ⟨by omega, by omega⟩ ⟨by omega, by omega⟩ (fun h126_4 => ?_) (fun h126_4 => ?_)
                · have hq : q = P1 5 + mm := by omega
                  subst hq
                  have e40 : P4 0 = P1 0 := by rw [hP4]; exact p_upd_hd _ _ (by omega)
                  have hP4p : z_pr P4 := by rw [hP4]; exact z_pr_up hP1 (z_pr_f32 (z_pr_shr (z_pr_split (z_pr_row hP1 _))))
                  have join186_4 : ∀ (P5 : Int → Int), P5 = p_upd P1 (24 + P1 4) (r_fixw (P1 0) (r_f32 (P1 5) (P1 5 + mm) (r_shr mm (P1 0) (P1 5 + mm) (r_split 1 (P1 5) (p_row P1 (24 + P1 4)))))) → z_A M_X5_insertCells E 0 0 186 [some (zo o), some (zi n), some (zi (24 + (P1 4))), some (zi (P1 5)), some (zi mm), some (zi (m_fill P1 (24 + P1 4))), none] [] (z_u (z_u mi o (f_rec F)) (o + 1) P5) mr (z_qi E (fun x m r => ((1 ≤ n ∧ n ≤ 20) → x = m_fill P1 (24 + P1 4) - m_fill (p_insc n P1) (24 + P1 4) ∧ m = z_u (z_u mi o (f_rec F)) (o + 1) (p_insc n P1)) ∧ (¬ ((1 ≤ n ∧ n ≤ 20)) → x = -1 ∧ m = z_u (z_u mi o F) (o + 1) P) ∧ r = mr)) := by
                    intro P5 hj
                    have hP5 := hj
                    have hd5 : p_hd P5 := by rw [hj]; exact p_hd_upd hd1 (by omega) (z_pr_fixw (z_pr_f32 (z_pr_shr (z_pr_split (z_pr_row hP1 _)))))
                    refine z_aload_n e_X5_insertCells_186 rfl ?_
                    refine z_iload_n e_X5_insertCells_187 rfl ?_
                    refine z_callVv (M' := M_X5_unwraps) (As := [zi (24 + (P1 4))]) (rest := []) e_X5_insertCells_188 l_RX5_44 rfl rfl rfl rfl t0 ⟨_, _, rfl⟩ (c_X5_unwraps hM (by omega) (by omega)) (fun mq rq hq => ?_)
                    obtain ⟨e2q, e3q⟩ := hq
                    subst mq rq
                    refine z_aload_n e_X5_insertCells_191 rfl ?_
                    refine z_getr (fi := 0) (r := some (o + 1)) e_X5_insertCells_192 f_RX5_7 t0 rfl rfl (q0) ?_
                    refine z_bipush e_X5_insertCells_195 (by decide +kernel) ?_
                    refine z_iconst e_X5_insertCells_197 ?_
                    refine z_iastU e_X5_insertCells_198 t1 (by decide) (by decide) (by decide) ?_
                    generalize hgP6 : (z_v (p_upd P5 (24 + (P1 4)) (r_unw (p_row P5 (24 + (P1 4))))) 6 0) = P6
                    have e6 : P6 = p_insc n P1 := by rw [← hgP6, hP5, p_upd_upd]; unfold p_insc r_insc; rw [← hmm]; exact congrArg (fun q => z_v q 6 0) (p_upd_ext (fun j g0 g1 => by unfold r_unw; rw [p_row_upd _ _ _ g0 g1]))
                    have hd6 : p_hd P6 := by rw [e6]; exact p_hd_insc hd1
                    have hw60 := hd6.1
                    have hw61 := hd6.2.1
                    refine z_iload e_X5_insertCells_199 rfl ?_
                    refine z_aload_n e_X5_insertCells_201 rfl ?_
                    refine z_iload_n e_X5_insertCells_202 rfl ?_
                    refine z_callVi (M' := M_X5_filled) (As := [zi (24 + (P1 4))]) (rest := [zi (m_fill P1 (24 + P1 4))]) e_X5_insertCells_203 l_RX5_68 rfl rfl rfl rfl t0 ⟨_, _, rfl⟩ (c_X5_filled hM (by omega) (by omega) (by omega) (by omega) (p_hd_pr hd6)) (fun xq mq rq hq => ?_)
                    obtain ⟨e1q, e2q, e3q⟩ := hq
                    subst xq mq rq
                    refine z_isub e_X5_insertCells_206 ?_
                    refine z_iret e_X5_insertCells_207 (Or.inl rfl) rfl rfl ⟨rfl, _, rfl, ?_⟩
                    refine ⟨fun hb => ⟨?_, ?_⟩, fun hb => absurd (by omega) hb, rfl⟩
                    · rw [e6]
                    · rw [e6]
                  refine z_aload_n e_X5_insertCells_148 rfl ?_
                  refine z_iload_n e_X5_insertCells_149 rfl ?_
                  refine z_aload_n e_X5_insertCells_150 rfl ?_
                  refine z_getr (fi := 0) (r := some (o + 1)) e_X5_insertCells_151 f_RX5_7 t0 rfl rfl (q0) ?_
                  refine z_iconst e_X5_insertCells_154 ?_
                  refine z_iald (x := (P1 0)) e_X5_insertCells_155 t1 (by decide) (by decide) (by decide) ((congrFun (z_us _ _ _) _).trans e40) ?_
                  refine z_iconst e_X5_insertCells_156 ?_
                  refine z_isub e_X5_insertCells_157 ?_
                  refine z_callVi (M' := M_X5_code) (As := [zi (24 + (P1 4)), zi ((P1 0) - 1)]) (rest := []) e_X5_insertCells_158 l_RX5_51 rfl rfl rfl rfl t0 ⟨_, _, rfl⟩ (c_X5_code hM (by omega) (by omega)) (fun xq mq rq hq => ?_)
                  obtain ⟨e1q, e2q, e3q⟩ := hq
                  subst xq mq rq
                  have hbq4 := hP4p (15 + 22 * (24 + P1 4) + (P1 0 - 1))
                  refine z_callSi (M' := M_X5_isWide) (As := [zi (P4 (15 + 22 * (24 + P1 4) + (P1 0 - 1)))]) (rest := []) e_X5_insertCells_161 l_RX5_62 rfl rfl rfl rfl (c_X5_isWide ⟨by omega, by omega⟩) (fun xq mq rq hq => ?_)
                  obtain ⟨e1q, e2q, e3q⟩ := hq
                  subst xq mq rq
                  refine z_if_eqB e_X5_insertCells_164  (fun h164_6 => ?_) (fun h164_6 => ?_)
                  · refine z_fgt (ls' := [some (zo o), some (zi n), some (zi (24 + (P1 4))), some (zi (P1 5)), some (zi mm), some (zi (m_fill P1 (24 + P1 4))), none]) ⟨rfl, rfl, rfl, rfl, rfl, rfl, trivial⟩ ?_
                    exact join186_4 P4 (by rw [hP4]; unfold r_fixw; rw [if_neg (by rw [hP4, p_upd_at _ _ _ _ (by omega) (by omega)] at *; assumption)])
                  · refine z_aload_n e_X5_insertCells_167 rfl ?_
                    refine z_getr (fi := 0) (r := some (o + 1)) e_X5_insertCells_168 f_RX5_7 t0 rfl rfl (q0) ?_
                    refine z_iload_n e_X5_insertCells_171 rfl ?_
                    refine z_aload_n e_X5_insertCells_172 rfl ?_
                    refine z_getr (fi := 0) (r := some (o + 1)) e_X5_insertCells_173 f_RX5_7 t0 rfl rfl (q0) ?_
                    refine z_iconst e_X5_insertCells_176 ?_
                    refine z_iald (x := (P1 0)) e_X5_insertCells_177 t1 (by decide) (by decide) (by decide) ((congrFun (z_us _ _ _) _).trans e40) ?_
                    refine z_iconst e_X5_insertCells_178 ?_
                    refine z_isub e_X5_insertCells_179 ?_
                    refine z_callSi (M' := M_X5_at) (As := [zi (24 + (P1 4)), zi ((P1 0) - 1)]) (rest := [zo (o + 1)]) e_X5_insertCells_180 l_RX5_40 rfl rfl rfl rfl (c_X5_at ) (fun xq mq rq hq => ?_)
                    obtain ⟨e1q, e2q, e3q⟩ := hq
                    subst xq mq rq
                    refine z_bipush e_X5_insertCells_183 (by decide +kernel) ?_
                    refine z_iastU e_X5_insertCells_185 t1 (by decide) (by omega) (by omega) ?_
                    refine z_fgt (ls' := [some (zo o), some (zi n), some (zi (24 + (P1 4))), some (zi (P1 5)), some (zi mm), some (zi (m_fill P1 (24 + P1 4))), none]) ⟨rfl, rfl, rfl, rfl, rfl, rfl, trivial⟩ ?_
                    exact join186_4 (z_v P4 (15 + 22 * (24 + (P1 4)) + ((P1 0) - 1)) 32) (by rw [hP4, p_v_up2 _ _ _ _ _ (by omega) (by omega)]; unfold r_fixw; rw [if_pos (by rw [hP4, p_upd_at _ _ _ _ (by omega) (by omega)] at *; assumption)])
                · refine z_aload_n e_X5_insertCells_129 rfl ?_
                  refine z_getr (fi := 0) (r := some (o + 1)) e_X5_insertCells_130 f_RX5_7 t0 rfl rfl (q0) ?_
                  refine z_iload_n e_X5_insertCells_133 rfl ?_
                  refine z_iload e_X5_insertCells_134 rfl ?_
                  refine z_callSi (M' := M_X5_at) (As := [zi (24 + (P1 4)), zi q]) (rest := [zo (o + 1)]) e_X5_insertCells_136 l_RX5_40 rfl rfl rfl rfl (c_X5_at ) (fun xq mq rq hq => ?_)
                  obtain ⟨e1q, e2q, e3q⟩ := hq
                  subst xq mq rq
                  refine z_bipush e_X5_insertCells_139 (by decide +kernel) ?_
                  refine z_iastU e_X5_insertCells_141 t1 (by decide) (by omega) (by omega) ?_
                  refine z_iinc (y := (q + 1)) (ls' := [some (zo o), some (zi n), some (zi (24 + (P1 4))), some (zi (P1 5)), some (zi mm), some (zi (m_fill P1 (24 + P1 4))), some (zi (q + 1))]) e_X5_insertCells_142 rfl rfl rfl rfl rfl ?_
                  refine z_goto e_X5_insertCells_145 ?_
                  exact ih _ (by omega) (q + 1) (z_v P4 (15 + 22 * (24 + (P1 4)) + q) 32) rfl (⟨by omega, by omega, by rw [hP4, p_v_up2 _ _ _ _ _ (by omega) (by omega), r_f32_s (by omega)]⟩)
            exact loop120 _ (P1 5) P3 rfl (⟨by omega, by omega, by rw [hP3, hk, show P1 5 + mm - 1 + 1 = P1 5 + mm by omega, r_f32_0]⟩)
          · refine z_aload_n e_X5_insertCells_90 rfl ?_
            refine z_getr (fi := 0) (r := some (o + 1)) e_X5_insertCells_91 f_RX5_7 t0 rfl rfl (q0) ?_
            refine z_iload_n e_X5_insertCells_94 rfl ?_
            refine z_iload e_X5_insertCells_95 rfl ?_
            refine z_callSi (M' := M_X5_at) (As := [zi (24 + (P1 4)), zi k]) (rest := [zo (o + 1)]) e_X5_insertCells_97 l_RX5_40 rfl rfl rfl rfl (c_X5_at ) (fun xq mq rq hq => ?_)
            obtain ⟨e1q, e2q, e3q⟩ := hq
            subst xq mq rq
            refine z_aload_n e_X5_insertCells_100 rfl ?_
            refine z_iload_n e_X5_insertCells_101 rfl ?_
            refine z_iload e_X5_insertCells_102 rfl ?_
            refine z_iload e_X5_insertCells_104 rfl ?_
            refine z_isub e_X5_insertCells_106 ?_
            refine z_callVi (M' := M_X5_code) (As := [zi (24 + (P1 4)), zi (k - mm)]) (rest := [zi (15 + 22 * (24 + (P1 4)) + k), zo (o + 1)]) e_X5_insertCells_107 l_RX5_51 rfl rfl rfl rfl t0 ⟨_, _, rfl⟩ (c_X5_code hM (by omega) (by omega)) (fun xq mq rq hq => ?_)
            obtain ⟨e1q, e2q, e3q⟩ := hq
            subst xq mq rq
            refine z_iastU e_X5_insertCells_110 t1 (by decide) (by omega) (by omega) ?_
            refine z_iinc (y := (k + (-1))) (ls' := [some (zo o), some (zi n), some (zi (24 + (P1 4))), some (zi (P1 5)), some (zi mm), some (zi (m_fill P1 (24 + P1 4))), some (zi (k + (-1)))]) e_X5_insertCells_111 rfl rfl rfl rfl rfl ?_
            refine z_goto e_X5_insertCells_114 ?_
            exact ih _ (by omega) (k + (-1)) (z_v P3 (15 + 22 * (24 + (P1 4)) + k) (P3 (15 + 22 * (24 + (P1 4)) + (k - mm)))) rfl (⟨by omega, by omega, by rw [hP3, p_upd_at _ _ _ _ (by omega) (by omega), p_v_up2 _ _ _ _ _ (by omega) (by omega), r_shr_s (by omega) (by omega), show k + -1 + 1 = k by omega]⟩)
      exact loop81 _ ((P1 0) - 1) P2 rfl (⟨by omega, by omega, by rw [e2, show P1 0 - 1 + 1 = P1 0 by omega, r_shr_0]⟩)
    refine z_iload_n e_X5_insertCells_33 rfl ?_
    refine z_aload_n e_X5_insertCells_34 rfl ?_
    refine z_getr (fi := 0) (r := some (o + 1)) e_X5_insertCells_35 f_RX5_7 t0 rfl rfl (q0) ?_
    refine z_iconst e_X5_insertCells_38 ?_
    refine z_iald (x := (P1 0)) e_X5_insertCells_39 t1 (by decide) (by decide) (by decide) (congrFun (z_us _ _ _) _) ?_
    refine z_iload_n e_X5_insertCells_40 rfl ?_
    refine z_isub e_X5_insertCells_41 ?_
    refine z_icmp_ge e_X5_insertCells_42 ⟨by omega, by omega⟩ ⟨by omega, by omega⟩ (fun h42_7 => ?_) (fun h42_7 => ?_)
    · refine z_aload_n e_X5_insertCells_49 rfl ?_
      refine z_getr (fi := 0) (r := some (o + 1)) e_X5_insertCells_50 f_RX5_7 t0 rfl rfl (q0) ?_
      refine z_iconst e_X5_insertCells_53 ?_
      refine z_iald (x := (P1 0)) e_X5_insertCells_54 t1 (by decide) (by decide) (by decide) (congrFun (z_us _ _ _) _) ?_
      refine z_iload_n e_X5_insertCells_55 rfl ?_
      refine z_isub e_X5_insertCells_56 ?_
      exact join57_1 ((P1 0) - (P1 5)) ((if_neg (by omega)).symm)
    · refine z_iload_n e_X5_insertCells_45 rfl ?_
      refine z_goto e_X5_insertCells_46 ?_
      exact join57_1 n ((if_pos (by omega)).symm)
  · refine z_iconst e_X5_insertCells_10 ?_
    refine z_iret e_X5_insertCells_11 (Or.inl rfl) rfl rfl ⟨rfl, _, rfl, ?_⟩
    exact ⟨fun hb => absurd hb (by omega), fun _ => ⟨rfl, rfl⟩, rfl⟩
set_option maxHeartbeats 1000000 in
set_option maxRecDepth 100000 in
theorem c_X5_deleteCells {E : z_E} {mi : z_Mi} {mr : z_Mr} {o : Nat} {P F : Int → Int} {n : Int} (hM : z_MO E mr o) (hH : p_hd P) (hF1 : 0 ≤ F 1) (hF2 : F 1 ≤ 8) (hz : z_R n) (hwf : 128 ≤ P (15 + 22 * (24 + P 4) + P 5) → 1 ≤ P 5) : z_mi M_X5_deleteCells E [zo o, zi n] (z_u (z_u mi o F) (o + 1) P) mr (fun x m r => ((1 ≤ n ∧ n ≤ 20) → x = m_fill (p_rec (F 1) P) (24 + (p_rec (F 1) P) 4) - m_fill (p_delc n (p_rec (F 1) P)) (24 + (p_rec (F 1) P) 4) ∧ m = z_u (z_u mi o (f_rec F)) (o + 1) (p_delc n (p_rec (F 1) P))) ∧ (¬ ((1 ≤ n ∧ n ≤ 20)) → x = -1 ∧ m = z_u (z_u mi o F) (o + 1) P) ∧ r = mr) := by
  obtain ⟨t0, t1, t2, t3, t4, t5, t6, t7, q0, q2, q3, q4, q5, q6, q7⟩ := id hM
  obtain ⟨hw0, hw1, hh0, hh1, hf0, hf1, hf2, hr0, hr1, hc0, hc1, hp0, hp1, hk0, hk1, hi0, hi1, hkp, hP⟩ := id hH
  refine z_ofi (ls := [some (zo o), some (zi n), none, none, none, none, none]) rfl (fun _ _ => trivial) ⟨rfl, rfl⟩ (Nat.le_of_ble_eq_true rfl) rfl ?_
  refine z_iload_n e_X5_deleteCells_0 rfl ?_
  refine z_iconst e_X5_deleteCells_1 ?_
  refine z_bipush e_X5_deleteCells_2 (by decide +kernel) ?_
  refine z_callSi (M' := M_X5_in) (As := [zi n, zi 1, zi 20]) (rest := []) e_X5_deleteCells_4 l_RX5_47 rfl rfl rfl rfl (c_X5_in ⟨by omega, by omega⟩ ⟨by omega, by omega⟩ ⟨by omega, by omega⟩) (fun xq mq rq hq => ?_)
  obtain ⟨e1q, e2q, e3q⟩ := hq
  subst xq mq rq
  refine z_if_neB e_X5_deleteCells_7  (fun h7_1 => ?_) (fun h7_1 => ?_)
  · refine z_aload_n e_X5_deleteCells_12 rfl ?_
    refine z_callVv (M' := M_X5_records) (As := []) (rest := []) e_X5_deleteCells_13 l_RX5_96 rfl rfl rfl rfl t0 ⟨_, _, rfl⟩ (c_X5_records hM (by omega) (by omega)) (fun mq rq hq => ?_)
    obtain ⟨e2q, e3q⟩ := hq
    subst mq rq
    generalize hgP1 : (p_rec (F 1) P) = P1
    have hd1 : p_hd P1 := by rw [← hgP1]; exact p_hd_rec hH hF1
    have e1 : ∀ k, k < 719 → P1 k = P k := by intro k hk; rw [← hgP1]; exact p_rec_hd hF1 hk
    have e1_0 : P1 0 = P 0 := e1 0 (by decide)
    have e1_1 : P1 1 = P 1 := e1 1 (by decide)
    have e1_2 : P1 2 = P 2 := e1 2 (by decide)
    have e1_3 : P1 3 = P 3 := e1 3 (by decide)
    have e1_4 : P1 4 = P 4 := e1 4 (by decide)
    have e1_5 : P1 5 = P 5 := e1 5 (by decide)
    have e1_7 : P1 7 = P 7 := e1 7 (by decide)
    have e1_14 : P1 14 = P 14 := e1 14 (by decide)
    have hwf1 : 128 ≤ P1 (15 + 22 * (24 + P1 4) + P1 5) → 1 ≤ P1 5 := by rw [e1_4, e1_5, e1 _ (by omega)]; exact hwf
    clear hw0 hw1 hh0 hh1 hf0 hf1 hf2 hr0 hr1 hc0 hc1 hp0 hp1 hk0 hk1 hi0 hi1 hkp
    obtain ⟨hw0, hw1, hh0, hh1, hf0, hf1, hf2, hr0, hr1, hc0, hc1, hp0, hp1, hk0, hk1, hi0, hi1, hkp, hP1⟩ := id hd1
    refine z_bipush e_X5_deleteCells_16 (by decide +kernel) ?_
    refine z_aload_n e_X5_deleteCells_18 rfl ?_
    refine z_getr (fi := 0) (r := some (o + 1)) e_X5_deleteCells_19 f_RX5_7 t0 rfl rfl (q0) ?_
    refine z_iconst e_X5_deleteCells_22 ?_
    refine z_iald (x := (P1 4)) e_X5_deleteCells_23 t1 (by decide) (by decide) (by decide) (congrFun (z_us _ _ _) _) ?_
    refine z_iadd e_X5_deleteCells_24 ?_
    refine z_istore_n (ls' := [some (zo o), some (zi n), some (zi (24 + (P1 4))), none, none, none, none]) e_X5_deleteCells_25 rfl rfl rfl ?_
    refine z_aload_n e_X5_deleteCells_26 rfl ?_
    refine z_getr (fi := 0) (r := some (o + 1)) e_X5_deleteCells_27 f_RX5_7 t0 rfl rfl (q0) ?_
    refine z_iconst e_X5_deleteCells_30 ?_
    refine z_iald (x := (P1 5)) e_X5_deleteCells_31 t1 (by decide) (by decide) (by decide) (congrFun (z_us _ _ _) _) ?_
    refine z_istore_n (ls' := [some (zo o), some (zi n), some (zi (24 + (P1 4))), some (zi (P1 5)), none, none, none]) e_X5_deleteCells_32 rfl rfl rfl ?_
    have join57_1 : ∀ (mm : Int), mm = m_mc n P1 → z_A M_X5_deleteCells E 0 0 57 [some (zo o), some (zi n), some (zi (24 + (P1 4))), some (zi (P1 5)), none, none, none] [zi mm] (z_u (z_u mi o (f_rec F)) (o + 1) P1) mr (z_qi E (fun x m r => ((1 ≤ n ∧ n ≤ 20) → x = m_fill P1 (24 + P1 4) - m_fill (p_delc n P1) (24 + P1 4) ∧ m = z_u (z_u mi o (f_rec F)) (o + 1) (p_delc n P1)) ∧ (¬ ((1 ≤ n ∧ n ≤ 20)) → x = -1 ∧ m = z_u (z_u mi o F) (o + 1) P) ∧ r = mr)) := by
      intro mm hj
      have hmm := hj
      have hmb : 1 ≤ mm ∧ mm ≤ P1 0 - P1 5 := by rw [hj]; unfold m_mc; split <;> omega
      refine z_istore (ls' := [some (zo o), some (zi n), some (zi (24 + (P1 4))), some (zi (P1 5)), some (zi mm), none, none]) e_X5_deleteCells_57 rfl rfl rfl ?_
      refine z_aload_n e_X5_deleteCells_59 rfl ?_
      refine z_iload_n e_X5_deleteCells_60 rfl ?_
      refine z_callVi (M' := M_X5_filled) (As := [zi (24 + (P1 4))]) (rest := []) e_X5_deleteCells_61 l_RX5_68 rfl rfl rfl rfl t0 ⟨_, _, rfl⟩ (c_X5_filled hM (by omega) (by omega) (by omega) (by omega) (p_hd_pr hd1)) (fun xq mq rq hq => ?_)
      obtain ⟨e1q, e2q, e3q⟩ := hq
      subst xq mq rq
      refine z_istore (ls' := [some (zo o), some (zi n), some (zi (24 + (P1 4))), some (zi (P1 5)), some (zi mm), some (zi (m_fill P1 (24 + P1 4))), none]) e_X5_deleteCells_64 rfl rfl rfl ?_
      refine z_aload_n e_X5_deleteCells_66 rfl ?_
      refine z_iconst e_X5_deleteCells_67 ?_
      refine z_callVv (M' := M_X5_splits) (As := [zi 0]) (rest := []) e_X5_deleteCells_68 l_RX5_127 rfl rfl rfl rfl t0 ⟨_, _, rfl⟩ (c_X5_splits hM hd1 (Or.inl rfl) hwf1) (fun mq rq hq => ?_)
      obtain ⟨e2q, e3q⟩ := hq
      subst mq rq
      generalize hgP2 : (p_split 0 P1) = P2
      have e2 : P2 = p_upd P1 (24 + P1 4) (r_split 0 (P1 5) (p_row P1 (24 + P1 4))) := by rw [← hgP2]; rfl
      have e20 : P2 0 = P1 0 := by rw [e2]; exact p_upd_hd _ _ (by omega)
      have hP2p : z_pr P2 := by rw [e2]; exact z_pr_up hP1 (z_pr_split (z_pr_row hP1 _))
      have join114_2 : ∀ (P3 : Int → Int), P3 = p_upd P1 (24 + P1 4) (r_fix0 (P1 0) (P1 5 + mm) (r_split 0 (P1 5) (p_row P1 (24 + P1 4)))) → z_A M_X5_deleteCells E 0 0 114 [some (zo o), some (zi n), some (zi (24 + (P1 4))), some (zi (P1 5)), some (zi mm), some (zi (m_fill P1 (24 + P1 4))), none] [] (z_u (z_u mi o (f_rec F)) (o + 1) P3) mr (z_qi E (fun x m r => ((1 ≤ n ∧ n ≤ 20) → x = m_fill P1 (24 + P1 4) - m_fill (p_delc n P1) (24 + P1 4) ∧ m = z_u (z_u mi o (f_rec F)) (o + 1) (p_delc n P1)) ∧ (¬ ((1 ≤ n ∧ n ≤ 20)) → x = -1 ∧ m = z_u (z_u mi o F) (o + 1) P) ∧ r = mr)) := by
        intro P3 hj
        have hP3 := hj
        refine z_iload_n e_X5_deleteCells_114 rfl ?_
        refine z_istore (ls' := [some (zo o), some (zi n), some (zi (24 + (P1 4))), some (zi (P1 5)), some (zi mm), some (zi (m_fill P1 (24 + P1 4))), some (zi (P1 5))]) e_X5_deleteCells_115 rfl rfl rfl ?_
        have loop117 : ∀ (nn : Nat) (k : Int) (P4 : Int → Int), (P1 0 - k).toNat = nn → (P1 5 ≤ k ∧ k ≤ P1 0 - mm ∧ P4 = p_upd P1 (24 + P1 4) (r_shl mm (P1 5) k (r_fix0 (P1 0) (P1 5 + mm) (r_split 0 (P1 5) (p_row P1 (24 + P1 4)))))) → z_A M_X5_deleteCells E 0 0 117 [some (zo o), some (zi n), some (zi (24 + (P1 4))), some (zi (P1 5)), some (zi mm), some (zi (m_fill P1 (24 + P1 4))), some (zi k)] [] (z_u (z_u mi o (f_rec F)) (o + 1) P4) mr (z_qi E (fun x m r => ((1 ≤ n ∧ n ≤ 20) → x = m_fill P1 (24 + P1 4) - m_fill (p_delc n P1) (24 + P1 4) ∧ m = z_u (z_u mi o (f_rec F)) (o + 1) (p_delc n P1)) ∧ (¬ ((1 ≤ n ∧ n ≤ 20)) → x = -1 ∧ m = z_u (z_u mi o F) (o + 1) P) ∧ r = mr)) := by
          intro nn
          induction nn using Nat.strongRecOn with
          | _ nn ih =>
            intro k P4 hmeas hinv
            obtain ⟨hl0, hl1, hP4⟩ := hinv
            have e40 : P4 0 = P1 0 := by rw [hP4]; exact p_upd_hd _ _ (by omega)
            refine z_iload e_X5_deleteCells_117 rfl ?_
            refine z_iload e_X5_deleteCells_119 rfl ?_
            refine z_iadd e_X5_deleteCells_121 ?_
            refine z_aload_n e_X5_deleteCells_122 rfl ?_
            refine z_getr (fi := 0) (r := some (o + 1)) e_X5_deleteCells_123 f_RX5_7 t0 rfl rfl (q0) ?_
            refine z_iconst e_X5_deleteCells_126 ?_
            refine z_iald (x := (P1 0)) e_X5_deleteCells_127 t1 (by decide) (by decide) (by decide) ((congrFun (z_us _ _ _) _).trans e40) ?_
            refine z_icmp_ge e_X5_deleteCells_128 ⟨by omega, by omega⟩ ⟨by omega, by omega⟩ (fun h128_4 => ?_) (fun h128_4 => ?_)
            · have hk : k = P1 0 - mm := by omega
              refine z_aload_n e_X5_deleteCells_158 rfl ?_
              refine z_getr (fi := 0) (r := some (o + 1)) e_X5_deleteCells_159 f_RX5_7 t0 rfl rfl (q0) ?_
              refine z_iconst e_X5_deleteCells_162 ?_
              refine z_iald (x := (P1 0)) e_X5_deleteCells_163 t1 (by decide) (by decide) (by decide) ((congrFun (z_us _ _ _) _).trans e40) ?_
              refine z_iload e_X5_deleteCells_164 rfl ?_
              refine z_isub e_X5_deleteCells_166 ?_
              refine z_istore (ls' := [some (zo o), some (zi n), some (zi (24 + (P1 4))), some (zi (P1 5)), some (zi mm), some (zi (m_fill P1 (24 + P1 4))), some (zi ((P1 0) - mm))]) e_X5_deleteCells_167 rfl rfl rfl ?_
              have loop169 : ∀ (nn : Nat) (q : Int) (P5 : Int → Int), (P1 0 - q).toNat = nn → (P1 0 - mm ≤ q ∧ q ≤ P1 0 ∧ P5 = p_upd P1 (24 + P1 4) (r_f32 (P1 0 - mm) q (r_shl mm (P1 5) (P1 0 - mm) (r_fix0 (P1 0) (P1 5 + mm) (r_split 0 (P1 5) (p_row P1 (24 + P1 4))))))) → z_A M_X5_deleteCells E 0 0 169 [some (zo o), some (zi n), some (zi (24 + (P1 4))), some (zi (P1 5)), some (zi mm), some (zi (m_fill P1 (24 + P1 4))), some (zi q)] [] (z_u (z_u mi o (f_rec F)) (o + 1) P5) mr (z_qi E (fun x m r => ((1 ≤ n ∧ n ≤ 20) → x = m_fill P1 (24 + P1 4) - m_fill (p_delc n P1) (24 + P1 4) ∧ m = z_u (z_u mi o (f_rec F)) (o + 1) (p_delc n P1)) ∧ (¬ ((1 ≤ n ∧ n ≤ 20)) → x = -1 ∧ m = z_u (z_u mi o F) (o + 1) P) ∧ r = mr)) := by
                intro nn
                induction nn using Nat.strongRecOn with
                | _ nn ih =>
                  intro q P5 hmeas hinv
                  obtain ⟨hq0, hq1, hP5⟩ := hinv
                  have e50 : P5 0 = P1 0 := by rw [hP5]; exact p_upd_hd _ _ (by omega)
                  refine z_iload e_X5_deleteCells_169 rfl ?_
                  refine z_aload_n e_X5_deleteCells_171 rfl ?_
                  refine z_getr (fi := 0) (r := some (o + 1)) e_X5_deleteCells_172 f_RX5_7 t0 rfl rfl (q0) ?_
                  refine z_iconst e_X5_deleteCells_175 ?_
                  refine z_iald (x := (P1 0)) e_X5_deleteCells_176 t1 (by decide) (by decide) (by decide) ((congrFun (z_us _ _ _) _).trans e50) ?_
                  refine z_icmp_ge e_X5_deleteCells_177 ⟨by omega, by omega⟩ ⟨by omega, by omega⟩ (fun h177_5 => ?_) (fun h177_5 => ?_)
                  · have hq : q = P1 0 := by omega
                    refine z_aload_n e_X5_deleteCells_199 rfl ?_
                    refine z_iload_n e_X5_deleteCells_200 rfl ?_
                    refine z_callVv (M' := M_X5_unwraps) (As := [zi (24 + (P1 4))]) (rest := []) e_X5_deleteCells_201 l_RX5_44 rfl rfl rfl rfl t0 ⟨_, _, rfl⟩ (c_X5_unwraps hM (by omega) (by omega)) (fun mq rq hq => ?_)
                    obtain ⟨e2q, e3q⟩ := hq
                    subst mq rq
                    refine z_aload_n e_X5_deleteCells_204 rfl ?_
                    refine z_getr (fi := 0) (r := some (o + 1)) e_X5_deleteCells_205 f_RX5_7 t0 rfl rfl (q0) ?_
                    refine z_bipush e_X5_deleteCells_208 (by decide +kernel) ?_
                    refine z_iconst e_X5_deleteCells_210 ?_
                    refine z_iastU e_X5_deleteCells_211 t1 (by decide) (by decide) (by decide) ?_
                    generalize hgP6 : (z_v (p_upd P5 (24 + (P1 4)) (r_unw (p_row P5 (24 + (P1 4))))) 6 0) = P6
                    have e6 : P6 = p_delc n P1 := by rw [← hgP6, hP5, p_upd_upd, hq]; unfold p_delc r_delc; rw [← hmm]; exact congrArg (fun q => z_v q 6 0) (p_upd_ext (fun j g0 g1 => by unfold r_unw; rw [p_row_upd _ _ _ g0 g1]))
                    have hd6 : p_hd P6 := by rw [e6]; exact p_hd_delc hd1
                    have hw60 := hd6.1
                    have hw61 := hd6.2.1
                    refine z_iload e_X5_deleteCells_212 rfl ?_
                    refine z_aload_n e_X5_deleteCells_214 rfl ?_
                    refine z_iload_n e_X5_deleteCells_215 rfl ?_
                    refine z_callVi (M' := M_X5_filled) (As := [zi (24 + (P1 4))]) (rest := [zi (m_fill P1 (24 + P1 4))]) e_X5_deleteCells_216 l_RX5_68 rfl rfl rfl rfl t0 ⟨_, _, rfl⟩ (c_X5_filled hM (by omega) (by omega) (by omega) (by omega) (p_hd_pr hd6)) (fun xq mq rq hq => ?_)
                    obtain ⟨e1q, e2q, e3q⟩ := hq
                    subst xq mq rq
                    refine z_isub e_X5_deleteCells_219 ?_
                    refine z_iret e_X5_deleteCells_220 (Or.inl rfl) rfl rfl ⟨rfl, _, rfl, ?_⟩
                    refine ⟨fun hb => ⟨?_, ?_⟩, fun hb => absurd (by omega) hb, rfl⟩
                    · rw [e6]
                    · rw [e6]
                  · refine z_aload_n e_X5_deleteCells_180 rfl ?_
                    refine z_getr (fi := 0) (r := some (o + 1)) e_X5_deleteCells_181 f_RX5_7 t0 rfl rfl (q0) ?_
                    refine z_iload_n e_X5_deleteCells_184 rfl ?_
                    refine z_iload e_X5_deleteCells_185 rfl ?_
                    refine z_callSi (M' := M_X5_at) (As := [zi (24 + (P1 4)), zi q]) (rest := [zo (o + 1)]) e_X5_deleteCells_187 l_RX5_40 rfl rfl rfl rfl (c_X5_at ) (fun xq mq rq hq => ?_)
                    obtain ⟨e1q, e2q, e3q⟩ := hq
                    subst xq mq rq
                    refine z_bipush e_X5_deleteCells_190 (by decide +kernel) ?_
                    refine z_iastU e_X5_deleteCells_192 t1 (by decide) (by omega) (by omega) ?_
                    refine z_iinc (y := (q + 1)) (ls' := [some (zo o), some (zi n), some (zi (24 + (P1 4))), some (zi (P1 5)), some (zi mm), some (zi (m_fill P1 (24 + P1 4))), some (zi (q + 1))]) e_X5_deleteCells_193 rfl rfl rfl rfl rfl ?_
                    refine z_goto e_X5_deleteCells_196 ?_
                    exact ih _ (by omega) (q + 1) (z_v P5 (15 + 22 * (24 + (P1 4)) + q) 32) rfl (⟨by omega, by omega, by rw [hP5, p_v_up2 _ _ _ _ _ (by omega) (by omega), r_f32_s (by omega)]⟩)
              exact loop169 _ ((P1 0) - mm) P4 rfl (⟨by omega, by omega, by rw [hP4, hk, r_f32_0]⟩)
            · refine z_aload_n e_X5_deleteCells_131 rfl ?_
              refine z_getr (fi := 0) (r := some (o + 1)) e_X5_deleteCells_132 f_RX5_7 t0 rfl rfl (q0) ?_
              refine z_iload_n e_X5_deleteCells_135 rfl ?_
              refine z_iload e_X5_deleteCells_136 rfl ?_
              refine z_callSi (M' := M_X5_at) (As := [zi (24 + (P1 4)), zi k]) (rest := [zo (o + 1)]) e_X5_deleteCells_138 l_RX5_40 rfl rfl rfl rfl (c_X5_at ) (fun xq mq rq hq => ?_)
              obtain ⟨e1q, e2q, e3q⟩ := hq
              subst xq mq rq
              refine z_aload_n e_X5_deleteCells_141 rfl ?_
              refine z_iload_n e_X5_deleteCells_142 rfl ?_
              refine z_iload e_X5_deleteCells_143 rfl ?_
              refine z_iload e_X5_deleteCells_145 rfl ?_
              refine z_iadd e_X5_deleteCells_147 ?_
              refine z_callVi (M' := M_X5_code) (As := [zi (24 + (P1 4)), zi (k + mm)]) (rest := [zi (15 + 22 * (24 + (P1 4)) + k), zo (o + 1)]) e_X5_deleteCells_148 l_RX5_51 rfl rfl rfl rfl t0 ⟨_, _, rfl⟩ (c_X5_code hM (by omega) (by omega)) (fun xq mq rq hq => ?_)
              obtain ⟨e1q, e2q, e3q⟩ := hq
              subst xq mq rq
              refine z_iastU e_X5_deleteCells_151 t1 (by decide) (by omega) (by omega) ?_
              refine z_iinc (y := (k + 1)) (ls' := [some (zo o), some (zi n), some (zi (24 + (P1 4))), some (zi (P1 5)), some (zi mm), some (zi (m_fill P1 (24 + P1 4))), some (zi (k + 1))]) e_X5_deleteCells_152 rfl rfl rfl rfl rfl ?_
              refine z_goto e_X5_deleteCells_155 ?_
              exact ih _ (by omega) (k + 1) (z_v P4 (15 + 22 * (24 + (P1 4)) + k) (P4 (15 + 22 * (24 + (P1 4)) + (k + mm)))) rfl (⟨by omega, by omega, by rw [hP4, p_upd_at _ _ _ _ (by omega) (by omega), p_v_up2 _ _ _ _ _ (by omega) (by omega), r_shl_s (by omega) (by omega)]⟩)
        exact loop117 _ (P1 5) P3 rfl (⟨by omega, by omega, by rw [hP3, r_shl_0]⟩)
      refine z_iload_n e_X5_deleteCells_71 rfl ?_
      refine z_iload e_X5_deleteCells_72 rfl ?_
      refine z_iadd e_X5_deleteCells_74 ?_
      refine z_aload_n e_X5_deleteCells_75 rfl ?_
      refine z_getr (fi := 0) (r := some (o + 1)) e_X5_deleteCells_76 f_RX5_7 t0 rfl rfl (q0) ?_
      refine z_iconst e_X5_deleteCells_79 ?_
      refine z_iald (x := (P1 0)) e_X5_deleteCells_80 t1 (by decide) (by decide) (by decide) ((congrFun (z_us _ _ _) _).trans e20) ?_
      refine z_icmp_ge e_X5_deleteCells_81 ⟨by omega, by omega⟩ ⟨by omega, by omega⟩ (fun h81_6 => ?_) (fun h81_6 => ?_)
      · exact join114_2 P2 (by rw [e2]; unfold r_fix0; rw [if_neg (by first | (rintro ⟨h8, h9⟩; omega) | (rintro ⟨h8, h9⟩; rw [e2, p_upd_at _ _ _ _ (by omega) (by omega)] at *; contradiction))])
      · refine z_aload_n e_X5_deleteCells_84 rfl ?_
        refine z_iload_n e_X5_deleteCells_85 rfl ?_
        refine z_iload_n e_X5_deleteCells_86 rfl ?_
        refine z_iload e_X5_deleteCells_87 rfl ?_
        refine z_iadd e_X5_deleteCells_89 ?_
        refine z_callVi (M' := M_X5_code) (As := [zi (24 + (P1 4)), zi ((P1 5) + mm)]) (rest := []) e_X5_deleteCells_90 l_RX5_51 rfl rfl rfl rfl t0 ⟨_, _, rfl⟩ (c_X5_code hM (by omega) (by omega)) (fun xq mq rq hq => ?_)
        obtain ⟨e1q, e2q, e3q⟩ := hq
        subst xq mq rq
        have hbq4 := hP2p (15 + 22 * (24 + P1 4) + (P1 5 + mm))
        refine z_callSi (M' := M_X5_isRight) (As := [zi (P2 (15 + 22 * (24 + P1 4) + (P1 5 + mm)))]) (rest := []) e_X5_deleteCells_93 l_RX5_54 rfl rfl rfl rfl (c_X5_isRight ⟨by omega, by omega⟩) (fun xq mq rq hq => ?_)
        obtain ⟨e1q, e2q, e3q⟩ := hq
        subst xq mq rq
        refine z_if_eqB e_X5_deleteCells_96  (fun h96_7 => ?_) (fun h96_7 => ?_)
        · exact join114_2 P2 (by rw [e2]; unfold r_fix0; rw [if_neg (by first | (rintro ⟨h8, h9⟩; omega) | (rintro ⟨h8, h9⟩; rw [e2, p_upd_at _ _ _ _ (by omega) (by omega)] at *; contradiction))])
        · refine z_aload_n e_X5_deleteCells_99 rfl ?_
          refine z_getr (fi := 0) (r := some (o + 1)) e_X5_deleteCells_100 f_RX5_7 t0 rfl rfl (q0) ?_
          refine z_iload_n e_X5_deleteCells_103 rfl ?_
          refine z_iload_n e_X5_deleteCells_104 rfl ?_
          refine z_iload e_X5_deleteCells_105 rfl ?_
          refine z_iadd e_X5_deleteCells_107 ?_
          refine z_callSi (M' := M_X5_at) (As := [zi (24 + (P1 4)), zi ((P1 5) + mm)]) (rest := [zo (o + 1)]) e_X5_deleteCells_108 l_RX5_40 rfl rfl rfl rfl (c_X5_at ) (fun xq mq rq hq => ?_)
          obtain ⟨e1q, e2q, e3q⟩ := hq
          subst xq mq rq
          refine z_bipush e_X5_deleteCells_111 (by decide +kernel) ?_
          refine z_iastU e_X5_deleteCells_113 t1 (by decide) (by omega) (by omega) ?_
          exact join114_2 (z_v P2 (15 + 22 * (24 + (P1 4)) + ((P1 5) + mm)) 32) (by rw [e2] at *; rw [p_v_up2 _ _ _ _ _ (by omega) (by omega)]; unfold r_fix0; rw [if_pos ⟨by omega, by rw [p_upd_at _ _ _ _ (by omega) (by omega)] at *; assumption⟩])
    refine z_iload_n e_X5_deleteCells_33 rfl ?_
    refine z_aload_n e_X5_deleteCells_34 rfl ?_
    refine z_getr (fi := 0) (r := some (o + 1)) e_X5_deleteCells_35 f_RX5_7 t0 rfl rfl (q0) ?_
    refine z_iconst e_X5_deleteCells_38 ?_
    refine z_iald (x := (P1 0)) e_X5_deleteCells_39 t1 (by decide) (by decide) (by decide) (congrFun (z_us _ _ _) _) ?_
    refine z_iload_n e_X5_deleteCells_40 rfl ?_
    refine z_isub e_X5_deleteCells_41 ?_
    refine z_icmp_ge e_X5_deleteCells_42 ⟨by omega, by omega⟩ ⟨by omega, by omega⟩ (fun h42_8 => ?_) (fun h42_8 => ?_)
    · refine z_aload_n e_X5_deleteCells_49 rfl ?_
      refine z_getr (fi := 0) (r := some (o + 1)) e_X5_deleteCells_50 f_RX5_7 t0 rfl rfl (q0) ?_
      refine z_iconst e_X5_deleteCells_53 ?_
      refine z_iald (x := (P1 0)) e_X5_deleteCells_54 t1 (by decide) (by decide) (by decide) (congrFun (z_us _ _ _) _) ?_
      refine z_iload_n e_X5_deleteCells_55 rfl ?_
      refine z_isub e_X5_deleteCells_56 ?_
      exact join57_1 ((P1 0) - (P1 5)) ((if_neg (by omega)).symm)
    · refine z_iload_n e_X5_deleteCells_45 rfl ?_
      refine z_goto e_X5_deleteCells_46 ?_
      exact join57_1 n ((if_pos (by omega)).symm)
  · refine z_iconst e_X5_deleteCells_10 ?_
    refine z_iret e_X5_deleteCells_11 (Or.inl rfl) rfl rfl ⟨rfl, _, rfl, ?_⟩
    exact ⟨fun hb => absurd hb (by omega), fun _ => ⟨rfl, rfl⟩, rfl⟩
set_option maxHeartbeats 1000000 in
set_option maxRecDepth 100000 in
theorem c_X5_keep {E : z_E} {mi : z_Mi} {mr : z_Mr} {o : Nat} {P F : Int → Int} (hM : z_MO E mr o) (hH : p_hd P) (hF1 : 0 ≤ F 1) (hF2 : F 1 ≤ 8) : z_mi M_X5_keep E [zo o] (z_u (z_u mi o F) (o + 1) P) mr (fun x m r => (P 7 ≠ 3 → x = P 7 + 1 ∧ m = z_u (z_u mi o (f_rec F)) (o + 1) (p_kp (p_rec (F 1) P))) ∧ (¬ P 7 ≠ 3 → x = -3 ∧ m = z_u (z_u mi o F) (o + 1) P) ∧ r = mr) := by
  obtain ⟨t0, t1, t2, t3, t4, t5, t6, t7, q0, q2, q3, q4, q5, q6, q7⟩ := id hM
  obtain ⟨hw0, hw1, hh0, hh1, hf0, hf1, hf2, hr0, hr1, hc0, hc1, hp0, hp1, hk0, hk1, hi0, hi1, hkp, hP⟩ := id hH
  refine z_ofi (ls := [some (zo o)]) rfl (fun _ _ => trivial) ⟨rfl, rfl⟩ (Nat.le_of_ble_eq_true rfl) rfl ?_
  refine z_aload_n e_X5_keep_0 rfl ?_
  refine z_getr (fi := 0) (r := some (o + 1)) e_X5_keep_1 f_RX5_7 t0 rfl rfl (q0) ?_
  refine z_bipush e_X5_keep_4 (by decide +kernel) ?_
  refine z_iald (x := (P 7)) e_X5_keep_6 t1 (by decide) (by decide) (by decide) (congrFun (z_us _ _ _) _) ?_
  refine z_iconst e_X5_keep_7 ?_
  refine z_icmp_ne e_X5_keep_8 ⟨by omega, by omega⟩ (by decide) (fun h8_1 => ?_) (fun h8_1 => ?_)
  · refine z_aload_n e_X5_keep_14 rfl ?_
    refine z_callVv (M' := M_X5_records) (As := []) (rest := []) e_X5_keep_15 l_RX5_96 rfl rfl rfl rfl t0 ⟨_, _, rfl⟩ (c_X5_records hM (by omega) (by omega)) (fun mq rq hq => ?_)
    obtain ⟨e2q, e3q⟩ := hq
    subst mq rq
    generalize hgP1 : (p_rec (F 1) P) = P1
    have hd1 : p_hd P1 := by rw [← hgP1]; exact p_hd_rec hH hF1
    have e1 : ∀ k, k < 719 → P1 k = P k := by intro k hk; rw [← hgP1]; exact p_rec_hd hF1 hk
    have e1_0 : P1 0 = P 0 := e1 0 (by decide)
    have e1_1 : P1 1 = P 1 := e1 1 (by decide)
    have e1_2 : P1 2 = P 2 := e1 2 (by decide)
    have e1_3 : P1 3 = P 3 := e1 3 (by decide)
    have e1_4 : P1 4 = P 4 := e1 4 (by decide)
    have e1_5 : P1 5 = P 5 := e1 5 (by decide)
    have e1_7 : P1 7 = P 7 := e1 7 (by decide)
    have e1_14 : P1 14 = P 14 := e1 14 (by decide)
    clear hw0 hw1 hh0 hh1 hf0 hf1 hf2 hr0 hr1 hc0 hc1 hp0 hp1 hk0 hk1 hi0 hi1 hkp
    obtain ⟨hw0, hw1, hh0, hh1, hf0, hf1, hf2, hr0, hr1, hc0, hc1, hp0, hp1, hk0, hk1, hi0, hi1, hkp, hP1⟩ := id hd1
    refine z_aload_n e_X5_keep_18 rfl ?_
    refine z_getr (fi := 0) (r := some (o + 1)) e_X5_keep_19 f_RX5_7 t0 rfl rfl (q0) ?_
    refine z_bipush e_X5_keep_22 (by decide +kernel) ?_
    refine z_iconst e_X5_keep_24 ?_
    refine z_aload_n e_X5_keep_25 rfl ?_
    refine z_getr (fi := 0) (r := some (o + 1)) e_X5_keep_26 f_RX5_7 t0 rfl rfl (q0) ?_
    refine z_bipush e_X5_keep_29 (by decide +kernel) ?_
    refine z_iald (x := (P1 7)) e_X5_keep_31 t1 (by decide) (by decide) (by decide) (congrFun (z_us _ _ _) _) ?_
    refine z_imul e_X5_keep_32 ?_
    refine z_iadd e_X5_keep_33 ?_
    refine z_aload_n e_X5_keep_34 rfl ?_
    refine z_getr (fi := 0) (r := some (o + 1)) e_X5_keep_35 f_RX5_7 t0 rfl rfl (q0) ?_
    refine z_iconst e_X5_keep_38 ?_
    refine z_iald (x := (P1 4)) e_X5_keep_39 t1 (by decide) (by decide) (by decide) (congrFun (z_us _ _ _) _) ?_
    refine z_iastU e_X5_keep_40 t1 (by decide) (by omega) (by omega) ?_
    refine z_aload_n e_X5_keep_41 rfl ?_
    refine z_getr (fi := 0) (r := some (o + 1)) e_X5_keep_42 f_RX5_7 t0 rfl rfl (q0) ?_
    refine z_bipush e_X5_keep_45 (by decide +kernel) ?_
    refine z_iconst e_X5_keep_47 ?_
    refine z_aload_n e_X5_keep_48 rfl ?_
    refine z_getr (fi := 0) (r := some (o + 1)) e_X5_keep_49 f_RX5_7 t0 rfl rfl (q0) ?_
    refine z_bipush e_X5_keep_52 (by decide +kernel) ?_
    refine z_iald (x := (P1 7)) e_X5_keep_54 t1 (by decide) (by decide) (by decide) ((congrFun (z_us _ _ _) _).trans (z_vn (by omega))) ?_
    refine z_imul e_X5_keep_55 ?_
    refine z_iadd e_X5_keep_56 ?_
    refine z_iconst e_X5_keep_57 ?_
    refine z_iadd e_X5_keep_58 ?_
    refine z_aload_n e_X5_keep_59 rfl ?_
    refine z_getr (fi := 0) (r := some (o + 1)) e_X5_keep_60 f_RX5_7 t0 rfl rfl (q0) ?_
    refine z_iconst e_X5_keep_63 ?_
    refine z_iald (x := (P1 5)) e_X5_keep_64 t1 (by decide) (by decide) (by decide) ((congrFun (z_us _ _ _) _).trans (z_vn (by omega))) ?_
    refine z_iastU e_X5_keep_65 t1 (by decide) (by omega) (by omega) ?_
    refine z_aload_n e_X5_keep_66 rfl ?_
    refine z_getr (fi := 0) (r := some (o + 1)) e_X5_keep_67 f_RX5_7 t0 rfl rfl (q0) ?_
    refine z_bipush e_X5_keep_70 (by decide +kernel) ?_
    refine z_dup2 e_X5_keep_72 rfl rfl ?_
    refine z_iald (x := (P1 7)) e_X5_keep_73 t1 (by decide) (by decide) (by decide) ((congrFun (z_us _ _ _) _).trans ((z_vn (by omega)).trans (z_vn (by omega)))) ?_
    refine z_iconst e_X5_keep_74 ?_
    refine z_iadd e_X5_keep_75 ?_
    refine z_iastU e_X5_keep_76 t1 (by decide) (by decide) (by decide) ?_
    refine z_aload_n e_X5_keep_77 rfl ?_
    refine z_getr (fi := 0) (r := some (o + 1)) e_X5_keep_78 f_RX5_7 t0 rfl rfl (q0) ?_
    refine z_bipush e_X5_keep_81 (by decide +kernel) ?_
    refine z_iald (x := ((P1 7) + 1)) e_X5_keep_83 t1 (by decide) (by decide) (by decide) ((congrFun (z_us _ _ _) _).trans (z_vs _ _ _)) ?_
    refine z_iret e_X5_keep_84 (Or.inl rfl) rfl rfl ⟨rfl, _, rfl, ?_⟩
    exact ⟨fun _ => ⟨by rw [e1_7], rfl⟩, fun hb => absurd (by assumption) hb, rfl⟩
  · refine z_bipush e_X5_keep_11 (by decide +kernel) ?_
    refine z_iret e_X5_keep_13 (Or.inl rfl) rfl rfl ⟨rfl, _, rfl, ?_⟩
    exact ⟨fun hb => absurd (by assumption) hb, fun _ => ⟨rfl, rfl⟩, rfl⟩
set_option maxHeartbeats 1000000 in
set_option maxRecDepth 100000 in
theorem c_X5_back {E : z_E} {mi : z_Mi} {mr : z_Mr} {o : Nat} {P F : Int → Int} (hM : z_MO E mr o) (hH : p_hd P) (hF1 : 0 ≤ F 1) (hF2 : F 1 ≤ 8) : z_mi M_X5_back E [zo o] (z_u (z_u mi o F) (o + 1) P) mr (fun x m r => (P 7 ≠ 0 → x = P 7 - 1 ∧ m = z_u (z_u mi o (f_rec F)) (o + 1) (p_bk (p_rec (F 1) P))) ∧ (¬ P 7 ≠ 0 → x = -2 ∧ m = z_u (z_u mi o F) (o + 1) P) ∧ r = mr) := by
  obtain ⟨t0, t1, t2, t3, t4, t5, t6, t7, q0, q2, q3, q4, q5, q6, q7⟩ := id hM
  obtain ⟨hw0, hw1, hh0, hh1, hf0, hf1, hf2, hr0, hr1, hc0, hc1, hp0, hp1, hk0, hk1, hi0, hi1, hkp, hP⟩ := id hH
  refine z_ofi (ls := [some (zo o)]) rfl (fun _ _ => trivial) ⟨rfl, rfl⟩ (Nat.le_of_ble_eq_true rfl) rfl ?_
  refine z_aload_n e_X5_back_0 rfl ?_
  refine z_getr (fi := 0) (r := some (o + 1)) e_X5_back_1 f_RX5_7 t0 rfl rfl (q0) ?_
  refine z_bipush e_X5_back_4 (by decide +kernel) ?_
  refine z_iald (x := (P 7)) e_X5_back_6 t1 (by decide) (by decide) (by decide) (congrFun (z_us _ _ _) _) ?_
  refine z_if_ne e_X5_back_7 ⟨by omega, by omega⟩ (fun h7_1 => ?_) (fun h7_1 => ?_)
  · refine z_aload_n e_X5_back_13 rfl ?_
    refine z_callVv (M' := M_X5_records) (As := []) (rest := []) e_X5_back_14 l_RX5_96 rfl rfl rfl rfl t0 ⟨_, _, rfl⟩ (c_X5_records hM (by omega) (by omega)) (fun mq rq hq => ?_)
    obtain ⟨e2q, e3q⟩ := hq
    subst mq rq
    generalize hgP1 : (p_rec (F 1) P) = P1
    have hd1 : p_hd P1 := by rw [← hgP1]; exact p_hd_rec hH hF1
    have e1 : ∀ k, k < 719 → P1 k = P k := by intro k hk; rw [← hgP1]; exact p_rec_hd hF1 hk
    have e1_0 : P1 0 = P 0 := e1 0 (by decide)
    have e1_1 : P1 1 = P 1 := e1 1 (by decide)
    have e1_2 : P1 2 = P 2 := e1 2 (by decide)
    have e1_3 : P1 3 = P 3 := e1 3 (by decide)
    have e1_4 : P1 4 = P 4 := e1 4 (by decide)
    have e1_5 : P1 5 = P 5 := e1 5 (by decide)
    have e1_7 : P1 7 = P 7 := e1 7 (by decide)
    have e1_14 : P1 14 = P 14 := e1 14 (by decide)
    clear hw0 hw1 hh0 hh1 hf0 hf1 hf2 hr0 hr1 hc0 hc1 hp0 hp1 hk0 hk1 hi0 hi1 hkp
    obtain ⟨hw0, hw1, hh0, hh1, hf0, hf1, hf2, hr0, hr1, hc0, hc1, hp0, hp1, hk0, hk1, hi0, hi1, hkp, hP1⟩ := id hd1
    refine z_aload_n e_X5_back_17 rfl ?_
    refine z_getr (fi := 0) (r := some (o + 1)) e_X5_back_18 f_RX5_7 t0 rfl rfl (q0) ?_
    refine z_bipush e_X5_back_21 (by decide +kernel) ?_
    refine z_dup2 e_X5_back_23 rfl rfl ?_
    refine z_iald (x := (P1 7)) e_X5_back_24 t1 (by decide) (by decide) (by decide) (congrFun (z_us _ _ _) _) ?_
    refine z_iconst e_X5_back_25 ?_
    refine z_isub e_X5_back_26 ?_
    refine z_iastU e_X5_back_27 t1 (by decide) (by decide) (by decide) ?_
    refine z_aload_n e_X5_back_28 rfl ?_
    refine z_aload_n e_X5_back_29 rfl ?_
    refine z_getr (fi := 0) (r := some (o + 1)) e_X5_back_30 f_RX5_7 t0 rfl rfl (q0) ?_
    refine z_bipush e_X5_back_33 (by decide +kernel) ?_
    refine z_iconst e_X5_back_35 ?_
    refine z_aload_n e_X5_back_36 rfl ?_
    refine z_getr (fi := 0) (r := some (o + 1)) e_X5_back_37 f_RX5_7 t0 rfl rfl (q0) ?_
    refine z_bipush e_X5_back_40 (by decide +kernel) ?_
    refine z_iald (x := ((P1 7) - 1)) e_X5_back_42 t1 (by decide) (by decide) (by decide) ((congrFun (z_us _ _ _) _).trans (z_vs _ _ _)) ?_
    refine z_imul e_X5_back_43 ?_
    refine z_iadd e_X5_back_44 ?_
    refine z_iald (x := (P1 (8 + (2 * (P1 7 - 1))))) e_X5_back_45 t1 (by decide) (by omega) (by omega) ((congrFun (z_us _ _ _) _).trans (z_vn (by omega))) ?_
    refine z_aload_n e_X5_back_46 rfl ?_
    refine z_getr (fi := 0) (r := some (o + 1)) e_X5_back_47 f_RX5_7 t0 rfl rfl (q0) ?_
    refine z_bipush e_X5_back_50 (by decide +kernel) ?_
    refine z_iconst e_X5_back_52 ?_
    refine z_aload_n e_X5_back_53 rfl ?_
    refine z_getr (fi := 0) (r := some (o + 1)) e_X5_back_54 f_RX5_7 t0 rfl rfl (q0) ?_
    refine z_bipush e_X5_back_57 (by decide +kernel) ?_
    refine z_iald (x := ((P1 7) - 1)) e_X5_back_59 t1 (by decide) (by decide) (by decide) ((congrFun (z_us _ _ _) _).trans (z_vs _ _ _)) ?_
    refine z_imul e_X5_back_60 ?_
    refine z_iadd e_X5_back_61 ?_
    refine z_iconst e_X5_back_62 ?_
    refine z_iadd e_X5_back_63 ?_
    refine z_iald (x := (P1 ((8 + (2 * (P1 7 - 1))) + 1))) e_X5_back_64 t1 (by decide) (by omega) (by omega) ((congrFun (z_us _ _ _) _).trans (z_vn (by omega))) ?_
    refine z_callVv (M' := M_X5_goes) (As := [zi (P1 (8 + (2 * (P1 7 - 1)))), zi (P1 ((8 + (2 * (P1 7 - 1))) + 1))]) (rest := []) e_X5_back_65 l_RX5_111 rfl rfl rfl rfl t0 ⟨_, _, rfl⟩ (c_X5_goes hM) (fun mq rq hq => ?_)
    obtain ⟨e2q, e3q⟩ := hq
    subst mq rq
    refine z_aload_n e_X5_back_68 rfl ?_
    refine z_getr (fi := 0) (r := some (o + 1)) e_X5_back_69 f_RX5_7 t0 rfl rfl (q0) ?_
    refine z_bipush e_X5_back_72 (by decide +kernel) ?_
    refine z_iald (x := (P1 7 - 1)) e_X5_back_74 t1 (by decide) (by decide) (by decide) ((congrFun (z_us _ _ _) _).trans ((z_vn (by decide)).trans ((z_vn (by decide)).trans ((z_vn (by decide)).trans (z_vs _ _ _))))) ?_
    refine z_iret e_X5_back_75 (Or.inl rfl) rfl rfl ⟨rfl, _, rfl, ?_⟩
    exact ⟨fun _ => ⟨by rw [e1_7], rfl⟩, fun hb => absurd (by assumption) hb, rfl⟩
  · refine z_bipush e_X5_back_10 (by decide +kernel) ?_
    refine z_iret e_X5_back_12 (Or.inl rfl) rfl rfl ⟨rfl, _, rfl, ?_⟩
    exact ⟨fun hb => absurd (by assumption) hb, fun _ => ⟨rfl, rfl⟩, rfl⟩
