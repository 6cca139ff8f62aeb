set_option maxHeartbeats 1000000 in
set_option maxRecDepth 100000 in
theorem c_X5_insertRows {E : z_E} {mi : z_Mi} {mr : z_Mr} {o : Nat} {P F : Int → Int} {n : Int} (hM : z_MO E mr o) (hH : p_hd P) (hF1 : 0 ≤ F 1) (hF2 : F 1 ≤ 8) (hz : z_R n) : z_mi M_X5_insertRows E [zo o, zi n] (z_u (z_u mi o F) (o + 1) P) mr (fun x m r => ((1 ≤ n ∧ n ≤ 8) ∧ (P 2 ≤ P 4 ∧ P 4 ≤ P 3) → x = m_frows (p_rec (F 1) P) ((p_rec (F 1) P) 3 - m_many n (p_rec (F 1) P) + 1) (m_many n (p_rec (F 1) P)).toNat ∧ m = z_u (z_u mi o (f_rec F)) (o + 1) (p_insr n (p_rec (F 1) P))) ∧ (¬ (1 ≤ n ∧ n ≤ 8) → x = -1 ∧ m = z_u (z_u mi o F) (o + 1) P) ∧ ((1 ≤ n ∧ n ≤ 8) ∧ ¬ (P 2 ≤ P 4 ∧ P 4 ≤ P 3) → x = -2 ∧ m = z_u (z_u mi o F) (o + 1) P) ∧ r = mr) := by
  obtain ⟨t0, t1, t2, t3, t4, t5, t6, t7, q0, q2, q3, q4, q5, q6, q7⟩ := id hM
  obtain ⟨hw0, hw1, hh0, hh1, hf0, hf1, hf2, hr0, hr1, hc0, hc1, hp0, hp1, hk0, hk1, hi0, hi1, hkp, hP⟩ := id hH
  refine z_ofi (ls := [some (zo o), some (zi n), none, none, none, none, none]) rfl (fun _ _ => trivial) ⟨rfl, rfl⟩ (Nat.le_of_ble_eq_true rfl) rfl ?_
  refine z_iload_n e_X5_insertRows_0 rfl ?_
  refine z_iconst e_X5_insertRows_1 ?_
  refine z_bipush e_X5_insertRows_2 (by decide +kernel) ?_
  refine z_callSi (M' := M_X5_in) (As := [zi n, zi 1, zi 8]) (rest := []) e_X5_insertRows_4 l_RX5_47 rfl rfl rfl rfl (c_X5_in ⟨by omega, by omega⟩ ⟨by omega, by omega⟩ ⟨by omega, by omega⟩) (fun xq mq rq hq => ?_)
  obtain ⟨e1q, e2q, e3q⟩ := hq
  subst xq mq rq
  refine z_if_neB e_X5_insertRows_7  (fun h7_1 => ?_) (fun h7_1 => ?_)
  · refine z_aload_n e_X5_insertRows_12 rfl ?_
    refine z_callVi (M' := M_X5_isInRegion) (As := []) (rest := []) e_X5_insertRows_13 l_RX5_121 rfl rfl rfl rfl t0 ⟨_, _, rfl⟩ (c_X5_isInRegion hM hH) (fun xq mq rq hq => ?_)
    obtain ⟨e1q, e2q, e3q⟩ := hq
    subst xq mq rq
    refine z_if_neB e_X5_insertRows_16  (fun h16_2 => ?_) (fun h16_2 => ?_)
    · refine z_aload_n e_X5_insertRows_22 rfl ?_
      refine z_callVv (M' := M_X5_records) (As := []) (rest := []) e_X5_insertRows_23 l_RX5_96 rfl rfl rfl rfl t0 ⟨_, _, rfl⟩ (c_X5_records hM (by omega) (by omega)) (fun mq rq hq => ?_)
      obtain ⟨e2q, e3q⟩ := hq
      subst mq rq
      generalize hgP1 : (p_rec (F 1) P) = P1
      have hd1 : p_hd P1 := by rw [← hgP1]; exact p_hd_rec hH hF1
      have e1 : ∀ k, k < 719 → P1 k = P k := by intro k hk; rw [← hgP1]; exact p_rec_hd hF1 hk
      have e1_0 : P1 0 = P 0 := e1 0 (by decide)
      have e1_1 : P1 1 = P 1 := e1 1 (by decide)
      have e1_2 : P1 2 = P 2 := e1 2 (by decide)
      have e1_3 : P1 3 = P 3 := e1 3 (by decide)
      have e1_4 : P1 4 = P 4 := e1 4 (by decide)
      have e1_5 : P1 5 = P 5 := e1 5 (by decide)
      have e1_7 : P1 7 = P 7 := e1 7 (by decide)
      have e1_14 : P1 14 = P 14 := e1 14 (by decide)
      clear hw0 hw1 hh0 hh1 hf0 hf1 hf2 hr0 hr1 hc0 hc1 hp0 hp1 hk0 hk1 hi0 hi1 hkp
      obtain ⟨hw0, hw1, hh0, hh1, hf0, hf1, hf2, hr0, hr1, hc0, hc1, hp0, hp1, hk0, hk1, hi0, hi1, hkp, hP1⟩ := id hd1
      refine z_aload_n e_X5_insertRows_26 rfl ?_
      refine z_getr (fi := 0) (r := some (o + 1)) e_X5_insertRows_27 f_RX5_7 t0 rfl rfl (q0) ?_
      refine z_iconst e_X5_insertRows_30 ?_
      refine z_iald (x := (P1 4)) e_X5_insertRows_31 t1 (by decide) (by decide) (by decide) (congrFun (z_us _ _ _) _) ?_
      refine z_istore_n (ls' := [some (zo o), some (zi n), some (zi (P1 4)), none, none, none, none]) e_X5_insertRows_32 rfl rfl rfl ?_
      refine z_aload_n e_X5_insertRows_33 rfl ?_
      refine z_getr (fi := 0) (r := some (o + 1)) e_X5_insertRows_34 f_RX5_7 t0 rfl rfl (q0) ?_
      refine z_iconst e_X5_insertRows_37 ?_
      refine z_iald (x := (P1 3)) e_X5_insertRows_38 t1 (by decide) (by decide) (by decide) (congrFun (z_us _ _ _) _) ?_
      refine z_istore_n (ls' := [some (zo o), some (zi n), some (zi (P1 4)), some (zi (P1 3)), none, none, none]) e_X5_insertRows_39 rfl rfl rfl ?_
      have join58_2 : ∀ (mm : Int), mm = m_many n P1 → z_A M_X5_insertRows E 0 0 58 [some (zo o), some (zi n), some (zi (P1 4)), some (zi (P1 3)), none, none, none] [zi mm] (z_u (z_u mi o (f_rec F)) (o + 1) P1) mr (z_qi E (fun x m r => ((1 ≤ n ∧ n ≤ 8) ∧ (P 2 ≤ P 4 ∧ P 4 ≤ P 3) → x = m_frows P1 (P1 3 - m_many n P1 + 1) (m_many n P1).toNat ∧ m = z_u (z_u mi o (f_rec F)) (o + 1) (p_insr n P1)) ∧ (¬ (1 ≤ n ∧ n ≤ 8) → x = -1 ∧ m = z_u (z_u mi o F) (o + 1) P) ∧ ((1 ≤ n ∧ n ≤ 8) ∧ ¬ (P 2 ≤ P 4 ∧ P 4 ≤ P 3) → x = -2 ∧ m = z_u (z_u mi o F) (o + 1) P) ∧ r = mr)) := by
        intro mm hj
        have hmm := hj
        have hmb : 1 ≤ mm ∧ mm ≤ P1 3 - P1 4 + 1 := by rw [hj]; unfold m_many; split <;> omega
        refine z_istore (ls' := [some (zo o), some (zi n), some (zi (P1 4)), some (zi (P1 3)), some (zi mm), none, none]) e_X5_insertRows_58 rfl rfl rfl ?_
        refine z_aload_n e_X5_insertRows_60 rfl ?_
        refine z_iload_n e_X5_insertRows_61 rfl ?_
        refine z_iload e_X5_insertRows_62 rfl ?_
        refine z_isub e_X5_insertRows_64 ?_
        refine z_iconst e_X5_insertRows_65 ?_
        refine z_iadd e_X5_insertRows_66 ?_
        refine z_iload_n e_X5_insertRows_67 rfl ?_
        refine z_callVi (M' := M_X5_filledRows) (As := [zi (((P1 3) - mm) + 1), zi (P1 3)]) (rest := []) e_X5_insertRows_68 l_RX5_124 rfl rfl rfl rfl t0 ⟨_, _, rfl⟩ (c_X5_filledRows hM hd1 (by omega) (by omega) (by omega)) (fun xq mq rq hq => ?_)
        obtain ⟨e1q, e2q, e3q⟩ := hq
        subst xq mq rq
        refine z_istore (ls' := [some (zo o), some (zi n), some (zi (P1 4)), some (zi (P1 3)), some (zi mm), some (zi (m_frows P1 (P1 3 - mm + 1) (P1 3 + 1 - (P1 3 - mm + 1)).toNat)), none]) e_X5_insertRows_71 rfl rfl rfl ?_
        refine z_aload_n e_X5_insertRows_73 rfl ?_
        refine z_iload_n e_X5_insertRows_74 rfl ?_
        refine z_callVv (M' := M_X5_unwrapsAhead) (As := [zi (P1 4)]) (rest := []) e_X5_insertRows_75 l_RX5_79 rfl rfl rfl rfl t0 ⟨_, _, rfl⟩ (c_X5_unwrapsAhead hM (by omega) ⟨by omega, by omega⟩ (by omega) (by omega)) (fun mq rq hq => ?_)
        obtain ⟨e2q, e3q⟩ := hq
        subst mq rq
        refine z_iload_n e_X5_insertRows_78 rfl ?_
        refine z_istore (ls' := [some (zo o), some (zi n), some (zi (P1 4)), some (zi (P1 3)), some (zi mm), some (zi (m_frows P1 (P1 3 - mm + 1) (P1 3 + 1 - (P1 3 - mm + 1)).toNat)), some (zi (P1 3))]) e_X5_insertRows_79 rfl rfl rfl ?_
        generalize hgP2 : (p_ahead P1 (P1 4)) = P2
        have hdP2 : p_hd P2 := by rw [← hgP2]; exact p_hd_ahead hd1
        obtain ⟨hw0, hw1, hh0, hh1, hf0, hf1, hf2, hr0, hr1, hc0, hc1, hp0, hp1, hk0, hk1, hi0, hi1, hkp, hP2⟩ := id hdP2
        have eP2_3 : P2 3 = P1 3 := by rw [← hgP2]; exact p_ahead_hd (by decide)
        have eP2_4 : P2 4 = P1 4 := by rw [← hgP2]; exact p_ahead_hd (by decide)
        have loop81 : ∀ (nn : Nat) (k : Int) (P3 : Int → Int), (k + 1).toNat = nn → (P1 4 + mm - 1 ≤ k ∧ k ≤ P1 3 ∧ P3 = p_dn P2 (24 + k + 1) (24 + P1 3 + 1) mm) → z_A M_X5_insertRows E 0 0 81 [some (zo o), some (zi n), some (zi (P1 4)), some (zi (P1 3)), some (zi mm), some (zi (m_frows P1 (P1 3 - mm + 1) (P1 3 + 1 - (P1 3 - mm + 1)).toNat)), some (zi k)] [] (z_u (z_u mi o (f_rec F)) (o + 1) P3) mr (z_qi E (fun x m r => ((1 ≤ n ∧ n ≤ 8) ∧ (P 2 ≤ P 4 ∧ P 4 ≤ P 3) → x = m_frows P1 (P1 3 - m_many n P1 + 1) (m_many n P1).toNat ∧ m = z_u (z_u mi o (f_rec F)) (o + 1) (p_insr n P1)) ∧ (¬ (1 ≤ n ∧ n ≤ 8) → x = -1 ∧ m = z_u (z_u mi o F) (o + 1) P) ∧ ((1 ≤ n ∧ n ≤ 8) ∧ ¬ (P 2 ≤ P 4 ∧ P 4 ≤ P 3) → x = -2 ∧ m = z_u (z_u mi o F) (o + 1) P) ∧ r = mr)) := by
          intro nn
          induction nn using Nat.strongRecOn with
          | _ nn ih =>
            intro k P3 hmeas hinv
            obtain ⟨hl0, hl1, hP3⟩ := hinv
            refine z_iload e_X5_insertRows_81 rfl ?_
            refine z_iload_n e_X5_insertRows_83 rfl ?_
            refine z_iload e_X5_insertRows_84 rfl ?_
            refine z_iadd e_X5_insertRows_86 ?_
            refine z_icmp_lt e_X5_insertRows_87 ⟨by omega, by omega⟩ ⟨by omega, by omega⟩ (fun h87_4 => ?_) (fun h87_4 => ?_)
            · have hk : k = P1 4 + mm - 1 := by omega
              have hd3 : p_hd P3 := by rw [hP3]; exact p_hd_dn hdP2 (by omega)
              refine z_aload_n e_X5_insertRows_113 rfl ?_
              refine z_bipush e_X5_insertRows_114 (by decide +kernel) ?_
              refine z_iload_n e_X5_insertRows_116 rfl ?_
              refine z_iadd e_X5_insertRows_117 ?_
              refine z_callVv (M' := M_X5_unwraps) (As := [zi (24 + (P1 3))]) (rest := []) e_X5_insertRows_118 l_RX5_44 rfl rfl rfl rfl t0 ⟨_, _, rfl⟩ (c_X5_unwraps hM (by omega) (by omega)) (fun mq rq hq => ?_)
              obtain ⟨e2q, e3q⟩ := hq
              subst mq rq
              refine z_iload_n e_X5_insertRows_121 rfl ?_
              refine z_istore (ls' := [some (zo o), some (zi n), some (zi (P1 4)), some (zi (P1 3)), some (zi mm), some (zi (m_frows P1 (P1 3 - mm + 1) (P1 3 + 1 - (P1 3 - mm + 1)).toNat)), some (zi (P1 4))]) e_X5_insertRows_122 rfl rfl rfl ?_
              generalize hgP5 : (p_upd P3 (24 + (P1 3)) (r_unw (p_row P3 (24 + (P1 3))))) = P5
              have hd5 : p_hd P5 := by rw [← hgP5]; exact p_hd_unw hd3 (by omega)
              have loop124 : ∀ (nn : Nat) (q : Int) (P6 : Int → Int), (P1 4 + mm - q).toNat = nn → (P1 4 ≤ q ∧ q ≤ P1 4 + mm ∧ P6 = p_blk P5 (24 + P1 4) (24 + q)) → z_A M_X5_insertRows E 0 0 124 [some (zo o), some (zi n), some (zi (P1 4)), some (zi (P1 3)), some (zi mm), some (zi (m_frows P1 (P1 3 - mm + 1) (P1 3 + 1 - (P1 3 - mm + 1)).toNat)), some (zi q)] [] (z_u (z_u mi o (f_rec F)) (o + 1) P6) mr (z_qi E (fun x m r => ((1 ≤ n ∧ n ≤ 8) ∧ (P 2 ≤ P 4 ∧ P 4 ≤ P 3) → x = m_frows P1 (P1 3 - m_many n P1 + 1) (m_many n P1).toNat ∧ m = z_u (z_u mi o (f_rec F)) (o + 1) (p_insr n P1)) ∧ (¬ (1 ≤ n ∧ n ≤ 8) → x = -1 ∧ m = z_u (z_u mi o F) (o + 1) P) ∧ ((1 ≤ n ∧ n ≤ 8) ∧ ¬ (P 2 ≤ P 4 ∧ P 4 ≤ P 3) → x = -2 ∧ m = z_u (z_u mi o F) (o + 1) P) ∧ r = mr)) := by
                intro nn
                induction nn using Nat.strongRecOn with
                | _ nn ih =>
                  intro q P6 hmeas hinv
                  obtain ⟨hq0, hq1, hP6⟩ := hinv
                  refine z_iload e_X5_insertRows_124 rfl ?_
                  refine z_iload_n e_X5_insertRows_126 rfl ?_
                  refine z_iload e_X5_insertRows_127 rfl ?_
                  refine z_iadd e_X5_insertRows_129 ?_
                  refine z_icmp_ge e_X5_insertRows_130 ⟨by omega, by omega⟩ ⟨by omega, by omega⟩ (fun h130_5 => ?_) (fun h130_5 => ?_)
                  · refine z_aload_n e_X5_insertRows_148 rfl ?_
                    refine z_getr (fi := 0) (r := some (o + 1)) e_X5_insertRows_149 f_RX5_7 t0 rfl rfl (q0) ?_
                    refine z_bipush e_X5_insertRows_152 (by decide +kernel) ?_
                    refine z_iconst e_X5_insertRows_154 ?_
                    refine z_iastU e_X5_insertRows_155 t1 (by decide) (by decide) (by decide) ?_
                    refine z_iload e_X5_insertRows_156 rfl ?_
                    refine z_iret e_X5_insertRows_158 (Or.inl rfl) rfl rfl ⟨rfl, _, rfl, ?_⟩
                    refine ⟨fun hb => ⟨?_, ?_⟩, fun hb => absurd (by omega) hb, fun hb => absurd (by omega) hb.2, rfl⟩
                    · rw [← hmm]; congr 1; omega
                    · refine congrArg _ ?_
                      have hq : q = P1 4 + mm := by omega
                      subst hq
                      rw [hP6, ← hgP5, hP3, ← hgP2, hk]
                      unfold p_insr p_unw
                      rw [← hmm, show 24 + (P1 4 + mm - 1) + 1 = 24 + P1 4 + mm by omega, show 24 + (P1 4 + mm) = 24 + P1 4 + mm by omega]
                  · refine z_aload_n e_X5_insertRows_133 rfl ?_
                    refine z_bipush e_X5_insertRows_134 (by decide +kernel) ?_
                    refine z_iload e_X5_insertRows_136 rfl ?_
                    refine z_iadd e_X5_insertRows_138 ?_
                    refine z_callVv (M' := M_X5_blanks) (As := [zi (24 + q)]) (rest := []) e_X5_insertRows_139 l_RX5_32 rfl rfl rfl rfl t0 ⟨_, _, rfl⟩ (c_X5_blanks hM (by omega) (by omega)) (fun mq rq hq => ?_)
                    obtain ⟨e2q, e3q⟩ := hq
                    subst mq rq
                    refine z_iinc (y := (q + 1)) (ls' := [some (zo o), some (zi n), some (zi (P1 4)), some (zi (P1 3)), some (zi mm), some (zi (m_frows P1 (P1 3 - mm + 1) (P1 3 + 1 - (P1 3 - mm + 1)).toNat)), some (zi (q + 1))]) e_X5_insertRows_142 rfl rfl rfl rfl rfl ?_
                    refine z_goto e_X5_insertRows_145 ?_
                    exact ih _ (by omega) (q + 1) (p_upd P6 (24 + q) r_blank) rfl (⟨by omega, by omega, by rw [p_blk_s hP6 (by omega), show 24 + (q + 1) = 24 + q + 1 by omega]⟩)
              exact loop124 _ (P1 4) P5 rfl (⟨by omega, by omega, (p_blk_0 _ _).symm⟩)
            · refine z_aload_n e_X5_insertRows_90 rfl ?_
              refine z_bipush e_X5_insertRows_91 (by decide +kernel) ?_
              refine z_iload e_X5_insertRows_93 rfl ?_
              refine z_iadd e_X5_insertRows_95 ?_
              refine z_iload e_X5_insertRows_96 rfl ?_
              refine z_isub e_X5_insertRows_98 ?_
              refine z_bipush e_X5_insertRows_99 (by decide +kernel) ?_
              refine z_iload e_X5_insertRows_101 rfl ?_
              refine z_iadd e_X5_insertRows_103 ?_
              refine z_callVv (M' := M_X5_copies) (As := [zi ((24 + k) - mm), zi (24 + k)]) (rest := []) e_X5_insertRows_104 l_RX5_72 rfl rfl rfl rfl t0 ⟨_, _, rfl⟩ (c_X5_copies hM (by omega) (by omega) (by omega) (by omega) (by omega)) (fun mq rq hq => ?_)
              obtain ⟨e2q, e3q⟩ := hq
              subst mq rq
              refine z_iinc (y := (k + (-1))) (ls' := [some (zo o), some (zi n), some (zi (P1 4)), some (zi (P1 3)), some (zi mm), some (zi (m_frows P1 (P1 3 - mm + 1) (P1 3 + 1 - (P1 3 - mm + 1)).toNat)), some (zi (k + (-1)))]) e_X5_insertRows_107 rfl rfl rfl rfl rfl ?_
              refine z_goto e_X5_insertRows_110 ?_
              exact ih _ (by omega) (k + (-1)) (p_upd P3 (24 + k) (p_row P3 ((24 + k) - mm))) rfl (⟨by omega, by omega, by rw [p_dn_s hP3 (by omega) (by omega) (by omega), show 24 + (k + -1) + 1 = 24 + k by omega]⟩)
        exact loop81 _ (P1 3) P2 rfl (⟨by omega, by omega, (p_dn_0 _ _ _).symm⟩)
      refine z_iload_n e_X5_insertRows_40 rfl ?_
      refine z_iload_n e_X5_insertRows_41 rfl ?_
      refine z_iload_n e_X5_insertRows_42 rfl ?_
      refine z_isub e_X5_insertRows_43 ?_
      refine z_iconst e_X5_insertRows_44 ?_
      refine z_iadd e_X5_insertRows_45 ?_
      refine z_icmp_ge e_X5_insertRows_46 ⟨by omega, by omega⟩ ⟨by omega, by omega⟩ (fun h46_6 => ?_) (fun h46_6 => ?_)
      · refine z_iload_n e_X5_insertRows_53 rfl ?_
        refine z_iload_n e_X5_insertRows_54 rfl ?_
        refine z_isub e_X5_insertRows_55 ?_
        refine z_iconst e_X5_insertRows_56 ?_
        refine z_iadd e_X5_insertRows_57 ?_
        exact join58_2 (((P1 3) - (P1 4)) + 1) ((if_neg (by omega)).symm)
      · refine z_iload_n e_X5_insertRows_49 rfl ?_
        refine z_goto e_X5_insertRows_50 ?_
        exact join58_2 n ((if_pos (by omega)).symm)
    · refine z_bipush e_X5_insertRows_19 (by decide +kernel) ?_
      refine z_iret e_X5_insertRows_21 (Or.inl rfl) rfl rfl ⟨rfl, _, rfl, ?_⟩
      exact ⟨fun hb => absurd hb.2 (by omega), fun hb => absurd (by omega) hb, fun _ => ⟨rfl, rfl⟩, rfl⟩
  · refine z_iconst e_X5_insertRows_10 ?_
    refine z_iret e_X5_insertRows_11 (Or.inl rfl) rfl rfl ⟨rfl, _, rfl, ?_⟩
    exact ⟨fun hb => absurd hb.1 (by omega), fun _ => ⟨rfl, rfl⟩, fun hb => absurd hb.1 (by omega), rfl⟩
set_option maxHeartbeats 1000000 in
set_option maxRecDepth 100000 in
theorem c_X5_deleteRows {E : z_E} {mi : z_Mi} {mr : z_Mr} {o : Nat} {P F : Int → Int} {n : Int} (hM : z_MO E mr o) (hH : p_hd P) (hF1 : 0 ≤ F 1) (hF2 : F 1 ≤ 8) (hz : z_R n) : z_mi M_X5_deleteRows E [zo o, zi n] (z_u (z_u mi o F) (o + 1) P) mr (fun x m r => ((1 ≤ n ∧ n ≤ 8) ∧ (P 2 ≤ P 4 ∧ P 4 ≤ P 3) → x = m_frows (p_rec (F 1) P) ((p_rec (F 1) P) 4) (m_many n (p_rec (F 1) P)).toNat ∧ m = z_u (z_u mi o (f_rec F)) (o + 1) (p_delr n (p_rec (F 1) P))) ∧ (¬ (1 ≤ n ∧ n ≤ 8) → x = -1 ∧ m = z_u (z_u mi o F) (o + 1) P) ∧ ((1 ≤ n ∧ n ≤ 8) ∧ ¬ (P 2 ≤ P 4 ∧ P 4 ≤ P 3) → x = -2 ∧ m = z_u (z_u mi o F) (o + 1) P) ∧ r = mr) := by
  obtain ⟨t0, t1, t2, t3, t4, t5, t6, t7, q0, q2, q3, q4, q5, q6, q7⟩ := id hM
  obtain ⟨hw0, hw1, hh0, hh1, hf0, hf1, hf2, hr0, hr1, hc0, hc1, hp0, hp1, hk0, hk1, hi0, hi1, hkp, hP⟩ := id hH
  refine z_ofi (ls := [some (zo o), some (zi n), none, none, none, none, none]) rfl (fun _ _ => trivial) ⟨rfl, rfl⟩ (Nat.le_of_ble_eq_true rfl) rfl ?_
  refine z_iload_n e_X5_deleteRows_0 rfl ?_
  refine z_iconst e_X5_deleteRows_1 ?_
  refine z_bipush e_X5_deleteRows_2 (by decide +kernel) ?_
  refine z_callSi (M' := M_X5_in) (As := [zi n, zi 1, zi 8]) (rest := []) e_X5_deleteRows_4 l_RX5_47 rfl rfl rfl rfl (c_X5_in ⟨by omega, by omega⟩ ⟨by omega, by omega⟩ ⟨by omega, by omega⟩) (fun xq mq rq hq => ?_)
  obtain ⟨e1q, e2q, e3q⟩ := hq
  subst xq mq rq
  refine z_if_neB e_X5_deleteRows_7  (fun h7_1 => ?_) (fun h7_1 => ?_)
  · refine z_aload_n e_X5_deleteRows_12 rfl ?_
    refine z_callVi (M' := M_X5_isInRegion) (As := []) (rest := []) e_X5_deleteRows_13 l_RX5_121 rfl rfl rfl rfl t0 ⟨_, _, rfl⟩ (c_X5_isInRegion hM hH) (fun xq mq rq hq => ?_)
    obtain ⟨e1q, e2q, e3q⟩ := hq
    subst xq mq rq
    refine z_if_neB e_X5_deleteRows_16  (fun h16_2 => ?_) (fun h16_2 => ?_)
    · refine z_aload_n e_X5_deleteRows_22 rfl ?_
      refine z_callVv (M' := M_X5_records) (As := []) (rest := []) e_X5_deleteRows_23 l_RX5_96 rfl rfl rfl rfl t0 ⟨_, _, rfl⟩ (c_X5_records hM (by omega) (by omega)) (fun mq rq hq => ?_)
      obtain ⟨e2q, e3q⟩ := hq
      subst mq rq
      generalize hgP1 : (p_rec (F 1) P) = P1
      have hd1 : p_hd P1 := by rw [← hgP1]; exact p_hd_rec hH hF1
      have e1 : ∀ k, k < 719 → P1 k = P k := by intro k hk; rw [← hgP1]; exact p_rec_hd hF1 hk
      have e1_0 : P1 0 = P 0 := e1 0 (by decide)
      have e1_1 : P1 1 = P 1 := e1 1 (by decide)
      have e1_2 : P1 2 = P 2 := e1 2 (by decide)
      have e1_3 : P1 3 = P 3 := e1 3 (by decide)
      have e1_4 : P1 4 = P 4 := e1 4 (by decide)
      have e1_5 : P1 5 = P 5 := e1 5 (by decide)
      have e1_7 : P1 7 = P 7 := e1 7 (by decide)
      have e1_14 : P1 14 = P 14 := e1 14 (by decide)
      clear hw0 hw1 hh0 hh1 hf0 hf1 hf2 hr0 hr1 hc0 hc1 hp0 hp1 hk0 hk1 hi0 hi1 hkp
      obtain ⟨hw0, hw1, hh0, hh1, hf0, hf1, hf2, hr0, hr1, hc0, hc1, hp0, hp1, hk0, hk1, hi0, hi1, hkp, hP1⟩ := id hd1
      refine z_aload_n e_X5_deleteRows_26 rfl ?_
      refine z_getr (fi := 0) (r := some (o + 1)) e_X5_deleteRows_27 f_RX5_7 t0 rfl rfl (q0) ?_
      refine z_iconst e_X5_deleteRows_30 ?_
      refine z_iald (x := (P1 4)) e_X5_deleteRows_31 t1 (by decide) (by decide) (by decide) (congrFun (z_us _ _ _) _) ?_
      refine z_istore_n (ls' := [some (zo o), some (zi n), some (zi (P1 4)), none, none, none, none]) e_X5_deleteRows_32 rfl rfl rfl ?_
      refine z_aload_n e_X5_deleteRows_33 rfl ?_
      refine z_getr (fi := 0) (r := some (o + 1)) e_X5_deleteRows_34 f_RX5_7 t0 rfl rfl (q0) ?_
      refine z_iconst e_X5_deleteRows_37 ?_
      refine z_iald (x := (P1 3)) e_X5_deleteRows_38 t1 (by decide) (by decide) (by decide) (congrFun (z_us _ _ _) _) ?_
      refine z_istore_n (ls' := [some (zo o), some (zi n), some (zi (P1 4)), some (zi (P1 3)), none, none, none]) e_X5_deleteRows_39 rfl rfl rfl ?_
      have join58_2 : ∀ (mm : Int), mm = m_many n P1 → z_A M_X5_deleteRows E 0 0 58 [some (zo o), some (zi n), some (zi (P1 4)), some (zi (P1 3)), none, none, none] [zi mm] (z_u (z_u mi o (f_rec F)) (o + 1) P1) mr (z_qi E (fun x m r => ((1 ≤ n ∧ n ≤ 8) ∧ (P 2 ≤ P 4 ∧ P 4 ≤ P 3) → x = m_frows P1 (P1 4) (m_many n P1).toNat ∧ m = z_u (z_u mi o (f_rec F)) (o + 1) (p_delr n P1)) ∧ (¬ (1 ≤ n ∧ n ≤ 8) → x = -1 ∧ m = z_u (z_u mi o F) (o + 1) P) ∧ ((1 ≤ n ∧ n ≤ 8) ∧ ¬ (P 2 ≤ P 4 ∧ P 4 ≤ P 3) → x = -2 ∧ m = z_u (z_u mi o F) (o + 1) P) ∧ r = mr)) := by
        intro mm hj
        have hmm := hj
        have hmb : 1 ≤ mm ∧ mm ≤ P1 3 - P1 4 + 1 := by rw [hj]; unfold m_many; split <;> omega
        refine z_istore (ls' := [some (zo o), some (zi n), some (zi (P1 4)), some (zi (P1 3)), some (zi mm), none, none]) e_X5_deleteRows_58 rfl rfl rfl ?_
        refine z_aload_n e_X5_deleteRows_60 rfl ?_
        refine z_iload_n e_X5_deleteRows_61 rfl ?_
        refine z_iload_n e_X5_deleteRows_62 rfl ?_
        refine z_iload e_X5_deleteRows_63 rfl ?_
        refine z_iadd e_X5_deleteRows_65 ?_
        refine z_iconst e_X5_deleteRows_66 ?_
        refine z_isub e_X5_deleteRows_67 ?_
        refine z_callVi (M' := M_X5_filledRows) (As := [zi (P1 4), zi (((P1 4) + mm) - 1)]) (rest := []) e_X5_deleteRows_68 l_RX5_124 rfl rfl rfl rfl t0 ⟨_, _, rfl⟩ (c_X5_filledRows hM hd1 (by omega) (by omega) (by omega)) (fun xq mq rq hq => ?_)
        obtain ⟨e1q, e2q, e3q⟩ := hq
        subst xq mq rq
        refine z_istore (ls' := [some (zo o), some (zi n), some (zi (P1 4)), some (zi (P1 3)), some (zi mm), some (zi (m_frows P1 (P1 4) (P1 4 + mm - 1 + 1 - (P1 4)).toNat)), none]) e_X5_deleteRows_71 rfl rfl rfl ?_
        refine z_aload_n e_X5_deleteRows_73 rfl ?_
        refine z_iload_n e_X5_deleteRows_74 rfl ?_
        refine z_callVv (M' := M_X5_unwrapsAhead) (As := [zi (P1 4)]) (rest := []) e_X5_deleteRows_75 l_RX5_79 rfl rfl rfl rfl t0 ⟨_, _, rfl⟩ (c_X5_unwrapsAhead hM (by omega) ⟨by omega, by omega⟩ (by omega) (by omega)) (fun mq rq hq => ?_)
        obtain ⟨e2q, e3q⟩ := hq
        subst mq rq
        generalize hgP2 : (p_ahead P1 (P1 4)) = P2
        have hdP2 : p_hd P2 := by rw [← hgP2]; exact p_hd_ahead hd1
        obtain ⟨hw0, hw1, hh0, hh1, hf0, hf1, hf2, hr0, hr1, hc0, hc1, hp0, hp1, hk0, hk1, hi0, hi1, hkp, hP2⟩ := id hdP2
        refine z_aload_n e_X5_deleteRows_78 rfl ?_
        refine z_bipush e_X5_deleteRows_79 (by decide +kernel) ?_
        refine z_iload_n e_X5_deleteRows_81 rfl ?_
        refine z_iadd e_X5_deleteRows_82 ?_
        refine z_callVv (M' := M_X5_unwraps) (As := [zi (24 + (P1 3))]) (rest := []) e_X5_deleteRows_83 l_RX5_44 rfl rfl rfl rfl t0 ⟨_, _, rfl⟩ (c_X5_unwraps hM (by omega) (by omega)) (fun mq rq hq => ?_)
        obtain ⟨e2q, e3q⟩ := hq
        subst mq rq
        refine z_iload_n e_X5_deleteRows_86 rfl ?_
        refine z_istore (ls' := [some (zo o), some (zi n), some (zi (P1 4)), some (zi (P1 3)), some (zi mm), some (zi (m_frows P1 (P1 4) (P1 4 + mm - 1 + 1 - (P1 4)).toNat)), some (zi (P1 4))]) e_X5_deleteRows_87 rfl rfl rfl ?_
        generalize hgP3 : (p_upd P2 (24 + (P1 3)) (r_unw (p_row P2 (24 + (P1 3))))) = P3
        have hd3 : p_hd P3 := by rw [← hgP3]; exact p_hd_unw hdP2 (by omega)
        have loop89 : ∀ (nn : Nat) (k : Int) (P4 : Int → Int), (P1 3 + 1 - k).toNat = nn → (P1 4 ≤ k ∧ k ≤ P1 3 + 1 - mm ∧ P4 = p_up P3 (24 + P1 4) (24 + k) mm) → z_A M_X5_deleteRows E 0 0 89 [some (zo o), some (zi n), some (zi (P1 4)), some (zi (P1 3)), some (zi mm), some (zi (m_frows P1 (P1 4) (P1 4 + mm - 1 + 1 - (P1 4)).toNat)), some (zi k)] [] (z_u (z_u mi o (f_rec F)) (o + 1) P4) mr (z_qi E (fun x m r => ((1 ≤ n ∧ n ≤ 8) ∧ (P 2 ≤ P 4 ∧ P 4 ≤ P 3) → x = m_frows P1 (P1 4) (m_many n P1).toNat ∧ m = z_u (z_u mi o (f_rec F)) (o + 1) (p_delr n P1)) ∧ (¬ (1 ≤ n ∧ n ≤ 8) → x = -1 ∧ m = z_u (z_u mi o F) (o + 1) P) ∧ ((1 ≤ n ∧ n ≤ 8) ∧ ¬ (P 2 ≤ P 4 ∧ P 4 ≤ P 3) → x = -2 ∧ m = z_u (z_u mi o F) (o + 1) P) ∧ r = mr)) := by
          intro nn
          induction nn using Nat.strongRecOn with
          | _ nn ih =>
            intro k P4 hmeas hinv
            obtain ⟨hl0, hl1, hP4⟩ := hinv
            refine z_iload e_X5_deleteRows_89 rfl ?_
            refine z_iload e_X5_deleteRows_91 rfl ?_
            refine z_iadd e_X5_deleteRows_93 ?_
            refine z_iload_n e_X5_deleteRows_94 rfl ?_
            refine z_icmp_gt e_X5_deleteRows_95 ⟨by omega, by omega⟩ ⟨by omega, by omega⟩ (fun h95_4 => ?_) (fun h95_4 => ?_)
            · have hk : k = P1 3 + 1 - mm := by omega
              refine z_iload_n e_X5_deleteRows_121 rfl ?_
              refine z_iload e_X5_deleteRows_122 rfl ?_
              refine z_isub e_X5_deleteRows_124 ?_
              refine z_iconst e_X5_deleteRows_125 ?_
              refine z_iadd e_X5_deleteRows_126 ?_
              refine z_istore (ls' := [some (zo o), some (zi n), some (zi (P1 4)), some (zi (P1 3)), some (zi mm), some (zi (m_frows P1 (P1 4) (P1 4 + mm - 1 + 1 - (P1 4)).toNat)), some (zi (((P1 3) - mm) + 1))]) e_X5_deleteRows_127 rfl rfl rfl ?_
              have loop129 : ∀ (nn : Nat) (q : Int) (P6 : Int → Int), (P1 3 + 1 - q).toNat = nn → (P1 3 + 1 - mm ≤ q ∧ q ≤ P1 3 + 1 ∧ P6 = p_blk P4 (24 + P1 3 + 1 - mm) (24 + q)) → z_A M_X5_deleteRows E 0 0 129 [some (zo o), some (zi n), some (zi (P1 4)), some (zi (P1 3)), some (zi mm), some (zi (m_frows P1 (P1 4) (P1 4 + mm - 1 + 1 - (P1 4)).toNat)), some (zi q)] [] (z_u (z_u mi o (f_rec F)) (o + 1) P6) mr (z_qi E (fun x m r => ((1 ≤ n ∧ n ≤ 8) ∧ (P 2 ≤ P 4 ∧ P 4 ≤ P 3) → x = m_frows P1 (P1 4) (m_many n P1).toNat ∧ m = z_u (z_u mi o (f_rec F)) (o + 1) (p_delr n P1)) ∧ (¬ (1 ≤ n ∧ n ≤ 8) → x = -1 ∧ m = z_u (z_u mi o F) (o + 1) P) ∧ ((1 ≤ n ∧ n ≤ 8) ∧ ¬ (P 2 ≤ P 4 ∧ P 4 ≤ P 3) → x = -2 ∧ m = z_u (z_u mi o F) (o + 1) P) ∧ r = mr)) := by
                intro nn
                induction nn using Nat.strongRecOn with
                | _ nn ih =>
                  intro q P6 hmeas hinv
                  obtain ⟨hq0, hq1, hP6⟩ := hinv
                  refine z_iload e_X5_deleteRows_129 rfl ?_
                  refine z_iload_n e_X5_deleteRows_131 rfl ?_
                  refine z_icmp_gt e_X5_deleteRows_132 ⟨by omega, by omega⟩ ⟨by omega, by omega⟩ (fun h132_5 => ?_) (fun h132_5 => ?_)
                  · refine z_aload_n e_X5_deleteRows_150 rfl ?_
                    refine z_getr (fi := 0) (r := some (o + 1)) e_X5_deleteRows_151 f_RX5_7 t0 rfl rfl (q0) ?_
                    refine z_bipush e_X5_deleteRows_154 (by decide +kernel) ?_
                    refine z_iconst e_X5_deleteRows_156 ?_
                    refine z_iastU e_X5_deleteRows_157 t1 (by decide) (by decide) (by decide) ?_
                    refine z_iload e_X5_deleteRows_158 rfl ?_
                    refine z_iret e_X5_deleteRows_160 (Or.inl rfl) rfl rfl ⟨rfl, _, rfl, ?_⟩
                    refine ⟨fun hb => ⟨?_, ?_⟩, fun hb => absurd (by omega) hb, fun hb => absurd (by omega) hb.2, rfl⟩
                    · rw [← hmm]; congr 1; omega
                    · refine congrArg _ ?_
                      have hq : q = P1 3 + 1 := by omega
                      subst hq
                      rw [hP6, hP4, ← hgP3, ← hgP2, hk]
                      unfold p_delr p_unw
                      rw [← hmm, show 24 + (P1 3 + 1 - mm) = 24 + P1 3 + 1 - mm by omega, show 24 + (P1 3 + 1) = 24 + P1 3 + 1 by omega]
                  · refine z_aload_n e_X5_deleteRows_135 rfl ?_
                    refine z_bipush e_X5_deleteRows_136 (by decide +kernel) ?_
                    refine z_iload e_X5_deleteRows_138 rfl ?_
                    refine z_iadd e_X5_deleteRows_140 ?_
                    refine z_callVv (M' := M_X5_blanks) (As := [zi (24 + q)]) (rest := []) e_X5_deleteRows_141 l_RX5_32 rfl rfl rfl rfl t0 ⟨_, _, rfl⟩ (c_X5_blanks hM (by omega) (by omega)) (fun mq rq hq => ?_)
                    obtain ⟨e2q, e3q⟩ := hq
                    subst mq rq
                    refine z_iinc (y := (q + 1)) (ls' := [some (zo o), some (zi n), some (zi (P1 4)), some (zi (P1 3)), some (zi mm), some (zi (m_frows P1 (P1 4) (P1 4 + mm - 1 + 1 - (P1 4)).toNat)), some (zi (q + 1))]) e_X5_deleteRows_144 rfl rfl rfl rfl rfl ?_
                    refine z_goto e_X5_deleteRows_147 ?_
                    exact ih _ (by omega) (q + 1) (p_upd P6 (24 + q) r_blank) rfl (⟨by omega, by omega, by rw [p_blk_s hP6 (by omega), show 24 + (q + 1) = 24 + q + 1 by omega]⟩)
              exact loop129 _ (((P1 3) - mm) + 1) P4 rfl (⟨by omega, by omega, by rw [show 24 + (P1 3 - mm + 1) = 24 + P1 3 + 1 - mm by omega, p_blk_0]⟩)
            · refine z_aload_n e_X5_deleteRows_98 rfl ?_
              refine z_bipush e_X5_deleteRows_99 (by decide +kernel) ?_
              refine z_iload e_X5_deleteRows_101 rfl ?_
              refine z_iadd e_X5_deleteRows_103 ?_
              refine z_iload e_X5_deleteRows_104 rfl ?_
              refine z_iadd e_X5_deleteRows_106 ?_
              refine z_bipush e_X5_deleteRows_107 (by decide +kernel) ?_
              refine z_iload e_X5_deleteRows_109 rfl ?_
              refine z_iadd e_X5_deleteRows_111 ?_
              refine z_callVv (M' := M_X5_copies) (As := [zi ((24 + k) + mm), zi (24 + k)]) (rest := []) e_X5_deleteRows_112 l_RX5_72 rfl rfl rfl rfl t0 ⟨_, _, rfl⟩ (c_X5_copies hM (by omega) (by omega) (by omega) (by omega) (by omega)) (fun mq rq hq => ?_)
              obtain ⟨e2q, e3q⟩ := hq
              subst mq rq
              refine z_iinc (y := (k + 1)) (ls' := [some (zo o), some (zi n), some (zi (P1 4)), some (zi (P1 3)), some (zi mm), some (zi (m_frows P1 (P1 4) (P1 4 + mm - 1 + 1 - (P1 4)).toNat)), some (zi (k + 1))]) e_X5_deleteRows_115 rfl rfl rfl rfl rfl ?_
              refine z_goto e_X5_deleteRows_118 ?_
              exact ih _ (by omega) (k + 1) (p_upd P4 (24 + k) (p_row P4 ((24 + k) + mm))) rfl (⟨by omega, by omega, by rw [p_up_s hP4 (by omega) (by omega) (by omega), show 24 + (k + 1) = 24 + k + 1 by omega]⟩)
        exact loop89 _ (P1 4) P3 rfl (⟨by omega, by omega, (p_up_0 _ _ _).symm⟩)
      refine z_iload_n e_X5_deleteRows_40 rfl ?_
      refine z_iload_n e_X5_deleteRows_41 rfl ?_
      refine z_iload_n e_X5_deleteRows_42 rfl ?_
      refine z_isub e_X5_deleteRows_43 ?_
      refine z_iconst e_X5_deleteRows_44 ?_
      refine z_iadd e_X5_deleteRows_45 ?_
      refine z_icmp_ge e_X5_deleteRows_46 ⟨by omega, by omega⟩ ⟨by omega, by omega⟩ (fun h46_6 => ?_) (fun h46_6 => ?_)
      · refine z_iload_n e_X5_deleteRows_53 rfl ?_
        refine z_iload_n e_X5_deleteRows_54 rfl ?_
        refine z_isub e_X5_deleteRows_55 ?_
        refine z_iconst e_X5_deleteRows_56 ?_
        refine z_iadd e_X5_deleteRows_57 ?_
        exact join58_2 (((P1 3) - (P1 4)) + 1) ((if_neg (by omega)).symm)
      · refine z_iload_n e_X5_deleteRows_49 rfl ?_
        refine z_goto e_X5_deleteRows_50 ?_
        exact join58_2 n ((if_pos (by omega)).symm)
    · refine z_bipush e_X5_deleteRows_19 (by decide +kernel) ?_
      refine z_iret e_X5_deleteRows_21 (Or.inl rfl) rfl rfl ⟨rfl, _, rfl, ?_⟩
      exact ⟨fun hb => absurd hb.2 (by omega), fun hb => absurd (by omega) hb, fun _ => ⟨rfl, rfl⟩, rfl⟩
  · refine z_iconst e_X5_deleteRows_10 ?_
    refine z_iret e_X5_deleteRows_11 (Or.inl rfl) rfl rfl ⟨rfl, _, rfl, ?_⟩
    exact ⟨fun hb => absurd hb.1 (by omega), fun _ => ⟨rfl, rfl⟩, fun hb => absurd hb.1 (by omega), rfl⟩
