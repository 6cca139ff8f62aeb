set_option maxHeartbeats 1000000 in
set_option maxRecDepth 100000 in
theorem c_X5_mixedLines {E : z_E} {mi : z_Mi} {mr : z_Mr} {o : Nat} {P : Int → Int} {h0 : Int64} (hM : z_MO E mr o) (hH : p_hd P) : z_ml M_X5_mixedLines E [zo o, zl h0] (z_u mi (o + 1) P) mr (fun x m r => x = y_mls P (m_count P) 0 h0 ∧ m = z_u mi (o + 1) P ∧ r = mr) := by
  obtain ⟨t0, t1, t2, t3, t4, t5, t6, t7, q0, q2, q3, q4, q5, q6, q7⟩ := id hM
  obtain ⟨hw0, hw1, hh0, hh1, hf0, hf1, hf2, hr0, hr1, hc0, hc1, hp0, hp1, hk0, hk1, hi0, hi1, hkp, hP⟩ := id hH
  have hcb0 := m_count_b hH
  refine z_ofl (ls := [some (zo o), some (zl h0), none, none, none, none, none, none, none, none]) rfl (fun _ _ => trivial) ⟨rfl, rfl⟩ (Nat.le_of_ble_eq_true rfl) rfl ?_
  refine z_lload_n e_X5_mixedLines_0 rfl ?_
  refine z_lstore_n (ls' := [some (zo o), some (zl h0), none, some (zl h0), none, none, none, none, none, none]) e_X5_mixedLines_1 rfl rfl rfl ?_
  refine z_aload_n e_X5_mixedLines_2 rfl ?_
  refine z_callVi (M' := M_X5_counted) (As := []) (rest := []) e_X5_mixedLines_3 l_RX5_140 rfl rfl rfl rfl t0 ⟨_, _, rfl⟩ (c_X5_counted hM hH) (fun xq mq rq hq => ?_)
  obtain ⟨e1q, e2q, e3q⟩ := hq
  subst xq mq rq
  have hcb := m_count_b hH
  refine z_istore (ls' := [some (zo o), some (zl h0), none, some (zl h0), none, some (zi (m_count P)), none, none, none, none]) e_X5_mixedLines_6 rfl rfl rfl ?_
  refine z_iconst e_X5_mixedLines_8 ?_
  refine z_istore (ls' := [some (zo o), some (zl h0), none, some (zl h0), none, some (zi (m_count P)), some (zi 0), none, none, none]) e_X5_mixedLines_9 rfl rfl rfl ?_
  have loop11 : ∀ (nn : Nat) (b : Int) (h : Int64), (m_count P - b).toNat = nn → (0 ≤ b ∧ b ≤ m_count P ∧ y_mls P (m_count P) b h = y_mls P (m_count P) 0 h0) → z_A M_X5_mixedLines E 0 0 11 [some (zo o), some (zl h0), none, some (zl h), none, some (zi (m_count P)), some (zi b), none, none, none] [] (z_u mi (o + 1) P) mr (z_ql E (fun x m r => x = y_mls P (m_count P) 0 h0 ∧ m = z_u mi (o + 1) P ∧ r = mr)) := by
    intro nn
    induction nn using Nat.strongRecOn with
    | _ nn ih11 =>
      intro b h hmeas hinv
      obtain ⟨hi0, hi1, hms⟩ := hinv
      refine z_iload e_X5_mixedLines_11 rfl ?_
      refine z_iload e_X5_mixedLines_13 rfl ?_
      refine z_icmp_ge e_X5_mixedLines_15 ⟨by omega, by omega⟩ ⟨by omega, by omega⟩ (fun h15_1 => ?_) (fun h15_1 => ?_)
      · refine z_lload_n e_X5_mixedLines_120 rfl ?_
        refine z_lret e_X5_mixedLines_121 rfl rfl rfl ⟨rfl, _, rfl, ?_⟩
        refine ⟨?_, rfl, rfl⟩
        rw [← hms, y_mls_e _ (by omega)]
      · refine z_aload_n e_X5_mixedLines_18 rfl ?_
        refine z_iload e_X5_mixedLines_19 rfl ?_
        refine z_iload e_X5_mixedLines_21 rfl ?_
        refine z_callVi (M' := M_X5_lineEnd) (As := [zi b, zi (m_count P)]) (rest := []) e_X5_mixedLines_23 l_RX5_137 rfl rfl rfl rfl t0 ⟨_, _, rfl⟩ (c_X5_lineEnd hM hH (by omega) (by omega) (by omega)) (fun xq mq rq hq => ?_)
        obtain ⟨e1q, e2q, e3q⟩ := hq
        subst xq mq rq
        have hle := m_lend_spec (P := P) (n := (m_count P)) (k := b) (by omega)
        have hle1 := hle.1
        have hle2 := hle.2.1
        refine z_istore (ls' := [some (zo o), some (zl h0), none, some (zl h), none, some (zi (m_count P)), some (zi b), some (zi (m_lend P (m_count P) b)), none, none]) e_X5_mixedLines_26 rfl rfl rfl ?_
        refine z_iconst e_X5_mixedLines_28 ?_
        refine z_istore (ls' := [some (zo o), some (zl h0), none, some (zl h), none, some (zi (m_count P)), some (zi b), some (zi (m_lend P (m_count P) b)), some (zi 0), none]) e_X5_mixedLines_29 rfl rfl rfl ?_
        have loop31 : ∀ (nn : Nat) (w : Int) (h2 : Int64), (3 - w).toNat = nn → (0 ≤ w ∧ w ≤ 3 ∧ h2 = y_mixn (fun w => m_lof P b (m_lend P (m_count P) b) w) w.toNat h) → z_A M_X5_mixedLines E 0 0 31 [some (zo o), some (zl h0), none, some (zl h2), none, some (zi (m_count P)), some (zi b), some (zi (m_lend P (m_count P) b)), some (zi w), none] [] (z_u mi (o + 1) P) mr (z_ql E (fun x m r => x = y_mls P (m_count P) 0 h0 ∧ m = z_u mi (o + 1) P ∧ r = mr)) := by
          intro nn
          induction nn using Nat.strongRecOn with
          | _ nn ih31 =>
            intro w h2 hmeas hinv
            obtain ⟨hw9, hw8, hh2⟩ := hinv
            refine z_iload e_X5_mixedLines_31 rfl ?_
            refine z_iconst e_X5_mixedLines_33 ?_
            refine z_icmp_gt e_X5_mixedLines_34 ⟨by omega, by omega⟩ (by decide) (fun h34_2 => ?_) (fun h34_2 => ?_)
            · refine z_aload_n e_X5_mixedLines_61 rfl ?_
              refine z_iload e_X5_mixedLines_62 rfl ?_
              refine z_iload e_X5_mixedLines_64 rfl ?_
              refine z_callVi (M' := M_X5_signsOf) (As := [zi b, zi (m_lend P (m_count P) b)]) (rest := []) e_X5_mixedLines_66 l_RX5_152 rfl rfl rfl rfl t0 ⟨_, _, rfl⟩ (c_X5_signsOf hM hH (by omega) (by omega) (by omega)) (fun xq mq rq hq => ?_)
              obtain ⟨e1q, e2q, e3q⟩ := hq
              subst xq mq rq
              refine z_istore (ls' := [some (zo o), some (zl h0), none, some (zl h2), none, some (zi (m_count P)), some (zi b), some (zi (m_lend P (m_count P) b)), some (zi (m_signs P b (m_lend P (m_count P) b))), none]) e_X5_mixedLines_69 rfl rfl rfl ?_
              refine z_iconst e_X5_mixedLines_71 ?_
              refine z_istore (ls' := [some (zo o), some (zl h0), none, some (zl h2), none, some (zi (m_count P)), some (zi b), some (zi (m_lend P (m_count P) b)), some (zi (m_signs P b (m_lend P (m_count P) b))), some (zi 0)]) e_X5_mixedLines_72 rfl rfl rfl ?_
              have hsg := m_sgn_b (P := P) (e := (m_lend P (m_count P) b)) (b := b) hH ((m_lend P (m_count P) b) + 1 - b).toNat
              have hsb : 0 ≤ m_signs P b (m_lend P (m_count P) b) ∧ m_signs P b (m_lend P (m_count P) b) ≤ 700 := by unfold m_signs; omega
              have loop74 : ∀ (nn : Nat) (k : Int) (h3 : Int64), (m_signs P b (m_lend P (m_count P) b) - k).toNat = nn → (0 ≤ k ∧ k ≤ m_signs P b (m_lend P (m_count P) b) ∧ h3 = y_mixn (fun k => m_sgA P b (m_lend P (m_count P) b) k) k.toNat h2) → z_A M_X5_mixedLines E 0 0 74 [some (zo o), some (zl h0), none, some (zl h3), none, some (zi (m_count P)), some (zi b), some (zi (m_lend P (m_count P) b)), some (zi (m_signs P b (m_lend P (m_count P) b))), some (zi k)] [] (z_u mi (o + 1) P) mr (z_ql E (fun x m r => x = y_mls P (m_count P) 0 h0 ∧ m = z_u mi (o + 1) P ∧ r = mr)) := by
                intro nn
                induction nn using Nat.strongRecOn with
                | _ nn ih74 =>
                  intro k h3 hmeas hinv
                  obtain ⟨hk9, hk8, hh3⟩ := hinv
                  refine z_iload e_X5_mixedLines_74 rfl ?_
                  refine z_iload e_X5_mixedLines_76 rfl ?_
                  refine z_icmp_ge e_X5_mixedLines_78 ⟨by omega, by omega⟩ ⟨by omega, by omega⟩ (fun h78_3 => ?_) (fun h78_3 => ?_)
                  · refine z_aload_n e_X5_mixedLines_105 rfl ?_
                    refine z_iload e_X5_mixedLines_106 rfl ?_
                    refine z_iload e_X5_mixedLines_108 rfl ?_
                    refine z_callVi (M' := M_X5_lineEnd) (As := [zi b, zi (m_count P)]) (rest := []) e_X5_mixedLines_110 l_RX5_137 rfl rfl rfl rfl t0 ⟨_, _, rfl⟩ (c_X5_lineEnd hM hH (by omega) (by omega) (by omega)) (fun xq mq rq hq => ?_)
                    obtain ⟨e1q, e2q, e3q⟩ := hq
                    subst xq mq rq
                    have hle := m_lend_spec (P := P) (n := (m_count P)) (k := b) (by omega)
                    have hle1 := hle.1
                    have hle2 := hle.2.1
                    refine z_iconst e_X5_mixedLines_113 ?_
                    refine z_iadd e_X5_mixedLines_114 ?_
                    refine z_istore (ls' := [some (zo o), some (zl h0), none, some (zl h3), none, some (zi (m_count P)), some (zi ((m_lend P (m_count P) b) + 1)), some (zi (m_lend P (m_count P) b)), some (zi (m_signs P b (m_lend P (m_count P) b))), some (zi k)]) e_X5_mixedLines_115 rfl rfl rfl ?_
                    refine z_goto e_X5_mixedLines_117 ?_
                    refine z_fgt (ls' := [some (zo o), some (zl h0), none, some (zl h3), none, some (zi (m_count P)), some (zi ((m_lend P (m_count P) b) + 1)), none, none, none]) ⟨rfl, rfl, rfl, rfl, rfl, trivial⟩ ?_
                    exact ih11 _ (by omega) ((m_lend P (m_count P) b) + 1) h3 rfl (⟨by omega, by omega, by rw [← hms, y_mls_s h (show b < m_count P by omega)]; refine congrArg _ ?_; rw [hh3, show k = m_signs P b (m_lend P (m_count P) b) by omega, hh2, show w = 3 by omega]; rfl⟩)
                  · refine z_ldc2 (x := 31) e_X5_mixedLines_81 (z_tab 947 (by decide +kernel) rfl) ?_
                    refine z_lload_n e_X5_mixedLines_84 rfl ?_
                    refine z_lmul e_X5_mixedLines_85 ?_
                    refine z_aload_n e_X5_mixedLines_86 rfl ?_
                    refine z_iload e_X5_mixedLines_87 rfl ?_
                    refine z_iload e_X5_mixedLines_89 rfl ?_
                    refine z_iload e_X5_mixedLines_91 rfl ?_
                    refine z_callVi (M' := M_X5_signOf) (As := [zi b, zi (m_lend P (m_count P) b), zi k]) (rest := [zl ((31 : Int64) * h3)]) e_X5_mixedLines_93 l_RX5_162 rfl rfl rfl rfl t0 ⟨_, _, rfl⟩ (c_X5_signOf hM hH (by omega) (by omega) (by omega) (by omega) ⟨by omega, by omega⟩) (fun xq mq rq hq => ?_)
                    obtain ⟨e1q, e2q, e3q⟩ := hq
                    subst xq mq rq
                    refine z_i2l e_X5_mixedLines_96 ?_
                    refine z_ladd e_X5_mixedLines_97 ?_
                    refine z_lstore_n (ls' := [some (zo o), some (zl h0), none, some (zl (((31 : Int64) * h3) + (z_I (m_sgA P b (m_lend P (m_count P) b) k)).toInt64)), none, some (zi (m_count P)), some (zi b), some (zi (m_lend P (m_count P) b)), some (zi (m_signs P b (m_lend P (m_count P) b))), some (zi k)]) e_X5_mixedLines_98 rfl rfl rfl ?_
                    refine z_iinc (y := (k + 1)) (ls' := [some (zo o), some (zl h0), none, some (zl (((31 : Int64) * h3) + (z_I (m_sgA P b (m_lend P (m_count P) b) k)).toInt64)), none, some (zi (m_count P)), some (zi b), some (zi (m_lend P (m_count P) b)), some (zi (m_signs P b (m_lend P (m_count P) b))), some (zi (k + 1))]) e_X5_mixedLines_99 rfl rfl rfl rfl rfl ?_
                    refine z_goto e_X5_mixedLines_102 ?_
                    exact ih74 _ (by omega) (k + 1) (((31 : Int64) * h3) + (z_I (m_sgA P b (m_lend P (m_count P) b) k)).toInt64) rfl (⟨by omega, by omega, by rw [y_mixn_s _ (by omega), ← hh3]; rfl⟩)
              exact loop74 _ 0 h2 rfl (⟨by omega, by omega, rfl⟩)
            · refine z_ldc2 (x := 31) e_X5_mixedLines_37 (z_tab 947 (by decide +kernel) rfl) ?_
              refine z_lload_n e_X5_mixedLines_40 rfl ?_
              refine z_lmul e_X5_mixedLines_41 ?_
              refine z_aload_n e_X5_mixedLines_42 rfl ?_
              refine z_iload e_X5_mixedLines_43 rfl ?_
              refine z_iload e_X5_mixedLines_45 rfl ?_
              refine z_iload e_X5_mixedLines_47 rfl ?_
              refine z_callVi (M' := M_X5_lineOf) (As := [zi b, zi (m_lend P (m_count P) b), zi w]) (rest := [zl ((31 : Int64) * h2)]) e_X5_mixedLines_49 l_RX5_158 rfl rfl rfl rfl t0 ⟨_, _, rfl⟩ (c_X5_lineOf hM hH (by omega) (by omega) (by omega) ⟨by omega, by omega⟩) (fun xq mq rq hq => ?_)
              obtain ⟨e1q, e2q, e3q⟩ := hq
              subst xq mq rq
              refine z_i2l e_X5_mixedLines_52 ?_
              refine z_ladd e_X5_mixedLines_53 ?_
              refine z_lstore_n (ls' := [some (zo o), some (zl h0), none, some (zl (((31 : Int64) * h2) + (z_I (m_lof P b (m_lend P (m_count P) b) w)).toInt64)), none, some (zi (m_count P)), some (zi b), some (zi (m_lend P (m_count P) b)), some (zi w), none]) e_X5_mixedLines_54 rfl rfl rfl ?_
              refine z_iinc (y := (w + 1)) (ls' := [some (zo o), some (zl h0), none, some (zl (((31 : Int64) * h2) + (z_I (m_lof P b (m_lend P (m_count P) b) w)).toInt64)), none, some (zi (m_count P)), some (zi b), some (zi (m_lend P (m_count P) b)), some (zi (w + 1)), none]) e_X5_mixedLines_55 rfl rfl rfl rfl rfl ?_
              refine z_goto e_X5_mixedLines_58 ?_
              exact ih31 _ (by omega) (w + 1) (((31 : Int64) * h2) + (z_I (m_lof P b (m_lend P (m_count P) b) w)).toInt64) rfl (⟨by omega, by omega, by rw [y_mixn_s _ (by omega), ← hh2]; rfl⟩)
        exact loop31 _ 0 h rfl (⟨by omega, by omega, rfl⟩)
  exact loop11 _ 0 h0 rfl (⟨by omega, by omega, rfl⟩)
set_option maxHeartbeats 1000000 in
set_option maxRecDepth 100000 in
theorem c_X5_digest {E : z_E} {mi : z_Mi} {mr : z_Mr} {o : Nat} {P F X L M U V B : Int → Int} (hM : z_MO E mr o) (hH : p_hd P) (hF1 : 0 ≤ F 1) (hF2 : F 1 ≤ 8) (hL : ∀ j, -9 ≤ L j ∧ L j ≤ 99) (hMk : ∀ j, -9 ≤ M j ∧ M j ≤ 9999) (hU : ∀ j, 0 ≤ U j ∧ U j ≤ 9999) (hb0 : 0 ≤ F 9) (hb1 : F 9 ≤ 9999) : z_ml M_X5_digest E [zo o] (z_u (z_u (z_u (z_u (z_u (z_u (z_u (z_u mi (o + 2) X) (o + 3) L) (o + 4) M) (o + 5) U) (o + 6) V) (o + 7) B) o F) (o + 1) P) mr (fun x m r => ∃ F' U' V' B' : Int → Int, x = y_dig P (F 1) ∧ m = (z_u (z_u (z_u (z_u (z_u (z_u (z_u (z_u mi (o + 2) X) (o + 3) L) (o + 4) M) (o + 5) U') (o + 6) V') (o + 7) B') o F') (o + 1) P) ∧ r = mr ∧ (∀ j, j ≠ 8 → j ≠ 10 → j ≠ 11 → j ≠ 12 → F' j = F j) ∧ (∀ j, 0 ≤ U' j ∧ U' j ≤ 9999)) := by
  obtain ⟨t0, t1, t2, t3, t4, t5, t6, t7, q0, q2, q3, q4, q5, q6, q7⟩ := id hM
  obtain ⟨hw0, hw1, hh0, hh1, hf0, hf1, hf2, hr0, hr1, hc0, hc1, hp0, hp1, hk0, hk1, hi0, hi1, hkp, hP⟩ := id hH
  have hcb0 := m_count_b hH
  refine z_ofl (ls := [some (zo o), none, none, none, none]) rfl (fun _ _ => trivial) ⟨rfl, rfl⟩ (Nat.le_of_ble_eq_true rfl) rfl ?_
  refine z_ldc2 (x := 43174) e_X5_digest_0 (z_tab 946 (by decide +kernel) rfl) ?_
  refine z_lstore_n (ls' := [some (zo o), some (zl (43174 : Int64)), none, none, none]) e_X5_digest_3 rfl rfl rfl ?_
  refine z_iconst e_X5_digest_4 ?_
  refine z_istore_n (ls' := [some (zo o), some (zl (43174 : Int64)), none, some (zi 0), none]) e_X5_digest_5 rfl rfl rfl ?_
  have loop6 : ∀ (nn : Nat) (w : Int) (h1 : Int64), (11 - w).toNat = nn → (0 ≤ w ∧ w ≤ 11 ∧ h1 = y_mixn (fun w => m_toldA P (F 1) w) w.toNat 43174) → z_A M_X5_digest E 0 0 6 [some (zo o), some (zl h1), none, some (zi w), none] [] (z_u (z_u (z_u (z_u (z_u (z_u (z_u (z_u mi (o + 2) X) (o + 3) L) (o + 4) M) (o + 5) U) (o + 6) V) (o + 7) B) o F) (o + 1) P) mr (z_ql E (fun x m r => ∃ F' U' V' B' : Int → Int, x = y_dig P (F 1) ∧ m = (z_u (z_u (z_u (z_u (z_u (z_u (z_u (z_u mi (o + 2) X) (o + 3) L) (o + 4) M) (o + 5) U') (o + 6) V') (o + 7) B') o F') (o + 1) P) ∧ r = mr ∧ (∀ j, j ≠ 8 → j ≠ 10 → j ≠ 11 → j ≠ 12 → F' j = F j) ∧ (∀ j, 0 ≤ U' j ∧ U' j ≤ 9999))) := by
    intro nn
    induction nn using Nat.strongRecOn with
    | _ nn ih6 =>
      intro w h1 hmeas hinv
      obtain ⟨hw9, hw8, hh1⟩ := hinv
      refine z_iload_n e_X5_digest_6 rfl ?_
      refine z_bipush e_X5_digest_7 (by decide +kernel) ?_
      refine z_icmp_gt e_X5_digest_9 ⟨by omega, by omega⟩ (by decide) (fun h9_1 => ?_) (fun h9_1 => ?_)
      · have e1 : h1 = y_dg1 P (F 1) := by rw [hh1, show w = 11 by omega]; rfl
        clear hh1
        refine z_iconst e_X5_digest_31 ?_
        refine z_istore_n (ls' := [some (zo o), some (zl h1), none, some (zi 0), none]) e_X5_digest_32 rfl rfl rfl ?_
        have loop33 : ∀ (nn : Nat) (k : Int) (h2 : Int64), (P 14 + P 1 - k).toNat = nn → (0 ≤ k ∧ k ≤ P 14 + P 1 ∧ h2 = y_nest (fun k h => y_mixn (fun w => m_ros P (m_slot P k) w) 4 h) k.toNat h1) → z_A M_X5_digest E 0 0 33 [some (zo o), some (zl h2), none, some (zi k), none] [] (z_u (z_u (z_u (z_u (z_u (z_u (z_u (z_u mi (o + 2) X) (o + 3) L) (o + 4) M) (o + 5) U) (o + 6) V) (o + 7) B) o F) (o + 1) P) mr (z_ql E (fun x m r => ∃ F' U' V' B' : Int → Int, x = y_dig P (F 1) ∧ m = (z_u (z_u (z_u (z_u (z_u (z_u (z_u (z_u mi (o + 2) X) (o + 3) L) (o + 4) M) (o + 5) U') (o + 6) V') (o + 7) B') o F') (o + 1) P) ∧ r = mr ∧ (∀ j, j ≠ 8 → j ≠ 10 → j ≠ 11 → j ≠ 12 → F' j = F j) ∧ (∀ j, 0 ≤ U' j ∧ U' j ≤ 9999))) := by
          intro nn
          induction nn using Nat.strongRecOn with
          | _ nn ih33 =>
            intro k h2 hmeas hinv
            obtain ⟨hk9, hk8, hh2⟩ := hinv
            refine z_iload_n e_X5_digest_33 rfl ?_
            refine z_aload_n e_X5_digest_34 rfl ?_
            refine z_getr (fi := 0) (r := some (o + 1)) e_X5_digest_35 f_RX5_7 t0 rfl rfl (q0) ?_
            refine z_bipush e_X5_digest_38 (by decide +kernel) ?_
            refine z_iald (x := (P 14)) e_X5_digest_40 t1 (by decide) (by decide) (by decide) (congrFun (z_us _ _ _) _) ?_
            refine z_aload_n e_X5_digest_41 rfl ?_
            refine z_getr (fi := 0) (r := some (o + 1)) e_X5_digest_42 f_RX5_7 t0 rfl rfl (q0) ?_
            refine z_iconst e_X5_digest_45 ?_
            refine z_iald (x := (P 1)) e_X5_digest_46 t1 (by decide) (by decide) (by decide) (congrFun (z_us _ _ _) _) ?_
            refine z_iadd e_X5_digest_47 ?_
            refine z_icmp_ge e_X5_digest_48 ⟨by omega, by omega⟩ ⟨by omega, by omega⟩ (fun h48_2 => ?_) (fun h48_2 => ?_)
            · have e2 : h2 = y_dg2 P h1 := by rw [hh2, show k = P 14 + P 1 by omega]; rfl
              clear hh2
              have hmul := y_mul_b (a := P 1) (b := P 0) (by omega) (by omega) (by omega) (by omega)
              refine z_iconst e_X5_digest_91 ?_
              refine z_istore_n (ls' := [some (zo o), some (zl h2), none, some (zi 0), none]) e_X5_digest_92 rfl rfl rfl ?_
              have loop93 : ∀ (nn : Nat) (k4 : Int) (h4 : Int64), (P 1 * P 0 - k4).toNat = nn → (0 ≤ k4 ∧ k4 ≤ P 1 * P 0 ∧ h4 = y_mixn (fun k => m_cellA P (k / P 0) (k % P 0)) k4.toNat h2) → z_A M_X5_digest E 0 0 93 [some (zo o), some (zl h4), none, some (zi k4), none] [] (z_u (z_u (z_u (z_u (z_u (z_u (z_u (z_u mi (o + 2) X) (o + 3) L) (o + 4) M) (o + 5) U) (o + 6) V) (o + 7) B) o F) (o + 1) P) mr (z_ql E (fun x m r => ∃ F' U' V' B' : Int → Int, x = y_dig P (F 1) ∧ m = (z_u (z_u (z_u (z_u (z_u (z_u (z_u (z_u mi (o + 2) X) (o + 3) L) (o + 4) M) (o + 5) U') (o + 6) V') (o + 7) B') o F') (o + 1) P) ∧ r = mr ∧ (∀ j, j ≠ 8 → j ≠ 10 → j ≠ 11 → j ≠ 12 → F' j = F j) ∧ (∀ j, 0 ≤ U' j ∧ U' j ≤ 9999))) := by
                intro nn
                induction nn using Nat.strongRecOn with
                | _ nn ih93 =>
                  intro k4 h4 hmeas hinv
                  obtain ⟨hy9, hy8, hh4⟩ := hinv
                  refine z_iload_n e_X5_digest_93 rfl ?_
                  refine z_aload_n e_X5_digest_94 rfl ?_
                  refine z_getr (fi := 0) (r := some (o + 1)) e_X5_digest_95 f_RX5_7 t0 rfl rfl (q0) ?_
                  refine z_iconst e_X5_digest_98 ?_
                  refine z_iald (x := (P 1)) e_X5_digest_99 t1 (by decide) (by decide) (by decide) (congrFun (z_us _ _ _) _) ?_
                  refine z_aload_n e_X5_digest_100 rfl ?_
                  refine z_getr (fi := 0) (r := some (o + 1)) e_X5_digest_101 f_RX5_7 t0 rfl rfl (q0) ?_
                  refine z_iconst e_X5_digest_104 ?_
                  refine z_iald (x := (P 0)) e_X5_digest_105 t1 (by decide) (by decide) (by decide) (congrFun (z_us _ _ _) _) ?_
                  refine z_imul e_X5_digest_106 ?_
                  refine z_icmp_ge e_X5_digest_107 ⟨by omega, by omega⟩ ⟨by omega, by omega⟩ (fun h107_3 => ?_) (fun h107_3 => ?_)
                  · have e4 : h4 = y_dg3 P h2 := by rw [hh4, show k4 = P 1 * P 0 by omega]; rfl
                    clear hh4
                    refine z_aload_n e_X5_digest_144 rfl ?_
                    refine z_lload_n e_X5_digest_145 rfl ?_
                    refine z_callVl (M' := M_X5_mixedLines) (As := [zl h4]) (rest := []) e_X5_digest_146 l_RX5_242 rfl rfl rfl rfl t0 ⟨_, _, rfl⟩ (c_X5_mixedLines hM hH) (fun xq mq rq hq => ?_)
                    obtain ⟨e1q, e2q, e3q⟩ := hq
                    subst xq mq rq
                    refine z_lstore_n (ls' := [some (zo o), some (zl (y_mls P (m_count P) 0 h4)), none, some (zi k4), none]) e_X5_digest_149 rfl rfl rfl ?_
                    refine z_iconst e_X5_digest_150 ?_
                    refine z_istore_n (ls' := [some (zo o), some (zl (y_mls P (m_count P) 0 h4)), none, some (zi 0), none]) e_X5_digest_151 rfl rfl rfl ?_
                    have loop152 : ∀ (nn : Nat) (k5 : Int) (h5 : Int64), (P 7 + 1 - k5).toNat = nn → (0 ≤ k5 ∧ k5 ≤ P 7 + 1 ∧ h5 = y_nest (fun k h => y_mixn (fun w => m_cur P k w) 4 h) k5.toNat (y_mls P (m_count P) 0 h4)) → z_A M_X5_digest E 0 0 152 [some (zo o), some (zl h5), none, some (zi k5), none] [] (z_u (z_u (z_u (z_u (z_u (z_u (z_u (z_u mi (o + 2) X) (o + 3) L) (o + 4) M) (o + 5) U) (o + 6) V) (o + 7) B) o F) (o + 1) P) mr (z_ql E (fun x m r => ∃ F' U' V' B' : Int → Int, x = y_dig P (F 1) ∧ m = (z_u (z_u (z_u (z_u (z_u (z_u (z_u (z_u mi (o + 2) X) (o + 3) L) (o + 4) M) (o + 5) U') (o + 6) V') (o + 7) B') o F') (o + 1) P) ∧ r = mr ∧ (∀ j, j ≠ 8 → j ≠ 10 → j ≠ 11 → j ≠ 12 → F' j = F j) ∧ (∀ j, 0 ≤ U' j ∧ U' j ≤ 9999))) := by
                      intro nn
                      induction nn using Nat.strongRecOn with
                      | _ nn ih152 =>
                        intro k5 h5 hmeas hinv
                        obtain ⟨hz9, hz8, hh5⟩ := hinv
                        refine z_iload_n e_X5_digest_152 rfl ?_
                        refine z_aload_n e_X5_digest_153 rfl ?_
                        refine z_getr (fi := 0) (r := some (o + 1)) e_X5_digest_154 f_RX5_7 t0 rfl rfl (q0) ?_
                        refine z_bipush e_X5_digest_157 (by decide +kernel) ?_
                        refine z_iald (x := (P 7)) e_X5_digest_159 t1 (by decide) (by decide) (by decide) (congrFun (z_us _ _ _) _) ?_
                        refine z_icmp_gt e_X5_digest_160 ⟨by omega, by omega⟩ ⟨by omega, by omega⟩ (fun h160_4 => ?_) (fun h160_4 => ?_)
                        · have e5 : h5 = y_dg5 P (y_mls P (m_count P) 0 h4) := by rw [hh5, show k5 = P 7 + 1 by omega]; rfl
                          clear hh5
                          refine z_iconst e_X5_digest_199 ?_
                          refine z_istore_n (ls' := [some (zo o), some (zl h5), none, some (zi 4), none]) e_X5_digest_200 rfl rfl rfl ?_
                          have loop201 : ∀ (nn : Nat) (c : Int) (h7 : Int64) (F1 : Int → Int) (U1 : Int → Int) (V1 : Int → Int) (B1 : Int → Int), (21 - c).toNat = nn → (4 ≤ c ∧ c ≤ 21 ∧ h7 = y_mixn (fun i => y_many P (4 + i)) (c - 4).toNat h5 ∧ (∀ j, 0 ≤ U1 j ∧ U1 j ≤ 9999) ∧ (∀ j, j ≠ 8 → j ≠ 10 → j ≠ 11 → j ≠ 12 → F1 j = F j)) → z_A M_X5_digest E 0 0 201 [some (zo o), some (zl h7), none, some (zi c), none] [] (z_u (z_u (z_u (z_u (z_u (z_u (z_u (z_u mi (o + 2) X) (o + 3) L) (o + 4) M) (o + 5) U1) (o + 6) V1) (o + 7) B1) o F1) (o + 1) P) mr (z_ql E (fun x m r => ∃ F' U' V' B' : Int → Int, x = y_dig P (F 1) ∧ m = (z_u (z_u (z_u (z_u (z_u (z_u (z_u (z_u mi (o + 2) X) (o + 3) L) (o + 4) M) (o + 5) U') (o + 6) V') (o + 7) B') o F') (o + 1) P) ∧ r = mr ∧ (∀ j, j ≠ 8 → j ≠ 10 → j ≠ 11 → j ≠ 12 → F' j = F j) ∧ (∀ j, 0 ≤ U' j ∧ U' j ≤ 9999))) := by
                            intro nn
                            induction nn using Nat.strongRecOn with
                            | _ nn ih201 =>
                              intro c h7 F1 U1 V1 B1 hmeas hinv
                              obtain ⟨hc9, hc8, hh7, hU1, hFF1⟩ := hinv
                              have e9 := hFF1 9 (by decide) (by decide) (by decide) (by decide)
                              refine z_iload_n e_X5_digest_201 rfl ?_
                              refine z_bipush e_X5_digest_202 (by decide +kernel) ?_
                              refine z_icmp_gt e_X5_digest_204 ⟨by omega, by omega⟩ (by decide) (fun h204_5 => ?_) (fun h204_5 => ?_)
                              · refine z_lload_n e_X5_digest_226 rfl ?_
                                refine z_lret e_X5_digest_227 rfl rfl rfl ⟨rfl, _, rfl, ?_⟩
                                refine ⟨_, _, _, _, ?_, rfl, rfl, hFF1, hU1⟩
                                have e7 : h7 = y_dg6 P h5 := by rw [hh7, show c = 21 by omega]; rfl
                                rw [e7, e5, e4, e2, e1]
                                rfl
                              · refine z_ldc2 (x := 31) e_X5_digest_207 (z_tab 947 (by decide +kernel) rfl) ?_
                                refine z_lload_n e_X5_digest_210 rfl ?_
                                refine z_lmul e_X5_digest_211 ?_
                                refine z_aload_n e_X5_digest_212 rfl ?_
                                refine z_iload_n e_X5_digest_213 rfl ?_
                                refine z_callVi (M' := M_X5_rowsWith) (As := [zi c]) (rest := [zl ((31 : Int64) * h7)]) e_X5_digest_214 l_RX5_211 rfl rfl rfl rfl t0 ⟨_, _, rfl⟩ (c_X5_rowsWith hM hH hL hMk hU1 (by omega) (by omega) (by omega) (by omega)) (fun xq mq rq hq => ?_)
                                obtain ⟨Fw71, Uw71, Vw71, Bw71, e1q, e2q, e3q, hxb71, hFw71, hUw71, hWw71, hBw71⟩ := hq
                                subst xq mq rq
                                refine z_i2l e_X5_digest_217 ?_
                                refine z_ladd e_X5_digest_218 ?_
                                refine z_lstore_n (ls' := [some (zo o), some (zl (((31 : Int64) * h7) + (z_I (y_many P c)).toInt64)), none, some (zi c), none]) e_X5_digest_219 rfl rfl rfl ?_
                                refine z_iinc (y := (c + 1)) (ls' := [some (zo o), some (zl (((31 : Int64) * h7) + (z_I (y_many P c)).toInt64)), none, some (zi (c + 1)), none]) e_X5_digest_220 rfl rfl rfl rfl rfl ?_
                                refine z_goto e_X5_digest_223 ?_
                                exact ih201 _ (by omega) (c + 1) (((31 : Int64) * h7) + (z_I (y_many P c)).toInt64) Fw71 Uw71 Vw71 Bw71 rfl (⟨by omega, by omega, by rw [show c + 1 - 4 = (c - 4) + 1 by omega, y_mixn_s _ (by omega), ← hh7]; show _ = y_mix h7 (y_many P (4 + (c - 4))); rw [show 4 + (c - 4) = c by omega]; rfl, hUw71, fun j g0 g1 g2 g3 => (hFw71 j g0 g1 g2 g3).trans (hFF1 j g0 g1 g2 g3)⟩)
                          exact loop201 _ 4 h5 F U V B rfl (⟨by omega, by omega, rfl, hU, fun j _ _ _ _ => rfl⟩)
                        · refine z_iconst e_X5_digest_163 ?_
                          refine z_istore (ls' := [some (zo o), some (zl h5), none, some (zi k5), some (zi 0)]) e_X5_digest_164 rfl rfl rfl ?_
                          have loop166 : ∀ (nn : Nat) (w6 : Int) (h6 : Int64), (4 - w6).toNat = nn → (0 ≤ w6 ∧ w6 ≤ 4 ∧ h6 = y_mixn (fun w => m_cur P k5 w) w6.toNat h5) → z_A M_X5_digest E 0 0 166 [some (zo o), some (zl h6), none, some (zi k5), some (zi w6)] [] (z_u (z_u (z_u (z_u (z_u (z_u (z_u (z_u mi (o + 2) X) (o + 3) L) (o + 4) M) (o + 5) U) (o + 6) V) (o + 7) B) o F) (o + 1) P) mr (z_ql E (fun x m r => ∃ F' U' V' B' : Int → Int, x = y_dig P (F 1) ∧ m = (z_u (z_u (z_u (z_u (z_u (z_u (z_u (z_u mi (o + 2) X) (o + 3) L) (o + 4) M) (o + 5) U') (o + 6) V') (o + 7) B') o F') (o + 1) P) ∧ r = mr ∧ (∀ j, j ≠ 8 → j ≠ 10 → j ≠ 11 → j ≠ 12 → F' j = F j) ∧ (∀ j, 0 ≤ U' j ∧ U' j ≤ 9999))) := by
                            intro nn
                            induction nn using Nat.strongRecOn with
                            | _ nn ih166 =>
                              intro w6 h6 hmeas hinv
                              obtain ⟨hv9, hv8, hh6⟩ := hinv
                              refine z_iload e_X5_digest_166 rfl ?_
                              refine z_iconst e_X5_digest_168 ?_
                              refine z_icmp_gt e_X5_digest_169 ⟨by omega, by omega⟩ (by decide) (fun h169_6 => ?_) (fun h169_6 => ?_)
                              · refine z_iinc (y := (k5 + 1)) (ls' := [some (zo o), some (zl h6), none, some (zi (k5 + 1)), some (zi w6)]) e_X5_digest_193 rfl rfl rfl rfl rfl ?_
                                refine z_goto e_X5_digest_196 ?_
                                refine z_fgt (ls' := [some (zo o), some (zl h6), none, some (zi (k5 + 1)), none]) ⟨rfl, rfl, rfl, trivial⟩ ?_
                                exact ih152 _ (by omega) (k5 + 1) h6 rfl (⟨by omega, by omega, by rw [y_nest_s _ (by omega), ← hh5, hh6, show w6 = 4 by omega]; rfl⟩)
                              · refine z_ldc2 (x := 31) e_X5_digest_172 (z_tab 947 (by decide +kernel) rfl) ?_
                                refine z_lload_n e_X5_digest_175 rfl ?_
                                refine z_lmul e_X5_digest_176 ?_
                                refine z_aload_n e_X5_digest_177 rfl ?_
                                refine z_iload_n e_X5_digest_178 rfl ?_
                                refine z_iload e_X5_digest_179 rfl ?_
                                refine z_callVi (M' := M_X5_cursorOf) (As := [zi k5, zi w6]) (rest := [zl ((31 : Int64) * h6)]) e_X5_digest_181 l_RX5_177 rfl rfl rfl rfl t0 ⟨_, _, rfl⟩ (c_X5_cursorOf hM hH (by omega) (by omega) ⟨by omega, by omega⟩) (fun xq mq rq hq => ?_)
                                obtain ⟨e1q, e2q, e3q⟩ := hq
                                subst xq mq rq
                                refine z_i2l e_X5_digest_184 ?_
                                refine z_ladd e_X5_digest_185 ?_
                                refine z_lstore_n (ls' := [some (zo o), some (zl (((31 : Int64) * h6) + (z_I (m_cur P k5 (if w6 < 0 ∨ 2 < w6 then 3 else w6))).toInt64)), none, some (zi k5), some (zi w6)]) e_X5_digest_186 rfl rfl rfl ?_
                                refine z_iinc (y := (w6 + 1)) (ls' := [some (zo o), some (zl (((31 : Int64) * h6) + (z_I (m_cur P k5 (if w6 < 0 ∨ 2 < w6 then 3 else w6))).toInt64)), none, some (zi k5), some (zi (w6 + 1))]) e_X5_digest_187 rfl rfl rfl rfl rfl ?_
                                refine z_goto e_X5_digest_190 ?_
                                exact ih166 _ (by omega) (w6 + 1) (((31 : Int64) * h6) + (z_I (m_cur P k5 (if w6 < 0 ∨ 2 < w6 then 3 else w6))).toInt64) rfl (⟨by omega, by omega, by rw [y_mixn_s _ (by omega), ← hh6, show (if w6 < 0 ∨ 2 < w6 then (3:Int) else w6) = w6 by split <;> omega]; rfl⟩)
                          exact loop166 _ 0 h5 rfl (⟨by omega, by omega, rfl⟩)
                    exact loop152 _ 0 (y_mls P (m_count P) 0 h4) rfl (⟨by omega, by omega, rfl⟩)
                  · have hdv := y_div_b (k := k4) (a := P 1) (b := P 0) hy9 (by omega) (by omega)
                    refine z_ldc2 (x := 31) e_X5_digest_110 (z_tab 947 (by decide +kernel) rfl) ?_
                    refine z_lload_n e_X5_digest_113 rfl ?_
                    refine z_lmul e_X5_digest_114 ?_
                    refine z_aload_n e_X5_digest_115 rfl ?_
                    refine z_iload_n e_X5_digest_116 rfl ?_
                    refine z_aload_n e_X5_digest_117 rfl ?_
                    refine z_getr (fi := 0) (r := some (o + 1)) e_X5_digest_118 f_RX5_7 t0 rfl rfl (q0) ?_
                    refine z_iconst e_X5_digest_121 ?_
                    refine z_iald (x := (P 0)) e_X5_digest_122 t1 (by decide) (by decide) (by decide) (congrFun (z_us _ _ _) _) ?_
                    refine z_idiv e_X5_digest_123 (by omega) (by omega) ⟨by omega, by omega⟩ ⟨by omega, by omega⟩ ?_
                    refine z_iload_n e_X5_digest_124 rfl ?_
                    refine z_aload_n e_X5_digest_125 rfl ?_
                    refine z_getr (fi := 0) (r := some (o + 1)) e_X5_digest_126 f_RX5_7 t0 rfl rfl (q0) ?_
                    refine z_iconst e_X5_digest_129 ?_
                    refine z_iald (x := (P 0)) e_X5_digest_130 t1 (by decide) (by decide) (by decide) (congrFun (z_us _ _ _) _) ?_
                    refine z_irem e_X5_digest_131 (by omega) (by omega) ⟨by omega, by omega⟩ ⟨by omega, by omega⟩ ?_
                    refine z_callVi (M' := M_X5_cell) (As := [zi (k4 / (P 0)), zi (k4 % (P 0))]) (rest := [zl ((31 : Int64) * h4)]) e_X5_digest_132 l_RX5_239 rfl rfl rfl rfl t0 ⟨_, _, rfl⟩ (c_X5_cell hM hH ⟨by omega, by omega⟩ ⟨by omega, by omega⟩) (fun xq mq rq hq => ?_)
                    obtain ⟨e1q, e2q, e3q⟩ := hq
                    subst xq mq rq
                    refine z_i2l e_X5_digest_135 ?_
                    refine z_ladd e_X5_digest_136 ?_
                    refine z_lstore_n (ls' := [some (zo o), some (zl (((31 : Int64) * h4) + (z_I (m_cellA P (k4 / (P 0)) (k4 % (P 0)))).toInt64)), none, some (zi k4), none]) e_X5_digest_137 rfl rfl rfl ?_
                    refine z_iinc (y := (k4 + 1)) (ls' := [some (zo o), some (zl (((31 : Int64) * h4) + (z_I (m_cellA P (k4 / (P 0)) (k4 % (P 0)))).toInt64)), none, some (zi (k4 + 1)), none]) e_X5_digest_138 rfl rfl rfl rfl rfl ?_
                    refine z_goto e_X5_digest_141 ?_
                    exact ih93 _ (by omega) (k4 + 1) (((31 : Int64) * h4) + (z_I (m_cellA P (k4 / (P 0)) (k4 % (P 0)))).toInt64) rfl (⟨by omega, by omega, by rw [y_mixn_s _ (by omega), ← hh4]; rfl⟩)
              exact loop93 _ 0 h2 rfl (⟨by omega, by omega, rfl⟩)
            · refine z_iconst e_X5_digest_51 ?_
              refine z_istore (ls' := [some (zo o), some (zl h2), none, some (zi k), some (zi 0)]) e_X5_digest_52 rfl rfl rfl ?_
              have loop54 : ∀ (nn : Nat) (w3 : Int) (h3 : Int64), (4 - w3).toNat = nn → (0 ≤ w3 ∧ w3 ≤ 4 ∧ h3 = y_mixn (fun w => m_ros P (m_slot P k) w) w3.toNat h2) → z_A M_X5_digest E 0 0 54 [some (zo o), some (zl h3), none, some (zi k), some (zi w3)] [] (z_u (z_u (z_u (z_u (z_u (z_u (z_u (z_u mi (o + 2) X) (o + 3) L) (o + 4) M) (o + 5) U) (o + 6) V) (o + 7) B) o F) (o + 1) P) mr (z_ql E (fun x m r => ∃ F' U' V' B' : Int → Int, x = y_dig P (F 1) ∧ m = (z_u (z_u (z_u (z_u (z_u (z_u (z_u (z_u mi (o + 2) X) (o + 3) L) (o + 4) M) (o + 5) U') (o + 6) V') (o + 7) B') o F') (o + 1) P) ∧ r = mr ∧ (∀ j, j ≠ 8 → j ≠ 10 → j ≠ 11 → j ≠ 12 → F' j = F j) ∧ (∀ j, 0 ≤ U' j ∧ U' j ≤ 9999))) := by
                intro nn
                induction nn using Nat.strongRecOn with
                | _ nn ih54 =>
                  intro w3 h3 hmeas hinv
                  obtain ⟨hx9, hx8, hh3⟩ := hinv
                  refine z_iload e_X5_digest_54 rfl ?_
                  refine z_iconst e_X5_digest_56 ?_
                  refine z_icmp_gt e_X5_digest_57 ⟨by omega, by omega⟩ (by decide) (fun h57_7 => ?_) (fun h57_7 => ?_)
                  · refine z_iinc (y := (k + 1)) (ls' := [some (zo o), some (zl h3), none, some (zi (k + 1)), some (zi w3)]) e_X5_digest_85 rfl rfl rfl rfl rfl ?_
                    refine z_goto e_X5_digest_88 ?_
                    refine z_fgt (ls' := [some (zo o), some (zl h3), none, some (zi (k + 1)), none]) ⟨rfl, rfl, rfl, trivial⟩ ?_
                    exact ih33 _ (by omega) (k + 1) h3 rfl (⟨by omega, by omega, by rw [y_nest_s _ (by omega), ← hh2, hh3, show w3 = 4 by omega]; rfl⟩)
                  · refine z_ldc2 (x := 31) e_X5_digest_60 (z_tab 947 (by decide +kernel) rfl) ?_
                    refine z_lload_n e_X5_digest_63 rfl ?_
                    refine z_lmul e_X5_digest_64 ?_
                    refine z_aload_n e_X5_digest_65 rfl ?_
                    refine z_aload_n e_X5_digest_66 rfl ?_
                    refine z_iload_n e_X5_digest_67 rfl ?_
                    refine z_callVi (M' := M_X5_slot) (As := [zi k]) (rest := [zo o, zl ((31 : Int64) * h3)]) e_X5_digest_68 l_RX5_130 rfl rfl rfl rfl t0 ⟨_, _, rfl⟩ (c_X5_slot hM hH ⟨by omega, by omega⟩) (fun xq mq rq hq => ?_)
                    obtain ⟨e1q, e2q, e3q⟩ := hq
                    subst xq mq rq
                    have hsb := m_slot_b (k := k) hH (by omega) (by omega)
                    refine z_iload e_X5_digest_71 rfl ?_
                    refine z_callVi (M' := M_X5_rowOfSlot) (As := [zi (m_slot P k), zi w3]) (rest := [zl ((31 : Int64) * h3)]) e_X5_digest_73 l_RX5_226 rfl rfl rfl rfl t0 ⟨_, _, rfl⟩ (c_X5_rowOfSlot hM hH (by omega) (by omega) (by omega) (by omega)) (fun xq mq rq hq => ?_)
                    obtain ⟨e1q, e2q, e3q⟩ := hq
                    subst xq mq rq
                    refine z_i2l e_X5_digest_76 ?_
                    refine z_ladd e_X5_digest_77 ?_
                    refine z_lstore_n (ls' := [some (zo o), some (zl (((31 : Int64) * h3) + (z_I (m_ros P (m_slot P k) w3)).toInt64)), none, some (zi k), some (zi w3)]) e_X5_digest_78 rfl rfl rfl ?_
                    refine z_iinc (y := (w3 + 1)) (ls' := [some (zo o), some (zl (((31 : Int64) * h3) + (z_I (m_ros P (m_slot P k) w3)).toInt64)), none, some (zi k), some (zi (w3 + 1))]) e_X5_digest_79 rfl rfl rfl rfl rfl ?_
                    refine z_goto e_X5_digest_82 ?_
                    exact ih54 _ (by omega) (w3 + 1) (((31 : Int64) * h3) + (z_I (m_ros P (m_slot P k) w3)).toInt64) rfl (⟨by omega, by omega, by rw [y_mixn_s _ (by omega), ← hh3]; rfl⟩)
              exact loop54 _ 0 h2 rfl (⟨by omega, by omega, rfl⟩)
        exact loop33 _ 0 h1 rfl (⟨by omega, by omega, rfl⟩)
      · refine z_ldc2 (x := 31) e_X5_digest_12 (z_tab 947 (by decide +kernel) rfl) ?_
        refine z_lload_n e_X5_digest_15 rfl ?_
        refine z_lmul e_X5_digest_16 ?_
        refine z_aload_n e_X5_digest_17 rfl ?_
        refine z_iload_n e_X5_digest_18 rfl ?_
        refine z_callVi (M' := M_X5_told) (As := [zi w]) (rest := [zl ((31 : Int64) * h1)]) e_X5_digest_19 l_RX5_236 rfl rfl rfl rfl t0 ⟨_, _, rfl⟩ (c_X5_told hM hH hF1 hF2 ⟨by omega, by omega⟩) (fun xq mq rq hq => ?_)
        obtain ⟨e1q, e2q, e3q⟩ := hq
        subst xq mq rq
        refine z_i2l e_X5_digest_22 ?_
        refine z_ladd e_X5_digest_23 ?_
        refine z_lstore_n (ls' := [some (zo o), some (zl (((31 : Int64) * h1) + (z_I (m_toldA P (F 1) w)).toInt64)), none, some (zi w), none]) e_X5_digest_24 rfl rfl rfl ?_
        refine z_iinc (y := (w + 1)) (ls' := [some (zo o), some (zl (((31 : Int64) * h1) + (z_I (m_toldA P (F 1) w)).toInt64)), none, some (zi (w + 1)), none]) e_X5_digest_25 rfl rfl rfl rfl rfl ?_
        refine z_goto e_X5_digest_28 ?_
        exact ih6 _ (by omega) (w + 1) (((31 : Int64) * h1) + (z_I (m_toldA P (F 1) w)).toInt64) rfl (⟨by omega, by omega, by rw [y_mixn_s _ (by omega), ← hh1]; rfl⟩)
  exact loop6 _ 0 43174 rfl (⟨by omega, by omega, rfl⟩)
