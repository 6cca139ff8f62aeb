set_option maxHeartbeats 1000000 in
set_option maxRecDepth 100000 in
theorem c_X5_counted {E : z_E} {mi : z_Mi} {mr : z_Mr} {o : Nat} {P : Int → Int} (hM : z_MO E mr o) (hH : p_hd P) : z_mi M_X5_counted E [zo o] (z_u mi (o + 1) P) mr (fun x m r => x = m_count P ∧ m = z_u mi (o + 1) P ∧ r = mr) := by
  obtain ⟨t0, t1, t2, t3, t4, t5, t6, t7, q0, q2, q3, q4, q5, q6, q7⟩ := id hM
  obtain ⟨hw0, hw1, hh0, hh1, hf0, hf1, hf2, hr0, hr1, hc0, hc1, hp0, hp1, hk0, hk1, hi0, hi1, hkp, hP⟩ := id hH
  refine z_ofi (ls := [some (zo o), none, none]) rfl (fun _ _ => trivial) ⟨rfl, rfl⟩ (Nat.le_of_ble_eq_true rfl) rfl ?_
  refine z_aload_n e_X5_counted_0 rfl ?_
  refine z_getr (fi := 0) (r := some (o + 1)) e_X5_counted_1 f_RX5_7 t0 rfl rfl (q0) ?_
  refine z_iconst e_X5_counted_4 ?_
  refine z_iald (x := (P 4)) e_X5_counted_5 t1 (by decide) (by decide) (by decide) (congrFun (z_us _ _ _) _) ?_
  refine z_istore_n (ls' := [some (zo o), some (zi (P 4)), none]) e_X5_counted_6 rfl rfl rfl ?_
  refine z_iconst e_X5_counted_7 ?_
  refine z_istore_n (ls' := [some (zo o), some (zi (P 4)), some (zi 0)]) e_X5_counted_8 rfl rfl rfl ?_
  have loop9 : ∀ (nn : Nat) (l : Int) (k : Int), (P 7 - k).toNat = nn → (0 ≤ k ∧ k ≤ P 7 ∧ l = m_lastk P k.toNat) → z_A M_X5_counted E 0 0 9 [some (zo o), some (zi l), some (zi k)] [] (z_u mi (o + 1) P) mr (z_qi E (fun x m r => x = m_count P ∧ m = z_u mi (o + 1) P ∧ r = mr)) := by
    intro nn
    induction nn using Nat.strongRecOn with
    | _ nn ih =>
      intro l k hmeas hinv
      obtain ⟨hl0, hl1, hl⟩ := hinv
      have hlb := m_lastk_b hH k.toNat (by omega)
      have hkb := hP (8 + 2 * k)
      refine z_iload_n e_X5_counted_9 rfl ?_
      refine z_aload_n e_X5_counted_10 rfl ?_
      refine z_getr (fi := 0) (r := some (o + 1)) e_X5_counted_11 f_RX5_7 t0 rfl rfl (q0) ?_
      refine z_bipush e_X5_counted_14 (by decide +kernel) ?_
      refine z_iald (x := (P 7)) e_X5_counted_16 t1 (by decide) (by decide) (by decide) (congrFun (z_us _ _ _) _) ?_
      refine z_icmp_ge e_X5_counted_17 ⟨by omega, by omega⟩ ⟨by omega, by omega⟩ (fun h17_1 => ?_) (fun h17_1 => ?_)
      · have hk : k = P 7 := by omega
        have hlk := (m_lastk_b hH (P 7).toNat (by omega)).2.1
        have hlk0 := (m_lastk_b hH (P 7).toNat (by omega)).1
        rw [hk] at hl
        refine z_iconst e_X5_counted_57 ?_
        refine z_istore_n (ls' := [some (zo o), some (zi l), some (zi 0)]) e_X5_counted_58 rfl rfl rfl ?_
        have loop59 : ∀ (nn : Nat) (l2 : Int) (q : Int), (P 1 - q).toNat = nn → (0 ≤ q ∧ q ≤ P 1 ∧ l2 = m_lastr P (m_lastk P (P 7).toNat) q.toNat) → z_A M_X5_counted E 0 0 59 [some (zo o), some (zi l2), some (zi q)] [] (z_u mi (o + 1) P) mr (z_qi E (fun x m r => x = m_count P ∧ m = z_u mi (o + 1) P ∧ r = mr)) := by
          intro nn
          induction nn using Nat.strongRecOn with
          | _ nn ih =>
            intro l2 q hmeas hinv
            obtain ⟨hq0, hq1, hl2⟩ := hinv
            have hlb2 := m_lastr_b (P := P) (l := m_lastk P (P 7).toNat) (H := P 1) q.toNat (by omega) hlk
            refine z_iload_n e_X5_counted_59 rfl ?_
            refine z_aload_n e_X5_counted_60 rfl ?_
            refine z_getr (fi := 0) (r := some (o + 1)) e_X5_counted_61 f_RX5_7 t0 rfl rfl (q0) ?_
            refine z_iconst e_X5_counted_64 ?_
            refine z_iald (x := (P 1)) e_X5_counted_65 t1 (by decide) (by decide) (by decide) (congrFun (z_us _ _ _) _) ?_
            refine z_icmp_ge e_X5_counted_66 ⟨by omega, by omega⟩ ⟨by omega, by omega⟩ (fun h66_2 => ?_) (fun h66_2 => ?_)
            · refine z_aload_n e_X5_counted_97 rfl ?_
              refine z_getr (fi := 0) (r := some (o + 1)) e_X5_counted_98 f_RX5_7 t0 rfl rfl (q0) ?_
              refine z_bipush e_X5_counted_101 (by decide +kernel) ?_
              refine z_iald (x := (P 14)) e_X5_counted_103 t1 (by decide) (by decide) (by decide) (congrFun (z_us _ _ _) _) ?_
              refine z_iload_n e_X5_counted_104 rfl ?_
              refine z_iadd e_X5_counted_105 ?_
              refine z_iconst e_X5_counted_106 ?_
              refine z_iadd e_X5_counted_107 ?_
              refine z_iret e_X5_counted_108 (Or.inl rfl) rfl rfl ⟨rfl, _, rfl, ?_⟩
              refine ⟨?_, rfl, rfl⟩
              unfold m_count m_last
              rw [hl2, show q = P 1 by omega]
            · refine z_iload_n e_X5_counted_69 rfl ?_
              refine z_iload_n e_X5_counted_70 rfl ?_
              refine z_icmp_le e_X5_counted_71 ⟨by omega, by omega⟩ ⟨by omega, by omega⟩ (fun h71_3 => ?_) (fun h71_3 => ?_)
              · refine z_iload_n e_X5_counted_89 rfl ?_
                refine z_istore_n (ls' := [some (zo o), some (zi l2), some (zi q)]) e_X5_counted_90 rfl rfl rfl ?_
                refine z_iinc (y := (q + 1)) (ls' := [some (zo o), some (zi l2), some (zi (q + 1))]) e_X5_counted_91 rfl rfl rfl rfl rfl ?_
                refine z_goto e_X5_counted_94 ?_
                exact ih _ (by omega) l2 (q + 1) rfl (⟨by omega, by omega, by rw [m_lastr_s _ _ hq0, ← hl2]; exact (if_neg (by omega)).symm⟩)
              · refine z_aload_n e_X5_counted_74 rfl ?_
                refine z_bipush e_X5_counted_75 (by decide +kernel) ?_
                refine z_iload_n e_X5_counted_77 rfl ?_
                refine z_iadd e_X5_counted_78 ?_
                refine z_callVi (M' := M_X5_filled) (As := [zi (24 + q)]) (rest := []) e_X5_counted_79 l_RX5_68 rfl rfl rfl rfl t0 ⟨_, _, rfl⟩ (c_X5_filled hM (by omega) (by omega) (by omega) (by omega) hP) (fun xq mq rq hq => ?_)
                obtain ⟨e1q, e2q, e3q⟩ := hq
                subst xq mq rq
                have hfb := m_fill_b (P := P) (s := (24 + q)) (by omega)
                refine z_if_le e_X5_counted_82 ⟨by omega, by omega⟩ (fun h82_4 => ?_) (fun h82_4 => ?_)
                · refine z_iload_n e_X5_counted_89 rfl ?_
                  refine z_istore_n (ls' := [some (zo o), some (zi l2), some (zi q)]) e_X5_counted_90 rfl rfl rfl ?_
                  refine z_iinc (y := (q + 1)) (ls' := [some (zo o), some (zi l2), some (zi (q + 1))]) e_X5_counted_91 rfl rfl rfl rfl rfl ?_
                  refine z_goto e_X5_counted_94 ?_
                  exact ih _ (by omega) l2 (q + 1) rfl (⟨by omega, by omega, by rw [m_lastr_s _ _ hq0, ← hl2]; exact (if_neg (by omega)).symm⟩)
                · refine z_iload_n e_X5_counted_85 rfl ?_
                  refine z_goto e_X5_counted_86 ?_
                  refine z_istore_n (ls' := [some (zo o), some (zi q), some (zi q)]) e_X5_counted_90 rfl rfl rfl ?_
                  refine z_iinc (y := (q + 1)) (ls' := [some (zo o), some (zi q), some (zi (q + 1))]) e_X5_counted_91 rfl rfl rfl rfl rfl ?_
                  refine z_goto e_X5_counted_94 ?_
                  exact ih _ (by omega) q (q + 1) rfl (⟨by omega, by omega, by rw [m_lastr_s _ _ hq0, ← hl2]; exact (if_pos ⟨by omega, by omega⟩).symm⟩)
        exact loop59 _ l 0 rfl (⟨by omega, by omega, hl⟩)
      · refine z_aload_n e_X5_counted_20 rfl ?_
        refine z_getr (fi := 0) (r := some (o + 1)) e_X5_counted_21 f_RX5_7 t0 rfl rfl (q0) ?_
        refine z_bipush e_X5_counted_24 (by decide +kernel) ?_
        refine z_iconst e_X5_counted_26 ?_
        refine z_iload_n e_X5_counted_27 rfl ?_
        refine z_imul e_X5_counted_28 ?_
        refine z_iadd e_X5_counted_29 ?_
        refine z_iald (x := (P (8 + (2 * k)))) e_X5_counted_30 t1 (by decide) (by omega) (by omega) (congrFun (z_us _ _ _) _) ?_
        refine z_iload_n e_X5_counted_31 rfl ?_
        refine z_icmp_le e_X5_counted_32 ⟨by omega, by omega⟩ ⟨by omega, by omega⟩ (fun h32_5 => ?_) (fun h32_5 => ?_)
        · refine z_iload_n e_X5_counted_49 rfl ?_
          refine z_istore_n (ls' := [some (zo o), some (zi l), some (zi k)]) e_X5_counted_50 rfl rfl rfl ?_
          refine z_iinc (y := (k + 1)) (ls' := [some (zo o), some (zi l), some (zi (k + 1))]) e_X5_counted_51 rfl rfl rfl rfl rfl ?_
          refine z_goto e_X5_counted_54 ?_
          exact ih _ (by omega) l (k + 1) rfl (⟨by omega, by omega, by rw [m_lastk_s _ hl0, ← hl]; exact (if_neg (by omega)).symm⟩)
        · refine z_aload_n e_X5_counted_35 rfl ?_
          refine z_getr (fi := 0) (r := some (o + 1)) e_X5_counted_36 f_RX5_7 t0 rfl rfl (q0) ?_
          refine z_bipush e_X5_counted_39 (by decide +kernel) ?_
          refine z_iconst e_X5_counted_41 ?_
          refine z_iload_n e_X5_counted_42 rfl ?_
          refine z_imul e_X5_counted_43 ?_
          refine z_iadd e_X5_counted_44 ?_
          refine z_iald (x := (P (8 + (2 * k)))) e_X5_counted_45 t1 (by decide) (by omega) (by omega) (congrFun (z_us _ _ _) _) ?_
          refine z_goto e_X5_counted_46 ?_
          refine z_istore_n (ls' := [some (zo o), some (zi (P (8 + (2 * k)))), some (zi k)]) e_X5_counted_50 rfl rfl rfl ?_
          refine z_iinc (y := (k + 1)) (ls' := [some (zo o), some (zi (P (8 + (2 * k)))), some (zi (k + 1))]) e_X5_counted_51 rfl rfl rfl rfl rfl ?_
          refine z_goto e_X5_counted_54 ?_
          exact ih _ (by omega) (P (8 + (2 * k))) (k + 1) rfl (⟨by omega, by omega, by rw [m_lastk_s _ hl0, ← hl]; exact (if_pos (by omega)).symm⟩)
  exact loop9 _ (P 4) 0 rfl (⟨by omega, by omega, rfl⟩)
set_option maxHeartbeats 1000000 in
set_option maxRecDepth 100000 in
theorem c_X5_slot {E : z_E} {mi : z_Mi} {mr : z_Mr} {o : Nat} {P : Int → Int} {k : Int} (hM : z_MO E mr o) (hH : p_hd P) (hz : z_R k) : z_mi M_X5_slot E [zo o, zi k] (z_u mi (o + 1) P) mr (fun x m r => x = m_slot P k ∧ m = z_u mi (o + 1) P ∧ r = mr) := by
  obtain ⟨t0, t1, t2, t3, t4, t5, t6, t7, q0, q2, q3, q4, q5, q6, q7⟩ := id hM
  obtain ⟨hw0, hw1, hh0, hh1, hf0, hf1, hf2, hr0, hr1, hc0, hc1, hp0, hp1, hk0, hk1, hi0, hi1, hkp, hP⟩ := id hH
  refine z_ofi (ls := [some (zo o), some (zi k)]) rfl (fun _ _ => trivial) ⟨rfl, rfl⟩ (Nat.le_of_ble_eq_true rfl) rfl ?_
  refine z_iload_n e_X5_slot_0 rfl ?_
  refine z_aload_n e_X5_slot_1 rfl ?_
  refine z_getr (fi := 0) (r := some (o + 1)) e_X5_slot_2 f_RX5_7 t0 rfl rfl (q0) ?_
  refine z_bipush e_X5_slot_5 (by decide +kernel) ?_
  refine z_iald (x := (P 14)) e_X5_slot_7 t1 (by decide) (by decide) (by decide) (congrFun (z_us _ _ _) _) ?_
  refine z_icmp_ge e_X5_slot_8 ⟨by omega, by omega⟩ ⟨by omega, by omega⟩ (fun h8_1 => ?_) (fun h8_1 => ?_)
  · refine z_bipush e_X5_slot_15 (by decide +kernel) ?_
    refine z_iload_n e_X5_slot_17 rfl ?_
    refine z_iadd e_X5_slot_18 ?_
    refine z_aload_n e_X5_slot_19 rfl ?_
    refine z_getr (fi := 0) (r := some (o + 1)) e_X5_slot_20 f_RX5_7 t0 rfl rfl (q0) ?_
    refine z_bipush e_X5_slot_23 (by decide +kernel) ?_
    refine z_iald (x := (P 14)) e_X5_slot_25 t1 (by decide) (by decide) (by decide) (congrFun (z_us _ _ _) _) ?_
    refine z_isub e_X5_slot_26 ?_
    refine z_iret e_X5_slot_27 (Or.inl rfl) rfl rfl ⟨rfl, _, rfl, ?_⟩
    refine ⟨?_, rfl, rfl⟩
    exact (if_neg (by omega)).symm
  · refine z_iload_n e_X5_slot_11 rfl ?_
    refine z_goto e_X5_slot_12 ?_
    refine z_iret e_X5_slot_27 (Or.inl rfl) rfl rfl ⟨rfl, _, rfl, ?_⟩
    refine ⟨?_, rfl, rfl⟩
    exact (if_pos (by omega)).symm
set_option maxHeartbeats 1000000 in
set_option maxRecDepth 100000 in
theorem c_X5_lineEnd {E : z_E} {mi : z_Mi} {mr : z_Mr} {o : Nat} {P : Int → Int} {k n : Int} (hM : z_MO E mr o) (hH : p_hd P) (h0 : 0 ≤ k) (h1 : k < n) (h2 : n ≤ P 14 + 8) : z_mi M_X5_lineEnd E [zo o, zi k, zi n] (z_u mi (o + 1) P) mr (fun x m r => x = m_lend P n k ∧ m = z_u mi (o + 1) P ∧ r = mr) := by
  obtain ⟨t0, t1, t2, t3, t4, t5, t6, t7, q0, q2, q3, q4, q5, q6, q7⟩ := id hM
  obtain ⟨hw0, hw1, hh0, hh1, hf0, hf1, hf2, hr0, hr1, hc0, hc1, hp0, hp1, hk0, hk1, hi0, hi1, hkp, hP⟩ := id hH
  refine z_ofi (ls := [some (zo o), some (zi k), some (zi n), none]) rfl (fun _ _ => trivial) ⟨rfl, rfl⟩ (Nat.le_of_ble_eq_true rfl) rfl ?_
  refine z_iload_n e_X5_lineEnd_0 rfl ?_
  refine z_istore_n (ls' := [some (zo o), some (zi k), some (zi n), some (zi k)]) e_X5_lineEnd_1 rfl rfl rfl ?_
  have loop2 : ∀ (nn : Nat) (e : Int), (n - e).toNat = nn → (k ≤ e ∧ e < n ∧ ∀ j, k ≤ j → j < e → ¬ m_ends P n j) → z_A M_X5_lineEnd E 0 0 2 [some (zo o), some (zi k), some (zi n), some (zi e)] [] (z_u mi (o + 1) P) mr (z_qi E (fun x m r => x = m_lend P n k ∧ m = z_u mi (o + 1) P ∧ r = mr)) := by
    intro nn
    induction nn using Nat.strongRecOn with
    | _ nn ih =>
      intro e hmeas hinv
      obtain ⟨hl0, hl1, hl2⟩ := hinv
      refine z_iload_n e_X5_lineEnd_2 rfl ?_
      refine z_iconst e_X5_lineEnd_3 ?_
      refine z_iadd e_X5_lineEnd_4 ?_
      refine z_iload_n e_X5_lineEnd_5 rfl ?_
      refine z_icmp_ge e_X5_lineEnd_6 ⟨by omega, by omega⟩ ⟨by omega, by omega⟩ (fun h6_1 => ?_) (fun h6_1 => ?_)
      · refine z_iload_n e_X5_lineEnd_29 rfl ?_
        refine z_iret e_X5_lineEnd_30 (Or.inl rfl) rfl rfl ⟨rfl, _, rfl, ?_⟩
        refine ⟨?_, rfl, rfl⟩
        exact (m_lend_eq hl0 hl1 (by first | exact Or.inl (by omega) | exact Or.inr (by assumption)) hl2).symm
      · refine z_aload_n e_X5_lineEnd_9 rfl ?_
        refine z_aload_n e_X5_lineEnd_10 rfl ?_
        refine z_iload_n e_X5_lineEnd_11 rfl ?_
        refine z_callVi (M' := M_X5_slot) (As := [zi e]) (rest := [zo o]) e_X5_lineEnd_12 l_RX5_130 rfl rfl rfl rfl t0 ⟨_, _, rfl⟩ (c_X5_slot hM hH ⟨by omega, by omega⟩) (fun xq mq rq hq => ?_)
        obtain ⟨e1q, e2q, e3q⟩ := hq
        subst xq mq rq
        have hsb := m_slot_b (k := e) hH (by omega) (by omega)
        refine z_bipush e_X5_lineEnd_15 (by decide +kernel) ?_
        have hbs := hP (15 + 22 * m_slot P e + 20)
        refine z_callVi (M' := M_X5_isIt) (As := [zi (m_slot P e), zi 20]) (rest := []) e_X5_lineEnd_17 l_RX5_133 rfl rfl rfl rfl t0 ⟨_, _, rfl⟩ (c_X5_isIt hM (by omega) (by omega) ⟨by omega, by omega⟩) (fun xq mq rq hq => ?_)
        obtain ⟨e1q, e2q, e3q⟩ := hq
        subst xq mq rq
        refine z_if_eqB e_X5_lineEnd_20  (fun h20_2 => ?_) (fun h20_2 => ?_)
        · refine z_iload_n e_X5_lineEnd_29 rfl ?_
          refine z_iret e_X5_lineEnd_30 (Or.inl rfl) rfl rfl ⟨rfl, _, rfl, ?_⟩
          refine ⟨?_, rfl, rfl⟩
          exact (m_lend_eq hl0 hl1 (by first | exact Or.inl (by omega) | exact Or.inr (by assumption)) hl2).symm
        · refine z_iinc (y := (e + 1)) (ls' := [some (zo o), some (zi k), some (zi n), some (zi (e + 1))]) e_X5_lineEnd_23 rfl rfl rfl rfl rfl ?_
          refine z_goto e_X5_lineEnd_26 ?_
          exact ih _ (by omega) (e + 1) rfl (⟨by omega, by omega, fun j g0 g1 => by
                by_cases hj : j = e
                · rw [hj]; rintro (h8 | h8)
                  · omega
                  · exact h8 (by assumption)
                · exact hl2 j g0 (by omega)⟩)
  exact loop2 _ k rfl (⟨by omega, by omega, fun j g0 g1 => absurd g0 (by omega)⟩)
set_option maxHeartbeats 1000000 in
set_option maxRecDepth 100000 in
theorem c_X5_lineBegin {E : z_E} {mi : z_Mi} {mr : z_Mr} {o : Nat} {P : Int → Int} {line n : Int} (hM : z_MO E mr o) (hH : p_hd P) (h0 : 0 ≤ line) (hz : z_R line) (h1 : 0 ≤ n) (h2 : n ≤ P 14 + 8) : z_mi M_X5_lineBegin E [zo o, zi line, zi n] (z_u mi (o + 1) P) mr (fun x m r => x = m_lbeg P n line ∧ m = z_u mi (o + 1) P ∧ r = mr) := by
  obtain ⟨t0, t1, t2, t3, t4, t5, t6, t7, q0, q2, q3, q4, q5, q6, q7⟩ := id hM
  obtain ⟨hw0, hw1, hh0, hh1, hf0, hf1, hf2, hr0, hr1, hc0, hc1, hp0, hp1, hk0, hk1, hi0, hi1, hkp, hP⟩ := id hH
  refine z_ofi (ls := [some (zo o), some (zi line), some (zi n), none, none]) rfl (fun _ _ => trivial) ⟨rfl, rfl⟩ (Nat.le_of_ble_eq_true rfl) rfl ?_
  refine z_iconst e_X5_lineBegin_0 ?_
  refine z_istore_n (ls' := [some (zo o), some (zi line), some (zi n), some (zi 0), none]) e_X5_lineBegin_1 rfl rfl rfl ?_
  refine z_iconst e_X5_lineBegin_2 ?_
  refine z_istore (ls' := [some (zo o), some (zi line), some (zi n), some (zi 0), some (zi 0)]) e_X5_lineBegin_3 rfl rfl rfl ?_
  have loop5 : ∀ (nn : Nat) (k : Int) (i : Int), (n - k).toNat = nn → (0 ≤ k ∧ k ≤ n ∧ 0 ≤ i ∧ i ≤ line ∧ m_lno P n k = i ∧ m_beg P n k) → z_A M_X5_lineBegin E 0 0 5 [some (zo o), some (zi line), some (zi n), some (zi k), some (zi i)] [] (z_u mi (o + 1) P) mr (z_qi E (fun x m r => x = m_lbeg P n line ∧ m = z_u mi (o + 1) P ∧ r = mr)) := by
    intro nn
    induction nn using Nat.strongRecOn with
    | _ nn ih =>
      intro k i hmeas hinv
      obtain ⟨hl0, hl1, hl2, hl3, hl4, hl5⟩ := hinv
      have hnb := m_lno_b P n k hl0
      refine z_iload e_X5_lineBegin_5 rfl ?_
      refine z_iload_n e_X5_lineBegin_7 rfl ?_
      refine z_icmp_ge e_X5_lineBegin_8 ⟨by omega, by omega⟩ ⟨by omega, by omega⟩ (fun h8_1 => ?_) (fun h8_1 => ?_)
      · refine z_iload_n e_X5_lineBegin_31 rfl ?_
        refine z_iret e_X5_lineBegin_32 (Or.inl rfl) rfl rfl ⟨rfl, _, rfl, ?_⟩
        refine ⟨?_, rfl, rfl⟩
        exact (m_lbeg_eq hl0 hl1 hl5 (by first | exact Or.inl (by omega) | exact Or.inr ⟨by omega, by omega⟩)).symm
      · refine z_iload_n e_X5_lineBegin_11 rfl ?_
        refine z_iload_n e_X5_lineBegin_12 rfl ?_
        refine z_icmp_ge e_X5_lineBegin_13 ⟨by omega, by omega⟩ ⟨by omega, by omega⟩ (fun h13_2 => ?_) (fun h13_2 => ?_)
        · refine z_iload_n e_X5_lineBegin_31 rfl ?_
          refine z_iret e_X5_lineBegin_32 (Or.inl rfl) rfl rfl ⟨rfl, _, rfl, ?_⟩
          refine ⟨?_, rfl, rfl⟩
          exact (m_lbeg_eq hl0 hl1 hl5 (by first | exact Or.inl (by omega) | exact Or.inr ⟨by omega, by omega⟩)).symm
        · refine z_aload_n e_X5_lineBegin_16 rfl ?_
          refine z_iload_n e_X5_lineBegin_17 rfl ?_
          refine z_iload_n e_X5_lineBegin_18 rfl ?_
          refine z_callVi (M' := M_X5_lineEnd) (As := [zi k, zi n]) (rest := []) e_X5_lineBegin_19 l_RX5_137 rfl rfl rfl rfl t0 ⟨_, _, rfl⟩ (c_X5_lineEnd hM hH (by omega) (by omega) (by omega)) (fun xq mq rq hq => ?_)
          obtain ⟨e1q, e2q, e3q⟩ := hq
          subst xq mq rq
          have hle := m_lend_spec (P := P) (n := n) (k := k) (by omega)
          have hle1 := hle.1
          have hle2 := hle.2.1
          refine z_iconst e_X5_lineBegin_22 ?_
          refine z_iadd e_X5_lineBegin_23 ?_
          refine z_istore_n (ls' := [some (zo o), some (zi line), some (zi n), some (zi ((m_lend P n k) + 1)), some (zi i)]) e_X5_lineBegin_24 rfl rfl rfl ?_
          refine z_iinc (y := (i + 1)) (ls' := [some (zo o), some (zi line), some (zi n), some (zi ((m_lend P n k) + 1)), some (zi (i + 1))]) e_X5_lineBegin_25 rfl rfl rfl rfl rfl ?_
          refine z_goto e_X5_lineBegin_28 ?_
          exact ih _ (by omega) ((m_lend P n k) + 1) (i + 1) rfl (⟨by omega, by omega, by omega, by omega, by rw [m_lno_next (by omega) (by omega), hl4], Or.inr (by rw [show m_lend P n k + 1 - 1 = m_lend P n k by omega]; exact hle.2.2.1)⟩)
  exact loop5 _ 0 0 rfl (⟨by omega, by omega, by omega, by omega, rfl, Or.inl rfl⟩)
set_option maxHeartbeats 1000000 in
set_option maxRecDepth 100000 in
theorem c_X5_lines {E : z_E} {mi : z_Mi} {mr : z_Mr} {o : Nat} {P : Int → Int} (hM : z_MO E mr o) (hH : p_hd P) : z_mi M_X5_lines E [zo o] (z_u mi (o + 1) P) mr (fun x m r => x = m_lno P (m_count P) (m_count P) ∧ m = z_u mi (o + 1) P ∧ r = mr) := by
  obtain ⟨t0, t1, t2, t3, t4, t5, t6, t7, q0, q2, q3, q4, q5, q6, q7⟩ := id hM
  obtain ⟨hw0, hw1, hh0, hh1, hf0, hf1, hf2, hr0, hr1, hc0, hc1, hp0, hp1, hk0, hk1, hi0, hi1, hkp, hP⟩ := id hH
  refine z_ofi (ls := [some (zo o), none, none, none]) rfl (fun _ _ => trivial) ⟨rfl, rfl⟩ (Nat.le_of_ble_eq_true rfl) rfl ?_
  refine z_aload_n e_X5_lines_0 rfl ?_
  refine z_callVi (M' := M_X5_counted) (As := []) (rest := []) e_X5_lines_1 l_RX5_140 rfl rfl rfl rfl t0 ⟨_, _, rfl⟩ (c_X5_counted hM hH) (fun xq mq rq hq => ?_)
  obtain ⟨e1q, e2q, e3q⟩ := hq
  subst xq mq rq
  have hcb := m_count_b hH
  refine z_istore_n (ls' := [some (zo o), some (zi (m_count P)), none, none]) e_X5_lines_4 rfl rfl rfl ?_
  refine z_iconst e_X5_lines_5 ?_
  refine z_istore_n (ls' := [some (zo o), some (zi (m_count P)), some (zi 0), none]) e_X5_lines_6 rfl rfl rfl ?_
  refine z_iconst e_X5_lines_7 ?_
  refine z_istore_n (ls' := [some (zo o), some (zi (m_count P)), some (zi 0), some (zi 0)]) e_X5_lines_8 rfl rfl rfl ?_
  have loop9 : ∀ (nn : Nat) (i : Int) (k : Int), (m_count P - k).toNat = nn → (0 ≤ k ∧ k ≤ m_count P ∧ m_lno P (m_count P) k = i) → z_A M_X5_lines E 0 0 9 [some (zo o), some (zi (m_count P)), some (zi i), some (zi k)] [] (z_u mi (o + 1) P) mr (z_qi E (fun x m r => x = m_lno P (m_count P) (m_count P) ∧ m = z_u mi (o + 1) P ∧ r = mr)) := by
    intro nn
    induction nn using Nat.strongRecOn with
    | _ nn ih =>
      intro i k hmeas hinv
      obtain ⟨hl0, hl1, hl2⟩ := hinv
      refine z_iload_n e_X5_lines_9 rfl ?_
      refine z_iload_n e_X5_lines_10 rfl ?_
      refine z_icmp_ge e_X5_lines_11 ⟨by omega, by omega⟩ ⟨by omega, by omega⟩ (fun h11_1 => ?_) (fun h11_1 => ?_)
      · refine z_iload_n e_X5_lines_29 rfl ?_
        refine z_iret e_X5_lines_30 (Or.inl rfl) rfl rfl ⟨rfl, _, rfl, ?_⟩
        refine ⟨?_, rfl, rfl⟩
        rw [← hl2, show k = m_count P by omega]
      · refine z_iinc (y := (i + 1)) (ls' := [some (zo o), some (zi (m_count P)), some (zi (i + 1)), some (zi k)]) e_X5_lines_14 rfl rfl rfl rfl rfl ?_
        refine z_aload_n e_X5_lines_17 rfl ?_
        refine z_iload_n e_X5_lines_18 rfl ?_
        refine z_iload_n e_X5_lines_19 rfl ?_
        refine z_callVi (M' := M_X5_lineEnd) (As := [zi k, zi (m_count P)]) (rest := []) e_X5_lines_20 l_RX5_137 rfl rfl rfl rfl t0 ⟨_, _, rfl⟩ (c_X5_lineEnd hM hH (by omega) (by omega) (by omega)) (fun xq mq rq hq => ?_)
        obtain ⟨e1q, e2q, e3q⟩ := hq
        subst xq mq rq
        have hle := m_lend_spec (P := P) (n := (m_count P)) (k := k) (by omega)
        have hle1 := hle.1
        have hle2 := hle.2.1
        refine z_iconst e_X5_lines_23 ?_
        refine z_iadd e_X5_lines_24 ?_
        refine z_istore_n (ls' := [some (zo o), some (zi (m_count P)), some (zi (i + 1)), some (zi ((m_lend P (m_count P) k) + 1))]) e_X5_lines_25 rfl rfl rfl ?_
        refine z_goto e_X5_lines_26 ?_
        exact ih _ (by omega) (i + 1) ((m_lend P (m_count P) k) + 1) rfl (⟨by omega, by omega, by rw [m_lno_next (by omega) (by omega), hl2]⟩)
  exact loop9 _ 0 0 rfl (⟨by omega, by omega, rfl⟩)
set_option maxHeartbeats 1000000 in
set_option maxRecDepth 100000 in
theorem c_X5_cellsOf {E : z_E} {mi : z_Mi} {mr : z_Mr} {o : Nat} {P : Int → Int} {k e : Int} (hM : z_MO E mr o) (hH : p_hd P) (h0 : 0 ≤ k) (h1 : k < P 14 + 8) (hz : z_R e) : z_mi M_X5_cellsOf E [zo o, zi k, zi e] (z_u mi (o + 1) P) mr (fun x m r => x = m_cells P k e ∧ m = z_u mi (o + 1) P ∧ r = mr) := by
  obtain ⟨t0, t1, t2, t3, t4, t5, t6, t7, q0, q2, q3, q4, q5, q6, q7⟩ := id hM
  obtain ⟨hw0, hw1, hh0, hh1, hf0, hf1, hf2, hr0, hr1, hc0, hc1, hp0, hp1, hk0, hk1, hi0, hi1, hkp, hP⟩ := id hH
  refine z_ofi (ls := [some (zo o), some (zi k), some (zi e)]) rfl (fun _ _ => trivial) ⟨rfl, rfl⟩ (Nat.le_of_ble_eq_true rfl) rfl ?_
  refine z_iload_n e_X5_cellsOf_0 rfl ?_
  refine z_iload_n e_X5_cellsOf_1 rfl ?_
  refine z_icmp_ne e_X5_cellsOf_2 ⟨by omega, by omega⟩ ⟨by omega, by omega⟩ (fun h2_1 => ?_) (fun h2_1 => ?_)
  · refine z_aload_n e_X5_cellsOf_17 rfl ?_
    refine z_aload_n e_X5_cellsOf_18 rfl ?_
    refine z_iload_n e_X5_cellsOf_19 rfl ?_
    refine z_callVi (M' := M_X5_slot) (As := [zi k]) (rest := [zo o]) e_X5_cellsOf_20 l_RX5_130 rfl rfl rfl rfl t0 ⟨_, _, rfl⟩ (c_X5_slot hM hH ⟨by omega, by omega⟩) (fun xq mq rq hq => ?_)
    obtain ⟨e1q, e2q, e3q⟩ := hq
    subst xq mq rq
    have hsb := m_slot_b (k := k) hH (by omega) (by omega)
    have hbs := hP (15 + 22 * m_slot P k + 21)
    refine z_bipush e_X5_cellsOf_23 (by decide +kernel) ?_
    have hbs := hP (15 + 22 * m_slot P k + 21)
    refine z_callVi (M' := M_X5_isIt) (As := [zi (m_slot P k), zi 21]) (rest := []) e_X5_cellsOf_25 l_RX5_133 rfl rfl rfl rfl t0 ⟨_, _, rfl⟩ (c_X5_isIt hM (by omega) (by omega) ⟨by omega, by omega⟩) (fun xq mq rq hq => ?_)
    obtain ⟨e1q, e2q, e3q⟩ := hq
    subst xq mq rq
    refine z_if_eqB e_X5_cellsOf_28  (fun h28_2 => ?_) (fun h28_2 => ?_)
    · refine z_aload_n e_X5_cellsOf_42 rfl ?_
      refine z_getr (fi := 0) (r := some (o + 1)) e_X5_cellsOf_43 f_RX5_7 t0 rfl rfl (q0) ?_
      refine z_iconst e_X5_cellsOf_46 ?_
      refine z_iald (x := (P 0)) e_X5_cellsOf_47 t1 (by decide) (by decide) (by decide) (congrFun (z_us _ _ _) _) ?_
      refine z_iret e_X5_cellsOf_48 (Or.inl rfl) rfl rfl ⟨rfl, _, rfl, ?_⟩
      refine ⟨?_, rfl, rfl⟩
      unfold m_cells
      rw [if_neg (by assumption), if_neg (by assumption)]
    · refine z_aload_n e_X5_cellsOf_31 rfl ?_
      refine z_getr (fi := 0) (r := some (o + 1)) e_X5_cellsOf_32 f_RX5_7 t0 rfl rfl (q0) ?_
      refine z_iconst e_X5_cellsOf_35 ?_
      refine z_iald (x := (P 0)) e_X5_cellsOf_36 t1 (by decide) (by decide) (by decide) (congrFun (z_us _ _ _) _) ?_
      refine z_iconst e_X5_cellsOf_37 ?_
      refine z_isub e_X5_cellsOf_38 ?_
      refine z_goto e_X5_cellsOf_39 ?_
      refine z_iret e_X5_cellsOf_48 (Or.inl rfl) rfl rfl ⟨rfl, _, rfl, ?_⟩
      refine ⟨?_, rfl, rfl⟩
      unfold m_cells
      rw [if_neg (by assumption), if_pos (by assumption)]
  · refine z_aload_n e_X5_cellsOf_5 rfl ?_
    refine z_aload_n e_X5_cellsOf_6 rfl ?_
    refine z_iload_n e_X5_cellsOf_7 rfl ?_
    refine z_callVi (M' := M_X5_slot) (As := [zi k]) (rest := [zo o]) e_X5_cellsOf_8 l_RX5_130 rfl rfl rfl rfl t0 ⟨_, _, rfl⟩ (c_X5_slot hM hH ⟨by omega, by omega⟩) (fun xq mq rq hq => ?_)
    obtain ⟨e1q, e2q, e3q⟩ := hq
    subst xq mq rq
    have hsb := m_slot_b (k := k) hH (by omega) (by omega)
    refine z_callVi (M' := M_X5_usedCells) (As := [zi (m_slot P k)]) (rest := []) e_X5_cellsOf_11 l_RX5_143 rfl rfl rfl rfl t0 ⟨_, _, rfl⟩ (c_X5_usedCells hM (by omega) (by omega) (by omega) (by omega) hP) (fun xq mq rq hq => ?_)
    obtain ⟨e1q, e2q, e3q⟩ := hq
    subst xq mq rq
    have hub := m_used_b (P := P) (s := (m_slot P k)) (by omega)
    refine z_goto e_X5_cellsOf_14 ?_
    refine z_iret e_X5_cellsOf_48 (Or.inl rfl) rfl rfl ⟨rfl, _, rfl, ?_⟩
    refine ⟨?_, rfl, rfl⟩
    unfold m_cells
    rw [if_pos (by assumption)]
set_option maxHeartbeats 1000000 in
set_option maxRecDepth 100000 in
theorem c_X5_signsIn {E : z_E} {mi : z_Mi} {mr : z_Mr} {o : Nat} {P : Int → Int} {s t : Int} (hM : z_MO E mr o) (hH : p_hd P) (h0 : 0 ≤ s) (h1 : s ≤ 31) (h2 : 0 ≤ t) (h3 : t ≤ 20) : z_mi M_X5_signsIn E [zo o, zi s, zi t] (z_u mi (o + 1) P) mr (fun x m r => x = m_sin P s t ∧ m = z_u mi (o + 1) P ∧ r = mr) := by
  obtain ⟨t0, t1, t2, t3, t4, t5, t6, t7, q0, q2, q3, q4, q5, q6, q7⟩ := id hM
  obtain ⟨hw0, hw1, hh0, hh1, hf0, hf1, hf2, hr0, hr1, hc0, hc1, hp0, hp1, hk0, hk1, hi0, hi1, hkp, hP⟩ := id hH
  refine z_ofi (ls := [some (zo o), some (zi s), some (zi t), none, none]) rfl (fun _ _ => trivial) ⟨rfl, rfl⟩ (Nat.le_of_ble_eq_true rfl) rfl ?_
  refine z_iconst e_X5_signsIn_0 ?_
  refine z_istore_n (ls' := [some (zo o), some (zi s), some (zi t), some (zi 0), none]) e_X5_signsIn_1 rfl rfl rfl ?_
  refine z_iconst e_X5_signsIn_2 ?_
  refine z_istore (ls' := [some (zo o), some (zi s), some (zi t), some (zi 0), some (zi 0)]) e_X5_signsIn_3 rfl rfl rfl ?_
  have loop5 : ∀ (nn : Nat) (n : Int) (c : Int), (t - c).toNat = nn → (0 ≤ c ∧ c ≤ t ∧ n = m_sin P s c) → z_A M_X5_signsIn E 0 0 5 [some (zo o), some (zi s), some (zi t), some (zi n), some (zi c)] [] (z_u mi (o + 1) P) mr (z_qi E (fun x m r => x = m_sin P s t ∧ m = z_u mi (o + 1) P ∧ r = mr)) := by
    intro nn
    induction nn using Nat.strongRecOn with
    | _ nn ih =>
      intro n c hmeas hinv
      obtain ⟨hl0, hl1, hn⟩ := hinv
      refine z_iload e_X5_signsIn_5 rfl ?_
      refine z_iload_n e_X5_signsIn_7 rfl ?_
      refine z_icmp_ge e_X5_signsIn_8 ⟨by omega, by omega⟩ ⟨by omega, by omega⟩ (fun h8_1 => ?_) (fun h8_1 => ?_)
      · refine z_iload_n e_X5_signsIn_38 rfl ?_
        refine z_iret e_X5_signsIn_39 (Or.inl rfl) rfl rfl ⟨rfl, _, rfl, ?_⟩
        refine ⟨?_, rfl, rfl⟩
        rw [hn, show c = t by omega]
      · refine z_iload_n e_X5_signsIn_11 rfl ?_
        refine z_aload_n e_X5_signsIn_12 rfl ?_
        refine z_iload_n e_X5_signsIn_13 rfl ?_
        refine z_iload e_X5_signsIn_14 rfl ?_
        refine z_callVi (M' := M_X5_code) (As := [zi s, zi c]) (rest := [zi n]) e_X5_signsIn_16 l_RX5_51 rfl rfl rfl rfl t0 ⟨_, _, rfl⟩ (c_X5_code hM (by omega) (by omega)) (fun xq mq rq hq => ?_)
        obtain ⟨e1q, e2q, e3q⟩ := hq
        subst xq mq rq
        have hbq := hP (15 + 22 * s + c)
        refine z_callSi (M' := M_X5_isRight) (As := [zi (P (15 + 22 * s + c))]) (rest := [zi n]) e_X5_signsIn_19 l_RX5_54 rfl rfl rfl rfl (c_X5_isRight ⟨by omega, by omega⟩) (fun xq mq rq hq => ?_)
        obtain ⟨e1q, e2q, e3q⟩ := hq
        subst xq mq rq
        refine z_if_eqB e_X5_signsIn_22  (fun h22_2 => ?_) (fun h22_2 => ?_)
        · refine z_iconst e_X5_signsIn_29 ?_
          refine z_iadd e_X5_signsIn_30 ?_
          refine z_istore_n (ls' := [some (zo o), some (zi s), some (zi t), some (zi (n + 1)), some (zi c)]) e_X5_signsIn_31 rfl rfl rfl ?_
          refine z_iinc (y := (c + 1)) (ls' := [some (zo o), some (zi s), some (zi t), some (zi (n + 1)), some (zi (c + 1))]) e_X5_signsIn_32 rfl rfl rfl rfl rfl ?_
          refine z_goto e_X5_signsIn_35 ?_
          exact ih _ (by omega) (n + 1) (c + 1) rfl (⟨by omega, by omega, by rw [hn]; unfold m_sin; rw [n_cnt_s _ hl0, if_pos (by assumption)]⟩)
        · refine z_iconst e_X5_signsIn_25 ?_
          refine z_goto e_X5_signsIn_26 ?_
          refine z_iadd e_X5_signsIn_30 ?_
          refine z_istore_n (ls' := [some (zo o), some (zi s), some (zi t), some (zi (n + 0)), some (zi c)]) e_X5_signsIn_31 rfl rfl rfl ?_
          refine z_iinc (y := (c + 1)) (ls' := [some (zo o), some (zi s), some (zi t), some (zi (n + 0)), some (zi (c + 1))]) e_X5_signsIn_32 rfl rfl rfl rfl rfl ?_
          refine z_goto e_X5_signsIn_35 ?_
          exact ih _ (by omega) (n + 0) (c + 1) rfl (⟨by omega, by omega, by rw [hn]; unfold m_sin; rw [n_cnt_s _ hl0, if_neg (fun hx => hx (by assumption))]⟩)
  exact loop5 _ 0 0 rfl (⟨by omega, by omega, rfl⟩)
set_option maxHeartbeats 1000000 in
set_option maxRecDepth 100000 in
theorem c_X5_signsOf {E : z_E} {mi : z_Mi} {mr : z_Mr} {o : Nat} {P : Int → Int} {b e : Int} (hM : z_MO E mr o) (hH : p_hd P) (h0 : 0 ≤ b) (h1 : b ≤ e) (h2 : e < P 14 + 8) : z_mi M_X5_signsOf E [zo o, zi b, zi e] (z_u mi (o + 1) P) mr (fun x m r => x = m_signs P b e ∧ m = z_u mi (o + 1) P ∧ r = mr) := by
  obtain ⟨t0, t1, t2, t3, t4, t5, t6, t7, q0, q2, q3, q4, q5, q6, q7⟩ := id hM
  obtain ⟨hw0, hw1, hh0, hh1, hf0, hf1, hf2, hr0, hr1, hc0, hc1, hp0, hp1, hk0, hk1, hi0, hi1, hkp, hP⟩ := id hH
  refine z_ofi (ls := [some (zo o), some (zi b), some (zi e), none, none]) rfl (fun _ _ => trivial) ⟨rfl, rfl⟩ (Nat.le_of_ble_eq_true rfl) rfl ?_
  refine z_iconst e_X5_signsOf_0 ?_
  refine z_istore_n (ls' := [some (zo o), some (zi b), some (zi e), some (zi 0), none]) e_X5_signsOf_1 rfl rfl rfl ?_
  refine z_iload_n e_X5_signsOf_2 rfl ?_
  refine z_istore (ls' := [some (zo o), some (zi b), some (zi e), some (zi 0), some (zi b)]) e_X5_signsOf_3 rfl rfl rfl ?_
  have loop5 : ∀ (nn : Nat) (n : Int) (k : Int), (e + 1 - k).toNat = nn → (b ≤ k ∧ k ≤ e + 1 ∧ n = m_sgn P e b (k - b).toNat) → z_A M_X5_signsOf E 0 0 5 [some (zo o), some (zi b), some (zi e), some (zi n), some (zi k)] [] (z_u mi (o + 1) P) mr (z_qi E (fun x m r => x = m_signs P b e ∧ m = z_u mi (o + 1) P ∧ r = mr)) := by
    intro nn
    induction nn using Nat.strongRecOn with
    | _ nn ih =>
      intro n k hmeas hinv
      obtain ⟨hl0, hl1, hn⟩ := hinv
      refine z_iload e_X5_signsOf_5 rfl ?_
      refine z_iload_n e_X5_signsOf_7 rfl ?_
      refine z_icmp_gt e_X5_signsOf_8 ⟨by omega, by omega⟩ ⟨by omega, by omega⟩ (fun h8_1 => ?_) (fun h8_1 => ?_)
      · refine z_iload_n e_X5_signsOf_37 rfl ?_
        refine z_iret e_X5_signsOf_38 (Or.inl rfl) rfl rfl ⟨rfl, _, rfl, ?_⟩
        refine ⟨?_, rfl, rfl⟩
        rw [hn, show k = e + 1 by omega]
        rfl
      · refine z_iload_n e_X5_signsOf_11 rfl ?_
        refine z_aload_n e_X5_signsOf_12 rfl ?_
        refine z_aload_n e_X5_signsOf_13 rfl ?_
        refine z_iload e_X5_signsOf_14 rfl ?_
        refine z_callVi (M' := M_X5_slot) (As := [zi k]) (rest := [zo o, zi n]) e_X5_signsOf_16 l_RX5_130 rfl rfl rfl rfl t0 ⟨_, _, rfl⟩ (c_X5_slot hM hH ⟨by omega, by omega⟩) (fun xq mq rq hq => ?_)
        obtain ⟨e1q, e2q, e3q⟩ := hq
        subst xq mq rq
        have hsb := m_slot_b (k := k) hH (by omega) (by omega)
        refine z_aload_n e_X5_signsOf_19 rfl ?_
        refine z_iload e_X5_signsOf_20 rfl ?_
        refine z_iload_n e_X5_signsOf_22 rfl ?_
        refine z_callVi (M' := M_X5_cellsOf) (As := [zi k, zi e]) (rest := [zi (m_slot P k), zo o, zi n]) e_X5_signsOf_23 l_RX5_146 rfl rfl rfl rfl t0 ⟨_, _, rfl⟩ (c_X5_cellsOf hM hH (by omega) (by omega) ⟨by omega, by omega⟩) (fun xq mq rq hq => ?_)
        obtain ⟨e1q, e2q, e3q⟩ := hq
        subst xq mq rq
        have hceb := m_cells_b (k := k) (e := e) hH
        refine z_callVi (M' := M_X5_signsIn) (As := [zi (m_slot P k), zi (m_cells P k e)]) (rest := [zi n]) e_X5_signsOf_26 l_RX5_149 rfl rfl rfl rfl t0 ⟨_, _, rfl⟩ (c_X5_signsIn hM hH (by omega) (by omega) (by omega) (by omega)) (fun xq mq rq hq => ?_)
        obtain ⟨e1q, e2q, e3q⟩ := hq
        subst xq mq rq
        have hsib := m_sin_b P (m_slot P k) (m_cells P k e) (by omega)
        refine z_iadd e_X5_signsOf_29 ?_
        refine z_istore_n (ls' := [some (zo o), some (zi b), some (zi e), some (zi (n + (m_sin P (m_slot P k) (m_cells P k e)))), some (zi k)]) e_X5_signsOf_30 rfl rfl rfl ?_
        refine z_iinc (y := (k + 1)) (ls' := [some (zo o), some (zi b), some (zi e), some (zi (n + (m_sin P (m_slot P k) (m_cells P k e)))), some (zi (k + 1))]) e_X5_signsOf_31 rfl rfl rfl rfl rfl ?_
        refine z_goto e_X5_signsOf_34 ?_
        exact ih _ (by omega) (n + (m_sin P (m_slot P k) (m_cells P k e))) (k + 1) rfl (⟨by omega, by omega, by rw [hn, show k + 1 - b = (k - b) + 1 by omega]; unfold m_sgn; rw [n_sum_s _ (by omega), show b + (k - b) = k by omega]; rfl⟩)
  exact loop5 _ 0 b rfl (⟨by omega, by omega, by rw [show (b - b).toNat = 0 by omega]; rfl⟩)
set_option maxHeartbeats 1000000 in
set_option maxRecDepth 100000 in
theorem c_X5_lineOf {E : z_E} {mi : z_Mi} {mr : z_Mr} {o : Nat} {P : Int → Int} {b e what : Int} (hM : z_MO E mr o) (hH : p_hd P) (h0 : 0 ≤ b) (h1 : b ≤ e) (h2 : e < P 14 + 8) (hz : z_R what) : z_mi M_X5_lineOf E [zo o, zi b, zi e, zi what] (z_u mi (o + 1) P) mr (fun x m r => x = m_lof P b e what ∧ m = z_u mi (o + 1) P ∧ r = mr) := by
  obtain ⟨t0, t1, t2, t3, t4, t5, t6, t7, q0, q2, q3, q4, q5, q6, q7⟩ := id hM
  obtain ⟨hw0, hw1, hh0, hh1, hf0, hf1, hf2, hr0, hr1, hc0, hc1, hp0, hp1, hk0, hk1, hi0, hi1, hkp, hP⟩ := id hH
  refine z_ofi (ls := [some (zo o), some (zi b), some (zi e), some (zi what), none, none]) rfl (fun _ _ => trivial) ⟨rfl, rfl⟩ (Nat.le_of_ble_eq_true rfl) rfl ?_
  refine z_iload_n e_X5_lineOf_0 rfl ?_
  refine z_iload_n e_X5_lineOf_1 rfl ?_
  refine z_isub e_X5_lineOf_2 ?_
  refine z_iconst e_X5_lineOf_3 ?_
  refine z_iadd e_X5_lineOf_4 ?_
  refine z_istore (ls' := [some (zo o), some (zi b), some (zi e), some (zi what), some (zi ((e - b) + 1)), none]) e_X5_lineOf_5 rfl rfl rfl ?_
  refine z_aload_n e_X5_lineOf_7 rfl ?_
  refine z_getr (fi := 0) (r := some (o + 1)) e_X5_lineOf_8 f_RX5_7 t0 rfl rfl (q0) ?_
  refine z_bipush e_X5_lineOf_11 (by decide +kernel) ?_
  refine z_iald (x := (P 14)) e_X5_lineOf_13 t1 (by decide) (by decide) (by decide) (congrFun (z_us _ _ _) _) ?_
  refine z_iload_n e_X5_lineOf_14 rfl ?_
  refine z_isub e_X5_lineOf_15 ?_
  refine z_istore (ls' := [some (zo o), some (zi b), some (zi e), some (zi what), some (zi ((e - b) + 1)), some (zi ((P 14) - b))]) e_X5_lineOf_16 rfl rfl rfl ?_
  refine z_iload_n e_X5_lineOf_18 rfl ?_
  refine z_if_ne e_X5_lineOf_19 ⟨by omega, by omega⟩ (fun h19_1 => ?_) (fun h19_1 => ?_)
  · refine z_iload_n e_X5_lineOf_31 rfl ?_
    refine z_iconst e_X5_lineOf_32 ?_
    refine z_icmp_ne e_X5_lineOf_33 ⟨by omega, by omega⟩ (by decide) (fun h33_2 => ?_) (fun h33_2 => ?_)
    · refine z_iload e_X5_lineOf_41 rfl ?_
      refine z_if_ge e_X5_lineOf_43 ⟨by omega, by omega⟩ (fun h43_3 => ?_) (fun h43_3 => ?_)
      · refine z_iload e_X5_lineOf_50 rfl ?_
        refine z_iload e_X5_lineOf_52 rfl ?_
        refine z_icmp_ge e_X5_lineOf_54 ⟨by omega, by omega⟩ ⟨by omega, by omega⟩ (fun h54_4 => ?_) (fun h54_4 => ?_)
        · refine z_iload e_X5_lineOf_62 rfl ?_
          refine z_iret e_X5_lineOf_64 (Or.inl rfl) rfl rfl ⟨rfl, _, rfl, ?_⟩
          refine ⟨?_, rfl, rfl⟩
          unfold m_lof
          grind
        · refine z_iload e_X5_lineOf_57 rfl ?_
          refine z_goto e_X5_lineOf_59 ?_
          refine z_iret e_X5_lineOf_64 (Or.inl rfl) rfl rfl ⟨rfl, _, rfl, ?_⟩
          refine ⟨?_, rfl, rfl⟩
          unfold m_lof
          grind
      · refine z_iconst e_X5_lineOf_46 ?_
        refine z_goto e_X5_lineOf_47 ?_
        refine z_iret e_X5_lineOf_64 (Or.inl rfl) rfl rfl ⟨rfl, _, rfl, ?_⟩
        refine ⟨?_, rfl, rfl⟩
        unfold m_lof
        grind
    · refine z_iload e_X5_lineOf_36 rfl ?_
      refine z_goto e_X5_lineOf_38 ?_
      refine z_iret e_X5_lineOf_64 (Or.inl rfl) rfl rfl ⟨rfl, _, rfl, ?_⟩
      refine ⟨?_, rfl, rfl⟩
      unfold m_lof
      grind
  · refine z_aload_n e_X5_lineOf_22 rfl ?_
    refine z_iload_n e_X5_lineOf_23 rfl ?_
    refine z_iload_n e_X5_lineOf_24 rfl ?_
    refine z_callVi (M' := M_X5_signsOf) (As := [zi b, zi e]) (rest := []) e_X5_lineOf_25 l_RX5_152 rfl rfl rfl rfl t0 ⟨_, _, rfl⟩ (c_X5_signsOf hM hH (by omega) (by omega) (by omega)) (fun xq mq rq hq => ?_)
    obtain ⟨e1q, e2q, e3q⟩ := hq
    subst xq mq rq
    refine z_goto e_X5_lineOf_28 ?_
    refine z_iret e_X5_lineOf_64 (Or.inl rfl) rfl rfl ⟨rfl, _, rfl, ?_⟩
    refine ⟨?_, rfl, rfl⟩
    unfold m_lof
    grind
