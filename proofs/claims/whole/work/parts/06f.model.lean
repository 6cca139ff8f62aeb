set_option maxHeartbeats 1000000 in
set_option maxRecDepth 100000 in
theorem c_X5_poursAll {E : z_E} {mi : z_Mi} {mr : z_Mr} {o : Nat} {P F X L M U V B : Int → Int} (hM : z_MO E mr o) (hH : p_hd P) (hL : ∀ j, -9 ≤ L j ∧ L j ≤ 99) (hMk : ∀ j, -9 ≤ M j ∧ M j ≤ 9999) (hf : F 10 = 0 ∨ F 10 = 1) (hw0 : 4 ≤ F 8) (hw1 : F 8 ≤ 20) (hb0 : 0 ≤ F 9) (hb1 : F 9 ≤ 9999) (hr : F 10 = 1 → (y_run P L M (F, X, U, V, B)).1 11 - F 9 ≤ 32) : z_mi M_X5_poursAll E [zo o] (z_u (z_u (z_u (z_u (z_u (z_u (z_u (z_u mi (o + 2) X) (o + 3) L) (o + 4) M) (o + 5) U) (o + 6) V) (o + 7) B) o F) (o + 1) P) mr (fun x m r => x = (y_run P L M (F, X, U, V, B)).1 11 ∧ m = (z_u (z_u (z_u (z_u (z_u (z_u (z_u (z_u mi (o + 2) (y_run P L M (F, X, U, V, B)).2.1) (o + 3) L) (o + 4) M) (o + 5) (y_run P L M (F, X, U, V, B)).2.2.1) (o + 6) (y_run P L M (F, X, U, V, B)).2.2.2.1) (o + 7) (y_run P L M (F, X, U, V, B)).2.2.2.2) o (y_run P L M (F, X, U, V, B)).1) (o + 1) P) ∧ r = mr ∧ (0 ≤ x ∧ x ≤ 704)) := by
  obtain ⟨t0, t1, t2, t3, t4, t5, t6, t7, q0, q2, q3, q4, q5, q6, q7⟩ := id hM
  obtain ⟨hw0, hw1, hh0, hh1, hf0, hf1, hf2, hr0, hr1, hc0, hc1, hp0, hp1, hk0, hk1, hi0, hi1, hkp, hP⟩ := id hH
  have hcb0 := m_count_b hH
  refine z_ofi (ls := [some (zo o), none, none, none, none, none, none, none, none, none]) rfl (fun _ _ => trivial) ⟨rfl, rfl⟩ (Nat.le_of_ble_eq_true rfl) rfl ?_
  refine z_aload_n e_X5_poursAll_0 rfl ?_
  refine z_callVi (M' := M_X5_counted) (As := []) (rest := []) e_X5_poursAll_1 l_RX5_140 rfl rfl rfl rfl t0 ⟨_, _, rfl⟩ (c_X5_counted hM hH) (fun xq mq rq hq => ?_)
  obtain ⟨e1q, e2q, e3q⟩ := hq
  subst xq mq rq
  have hcb := m_count_b hH
  refine z_istore_n (ls' := [some (zo o), some (zi (m_count P)), none, none, none, none, none, none, none, none]) e_X5_poursAll_4 rfl rfl rfl ?_
  refine z_iconst e_X5_poursAll_5 ?_
  refine z_istore_n (ls' := [some (zo o), some (zi (m_count P)), some (zi 0), none, none, none, none, none, none, none]) e_X5_poursAll_6 rfl rfl rfl ?_
  refine z_aload_n e_X5_poursAll_7 rfl ?_
  refine z_iconst e_X5_poursAll_8 ?_
  refine z_putiX (fi := 11) (f := F) e_X5_poursAll_9 f_RX5_180 t0 rfl rfl (Or.inl rfl) (((z_un (by omega)).trans (z_us _ _ _))) (z_ux (by omega) (z_uu _ _ _ _)) ?_
  refine z_iconst e_X5_poursAll_12 ?_
  refine z_istore_n (ls' := [some (zo o), some (zi (m_count P)), some (zi 0), some (zi 0), none, none, none, none, none, none]) e_X5_poursAll_13 rfl rfl rfl ?_
  have loop14 : ∀ (nn : Nat) (b : Int) (line : Int) (F1 : Int → Int) (X1 : Int → Int) (U1 : Int → Int) (V1 : Int → Int) (B1 : Int → Int), (m_count P - b).toNat = nn → (0 ≤ b ∧ b ≤ m_count P ∧ 0 ≤ line ∧ line ≤ b ∧ y_all L M line (y_ll P (m_count P) b) (F1, X1, U1, V1, B1) = (y_run P L M (F, X, U, V, B)) ∧ (F1 8 = F 8 ∧ F1 9 = F 9 ∧ F1 10 = F 10) ∧ 0 ≤ F1 11 ∧ F1 11 ≤ 22 * b) → z_A M_X5_poursAll E 0 0 14 [some (zo o), some (zi (m_count P)), some (zi line), some (zi b), none, none, none, none, none, none] [] (z_u (z_u (z_u (z_u (z_u (z_u (z_u (z_u mi (o + 2) X1) (o + 3) L) (o + 4) M) (o + 5) U1) (o + 6) V1) (o + 7) B1) o F1) (o + 1) P) mr (z_qi E (fun x m r => x = (y_run P L M (F, X, U, V, B)).1 11 ∧ m = (z_u (z_u (z_u (z_u (z_u (z_u (z_u (z_u mi (o + 2) (y_run P L M (F, X, U, V, B)).2.1) (o + 3) L) (o + 4) M) (o + 5) (y_run P L M (F, X, U, V, B)).2.2.1) (o + 6) (y_run P L M (F, X, U, V, B)).2.2.2.1) (o + 7) (y_run P L M (F, X, U, V, B)).2.2.2.2) o (y_run P L M (F, X, U, V, B)).1) (o + 1) P) ∧ r = mr ∧ (0 ≤ x ∧ x ≤ 704))) := by
    intro nn
    induction nn using Nat.strongRecOn with
    | _ nn ih14 =>
      intro b line F1 X1 U1 V1 B1 hmeas hinv
      obtain ⟨hi1a, hi1b, hi1c, hi1d, hG, ⟨k8, k9, k10⟩, hi1e, hi1f⟩ := hinv
      refine z_iload_n e_X5_poursAll_14 rfl ?_
      refine z_iload_n e_X5_poursAll_15 rfl ?_
      refine z_icmp_ge e_X5_poursAll_16 ⟨by omega, by omega⟩ ⟨by omega, by omega⟩ (fun h16_1 => ?_) (fun h16_1 => ?_)
      · rw [y_ll_e (by omega)] at hG
        have hG : (F1, X1, U1, V1, B1) = (y_run P L M (F, X, U, V, B)) := hG
        refine z_aload_n e_X5_poursAll_169 rfl ?_
        refine z_geti (fi := 11) (x := (F1 11)) e_X5_poursAll_170 f_RX5_180 t0 rfl rfl (congrFun (((z_un (by omega)).trans (z_us _ _ _))) _) ?_
        refine z_iret e_X5_poursAll_173 (Or.inl rfl) rfl rfl ⟨rfl, _, rfl, ?_⟩
        rw [← hG]
        exact ⟨rfl, rfl, rfl, by omega, by omega⟩
      · refine z_aload_n e_X5_poursAll_19 rfl ?_
        refine z_iload_n e_X5_poursAll_20 rfl ?_
        refine z_iload_n e_X5_poursAll_21 rfl ?_
        refine z_callVi (M' := M_X5_lineEnd) (As := [zi b, zi (m_count P)]) (rest := []) e_X5_poursAll_22 l_RX5_137 rfl rfl rfl rfl t0 ⟨_, _, rfl⟩ (c_X5_lineEnd hM hH (by omega) (by omega) (by omega)) (fun xq mq rq hq => ?_)
        obtain ⟨e1q, e2q, e3q⟩ := hq
        subst xq mq rq
        have hle := m_lend_spec (P := P) (n := (m_count P)) (k := b) (by omega)
        have hle1 := hle.1
        have hle2 := hle.2.1
        refine z_istore (ls' := [some (zo o), some (zi (m_count P)), some (zi line), some (zi b), some (zi (m_lend P (m_count P) b)), none, none, none, none, none]) e_X5_poursAll_25 rfl rfl rfl ?_
        refine z_iconst e_X5_poursAll_27 ?_
        refine z_istore (ls' := [some (zo o), some (zi (m_count P)), some (zi line), some (zi b), some (zi (m_lend P (m_count P) b)), some (zi 0), none, none, none, none]) e_X5_poursAll_28 rfl rfl rfl ?_
        refine z_aload_n e_X5_poursAll_30 rfl ?_
        refine z_iconst e_X5_poursAll_31 ?_
        refine z_putiX (fi := 12) (f := F1) e_X5_poursAll_32 f_RX5_190 t0 rfl rfl (Or.inl rfl) (((z_un (by omega)).trans (z_us _ _ _))) (z_ux (by omega) (z_uu _ _ _ _)) ?_
        refine z_iload_n e_X5_poursAll_35 rfl ?_
        refine z_istore (ls' := [some (zo o), some (zi (m_count P)), some (zi line), some (zi b), some (zi (m_lend P (m_count P) b)), some (zi 0), some (zi b), none, none, none]) e_X5_poursAll_36 rfl rfl rfl ?_
        have loop38 : ∀ (nn : Nat) (row : Int) (signs : Int) (F2 : Int → Int) (X2 : Int → Int) (U2 : Int → Int) (V2 : Int → Int) (B2 : Int → Int), ((m_lend P (m_count P) b) + 1 - row).toNat = nn → (b ≤ row ∧ row ≤ (m_lend P (m_count P) b) + 1 ∧ 0 ≤ signs ∧ signs ≤ 22 * row ∧ y_all L M (line + 1) (y_ll P (m_count P) ((m_lend P (m_count P) b) + 1)) (y_rest L M line signs (m_ss P (m_lend P (m_count P) b) row ((m_lend P (m_count P) b) + 1 - row).toNat) (F2, X2, U2, V2, B2)) = (y_run P L M (F, X, U, V, B)) ∧ (F2 8 = F 8 ∧ F2 9 = F 9 ∧ F2 10 = F 10) ∧ 0 ≤ F2 11 ∧ F2 11 ≤ 22 * b + 21 * (row - b) ∧ 0 ≤ F2 12 ∧ F2 12 ≤ F2 8) → z_A M_X5_poursAll E 0 0 38 [some (zo o), some (zi (m_count P)), some (zi line), some (zi b), some (zi (m_lend P (m_count P) b)), some (zi signs), some (zi row), none, none, none] [] (z_u (z_u (z_u (z_u (z_u (z_u (z_u (z_u mi (o + 2) X2) (o + 3) L) (o + 4) M) (o + 5) U2) (o + 6) V2) (o + 7) B2) o F2) (o + 1) P) mr (z_qi E (fun x m r => x = (y_run P L M (F, X, U, V, B)).1 11 ∧ m = (z_u (z_u (z_u (z_u (z_u (z_u (z_u (z_u mi (o + 2) (y_run P L M (F, X, U, V, B)).2.1) (o + 3) L) (o + 4) M) (o + 5) (y_run P L M (F, X, U, V, B)).2.2.1) (o + 6) (y_run P L M (F, X, U, V, B)).2.2.2.1) (o + 7) (y_run P L M (F, X, U, V, B)).2.2.2.2) o (y_run P L M (F, X, U, V, B)).1) (o + 1) P) ∧ r = mr ∧ (0 ≤ x ∧ x ≤ 704))) := by
          intro nn
          induction nn using Nat.strongRecOn with
          | _ nn ih38 =>
            intro row signs F2 X2 U2 V2 B2 hmeas hinv
            obtain ⟨hi2a, hi2b, hi2c, hi2d, hG2, ⟨j8, j9, j10⟩, hi2e, hi2f, hi2g, hi2h⟩ := hinv
            refine z_iload e_X5_poursAll_38 rfl ?_
            refine z_iload e_X5_poursAll_40 rfl ?_
            refine z_icmp_gt e_X5_poursAll_42 ⟨by omega, by omega⟩ ⟨by omega, by omega⟩ (fun h42_2 => ?_) (fun h42_2 => ?_)
            · rw [y_ss_end (by omega)] at hG2
              refine z_aload_n e_X5_poursAll_137 rfl ?_
              refine z_iload_n e_X5_poursAll_138 rfl ?_
              refine z_iload e_X5_poursAll_139 rfl ?_
              refine z_callVv (M' := M_X5_ends) (As := [zi line, zi signs]) (rest := []) e_X5_poursAll_141 l_RX5_205 rfl rfl rfl rfl t0 ⟨_, _, rfl⟩ (c_X5_ends hM (by omega) (by omega) (by omega) (by omega) hL hMk (by omega) (by omega) (by omega) (by omega)) (fun mq rq hq => ?_)
              obtain ⟨e2q, e3q⟩ := hq
              subst mq rq
              refine z_aload_n e_X5_poursAll_144 rfl ?_
              refine z_dup e_X5_poursAll_145 rfl ?_
              refine z_geti (fi := 11) (x := (F2 11)) e_X5_poursAll_146 f_RX5_180 t0 rfl rfl (congrFun (((z_un (by omega)).trans (z_us _ _ _))) _) ?_
              refine z_iconst e_X5_poursAll_149 ?_
              refine z_iadd e_X5_poursAll_150 ?_
              refine z_putiX (fi := 11) (f := F2) e_X5_poursAll_151 f_RX5_180 t0 rfl rfl (Or.inl rfl) (((z_un (by omega)).trans (z_us _ _ _))) (z_ux (by omega) (z_uu _ _ _ _)) ?_
              refine z_iinc (y := (line + 1)) (ls' := [some (zo o), some (zi (m_count P)), some (zi (line + 1)), some (zi b), some (zi (m_lend P (m_count P) b)), some (zi signs), some (zi row), none, none, none]) e_X5_poursAll_154 rfl rfl rfl rfl rfl ?_
              refine z_aload_n e_X5_poursAll_157 rfl ?_
              refine z_iload_n e_X5_poursAll_158 rfl ?_
              refine z_iload_n e_X5_poursAll_159 rfl ?_
              refine z_callVi (M' := M_X5_lineEnd) (As := [zi b, zi (m_count P)]) (rest := []) e_X5_poursAll_160 l_RX5_137 rfl rfl rfl rfl t0 ⟨_, _, rfl⟩ (c_X5_lineEnd hM hH (by omega) (by omega) (by omega)) (fun xq mq rq hq => ?_)
              obtain ⟨e1q, e2q, e3q⟩ := hq
              subst xq mq rq
              have hle := m_lend_spec (P := P) (n := (m_count P)) (k := b) (by omega)
              have hle1 := hle.1
              have hle2 := hle.2.1
              refine z_iconst e_X5_poursAll_163 ?_
              refine z_iadd e_X5_poursAll_164 ?_
              refine z_istore_n (ls' := [some (zo o), some (zi (m_count P)), some (zi (line + 1)), some (zi ((m_lend P (m_count P) b) + 1)), some (zi (m_lend P (m_count P) b)), some (zi signs), some (zi row), none, none, none]) e_X5_poursAll_165 rfl rfl rfl ?_
              refine z_goto e_X5_poursAll_166 ?_
              refine z_fgt (ls' := [some (zo o), some (zi (m_count P)), some (zi (line + 1)), some (zi ((m_lend P (m_count P) b) + 1)), none, none, none, none, none, none]) ⟨rfl, rfl, rfl, rfl, trivial⟩ ?_
              exact ih14 _ (by omega) ((m_lend P (m_count P) b) + 1) (line + 1) (z_v F2 11 ((F2 11) + 1)) X2 (y_en L M line signs (fun _ => F2 11) U2 4) (y_en L M line signs (y_ec F2 M signs) V2 4) (y_en L M line signs (y_ef F2 M signs) B2 4) rfl (⟨by omega, by omega, by omega, by omega, hG2, ⟨(z_vn (by decide)).trans j8, (z_vn (by decide)).trans j9, (z_vn (by decide)).trans j10⟩, by rw [z_vs]; omega, by rw [z_vs]; omega⟩)
            · refine z_aload_n e_X5_poursAll_45 rfl ?_
              refine z_iload e_X5_poursAll_46 rfl ?_
              refine z_iload e_X5_poursAll_48 rfl ?_
              refine z_callVi (M' := M_X5_cellsOf) (As := [zi row, zi (m_lend P (m_count P) b)]) (rest := []) e_X5_poursAll_50 l_RX5_146 rfl rfl rfl rfl t0 ⟨_, _, rfl⟩ (c_X5_cellsOf hM hH (by omega) (by omega) ⟨by omega, by omega⟩) (fun xq mq rq hq => ?_)
              obtain ⟨e1q, e2q, e3q⟩ := hq
              subst xq mq rq
              have hceb := m_cells_b (k := row) (e := (m_lend P (m_count P) b)) hH
              refine z_istore (ls' := [some (zo o), some (zi (m_count P)), some (zi line), some (zi b), some (zi (m_lend P (m_count P) b)), some (zi signs), some (zi row), some (zi (m_cells P row (m_lend P (m_count P) b))), none, none]) e_X5_poursAll_53 rfl rfl rfl ?_
              refine z_iconst e_X5_poursAll_55 ?_
              refine z_istore (ls' := [some (zo o), some (zi (m_count P)), some (zi line), some (zi b), some (zi (m_lend P (m_count P) b)), some (zi signs), some (zi row), some (zi (m_cells P row (m_lend P (m_count P) b))), some (zi 0), none]) e_X5_poursAll_56 rfl rfl rfl ?_
              have loop58 : ∀ (nn : Nat) (c : Int) (sg : Int) (F3 : Int → Int) (X3 : Int → Int) (U3 : Int → Int) (V3 : Int → Int) (B3 : Int → Int), (m_cells P row (m_lend P (m_count P) b) - c).toNat = nn → (0 ≤ c ∧ c ≤ m_cells P row (m_lend P (m_count P) b) ∧ 0 ≤ sg ∧ sg ≤ 22 * row + c ∧ y_all L M (line + 1) (y_ll P (m_count P) ((m_lend P (m_count P) b) + 1)) (y_rest L M line sg (n_ss (p_row P (m_slot P row)) c (m_cells P row (m_lend P (m_count P) b) - c).toNat ++ m_ss P (m_lend P (m_count P) b) (row + 1) ((m_lend P (m_count P) b) + 1 - (row + 1)).toNat) (F3, X3, U3, V3, B3)) = (y_run P L M (F, X, U, V, B)) ∧ (F3 8 = F 8 ∧ F3 9 = F 9 ∧ F3 10 = F 10) ∧ 0 ≤ F3 11 ∧ F3 11 ≤ 22 * b + 21 * (row - b) + c ∧ 0 ≤ F3 12 ∧ F3 12 ≤ F3 8) → z_A M_X5_poursAll E 0 0 58 [some (zo o), some (zi (m_count P)), some (zi line), some (zi b), some (zi (m_lend P (m_count P) b)), some (zi sg), some (zi row), some (zi (m_cells P row (m_lend P (m_count P) b))), some (zi c), none] [] (z_u (z_u (z_u (z_u (z_u (z_u (z_u (z_u mi (o + 2) X3) (o + 3) L) (o + 4) M) (o + 5) U3) (o + 6) V3) (o + 7) B3) o F3) (o + 1) P) mr (z_qi E (fun x m r => x = (y_run P L M (F, X, U, V, B)).1 11 ∧ m = (z_u (z_u (z_u (z_u (z_u (z_u (z_u (z_u mi (o + 2) (y_run P L M (F, X, U, V, B)).2.1) (o + 3) L) (o + 4) M) (o + 5) (y_run P L M (F, X, U, V, B)).2.2.1) (o + 6) (y_run P L M (F, X, U, V, B)).2.2.2.1) (o + 7) (y_run P L M (F, X, U, V, B)).2.2.2.2) o (y_run P L M (F, X, U, V, B)).1) (o + 1) P) ∧ r = mr ∧ (0 ≤ x ∧ x ≤ 704))) := by
                intro nn
                induction nn using Nat.strongRecOn with
                | _ nn ih58 =>
                  intro c sg F3 X3 U3 V3 B3 hmeas hinv
                  obtain ⟨hi3a, hi3b, hi3c, hi3d, hG3, ⟨i8, i9, i10⟩, hi3e, hi3f, hi3g, hi3h⟩ := hinv
                  refine z_iload e_X5_poursAll_58 rfl ?_
                  refine z_iload e_X5_poursAll_60 rfl ?_
                  refine z_icmp_ge e_X5_poursAll_62 ⟨by omega, by omega⟩ ⟨by omega, by omega⟩ (fun h62_3 => ?_) (fun h62_3 => ?_)
                  · rw [y_ns_end (by omega)] at hG3
                    refine z_iinc (y := (row + 1)) (ls' := [some (zo o), some (zi (m_count P)), some (zi line), some (zi b), some (zi (m_lend P (m_count P) b)), some (zi sg), some (zi (row + 1)), some (zi (m_cells P row (m_lend P (m_count P) b))), some (zi c), none]) e_X5_poursAll_131 rfl rfl rfl rfl rfl ?_
                    refine z_goto e_X5_poursAll_134 ?_
                    refine z_fgt (ls' := [some (zo o), some (zi (m_count P)), some (zi line), some (zi b), some (zi (m_lend P (m_count P) b)), some (zi sg), some (zi (row + 1)), none, none, none]) ⟨rfl, rfl, rfl, rfl, rfl, rfl, rfl, trivial⟩ ?_
                    exact ih38 _ (by omega) (row + 1) sg F3 X3 U3 V3 B3 rfl (⟨by omega, by omega, by omega, by omega, hG3, ⟨i8, i9, i10⟩, by omega, by omega, by omega, by omega⟩)
                  · refine z_aload_n e_X5_poursAll_65 rfl ?_
                    refine z_aload_n e_X5_poursAll_66 rfl ?_
                    refine z_iload e_X5_poursAll_67 rfl ?_
                    refine z_callVi (M' := M_X5_slot) (As := [zi row]) (rest := [zo o]) e_X5_poursAll_69 l_RX5_130 rfl rfl rfl rfl t0 ⟨_, _, rfl⟩ (c_X5_slot hM hH ⟨by omega, by omega⟩) (fun xq mq rq hq => ?_)
                    obtain ⟨e1q, e2q, e3q⟩ := hq
                    subst xq mq rq
                    have hsb := m_slot_b (k := row) hH (by omega) (by omega)
                    refine z_iload e_X5_poursAll_72 rfl ?_
                    refine z_callVi (M' := M_X5_code) (As := [zi (m_slot P row), zi c]) (rest := []) e_X5_poursAll_74 l_RX5_51 rfl rfl rfl rfl t0 ⟨_, _, rfl⟩ (c_X5_code hM (by omega) (by omega)) (fun xq mq rq hq => ?_)
                    obtain ⟨e1q, e2q, e3q⟩ := hq
                    subst xq mq rq
                    have hbq := hP (15 + 22 * (m_slot P row) + c)
                    refine z_istore (ls' := [some (zo o), some (zi (m_count P)), some (zi line), some (zi b), some (zi (m_lend P (m_count P) b)), some (zi sg), some (zi row), some (zi (m_cells P row (m_lend P (m_count P) b))), some (zi c), some (zi (P (15 + 22 * (m_slot P row) + c)))]) e_X5_poursAll_77 rfl rfl rfl ?_
                    refine z_iload e_X5_poursAll_79 rfl ?_
                    refine z_callSi (M' := M_X5_isRight) (As := [zi (P (15 + 22 * (m_slot P row) + c))]) (rest := []) e_X5_poursAll_81 l_RX5_54 rfl rfl rfl rfl (c_X5_isRight ⟨by omega, by omega⟩) (fun xq mq rq hq => ?_)
                    obtain ⟨e1q, e2q, e3q⟩ := hq
                    subst xq mq rq
                    refine z_if_neB e_X5_poursAll_84  (fun h84_4 => ?_) (fun h84_4 => ?_)
                    · refine z_iinc (y := (c + 1)) (ls' := [some (zo o), some (zi (m_count P)), some (zi line), some (zi b), some (zi (m_lend P (m_count P) b)), some (zi sg), some (zi row), some (zi (m_cells P row (m_lend P (m_count P) b))), some (zi (c + 1)), some (zi (P (15 + 22 * (m_slot P row) + c)))]) e_X5_poursAll_125 rfl rfl rfl rfl rfl ?_
                      refine z_goto e_X5_poursAll_128 ?_
                      refine z_fgt (ls' := [some (zo o), some (zi (m_count P)), some (zi line), some (zi b), some (zi (m_lend P (m_count P) b)), some (zi sg), some (zi row), some (zi (m_cells P row (m_lend P (m_count P) b))), some (zi (c + 1)), none]) ⟨rfl, rfl, rfl, rfl, rfl, rfl, rfl, rfl, rfl, trivial⟩ ?_
                      exact ih58 _ (by omega) (c + 1) sg F3 X3 U3 V3 B3 rfl (⟨by omega, by omega, by omega, by omega, by rw [y_ns_right (by omega) (by assumption)] at hG3; exact hG3, ⟨i8, i9, i10⟩, by omega, by omega, by omega, by omega⟩)
                    · rw [y_ns_sign (by omega) (by assumption)] at hG3
                      have hrm : y_F (P (15 + 22 * m_slot P row + c)) F3 11 + 1 ≤ (y_run P L M (F, X, U, V, B)).1 11 := y_room hG3
                      have hyr := y_F_r (P (15 + 22 * m_slot P row + c)) F3
                      have hyw := y_F_w (code := (P (15 + 22 * m_slot P row + c))) (F := F3) (by omega) (by omega)
                      have hps := p_sz_b (P (15 + 22 * m_slot P row + c))
                      have hcd := hP (15 + 22 * m_slot P row + c)
                      have g8 := y_F_c (P (15 + 22 * m_slot P row + c)) F3 (k := 8) (by decide) (by decide)
                      refine z_aload_n e_X5_poursAll_87 rfl ?_
                      refine z_iload e_X5_poursAll_88 rfl ?_
                      refine z_callVv (M' := M_X5_pours) (As := [zi (P (15 + 22 * (m_slot P row) + c))]) (rest := []) e_X5_poursAll_90 l_RX5_199 rfl rfl rfl rfl t0 ⟨_, _, rfl⟩ (c_X5_pours hM (by omega) (by omega) (by omega) (by omega) (by omega) (by omega) (by omega) (by omega) (by omega) (by omega) (by omega) (by omega)) (fun mq rq hq => ?_)
                      obtain ⟨e2q, e3q⟩ := hq
                      subst mq rq
                      refine z_aload_n e_X5_poursAll_93 rfl ?_
                      refine z_iload_n e_X5_poursAll_94 rfl ?_
                      refine z_iload e_X5_poursAll_95 rfl ?_
                      refine z_callVv (M' := M_X5_meets) (As := [zi line, zi sg]) (rest := []) e_X5_poursAll_97 l_RX5_202 rfl rfl rfl rfl t0 ⟨_, _, rfl⟩ (c_X5_meets hM (by omega) (by omega) (by omega) (by omega) hL hMk) (fun mq rq hq => ?_)
                      obtain ⟨e2q, e3q⟩ := hq
                      subst mq rq
                      refine z_aload_n e_X5_poursAll_100 rfl ?_
                      refine z_dup e_X5_poursAll_101 rfl ?_
                      refine z_geti (fi := 12) (x := ((y_F (P (15 + 22 * (m_slot P row) + c)) F3) 12)) e_X5_poursAll_102 f_RX5_190 t0 rfl rfl (congrFun (((z_un (by omega)).trans (z_us _ _ _))) _) ?_
                      have join118_4 : ∀ (sz : Int), sz = p_sz (P (15 + 22 * m_slot P row + c)) → z_A M_X5_poursAll E 0 0 118 [some (zo o), some (zi (m_count P)), some (zi line), some (zi b), some (zi (m_lend P (m_count P) b)), some (zi sg), some (zi row), some (zi (m_cells P row (m_lend P (m_count P) b))), some (zi c), some (zi (P (15 + 22 * (m_slot P row) + c)))] [zi sz, zi ((y_F (P (15 + 22 * (m_slot P row) + c)) F3) 12), zo o] (z_u (z_u (z_u (z_u (z_u (z_u (z_u (z_u mi (o + 2) (y_X (P (15 + 22 * (m_slot P row) + c)) F3 X3)) (o + 3) L) (o + 4) M) (o + 5) (y_mt L M line sg ((y_F (P (15 + 22 * (m_slot P row) + c)) F3) 11) U3 4)) (o + 6) (y_mt L M line sg ((y_F (P (15 + 22 * (m_slot P row) + c)) F3) 12) V3 4)) (o + 7) B3) o (y_F (P (15 + 22 * (m_slot P row) + c)) F3)) (o + 1) P) mr (z_qi E (fun x m r => x = (y_run P L M (F, X, U, V, B)).1 11 ∧ m = (z_u (z_u (z_u (z_u (z_u (z_u (z_u (z_u mi (o + 2) (y_run P L M (F, X, U, V, B)).2.1) (o + 3) L) (o + 4) M) (o + 5) (y_run P L M (F, X, U, V, B)).2.2.1) (o + 6) (y_run P L M (F, X, U, V, B)).2.2.2.1) (o + 7) (y_run P L M (F, X, U, V, B)).2.2.2.2) o (y_run P L M (F, X, U, V, B)).1) (o + 1) P) ∧ r = mr ∧ (0 ≤ x ∧ x ≤ 704))) := by
                        intro sz hj
                        have hsz := hj
                        refine z_iadd e_X5_poursAll_118 ?_
                        refine z_putiX (fi := 12) (f := (y_F (P (15 + 22 * (m_slot P row) + c)) F3)) e_X5_poursAll_119 f_RX5_190 t0 rfl rfl (Or.inl rfl) (((z_un (by omega)).trans (z_us _ _ _))) (z_ux (by omega) (z_uu _ _ _ _)) ?_
                        refine z_iinc (y := (sg + 1)) (ls' := [some (zo o), some (zi (m_count P)), some (zi line), some (zi b), some (zi (m_lend P (m_count P) b)), some (zi (sg + 1)), some (zi row), some (zi (m_cells P row (m_lend P (m_count P) b))), some (zi c), some (zi (P (15 + 22 * (m_slot P row) + c)))]) e_X5_poursAll_122 rfl rfl rfl rfl rfl ?_
                        refine z_iinc (y := (c + 1)) (ls' := [some (zo o), some (zi (m_count P)), some (zi line), some (zi b), some (zi (m_lend P (m_count P) b)), some (zi (sg + 1)), some (zi row), some (zi (m_cells P row (m_lend P (m_count P) b))), some (zi (c + 1)), some (zi (P (15 + 22 * (m_slot P row) + c)))]) e_X5_poursAll_125 rfl rfl rfl rfl rfl ?_
                        refine z_goto e_X5_poursAll_128 ?_
                        refine z_fgt (ls' := [some (zo o), some (zi (m_count P)), some (zi line), some (zi b), some (zi (m_lend P (m_count P) b)), some (zi (sg + 1)), some (zi row), some (zi (m_cells P row (m_lend P (m_count P) b))), some (zi (c + 1)), none]) ⟨rfl, rfl, rfl, rfl, rfl, rfl, rfl, rfl, rfl, trivial⟩ ?_
                        exact ih58 _ (by omega) (c + 1) (sg + 1) (z_v (y_F (P (15 + 22 * (m_slot P row) + c)) F3) 12 (((y_F (P (15 + 22 * (m_slot P row) + c)) F3) 12) + sz)) (y_X (P (15 + 22 * (m_slot P row) + c)) F3 X3) (y_mt L M line sg ((y_F (P (15 + 22 * (m_slot P row) + c)) F3) 11) U3 4) (y_mt L M line sg ((y_F (P (15 + 22 * (m_slot P row) + c)) F3) 12) V3 4) B3 rfl (⟨by omega, by omega, by omega, by omega, by rw [hsz]; exact hG3, ⟨(z_vn (by decide)).trans ((y_F_c _ _ (by decide) (by decide)).trans i8), (z_vn (by decide)).trans ((y_F_c _ _ (by decide) (by decide)).trans i9), (z_vn (by decide)).trans ((y_F_c _ _ (by decide) (by decide)).trans i10)⟩, by rw [z_vn (by decide)]; omega, by rw [z_vn (by decide)]; omega, by rw [z_vs]; omega, by rw [z_vs, z_vn (by decide), g8]; omega⟩)
                      refine z_iload e_X5_poursAll_105 rfl ?_
                      refine z_callSi (M' := M_X5_isWide) (As := [zi (P (15 + 22 * (m_slot P row) + c))]) (rest := [zi ((y_F (P (15 + 22 * (m_slot P row) + c)) F3) 12), zo o]) e_X5_poursAll_107 l_RX5_62 rfl rfl rfl rfl (c_X5_isWide ⟨by omega, by omega⟩) (fun xq mq rq hq => ?_)
                      obtain ⟨e1q, e2q, e3q⟩ := hq
                      subst xq mq rq
                      refine z_if_eqB e_X5_poursAll_110  (fun h110_6 => ?_) (fun h110_6 => ?_)
                      · refine z_iconst e_X5_poursAll_117 ?_
                        exact join118_4 1 (by unfold p_sz; grind)
                      · refine z_iconst e_X5_poursAll_113 ?_
                        refine z_goto e_X5_poursAll_114 ?_
                        exact join118_4 2 (by unfold p_sz; grind)
              exact loop58 _ 0 signs F2 X2 U2 V2 B2 rfl (⟨by omega, by omega, by omega, by omega, by rw [m_ss_s (by omega)] at hG2; rw [Int.sub_zero]; exact hG2, ⟨j8, j9, j10⟩, by omega, by omega, by omega, by omega⟩)
        exact loop38 _ b 0 (z_v F1 12 0) X1 U1 V1 B1 rfl (⟨by omega, by omega, by omega, by omega, by rw [y_ll_s (by omega)] at hG; exact hG, ⟨(z_vn (by decide)).trans k8, (z_vn (by decide)).trans k9, (z_vn (by decide)).trans k10⟩, by rw [z_vn (by decide)]; omega, by rw [z_vn (by decide)]; omega, by rw [z_vs]; omega, by rw [z_vs, z_vn (by decide)]; omega⟩)
  exact loop14 _ 0 0 (z_v F 11 0) X U V B rfl (⟨by omega, by omega, by omega, by omega, rfl, ⟨z_vn (by decide), z_vn (by decide), z_vn (by decide)⟩, by rw [z_vs]; omega, by rw [z_vs]; omega⟩)
set_option maxHeartbeats 1000000 in
set_option maxRecDepth 100000 in
theorem c_X5_rowsWith {E : z_E} {mi : z_Mi} {mr : z_Mr} {o : Nat} {P F X L M U V B : Int → Int} {n : Int} (hM : z_MO E mr o) (hH : p_hd P) (hL : ∀ j, -9 ≤ L j ∧ L j ≤ 99) (hMk : ∀ j, -9 ≤ M j ∧ M j ≤ 9999) (hU : ∀ j, 0 ≤ U j ∧ U j ≤ 9999) (hn0 : 4 ≤ n) (hn1 : n ≤ 20) (hb0 : 0 ≤ F 9) (hb1 : F 9 ≤ 9999) : z_mi M_X5_rowsWith E [zo o, zi n] (z_u (z_u (z_u (z_u (z_u (z_u (z_u (z_u mi (o + 2) X) (o + 3) L) (o + 4) M) (o + 5) U) (o + 6) V) (o + 7) B) o F) (o + 1) P) mr (fun x m r => ∃ F' U' V' B' : Int → Int, x = y_many P n ∧ m = (z_u (z_u (z_u (z_u (z_u (z_u (z_u (z_u mi (o + 2) X) (o + 3) L) (o + 4) M) (o + 5) U') (o + 6) V') (o + 7) B') o F') (o + 1) P) ∧ r = mr ∧ (0 ≤ x ∧ x ≤ 704) ∧ (∀ j, j ≠ 8 → j ≠ 10 → j ≠ 11 → j ≠ 12 → F' j = F j) ∧ (∀ j, 0 ≤ U' j ∧ U' j ≤ 9999) ∧ F' 8 = n ∧ B' = (y_run P L M (z_v (z_v F 8 n) 10 0, X, U, V, B)).2.2.2.2) := by
  obtain ⟨t0, t1, t2, t3, t4, t5, t6, t7, q0, q2, q3, q4, q5, q6, q7⟩ := id hM
  have f8 : (z_v (z_v F 8 n) 10 0) 8 = n := (z_vn (by decide)).trans (z_vs _ _ _)
  have f9 : (z_v (z_v F 8 n) 10 0) 9 = F 9 := (z_vn (by decide)).trans (z_vn (by decide))
  have f10 : (z_v (z_v F 8 n) 10 0) 10 = 0 := z_vs _ _ _
  have hx : (y_run P L M (z_v (z_v F 8 n) 10 0, X, U, V, B)).2.1 = X := y_run_x P L M (z_v (z_v F 8 n) 10 0, X, U, V, B) f10
  have hrc : (y_run P L M (z_v (z_v F 8 n) 10 0, X, U, V, B)).1 11 = y_many P n := (y_run_rc P L M (z_v (z_v F 8 n) 10 0, X, U, V, B)).trans (congrArg (y_many P) f8)
  refine z_ofi (ls := [some (zo o), some (zi n)]) rfl (fun _ _ => trivial) ⟨rfl, rfl⟩ (Nat.le_of_ble_eq_true rfl) rfl ?_
  refine z_aload_n e_X5_rowsWith_0 rfl ?_
  refine z_iload_n e_X5_rowsWith_1 rfl ?_
  refine z_putiX (fi := 8) (f := F) e_X5_rowsWith_2 f_RX5_193 t0 rfl rfl (Or.inl rfl) (((z_un (by omega)).trans (z_us _ _ _))) (z_ux (by omega) (z_uu _ _ _ _)) ?_
  refine z_aload_n e_X5_rowsWith_5 rfl ?_
  refine z_iconst e_X5_rowsWith_6 ?_
  refine z_putiX (fi := 10) (f := (z_v F 8 n)) e_X5_rowsWith_7 f_RX5_186 t0 rfl rfl (Or.inr ⟨rfl, Or.inl rfl⟩) (((z_un (by omega)).trans (z_us _ _ _))) (z_ux (by omega) (z_uu _ _ _ _)) ?_
  refine z_aload_n e_X5_rowsWith_10 rfl ?_
  refine z_callVi (M' := M_X5_poursAll) (As := []) (rest := []) e_X5_rowsWith_11 l_RX5_208 rfl rfl rfl rfl t0 ⟨_, _, rfl⟩ (c_X5_poursAll hM hH hL hMk (by omega) (by omega) (by omega) (by omega) (by omega) (fun q => absurd q (by omega))) (fun xq mq rq hq => ?_)
  obtain ⟨e1q, e2q, e3q, hxb⟩ := hq
  subst e1q
  subst mq rq
  refine z_iret e_X5_rowsWith_14 (Or.inl rfl) rfl rfl ⟨rfl, _, rfl, ?_⟩
  rw [hx]
  refine ⟨_, _, _, _, hrc, rfl, rfl, hxb, fun j g0 g1 g2 g3 => ?_, fun j => ?_, ?_, rfl⟩
  · exact (y_run_c P L M _ g2 g3).trans ((z_vn g1).trans (z_vn g0))
  · have hu := y_run_u P L M (z_v (z_v F 8 n) 10 0, X, U, V, B) j
    have hu2 := hU j
    have hu3 : ((z_v (z_v F 8 n) 10 0, X, U, V, B) : y_S).2.2.1 j = U j := rfl
    omega
  · exact (y_run_c P L M _ (by decide) (by decide)).trans f8
set_option maxHeartbeats 1000000 in
set_option maxRecDepth 100000 in
theorem c_X5_ifWidth {E : z_E} {mi : z_Mi} {mr : z_Mr} {o : Nat} {P F X L M U V B : Int → Int} {n : Int} (hM : z_MO E mr o) (hH : p_hd P) (hL : ∀ j, -9 ≤ L j ∧ L j ≤ 99) (hMk : ∀ j, -9 ≤ M j ∧ M j ≤ 9999) (hU : ∀ j, 0 ≤ U j ∧ U j ≤ 9999) (hz : z_R n) (hb0 : 0 ≤ F 9) (hb1 : F 9 ≤ 9999) : z_mi M_X5_ifWidth E [zo o, zi n] (z_u (z_u (z_u (z_u (z_u (z_u (z_u (z_u mi (o + 2) X) (o + 3) L) (o + 4) M) (o + 5) U) (o + 6) V) (o + 7) B) o F) (o + 1) P) mr (fun x m r => ∃ F' U' V' B' : Int → Int, x = (if 4 ≤ n ∧ n ≤ 20 then y_many P n else -1) ∧ m = (z_u (z_u (z_u (z_u (z_u (z_u (z_u (z_u mi (o + 2) X) (o + 3) L) (o + 4) M) (o + 5) U') (o + 6) V') (o + 7) B') o F') (o + 1) P) ∧ r = mr ∧ (∀ j, j ≠ 8 → j ≠ 10 → j ≠ 11 → j ≠ 12 → F' j = F j) ∧ (∀ j, 0 ≤ U' j ∧ U' j ≤ 9999)) := by
  obtain ⟨t0, t1, t2, t3, t4, t5, t6, t7, q0, q2, q3, q4, q5, q6, q7⟩ := id hM
  refine z_ofi (ls := [some (zo o), some (zi n)]) rfl (fun _ _ => trivial) ⟨rfl, rfl⟩ (Nat.le_of_ble_eq_true rfl) rfl ?_
  refine z_iload_n e_X5_ifWidth_0 rfl ?_
  refine z_iconst e_X5_ifWidth_1 ?_
  refine z_bipush e_X5_ifWidth_2 (by decide +kernel) ?_
  refine z_callSi (M' := M_X5_in) (As := [zi n, zi 4, zi 20]) (rest := []) e_X5_ifWidth_4 l_RX5_47 rfl rfl rfl rfl (c_X5_in ⟨by omega, by omega⟩ ⟨by omega, by omega⟩ ⟨by omega, by omega⟩) (fun xq mq rq hq => ?_)
  obtain ⟨e1q, e2q, e3q⟩ := hq
  subst xq mq rq
  refine z_if_eqB e_X5_ifWidth_7  (fun h7_1 => ?_) (fun h7_1 => ?_)
  · refine z_iconst e_X5_ifWidth_18 ?_
    refine z_iret e_X5_ifWidth_19 (Or.inl rfl) rfl rfl ⟨rfl, _, rfl, ?_⟩
    exact ⟨_, _, _, _, (if_neg (by omega)).symm, rfl, rfl, fun j _ _ _ _ => rfl, hU⟩
  · refine z_aload_n e_X5_ifWidth_10 rfl ?_
    refine z_iload_n e_X5_ifWidth_11 rfl ?_
    refine z_callVi (M' := M_X5_rowsWith) (As := [zi n]) (rest := []) e_X5_ifWidth_12 l_RX5_211 rfl rfl rfl rfl t0 ⟨_, _, rfl⟩ (c_X5_rowsWith hM hH hL hMk hU (by omega) (by omega) (by omega) (by omega)) (fun xq mq rq hq => ?_)
    obtain ⟨Fw1, Uw1, Vw1, Bw1, e1q, e2q, e3q, hxb1, hFw1, hUw1, hWw1, hBw1⟩ := hq
    subst xq mq rq
    refine z_goto e_X5_ifWidth_15 ?_
    refine z_iret e_X5_ifWidth_19 (Or.inl rfl) rfl rfl ⟨rfl, _, rfl, ?_⟩
    exact ⟨_, _, _, _, (if_pos (by omega)).symm, rfl, rfl, hFw1, hUw1⟩
set_option maxHeartbeats 1000000 in
set_option maxRecDepth 100000 in
theorem c_X5_widthFor {E : z_E} {mi : z_Mi} {mr : z_Mr} {o : Nat} {P F X L M U V B : Int → Int} {n : Int} (hM : z_MO E mr o) (hH : p_hd P) (hL : ∀ j, -9 ≤ L j ∧ L j ≤ 99) (hMk : ∀ j, -9 ≤ M j ∧ M j ≤ 9999) (hU : ∀ j, 0 ≤ U j ∧ U j ≤ 9999) (hz : z_R n) (hb0 : 0 ≤ F 9) (hb1 : F 9 ≤ 9999) : z_mi M_X5_widthFor E [zo o, zi n] (z_u (z_u (z_u (z_u (z_u (z_u (z_u (z_u mi (o + 2) X) (o + 3) L) (o + 4) M) (o + 5) U) (o + 6) V) (o + 7) B) o F) (o + 1) P) mr (fun x m r => ∃ F' U' V' B' : Int → Int, x = (if 1 ≤ n ∧ n ≤ 40 then y_wf P n 17 4 else -1) ∧ m = (z_u (z_u (z_u (z_u (z_u (z_u (z_u (z_u mi (o + 2) X) (o + 3) L) (o + 4) M) (o + 5) U') (o + 6) V') (o + 7) B') o F') (o + 1) P) ∧ r = mr ∧ (∀ j, j ≠ 8 → j ≠ 10 → j ≠ 11 → j ≠ 12 → F' j = F j) ∧ (∀ j, 0 ≤ U' j ∧ U' j ≤ 9999)) := by
  obtain ⟨t0, t1, t2, t3, t4, t5, t6, t7, q0, q2, q3, q4, q5, q6, q7⟩ := id hM
  refine z_ofi (ls := [some (zo o), some (zi n), none]) rfl (fun _ _ => trivial) ⟨rfl, rfl⟩ (Nat.le_of_ble_eq_true rfl) rfl ?_
  refine z_iload_n e_X5_widthFor_0 rfl ?_
  refine z_iconst e_X5_widthFor_1 ?_
  refine z_bipush e_X5_widthFor_2 (by decide +kernel) ?_
  refine z_callSi (M' := M_X5_in) (As := [zi n, zi 1, zi 40]) (rest := []) e_X5_widthFor_4 l_RX5_47 rfl rfl rfl rfl (c_X5_in ⟨by omega, by omega⟩ ⟨by omega, by omega⟩ ⟨by omega, by omega⟩) (fun xq mq rq hq => ?_)
  obtain ⟨e1q, e2q, e3q⟩ := hq
  subst xq mq rq
  refine z_if_neB e_X5_widthFor_7  (fun h7_1 => ?_) (fun h7_1 => ?_)
  · refine z_iconst e_X5_widthFor_12 ?_
    refine z_istore_n (ls' := [some (zo o), some (zi n), some (zi 4)]) e_X5_widthFor_13 rfl rfl rfl ?_
    have loop14 : ∀ (nn : Nat) (c : Int) (F1 : Int → Int) (U1 : Int → Int) (V1 : Int → Int) (B1 : Int → Int), (21 - c).toNat = nn → (4 ≤ c ∧ c ≤ 21 ∧ y_wf P n (21 - c).toNat c = y_wf P n 17 4 ∧ (∀ j, 0 ≤ U1 j ∧ U1 j ≤ 9999) ∧ (∀ j, j ≠ 8 → j ≠ 10 → j ≠ 11 → j ≠ 12 → F1 j = F j)) → z_A M_X5_widthFor E 0 0 14 [some (zo o), some (zi n), some (zi c)] [] (z_u (z_u (z_u (z_u (z_u (z_u (z_u (z_u mi (o + 2) X) (o + 3) L) (o + 4) M) (o + 5) U1) (o + 6) V1) (o + 7) B1) o F1) (o + 1) P) mr (z_qi E (fun x m r => ∃ F' U' V' B' : Int → Int, x = (if 1 ≤ n ∧ n ≤ 40 then y_wf P n 17 4 else -1) ∧ m = (z_u (z_u (z_u (z_u (z_u (z_u (z_u (z_u mi (o + 2) X) (o + 3) L) (o + 4) M) (o + 5) U') (o + 6) V') (o + 7) B') o F') (o + 1) P) ∧ r = mr ∧ (∀ j, j ≠ 8 → j ≠ 10 → j ≠ 11 → j ≠ 12 → F' j = F j) ∧ (∀ j, 0 ≤ U' j ∧ U' j ≤ 9999))) := by
      intro nn
      induction nn using Nat.strongRecOn with
      | _ nn ih14 =>
        intro c F1 U1 V1 B1 hmeas hinv
        obtain ⟨hc0, hc1, hwf, hU1, hF1⟩ := hinv
        have e9 := hF1 9 (by decide) (by decide) (by decide) (by decide)
        refine z_iload_n e_X5_widthFor_14 rfl ?_
        refine z_bipush e_X5_widthFor_15 (by decide +kernel) ?_
        refine z_icmp_gt e_X5_widthFor_17 ⟨by omega, by omega⟩ (by decide) (fun h17_2 => ?_) (fun h17_2 => ?_)
        · refine z_bipush e_X5_widthFor_37 (by decide +kernel) ?_
          refine z_iret e_X5_widthFor_39 (Or.inl rfl) rfl rfl ⟨rfl, _, rfl, ?_⟩
          refine ⟨_, _, _, _, ?_, rfl, rfl, hF1, hU1⟩
          rw [if_pos (by omega), ← hwf, show (21 - c).toNat = 0 by omega]
          rfl
        · refine z_aload_n e_X5_widthFor_20 rfl ?_
          refine z_iload_n e_X5_widthFor_21 rfl ?_
          refine z_callVi (M' := M_X5_rowsWith) (As := [zi c]) (rest := []) e_X5_widthFor_22 l_RX5_211 rfl rfl rfl rfl t0 ⟨_, _, rfl⟩ (c_X5_rowsWith hM hH hL hMk hU1 (by omega) (by omega) (by omega) (by omega)) (fun xq mq rq hq => ?_)
          obtain ⟨Fw2, Uw2, Vw2, Bw2, e1q, e2q, e3q, hxb2, hFw2, hUw2, hWw2, hBw2⟩ := hq
          subst xq mq rq
          refine z_iload_n e_X5_widthFor_25 rfl ?_
          refine z_icmp_gt e_X5_widthFor_26 ⟨by omega, by omega⟩ ⟨by omega, by omega⟩ (fun h26_3 => ?_) (fun h26_3 => ?_)
          · refine z_iinc (y := (c + 1)) (ls' := [some (zo o), some (zi n), some (zi (c + 1))]) e_X5_widthFor_31 rfl rfl rfl rfl rfl ?_
            refine z_goto e_X5_widthFor_34 ?_
            exact ih14 _ (by omega) (c + 1) Fw2 Uw2 Vw2 Bw2 rfl (⟨by omega, by omega, by rw [← hwf, y_wf_s _ _ (show c < 21 by omega), if_neg (by omega)], hUw2, fun j g0 g1 g2 g3 => (hFw2 j g0 g1 g2 g3).trans (hF1 j g0 g1 g2 g3)⟩)
          · refine z_iload_n e_X5_widthFor_29 rfl ?_
            refine z_iret e_X5_widthFor_30 (Or.inl rfl) rfl rfl ⟨rfl, _, rfl, ?_⟩
            refine ⟨_, _, _, _, ?_, rfl, rfl, fun j g0 g1 g2 g3 => (hFw2 j g0 g1 g2 g3).trans (hF1 j g0 g1 g2 g3), hUw2⟩
            rw [if_pos (by omega), ← hwf, y_wf_s _ _ (show c < 21 by omega), if_pos (by omega)]
    exact loop14 _ 4 F U V B rfl (⟨by omega, by omega, rfl, hU, fun j _ _ _ _ => rfl⟩)
  · refine z_iconst e_X5_widthFor_10 ?_
    refine z_iret e_X5_widthFor_11 (Or.inl rfl) rfl rfl ⟨rfl, _, rfl, ?_⟩
    exact ⟨_, _, _, _, (if_neg (by omega)).symm, rfl, rfl, fun j _ _ _ _ => rfl, hU⟩
