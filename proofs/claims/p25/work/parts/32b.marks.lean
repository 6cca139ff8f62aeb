set_option maxHeartbeats 1000000 in
set_option maxRecDepth 100000 in
theorem c_L_marks {E : z_E} {mi : z_Mi} {mr : z_Mr} {o : Nat} {P : Int → Int} {n nx : Int} (hX : z_X E o mi mr P n nx) (hG : p_G P) : z_mi M_L_marks E [zo o] mi mr (fun x m r => x = 1 ∧ z_X E o m r P n nx) := by
  have to := hX.1.1
  have hH : p_hd P := hX.2.2.1
  have hW := x_W hX
  obtain ⟨pw0, pw1, ph0, ph1, pf0, pf1, pf2, pr0, pr1, pc0, pc1, pp0, pp1, pk0, pk1, pi0, pi1, pkp, pP⟩ := id hH
  have hcb := m_count_b hH
  refine z_ofi (ls := [some (zo o), none, none, none, none, none, none, none, none, none, none]) rfl (fun _ _ => trivial) ⟨rfl, rfl⟩ (Nat.le_of_ble_eq_true rfl) rfl ?_
  refine z_iconst e_L_marks_0 ?_
  refine z_istore_n (ls' := [some (zo o), some (zi 0), none, none, none, none, none, none, none, none, none]) e_L_marks_1 rfl rfl rfl ?_
  have loop2 : ∀ (nn : Nat) (v : Int) (ma : z_Mi) (ra : z_Mr), (P 7 + 1 - v).toNat = nn → (0 ≤ v ∧ v ≤ P 7 + 1 ∧ z_X E o ma ra P n nx) → z_A M_L_marks E 0 0 2 [some (zo o), some (zi v), none, none, none, none, none, none, none, none, none] [] ma ra (z_qi E (fun x m r => x = 1 ∧ z_X E o m r P n nx)) := by
    intro nn
    induction nn using Nat.strongRecOn with
    | _ nn ih2 =>
      intro v ma ra hmeas hinv
      obtain ⟨hv0, hv2, hX⟩ := hinv
      refine z_iload_n e_L_marks_2 rfl ?_
      refine z_aload_n e_L_marks_3 rfl ?_
      refine z_bipush e_L_marks_4 (by decide +kernel) ?_
      refine z_callVi (M' := M_X4_told) (As := [zi 6]) (rest := [zi v]) e_L_marks_6 l_RL_9 rfl rfl rfl rfl to ⟨_, _, rfl⟩ (c_X4_told hX ⟨by decide, by decide⟩) (fun xq mq rq hq => ?_)
      obtain ⟨e1q, e2q, e3q⟩ := hq
      rw [told_6] at e1q
      subst xq mq rq
      refine z_icmp_gt e_L_marks_9 ⟨by omega, by omega⟩ ⟨by omega, by omega⟩ (fun h9_1 => ?_) (fun h9_1 => ?_)
      · rcases (show P 7 = 3 ∨ P 7 < 3 by omega) with h7 | h7
        · refine z_aload_n e_L_marks_334 rfl ?_
          refine z_aload_n e_L_marks_335 rfl ?_
          refine z_bipush e_L_marks_336 (by decide +kernel) ?_
          refine z_callVi (M' := M_X4_told) (As := [zi 6]) (rest := [zo o]) e_L_marks_338 l_RL_9 rfl rfl rfl rfl to ⟨_, _, rfl⟩ (c_X4_told hX ⟨by decide, by decide⟩) (fun xq mq rq hq => ?_)
          obtain ⟨e1q, e2q, e3q⟩ := hq
          rw [told_6] at e1q
          subst xq mq rq
          refine z_iconst e_L_marks_341 ?_
          refine z_iadd e_L_marks_342 ?_
          refine z_iconst e_L_marks_343 ?_
          refine z_callVi (M' := M_X4_cursor) (As := [zi ((P 7) + 1), zi 0]) (rest := []) e_L_marks_344 l_RL_65 rfl rfl rfl rfl to ⟨_, _, rfl⟩ (c_X4_cursor hX ⟨by omega, by omega⟩ ⟨by decide, by decide⟩) (fun xq mq rq hq => ?_)
          obtain ⟨e1q, e2q, e3q⟩ := hq
          rw [curA_3 h7] at e1q
          subst xq mq rq
          refine z_aload_n e_L_marks_347 rfl ?_
          refine z_bipush e_L_marks_348 (by decide +kernel) ?_
          refine z_callVi (M' := M_X4_told) (As := [zi 6]) (rest := [zi (-1)]) e_L_marks_350 l_RL_9 rfl rfl rfl rfl to ⟨_, _, rfl⟩ (c_X4_told hX ⟨by decide, by decide⟩) (fun xq mq rq hq => ?_)
          obtain ⟨e1q, e2q, e3q⟩ := hq
          rw [told_6] at e1q
          subst xq mq rq
          refine z_iconst e_L_marks_353 ?_
          refine z_icmp_ne e_L_marks_354 ⟨by omega, by omega⟩ (by decide) (fun h354_2 => ?_) (fun h354_2 => ?_)
          · omega
          · refine z_iconst e_L_marks_357 ?_
            refine z_goto e_L_marks_358 ?_
            refine z_icmp_ne e_L_marks_363 (by decide) (by decide) (fun hq => absurd hq (by decide)) (fun _ => ?_)
            refine z_iconst e_L_marks_366 ?_
            refine z_goto e_L_marks_367 ?_
            refine z_iret e_L_marks_371 (Or.inr ⟨rfl, Or.inr rfl⟩) rfl rfl ⟨rfl, _, rfl, ?_⟩
            exact ⟨rfl, hX⟩
        · refine z_aload_n e_L_marks_334 rfl ?_
          refine z_aload_n e_L_marks_335 rfl ?_
          refine z_bipush e_L_marks_336 (by decide +kernel) ?_
          refine z_callVi (M' := M_X4_told) (As := [zi 6]) (rest := [zo o]) e_L_marks_338 l_RL_9 rfl rfl rfl rfl to ⟨_, _, rfl⟩ (c_X4_told hX ⟨by decide, by decide⟩) (fun xq mq rq hq => ?_)
          obtain ⟨e1q, e2q, e3q⟩ := hq
          rw [told_6] at e1q
          subst xq mq rq
          refine z_iconst e_L_marks_341 ?_
          refine z_iadd e_L_marks_342 ?_
          refine z_iconst e_L_marks_343 ?_
          refine z_callVi (M' := M_X4_cursor) (As := [zi ((P 7) + 1), zi 0]) (rest := []) e_L_marks_344 l_RL_65 rfl rfl rfl rfl to ⟨_, _, rfl⟩ (c_X4_cursor hX ⟨by omega, by omega⟩ ⟨by decide, by decide⟩) (fun xq mq rq hq => ?_)
          obtain ⟨e1q, e2q, e3q⟩ := hq
          rw [curA_lt pk0 h7] at e1q
          subst xq mq rq
          refine z_aload_n e_L_marks_347 rfl ?_
          refine z_bipush e_L_marks_348 (by decide +kernel) ?_
          refine z_callVi (M' := M_X4_told) (As := [zi 6]) (rest := [zi (-9)]) e_L_marks_350 l_RL_9 rfl rfl rfl rfl to ⟨_, _, rfl⟩ (c_X4_told hX ⟨by decide, by decide⟩) (fun xq mq rq hq => ?_)
          obtain ⟨e1q, e2q, e3q⟩ := hq
          rw [told_6] at e1q
          subst xq mq rq
          refine z_iconst e_L_marks_353 ?_
          refine z_icmp_ne e_L_marks_354 ⟨by omega, by omega⟩ (by decide) (fun h354_3 => ?_) (fun h354_3 => ?_)
          · refine z_bipush e_L_marks_361 (by decide +kernel) ?_
            refine z_icmp_ne e_L_marks_363 (by decide) (by decide) (fun hq => absurd hq (by decide)) (fun _ => ?_)
            refine z_iconst e_L_marks_366 ?_
            refine z_goto e_L_marks_367 ?_
            refine z_iret e_L_marks_371 (Or.inr ⟨rfl, Or.inr rfl⟩) rfl rfl ⟨rfl, _, rfl, ?_⟩
            exact ⟨rfl, hX⟩
          · omega
      · have hv1 : v ≤ P 7 := by omega
        have hrb := m_row_b hH hv0 hv1
        obtain ⟨hrb0, hrb1, hrb2, hrb3, hrb4⟩ := hrb
        have hcd : m_count P = P 14 + m_last P + 1 := rfl
        have hq1 : P 14 + m_row P v < m_count P := by omega
        obtain ⟨⟨lg1, lg2⟩, lg3, lg4, lg5⟩ := line_of (P := P) (q := P 14 + m_row P v) (by omega) hq1
        have hmk := m_cur3_b hH hv0 hv1
        rw [cur_3] at hmk
        have hlnb := m_lno_b P (m_count P) (P 14 + m_row P v) (by omega)
        have hw : c_wf (P 0) (p_row P (24 + m_row P v)) := hW (24 + m_row P v) (Or.inr ⟨by omega, by omega⟩)
        have hu := n_used_b (p_row P (24 + m_row P v)) (P 0).toNat
        have h21 : p_row P (24 + m_row P v) 21 = 0 ∨ p_row P (24 + m_row P v) 21 = 1 := hw.2.2
        have hpv := p_hd_pr hH (15 + 22 * (24 + m_row P v) + m_col P v)
        have hpv : 0 ≤ (p_row P (24 + m_row P v) (m_col P v)) ∧ (p_row P (24 + m_row P v) (m_col P v)) ≤ 255 := hpv
        refine z_aload_n e_L_marks_12 rfl ?_
        refine z_iconst e_L_marks_13 ?_
        refine z_callVi (M' := M_X4_told) (As := [zi 5]) (rest := []) e_L_marks_14 l_RL_9 rfl rfl rfl rfl to ⟨_, _, rfl⟩ (c_X4_told hX ⟨by decide, by decide⟩) (fun xq mq rq hq => ?_)
        obtain ⟨e1q, e2q, e3q⟩ := hq
        rw [told_5] at e1q
        subst xq mq rq
        refine z_aload_n e_L_marks_17 rfl ?_
        refine z_iload_n e_L_marks_18 rfl ?_
        refine z_iconst e_L_marks_19 ?_
        refine z_callVi (M' := M_X4_cursor) (As := [zi v, zi 0]) (rest := [zi (P 14)]) e_L_marks_20 l_RL_65 rfl rfl rfl rfl to ⟨_, _, rfl⟩ (c_X4_cursor hX ⟨by omega, by omega⟩ ⟨by decide, by decide⟩) (fun xq mq rq hq => ?_)
        obtain ⟨e1q, e2q, e3q⟩ := hq
        rw [curA_in hH hv0 hv1 (by decide) (by decide), cur_0] at e1q
        subst xq mq rq
        refine z_iadd e_L_marks_23 ?_
        refine z_istore_n (ls' := [some (zo o), some (zi v), some (zi ((P 14) + (m_row P v))), none, none, none, none, none, none, none, none]) e_L_marks_24 rfl rfl rfl ?_
        refine z_aload_n e_L_marks_25 rfl ?_
        refine z_iload_n e_L_marks_26 rfl ?_
        refine z_iconst e_L_marks_27 ?_
        refine z_callVi (M' := M_X4_cursor) (As := [zi v, zi 2]) (rest := []) e_L_marks_28 l_RL_65 rfl rfl rfl rfl to ⟨_, _, rfl⟩ (c_X4_cursor hX ⟨by omega, by omega⟩ ⟨by decide, by decide⟩) (fun xq mq rq hq => ?_)
        obtain ⟨e1q, e2q, e3q⟩ := hq
        rw [curA_in hH hv0 hv1 (by decide) (by decide), cur_2] at e1q
        subst xq mq rq
        refine z_istore_n (ls' := [some (zo o), some (zi v), some (zi ((P 14) + (m_row P v))), some (zi (m_lno P (m_count P) (P 14 + m_row P v))), none, none, none, none, none, none, none]) e_L_marks_31 rfl rfl rfl ?_
        refine z_iconst e_L_marks_32 ?_
        refine z_istore (ls' := [some (zo o), some (zi v), some (zi ((P 14) + (m_row P v))), some (zi (m_lno P (m_count P) (P 14 + m_row P v))), some (zi 0), none, none, none, none, none, none]) e_L_marks_33 rfl rfl rfl ?_
        refine z_iconst e_L_marks_35 ?_
        refine z_istore (ls' := [some (zo o), some (zi v), some (zi ((P 14) + (m_row P v))), some (zi (m_lno P (m_count P) (P 14 + m_row P v))), some (zi 0), some (zi 0), none, none, none, none, none]) e_L_marks_36 rfl rfl rfl ?_
        have loop38 : ∀ (nn : Nat) (b : Int) (k : Int), ((m_lno P (m_count P) (P 14 + m_row P v)) - k).toNat = nn → (0 ≤ k ∧ k ≤ (m_lno P (m_count P) (P 14 + m_row P v)) ∧ 0 ≤ b ∧ b ≤ (m_count P) ∧ m_lbeg P (m_count P) k = b ∧ m_lno P (m_count P) b = k) → z_A M_L_marks E 0 0 38 [some (zo o), some (zi v), some (zi ((P 14) + (m_row P v))), some (zi (m_lno P (m_count P) (P 14 + m_row P v))), some (zi b), some (zi k), none, none, none, none, none] [] ma ra (z_qi E (fun x m r => x = 1 ∧ z_X E o m r P n nx)) := by
          intro nn
          induction nn using Nat.strongRecOn with
          | _ nn ih38 =>
            intro b k hmeas hinv
            obtain ⟨hk0, hk1, hb0, hb1, hlb, hlo⟩ := hinv
            refine z_iload e_L_marks_38 rfl ?_
            refine z_iload_n e_L_marks_40 rfl ?_
            refine z_icmp_ge e_L_marks_41 ⟨by omega, by omega⟩ ⟨by omega, by omega⟩ (fun h41_4 => ?_) (fun h41_4 => ?_)
            · have hkl : k = (m_lno P (m_count P) (P 14 + m_row P v)) := by omega
              have hbb : m_lbeg P (m_count P) (m_lno P (m_count P) (P 14 + m_row P v)) = b := by rw [← hkl]; exact hlb
              rw [hbb] at lg1 lg2 lg3
              have hbn2 : b < m_count P := by omega
              refine z_iload_n e_L_marks_62 rfl ?_
              refine z_iload e_L_marks_63 rfl ?_
              refine z_icmp_lt e_L_marks_65 ⟨by omega, by omega⟩ ⟨by omega, by omega⟩ (fun h65_5 => ?_) (fun h65_5 => ?_)
              · omega
              · refine z_iload_n e_L_marks_68 rfl ?_
                refine z_iload e_L_marks_69 rfl ?_
                refine z_aload_n e_L_marks_71 rfl ?_
                refine z_iload_n e_L_marks_72 rfl ?_
                refine z_iconst e_L_marks_73 ?_
                refine z_callVi (M' := M_X4_line) (As := [zi (m_lno P (m_count P) (P 14 + m_row P v)), zi 1]) (rest := [zi b, zi ((P 14) + (m_row P v))]) e_L_marks_74 l_RL_59 rfl rfl rfl rfl to ⟨_, _, rfl⟩ (c_X4_line hX ⟨by omega, by omega⟩ ⟨by decide, by decide⟩) (fun xq mq rq hq => ?_)
                obtain ⟨e1q, e2q, e3q⟩ := hq
                rw [lineA_in hlnb.1 (by decide) (by decide) hbb hbn2, lof_1, lg3] at e1q
                subst xq mq rq
                refine z_iadd e_L_marks_77 ?_
                refine z_icmp_ge e_L_marks_78 ⟨by omega, by omega⟩ ⟨by omega, by omega⟩ (fun h78_6 => ?_) (fun h78_6 => ?_)
                · omega
                · refine z_aload_n e_L_marks_81 rfl ?_
                  refine z_iload_n e_L_marks_82 rfl ?_
                  refine z_iconst e_L_marks_83 ?_
                  refine z_callVi (M' := M_X4_cursor) (As := [zi v, zi 3]) (rest := []) e_L_marks_84 l_RL_65 rfl rfl rfl rfl to ⟨_, _, rfl⟩ (c_X4_cursor hX ⟨by omega, by omega⟩ ⟨by decide, by decide⟩) (fun xq mq rq hq => ?_)
                  obtain ⟨e1q, e2q, e3q⟩ := hq
                  rw [curA_in hH hv0 hv1 (by decide) (by decide), cur_3] at e1q
                  subst xq mq rq
                  refine z_if_lt e_L_marks_87 ⟨by omega, by omega⟩ (fun h87_7 => ?_) (fun h87_7 => ?_)
                  · omega
                  · refine z_aload_n e_L_marks_90 rfl ?_
                    refine z_iload_n e_L_marks_91 rfl ?_
                    refine z_iconst e_L_marks_92 ?_
                    refine z_callVi (M' := M_X4_cursor) (As := [zi v, zi 1]) (rest := []) e_L_marks_93 l_RL_65 rfl rfl rfl rfl to ⟨_, _, rfl⟩ (c_X4_cursor hX ⟨by omega, by omega⟩ ⟨by decide, by decide⟩) (fun xq mq rq hq => ?_)
                    obtain ⟨e1q, e2q, e3q⟩ := hq
                    rw [curA_in hH hv0 hv1 (by decide) (by decide), cur_1] at e1q
                    subst xq mq rq
                    refine z_aload_n e_L_marks_96 rfl ?_
                    refine z_iconst e_L_marks_97 ?_
                    refine z_callVi (M' := M_X4_told) (As := [zi 0]) (rest := [zi (m_col P v)]) e_L_marks_98 l_RL_9 rfl rfl rfl rfl to ⟨_, _, rfl⟩ (c_X4_told hX ⟨by decide, by decide⟩) (fun xq mq rq hq => ?_)
                    obtain ⟨e1q, e2q, e3q⟩ := hq
                    rw [told_0] at e1q
                    subst xq mq rq
                    refine z_icmp_ge e_L_marks_101 ⟨by omega, by omega⟩ ⟨by omega, by omega⟩ (fun h101_8 => ?_) (fun h101_8 => ?_)
                    · omega
                    · refine z_iconst e_L_marks_104 ?_
                      refine z_goto e_L_marks_105 ?_
                      refine z_istore (ls' := [some (zo o), some (zi v), some (zi ((P 14) + (m_row P v))), some (zi (m_lno P (m_count P) (P 14 + m_row P v))), some (zi b), some (zi 1), none, none, none, none, none]) e_L_marks_109 rfl rfl rfl ?_
                      refine z_aload_n e_L_marks_111 rfl ?_
                      refine z_iload_n e_L_marks_112 rfl ?_
                      refine z_iconst e_L_marks_113 ?_
                      refine z_callVi (M' := M_X4_cursor) (As := [zi v, zi 1]) (rest := []) e_L_marks_114 l_RL_65 rfl rfl rfl rfl to ⟨_, _, rfl⟩ (c_X4_cursor hX ⟨by omega, by omega⟩ ⟨by decide, by decide⟩) (fun xq mq rq hq => ?_)
                      obtain ⟨e1q, e2q, e3q⟩ := hq
                      rw [curA_in hH hv0 hv1 (by decide) (by decide), cur_1] at e1q
                      subst xq mq rq
                      refine z_istore (ls' := [some (zo o), some (zi v), some (zi ((P 14) + (m_row P v))), some (zi (m_lno P (m_count P) (P 14 + m_row P v))), some (zi b), some (zi 1), some (zi (m_col P v)), none, none, none, none]) e_L_marks_117 rfl rfl rfl ?_
                      rcases Classical.em (128 ≤ (p_row P (24 + m_row P v) (m_col P v))) with hR | hR
                      · have hA : 1 ≤ m_col P v ∧ 193 ≤ (p_row P (24 + m_row P v) (m_col P v)) ∧ (p_row P (24 + m_row P v) (m_col P v)) ≤ 218 ∧ p_row P (24 + m_row P v) (m_col P v - 1) = (p_row P (24 + m_row P v) (m_col P v)) - 128 := by
                          rcases hw.1 (m_col P v) (by omega) (by omega) with x | x
                          · omega
                          · exact ⟨x.2.2.1, x.1, x.2.1, x.2.2.2⟩
                        obtain ⟨a1, a2, a3, a4⟩ := hA
                        refine z_aload_n e_L_marks_119 rfl ?_
                        refine z_aload_n e_L_marks_120 rfl ?_
                        refine z_iload_n e_L_marks_121 rfl ?_
                        refine z_iconst e_L_marks_122 ?_
                        refine z_callVi (M' := M_X4_cursor) (As := [zi v, zi 0]) (rest := [zo o]) e_L_marks_123 l_RL_65 rfl rfl rfl rfl to ⟨_, _, rfl⟩ (c_X4_cursor hX ⟨by omega, by omega⟩ ⟨by decide, by decide⟩) (fun xq mq rq hq => ?_)
                        obtain ⟨e1q, e2q, e3q⟩ := hq
                        rw [curA_in hH hv0 hv1 (by decide) (by decide), cur_0] at e1q
                        subst xq mq rq
                        refine z_iload e_L_marks_126 rfl ?_
                        refine z_callVi (M' := M_X4_cell) (As := [zi (m_row P v), zi (m_col P v)]) (rest := []) e_L_marks_128 l_RL_53 rfl rfl rfl rfl to ⟨_, _, rfl⟩ (c_X4_cell hX ⟨by omega, by omega⟩ ⟨by omega, by omega⟩) (fun xq mq rq hq => ?_)
                        obtain ⟨e1q, e2q, e3q⟩ := hq
                        rw [cell_in hH (by omega) (by omega) (by omega) (by omega), if_pos hR] at e1q
                        subst xq mq rq
                        refine z_istore (ls' := [some (zo o), some (zi v), some (zi ((P 14) + (m_row P v))), some (zi (m_lno P (m_count P) (P 14 + m_row P v))), some (zi b), some (zi 1), some (zi (m_col P v)), some (zi ((p_row P (24 + m_row P v) (m_col P v)) - 128)), none, none, none]) e_L_marks_131 rfl rfl rfl ?_
                        refine z_iload e_L_marks_133 rfl ?_
                        refine z_if_le e_L_marks_135 ⟨by omega, by omega⟩ (fun h135_9 => ?_) (fun h135_9 => ?_)
                        · omega
                        · refine z_iload e_L_marks_138 rfl ?_
                          refine z_bipush e_L_marks_140 (by decide +kernel) ?_
                          refine z_icmp_lt e_L_marks_142 ⟨by omega, by omega⟩ (by decide) (fun h142_10 => ?_) (fun h142_10 => ?_)
                          · omega
                          · refine z_iload e_L_marks_145 rfl ?_
                            refine z_bipush e_L_marks_147 (by decide +kernel) ?_
                            refine z_icmp_gt e_L_marks_149 ⟨by omega, by omega⟩ (by decide) (fun h149_11 => ?_) (fun h149_11 => ?_)
                            · omega
                            · refine z_aload_n e_L_marks_152 rfl ?_
                              refine z_aload_n e_L_marks_153 rfl ?_
                              refine z_iload_n e_L_marks_154 rfl ?_
                              refine z_iconst e_L_marks_155 ?_
                              refine z_callVi (M' := M_X4_cursor) (As := [zi v, zi 0]) (rest := [zo o]) e_L_marks_156 l_RL_65 rfl rfl rfl rfl to ⟨_, _, rfl⟩ (c_X4_cursor hX ⟨by omega, by omega⟩ ⟨by decide, by decide⟩) (fun xq mq rq hq => ?_)
                              obtain ⟨e1q, e2q, e3q⟩ := hq
                              rw [curA_in hH hv0 hv1 (by decide) (by decide), cur_0] at e1q
                              subst xq mq rq
                              refine z_iload e_L_marks_159 rfl ?_
                              refine z_iconst e_L_marks_161 ?_
                              refine z_isub e_L_marks_162 ?_
                              refine z_callVi (M' := M_X4_cell) (As := [zi (m_row P v), zi ((m_col P v) - 1)]) (rest := []) e_L_marks_163 l_RL_53 rfl rfl rfl rfl to ⟨_, _, rfl⟩ (c_X4_cell hX ⟨by omega, by omega⟩ ⟨by omega, by omega⟩) (fun xq mq rq hq => ?_)
                              obtain ⟨e1q, e2q, e3q⟩ := hq
                              rw [cell_in hH (by omega) (by omega) (by omega) (by omega), if_neg (by omega), a4] at e1q
                              subst xq mq rq
                              refine z_iload e_L_marks_166 rfl ?_
                              refine z_icmp_ne e_L_marks_168 ⟨by omega, by omega⟩ ⟨by omega, by omega⟩ (fun h168_12 => ?_) (fun h168_12 => ?_)
                              · exact absurd rfl (by assumption)
                              · refine z_aload_n e_L_marks_171 rfl ?_
                                refine z_aload_n e_L_marks_172 rfl ?_
                                refine z_iload_n e_L_marks_173 rfl ?_
                                refine z_iconst e_L_marks_174 ?_
                                refine z_callVi (M' := M_X4_cursor) (As := [zi v, zi 0]) (rest := [zo o]) e_L_marks_175 l_RL_65 rfl rfl rfl rfl to ⟨_, _, rfl⟩ (c_X4_cursor hX ⟨by omega, by omega⟩ ⟨by decide, by decide⟩) (fun xq mq rq hq => ?_)
                                obtain ⟨e1q, e2q, e3q⟩ := hq
                                rw [curA_in hH hv0 hv1 (by decide) (by decide), cur_0] at e1q
                                subst xq mq rq
                                refine z_iload e_L_marks_178 rfl ?_
                                refine z_callSi (M' := M_L_isSecond) (As := [zo o, zi (m_row P v), zi (m_col P v)]) (rest := []) e_L_marks_180 l_RL_68 rfl rfl rfl rfl (c_L_isSecond hX (by omega) (by omega) (by omega) (by omega)) (fun xq mq rq hq => ?_)
                                obtain ⟨e1q, e2q, e3q⟩ := hq
                                rw [if_pos hR] at e1q
                                subst xq mq rq
                                refine z_if_eq e_L_marks_183 (by decide) (fun hq => absurd hq (by decide)) (fun _ => ?_)
                                refine z_iconst e_L_marks_186 ?_
                                refine z_goto e_L_marks_187 ?_
                                refine z_istore (ls' := [some (zo o), some (zi v), some (zi ((P 14) + (m_row P v))), some (zi (m_lno P (m_count P) (P 14 + m_row P v))), some (zi b), some (zi 1), some (zi (m_col P v)), some (zi ((p_row P (24 + m_row P v) (m_col P v)) - 128)), some (zi 1), none, none]) e_L_marks_191 rfl rfl rfl ?_
                                have join225_12 : ∀ (x9 : Int), ((x9 = 1 ∧ p_row P (24 + m_row P v) 21 = 1 ∧ m_col P v = P 0 - 1) ∨ (x9 = 0 ∧ ¬ (p_row P (24 + m_row P v) 21 = 1 ∧ m_col P v = P 0 - 1))) → z_A M_L_marks E 0 0 225 [some (zo o), some (zi v), some (zi ((P 14) + (m_row P v))), some (zi (m_lno P (m_count P) (P 14 + m_row P v))), some (zi b), some (zi 1), some (zi (m_col P v)), some (zi ((p_row P (24 + m_row P v) (m_col P v)) - 128)), some (zi 1), none, none] [zi x9] ma ra (z_qi E (fun x m r => x = 1 ∧ z_X E o m r P n nx)) := by
                                  intro x9 hj
                                  have h9 := hj
                                  refine z_istore (ls' := [some (zo o), some (zi v), some (zi ((P 14) + (m_row P v))), some (zi (m_lno P (m_count P) (P 14 + m_row P v))), some (zi b), some (zi 1), some (zi (m_col P v)), some (zi ((p_row P (24 + m_row P v) (m_col P v)) - 128)), some (zi 1), some (zi x9), none]) e_L_marks_225 rfl rfl rfl ?_
                                  have join276_13 : ∀ (x10 : Int), (x10 = 1 ∨ (x10 = 0 ∧ ¬ (v = 0 ∧ P 6 = 1) ∧ ¬ (n_used (p_row P (24 + m_row P v)) (P 0).toNat ≤ m_col P v ∧ P 14 + m_row P v = (m_lend P (m_count P) (P 14 + m_row P v))))) → z_A M_L_marks E 0 0 276 [some (zo o), some (zi v), some (zi ((P 14) + (m_row P v))), some (zi (m_lno P (m_count P) (P 14 + m_row P v))), some (zi b), some (zi 1), some (zi (m_col P v)), some (zi ((p_row P (24 + m_row P v) (m_col P v)) - 128)), some (zi 1), some (zi x9), none] [zi x10] ma ra (z_qi E (fun x m r => x = 1 ∧ z_X E o m r P n nx)) := by
                                    intro x10 hj
                                    have h10 := hj
                                    refine z_istore (ls' := [some (zo o), some (zi v), some (zi ((P 14) + (m_row P v))), some (zi (m_lno P (m_count P) (P 14 + m_row P v))), some (zi b), some (zi 1), some (zi (m_col P v)), some (zi ((p_row P (24 + m_row P v) (m_col P v)) - 128)), some (zi 1), some (zi x9), some (zi x10)]) e_L_marks_276 rfl rfl rfl ?_
                                    refine z_iload e_L_marks_278 rfl ?_
                                    refine z_if_eq e_L_marks_280 (by decide) (fun hq => absurd hq (by decide)) (fun _ => ?_)
                                    refine z_iload e_L_marks_283 rfl ?_
                                    refine z_if_ne e_L_marks_285 (by decide) (fun _ => ?_) (fun hq => absurd hq (by decide))
                                    refine z_iconst e_L_marks_314 ?_
                                    refine z_goto e_L_marks_315 ?_
                                    refine z_istore (ls' := [some (zo o), some (zi v), some (zi ((P 14) + (m_row P v))), some (zi (m_lno P (m_count P) (P 14 + m_row P v))), some (zi b), some (zi 1), some (zi (m_col P v)), some (zi ((p_row P (24 + m_row P v) (m_col P v)) - 128)), some (zi 1), some (zi x9), some (zi x10)]) e_L_marks_319 rfl rfl rfl ?_
                                    refine z_iload e_L_marks_321 rfl ?_
                                    refine z_if_ne e_L_marks_323 (by decide) (fun _ => ?_) (fun hq => absurd hq (by decide))
                                    refine z_iinc (y := (v + 1)) (ls' := [some (zo o), some (zi (v + 1)), some (zi ((P 14) + (m_row P v))), some (zi (m_lno P (m_count P) (P 14 + m_row P v))), some (zi b), some (zi 1), some (zi (m_col P v)), some (zi ((p_row P (24 + m_row P v) (m_col P v)) - 128)), some (zi 1), some (zi x9), some (zi x10)]) e_L_marks_328 rfl rfl rfl rfl rfl ?_
                                    refine z_goto e_L_marks_331 ?_
                                    refine z_fgt (ls' := [some (zo o), some (zi (v + 1)), none, none, none, none, none, none, none, none, none]) ⟨rfl, rfl, trivial⟩ ?_
                                    exact ih2 _ (by omega) (v + 1) ma ra rfl (⟨by omega, by omega, hX⟩)
                                  refine z_iload_n e_L_marks_227 rfl ?_
                                  refine z_if_ne e_L_marks_228 ⟨by omega, by omega⟩ (fun h228_15 => ?_) (fun h228_15 => ?_)
                                  · refine z_iload e_L_marks_240 rfl ?_
                                    refine z_aload_n e_L_marks_242 rfl ?_
                                    refine z_aload_n e_L_marks_243 rfl ?_
                                    refine z_iload_n e_L_marks_244 rfl ?_
                                    refine z_iconst e_L_marks_245 ?_
                                    refine z_callVi (M' := M_X4_cursor) (As := [zi v, zi 0]) (rest := [zo o, zi (m_col P v)]) e_L_marks_246 l_RL_65 rfl rfl rfl rfl to ⟨_, _, rfl⟩ (c_X4_cursor hX ⟨by omega, by omega⟩ ⟨by decide, by decide⟩) (fun xq mq rq hq => ?_)
                                    obtain ⟨e1q, e2q, e3q⟩ := hq
                                    rw [curA_in hH hv0 hv1 (by decide) (by decide), cur_0] at e1q
                                    subst xq mq rq
                                    refine z_iconst e_L_marks_249 ?_
                                    refine z_callVi (M' := M_X4_row) (As := [zi (m_row P v), zi 2]) (rest := [zi (m_col P v)]) e_L_marks_250 l_RL_56 rfl rfl rfl rfl to ⟨_, _, rfl⟩ (c_X4_row hX ⟨by omega, by omega⟩ ⟨by decide, by decide⟩) (fun xq mq rq hq => ?_)
                                    obtain ⟨e1q, e2q, e3q⟩ := hq
                                    rw [row_scr hH (by omega) (by omega) (by decide) (by decide), ros_2] at e1q
                                    subst xq mq rq
                                    refine z_icmp_lt e_L_marks_253 ⟨by omega, by omega⟩ ⟨by omega, by omega⟩ (fun h253_16 => ?_) (fun h253_16 => ?_)
                                    · refine z_iconst e_L_marks_275 ?_
                                      exact join276_13 0 (by omega)
                                    · refine z_iload_n e_L_marks_256 rfl ?_
                                      refine z_iload e_L_marks_257 rfl ?_
                                      refine z_aload_n e_L_marks_259 rfl ?_
                                      refine z_iload_n e_L_marks_260 rfl ?_
                                      refine z_iconst e_L_marks_261 ?_
                                      refine z_callVi (M' := M_X4_line) (As := [zi (m_lno P (m_count P) (P 14 + m_row P v)), zi 1]) (rest := [zi b, zi ((P 14) + (m_row P v))]) e_L_marks_262 l_RL_59 rfl rfl rfl rfl to ⟨_, _, rfl⟩ (c_X4_line hX ⟨by omega, by omega⟩ ⟨by decide, by decide⟩) (fun xq mq rq hq => ?_)
                                      obtain ⟨e1q, e2q, e3q⟩ := hq
                                      rw [lineA_in hlnb.1 (by decide) (by decide) hbb hbn2, lof_1, lg3] at e1q
                                      subst xq mq rq
                                      refine z_iadd e_L_marks_265 ?_
                                      refine z_iconst e_L_marks_266 ?_
                                      refine z_isub e_L_marks_267 ?_
                                      refine z_icmp_ne e_L_marks_268 ⟨by omega, by omega⟩ ⟨by omega, by omega⟩ (fun h268_17 => ?_) (fun h268_17 => ?_)
                                      · refine z_iconst e_L_marks_275 ?_
                                        exact join276_13 0 (by omega)
                                      · refine z_iconst e_L_marks_271 ?_
                                        refine z_goto e_L_marks_272 ?_
                                        exact join276_13 1 (by omega)
                                  · refine z_aload_n e_L_marks_231 rfl ?_
                                    refine z_iconst e_L_marks_232 ?_
                                    refine z_callVi (M' := M_X4_told) (As := [zi 4]) (rest := []) e_L_marks_233 l_RL_9 rfl rfl rfl rfl to ⟨_, _, rfl⟩ (c_X4_told hX ⟨by decide, by decide⟩) (fun xq mq rq hq => ?_)
                                    obtain ⟨e1q, e2q, e3q⟩ := hq
                                    rw [told_4] at e1q
                                    subst xq mq rq
                                    refine z_iconst e_L_marks_236 ?_
                                    refine z_icmp_eq e_L_marks_237 ⟨by omega, by omega⟩ (by decide) (fun h237_18 => ?_) (fun h237_18 => ?_)
                                    · refine z_iconst e_L_marks_271 ?_
                                      refine z_goto e_L_marks_272 ?_
                                      exact join276_13 1 (by omega)
                                    · refine z_iload e_L_marks_240 rfl ?_
                                      refine z_aload_n e_L_marks_242 rfl ?_
                                      refine z_aload_n e_L_marks_243 rfl ?_
                                      refine z_iload_n e_L_marks_244 rfl ?_
                                      refine z_iconst e_L_marks_245 ?_
                                      refine z_callVi (M' := M_X4_cursor) (As := [zi v, zi 0]) (rest := [zo o, zi (m_col P v)]) e_L_marks_246 l_RL_65 rfl rfl rfl rfl to ⟨_, _, rfl⟩ (c_X4_cursor hX ⟨by omega, by omega⟩ ⟨by decide, by decide⟩) (fun xq mq rq hq => ?_)
                                      obtain ⟨e1q, e2q, e3q⟩ := hq
                                      rw [curA_in hH hv0 hv1 (by decide) (by decide), cur_0] at e1q
                                      subst xq mq rq
                                      refine z_iconst e_L_marks_249 ?_
                                      refine z_callVi (M' := M_X4_row) (As := [zi (m_row P v), zi 2]) (rest := [zi (m_col P v)]) e_L_marks_250 l_RL_56 rfl rfl rfl rfl to ⟨_, _, rfl⟩ (c_X4_row hX ⟨by omega, by omega⟩ ⟨by decide, by decide⟩) (fun xq mq rq hq => ?_)
                                      obtain ⟨e1q, e2q, e3q⟩ := hq
                                      rw [row_scr hH (by omega) (by omega) (by decide) (by decide), ros_2] at e1q
                                      subst xq mq rq
                                      refine z_icmp_lt e_L_marks_253 ⟨by omega, by omega⟩ ⟨by omega, by omega⟩ (fun h253_19 => ?_) (fun h253_19 => ?_)
                                      · refine z_iconst e_L_marks_275 ?_
                                        exact join276_13 0 (by omega)
                                      · refine z_iload_n e_L_marks_256 rfl ?_
                                        refine z_iload e_L_marks_257 rfl ?_
                                        refine z_aload_n e_L_marks_259 rfl ?_
                                        refine z_iload_n e_L_marks_260 rfl ?_
                                        refine z_iconst e_L_marks_261 ?_
                                        refine z_callVi (M' := M_X4_line) (As := [zi (m_lno P (m_count P) (P 14 + m_row P v)), zi 1]) (rest := [zi b, zi ((P 14) + (m_row P v))]) e_L_marks_262 l_RL_59 rfl rfl rfl rfl to ⟨_, _, rfl⟩ (c_X4_line hX ⟨by omega, by omega⟩ ⟨by decide, by decide⟩) (fun xq mq rq hq => ?_)
                                        obtain ⟨e1q, e2q, e3q⟩ := hq
                                        rw [lineA_in hlnb.1 (by decide) (by decide) hbb hbn2, lof_1, lg3] at e1q
                                        subst xq mq rq
                                        refine z_iadd e_L_marks_265 ?_
                                        refine z_iconst e_L_marks_266 ?_
                                        refine z_isub e_L_marks_267 ?_
                                        refine z_icmp_ne e_L_marks_268 ⟨by omega, by omega⟩ ⟨by omega, by omega⟩ (fun h268_20 => ?_) (fun h268_20 => ?_)
                                        · refine z_iconst e_L_marks_275 ?_
                                          exact join276_13 0 (by omega)
                                        · refine z_iconst e_L_marks_271 ?_
                                          refine z_goto e_L_marks_272 ?_
                                          exact join276_13 1 (by omega)
                                refine z_aload_n e_L_marks_193 rfl ?_
                                refine z_aload_n e_L_marks_194 rfl ?_
                                refine z_iload_n e_L_marks_195 rfl ?_
                                refine z_iconst e_L_marks_196 ?_
                                refine z_callVi (M' := M_X4_cursor) (As := [zi v, zi 0]) (rest := [zo o]) e_L_marks_197 l_RL_65 rfl rfl rfl rfl to ⟨_, _, rfl⟩ (c_X4_cursor hX ⟨by omega, by omega⟩ ⟨by decide, by decide⟩) (fun xq mq rq hq => ?_)
                                obtain ⟨e1q, e2q, e3q⟩ := hq
                                rw [curA_in hH hv0 hv1 (by decide) (by decide), cur_0] at e1q
                                subst xq mq rq
                                refine z_iconst e_L_marks_200 ?_
                                refine z_callVi (M' := M_X4_row) (As := [zi (m_row P v), zi 1]) (rest := []) e_L_marks_201 l_RL_56 rfl rfl rfl rfl to ⟨_, _, rfl⟩ (c_X4_row hX ⟨by omega, by omega⟩ ⟨by decide, by decide⟩) (fun xq mq rq hq => ?_)
                                obtain ⟨e1q, e2q, e3q⟩ := hq
                                rw [row_scr hH (by omega) (by omega) (by decide) (by decide), ros_1] at e1q
                                subst xq mq rq
                                refine z_iconst e_L_marks_204 ?_
                                refine z_icmp_ne e_L_marks_205 ⟨by omega, by omega⟩ (by decide) (fun h205_21 => ?_) (fun h205_21 => ?_)
                                · refine z_iconst e_L_marks_224 ?_
                                  exact join225_12 0 (by omega)
                                · refine z_iload e_L_marks_208 rfl ?_
                                  refine z_aload_n e_L_marks_210 rfl ?_
                                  refine z_iconst e_L_marks_211 ?_
                                  refine z_callVi (M' := M_X4_told) (As := [zi 0]) (rest := [zi (m_col P v)]) e_L_marks_212 l_RL_9 rfl rfl rfl rfl to ⟨_, _, rfl⟩ (c_X4_told hX ⟨by decide, by decide⟩) (fun xq mq rq hq => ?_)
                                  obtain ⟨e1q, e2q, e3q⟩ := hq
                                  rw [told_0] at e1q
                                  subst xq mq rq
                                  refine z_iconst e_L_marks_215 ?_
                                  refine z_isub e_L_marks_216 ?_
                                  refine z_icmp_ne e_L_marks_217 ⟨by omega, by omega⟩ ⟨by omega, by omega⟩ (fun h217_22 => ?_) (fun h217_22 => ?_)
                                  · refine z_iconst e_L_marks_224 ?_
                                    exact join225_12 0 (by omega)
                                  · refine z_iconst e_L_marks_220 ?_
                                    refine z_goto e_L_marks_221 ?_
                                    exact join225_12 1 (by omega)
                      · refine z_aload_n e_L_marks_119 rfl ?_
                        refine z_aload_n e_L_marks_120 rfl ?_
                        refine z_iload_n e_L_marks_121 rfl ?_
                        refine z_iconst e_L_marks_122 ?_
                        refine z_callVi (M' := M_X4_cursor) (As := [zi v, zi 0]) (rest := [zo o]) e_L_marks_123 l_RL_65 rfl rfl rfl rfl to ⟨_, _, rfl⟩ (c_X4_cursor hX ⟨by omega, by omega⟩ ⟨by decide, by decide⟩) (fun xq mq rq hq => ?_)
                        obtain ⟨e1q, e2q, e3q⟩ := hq
                        rw [curA_in hH hv0 hv1 (by decide) (by decide), cur_0] at e1q
                        subst xq mq rq
                        refine z_iload e_L_marks_126 rfl ?_
                        refine z_callVi (M' := M_X4_cell) (As := [zi (m_row P v), zi (m_col P v)]) (rest := []) e_L_marks_128 l_RL_53 rfl rfl rfl rfl to ⟨_, _, rfl⟩ (c_X4_cell hX ⟨by omega, by omega⟩ ⟨by omega, by omega⟩) (fun xq mq rq hq => ?_)
                        obtain ⟨e1q, e2q, e3q⟩ := hq
                        rw [cell_in hH (by omega) (by omega) (by omega) (by omega), if_neg hR] at e1q
                        subst xq mq rq
                        refine z_istore (ls' := [some (zo o), some (zi v), some (zi ((P 14) + (m_row P v))), some (zi (m_lno P (m_count P) (P 14 + m_row P v))), some (zi b), some (zi 1), some (zi (m_col P v)), some (zi (p_row P (24 + m_row P v) (m_col P v))), none, none, none]) e_L_marks_131 rfl rfl rfl ?_
                        have join191_22 : ∀ (x8 : Int), x8 = 0 → z_A M_L_marks E 0 0 191 [some (zo o), some (zi v), some (zi ((P 14) + (m_row P v))), some (zi (m_lno P (m_count P) (P 14 + m_row P v))), some (zi b), some (zi 1), some (zi (m_col P v)), some (zi (p_row P (24 + m_row P v) (m_col P v))), none, none, none] [zi x8] ma ra (z_qi E (fun x m r => x = 1 ∧ z_X E o m r P n nx)) := by
                          intro x8 hj
                          have h8 := hj
                          refine z_istore (ls' := [some (zo o), some (zi v), some (zi ((P 14) + (m_row P v))), some (zi (m_lno P (m_count P) (P 14 + m_row P v))), some (zi b), some (zi 1), some (zi (m_col P v)), some (zi (p_row P (24 + m_row P v) (m_col P v))), some (zi x8), none, none]) e_L_marks_191 rfl rfl rfl ?_
                          have join225_23 : ∀ (x9 : Int), ((x9 = 1 ∧ p_row P (24 + m_row P v) 21 = 1 ∧ m_col P v = P 0 - 1) ∨ (x9 = 0 ∧ ¬ (p_row P (24 + m_row P v) 21 = 1 ∧ m_col P v = P 0 - 1))) → z_A M_L_marks E 0 0 225 [some (zo o), some (zi v), some (zi ((P 14) + (m_row P v))), some (zi (m_lno P (m_count P) (P 14 + m_row P v))), some (zi b), some (zi 1), some (zi (m_col P v)), some (zi (p_row P (24 + m_row P v) (m_col P v))), some (zi x8), none, none] [zi x9] ma ra (z_qi E (fun x m r => x = 1 ∧ z_X E o m r P n nx)) := by
                            intro x9 hj
                            have h9 := hj
                            refine z_istore (ls' := [some (zo o), some (zi v), some (zi ((P 14) + (m_row P v))), some (zi (m_lno P (m_count P) (P 14 + m_row P v))), some (zi b), some (zi 1), some (zi (m_col P v)), some (zi (p_row P (24 + m_row P v) (m_col P v))), some (zi x8), some (zi x9), none]) e_L_marks_225 rfl rfl rfl ?_
                            have join276_24 : ∀ (x10 : Int), (x10 = 1 ∨ (x10 = 0 ∧ ¬ (v = 0 ∧ P 6 = 1) ∧ ¬ (n_used (p_row P (24 + m_row P v)) (P 0).toNat ≤ m_col P v ∧ P 14 + m_row P v = (m_lend P (m_count P) (P 14 + m_row P v))))) → z_A M_L_marks E 0 0 276 [some (zo o), some (zi v), some (zi ((P 14) + (m_row P v))), some (zi (m_lno P (m_count P) (P 14 + m_row P v))), some (zi b), some (zi 1), some (zi (m_col P v)), some (zi (p_row P (24 + m_row P v) (m_col P v))), some (zi x8), some (zi x9), none] [zi x10] ma ra (z_qi E (fun x m r => x = 1 ∧ z_X E o m r P n nx)) := by
                              intro x10 hj
                              have h10 := hj
                              refine z_istore (ls' := [some (zo o), some (zi v), some (zi ((P 14) + (m_row P v))), some (zi (m_lno P (m_count P) (P 14 + m_row P v))), some (zi b), some (zi 1), some (zi (m_col P v)), some (zi (p_row P (24 + m_row P v) (m_col P v))), some (zi x8), some (zi x9), some (zi x10)]) e_L_marks_276 rfl rfl rfl ?_
                              refine z_iload e_L_marks_278 rfl ?_
                              refine z_if_eq e_L_marks_280 (by decide) (fun hq => absurd hq (by decide)) (fun _ => ?_)
                              refine z_iload e_L_marks_283 rfl ?_
                              refine z_if_ne e_L_marks_285 ⟨by omega, by omega⟩ (fun h285_26 => ?_) (fun h285_26 => ?_)
                              · omega
                              · refine z_iload e_L_marks_288 rfl ?_
                                refine z_if_ne e_L_marks_290 ⟨by omega, by omega⟩ (fun h290_27 => ?_) (fun h290_27 => ?_)
                                · refine z_iconst e_L_marks_314 ?_
                                  refine z_goto e_L_marks_315 ?_
                                  refine z_istore (ls' := [some (zo o), some (zi v), some (zi ((P 14) + (m_row P v))), some (zi (m_lno P (m_count P) (P 14 + m_row P v))), some (zi b), some (zi 1), some (zi (m_col P v)), some (zi (p_row P (24 + m_row P v) (m_col P v))), some (zi x8), some (zi x9), some (zi x10)]) e_L_marks_319 rfl rfl rfl ?_
                                  refine z_iload e_L_marks_321 rfl ?_
                                  refine z_if_ne e_L_marks_323 (by decide) (fun _ => ?_) (fun hq => absurd hq (by decide))
                                  refine z_iinc (y := (v + 1)) (ls' := [some (zo o), some (zi (v + 1)), some (zi ((P 14) + (m_row P v))), some (zi (m_lno P (m_count P) (P 14 + m_row P v))), some (zi b), some (zi 1), some (zi (m_col P v)), some (zi (p_row P (24 + m_row P v) (m_col P v))), some (zi x8), some (zi x9), some (zi x10)]) e_L_marks_328 rfl rfl rfl rfl rfl ?_
                                  refine z_goto e_L_marks_331 ?_
                                  refine z_fgt (ls' := [some (zo o), some (zi (v + 1)), none, none, none, none, none, none, none, none, none]) ⟨rfl, rfl, trivial⟩ ?_
                                  exact ih2 _ (by omega) (v + 1) ma ra rfl (⟨by omega, by omega, hX⟩)
                                · refine z_iload e_L_marks_293 rfl ?_
                                  refine z_if_ne e_L_marks_295 ⟨by omega, by omega⟩ (fun h295_28 => ?_) (fun h295_28 => ?_)
                                  · refine z_iconst e_L_marks_314 ?_
                                    refine z_goto e_L_marks_315 ?_
                                    refine z_istore (ls' := [some (zo o), some (zi v), some (zi ((P 14) + (m_row P v))), some (zi (m_lno P (m_count P) (P 14 + m_row P v))), some (zi b), some (zi 1), some (zi (m_col P v)), some (zi (p_row P (24 + m_row P v) (m_col P v))), some (zi x8), some (zi x9), some (zi x10)]) e_L_marks_319 rfl rfl rfl ?_
                                    refine z_iload e_L_marks_321 rfl ?_
                                    refine z_if_ne e_L_marks_323 (by decide) (fun _ => ?_) (fun hq => absurd hq (by decide))
                                    refine z_iinc (y := (v + 1)) (ls' := [some (zo o), some (zi (v + 1)), some (zi ((P 14) + (m_row P v))), some (zi (m_lno P (m_count P) (P 14 + m_row P v))), some (zi b), some (zi 1), some (zi (m_col P v)), some (zi (p_row P (24 + m_row P v) (m_col P v))), some (zi x8), some (zi x9), some (zi x10)]) e_L_marks_328 rfl rfl rfl rfl rfl ?_
                                    refine z_goto e_L_marks_331 ?_
                                    refine z_fgt (ls' := [some (zo o), some (zi (v + 1)), none, none, none, none, none, none, none, none, none]) ⟨rfl, rfl, trivial⟩ ?_
                                    exact ih2 _ (by omega) (v + 1) ma ra rfl (⟨by omega, by omega, hX⟩)
                                  · have hpc : m_pcol P v = m_col P v := if_neg (by omega)
                                    have hms : m_signA P (m_lno P (m_count P) (P 14 + m_row P v)) (m_mark P (m_count P) (m_row P v) (m_pcol P v)) = (p_row P (24 + m_row P v) (m_col P v)) := by
                                      rw [hpc, mark_sign hH (by omega) hq1 (by omega) (by omega) (by rw [rows_scr (by omega)]; exact hR) (by rw [rows_scr (by omega)]; omega) (by rw [rows_scr (by omega)]; omega), rows_scr (by omega)]
                                    refine z_aload_n e_L_marks_298 rfl ?_
                                    refine z_iload_n e_L_marks_299 rfl ?_
                                    refine z_aload_n e_L_marks_300 rfl ?_
                                    refine z_iload_n e_L_marks_301 rfl ?_
                                    refine z_iconst e_L_marks_302 ?_
                                    refine z_callVi (M' := M_X4_cursor) (As := [zi v, zi 3]) (rest := [zi (m_lno P (m_count P) (P 14 + m_row P v)), zo o]) e_L_marks_303 l_RL_65 rfl rfl rfl rfl to ⟨_, _, rfl⟩ (c_X4_cursor hX ⟨by omega, by omega⟩ ⟨by decide, by decide⟩) (fun xq mq rq hq => ?_)
                                    obtain ⟨e1q, e2q, e3q⟩ := hq
                                    rw [curA_in hH hv0 hv1 (by decide) (by decide), cur_3] at e1q
                                    subst xq mq rq
                                    refine z_callVi (M' := M_X4_sign) (As := [zi (m_lno P (m_count P) (P 14 + m_row P v)), zi (m_mark P (m_count P) (m_row P v) (m_pcol P v))]) (rest := []) e_L_marks_306 l_RL_62 rfl rfl rfl rfl to ⟨_, _, rfl⟩ (k_X4_sign hX ⟨by omega, by omega⟩ ⟨by omega, by omega⟩) (fun xq m1 r1 hq => ?_)
                                    obtain ⟨e1q, hX⟩ := hq
                                    rw [hms] at e1q
                                    subst e1q
                                    refine z_iload e_L_marks_309 rfl ?_
                                    refine z_icmp_ne e_L_marks_311 ⟨by omega, by omega⟩ ⟨by omega, by omega⟩ (fun h311_29 => ?_) (fun h311_29 => ?_)
                                    · exact absurd rfl (by assumption)
                                    · refine z_iconst e_L_marks_314 ?_
                                      refine z_goto e_L_marks_315 ?_
                                      refine z_istore (ls' := [some (zo o), some (zi v), some (zi ((P 14) + (m_row P v))), some (zi (m_lno P (m_count P) (P 14 + m_row P v))), some (zi b), some (zi 1), some (zi (m_col P v)), some (zi (p_row P (24 + m_row P v) (m_col P v))), some (zi x8), some (zi x9), some (zi x10)]) e_L_marks_319 rfl rfl rfl ?_
                                      refine z_iload e_L_marks_321 rfl ?_
                                      refine z_if_ne e_L_marks_323 (by decide) (fun _ => ?_) (fun hq => absurd hq (by decide))
                                      refine z_iinc (y := (v + 1)) (ls' := [some (zo o), some (zi (v + 1)), some (zi ((P 14) + (m_row P v))), some (zi (m_lno P (m_count P) (P 14 + m_row P v))), some (zi b), some (zi 1), some (zi (m_col P v)), some (zi (p_row P (24 + m_row P v) (m_col P v))), some (zi x8), some (zi x9), some (zi x10)]) e_L_marks_328 rfl rfl rfl rfl rfl ?_
                                      refine z_goto e_L_marks_331 ?_
                                      refine z_fgt (ls' := [some (zo o), some (zi (v + 1)), none, none, none, none, none, none, none, none, none]) ⟨rfl, rfl, trivial⟩ ?_
                                      exact ih2 _ (by omega) (v + 1) m1 r1 rfl (⟨by omega, by omega, hX⟩)
                            refine z_iload_n e_L_marks_227 rfl ?_
                            refine z_if_ne e_L_marks_228 ⟨by omega, by omega⟩ (fun h228_30 => ?_) (fun h228_30 => ?_)
                            · refine z_iload e_L_marks_240 rfl ?_
                              refine z_aload_n e_L_marks_242 rfl ?_
                              refine z_aload_n e_L_marks_243 rfl ?_
                              refine z_iload_n e_L_marks_244 rfl ?_
                              refine z_iconst e_L_marks_245 ?_
                              refine z_callVi (M' := M_X4_cursor) (As := [zi v, zi 0]) (rest := [zo o, zi (m_col P v)]) e_L_marks_246 l_RL_65 rfl rfl rfl rfl to ⟨_, _, rfl⟩ (c_X4_cursor hX ⟨by omega, by omega⟩ ⟨by decide, by decide⟩) (fun xq mq rq hq => ?_)
                              obtain ⟨e1q, e2q, e3q⟩ := hq
                              rw [curA_in hH hv0 hv1 (by decide) (by decide), cur_0] at e1q
                              subst xq mq rq
                              refine z_iconst e_L_marks_249 ?_
                              refine z_callVi (M' := M_X4_row) (As := [zi (m_row P v), zi 2]) (rest := [zi (m_col P v)]) e_L_marks_250 l_RL_56 rfl rfl rfl rfl to ⟨_, _, rfl⟩ (c_X4_row hX ⟨by omega, by omega⟩ ⟨by decide, by decide⟩) (fun xq mq rq hq => ?_)
                              obtain ⟨e1q, e2q, e3q⟩ := hq
                              rw [row_scr hH (by omega) (by omega) (by decide) (by decide), ros_2] at e1q
                              subst xq mq rq
                              refine z_icmp_lt e_L_marks_253 ⟨by omega, by omega⟩ ⟨by omega, by omega⟩ (fun h253_31 => ?_) (fun h253_31 => ?_)
                              · refine z_iconst e_L_marks_275 ?_
                                exact join276_24 0 (by omega)
                              · refine z_iload_n e_L_marks_256 rfl ?_
                                refine z_iload e_L_marks_257 rfl ?_
                                refine z_aload_n e_L_marks_259 rfl ?_
                                refine z_iload_n e_L_marks_260 rfl ?_
                                refine z_iconst e_L_marks_261 ?_
                                refine z_callVi (M' := M_X4_line) (As := [zi (m_lno P (m_count P) (P 14 + m_row P v)), zi 1]) (rest := [zi b, zi ((P 14) + (m_row P v))]) e_L_marks_262 l_RL_59 rfl rfl rfl rfl to ⟨_, _, rfl⟩ (c_X4_line hX ⟨by omega, by omega⟩ ⟨by decide, by decide⟩) (fun xq mq rq hq => ?_)
                                obtain ⟨e1q, e2q, e3q⟩ := hq
                                rw [lineA_in hlnb.1 (by decide) (by decide) hbb hbn2, lof_1, lg3] at e1q
                                subst xq mq rq
                                refine z_iadd e_L_marks_265 ?_
                                refine z_iconst e_L_marks_266 ?_
                                refine z_isub e_L_marks_267 ?_
                                refine z_icmp_ne e_L_marks_268 ⟨by omega, by omega⟩ ⟨by omega, by omega⟩ (fun h268_32 => ?_) (fun h268_32 => ?_)
                                · refine z_iconst e_L_marks_275 ?_
                                  exact join276_24 0 (by omega)
                                · refine z_iconst e_L_marks_271 ?_
                                  refine z_goto e_L_marks_272 ?_
                                  exact join276_24 1 (by omega)
                            · refine z_aload_n e_L_marks_231 rfl ?_
                              refine z_iconst e_L_marks_232 ?_
                              refine z_callVi (M' := M_X4_told) (As := [zi 4]) (rest := []) e_L_marks_233 l_RL_9 rfl rfl rfl rfl to ⟨_, _, rfl⟩ (c_X4_told hX ⟨by decide, by decide⟩) (fun xq mq rq hq => ?_)
                              obtain ⟨e1q, e2q, e3q⟩ := hq
                              rw [told_4] at e1q
                              subst xq mq rq
                              refine z_iconst e_L_marks_236 ?_
                              refine z_icmp_eq e_L_marks_237 ⟨by omega, by omega⟩ (by decide) (fun h237_33 => ?_) (fun h237_33 => ?_)
                              · refine z_iconst e_L_marks_271 ?_
                                refine z_goto e_L_marks_272 ?_
                                exact join276_24 1 (by omega)
                              · refine z_iload e_L_marks_240 rfl ?_
                                refine z_aload_n e_L_marks_242 rfl ?_
                                refine z_aload_n e_L_marks_243 rfl ?_
                                refine z_iload_n e_L_marks_244 rfl ?_
                                refine z_iconst e_L_marks_245 ?_
                                refine z_callVi (M' := M_X4_cursor) (As := [zi v, zi 0]) (rest := [zo o, zi (m_col P v)]) e_L_marks_246 l_RL_65 rfl rfl rfl rfl to ⟨_, _, rfl⟩ (c_X4_cursor hX ⟨by omega, by omega⟩ ⟨by decide, by decide⟩) (fun xq mq rq hq => ?_)
                                obtain ⟨e1q, e2q, e3q⟩ := hq
                                rw [curA_in hH hv0 hv1 (by decide) (by decide), cur_0] at e1q
                                subst xq mq rq
                                refine z_iconst e_L_marks_249 ?_
                                refine z_callVi (M' := M_X4_row) (As := [zi (m_row P v), zi 2]) (rest := [zi (m_col P v)]) e_L_marks_250 l_RL_56 rfl rfl rfl rfl to ⟨_, _, rfl⟩ (c_X4_row hX ⟨by omega, by omega⟩ ⟨by decide, by decide⟩) (fun xq mq rq hq => ?_)
                                obtain ⟨e1q, e2q, e3q⟩ := hq
                                rw [row_scr hH (by omega) (by omega) (by decide) (by decide), ros_2] at e1q
                                subst xq mq rq
                                refine z_icmp_lt e_L_marks_253 ⟨by omega, by omega⟩ ⟨by omega, by omega⟩ (fun h253_34 => ?_) (fun h253_34 => ?_)
                                · refine z_iconst e_L_marks_275 ?_
                                  exact join276_24 0 (by omega)
                                · refine z_iload_n e_L_marks_256 rfl ?_
                                  refine z_iload e_L_marks_257 rfl ?_
                                  refine z_aload_n e_L_marks_259 rfl ?_
                                  refine z_iload_n e_L_marks_260 rfl ?_
                                  refine z_iconst e_L_marks_261 ?_
                                  refine z_callVi (M' := M_X4_line) (As := [zi (m_lno P (m_count P) (P 14 + m_row P v)), zi 1]) (rest := [zi b, zi ((P 14) + (m_row P v))]) e_L_marks_262 l_RL_59 rfl rfl rfl rfl to ⟨_, _, rfl⟩ (c_X4_line hX ⟨by omega, by omega⟩ ⟨by decide, by decide⟩) (fun xq mq rq hq => ?_)
                                  obtain ⟨e1q, e2q, e3q⟩ := hq
                                  rw [lineA_in hlnb.1 (by decide) (by decide) hbb hbn2, lof_1, lg3] at e1q
                                  subst xq mq rq
                                  refine z_iadd e_L_marks_265 ?_
                                  refine z_iconst e_L_marks_266 ?_
                                  refine z_isub e_L_marks_267 ?_
                                  refine z_icmp_ne e_L_marks_268 ⟨by omega, by omega⟩ ⟨by omega, by omega⟩ (fun h268_35 => ?_) (fun h268_35 => ?_)
                                  · refine z_iconst e_L_marks_275 ?_
                                    exact join276_24 0 (by omega)
                                  · refine z_iconst e_L_marks_271 ?_
                                    refine z_goto e_L_marks_272 ?_
                                    exact join276_24 1 (by omega)
                          refine z_aload_n e_L_marks_193 rfl ?_
                          refine z_aload_n e_L_marks_194 rfl ?_
                          refine z_iload_n e_L_marks_195 rfl ?_
                          refine z_iconst e_L_marks_196 ?_
                          refine z_callVi (M' := M_X4_cursor) (As := [zi v, zi 0]) (rest := [zo o]) e_L_marks_197 l_RL_65 rfl rfl rfl rfl to ⟨_, _, rfl⟩ (c_X4_cursor hX ⟨by omega, by omega⟩ ⟨by decide, by decide⟩) (fun xq mq rq hq => ?_)
                          obtain ⟨e1q, e2q, e3q⟩ := hq
                          rw [curA_in hH hv0 hv1 (by decide) (by decide), cur_0] at e1q
                          subst xq mq rq
                          refine z_iconst e_L_marks_200 ?_
                          refine z_callVi (M' := M_X4_row) (As := [zi (m_row P v), zi 1]) (rest := []) e_L_marks_201 l_RL_56 rfl rfl rfl rfl to ⟨_, _, rfl⟩ (c_X4_row hX ⟨by omega, by omega⟩ ⟨by decide, by decide⟩) (fun xq mq rq hq => ?_)
                          obtain ⟨e1q, e2q, e3q⟩ := hq
                          rw [row_scr hH (by omega) (by omega) (by decide) (by decide), ros_1] at e1q
                          subst xq mq rq
                          refine z_iconst e_L_marks_204 ?_
                          refine z_icmp_ne e_L_marks_205 ⟨by omega, by omega⟩ (by decide) (fun h205_36 => ?_) (fun h205_36 => ?_)
                          · refine z_iconst e_L_marks_224 ?_
                            exact join225_23 0 (by omega)
                          · refine z_iload e_L_marks_208 rfl ?_
                            refine z_aload_n e_L_marks_210 rfl ?_
                            refine z_iconst e_L_marks_211 ?_
                            refine z_callVi (M' := M_X4_told) (As := [zi 0]) (rest := [zi (m_col P v)]) e_L_marks_212 l_RL_9 rfl rfl rfl rfl to ⟨_, _, rfl⟩ (c_X4_told hX ⟨by decide, by decide⟩) (fun xq mq rq hq => ?_)
                            obtain ⟨e1q, e2q, e3q⟩ := hq
                            rw [told_0] at e1q
                            subst xq mq rq
                            refine z_iconst e_L_marks_215 ?_
                            refine z_isub e_L_marks_216 ?_
                            refine z_icmp_ne e_L_marks_217 ⟨by omega, by omega⟩ ⟨by omega, by omega⟩ (fun h217_37 => ?_) (fun h217_37 => ?_)
                            · refine z_iconst e_L_marks_224 ?_
                              exact join225_23 0 (by omega)
                            · refine z_iconst e_L_marks_220 ?_
                              refine z_goto e_L_marks_221 ?_
                              exact join225_23 1 (by omega)
                        refine z_iload e_L_marks_133 rfl ?_
                        refine z_if_le e_L_marks_135 ⟨by omega, by omega⟩ (fun h135_38 => ?_) (fun h135_38 => ?_)
                        · refine z_iconst e_L_marks_190 ?_
                          exact join191_22 0 (rfl)
                        · refine z_iload e_L_marks_138 rfl ?_
                          refine z_bipush e_L_marks_140 (by decide +kernel) ?_
                          refine z_icmp_lt e_L_marks_142 ⟨by omega, by omega⟩ (by decide) (fun h142_39 => ?_) (fun h142_39 => ?_)
                          · refine z_iconst e_L_marks_190 ?_
                            exact join191_22 0 (rfl)
                          · refine z_iload e_L_marks_145 rfl ?_
                            refine z_bipush e_L_marks_147 (by decide +kernel) ?_
                            refine z_icmp_gt e_L_marks_149 ⟨by omega, by omega⟩ (by decide) (fun h149_40 => ?_) (fun h149_40 => ?_)
                            · refine z_iconst e_L_marks_190 ?_
                              exact join191_22 0 (rfl)
                            · refine z_aload_n e_L_marks_152 rfl ?_
                              refine z_aload_n e_L_marks_153 rfl ?_
                              refine z_iload_n e_L_marks_154 rfl ?_
                              refine z_iconst e_L_marks_155 ?_
                              refine z_callVi (M' := M_X4_cursor) (As := [zi v, zi 0]) (rest := [zo o]) e_L_marks_156 l_RL_65 rfl rfl rfl rfl to ⟨_, _, rfl⟩ (c_X4_cursor hX ⟨by omega, by omega⟩ ⟨by decide, by decide⟩) (fun xq mq rq hq => ?_)
                              obtain ⟨e1q, e2q, e3q⟩ := hq
                              rw [curA_in hH hv0 hv1 (by decide) (by decide), cur_0] at e1q
                              subst xq mq rq
                              refine z_iload e_L_marks_159 rfl ?_
                              refine z_iconst e_L_marks_161 ?_
                              refine z_isub e_L_marks_162 ?_
                              refine z_callVi (M' := M_X4_cell) (As := [zi (m_row P v), zi ((m_col P v) - 1)]) (rest := []) e_L_marks_163 l_RL_53 rfl rfl rfl rfl to ⟨_, _, rfl⟩ (c_X4_cell hX ⟨by omega, by omega⟩ ⟨by omega, by omega⟩) (fun xc mq rq hq => ?_)
                              obtain ⟨e1q, e2q, e3q⟩ := hq
                              have hxc : z_R xc := by rw [e1q]; exact cell_R hH
                              obtain ⟨hxc0, hxc1⟩ := hxc
                              subst mq rq
                              refine z_iload e_L_marks_166 rfl ?_
                              refine z_icmp_ne e_L_marks_168 ⟨by omega, by omega⟩ ⟨by omega, by omega⟩ (fun h168_41 => ?_) (fun h168_41 => ?_)
                              · refine z_iconst e_L_marks_190 ?_
                                exact join191_22 0 (rfl)
                              · refine z_aload_n e_L_marks_171 rfl ?_
                                refine z_aload_n e_L_marks_172 rfl ?_
                                refine z_iload_n e_L_marks_173 rfl ?_
                                refine z_iconst e_L_marks_174 ?_
                                refine z_callVi (M' := M_X4_cursor) (As := [zi v, zi 0]) (rest := [zo o]) e_L_marks_175 l_RL_65 rfl rfl rfl rfl to ⟨_, _, rfl⟩ (c_X4_cursor hX ⟨by omega, by omega⟩ ⟨by decide, by decide⟩) (fun xq mq rq hq => ?_)
                                obtain ⟨e1q, e2q, e3q⟩ := hq
                                rw [curA_in hH hv0 hv1 (by decide) (by decide), cur_0] at e1q
                                subst xq mq rq
                                refine z_iload e_L_marks_178 rfl ?_
                                refine z_callSi (M' := M_L_isSecond) (As := [zo o, zi (m_row P v), zi (m_col P v)]) (rest := []) e_L_marks_180 l_RL_68 rfl rfl rfl rfl (c_L_isSecond hX (by omega) (by omega) (by omega) (by omega)) (fun xq mq rq hq => ?_)
                                obtain ⟨e1q, e2q, e3q⟩ := hq
                                rw [if_neg hR] at e1q
                                subst xq mq rq
                                refine z_if_eq e_L_marks_183 (by decide) (fun _ => ?_) (fun hq => absurd hq (by decide))
                                refine z_iconst e_L_marks_190 ?_
                                exact join191_22 0 (rfl)
            · have hbn : b < m_count P := by
                rcases Int.lt_or_le b (m_count P) with q | q
                · exact q
                · have eb : b = m_count P := by omega
                  have h3 := m_lno_mono P (m_count P) (a := P 14 + m_row P v) (b := m_count P) (by omega) (by omega)
                  rw [eb] at hlo; omega
              have hnxt := m_lbeg_next (P := P) hb0 hbn hlo
              obtain ⟨hle, hle1, hle2, hle3⟩ := m_lend_spec (P := P) hbn
              refine z_iload e_L_marks_44 rfl ?_
              refine z_aload_n e_L_marks_46 rfl ?_
              refine z_iload e_L_marks_47 rfl ?_
              refine z_iconst e_L_marks_49 ?_
              refine z_callVi (M' := M_X4_line) (As := [zi k, zi 1]) (rest := [zi b]) e_L_marks_50 l_RL_59 rfl rfl rfl rfl to ⟨_, _, rfl⟩ (c_X4_line hX ⟨by omega, by omega⟩ ⟨by decide, by decide⟩) (fun xq mq rq hq => ?_)
              obtain ⟨e1q, e2q, e3q⟩ := hq
              rw [lineA_in hk0 (by decide) (by decide) hlb hbn, lof_1] at e1q
              subst xq mq rq
              refine z_iadd e_L_marks_53 ?_
              refine z_istore (ls' := [some (zo o), some (zi v), some (zi ((P 14) + (m_row P v))), some (zi (m_lno P (m_count P) (P 14 + m_row P v))), some (zi (b + ((m_lend P (m_count P) b) - b + 1))), some (zi k), none, none, none, none, none]) e_L_marks_54 rfl rfl rfl ?_
              refine z_iinc (y := (k + 1)) (ls' := [some (zo o), some (zi v), some (zi ((P 14) + (m_row P v))), some (zi (m_lno P (m_count P) (P 14 + m_row P v))), some (zi (b + ((m_lend P (m_count P) b) - b + 1))), some (zi (k + 1)), none, none, none, none, none]) e_L_marks_56 rfl rfl rfl rfl rfl ?_
              refine z_goto e_L_marks_59 ?_
              exact ih38 _ (by omega) (b + ((m_lend P (m_count P) b) - b + 1)) (k + 1) rfl (⟨by omega, by omega, by omega, by omega, by rw [show b + ((m_lend P (m_count P) b) - b + 1) = (m_lend P (m_count P) b) + 1 by omega]; exact hnxt.1, by rw [show b + ((m_lend P (m_count P) b) - b + 1) = (m_lend P (m_count P) b) + 1 by omega]; exact hnxt.2.1⟩)
        exact loop38 _ 0 0 rfl (⟨by omega, by omega, by omega, by omega, m_lbeg_0 (by omega), rfl⟩)
  exact loop2 _ 0 mi mr rfl (⟨by omega, by omega, hX⟩)
