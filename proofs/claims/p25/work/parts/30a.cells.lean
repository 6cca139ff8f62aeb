set_option maxHeartbeats 1000000 in
set_option maxRecDepth 100000 in
theorem c_L_cells {E : z_E} {mi : z_Mi} {mr : z_Mr} {o : Nat} {P : Int → Int} {n nx : Int} (hX : z_X E o mi mr P n nx) (hG : p_G P) : z_mi M_L_cells E [zo o] mi mr (fun x m r => x = 1 ∧ m = mi ∧ r = mr) := by
  have to := hX.1.1
  have hH : p_hd P := hX.2.2.1
  have hW := x_W hX
  obtain ⟨pw0, pw1, ph0, ph1, pf0, pf1, pf2, pr0, pr1, pc0, pc1, pp0, pp1, pk0, pk1, pi0, pi1, pkp, pP⟩ := id hH
  refine z_ofi (ls := [some (zo o), none, none, none, none, none, none, none]) rfl (fun _ _ => trivial) ⟨rfl, rfl⟩ (Nat.le_of_ble_eq_true rfl) rfl ?_
  refine z_iconst e_L_cells_0 ?_
  refine z_istore_n (ls' := [some (zo o), some (zi 0), none, none, none, none, none, none]) e_L_cells_1 rfl rfl rfl ?_
  refine z_iconst e_L_cells_2 ?_
  refine z_istore_n (ls' := [some (zo o), some (zi 0), some (zi 0), none, none, none, none, none]) e_L_cells_3 rfl rfl rfl ?_
  have loop4 : ∀ (nn : Nat) (u : Int) (r : Int), (P 1 - r).toNat = nn → (0 ≤ r ∧ r ≤ P 1 ∧ u = n_sum (fun r => m_fill P (24 + r)) r.toNat) → z_A M_L_cells E 0 0 4 [some (zo o), some (zi u), some (zi r), none, none, none, none, none] [] mi mr (z_qi E (fun x m r => x = 1 ∧ m = mi ∧ r = mr)) := by
    intro nn
    induction nn using Nat.strongRecOn with
    | _ nn ih4 =>
      intro u r hmeas hinv
      obtain ⟨hr0, hr1, hu⟩ := hinv
      refine z_iload_n e_L_cells_4 rfl ?_
      refine z_aload_n e_L_cells_5 rfl ?_
      refine z_iconst e_L_cells_6 ?_
      refine z_callVi (M' := M_X4_told) (As := [zi 1]) (rest := [zi r]) e_L_cells_7 l_RL_9 rfl rfl rfl rfl to ⟨_, _, rfl⟩ (c_X4_told hX ⟨by decide, by decide⟩) (fun xq mq rq hq => ?_)
      obtain ⟨e1q, e2q, e3q⟩ := hq
      rw [told_1] at e1q
      subst xq mq rq
      refine z_icmp_ge e_L_cells_10 ⟨by omega, by omega⟩ ⟨by omega, by omega⟩ (fun h10_1 => ?_) (fun h10_1 => ?_)
      · have hrW : r = P 1 := by omega
        subst hrW
        have huA : u = m_fillA P := hu
        have hz : p_row P (24 + (P 1 - 1)) 20 = 0 := by have := hG.2; rw [show 24 + P 1 - 1 = 24 + (P 1 - 1) by omega] at this; exact this
        have hfb := m_fillA_b hH
        refine z_aload_n e_L_cells_230 rfl ?_
        refine z_bipush e_L_cells_231 (by decide +kernel) ?_
        refine z_callVi (M' := M_X4_told) (As := [zi 9]) (rest := []) e_L_cells_233 l_RL_9 rfl rfl rfl rfl to ⟨_, _, rfl⟩ (c_X4_told hX ⟨by decide, by decide⟩) (fun xq mq rq hq => ?_)
        obtain ⟨e1q, e2q, e3q⟩ := hq
        rw [told_9] at e1q
        subst xq mq rq
        refine z_iload_n e_L_cells_236 rfl ?_
        refine z_icmp_ne e_L_cells_237 ⟨by omega, by omega⟩ ⟨by omega, by omega⟩ (fun h237_2 => ?_) (fun h237_2 => ?_)
        · omega
        · refine z_aload_n e_L_cells_240 rfl ?_
          refine z_aload_n e_L_cells_241 rfl ?_
          refine z_iconst e_L_cells_242 ?_
          refine z_callVi (M' := M_X4_told) (As := [zi 1]) (rest := [zo o]) e_L_cells_243 l_RL_9 rfl rfl rfl rfl to ⟨_, _, rfl⟩ (c_X4_told hX ⟨by decide, by decide⟩) (fun xq mq rq hq => ?_)
          obtain ⟨e1q, e2q, e3q⟩ := hq
          rw [told_1] at e1q
          subst xq mq rq
          refine z_iconst e_L_cells_246 ?_
          refine z_isub e_L_cells_247 ?_
          refine z_iconst e_L_cells_248 ?_
          refine z_callVi (M' := M_X4_row) (As := [zi ((P 1) - 1), zi 0]) (rest := []) e_L_cells_249 l_RL_56 rfl rfl rfl rfl to ⟨_, _, rfl⟩ (c_X4_row hX ⟨by omega, by omega⟩ ⟨by decide, by decide⟩) (fun xq mq rq hq => ?_)
          obtain ⟨e1q, e2q, e3q⟩ := hq
          rw [row_scr hH (by omega) (by omega) (by decide) (by decide), ros_0] at e1q
          subst xq mq rq
          refine z_if_ne e_L_cells_252 ⟨by omega, by omega⟩ (fun h252_3 => ?_) (fun h252_3 => ?_)
          · exact absurd hz (by assumption)
          · refine z_iconst e_L_cells_255 ?_
            refine z_goto e_L_cells_256 ?_
            refine z_iret e_L_cells_260 (Or.inr ⟨rfl, Or.inr rfl⟩) rfl rfl ⟨rfl, _, rfl, ?_⟩
            exact ⟨rfl, rfl, rfl⟩
      · have hrl : r < P 1 := by omega
        have hw : c_wf (P 0) (p_row P (24 + r)) := hW (24 + r) (Or.inr ⟨by omega, by omega⟩)
        have hg : gg_r (P 0) (p_row P (24 + r)) := hG.1 (24 + r) (Or.inr ⟨by omega, by omega⟩)
        refine z_iconst e_L_cells_13 ?_
        refine z_istore_n (ls' := [some (zo o), some (zi u), some (zi r), some (zi 0), none, none, none, none]) e_L_cells_14 rfl rfl rfl ?_
        refine z_iconst e_L_cells_15 ?_
        refine z_istore (ls' := [some (zo o), some (zi u), some (zi r), some (zi 0), some (zi 0), none, none, none]) e_L_cells_16 rfl rfl rfl ?_
        refine z_iconst e_L_cells_18 ?_
        refine z_istore (ls' := [some (zo o), some (zi u), some (zi r), some (zi 0), some (zi 0), some (zi 0), none, none]) e_L_cells_19 rfl rfl rfl ?_
        have loop21 : ∀ (nn : Nat) (u1 : Int) (la : Int) (sg : Int) (c : Int), (P 0 - c).toNat = nn → (0 ≤ c ∧ c ≤ P 0 ∧ (c < P 0 → ¬ 128 ≤ p_row P (24 + r) c) ∧ sg = s_sg (p_row P (24 + r)) c ∧ la = n_used (p_row P (24 + r)) c.toNat ∧ u1 = u + s_tk (p_row P (24 + r)) c) → z_A M_L_cells E 0 0 21 [some (zo o), some (zi u1), some (zi r), some (zi la), some (zi sg), some (zi c), none, none] [] mi mr (z_qi E (fun x m r => x = 1 ∧ m = mi ∧ r = mr)) := by
          intro nn
          induction nn using Nat.strongRecOn with
          | _ nn ih21 =>
            intro u1 la sg c hmeas hinv
            obtain ⟨hc0, hc1, hnr, hsg, hla, hu1⟩ := hinv
            have bla := n_used_b (p_row P (24 + r)) c.toNat
            have bsg := s_sg_b (R := p_row P (24 + r)) hc0
            have btk := s_tk_b (R := p_row P (24 + r)) hc0
            refine z_iload e_L_cells_21 rfl ?_
            refine z_aload_n e_L_cells_23 rfl ?_
            refine z_iconst e_L_cells_24 ?_
            refine z_callVi (M' := M_X4_told) (As := [zi 0]) (rest := [zi c]) e_L_cells_25 l_RL_9 rfl rfl rfl rfl to ⟨_, _, rfl⟩ (c_X4_told hX ⟨by decide, by decide⟩) (fun xq mq rq hq => ?_)
            obtain ⟨e1q, e2q, e3q⟩ := hq
            rw [told_0] at e1q
            subst xq mq rq
            refine z_icmp_ge e_L_cells_28 ⟨by omega, by omega⟩ ⟨by omega, by omega⟩ (fun h28_4 => ?_) (fun h28_4 => ?_)
            · have hcW : c = P 0 := by omega
              subst hcW
              have h20 : p_row P (24 + r) 20 = 0 ∨ p_row P (24 + r) 20 = 1 := hw.2.1
              have h21 : p_row P (24 + r) 21 = 0 ∨ p_row P (24 + r) 21 = 1 := hw.2.2
              have hl21 : p_row P (24 + r) 21 = 1 → p_row P (24 + r) 20 = 1 ∧ n_used (p_row P (24 + r)) (P 0).toNat ≤ P 0 - 1 := fun hx => ⟨(hg hx).1, by rw [n_used_z (by omega) (hg hx).2]; have := n_used_b (p_row P (24 + r)) (P 0 - 1).toNat; omega⟩
              refine z_aload_n e_L_cells_167 rfl ?_
              refine z_iload_n e_L_cells_168 rfl ?_
              refine z_iconst e_L_cells_169 ?_
              refine z_callVi (M' := M_X4_row) (As := [zi r, zi 2]) (rest := []) e_L_cells_170 l_RL_56 rfl rfl rfl rfl to ⟨_, _, rfl⟩ (c_X4_row hX ⟨by omega, by omega⟩ ⟨by decide, by decide⟩) (fun xq mq rq hq => ?_)
              obtain ⟨e1q, e2q, e3q⟩ := hq
              rw [row_scr hH hr0 (by omega) (by decide) (by decide), ros_2] at e1q
              subst xq mq rq
              refine z_iload_n e_L_cells_173 rfl ?_
              refine z_icmp_ne e_L_cells_174 ⟨by omega, by omega⟩ ⟨by omega, by omega⟩ (fun h174_5 => ?_) (fun h174_5 => ?_)
              · omega
              · refine z_aload_n e_L_cells_177 rfl ?_
                refine z_iload_n e_L_cells_178 rfl ?_
                refine z_iconst e_L_cells_179 ?_
                refine z_callVi (M' := M_X4_row) (As := [zi r, zi 3]) (rest := []) e_L_cells_180 l_RL_56 rfl rfl rfl rfl to ⟨_, _, rfl⟩ (c_X4_row hX ⟨by omega, by omega⟩ ⟨by decide, by decide⟩) (fun xq mq rq hq => ?_)
                obtain ⟨e1q, e2q, e3q⟩ := hq
                rw [row_scr hH hr0 (by omega) (by decide) (by decide), ros_3] at e1q
                subst xq mq rq
                refine z_iload e_L_cells_183 rfl ?_
                refine z_icmp_ne e_L_cells_185 ⟨by omega, by omega⟩ ⟨by omega, by omega⟩ (fun h185_6 => ?_) (fun h185_6 => ?_)
                · omega
                · refine z_aload_n e_L_cells_188 rfl ?_
                  refine z_iload_n e_L_cells_189 rfl ?_
                  refine z_iconst e_L_cells_190 ?_
                  refine z_callVi (M' := M_X4_row) (As := [zi r, zi 1]) (rest := []) e_L_cells_191 l_RL_56 rfl rfl rfl rfl to ⟨_, _, rfl⟩ (c_X4_row hX ⟨by omega, by omega⟩ ⟨by decide, by decide⟩) (fun xq mq rq hq => ?_)
                  obtain ⟨e1q, e2q, e3q⟩ := hq
                  rw [row_scr hH hr0 (by omega) (by decide) (by decide), ros_1] at e1q
                  subst xq mq rq
                  refine z_aload_n e_L_cells_194 rfl ?_
                  refine z_iload_n e_L_cells_195 rfl ?_
                  refine z_iconst e_L_cells_196 ?_
                  refine z_callVi (M' := M_X4_row) (As := [zi r, zi 0]) (rest := [zi (p_row P (24 + r) 21)]) e_L_cells_197 l_RL_56 rfl rfl rfl rfl to ⟨_, _, rfl⟩ (c_X4_row hX ⟨by omega, by omega⟩ ⟨by decide, by decide⟩) (fun xq mq rq hq => ?_)
                  obtain ⟨e1q, e2q, e3q⟩ := hq
                  rw [row_scr hH hr0 (by omega) (by decide) (by decide), ros_0] at e1q
                  subst xq mq rq
                  refine z_icmp_gt e_L_cells_200 ⟨by omega, by omega⟩ ⟨by omega, by omega⟩ (fun h200_7 => ?_) (fun h200_7 => ?_)
                  · omega
                  · refine z_aload_n e_L_cells_203 rfl ?_
                    refine z_iload_n e_L_cells_204 rfl ?_
                    refine z_iconst e_L_cells_205 ?_
                    refine z_callVi (M' := M_X4_row) (As := [zi r, zi 1]) (rest := []) e_L_cells_206 l_RL_56 rfl rfl rfl rfl to ⟨_, _, rfl⟩ (c_X4_row hX ⟨by omega, by omega⟩ ⟨by decide, by decide⟩) (fun xq mq rq hq => ?_)
                    obtain ⟨e1q, e2q, e3q⟩ := hq
                    rw [row_scr hH hr0 (by omega) (by decide) (by decide), ros_1] at e1q
                    subst xq mq rq
                    refine z_iconst e_L_cells_209 ?_
                    refine z_icmp_ne e_L_cells_210 ⟨by omega, by omega⟩ (by decide) (fun h210_8 => ?_) (fun h210_8 => ?_)
                    · refine z_iinc (y := (r + 1)) (ls' := [some (zo o), some (zi u1), some (zi (r + 1)), some (zi la), some (zi sg), some (zi (P 0)), none, none]) e_L_cells_224 rfl rfl rfl rfl rfl ?_
                      refine z_goto e_L_cells_227 ?_
                      refine z_fgt (ls' := [some (zo o), some (zi u1), some (zi (r + 1)), none, none, none, none, none]) ⟨rfl, rfl, rfl, trivial⟩ ?_
                      exact ih4 _ (by omega) u1 (r + 1) rfl (⟨by omega, by omega, by rw [n_sum_s _ hr0, ← hu]; exact hu1⟩)
                    · refine z_iload_n e_L_cells_213 rfl ?_
                      refine z_aload_n e_L_cells_214 rfl ?_
                      refine z_iconst e_L_cells_215 ?_
                      refine z_callVi (M' := M_X4_told) (As := [zi 0]) (rest := [zi la]) e_L_cells_216 l_RL_9 rfl rfl rfl rfl to ⟨_, _, rfl⟩ (c_X4_told hX ⟨by decide, by decide⟩) (fun xq mq rq hq => ?_)
                      obtain ⟨e1q, e2q, e3q⟩ := hq
                      rw [told_0] at e1q
                      subst xq mq rq
                      refine z_icmp_ne e_L_cells_219 ⟨by omega, by omega⟩ ⟨by omega, by omega⟩ (fun h219_9 => ?_) (fun h219_9 => ?_)
                      · refine z_iinc (y := (r + 1)) (ls' := [some (zo o), some (zi u1), some (zi (r + 1)), some (zi la), some (zi sg), some (zi (P 0)), none, none]) e_L_cells_224 rfl rfl rfl rfl rfl ?_
                        refine z_goto e_L_cells_227 ?_
                        refine z_fgt (ls' := [some (zo o), some (zi u1), some (zi (r + 1)), none, none, none, none, none]) ⟨rfl, rfl, rfl, trivial⟩ ?_
                        exact ih4 _ (by omega) u1 (r + 1) rfl (⟨by omega, by omega, by rw [n_sum_s _ hr0, ← hu]; exact hu1⟩)
                      · omega
            · have hcl : c < P 0 := by omega
              have hb := sc_b hw hc0 hcl (hnr hcl)
              refine z_aload_n e_L_cells_31 rfl ?_
              refine z_iload_n e_L_cells_32 rfl ?_
              refine z_iload e_L_cells_33 rfl ?_
              refine z_callVi (M' := M_X4_cell) (As := [zi r, zi c]) (rest := []) e_L_cells_35 l_RL_53 rfl rfl rfl rfl to ⟨_, _, rfl⟩ (c_X4_cell hX ⟨by omega, by omega⟩ ⟨by omega, by omega⟩) (fun xq mq rq hq => ?_)
              obtain ⟨e1q, e2q, e3q⟩ := hq
              rw [cell_in hH hr0 (by omega) (by omega) (by omega), if_neg (hnr (by omega))] at e1q
              subst xq mq rq
              refine z_istore (ls' := [some (zo o), some (zi u1), some (zi r), some (zi la), some (zi sg), some (zi c), some (zi (p_row P (24 + r) c)), none]) e_L_cells_38 rfl rfl rfl ?_
              rcases (show (65 ≤ p_row P (24 + r) c ∧ p_row P (24 + r) c ≤ 90) ∨ (p_row P (24 + r) c < 65 ∧ p_row P (24 + r) c ≠ 32) ∨ 90 < p_row P (24 + r) c ∨ p_row P (24 + r) c = 32 by omega) with hq | hq | hq | hq
              · obtain ⟨a1, a2, anx⟩ := sc_w hw hc0 hcl hq
                obtain ⟨b1, b2, b3⟩ := s_wide hw hc0 hcl hq
                refine z_iload e_L_cells_40 rfl ?_
                refine z_bipush e_L_cells_42 (by decide +kernel) ?_
                refine z_icmp_lt e_L_cells_44 ⟨by omega, by omega⟩ (by decide) (fun h44_10 => ?_) (fun h44_10 => ?_)
                · omega
                · refine z_iload e_L_cells_47 rfl ?_
                  refine z_bipush e_L_cells_49 (by decide +kernel) ?_
                  refine z_icmp_gt e_L_cells_51 ⟨by omega, by omega⟩ (by decide) (fun h51_11 => ?_) (fun h51_11 => ?_)
                  · omega
                  · refine z_iconst e_L_cells_54 ?_
                    refine z_goto e_L_cells_55 ?_
                    refine z_istore (ls' := [some (zo o), some (zi u1), some (zi r), some (zi la), some (zi sg), some (zi c), some (zi (p_row P (24 + r) c)), some (zi 1)]) e_L_cells_59 rfl rfl rfl ?_
                    refine z_iload e_L_cells_61 rfl ?_
                    refine z_if_eq e_L_cells_63 (by decide) (fun hq => absurd hq (by decide)) (fun _ => ?_)
                    refine z_iload e_L_cells_66 rfl ?_
                    refine z_iconst e_L_cells_68 ?_
                    refine z_iadd e_L_cells_69 ?_
                    refine z_aload_n e_L_cells_70 rfl ?_
                    refine z_iconst e_L_cells_71 ?_
                    refine z_callVi (M' := M_X4_told) (As := [zi 0]) (rest := [zi (c + 1)]) e_L_cells_72 l_RL_9 rfl rfl rfl rfl to ⟨_, _, rfl⟩ (c_X4_told hX ⟨by decide, by decide⟩) (fun xq mq rq hq => ?_)
                    obtain ⟨e1q, e2q, e3q⟩ := hq
                    rw [told_0] at e1q
                    subst xq mq rq
                    refine z_icmp_eq e_L_cells_75 ⟨by omega, by omega⟩ ⟨by omega, by omega⟩ (fun h75_12 => ?_) (fun h75_12 => ?_)
                    · omega
                    · refine z_aload_n e_L_cells_78 rfl ?_
                      refine z_iload_n e_L_cells_79 rfl ?_
                      refine z_iload e_L_cells_80 rfl ?_
                      refine z_iconst e_L_cells_82 ?_
                      refine z_iadd e_L_cells_83 ?_
                      refine z_callVi (M' := M_X4_cell) (As := [zi r, zi (c + 1)]) (rest := []) e_L_cells_84 l_RL_53 rfl rfl rfl rfl to ⟨_, _, rfl⟩ (c_X4_cell hX ⟨by omega, by omega⟩ ⟨by omega, by omega⟩) (fun xq mq rq hq => ?_)
                      obtain ⟨e1q, e2q, e3q⟩ := hq
                      rw [cell_in hH hr0 (by omega) (by omega) (by omega), a2, if_pos (by omega), Int.add_sub_cancel] at e1q
                      subst xq mq rq
                      refine z_iload e_L_cells_87 rfl ?_
                      refine z_icmp_eq e_L_cells_89 ⟨by omega, by omega⟩ ⟨by omega, by omega⟩ (fun h89_13 => ?_) (fun h89_13 => ?_)
                      · refine z_iload e_L_cells_94 rfl ?_
                        refine z_iload e_L_cells_96 rfl ?_
                        refine z_bipush e_L_cells_98 (by decide +kernel) ?_
                        refine z_icmp_ne e_L_cells_100 ⟨by omega, by omega⟩ (by decide) (fun h100_14 => ?_) (fun h100_14 => ?_)
                        · refine z_iconst e_L_cells_107 ?_
                          refine z_iadd e_L_cells_108 ?_
                          refine z_istore (ls' := [some (zo o), some (zi u1), some (zi r), some (zi la), some (zi (sg + 1)), some (zi c), some (zi (p_row P (24 + r) c)), some (zi 1)]) e_L_cells_109 rfl rfl rfl ?_
                          refine z_iload_n e_L_cells_111 rfl ?_
                          refine z_iload e_L_cells_112 rfl ?_
                          refine z_bipush e_L_cells_114 (by decide +kernel) ?_
                          refine z_icmp_ne e_L_cells_116 ⟨by omega, by omega⟩ (by decide) (fun h116_15 => ?_) (fun h116_15 => ?_)
                          · refine z_iload e_L_cells_123 rfl ?_
                            refine z_if_eq e_L_cells_125 (by decide) (fun hq => absurd hq (by decide)) (fun _ => ?_)
                            refine z_iconst e_L_cells_128 ?_
                            refine z_goto e_L_cells_129 ?_
                            refine z_iadd e_L_cells_133 ?_
                            refine z_istore_n (ls' := [some (zo o), some (zi (u1 + 2)), some (zi r), some (zi la), some (zi (sg + 1)), some (zi c), some (zi (p_row P (24 + r) c)), some (zi 1)]) e_L_cells_134 rfl rfl rfl ?_
                            refine z_iload e_L_cells_135 rfl ?_
                            refine z_iload e_L_cells_137 rfl ?_
                            refine z_if_eq e_L_cells_139 (by decide) (fun hq => absurd hq (by decide)) (fun _ => ?_)
                            refine z_iconst e_L_cells_142 ?_
                            refine z_goto e_L_cells_143 ?_
                            refine z_iadd e_L_cells_147 ?_
                            refine z_istore (ls' := [some (zo o), some (zi (u1 + 2)), some (zi r), some (zi la), some (zi (sg + 1)), some (zi (c + 2)), some (zi (p_row P (24 + r) c)), some (zi 1)]) e_L_cells_148 rfl rfl rfl ?_
                            refine z_iload e_L_cells_150 rfl ?_
                            refine z_bipush e_L_cells_152 (by decide +kernel) ?_
                            refine z_icmp_ne e_L_cells_154 ⟨by omega, by omega⟩ (by decide) (fun h154_16 => ?_) (fun h154_16 => ?_)
                            · refine z_iload e_L_cells_161 rfl ?_
                              refine z_istore_n (ls' := [some (zo o), some (zi (u1 + 2)), some (zi r), some (zi (c + 2)), some (zi (sg + 1)), some (zi (c + 2)), some (zi (p_row P (24 + r) c)), some (zi 1)]) e_L_cells_163 rfl rfl rfl ?_
                              refine z_goto e_L_cells_164 ?_
                              refine z_fgt (ls' := [some (zo o), some (zi (u1 + 2)), some (zi r), some (zi (c + 2)), some (zi (sg + 1)), some (zi (c + 2)), none, none]) ⟨rfl, rfl, rfl, rfl, rfl, rfl, trivial⟩ ?_
                              exact ih21 _ (by omega) (u1 + 2) (c + 2) (sg + 1) (c + 2) rfl (⟨by omega, by omega, anx, by omega, by omega, by omega⟩)
                            · omega
                          · omega
                        · omega
                      · exact absurd rfl (by assumption)
              · have anx := sc_n hw hc0 (show ¬ (65 ≤ p_row P (24 + r) c ∧ p_row P (24 + r) c ≤ 90) by omega)
                obtain ⟨b1, b2, b3⟩ := s_one hc0 (hnr hcl) hq.2
                refine z_iload e_L_cells_40 rfl ?_
                refine z_bipush e_L_cells_42 (by decide +kernel) ?_
                refine z_icmp_lt e_L_cells_44 ⟨by omega, by omega⟩ (by decide) (fun h44_17 => ?_) (fun h44_17 => ?_)
                · refine z_iconst e_L_cells_58 ?_
                  refine z_istore (ls' := [some (zo o), some (zi u1), some (zi r), some (zi la), some (zi sg), some (zi c), some (zi (p_row P (24 + r) c)), some (zi 0)]) e_L_cells_59 rfl rfl rfl ?_
                  refine z_iload e_L_cells_61 rfl ?_
                  refine z_if_eq e_L_cells_63 (by decide) (fun _ => ?_) (fun hq => absurd hq (by decide))
                  refine z_iload e_L_cells_94 rfl ?_
                  refine z_iload e_L_cells_96 rfl ?_
                  refine z_bipush e_L_cells_98 (by decide +kernel) ?_
                  refine z_icmp_ne e_L_cells_100 ⟨by omega, by omega⟩ (by decide) (fun h100_18 => ?_) (fun h100_18 => ?_)
                  · refine z_iconst e_L_cells_107 ?_
                    refine z_iadd e_L_cells_108 ?_
                    refine z_istore (ls' := [some (zo o), some (zi u1), some (zi r), some (zi la), some (zi (sg + 1)), some (zi c), some (zi (p_row P (24 + r) c)), some (zi 0)]) e_L_cells_109 rfl rfl rfl ?_
                    refine z_iload_n e_L_cells_111 rfl ?_
                    refine z_iload e_L_cells_112 rfl ?_
                    refine z_bipush e_L_cells_114 (by decide +kernel) ?_
                    refine z_icmp_ne e_L_cells_116 ⟨by omega, by omega⟩ (by decide) (fun h116_19 => ?_) (fun h116_19 => ?_)
                    · refine z_iload e_L_cells_123 rfl ?_
                      refine z_if_eq e_L_cells_125 (by decide) (fun _ => ?_) (fun hq => absurd hq (by decide))
                      refine z_iconst e_L_cells_132 ?_
                      refine z_iadd e_L_cells_133 ?_
                      refine z_istore_n (ls' := [some (zo o), some (zi (u1 + 1)), some (zi r), some (zi la), some (zi (sg + 1)), some (zi c), some (zi (p_row P (24 + r) c)), some (zi 0)]) e_L_cells_134 rfl rfl rfl ?_
                      refine z_iload e_L_cells_135 rfl ?_
                      refine z_iload e_L_cells_137 rfl ?_
                      refine z_if_eq e_L_cells_139 (by decide) (fun _ => ?_) (fun hq => absurd hq (by decide))
                      refine z_iconst e_L_cells_146 ?_
                      refine z_iadd e_L_cells_147 ?_
                      refine z_istore (ls' := [some (zo o), some (zi (u1 + 1)), some (zi r), some (zi la), some (zi (sg + 1)), some (zi (c + 1)), some (zi (p_row P (24 + r) c)), some (zi 0)]) e_L_cells_148 rfl rfl rfl ?_
                      refine z_iload e_L_cells_150 rfl ?_
                      refine z_bipush e_L_cells_152 (by decide +kernel) ?_
                      refine z_icmp_ne e_L_cells_154 ⟨by omega, by omega⟩ (by decide) (fun h154_20 => ?_) (fun h154_20 => ?_)
                      · refine z_iload e_L_cells_161 rfl ?_
                        refine z_istore_n (ls' := [some (zo o), some (zi (u1 + 1)), some (zi r), some (zi (c + 1)), some (zi (sg + 1)), some (zi (c + 1)), some (zi (p_row P (24 + r) c)), some (zi 0)]) e_L_cells_163 rfl rfl rfl ?_
                        refine z_goto e_L_cells_164 ?_
                        refine z_fgt (ls' := [some (zo o), some (zi (u1 + 1)), some (zi r), some (zi (c + 1)), some (zi (sg + 1)), some (zi (c + 1)), none, none]) ⟨rfl, rfl, rfl, rfl, rfl, rfl, trivial⟩ ?_
                        exact ih21 _ (by omega) (u1 + 1) (c + 1) (sg + 1) (c + 1) rfl (⟨by omega, by omega, anx, by omega, by omega, by omega⟩)
                      · omega
                    · omega
                  · omega
                · omega
              · have anx := sc_n hw hc0 (show ¬ (65 ≤ p_row P (24 + r) c ∧ p_row P (24 + r) c ≤ 90) by omega)
                obtain ⟨b1, b2, b3⟩ := s_one hc0 (hnr hcl) (by omega)
                refine z_iload e_L_cells_40 rfl ?_
                refine z_bipush e_L_cells_42 (by decide +kernel) ?_
                refine z_icmp_lt e_L_cells_44 ⟨by omega, by omega⟩ (by decide) (fun h44_21 => ?_) (fun h44_21 => ?_)
                · omega
                · refine z_iload e_L_cells_47 rfl ?_
                  refine z_bipush e_L_cells_49 (by decide +kernel) ?_
                  refine z_icmp_gt e_L_cells_51 ⟨by omega, by omega⟩ (by decide) (fun h51_22 => ?_) (fun h51_22 => ?_)
                  · refine z_iconst e_L_cells_58 ?_
                    refine z_istore (ls' := [some (zo o), some (zi u1), some (zi r), some (zi la), some (zi sg), some (zi c), some (zi (p_row P (24 + r) c)), some (zi 0)]) e_L_cells_59 rfl rfl rfl ?_
                    refine z_iload e_L_cells_61 rfl ?_
                    refine z_if_eq e_L_cells_63 (by decide) (fun _ => ?_) (fun hq => absurd hq (by decide))
                    refine z_iload e_L_cells_94 rfl ?_
                    refine z_iload e_L_cells_96 rfl ?_
                    refine z_bipush e_L_cells_98 (by decide +kernel) ?_
                    refine z_icmp_ne e_L_cells_100 ⟨by omega, by omega⟩ (by decide) (fun h100_23 => ?_) (fun h100_23 => ?_)
                    · refine z_iconst e_L_cells_107 ?_
                      refine z_iadd e_L_cells_108 ?_
                      refine z_istore (ls' := [some (zo o), some (zi u1), some (zi r), some (zi la), some (zi (sg + 1)), some (zi c), some (zi (p_row P (24 + r) c)), some (zi 0)]) e_L_cells_109 rfl rfl rfl ?_
                      refine z_iload_n e_L_cells_111 rfl ?_
                      refine z_iload e_L_cells_112 rfl ?_
                      refine z_bipush e_L_cells_114 (by decide +kernel) ?_
                      refine z_icmp_ne e_L_cells_116 ⟨by omega, by omega⟩ (by decide) (fun h116_24 => ?_) (fun h116_24 => ?_)
                      · refine z_iload e_L_cells_123 rfl ?_
                        refine z_if_eq e_L_cells_125 (by decide) (fun _ => ?_) (fun hq => absurd hq (by decide))
                        refine z_iconst e_L_cells_132 ?_
                        refine z_iadd e_L_cells_133 ?_
                        refine z_istore_n (ls' := [some (zo o), some (zi (u1 + 1)), some (zi r), some (zi la), some (zi (sg + 1)), some (zi c), some (zi (p_row P (24 + r) c)), some (zi 0)]) e_L_cells_134 rfl rfl rfl ?_
                        refine z_iload e_L_cells_135 rfl ?_
                        refine z_iload e_L_cells_137 rfl ?_
                        refine z_if_eq e_L_cells_139 (by decide) (fun _ => ?_) (fun hq => absurd hq (by decide))
                        refine z_iconst e_L_cells_146 ?_
                        refine z_iadd e_L_cells_147 ?_
                        refine z_istore (ls' := [some (zo o), some (zi (u1 + 1)), some (zi r), some (zi la), some (zi (sg + 1)), some (zi (c + 1)), some (zi (p_row P (24 + r) c)), some (zi 0)]) e_L_cells_148 rfl rfl rfl ?_
                        refine z_iload e_L_cells_150 rfl ?_
                        refine z_bipush e_L_cells_152 (by decide +kernel) ?_
                        refine z_icmp_ne e_L_cells_154 ⟨by omega, by omega⟩ (by decide) (fun h154_25 => ?_) (fun h154_25 => ?_)
                        · refine z_iload e_L_cells_161 rfl ?_
                          refine z_istore_n (ls' := [some (zo o), some (zi (u1 + 1)), some (zi r), some (zi (c + 1)), some (zi (sg + 1)), some (zi (c + 1)), some (zi (p_row P (24 + r) c)), some (zi 0)]) e_L_cells_163 rfl rfl rfl ?_
                          refine z_goto e_L_cells_164 ?_
                          refine z_fgt (ls' := [some (zo o), some (zi (u1 + 1)), some (zi r), some (zi (c + 1)), some (zi (sg + 1)), some (zi (c + 1)), none, none]) ⟨rfl, rfl, rfl, rfl, rfl, rfl, trivial⟩ ?_
                          exact ih21 _ (by omega) (u1 + 1) (c + 1) (sg + 1) (c + 1) rfl (⟨by omega, by omega, anx, by omega, by omega, by omega⟩)
                        · omega
                      · omega
                    · omega
                  · omega
              · have anx := sc_n hw hc0 (show ¬ (65 ≤ p_row P (24 + r) c ∧ p_row P (24 + r) c ≤ 90) by omega)
                obtain ⟨b1, b2, b3⟩ := s_blank hc0 hq
                refine z_iload e_L_cells_40 rfl ?_
                refine z_bipush e_L_cells_42 (by decide +kernel) ?_
                refine z_icmp_lt e_L_cells_44 ⟨by omega, by omega⟩ (by decide) (fun h44_26 => ?_) (fun h44_26 => ?_)
                · refine z_iconst e_L_cells_58 ?_
                  refine z_istore (ls' := [some (zo o), some (zi u1), some (zi r), some (zi la), some (zi sg), some (zi c), some (zi (p_row P (24 + r) c)), some (zi 0)]) e_L_cells_59 rfl rfl rfl ?_
                  refine z_iload e_L_cells_61 rfl ?_
                  refine z_if_eq e_L_cells_63 (by decide) (fun _ => ?_) (fun hq => absurd hq (by decide))
                  refine z_iload e_L_cells_94 rfl ?_
                  refine z_iload e_L_cells_96 rfl ?_
                  refine z_bipush e_L_cells_98 (by decide +kernel) ?_
                  refine z_icmp_ne e_L_cells_100 ⟨by omega, by omega⟩ (by decide) (fun h100_27 => ?_) (fun h100_27 => ?_)
                  · omega
                  · refine z_iconst e_L_cells_103 ?_
                    refine z_goto e_L_cells_104 ?_
                    refine z_iadd e_L_cells_108 ?_
                    refine z_istore (ls' := [some (zo o), some (zi u1), some (zi r), some (zi la), some (zi (sg + 0)), some (zi c), some (zi (p_row P (24 + r) c)), some (zi 0)]) e_L_cells_109 rfl rfl rfl ?_
                    refine z_iload_n e_L_cells_111 rfl ?_
                    refine z_iload e_L_cells_112 rfl ?_
                    refine z_bipush e_L_cells_114 (by decide +kernel) ?_
                    refine z_icmp_ne e_L_cells_116 ⟨by omega, by omega⟩ (by decide) (fun h116_28 => ?_) (fun h116_28 => ?_)
                    · omega
                    · refine z_iconst e_L_cells_119 ?_
                      refine z_goto e_L_cells_120 ?_
                      refine z_iadd e_L_cells_133 ?_
                      refine z_istore_n (ls' := [some (zo o), some (zi (u1 + 0)), some (zi r), some (zi la), some (zi (sg + 0)), some (zi c), some (zi (p_row P (24 + r) c)), some (zi 0)]) e_L_cells_134 rfl rfl rfl ?_
                      refine z_iload e_L_cells_135 rfl ?_
                      refine z_iload e_L_cells_137 rfl ?_
                      refine z_if_eq e_L_cells_139 (by decide) (fun _ => ?_) (fun hq => absurd hq (by decide))
                      refine z_iconst e_L_cells_146 ?_
                      refine z_iadd e_L_cells_147 ?_
                      refine z_istore (ls' := [some (zo o), some (zi (u1 + 0)), some (zi r), some (zi la), some (zi (sg + 0)), some (zi (c + 1)), some (zi (p_row P (24 + r) c)), some (zi 0)]) e_L_cells_148 rfl rfl rfl ?_
                      refine z_iload e_L_cells_150 rfl ?_
                      refine z_bipush e_L_cells_152 (by decide +kernel) ?_
                      refine z_icmp_ne e_L_cells_154 ⟨by omega, by omega⟩ (by decide) (fun h154_29 => ?_) (fun h154_29 => ?_)
                      · omega
                      · refine z_iload_n e_L_cells_157 rfl ?_
                        refine z_goto e_L_cells_158 ?_
                        refine z_istore_n (ls' := [some (zo o), some (zi (u1 + 0)), some (zi r), some (zi la), some (zi (sg + 0)), some (zi (c + 1)), some (zi (p_row P (24 + r) c)), some (zi 0)]) e_L_cells_163 rfl rfl rfl ?_
                        refine z_goto e_L_cells_164 ?_
                        refine z_fgt (ls' := [some (zo o), some (zi (u1 + 0)), some (zi r), some (zi la), some (zi (sg + 0)), some (zi (c + 1)), none, none]) ⟨rfl, rfl, rfl, rfl, rfl, rfl, trivial⟩ ?_
                        exact ih21 _ (by omega) (u1 + 0) la (sg + 0) (c + 1) rfl (⟨by omega, by omega, anx, by omega, by omega, by omega⟩)
                · omega
        exact loop21 _ u 0 0 0 rfl (⟨by omega, by omega, fun _ => c_wf_0 hw (by omega), rfl, rfl, (Int.add_zero u).symm⟩)
  exact loop4 _ 0 0 rfl (⟨by omega, by omega, rfl⟩)
