set_option maxHeartbeats 1000000 in
set_option maxRecDepth 100000 in
theorem c_L_lines {E : z_E} {mi : z_Mi} {mr : z_Mr} {o : Nat} {P : Int → Int} {n nx : Int} (hX : z_X E o mi mr P n nx) (hG : p_G P) : z_mi M_L_lines E [zo o] mi mr (fun x m r => x = 1 ∧ z_X E o m r P n nx) := by
  have to := hX.1.1
  have hH : p_hd P := hX.2.2.1
  have hW := x_W hX
  obtain ⟨pw0, pw1, ph0, ph1, pf0, pf1, pf2, pr0, pr1, pc0, pc1, pp0, pp1, pk0, pk1, pi0, pi1, pkp, pP⟩ := id hH
  have hcb := m_count_b hH
  have hlb0 := m_lno_b P (m_count P) (m_count P) (by omega)
  refine z_ofi (ls := [some (zo o), none, none, none, none, none, none, none, none, none]) rfl (fun _ _ => trivial) ⟨rfl, rfl⟩ (Nat.le_of_ble_eq_true rfl) rfl ?_
  refine z_iconst e_L_lines_0 ?_
  refine z_istore_n (ls' := [some (zo o), some (zi 0), none, none, none, none, none, none, none, none]) e_L_lines_1 rfl rfl rfl ?_
  refine z_aload_n e_L_lines_2 rfl ?_
  refine z_iconst e_L_lines_3 ?_
  refine z_callVi (M' := M_X4_told) (As := [zi 5]) (rest := []) e_L_lines_4 l_RL_9 rfl rfl rfl rfl to ⟨_, _, rfl⟩ (c_X4_told hX ⟨by decide, by decide⟩) (fun xq mq rq hq => ?_)
  obtain ⟨e1q, e2q, e3q⟩ := hq
  rw [told_5] at e1q
  subst xq mq rq
  refine z_istore_n (ls' := [some (zo o), some (zi 0), some (zi (P 14)), none, none, none, none, none, none, none]) e_L_lines_7 rfl rfl rfl ?_
  refine z_iconst e_L_lines_8 ?_
  refine z_istore_n (ls' := [some (zo o), some (zi 0), some (zi (P 14)), some (zi 0), none, none, none, none, none, none]) e_L_lines_9 rfl rfl rfl ?_
  have loop10 : ∀ (nn : Nat) (b : Int) (k : Int) (ma : z_Mi) (ra : z_Mr), (m_lno P (m_count P) (m_count P) - k).toNat = nn → (0 ≤ k ∧ k ≤ m_lno P (m_count P) (m_count P) ∧ 0 ≤ b ∧ b ≤ (m_count P) ∧ m_lbeg P (m_count P) k = b ∧ m_lno P (m_count P) b = k ∧ z_X E o ma ra P n nx) → z_A M_L_lines E 0 0 10 [some (zo o), some (zi b), some (zi (P 14)), some (zi k), none, none, none, none, none, none] [] ma ra (z_qi E (fun x m r => x = 1 ∧ z_X E o m r P n nx)) := by
    intro nn
    induction nn using Nat.strongRecOn with
    | _ nn ih10 =>
      intro b k ma ra hmeas hinv
      obtain ⟨hk0, hk1, hb0, hb1, hlb, hlo, hX⟩ := hinv
      refine z_iload_n e_L_lines_10 rfl ?_
      refine z_aload_n e_L_lines_11 rfl ?_
      refine z_bipush e_L_lines_12 (by decide +kernel) ?_
      refine z_callVi (M' := M_X4_told) (As := [zi 7]) (rest := [zi k]) e_L_lines_14 l_RL_9 rfl rfl rfl rfl to ⟨_, _, rfl⟩ (c_X4_told hX ⟨by decide, by decide⟩) (fun xq mq rq hq => ?_)
      obtain ⟨e1q, e2q, e3q⟩ := hq
      rw [told_7] at e1q
      subst xq mq rq
      refine z_icmp_ge e_L_lines_17 ⟨by omega, by omega⟩ ⟨by omega, by omega⟩ (fun h17_1 => ?_) (fun h17_1 => ?_)
      · have hbn : b = (m_count P) := by
          rcases Int.lt_or_le b (m_count P) with q | q
          · have h1 := m_lno_next (P := P) hb0 q
            have h2 := (m_lend_spec (P := P) q)
            have h3 := m_lno_mono P (m_count P) (a := m_lend P (m_count P) b + 1) (b := (m_count P)) (by omega) (by omega)
            omega
          · omega
        refine z_iload_n e_L_lines_273 rfl ?_
        refine z_aload_n e_L_lines_274 rfl ?_
        refine z_bipush e_L_lines_275 (by decide +kernel) ?_
        refine z_callVi (M' := M_X4_told) (As := [zi 8]) (rest := [zi b]) e_L_lines_277 l_RL_9 rfl rfl rfl rfl to ⟨_, _, rfl⟩ (c_X4_told hX ⟨by decide, by decide⟩) (fun xq mq rq hq => ?_)
        obtain ⟨e1q, e2q, e3q⟩ := hq
        rw [told_8] at e1q
        subst xq mq rq
        refine z_icmp_ne e_L_lines_280 ⟨by omega, by omega⟩ ⟨by omega, by omega⟩ (fun h280_2 => ?_) (fun h280_2 => ?_)
        · omega
        · refine z_iload_n e_L_lines_283 rfl ?_
          refine z_iload_n e_L_lines_284 rfl ?_
          refine z_aload_n e_L_lines_285 rfl ?_
          refine z_iconst e_L_lines_286 ?_
          refine z_iconst e_L_lines_287 ?_
          refine z_callVi (M' := M_X4_cursor) (As := [zi 0, zi 0]) (rest := [zi (P 14), zi b]) e_L_lines_288 l_RL_65 rfl rfl rfl rfl to ⟨_, _, rfl⟩ (c_X4_cursor hX ⟨by decide, by decide⟩ ⟨by decide, by decide⟩) (fun xq mq rq hq => ?_)
          obtain ⟨e1q, e2q, e3q⟩ := hq
          rw [curA_in hH (by decide) pk0 (by decide) (by decide), cur_0, show m_row P 0 = P 4 from if_pos rfl] at e1q
          subst xq mq rq
          refine z_iadd e_L_lines_291 ?_
          refine z_iconst e_L_lines_292 ?_
          refine z_iadd e_L_lines_293 ?_
          refine z_icmp_lt e_L_lines_294 ⟨by omega, by omega⟩ ⟨by omega, by omega⟩ (fun h294_3 => ?_) (fun h294_3 => ?_)
          · omega
          · refine z_aload_n e_L_lines_297 rfl ?_
            refine z_aload_n e_L_lines_298 rfl ?_
            refine z_bipush e_L_lines_299 (by decide +kernel) ?_
            refine z_callVi (M' := M_X4_told) (As := [zi 7]) (rest := [zo o]) e_L_lines_301 l_RL_9 rfl rfl rfl rfl to ⟨_, _, rfl⟩ (c_X4_told hX ⟨by decide, by decide⟩) (fun xq mq rq hq => ?_)
            obtain ⟨e1q, e2q, e3q⟩ := hq
            rw [told_7] at e1q
            subst xq mq rq
            refine z_iconst e_L_lines_304 ?_
            refine z_callVi (M' := M_X4_line) (As := [zi (m_lno P (m_count P) (m_count P)), zi 0]) (rest := []) e_L_lines_305 l_RL_59 rfl rfl rfl rfl to ⟨_, _, rfl⟩ (c_X4_line hX ⟨by omega, by omega⟩ ⟨by decide, by decide⟩) (fun xq mq rq hq => ?_)
            obtain ⟨e1q, e2q, e3q⟩ := hq
            rw [lineA_end hH (by decide) (by decide)] at e1q
            subst xq mq rq
            refine z_bipush e_L_lines_308 (by decide +kernel) ?_
            refine z_icmp_ne e_L_lines_310 (by decide) (by decide) (fun hq => absurd hq (by decide)) (fun _ => ?_)
            refine z_iload_n e_L_lines_313 rfl ?_
            refine z_bipush e_L_lines_314 (by decide +kernel) ?_
            refine z_icmp_gt e_L_lines_316 ⟨by omega, by omega⟩ (by decide) (fun h316_4 => ?_) (fun h316_4 => ?_)
            · omega
            · refine z_iconst e_L_lines_319 ?_
              refine z_goto e_L_lines_320 ?_
              refine z_iret e_L_lines_324 (Or.inr ⟨rfl, Or.inr rfl⟩) rfl rfl ⟨rfl, _, rfl, ?_⟩
              exact ⟨rfl, hX⟩
      · have hbn : b < (m_count P) := by
          rcases Int.lt_or_le b (m_count P) with q | q
          · exact q
          · have eb : b = (m_count P) := by omega
            rw [eb] at hlo; omega
        have hnxt := m_lbeg_next (P := P) hb0 hbn hlo
        obtain ⟨hle, hle1, hle2, hle3⟩ := m_lend_spec (P := P) hbn
        have hlen := signs_len (b := b) (e := (m_lend P (m_count P) b)) hH
        have hll := m_line_len (b := b) (e := (m_lend P (m_count P) b)) hH hb0 hle (by omega)
        have hl2 := lof_2 (P := P) (b := b) (e := (m_lend P (m_count P) b))
        refine z_aload_n e_L_lines_20 rfl ?_
        refine z_iload_n e_L_lines_21 rfl ?_
        refine z_iconst e_L_lines_22 ?_
        refine z_callVi (M' := M_X4_line) (As := [zi k, zi 1]) (rest := []) e_L_lines_23 l_RL_59 rfl rfl rfl rfl to ⟨_, _, rfl⟩ (c_X4_line hX ⟨by omega, by omega⟩ ⟨by decide, by decide⟩) (fun xq mq rq hq => ?_)
        obtain ⟨e1q, e2q, e3q⟩ := hq
        rw [lineA_in hk0 (by decide) (by decide) hlb hbn, lof_1] at e1q
        subst xq mq rq
        refine z_istore (ls' := [some (zo o), some (zi b), some (zi (P 14)), some (zi k), some (zi ((m_lend P (m_count P) b) - b + 1)), none, none, none, none, none]) e_L_lines_26 rfl rfl rfl ?_
        refine z_iload_n e_L_lines_28 rfl ?_
        refine z_istore (ls' := [some (zo o), some (zi b), some (zi (P 14)), some (zi k), some (zi ((m_lend P (m_count P) b) - b + 1)), some (zi b), none, none, none, none]) e_L_lines_29 rfl rfl rfl ?_
        refine z_iload_n e_L_lines_31 rfl ?_
        refine z_iload e_L_lines_32 rfl ?_
        refine z_iadd e_L_lines_34 ?_
        refine z_istore_n (ls' := [some (zo o), some (zi (b + ((m_lend P (m_count P) b) - b + 1))), some (zi (P 14)), some (zi k), some (zi ((m_lend P (m_count P) b) - b + 1)), some (zi b), none, none, none, none]) e_L_lines_35 rfl rfl rfl ?_
        refine z_iload e_L_lines_36 rfl ?_
        refine z_istore (ls' := [some (zo o), some (zi (b + ((m_lend P (m_count P) b) - b + 1))), some (zi (P 14)), some (zi k), some (zi ((m_lend P (m_count P) b) - b + 1)), some (zi b), some (zi b), none, none, none]) e_L_lines_38 rfl rfl rfl ?_
        have loop40 : ∀ (nn : Nat) (t : Int), ((m_lend P (m_count P) b) + 1 - t).toNat = nn → (b ≤ t ∧ t ≤ (m_lend P (m_count P) b) + 1) → z_A M_L_lines E 0 0 40 [some (zo o), some (zi (b + ((m_lend P (m_count P) b) - b + 1))), some (zi (P 14)), some (zi k), some (zi ((m_lend P (m_count P) b) - b + 1)), some (zi b), some (zi t), none, none, none] [] ma ra (z_qi E (fun x m r => x = 1 ∧ z_X E o m r P n nx)) := by
          intro nn
          induction nn using Nat.strongRecOn with
          | _ nn ih40 =>
            intro t hmeas hinv
            obtain ⟨ht0, ht1⟩ := hinv
            refine z_iload e_L_lines_40 rfl ?_
            refine z_iload_n e_L_lines_42 rfl ?_
            refine z_icmp_ge e_L_lines_43 ⟨by omega, by omega⟩ ⟨by omega, by omega⟩ (fun h43_5 => ?_) (fun h43_5 => ?_)
            · refine z_iload_n e_L_lines_105 rfl ?_
              refine z_iload_n e_L_lines_106 rfl ?_
              refine z_icmp_ge e_L_lines_107 ⟨by omega, by omega⟩ ⟨by omega, by omega⟩ (fun h107_6 => ?_) (fun h107_6 => ?_)
              · refine z_iload_n e_L_lines_115 rfl ?_
                refine z_iload e_L_lines_116 rfl ?_
                refine z_icmp_le e_L_lines_118 ⟨by omega, by omega⟩ ⟨by omega, by omega⟩ (fun h118_7 => ?_) (fun h118_7 => ?_)
                · refine z_iconst e_L_lines_128 ?_
                  refine z_istore (ls' := [some (zo o), some (zi (b + ((m_lend P (m_count P) b) - b + 1))), some (zi (P 14)), some (zi k), some (zi ((m_lend P (m_count P) b) - b + 1)), some (zi b), some (zi 0), none, none, none]) e_L_lines_129 rfl rfl rfl ?_
                  refine z_aload_n e_L_lines_131 rfl ?_
                  refine z_iload_n e_L_lines_132 rfl ?_
                  refine z_iconst e_L_lines_133 ?_
                  refine z_callVi (M' := M_X4_line) (As := [zi k, zi 0]) (rest := []) e_L_lines_134 l_RL_59 rfl rfl rfl rfl to ⟨_, _, rfl⟩ (c_X4_line hX ⟨by omega, by omega⟩ ⟨by decide, by decide⟩) (fun xq mq rq hq => ?_)
                  obtain ⟨e1q, e2q, e3q⟩ := hq
                  rw [lineA_in hk0 (by decide) (by decide) hlb hbn, lof_0] at e1q
                  subst xq mq rq
                  refine z_istore (ls' := [some (zo o), some (zi (b + ((m_lend P (m_count P) b) - b + 1))), some (zi (P 14)), some (zi k), some (zi ((m_lend P (m_count P) b) - b + 1)), some (zi b), some (zi 0), some (zi (m_signs P b (m_lend P (m_count P) b))), none, none]) e_L_lines_137 rfl rfl rfl ?_
                  refine z_aload_n e_L_lines_139 rfl ?_
                  refine z_iload_n e_L_lines_140 rfl ?_
                  refine z_iconst e_L_lines_141 ?_
                  refine z_callVi (M' := M_X4_line) (As := [zi k, zi 2]) (rest := []) e_L_lines_142 l_RL_59 rfl rfl rfl rfl to ⟨_, _, rfl⟩ (c_X4_line hX ⟨by omega, by omega⟩ ⟨by decide, by decide⟩) (fun xq mq rq hq => ?_)
                  obtain ⟨e1q, e2q, e3q⟩ := hq
                  rw [lineA_in hk0 (by decide) (by decide) hlb hbn] at e1q
                  subst xq mq rq
                  refine z_iload e_L_lines_145 rfl ?_
                  refine z_icmp_ne e_L_lines_147 ⟨by omega, by omega⟩ (by decide) (fun h147_8 => ?_) (fun h147_8 => ?_)
                  · omega
                  · refine z_aload_n e_L_lines_150 rfl ?_
                    refine z_iload_n e_L_lines_151 rfl ?_
                    refine z_iload e_L_lines_152 rfl ?_
                    refine z_callVi (M' := M_X4_sign) (As := [zi k, zi (m_signs P b (m_lend P (m_count P) b))]) (rest := []) e_L_lines_154 l_RL_62 rfl rfl rfl rfl to ⟨_, _, rfl⟩ (k_X4_sign hX ⟨by omega, by omega⟩ ⟨by omega, by omega⟩) (fun xq m1 r1 hq => ?_)
                    obtain ⟨e1q, hX⟩ := hq
                    rw [signA_in hk0 (by omega) hlb hbn, sgA_end hH] at e1q
                    subst e1q
                    refine z_bipush e_L_lines_157 (by decide +kernel) ?_
                    refine z_icmp_ne e_L_lines_159 (by decide) (by decide) (fun hq => absurd hq (by decide)) (fun _ => ?_)
                    have join189_8 : ∀ (mc : z_Mi) (rc : z_Mr), z_X E o mc rc P n nx → z_A M_L_lines E 0 0 189 [some (zo o), some (zi (b + ((m_lend P (m_count P) b) - b + 1))), some (zi (P 14)), some (zi k), some (zi ((m_lend P (m_count P) b) - b + 1)), some (zi b), some (zi 0), some (zi (m_signs P b (m_lend P (m_count P) b))), none, none] [] mc rc (z_qi E (fun x m r => x = 1 ∧ z_X E o m r P n nx)) := by
                      intro mc rc hj
                      have hX := hj
                      refine z_iconst e_L_lines_189 ?_
                      refine z_istore (ls' := [some (zo o), some (zi (b + ((m_lend P (m_count P) b) - b + 1))), some (zi (P 14)), some (zi k), some (zi ((m_lend P (m_count P) b) - b + 1)), some (zi b), some (zi 0), some (zi (m_signs P b (m_lend P (m_count P) b))), some (zi 0), none]) e_L_lines_190 rfl rfl rfl ?_
                      refine z_iconst e_L_lines_192 ?_
                      refine z_istore (ls' := [some (zo o), some (zi (b + ((m_lend P (m_count P) b) - b + 1))), some (zi (P 14)), some (zi k), some (zi ((m_lend P (m_count P) b) - b + 1)), some (zi b), some (zi 0), some (zi (m_signs P b (m_lend P (m_count P) b))), some (zi 0), some (zi 0)]) e_L_lines_193 rfl rfl rfl ?_
                      have loop195 : ∀ (nn : Nat) (sg : Int) (i : Int) (md : z_Mi) (rd : z_Mr), ((m_signs P b (m_lend P (m_count P) b)) - i).toNat = nn → (0 ≤ i ∧ i ≤ (m_signs P b (m_lend P (m_count P) b)) ∧ sg = t_nb ((m_line P b (m_lend P (m_count P) b)).take i.toNat) ∧ z_X E o md rd P n nx) → z_A M_L_lines E 0 0 195 [some (zo o), some (zi (b + ((m_lend P (m_count P) b) - b + 1))), some (zi (P 14)), some (zi k), some (zi ((m_lend P (m_count P) b) - b + 1)), some (zi b), some (zi 0), some (zi (m_signs P b (m_lend P (m_count P) b))), some (zi sg), some (zi i)] [] md rd (z_qi E (fun x m r => x = 1 ∧ z_X E o m r P n nx)) := by
                        intro nn
                        induction nn using Nat.strongRecOn with
                        | _ nn ih195 =>
                          intro sg i md rd hmeas hinv
                          obtain ⟨hi0, hi1, hsg, hX⟩ := hinv
                          refine z_iload e_L_lines_195 rfl ?_
                          refine z_iload e_L_lines_197 rfl ?_
                          refine z_icmp_ge e_L_lines_199 ⟨by omega, by omega⟩ ⟨by omega, by omega⟩ (fun h199_10 => ?_) (fun h199_10 => ?_)
                          · have hnb : sg = n_sum (fun j => s_sg (p_rows P (b + j)) (P 0)) ((m_lend P (m_count P) b) + 1 - b).toNat := by
                              rw [← t_nb_line hH hG hb0 hle (by omega), hsg, show i.toNat = (m_line P b (m_lend P (m_count P) b)).length by omega, List.take_length]
                            clear hsg
                            refine z_iload e_L_lines_230 rfl ?_
                            refine z_istore (ls' := [some (zo o), some (zi (b + ((m_lend P (m_count P) b) - b + 1))), some (zi (P 14)), some (zi k), some (zi ((m_lend P (m_count P) b) - b + 1)), some (zi b), some (zi 0), some (zi (m_signs P b (m_lend P (m_count P) b))), some (zi sg), some (zi b)]) e_L_lines_232 rfl rfl rfl ?_
                            have loop234 : ∀ (nn : Nat) (s2 : Int) (t2 : Int), ((m_lend P (m_count P) b) + 1 - t2).toNat = nn → (b ≤ t2 ∧ t2 ≤ (m_lend P (m_count P) b) + 1 ∧ s2 = sg - n_sum (fun j => s_sg (p_rows P (b + j)) (P 0)) (t2 - b).toNat) → z_A M_L_lines E 0 0 234 [some (zo o), some (zi (b + ((m_lend P (m_count P) b) - b + 1))), some (zi (P 14)), some (zi k), some (zi ((m_lend P (m_count P) b) - b + 1)), some (zi b), some (zi 0), some (zi (m_signs P b (m_lend P (m_count P) b))), some (zi s2), some (zi t2)] [] md rd (z_qi E (fun x m r => x = 1 ∧ z_X E o m r P n nx)) := by
                              intro nn
                              induction nn using Nat.strongRecOn with
                              | _ nn ih234 =>
                                intro s2 t2 hmeas hinv
                                obtain ⟨hu0, hu1, hs2⟩ := hinv
                                refine z_iload e_L_lines_234 rfl ?_
                                refine z_iload_n e_L_lines_236 rfl ?_
                                refine z_icmp_ge e_L_lines_237 ⟨by omega, by omega⟩ ⟨by omega, by omega⟩ (fun h237_11 => ?_) (fun h237_11 => ?_)
                                · have hz2 : s2 = 0 := by rw [hs2, hnb, show t2 = (m_lend P (m_count P) b) + 1 by omega]; omega
                                  refine z_iload e_L_lines_260 rfl ?_
                                  refine z_if_eq e_L_lines_262 ⟨by omega, by omega⟩ (fun h262_12 => ?_) (fun h262_12 => ?_)
                                  · refine z_iinc (y := (k + 1)) (ls' := [some (zo o), some (zi (b + ((m_lend P (m_count P) b) - b + 1))), some (zi (P 14)), some (zi (k + 1)), some (zi ((m_lend P (m_count P) b) - b + 1)), some (zi b), some (zi 0), some (zi (m_signs P b (m_lend P (m_count P) b))), some (zi s2), some (zi t2)]) e_L_lines_267 rfl rfl rfl rfl rfl ?_
                                    refine z_goto e_L_lines_270 ?_
                                    refine z_fgt (ls' := [some (zo o), some (zi (b + ((m_lend P (m_count P) b) - b + 1))), some (zi (P 14)), some (zi (k + 1)), none, none, none, none, none, none]) ⟨rfl, rfl, rfl, rfl, trivial⟩ ?_
                                    exact ih10 _ (by omega) (b + ((m_lend P (m_count P) b) - b + 1)) (k + 1) md rd rfl (⟨by omega, by omega, by omega, by omega, by rw [show b + ((m_lend P (m_count P) b) - b + 1) = (m_lend P (m_count P) b) + 1 by omega]; exact hnxt.1, by rw [show b + ((m_lend P (m_count P) b) - b + 1) = (m_lend P (m_count P) b) + 1 by omega]; exact hnxt.2.1, hX⟩)
                                  · exact absurd hz2 (by assumption)
                                · refine z_iload e_L_lines_240 rfl ?_
                                  refine z_aload_n e_L_lines_242 rfl ?_
                                  refine z_iload e_L_lines_243 rfl ?_
                                  refine z_iload_n e_L_lines_245 rfl ?_
                                  refine z_isub e_L_lines_246 ?_
                                  refine z_iconst e_L_lines_247 ?_
                                  refine z_callVi (M' := M_X4_row) (As := [zi (t2 - (P 14)), zi 3]) (rest := [zi s2]) e_L_lines_248 l_RL_56 rfl rfl rfl rfl to ⟨_, _, rfl⟩ (c_X4_row hX ⟨by omega, by omega⟩ ⟨by decide, by decide⟩) (fun xq mq rq hq => ?_)
                                  obtain ⟨e1q, e2q, e3q⟩ := hq
                                  rw [row_at hH (by omega) (by omega) (by decide) (by decide), ros_3] at e1q
                                  have e1q : xq = s_sg (p_rows P t2) (P 0) := e1q
                                  subst xq mq rq
                                  refine z_isub e_L_lines_251 ?_
                                  refine z_istore (ls' := [some (zo o), some (zi (b + ((m_lend P (m_count P) b) - b + 1))), some (zi (P 14)), some (zi k), some (zi ((m_lend P (m_count P) b) - b + 1)), some (zi b), some (zi 0), some (zi (m_signs P b (m_lend P (m_count P) b))), some (zi (s2 - (s_sg (p_rows P t2) (P 0)))), some (zi t2)]) e_L_lines_252 rfl rfl rfl ?_
                                  refine z_iinc (y := (t2 + 1)) (ls' := [some (zo o), some (zi (b + ((m_lend P (m_count P) b) - b + 1))), some (zi (P 14)), some (zi k), some (zi ((m_lend P (m_count P) b) - b + 1)), some (zi b), some (zi 0), some (zi (m_signs P b (m_lend P (m_count P) b))), some (zi (s2 - (s_sg (p_rows P t2) (P 0)))), some (zi (t2 + 1))]) e_L_lines_254 rfl rfl rfl rfl rfl ?_
                                  refine z_goto e_L_lines_257 ?_
                                  exact ih234 _ (by omega) (s2 - (s_sg (p_rows P t2) (P 0))) (t2 + 1) rfl (⟨by omega, by omega, by rw [show t2 + 1 - b = (t2 - b) + 1 by omega, n_sum_s _ (by omega), show b + (t2 - b) = t2 by omega, hs2]; omega⟩)
                            exact loop234 _ sg b rfl (⟨by omega, by omega, by rw [show (b - b).toNat = 0 by omega]; exact (Int.sub_zero sg).symm⟩)
                          · refine z_iload e_L_lines_202 rfl ?_
                            refine z_aload_n e_L_lines_204 rfl ?_
                            refine z_iload_n e_L_lines_205 rfl ?_
                            refine z_iload e_L_lines_206 rfl ?_
                            refine z_callVi (M' := M_X4_sign) (As := [zi k, zi i]) (rest := [zi sg]) e_L_lines_208 l_RL_62 rfl rfl rfl rfl to ⟨_, _, rfl⟩ (k_X4_sign hX ⟨by omega, by omega⟩ ⟨by omega, by omega⟩) (fun xs m2 r2 hq => ?_)
                            obtain ⟨e1q, hX⟩ := hq
                            rw [signA_in hk0 (by omega) hlb hbn] at e1q
                            refine z_bipush e_L_lines_211 (by decide +kernel) ?_
                            have hxs : z_R xs := by rw [e1q]; exact sgA_R hH
                            obtain ⟨hxs0, hxs1⟩ := hxs
                            refine z_icmp_ne e_L_lines_213 ⟨by omega, by omega⟩ (by decide) (fun h213_13 => ?_) (fun h213_13 => ?_)
                            · refine z_iconst e_L_lines_220 ?_
                              refine z_iadd e_L_lines_221 ?_
                              refine z_istore (ls' := [some (zo o), some (zi (b + ((m_lend P (m_count P) b) - b + 1))), some (zi (P 14)), some (zi k), some (zi ((m_lend P (m_count P) b) - b + 1)), some (zi b), some (zi 0), some (zi (m_signs P b (m_lend P (m_count P) b))), some (zi (sg + 1)), some (zi i)]) e_L_lines_222 rfl rfl rfl ?_
                              refine z_iinc (y := (i + 1)) (ls' := [some (zo o), some (zi (b + ((m_lend P (m_count P) b) - b + 1))), some (zi (P 14)), some (zi k), some (zi ((m_lend P (m_count P) b) - b + 1)), some (zi b), some (zi 0), some (zi (m_signs P b (m_lend P (m_count P) b))), some (zi (sg + 1)), some (zi (i + 1))]) e_L_lines_224 rfl rfl rfl rfl rfl ?_
                              refine z_goto e_L_lines_227 ?_
                              exact ih195 _ (by omega) (sg + 1) (i + 1) m2 r2 rfl (⟨by omega, by omega, by rw [show (i + 1).toNat = i.toNat + 1 by omega, t_nb_take (by omega), ← hsg]; unfold m_sgA at e1q; rw [← e1q]; first | rw [if_pos (by omega)] | rw [if_neg (by omega)], hX⟩)
                            · refine z_iconst e_L_lines_216 ?_
                              refine z_goto e_L_lines_217 ?_
                              refine z_iadd e_L_lines_221 ?_
                              refine z_istore (ls' := [some (zo o), some (zi (b + ((m_lend P (m_count P) b) - b + 1))), some (zi (P 14)), some (zi k), some (zi ((m_lend P (m_count P) b) - b + 1)), some (zi b), some (zi 0), some (zi (m_signs P b (m_lend P (m_count P) b))), some (zi (sg + 0)), some (zi i)]) e_L_lines_222 rfl rfl rfl ?_
                              refine z_iinc (y := (i + 1)) (ls' := [some (zo o), some (zi (b + ((m_lend P (m_count P) b) - b + 1))), some (zi (P 14)), some (zi k), some (zi ((m_lend P (m_count P) b) - b + 1)), some (zi b), some (zi 0), some (zi (m_signs P b (m_lend P (m_count P) b))), some (zi (sg + 0)), some (zi (i + 1))]) e_L_lines_224 rfl rfl rfl rfl rfl ?_
                              refine z_goto e_L_lines_227 ?_
                              exact ih195 _ (by omega) (sg + 0) (i + 1) m2 r2 rfl (⟨by omega, by omega, by rw [show (i + 1).toNat = i.toNat + 1 by omega, t_nb_take (by omega), ← hsg]; unfold m_sgA at e1q; rw [← e1q]; first | rw [if_pos (by omega)] | rw [if_neg (by omega)], hX⟩)
                      exact loop195 _ 0 0 mc rc rfl (⟨by omega, by omega, rfl, hX⟩)
                    refine z_iload e_L_lines_162 rfl ?_
                    refine z_if_le e_L_lines_164 ⟨by omega, by omega⟩ (fun h164_14 => ?_) (fun h164_14 => ?_)
                    · exact join189_8 m1 r1 (hX)
                    · refine z_iload e_L_lines_167 rfl ?_
                      refine z_iconst e_L_lines_169 ?_
                      refine z_icmp_ne e_L_lines_170 ⟨by omega, by omega⟩ (by decide) (fun h170_15 => ?_) (fun h170_15 => ?_)
                      · exact join189_8 m1 r1 (hX)
                      · have hone : (m_lend P (m_count P) b) = b := by omega
                        have hl1 : m_sgA P b (m_lend P (m_count P) b) ((m_signs P b (m_lend P (m_count P) b)) - 1) ≠ 32 := by
                          have hh : 0 < (m_signs P b (m_lend P (m_count P) b)) := by omega
                          rw [hone] at hh
                          have hx := last_ne hH hW (b := b) hb0 (by omega) hh
                          rw [hone]; exact hx
                        refine z_aload_n e_L_lines_173 rfl ?_
                        refine z_iload_n e_L_lines_174 rfl ?_
                        refine z_iload e_L_lines_175 rfl ?_
                        refine z_iconst e_L_lines_177 ?_
                        refine z_isub e_L_lines_178 ?_
                        refine z_callVi (M' := M_X4_sign) (As := [zi k, zi ((m_signs P b (m_lend P (m_count P) b)) - 1)]) (rest := []) e_L_lines_179 l_RL_62 rfl rfl rfl rfl to ⟨_, _, rfl⟩ (k_X4_sign hX ⟨by omega, by omega⟩ ⟨by omega, by omega⟩) (fun xl m3 r3 hq => ?_)
                        obtain ⟨e1q, hX⟩ := hq
                        rw [signA_in hk0 (by omega) hlb hbn] at e1q
                        refine z_bipush e_L_lines_182 (by decide +kernel) ?_
                        have hxl : z_R xl := by rw [e1q]; exact sgA_R hH
                        obtain ⟨hxl0, hxl1⟩ := hxl
                        refine z_icmp_ne e_L_lines_184 ⟨by omega, by omega⟩ (by decide) (fun h184_16 => ?_) (fun h184_16 => ?_)
                        · exact join189_8 m3 r3 (hX)
                        · exact absurd (e1q.symm.trans (by omega)) hl1
                · refine z_iload_n e_L_lines_121 rfl ?_
                  refine z_iload e_L_lines_122 rfl ?_
                  refine z_isub e_L_lines_124 ?_
                  refine z_goto e_L_lines_125 ?_
                  refine z_istore (ls' := [some (zo o), some (zi (b + ((m_lend P (m_count P) b) - b + 1))), some (zi (P 14)), some (zi k), some (zi ((m_lend P (m_count P) b) - b + 1)), some (zi b), some (zi ((P 14) - b)), none, none, none]) e_L_lines_129 rfl rfl rfl ?_
                  refine z_aload_n e_L_lines_131 rfl ?_
                  refine z_iload_n e_L_lines_132 rfl ?_
                  refine z_iconst e_L_lines_133 ?_
                  refine z_callVi (M' := M_X4_line) (As := [zi k, zi 0]) (rest := []) e_L_lines_134 l_RL_59 rfl rfl rfl rfl to ⟨_, _, rfl⟩ (c_X4_line hX ⟨by omega, by omega⟩ ⟨by decide, by decide⟩) (fun xq mq rq hq => ?_)
                  obtain ⟨e1q, e2q, e3q⟩ := hq
                  rw [lineA_in hk0 (by decide) (by decide) hlb hbn, lof_0] at e1q
                  subst xq mq rq
                  refine z_istore (ls' := [some (zo o), some (zi (b + ((m_lend P (m_count P) b) - b + 1))), some (zi (P 14)), some (zi k), some (zi ((m_lend P (m_count P) b) - b + 1)), some (zi b), some (zi ((P 14) - b)), some (zi (m_signs P b (m_lend P (m_count P) b))), none, none]) e_L_lines_137 rfl rfl rfl ?_
                  refine z_aload_n e_L_lines_139 rfl ?_
                  refine z_iload_n e_L_lines_140 rfl ?_
                  refine z_iconst e_L_lines_141 ?_
                  refine z_callVi (M' := M_X4_line) (As := [zi k, zi 2]) (rest := []) e_L_lines_142 l_RL_59 rfl rfl rfl rfl to ⟨_, _, rfl⟩ (c_X4_line hX ⟨by omega, by omega⟩ ⟨by decide, by decide⟩) (fun xq mq rq hq => ?_)
                  obtain ⟨e1q, e2q, e3q⟩ := hq
                  rw [lineA_in hk0 (by decide) (by decide) hlb hbn] at e1q
                  subst xq mq rq
                  refine z_iload e_L_lines_145 rfl ?_
                  refine z_icmp_ne e_L_lines_147 ⟨by omega, by omega⟩ ⟨by omega, by omega⟩ (fun h147_17 => ?_) (fun h147_17 => ?_)
                  · omega
                  · refine z_aload_n e_L_lines_150 rfl ?_
                    refine z_iload_n e_L_lines_151 rfl ?_
                    refine z_iload e_L_lines_152 rfl ?_
                    refine z_callVi (M' := M_X4_sign) (As := [zi k, zi (m_signs P b (m_lend P (m_count P) b))]) (rest := []) e_L_lines_154 l_RL_62 rfl rfl rfl rfl to ⟨_, _, rfl⟩ (k_X4_sign hX ⟨by omega, by omega⟩ ⟨by omega, by omega⟩) (fun xq m4 r4 hq => ?_)
                    obtain ⟨e1q, hX⟩ := hq
                    rw [signA_in hk0 (by omega) hlb hbn, sgA_end hH] at e1q
                    subst e1q
                    refine z_bipush e_L_lines_157 (by decide +kernel) ?_
                    refine z_icmp_ne e_L_lines_159 (by decide) (by decide) (fun hq => absurd hq (by decide)) (fun _ => ?_)
                    have join189_17 : ∀ (mc : z_Mi) (rc : z_Mr), z_X E o mc rc P n nx → z_A M_L_lines E 0 0 189 [some (zo o), some (zi (b + ((m_lend P (m_count P) b) - b + 1))), some (zi (P 14)), some (zi k), some (zi ((m_lend P (m_count P) b) - b + 1)), some (zi b), some (zi ((P 14) - b)), some (zi (m_signs P b (m_lend P (m_count P) b))), none, none] [] mc rc (z_qi E (fun x m r => x = 1 ∧ z_X E o m r P n nx)) := by
                      intro mc rc hj
                      have hX := hj
                      refine z_iconst e_L_lines_189 ?_
                      refine z_istore (ls' := [some (zo o), some (zi (b + ((m_lend P (m_count P) b) - b + 1))), some (zi (P 14)), some (zi k), some (zi ((m_lend P (m_count P) b) - b + 1)), some (zi b), some (zi ((P 14) - b)), some (zi (m_signs P b (m_lend P (m_count P) b))), some (zi 0), none]) e_L_lines_190 rfl rfl rfl ?_
                      refine z_iconst e_L_lines_192 ?_
                      refine z_istore (ls' := [some (zo o), some (zi (b + ((m_lend P (m_count P) b) - b + 1))), some (zi (P 14)), some (zi k), some (zi ((m_lend P (m_count P) b) - b + 1)), some (zi b), some (zi ((P 14) - b)), some (zi (m_signs P b (m_lend P (m_count P) b))), some (zi 0), some (zi 0)]) e_L_lines_193 rfl rfl rfl ?_
                      have loop195 : ∀ (nn : Nat) (sg : Int) (i : Int) (md : z_Mi) (rd : z_Mr), ((m_signs P b (m_lend P (m_count P) b)) - i).toNat = nn → (0 ≤ i ∧ i ≤ (m_signs P b (m_lend P (m_count P) b)) ∧ sg = t_nb ((m_line P b (m_lend P (m_count P) b)).take i.toNat) ∧ z_X E o md rd P n nx) → z_A M_L_lines E 0 0 195 [some (zo o), some (zi (b + ((m_lend P (m_count P) b) - b + 1))), some (zi (P 14)), some (zi k), some (zi ((m_lend P (m_count P) b) - b + 1)), some (zi b), some (zi ((P 14) - b)), some (zi (m_signs P b (m_lend P (m_count P) b))), some (zi sg), some (zi i)] [] md rd (z_qi E (fun x m r => x = 1 ∧ z_X E o m r P n nx)) := by
                        intro nn
                        induction nn using Nat.strongRecOn with
                        | _ nn ih195 =>
                          intro sg i md rd hmeas hinv
                          obtain ⟨hi0, hi1, hsg, hX⟩ := hinv
                          refine z_iload e_L_lines_195 rfl ?_
                          refine z_iload e_L_lines_197 rfl ?_
                          refine z_icmp_ge e_L_lines_199 ⟨by omega, by omega⟩ ⟨by omega, by omega⟩ (fun h199_19 => ?_) (fun h199_19 => ?_)
                          · have hnb : sg = n_sum (fun j => s_sg (p_rows P (b + j)) (P 0)) ((m_lend P (m_count P) b) + 1 - b).toNat := by
                              rw [← t_nb_line hH hG hb0 hle (by omega), hsg, show i.toNat = (m_line P b (m_lend P (m_count P) b)).length by omega, List.take_length]
                            clear hsg
                            refine z_iload e_L_lines_230 rfl ?_
                            refine z_istore (ls' := [some (zo o), some (zi (b + ((m_lend P (m_count P) b) - b + 1))), some (zi (P 14)), some (zi k), some (zi ((m_lend P (m_count P) b) - b + 1)), some (zi b), some (zi ((P 14) - b)), some (zi (m_signs P b (m_lend P (m_count P) b))), some (zi sg), some (zi b)]) e_L_lines_232 rfl rfl rfl ?_
                            have loop234 : ∀ (nn : Nat) (s2 : Int) (t2 : Int), ((m_lend P (m_count P) b) + 1 - t2).toNat = nn → (b ≤ t2 ∧ t2 ≤ (m_lend P (m_count P) b) + 1 ∧ s2 = sg - n_sum (fun j => s_sg (p_rows P (b + j)) (P 0)) (t2 - b).toNat) → z_A M_L_lines E 0 0 234 [some (zo o), some (zi (b + ((m_lend P (m_count P) b) - b + 1))), some (zi (P 14)), some (zi k), some (zi ((m_lend P (m_count P) b) - b + 1)), some (zi b), some (zi ((P 14) - b)), some (zi (m_signs P b (m_lend P (m_count P) b))), some (zi s2), some (zi t2)] [] md rd (z_qi E (fun x m r => x = 1 ∧ z_X E o m r P n nx)) := by
                              intro nn
                              induction nn using Nat.strongRecOn with
                              | _ nn ih234 =>
                                intro s2 t2 hmeas hinv
                                obtain ⟨hu0, hu1, hs2⟩ := hinv
                                refine z_iload e_L_lines_234 rfl ?_
                                refine z_iload_n e_L_lines_236 rfl ?_
                                refine z_icmp_ge e_L_lines_237 ⟨by omega, by omega⟩ ⟨by omega, by omega⟩ (fun h237_20 => ?_) (fun h237_20 => ?_)
                                · have hz2 : s2 = 0 := by rw [hs2, hnb, show t2 = (m_lend P (m_count P) b) + 1 by omega]; omega
                                  refine z_iload e_L_lines_260 rfl ?_
                                  refine z_if_eq e_L_lines_262 ⟨by omega, by omega⟩ (fun h262_21 => ?_) (fun h262_21 => ?_)
                                  · refine z_iinc (y := (k + 1)) (ls' := [some (zo o), some (zi (b + ((m_lend P (m_count P) b) - b + 1))), some (zi (P 14)), some (zi (k + 1)), some (zi ((m_lend P (m_count P) b) - b + 1)), some (zi b), some (zi ((P 14) - b)), some (zi (m_signs P b (m_lend P (m_count P) b))), some (zi s2), some (zi t2)]) e_L_lines_267 rfl rfl rfl rfl rfl ?_
                                    refine z_goto e_L_lines_270 ?_
                                    refine z_fgt (ls' := [some (zo o), some (zi (b + ((m_lend P (m_count P) b) - b + 1))), some (zi (P 14)), some (zi (k + 1)), none, none, none, none, none, none]) ⟨rfl, rfl, rfl, rfl, trivial⟩ ?_
                                    exact ih10 _ (by omega) (b + ((m_lend P (m_count P) b) - b + 1)) (k + 1) md rd rfl (⟨by omega, by omega, by omega, by omega, by rw [show b + ((m_lend P (m_count P) b) - b + 1) = (m_lend P (m_count P) b) + 1 by omega]; exact hnxt.1, by rw [show b + ((m_lend P (m_count P) b) - b + 1) = (m_lend P (m_count P) b) + 1 by omega]; exact hnxt.2.1, hX⟩)
                                  · exact absurd hz2 (by assumption)
                                · refine z_iload e_L_lines_240 rfl ?_
                                  refine z_aload_n e_L_lines_242 rfl ?_
                                  refine z_iload e_L_lines_243 rfl ?_
                                  refine z_iload_n e_L_lines_245 rfl ?_
                                  refine z_isub e_L_lines_246 ?_
                                  refine z_iconst e_L_lines_247 ?_
                                  refine z_callVi (M' := M_X4_row) (As := [zi (t2 - (P 14)), zi 3]) (rest := [zi s2]) e_L_lines_248 l_RL_56 rfl rfl rfl rfl to ⟨_, _, rfl⟩ (c_X4_row hX ⟨by omega, by omega⟩ ⟨by decide, by decide⟩) (fun xq mq rq hq => ?_)
                                  obtain ⟨e1q, e2q, e3q⟩ := hq
                                  rw [row_at hH (by omega) (by omega) (by decide) (by decide), ros_3] at e1q
                                  have e1q : xq = s_sg (p_rows P t2) (P 0) := e1q
                                  subst xq mq rq
                                  refine z_isub e_L_lines_251 ?_
                                  refine z_istore (ls' := [some (zo o), some (zi (b + ((m_lend P (m_count P) b) - b + 1))), some (zi (P 14)), some (zi k), some (zi ((m_lend P (m_count P) b) - b + 1)), some (zi b), some (zi ((P 14) - b)), some (zi (m_signs P b (m_lend P (m_count P) b))), some (zi (s2 - (s_sg (p_rows P t2) (P 0)))), some (zi t2)]) e_L_lines_252 rfl rfl rfl ?_
                                  refine z_iinc (y := (t2 + 1)) (ls' := [some (zo o), some (zi (b + ((m_lend P (m_count P) b) - b + 1))), some (zi (P 14)), some (zi k), some (zi ((m_lend P (m_count P) b) - b + 1)), some (zi b), some (zi ((P 14) - b)), some (zi (m_signs P b (m_lend P (m_count P) b))), some (zi (s2 - (s_sg (p_rows P t2) (P 0)))), some (zi (t2 + 1))]) e_L_lines_254 rfl rfl rfl rfl rfl ?_
                                  refine z_goto e_L_lines_257 ?_
                                  exact ih234 _ (by omega) (s2 - (s_sg (p_rows P t2) (P 0))) (t2 + 1) rfl (⟨by omega, by omega, by rw [show t2 + 1 - b = (t2 - b) + 1 by omega, n_sum_s _ (by omega), show b + (t2 - b) = t2 by omega, hs2]; omega⟩)
                            exact loop234 _ sg b rfl (⟨by omega, by omega, by rw [show (b - b).toNat = 0 by omega]; exact (Int.sub_zero sg).symm⟩)
                          · refine z_iload e_L_lines_202 rfl ?_
                            refine z_aload_n e_L_lines_204 rfl ?_
                            refine z_iload_n e_L_lines_205 rfl ?_
                            refine z_iload e_L_lines_206 rfl ?_
                            refine z_callVi (M' := M_X4_sign) (As := [zi k, zi i]) (rest := [zi sg]) e_L_lines_208 l_RL_62 rfl rfl rfl rfl to ⟨_, _, rfl⟩ (k_X4_sign hX ⟨by omega, by omega⟩ ⟨by omega, by omega⟩) (fun xs m5 r5 hq => ?_)
                            obtain ⟨e1q, hX⟩ := hq
                            rw [signA_in hk0 (by omega) hlb hbn] at e1q
                            refine z_bipush e_L_lines_211 (by decide +kernel) ?_
                            have hxs : z_R xs := by rw [e1q]; exact sgA_R hH
                            obtain ⟨hxs0, hxs1⟩ := hxs
                            refine z_icmp_ne e_L_lines_213 ⟨by omega, by omega⟩ (by decide) (fun h213_22 => ?_) (fun h213_22 => ?_)
                            · refine z_iconst e_L_lines_220 ?_
                              refine z_iadd e_L_lines_221 ?_
                              refine z_istore (ls' := [some (zo o), some (zi (b + ((m_lend P (m_count P) b) - b + 1))), some (zi (P 14)), some (zi k), some (zi ((m_lend P (m_count P) b) - b + 1)), some (zi b), some (zi ((P 14) - b)), some (zi (m_signs P b (m_lend P (m_count P) b))), some (zi (sg + 1)), some (zi i)]) e_L_lines_222 rfl rfl rfl ?_
                              refine z_iinc (y := (i + 1)) (ls' := [some (zo o), some (zi (b + ((m_lend P (m_count P) b) - b + 1))), some (zi (P 14)), some (zi k), some (zi ((m_lend P (m_count P) b) - b + 1)), some (zi b), some (zi ((P 14) - b)), some (zi (m_signs P b (m_lend P (m_count P) b))), some (zi (sg + 1)), some (zi (i + 1))]) e_L_lines_224 rfl rfl rfl rfl rfl ?_
                              refine z_goto e_L_lines_227 ?_
                              exact ih195 _ (by omega) (sg + 1) (i + 1) m5 r5 rfl (⟨by omega, by omega, by rw [show (i + 1).toNat = i.toNat + 1 by omega, t_nb_take (by omega), ← hsg]; unfold m_sgA at e1q; rw [← e1q]; first | rw [if_pos (by omega)] | rw [if_neg (by omega)], hX⟩)
                            · refine z_iconst e_L_lines_216 ?_
                              refine z_goto e_L_lines_217 ?_
                              refine z_iadd e_L_lines_221 ?_
                              refine z_istore (ls' := [some (zo o), some (zi (b + ((m_lend P (m_count P) b) - b + 1))), some (zi (P 14)), some (zi k), some (zi ((m_lend P (m_count P) b) - b + 1)), some (zi b), some (zi ((P 14) - b)), some (zi (m_signs P b (m_lend P (m_count P) b))), some (zi (sg + 0)), some (zi i)]) e_L_lines_222 rfl rfl rfl ?_
                              refine z_iinc (y := (i + 1)) (ls' := [some (zo o), some (zi (b + ((m_lend P (m_count P) b) - b + 1))), some (zi (P 14)), some (zi k), some (zi ((m_lend P (m_count P) b) - b + 1)), some (zi b), some (zi ((P 14) - b)), some (zi (m_signs P b (m_lend P (m_count P) b))), some (zi (sg + 0)), some (zi (i + 1))]) e_L_lines_224 rfl rfl rfl rfl rfl ?_
                              refine z_goto e_L_lines_227 ?_
                              exact ih195 _ (by omega) (sg + 0) (i + 1) m5 r5 rfl (⟨by omega, by omega, by rw [show (i + 1).toNat = i.toNat + 1 by omega, t_nb_take (by omega), ← hsg]; unfold m_sgA at e1q; rw [← e1q]; first | rw [if_pos (by omega)] | rw [if_neg (by omega)], hX⟩)
                      exact loop195 _ 0 0 mc rc rfl (⟨by omega, by omega, rfl, hX⟩)
                    refine z_iload e_L_lines_162 rfl ?_
                    refine z_if_le e_L_lines_164 ⟨by omega, by omega⟩ (fun h164_23 => ?_) (fun h164_23 => ?_)
                    · exact join189_17 m4 r4 (hX)
                    · refine z_iload e_L_lines_167 rfl ?_
                      refine z_iconst e_L_lines_169 ?_
                      refine z_icmp_ne e_L_lines_170 ⟨by omega, by omega⟩ (by decide) (fun h170_24 => ?_) (fun h170_24 => ?_)
                      · exact join189_17 m4 r4 (hX)
                      · have hone : (m_lend P (m_count P) b) = b := by omega
                        have hl1 : m_sgA P b (m_lend P (m_count P) b) ((m_signs P b (m_lend P (m_count P) b)) - 1) ≠ 32 := by
                          have hh : 0 < (m_signs P b (m_lend P (m_count P) b)) := by omega
                          rw [hone] at hh
                          have hx := last_ne hH hW (b := b) hb0 (by omega) hh
                          rw [hone]; exact hx
                        refine z_aload_n e_L_lines_173 rfl ?_
                        refine z_iload_n e_L_lines_174 rfl ?_
                        refine z_iload e_L_lines_175 rfl ?_
                        refine z_iconst e_L_lines_177 ?_
                        refine z_isub e_L_lines_178 ?_
                        refine z_callVi (M' := M_X4_sign) (As := [zi k, zi ((m_signs P b (m_lend P (m_count P) b)) - 1)]) (rest := []) e_L_lines_179 l_RL_62 rfl rfl rfl rfl to ⟨_, _, rfl⟩ (k_X4_sign hX ⟨by omega, by omega⟩ ⟨by omega, by omega⟩) (fun xl m6 r6 hq => ?_)
                        obtain ⟨e1q, hX⟩ := hq
                        rw [signA_in hk0 (by omega) hlb hbn] at e1q
                        refine z_bipush e_L_lines_182 (by decide +kernel) ?_
                        have hxl : z_R xl := by rw [e1q]; exact sgA_R hH
                        obtain ⟨hxl0, hxl1⟩ := hxl
                        refine z_icmp_ne e_L_lines_184 ⟨by omega, by omega⟩ (by decide) (fun h184_25 => ?_) (fun h184_25 => ?_)
                        · exact join189_17 m6 r6 (hX)
                        · exact absurd (e1q.symm.trans (by omega)) hl1
              · refine z_iload e_L_lines_110 rfl ?_
                refine z_goto e_L_lines_112 ?_
                refine z_istore (ls' := [some (zo o), some (zi (b + ((m_lend P (m_count P) b) - b + 1))), some (zi (P 14)), some (zi k), some (zi ((m_lend P (m_count P) b) - b + 1)), some (zi b), some (zi ((m_lend P (m_count P) b) - b + 1)), none, none, none]) e_L_lines_129 rfl rfl rfl ?_
                refine z_aload_n e_L_lines_131 rfl ?_
                refine z_iload_n e_L_lines_132 rfl ?_
                refine z_iconst e_L_lines_133 ?_
                refine z_callVi (M' := M_X4_line) (As := [zi k, zi 0]) (rest := []) e_L_lines_134 l_RL_59 rfl rfl rfl rfl to ⟨_, _, rfl⟩ (c_X4_line hX ⟨by omega, by omega⟩ ⟨by decide, by decide⟩) (fun xq mq rq hq => ?_)
                obtain ⟨e1q, e2q, e3q⟩ := hq
                rw [lineA_in hk0 (by decide) (by decide) hlb hbn, lof_0] at e1q
                subst xq mq rq
                refine z_istore (ls' := [some (zo o), some (zi (b + ((m_lend P (m_count P) b) - b + 1))), some (zi (P 14)), some (zi k), some (zi ((m_lend P (m_count P) b) - b + 1)), some (zi b), some (zi ((m_lend P (m_count P) b) - b + 1)), some (zi (m_signs P b (m_lend P (m_count P) b))), none, none]) e_L_lines_137 rfl rfl rfl ?_
                refine z_aload_n e_L_lines_139 rfl ?_
                refine z_iload_n e_L_lines_140 rfl ?_
                refine z_iconst e_L_lines_141 ?_
                refine z_callVi (M' := M_X4_line) (As := [zi k, zi 2]) (rest := []) e_L_lines_142 l_RL_59 rfl rfl rfl rfl to ⟨_, _, rfl⟩ (c_X4_line hX ⟨by omega, by omega⟩ ⟨by decide, by decide⟩) (fun xq mq rq hq => ?_)
                obtain ⟨e1q, e2q, e3q⟩ := hq
                rw [lineA_in hk0 (by decide) (by decide) hlb hbn] at e1q
                subst xq mq rq
                refine z_iload e_L_lines_145 rfl ?_
                refine z_icmp_ne e_L_lines_147 ⟨by omega, by omega⟩ ⟨by omega, by omega⟩ (fun h147_26 => ?_) (fun h147_26 => ?_)
                · omega
                · refine z_aload_n e_L_lines_150 rfl ?_
                  refine z_iload_n e_L_lines_151 rfl ?_
                  refine z_iload e_L_lines_152 rfl ?_
                  refine z_callVi (M' := M_X4_sign) (As := [zi k, zi (m_signs P b (m_lend P (m_count P) b))]) (rest := []) e_L_lines_154 l_RL_62 rfl rfl rfl rfl to ⟨_, _, rfl⟩ (k_X4_sign hX ⟨by omega, by omega⟩ ⟨by omega, by omega⟩) (fun xq m7 r7 hq => ?_)
                  obtain ⟨e1q, hX⟩ := hq
                  rw [signA_in hk0 (by omega) hlb hbn, sgA_end hH] at e1q
                  subst e1q
                  refine z_bipush e_L_lines_157 (by decide +kernel) ?_
                  refine z_icmp_ne e_L_lines_159 (by decide) (by decide) (fun hq => absurd hq (by decide)) (fun _ => ?_)
                  have join189_26 : ∀ (mc : z_Mi) (rc : z_Mr), z_X E o mc rc P n nx → z_A M_L_lines E 0 0 189 [some (zo o), some (zi (b + ((m_lend P (m_count P) b) - b + 1))), some (zi (P 14)), some (zi k), some (zi ((m_lend P (m_count P) b) - b + 1)), some (zi b), some (zi ((m_lend P (m_count P) b) - b + 1)), some (zi (m_signs P b (m_lend P (m_count P) b))), none, none] [] mc rc (z_qi E (fun x m r => x = 1 ∧ z_X E o m r P n nx)) := by
                    intro mc rc hj
                    have hX := hj
                    refine z_iconst e_L_lines_189 ?_
                    refine z_istore (ls' := [some (zo o), some (zi (b + ((m_lend P (m_count P) b) - b + 1))), some (zi (P 14)), some (zi k), some (zi ((m_lend P (m_count P) b) - b + 1)), some (zi b), some (zi ((m_lend P (m_count P) b) - b + 1)), some (zi (m_signs P b (m_lend P (m_count P) b))), some (zi 0), none]) e_L_lines_190 rfl rfl rfl ?_
                    refine z_iconst e_L_lines_192 ?_
                    refine z_istore (ls' := [some (zo o), some (zi (b + ((m_lend P (m_count P) b) - b + 1))), some (zi (P 14)), some (zi k), some (zi ((m_lend P (m_count P) b) - b + 1)), some (zi b), some (zi ((m_lend P (m_count P) b) - b + 1)), some (zi (m_signs P b (m_lend P (m_count P) b))), some (zi 0), some (zi 0)]) e_L_lines_193 rfl rfl rfl ?_
                    have loop195 : ∀ (nn : Nat) (sg : Int) (i : Int) (md : z_Mi) (rd : z_Mr), ((m_signs P b (m_lend P (m_count P) b)) - i).toNat = nn → (0 ≤ i ∧ i ≤ (m_signs P b (m_lend P (m_count P) b)) ∧ sg = t_nb ((m_line P b (m_lend P (m_count P) b)).take i.toNat) ∧ z_X E o md rd P n nx) → z_A M_L_lines E 0 0 195 [some (zo o), some (zi (b + ((m_lend P (m_count P) b) - b + 1))), some (zi (P 14)), some (zi k), some (zi ((m_lend P (m_count P) b) - b + 1)), some (zi b), some (zi ((m_lend P (m_count P) b) - b + 1)), some (zi (m_signs P b (m_lend P (m_count P) b))), some (zi sg), some (zi i)] [] md rd (z_qi E (fun x m r => x = 1 ∧ z_X E o m r P n nx)) := by
                      intro nn
                      induction nn using Nat.strongRecOn with
                      | _ nn ih195 =>
                        intro sg i md rd hmeas hinv
                        obtain ⟨hi0, hi1, hsg, hX⟩ := hinv
                        refine z_iload e_L_lines_195 rfl ?_
                        refine z_iload e_L_lines_197 rfl ?_
                        refine z_icmp_ge e_L_lines_199 ⟨by omega, by omega⟩ ⟨by omega, by omega⟩ (fun h199_28 => ?_) (fun h199_28 => ?_)
                        · have hnb : sg = n_sum (fun j => s_sg (p_rows P (b + j)) (P 0)) ((m_lend P (m_count P) b) + 1 - b).toNat := by
                            rw [← t_nb_line hH hG hb0 hle (by omega), hsg, show i.toNat = (m_line P b (m_lend P (m_count P) b)).length by omega, List.take_length]
                          clear hsg
                          refine z_iload e_L_lines_230 rfl ?_
                          refine z_istore (ls' := [some (zo o), some (zi (b + ((m_lend P (m_count P) b) - b + 1))), some (zi (P 14)), some (zi k), some (zi ((m_lend P (m_count P) b) - b + 1)), some (zi b), some (zi ((m_lend P (m_count P) b) - b + 1)), some (zi (m_signs P b (m_lend P (m_count P) b))), some (zi sg), some (zi b)]) e_L_lines_232 rfl rfl rfl ?_
                          have loop234 : ∀ (nn : Nat) (s2 : Int) (t2 : Int), ((m_lend P (m_count P) b) + 1 - t2).toNat = nn → (b ≤ t2 ∧ t2 ≤ (m_lend P (m_count P) b) + 1 ∧ s2 = sg - n_sum (fun j => s_sg (p_rows P (b + j)) (P 0)) (t2 - b).toNat) → z_A M_L_lines E 0 0 234 [some (zo o), some (zi (b + ((m_lend P (m_count P) b) - b + 1))), some (zi (P 14)), some (zi k), some (zi ((m_lend P (m_count P) b) - b + 1)), some (zi b), some (zi ((m_lend P (m_count P) b) - b + 1)), some (zi (m_signs P b (m_lend P (m_count P) b))), some (zi s2), some (zi t2)] [] md rd (z_qi E (fun x m r => x = 1 ∧ z_X E o m r P n nx)) := by
                            intro nn
                            induction nn using Nat.strongRecOn with
                            | _ nn ih234 =>
                              intro s2 t2 hmeas hinv
                              obtain ⟨hu0, hu1, hs2⟩ := hinv
                              refine z_iload e_L_lines_234 rfl ?_
                              refine z_iload_n e_L_lines_236 rfl ?_
                              refine z_icmp_ge e_L_lines_237 ⟨by omega, by omega⟩ ⟨by omega, by omega⟩ (fun h237_29 => ?_) (fun h237_29 => ?_)
                              · have hz2 : s2 = 0 := by rw [hs2, hnb, show t2 = (m_lend P (m_count P) b) + 1 by omega]; omega
                                refine z_iload e_L_lines_260 rfl ?_
                                refine z_if_eq e_L_lines_262 ⟨by omega, by omega⟩ (fun h262_30 => ?_) (fun h262_30 => ?_)
                                · refine z_iinc (y := (k + 1)) (ls' := [some (zo o), some (zi (b + ((m_lend P (m_count P) b) - b + 1))), some (zi (P 14)), some (zi (k + 1)), some (zi ((m_lend P (m_count P) b) - b + 1)), some (zi b), some (zi ((m_lend P (m_count P) b) - b + 1)), some (zi (m_signs P b (m_lend P (m_count P) b))), some (zi s2), some (zi t2)]) e_L_lines_267 rfl rfl rfl rfl rfl ?_
                                  refine z_goto e_L_lines_270 ?_
                                  refine z_fgt (ls' := [some (zo o), some (zi (b + ((m_lend P (m_count P) b) - b + 1))), some (zi (P 14)), some (zi (k + 1)), none, none, none, none, none, none]) ⟨rfl, rfl, rfl, rfl, trivial⟩ ?_
                                  exact ih10 _ (by omega) (b + ((m_lend P (m_count P) b) - b + 1)) (k + 1) md rd rfl (⟨by omega, by omega, by omega, by omega, by rw [show b + ((m_lend P (m_count P) b) - b + 1) = (m_lend P (m_count P) b) + 1 by omega]; exact hnxt.1, by rw [show b + ((m_lend P (m_count P) b) - b + 1) = (m_lend P (m_count P) b) + 1 by omega]; exact hnxt.2.1, hX⟩)
                                · exact absurd hz2 (by assumption)
                              · refine z_iload e_L_lines_240 rfl ?_
                                refine z_aload_n e_L_lines_242 rfl ?_
                                refine z_iload e_L_lines_243 rfl ?_
                                refine z_iload_n e_L_lines_245 rfl ?_
                                refine z_isub e_L_lines_246 ?_
                                refine z_iconst e_L_lines_247 ?_
                                refine z_callVi (M' := M_X4_row) (As := [zi (t2 - (P 14)), zi 3]) (rest := [zi s2]) e_L_lines_248 l_RL_56 rfl rfl rfl rfl to ⟨_, _, rfl⟩ (c_X4_row hX ⟨by omega, by omega⟩ ⟨by decide, by decide⟩) (fun xq mq rq hq => ?_)
                                obtain ⟨e1q, e2q, e3q⟩ := hq
                                rw [row_at hH (by omega) (by omega) (by decide) (by decide), ros_3] at e1q
                                have e1q : xq = s_sg (p_rows P t2) (P 0) := e1q
                                subst xq mq rq
                                refine z_isub e_L_lines_251 ?_
                                refine z_istore (ls' := [some (zo o), some (zi (b + ((m_lend P (m_count P) b) - b + 1))), some (zi (P 14)), some (zi k), some (zi ((m_lend P (m_count P) b) - b + 1)), some (zi b), some (zi ((m_lend P (m_count P) b) - b + 1)), some (zi (m_signs P b (m_lend P (m_count P) b))), some (zi (s2 - (s_sg (p_rows P t2) (P 0)))), some (zi t2)]) e_L_lines_252 rfl rfl rfl ?_
                                refine z_iinc (y := (t2 + 1)) (ls' := [some (zo o), some (zi (b + ((m_lend P (m_count P) b) - b + 1))), some (zi (P 14)), some (zi k), some (zi ((m_lend P (m_count P) b) - b + 1)), some (zi b), some (zi ((m_lend P (m_count P) b) - b + 1)), some (zi (m_signs P b (m_lend P (m_count P) b))), some (zi (s2 - (s_sg (p_rows P t2) (P 0)))), some (zi (t2 + 1))]) e_L_lines_254 rfl rfl rfl rfl rfl ?_
                                refine z_goto e_L_lines_257 ?_
                                exact ih234 _ (by omega) (s2 - (s_sg (p_rows P t2) (P 0))) (t2 + 1) rfl (⟨by omega, by omega, by rw [show t2 + 1 - b = (t2 - b) + 1 by omega, n_sum_s _ (by omega), show b + (t2 - b) = t2 by omega, hs2]; omega⟩)
                          exact loop234 _ sg b rfl (⟨by omega, by omega, by rw [show (b - b).toNat = 0 by omega]; exact (Int.sub_zero sg).symm⟩)
                        · refine z_iload e_L_lines_202 rfl ?_
                          refine z_aload_n e_L_lines_204 rfl ?_
                          refine z_iload_n e_L_lines_205 rfl ?_
                          refine z_iload e_L_lines_206 rfl ?_
                          refine z_callVi (M' := M_X4_sign) (As := [zi k, zi i]) (rest := [zi sg]) e_L_lines_208 l_RL_62 rfl rfl rfl rfl to ⟨_, _, rfl⟩ (k_X4_sign hX ⟨by omega, by omega⟩ ⟨by omega, by omega⟩) (fun xs m8 r8 hq => ?_)
                          obtain ⟨e1q, hX⟩ := hq
                          rw [signA_in hk0 (by omega) hlb hbn] at e1q
                          refine z_bipush e_L_lines_211 (by decide +kernel) ?_
                          have hxs : z_R xs := by rw [e1q]; exact sgA_R hH
                          obtain ⟨hxs0, hxs1⟩ := hxs
                          refine z_icmp_ne e_L_lines_213 ⟨by omega, by omega⟩ (by decide) (fun h213_31 => ?_) (fun h213_31 => ?_)
                          · refine z_iconst e_L_lines_220 ?_
                            refine z_iadd e_L_lines_221 ?_
                            refine z_istore (ls' := [some (zo o), some (zi (b + ((m_lend P (m_count P) b) - b + 1))), some (zi (P 14)), some (zi k), some (zi ((m_lend P (m_count P) b) - b + 1)), some (zi b), some (zi ((m_lend P (m_count P) b) - b + 1)), some (zi (m_signs P b (m_lend P (m_count P) b))), some (zi (sg + 1)), some (zi i)]) e_L_lines_222 rfl rfl rfl ?_
                            refine z_iinc (y := (i + 1)) (ls' := [some (zo o), some (zi (b + ((m_lend P (m_count P) b) - b + 1))), some (zi (P 14)), some (zi k), some (zi ((m_lend P (m_count P) b) - b + 1)), some (zi b), some (zi ((m_lend P (m_count P) b) - b + 1)), some (zi (m_signs P b (m_lend P (m_count P) b))), some (zi (sg + 1)), some (zi (i + 1))]) e_L_lines_224 rfl rfl rfl rfl rfl ?_
                            refine z_goto e_L_lines_227 ?_
                            exact ih195 _ (by omega) (sg + 1) (i + 1) m8 r8 rfl (⟨by omega, by omega, by rw [show (i + 1).toNat = i.toNat + 1 by omega, t_nb_take (by omega), ← hsg]; unfold m_sgA at e1q; rw [← e1q]; first | rw [if_pos (by omega)] | rw [if_neg (by omega)], hX⟩)
                          · refine z_iconst e_L_lines_216 ?_
                            refine z_goto e_L_lines_217 ?_
                            refine z_iadd e_L_lines_221 ?_
                            refine z_istore (ls' := [some (zo o), some (zi (b + ((m_lend P (m_count P) b) - b + 1))), some (zi (P 14)), some (zi k), some (zi ((m_lend P (m_count P) b) - b + 1)), some (zi b), some (zi ((m_lend P (m_count P) b) - b + 1)), some (zi (m_signs P b (m_lend P (m_count P) b))), some (zi (sg + 0)), some (zi i)]) e_L_lines_222 rfl rfl rfl ?_
                            refine z_iinc (y := (i + 1)) (ls' := [some (zo o), some (zi (b + ((m_lend P (m_count P) b) - b + 1))), some (zi (P 14)), some (zi k), some (zi ((m_lend P (m_count P) b) - b + 1)), some (zi b), some (zi ((m_lend P (m_count P) b) - b + 1)), some (zi (m_signs P b (m_lend P (m_count P) b))), some (zi (sg + 0)), some (zi (i + 1))]) e_L_lines_224 rfl rfl rfl rfl rfl ?_
                            refine z_goto e_L_lines_227 ?_
                            exact ih195 _ (by omega) (sg + 0) (i + 1) m8 r8 rfl (⟨by omega, by omega, by rw [show (i + 1).toNat = i.toNat + 1 by omega, t_nb_take (by omega), ← hsg]; unfold m_sgA at e1q; rw [← e1q]; first | rw [if_pos (by omega)] | rw [if_neg (by omega)], hX⟩)
                    exact loop195 _ 0 0 mc rc rfl (⟨by omega, by omega, rfl, hX⟩)
                  refine z_iload e_L_lines_162 rfl ?_
                  refine z_if_le e_L_lines_164 ⟨by omega, by omega⟩ (fun h164_32 => ?_) (fun h164_32 => ?_)
                  · exact join189_26 m7 r7 (hX)
                  · refine z_iload e_L_lines_167 rfl ?_
                    refine z_iconst e_L_lines_169 ?_
                    refine z_icmp_ne e_L_lines_170 ⟨by omega, by omega⟩ (by decide) (fun h170_33 => ?_) (fun h170_33 => ?_)
                    · exact join189_26 m7 r7 (hX)
                    · have hone : (m_lend P (m_count P) b) = b := by omega
                      have hl1 : m_sgA P b (m_lend P (m_count P) b) ((m_signs P b (m_lend P (m_count P) b)) - 1) ≠ 32 := by
                        have hh : 0 < (m_signs P b (m_lend P (m_count P) b)) := by omega
                        rw [hone] at hh
                        have hx := last_ne hH hW (b := b) hb0 (by omega) hh
                        rw [hone]; exact hx
                      refine z_aload_n e_L_lines_173 rfl ?_
                      refine z_iload_n e_L_lines_174 rfl ?_
                      refine z_iload e_L_lines_175 rfl ?_
                      refine z_iconst e_L_lines_177 ?_
                      refine z_isub e_L_lines_178 ?_
                      refine z_callVi (M' := M_X4_sign) (As := [zi k, zi ((m_signs P b (m_lend P (m_count P) b)) - 1)]) (rest := []) e_L_lines_179 l_RL_62 rfl rfl rfl rfl to ⟨_, _, rfl⟩ (k_X4_sign hX ⟨by omega, by omega⟩ ⟨by omega, by omega⟩) (fun xl m9 r9 hq => ?_)
                      obtain ⟨e1q, hX⟩ := hq
                      rw [signA_in hk0 (by omega) hlb hbn] at e1q
                      refine z_bipush e_L_lines_182 (by decide +kernel) ?_
                      have hxl : z_R xl := by rw [e1q]; exact sgA_R hH
                      obtain ⟨hxl0, hxl1⟩ := hxl
                      refine z_icmp_ne e_L_lines_184 ⟨by omega, by omega⟩ (by decide) (fun h184_34 => ?_) (fun h184_34 => ?_)
                      · exact join189_26 m9 r9 (hX)
                      · exact absurd (e1q.symm.trans (by omega)) hl1
            · have hwt := (p_W_k hH hW (k := t) (by omega) (by omega)).2.1
              have hmw : t < (m_lend P (m_count P) b) → p_rows P t 20 = 1 := fun q => Classical.byContradiction fun x => hle3 t ht0 q (Or.inr x)
              have hme : t = (m_lend P (m_count P) b) → p_rows P t 20 = 1 → (m_count P) - 1 ≤ t := fun q q1 => by rw [q] at q1 ⊢; exact hle2.elim id (fun x => absurd q1 x)
              rcases (show (t < (m_lend P (m_count P) b) ∧ p_rows P t 20 = 1) ∨ (t = (m_lend P (m_count P) b) ∧ p_rows P t 20 = 0) ∨ (t = (m_lend P (m_count P) b) ∧ p_rows P t 20 = 1 ∧ (m_count P) - 1 ≤ t) by omega) with hq1 | hq1 | hq1
              · refine z_aload_n e_L_lines_46 rfl ?_
                refine z_iload e_L_lines_47 rfl ?_
                refine z_iload_n e_L_lines_49 rfl ?_
                refine z_isub e_L_lines_50 ?_
                refine z_iconst e_L_lines_51 ?_
                refine z_callVi (M' := M_X4_row) (As := [zi (t - (P 14)), zi 0]) (rest := []) e_L_lines_52 l_RL_56 rfl rfl rfl rfl to ⟨_, _, rfl⟩ (c_X4_row hX ⟨by omega, by omega⟩ ⟨by decide, by decide⟩) (fun xq mq rq hq => ?_)
                obtain ⟨e1q, e2q, e3q⟩ := hq
                rw [row_at hH (by omega) (by omega) (by decide) (by decide), ros_0] at e1q
                have e1q : xq = p_rows P t 20 := e1q
                subst xq mq rq
                refine z_iconst e_L_lines_55 ?_
                refine z_icmp_ne e_L_lines_56 ⟨by omega, by omega⟩ (by decide) (fun h56_35 => ?_) (fun h56_35 => ?_)
                · omega
                · refine z_iconst e_L_lines_59 ?_
                  refine z_goto e_L_lines_60 ?_
                  refine z_istore (ls' := [some (zo o), some (zi (b + ((m_lend P (m_count P) b) - b + 1))), some (zi (P 14)), some (zi k), some (zi ((m_lend P (m_count P) b) - b + 1)), some (zi b), some (zi t), some (zi 1), none, none]) e_L_lines_64 rfl rfl rfl ?_
                  refine z_iload e_L_lines_66 rfl ?_
                  refine z_iload e_L_lines_68 rfl ?_
                  refine z_iload_n e_L_lines_70 rfl ?_
                  refine z_iconst e_L_lines_71 ?_
                  refine z_isub e_L_lines_72 ?_
                  refine z_icmp_ge e_L_lines_73 ⟨by omega, by omega⟩ ⟨by omega, by omega⟩ (fun h73_36 => ?_) (fun h73_36 => ?_)
                  · omega
                  · refine z_iconst e_L_lines_76 ?_
                    refine z_goto e_L_lines_77 ?_
                    refine z_icmp_eq e_L_lines_81 (by decide) (by decide) (fun _ => ?_) (fun hq => absurd hq (by decide))
                    refine z_iinc (y := (t + 1)) (ls' := [some (zo o), some (zi (b + ((m_lend P (m_count P) b) - b + 1))), some (zi (P 14)), some (zi k), some (zi ((m_lend P (m_count P) b) - b + 1)), some (zi b), some (zi (t + 1)), some (zi 1), none, none]) e_L_lines_99 rfl rfl rfl rfl rfl ?_
                    refine z_goto e_L_lines_102 ?_
                    refine z_fgt (ls' := [some (zo o), some (zi (b + ((m_lend P (m_count P) b) - b + 1))), some (zi (P 14)), some (zi k), some (zi ((m_lend P (m_count P) b) - b + 1)), some (zi b), some (zi (t + 1)), none, none, none]) ⟨rfl, rfl, rfl, rfl, rfl, rfl, rfl, trivial⟩ ?_
                    exact ih40 _ (by omega) (t + 1) rfl (⟨by omega, by omega⟩)
              · refine z_aload_n e_L_lines_46 rfl ?_
                refine z_iload e_L_lines_47 rfl ?_
                refine z_iload_n e_L_lines_49 rfl ?_
                refine z_isub e_L_lines_50 ?_
                refine z_iconst e_L_lines_51 ?_
                refine z_callVi (M' := M_X4_row) (As := [zi (t - (P 14)), zi 0]) (rest := []) e_L_lines_52 l_RL_56 rfl rfl rfl rfl to ⟨_, _, rfl⟩ (c_X4_row hX ⟨by omega, by omega⟩ ⟨by decide, by decide⟩) (fun xq mq rq hq => ?_)
                obtain ⟨e1q, e2q, e3q⟩ := hq
                rw [row_at hH (by omega) (by omega) (by decide) (by decide), ros_0] at e1q
                have e1q : xq = p_rows P t 20 := e1q
                subst xq mq rq
                refine z_iconst e_L_lines_55 ?_
                refine z_icmp_ne e_L_lines_56 ⟨by omega, by omega⟩ (by decide) (fun h56_37 => ?_) (fun h56_37 => ?_)
                · refine z_iconst e_L_lines_63 ?_
                  refine z_istore (ls' := [some (zo o), some (zi (b + ((m_lend P (m_count P) b) - b + 1))), some (zi (P 14)), some (zi k), some (zi ((m_lend P (m_count P) b) - b + 1)), some (zi b), some (zi t), some (zi 0), none, none]) e_L_lines_64 rfl rfl rfl ?_
                  refine z_iload e_L_lines_66 rfl ?_
                  refine z_iload e_L_lines_68 rfl ?_
                  refine z_iload_n e_L_lines_70 rfl ?_
                  refine z_iconst e_L_lines_71 ?_
                  refine z_isub e_L_lines_72 ?_
                  refine z_icmp_ge e_L_lines_73 ⟨by omega, by omega⟩ ⟨by omega, by omega⟩ (fun h73_38 => ?_) (fun h73_38 => ?_)
                  · refine z_iconst e_L_lines_80 ?_
                    refine z_icmp_eq e_L_lines_81 (by decide) (by decide) (fun _ => ?_) (fun hq => absurd hq (by decide))
                    refine z_iinc (y := (t + 1)) (ls' := [some (zo o), some (zi (b + ((m_lend P (m_count P) b) - b + 1))), some (zi (P 14)), some (zi k), some (zi ((m_lend P (m_count P) b) - b + 1)), some (zi b), some (zi (t + 1)), some (zi 0), none, none]) e_L_lines_99 rfl rfl rfl rfl rfl ?_
                    refine z_goto e_L_lines_102 ?_
                    refine z_fgt (ls' := [some (zo o), some (zi (b + ((m_lend P (m_count P) b) - b + 1))), some (zi (P 14)), some (zi k), some (zi ((m_lend P (m_count P) b) - b + 1)), some (zi b), some (zi (t + 1)), none, none, none]) ⟨rfl, rfl, rfl, rfl, rfl, rfl, rfl, trivial⟩ ?_
                    exact ih40 _ (by omega) (t + 1) rfl (⟨by omega, by omega⟩)
                  · omega
                · omega
              · refine z_aload_n e_L_lines_46 rfl ?_
                refine z_iload e_L_lines_47 rfl ?_
                refine z_iload_n e_L_lines_49 rfl ?_
                refine z_isub e_L_lines_50 ?_
                refine z_iconst e_L_lines_51 ?_
                refine z_callVi (M' := M_X4_row) (As := [zi (t - (P 14)), zi 0]) (rest := []) e_L_lines_52 l_RL_56 rfl rfl rfl rfl to ⟨_, _, rfl⟩ (c_X4_row hX ⟨by omega, by omega⟩ ⟨by decide, by decide⟩) (fun xq mq rq hq => ?_)
                obtain ⟨e1q, e2q, e3q⟩ := hq
                rw [row_at hH (by omega) (by omega) (by decide) (by decide), ros_0] at e1q
                have e1q : xq = p_rows P t 20 := e1q
                subst xq mq rq
                refine z_iconst e_L_lines_55 ?_
                refine z_icmp_ne e_L_lines_56 ⟨by omega, by omega⟩ (by decide) (fun h56_39 => ?_) (fun h56_39 => ?_)
                · omega
                · refine z_iconst e_L_lines_59 ?_
                  refine z_goto e_L_lines_60 ?_
                  refine z_istore (ls' := [some (zo o), some (zi (b + ((m_lend P (m_count P) b) - b + 1))), some (zi (P 14)), some (zi k), some (zi ((m_lend P (m_count P) b) - b + 1)), some (zi b), some (zi t), some (zi 1), none, none]) e_L_lines_64 rfl rfl rfl ?_
                  refine z_iload e_L_lines_66 rfl ?_
                  refine z_iload e_L_lines_68 rfl ?_
                  refine z_iload_n e_L_lines_70 rfl ?_
                  refine z_iconst e_L_lines_71 ?_
                  refine z_isub e_L_lines_72 ?_
                  refine z_icmp_ge e_L_lines_73 ⟨by omega, by omega⟩ ⟨by omega, by omega⟩ (fun h73_40 => ?_) (fun h73_40 => ?_)
                  · refine z_iconst e_L_lines_80 ?_
                    refine z_icmp_eq e_L_lines_81 (by decide) (by decide) (fun hq => absurd hq (by decide)) (fun _ => ?_)
                    refine z_iload e_L_lines_84 rfl ?_
                    refine z_aload_n e_L_lines_86 rfl ?_
                    refine z_bipush e_L_lines_87 (by decide +kernel) ?_
                    refine z_callVi (M' := M_X4_told) (As := [zi 8]) (rest := [zi t]) e_L_lines_89 l_RL_9 rfl rfl rfl rfl to ⟨_, _, rfl⟩ (c_X4_told hX ⟨by decide, by decide⟩) (fun xq mq rq hq => ?_)
                    obtain ⟨e1q, e2q, e3q⟩ := hq
                    rw [told_8] at e1q
                    subst xq mq rq
                    refine z_iconst e_L_lines_92 ?_
                    refine z_isub e_L_lines_93 ?_
                    refine z_icmp_ge e_L_lines_94 ⟨by omega, by omega⟩ ⟨by omega, by omega⟩ (fun h94_41 => ?_) (fun h94_41 => ?_)
                    · refine z_iinc (y := (t + 1)) (ls' := [some (zo o), some (zi (b + ((m_lend P (m_count P) b) - b + 1))), some (zi (P 14)), some (zi k), some (zi ((m_lend P (m_count P) b) - b + 1)), some (zi b), some (zi (t + 1)), some (zi 1), none, none]) e_L_lines_99 rfl rfl rfl rfl rfl ?_
                      refine z_goto e_L_lines_102 ?_
                      refine z_fgt (ls' := [some (zo o), some (zi (b + ((m_lend P (m_count P) b) - b + 1))), some (zi (P 14)), some (zi k), some (zi ((m_lend P (m_count P) b) - b + 1)), some (zi b), some (zi (t + 1)), none, none, none]) ⟨rfl, rfl, rfl, rfl, rfl, rfl, rfl, trivial⟩ ?_
                      exact ih40 _ (by omega) (t + 1) rfl (⟨by omega, by omega⟩)
                    · omega
                  · omega
        exact loop40 _ b rfl (⟨by omega, by omega⟩)
  exact loop10 _ 0 0 mi mr rfl (⟨by omega, by omega, by omega, by omega, m_lbeg_0 (by omega), rfl, hX⟩)
