set_option maxHeartbeats 1000000 in
set_option maxRecDepth 100000 in
theorem c_L_whole {E : z_E} {mi : z_Mi} {mr : z_Mr} {o : Nat} {P : Int → Int} {n nx : Int} (hX : z_X E o mi mr P n nx) (hG : p_G P) : z_mi M_L_whole E [zo o] mi mr (fun x m r => x = 1 ∧ z_X E o m r P n nx) := by
  have to := hX.1.1
  refine z_ofi (ls := [some (zo o)]) rfl (fun _ _ => trivial) ⟨rfl, rfl⟩ (Nat.le_of_ble_eq_true rfl) rfl ?_
  refine z_aload_n e_L_whole_0 rfl ?_
  refine z_callSi (M' := M_L_cells) (As := [zo o]) (rest := []) e_L_whole_1 l_RL_74 rfl rfl rfl rfl (c_L_cells hX hG) (fun xq mq rq hq => ?_)
  obtain ⟨e1q, e2q, e3q⟩ := hq
  subst xq mq rq
  refine z_if_eq e_L_whole_4 (by decide) (fun hq => absurd hq (by decide)) (fun _ => ?_)
  refine z_aload_n e_L_whole_7 rfl ?_
  refine z_callSi (M' := M_L_lines) (As := [zo o]) (rest := []) e_L_whole_8 l_RL_78 rfl rfl rfl rfl (c_L_lines hX hG) (fun xq m1 r1 hq => ?_)
  obtain ⟨e1q, hX⟩ := hq
  subst e1q
  refine z_if_eq e_L_whole_11 (by decide) (fun hq => absurd hq (by decide)) (fun _ => ?_)
  refine z_aload_n e_L_whole_14 rfl ?_
  refine z_callSi (M' := M_L_marks) (As := [zo o]) (rest := []) e_L_whole_15 l_RL_81 rfl rfl rfl rfl (c_L_marks hX hG) (fun xq m2 r2 hq => ?_)
  obtain ⟨e1q, hX⟩ := hq
  subst e1q
  refine z_if_eq e_L_whole_18 (by decide) (fun hq => absurd hq (by decide)) (fun _ => ?_)
  refine z_iconst e_L_whole_21 ?_
  refine z_goto e_L_whole_22 ?_
  refine z_iret e_L_whole_26 (Or.inr ⟨rfl, Or.inr rfl⟩) rfl rfl ⟨rfl, _, rfl, ?_⟩
  exact ⟨rfl, hX⟩
set_option maxHeartbeats 1000000 in
set_option maxRecDepth 100000 in
theorem c_L_size {E : z_E} {mi : z_Mi} {mr : z_Mr} {o : Nat} {P : Int → Int} {n nx : Int} {k b : Int} (hX : z_X E o mi mr P n nx) (hk0 : 0 ≤ k) (hk1 : k ≤ 1000) (hb0 : 0 ≤ b) (hlb : m_lbeg P (m_count P) k = b) (hbn : b < m_count P) : z_mi M_L_size E [zo o, zi k] mi mr (fun x m r => x = ((t_rim (m_line P b (m_lend P (m_count P) b))).length : Int) ∧ z_X E o m r P n nx) := by
  have to := hX.1.1
  have hH : p_hd P := hX.2.2.1
  have hW := x_W hX
  obtain ⟨pw0, pw1, ph0, ph1, pf0, pf1, pf2, pr0, pr1, pc0, pc1, pp0, pp1, pk0, pk1, pi0, pi1, pkp, pP⟩ := id hH
  have hcb := m_count_b hH
  have hlb0 := m_lno_b P (m_count P) (m_count P) (by omega)
  obtain ⟨hle, hle1, hle2, hle3⟩ := m_lend_spec (P := P) hbn
  have hlen := signs_len (b := b) (e := (m_lend P (m_count P) b)) hH
  have hll := m_line_len (b := b) (e := (m_lend P (m_count P) b)) hH hb0 hle (by omega)
  refine z_ofi (ls := [some (zo o), some (zi k), none]) rfl (fun _ _ => trivial) ⟨rfl, rfl⟩ (Nat.le_of_ble_eq_true rfl) rfl ?_
  refine z_aload_n e_L_size_0 rfl ?_
  refine z_iload_n e_L_size_1 rfl ?_
  refine z_iconst e_L_size_2 ?_
  refine z_callVi (M' := M_X4_line) (As := [zi k, zi 0]) (rest := []) e_L_size_3 l_RL_59 rfl rfl rfl rfl to ⟨_, _, rfl⟩ (c_X4_line hX ⟨by omega, by omega⟩ ⟨by decide, by decide⟩) (fun xq mq rq hq => ?_)
  obtain ⟨e1q, e2q, e3q⟩ := hq
  rw [lineA_in hk0 (by decide) (by decide) hlb hbn, lof_0] at e1q
  subst xq mq rq
  refine z_istore_n (ls' := [some (zo o), some (zi k), some (zi (m_signs P b (m_lend P (m_count P) b)))]) e_L_size_6 rfl rfl rfl ?_
  have loop7 : ∀ (nn : Nat) (sz : Int) (ma : z_Mi) (ra : z_Mr), sz.toNat = nn → (0 ≤ sz ∧ sz ≤ (m_signs P b (m_lend P (m_count P) b)) ∧ t_rim ((m_line P b (m_lend P (m_count P) b)).take sz.toNat) = t_rim (m_line P b (m_lend P (m_count P) b)) ∧ z_X E o ma ra P n nx) → z_A M_L_size E 0 0 7 [some (zo o), some (zi k), some (zi sz)] [] ma ra (z_qi E (fun x m r => x = ((t_rim (m_line P b (m_lend P (m_count P) b))).length : Int) ∧ z_X E o m r P n nx)) := by
    intro nn
    induction nn using Nat.strongRecOn with
    | _ nn ih7 =>
      intro sz ma ra hmeas hinv
      obtain ⟨hs0, hs1, htr, hX⟩ := hinv
      refine z_iload_n e_L_size_7 rfl ?_
      refine z_if_le e_L_size_8 ⟨by omega, by omega⟩ (fun h8_1 => ?_) (fun h8_1 => ?_)
      · refine z_iload_n e_L_size_30 rfl ?_
        refine z_iret e_L_size_31 (Or.inl rfl) rfl rfl ⟨rfl, _, rfl, ?_⟩
        refine ⟨?_, hX⟩
        first | exact size_end1 htr (by omega) (by omega) | exact size_end2 htr (by omega) (by omega) (show m_sgA P b (m_lend P (m_count P) b) (sz - 1) ≠ 32 by rw [← e1q]; omega)
      · refine z_aload_n e_L_size_11 rfl ?_
        refine z_iload_n e_L_size_12 rfl ?_
        refine z_iload_n e_L_size_13 rfl ?_
        refine z_iconst e_L_size_14 ?_
        refine z_isub e_L_size_15 ?_
        refine z_callVi (M' := M_X4_sign) (As := [zi k, zi (sz - 1)]) (rest := []) e_L_size_16 l_RL_62 rfl rfl rfl rfl to ⟨_, _, rfl⟩ (k_X4_sign hX ⟨by omega, by omega⟩ ⟨by omega, by omega⟩) (fun xs m3 r3 hq => ?_)
        obtain ⟨e1q, hX⟩ := hq
        rw [signA_in hk0 (by omega) hlb hbn] at e1q
        have hxs : z_R xs := by rw [e1q]; exact sgA_R hH
        obtain ⟨hxs0, hxs1⟩ := hxs
        refine z_bipush e_L_size_19 (by decide +kernel) ?_
        refine z_icmp_ne e_L_size_21 ⟨by omega, by omega⟩ (by decide) (fun h21_2 => ?_) (fun h21_2 => ?_)
        · refine z_iload_n e_L_size_30 rfl ?_
          refine z_iret e_L_size_31 (Or.inl rfl) rfl rfl ⟨rfl, _, rfl, ?_⟩
          refine ⟨?_, hX⟩
          first | exact size_end1 htr (by omega) (by omega) | exact size_end2 htr (by omega) (by omega) (show m_sgA P b (m_lend P (m_count P) b) (sz - 1) ≠ 32 by rw [← e1q]; omega)
        · refine z_iinc (y := (sz + (-1))) (ls' := [some (zo o), some (zi k), some (zi (sz + (-1)))]) e_L_size_24 rfl rfl rfl rfl rfl ?_
          refine z_goto e_L_size_27 ?_
          exact ih7 _ (by omega) (sz + (-1)) m3 r3 rfl (⟨by omega, by omega, by rw [show (sz + (-1)).toNat = (sz - 1).toNat by omega, size_step (by omega) (by omega) (show m_sgA P b (m_lend P (m_count P) b) (sz - 1) = 32 by rw [← e1q]; omega)]; exact htr, hX⟩)
  exact loop7 _ (m_signs P b (m_lend P (m_count P) b)) mi mr rfl (⟨by omega, by omega, by rw [show (m_signs P b (m_lend P (m_count P) b)).toNat = (m_line P b (m_lend P (m_count P) b)).length by omega, List.take_length], hX⟩)
set_option maxHeartbeats 1000000 in
set_option maxRecDepth 100000 in
theorem c_L_lineHash {E : z_E} {mi : z_Mi} {mr : z_Mr} {o : Nat} {P : Int → Int} {n nx : Int} (hX : z_X E o mi mr P n nx) : z_mi M_L_lineHash E [zo o] mi mr (fun x m r => x = y_hash P ∧ z_X E o m r P n nx) := by
  have to := hX.1.1
  have hH : p_hd P := hX.2.2.1
  have hW := x_W hX
  obtain ⟨pw0, pw1, ph0, ph1, pf0, pf1, pf2, pr0, pr1, pc0, pc1, pp0, pp1, pk0, pk1, pi0, pi1, pkp, pP⟩ := id hH
  have hcb := m_count_b hH
  have hlb0 := m_lno_b P (m_count P) (m_count P) (by omega)
  refine z_ofi (ls := [some (zo o), none, none, none, none, none]) rfl (fun _ _ => trivial) ⟨rfl, rfl⟩ (Nat.le_of_ble_eq_true rfl) rfl ?_
  refine z_iconst e_L_lineHash_0 ?_
  refine z_istore_n (ls' := [some (zo o), some (zi 0), none, none, none, none]) e_L_lineHash_1 rfl rfl rfl ?_
  refine z_iconst e_L_lineHash_2 ?_
  refine z_istore_n (ls' := [some (zo o), some (zi 0), some (zi 0), none, none, none]) e_L_lineHash_3 rfl rfl rfl ?_
  refine z_iconst e_L_lineHash_4 ?_
  refine z_istore_n (ls' := [some (zo o), some (zi 0), some (zi 0), some (zi 0), none, none]) e_L_lineHash_5 rfl rfl rfl ?_
  have loop6 : ∀ (nn : Nat) (la : Int) (k : Int) (b : Int) (ma : z_Mi) (ra : z_Mr) (D : List (List Int)), (m_lno P (m_count P) (m_count P) - k).toNat = nn → (0 ≤ k ∧ k ≤ m_lno P (m_count P) (m_count P) ∧ 0 ≤ b ∧ b ≤ (m_count P) ∧ m_lbeg P (m_count P) k = b ∧ m_lno P (m_count P) b = k ∧ (D.length : Int) = k ∧ y_ll P (m_count P) 0 = D ++ y_ll P (m_count P) b ∧ t_la D la ∧ z_X E o ma ra P n nx) → z_A M_L_lineHash E 0 0 6 [some (zo o), some (zi 0), some (zi la), some (zi k), none, none] [] ma ra (z_qi E (fun x m r => x = y_hash P ∧ z_X E o m r P n nx)) := by
    intro nn
    induction nn using Nat.strongRecOn with
    | _ nn ih6 =>
      intro la k b ma ra D hmeas hinv
      obtain ⟨hk0, hk1, hb0, hb1, hlb, hlo, hDl, hD, hla, hX⟩ := hinv
      refine z_iload_n e_L_lineHash_6 rfl ?_
      refine z_aload_n e_L_lineHash_7 rfl ?_
      refine z_bipush e_L_lineHash_8 (by decide +kernel) ?_
      refine z_callVi (M' := M_X4_told) (As := [zi 7]) (rest := [zi k]) e_L_lineHash_10 l_RL_9 rfl rfl rfl rfl to ⟨_, _, rfl⟩ (c_X4_told hX ⟨by decide, by decide⟩) (fun xq mq rq hq => ?_)
      obtain ⟨e1q, e2q, e3q⟩ := hq
      rw [told_7] at e1q
      subst xq mq rq
      refine z_icmp_ge e_L_lineHash_13 ⟨by omega, by omega⟩ ⟨by omega, by omega⟩ (fun h13_1 => ?_) (fun h13_1 => ?_)
      · have hbnE : b = (m_count P) := by
          rcases Int.lt_or_le b (m_count P) with q | q
          · have h1 := m_lno_next (P := P) hb0 q
            have h2 := (m_lend_spec (P := P) q)
            have h3 := m_lno_mono P (m_count P) (a := m_lend P (m_count P) b + 1) (b := (m_count P)) (by omega) (by omega)
            omega
          · omega
        have hDD : y_ll P (m_count P) 0 = D := by rw [hD, hbnE, y_ll_e (Int.le_refl _), List.append_nil]
        have hlak : la ≤ k := by rcases hla.1.2 with q | ⟨_, q⟩ <;> omega
        have hla0 := hla.1.1
        have hla3 : t_la (y_ll P (m_count P) 0) la := by rw [hDD]; exact hla
        have hlal : la < ((y_ll P (m_count P) 0).length : Int) := by rcases hla3.1.2 with q | ⟨q, _⟩; exact q; exact absurd q (y_ll_ne hH)
        refine z_iconst e_L_lineHash_36 ?_
        refine z_istore_n (ls' := [some (zo o), some (zi 0), some (zi la), some (zi 0), none, none]) e_L_lineHash_37 rfl rfl rfl ?_
        have loop38 : ∀ (nn : Nat) (h : Int) (k2 : Int) (b2 : Int) (mb : z_Mi) (rb : z_Mr) (D2 : List (List Int)), (la + 1 - k2).toNat = nn → (0 ≤ k2 ∧ k2 ≤ la + 1 ∧ 0 ≤ b2 ∧ b2 ≤ (m_count P) ∧ m_lbeg P (m_count P) k2 = b2 ∧ m_lno P (m_count P) b2 = k2 ∧ (D2.length : Int) = k2 ∧ y_ll P (m_count P) 0 = D2 ++ y_ll P (m_count P) b2 ∧ h = h_all (D2.map t_rim) ∧ z_X E o mb rb P n nx) → z_A M_L_lineHash E 0 0 38 [some (zo o), some (zi h), some (zi la), some (zi k2), none, none] [] mb rb (z_qi E (fun x m r => x = y_hash P ∧ z_X E o m r P n nx)) := by
          intro nn
          induction nn using Nat.strongRecOn with
          | _ nn ih38 =>
            intro h k2 b2 mb rb D2 hmeas hinv
            obtain ⟨hk20, hk21, hb20, hb21, hlb2, hlo2, hDl2, hD2, hh, hX⟩ := hinv
            refine z_iload_n e_L_lineHash_38 rfl ?_
            refine z_iload_n e_L_lineHash_39 rfl ?_
            refine z_icmp_gt e_L_lineHash_40 ⟨by omega, by omega⟩ ⟨by omega, by omega⟩ (fun h40_2 => ?_) (fun h40_2 => ?_)
            · refine z_iload_n e_L_lineHash_93 rfl ?_
              refine z_iret e_L_lineHash_94 (Or.inl rfl) rfl rfl ⟨rfl, _, rfl, ?_⟩
              refine ⟨?_, hX⟩
              unfold y_hash
              rw [← hla3.2, show la.toNat + 1 = D2.length by omega, hD2, List.take_left, hh]
            · have hbn2 : b2 < (m_count P) := by
                rcases Int.lt_or_le b2 (m_count P) with q | q
                · exact q
                · rw [hD2, y_ll_e q, List.append_nil] at hlal; omega
              have hnxt2 := m_lbeg_next (P := P) hb20 hbn2 hlo2
              obtain ⟨gle, gle1, gle2, gle3⟩ := m_lend_spec (P := P) hbn2
              have gll := m_line_len (b := b2) (e := (m_lend P (m_count P) b2)) hH hb20 gle (by omega)
              refine z_bipush e_L_lineHash_43 (by decide +kernel) ?_
              refine z_iload_n e_L_lineHash_45 rfl ?_
              refine z_imul e_L_lineHash_46 ?_
              refine z_bipush e_L_lineHash_47 (by decide +kernel) ?_
              refine z_iadd e_L_lineHash_49 ?_
              refine z_istore_n (ls' := [some (zo o), some (zi ((31 * h) + 7)), some (zi la), some (zi k2), none, none]) e_L_lineHash_50 rfl rfl rfl ?_
              refine z_aload_n e_L_lineHash_51 rfl ?_
              refine z_iload_n e_L_lineHash_52 rfl ?_
              refine z_callSi (M' := M_L_size) (As := [zo o, zi k2]) (rest := []) e_L_lineHash_53 l_RL_84 rfl rfl rfl rfl (c_L_size hX hk20 (by omega) hb20 hlb2 hbn2) (fun xt m4 r4 hq => ?_)
              obtain ⟨e1q, hX⟩ := hq
              have hxt := t_rim_len (m_line P b2 (m_lend P (m_count P) b2))
              have e2t := e1q
              refine z_istore (ls' := [some (zo o), some (zi ((31 * h) + 7)), some (zi la), some (zi k2), some (zi xt), none]) e_L_lineHash_56 rfl rfl rfl ?_
              refine z_iconst e_L_lineHash_58 ?_
              refine z_istore (ls' := [some (zo o), some (zi ((31 * h) + 7)), some (zi la), some (zi k2), some (zi xt), some (zi 0)]) e_L_lineHash_59 rfl rfl rfl ?_
              have loop61 : ∀ (nn : Nat) (hh2 : Int) (i : Int) (mc : z_Mi) (rc : z_Mr), (xt - i).toNat = nn → (0 ≤ i ∧ i ≤ xt ∧ hh2 = ((t_rim (m_line P b2 (m_lend P (m_count P) b2))).take i.toNat).foldl h_st (31 * h + 7) ∧ z_X E o mc rc P n nx) → z_A M_L_lineHash E 0 0 61 [some (zo o), some (zi hh2), some (zi la), some (zi k2), some (zi xt), some (zi i)] [] mc rc (z_qi E (fun x m r => x = y_hash P ∧ z_X E o m r P n nx)) := by
                intro nn
                induction nn using Nat.strongRecOn with
                | _ nn ih61 =>
                  intro hh2 i mc rc hmeas hinv
                  obtain ⟨hi0, hi1, hhh, hX⟩ := hinv
                  refine z_iload e_L_lineHash_61 rfl ?_
                  refine z_iload e_L_lineHash_63 rfl ?_
                  refine z_icmp_ge e_L_lineHash_65 ⟨by omega, by omega⟩ ⟨by omega, by omega⟩ (fun h65_3 => ?_) (fun h65_3 => ?_)
                  · refine z_iinc (y := (k2 + 1)) (ls' := [some (zo o), some (zi hh2), some (zi la), some (zi (k2 + 1)), some (zi xt), some (zi i)]) e_L_lineHash_87 rfl rfl rfl rfl rfl ?_
                    refine z_goto e_L_lineHash_90 ?_
                    refine z_fgt (ls' := [some (zo o), some (zi hh2), some (zi la), some (zi (k2 + 1)), none, none]) ⟨rfl, rfl, rfl, rfl, trivial⟩ ?_
                    exact ih38 _ (by omega) hh2 (k2 + 1) ((m_lend P (m_count P) b2) + 1) mc rc (D2 ++ [(m_line P b2 (m_lend P (m_count P) b2))]) rfl (⟨by omega, by omega, by omega, by omega, hnxt2.1, hnxt2.2.1, by rw [List.length_append]; show ((D2.length + 1 : Nat) : Int) = _; omega, by rw [hD2, y_ll_s hbn2, List.append_assoc]; rfl, by rw [List.map_append]; show hh2 = h_all (D2.map t_rim ++ [t_rim (m_line P b2 (m_lend P (m_count P) b2))]); rw [h_all_snoc, ← hh, hhh, show i.toNat = (t_rim (m_line P b2 (m_lend P (m_count P) b2))).length by omega, List.take_length]; rfl, hX⟩)
                  · refine z_bipush e_L_lineHash_68 (by decide +kernel) ?_
                    refine z_iload_n e_L_lineHash_70 rfl ?_
                    refine z_imul e_L_lineHash_71 ?_
                    refine z_aload_n e_L_lineHash_72 rfl ?_
                    refine z_iload_n e_L_lineHash_73 rfl ?_
                    refine z_iload e_L_lineHash_74 rfl ?_
                    refine z_callVi (M' := M_X4_sign) (As := [zi k2, zi i]) (rest := [zi (31 * hh2)]) e_L_lineHash_76 l_RL_62 rfl rfl rfl rfl to ⟨_, _, rfl⟩ (k_X4_sign hX ⟨by omega, by omega⟩ ⟨by omega, by omega⟩) (fun xs m5 r5 hq => ?_)
                    obtain ⟨e1q, hX⟩ := hq
                    rw [signA_in hk20 (by omega) hlb2 hbn2] at e1q
                    refine z_iadd e_L_lineHash_79 ?_
                    refine z_istore_n (ls' := [some (zo o), some (zi ((31 * hh2) + xs)), some (zi la), some (zi k2), some (zi xt), some (zi i)]) e_L_lineHash_80 rfl rfl rfl ?_
                    refine z_iinc (y := (i + 1)) (ls' := [some (zo o), some (zi ((31 * hh2) + xs)), some (zi la), some (zi k2), some (zi xt), some (zi (i + 1))]) e_L_lineHash_81 rfl rfl rfl rfl rfl ?_
                    refine z_goto e_L_lineHash_84 ?_
                    exact ih61 _ (by omega) ((31 * hh2) + xs) (i + 1) m5 r5 rfl (⟨by omega, by omega, by have hat := t_rim_at (l := (m_line P b2 (m_lend P (m_count P) b2))) (i := i.toNat) (by omega); unfold m_sgA at e1q; rw [hat] at e1q; rw [show (i + 1).toNat = i.toNat + 1 by omega, h_take (by omega), ← hhh, e1q], hX⟩)
              exact loop61 _ ((31 * h) + 7) 0 m4 r4 rfl (⟨by omega, by omega, rfl, hX⟩)
        exact loop38 _ 0 0 0 ma ra ([]) rfl (⟨by omega, by omega, by omega, by omega, m_lbeg_0 (by omega), rfl, rfl, rfl, rfl, hX⟩)
      · have hbn : b < (m_count P) := by
          rcases Int.lt_or_le b (m_count P) with q | q
          · exact q
          · have eb : b = (m_count P) := by omega
            rw [eb] at hlo; omega
        have hnxt := m_lbeg_next (P := P) hb0 hbn hlo
        obtain ⟨hle, hle1, hle2, hle3⟩ := m_lend_spec (P := P) hbn
        have hll := m_line_len (b := b) (e := (m_lend P (m_count P) b)) hH hb0 hle (by omega)
        refine z_aload_n e_L_lineHash_16 rfl ?_
        refine z_iload_n e_L_lineHash_17 rfl ?_
        refine z_callSi (M' := M_L_size) (As := [zo o, zi k]) (rest := []) e_L_lineHash_18 l_RL_84 rfl rfl rfl rfl (c_L_size hX hk0 (by omega) hb0 hlb hbn) (fun xz m6 r6 hq => ?_)
        obtain ⟨e1q, hX⟩ := hq
        have hxz := t_rim_len (m_line P b (m_lend P (m_count P) b))
        refine z_if_le e_L_lineHash_21 ⟨by omega, by omega⟩ (fun h21_4 => ?_) (fun h21_4 => ?_)
        · have hla2 : t_la (D ++ [(m_line P b (m_lend P (m_count P) b))]) la := t_la_n (List.length_eq_zero_iff.mp (by omega)) hla
          refine z_iload_n e_L_lineHash_28 rfl ?_
          refine z_istore_n (ls' := [some (zo o), some (zi 0), some (zi la), some (zi k), none, none]) e_L_lineHash_29 rfl rfl rfl ?_
          refine z_iinc (y := (k + 1)) (ls' := [some (zo o), some (zi 0), some (zi la), some (zi (k + 1)), none, none]) e_L_lineHash_30 rfl rfl rfl rfl rfl ?_
          refine z_goto e_L_lineHash_33 ?_
          exact ih6 _ (by omega) la (k + 1) ((m_lend P (m_count P) b) + 1) m6 r6 (D ++ [(m_line P b (m_lend P (m_count P) b))]) rfl (⟨by omega, by omega, by omega, by omega, hnxt.1, hnxt.2.1, by rw [List.length_append]; show ((D.length + 1 : Nat) : Int) = _; omega, by rw [hD, y_ll_s hbn, List.append_assoc]; rfl, hla2, hX⟩)
        · have hla2 : t_la (D ++ [(m_line P b (m_lend P (m_count P) b))]) k := by rw [← hDl]; exact t_la_y (la := 0) (fun q => by rw [q] at e1q; have e1q : xz = 0 := e1q; omega)
          refine z_iload_n e_L_lineHash_24 rfl ?_
          refine z_goto e_L_lineHash_25 ?_
          refine z_istore_n (ls' := [some (zo o), some (zi 0), some (zi k), some (zi k), none, none]) e_L_lineHash_29 rfl rfl rfl ?_
          refine z_iinc (y := (k + 1)) (ls' := [some (zo o), some (zi 0), some (zi k), some (zi (k + 1)), none, none]) e_L_lineHash_30 rfl rfl rfl rfl rfl ?_
          refine z_goto e_L_lineHash_33 ?_
          exact ih6 _ (by omega) k (k + 1) ((m_lend P (m_count P) b) + 1) m6 r6 (D ++ [(m_line P b (m_lend P (m_count P) b))]) rfl (⟨by omega, by omega, by omega, by omega, hnxt.1, hnxt.2.1, by rw [List.length_append]; show ((D.length + 1 : Nat) : Int) = _; omega, by rw [hD, y_ll_s hbn, List.append_assoc]; rfl, hla2, hX⟩)
  exact loop6 _ 0 0 0 mi mr ([]) rfl (⟨by omega, by omega, by omega, by omega, m_lbeg_0 (by omega), rfl, rfl, rfl, t_la_0, hX⟩)
