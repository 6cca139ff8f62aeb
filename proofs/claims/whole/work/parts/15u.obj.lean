set_option maxHeartbeats 1000000 in
set_option maxRecDepth 100000 in
theorem e_X4_mixLines {E : z_E} {mi : z_Mi} {mr : z_Mr} {o : Nat} {P G : Int → Int} {f : Int → Option Nat} {n nx : Int} {h0 : Int64} (hX : z_X E o mi mr P n nx) : z_ml M_X4_mixLines E [zo o, zl h0] (z_u mi (o + 73) G) (z_u mr (o + 73) f) (fun x m r => x = y_mls P (m_count P) 0 h0 ∧ ∃ (G' : Int → Int) (f' : Int → Option Nat), m = z_u mi (o + 73) G' ∧ r = z_u mr (o + 73) f') := by
  obtain ⟨⟨to, ta, tq, ro0, ro1, ro2, rok⟩, ⟨fo3, fo4, nb0, nb1, nb2, nb3⟩, hH, ⟨sg, hS⟩, hM⟩ := id hX
  obtain ⟨hc, hd, hr⟩ := id hS
  obtain ⟨t0, t1, t2, t3, t4, q0, q1, q2⟩ := id hc
  obtain ⟨d3, d4, d5, d6, d7, d8, u0, u1, u2, uk, uz⟩ := id hd
  obtain ⟨hw0, hw1, hh0, hh1, hf0, hf1, hf2, hr0, hr1, hc0, hc1, hp0, hp1, hk0, hk1, hi0, hi1, hkp, hP⟩ := id hH
  have hcnt := m_count_b hH
  refine z_ofl (ls := [some (zo o), some (zl h0), none, none, none, none, none, none, none]) rfl (fun _ _ => trivial) ⟨rfl, rfl⟩ (Nat.le_of_ble_eq_true rfl) rfl ?_
  refine z_lload_n e_X4_mixLines_0 rfl ?_
  refine z_lstore_n (ls' := [some (zo o), some (zl h0), none, some (zl h0), none, none, none, none, none]) e_X4_mixLines_1 rfl rfl rfl ?_
  refine z_aload_n e_X4_mixLines_2 rfl ?_
  refine z_getr (fi := 0) (r := some (o + 1)) e_X4_mixLines_3 f_RX4_12 to rfl rfl ((congrFun (z_un (by omega)) _).trans ro0) ?_
  refine z_callVi (M' := M_X3_lines) (As := []) (rest := []) e_X4_mixLines_6 l_RX4_194 rfl rfl rfl rfl t0 ⟨_, _, rfl⟩ (c_X3_lines (z_Sh_q (z_Sh_r ⟨hc, hd, hr⟩ hH (by omega) _) hH (by omega) _) hH) (fun xq mq rq hq => ?_)
  obtain ⟨e1q, e2q, e3q⟩ := hq
  subst xq mq rq
  have hLb := m_lno_b P (m_count P) (m_count P) (by omega)
  refine z_istore (ls' := [some (zo o), some (zl h0), none, some (zl h0), none, some (zi (m_lno P (m_count P) (m_count P))), none, none, none]) e_X4_mixLines_9 rfl rfl rfl ?_
  refine z_iconst e_X4_mixLines_11 ?_
  refine z_istore (ls' := [some (zo o), some (zl h0), none, some (zl h0), none, some (zi (m_lno P (m_count P) (m_count P))), some (zi 0), none, none]) e_X4_mixLines_12 rfl rfl rfl ?_
  have loop14 : ∀ (nn : Nat) (lx : Int) (h1 : Int64) (G1 : Int → Int) (f1 : Int → Option Nat) (b : Int), (m_lno P (m_count P) (m_count P) - lx).toNat = nn → (0 ≤ lx ∧ lx ≤ m_lno P (m_count P) (m_count P) ∧ 0 ≤ b ∧ b ≤ (m_count P) ∧ m_lbeg P (m_count P) lx = b ∧ m_lno P (m_count P) b = lx ∧ y_mls P (m_count P) b h1 = y_mls P (m_count P) 0 h0) → z_A M_X4_mixLines E 0 0 14 [some (zo o), some (zl h0), none, some (zl h1), none, some (zi (m_lno P (m_count P) (m_count P))), some (zi lx), none, none] [] (z_u mi (o + 73) G1) (z_u mr (o + 73) f1) (z_ql E (fun x m r => x = y_mls P (m_count P) 0 h0 ∧ ∃ (G' : Int → Int) (f' : Int → Option Nat), m = z_u mi (o + 73) G' ∧ r = z_u mr (o + 73) f')) := by
    intro nn
    induction nn using Nat.strongRecOn with
    | _ nn ih14 =>
      intro lx h1 G1 f1 b hmeas hinv
      obtain ⟨ia0, ia1, ia2, ia3, hlb, hlo, hms⟩ := hinv
      refine z_iload e_X4_mixLines_14 rfl ?_
      refine z_iload e_X4_mixLines_16 rfl ?_
      refine z_icmp_ge e_X4_mixLines_18 ⟨by omega, by omega⟩ ⟨by omega, by omega⟩ (fun h18_1 => ?_) (fun h18_1 => ?_)
      · refine z_lload_n e_X4_mixLines_134 rfl ?_
        refine z_lret e_X4_mixLines_135 rfl rfl rfl ⟨rfl, _, rfl, ?_⟩
        refine ⟨?_, G1, f1, rfl, rfl⟩
        have eb := m_lno_full (P := P) ia2 ia3 (by omega)
        rw [← hms, eb, y_mls_e _ (Int.le_refl _)]
      · have hbn : b < m_count P := by
          rcases Int.lt_or_le b (m_count P) with qb | qb
          · exact qb
          · have eb : b = m_count P := by omega
            rw [eb] at hlo; omega
        have hnxt := m_lbeg_next (P := P) ia2 hbn hlo
        have hle := m_lend_spec (P := P) hbn
        have hle1 := hle.1
        have hle2 := hle.2.1
        refine z_iconst e_X4_mixLines_21 ?_
        refine z_istore (ls' := [some (zo o), some (zl h0), none, some (zl h1), none, some (zi (m_lno P (m_count P) (m_count P))), some (zi lx), some (zi 0), none]) e_X4_mixLines_22 rfl rfl rfl ?_
        have loop24 : ∀ (nn : Nat) (w : Int) (h2 : Int64), (3 - w).toNat = nn → (0 ≤ w ∧ w ≤ 3 ∧ h2 = y_mixn (fun w => m_lof P b (m_lend P (m_count P) b) w) w.toNat h1) → z_A M_X4_mixLines E 0 0 24 [some (zo o), some (zl h0), none, some (zl h2), none, some (zi (m_lno P (m_count P) (m_count P))), some (zi lx), some (zi w), none] [] (z_u mi (o + 73) G1) (z_u mr (o + 73) f1) (z_ql E (fun x m r => x = y_mls P (m_count P) 0 h0 ∧ ∃ (G' : Int → Int) (f' : Int → Option Nat), m = z_u mi (o + 73) G' ∧ r = z_u mr (o + 73) f')) := by
          intro nn
          induction nn using Nat.strongRecOn with
          | _ nn ih24 =>
            intro w h2 hmeas hinv
            obtain ⟨ib0, ib1, hh2⟩ := hinv
            refine z_iload e_X4_mixLines_24 rfl ?_
            refine z_iconst e_X4_mixLines_26 ?_
            refine z_icmp_gt e_X4_mixLines_27 ⟨by omega, by omega⟩ (by decide) (fun h27_2 => ?_) (fun h27_2 => ?_)
            · have hw3 : h2 = y_mixn (fun w => m_lof P b (m_lend P (m_count P) b) w) 3 h1 := by rw [hh2, show w = 3 by omega]; rfl
              refine z_aload_n e_X4_mixLines_49 rfl ?_
              refine z_getr (fi := 0) (r := some (o + 1)) e_X4_mixLines_50 f_RX4_12 to rfl rfl ((congrFun (z_un (by omega)) _).trans ro0) ?_
              refine z_iload e_X4_mixLines_53 rfl ?_
              refine z_callVi (M' := M_X3_startOfLine) (As := [zi lx]) (rest := []) e_X4_mixLines_55 l_RX4_163 rfl rfl rfl rfl t0 ⟨_, _, rfl⟩ (c_X3_startOfLine (z_Sh_q (z_Sh_r ⟨hc, hd, hr⟩ hH (by omega) _) hH (by omega) _) hH (by omega) ⟨by omega, by omega⟩) (fun xq mq rq hq => ?_)
              obtain ⟨e1q, e2q, e3q⟩ := hq
              rw [hlb, if_pos hbn] at e1q
              subst xq mq rq
              refine z_istore (ls' := [some (zo o), some (zl h0), none, some (zl h2), none, some (zi (m_lno P (m_count P) (m_count P))), some (zi lx), some (zi b), none]) e_X4_mixLines_58 rfl rfl rfl ?_
              refine z_aload_n e_X4_mixLines_60 rfl ?_
              refine z_getr (fi := 2) (r := some (o + 73)) e_X4_mixLines_61 f_RX4_23 to rfl rfl ((congrFun (z_un (by omega)) _).trans ro2) ?_
              refine z_aload_n e_X4_mixLines_64 rfl ?_
              refine z_getr (fi := 0) (r := some (o + 1)) e_X4_mixLines_65 f_RX4_12 to rfl rfl ((congrFun (z_un (by omega)) _).trans ro0) ?_
              refine z_iload e_X4_mixLines_68 rfl ?_
              refine z_aload_n e_X4_mixLines_70 rfl ?_
              refine z_getr (fi := 0) (r := some (o + 1)) e_X4_mixLines_71 f_RX4_12 to rfl rfl ((congrFun (z_un (by omega)) _).trans ro0) ?_
              refine z_iload e_X4_mixLines_74 rfl ?_
              refine z_callVi (M' := M_X3_endOf) (As := [zi b]) (rest := [zi b, zo (o + 1), zo (o + 73)]) e_X4_mixLines_76 l_RX4_166 rfl rfl rfl rfl t0 ⟨_, _, rfl⟩ (c_X3_endOf (z_Sh_q (z_Sh_r ⟨hc, hd, hr⟩ hH (by omega) _) hH (by omega) _) hH (by omega) (by omega)) (fun xq mq rq hq => ?_)
              obtain ⟨e1q, e2q, e3q⟩ := hq
              subst xq mq rq
              refine z_aload_n e_X4_mixLines_79 rfl ?_
              refine z_getr (fi := 0) (r := some (o + 1)) e_X4_mixLines_80 f_RX4_12 to rfl rfl ((congrFun (z_un (by omega)) _).trans ro0) ?_
              refine z_geti (fi := 5) (x := (P 0)) e_X4_mixLines_83 f_RX4_56 t0 rfl rfl ((congrFun ((z_un (by omega))) _).trans d5) ?_
              refine z_callVv (M' := M_X1_begin) (As := [zo (o + 1), zi b, zi (m_lend P (m_count P) b), zi (P 0)]) (rest := []) e_X4_mixLines_86 l_RX4_243 rfl rfl rfl rfl tq ⟨_, _, rfl⟩ (c_X1_begin tq (z_Sh_r ⟨hc, hd, hr⟩ hH (by omega) f1) hH (by omega) (by omega) (by omega) (by omega)) (fun mq rq hq => ?_)
              obtain ⟨G8, e2q, e3q, hbq, y3, y5, y7, y8, y10, yk⟩ := hq
              rw [z_us, z_uu] at e3q
              subst mq rq
              have hlg := m_line_length (b := b) (e := (m_lend P (m_count P) b)) hH
              have hll := m_line_len (b := b) (e := (m_lend P (m_count P) b)) hH (by omega) (by omega) (by omega)
              refine z_iconst e_X4_mixLines_89 ?_
              refine z_istore (ls' := [some (zo o), some (zl h0), none, some (zl h2), none, some (zi (m_lno P (m_count P) (m_count P))), some (zi lx), some (zi b), some (zi 0)]) e_X4_mixLines_90 rfl rfl rfl ?_
              have loop92 : ∀ (nn : Nat) (k : Int) (h3 : Int64) (G2 : Int → Int) (l1 : List Int), (640 - k).toNat = nn → (0 ≤ k ∧ k ≤ 640 ∧ q_at P G2 l1 ∧ G2 5 = P 0 ∧ G2 7 = k ∧ (0 ≤ G2 8 ∧ G2 8 ≤ k) ∧ (0 ≤ G2 10 ∧ G2 10 ≤ 20) ∧ ((m_line P b (m_lend P (m_count P) b)).length : Int) = k + l1.length ∧ (∀ i : Nat, (m_line P b (m_lend P (m_count P) b))[k.toNat + i]? = l1[i]?) ∧ h3 = y_mixn (fun k => m_sgA P b (m_lend P (m_count P) b) k) k.toNat h2) → z_A M_X4_mixLines E 0 0 92 [some (zo o), some (zl h0), none, some (zl h3), none, some (zi (m_lno P (m_count P) (m_count P))), some (zi lx), some (zi b), some (zi k)] [] (z_u mi (o + 73) G2) (z_u mr (o + 73) (z_v f1 0 (some (o + 1)))) (z_ql E (fun x m r => x = y_mls P (m_count P) 0 h0 ∧ ∃ (G' : Int → Int) (f' : Int → Option Nat), m = z_u mi (o + 73) G' ∧ r = z_u mr (o + 73) f')) := by
                intro nn
                induction nn using Nat.strongRecOn with
                | _ nn ih92 =>
                  intro k h3 G2 l1 hmeas hinv
                  obtain ⟨ic0, ic1, hq1, k5, k7, ⟨k8, k81⟩, ⟨k10, k101⟩, hlen, hix, hh3⟩ := hinv
                  refine z_iload e_X4_mixLines_92 rfl ?_
                  have join128_2 : ∀ (G3 : Int → Int), h3 = y_mln P b (m_lend P (m_count P) b) h1 → z_A M_X4_mixLines E 0 0 128 [some (zo o), some (zl h0), none, some (zl h3), none, some (zi (m_lno P (m_count P) (m_count P))), some (zi lx), some (zi b), none] [] (z_u mi (o + 73) G3) (z_u mr (o + 73) (z_v f1 0 (some (o + 1)))) (z_ql E (fun x m r => x = y_mls P (m_count P) 0 h0 ∧ ∃ (G' : Int → Int) (f' : Int → Option Nat), m = z_u mi (o + 73) G' ∧ r = z_u mr (o + 73) f')) := by
                    intro G3 hj
                    have hsum := hj
                    refine z_iinc (y := (lx + 1)) (ls' := [some (zo o), some (zl h0), none, some (zl h3), none, some (zi (m_lno P (m_count P) (m_count P))), some (zi (lx + 1)), some (zi b), none]) e_X4_mixLines_128 rfl rfl rfl rfl rfl ?_
                    refine z_goto e_X4_mixLines_131 ?_
                    refine z_fgt (ls' := [some (zo o), some (zl h0), none, some (zl h3), none, some (zi (m_lno P (m_count P) (m_count P))), some (zi (lx + 1)), none, none]) ⟨rfl, rfl, rfl, rfl, rfl, trivial⟩ ?_
                    exact ih14 _ (by omega) (lx + 1) h3 G3 (z_v f1 0 (some (o + 1))) ((m_lend P (m_count P) b) + 1) rfl (⟨by omega, by omega, by omega, hnxt.2.2, hnxt.1, hnxt.2.1, by rw [← hms, y_mls_s h1 hbn, hsum]⟩)
                  refine z_sipush e_X4_mixLines_94 (by decide +kernel) ?_
                  refine z_icmp_ge e_X4_mixLines_97 ⟨by omega, by omega⟩ (by decide) (fun h97_4 => ?_) (fun h97_4 => ?_)
                  · refine z_fgt (ls' := [some (zo o), some (zl h0), none, some (zl h3), none, some (zi (m_lno P (m_count P) (m_count P))), some (zi lx), some (zi b), none]) ⟨rfl, rfl, rfl, rfl, rfl, rfl, trivial⟩ ?_
                    exact join128_2 G2 (by have el : l1 = [] := List.length_eq_zero_iff.mp (by omega); subst el; rw [List.length_nil] at hlen; unfold y_mln; rw [hh3, ← hw3, show k.toNat = (m_signs P b (m_lend P (m_count P) b)).toNat by omega])
                  · refine z_aload_n e_X4_mixLines_100 rfl ?_
                    refine z_getr (fi := 2) (r := some (o + 73)) e_X4_mixLines_101 f_RX4_23 to rfl rfl ((congrFun (z_un (by omega)) _).trans ro2) ?_
                    refine z_callVi (M' := M_X1_next) (As := []) (rest := []) e_X4_mixLines_104 l_RX4_247 rfl rfl rfl rfl tq ⟨_, _, rfl⟩ (c_X1_next tq (z_Sh_r ⟨hc, hd, hr⟩ hH (by omega) _) hH (by omega) (by rw [z_us]; exact z_vs _ _ _) hq1 (by omega) (by omega) (by omega) (by omega) (by omega) (by omega) (by omega) (by omega)) (fun xn mq rq hq => ?_)
                    obtain ⟨G9, e2q, e3q, hnx⟩ := hq
                    subst mq rq
                    have hnxb := q_nx_b hnx
                    refine z_if_eq e_X4_mixLines_107 ⟨by omega, by omega⟩ (fun h107_5 => ?_) (fun h107_5 => ?_)
                    · obtain ⟨el, hq2, hsm⟩ := q_nx_0 hnx (by omega)
                      refine z_fgt (ls' := [some (zo o), some (zl h0), none, some (zl h3), none, some (zi (m_lno P (m_count P) (m_count P))), some (zi lx), some (zi b), none]) ⟨rfl, rfl, rfl, rfl, rfl, rfl, trivial⟩ ?_
                      exact join128_2 G9 (by subst el; rw [List.length_nil] at hlen; unfold y_mln; rw [hh3, ← hw3, show k.toNat = (m_signs P b (m_lend P (m_count P) b)).toNat by omega])
                    · obtain ⟨c, l2, el, ex, hq2, hcb9, ⟨j3, j5, j6, j7⟩, ⟨j8, j81⟩, ⟨j9, j91, j10, j101⟩, hrc, hat, hats, j11, j12, j13, j14⟩ := q_nx_1 hnx (by omega) (by omega) (by omega) (by omega)
                      refine z_lload_n e_X4_mixLines_110 rfl ?_
                      refine z_aload_n e_X4_mixLines_111 rfl ?_
                      refine z_getr (fi := 2) (r := some (o + 73)) e_X4_mixLines_112 f_RX4_23 to rfl rfl ((congrFun (z_un (by omega)) _).trans ro2) ?_
                      refine z_geti (fi := 6) (x := (G9 6)) e_X4_mixLines_115 f_RX4_250 tq rfl rfl (congrFun (z_us _ _ _) _) ?_
                      refine z_callSl (M' := M_X4_mix) (As := [zl h3, zi (G9 6)]) (rest := []) e_X4_mixLines_118 l_RX4_213 rfl rfl rfl rfl (c_X4_mix) (fun xq mq rq hq => ?_)
                      obtain ⟨e1q, e2q, e3q⟩ := hq
                      subst xq mq rq
                      refine z_lstore_n (ls' := [some (zo o), some (zl h0), none, some (zl (y_mix h3 (G9 6))), none, some (zi (m_lno P (m_count P) (m_count P))), some (zi lx), some (zi b), some (zi k)]) e_X4_mixLines_121 rfl rfl rfl ?_
                      refine z_iinc (y := (k + 1)) (ls' := [some (zo o), some (zl h0), none, some (zl (y_mix h3 (G9 6))), none, some (zi (m_lno P (m_count P) (m_count P))), some (zi lx), some (zi b), some (zi (k + 1))]) e_X4_mixLines_122 rfl rfl rfl rfl rfl ?_
                      refine z_goto e_X4_mixLines_125 ?_
                      exact ih92 _ (by omega) (k + 1) (y_mix h3 (G9 6)) G9 l2 rfl (⟨by omega, by omega, hq2, by omega, by omega, by omega, by omega, by rw [el, List.length_cons] at hlen; omega, fun i => by rw [show (k + 1).toNat + i = k.toNat + (i + 1) by omega, hix (i + 1), el]; rfl, by rw [y_mixn_s _ ic0, ← hh3, j6]; have hz := hix 0; rw [Nat.add_zero, el] at hz; show _ = y_mix h3 (m_sgA P b (m_lend P (m_count P) b) k); unfold m_sgA; rw [hz]; rfl⟩)
              exact loop92 _ 0 h2 G8 (m_line P b (m_lend P (m_count P) b)) rfl (⟨by omega, by omega, hbq, y5, y7, by omega, by omega, by omega, fun i => by rw [show (0 : Int).toNat + i = i by simp], rfl⟩)
            · refine z_lload_n e_X4_mixLines_30 rfl ?_
              refine z_aload_n e_X4_mixLines_31 rfl ?_
              refine z_iload e_X4_mixLines_32 rfl ?_
              refine z_iload e_X4_mixLines_34 rfl ?_
              refine z_callVi (M' := M_X4_line) (As := [zi lx, zi w]) (rest := [zl h2]) e_X4_mixLines_36 l_RX4_240 rfl rfl rfl rfl to ⟨_, _, rfl⟩ (c_X4_line (z_X_q hX) ⟨by omega, by omega⟩ ⟨by omega, by omega⟩) (fun xq mq rq hq => ?_)
              obtain ⟨e1q, e2q, e3q⟩ := hq
              subst xq mq rq
              refine z_callSl (M' := M_X4_mix) (As := [zl h2, zi (m_lineA P lx w)]) (rest := []) e_X4_mixLines_39 l_RX4_213 rfl rfl rfl rfl (c_X4_mix) (fun xq mq rq hq => ?_)
              obtain ⟨e1q, e2q, e3q⟩ := hq
              subst xq mq rq
              refine z_lstore_n (ls' := [some (zo o), some (zl h0), none, some (zl (y_mix h2 (m_lineA P lx w))), none, some (zi (m_lno P (m_count P) (m_count P))), some (zi lx), some (zi w), none]) e_X4_mixLines_42 rfl rfl rfl ?_
              refine z_iinc (y := (w + 1)) (ls' := [some (zo o), some (zl h0), none, some (zl (y_mix h2 (m_lineA P lx w))), none, some (zi (m_lno P (m_count P) (m_count P))), some (zi lx), some (zi (w + 1)), none]) e_X4_mixLines_43 rfl rfl rfl rfl rfl ?_
              refine z_goto e_X4_mixLines_46 ?_
              exact ih24 _ (by omega) (w + 1) (y_mix h2 (m_lineA P lx w)) rfl (⟨by omega, by omega, by rw [y_mixn_s _ (by omega), ← hh2, m_lineA_lof ia0 (by omega) (by omega) hlb hbn]⟩)
        exact loop24 _ 0 h1 rfl (⟨by omega, by omega, rfl⟩)
  exact loop14 _ 0 h0 G f 0 rfl (⟨by omega, by omega, by omega, by omega, m_lbeg_0 (by omega), rfl, rfl⟩)
set_option maxHeartbeats 1000000 in
set_option maxRecDepth 100000 in
theorem e_X4_digest {E : z_E} {mi : z_Mi} {mr : z_Mr} {o : Nat} {P G : Int → Int} {f : Int → Option Nat} {n nx : Int} (hX : z_X E o mi mr P n nx) : z_ml M_X4_digest E [zo o] (z_u mi (o + 73) G) (z_u mr (o + 73) f) (fun x m r => x = y_dig P n ∧ ∃ (G' : Int → Int) (f' : Int → Option Nat), m = z_u mi (o + 73) G' ∧ r = z_u mr (o + 73) f') := by
  obtain ⟨⟨to, ta, tq, ro0, ro1, ro2, rok⟩, ⟨fo3, fo4, nb0, nb1, nb2, nb3⟩, hH, ⟨sg, hS⟩, hM⟩ := id hX
  obtain ⟨hc, hd, hr⟩ := id hS
  obtain ⟨t0, t1, t2, t3, t4, q0, q1, q2⟩ := id hc
  obtain ⟨d3, d4, d5, d6, d7, d8, u0, u1, u2, uk, uz⟩ := id hd
  obtain ⟨hw0, hw1, hh0, hh1, hf0, hf1, hf2, hr0, hr1, hc0, hc1, hp0, hp1, hk0, hk1, hi0, hi1, hkp, hP⟩ := id hH
  have hcnt := m_count_b hH
  refine z_ofl (ls := [some (zo o), none, none, none]) rfl (fun _ _ => trivial) ⟨rfl, rfl⟩ (Nat.le_of_ble_eq_true rfl) rfl ?_
  refine z_ldc2 (x := 43174) e_X4_digest_0 (z_tab 562 (by decide +kernel) rfl) ?_
  refine z_lstore_n (ls' := [some (zo o), some (zl (43174 : Int64)), none, none]) e_X4_digest_3 rfl rfl rfl ?_
  refine z_iconst e_X4_digest_4 ?_
  refine z_istore_n (ls' := [some (zo o), some (zl (43174 : Int64)), none, some (zi 0)]) e_X4_digest_5 rfl rfl rfl ?_
  have loop6 : ∀ (nn : Nat) (w : Int) (h1 : Int64), (11 - w).toNat = nn → (0 ≤ w ∧ w ≤ 11 ∧ h1 = y_mixn (fun w => m_toldA P n w) w.toNat 43174) → z_A M_X4_digest E 0 0 6 [some (zo o), some (zl h1), none, some (zi w)] [] (z_u mi (o + 73) G) (z_u mr (o + 73) f) (z_ql E (fun x m r => x = y_dig P n ∧ ∃ (G' : Int → Int) (f' : Int → Option Nat), m = z_u mi (o + 73) G' ∧ r = z_u mr (o + 73) f')) := by
    intro nn
    induction nn using Nat.strongRecOn with
    | _ nn ih6 =>
      intro w h1 hmeas hinv
      obtain ⟨ia0, ia1, hh1⟩ := hinv
      refine z_iload_n e_X4_digest_6 rfl ?_
      refine z_bipush e_X4_digest_7 (by decide +kernel) ?_
      refine z_icmp_gt e_X4_digest_9 ⟨by omega, by omega⟩ (by decide) (fun h9_1 => ?_) (fun h9_1 => ?_)
      · have e1 : h1 = y_dg1 P n := by rw [hh1, show w = 11 by omega]; rfl
        clear hh1
        refine z_aload_n e_X4_digest_28 rfl ?_
        refine z_aload_n e_X4_digest_29 rfl ?_
        refine z_lload_n e_X4_digest_30 rfl ?_
        refine z_callVl (M' := M_X4_mixRows) (As := [zl h1]) (rest := [zo o]) e_X4_digest_31 l_RX4_217 rfl rfl rfl rfl to ⟨_, _, rfl⟩ (e_X4_mixRows hX) (fun xq mq rq hq => ?_)
        obtain ⟨e1q, e2q, e3q⟩ := hq
        subst xq mq rq
        refine z_callVl (M' := M_X4_mixCells) (As := [zl (y_dg2 P h1)]) (rest := []) e_X4_digest_34 l_RX4_221 rfl rfl rfl rfl to ⟨_, _, rfl⟩ (e_X4_mixCells hX) (fun xq mq rq hq => ?_)
        obtain ⟨e1q, e2q, e3q⟩ := hq
        subst xq mq rq
        refine z_lstore_n (ls' := [some (zo o), some (zl (y_dg3 P (y_dg2 P h1))), none, some (zi w)]) e_X4_digest_37 rfl rfl rfl ?_
        refine z_aload_n e_X4_digest_38 rfl ?_
        refine z_aload_n e_X4_digest_39 rfl ?_
        refine z_lload_n e_X4_digest_40 rfl ?_
        refine z_callVl (M' := M_X4_mixLines) (As := [zl (y_dg3 P (y_dg2 P h1))]) (rest := [zo o]) e_X4_digest_41 l_RX4_224 rfl rfl rfl rfl to ⟨_, _, rfl⟩ (e_X4_mixLines hX) (fun xq mq rq hq => ?_)
        obtain ⟨e1q, G9, f9, e2q, e3q⟩ := hq
        subst xq mq rq
        refine z_callVl (M' := M_X4_mixCursors) (As := [zl (y_mls P (m_count P) 0 (y_dg3 P (y_dg2 P h1)))]) (rest := []) e_X4_digest_44 l_RX4_227 rfl rfl rfl rfl to ⟨_, _, rfl⟩ (e_X4_mixCursors hX) (fun xq mq rq hq => ?_)
        obtain ⟨e1q, e2q, e3q⟩ := hq
        subst xq mq rq
        refine z_lstore_n (ls' := [some (zo o), some (zl (y_dg5 P (y_mls P (m_count P) 0 (y_dg3 P (y_dg2 P h1))))), none, some (zi w)]) e_X4_digest_47 rfl rfl rfl ?_
        refine z_iconst e_X4_digest_48 ?_
        refine z_istore_n (ls' := [some (zo o), some (zl (y_dg5 P (y_mls P (m_count P) 0 (y_dg3 P (y_dg2 P h1))))), none, some (zi 4)]) e_X4_digest_49 rfl rfl rfl ?_
        have loop50 : ∀ (nn : Nat) (c : Int) (h7 : Int64) (G1 : Int → Int) (f1 : Int → Option Nat), (21 - c).toNat = nn → (4 ≤ c ∧ c ≤ 21 ∧ h7 = y_mixn (fun i => y_many P (4 + i)) (c - 4).toNat (y_dg5 P (y_mls P (m_count P) 0 (y_dg3 P (y_dg2 P h1))))) → z_A M_X4_digest E 0 0 50 [some (zo o), some (zl h7), none, some (zi c)] [] (z_u mi (o + 73) G1) (z_u mr (o + 73) f1) (z_ql E (fun x m r => x = y_dig P n ∧ ∃ (G' : Int → Int) (f' : Int → Option Nat), m = z_u mi (o + 73) G' ∧ r = z_u mr (o + 73) f')) := by
          intro nn
          induction nn using Nat.strongRecOn with
          | _ nn ih50 =>
            intro c h7 G1 f1 hmeas hinv
            obtain ⟨ic0, ic1, hh7⟩ := hinv
            refine z_iload_n e_X4_digest_50 rfl ?_
            refine z_bipush e_X4_digest_51 (by decide +kernel) ?_
            refine z_icmp_gt e_X4_digest_53 ⟨by omega, by omega⟩ (by decide) (fun h53_2 => ?_) (fun h53_2 => ?_)
            · refine z_lload_n e_X4_digest_72 rfl ?_
              refine z_lret e_X4_digest_73 rfl rfl rfl ⟨rfl, _, rfl, ?_⟩
              refine ⟨?_, G1, f1, rfl, rfl⟩
              rw [hh7, show c = 21 by omega, e1]
              rfl
            · refine z_lload_n e_X4_digest_56 rfl ?_
              refine z_aload_n e_X4_digest_57 rfl ?_
              refine z_iload_n e_X4_digest_58 rfl ?_
              refine z_callVi (M' := M_X4_ifWidth) (As := [zi c]) (rest := [zl h7]) e_X4_digest_59 l_RX4_230 rfl rfl rfl rfl to ⟨_, _, rfl⟩ (c_X4_ifWidth (z_X_q hX) ⟨by omega, by omega⟩) (fun xq mq rq hq => ?_)
              obtain ⟨e1q, G7, f7, e2q, e3q⟩ := hq
              rw [z_uu] at e2q e3q
              rw [if_pos (by omega)] at e1q
              subst xq mq rq
              refine z_callSl (M' := M_X4_mix) (As := [zl h7, zi (y_many P c)]) (rest := []) e_X4_digest_62 l_RX4_213 rfl rfl rfl rfl (c_X4_mix) (fun xq mq rq hq => ?_)
              obtain ⟨e1q, e2q, e3q⟩ := hq
              subst xq mq rq
              refine z_lstore_n (ls' := [some (zo o), some (zl (y_mix h7 (y_many P c))), none, some (zi c)]) e_X4_digest_65 rfl rfl rfl ?_
              refine z_iinc (y := (c + 1)) (ls' := [some (zo o), some (zl (y_mix h7 (y_many P c))), none, some (zi (c + 1))]) e_X4_digest_66 rfl rfl rfl rfl rfl ?_
              refine z_goto e_X4_digest_69 ?_
              exact ih50 _ (by omega) (c + 1) (y_mix h7 (y_many P c)) G7 f7 rfl (⟨by omega, by omega, by rw [show c + 1 - 4 = (c - 4) + 1 by omega, y_mixn_s _ (by omega), ← hh7]; show _ = y_mix h7 (y_many P (4 + (c - 4))); rw [show 4 + (c - 4) = c by omega]⟩)
        exact loop50 _ 4 (y_dg5 P (y_mls P (m_count P) 0 (y_dg3 P (y_dg2 P h1)))) G9 f9 rfl (⟨by omega, by omega, rfl⟩)
      · refine z_lload_n e_X4_digest_12 rfl ?_
        refine z_aload_n e_X4_digest_13 rfl ?_
        refine z_iload_n e_X4_digest_14 rfl ?_
        refine z_callVi (M' := M_X4_told) (As := [zi w]) (rest := [zl h1]) e_X4_digest_15 l_RX4_210 rfl rfl rfl rfl to ⟨_, _, rfl⟩ (c_X4_told (z_X_q hX) ⟨by omega, by omega⟩) (fun xq mq rq hq => ?_)
        obtain ⟨e1q, e2q, e3q⟩ := hq
        subst xq mq rq
        refine z_callSl (M' := M_X4_mix) (As := [zl h1, zi (m_toldA P n w)]) (rest := []) e_X4_digest_18 l_RX4_213 rfl rfl rfl rfl (c_X4_mix) (fun xq mq rq hq => ?_)
        obtain ⟨e1q, e2q, e3q⟩ := hq
        subst xq mq rq
        refine z_lstore_n (ls' := [some (zo o), some (zl (y_mix h1 (m_toldA P n w))), none, some (zi w)]) e_X4_digest_21 rfl rfl rfl ?_
        refine z_iinc (y := (w + 1)) (ls' := [some (zo o), some (zl (y_mix h1 (m_toldA P n w))), none, some (zi (w + 1))]) e_X4_digest_22 rfl rfl rfl rfl rfl ?_
        refine z_goto e_X4_digest_25 ?_
        exact ih6 _ (by omega) (w + 1) (y_mix h1 (m_toldA P n w)) rfl (⟨by omega, by omega, by rw [y_mixn_s _ (by omega), ← hh1]⟩)
  exact loop6 _ 0 43174 rfl (⟨by omega, by omega, rfl⟩)
theorem c_X4_digest {E : z_E} {mi : z_Mi} {mr : z_Mr} {o : Nat} {P : Int → Int} {n nx : Int} (hX : z_X E o mi mr P n nx) : z_ml M_X4_digest E [zo o] mi mr (fun x m r => x = y_dig P n ∧ ∃ (G' : Int → Int) (f' : Int → Option Nat), m = z_u mi (o + 73) G' ∧ r = z_u mr (o + 73) f') := by
  have h := e_X4_digest (G := mi (o + 73)) (f := mr (o + 73)) hX
  rw [z_uself, z_uself] at h
  exact h
