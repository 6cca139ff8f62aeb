set_option maxHeartbeats 1000000 in
set_option maxRecDepth 100000 in
theorem c_X1_rowsBefore {E : z_E} {mi : z_Mi} {mr : z_Mr} {q s : Nat} {sg : Int → Nat} {P G : Int → Int} {f : Int → Option Nat} {idx w : Int} (tq : E.2.2[q]? = some (1, 0)) (hS : z_Sh E mi mr s sg P (p_rows P)) (hH : p_hd P) (hqs : q < s ∨ s + 71 ≤ q) (h0 : 0 ≤ idx) (h1 : idx ≤ m_count P) (hw4 : 4 ≤ w) (hw20 : w ≤ 20) : z_mi M_X1_rowsBefore E [zo q, zo s, zi idx, zi w] (z_u mi q G) (z_u mr q f) (fun x m r => x = (y_bc P w (m_count P) idx.toNat).2 ∧ ∃ (G' : Int → Int) (f' : Int → Option Nat), m = z_u mi q G' ∧ r = z_u mr q f') := by
  obtain ⟨hw0, hw1, hh0, hh1, hf0, hf1, hf2, hr0, hr1, hc0, hc1, hp0, hp1, hk0, hk1, hi0, hi1, hkp, hP⟩ := id hH
  have hcb0 := m_count_b hH
  refine z_ofi (ls := [some (zo q), some (zo s), some (zi idx), some (zi w), none, none, none, none, none]) rfl (fun _ _ => trivial) ⟨rfl, rfl⟩ (Nat.le_of_ble_eq_true rfl) rfl ?_
  refine z_aload_n e_X1_rowsBefore_0 rfl ?_
  refine z_callVi (M' := M_X3_countedRows) (As := []) (rest := []) e_X1_rowsBefore_1 l_RX1_85 rfl rfl rfl rfl hS.1.1 ⟨_, _, rfl⟩ (c_X3_countedRows (z_Sh_q (z_Sh_r hS hH hqs _) hH hqs _) hH) (fun xq mq rq hq => ?_)
  obtain ⟨e1q, e2q, e3q⟩ := hq
  subst xq mq rq
  have hcb := m_count_b hH
  refine z_istore (ls' := [some (zo q), some (zo s), some (zi idx), some (zi w), some (zi (m_count P)), none, none, none, none]) e_X1_rowsBefore_4 rfl rfl rfl ?_
  refine z_iconst e_X1_rowsBefore_6 ?_
  refine z_istore (ls' := [some (zo q), some (zo s), some (zi idx), some (zi w), some (zi (m_count P)), some (zi 0), none, none, none]) e_X1_rowsBefore_7 rfl rfl rfl ?_
  refine z_iconst e_X1_rowsBefore_9 ?_
  refine z_istore (ls' := [some (zo q), some (zo s), some (zi idx), some (zi w), some (zi (m_count P)), some (zi 0), some (zi 0), none, none]) e_X1_rowsBefore_10 rfl rfl rfl ?_
  refine z_iconst e_X1_rowsBefore_12 ?_
  refine z_istore (ls' := [some (zo q), some (zo s), some (zi idx), some (zi w), some (zi (m_count P)), some (zi 0), some (zi 0), some (zi 0), none]) e_X1_rowsBefore_13 rfl rfl rfl ?_
  have loop15 : ∀ (nn : Nat) (r : Int) (st0 : Int) (cnt : Int) (G1 : Int → Int) (f1 : Int → Option Nat), (idx - r).toNat = nn → (0 ≤ r ∧ r ≤ idx ∧ st0 = (y_bc P w (m_count P) r.toNat).1 ∧ cnt = (y_bc P w (m_count P) r.toNat).2) → z_A M_X1_rowsBefore E 0 0 15 [some (zo q), some (zo s), some (zi idx), some (zi w), some (zi (m_count P)), some (zi cnt), some (zi st0), some (zi r), none] [] (z_u mi q G1) (z_u mr q f1) (z_qi E (fun x m r => x = (y_bc P w (m_count P) idx.toNat).2 ∧ ∃ (G' : Int → Int) (f' : Int → Option Nat), m = z_u mi q G' ∧ r = z_u mr q f')) := by
    intro nn
    induction nn using Nat.strongRecOn with
    | _ nn ih15 =>
      intro r st0 cnt G1 f1 hmeas hinv
      obtain ⟨ia0, ia1, hst, hcnt⟩ := hinv
      have hbb := y_bc_b (W := w) (n := m_count P) hH r.toNat (by omega)
      rw [← hst, ← hcnt] at hbb
      refine z_iload e_X1_rowsBefore_15 rfl ?_
      refine z_iload_n e_X1_rowsBefore_17 rfl ?_
      refine z_icmp_ge e_X1_rowsBefore_18 ⟨by omega, by omega⟩ ⟨by omega, by omega⟩ (fun h18_1 => ?_) (fun h18_1 => ?_)
      · refine z_iload e_X1_rowsBefore_89 rfl ?_
        refine z_iret e_X1_rowsBefore_91 (Or.inl rfl) rfl rfl ⟨rfl, _, rfl, ?_⟩
        refine ⟨?_, _, _, rfl, rfl⟩
        rw [hcnt, show r = idx by omega]
      · refine z_aload_n e_X1_rowsBefore_21 rfl ?_
        refine z_iload e_X1_rowsBefore_22 rfl ?_
        refine z_iload e_X1_rowsBefore_24 rfl ?_
        refine z_callVi (M' := M_X3_endsLine) (As := [zi r, zi (m_count P)]) (rest := []) e_X1_rowsBefore_26 l_RX1_89 rfl rfl rfl rfl hS.1.1 ⟨_, _, rfl⟩ (c_X3_endsLine (z_Sh_q (z_Sh_r hS hH hqs _) hH hqs _) hH (by omega) (by omega) (by omega) (by omega)) (fun xq mq rq hq => ?_)
        obtain ⟨e1q, e2q, e3q⟩ := hq
        subst xq mq rq
        refine z_if_eqB e_X1_rowsBefore_29  (fun he => ?_) (fun he => ?_)
        · refine z_iinc (y := (r + 1)) (ls' := [some (zo q), some (zo s), some (zi idx), some (zi w), some (zi (m_count P)), some (zi cnt), some (zi st0), some (zi (r + 1)), none]) e_X1_rowsBefore_83 rfl rfl rfl rfl rfl ?_
          refine z_goto e_X1_rowsBefore_86 ?_
          exact ih15 _ (by omega) (r + 1) st0 cnt G1 f1 rfl (⟨by omega, by omega, by rw [y_bc_s _ _ _ ia0, if_neg he]; exact hst, by rw [y_bc_s _ _ _ ia0, if_neg he]; exact hcnt⟩)
        · refine z_aload_n e_X1_rowsBefore_32 rfl ?_
          refine z_aload_n e_X1_rowsBefore_33 rfl ?_
          refine z_iload e_X1_rowsBefore_34 rfl ?_
          refine z_iload e_X1_rowsBefore_36 rfl ?_
          refine z_iload_n e_X1_rowsBefore_38 rfl ?_
          refine z_callVv (M' := M_X1_begin) (As := [zo s, zi st0, zi r, zi w]) (rest := []) e_X1_rowsBefore_39 l_RX1_73 rfl rfl rfl rfl tq ⟨_, _, rfl⟩ (c_X1_begin tq (z_Sh_r hS hH hqs f1) hH hqs (by omega) (by omega) (by omega)) (fun mq rq hq => ?_)
          obtain ⟨G8, e2q, e3q, hbq, y3, y5, y7, y8, y10, yk⟩ := hq
          rw [z_us, z_uu] at e3q
          subst mq rq
          have join66_2 : ∀ (G3 : Int → Int), G3 8 = (y_rcl w (m_line P st0 r) (0, 0)).1 ∧ 0 ≤ G3 8 ∧ G3 8 ≤ 640 → z_A M_X1_rowsBefore E 0 0 66 [some (zo q), some (zo s), some (zi idx), some (zi w), some (zi (m_count P)), some (zi cnt), some (zi st0), some (zi r), none] [] (z_u mi q G3) (z_u mr q (z_v f1 0 (some s))) (z_qi E (fun x m r => x = (y_bc P w (m_count P) idx.toNat).2 ∧ ∃ (G' : Int → Int) (f' : Int → Option Nat), m = z_u mi q G' ∧ r = z_u mr q f')) := by
            intro G3 hj
            obtain ⟨hg3, hg30, hg31⟩ := hj
            refine z_iload e_X1_rowsBefore_66 rfl ?_
            refine z_aload_n e_X1_rowsBefore_68 rfl ?_
            refine z_geti (fi := 8) (x := (G3 8)) e_X1_rowsBefore_69 f_RX1_37 tq rfl rfl (congrFun (z_us _ _ _) _) ?_
            refine z_iconst e_X1_rowsBefore_72 ?_
            refine z_iadd e_X1_rowsBefore_73 ?_
            refine z_iadd e_X1_rowsBefore_74 ?_
            refine z_istore (ls' := [some (zo q), some (zo s), some (zi idx), some (zi w), some (zi (m_count P)), some (zi (cnt + ((G3 8) + 1))), some (zi st0), some (zi r), none]) e_X1_rowsBefore_75 rfl rfl rfl ?_
            refine z_iload e_X1_rowsBefore_77 rfl ?_
            refine z_iconst e_X1_rowsBefore_79 ?_
            refine z_iadd e_X1_rowsBefore_80 ?_
            refine z_istore (ls' := [some (zo q), some (zo s), some (zi idx), some (zi w), some (zi (m_count P)), some (zi (cnt + ((G3 8) + 1))), some (zi (r + 1)), some (zi r), none]) e_X1_rowsBefore_81 rfl rfl rfl ?_
            refine z_iinc (y := (r + 1)) (ls' := [some (zo q), some (zo s), some (zi idx), some (zi w), some (zi (m_count P)), some (zi (cnt + ((G3 8) + 1))), some (zi (r + 1)), some (zi (r + 1)), none]) e_X1_rowsBefore_83 rfl rfl rfl rfl rfl ?_
            refine z_goto e_X1_rowsBefore_86 ?_
            exact ih15 _ (by omega) (r + 1) (r + 1) (cnt + ((G3 8) + 1)) G3 (z_v f1 0 (some s)) rfl (⟨by omega, by omega, by rw [y_bc_s _ _ _ ia0, if_pos he], by rw [y_bc_s _ _ _ ia0, if_pos he, ← hst, ← hcnt, hg3]⟩)
          refine z_iconst e_X1_rowsBefore_42 ?_
          refine z_istore (ls' := [some (zo q), some (zo s), some (zi idx), some (zi w), some (zi (m_count P)), some (zi cnt), some (zi st0), some (zi r), some (zi 0)]) e_X1_rowsBefore_43 rfl rfl rfl ?_
          have loop45 : ∀ (nn : Nat) (k : Int) (G2 : Int → Int) (l1 : List Int), (640 - k).toNat = nn → (0 ≤ k ∧ k ≤ 640 ∧ q_at P G2 l1 ∧ G2 5 = w ∧ G2 7 = k ∧ (0 ≤ G2 8 ∧ G2 8 ≤ k) ∧ (0 ≤ G2 10 ∧ G2 10 ≤ 20) ∧ k + (l1.length : Int) ≤ 640 ∧ y_rcl w (m_line P st0 r) (0, 0) = y_rcl w l1 (G2 8, G2 10)) → z_A M_X1_rowsBefore E 0 0 45 [some (zo q), some (zo s), some (zi idx), some (zi w), some (zi (m_count P)), some (zi cnt), some (zi st0), some (zi r), some (zi k)] [] (z_u mi q G2) (z_u mr q (z_v f1 0 (some s))) (z_qi E (fun x m r => x = (y_bc P w (m_count P) idx.toNat).2 ∧ ∃ (G' : Int → Int) (f' : Int → Option Nat), m = z_u mi q G' ∧ r = z_u mr q f')) := by
            intro nn
            induction nn using Nat.strongRecOn with
            | _ nn ih45 =>
              intro k G2 l1 hmeas hinv
              obtain ⟨ib0, ib1, hq1, k5, k7, ⟨k8, k81⟩, ⟨k10, k101⟩, hlen, hrl⟩ := hinv
              refine z_iload e_X1_rowsBefore_45 rfl ?_
              refine z_sipush e_X1_rowsBefore_47 (by decide +kernel) ?_
              refine z_icmp_ge e_X1_rowsBefore_50 ⟨by omega, by omega⟩ (by decide) (fun h50_4 => ?_) (fun h50_4 => ?_)
              · refine z_fgt (ls' := [some (zo q), some (zo s), some (zi idx), some (zi w), some (zi (m_count P)), some (zi cnt), some (zi st0), some (zi r), none]) ⟨rfl, rfl, rfl, rfl, rfl, rfl, rfl, rfl, trivial⟩ ?_
                exact join66_2 G2 (by have el : l1 = [] := List.length_eq_zero_iff.mp (by omega); subst el; exact ⟨by rw [hrl]; rfl, by omega, by omega⟩)
              · refine z_aload_n e_X1_rowsBefore_53 rfl ?_
                refine z_callVi (M' := M_X1_next) (As := []) (rest := []) e_X1_rowsBefore_54 l_RX1_81 rfl rfl rfl rfl tq ⟨_, _, rfl⟩ (c_X1_next tq (z_Sh_r hS hH hqs _) hH hqs (by rw [z_us]; exact z_vs _ _ _) hq1 (by omega) (by omega) (by omega) (by omega) (by omega) (by omega) (by omega) (by omega)) (fun xn mq rq hq => ?_)
                obtain ⟨G9, e2q, e3q, hnx⟩ := hq
                subst mq rq
                have hnxb := q_nx_b hnx
                refine z_if_eq e_X1_rowsBefore_57 ⟨by omega, by omega⟩ (fun h57_5 => ?_) (fun h57_5 => ?_)
                · obtain ⟨el, hq2, hsm⟩ := q_nx_0 hnx (by omega)
                  refine z_fgt (ls' := [some (zo q), some (zo s), some (zi idx), some (zi w), some (zi (m_count P)), some (zi cnt), some (zi st0), some (zi r), none]) ⟨rfl, rfl, rfl, rfl, rfl, rfl, rfl, rfl, trivial⟩ ?_
                  exact join66_2 G9 (by subst el; rw [hsm 8 (by decide) (by decide) (by decide)]; exact ⟨by rw [hrl]; rfl, by omega, by omega⟩)
                · obtain ⟨c, l2, el, ex, hq2, hcb9, ⟨j3, j5, j6, j7⟩, ⟨j8, j81⟩, ⟨j9, j91, j10, j101⟩, hrc, hat, hats, j11, j12, j13, j14⟩ := q_nx_1 hnx (by omega) (by omega) (by omega) (by omega)
                  refine z_iinc (y := (k + 1)) (ls' := [some (zo q), some (zo s), some (zi idx), some (zi w), some (zi (m_count P)), some (zi cnt), some (zi st0), some (zi r), some (zi (k + 1))]) e_X1_rowsBefore_60 rfl rfl rfl rfl rfl ?_
                  refine z_goto e_X1_rowsBefore_63 ?_
                  exact ih45 _ (by omega) (k + 1) G9 l2 rfl (⟨by omega, by omega, hq2, by omega, by omega, by omega, by omega, by rw [el, List.length_cons] at hlen; omega, by rw [k5] at hrc; rw [hrl, hrc]⟩)
          exact loop45 _ 0 G8 (m_line P st0 r) rfl (⟨by omega, by omega, hbq, y5, y7, by omega, by omega, by have := m_line_len (b := st0) (e := r) hH (by omega) (by omega) (by omega); omega, by rw [y8, y10]⟩)
  exact loop15 _ 0 0 0 G f rfl (⟨by omega, by omega, rfl, rfl⟩)
set_option maxHeartbeats 1000000 in
set_option maxRecDepth 100000 in
theorem c_X1_rowsIn {E : z_E} {mi : z_Mi} {mr : z_Mr} {q s : Nat} {sg : Int → Nat} {P G : Int → Int} {f : Int → Option Nat} {w : Int} (tq : E.2.2[q]? = some (1, 0)) (hS : z_Sh E mi mr s sg P (p_rows P)) (hH : p_hd P) (hqs : q < s ∨ s + 71 ≤ q) (hw4 : 4 ≤ w) (hw20 : w ≤ 20) : z_mi M_X1_rowsIn E [zo q, zo s, zi w] (z_u mi q G) (z_u mr q f) (fun x m r => x = y_many P w ∧ ∃ (G' : Int → Int) (f' : Int → Option Nat), m = z_u mi q G' ∧ r = z_u mr q f') := by
  obtain ⟨hw0, hw1, hh0, hh1, hf0, hf1, hf2, hr0, hr1, hc0, hc1, hp0, hp1, hk0, hk1, hi0, hi1, hkp, hP⟩ := id hH
  have hcb0 := m_count_b hH
  refine z_ofi (ls := [some (zo q), some (zo s), some (zi w)]) rfl (fun _ _ => trivial) ⟨rfl, rfl⟩ (Nat.le_of_ble_eq_true rfl) rfl ?_
  refine z_aload_n e_X1_rowsIn_0 rfl ?_
  refine z_aload_n e_X1_rowsIn_1 rfl ?_
  refine z_aload_n e_X1_rowsIn_2 rfl ?_
  refine z_callVi (M' := M_X3_countedRows) (As := []) (rest := [zo s, zo q]) e_X1_rowsIn_3 l_RX1_85 rfl rfl rfl rfl hS.1.1 ⟨_, _, rfl⟩ (c_X3_countedRows (z_Sh_q (z_Sh_r hS hH hqs _) hH hqs _) hH) (fun xq mq rq hq => ?_)
  obtain ⟨e1q, e2q, e3q⟩ := hq
  subst xq mq rq
  have hcb := m_count_b hH
  refine z_iload_n e_X1_rowsIn_6 rfl ?_
  refine z_callVi (M' := M_X1_rowsBefore) (As := [zo s, zi (m_count P), zi w]) (rest := []) e_X1_rowsIn_7 l_RX1_93 rfl rfl rfl rfl tq ⟨_, _, rfl⟩ (c_X1_rowsBefore tq hS hH hqs (by omega) (by omega) (by omega) (by omega)) (fun xn mq rq hq => ?_)
  obtain ⟨hrb, G9, f9, e2q, e3q⟩ := hq
  subst mq rq
  refine z_iret e_X1_rowsIn_10 (Or.inl rfl) rfl rfl ⟨rfl, _, rfl, ?_⟩
  refine ⟨?_, _, _, rfl, rfl⟩
  rw [hrb, y_bc_many w hH]
