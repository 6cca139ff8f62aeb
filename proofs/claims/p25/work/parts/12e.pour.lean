set_option maxHeartbeats 1000000 in
set_option maxRecDepth 100000 in
theorem c_X1_pourLines {E : z_E} {mi : z_Mi} {mr : z_Mr} {q s t : Nat} {sg sgt : Int → Nat} {f : Int → Option Nat} {P G F X : Int → Int} {top w n : Int} (tq : E.2.2[q]? = some (1, 0)) (hc : z_Sc E mr s) (hr : z_Sr E mi mr s sg w n (x_row X)) (hS : z_Sh E mi mr t sgt P (p_rows P)) (hH : p_hd P) (hqt : q < t ∨ t + 71 ≤ q) (hqs : q < s ∨ s + 71 ≤ q) (hst : s + 71 ≤ t ∨ t + 71 ≤ s) (hw4 : 4 ≤ w) (hw20 : w ≤ 20) (hdw : mi s 5 = w) (f8 : F 8 = w) (f10 : F 10 = 1) (f9 : F 9 = -top) (hfx : x_fresh X top 0) (hroom : top + (y_bc P w (m_count P) (m_count P).toNat).2 ≤ n) (hn : n ≤ 32) (hi0 : -99999 ≤ top) (hi1 : top ≤ 0) : z_mv M_X1_pourLines E [zo q, zo t, zo s, zi top] (z_u mi q G) (z_u mr q f) (fun m r => ∃ (G' : Int → Int) (f' : Int → Option Nat) (mk : z_Mi), m = z_u mk q G' ∧ r = z_u mr q f' ∧ z_Sr E mk mr s sg w n (x_row (y_bx P w (m_count P) F X (m_count P).toNat).2) ∧ (∀ j : Nat, j < s + 4 ∨ s + 68 ≤ j → mk j = mi j)) := by
  obtain ⟨hw0, hw1, hh0, hh1, hf0, hf1, hf2, hr0, hr1, hc0, hc1, hp0, hp1, hk0, hk1, hi00, hi11, hkp, hP⟩ := id hH
  have hcb0 := m_count_b hH
  refine z_ofv (ls := [some (zo q), some (zo t), some (zo s), some (zi top), none, none, none, none]) rfl (fun _ _ => trivial) ⟨rfl, rfl⟩ (Nat.le_of_ble_eq_true rfl) rfl ?_
  refine z_aload_n e_X1_pourLines_0 rfl ?_
  refine z_callVi (M' := M_X3_countedRows) (As := []) (rest := []) e_X1_pourLines_1 l_RX1_85 rfl rfl rfl rfl hS.1.1 ⟨_, _, rfl⟩ (c_X3_countedRows (z_Sh_q (z_Sh_r hS hH hqt _) hH hqt _) hH) (fun xq mq rq hq => ?_)
  obtain ⟨e1q, e2q, e3q⟩ := hq
  subst xq mq rq
  refine z_istore (ls' := [some (zo q), some (zo t), some (zo s), some (zi top), some (zi (m_count P)), none, none, none]) e_X1_pourLines_4 rfl rfl rfl ?_
  refine z_iload_n e_X1_pourLines_6 rfl ?_
  refine z_istore (ls' := [some (zo q), some (zo t), some (zo s), some (zi top), some (zi (m_count P)), some (zi top), none, none]) e_X1_pourLines_7 rfl rfl rfl ?_
  refine z_iconst e_X1_pourLines_9 ?_
  refine z_istore (ls' := [some (zo q), some (zo t), some (zo s), some (zi top), some (zi (m_count P)), some (zi top), some (zi 0), none]) e_X1_pourLines_10 rfl rfl rfl ?_
  refine z_iconst e_X1_pourLines_12 ?_
  refine z_istore (ls' := [some (zo q), some (zo t), some (zo s), some (zi top), some (zi (m_count P)), some (zi top), some (zi 0), some (zi 0)]) e_X1_pourLines_13 rfl rfl rfl ?_
  have loop15 : ∀ (nn : Nat) (r : Int) (st0 : Int) (ix : Int) (G1 : Int → Int) (f1 : Int → Option Nat) (mk : z_Mi), (m_count P - r).toNat = nn → (0 ≤ r ∧ r ≤ m_count P ∧ st0 = (y_bc P w (m_count P) r.toNat).1 ∧ ix = top + (y_bc P w (m_count P) r.toNat).2 ∧ z_Sr E mk mr s sg w n (x_row (y_bx P w (m_count P) F X r.toNat).2) ∧ x_fresh (y_bx P w (m_count P) F X r.toNat).2 ix 0 ∧ (∀ j : Nat, j < s + 4 ∨ s + 68 ≤ j → mk j = mi j)) → z_A M_X1_pourLines E 0 0 15 [some (zo q), some (zo t), some (zo s), some (zi top), some (zi (m_count P)), some (zi ix), some (zi st0), some (zi r)] [] (z_u mk q G1) (z_u mr q f1) (z_qv E (fun m r => ∃ (G' : Int → Int) (f' : Int → Option Nat) (mk : z_Mi), m = z_u mk q G' ∧ r = z_u mr q f' ∧ z_Sr E mk mr s sg w n (x_row (y_bx P w (m_count P) F X (m_count P).toNat).2) ∧ (∀ j : Nat, j < s + 4 ∨ s + 68 ≤ j → mk j = mi j))) := by
    intro nn
    induction nn using Nat.strongRecOn with
    | _ nn ih15 =>
      intro r st0 ix G1 f1 mk hmeas hinv
      obtain ⟨ia0, ia1, hst0, hix, hr1, hfx, hfm⟩ := hinv
      have hbb := y_bc_b (W := w) (n := m_count P) hH r.toNat (by omega)
      rw [← hst0] at hbb
      have hb8 : (z_v (y_bx P w (m_count P) F X r.toNat).1 12 0) 8 = w := (z_vn (by decide)).trans ((y_bx_c (by decide) (by decide) _).trans f8)
      have hb10 : (z_v (y_bx P w (m_count P) F X r.toNat).1 12 0) 10 = 1 := (z_vn (by decide)).trans ((y_bx_c (by decide) (by decide) _).trans f10)
      have hb11 : (z_v (y_bx P w (m_count P) F X r.toNat).1 12 0) 11 - (z_v (y_bx P w (m_count P) F X r.toNat).1 12 0) 9 = ix := by rw [z_vn (by decide), z_vn (by decide), y_bx_c (show (9 : Int) ≠ 11 by decide) (by decide), y_bx_r f8, f9]; omega
      refine z_iload e_X1_pourLines_15 rfl ?_
      refine z_iload e_X1_pourLines_17 rfl ?_
      refine z_icmp_ge e_X1_pourLines_19 ⟨by omega, by omega⟩ ⟨by omega, by omega⟩ (fun h19_1 => ?_) (fun h19_1 => ?_)
      · refine z_ret e_X1_pourLines_76 rfl rfl rfl ⟨rfl, rfl, ?_⟩
        refine ⟨G1, f1, mk, rfl, rfl, ?_, hfm⟩
        have er : r = m_count P := by omega
        rw [er] at hr1
        exact hr1
      · refine z_aload_n e_X1_pourLines_22 rfl ?_
        refine z_iload e_X1_pourLines_23 rfl ?_
        refine z_iload e_X1_pourLines_25 rfl ?_
        refine z_callVi (M' := M_X3_endsLine) (As := [zi r, zi (m_count P)]) (rest := []) e_X1_pourLines_27 l_RX1_89 rfl rfl rfl rfl hS.1.1 ⟨_, _, rfl⟩ (c_X3_endsLine (z_Sh_fr hS hH (fun c c0 c1 => ⟨(z_un (by omega)).trans (hfm c (by omega)), z_un (by omega)⟩)) hH (by omega) (by omega) (by omega) (by omega)) (fun xq mq rq hq => ?_)
        obtain ⟨e1q, e2q, e3q⟩ := hq
        subst xq mq rq
        refine z_if_eqB e_X1_pourLines_30  (fun he => ?_) (fun he => ?_)
        · refine z_iinc (y := (r + 1)) (ls' := [some (zo q), some (zo t), some (zo s), some (zi top), some (zi (m_count P)), some (zi ix), some (zi st0), some (zi (r + 1))]) e_X1_pourLines_70 rfl rfl rfl rfl rfl ?_
          refine z_goto e_X1_pourLines_73 ?_
          exact ih15 _ (by omega) (r + 1) st0 ix G1 f1 mk rfl (⟨by omega, by omega, by rw [y_bc_s _ _ _ ia0, if_neg he]; exact hst0, by rw [y_bc_s _ _ _ ia0, if_neg he]; exact hix, by rw [y_bx_s _ _ _ _ _ ia0, if_neg he]; exact hr1, by rw [y_bx_s _ _ _ _ _ ia0, if_neg he]; exact hfx, hfm⟩)
        · have hcm := y_bc_le (P := P) (W := w) (n := m_count P) (show r + 1 ≤ m_count P by omega)
          rw [y_bc_s _ _ _ ia0, if_pos he, ← hst0] at hcm
          dsimp only at hcm
          refine z_aload_n e_X1_pourLines_33 rfl ?_
          refine z_aload_n e_X1_pourLines_34 rfl ?_
          refine z_iload e_X1_pourLines_35 rfl ?_
          refine z_iload e_X1_pourLines_37 rfl ?_
          refine z_aload_n e_X1_pourLines_39 rfl ?_
          refine z_geti (fi := 5) (x := w) e_X1_pourLines_40 f_RX1_72 hc.1 rfl rfl ((congrFun (z_un (by omega)) _).trans ((congrFun (hfm s (by omega)) _).trans hdw)) ?_
          refine z_callVv (M' := M_X1_begin) (As := [zo t, zi st0, zi r, zi w]) (rest := []) e_X1_pourLines_43 l_RX1_73 rfl rfl rfl rfl tq ⟨_, _, rfl⟩ (c_X1_begin tq (z_Sh_fr hS hH (fun c c0 c1 => ⟨hfm c (by omega), z_un (by omega)⟩)) hH hqt (by omega) (by omega) (by omega)) (fun mq rq hq => ?_)
          obtain ⟨G8, e2q, e3q, hbq, y3, y5, y7, y8, y10, yk⟩ := hq
          rw [z_us, z_uu] at e3q
          subst mq rq
          refine z_aload_n e_X1_pourLines_46 rfl ?_
          refine z_aload_n e_X1_pourLines_47 rfl ?_
          refine z_iload e_X1_pourLines_48 rfl ?_
          refine z_callVv (M' := M_X1_pourLine) (As := [zo s, zi ix]) (rest := []) e_X1_pourLines_50 l_RX1_141 rfl rfl rfl rfl tq ⟨_, _, rfl⟩ (c_X1_pourLine (F := z_v (y_bx P w (m_count P) F X r.toNat).1 12 0) (X := (y_bx P w (m_count P) F X r.toNat).2) tq (z_Sc_q hc hqs _) (z_Sr_q hr1 hqs _) (z_Sh_fr hS hH (fun c c0 c1 => ⟨hfm c (by omega), z_un (by omega)⟩)) hH hqt hqs hst (by rw [z_us]; exact z_vs _ _ _) hbq (m_line_len hH (by omega) (by omega) (by omega)) y5 hw4 hw20 y7 y8 y10 hb8 hb10 hb11 (z_vs _ _ _) hfx (by omega) hn (by omega)) (fun mq rq hq => ?_)
          obtain ⟨G9, mk2, e2q, e3q, g8, hr2, hfx2, hfm2⟩ := hq
          subst mq rq
          refine z_iload e_X1_pourLines_53 rfl ?_
          refine z_aload_n e_X1_pourLines_55 rfl ?_
          refine z_geti (fi := 8) (x := (G9 8)) e_X1_pourLines_56 f_RX1_37 tq rfl rfl (congrFun (z_us _ _ _) _) ?_
          refine z_iconst e_X1_pourLines_59 ?_
          refine z_iadd e_X1_pourLines_60 ?_
          refine z_iadd e_X1_pourLines_61 ?_
          refine z_istore (ls' := [some (zo q), some (zo t), some (zo s), some (zi top), some (zi (m_count P)), some (zi (ix + ((G9 8) + 1))), some (zi st0), some (zi r)]) e_X1_pourLines_62 rfl rfl rfl ?_
          refine z_iload e_X1_pourLines_64 rfl ?_
          refine z_iconst e_X1_pourLines_66 ?_
          refine z_iadd e_X1_pourLines_67 ?_
          refine z_istore (ls' := [some (zo q), some (zo t), some (zo s), some (zi top), some (zi (m_count P)), some (zi (ix + ((G9 8) + 1))), some (zi (r + 1)), some (zi r)]) e_X1_pourLines_68 rfl rfl rfl ?_
          refine z_iinc (y := (r + 1)) (ls' := [some (zo q), some (zo t), some (zo s), some (zi top), some (zi (m_count P)), some (zi (ix + ((G9 8) + 1))), some (zi (r + 1)), some (zi (r + 1))]) e_X1_pourLines_70 rfl rfl rfl rfl rfl ?_
          refine z_goto e_X1_pourLines_73 ?_
          exact ih15 _ (by omega) (r + 1) (r + 1) (ix + ((G9 8) + 1)) G9 (z_v f1 0 (some t)) mk2 rfl (⟨by omega, by omega, by rw [y_bc_s _ _ _ ia0, if_pos he], by rw [y_bc_s _ _ _ ia0, if_pos he, ← hst0, g8]; dsimp only; omega, by rw [y_bx_s _ _ _ _ _ ia0, if_pos he, ← hst0]; exact z_Sr_qi hr2 hqs, by rw [y_bx_s _ _ _ _ _ ia0, if_pos he, ← hst0, show ix + (G9 8 + 1) = ix + G9 8 + 1 by omega]; exact hfx2, fun j hj => (hfm2 j hj).trans (hfm j hj)⟩)
  exact loop15 _ 0 0 top G f mi rfl (⟨by omega, by omega, rfl, by show top = top + 0; omega, hr, hfx, fun _ _ => rfl⟩)
