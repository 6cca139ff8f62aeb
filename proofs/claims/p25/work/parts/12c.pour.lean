set_option maxHeartbeats 1000000 in
set_option maxRecDepth 100000 in
theorem g_X3_rowAt {E : z_E} {mi : z_Mi} {mr : z_Mr} {s a : Nat} {k : Int} (t0 : E.2.2[s]? = some (3, 0)) (t1 : E.2.2[s + 1]? = some (12, 32)) (q0 : mr s 0 = some (s + 1)) (h0 : 0 ≤ k) (h1 : k < 32) (hk : mr (s + 1) k = some a) : z_mf M_X3_rowAt E [zo s, zi k] mi mr (fun x m r => x = a ∧ m = mi ∧ r = mr) := by
  refine z_ofr (ls := [some (zo s), some (zi k)]) rfl (fun _ _ => trivial) ⟨rfl, rfl⟩ (Nat.le_of_ble_eq_true rfl) rfl ?_
  refine z_aload_n e_X3_rowAt_0 rfl ?_
  refine z_getr (fi := 0) (r := some (s + 1)) e_X3_rowAt_1 f_RX3_11 t0 rfl rfl (q0) ?_
  refine z_iload_n e_X3_rowAt_4 rfl ?_
  refine z_if_lt e_X3_rowAt_5 ⟨by omega, by omega⟩ (fun h5_1 => ?_) (fun h5_1 => ?_)
  · exfalso; omega
  · refine z_iload_n e_X3_rowAt_8 rfl ?_
    refine z_bipush e_X3_rowAt_9 (by decide +kernel) ?_
    refine z_icmp_ge e_X3_rowAt_11 ⟨by omega, by omega⟩ (by decide) (fun h11_2 => ?_) (fun h11_2 => ?_)
    · exfalso; omega
    · refine z_iload_n e_X3_rowAt_14 rfl ?_
      refine z_goto e_X3_rowAt_15 ?_
      refine z_aald (r := some a) e_X3_rowAt_19 t1 (by decide) (by decide) (by omega) (by omega) (hk) ?_
      refine z_aret e_X3_rowAt_20 ⟨_, rfl⟩ rfl rfl ⟨rfl, _, rfl, ?_⟩
      exact ⟨rfl, rfl, rfl⟩
set_option maxHeartbeats 1000000 in
set_option maxRecDepth 100000 in
theorem c_X1_pourLine {E : z_E} {mi : z_Mi} {mr : z_Mr} {q s t : Nat} {sg sgt : Int → Nat} {P G F X : Int → Int} {l : List Int} {idx w n : Int} (tq : E.2.2[q]? = some (1, 0)) (hc : z_Sc E mr s) (hr : z_Sr E mi mr s sg w n (x_row X)) (hS : z_Sh E mi mr t sgt P (p_rows P)) (hH : p_hd P) (hqt : q < t ∨ t + 71 ≤ q) (hqs : q < s ∨ s + 71 ≤ q) (hst : s + 71 ≤ t ∨ t + 71 ≤ s) (hfr : mr q 0 = some t) (hl : q_at P G l) (hll : l.length ≤ 640) (h5 : G 5 = w) (hw4 : 4 ≤ w) (hw20 : w ≤ 20) (h7 : G 7 = 0) (h8 : G 8 = 0) (h10 : G 10 = 0) (f8 : F 8 = w) (f10 : F 10 = 1) (f11 : F 11 - F 9 = idx) (f12 : F 12 = 0) (hfx : x_fresh X idx 0) (hroom : idx + (y_rcl w l (0, 0)).1 < n) (hn : n ≤ 32) (hi0 : -99999 ≤ idx) : z_mv M_X1_pourLine E [zo q, zo s, zi idx] (z_u mi q G) mr (fun m r => ∃ (G' : Int → Int) (mk : z_Mi), m = z_u mk q G' ∧ r = mr ∧ G' 8 = (y_rcl w l (0, 0)).1 ∧ z_Sr E mk mr s sg w n (x_row (y_px l (F, X)).2) ∧ x_fresh (y_px l (F, X)).2 (idx + G' 8 + 1) 0 ∧ (∀ j : Nat, j < s + 4 ∨ s + 68 ≤ j → mk j = mi j)) := by
  obtain ⟨hw0, hw1, hh0, hh1, hf0, hf1, hf2, hr0, hr1, hc0, hc1, hp0, hp1, hk0, hk1, hi00, hi11, hkp, hP⟩ := id hH
  refine z_ofv (ls := [some (zo q), some (zo s), some (zi idx), none, none]) rfl (fun _ _ => trivial) ⟨rfl, rfl⟩ (Nat.le_of_ble_eq_true rfl) rfl ?_
  refine z_iconst e_X1_pourLine_0 ?_
  refine z_istore_n (ls' := [some (zo q), some (zo s), some (zi idx), some (zi 0), none]) e_X1_pourLine_1 rfl rfl rfl ?_
  have loop2 : ∀ (nn : Nat) (k : Int) (G1 : Int → Int) (mk : z_Mi) (l1 : List Int) (F1 : Int → Int) (X1 : Int → Int), (640 - k).toNat = nn → (0 ≤ k ∧ k ≤ 640 ∧ q_at P G1 l1 ∧ G1 5 = w ∧ G1 7 = k ∧ (0 ≤ G1 8 ∧ G1 8 ≤ k) ∧ (0 ≤ G1 10 ∧ G1 10 ≤ w) ∧ k + (l1.length : Int) ≤ 640 ∧ y_rcl w l (0, 0) = y_rcl w l1 (G1 8, G1 10) ∧ y_px l (F, X) = y_px l1 (F1, X1) ∧ (F1 8 = w ∧ F1 10 = 1 ∧ F1 11 - F1 9 = idx + G1 8 ∧ F1 12 = G1 10) ∧ x_fresh X1 (idx + G1 8) (G1 10) ∧ z_Sr E mk mr s sg w n (x_row X1) ∧ (∀ j : Nat, j < s + 4 ∨ s + 68 ≤ j → mk j = mi j)) → z_A M_X1_pourLine E 0 0 2 [some (zo q), some (zo s), some (zi idx), some (zi k), none] [] (z_u mk q G1) mr (z_qv E (fun m r => ∃ (G' : Int → Int) (mk : z_Mi), m = z_u mk q G' ∧ r = mr ∧ G' 8 = (y_rcl w l (0, 0)).1 ∧ z_Sr E mk mr s sg w n (x_row (y_px l (F, X)).2) ∧ x_fresh (y_px l (F, X)).2 (idx + G' 8 + 1) 0 ∧ (∀ j : Nat, j < s + 4 ∨ s + 68 ≤ j → mk j = mi j))) := by
    intro nn
    induction nn using Nat.strongRecOn with
    | _ nn ih2 =>
      intro k G1 mk l1 F1 X1 hmeas hinv
      obtain ⟨ia0, ia1, hq1, k5, k7, ⟨k8, k81⟩, ⟨k10, k101⟩, hlen, hrl, hpx, ⟨f8, f10, f11, f12⟩, hfx, hr1, hfm⟩ := hinv
      have hrb0 := (y_rcl_b w l1 (G1 8, G1 10)).1
      rw [hrl] at hroom
      dsimp only at hrb0
      refine z_iload_n e_X1_pourLine_2 rfl ?_
      refine z_sipush e_X1_pourLine_3 (by decide +kernel) ?_
      refine z_icmp_ge e_X1_pourLine_6 ⟨by omega, by omega⟩ (by decide) (fun h6_1 => ?_) (fun h6_1 => ?_)
      · refine z_ret e_X1_pourLine_99 rfl rfl rfl ⟨rfl, rfl, ?_⟩
        have el : l1 = [] := List.length_eq_zero_iff.mp (by omega)
        subst el
        rw [hpx, hrl]
        exact ⟨G1, mk, rfl, rfl, rfl, hr1, x_fresh_up hfx, hfm⟩
      · refine z_aload_n e_X1_pourLine_9 rfl ?_
        refine z_callVi (M' := M_X1_next) (As := []) (rest := []) e_X1_pourLine_10 l_RX1_81 rfl rfl rfl rfl tq ⟨_, _, rfl⟩ (c_X1_next tq (z_Sh_fr hS hH (fun c c0 c1 => ⟨hfm c (by omega), rfl⟩)) hH hqt hfr hq1 (by omega) (by omega) (by omega) (by omega) (by omega) (by omega) (by omega) (by omega)) (fun xn mq rq hq => ?_)
        obtain ⟨G9, e2q, e3q, hnx⟩ := hq
        subst mq rq
        have hnxb := q_nx_b hnx
        refine z_if_eq e_X1_pourLine_13 ⟨by omega, by omega⟩ (fun h13_2 => ?_) (fun h13_2 => ?_)
        · obtain ⟨el, hq2, hsm⟩ := q_nx_0 hnx (by omega)
          refine z_ret e_X1_pourLine_99 rfl rfl rfl ⟨rfl, rfl, ?_⟩
          subst el
          rw [hpx, hrl]
          have e8 := hsm 8 (by decide) (by decide) (by decide)
          exact ⟨G9, mk, rfl, rfl, e8, hr1, by rw [e8]; exact x_fresh_up hfx, hfm⟩
        · obtain ⟨c, l2, el, ex, hq2, hcb9, ⟨j3, j5, j6, j7⟩, ⟨j8, j81⟩, ⟨j9, j91, j10, j101⟩, hrc, hat, hats, j11, j12, j13, j14⟩ := q_nx_1 hnx (by omega) (by omega) (by omega) (by omega)
          obtain ⟨hyf1, hyf2⟩ := x_yF (F := F1) (a := c) (i := idx) (f8.trans k5.symm) f12 f11 j13 j14
          have hyf9 := y_F_c c F1 (show (9 : Int) ≠ 11 by decide) (by decide)
          have hyf10 : y_F c F1 10 = 1 := (y_F_c c F1 (by decide) (by decide)).trans f10
          have hrb := (y_rcl_b w l2 (G9 8, G9 10)).1
          rw [← k5, hrc, k5] at hroom
          dsimp only at hrb
          have hj11b : (G9 11 = 0 ∧ ¬ G1 5 < G1 10 + p_sz c) ∨ (G9 11 = 1 ∧ G1 5 < G1 10 + p_sz c) := by rw [j11]; split <;> omega
          have hj12b : G9 12 = 0 ∨ G9 12 = 1 := by rw [j12]; split <;> omega
          have hszc := p_sz_b c
          have hfx1 : x_fresh (y_X1 c F1 X1) (y_F c F1 11 - y_F c F1 9) (y_F c F1 12) := x_fresh_X1 f10 (by rw [f11, f12]; exact hfx) (by omega) (by omega) (by omega)
          rw [hyf1, hyf2] at hfx1
          have hfx1 : x_fresh (y_X1 c F1 X1) (y_F c F1 11 - y_F c F1 9) (y_F c F1 12) := by rw [hyf1, hyf2]; exact hfx1
          have join63_2 : ∀ (mk2 : z_Mi), z_Sr E mk2 mr s sg w n (x_row (y_X1 c F1 X1)) ∧ (∀ j : Nat, j < s + 4 ∨ s + 68 ≤ j → mk2 j = mi j) → z_A M_X1_pourLine E 0 0 63 [some (zo q), some (zo s), some (zi idx), some (zi k), none] [] (z_u mk2 q G9) mr (z_qv E (fun m r => ∃ (G' : Int → Int) (mk : z_Mi), m = z_u mk q G' ∧ r = mr ∧ G' 8 = (y_rcl w l (0, 0)).1 ∧ z_Sr E mk mr s sg w n (x_row (y_px l (F, X)).2) ∧ x_fresh (y_px l (F, X)).2 (idx + G' 8 + 1) 0 ∧ (∀ j : Nat, j < s + 4 ∨ s + 68 ≤ j → mk j = mi j))) := by
            intro mk2 hj
            obtain ⟨hr2, hfm2⟩ := hj
            refine z_iload_n e_X1_pourLine_63 rfl ?_
            refine z_aload_n e_X1_pourLine_64 rfl ?_
            refine z_geti (fi := 8) (x := (G9 8)) e_X1_pourLine_65 f_RX1_37 tq rfl rfl (congrFun (z_us _ _ _) _) ?_
            refine z_iadd e_X1_pourLine_68 ?_
            refine z_if_lt e_X1_pourLine_69 ⟨by omega, by omega⟩ (fun h69_4 => ?_) (fun h69_4 => ?_)
            · refine z_iinc (y := (k + 1)) (ls' := [some (zo q), some (zo s), some (zi idx), some (zi (k + 1)), none]) e_X1_pourLine_93 rfl rfl rfl rfl rfl ?_
              refine z_goto e_X1_pourLine_96 ?_
              exact ih2 _ (by omega) (k + 1) G9 mk2 l2 (y_adv c F1) (y_X c F1 X1) rfl (⟨by omega, by omega, hq2, by omega, by omega, by omega, by omega, by rw [el, List.length_cons] at hlen; omega, by rw [k5] at hrc; rw [hrl, hrc], by rw [hpx, el]; rfl, ⟨(y_adv_c c F1 (by decide) (by decide)).trans f8, (y_adv_c c F1 (by decide) (by decide)).trans f10, by rw [y_adv_r, y_adv_c c F1 (show (9 : Int) ≠ 11 by decide) (by decide)]; omega, by rw [y_adv_w]; omega⟩, by have hz := x_fresh_X2 (F := y_F c F1) (a := c) hyf10 hfx1 (by omega) (by omega); rw [hyf1, hyf2, j91] at hz; exact hz, x_put0 (F := y_F c F1) (a := c) hr2 (by omega) hyf10 (by omega) (by omega) (by omega), hfm2⟩)
            · have hry := hr2.1 (idx + G9 8) (by omega) (by omega)
              refine z_aload_n e_X1_pourLine_72 rfl ?_
              refine z_iload_n e_X1_pourLine_73 rfl ?_
              refine z_aload_n e_X1_pourLine_74 rfl ?_
              refine z_geti (fi := 8) (x := (G9 8)) e_X1_pourLine_75 f_RX1_37 tq rfl rfl (congrFun (z_us _ _ _) _) ?_
              refine z_iadd e_X1_pourLine_78 ?_
              refine z_callVr (M' := M_X3_rowAt) (As := [zi (idx + (G9 8))]) (rest := []) e_X1_pourLine_79 l_RX1_59 rfl rfl rfl rfl hc.1 ⟨_, _, rfl⟩ (g_X3_rowAt hc.1 hc.2.1 hc.2.2.2.2.2.1 (by omega) (by omega) (hr2.1 (idx + (G9 8)) (by omega) (by omega)).1) (fun xq mq rq hq => ?_)
              obtain ⟨e1q, e2q, e3q⟩ := hq
              subst xq mq rq
              refine z_aload_n e_X1_pourLine_82 rfl ?_
              refine z_geti (fi := 9) (x := (G9 9)) e_X1_pourLine_83 f_RX1_40 tq rfl rfl (congrFun (z_us _ _ _) _) ?_
              refine z_aload_n e_X1_pourLine_86 rfl ?_
              refine z_geti (fi := 6) (x := (G9 6)) e_X1_pourLine_87 f_RX1_31 tq rfl rfl (congrFun (z_us _ _ _) _) ?_
              refine z_callVv (M' := M_X2_put) (As := [zi (G9 9), zi (G9 6)]) (rest := []) e_X1_pourLine_90 l_RX1_151 rfl rfl rfl rfl hry.2.1.1 ⟨_, _, rfl⟩ (d_X2_put (hr2.1 (idx + G9 8) (by omega) (by omega)).2.1 ⟨by omega, by omega⟩ ⟨by omega, by omega⟩ (by omega)) (fun mq rq hq => ?_)
              obtain ⟨e2q, e3q⟩ := hq
              subst mq rq
              rw [z_un (show sg (idx + G9 8) + 1 ≠ q by omega), z_uc mk2 _ _ (show q ≠ sg (idx + G9 8) + 1 by omega)]
              refine z_iinc (y := (k + 1)) (ls' := [some (zo q), some (zo s), some (zi idx), some (zi (k + 1)), none]) e_X1_pourLine_93 rfl rfl rfl rfl rfl ?_
              refine z_goto e_X1_pourLine_96 ?_
              exact ih2 _ (by omega) (k + 1) G9 (z_u mk2 (sg (idx + G9 8) + 1) (c_put (mk2 (sg (idx + G9 8) + 1)) (G9 9) (G9 6))) l2 (y_adv c F1) (y_X c F1 X1) rfl (⟨by omega, by omega, hq2, by omega, by omega, by omega, by omega, by rw [el, List.length_cons] at hlen; omega, by rw [k5] at hrc; rw [hrl, hrc], by rw [hpx, el]; rfl, ⟨(y_adv_c c F1 (by decide) (by decide)).trans f8, (y_adv_c c F1 (by decide) (by decide)).trans f10, by rw [y_adv_r, y_adv_c c F1 (show (9 : Int) ≠ 11 by decide) (by decide)]; omega, by rw [y_adv_w]; omega⟩, by have hz := x_fresh_X2 (F := y_F c F1) (a := c) hyf10 hfx1 (by omega) (by omega); rw [hyf1, hyf2, j91] at hz; exact hz, by have hz := x_put (F := y_F c F1) (a := c) hr2 (by omega) (by omega) hyf10 (by omega) (by omega) (by omega) (by omega) (by omega) (by omega) (fun j j0 j1 => hfx1.2 (by omega) (by omega) j j0 (by omega) j1); rw [hyf1, hyf2] at hz; rw [j6]; exact hz, fun j hj => (z_un (by omega)).trans (hfm2 j hj)⟩)
          refine z_aload_n e_X1_pourLine_16 rfl ?_
          refine z_geti (fi := 11) (x := (G9 11)) e_X1_pourLine_17 f_RX1_46 tq rfl rfl (congrFun (z_us _ _ _) _) ?_
          refine z_if_eq e_X1_pourLine_20 ⟨by omega, by omega⟩ (fun h20_5 => ?_) (fun h20_5 => ?_)
          · exact join63_2 mk (⟨x_wrap0 hr1 (by omega) f10 (by omega), hfm⟩)
          · refine z_iload_n e_X1_pourLine_23 rfl ?_
            refine z_aload_n e_X1_pourLine_24 rfl ?_
            refine z_geti (fi := 8) (x := (G9 8)) e_X1_pourLine_25 f_RX1_37 tq rfl rfl (congrFun (z_us _ _ _) _) ?_
            refine z_iadd e_X1_pourLine_28 ?_
            refine z_iconst e_X1_pourLine_29 ?_
            refine z_isub e_X1_pourLine_30 ?_
            refine z_if_lt e_X1_pourLine_31 ⟨by omega, by omega⟩ (fun h31_6 => ?_) (fun h31_6 => ?_)
            · exact join63_2 mk (⟨x_wrap0 hr1 (by omega) f10 (by omega), hfm⟩)
            · have hix : 0 ≤ idx + G9 8 - 1 := by omega
              have hrx := hr1.1 (idx + G9 8 - 1) (by omega) (by omega)
              refine z_aload_n e_X1_pourLine_34 rfl ?_
              refine z_iload_n e_X1_pourLine_35 rfl ?_
              refine z_aload_n e_X1_pourLine_36 rfl ?_
              refine z_geti (fi := 8) (x := (G9 8)) e_X1_pourLine_37 f_RX1_37 tq rfl rfl (congrFun (z_us _ _ _) _) ?_
              refine z_iadd e_X1_pourLine_40 ?_
              refine z_iconst e_X1_pourLine_41 ?_
              refine z_isub e_X1_pourLine_42 ?_
              refine z_callVr (M' := M_X3_rowAt) (As := [zi ((idx + (G9 8)) - 1)]) (rest := []) e_X1_pourLine_43 l_RX1_59 rfl rfl rfl rfl hc.1 ⟨_, _, rfl⟩ (g_X3_rowAt hc.1 hc.2.1 hc.2.2.2.2.2.1 (by omega) (by omega) (hr1.1 ((idx + (G9 8)) - 1) (by omega) (by omega)).1) (fun xq mq rq hq => ?_)
              obtain ⟨e1q, e2q, e3q⟩ := hq
              subst xq mq rq
              refine z_astore (ls' := [some (zo q), some (zo s), some (zi idx), some (zi k), some (zo (sg ((idx + (G9 8)) - 1)))]) e_X1_pourLine_46 rfl rfl rfl ?_
              refine z_aload e_X1_pourLine_48 rfl ?_
              refine z_iconst e_X1_pourLine_50 ?_
              refine z_putiN (fi := 1) (f := (mk (sg ((idx + (G9 8)) - 1)))) e_X1_pourLine_51 f_RX1_145 (hrx.2.1.1) rfl rfl (Or.inr ⟨rfl, Or.inr rfl⟩) ((z_un (by omega))) ?_
              refine z_aload e_X1_pourLine_54 rfl ?_
              refine z_aload_n e_X1_pourLine_56 rfl ?_
              refine z_geti (fi := 12) (x := (G9 12)) e_X1_pourLine_57 f_RX1_50 tq rfl rfl (congrFun (((z_un (by omega)).trans (z_us _ _ _))) _) ?_
              refine z_putiU (fi := 2) e_X1_pourLine_60 f_RX1_148 (hrx.2.1.1) rfl rfl (Or.inr ⟨rfl, by omega⟩) ?_
              refine z_fgt (ls' := [some (zo q), some (zo s), some (zi idx), some (zi k), none]) ⟨rfl, rfl, rfl, rfl, trivial⟩ ?_
              rw [z_uc mk _ _ (show q ≠ sg (idx + G9 8 - 1) by omega)]; exact join63_2 (z_u mk (sg ((idx + (G9 8)) - 1)) (z_v (z_v (mk (sg ((idx + (G9 8)) - 1))) 1 1) 2 (G9 12))) (⟨by rw [show idx + G9 8 - 1 = F1 11 - F1 9 by omega]; exact x_wrap hr1 (by omega) (by omega) f10 (by omega) (by rw [j12, f12, f8, k5]; split <;> split <;> omega) (by omega) (by omega), fun j hj => (z_un (by omega)).trans (hfm j hj)⟩)
  exact loop2 _ 0 G mi l F X rfl (⟨by omega, by omega, hl, h5, h7, by omega, by omega, by omega, by rw [h8, h10], rfl, ⟨f8, f10, by omega, by omega⟩, by rw [h8, h10, Int.add_zero]; exact hfx, hr, fun _ _ => rfl⟩)
