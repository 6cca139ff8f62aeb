set_option maxHeartbeats 6000000 in
set_option maxRecDepth 100000 in
theorem c_X1_pour {E : z_E} {mi : z_Mi} {mr : z_Mr} {q s t : Nat} {sg sgt : Int → Nat} {f : Int → Option Nat} {P G F X : Int → Int} {w h : Int} (tq : E.2.2[q]? = some (1, 0)) (hc : z_Sc E mr s) (hd : z_Sd mi s P) (hr : z_Sr E mi mr s sg (P 0) (P 14 + P 1) (p_rows P)) (hS : z_Sh E mi mr t sgt P (p_rows P)) (hH : p_hd P) (hqt : q < t ∨ t + 71 ≤ q) (hqs : q < s ∨ s + 71 ≤ q) (hst : s + 71 ≤ t ∨ t + 71 ≤ s) (hw4 : 4 ≤ w) (hw20 : w ≤ 20) (hh2 : 2 ≤ h) (hh8 : h ≤ 8) (hf8 : F 8 = w) (hf10 : F 10 = 1) (hf9 : F 9 = y_base P w h) : z_mi M_X1_pour E [zo q, zo t, zo s, zi w, zi h] (z_u mi q G) (z_u mr q f) (fun x m r => x = y_many P w ∧ ∃ (G' : Int → Int) (f' : Int → Option Nat) (mk : z_Mi), m = z_u mk q G' ∧ r = z_u mr q f' ∧ ∀ Q : Int → Int, g_pg P Q w h (-(y_base P w h)) (y_top P w h - y_base P w h) (y_bx P w (m_count P) F (y_fr X 704) (m_count P).toNat).2 → z_T E s mi mr Q mk mr) := by
  obtain ⟨hw0, hw1, hh0, hh1, hf0, hf1, hf2, hr0, hr1, hc0, hc1, hp0, hp1, hk0, hk1, hi0, hi1, hkp, hP⟩ := id hH
  obtain ⟨t0, t1, t2, t3, t4, q0, q1, q2⟩ := id hc
  obtain ⟨b0, b1, b2, b3, b4, c0, c1, c2⟩ := id hS.1
  have hmy := y_bc_b (W := w) (n := m_count P) hH (m_count P).toNat (by have := m_count_b hH; omega)
  rw [y_bc_many w hH] at hmy
  have hcbb := m_count_b hH
  have hyt : (h < y_many P w ∧ y_top P w h = y_many P w - h) ∨ (¬ h < y_many P w ∧ y_top P w h = 0) := by unfold y_top; split <;> omega
  have hyb : (24 < y_top P w h ∧ y_base P w h = y_top P w h - 24) ∨ (¬ 24 < y_top P w h ∧ y_base P w h = 0) := by unfold y_base; split <;> omega
  refine z_ofi (ls := [some (zo q), some (zo t), some (zo s), some (zi w), some (zi h), none, none, none, none, none]) rfl (fun _ _ => trivial) ⟨rfl, rfl⟩ (Nat.le_of_ble_eq_true rfl) rfl ?_
  refine z_aload_n e_X1_pour_0 rfl ?_
  refine z_aload_n e_X1_pour_1 rfl ?_
  refine z_iload_n e_X1_pour_2 rfl ?_
  refine z_callVi (M' := M_X1_rowsIn) (As := [zo t, zi w]) (rest := []) e_X1_pour_3 l_RX1_97 rfl rfl rfl rfl tq ⟨_, _, rfl⟩ (c_X1_rowsIn tq hS hH hqt hw4 hw20) (fun xt mq rq hq => ?_)
  obtain ⟨ht, G9, f9, e2q, e3q⟩ := hq
  subst ht
  subst mq rq
  refine z_istore (ls' := [some (zo q), some (zo t), some (zo s), some (zi w), some (zi h), some (zi (y_many P w)), none, none, none, none]) e_X1_pour_6 rfl rfl rfl ?_
  refine z_iconst e_X1_pour_8 ?_
  refine z_iload e_X1_pour_9 rfl ?_
  refine z_iload e_X1_pour_11 rfl ?_
  refine z_isub e_X1_pour_13 ?_
  refine z_max (x := (if 0 < ((y_many P w) - h) then ((y_many P w) - h) else 0)) e_X1_pour_14 mm_RX1_101 rfl rfl (by decide) ⟨by omega, by omega⟩ (rfl) ?_
  have eab : (if 0 < y_many P w - h then y_many P w - h else 0) = y_top P w h := by split <;> omega
  rw [eab]
  refine z_istore (ls' := [some (zo q), some (zo t), some (zo s), some (zi w), some (zi h), some (zi (y_many P w)), some (zi (y_top P w h)), none, none, none]) e_X1_pour_17 rfl rfl rfl ?_
  refine z_aload_n e_X1_pour_19 rfl ?_
  refine z_iload_n e_X1_pour_20 rfl ?_
  refine z_iload e_X1_pour_21 rfl ?_
  refine z_callVv (M' := M_X3_clear) (As := [zi w, zi h]) (rest := []) e_X1_pour_23 l_RX1_107 rfl rfl rfl rfl t0 ⟨_, _, rfl⟩ (e_X3_clear (z_Sc_q hc hqs _) (z_Sd_fr hd hk1 (fun c c0 c1 => z_un (by omega))) (z_Sr_m (z_Sr_q hr hqs _) (by omega) (fun c c0 c1 => z_un (by omega))) hH (by omega) (by omega) (by omega) (by omega)) (fun mc rc hq => ?_)
  obtain ⟨e3q, sg, hdc, hrc, hfc⟩ := hq
  subst e3q
  have emq : mc q = G9 := (hfc q (by omega)).1.trans (z_us _ _ _)
  have emc : z_u mc q G9 = mc := by rw [← emq]; exact z_uself mc q
  rw [← emc]
  refine z_aload_n e_X1_pour_26 rfl ?_
  refine z_bipush e_X1_pour_27 (by decide +kernel) ?_
  refine z_iload e_X1_pour_29 rfl ?_
  refine z_min (x := (if (y_top P w h) < 24 then (y_top P w h) else 24)) e_X1_pour_31 mm_RX1_111 rfl rfl (by decide) ⟨by omega, by omega⟩ (rfl) ?_
  have ehm : (if y_top P w h < 24 then y_top P w h else 24) = y_top P w h - y_base P w h := by split <;> omega
  rw [ehm]
  refine z_putiN (fi := 4) (f := (mc s)) e_X1_pour_34 f_RX1_114 t0 rfl rfl (Or.inl rfl) ((z_un (by omega))) ?_
  rw [z_uc mc _ _ (show q ≠ s by omega)]
  generalize hm3 : z_u mc s (z_v (mc s) 4 (y_top P w h - y_base P w h)) = m3
  have p7 : p_clr w h P 7 = P 7 := by simp [p_clr, z_v]
  have hd3 : z_Sd m3 s (z_v (p_clr w h P) 14 (y_top P w h - y_base P w h)) := by rw [← hm3]; exact z_Sd_14 hdc (by omega)
  have hr3 : z_Sr E m3 mr s sg w 32 (fun _ => r_blank) := by rw [← hm3]; exact z_Sr_s (z_Sr_qi hrc hqs) (by decide)
  have fr3 : ∀ c, (c < s ∨ s + 71 ≤ c) → c ≠ q → m3 c = mi c := fun c g1 g2 => by rw [← hm3, z_un (by omega)]; exact (hfc c g1).1.trans (z_un g2)
  obtain ⟨a3, a4, a5, a6, a7, a8, x4, x5, x6, xk, uz3⟩ := hd3
  simp [p_clr, z_v] at a3 a4 a5 a6 a7 a8
  refine z_aload_n e_X1_pour_37 rfl ?_
  refine z_geti (fi := 4) (x := (y_top P w h - y_base P w h)) e_X1_pour_38 f_RX1_114 t0 rfl rfl ((congrFun ((z_un (by omega))) _).trans a4) ?_
  refine z_iload e_X1_pour_41 rfl ?_
  refine z_isub e_X1_pour_43 ?_
  have etop : y_top P w h - y_base P w h - y_top P w h = -(y_base P w h) := by omega
  rw [etop]
  refine z_istore (ls' := [some (zo q), some (zo t), some (zo s), some (zi w), some (zi h), some (zi (y_many P w)), some (zi (y_top P w h)), some (zi (-(y_base P w h))), none, none]) e_X1_pour_44 rfl rfl rfl ?_
  refine z_aload_n e_X1_pour_46 rfl ?_
  refine z_aload_n e_X1_pour_47 rfl ?_
  refine z_aload_n e_X1_pour_48 rfl ?_
  refine z_iload e_X1_pour_49 rfl ?_
  refine z_callVv (M' := M_X1_pourLines) (As := [zo t, zo s, zi (-(y_base P w h))]) (rest := []) e_X1_pour_51 l_RX1_117 rfl rfl rfl rfl tq ⟨_, _, rfl⟩ (c_X1_pourLines (F := F) (X := y_fr X 704) (n := (y_top P w h - y_base P w h) + h) tq hc (z_Sr_e (z_Sr_less hr3 (by omega)) hw20 (fun k k0 k1 c c0 c1 => x_fr_row X k0 (by omega) c0 c1)) (z_Sh_fr hS hH (fun c c0 c1 => ⟨fr3 c (by omega) (by omega), rfl⟩)) hH hqt hqs hst hw4 hw20 a5 hf8 hf10 (by rw [hf9]; omega) (x_fr_fresh X _) (by rw [y_bc_many w hH]; omega) (by omega) (by omega) (by omega)) (fun mq rq hq => ?_)
  obtain ⟨G8, f88, m4, e2q, e3q, hr4, fr4⟩ := hq
  subst mq rq
  have d3 : m4 s 3 = P 7 := (congrFun (fr4 s (by omega)) _).trans a3
  have d4 : m4 s 4 = (y_top P w h - y_base P w h) := (congrFun (fr4 s (by omega)) _).trans a4
  have d5 : m4 s 5 = w := (congrFun (fr4 s (by omega)) _).trans a5
  have d6 : m4 s 6 = h := (congrFun (fr4 s (by omega)) _).trans a6
  have d7 : m4 s 7 = 0 := (congrFun (fr4 s (by omega)) _).trans a7
  have d8 : m4 s 8 = h - 1 := (congrFun (fr4 s (by omega)) _).trans a8
  have hS4 : z_Sh E m4 mr t sgt P (p_rows P) := z_Sh_fr hS hH (fun c c0 c1 => ⟨(fr4 c (by omega)).trans (fr3 c (by omega) (by omega)), rfl⟩)
  obtain ⟨w3, w4, w5, w6, w7, w8, v0, v1, v2, vk, vz⟩ := id hS4.2.1
  refine z_aload_n e_X1_pour_54 rfl ?_
  refine z_aload_n e_X1_pour_55 rfl ?_
  refine z_aload_n e_X1_pour_56 rfl ?_
  refine z_getr (fi := 1) (r := some (t + 2)) e_X1_pour_57 f_RX1_121 b0 rfl rfl ((congrFun (z_un (by omega)) _).trans c1) ?_
  refine z_aload_n e_X1_pour_60 rfl ?_
  refine z_aload_n e_X1_pour_61 rfl ?_
  refine z_getr (fi := 1) (r := some (s + 2)) e_X1_pour_62 f_RX1_121 t0 rfl rfl ((congrFun (z_un (by omega)) _).trans q1) ?_
  refine z_iload e_X1_pour_65 rfl ?_
  refine z_callVv (M' := M_X1_follow) (As := [zo t, zo (t + 2), zo s, zo (s + 2), zi (-(y_base P w h))]) (rest := []) e_X1_pour_67 l_RX1_125 rfl rfl rfl rfl tq ⟨_, _, rfl⟩ (c_X1_follow (row := P 4) (col := P 5) (pe := P 6) (w := w) (hm := (y_top P w h - y_base P w h)) tq t0 b2 t2 hS4 hH hqt (by omega) (by omega) (by omega) (by omega) d5 d4 v0 v1 v2 hr0 (m_count_row hH).1 hc0 hc1 (by omega) hw4 hw20 (by omega) (by omega) (by omega) (by omega)) (fun mq rq hq => ?_)
  obtain ⟨G5, F5, f5, e2q, e3q, hF0, hF1, hF2⟩ := hq
  subst mq rq
  have ep0 : (if P 6 = 1 then P 0 else P 5) = m_pcol P 0 := m_pcol0.symm
  have er0 : P 4 = m_row P 0 := (if_pos rfl).symm
  rw [ep0, er0] at hF0 hF1 hF2
  replace hF0 : F5 0 = g_r P w (-(y_base P w h)) (y_top P w h - y_base P w h) 0 := by unfold g_r g_U g_l g_st; exact hF0
  replace hF1 : F5 1 = g_c P w (-(y_base P w h)) (y_top P w h - y_base P w h) 0 := by unfold g_c g_U g_V g_l g_st; exact hF1
  replace hF2 : F5 2 = g_p P w (-(y_base P w h)) (y_top P w h - y_base P w h) 0 := by unfold g_p g_U g_B g_l g_st; exact hF2
  rw [z_uc m4 _ _ (show q ≠ s + 2 by omega)]
  generalize hm5 : z_u m4 (s + 2) F5 = m5
  have fr5 : ∀ c, c ≠ s + 2 → m5 c = m4 c := fun c g => by rw [← hm5]; exact z_un g
  have e5 : m5 (s + 2) = F5 := by rw [← hm5]; exact z_us _ _ _
  refine z_iconst e_X1_pour_70 ?_
  refine z_istore (ls' := [some (zo q), some (zo t), some (zo s), some (zi w), some (zi h), some (zi (y_many P w)), some (zi (y_top P w h)), some (zi (-(y_base P w h))), some (zi 0), none]) e_X1_pour_71 rfl rfl rfl ?_
  have loop73 : ∀ (nn : Nat) (k : Int) (mk : z_Mi) (G1 : Int → Int) (f1 : Int → Option Nat), (P 7 - k).toNat = nn → (0 ≤ k ∧ k ≤ P 7 ∧ (∀ c, c < s + 68 ∨ s + 71 ≤ c → mk c = m5 c) ∧ (∀ j : Int, 0 ≤ j → j < k → mk (s + 68 + j.toNat) 0 = g_r P w (-(y_base P w h)) (y_top P w h - y_base P w h) (P 7 - j) ∧ mk (s + 68 + j.toNat) 1 = g_c P w (-(y_base P w h)) (y_top P w h - y_base P w h) (P 7 - j) ∧ mk (s + 68 + j.toNat) 2 = 0) ∧ (∀ j : Int, 0 ≤ j → j < 3 → mk (s + 68 + j.toNat) 2 = 0 ∨ mk (s + 68 + j.toNat) 2 = 1)) → z_A M_X1_pour E 0 0 73 [some (zo q), some (zo t), some (zo s), some (zi w), some (zi h), some (zi (y_many P w)), some (zi (y_top P w h)), some (zi (-(y_base P w h))), some (zi k), none] [] (z_u mk q G1) (z_u mr q f1) (z_qi E (fun x m r => x = y_many P w ∧ ∃ (G' : Int → Int) (f' : Int → Option Nat) (mk : z_Mi), m = z_u mk q G' ∧ r = z_u mr q f' ∧ ∀ Q : Int → Int, g_pg P Q w h (-(y_base P w h)) (y_top P w h - y_base P w h) (y_bx P w (m_count P) F (y_fr X 704) (m_count P).toNat).2 → z_T E s mi mr Q mk mr)) := by
    intro nn
    induction nn using Nat.strongRecOn with
    | _ nn ih73 =>
      intro k mk G1 f1 hmeas hinv
      obtain ⟨ia0, ia1, hmk, hkm, hkz⟩ := hinv
      have hSk : z_Sh E mk mr t sgt P (p_rows P) := z_Sh_fr hS hH (fun c c0 c1 => ⟨((hmk c (by omega)).trans (fr5 c (by omega))).trans ((fr4 c (by omega)).trans (fr3 c (by omega) (by omega))), rfl⟩)
      have hkk := hSk.2.1.2.2.2.2.2.2.2.2.2.1
      refine z_iload e_X1_pour_73 rfl ?_
      refine z_aload_n e_X1_pour_75 rfl ?_
      refine z_geti (fi := 3) (x := (P 7)) e_X1_pour_76 f_RX1_129 t0 rfl rfl ((congrFun ((z_un (by omega))) _).trans ((congrFun ((hmk s (by omega)).trans (fr5 s (by omega))) _).trans d3)) ?_
      refine z_icmp_ge e_X1_pour_79 ⟨by omega, by omega⟩ ⟨by omega, by omega⟩ (fun h79_1 => ?_) (fun h79_1 => ?_)
      · refine z_iload e_X1_pour_118 rfl ?_
        refine z_iret e_X1_pour_120 (Or.inl rfl) rfl rfl ⟨rfl, _, rfl, ?_⟩
        have ek : k = P 7 := by omega
        rw [ek] at hkm
        refine ⟨rfl, G1, f1, z_u mk q (mi q), (z_uu _ _ _ _).symm, rfl, fun Q hQ => ?_⟩
        have es := (hmk s (by omega)).trans (fr5 s (by omega))
        have ec := (hmk (s + 2) (by omega)).trans e5
        refine x_pour_end hc hQ hqs hH hw20 (by rw [es]; exact d3) (by rw [es]; exact d4) (by rw [es]; exact d5) (by rw [es]; exact d6) (by rw [es]; exact d7) (by rw [es]; exact d8) (by rw [ec]; exact hF0) (by rw [ec]; exact hF1) (by rw [ec]; exact hF2) hkm hkz (z_Sr_m hr4 (by omega) (fun c c0 c1 => (hmk c (by omega)).trans (fr5 c (by omega)))) (by omega) (fun c g1 g2 => ?_)
        exact ((hmk c (by omega)).trans (fr5 c (by omega))).trans ((fr4 c (by omega)).trans (fr3 c g1 g2))
      · refine z_aload_n e_X1_pour_82 rfl ?_
        refine z_iload e_X1_pour_83 rfl ?_
        refine z_callVr (M' := M_X3_keptPlace) (As := [zi k]) (rest := []) e_X1_pour_85 l_RX1_132 rfl rfl rfl rfl t0 ⟨_, _, rfl⟩ (d_X3_keptPlace t0 t3 ((congrFun (z_un (by omega)) _).trans q2) (by omega) (by omega) ((congrFun (z_un (by omega)) _).trans (t4 k (by omega) (by omega)).2)) (fun xq mq rq hq => ?_)
        obtain ⟨e1q, e2q, e3q⟩ := hq
        subst xq mq rq
        refine z_astore (ls' := [some (zo q), some (zo t), some (zo s), some (zi w), some (zi h), some (zi (y_many P w)), some (zi (y_top P w h)), some (zi (-(y_base P w h))), some (zi k), some (zo (s + 68 + (k).toNat))]) e_X1_pour_88 rfl rfl rfl ?_
        refine z_aload_n e_X1_pour_90 rfl ?_
        refine z_aload_n e_X1_pour_91 rfl ?_
        refine z_aload_n e_X1_pour_92 rfl ?_
        refine z_iload e_X1_pour_93 rfl ?_
        refine z_callVr (M' := M_X3_keptPlace) (As := [zi k]) (rest := [zo t, zo q]) e_X1_pour_95 l_RX1_132 rfl rfl rfl rfl b0 ⟨_, _, rfl⟩ (d_X3_keptPlace b0 b3 ((congrFun (z_un (by omega)) _).trans c2) (by omega) (by omega) ((congrFun (z_un (by omega)) _).trans (b4 k (by omega) (by omega)).2)) (fun xq mq rq hq => ?_)
        obtain ⟨e1q, e2q, e3q⟩ := hq
        subst xq mq rq
        refine z_aload_n e_X1_pour_98 rfl ?_
        refine z_aload e_X1_pour_99 rfl ?_
        refine z_iload e_X1_pour_101 rfl ?_
        refine z_callVv (M' := M_X1_follow) (As := [zo t, zo (t + 68 + (k).toNat), zo s, zo (s + 68 + (k).toNat), zi (-(y_base P w h))]) (rest := []) e_X1_pour_103 l_RX1_125 rfl rfl rfl rfl tq ⟨_, _, rfl⟩ (c_X1_follow (row := P (8 + 2 * k)) (col := P (8 + 2 * k + 1)) (pe := 0) (w := w) (hm := (y_top P w h - y_base P w h)) tq t0 (b4 k (by omega) (by omega)).1 (t4 k (by omega) (by omega)).1 hSk hH hqt (by omega) (by omega) (by omega) (by omega) ((congrFun ((hmk s (by omega)).trans (fr5 s (by omega))) _).trans d5) ((congrFun ((hmk s (by omega)).trans (fr5 s (by omega))) _).trans d4) (hkk k (by omega) (by omega)).1 (hkk k (by omega) (by omega)).2.1 (hkk k (by omega) (by omega)).2.2 (hP _).1 ((m_count_row hH).2 k (by omega) (by omega)) (hP _).1 (hkp k (by omega) (by omega)).2 (Or.inl rfl) hw4 hw20 (by omega) (by omega) (by omega) (by omega)) (fun mq rq hq => ?_)
        obtain ⟨G6, F6, f6, e2q, e3q, hF0, hF1, hF2⟩ := hq
        subst mq rq
        have epk := m_pcolk (P := P) (j := k) (by omega)
        rw [if_neg (show ¬ (0 : Int) = 1 by decide), ← epk.1, ← epk.2] at hF0 hF1
        replace hF0 : F6 0 = g_r P w (-(y_base P w h)) (y_top P w h - y_base P w h) (P 7 - k) := by unfold g_r g_U g_l g_st; exact hF0
        replace hF1 : F6 1 = g_c P w (-(y_base P w h)) (y_top P w h - y_base P w h) (P 7 - k) := by unfold g_c g_U g_V g_l g_st; exact hF1
        clear hF2
        refine z_aload e_X1_pour_106 rfl ?_
        refine z_iconst e_X1_pour_108 ?_
        refine z_putiU (fi := 2) e_X1_pour_109 f_RX1_136 (t4 k (by omega) (by omega)).1 rfl rfl (Or.inr ⟨rfl, Or.inl rfl⟩) ?_
        refine z_iinc (y := (k + 1)) (ls' := [some (zo q), some (zo t), some (zo s), some (zi w), some (zi h), some (zi (y_many P w)), some (zi (y_top P w h)), some (zi (-(y_base P w h))), some (zi (k + 1)), some (zo (s + 68 + (k).toNat))]) e_X1_pour_112 rfl rfl rfl rfl rfl ?_
        refine z_goto e_X1_pour_115 ?_
        refine z_fgt (ls' := [some (zo q), some (zo t), some (zo s), some (zi w), some (zi h), some (zi (y_many P w)), some (zi (y_top P w h)), some (zi (-(y_base P w h))), some (zi (k + 1)), none]) ⟨rfl, rfl, rfl, rfl, rfl, rfl, rfl, rfl, rfl, trivial⟩ ?_
        rw [z_uc mk _ _ (show q ≠ s + 68 + (k).toNat by omega)]; exact ih73 _ (by omega) (k + 1) (z_u mk (s + 68 + (k).toNat) (z_v F6 2 0)) G6 f6 rfl (⟨by omega, by omega, fun c g => (z_un (by omega)).trans (hmk c g), x_kp (r := 0) (c := 0) (gr := (fun v => g_r P w (-(y_base P w h)) (y_top P w h - y_base P w h) v)) (gc := (fun v => g_c P w (-(y_base P w h)) (y_top P w h - y_base P w h) v)) ia0 (by omega) hkm hkz hF0 hF1⟩)
  exact loop73 _ 0 m5 G5 f5 rfl (⟨by omega, by omega, fun _ _ => rfl, fun j j0 j1 => absurd j0 (by omega), fun j j0 j1 => by rw [fr5 _ (by omega), fr4 _ (by omega)]; exact uz3 j j0 j1⟩)
