set_option maxHeartbeats 1000000 in
set_option maxRecDepth 100000 in
theorem c_X1_follow {E : z_E} {mi : z_Mi} {mr : z_Mr} {q s t o p : Nat} {sgt : Int → Nat} {f : Int → Option Nat} {P G : Int → Int} {row col pe top w hm : Int} (tq : E.2.2[q]? = some (1, 0)) (ts : E.2.2[s]? = some (3, 0)) (to : E.2.2[o]? = some (0, 0)) (tp : E.2.2[p]? = some (0, 0)) (hS : z_Sh E mi mr t sgt P (p_rows P)) (hH : p_hd P) (hqt : q < t ∨ t + 71 ≤ q) (hqs : q ≠ s) (hqo : q ≠ o) (hqp : q ≠ p) (hps : p ≠ s) (hdw : mi s 5 = w) (hdh : mi s 4 = hm) (o0 : mi o 0 = row) (o1 : mi o 1 = col) (o2 : mi o 2 = pe) (hr0 : 0 ≤ row) (hr1 : P 14 + row < m_count P) (hc0 : 0 ≤ col) (hc1 : col < P 0) (hpe : pe = 0 ∨ pe = 1) (hw4 : 4 ≤ w) (hw20 : w ≤ 20) (hm0 : 0 ≤ hm) (hm24 : hm ≤ 24) (hi0 : -99999 ≤ top) (hi1 : top ≤ 0) : z_mv M_X1_follow E [zo q, zo t, zo o, zo s, zo p, zi top] (z_u mi q G) (z_u mr q f) (fun m r => ∃ (G' F' : Int → Int) (f' : Int → Option Nat), m = z_u (z_u mi q G') p F' ∧ r = z_u mr q f' ∧ F' 0 = (if top + (f_U w (y_bc P w (m_count P) (m_lbeg P (m_count P) (m_lno P (m_count P) (P 14 + row))).toNat).2 (m_mark P (m_count P) row (if pe = 1 then P 0 else col)) (m_line P (m_lbeg P (m_count P) (m_lno P (m_count P) (P 14 + row))) (m_lend P (m_count P) (m_lbeg P (m_count P) (m_lno P (m_count P) (P 14 + row)))))) < hm then 0 else top + (f_U w (y_bc P w (m_count P) (m_lbeg P (m_count P) (m_lno P (m_count P) (P 14 + row))).toNat).2 (m_mark P (m_count P) row (if pe = 1 then P 0 else col)) (m_line P (m_lbeg P (m_count P) (m_lno P (m_count P) (P 14 + row))) (m_lend P (m_count P) (m_lbeg P (m_count P) (m_lno P (m_count P) (P 14 + row)))))) - hm) ∧ F' 1 = (if top + (f_U w (y_bc P w (m_count P) (m_lbeg P (m_count P) (m_lno P (m_count P) (P 14 + row))).toNat).2 (m_mark P (m_count P) row (if pe = 1 then P 0 else col)) (m_line P (m_lbeg P (m_count P) (m_lno P (m_count P) (P 14 + row))) (m_lend P (m_count P) (m_lbeg P (m_count P) (m_lno P (m_count P) (P 14 + row)))))) < hm then 0 else (f_V w (m_mark P (m_count P) row (if pe = 1 then P 0 else col)) (m_line P (m_lbeg P (m_count P) (m_lno P (m_count P) (P 14 + row))) (m_lend P (m_count P) (m_lbeg P (m_count P) (m_lno P (m_count P) (P 14 + row))))))) ∧ F' 2 = (if top + (f_U w (y_bc P w (m_count P) (m_lbeg P (m_count P) (m_lno P (m_count P) (P 14 + row))).toNat).2 (m_mark P (m_count P) row (if pe = 1 then P 0 else col)) (m_line P (m_lbeg P (m_count P) (m_lno P (m_count P) (P 14 + row))) (m_lend P (m_count P) (m_lbeg P (m_count P) (m_lno P (m_count P) (P 14 + row)))))) < hm then 0 else (f_B w (m_mark P (m_count P) row (if pe = 1 then P 0 else col)) (m_line P (m_lbeg P (m_count P) (m_lno P (m_count P) (P 14 + row))) (m_lend P (m_count P) (m_lbeg P (m_count P) (m_lno P (m_count P) (P 14 + row)))))))) := by
  obtain ⟨hw0, hw1, hh0, hh1, hf0, hf1, hf2, hr00, hr11, hc00, hc11, hp0, hp1, hk0, hk1, hi00, hi11, hkp, hP⟩ := id hH
  have hcb0 := m_count_b hH
  refine z_ofv (ls := [some (zo q), some (zo t), some (zo o), some (zo s), some (zo p), some (zi top), none, none, none, none, none]) rfl (fun _ _ => trivial) ⟨rfl, rfl⟩ (Nat.le_of_ble_eq_true rfl) rfl ?_
  refine z_aload_n e_X1_follow_0 rfl ?_
  refine z_aload_n e_X1_follow_1 rfl ?_
  refine z_geti (fi := 4) (x := (P 14)) e_X1_follow_2 f_RX1_114 hS.1.1 rfl rfl ((congrFun ((z_un (by omega))) _).trans hS.2.1.2.1) ?_
  refine z_aload_n e_X1_follow_5 rfl ?_
  refine z_geti (fi := 0) (x := row) e_X1_follow_6 f_RX1_154 to rfl rfl ((congrFun ((z_un (by omega))) _).trans o0) ?_
  refine z_iadd e_X1_follow_9 ?_
  refine z_callVi (M' := M_X3_startOf) (As := [zi ((P 14) + row)]) (rest := []) e_X1_follow_10 l_RX1_155 rfl rfl rfl rfl hS.1.1 ⟨_, _, rfl⟩ (c_X3_startOf (z_Sh_q (z_Sh_r hS hH hqt _) hH hqt _) hH (by omega) (by omega)) (fun xq mq rq hq => ?_)
  obtain ⟨e1q, e2q, e3q⟩ := hq
  subst xq mq rq
  have hbo := m_lbeg_of (P := P) (n := m_count P) (k := P 14 + row) (by omega) (by omega)
  have hbo1 := hbo.1
  have hbo2 := hbo.2.1
  refine z_istore (ls' := [some (zo q), some (zo t), some (zo o), some (zo s), some (zo p), some (zi top), some (zi (m_lbeg P (m_count P) (m_lno P (m_count P) (P 14 + row)))), none, none, none, none]) e_X1_follow_13 rfl rfl rfl ?_
  refine z_aload_n e_X1_follow_15 rfl ?_
  refine z_aload_n e_X1_follow_16 rfl ?_
  refine z_callVi (M' := M_X3_markOf) (As := [zo o]) (rest := []) e_X1_follow_17 l_RX1_158 rfl rfl rfl rfl hS.1.1 ⟨_, _, rfl⟩ (c_X3_markOf (pe := pe) (z_Sh_q (z_Sh_r hS hH hqt _) hH hqt _) hH to ((congrFun (z_un (by omega)) _).trans o0) ((congrFun (z_un (by omega)) _).trans o1) ((congrFun (z_un (by omega)) _).trans o2) hr0 hr1 hc0 hc1 hpe) (fun xq mq rq hq => ?_)
  obtain ⟨e1q, e2q, e3q⟩ := hq
  subst xq mq rq
  have hmb := m_mark_b (P := P) (n := m_count P) (row := row) (col := if pe = 1 then P 0 else col) hH hr0 (by omega) (by split <;> omega) (by split <;> omega) (by omega)
  generalize hmk : m_mark P (m_count P) row (if pe = 1 then P 0 else col) = mk at hmb ⊢
  refine z_istore (ls' := [some (zo q), some (zo t), some (zo o), some (zo s), some (zo p), some (zi top), some (zi (m_lbeg P (m_count P) (m_lno P (m_count P) (P 14 + row)))), some (zi mk), none, none, none]) e_X1_follow_20 rfl rfl rfl ?_
  refine z_iload e_X1_follow_22 rfl ?_
  refine z_aload_n e_X1_follow_24 rfl ?_
  refine z_aload_n e_X1_follow_25 rfl ?_
  refine z_iload e_X1_follow_26 rfl ?_
  refine z_aload_n e_X1_follow_28 rfl ?_
  refine z_geti (fi := 5) (x := w) e_X1_follow_29 f_RX1_72 ts rfl rfl ((congrFun ((z_un (by omega))) _).trans hdw) ?_
  refine z_callVi (M' := M_X1_rowsBefore) (As := [zo t, zi (m_lbeg P (m_count P) (m_lno P (m_count P) (P 14 + row))), zi w]) (rest := [zi top]) e_X1_follow_32 l_RX1_93 rfl rfl rfl rfl tq ⟨_, _, rfl⟩ (c_X1_rowsBefore tq hS hH hqt (by omega) (by omega) hw4 hw20) (fun xr mq rq hq => ?_)
  obtain ⟨hrb, G9, f9, e2q, e3q⟩ := hq
  subst mq rq
  have hbb := y_bc_b (W := w) (n := m_count P) hH (m_lbeg P (m_count P) (m_lno P (m_count P) (P 14 + row))).toNat (by omega)
  rw [← hrb] at hbb
  refine z_iadd e_X1_follow_35 ?_
  refine z_istore (ls' := [some (zo q), some (zo t), some (zo o), some (zo s), some (zo p), some (zi top), some (zi (m_lbeg P (m_count P) (m_lno P (m_count P) (P 14 + row)))), some (zi mk), some (zi (top + xr)), none, none]) e_X1_follow_36 rfl rfl rfl ?_
  refine z_aload_n e_X1_follow_38 rfl ?_
  refine z_aload_n e_X1_follow_39 rfl ?_
  refine z_iload e_X1_follow_40 rfl ?_
  refine z_aload_n e_X1_follow_42 rfl ?_
  refine z_iload e_X1_follow_43 rfl ?_
  refine z_callVi (M' := M_X3_endOf) (As := [zi (m_lbeg P (m_count P) (m_lno P (m_count P) (P 14 + row)))]) (rest := [zi (m_lbeg P (m_count P) (m_lno P (m_count P) (P 14 + row))), zo t, zo q]) e_X1_follow_45 l_RX1_162 rfl rfl rfl rfl hS.1.1 ⟨_, _, rfl⟩ (c_X3_endOf (z_Sh_q (z_Sh_r hS hH hqt _) hH hqt _) hH (by omega) (by omega)) (fun xq mq rq hq => ?_)
  obtain ⟨e1q, e2q, e3q⟩ := hq
  subst xq mq rq
  have hle := m_lend_spec (P := P) (n := m_count P) (k := (m_lbeg P (m_count P) (m_lno P (m_count P) (P 14 + row)))) (by omega)
  have hle1 := hle.1
  have hle2 := hle.2.1
  refine z_aload_n e_X1_follow_48 rfl ?_
  refine z_geti (fi := 5) (x := w) e_X1_follow_49 f_RX1_72 ts rfl rfl ((congrFun ((z_un (by omega))) _).trans hdw) ?_
  refine z_callVv (M' := M_X1_begin) (As := [zo t, zi (m_lbeg P (m_count P) (m_lno P (m_count P) (P 14 + row))), zi (m_lend P (m_count P) (m_lbeg P (m_count P) (m_lno P (m_count P) (P 14 + row)))), zi w]) (rest := []) e_X1_follow_52 l_RX1_73 rfl rfl rfl rfl tq ⟨_, _, rfl⟩ (c_X1_begin tq (z_Sh_r hS hH hqt f9) hH hqt (by omega) (by omega) (by omega)) (fun mq rq hq => ?_)
  obtain ⟨G8, e2q, e3q, hbq, y3, y5, y7, y8, y10, yk⟩ := hq
  rw [z_us, z_uu] at e3q
  subst mq rq
  refine z_aload_n e_X1_follow_55 rfl ?_
  refine z_iload e_X1_follow_56 rfl ?_
  refine z_callVi (M' := M_X1_readUpTo) (As := [zi mk]) (rest := []) e_X1_follow_58 l_RX1_77 rfl rfl rfl rfl tq ⟨_, _, rfl⟩ (c_X1_readUpTo tq (z_Sh_r hS hH hqt _) hH hqt (by rw [z_us]; exact z_vs _ _ _) hbq (m_line_len hH (by omega) (by omega) (by omega)) (by omega) (by omega) (by omega) (by omega) y7 y8 y10) (fun xn mq rq hq => ?_)
  obtain ⟨G7, e2q, e3q, n5, hru⟩ := hq
  subst mq rq
  have hxb : xn = 0 ∨ xn = 1 := by rcases hru with q | q <;> omega
  have hll := m_line_len (b := (m_lbeg P (m_count P) (m_lno P (m_count P) (P 14 + row)))) (e := m_lend P (m_count P) (m_lbeg P (m_count P) (m_lno P (m_count P) (P 14 + row)))) hH (by omega) (by omega) (by omega)
  rw [y5] at hru
  obtain ⟨heU, hg8, huv⟩ := f_ru (b := (y_bc P w (m_count P) (m_lbeg P (m_count P) (m_lno P (m_count P) (P 14 + row))).toNat).2) hw4 (by omega) hll hru
  rw [← hrb] at heU
  refine z_istore (ls' := [some (zo q), some (zo t), some (zo o), some (zo s), some (zo p), some (zi top), some (zi (m_lbeg P (m_count P) (m_lno P (m_count P) (P 14 + row)))), some (zi mk), some (zi (top + xr)), some (zi xn), none]) e_X1_follow_61 rfl rfl rfl ?_
  refine z_iload e_X1_follow_63 rfl ?_
  refine z_aload_n e_X1_follow_65 rfl ?_
  refine z_geti (fi := 8) (x := (G7 8)) e_X1_follow_66 f_RX1_37 tq rfl rfl (congrFun (z_us _ _ _) _) ?_
  refine z_iadd e_X1_follow_69 ?_
  refine z_istore (ls' := [some (zo q), some (zo t), some (zo o), some (zo s), some (zo p), some (zi top), some (zi (m_lbeg P (m_count P) (m_lno P (m_count P) (P 14 + row)))), some (zi mk), some (zi ((top + xr) + (G7 8))), some (zi xn), none]) e_X1_follow_70 rfl rfl rfl ?_
  refine z_iload e_X1_follow_72 rfl ?_
  refine z_aload_n e_X1_follow_74 rfl ?_
  refine z_geti (fi := 4) (x := hm) e_X1_follow_75 f_RX1_114 ts rfl rfl ((congrFun ((z_un (by omega))) _).trans hdh) ?_
  refine z_icmp_ge e_X1_follow_78 ⟨by omega, by omega⟩ ⟨by omega, by omega⟩ (fun h78_1 => ?_) (fun h78_1 => ?_)
  · refine z_iload e_X1_follow_89 rfl ?_
    refine z_if_eq e_X1_follow_91 ⟨by omega, by omega⟩ (fun h91_2 => ?_) (fun h91_2 => ?_)
    · obtain ⟨hx0, heV, heB, hv1, hv2, hv3, hv4, hv5⟩ := huv.resolve_left (fun q => absurd q.1 (by omega))
      subst hx0
      refine z_aload_n e_X1_follow_101 rfl ?_
      refine z_geti (fi := 10) (x := (G7 10)) e_X1_follow_102 f_RX1_43 tq rfl rfl (congrFun (z_us _ _ _) _) ?_
      refine z_iload e_X1_follow_105 rfl ?_
      refine z_iadd e_X1_follow_107 ?_
      refine z_aload_n e_X1_follow_108 rfl ?_
      refine z_geti (fi := 7) (x := (G7 7)) e_X1_follow_109 f_RX1_34 tq rfl rfl (congrFun (z_us _ _ _) _) ?_
      refine z_isub e_X1_follow_112 ?_
      refine z_istore (ls' := [some (zo q), some (zo t), some (zo o), some (zo s), some (zo p), some (zi top), some (zi (m_lbeg P (m_count P) (m_lno P (m_count P) (P 14 + row)))), some (zi mk), some (zi ((top + xr) + (G7 8))), some (zi 0), some (zi (((G7 10) + mk) - (G7 7)))]) e_X1_follow_113 rfl rfl rfl ?_
      refine z_aload e_X1_follow_115 rfl ?_
      refine z_iload e_X1_follow_117 rfl ?_
      refine z_aload_n e_X1_follow_119 rfl ?_
      refine z_geti (fi := 4) (x := hm) e_X1_follow_120 f_RX1_114 ts rfl rfl ((congrFun ((z_un (by omega))) _).trans hdh) ?_
      refine z_isub e_X1_follow_123 ?_
      refine z_aload_n e_X1_follow_124 rfl ?_
      refine z_geti (fi := 5) (x := w) e_X1_follow_125 f_RX1_72 ts rfl rfl ((congrFun ((z_un (by omega))) _).trans hdw) ?_
      refine z_iconst e_X1_follow_128 ?_
      refine z_isub e_X1_follow_129 ?_
      refine z_iload e_X1_follow_130 rfl ?_
      refine z_min (x := (if (((G7 10) + mk) - (G7 7)) < (w - 1) then (((G7 10) + mk) - (G7 7)) else (w - 1))) e_X1_follow_132 mm_RX1_111 rfl rfl ⟨by omega, by omega⟩ ⟨by omega, by omega⟩ (rfl) ?_
      refine z_callVv (M' := M_X0_set) (As := [zi (((top + xr) + (G7 8)) - hm), zi (if (((G7 10) + mk) - (G7 7)) < (w - 1) then (((G7 10) + mk) - (G7 7)) else (w - 1))]) (rest := []) e_X1_follow_135 l_RX1_165 rfl rfl rfl rfl tp ⟨_, _, rfl⟩ (d_X0_set tp) (fun mq rq hq => ?_)
      obtain ⟨e2q, e3q⟩ := hq
      subst mq rq
      rw [z_un (show p ≠ q by omega)]
      refine z_aload e_X1_follow_138 rfl ?_
      refine z_iload e_X1_follow_140 rfl ?_
      refine z_if_ne e_X1_follow_142 (by decide) (fun hq => absurd hq (by decide)) (fun _ => ?_)
      refine z_iload e_X1_follow_145 rfl ?_
      refine z_aload_n e_X1_follow_147 rfl ?_
      refine z_geti (fi := 7) (x := (G7 7)) e_X1_follow_148 f_RX1_34 tq rfl rfl (congrFun (((z_un (by omega)).trans (z_us _ _ _))) _) ?_
      refine z_icmp_ne e_X1_follow_151 ⟨by omega, by omega⟩ ⟨by omega, by omega⟩ (fun h151_3 => ?_) (fun h151_3 => ?_)
      · refine z_iconst e_X1_follow_176 ?_
        refine z_putiU (fi := 2) e_X1_follow_177 f_RX1_136 tp rfl rfl (Or.inr ⟨rfl, Or.inl rfl⟩) ?_
        refine z_ret e_X1_follow_180 rfl rfl rfl ⟨rfl, rfl, ?_⟩
        rw [← hrb]
        have hcd : ¬ top + f_U w xr mk (m_line P (m_lbeg P (m_count P) (m_lno P (m_count P) (P 14 + row))) (m_lend P (m_count P) (m_lbeg P (m_count P) (m_lno P (m_count P) (P 14 + row))))) < hm := by omega
        refine ⟨_, _, _, rfl, rfl, ?_, ?_, ?_⟩
        · rw [if_neg hcd]; simp [z_v] <;> omega
        · rw [if_neg hcd, heV]; simp [z_v] <;> first | omega | (split <;> (try split) <;> omega)
        · rw [if_neg hcd, heB]; simp [z_v] <;> omega
      · refine z_aload_n e_X1_follow_154 rfl ?_
        refine z_geti (fi := 7) (x := (G7 7)) e_X1_follow_155 f_RX1_34 tq rfl rfl (congrFun (((z_un (by omega)).trans (z_us _ _ _))) _) ?_
        refine z_if_le e_X1_follow_158 ⟨by omega, by omega⟩ (fun h158_4 => ?_) (fun h158_4 => ?_)
        · refine z_iconst e_X1_follow_176 ?_
          refine z_putiU (fi := 2) e_X1_follow_177 f_RX1_136 tp rfl rfl (Or.inr ⟨rfl, Or.inl rfl⟩) ?_
          refine z_ret e_X1_follow_180 rfl rfl rfl ⟨rfl, rfl, ?_⟩
          rw [← hrb]
          have hcd : ¬ top + f_U w xr mk (m_line P (m_lbeg P (m_count P) (m_lno P (m_count P) (P 14 + row))) (m_lend P (m_count P) (m_lbeg P (m_count P) (m_lno P (m_count P) (P 14 + row))))) < hm := by omega
          refine ⟨_, _, _, rfl, rfl, ?_, ?_, ?_⟩
          · rw [if_neg hcd]; simp [z_v] <;> omega
          · rw [if_neg hcd, heV]; simp [z_v] <;> first | omega | (split <;> (try split) <;> omega)
          · rw [if_neg hcd, heB]; simp [z_v] <;> omega
        · refine z_aload_n e_X1_follow_161 rfl ?_
          refine z_geti (fi := 10) (x := (G7 10)) e_X1_follow_162 f_RX1_43 tq rfl rfl (congrFun (((z_un (by omega)).trans (z_us _ _ _))) _) ?_
          refine z_aload_n e_X1_follow_165 rfl ?_
          refine z_geti (fi := 5) (x := w) e_X1_follow_166 f_RX1_72 ts rfl rfl ((congrFun (((z_un (by omega)).trans ((z_un (by omega))))) _).trans hdw) ?_
          refine z_icmp_ne e_X1_follow_169 ⟨by omega, by omega⟩ ⟨by omega, by omega⟩ (fun h169_5 => ?_) (fun h169_5 => ?_)
          · refine z_iconst e_X1_follow_176 ?_
            refine z_putiU (fi := 2) e_X1_follow_177 f_RX1_136 tp rfl rfl (Or.inr ⟨rfl, Or.inl rfl⟩) ?_
            refine z_ret e_X1_follow_180 rfl rfl rfl ⟨rfl, rfl, ?_⟩
            rw [← hrb]
            have hcd : ¬ top + f_U w xr mk (m_line P (m_lbeg P (m_count P) (m_lno P (m_count P) (P 14 + row))) (m_lend P (m_count P) (m_lbeg P (m_count P) (m_lno P (m_count P) (P 14 + row))))) < hm := by omega
            refine ⟨_, _, _, rfl, rfl, ?_, ?_, ?_⟩
            · rw [if_neg hcd]; simp [z_v] <;> omega
            · rw [if_neg hcd, heV]; simp [z_v] <;> first | omega | (split <;> (try split) <;> omega)
            · rw [if_neg hcd, heB]; simp [z_v] <;> omega
          · refine z_iconst e_X1_follow_172 ?_
            refine z_goto e_X1_follow_173 ?_
            refine z_putiU (fi := 2) e_X1_follow_177 f_RX1_136 tp rfl rfl (Or.inr ⟨rfl, Or.inr rfl⟩) ?_
            refine z_ret e_X1_follow_180 rfl rfl rfl ⟨rfl, rfl, ?_⟩
            rw [← hrb]
            have hcd : ¬ top + f_U w xr mk (m_line P (m_lbeg P (m_count P) (m_lno P (m_count P) (P 14 + row))) (m_lend P (m_count P) (m_lbeg P (m_count P) (m_lno P (m_count P) (P 14 + row))))) < hm := by omega
            refine ⟨_, _, _, rfl, rfl, ?_, ?_, ?_⟩
            · rw [if_neg hcd]; simp [z_v] <;> omega
            · rw [if_neg hcd, heV]; simp [z_v] <;> first | omega | (split <;> (try split) <;> omega)
            · rw [if_neg hcd, heB]; simp [z_v] <;> omega
    · obtain ⟨hx0, heV, heB, hv1, hv2⟩ := huv.resolve_right (fun q => absurd q.1 (by omega))
      subst hx0
      refine z_aload_n e_X1_follow_94 rfl ?_
      refine z_geti (fi := 9) (x := (G7 9)) e_X1_follow_95 f_RX1_40 tq rfl rfl (congrFun (z_us _ _ _) _) ?_
      refine z_goto e_X1_follow_98 ?_
      refine z_istore (ls' := [some (zo q), some (zo t), some (zo o), some (zo s), some (zo p), some (zi top), some (zi (m_lbeg P (m_count P) (m_lno P (m_count P) (P 14 + row)))), some (zi mk), some (zi ((top + xr) + (G7 8))), some (zi 1), some (zi (G7 9))]) e_X1_follow_113 rfl rfl rfl ?_
      refine z_aload e_X1_follow_115 rfl ?_
      refine z_iload e_X1_follow_117 rfl ?_
      refine z_aload_n e_X1_follow_119 rfl ?_
      refine z_geti (fi := 4) (x := hm) e_X1_follow_120 f_RX1_114 ts rfl rfl ((congrFun ((z_un (by omega))) _).trans hdh) ?_
      refine z_isub e_X1_follow_123 ?_
      refine z_aload_n e_X1_follow_124 rfl ?_
      refine z_geti (fi := 5) (x := w) e_X1_follow_125 f_RX1_72 ts rfl rfl ((congrFun ((z_un (by omega))) _).trans hdw) ?_
      refine z_iconst e_X1_follow_128 ?_
      refine z_isub e_X1_follow_129 ?_
      refine z_iload e_X1_follow_130 rfl ?_
      refine z_min (x := (if (G7 9) < (w - 1) then (G7 9) else (w - 1))) e_X1_follow_132 mm_RX1_111 rfl rfl ⟨by omega, by omega⟩ ⟨by omega, by omega⟩ (rfl) ?_
      refine z_callVv (M' := M_X0_set) (As := [zi (((top + xr) + (G7 8)) - hm), zi (if (G7 9) < (w - 1) then (G7 9) else (w - 1))]) (rest := []) e_X1_follow_135 l_RX1_165 rfl rfl rfl rfl tp ⟨_, _, rfl⟩ (d_X0_set tp) (fun mq rq hq => ?_)
      obtain ⟨e2q, e3q⟩ := hq
      subst mq rq
      rw [z_un (show p ≠ q by omega)]
      refine z_aload e_X1_follow_138 rfl ?_
      refine z_iload e_X1_follow_140 rfl ?_
      refine z_if_ne e_X1_follow_142 (by decide) (fun _ => ?_) (fun hq => absurd hq (by decide))
      refine z_iconst e_X1_follow_176 ?_
      refine z_putiU (fi := 2) e_X1_follow_177 f_RX1_136 tp rfl rfl (Or.inr ⟨rfl, Or.inl rfl⟩) ?_
      refine z_ret e_X1_follow_180 rfl rfl rfl ⟨rfl, rfl, ?_⟩
      rw [← hrb]
      have hcd : ¬ top + f_U w xr mk (m_line P (m_lbeg P (m_count P) (m_lno P (m_count P) (P 14 + row))) (m_lend P (m_count P) (m_lbeg P (m_count P) (m_lno P (m_count P) (P 14 + row))))) < hm := by omega
      refine ⟨_, _, _, rfl, rfl, ?_, ?_, ?_⟩
      · rw [if_neg hcd]; simp [z_v] <;> omega
      · rw [if_neg hcd, heV]; simp [z_v] <;> first | omega | (split <;> (try split) <;> omega)
      · rw [if_neg hcd, heB]; simp [z_v] <;> omega
  · refine z_aload e_X1_follow_81 rfl ?_
    refine z_iconst e_X1_follow_83 ?_
    refine z_iconst e_X1_follow_84 ?_
    refine z_callVv (M' := M_X0_set) (As := [zi 0, zi 0]) (rest := []) e_X1_follow_85 l_RX1_165 rfl rfl rfl rfl tp ⟨_, _, rfl⟩ (d_X0_set tp) (fun mq rq hq => ?_)
    obtain ⟨e2q, e3q⟩ := hq
    subst mq rq
    rw [z_un (show p ≠ q by omega)]
    refine z_ret e_X1_follow_88 rfl rfl rfl ⟨rfl, rfl, ?_⟩
    rw [← hrb]
    have hcd : top + f_U w xr mk (m_line P (m_lbeg P (m_count P) (m_lno P (m_count P) (P 14 + row))) (m_lend P (m_count P) (m_lbeg P (m_count P) (m_lno P (m_count P) (P 14 + row))))) < hm := by omega
    refine ⟨_, _, _, rfl, rfl, ?_, ?_, ?_⟩
    · rw [if_pos hcd]; simp [z_v]
    · rw [if_pos hcd]; simp [z_v]
    · rw [if_pos hcd]; simp [z_v]
