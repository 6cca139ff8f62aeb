set_option maxHeartbeats 1000000 in
set_option maxRecDepth 100000 in
theorem c_X1_begin {E : z_E} {mi : z_Mi} {mr : z_Mr} {q s : Nat} {sg : Int → Nat} {P G : Int → Int} {b e w : Int} (tq : E.2.2[q]? = some (1, 0)) (hS : z_Sh E mi mr s sg P (p_rows P)) (hH : p_hd P) (hqs : q < s ∨ s + 71 ≤ q) (h0 : 0 ≤ b) (h1 : b ≤ e) (h2 : e < P 14 + P 1) : z_mv M_X1_begin E [zo q, zo s, zi b, zi e, zi w] (z_u mi q G) mr (fun m r => ∃ G' : Int → Int, m = z_u mi q G' ∧ r = z_u mr q (z_v (mr q) 0 (some s)) ∧ q_at P G' (m_line P b e) ∧ G' 3 = e ∧ G' 5 = w ∧ G' 7 = 0 ∧ G' 8 = 0 ∧ G' 10 = 0 ∧ (∀ k, k = 6 ∨ k = 9 ∨ k = 11 ∨ k = 12 → G' k = G k)) := by
  obtain ⟨hw0, hw1, hh0, hh1, hf0, hf1, hf2, hr0, hr1, hc0, hc1, hp0, hp1, hk0, hk1, hi0, hi1, hkp, hP⟩ := id hH
  refine z_ofv (ls := [some (zo q), some (zo s), some (zi b), some (zi e), some (zi w)]) rfl (fun _ _ => trivial) ⟨rfl, rfl⟩ (Nat.le_of_ble_eq_true rfl) rfl ?_
  refine z_aload_n e_X1_begin_0 rfl ?_
  refine z_aload_n e_X1_begin_1 rfl ?_
  refine z_putr (fi := 0) e_X1_begin_2 f_RX1_9 tq rfl (Or.inl rfl) rfl (fun b hb => by cases hb; exact z_lt hS.1.1) ?_
  refine z_aload_n e_X1_begin_5 rfl ?_
  refine z_iload_n e_X1_begin_6 rfl ?_
  refine z_putiU (fi := 1) e_X1_begin_7 f_RX1_15 tq rfl rfl (Or.inl rfl) ?_
  refine z_aload_n e_X1_begin_10 rfl ?_
  refine z_iconst e_X1_begin_11 ?_
  refine z_putiU (fi := 2) e_X1_begin_12 f_RX1_19 tq rfl rfl (Or.inl rfl) ?_
  refine z_aload_n e_X1_begin_15 rfl ?_
  refine z_iload_n e_X1_begin_16 rfl ?_
  refine z_putiU (fi := 3) e_X1_begin_17 f_RX1_22 tq rfl rfl (Or.inl rfl) ?_
  refine z_aload_n e_X1_begin_20 rfl ?_
  refine z_aload_n e_X1_begin_21 rfl ?_
  refine z_iload_n e_X1_begin_22 rfl ?_
  have join33_0 : ∀ (be : Int), be = (if b = e then 1 else 0) → z_A M_X1_begin E 0 0 33 [some (zo q), some (zo s), some (zi b), some (zi e), some (zi w)] [zi be, zi b, zo s, zo q] (z_u mi q (z_v (z_v (z_v G 1 b) 2 0) 3 e)) (z_u mr q (z_v (mr q) 0 (some s))) (z_qv E (fun m r => ∃ G' : Int → Int, m = z_u mi q G' ∧ r = z_u mr q (z_v (mr q) 0 (some s)) ∧ q_at P G' (m_line P b e) ∧ G' 3 = e ∧ G' 5 = w ∧ G' 7 = 0 ∧ G' 8 = 0 ∧ G' 10 = 0 ∧ (∀ k, k = 6 ∨ k = 9 ∨ k = 11 ∨ k = 12 → G' k = G k))) := by
    intro be hj
    have hbe := hj
    have hbeb : be = 0 ∨ be = 1 := by rw [hj]; split <;> omega
    refine z_callVi (M' := M_X3_cellsOfLine) (As := [zi b, zi be]) (rest := [zo q]) e_X1_begin_33 l_RX1_53 rfl rfl rfl rfl hS.1.1 ⟨_, _, rfl⟩ (c_X3_cellsOfLine (z_Sh_q (z_Sh_r hS hH hqs _) hH hqs _) hH (by omega) (by omega) (by omega)) (fun xq mq rq hq => ?_)
    obtain ⟨e1q, e2q, e3q⟩ := hq
    subst xq mq rq
    have hclb := m_cl_b hH b be
    refine z_putiU (fi := 4) e_X1_begin_36 f_RX1_25 tq rfl rfl (Or.inl rfl) ?_
    refine z_aload_n e_X1_begin_39 rfl ?_
    refine z_iload e_X1_begin_40 rfl ?_
    refine z_putiU (fi := 5) e_X1_begin_42 f_RX1_28 tq rfl rfl (Or.inl rfl) ?_
    refine z_aload_n e_X1_begin_45 rfl ?_
    refine z_iconst e_X1_begin_46 ?_
    refine z_putiU (fi := 7) e_X1_begin_47 f_RX1_34 tq rfl rfl (Or.inl rfl) ?_
    refine z_aload_n e_X1_begin_50 rfl ?_
    refine z_iconst e_X1_begin_51 ?_
    refine z_putiU (fi := 8) e_X1_begin_52 f_RX1_37 tq rfl rfl (Or.inl rfl) ?_
    refine z_aload_n e_X1_begin_55 rfl ?_
    refine z_iconst e_X1_begin_56 ?_
    refine z_putiU (fi := 10) e_X1_begin_57 f_RX1_43 tq rfl rfl (Or.inl rfl) ?_
    refine z_ret e_X1_begin_60 rfl rfl rfl ⟨rfl, rfl, ?_⟩
    refine ⟨_, rfl, rfl, q_begin (z_Sh_rw hS (k := b) h0 (by omega)).2 (by omega) h0 h1 h2 (by simp [z_v]) (by simp [z_v]) (by simp [z_v]) (by simp [z_v]; rw [hbe]; exact m_cl_e _ _ _), by simp [z_v], by simp [z_v], by simp [z_v], by simp [z_v], by simp [z_v], fun k hk => ?_⟩
    rcases hk with rfl | rfl | rfl | rfl <;> simp [z_v]
  refine z_iload_n e_X1_begin_23 rfl ?_
  refine z_iload_n e_X1_begin_24 rfl ?_
  refine z_icmp_ne e_X1_begin_25 ⟨by omega, by omega⟩ ⟨by omega, by omega⟩ (fun h25_2 => ?_) (fun h25_2 => ?_)
  · refine z_iconst e_X1_begin_32 ?_
    exact join33_0 0 ((if_neg (by omega)).symm)
  · refine z_iconst e_X1_begin_28 ?_
    refine z_goto e_X1_begin_29 ?_
    exact join33_0 1 ((if_pos (by omega)).symm)
set_option maxHeartbeats 1000000 in
set_option maxRecDepth 100000 in
theorem c_X1_next {E : z_E} {mi : z_Mi} {mr : z_Mr} {q s : Nat} {sg : Int → Nat} {P G : Int → Int} {l : List Int} (tq : E.2.2[q]? = some (1, 0)) (hS : z_Sh E mi mr s sg P (p_rows P)) (hH : p_hd P) (hqs : q < s ∨ s + 71 ≤ q) (hfr : mr q 0 = some s) (hl : q_at P G l) (h5 : 4 ≤ G 5) (h51 : G 5 ≤ 20) (h7 : 0 ≤ G 7) (h71 : G 7 ≤ 9999) (h8 : 0 ≤ G 8) (h81 : G 8 ≤ 9999) (h10 : 0 ≤ G 10) (h101 : G 10 ≤ 20) : z_mi M_X1_next E [zo q] (z_u mi q G) mr (fun x m r => ∃ G' : Int → Int, m = z_u mi q G' ∧ r = mr ∧ q_nx P G G' x l) := by
  obtain ⟨hw0, hw1, hh0, hh1, hf0, hf1, hf2, hr0, hr1, hc0, hc1, hp0, hp1, hk0, hk1, hi0, hi1, hkp, hP⟩ := id hH
  refine z_ofi (ls := [some (zo q), none]) rfl (fun _ _ => trivial) ⟨rfl, rfl⟩ (Nat.le_of_ble_eq_true rfl) rfl ?_
  refine z_aload_n e_X1_next_0 rfl ?_
  refine z_getr (fi := 0) (r := some s) e_X1_next_1 f_RX1_9 tq rfl rfl (hfr) ?_
  refine z_ifnonnull e_X1_next_4 ?_
  have loop9 : ∀ (nn : Nat) (G1 : Int → Int), (G1 3 - G1 1).toNat = nn → (q_at P G1 l ∧ ∀ k, k ≠ 1 → k ≠ 2 → k ≠ 4 → G1 k = G k) → z_A M_X1_next E 0 0 9 [some (zo q), none] [] (z_u mi q G1) mr (z_qi E (fun x m r => ∃ G' : Int → Int, m = z_u mi q G' ∧ r = mr ∧ q_nx P G G' x l)) := by
    intro nn
    induction nn using Nat.strongRecOn with
    | _ nn ih9 =>
      intro G1 hmeas hinv
      obtain ⟨hq1, hkk⟩ := hinv
      obtain ⟨b1, b2, b3, b4, b5, b6, b7, b8⟩ := id hq1
      have hceb := m_cells_b (k := G1 1) (e := G1 3) hH
      have j3 := hkk 3 (by decide) (by decide) (by decide)
      have j5 := hkk 5 (by decide) (by decide) (by decide)
      have j7 := hkk 7 (by decide) (by decide) (by decide)
      have j8 := hkk 8 (by decide) (by decide) (by decide)
      have j10 := hkk 10 (by decide) (by decide) (by decide)
      refine z_aload_n e_X1_next_9 rfl ?_
      have join80_0 : ∀ (d : Int), d = 0 ∧ (G1 2 < G1 4 ∨ G1 3 ≤ G1 1) → z_A M_X1_next E 0 0 80 [some (zo q), none] [] (z_u mi q G1) mr (z_qi E (fun x m r => ∃ G' : Int → Int, m = z_u mi q G' ∧ r = mr ∧ q_nx P G G' x l)) := by
        intro d hj
        have hex := hj.2
        refine z_aload_n e_X1_next_80 rfl ?_
        refine z_geti (fi := 2) (x := (G1 2)) e_X1_next_81 f_RX1_19 tq rfl rfl (congrFun (z_us _ _ _) _) ?_
        refine z_aload_n e_X1_next_84 rfl ?_
        refine z_geti (fi := 4) (x := (G1 4)) e_X1_next_85 f_RX1_25 tq rfl rfl (congrFun (z_us _ _ _) _) ?_
        refine z_icmp_lt e_X1_next_88 ⟨by omega, by omega⟩ ⟨by omega, by omega⟩ (fun h88_2 => ?_) (fun h88_2 => ?_)
        · obtain ⟨l2, hl2, hab, hst⟩ := q_step hq1 (z_Sh_rw hS (k := G1 1) (by omega) (by omega)).2 (by omega) (by omega) (by omega) (by omega)
          generalize hav : p_rows P (G1 1) (G1 2) = a at hl2 hab hst
          have hcp : c_sz a = p_sz a := rfl
          refine z_aload_n e_X1_next_93 rfl ?_
          refine z_aload_n e_X1_next_94 rfl ?_
          refine z_getr (fi := 0) (r := some s) e_X1_next_95 f_RX1_9 tq rfl rfl (hfr) ?_
          refine z_aload_n e_X1_next_98 rfl ?_
          refine z_geti (fi := 1) (x := (G1 1)) e_X1_next_99 f_RX1_15 tq rfl rfl (congrFun (z_us _ _ _) _) ?_
          refine z_callVr (M' := M_X3_rowAt) (As := [zi (G1 1)]) (rest := [zo q]) e_X1_next_102 l_RX1_59 rfl rfl rfl rfl hS.1.1 ⟨_, _, rfl⟩ (c_X3_rowAt (z_Sh_q hS hH hqs _) hH (by omega) (by omega)) (fun xq mq rq hq => ?_)
          obtain ⟨e1q, e2q, e3q⟩ := hq
          subst xq mq rq
          refine z_aload_n e_X1_next_105 rfl ?_
          refine z_geti (fi := 2) (x := (G1 2)) e_X1_next_106 f_RX1_19 tq rfl rfl (congrFun (z_us _ _ _) _) ?_
          refine z_callVi (M' := M_X2_at) (As := [zi (G1 2)]) (rest := [zo q]) e_X1_next_109 l_RX1_63 rfl rfl rfl rfl (z_Sh_tag hS (k := (G1 1)) (by omega) (by omega)) ⟨_, _, rfl⟩ (d_X2_at (z_Sh_row hS (k := (G1 1)) (by omega) (by omega)).2 ⟨by omega, by omega⟩) (fun xq mq rq hq => ?_)
          obtain ⟨e1q, e2q, e3q⟩ := hq
          have ea : c_at ((z_u mi q G1) (sg (G1 1) + 1)) (G1 2) = a := by
            rw [c_rw_at (z_Sh_rw (z_Sh_q hS hH hqs G1) (k := (G1 1)) (by omega) (by omega)).1 hw1, if_pos ⟨by omega, by omega⟩, hav]; unfold c_en; rw [if_neg (by omega)]
          rw [ea] at e1q
          subst xq mq rq
          refine z_putiU (fi := 6) e_X1_next_112 f_RX1_31 tq rfl rfl (Or.inl rfl) ?_
          refine z_aload_n e_X1_next_115 rfl ?_
          refine z_geti (fi := 6) (x := a) e_X1_next_116 f_RX1_31 tq rfl rfl ((congrFun (z_us _ _ _) _).trans (z_vs _ _ _)) ?_
          refine z_callSi (M' := M_X4_sizeOf) (As := [zi a]) (rest := []) e_X1_next_119 l_RX1_69 rfl rfl rfl rfl (c_X4_sizeOf ⟨by omega, by omega⟩) (fun xq mq rq hq => ?_)
          obtain ⟨e1q, e2q, e3q⟩ := hq
          subst xq mq rq
          have hszb := c_sz_b a
          refine z_istore_n (ls' := [some (zo q), some (zi (c_sz a))]) e_X1_next_122 rfl rfl rfl ?_
          refine z_aload_n e_X1_next_123 rfl ?_
          refine z_dup e_X1_next_124 rfl ?_
          refine z_geti (fi := 2) (x := (G1 2)) e_X1_next_125 f_RX1_19 tq rfl rfl ((congrFun (z_us _ _ _) _).trans ((z_vn (by decide)))) ?_
          refine z_iload_n e_X1_next_128 rfl ?_
          refine z_iadd e_X1_next_129 ?_
          refine z_putiU (fi := 2) e_X1_next_130 f_RX1_19 tq rfl rfl (Or.inl rfl) ?_
          refine z_aload_n e_X1_next_133 rfl ?_
          refine z_dup e_X1_next_134 rfl ?_
          refine z_geti (fi := 7) (x := (G1 7)) e_X1_next_135 f_RX1_34 tq rfl rfl ((congrFun (z_us _ _ _) _).trans (((z_vn (by decide)).trans ((z_vn (by decide)))))) ?_
          refine z_iconst e_X1_next_138 ?_
          refine z_iadd e_X1_next_139 ?_
          refine z_putiU (fi := 7) e_X1_next_140 f_RX1_34 tq rfl rfl (Or.inl rfl) ?_
          refine z_aload_n e_X1_next_143 rfl ?_
          refine z_aload_n e_X1_next_144 rfl ?_
          refine z_geti (fi := 10) (x := (G1 10)) e_X1_next_145 f_RX1_43 tq rfl rfl ((congrFun (z_us _ _ _) _).trans (((z_vn (by decide)).trans (((z_vn (by decide)).trans ((z_vn (by decide)))))))) ?_
          refine z_iload_n e_X1_next_148 rfl ?_
          refine z_iadd e_X1_next_149 ?_
          refine z_aload_n e_X1_next_150 rfl ?_
          refine z_geti (fi := 5) (x := (G1 5)) e_X1_next_151 f_RX1_28 tq rfl rfl ((congrFun (z_us _ _ _) _).trans (((z_vn (by decide)).trans (((z_vn (by decide)).trans ((z_vn (by decide)))))))) ?_
          refine z_icmp_le e_X1_next_154 ⟨by omega, by omega⟩ ⟨by omega, by omega⟩ (fun h154_3 => ?_) (fun h154_3 => ?_)
          · refine z_iconst e_X1_next_161 ?_
            refine z_putiU (fi := 11) e_X1_next_162 f_RX1_46 tq rfl rfl (Or.inr ⟨rfl, Or.inl rfl⟩) ?_
            refine z_aload_n e_X1_next_165 rfl ?_
            refine z_aload_n e_X1_next_166 rfl ?_
            refine z_geti (fi := 11) (x := 0) e_X1_next_167 f_RX1_46 tq rfl rfl ((congrFun (z_us _ _ _) _).trans (z_vs _ _ _)) ?_
            refine z_if_eq e_X1_next_170 (by decide) (fun _ => ?_) (fun hq => absurd hq (by decide))
            refine z_iconst e_X1_next_188 ?_
            refine z_putiU (fi := 12) e_X1_next_189 f_RX1_50 tq rfl rfl (Or.inr ⟨rfl, Or.inl rfl⟩) ?_
            refine z_aload_n e_X1_next_192 rfl ?_
            refine z_dup e_X1_next_193 rfl ?_
            refine z_geti (fi := 8) (x := (G1 8)) e_X1_next_194 f_RX1_37 tq rfl rfl ((congrFun (z_us _ _ _) _).trans (((z_vn (by decide)).trans (((z_vn (by decide)).trans (((z_vn (by decide)).trans (((z_vn (by decide)).trans ((z_vn (by decide)))))))))))) ?_
            refine z_aload_n e_X1_next_197 rfl ?_
            refine z_geti (fi := 11) (x := 0) e_X1_next_198 f_RX1_46 tq rfl rfl ((congrFun (z_us _ _ _) _).trans (((z_vn (by decide)).trans (z_vs _ _ _)))) ?_
            refine z_if_eq e_X1_next_201 (by decide) (fun _ => ?_) (fun hq => absurd hq (by decide))
            refine z_iconst e_X1_next_208 ?_
            refine z_iadd e_X1_next_209 ?_
            refine z_putiU (fi := 8) e_X1_next_210 f_RX1_37 tq rfl rfl (Or.inl rfl) ?_
            refine z_aload_n e_X1_next_213 rfl ?_
            refine z_aload_n e_X1_next_214 rfl ?_
            refine z_geti (fi := 11) (x := 0) e_X1_next_215 f_RX1_46 tq rfl rfl ((congrFun (z_us _ _ _) _).trans (((z_vn (by decide)).trans (((z_vn (by decide)).trans (z_vs _ _ _)))))) ?_
            refine z_if_eq e_X1_next_218 (by decide) (fun _ => ?_) (fun hq => absurd hq (by decide))
            refine z_aload_n e_X1_next_225 rfl ?_
            refine z_geti (fi := 10) (x := (G1 10)) e_X1_next_226 f_RX1_43 tq rfl rfl ((congrFun (z_us _ _ _) _).trans (((z_vn (by decide)).trans (((z_vn (by decide)).trans (((z_vn (by decide)).trans (((z_vn (by decide)).trans (((z_vn (by decide)).trans ((z_vn (by decide)))))))))))))) ?_
            refine z_putiU (fi := 9) e_X1_next_229 f_RX1_40 tq rfl rfl (Or.inl rfl) ?_
            refine z_aload_n e_X1_next_232 rfl ?_
            refine z_aload_n e_X1_next_233 rfl ?_
            refine z_geti (fi := 9) (x := (G1 10)) e_X1_next_234 f_RX1_40 tq rfl rfl ((congrFun (z_us _ _ _) _).trans (z_vs _ _ _)) ?_
            refine z_iload_n e_X1_next_237 rfl ?_
            refine z_iadd e_X1_next_238 ?_
            refine z_putiU (fi := 10) e_X1_next_239 f_RX1_43 tq rfl rfl (Or.inl rfl) ?_
            refine z_iconst e_X1_next_242 ?_
            refine z_iret e_X1_next_243 (Or.inr ⟨rfl, Or.inr rfl⟩) rfl rfl ⟨rfl, _, rfl, ?_⟩
            subst hl2
            refine ⟨_, rfl, rfl, rfl, hst _ (by simp [z_v]) (by simp [z_v]) (by simp [z_v]) (by simp [z_v, hcp]), hab, by simp [z_v] <;> omega, by simp [z_v] <;> omega, by simp [z_v], by simp [z_v] <;> omega, ?_, ?_, ?_, ?_, by simp [z_v, hcp]⟩
            · rw [if_neg (by omega)]; simp [z_v] <;> omega
            · rw [if_neg (by omega)]; simp [z_v] <;> omega
            · rw [if_neg (by omega)]; simp [z_v] <;> omega
            · rw [if_neg (by omega)]; simp [z_v] <;> omega
          · refine z_iconst e_X1_next_157 ?_
            refine z_goto e_X1_next_158 ?_
            refine z_putiU (fi := 11) e_X1_next_162 f_RX1_46 tq rfl rfl (Or.inr ⟨rfl, Or.inr rfl⟩) ?_
            refine z_aload_n e_X1_next_165 rfl ?_
            refine z_aload_n e_X1_next_166 rfl ?_
            refine z_geti (fi := 11) (x := 1) e_X1_next_167 f_RX1_46 tq rfl rfl ((congrFun (z_us _ _ _) _).trans (z_vs _ _ _)) ?_
            refine z_if_eq e_X1_next_170 (by decide) (fun hq => absurd hq (by decide)) (fun _ => ?_)
            refine z_aload_n e_X1_next_173 rfl ?_
            refine z_geti (fi := 10) (x := (G1 10)) e_X1_next_174 f_RX1_43 tq rfl rfl ((congrFun (z_us _ _ _) _).trans (((z_vn (by decide)).trans (((z_vn (by decide)).trans (((z_vn (by decide)).trans ((z_vn (by decide)))))))))) ?_
            refine z_aload_n e_X1_next_177 rfl ?_
            refine z_geti (fi := 5) (x := (G1 5)) e_X1_next_178 f_RX1_28 tq rfl rfl ((congrFun (z_us _ _ _) _).trans (((z_vn (by decide)).trans (((z_vn (by decide)).trans (((z_vn (by decide)).trans ((z_vn (by decide)))))))))) ?_
            refine z_icmp_ge e_X1_next_181 ⟨by omega, by omega⟩ ⟨by omega, by omega⟩ (fun h181_4 => ?_) (fun h181_4 => ?_)
            · refine z_iconst e_X1_next_188 ?_
              refine z_putiU (fi := 12) e_X1_next_189 f_RX1_50 tq rfl rfl (Or.inr ⟨rfl, Or.inl rfl⟩) ?_
              refine z_aload_n e_X1_next_192 rfl ?_
              refine z_dup e_X1_next_193 rfl ?_
              refine z_geti (fi := 8) (x := (G1 8)) e_X1_next_194 f_RX1_37 tq rfl rfl ((congrFun (z_us _ _ _) _).trans (((z_vn (by decide)).trans (((z_vn (by decide)).trans (((z_vn (by decide)).trans (((z_vn (by decide)).trans ((z_vn (by decide)))))))))))) ?_
              refine z_aload_n e_X1_next_197 rfl ?_
              refine z_geti (fi := 11) (x := 1) e_X1_next_198 f_RX1_46 tq rfl rfl ((congrFun (z_us _ _ _) _).trans (((z_vn (by decide)).trans (z_vs _ _ _)))) ?_
              refine z_if_eq e_X1_next_201 (by decide) (fun hq => absurd hq (by decide)) (fun _ => ?_)
              refine z_iconst e_X1_next_204 ?_
              refine z_goto e_X1_next_205 ?_
              refine z_iadd e_X1_next_209 ?_
              refine z_putiU (fi := 8) e_X1_next_210 f_RX1_37 tq rfl rfl (Or.inl rfl) ?_
              refine z_aload_n e_X1_next_213 rfl ?_
              refine z_aload_n e_X1_next_214 rfl ?_
              refine z_geti (fi := 11) (x := 1) e_X1_next_215 f_RX1_46 tq rfl rfl ((congrFun (z_us _ _ _) _).trans (((z_vn (by decide)).trans (((z_vn (by decide)).trans (z_vs _ _ _)))))) ?_
              refine z_if_eq e_X1_next_218 (by decide) (fun hq => absurd hq (by decide)) (fun _ => ?_)
              refine z_iconst e_X1_next_221 ?_
              refine z_goto e_X1_next_222 ?_
              refine z_putiU (fi := 9) e_X1_next_229 f_RX1_40 tq rfl rfl (Or.inl rfl) ?_
              refine z_aload_n e_X1_next_232 rfl ?_
              refine z_aload_n e_X1_next_233 rfl ?_
              refine z_geti (fi := 9) (x := 0) e_X1_next_234 f_RX1_40 tq rfl rfl ((congrFun (z_us _ _ _) _).trans (z_vs _ _ _)) ?_
              refine z_iload_n e_X1_next_237 rfl ?_
              refine z_iadd e_X1_next_238 ?_
              refine z_putiU (fi := 10) e_X1_next_239 f_RX1_43 tq rfl rfl (Or.inl rfl) ?_
              refine z_iconst e_X1_next_242 ?_
              refine z_iret e_X1_next_243 (Or.inr ⟨rfl, Or.inr rfl⟩) rfl rfl ⟨rfl, _, rfl, ?_⟩
              subst hl2
              refine ⟨_, rfl, rfl, rfl, hst _ (by simp [z_v]) (by simp [z_v]) (by simp [z_v]) (by simp [z_v, hcp]), hab, by simp [z_v] <;> omega, by simp [z_v] <;> omega, by simp [z_v], by simp [z_v] <;> omega, ?_, ?_, ?_, ?_, by simp [z_v, hcp]⟩
              · rw [if_pos (by omega)]; simp [z_v] <;> omega
              · rw [if_neg (by omega)]; simp [z_v] <;> omega
              · rw [if_pos (by omega)]; simp [z_v] <;> omega
              · rw [if_pos (by omega)]; simp [z_v] <;> omega
            · refine z_iconst e_X1_next_184 ?_
              refine z_goto e_X1_next_185 ?_
              refine z_putiU (fi := 12) e_X1_next_189 f_RX1_50 tq rfl rfl (Or.inr ⟨rfl, Or.inr rfl⟩) ?_
              refine z_aload_n e_X1_next_192 rfl ?_
              refine z_dup e_X1_next_193 rfl ?_
              refine z_geti (fi := 8) (x := (G1 8)) e_X1_next_194 f_RX1_37 tq rfl rfl ((congrFun (z_us _ _ _) _).trans (((z_vn (by decide)).trans (((z_vn (by decide)).trans (((z_vn (by decide)).trans (((z_vn (by decide)).trans ((z_vn (by decide)))))))))))) ?_
              refine z_aload_n e_X1_next_197 rfl ?_
              refine z_geti (fi := 11) (x := 1) e_X1_next_198 f_RX1_46 tq rfl rfl ((congrFun (z_us _ _ _) _).trans (((z_vn (by decide)).trans (z_vs _ _ _)))) ?_
              refine z_if_eq e_X1_next_201 (by decide) (fun hq => absurd hq (by decide)) (fun _ => ?_)
              refine z_iconst e_X1_next_204 ?_
              refine z_goto e_X1_next_205 ?_
              refine z_iadd e_X1_next_209 ?_
              refine z_putiU (fi := 8) e_X1_next_210 f_RX1_37 tq rfl rfl (Or.inl rfl) ?_
              refine z_aload_n e_X1_next_213 rfl ?_
              refine z_aload_n e_X1_next_214 rfl ?_
              refine z_geti (fi := 11) (x := 1) e_X1_next_215 f_RX1_46 tq rfl rfl ((congrFun (z_us _ _ _) _).trans (((z_vn (by decide)).trans (((z_vn (by decide)).trans (z_vs _ _ _)))))) ?_
              refine z_if_eq e_X1_next_218 (by decide) (fun hq => absurd hq (by decide)) (fun _ => ?_)
              refine z_iconst e_X1_next_221 ?_
              refine z_goto e_X1_next_222 ?_
              refine z_putiU (fi := 9) e_X1_next_229 f_RX1_40 tq rfl rfl (Or.inl rfl) ?_
              refine z_aload_n e_X1_next_232 rfl ?_
              refine z_aload_n e_X1_next_233 rfl ?_
              refine z_geti (fi := 9) (x := 0) e_X1_next_234 f_RX1_40 tq rfl rfl ((congrFun (z_us _ _ _) _).trans (z_vs _ _ _)) ?_
              refine z_iload_n e_X1_next_237 rfl ?_
              refine z_iadd e_X1_next_238 ?_
              refine z_putiU (fi := 10) e_X1_next_239 f_RX1_43 tq rfl rfl (Or.inl rfl) ?_
              refine z_iconst e_X1_next_242 ?_
              refine z_iret e_X1_next_243 (Or.inr ⟨rfl, Or.inr rfl⟩) rfl rfl ⟨rfl, _, rfl, ?_⟩
              subst hl2
              refine ⟨_, rfl, rfl, rfl, hst _ (by simp [z_v]) (by simp [z_v]) (by simp [z_v]) (by simp [z_v, hcp]), hab, by simp [z_v] <;> omega, by simp [z_v] <;> omega, by simp [z_v], by simp [z_v] <;> omega, ?_, ?_, ?_, ?_, by simp [z_v, hcp]⟩
              · rw [if_pos (by omega)]; simp [z_v] <;> omega
              · rw [if_pos (by omega)]; simp [z_v] <;> omega
              · rw [if_pos (by omega)]; simp [z_v] <;> omega
              · rw [if_pos (by omega)]; simp [z_v] <;> omega
        · refine z_iconst e_X1_next_91 ?_
          refine z_iret e_X1_next_92 (Or.inr ⟨rfl, Or.inl rfl⟩) rfl rfl ⟨rfl, _, rfl, ?_⟩
          have el := q_end hq1 (by omega) (by omega)
          subst el
          exact ⟨G1, rfl, rfl, rfl, hq1, hkk⟩
      refine z_geti (fi := 2) (x := (G1 2)) e_X1_next_10 f_RX1_19 tq rfl rfl (congrFun (z_us _ _ _) _) ?_
      refine z_aload_n e_X1_next_13 rfl ?_
      refine z_geti (fi := 4) (x := (G1 4)) e_X1_next_14 f_RX1_25 tq rfl rfl (congrFun (z_us _ _ _) _) ?_
      refine z_icmp_lt e_X1_next_17 ⟨by omega, by omega⟩ ⟨by omega, by omega⟩ (fun h17_5 => ?_) (fun h17_5 => ?_)
      · exact join80_0 0 (⟨rfl, by omega⟩)
      · refine z_aload_n e_X1_next_20 rfl ?_
        refine z_geti (fi := 1) (x := (G1 1)) e_X1_next_21 f_RX1_15 tq rfl rfl (congrFun (z_us _ _ _) _) ?_
        refine z_aload_n e_X1_next_24 rfl ?_
        refine z_geti (fi := 3) (x := (G1 3)) e_X1_next_25 f_RX1_22 tq rfl rfl (congrFun (z_us _ _ _) _) ?_
        refine z_icmp_ge e_X1_next_28 ⟨by omega, by omega⟩ ⟨by omega, by omega⟩ (fun h28_6 => ?_) (fun h28_6 => ?_)
        · exact join80_0 0 (⟨rfl, by omega⟩)
        · refine z_aload_n e_X1_next_31 rfl ?_
          refine z_dup e_X1_next_32 rfl ?_
          refine z_geti (fi := 1) (x := (G1 1)) e_X1_next_33 f_RX1_15 tq rfl rfl (congrFun (z_us _ _ _) _) ?_
          refine z_iconst e_X1_next_36 ?_
          refine z_iadd e_X1_next_37 ?_
          refine z_putiU (fi := 1) e_X1_next_38 f_RX1_15 tq rfl rfl (Or.inl rfl) ?_
          refine z_aload_n e_X1_next_41 rfl ?_
          refine z_iconst e_X1_next_42 ?_
          refine z_putiU (fi := 2) e_X1_next_43 f_RX1_19 tq rfl rfl (Or.inl rfl) ?_
          refine z_aload_n e_X1_next_46 rfl ?_
          refine z_aload_n e_X1_next_47 rfl ?_
          refine z_getr (fi := 0) (r := some s) e_X1_next_48 f_RX1_9 tq rfl rfl (hfr) ?_
          refine z_aload_n e_X1_next_51 rfl ?_
          refine z_geti (fi := 1) (x := ((G1 1) + 1)) e_X1_next_52 f_RX1_15 tq rfl rfl ((congrFun (z_us _ _ _) _).trans (((z_vn (by decide)).trans (z_vs _ _ _)))) ?_
          have join71_6 : ∀ (be : Int), be = (if G1 1 + 1 = G1 3 then 1 else 0) → z_A M_X1_next E 0 0 71 [some (zo q), none] [zi be, zi ((G1 1) + 1), zo s, zo q] (z_u mi q (z_v (z_v G1 1 ((G1 1) + 1)) 2 0)) mr (z_qi E (fun x m r => ∃ G' : Int → Int, m = z_u mi q G' ∧ r = mr ∧ q_nx P G G' x l)) := by
            intro be hj
            have hbe := hj
            have hbeb : be = 0 ∨ be = 1 := by rw [hj]; split <;> omega
            refine z_callVi (M' := M_X3_cellsOfLine) (As := [zi ((G1 1) + 1), zi be]) (rest := [zo q]) e_X1_next_71 l_RX1_53 rfl rfl rfl rfl hS.1.1 ⟨_, _, rfl⟩ (c_X3_cellsOfLine (z_Sh_q hS hH hqs _) hH (by omega) (by omega) (by omega)) (fun xq mq rq hq => ?_)
            obtain ⟨e1q, e2q, e3q⟩ := hq
            subst xq mq rq
            have hclb := m_cl_b hH ((G1 1) + 1) be
            refine z_putiU (fi := 4) e_X1_next_74 f_RX1_25 tq rfl rfl (Or.inl rfl) ?_
            refine z_goto e_X1_next_77 ?_
            exact ih9 _ (by simp [z_v] <;> omega) (z_v (z_v (z_v G1 1 ((G1 1) + 1)) 2 0) 4 (m_cl P ((G1 1) + 1) be)) rfl (⟨q_next hq1 (z_Sh_rw hS (k := G1 1 + 1) (by omega) (by omega)).2 (by omega) (by omega) (by omega) hbe, fun k k1 k2 k4 => (z_vn k4).trans ((z_vn k2).trans ((z_vn k1).trans (hkk k k1 k2 k4)))⟩)
          refine z_aload_n e_X1_next_55 rfl ?_
          refine z_geti (fi := 1) (x := ((G1 1) + 1)) e_X1_next_56 f_RX1_15 tq rfl rfl ((congrFun (z_us _ _ _) _).trans (((z_vn (by decide)).trans (z_vs _ _ _)))) ?_
          refine z_aload_n e_X1_next_59 rfl ?_
          refine z_geti (fi := 3) (x := (G1 3)) e_X1_next_60 f_RX1_22 tq rfl rfl ((congrFun (z_us _ _ _) _).trans (((z_vn (by decide)).trans ((z_vn (by decide)))))) ?_
          refine z_icmp_ne e_X1_next_63 ⟨by omega, by omega⟩ ⟨by omega, by omega⟩ (fun h63_8 => ?_) (fun h63_8 => ?_)
          · refine z_iconst e_X1_next_70 ?_
            exact join71_6 0 ((if_neg (by omega)).symm)
          · refine z_iconst e_X1_next_66 ?_
            refine z_goto e_X1_next_67 ?_
            exact join71_6 1 ((if_pos (by omega)).symm)
  exact loop9 _ G rfl (⟨hl, fun _ _ _ _ => rfl⟩)
