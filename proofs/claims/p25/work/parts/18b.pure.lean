/-- the page that the reference pours, told once: P the page recorded, L, M the cursors' lines and marks, F1 .. the first pouring's start, F0 .. the second's -/
theorem y_Q_ok {P L M X F0 U0 V0 F1 X1 U1 V1 B : Int → Int} {w h : Int} (hH : p_hd P) (hw0 : 4 ≤ w) (hw1 : w ≤ 20) (hh0 : 2 ≤ h) (hh1 : h ≤ 8) (h1 : F1 8 = w) (h08 : F0 8 = w) (h09 : F0 9 = y_base P w h) (h010 : F0 10 = 1)
    {L' M' : Int → Int} (hL : L' = y_mk P 2 L 4) (hM : M' = y_mk P 3 M 4) {F' X' U' V' B' : Int → Int} (hG : (F', X', U', V', B') = y_run P L' M' (F0, y_fr X 704, U0, V0, (y_run P L' M' (F1, X1, U1, V1, (y_bz B 4))).2.2.2.2))
    {F : Int → Int} (hf8 : F 8 = w) (hf9 : F 9 = y_base P w h) (hf10 : F 10 = 1) :
    g_pg P (y_land U' V' B' (y_top P w h) (y_pg w h (y_top P w h - y_base P w h) X' P) (P 7 + 1)) w h (-(y_base P w h)) (y_top P w h - y_base P w h) (y_bx P w (m_count P) F (y_fr X 704) (m_count P).toNat).2
    ∧ p_hd (y_land U' V' B' (y_top P w h) (y_pg w h (y_top P w h - y_base P w h) X' P) (P 7 + 1))
    ∧ p_out P (y_land U' V' B' (y_top P w h) (y_pg w h (y_top P w h - y_base P w h) X' P) (P 7 + 1)) := by
  obtain ⟨pw0, pw1, ph0, ph1, pf0, pf1, pf2, pr0, pr1, pc0, pc1, pp0, pp1, pk0, pk1, pi0, pi1, pkp, pP⟩ := id hH
  have hrow : (y_bx P w (m_count P) F (y_fr X 704) (m_count P).toNat).2 = X' := by
    have e := y_bx_run (W := w) (L := L') (M := M') (F0, y_fr X 704, U0, V0, (y_run P L' M' (F1, X1, U1, V1, (y_bz B 4))).2.2.2.2) hH
    rw [← hG] at e
    have e2 := (x_ag_bx (P := P) (W := w) (n := m_count P) (X := y_fr X 704) (F := F) (G := F0) (by rw [hf8, h08]) (by rw [hf9, h09]) (by rw [hf10, h010]) (m_count P).toNat).1
    rw [e2]
    exact (congrArg Prod.snd e).symm
  have hxb : x_b X' := by rw [← hrow]; exact x_b_bx pP (x_b_fr X) _
  have hrun : ∀ j, 0 ≤ j → j ≤ P 7 → U' j = g_U P w j ∧ V' j = g_V P w j ∧ B' j = g_B P w j := by
    intro j j0 j1
    have eL : L' j = m_cur P j 2 := by rw [hL]; unfold y_mk; rw [if_pos (by omega), if_pos j1]
    have eM : M' j = m_cur P j 3 := by rw [hM]; unfold y_mk; rw [if_pos (by omega), if_pos j1]
    have a1 := g_run hH j0 j1 eL eM (F1, X1, U1, V1, (y_bz B 4)) h1
    have a2 := g_run hH j0 j1 eL eM (F0, y_fr X 704, U0, V0, (y_run P L' M' (F1, X1, U1, V1, (y_bz B 4))).2.2.2.2) h08
    rw [← hG] at a2
    obtain ⟨b1, b2, b3⟩ := a2
    refine ⟨b1, b2, ?_⟩
    have b3 : B' j = if M' j < ((g_l P j).length : Int) then (y_run P L' M' (F1, X1, U1, V1, (y_bz B 4))).2.2.2.2 j else g_B P w j := b3
    rw [b3, a1.2.2]
    have eb : y_bz B 4 j = 0 := if_pos (by omega)
    have e3 : M' j = m_mark P (m_count P) (m_row P j) (m_pcol P j) := eM
    by_cases q : M' j < ((g_l P j).length : Int)
    · rw [if_pos q, if_pos q]
      show y_bz B 4 j = _
      rw [eb]; unfold g_B f_B; rw [if_neg (by omega)]
    · rw [if_neg q]
  have e7 : (y_pg w h (y_top P w h - y_base P w h) X' P) 7 = P 7 := by
    unfold y_pg
    rw [y_tk_k (by decide) (by decide), y_tk_k (by decide) (by decide), z_vn (by decide), z_vn (by decide), z_vn (by decide), z_vn (by decide), z_vn (by decide)]
  have eg : ∀ k, k < 15 → (y_pg w h (y_top P w h - y_base P w h) X' P) k = z_v (z_v (z_v (z_v (z_v P 0 w) 1 h) 2 0) 3 (h - 1)) 14 (y_top P w h - y_base P w h) k := by
    intro k hk
    unfold y_pg
    rw [y_tk_k (by decide) hk, y_tk_k (by decide) hk]
  have hmb : 0 ≤ y_top P w h - y_base P w h ∧ y_top P w h - y_base P w h ≤ 24 ∧ 0 ≤ y_base P w h ∧ 0 ≤ y_top P w h := by
    unfold y_base y_top; split <;> split <;> omega
  have htop : y_many P w ≤ y_top P w h + h := by unfold y_top; split <;> omega
  generalize hmany : y_many P w = many at htop
  generalize hbase : y_base P w h = base at hmb e7 eg ⊢
  generalize htp : y_top P w h = top at hmb htop e7 eg ⊢
  generalize hpg : y_pg w h (top - base) X' P = G at e7 eg ⊢
  generalize hQ : y_land U' V' B' top G (P 7 + 1) = Q
  have q_k : ∀ k, (k = 7 ∨ k < 4 ∨ 14 ≤ k) → Q k = G k := fun k hk => by rw [← hQ]; exact y_land_k hk (by omega) (by omega)
  have q0 : Q 0 = w := by rw [q_k 0 (by omega), eg 0 (by decide), z_vn (by decide), z_vn (by decide), z_vn (by decide), z_vn (by decide), z_vs]
  have q1 : Q 1 = h := by rw [q_k 1 (by omega), eg 1 (by decide), z_vn (by decide), z_vn (by decide), z_vn (by decide), z_vs]
  have q2 : Q 2 = 0 := by rw [q_k 2 (by omega), eg 2 (by decide), z_vn (by decide), z_vn (by decide), z_vs]
  have q3 : Q 3 = h - 1 := by rw [q_k 3 (by omega), eg 3 (by decide), z_vn (by decide), z_vs]
  have q7 : Q 7 = P 7 := by rw [q_k 7 (by omega), e7]
  have q14 : Q 14 = top - base := by rw [q_k 14 (by omega), eg 14 (by decide), z_vs]
  have glr : ∀ v, 0 ≤ v → v ≤ P 7 → y_lr U' top v = g_r P w (-base) (top - base) v ∧ y_lc U' V' top v = g_c P w (-base) (top - base) v := by
    intro v v0 v1
    obtain ⟨a, b, -⟩ := hrun v v0 v1
    unfold y_lr y_lc g_r g_c
    rw [a, b]
    constructor
    · split <;> split <;> omega
    · split <;> split <;> first | rfl | omega
  have grb : ∀ v, 0 ≤ v → v ≤ P 7 → 0 ≤ g_r P w (-base) (top - base) v ∧ g_r P w (-base) (top - base) v < h ∧ 0 ≤ g_c P w (-base) (top - base) v ∧ g_c P w (-base) (top - base) v < w := by
    intro v v0 v1
    have a := g_U_b (w := w) hH v0 v1
    have b := g_V_b hH hw0 v0 v1
    rw [hmany] at a
    unfold g_r g_c
    split <;> omega
  have q4 : Q 4 = g_r P w (-base) (top - base) 0 := by
    rw [← (glr 0 (by decide) pk0).1, ← hQ]; unfold y_land; rw [if_pos (by omega)]
  have q5 : Q 5 = g_c P w (-base) (top - base) 0 := by
    rw [← (glr 0 (by decide) pk0).2, ← hQ]; unfold y_land; rw [if_neg (by omega), if_pos (by omega)]
  have q6 : Q 6 = g_p P w (-base) (top - base) 0 := by
    obtain ⟨a, -, b⟩ := hrun 0 (by decide) pk0
    have hb : g_B P w 0 = 0 ∨ g_B P w 0 = 1 := f_B_b _ _ _
    rw [← hQ]; unfold y_land g_p
    rw [if_neg (by omega), if_neg (by omega), if_pos (by omega), a, b]
    split <;> split <;> omega
  have qk : ∀ j, 0 ≤ j → j < P 7 → Q (8 + 2 * j) = g_r P w (-base) (top - base) (P 7 - j) ∧ Q (8 + 2 * j + 1) = g_c P w (-base) (top - base) (P 7 - j) := by
    intro j j0 j1
    have g := glr (P 7 - j) (by omega) (by omega)
    rw [← g.1, ← g.2, ← hQ]
    unfold y_land
    rw [e7]
    constructor
    · rw [if_neg (by omega), if_neg (by omega), if_neg (by omega), if_pos (by omega), if_pos (by omega), show P 7 - (8 + 2 * j - 8) / 2 = P 7 - j by omega]
    · rw [if_neg (by omega), if_neg (by omega), if_neg (by omega), if_pos (by omega), if_neg (by omega), show P 7 - (8 + 2 * j + 1 - 8) / 2 = P 7 - j by omega]
  refine ⟨⟨⟨q0, q1, q2, q3, q7, q14⟩, ⟨q4, q5, q6⟩, qk, ?_⟩, ?_, ?_⟩
  · intro k c k0 k1 c0 c1
    rw [hrow]
    show Q (15 + 22 * m_slot Q k + c) = X' (22 * k + c)
    unfold m_slot
    rw [q14]
    by_cases q : k < top - base
    · rw [if_pos q, q_k _ (by omega), ← hpg]
      unfold y_pg
      generalize z_v (z_v (z_v (z_v (z_v P 0 w) 1 h) 2 0) 3 (h - 1)) 14 (top - base) = R
      unfold y_tk
      rw [if_neg (by omega), if_pos (by omega), if_pos (by omega)]
      congr 1; omega
    · rw [if_neg q, q_k _ (by omega), ← hpg]
      unfold y_pg
      generalize z_v (z_v (z_v (z_v (z_v P 0 w) 1 h) 2 0) 3 (h - 1)) 14 (top - base) = R
      unfold y_tk
      rw [if_pos (by omega), if_pos (by omega)]
      congr 1; omega
  · have g4 := grb 0 (by decide) pk0
    have g6 := g_p_b P w (-base) (top - base) 0
    refine ⟨by omega, by omega, by omega, by omega, by omega, by omega, by omega, by omega, by omega, by omega, by omega, by omega, by omega, by omega, by omega, by omega, by omega, fun j j0 j1 => ?_, fun k => ?_⟩
    · have a := qk j j0 (by omega)
      have b := grb (P 7 - j) (by omega) (by omega)
      omega
    · by_cases k4 : 4 ≤ k ∧ k < 14 ∧ k ≠ 7
      · by_cases a4 : k = 4
        · rw [a4, q4]; omega
        · by_cases a5 : k = 5
          · rw [a5, q5]; omega
          · by_cases a6 : k = 6
            · rw [a6, q6]; omega
            · by_cases a8 : k < 8 + 2 * P 7
              · have a := qk ((k - 8) / 2) (by omega) (by omega)
                have b := grb (P 7 - (k - 8) / 2) (by omega) (by omega)
                rcases (show k = 8 + 2 * ((k - 8) / 2) ∨ k = 8 + 2 * ((k - 8) / 2) + 1 by omega) with e | e
                · rw [e, a.1]; omega
                · rw [e, a.2]; omega
              · have e : Q k = P k := by
                  rw [← hQ]; unfold y_land
                  rw [if_neg (by omega), if_neg (by omega), if_neg (by omega), e7, if_neg (by omega), eg k (by omega)]
                  rw [z_vn (by omega), z_vn (by omega), z_vn (by omega), z_vn (by omega), z_vn (by omega)]
                rw [e]; exact pP k
      · rw [q_k k (by omega)]
        by_cases k15 : k < 15
        · rw [eg k k15]
          unfold z_v
          have := pP k
          split
          · omega
          · split
            · omega
            · split
              · omega
              · split
                · omega
                · split <;> omega
        · rw [← hpg]
          unfold y_pg
          have e : ∀ j, 15 ≤ j → z_v (z_v (z_v (z_v (z_v P 0 w) 1 h) 2 0) 3 (h - 1)) 14 (top - base) j = P j := fun j hj => by
            rw [z_vn (by omega), z_vn (by omega), z_vn (by omega), z_vn (by omega), z_vn (by omega)]
          have e := e k (by omega)
          generalize z_v (z_v (z_v (z_v (z_v P 0 w) 1 h) 2 0) 3 (h - 1)) 14 (top - base) = R at e
          have hbk := z_pr_blank ((k - 15) % 22)
          unfold y_tk
          split
          · split
            · exact hxb _ (by omega) (by omega)
            · exact hbk
          · split
            · split
              · exact hxb _ (by omega) (by omega)
              · exact hbk
            · rw [e]; exact pP k
  · rw [← hQ, ← hpg]; exact p_o_pour (by omega)
