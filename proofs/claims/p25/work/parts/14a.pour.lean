/-! the cursors of a page (v = 0 the cursor, v > 0 a kept one) when it is poured into width w: row (of all poured ones), column, full -/
def g_st (P : Int → Int) (v : Int) : Int := m_lbeg P (m_count P) (m_lno P (m_count P) (P 14 + m_row P v))
def g_l (P : Int → Int) (v : Int) : List Int := m_line P (g_st P v) (m_lend P (m_count P) (g_st P v))
def g_U (P : Int → Int) (w v : Int) : Int := f_U w (y_bc P w (m_count P) (g_st P v).toNat).2 (m_mark P (m_count P) (m_row P v) (m_pcol P v)) (g_l P v)
def g_V (P : Int → Int) (w v : Int) : Int := f_V w (m_mark P (m_count P) (m_row P v) (m_pcol P v)) (g_l P v)
def g_B (P : Int → Int) (w v : Int) : Int := f_B w (m_mark P (m_count P) (m_row P v) (m_pcol P v)) (g_l P v)
def g_r (P : Int → Int) (w top hm v : Int) : Int := if top + g_U P w v < hm then 0 else top + g_U P w v - hm
def g_c (P : Int → Int) (w top hm v : Int) : Int := if top + g_U P w v < hm then 0 else g_V P w v
def g_p (P : Int → Int) (w top hm v : Int) : Int := if top + g_U P w v < hm then 0 else g_B P w v
theorem f_B_b (w mk : Int) (l : List Int) : f_B w mk l = 0 ∨ f_B w mk l = 1 := by unfold f_B; split <;> omega
theorem g_p_b (P : Int → Int) (w top hm v : Int) : g_p P w top hm v = 0 ∨ g_p P w top hm v = 1 := by
  unfold g_p
  split
  · exact Or.inl rfl
  · exact f_B_b _ _ _
/-- the page after the pouring, as the class has it -/
def g_pg (P Q : Int → Int) (w h top hm : Int) (X : Int → Int) : Prop := (Q 0 = w ∧ Q 1 = h ∧ Q 2 = 0 ∧ Q 3 = h - 1 ∧ Q 7 = P 7 ∧ Q 14 = hm) ∧ (Q 4 = g_r P w top hm 0 ∧ Q 5 = g_c P w top hm 0 ∧ Q 6 = g_p P w top hm 0)
  ∧ (∀ j, 0 ≤ j → j < P 7 → Q (8 + 2 * j) = g_r P w top hm (P 7 - j) ∧ Q (8 + 2 * j + 1) = g_c P w top hm (P 7 - j)) ∧ (∀ k c, 0 ≤ k → k < hm + h → 0 ≤ c → c < 22 → p_rows Q k c = x_row X k c)
theorem x_fr_row (X : Int → Int) {k c : Int} (k0 : 0 ≤ k) (k1 : k < 32) (c0 : 0 ≤ c) (c1 : c < 22) : x_row (y_fr X 704) k c = r_blank c := by
  unfold x_row y_fr
  rw [if_pos (by omega), show (22 * k + c) % 22 = c by omega, r_blank_x]
  by_cases q : c < 20
  · rw [if_pos q, if_neg (by omega)]
  · rw [if_neg q, if_pos (by omega)]
theorem x_fr_fresh (X : Int → Int) (i : Int) : x_fresh (y_fr X 704) i 0 :=
  ⟨fun k c k0 k1 k2 c0 c1 => x_fr_row X k1 k2 c0 c1, fun i0 i1 c _ c0 c1 => x_fr_row X i0 i1 c0 c1⟩
theorem m_pcol0 {P : Int → Int} : m_pcol P 0 = if P 6 = 1 then P 0 else P 5 := by
  unfold m_pcol m_col
  by_cases q : P 6 = 1
  · rw [if_pos ⟨rfl, q⟩, if_pos q]
  · rw [if_neg (fun x => q x.2), if_neg q, if_pos rfl]
theorem m_pcolk {P : Int → Int} {j : Int} (h : j < P 7) : m_pcol P (P 7 - j) = P (8 + 2 * j + 1) ∧ m_row P (P 7 - j) = P (8 + 2 * j) := by
  unfold m_pcol m_col m_row
  rw [if_neg (by omega), if_neg (by omega), if_neg (by omega), show P 7 - (P 7 - j) = j by omega]
  exact ⟨rfl, rfl⟩
/-- a row of the sheet that a kept cursor has, counts -/
theorem m_count_row {P : Int → Int} (h : p_hd P) : (P 14 + P 4 < m_count P) ∧ ∀ j, 0 ≤ j → j < P 7 → P 14 + P (8 + 2 * j) < m_count P := by
  have h0 := m_row_b (w := 0) h (Int.le_refl _) h.2.2.2.2.2.2.2.2.2.2.2.2.2.1
  have hc : m_count P = P 14 + m_last P + 1 := rfl
  refine ⟨?_, fun j j0 j1 => ?_⟩
  · have e : m_row P 0 = P 4 := if_pos rfl
    rw [e] at h0; omega
  · have hj := m_row_b (w := P 7 - j) h (by omega) (by omega)
    rw [(m_pcolk j1).2] at hj; omega
