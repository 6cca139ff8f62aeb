theorem rows_scr {P : Int → Int} {row : Int} (r0 : 0 ≤ row) : p_rows P (P 14 + row) = p_row P (24 + row) := by
  unfold p_rows m_slot
  rw [if_neg (by omega), show 24 + (P 14 + row) - P 14 = 24 + row by omega]
theorem curA_3 {P : Int → Int} (h : P 7 = 3) : m_curA P (P 7 + 1) 0 = -1 := by unfold m_curA; rw [if_pos (by omega)]
theorem curA_lt {P : Int → Int} (h0 : 0 ≤ P 7) (h : P 7 < 3) : m_curA P (P 7 + 1) 0 = -9 := by unfold m_curA; rw [if_neg (by omega), if_neg (by omega)]
theorem cell_R {P : Int → Int} {r c : Int} (hH : p_hd P) : z_R (m_cellA P r c) := by
  have := p_hd_pr hH (15 + 22 * (24 + r) + c)
  unfold m_cellA
  split
  · exact ⟨by decide, by decide⟩
  · split
    · constructor <;> omega
    · constructor <;> omega
