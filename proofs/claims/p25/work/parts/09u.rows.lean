theorem r_unw_x (r : Int → Int) (c : Int) : r_unw r c = if c = 20 ∨ c = 21 then 0 else r c := rfl
theorem p_rows_c {P : Int → Int} (h2 : 0 < P 2) (h3 : P 2 < P 3) (h14 : P 14 ≤ 24) (h0 : 0 ≤ P 14) (k c : Int) (k0 : 0 ≤ k) (c0 : 0 ≤ c) (c1 : c < 22) :
    p_rows (p_scroll P) k c = (if k = P 14 + P 3 then r_blank else (fun k => if k = P 14 + P 3 then r_unw ((fun k => if k = P 14 + P 2 - 1 then r_unw (p_rows P k) else p_rows P k) k) else (fun k => if k = P 14 + P 2 - 1 then r_unw (p_rows P k) else p_rows P k) k) (cy_i (P 14 + P 2) (P 14 + P 3) k)) c := by
  have e14 : p_scroll P 14 = P 14 := p_scr_c_hd h2 h3 (by decide)
  have es : m_slot (p_scroll P) k = m_slot P k := by unfold m_slot; rw [e14]
  rw [p_rows_at, es]
  dsimp only
  by_cases q : k < P 14
  · have e : m_slot P k = k := by unfold m_slot; rw [if_pos q]
    have hc : cy_i (P 14 + P 2) (P 14 + P 3) k = k := by unfold cy_i; rw [if_neg (by omega), if_neg (by omega), if_neg (by omega)]
    rw [e, p_scr_c h2 h3 k c k0 c0 c1, if_neg (by omega), if_neg (by omega), if_neg (by omega), if_neg (by omega), if_neg (show ¬ k = P 14 + P 3 by omega), hc, if_neg (show ¬ k = P 14 + P 3 by omega), if_neg (show ¬ k = P 14 + P 2 - 1 by omega), p_rows_at, e]
  · have e : m_slot P k = 24 + k - P 14 := by unfold m_slot; rw [if_neg q]
    rw [e, p_scr_c h2 h3 _ c (by omega) c0 c1]
    by_cases q1 : k = P 14 + P 3
    · rw [if_pos (show 24 + k - P 14 = 24 + P 3 by omega), if_pos q1]
    · rw [if_neg (show ¬ 24 + k - P 14 = 24 + P 3 by omega), if_neg q1]
      by_cases q3 : P 14 + P 2 ≤ k ∧ k < P 14 + P 3
      · have hc : cy_i (P 14 + P 2) (P 14 + P 3) k = k + 1 := by unfold cy_i; rw [if_pos q3]
        have e2 : m_slot P (k + 1) = 24 + k - P 14 + 1 := by unfold m_slot; rw [if_neg (by omega)]; omega
        rw [hc]
        by_cases q2 : k + 1 = P 14 + P 3
        · rw [if_pos (show 24 + k - P 14 = 24 + P 3 - 1 by omega), if_pos q2, if_neg (show ¬ k + 1 = P 14 + P 2 - 1 by omega), r_unw_x, r_unw_x, p_rows_at, e2]
        · rw [if_neg (show ¬ 24 + k - P 14 = 24 + P 3 - 1 by omega), if_pos (show 24 + P 2 ≤ 24 + k - P 14 ∧ 24 + k - P 14 < 24 + P 3 by omega), if_neg q2, if_neg (show ¬ k + 1 = P 14 + P 2 - 1 by omega), p_rows_at, e2]
      · have hc : cy_i (P 14 + P 2) (P 14 + P 3) k = k := by unfold cy_i; rw [if_neg q3, if_neg (by omega), if_neg q1]
        rw [hc, if_neg (show ¬ 24 + k - P 14 = 24 + P 3 - 1 by omega), if_neg (show ¬ (24 + P 2 ≤ 24 + k - P 14 ∧ 24 + k - P 14 < 24 + P 3) by omega), if_neg q1]
        by_cases q4 : k = P 14 + P 2 - 1
        · rw [if_pos (show 24 + k - P 14 = 24 + P 2 - 1 by omega), if_pos q4, r_unw_x, r_unw_x, p_rows_at, e]
        · rw [if_neg (show ¬ 24 + k - P 14 = 24 + P 2 - 1 by omega), if_neg q4, p_rows_at, e]
