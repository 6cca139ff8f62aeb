/-- the page after a scroll that keeps the top row, the history full -/
theorem p_scr_b {P : Int → Int} (h2 : P 2 = 0) (h3 : 0 < P 3) (h14 : P 14 = 24) (s c : Int) (s0 : 0 ≤ s) (c0 : 0 ≤ c) (c1 : c < 22) :
    p_scroll P (15 + 22 * s + c) = if s = 24 + P 3 then r_blank c else if s = 24 + P 3 - 1 then r_unw (fun c => P (15 + 22 * (s + 1) + c)) c else if s < 24 + P 3 then P (15 + 22 * (s + 1) + c) else P (15 + 22 * s + c) := by
  have e1 : p_scr1 P = z_v (p_upd (p_sh P 0 23) 23 (p_row P 24)) 14 24 := by unfold p_scr1 p_keep; rw [if_pos h2, if_pos h14]
  unfold p_scroll p_scr2
  rw [e1, h2]
  unfold p_upd p_sh z_v p_row
  by_cases q1 : s = 24 + P 3
  · rw [if_pos (by omega), if_pos q1]; congr 1; omega
  · rw [if_neg (by omega), if_neg q1]
    by_cases q2 : s = 24 + P 3 - 1
    · rw [if_pos (by omega), if_pos q2]
      unfold r_unw
      by_cases q5 : c = 20 ∨ c = 21
      · rw [if_pos (by omega), if_pos q5]
      · rw [if_neg (by omega), if_neg q5]
        grind
    · rw [if_neg (by omega), if_neg q2]
      by_cases q3 : s < 24 + P 3
      · rw [if_pos q3]; grind
      · rw [if_neg q3]; grind
theorem p_scr_b_hd {P : Int → Int} (h2 : P 2 = 0) (h14 : P 14 = 24) (h3 : 0 < P 3) {k : Int} (hk : k < 15) : p_scroll P k = P k := by
  have e1 : p_scr1 P = z_v (p_upd (p_sh P 0 23) 23 (p_row P 24)) 14 24 := by unfold p_scr1 p_keep; rw [if_pos h2, if_pos h14]
  unfold p_scroll p_scr2
  rw [e1, h2]
  unfold p_upd p_sh z_v
  rw [if_neg (by omega), if_neg (by omega), if_neg (by omega)]
  by_cases q : k = 14
  · rw [if_pos q, q, h14]
  · rw [if_neg q]; dsimp only; rw [if_neg (by omega), if_neg (by omega)]
theorem p_rows_b {P : Int → Int} (h2 : P 2 = 0) (h3 : 0 < P 3) (h14 : P 14 = 24) (k c : Int) (k0 : 0 ≤ k) (c0 : 0 ≤ c) (c1 : c < 22) :
    p_rows (p_scroll P) k c = (if k = P 14 + P 3 then r_blank else (fun k => if k = P 14 + P 3 then r_unw (p_rows P k) else p_rows P k) (cy_i 0 (P 14 + P 3) k)) c := by
  have e14 : p_scroll P 14 = 24 := (p_scr_b_hd h2 h14 h3 (by decide)).trans h14
  have es : ∀ Q : Int → Int, Q 14 = 24 → ∀ k, m_slot Q k = k := by
    intro Q hQ k; unfold m_slot; rw [hQ]; split <;> omega
  rw [p_rows_at, es _ e14, p_scr_b h2 h3 h14 k c k0 c0 c1, h14]
  dsimp only
  by_cases q1 : k = 24 + P 3
  · rw [if_pos q1, if_pos q1]
  · rw [if_neg q1, if_neg q1]
    by_cases q3 : k < 24 + P 3
    · have hc : cy_i 0 (24 + P 3) k = k + 1 := by unfold cy_i; rw [if_pos (by omega)]
      rw [hc]
      by_cases q2 : k = 24 + P 3 - 1
      · rw [if_pos q2, if_pos (show k + 1 = 24 + P 3 by omega)]
        show r_unw _ c = r_unw (p_row P (m_slot P (k + 1))) c
        rw [es _ h14]; rfl
      · rw [if_neg q2, if_pos q3, if_neg (show ¬ k + 1 = 24 + P 3 by omega), p_rows_at, es _ h14]
    · have hc : cy_i 0 (24 + P 3) k = k := by unfold cy_i; rw [if_neg (by omega), if_neg (by omega), if_neg q1]
      rw [hc, if_neg (by omega), if_neg q3, if_neg q1, p_rows_at, es _ h14]
