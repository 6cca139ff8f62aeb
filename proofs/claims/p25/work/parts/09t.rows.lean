/-- the page after a scroll of a region that does not begin at the top -/
theorem p_scr_c {P : Int → Int} (h2 : 0 < P 2) (h3 : P 2 < P 3) (s c : Int) (s0 : 0 ≤ s) (c0 : 0 ≤ c) (c1 : c < 22) :
    p_scroll P (15 + 22 * s + c) = if s = 24 + P 3 then r_blank c else if s = 24 + P 3 - 1 then r_unw (fun c => P (15 + 22 * (s + 1) + c)) c else if 24 + P 2 ≤ s ∧ s < 24 + P 3 then P (15 + 22 * (s + 1) + c) else if s = 24 + P 2 - 1 then r_unw (fun c => P (15 + 22 * s + c)) c else P (15 + 22 * s + c) := by
  have e1 : p_scr1 P = p_upd P (24 + P 2 - 1) (r_unw (p_row P (24 + P 2 - 1))) := by unfold p_scr1 p_ahead; rw [if_neg (by omega), if_pos h2]
  unfold p_scroll p_scr2
  rw [e1]
  unfold p_upd p_sh p_row r_unw
  by_cases q1 : s = 24 + P 3
  · rw [if_pos (by omega), if_pos q1]; congr 1; omega
  · rw [if_neg (by omega), if_neg q1]
    by_cases q2 : s = 24 + P 3 - 1
    · rw [if_pos (by omega), if_pos q2]
      by_cases q5 : c = 20 ∨ c = 21
      · rw [if_pos (by omega), if_pos q5]
      · rw [if_neg (by omega), if_neg q5]
        grind
    · rw [if_neg (by omega), if_neg q2]
      by_cases q3 : 24 + P 2 ≤ s ∧ s < 24 + P 3
      · rw [if_pos (by omega), if_pos q3]; grind
      · rw [if_neg (by omega), if_neg q3]
        by_cases q4 : s = 24 + P 2 - 1
        · rw [if_pos q4]; grind
        · rw [if_neg q4]; grind
theorem p_scr_c_hd {P : Int → Int} (h2 : 0 < P 2) (h3 : P 2 < P 3) {k : Int} (hk : k < 15) : p_scroll P k = P k := by
  have e1 : p_scr1 P = p_upd P (24 + P 2 - 1) (r_unw (p_row P (24 + P 2 - 1))) := by unfold p_scr1 p_ahead; rw [if_neg (by omega), if_pos h2]
  unfold p_scroll p_scr2
  rw [e1]
  unfold p_upd p_sh
  rw [if_neg (by omega), if_neg (by omega), if_neg (by omega)]
  dsimp only
  rw [if_neg (by omega)]
