theorem p_scr_a_hd {P : Int → Int} (h2 : P 2 = 0) (h14 : P 14 < 24) (h3 : 0 < P 3) (h0 : 0 ≤ P 14) {k : Int} (hk : k < 15) : p_scroll P k = if k = 14 then P 14 + 1 else P k := by
  have e1 : p_scr1 P = z_v (p_upd P (P 14) (p_row P 24)) 14 (P 14 + 1) := by unfold p_scr1 p_keep; rw [if_pos h2, if_neg (by omega)]
  unfold p_scroll p_scr2
  rw [e1, h2]
  unfold p_upd p_sh z_v
  rw [if_neg (by omega), if_neg (by omega), if_neg (by omega)]
  by_cases q : k = 14
  · rw [if_pos q, if_pos q]
  · rw [if_neg q, if_neg q]; exact if_neg (by omega)
/-- the rows after a scroll that keeps the top row, as the class moves them -/
theorem p_rows_a {P : Int → Int} (h2 : P 2 = 0) (h3 : 0 < P 3) (h31 : P 3 < P 1) (h14 : P 14 < 24) (h0 : 0 ≤ P 14) (k c : Int) (k0 : 0 ≤ k) (k1 : k < P 14 + 1 + P 1) (c0 : 0 ≤ c) (c1 : c < 22) :
    p_rows (p_scroll P) k c = (if k = P 14 + P 3 + 1 then r_blank else (fun k => if k = P 14 + P 3 then r_unw (p_rows P k) else p_rows P k) (cy_i (P 14 + P 1) (P 14 + P 3 + 1) k)) c := by
  have e14 : p_scroll P 14 = P 14 + 1 := (p_scr_a_hd h2 h14 h3 h0 (by decide)).trans (if_pos rfl)
  have hc : cy_i (P 14 + P 1) (P 14 + P 3 + 1) k = if P 14 + P 3 + 1 < k then k - 1 else if k = P 14 + P 3 + 1 then P 14 + P 1 else k := by
    unfold cy_i
    by_cases q : P 14 + P 3 + 1 < k
    · rw [if_neg (by omega), if_pos (by omega), if_pos q]
    · rw [if_neg (by omega), if_neg (by omega), if_neg q]
  have hc1 : ¬ P 14 + P 3 + 1 < k → k ≠ P 14 + P 3 + 1 → cy_i (P 14 + P 1) (P 14 + P 3 + 1) k = k := fun x y => by rw [hc, if_neg x, if_neg y]
  have hc2 : P 14 + P 3 + 1 < k → cy_i (P 14 + P 1) (P 14 + P 3 + 1) k = k - 1 := fun x => by rw [hc, if_pos x]
  rw [p_rows_at]
  dsimp only
  have es : m_slot (p_scroll P) k = if k < P 14 + 1 then k else 24 + k - (P 14 + 1) := by unfold m_slot; rw [e14]
  rw [es]
  by_cases q : k < P 14 + 1
  · rw [if_pos q, p_scr_a h2 h3 h14 h0 k c k0 c0 c1, if_neg (by omega), if_neg (by omega), if_neg (by omega), if_neg (show ¬ k = P 14 + P 3 + 1 by omega), hc1 (by omega) (by omega), if_neg (show ¬ k = P 14 + P 3 by omega), p_rows_at]
    by_cases q2 : k = P 14
    · have e : m_slot P k = 24 := by unfold m_slot; rw [if_neg (by omega)]; omega
      rw [if_pos q2, e]
    · have e : m_slot P k = k := by unfold m_slot; rw [if_pos (by omega)]
      rw [if_neg q2, e]
  · rw [if_neg q, p_scr_a h2 h3 h14 h0 _ c (by omega) c0 c1]
    by_cases q1 : k = P 14 + P 3 + 1
    · rw [if_pos (show 24 + k - (P 14 + 1) = 24 + P 3 by omega), if_pos q1]
    · rw [if_neg (show ¬ 24 + k - (P 14 + 1) = 24 + P 3 by omega), if_neg q1]
      by_cases q2 : P 14 + P 3 + 1 < k
      · have e : m_slot P (k - 1) = 24 + k - (P 14 + 1) := by unfold m_slot; rw [if_neg (by omega)]; omega
        rw [hc2 q2, if_neg (by omega), if_neg (by omega), if_neg (by omega), if_neg (show ¬ k - 1 = P 14 + P 3 by omega), p_rows_at, e]
      · have e : m_slot P k = 24 + k - (P 14 + 1) + 1 := by unfold m_slot; rw [if_neg (by omega)]; omega
        rw [hc1 q2 q1]
        by_cases q3 : k = P 14 + P 3
        · rw [if_pos (show 24 + k - (P 14 + 1) = 24 + P 3 - 1 by omega), if_pos q3]
          show r_unw _ c = r_unw (p_row P (m_slot P k)) c
          rw [e]; rfl
        · rw [if_neg (show ¬ 24 + k - (P 14 + 1) = 24 + P 3 - 1 by omega), if_pos (by omega), if_neg q3, p_rows_at, e]
