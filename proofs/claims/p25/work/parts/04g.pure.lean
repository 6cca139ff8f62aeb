theorem p_esc_pos {kind W row r : Int} {P : Int → Int} (h : kind = 2 ∨ (kind = 0 ∧ row < r) ∨ (kind = 1 ∧ r < row)) : p_esc kind W row r P = p_erases P r 0 (W - 1) := if_pos h
theorem p_esc_neg {kind W row r : Int} {P : Int → Int} (h : ¬ (kind = 2 ∨ (kind = 0 ∧ row < r) ∨ (kind = 1 ∧ r < row))) : p_esc kind W row r P = P := if_neg h
