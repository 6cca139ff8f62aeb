theorem x_yF {F : Int → Int} {a g5 g8 g10 i g8' g9' : Int} (h8 : F 8 = g5) (h12 : F 12 = g10) (hi : F 11 - F 9 = i + g8) (e8 : g8' = (if g5 < g10 + p_sz a then g8 + 1 else g8)) (e9 : g9' = (if g5 < g10 + p_sz a then 0 else g10)) : y_F a F 11 - y_F a F 9 = i + g8' ∧ y_F a F 12 = g9' := by
  rw [y_F_c a F (show (9 : Int) ≠ 11 by decide) (by decide)]
  unfold y_F
  rw [h8, h12]
  by_cases q : g5 < g10 + p_sz a
  · rw [if_pos q] at e8 e9 ⊢
    rw [z_vn (by decide), z_vs, z_vs]; omega
  · rw [if_neg q] at e8 e9 ⊢
    omega
