/-! rows count at their 22 cells only -/
theorem c_rw_c {W : Int} {r r' F X : Int → Int} (h : c_rw W r F X) (hW : W ≤ 20) (e : ∀ c, 0 ≤ c → c < 22 → r' c = r c) : c_rw W r' F X := by
  obtain ⟨g1, g2, g3, g4⟩ := h
  exact ⟨fun c c0 c1 => by rw [e c c0 (by omega)]; exact g1 c c0 c1, g2, by rw [e 20 (by decide) (by decide)]; exact g3, by rw [e 21 (by decide) (by decide)]; exact g4⟩
theorem c_wf_c {W : Int} {r r' : Int → Int} (h : c_wf W r) (hW : W ≤ 20) (e : ∀ c, 0 ≤ c → c < 22 → r' c = r c) : c_wf W r' := by
  refine ⟨fun c c0 c1 => ?_, by rw [e 20 (by decide) (by decide)]; exact h.2.1, by rw [e 21 (by decide) (by decide)]; exact h.2.2⟩
  have w := h.1 c c0 c1
  rw [e c c0 (by omega)]
  rcases w with w | w
  · refine Or.inl ⟨w.1, w.2.1, fun k0 k1 => ?_⟩
    have w3 := w.2.2 k0 k1
    rw [e (c + 1) (by omega) (by omega)]; exact w3
  · refine Or.inr ⟨w.1, w.2.1, w.2.2.1, ?_⟩
    rw [e (c - 1) (by omega) (by omega)]; exact w.2.2.2
theorem z_Sr_e {E : z_E} {mi : z_Mi} {mr : z_Mr} {s : Nat} {sg : Int → Nat} {W n : Int} {R R' : Int → Int → Int} (hr : z_Sr E mi mr s sg W n R) (hW : W ≤ 20) (h : ∀ k, 0 ≤ k → k < n → ∀ c, 0 ≤ c → c < 22 → R' k c = R k c) : z_Sr E mi mr s sg W n R' :=
  ⟨hr.1, hr.2.1, fun k k0 k1 => ⟨c_rw_c (hr.2.2 k k0 k1).1 hW (h k k0 k1), c_wf_c (hr.2.2 k k0 k1).2 hW (h k k0 k1)⟩⟩
theorem p_rows_at (P : Int → Int) (k c : Int) : p_rows P k c = P (15 + 22 * m_slot P k + c) := rfl
/-- the page after a scroll that keeps the top row, cell by cell -/
theorem p_scr_a {P : Int → Int} (h2 : P 2 = 0) (h3 : 0 < P 3) (h14 : P 14 < 24) (h0 : 0 ≤ P 14) (s c : Int) (s0 : 0 ≤ s) (c0 : 0 ≤ c) (c1 : c < 22) :
    p_scroll P (15 + 22 * s + c) = if s = 24 + P 3 then r_blank c else if s = 24 + P 3 - 1 then r_unw (fun c => P (15 + 22 * (s + 1) + c)) c else if 24 ≤ s ∧ s < 24 + P 3 then P (15 + 22 * (s + 1) + c) else if s = P 14 then P (15 + 22 * 24 + c) else P (15 + 22 * s + c) := by
  have e1 : p_scr1 P = z_v (p_upd P (P 14) (p_row P 24)) 14 (P 14 + 1) := by unfold p_scr1 p_keep; rw [if_pos h2, if_neg (by omega)]
  unfold p_scroll p_scr2
  rw [e1, h2]
  unfold p_upd p_sh z_v p_row
  by_cases q1 : s = 24 + P 3
  · rw [if_pos (by omega), if_pos q1]; congr 1; omega
  · rw [if_neg (by omega), if_neg q1]
    by_cases q2 : s = 24 + P 3 - 1
    · rw [if_pos (by omega), if_pos q2]
      unfold r_unw
      by_cases q5 : c = 20 ∨ c = 21
      · rw [if_pos (by omega), if_pos q5]
      · rw [if_neg (by omega), if_neg q5]
        grind
    · rw [if_neg (by omega), if_neg q2]
      by_cases q3 : 24 ≤ s ∧ s < 24 + P 3
      · rw [if_pos (by omega), if_pos q3]; grind
      · rw [if_neg (by omega), if_neg q3]
        by_cases q4 : s = P 14
        · rw [if_pos q4]; grind
        · rw [if_neg q4]; grind
