theorem z_pr_row {P : Int → Int} (h : z_pr P) (s : Int) : z_pr (p_row P s) := fun c => h _
theorem z_pr_up {P : Int → Int} {s : Int} {r : Int → Int} (h : z_pr P) (hr : z_pr r) : z_pr (p_upd P s r) := z_pr_upd h (fun c _ _ => hr c)
theorem z_pr_set {W c v : Int} {r : Int → Int} (h : z_pr r) (h0 : 0 ≤ v) (h1 : v ≤ 255) : z_pr (r_set W c v r) := by
  intro j; unfold r_set
  have := h j
  split
  · exact ⟨h0, h1⟩
  · split <;> omega
theorem z_pr_unw {r : Int → Int} (h : z_pr r) : z_pr (r_unw r) := by
  intro j; unfold r_unw
  have := h j
  split <;> omega
theorem z_pr_blank : z_pr r_blank := by
  intro j; unfold r_blank
  split <;> omega
theorem z_pr_fill {W a b : Int} {r : Int → Int} (h : z_pr r) : z_pr (r_fill W a b r) := by
  intro j; unfold r_fill
  have := h j
  split
  · omega
  · split <;> omega
theorem z_pr_free1 {W a : Int} {r : Int → Int} (h : z_pr r) : z_pr (r_free1 W a r) := by
  unfold r_free1
  split
  · exact z_pr_set h (by decide) (by decide)
  · exact h
theorem z_pr_free2 {W a : Int} {r : Int → Int} (h : z_pr r) : z_pr (r_free2 W a r) := by
  unfold r_free2
  split
  · exact z_pr_set h (by decide) (by decide)
  · exact h
theorem z_pr_free {W a b : Int} {r : Int → Int} (h : z_pr r) : z_pr (r_free W a b r) := z_pr_free2 (z_pr_free1 h)
theorem z_pr_erase {W a b : Int} {r : Int → Int} (h : z_pr r) : z_pr (r_erase W a b r) := z_pr_fill (z_pr_free h)
theorem z_pr_psets {P : Int → Int} {row c v : Int} (h : z_pr P) (h0 : 0 ≤ v) (h1 : v ≤ 255) : z_pr (p_sets P row c v) := z_pr_up h (z_pr_set (z_pr_row h _) h0 h1)
theorem z_pr_frees {P : Int → Int} {row a b : Int} (h : z_pr P) : z_pr (p_frees P row a b) := z_pr_up h (z_pr_free (z_pr_row h _))
theorem z_pr_erases {P : Int → Int} {row a b : Int} (h : z_pr P) : z_pr (p_erases P row a b) := z_pr_up h (z_pr_erase (z_pr_row h _))
theorem z_pr_ahead {P : Int → Int} {row : Int} (h : z_pr P) : z_pr (p_ahead P row) := by
  unfold p_ahead
  split
  · exact z_pr_up h (z_pr_unw (z_pr_row h _))
  · split
    · exact z_pr_up h (z_pr_unw (z_pr_row h _))
    · exact h
/-! the header stays -/
theorem p_sets_hd {P : Int → Int} {row c v k : Int} (h : k < 15) (hr : 0 ≤ row) : p_sets P row c v k = P k := p_upd_hd _ _ (by omega)
theorem p_frees_hd {P : Int → Int} {row a b k : Int} (h : k < 15) (hr : 0 ≤ row) : p_frees P row a b k = P k := p_upd_hd _ _ (by omega)
theorem p_erases_hd {P : Int → Int} {row a b k : Int} (h : k < 15) (hr : 0 ≤ row) : p_erases P row a b k = P k := p_upd_hd _ _ (by omega)
theorem p_ahead_hd {P : Int → Int} {row k : Int} (h : k < 15) : p_ahead P row k = P k := by
  unfold p_ahead
  split
  · exact p_upd_hd _ _ (by omega)
  · split
    · exact p_upd_hd _ _ (by omega)
    · rfl
/-! steps put together -/
theorem p_free1_no {P : Int → Int} {W s a : Int} (h : a ≤ 0 ∨ ¬ 128 ≤ P (15 + 22 * s + a)) : P = p_upd P s (r_free1 W a (p_row P s)) := by
  unfold r_free1
  rw [if_neg, p_upd_self]
  rintro ⟨h1, h2⟩
  rcases h with h | h
  · omega
  · exact h h2
theorem p_free1_do {P : Int → Int} {W s a : Int} (h0 : 0 < a) (h1 : 128 ≤ P (15 + 22 * s + a)) : p_upd P s (r_set W (a - 1) 32 (p_row P s)) = p_upd P s (r_free1 W a (p_row P s)) := by
  unfold r_free1
  rw [if_pos ⟨h0, h1⟩]
theorem p_free2_no {P P1 : Int → Int} {W s b : Int} {r1 : Int → Int} (hj : P1 = p_upd P s r1) (h0 : 0 ≤ b) (h22 : b < 22) (h : ¬ b + 1 < W ∨ ¬ (65 ≤ P1 (15 + 22 * s + b) ∧ P1 (15 + 22 * s + b) ≤ 90)) : P1 = p_upd P s (r_free2 W b r1) := by
  have e : P1 (15 + 22 * s + b) = r1 b := by rw [hj]; exact p_row_upd P s r1 h0 h22
  rw [e] at h
  unfold r_free2
  rw [if_neg, hj]
  rintro ⟨h1, h2⟩
  rcases h with h | h
  · exact h h1
  · exact h h2
theorem p_set_on {P P1 : Int → Int} {W s c v : Int} {r1 : Int → Int} (hj : P1 = p_upd P s r1) : p_upd P1 s (r_set W c v (p_row P1 s)) = p_upd P s (r_set W c v r1) := by
  rw [hj, p_upd_upd]
  refine p_upd_ext (fun j h0 h1 => ?_)
  unfold r_set
  rw [p_row_upd _ _ _ h0 h1]
theorem p_free2_do {P P1 : Int → Int} {W s b : Int} {r1 : Int → Int} (hj : P1 = p_upd P s r1) (h0 : 0 ≤ b) (h22 : b < 22) (h1 : b + 1 < W) (h2 : 65 ≤ P1 (15 + 22 * s + b) ∧ P1 (15 + 22 * s + b) ≤ 90) : p_upd P1 s (r_set W (b + 1) 32 (p_row P1 s)) = p_upd P s (r_free2 W b r1) := by
  have e : P1 (15 + 22 * s + b) = r1 b := by rw [hj]; exact p_row_upd P s r1 h0 h22
  rw [e] at h2
  unfold r_free2
  rw [if_pos ⟨h1, h2⟩]
  exact p_set_on hj
theorem r_fill_0 {W a : Int} {r : Int → Int} (c : Int) : r_fill W a (a - 1) r c = r c := by
  unfold r_fill
  rw [if_neg (by omega), if_neg (by omega)]
theorem r_fill_s {W a c : Int} {r : Int → Int} (h : a ≤ c) (h0 : 0 ≤ a) (h1 : c < 20) (hW : W ≤ 20) (j : Int) : r_set W c 32 (r_fill W a (c - 1) r) j = r_fill W a c r j := by
  unfold r_fill r_set
  grind
