/-! the header: width 0, height 1, region 2 3, cursor 4 5 6, kept 7 and 8.., history 14; all numbers are small -/
def p_hd (P : Int → Int) : Prop := 4 ≤ P 0 ∧ P 0 ≤ 20 ∧ 2 ≤ P 1 ∧ P 1 ≤ 8 ∧ 0 ≤ P 2 ∧ P 2 < P 3 ∧ P 3 < P 1 ∧ 0 ≤ P 4 ∧ P 4 < P 1 ∧ 0 ≤ P 5 ∧ P 5 < P 0 ∧ 0 ≤ P 6 ∧ P 6 ≤ 1 ∧ 0 ≤ P 7 ∧ P 7 ≤ 3 ∧ 0 ≤ P 14 ∧ P 14 ≤ 24 ∧ (∀ j, 0 ≤ j → j < P 7 → P (8 + 2 * j) < P 1 ∧ P (8 + 2 * j + 1) < P 0) ∧ z_pr P
theorem p_hd_congr {P P' : Int → Int} (h : p_hd P) (he : ∀ k, 0 ≤ k → k < 15 → P' k = P k) (hr : z_pr P') : p_hd P' := by
  obtain ⟨hw0, hw1, hh0, hh1, hf0, hf1, hf2, hr0, hr1, hc0, hc1, hp0, hp1, hk0, hk1, hi0, hi1, hkp, hP⟩ := h
  unfold p_hd
  rw [he 0 (by decide) (by decide), he 1 (by decide) (by decide), he 2 (by decide) (by decide), he 3 (by decide) (by decide), he 4 (by decide) (by decide), he 5 (by decide) (by decide), he 6 (by decide) (by decide), he 7 (by decide) (by decide), he 14 (by decide) (by decide)]
  refine ⟨hw0, hw1, hh0, hh1, hf0, hf1, hf2, hr0, hr1, hc0, hc1, hp0, hp1, hk0, hk1, hi0, hi1, fun j h0 h1 => ?_, hr⟩
  rw [he _ (by omega) (by omega), he _ (by omega) (by omega)]
  exact hkp j h0 h1
theorem p_hd_upd {P r : Int → Int} {s : Int} (h : p_hd P) (hs : 0 ≤ s) (hr : z_pr r) : p_hd (p_upd P s r) :=
  p_hd_congr h (fun k _ hk => p_upd_hd _ _ (by omega)) (z_pr_up h.2.2.2.2.2.2.2.2.2.2.2.2.2.2.2.2.2.2 hr)
theorem p_hd_pr {P : Int → Int} (h : p_hd P) : z_pr P := h.2.2.2.2.2.2.2.2.2.2.2.2.2.2.2.2.2.2
theorem p_hd_sets {P : Int → Int} {row c v : Int} (h : p_hd P) (hr : 0 ≤ row) (h0 : 0 ≤ v) (h1 : v ≤ 255) : p_hd (p_sets P row c v) := p_hd_upd h (by omega) (z_pr_set (z_pr_row (p_hd_pr h) _) h0 h1)
theorem p_hd_frees {P : Int → Int} {row a b : Int} (h : p_hd P) (hr : 0 ≤ row) : p_hd (p_frees P row a b) := p_hd_upd h (by omega) (z_pr_free (z_pr_row (p_hd_pr h) _))
theorem p_hd_erases {P : Int → Int} {row a b : Int} (h : p_hd P) (hr : 0 ≤ row) : p_hd (p_erases P row a b) := p_hd_upd h (by omega) (z_pr_erase (z_pr_row (p_hd_pr h) _))
theorem p_hd_unw {P : Int → Int} {s : Int} (h : p_hd P) (hs : 0 ≤ s) : p_hd (p_upd P s (r_unw (p_row P s))) := p_hd_upd h hs (z_pr_unw (z_pr_row (p_hd_pr h) _))
theorem p_hd_ahead {P : Int → Int} {row : Int} (h : p_hd P) : p_hd (p_ahead P row) :=
  p_hd_congr h (fun k _ hk => p_ahead_hd hk) (z_pr_ahead (p_hd_pr h))
/-! scrolling -/
def p_sh (P : Int → Int) (a b : Int) : Int → Int := fun k => if 15 + 22 * a ≤ k ∧ k < 15 + 22 * b then P (k + 22) else P k
def p_keep (P : Int → Int) (s : Int) : Int → Int := if P 14 = 24 then z_v (p_upd (p_sh P 0 23) 23 (p_row P s)) 14 24 else z_v (p_upd P (P 14) (p_row P s)) 14 (P 14 + 1)
def p_scr1 (P : Int → Int) : Int → Int := if P 2 = 0 then p_keep P 24 else p_ahead P (P 2)
def p_scr2 (P Q : Int → Int) : Int → Int := p_upd (p_upd Q (24 + P 3 - 1) (r_unw (p_row Q (24 + P 3 - 1)))) (24 + P 3) r_blank
def p_scroll (P : Int → Int) : Int → Int := p_scr2 P (p_sh (p_scr1 P) (24 + P 2) (24 + P 3))
theorem z_pr_sh {P : Int → Int} {a b : Int} (h : z_pr P) : z_pr (p_sh P a b) := by
  intro k; unfold p_sh; split
  · exact h _
  · exact h _
theorem p_sh_hd {P : Int → Int} {a b k : Int} (ha : 0 ≤ a) (h : k < 15) : p_sh P a b k = P k := if_neg (by omega)
theorem p_keep_hd {P : Int → Int} {s k : Int} (hi : 0 ≤ P 14) (h : k < 14) : p_keep P s k = P k := by
  unfold p_keep
  split
  · rw [z_vn (by omega), p_upd_hd _ _ (by omega), p_sh_hd (by decide) (by omega)]
  · rw [z_vn (by omega), p_upd_hd _ _ (by omega)]
theorem p_keep_14 {P : Int → Int} {s : Int} : p_keep P s 14 = if P 14 = 24 then 24 else P 14 + 1 := by
  unfold p_keep
  split
  · rw [z_vs]
  · rw [z_vs]
theorem z_pr_keep {P : Int → Int} {s : Int} (h : z_pr P) (h14 : P 14 ≤ 24) : z_pr (p_keep P s) := by
  have := h 14
  unfold p_keep
  split
  · exact z_pr_v (z_pr_up (z_pr_sh h) (z_pr_row h _)) (by omega) (by omega)
  · exact z_pr_v (z_pr_up h (z_pr_row h _)) (by omega) (by omega)
theorem p_hd_14 {P P' : Int → Int} (h : p_hd P) (he : ∀ k, 0 ≤ k → k < 14 → P' k = P k) (h0 : 0 ≤ P' 14) (h1 : P' 14 ≤ 24) (hr : z_pr P') : p_hd P' := by
  obtain ⟨hw0, hw1, hh0, hh1, hf0, hf1, hf2, hr0, hr1, hc0, hc1, hp0, hp1, hk0, hk1, hi0, hi1, hkp, hP⟩ := h
  unfold p_hd
  rw [he 0 (by decide) (by decide), he 1 (by decide) (by decide), he 2 (by decide) (by decide), he 3 (by decide) (by decide), he 4 (by decide) (by decide), he 5 (by decide) (by decide), he 6 (by decide) (by decide), he 7 (by decide) (by decide)]
  refine ⟨hw0, hw1, hh0, hh1, hf0, hf1, hf2, hr0, hr1, hc0, hc1, hp0, hp1, hk0, hk1, h0, h1, fun j h0 h1 => ?_, hr⟩
  rw [he _ (by omega) (by omega), he _ (by omega) (by omega)]
  exact hkp j h0 h1
theorem p_hd_keep {P : Int → Int} {s : Int} (h : p_hd P) : p_hd (p_keep P s) := by
  obtain ⟨hw0, hw1, hh0, hh1, hf0, hf1, hf2, hr0, hr1, hc0, hc1, hp0, hp1, hk0, hk1, hi0, hi1, hkp, hP⟩ := id h
  refine p_hd_14 h (fun k _ hk => p_keep_hd hi0 hk) ?_ ?_ (z_pr_keep hP hi1)
  · rw [p_keep_14]; split <;> omega
  · rw [p_keep_14]; split <;> omega
theorem p_hd_scr1 {P : Int → Int} (h : p_hd P) : p_hd (p_scr1 P) := by
  unfold p_scr1
  split
  · exact p_hd_keep h
  · exact p_hd_ahead h
theorem p_scr1_hd {P : Int → Int} {k : Int} (h : p_hd P) (hk : k < 14) : p_scr1 P k = P k := by
  obtain ⟨hw0, hw1, hh0, hh1, hf0, hf1, hf2, hr0, hr1, hc0, hc1, hp0, hp1, hk0, hk1, hi0, hi1, hkp, hP⟩ := id h
  unfold p_scr1
  split
  · exact p_keep_hd hi0 hk
  · exact p_ahead_hd (by omega)
theorem p_hd_sh {P : Int → Int} {a b : Int} (h : p_hd P) (ha : 0 ≤ a) : p_hd (p_sh P a b) := p_hd_congr h (fun k _ hk => p_sh_hd ha hk) (z_pr_sh (p_hd_pr h))
theorem p_hd_scr2 {P Q : Int → Int} (h : p_hd Q) (h3 : 0 ≤ P 3) : p_hd (p_scr2 P Q) := p_hd_upd (p_hd_unw h (by omega)) (by omega) z_pr_blank
theorem p_scr2_hd {P Q : Int → Int} {k : Int} (h3 : 0 ≤ P 3) (hk : k < 15) : p_scr2 P Q k = Q k := by
  unfold p_scr2
  rw [p_upd_hd _ _ (by omega), p_upd_hd _ _ (by omega)]
theorem p_hd_scroll {P : Int → Int} (h : p_hd P) : p_hd (p_scroll P) := by
  obtain ⟨hw0, hw1, hh0, hh1, hf0, hf1, hf2, hr0, hr1, hc0, hc1, hp0, hp1, hk0, hk1, hi0, hi1, hkp, hP⟩ := id h
  exact p_hd_scr2 (p_hd_sh (p_hd_scr1 h) (by omega)) (by omega)
theorem p_scroll_hd {P : Int → Int} {k : Int} (h : p_hd P) (hk : k < 14) : p_scroll P k = P k := by
  obtain ⟨hw0, hw1, hh0, hh1, hf0, hf1, hf2, hr0, hr1, hc0, hc1, hp0, hp1, hk0, hk1, hi0, hi1, hkp, hP⟩ := id h
  unfold p_scroll
  rw [p_scr2_hd (by omega) (by omega), p_sh_hd (by omega) (by omega), p_scr1_hd h hk]
/-! a line feed; the cursor goes on -/
def p_fl (P : Int → Int) : Int → Int := if P 4 = P 3 then p_scroll P else if P 4 = P 1 - 1 then P else z_v P 4 (P 4 + 1)
/-- it scrolls, or the row changes -/
def b_fl (P : Int → Int) : Prop := P 4 = P 3 ∨ P 4 ≠ P 1 - 1
theorem p_hd_set {P : Int → Int} {i v : Int} (h : p_hd P) (hi : i = 4 ∧ 0 ≤ v ∧ v < P 1 ∨ i = 5 ∧ 0 ≤ v ∧ v < P 0 ∨ i = 6 ∧ 0 ≤ v ∧ v ≤ 1 ∨ 15 ≤ i ∧ 0 ≤ v ∧ v ≤ 255) : p_hd (z_v P i v) := by
  obtain ⟨hw0, hw1, hh0, hh1, hf0, hf1, hf2, hr0, hr1, hc0, hc1, hp0, hp1, hk0, hk1, hi0, hi1, hkp, hP⟩ := id h
  have hkp' : ∀ j, 0 ≤ j → j < P 7 → z_v P i v (8 + 2 * j) < P 1 ∧ z_v P i v (8 + 2 * j + 1) < P 0 := fun j h0 h1 => by
    rw [z_vn (by omega), z_vn (by omega)]; exact hkp j h0 h1
  have e0 : z_v P i v 0 = P 0 := z_vn (by omega)
  have e1 : z_v P i v 1 = P 1 := z_vn (by omega)
  have e2 : z_v P i v 2 = P 2 := z_vn (by omega)
  have e3 : z_v P i v 3 = P 3 := z_vn (by omega)
  have e7 : z_v P i v 7 = P 7 := z_vn (by omega)
  have e14 : z_v P i v 14 = P 14 := z_vn (by omega)
  have hq : z_pr (z_v P i v) := z_pr_v hP (by omega) (by omega)
  have h4 : 0 ≤ z_v P i v 4 ∧ z_v P i v 4 < P 1 := by unfold z_v; split <;> omega
  have h5 : 0 ≤ z_v P i v 5 ∧ z_v P i v 5 < P 0 := by unfold z_v; split <;> omega
  have h6 : 0 ≤ z_v P i v 6 ∧ z_v P i v 6 ≤ 1 := by unfold z_v; split <;> omega
  unfold p_hd
  rw [e0, e1, e2, e3, e7, e14]
  exact ⟨hw0, hw1, hh0, hh1, hf0, hf1, hf2, h4.1, h4.2, h5.1, h5.2, h6.1, h6.2, hk0, hk1, hi0, hi1, hkp', hq⟩
theorem p_hd_fl {P : Int → Int} (h : p_hd P) : p_hd (p_fl P) := by
  obtain ⟨hw0, hw1, hh0, hh1, hf0, hf1, hf2, hr0, hr1, hc0, hc1, hp0, hp1, hk0, hk1, hi0, hi1, hkp, hP⟩ := id h
  unfold p_fl
  split
  · exact p_hd_scroll h
  · split
    · exact h
    · exact p_hd_set h (by omega)
theorem p_fl_hd {P : Int → Int} {k : Int} (h : p_hd P) (hk : k < 14) (h4 : k ≠ 4) : p_fl P k = P k := by
  unfold p_fl
  split
  · exact p_scroll_hd h hk
  · split
    · rfl
    · exact z_vn h4
theorem p_fl_4 {P : Int → Int} (h : p_hd P) (hb : b_fl P) : 0 < p_fl P 4 := by
  obtain ⟨hw0, hw1, hh0, hh1, hf0, hf1, hf2, hr0, hr1, hc0, hc1, hp0, hp1, hk0, hk1, hi0, hi1, hkp, hP⟩ := id h
  unfold b_fl at hb
  unfold p_fl
  split
  · rw [p_scroll_hd h (by decide)]; omega
  · split
    · omega
    · rw [z_vs]; omega
def p_go1 (g : Int) (Q : Int → Int) : Int → Int := z_v (z_v Q (15 + 22 * (24 + Q 4 - 1) + 20) 1) (15 + 22 * (24 + Q 4 - 1) + 21) (if g = 1 then 1 else Q (15 + 22 * (24 + Q 4 - 1) + 21))

def p_go (g : Int) (P : Int → Int) : Int → Int := if P 4 = P 3 ∨ P 4 ≠ P 1 - 1 then p_go1 g (z_v (p_fl P) 5 0) else z_v (p_fl P) 5 0
theorem p_hd_go {P : Int → Int} {g : Int} (h : p_hd P) : p_hd (p_go g P) := by
  obtain ⟨hw0, hw1, hh0, hh1, hf0, hf1, hf2, hr0, hr1, hc0, hc1, hp0, hp1, hk0, hk1, hi0, hi1, hkp, hP⟩ := id h
  have h1 := p_hd_fl h
  have e0 : p_fl P 0 = P 0 := p_fl_hd h (by decide) (by decide)
  have h2 : p_hd (z_v (p_fl P) 5 0) := p_hd_set h1 (by omega)
  unfold p_go
  split
  · next hb =>
    have h4 : 0 < z_v (p_fl P) 5 0 4 := by rw [z_vn (by decide)]; exact p_fl_4 h hb
    generalize z_v (p_fl P) 5 0 = Q at h2 h4
    have hQ := p_hd_pr h2 (15 + 22 * (24 + Q 4 - 1) + 21)
    unfold p_go1
    refine p_hd_set (p_hd_set h2 (by omega)) ?_
    refine Or.inr (Or.inr (Or.inr ⟨by omega, ?_⟩))
    split <;> omega
  · exact h2
theorem p_go_hd {P : Int → Int} {g k : Int} (h : p_hd P) (hk : k < 14) (h4 : k ≠ 4) (h5 : k ≠ 5) : p_go g P k = P k := by
  have h1 := p_hd_fl h
  unfold p_go
  split
  · next hb =>
    have h6 := p_fl_4 h hb
    have h7 : z_v (p_fl P) 5 0 4 = p_fl P 4 := z_vn (by decide)
    unfold p_go1
    rw [h7, z_vn (by omega), z_vn (by omega), z_vn h5, p_fl_hd h hk h4]
  · rw [z_vn h5, p_fl_hd h hk h4]
theorem p_go_5 {P : Int → Int} {g : Int} (h : p_hd P) : p_go g P 5 = 0 := by
  unfold p_go
  split
  · next hb =>
    have h6 := p_fl_4 h hb
    have h7 : z_v (p_fl P) 5 0 4 = p_fl P 4 := z_vn (by decide)
    unfold p_go1
    rw [h7, z_vn (by omega), z_vn (by omega), z_vs]
  · rw [z_vs]
/-! writing -/
def p_w1 (P : Int → Int) : Int → Int := if P 6 = 1 then p_go 0 (z_v P 6 0) else P
def p_w2 (code : Int) (P : Int → Int) : Int → Int := if (65 ≤ code ∧ code ≤ 90) ∧ P 5 = P 0 - 1 then p_go 1 (p_erases P (P 4) (P 5) (P 5)) else P
def p_sz (code : Int) : Int := if 65 ≤ code ∧ code ≤ 90 then 2 else 1
def p_w3 (code : Int) (P : Int → Int) : Int → Int := p_sets (p_frees P (P 4) (P 5) (P 5 + p_sz code - 1)) (P 4) (P 5) code
def p_w4 (code : Int) (P Q : Int → Int) : Int → Int := if 65 ≤ code ∧ code ≤ 90 then p_sets Q (P 4) (P 5 + 1) (code + 128) else Q
def p_w5 (code : Int) (P Q : Int → Int) : Int → Int := z_v (z_v Q 5 (if P 5 + p_sz code < P 0 then P 5 + p_sz code else P 0 - 1)) 6 (if P 5 + p_sz code = P 0 then 1 else 0)
def p_w6 (code : Int) (P : Int → Int) : Int → Int := p_w5 code P (p_w4 code P (p_w3 code P))
def p_write (code : Int) (P : Int → Int) : Int → Int := p_w6 code (p_w2 code (p_w1 P))
theorem p_sh_0 (P : Int → Int) (a : Int) : p_sh P a a = P := by
  funext k; unfold p_sh; rw [if_neg (by omega)]
theorem p_sh_s {P P1 : Int → Int} {a b c : Int} (h1 : P1 = p_sh P a b) (h : a ≤ b) (hc : c = b + 1) : p_upd P1 b (p_row P1 c) = p_sh P a c := by
  subst h1; subst hc
  funext k; simp only [p_upd, p_row, p_sh]
  grind
