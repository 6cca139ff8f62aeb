/-! THE PAGE'S OWN RULES: a gap is behind a blank last cell, and has a wrap; the last row of the screen has no wrap -/
def gg_r (W : Int) (r : Int → Int) : Prop := r 21 = 1 → r 20 = 1 ∧ r (W - 1) = 32
def gg_in (P : Int → Int) (s : Int) : Prop := (0 ≤ s ∧ s < P 14) ∨ (24 ≤ s ∧ s < 24 + P 1)
def p_G (P : Int → Int) : Prop := (∀ s, gg_in P s → gg_r (P 0) (p_row P s)) ∧ p_row P (24 + P 1 - 1) 20 = 0
section ZG
variable {W c v a b m : Int} {r r' : Int → Int}
theorem gg_c (h : gg_r W r) (h20 : r' 20 = r 20) (h21 : r' 21 = r 21) (hw : r' (W - 1) = r (W - 1)) : gg_r W r' := by
  unfold gg_r; rw [h20, h21, hw]; exact h
theorem gg_c22 (h : gg_r W r) (hW : 1 ≤ W ∧ W ≤ 20) (he : ∀ c, 0 ≤ c → c < 22 → r' c = r c) : gg_r W r' := gg_c h (he 20 (by decide) (by decide)) (he 21 (by decide) (by decide)) (he _ (by omega) (by omega))
theorem gg_0 (h : r 21 = 0) : gg_r W r := fun h1 => by rw [h] at h1; exact absurd h1 (by decide)
theorem r_set_hi {j : Int} (hj : j = 20 ∨ j = 21) (hc : c < 20) : r_set W c v r j = if c = W - 1 then 0 else r j := by
  unfold r_set
  rw [if_neg (show ¬ j = c by omega)]
  by_cases q : c = W - 1
  · rw [if_pos ⟨hj, q⟩, if_pos q]
  · rw [if_neg (fun x => q x.2), if_neg q]
theorem r_fill_hi {j : Int} (hj : j = 20 ∨ j = 21) (hb : b < 20) : r_fill W a b r j = if a ≤ W - 1 ∧ W - 1 ≤ b then 0 else r j := by
  unfold r_fill
  rw [if_neg (show ¬ (a ≤ j ∧ j ≤ b) by omega)]
  by_cases q : a ≤ W - 1 ∧ W - 1 ≤ b
  · rw [if_pos ⟨hj, q⟩, if_pos q]
  · rw [if_neg (fun x => q x.2), if_neg q]
theorem gg_set (h : gg_r W r) (hW : 1 ≤ W ∧ W ≤ 20) (hc : c < 20) : gg_r W (r_set W c v r) ∧ (r 20 = 0 → r_set W c v r 20 = 0) := by
  have e1 := r_set_hi (W := W) (v := v) (r := r) (j := 20) (Or.inl rfl) hc
  have e2 := r_set_hi (W := W) (v := v) (r := r) (j := 21) (Or.inr rfl) hc
  by_cases q : c = W - 1
  · rw [if_pos q] at e1 e2
    exact ⟨gg_0 e2, fun _ => e1⟩
  · rw [if_neg q] at e1 e2
    have e3 : r_set W c v r (W - 1) = r (W - 1) := by
      unfold r_set
      rw [if_neg (show ¬ W - 1 = c by omega), if_neg (fun x => q x.2)]
    exact ⟨gg_c h e1 e2 e3, fun x => e1.trans x⟩
theorem gg_fill (h : gg_r W r) (hW : 1 ≤ W ∧ W ≤ 20) (hb : b < 20) : gg_r W (r_fill W a b r) ∧ (r 20 = 0 → r_fill W a b r 20 = 0) := by
  have e1 := r_fill_hi (W := W) (a := a) (r := r) (j := 20) (Or.inl rfl) hb
  have e2 := r_fill_hi (W := W) (a := a) (r := r) (j := 21) (Or.inr rfl) hb
  by_cases q : a ≤ W - 1 ∧ W - 1 ≤ b
  · rw [if_pos q] at e1 e2
    exact ⟨gg_0 e2, fun _ => e1⟩
  · rw [if_neg q] at e1 e2
    have e3 : r_fill W a b r (W - 1) = r (W - 1) := by
      unfold r_fill
      rw [if_neg q, if_neg (fun x => q x.2)]
    exact ⟨gg_c h e1 e2 e3, fun x => e1.trans x⟩
theorem gg_free1 (h : gg_r W r) (hW : 1 ≤ W ∧ W ≤ 20) (ha : a ≤ 20) : gg_r W (r_free1 W a r) ∧ (r 20 = 0 → r_free1 W a r 20 = 0) := by
  unfold r_free1; split
  · exact gg_set h hW (by omega)
  · exact ⟨h, fun x => x⟩
theorem gg_free2 (h : gg_r W r) (hW : 1 ≤ W ∧ W ≤ 20) : gg_r W (r_free2 W b r) ∧ (r 20 = 0 → r_free2 W b r 20 = 0) := by
  unfold r_free2; split
  · exact gg_set h hW (by omega)
  · exact ⟨h, fun x => x⟩
theorem gg_free (h : gg_r W r) (hW : 1 ≤ W ∧ W ≤ 20) (ha : a ≤ 20) : gg_r W (r_free W a b r) ∧ (r 20 = 0 → r_free W a b r 20 = 0) := by
  have h1 := gg_free1 h hW ha
  have h2 := gg_free2 (b := b) h1.1 hW
  exact ⟨h2.1, fun x => h2.2 (h1.2 x)⟩
theorem gg_erase (h : gg_r W r) (hW : 1 ≤ W ∧ W ≤ 20) (ha : a ≤ 20) (hb : b < 20) : gg_r W (r_erase W a b r) ∧ (r 20 = 0 → r_erase W a b r 20 = 0) := by
  have h1 := gg_free (b := b) h hW ha
  have h2 := gg_fill (a := a) h1.1 hW hb
  exact ⟨h2.1, fun x => h2.2 (h1.2 x)⟩
theorem r_unw_20 : r_unw r 20 = 0 := rfl
theorem r_unw_21 : r_unw r 21 = 0 := rfl
theorem gg_unw : gg_r W (r_unw r) := gg_0 rfl
theorem gg_blank : gg_r W r_blank := gg_0 rfl
end ZG
section ZGP
variable {P Q : Int → Int} {s k v a b n code kind row : Int} {r : Int → Int}
theorem p_hd_W (h : p_hd P) : 1 ≤ P 0 ∧ P 0 ≤ 20 := ⟨by have := h.1; omega, h.2.1⟩
theorem gg_in_b (h : p_hd P) (hs : gg_in P s) : 0 ≤ s ∧ s < 32 := by
  obtain ⟨hw0, hw1, hh0, hh1, hf0, hf1, hf2, hr0, hr1, hc0, hc1, hp0, hp1, hk0, hk1, hi0, hi1, hkp, hP⟩ := h
  unfold gg_in at hs; omega
theorem gg_ag (hH : p_hd P) (h : p_G P) (e : ∀ k, 0 ≤ k → k < 719 → Q k = P k) : p_G Q := by
  have hW := p_hd_W hH
  have e0 := e 0 (by decide) (by decide)
  have e1 := e 1 (by decide) (by decide)
  have e14 := e 14 (by decide) (by decide)
  have h1 := hH.2.2.2.1
  have h2 := hH.2.2.1
  refine ⟨fun s hs => ?_, ?_⟩
  · have hs : gg_in P s := by unfold gg_in at *; rw [e1, e14] at hs; exact hs
    have hb := gg_in_b hH hs
    rw [e0]
    exact gg_c22 (h.1 s hs) hW (fun c c0 c1 => e _ (by omega) (by omega))
  · rw [e1]
    exact (e _ (by omega) (by omega)).trans h.2
theorem gg_upd (hH : p_hd P) (h : p_G P) (hs : 0 ≤ s) (hr : gg_r (P 0) r) (hl : s = 24 + P 1 - 1 → r 20 = 0) : p_G (p_upd P s r) := by
  have hW := p_hd_W hH
  have e0 : p_upd P s r 0 = P 0 := p_upd_hd _ _ (by omega)
  have e1 : p_upd P s r 1 = P 1 := p_upd_hd _ _ (by omega)
  have e14 : p_upd P s r 14 = P 14 := p_upd_hd _ _ (by omega)
  refine ⟨fun t ht => ?_, ?_⟩
  · have ht : gg_in P t := by unfold gg_in at *; rw [e1, e14] at ht; exact ht
    rw [e0]
    by_cases q : s = t
    · subst q
      exact gg_c22 hr hW (fun c c0 c1 => p_row_upd _ _ _ c0 c1)
    · exact gg_c22 (h.1 t ht) hW (fun c c0 c1 => p_row_ne _ _ c0 c1 q)
  · rw [e1]
    by_cases q : s = 24 + P 1 - 1
    · rw [← q, p_row_upd _ _ _ (by decide) (by decide)]; exact hl q
    · rw [p_row_ne _ _ (by decide) (by decide) q]; exact h.2
theorem gg_v (h : p_G P) (hk : k ≠ 0 ∧ k ≠ 1 ∧ k ≠ 14 ∧ k < 15) (hh : 1 ≤ P 1) (hw : 1 ≤ P 0) : p_G (z_v P k v) := by
  have e0 : z_v P k v 0 = P 0 := z_vn (by omega)
  have e1 : z_v P k v 1 = P 1 := z_vn (by omega)
  have e14 : z_v P k v 14 = P 14 := z_vn (by omega)
  have er : ∀ t c, 0 ≤ t → 0 ≤ c → p_row (z_v P k v) t c = p_row P t c := fun t c t0 c0 => z_vn (by omega)
  refine ⟨fun t ht => ?_, ?_⟩
  · have ht : gg_in P t := by unfold gg_in at *; rw [e1, e14] at ht; exact ht
    have t0 : 0 ≤ t := by unfold gg_in at ht; omega
    rw [e0]
    exact gg_c (h.1 t ht) (er _ _ t0 (by decide)) (er _ _ t0 (by decide)) (er _ _ t0 (by omega))
  · rw [e1, er _ _ (by omega) (by decide)]; exact h.2
theorem gg_v2 (hH : p_hd P) (h : p_G P) (hk : k ≠ 0 ∧ k ≠ 1 ∧ k ≠ 14 ∧ k < 15) : p_G (z_v P k v) := gg_v h hk (by have := hH.2.2.1; omega) (p_hd_W hH).1
theorem gg_goes (hH : p_hd P) (h : p_G P) : p_G (p_goes a b P) := by
  have h1 := hH.2.2.1
  have hW := (p_hd_W hH).1
  unfold p_goes
  refine gg_v (gg_v (gg_v h (by omega) (by omega) hW) (by omega) ?_ ?_) (by omega) ?_ ?_
  · rw [z_vn (by decide)]; omega
  · rw [z_vn (by decide)]; omega
  · rw [z_vn (by decide), z_vn (by decide)]; omega
  · rw [z_vn (by decide), z_vn (by decide)]; omega
theorem gg_erases (hH : p_hd P) (h : p_G P) (r0 : 0 ≤ row) (r1 : row < P 1) (ha : a ≤ 20) (hb : b < 20) : p_G (p_erases P row a b) := by
  have h1 := gg_erase (a := a) (b := b) (h.1 (24 + row) (Or.inr ⟨by omega, by omega⟩)) (p_hd_W hH) ha hb
  exact gg_upd hH h (by omega) h1.1 (fun q => h1.2 (by rw [q]; exact h.2))
theorem gg_frees (hH : p_hd P) (h : p_G P) (r0 : 0 ≤ row) (r1 : row < P 1) (ha : a ≤ 20) : p_G (p_frees P row a b) := by
  have h1 := gg_free (a := a) (b := b) (h.1 (24 + row) (Or.inr ⟨by omega, by omega⟩)) (p_hd_W hH) ha
  exact gg_upd hH h (by omega) h1.1 (fun q => h1.2 (by rw [q]; exact h.2))
theorem gg_sets (hH : p_hd P) (h : p_G P) (r0 : 0 ≤ row) (r1 : row < P 1) (ha : a < 20) : p_G (p_sets P row a v) := by
  have h1 := gg_set (c := a) (v := v) (h.1 (24 + row) (Or.inr ⟨by omega, by omega⟩)) (p_hd_W hH) ha
  exact gg_upd hH h (by omega) h1.1 (fun q => h1.2 (by rw [q]; exact h.2))
/-- a scroll -/
theorem gg_scroll (hH : p_hd P) (h : p_G P) : p_G (p_scroll P) := by
  have hW := p_hd_W hH
  obtain ⟨hw0, hw1, hh0, hh1, hf0, hf1, hf2, hr0, hr1, hc0, hc1, hp0, hp1, hk0, hk1, hi0, hi1, hkp, hP⟩ := id hH
  have e0 : p_scroll P 0 = P 0 := p_scroll_hd hH (by decide)
  have e1 : p_scroll P 1 = P 1 := p_scroll_hd hH (by decide)
  unfold p_G
  rw [e0, e1]
  by_cases h2 : P 2 = 0
  · by_cases h14 : P 14 < 24
    · have e14 : p_scroll P 14 = P 14 + 1 := (p_scr_a_hd h2 h14 (by omega) hi0 (by decide)).trans (if_pos rfl)
      have er := p_scr_a (P := P) h2 (by omega) h14 hi0
      refine ⟨fun s hs => ?_, ?_⟩
      · unfold gg_in at hs; rw [e14, e1] at hs
        have s0 : 0 ≤ s := by omega
        by_cases q1 : s = 24 + P 3
        · exact gg_c22 gg_blank hW (fun c c0 c1 => (er s c s0 c0 c1).trans (by rw [if_pos q1]))
        by_cases q2 : s = 24 + P 3 - 1
        · exact gg_c22 (r := r_unw (fun c => P (15 + 22 * (s + 1) + c))) gg_unw hW (fun c c0 c1 => (er s c s0 c0 c1).trans (by rw [if_neg q1, if_pos q2]))
        by_cases q3 : 24 ≤ s ∧ s < 24 + P 3
        · exact gg_c22 (h.1 (s + 1) (Or.inr ⟨by omega, by omega⟩)) hW (fun c c0 c1 => (er s c s0 c0 c1).trans (by rw [if_neg q1, if_neg q2, if_pos q3]; rfl))
        by_cases q4 : s = P 14
        · exact gg_c22 (h.1 24 (Or.inr ⟨by omega, by omega⟩)) hW (fun c c0 c1 => (er s c s0 c0 c1).trans (by rw [if_neg q1, if_neg q2, if_neg q3, if_pos q4]; rfl))
        · exact gg_c22 (h.1 s (by unfold gg_in; omega)) hW (fun c c0 c1 => (er s c s0 c0 c1).trans (by rw [if_neg q1, if_neg q2, if_neg q3, if_neg q4]; rfl))
      · have e := er (24 + P 1 - 1) 20 (by omega) (by decide) (by decide)
        refine e.trans ?_
        by_cases q1 : 24 + P 1 - 1 = 24 + P 3
        · rw [if_pos q1]; rfl
        · rw [if_neg q1, if_neg (by omega), if_neg (by omega), if_neg (by omega)]; exact h.2
    · have h14 : P 14 = 24 := by omega
      have e14 : p_scroll P 14 = P 14 := p_scr_b_hd h2 h14 (by omega) (by decide)
      have er := p_scr_b (P := P) h2 (by omega) h14
      refine ⟨fun s hs => ?_, ?_⟩
      · unfold gg_in at hs; rw [e14, e1] at hs
        have s0 : 0 ≤ s := by omega
        by_cases q1 : s = 24 + P 3
        · exact gg_c22 gg_blank hW (fun c c0 c1 => (er s c s0 c0 c1).trans (by rw [if_pos q1]))
        by_cases q2 : s = 24 + P 3 - 1
        · exact gg_c22 (r := r_unw (fun c => P (15 + 22 * (s + 1) + c))) gg_unw hW (fun c c0 c1 => (er s c s0 c0 c1).trans (by rw [if_neg q1, if_pos q2]))
        by_cases q3 : s < 24 + P 3
        · exact gg_c22 (h.1 (s + 1) (by unfold gg_in; omega)) hW (fun c c0 c1 => (er s c s0 c0 c1).trans (by rw [if_neg q1, if_neg q2, if_pos q3]; rfl))
        · exact gg_c22 (h.1 s (by unfold gg_in; omega)) hW (fun c c0 c1 => (er s c s0 c0 c1).trans (by rw [if_neg q1, if_neg q2, if_neg q3]; rfl))
      · have e := er (24 + P 1 - 1) 20 (by omega) (by decide) (by decide)
        refine e.trans ?_
        by_cases q1 : 24 + P 1 - 1 = 24 + P 3
        · rw [if_pos q1]; rfl
        · rw [if_neg q1, if_neg (by omega), if_neg (by omega)]; exact h.2
  · have e14 : p_scroll P 14 = P 14 := p_scr_c_hd (by omega) hf1 (by decide)
    have er := p_scr_c (P := P) (by omega) hf1
    refine ⟨fun s hs => ?_, ?_⟩
    · unfold gg_in at hs; rw [e14, e1] at hs
      have s0 : 0 ≤ s := by omega
      by_cases q1 : s = 24 + P 3
      · exact gg_c22 gg_blank hW (fun c c0 c1 => (er s c s0 c0 c1).trans (by rw [if_pos q1]))
      by_cases q2 : s = 24 + P 3 - 1
      · exact gg_c22 (r := r_unw (fun c => P (15 + 22 * (s + 1) + c))) gg_unw hW (fun c c0 c1 => (er s c s0 c0 c1).trans (by rw [if_neg q1, if_pos q2]))
      by_cases q3 : 24 + P 2 ≤ s ∧ s < 24 + P 3
      · exact gg_c22 (h.1 (s + 1) (by unfold gg_in; omega)) hW (fun c c0 c1 => (er s c s0 c0 c1).trans (by rw [if_neg q1, if_neg q2, if_pos q3]; rfl))
      by_cases q4 : s = 24 + P 2 - 1
      · exact gg_c22 (r := r_unw (fun c => P (15 + 22 * s + c))) gg_unw hW (fun c c0 c1 => (er s c s0 c0 c1).trans (by rw [if_neg q1, if_neg q2, if_neg q3, if_pos q4]))
      · exact gg_c22 (h.1 s (by unfold gg_in; omega)) hW (fun c c0 c1 => (er s c s0 c0 c1).trans (by rw [if_neg q1, if_neg q2, if_neg q3, if_neg q4]; rfl))
    · have e := er (24 + P 1 - 1) 20 (by omega) (by decide) (by decide)
      refine e.trans ?_
      by_cases q1 : 24 + P 1 - 1 = 24 + P 3
      · rw [if_pos q1]; rfl
      · rw [if_neg q1, if_neg (by omega), if_neg (by omega), if_neg (by omega)]; exact h.2
theorem gg_fl (hH : p_hd P) (h : p_G P) : p_G (p_fl P) := by
  unfold p_fl
  split
  · exact gg_scroll hH h
  · split
    · exact h
    · exact gg_v2 hH h (by omega)
/-- the row above the cursor, behind a line feed that scrolled or moved, is where the cursor was -/
theorem gg_flrow (hH : p_hd P) (hb : P 4 = P 3 ∨ P 4 ≠ P 1 - 1) : p_fl P (15 + 22 * (24 + p_fl P 4 - 1) + (P 0 - 1)) = P (15 + 22 * (24 + P 4) + (P 0 - 1)) := by
  obtain ⟨hw0, hw1, hh0, hh1, hf0, hf1, hf2, hr0, hr1, hc0, hc1, hp0, hp1, hk0, hk1, hi0, hi1, hkp, hP⟩ := id hH
  by_cases q : P 4 = P 3
  · have ef : p_fl P = p_scroll P := if_pos q
    rw [ef, p_scroll_hd hH (show (4 : Int) < 14 by decide), q]
    have e24 : 24 + P 3 - 1 + 1 = 24 + P 3 := by omega
    by_cases h2 : P 2 = 0
    · by_cases h14 : P 14 < 24
      · rw [p_scr_a h2 (by omega) h14 hi0 (24 + P 3 - 1) (P 0 - 1) (by omega) (by omega) (by omega), if_neg (by omega), if_pos rfl, r_unw_cell (by omega), e24]
      · rw [p_scr_b h2 (by omega) (by omega) (24 + P 3 - 1) (P 0 - 1) (by omega) (by omega) (by omega), if_neg (by omega), if_pos rfl, r_unw_cell (by omega), e24]
    · rw [p_scr_c (by omega) hf1 (24 + P 3 - 1) (P 0 - 1) (by omega) (by omega) (by omega), if_neg (by omega), if_pos rfl, r_unw_cell (by omega), e24]
  · have ef : p_fl P = z_v P 4 (P 4 + 1) := by unfold p_fl; rw [if_neg q, if_neg (by omega)]
    rw [ef, z_vs, z_vn (by omega), show 24 + (P 4 + 1) - 1 = 24 + P 4 by omega]
theorem gg_go1 {g : Int} (hH : p_hd Q) (h : p_G Q) (h4 : 0 < Q 4) (hg : g = 1 → Q (15 + 22 * (24 + Q 4 - 1) + (Q 0 - 1)) = 32) : p_G (p_go1 g Q) := by
  obtain ⟨hw0, hw1, hh0, hh1, hf0, hf1, hf2, hr0, hr1, hc0, hc1, hp0, hp1, hk0, hk1, hi0, hi1, hkp, hP⟩ := id hH
  have e : p_go1 g Q = p_upd Q (24 + Q 4 - 1) (z_v (z_v (p_row Q (24 + Q 4 - 1)) 20 1) 21 (if g = 1 then 1 else Q (15 + 22 * (24 + Q 4 - 1) + 21))) := by
    unfold p_go1
    rw [p_v_upd _ _ _ _ (by decide) (by decide), p_v_upd _ _ _ _ (by decide) (by decide), p_upd_upd]
    refine p_upd_ext (fun c c0 c1 => ?_)
    unfold z_v
    by_cases q : c = 21
    · rw [if_pos q, if_pos q]
    · rw [if_neg q, if_neg q]
      by_cases q2 : c = 20
      · rw [if_pos q2, p_row_upd _ _ _ c0 c1, if_pos q2]
      · rw [if_neg q2, p_row_upd _ _ _ c0 c1, if_neg q2]
  rw [e]
  refine gg_upd hH h (by omega) ?_ (fun q => by omega)
  intro h21
  rw [z_vs] at h21
  refine ⟨by rw [z_vn (by decide), z_vs], ?_⟩
  rw [z_vn (by omega), z_vn (by omega)]
  by_cases q : g = 1
  · exact hg q
  · rw [if_neg q] at h21
    exact (h.1 (24 + Q 4 - 1) (Or.inr ⟨by omega, by omega⟩) h21).2
theorem gg_go {g : Int} (hH : p_hd P) (h : p_G P) (hg : g = 1 → P (15 + 22 * (24 + P 4) + (P 0 - 1)) = 32) : p_G (p_go g P) := by
  obtain ⟨hw0, hw1, hh0, hh1, hf0, hf1, hf2, hr0, hr1, hc0, hc1, hp0, hp1, hk0, hk1, hi0, hi1, hkp, hP⟩ := id hH
  have h1 := p_hd_fl hH
  have hQ : p_hd (z_v (p_fl P) 5 0) := p_hd_fl5 hH
  have hG : p_G (z_v (p_fl P) 5 0) := gg_v2 h1 (gg_fl hH h) (by omega)
  unfold p_go
  split
  · next hb =>
    have h4 : 0 < p_fl P 4 := p_fl_4 hH hb
    have e4 : z_v (p_fl P) 5 0 4 = p_fl P 4 := z_vn (by decide)
    have e0 : z_v (p_fl P) 5 0 0 = P 0 := (z_vn (by decide)).trans (p_fl_hd hH (by decide) (by decide))
    refine gg_go1 hQ hG (by rw [e4]; exact h4) (fun q => ?_)
    rw [e4, e0, z_vn (by omega), gg_flrow hH hb]
    exact hg q
  · exact hG
theorem gg_w1 (hH : p_hd P) (h : p_G P) : p_G (p_w1 P) := by
  unfold p_w1
  split
  · exact gg_go (p_hd_6 hH) (gg_v2 hH h (by omega)) (fun q => absurd q (by decide))
  · exact h
theorem gg_w2 (hH : p_hd P) (h : p_G P) : p_G (p_w2 code P) := by
  obtain ⟨hw0, hw1, hh0, hh1, hf0, hf1, hf2, hr0, hr1, hc0, hc1, hp0, hp1, hk0, hk1, hi0, hi1, hkp, hP⟩ := id hH
  unfold p_w2
  split
  · next q =>
    refine gg_go (p_hd_erases hH hr0) (gg_erases hH h hr0 hr1 (by omega) (by omega)) (fun _ => ?_)
    have e4 : p_erases P (P 4) (P 5) (P 5) 4 = P 4 := p_erases_hd (by decide) hr0
    have e0 : p_erases P (P 4) (P 5) (P 5) 0 = P 0 := p_erases_hd (by decide) hr0
    rw [e4, e0]
    refine (show p_erases P (P 4) (P 5) (P 5) (15 + 22 * (24 + P 4) + (P 0 - 1)) = _ from p_row_upd P (24 + P 4) (r_erase (P 0) (P 5) (P 5) (p_row P (24 + P 4))) (c := P 0 - 1) (by omega) (by omega)).trans ?_
    unfold r_erase r_fill
    rw [if_pos ⟨by omega, by omega⟩]
  · exact h
theorem gg_write (hH : p_hd P) (h : p_G P) (h0 : 0 ≤ code) (h1 : code ≤ 126) : p_G (p_write code P) := by
  have a1 := p_hd_w1 hH
  have b1 := gg_w1 hH h
  have hr := p_w2_room (code := code) a1
  have a2 := p_hd_w2 (code := code) a1
  have b2 := gg_w2 (code := code) a1 b1
  unfold p_write
  generalize p_w2 code (p_w1 P) = A at a2 b2 hr
  obtain ⟨hw0, hw1, hh0, hh1, hf0, hf1, hf2, hr0, hr1, hc0, hc1, hp0, hp1, hk0, hk1, hi0, hi1, hkp, hP⟩ := id a2
  have a3 := p_hd_w3 (code := code) a2 h0 h1
  have b3 : p_G (p_w3 code A) := by
    unfold p_w3
    exact gg_sets (p_hd_frees a2 hr0) (gg_frees a2 b2 hr0 hr1 (by omega)) hr0 (by rw [p_frees_hd (by decide) hr0]; exact hr1) (by omega)
  have e1 : p_w3 code A 1 = A 1 := p_w3_hd a2 (by decide)
  have a4 := p_hd_w4 (P := A) (code := code) a3 hr0 h0 h1
  have b4 : p_G (p_w4 code A (p_w3 code A)) := by
    unfold p_w4
    split
    · next q => 
      have : p_sz code = 2 := if_pos q
      exact gg_sets a3 b3 hr0 (by rw [e1]; exact hr1) (by omega)
    · exact b3
  unfold p_w6 p_w5
  refine gg_v (gg_v2 a4 b4 (by omega)) (by omega) ?_ ?_
  · rw [z_vn (by decide)]; have := a4.2.2.1; omega
  · rw [z_vn (by decide)]; have := a4.1; omega
theorem gg_move (hH : p_hd P) (h : p_G P) : p_G (p_move code P) := by
  have a1 := p_hd_mvq (code := code) hH
  have b1 : p_G (p_mvq code P) := by
    unfold p_mvq; split
    · exact gg_fl hH h
    · exact h
  unfold p_move
  refine gg_v (gg_v2 a1 b1 (by omega)) (by omega) ?_ ?_
  · rw [z_vn (by decide)]; have := a1.2.2.1; omega
  · rw [z_vn (by decide)]; have := a1.1; omega
theorem gg_eline (hH : p_hd P) (h : p_G P) : p_G (p_eline kind P) := by
  obtain ⟨hw0, hw1, hh0, hh1, hf0, hf1, hf2, hr0, hr1, hc0, hc1, hp0, hp1, hk0, hk1, hi0, hi1, hkp, hP⟩ := id hH
  unfold p_eline
  refine gg_v2 (p_hd_erases hH hr0) (gg_erases hH h hr0 hr1 ?_ ?_) (by omega)
  · split <;> omega
  · split <;> omega
theorem gg_escn {W : Int} (hW : W ≤ 20) : ∀ (n : Nat) (P : Int → Int), p_hd P → p_G P → (n : Int) ≤ P 1 → p_G (n_it (p_esc kind W row) n P) := by
  intro n
  induction n with
  | zero => intro P _ h _; exact h
  | succ n ih =>
    intro P hH h hn
    have a := p_hd_escn (kind := kind) (W := W) (row := row) n hH
    have b := ih P hH h (by omega)
    show p_G (p_esc kind W row (n : Nat) (n_it (p_esc kind W row) n P))
    have a1 := a.2 1 (by decide)
    have a2 := a.1
    generalize n_it (p_esc kind W row) n P = A at b a1 a2 ⊢
    unfold p_esc
    split
    · exact gg_erases a2 b (by omega) (by omega) (by omega) (by omega)
    · exact b
theorem gg_escr (hH : p_hd P) (h : p_G P) : p_G (p_escr kind P) := by
  have h1 := hH.2.2.1
  unfold p_escr
  exact gg_escn hH.2.1 _ _ (p_hd_eline hH) (gg_eline hH h) (by rw [p_eline_hd hH (by decide) (by decide)]; omega)
/-- the rules by the rows' indices -/
theorem gg_k (hH : p_hd P) (h : p_G P) (k0 : 0 ≤ k) (k1 : k < P 14 + P 1) : gg_r (P 0) (p_rows P k) := by
  obtain ⟨hw0, hw1, hh0, hh1, hf0, hf1, hf2, hr0, hr1, hc0, hc1, hp0, hp1, hk0, hk1, hi0, hi1, hkp, hP⟩ := id hH
  refine h.1 (m_slot P k) ?_
  unfold gg_in m_slot; split <;> omega
theorem gg_last (hH : p_hd P) (h : p_G P) : p_rows P (P 14 + P 1 - 1) 20 = 0 := by
  have h1 := hH.2.2.1
  have e : m_slot P (P 14 + P 1 - 1) = 24 + P 1 - 1 := by unfold m_slot; rw [if_neg (by omega)]; omega
  show p_row P (m_slot P (P 14 + P 1 - 1)) 20 = 0
  rw [e]; exact h.2
theorem gg_of (hH : p_hd P) (hk : ∀ k, 0 ≤ k → k < P 14 + P 1 → gg_r (P 0) (p_rows P k)) (hl : p_rows P (P 14 + P 1 - 1) 20 = 0) : p_G P := by
  obtain ⟨hw0, hw1, hh0, hh1, hf0, hf1, hf2, hr0, hr1, hc0, hc1, hp0, hp1, hk0, hk1, hi0, hi1, hkp, hP⟩ := id hH
  have e : m_slot P (P 14 + P 1 - 1) = 24 + P 1 - 1 := by unfold m_slot; rw [if_neg (by omega)]; omega
  refine ⟨fun s hs => ?_, ?_⟩
  · unfold gg_in at hs
    by_cases q : s < P 14
    · have := hk s (by omega) (by omega)
      unfold p_rows m_slot at this; rw [if_pos q] at this; exact this
    · have := hk (s - 24 + P 14) (by omega) (by omega)
      unfold p_rows m_slot at this; rw [if_neg (by omega), show 24 + (s - 24 + P 14) - P 14 = s by omega] at this; exact this
  · have h2 : p_row P (m_slot P (P 14 + P 1 - 1)) 20 = 0 := hl
    rw [e] at h2; exact h2
theorem gg_insr (hH : p_hd P) (h : p_G P) (hn : 1 ≤ n) (hr : P 4 ≤ P 3) : p_G (p_insr n P) := by
  obtain ⟨hw0, hw1, hh0, hh1, hf0, hf1, hf2, hr0, hr1, hc0, hc1, hp0, hp1, hk0, hk1, hi0, hi1, hkp, hP⟩ := id hH
  have hW := p_hd_W hH
  have hm := m_many_b (n := n) (P := P) hn hr
  have e : ∀ j, j < 15 → j ≠ 6 → p_insr n P j = P j := fun j hj h6 => (p_insr_hd hH hn hr hj).trans (z_vn h6)
  have er : ∀ k c, 0 ≤ k → 0 ≤ c → c < 22 → p_rows (p_insr n P) k c = o_ins P (m_many n P) k c := fun k c k0 c0 c1 => p_insr_rows hH hn hr k0 c0 c1
  refine gg_of (p_hd_insr hH hn hr) (fun k k0 k1 => ?_) ?_
  · rw [e 14 (by decide) (by decide), e 1 (by decide) (by decide)] at k1
    rw [e 0 (by decide) (by decide)]
    refine gg_c22 (r := o_ins P (m_many n P) k) ?_ hW (fun c c0 c1 => er k c k0 c0 c1)
    unfold o_ins
    by_cases q1 : P 14 + P 4 ≤ k ∧ k < P 14 + P 4 + m_many n P
    · exact gg_c22 gg_blank hW (fun c c0 c1 => if_pos q1)
    by_cases q2 : P 14 + P 4 + m_many n P ≤ k ∧ k ≤ P 14 + P 3
    · by_cases q3 : k = P 14 + P 3
      · refine gg_0 ?_
        rw [if_neg q1, if_pos q2, if_pos ⟨q3, hm.1, Or.inr rfl⟩]
      · exact gg_c22 (gg_k hH h (k := k - m_many n P) (by omega) (by omega)) hW (fun c c0 c1 => by rw [if_neg q1, if_pos q2, if_neg (fun x => q3 x.1)])
    by_cases q4 : k = P 14 + P 4 - 1
    · refine gg_0 ?_
      rw [if_neg q1, if_neg q2, if_pos ⟨q4, hm.1, Or.inr rfl⟩]
    · exact gg_c22 (gg_k hH h (k := k) (by omega) (by omega)) hW (fun c c0 c1 => by rw [if_neg q1, if_neg q2, if_neg (fun x => q4 x.1)])
  · rw [e 14 (by decide) (by decide), e 1 (by decide) (by decide), er _ _ (by omega) (by decide) (by decide)]
    have hl := gg_last hH h
    unfold o_ins
    by_cases q1 : P 14 + P 4 ≤ P 14 + P 1 - 1 ∧ P 14 + P 1 - 1 < P 14 + P 4 + m_many n P
    · rw [if_pos q1]; rfl
    by_cases q2 : P 14 + P 4 + m_many n P ≤ P 14 + P 1 - 1 ∧ P 14 + P 1 - 1 ≤ P 14 + P 3
    · rw [if_neg q1, if_pos q2, if_pos ⟨by omega, hm.1, Or.inl rfl⟩]
    · rw [if_neg q1, if_neg q2]
      split
      · rfl
      · exact hl
theorem gg_delr (hH : p_hd P) (h : p_G P) (hn : 1 ≤ n) (hr : P 4 ≤ P 3) : p_G (p_delr n P) := by
  obtain ⟨hw0, hw1, hh0, hh1, hf0, hf1, hf2, hr0, hr1, hc0, hc1, hp0, hp1, hk0, hk1, hi0, hi1, hkp, hP⟩ := id hH
  have hW := p_hd_W hH
  have hm := m_many_b (n := n) (P := P) hn hr
  have e : ∀ j, j < 15 → j ≠ 6 → p_delr n P j = P j := fun j hj h6 => (p_delr_hd hH hn hr hj).trans (z_vn h6)
  have er : ∀ k c, 0 ≤ k → 0 ≤ c → c < 22 → p_rows (p_delr n P) k c = o_del P (m_many n P) k c := fun k c k0 c0 c1 => p_delr_rows hH hn hr k0 c0 c1
  refine gg_of (p_hd_delr hH hn hr) (fun k k0 k1 => ?_) ?_
  · rw [e 14 (by decide) (by decide), e 1 (by decide) (by decide)] at k1
    rw [e 0 (by decide) (by decide)]
    refine gg_c22 (r := o_del P (m_many n P) k) ?_ hW (fun c c0 c1 => er k c k0 c0 c1)
    unfold o_del
    by_cases q1 : k = P 14 + P 4 - 1
    · refine gg_0 ?_
      rw [if_pos ⟨q1, hm.1, Or.inr rfl⟩]
    by_cases q2 : P 14 + P 4 ≤ k ∧ k ≤ P 14 + P 3 - m_many n P
    · by_cases q3 : k + m_many n P = P 14 + P 3
      · refine gg_0 ?_
        rw [if_neg (fun x => q1 x.1), if_pos q2, if_pos ⟨q3, hm.1, Or.inr rfl⟩]
      · exact gg_c22 (gg_k hH h (k := k + m_many n P) (by omega) (by omega)) hW (fun c c0 c1 => by rw [if_neg (fun x => q1 x.1), if_pos q2, if_neg (fun x => q3 x.1)])
    by_cases q4 : P 14 + P 3 - m_many n P < k ∧ k ≤ P 14 + P 3
    · exact gg_c22 gg_blank hW (fun c c0 c1 => by rw [if_neg (fun x => q1 x.1), if_neg q2, if_pos q4])
    · exact gg_c22 (gg_k hH h (k := k) (by omega) (by omega)) hW (fun c c0 c1 => by rw [if_neg (fun x => q1 x.1), if_neg q2, if_neg q4])
  · rw [e 14 (by decide) (by decide), e 1 (by decide) (by decide), er _ _ (by omega) (by decide) (by decide)]
    have hl := gg_last hH h
    unfold o_del
    rw [if_neg (by omega), if_neg (by omega)]
    split
    · rfl
    · exact hl
theorem gg_insc (hH : p_hd P) (h : p_G P) : p_G (p_insc n P) := by
  obtain ⟨hw0, hw1, hh0, hh1, hf0, hf1, hf2, hr0, hr1, hc0, hc1, hp0, hp1, hk0, hk1, hi0, hi1, hkp, hP⟩ := id hH
  unfold p_insc
  have hg : p_G (p_upd P (24 + P 4) (r_insc (P 0) (P 5) (m_mc n P) (p_row P (24 + P 4)))) := gg_upd hH h (by omega) gg_unw (fun _ => rfl)
  refine gg_v hg (by omega) ?_ ?_
  · rw [p_upd_hd _ _ (by omega)]; omega
  · rw [p_upd_hd _ _ (by omega)]; omega
theorem gg_delc (hH : p_hd P) (h : p_G P) : p_G (p_delc n P) := by
  obtain ⟨hw0, hw1, hh0, hh1, hf0, hf1, hf2, hr0, hr1, hc0, hc1, hp0, hp1, hk0, hk1, hi0, hi1, hkp, hP⟩ := id hH
  unfold p_delc
  have hg : p_G (p_upd P (24 + P 4) (r_delc (P 0) (P 5) (m_mc n P) (p_row P (24 + P 4)))) := gg_upd hH h (by omega) gg_unw (fun _ => rfl)
  refine gg_v hg (by omega) ?_ ?_
  · rw [p_upd_hd _ _ (by omega)]; omega
  · rw [p_upd_hd _ _ (by omega)]; omega
theorem gg_kp (hH : p_hd P) (h : p_G P) (h3 : P 7 ≠ 3) : p_G (p_kp P) := by
  obtain ⟨hw0, hw1, hh0, hh1, hf0, hf1, hf2, hr0, hr1, hc0, hc1, hp0, hp1, hk0, hk1, hi0, hi1, hkp, hP⟩ := id hH
  unfold p_kp
  refine gg_v (gg_v (gg_v h (by omega) (by omega) (by omega)) (by omega) ?_ ?_) (by omega) ?_ ?_
  · rw [z_vn (by omega)]; omega
  · rw [z_vn (by omega)]; omega
  · rw [z_vn (by omega), z_vn (by omega)]; omega
  · rw [z_vn (by omega), z_vn (by omega)]; omega
theorem gg_bk (hH : p_hd P) (h : p_G P) : p_G (p_bk P) := by
  unfold p_bk p_goes
  have h1 := hH.2.2.1
  have hW := hH.1
  refine gg_v (gg_v (gg_v (gg_v h (by omega) (by omega) (by omega)) (by omega) ?_ ?_) (by omega) ?_ ?_) (by omega) ?_ ?_
  all_goals (repeat rw [z_vn (by decide)]) <;> omega
theorem gg_reg (hH : p_hd P) (h : p_G P) : p_G (p_reg a b P) := by
  unfold p_reg p_goes
  have h1 := hH.2.2.1
  have hW := hH.1
  refine gg_v (gg_v (gg_v (gg_v (gg_v h (by omega) (by omega) (by omega)) (by omega) ?_ ?_) (by omega) ?_ ?_) (by omega) ?_ ?_) (by omega) ?_ ?_
  all_goals (repeat rw [z_vn (by decide)]) <;> omega
theorem gg_rec (hH : p_hd P) (h : p_G P) (hn : 0 ≤ n) : p_G (p_rec n P) := gg_ag hH h (fun k _ k1 => p_rec_hd hn k1)
end ZGP
