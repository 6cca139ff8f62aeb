theorem c_wf_split {W c : Int} {r : Int → Int} (hw : c_wf W r) (hW : W ≤ 20) (h0 : 0 ≤ c) (h1 : c < W) : c_wf W (r_split 1 c r) ∧ ¬ 128 ≤ r_split 1 c r c := by
  have f := r_split1_at (W := W) (c := c) (r := r)
  have wc := hw.1 c h0 h1
  refine ⟨⟨fun j j0 j1 => ?_, ?_, ?_⟩, ?_⟩
  · have w := hw.1 j j0 j1
    rw [f j]
    by_cases q : 128 ≤ r c ∧ (j = c ∨ j = c - 1)
    · rw [if_pos q]; exact Or.inl ⟨by decide, by decide, fun x => absurd x (by decide)⟩
    · rw [if_neg q]
      rcases w with w | w
      · refine Or.inl ⟨w.1, w.2.1, fun k0 k1 => ?_⟩
        have w3 := w.2.2 k0 k1
        refine ⟨w3.1, ?_⟩
        have hne : ¬ (128 ≤ r c ∧ (j + 1 = c ∨ j + 1 = c - 1)) := by
          intro x
          rcases x.2 with e | e
          · exact q ⟨x.1, Or.inr (by omega)⟩
          · have w4 := w3.2; rw [e] at w4; omega
        rw [f (j + 1), if_neg hne]; exact w3.2
      · refine Or.inr ⟨w.1, w.2.1, w.2.2.1, ?_⟩
        have hne : ¬ (128 ≤ r c ∧ (j - 1 = c ∨ j - 1 = c - 1)) := by
          intro x
          rcases x.2 with e | e
          · have w4 := w.2.2.2; rw [e] at w4; omega
          · exact q ⟨x.1, Or.inl (by omega)⟩
        rw [f (j - 1), if_neg hne]; exact w.2.2.2
  · rw [f 20, if_neg (by omega)]; exact hw.2.1
  · rw [f 21, if_neg (by omega)]; exact hw.2.2
  · rw [f c]; split
    · decide
    · next q => exact fun x => q ⟨x, Or.inl rfl⟩
theorem c_wf_ins1 {W c m : Int} {r : Int → Int} (hw : c_wf W r) (hc : ¬ 128 ≤ r c) (hW : W ≤ 20) (h0 : 0 ≤ c) (h1 : 1 ≤ m) (h2 : c + m ≤ W) : c_wf W (r_unw (r_fixw W (r_f32 c (c + m) (r_shr m W (c + m) r)))) := by
  have f2 : ∀ j, r_f32 c (c + m) (r_shr m W (c + m) r) j = if c ≤ j ∧ j < c + m then 32 else if c + m ≤ j ∧ j < W then r (j - m) else r j := fun j => rfl
  generalize r_f32 c (c + m) (r_shr m W (c + m) r) = r2 at *
  have f3 : ∀ j, j < 20 → r_unw (r_fixw W r2) j = if (65 ≤ r2 (W - 1) ∧ r2 (W - 1) ≤ 90) ∧ j = W - 1 then 32 else r2 j := by
    intro j hj
    rw [r_unw_cell hj]; unfold r_fixw
    by_cases q : 65 ≤ r2 (W - 1) ∧ r2 (W - 1) ≤ 90
    · rw [if_pos q]; unfold z_v
      by_cases q2 : j = W - 1
      · rw [if_pos q2, if_pos ⟨q, q2⟩]
      · rw [if_neg q2, if_neg (fun x => q2 x.2)]
    · rw [if_neg q, if_neg (fun x => q x.1)]
  refine ⟨fun j j0 j1 => ?_, Or.inl rfl, Or.inl rfl⟩
  rw [f3 j (by omega)]
  by_cases q : (65 ≤ r2 (W - 1) ∧ r2 (W - 1) ≤ 90) ∧ j = W - 1
  · rw [if_pos q]; exact Or.inl ⟨by decide, by decide, fun x => absurd x (by decide)⟩
  · rw [if_neg q]
    have hlast : j = W - 1 → ¬ (65 ≤ r2 j ∧ r2 j ≤ 90) := fun e x => q ⟨by rw [← e]; exact x, e⟩
    by_cases qa : c ≤ j ∧ j < c + m
    · rw [f2 j, if_pos qa]; exact Or.inl ⟨by decide, by decide, fun x => absurd x (by decide)⟩
    · by_cases qb : c + m ≤ j ∧ j < W
      · have e := f2 j
        rw [if_neg qa, if_pos qb] at e
        rw [e] at hlast ⊢
        have w := hw.1 (j - m) (by omega) (by omega)
        rcases w with w | w
        · refine Or.inl ⟨w.1, w.2.1, fun k0 k1 => ?_⟩
          have w3 := w.2.2 k0 k1
          have hj : j ≠ W - 1 := fun x => hlast x ⟨k0, k1⟩
          refine ⟨by omega, ?_⟩
          have e2 := f2 (j + 1)
          rw [if_neg (by omega), if_pos (by omega), show j + 1 - m = j - m + 1 by omega, w3.2] at e2
          rw [f3 (j + 1) (by omega), if_neg ?_]
          · exact e2
          · intro x
            have := x.1; rw [← x.2, e2] at this; omega
        · have hne : j - m ≠ c := by
            intro x; rw [x] at w; omega
          refine Or.inr ⟨w.1, w.2.1, by omega, ?_⟩
          have e2 := f2 (j - 1)
          rw [if_neg (by omega), if_pos (by omega), show j - 1 - m = j - m - 1 by omega, w.2.2.2] at e2
          rw [f3 (j - 1) (by omega), if_neg (by omega)]
          exact e2
      · have e := f2 j
        rw [if_neg qa, if_neg qb] at e
        rw [e] at hlast ⊢
        have w := hw.1 j j0 j1
        rcases w with w | w
        · refine Or.inl ⟨w.1, w.2.1, fun k0 k1 => ?_⟩
          have w3 := w.2.2 k0 k1
          have hj : j + 1 ≠ c := by
            intro x; have w4 := w3.2; rw [x] at w4; omega
          refine ⟨by omega, ?_⟩
          have e2 := f2 (j + 1)
          rw [if_neg (by omega), if_neg (by omega), w3.2] at e2
          rw [f3 (j + 1) (by omega), if_neg ?_]
          · exact e2
          · intro x
            have := x.1; rw [← x.2, e2] at this; omega
        · refine Or.inr ⟨w.1, w.2.1, w.2.2.1, ?_⟩
          have e2 := f2 (j - 1)
          rw [if_neg (by omega), if_neg (by omega), w.2.2.2] at e2
          rw [f3 (j - 1) (by omega), if_neg (by omega)]
          exact e2
theorem c_wf_insc {W c m : Int} {r : Int → Int} (hw : c_wf W r) (hW : W ≤ 20) (h0 : 0 ≤ c) (h1 : 1 ≤ m) (h2 : c + m ≤ W) : c_wf W (r_insc W c m r) := by
  obtain ⟨w1, w2⟩ := c_wf_split (c := c) hw hW h0 (by omega)
  exact c_wf_ins1 w1 w2 hW h0 h1 h2
/-! taken away: the page first takes the cut halves away, then shifts; the class erases first -/
theorem r_delc_at {W c m : Int} {r : Int → Int} (hw : c_wf W r) (hW : W ≤ 20) (h0 : 0 ≤ c) (h1 : 1 ≤ m) (h2 : c + m ≤ W) (j : Int) (j0 : 0 ≤ j) (j1 : j < W) :
    r_delc W c m r j = if W - m ≤ j then 32 else if c ≤ j then r_erase W c (c + m - 1) r (j + m) else r_erase W c (c + m - 1) r j := by
  obtain ⟨f2, f3⟩ := r_erase_at (a := c) (b := c + m - 1) hw hW h0 (by omega) (by omega)
  have wc := hw.1 c h0 (by omega)
  have fs : ∀ i, r_split 0 c r i = if 128 ≤ r c ∧ i = c - 1 then 32 else r i := by
    intro i; unfold r_split
    by_cases q : 128 ≤ r c
    · rw [if_pos q, if_neg (show ¬ (0 : Int) = 1 by decide)]; unfold z_v
      by_cases q1 : i = c
      · rw [if_pos q1, if_neg (by omega), q1]
      · rw [if_neg q1]
        by_cases q2 : i = c - 1
        · rw [if_pos q2, if_pos ⟨q, q2⟩]
        · rw [if_neg q2, if_neg (fun x => q2 x.2)]
    · rw [if_neg q, if_neg (fun x => q x.1)]
  have fd : ∀ i, r_fix0 W (c + m) (r_split 0 c r) i = if (c + m < W ∧ 128 ≤ r (c + m)) ∧ i = c + m then 32 else r_split 0 c r i := by
    intro i; unfold r_fix0
    have e : r_split 0 c r (c + m) = r (c + m) := by rw [fs, if_neg (by omega)]
    rw [e]
    by_cases q : c + m < W ∧ 128 ≤ r (c + m)
    · rw [if_pos q]; unfold z_v
      by_cases q1 : i = c + m
      · rw [if_pos q1, if_pos ⟨q, q1⟩]
      · rw [if_neg q1, if_neg (fun x => q1 x.2)]
    · rw [if_neg q, if_neg (fun x => q x.1)]
  unfold r_delc
  rw [r_unw_cell (by omega)]
  show (if W - m ≤ j ∧ j < W then 32 else if c ≤ j ∧ j < W - m then _ else _) = _
  by_cases q : W - m ≤ j
  · rw [if_pos ⟨q, j1⟩, if_pos q]
  · rw [if_neg (fun x => q x.1), if_neg q]
    by_cases q2 : c ≤ j
    · rw [if_pos (show c ≤ j ∧ j < W - m by omega), if_pos q2, fd, f2 (j + m) (by omega), if_neg (show ¬ (c ≤ j + m ∧ j + m ≤ c + m - 1) by omega), show c + m - 1 + 1 = c + m by omega]
      by_cases q3 : (c + m < W ∧ 128 ≤ r (c + m)) ∧ j + m = c + m
      · rw [if_pos q3, if_pos q3]
      · rw [if_neg q3, if_neg q3, fs, if_neg (by omega)]
    · rw [if_neg (fun x => q2 x.1), if_neg q2, fd, f2 j (by omega), if_neg (show ¬ ((c + m < W ∧ 128 ≤ r (c + m)) ∧ j = c + m) by omega), if_neg (show ¬ (c ≤ j ∧ j ≤ c + m - 1) by omega), if_neg (show ¬ ((c + m - 1 + 1 < W ∧ 128 ≤ r (c + m - 1 + 1)) ∧ j = c + m - 1 + 1) by omega), fs]
theorem c_cl_rw {W c m : Int} {r F X : Int → Int} (h : c_rw W r F X) (hw : c_wf W r) (hW : W ≤ 20) (h0 : 0 ≤ c) (h1 : 1 ≤ m) (h2 : c + m ≤ W) : c_rw W (r_delc W c m r) (c_un F) (c_cl X c m W) := by
  obtain ⟨g1, g2, g3, g4⟩ := c_er_rw (a := c) (b := c + m - 1) h hw hW h0 (by omega) (by omega)
  refine ⟨fun j j0 j1 => ?_, fun j j0 j1 => ?_, rfl, rfl⟩
  · rw [r_delc_at hw hW h0 h1 h2 j j0 j1]
    unfold c_cl c_mvl
    by_cases q2 : c ≤ j
    · rw [if_pos ⟨q2, j1⟩]
      by_cases q : W - m ≤ j
      · rw [if_pos q, if_neg (by omega)]; rfl
      · rw [if_neg q, if_pos (by omega), if_pos q2]; exact g1 _ (by omega) (by omega)
    · rw [if_neg (fun x => q2 x.1), if_neg (show ¬ W - m ≤ j by omega), if_neg q2]; exact g1 j j0 j1
  · unfold c_cl c_mvl
    rw [if_neg (by omega)]; exact g2 j j0 j1
theorem c_wf_delc {W c m : Int} {r : Int → Int} (hw : c_wf W r) (hW : W ≤ 20) (h0 : 0 ≤ c) (h1 : 1 ≤ m) (h2 : c + m ≤ W) : c_wf W (r_delc W c m r) := by
  have fd := r_delc_at hw hW h0 h1 h2
  have we := c_wf_erase (a := c) (b := c + m - 1) hw hW h0 (by omega) (by omega)
  obtain ⟨f2, f3⟩ := r_erase_at (a := c) (b := c + m - 1) hw hW h0 (by omega) (by omega)
  have eb : ∀ i, c ≤ i → i < c + m → r_erase W c (c + m - 1) r i = 32 := fun i i0 i1 => by rw [f2 i (by omega), if_pos (by omega)]
  generalize r_erase W c (c + m - 1) r = r1 at *
  refine ⟨fun j j0 j1 => ?_, Or.inl rfl, Or.inl rfl⟩
  rw [fd j j0 j1]
  by_cases q : W - m ≤ j
  · rw [if_pos q]; exact Or.inl ⟨by decide, by decide, fun x => absurd x (by decide)⟩
  · rw [if_neg q]
    by_cases q2 : c ≤ j
    · rw [if_pos q2]
      rcases we.1 (j + m) (by omega) (by omega) with w | w
      · refine Or.inl ⟨w.1, w.2.1, fun k0 k1 => ?_⟩
        have w3 := w.2.2 k0 k1
        refine ⟨by omega, ?_⟩
        rw [fd (j + 1) (by omega) (by omega), if_neg (by omega), if_pos (by omega), show j + 1 + m = j + m + 1 by omega]; exact w3.2
      · have hne : j ≠ c := by
          intro x
          have e9 := eb (j + m - 1) (by omega) (by omega)
          omega
        refine Or.inr ⟨w.1, w.2.1, by omega, ?_⟩
        rw [fd (j - 1) (by omega) (by omega), if_neg (by omega), if_pos (by omega), show j - 1 + m = j + m - 1 by omega]; exact w.2.2.2
    · rw [if_neg q2]
      rcases we.1 j j0 j1 with w | w
      · refine Or.inl ⟨w.1, w.2.1, fun k0 k1 => ?_⟩
        have w3 := w.2.2 k0 k1
        have hne : j + 1 ≠ c := by
          intro x
          have e9 := eb (j + 1) (by omega) (by omega)
          omega
        refine ⟨w3.1, ?_⟩
        rw [fd (j + 1) (by omega) (by omega), if_neg (by omega), if_neg (by omega)]; exact w3.2
      · refine Or.inr ⟨w.1, w.2.1, w.2.2.1, ?_⟩
        rw [fd (j - 1) (by omega) (by omega), if_neg (by omega), if_neg (by omega)]; exact w.2.2.2
