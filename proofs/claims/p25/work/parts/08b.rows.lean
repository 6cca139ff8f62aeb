/-! a sign is put -/
def r_put (W c v : Int) (r : Int → Int) : Int → Int := if 65 ≤ v ∧ v ≤ 90 then r_set W (c + 1) (v + 128) (r_set W c v r) else r_set W c v r
theorem c_sz_p (v : Int) : c_sz v = p_sz v := rfl
theorem r_put_fill (W c v : Int) (r : Int → Int) : r_put W c v (r_fill W c (c + p_sz v - 1) r) = r_put W c v r := by
  funext j
  unfold r_put p_sz
  by_cases q : 65 ≤ v ∧ v ≤ 90
  · rw [if_pos q, if_pos q, if_pos q]
    unfold r_set r_fill
    by_cases q1 : j = c + 1
    · rw [if_pos q1, if_pos q1]
    · rw [if_neg q1, if_neg q1]
      by_cases q2 : (j = 20 ∨ j = 21) ∧ c + 1 = W - 1
      · rw [if_pos q2, if_pos q2]
      · rw [if_neg q2, if_neg q2]
        by_cases q3 : j = c
        · rw [if_pos q3, if_pos q3]
        · rw [if_neg q3, if_neg q3]
          by_cases q4 : (j = 20 ∨ j = 21) ∧ c = W - 1
          · rw [if_pos q4, if_pos q4]
          · rw [if_neg q4, if_neg q4, if_neg (by omega), if_neg (by omega)]
  · rw [if_neg q, if_neg q, if_neg q]
    unfold r_set r_fill
    by_cases q3 : j = c
    · rw [if_pos q3, if_pos q3]
    · rw [if_neg q3, if_neg q3]
      by_cases q4 : (j = 20 ∨ j = 21) ∧ c = W - 1
      · rw [if_pos q4, if_pos q4]
      · rw [if_neg q4, if_neg q4, if_neg (by omega), if_neg (by omega)]
theorem r_put_free (W c v : Int) (r : Int → Int) : r_put W c v (r_free W c (c + p_sz v - 1) r) = r_put W c v (r_erase W c (c + p_sz v - 1) r) := by
  unfold r_erase; rw [r_put_fill]
theorem r_put_at {W c v : Int} {r : Int → Int} (j : Int) (hj : j < 20) : r_put W c v r j = if j = c then v else if (65 ≤ v ∧ v ≤ 90) ∧ j = c + 1 then v + 128 else r j := by
  unfold r_put
  by_cases q : 65 ≤ v ∧ v ≤ 90
  · rw [if_pos q]; unfold r_set
    by_cases q1 : j = c + 1
    · rw [if_pos q1, if_neg (by omega), if_pos ⟨q, q1⟩]
    · rw [if_neg q1, if_neg (by omega)]
      by_cases q2 : j = c
      · rw [if_pos q2, if_pos q2]
      · rw [if_neg q2, if_neg (by omega), if_neg q2, if_neg (fun x => q1 x.2)]
  · rw [if_neg q]; unfold r_set
    by_cases q2 : j = c
    · rw [if_pos q2, if_pos q2]
    · rw [if_neg q2, if_neg (by omega), if_neg q2, if_neg (fun x => q x.1)]
theorem r_put_fl {W c v : Int} {r : Int → Int} {j : Int} (hc : c + p_sz v ≤ W) (hW : W ≤ 20) (hj : j = 20 ∨ j = 21) : r_put W c v r j = if c + p_sz v = W then 0 else r j := by
  unfold r_put p_sz at *
  by_cases q : 65 ≤ v ∧ v ≤ 90
  · rw [if_pos q] at hc
    rw [if_pos q, if_pos q]; unfold r_set
    rw [if_neg (by omega)]
    by_cases q1 : c + 2 = W
    · rw [if_pos (by omega), if_pos q1]
    · rw [if_neg (by omega), if_neg (by omega), if_neg (by omega), if_neg q1]
  · rw [if_neg q] at hc
    rw [if_neg q, if_neg q]; unfold r_set
    rw [if_neg (by omega)]
    by_cases q1 : c + 1 = W
    · rw [if_pos (by omega), if_pos q1]
    · rw [if_neg (by omega), if_neg q1]
theorem c_put_at {X : Int → Int} {c v : Int} (hc : 0 ≤ c) (hc2 : c + p_sz v ≤ 20) (j : Int) : c_put X c v j = if j = c then v else if (65 ≤ v ∧ v ≤ 90) ∧ j = c + 1 then -v else X j := by
  unfold c_put p_sz at *
  by_cases q : 65 ≤ v ∧ v ≤ 90
  · rw [if_pos q] at hc2
    rw [if_pos q]; unfold c_set
    rw [if_pos (by omega), if_pos (by omega)]; unfold z_v
    by_cases q1 : j = c + 1
    · rw [if_pos q1, if_neg (by omega), if_pos ⟨q, q1⟩]
    · rw [if_neg q1]
      by_cases q2 : j = c
      · rw [if_pos q2, if_pos q2]
      · rw [if_neg q2, if_neg q2, if_neg (fun x => q1 x.2)]
  · rw [if_neg q] at hc2
    rw [if_neg q]; unfold c_set
    rw [if_pos (by omega)]; unfold z_v
    by_cases q2 : j = c
    · rw [if_pos q2, if_pos q2]
    · rw [if_neg q2, if_neg q2, if_neg (fun x => q x.1)]
theorem c_put_rw {W c v : Int} {r F X : Int → Int} (h : c_rw W r F X) (hW : W ≤ 20) (h0 : 0 ≤ c) (h1 : c + p_sz v ≤ W) (hv0 : 32 ≤ v) (hv1 : v ≤ 126) (hf : c + p_sz v = W → r 20 = 0 ∧ r 21 = 0) : c_rw W (r_put W c v r) F (c_put X c v) := by
  obtain ⟨g1, g2, g3, g4⟩ := h
  have hs := p_sz_b v
  have hs2 : (65 ≤ v ∧ v ≤ 90) → p_sz v = 2 := fun q => if_pos q
  refine ⟨fun j p0 p1 => ?_, fun j p0 p1 => ?_, ?_, ?_⟩
  · rw [c_put_at h0 (by omega), r_put_at j (by omega)]
    by_cases q : j = c
    · rw [if_pos q, if_pos q]; unfold c_en; rw [if_neg (by omega)]
    · rw [if_neg q, if_neg q]
      by_cases q2 : (65 ≤ v ∧ v ≤ 90) ∧ j = c + 1
      · rw [if_pos q2, if_pos q2]; unfold c_en; rw [if_pos (by omega)]; omega
      · rw [if_neg q2, if_neg q2]; exact g1 j p0 p1
  · rw [c_put_at h0 (by omega), if_neg (by omega), if_neg (fun q => by have := hs2 q.1; omega)]; exact g2 j p0 p1
  · rw [r_put_fl h1 hW (Or.inl rfl)]; split
    · next q => rw [g3]; exact (hf q).1
    · exact g3
  · rw [r_put_fl h1 hW (Or.inr rfl)]; split
    · next q => rw [g4]; exact (hf q).2
    · exact g4
theorem c_wf_put {W c v : Int} {r : Int → Int} (hw : c_wf W r) (hW : W ≤ 20) (h0 : 0 ≤ c) (h1 : c + p_sz v ≤ W) (hv0 : 32 ≤ v) (hv1 : v ≤ 126) (hb : ∀ j, c ≤ j → j < c + p_sz v → r j = 32) : c_wf W (r_put W c v r) := by
  have hs := p_sz_b v
  have hs2 : (65 ≤ v ∧ v ≤ 90) → p_sz v = 2 := fun q => if_pos q
  have hs3 : ¬ (65 ≤ v ∧ v ≤ 90) → p_sz v = 1 := fun q => if_neg q
  refine ⟨fun j p0 p1 => ?_, ?_, ?_⟩
  · have w := hw.1 j p0 p1
    rw [r_put_at j (by omega)]
    by_cases q : j = c
    · rw [if_pos q]
      refine Or.inl ⟨hv0, hv1, fun k0 k1 => ?_⟩
      have := hs2 ⟨k0, k1⟩
      refine ⟨by omega, ?_⟩
      rw [r_put_at (j + 1) (by omega), if_neg (by omega), if_pos ⟨⟨k0, k1⟩, by omega⟩]
    · rw [if_neg q]
      by_cases q2 : (65 ≤ v ∧ v ≤ 90) ∧ j = c + 1
      · rw [if_pos q2]
        refine Or.inr ⟨by omega, by omega, by omega, ?_⟩
        rw [r_put_at (j - 1) (by omega), if_pos (by omega)]; omega
      · rw [if_neg q2]
        rcases w with w | w
        · refine Or.inl ⟨w.1, w.2.1, fun k0 k1 => ?_⟩
          have w3 := w.2.2 k0 k1
          refine ⟨w3.1, ?_⟩
          have hne : ∀ i, c ≤ i → i < c + p_sz v → j + 1 ≠ i := by
            intro i i0 i1 e
            have := hb i i0 i1
            rw [← e] at this; omega
          have e1 := hne c (by omega) (by omega)
          rw [r_put_at (j + 1) (by omega), if_neg e1, if_neg (fun x => hne (c + 1) (by omega) (by have := hs2 x.1; omega) x.2)]
          exact w3.2
        · refine Or.inr ⟨w.1, w.2.1, w.2.2.1, ?_⟩
          have hne : ∀ i, c ≤ i → i < c + p_sz v → j - 1 ≠ i := by
            intro i i0 i1 e
            have := hb i i0 i1
            rw [← e] at this; omega
          have e1 := hne c (by omega) (by omega)
          rw [r_put_at (j - 1) (by omega), if_neg e1, if_neg (fun x => hne (c + 1) (by omega) (by have := hs2 x.1; omega) x.2)]
          exact w.2.2.2
  · rw [r_put_fl h1 hW (Or.inl rfl)]; split
    · exact Or.inl rfl
    · exact hw.2.1
  · rw [r_put_fl h1 hW (Or.inr rfl)]; split
    · exact Or.inl rfl
    · exact hw.2.2
theorem c_ov_rw {W c v : Int} {r F X : Int → Int} (h : c_rw W r F X) (hw : c_wf W r) (hW : W ≤ 20) (h0 : 0 ≤ c) (h1 : c + p_sz v ≤ W) (hv0 : 32 ≤ v) (hv1 : v ≤ 126) : c_rw W (r_put W c v (r_free W c (c + p_sz v - 1) r)) (c_ovF X F c v W) (c_ov X c v) ∧ c_wf W (r_put W c v (r_free W c (c + p_sz v - 1) r)) := by
  have hs := p_sz_b v
  rw [r_put_free]
  obtain ⟨f2, f3⟩ := r_erase_at (a := c) (b := c + p_sz v - 1) hw hW h0 (by omega) (by omega)
  constructor
  · refine c_put_rw (c_er_rw h hw hW h0 (by omega) (by omega)) hW h0 h1 hv0 hv1 (fun q => ⟨?_, ?_⟩)
    · rw [f3 20 (Or.inl rfl), if_pos (Or.inl (by omega))]
    · rw [f3 21 (Or.inr rfl), if_pos (Or.inl (by omega))]
  · refine c_wf_put (c_wf_erase hw hW h0 (by omega) (by omega)) hW h0 h1 hv0 hv1 (fun j j0 j1 => ?_)
    rw [f2 j (by omega), if_pos ⟨j0, by omega⟩]
/-! a blank row, a row without its marks -/
theorem c_bl_rw {W : Int} {F X : Int → Int} (hW0 : 0 ≤ W) (hW : W ≤ 20) : c_rw W r_blank (c_un F) (c_bl X 20) := by
  refine ⟨fun c p0 p1 => ?_, fun c p0 p1 => ?_, rfl, rfl⟩
  · unfold c_bl r_blank; rw [if_pos (by omega), if_neg (by omega)]; rfl
  · unfold c_bl; rw [if_pos (by omega)]
theorem c_wf_blank {W : Int} (hW : W ≤ 20) : c_wf W r_blank := by
  refine ⟨fun c p0 p1 => Or.inl ?_, Or.inl rfl, Or.inl rfl⟩
  have e : r_blank c = 32 := if_neg (by omega)
  rw [e]; exact ⟨by decide, by decide, fun x => absurd x (by decide)⟩
theorem c_un_rw {W : Int} {r F X : Int → Int} (h : c_rw W r F X) (hW : W ≤ 20) : c_rw W (r_unw r) (c_un F) X := by
  obtain ⟨g1, g2, g3, g4⟩ := h
  refine ⟨fun c p0 p1 => ?_, g2, rfl, rfl⟩
  rw [r_unw_cell (by omega)]; exact g1 c p0 p1
theorem c_wf_unw {W : Int} {r : Int → Int} (hw : c_wf W r) (hW : W ≤ 20) : c_wf W (r_unw r) := by
  refine ⟨fun c p0 p1 => ?_, Or.inl rfl, Or.inl rfl⟩
  have w := hw.1 c p0 p1
  rw [r_unw_cell (show c < 20 by omega), r_unw_cell (show c - 1 < 20 by omega)]
  rcases w with w | w
  · refine Or.inl ⟨w.1, w.2.1, fun k0 k1 => ?_⟩
    have w3 := w.2.2 k0 k1
    rw [r_unw_cell (by omega)]; exact w3
  · exact Or.inr w
