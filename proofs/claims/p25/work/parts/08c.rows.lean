/-! cells inserted and taken away -/
def c_ce (W : Int) (r X : Int → Int) : Prop := (∀ c, 0 ≤ c → c < W → X c = c_en (r c)) ∧ (∀ c, W ≤ c → c < 20 → X c = 32)
theorem c_en_b (v : Int) (h : 0 ≤ v) : (65 ≤ c_en v ∧ c_en v ≤ 90) ↔ (65 ≤ v ∧ v ≤ 90) := by
  unfold c_en; split <;> omega
theorem c_wf_pos {W c : Int} {r : Int → Int} (hw : c_wf W r) (h0 : 0 ≤ c) (h1 : c < W) : 32 ≤ r c ∧ r c ≤ 218 := by
  have := hw.1 c h0 h1; omega
/-- the row ahead of the shift -/
theorem r_split1_at {W c : Int} {r : Int → Int} (j : Int) : r_split 1 c r j = if 128 ≤ r c ∧ (j = c ∨ j = c - 1) then 32 else r j := by
  unfold r_split
  by_cases q : 128 ≤ r c
  · rw [if_pos q, if_pos rfl]; unfold z_v
    by_cases q1 : j = c
    · rw [if_pos q1, if_pos ⟨q, Or.inl q1⟩]
    · rw [if_neg q1]
      by_cases q2 : j = c - 1
      · rw [if_pos q2, if_pos ⟨q, Or.inr q2⟩]
      · rw [if_neg q2, if_neg (by omega)]
  · rw [if_neg q, if_neg (fun x => q x.1)]
theorem c_op1_at {W c : Int} {r F X : Int → Int} (h : c_rw W r F X) (hw : c_wf W r) (hW : W ≤ 20) (h0 : 0 ≤ c) (h1 : c < W) (j : Int) : c_op1 X c j = if 128 ≤ r c ∧ (j = c ∨ j = c - 1) then 32 else X j := by
  have hn := c_wf_neg (c := c) h hw hW
  have w := hw.1 c h0 h1
  unfold c_op1
  by_cases q : 128 ≤ r c
  · rw [if_pos (hn.2 ⟨h0, h1, q⟩)]
    unfold c_set
    rw [if_pos (by omega), if_pos (by omega)]; unfold z_v
    by_cases q1 : j = c
    · rw [if_pos q1, if_pos ⟨q, Or.inl q1⟩]
    · rw [if_neg q1]
      by_cases q2 : j = c - 1
      · rw [if_pos q2, if_pos ⟨q, Or.inr q2⟩]
      · rw [if_neg q2, if_neg (by omega)]
  · rw [if_neg (fun x => q (hn.1 x).2.2), if_neg (fun x => q x.1)]
/-- the row of page and class ahead of the last step -/
theorem r_ins2_at {W c m : Int} {r : Int → Int} (j : Int) : r_f32 c (c + m) (r_shr m W (c + m) (r_split 1 c r)) j = if c ≤ j ∧ j < c + m then 32 else if c + m ≤ j ∧ j < W then r_split 1 c r (j - m) else r_split 1 c r j := rfl
theorem c_op2_at {c n W : Int} {X : Int → Int} (h0 : 0 ≤ c) (h2 : c + n ≤ W) (hW : W ≤ 20) (j : Int) : c_op2 X c n W j = if c ≤ j ∧ j < c + n then 32 else if c + n ≤ j ∧ j < W then c_op1 X c (j - n) else c_op1 X c j := by
  unfold c_op2 c_era
  by_cases q : c ≤ j ∧ j < c + n
  · rw [if_pos q, if_pos (by omega)]
  · rw [if_neg q, if_neg (by omega)]; rfl
theorem c_ins2 {W c m : Int} {r F X : Int → Int} (h : c_rw W r F X) (hw : c_wf W r) (hW : W ≤ 20) (h0 : 0 ≤ c) (h1 : 1 ≤ m) (h2 : c + m ≤ W) : c_ce W (r_f32 c (c + m) (r_shr m W (c + m) (r_split 1 c r))) (c_op2 X c m W) := by
  have e : ∀ j, 0 ≤ j → j < W → c_op1 X c j = c_en (r_split 1 c r j) := by
    intro j j0 j1
    rw [c_op1_at h hw hW h0 (by omega) j, r_split1_at (W := W) j]
    split
    · rfl
    · exact h.1 j j0 j1
  refine ⟨fun j j0 j1 => ?_, fun j j0 j1 => ?_⟩
  · rw [c_op2_at h0 h2 hW, r_ins2_at]
    by_cases q : c ≤ j ∧ j < c + m
    · rw [if_pos q, if_pos q]; rfl
    · rw [if_neg q, if_neg q]
      by_cases q2 : c + m ≤ j ∧ j < W
      · rw [if_pos q2, if_pos q2]; exact e _ (by omega) (by omega)
      · rw [if_neg q2, if_neg q2]; exact e _ j0 j1
  · rw [c_op2_at h0 h2 hW, if_neg (by omega), if_neg (by omega), c_op1_at h hw hW h0 (by omega) j]
    split
    · rfl
    · exact h.2.1 j j0 j1
theorem c_op_rw {W c m : Int} {r F X : Int → Int} (h : c_rw W r F X) (hw : c_wf W r) (hW : W ≤ 20) (h0 : 0 ≤ c) (h1 : 1 ≤ m) (h2 : c + m ≤ W) : c_rw W (r_insc W c m r) (c_un F) (c_op X c m W) := by
  obtain ⟨g1, g2⟩ := c_ins2 h hw hW h0 h1 h2
  have hpos : 0 ≤ (r_f32 c (c + m) (r_shr m W (c + m) (r_split 1 c r))) (W - 1) := by
    rw [r_ins2_at]
    split
    · decide
    · split
      · rw [r_split1_at (W := W)]; split
        · decide
        · have := c_wf_pos (c := W - 1 - m) hw (by omega) (by omega); omega
      · rw [r_split1_at (W := W)]; split
        · decide
        · have := c_wf_pos (c := W - 1) hw (by omega) (by omega); omega
  have hb := c_en_b _ hpos
  have ew := g1 (W - 1) (by omega) (by omega)
  unfold r_insc r_fixw c_op
  generalize (r_f32 c (c + m) (r_shr m W (c + m) (r_split 1 c r))) = r2 at *
  generalize (c_op2 X c m W) = X2 at *
  refine ⟨fun j j0 j1 => ?_, fun j j0 j1 => ?_, rfl, rfl⟩
  · rw [r_unw_cell (by omega)]
    by_cases q : 65 ≤ r2 (W - 1) ∧ r2 (W - 1) ≤ 90
    · rw [if_pos q, if_pos (by rw [ew]; exact hb.2 q)]; unfold z_v
      by_cases q2 : j = W - 1
      · rw [if_pos q2, if_pos q2]; rfl
      · rw [if_neg q2, if_neg q2]; exact g1 j j0 j1
    · rw [if_neg q, if_neg (by rw [ew]; exact fun x => q (hb.1 x))]; exact g1 j j0 j1
  · by_cases q : 65 ≤ X2 (W - 1) ∧ X2 (W - 1) ≤ 90
    · rw [if_pos q]; unfold z_v; rw [if_neg (by omega)]; exact g2 j j0 j1
    · rw [if_neg q]; exact g2 j j0 j1
