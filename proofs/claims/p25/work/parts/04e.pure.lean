theorem p_hd_fl5 {P : Int → Int} (h : p_hd P) : p_hd (z_v (p_fl P) 5 0) := by
  obtain ⟨hw0, hw1, hh0, hh1, hf0, hf1, hf2, hr0, hr1, hc0, hc1, hp0, hp1, hk0, hk1, hi0, hi1, hkp, hP⟩ := id h
  have e0 : p_fl P 0 = P 0 := p_fl_hd h (by decide) (by decide)
  exact p_hd_set (p_hd_fl h) (by omega)
theorem p_hd_6 {P : Int → Int} (h : p_hd P) : p_hd (z_v P 6 0) := p_hd_set h (by omega)
theorem p_hd_w1 {P : Int → Int} (h : p_hd P) : p_hd (p_w1 P) := by
  unfold p_w1; split
  · exact p_hd_go (p_hd_6 h)
  · exact h
theorem p_hd_w2 {P : Int → Int} {code : Int} (h : p_hd P) : p_hd (p_w2 code P) := by
  obtain ⟨hw0, hw1, hh0, hh1, hf0, hf1, hf2, hr0, hr1, hc0, hc1, hp0, hp1, hk0, hk1, hi0, hi1, hkp, hP⟩ := id h
  unfold p_w2; split
  · exact p_hd_go (p_hd_erases h (by omega))
  · exact h
theorem p_sz_b (code : Int) : 1 ≤ p_sz code ∧ p_sz code ≤ 2 := by unfold p_sz; split <;> omega
theorem p_w2_room {P : Int → Int} {code : Int} (h : p_hd P) : p_w2 code P 5 + p_sz code ≤ p_w2 code P 0 := by
  obtain ⟨hw0, hw1, hh0, hh1, hf0, hf1, hf2, hr0, hr1, hc0, hc1, hp0, hp1, hk0, hk1, hi0, hi1, hkp, hP⟩ := id h
  have hs := p_sz_b code
  unfold p_w2; split
  · have he : p_hd (p_erases P (P 4) (P 5) (P 5)) := p_hd_erases h (by omega)
    rw [p_go_5 he, p_go_hd he (by decide) (by decide) (by decide), p_erases_hd (by decide) (by omega)]
    omega
  · next hn =>
    unfold p_sz
    split <;> omega
theorem p_hd_w3 {P : Int → Int} {code : Int} (h : p_hd P) (h0 : 0 ≤ code) (h1 : code ≤ 126) : p_hd (p_w3 code P) := by
  obtain ⟨hw0, hw1, hh0, hh1, hf0, hf1, hf2, hr0, hr1, hc0, hc1, hp0, hp1, hk0, hk1, hi0, hi1, hkp, hP⟩ := id h
  exact p_hd_sets (p_hd_frees h (by omega)) (by omega) h0 (by omega)
theorem p_w3_hd {P : Int → Int} {code k : Int} (h : p_hd P) (hk : k < 15) : p_w3 code P k = P k := by
  obtain ⟨hw0, hw1, hh0, hh1, hf0, hf1, hf2, hr0, hr1, hc0, hc1, hp0, hp1, hk0, hk1, hi0, hi1, hkp, hP⟩ := id h
  unfold p_w3
  rw [p_sets_hd hk (by omega), p_frees_hd hk (by omega)]
theorem p_hd_w4 {P Q : Int → Int} {code : Int} (h : p_hd Q) (h4 : 0 ≤ P 4) (h0 : 0 ≤ code) (h1 : code ≤ 126) : p_hd (p_w4 code P Q) := by
  unfold p_w4; split
  · exact p_hd_sets h h4 (by omega) (by omega)
  · exact h
theorem p_w4_hd {P Q : Int → Int} {code k : Int} (h4 : 0 ≤ P 4) (hk : k < 15) : p_w4 code P Q k = Q k := by
  unfold p_w4; split
  · exact p_sets_hd hk h4
  · rfl
theorem p_hd_write {P : Int → Int} {code : Int} (h : p_hd P) (h0 : 0 ≤ code) (h1 : code ≤ 126) : p_hd (p_write code P) := by
  have h2 := p_hd_w2 (code := code) (p_hd_w1 h)
  have hr := p_w2_room (code := code) (p_hd_w1 h)
  have hs := p_sz_b code
  unfold p_write
  generalize p_w2 code (p_w1 P) = Q at h2 hr
  obtain ⟨hw0, hw1, hh0, hh1, hf0, hf1, hf2, hr0, hr1, hc0, hc1, hp0, hp1, hk0, hk1, hi0, hi1, hkp, hP⟩ := id h2
  have h3 := p_hd_w4 (P := Q) (p_hd_w3 (code := code) h2 h0 h1) (by omega) h0 h1
  have e0 : p_w4 code Q (p_w3 code Q) 0 = Q 0 := by rw [p_w4_hd (by omega) (by decide), p_w3_hd h2 (by decide)]
  unfold p_w6 p_w5
  refine p_hd_set (p_hd_set h3 ?_) ?_
  · refine Or.inr (Or.inl ⟨rfl, ?_⟩)
    rw [e0]; split <;> omega
  · refine Or.inr (Or.inr (Or.inl ⟨rfl, ?_⟩))
    split <;> omega
/-! controls -/
def p_mvq (code : Int) (P : Int → Int) : Int → Int := if code = 10 then p_fl P else P
def p_mvc (code c W : Int) : Int := if code = 8 then (if 0 < c then c - 1 else 0) else if code = 9 then (if 4 * (c / 4 + 1) < W then 4 * (c / 4 + 1) else W - 1) else if code = 13 then 0 else c
def p_move (code : Int) (P : Int → Int) : Int → Int := z_v (z_v (p_mvq code P) 5 (p_mvc code (P 5) (P 0))) 6 0
theorem p_hd_mvq {P : Int → Int} {code : Int} (h : p_hd P) : p_hd (p_mvq code P) := by
  unfold p_mvq; split
  · exact p_hd_fl h
  · exact h
theorem p_mvq_hd {P : Int → Int} {code k : Int} (h : p_hd P) (hk : k < 14) (h4 : k ≠ 4) : p_mvq code P k = P k := by
  unfold p_mvq; split
  · exact p_fl_hd h hk h4
  · rfl
theorem p_mvc_b {code c W : Int} (h0 : 0 ≤ c) (h1 : c < W) : 0 ≤ p_mvc code c W ∧ p_mvc code c W < W := by
  unfold p_mvc
  split
  · split <;> omega
  · split
    · split <;> omega
    · split <;> omega
theorem p_hd_move {P : Int → Int} {code : Int} (h : p_hd P) : p_hd (p_move code P) := by
  obtain ⟨hw0, hw1, hh0, hh1, hf0, hf1, hf2, hr0, hr1, hc0, hc1, hp0, hp1, hk0, hk1, hi0, hi1, hkp, hP⟩ := id h
  have e0 : p_mvq code P 0 = P 0 := p_mvq_hd h (by decide) (by decide)
  have hb := p_mvc_b (code := code) hc0 hc1
  exact p_hd_6 (p_hd_set (p_hd_mvq h) (by omega))
theorem p_rec_hd {P : Int → Int} {n k : Int} (h0 : 0 ≤ n) (hk : k < 719) : p_rec n P k = P k := by
  unfold p_rec
  split
  · rw [if_neg (by omega), if_neg (by omega)]
  · rw [if_neg (by omega)]
theorem z_pr_rec {P : Int → Int} {n : Int} (h : z_pr P) : z_pr (p_rec n P) := by
  intro k; unfold p_rec
  split
  · split
    · exact h _
    · split
      · exact h _
      · exact h _
  · split
    · exact h _
    · exact h _
theorem p_hd_rec {P : Int → Int} {n : Int} (h : p_hd P) (h0 : 0 ≤ n) : p_hd (p_rec n P) := p_hd_congr h (fun k _ hk => p_rec_hd h0 (by omega)) (z_pr_rec (p_hd_pr h))
