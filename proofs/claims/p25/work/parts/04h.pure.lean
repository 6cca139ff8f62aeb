theorem p_v_up2 (P r : Int → Int) (s c v : Int) (h0 : 0 ≤ c) (h1 : c < 22) : z_v (p_upd P s r) (15 + 22 * s + c) v = p_upd P s (z_v r c v) := by
  rw [p_v_upd _ _ _ _ h0 h1, p_upd_upd]
  refine p_upd_ext (fun j g0 g1 => ?_)
  unfold z_v
  rw [p_row_upd _ _ _ g0 g1]
theorem p_upd_at (P r : Int → Int) (s c : Int) (h0 : 0 ≤ c) (h1 : c < 22) : p_upd P s r (15 + 22 * s + c) = r c := p_row_upd P s r h0 h1
/-! cells of a row inserted and taken away -/
def r_split (g c : Int) (r : Int → Int) : Int → Int := if 128 ≤ r c then z_v (z_v r (c - 1) 32) c (if g = 1 then 32 else r c) else r
def p_split (g : Int) (P : Int → Int) : Int → Int := p_upd P (24 + P 4) (r_split g (P 5) (p_row P (24 + P 4)))
def r_shr (m W lo : Int) (r : Int → Int) : Int → Int := fun j => if lo ≤ j ∧ j < W then r (j - m) else r j
def r_shl (m c hi : Int) (r : Int → Int) : Int → Int := fun j => if c ≤ j ∧ j < hi then r (j + m) else r j
def r_f32 (a b : Int) (r : Int → Int) : Int → Int := fun j => if a ≤ j ∧ j < b then 32 else r j
def r_fixw (W : Int) (r : Int → Int) : Int → Int := if 65 ≤ r (W - 1) ∧ r (W - 1) ≤ 90 then z_v r (W - 1) 32 else r
def r_fix0 (W d : Int) (r : Int → Int) : Int → Int := if d < W ∧ 128 ≤ r d then z_v r d 32 else r
def r_insc (W c m : Int) (r : Int → Int) : Int → Int := r_unw (r_fixw W (r_f32 c (c + m) (r_shr m W (c + m) (r_split 1 c r))))
def r_delc (W c m : Int) (r : Int → Int) : Int → Int := r_unw (r_f32 (W - m) W (r_shl m c (W - m) (r_fix0 W (c + m) (r_split 0 c r))))
def m_mc (n : Int) (P : Int → Int) : Int := if n < P 0 - P 5 then n else P 0 - P 5
def p_insc (n : Int) (P : Int → Int) : Int → Int := z_v (p_upd P (24 + P 4) (r_insc (P 0) (P 5) (m_mc n P) (p_row P (24 + P 4)))) 6 0
def p_delc (n : Int) (P : Int → Int) : Int → Int := z_v (p_upd P (24 + P 4) (r_delc (P 0) (P 5) (m_mc n P) (p_row P (24 + P 4)))) 6 0
theorem z_pr_split {g c : Int} {r : Int → Int} (h : z_pr r) : z_pr (r_split g c r) := by
  unfold r_split
  have := h c
  split
  · refine z_pr_v (z_pr_v h (by decide) (by decide)) ?_ ?_ <;> split <;> omega
  · exact h
theorem z_pr_shr {m W lo : Int} {r : Int → Int} (h : z_pr r) : z_pr (r_shr m W lo r) := by
  intro j; unfold r_shr; split
  · exact h _
  · exact h _
theorem z_pr_shl {m c hi : Int} {r : Int → Int} (h : z_pr r) : z_pr (r_shl m c hi r) := by
  intro j; unfold r_shl; split
  · exact h _
  · exact h _
theorem z_pr_f32 {a b : Int} {r : Int → Int} (h : z_pr r) : z_pr (r_f32 a b r) := by
  intro j; unfold r_f32; split
  · omega
  · exact h _
theorem z_pr_fixw {W : Int} {r : Int → Int} (h : z_pr r) : z_pr (r_fixw W r) := by
  unfold r_fixw; split
  · exact z_pr_v h (by decide) (by decide)
  · exact h
theorem z_pr_fix0 {W d : Int} {r : Int → Int} (h : z_pr r) : z_pr (r_fix0 W d r) := by
  unfold r_fix0; split
  · exact z_pr_v h (by decide) (by decide)
  · exact h
theorem z_pr_insc {W c m : Int} {r : Int → Int} (h : z_pr r) : z_pr (r_insc W c m r) := z_pr_unw (z_pr_fixw (z_pr_f32 (z_pr_shr (z_pr_split h))))
theorem z_pr_delc {W c m : Int} {r : Int → Int} (h : z_pr r) : z_pr (r_delc W c m r) := z_pr_unw (z_pr_f32 (z_pr_shl (z_pr_fix0 (z_pr_split h))))
theorem p_hd_insc {P : Int → Int} {n : Int} (h : p_hd P) : p_hd (p_insc n P) := by
  obtain ⟨hw0, hw1, hh0, hh1, hf0, hf1, hf2, hr0, hr1, hc0, hc1, hp0, hp1, hk0, hk1, hi0, hi1, hkp, hP⟩ := id h
  exact p_hd_6 (p_hd_upd h (by omega) (z_pr_insc (z_pr_row hP _)))
theorem p_hd_delc {P : Int → Int} {n : Int} (h : p_hd P) : p_hd (p_delc n P) := by
  obtain ⟨hw0, hw1, hh0, hh1, hf0, hf1, hf2, hr0, hr1, hc0, hc1, hp0, hp1, hk0, hk1, hi0, hi1, hkp, hP⟩ := id h
  exact p_hd_6 (p_hd_upd h (by omega) (z_pr_delc (z_pr_row hP _)))
theorem r_shr_0 (m W : Int) (r : Int → Int) : r_shr m W W r = r := by funext j; unfold r_shr; rw [if_neg (by omega)]
theorem r_shl_0 (m c : Int) (r : Int → Int) : r_shl m c c r = r := by funext j; unfold r_shl; rw [if_neg (by omega)]
theorem r_f32_0 (a : Int) (r : Int → Int) : r_f32 a a r = r := by funext j; unfold r_f32; rw [if_neg (by omega)]
theorem r_shr_s {m W k : Int} {r : Int → Int} (hm : 0 < m) (hk : k < W) : z_v (r_shr m W (k + 1) r) k (r_shr m W (k + 1) r (k - m)) = r_shr m W k r := by
  funext j; unfold z_v r_shr
  grind
theorem r_shl_s {m c k : Int} {r : Int → Int} (hm : 0 < m) (hk : c ≤ k) : z_v (r_shl m c k r) k (r_shl m c k r (k + m)) = r_shl m c (k + 1) r := by
  funext j; unfold z_v r_shl
  grind
theorem r_f32_s {a k : Int} {r : Int → Int} (hk : a ≤ k) : z_v (r_f32 a k r) k 32 = r_f32 a (k + 1) r := by
  funext j; unfold z_v r_f32
  grind
/-! cursors kept -/
def p_kp (P : Int → Int) : Int → Int := z_v (z_v (z_v P (8 + 2 * P 7) (P 4)) (8 + 2 * P 7 + 1) (P 5)) 7 (P 7 + 1)
def p_bk (P : Int → Int) : Int → Int := p_goes (P (8 + 2 * (P 7 - 1))) (P (8 + 2 * (P 7 - 1) + 1)) (z_v P 7 (P 7 - 1))
theorem p_hd_kp {P : Int → Int} (h : p_hd P) (h3 : P 7 ≠ 3) : p_hd (p_kp P) := by
  obtain ⟨hw0, hw1, hh0, hh1, hf0, hf1, hf2, hr0, hr1, hc0, hc1, hp0, hp1, hk0, hk1, hi0, hi1, hkp, hP⟩ := id h
  have e : ∀ k, k ≠ 7 → k ≠ 8 + 2 * P 7 → k ≠ 8 + 2 * P 7 + 1 → p_kp P k = P k := fun k h1 h2 h3 => by unfold p_kp; rw [z_vn h1, z_vn h3, z_vn h2]
  have e7 : p_kp P 7 = P 7 + 1 := z_vs _ _ _
  have hq : z_pr (p_kp P) := z_pr_v (z_pr_v (z_pr_v hP (by omega) (by omega)) (by omega) (by omega)) (by omega) (by omega)
  unfold p_hd
  rw [e 0 (by decide) (by omega) (by omega), e 1 (by decide) (by omega) (by omega), e 2 (by decide) (by omega) (by omega), e 3 (by decide) (by omega) (by omega), e 4 (by decide) (by omega) (by omega), e 5 (by decide) (by omega) (by omega), e 6 (by decide) (by omega) (by omega), e7, e 14 (by decide) (by omega) (by omega)]
  refine ⟨hw0, hw1, hh0, hh1, hf0, hf1, hf2, hr0, hr1, hc0, hc1, hp0, hp1, by omega, by omega, hi0, hi1, fun j g0 g1 => ?_, hq⟩
  by_cases hj : j = P 7
  · subst hj
    have a1 : p_kp P (8 + 2 * P 7) = P 4 := by unfold p_kp; rw [z_vn (by omega), z_vn (by omega), z_vs]
    have a2 : p_kp P (8 + 2 * P 7 + 1) = P 5 := by unfold p_kp; rw [z_vn (by omega), z_vs]
    rw [a1, a2]; omega
  · rw [e _ (by omega) (by omega) (by omega), e _ (by omega) (by omega) (by omega)]
    exact hkp j g0 (by omega)
theorem p_hd_bk {P : Int → Int} (h : p_hd P) (h0 : P 7 ≠ 0) : p_hd (p_bk P) := by
  obtain ⟨hw0, hw1, hh0, hh1, hf0, hf1, hf2, hr0, hr1, hc0, hc1, hp0, hp1, hk0, hk1, hi0, hi1, hkp, hP⟩ := id h
  have hk := hkp (P 7 - 1) (by omega) (by omega)
  have hq : p_hd (z_v P 7 (P 7 - 1)) := by
    have e : ∀ k, k ≠ 7 → z_v P 7 (P 7 - 1) k = P k := fun k h1 => z_vn h1
    unfold p_hd
    rw [e 0 (by decide), e 1 (by decide), e 2 (by decide), e 3 (by decide), e 4 (by decide), e 5 (by decide), e 6 (by decide), z_vs, e 14 (by decide)]
    refine ⟨hw0, hw1, hh0, hh1, hf0, hf1, hf2, hr0, hr1, hc0, hc1, hp0, hp1, by omega, by omega, hi0, hi1, fun j g0 g1 => ?_, z_pr_v hP (by omega) (by omega)⟩
    rw [e _ (by omega), e _ (by omega)]
    exact hkp j g0 (by omega)
  have e0 : z_v P 7 (P 7 - 1) 0 = P 0 := z_vn (by decide)
  have e1 : z_v P 7 (P 7 - 1) 1 = P 1 := z_vn (by decide)
  have q0 := hP (8 + 2 * (P 7 - 1))
  have q1 := hP (8 + 2 * (P 7 - 1) + 1)
  exact p_hd_goes hq q0.1 (by omega) q1.1 (by omega)
