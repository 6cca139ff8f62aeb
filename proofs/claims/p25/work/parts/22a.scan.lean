/-! a row read from the left: left halves, single signs, blanks -/
section ZSCAN
variable {W c : Int} {R : Int → Int}
theorem sc_b (hw : c_wf W R) (c0 : 0 ≤ c) (c1 : c < W) (hn : ¬ 128 ≤ R c) : 32 ≤ R c ∧ R c ≤ 126 := c_wf_nr hw c0 c1 hn
theorem sc_w (hw : c_wf W R) (c0 : 0 ≤ c) (c1 : c < W) (hq : 65 ≤ R c ∧ R c ≤ 90) : c + 1 < W ∧ R (c + 1) = R c + 128 ∧ (c + 2 < W → ¬ 128 ≤ R (c + 2)) := by
  have a : c + 1 < W ∧ R (c + 1) = R c + 128 := by
    rcases hw.1 c c0 c1 with h | h
    · exact h.2.2 hq.1 hq.2
    · omega
  refine ⟨a.1, a.2, fun h2 h3 => ?_⟩
  rcases hw.1 (c + 2) (by omega) h2 with h | h
  · omega
  · have e := h.2.2.2
    rw [show c + 2 - 1 = c + 1 by omega] at e
    omega
theorem sc_n (hw : c_wf W R) (c0 : 0 ≤ c) (hq : ¬ (65 ≤ R c ∧ R c ≤ 90)) : c + 1 < W → ¬ 128 ≤ R (c + 1) := by
  intro h2 h3
  rcases hw.1 (c + 1) (by omega) h2 with h | h
  · omega
  · have e := h.2.2.2
    rw [show c + 1 - 1 = c by omega] at e
    omega
theorem n_used_s (c0 : 0 ≤ c) : n_used R (c + 1).toNat = if R c = 32 then n_used R c.toNat else c + 1 := by
  rw [show (c + 1).toNat = c.toNat + 1 by omega]
  show (if R (c.toNat : Nat) = 32 then n_used R c.toNat else ((c.toNat + 1 : Nat) : Int)) = _
  rw [show ((c.toNat : Nat) : Int) = c by omega]
  split
  · rfl
  · omega
abbrev s_sg (R : Int → Int) (c : Int) : Int := n_cnt (fun c => R c ≠ 32 ∧ ¬ 128 ≤ R c) c.toNat
abbrev s_tk (R : Int → Int) (c : Int) : Int := n_cnt (fun c => R c ≠ 32) c.toNat
theorem s_wide (hw : c_wf W R) (c0 : 0 ≤ c) (c1 : c < W) (hq : 65 ≤ R c ∧ R c ≤ 90) : s_sg R (c + 2) = s_sg R c + 1 ∧ s_tk R (c + 2) = s_tk R c + 2 ∧ n_used R (c + 2).toNat = c + 2 := by
  obtain ⟨a1, a2, -⟩ := sc_w hw c0 c1 hq
  have e : c + 2 = c + 1 + 1 := by omega
  refine ⟨?_, ?_, ?_⟩
  · unfold s_sg
    rw [e, n_cnt_s _ (by omega), n_cnt_s _ c0, if_pos ⟨by omega, by omega⟩, if_neg (by omega)]; omega
  · unfold s_tk
    rw [e, n_cnt_s _ (by omega), n_cnt_s _ c0, if_pos (by omega), if_pos (by omega)]; omega
  · rw [e, n_used_s (by omega), if_neg (by omega)]
theorem s_one (c0 : 0 ≤ c) (hn : ¬ 128 ≤ R c) (h32 : R c ≠ 32) : s_sg R (c + 1) = s_sg R c + 1 ∧ s_tk R (c + 1) = s_tk R c + 1 ∧ n_used R (c + 1).toNat = c + 1 := by
  refine ⟨?_, ?_, ?_⟩
  · unfold s_sg
    rw [n_cnt_s _ c0, if_pos ⟨h32, hn⟩]
  · unfold s_tk
    rw [n_cnt_s _ c0, if_pos h32]
  · rw [n_used_s c0, if_neg h32]
theorem s_blank (c0 : 0 ≤ c) (h32 : R c = 32) : s_sg R (c + 1) = s_sg R c ∧ s_tk R (c + 1) = s_tk R c ∧ n_used R (c + 1).toNat = n_used R c.toNat := by
  refine ⟨?_, ?_, ?_⟩
  · unfold s_sg
    rw [n_cnt_s _ c0, if_neg (fun x => x.1 h32)]; omega
  · unfold s_tk
    rw [n_cnt_s _ c0, if_neg (fun x => x h32)]; omega
  · rw [n_used_s c0, if_pos h32]
end ZSCAN
/-! what the law asks of a page, in its own words -/
section ZANS
variable {P : Int → Int} {n r c what row : Int}
theorem told_0 : m_toldA P n 0 = P 0 := by unfold m_toldA; rw [if_neg (by decide), if_pos (by decide)]
theorem told_1 : m_toldA P n 1 = P 1 := by unfold m_toldA; rw [if_neg (by decide), if_pos (by decide)]
theorem told_2 : m_toldA P n 2 = P 2 := by unfold m_toldA; rw [if_neg (by decide), if_pos (by decide)]
theorem told_3 : m_toldA P n 3 = P 3 := by unfold m_toldA; rw [if_neg (by decide), if_pos (by decide)]
theorem told_4 : m_toldA P n 4 = P 6 := by unfold m_toldA; rw [if_neg (by decide), if_neg (by decide), if_pos (by decide)]
theorem told_5 : m_toldA P n 5 = P 14 := by unfold m_toldA; rw [if_neg (by decide), if_neg (by decide), if_neg (by decide), if_pos (by decide)]
theorem told_6 : m_toldA P n 6 = P 7 := by unfold m_toldA; rw [if_neg (by decide), if_neg (by decide), if_neg (by decide), if_neg (by decide), if_pos (by decide)]
theorem told_7 : m_toldA P n 7 = m_lno P (m_count P) (m_count P) := by unfold m_toldA; rw [if_neg (by decide), if_neg (by decide), if_neg (by decide), if_neg (by decide), if_neg (by decide), if_pos (by decide)]
theorem told_8 : m_toldA P n 8 = m_count P := by unfold m_toldA; rw [if_neg (by decide), if_neg (by decide), if_neg (by decide), if_neg (by decide), if_neg (by decide), if_neg (by decide), if_pos (by decide)]
theorem told_9 : m_toldA P n 9 = m_fillA P := by unfold m_toldA; rw [if_neg (by decide), if_neg (by decide), if_neg (by decide), if_neg (by decide), if_neg (by decide), if_neg (by decide), if_neg (by decide), if_pos (by decide)]
theorem cell_in (hH : p_hd P) (r0 : 0 ≤ r) (r1 : r < P 1) (c0 : 0 ≤ c) (c1 : c < P 0) : m_cellA P r c = if 128 ≤ p_row P (24 + r) c then p_row P (24 + r) c - 128 else p_row P (24 + r) c := by
  unfold m_cellA
  rw [if_neg (by omega)]; rfl
theorem row_scr (hH : p_hd P) (r0 : 0 ≤ r) (r1 : r < P 1) (w0 : 0 ≤ what) (w1 : what ≤ 3) : m_rowA P r what = m_ros P (24 + r) what := by
  have h14 := hH.2.2.2.2.2.2.2.2.2.2.2.2.2.2.2.1
  unfold m_rowA
  rw [if_neg (by omega), if_neg (by omega), if_neg (by omega)]
theorem row_at (hH : p_hd P) (r0 : 0 ≤ r) (r1 : r < P 14 + P 1) (w0 : 0 ≤ what) (w1 : what ≤ 3) : m_rowA P (r - P 14) what = m_ros P (m_slot P r) what := by
  have h14 := hH.2.2.2.2.2.2.2.2.2.2.2.2.2.2.2.1
  have h15 := hH.2.2.2.2.2.2.2.2.2.2.2.2.2.2.2.2.1
  rw [m_rowA_ros (by omega) (by omega) w0 w1 (by omega), show r - P 14 + P 14 = r by omega]
theorem ros_0 {s : Int} : m_ros P s 0 = p_row P s 20 := by unfold m_ros; rw [if_pos (by decide)]; rfl
theorem ros_1 {s : Int} : m_ros P s 1 = p_row P s 21 := by unfold m_ros; rw [if_pos (by decide)]; rfl
theorem ros_2 {s : Int} : m_ros P s 2 = n_used (p_row P s) (P 0).toNat := by unfold m_ros; rw [if_neg (by decide), if_pos (by decide)]; rfl
theorem ros_3 {s : Int} : m_ros P s 3 = s_sg (p_row P s) (P 0) := by unfold m_ros; rw [if_neg (by decide), if_neg (by decide)]; rfl
/-- every row that counts, or is on the screen, holds whole signs -/
def p_W (P : Int → Int) : Prop := ∀ s, gg_in P s → c_wf (P 0) (p_row P s)
theorem p_W_k (hH : p_hd P) (h : p_W P) {k : Int} (k0 : 0 ≤ k) (k1 : k < P 14 + P 1) : c_wf (P 0) (p_rows P k) := by
  have h1 := hH.2.2.1
  refine h (m_slot P k) ?_
  unfold gg_in m_slot; split <;> omega
theorem x_W {E : z_E} {mi : z_Mi} {mr : z_Mr} {o : Nat} {n nx : Int} (hX : z_X E o mi mr P n nx) : p_W P := by
  obtain ⟨h1, h2, hH, ⟨sg, h3, h4, h5⟩, h6⟩ := hX
  obtain ⟨pw0, pw1, ph0, ph1, pf0, pf1, pf2, pr0, pr1, pc0, pc1, pp0, pp1, pk0, pk1, pi0, pi1, pkp, pP⟩ := id hH
  intro s hs
  unfold gg_in at hs
  by_cases q : s < P 14
  · have := (h5.2.2 s (by omega) (by omega)).2
    unfold p_rows m_slot at this; rw [if_pos q] at this; exact this
  · have := (h5.2.2 (s - 24 + P 14) (by omega) (by omega)).2
    unfold p_rows m_slot at this; rw [if_neg (by omega), show 24 + (s - 24 + P 14) - P 14 = s by omega] at this; exact this
end ZANS
