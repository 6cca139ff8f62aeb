/-! rows put in and taken away: page and class -/
theorem p_ahead_at {P : Int → Int} {row s c : Int} (s0 : 0 ≤ s) (c0 : 0 ≤ c) (c1 : c < 22) : p_ahead P row (15 + 22 * s + c) = if (0 < row ∧ s = 24 + row - 1 ∨ row ≤ 0 ∧ 0 < P 14 ∧ s = P 14 - 1) ∧ (c = 20 ∨ c = 21) then 0 else P (15 + 22 * s + c) := by
  have hu : ∀ t, p_upd P t (r_unw (p_row P t)) (15 + 22 * s + c) = if s = t ∧ (c = 20 ∨ c = 21) then 0 else P (15 + 22 * s + c) := by
    intro t
    by_cases q : s = t
    · subst q
      rw [p_upd_at _ _ _ _ c0 c1, r_unw_x]
      by_cases q2 : c = 20 ∨ c = 21
      · rw [if_pos q2, if_pos ⟨rfl, q2⟩]
      · rw [if_neg q2, if_neg (fun x => q2 x.2)]; rfl
    · rw [p_upd_out _ _ (by omega), if_neg (fun x => q x.1)]
  unfold p_ahead
  by_cases q1 : 0 < row
  · rw [if_pos q1, hu]
    by_cases q2 : s = 24 + row - 1 ∧ (c = 20 ∨ c = 21)
    · rw [if_pos q2, if_pos ⟨Or.inl ⟨q1, q2.1⟩, q2.2⟩]
    · rw [if_neg q2, if_neg (by omega)]
  · rw [if_neg q1]
    by_cases q3 : 0 < P 14
    · rw [if_pos q3, hu]
      by_cases q2 : s = P 14 - 1 ∧ (c = 20 ∨ c = 21)
      · rw [if_pos q2, if_pos ⟨Or.inr ⟨by omega, q3, q2.1⟩, q2.2⟩]
      · rw [if_neg q2, if_neg (by omega)]
    · rw [if_neg q3, if_neg (by omega)]
theorem p_unw_at {P : Int → Int} {t s c : Int} (c0 : 0 ≤ c) (c1 : c < 22) : p_unw P t (15 + 22 * s + c) = if s = t ∧ (c = 20 ∨ c = 21) then 0 else P (15 + 22 * s + c) := by
  unfold p_unw
  by_cases q : s = t
  · subst q
    rw [p_upd_at _ _ _ _ c0 c1, r_unw_x]
    by_cases q2 : c = 20 ∨ c = 21
    · rw [if_pos q2, if_pos ⟨rfl, q2⟩]
    · rw [if_neg q2, if_neg (fun x => q2 x.2)]; rfl
  · rw [p_upd_out _ _ (by omega), if_neg (fun x => q x.1)]
theorem p_dn_at {P : Int → Int} {lo hi m s c : Int} (c0 : 0 ≤ c) (c1 : c < 22) : p_dn P lo hi m (15 + 22 * s + c) = if lo ≤ s ∧ s < hi then P (15 + 22 * (s - m) + c) else P (15 + 22 * s + c) := by
  unfold p_dn
  by_cases q : lo ≤ s ∧ s < hi
  · rw [if_pos (by omega), if_pos q]; congr 1; omega
  · rw [if_neg (by omega), if_neg q]
theorem p_up_at {P : Int → Int} {lo hi m s c : Int} (c0 : 0 ≤ c) (c1 : c < 22) : p_up P lo hi m (15 + 22 * s + c) = if lo ≤ s ∧ s < hi then P (15 + 22 * (s + m) + c) else P (15 + 22 * s + c) := by
  unfold p_up
  by_cases q : lo ≤ s ∧ s < hi
  · rw [if_pos (by omega), if_pos q]; congr 1; omega
  · rw [if_neg (by omega), if_neg q]
theorem p_blk_at {P : Int → Int} {lo hi s c : Int} (c0 : 0 ≤ c) (c1 : c < 22) : p_blk P lo hi (15 + 22 * s + c) = if lo ≤ s ∧ s < hi then r_blank c else P (15 + 22 * s + c) := by
  unfold p_blk
  by_cases q : lo ≤ s ∧ s < hi
  · rw [if_pos (by omega), if_pos q]; congr 1; omega
  · rw [if_neg (by omega), if_neg q]
theorem m_slot_k {P : Int → Int} {k : Int} : (k < P 14 ∧ m_slot P k = k) ∨ (¬ k < P 14 ∧ m_slot P k = 24 + k - P 14) := by unfold m_slot; split <;> omega
theorem p_insr_hd {P : Int → Int} {n j : Int} (hH : p_hd P) (hn : 1 ≤ n) (hr : P 4 ≤ P 3) (hj : j < 15) : p_insr n P j = z_v P 6 0 j := by
  obtain ⟨hw0, hw1, hh0, hh1, hf0, hf1, hf2, hr0, hr1, hc0, hc1, hp0, hp1, hk0, hk1, hi0, hi1, hkp, hP⟩ := id hH
  have hm := m_many_b hn hr
  unfold p_insr z_v
  by_cases q : j = 6
  · rw [if_pos q, if_pos q]
  · rw [if_neg q, if_neg q]
    have e1 : ∀ A : Int → Int, p_blk A (24 + P 4) (24 + P 4 + m_many n P) j = A j := fun A => if_neg (by omega)
    have e2 : ∀ A : Int → Int, p_unw A (24 + P 3) j = A j := fun A => p_upd_hd _ _ (by omega)
    have e3 : ∀ A : Int → Int, p_dn A (24 + P 4 + m_many n P) (24 + P 3 + 1) (m_many n P) j = A j := fun A => if_neg (by omega)
    rw [e1, e2, e3, p_ahead_hd hj]
theorem p_delr_hd {P : Int → Int} {n j : Int} (hH : p_hd P) (hn : 1 ≤ n) (hr : P 4 ≤ P 3) (hj : j < 15) : p_delr n P j = z_v P 6 0 j := by
  obtain ⟨hw0, hw1, hh0, hh1, hf0, hf1, hf2, hr0, hr1, hc0, hc1, hp0, hp1, hk0, hk1, hi0, hi1, hkp, hP⟩ := id hH
  have hm := m_many_b hn hr
  unfold p_delr z_v
  by_cases q : j = 6
  · rw [if_pos q, if_pos q]
  · rw [if_neg q, if_neg q]
    have e1 : ∀ A : Int → Int, p_blk A (24 + P 3 + 1 - m_many n P) (24 + P 3 + 1) j = A j := fun A => if_neg (by omega)
    have e2 : ∀ A : Int → Int, p_unw A (24 + P 3) j = A j := fun A => p_upd_hd _ _ (by omega)
    have e3 : ∀ A : Int → Int, p_up A (24 + P 4) (24 + P 3 + 1 - m_many n P) (m_many n P) j = A j := fun A => if_neg (by omega)
    rw [e1, e3, e2, p_ahead_hd hj]
theorem p_insr_rows {P : Int → Int} {n k c : Int} (hH : p_hd P) (hn : 1 ≤ n) (hr : P 4 ≤ P 3) (k0 : 0 ≤ k) (c0 : 0 ≤ c) (c1 : c < 22) : p_rows (p_insr n P) k c = o_ins P (m_many n P) k c := by
  obtain ⟨hw0, hw1, hh0, hh1, hf0, hf1, hf2, hr0, hr1, hc0, hc1, hp0, hp1, hk0, hk1, hi0, hi1, hkp, hP⟩ := id hH
  have hm := m_many_b hn hr
  have es : m_slot (p_insr n P) k = m_slot P k := by unfold m_slot; rw [p_insr_hd hH hn hr (by decide), z_vn (by decide)]
  have hs := m_slot_k (P := P) (k := k)
  have hsm := m_slot_k (P := P) (k := k - m_many n P)
  rw [p_rows_at, es]
  unfold o_ins
  rw [p_rows_at, p_rows_at]
  unfold p_insr
  rw [z_vn (by omega), p_blk_at c0 c1]
  generalize m_slot P k = s at *
  generalize m_slot P (k - m_many n P) = t at *
  generalize m_many n P = m at *
  by_cases q1 : P 14 + P 4 ≤ k ∧ k < P 14 + P 4 + m
  · rw [if_pos (by omega), if_pos q1]
  · rw [if_neg (by omega), if_neg q1, p_unw_at c0 c1]
    by_cases q2 : P 14 + P 4 + m ≤ k ∧ k ≤ P 14 + P 3
    · rw [if_pos q2]
      by_cases q3 : k = P 14 + P 3 ∧ 1 ≤ m ∧ (c = 20 ∨ c = 21)
      · rw [if_pos q3, if_pos ⟨by omega, q3.2.2⟩]
      · rw [if_neg q3, if_neg (by omega), p_dn_at c0 c1, if_pos (by omega), show s - m = t by omega, p_ahead_at (by omega) c0 c1, if_neg (by omega)]
    · rw [if_neg q2, if_neg (by omega), p_dn_at c0 c1, if_neg (by omega), p_ahead_at (by omega) c0 c1]
      by_cases q3 : k = P 14 + P 4 - 1 ∧ 1 ≤ m ∧ (c = 20 ∨ c = 21)
      · rw [if_pos q3, if_pos ⟨by omega, q3.2.2⟩]
      · rw [if_neg q3, if_neg (by omega)]
theorem p_delr_rows {P : Int → Int} {n k c : Int} (hH : p_hd P) (hn : 1 ≤ n) (hr : P 4 ≤ P 3) (k0 : 0 ≤ k) (c0 : 0 ≤ c) (c1 : c < 22) : p_rows (p_delr n P) k c = o_del P (m_many n P) k c := by
  obtain ⟨hw0, hw1, hh0, hh1, hf0, hf1, hf2, hr0, hr1, hc0, hc1, hp0, hp1, hk0, hk1, hi0, hi1, hkp, hP⟩ := id hH
  have hm := m_many_b hn hr
  have es : m_slot (p_delr n P) k = m_slot P k := by unfold m_slot; rw [p_delr_hd hH hn hr (by decide), z_vn (by decide)]
  have hs := m_slot_k (P := P) (k := k)
  have hsm := m_slot_k (P := P) (k := k + m_many n P)
  rw [p_rows_at, es]
  unfold o_del
  rw [p_rows_at, p_rows_at]
  unfold p_delr
  rw [z_vn (by omega), p_blk_at c0 c1, p_up_at c0 c1]
  generalize m_slot P k = s at *
  generalize m_slot P (k + m_many n P) = t at *
  generalize m_many n P = m at *
  by_cases q0 : k = P 14 + P 4 - 1 ∧ 1 ≤ m ∧ (c = 20 ∨ c = 21)
  · rw [if_pos q0, if_neg (by omega), if_neg (by omega), p_unw_at c0 c1, if_neg (by omega), p_ahead_at (by omega) c0 c1, if_pos ⟨by omega, q0.2.2⟩]
  · rw [if_neg q0]
    by_cases q1 : P 14 + P 4 ≤ k ∧ k ≤ P 14 + P 3 - m
    · rw [if_pos q1, if_neg (by omega), if_pos (by omega), show s + m = t by omega, p_unw_at c0 c1]
      by_cases q2 : k + m = P 14 + P 3 ∧ 1 ≤ m ∧ (c = 20 ∨ c = 21)
      · rw [if_pos q2, if_pos ⟨by omega, q2.2.2⟩]
      · rw [if_neg q2, if_neg (by omega), p_ahead_at (by omega) c0 c1, if_neg (by omega)]
    · rw [if_neg q1]
      by_cases q2 : P 14 + P 3 - m < k ∧ k ≤ P 14 + P 3
      · rw [if_pos q2, if_pos (by omega)]
      · rw [if_neg q2, if_neg (by omega), if_neg (by omega), p_unw_at c0 c1, if_neg (by omega), p_ahead_at (by omega) c0 c1, if_neg (by omega)]
theorem n_cnt_first (p : Int → Prop) [DecidablePred p] : ∀ n : Nat, n_cnt p (n + 1) = (if p 0 then 1 else 0) + n_cnt (fun j => p (j + 1)) n := by
  intro n
  induction n with
  | zero => show n_cnt p 0 + (if p ((0 : Nat) : Int) then 1 else 0) = _; rw [n_cnt_0]; show 0 + (if p 0 then 1 else 0) = (if p 0 then 1 else 0) + 0; omega
  | succ n ih =>
    show n_cnt p (n + 1) + (if p ((n + 1 : Nat) : Int) then 1 else 0) = (if p 0 then 1 else 0) + (n_cnt (fun j => p (j + 1)) n + (if p ((n : Nat) + 1) then 1 else 0))
    rw [ih, show ((n + 1 : Nat) : Int) = (n : Nat) + 1 by omega]; omega
theorem n_cnt_rev (p : Int → Prop) [DecidablePred p] : ∀ (n : Nat) (b : Int), n_cnt (fun j => p (b - j)) n = n_cnt (fun j => p (b - n + 1 + j)) n := by
  intro n
  induction n with
  | zero => intro b; rfl
  | succ n ih =>
    intro b
    rw [n_cnt_first (fun j => p (b - ((n + 1 : Nat) : Int) + 1 + j))]
    show n_cnt (fun j => p (b - j)) n + (if p (b - (n : Nat)) then 1 else 0) = _
    rw [ih b]
    have e1 : b - ((n + 1 : Nat) : Int) + 1 + 0 = b - n := by omega
    have e2 : n_cnt (fun j => p (b - ((n + 1 : Nat) : Int) + 1 + (j + 1))) n = n_cnt (fun j => p (b - n + 1 + j)) n := n_cnt_c (fun j _ _ => by rw [show b - ((n + 1 : Nat) : Int) + 1 + (j + 1) = b - n + 1 + j by omega])
    rw [e1, e2]; omega
theorem m_frows_rev {P : Int → Int} {m : Int} (hm : 0 ≤ m) : n_cnt (fun j => 0 < m_fill P (24 + (P 3 - j))) m.toNat = m_frows P (P 3 - m + 1) m.toNat := by
  rw [n_cnt_rev (fun j => 0 < m_fill P (24 + j)) m.toNat (P 3)]
  unfold m_frows
  refine n_cnt_c (fun j _ _ => ?_)
  rw [show P 3 - ((m.toNat : Nat) : Int) + 1 + j = P 3 - m + 1 + j by omega]
theorem p_6 (P : Int → Int) (i : Int) (h : i ≠ 6) : z_v P 6 0 i = P i := z_vn h
theorem m_fill_6 {P : Int → Int} {s : Int} (h : 0 ≤ s) : m_fill (z_v P 6 0) s = m_fill P s := by
  unfold m_fill
  rw [p_6 P 0 (by decide)]
  exact n_cnt_c (fun c c0 _ => by rw [p_6 P _ (by omega)])
theorem m_many_6 {P : Int → Int} {n : Int} : m_many n (z_v P 6 0) = m_many n P := by
  unfold m_many; rw [p_6 P 3 (by decide), p_6 P 4 (by decide)]
theorem p_rows_6 {P : Int → Int} {k c : Int} (h0 : 0 ≤ P 14) (h14 : P 14 ≤ 24) (k0 : 0 ≤ k) (c0 : 0 ≤ c) : p_rows (z_v P 6 0) k c = p_rows P k c := p_rows_v (by decide) k c k0 h0 h14 c0
theorem o_ins_6 {P : Int → Int} {m k c : Int} (h0 : 0 ≤ P 14) (h14 : P 14 ≤ 24) (k0 : 0 ≤ k) (c0 : 0 ≤ c) (h4 : 0 ≤ P 4) (hm : 0 ≤ m) : o_ins (z_v P 6 0) m k c = o_ins P m k c := by
  unfold o_ins
  rw [p_6 P 14 (by decide), p_6 P 4 (by decide), p_6 P 3 (by decide), p_rows_6 h0 h14 k0 c0]
  by_cases q : P 14 + P 4 + m ≤ k ∧ k ≤ P 14 + P 3
  · rw [p_rows_6 h0 h14 (show 0 ≤ k - m by omega) c0]
  · rw [if_neg q, if_neg q]
theorem o_del_6 {P : Int → Int} {m k c : Int} (h0 : 0 ≤ P 14) (h14 : P 14 ≤ 24) (k0 : 0 ≤ k) (c0 : 0 ≤ c) (hm : 0 ≤ m) : o_del (z_v P 6 0) m k c = o_del P m k c := by
  unfold o_del
  rw [p_6 P 14 (by decide), p_6 P 4 (by decide), p_6 P 3 (by decide), p_rows_6 h0 h14 k0 c0, p_rows_6 h0 h14 (show 0 ≤ k + m by omega) c0]
