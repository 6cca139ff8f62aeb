def m_cl (P : Int → Int) (k b : Int) : Int := if b = 1 then m_used P (m_slot P k) else if P (15 + 22 * m_slot P k + 21) = 1 then P 0 - 1 else P 0
theorem m_cl_e (P : Int → Int) (k e : Int) : m_cl P k (if k = e then 1 else 0) = m_cells P k e := by
  unfold m_cl m_cells
  by_cases q : k = e
  · rw [if_pos q, if_pos rfl, if_pos q]
  · rw [if_neg q, if_neg (by decide), if_neg q]
theorem m_cl_0 {P : Int → Int} {k e : Int} (h : k ≠ e) : m_cl P k 0 = m_cells P k e := by
  have := m_cl_e P k e
  rw [if_neg h] at this; exact this
theorem m_cl_b {P : Int → Int} (h : p_hd P) (k b : Int) : 0 ≤ m_cl P k b ∧ m_cl P k b ≤ P 0 := by
  by_cases q : b = 1
  · have := m_cells_b (k := k) (e := k) h
    rw [q]
    have e := m_cl_e P k k
    rw [if_pos rfl] at e; rw [e]; exact this
  · have := m_cells_b (k := k) (e := k + 1) h
    have e : m_cl P k b = m_cl P k 0 := by unfold m_cl; rw [if_neg q, if_neg (show ¬ (0 : Int) = 1 by decide)]
    rw [e, m_cl_0 (e := k + 1) (by omega)]; exact this
theorem m_ends_lend {P : Int → Int} {n k : Int} (h : k < n) : m_ends P n k ↔ k = m_lend P n k := by
  obtain ⟨g1, g2, g3, g4⟩ := m_lend_spec (P := P) h
  constructor
  · intro q
    rcases Int.lt_or_le k (m_lend P n k) with x | x
    · exact absurd q (g4 k (Int.le_refl _) x)
    · omega
  · intro q; rw [q]; exact g3
theorem m_sin_rows {P : Int → Int} {k t : Int} : n_cnt (fun c => ¬ 128 ≤ p_rows P k c) t.toNat = m_sin P (m_slot P k) t := rfl
