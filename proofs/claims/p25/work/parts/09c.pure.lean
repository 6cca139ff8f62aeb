/-! the rows of a page as the class has them: the history's first -/
def p_rows (P : Int → Int) : Int → Int → Int := fun k => p_row P (m_slot P k)
theorem n_used_pos (r : Int → Int) (n : Nat) : 0 < n_used r n ↔ 0 < n_cnt (fun c => r c ≠ 32) n := by
  induction n with
  | zero => exact Iff.rfl
  | succ n ih =>
    have hb := n_cnt_b (fun c => r c ≠ 32) n
    show 0 < (if r (n : Nat) = 32 then n_used r n else ((n + 1 : Nat) : Int)) ↔ 0 < n_cnt (fun c => r c ≠ 32) n + (if r (n : Nat) ≠ 32 then 1 else 0)
    by_cases q : r (n : Nat) = 32
    · rw [if_pos q, if_neg (fun x => x q), Int.add_zero]; exact ih
    · rw [if_neg q, if_pos q]; omega
theorem p_rows_fill {P : Int → Int} {q : Int} (h0 : 0 ≤ q) : 0 < n_used (p_rows P (P 14 + q)) (P 0).toNat ↔ 0 < m_fill P (24 + q) := by
  have e : m_slot P (P 14 + q) = 24 + q := by unfold m_slot; rw [if_neg (by omega)]; omega
  unfold p_rows; rw [e]
  exact n_used_pos _ _
theorem m_lastr_top {P : Int → Int} {l : Int} (n : Nat) (h : (n : Int) ≤ l + 1) : m_lastr P l n = l := by
  induction n with
  | zero => rfl
  | succ n ih =>
    show (if m_lastr P l n < (n : Nat) ∧ 0 < m_fill P (24 + (n : Nat)) then ((n : Nat) : Int) else m_lastr P l n) = l
    rw [ih (by omega), if_neg (by omega)]
theorem m_lastr_lt {P : Int → Int} {l : Int} (n : Nat) (h : l < n) : m_lastr P l n < n := (m_lastr_b (P := P) (H := n) n (by omega) h).2
theorem m_ends_row {P : Int → Int} {n k : Int} (h0 : p_rows P k 20 = 0 ∨ p_rows P k 20 = 1) : m_ends P n k ↔ (n - 1 ≤ k ∨ p_rows P k 20 = 0) := by
  have e : p_rows P k 20 = P (15 + 22 * m_slot P k + 20) := rfl
  rw [e] at h0 ⊢
  show (n - 1 ≤ k ∨ ¬ P (15 + 22 * m_slot P k + 20) = 1) ↔ _
  omega
