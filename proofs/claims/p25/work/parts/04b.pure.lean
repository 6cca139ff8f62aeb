/-! sums, used cells -/
def n_sum (f : Int → Int) : Nat → Int
  | 0 => 0
  | n + 1 => n_sum f n + f (n : Nat)
theorem n_sum_s (f : Int → Int) {c : Int} (h : 0 ≤ c) : n_sum f (c + 1).toNat = n_sum f c.toNat + f c := by
  rw [show (c + 1).toNat = c.toNat + 1 by omega]
  show n_sum f c.toNat + f (c.toNat : Nat) = _
  rw [show ((c.toNat : Nat) : Int) = c by omega]
theorem n_sum_c {f g : Int → Int} {n : Nat} (h : ∀ k : Int, 0 ≤ k → k < n → f k = g k) : n_sum f n = n_sum g n := by
  induction n with
  | zero => rfl
  | succ n ih =>
    show n_sum f n + f (n : Nat) = n_sum g n + g (n : Nat)
    rw [ih (fun k h0 h1 => h k h0 (by omega)), h (n : Nat) (by omega) (by omega)]
theorem n_sum_b {f : Int → Int} {b : Int} (n : Nat) (h : ∀ k : Int, 0 ≤ k → k < n → 0 ≤ f k ∧ f k ≤ b) : 0 ≤ n_sum f n ∧ n_sum f n ≤ n * b := by
  induction n with
  | zero => simp [n_sum]
  | succ n ih =>
    have h1 := ih (fun k h0 h1 => h k h0 (by omega))
    have h2 := h (n : Nat) (by omega) (by omega)
    show 0 ≤ n_sum f n + f (n : Nat) ∧ n_sum f n + f (n : Nat) ≤ ((n + 1 : Nat) : Int) * b
    have e : ((n + 1 : Nat) : Int) * b = (n : Int) * b + b := by rw [Int.natCast_add, Int.add_mul]; simp
    rw [e]; omega
theorem n_used_z {r : Int → Int} {n : Int} (h0 : 0 < n) (h : r (n - 1) = 32) : n_used r n.toNat = n_used r (n - 1).toNat := by
  have e : n.toNat = (n - 1).toNat + 1 := by omega
  rw [e]
  show (if r ((n - 1).toNat : Nat) = 32 then _ else _) = _
  rw [show (((n - 1).toNat : Nat) : Int) = n - 1 by omega, if_pos h]
theorem n_used_n {r : Int → Int} {n : Int} (h0 : 0 < n) (h : ¬ r (n - 1) = 32) : n_used r n.toNat = n := by
  have e : n.toNat = (n - 1).toNat + 1 := by omega
  rw [e]
  show (if r ((n - 1).toNat : Nat) = 32 then _ else _) = _
  rw [show (((n - 1).toNat : Nat) : Int) = n - 1 by omega, if_neg h]
  omega
theorem n_used_b (r : Int → Int) (n : Nat) : 0 ≤ n_used r n ∧ n_used r n ≤ n := by
  induction n with
  | zero => exact ⟨Int.le_refl _, Int.le_refl _⟩
  | succ n ih =>
    show 0 ≤ (if r (n : Nat) = 32 then n_used r n else ((n + 1 : Nat) : Int)) ∧ (if r (n : Nat) = 32 then n_used r n else ((n + 1 : Nat) : Int)) ≤ ((n + 1 : Nat) : Int)
    split <;> omega
theorem n_used_c {r r' : Int → Int} {n : Nat} (h : ∀ k : Int, 0 ≤ k → k < n → r k = r' k) : n_used r n = n_used r' n := by
  induction n with
  | zero => rfl
  | succ n ih =>
    show (if r (n : Nat) = 32 then n_used r n else _) = (if r' (n : Nat) = 32 then n_used r' n else _)
    rw [ih (fun k h0 h1 => h k h0 (by omega)), h (n : Nat) (by omega) (by omega)]
/-- how many cells of a row are not blank; of the screen; of rows -/
def m_fill (P : Int → Int) (s : Int) : Int := n_cnt (fun c => P (15 + 22 * s + c) ≠ 32) (P 0).toNat
def m_fillA (P : Int → Int) : Int := n_sum (fun r => m_fill P (24 + r)) (P 1).toNat
def m_used (P : Int → Int) (s : Int) : Int := n_used (p_row P s) (P 0).toNat
theorem m_fill_b {P : Int → Int} {s : Int} (h : 0 ≤ P 0) : 0 ≤ m_fill P s ∧ m_fill P s ≤ P 0 := by
  have := n_cnt_b (fun c => P (15 + 22 * s + c) ≠ 32) (P 0).toNat
  unfold m_fill; omega
theorem m_used_b {P : Int → Int} {s : Int} (h : 0 ≤ P 0) : 0 ≤ m_used P s ∧ m_used P s ≤ P 0 := by
  have := n_used_b (p_row P s) (P 0).toNat
  unfold m_used; omega
/-! the page's own steps -/
def p_ahead (P : Int → Int) (row : Int) : Int → Int := if 0 < row then p_upd P (24 + row - 1) (r_unw (p_row P (24 + row - 1))) else if 0 < P 14 then p_upd P (P 14 - 1) (r_unw (p_row P (P 14 - 1))) else P
def p_sets (P : Int → Int) (row c v : Int) : Int → Int := p_upd P (24 + row) (r_set (P 0) c v (p_row P (24 + row)))
def p_frees (P : Int → Int) (row a b : Int) : Int → Int := p_upd P (24 + row) (r_free (P 0) a b (p_row P (24 + row)))
def p_erases (P : Int → Int) (row a b : Int) : Int → Int := p_upd P (24 + row) (r_erase (P 0) a b (p_row P (24 + row)))
def p_rec (n : Int) (P : Int → Int) : Int → Int := fun k => if n = 8 then (if 719 ≤ k ∧ k < 5752 then P (k + 719) else if 5752 ≤ k ∧ k < 6471 then P (k - 5752) else P k) else if 719 * (n + 1) ≤ k ∧ k < 719 * (n + 2) then P (k - 719 * (n + 1)) else P k
def f_rec (F : Int → Int) : Int → Int := z_v F 1 (if F 1 = 8 then 8 else F 1 + 1)
