theorem q_nx_b {P G G' : Int → Int} {x : Int} {l : List Int} (h : q_nx P G G' x l) : x = 0 ∨ x = 1 := by
  cases l with
  | nil => exact Or.inl h.1
  | cons a l => exact Or.inr h.1
theorem q_nx_0 {P G G' : Int → Int} {x : Int} {l : List Int} (h : q_nx P G G' x l) (hx : x = 0) : l = [] ∧ q_at P G' [] ∧ (∀ k, k ≠ 1 → k ≠ 2 → k ≠ 4 → G' k = G k) := by
  cases l with
  | nil => exact ⟨rfl, h.2.1, h.2.2⟩
  | cons a l => have := h.1; omega
theorem q_nx_1 {P G G' : Int → Int} {x : Int} {l : List Int} (h : q_nx P G G' x l) (hx : x ≠ 0) (h5 : 4 ≤ G 5) (h51 : G 5 ≤ 20) (h10 : 0 ≤ G 10) :
    ∃ a l', l = a :: l' ∧ x = 1 ∧ q_at P G' l' ∧ (32 ≤ a ∧ a ≤ 126) ∧ (G' 3 = G 3 ∧ G' 5 = G 5 ∧ G' 6 = a ∧ G' 7 = G 7 + 1) ∧ (G 8 ≤ G' 8 ∧ G' 8 ≤ G 8 + 1) ∧ (0 ≤ G' 9 ∧ G' 9 + p_sz a = G' 10 ∧ G' 10 ≤ G 5 ∧ 0 ≤ G' 10)
      ∧ y_rcl (G 5) l (G 8, G 10) = y_rcl (G 5) l' (G' 8, G' 10) ∧ y_at (G 5) l 0 (G 8, G 10) = (G' 8, G' 9) ∧ (∀ k, y_at (G 5) l (k + 1) (G 8, G 10) = y_at (G 5) l' k (G' 8, G' 10))
      ∧ (G' 11 = (if G 5 < G 10 + p_sz a then 1 else 0) ∧ G' 12 = (if G 5 < G 10 + p_sz a ∧ G 10 < G 5 then 1 else 0) ∧ G' 8 = (if G 5 < G 10 + p_sz a then G 8 + 1 else G 8) ∧ G' 9 = (if G 5 < G 10 + p_sz a then 0 else G 10)) := by
  cases l with
  | nil => exact absurd h.1 hx
  | cons a l =>
    obtain ⟨g1, g2, g3, e3, e5, e6, e7, e11, e12, e8, e9, e10⟩ := h
    have hs := p_sz_b a
    have hp : (G' 8, G' 10) = (if G 5 < G 10 + p_sz a then (G 8 + 1, p_sz a) else (G 8, G 10 + p_sz a)) := by
      rw [e10, e9, e8]
      split
      · rw [Int.zero_add]
      · rfl
    refine ⟨a, l, rfl, g1, g2, g3, ⟨e3, e5, e6, e7⟩, ?_, ?_, ?_, ?_, ?_, e11, e12, e8, e9⟩
    · rw [e8]; split <;> omega
    · rw [e10, e9]; split <;> omega
    · show y_rcl (G 5) l (if G 5 < G 10 + p_sz a then (G 8 + 1, p_sz a) else (G 8, G 10 + p_sz a)) = _
      rw [hp]
    · show (if G 5 < G 10 + p_sz a then (G 8 + 1, (0 : Int)) else (G 8, G 10)) = _
      rw [e9, e8]
      split <;> rfl
    · intro k
      show y_at (G 5) l k (if G 5 < G 10 + p_sz a then (G 8 + 1, p_sz a) else (G 8, G 10 + p_sz a)) = _
      rw [hp]
/-- where the line of a row begins, and how many rows those ahead of it are poured into -/
def y_bc (P : Int → Int) (W n : Int) : Nat → Int × Int
  | 0 => (0, 0)
  | r + 1 => if m_ends P n (r : Nat) then ((r : Nat) + 1, (y_bc P W n r).2 + ((y_rcl W (m_line P (y_bc P W n r).1 (r : Nat)) (0, 0)).1 + 1)) else y_bc P W n r
theorem y_bc_s (P : Int → Int) (W n : Int) {r : Int} (h : 0 ≤ r) : y_bc P W n (r + 1).toNat = if m_ends P n r then (r + 1, (y_bc P W n r.toNat).2 + ((y_rcl W (m_line P (y_bc P W n r.toNat).1 r) (0, 0)).1 + 1)) else y_bc P W n r.toNat := by
  rw [show (r + 1).toNat = r.toNat + 1 by omega]
  show (if m_ends P n (r.toNat : Nat) then _ else _) = _
  rw [show ((r.toNat : Nat) : Int) = r by omega]
theorem y_rcl_b (W : Int) : ∀ (l : List Int) (p : Int × Int), p.1 ≤ (y_rcl W l p).1 ∧ (y_rcl W l p).1 ≤ p.1 + l.length := by
  intro l
  induction l with
  | nil => intro p; exact ⟨Int.le_refl _, by show p.1 ≤ p.1 + ((0 : Nat) : Int); omega⟩
  | cons a l ih =>
    intro p
    have h := ih (if W < p.2 + p_sz a then (p.1 + 1, p_sz a) else (p.1, p.2 + p_sz a))
    have e : p.1 ≤ (if W < p.2 + p_sz a then (p.1 + 1, p_sz a) else (p.1, p.2 + p_sz a)).1 ∧ (if W < p.2 + p_sz a then (p.1 + 1, p_sz a) else (p.1, p.2 + p_sz a)).1 ≤ p.1 + 1 := by split <;> omega
    rw [List.length_cons]
    show _ ≤ (y_rcl W l _).1 ∧ (y_rcl W l _).1 ≤ _
    omega
theorem y_bc_b {P : Int → Int} {W n : Int} (h : p_hd P) : ∀ (r : Nat), (r : Int) ≤ P 14 + P 1 → (0 ≤ (y_bc P W n r).1 ∧ (y_bc P W n r).1 ≤ r) ∧ (0 ≤ (y_bc P W n r).2 ∧ (y_bc P W n r).2 ≤ 641 * r) := by
  intro r
  induction r with
  | zero => intro _; exact ⟨⟨Int.le_refl _, Int.le_refl _⟩, Int.le_refl _, Int.le_refl _⟩
  | succ r ih =>
    intro hr
    have h1 := ih (by omega)
    show (0 ≤ (if m_ends P n (r : Nat) then _ else y_bc P W n r).1 ∧ _) ∧ _
    show (0 ≤ (if m_ends P n (r : Nat) then (((r : Nat) + 1 : Int), (y_bc P W n r).2 + ((y_rcl W (m_line P (y_bc P W n r).1 (r : Nat)) (0, 0)).1 + 1)) else y_bc P W n r).1 ∧ (if m_ends P n (r : Nat) then (((r : Nat) + 1 : Int), (y_bc P W n r).2 + ((y_rcl W (m_line P (y_bc P W n r).1 (r : Nat)) (0, 0)).1 + 1)) else y_bc P W n r).1 ≤ ((r + 1 : Nat) : Int)) ∧ (0 ≤ (if m_ends P n (r : Nat) then (((r : Nat) + 1 : Int), (y_bc P W n r).2 + ((y_rcl W (m_line P (y_bc P W n r).1 (r : Nat)) (0, 0)).1 + 1)) else y_bc P W n r).2 ∧ (if m_ends P n (r : Nat) then (((r : Nat) + 1 : Int), (y_bc P W n r).2 + ((y_rcl W (m_line P (y_bc P W n r).1 (r : Nat)) (0, 0)).1 + 1)) else y_bc P W n r).2 ≤ 641 * ((r + 1 : Nat) : Int))
    split
    · have h2 := m_line_len (b := (y_bc P W n r).1) (e := (r : Nat)) h h1.1.1 h1.1.2 (by omega)
      have h3 := y_rcl_b W (m_line P (y_bc P W n r).1 (r : Nat)) (0, 0)
      dsimp only at h3 ⊢
      omega
    · omega
/-- rows beginning further down -/
theorem y_rcl_sh (W d : Int) : ∀ (l : List Int) (p : Int × Int), y_rcl W l (p.1 + d, p.2) = ((y_rcl W l p).1 + d, (y_rcl W l p).2) := by
  intro l
  induction l with
  | nil => intro p; rfl
  | cons a l ih =>
    intro p
    have h := ih (if W < p.2 + p_sz a then (p.1 + 1, p_sz a) else (p.1, p.2 + p_sz a))
    show y_rcl W l (if W < p.2 + p_sz a then (p.1 + d + 1, p_sz a) else (p.1 + d, p.2 + p_sz a)) = ((y_rcl W l (if W < p.2 + p_sz a then (p.1 + 1, p_sz a) else (p.1, p.2 + p_sz a))).1 + d, (y_rcl W l (if W < p.2 + p_sz a then (p.1 + 1, p_sz a) else (p.1, p.2 + p_sz a))).2)
    rw [← h]
    congr 1
    split
    · dsimp only; congr 1; omega
    · rfl
theorem y_rcl_0 (W r : Int) (l : List Int) : y_rcl W l (r, 0) = ((y_rcl W l (0, 0)).1 + r, (y_rcl W l (0, 0)).2) := by
  have h := y_rcl_sh W r l (0, 0)
  dsimp only at h
  rw [Int.zero_add] at h
  exact h
theorem y_bc_same {P : Int → Int} {W n k : Int} (h0 : 0 ≤ k) : ∀ (d : Nat), (∀ j, k ≤ j → j < k + d → ¬ m_ends P n j) → y_bc P W n (k + d).toNat = y_bc P W n k.toNat := by
  intro d
  induction d with
  | zero => intro _; rw [show k + ((0 : Nat) : Int) = k by omega]
  | succ d ih =>
    intro h
    rw [show k + ((d + 1 : Nat) : Int) = k + d + 1 by omega, y_bc_s _ _ _ (by omega), if_neg (h (k + d) (by omega) (by omega))]
    exact ih (fun j j0 j1 => h j j0 (by omega))
theorem y_bc_line {P : Int → Int} {W n k : Int} (h0 : 0 ≤ k) (h1 : k < n) (hk : (y_bc P W n k.toNat).1 = k) : y_bc P W n (m_lend P n k + 1).toNat = (m_lend P n k + 1, (y_bc P W n k.toNat).2 + ((y_rcl W (m_line P k (m_lend P n k)) (0, 0)).1 + 1)) := by
  obtain ⟨g1, g2, g3, g4⟩ := m_lend_spec (P := P) h1
  have e := y_bc_same (P := P) (W := W) (n := n) h0 (m_lend P n k - k).toNat (fun j j0 j1 => g4 j j0 (by omega))
  rw [show k + ((m_lend P n k - k).toNat : Int) = m_lend P n k by omega] at e
  rw [y_bc_s _ _ _ (by omega), if_pos g3, e, hk]
theorem y_bc_rows {P : Int → Int} {W n : Int} : ∀ (f : Nat) (k : Int), 0 ≤ k → k ≤ n → n - k ≤ f → (y_bc P W n k.toNat).1 = k → (y_bc P W n n.toNat).2 = y_rows W (y_ll P n k) (y_bc P W n k.toNat).2 := by
  intro f
  induction f with
  | zero =>
    intro k k0 k1 kf hk
    rw [y_ll_e (show n ≤ k by omega), show n = k by omega]; rfl
  | succ f ih =>
    intro k k0 k1 kf hk
    by_cases q : k < n
    · have hl := y_bc_line (W := W) k0 q hk
      have g := m_lend_spec (P := P) q
      have h := ih (m_lend P n k + 1) (by omega) (by omega) (by omega) (by rw [hl])
      rw [h, y_ll_s q, hl]
      show y_rows W (y_ll P n (m_lend P n k + 1)) ((y_bc P W n k.toNat).2 + ((y_rcl W (m_line P k (m_lend P n k)) (0, 0)).1 + 1)) = y_rows W (y_ll P n (m_lend P n k + 1)) ((y_rcl W (m_line P k (m_lend P n k)) ((y_bc P W n k.toNat).2, 0)).1 + 1)
      rw [y_rcl_0 W (y_bc P W n k.toNat).2]
      congr 1
      dsimp only; omega
    · rw [y_ll_e (show n ≤ k by omega), show n = k by omega]; rfl
theorem y_bc_many {P : Int → Int} (W : Int) (h : p_hd P) : (y_bc P W (m_count P) (m_count P).toNat).2 = y_many P W := by
  have hc := m_count_b h
  exact y_bc_rows (m_count P).toNat 0 (by omega) (by omega) (by omega) rfl
