/-! the sign at the mark of a cursor -/
theorem getD_mid (A B : List Int) (x d : Int) (t : List Int) : (((A ++ (B ++ (x :: t)))[((A.length : Int) + B.length).toNat]?).getD d) = x := by
  rw [show ((A.length : Int) + B.length).toNat = A.length + B.length by omega, List.getElem?_append_right (by omega), show A.length + B.length - A.length = B.length by omega, List.getElem?_append_right (Nat.le_refl _), Nat.sub_self]; rfl
theorem m_ss_add {P : Int → Int} {e : Int} (m : Nat) : ∀ (n : Nat) (k : Int), m_ss P e k (n + m) = m_ss P e k n ++ m_ss P e (k + n) m := by
  intro n
  induction n with
  | zero => intro k; rw [Nat.zero_add, show k + ((0 : Nat) : Int) = k by omega]; rfl
  | succ n ih =>
    intro k
    rw [show n + 1 + m = (n + m) + 1 by omega]
    show n_ss (p_row P (m_slot P k)) 0 (m_cells P k e).toNat ++ m_ss P e (k + 1) (n + m) = (n_ss (p_row P (m_slot P k)) 0 (m_cells P k e).toNat ++ m_ss P e (k + 1) n) ++ m_ss P e (k + ((n + 1 : Nat) : Int)) m
    rw [ih, List.append_assoc, show k + 1 + (n : Int) = k + ((n + 1 : Nat) : Int) by omega]
/-- the line that has a row q: its first row, its last row -/
theorem line_of {P : Int → Int} {q : Int} (q0 : 0 ≤ q) (q1 : q < m_count P) : (0 ≤ m_lbeg P (m_count P) (m_lno P (m_count P) q) ∧ m_lbeg P (m_count P) (m_lno P (m_count P) q) ≤ q) ∧ m_lend P (m_count P) (m_lbeg P (m_count P) (m_lno P (m_count P) q)) = m_lend P (m_count P) q ∧ q ≤ m_lend P (m_count P) q ∧ m_lend P (m_count P) q < m_count P := by
  obtain ⟨g1, g2, g3, g4⟩ := m_lbeg_of (P := P) q0 q1
  obtain ⟨h1, h2, h3, h4⟩ := m_lend_spec (P := P) q1
  exact ⟨⟨g2, g1⟩, m_lend_of g1 q1 g4, h1, h2⟩
theorem mark_sign {P : Int → Int} {row c : Int} (hH : p_hd P) (r0 : 0 ≤ row) (r1 : P 14 + row < m_count P) (c0 : 0 ≤ c) (c1 : c < P 0) (hn : ¬ 128 ≤ p_rows P (P 14 + row) c)
    (hg : ¬ (p_rows P (P 14 + row) 21 = 1 ∧ c = P 0 - 1)) (hb : ¬ (n_used (p_rows P (P 14 + row)) (P 0).toNat ≤ c ∧ P 14 + row = m_lend P (m_count P) (P 14 + row))) :
    m_signA P (m_lno P (m_count P) (P 14 + row)) (m_mark P (m_count P) row c) = p_rows P (P 14 + row) c := by
  have h14 := hH.2.2.2.2.2.2.2.2.2.2.2.2.2.2.2.1
  obtain ⟨⟨g1, g2⟩, g3, g4, g5⟩ := line_of (P := P) (q := P 14 + row) (by omega) r1
  have hlno := m_lno_b P (m_count P) (P 14 + row) (by omega)
  have hcb := m_cells_b (k := P 14 + row) (e := m_lend P (m_count P) (P 14 + row)) hH
  have hcc : c < m_cells P (P 14 + row) (m_lend P (m_count P) (P 14 + row)) := by
    unfold m_cells
    by_cases q : P 14 + row = m_lend P (m_count P) (P 14 + row)
    · rw [if_pos q]
      rcases Int.lt_or_le c (m_used P (m_slot P (P 14 + row))) with x | x
      · exact x
      · exact absurd ⟨x, q⟩ hb
    · rw [if_neg q]
      by_cases q2 : P (15 + 22 * m_slot P (P 14 + row) + 21) = 1
      · rw [if_pos q2]
        have : c ≠ P 0 - 1 := fun x => hg ⟨q2, x⟩
        omega
      · rw [if_neg q2]; exact c1
  have e1 : m_mark P (m_count P) row c = m_sgn P (m_lend P (m_count P) (P 14 + row)) (m_lbeg P (m_count P) (m_lno P (m_count P) (P 14 + row))) (P 14 + row - m_lbeg P (m_count P) (m_lno P (m_count P) (P 14 + row))).toNat + m_sin P (m_slot P (P 14 + row)) c := by
    unfold m_mark
    rw [if_pos hcc, if_neg (by omega), Int.add_zero]
  have hmk : 0 ≤ m_mark P (m_count P) row c := by
    rw [e1]
    have a1 := (m_sgn_b (P := P) (e := m_lend P (m_count P) (P 14 + row)) (b := m_lbeg P (m_count P) (m_lno P (m_count P) (P 14 + row))) hH (P 14 + row - m_lbeg P (m_count P) (m_lno P (m_count P) (P 14 + row))).toNat).1
    have a2 := (m_sin_b P (m_slot P (P 14 + row)) c c0).1
    omega
  rw [signA_in hlno.1 hmk rfl (by omega), g3, e1]
  generalize m_lbeg P (m_count P) (m_lno P (m_count P) (P 14 + row)) = b at g1 g2 g3 ⊢
  generalize m_lend P (m_count P) (P 14 + row) = e at g3 g4 g5 hcb hcc ⊢
  unfold m_sgA m_line
  rw [show (e + 1 - b).toNat = (P 14 + row - b).toNat + ((e - (P 14 + row)).toNat + 1) by omega, m_ss_add, show b + ((P 14 + row - b).toNat : Int) = P 14 + row by omega]
  have e2 : m_ss P e (P 14 + row) ((e - (P 14 + row)).toNat + 1) = n_ss (p_row P (m_slot P (P 14 + row))) 0 (m_cells P (P 14 + row) e).toNat ++ m_ss P e (P 14 + row + 1) (e - (P 14 + row)).toNat := rfl
  have e3 : n_ss (p_row P (m_slot P (P 14 + row))) 0 (m_cells P (P 14 + row) e).toNat = n_ss (p_row P (m_slot P (P 14 + row))) 0 c.toNat ++ (p_row P (m_slot P (P 14 + row)) c :: n_ss (p_row P (m_slot P (P 14 + row))) (c + 1) (m_cells P (P 14 + row) e - (c + 1)).toNat) := by
    rw [show (m_cells P (P 14 + row) e).toNat = c.toNat + ((m_cells P (P 14 + row) e - (c + 1)).toNat + 1) by omega, n_ss_add, show (0 : Int) + (c.toNat : Int) = c by omega]
    congr 1
    exact if_neg hn
  rw [e2, e3, List.append_assoc, List.cons_append]
  have l1 : ((m_ss P e b (P 14 + row - b).toNat).length : Int) = m_sgn P e b (P 14 + row - b).toNat := m_ss_length hH _ _
  have l2 : ((n_ss (p_row P (m_slot P (P 14 + row))) 0 c.toNat).length : Int) = m_sin P (m_slot P (P 14 + row)) c := by
    rw [n_ss_length]
    unfold m_sin
    exact n_cnt_c (fun j _ _ => by rw [Int.zero_add]; rfl)
  rw [← l1, ← l2]
  exact getD_mid _ _ _ _ _
theorem curA_in {P : Int → Int} {v what : Int} (hH : p_hd P) (v0 : 0 ≤ v) (v1 : v ≤ P 7) (w0 : 0 ≤ what) (w1 : what ≤ 3) : m_curA P v what = m_cur P v what := m_curA_cur v0 v1 hH.2.2.2.2.2.2.2.2.2.2.2.2.2.2.1 w0 w1
theorem cur_0 {P : Int → Int} {v : Int} : m_cur P v 0 = m_row P v := by unfold m_cur; rw [if_pos rfl]
theorem cur_1 {P : Int → Int} {v : Int} : m_cur P v 1 = m_col P v := by unfold m_cur; rw [if_neg (by decide), if_pos rfl]
theorem cur_2 {P : Int → Int} {v : Int} : m_cur P v 2 = m_lno P (m_count P) (P 14 + m_row P v) := by unfold m_cur; rw [if_neg (by decide), if_neg (by decide), if_pos rfl]
theorem cur_3 {P : Int → Int} {v : Int} : m_cur P v 3 = m_mark P (m_count P) (m_row P v) (m_pcol P v) := by unfold m_cur; rw [if_neg (by decide), if_neg (by decide), if_neg (by decide)]
