theorem ss_right {r : Int → Int} {c t : Int} {l : List Int} {i : Nat} (h : c < t) (hr : 128 ≤ r c) : (n_ss r c (t - c).toNat ++ l)[i]? = (n_ss r (c + 1) (t - (c + 1)).toNat ++ l)[i]? := by
  rw [n_ss_s h, if_pos hr]
theorem ss_zero {r : Int → Int} {c t : Int} {l : List Int} (h : c < t) (hr : ¬ 128 ≤ r c) : (n_ss r c (t - c).toNat ++ l)[(0 : Int).toNat]? = some (r c) := by
  rw [n_ss_s h, if_neg hr]; rfl
theorem ss_succ {r : Int → Int} {c t i : Int} {l : List Int} (h : c < t) (hr : ¬ 128 ≤ r c) (hi : 0 < i) : (n_ss r c (t - c).toNat ++ l)[i.toNat]? = (n_ss r (c + 1) (t - (c + 1)).toNat ++ l)[(i - 1).toNat]? := by
  rw [n_ss_s h, if_neg hr, show i.toNat = (i - 1).toNat + 1 by omega]; rfl
theorem ss_end {r : Int → Int} {c : Int} {l : List Int} {i : Nat} : (n_ss r c (c - c).toNat ++ l)[i]? = l[i]? := by
  rw [show (c - c).toNat = 0 by omega]; rfl
theorem m_lend_of {P : Int → Int} {n b k : Int} (h : b ≤ k) (hk : k < n) (hn : ∀ j, b ≤ j → j < k → ¬ m_ends P n j) : m_lend P n b = m_lend P n k := by
  obtain ⟨g1, g2, g3, g4⟩ := m_lend_spec (P := P) hk
  refine m_lend_eq (by omega) g2 g3 (fun j h0 h1 => ?_)
  rcases Int.lt_or_le j k with q | q
  · exact hn j h0 q
  · exact g4 j q h1
theorem m_lno_same {P : Int → Int} {n a b : Int} (h0 : 0 ≤ a) (hab : a ≤ b) (hn : ∀ j, a ≤ j → j < b → ¬ m_ends P n j) : m_lno P n b = m_lno P n a := n_cnt_add h0 hab hn
def m_lineA (P : Int → Int) (line what : Int) : Int := if line < 0 ∨ ¬ (0 ≤ what ∧ what ≤ 2) then -1 else if m_lbeg P (m_count P) line < m_count P then m_lof P (m_lbeg P (m_count P) line) (m_lend P (m_count P) (m_lbeg P (m_count P) line)) what else -9
def m_sgA (P : Int → Int) (b e k : Int) : Int := ((m_line P b e)[k.toNat]?).getD (-9)
def m_signA (P : Int → Int) (line k : Int) : Int := if line < 0 ∨ k < 0 then -1 else if m_lbeg P (m_count P) line < m_count P then m_sgA P (m_lbeg P (m_count P) line) (m_lend P (m_count P) (m_lbeg P (m_count P) line)) k else -9
def m_row (P : Int → Int) (w : Int) : Int := if w = 0 then P 4 else P (8 + 2 * (P 7 - w))
def m_col (P : Int → Int) (w : Int) : Int := if w = 0 then P 5 else P (8 + 2 * (P 7 - w) + 1)
def m_pcol (P : Int → Int) (w : Int) : Int := if w = 0 ∧ P 6 = 1 then P 0 else m_col P w
def m_cur (P : Int → Int) (w what : Int) : Int := if what = 0 then m_row P w else if what = 1 then m_col P w else if what = 2 then m_lno P (m_count P) (P 14 + m_row P w) else m_mark P (m_count P) (m_row P w) (m_pcol P w)
def m_curA (P : Int → Int) (w what : Int) : Int := if ¬ ((0 ≤ w ∧ w ≤ 3) ∧ (0 ≤ what ∧ what ≤ 3)) then -1 else if w ≤ P 7 then m_cur P w what else -9
theorem m_row_b {P : Int → Int} {w : Int} (h : p_hd P) (h0 : 0 ≤ w) (h1 : w ≤ P 7) : 0 ≤ m_row P w ∧ m_row P w ≤ m_last P ∧ m_row P w < P 1 ∧ 0 ≤ m_col P w ∧ m_col P w < P 0 := by
  have hh := h
  have hl := m_last_b h
  obtain ⟨hw0, hw1, hh0, hh1, hf0, hf1, hf2, hr0, hr1, hc0, hc1, hp0, hp1, hk0, hk1, hi0, hi1, hkp, hP⟩ := hh
  unfold m_row m_col
  by_cases hw : w = 0
  · rw [if_pos hw, if_pos hw]; omega
  · rw [if_neg hw, if_neg hw]
    have a := hl.2.2 (P 7 - w) (by omega) (by omega)
    have b := hkp (P 7 - w) (by omega) (by omega)
    have c := hP (8 + 2 * (P 7 - w))
    have d := hP (8 + 2 * (P 7 - w) + 1)
    omega
def m_cellA (P : Int → Int) (row c : Int) : Int := if ¬ ((0 ≤ row ∧ row ≤ P 1 - 1) ∧ (0 ≤ c ∧ c ≤ P 0 - 1)) then -1 else if 128 ≤ P (15 + 22 * (24 + row) + c) then P (15 + 22 * (24 + row) + c) - 128 else P (15 + 22 * (24 + row) + c)
def m_sfill (P : Int → Int) (s : Int) : Int := n_cnt (fun c => P (15 + 22 * s + c) ≠ 32 ∧ ¬ 128 ≤ P (15 + 22 * s + c)) (P 0).toNat
def m_ros (P : Int → Int) (s what : Int) : Int := if what < 2 then P (15 + 22 * s + (20 + what)) else if what = 2 then m_used P s else m_sfill P s
def m_rowA (P : Int → Int) (row what : Int) : Int := if ¬ ((-24 ≤ row ∧ row ≤ P 1 - 1) ∧ (0 ≤ what ∧ what ≤ 3)) then -1 else if row < - P 14 then -9 else m_ros P (if row < 0 then P 14 + row else 24 + row) what
def m_toldA (P : Int → Int) (rem what : Int) : Int := if what < 0 ∨ 10 < what then -1 else if what ≤ 3 then P what else if what = 4 then P 6 else if what = 5 then P 14 else if what = 6 then P 7 else if what = 7 then m_lno P (m_count P) (m_count P) else if what = 8 then m_count P else if what = 9 then m_fillA P else rem
def p_und (n : Int) (P : Int → Int) : Int → Int := fun k => if 0 ≤ k ∧ k < 719 then P (719 * n + k) else P k
