theorem n_ss_length (r : Int → Int) : ∀ (n : Nat) (c : Int), ((n_ss r c n).length : Int) = n_cnt (fun j => ¬ 128 ≤ r (c + j)) n := by
  intro n
  induction n with
  | zero => intro c; rfl
  | succ n ih =>
    intro c
    have h := ih (c + 1)
    rw [n_cnt_first (fun j => ¬ 128 ≤ r (c + j))]
    have e : n_cnt (fun j => ¬ 128 ≤ r (c + (j + 1))) n = n_cnt (fun j => ¬ 128 ≤ r (c + 1 + j)) n := n_cnt_c (fun j _ _ => by rw [show c + (j + 1) = c + 1 + j by omega])
    rw [e, ← h, Int.add_zero]
    show ((if 128 ≤ r c then n_ss r (c + 1) n else r c :: n_ss r (c + 1) n).length : Int) = _
    by_cases q : 128 ≤ r c
    · rw [if_pos q, if_neg (fun x => x q)]; omega
    · rw [if_neg q, if_pos q, List.length_cons]; omega
theorem n_sum_first (f : Int → Int) : ∀ n : Nat, n_sum f (n + 1) = f 0 + n_sum (fun j => f (j + 1)) n := by
  intro n
  induction n with
  | zero => show n_sum f 0 + f ((0 : Nat) : Int) = f 0 + 0; show 0 + f 0 = f 0 + 0; omega
  | succ n ih =>
    show n_sum f (n + 1) + f ((n + 1 : Nat) : Int) = f 0 + (n_sum (fun j => f (j + 1)) n + f ((n : Nat) + 1))
    rw [ih, show ((n + 1 : Nat) : Int) = (n : Nat) + 1 by omega]; omega
theorem m_ss_length {P : Int → Int} {e : Int} (hH : p_hd P) : ∀ (n : Nat) (k : Int), ((m_ss P e k n).length : Int) = m_sgn P e k n := by
  intro n
  induction n with
  | zero => intro k; rfl
  | succ n ih =>
    intro k
    have h := ih (k + 1)
    have hb := m_cells_b (k := k) (e := e) hH
    unfold m_sgn
    rw [n_sum_first (fun j => m_rsg P e (k + j))]
    have e2 : n_sum (fun j => m_rsg P e (k + (j + 1))) n = n_sum (fun j => m_rsg P e (k + 1 + j)) n := n_sum_c (fun j _ _ => by rw [show k + (j + 1) = k + 1 + j by omega])
    have h1 := n_ss_length (p_row P (m_slot P k)) (m_cells P k e).toNat 0
    have e3 : n_cnt (fun j => ¬ 128 ≤ p_row P (m_slot P k) (0 + j)) (m_cells P k e).toNat = m_rsg P e k := by
      unfold m_rsg m_sin
      refine n_cnt_c (fun j _ _ => ?_)
      rw [Int.zero_add]; rfl
    rw [e3] at h1
    rw [e2, Int.add_zero]
    show ((n_ss (p_row P (m_slot P k)) 0 (m_cells P k e).toNat ++ m_ss P e (k + 1) n).length : Int) = _
    rw [List.length_append]
    unfold m_sgn at h
    omega
theorem m_line_length {P : Int → Int} {b e : Int} (hH : p_hd P) : ((m_line P b e).length : Int) = m_signs P b e := m_ss_length hH _ _
theorem m_rowA_ros {P : Int → Int} {r what : Int} (h0 : -24 ≤ r) (h1 : r ≤ P 1 - 1) (h2 : 0 ≤ what) (h3 : what ≤ 3) (h4 : - P 14 ≤ r) : m_rowA P r what = m_ros P (m_slot P (r + P 14)) what := by
  have hslot : (if r < 0 then P 14 + r else 24 + r) = m_slot P (r + P 14) := by unfold m_slot; split <;> split <;> omega
  unfold m_rowA; rw [if_neg (by omega), if_neg (by omega), hslot]
theorem m_curA_cur {P : Int → Int} {w what : Int} (h0 : 0 ≤ w) (h1 : w ≤ P 7) (h7 : P 7 ≤ 3) (h2 : 0 ≤ what) (h3 : what ≤ 3) : m_curA P w what = m_cur P w what := by
  unfold m_curA; rw [if_neg (by omega), if_pos h1]
theorem y_dm {W r c : Int} (h0 : 0 ≤ c) (h1 : c < W) : (r * W + c) / W = r ∧ (r * W + c) % W = c := by
  constructor
  · rw [Int.add_comm, Int.add_mul_ediv_right _ _ (by omega), Int.ediv_eq_zero_of_lt h0 h1]; omega
  · rw [Int.add_comm, Int.add_mul_emod_self_right, Int.emod_eq_of_lt h0 h1]
theorem m_lbeg_0 {P : Int → Int} {n : Int} (hn : 0 ≤ n) : m_lbeg P n 0 = 0 := m_lbeg_eq (Int.le_refl _) hn (Or.inl rfl) (Or.inl rfl)
theorem m_lbeg_next {P : Int → Int} {n k nn : Int} (h0 : 0 ≤ k) (h1 : k < n) (hk : m_lno P n k = nn) : m_lbeg P n (nn + 1) = m_lend P n k + 1 ∧ m_lno P n (m_lend P n k + 1) = nn + 1 ∧ m_lend P n k + 1 ≤ n := by
  have g := m_lend_spec (P := P) h1
  have e := m_lno_next (P := P) h0 h1
  refine ⟨m_lbeg_eq (by omega) (by omega) (Or.inr (by rw [show m_lend P n k + 1 - 1 = m_lend P n k by omega]; exact g.2.2.1)) (Or.inl (by omega)), by omega, by omega⟩
