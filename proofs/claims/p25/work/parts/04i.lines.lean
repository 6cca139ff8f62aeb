/-! LINES: the first number with a property; ends of lines; signs -/
def n_fst (p : Int → Prop) [DecidablePred p] : Nat → Int
  | 0 => 0
  | n + 1 => if n_fst p n < (n : Nat) then n_fst p n else if p (n : Nat) then (n : Nat) else ((n + 1 : Nat) : Int)
theorem n_fst_spec (p : Int → Prop) [DecidablePred p] (n : Nat) : 0 ≤ n_fst p n ∧ n_fst p n ≤ n ∧ (∀ j : Int, 0 ≤ j → j < n_fst p n → ¬ p j) ∧ (n_fst p n < n → p (n_fst p n)) := by
  induction n with
  | zero => exact ⟨Int.le_refl _, Int.le_refl _, fun j h0 h1 => absurd (show j < 0 from h1) (by omega), fun h => absurd (show (0 : Int) < 0 from h) (by omega)⟩
  | succ n ih =>
    obtain ⟨h0, h1, h2, h3⟩ := ih
    by_cases hl : n_fst p n < (n : Nat)
    · have e : n_fst p (n + 1) = n_fst p n := if_pos hl
      rw [e]
      exact ⟨h0, by omega, h2, fun _ => h3 hl⟩
    · have hn : n_fst p n = (n : Nat) := by omega
      by_cases hp : p (n : Nat)
      · have e : n_fst p (n + 1) = (n : Nat) := (if_neg hl).trans (if_pos hp)
        rw [e]
        exact ⟨by omega, by omega, fun j g0 g1 => h2 j g0 (by omega), fun _ => hp⟩
      · have e : n_fst p (n + 1) = ((n + 1 : Nat) : Int) := (if_neg hl).trans (if_neg hp)
        rw [e]
        refine ⟨by omega, by omega, fun j g0 g1 => ?_, fun h => absurd h (by omega)⟩
        by_cases hj : j = (n : Nat)
        · rw [hj]; exact hp
        · exact h2 j g0 (by omega)
theorem n_fst_eq {p : Int → Prop} [DecidablePred p] {n : Nat} {r : Int} (h0 : 0 ≤ r) (h1 : r ≤ n) (h2 : ∀ j : Int, 0 ≤ j → j < r → ¬ p j) (h3 : r < n → p r) : n_fst p n = r := by
  obtain ⟨g0, g1, g2, g3⟩ := n_fst_spec p n
  rcases Int.lt_trichotomy (n_fst p n) r with h | h | h
  · exact absurd (g3 (by omega)) (h2 _ g0 h)
  · exact h
  · exact absurd (h3 (by omega)) (g2 r h0 h)
theorem n_cnt_add {p : Int → Prop} [DecidablePred p] {a b : Int} (h0 : 0 ≤ a) (hab : a ≤ b) (hn : ∀ j : Int, a ≤ j → j < b → ¬ p j) : n_cnt p b.toNat = n_cnt p a.toNat := by
  have h : ∀ (d : Nat) (b : Int), b = a + d → (∀ j : Int, a ≤ j → j < b → ¬ p j) → n_cnt p b.toNat = n_cnt p a.toNat := by
    intro d
    induction d with
    | zero => intro b hb _; rw [show b = a by omega]
    | succ d ih =>
      intro b hb hn
      have e : b = (a + d) + 1 := by omega
      rw [e, n_cnt_s _ (by omega), if_neg (hn _ (by omega) (by omega)), ih (a + d) rfl (fun j g0 g1 => hn j g0 (by omega))]
      omega
  exact h (b - a).toNat b (by omega) hn
theorem n_cnt_mono (p : Int → Prop) [DecidablePred p] {a b : Int} (h0 : 0 ≤ a) (hab : a ≤ b) : n_cnt p a.toNat ≤ n_cnt p b.toNat := by
  have h : ∀ (d : Nat) (b : Int), b = a + d → n_cnt p a.toNat ≤ n_cnt p b.toNat := by
    intro d
    induction d with
    | zero => intro b hb; rw [show b = a by omega]; exact Int.le_refl _
    | succ d ih =>
      intro b hb
      have e : b = (a + d) + 1 := by omega
      rw [e, n_cnt_s _ (by omega)]
      have := ih (a + d) rfl
      split <;> omega
  exact h (b - a).toNat b (by omega)
/-- the slot of a row that counts; wraps and gaps; a row ends its line (n rows count) -/
def m_slot (P : Int → Int) (k : Int) : Int := if k < P 14 then k else 24 + k - P 14
abbrev m_wrap (P : Int → Int) (k : Int) : Prop := P (15 + 22 * m_slot P k + 20) = 1
abbrev m_ends (P : Int → Int) (n k : Int) : Prop := n - 1 ≤ k ∨ ¬ m_wrap P k
theorem m_slot_b {P : Int → Int} {k : Int} (h : p_hd P) (h0 : 0 ≤ k) (h1 : k < P 14 + 8) : 0 ≤ m_slot P k ∧ m_slot P k ≤ 31 := by
  obtain ⟨hw0, hw1, hh0, hh1, hf0, hf1, hf2, hr0, hr1, hc0, hc1, hp0, hp1, hk0, hk1, hi0, hi1, hkp, hP⟩ := h
  unfold m_slot; split <;> omega
/-- how many rows count -/
def m_lastk (P : Int → Int) : Nat → Int
  | 0 => P 4
  | n + 1 => if m_lastk P n < P (8 + 2 * (n : Nat)) then P (8 + 2 * (n : Nat)) else m_lastk P n
def m_lastr (P : Int → Int) (l : Int) : Nat → Int
  | 0 => l
  | n + 1 => if m_lastr P l n < (n : Nat) ∧ 0 < m_fill P (24 + (n : Nat)) then (n : Nat) else m_lastr P l n
def m_last (P : Int → Int) : Int := m_lastr P (m_lastk P (P 7).toNat) (P 1).toNat
def m_count (P : Int → Int) : Int := P 14 + m_last P + 1
theorem m_lastk_s (P : Int → Int) {c : Int} (h : 0 ≤ c) : m_lastk P (c + 1).toNat = if m_lastk P c.toNat < P (8 + 2 * c) then P (8 + 2 * c) else m_lastk P c.toNat := by
  rw [show (c + 1).toNat = c.toNat + 1 by omega]
  show (if m_lastk P c.toNat < P (8 + 2 * (c.toNat : Nat)) then P (8 + 2 * (c.toNat : Nat)) else m_lastk P c.toNat) = _
  rw [show ((c.toNat : Nat) : Int) = c by omega]
theorem m_lastr_s (P : Int → Int) (l : Int) {c : Int} (h : 0 ≤ c) : m_lastr P l (c + 1).toNat = if m_lastr P l c.toNat < c ∧ 0 < m_fill P (24 + c) then c else m_lastr P l c.toNat := by
  rw [show (c + 1).toNat = c.toNat + 1 by omega]
  show (if m_lastr P l c.toNat < (c.toNat : Nat) ∧ 0 < m_fill P (24 + (c.toNat : Nat)) then ((c.toNat : Nat) : Int) else m_lastr P l c.toNat) = _
  rw [show ((c.toNat : Nat) : Int) = c by omega]
theorem m_lastk_b {P : Int → Int} (h : p_hd P) (n : Nat) (hn : n ≤ P 7) : P 4 ≤ m_lastk P n ∧ m_lastk P n < P 1 ∧ ∀ j : Int, 0 ≤ j → j < n → P (8 + 2 * j) ≤ m_lastk P n := by
  obtain ⟨hw0, hw1, hh0, hh1, hf0, hf1, hf2, hr0, hr1, hc0, hc1, hp0, hp1, hk0, hk1, hi0, hi1, hkp, hP⟩ := h
  induction n with
  | zero => exact ⟨Int.le_refl _, hr1, fun j h0 h1 => absurd h1 (by omega)⟩
  | succ n ih =>
    obtain ⟨g1, g2, g3⟩ := ih (by omega)
    have hk := (hkp (n : Nat) (by omega) (by omega)).1
    have e : m_lastk P (n + 1) = if m_lastk P n < P (8 + 2 * (n : Nat)) then P (8 + 2 * (n : Nat)) else m_lastk P n := rfl
    rw [e]
    refine ⟨by split <;> omega, by split <;> omega, fun j h0 h1 => ?_⟩
    by_cases hj : j = (n : Nat)
    · rw [hj]; split <;> omega
    · have := g3 j h0 (by omega)
      split <;> omega
theorem m_lastr_b {P : Int → Int} {l : Int} {H : Int} (n : Nat) (hn : n ≤ H) (h1 : l < H) : l ≤ m_lastr P l n ∧ m_lastr P l n < H := by
  induction n with
  | zero => exact ⟨Int.le_refl _, h1⟩
  | succ n ih =>
    have := ih (by omega)
    have e : m_lastr P l (n + 1) = if m_lastr P l n < (n : Nat) ∧ 0 < m_fill P (24 + (n : Nat)) then ((n : Nat) : Int) else m_lastr P l n := rfl
    rw [e]; split <;> omega
theorem m_last_b {P : Int → Int} (h : p_hd P) : P 4 ≤ m_last P ∧ m_last P < P 1 ∧ ∀ j : Int, 0 ≤ j → j < P 7 → P (8 + 2 * j) ≤ m_last P := by
  have hh := h
  obtain ⟨hw0, hw1, hh0, hh1, hf0, hf1, hf2, hr0, hr1, hc0, hc1, hp0, hp1, hk0, hk1, hi0, hi1, hkp, hP⟩ := hh
  obtain ⟨g1, g2, g3⟩ := m_lastk_b h (P 7).toNat (by omega)
  obtain ⟨g4, g5⟩ := m_lastr_b (P := P) (l := m_lastk P (P 7).toNat) (H := P 1) (P 1).toNat (by omega) g2
  unfold m_last
  exact ⟨by omega, g5, fun j h0 h1 => by have := g3 j h0 (by omega); omega⟩
theorem m_count_b {P : Int → Int} (h : p_hd P) : P 14 + P 4 < m_count P ∧ m_count P ≤ P 14 + P 1 ∧ 1 ≤ m_count P := by
  have hh := h
  obtain ⟨hw0, hw1, hh0, hh1, hf0, hf1, hf2, hr0, hr1, hc0, hc1, hp0, hp1, hk0, hk1, hi0, hi1, hkp, hP⟩ := hh
  have := m_last_b h
  unfold m_count; omega
/-- the last row of the line that goes on at k -/
def m_lend (P : Int → Int) (n k : Int) : Int := k + n_fst (fun j => m_ends P n (k + j)) (n - k).toNat
theorem m_lend_spec {P : Int → Int} {n k : Int} (h : k < n) : k ≤ m_lend P n k ∧ m_lend P n k < n ∧ m_ends P n (m_lend P n k) ∧ ∀ j, k ≤ j → j < m_lend P n k → ¬ m_ends P n j := by
  obtain ⟨g0, g1, g2, g3⟩ := n_fst_spec (fun j => m_ends P n (k + j)) (n - k).toNat
  have hlt : n_fst (fun j => m_ends P n (k + j)) (n - k).toNat < ((n - k).toNat : Nat) := by
    rcases Int.lt_or_le (n_fst (fun j => m_ends P n (k + j)) (n - k).toNat) ((n - k).toNat : Nat) with q | q
    · exact q
    · exact absurd (Or.inl (by omega)) (g2 (n - 1 - k) (by omega) (by omega))
  unfold m_lend
  refine ⟨by omega, by omega, g3 hlt, fun j h0 h1 => ?_⟩
  have := g2 (j - k) (by omega) (by omega)
  rwa [show k + (j - k) = j by omega] at this
theorem m_lend_eq {P : Int → Int} {n k e : Int} (h0 : k ≤ e) (h1 : e < n) (h2 : m_ends P n e) (h3 : ∀ j, k ≤ j → j < e → ¬ m_ends P n j) : m_lend P n k = e := by
  unfold m_lend
  rw [n_fst_eq (r := e - k) (by omega) (by omega) (fun j g0 g1 => h3 (k + j) (by omega) (by omega)) (fun _ => by rw [show k + (e - k) = e by omega]; exact h2)]
  omega
/-- the number of lines that end ahead of a row; the first row of a line -/
def m_lno (P : Int → Int) (n k : Int) : Int := n_cnt (fun j => m_ends P n j) k.toNat
def m_lbeg (P : Int → Int) (n line : Int) : Int := n_fst (fun k => m_lno P n k = line) n.toNat
theorem m_lno_0 (P : Int → Int) (n : Int) : m_lno P n 0 = 0 := rfl
theorem m_lno_next {P : Int → Int} {n k : Int} (h0 : 0 ≤ k) (h : k < n) : m_lno P n (m_lend P n k + 1) = m_lno P n k + 1 := by
  obtain ⟨g1, g2, g3, g4⟩ := m_lend_spec (P := P) h
  unfold m_lno
  rw [n_cnt_s _ (by omega), if_pos g3, n_cnt_add h0 g1 g4]
theorem m_lno_mono (P : Int → Int) (n : Int) {a b : Int} (h0 : 0 ≤ a) (hab : a ≤ b) : m_lno P n a ≤ m_lno P n b := n_cnt_mono _ h0 hab
theorem m_lno_b (P : Int → Int) (n k : Int) (h0 : 0 ≤ k) : 0 ≤ m_lno P n k ∧ m_lno P n k ≤ k := by
  have := n_cnt_b (fun j => m_ends P n j) k.toNat
  unfold m_lno; omega
/-- k begins a line -/
def m_beg (P : Int → Int) (n k : Int) : Prop := k = 0 ∨ m_ends P n (k - 1)
theorem m_lno_lt {P : Int → Int} {n k j : Int} (hb : m_beg P n k) (h0 : 0 ≤ j) (h1 : j < k) : m_lno P n j < m_lno P n k := by
  rcases hb with rfl | hb
  · omega
  · have e : m_lno P n k = m_lno P n (k - 1) + 1 := by
      unfold m_lno
      have := n_cnt_s (fun j => m_ends P n j) (c := k - 1) (by omega)
      rw [show k - 1 + 1 = k by omega, if_pos hb] at this
      exact this
    have := m_lno_mono P n (a := j) (b := k - 1) h0 (by omega)
    omega
theorem m_lbeg_eq {P : Int → Int} {n k line : Int} (h0 : 0 ≤ k) (h1 : k ≤ n) (hb : m_beg P n k) (h : m_lno P n k = line ∨ (k = n ∧ m_lno P n k ≤ line)) : m_lbeg P n line = k := by
  unfold m_lbeg
  refine n_fst_eq h0 (by omega) (fun j g0 g1 => ?_) (fun hl => ?_)
  · have := m_lno_lt hb g0 g1
    rcases h with h | ⟨-, h⟩ <;> omega
  · rcases h with h | ⟨h, -⟩
    · exact h
    · omega
theorem m_lbeg_spec {P : Int → Int} {n line : Int} (hn : 0 ≤ n) : 0 ≤ m_lbeg P n line ∧ m_lbeg P n line ≤ n ∧ (m_lbeg P n line < n → m_lno P n (m_lbeg P n line) = line ∧ (0 ≤ line → m_beg P n (m_lbeg P n line))) := by
  obtain ⟨g0, g1, g2, g3⟩ := n_fst_spec (fun k => m_lno P n k = line) n.toNat
  unfold m_lbeg
  generalize n_fst (fun k => m_lno P n k = line) n.toNat = q at g0 g1 g2 g3
  refine ⟨g0, by omega, fun h => ⟨g3 (by omega), fun hl => ?_⟩⟩
  have e := g3 (by omega)
  by_cases hq : q = 0
  · exact Or.inl hq
  · refine Or.inr (Classical.byContradiction fun hne => ?_)
    have g := g2 (q - 1) (by omega) (by omega)
    apply g
    show m_lno P n (q - 1) = line
    rw [← e]
    unfold m_lno
    have h2 := n_cnt_s (fun j => m_ends P n j) (c := q - 1) (by omega)
    rw [if_neg hne, show q - 1 + 1 = q by omega] at h2
    omega
/-- the first row of the line of row k -/
theorem m_lbeg_of {P : Int → Int} {n k : Int} (h0 : 0 ≤ k) (h1 : k < n) : m_lbeg P n (m_lno P n k) ≤ k ∧ 0 ≤ m_lbeg P n (m_lno P n k) ∧ m_beg P n (m_lbeg P n (m_lno P n k)) ∧ (∀ j, m_lbeg P n (m_lno P n k) ≤ j → j < k → ¬ m_ends P n j) := by
  obtain ⟨g0, g1, g2⟩ := m_lbeg_spec (P := P) (n := n) (line := m_lno P n k) (by omega)
  have hle : m_lbeg P n (m_lno P n k) ≤ k := by
    obtain ⟨q0, q1, q2, q3⟩ := n_fst_spec (fun j => m_lno P n j = m_lno P n k) n.toNat
    rcases Int.lt_or_le k (m_lbeg P n (m_lno P n k)) with q | q
    · exact absurd rfl (q2 k h0 q)
    · exact q
  obtain ⟨g3, g4⟩ := g2 (by omega)
  refine ⟨hle, g0, g4 (m_lno_b P n k h0).1, fun j h2 h3 he => ?_⟩
  have a := m_lno_mono P n (a := m_lbeg P n (m_lno P n k)) (b := j) g0 h2
  have b := m_lno_mono P n (a := j + 1) (b := k) (by omega) (by omega)
  have c : m_lno P n (j + 1) = m_lno P n j + 1 := by
    unfold m_lno; rw [n_cnt_s _ (by omega), if_pos he]
  omega
/-! cells and signs of a line -/
def m_cells (P : Int → Int) (k e : Int) : Int := if k = e then m_used P (m_slot P k) else if P (15 + 22 * m_slot P k + 21) = 1 then P 0 - 1 else P 0
theorem m_cells_b {P : Int → Int} {k e : Int} (h : p_hd P) : 0 ≤ m_cells P k e ∧ m_cells P k e ≤ P 0 := by
  obtain ⟨hw0, hw1, hh0, hh1, hf0, hf1, hf2, hr0, hr1, hc0, hc1, hp0, hp1, hk0, hk1, hi0, hi1, hkp, hP⟩ := h
  have := m_used_b (P := P) (s := m_slot P k) (by omega)
  unfold m_cells
  split
  · exact this
  · split <;> omega
def m_sin (P : Int → Int) (s t : Int) : Int := n_cnt (fun c => ¬ 128 ≤ P (15 + 22 * s + c)) t.toNat
theorem m_sin_b (P : Int → Int) (s t : Int) (h : 0 ≤ t) : 0 ≤ m_sin P s t ∧ m_sin P s t ≤ t := by
  have := n_cnt_b (fun c => ¬ 128 ≤ P (15 + 22 * s + c)) t.toNat
  unfold m_sin; omega
def m_rsg (P : Int → Int) (e k : Int) : Int := m_sin P (m_slot P k) (m_cells P k e)
/-- the signs of the rows b .. b + n - 1 of a line whose last row is e -/
def m_sgn (P : Int → Int) (e b : Int) (n : Nat) : Int := n_sum (fun j => m_rsg P e (b + j)) n
def m_signs (P : Int → Int) (b e : Int) : Int := m_sgn P e b (e + 1 - b).toNat
theorem m_rsg_b {P : Int → Int} {e k : Int} (h : p_hd P) : 0 ≤ m_rsg P e k ∧ m_rsg P e k ≤ 20 := by
  have h1 := m_cells_b (k := k) (e := e) h
  have h2 := m_sin_b P (m_slot P k) (m_cells P k e) h1.1
  have h3 := h.2.1
  unfold m_rsg; omega
theorem m_sgn_b {P : Int → Int} {e b : Int} (h : p_hd P) (n : Nat) : 0 ≤ m_sgn P e b n ∧ m_sgn P e b n ≤ n * 20 := n_sum_b n (fun k _ _ => m_rsg_b h)
/-- the signs themselves: of the cells c .. c + n - 1 of a row; of the rows k .. k + n - 1 -/
def n_ss (r : Int → Int) : Int → Nat → List Int
  | _, 0 => []
  | c, n + 1 => if 128 ≤ r c then n_ss r (c + 1) n else r c :: n_ss r (c + 1) n
def m_ss (P : Int → Int) (e : Int) : Int → Nat → List Int
  | _, 0 => []
  | k, n + 1 => n_ss (p_row P (m_slot P k)) 0 (m_cells P k e).toNat ++ m_ss P e (k + 1) n
def m_line (P : Int → Int) (b e : Int) : List Int := m_ss P e b (e + 1 - b).toNat
theorem n_ss_s {r : Int → Int} {c t : Int} (h : c < t) : n_ss r c (t - c).toNat = if 128 ≤ r c then n_ss r (c + 1) (t - (c + 1)).toNat else r c :: n_ss r (c + 1) (t - (c + 1)).toNat := by
  rw [show (t - c).toNat = (t - (c + 1)).toNat + 1 by omega]
  rfl
theorem m_ss_s {P : Int → Int} {e k : Int} (h : k ≤ e) : m_ss P e k (e + 1 - k).toNat = n_ss (p_row P (m_slot P k)) 0 (m_cells P k e).toNat ++ m_ss P e (k + 1) (e + 1 - (k + 1)).toNat := by
  rw [show (e + 1 - k).toNat = (e + 1 - (k + 1)).toNat + 1 by omega]
  rfl
def m_lof (P : Int → Int) (b e what : Int) : Int := if what = 0 then m_signs P b e else if what = 1 then e - b + 1 else if P 14 - b < 0 then 0 else if P 14 - b < e - b + 1 then P 14 - b else e - b + 1
def m_mark (P : Int → Int) (n row col : Int) : Int :=
  m_sgn P (m_lend P n (P 14 + row)) (m_lbeg P n (m_lno P n (P 14 + row))) (P 14 + row - m_lbeg P n (m_lno P n (P 14 + row))).toNat + m_sin P (m_slot P (P 14 + row)) (if col < m_cells P (P 14 + row) (m_lend P n (P 14 + row)) then col else m_cells P (P 14 + row) (m_lend P n (P 14 + row)))
    + (if P 14 + row = m_lend P n (P 14 + row) ∧ m_cells P (P 14 + row) (m_lend P n (P 14 + row)) < col then col - m_cells P (P 14 + row) (m_lend P n (P 14 + row)) else 0)
