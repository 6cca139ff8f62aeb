/-! a line of the page as the law asks for it -/
section ZLN
variable {P : Int → Int} {k b e i what : Int}
theorem lineA_in (k0 : 0 ≤ k) (w0 : 0 ≤ what) (w1 : what ≤ 2) (hlb : m_lbeg P (m_count P) k = b) (hbn : b < m_count P) : m_lineA P k what = m_lof P b (m_lend P (m_count P) b) what := by
  unfold m_lineA
  rw [if_neg (by omega), hlb, if_pos hbn]
theorem signA_in (k0 : 0 ≤ k) (i0 : 0 ≤ i) (hlb : m_lbeg P (m_count P) k = b) (hbn : b < m_count P) : m_signA P k i = m_sgA P b (m_lend P (m_count P) b) i := by
  unfold m_signA
  rw [if_neg (by omega), hlb, if_pos hbn]
theorem lof_0 : m_lof P b e 0 = m_signs P b e := by unfold m_lof; rw [if_pos rfl]
theorem lof_1 : m_lof P b e 1 = e - b + 1 := by unfold m_lof; rw [if_neg (by decide), if_pos rfl]
theorem lof_2 : (P 14 < b → m_lof P b e 2 = 0) ∧ (b ≤ P 14 ∧ P 14 ≤ e → m_lof P b e 2 = P 14 - b) ∧ (b ≤ e → e < P 14 → m_lof P b e 2 = e - b + 1) := by
  unfold m_lof
  rw [if_neg (by decide), if_neg (by decide)]
  refine ⟨fun h => if_pos (by omega), fun h => ?_, fun h h2 => ?_⟩
  · rw [if_neg (by omega), if_pos (by omega)]
  · rw [if_neg (by omega), if_neg (by omega)]
theorem signs_len (hH : p_hd P) : m_signs P b e = (m_line P b e).length := (m_line_length hH).symm
theorem sgA_end (hH : p_hd P) : m_sgA P b e (m_signs P b e) = -9 := by
  unfold m_sgA
  rw [signs_len hH, List.getElem?_eq_none (by omega)]; rfl
theorem lineA_end (hH : p_hd P) (w0 : 0 ≤ what) (w1 : what ≤ 2) : m_lineA P (m_lno P (m_count P) (m_count P)) what = -9 := by
  have hc := m_count_b hH
  have hb := m_lno_b P (m_count P) (m_count P) (by omega)
  have e : m_lbeg P (m_count P) (m_lno P (m_count P) (m_count P)) = m_count P := m_lbeg_eq (by omega) (Int.le_refl _) (Or.inr (Or.inl (Int.le_refl _))) (Or.inl rfl)
  unfold m_lineA
  rw [if_neg (by omega), e, if_neg (by omega)]
/-- how many signs of a list are not blank -/
def t_nb : List Int → Int
  | [] => 0
  | a :: l => (if a = 32 then 0 else 1) + t_nb l
theorem t_nb_app (l m : List Int) : t_nb (l ++ m) = t_nb l + t_nb m := by
  induction l with
  | nil => show t_nb m = 0 + t_nb m; omega
  | cons a l ih =>
    show (if a = 32 then 0 else 1) + t_nb (l ++ m) = (if a = 32 then 0 else 1) + t_nb l + t_nb m
    rw [ih]; omega
theorem t_nb_bl (n : Nat) : t_nb (List.replicate n 32) = 0 := by
  induction n with
  | zero => rfl
  | succ n ih =>
    rw [List.replicate_succ]
    show (if (32 : Int) = 32 then 0 else 1) + t_nb (List.replicate n 32) = 0
    rw [ih, if_pos rfl]; rfl
theorem t_nb_ss (r : Int → Int) (n : Nat) : t_nb (n_ss r 0 n) = n_cnt (fun c => r c ≠ 32 ∧ ¬ 128 ≤ r c) n := by
  induction n with
  | zero => rfl
  | succ n ih =>
    rw [n_ss_add r 1 n 0, t_nb_app, ih, show (0 : Int) + (n : Int) = n by omega]
    show _ + t_nb (if 128 ≤ r (n : Nat) then [] else [r (n : Nat)]) = n_cnt (fun c => r c ≠ 32 ∧ ¬ 128 ≤ r c) n + (if r (n : Nat) ≠ 32 ∧ ¬ 128 ≤ r (n : Nat) then 1 else 0)
    by_cases q : 128 ≤ r (n : Nat)
    · rw [if_pos q, if_neg (fun x => x.2 q)]; rfl
    · rw [if_neg q]
      show _ + ((if r (n : Nat) = 32 then 0 else 1) + 0) = _
      by_cases q2 : r (n : Nat) = 32
      · rw [if_pos q2, if_neg (fun x => x.1 q2)]; rfl
      · rw [if_neg q2, if_pos ⟨q2, q⟩]; rfl
theorem t_nb_take {l : List Int} {j : Nat} (h : j < l.length) : t_nb (l.take (j + 1)) = t_nb (l.take j) + (if (l[j]?).getD (-9) = 32 then 0 else 1) := by
  rw [List.take_add_one, t_nb_app, List.getElem?_eq_getElem h]
  show _ + ((if l[j] = 32 then 0 else 1) + 0) = _ + (if l[j] = 32 then 0 else 1)
  omega
theorem cells_bl (hH : p_hd P) (hG : p_G P) (k0 : 0 ≤ k) (k1 : k < P 14 + P 1) {j : Int} (j0 : m_cells P k e ≤ j) (j1 : j < P 0) : p_rows P k j = 32 := by
  unfold m_cells at j0
  by_cases q : k = e
  · rw [if_pos q] at j0
    exact n_used_bl _ (P 0).toNat j j0 (by have := p_hd_W hH; omega)
  · rw [if_neg q] at j0
    by_cases q2 : P (15 + 22 * m_slot P k + 21) = 1
    · rw [if_pos q2] at j0
      have := (gg_k hH hG k0 k1 q2).2
      rw [show j = P 0 - 1 by omega]; exact this
    · rw [if_neg q2] at j0; omega
theorem t_nb_row (hH : p_hd P) (hG : p_G P) (k0 : 0 ≤ k) (k1 : k < P 14 + P 1) : t_nb (n_ss (p_row P (m_slot P k)) 0 (m_cells P k e).toNat) = s_sg (p_rows P k) (P 0) := by
  have hb := m_cells_b (k := k) (e := e) hH
  have h1 := n_ss_pad (r := p_rows P k) hb.1 hb.2 (fun j j0 j1 => cells_bl hH hG k0 k1 j0 j1)
  have h2 := t_nb_ss (p_rows P k) (P 0).toNat
  rw [h1, t_nb_app, t_nb_bl] at h2
  show t_nb (n_ss (p_rows P k) 0 (m_cells P k e).toNat) = n_cnt _ (P 0).toNat
  omega
theorem t_nb_rows (hH : p_hd P) (hG : p_G P) : ∀ (n : Nat) (k : Int), 0 ≤ k → k + n ≤ P 14 + P 1 → t_nb (m_ss P e k n) = n_sum (fun j => s_sg (p_rows P (k + j)) (P 0)) n := by
  intro n
  induction n with
  | zero => intro k _ _; rfl
  | succ n ih =>
    intro k k0 k1
    show t_nb (n_ss (p_row P (m_slot P k)) 0 (m_cells P k e).toNat ++ m_ss P e (k + 1) n) = _
    rw [t_nb_app, t_nb_row hH hG k0 (by omega), ih (k + 1) (by omega) (by omega), n_sum_first]
    rw [Int.add_zero]
    congr 1
    exact n_sum_c (fun j _ _ => by rw [show k + 1 + j = k + (j + 1) by omega])
theorem t_nb_line (hH : p_hd P) (hG : p_G P) (b0 : 0 ≤ b) (hbe : b ≤ e) (he : e < P 14 + P 1) : t_nb (m_line P b e) = n_sum (fun j => s_sg (p_rows P (b + j)) (P 0)) (e + 1 - b).toNat := t_nb_rows hH hG _ _ b0 (by omega)
/-- the last sign of a line of one row is not blank -/
theorem n_used_last (r : Int → Int) : ∀ n : Nat, 0 < n_used r n → r (n_used r n - 1) ≠ 32 := by
  intro n
  induction n with
  | zero => intro h; exact absurd h (by show ¬ (0 : Int) < 0; decide)
  | succ n ih =>
    intro h
    have e : n_used r (n + 1) = if r (n : Nat) = 32 then n_used r n else ((n + 1 : Nat) : Int) := rfl
    rw [e] at h ⊢
    by_cases q : r (n : Nat) = 32
    · rw [if_pos q] at h ⊢; exact ih h
    · rw [if_neg q]
      rw [show ((n + 1 : Nat) : Int) - 1 = (n : Nat) by omega]; exact q
theorem getD_snoc (A : List Int) (x d : Int) : (((A ++ [x])[((A ++ [x]).length : Int).toNat - 1]?).getD d) = x := by
  have e : ((A ++ [x]).length : Int).toNat - 1 = A.length := by rw [List.length_append]; show ((A.length + 1 : Nat) : Int).toNat - 1 = _; omega
  rw [e, List.getElem?_append_right (Nat.le_refl _), Nat.sub_self]; rfl
theorem last_ne (hH : p_hd P) (hW : p_W P) (b0 : 0 ≤ b) (b1 : b < P 14 + P 1) (hs : 0 < m_signs P b b) : m_sgA P b b (m_signs P b b - 1) ≠ 32 := by
  have hw := p_hd_W hH
  have hwf := p_W_k hH hW b0 b1
  have hl : m_line P b b = n_ss (p_rows P b) 0 (n_used (p_rows P b) (P 0).toNat).toNat := by
    unfold m_line
    rw [show (b + 1 - b).toNat = 1 by omega]
    show n_ss (p_row P (m_slot P b)) 0 (m_cells P b b).toNat ++ [] = _
    rw [List.append_nil]
    unfold m_cells
    rw [if_pos rfl]; rfl
  have hlen := signs_len (b := b) (e := b) hH
  have hub := n_used_b (p_rows P b) (P 0).toNat
  have hla := n_used_last (p_rows P b) (P 0).toNat
  unfold m_sgA
  rw [hlen] at hs ⊢
  rw [hl] at hs ⊢
  generalize n_used (p_rows P b) (P 0).toNat = u at hub hla hs ⊢
  have hu : 0 < u := by
    rcases Int.lt_or_le 0 u with q | q
    · exact q
    · rw [show u.toNat = 0 by omega] at hs
      exact absurd hs (by show ¬ (0 : Int) < ((0 : Nat) : Int); decide)
  have h32 := hla hu
  have gen : ∀ (A : List Int) (x : Int), x ≠ 32 → (((A ++ [x])[(((A ++ [x]).length : Int) - 1).toNat]?).getD (-9)) ≠ 32 := fun A x hx => by
    rw [show (((A ++ [x]).length : Int) - 1).toNat = ((A ++ [x]).length : Int).toNat - 1 by omega, getD_snoc]; exact hx
  have s1 : ∀ v : Int, 0 < v → n_ss (p_rows P b) 0 v.toNat = n_ss (p_rows P b) 0 (v - 1).toNat ++ (if 128 ≤ p_rows P b (v - 1) then [] else [p_rows P b (v - 1)]) := fun v hv => by
    rw [show v.toNat = (v - 1).toNat + 1 by omega, n_ss_add, show (0 : Int) + ((v - 1).toNat : Int) = v - 1 by omega]; rfl
  by_cases q : 128 ≤ p_rows P b (u - 1)
  · rcases hwf.1 (u - 1) (by omega) (by omega) with w | w
    · omega
    · have e2 := w.2.2.2
      rw [s1 u hu, if_pos q, List.append_nil, s1 (u - 1) (by omega), if_neg (by omega)]
      exact gen _ _ (by omega)
  · rw [s1 u hu, if_neg q]
    exact gen _ _ h32
end ZLN
/-- contracts that leave the page as it is -/
theorem k_X4_sign {E : z_E} {mi : z_Mi} {mr : z_Mr} {o : Nat} {P : Int → Int} {n nx line k : Int} (hX : z_X E o mi mr P n nx) (hz1 : z_R line) (hz2 : z_R k) : z_mi M_X4_sign E [zo o, zi line, zi k] mi mr (fun x m r => x = m_signA P line k ∧ z_X E o m r P n nx) :=
  z_mi_w (c_X4_sign hX hz1 hz2) (fun x m r hq => by obtain ⟨h1, G, f, rfl, rfl⟩ := hq; exact ⟨h1, z_X_q hX⟩)
theorem k_X4_ifWidth {E : z_E} {mi : z_Mi} {mr : z_Mr} {o : Nat} {P : Int → Int} {n nx w : Int} (hX : z_X E o mi mr P n nx) (h0 : 4 ≤ w) (h1 : w ≤ 20) : z_mi M_X4_ifWidth E [zo o, zi w] mi mr (fun x m r => x = y_many P w ∧ z_X E o m r P n nx) :=
  z_mi_w (c_X4_ifWidth hX ⟨by omega, by omega⟩) (fun x m r hq => by obtain ⟨h2, G, f, rfl, rfl⟩ := hq; rw [if_pos ⟨h0, h1⟩] at h2; exact ⟨h2, z_X_q hX⟩)
theorem k_X4_widthFor {E : z_E} {mi : z_Mi} {mr : z_Mr} {o : Nat} {P : Int → Int} {n nx k : Int} (hX : z_X E o mi mr P n nx) (h0 : 1 ≤ k) (h1 : k ≤ 40) : z_mi M_X4_widthFor E [zo o, zi k] mi mr (fun x m r => x = y_wf P k 17 4 ∧ z_X E o m r P n nx) :=
  z_mi_w (c_X4_widthFor hX ⟨by omega, by omega⟩) (fun x m r hq => by obtain ⟨h2, G, f, rfl, rfl⟩ := hq; rw [if_pos ⟨h0, h1⟩] at h2; exact ⟨h2, z_X_q hX⟩)
