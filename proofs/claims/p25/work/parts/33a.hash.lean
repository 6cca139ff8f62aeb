/-! the hash of the lines, without what is blank at their ends -/
theorem t_rim_ne {x : Int} (hx : x ≠ 32) : ∀ A : List Int, t_rim (A ++ [x]) = A ++ [x] := by
  intro A
  induction A with
  | nil =>
    show (if ([] : List Int) = [] ∧ x = 32 then [] else x :: []) = [x]
    rw [if_neg (fun q => hx q.2)]
  | cons a A ih =>
    rw [List.cons_append, t_rim_c, ih, if_neg (fun q => by simp at q)]
theorem t_rim_pre : ∀ l : List Int, ∃ n, l = t_rim l ++ List.replicate n 32 := by
  intro l
  induction l with
  | nil => exact ⟨0, rfl⟩
  | cons a l ih =>
    obtain ⟨n, hn⟩ := ih
    rw [t_rim_c]
    by_cases q : t_rim l = [] ∧ a = 32
    · rw [if_pos q, q.2]
      refine ⟨n + 1, ?_⟩
      rw [q.1] at hn
      rw [List.replicate_succ, List.nil_append, ← List.nil_append (List.replicate n 32), ← hn]
    · rw [if_neg q]
      exact ⟨n, by rw [List.cons_append, ← hn]⟩
theorem t_rim_len (l : List Int) : (t_rim l).length ≤ l.length := by
  obtain ⟨n, hn⟩ := t_rim_pre l
  have := congrArg List.length hn
  rw [List.length_append] at this; omega
theorem t_rim_at {l : List Int} {i : Nat} (h : i < (t_rim l).length) : (l[i]?).getD (-9) = (t_rim l)[i] := by
  obtain ⟨n, hn⟩ := t_rim_pre l
  have e : l[i]? = (t_rim l ++ List.replicate n 32)[i]? := congrArg (fun x => x[i]?) hn
  rw [e, List.getElem?_append_left h, List.getElem?_eq_getElem h]; rfl
def t_fin (D : List (List Int)) : List (List Int) := if t_cut D = [] then (if D = [] then [] else [[]]) else t_cut D
theorem t_cut_snoc {l : List Int} (h : t_rim l ≠ []) : ∀ D : List (List Int), t_cut (D ++ [l]) = (D ++ [l]).map t_rim := by
  intro D
  induction D with
  | nil =>
    show (if ([] : List (List Int)) = [] ∧ t_rim l = [] then [] else t_rim l :: []) = [t_rim l]
    rw [if_neg (fun q => h q.2)]
  | cons d D ih =>
    rw [List.cons_append, t_cut_c, ih, if_neg (fun q => by simp at q)]; rfl
theorem t_cut_snoc0 {l : List Int} (h : t_rim l = []) (D : List (List Int)) : t_cut (D ++ [l]) = t_cut D := by
  have e : t_cut [l] = t_cut [] := by
    show (if ([] : List (List Int)) = [] ∧ t_rim l = [] then [] else t_rim l :: []) = []
    rw [if_pos ⟨rfl, h⟩]
  rw [t_cut_app e, List.append_nil]
/-- the last line that is not blank, among those seen -/
def t_la (D : List (List Int)) (la : Int) : Prop := (0 ≤ la ∧ (la < D.length ∨ (D = [] ∧ la = 0))) ∧ (D.take (la.toNat + 1)).map t_rim = t_fin D
theorem t_la_0 : t_la [] 0 := ⟨⟨Int.le_refl _, Or.inr ⟨rfl, rfl⟩⟩, rfl⟩
theorem t_la_y {D : List (List Int)} {l : List Int} {la : Int} (h : t_rim l ≠ []) : t_la (D ++ [l]) D.length := by
  have hc := t_cut_snoc h D
  have e : (D ++ [l]).length = D.length + 1 := by rw [List.length_append]; rfl
  refine ⟨⟨by omega, Or.inl (by omega)⟩, ?_⟩
  rw [show ((D.length : Int)).toNat + 1 = (D ++ [l]).length by omega, List.take_length]
  unfold t_fin
  rw [hc, if_neg (fun q => by simp at q)]
theorem t_la_n {D : List (List Int)} {l : List Int} {la : Int} (h : t_rim l = []) (hd : t_la D la) : t_la (D ++ [l]) la := by
  obtain ⟨⟨h0, h1⟩, h2⟩ := hd
  have e : (D ++ [l]).length = D.length + 1 := by rw [List.length_append]; rfl
  have hc := t_cut_snoc0 h D
  refine ⟨⟨h0, Or.inl (by rcases h1 with q | ⟨q, q2⟩ <;> omega)⟩, ?_⟩
  unfold t_fin at *
  rw [hc]
  rcases h1 with q | ⟨q, q2⟩
  · rw [List.take_append_of_le_length (by omega), h2]
    by_cases q3 : t_cut D = []
    · rw [if_pos q3, if_pos q3, if_neg (fun x => by rw [x] at q; exact absurd q (by show ¬ la < ((0 : Nat) : Int); omega)), if_neg (fun x => by simp at x)]
    · rw [if_neg q3, if_neg q3]
  · subst q; subst q2
    show [t_rim l] = _
    rw [h]; rfl
abbrev h_st (h a : Int) : Int := 31 * h + a
def h_ln (h : Int) (l : List Int) : Int := l.foldl h_st (31 * h + 7)
def h_all (D : List (List Int)) : Int := D.foldl h_ln 0
theorem h_all_snoc (D : List (List Int)) (l : List Int) : h_all (D ++ [l]) = h_ln (h_all D) l := by
  unfold h_all; rw [List.foldl_append]; rfl
theorem h_take {l : List Int} {i : Nat} {h : Int} (hi : i < l.length) : (l.take (i + 1)).foldl h_st h = 31 * (l.take i).foldl h_st h + l[i] := by
  rw [List.take_add_one, List.foldl_append, List.getElem?_eq_getElem hi]; rfl
def y_hash (P : Int → Int) : Int := h_all (t_fin (y_ll P (m_count P) 0))
theorem y_ll_ne {P : Int → Int} (hH : p_hd P) : y_ll P (m_count P) 0 ≠ [] := by
  have hc := m_count_b hH
  rw [y_ll_s (show (0 : Int) < m_count P by omega)]
  exact fun x => by simp at x
theorem y_hash_eq {P Q : Int → Int} (hP : p_hd P) (hQ : p_hd Q) (h : t_cut (y_ll Q (m_count Q) 0) = t_cut (y_ll P (m_count P) 0)) : y_hash Q = y_hash P := by
  unfold y_hash t_fin
  rw [h, if_neg (y_ll_ne hP), if_neg (y_ll_ne hQ)]
/-- the width that widthFor tells -/
theorem y_wf_sp {P : Int → Int} {n : Int} : ∀ (f : Nat) (c : Int), c + f = 21 → (y_wf P n f c = -9 ∧ ∀ d, c ≤ d → d ≤ 20 → n < y_many P d) ∨ (c ≤ y_wf P n f c ∧ y_wf P n f c ≤ 20 ∧ y_many P (y_wf P n f c) ≤ n ∧ ∀ d, c ≤ d → d < y_wf P n f c → n < y_many P d) := by
  intro f
  induction f with
  | zero => intro c hc; exact Or.inl ⟨rfl, fun d d0 d1 => absurd d1 (by omega)⟩
  | succ f ih =>
    intro c hc
    have e := y_wf_s P n (c := c) (by omega)
    rw [show (21 - c).toNat = f + 1 by omega, show (21 - (c + 1)).toNat = f by omega] at e
    rw [e]
    by_cases q : y_many P c ≤ n
    · rw [if_pos q]
      exact Or.inr ⟨Int.le_refl _, by omega, q, fun d d0 d1 => absurd d1 (by omega)⟩
    · rw [if_neg q]
      rcases ih (c + 1) (by omega) with ⟨h1, h2⟩ | ⟨h1, h2, h3, h4⟩
      · refine Or.inl ⟨h1, fun d d0 d1 => ?_⟩
        by_cases q2 : d = c
        · rw [q2]; omega
        · exact h2 d (by omega) d1
      · refine Or.inr ⟨by omega, h2, h3, fun d d0 d1 => ?_⟩
        by_cases q2 : d = c
        · rw [q2]; omega
        · exact h4 d (by omega) d1
theorem y_many_b {P : Int → Int} (hH : p_hd P) (w : Int) : 0 ≤ y_many P w ∧ y_many P w ≤ 20512 := by
  have hc := m_count_b hH
  obtain ⟨pw0, pw1, ph0, ph1, pf0, pf1, pf2, pr0, pr1, pc0, pc1, pp0, pp1, pk0, pk1, pi0, pi1, pkp, pP⟩ := id hH
  have h := (y_bc_b (P := P) (W := w) (n := m_count P) hH (m_count P).toNat (by omega)).2
  rw [y_bc_many w hH] at h
  omega
