/-! rows of a page as lines -/
def w_row (w : Int) (r : Int → Int) : List Int × Bool := (n_ss r 0 (if r 21 = 1 then w - 1 else w).toNat, decide (r 20 = 1))
def w_ls (w : Int) (R : Int → Int → Int) : Nat → Int → List (List Int × Bool)
  | 0, _ => []
  | n + 1, a => w_row w (R a) :: w_ls w R n (a + 1)
/-- the signs of rows that all go on -/
def w_cat (w : Int) (R : Int → Int → Int) : Nat → Int → List Int
  | 0, _ => []
  | n + 1, a => (w_row w (R a)).1 ++ w_cat w R n (a + 1)
section ZTXT
variable {w a : Int} {R R' : Int → Int → Int} {r r' : Int → Int}
theorem w_row_c (hw : w ≤ 20) (h : ∀ c, 0 ≤ c → c < 22 → r' c = r c) : w_row w r' = w_row w r := by
  unfold w_row
  rw [h 20 (by decide) (by decide), h 21 (by decide) (by decide)]
  congr 1
  refine n_ss_c _ _ (fun j j0 j1 => h j j0 ?_)
  split at j1 <;> omega
theorem w_ls_c (hw : w ≤ 20) : ∀ (n : Nat) (a : Int), (∀ k c, a ≤ k → k < a + n → 0 ≤ c → c < 22 → R' k c = R k c) → w_ls w R' n a = w_ls w R n a := by
  intro n
  induction n with
  | zero => intro a _; rfl
  | succ n ih =>
    intro a h
    show w_row w (R' a) :: w_ls w R' n (a + 1) = w_row w (R a) :: w_ls w R n (a + 1)
    rw [w_row_c hw (fun c c0 c1 => h a c (by omega) (by omega) c0 c1), ih (a + 1) (fun k c k0 k1 => h k c (by omega) (by omega))]
theorem w_cat_c (hw : w ≤ 20) : ∀ (n : Nat) (a : Int), (∀ k c, a ≤ k → k < a + n → 0 ≤ c → c < 22 → R' k c = R k c) → w_cat w R' n a = w_cat w R n a := by
  intro n
  induction n with
  | zero => intro a _; rfl
  | succ n ih =>
    intro a h
    show (w_row w (R' a)).1 ++ w_cat w R' n (a + 1) = (w_row w (R a)).1 ++ w_cat w R n (a + 1)
    rw [w_row_c hw (fun c c0 c1 => h a c (by omega) (by omega) c0 c1), ih (a + 1) (fun k c k0 k1 => h k c (by omega) (by omega))]
theorem w_ls_add (m : Nat) : ∀ (n : Nat) (a : Int), w_ls w R (n + m) a = w_ls w R n a ++ w_ls w R m (a + n) := by
  intro n
  induction n with
  | zero => intro a; rw [Nat.zero_add, show a + ((0 : Nat) : Int) = a by omega]; rfl
  | succ n ih =>
    intro a
    rw [show n + 1 + m = (n + m) + 1 by omega]
    show w_row w (R a) :: w_ls w R (n + m) (a + 1) = w_row w (R a) :: (w_ls w R n (a + 1) ++ w_ls w R m (a + ((n + 1 : Nat) : Int)))
    rw [ih, show a + 1 + (n : Int) = a + ((n + 1 : Nat) : Int) by omega]
theorem w_cat_s : ∀ (n : Nat) (a : Int), w_cat w R (n + 1) a = w_cat w R n a ++ (w_row w (R (a + n))).1 := by
  intro n
  induction n with
  | zero =>
    intro a
    show (w_row w (R a)).1 ++ [] = [] ++ (w_row w (R (a + ((0 : Nat) : Int)))).1
    rw [show a + ((0 : Nat) : Int) = a by omega, List.append_nil, List.nil_append]
  | succ n ih =>
    intro a
    show (w_row w (R a)).1 ++ w_cat w R (n + 1) (a + 1) = ((w_row w (R a)).1 ++ w_cat w R n (a + 1)) ++ (w_row w (R (a + ((n + 1 : Nat) : Int)))).1
    rw [ih (a + 1), List.append_assoc, show a + 1 + (n : Int) = a + ((n + 1 : Nat) : Int) by omega]
theorem w_row_t (h : r 20 = 1) : w_row w r = ((w_row w r).1, true) := by unfold w_row; rw [decide_eq_true h]
theorem w_row_f (h : r 20 ≠ 1) : w_row w r = ((w_row w r).1, false) := by unfold w_row; rw [decide_eq_false h]
/-- rows that all go on, ahead of others -/
theorem l_of_t (t : List (List Int × Bool)) : ∀ (n : Nat) (a : Int), (∀ k, a ≤ k → k < a + n → R k 20 = 1) → l_of (w_ls w R n a ++ t) = (w_cat w R n a ++ (l_of t).1, (l_of t).2) := by
  intro n
  induction n with
  | zero => intro a _; rfl
  | succ n ih =>
    intro a h
    show l_of (w_row w (R a) :: (w_ls w R n (a + 1) ++ t)) = ((w_row w (R a)).1 ++ w_cat w R n (a + 1) ++ (l_of t).1, (l_of t).2)
    rw [w_row_t (h a (by omega) (by omega))]
    show ((w_row w (R a)).1 ++ (l_of (w_ls w R n (a + 1) ++ t)).1, (l_of (w_ls w R n (a + 1) ++ t)).2) = _
    rw [ih (a + 1) (fun k k0 k1 => h k (by omega) (by omega)), List.append_assoc]
/-- a whole line's rows ahead of others -/
theorem l_all_line {n : Nat} (t : List (List Int × Bool)) (h : ∀ k, a ≤ k → k < a + n → R k 20 = 1) (h2 : R (a + n) 20 ≠ 1) : l_all (w_ls w R (n + 1) a ++ t) = (w_cat w R n a ++ (w_row w (R (a + n))).1) :: l_all t := by
  have e : w_ls w R (n + 1) a ++ t = w_ls w R n a ++ (w_row w (R (a + n)) :: t) := by
    rw [w_ls_add 1 n a, List.append_assoc]; rfl
  unfold l_all
  rw [e, l_of_t _ n a h, w_row_f h2]
  rfl
theorem w_ls_bl (hw0 : 1 ≤ w) (hw : w ≤ 20) : ∀ (n : Nat) (a : Int), (∀ k c, a ≤ k → k < a + n → 0 ≤ c → c < w → R k c = 32) → l_bl (w_ls w R n a) := by
  intro n
  induction n with
  | zero => intro a _ q hq; exact absurd hq List.not_mem_nil
  | succ n ih =>
    intro a h q hq
    have hq : q ∈ w_row w (R a) :: w_ls w R n (a + 1) := hq
    rcases List.mem_cons.mp hq with rfl | hq
    · refine ⟨_, n_ss_bl _ _ (fun j j0 j1 => h a j (by omega) (by omega) j0 ?_)⟩
      split at j1 <;> omega
    · exact ih (a + 1) (fun k c k0 k1 => h k c (by omega) (by omega)) q hq
/-- a row's signs, up to the last one that is not blank, and the whole row -/
theorem w_row_used (hw0 : 1 ≤ w) (hg : r 21 = 1 → r (w - 1) = 32) : ∃ n, (w_row w r).1 = n_ss r 0 (n_used r w.toNat).toNat ++ List.replicate n 32 := by
  have hb := n_used_b r w.toNat
  have hz := n_used_bl r w.toNat
  unfold w_row
  dsimp only
  by_cases q : r 21 = 1
  · rw [if_pos q]
    have h1 : n_used r w.toNat ≤ w - 1 := by
      rw [n_used_z (by omega) (hg q)]
      have := n_used_b r (w - 1).toNat
      omega
    exact ⟨_, n_ss_pad hb.1 h1 (fun j j0 j1 => hz j j0 (by omega))⟩
  · rw [if_neg q]
    exact ⟨_, n_ss_pad hb.1 (by omega) (fun j j0 j1 => hz j j0 (by omega))⟩
end ZTXT
/-- the lines of a page, and its rows as lines -/
theorem y_ll_text {P : Int → Int} (hH : p_hd P) (hG : p_G P) {n : Int} (hn : n ≤ P 14 + P 1) : ∀ (f : Nat) (k : Int), 0 ≤ k → n - k ≤ f → t_cut (y_ll P n k) = t_cut (l_all (w_ls (P 0) (p_rows P) (n - k).toNat k)) := by
  have hW := p_hd_W hH
  intro f
  induction f with
  | zero =>
    intro k k0 kf
    rw [y_ll_e (show n ≤ k by omega), show (n - k).toNat = 0 by omega]; rfl
  | succ f ih =>
    intro k k0 kf
    by_cases q : k < n
    · obtain ⟨g1, g2, g3, g4⟩ := m_lend_spec (P := P) q
      rw [y_ll_s q]
      generalize m_lend P n k = e at g1 g2 g3 g4 ⊢
      have hr : ∀ j, k ≤ j → j < e → p_rows P j 20 = 1 := by
        intro j j0 j1
        have := g4 j j0 j1
        have h1 : m_wrap P j := Classical.byContradiction fun x => this (Or.inr x)
        exact h1
      have hcat : ∀ (d : Nat), k + d ≤ e → m_ss P e k d = w_cat (P 0) (p_rows P) d k := by
        have gen : ∀ (d : Nat) (j : Int), k ≤ j → j + d ≤ e → m_ss P e j d = w_cat (P 0) (p_rows P) d j := by
          intro d
          induction d with
          | zero => intro j _ _; rfl
          | succ d ihd =>
            intro j j0 j1
            show n_ss (p_row P (m_slot P j)) 0 (m_cells P j e).toNat ++ m_ss P e (j + 1) d = (w_row (P 0) (p_rows P j)).1 ++ w_cat (P 0) (p_rows P) d (j + 1)
            rw [ihd (j + 1) (by omega) (by omega)]
            congr 1
            unfold m_cells
            rw [if_neg (by omega)]; rfl
        exact fun d hd => gen d k (Int.le_refl _) hd
      have hline : m_line P k e = w_cat (P 0) (p_rows P) (e - k).toNat k ++ n_ss (p_rows P e) 0 (n_used (p_rows P e) (P 0).toNat).toNat := by
        unfold m_line
        have gen : ∀ (d : Nat) (j : Int), j + d = e → m_ss P e j (d + 1) = m_ss P e j d ++ n_ss (p_rows P e) 0 (n_used (p_rows P e) (P 0).toNat).toNat := by
          intro d
          induction d with
          | zero =>
            intro j hj
            have hj : j = e := by omega
            subst hj
            show n_ss (p_row P (m_slot P j)) 0 (m_cells P j j).toNat ++ [] = [] ++ _
            rw [List.append_nil, List.nil_append]
            unfold m_cells
            rw [if_pos rfl]; rfl
          | succ d ihd =>
            intro j hj
            show n_ss (p_row P (m_slot P j)) 0 (m_cells P j e).toNat ++ m_ss P e (j + 1) (d + 1) = (n_ss (p_row P (m_slot P j)) 0 (m_cells P j e).toNat ++ m_ss P e (j + 1) d) ++ _
            rw [ihd (j + 1) (by omega), List.append_assoc]
        rw [show (e + 1 - k).toNat = (e - k).toNat + 1 by omega, gen _ _ (by omega), hcat _ (by omega)]
      obtain ⟨m, hm⟩ := w_row_used (w := P 0) (r := p_rows P e) hW.1 (fun x => (gg_k hH hG (by omega) (by omega) x).2)
      have hrim : t_rim (m_line P k e) = t_rim (w_cat (P 0) (p_rows P) (e - k).toNat k ++ (w_row (P 0) (p_rows P e)).1) := by
        rw [hline, hm, ← List.append_assoc, t_rim_pad]
      by_cases q2 : p_rows P e 20 = 1
      · have he : e = n - 1 := by
          rcases g3 with g | g
          · omega
          · exact absurd q2 g
        have e1 : (n - k).toNat = (e - k).toNat + 1 := by omega
        rw [e1, w_ls_add 1]
        unfold l_all
        rw [l_of_t _ _ _ (fun j j0 j1 => hr j j0 (by omega)), y_ll_e (show n ≤ e + 1 by omega), show k + ((e - k).toNat : Int) = e by omega]
        show _ = t_cut ((_ ++ (l_of (w_row (P 0) (p_rows P e) :: [])).1) :: (l_of (w_row (P 0) (p_rows P e) :: [])).2)
        rw [w_row_t q2]
        show _ = t_cut ((_ ++ ((w_row (P 0) (p_rows P e)).1 ++ [])) :: [])
        rw [List.append_nil]
        exact t_cut_of hrim rfl
      · have e1 : (n - k).toNat = ((e - k).toNat + 1) + (n - (e + 1)).toNat := by omega
        rw [e1, w_ls_add, l_all_line _ (fun j j0 j1 => hr j j0 (by omega)) (by rw [show k + ((e - k).toNat : Int) = e by omega]; exact q2)]
        rw [show k + ((e - k).toNat : Int) = e by omega, show k + (((e - k).toNat + 1 : Nat) : Int) = e + 1 by omega]
        exact t_cut_of hrim (ih (e + 1) (by omega) (by omega))
    · rw [y_ll_e (show n ≤ k by omega), show (n - k).toNat = 0 by omega]; rfl
