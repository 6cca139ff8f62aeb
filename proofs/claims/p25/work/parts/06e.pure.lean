def y_run (P L M : Int → Int) (s : y_S) : y_S := y_all L M 0 (y_ll P (m_count P) 0) (z_v s.1 11 0, s.2)
theorem y_room {L M : Int → Int} {line l2 k a : Int} {l : List Int} {ll : List (List Int)} {s G : y_S} (hG : y_all L M l2 ll (y_rest L M line k (a :: l) s) = G) : y_F a s.1 11 + 1 ≤ G.1 11 := by
  have h1 := y_all_r L M ll l2 (y_rest L M line k (a :: l) s)
  have h2 := y_rest_r L M line l (k + 1) (y_sign L M line k a s)
  have h3 : (y_sign L M line k a s).1 11 = y_F a s.1 11 := y_adv_r a s.1
  have h4 : y_rest L M line k (a :: l) s = y_rest L M line (k + 1) l (y_sign L M line k a s) := rfl
  rw [hG, h4] at h1
  omega
/-- rows and columns alone -/
def y_rcl (W : Int) : List Int → Int × Int → Int × Int
  | [], p => p
  | a :: l, p => y_rcl W l (if W < p.2 + p_sz a then (p.1 + 1, p_sz a) else (p.1, p.2 + p_sz a))
def y_rows (W : Int) : List (List Int) → Int → Int
  | [], r => r
  | l :: ll, r => y_rows W ll ((y_rcl W l (r, 0)).1 + 1)
def y_many (P : Int → Int) (W : Int) : Int := y_rows W (y_ll P (m_count P) 0) 0
theorem y_adv_p (a : Int) (F : Int → Int) : (y_adv a F 11, y_adv a F 12) = (if F 8 < F 12 + p_sz a then (F 11 + 1, p_sz a) else (F 11, F 12 + p_sz a)) := by
  rw [y_adv_r, y_adv_w]
  unfold y_F
  split
  · rw [z_vs, z_vn (by decide), z_vs, Int.zero_add]
  · rfl
theorem y_rest_rc (L M : Int → Int) (line W : Int) : ∀ (l : List Int) (k : Int) (s : y_S), s.1 8 = W → (y_rest L M line k l s).1 11 = (y_rcl W l (s.1 11, s.1 12)).1 + 1 := by
  intro l
  induction l with
  | nil =>
    intro k s hs
    show z_v s.1 11 (s.1 11 + 1) 11 = _
    rw [z_vs]; rfl
  | cons a l ih =>
    intro k s hs
    have h := ih (k + 1) (y_sign L M line k a s) ((y_adv_c a s.1 (by decide) (by decide)).trans hs)
    refine h.trans ?_
    show (y_rcl W l (y_adv a s.1 11, y_adv a s.1 12)).1 + 1 = _
    rw [y_adv_p, hs]; rfl
theorem y_rest_c (L M : Int → Int) (line : Int) {j : Int} (h1 : j ≠ 11) (h2 : j ≠ 12) : ∀ (l : List Int) (k : Int) (s : y_S), (y_rest L M line k l s).1 j = s.1 j := by
  intro l
  induction l with
  | nil => intro k s; exact z_vn h1
  | cons a l ih => intro k s; exact (ih (k + 1) (y_sign L M line k a s)).trans (y_adv_c a s.1 h1 h2)
theorem y_line_c (L M : Int → Int) (line : Int) (l : List Int) (s : y_S) {j : Int} (h1 : j ≠ 11) (h2 : j ≠ 12) : (y_line L M line l s).1 j = s.1 j := (y_rest_c L M line h1 h2 l 0 _).trans (z_vn h2)
theorem y_all_c (L M : Int → Int) {j : Int} (h1 : j ≠ 11) (h2 : j ≠ 12) : ∀ (ll : List (List Int)) (line : Int) (s : y_S), (y_all L M line ll s).1 j = s.1 j := by
  intro ll
  induction ll with
  | nil => intro line s; rfl
  | cons l ll ih => intro line s; exact (ih (line + 1) (y_line L M line l s)).trans (y_line_c L M line l s h1 h2)
theorem y_all_rc (L M : Int → Int) (W : Int) : ∀ (ll : List (List Int)) (line : Int) (s : y_S), s.1 8 = W → (y_all L M line ll s).1 11 = y_rows W ll (s.1 11) := by
  intro ll
  induction ll with
  | nil => intro line s hs; rfl
  | cons l ll ih =>
    intro line s hs
    have h := ih (line + 1) (y_line L M line l s) ((y_line_c L M line l s (by decide) (by decide)).trans hs)
    refine h.trans ?_
    have h2 : (y_line L M line l s).1 11 = (y_rcl W l (s.1 11, 0)).1 + 1 := by
      have e8 : (z_v s.1 12 0) 8 = W := (z_vn (by decide)).trans hs
      refine (y_rest_rc L M line W l 0 (z_v s.1 12 0, s.2) e8).trans ?_
      show (y_rcl W l (z_v s.1 12 0 11, z_v s.1 12 0 12)).1 + 1 = _
      rw [z_vs, z_vn (by decide)]
    rw [h2]; rfl
theorem y_run_c (P L M : Int → Int) (s : y_S) {j : Int} (h1 : j ≠ 11) (h2 : j ≠ 12) : (y_run P L M s).1 j = s.1 j := (y_all_c L M h1 h2 _ _ _).trans (z_vn h1)
theorem y_run_rc (P L M : Int → Int) (s : y_S) : (y_run P L M s).1 11 = y_many P (s.1 8) := by
  have e8 : (z_v s.1 11 0) 8 = s.1 8 := z_vn (by decide)
  refine (y_all_rc L M (s.1 8) _ 0 (z_v s.1 11 0, s.2) e8).trans ?_
  show y_rows (s.1 8) _ (z_v s.1 11 0 11) = _
  rw [z_vs]; rfl
theorem y_lay_n {F X : Int → Int} {c w : Int} (h : F 10 = 0) : y_lay F c w X = X := if_neg (fun q => by have := q.1; omega)
theorem y_X_n {F X : Int → Int} {code : Int} (h : F 10 = 0) : y_X code F X = X := by
  have h2 : y_F code F 10 = 0 := (y_F_c code F (by decide) (by decide)).trans h
  unfold y_X y_X2 y_X1
  rw [y_lay_n h, y_lay_n h]
  split <;> split <;> simp only [y_lay_n h2]
theorem y_rest_x (L M : Int → Int) (line : Int) : ∀ (l : List Int) (k : Int) (s : y_S), s.1 10 = 0 → (y_rest L M line k l s).2.1 = s.2.1 := by
  intro l
  induction l with
  | nil => intro k s h; rfl
  | cons a l ih => intro k s h; exact (ih (k + 1) (y_sign L M line k a s) ((y_adv_c a s.1 (by decide) (by decide)).trans h)).trans (y_X_n h)
theorem y_all_x (L M : Int → Int) : ∀ (ll : List (List Int)) (line : Int) (s : y_S), s.1 10 = 0 → (y_all L M line ll s).2.1 = s.2.1 := by
  intro ll
  induction ll with
  | nil => intro line s h; rfl
  | cons l ll ih =>
    intro line s h
    have e10 : (z_v s.1 12 0) 10 = 0 := (z_vn (by decide)).trans h
    exact (ih (line + 1) (y_line L M line l s) ((y_line_c L M line l s (by decide) (by decide)).trans h)).trans (y_rest_x L M line l 0 (z_v s.1 12 0, s.2) e10)
theorem y_run_x (P L M : Int → Int) (s : y_S) (h : s.1 10 = 0) : (y_run P L M s).2.1 = s.2.1 := by
  have e10 : (z_v s.1 11 0) 10 = 0 := (z_vn (by decide)).trans h
  exact y_all_x L M _ 0 (z_v s.1 11 0, s.2) e10
def y_wf (P : Int → Int) (n : Int) : Nat → Int → Int
  | 0, _ => -9
  | f + 1, c => if y_many P c ≤ n then c else y_wf P n f (c + 1)
theorem y_wf_s (P : Int → Int) (n : Int) {c : Int} (h : c < 21) : y_wf P n (21 - c).toNat c = if y_many P c ≤ n then c else y_wf P n (21 - (c + 1)).toNat (c + 1) := by
  rw [show (21 - c).toNat = (21 - (c + 1)).toNat + 1 by omega]; rfl
theorem y_rest_u (L M : Int → Int) (line : Int) : ∀ (l : List Int) (k : Int) (s : y_S) (j : Int), (y_rest L M line k l s).2.2.1 j = s.2.2.1 j ∨ (s.1 11 ≤ (y_rest L M line k l s).2.2.1 j ∧ (y_rest L M line k l s).2.2.1 j < (y_rest L M line k l s).1 11) := by
  intro l
  induction l with
  | nil =>
    intro k s j
    show y_en L M line k (fun _ => s.1 11) s.2.2.1 4 j = s.2.2.1 j ∨ (s.1 11 ≤ y_en L M line k (fun _ => s.1 11) s.2.2.1 4 j ∧ y_en L M line k (fun _ => s.1 11) s.2.2.1 4 j < z_v s.1 11 (s.1 11 + 1) 11)
    rw [z_vs]
    unfold y_en
    split
    · exact Or.inr ⟨Int.le_refl _, Int.lt_succ _⟩
    · exact Or.inl rfl
  | cons a l ih =>
    intro k s j
    have h := ih (k + 1) (y_sign L M line k a s) j
    have h2 := (y_F_r a s.1).1
    have h3 : (y_sign L M line k a s).1 11 = y_F a s.1 11 := y_adv_r a s.1
    have h4 := y_rest_r L M line l (k + 1) (y_sign L M line k a s)
    have h5 : (y_sign L M line k a s).2.2.1 j = s.2.2.1 j ∨ (y_sign L M line k a s).2.2.1 j = y_F a s.1 11 := by
      show y_mt L M line k (y_F a s.1 11) s.2.2.1 4 j = _ ∨ y_mt L M line k (y_F a s.1 11) s.2.2.1 4 j = _
      unfold y_mt; split
      · exact Or.inr rfl
      · exact Or.inl rfl
    show (y_rest L M line (k + 1) l (y_sign L M line k a s)).2.2.1 j = _ ∨ _ ≤ (y_rest L M line (k + 1) l (y_sign L M line k a s)).2.2.1 j ∧ (y_rest L M line (k + 1) l (y_sign L M line k a s)).2.2.1 j < (y_rest L M line (k + 1) l (y_sign L M line k a s)).1 11
    omega
theorem y_all_u (L M : Int → Int) : ∀ (ll : List (List Int)) (line : Int) (s : y_S) (j : Int), (y_all L M line ll s).2.2.1 j = s.2.2.1 j ∨ (s.1 11 ≤ (y_all L M line ll s).2.2.1 j ∧ (y_all L M line ll s).2.2.1 j < (y_all L M line ll s).1 11) := by
  intro ll
  induction ll with
  | nil => intro line s j; exact Or.inl rfl
  | cons l ll ih =>
    intro line s j
    have h := ih (line + 1) (y_line L M line l s) j
    have h1 := y_all_r L M ll (line + 1) (y_line L M line l s)
    have h2 := y_rest_u L M line l 0 (z_v s.1 12 0, s.2) j
    have h3 : (z_v s.1 12 0) 11 = s.1 11 := z_vn (by decide)
    have h4 := y_rest_r L M line l 0 (z_v s.1 12 0, s.2)
    show (y_all L M (line + 1) ll (y_line L M line l s)).2.2.1 j = _ ∨ _ ≤ (y_all L M (line + 1) ll (y_line L M line l s)).2.2.1 j ∧ (y_all L M (line + 1) ll (y_line L M line l s)).2.2.1 j < (y_all L M (line + 1) ll (y_line L M line l s)).1 11
    have h5 : (y_line L M line l s).2.2.1 j = (y_rest L M line 0 l (z_v s.1 12 0, s.2)).2.2.1 j := rfl
    have h6 : (y_line L M line l s).1 11 = (y_rest L M line 0 l (z_v s.1 12 0, s.2)).1 11 := rfl
    have h7 : ((z_v s.1 12 0, s.2) : y_S).1 11 = (z_v s.1 12 0) 11 := rfl
    have h8 : ((z_v s.1 12 0, s.2) : y_S).2.2.1 j = s.2.2.1 j := rfl
    omega
theorem y_run_u (P L M : Int → Int) (s : y_S) (j : Int) : (y_run P L M s).2.2.1 j = s.2.2.1 j ∨ (0 ≤ (y_run P L M s).2.2.1 j ∧ (y_run P L M s).2.2.1 j < (y_run P L M s).1 11) := by
  have h := y_all_u L M (y_ll P (m_count P) 0) 0 (z_v s.1 11 0, s.2) j
  have h1 : (z_v s.1 11 0) 11 = 0 := z_vs _ _ _
  have h2 : ((z_v s.1 11 0, s.2) : y_S).1 11 = (z_v s.1 11 0) 11 := rfl
  rw [h2, h1] at h
  exact h
theorem y_rest_b (L M : Int → Int) (line : Int) : ∀ (l : List Int) (k : Int) (s : y_S) (j : Int), (s.2.2.2.2 j = 0 ∨ s.2.2.2.2 j = 1) → (y_rest L M line k l s).2.2.2.2 j = 0 ∨ (y_rest L M line k l s).2.2.2.2 j = 1 := by
  intro l
  induction l with
  | nil =>
    intro k s j h
    show y_en L M line k (y_ef s.1 M k) s.2.2.2.2 4 j = 0 ∨ y_en L M line k (y_ef s.1 M k) s.2.2.2.2 4 j = 1
    unfold y_en y_ef
    split
    · split
      · exact Or.inr rfl
      · exact Or.inl rfl
    · exact h
  | cons a l ih => intro k s j h; exact ih (k + 1) (y_sign L M line k a s) j h
theorem y_all_b (L M : Int → Int) : ∀ (ll : List (List Int)) (line : Int) (s : y_S) (j : Int), (s.2.2.2.2 j = 0 ∨ s.2.2.2.2 j = 1) → (y_all L M line ll s).2.2.2.2 j = 0 ∨ (y_all L M line ll s).2.2.2.2 j = 1 := by
  intro ll
  induction ll with
  | nil => intro line s j h; exact h
  | cons l ll ih => intro line s j h; exact ih (line + 1) (y_line L M line l s) j (y_rest_b L M line l 0 (z_v s.1 12 0, s.2) j h)
