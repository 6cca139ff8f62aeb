/-! the page after the pouring: the reference's is the class's -/
theorem g_run {P L M : Int → Int} {w j : Int} (hH : p_hd P) (j0 : 0 ≤ j) (j1 : j ≤ P 7) (hL : L j = m_cur P j 2) (hM : M j = m_cur P j 3) (s : y_S) (h8 : s.1 8 = w) :
    (y_run P L M s).2.2.1 j = g_U P w j ∧ (y_run P L M s).2.2.2.1 j = g_V P w j ∧ (y_run P L M s).2.2.2.2 j = (if M j < (g_l P j).length then s.2.2.2.2 j else g_B P w j) := by
  have hr := m_row_b hH j0 j1
  have hc := m_count_b hH
  have hcd : m_count P = P 14 + m_last P + 1 := rfl
  have h3 := m_cur3_b hH j0 j1
  obtain ⟨hw0, hw1, hh0, hh1, hf0, hf1, hf2, hr0, hr1, hc0, hc1, hp0, hp1, hk0, hk1, hi0, hi1, hkp, hP⟩ := id hH
  obtain ⟨s0, s1, s2, -⟩ := m_lbeg_of (P := P) (n := m_count P) (k := P 14 + m_row P j) (by omega) (by omega)
  obtain ⟨-, -, s3⟩ := m_lbeg_spec (P := P) (n := m_count P) (line := m_lno P (m_count P) (P 14 + m_row P j)) (by omega)
  have e2 : m_cur P j 2 = m_lno P (m_count P) (P 14 + m_row P j) := rfl
  have e3 : m_cur P j 3 = m_mark P (m_count P) (m_row P j) (m_pcol P j) := rfl
  have h := y_run_uvb (L := L) (M := M) (W := w) (j := j) (st := g_st P j) hH j0 (by omega) s1 (by unfold g_st; omega) s2 (by rw [hL, e2]; exact (s3 (by omega)).1.symm) (by omega) s h8
  rw [hM, e3] at h ⊢
  exact h
theorem g_U_b {P : Int → Int} {w v : Int} (hH : p_hd P) (v0 : 0 ≤ v) (v1 : v ≤ P 7) : 0 ≤ g_U P w v ∧ g_U P w v < y_many P w := by
  have h := g_run (L := fun _ => m_cur P v 2) (M := fun _ => m_cur P v 3) (w := w) hH v0 v1 rfl rfl (z_v (fun _ => 0) 8 w, fun _ => 0, fun _ => g_U P w v + 1, fun _ => 0, fun _ => 0) (show (z_v (fun _ => (0 : Int)) 8 w) 8 = w from z_vs _ _ _)
  have hu := y_run_u P (fun _ => m_cur P v 2) (fun _ => m_cur P v 3) (z_v (fun _ => 0) 8 w, fun _ => 0, fun _ => g_U P w v + 1, fun _ => 0, fun _ => 0) v
  rw [h.1, y_run_rc] at hu
  have e : ((z_v (fun _ => 0) 8 w, fun _ => 0, fun _ => g_U P w v + 1, fun _ => 0, fun _ => 0) : y_S).1 8 = w := (show (z_v (fun _ => (0 : Int)) 8 w) 8 = w from z_vs _ _ _)
  rw [e] at hu
  rcases hu with hu | hu
  · have : g_U P w v = g_U P w v + 1 := hu
    omega
  · exact hu
theorem g_V_b {P : Int → Int} {w v : Int} (hH : p_hd P) (hw : 4 ≤ w) (v0 : 0 ≤ v) (v1 : v ≤ P 7) : 0 ≤ g_V P w v ∧ g_V P w v < w := by
  have h3 := m_cur3_b hH v0 v1
  have e3 : m_cur P v 3 = m_mark P (m_count P) (m_row P v) (m_pcol P v) := rfl
  rw [e3] at h3
  unfold g_V f_V
  generalize m_mark P (m_count P) (m_row P v) (m_pcol P v) = mk at h3 ⊢
  have hb := y_rcl_b2 hw (g_l P v) (0, 0) (Int.le_refl _) (show (0 : Int) ≤ w by omega)
  split
  · next h =>
    have := y_at_b hw (g_l P v) mk.toNat (0, 0) (by omega) (Int.le_refl _) (show (0 : Int) ≤ w by omega)
    exact this.2
  · split <;> omega
/-! the fresh rows depend on three fields only -/
def x_ag (F G : Int → Int) : Prop := F 8 = G 8 ∧ F 9 = G 9 ∧ F 10 = G 10 ∧ F 11 = G 11 ∧ F 12 = G 12
theorem x_ag_lay {F G X : Int → Int} {c v : Int} (h : x_ag F G) : y_lay F c v X = y_lay G c v X := by
  obtain ⟨h8, h9, h10, h11, h12⟩ := h
  unfold y_lay; rw [h9, h10, h11]
theorem x_ag_F {F G : Int → Int} {a : Int} (h : x_ag F G) : x_ag (y_F a F) (y_F a G) := by
  obtain ⟨h8, h9, h10, h11, h12⟩ := h
  unfold y_F
  rw [h8, h12]
  split
  · refine ⟨?_, ?_, ?_, ?_, ?_⟩ <;> simp [z_v, h8, h9, h10, h11]
  · exact ⟨h8, h9, h10, h11, h12⟩
theorem x_ag_X {F G X : Int → Int} {a : Int} (h : x_ag F G) : y_X a F X = y_X a G X := by
  have h2 := x_ag_F (a := a) h
  have e1 : y_X1 a F X = y_X1 a G X := by
    unfold y_X1
    rw [x_ag_lay h, x_ag_lay h, h.1, h.2.2.2.2]
  unfold y_X y_X2
  rw [e1, h2.2.2.2.2, x_ag_lay h2, x_ag_lay h2]
theorem x_ag_adv {F G : Int → Int} {a : Int} (h : x_ag F G) : x_ag (y_adv a F) (y_adv a G) := by
  obtain ⟨h8, h9, h10, h11, h12⟩ := x_ag_F (a := a) h
  unfold y_adv
  refine ⟨?_, ?_, ?_, ?_, ?_⟩
  · rw [z_vn (by decide), z_vn (by decide), h8]
  · rw [z_vn (by decide), z_vn (by decide), h9]
  · rw [z_vn (by decide), z_vn (by decide), h10]
  · rw [z_vn (by decide), z_vn (by decide), h11]
  · rw [z_vs, z_vs, h12]
theorem x_ag_px : ∀ (l : List Int) (F G X : Int → Int), x_ag F G → (y_px l (F, X)).2 = (y_px l (G, X)).2 ∧ x_ag (y_px l (F, X)).1 (y_px l (G, X)).1 := by
  intro l
  induction l with
  | nil => intro F G X h; exact ⟨rfl, h⟩
  | cons a l ih =>
    intro F G X h
    have h1 := ih (y_adv a F) (y_adv a G) (y_X a F X) (x_ag_adv h)
    have e : y_px (a :: l) (G, X) = y_px l (y_adv a G, y_X a F X) := by rw [x_ag_X h]; rfl
    rw [e]; exact h1
theorem y_ln1 {l : List Int} {p : (Int → Int) × (Int → Int)} {j : Int} (h : j ≠ 11) : (y_ln l p).1 j = (y_px l (z_v p.1 12 0, p.2)).1 j := z_vn h
theorem y_ln11 {l : List Int} {p : (Int → Int) × (Int → Int)} : (y_ln l p).1 11 = (y_px l (z_v p.1 12 0, p.2)).1 11 + 1 := by
  unfold y_ln; dsimp only; exact z_vs _ _ _
theorem x_ag_bx {P : Int → Int} {W n : Int} {F G X : Int → Int} (h8 : F 8 = G 8) (h9 : F 9 = G 9) (h10 : F 10 = G 10) : ∀ (r : Nat), (y_bx P W n F X r).2 = (y_bx P W n G X r).2 ∧ (y_bx P W n F X r).1 8 = (y_bx P W n G X r).1 8 ∧ (y_bx P W n F X r).1 9 = (y_bx P W n G X r).1 9 ∧ (y_bx P W n F X r).1 10 = (y_bx P W n G X r).1 10 ∧ (y_bx P W n F X r).1 11 = (y_bx P W n G X r).1 11 := by
  intro r
  induction r with
  | zero =>
    refine ⟨rfl, ?_, ?_, ?_, ?_⟩
    · show z_v F 11 0 8 = z_v G 11 0 8; rw [z_vn (by decide), z_vn (by decide), h8]
    · show z_v F 11 0 9 = z_v G 11 0 9; rw [z_vn (by decide), z_vn (by decide), h9]
    · show z_v F 11 0 10 = z_v G 11 0 10; rw [z_vn (by decide), z_vn (by decide), h10]
    · show z_v F 11 0 11 = z_v G 11 0 11; rw [z_vs, z_vs]
  | succ r ih =>
    show (if m_ends P n (r : Nat) then y_ln _ _ else _).2 = (if m_ends P n (r : Nat) then y_ln _ _ else _).2 ∧ (if m_ends P n (r : Nat) then y_ln _ _ else _).1 8 = (if m_ends P n (r : Nat) then y_ln _ _ else _).1 8 ∧ (if m_ends P n (r : Nat) then y_ln _ _ else _).1 9 = (if m_ends P n (r : Nat) then y_ln _ _ else _).1 9 ∧ (if m_ends P n (r : Nat) then y_ln _ _ else _).1 10 = (if m_ends P n (r : Nat) then y_ln _ _ else _).1 10 ∧ (if m_ends P n (r : Nat) then y_ln _ _ else _).1 11 = (if m_ends P n (r : Nat) then y_ln _ _ else _).1 11
    split
    · generalize m_line P (y_bc P W n r).1 (r : Nat) = l
      generalize y_bx P W n F X r = A at ih ⊢
      generalize y_bx P W n G X r = B at ih ⊢
      obtain ⟨A1, A2⟩ := A
      obtain ⟨B1, B2⟩ := B
      obtain ⟨i0, i8, i9, i10, i11⟩ := ih
      have i0 : A2 = B2 := i0
      subst i0
      have h := x_ag_px l (z_v A1 12 0) (z_v B1 12 0) A2 ⟨by rw [z_vn (by decide), z_vn (by decide)]; exact i8, by rw [z_vn (by decide), z_vn (by decide)]; exact i9, by rw [z_vn (by decide), z_vn (by decide)]; exact i10, by rw [z_vn (by decide), z_vn (by decide)]; exact i11, by rw [z_vs, z_vs]⟩
      obtain ⟨g0, g8, g9, g10, g11, g12⟩ := h
      refine ⟨g0, ?_, ?_, ?_, ?_⟩
      · exact (y_ln1 (l := l) (p := (A1, A2)) (by decide)).trans (Eq.trans g8 (y_ln1 (l := l) (p := (B1, A2)) (by decide)).symm)
      · exact (y_ln1 (l := l) (p := (A1, A2)) (by decide)).trans (Eq.trans g9 (y_ln1 (l := l) (p := (B1, A2)) (by decide)).symm)
      · exact (y_ln1 (l := l) (p := (A1, A2)) (by decide)).trans (Eq.trans g10 (y_ln1 (l := l) (p := (B1, A2)) (by decide)).symm)
      · exact (y_ln11 (l := l) (p := (A1, A2))).trans (Eq.trans (congrArg (· + 1) g11) (y_ln11 (l := l) (p := (B1, A2))).symm)
    · exact ih
/-! the fresh rows hold small numbers -/
def x_b (X : Int → Int) : Prop := ∀ k, 0 ≤ k → k < 704 → 0 ≤ X k ∧ X k ≤ 255
theorem x_b_lay {F X : Int → Int} {c v : Int} (h : x_b X) (v0 : 0 ≤ v) (v1 : v ≤ 255) : x_b (y_lay F c v X) := by
  intro k k0 k1
  unfold y_lay z_v
  split
  · dsimp only; split
    · omega
    · exact h k k0 k1
  · exact h k k0 k1
theorem x_b_X {F X : Int → Int} {a : Int} (h : x_b X) (a0 : 0 ≤ a) (a1 : a ≤ 255) : x_b (y_X a F X) := by
  have h1 : x_b (y_X1 a F X) := by
    unfold y_X1
    split
    · exact x_b_lay (x_b_lay h (by decide) (by decide)) (by split <;> omega) (by split <;> omega)
    · exact h
  unfold y_X y_X2
  split
  · next hs =>
    have : 65 ≤ a ∧ a ≤ 90 := by
      unfold p_sz at hs
      split at hs
      · assumption
      · omega
    exact x_b_lay (x_b_lay h1 a0 a1) (by omega) (by omega)
  · exact x_b_lay h1 a0 a1
theorem x_b_px : ∀ (l : List Int) (F X : Int → Int), (∀ a ∈ l, 0 ≤ a ∧ a ≤ 255) → x_b X → x_b (y_px l (F, X)).2 := by
  intro l
  induction l with
  | nil => intro F X _ h; exact h
  | cons a l ih =>
    intro F X hl h
    have ha := hl a List.mem_cons_self
    exact ih (y_adv a F) (y_X a F X) (fun b hb => hl b (List.mem_cons_of_mem _ hb)) (x_b_X h ha.1 ha.2)
theorem n_ss_bb {r : Int → Int} (hr : ∀ c, 0 ≤ r c ∧ r c ≤ 255) : ∀ (n : Nat) (c : Int), ∀ a ∈ n_ss r c n, 0 ≤ a ∧ a ≤ 255 := by
  intro n
  induction n with
  | zero => intro c a ha; exact absurd ha List.not_mem_nil
  | succ n ih =>
    intro c a ha
    have ha : a ∈ (if 128 ≤ r c then n_ss r (c + 1) n else r c :: n_ss r (c + 1) n) := ha
    split at ha
    · exact ih _ a ha
    · rcases List.mem_cons.mp ha with h | h
      · rw [h]; exact hr c
      · exact ih _ a h
theorem m_line_bb {P : Int → Int} (hP : z_pr P) (b e : Int) : ∀ a ∈ m_line P b e, 0 ≤ a ∧ a ≤ 255 := by
  unfold m_line
  generalize (e + 1 - b).toNat = n
  have : ∀ (n : Nat) (k : Int), ∀ a ∈ m_ss P e k n, 0 ≤ a ∧ a ≤ 255 := by
    intro n
    induction n with
    | zero => intro k a ha; exact absurd ha List.not_mem_nil
    | succ n ih =>
      intro k a ha
      have ha : a ∈ n_ss (p_row P (m_slot P k)) 0 (m_cells P k e).toNat ++ m_ss P e (k + 1) n := ha
      rcases List.mem_append.mp ha with h | h
      · exact n_ss_bb (fun c => hP _) _ _ a h
      · exact ih _ a h
  exact this n b
theorem x_b_bx {P : Int → Int} {W n : Int} {F X : Int → Int} (hP : z_pr P) (h : x_b X) : ∀ (r : Nat), x_b (y_bx P W n F X r).2 := by
  intro r
  induction r with
  | zero => exact h
  | succ r ih =>
    show x_b (if m_ends P n (r : Nat) then y_ln _ _ else _).2
    split
    · exact x_b_px _ _ _ (m_line_bb hP _ _) ih
    · exact ih
theorem x_b_fr (X : Int → Int) : x_b (y_fr X 704) := by
  intro k k0 k1
  unfold y_fr
  rw [if_pos ⟨k0, k1⟩]; split <;> omega
