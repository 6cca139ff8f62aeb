/-! all lines poured, row by row of the source -/
def y_ln (l : List Int) (p : (Int → Int) × (Int → Int)) : (Int → Int) × (Int → Int) := (z_v (y_px l (z_v p.1 12 0, p.2)).1 11 ((y_px l (z_v p.1 12 0, p.2)).1 11 + 1), (y_px l (z_v p.1 12 0, p.2)).2)
def y_bx (P : Int → Int) (W n : Int) (F X : Int → Int) : Nat → (Int → Int) × (Int → Int)
  | 0 => (z_v F 11 0, X)
  | r + 1 => if m_ends P n (r : Nat) then y_ln (m_line P (y_bc P W n r).1 (r : Nat)) (y_bx P W n F X r) else y_bx P W n F X r
theorem y_bx_s (P : Int → Int) (W n : Int) (F X : Int → Int) {r : Int} (h : 0 ≤ r) : y_bx P W n F X (r + 1).toNat = if m_ends P n r then y_ln (m_line P (y_bc P W n r.toNat).1 r) (y_bx P W n F X r.toNat) else y_bx P W n F X r.toNat := by
  rw [show (r + 1).toNat = r.toNat + 1 by omega]
  show (if m_ends P n (r.toNat : Nat) then _ else _) = _
  rw [show ((r.toNat : Nat) : Int) = r by omega]
theorem y_px_c {j : Int} (h1 : j ≠ 11) (h2 : j ≠ 12) : ∀ (l : List Int) (p : (Int → Int) × (Int → Int)), (y_px l p).1 j = p.1 j := by
  intro l
  induction l with
  | nil => intro p; rfl
  | cons a l ih => intro p; exact (ih (y_adv a p.1, y_X a p.1 p.2)).trans (y_adv_c a p.1 h1 h2)
theorem y_px_rc (W : Int) : ∀ (l : List Int) (p : (Int → Int) × (Int → Int)), p.1 8 = W → ((y_px l p).1 11, (y_px l p).1 12) = y_rcl W l (p.1 11, p.1 12) := by
  intro l
  induction l with
  | nil => intro p _; rfl
  | cons a l ih =>
    intro p hp
    refine (ih (y_adv a p.1, y_X a p.1 p.2) ((y_adv_c a p.1 (by decide) (by decide)).trans hp)).trans ?_
    show y_rcl W l (y_adv a p.1 11, y_adv a p.1 12) = _
    rw [y_adv_p, hp]; rfl
theorem y_ln_c {j : Int} (h1 : j ≠ 11) (h2 : j ≠ 12) (l : List Int) (p : (Int → Int) × (Int → Int)) : (y_ln l p).1 j = p.1 j := (z_vn h1).trans ((y_px_c h1 h2 l _).trans (z_vn h2))
theorem y_ln_r {W : Int} (l : List Int) (p : (Int → Int) × (Int → Int)) (hp : p.1 8 = W) : (y_ln l p).1 11 = p.1 11 + ((y_rcl W l (0, 0)).1 + 1) := by
  have e8 : (z_v p.1 12 0) 8 = W := (z_vn (by decide)).trans hp
  have h := congrArg Prod.fst (y_px_rc W l (z_v p.1 12 0, p.2) e8)
  dsimp only at h
  rw [z_vs, z_vn (show (11 : Int) ≠ 12 by decide), y_rcl_0] at h
  dsimp only at h
  unfold y_ln
  dsimp only
  rw [z_vs, h]; omega
theorem y_bx_c {P : Int → Int} {W n : Int} {F X : Int → Int} {j : Int} (h1 : j ≠ 11) (h2 : j ≠ 12) : ∀ (r : Nat), (y_bx P W n F X r).1 j = F j := by
  intro r
  induction r with
  | zero => exact z_vn h1
  | succ r ih =>
    show (if m_ends P n (r : Nat) then y_ln _ (y_bx P W n F X r) else y_bx P W n F X r).1 j = F j
    split
    · rw [y_ln_c h1 h2]; exact ih
    · exact ih
theorem y_bx_r {P : Int → Int} {W n : Int} {F X : Int → Int} (h : F 8 = W) : ∀ (r : Nat), (y_bx P W n F X r).1 11 = (y_bc P W n r).2 := by
  intro r
  induction r with
  | zero => show z_v F 11 0 11 = 0; exact z_vs _ _ _
  | succ r ih =>
    have h8 : (y_bx P W n F X r).1 8 = W := (y_bx_c (by decide) (by decide) r).trans h
    show (if m_ends P n (r : Nat) then y_ln (m_line P (y_bc P W n r).1 (r : Nat)) (y_bx P W n F X r) else y_bx P W n F X r).1 11 = (if m_ends P n (r : Nat) then (((r : Nat) : Int) + 1, (y_bc P W n r).2 + ((y_rcl W (m_line P (y_bc P W n r).1 (r : Nat)) (0, 0)).1 + 1)) else y_bc P W n r).2
    split
    · rw [y_ln_r _ _ h8, ih]
    · exact ih
theorem y_bc_mono {P : Int → Int} {W n : Int} {a : Nat} : ∀ (d : Nat), (y_bc P W n a).2 ≤ (y_bc P W n (a + d)).2 := by
  intro d
  induction d with
  | zero => exact Int.le_refl _
  | succ d ih =>
    refine Int.le_trans ih ?_
    show _ ≤ (if m_ends P n ((a + d : Nat) : Int) then (((a + d : Nat) : Int) + 1, (y_bc P W n (a + d)).2 + ((y_rcl W (m_line P (y_bc P W n (a + d)).1 ((a + d : Nat) : Int)) (0, 0)).1 + 1)) else y_bc P W n (a + d)).2
    split
    · have h3 := y_rcl_b W (m_line P (y_bc P W n (a + d)).1 ((a + d : Nat) : Int)) (0, 0)
      dsimp only at h3 ⊢
      omega
    · exact Int.le_refl _
theorem y_bc_le {P : Int → Int} {W n a b : Int} (h : a ≤ b) : (y_bc P W n a.toNat).2 ≤ (y_bc P W n b.toNat).2 := by
  have := y_bc_mono (P := P) (W := W) (n := n) (a := a.toNat) (b.toNat - a.toNat)
  rw [show a.toNat + (b.toNat - a.toNat) = b.toNat by omega] at this
  exact this
/-- the reference does the same -/
theorem y_rest_px (L M : Int → Int) (line : Int) : ∀ (l : List Int) (k : Int) (s : y_S), (y_rest L M line k l s).1 = z_v (y_px l (s.1, s.2.1)).1 11 ((y_px l (s.1, s.2.1)).1 11 + 1) ∧ (y_rest L M line k l s).2.1 = (y_px l (s.1, s.2.1)).2 := by
  intro l
  induction l with
  | nil => intro k s; exact ⟨rfl, rfl⟩
  | cons a l ih => intro k s; exact ih (k + 1) (y_sign L M line k a s)
theorem y_line_px (L M : Int → Int) (line : Int) (l : List Int) (s : y_S) : (y_line L M line l s).1 = (y_ln l (s.1, s.2.1)).1 ∧ (y_line L M line l s).2.1 = (y_ln l (s.1, s.2.1)).2 := y_rest_px L M line l 0 ⟨z_v s.1 12 0, s.2.1, s.2.2.1, s.2.2.2.1, s.2.2.2.2⟩
theorem y_bx_same {P : Int → Int} {W n k : Int} {F X : Int → Int} (h0 : 0 ≤ k) : ∀ (d : Nat), (∀ j, k ≤ j → j < k + d → ¬ m_ends P n j) → y_bx P W n F X (k + d).toNat = y_bx P W n F X k.toNat := by
  intro d
  induction d with
  | zero => intro _; rw [show k + ((0 : Nat) : Int) = k by omega]
  | succ d ih =>
    intro h
    rw [show k + ((d + 1 : Nat) : Int) = k + d + 1 by omega, y_bx_s _ _ _ _ _ (by omega), if_neg (h (k + d) (by omega) (by omega))]
    exact ih (fun j j0 j1 => h j j0 (by omega))
theorem y_bx_line {P : Int → Int} {W n k : Int} {F X : Int → Int} (h0 : 0 ≤ k) (h1 : k < n) (hk : (y_bc P W n k.toNat).1 = k) : y_bx P W n F X (m_lend P n k + 1).toNat = y_ln (m_line P k (m_lend P n k)) (y_bx P W n F X k.toNat) := by
  obtain ⟨g1, g2, g3, g4⟩ := m_lend_spec (P := P) h1
  have e := y_bx_same (P := P) (W := W) (n := n) (F := F) (X := X) h0 (m_lend P n k - k).toNat (fun j j0 j1 => g4 j j0 (by omega))
  have e2 := y_bc_same (P := P) (W := W) (n := n) h0 (m_lend P n k - k).toNat (fun j j0 j1 => g4 j j0 (by omega))
  rw [show k + ((m_lend P n k - k).toNat : Int) = m_lend P n k by omega] at e e2
  rw [y_bx_s _ _ _ _ _ (by omega), if_pos g3, e, e2, hk]
theorem y_bx_all {P : Int → Int} {W n : Int} {F X L M : Int → Int} : ∀ (f : Nat) (k line : Int) (s : y_S), 0 ≤ k → k ≤ n → n - k ≤ f → (y_bc P W n k.toNat).1 = k → (s.1, s.2.1) = y_bx P W n F X k.toNat → ((y_all L M line (y_ll P n k) s).1, (y_all L M line (y_ll P n k) s).2.1) = y_bx P W n F X n.toNat := by
  intro f
  induction f with
  | zero =>
    intro k line s k0 k1 kf hk hs
    have e : n = k := by omega
    subst e
    rw [y_ll_e (Int.le_refl _)]; exact hs
  | succ f ih =>
    intro k line s k0 k1 kf hk hs
    by_cases q : k < n
    · have hl := y_bc_line (W := W) k0 q hk
      have hx := y_bx_line (W := W) (F := F) (X := X) k0 q hk
      have g := m_lend_spec (P := P) q
      rw [y_ll_s q]
      refine ih (m_lend P n k + 1) (line + 1) (y_line L M line (m_line P k (m_lend P n k)) s) (by omega) (by omega) (by omega) (by rw [hl]) ?_
      rw [hx, ← hs, (y_line_px L M line _ s).1, (y_line_px L M line _ s).2]
    · have e : n = k := by omega
      subst e
      rw [y_ll_e (Int.le_refl _)]; exact hs
theorem y_bx_run {P : Int → Int} {W : Int} {L M : Int → Int} (s : y_S) (h : p_hd P) : ((y_run P L M s).1, (y_run P L M s).2.1) = y_bx P W (m_count P) s.1 s.2.1 (m_count P).toNat := by
  have hc := m_count_b h
  exact y_bx_all (m_count P).toNat 0 0 (z_v s.1 11 0, s.2) (by omega) (by omega) (by omega) rfl rfl
theorem z_Sr_q {E : z_E} {m : z_Mi} {mr : z_Mr} {s q : Nat} {sg : Int → Nat} {W n : Int} {R : Int → Int → Int} (h : z_Sr E m mr s sg W n R) (hq : q < s ∨ s + 71 ≤ q) (f : Int → Option Nat) : z_Sr E m (z_u mr q f) s sg W n R := by
  refine ⟨fun k k0 k1 => ?_, h.2.1, h.2.2⟩
  obtain ⟨e1, e2, e3, e4, e5, e6, e7⟩ := h.1 k k0 k1
  exact ⟨(congrFun (z_un (by omega)) _).trans e1, ⟨e2.1, e2.2.1, (congrFun (z_un (by omega)) _).trans e2.2.2⟩, e3, e4, e5, e6, e7⟩
theorem z_Sr_qi {E : z_E} {m : z_Mi} {mr : z_Mr} {s q : Nat} {sg : Int → Nat} {W n : Int} {R : Int → Int → Int} {f : Int → Option Nat} (h : z_Sr E m (z_u mr q f) s sg W n R) (hq : q < s ∨ s + 71 ≤ q) : z_Sr E m mr s sg W n R := by
  have := z_Sr_q h hq (mr q)
  rw [z_uu, z_uself] at this
  exact this
theorem z_Sc_q {E : z_E} {mr : z_Mr} {s q : Nat} (h : z_Sc E mr s) (hq : q < s ∨ s + 71 ≤ q) (f : Int → Option Nat) : z_Sc E (z_u mr q f) s := by
  obtain ⟨t0, t1, t2, t3, t4, q0, q1, q2⟩ := h
  refine ⟨t0, t1, t2, t3, fun j j0 j1 => ⟨(t4 j j0 j1).1, ?_⟩, ?_, ?_, ?_⟩
  · rw [z_un (by omega)]; exact (t4 j j0 j1).2
  · rw [z_un (by omega)]; exact q0
  · rw [z_un (by omega)]; exact q1
  · rw [z_un (by omega)]; exact q2
