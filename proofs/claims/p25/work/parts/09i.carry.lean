def cy_i (a b k : Int) : Int := if a ≤ k ∧ k < b then k + 1 else if b < k ∧ k ≤ a then k - 1 else if k = b then a else k
theorem cy_sg_i (sg : Int → Nat) (a b k : Int) : cy_sg sg a b k = sg (cy_i a b k) := by
  unfold cy_sg cy_i; split
  · rfl
  · split
    · rfl
    · split <;> rfl
theorem cy_i_b {a b k : Int} (h0 : 0 ≤ a) (h1 : a < 32) (g0 : 0 ≤ b) (g1 : b < 32) (k0 : 0 ≤ k) (k1 : k < 32) : 0 ≤ cy_i a b k ∧ cy_i a b k < 32 := by
  unfold cy_i; split
  · omega
  · split
    · omega
    · split <;> omega
theorem cy_i_a (a b k : Int) : cy_i a b k = a ↔ k = b := by
  unfold cy_i; split
  · omega
  · split
    · omega
    · split <;> omega
theorem cy_i_inj {a b i j : Int} (h : cy_i a b i = cy_i a b j) : i = j := by
  unfold cy_i at h
  split at h <;> split at h <;> (try split at h) <;> (try split at h) <;> (try split at h) <;> omega
/-- cells of other rows stay -/
theorem z_un2 {α : Type} {m : Nat → α} {a b : Nat} {f g : α} (h : b ≠ a) (h2 : b ≠ a + 1) : z_u (z_u m a f) (a + 1) g b = m b := (z_un h2).trans (z_un h)
theorem z_us2 {α : Type} {m : Nat → α} {a : Nat} {f g : α} : z_u (z_u m a f) (a + 1) g a = f := (z_un (by omega)).trans (z_us _ _ _)
theorem c_un_fl (F : Int → Int) : c_un F 1 = 0 ∧ c_un F 2 = 0 := ⟨rfl, rfl⟩
theorem z_xr_bl {X : Int → Int} (h : z_xr X) (n : Int) : z_xr (c_bl X n) := by
  intro c; unfold c_bl; split
  · omega
  · exact h c
theorem z_Sr_carry {E : z_E} {mi : z_Mi} {mr : z_Mr} {s : Nat} {sg : Int → Nat} {W n n' a b : Int} {R : Int → Int → Int} {f' : Int → Option Nat} (h : z_Sr E mi mr s sg W n R) (hW0 : 0 ≤ W) (hW : W ≤ 20) (h0 : 0 ≤ a) (h1 : a < 32) (g0 : 0 ≤ b) (g1 : b < 32) (hf : ∀ k : Int, 0 ≤ k → k < 32 → f' k = some (cy_sg sg a b k)) (hn2 : n' ≤ 32) (hn : ∀ k : Int, 0 ≤ k → k < n' → k ≠ b → cy_i a b k < n) :
    z_Sr E (z_u (z_u mi (sg a) (c_un (mi (sg a)))) (sg a + 1) (c_bl (mi (sg a + 1)) 20)) (z_u mr (s + 1) f') s (fun k => sg (cy_i a b k)) W n' (fun k => if k = b then r_blank else R (cy_i a b k)) := by
  obtain ⟨p1, p2, p3⟩ := h
  have hoth : ∀ k : Int, 0 ≤ k → k < 32 → k ≠ b → (sg (cy_i a b k) ≠ sg a ∧ sg (cy_i a b k) ≠ sg a + 1) ∧ (sg (cy_i a b k) + 1 ≠ sg a ∧ sg (cy_i a b k) + 1 ≠ sg a + 1) := by
    intro k k0 k1 kb
    have hb := cy_i_b h0 h1 g0 g1 k0 k1
    have := p2 (cy_i a b k) a hb.1 hb.2 h0 h1 (fun q => kb ((cy_i_a a b k).1 q))
    omega
  refine ⟨fun k k0 k1 => ?_, fun i j i0 i1 j0 j1 hij => ?_, fun k k0 k1 => ?_⟩
  · dsimp only
    have hb := cy_i_b h0 h1 g0 g1 k0 k1
    obtain ⟨e1, e2, e3, e4, e5, e6, e7⟩ := p1 (cy_i a b k) hb.1 hb.2
    refine ⟨(congrFun (z_us _ _ _) _).trans ((hf k k0 k1).trans (congrArg _ (cy_sg_i sg a b k))), z_CR_u e2 (by omega), e3, e4, ?_⟩
    by_cases q : k = b
    · rw [(cy_i_a a b k).2 q]
      refine ⟨?_, ?_, ?_⟩
      · rw [z_us]; have e := (p1 a h0 h1).2.2.2.2.1; exact z_xr_bl e 20
      · rw [z_us2]; exact Or.inl rfl
      · rw [z_us2]; exact Or.inl rfl
    · obtain ⟨⟨o1, o2⟩, o3, o4⟩ := hoth k k0 k1 q
      rw [z_un2 o3 o4, z_un2 o1 o2]
      exact ⟨e5, e6, e7⟩
  · have hbi := cy_i_b h0 h1 g0 g1 i0 i1
    have hbj := cy_i_b h0 h1 g0 g1 j0 j1
    exact p2 _ _ hbi.1 hbi.2 hbj.1 hbj.2 (fun q => hij (cy_i_inj q))
  · dsimp only
    have hb := cy_i_b h0 h1 g0 g1 k0 (show k < 32 by omega)
    by_cases q : k = b
    · rw [if_pos q, (cy_i_a a b k).2 q, z_us2, z_us]
      exact ⟨c_bl_rw hW0 hW, c_wf_blank hW⟩
    · obtain ⟨⟨o1, o2⟩, o3, o4⟩ := hoth k k0 (by omega) q
      rw [if_neg q, z_un2 o3 o4, z_un2 o1 o2]
      exact p3 _ hb.1 (hn k k0 k1 q)
/-- one row of the sheet changes its marks and cells -/
theorem z_Sr_set {E : z_E} {mi : z_Mi} {mr : z_Mr} {s : Nat} {sg : Int → Nat} {W n a : Int} {R : Int → Int → Int} {F X r : Int → Int} (h : z_Sr E mi mr s sg W n R) (hn : n ≤ 32) (h0 : 0 ≤ a) (h1 : a < 32) (hX : z_xr X) (hF1 : F 1 = 0 ∨ F 1 = 1) (hF2 : F 2 = 0 ∨ F 2 = 1) (hr : a < n → c_rw W r F X ∧ c_wf W r) :
    z_Sr E (z_u (z_u mi (sg a) F) (sg a + 1) X) mr s sg W n (fun k => if k = a then r else R k) := by
  obtain ⟨p1, p2, p3⟩ := h
  have hoth : ∀ k : Int, 0 ≤ k → k < 32 → k ≠ a → (sg k ≠ sg a ∧ sg k ≠ sg a + 1) ∧ (sg k + 1 ≠ sg a ∧ sg k + 1 ≠ sg a + 1) := by
    intro k k0 k1 kb
    have := p2 k a k0 k1 h0 h1 kb
    omega
  refine ⟨fun k k0 k1 => ?_, p2, fun k k0 k1 => ?_⟩
  · obtain ⟨e1, e2, e3, e4, e5, e6, e7⟩ := p1 k k0 k1
    refine ⟨e1, e2, e3, e4, ?_⟩
    by_cases q : k = a
    · subst q
      rw [z_us, z_us2]; exact ⟨hX, hF1, hF2⟩
    · obtain ⟨⟨o1, o2⟩, o3, o4⟩ := hoth k k0 k1 q
      rw [z_un2 o3 o4, z_un2 o1 o2]
      exact ⟨e5, e6, e7⟩
  · by_cases q : k = a
    · subst q
      show c_rw W (if k = k then r else R k) _ _ ∧ c_wf W (if k = k then r else R k)
      rw [if_pos rfl, z_us2, z_us]; exact hr k1
    · obtain ⟨⟨o1, o2⟩, o3, o4⟩ := hoth k k0 (by omega) q
      show c_rw W (if k = a then r else R k) _ _ ∧ c_wf W (if k = a then r else R k)
      rw [if_neg q, z_un2 o3 o4, z_un2 o1 o2]
      exact p3 k k0 k1
