/-! a contract says less -/
theorem z_ct_w {M : z_M} {E : z_E} {as : List z_V} {mi : z_Mi} {mr : z_Mr} {Q Q' : z_Q} (h : z_ct M E as mi mr Q) (hi : ∀ v E' m r, Q v E' m r → Q' v E' m r) : z_ct M E as mi mr Q' := by
  intro l b0 p e h1 h2 h3 s m args below h4 h5 h6 h7
  obtain ⟨n, o, a1, a2, a3, a4⟩ := h l b0 p e h1 h2 h3 s m args below h4 h5 h6 h7
  obtain ⟨⟨⟨v, E', m', r', g1, g2, g3, g4, g5⟩, g6⟩, a5⟩ := a4
  exact ⟨n, o, a1, a2, a3, ⟨⟨v, E', m', r', g1, g2, hi _ _ _ _ g3, g4, g5⟩, g6⟩, a5⟩
theorem z_mv_w {M : z_M} {E : z_E} {as : List z_V} {mi : z_Mi} {mr : z_Mr} {P P' : z_Mi → z_Mr → Prop} (h : z_mv M E as mi mr P) (hi : ∀ m r, P m r → P' m r) : z_mv M E as mi mr P' := ⟨z_ct_w h.1 (fun _ _ m r q => ⟨q.1, q.2.1, hi m r q.2.2⟩), h.2⟩
theorem z_mi_w {M : z_M} {E : z_E} {as : List z_V} {mi : z_Mi} {mr : z_Mr} {P P' : Int → z_Mi → z_Mr → Prop} (h : z_mi M E as mi mr P) (hi : ∀ x m r, P x m r → P' x m r) : z_mi M E as mi mr P' := ⟨z_ct_w h.1 (fun _ _ m r q => by obtain ⟨q1, x, q2, q3⟩ := q; exact ⟨q1, x, q2, hi x m r q3⟩), h.2⟩
/-- all cells outside a sheet are as before -/
def z_Fr (s : Nat) (mi : z_Mi) (mr : z_Mr) (m : z_Mi) (r : z_Mr) : Prop := ∀ c, (c < s ∨ s + 71 ≤ c) → m c = mi c ∧ r c = mr c
theorem z_Fr_r (s : Nat) (mi : z_Mi) (mr : z_Mr) : z_Fr s mi mr mi mr := fun _ _ => ⟨rfl, rfl⟩
theorem z_Fr_t {s : Nat} {mi m m2 : z_Mi} {mr r r2 : z_Mr} (h : z_Fr s mi mr m r) (h2 : z_Fr s m r m2 r2) : z_Fr s mi mr m2 r2 := fun c hc => ⟨(h2 c hc).1.trans (h c hc).1, (h2 c hc).2.trans (h c hc).2⟩
theorem z_Sc_u {E : z_E} {mr : z_Mr} {s : Nat} {f : Int → Option Nat} (h : z_Sc E mr s) : z_Sc E (z_u mr (s + 1) f) s := by
  obtain ⟨t0, t1, t2, t3, t4, q0, q1, q2⟩ := h
  refine ⟨t0, t1, t2, t3, fun j j0 j1 => ⟨(t4 j j0 j1).1, ?_⟩, ?_, ?_, ?_⟩
  · rw [z_un (by omega)]; exact (t4 j j0 j1).2
  · rw [z_un (by omega)]; exact q0
  · rw [z_un (by omega)]; exact q1
  · rw [z_un (by omega)]; exact q2
/-- the sheet's numbers do not lie in its rows -/
theorem z_Sd_row {mi : z_Mi} {s a : Nat} {P F X : Int → Int} (h : z_Sd mi s P) (h0 : s + 4 ≤ a) (h1 : a + 1 < s + 68) : z_Sd (z_u (z_u mi a F) (a + 1) X) s P := by
  obtain ⟨d3, d4, d5, d6, d7, d8, u0, u1, u2, uk, uz⟩ := h
  have e1 : z_u (z_u mi a F) (a + 1) X s = mi s := z_un2 (by omega) (by omega)
  have e2 : z_u (z_u mi a F) (a + 1) X (s + 2) = mi (s + 2) := z_un2 (by omega) (by omega)
  have e3 : ∀ j : Int, 0 ≤ j → z_u (z_u mi a F) (a + 1) X (s + 68 + j.toNat) = mi (s + 68 + j.toNat) := fun j _ => z_un2 (by omega) (by omega)
  unfold z_Sd
  rw [e1, e2]
  refine ⟨d3, d4, d5, d6, d7, d8, u0, u1, u2, fun j j0 j1 => ?_, fun j j0 j1 => ?_⟩
  · rw [e3 j j0]; exact uk j j0 j1
  · rw [e3 j j0]; exact uz j j0 j1
theorem z_Sd_c {mi : z_Mi} {s : Nat} {P Q : Int → Int} (h : z_Sd mi s P) (hq : ∀ k, 0 ≤ k → k < 15 → Q k = P k) (h7 : P 7 ≤ 3) : z_Sd mi s Q := by
  obtain ⟨d3, d4, d5, d6, d7, d8, u0, u1, u2, uk, uz⟩ := h
  have q := fun k h0 h1 => hq k h0 h1
  unfold z_Sd
  rw [q 7 (by decide) (by decide), q 14 (by decide) (by decide), q 0 (by decide) (by decide), q 1 (by decide) (by decide), q 2 (by decide) (by decide), q 3 (by decide) (by decide), q 4 (by decide) (by decide), q 5 (by decide) (by decide), q 6 (by decide) (by decide)]
  refine ⟨d3, d4, d5, d6, d7, d8, u0, u1, u2, fun j j0 j1 => ?_, uz⟩
  rw [q (8 + 2 * j) (by omega) (by omega), q (8 + 2 * j + 1) (by omega) (by omega)]
  exact uk j j0 j1
theorem z_Fr_row {mi : z_Mi} {mr : z_Mr} {s a : Nat} {F X : Int → Int} (h0 : s + 4 ≤ a) (h1 : a + 1 < s + 68) : z_Fr s mi mr (z_u (z_u mi a F) (a + 1) X) mr := fun c hc => ⟨z_un2 (by omega) (by omega), rfl⟩
theorem z_Fr_rows {mi : z_Mi} {mr : z_Mr} {s : Nat} {f : Int → Option Nat} : z_Fr s mi mr mi (z_u mr (s + 1) f) := fun c hc => ⟨rfl, z_un (by omega)⟩
/-- carryBlank, told by the relation -/
theorem d_X3_carryBlank {E : z_E} {mi : z_Mi} {mr : z_Mr} {s : Nat} {sg : Int → Nat} {P : Int → Int} {W n n' a b : Int} {R : Int → Int → Int} (hc : z_Sc E mr s) (hd : z_Sd mi s P) (h : z_Sr E mi mr s sg W n R) (hW0 : 0 ≤ W) (hW : W ≤ 20) (h0 : 0 ≤ a) (h1 : a < 32) (g0 : 0 ≤ b) (g1 : b < 32) (hn2 : n' ≤ 32) (hn : ∀ k : Int, 0 ≤ k → k < n' → k ≠ b → cy_i a b k < n) :
    z_mv M_X3_carryBlank E [zo s, zi a, zi b] mi mr (fun m r => ∃ sg' : Int → Nat, z_Sc E r s ∧ z_Sd m s P ∧ z_Sr E m r s sg' W n' (fun k => if k = b then r_blank else R (cy_i a b k)) ∧ z_Fr s mi mr m r) := by
  have hk := c_X3_carryBlank (mi := mi) (mr := mr) (sg := sg) (f := mr (s + 1)) (a := a) (b := b) hc.1 hc.2.1 hc.2.2.2.2.2.1 (fun k k0 k1 => ⟨(h.1 k k0 k1).2.1, (h.1 k k0 k1).2.2.1⟩) (fun k k0 k1 => (h.1 k k0 k1).1) h0 h1 g0 g1
  rw [z_uself] at hk
  have ha := h.1 a h0 h1
  refine z_mv_w hk (fun m r hq => ?_)
  obtain ⟨rfl, f', rfl, hf⟩ := hq
  exact ⟨_, z_Sc_u hc, z_Sd_row hd ha.2.2.1 ha.2.2.2.1, z_Sr_carry h hW0 hW h0 h1 g0 g1 hf hn2 hn, z_Fr_t (z_Fr_row ha.2.2.1 ha.2.2.2.1) z_Fr_rows⟩
