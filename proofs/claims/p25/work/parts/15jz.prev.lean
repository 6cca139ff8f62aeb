theorem z_X_prev {E : z_E} {o : Nat} {mi : z_Mi} {mr : z_Mr} {P : Int → Int} {n nx : Int} (h : z_Xm E o mi mr P n nx) (hn : 1 ≤ n) : ∃ (U : Int → Int) (sgU : Int → Nat), U = p_st P n ∧ p_hd U ∧ z_Sc E mr (o + 74 + 71 * ((nx + 8 - 1) % 8).toNat) ∧ z_Sd mi (o + 74 + 71 * ((nx + 8 - 1) % 8).toNat) U ∧ z_Sr E mi mr (o + 74 + 71 * ((nx + 8 - 1) % 8).toNat) sgU (U 0) (U 14 + U 1) (p_rows U) := by
  obtain ⟨h1, sgU, h2, h3, h4⟩ := h.2 n hn (Int.le_refl _)
  have e : (nx - n + n - 1) % 8 = (nx + 8 - 1) % 8 := by omega
  rw [e] at h2 h3 h4
  exact ⟨p_st P n, sgU, rfl, h1, h2, h3, h4⟩
