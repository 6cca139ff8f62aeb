/-! a sheet of the class at cell s: what never changes, its numbers, its rows -/
def z_Sc (E : z_E) (mr : z_Mr) (s : Nat) : Prop := E.2.2[s]? = some (3, 0) ∧ E.2.2[s + 1]? = some (12, 32) ∧ E.2.2[s + 2]? = some (0, 0) ∧ E.2.2[s + 3]? = some (13, 3) ∧ (∀ j : Int, 0 ≤ j → j < 3 → E.2.2[s + 68 + j.toNat]? = some (0, 0) ∧ mr (s + 3) j = some (s + 68 + j.toNat)) ∧ mr s 0 = some (s + 1) ∧ mr s 1 = some (s + 2) ∧ mr s 2 = some (s + 3)
def z_Sd (mi : z_Mi) (s : Nat) (P : Int → Int) : Prop := mi s 3 = P 7 ∧ mi s 4 = P 14 ∧ mi s 5 = P 0 ∧ mi s 6 = P 1 ∧ mi s 7 = P 2 ∧ mi s 8 = P 3 ∧ mi (s + 2) 0 = P 4 ∧ mi (s + 2) 1 = P 5 ∧ mi (s + 2) 2 = P 6 ∧ (∀ j : Int, 0 ≤ j → j < P 7 → mi (s + 68 + j.toNat) 0 = P (8 + 2 * j) ∧ mi (s + 68 + j.toNat) 1 = P (8 + 2 * j + 1) ∧ mi (s + 68 + j.toNat) 2 = 0) ∧ (∀ j : Int, 0 ≤ j → j < 3 → mi (s + 68 + j.toNat) 2 = 0 ∨ mi (s + 68 + j.toNat) 2 = 1)
def z_Sr (E : z_E) (mi : z_Mi) (mr : z_Mr) (s : Nat) (sg : Int → Nat) (W n : Int) (R : Int → Int → Int) : Prop :=
  (∀ k : Int, 0 ≤ k → k < 32 → mr (s + 1) k = some (sg k) ∧ z_CR E mr (sg k) ∧ s + 4 ≤ sg k ∧ sg k + 1 < s + 68 ∧ z_xr (mi (sg k + 1)) ∧ (mi (sg k) 1 = 0 ∨ mi (sg k) 1 = 1) ∧ (mi (sg k) 2 = 0 ∨ mi (sg k) 2 = 1))
  ∧ (∀ i j : Int, 0 ≤ i → i < 32 → 0 ≤ j → j < 32 → i ≠ j → sg i + 1 < sg j ∨ sg j + 1 < sg i)
  ∧ (∀ k : Int, 0 ≤ k → k < n → c_rw W (R k) (mi (sg k)) (mi (sg k + 1)) ∧ c_wf W (R k))
/-- all of it: P its numbers (the page's first 15), R its rows, those of the history first -/
def z_Sh (E : z_E) (mi : z_Mi) (mr : z_Mr) (s : Nat) (sg : Int → Nat) (P : Int → Int) (R : Int → Int → Int) : Prop := z_Sc E mr s ∧ z_Sd mi s P ∧ z_Sr E mi mr s sg (P 0) (P 14 + P 1) R
section ZSH
variable {E : z_E} {mi : z_Mi} {mr : z_Mr} {s : Nat} {sg : Int → Nat} {P : Int → Int} {R : Int → Int → Int}
theorem z_Sh_row (h : z_Sh E mi mr s sg P R) {k : Int} (h0 : 0 ≤ k) (h1 : k < 32) : mr (s + 1) k = some (sg k) ∧ z_CR E mr (sg k) := ⟨(h.2.2.1 k h0 h1).1, (h.2.2.1 k h0 h1).2.1⟩
theorem z_Sh_tag (h : z_Sh E mi mr s sg P R) {k : Int} (h0 : 0 ≤ k) (h1 : k < 32) : E.2.2[sg k]? = some (2, 0) := (z_Sh_row h h0 h1).2.1
theorem z_Sh_xr (h : z_Sh E mi mr s sg P R) {k : Int} (h0 : 0 ≤ k) (h1 : k < 32) : z_xr (mi (sg k + 1)) := (h.2.2.1 k h0 h1).2.2.2.2.1
theorem z_Sh_rw (h : z_Sh E mi mr s sg P R) {k : Int} (h0 : 0 ≤ k) (h1 : k < P 14 + P 1) : c_rw (P 0) (R k) (mi (sg k)) (mi (sg k + 1)) ∧ c_wf (P 0) (R k) := h.2.2.2.2 k h0 h1
end ZSH
/-- a row's contract at the memory as it is -/
theorem z_mself (mi : z_Mi) (a : Nat) : z_u (z_u mi a (mi a)) (a + 1) (mi (a + 1)) = mi := by
  rw [z_uself, z_uself]
section ZROWS
variable {E : z_E} {mi : z_Mi} {mr : z_Mr} {o : Nat}
theorem d_X2_taken (hM : z_CR E mr o) (hX : z_xr (mi (o + 1))) : z_mi M_X2_taken E [zo o] mi mr (fun x m r => x = c_tak (mi (o + 1)) 20 ∧ m = mi ∧ r = mr) := by
  have h := c_X2_taken (mi := mi) (F := mi o) hM hX
  rw [z_mself] at h; exact h
theorem d_X2_filled (hM : z_CR E mr o) (hX : z_xr (mi (o + 1))) : z_mi M_X2_filled E [zo o] mi mr (fun x m r => x = c_fil (mi (o + 1)) ∧ m = mi ∧ r = mr) := by
  have h := c_X2_filled (mi := mi) (F := mi o) hM hX
  rw [z_mself] at h; exact h
theorem d_X2_signs (hM : z_CR E mr o) (hX : z_xr (mi (o + 1))) : z_mi M_X2_signs E [zo o] mi mr (fun x m r => x = c_sgs (mi (o + 1)) 20 ∧ m = mi ∧ r = mr) := by
  have h := c_X2_signs (mi := mi) (F := mi o) hM hX
  rw [z_mself] at h; exact h
theorem d_X2_isBlank (hM : z_CR E mr o) (hX : z_xr (mi (o + 1))) : z_mi M_X2_isBlank E [zo o] mi mr (fun x m r => x = (if c_fil (mi (o + 1)) = 0 then 1 else 0) ∧ m = mi ∧ r = mr) := by
  have h := c_X2_isBlank (mi := mi) (F := mi o) hM hX
  rw [z_mself] at h; exact h
theorem d_X2_at {c : Int} (hM : z_CR E mr o) (hz : z_R c) : z_mi M_X2_at E [zo o, zi c] mi mr (fun x m r => x = c_at (mi (o + 1)) c ∧ m = mi ∧ r = mr) := by
  have h := c_X2_at (mi := mi) (F := mi o) (X := mi (o + 1)) hM hz
  rw [z_mself] at h; exact h
theorem d_X2_signsBefore {t : Int} (hM : z_CR E mr o) (hX : z_xr (mi (o + 1))) (hz : z_R t) : z_mi M_X2_signsBefore E [zo o, zi t] mi mr (fun x m r => x = c_sb (mi (o + 1)) (if t < 20 then t else 20) ∧ m = mi ∧ r = mr) := by
  have h := c_X2_signsBefore (mi := mi) (F := mi o) hM hX hz
  rw [z_mself] at h; exact h
end ZROWS
def n_tak (P : Int → Int) (R : Int → Int → Int) (k : Int) : Int := n_cnt (fun c => R k c ≠ 32) (P 0).toNat
def n_takA (P : Int → Int) (R : Int → Int → Int) (n : Nat) : Int := n_sum (fun r => n_tak P R (P 14 + r)) n
theorem n_tak_b {P : Int → Int} {R : Int → Int → Int} {k : Int} (h : 0 ≤ P 0) : 0 ≤ n_tak P R k ∧ n_tak P R k ≤ P 0 := by
  have := n_cnt_b (fun c => R k c ≠ 32) (P 0).toNat
  unfold n_tak; omega
/-- the last row that counts, on the screen -/
def k_last (P : Int → Int) (n : Nat) : Int := m_lastk P n
