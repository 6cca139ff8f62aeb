section ZAAST
variable {M : z_M} {E : z_E} {kc ks pc n : Nat} {ls : List (Option z_V)} {st : List z_V} {mi : z_Mi} {mr : z_Mr} {Q : z_Q}
theorem z_aastU {a b t ci len : Nat} {i : Int} {f : Int → Option Nat} (hd : z_D 1 M pc n .aastore) (ht : E.2.2[a]? = some (t, len)) (hb : E.2.2[b]? = some (ci, 0)) (h3 : (t = 12 ∧ ci = 2) ∨ (t = 13 ∧ ci = 0) ∨ (t = 14 ∧ ci = 3)) (hn : len ≤ 2147483648) (h0 : 0 ≤ i) (h1 : i < (len : Int)) (k : z_A M E kc ks n ls st mi (z_u mr a (z_v f i (some b))) Q) : z_A M E kc ks pc ls (zo b :: zi i :: zo a :: st) mi (z_u mr a f) Q :=
  z_aast hd ht hb h3 hn h0 h1 (by rw [z_us, z_uu]; exact k)
end ZAAST
/-- rows carried: where each comes from -/
def cy_sg (sg : Int → Nat) (a b : Int) (k : Int) : Nat := if a ≤ k ∧ k < b then sg (k + 1) else if b < k ∧ k ≤ a then sg (k - 1) else if k = b then sg a else sg k
def cy_f (sg : Int → Nat) (a b i j : Int) (k : Int) : Nat := if a ≤ k ∧ k < i then sg (k + 1) else if j < k ∧ k ≤ a then sg (k - 1) else sg k
theorem cy_up {sg : Int → Nat} {a i : Int} {f : Int → Option Nat} (hi : a ≤ i) (hf : ∀ k : Int, 0 ≤ k → k < 32 → f k = some (cy_f sg a a i a k)) : ∀ k : Int, 0 ≤ k → k < 32 → z_v f i (some (sg (i + 1))) k = some (cy_f sg a a (i + 1) a k) := by
  intro k h0 h1
  unfold z_v
  by_cases q : k = i
  · rw [if_pos q, q]; unfold cy_f; rw [if_pos (by omega)]
  · rw [if_neg q, hf k h0 h1]; unfold cy_f
    by_cases q2 : a ≤ k ∧ k < i
    · rw [if_pos q2, if_pos (by omega)]
    · rw [if_neg q2, if_neg (by omega), if_neg (by omega)]
theorem cy_dn {sg : Int → Nat} {a b j i : Int} {f : Int → Option Nat} (hj : j ≤ a) (hf : ∀ k : Int, 0 ≤ k → k < 32 → f k = some (cy_f sg a b i j k)) (hq : i ≤ a) : ∀ k : Int, 0 ≤ k → k < 32 → z_v f j (some (sg (j - 1))) k = some (cy_f sg a b i (j - 1) k) := by
  intro k h0 h1
  unfold z_v
  by_cases q : k = j
  · rw [if_pos q, q]; unfold cy_f; rw [if_neg (by omega), if_pos (by omega)]
  · rw [if_neg q, hf k h0 h1]; unfold cy_f
    by_cases q2 : a ≤ k ∧ k < i
    · rw [if_pos q2, if_pos (by omega)]
    · rw [if_neg q2, if_neg q2]
      by_cases q3 : j < k ∧ k ≤ a
      · rw [if_pos q3, if_pos (by omega)]
      · rw [if_neg q3, if_neg (by omega)]
theorem d_X2_clear {E : z_E} {mi : z_Mi} {mr : z_Mr} {o : Nat} (hM : z_CR E mr o) : z_mv M_X2_clear E [zo o] mi mr (fun m r => m = z_u (z_u mi o (c_un (mi o))) (o + 1) (c_bl (mi (o + 1)) 20) ∧ r = mr) := by
  have h := c_X2_clear (mi := mi) (F := mi o) (X := mi (o + 1)) hM
  rw [z_mself] at h; exact h
theorem d_X2_unmark {E : z_E} {mi : z_Mi} {mr : z_Mr} {o : Nat} (hM : z_CR E mr o) : z_mv M_X2_unmark E [zo o] mi mr (fun m r => m = z_u mi o (c_un (mi o)) ∧ r = mr) := by
  have h := c_X2_unmark (mi := mi) (F := mi o) (X := mi (o + 1)) hM
  rw [z_mself] at h
  have e : z_u (z_u mi o (c_un (mi o))) (o + 1) (mi (o + 1)) = z_u mi o (c_un (mi o)) := by
    have e2 : mi (o + 1) = z_u mi o (c_un (mi o)) (o + 1) := (z_un (by omega)).symm
    rw [e2]; exact z_uself _ _
  rw [e] at h; exact h
theorem z_CR_u {E : z_E} {mr : z_Mr} {o s : Nat} {f : Int → Option Nat} (h : z_CR E mr o) (hn : o ≠ s) : z_CR E (z_u mr s f) o := ⟨h.1, h.2.1, (congrFun (z_un hn) _).trans h.2.2⟩
