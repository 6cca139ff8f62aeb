/-! THE PAGE AS NUMBERS: pure words for the reference's methods -/
/-- where the model's cells lie -/
def z_MO (E : z_E) (mr : z_Mr) (o : Nat) : Prop := E.2.2[o]? = some (5, 0) ∧ E.2.2[o + 1]? = some (10, 6471) ∧ E.2.2[o + 2]? = some (10, 704) ∧ E.2.2[o + 3]? = some (10, 4) ∧ E.2.2[o + 4]? = some (10, 4) ∧ E.2.2[o + 5]? = some (10, 4) ∧ E.2.2[o + 6]? = some (10, 4) ∧ E.2.2[o + 7]? = some (11, 4) ∧ mr o 0 = some (o + 1) ∧ mr o 2 = some (o + 2) ∧ mr o 3 = some (o + 3) ∧ mr o 4 = some (o + 4) ∧ mr o 5 = some (o + 5) ∧ mr o 6 = some (o + 6) ∧ mr o 7 = some (o + 7)
/-- all numbers are small -/
def z_pr (P : Int → Int) : Prop := ∀ k, 0 ≤ P k ∧ P k ≤ 255
/-- a row of the page; the page with another row -/
def p_row (P : Int → Int) (s : Int) : Int → Int := fun c => P (15 + 22 * s + c)
def p_upd (P : Int → Int) (s : Int) (r : Int → Int) : Int → Int := fun k => if 15 + 22 * s ≤ k ∧ k < 15 + 22 * s + 22 then r (k - (15 + 22 * s)) else P k
theorem z_pr_v {P : Int → Int} {i v : Int} (h : z_pr P) (h0 : 0 ≤ v) (h1 : v ≤ 255) : z_pr (z_v P i v) := by
  intro k; unfold z_v; split
  · exact ⟨h0, h1⟩
  · exact h k
theorem p_row_upd (P : Int → Int) (s : Int) (r : Int → Int) {c : Int} (h0 : 0 ≤ c) (h1 : c < 22) : p_row (p_upd P s r) s c = r c := by
  unfold p_row p_upd
  rw [if_pos ⟨by omega, by omega⟩]
  congr 1; omega
theorem p_row_ne (P : Int → Int) {s t : Int} (r : Int → Int) {c : Int} (h0 : 0 ≤ c) (h1 : c < 22) (hn : s ≠ t) : p_row (p_upd P s r) t c = p_row P t c := by
  unfold p_row p_upd
  rw [if_neg (by omega)]
theorem p_upd_hd (P : Int → Int) {s : Int} (r : Int → Int) {k : Int} (h : k < 15 + 22 * s) : p_upd P s r k = P k := if_neg (by omega)
theorem p_upd_out (P : Int → Int) {s : Int} (r : Int → Int) {k : Int} (h : k < 15 + 22 * s ∨ 15 + 22 * s + 22 ≤ k) : p_upd P s r k = P k := if_neg (by omega)
theorem p_upd_upd (P : Int → Int) (s : Int) (r r' : Int → Int) : p_upd (p_upd P s r) s r' = p_upd P s r' := by
  funext k; unfold p_upd; split <;> rfl
theorem p_upd_self (P : Int → Int) (s : Int) : p_upd P s (p_row P s) = P := by
  funext k; unfold p_upd p_row; split
  · congr 1; omega
  · rfl
theorem p_upd_ext {P : Int → Int} {s : Int} {r r' : Int → Int} (h : ∀ c, 0 ≤ c → c < 22 → r c = r' c) : p_upd P s r = p_upd P s r' := by
  funext k; unfold p_upd; split
  · next hk => exact h _ (by omega) (by omega)
  · rfl
theorem p_upd_eq {P : Int → Int} {s : Int} {r : Int → Int} (h : ∀ c, 0 ≤ c → c < 22 → r c = p_row P s c) : P = p_upd P s r :=
  (p_upd_self P s).symm.trans (p_upd_ext (fun c h0 h1 => (h c h0 h1).symm))
theorem p_v_upd (P : Int → Int) (s c v : Int) (h0 : 0 ≤ c) (h1 : c < 22) : z_v P (15 + 22 * s + c) v = p_upd P s (z_v (p_row P s) c v) := by
  funext k; simp only [z_v, p_upd, p_row]
  by_cases h : 15 + 22 * s ≤ k ∧ k < 15 + 22 * s + 22
  · rw [if_pos h]
    by_cases h2 : k = 15 + 22 * s + c
    · rw [if_pos h2, if_pos (by omega)]
    · rw [if_neg h2, if_neg (by omega)]
      congr 1; omega
  · rw [if_neg h, if_neg (by omega)]
theorem z_pr_upd {P : Int → Int} {s : Int} {r : Int → Int} (h : z_pr P) (hr : ∀ c, 0 ≤ c → c < 22 → 0 ≤ r c ∧ r c ≤ 255) : z_pr (p_upd P s r) := by
  intro k; unfold p_upd; split
  · next hk => exact hr _ (by omega) (by omega)
  · exact h k
/-! rows -/
def r_unw (r : Int → Int) : Int → Int := fun c => if c = 20 ∨ c = 21 then 0 else r c
def r_blank : Int → Int := fun c => if c = 20 ∨ c = 21 then 0 else 32
/-- a cell becomes something; the last one takes wrap and gap away -/
def r_set (W c v : Int) (r : Int → Int) : Int → Int := fun j => if j = c then v else if (j = 20 ∨ j = 21) ∧ c = W - 1 then 0 else r j
def r_fill (W a b : Int) (r : Int → Int) : Int → Int := fun j => if a ≤ j ∧ j ≤ b then 32 else if (j = 20 ∨ j = 21) ∧ a ≤ W - 1 ∧ W - 1 ≤ b then 0 else r j
def r_free1 (W a : Int) (r : Int → Int) : Int → Int := if 0 < a ∧ 128 ≤ r a then r_set W (a - 1) 32 r else r
def r_free2 (W b : Int) (r : Int → Int) : Int → Int := if b + 1 < W ∧ 65 ≤ r b ∧ r b ≤ 90 then r_set W (b + 1) 32 r else r
def r_free (W a b : Int) (r : Int → Int) : Int → Int := r_free2 W b (r_free1 W a r)
def r_erase (W a b : Int) (r : Int → Int) : Int → Int := r_fill W a b (r_free W a b r)
theorem r_unw_cell {r : Int → Int} {c : Int} (h : c < 20) : r_unw r c = r c := if_neg (by omega)
/-- numbers counted from 0 on -/
def n_cnt (p : Int → Prop) [DecidablePred p] : Nat → Int
  | 0 => 0
  | n + 1 => n_cnt p n + (if p (n : Nat) then 1 else 0)
theorem n_cnt_0 (p : Int → Prop) [DecidablePred p] : n_cnt p 0 = 0 := rfl
theorem n_cnt_s (p : Int → Prop) [DecidablePred p] {c : Int} (h : 0 ≤ c) : n_cnt p (c + 1).toNat = n_cnt p c.toNat + (if p c then 1 else 0) := by
  rw [show (c + 1).toNat = c.toNat + 1 by omega]
  show n_cnt p c.toNat + (if p (c.toNat : Nat) then 1 else 0) = _
  rw [show ((c.toNat : Nat) : Int) = c by omega]
theorem n_cnt_b (p : Int → Prop) [DecidablePred p] (n : Nat) : 0 ≤ n_cnt p n ∧ n_cnt p n ≤ n := by
  induction n with
  | zero => exact ⟨Int.le_refl _, Int.le_refl _⟩
  | succ n ih =>
    show 0 ≤ n_cnt p n + (if p (n : Nat) then 1 else 0) ∧ n_cnt p n + (if p (n : Nat) then 1 else 0) ≤ ((n + 1 : Nat) : Int)
    split <;> omega
theorem n_cnt_c {p q : Int → Prop} [DecidablePred p] [DecidablePred q] {n : Nat} (h : ∀ k : Int, 0 ≤ k → k < n → (p k ↔ q k)) : n_cnt p n = n_cnt q n := by
  induction n with
  | zero => rfl
  | succ n ih =>
    show n_cnt p n + (if p (n : Nat) then 1 else 0) = n_cnt q n + (if q (n : Nat) then 1 else 0)
    rw [ih (fun k h0 h1 => h k h0 (by omega))]
    have := h (n : Nat) (by omega) (by omega)
    by_cases hp : p (n : Nat)
    · rw [if_pos hp, if_pos (this.mp hp)]
    · rw [if_neg hp, if_neg (fun q => hp (this.mpr q))]
/-- the number of cells up to the last one that is not blank -/
def n_used (r : Int → Int) : Nat → Int
  | 0 => 0
  | n + 1 => if r (n : Nat) = 32 then n_used r n else ((n + 1 : Nat) : Int)
