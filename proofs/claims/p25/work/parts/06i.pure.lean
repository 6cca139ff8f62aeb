def y_mix (h : Int64) (x : Int) : Int64 := (31 : Int64) * h + (z_I x).toInt64
def y_nest (g : Int → Int64 → Int64) : Nat → Int64 → Int64
  | 0, h => h
  | n + 1, h => g n (y_nest g n h)
theorem y_nest_s (g : Int → Int64 → Int64) {k : Int} (h0 : 0 ≤ k) (h : Int64) : y_nest g (k + 1).toNat h = g k (y_nest g k.toNat h) := by
  rw [show (k + 1).toNat = k.toNat + 1 by omega]
  show g (k.toNat : Int) _ = _
  rw [show (k.toNat : Int) = k by omega]
def y_mixn (f : Int → Int) (n : Nat) (h : Int64) : Int64 := y_nest (fun k h => y_mix h (f k)) n h
theorem y_mixn_s (f : Int → Int) {k : Int} (h0 : 0 ≤ k) (h : Int64) : y_mixn f (k + 1).toNat h = y_mix (y_mixn f k.toNat h) (f k) := y_nest_s _ h0 h
def y_mln (P : Int → Int) (b e : Int) (h : Int64) : Int64 := y_mixn (fun k => m_sgA P b e k) (m_signs P b e).toNat (y_mixn (fun w => m_lof P b e w) 3 h)
def y_mlf (P : Int → Int) (n : Int) : Nat → Int → Int64 → Int64
  | 0, _, h => h
  | f + 1, k, h => if k < n then y_mlf P n f (m_lend P n k + 1) (y_mln P k (m_lend P n k) h) else h
def y_mls (P : Int → Int) (n k : Int) (h : Int64) : Int64 := y_mlf P n (n - k).toNat k h
theorem y_mlf_eq (P : Int → Int) (n : Int) : ∀ (f g : Nat) (k : Int) (h : Int64), n - k ≤ f → n - k ≤ g → y_mlf P n f k h = y_mlf P n g k h := by
  intro f
  induction f with
  | zero =>
    intro g k h h0 h1
    cases g with
    | zero => rfl
    | succ g => show h = if k < n then _ else _; rw [if_neg (by omega)]
  | succ f ih =>
    intro g k h h0 h1
    cases g with
    | zero => show (if k < n then _ else _) = h; rw [if_neg (by omega)]
    | succ g =>
      show (if k < n then _ else _) = (if k < n then _ else _)
      by_cases hk : k < n
      · have hs := (m_lend_spec (P := P) hk).1
        rw [if_pos hk, if_pos hk, ih g (m_lend P n k + 1) _ (by omega) (by omega)]
      · rw [if_neg hk, if_neg hk]
theorem y_mls_s {P : Int → Int} {n k : Int} (h : Int64) (hk : k < n) : y_mls P n k h = y_mls P n (m_lend P n k + 1) (y_mln P k (m_lend P n k) h) := by
  have hs := (m_lend_spec (P := P) hk).1
  unfold y_mls
  rw [show (n - k).toNat = (n - k - 1).toNat + 1 by omega]
  show (if k < n then _ else _) = _
  rw [if_pos hk, y_mlf_eq P n _ (n - (m_lend P n k + 1)).toNat _ _ (by omega) (by omega)]
theorem y_mls_e {P : Int → Int} {n k : Int} (h : Int64) (hk : n ≤ k) : y_mls P n k h = h := by
  unfold y_mls
  rw [show (n - k).toNat = 0 by omega]; rfl
def y_dg1 (P : Int → Int) (rem : Int) : Int64 := y_mixn (fun w => m_toldA P rem w) 11 43174
def y_dg2 (P : Int → Int) (h : Int64) : Int64 := y_nest (fun k h => y_mixn (fun w => m_ros P (m_slot P k) w) 4 h) (P 14 + P 1).toNat h
def y_dg3 (P : Int → Int) (h : Int64) : Int64 := y_mixn (fun k => m_cellA P (k / P 0) (k % P 0)) (P 1 * P 0).toNat h
def y_dg5 (P : Int → Int) (h : Int64) : Int64 := y_nest (fun k h => y_mixn (fun w => m_cur P k w) 4 h) (P 7 + 1).toNat h
def y_dg6 (P : Int → Int) (h : Int64) : Int64 := y_mixn (fun i => y_many P (4 + i)) 17 h
def y_dig (P : Int → Int) (rem : Int) : Int64 := y_dg6 P (y_dg5 P (y_mls P (m_count P) 0 (y_dg3 P (y_dg2 P (y_dg1 P rem)))))
theorem y_mul_b {a b : Int} (h0 : 0 ≤ a) (h1 : a ≤ 8) (h2 : 0 ≤ b) (h3 : b ≤ 20) : 0 ≤ a * b ∧ a * b ≤ 160 := by
  refine ⟨Int.mul_nonneg h0 h2, ?_⟩
  have : a * b ≤ 8 * 20 := Int.mul_le_mul h1 h3 h2 (by omega)
  omega
theorem y_div_b {k a b : Int} (h0 : 0 ≤ k) (hb : 0 < b) (h1 : k < a * b) : 0 ≤ k / b ∧ k / b < a ∧ 0 ≤ k % b ∧ k % b < b :=
  ⟨Int.ediv_nonneg h0 (by omega), Int.ediv_lt_of_lt_mul hb h1, Int.emod_nonneg _ (by omega), Int.emod_lt_of_pos _ hb⟩
