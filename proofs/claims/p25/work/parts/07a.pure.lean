/-! a row of the class: its marks F (1 wrap, 2 gap), its cells X -/
def z_CR (E : z_E) (mr : z_Mr) (o : Nat) : Prop := E.2.2[o]? = some (2, 0) ∧ E.2.2[o + 1]? = some (10, 20) ∧ mr o 0 = some (o + 1)
def z_xr (X : Int → Int) : Prop := ∀ c, -255 ≤ X c ∧ X c ≤ 255
theorem z_xr_v {X : Int → Int} {c v : Int} (h : z_xr X) (h0 : -255 ≤ v) (h1 : v ≤ 255) : z_xr (z_v X c v) := by
  intro i; unfold z_v; split
  · exact ⟨h0, h1⟩
  · exact h i
def c_at (X : Int → Int) (c : Int) : Int := if 0 ≤ c ∧ c < 20 then X c else 32
theorem c_at_b {X : Int → Int} (h : z_xr X) (c : Int) : -255 ≤ c_at X c ∧ c_at X c ≤ 255 := by
  unfold c_at; split
  · exact h c
  · omega
def c_set (X : Int → Int) (c v : Int) : Int → Int := if 0 ≤ c ∧ c < 20 then z_v X c v else X
theorem z_xr_set {X : Int → Int} {c v : Int} (h : z_xr X) (h0 : -255 ≤ v) (h1 : v ≤ 255) : z_xr (c_set X c v) := by
  unfold c_set; split
  · exact z_xr_v h h0 h1
  · exact h
def c_bl (X : Int → Int) (n : Int) : Int → Int := fun c => if 0 ≤ c ∧ c < n then 32 else X c
def c_un (F : Int → Int) : Int → Int := z_v (z_v F 1 0) 2 0
def c_tak (X : Int → Int) (n : Int) : Int := n_cnt (fun c => X c ≠ 32) n.toNat
def c_fil (X : Int → Int) : Int := n_used X 20
def c_sgs (X : Int → Int) (n : Int) : Int := n_cnt (fun c => 33 ≤ X c) n.toNat
def c_sb (X : Int → Int) (n : Int) : Int := n_cnt (fun c => 32 ≤ X c) n.toNat
def c_e0 (X : Int → Int) (a : Int) : Int := if c_at X a < 0 then a - 1 else a
def c_e1 (X : Int → Int) (b : Int) : Int := if c_at X (b + 1) < 0 then b + 1 else b
def c_era (X : Int → Int) (a b : Int) : Int → Int := fun c => if (a ≤ c ∧ c < b) ∧ 0 ≤ c ∧ c < 20 then 32 else X c
def c_er (X : Int → Int) (a b : Int) : Int → Int := c_era X (c_e0 X a) (c_e1 X b + 1)
def c_erF (X F : Int → Int) (b W : Int) : Int → Int := if c_e1 X b = W - 1 then c_un F else F
def c_sz (v : Int) : Int := if 65 ≤ v ∧ v ≤ 90 then 2 else 1
def c_put (X : Int → Int) (c v : Int) : Int → Int := if 65 ≤ v ∧ v ≤ 90 then c_set (c_set X c v) (c + 1) (-v) else c_set X c v
def c_ov (X : Int → Int) (c v : Int) : Int → Int := c_put (c_er X c (c + c_sz v - 1)) c v
def c_ovF (X F : Int → Int) (c v W : Int) : Int → Int := c_erF X F (c + c_sz v - 1) W
/-- cells moved to the right from column a on, those from i on done -/
def c_mvr (X : Int → Int) (n W i : Int) : Int → Int := fun c => if i ≤ c ∧ c < W then X (c - n) else X c
def c_mvl (X : Int → Int) (n W a i : Int) : Int → Int := fun c => if a ≤ c ∧ c < i then (if c + n < W then X (c + n) else 32) else X c
def c_op1 (X : Int → Int) (c : Int) : Int → Int := if c_at X c < 0 then c_set (c_set X (c - 1) 32) c 32 else X
def c_op2 (X : Int → Int) (c n W : Int) : Int → Int := c_era (c_mvr (c_op1 X c) n W (c + n)) c (c + n)
def c_op (X : Int → Int) (c n W : Int) : Int → Int := if 65 ≤ c_op2 X c n W (W - 1) ∧ c_op2 X c n W (W - 1) ≤ 90 then z_v (c_op2 X c n W) (W - 1) 32 else c_op2 X c n W
def c_cl (X : Int → Int) (c n W : Int) : Int → Int := c_mvl (c_er X c (c + n - 1)) n W c W
theorem c_sz_b (v : Int) : 1 ≤ c_sz v ∧ c_sz v ≤ 2 := by unfold c_sz; split <;> omega
theorem c_bl_0 (X : Int → Int) : c_bl X 0 = X := by funext c; exact if_neg (by omega)
theorem c_bl_s {X X1 : Int → Int} {n : Int} (h0 : 0 ≤ n) (h : X1 = c_bl X n) : z_v X1 n 32 = c_bl X (n + 1) := by
  rw [h]; funext c; unfold z_v c_bl; grind
theorem c_era_0 (X : Int → Int) (a : Int) : c_era X a a = X := by funext c; exact if_neg (by omega)
theorem c_era_s {X X1 : Int → Int} {a b : Int} (h0 : a ≤ b) (h : X1 = c_era X a b) : c_set X1 b 32 = c_era X a (b + 1) := by
  rw [h]; funext c; unfold c_set c_era; split
  · unfold z_v; grind
  · grind
theorem c_era_e {X : Int → Int} {a b : Int} (h : b ≤ a) : c_era X a b = X := by funext c; exact if_neg (by omega)
theorem z_xr_era {X : Int → Int} {a b : Int} (h : z_xr X) : z_xr (c_era X a b) := by
  intro c; unfold c_era; split
  · omega
  · exact h c
theorem z_xr_mvr {X : Int → Int} {n W i : Int} (h : z_xr X) : z_xr (c_mvr X n W i) := by
  intro c; unfold c_mvr; split
  · exact h _
  · exact h c
theorem z_xr_op1 {X : Int → Int} {c : Int} (h : z_xr X) : z_xr (c_op1 X c) := by
  unfold c_op1; split
  · exact z_xr_set (z_xr_set h (by decide) (by decide)) (by decide) (by decide)
  · exact h
theorem c_mvr_0 (X : Int → Int) (n W : Int) : c_mvr X n W W = X := by funext c; exact if_neg (by omega)
theorem c_mvr_s {X X1 : Int → Int} {n W i : Int} (hn : 0 < n) (hi : 0 ≤ i) (hW : i < W) (hW2 : W ≤ 20) (hi2 : n ≤ i) (h : X1 = c_mvr X n W (i + 1)) : c_set X1 i (c_at X1 (i - n)) = c_mvr X n W i := by
  have e : c_at X1 (i - n) = X (i - n) := by
    rw [h]; unfold c_at c_mvr
    rw [if_pos (by omega), if_neg (by omega)]
  rw [e, h]; unfold c_set
  rw [if_pos (by omega)]
  funext c; unfold z_v c_mvr; grind
theorem c_mvl_0 (X : Int → Int) (n W a : Int) : c_mvl X n W a a = X := by funext c; exact if_neg (by omega)
theorem c_mvl_s {X X1 : Int → Int} {n W a i v : Int} (hn : 0 < n) (ha : 0 ≤ a) (hi : a ≤ i) (hW : i < W) (hW2 : W ≤ 20) (h : X1 = c_mvl X n W a i) (hv : v = (if i + n < W then c_at X1 (i + n) else 32)) : c_set X1 i v = c_mvl X n W a (i + 1) := by
  have e : v = (if i + n < W then X (i + n) else 32) := by
    rw [hv, h]
    by_cases g : i + n < W
    · rw [if_pos g, if_pos g]; unfold c_at c_mvl; rw [if_pos (by omega), if_neg (by omega)]
    · rw [if_neg g, if_neg g]
  rw [e, h]; unfold c_set
  rw [if_pos (by omega)]
  funext c; unfold z_v c_mvl; grind
theorem c_un_erF (X F : Int → Int) (b W : Int) : c_un (c_erF X F b W) = c_un F := by
  unfold c_erF
  split
  · funext k; unfold c_un z_v; grind
  · rfl
