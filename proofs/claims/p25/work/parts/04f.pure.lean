/-! steps done for 0, 1 .. n - 1 -/
def n_it {α : Type} (f : Int → α → α) : Nat → α → α
  | 0, a => a
  | n + 1, a => f (n : Nat) (n_it f n a)
theorem n_it_s {α : Type} (f : Int → α → α) (a : α) {c : Int} (h : 0 ≤ c) : n_it f (c + 1).toNat a = f c (n_it f c.toNat a) := by
  rw [show (c + 1).toNat = c.toNat + 1 by omega]
  show f (c.toNat : Nat) (n_it f c.toNat a) = _
  rw [show ((c.toNat : Nat) : Int) = c by omega]
theorem n_it_p {α : Type} {f : Int → α → α} {a : α} (p : α → Prop) (n : Nat) (h0 : p a) (hs : ∀ (k : Int) (b : α), 0 ≤ k → k < n → p b → p (f k b)) : p (n_it f n a) := by
  induction n with
  | zero => exact h0
  | succ n ih => exact hs (n : Nat) _ (by omega) (by omega) (ih (fun k b h0 h1 hb => hs k b h0 (by omega) hb))
def p_goes (r c : Int) (P : Int → Int) : Int → Int := z_v (z_v (z_v P 4 r) 5 c) 6 0
theorem p_hd_goes {P : Int → Int} {r c : Int} (h : p_hd P) (h0 : 0 ≤ r) (h1 : r < P 1) (h2 : 0 ≤ c) (h3 : c < P 0) : p_hd (p_goes r c P) := by
  have e0 : z_v P 4 r 0 = P 0 := z_vn (by decide)
  exact p_hd_6 (p_hd_set (p_hd_set h (Or.inl ⟨rfl, h0, h1⟩)) (by omega))
def p_reg (a b : Int) (P : Int → Int) : Int → Int := p_goes 0 0 (z_v (z_v P 2 a) 3 b)
theorem p_hd_reg {P : Int → Int} {a b : Int} (h : p_hd P) (h0 : 0 ≤ a) (h1 : a < b) (h2 : b < P 1) : p_hd (p_reg a b P) := by
  obtain ⟨hw0, hw1, hh0, hh1, hf0, hf1, hf2, hr0, hr1, hc0, hc1, hp0, hp1, hk0, hk1, hi0, hi1, hkp, hP⟩ := id h
  have hq : p_hd (z_v (z_v P 2 a) 3 b) := by
    have e : ∀ k, k ≠ 2 → k ≠ 3 → z_v (z_v P 2 a) 3 b k = P k := fun k h2 h3 => by rw [z_vn h3, z_vn h2]
    have e2 : z_v (z_v P 2 a) 3 b 2 = a := by rw [z_vn (by decide), z_vs]
    have e3 : z_v (z_v P 2 a) 3 b 3 = b := z_vs _ _ _
    unfold p_hd
    rw [e 0 (by decide) (by decide), e 1 (by decide) (by decide), e2, e3, e 4 (by decide) (by decide), e 5 (by decide) (by decide), e 6 (by decide) (by decide), e 7 (by decide) (by decide), e 14 (by decide) (by decide)]
    refine ⟨hw0, hw1, hh0, hh1, h0, h1, h2, hr0, hr1, hc0, hc1, hp0, hp1, hk0, hk1, hi0, hi1, fun j g0 g1 => ?_, z_pr_v (z_pr_v hP h0 (by omega)) (by omega) (by omega)⟩
    rw [e _ (by omega) (by omega), e _ (by omega) (by omega)]
    exact hkp j g0 g1
  have e0 : z_v (z_v P 2 a) 3 b 0 = P 0 := by rw [z_vn (by decide), z_vn (by decide)]
  have e1 : z_v (z_v P 2 a) 3 b 1 = P 1 := by rw [z_vn (by decide), z_vn (by decide)]
  exact p_hd_goes hq (by decide) (by omega) (by decide) (by omega)
/-! erasing -/
def p_eline (kind : Int) (P : Int → Int) : Int → Int := z_v (p_erases P (P 4) (if kind = 0 then P 5 else 0) (if kind = 1 then P 5 else P 0 - 1)) 6 0
theorem p_hd_eline {P : Int → Int} {kind : Int} (h : p_hd P) : p_hd (p_eline kind P) := by
  obtain ⟨hw0, hw1, hh0, hh1, hf0, hf1, hf2, hr0, hr1, hc0, hc1, hp0, hp1, hk0, hk1, hi0, hi1, hkp, hP⟩ := id h
  exact p_hd_6 (p_hd_erases h (by omega))
theorem p_eline_hd {P : Int → Int} {kind k : Int} (h : p_hd P) (hk : k < 15) (h6 : k ≠ 6) : p_eline kind P k = P k := by
  obtain ⟨hw0, hw1, hh0, hh1, hf0, hf1, hf2, hr0, hr1, hc0, hc1, hp0, hp1, hk0, hk1, hi0, hi1, hkp, hP⟩ := id h
  unfold p_eline
  rw [z_vn h6, p_erases_hd hk (by omega)]
def p_esc (kind W row r : Int) (P : Int → Int) : Int → Int := if kind = 2 ∨ (kind = 0 ∧ row < r) ∨ (kind = 1 ∧ r < row) then p_erases P r 0 (W - 1) else P
def p_escr (kind : Int) (P : Int → Int) : Int → Int := n_it (p_esc kind (P 0) (P 4)) (P 1).toNat (p_eline kind P)
theorem p_hd_esc {P : Int → Int} {kind W row r : Int} (h : p_hd P) (hr : 0 ≤ r) : p_hd (p_esc kind W row r P) := by
  unfold p_esc; split
  · exact p_hd_erases h hr
  · exact h
theorem p_esc_hd {P : Int → Int} {kind W row r k : Int} (hr : 0 ≤ r) (hk : k < 15) : p_esc kind W row r P k = P k := by
  unfold p_esc; split
  · exact p_erases_hd hk hr
  · rfl
theorem p_hd_escn {P : Int → Int} {kind W row : Int} (n : Nat) (h : p_hd P) : p_hd (n_it (p_esc kind W row) n P) ∧ ∀ k, k < 15 → n_it (p_esc kind W row) n P k = P k :=
  n_it_p (fun Q => p_hd Q ∧ ∀ k, k < 15 → Q k = P k) n ⟨h, fun _ _ => rfl⟩ (fun k b h0 _ hb => ⟨p_hd_esc hb.1 h0, fun j hj => by rw [p_esc_hd h0 hj]; exact hb.2 j hj⟩)
theorem p_hd_escr {P : Int → Int} {kind : Int} (h : p_hd P) : p_hd (p_escr kind P) := (p_hd_escn _ (p_hd_eline h)).1
/-! rows inserted and taken away -/
def m_frows (P : Int → Int) (a : Int) (n : Nat) : Int := n_cnt (fun j => 0 < m_fill P (24 + (a + j))) n
def p_dn (P : Int → Int) (lo hi m : Int) : Int → Int := fun k => if 15 + 22 * lo ≤ k ∧ k < 15 + 22 * hi then P (k - 22 * m) else P k
def p_up (P : Int → Int) (lo hi m : Int) : Int → Int := fun k => if 15 + 22 * lo ≤ k ∧ k < 15 + 22 * hi then P (k + 22 * m) else P k
def p_blk (P : Int → Int) (lo hi : Int) : Int → Int := fun k => if 15 + 22 * lo ≤ k ∧ k < 15 + 22 * hi then r_blank ((k - 15) % 22) else P k
def p_unw (P : Int → Int) (s : Int) : Int → Int := p_upd P s (r_unw (p_row P s))
theorem p_dn_0 (P : Int → Int) (a m : Int) : p_dn P a a m = P := by funext k; unfold p_dn; rw [if_neg (by omega)]
theorem p_up_0 (P : Int → Int) (a m : Int) : p_up P a a m = P := by funext k; unfold p_up; rw [if_neg (by omega)]
theorem p_blk_0 (P : Int → Int) (a : Int) : p_blk P a a = P := by funext k; unfold p_blk; rw [if_neg (by omega)]
theorem p_dn_s {P P1 : Int → Int} {lo hi m s : Int} (h : P1 = p_dn P (lo + 1) hi m) (hs : s = lo - m) (hm : 0 ≤ m) (hl : lo < hi) : p_upd P1 lo (p_row P1 s) = p_dn P lo hi m := by
  subst h; subst hs
  funext k; simp only [p_upd, p_row, p_dn]
  by_cases h1 : 15 + 22 * lo ≤ k ∧ k < 15 + 22 * lo + 22
  · rw [if_pos h1, if_neg (by omega), if_pos (by omega)]
    congr 1; omega
  · rw [if_neg h1]
    by_cases h2 : 15 + 22 * (lo + 1) ≤ k ∧ k < 15 + 22 * hi
    · rw [if_pos h2, if_pos (by omega)]
    · rw [if_neg h2, if_neg (by omega)]
theorem p_up_s {P P1 : Int → Int} {lo hi m s : Int} (h : P1 = p_up P lo hi m) (hs : s = hi + m) (hm : 0 ≤ m) (hl : lo ≤ hi) : p_upd P1 hi (p_row P1 s) = p_up P lo (hi + 1) m := by
  subst h; subst hs
  funext k; simp only [p_upd, p_row, p_up]
  by_cases h1 : 15 + 22 * hi ≤ k ∧ k < 15 + 22 * hi + 22
  · rw [if_pos h1, if_neg (by omega), if_pos (by omega)]
    congr 1; omega
  · rw [if_neg h1]
    by_cases h2 : 15 + 22 * lo ≤ k ∧ k < 15 + 22 * hi
    · rw [if_pos h2, if_pos (by omega)]
    · rw [if_neg h2, if_neg (by omega)]
theorem p_blk_s {P P1 : Int → Int} {lo hi : Int} (h : P1 = p_blk P lo hi) (hl : lo ≤ hi) : p_upd P1 hi r_blank = p_blk P lo (hi + 1) := by
  subst h
  funext k; simp only [p_upd, p_blk]
  by_cases h1 : 15 + 22 * hi ≤ k ∧ k < 15 + 22 * hi + 22
  · rw [if_pos h1, if_pos (by omega)]
    congr 1; omega
  · rw [if_neg h1]
    by_cases h2 : 15 + 22 * lo ≤ k ∧ k < 15 + 22 * hi
    · rw [if_pos h2, if_pos (by omega)]
    · rw [if_neg h2, if_neg (by omega)]
theorem z_pr_dn {P : Int → Int} {lo hi m : Int} (h : z_pr P) : z_pr (p_dn P lo hi m) := by
  intro k; unfold p_dn; split
  · exact h _
  · exact h _
theorem z_pr_upp {P : Int → Int} {lo hi m : Int} (h : z_pr P) : z_pr (p_up P lo hi m) := by
  intro k; unfold p_up; split
  · exact h _
  · exact h _
theorem z_pr_blk {P : Int → Int} {lo hi : Int} (h : z_pr P) : z_pr (p_blk P lo hi) := by
  intro k; unfold p_blk; split
  · exact z_pr_blank _
  · exact h _
theorem p_hd_dn {P : Int → Int} {lo hi m : Int} (h : p_hd P) (hl : 0 ≤ lo) : p_hd (p_dn P lo hi m) := p_hd_congr h (fun k _ hk => if_neg (by omega)) (z_pr_dn (p_hd_pr h))
theorem p_hd_upp {P : Int → Int} {lo hi m : Int} (h : p_hd P) (hl : 0 ≤ lo) : p_hd (p_up P lo hi m) := p_hd_congr h (fun k _ hk => if_neg (by omega)) (z_pr_upp (p_hd_pr h))
theorem p_hd_blk {P : Int → Int} {lo hi : Int} (h : p_hd P) (hl : 0 ≤ lo) : p_hd (p_blk P lo hi) := p_hd_congr h (fun k _ hk => if_neg (by omega)) (z_pr_blk (p_hd_pr h))
def m_many (n : Int) (P : Int → Int) : Int := if n < P 3 - P 4 + 1 then n else P 3 - P 4 + 1
def p_insr (n : Int) (P : Int → Int) : Int → Int := z_v (p_blk (p_unw (p_dn (p_ahead P (P 4)) (24 + P 4 + m_many n P) (24 + P 3 + 1) (m_many n P)) (24 + P 3)) (24 + P 4) (24 + P 4 + m_many n P)) 6 0
def p_delr (n : Int) (P : Int → Int) : Int → Int := z_v (p_blk (p_up (p_unw (p_ahead P (P 4)) (24 + P 3)) (24 + P 4) (24 + P 3 + 1 - m_many n P) (m_many n P)) (24 + P 3 + 1 - m_many n P) (24 + P 3 + 1)) 6 0
theorem p_hd_insr {P : Int → Int} {n : Int} (h : p_hd P) (hn : 1 ≤ n) (hr : P 4 ≤ P 3) : p_hd (p_insr n P) := by
  obtain ⟨hw0, hw1, hh0, hh1, hf0, hf1, hf2, hr0, hr1, hc0, hc1, hp0, hp1, hk0, hk1, hi0, hi1, hkp, hP⟩ := id h
  have hm : 1 ≤ m_many n P ∧ m_many n P ≤ P 3 - P 4 + 1 := by unfold m_many; split <;> omega
  exact p_hd_6 (p_hd_blk (p_hd_unw (p_hd_dn (p_hd_ahead h) (by omega)) (by omega)) (by omega))
theorem p_hd_delr {P : Int → Int} {n : Int} (h : p_hd P) (hn : 1 ≤ n) (hr : P 4 ≤ P 3) : p_hd (p_delr n P) := by
  obtain ⟨hw0, hw1, hh0, hh1, hf0, hf1, hf2, hr0, hr1, hc0, hc1, hp0, hp1, hk0, hk1, hi0, hi1, hkp, hP⟩ := id h
  have hm : 1 ≤ m_many n P ∧ m_many n P ≤ P 3 - P 4 + 1 := by unfold m_many; split <;> omega
  exact p_hd_6 (p_hd_blk (p_hd_upp (p_hd_unw (p_hd_ahead h) (by omega)) (by omega)) (by omega))
