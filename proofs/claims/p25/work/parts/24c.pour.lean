/-! the pouring, sign by sign: fields and fresh rows -/
def x_ok (w : Int) (p : (Int → Int) × (Int → Int)) : Prop := p.1 8 = w ∧ p.1 10 = 1 ∧ (0 ≤ p.1 12 ∧ p.1 12 ≤ w) ∧ x_fresh p.2 (p.1 11 - p.1 9) (p.1 12) ∧ ∀ k, 0 ≤ k → k < p.1 11 - p.1 9 → k < 32 → gg_r w (x_row p.2 k)
section ZPO
variable {w a i0 : Int} {p : (Int → Int) × (Int → Int)} {F X : Int → Int} {l c : List Int}
/-- the rows behind a sign -/
theorem x_X_at (hw : 4 ≤ w ∧ w ≤ 20) (h : x_ok w p) {k j : Int} (k0 : 0 ≤ k) (j0 : 0 ≤ j) (j1 : j < 22) :
    x_row (y_X a p.1 p.2) k j = if k = y_F a p.1 11 - p.1 9 ∧ j = y_F a p.1 12 then a else if (k = y_F a p.1 11 - p.1 9 ∧ j = y_F a p.1 12 + 1) ∧ 65 ≤ a ∧ a ≤ 90 then a + 128
      else if w < p.1 12 + p_sz a ∧ k = p.1 11 - p.1 9 then z_v (z_v (x_row p.2 k) 20 1) 21 (if p.1 12 < w then 1 else 0) j else x_row p.2 k j := by
  obtain ⟨h8, h10, ⟨c0, c1⟩, hf, hg⟩ := h
  have hs := p_sz_b a
  have e10 : y_F a p.1 10 = 1 := (y_F_c a p.1 (by decide) (by decide)).trans h10
  have e9 : y_F a p.1 9 = p.1 9 := y_F_c a p.1 (by decide) (by decide)
  have e12 : 0 ≤ y_F a p.1 12 ∧ y_F a p.1 12 + p_sz a ≤ 20 := by
    unfold y_F
    by_cases q : p.1 8 < p.1 12 + p_sz a
    · rw [if_pos q, z_vs]; omega
    · rw [if_neg q]; omega
  unfold y_X
  rw [x_X2 e10 e12.1 e12.2 j0 j1 k0, e9, x_X1 h10 j0 j1 k0, h8]
theorem x_ok_step (hw : 4 ≤ w ∧ w ≤ 20) (h : x_ok w p) : x_ok w (y_adv a p.1, y_X a p.1 p.2) := by
  have hat := fun k j k0 j0 j1 => x_X_at (a := a) hw h (k := k) (j := j) k0 j0 j1
  obtain ⟨h8, h10, ⟨c0, c1⟩, hf, hg⟩ := h
  have hs := p_sz_b a
  have e8 : y_adv a p.1 8 = w := (y_adv_c a p.1 (by decide) (by decide)).trans h8
  have e10 : y_adv a p.1 10 = 1 := (y_adv_c a p.1 (by decide) (by decide)).trans h10
  have e9 : y_adv a p.1 9 = p.1 9 := y_adv_c a p.1 (by decide) (by decide)
  have f9 : y_F a p.1 9 = p.1 9 := y_F_c a p.1 (by decide) (by decide)
  have f10 : y_F a p.1 10 = 1 := (y_F_c a p.1 (by decide) (by decide)).trans h10
  have e11 : y_adv a p.1 11 = y_F a p.1 11 := y_adv_r a p.1
  have e12 : y_adv a p.1 12 = y_F a p.1 12 + p_sz a := y_adv_w a p.1
  have f12 : 0 ≤ y_F a p.1 12 ∧ y_F a p.1 12 + p_sz a ≤ w := by
    unfold y_F
    by_cases q : p.1 8 < p.1 12 + p_sz a
    · rw [if_pos q, z_vs]; omega
    · rw [if_neg q]; omega
  have g1 := x_fresh_X1 (a := a) h10 hf (by omega) (by omega) (by omega)
  have g2 := x_fresh_X2 (a := a) f10 g1 f12.1 (by omega)
  refine ⟨e8, e10, ⟨?_, ?_⟩, ?_, ?_⟩
  · show 0 ≤ y_adv a p.1 12; omega
  · show y_adv a p.1 12 ≤ w; omega
  · show x_fresh (y_X a p.1 p.2) (y_adv a p.1 11 - y_adv a p.1 9) (y_adv a p.1 12)
    rw [e11, e9, e12, ← f9]; exact g2
  · intro k k0 k1 k2
    have k1 : k < y_adv a p.1 11 - y_adv a p.1 9 := k1
    rw [e11, e9] at k1
    show gg_r w (x_row (y_X a p.1 p.2) k)
    have hn : ¬ k = y_F a p.1 11 - p.1 9 := by omega
    by_cases q : w < p.1 12 + p_sz a
    · have f11 : y_F a p.1 11 = p.1 11 + 1 := by unfold y_F; rw [if_pos (by omega), z_vn (by decide), z_vs]
      by_cases q2 : k = p.1 11 - p.1 9
      · refine gg_c22 (r := z_v (z_v (x_row p.2 k) 20 1) 21 (if p.1 12 < w then 1 else 0)) ?_ (by omega) (fun j j0 j1 => by rw [hat k j k0 j0 j1, if_neg (fun x => hn x.1), if_neg (fun x => hn x.1.1), if_pos ⟨q, q2⟩])
        intro h21
        rw [z_vs] at h21
        by_cases q3 : p.1 12 < w
        · refine ⟨by rw [z_vn (by decide), z_vs], ?_⟩
          rw [z_vn (by omega), z_vn (by omega), q2, hf.2 (by omega) (by omega) (w - 1) (by omega) (by omega) (by omega), r_blank_x, if_neg (by omega)]
        · rw [if_neg q3] at h21; exact absurd h21 (by decide)
      · exact gg_c22 (hg k k0 (by omega) k2) (by omega) (fun j j0 j1 => by rw [hat k j k0 j0 j1, if_neg (fun x => hn x.1), if_neg (fun x => hn x.1.1), if_neg (fun x => q2 x.2)])
    · have f11 : y_F a p.1 11 = p.1 11 := by unfold y_F; rw [if_neg (by omega)]
      exact gg_c22 (hg k k0 (by omega) k2) (by omega) (fun j j0 j1 => by rw [hat k j k0 j0 j1, if_neg (fun x => hn x.1), if_neg (fun x => hn x.1.1), if_neg (fun x => q x.1)])
theorem x_ok_px (hw : 4 ≤ w ∧ w ≤ 20) : ∀ (l : List Int) (p : (Int → Int) × (Int → Int)), x_ok w p → x_ok w (y_px l p) := by
  intro l
  induction l with
  | nil => intro p h; exact h
  | cons a l ih => intro p h; exact ih _ (x_ok_step hw h)
/-- between two lines -/
def x_lb (w : Int) (p : (Int → Int) × (Int → Int)) : Prop := p.1 8 = w ∧ p.1 10 = 1 ∧ x_fresh p.2 (p.1 11 - p.1 9) 0 ∧ (∀ k, 0 ≤ k → k < p.1 11 - p.1 9 → k < 32 → gg_r w (x_row p.2 k)) ∧ (0 ≤ p.1 11 - p.1 9 - 1 → p.1 11 - p.1 9 - 1 < 32 → x_row p.2 (p.1 11 - p.1 9 - 1) 20 = 0)
theorem x_lb_ok (hw : 4 ≤ w ∧ w ≤ 20) (h : x_lb w p) : x_ok w (z_v p.1 12 0, p.2) := by
  obtain ⟨h8, h10, hf, hg, -⟩ := h
  have e8 : z_v p.1 12 0 8 = p.1 8 := z_vn (by decide)
  have e10 : z_v p.1 12 0 10 = p.1 10 := z_vn (by decide)
  have e9 : z_v p.1 12 0 9 = p.1 9 := z_vn (by decide)
  have e11 : z_v p.1 12 0 11 = p.1 11 := z_vn (by decide)
  have e12 : z_v p.1 12 0 12 = 0 := z_vs _ _ _
  unfold x_ok
  dsimp only
  rw [e8, e10, e9, e11, e12]
  exact ⟨h8, h10, ⟨Int.le_refl _, by omega⟩, hf, hg⟩
theorem x_lb_ln (hw : 4 ≤ w ∧ w ≤ 20) (h : x_lb w p) : x_lb w (y_ln l p) := by
  have h1 := x_ok_px hw l _ (x_lb_ok hw h)
  unfold y_ln
  generalize y_px l (z_v p.1 12 0, p.2) = q at h1 ⊢
  obtain ⟨h8, h10, ⟨c0, c1⟩, hf, hg⟩ := h1
  have e8 : z_v q.1 11 (q.1 11 + 1) 8 = q.1 8 := z_vn (by decide)
  have e10 : z_v q.1 11 (q.1 11 + 1) 10 = q.1 10 := z_vn (by decide)
  have e9 : z_v q.1 11 (q.1 11 + 1) 9 = q.1 9 := z_vn (by decide)
  have e11 : z_v q.1 11 (q.1 11 + 1) 11 = q.1 11 + 1 := z_vs _ _ _
  unfold x_lb
  dsimp only
  rw [e8, e10, e9, e11, show q.1 11 + 1 - q.1 9 = (q.1 11 - q.1 9) + 1 by omega]
  refine ⟨h8, h10, x_fresh_up hf, fun k k0 k1 k2 => ?_, fun k0 k1 => ?_⟩
  · by_cases e : k = q.1 11 - q.1 9
    · refine gg_0 ?_
      rw [e, hf.2 (by omega) (by omega) 21 (by omega) (by decide) (by decide)]; rfl
    · exact hg k k0 (by omega) k2
  · rw [show q.1 11 - q.1 9 + 1 - 1 = q.1 11 - q.1 9 by omega] at k0 k1 ⊢
    rw [hf.2 k0 k1 20 (by omega) (by decide) (by decide)]; rfl
theorem x_lb_bx {P X : Int → Int} {n : Int} (hw : 4 ≤ w ∧ w ≤ 20) (h8 : F 8 = w) (h10 : F 10 = 1) (h9 : 0 ≤ F 9) : ∀ r : Nat, x_lb w (y_bx P w n F (y_fr X 704) r) := by
  intro r
  induction r with
  | zero =>
    show x_lb w (z_v F 11 0, y_fr X 704)
    have e8 : z_v F 11 0 8 = F 8 := z_vn (by decide)
    have e10 : z_v F 11 0 10 = F 10 := z_vn (by decide)
    have e9 : z_v F 11 0 9 = F 9 := z_vn (by decide)
    have e11 : z_v F 11 0 11 = 0 := z_vs _ _ _
    unfold x_lb
    dsimp only
    rw [e8, e10, e9, e11]
    exact ⟨h8, h10, x_fr_fresh X _, fun k k0 k1 => absurd k1 (by omega), fun k0 => absurd k0 (by omega)⟩
  | succ r ih =>
    show x_lb w (if m_ends P n (r : Nat) then y_ln _ _ else _)
    split
    · exact x_lb_ln hw ih
    · exact ih
end ZPO
