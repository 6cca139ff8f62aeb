/-! the page's row r and the class's row (marks F, cells X): a right half is the other way round below zero -/
def c_en (v : Int) : Int := if 128 ≤ v then 128 - v else v
def c_rw (W : Int) (r F X : Int → Int) : Prop := (∀ c, 0 ≤ c → c < W → X c = c_en (r c)) ∧ (∀ c, W ≤ c → c < 20 → X c = 32) ∧ F 1 = r 20 ∧ F 2 = r 21
/-- halves stand in pairs -/
def c_wf (W : Int) (r : Int → Int) : Prop := (∀ c, 0 ≤ c → c < W → (32 ≤ r c ∧ r c ≤ 126 ∧ (65 ≤ r c → r c ≤ 90 → c + 1 < W ∧ r (c + 1) = r c + 128)) ∨ (193 ≤ r c ∧ r c ≤ 218 ∧ 1 ≤ c ∧ r (c - 1) = r c - 128)) ∧ (r 20 = 0 ∨ r 20 = 1) ∧ (r 21 = 0 ∨ r 21 = 1)
theorem c_rw_at {W : Int} {r F X : Int → Int} (h : c_rw W r F X) (hW : W ≤ 20) {c : Int} : c_at X c = if 0 ≤ c ∧ c < W then c_en (r c) else 32 := by
  obtain ⟨h1, h2, h3, h4⟩ := h
  unfold c_at
  by_cases g : 0 ≤ c ∧ c < W
  · rw [if_pos g, if_pos (by omega), h1 c g.1 g.2]
  · rw [if_neg g]
    by_cases q : 0 ≤ c ∧ c < 20
    · rw [if_pos q, h2 c (by omega) q.2]
    · rw [if_neg q]
theorem c_tak_eq {W : Int} {r F X : Int → Int} (h : c_rw W r F X) (h0 : 0 ≤ W) (hW : W ≤ 20) : c_tak X 20 = n_cnt (fun c => r c ≠ 32) W.toNat := by
  obtain ⟨h1, h2, h3, h4⟩ := h
  unfold c_tak
  rw [n_cnt_add (p := fun c => X c ≠ 32) h0 hW (fun j g0 g1 => by rw [h2 j g0 g1]; simp)]
  refine n_cnt_c (fun k g0 g1 => ?_)
  have e := h1 k g0 (by omega)
  unfold c_en at e
  show X k ≠ 32 ↔ r k ≠ 32
  split at e <;> omega
theorem n_used_add {X : Int → Int} {a : Int} (h0 : 0 ≤ a) : ∀ (d : Nat), (∀ j : Int, a ≤ j → j < a + d → X j = 32) → n_used X (a + d).toNat = n_used X a.toNat := by
  intro d
  induction d with
  | zero => intro _; rw [show a + ((0 : Nat) : Int) = a by omega]
  | succ d ih =>
    intro h
    rw [n_used_z (n := a + ((d + 1 : Nat) : Int)) (by omega) (h _ (by omega) (by omega)), show a + ((d + 1 : Nat) : Int) - 1 = a + (d : Int) by omega]
    exact ih (fun j g0 g1 => h j g0 (by omega))
theorem n_used_iff {X r : Int → Int} {n : Nat} (h : ∀ k : Int, 0 ≤ k → k < n → (X k = 32 ↔ r k = 32)) : n_used X n = n_used r n := by
  induction n with
  | zero => rfl
  | succ n ih =>
    show (if X (n : Nat) = 32 then n_used X n else _) = (if r (n : Nat) = 32 then n_used r n else _)
    have hn := h n (by omega) (by omega)
    rw [ih (fun k g0 g1 => h k g0 (by omega))]
    by_cases g : X (n : Nat) = 32
    · rw [if_pos g, if_pos (hn.1 g)]
    · rw [if_neg g, if_neg (fun q => g (hn.2 q))]
theorem c_fil_eq {W : Int} {r F X : Int → Int} (h : c_rw W r F X) (h0 : 0 ≤ W) (hW : W ≤ 20) : c_fil X = n_used r W.toNat := by
  obtain ⟨h1, h2, h3, h4⟩ := h
  have e := n_used_add (X := X) h0 (20 - W).toNat (fun j g0 g1 => h2 j g0 (by omega))
  rw [show (W + ((20 - W).toNat : Int)).toNat = 20 by omega] at e
  unfold c_fil
  rw [e]
  refine n_used_iff (fun k g0 g1 => ?_)
  have e := h1 k g0 (by omega)
  unfold c_en at e
  split at e <;> omega
theorem c_sgs_eq {W : Int} {r F X : Int → Int} (h : c_rw W r F X) (hw : c_wf W r) (h0 : 0 ≤ W) (hW : W ≤ 20) : c_sgs X 20 = n_cnt (fun c => r c ≠ 32 ∧ ¬ 128 ≤ r c) W.toNat := by
  obtain ⟨h1, h2, h3, h4⟩ := h
  unfold c_sgs
  rw [n_cnt_add (p := fun c => 33 ≤ X c) h0 hW (fun j g0 g1 => by rw [h2 j g0 g1]; decide)]
  refine n_cnt_c (fun k g0 g1 => ?_)
  have e := h1 k g0 (by omega)
  have w := hw.1 k g0 (by omega)
  unfold c_en at e
  show 33 ≤ X k ↔ r k ≠ 32 ∧ ¬ 128 ≤ r k
  split at e <;> omega
theorem c_sb_eq {W t : Int} {r F X : Int → Int} (h : c_rw W r F X) (hw : c_wf W r) (h0 : 0 ≤ t) (hW : t ≤ W) : c_sb X t = n_cnt (fun c => ¬ 128 ≤ r c) t.toNat := by
  obtain ⟨h1, h2, h3, h4⟩ := h
  unfold c_sb
  refine n_cnt_c (fun k g0 g1 => ?_)
  have e := h1 k g0 (by omega)
  have w := hw.1 k g0 (by omega)
  unfold c_en at e
  show 32 ≤ X k ↔ ¬ 128 ≤ r k
  split at e <;> omega
/-- where a right half stands -/
theorem c_wf_neg {W c : Int} {r F X : Int → Int} (h : c_rw W r F X) (hw : c_wf W r) (hW : W ≤ 20) : c_at X c < 0 ↔ 0 ≤ c ∧ c < W ∧ 128 ≤ r c := by
  rw [c_rw_at h hW]
  by_cases g : 0 ≤ c ∧ c < W
  · rw [if_pos g]
    have w := hw.1 c g.1 g.2
    unfold c_en; split <;> omega
  · rw [if_neg g]; omega
theorem c_wf_left {W c : Int} {r : Int → Int} (hw : c_wf W r) (h0 : 0 ≤ c) (h1 : c < W) : (65 ≤ r c ∧ r c ≤ 90) ↔ (c + 1 < W ∧ 128 ≤ r (c + 1)) := by
  have w := hw.1 c h0 h1
  constructor
  · intro g
    rcases w with w | w
    · have := w.2.2 g.1 g.2; omega
    · omega
  · intro g
    have w2 := hw.1 (c + 1) (by omega) g.1
    rw [show c + 1 - 1 = c by omega] at w2
    omega
theorem c_er_rw {W a b : Int} {r F X : Int → Int} (h : c_rw W r F X) (hw : c_wf W r) (hW : W ≤ 20) (h0 : 0 ≤ a) (h1 : a ≤ b) (h2 : b < W) : c_rw W (r_erase W a b r) (c_erF X F b W) (c_er X a b) := by
  have ha := c_wf_neg (c := a) h hw hW
  have hb := c_wf_neg (c := b + 1) h hw hW
  have hl := c_wf_left hw (c := b) (by omega) h2
  have hwa := hw.1 a h0 (by omega)
  obtain ⟨g1, g2, g3, g4⟩ := h
  have e0 : c_e0 X a = if 128 ≤ r a then a - 1 else a := by unfold c_e0; by_cases q : 128 ≤ r a <;> grind
  have e1 : c_e1 X b = if b + 1 < W ∧ 128 ≤ r (b + 1) then b + 1 else b := by unfold c_e1; grind
  have f1 : ∀ j, r_free1 W a r j = if 128 ≤ r a ∧ j = a - 1 then 32 else r j := by
    intro j; unfold r_free1
    by_cases q : 128 ≤ r a
    · rw [if_pos (show 0 < a ∧ 128 ≤ r a by omega)]
      show (if j = a - 1 then 32 else if (j = 20 ∨ j = 21) ∧ a - 1 = W - 1 then 0 else r j) = _
      by_cases q2 : j = a - 1
      · rw [if_pos q2, if_pos ⟨q, q2⟩]
      · rw [if_neg q2, if_neg (by omega), if_neg (fun x => q2 x.2)]
    · rw [if_neg (fun x => q x.2), if_neg (fun x => q x.1)]
  have f2 : ∀ j, j < 20 → r_erase W a b r j = if a ≤ j ∧ j ≤ b then 32 else if (b + 1 < W ∧ 128 ≤ r (b + 1)) ∧ j = b + 1 then 32 else if 128 ≤ r a ∧ j = a - 1 then 32 else r j := by
    intro j hj; unfold r_erase r_fill r_free r_free2; rw [f1 b]; unfold r_set
    by_cases q : a ≤ j ∧ j ≤ b
    · rw [if_pos q, if_pos q]
    · rw [if_neg q, if_neg q, if_neg (by omega)]
      by_cases q2 : b + 1 < W ∧ 128 ≤ r (b + 1)
      · have : b + 1 < W ∧ 65 ≤ (if 128 ≤ r a ∧ b = a - 1 then 32 else r b) ∧ (if 128 ≤ r a ∧ b = a - 1 then 32 else r b) ≤ 90 := by rw [if_neg (by omega)]; exact ⟨q2.1, hl.2 q2⟩
        rw [if_pos this]; show (if j = b + 1 then 32 else _) = _
        by_cases q3 : j = b + 1
        · rw [if_pos q3, if_pos ⟨q2, q3⟩]
        · rw [if_neg q3, if_neg (by omega), if_neg (fun x => q3 x.2), f1]
      · have : ¬ (b + 1 < W ∧ 65 ≤ (if 128 ≤ r a ∧ b = a - 1 then 32 else r b) ∧ (if 128 ≤ r a ∧ b = a - 1 then 32 else r b) ≤ 90) := by
          rw [if_neg (by omega)]; exact fun x => q2 (hl.1 x.2)
        rw [if_neg this, if_neg (fun x => q2 x.1), f1]
  have f3 : ∀ j, (j = 20 ∨ j = 21) → r_erase W a b r j = if b = W - 1 ∨ (b + 1 = W - 1 ∧ 128 ≤ r (b + 1)) then 0 else r j := by
    intro j hj; unfold r_erase r_fill r_free r_free2; rw [f1 b]; unfold r_set
    rw [if_neg (by omega)]
    by_cases q : b = W - 1
    · rw [if_pos (by omega), if_pos (Or.inl q)]
    · rw [if_neg (by omega)]
      by_cases q2 : b + 1 < W ∧ 128 ≤ r (b + 1)
      · have : b + 1 < W ∧ 65 ≤ (if 128 ≤ r a ∧ b = a - 1 then 32 else r b) ∧ (if 128 ≤ r a ∧ b = a - 1 then 32 else r b) ≤ 90 := by rw [if_neg (by omega)]; exact ⟨q2.1, hl.2 q2⟩
        rw [if_pos this]; show (if j = b + 1 then 32 else _) = _
        rw [if_neg (by omega)]
        by_cases q3 : b + 1 = W - 1
        · rw [if_pos ⟨hj, q3⟩, if_pos (by omega)]
        · rw [if_neg (fun x => q3 x.2), if_neg (by omega), f1, if_neg (by omega)]
      · have : ¬ (b + 1 < W ∧ 65 ≤ (if 128 ≤ r a ∧ b = a - 1 then 32 else r b) ∧ (if 128 ≤ r a ∧ b = a - 1 then 32 else r b) ≤ 90) := by
          rw [if_neg (by omega)]; exact fun x => q2 (hl.1 x.2)
        rw [if_neg this, if_neg (by omega), f1, if_neg (by omega)]
  refine ⟨fun c p0 p1 => ?_, fun c p0 p1 => ?_, ?_, ?_⟩
  · rw [f2 c (by omega)]
    have e := g1 c p0 p1
    unfold c_er c_era; rw [e0, e1]
    by_cases q : a ≤ c ∧ c ≤ b
    · rw [if_pos q, if_pos (by split <;> split <;> omega)]; rfl
    · rw [if_neg q]
      by_cases q2 : (b + 1 < W ∧ 128 ≤ r (b + 1)) ∧ c = b + 1
      · rw [if_pos q2, if_pos (by rw [if_pos q2.1]; split <;> omega)]; rfl
      · rw [if_neg q2]
        by_cases q3 : 128 ≤ r a ∧ c = a - 1
        · rw [if_pos q3, if_pos (by rw [if_pos q3.1]; split <;> omega)]; rfl
        · rw [if_neg q3, if_neg (by split <;> split <;> omega), e]
  · have e := g2 c p0 p1
    unfold c_er c_era; rw [e]; split <;> rfl
  · rw [f3 20 (Or.inl rfl), ← g3]
    unfold c_erF; rw [e1]
    by_cases q : b = W - 1 ∨ (b + 1 = W - 1 ∧ 128 ≤ r (b + 1))
    · rw [if_pos q, if_pos (by split <;> omega)]; rfl
    · rw [if_neg q, if_neg (by split <;> omega)]
  · rw [f3 21 (Or.inr rfl), ← g4]
    unfold c_erF; rw [e1]
    by_cases q : b = W - 1 ∨ (b + 1 = W - 1 ∧ 128 ≤ r (b + 1))
    · rw [if_pos q, if_pos (by split <;> omega)]; rfl
    · rw [if_neg q, if_neg (by split <;> omega)]
theorem c_wf_set {W c v : Int} {r : Int → Int} (h20 : r 20 = 0 ∨ r 20 = 1) (h21 : r 21 = 0 ∨ r 21 = 1) (hc : c < 20) : (r_set W c v r 20 = 0 ∨ r_set W c v r 20 = 1) ∧ (r_set W c v r 21 = 0 ∨ r_set W c v r 21 = 1) := by
  unfold r_set
  refine ⟨?_, ?_⟩
  · rw [if_neg (by omega)]; split
    · exact Or.inl rfl
    · exact h20
  · rw [if_neg (by omega)]; split
    · exact Or.inl rfl
    · exact h21
/-- the cells of an erased row -/
theorem r_erase_at {W a b : Int} {r : Int → Int} (hw : c_wf W r) (hW : W ≤ 20) (h0 : 0 ≤ a) (h1 : a ≤ b) (h2 : b < W) : (∀ j, j < 20 → r_erase W a b r j = if a ≤ j ∧ j ≤ b then 32 else if (b + 1 < W ∧ 128 ≤ r (b + 1)) ∧ j = b + 1 then 32 else if 128 ≤ r a ∧ j = a - 1 then 32 else r j) ∧ (∀ j, (j = 20 ∨ j = 21) → r_erase W a b r j = if b = W - 1 ∨ (b + 1 = W - 1 ∧ 128 ≤ r (b + 1)) then 0 else r j) := by
  have hl := c_wf_left hw (c := b) (by omega) h2
  have hwa := hw.1 a h0 (by omega)
  have f1 : ∀ j, r_free1 W a r j = if 128 ≤ r a ∧ j = a - 1 then 32 else r j := by
    intro j; unfold r_free1
    by_cases q : 128 ≤ r a
    · rw [if_pos (show 0 < a ∧ 128 ≤ r a by omega)]
      show (if j = a - 1 then 32 else if (j = 20 ∨ j = 21) ∧ a - 1 = W - 1 then 0 else r j) = _
      by_cases q2 : j = a - 1
      · rw [if_pos q2, if_pos ⟨q, q2⟩]
      · rw [if_neg q2, if_neg (by omega), if_neg (fun x => q2 x.2)]
    · rw [if_neg (fun x => q x.2), if_neg (fun x => q x.1)]
  refine ⟨fun j hj => ?_, fun j hj => ?_⟩
  · unfold r_erase r_fill r_free r_free2; rw [f1 b]; unfold r_set
    by_cases q : a ≤ j ∧ j ≤ b
    · rw [if_pos q, if_pos q]
    · rw [if_neg q, if_neg q, if_neg (by omega)]
      by_cases q2 : b + 1 < W ∧ 128 ≤ r (b + 1)
      · have : b + 1 < W ∧ 65 ≤ (if 128 ≤ r a ∧ b = a - 1 then 32 else r b) ∧ (if 128 ≤ r a ∧ b = a - 1 then 32 else r b) ≤ 90 := by rw [if_neg (by omega)]; exact ⟨q2.1, hl.2 q2⟩
        rw [if_pos this]; show (if j = b + 1 then 32 else _) = _
        by_cases q3 : j = b + 1
        · rw [if_pos q3, if_pos ⟨q2, q3⟩]
        · rw [if_neg q3, if_neg (by omega), if_neg (fun x => q3 x.2), f1]
      · have : ¬ (b + 1 < W ∧ 65 ≤ (if 128 ≤ r a ∧ b = a - 1 then 32 else r b) ∧ (if 128 ≤ r a ∧ b = a - 1 then 32 else r b) ≤ 90) := by
          rw [if_neg (by omega)]; exact fun x => q2 (hl.1 x.2)
        rw [if_neg this, if_neg (fun x => q2 x.1), f1]
  · unfold r_erase r_fill r_free r_free2; rw [f1 b]; unfold r_set
    rw [if_neg (by omega)]
    by_cases q : b = W - 1
    · rw [if_pos (by omega), if_pos (Or.inl q)]
    · rw [if_neg (by omega)]
      by_cases q2 : b + 1 < W ∧ 128 ≤ r (b + 1)
      · have : b + 1 < W ∧ 65 ≤ (if 128 ≤ r a ∧ b = a - 1 then 32 else r b) ∧ (if 128 ≤ r a ∧ b = a - 1 then 32 else r b) ≤ 90 := by rw [if_neg (by omega)]; exact ⟨q2.1, hl.2 q2⟩
        rw [if_pos this]; show (if j = b + 1 then 32 else _) = _
        rw [if_neg (by omega)]
        by_cases q3 : b + 1 = W - 1
        · rw [if_pos ⟨hj, q3⟩, if_pos (by omega)]
        · rw [if_neg (fun x => q3 x.2), if_neg (by omega), f1, if_neg (by omega)]
      · have : ¬ (b + 1 < W ∧ 65 ≤ (if 128 ≤ r a ∧ b = a - 1 then 32 else r b) ∧ (if 128 ≤ r a ∧ b = a - 1 then 32 else r b) ≤ 90) := by
          rw [if_neg (by omega)]; exact fun x => q2 (hl.1 x.2)
        rw [if_neg this, if_neg (by omega), f1, if_neg (by omega)]
theorem c_wf_erase {W a b : Int} {r : Int → Int} (hw : c_wf W r) (hW : W ≤ 20) (h0 : 0 ≤ a) (h1 : a ≤ b) (h2 : b < W) : c_wf W (r_erase W a b r) := by
  obtain ⟨f2, f3⟩ := r_erase_at hw hW h0 h1 h2
  have hl := c_wf_left hw (c := b) (by omega) h2
  have hwa := hw.1 a h0 (by omega)
  refine ⟨fun c p0 p1 => ?_, ?_, ?_⟩
  · have w := hw.1 c p0 p1
    rw [f2 c (by omega)]
    by_cases q : a ≤ c ∧ c ≤ b
    · rw [if_pos q]; exact Or.inl ⟨by decide, by decide, fun x => absurd x (by decide)⟩
    · rw [if_neg q]
      by_cases q2 : (b + 1 < W ∧ 128 ≤ r (b + 1)) ∧ c = b + 1
      · rw [if_pos q2]; exact Or.inl ⟨by decide, by decide, fun x => absurd x (by decide)⟩
      · rw [if_neg q2]
        by_cases q3 : 128 ≤ r a ∧ c = a - 1
        · rw [if_pos q3]; exact Or.inl ⟨by decide, by decide, fun x => absurd x (by decide)⟩
        · rw [if_neg q3]
          rcases w with w | w
          · refine Or.inl ⟨w.1, w.2.1, fun k0 k1 => ?_⟩
            have w3 := w.2.2 k0 k1
            refine ⟨w3.1, ?_⟩
            rw [f2 (c + 1) (by omega), if_neg ?_, if_neg ?_, if_neg ?_]
            · exact w3.2
            · intro x
              have e : c + 1 = a - 1 := x.2
              have w4 := w3.2
              rw [e] at w4
              omega
            · intro x; have : c = b := by omega
              exact q ⟨by omega, by omega⟩
            · intro x
              have ha : a = c + 1 := by omega
              have h128 : 128 ≤ r a := by rw [ha]; omega
              exact q3 ⟨h128, by omega⟩
          · refine Or.inr ⟨w.1, w.2.1, w.2.2.1, ?_⟩
            rw [f2 (c - 1) (by omega), if_neg ?_, if_neg ?_, if_neg ?_]
            · exact w.2.2.2
            · intro x; have hca : c = a := by omega
              exact q ⟨by omega, by omega⟩
            · intro x
              have e : c - 1 = b + 1 := x.2
              have := w.2.2.2
              rw [e] at this
              omega
            · intro x
              have e : c = b + 1 := by omega
              exact q2 ⟨⟨by omega, by rw [← e]; omega⟩, e⟩
  · rw [f3 20 (Or.inl rfl)]; split
    · exact Or.inl rfl
    · exact hw.2.1
  · rw [f3 21 (Or.inr rfl)]; split
    · exact Or.inl rfl
    · exact hw.2.2
