theorem y_rcl_b2 {W : Int} (hW : 4 ≤ W) : ∀ (l : List Int) (p : Int × Int), 0 ≤ p.2 → p.2 ≤ W → 0 ≤ (y_rcl W l p).2 ∧ (y_rcl W l p).2 ≤ W := by
  intro l
  induction l with
  | nil => intro p h0 h1; exact ⟨h0, h1⟩
  | cons a l ih =>
    intro p h0 h1
    have hs := p_sz_b a
    refine ih (if W < p.2 + p_sz a then (p.1 + 1, p_sz a) else (p.1, p.2 + p_sz a)) ?_ ?_
    · split <;> dsimp only <;> omega
    · split <;> dsimp only <;> omega
theorem y_at_b {W : Int} (hW : 4 ≤ W) : ∀ (l : List Int) (k : Nat) (p : Int × Int), k < l.length → 0 ≤ p.2 → p.2 ≤ W → (p.1 ≤ (y_at W l k p).1 ∧ (y_at W l k p).1 ≤ p.1 + l.length) ∧ (0 ≤ (y_at W l k p).2 ∧ (y_at W l k p).2 < W) := by
  intro l
  induction l with
  | nil => intro k p h; exact absurd h (Nat.not_lt_zero _)
  | cons a l ih =>
    intro k p h h0 h1
    have hs := p_sz_b a
    rw [List.length_cons] at h ⊢
    cases k with
    | zero =>
      show (p.1 ≤ (if W < p.2 + p_sz a then (p.1 + 1, (0 : Int)) else p).1 ∧ (if W < p.2 + p_sz a then (p.1 + 1, (0 : Int)) else p).1 ≤ p.1 + ((l.length + 1 : Nat) : Int)) ∧ (0 ≤ (if W < p.2 + p_sz a then (p.1 + 1, (0 : Int)) else p).2 ∧ (if W < p.2 + p_sz a then (p.1 + 1, (0 : Int)) else p).2 < W)
      split
      · dsimp only; omega
      · omega
    | succ k =>
      have e : p.1 ≤ (if W < p.2 + p_sz a then (p.1 + 1, p_sz a) else (p.1, p.2 + p_sz a)).1 ∧ (if W < p.2 + p_sz a then (p.1 + 1, p_sz a) else (p.1, p.2 + p_sz a)).1 ≤ p.1 + 1 ∧ 0 ≤ (if W < p.2 + p_sz a then (p.1 + 1, p_sz a) else (p.1, p.2 + p_sz a)).2 ∧ (if W < p.2 + p_sz a then (p.1 + 1, p_sz a) else (p.1, p.2 + p_sz a)).2 ≤ W := by
        split <;> dsimp only <;> omega
      have h2 := ih k (if W < p.2 + p_sz a then (p.1 + 1, p_sz a) else (p.1, p.2 + p_sz a)) (by omega) e.2.2.1 e.2.2.2
      show (p.1 ≤ (y_at W l k (if W < p.2 + p_sz a then (p.1 + 1, p_sz a) else (p.1, p.2 + p_sz a))).1 ∧ (y_at W l k (if W < p.2 + p_sz a then (p.1 + 1, p_sz a) else (p.1, p.2 + p_sz a))).1 ≤ p.1 + ((l.length + 1 : Nat) : Int)) ∧ (0 ≤ (y_at W l k (if W < p.2 + p_sz a then (p.1 + 1, p_sz a) else (p.1, p.2 + p_sz a))).2 ∧ (y_at W l k (if W < p.2 + p_sz a then (p.1 + 1, p_sz a) else (p.1, p.2 + p_sz a))).2 < W)
      omega
/-- what the reading up to a mark tells -/
theorem f_ru {w mk x b : Int} {l : List Int} {G : Int → Int} (hw : 4 ≤ w) (h0 : 0 ≤ mk) (hl : l.length ≤ 640) (h : (mk < l.length ∧ x = 1 ∧ l[mk.toNat]? = some (G 6) ∧ y_at w l mk.toNat (0, 0) = (G 8, G 9)) ∨ ((l.length : Int) ≤ mk ∧ x = 0 ∧ y_rcl w l (0, 0) = (G 8, G 10) ∧ G 7 = l.length)) :
    f_U w b mk l = b + G 8 ∧ (0 ≤ G 8 ∧ G 8 ≤ 640) ∧ ((x = 1 ∧ f_V w mk l = G 9 ∧ f_B w mk l = 0 ∧ 0 ≤ G 9 ∧ G 9 < w) ∨ (x = 0 ∧ f_V w mk l = (if G 10 + mk - G 7 < w then G 10 + mk - G 7 else w - 1) ∧ f_B w mk l = (if mk = G 7 ∧ 0 < G 7 ∧ G 10 = w then 1 else 0) ∧ 0 ≤ G 10 ∧ G 10 ≤ w ∧ 0 ≤ G 7 ∧ G 7 ≤ 640 ∧ G 7 ≤ mk)) := by
  unfold f_U f_V f_B
  rcases h with ⟨h1, h2, h3, h4⟩ | ⟨h1, h2, h3, h4⟩
  · have hb := y_at_b hw l mk.toNat (0, 0) (by omega) (Int.le_refl _) (show (0 : Int) ≤ w by omega)
    rw [h4] at hb
    simp only [if_pos h1, h4]
    dsimp only at hb
    refine ⟨trivial, by omega, Or.inl ⟨h2, trivial, ?_, by omega, by omega⟩⟩
    rw [if_neg (by omega)]
  · have hb := y_rcl_b w l (0, 0)
    have hb2 := y_rcl_b2 hw l (0, 0) (Int.le_refl _) (show (0 : Int) ≤ w by omega)
    rw [h3] at hb hb2
    have hn : ¬ mk < l.length := by omega
    simp only [if_neg hn, h3, h4]
    dsimp only at hb hb2
    refine ⟨trivial, by omega, Or.inr ⟨h2, trivial, ?_, by omega, by omega, by omega, by omega, by omega⟩⟩
    by_cases q : mk = l.length ∧ 0 < l.length ∧ G 10 = w
    · rw [if_pos q, if_pos ⟨q.1, by omega, q.2.2⟩]
    · rw [if_neg q, if_neg (fun x => q ⟨x.1, by omega, x.2.2⟩)]
