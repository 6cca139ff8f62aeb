/-! where a cursor goes: b the row at which its line begins, mk its mark, l the signs of its line -/
def f_U (w b mk : Int) (l : List Int) : Int := b + (if mk < l.length then (y_at w l mk.toNat (0, 0)).1 else (y_rcl w l (0, 0)).1)
def f_V (w mk : Int) (l : List Int) : Int := if mk < l.length then (y_at w l mk.toNat (0, 0)).2 else if (y_rcl w l (0, 0)).2 + mk - l.length < w then (y_rcl w l (0, 0)).2 + mk - l.length else w - 1
def f_B (w mk : Int) (l : List Int) : Int := if mk = l.length ∧ 0 < l.length ∧ (y_rcl w l (0, 0)).2 = w then 1 else 0
theorem y_at_sh (W d : Int) : ∀ (l : List Int) (k : Nat) (p : Int × Int), k < l.length → y_at W l k (p.1 + d, p.2) = ((y_at W l k p).1 + d, (y_at W l k p).2) := by
  intro l
  induction l with
  | nil => intro k p h; exact absurd h (Nat.not_lt_zero _)
  | cons a l ih =>
    intro k p h
    cases k with
    | zero =>
      show (if W < p.2 + p_sz a then (p.1 + d + 1, (0 : Int)) else (p.1 + d, p.2)) = ((if W < p.2 + p_sz a then (p.1 + 1, (0 : Int)) else p).1 + d, (if W < p.2 + p_sz a then (p.1 + 1, (0 : Int)) else p).2)
      split
      · dsimp only; congr 1; omega
      · rfl
    | succ k =>
      have h2 := ih k (if W < p.2 + p_sz a then (p.1 + 1, p_sz a) else (p.1, p.2 + p_sz a)) (by rw [List.length_cons] at h; omega)
      show y_at W l k (if W < p.2 + p_sz a then (p.1 + d + 1, p_sz a) else (p.1 + d, p.2 + p_sz a)) = ((y_at W l k (if W < p.2 + p_sz a then (p.1 + 1, p_sz a) else (p.1, p.2 + p_sz a))).1 + d, (y_at W l k (if W < p.2 + p_sz a then (p.1 + 1, p_sz a) else (p.1, p.2 + p_sz a))).2)
      rw [← h2]
      congr 1
      split
      · dsimp only; congr 1; omega
      · rfl
theorem y_at_0 {W r : Int} {l : List Int} {k : Nat} (h : k < l.length) : y_at W l k (r, 0) = ((y_at W l k (0, 0)).1 + r, (y_at W l k (0, 0)).2) := by
  have h2 := y_at_sh W r l k (0, 0) h
  dsimp only at h2
  rw [Int.zero_add] at h2
  exact h2
theorem y_F_at (W a : Int) (F : Int → Int) (l : List Int) (h : F 8 = W) : (y_F a F 11, y_F a F 12) = y_at W (a :: l) 0 (F 11, F 12) := by
  show _ = (if W < F 12 + p_sz a then (F 11 + 1, (0 : Int)) else (F 11, F 12))
  unfold y_F
  rw [h]; split
  · rw [z_vn (by decide), z_vs, z_vs]
  · rfl
/-- the cursors of a line, when it is poured -/
theorem y_rest_uvb {L M : Int → Int} {line W : Int} {j : Int} (j0 : 0 ≤ j) (j1 : j < 4) (hL : L j = line) : ∀ (l : List Int) (k : Int) (s : y_S), s.1 8 = W →
    (y_rest L M line k l s).2.2.1 j = (if M j < k then s.2.2.1 j else if M j < k + l.length then (y_at W l (M j - k).toNat (s.1 11, s.1 12)).1 else (y_rcl W l (s.1 11, s.1 12)).1)
    ∧ (y_rest L M line k l s).2.2.2.1 j = (if M j < k then s.2.2.2.1 j else if M j < k + l.length then (y_at W l (M j - k).toNat (s.1 11, s.1 12)).2 else if (y_rcl W l (s.1 11, s.1 12)).2 + M j - (k + l.length) < W then (y_rcl W l (s.1 11, s.1 12)).2 + M j - (k + l.length) else W - 1)
    ∧ (y_rest L M line k l s).2.2.2.2 j = (if M j < k + l.length then s.2.2.2.2 j else if 0 < k + (l.length : Int) ∧ M j = k + l.length ∧ (y_rcl W l (s.1 11, s.1 12)).2 = W then 1 else 0) := by
  intro l
  induction l with
  | nil =>
    intro k s hs
    have e0 : ((([] : List Int).length : Nat) : Int) = 0 := rfl
    rw [e0, Int.add_zero]
    refine ⟨?_, ?_, ?_⟩
    · show y_en L M line k (fun _ => s.1 11) s.2.2.1 4 j = if M j < k then s.2.2.1 j else if M j < k then (s.1 11, s.1 12).1 else (s.1 11, s.1 12).1
      unfold y_en
      by_cases q : M j < k
      · rw [if_pos q, if_neg (by omega)]
      · rw [if_neg q, if_neg q, if_pos ⟨⟨j0, j1⟩, hL, by omega⟩]
    · show y_en L M line k (y_ec s.1 M k) s.2.2.2.1 4 j = if M j < k then s.2.2.2.1 j else if M j < k then (s.1 11, s.1 12).2 else if s.1 12 + M j - k < W then s.1 12 + M j - k else W - 1
      unfold y_en y_ec
      by_cases q : M j < k
      · rw [if_pos q, if_neg (by omega)]
      · rw [if_neg q, if_neg q, if_pos ⟨⟨j0, j1⟩, hL, by omega⟩, hs]
    · show y_en L M line k (y_ef s.1 M k) s.2.2.2.2 4 j = if M j < k then s.2.2.2.2 j else if 0 < k ∧ M j = k ∧ s.1 12 = W then 1 else 0
      unfold y_en y_ef
      by_cases q : M j < k
      · rw [if_pos q, if_neg (by omega)]
      · rw [if_neg q, if_pos ⟨⟨j0, j1⟩, hL, by omega⟩, hs]
  | cons a l ih =>
    intro k s hs
    have hF := y_F_at W a s.1 l hs
    have hp : ((y_sign L M line k a s).1 11, (y_sign L M line k a s).1 12) = (if W < s.1 12 + p_sz a then (s.1 11 + 1, p_sz a) else (s.1 11, s.1 12 + p_sz a)) := by
      have := y_adv_p a s.1
      rw [hs] at this; exact this
    have h := ih (k + 1) (y_sign L M line k a s) ((y_adv_c a s.1 (by decide) (by decide)).trans hs)
    rw [hp] at h
    have hlen : (((a :: l).length : Nat) : Int) = l.length + 1 := by rw [List.length_cons]; omega
    have hU : (y_sign L M line k a s).2.2.1 j = if M j = k then y_F a s.1 11 else s.2.2.1 j := by
      show y_mt L M line k (y_F a s.1 11) s.2.2.1 4 j = _
      unfold y_mt
      by_cases q : M j = k
      · rw [if_pos q, if_pos ⟨⟨j0, j1⟩, hL, q⟩]
      · rw [if_neg q, if_neg (fun x => q x.2.2)]
    have hV : (y_sign L M line k a s).2.2.2.1 j = if M j = k then y_F a s.1 12 else s.2.2.2.1 j := by
      show y_mt L M line k (y_F a s.1 12) s.2.2.2.1 4 j = _
      unfold y_mt
      by_cases q : M j = k
      · rw [if_pos q, if_pos ⟨⟨j0, j1⟩, hL, q⟩]
      · rw [if_neg q, if_neg (fun x => q x.2.2)]
    have hB : (y_sign L M line k a s).2.2.2.2 j = s.2.2.2.2 j := rfl
    rw [hU, hV, hB] at h
    have hr : y_rest L M line k (a :: l) s = y_rest L M line (k + 1) l (y_sign L M line k a s) := rfl
    have hc : y_rcl W (a :: l) (s.1 11, s.1 12) = y_rcl W l (if W < s.1 12 + p_sz a then (s.1 11 + 1, p_sz a) else (s.1 11, s.1 12 + p_sz a)) := rfl
    rw [hr, hc, hlen, h.1, h.2.1, h.2.2, show k + 1 + (l.length : Int) = k + (l.length + 1) by omega]
    have hl0 : 0 ≤ (l.length : Int) := Int.natCast_nonneg _
    refine ⟨?_, ?_, rfl⟩
    · by_cases q : M j < k
      · rw [if_pos (by omega), if_neg (by omega), if_pos q]
      · rw [if_neg q]
        by_cases q2 : M j = k
        · rw [if_pos (show M j < k + 1 by omega), if_pos q2, if_pos (by omega), show (M j - k).toNat = 0 by omega, ← hF]
        · rw [if_neg (show ¬ M j < k + 1 by omega)]
          by_cases q3 : M j < k + (l.length + 1)
          · rw [if_pos q3, if_pos q3, show (M j - k).toNat = (M j - (k + 1)).toNat + 1 by omega]; rfl
          · rw [if_neg q3, if_neg q3]
    · by_cases q : M j < k
      · rw [if_pos (by omega), if_neg (by omega), if_pos q]
      · rw [if_neg q]
        by_cases q2 : M j = k
        · rw [if_pos (show M j < k + 1 by omega), if_pos q2, if_pos (by omega), show (M j - k).toNat = 0 by omega, ← hF]
        · rw [if_neg (show ¬ M j < k + 1 by omega)]
          by_cases q3 : M j < k + (l.length + 1)
          · rw [if_pos q3, if_pos q3, show (M j - k).toNat = (M j - (k + 1)).toNat + 1 by omega]; rfl
          · rw [if_neg q3, if_neg q3]
theorem y_rest_n {L M : Int → Int} {line : Int} {j : Int} (hL : L j ≠ line) : ∀ (l : List Int) (k : Int) (s : y_S), (y_rest L M line k l s).2.2.1 j = s.2.2.1 j ∧ (y_rest L M line k l s).2.2.2.1 j = s.2.2.2.1 j ∧ (y_rest L M line k l s).2.2.2.2 j = s.2.2.2.2 j := by
  intro l
  induction l with
  | nil =>
    intro k s
    exact ⟨if_neg (fun x => hL x.2.1), if_neg (fun x => hL x.2.1), if_neg (fun x => hL x.2.1)⟩
  | cons a l ih =>
    intro k s
    have h := ih (k + 1) (y_sign L M line k a s)
    exact ⟨h.1.trans (if_neg (fun x => hL x.2.1)), h.2.1.trans (if_neg (fun x => hL x.2.1)), h.2.2⟩
theorem y_line_uvb {L M : Int → Int} {line W : Int} {j : Int} (j0 : 0 ≤ j) (j1 : j < 4) (hL : L j = line) (hM : 0 ≤ M j) (l : List Int) (s : y_S) (hs : s.1 8 = W) :
    (y_line L M line l s).2.2.1 j = f_U W (s.1 11) (M j) l ∧ (y_line L M line l s).2.2.2.1 j = f_V W (M j) l ∧ (y_line L M line l s).2.2.2.2 j = (if M j < l.length then s.2.2.2.2 j else f_B W (M j) l) := by
  have e8 : (z_v s.1 12 0) 8 = W := (z_vn (by decide)).trans hs
  obtain ⟨h1, h2, h3⟩ := y_rest_uvb (M := M) j0 j1 hL l 0 (z_v s.1 12 0, s.2) e8
  have e11 : (z_v s.1 12 0) 11 = s.1 11 := z_vn (by decide)
  have e12 : (z_v s.1 12 0) 12 = 0 := z_vs _ _ _
  dsimp only at h1 h2 h3
  have er := y_rcl_0 W (s.1 11) l
  simp only [e11, e12, er, Int.zero_add, Int.sub_zero] at h1 h2 h3
  rw [if_neg (by omega)] at h1 h2
  have eq : y_line L M line l s = y_rest L M line 0 l (z_v s.1 12 0, s.2) := rfl
  rw [eq, h1, h2, h3]
  unfold f_U f_V f_B
  by_cases q : M j < l.length
  · simp only [if_pos q]
    rw [y_at_0 (by omega)]
    refine ⟨?_, rfl, trivial⟩
    dsimp only; omega
  · simp only [if_neg q]
    refine ⟨by omega, trivial, ?_⟩
    by_cases q2 : M j = l.length ∧ 0 < l.length ∧ (y_rcl W l (0, 0)).2 = W
    · rw [if_pos q2, if_pos ⟨by omega, q2.1, q2.2.2⟩]
    · rw [if_neg q2, if_neg (fun x => q2 ⟨x.2.1, by omega, x.2.2⟩)]
theorem y_all_n {L M : Int → Int} {j : Int} : ∀ (ll : List (List Int)) (line : Int) (s : y_S), L j < line → (y_all L M line ll s).2.2.1 j = s.2.2.1 j ∧ (y_all L M line ll s).2.2.2.1 j = s.2.2.2.1 j ∧ (y_all L M line ll s).2.2.2.2 j = s.2.2.2.2 j := by
  intro ll
  induction ll with
  | nil => intro line s _; exact ⟨rfl, rfl, rfl⟩
  | cons l ll ih =>
    intro line s h
    have h1 := ih (line + 1) (y_line L M line l s) (by omega)
    have h2 := y_rest_n (M := M) (show L j ≠ line by omega) l 0 (z_v s.1 12 0, s.2)
    exact ⟨h1.1.trans h2.1, h1.2.1.trans h2.2.1, h1.2.2.trans h2.2.2⟩
/-- the cursors when all lines are poured: st the row at which the line of cursor j begins -/
theorem y_all_uvb {P L M : Int → Int} {W n : Int} {j st : Int} (j0 : 0 ≤ j) (j1 : j < 4) (hst : st < n) (hb : m_beg P n st) (hL : L j = m_lno P n st) (hM : 0 ≤ M j) : ∀ (f : Nat) (k : Int) (s : y_S), 0 ≤ k → k ≤ st → n - k ≤ f → (y_bc P W n k.toNat).1 = k → m_beg P n k → s.1 8 = W → s.1 11 = (y_bc P W n k.toNat).2 →
    (y_all L M (m_lno P n k) (y_ll P n k) s).2.2.1 j = f_U W (y_bc P W n st.toNat).2 (M j) (m_line P st (m_lend P n st)) ∧ (y_all L M (m_lno P n k) (y_ll P n k) s).2.2.2.1 j = f_V W (M j) (m_line P st (m_lend P n st)) ∧ (y_all L M (m_lno P n k) (y_ll P n k) s).2.2.2.2 j = (if M j < (m_line P st (m_lend P n st)).length then s.2.2.2.2 j else f_B W (M j) (m_line P st (m_lend P n st))) := by
  intro f
  induction f with
  | zero => intro k s k0 k1 kf; omega
  | succ f ih =>
    intro k s k0 k1 kf hk hbk h8 h11
    have q : k < n := by omega
    have g := m_lend_spec (P := P) q
    rw [y_ll_s q]
    by_cases e : k = st
    · subst e
      have h1 := y_line_uvb (M := M) j0 j1 hL hM (m_line P k (m_lend P n k)) s h8
      have h2 := y_all_n (L := L) (M := M) (j := j) (y_ll P n (m_lend P n k + 1)) (m_lno P n k + 1) (y_line L M (m_lno P n k) (m_line P k (m_lend P n k)) s) (by omega)
      rw [h11] at h1
      exact ⟨h2.1.trans h1.1, h2.2.1.trans h1.2.1, h2.2.2.trans h1.2.2⟩
    · have hl := y_bc_line (W := W) k0 q hk
      have hle : m_lend P n k + 1 ≤ st := by
        rcases hb with hb | hb
        · omega
        · rcases Int.lt_or_le (st - 1) (m_lend P n k) with x | x
          · exact absurd hb (g.2.2.2 (st - 1) (by omega) x)
          · omega
      have hn := m_lno_next (P := P) (n := n) k0 q
      have hlt := m_lno_lt hb k0 (show k < st by omega)
      have h1 := y_rest_n (L := L) (M := M) (j := j) (line := m_lno P n k) (by omega) (m_line P k (m_lend P n k)) 0 (z_v s.1 12 0, s.2)
      have hr := y_line_px L M (m_lno P n k) (m_line P k (m_lend P n k)) s
      have h2 := ih (m_lend P n k + 1) (y_line L M (m_lno P n k) (m_line P k (m_lend P n k)) s) (by omega) hle (by omega) (by rw [hl]) (Or.inr (by rw [show m_lend P n k + 1 - 1 = m_lend P n k by omega]; exact g.2.2.1)) ((y_line_c L M _ _ s (by decide) (by decide)).trans h8)
        (by rw [hr.1, y_ln_r _ _ h8, hl]; dsimp only; rw [h11])
      rw [hn] at h2
      have e3 : (y_line L M (m_lno P n k) (m_line P k (m_lend P n k)) s).2.2.2.2 j = s.2.2.2.2 j := h1.2.2
      rw [e3] at h2
      exact h2
theorem y_run_uvb {P L M : Int → Int} {W : Int} {j st : Int} (hH : p_hd P) (j0 : 0 ≤ j) (j1 : j < 4) (hst0 : 0 ≤ st) (hst : st < m_count P) (hb : m_beg P (m_count P) st) (hL : L j = m_lno P (m_count P) st) (hM : 0 ≤ M j) (s : y_S) (h8 : s.1 8 = W) :
    (y_run P L M s).2.2.1 j = f_U W (y_bc P W (m_count P) st.toNat).2 (M j) (m_line P st (m_lend P (m_count P) st)) ∧ (y_run P L M s).2.2.2.1 j = f_V W (M j) (m_line P st (m_lend P (m_count P) st)) ∧ (y_run P L M s).2.2.2.2 j = (if M j < (m_line P st (m_lend P (m_count P) st)).length then s.2.2.2.2 j else f_B W (M j) (m_line P st (m_lend P (m_count P) st))) := by
  have hc := m_count_b hH
  have e8 : (z_v s.1 11 0) 8 = W := (z_vn (by decide)).trans h8
  have e11 : (z_v s.1 11 0) 11 = 0 := z_vs _ _ _
  exact y_all_uvb (W := W) j0 j1 hst hb hL hM (m_count P).toNat 0 (z_v s.1 11 0, s.2) (Int.le_refl _) hst0 (by omega) rfl (Or.inl rfl) e8 e11
