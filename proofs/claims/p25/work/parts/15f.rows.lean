/-! rows erased: page and class -/
def r_all (W c v : Int) : Int := if c < W then 32 else if c = 20 ∨ c = 21 then 0 else v
theorem r_erase_all1 {W c : Int} {r : Int → Int} (hc : c < 22) (hc0 : 0 ≤ c) (hW : 1 ≤ W) : r_erase W 0 (W - 1) r c = r_all W c (r c) := by
  rw [r_erase_all hc hc0, if_pos hW]; rfl
theorem r_all_all (W c v : Int) : r_all W c (r_all W c v) = r_all W c v := by unfold r_all; grind
theorem n_esc {f : Int → (Int → Int) → Int → Int} {C : Int → Prop} [DecidablePred C] {a W : Int} {P : Int → Int} (hf : ∀ j Q, f j Q = if C j then p_erases Q (a + j) 0 (W - 1) else Q) (hW : P 0 = W) (hW1 : 1 ≤ W) (hW2 : W ≤ 20) (a0 : 0 ≤ a) : ∀ n : Nat,
    (∀ k, k < 15 → n_it f n P k = P k) ∧ (∀ s c, 0 ≤ s → 0 ≤ c → c < 22 → n_it f n P (15 + 22 * s + c) = if (24 + a ≤ s ∧ s < 24 + a + n) ∧ C (s - 24 - a) then r_all W c (P (15 + 22 * s + c)) else P (15 + 22 * s + c)) := by
  intro n
  induction n with
  | zero => exact ⟨fun _ _ => rfl, fun s c s0 c0 c1 => by rw [if_neg (by omega)]; rfl⟩
  | succ n ih =>
    obtain ⟨i1, i2⟩ := ih
    have e : n_it f (n + 1) P = f (n : Nat) (n_it f n P) := rfl
    rw [e, hf]
    by_cases q : C (n : Nat)
    · rw [if_pos q]
      refine ⟨fun k hk => (p_erases_hd hk (by omega)).trans (i1 k hk), fun s c s0 c0 c1 => ?_⟩
      unfold p_erases
      rw [i1 0 (by decide), hW]
      by_cases qs : s = 24 + (a + n)
      · have es : s - 24 - a = (n : Nat) := by omega
        rw [qs, p_upd_at _ _ _ _ c0 c1, r_erase_all1 c1 c0 hW1, ← qs, es, if_pos ⟨by omega, q⟩]
        have h3 := i2 s c s0 c0 c1
        rw [if_neg (by omega)] at h3
        have e4 : p_row (n_it f n P) s c = P (15 + 22 * s + c) := h3
        rw [e4]
      · rw [p_upd_out _ _ (by omega), i2 s c s0 c0 c1]
        by_cases q2 : (24 + a ≤ s ∧ s < 24 + a + n) ∧ C (s - 24 - a)
        · rw [if_pos q2, if_pos ⟨by omega, q2.2⟩]
        · rw [if_neg q2, if_neg (fun x => q2 ⟨by omega, x.2⟩)]
    · rw [if_neg q]
      refine ⟨i1, fun s c s0 c0 c1 => ?_⟩
      rw [i2 s c s0 c0 c1]
      by_cases q2 : (24 + a ≤ s ∧ s < 24 + a + n) ∧ C (s - 24 - a)
      · rw [if_pos q2, if_pos ⟨by omega, q2.2⟩]
      · rw [if_neg q2, if_neg (fun x => q2 ⟨?_, x.2⟩)]
        have h1 := x.1
        rcases Int.lt_or_le s (24 + a + n) with y | y
        · exact ⟨h1.1, y⟩
        · have es : s - 24 - a = (n : Nat) := by omega
          rw [es] at x
          exact absurd x.2 q
theorem p_ers_at {P : Int → Int} {a b s c : Int} (hH : p_hd P) (a0 : 0 ≤ a) (s0 : 0 ≤ s) (c0 : 0 ≤ c) (c1 : c < 22) : p_ers P a b (15 + 22 * s + c) = if 24 + a ≤ s ∧ s < 24 + b then r_all (P 0) c (P (15 + 22 * s + c)) else P (15 + 22 * s + c) := by
  have h := (n_esc (f := fun j Q => p_erases Q (a + j) 0 (P 0 - 1)) (C := fun _ => True) (a := a) (W := P 0) (P := P) (fun j Q => (if_pos trivial).symm) rfl (by have := hH.1; omega) hH.2.1 a0 (b - a).toNat).2 s c s0 c0 c1
  unfold p_ers
  rw [h]
  by_cases q : 24 + a ≤ s ∧ s < 24 + b
  · rw [if_pos q, if_pos ⟨by omega, trivial⟩]
  · rw [if_neg q, if_neg (fun x => q (by omega))]
theorem p_escr_cl {P P2 Z : Int → Int} {kind : Int} (hH : p_hd P) (h2 : p_erases P (P 4) (if kind = 0 then P 5 else 0) (if kind = 1 then P 5 else P 0 - 1) = P2) (hk0 : 0 ≤ kind) (hk2 : kind ≤ 2) (hZ : Z = if kind = 0 then p_ers P2 (P 4 + 1) (P 1) else if kind = 1 then p_ers P2 0 (P 4) else p_ers (p_ers P2 0 (P 4)) (P 4 + 1) (P 1)) (k : Int) (k0 : 0 ≤ k) : p_escr kind P k = z_v Z 6 0 k := by
  obtain ⟨hw0, hw1, hh0, hh1, hf0, hf1, hf2, hr0, hr1, hc0, hc1, hp0, hp1, hk00, hk1, hi0, hi1, hkp, hP⟩ := id hH
  have hH2 : p_hd P2 := by rw [← h2]; exact p_hd_erases hH hr0
  have e2 : ∀ j, j < 15 → P2 j = P j := fun j hj => by rw [← h2]; exact p_erases_hd hj hr0
  have he : p_eline kind P = z_v P2 6 0 := by unfold p_eline; rw [h2]
  have e60 : z_v P2 6 0 0 = P 0 := (z_vn (by decide)).trans (e2 0 (by decide))
  have hN := n_esc (f := p_esc kind (P 0) (P 4)) (C := fun r => kind = 2 ∨ (kind = 0 ∧ P 4 < r) ∨ (kind = 1 ∧ r < P 4)) (a := 0) (W := P 0) (P := z_v P2 6 0) (fun j Q => by rw [Int.zero_add]; rfl) e60 (by omega) hw1 (Int.le_refl _) (P 1).toNat
  have eL : p_escr kind P = n_it (p_esc kind (P 0) (P 4)) (P 1).toNat (z_v P2 6 0) := by unfold p_escr; rw [he]
  have hA := p_hd_ers (k := P 4) hH2 (Int.le_refl 0)
  have hA1 := p_hd_ers (k := P 1) hH2 (show 0 ≤ P 4 + 1 by omega)
  have hA2 := p_hd_ers (k := P 1) hA.1 (show 0 ≤ P 4 + 1 by omega)
  rw [eL]
  by_cases q : k < 15
  · rw [hN.1 k q]
    unfold z_v
    by_cases q6 : k = 6
    · rw [if_pos q6, if_pos q6]
    · rw [if_neg q6, if_neg q6, hZ]
      split
      · rw [hA1.2 k q]
      · split
        · rw [hA.2 k q]
        · rw [hA2.2 k q, hA.2 k q]
  · have ek : k = 15 + 22 * ((k - 15) / 22) + (k - 15) % 22 := by omega
    have s0 : 0 ≤ (k - 15) / 22 := by omega
    have c0 : 0 ≤ (k - 15) % 22 := by omega
    have c1 : (k - 15) % 22 < 22 := by omega
    generalize (k - 15) / 22 = s at *
    generalize (k - 15) % 22 = c at *
    subst ek
    have e6 : z_v P2 6 0 (15 + 22 * s + c) = P2 (15 + 22 * s + c) := z_vn (by omega)
    have e7 : z_v Z 6 0 (15 + 22 * s + c) = Z (15 + 22 * s + c) := z_vn (by omega)
    have ea : p_ers P2 0 (P 4) 0 = P 0 := (hA.2 0 (by decide)).trans (e2 0 (by decide))
    rw [hN.2 s c s0 c0 c1, e6, e7, hZ]
    rcases (show kind = 0 ∨ kind = 1 ∨ kind = 2 by omega) with x | x | x
    · subst x
      rw [if_pos rfl, p_ers_at hH2 (by omega) s0 c0 c1, e2 0 (by decide)]
      by_cases q2 : 24 + (P 4 + 1) ≤ s ∧ s < 24 + P 1
      · rw [if_pos q2, if_pos ⟨by omega, Or.inr (Or.inl ⟨rfl, by omega⟩)⟩]
      · rw [if_neg q2, if_neg (by omega)]
    · subst x
      rw [if_neg (show ¬ (1 : Int) = 0 by decide), if_pos rfl, p_ers_at hH2 (by omega) s0 c0 c1, e2 0 (by decide)]
      by_cases q2 : 24 + 0 ≤ s ∧ s < 24 + P 4
      · rw [if_pos q2, if_pos ⟨by omega, Or.inr (Or.inr ⟨rfl, by omega⟩)⟩]
      · rw [if_neg q2, if_neg (by omega)]
    · subst x
      rw [if_neg (show ¬ (2 : Int) = 0 by decide), if_neg (show ¬ (2 : Int) = 1 by decide), p_ers_at hA.1 (by omega) s0 c0 c1, p_ers_at hH2 (by omega) s0 c0 c1, ea, e2 0 (by decide)]
      by_cases q1 : 24 ≤ s ∧ s < 24 + P 1
      · rw [if_pos ⟨by omega, Or.inl rfl⟩]
        by_cases q2 : 24 + (P 4 + 1) ≤ s ∧ s < 24 + P 1
        · rw [if_pos q2, if_neg (by omega)]
        · rw [if_neg q2]
          by_cases q3 : 24 + 0 ≤ s ∧ s < 24 + P 4
          · rw [if_pos q3]
          · rw [if_neg q3]
            have es : s = 24 + P 4 := by omega
            have e9 : P2 (15 + 22 * s + c) = r_erase (P 0) 0 (P 0 - 1) (p_row P (24 + P 4)) c := by
              rw [← h2, if_neg (show ¬ (2 : Int) = 0 by decide), if_neg (show ¬ (2 : Int) = 1 by decide), es]
              exact p_upd_at _ _ _ _ c0 c1
            rw [e9, r_erase_all1 c1 c0 (by omega), r_all_all]
      · rw [if_neg (by omega), if_neg (by omega), if_neg (by omega)]
theorem m_fillA_ag {A B : Int → Int} (hA : p_hd A) (h : ∀ k, 0 ≤ k → B k = A k) : m_fillA B = m_fillA A := by
  unfold m_fillA m_fill
  rw [h 0 (by decide), h 1 (by decide)]
  refine n_sum_c (fun k k0 k1 => n_cnt_c (fun c c0 c1 => ?_))
  rw [h _ (by omega)]
