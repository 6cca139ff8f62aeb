/-- the page at the start -/
def p_new : Int → Int := p_blk (z_v (z_v (z_v (fun _ => 0) 0 10) 1 4) 3 3) 0 32
theorem p_new_lo {k : Int} (h : k < 15) : p_new k = z_v (z_v (z_v (fun _ => 0) 0 10) 1 4) 3 3 k := by
  unfold p_new p_blk; rw [if_neg (by omega)]
theorem p_new_row {s c : Int} (h0 : 0 ≤ s) (h1 : s < 32) (c0 : 0 ≤ c) (c1 : c < 22) : p_row p_new s c = r_blank c := by
  show p_blk _ 0 32 (15 + 22 * s + c) = _
  unfold p_blk
  rw [if_pos (by omega), show (15 + 22 * s + c - 15) % 22 = c by omega]
theorem p_new_hd : p_hd p_new := by
  have a0 : p_new 0 = 10 := (p_new_lo (by decide)).trans (by decide)
  have a1 : p_new 1 = 4 := (p_new_lo (by decide)).trans (by decide)
  have a2 : p_new 2 = 0 := (p_new_lo (by decide)).trans (by decide)
  have a3 : p_new 3 = 3 := (p_new_lo (by decide)).trans (by decide)
  have a4 : p_new 4 = 0 := (p_new_lo (by decide)).trans (by decide)
  have a5 : p_new 5 = 0 := (p_new_lo (by decide)).trans (by decide)
  have a6 : p_new 6 = 0 := (p_new_lo (by decide)).trans (by decide)
  have a7 : p_new 7 = 0 := (p_new_lo (by decide)).trans (by decide)
  have a14 : p_new 14 = 0 := (p_new_lo (by decide)).trans (by decide)
  refine ⟨by omega, by omega, by omega, by omega, by omega, by omega, by omega, by omega, by omega, by omega, by omega, by omega, by omega, by omega, by omega, by omega, by omega, fun j j0 j1 => by omega, fun k => ?_⟩
  unfold p_new p_blk
  split
  · exact z_pr_blank _
  · unfold z_v; dsimp only; repeat (split <;> try omega)
def z_N (E0 E : z_E) (s : Nat) (mi : z_Mi) (mr : z_Mr) (m : z_Mi) (r : z_Mr) (i j : Int) : Prop :=
  (E.2.2.length = s + 4 + 2 * i.toNat + j.toNat ∧ z_up E0 E (3 + 2 * i.toNat + j.toNat))
  ∧ (E.2.2[s]? = some (3, 0) ∧ E.2.2[s + 1]? = some (12, 32) ∧ E.2.2[s + 2]? = some (0, 0) ∧ E.2.2[s + 3]? = some (13, 3))
  ∧ (r s 0 = some (s + 1) ∧ r s 1 = some (s + 2) ∧ r s 2 = some (s + 3))
  ∧ (m s 3 = 0 ∧ m s 4 = 0 ∧ m s 5 = 10 ∧ m s 6 = 4 ∧ m s 7 = 0 ∧ m s 8 = 3 ∧ m (s + 2) 0 = 0 ∧ m (s + 2) 1 = 0 ∧ m (s + 2) 2 = 0)
  ∧ (∀ k : Int, 0 ≤ k → k < i → r (s + 1) k = some (s + 4 + 2 * k.toNat) ∧ z_CR E r (s + 4 + 2 * k.toNat) ∧ m (s + 4 + 2 * k.toNat) 1 = 0 ∧ m (s + 4 + 2 * k.toNat) 2 = 0 ∧ m (s + 4 + 2 * k.toNat + 1) = c_bl (fun _ => 0) 20)
  ∧ (∀ k : Int, 0 ≤ k → k < j → E.2.2[s + 68 + k.toNat]? = some (0, 0) ∧ r (s + 3) k = some (s + 68 + k.toNat) ∧ m (s + 68 + k.toNat) 0 = 0 ∧ m (s + 68 + k.toNat) 1 = 0 ∧ m (s + 68 + k.toNat) 2 = 0)
  ∧ (∀ c, c < s → m c = mi c ∧ r c = mr c)
section ZNN
variable {E0 E E2 : z_E} {s a : Nat} {mi m m2 : z_Mi} {mr r r3 : z_Mr} {i j : Int}
theorem z_CR_up {N c : Nat} (h : z_CR E r c) (hu : z_up E E2 N) (hr : r3 c = r c) : z_CR E2 r3 c := ⟨z_up_get hu h.1, z_up_get hu h.2.1, by rw [hr]; exact h.2.2⟩
theorem z_N_row (h : z_N E0 E s mi mr m r i 0) (h0 : 0 ≤ i) (h1 : i < 32) (ha : a = s + 4 + 2 * i.toNat) (hu : z_up E E2 2) (hm : ∀ c, c ≠ a → c ≠ a + 1 → m2 c = m c) (hma : m2 a 1 = 0 ∧ m2 a 2 = 0) (hmb : m2 (a + 1) = c_bl (fun _ => 0) 20) (hr : ∀ c, c ≠ a → c ≠ a + 1 → c ≠ s + 1 → r3 c = r c) (hr1 : r3 (s + 1) = z_v (r (s + 1)) i (some a)) (hCR : z_CR E2 r3 a) : z_N E0 E2 s mi mr m2 r3 (i + 1) 0 := by
  obtain ⟨⟨b1, b2⟩, ⟨t0, t1, t2, t3⟩, ⟨q0, q1, q2⟩, hd, hk, hp, hf⟩ := h
  have e1 : (i + 1).toNat = i.toNat + 1 := by omega
  refine ⟨⟨by rw [z_up_len hu, b1, e1]; omega, ?_⟩, ⟨z_up_get hu t0, z_up_get hu t1, z_up_get hu t2, z_up_get hu t3⟩, ?_, ?_, fun k k0 k1 => ?_, fun k k0 k1 => by omega, fun c hc => ?_⟩
  · have := z_up_t b2 hu
    rw [show 3 + 2 * (i + 1).toNat + (0 : Int).toNat = 3 + 2 * i.toNat + (0 : Int).toNat + 2 by omega]; exact this
  · rw [hr s (by omega) (by omega) (by omega)]; exact ⟨q0, q1, q2⟩
  · rw [hm s (by omega) (by omega), hm (s + 2) (by omega) (by omega)]; exact hd
  · by_cases hki : k = i
    · subst hki
      rw [hr1, z_vs, ← ha]
      exact ⟨rfl, hCR, hma.1, hma.2, hmb⟩
    · obtain ⟨g1, g2, g3, g4, g5⟩ := hk k k0 (by omega)
      rw [hr1, z_vn hki, hm _ (by omega) (by omega), hm (s + 4 + 2 * k.toNat + 1) (by omega) (by omega)]
      exact ⟨g1, z_CR_up g2 hu (hr _ (by omega) (by omega) (by omega)), g3, g4, g5⟩
  · rw [hm c (by omega) (by omega), hr c (by omega) (by omega) (by omega)]; exact hf c hc
theorem z_N_pl (h : z_N E0 E s mi mr m r 32 j) (h0 : 0 ≤ j) (h1 : j < 3) (ha : a = s + 68 + j.toNat) (hu : z_up E E2 1) (hta : E2.2.2[a]? = some (0, 0)) (hm : ∀ c, c ≠ a → m2 c = m c) (hma : m2 a 0 = 0 ∧ m2 a 1 = 0 ∧ m2 a 2 = 0) (hr : ∀ c, c ≠ a → c ≠ s + 3 → r3 c = r c) (hr1 : r3 (s + 3) = z_v (r (s + 3)) j (some a)) : z_N E0 E2 s mi mr m2 r3 32 (j + 1) := by
  obtain ⟨⟨b1, b2⟩, ⟨t0, t1, t2, t3⟩, ⟨q0, q1, q2⟩, hd, hk, hp, hf⟩ := h
  refine ⟨⟨by rw [z_up_len hu, b1]; omega, ?_⟩, ⟨z_up_get hu t0, z_up_get hu t1, z_up_get hu t2, z_up_get hu t3⟩, ?_, ?_, fun k k0 k1 => ?_, fun k k0 k1 => ?_, fun c hc => ?_⟩
  · have := z_up_t b2 hu
    rw [show 3 + 2 * (32 : Int).toNat + (j + 1).toNat = 3 + 2 * (32 : Int).toNat + j.toNat + 1 by omega]; exact this
  · rw [hr s (by omega) (by omega)]; exact ⟨q0, q1, q2⟩
  · rw [hm s (by omega), hm (s + 2) (by omega)]; exact hd
  · obtain ⟨g1, g2, g3, g4, g5⟩ := hk k k0 k1
    rw [hr _ (by omega) (by omega), hm _ (by omega), hm (s + 4 + 2 * k.toNat + 1) (by omega)]
    exact ⟨g1, z_CR_up g2 hu (hr _ (by omega) (by omega)), g3, g4, g5⟩
  · by_cases hki : k = j
    · subst hki
      rw [hr1, z_vs, ← ha]
      exact ⟨hta, rfl, hma.1, hma.2.1, hma.2.2⟩
    · obtain ⟨g1, g2, g3, g4, g5⟩ := hp k k0 (by omega)
      rw [hr1, z_vn hki, hm _ (by omega)]
      exact ⟨z_up_get hu g1, g2, g3, g4, g5⟩
  · rw [hm c (by omega), hr c (by omega) (by omega)]; exact hf c hc
theorem z_N_end (h : z_N E0 E s mi mr m r 32 3) : z_S E m r s p_new := by
  obtain ⟨⟨b1, b2⟩, ⟨t0, t1, t2, t3⟩, ⟨q0, q1, q2⟩, ⟨d3, d4, d5, d6, d7, d8, p0, p1, p2⟩, hk, hp, hf⟩ := h
  have a0 : p_new 0 = 10 := (p_new_lo (by decide)).trans (by decide)
  have a1 : p_new 1 = 4 := (p_new_lo (by decide)).trans (by decide)
  have a2 : p_new 2 = 0 := (p_new_lo (by decide)).trans (by decide)
  have a3 : p_new 3 = 3 := (p_new_lo (by decide)).trans (by decide)
  have a4 : p_new 4 = 0 := (p_new_lo (by decide)).trans (by decide)
  have a5 : p_new 5 = 0 := (p_new_lo (by decide)).trans (by decide)
  have a6 : p_new 6 = 0 := (p_new_lo (by decide)).trans (by decide)
  have a7 : p_new 7 = 0 := (p_new_lo (by decide)).trans (by decide)
  have a14 : p_new 14 = 0 := (p_new_lo (by decide)).trans (by decide)
  refine ⟨fun k => s + 4 + 2 * k.toNat, ⟨t0, t1, t2, t3, fun j j0 j1 => ⟨(hp j j0 j1).1, (hp j j0 j1).2.1⟩, q0, q1, q2⟩, ?_, ?_⟩
  · refine ⟨by rw [d3, a7], by rw [d4, a14], by rw [d5, a0], by rw [d6, a1], by rw [d7, a2], by rw [d8, a3], by rw [p0, a4], by rw [p1, a5], by rw [p2, a6], fun j j0 j1 => by omega, fun j j0 j1 => Or.inl (hp j j0 j1).2.2.2.2⟩
  · rw [a0, a1, a14]
    refine z_Sr_e (R := fun _ => r_blank) ⟨fun k k0 k1 => ?_, fun u v u0 u1 v0 v1 huv => by show s + 4 + 2 * u.toNat + 1 < s + 4 + 2 * v.toNat ∨ s + 4 + 2 * v.toNat + 1 < s + 4 + 2 * u.toNat; omega, fun k k0 k1 => ?_⟩ (by decide) (fun k k0 k1 c c0 c1 => ?_)
    · obtain ⟨g1, g2, g3, g4, g5⟩ := hk k k0 k1
      refine ⟨g1, g2, by show s + 4 ≤ s + 4 + 2 * k.toNat; omega, by show s + 4 + 2 * k.toNat + 1 < s + 68; omega, ?_, Or.inl g3, Or.inl g4⟩
      show z_xr (m (s + 4 + 2 * k.toNat + 1))
      rw [g5]
      intro c; unfold c_bl; dsimp only; split <;> omega
    · obtain ⟨g1, g2, g3, g4, g5⟩ := hk k k0 (by omega)
      refine ⟨?_, c_wf_blank (by decide)⟩
      have hb := c_bl_rw (W := 10) (F := fun _ => 0) (X := fun _ => 0) (by decide) (by decide)
      refine ⟨?_, ?_, ?_, ?_⟩
      · intro c c0 c1; show m (s + 4 + 2 * k.toNat + 1) c = _; rw [g5]; exact hb.1 c c0 c1
      · intro c c0 c1; show m (s + 4 + 2 * k.toNat + 1) c = _; rw [g5]; exact hb.2.1 c c0 c1
      · show m (s + 4 + 2 * k.toNat) 1 = _; rw [g3]; rfl
      · show m (s + 4 + 2 * k.toNat) 2 = _; rw [g4]; rfl
    · have e : m_slot p_new k = 24 + k := by unfold m_slot; rw [a14, if_neg (by omega)]; omega
      show p_row p_new (m_slot p_new k) c = r_blank c
      rw [e]; exact p_new_row (by omega) (by omega) c0 c1
end ZNN
