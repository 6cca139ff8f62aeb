/-! the two sides in step: the class's object at 0, the model at o (642 or more) -/
def z_Jb (o : Nat) (m : z_Mi) : Prop := (0 ≤ m o 1 ∧ m o 1 ≤ 8) ∧ (0 ≤ m o 9 ∧ m o 9 ≤ 9999) ∧ (∀ j, -9 ≤ m (o + 3) j ∧ m (o + 3) j ≤ 99) ∧ (∀ j, -9 ≤ m (o + 4) j ∧ m (o + 4) j ≤ 9999) ∧ (∀ j, 0 ≤ m (o + 5) j ∧ m (o + 5) j ≤ 9999)
def z_JJ (E : z_E) (o : Nat) (m : z_Mi) (r : z_Mr) : Prop := 642 ≤ o ∧ (∃ nx, z_X E 0 m r (m (o + 1)) (m o 1) nx) ∧ z_MO E r o ∧ z_Jb o m
section ZSYNC
variable {E : z_E} {o : Nat} {m m1 m2 : z_Mi} {r r1 r2 : z_Mr} {x1 x2 v w w2 : Int} {Q : Int → Int} {A C : Prop}
theorem z_MO_fr (h : z_MO E r o) (hr : r2 o = r o) : z_MO E r2 o := by
  obtain ⟨t0, t1, t2, t3, t4, t5, t6, t7, q⟩ := h
  exact ⟨t0, t1, t2, t3, t4, t5, t6, t7, by rw [hr]; exact q⟩
theorem z_two (e0 : m1 o = m o) (e1 : m1 (o + 1) = m (o + 1)) : z_u (z_u m1 o (m o)) (o + 1) (m (o + 1)) = m1 := by rw [← e0, ← e1, z_uself, z_uself]
/-- behind the class's call the model's cells are as before -/
theorem z_mid (ho : 642 ≤ o) (hf : z_Xf 0 m r m1 r1) : ∀ c, o ≤ c → m1 c = m c ∧ r1 c = r c := fun c hc => hf c (by omega)
theorem n_rec_f (n : Int) (hn : n ≤ 8) (F : Int → Int) (hF : F 1 = n) : f_rec F 1 = n_rec n := by
  unfold f_rec n_rec
  rw [z_vs, hF]; split <;> split <;> omega
theorem z_JJ_same (hJ : z_JJ E o m r) (hX : ∃ nx, z_X E 0 m1 r1 (m (o + 1)) (m o 1) nx) (hf : ∀ c, o ≤ c → m1 c = m c ∧ r1 c = r c) : z_JJ E o m1 r1 := by
  obtain ⟨ho, hX0, hMO, hb⟩ := hJ
  refine ⟨ho, ?_, z_MO_fr hMO (hf o (by omega)).2, ?_⟩
  · rw [(hf o (by omega)).1, (hf (o + 1) (by omega)).1]; exact hX
  · unfold z_Jb
    rw [(hf o (by omega)).1, (hf (o + 3) (by omega)).1, (hf (o + 4) (by omega)).1, (hf (o + 5) (by omega)).1]; exact hb
/-- a recorded change -/
theorem z_JJ_rec (hJ : z_JJ E o m r) (hZ : z_Z E 0 m r Q (n_rec (m o 1)) m1 r1) : z_JJ E o (z_u (z_u m1 o (f_rec (m o))) (o + 1) Q) r1 := by
  obtain ⟨ho, hX0, hMO, hb1, hb2, hb3, hb4, hb5⟩ := hJ
  obtain ⟨⟨nx, hX⟩, hf⟩ := hZ
  have hm := z_mid ho hf
  have e1 : (z_u (z_u m1 o (f_rec (m o))) (o + 1) Q) o = f_rec (m o) := by rw [z_un (by omega), z_us]
  have e2 : ∀ k, 1 < k → (z_u (z_u m1 o (f_rec (m o))) (o + 1) Q) (o + k) = m (o + k) := fun k hk => by rw [z_un (by omega), z_un (by omega)]; exact (hm _ (by omega)).1
  refine ⟨ho, ⟨nx, ?_⟩, z_MO_fr hMO (hm o (by omega)).2, ?_⟩
  · rw [z_us, e1, n_rec_f (m o 1) hb1.2 (m o) rfl]
    exact z_X_fr hX (fun c c0 c1 => ⟨by rw [z_un (by omega), z_un (by omega)], rfl⟩)
  · unfold z_Jb
    rw [e1, e2 3 (by omega), e2 4 (by omega), e2 5 (by omega), n_rec_f (m o 1) hb1.2 (m o) rfl]
    refine ⟨?_, ?_, hb3, hb4, hb5⟩
    · unfold n_rec; split <;> omega
    · have : f_rec (m o) 9 = m o 9 := z_vn (by decide)
      rw [this]; exact hb2
theorem j_op (hJ : z_JJ E o m r) (h1 : (A → x1 = v ∧ z_Z E 0 m r Q (n_rec (m o 1)) m1 r1) ∧ (¬ A → x1 = w ∧ m1 = m ∧ r1 = r)) (h2 : (A → x2 = v ∧ m2 = z_u (z_u m1 o (f_rec (m o))) (o + 1) Q) ∧ (¬ A → x2 = w ∧ m2 = m1) ∧ r2 = r1) : x2 = x1 ∧ z_JJ E o m2 r2 := by
  obtain ⟨h2a, h2b, rfl⟩ := h2
  by_cases hA : A
  · obtain ⟨e1, hZ⟩ := h1.1 hA
    obtain ⟨e2, e3⟩ := h2a hA
    exact ⟨e2.trans e1.symm, by rw [e3]; exact z_JJ_rec hJ hZ⟩
  · obtain ⟨e1, e4, e5⟩ := h1.2 hA
    obtain ⟨e2, e3⟩ := h2b hA
    exact ⟨e2.trans e1.symm, by rw [e3, e4, e5]; exact hJ⟩
theorem j_op3 (hJ : z_JJ E o m r) (h1 : (A ∧ C → x1 = v ∧ z_Z E 0 m r Q (n_rec (m o 1)) m1 r1) ∧ (¬ A → x1 = w ∧ m1 = m ∧ r1 = r) ∧ (A ∧ ¬ C → x1 = w2 ∧ m1 = m ∧ r1 = r)) (h2 : (A ∧ C → x2 = v ∧ m2 = z_u (z_u m1 o (f_rec (m o))) (o + 1) Q) ∧ (¬ A → x2 = w ∧ m2 = m1) ∧ (A ∧ ¬ C → x2 = w2 ∧ m2 = m1) ∧ r2 = r1) : x2 = x1 ∧ z_JJ E o m2 r2 := by
  obtain ⟨h2a, h2b, h2c, rfl⟩ := h2
  by_cases hA : A
  · by_cases hC : C
    · obtain ⟨e1, hZ⟩ := h1.1 ⟨hA, hC⟩
      obtain ⟨e2, e3⟩ := h2a ⟨hA, hC⟩
      exact ⟨e2.trans e1.symm, by rw [e3]; exact z_JJ_rec hJ hZ⟩
    · obtain ⟨e1, e4, e5⟩ := h1.2.2 ⟨hA, hC⟩
      obtain ⟨e2, e3⟩ := h2c ⟨hA, hC⟩
      exact ⟨e2.trans e1.symm, by rw [e3, e4, e5]; exact hJ⟩
  · obtain ⟨e1, e4, e5⟩ := h1.2.1 hA
    obtain ⟨e2, e3⟩ := h2b hA
    exact ⟨e2.trans e1.symm, by rw [e3, e4, e5]; exact hJ⟩
theorem j_undo (hJ : z_JJ E o m r) (h1 : (m o 1 = 0 → x1 = -2 ∧ m1 = m ∧ r1 = r) ∧ (m o 1 ≠ 0 → x1 = m o 1 - 1 ∧ z_Z E 0 m r Q (m o 1 - 1) m1 r1)) (h2 : (m o 1 = 0 → x2 = -2 ∧ m2 = m1) ∧ (m o 1 ≠ 0 → x2 = m o 1 - 1 ∧ m2 = z_u (z_u m1 o (z_v (m o) 1 (m o 1 - 1))) (o + 1) Q) ∧ r2 = r1) : x2 = x1 ∧ z_JJ E o m2 r2 := by
  obtain ⟨h2a, h2b, rfl⟩ := h2
  by_cases hA : m o 1 = 0
  · obtain ⟨e1, e4, e5⟩ := h1.1 hA
    obtain ⟨e2, e3⟩ := h2a hA
    exact ⟨e2.trans e1.symm, by rw [e3, e4, e5]; exact hJ⟩
  · obtain ⟨e1, hZ⟩ := h1.2 hA
    obtain ⟨e2, e3⟩ := h2b hA
    refine ⟨e2.trans e1.symm, ?_⟩
    subst e3
    obtain ⟨ho, hX0, hMO, hb1, hb2, hb3, hb4, hb5⟩ := hJ
    obtain ⟨⟨nx, hX⟩, hf⟩ := hZ
    have hm := z_mid ho hf
    have e1 : (z_u (z_u m1 o (z_v (m o) 1 (m o 1 - 1))) (o + 1) Q) o = z_v (m o) 1 (m o 1 - 1) := by rw [z_un (by omega), z_us]
    have e2 : ∀ k, 1 < k → (z_u (z_u m1 o (z_v (m o) 1 (m o 1 - 1))) (o + 1) Q) (o + k) = m (o + k) := fun k hk => by rw [z_un (by omega), z_un (by omega)]; exact (hm _ (by omega)).1
    refine ⟨ho, ⟨nx, ?_⟩, z_MO_fr hMO (hm o (by omega)).2, ?_⟩
    · rw [z_us, e1, z_vs]
      exact z_X_fr hX (fun c c0 c1 => ⟨by rw [z_un (by omega), z_un (by omega)], rfl⟩)
    · unfold z_Jb
      rw [e1, e2 3 (by omega), e2 4 (by omega), e2 5 (by omega), z_vs]
      exact ⟨by omega, by rw [z_vn (by decide)]; exact hb2, hb3, hb4, hb5⟩
/-- a reading that changes nothing -/
theorem j_rd (hJ : z_JJ E o m r) (h1 : x1 = v ∧ m1 = m ∧ r1 = r) (h2 : x2 = v ∧ m2 = m1 ∧ r2 = r1) : x2 = x1 ∧ z_JJ E o m2 r2 := by
  obtain ⟨e1, e4, e5⟩ := h1
  obtain ⟨e2, e3, e6⟩ := h2
  exact ⟨e2.trans e1.symm, by rw [e3, e6, e4, e5]; exact hJ⟩
/-- a reading that uses the class's Pouring -/
theorem z_JJ_q {G : Int → Int} {f : Int → Option Nat} (hJ : z_JJ E o m r) : z_JJ E o (z_u m (0 + 73) G) (z_u r (0 + 73) f) := by
  obtain ⟨ho, ⟨nx, hX⟩, h⟩ := id hJ
  exact z_JJ_same hJ ⟨nx, z_X_q hX⟩ (fun c hc => ⟨z_un (by omega), z_un (by omega)⟩)
theorem j_rq (hJ : z_JJ E o m r) (h1 : x1 = v ∧ ∃ (G' : Int → Int) (f' : Int → Option Nat), m1 = z_u m (0 + 73) G' ∧ r1 = z_u r (0 + 73) f') (h2 : x2 = v ∧ m2 = m1 ∧ r2 = r1) : x2 = x1 ∧ z_JJ E o m2 r2 := by
  obtain ⟨e1, G, f, e4, e5⟩ := h1
  obtain ⟨e2, e3, e6⟩ := h2
  exact ⟨e2.trans e1.symm, by rw [e3, e6, e4, e5]; exact z_JJ_q hJ⟩
/-- one that pours in the model's own rows -/
theorem z_JJ_p {U V B F : Int → Int} (hJ : z_JJ E o m r) (hF : ∀ j, j ≠ 8 → j ≠ 10 → j ≠ 11 → j ≠ 12 → F j = m o j) (hU : ∀ j, 0 ≤ U j ∧ U j ≤ 9999) (hm2 : m2 = (z_u (z_u (z_u (z_u (z_u (z_u (z_u (z_u m (o + 2) (m (o + 2))) (o + 3) (m (o + 3))) (o + 4) (m (o + 4))) (o + 5) U) (o + 6) V) (o + 7) B) o F) (o + 1) (m (o + 1)))) : z_JJ E o m2 r := by
  subst hm2
  obtain ⟨ho, ⟨nx, hX⟩, hMO, hb1, hb2, hb3, hb4, hb5⟩ := hJ
  have hn : ∀ {a b : Nat} (k l : Nat), k ≠ l → o + k ≠ o + l := fun k l h => by omega
  have eo : ∀ k, k ≠ 0 → o ≠ o + k := fun k h => by omega
  refine ⟨ho, ⟨nx, ?_⟩, hMO, ?_⟩
  · have a1 : (z_u (z_u (z_u (z_u (z_u (z_u (z_u (z_u m (o + 2) (m (o + 2))) (o + 3) (m (o + 3))) (o + 4) (m (o + 4))) (o + 5) U) (o + 6) V) (o + 7) B) o F) (o + 1) (m (o + 1))) (o + 1) = m (o + 1) := z_us _ _ _
    have a0 : (z_u (z_u (z_u (z_u (z_u (z_u (z_u (z_u m (o + 2) (m (o + 2))) (o + 3) (m (o + 3))) (o + 4) (m (o + 4))) (o + 5) U) (o + 6) V) (o + 7) B) o F) (o + 1) (m (o + 1))) o = F := by rw [z_un (by omega), z_us]
    rw [a1, a0, hF 1 (by decide) (by decide) (by decide) (by decide)]
    exact z_X_fr hX (fun c c0 c1 => ⟨by rw [z_un (by omega), z_un (by omega), z_un (by omega), z_un (by omega), z_un (by omega), z_un (by omega), z_un (by omega), z_un (by omega)], rfl⟩)
  · unfold z_Jb
    simp only [z_u]
    simp only [show ¬ (o = o + 1) by omega, show ¬ (o + 3 = o + 1) by omega, show ¬ (o + 4 = o + 1) by omega, show ¬ (o + 5 = o + 1) by omega, show ¬ (o + 3 = o) by omega, show ¬ (o + 4 = o) by omega, show ¬ (o + 5 = o) by omega, show ¬ (o + 3 = o + 7) by omega, show ¬ (o + 4 = o + 7) by omega, show ¬ (o + 5 = o + 7) by omega, show ¬ (o + 3 = o + 6) by omega, show ¬ (o + 4 = o + 6) by omega, show ¬ (o + 5 = o + 6) by omega, show ¬ (o + 3 = o + 5) by omega, show ¬ (o + 4 = o + 5) by omega, show ¬ (o + 3 = o + 4) by omega, if_true, if_false]
    rw [hF 1 (by decide) (by decide) (by decide) (by decide), hF 9 (by decide) (by decide) (by decide) (by decide)]
    exact ⟨hb1, hb2, hb3, hb4, hU⟩
theorem z_eight (e0 : m1 o = m o) (e1 : m1 (o + 1) = m (o + 1)) : (z_u (z_u (z_u (z_u (z_u (z_u (z_u (z_u m1 (o + 2) (m1 (o + 2))) (o + 3) (m1 (o + 3))) (o + 4) (m1 (o + 4))) (o + 5) (m1 (o + 5))) (o + 6) (m1 (o + 6))) (o + 7) (m1 (o + 7))) o (m o)) (o + 1) (m (o + 1))) = m1 := by
  rw [← e0, ← e1]
  simp only [z_uself]
end ZSYNC
