theorem z_T_cpk {s t : Nat} {k : Int} {P : Int → Int} {mk m0 : z_Mi} (h0 : 0 ≤ k) (h3 : k < 3) (hst : s + 71 ≤ t ∨ t + 71 ≤ s) (hml : ∀ c, c < s + 68 ∨ s + 71 ≤ c → mk c = m0 c) (hkm : ∀ j : Int, 0 ≤ j → j < k → mk (s + 68 + j.toNat) 0 = P (8 + 2 * j) ∧ mk (s + 68 + j.toNat) 1 = P (8 + 2 * j + 1) ∧ mk (s + 68 + j.toNat) 2 = 0) (hkz : ∀ j : Int, 0 ≤ j → j < 3 → mk (s + 68 + j.toNat) 2 = 0 ∨ mk (s + 68 + j.toNat) 2 = 1)
    (e0 : mk (t + 68 + k.toNat) 0 = P (8 + 2 * k)) (e1 : mk (t + 68 + k.toNat) 1 = P (8 + 2 * k + 1)) (e2 : mk (t + 68 + k.toNat) 2 = 0) : ∀ {N : Int}, k < N →
    0 ≤ k + 1 ∧ k + 1 ≤ N ∧ (∀ c, c < s + 68 ∨ s + 71 ≤ c → (z_u mk (s + 68 + k.toNat) (z_v (z_v (z_v (mk (s + 68 + k.toNat)) 0 (mk (t + 68 + k.toNat) 0)) 1 (mk (t + 68 + k.toNat) 1)) 2 (mk (t + 68 + k.toNat) 2))) c = m0 c) ∧ (∀ j : Int, 0 ≤ j → j < k + 1 → (z_u mk (s + 68 + k.toNat) (z_v (z_v (z_v (mk (s + 68 + k.toNat)) 0 (mk (t + 68 + k.toNat) 0)) 1 (mk (t + 68 + k.toNat) 1)) 2 (mk (t + 68 + k.toNat) 2))) (s + 68 + j.toNat) 0 = P (8 + 2 * j) ∧ (z_u mk (s + 68 + k.toNat) (z_v (z_v (z_v (mk (s + 68 + k.toNat)) 0 (mk (t + 68 + k.toNat) 0)) 1 (mk (t + 68 + k.toNat) 1)) 2 (mk (t + 68 + k.toNat) 2))) (s + 68 + j.toNat) 1 = P (8 + 2 * j + 1) ∧ (z_u mk (s + 68 + k.toNat) (z_v (z_v (z_v (mk (s + 68 + k.toNat)) 0 (mk (t + 68 + k.toNat) 0)) 1 (mk (t + 68 + k.toNat) 1)) 2 (mk (t + 68 + k.toNat) 2))) (s + 68 + j.toNat) 2 = 0) ∧ (∀ j : Int, 0 ≤ j → j < 3 → (z_u mk (s + 68 + k.toNat) (z_v (z_v (z_v (mk (s + 68 + k.toNat)) 0 (mk (t + 68 + k.toNat) 0)) 1 (mk (t + 68 + k.toNat) 1)) 2 (mk (t + 68 + k.toNat) 2))) (s + 68 + j.toNat) 2 = 0 ∨ (z_u mk (s + 68 + k.toNat) (z_v (z_v (z_v (mk (s + 68 + k.toNat)) 0 (mk (t + 68 + k.toNat) 0)) 1 (mk (t + 68 + k.toNat) 1)) 2 (mk (t + 68 + k.toNat) 2))) (s + 68 + j.toNat) 2 = 1) := by
  intro N hN
  refine ⟨by omega, by omega, fun c g => (z_un (by omega)).trans (hml c g), fun j j0 j1 => ?_, fun j j0 j1 => ?_⟩
  · by_cases q : j = k
    · subst q
      rw [z_us]
      exact ⟨by rw [z_vn (by decide), z_vn (by decide), z_vs]; exact e0, by rw [z_vn (by decide), z_vs]; exact e1, by rw [z_vs]; exact e2⟩
    · rw [z_un (by omega)]; exact hkm j j0 (by omega)
  · by_cases q : j = k
    · subst q
      rw [z_us, z_vs]; exact Or.inl e2
    · rw [z_un (by omega)]; exact hkz j j0 j1
theorem z_Sd_fr {mi m : z_Mi} {s : Nat} {P : Int → Int} (h : z_Sd mi s P) (h7 : P 7 ≤ 3) (hf : ∀ c, s ≤ c → c < s + 71 → m c = mi c) : z_Sd m s P := by
  unfold z_Sd
  rw [hf s (by omega) (by omega), hf (s + 2) (by omega) (by omega)]
  obtain ⟨d3, d4, d5, d6, d7, d8, u0, u1, u2, uk, uz⟩ := h
  refine ⟨d3, d4, d5, d6, d7, d8, u0, u1, u2, fun j j0 j1 => ?_, fun j j0 j1 => ?_⟩
  · rw [hf _ (by omega) (by omega)]; exact uk j j0 j1
  · rw [hf _ (by omega) (by omega)]; exact uz j j0 j1
theorem z_xr_cpy {X Y : Int → Int} {n : Int} (hY : z_xr Y) (hX : z_xr X) : z_xr (z_cpy Y X n) := by
  intro c; unfold z_cpy; split
  · exact hY c
  · exact hX c
theorem z_ifr (R : Int → Int → Int) (j k : Int) : R j = if j = k then R k else R j := by
  split
  · next q => rw [q]
  · rfl
