theorem x_kp {s : Nat} {k r c : Int} {P : Int → Int} {mk : z_Mi} {F : Int → Int} {gr gc : Int → Int} (h0 : 0 ≤ k) (h3 : k < 3) (hkm : ∀ j : Int, 0 ≤ j → j < k → mk (s + 68 + j.toNat) 0 = gr (P 7 - j) ∧ mk (s + 68 + j.toNat) 1 = gc (P 7 - j) ∧ mk (s + 68 + j.toNat) 2 = 0) (hkz : ∀ j : Int, 0 ≤ j → j < 3 → mk (s + 68 + j.toNat) 2 = 0 ∨ mk (s + 68 + j.toNat) 2 = 1)
    (e0 : F 0 = gr (P 7 - k)) (e1 : F 1 = gc (P 7 - k)) :
    (∀ j : Int, 0 ≤ j → j < k + 1 → (z_u mk (s + 68 + k.toNat) (z_v F 2 0)) (s + 68 + j.toNat) 0 = gr (P 7 - j) ∧ (z_u mk (s + 68 + k.toNat) (z_v F 2 0)) (s + 68 + j.toNat) 1 = gc (P 7 - j) ∧ (z_u mk (s + 68 + k.toNat) (z_v F 2 0)) (s + 68 + j.toNat) 2 = 0) ∧ (∀ j : Int, 0 ≤ j → j < 3 → (z_u mk (s + 68 + k.toNat) (z_v F 2 0)) (s + 68 + j.toNat) 2 = 0 ∨ (z_u mk (s + 68 + k.toNat) (z_v F 2 0)) (s + 68 + j.toNat) 2 = 1) := by
  refine ⟨fun j j0 j1 => ?_, fun j j0 j1 => ?_⟩
  · by_cases q : j = k
    · subst q
      rw [z_us]
      exact ⟨by rw [z_vn (by decide)]; exact e0, by rw [z_vn (by decide)]; exact e1, z_vs _ _ _⟩
    · rw [z_un (by omega)]; exact hkm j j0 (by omega)
  · by_cases q : j = k
    · subst q
      rw [z_us, z_vs]; exact Or.inl rfl
    · rw [z_un (by omega)]; exact hkz j j0 j1
theorem x_pour_end {E : z_E} {mi mk : z_Mi} {mr : z_Mr} {q s : Nat} {sg : Int → Nat} {P Q X : Int → Int} {w h top hm : Int} (hc : z_Sc E mr s) (hQ : g_pg P Q w h top hm X) (hqs : q < s ∨ s + 71 ≤ q) (hH : p_hd P) (hw20 : w ≤ 20) (k3 : mk s 3 = P 7) (k4 : mk s 4 = hm) (k5 : mk s 5 = w) (k6 : mk s 6 = h) (k7 : mk s 7 = 0) (k8 : mk s 8 = h - 1) (c0 : mk (s + 2) 0 = g_r P w top hm 0) (c1 : mk (s + 2) 1 = g_c P w top hm 0) (c2 : mk (s + 2) 2 = g_p P w top hm 0)
    (hk : ∀ j : Int, 0 ≤ j → j < P 7 → mk (s + 68 + j.toNat) 0 = g_r P w top hm (P 7 - j) ∧ mk (s + 68 + j.toNat) 1 = g_c P w top hm (P 7 - j) ∧ mk (s + 68 + j.toNat) 2 = 0) (hz : ∀ j : Int, 0 ≤ j → j < 3 → mk (s + 68 + j.toNat) 2 = 0 ∨ mk (s + 68 + j.toNat) 2 = 1) (hr : z_Sr E mk mr s sg w (hm + h) (x_row X)) (hn : hm + h ≤ 32) (hf : ∀ c, (c < s ∨ s + 71 ≤ c) → c ≠ q → mk c = mi c) : z_T E s mi mr Q (z_u mk q (mi q)) mr := by
  obtain ⟨⟨Q0, Q1, Q2, Q3, Q7, Q14⟩, ⟨Q4, Q5, Q6⟩, Qk, Qr⟩ := hQ
  obtain ⟨hw0, hw1, hh0, hh1, hf0, hf1, hf2, hr0, hr1, hc0, hc1, hp0, hp1, hk0, hk1, hi0, hi1, hkp, hP⟩ := id hH
  have e : ∀ c, s ≤ c → c < s + 71 → z_u mk q (mi q) c = mk c := fun c g0 g1 => z_un (by omega)
  refine ⟨sg, hc, ?_, ?_, fun c g => ⟨?_, rfl⟩⟩
  · unfold z_Sd
    rw [e s (by omega) (by omega), e (s + 2) (by omega) (by omega), Q0, Q1, Q2, Q3, Q4, Q5, Q6, Q7, Q14]
    refine ⟨k3, k4, k5, k6, k7, k8, c0, c1, c2, fun j j0 j1 => ?_, fun j j0 j1 => ?_⟩
    · rw [e _ (by omega) (by omega), (Qk j j0 j1).1, (Qk j j0 j1).2]; exact hk j j0 j1
    · rw [e _ (by omega) (by omega)]; exact hz j j0 j1
  · rw [Q0, Q1, Q14]
    exact z_Sr_e (z_Sr_m hr hn (fun c g0 g1 => e c (by omega) (by omega))) hw20 (fun k k0 k1 c c0 c1 => Qr k c k0 k1 c0 c1)
  · by_cases x : c = q
    · subst x; exact z_us _ _ _
    · rw [z_un x]; exact hf c g x
