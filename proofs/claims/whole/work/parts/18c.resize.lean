section ZRS
variable {E : z_E} {o : Nat} {m m1 m2 : z_Mi} {r r1 r2 : z_Mr} {x1 x2 w h : Int}
/-- the fields that matter when the class pours -/
def f_rs (n : Int) (P : Int → Int) (w h : Int) : Int → Int := z_v (z_v (z_v (fun _ => 0) 8 w) 9 (y_base (p_rec n P) w h)) 10 1
theorem f_rs8 {n : Int} {P : Int → Int} : f_rs n P w h 8 = w := (z_vn (by decide)).trans ((z_vn (by decide)).trans (z_vs _ _ _))
theorem f_rs9 {n : Int} {P : Int → Int} : f_rs n P w h 9 = y_base (p_rec n P) w h := (z_vn (by decide)).trans (z_vs _ _ _)
theorem f_rs10 {n : Int} {P : Int → Int} : f_rs n P w h 10 = 1 := z_vs _ _ _
def z_rs (E : z_E) (o : Nat) (m : z_Mi) (r : z_Mr) (w h x1 : Int) (m1 : z_Mi) (r1 : z_Mr) : Prop := ((4 ≤ w ∧ w ≤ 20 ∧ 2 ≤ h ∧ h ≤ 8) → x1 = y_many (p_rec (m o 1) (m (o + 1))) w ∧ ∀ Q : Int → Int, g_pg (p_rec (m o 1) (m (o + 1))) Q w h (-(y_base (p_rec (m o 1) (m (o + 1))) w h)) (y_top (p_rec (m o 1) (m (o + 1))) w h - y_base (p_rec (m o 1) (m (o + 1))) w h) (y_bx (p_rec (m o 1) (m (o + 1))) w (m_count (p_rec (m o 1) (m (o + 1)))) (f_rs (m o 1) (m (o + 1)) w h) (y_fr (m (o + 2)) 704) (m_count (p_rec (m o 1) (m (o + 1)))).toNat).2 → p_hd Q → p_out (p_rec (m o 1) (m (o + 1))) Q → z_Z E 0 m r Q (n_rec (m o 1)) m1 r1) ∧ (¬ (4 ≤ w ∧ w ≤ 20 ∧ 2 ≤ h ∧ h ≤ 8) → x1 = -1 ∧ m1 = m ∧ r1 = r)
theorem f_rsz (hJ : z_JJ E o m r) (h1 : z_rs E o m r w h x1 m1 r1) : ∀ c, o ≤ c → m1 c = m c ∧ r1 c = r c := by
  by_cases hA : 4 ≤ w ∧ w ≤ 20 ∧ 2 ≤ h ∧ h ≤ 8
  · obtain ⟨ho, ⟨nx, hX⟩, hMO, hb1, hb⟩ := hJ
    have hR : p_hd (p_rec (m o 1) (m (o + 1))) := p_hd_rec hX.2.2.1 hb1.1
    obtain ⟨-, hz⟩ := h1.1 hA
    obtain ⟨hw0, hw1, hh0, hh1⟩ := hA
    have hQ := y_Q_ok (P := p_rec (m o 1) (m (o + 1))) (L := fun _ => 0) (M := fun _ => 0) (X := m (o + 2)) (F0 := f_rs (m o 1) (m (o + 1)) w h) (U0 := fun _ => 0) (V0 := fun _ => 0) (F1 := f_rs (m o 1) (m (o + 1)) w h) (X1 := fun _ => 0) (U1 := fun _ => 0) (V1 := fun _ => 0) (B := fun _ => 0) (w := w) (h := h) hR hw0 hw1 hh0 hh1 f_rs8 f_rs8 f_rs9 f_rs10 rfl rfl (F' := _) (X' := _) (U' := _) (V' := _) (B' := _) rfl (F := f_rs (m o 1) (m (o + 1)) w h) f_rs8 f_rs9 f_rs10
    exact z_mid ho (hz _ hQ.1 hQ.2.1 hQ.2.2).2
  · obtain ⟨-, e1, e2⟩ := h1.2 hA
    subst e1 e2; exact fun _ _ => ⟨rfl, rfl⟩
def z_rm5 (o : Nat) (m : z_Mi) (n h x : Int) (m1 : z_Mi) (m2 : z_Mi) : Prop := ((4 ≤ n ∧ n ≤ 20 ∧ 2 ≤ h ∧ h ≤ 8) → ∃ F0 U0 V0 F' X' L' M' U' V' B' : Int → Int, x = y_many (p_rec (m o 1) (m (o + 1))) n ∧ m2 = (z_u (z_u (z_u (z_u (z_u (z_u (z_u (z_u m1 (o + 2) X') (o + 3) L') (o + 4) M') (o + 5) U') (o + 6) V') (o + 7) B') o F') (o + 1) (y_land U' V' B' (y_top (p_rec (m o 1) (m (o + 1))) n h) (y_pg n h (y_top (p_rec (m o 1) (m (o + 1))) n h - y_base (p_rec (m o 1) (m (o + 1))) n h) X' (p_rec (m o 1) (m (o + 1)))) ((p_rec (m o 1) (m (o + 1))) 7 + 1))) ∧ (F', X', U', V', B') = y_run (p_rec (m o 1) (m (o + 1))) L' M' (F0, y_fr (m1 (o + 2)) 704, U0, V0, (y_run (p_rec (m o 1) (m (o + 1))) L' M' (z_v (z_v (f_rec (m o)) 8 n) 10 0, m1 (o + 2), m1 (o + 5), m1 (o + 6), (y_bz (m1 (o + 7)) 4))).2.2.2.2) ∧ L' = (y_mk (p_rec (m o 1) (m (o + 1))) 2 (m1 (o + 3)) 4) ∧ M' = (y_mk (p_rec (m o 1) (m (o + 1))) 3 (m1 (o + 4)) 4) ∧ F0 8 = n ∧ F0 9 = y_base (p_rec (m o 1) (m (o + 1))) n h ∧ F0 10 = 1 ∧ F' 1 = f_rec (m o) 1 ∧ (∀ j, -9 ≤ L' j ∧ L' j ≤ 99) ∧ (∀ j, -9 ≤ M' j ∧ M' j ≤ 9999) ∧ (∀ j, 0 ≤ U' j ∧ U' j ≤ 9999) ∧ 0 ≤ F' 9 ∧ F' 9 ≤ 9999) ∧ (¬ (4 ≤ n ∧ n ≤ 20 ∧ 2 ≤ h ∧ h ≤ 8) → x = -1 ∧ m2 = m1)
theorem d_L_resize {n : Int} (hJ : z_JJ E o m r) (hf : ∀ c, o ≤ c → m1 c = m c ∧ r1 c = r c) (hz1 : z_R n) (hz2 : z_R h) : z_mi M_X5_resize E [zo o, zi n, zi h] m1 r1 (fun x m2 r2 => z_rm5 o m n h x m1 m2 ∧ r2 = r1) := by
  obtain ⟨ho, ⟨nx, hX⟩, hMO, hb1, hb2, hb3, hb4, hb5⟩ := id hJ
  have hH := hX.2.2.1
  have hMO1 := z_MO_fr hMO (hf o (by omega)).2
  have g := c_X5_resize (mi := m1) (mr := r1) (F := m o) (P := m (o + 1)) (X := m1 (o + 2)) (L := m1 (o + 3)) (M := m1 (o + 4)) (U := m1 (o + 5)) (V := m1 (o + 6)) (B := m1 (o + 7)) hMO1 hz1 hz2 hH hb1.1 hb1.2 (by rw [(hf (o + 3) (by omega)).1]; exact hb3) (by rw [(hf (o + 4) (by omega)).1]; exact hb4) (by rw [(hf (o + 5) (by omega)).1]; exact hb5) hb2.1 hb2.2
  rw [z_eight (hf o (by omega)).1 (hf (o + 1) (by omega)).1] at g
  refine z_mi_w g (fun x m2 r2 hq => ?_)
  obtain ⟨a, b, c⟩ := hq
  exact ⟨⟨a, b⟩, c⟩
theorem j_rs (hJ : z_JJ E o m r) (h1 : z_rs E o m r w h x1 m1 r1) (h2 : z_rm5 o m w h x2 m1 m2 ∧ r2 = r1) : x2 = x1 ∧ z_JJ E o m2 r2 := by
  have hf := f_rsz hJ h1
  obtain ⟨h2, rfl⟩ := h2
  by_cases hA : 4 ≤ w ∧ w ≤ 20 ∧ 2 ≤ h ∧ h ≤ 8
  · obtain ⟨ho, ⟨nx, hX⟩, hMO, hb1, hb2, hb3, hb4, hb5⟩ := hJ
    have hR : p_hd (p_rec (m o 1) (m (o + 1))) := p_hd_rec hX.2.2.1 hb1.1
    obtain ⟨ex1, hz⟩ := h1.1 hA
    obtain ⟨F0, U0, V0, F', X', L', M', U', V', B', ex2, em2, hG, hL, hM, g8, g9, g10, hF1, bL, bM, bU, b9, b9'⟩ := h2.1 hA
    obtain ⟨hw0, hw1, hh0, hh1⟩ := hA
    rw [(hf (o + 2) (by omega)).1] at hG
    have hQ := y_Q_ok (w := w) (h := h) hR hw0 hw1 hh0 hh1 (show (z_v (z_v (f_rec (m o)) 8 w) 10 0) 8 = w from (z_vn (by decide)).trans (z_vs _ _ _)) g8 g9 g10 hL hM hG (F := f_rs (m o 1) (m (o + 1)) w h) f_rs8 f_rs9 f_rs10
    obtain ⟨⟨nx2, hX2⟩, -⟩ := hz _ hQ.1 hQ.2.1 hQ.2.2
    refine ⟨ex2.trans ex1.symm, ?_⟩
    generalize hQe : y_land U' V' B' (y_top (p_rec (m o 1) (m (o + 1))) w h) (y_pg w h (y_top (p_rec (m o 1) (m (o + 1))) w h - y_base (p_rec (m o 1) (m (o + 1))) w h) X' (p_rec (m o 1) (m (o + 1)))) ((p_rec (m o 1) (m (o + 1))) 7 + 1) = Q at em2 hX2
    have a1 : m2 (o + 1) = Q := by rw [em2, z_us]
    have a0 : m2 o = F' := by rw [em2, z_un (by omega), z_us]
    have a3 : m2 (o + 3) = L' := by rw [em2, z_un (by omega), z_un (by omega), z_un (by omega), z_un (by omega), z_un (by omega), z_un (by omega), z_us]
    have a4 : m2 (o + 4) = M' := by rw [em2, z_un (by omega), z_un (by omega), z_un (by omega), z_un (by omega), z_un (by omega), z_us]
    have a5 : m2 (o + 5) = U' := by rw [em2, z_un (by omega), z_un (by omega), z_un (by omega), z_un (by omega), z_us]
    have hn := n_rec_f (m o 1) hb1.2 (m o) rfl
    refine ⟨ho, ⟨nx2, ?_⟩, z_MO_fr hMO (hf o (by omega)).2, ?_⟩
    · rw [a1, a0, hF1, hn]
      exact z_X_fr hX2 (fun c c0 c1 => ⟨by rw [em2, z_un (by omega), z_un (by omega), z_un (by omega), z_un (by omega), z_un (by omega), z_un (by omega), z_un (by omega), z_un (by omega)], rfl⟩)
    · unfold z_Jb
      rw [a0, a3, a4, a5, hF1, hn]
      refine ⟨?_, ⟨b9, b9'⟩, bL, bM, bU⟩
      unfold n_rec; split <;> omega
  · obtain ⟨e1, e4, e5⟩ := h1.2 hA
    obtain ⟨e2, e3⟩ := h2.2 hA
    exact ⟨e2.trans e1.symm, by rw [e3, e4, e5]; exact hJ⟩
end ZRS
