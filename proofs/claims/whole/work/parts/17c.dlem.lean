theorem z_Dl {nm : String} {len pc n b L : Nat} {xs : Nat → Int32} {i : Instr} (h : z_D len M_L_law pc n i) : z_D len (M_W nm b L xs) pc n i := h
theorem z_Jl {nm : String} {pc n tgt b L : Nat} {off : Int} {xs : Nat → Int32} {i : Instr} (h : z_J M_L_law pc n tgt off i) : z_J (M_W nm b L xs) pc n tgt off i := h
section ZLW
variable {E : z_E} {o : Nat} {m m1 m2 : z_Mi} {r r1 r2 : z_Mr} {x1 x2 v w w2 : Int} {Q : Int → Int} {A C : Prop}
theorem z_one (e1 : m1 (o + 1) = m (o + 1)) : z_u m1 (o + 1) (m (o + 1)) = m1 := by rw [← e1, z_uself]
theorem f_op (hJ : z_JJ E o m r) (h1 : (A → x1 = v ∧ z_Z E 0 m r Q (n_rec (m o 1)) m1 r1) ∧ (¬ A → x1 = w ∧ m1 = m ∧ r1 = r)) : ∀ c, o ≤ c → m1 c = m c ∧ r1 c = r c := by
  by_cases hA : A
  · exact z_mid hJ.1 (h1.1 hA).2.2
  · obtain ⟨-, e1, e2⟩ := h1.2 hA
    subst e1 e2; exact fun _ _ => ⟨rfl, rfl⟩
theorem f_op3 (hJ : z_JJ E o m r) (h1 : (A ∧ C → x1 = v ∧ z_Z E 0 m r Q (n_rec (m o 1)) m1 r1) ∧ (¬ A → x1 = w ∧ m1 = m ∧ r1 = r) ∧ (A ∧ ¬ C → x1 = w2 ∧ m1 = m ∧ r1 = r)) : ∀ c, o ≤ c → m1 c = m c ∧ r1 c = r c := by
  by_cases hA : A
  · by_cases hC : C
    · exact z_mid hJ.1 (h1.1 ⟨hA, hC⟩).2.2
    · obtain ⟨-, e1, e2⟩ := h1.2.2 ⟨hA, hC⟩
      subst e1 e2; exact fun _ _ => ⟨rfl, rfl⟩
  · obtain ⟨-, e1, e2⟩ := h1.2.1 hA
    subst e1 e2; exact fun _ _ => ⟨rfl, rfl⟩
theorem f_undo (hJ : z_JJ E o m r) (h1 : (m o 1 = 0 → x1 = -2 ∧ m1 = m ∧ r1 = r) ∧ (m o 1 ≠ 0 → x1 = m o 1 - 1 ∧ z_Z E 0 m r Q (m o 1 - 1) m1 r1)) : ∀ c, o ≤ c → m1 c = m c ∧ r1 c = r c := by
  by_cases hA : m o 1 = 0
  · obtain ⟨-, e1, e2⟩ := h1.1 hA
    subst e1 e2; exact fun _ _ => ⟨rfl, rfl⟩
  · exact z_mid hJ.1 (h1.2 hA).2.2
theorem f_rd (hJ : z_JJ E o m r) (h1 : x1 = v ∧ m1 = m ∧ r1 = r) : ∀ c, o ≤ c → m1 c = m c ∧ r1 c = r c := by
  obtain ⟨-, e1, e2⟩ := h1
  subst e1 e2; exact fun _ _ => ⟨rfl, rfl⟩
theorem f_rq {α : Type} {x v : α} (hJ : z_JJ E o m r) (h1 : x = v ∧ ∃ (G' : Int → Int) (f' : Int → Option Nat), m1 = z_u m (0 + 73) G' ∧ r1 = z_u r (0 + 73) f') : ∀ c, o ≤ c → m1 c = m c ∧ r1 c = r c := by
  obtain ⟨-, G, f, e1, e2⟩ := h1
  have := hJ.1
  subst e1 e2; exact fun c hc => ⟨z_un (by omega), z_un (by omega)⟩
theorem j_rp {α : Type} {x y v : α} (hJ : z_JJ E o m r) (h1 : x = v ∧ ∃ (G' : Int → Int) (f' : Int → Option Nat), m1 = z_u m (0 + 73) G' ∧ r1 = z_u r (0 + 73) f') (h2 : ∃ F' U' V' B' : Int → Int, y = v ∧ m2 = (z_u (z_u (z_u (z_u (z_u (z_u (z_u (z_u m1 (o + 2) (m1 (o + 2))) (o + 3) (m1 (o + 3))) (o + 4) (m1 (o + 4))) (o + 5) U') (o + 6) V') (o + 7) B') o F') (o + 1) (m (o + 1))) ∧ r2 = r1 ∧ (∀ j, j ≠ 8 → j ≠ 10 → j ≠ 11 → j ≠ 12 → F' j = m o j) ∧ (∀ j, 0 ≤ U' j ∧ U' j ≤ 9999)) : y = x ∧ z_JJ E o m2 r2 := by
  have hf := f_rq hJ h1
  obtain ⟨e1, G, f, e2, e3⟩ := h1
  obtain ⟨F', U', V', B', e4, e5, e6, hF, hU⟩ := h2
  have hJ1 : z_JJ E o m1 r1 := by rw [e2, e3]; exact z_JJ_q hJ
  refine ⟨e4.trans e1.symm, ?_⟩
  rw [e6]
  exact z_JJ_p (F := F') (U := U') (V := V') (B := B') hJ1 (fun j a b c d => by rw [(hf o (by omega)).1]; exact hF j a b c d) hU (by rw [e5, (hf (o + 1) (by omega)).1])
theorem j_wf {n nx : Int} {P : Int → Int} (hX : z_X E 0 m r P n nx) : 128 ≤ P (15 + 22 * (24 + P 4) + P 5) → 1 ≤ P 5 := by
  intro h
  obtain ⟨h1, h2, hH, ⟨sg, hS⟩, hM⟩ := hX
  obtain ⟨hw0, hw1, hh0, hh1, hf0, hf1, hf2, hr0, hr1, hc0, hc1, hp0, hp1, hk0, hk1, hi0, hi1, hkp, hP⟩ := id hH
  have hw := (hS.2.2.2.2 (P 14 + P 4) (by omega) (by omega)).2.1 (P 5) hc0 hc1
  have e : p_rows P (P 14 + P 4) (P 5) = P (15 + 22 * (24 + P 4) + P 5) := by
    show P (15 + 22 * m_slot P (P 14 + P 4) + P 5) = _
    have : m_slot P (P 14 + P 4) = 24 + P 4 := by unfold m_slot; rw [if_neg (by omega)]; omega
    rw [this]
  rw [e] at hw
  omega
theorem d_L_feed {code : Int} (hJ : z_JJ E o m r) (hf : ∀ c, o ≤ c → m1 c = m c ∧ r1 c = r c) (hz1 : z_R code) : z_mi M_X5_feed E [zo o, zi code] m1 r1 (fun x m2 r2 => (((8 ≤ code ∧ code ≤ 10) ∨ code = 13 ∨ (32 ≤ code ∧ code ≤ 126)) → x = (if 32 ≤ code then p_write code (p_rec ((m o) 1) (m (o + 1))) else p_move code (p_rec ((m o) 1) (m (o + 1)))) 14 ∧ m2 = z_u (z_u m1 o (f_rec (m o))) (o + 1) (if 32 ≤ code then p_write code (p_rec ((m o) 1) (m (o + 1))) else p_move code (p_rec ((m o) 1) (m (o + 1))))) ∧ (¬ (((8 ≤ code ∧ code ≤ 10) ∨ code = 13 ∨ (32 ≤ code ∧ code ≤ 126))) → x = -1 ∧ m2 = m1) ∧ r2 = r1) := by
  obtain ⟨ho, ⟨nx, hX⟩, hMO, hb1, hb2, hb3, hb4, hb5⟩ := id hJ
  have hH := hX.2.2.1
  have hMO1 := z_MO_fr hMO (hf o (by omega)).2
  have h := c_X5_feed (mi := m1) (mr := r1) (F := m o) (P := m (o + 1)) hMO1 hH hb1.1 hb1.2 hz1
  rw [z_two (hf o (by omega)).1 (hf (o + 1) (by omega)).1] at h
  exact h
theorem d_L_moveTo {row column : Int} (hJ : z_JJ E o m r) (hf : ∀ c, o ≤ c → m1 c = m c ∧ r1 c = r c) (hz1 : z_R row) (hz2 : z_R column) : z_mi M_X5_moveTo E [zo o, zi row, zi column] m1 r1 (fun x m2 r2 => (((0 ≤ row ∧ row ≤ (m (o + 1)) 1 - 1) ∧ (0 ≤ column ∧ column ≤ (m (o + 1)) 0 - 1)) → x = (m (o + 1)) 0 * (m (o + 1)) 4 + (m (o + 1)) 5 ∧ m2 = z_u (z_u m1 o (f_rec (m o))) (o + 1) (p_goes row column (p_rec ((m o) 1) (m (o + 1))))) ∧ (¬ (((0 ≤ row ∧ row ≤ (m (o + 1)) 1 - 1) ∧ (0 ≤ column ∧ column ≤ (m (o + 1)) 0 - 1))) → x = -1 ∧ m2 = m1) ∧ r2 = r1) := by
  obtain ⟨ho, ⟨nx, hX⟩, hMO, hb1, hb2, hb3, hb4, hb5⟩ := id hJ
  have hH := hX.2.2.1
  have hMO1 := z_MO_fr hMO (hf o (by omega)).2
  have h := c_X5_moveTo (mi := m1) (mr := r1) (F := m o) (P := m (o + 1)) hMO1 hH hb1.1 hb1.2 hz1 hz2
  rw [z_two (hf o (by omega)).1 (hf (o + 1) (by omega)).1] at h
  exact h
theorem d_L_setRegion {a b : Int} (hJ : z_JJ E o m r) (hf : ∀ c, o ≤ c → m1 c = m c ∧ r1 c = r c) (hz1 : z_R a) (hz2 : z_R b) : z_mi M_X5_setRegion E [zo o, zi a, zi b] m1 r1 (fun x m2 r2 => (((0 ≤ a ∧ a ≤ (m (o + 1)) 1 - 1) ∧ (0 ≤ b ∧ b ≤ (m (o + 1)) 1 - 1) ∧ a < b) → x = b - a + 1 ∧ m2 = z_u (z_u m1 o (f_rec (m o))) (o + 1) (p_reg a b (p_rec ((m o) 1) (m (o + 1))))) ∧ (¬ (((0 ≤ a ∧ a ≤ (m (o + 1)) 1 - 1) ∧ (0 ≤ b ∧ b ≤ (m (o + 1)) 1 - 1) ∧ a < b)) → x = -1 ∧ m2 = m1) ∧ r2 = r1) := by
  obtain ⟨ho, ⟨nx, hX⟩, hMO, hb1, hb2, hb3, hb4, hb5⟩ := id hJ
  have hH := hX.2.2.1
  have hMO1 := z_MO_fr hMO (hf o (by omega)).2
  have h := c_X5_setRegion (mi := m1) (mr := r1) (F := m o) (P := m (o + 1)) hMO1 hH hb1.1 hb1.2 hz1 hz2
  rw [z_two (hf o (by omega)).1 (hf (o + 1) (by omega)).1] at h
  exact h
theorem d_L_eraseLine {kind : Int} (hJ : z_JJ E o m r) (hf : ∀ c, o ≤ c → m1 c = m c ∧ r1 c = r c) (hz1 : z_R kind) : z_mi M_X5_eraseLine E [zo o, zi kind] m1 r1 (fun x m2 r2 => ((0 ≤ kind ∧ kind ≤ 2) → x = m_fillA (p_rec ((m o) 1) (m (o + 1))) - m_fillA (p_eline kind (p_rec ((m o) 1) (m (o + 1)))) ∧ m2 = z_u (z_u m1 o (f_rec (m o))) (o + 1) (p_eline kind (p_rec ((m o) 1) (m (o + 1))))) ∧ (¬ ((0 ≤ kind ∧ kind ≤ 2)) → x = -1 ∧ m2 = m1) ∧ r2 = r1) := by
  obtain ⟨ho, ⟨nx, hX⟩, hMO, hb1, hb2, hb3, hb4, hb5⟩ := id hJ
  have hH := hX.2.2.1
  have hMO1 := z_MO_fr hMO (hf o (by omega)).2
  have h := c_X5_eraseLine (mi := m1) (mr := r1) (F := m o) (P := m (o + 1)) hMO1 hH hb1.1 hb1.2 hz1
  rw [z_two (hf o (by omega)).1 (hf (o + 1) (by omega)).1] at h
  exact h
theorem d_L_eraseScreen {kind : Int} (hJ : z_JJ E o m r) (hf : ∀ c, o ≤ c → m1 c = m c ∧ r1 c = r c) (hz1 : z_R kind) : z_mi M_X5_eraseScreen E [zo o, zi kind] m1 r1 (fun x m2 r2 => ((0 ≤ kind ∧ kind ≤ 2) → x = m_fillA (p_rec ((m o) 1) (m (o + 1))) - m_fillA (p_escr kind (p_rec ((m o) 1) (m (o + 1)))) ∧ m2 = z_u (z_u m1 o (f_rec (m o))) (o + 1) (p_escr kind (p_rec ((m o) 1) (m (o + 1))))) ∧ (¬ ((0 ≤ kind ∧ kind ≤ 2)) → x = -1 ∧ m2 = m1) ∧ r2 = r1) := by
  obtain ⟨ho, ⟨nx, hX⟩, hMO, hb1, hb2, hb3, hb4, hb5⟩ := id hJ
  have hH := hX.2.2.1
  have hMO1 := z_MO_fr hMO (hf o (by omega)).2
  have h := c_X5_eraseScreen (mi := m1) (mr := r1) (F := m o) (P := m (o + 1)) hMO1 hH hb1.1 hb1.2 hz1
  rw [z_two (hf o (by omega)).1 (hf (o + 1) (by omega)).1] at h
  exact h
theorem d_L_insertRows {n : Int} (hJ : z_JJ E o m r) (hf : ∀ c, o ≤ c → m1 c = m c ∧ r1 c = r c) (hz1 : z_R n) : z_mi M_X5_insertRows E [zo o, zi n] m1 r1 (fun x m2 r2 => ((1 ≤ n ∧ n ≤ 8) ∧ ((m (o + 1)) 2 ≤ (m (o + 1)) 4 ∧ (m (o + 1)) 4 ≤ (m (o + 1)) 3) → x = m_frows (p_rec ((m o) 1) (m (o + 1))) ((p_rec ((m o) 1) (m (o + 1))) 3 - m_many n (p_rec ((m o) 1) (m (o + 1))) + 1) (m_many n (p_rec ((m o) 1) (m (o + 1)))).toNat ∧ m2 = z_u (z_u m1 o (f_rec (m o))) (o + 1) (p_insr n (p_rec ((m o) 1) (m (o + 1))))) ∧ (¬ (1 ≤ n ∧ n ≤ 8) → x = -1 ∧ m2 = m1) ∧ ((1 ≤ n ∧ n ≤ 8) ∧ ¬ ((m (o + 1)) 2 ≤ (m (o + 1)) 4 ∧ (m (o + 1)) 4 ≤ (m (o + 1)) 3) → x = -2 ∧ m2 = m1) ∧ r2 = r1) := by
  obtain ⟨ho, ⟨nx, hX⟩, hMO, hb1, hb2, hb3, hb4, hb5⟩ := id hJ
  have hH := hX.2.2.1
  have hMO1 := z_MO_fr hMO (hf o (by omega)).2
  have h := c_X5_insertRows (mi := m1) (mr := r1) (F := m o) (P := m (o + 1)) hMO1 hH hb1.1 hb1.2 hz1
  rw [z_two (hf o (by omega)).1 (hf (o + 1) (by omega)).1] at h
  exact h
theorem d_L_deleteRows {n : Int} (hJ : z_JJ E o m r) (hf : ∀ c, o ≤ c → m1 c = m c ∧ r1 c = r c) (hz1 : z_R n) : z_mi M_X5_deleteRows E [zo o, zi n] m1 r1 (fun x m2 r2 => ((1 ≤ n ∧ n ≤ 8) ∧ ((m (o + 1)) 2 ≤ (m (o + 1)) 4 ∧ (m (o + 1)) 4 ≤ (m (o + 1)) 3) → x = m_frows (p_rec ((m o) 1) (m (o + 1))) ((p_rec ((m o) 1) (m (o + 1))) 4) (m_many n (p_rec ((m o) 1) (m (o + 1)))).toNat ∧ m2 = z_u (z_u m1 o (f_rec (m o))) (o + 1) (p_delr n (p_rec ((m o) 1) (m (o + 1))))) ∧ (¬ (1 ≤ n ∧ n ≤ 8) → x = -1 ∧ m2 = m1) ∧ ((1 ≤ n ∧ n ≤ 8) ∧ ¬ ((m (o + 1)) 2 ≤ (m (o + 1)) 4 ∧ (m (o + 1)) 4 ≤ (m (o + 1)) 3) → x = -2 ∧ m2 = m1) ∧ r2 = r1) := by
  obtain ⟨ho, ⟨nx, hX⟩, hMO, hb1, hb2, hb3, hb4, hb5⟩ := id hJ
  have hH := hX.2.2.1
  have hMO1 := z_MO_fr hMO (hf o (by omega)).2
  have h := c_X5_deleteRows (mi := m1) (mr := r1) (F := m o) (P := m (o + 1)) hMO1 hH hb1.1 hb1.2 hz1
  rw [z_two (hf o (by omega)).1 (hf (o + 1) (by omega)).1] at h
  exact h
theorem d_L_insertCells {n : Int} (hJ : z_JJ E o m r) (hf : ∀ c, o ≤ c → m1 c = m c ∧ r1 c = r c) (hz1 : z_R n) : z_mi M_X5_insertCells E [zo o, zi n] m1 r1 (fun x m2 r2 => ((1 ≤ n ∧ n ≤ 20) → x = m_fill (p_rec ((m o) 1) (m (o + 1))) (24 + (p_rec ((m o) 1) (m (o + 1))) 4) - m_fill (p_insc n (p_rec ((m o) 1) (m (o + 1)))) (24 + (p_rec ((m o) 1) (m (o + 1))) 4) ∧ m2 = z_u (z_u m1 o (f_rec (m o))) (o + 1) (p_insc n (p_rec ((m o) 1) (m (o + 1))))) ∧ (¬ ((1 ≤ n ∧ n ≤ 20)) → x = -1 ∧ m2 = m1) ∧ r2 = r1) := by
  obtain ⟨ho, ⟨nx, hX⟩, hMO, hb1, hb2, hb3, hb4, hb5⟩ := id hJ
  have hH := hX.2.2.1
  have hMO1 := z_MO_fr hMO (hf o (by omega)).2
  have hwf := j_wf hX
  have h := c_X5_insertCells (mi := m1) (mr := r1) (F := m o) (P := m (o + 1)) hMO1 hH hb1.1 hb1.2 hz1 hwf
  rw [z_two (hf o (by omega)).1 (hf (o + 1) (by omega)).1] at h
  exact h
theorem d_L_deleteCells {n : Int} (hJ : z_JJ E o m r) (hf : ∀ c, o ≤ c → m1 c = m c ∧ r1 c = r c) (hz1 : z_R n) : z_mi M_X5_deleteCells E [zo o, zi n] m1 r1 (fun x m2 r2 => ((1 ≤ n ∧ n ≤ 20) → x = m_fill (p_rec ((m o) 1) (m (o + 1))) (24 + (p_rec ((m o) 1) (m (o + 1))) 4) - m_fill (p_delc n (p_rec ((m o) 1) (m (o + 1)))) (24 + (p_rec ((m o) 1) (m (o + 1))) 4) ∧ m2 = z_u (z_u m1 o (f_rec (m o))) (o + 1) (p_delc n (p_rec ((m o) 1) (m (o + 1))))) ∧ (¬ ((1 ≤ n ∧ n ≤ 20)) → x = -1 ∧ m2 = m1) ∧ r2 = r1) := by
  obtain ⟨ho, ⟨nx, hX⟩, hMO, hb1, hb2, hb3, hb4, hb5⟩ := id hJ
  have hH := hX.2.2.1
  have hMO1 := z_MO_fr hMO (hf o (by omega)).2
  have hwf := j_wf hX
  have h := c_X5_deleteCells (mi := m1) (mr := r1) (F := m o) (P := m (o + 1)) hMO1 hH hb1.1 hb1.2 hz1 hwf
  rw [z_two (hf o (by omega)).1 (hf (o + 1) (by omega)).1] at h
  exact h
theorem d_L_keep (hJ : z_JJ E o m r) (hf : ∀ c, o ≤ c → m1 c = m c ∧ r1 c = r c)  : z_mi M_X5_keep E [zo o] m1 r1 (fun x m2 r2 => ((m (o + 1)) 7 ≠ 3 → x = (m (o + 1)) 7 + 1 ∧ m2 = z_u (z_u m1 o (f_rec (m o))) (o + 1) (p_kp (p_rec ((m o) 1) (m (o + 1))))) ∧ (¬ (m (o + 1)) 7 ≠ 3 → x = -3 ∧ m2 = m1) ∧ r2 = r1) := by
  obtain ⟨ho, ⟨nx, hX⟩, hMO, hb1, hb2, hb3, hb4, hb5⟩ := id hJ
  have hH := hX.2.2.1
  have hMO1 := z_MO_fr hMO (hf o (by omega)).2
  have h := c_X5_keep (mi := m1) (mr := r1) (F := m o) (P := m (o + 1)) hMO1 hH hb1.1 hb1.2
  rw [z_two (hf o (by omega)).1 (hf (o + 1) (by omega)).1] at h
  exact h
theorem d_L_back (hJ : z_JJ E o m r) (hf : ∀ c, o ≤ c → m1 c = m c ∧ r1 c = r c)  : z_mi M_X5_back E [zo o] m1 r1 (fun x m2 r2 => ((m (o + 1)) 7 ≠ 0 → x = (m (o + 1)) 7 - 1 ∧ m2 = z_u (z_u m1 o (f_rec (m o))) (o + 1) (p_bk (p_rec ((m o) 1) (m (o + 1))))) ∧ (¬ (m (o + 1)) 7 ≠ 0 → x = -2 ∧ m2 = m1) ∧ r2 = r1) := by
  obtain ⟨ho, ⟨nx, hX⟩, hMO, hb1, hb2, hb3, hb4, hb5⟩ := id hJ
  have hH := hX.2.2.1
  have hMO1 := z_MO_fr hMO (hf o (by omega)).2
  have h := c_X5_back (mi := m1) (mr := r1) (F := m o) (P := m (o + 1)) hMO1 hH hb1.1 hb1.2
  rw [z_two (hf o (by omega)).1 (hf (o + 1) (by omega)).1] at h
  exact h
theorem d_L_cell {row c : Int} (hJ : z_JJ E o m r) (hf : ∀ c, o ≤ c → m1 c = m c ∧ r1 c = r c) (hz1 : z_R row) (hz2 : z_R c) : z_mi M_X5_cell E [zo o, zi row, zi c] m1 r1 (fun x m2 r2 => x = m_cellA (m (o + 1)) row c ∧ m2 = m1 ∧ r2 = r1) := by
  obtain ⟨ho, ⟨nx, hX⟩, hMO, hb1, hb2, hb3, hb4, hb5⟩ := id hJ
  have hH := hX.2.2.1
  have hMO1 := z_MO_fr hMO (hf o (by omega)).2
  have h := c_X5_cell (mi := m1) (mr := r1) (P := m (o + 1)) hMO1 hH hz1 hz2
  rw [z_one (hf (o + 1) (by omega)).1] at h
  exact h
theorem d_L_row {row what : Int} (hJ : z_JJ E o m r) (hf : ∀ c, o ≤ c → m1 c = m c ∧ r1 c = r c) (hz1 : z_R row) (hz2 : z_R what) : z_mi M_X5_row E [zo o, zi row, zi what] m1 r1 (fun x m2 r2 => x = m_rowA (m (o + 1)) row what ∧ m2 = m1 ∧ r2 = r1) := by
  obtain ⟨ho, ⟨nx, hX⟩, hMO, hb1, hb2, hb3, hb4, hb5⟩ := id hJ
  have hH := hX.2.2.1
  have hMO1 := z_MO_fr hMO (hf o (by omega)).2
  have h := c_X5_row (mi := m1) (mr := r1) (P := m (o + 1)) hMO1 hH hz1 hz2
  rw [z_one (hf (o + 1) (by omega)).1] at h
  exact h
theorem d_L_line {line what : Int} (hJ : z_JJ E o m r) (hf : ∀ c, o ≤ c → m1 c = m c ∧ r1 c = r c) (hz1 : z_R line) (hz2 : z_R what) : z_mi M_X5_line E [zo o, zi line, zi what] m1 r1 (fun x m2 r2 => x = m_lineA (m (o + 1)) line what ∧ m2 = m1 ∧ r2 = r1) := by
  obtain ⟨ho, ⟨nx, hX⟩, hMO, hb1, hb2, hb3, hb4, hb5⟩ := id hJ
  have hH := hX.2.2.1
  have hMO1 := z_MO_fr hMO (hf o (by omega)).2
  have h := c_X5_line (mi := m1) (mr := r1) (P := m (o + 1)) hMO1 hH hz1 hz2
  rw [z_one (hf (o + 1) (by omega)).1] at h
  exact h
theorem d_L_sign {line k : Int} (hJ : z_JJ E o m r) (hf : ∀ c, o ≤ c → m1 c = m c ∧ r1 c = r c) (hz1 : z_R line) (hz2 : z_R k) : z_mi M_X5_sign E [zo o, zi line, zi k] m1 r1 (fun x m2 r2 => x = m_signA (m (o + 1)) line k ∧ m2 = m1 ∧ r2 = r1) := by
  obtain ⟨ho, ⟨nx, hX⟩, hMO, hb1, hb2, hb3, hb4, hb5⟩ := id hJ
  have hH := hX.2.2.1
  have hMO1 := z_MO_fr hMO (hf o (by omega)).2
  have h := c_X5_sign (mi := m1) (mr := r1) (P := m (o + 1)) hMO1 hH hz1 hz2
  rw [z_one (hf (o + 1) (by omega)).1] at h
  exact h
theorem d_L_cursor {w what : Int} (hJ : z_JJ E o m r) (hf : ∀ c, o ≤ c → m1 c = m c ∧ r1 c = r c) (hz1 : z_R w) (hz2 : z_R what) : z_mi M_X5_cursor E [zo o, zi w, zi what] m1 r1 (fun x m2 r2 => x = m_curA (m (o + 1)) w what ∧ m2 = m1 ∧ r2 = r1) := by
  obtain ⟨ho, ⟨nx, hX⟩, hMO, hb1, hb2, hb3, hb4, hb5⟩ := id hJ
  have hH := hX.2.2.1
  have hMO1 := z_MO_fr hMO (hf o (by omega)).2
  have h := c_X5_cursor (mi := m1) (mr := r1) (P := m (o + 1)) hMO1 hH hz1 hz2
  rw [z_one (hf (o + 1) (by omega)).1] at h
  exact h
theorem d_L_ifWidth {n : Int} (hJ : z_JJ E o m r) (hf : ∀ c, o ≤ c → m1 c = m c ∧ r1 c = r c) (hz1 : z_R n) : z_mi M_X5_ifWidth E [zo o, zi n] m1 r1 (fun x m2 r2 => ∃ F' U' V' B' : Int → Int, x = (if 4 ≤ n ∧ n ≤ 20 then y_many (m (o + 1)) n else -1) ∧ m2 = (z_u (z_u (z_u (z_u (z_u (z_u (z_u (z_u m1 (o + 2) (m1 (o + 2))) (o + 3) (m1 (o + 3))) (o + 4) (m1 (o + 4))) (o + 5) U') (o + 6) V') (o + 7) B') o F') (o + 1) (m (o + 1))) ∧ r2 = r1 ∧ (∀ j, j ≠ 8 → j ≠ 10 → j ≠ 11 → j ≠ 12 → F' j = m o j) ∧ (∀ j, 0 ≤ U' j ∧ U' j ≤ 9999)) := by
  obtain ⟨ho, ⟨nx, hX⟩, hMO, hb1, hb2, hb3, hb4, hb5⟩ := id hJ
  have hH := hX.2.2.1
  have hMO1 := z_MO_fr hMO (hf o (by omega)).2
  have h := c_X5_ifWidth (mi := m1) (mr := r1) (F := m o) (P := m (o + 1)) (X := m1 (o + 2)) (L := m1 (o + 3)) (M := m1 (o + 4)) (U := m1 (o + 5)) (V := m1 (o + 6)) (B := m1 (o + 7)) hMO1 hH (by rw [(hf (o + 3) (by omega)).1]; exact hb3) (by rw [(hf (o + 4) (by omega)).1]; exact hb4) (by rw [(hf (o + 5) (by omega)).1]; exact hb5) hz1 hb2.1 hb2.2
  rw [z_eight (hf o (by omega)).1 (hf (o + 1) (by omega)).1] at h
  exact h
theorem d_L_widthFor {n : Int} (hJ : z_JJ E o m r) (hf : ∀ c, o ≤ c → m1 c = m c ∧ r1 c = r c) (hz1 : z_R n) : z_mi M_X5_widthFor E [zo o, zi n] m1 r1 (fun x m2 r2 => ∃ F' U' V' B' : Int → Int, x = (if 1 ≤ n ∧ n ≤ 40 then y_wf (m (o + 1)) n 17 4 else -1) ∧ m2 = (z_u (z_u (z_u (z_u (z_u (z_u (z_u (z_u m1 (o + 2) (m1 (o + 2))) (o + 3) (m1 (o + 3))) (o + 4) (m1 (o + 4))) (o + 5) U') (o + 6) V') (o + 7) B') o F') (o + 1) (m (o + 1))) ∧ r2 = r1 ∧ (∀ j, j ≠ 8 → j ≠ 10 → j ≠ 11 → j ≠ 12 → F' j = m o j) ∧ (∀ j, 0 ≤ U' j ∧ U' j ≤ 9999)) := by
  obtain ⟨ho, ⟨nx, hX⟩, hMO, hb1, hb2, hb3, hb4, hb5⟩ := id hJ
  have hH := hX.2.2.1
  have hMO1 := z_MO_fr hMO (hf o (by omega)).2
  have h := c_X5_widthFor (mi := m1) (mr := r1) (F := m o) (P := m (o + 1)) (X := m1 (o + 2)) (L := m1 (o + 3)) (M := m1 (o + 4)) (U := m1 (o + 5)) (V := m1 (o + 6)) (B := m1 (o + 7)) hMO1 hH (by rw [(hf (o + 3) (by omega)).1]; exact hb3) (by rw [(hf (o + 4) (by omega)).1]; exact hb4) (by rw [(hf (o + 5) (by omega)).1]; exact hb5) hz1 hb2.1 hb2.2
  rw [z_eight (hf o (by omega)).1 (hf (o + 1) (by omega)).1] at h
  exact h
theorem d_L_told {what : Int} (hJ : z_JJ E o m r) (hf : ∀ c, o ≤ c → m1 c = m c ∧ r1 c = r c) (hz1 : z_R what) : z_mi M_X5_told E [zo o, zi what] m1 r1 (fun x m2 r2 => x = m_toldA (m (o + 1)) ((m o) 1) what ∧ m2 = m1 ∧ r2 = r1) := by
  obtain ⟨ho, ⟨nx, hX⟩, hMO, hb1, hb2, hb3, hb4, hb5⟩ := id hJ
  have hH := hX.2.2.1
  have hMO1 := z_MO_fr hMO (hf o (by omega)).2
  have h := c_X5_told (mi := m1) (mr := r1) (F := m o) (P := m (o + 1)) hMO1 hH hb1.1 hb1.2 hz1
  rw [z_two (hf o (by omega)).1 (hf (o + 1) (by omega)).1] at h
  exact h
theorem d_L_undo (hJ : z_JJ E o m r) (hf : ∀ c, o ≤ c → m1 c = m c ∧ r1 c = r c)  : z_mi M_X5_undo E [zo o] m1 r1 (fun x m2 r2 => ((m o) 1 = 0 → x = -2 ∧ m2 = m1) ∧ ((m o) 1 ≠ 0 → x = (m o) 1 - 1 ∧ m2 = z_u (z_u m1 o (z_v (m o) 1 ((m o) 1 - 1))) (o + 1) (p_und ((m o) 1) (m (o + 1)))) ∧ r2 = r1) := by
  obtain ⟨ho, ⟨nx, hX⟩, hMO, hb1, hb2, hb3, hb4, hb5⟩ := id hJ
  have hH := hX.2.2.1
  have hMO1 := z_MO_fr hMO (hf o (by omega)).2
  have h := c_X5_undo (mi := m1) (mr := r1) (F := m o) (P := m (o + 1)) hMO1 hb1.1 hb1.2
  rw [z_two (hf o (by omega)).1 (hf (o + 1) (by omega)).1] at h
  exact h
theorem d_L_digest (hJ : z_JJ E o m r) (hf : ∀ c, o ≤ c → m1 c = m c ∧ r1 c = r c)  : z_ml M_X5_digest E [zo o] m1 r1 (fun x m2 r2 => ∃ F' U' V' B' : Int → Int, x = y_dig (m (o + 1)) (m o 1) ∧ m2 = (z_u (z_u (z_u (z_u (z_u (z_u (z_u (z_u m1 (o + 2) (m1 (o + 2))) (o + 3) (m1 (o + 3))) (o + 4) (m1 (o + 4))) (o + 5) U') (o + 6) V') (o + 7) B') o F') (o + 1) (m (o + 1))) ∧ r2 = r1 ∧ (∀ j, j ≠ 8 → j ≠ 10 → j ≠ 11 → j ≠ 12 → F' j = m o j) ∧ (∀ j, 0 ≤ U' j ∧ U' j ≤ 9999)) := by
  obtain ⟨ho, ⟨nx, hX⟩, hMO, hb1, hb2, hb3, hb4, hb5⟩ := id hJ
  have hH := hX.2.2.1
  have hMO1 := z_MO_fr hMO (hf o (by omega)).2
  have h := c_X5_digest (mi := m1) (mr := r1) (F := m o) (P := m (o + 1)) (X := m1 (o + 2)) (L := m1 (o + 3)) (M := m1 (o + 4)) (U := m1 (o + 5)) (V := m1 (o + 6)) (B := m1 (o + 7)) hMO1 hH hb1.1 hb1.2 (by rw [(hf (o + 3) (by omega)).1]; exact hb3) (by rw [(hf (o + 4) (by omega)).1]; exact hb4) (by rw [(hf (o + 5) (by omega)).1]; exact hb5) hb2.1 hb2.2
  rw [z_eight (hf o (by omega)).1 (hf (o + 1) (by omega)).1] at h
  exact h
end ZLW
