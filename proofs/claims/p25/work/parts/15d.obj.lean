section ZOB2
variable {E : z_E} {o s : Nat} {mi m m2 : z_Mi} {mr r r2 : z_Mr} {sg : Int → Nat} {P Q A B : Int → Int} {n nx : Int}
theorem z_T_reg {F : Int → Int} {a b : Int} (hc : z_Sc E mr s) (hd : z_Sd mi s P) (hr : z_Sr E mi mr s sg (P 0) (P 14 + P 1) (p_rows P)) (hH : p_hd P) (h4 : F 0 = 0) (h5 : F 1 = 0) (h6 : F 2 = 0) :
    z_T E s mi mr (p_reg a b P) (z_u (z_u mi s (z_v (z_v (mi s) 7 a) 8 b)) (s + 2) F) mr := by
  obtain ⟨hw0, hw1, hh0, hh1, hf0, hf1, hf2, hr0, hr1, hc0, hc1, hp0, hp1, hk0, hk1, hi0, hi1, hkp, hP⟩ := id hH
  obtain ⟨d3, d4, d5, d6, d7, d8, u0, u1, u2, uk, uz⟩ := hd
  have e : ∀ k, k ≠ 2 → k ≠ 3 → k ≠ 4 → k ≠ 5 → k ≠ 6 → p_reg a b P k = P k := fun k h2 h3 h4 h5 h6 => by unfold p_reg p_goes; rw [z_vn h6, z_vn h5, z_vn h4, z_vn h3, z_vn h2]
  have e0 := e 0 (by decide) (by decide) (by decide) (by decide) (by decide)
  have e1 := e 1 (by decide) (by decide) (by decide) (by decide) (by decide)
  have e14 := e 14 (by decide) (by decide) (by decide) (by decide) (by decide)
  have e7 := e 7 (by decide) (by decide) (by decide) (by decide) (by decide)
  refine ⟨sg, hc, ?_, ?_, fun c hcc => ⟨(z_un (by omega)).trans (z_un (by omega)), rfl⟩⟩
  · unfold z_Sd
    rw [z_us, z_un (show s ≠ s + 2 by omega), z_us, e0, e1, e14, e7]
    refine ⟨?_, ?_, ?_, ?_, ?_, ?_, ?_, ?_, ?_, fun j j0 j1 => ?_, fun j j0 j1 => ?_⟩
    · rw [z_vn (by decide), z_vn (by decide)]; exact d3
    · rw [z_vn (by decide), z_vn (by decide)]; exact d4
    · rw [z_vn (by decide), z_vn (by decide)]; exact d5
    · rw [z_vn (by decide), z_vn (by decide)]; exact d6
    · rw [z_vn (by decide), z_vs]; simp [p_reg, p_goes, z_v]
    · rw [z_vs]; simp [p_reg, p_goes, z_v]
    · rw [h4]; simp [p_reg, p_goes, z_v]
    · rw [h5]; simp [p_reg, p_goes, z_v]
    · rw [h6]; simp [p_reg, p_goes, z_v]
    · rw [z_un (by omega), z_un (by omega), e _ (by omega) (by omega) (by omega) (by omega) (by omega), e _ (by omega) (by omega) (by omega) (by omega) (by omega)]
      exact uk j j0 j1
    · rw [z_un (by omega), z_un (by omega)]; exact uz j j0 j1
  · rw [e0, e1, e14]
    refine z_Sr_e (z_Sr_m hr (by omega) (fun c c0 c1 => (z_un (by omega)).trans (z_un (by omega)))) hw1 (fun k k0 k1 c c0 c1 => ?_)
    have em : m_slot (p_reg a b P) k = m_slot P k := by unfold m_slot; rw [e14]
    have hs : 0 ≤ m_slot P k := by unfold m_slot; split <;> omega
    rw [p_rows_at, p_rows_at, em, e _ (by omega) (by omega) (by omega) (by omega) (by omega)]
theorem n_takA_fill {P : Int → Int} : n_takA P (p_rows P) (P 1).toNat = m_fillA P := by
  unfold n_takA m_fillA
  refine n_sum_c (fun k k0 k1 => ?_)
  unfold n_tak
  rw [p_rows_scr k0]; rfl
theorem z_X_ag (h : z_X E o mi mr A n nx) (hB : p_hd B) (he : ∀ k, 0 ≤ k → k < 6471 → B k = A k) : z_X E o mi mr B n nx := by
  obtain ⟨h1, h2, h3, h4, h5⟩ := h
  exact ⟨h1, h2, hB, z_S_ag h4 h3 (fun k k0 k1 => he k k0 (by omega)), z_Xm_P h5 (p_hd_pr hB) h2.2.2.2.2.2 (fun k k0 k1 => he k (by omega) k1)⟩
end ZOB2
theorem p_move_n {P : Int → Int} {code : Int} (h : code ≠ 10) : p_move code P = z_v (z_v P 5 (p_mvc code (P 5) (P 0))) 6 0 := by unfold p_move p_mvq; rw [if_neg h]
theorem p_move_10 {P : Int → Int} (hH : p_hd P) : p_move 10 P = z_v (p_fl P) 6 0 := by
  have e5 : p_fl P 5 = P 5 := p_fl_hd hH (by decide) (by decide)
  have e : p_mvc 10 (P 5) (P 0) = p_fl P 5 := by rw [e5]; rfl
  unfold p_move p_mvq
  rw [if_pos rfl, e]
  have e2 : z_v (p_fl P) 5 (p_fl P 5) = p_fl P := by
    funext k; unfold z_v; split
    · next q => rw [q]
    · rfl
  rw [e2]
