/-! places; rows erased; the cursor kept and taken back -/
section ZPL
variable {E : z_E} {mi : z_Mi} {mr : z_Mr} {o p : Nat}
theorem d_X0_set {r c : Int} (t0 : E.2.2[o]? = some (0, 0)) : z_mv M_X0_set E [zo o, zi r, zi c] mi mr (fun m r9 => m = z_u mi o (z_v (z_v (z_v (mi o) 0 r) 1 c) 2 0) ∧ r9 = mr) := by
  have h := c_X0_set (mi := mi) (mr := mr) (F := mi o) (r := r) (c := c) t0
  rw [z_uself] at h; exact h
theorem d_X0_copyFrom (t0 : E.2.2[o]? = some (0, 0)) (s0 : E.2.2[p]? = some (0, 0)) (hop : o ≠ p) (hG : mi p 2 = 0 ∨ mi p 2 = 1) : z_mv M_X0_copyFrom E [zo o, zo p] mi mr (fun m r9 => m = z_u mi o (z_v (z_v (z_v (mi o) 0 (mi p 0)) 1 (mi p 1)) 2 (mi p 2)) ∧ r9 = mr) := by
  have h := c_X0_copyFrom (mi := mi) (mr := mr) (F := mi o) (G := mi p) t0 s0 hop hG
  have e : z_u (z_u mi p (mi p)) o (mi o) = mi := by rw [z_uself, z_uself]
  rw [e, z_uself] at h
  exact h
end ZPL
def p_ers (P : Int → Int) (a k : Int) : Int → Int := n_it (fun j Q => p_erases Q (a + j) 0 (P 0 - 1)) (k - a).toNat P
theorem p_ers_0 (P : Int → Int) (a : Int) : p_ers P a a = P := by unfold p_ers; rw [show (a - a).toNat = 0 by omega]; rfl
theorem p_ers_s (P : Int → Int) {a k : Int} (h : a ≤ k) : p_ers P a (k + 1) = p_erases (p_ers P a k) k 0 (P 0 - 1) := by
  unfold p_ers
  rw [show k + 1 - a = (k - a) + 1 by omega, n_it_s _ _ (by omega), show a + (k - a) = k by omega]
theorem p_hd_ers {P : Int → Int} {a k : Int} (h : p_hd P) (ha : 0 ≤ a) : p_hd (p_ers P a k) ∧ ∀ j, j < 15 → p_ers P a k j = P j :=
  n_it_p (fun Q => p_hd Q ∧ ∀ j, j < 15 → Q j = P j) _ ⟨h, fun _ _ => rfl⟩ (fun k b h0 _ hb => ⟨p_hd_erases hb.1 (by omega), fun j hj => by rw [p_erases_hd hj (by omega)]; exact hb.2 j hj⟩)
/-- all cells of a row erased -/
theorem r_erase_all {W c : Int} {r : Int → Int} (hc : c < 22) (hc0 : 0 ≤ c) : r_erase W 0 (W - 1) r c = if c < W then 32 else if c = 20 ∨ c = 21 then (if 1 ≤ W then 0 else r c) else r c := by
  unfold r_erase r_free r_free2 r_free1
  rw [if_neg (by omega), if_neg (by omega)]
  unfold r_fill
  by_cases q : c < W
  · rw [if_pos (by omega), if_pos q]
  · rw [if_neg (by omega), if_neg q]
    by_cases q2 : c = 20 ∨ c = 21
    · rw [if_pos q2]
      by_cases q3 : 1 ≤ W
      · rw [if_pos (by omega), if_pos q3]
      · rw [if_neg (by omega), if_neg q3]
    · rw [if_neg (by omega), if_neg q2]
/-- the sheet told by its numbers P and its rows R -/
def z_TR (E : z_E) (s : Nat) (mi : z_Mi) (mr : z_Mr) (P : Int → Int) (R : Int → Int → Int) (m : z_Mi) (r : z_Mr) : Prop := ∃ sg : Int → Nat, z_Sc E r s ∧ z_Sd m s P ∧ z_Sr E m r s sg (P 0) (P 14 + P 1) R ∧ z_Fr s mi mr m r
section ZTR
variable {E : z_E} {s : Nat} {mi m : z_Mi} {mr r : z_Mr} {sg : Int → Nat} {P Q : Int → Int} {R : Int → Int → Int}
theorem z_T_rg (h : z_TR E s mi mr P R m r) (hW : P 0 ≤ 20) (h7 : P 7 ≤ 3) (hq : ∀ k, 0 ≤ k → k < 15 → Q k = P k) (hR : ∀ k, 0 ≤ k → k < P 14 + P 1 → ∀ c, 0 ≤ c → c < 22 → p_rows Q k c = R k c) : z_T E s mi mr Q m r := by
  obtain ⟨sg, a1, a2, a3, a4⟩ := h
  refine ⟨sg, a1, z_Sd_c a2 (fun k k0 k1 => hq k k0 k1) h7, ?_, a4⟩
  rw [hq 0 (by decide) (by decide), hq 14 (by decide) (by decide), hq 1 (by decide) (by decide)]
  exact z_Sr_e a3 hW hR
/-- the latest kept cursor -/
theorem z_T_kp (hc : z_Sc E mr s) (hd : z_Sd mi s P) (hr : z_Sr E mi mr s sg (P 0) (P 14 + P 1) (p_rows P)) (hH : p_hd P) (h3 : P 7 < 3) :
    z_T E s mi mr (p_kp P) (z_u (z_u mi (s + 68 + (P 7).toNat) (z_v (z_v (z_v (mi (s + 68 + (P 7).toNat)) 0 (P 4)) 1 (P 5)) 2 0)) s (z_v (mi s) 3 (P 7 + 1))) mr := by
  obtain ⟨hw0, hw1, hh0, hh1, hf0, hf1, hf2, hr0, hr1, hc0, hc1, hp0, hp1, hk0, hk1, hi0, hi1, hkp, hP⟩ := id hH
  obtain ⟨d3, d4, d5, d6, d7, d8, u0, u1, u2, uk, uz⟩ := hd
  have e : ∀ k, k ≠ 7 → k ≠ 8 + 2 * P 7 → k ≠ 8 + 2 * P 7 + 1 → p_kp P k = P k := fun k h1 h2 h3 => by unfold p_kp; rw [z_vn h1, z_vn h3, z_vn h2]
  have e7 : p_kp P 7 = P 7 + 1 := z_vs _ _ _
  have a1 : p_kp P (8 + 2 * P 7) = P 4 := by unfold p_kp; rw [z_vn (by omega), z_vn (by omega), z_vs]
  have a2 : p_kp P (8 + 2 * P 7 + 1) = P 5 := by unfold p_kp; rw [z_vn (by omega), z_vs]
  have e0 := e 0 (by decide) (by omega) (by omega)
  have e1 := e 1 (by decide) (by omega) (by omega)
  have e14 := e 14 (by decide) (by omega) (by omega)
  refine ⟨sg, hc, ?_, ?_, fun c hcc => ⟨?_, rfl⟩⟩
  · unfold z_Sd
    rw [z_us, e0, e1, e14, e7, e 2 (by decide) (by omega) (by omega), e 3 (by decide) (by omega) (by omega), e 4 (by decide) (by omega) (by omega), e 5 (by decide) (by omega) (by omega), e 6 (by decide) (by omega) (by omega), z_un (show s + 2 ≠ s by omega), z_un (show s + 2 ≠ s + 68 + (P 7).toNat by omega)]
    refine ⟨z_vs _ _ _, (z_vn (by decide)).trans d4, (z_vn (by decide)).trans d5, (z_vn (by decide)).trans d6, (z_vn (by decide)).trans d7, (z_vn (by decide)).trans d8, u0, u1, u2, fun j j0 j1 => ?_, fun j j0 j1 => ?_⟩
    · rw [z_un (by omega)]
      by_cases q : j = P 7
      · subst q
        rw [a1, a2, z_us]
        exact ⟨by rw [z_vn (by decide), z_vn (by decide), z_vs], by rw [z_vn (by decide), z_vs], z_vs _ _ _⟩
      · rw [z_un (by omega), e _ (by omega) (by omega) (by omega), e _ (by omega) (by omega) (by omega)]
        exact uk j j0 (by omega)
    · rw [z_un (by omega)]
      by_cases q : j = P 7
      · subst q
        rw [z_us]; exact Or.inl (z_vs _ _ _)
      · rw [z_un (by omega)]; exact uz j j0 j1
  · rw [e0, e1, e14]
    refine z_Sr_e (z_Sr_m hr (by omega) (fun c c0 c1 => (z_un (by omega)).trans (z_un (by omega)))) hw1 (fun k k0 k1 c c0 c1 => ?_)
    have em : m_slot (p_kp P) k = m_slot P k := by unfold m_slot; rw [e14]
    have hs : 0 ≤ m_slot P k := by unfold m_slot; split <;> omega
    rw [p_rows_at, p_rows_at, em, e _ (by omega) (by omega) (by omega)]
  · exact (z_un (by omega)).trans (z_un (by omega))
theorem z_T_bk {F : Int → Int} (hc : z_Sc E mr s) (hd : z_Sd mi s P) (hr : z_Sr E mi mr s sg (P 0) (P 14 + P 1) (p_rows P)) (hH : p_hd P) (h0 : 0 < P 7) (h4 : F 0 = P (8 + 2 * (P 7 - 1))) (h5 : F 1 = P (8 + 2 * (P 7 - 1) + 1)) (h6 : F 2 = 0) :
    z_T E s mi mr (p_bk P) (z_u (z_u mi s (z_v (mi s) 3 (P 7 - 1))) (s + 2) F) mr := by
  obtain ⟨hw0, hw1, hh0, hh1, hf0, hf1, hf2, hr0, hr1, hc0, hc1, hp0, hp1, hk0, hk1, hi0, hi1, hkp, hP⟩ := id hH
  obtain ⟨d3, d4, d5, d6, d7, d8, u0, u1, u2, uk, uz⟩ := hd
  have e : ∀ k, k ≠ 4 → k ≠ 5 → k ≠ 6 → k ≠ 7 → p_bk P k = P k := fun k h4 h5 h6 h7 => by unfold p_bk p_goes; rw [z_vn h6, z_vn h5, z_vn h4, z_vn h7]
  have e7 : p_bk P 7 = P 7 - 1 := by unfold p_bk p_goes; rw [z_vn (by decide), z_vn (by decide), z_vn (by decide), z_vs]
  have e4 : p_bk P 4 = P (8 + 2 * (P 7 - 1)) := by unfold p_bk p_goes; rw [z_vn (by decide), z_vn (by decide), z_vs]
  have e5 : p_bk P 5 = P (8 + 2 * (P 7 - 1) + 1) := by unfold p_bk p_goes; rw [z_vn (by decide), z_vs]
  have e6 : p_bk P 6 = 0 := by unfold p_bk p_goes; exact z_vs _ _ _
  have e0 := e 0 (by decide) (by decide) (by decide) (by decide)
  have e1 := e 1 (by decide) (by decide) (by decide) (by decide)
  have e14 := e 14 (by decide) (by decide) (by decide) (by decide)
  refine ⟨sg, hc, ?_, ?_, fun c hcc => ⟨(z_un (by omega)).trans (z_un (by omega)), rfl⟩⟩
  · unfold z_Sd
    rw [z_us, e0, e1, e14, e7, e4, e5, e6, e 2 (by decide) (by decide) (by decide) (by decide), e 3 (by decide) (by decide) (by decide) (by decide), z_un (show s ≠ s + 2 by omega), z_us]
    refine ⟨z_vs _ _ _, (z_vn (by decide)).trans d4, (z_vn (by decide)).trans d5, (z_vn (by decide)).trans d6, (z_vn (by decide)).trans d7, (z_vn (by decide)).trans d8, h4, h5, h6, fun j j0 j1 => ?_, fun j j0 j1 => ?_⟩
    · rw [z_un (by omega), z_un (by omega), e _ (by omega) (by omega) (by omega) (by omega), e _ (by omega) (by omega) (by omega) (by omega)]
      exact uk j j0 (by omega)
    · rw [z_un (by omega), z_un (by omega)]; exact uz j j0 j1
  · rw [e0, e1, e14]
    refine z_Sr_e (z_Sr_m hr (by omega) (fun c c0 c1 => (z_un (by omega)).trans (z_un (by omega)))) hw1 (fun k k0 k1 c c0 c1 => ?_)
    have em : m_slot (p_bk P) k = m_slot P k := by unfold m_slot; rw [e14]
    have hs : 0 ≤ m_slot P k := by unfold m_slot; split <;> omega
    rw [p_rows_at, p_rows_at, em, e _ (by omega) (by omega) (by omega) (by omega)]
/-- a row behind those that are told -/
theorem z_Sr_grow {W i : Int} {F X f : Int → Int} (h : z_Sr E mi mr s sg W i R) (h0 : 0 ≤ i) (h1 : i < 32) (hX : z_xr X) (hw : c_rw W f F X ∧ c_wf W f) :
    z_Sr E (z_u (z_u mi (sg i) F) (sg i + 1) X) mr s sg W (i + 1) (fun k => if k = i then f else R k) := by
  obtain ⟨p1, p2, p3⟩ := z_Sr_set (a := i) (r := f) h (by omega) h0 h1 hX (by rw [hw.1.2.2.1]; exact hw.2.2.1) (by rw [hw.1.2.2.2]; exact hw.2.2.2) (fun _ => hw)
  refine ⟨p1, p2, fun k k0 k1 => ?_⟩
  by_cases q : k = i
  · subst q
    show c_rw W (if k = k then f else R k) _ _ ∧ c_wf W (if k = k then f else R k)
    rw [if_pos rfl, z_us2, z_us]; exact hw
  · exact p3 k k0 (by omega)
theorem z_Sr_none {W W' n : Int} {R' : Int → Int → Int} (h : z_Sr E mi mr s sg W n R) : z_Sr E mi mr s sg W' 0 R' := ⟨h.1, h.2.1, fun k k0 k1 => absurd k0 (by omega)⟩
end ZTR
/-! the sheet cleared; one sheet copied into another one -/
def p_clr (cw ch : Int) (P : Int → Int) : Int → Int := z_v (z_v (z_v (z_v (z_v P 0 cw) 1 ch) 2 0) 3 (ch - 1)) 14 0
theorem z_Sr_less {E : z_E} {mi : z_Mi} {mr : z_Mr} {s : Nat} {sg : Int → Nat} {W n n' : Int} {R : Int → Int → Int} (h : z_Sr E mi mr s sg W n R) (hn : n' ≤ n) : z_Sr E mi mr s sg W n' R := ⟨h.1, h.2.1, fun k k0 k1 => h.2.2 k k0 (by omega)⟩
theorem z_T_clr {E : z_E} {mi m : z_Mi} {mr : z_Mr} {s : Nat} {sg : Int → Nat} {P : Int → Int} {cw ch : Int} (hc : z_Sc E mr s) (hd : z_Sd m s P) (hr : z_Sr E m mr s sg cw 32 (fun _ => r_blank)) (hf : z_Fr s mi mr m mr) (h7 : P 7 ≤ 3) (h0 : 0 ≤ ch) (h1 : ch ≤ 8) :
    ∃ sg : Int → Nat, z_Sd (z_u m s (z_v (z_v (z_v (z_v (z_v (m s) 4 0) 5 cw) 6 ch) 7 0) 8 (ch - 1))) s (p_clr cw ch P) ∧ z_Sr E (z_u m s (z_v (z_v (z_v (z_v (z_v (m s) 4 0) 5 cw) 6 ch) 7 0) 8 (ch - 1))) mr s sg cw 32 (fun _ => r_blank) ∧ z_Fr s mi mr (z_u m s (z_v (z_v (z_v (z_v (z_v (m s) 4 0) 5 cw) 6 ch) 7 0) 8 (ch - 1))) mr := by
  obtain ⟨d3, d4, d5, d6, d7, d8, u0, u1, u2, uk, uz⟩ := hd
  have e : ∀ k, k ≠ 0 → k ≠ 1 → k ≠ 2 → k ≠ 3 → k ≠ 14 → p_clr cw ch P k = P k := fun k a0 a1 a2 a3 a4 => by unfold p_clr; rw [z_vn a4, z_vn a3, z_vn a2, z_vn a1, z_vn a0]
  have e0 : p_clr cw ch P 0 = cw := by unfold p_clr; rw [z_vn (by decide), z_vn (by decide), z_vn (by decide), z_vn (by decide), z_vs]
  have e1 : p_clr cw ch P 1 = ch := by unfold p_clr; rw [z_vn (by decide), z_vn (by decide), z_vn (by decide), z_vs]
  have e2 : p_clr cw ch P 2 = 0 := by unfold p_clr; rw [z_vn (by decide), z_vn (by decide), z_vs]
  have e3 : p_clr cw ch P 3 = ch - 1 := by unfold p_clr; rw [z_vn (by decide), z_vs]
  have e14 : p_clr cw ch P 14 = 0 := z_vs _ _ _
  refine ⟨sg, ?_, ?_, z_Fr_t hf z_Fr_s⟩
  · unfold z_Sd
    rw [z_us, e0, e1, e2, e3, e14, e 4 (by decide) (by decide) (by decide) (by decide) (by decide), e 5 (by decide) (by decide) (by decide) (by decide) (by decide), e 6 (by decide) (by decide) (by decide) (by decide) (by decide), e 7 (by decide) (by decide) (by decide) (by decide) (by decide), z_un (show s + 2 ≠ s by omega)]
    refine ⟨?_, ?_, ?_, ?_, ?_, z_vs _ _ _, u0, u1, u2, fun j j0 j1 => ?_, fun j j0 j1 => ?_⟩
    · rw [z_vn (by decide), z_vn (by decide), z_vn (by decide), z_vn (by decide), z_vn (by decide)]; exact d3
    · rw [z_vn (by decide), z_vn (by decide), z_vn (by decide), z_vn (by decide), z_vs]
    · rw [z_vn (by decide), z_vn (by decide), z_vn (by decide), z_vs]
    · rw [z_vn (by decide), z_vn (by decide), z_vs]
    · rw [z_vn (by decide), z_vs]
    · rw [z_un (by omega), e _ (by omega) (by omega) (by omega) (by omega) (by omega), e _ (by omega) (by omega) (by omega) (by omega) (by omega)]
      exact uk j j0 j1
    · rw [z_un (by omega)]; exact uz j j0 j1
  · exact z_Sr_s hr (by decide)
theorem d_X2_copyFrom {E : z_E} {mi : z_Mi} {mr : z_Mr} {o p : Nat} (hM : z_CR E mr o) (hN : z_CR E mr p) (hop : p + 1 < o ∨ o + 1 < p) (hG : (mi p 1 = 0 ∨ mi p 1 = 1) ∧ (mi p 2 = 0 ∨ mi p 2 = 1)) : z_mv M_X2_copyFrom E [zo o, zo p] mi mr (fun m r => m = z_u (z_u mi o (z_v (z_v (mi o) 1 (mi p 1)) 2 (mi p 2))) (o + 1) (z_cpy (mi (p + 1)) (mi (o + 1)) 20) ∧ r = mr) := by
  have h := c_X2_copyFrom (mi := mi) (mr := mr) (F := mi o) (X := mi (o + 1)) (G := mi p) (Y := mi (p + 1)) hM hN hop hG
  rw [z_mself, z_mself] at h
  exact h
theorem c_cp_rw {W : Int} {r F X G Y : Int → Int} (h : c_rw W r G Y) (hW0 : 0 ≤ W) (hW : W ≤ 20) : c_rw W r (z_v (z_v F 1 (G 1)) 2 (G 2)) (z_cpy Y X 20) := by
  obtain ⟨g1, g2, g3, g4⟩ := h
  have e : ∀ c, 0 ≤ c → c < 20 → z_cpy Y X 20 c = Y c := fun c c0 c1 => if_pos ⟨c0, by omega⟩
  exact ⟨fun c c0 c1 => by rw [e c c0 (by omega)]; exact g1 c c0 c1, fun c c0 c1 => by rw [e c (by omega) c1]; exact g2 c c0 c1, by rw [z_vn (by decide), z_vs]; exact g3, by rw [z_vs]; exact g4⟩
