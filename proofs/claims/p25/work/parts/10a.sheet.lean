/-! one row of the screen becomes another one; the sheet told by its page alone -/
theorem p_rows_u {P f : Int → Int} {r k c : Int} (hr : 0 ≤ r) (h0 : 0 ≤ P 14) (h14 : P 14 ≤ 24) (k0 : 0 ≤ k) (c0 : 0 ≤ c) (c1 : c < 22) : p_rows (p_upd P (24 + r) f) k c = if k = P 14 + r then f c else p_rows P k c := by
  have e : m_slot (p_upd P (24 + r) f) k = m_slot P k := by unfold m_slot; rw [p_upd_hd _ _ (by omega)]
  rw [p_rows_at, e]
  by_cases q : k = P 14 + r
  · have e2 : m_slot P k = 24 + r := by unfold m_slot; rw [if_neg (by omega)]; omega
    rw [e2, p_upd_at _ _ _ _ c0 c1, if_pos q]
  · have e2 : m_slot P k ≠ 24 + r := by unfold m_slot; split <;> omega
    rw [p_upd_out _ _ (by omega), if_neg q, p_rows_at]
theorem p_rows_scr {P : Int → Int} {r : Int} (hr : 0 ≤ r) : p_rows P (P 14 + r) = p_row P (24 + r) := by
  have e2 : m_slot P (P 14 + r) = 24 + r := by unfold m_slot; rw [if_neg (by omega)]; omega
  unfold p_rows; rw [e2]
/-- a call has brought the sheet at s to the page Q -/
def z_T (E : z_E) (s : Nat) (mi : z_Mi) (mr : z_Mr) (Q : Int → Int) (m : z_Mi) (r : z_Mr) : Prop := ∃ sg : Int → Nat, z_Sc E r s ∧ z_Sd m s Q ∧ z_Sr E m r s sg (Q 0) (Q 14 + Q 1) (p_rows Q) ∧ z_Fr s mi mr m r
section ZTT
variable {E : z_E} {s : Nat} {mi m m2 : z_Mi} {mr r r2 : z_Mr} {sg : Int → Nat} {P Q : Int → Int}
theorem z_T_id (hc : z_Sc E mr s) (hd : z_Sd mi s P) (hr : z_Sr E mi mr s sg (P 0) (P 14 + P 1) (p_rows P)) : z_T E s mi mr P mi mr := ⟨sg, hc, hd, hr, z_Fr_r s mi mr⟩
theorem z_T_t (hf : z_Fr s mi mr m r) (h : z_T E s m r Q m2 r2) : z_T E s mi mr Q m2 r2 := by
  obtain ⟨sg, a1, a2, a3, a4⟩ := h
  exact ⟨sg, a1, a2, a3, z_Fr_t hf a4⟩
theorem p_rows_ag {A B : Int → Int} (h : ∀ k, 0 ≤ k → B k = A k) (k c : Int) (k0 : 0 ≤ k) (h0 : 0 ≤ A 14) (h14 : A 14 ≤ 24) (c0 : 0 ≤ c) : p_rows B k c = p_rows A k c := by
  have e : m_slot B k = m_slot A k := by unfold m_slot; rw [h 14 (by decide)]
  have hs : 0 ≤ m_slot A k := by unfold m_slot; split <;> omega
  rw [p_rows_at, p_rows_at, e, h _ (by omega)]
theorem z_T_ag {A B : Int → Int} (hT : z_T E s mi mr A m r) (hA : p_hd A) (h : ∀ k, 0 ≤ k → B k = A k) : z_T E s mi mr B m r := by
  obtain ⟨hw0, hw1, hh0, hh1, hf0, hf1, hf2, hr0, hr1, hc0, hc1, hp0, hp1, hk0, hk1, hi0, hi1, hkp, hP⟩ := id hA
  obtain ⟨sg, a1, a2, a3, a4⟩ := hT
  refine ⟨sg, a1, z_Sd_c a2 (fun k k0 _ => h k k0) hk1, ?_, a4⟩
  rw [h 0 (by decide), h 14 (by decide), h 1 (by decide)]
  exact z_Sr_e a3 hw1 (fun k k0 k1 c c0 c1 => p_rows_ag h k c k0 hi0 hi1 c0)
/-- the cursor's cell becomes another one -/
theorem z_T_cur {F : Int → Int} (hc : z_Sc E mr s) (hd : z_Sd mi s P) (hr : z_Sr E mi mr s sg (P 0) (P 14 + P 1) (p_rows P)) (hH : p_hd P) (hq : ∀ k, 0 ≤ k → (k < 4 ∨ 6 < k) → Q k = P k) (h4 : F 0 = Q 4) (h5 : F 1 = Q 5) (h6 : F 2 = Q 6) : z_T E s mi mr Q (z_u mi (s + 2) F) mr := by
  obtain ⟨hw0, hw1, hh0, hh1, hf0, hf1, hf2, hr0, hr1, hc0, hc1, hp0, hp1, hk0, hk1, hi0, hi1, hkp, hP⟩ := id hH
  obtain ⟨d3, d4, d5, d6, d7, d8, u0, u1, u2, uk, uz⟩ := hd
  have e0 := hq 0 (by decide) (by decide)
  have e14 := hq 14 (by decide) (by decide)
  have e1 := hq 1 (by decide) (by decide)
  refine ⟨sg, hc, ?_, ?_, z_Fr_cur⟩
  · unfold z_Sd
    rw [z_us, z_un (show s ≠ s + 2 by omega), e0, e1, e14, hq 2 (by decide) (by decide), hq 3 (by decide) (by decide), hq 7 (by decide) (by decide)]
    refine ⟨d3, d4, d5, d6, d7, d8, h4, h5, h6, fun j j0 j1 => ?_, fun j j0 j1 => ?_⟩
    · rw [z_un (by omega), hq _ (by omega) (by omega), hq _ (by omega) (by omega)]; exact uk j j0 j1
    · rw [z_un (by omega)]; exact uz j j0 j1
  · rw [e0, e1, e14]
    refine z_Sr_e (z_Sr_cur hr (by omega)) hw1 (fun k k0 k1 c c0 c1 => ?_)
    have e : m_slot Q k = m_slot P k := by unfold m_slot; rw [e14]
    have hs : 0 ≤ m_slot P k := by unfold m_slot; split <;> omega
    rw [p_rows_at, p_rows_at, e, hq _ (by omega) (by omega)]
/-- a row of the screen becomes another one -/
theorem z_T_row {w : Int} {F X f : Int → Int} (hc : z_Sc E mr s) (hd : z_Sd mi s P) (hr : z_Sr E mi mr s sg (P 0) (P 14 + P 1) (p_rows P)) (hH : p_hd P) (h0 : 0 ≤ w) (h1 : w < P 1) (hX : z_xr X) (hw : c_rw (P 0) f F X ∧ c_wf (P 0) f) :
    z_T E s mi mr (p_upd P (24 + w) f) (z_u (z_u mi (sg (P 14 + w)) F) (sg (P 14 + w) + 1) X) mr := by
  obtain ⟨hw0, hw1, hh0, hh1, hf0, hf1, hf2, hr0, hr1, hc0, hc1, hp0, hp1, hk0, hk1, hi0, hi1, hkp, hP⟩ := id hH
  have e : ∀ k, k < 15 → p_upd P (24 + w) f k = P k := fun k hk => p_upd_hd _ _ (by omega)
  have hs := hr.1 (P 14 + w) (by omega) (by omega)
  refine ⟨sg, hc, z_Sd_c (z_Sd_row hd hs.2.2.1 hs.2.2.2.1) (fun k k0 k1 => e k k1) hk1, ?_, z_Fr_row hs.2.2.1 hs.2.2.2.1⟩
  rw [e 0 (by decide), e 14 (by decide), e 1 (by decide)]
  have hset := z_Sr_set (a := P 14 + w) (r := f) (F := F) (X := X) hr (by omega) (by omega) (by omega) hX (by rw [hw.1.2.2.1]; exact hw.2.2.1) (by rw [hw.1.2.2.2]; exact hw.2.2.2) (fun _ => hw)
  refine z_Sr_e hset hw1 (fun k k0 k1 c c0 c1 => ?_)
  rw [p_rows_u h0 hi0 hi1 k0 c0 c1]
  by_cases q : k = P 14 + w
  · rw [if_pos q]; show f c = (if k = P 14 + w then f else p_rows P k) c; rw [if_pos q]
  · rw [if_neg q]; show _ = (if k = P 14 + w then f else p_rows P k) c; rw [if_neg q]
theorem z_T_rwf {w : Int} (hr : z_Sr E mi mr s sg (P 0) (P 14 + P 1) (p_rows P)) (hH : p_hd P) (h0 : 0 ≤ w) (h1 : w < P 1) : c_rw (P 0) (p_row P (24 + w)) (mi (sg (P 14 + w))) (mi (sg (P 14 + w) + 1)) ∧ c_wf (P 0) (p_row P (24 + w)) := by
  obtain ⟨hw0, hw1, hh0, hh1, hf0, hf1, hf2, hr0, hr1, hc0, hc1, hp0, hp1, hk0, hk1, hi0, hi1, hkp, hP⟩ := id hH
  have h := hr.2.2 (P 14 + w) (by omega) (by omega)
  rw [p_rows_scr h0] at h; exact h
/-- its marks alone -/
theorem z_T_rowF {w : Int} {F f : Int → Int} (hc : z_Sc E mr s) (hd : z_Sd mi s P) (hr : z_Sr E mi mr s sg (P 0) (P 14 + P 1) (p_rows P)) (hH : p_hd P) (h0 : 0 ≤ w) (h1 : w < P 1) (hw : c_rw (P 0) f F (mi (sg (P 14 + w) + 1)) ∧ c_wf (P 0) f) :
    z_T E s mi mr (p_upd P (24 + w) f) (z_u mi (sg (P 14 + w)) F) mr := by
  obtain ⟨hw0, hw1, hh0, hh1, hf0, hf1, hf2, hr0, hr1, hc0, hc1, hp0, hp1, hk0, hk1, hi0, hi1, hkp, hP⟩ := id hH
  rw [z_un_full]
  exact z_T_row hc hd hr hH h0 h1 (hr.1 (P 14 + w) (by omega) (by omega)).2.2.2.2.1 hw
theorem c_wr_rw {W v : Int} {f F X : Int → Int} (h : c_rw W f F X ∧ c_wf W f) (hW : W ≤ 20) (hv : v = 0 ∨ v = 1) : c_rw W (z_v f 20 v) (z_v F 1 v) X ∧ c_wf W (z_v f 20 v) := by
  obtain ⟨⟨g1, g2, g3, g4⟩, w1, w2, w3⟩ := h
  have e : ∀ c, c < 20 → z_v f 20 v c = f c := fun c hc => z_vn (by omega)
  refine ⟨⟨fun c c0 c1 => by rw [e c (by omega)]; exact g1 c c0 c1, g2, by rw [z_vs, z_vs], by rw [z_vn (by decide), z_vn (by decide)]; exact g4⟩, fun c c0 c1 => ?_, by rw [z_vs]; exact hv, by rw [z_vn (by decide)]; exact w3⟩
  have w := w1 c c0 c1
  rw [e c (by omega)]
  rcases w with w | w
  · refine Or.inl ⟨w.1, w.2.1, fun k0 k1 => ?_⟩
    have w3 := w.2.2 k0 k1
    rw [e (c + 1) (by omega)]; exact w3
  · refine Or.inr ⟨w.1, w.2.1, w.2.2.1, ?_⟩
    rw [e (c - 1) (by omega)]; exact w.2.2.2
theorem c_ga_rw {W v : Int} {f F X : Int → Int} (h : c_rw W f F X ∧ c_wf W f) (hW : W ≤ 20) (hv : v = 0 ∨ v = 1) : c_rw W (z_v f 21 v) (z_v F 2 v) X ∧ c_wf W (z_v f 21 v) := by
  obtain ⟨⟨g1, g2, g3, g4⟩, w1, w2, w3⟩ := h
  have e : ∀ c, c < 20 → z_v f 21 v c = f c := fun c hc => z_vn (by omega)
  refine ⟨⟨fun c c0 c1 => by rw [e c (by omega)]; exact g1 c c0 c1, g2, by rw [z_vn (by decide), z_vn (by decide)]; exact g3, by rw [z_vs, z_vs]⟩, fun c c0 c1 => ?_, by rw [z_vn (by decide)]; exact w2, by rw [z_vs]; exact hv⟩
  have w := w1 c c0 c1
  rw [e c (by omega)]
  rcases w with w | w
  · refine Or.inl ⟨w.1, w.2.1, fun k0 k1 => ?_⟩
    have w3 := w.2.2 k0 k1
    rw [e (c + 1) (by omega)]; exact w3
  · refine Or.inr ⟨w.1, w.2.1, w.2.2.1, ?_⟩
    rw [e (c - 1) (by omega)]; exact w.2.2.2
/-- a row of the screen gets a wrap, a gap -/
theorem z_T_wrap {w : Int} (hc : z_Sc E mr s) (hd : z_Sd mi s P) (hr : z_Sr E mi mr s sg (P 0) (P 14 + P 1) (p_rows P)) (hH : p_hd P) (h0 : 0 ≤ w) (h1 : w < P 1) :
    z_T E s mi mr (z_v P (15 + 22 * (24 + w) + 20) 1) (z_u mi (sg (P 14 + w)) (z_v (mi (sg (P 14 + w))) 1 1)) mr := by
  rw [p_v_upd _ _ _ _ (by decide) (by decide)]
  exact z_T_rowF hc hd hr hH h0 h1 (c_wr_rw (z_T_rwf hr hH h0 h1) hH.2.1 (Or.inr rfl))
theorem z_T_gap {w : Int} (hc : z_Sc E mr s) (hd : z_Sd mi s P) (hr : z_Sr E mi mr s sg (P 0) (P 14 + P 1) (p_rows P)) (hH : p_hd P) (h0 : 0 ≤ w) (h1 : w < P 1) :
    z_T E s mi mr (z_v P (15 + 22 * (24 + w) + 21) 1) (z_u mi (sg (P 14 + w)) (z_v (mi (sg (P 14 + w))) 2 1)) mr := by
  rw [p_v_upd _ _ _ _ (by decide) (by decide)]
  exact z_T_rowF hc hd hr hH h0 h1 (c_ga_rw (z_T_rwf hr hH h0 h1) hH.2.1 (Or.inr rfl))
/-! the row's own methods, told by the page -/
def p_ovw (P : Int → Int) (w c v : Int) : Int → Int := p_upd P (24 + w) (r_put (P 0) c v (r_free (P 0) c (c + p_sz v - 1) (p_row P (24 + w))))
theorem z_xr_put {X : Int → Int} {c v : Int} (h : z_xr X) (h0 : -126 ≤ v) (h1 : v ≤ 126) : z_xr (c_put X c v) := by
  unfold c_put; split
  · exact z_xr_set (z_xr_set h (by omega) (by omega)) (by omega) (by omega)
  · exact z_xr_set h (by omega) (by omega)
theorem e_X2_erase {w a b : Int} (hc : z_Sc E mr s) (hd : z_Sd mi s P) (hr : z_Sr E mi mr s sg (P 0) (P 14 + P 1) (p_rows P)) (hH : p_hd P) (h0 : 0 ≤ w) (h1 : w < P 1) (ha : 0 ≤ a) (hab : a ≤ b) (hb : b < P 0) :
    z_mv M_X2_erase E [zo (sg (P 14 + w)), zi a, zi b, zi (P 0)] mi mr (fun m r => z_T E s mi mr (p_erases P w a b) m r) := by
  obtain ⟨hw0, hw1, hh0, hh1, hf0, hf1, hf2, hr0, hr1, hc0, hc1, hp0, hp1, hk0, hk1, hi0, hi1, hkp, hP⟩ := id hH
  obtain ⟨s1, s2, s3, s4, s5, s6, s7⟩ := hr.1 (P 14 + w) (by omega) (by omega)
  have h := c_X2_erase (mi := mi) (F := mi (sg (P 14 + w))) (X := mi (sg (P 14 + w) + 1)) (a := a) (b := b) (w := P 0) s2 s5 (by omega) (by omega) (by omega) (by omega) ⟨by omega, by omega⟩ (by omega)
  rw [z_mself] at h
  have hq := z_T_rwf hr hH h0 h1
  refine z_mv_w h (fun m r q => ?_)
  obtain ⟨rfl, rfl⟩ := q
  exact z_T_row hc hd hr hH h0 h1 (z_xr_era s5) ⟨c_er_rw hq.1 hq.2 hw1 ha hab hb, c_wf_erase hq.2 hw1 ha hab hb⟩
theorem e_X2_overwrite {w c v : Int} (hc : z_Sc E mr s) (hd : z_Sd mi s P) (hr : z_Sr E mi mr s sg (P 0) (P 14 + P 1) (p_rows P)) (hH : p_hd P) (h0 : 0 ≤ w) (h1 : w < P 1) (hcc : 0 ≤ c) (hcv : c + p_sz v ≤ P 0) (hv0 : 32 ≤ v) (hv1 : v ≤ 126) :
    z_mv M_X2_overwrite E [zo (sg (P 14 + w)), zi c, zi v, zi (P 0)] mi mr (fun m r => z_T E s mi mr (p_ovw P w c v) m r) := by
  obtain ⟨hw0, hw1, hh0, hh1, hf0, hf1, hf2, hr0, hr1, hc0, hc1, hp0, hp1, hk0, hk1, hi0, hi1, hkp, hP⟩ := id hH
  obtain ⟨s1, s2, s3, s4, s5, s6, s7⟩ := hr.1 (P 14 + w) (by omega) (by omega)
  have hsz := p_sz_b v
  have h := c_X2_overwrite (mi := mi) (F := mi (sg (P 14 + w))) (X := mi (sg (P 14 + w) + 1)) (c := c) (v := v) (w := P 0) s2 s5 hcc (by omega) ⟨by omega, by omega⟩ (by omega) (by omega)
  rw [z_mself] at h
  have hq := z_T_rwf hr hH h0 h1
  refine z_mv_w h (fun m r q => ?_)
  obtain ⟨rfl, rfl⟩ := q
  exact z_T_row hc hd hr hH h0 h1 (z_xr_put (z_xr_era s5) (by omega) (by omega)) (c_ov_rw hq.1 hq.2 hw1 hcc hcv hv0 hv1)
theorem e_X2_openCells {w c n : Int} (hc : z_Sc E mr s) (hd : z_Sd mi s P) (hr : z_Sr E mi mr s sg (P 0) (P 14 + P 1) (p_rows P)) (hH : p_hd P) (h0 : 0 ≤ w) (h1 : w < P 1) (hcc : 0 ≤ c) (hn1 : 1 ≤ n) (hn2 : c + n ≤ P 0) (hx : z_xr (c_op (mi (sg (P 14 + w) + 1)) c n (P 0))) :
    z_mv M_X2_openCells E [zo (sg (P 14 + w)), zi c, zi n, zi (P 0)] mi mr (fun m r => z_T E s mi mr (p_upd P (24 + w) (r_insc (P 0) c n (p_row P (24 + w)))) m r) := by
  obtain ⟨hw0, hw1, hh0, hh1, hf0, hf1, hf2, hr0, hr1, hc0, hc1, hp0, hp1, hk0, hk1, hi0, hi1, hkp, hP⟩ := id hH
  obtain ⟨s1, s2, s3, s4, s5, s6, s7⟩ := hr.1 (P 14 + w) (by omega) (by omega)
  have h := c_X2_openCells (mi := mi) (F := mi (sg (P 14 + w))) (X := mi (sg (P 14 + w) + 1)) (c := c) (n := n) (w := P 0) s2 s5 hcc hn1 hn2 hw1
  rw [z_mself] at h
  have hq := z_T_rwf hr hH h0 h1
  refine z_mv_w h (fun m r q => ?_)
  obtain ⟨rfl, rfl⟩ := q
  exact z_T_row hc hd hr hH h0 h1 hx ⟨c_op_rw hq.1 hq.2 hw1 hcc hn1 hn2, c_wf_insc hq.2 hw1 hcc hn1 hn2⟩
theorem e_X2_closeCells {w c n : Int} (hc : z_Sc E mr s) (hd : z_Sd mi s P) (hr : z_Sr E mi mr s sg (P 0) (P 14 + P 1) (p_rows P)) (hH : p_hd P) (h0 : 0 ≤ w) (h1 : w < P 1) (hcc : 0 ≤ c) (hn1 : 1 ≤ n) (hn2 : c + n ≤ P 0) (hx : z_xr (c_cl (mi (sg (P 14 + w) + 1)) c n (P 0))) :
    z_mv M_X2_closeCells E [zo (sg (P 14 + w)), zi c, zi n, zi (P 0)] mi mr (fun m r => z_T E s mi mr (p_upd P (24 + w) (r_delc (P 0) c n (p_row P (24 + w)))) m r) := by
  obtain ⟨hw0, hw1, hh0, hh1, hf0, hf1, hf2, hr0, hr1, hc0, hc1, hp0, hp1, hk0, hk1, hi0, hi1, hkp, hP⟩ := id hH
  obtain ⟨s1, s2, s3, s4, s5, s6, s7⟩ := hr.1 (P 14 + w) (by omega) (by omega)
  have h := c_X2_closeCells (mi := mi) (F := mi (sg (P 14 + w))) (X := mi (sg (P 14 + w) + 1)) (c := c) (n := n) (w := P 0) s2 s5 hcc hn1 hn2 hw1
  rw [z_mself] at h
  have hq := z_T_rwf hr hH h0 h1
  refine z_mv_w h (fun m r q => ?_)
  obtain ⟨rfl, rfl⟩ := q
  exact z_T_row hc hd hr hH h0 h1 hx ⟨c_cl_rw hq.1 hq.2 hw1 hcc hn1 hn2, c_wf_delc hq.2 hw1 hcc hn1 hn2⟩
theorem e_X3_lineFeed (hc : z_Sc E mr s) (hd : z_Sd mi s P) (hr : z_Sr E mi mr s sg (P 0) (P 14 + P 1) (p_rows P)) (hH : p_hd P) :
    z_mi M_X3_lineFeed E [zo s] mi mr (fun x m r => x = (if P 4 = P 3 ∨ P 4 ≠ P 1 - 1 then 1 else 0) ∧ z_T E s mi mr (p_fl P) m r) :=
  z_mi_w (d_X3_lineFeed hc hd hr hH) (fun x m r q => by
    obtain ⟨q0, sg', q1, q2, q3, q4⟩ := q
    refine ⟨q0, sg', q1, q2, ?_, q4⟩
    rw [p_fl_hd hH (by decide) (by decide), p_fl_hd hH (show (1 : Int) < 14 by decide) (by decide)]; exact q3)
end ZTT
theorem z_xr_op {X : Int → Int} {c n W : Int} (h : z_xr X) : z_xr (c_op X c n W) := by
  have h2 : z_xr (c_op2 X c n W) := z_xr_era (z_xr_mvr (z_xr_op1 h))
  unfold c_op; split
  · exact z_xr_v h2 (by decide) (by decide)
  · exact h2
theorem z_xr_cl {X : Int → Int} {c n W : Int} (h : z_xr X) : z_xr (c_cl X c n W) := by
  have h2 : z_xr (c_er X c (c + n - 1)) := z_xr_era h
  intro k; unfold c_cl c_mvl; split
  · split
    · exact h2 _
    · omega
  · exact h2 k
/-! pages that differ in the cursor's being pending alone -/
def p_a6 (P Q : Int → Int) : Prop := ∀ k, 0 ≤ k → k ≠ 6 → P k = Q k
theorem p_a6_upd {P Q r t : Int → Int} {s : Int} (h : p_a6 P Q) (hr : ∀ c, 0 ≤ c → c < 22 → r c = t c) : p_a6 (p_upd P s r) (p_upd Q s t) := by
  intro k k0 k6; unfold p_upd; split
  · exact hr _ (by omega) (by omega)
  · exact h k k0 k6
theorem p_a6_row {P Q : Int → Int} (h : p_a6 P Q) {s c : Int} (h0 : 0 ≤ s) (c0 : 0 ≤ c) : p_row P s c = p_row Q s c := h _ (by omega) (by omega)
theorem p_a6_sh {P Q : Int → Int} {a b : Int} (h : p_a6 P Q) : p_a6 (p_sh P a b) (p_sh Q a b) := by
  intro k k0 k6; unfold p_sh; split
  · exact h _ (by omega) (by omega)
  · exact h k k0 k6
theorem p_a6_v {P Q : Int → Int} {i v : Int} (h : p_a6 P Q) : p_a6 (z_v P i v) (z_v Q i v) := by
  intro k k0 k6; unfold z_v; split
  · rfl
  · exact h k k0 k6
theorem p_a6_unw {P Q : Int → Int} {s : Int} (h : p_a6 P Q) (h0 : 0 ≤ s) : p_a6 (p_upd P s (r_unw (p_row P s))) (p_upd Q s (r_unw (p_row Q s))) :=
  p_a6_upd h (fun c c0 c1 => by unfold r_unw; rw [p_a6_row h h0 c0])
theorem p_a6_keep {P Q : Int → Int} {s : Int} (h : p_a6 P Q) (h0 : 0 ≤ s) : p_a6 (p_keep P s) (p_keep Q s) := by
  have e : P 14 = Q 14 := h 14 (by decide) (by decide)
  unfold p_keep
  rw [e]; split
  · exact p_a6_v (p_a6_upd (p_a6_sh h) (fun c c0 _ => p_a6_row h h0 c0))
  · exact p_a6_v (p_a6_upd h (fun c c0 _ => p_a6_row h h0 c0))
theorem p_a6_scr1 {P Q : Int → Int} (h : p_a6 P Q) (h0 : 0 ≤ P 2) : p_a6 (p_scr1 P) (p_scr1 Q) := by
  have e2 : P 2 = Q 2 := h 2 (by decide) (by decide)
  have e14 : P 14 = Q 14 := h 14 (by decide) (by decide)
  unfold p_scr1 p_ahead
  rw [← e2, ← e14]; split
  · exact p_a6_keep h (by decide)
  · split
    · exact p_a6_unw h (by omega)
    · split
      · exact p_a6_unw h (by omega)
      · exact h
theorem p_a6_scroll {P Q : Int → Int} (h : p_a6 P Q) (h0 : 0 ≤ P 2) (h3 : 0 ≤ P 3) : p_a6 (p_scroll P) (p_scroll Q) := by
  have e2 : P 2 = Q 2 := h 2 (by decide) (by decide)
  have e3 : P 3 = Q 3 := h 3 (by decide) (by decide)
  unfold p_scroll p_scr2
  rw [← e2, ← e3]
  exact p_a6_upd (p_a6_unw (p_a6_sh (p_a6_scr1 h h0)) (by omega)) (fun c _ _ => rfl)
theorem p_a6_fl {P Q : Int → Int} (h : p_a6 P Q) (h0 : 0 ≤ P 2) (h3 : 0 ≤ P 3) : p_a6 (p_fl P) (p_fl Q) := by
  have e1 : P 1 = Q 1 := h 1 (by decide) (by decide)
  have e3 : P 3 = Q 3 := h 3 (by decide) (by decide)
  have e4 : P 4 = Q 4 := h 4 (by decide) (by decide)
  unfold p_fl
  rw [← e4, ← e3, ← e1]; split
  · exact p_a6_scroll h h0 h3
  · split
    · exact h
    · exact p_a6_v h
theorem p_go1_0 (Q : Int → Int) : p_go1 0 Q = z_v Q (15 + 22 * (24 + Q 4 - 1) + 20) 1 := by
  unfold p_go1; rw [if_neg (by decide)]
  funext k; unfold z_v; grind
theorem p_go1_1 (Q : Int → Int) : p_go1 1 Q = z_v (p_go1 0 Q) (15 + 22 * (24 + Q 4 - 1) + 21) 1 := by
  rw [p_go1_0]; unfold p_go1; rw [if_pos rfl]
theorem p_a6_go {P Q : Int → Int} (h : p_a6 P Q) (h0 : 0 ≤ P 2) (h3 : 0 ≤ P 3) : p_a6 (p_go 0 P) (p_go 0 Q) := by
  have e1 : P 1 = Q 1 := h 1 (by decide) (by decide)
  have e3 : P 3 = Q 3 := h 3 (by decide) (by decide)
  have e4 : P 4 = Q 4 := h 4 (by decide) (by decide)
  have h5 : p_a6 (z_v (p_fl P) 5 0) (z_v (p_fl Q) 5 0) := p_a6_v (p_a6_fl h h0 h3)
  unfold p_go
  rw [← e4, ← e3, ← e1]; split
  · rw [p_go1_0, p_go1_0, h5 4 (by decide) (by decide)]; exact p_a6_v h5
  · exact h5
theorem p_w1_ag {P : Int → Int} (hH : p_hd P) (h6 : P 6 = 1) (k : Int) (k0 : 0 ≤ k) : p_w1 P k = z_v (p_go 0 P) 6 0 k := by
  obtain ⟨hw0, hw1, hh0, hh1, hf0, hf1, hf2, hr0, hr1, hc0, hc1, hp0, hp1, hk0, hk1, hi0, hi1, hkp, hP⟩ := id hH
  have hz : p_hd (z_v P 6 0) := p_hd_6 hH
  have ea : p_a6 (z_v P 6 0) P := fun k _ k6 => z_vn k6
  unfold p_w1; rw [if_pos h6]
  by_cases q : k = 6
  · rw [q, z_vs, p_go_hd hz (by decide) (by decide) (by decide), z_vs]
  · rw [z_vn q]
    exact p_a6_go ea (by rw [z_vn (by decide)]; omega) (by rw [z_vn (by decide)]; omega) k k0 q
theorem p_ovw_32 (P : Int → Int) (w c : Int) (c0 : 0 ≤ c) (c1 : c < 20) (hW : P 0 ≤ 20) : p_ovw P w c 32 = p_erases P w c c := by
  unfold p_ovw p_erases r_erase
  refine p_upd_ext (fun j j0 j1 => ?_)
  have e : c + p_sz 32 - 1 = c := by show c + 1 - 1 = c; omega
  rw [e]
  unfold r_put
  rw [if_neg (by decide), ← r_fill_s (Int.le_refl c) c0 c1 hW j]
  unfold r_set
  rw [r_fill_0]
theorem p_w4_ovw {P : Int → Int} {code : Int} (hH : p_hd P) : p_w4 code P (p_w3 code P) = p_ovw P (P 4) (P 5) code := by
  obtain ⟨hw0, hw1, hh0, hh1, hf0, hf1, hf2, hr0, hr1, hc0, hc1, hp0, hp1, hk0, hk1, hi0, hi1, hkp, hP⟩ := id hH
  have e0 : p_frees P (P 4) (P 5) (P 5 + p_sz code - 1) 0 = P 0 := p_frees_hd (by decide) hr0
  have e3 : p_w3 code P = p_upd P (24 + P 4) (r_set (P 0) (P 5) code (r_free (P 0) (P 5) (P 5 + p_sz code - 1) (p_row P (24 + P 4)))) := by
    unfold p_w3 p_sets
    rw [e0]; exact p_set_on rfl
  have e30 : p_w3 code P 0 = P 0 := p_w3_hd hH (by decide)
  unfold p_w4 p_ovw r_put
  split
  · unfold p_sets
    rw [e30]; exact p_set_on e3
  · exact e3
theorem p_w2_6 {P : Int → Int} {code : Int} (hH : p_hd P) : p_w2 code P 6 = P 6 := by
  obtain ⟨hw0, hw1, hh0, hh1, hf0, hf1, hf2, hr0, hr1, hc0, hc1, hp0, hp1, hk0, hk1, hi0, hi1, hkp, hP⟩ := id hH
  unfold p_w2; split
  · rw [p_go_hd (p_hd_erases hH hr0) (by decide) (by decide) (by decide), p_erases_hd (by decide) hr0]
  · rfl
theorem p_w1_6 {P : Int → Int} (hH : p_hd P) : p_w1 P 6 = 0 := by
  obtain ⟨hw0, hw1, hh0, hh1, hf0, hf1, hf2, hr0, hr1, hc0, hc1, hp0, hp1, hk0, hk1, hi0, hi1, hkp, hP⟩ := id hH
  by_cases q : P 6 = 1
  · rw [p_w1_ag hH q 6 (by decide), z_vs]
  · unfold p_w1; rw [if_neg q]; omega
/-- the page when the cursor has gone on -/
theorem p_go_b {P : Int → Int} {g : Int} (h : P 4 = P 3 ∨ P 4 ≠ P 1 - 1) : p_go g P = p_go1 g (z_v (p_fl P) 5 0) := if_pos h
theorem p_go_n {P : Int → Int} {g : Int} (h : ¬ (P 4 = P 3 ∨ P 4 ≠ P 1 - 1)) : p_go g P = z_v (p_fl P) 5 0 := if_neg h
theorem p_sz_32 : p_sz 32 = 1 := if_neg (by decide)
theorem p_go_4 {P : Int → Int} {g : Int} (h : p_hd P) (hb : P 4 = P 3 ∨ P 4 ≠ P 1 - 1) : 0 < p_go g P 4 ∧ p_go g P 4 = p_fl P 4 := by
  have h6 := p_fl_4 h hb
  have h7 : z_v (p_fl P) 5 0 4 = p_fl P 4 := z_vn (by decide)
  rw [p_go_b hb]; unfold p_go1
  rw [h7, z_vn (by omega), z_vn (by omega), h7]
  exact ⟨h6, rfl⟩
theorem p_go_gap {P : Int → Int} (h : p_hd P) (hb : P 4 = P 3 ∨ P 4 ≠ P 1 - 1) : p_go 1 P = z_v (p_go 0 P) (15 + 22 * (24 + (p_go 0 P 4 - 1)) + 21) 1 := by
  have h7 : z_v (p_fl P) 5 0 4 = p_fl P 4 := z_vn (by decide)
  rw [(p_go_4 (g := 0) h hb).2, p_go_b hb, p_go_b hb, p_go1_1, h7, show 24 + p_fl P 4 - 1 = 24 + (p_fl P 4 - 1) by omega]
