section ZOB3
variable {E : z_E} {o s : Nat} {mi m m2 : z_Mi} {mr r r2 : z_Mr} {sg : Int → Nat} {P Q A B : Int → Int} {n nx : Int}
/-- a row of the screen becomes another one; its cell is known -/
theorem z_R_row {w : Int} {F X f : Int → Int} (hc : z_Sc E mr s) (hd : z_Sd mi s P) (hr : z_Sr E mi mr s sg (P 0) (P 14 + P 1) (p_rows P)) (hH : p_hd P) (h0 : 0 ≤ w) (h1 : w < P 1) (hX : z_xr X) (hw : c_rw (P 0) f F X ∧ c_wf (P 0) f) :
    z_Sh E (z_u (z_u mi (sg (P 14 + w)) F) (sg (P 14 + w) + 1) X) mr s sg (p_upd P (24 + w) f) (p_rows (p_upd P (24 + w) f)) ∧ z_Fr s mi mr (z_u (z_u mi (sg (P 14 + w)) F) (sg (P 14 + w) + 1) X) mr := by
  obtain ⟨hw0, hw1, hh0, hh1, hf0, hf1, hf2, hr0, hr1, hc0, hc1, hp0, hp1, hk0, hk1, hi0, hi1, hkp, hP⟩ := id hH
  have e : ∀ k, k < 15 → p_upd P (24 + w) f k = P k := fun k hk => p_upd_hd _ _ (by omega)
  have hs := hr.1 (P 14 + w) (by omega) (by omega)
  refine ⟨⟨hc, z_Sd_c (z_Sd_row hd hs.2.2.1 hs.2.2.2.1) (fun k k0 k1 => e k k1) hk1, ?_⟩, z_Fr_row hs.2.2.1 hs.2.2.2.1⟩
  rw [e 0 (by decide), e 14 (by decide), e 1 (by decide)]
  have hset := z_Sr_set (a := P 14 + w) (r := f) (F := F) (X := X) hr (by omega) (by omega) (by omega) hX (by rw [hw.1.2.2.1]; exact hw.2.2.1) (by rw [hw.1.2.2.2]; exact hw.2.2.2) (fun _ => hw)
  refine z_Sr_e hset hw1 (fun k k0 k1 c c0 c1 => ?_)
  rw [p_rows_u h0 hi0 hi1 k0 c0 c1, z_ifa]
theorem h_X2_openCells {w c k : Int} (hc : z_Sc E mr s) (hd : z_Sd mi s P) (hr : z_Sr E mi mr s sg (P 0) (P 14 + P 1) (p_rows P)) (hH : p_hd P) (h0 : 0 ≤ w) (h1 : w < P 1) (hcc : 0 ≤ c) (hn1 : 1 ≤ k) (hn2 : c + k ≤ P 0) :
    z_mv M_X2_openCells E [zo (sg (P 14 + w)), zi c, zi k, zi (P 0)] mi mr (fun m r => r = mr ∧ z_Sh E m mr s sg (p_upd P (24 + w) (r_insc (P 0) c k (p_row P (24 + w)))) (p_rows (p_upd P (24 + w) (r_insc (P 0) c k (p_row P (24 + w))))) ∧ z_Fr s mi mr m mr) := by
  obtain ⟨hw0, hw1, hh0, hh1, hf0, hf1, hf2, hr0, hr1, hc0, hc1, hp0, hp1, hk0, hk1, hi0, hi1, hkp, hP⟩ := id hH
  obtain ⟨s1, s2, s3, s4, s5, s6, s7⟩ := hr.1 (P 14 + w) (by omega) (by omega)
  have h := c_X2_openCells (mi := mi) (F := mi (sg (P 14 + w))) (X := mi (sg (P 14 + w) + 1)) (c := c) (n := k) (w := P 0) s2 s5 hcc hn1 hn2 hw1
  rw [z_mself] at h
  have hq := z_T_rwf hr hH h0 h1
  refine z_mv_w h (fun m r q => ?_)
  obtain ⟨rfl, rfl⟩ := q
  exact ⟨rfl, z_R_row hc hd hr hH h0 h1 (z_xr_op s5) ⟨c_op_rw hq.1 hq.2 hw1 hcc hn1 hn2, c_wf_insc hq.2 hw1 hcc hn1 hn2⟩⟩
theorem h_X2_closeCells {w c k : Int} (hc : z_Sc E mr s) (hd : z_Sd mi s P) (hr : z_Sr E mi mr s sg (P 0) (P 14 + P 1) (p_rows P)) (hH : p_hd P) (h0 : 0 ≤ w) (h1 : w < P 1) (hcc : 0 ≤ c) (hn1 : 1 ≤ k) (hn2 : c + k ≤ P 0) :
    z_mv M_X2_closeCells E [zo (sg (P 14 + w)), zi c, zi k, zi (P 0)] mi mr (fun m r => r = mr ∧ z_Sh E m mr s sg (p_upd P (24 + w) (r_delc (P 0) c k (p_row P (24 + w)))) (p_rows (p_upd P (24 + w) (r_delc (P 0) c k (p_row P (24 + w))))) ∧ z_Fr s mi mr m mr) := by
  obtain ⟨hw0, hw1, hh0, hh1, hf0, hf1, hf2, hr0, hr1, hc0, hc1, hp0, hp1, hk0, hk1, hi0, hi1, hkp, hP⟩ := id hH
  obtain ⟨s1, s2, s3, s4, s5, s6, s7⟩ := hr.1 (P 14 + w) (by omega) (by omega)
  have h := c_X2_closeCells (mi := mi) (F := mi (sg (P 14 + w))) (X := mi (sg (P 14 + w) + 1)) (c := c) (n := k) (w := P 0) s2 s5 hcc hn1 hn2 hw1
  rw [z_mself] at h
  have hq := z_T_rwf hr hH h0 h1
  refine z_mv_w h (fun m r q => ?_)
  obtain ⟨rfl, rfl⟩ := q
  exact ⟨rfl, z_R_row hc hd hr hH h0 h1 (z_xr_cl s5) ⟨c_cl_rw hq.1 hq.2 hw1 hcc hn1 hn2, c_wf_delc hq.2 hw1 hcc hn1 hn2⟩⟩
/-- a change told from a memory in which a cell outside was set -/
theorem z_T_base {a : Nat} {F : Int → Int} (h : z_T E s (z_u mi a F) mr Q m r) (ha : a < s ∨ s + 71 ≤ a) (hQ : p_hd Q) : z_T E s mi mr Q (z_u m a (mi a)) r := by
  obtain ⟨sg, a1, a2, a3, hf⟩ := h
  obtain ⟨hw0, hw1, hh0, hh1, hf0, hf1, hf2, hr0, hr1, hc0, hc1, hp0, hp1, hk0, hk1, hi0, hi1, hkp, hP⟩ := id hQ
  refine ⟨sg, a1, z_Sd_fr a2 hk1 (fun c c0 c1 => z_un (by omega)), z_Sr_m a3 (by omega) (fun c c0 c1 => z_un (by omega)), fun c hc => ⟨?_, (hf c hc).2⟩⟩
  by_cases q : c = a
  · subst q; exact z_us _ _ _
  · rw [z_un q]; exact (hf c hc).1.trans (z_un q)
end ZOB3
