set_option maxHeartbeats 1000000 in
set_option maxRecDepth 100000 in
theorem e_X3_clear {E : z_E} {mi : z_Mi} {mr : z_Mr} {s : Nat} {sg : Int → Nat} {P : Int → Int} {cw ch : Int} (hc : z_Sc E mr s) (hd : z_Sd mi s P) (hr : z_Sr E mi mr s sg (P 0) (P 14 + P 1) (p_rows P)) (hH : p_hd P) (hcw : 0 ≤ cw) (hcw1 : cw ≤ 20) (hch : 1 ≤ ch) (hch1 : ch ≤ 8) : z_mv M_X3_clear E [zo s, zi cw, zi ch] mi mr (fun m r => r = mr ∧ ∃ sg : Int → Nat, z_Sd m s (p_clr cw ch P) ∧ z_Sr E m mr s sg cw 32 (fun _ => r_blank) ∧ z_Fr s mi mr m mr) := by
  obtain ⟨t0, t1, t2, t3, t4, q0, q1, q2⟩ := id hc
  obtain ⟨d3, d4, d5, d6, d7, d8, u0, u1, u2, uk, uz⟩ := id hd
  obtain ⟨hw0, hw1, hh0, hh1, hf0, hf1, hf2, hr0, hr1, hc0, hc1, hp0, hp1, hk0, hk1, hi0, hi1, hkp, hP⟩ := id hH
  have hn : P 14 + P 1 ≤ 32 := by omega
  refine z_ofv (ls := [some (zo s), some (zi cw), some (zi ch), none, none, none, none]) rfl (fun _ _ => trivial) ⟨rfl, rfl⟩ (Nat.le_of_ble_eq_true rfl) rfl ?_
  refine z_aload_n e_X3_clear_0 rfl ?_
  refine z_getr (fi := 0) (r := some (s + 1)) e_X3_clear_1 f_RX3_11 t0 rfl rfl (q0) ?_
  refine z_astore_n (ls' := [some (zo s), some (zi cw), some (zi ch), some (zo (s + 1)), none, none, none]) e_X3_clear_4 rfl rfl rfl ?_
  refine z_aload_n e_X3_clear_5 rfl ?_
  refine z_alen e_X3_clear_6 t1 (by decide) ?_
  refine z_istore (ls' := [some (zo s), some (zi cw), some (zi ch), some (zo (s + 1)), some (zi ((32 : Nat) : Int)), none, none]) e_X3_clear_7 rfl rfl rfl ?_
  refine z_iconst e_X3_clear_9 ?_
  refine z_istore (ls' := [some (zo s), some (zi cw), some (zi ch), some (zo (s + 1)), some (zi ((32 : Nat) : Int)), some (zi 0), none]) e_X3_clear_10 rfl rfl rfl ?_
  have loop12 : ∀ (nn : Nat) (i : Int) (ml : z_Mi), (32 - i).toNat = nn → (0 ≤ i ∧ i ≤ 32 ∧ z_Sd ml s P ∧ z_Sr E ml mr s sg cw i (fun _ => r_blank) ∧ z_Fr s mi mr ml mr) → z_A M_X3_clear E 0 0 12 [some (zo s), some (zi cw), some (zi ch), some (zo (s + 1)), some (zi ((32 : Nat) : Int)), some (zi i), none] [] ml mr (z_qv E (fun m r => r = mr ∧ ∃ sg : Int → Nat, z_Sd m s (p_clr cw ch P) ∧ z_Sr E m mr s sg cw 32 (fun _ => r_blank) ∧ z_Fr s mi mr m mr)) := by
    intro nn
    induction nn using Nat.strongRecOn with
    | _ nn ih12 =>
      intro i ml hmeas hinv
      obtain ⟨ia0, ia1, hdl, hrl, hfl⟩ := hinv
      refine z_iload e_X3_clear_12 rfl ?_
      refine z_iload e_X3_clear_14 rfl ?_
      refine z_icmp_ge e_X3_clear_16 ⟨by omega, by omega⟩ ⟨by omega, by omega⟩ (fun h16_1 => ?_) (fun h16_1 => ?_)
      · rw [show i = 32 by omega] at hrl
        refine z_aload_n e_X3_clear_36 rfl ?_
        refine z_iconst e_X3_clear_37 ?_
        refine z_putiN (fi := 4) (f := (ml s)) e_X3_clear_38 f_RX3_32 t0 rfl rfl (Or.inl rfl) (rfl) ?_
        refine z_aload_n e_X3_clear_41 rfl ?_
        refine z_iload_n e_X3_clear_42 rfl ?_
        refine z_putiU (fi := 5) e_X3_clear_43 f_RX3_35 t0 rfl rfl (Or.inl rfl) ?_
        refine z_aload_n e_X3_clear_46 rfl ?_
        refine z_iload_n e_X3_clear_47 rfl ?_
        refine z_putiU (fi := 6) e_X3_clear_48 f_RX3_38 t0 rfl rfl (Or.inl rfl) ?_
        refine z_aload_n e_X3_clear_51 rfl ?_
        refine z_iconst e_X3_clear_52 ?_
        refine z_putiU (fi := 7) e_X3_clear_53 f_RX3_41 t0 rfl rfl (Or.inl rfl) ?_
        refine z_aload_n e_X3_clear_56 rfl ?_
        refine z_iload_n e_X3_clear_57 rfl ?_
        refine z_iconst e_X3_clear_58 ?_
        refine z_isub e_X3_clear_59 ?_
        refine z_putiU (fi := 8) e_X3_clear_60 f_RX3_44 t0 rfl rfl (Or.inl rfl) ?_
        refine z_ret e_X3_clear_63 rfl rfl rfl ⟨rfl, rfl, ?_⟩
        exact ⟨rfl, z_T_clr hc hdl hrl hfl hk1 (by omega) hch1⟩
      · refine z_aload_n e_X3_clear_19 rfl ?_
        refine z_iload e_X3_clear_20 rfl ?_
        have hri := hrl.1 i (by omega) (by omega)
        refine z_aald (r := some (sg i)) e_X3_clear_22 t1 (by decide) (by decide) (by omega) (by omega) (hri.1) ?_
        refine z_astore (ls' := [some (zo s), some (zi cw), some (zi ch), some (zo (s + 1)), some (zi ((32 : Nat) : Int)), some (zi i), some (zo (sg i))]) e_X3_clear_23 rfl rfl rfl ?_
        refine z_aload e_X3_clear_25 rfl ?_
        refine z_callVv (M' := M_X2_clear) (As := []) (rest := []) e_X3_clear_27 l_RX3_63 rfl rfl rfl rfl (hrl.1 i (by omega) (by omega)).2.1.1 ⟨_, _, rfl⟩ (d_X2_clear (hrl.1 i (by omega) (by omega)).2.1) (fun mq rq hq => ?_)
        obtain ⟨e2q, e3q⟩ := hq
        subst mq rq
        refine z_iinc (y := (i + 1)) (ls' := [some (zo s), some (zi cw), some (zi ch), some (zo (s + 1)), some (zi ((32 : Nat) : Int)), some (zi (i + 1)), some (zo (sg i))]) e_X3_clear_30 rfl rfl rfl rfl rfl ?_
        refine z_goto e_X3_clear_33 ?_
        refine z_fgt (ls' := [some (zo s), some (zi cw), some (zi ch), some (zo (s + 1)), some (zi ((32 : Nat) : Int)), some (zi (i + 1)), none]) ⟨rfl, rfl, rfl, rfl, rfl, rfl, trivial⟩ ?_
        exact ih12 _ (by omega) (i + 1) (z_u (z_u ml (sg i) (c_un (ml (sg i)))) (sg i + 1) (c_bl (ml (sg i + 1)) 20)) rfl (⟨by omega, by omega, z_Sd_row hdl hri.2.2.1 hri.2.2.2.1, z_Sr_R (z_Sr_grow hrl ia0 (by omega) (z_xr_bl hri.2.2.2.2.1 20) ⟨c_bl_rw hcw hcw1, c_wf_blank hcw1⟩) (fun k _ _ => by split <;> rfl), z_Fr_t hfl (z_Fr_row hri.2.2.1 hri.2.2.2.1)⟩)
  exact loop12 _ 0 mi rfl (⟨by omega, by omega, hd, z_Sr_none hr, z_Fr_r s mi mr⟩)
set_option maxHeartbeats 1000000 in
set_option maxRecDepth 100000 in
theorem e_X3_copyFrom {E : z_E} {mi : z_Mi} {mr : z_Mr} {s t : Nat} {sg sg2 : Int → Nat} {P D : Int → Int} {W n : Int} {R : Int → Int → Int} (hc : z_Sc E mr s) (hd : z_Sd mi s D) (hr : z_Sr E mi mr s sg W n R) (hc2 : z_Sc E mr t) (hd2 : z_Sd mi t P) (hr2 : z_Sr E mi mr t sg2 (P 0) (P 14 + P 1) (p_rows P)) (hH : p_hd P) (hst : s + 71 ≤ t ∨ t + 71 ≤ s) : z_mv M_X3_copyFrom E [zo s, zo t] mi mr (fun m r => z_T E s mi mr P m r) := by
  obtain ⟨t0, t1, t2, t3, t4, q0, q1, q2⟩ := id hc
  obtain ⟨b0, b1, b2, b3, b4, c0, c1, c2⟩ := id hc2
  obtain ⟨e3, e4, e5, e6, e7, e8, v0, v1, v2, vk, vz⟩ := id hd2
  obtain ⟨d3, d4, d5, d6, d7, d8, u0, u1, u2, uk, uz⟩ := id hd
  clear d3 d4 d5 d6 d7 d8 u0 u1 u2 uk
  obtain ⟨hw0, hw1, hh0, hh1, hf0, hf1, hf2, hr0, hr1, hc0, hc1, hp0, hp1, hk0, hk1, hi0, hi1, hkp, hP⟩ := id hH
  refine z_ofv (ls := [some (zo s), some (zo t), none]) rfl (fun _ _ => trivial) ⟨rfl, rfl⟩ (Nat.le_of_ble_eq_true rfl) rfl ?_
  refine z_aload_n e_X3_copyFrom_0 rfl ?_
  refine z_aload_n e_X3_copyFrom_1 rfl ?_
  refine z_geti (fi := 4) (x := (P 14)) e_X3_copyFrom_2 f_RX3_32 b0 rfl rfl (e4) ?_
  refine z_putiN (fi := 4) (f := (mi s)) e_X3_copyFrom_5 f_RX3_32 t0 rfl rfl (Or.inl rfl) (rfl) ?_
  refine z_aload_n e_X3_copyFrom_8 rfl ?_
  refine z_aload_n e_X3_copyFrom_9 rfl ?_
  refine z_geti (fi := 5) (x := (P 0)) e_X3_copyFrom_10 f_RX3_35 b0 rfl rfl ((congrFun ((z_un (by omega))) _).trans e5) ?_
  refine z_putiU (fi := 5) e_X3_copyFrom_13 f_RX3_35 t0 rfl rfl (Or.inl rfl) ?_
  refine z_aload_n e_X3_copyFrom_16 rfl ?_
  refine z_aload_n e_X3_copyFrom_17 rfl ?_
  refine z_geti (fi := 6) (x := (P 1)) e_X3_copyFrom_18 f_RX3_38 b0 rfl rfl ((congrFun ((z_un (by omega))) _).trans e6) ?_
  refine z_putiU (fi := 6) e_X3_copyFrom_21 f_RX3_38 t0 rfl rfl (Or.inl rfl) ?_
  refine z_aload_n e_X3_copyFrom_24 rfl ?_
  refine z_aload_n e_X3_copyFrom_25 rfl ?_
  refine z_geti (fi := 7) (x := (P 2)) e_X3_copyFrom_26 f_RX3_41 b0 rfl rfl ((congrFun ((z_un (by omega))) _).trans e7) ?_
  refine z_putiU (fi := 7) e_X3_copyFrom_29 f_RX3_41 t0 rfl rfl (Or.inl rfl) ?_
  refine z_aload_n e_X3_copyFrom_32 rfl ?_
  refine z_aload_n e_X3_copyFrom_33 rfl ?_
  refine z_geti (fi := 8) (x := (P 3)) e_X3_copyFrom_34 f_RX3_44 b0 rfl rfl ((congrFun ((z_un (by omega))) _).trans e8) ?_
  refine z_putiU (fi := 8) e_X3_copyFrom_37 f_RX3_44 t0 rfl rfl (Or.inl rfl) ?_
  refine z_aload_n e_X3_copyFrom_40 rfl ?_
  refine z_aload_n e_X3_copyFrom_41 rfl ?_
  refine z_geti (fi := 3) (x := (P 7)) e_X3_copyFrom_42 f_RX3_28 b0 rfl rfl ((congrFun ((z_un (by omega))) _).trans e3) ?_
  refine z_putiU (fi := 3) e_X3_copyFrom_45 f_RX3_28 t0 rfl rfl (Or.inl rfl) ?_
  refine z_aload_n e_X3_copyFrom_48 rfl ?_
  refine z_getr (fi := 1) (r := some (s + 2)) e_X3_copyFrom_49 f_RX3_20 t0 rfl rfl (q1) ?_
  refine z_aload_n e_X3_copyFrom_52 rfl ?_
  refine z_getr (fi := 1) (r := some (t + 2)) e_X3_copyFrom_53 f_RX3_20 b0 rfl rfl (c1) ?_
  refine z_callVv (M' := M_X0_copyFrom) (As := [zo (t + 2)]) (rest := []) e_X3_copyFrom_56 l_RX3_48 rfl rfl rfl rfl t2 ⟨_, _, rfl⟩ (d_X0_copyFrom t2 b2 (by omega) (by rw [z_un (by omega), v2]; omega)) (fun mq rq hq => ?_)
  obtain ⟨e2q, e3q⟩ := hq
  subst mq rq
  have ev0 : (z_u mi s (z_v (z_v (z_v (z_v (z_v (z_v (mi s) 4 (P 14)) 5 (P 0)) 6 (P 1)) 7 (P 2)) 8 (P 3)) 3 (P 7))) (t + 2) 0 = P 4 := (congrFun (z_un (by omega)) _).trans v0
  have ev1 : (z_u mi s (z_v (z_v (z_v (z_v (z_v (z_v (mi s) 4 (P 14)) 5 (P 0)) 6 (P 1)) 7 (P 2)) 8 (P 3)) 3 (P 7))) (t + 2) 1 = P 5 := (congrFun (z_un (by omega)) _).trans v1
  have ev2 : (z_u mi s (z_v (z_v (z_v (z_v (z_v (z_v (mi s) 4 (P 14)) 5 (P 0)) 6 (P 1)) 7 (P 2)) 8 (P 3)) 3 (P 7))) (t + 2) 2 = P 6 := (congrFun (z_un (by omega)) _).trans v2
  rw [ev0, ev1, ev2]
  generalize hm9 : (z_u (z_u mi s (z_v (z_v (z_v (z_v (z_v (z_v (mi s) 4 (P 14)) 5 (P 0)) 6 (P 1)) 7 (P 2)) 8 (P 3)) 3 (P 7))) (s + 2) (z_v (z_v (z_v ((z_u mi s (z_v (z_v (z_v (z_v (z_v (z_v (mi s) 4 (P 14)) 5 (P 0)) 6 (P 1)) 7 (P 2)) 8 (P 3)) 3 (P 7))) (s + 2)) 0 (P 4)) 1 (P 5)) 2 (P 6))) = m0
  have x0 : m0 s = (z_v (z_v (z_v (z_v (z_v (z_v (mi s) 4 (P 14)) 5 (P 0)) 6 (P 1)) 7 (P 2)) 8 (P 3)) 3 (P 7)) := by rw [← hm9, z_un (by omega), z_us]
  have x2 : m0 (s + 2) = (z_v (z_v (z_v ((z_u mi s (z_v (z_v (z_v (z_v (z_v (z_v (mi s) 4 (P 14)) 5 (P 0)) 6 (P 1)) 7 (P 2)) 8 (P 3)) 3 (P 7))) (s + 2)) 0 (P 4)) 1 (P 5)) 2 (P 6)) := by rw [← hm9, z_us]
  have hm0 : ∀ c, c ≠ s → c ≠ s + 2 → m0 c = mi c := fun c g0 g2 => by rw [← hm9, z_un g2, z_un g0]
  have a3 : m0 s 3 = P 7 := by rw [x0]; exact z_vs _ _ _
  have a8 : m0 s 8 = P 3 := by rw [x0, z_vn (by decide), z_vs]
  have a7 : m0 s 7 = P 2 := by rw [x0, z_vn (by decide), z_vn (by decide), z_vs]
  have a6 : m0 s 6 = P 1 := by rw [x0, z_vn (by decide), z_vn (by decide), z_vn (by decide), z_vs]
  have a5 : m0 s 5 = P 0 := by rw [x0, z_vn (by decide), z_vn (by decide), z_vn (by decide), z_vn (by decide), z_vs]
  have a4 : m0 s 4 = P 14 := by rw [x0, z_vn (by decide), z_vn (by decide), z_vn (by decide), z_vn (by decide), z_vn (by decide), z_vs]
  have y0 : m0 (s + 2) 0 = P 4 := by rw [x2, z_vn (by decide), z_vn (by decide), z_vs]
  have y1 : m0 (s + 2) 1 = P 5 := by rw [x2, z_vn (by decide), z_vs]
  have y2 : m0 (s + 2) 2 = P 6 := by rw [x2, z_vs]
  clear x0 x2 hm9
  refine z_iconst e_X3_copyFrom_59 ?_
  refine z_istore_n (ls' := [some (zo s), some (zo t), some (zi 0)]) e_X3_copyFrom_60 rfl rfl rfl ?_
  have loop61 : ∀ (nn : Nat) (k : Int) (mk : z_Mi), (P 7 - k).toNat = nn → (0 ≤ k ∧ k ≤ P 7 ∧ (∀ c, c < s + 68 ∨ s + 71 ≤ c → mk c = m0 c) ∧ (∀ j : Int, 0 ≤ j → j < k → mk (s + 68 + j.toNat) 0 = P (8 + 2 * j) ∧ mk (s + 68 + j.toNat) 1 = P (8 + 2 * j + 1) ∧ mk (s + 68 + j.toNat) 2 = 0) ∧ (∀ j : Int, 0 ≤ j → j < 3 → mk (s + 68 + j.toNat) 2 = 0 ∨ mk (s + 68 + j.toNat) 2 = 1)) → z_A M_X3_copyFrom E 0 0 61 [some (zo s), some (zo t), some (zi k)] [] mk mr (z_qv E (fun m r => z_T E s mi mr P m r)) := by
    intro nn
    induction nn using Nat.strongRecOn with
    | _ nn ih61 =>
      intro k mk hmeas hinv
      obtain ⟨ia0, ia1, hml, hkm, hkz⟩ := hinv
      refine z_iload_n e_X3_copyFrom_61 rfl ?_
      refine z_aload_n e_X3_copyFrom_62 rfl ?_
      refine z_geti (fi := 3) (x := (P 7)) e_X3_copyFrom_63 f_RX3_28 t0 rfl rfl ((congrFun (hml s (by omega)) _).trans a3) ?_
      refine z_icmp_ge e_X3_copyFrom_66 ⟨by omega, by omega⟩ ⟨by omega, by omega⟩ (fun h66_1 => ?_) (fun h66_1 => ?_)
      · have hk7 : k = P 7 := by omega
        rw [hk7] at hkm
        have hdk : z_Sd mk s P := ⟨by rw [hml s (by omega)]; exact a3, by rw [hml s (by omega)]; exact a4, by rw [hml s (by omega)]; exact a5, by rw [hml s (by omega)]; exact a6, by rw [hml s (by omega)]; exact a7, by rw [hml s (by omega)]; exact a8, by rw [hml (s + 2) (by omega)]; exact y0, by rw [hml (s + 2) (by omega)]; exact y1, by rw [hml (s + 2) (by omega)]; exact y2, hkm, hkz⟩
        have hmk : ∀ c, (c < s ∨ s + 4 ≤ c) → (c < s + 68 ∨ s + 71 ≤ c) → mk c = mi c := fun c g0 g1 => by rw [hml c (by omega), hm0 c (by omega) (by omega)]
        have hrk : z_Sr E mk mr s sg (P 0) 0 (p_rows P) := z_Sr_none (z_Sr_m (n := 0) (z_Sr_none hr (W' := W) (R' := R)) (by decide) (fun c g0 g1 => hmk c (by omega) (by omega)))
        have hfk : z_Fr s mi mr mk mr := fun c g => ⟨hmk c (by omega) (by omega), rfl⟩
        refine z_iconst e_X3_copyFrom_88 ?_
        refine z_istore_n (ls' := [some (zo s), some (zo t), some (zi 0)]) e_X3_copyFrom_89 rfl rfl rfl ?_
        have loop90 : ∀ (nn : Nat) (k : Int) (ml : z_Mi), (P 14 + P 1 - k).toNat = nn → (0 ≤ k ∧ k ≤ P 14 + P 1 ∧ z_Sd ml s P ∧ z_Sr E ml mr s sg (P 0) k (p_rows P) ∧ z_Fr s mi mr ml mr) → z_A M_X3_copyFrom E 0 0 90 [some (zo s), some (zo t), some (zi k)] [] ml mr (z_qv E (fun m r => z_T E s mi mr P m r)) := by
          intro nn
          induction nn using Nat.strongRecOn with
          | _ nn ih90 =>
            intro k ml hmeas hinv
            obtain ⟨ib0, ib1, hd, hr, hf⟩ := hinv
            obtain ⟨d3, d4, d5, d6, d7, d8, u0, u1, u2, uk, uz⟩ := id hd
            have hrt := z_Sr_m hr2 (by omega) (fun c g0 g1 => (hf c (by omega)).1)
            have hdt := z_Sd_fr hd2 hk1 (fun c g0 g1 => (hf c (by omega)).1)
            refine z_iload_n e_X3_copyFrom_90 rfl ?_
            refine z_aload_n e_X3_copyFrom_91 rfl ?_
            refine z_geti (fi := 4) (x := (P 14)) e_X3_copyFrom_92 f_RX3_32 t0 rfl rfl (d4) ?_
            refine z_aload_n e_X3_copyFrom_95 rfl ?_
            refine z_geti (fi := 6) (x := (P 1)) e_X3_copyFrom_96 f_RX3_38 t0 rfl rfl (d6) ?_
            refine z_iadd e_X3_copyFrom_99 ?_
            refine z_icmp_ge e_X3_copyFrom_100 ⟨by omega, by omega⟩ ⟨by omega, by omega⟩ (fun h100_2 => ?_) (fun h100_2 => ?_)
            · refine z_ret e_X3_copyFrom_122 rfl rfl rfl ⟨rfl, rfl, ?_⟩
              exact ⟨sg, hc, hd, by rw [show P 14 + P 1 = k by omega]; exact hr, hf⟩
            · have hrs := hr.1 k (by omega) (by omega)
              have hrr := hrt.1 k (by omega) (by omega)
              refine z_aload_n e_X3_copyFrom_103 rfl ?_
              refine z_iload_n e_X3_copyFrom_104 rfl ?_
              refine z_callVr (M' := M_X3_rowAt) (As := [zi k]) (rest := []) e_X3_copyFrom_105 l_RX3_56 rfl rfl rfl rfl t0 ⟨_, _, rfl⟩ (d_X3_rowAt hc hd hr (by omega) (by omega) (by omega) (by omega) (by omega)) (fun xq mq rq hq => ?_)
              obtain ⟨e1q, e2q, e3q⟩ := hq
              subst xq mq rq
              refine z_aload_n e_X3_copyFrom_108 rfl ?_
              refine z_iload_n e_X3_copyFrom_109 rfl ?_
              refine z_callVr (M' := M_X3_rowAt) (As := [zi k]) (rest := [zo (sg k)]) e_X3_copyFrom_110 l_RX3_56 rfl rfl rfl rfl b0 ⟨_, _, rfl⟩ (d_X3_rowAt hc2 hdt hrt (by omega) (by omega) (by omega) (by omega) (by omega)) (fun xq mq rq hq => ?_)
              obtain ⟨e1q, e2q, e3q⟩ := hq
              subst xq mq rq
              refine z_callVv (M' := M_X2_copyFrom) (As := [zo (sg2 k)]) (rest := []) e_X3_copyFrom_113 l_RX3_60 rfl rfl rfl rfl hrs.2.1.1 ⟨_, _, rfl⟩ (d_X2_copyFrom hrs.2.1 hrr.2.1 (by omega) ⟨hrr.2.2.2.2.2.1, hrr.2.2.2.2.2.2⟩) (fun mq rq hq => ?_)
              obtain ⟨e2q, e3q⟩ := hq
              subst mq rq
              refine z_iinc (y := (k + 1)) (ls' := [some (zo s), some (zo t), some (zi (k + 1))]) e_X3_copyFrom_116 rfl rfl rfl rfl rfl ?_
              refine z_goto e_X3_copyFrom_119 ?_
              exact ih90 _ (by omega) (k + 1) (z_u (z_u ml (sg k) (z_v (z_v (ml (sg k)) 1 (ml (sg2 k) 1)) 2 (ml (sg2 k) 2))) (sg k + 1) (z_cpy (ml (sg2 k + 1)) (ml (sg k + 1)) 20)) rfl (⟨by omega, by omega, z_Sd_row hd hrs.2.2.1 hrs.2.2.2.1, z_Sr_R (z_Sr_grow (f := p_rows P k) hr ib0 (by omega) (z_xr_cpy hrr.2.2.2.2.1 hrs.2.2.2.2.1) ⟨c_cp_rw (hrt.2.2 k ib0 (by omega)).1 (by omega) (by omega), (hrt.2.2 k ib0 (by omega)).2⟩) (fun j _ _ => z_ifr (p_rows P) j k), z_Fr_t hf (z_Fr_row hrs.2.2.1 hrs.2.2.2.1)⟩)
        exact loop90 _ 0 mk rfl (⟨by omega, by omega, hdk, hrk, hfk⟩)
      · refine z_aload_n e_X3_copyFrom_69 rfl ?_
        refine z_iload_n e_X3_copyFrom_70 rfl ?_
        refine z_callVr (M' := M_X3_keptPlace) (As := [zi k]) (rest := []) e_X3_copyFrom_71 l_RX3_52 rfl rfl rfl rfl t0 ⟨_, _, rfl⟩ (d_X3_keptPlace t0 t3 q2 (by omega) (by omega) (t4 k (by omega) (by omega)).2) (fun xq mq rq hq => ?_)
        obtain ⟨e1q, e2q, e3q⟩ := hq
        subst xq mq rq
        refine z_aload_n e_X3_copyFrom_74 rfl ?_
        refine z_iload_n e_X3_copyFrom_75 rfl ?_
        refine z_callVr (M' := M_X3_keptPlace) (As := [zi k]) (rest := [zo (s + 68 + (k).toNat)]) e_X3_copyFrom_76 l_RX3_52 rfl rfl rfl rfl b0 ⟨_, _, rfl⟩ (d_X3_keptPlace b0 b3 c2 (by omega) (by omega) (b4 k (by omega) (by omega)).2) (fun xq mq rq hq => ?_)
        obtain ⟨e1q, e2q, e3q⟩ := hq
        subst xq mq rq
        refine z_callVv (M' := M_X0_copyFrom) (As := [zo (t + 68 + (k).toNat)]) (rest := []) e_X3_copyFrom_79 l_RX3_48 rfl rfl rfl rfl (t4 k (by omega) (by omega)).1 ⟨_, _, rfl⟩ (d_X0_copyFrom (t4 k (by omega) (by omega)).1 (b4 k (by omega) (by omega)).1 (by omega) (by rw [hml (t + 68 + k.toNat) (by omega), hm0 (t + 68 + k.toNat) (by omega) (by omega)]; exact vz k (by omega) (by omega))) (fun mq rq hq => ?_)
        obtain ⟨e2q, e3q⟩ := hq
        subst mq rq
        refine z_iinc (y := (k + 1)) (ls' := [some (zo s), some (zo t), some (zi (k + 1))]) e_X3_copyFrom_82 rfl rfl rfl rfl rfl ?_
        refine z_goto e_X3_copyFrom_85 ?_
        exact ih61 _ (by omega) (k + 1) (z_u mk (s + 68 + (k).toNat) (z_v (z_v (z_v (mk (s + 68 + (k).toNat)) 0 (mk (t + 68 + (k).toNat) 0)) 1 (mk (t + 68 + (k).toNat) 1)) 2 (mk (t + 68 + (k).toNat) 2))) rfl (z_T_cpk ia0 (by omega) hst hml hkm hkz (by rw [hml _ (by omega), hm0 _ (by omega) (by omega)]; exact (vk k ia0 (by omega)).1) (by rw [hml _ (by omega), hm0 _ (by omega) (by omega)]; exact (vk k ia0 (by omega)).2.1) (by rw [hml _ (by omega), hm0 _ (by omega) (by omega)]; exact (vk k ia0 (by omega)).2.2) (by omega))
  exact loop61 _ 0 m0 rfl (⟨by omega, by omega, fun c _ => rfl, fun j j0 j1 => absurd j0 (by omega), fun j j0 j1 => by rw [hm0 (s + 68 + j.toNat) (by omega) (by omega)]; exact uz j j0 j1⟩)
