set_option maxHeartbeats 1000000 in
set_option maxRecDepth 100000 in
theorem d_X3_lineFeed {E : z_E} {mi : z_Mi} {mr : z_Mr} {s : Nat} {sg : Int → Nat} {P : Int → Int} (hc : z_Sc E mr s) (hd : z_Sd mi s P) (hr : z_Sr E mi mr s sg (P 0) (P 14 + P 1) (p_rows P)) (hH : p_hd P) : z_mi M_X3_lineFeed E [zo s] mi mr (fun x m r => x = (if P 4 = P 3 ∨ P 4 ≠ P 1 - 1 then 1 else 0) ∧ ∃ sg' : Int → Nat, z_Sc E r s ∧ z_Sd m s (p_fl P) ∧ z_Sr E m r s sg' (P 0) ((p_fl P) 14 + P 1) (p_rows (p_fl P)) ∧ z_Fr s mi mr m r) := by
  obtain ⟨t0, t1, t2, t3, t4, q0, q1, q2⟩ := id hc
  obtain ⟨d3, d4, d5, d6, d7, d8, u0, u1, u2, uk, uz⟩ := id hd
  obtain ⟨hw0, hw1, hh0, hh1, hf0, hf1, hf2, hr0, hr1, hc0, hc1, hp0, hp1, hk0, hk1, hi0, hi1, hkp, hP⟩ := id hH
  have hW0 : 0 ≤ P 0 := by omega
  have hn : P 14 + P 1 ≤ 32 := by omega
  refine z_ofi (ls := [some (zo s), none]) rfl (fun _ _ => trivial) ⟨rfl, rfl⟩ (Nat.le_of_ble_eq_true rfl) rfl ?_
  refine z_aload_n e_X3_lineFeed_0 rfl ?_
  refine z_getr (fi := 1) (r := some (s + 2)) e_X3_lineFeed_1 f_RX3_20 t0 rfl rfl (q1) ?_
  refine z_geti (fi := 0) (x := (P 4)) e_X3_lineFeed_4 f_RX3_66 t2 rfl rfl (u0) ?_
  refine z_aload_n e_X3_lineFeed_7 rfl ?_
  refine z_geti (fi := 8) (x := (P 3)) e_X3_lineFeed_8 f_RX3_44 t0 rfl rfl (d8) ?_
  refine z_icmp_eq e_X3_lineFeed_11 ⟨by omega, by omega⟩ ⟨by omega, by omega⟩ (fun h11_1 => ?_) (fun h11_1 => ?_)
  · refine z_aload_n e_X3_lineFeed_59 rfl ?_
    refine z_geti (fi := 7) (x := (P 2)) e_X3_lineFeed_60 f_RX3_41 t0 rfl rfl (d7) ?_
    refine z_if_ne e_X3_lineFeed_63 ⟨by omega, by omega⟩ (fun h63_2 => ?_) (fun h63_2 => ?_)
    · refine z_aload_n e_X3_lineFeed_73 rfl ?_
      refine z_aload_n e_X3_lineFeed_74 rfl ?_
      refine z_geti (fi := 7) (x := (P 2)) e_X3_lineFeed_75 f_RX3_41 t0 rfl rfl (d7) ?_
      refine z_callVv (M' := M_X3_takeRow) (As := [zi (P 2)]) (rest := []) e_X3_lineFeed_78 l_RX3_111 rfl rfl rfl rfl t0 ⟨_, _, rfl⟩ (d_X3_takeRow hc hd hr hW0 hw1 hn (by omega) (by omega) (by omega)) (fun mt rt htk => ?_)
      refine z_iconst e_X3_lineFeed_81 ?_
      refine z_iret e_X3_lineFeed_82 (Or.inr ⟨rfl, Or.inr rfl⟩) rfl rfl ⟨rfl, _, rfl, ?_⟩
      refine ⟨(if_pos (Or.inl (by omega))).symm, ?_⟩
      have ef : p_fl P = p_scroll P := if_pos (by omega)
      rw [ef]
      obtain ⟨sg, hc, hd, hr, hf⟩ := htk
      have e14 : p_scroll P 14 = P 14 := p_scr_c_hd (by omega) (by omega) (by decide)
      refine ⟨sg, hc, z_Sd_c hd (fun j j0 j1 => ?_) (by omega), ?_, hf⟩
      · exact p_scr_c_hd (by omega) (by omega) j1
      · rw [e14]
        exact z_Sr_e hr hw1 (fun k k0 k1 c c0 c1 => p_rows_c (by omega) (by omega) (by omega) (by omega) k c k0 c0 c1)
    · refine z_aload_n e_X3_lineFeed_66 rfl ?_
      refine z_callVv (M' := M_X3_pushTopRow) (As := []) (rest := []) e_X3_lineFeed_67 l_RX3_108 rfl rfl rfl rfl t0 ⟨_, _, rfl⟩ (d_X3_pushTopRow hc hd hr hW0 hw1 hn rfl (by omega) (by omega) (by omega) (by omega) (by omega) (by omega)) (fun mp rp hpt => ?_)
      refine z_goto e_X3_lineFeed_70 ?_
      refine z_iconst e_X3_lineFeed_81 ?_
      refine z_iret e_X3_lineFeed_82 (Or.inr ⟨rfl, Or.inr rfl⟩) rfl rfl ⟨rfl, _, rfl, ?_⟩
      refine ⟨(if_pos (Or.inl (by omega))).symm, ?_⟩
      have ef : p_fl P = p_scroll P := if_pos (by omega)
      rw [ef]
      by_cases q14 : P 14 < 24
      · obtain ⟨sg, hc, hd, hr, hf⟩ := hpt.1 q14
        have e14 : p_scroll P 14 = P 14 + 1 := (p_scr_a_hd (by omega) q14 (by omega) (by omega) (by decide)).trans (if_pos rfl)
        refine ⟨sg, hc, z_Sd_c hd (fun j j0 j1 => ?_) (by rw [z_vn (by decide)]; omega), ?_, hf⟩
        · rw [p_scr_a_hd (by omega) q14 (by omega) (by omega) j1]; rfl
        · rw [e14, show P 14 + 1 + P 1 = P 14 + P 1 + 1 by omega]
          exact z_Sr_e hr hw1 (fun k k0 k1 c c0 c1 => p_rows_a (by omega) (by omega) (by omega) q14 (by omega) k c k0 (by omega) c0 c1)
      · obtain ⟨sg, hc, hd, hr, hf⟩ := hpt.2 q14
        have e14 : p_scroll P 14 = P 14 := p_scr_b_hd (by omega) (by omega) (by omega) (by decide)
        refine ⟨sg, hc, z_Sd_c hd (fun j j0 j1 => ?_) (by omega), ?_, hf⟩
        · exact p_scr_b_hd (by omega) (by omega) (by omega) j1
        · rw [e14]
          exact z_Sr_e hr hw1 (fun k k0 k1 c c0 c1 => p_rows_b (by omega) (by omega) (by omega) k c k0 c0 c1)
  · have join35_2 : ∀ (mv : Int), mv = (if P 4 < P 1 - 1 then 1 else 0) → z_A M_X3_lineFeed E 0 0 35 [some (zo s), none] [zi mv] mi mr (z_qi E (fun x m r => x = (if P 4 = P 3 ∨ P 4 ≠ P 1 - 1 then 1 else 0) ∧ ∃ sg' : Int → Nat, z_Sc E r s ∧ z_Sd m s (p_fl P) ∧ z_Sr E m r s sg' (P 0) ((p_fl P) 14 + P 1) (p_rows (p_fl P)) ∧ z_Fr s mi mr m r)) := by
      intro mv hj
      have hmv := hj
      have hmv2 : mv = 0 ∨ mv = 1 := by rw [hj]; split <;> omega
      refine z_istore_n (ls' := [some (zo s), some (zi mv)]) e_X3_lineFeed_35 rfl rfl rfl ?_
      refine z_aload_n e_X3_lineFeed_36 rfl ?_
      refine z_getr (fi := 1) (r := some (s + 2)) e_X3_lineFeed_37 f_RX3_20 t0 rfl rfl (q1) ?_
      refine z_dup e_X3_lineFeed_40 rfl ?_
      refine z_geti (fi := 0) (x := (P 4)) e_X3_lineFeed_41 f_RX3_66 t2 rfl rfl (u0) ?_
      have join53_3 : ∀ (st : Int), st = mv → z_A M_X3_lineFeed E 0 0 53 [some (zo s), some (zi mv)] [zi st, zi (P 4), zo (s + 2)] mi mr (z_qi E (fun x m r => x = (if P 4 = P 3 ∨ P 4 ≠ P 1 - 1 then 1 else 0) ∧ ∃ sg' : Int → Nat, z_Sc E r s ∧ z_Sd m s (p_fl P) ∧ z_Sr E m r s sg' (P 0) ((p_fl P) 14 + P 1) (p_rows (p_fl P)) ∧ z_Fr s mi mr m r)) := by
        intro st hj
        have hst := hj
        refine z_iadd e_X3_lineFeed_53 ?_
        refine z_putiN (fi := 0) (f := (mi (s + 2))) e_X3_lineFeed_54 f_RX3_66 t2 rfl rfl (Or.inl rfl) (rfl) ?_
        refine z_iload_n e_X3_lineFeed_57 rfl ?_
        refine z_iret e_X3_lineFeed_58 (Or.inr ⟨rfl, by omega⟩) rfl rfl ⟨rfl, _, rfl, ?_⟩
        have hmv3 : (mv = 1 ∧ P 4 ≠ P 1 - 1) ∨ (mv = 0 ∧ P 4 = P 1 - 1) := by rw [hmv]; split <;> omega
        have hst2 : st = mv := by omega
        refine ⟨?_, sg, hc, ?_, ?_, z_Fr_cur⟩
        · by_cases q : P 4 = P 1 - 1
          · rw [if_neg (by omega)]; omega
          · rw [if_pos (Or.inr q)]; omega
        · have hx := z_Sd_cur (i := 0) (v := P 4 + st) hd (Or.inl rfl) (by omega)
          refine z_Sd_c hx (fun j j0 j1 => ?_) (by rw [z_vn (by decide)]; omega)
          unfold p_fl; rw [if_neg (by omega)]
          by_cases q : P 4 = P 1 - 1
          · rw [if_pos q]; unfold z_v; split
            · next e => rw [e]; show P 4 = P 4 + st; omega
            · rfl
          · rw [if_neg q]; unfold z_v; split
            · next e => rw [if_pos (by omega)]; omega
            · next e => rw [if_neg (by omega)]
        · have e14 : p_fl P 14 = P 14 := by unfold p_fl; rw [if_neg (by omega)]; split
                                            · rfl
                                            · exact z_vn (by decide)
          rw [e14]
          refine z_Sr_e (z_Sr_cur hr hn) hw1 (fun k k0 k1 c c0 c1 => ?_)
          unfold p_fl; rw [if_neg (by omega)]; split
          · rfl
          · exact p_rows_v (by decide) k c k0 (by omega) (by omega) c0
      refine z_iload_n e_X3_lineFeed_44 rfl ?_
      refine z_if_eq e_X3_lineFeed_45 ⟨by omega, by omega⟩ (fun h45_5 => ?_) (fun h45_5 => ?_)
      · refine z_iconst e_X3_lineFeed_52 ?_
        exact join53_3 0 (by omega)
      · refine z_iconst e_X3_lineFeed_48 ?_
        refine z_goto e_X3_lineFeed_49 ?_
        exact join53_3 1 (by omega)
    refine z_aload_n e_X3_lineFeed_14 rfl ?_
    refine z_getr (fi := 1) (r := some (s + 2)) e_X3_lineFeed_15 f_RX3_20 t0 rfl rfl (q1) ?_
    refine z_geti (fi := 0) (x := (P 4)) e_X3_lineFeed_18 f_RX3_66 t2 rfl rfl (u0) ?_
    refine z_aload_n e_X3_lineFeed_21 rfl ?_
    refine z_geti (fi := 6) (x := (P 1)) e_X3_lineFeed_22 f_RX3_38 t0 rfl rfl (d6) ?_
    refine z_iconst e_X3_lineFeed_25 ?_
    refine z_isub e_X3_lineFeed_26 ?_
    refine z_icmp_ge e_X3_lineFeed_27 ⟨by omega, by omega⟩ ⟨by omega, by omega⟩ (fun h27_6 => ?_) (fun h27_6 => ?_)
    · refine z_iconst e_X3_lineFeed_34 ?_
      exact join35_2 0 ((if_neg (by omega)).symm)
    · refine z_iconst e_X3_lineFeed_30 ?_
      refine z_goto e_X3_lineFeed_31 ?_
      exact join35_2 1 ((if_pos (by omega)).symm)
