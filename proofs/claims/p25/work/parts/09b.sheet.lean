set_option maxHeartbeats 1000000 in
set_option maxRecDepth 100000 in
theorem c_X3_rowAt {E : z_E} {mi : z_Mi} {mr : z_Mr} {s : Nat} {sg : Int → Nat} {P : Int → Int} {R : Int → Int → Int} {k : Int} (hS : z_Sh E mi mr s sg P R) (hH : p_hd P) (h0 : 0 ≤ k) (h1 : k < 32) : z_mf M_X3_rowAt E [zo s, zi k] mi mr (fun x m r => x = sg k ∧ m = mi ∧ r = mr) := by
  obtain ⟨⟨t0, t1, t2, t3, t4, q0, q1, q2⟩, ⟨d3, d4, d5, d6, d7, d8, u0, u1, u2, uk, uz⟩, hrows⟩ := id hS
  obtain ⟨hw0, hw1, hh0, hh1, hf0, hf1, hf2, hr0, hr1, hc0, hc1, hp0, hp1, hk0, hk1, hi0, hi1, hkp, hP⟩ := id hH
  refine z_ofr (ls := [some (zo s), some (zi k)]) rfl (fun _ _ => trivial) ⟨rfl, rfl⟩ (Nat.le_of_ble_eq_true rfl) rfl ?_
  refine z_aload_n e_X3_rowAt_0 rfl ?_
  refine z_getr (fi := 0) (r := some (s + 1)) e_X3_rowAt_1 f_RX3_11 t0 rfl rfl (q0) ?_
  refine z_iload_n e_X3_rowAt_4 rfl ?_
  refine z_if_lt e_X3_rowAt_5 ⟨by omega, by omega⟩ (fun h5_1 => ?_) (fun h5_1 => ?_)
  · exfalso; omega
  · refine z_iload_n e_X3_rowAt_8 rfl ?_
    refine z_bipush e_X3_rowAt_9 (by decide +kernel) ?_
    refine z_icmp_ge e_X3_rowAt_11 ⟨by omega, by omega⟩ (by decide) (fun h11_2 => ?_) (fun h11_2 => ?_)
    · exfalso; omega
    · refine z_iload_n e_X3_rowAt_14 rfl ?_
      refine z_goto e_X3_rowAt_15 ?_
      refine z_aald (r := some (sg k)) e_X3_rowAt_19 t1 (by decide) (by decide) (by omega) (by omega) ((z_Sh_row hS h0 h1).1) ?_
      refine z_aret e_X3_rowAt_20 ⟨_, rfl⟩ rfl rfl ⟨rfl, _, rfl, ?_⟩
      exact ⟨rfl, rfl, rfl⟩
set_option maxHeartbeats 1000000 in
set_option maxRecDepth 100000 in
theorem c_X3_screenRow {E : z_E} {mi : z_Mi} {mr : z_Mr} {s : Nat} {sg : Int → Nat} {P : Int → Int} {R : Int → Int → Int} {k : Int} (hS : z_Sh E mi mr s sg P R) (hH : p_hd P) (h0 : 0 ≤ P 14 + k) (h1 : P 14 + k < 32) : z_mf M_X3_screenRow E [zo s, zi k] mi mr (fun x m r => x = sg (P 14 + k) ∧ m = mi ∧ r = mr) := by
  obtain ⟨⟨t0, t1, t2, t3, t4, q0, q1, q2⟩, ⟨d3, d4, d5, d6, d7, d8, u0, u1, u2, uk, uz⟩, hrows⟩ := id hS
  obtain ⟨hw0, hw1, hh0, hh1, hf0, hf1, hf2, hr0, hr1, hc0, hc1, hp0, hp1, hk0, hk1, hi0, hi1, hkp, hP⟩ := id hH
  refine z_ofr (ls := [some (zo s), some (zi k)]) rfl (fun _ _ => trivial) ⟨rfl, rfl⟩ (Nat.le_of_ble_eq_true rfl) rfl ?_
  refine z_aload_n e_X3_screenRow_0 rfl ?_
  refine z_aload_n e_X3_screenRow_1 rfl ?_
  refine z_geti (fi := 4) (x := (P 14)) e_X3_screenRow_2 f_RX3_32 t0 rfl rfl (d4) ?_
  refine z_iload_n e_X3_screenRow_5 rfl ?_
  refine z_iadd e_X3_screenRow_6 ?_
  refine z_callVr (M' := M_X3_rowAt) (As := [zi ((P 14) + k)]) (rest := []) e_X3_screenRow_7 l_RX3_56 rfl rfl rfl rfl t0 ⟨_, _, rfl⟩ (c_X3_rowAt hS hH (by omega) (by omega)) (fun xq mq rq hq => ?_)
  obtain ⟨e1q, e2q, e3q⟩ := hq
  subst xq mq rq
  refine z_aret e_X3_screenRow_10 ⟨_, rfl⟩ rfl rfl ⟨rfl, _, rfl, ?_⟩
  exact ⟨rfl, rfl, rfl⟩
set_option maxHeartbeats 1000000 in
set_option maxRecDepth 100000 in
theorem c_X3_hasCell {E : z_E} {mi : z_Mi} {mr : z_Mr} {s : Nat} {sg : Int → Nat} {P : Int → Int} {R : Int → Int → Int} {w c : Int} (hS : z_Sh E mi mr s sg P R) (hH : p_hd P) (hz1 : z_R w) (hz2 : z_R c) : z_mi M_X3_hasCell E [zo s, zi w, zi c] mi mr (fun x m r => x = (if (0 ≤ w ∧ w < P 1) ∧ 0 ≤ c ∧ c < P 0 then 1 else 0) ∧ m = mi ∧ r = mr) := by
  obtain ⟨⟨t0, t1, t2, t3, t4, q0, q1, q2⟩, ⟨d3, d4, d5, d6, d7, d8, u0, u1, u2, uk, uz⟩, hrows⟩ := id hS
  obtain ⟨hw0, hw1, hh0, hh1, hf0, hf1, hf2, hr0, hr1, hc0, hc1, hp0, hp1, hk0, hk1, hi0, hi1, hkp, hP⟩ := id hH
  refine z_ofi (ls := [some (zo s), some (zi w), some (zi c)]) rfl (fun _ _ => trivial) ⟨rfl, rfl⟩ (Nat.le_of_ble_eq_true rfl) rfl ?_
  refine z_iload_n e_X3_hasCell_0 rfl ?_
  refine z_if_lt e_X3_hasCell_1 ⟨by omega, by omega⟩ (fun h1_1 => ?_) (fun h1_1 => ?_)
  · refine z_iconst e_X3_hasCell_28 ?_
    refine z_iret e_X3_hasCell_29 (Or.inr ⟨rfl, Or.inl rfl⟩) rfl rfl ⟨rfl, _, rfl, ?_⟩
    exact ⟨(if_neg (by omega)).symm, rfl, rfl⟩
  · refine z_iload_n e_X3_hasCell_4 rfl ?_
    refine z_aload_n e_X3_hasCell_5 rfl ?_
    refine z_geti (fi := 6) (x := (P 1)) e_X3_hasCell_6 f_RX3_38 t0 rfl rfl (d6) ?_
    refine z_icmp_ge e_X3_hasCell_9 ⟨by omega, by omega⟩ ⟨by omega, by omega⟩ (fun h9_2 => ?_) (fun h9_2 => ?_)
    · refine z_iconst e_X3_hasCell_28 ?_
      refine z_iret e_X3_hasCell_29 (Or.inr ⟨rfl, Or.inl rfl⟩) rfl rfl ⟨rfl, _, rfl, ?_⟩
      exact ⟨(if_neg (by omega)).symm, rfl, rfl⟩
    · refine z_iload_n e_X3_hasCell_12 rfl ?_
      refine z_if_lt e_X3_hasCell_13 ⟨by omega, by omega⟩ (fun h13_3 => ?_) (fun h13_3 => ?_)
      · refine z_iconst e_X3_hasCell_28 ?_
        refine z_iret e_X3_hasCell_29 (Or.inr ⟨rfl, Or.inl rfl⟩) rfl rfl ⟨rfl, _, rfl, ?_⟩
        exact ⟨(if_neg (by omega)).symm, rfl, rfl⟩
      · refine z_iload_n e_X3_hasCell_16 rfl ?_
        refine z_aload_n e_X3_hasCell_17 rfl ?_
        refine z_geti (fi := 5) (x := (P 0)) e_X3_hasCell_18 f_RX3_35 t0 rfl rfl (d5) ?_
        refine z_icmp_ge e_X3_hasCell_21 ⟨by omega, by omega⟩ ⟨by omega, by omega⟩ (fun h21_4 => ?_) (fun h21_4 => ?_)
        · refine z_iconst e_X3_hasCell_28 ?_
          refine z_iret e_X3_hasCell_29 (Or.inr ⟨rfl, Or.inl rfl⟩) rfl rfl ⟨rfl, _, rfl, ?_⟩
          exact ⟨(if_neg (by omega)).symm, rfl, rfl⟩
        · refine z_iconst e_X3_hasCell_24 ?_
          refine z_goto e_X3_hasCell_25 ?_
          refine z_iret e_X3_hasCell_29 (Or.inr ⟨rfl, Or.inr rfl⟩) rfl rfl ⟨rfl, _, rfl, ?_⟩
          exact ⟨(if_pos (by omega)).symm, rfl, rfl⟩
set_option maxHeartbeats 1000000 in
set_option maxRecDepth 100000 in
theorem c_X3_isCursorInRegion {E : z_E} {mi : z_Mi} {mr : z_Mr} {s : Nat} {sg : Int → Nat} {P : Int → Int} {R : Int → Int → Int} (hS : z_Sh E mi mr s sg P R) (hH : p_hd P) : z_mi M_X3_isCursorInRegion E [zo s] mi mr (fun x m r => x = (if P 2 ≤ P 4 ∧ P 4 ≤ P 3 then 1 else 0) ∧ m = mi ∧ r = mr) := by
  obtain ⟨⟨t0, t1, t2, t3, t4, q0, q1, q2⟩, ⟨d3, d4, d5, d6, d7, d8, u0, u1, u2, uk, uz⟩, hrows⟩ := id hS
  obtain ⟨hw0, hw1, hh0, hh1, hf0, hf1, hf2, hr0, hr1, hc0, hc1, hp0, hp1, hk0, hk1, hi0, hi1, hkp, hP⟩ := id hH
  refine z_ofi (ls := [some (zo s)]) rfl (fun _ _ => trivial) ⟨rfl, rfl⟩ (Nat.le_of_ble_eq_true rfl) rfl ?_
  refine z_aload_n e_X3_isCursorInRegion_0 rfl ?_
  refine z_getr (fi := 1) (r := some (s + 2)) e_X3_isCursorInRegion_1 f_RX3_20 t0 rfl rfl (q1) ?_
  refine z_geti (fi := 0) (x := (P 4)) e_X3_isCursorInRegion_4 f_RX3_66 t2 rfl rfl (u0) ?_
  refine z_aload_n e_X3_isCursorInRegion_7 rfl ?_
  refine z_geti (fi := 7) (x := (P 2)) e_X3_isCursorInRegion_8 f_RX3_41 t0 rfl rfl (d7) ?_
  refine z_icmp_lt e_X3_isCursorInRegion_11 ⟨by omega, by omega⟩ ⟨by omega, by omega⟩ (fun h11_1 => ?_) (fun h11_1 => ?_)
  · refine z_iconst e_X3_isCursorInRegion_32 ?_
    refine z_iret e_X3_isCursorInRegion_33 (Or.inr ⟨rfl, Or.inl rfl⟩) rfl rfl ⟨rfl, _, rfl, ?_⟩
    exact ⟨(if_neg (by omega)).symm, rfl, rfl⟩
  · refine z_aload_n e_X3_isCursorInRegion_14 rfl ?_
    refine z_getr (fi := 1) (r := some (s + 2)) e_X3_isCursorInRegion_15 f_RX3_20 t0 rfl rfl (q1) ?_
    refine z_geti (fi := 0) (x := (P 4)) e_X3_isCursorInRegion_18 f_RX3_66 t2 rfl rfl (u0) ?_
    refine z_aload_n e_X3_isCursorInRegion_21 rfl ?_
    refine z_geti (fi := 8) (x := (P 3)) e_X3_isCursorInRegion_22 f_RX3_44 t0 rfl rfl (d8) ?_
    refine z_icmp_gt e_X3_isCursorInRegion_25 ⟨by omega, by omega⟩ ⟨by omega, by omega⟩ (fun h25_2 => ?_) (fun h25_2 => ?_)
    · refine z_iconst e_X3_isCursorInRegion_32 ?_
      refine z_iret e_X3_isCursorInRegion_33 (Or.inr ⟨rfl, Or.inl rfl⟩) rfl rfl ⟨rfl, _, rfl, ?_⟩
      exact ⟨(if_neg (by omega)).symm, rfl, rfl⟩
    · refine z_iconst e_X3_isCursorInRegion_28 ?_
      refine z_goto e_X3_isCursorInRegion_29 ?_
      refine z_iret e_X3_isCursorInRegion_33 (Or.inr ⟨rfl, Or.inr rfl⟩) rfl rfl ⟨rfl, _, rfl, ?_⟩
      exact ⟨(if_pos (by omega)).symm, rfl, rfl⟩
set_option maxHeartbeats 1000000 in
set_option maxRecDepth 100000 in
theorem c_X3_keptPlace {E : z_E} {mi : z_Mi} {mr : z_Mr} {s : Nat} {sg : Int → Nat} {P : Int → Int} {R : Int → Int → Int} {k : Int} (hS : z_Sh E mi mr s sg P R) (hH : p_hd P) (h0 : 0 ≤ k) (h1 : k < 3) : z_mf M_X3_keptPlace E [zo s, zi k] mi mr (fun x m r => x = s + 68 + (k).toNat ∧ m = mi ∧ r = mr) := by
  obtain ⟨⟨t0, t1, t2, t3, t4, q0, q1, q2⟩, ⟨d3, d4, d5, d6, d7, d8, u0, u1, u2, uk, uz⟩, hrows⟩ := id hS
  obtain ⟨hw0, hw1, hh0, hh1, hf0, hf1, hf2, hr0, hr1, hc0, hc1, hp0, hp1, hk0, hk1, hi0, hi1, hkp, hP⟩ := id hH
  refine z_ofr (ls := [some (zo s), some (zi k)]) rfl (fun _ _ => trivial) ⟨rfl, rfl⟩ (Nat.le_of_ble_eq_true rfl) rfl ?_
  refine z_iload_n e_X3_keptPlace_0 rfl ?_
  refine z_if_lt e_X3_keptPlace_1 ⟨by omega, by omega⟩ (fun h1_1 => ?_) (fun h1_1 => ?_)
  · exfalso; omega
  · refine z_iload_n e_X3_keptPlace_4 rfl ?_
    refine z_aload_n e_X3_keptPlace_5 rfl ?_
    refine z_getr (fi := 2) (r := some (s + 3)) e_X3_keptPlace_6 f_RX3_24 t0 rfl rfl (q2) ?_
    refine z_alen e_X3_keptPlace_9 t3 (by decide) ?_
    refine z_icmp_ge e_X3_keptPlace_10 ⟨by omega, by omega⟩ ⟨by omega, by omega⟩ (fun h10_2 => ?_) (fun h10_2 => ?_)
    · exfalso; omega
    · refine z_aload_n e_X3_keptPlace_13 rfl ?_
      refine z_getr (fi := 2) (r := some (s + 3)) e_X3_keptPlace_14 f_RX3_24 t0 rfl rfl (q2) ?_
      refine z_iload_n e_X3_keptPlace_17 rfl ?_
      refine z_aald (r := some (s + 68 + (k).toNat)) e_X3_keptPlace_18 t3 (by decide) (by decide) (by omega) (by omega) ((t4 k h0 h1).2) ?_
      refine z_goto e_X3_keptPlace_19 ?_
      refine z_aret e_X3_keptPlace_26 ⟨_, rfl⟩ rfl rfl ⟨rfl, _, rfl, ?_⟩
      exact ⟨rfl, rfl, rfl⟩
set_option maxHeartbeats 1000000 in
set_option maxRecDepth 100000 in
theorem c_X3_taken {E : z_E} {mi : z_Mi} {mr : z_Mr} {s : Nat} {sg : Int → Nat} {P : Int → Int} {R : Int → Int → Int} (hS : z_Sh E mi mr s sg P R) (hH : p_hd P) : z_mi M_X3_taken E [zo s] mi mr (fun x m r => x = n_takA P R (P 1).toNat ∧ m = mi ∧ r = mr) := by
  obtain ⟨⟨t0, t1, t2, t3, t4, q0, q1, q2⟩, ⟨d3, d4, d5, d6, d7, d8, u0, u1, u2, uk, uz⟩, hrows⟩ := id hS
  obtain ⟨hw0, hw1, hh0, hh1, hf0, hf1, hf2, hr0, hr1, hc0, hc1, hp0, hp1, hk0, hk1, hi0, hi1, hkp, hP⟩ := id hH
  refine z_ofi (ls := [some (zo s), none, none]) rfl (fun _ _ => trivial) ⟨rfl, rfl⟩ (Nat.le_of_ble_eq_true rfl) rfl ?_
  refine z_iconst e_X3_taken_0 ?_
  refine z_istore_n (ls' := [some (zo s), some (zi 0), none]) e_X3_taken_1 rfl rfl rfl ?_
  refine z_iconst e_X3_taken_2 ?_
  refine z_istore_n (ls' := [some (zo s), some (zi 0), some (zi 0)]) e_X3_taken_3 rfl rfl rfl ?_
  have loop4 : ∀ (nn : Nat) (k : Int) (n : Int), (P 1 - k).toNat = nn → (0 ≤ k ∧ k ≤ P 1 ∧ n = n_takA P R k.toNat) → z_A M_X3_taken E 0 0 4 [some (zo s), some (zi n), some (zi k)] [] mi mr (z_qi E (fun x m r => x = n_takA P R (P 1).toNat ∧ m = mi ∧ r = mr)) := by
    intro nn
    induction nn using Nat.strongRecOn with
    | _ nn ih4 =>
      intro k n hmeas hinv
      obtain ⟨hk9, hk8, hn⟩ := hinv
      refine z_iload_n e_X3_taken_4 rfl ?_
      refine z_aload_n e_X3_taken_5 rfl ?_
      refine z_geti (fi := 6) (x := (P 1)) e_X3_taken_6 f_RX3_38 t0 rfl rfl (d6) ?_
      refine z_icmp_ge e_X3_taken_9 ⟨by omega, by omega⟩ ⟨by omega, by omega⟩ (fun h9_1 => ?_) (fun h9_1 => ?_)
      · refine z_iload_n e_X3_taken_29 rfl ?_
        refine z_iret e_X3_taken_30 (Or.inl rfl) rfl rfl ⟨rfl, _, rfl, ?_⟩
        refine ⟨?_, rfl, rfl⟩
        rw [hn, show k = P 1 by omega]
      · refine z_iload_n e_X3_taken_12 rfl ?_
        refine z_aload_n e_X3_taken_13 rfl ?_
        refine z_iload_n e_X3_taken_14 rfl ?_
        refine z_callVr (M' := M_X3_screenRow) (As := [zi k]) (rest := [zi n]) e_X3_taken_15 l_RX3_76 rfl rfl rfl rfl t0 ⟨_, _, rfl⟩ (c_X3_screenRow hS hH (by omega) (by omega)) (fun xq mq rq hq => ?_)
        obtain ⟨e1q, e2q, e3q⟩ := hq
        subst xq mq rq
        refine z_callVi (M' := M_X2_taken) (As := []) (rest := [zi n]) e_X3_taken_18 l_RX3_79 rfl rfl rfl rfl (z_Sh_tag hS (k := (P 14 + k)) (by omega) (by omega)) ⟨_, _, rfl⟩ (d_X2_taken (z_Sh_row hS (k := (P 14 + k)) (by omega) (by omega)).2 (z_Sh_xr hS (k := (P 14 + k)) (by omega) (by omega))) (fun xq mq rq hq => ?_)
        obtain ⟨e1q, e2q, e3q⟩ := hq
        have htk : xq = n_tak P R (P 14 + k) := e1q.trans (c_tak_eq (z_Sh_rw hS (k := (P 14 + k)) (by omega) (by omega)).1 (by omega) (by omega))
        clear e1q
        subst htk
        subst mq rq
        refine z_iadd e_X3_taken_21 ?_
        refine z_istore_n (ls' := [some (zo s), some (zi (n + (n_tak P R (P 14 + k)))), some (zi k)]) e_X3_taken_22 rfl rfl rfl ?_
        refine z_iinc (y := (k + 1)) (ls' := [some (zo s), some (zi (n + (n_tak P R (P 14 + k)))), some (zi (k + 1))]) e_X3_taken_23 rfl rfl rfl rfl rfl ?_
        refine z_goto e_X3_taken_26 ?_
        exact ih4 _ (by omega) (k + 1) (n + (n_tak P R (P 14 + k))) rfl (⟨by omega, by omega, by rw [hn]; unfold n_takA; rw [n_sum_s _ hk9]⟩)
  exact loop4 _ 0 0 rfl (⟨by omega, by omega, rfl⟩)
