set_option maxHeartbeats 1000000 in
set_option maxRecDepth 100000 in
theorem c_X4_sizeOf {E : z_E} {mi : z_Mi} {mr : z_Mr} {v : Int} (h1 : z_R v) : z_mi M_X4_sizeOf E [zi v] mi mr (fun x m r => x = c_sz v ∧ m = mi ∧ r = mr) := by
  refine z_ofi (ls := [some (zi v)]) rfl (fun _ _ => trivial) ⟨rfl, rfl⟩ (Nat.le_of_ble_eq_true rfl) rfl ?_
  refine z_iload_n e_X4_sizeOf_0 rfl ?_
  refine z_bipush e_X4_sizeOf_1 (by decide +kernel) ?_
  refine z_icmp_lt e_X4_sizeOf_3 ⟨by omega, by omega⟩ (by decide) (fun h3_1 => ?_) (fun h3_1 => ?_)
  · refine z_iconst e_X4_sizeOf_16 ?_
    refine z_iret e_X4_sizeOf_17 (Or.inl rfl) rfl rfl ⟨rfl, _, rfl, ?_⟩
    exact ⟨(if_neg (by omega)).symm, rfl, rfl⟩
  · refine z_iload_n e_X4_sizeOf_6 rfl ?_
    refine z_bipush e_X4_sizeOf_7 (by decide +kernel) ?_
    refine z_icmp_gt e_X4_sizeOf_9 ⟨by omega, by omega⟩ (by decide) (fun h9_2 => ?_) (fun h9_2 => ?_)
    · refine z_iconst e_X4_sizeOf_16 ?_
      refine z_iret e_X4_sizeOf_17 (Or.inl rfl) rfl rfl ⟨rfl, _, rfl, ?_⟩
      exact ⟨(if_neg (by omega)).symm, rfl, rfl⟩
    · refine z_iconst e_X4_sizeOf_12 ?_
      refine z_goto e_X4_sizeOf_13 ?_
      refine z_iret e_X4_sizeOf_17 (Or.inl rfl) rfl rfl ⟨rfl, _, rfl, ?_⟩
      exact ⟨(if_pos (by omega)).symm, rfl, rfl⟩
set_option maxHeartbeats 1000000 in
set_option maxRecDepth 100000 in
theorem c_X2_at {E : z_E} {mi : z_Mi} {mr : z_Mr} {o : Nat} {F X : Int → Int} {c : Int} (hM : z_CR E mr o) (hz : z_R c) : z_mi M_X2_at E [zo o, zi c] (z_u (z_u mi o F) (o + 1) X) mr (fun x m r => x = c_at X c ∧ m = (z_u (z_u mi o F) (o + 1) X) ∧ r = mr) := by
  obtain ⟨t0, t1, q0⟩ := id hM
  refine z_ofi (ls := [some (zo o), some (zi c)]) rfl (fun _ _ => trivial) ⟨rfl, rfl⟩ (Nat.le_of_ble_eq_true rfl) rfl ?_
  refine z_iload_n e_X2_at_0 rfl ?_
  refine z_if_lt e_X2_at_1 ⟨by omega, by omega⟩ (fun h1_1 => ?_) (fun h1_1 => ?_)
  · refine z_bipush e_X2_at_22 (by decide +kernel) ?_
    refine z_iret e_X2_at_24 (Or.inl rfl) rfl rfl ⟨rfl, _, rfl, ?_⟩
    refine ⟨?_, rfl, rfl⟩
    exact (if_neg (by omega)).symm
  · refine z_iload_n e_X2_at_4 rfl ?_
    refine z_aload_n e_X2_at_5 rfl ?_
    refine z_getr (fi := 0) (r := some (o + 1)) e_X2_at_6 f_RX2_9 t0 rfl rfl (q0) ?_
    refine z_alen e_X2_at_9 t1 (by decide) ?_
    refine z_icmp_ge e_X2_at_10 ⟨by omega, by omega⟩ ⟨by omega, by omega⟩ (fun h10_2 => ?_) (fun h10_2 => ?_)
    · refine z_bipush e_X2_at_22 (by decide +kernel) ?_
      refine z_iret e_X2_at_24 (Or.inl rfl) rfl rfl ⟨rfl, _, rfl, ?_⟩
      refine ⟨?_, rfl, rfl⟩
      exact (if_neg (by omega)).symm
    · refine z_aload_n e_X2_at_13 rfl ?_
      refine z_getr (fi := 0) (r := some (o + 1)) e_X2_at_14 f_RX2_9 t0 rfl rfl (q0) ?_
      refine z_iload_n e_X2_at_17 rfl ?_
      refine z_iald (x := (X c)) e_X2_at_18 t1 (by decide) (by omega) (by omega) (congrFun (z_us _ _ _) _) ?_
      refine z_goto e_X2_at_19 ?_
      refine z_iret e_X2_at_24 (Or.inl rfl) rfl rfl ⟨rfl, _, rfl, ?_⟩
      refine ⟨?_, rfl, rfl⟩
      exact (if_pos (by omega)).symm
set_option maxHeartbeats 1000000 in
set_option maxRecDepth 100000 in
theorem c_X2_set {E : z_E} {mi : z_Mi} {mr : z_Mr} {o : Nat} {F X : Int → Int} {c v : Int} (hM : z_CR E mr o) (hz : z_R c) : z_mv M_X2_set E [zo o, zi c, zi v] (z_u (z_u mi o F) (o + 1) X) mr (fun m r => m = (z_u (z_u mi o F) (o + 1) (c_set X c v)) ∧ r = mr) := by
  obtain ⟨t0, t1, q0⟩ := id hM
  refine z_ofv (ls := [some (zo o), some (zi c), some (zi v)]) rfl (fun _ _ => trivial) ⟨rfl, rfl⟩ (Nat.le_of_ble_eq_true rfl) rfl ?_
  refine z_iload_n e_X2_set_0 rfl ?_
  refine z_if_lt e_X2_set_1 ⟨by omega, by omega⟩ (fun h1_1 => ?_) (fun h1_1 => ?_)
  · refine z_ret e_X2_set_20 rfl rfl rfl ⟨rfl, rfl, ?_⟩
    refine ⟨?_, rfl⟩
    have hc : c_set X c v = X := if_neg (by omega)
    rw [hc]
  · refine z_iload_n e_X2_set_4 rfl ?_
    refine z_aload_n e_X2_set_5 rfl ?_
    refine z_getr (fi := 0) (r := some (o + 1)) e_X2_set_6 f_RX2_9 t0 rfl rfl (q0) ?_
    refine z_alen e_X2_set_9 t1 (by decide) ?_
    refine z_icmp_ge e_X2_set_10 ⟨by omega, by omega⟩ ⟨by omega, by omega⟩ (fun h10_2 => ?_) (fun h10_2 => ?_)
    · refine z_ret e_X2_set_20 rfl rfl rfl ⟨rfl, rfl, ?_⟩
      refine ⟨?_, rfl⟩
      have hc : c_set X c v = X := if_neg (by omega)
      rw [hc]
    · refine z_aload_n e_X2_set_13 rfl ?_
      refine z_getr (fi := 0) (r := some (o + 1)) e_X2_set_14 f_RX2_9 t0 rfl rfl (q0) ?_
      refine z_iload_n e_X2_set_17 rfl ?_
      refine z_iload_n e_X2_set_18 rfl ?_
      refine z_iastU e_X2_set_19 t1 (by decide) (by omega) (by omega) ?_
      refine z_ret e_X2_set_20 rfl rfl rfl ⟨rfl, rfl, ?_⟩
      refine ⟨?_, rfl⟩
      have hc : c_set X c v = (z_v X c v) := if_pos (by omega)
      rw [hc]
set_option maxHeartbeats 1000000 in
set_option maxRecDepth 100000 in
theorem c_X2_unmark {E : z_E} {mi : z_Mi} {mr : z_Mr} {o : Nat} {F X : Int → Int} (hM : z_CR E mr o) : z_mv M_X2_unmark E [zo o] (z_u (z_u mi o F) (o + 1) X) mr (fun m r => m = (z_u (z_u mi o (c_un F)) (o + 1) X) ∧ r = mr) := by
  obtain ⟨t0, t1, q0⟩ := id hM
  refine z_ofv (ls := [some (zo o)]) rfl (fun _ _ => trivial) ⟨rfl, rfl⟩ (Nat.le_of_ble_eq_true rfl) rfl ?_
  refine z_aload_n e_X2_unmark_0 rfl ?_
  refine z_iconst e_X2_unmark_1 ?_
  refine z_putiX (fi := 1) (f := F) e_X2_unmark_2 f_RX2_18 t0 rfl rfl (Or.inr ⟨rfl, Or.inl rfl⟩) (((z_un (by omega)).trans (z_us _ _ _))) (z_ux (by omega) (z_uu _ _ _ _)) ?_
  refine z_aload_n e_X2_unmark_5 rfl ?_
  refine z_iconst e_X2_unmark_6 ?_
  refine z_putiX (fi := 2) (f := (z_v F 1 0)) e_X2_unmark_7 f_RX2_22 t0 rfl rfl (Or.inr ⟨rfl, Or.inl rfl⟩) (((z_un (by omega)).trans (z_us _ _ _))) (z_ux (by omega) (z_uu _ _ _ _)) ?_
  refine z_ret e_X2_unmark_10 rfl rfl rfl ⟨rfl, rfl, ?_⟩
  exact ⟨rfl, rfl⟩
set_option maxHeartbeats 1000000 in
set_option maxRecDepth 100000 in
theorem c_X2_clear {E : z_E} {mi : z_Mi} {mr : z_Mr} {o : Nat} {F X : Int → Int} (hM : z_CR E mr o) : z_mv M_X2_clear E [zo o] (z_u (z_u mi o F) (o + 1) X) mr (fun m r => m = (z_u (z_u mi o (c_un F)) (o + 1) (c_bl X 20)) ∧ r = mr) := by
  obtain ⟨t0, t1, q0⟩ := id hM
  refine z_ofv (ls := [some (zo o), none]) rfl (fun _ _ => trivial) ⟨rfl, rfl⟩ (Nat.le_of_ble_eq_true rfl) rfl ?_
  refine z_iconst e_X2_clear_0 ?_
  refine z_istore_n (ls' := [some (zo o), some (zi 0)]) e_X2_clear_1 rfl rfl rfl ?_
  have loop2 : ∀ (nn : Nat) (c : Int) (X1 : Int → Int), (20 - c).toNat = nn → (0 ≤ c ∧ c ≤ 20 ∧ X1 = c_bl X c) → z_A M_X2_clear E 0 0 2 [some (zo o), some (zi c)] [] (z_u (z_u mi o F) (o + 1) X1) mr (z_qv E (fun m r => m = (z_u (z_u mi o (c_un F)) (o + 1) (c_bl X 20)) ∧ r = mr)) := by
    intro nn
    induction nn using Nat.strongRecOn with
    | _ nn ih2 =>
      intro c X1 hmeas hinv
      obtain ⟨hc0, hc1, hX1⟩ := hinv
      refine z_iload_n e_X2_clear_2 rfl ?_
      refine z_aload_n e_X2_clear_3 rfl ?_
      refine z_getr (fi := 0) (r := some (o + 1)) e_X2_clear_4 f_RX2_9 t0 rfl rfl (q0) ?_
      refine z_alen e_X2_clear_7 t1 (by decide) ?_
      refine z_icmp_ge e_X2_clear_8 ⟨by omega, by omega⟩ ⟨by omega, by omega⟩ (fun h8_1 => ?_) (fun h8_1 => ?_)
      · refine z_aload_n e_X2_clear_25 rfl ?_
        refine z_iconst e_X2_clear_26 ?_
        refine z_putiX (fi := 1) (f := F) e_X2_clear_27 f_RX2_18 t0 rfl rfl (Or.inr ⟨rfl, Or.inl rfl⟩) (((z_un (by omega)).trans (z_us _ _ _))) (z_ux (by omega) (z_uu _ _ _ _)) ?_
        refine z_aload_n e_X2_clear_30 rfl ?_
        refine z_iconst e_X2_clear_31 ?_
        refine z_putiX (fi := 2) (f := (z_v F 1 0)) e_X2_clear_32 f_RX2_22 t0 rfl rfl (Or.inr ⟨rfl, Or.inl rfl⟩) (((z_un (by omega)).trans (z_us _ _ _))) (z_ux (by omega) (z_uu _ _ _ _)) ?_
        refine z_ret e_X2_clear_35 rfl rfl rfl ⟨rfl, rfl, ?_⟩
        refine ⟨?_, rfl⟩
        rw [hX1, show c = 20 by omega]
        rfl
      · refine z_aload_n e_X2_clear_11 rfl ?_
        refine z_getr (fi := 0) (r := some (o + 1)) e_X2_clear_12 f_RX2_9 t0 rfl rfl (q0) ?_
        refine z_iload_n e_X2_clear_15 rfl ?_
        refine z_bipush e_X2_clear_16 (by decide +kernel) ?_
        refine z_iastU e_X2_clear_18 t1 (by decide) (by omega) (by omega) ?_
        refine z_iinc (y := (c + 1)) (ls' := [some (zo o), some (zi (c + 1))]) e_X2_clear_19 rfl rfl rfl rfl rfl ?_
        refine z_goto e_X2_clear_22 ?_
        exact ih2 _ (by omega) (c + 1) (z_v X1 c 32) rfl (⟨by omega, by omega, c_bl_s (by omega) hX1⟩)
  exact loop2 _ 0 X rfl (⟨by omega, by omega, (c_bl_0 X).symm⟩)
set_option maxHeartbeats 1000000 in
set_option maxRecDepth 100000 in
theorem c_X2_taken {E : z_E} {mi : z_Mi} {mr : z_Mr} {o : Nat} {F X : Int → Int} (hM : z_CR E mr o) (hX : z_xr X) : z_mi M_X2_taken E [zo o] (z_u (z_u mi o F) (o + 1) X) mr (fun x m r => x = c_tak X 20 ∧ m = (z_u (z_u mi o F) (o + 1) X) ∧ r = mr) := by
  obtain ⟨t0, t1, q0⟩ := id hM
  refine z_ofi (ls := [some (zo o), none, none, none, none, none]) rfl (fun _ _ => trivial) ⟨rfl, rfl⟩ (Nat.le_of_ble_eq_true rfl) rfl ?_
  refine z_iconst e_X2_taken_0 ?_
  refine z_istore_n (ls' := [some (zo o), some (zi 0), none, none, none, none]) e_X2_taken_1 rfl rfl rfl ?_
  refine z_aload_n e_X2_taken_2 rfl ?_
  refine z_getr (fi := 0) (r := some (o + 1)) e_X2_taken_3 f_RX2_9 t0 rfl rfl (q0) ?_
  refine z_astore_n (ls' := [some (zo o), some (zi 0), some (zo (o + 1)), none, none, none]) e_X2_taken_6 rfl rfl rfl ?_
  refine z_aload_n e_X2_taken_7 rfl ?_
  refine z_alen e_X2_taken_8 t1 (by decide) ?_
  refine z_istore_n (ls' := [some (zo o), some (zi 0), some (zo (o + 1)), some (zi ((20 : Nat) : Int)), none, none]) e_X2_taken_9 rfl rfl rfl ?_
  refine z_iconst e_X2_taken_10 ?_
  refine z_istore (ls' := [some (zo o), some (zi 0), some (zo (o + 1)), some (zi ((20 : Nat) : Int)), some (zi 0), none]) e_X2_taken_11 rfl rfl rfl ?_
  have loop13 : ∀ (nn : Nat) (c : Int) (n : Int), (20 - c).toNat = nn → (0 ≤ c ∧ c ≤ 20 ∧ n = c_tak X c) → z_A M_X2_taken E 0 0 13 [some (zo o), some (zi n), some (zo (o + 1)), some (zi ((20 : Nat) : Int)), some (zi c), none] [] (z_u (z_u mi o F) (o + 1) X) mr (z_qi E (fun x m r => x = c_tak X 20 ∧ m = (z_u (z_u mi o F) (o + 1) X) ∧ r = mr)) := by
    intro nn
    induction nn using Nat.strongRecOn with
    | _ nn ih13 =>
      intro c n hmeas hinv
      obtain ⟨hc0, hc1, hn⟩ := hinv
      have hXc := hX c
      refine z_iload e_X2_taken_13 rfl ?_
      refine z_iload_n e_X2_taken_15 rfl ?_
      refine z_icmp_ge e_X2_taken_16 ⟨by omega, by omega⟩ ⟨by omega, by omega⟩ (fun h16_1 => ?_) (fun h16_1 => ?_)
      · refine z_iload_n e_X2_taken_46 rfl ?_
        refine z_iret e_X2_taken_47 (Or.inl rfl) rfl rfl ⟨rfl, _, rfl, ?_⟩
        refine ⟨?_, rfl, rfl⟩
        rw [hn, show c = 20 by omega]
      · refine z_aload_n e_X2_taken_19 rfl ?_
        refine z_iload e_X2_taken_20 rfl ?_
        refine z_iald (x := (X c)) e_X2_taken_22 t1 (by decide) (by omega) (by omega) (congrFun (z_us _ _ _) _) ?_
        refine z_istore (ls' := [some (zo o), some (zi n), some (zo (o + 1)), some (zi ((20 : Nat) : Int)), some (zi c), some (zi (X c))]) e_X2_taken_23 rfl rfl rfl ?_
        refine z_iload_n e_X2_taken_25 rfl ?_
        refine z_iload e_X2_taken_26 rfl ?_
        refine z_bipush e_X2_taken_28 (by decide +kernel) ?_
        refine z_icmp_ne e_X2_taken_30 ⟨by omega, by omega⟩ (by decide) (fun h30_2 => ?_) (fun h30_2 => ?_)
        · refine z_iconst e_X2_taken_37 ?_
          refine z_iadd e_X2_taken_38 ?_
          refine z_istore_n (ls' := [some (zo o), some (zi (n + 1)), some (zo (o + 1)), some (zi ((20 : Nat) : Int)), some (zi c), some (zi (X c))]) e_X2_taken_39 rfl rfl rfl ?_
          refine z_iinc (y := (c + 1)) (ls' := [some (zo o), some (zi (n + 1)), some (zo (o + 1)), some (zi ((20 : Nat) : Int)), some (zi (c + 1)), some (zi (X c))]) e_X2_taken_40 rfl rfl rfl rfl rfl ?_
          refine z_goto e_X2_taken_43 ?_
          refine z_fgt (ls' := [some (zo o), some (zi (n + 1)), some (zo (o + 1)), some (zi ((20 : Nat) : Int)), some (zi (c + 1)), none]) ⟨rfl, rfl, rfl, rfl, rfl, trivial⟩ ?_
          exact ih13 _ (by omega) (c + 1) (n + 1) rfl (⟨by omega, by omega, by rw [hn]; unfold c_tak; rw [n_cnt_s _ hc0, if_pos (by omega)]⟩)
        · refine z_iconst e_X2_taken_33 ?_
          refine z_goto e_X2_taken_34 ?_
          refine z_iadd e_X2_taken_38 ?_
          refine z_istore_n (ls' := [some (zo o), some (zi (n + 0)), some (zo (o + 1)), some (zi ((20 : Nat) : Int)), some (zi c), some (zi (X c))]) e_X2_taken_39 rfl rfl rfl ?_
          refine z_iinc (y := (c + 1)) (ls' := [some (zo o), some (zi (n + 0)), some (zo (o + 1)), some (zi ((20 : Nat) : Int)), some (zi (c + 1)), some (zi (X c))]) e_X2_taken_40 rfl rfl rfl rfl rfl ?_
          refine z_goto e_X2_taken_43 ?_
          refine z_fgt (ls' := [some (zo o), some (zi (n + 0)), some (zo (o + 1)), some (zi ((20 : Nat) : Int)), some (zi (c + 1)), none]) ⟨rfl, rfl, rfl, rfl, rfl, trivial⟩ ?_
          exact ih13 _ (by omega) (c + 1) (n + 0) rfl (⟨by omega, by omega, by rw [hn]; unfold c_tak; rw [n_cnt_s _ hc0, if_neg (by omega)]⟩)
  exact loop13 _ 0 0 rfl (⟨by omega, by omega, rfl⟩)
set_option maxHeartbeats 1000000 in
set_option maxRecDepth 100000 in
theorem c_X2_signs {E : z_E} {mi : z_Mi} {mr : z_Mr} {o : Nat} {F X : Int → Int} (hM : z_CR E mr o) (hX : z_xr X) : z_mi M_X2_signs E [zo o] (z_u (z_u mi o F) (o + 1) X) mr (fun x m r => x = c_sgs X 20 ∧ m = (z_u (z_u mi o F) (o + 1) X) ∧ r = mr) := by
  obtain ⟨t0, t1, q0⟩ := id hM
  refine z_ofi (ls := [some (zo o), none, none, none, none, none]) rfl (fun _ _ => trivial) ⟨rfl, rfl⟩ (Nat.le_of_ble_eq_true rfl) rfl ?_
  refine z_iconst e_X2_signs_0 ?_
  refine z_istore_n (ls' := [some (zo o), some (zi 0), none, none, none, none]) e_X2_signs_1 rfl rfl rfl ?_
  refine z_aload_n e_X2_signs_2 rfl ?_
  refine z_getr (fi := 0) (r := some (o + 1)) e_X2_signs_3 f_RX2_9 t0 rfl rfl (q0) ?_
  refine z_astore_n (ls' := [some (zo o), some (zi 0), some (zo (o + 1)), none, none, none]) e_X2_signs_6 rfl rfl rfl ?_
  refine z_aload_n e_X2_signs_7 rfl ?_
  refine z_alen e_X2_signs_8 t1 (by decide) ?_
  refine z_istore_n (ls' := [some (zo o), some (zi 0), some (zo (o + 1)), some (zi ((20 : Nat) : Int)), none, none]) e_X2_signs_9 rfl rfl rfl ?_
  refine z_iconst e_X2_signs_10 ?_
  refine z_istore (ls' := [some (zo o), some (zi 0), some (zo (o + 1)), some (zi ((20 : Nat) : Int)), some (zi 0), none]) e_X2_signs_11 rfl rfl rfl ?_
  have loop13 : ∀ (nn : Nat) (c : Int) (n : Int), (20 - c).toNat = nn → (0 ≤ c ∧ c ≤ 20 ∧ n = c_sgs X c) → z_A M_X2_signs E 0 0 13 [some (zo o), some (zi n), some (zo (o + 1)), some (zi ((20 : Nat) : Int)), some (zi c), none] [] (z_u (z_u mi o F) (o + 1) X) mr (z_qi E (fun x m r => x = c_sgs X 20 ∧ m = (z_u (z_u mi o F) (o + 1) X) ∧ r = mr)) := by
    intro nn
    induction nn using Nat.strongRecOn with
    | _ nn ih13 =>
      intro c n hmeas hinv
      obtain ⟨hc0, hc1, hn⟩ := hinv
      have hXc := hX c
      refine z_iload e_X2_signs_13 rfl ?_
      refine z_iload_n e_X2_signs_15 rfl ?_
      refine z_icmp_ge e_X2_signs_16 ⟨by omega, by omega⟩ ⟨by omega, by omega⟩ (fun h16_1 => ?_) (fun h16_1 => ?_)
      · refine z_iload_n e_X2_signs_46 rfl ?_
        refine z_iret e_X2_signs_47 (Or.inl rfl) rfl rfl ⟨rfl, _, rfl, ?_⟩
        refine ⟨?_, rfl, rfl⟩
        rw [hn, show c = 20 by omega]
      · refine z_aload_n e_X2_signs_19 rfl ?_
        refine z_iload e_X2_signs_20 rfl ?_
        refine z_iald (x := (X c)) e_X2_signs_22 t1 (by decide) (by omega) (by omega) (congrFun (z_us _ _ _) _) ?_
        refine z_istore (ls' := [some (zo o), some (zi n), some (zo (o + 1)), some (zi ((20 : Nat) : Int)), some (zi c), some (zi (X c))]) e_X2_signs_23 rfl rfl rfl ?_
        refine z_iload_n e_X2_signs_25 rfl ?_
        refine z_iload e_X2_signs_26 rfl ?_
        refine z_bipush e_X2_signs_28 (by decide +kernel) ?_
        refine z_icmp_lt e_X2_signs_30 ⟨by omega, by omega⟩ (by decide) (fun h30_2 => ?_) (fun h30_2 => ?_)
        · refine z_iconst e_X2_signs_37 ?_
          refine z_iadd e_X2_signs_38 ?_
          refine z_istore_n (ls' := [some (zo o), some (zi (n + 0)), some (zo (o + 1)), some (zi ((20 : Nat) : Int)), some (zi c), some (zi (X c))]) e_X2_signs_39 rfl rfl rfl ?_
          refine z_iinc (y := (c + 1)) (ls' := [some (zo o), some (zi (n + 0)), some (zo (o + 1)), some (zi ((20 : Nat) : Int)), some (zi (c + 1)), some (zi (X c))]) e_X2_signs_40 rfl rfl rfl rfl rfl ?_
          refine z_goto e_X2_signs_43 ?_
          refine z_fgt (ls' := [some (zo o), some (zi (n + 0)), some (zo (o + 1)), some (zi ((20 : Nat) : Int)), some (zi (c + 1)), none]) ⟨rfl, rfl, rfl, rfl, rfl, trivial⟩ ?_
          exact ih13 _ (by omega) (c + 1) (n + 0) rfl (⟨by omega, by omega, by rw [hn]; unfold c_sgs; rw [n_cnt_s _ hc0, if_neg (by omega)]⟩)
        · refine z_iconst e_X2_signs_33 ?_
          refine z_goto e_X2_signs_34 ?_
          refine z_iadd e_X2_signs_38 ?_
          refine z_istore_n (ls' := [some (zo o), some (zi (n + 1)), some (zo (o + 1)), some (zi ((20 : Nat) : Int)), some (zi c), some (zi (X c))]) e_X2_signs_39 rfl rfl rfl ?_
          refine z_iinc (y := (c + 1)) (ls' := [some (zo o), some (zi (n + 1)), some (zo (o + 1)), some (zi ((20 : Nat) : Int)), some (zi (c + 1)), some (zi (X c))]) e_X2_signs_40 rfl rfl rfl rfl rfl ?_
          refine z_goto e_X2_signs_43 ?_
          refine z_fgt (ls' := [some (zo o), some (zi (n + 1)), some (zo (o + 1)), some (zi ((20 : Nat) : Int)), some (zi (c + 1)), none]) ⟨rfl, rfl, rfl, rfl, rfl, trivial⟩ ?_
          exact ih13 _ (by omega) (c + 1) (n + 1) rfl (⟨by omega, by omega, by rw [hn]; unfold c_sgs; rw [n_cnt_s _ hc0, if_pos (by omega)]⟩)
  exact loop13 _ 0 0 rfl (⟨by omega, by omega, rfl⟩)
set_option maxHeartbeats 1000000 in
set_option maxRecDepth 100000 in
theorem c_X2_filled {E : z_E} {mi : z_Mi} {mr : z_Mr} {o : Nat} {F X : Int → Int} (hM : z_CR E mr o) (hX : z_xr X) : z_mi M_X2_filled E [zo o] (z_u (z_u mi o F) (o + 1) X) mr (fun x m r => x = c_fil X ∧ m = (z_u (z_u mi o F) (o + 1) X) ∧ r = mr) := by
  obtain ⟨t0, t1, q0⟩ := id hM
  refine z_ofi (ls := [some (zo o), none]) rfl (fun _ _ => trivial) ⟨rfl, rfl⟩ (Nat.le_of_ble_eq_true rfl) rfl ?_
  refine z_aload_n e_X2_filled_0 rfl ?_
  refine z_getr (fi := 0) (r := some (o + 1)) e_X2_filled_1 f_RX2_9 t0 rfl rfl (q0) ?_
  refine z_alen e_X2_filled_4 t1 (by decide) ?_
  refine z_iconst e_X2_filled_5 ?_
  refine z_isub e_X2_filled_6 ?_
  refine z_istore_n (ls' := [some (zo o), some (zi (((20 : Nat) : Int) - 1))]) e_X2_filled_7 rfl rfl rfl ?_
  have loop8 : ∀ (nn : Nat) (c : Int), (c + 1).toNat = nn → (-1 ≤ c ∧ c ≤ 19 ∧ n_used X (c + 1).toNat = c_fil X) → z_A M_X2_filled E 0 0 8 [some (zo o), some (zi c)] [] (z_u (z_u mi o F) (o + 1) X) mr (z_qi E (fun x m r => x = c_fil X ∧ m = (z_u (z_u mi o F) (o + 1) X) ∧ r = mr)) := by
    intro nn
    induction nn using Nat.strongRecOn with
    | _ nn ih8 =>
      intro c hmeas hinv
      obtain ⟨hc0, hc1, hn⟩ := hinv
      have hXc := hX c
      refine z_iload_n e_X2_filled_8 rfl ?_
      refine z_if_lt e_X2_filled_9 ⟨by omega, by omega⟩ (fun h9_1 => ?_) (fun h9_1 => ?_)
      · refine z_iconst e_X2_filled_33 ?_
        refine z_iret e_X2_filled_34 (Or.inl rfl) rfl rfl ⟨rfl, _, rfl, ?_⟩
        refine ⟨?_, rfl, rfl⟩
        rw [← hn, show c = -1 by omega]
        rfl
      · refine z_aload_n e_X2_filled_12 rfl ?_
        refine z_getr (fi := 0) (r := some (o + 1)) e_X2_filled_13 f_RX2_9 t0 rfl rfl (q0) ?_
        refine z_iload_n e_X2_filled_16 rfl ?_
        refine z_iald (x := (X c)) e_X2_filled_17 t1 (by decide) (by omega) (by omega) (congrFun (z_us _ _ _) _) ?_
        refine z_bipush e_X2_filled_18 (by decide +kernel) ?_
        refine z_icmp_eq e_X2_filled_20 ⟨by omega, by omega⟩ (by decide) (fun h20_2 => ?_) (fun h20_2 => ?_)
        · refine z_iinc (y := (c + (-1))) (ls' := [some (zo o), some (zi (c + (-1)))]) e_X2_filled_27 rfl rfl rfl rfl rfl ?_
          refine z_goto e_X2_filled_30 ?_
          exact ih8 _ (by omega) (c + (-1)) rfl (⟨by omega, by omega, by have hzz := n_used_z (r := X) (n := c + 1) (by omega) (by rw [show c + 1 - 1 = c by omega]; assumption); rw [show c + -1 + 1 = c + 1 - 1 by omega, ← hzz]; exact hn⟩)
        · refine z_iload_n e_X2_filled_23 rfl ?_
          refine z_iconst e_X2_filled_24 ?_
          refine z_iadd e_X2_filled_25 ?_
          refine z_iret e_X2_filled_26 (Or.inl rfl) rfl rfl ⟨rfl, _, rfl, ?_⟩
          refine ⟨?_, rfl, rfl⟩
          rw [← hn, n_used_n (by omega) (by rw [show c + 1 - 1 = c by omega]; omega)]
  exact loop8 _ (((20 : Nat) : Int) - 1) rfl (⟨by omega, by omega, rfl⟩)
set_option maxHeartbeats 1000000 in
set_option maxRecDepth 100000 in
theorem c_X2_isBlank {E : z_E} {mi : z_Mi} {mr : z_Mr} {o : Nat} {F X : Int → Int} (hM : z_CR E mr o) (hX : z_xr X) : z_mi M_X2_isBlank E [zo o] (z_u (z_u mi o F) (o + 1) X) mr (fun x m r => x = (if c_fil X = 0 then 1 else 0) ∧ m = (z_u (z_u mi o F) (o + 1) X) ∧ r = mr) := by
  obtain ⟨t0, t1, q0⟩ := id hM
  refine z_ofi (ls := [some (zo o)]) rfl (fun _ _ => trivial) ⟨rfl, rfl⟩ (Nat.le_of_ble_eq_true rfl) rfl ?_
  refine z_aload_n e_X2_isBlank_0 rfl ?_
  refine z_callVi (M' := M_X2_filled) (As := []) (rest := []) e_X2_isBlank_1 l_RX2_31 rfl rfl rfl rfl t0 ⟨_, _, rfl⟩ (c_X2_filled hM hX) (fun xq mq rq hq => ?_)
  obtain ⟨e1q, e2q, e3q⟩ := hq
  subst xq mq rq
  have hfb := n_used_b X 20
  have hfb2 : 0 ≤ c_fil X ∧ c_fil X ≤ 20 := hfb
  refine z_if_ne e_X2_isBlank_4 ⟨by omega, by omega⟩ (fun h4_1 => ?_) (fun h4_1 => ?_)
  · refine z_iconst e_X2_isBlank_11 ?_
    refine z_iret e_X2_isBlank_12 (Or.inr ⟨rfl, Or.inl rfl⟩) rfl rfl ⟨rfl, _, rfl, ?_⟩
    refine ⟨?_, rfl, rfl⟩
    exact (if_neg (by omega)).symm
  · refine z_iconst e_X2_isBlank_7 ?_
    refine z_goto e_X2_isBlank_8 ?_
    refine z_iret e_X2_isBlank_12 (Or.inr ⟨rfl, Or.inr rfl⟩) rfl rfl ⟨rfl, _, rfl, ?_⟩
    refine ⟨?_, rfl, rfl⟩
    exact (if_pos (by omega)).symm
set_option maxHeartbeats 1000000 in
set_option maxRecDepth 100000 in
theorem c_X2_signsBefore {E : z_E} {mi : z_Mi} {mr : z_Mr} {o : Nat} {F X : Int → Int} {t : Int} (hM : z_CR E mr o) (hX : z_xr X) (hz : z_R t) : z_mi M_X2_signsBefore E [zo o, zi t] (z_u (z_u mi o F) (o + 1) X) mr (fun x m r => x = c_sb X (if t < 20 then t else 20) ∧ m = (z_u (z_u mi o F) (o + 1) X) ∧ r = mr) := by
  obtain ⟨t0, t1, q0⟩ := id hM
  refine z_ofi (ls := [some (zo o), some (zi t), none, none]) rfl (fun _ _ => trivial) ⟨rfl, rfl⟩ (Nat.le_of_ble_eq_true rfl) rfl ?_
  refine z_iconst e_X2_signsBefore_0 ?_
  refine z_istore_n (ls' := [some (zo o), some (zi t), some (zi 0), none]) e_X2_signsBefore_1 rfl rfl rfl ?_
  refine z_iconst e_X2_signsBefore_2 ?_
  refine z_istore_n (ls' := [some (zo o), some (zi t), some (zi 0), some (zi 0)]) e_X2_signsBefore_3 rfl rfl rfl ?_
  have loop4 : ∀ (nn : Nat) (c : Int) (n : Int), (20 - c).toNat = nn → (0 ≤ c ∧ c ≤ 20 ∧ (c ≤ t ∨ c = 0) ∧ n = c_sb X c) → z_A M_X2_signsBefore E 0 0 4 [some (zo o), some (zi t), some (zi n), some (zi c)] [] (z_u (z_u mi o F) (o + 1) X) mr (z_qi E (fun x m r => x = c_sb X (if t < 20 then t else 20) ∧ m = (z_u (z_u mi o F) (o + 1) X) ∧ r = mr)) := by
    intro nn
    induction nn using Nat.strongRecOn with
    | _ nn ih4 =>
      intro c n hmeas hinv
      obtain ⟨hc0, hc1, hc2, hn⟩ := hinv
      have hXc := hX c
      refine z_iload_n e_X2_signsBefore_4 rfl ?_
      refine z_iload_n e_X2_signsBefore_5 rfl ?_
      refine z_icmp_ge e_X2_signsBefore_6 ⟨by omega, by omega⟩ ⟨by omega, by omega⟩ (fun h6_1 => ?_) (fun h6_1 => ?_)
      · refine z_iload_n e_X2_signsBefore_43 rfl ?_
        refine z_iret e_X2_signsBefore_44 (Or.inl rfl) rfl rfl ⟨rfl, _, rfl, ?_⟩
        refine ⟨?_, rfl, rfl⟩
        rw [hn]
        unfold c_sb
        rw [show (if t < 20 then t else 20).toNat = c.toNat by split <;> omega]
      · refine z_iload_n e_X2_signsBefore_9 rfl ?_
        refine z_aload_n e_X2_signsBefore_10 rfl ?_
        refine z_getr (fi := 0) (r := some (o + 1)) e_X2_signsBefore_11 f_RX2_9 t0 rfl rfl (q0) ?_
        refine z_alen e_X2_signsBefore_14 t1 (by decide) ?_
        refine z_icmp_ge e_X2_signsBefore_15 ⟨by omega, by omega⟩ ⟨by omega, by omega⟩ (fun h15_2 => ?_) (fun h15_2 => ?_)
        · refine z_iload_n e_X2_signsBefore_43 rfl ?_
          refine z_iret e_X2_signsBefore_44 (Or.inl rfl) rfl rfl ⟨rfl, _, rfl, ?_⟩
          refine ⟨?_, rfl, rfl⟩
          rw [hn]
          unfold c_sb
          rw [show (if t < 20 then t else 20).toNat = c.toNat by split <;> omega]
        · refine z_iload_n e_X2_signsBefore_18 rfl ?_
          refine z_aload_n e_X2_signsBefore_19 rfl ?_
          refine z_getr (fi := 0) (r := some (o + 1)) e_X2_signsBefore_20 f_RX2_9 t0 rfl rfl (q0) ?_
          refine z_iload_n e_X2_signsBefore_23 rfl ?_
          refine z_iald (x := (X c)) e_X2_signsBefore_24 t1 (by decide) (by omega) (by omega) (congrFun (z_us _ _ _) _) ?_
          refine z_bipush e_X2_signsBefore_25 (by decide +kernel) ?_
          refine z_icmp_lt e_X2_signsBefore_27 ⟨by omega, by omega⟩ (by decide) (fun h27_3 => ?_) (fun h27_3 => ?_)
          · refine z_iconst e_X2_signsBefore_34 ?_
            refine z_iadd e_X2_signsBefore_35 ?_
            refine z_istore_n (ls' := [some (zo o), some (zi t), some (zi (n + 0)), some (zi c)]) e_X2_signsBefore_36 rfl rfl rfl ?_
            refine z_iinc (y := (c + 1)) (ls' := [some (zo o), some (zi t), some (zi (n + 0)), some (zi (c + 1))]) e_X2_signsBefore_37 rfl rfl rfl rfl rfl ?_
            refine z_goto e_X2_signsBefore_40 ?_
            exact ih4 _ (by omega) (c + 1) (n + 0) rfl (⟨by omega, by omega, by omega, by rw [hn]; unfold c_sb; rw [n_cnt_s _ hc0, if_neg (by omega)]⟩)
          · refine z_iconst e_X2_signsBefore_30 ?_
            refine z_goto e_X2_signsBefore_31 ?_
            refine z_iadd e_X2_signsBefore_35 ?_
            refine z_istore_n (ls' := [some (zo o), some (zi t), some (zi (n + 1)), some (zi c)]) e_X2_signsBefore_36 rfl rfl rfl ?_
            refine z_iinc (y := (c + 1)) (ls' := [some (zo o), some (zi t), some (zi (n + 1)), some (zi (c + 1))]) e_X2_signsBefore_37 rfl rfl rfl rfl rfl ?_
            refine z_goto e_X2_signsBefore_40 ?_
            exact ih4 _ (by omega) (c + 1) (n + 1) rfl (⟨by omega, by omega, by omega, by rw [hn]; unfold c_sb; rw [n_cnt_s _ hc0, if_pos (by omega)]⟩)
  exact loop4 _ 0 0 rfl (⟨by omega, by omega, by omega, rfl⟩)
set_option maxHeartbeats 1000000 in
set_option maxRecDepth 100000 in
theorem c_X2_erase {E : z_E} {mi : z_Mi} {mr : z_Mr} {o : Nat} {F X : Int → Int} {a b w : Int} (hM : z_CR E mr o) (hX : z_xr X) (ha : -1 ≤ a) (ha1 : a ≤ 99) (hb : -1 ≤ b) (hb1 : b ≤ 99) (hz : z_R w) (hw : -99 ≤ w) : z_mv M_X2_erase E [zo o, zi a, zi b, zi w] (z_u (z_u mi o F) (o + 1) X) mr (fun m r => m = (z_u (z_u mi o (c_erF X F b w)) (o + 1) (c_er X a b)) ∧ r = mr) := by
  obtain ⟨t0, t1, q0⟩ := id hM
  have hat1 := c_at_b hX a
  have hat2 := c_at_b hX (b + 1)
  refine z_ofv (ls := [some (zo o), some (zi a), some (zi b), some (zi w), none, none, none]) rfl (fun _ _ => trivial) ⟨rfl, rfl⟩ (Nat.le_of_ble_eq_true rfl) rfl ?_
  have join15_0 : ∀ (a2 : Int), a2 = c_e0 X a → z_A M_X2_erase E 0 0 15 [some (zo o), some (zi a), some (zi b), some (zi w), none, none, none] [zi a2] (z_u (z_u mi o F) (o + 1) X) mr (z_qv E (fun m r => m = (z_u (z_u mi o (c_erF X F b w)) (o + 1) (c_er X a b)) ∧ r = mr)) := by
    intro a2 hj
    have ha2 := hj
    have ha2b : -2 ≤ a2 ∧ a2 ≤ 99 := by rw [hj]; unfold c_e0; split <;> omega
    refine z_istore (ls' := [some (zo o), some (zi a), some (zi b), some (zi w), some (zi a2), none, none]) e_X2_erase_15 rfl rfl rfl ?_
    have join34_1 : ∀ (b2 : Int), b2 = c_e1 X b → z_A M_X2_erase E 0 0 34 [some (zo o), some (zi a), some (zi b), some (zi w), some (zi a2), none, none] [zi b2] (z_u (z_u mi o F) (o + 1) X) mr (z_qv E (fun m r => m = (z_u (z_u mi o (c_erF X F b w)) (o + 1) (c_er X a b)) ∧ r = mr)) := by
      intro b2 hj
      have hb2 := hj
      have hb2b : -1 ≤ b2 ∧ b2 ≤ 100 := by rw [hj]; unfold c_e1; split <;> omega
      refine z_istore (ls' := [some (zo o), some (zi a), some (zi b), some (zi w), some (zi a2), some (zi b2), none]) e_X2_erase_34 rfl rfl rfl ?_
      refine z_iload e_X2_erase_36 rfl ?_
      refine z_istore (ls' := [some (zo o), some (zi a), some (zi b), some (zi w), some (zi a2), some (zi b2), some (zi a2)]) e_X2_erase_38 rfl rfl rfl ?_
      have loop40 : ∀ (nn : Nat) (c : Int) (X1 : Int → Int), (b2 + 1 - c).toNat = nn → (a2 ≤ c ∧ (c ≤ b2 + 1 ∨ c = a2) ∧ X1 = c_era X a2 c) → z_A M_X2_erase E 0 0 40 [some (zo o), some (zi a), some (zi b), some (zi w), some (zi a2), some (zi b2), some (zi c)] [] (z_u (z_u mi o F) (o + 1) X1) mr (z_qv E (fun m r => m = (z_u (z_u mi o (c_erF X F b w)) (o + 1) (c_er X a b)) ∧ r = mr)) := by
        intro nn
        induction nn using Nat.strongRecOn with
        | _ nn ih40 =>
          intro c X1 hmeas hinv
          obtain ⟨hc0, hc1, hX1⟩ := hinv
          refine z_iload e_X2_erase_40 rfl ?_
          refine z_iload e_X2_erase_42 rfl ?_
          refine z_icmp_gt e_X2_erase_44 ⟨by omega, by omega⟩ ⟨by omega, by omega⟩ (fun h44_3 => ?_) (fun h44_3 => ?_)
          · have hX2 : X1 = c_er X a b := by
              unfold c_er; rw [← ha2, ← hb2, hX1]
              rcases hc1 with q | q
              · by_cases g : c = b2 + 1
                · rw [g]
                · rw [c_era_e (by omega), c_era_e (by omega)]
              · by_cases g : c = b2 + 1
                · rw [g]
                · rw [c_era_e (by omega), c_era_e (by omega)]
            rw [hX2]
            refine z_iload e_X2_erase_61 rfl ?_
            refine z_iload_n e_X2_erase_63 rfl ?_
            refine z_iconst e_X2_erase_64 ?_
            refine z_isub e_X2_erase_65 ?_
            refine z_icmp_ne e_X2_erase_66 ⟨by omega, by omega⟩ ⟨by omega, by omega⟩ (fun h66_4 => ?_) (fun h66_4 => ?_)
            · refine z_ret e_X2_erase_73 rfl rfl rfl ⟨rfl, rfl, ?_⟩
              refine ⟨?_, rfl⟩
              have hF : c_erF X F b w = F := by unfold c_erF; rw [← hb2]; exact if_neg (by omega)
              rw [hF]
            · refine z_aload_n e_X2_erase_69 rfl ?_
              refine z_callVv (M' := M_X2_unmark) (As := []) (rest := []) e_X2_erase_70 l_RX2_43 rfl rfl rfl rfl t0 ⟨_, _, rfl⟩ (c_X2_unmark hM) (fun mq rq hq => ?_)
              obtain ⟨e2q, e3q⟩ := hq
              subst mq rq
              refine z_ret e_X2_erase_73 rfl rfl rfl ⟨rfl, rfl, ?_⟩
              refine ⟨?_, rfl⟩
              have hF : c_erF X F b w = (c_un F) := by unfold c_erF; rw [← hb2]; exact if_pos (by omega)
              rw [hF]
          · refine z_aload_n e_X2_erase_47 rfl ?_
            refine z_iload e_X2_erase_48 rfl ?_
            refine z_bipush e_X2_erase_50 (by decide +kernel) ?_
            refine z_callVv (M' := M_X2_set) (As := [zi c, zi 32]) (rest := []) e_X2_erase_52 l_RX2_39 rfl rfl rfl rfl t0 ⟨_, _, rfl⟩ (c_X2_set hM ⟨by omega, by omega⟩) (fun mq rq hq => ?_)
            obtain ⟨e2q, e3q⟩ := hq
            subst mq rq
            refine z_iinc (y := (c + 1)) (ls' := [some (zo o), some (zi a), some (zi b), some (zi w), some (zi a2), some (zi b2), some (zi (c + 1))]) e_X2_erase_55 rfl rfl rfl rfl rfl ?_
            refine z_goto e_X2_erase_58 ?_
            exact ih40 _ (by omega) (c + 1) (c_set X1 c 32) rfl (⟨by omega, by omega, c_era_s (by omega) hX1⟩)
      exact loop40 _ a2 X rfl (⟨by omega, by omega, (c_era_0 X _).symm⟩)
    refine z_aload_n e_X2_erase_17 rfl ?_
    refine z_iload_n e_X2_erase_18 rfl ?_
    refine z_iconst e_X2_erase_19 ?_
    refine z_iadd e_X2_erase_20 ?_
    refine z_callVi (M' := M_X2_at) (As := [zi (b + 1)]) (rest := []) e_X2_erase_21 l_RX2_35 rfl rfl rfl rfl t0 ⟨_, _, rfl⟩ (c_X2_at hM ⟨by omega, by omega⟩) (fun xq mq rq hq => ?_)
    obtain ⟨e1q, e2q, e3q⟩ := hq
    subst xq mq rq
    refine z_if_ge e_X2_erase_24 ⟨by omega, by omega⟩ (fun h24_5 => ?_) (fun h24_5 => ?_)
    · refine z_iload_n e_X2_erase_33 rfl ?_
      exact join34_1 b ((if_neg (by omega)).symm)
    · refine z_iload_n e_X2_erase_27 rfl ?_
      refine z_iconst e_X2_erase_28 ?_
      refine z_iadd e_X2_erase_29 ?_
      refine z_goto e_X2_erase_30 ?_
      exact join34_1 (b + 1) ((if_pos (by omega)).symm)
  refine z_aload_n e_X2_erase_0 rfl ?_
  refine z_iload_n e_X2_erase_1 rfl ?_
  refine z_callVi (M' := M_X2_at) (As := [zi a]) (rest := []) e_X2_erase_2 l_RX2_35 rfl rfl rfl rfl t0 ⟨_, _, rfl⟩ (c_X2_at hM ⟨by omega, by omega⟩) (fun xq mq rq hq => ?_)
  obtain ⟨e1q, e2q, e3q⟩ := hq
  subst xq mq rq
  refine z_if_ge e_X2_erase_5 ⟨by omega, by omega⟩ (fun h5_6 => ?_) (fun h5_6 => ?_)
  · refine z_iload_n e_X2_erase_14 rfl ?_
    exact join15_0 a ((if_neg (by omega)).symm)
  · refine z_iload_n e_X2_erase_8 rfl ?_
    refine z_iconst e_X2_erase_9 ?_
    refine z_isub e_X2_erase_10 ?_
    refine z_goto e_X2_erase_11 ?_
    exact join15_0 (a - 1) ((if_pos (by omega)).symm)
set_option maxHeartbeats 1000000 in
set_option maxRecDepth 100000 in
theorem c_X2_put {E : z_E} {mi : z_Mi} {mr : z_Mr} {o : Nat} {F X : Int → Int} {c v : Int} (hM : z_CR E mr o) (hz : z_R c) (hz2 : z_R v) (hc : c ≤ 99) : z_mv M_X2_put E [zo o, zi c, zi v] (z_u (z_u mi o F) (o + 1) X) mr (fun m r => m = (z_u (z_u mi o F) (o + 1) (c_put X c v)) ∧ r = mr) := by
  obtain ⟨t0, t1, q0⟩ := id hM
  refine z_ofv (ls := [some (zo o), some (zi c), some (zi v)]) rfl (fun _ _ => trivial) ⟨rfl, rfl⟩ (Nat.le_of_ble_eq_true rfl) rfl ?_
  refine z_aload_n e_X2_put_0 rfl ?_
  refine z_iload_n e_X2_put_1 rfl ?_
  refine z_iload_n e_X2_put_2 rfl ?_
  refine z_callVv (M' := M_X2_set) (As := [zi c, zi v]) (rest := []) e_X2_put_3 l_RX2_39 rfl rfl rfl rfl t0 ⟨_, _, rfl⟩ (c_X2_set hM ⟨by omega, by omega⟩) (fun mq rq hq => ?_)
  obtain ⟨e2q, e3q⟩ := hq
  subst mq rq
  refine z_iload_n e_X2_put_6 rfl ?_
  refine z_callSi (M' := M_X4_sizeOf) (As := [zi v]) (rest := []) e_X2_put_7 l_RX2_46 rfl rfl rfl rfl (c_X4_sizeOf ⟨by omega, by omega⟩) (fun xq mq rq hq => ?_)
  obtain ⟨e1q, e2q, e3q⟩ := hq
  subst xq mq rq
  have hszb := c_sz_b v
  refine z_iconst e_X2_put_10 ?_
  refine z_icmp_ne e_X2_put_11 ⟨by omega, by omega⟩ (by decide) (fun h11_1 => ?_) (fun h11_1 => ?_)
  · refine z_ret e_X2_put_23 rfl rfl rfl ⟨rfl, rfl, ?_⟩
    refine ⟨?_, rfl⟩
    have hc9 : c_put X c v = (c_set X c v) := if_neg (by unfold c_sz at *; grind)
    rw [hc9]
  · refine z_aload_n e_X2_put_14 rfl ?_
    refine z_iload_n e_X2_put_15 rfl ?_
    refine z_iconst e_X2_put_16 ?_
    refine z_iadd e_X2_put_17 ?_
    refine z_iload_n e_X2_put_18 rfl ?_
    refine z_ineg e_X2_put_19 ?_
    refine z_callVv (M' := M_X2_set) (As := [zi (c + 1), zi (-v)]) (rest := []) e_X2_put_20 l_RX2_39 rfl rfl rfl rfl t0 ⟨_, _, rfl⟩ (c_X2_set hM ⟨by omega, by omega⟩) (fun mq rq hq => ?_)
    obtain ⟨e2q, e3q⟩ := hq
    subst mq rq
    refine z_ret e_X2_put_23 rfl rfl rfl ⟨rfl, rfl, ?_⟩
    refine ⟨?_, rfl⟩
    have hc9 : c_put X c v = (c_set (c_set X c v) (c + 1) (-v)) := if_pos (by unfold c_sz at *; grind)
    rw [hc9]
set_option maxHeartbeats 1000000 in
set_option maxRecDepth 100000 in
theorem c_X2_overwrite {E : z_E} {mi : z_Mi} {mr : z_Mr} {o : Nat} {F X : Int → Int} {c v w : Int} (hM : z_CR E mr o) (hX : z_xr X) (h0 : 0 ≤ c) (h1 : c ≤ 20) (hz2 : z_R v) (hw : 0 ≤ w) (hw1 : w ≤ 20) : z_mv M_X2_overwrite E [zo o, zi c, zi v, zi w] (z_u (z_u mi o F) (o + 1) X) mr (fun m r => m = (z_u (z_u mi o (c_ovF X F c v w)) (o + 1) (c_ov X c v)) ∧ r = mr) := by
  obtain ⟨t0, t1, q0⟩ := id hM
  refine z_ofv (ls := [some (zo o), some (zi c), some (zi v), some (zi w)]) rfl (fun _ _ => trivial) ⟨rfl, rfl⟩ (Nat.le_of_ble_eq_true rfl) rfl ?_
  refine z_aload_n e_X2_overwrite_0 rfl ?_
  refine z_iload_n e_X2_overwrite_1 rfl ?_
  refine z_iload_n e_X2_overwrite_2 rfl ?_
  refine z_iload_n e_X2_overwrite_3 rfl ?_
  refine z_callSi (M' := M_X4_sizeOf) (As := [zi v]) (rest := [zi c, zi c, zo o]) e_X2_overwrite_4 l_RX2_46 rfl rfl rfl rfl (c_X4_sizeOf ⟨by omega, by omega⟩) (fun xq mq rq hq => ?_)
  obtain ⟨e1q, e2q, e3q⟩ := hq
  subst xq mq rq
  have hszb := c_sz_b v
  refine z_iadd e_X2_overwrite_7 ?_
  refine z_iconst e_X2_overwrite_8 ?_
  refine z_isub e_X2_overwrite_9 ?_
  refine z_iload_n e_X2_overwrite_10 rfl ?_
  refine z_callVv (M' := M_X2_erase) (As := [zi c, zi ((c + (c_sz v)) - 1), zi w]) (rest := []) e_X2_overwrite_11 l_RX2_49 rfl rfl rfl rfl t0 ⟨_, _, rfl⟩ (c_X2_erase hM hX (by omega) (by omega) (by omega) (by omega) ⟨by omega, by omega⟩ (by omega)) (fun mq rq hq => ?_)
  obtain ⟨e2q, e3q⟩ := hq
  subst mq rq
  refine z_aload_n e_X2_overwrite_14 rfl ?_
  refine z_iload_n e_X2_overwrite_15 rfl ?_
  refine z_iload_n e_X2_overwrite_16 rfl ?_
  refine z_callVv (M' := M_X2_put) (As := [zi c, zi v]) (rest := []) e_X2_overwrite_17 l_RX2_53 rfl rfl rfl rfl t0 ⟨_, _, rfl⟩ (c_X2_put hM ⟨by omega, by omega⟩ ⟨by omega, by omega⟩ (by omega)) (fun mq rq hq => ?_)
  obtain ⟨e2q, e3q⟩ := hq
  subst mq rq
  refine z_ret e_X2_overwrite_20 rfl rfl rfl ⟨rfl, rfl, ?_⟩
  exact ⟨rfl, rfl⟩
set_option maxHeartbeats 1000000 in
set_option maxRecDepth 100000 in
theorem c_X2_openCells {E : z_E} {mi : z_Mi} {mr : z_Mr} {o : Nat} {F X : Int → Int} {c n w : Int} (hM : z_CR E mr o) (hX : z_xr X) (h0 : 0 ≤ c) (h1 : 1 ≤ n) (h2 : c + n ≤ w) (hw1 : w ≤ 20) : z_mv M_X2_openCells E [zo o, zi c, zi n, zi w] (z_u (z_u mi o F) (o + 1) X) mr (fun m r => m = (z_u (z_u mi o (c_un F)) (o + 1) (c_op X c n w)) ∧ r = mr) := by
  obtain ⟨t0, t1, q0⟩ := id hM
  have hat1 := c_at_b hX c
  refine z_ofv (ls := [some (zo o), some (zi c), some (zi n), some (zi w), none]) rfl (fun _ _ => trivial) ⟨rfl, rfl⟩ (Nat.le_of_ble_eq_true rfl) rfl ?_
  have join24_0 : ∀ (X1 : Int → Int), X1 = c_op1 X c → z_A M_X2_openCells E 0 0 24 [some (zo o), some (zi c), some (zi n), some (zi w), none] [] (z_u (z_u mi o F) (o + 1) X1) mr (z_qv E (fun m r => m = (z_u (z_u mi o (c_un F)) (o + 1) (c_op X c n w)) ∧ r = mr)) := by
    intro X1 hj
    have hX1 := hj
    have hXr1 : z_xr X1 := by rw [hj]; exact z_xr_op1 hX
    refine z_iload_n e_X2_openCells_24 rfl ?_
    refine z_iconst e_X2_openCells_25 ?_
    refine z_isub e_X2_openCells_26 ?_
    refine z_istore (ls' := [some (zo o), some (zi c), some (zi n), some (zi w), some (zi (w - 1))]) e_X2_openCells_27 rfl rfl rfl ?_
    have loop29 : ∀ (nn : Nat) (i : Int) (X2 : Int → Int), (i + 1).toNat = nn → (c + n - 1 ≤ i ∧ i < w ∧ X2 = c_mvr X1 n w (i + 1)) → z_A M_X2_openCells E 0 0 29 [some (zo o), some (zi c), some (zi n), some (zi w), some (zi i)] [] (z_u (z_u mi o F) (o + 1) X2) mr (z_qv E (fun m r => m = (z_u (z_u mi o (c_un F)) (o + 1) (c_op X c n w)) ∧ r = mr)) := by
      intro nn
      induction nn using Nat.strongRecOn with
      | _ nn ih29 =>
        intro i X2 hmeas hinv
        obtain ⟨hi0, hi1, hX2⟩ := hinv
        refine z_iload e_X2_openCells_29 rfl ?_
        refine z_iload_n e_X2_openCells_31 rfl ?_
        refine z_iload_n e_X2_openCells_32 rfl ?_
        refine z_iadd e_X2_openCells_33 ?_
        refine z_icmp_lt e_X2_openCells_34 ⟨by omega, by omega⟩ ⟨by omega, by omega⟩ (fun h34_2 => ?_) (fun h34_2 => ?_)
        · have hX3 : X2 = c_mvr X1 n w (c + n) := by rw [hX2, show i + 1 = c + n by omega]
          have hXr2 : z_xr X2 := by rw [hX3]; exact z_xr_mvr hXr1
          refine z_iload_n e_X2_openCells_57 rfl ?_
          refine z_istore (ls' := [some (zo o), some (zi c), some (zi n), some (zi w), some (zi c)]) e_X2_openCells_58 rfl rfl rfl ?_
          have loop60 : ∀ (nn : Nat) (j : Int) (X4 : Int → Int), (c + n - j).toNat = nn → (c ≤ j ∧ j ≤ c + n ∧ X4 = c_era X2 c j) → z_A M_X2_openCells E 0 0 60 [some (zo o), some (zi c), some (zi n), some (zi w), some (zi j)] [] (z_u (z_u mi o F) (o + 1) X4) mr (z_qv E (fun m r => m = (z_u (z_u mi o (c_un F)) (o + 1) (c_op X c n w)) ∧ r = mr)) := by
            intro nn
            induction nn using Nat.strongRecOn with
            | _ nn ih60 =>
              intro j X4 hmeas hinv
              obtain ⟨hj0, hj1, hX4⟩ := hinv
              refine z_iload e_X2_openCells_60 rfl ?_
              refine z_iload_n e_X2_openCells_62 rfl ?_
              refine z_iload_n e_X2_openCells_63 rfl ?_
              refine z_iadd e_X2_openCells_64 ?_
              refine z_icmp_ge e_X2_openCells_65 ⟨by omega, by omega⟩ ⟨by omega, by omega⟩ (fun h65_3 => ?_) (fun h65_3 => ?_)
              · have hX5 : X4 = c_op2 X c n w := by unfold c_op2; rw [hX4, hX3, hX1, show j = c + n by omega]
                have hXr4 : z_xr X4 := by rw [hX4]; exact z_xr_era hXr2
                have hat4 := c_at_b hXr4 (w - 1)
                have hat5 : c_at X4 (w - 1) = X4 (w - 1) := if_pos (by omega)
                refine z_aload_n e_X2_openCells_82 rfl ?_
                refine z_iload_n e_X2_openCells_83 rfl ?_
                refine z_iconst e_X2_openCells_84 ?_
                refine z_isub e_X2_openCells_85 ?_
                refine z_callVi (M' := M_X2_at) (As := [zi (w - 1)]) (rest := []) e_X2_openCells_86 l_RX2_35 rfl rfl rfl rfl t0 ⟨_, _, rfl⟩ (c_X2_at hM ⟨by omega, by omega⟩) (fun xq mq rq hq => ?_)
                obtain ⟨e1q, e2q, e3q⟩ := hq
                subst xq mq rq
                refine z_callSi (M' := M_X4_sizeOf) (As := [zi (c_at X4 (w - 1))]) (rest := []) e_X2_openCells_89 l_RX2_46 rfl rfl rfl rfl (c_X4_sizeOf ⟨by omega, by omega⟩) (fun xq mq rq hq => ?_)
                obtain ⟨e1q, e2q, e3q⟩ := hq
                subst xq mq rq
                have hszb := c_sz_b (c_at X4 (w - 1))
                refine z_iconst e_X2_openCells_92 ?_
                refine z_icmp_ne e_X2_openCells_93 ⟨by omega, by omega⟩ (by decide) (fun h93_4 => ?_) (fun h93_4 => ?_)
                · refine z_aload_n e_X2_openCells_105 rfl ?_
                  refine z_callVv (M' := M_X2_unmark) (As := []) (rest := []) e_X2_openCells_106 l_RX2_43 rfl rfl rfl rfl t0 ⟨_, _, rfl⟩ (c_X2_unmark hM) (fun mq rq hq => ?_)
                  obtain ⟨e2q, e3q⟩ := hq
                  subst mq rq
                  refine z_ret e_X2_openCells_109 rfl rfl rfl ⟨rfl, rfl, ?_⟩
                  refine ⟨?_, rfl⟩
                  have hF : c_op X c n w = X4 := by
                    unfold c_op; rw [← hX5, ← hat5]
                    exact if_neg (by unfold c_sz at *; grind)
                  rw [hF]
                · refine z_aload_n e_X2_openCells_96 rfl ?_
                  refine z_iload_n e_X2_openCells_97 rfl ?_
                  refine z_iconst e_X2_openCells_98 ?_
                  refine z_isub e_X2_openCells_99 ?_
                  refine z_bipush e_X2_openCells_100 (by decide +kernel) ?_
                  refine z_callVv (M' := M_X2_set) (As := [zi (w - 1), zi 32]) (rest := []) e_X2_openCells_102 l_RX2_39 rfl rfl rfl rfl t0 ⟨_, _, rfl⟩ (c_X2_set hM ⟨by omega, by omega⟩) (fun mq rq hq => ?_)
                  obtain ⟨e2q, e3q⟩ := hq
                  subst mq rq
                  refine z_aload_n e_X2_openCells_105 rfl ?_
                  refine z_callVv (M' := M_X2_unmark) (As := []) (rest := []) e_X2_openCells_106 l_RX2_43 rfl rfl rfl rfl t0 ⟨_, _, rfl⟩ (c_X2_unmark hM) (fun mq rq hq => ?_)
                  obtain ⟨e2q, e3q⟩ := hq
                  subst mq rq
                  refine z_ret e_X2_openCells_109 rfl rfl rfl ⟨rfl, rfl, ?_⟩
                  refine ⟨?_, rfl⟩
                  have hF : c_op X c n w = (c_set X4 (w - 1) 32) := by
                    unfold c_op; rw [← hX5, ← hat5]
                    rw [if_pos (by unfold c_sz at *; grind)]; exact (if_pos (by omega)).symm
                  rw [hF]
              · refine z_aload_n e_X2_openCells_68 rfl ?_
                refine z_iload e_X2_openCells_69 rfl ?_
                refine z_bipush e_X2_openCells_71 (by decide +kernel) ?_
                refine z_callVv (M' := M_X2_set) (As := [zi j, zi 32]) (rest := []) e_X2_openCells_73 l_RX2_39 rfl rfl rfl rfl t0 ⟨_, _, rfl⟩ (c_X2_set hM ⟨by omega, by omega⟩) (fun mq rq hq => ?_)
                obtain ⟨e2q, e3q⟩ := hq
                subst mq rq
                refine z_iinc (y := (j + 1)) (ls' := [some (zo o), some (zi c), some (zi n), some (zi w), some (zi (j + 1))]) e_X2_openCells_76 rfl rfl rfl rfl rfl ?_
                refine z_goto e_X2_openCells_79 ?_
                exact ih60 _ (by omega) (j + 1) (c_set X4 j 32) rfl (⟨by omega, by omega, c_era_s (by omega) hX4⟩)
          exact loop60 _ c X2 rfl (⟨by omega, by omega, (c_era_0 X2 c).symm⟩)
        · refine z_aload_n e_X2_openCells_37 rfl ?_
          refine z_iload e_X2_openCells_38 rfl ?_
          refine z_aload_n e_X2_openCells_40 rfl ?_
          refine z_iload e_X2_openCells_41 rfl ?_
          refine z_iload_n e_X2_openCells_43 rfl ?_
          refine z_isub e_X2_openCells_44 ?_
          refine z_callVi (M' := M_X2_at) (As := [zi (i - n)]) (rest := [zi i, zo o]) e_X2_openCells_45 l_RX2_35 rfl rfl rfl rfl t0 ⟨_, _, rfl⟩ (c_X2_at hM ⟨by omega, by omega⟩) (fun xq mq rq hq => ?_)
          obtain ⟨e1q, e2q, e3q⟩ := hq
          subst xq mq rq
          refine z_callVv (M' := M_X2_set) (As := [zi i, zi (c_at X2 (i - n))]) (rest := []) e_X2_openCells_48 l_RX2_39 rfl rfl rfl rfl t0 ⟨_, _, rfl⟩ (c_X2_set hM ⟨by omega, by omega⟩) (fun mq rq hq => ?_)
          obtain ⟨e2q, e3q⟩ := hq
          subst mq rq
          refine z_iinc (y := (i + (-1))) (ls' := [some (zo o), some (zi c), some (zi n), some (zi w), some (zi (i + (-1)))]) e_X2_openCells_51 rfl rfl rfl rfl rfl ?_
          refine z_goto e_X2_openCells_54 ?_
          exact ih29 _ (by omega) (i + (-1)) (c_set X2 i (c_at X2 (i - n))) rfl (⟨by omega, by omega, by rw [show i + -1 + 1 = i by omega]; exact c_mvr_s (by omega) (by omega) (by omega) (by omega) (by omega) hX2⟩)
    exact loop29 _ (w - 1) X1 rfl (⟨by omega, by omega, by rw [show w - 1 + 1 = w by omega]; exact (c_mvr_0 X1 n w).symm⟩)
  refine z_aload_n e_X2_openCells_0 rfl ?_
  refine z_iload_n e_X2_openCells_1 rfl ?_
  refine z_callVi (M' := M_X2_at) (As := [zi c]) (rest := []) e_X2_openCells_2 l_RX2_35 rfl rfl rfl rfl t0 ⟨_, _, rfl⟩ (c_X2_at hM ⟨by omega, by omega⟩) (fun xq mq rq hq => ?_)
  obtain ⟨e1q, e2q, e3q⟩ := hq
  subst xq mq rq
  refine z_if_ge e_X2_openCells_5 ⟨by omega, by omega⟩ (fun h5_5 => ?_) (fun h5_5 => ?_)
  · exact join24_0 X ((if_neg (by omega)).symm)
  · refine z_aload_n e_X2_openCells_8 rfl ?_
    refine z_iload_n e_X2_openCells_9 rfl ?_
    refine z_iconst e_X2_openCells_10 ?_
    refine z_isub e_X2_openCells_11 ?_
    refine z_bipush e_X2_openCells_12 (by decide +kernel) ?_
    refine z_callVv (M' := M_X2_set) (As := [zi (c - 1), zi 32]) (rest := []) e_X2_openCells_14 l_RX2_39 rfl rfl rfl rfl t0 ⟨_, _, rfl⟩ (c_X2_set hM ⟨by omega, by omega⟩) (fun mq rq hq => ?_)
    obtain ⟨e2q, e3q⟩ := hq
    subst mq rq
    refine z_aload_n e_X2_openCells_17 rfl ?_
    refine z_iload_n e_X2_openCells_18 rfl ?_
    refine z_bipush e_X2_openCells_19 (by decide +kernel) ?_
    refine z_callVv (M' := M_X2_set) (As := [zi c, zi 32]) (rest := []) e_X2_openCells_21 l_RX2_39 rfl rfl rfl rfl t0 ⟨_, _, rfl⟩ (c_X2_set hM ⟨by omega, by omega⟩) (fun mq rq hq => ?_)
    obtain ⟨e2q, e3q⟩ := hq
    subst mq rq
    exact join24_0 (c_set (c_set X (c - 1) 32) c 32) ((if_pos (by omega)).symm)
set_option maxHeartbeats 1000000 in
set_option maxRecDepth 100000 in
theorem c_X2_closeCells {E : z_E} {mi : z_Mi} {mr : z_Mr} {o : Nat} {F X : Int → Int} {c n w : Int} (hM : z_CR E mr o) (hX : z_xr X) (h0 : 0 ≤ c) (h1 : 1 ≤ n) (h2 : c + n ≤ w) (hw1 : w ≤ 20) : z_mv M_X2_closeCells E [zo o, zi c, zi n, zi w] (z_u (z_u mi o F) (o + 1) X) mr (fun m r => m = (z_u (z_u mi o (c_un F)) (o + 1) (c_cl X c n w)) ∧ r = mr) := by
  obtain ⟨t0, t1, q0⟩ := id hM
  refine z_ofv (ls := [some (zo o), some (zi c), some (zi n), some (zi w), none]) rfl (fun _ _ => trivial) ⟨rfl, rfl⟩ (Nat.le_of_ble_eq_true rfl) rfl ?_
  refine z_aload_n e_X2_closeCells_0 rfl ?_
  refine z_iload_n e_X2_closeCells_1 rfl ?_
  refine z_iload_n e_X2_closeCells_2 rfl ?_
  refine z_iload_n e_X2_closeCells_3 rfl ?_
  refine z_iadd e_X2_closeCells_4 ?_
  refine z_iconst e_X2_closeCells_5 ?_
  refine z_isub e_X2_closeCells_6 ?_
  refine z_iload_n e_X2_closeCells_7 rfl ?_
  refine z_callVv (M' := M_X2_erase) (As := [zi c, zi ((c + n) - 1), zi w]) (rest := []) e_X2_closeCells_8 l_RX2_49 rfl rfl rfl rfl t0 ⟨_, _, rfl⟩ (c_X2_erase hM hX (by omega) (by omega) (by omega) (by omega) ⟨by omega, by omega⟩ (by omega)) (fun mq rq hq => ?_)
  obtain ⟨e2q, e3q⟩ := hq
  subst mq rq
  refine z_iload_n e_X2_closeCells_11 rfl ?_
  refine z_istore (ls' := [some (zo o), some (zi c), some (zi n), some (zi w), some (zi c)]) e_X2_closeCells_12 rfl rfl rfl ?_
  have loop14 : ∀ (nn : Nat) (i : Int) (X2 : Int → Int), (w - i).toNat = nn → (c ≤ i ∧ i ≤ w ∧ X2 = c_mvl (c_er X c (c + n - 1)) n w c i) → z_A M_X2_closeCells E 0 0 14 [some (zo o), some (zi c), some (zi n), some (zi w), some (zi i)] [] (z_u (z_u mi o (c_erF X F ((c + n) - 1) w)) (o + 1) X2) mr (z_qv E (fun m r => m = (z_u (z_u mi o (c_un F)) (o + 1) (c_cl X c n w)) ∧ r = mr)) := by
    intro nn
    induction nn using Nat.strongRecOn with
    | _ nn ih14 =>
      intro i X2 hmeas hinv
      obtain ⟨hi0, hi1, hX2⟩ := hinv
      refine z_iload e_X2_closeCells_14 rfl ?_
      refine z_iload_n e_X2_closeCells_16 rfl ?_
      refine z_icmp_ge e_X2_closeCells_17 ⟨by omega, by omega⟩ ⟨by omega, by omega⟩ (fun h17_1 => ?_) (fun h17_1 => ?_)
      · refine z_aload_n e_X2_closeCells_53 rfl ?_
        refine z_callVv (M' := M_X2_unmark) (As := []) (rest := []) e_X2_closeCells_54 l_RX2_43 rfl rfl rfl rfl t0 ⟨_, _, rfl⟩ (c_X2_unmark hM) (fun mq rq hq => ?_)
        obtain ⟨e2q, e3q⟩ := hq
        subst mq rq
        refine z_ret e_X2_closeCells_57 rfl rfl rfl ⟨rfl, rfl, ?_⟩
        refine ⟨?_, rfl⟩
        rw [c_un_erF, hX2, show i = w by omega]
        rfl
      · refine z_aload_n e_X2_closeCells_20 rfl ?_
        refine z_iload e_X2_closeCells_21 rfl ?_
        have join44_1 : ∀ (v : Int), v = (if i + n < w then c_at X2 (i + n) else 32) → z_A M_X2_closeCells E 0 0 44 [some (zo o), some (zi c), some (zi n), some (zi w), some (zi i)] [zi v, zi i, zo o] (z_u (z_u mi o (c_erF X F ((c + n) - 1) w)) (o + 1) X2) mr (z_qv E (fun m r => m = (z_u (z_u mi o (c_un F)) (o + 1) (c_cl X c n w)) ∧ r = mr)) := by
          intro v hj
          have hv := hj
          refine z_callVv (M' := M_X2_set) (As := [zi i, zi v]) (rest := []) e_X2_closeCells_44 l_RX2_39 rfl rfl rfl rfl t0 ⟨_, _, rfl⟩ (c_X2_set hM ⟨by omega, by omega⟩) (fun mq rq hq => ?_)
          obtain ⟨e2q, e3q⟩ := hq
          subst mq rq
          refine z_iinc (y := (i + 1)) (ls' := [some (zo o), some (zi c), some (zi n), some (zi w), some (zi (i + 1))]) e_X2_closeCells_47 rfl rfl rfl rfl rfl ?_
          refine z_goto e_X2_closeCells_50 ?_
          exact ih14 _ (by omega) (i + 1) (c_set X2 i v) rfl (⟨by omega, by omega, c_mvl_s (by omega) (by omega) (by omega) (by omega) (by omega) hX2 hv⟩)
        refine z_iload e_X2_closeCells_23 rfl ?_
        refine z_iload_n e_X2_closeCells_25 rfl ?_
        refine z_iadd e_X2_closeCells_26 ?_
        refine z_iload_n e_X2_closeCells_27 rfl ?_
        refine z_icmp_ge e_X2_closeCells_28 ⟨by omega, by omega⟩ ⟨by omega, by omega⟩ (fun h28_3 => ?_) (fun h28_3 => ?_)
        · refine z_bipush e_X2_closeCells_42 (by decide +kernel) ?_
          exact join44_1 32 ((if_neg (by omega)).symm)
        · refine z_aload_n e_X2_closeCells_31 rfl ?_
          refine z_iload e_X2_closeCells_32 rfl ?_
          refine z_iload_n e_X2_closeCells_34 rfl ?_
          refine z_iadd e_X2_closeCells_35 ?_
          refine z_callVi (M' := M_X2_at) (As := [zi (i + n)]) (rest := [zi i, zo o]) e_X2_closeCells_36 l_RX2_35 rfl rfl rfl rfl t0 ⟨_, _, rfl⟩ (c_X2_at hM ⟨by omega, by omega⟩) (fun xq mq rq hq => ?_)
          obtain ⟨e1q, e2q, e3q⟩ := hq
          subst xq mq rq
          refine z_goto e_X2_closeCells_39 ?_
          exact join44_1 (c_at X2 (i + n)) ((if_pos (by omega)).symm)
  exact loop14 _ c (c_er X c ((c + n) - 1)) rfl (⟨by omega, by omega, (c_mvl_0 _ n w c).symm⟩)
set_option maxHeartbeats 1000000 in
set_option maxRecDepth 100000 in
theorem c_X2_copyFrom {E : z_E} {mi : z_Mi} {mr : z_Mr} {o p : Nat} {F X G Y : Int → Int} (hM : z_CR E mr o) (hN : z_CR E mr p) (hop : p + 1 < o ∨ o + 1 < p) (hG : (G 1 = 0 ∨ G 1 = 1) ∧ (G 2 = 0 ∨ G 2 = 1)) : z_mv M_X2_copyFrom E [zo o, zo p] (z_u (z_u (z_u (z_u mi p G) (p + 1) Y) o F) (o + 1) X) mr (fun m r => m = z_u (z_u (z_u (z_u mi p G) (p + 1) Y) o (z_v (z_v F 1 (G 1)) 2 (G 2))) (o + 1) (z_cpy Y X 20) ∧ r = mr) := by
  obtain ⟨t0, t1, q0⟩ := id hM
  obtain ⟨s0, s1, u0⟩ := id hN
  obtain ⟨hG1, hG2⟩ := hG
  refine z_ofv (ls := [some (zo o), some (zo p)]) rfl (fun _ _ => trivial) ⟨rfl, rfl⟩ (Nat.le_of_ble_eq_true rfl) rfl ?_
  refine z_aload_n e_X2_copyFrom_0 rfl ?_
  refine z_getr (fi := 0) (r := some (p + 1)) e_X2_copyFrom_1 f_RX2_9 s0 rfl rfl (u0) ?_
  refine z_iconst e_X2_copyFrom_4 ?_
  refine z_aload_n e_X2_copyFrom_5 rfl ?_
  refine z_getr (fi := 0) (r := some (o + 1)) e_X2_copyFrom_6 f_RX2_9 t0 rfl rfl (q0) ?_
  refine z_iconst e_X2_copyFrom_9 ?_
  refine z_bipush e_X2_copyFrom_10 (by decide +kernel) ?_
  refine z_copy e_X2_copyFrom_12 mm_RX2_25.1 mm_RX2_25.2.1 mm_RX2_25.2.2.1 mm_RX2_25.2.2.2 rfl rfl rfl s1 t1 (by decide) (by decide) (by decide) (by decide) ?_
  rw [z_us, show z_u (z_u (z_u (z_u mi p G) (p + 1) Y) o F) (o + 1) X (p + 1) = Y from (z_un (by omega)).trans ((z_un (by omega)).trans (z_us _ _ _)), z_uu]
  refine z_aload_n e_X2_copyFrom_15 rfl ?_
  refine z_aload_n e_X2_copyFrom_16 rfl ?_
  refine z_geti (fi := 1) (x := (G 1)) e_X2_copyFrom_17 f_RX2_18 s0 rfl rfl (congrFun (((z_un (by omega)).trans (((z_un (by omega)).trans (((z_un (by omega)).trans (z_us _ _ _))))))) _) ?_
  refine z_putiX (fi := 1) (f := F) e_X2_copyFrom_20 f_RX2_18 t0 rfl rfl (Or.inr ⟨rfl, by omega⟩) (((z_un (by omega)).trans (z_us _ _ _))) (z_ux (by omega) (z_uu _ _ _ _)) ?_
  refine z_aload_n e_X2_copyFrom_23 rfl ?_
  refine z_aload_n e_X2_copyFrom_24 rfl ?_
  refine z_geti (fi := 2) (x := (G 2)) e_X2_copyFrom_25 f_RX2_22 s0 rfl rfl (congrFun (((z_un (by omega)).trans (((z_un (by omega)).trans (((z_un (by omega)).trans (z_us _ _ _))))))) _) ?_
  refine z_putiX (fi := 2) (f := (z_v F 1 (G 1))) e_X2_copyFrom_28 f_RX2_22 t0 rfl rfl (Or.inr ⟨rfl, by omega⟩) (((z_un (by omega)).trans (z_us _ _ _))) (z_ux (by omega) (z_uu _ _ _ _)) ?_
  refine z_ret e_X2_copyFrom_31 rfl rfl rfl ⟨rfl, rfl, ?_⟩
  exact ⟨rfl, rfl⟩
set_option maxHeartbeats 1000000 in
set_option maxRecDepth 100000 in
theorem c_X0_set {E : z_E} {mi : z_Mi} {mr : z_Mr} {o : Nat} {F : Int → Int} {r c : Int} (t0 : E.2.2[o]? = some (0, 0)) : z_mv M_X0_set E [zo o, zi r, zi c] (z_u mi o F) mr (fun m r9 => m = z_u mi o (z_v (z_v (z_v F 0 r) 1 c) 2 0) ∧ r9 = mr) := by
  refine z_ofv (ls := [some (zo o), some (zi r), some (zi c)]) rfl (fun _ _ => trivial) ⟨rfl, rfl⟩ (Nat.le_of_ble_eq_true rfl) rfl ?_
  refine z_aload_n e_X0_set_0 rfl ?_
  refine z_iload_n e_X0_set_1 rfl ?_
  refine z_putiU (fi := 0) e_X0_set_2 f_RX0_7 t0 rfl rfl (Or.inl rfl) ?_
  refine z_aload_n e_X0_set_5 rfl ?_
  refine z_iload_n e_X0_set_6 rfl ?_
  refine z_putiU (fi := 1) e_X0_set_7 f_RX0_13 t0 rfl rfl (Or.inl rfl) ?_
  refine z_aload_n e_X0_set_10 rfl ?_
  refine z_iconst e_X0_set_11 ?_
  refine z_putiU (fi := 2) e_X0_set_12 f_RX0_16 t0 rfl rfl (Or.inr ⟨rfl, Or.inl rfl⟩) ?_
  refine z_ret e_X0_set_15 rfl rfl rfl ⟨rfl, rfl, ?_⟩
  exact ⟨rfl, rfl⟩
set_option maxHeartbeats 1000000 in
set_option maxRecDepth 100000 in
theorem c_X0_copyFrom {E : z_E} {mi : z_Mi} {mr : z_Mr} {o p : Nat} {F G : Int → Int} (t0 : E.2.2[o]? = some (0, 0)) (s0 : E.2.2[p]? = some (0, 0)) (hop : o ≠ p) (hG : G 2 = 0 ∨ G 2 = 1) : z_mv M_X0_copyFrom E [zo o, zo p] (z_u (z_u mi p G) o F) mr (fun m r9 => m = z_u (z_u mi p G) o (z_v (z_v (z_v F 0 (G 0)) 1 (G 1)) 2 (G 2)) ∧ r9 = mr) := by
  refine z_ofv (ls := [some (zo o), some (zo p)]) rfl (fun _ _ => trivial) ⟨rfl, rfl⟩ (Nat.le_of_ble_eq_true rfl) rfl ?_
  refine z_aload_n e_X0_copyFrom_0 rfl ?_
  refine z_aload_n e_X0_copyFrom_1 rfl ?_
  refine z_geti (fi := 0) (x := (G 0)) e_X0_copyFrom_2 f_RX0_7 s0 rfl rfl (congrFun (((z_un (by omega)).trans (z_us _ _ _))) _) ?_
  refine z_putiU (fi := 0) e_X0_copyFrom_5 f_RX0_7 t0 rfl rfl (Or.inl rfl) ?_
  refine z_aload_n e_X0_copyFrom_8 rfl ?_
  refine z_aload_n e_X0_copyFrom_9 rfl ?_
  refine z_geti (fi := 1) (x := (G 1)) e_X0_copyFrom_10 f_RX0_13 s0 rfl rfl (congrFun (((z_un (by omega)).trans (z_us _ _ _))) _) ?_
  refine z_putiU (fi := 1) e_X0_copyFrom_13 f_RX0_13 t0 rfl rfl (Or.inl rfl) ?_
  refine z_aload_n e_X0_copyFrom_16 rfl ?_
  refine z_aload_n e_X0_copyFrom_17 rfl ?_
  refine z_geti (fi := 2) (x := (G 2)) e_X0_copyFrom_18 f_RX0_16 s0 rfl rfl (congrFun (((z_un (by omega)).trans (z_us _ _ _))) _) ?_
  refine z_putiU (fi := 2) e_X0_copyFrom_21 f_RX0_16 t0 rfl rfl (Or.inr ⟨rfl, by omega⟩) ?_
  refine z_ret e_X0_copyFrom_24 rfl rfl rfl ⟨rfl, rfl, ?_⟩
  exact ⟨rfl, rfl⟩
