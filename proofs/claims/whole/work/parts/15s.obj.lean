set_option maxHeartbeats 1000000 in
set_option maxRecDepth 100000 in
theorem c_X4_mix {E : z_E} {mi : z_Mi} {mr : z_Mr} {h0 : Int64} {v : Int} : z_ml M_X4_mix E [zl h0, zi v] mi mr (fun x m r => x = y_mix h0 v ∧ m = mi ∧ r = mr) := by
  refine z_ofl (ls := [some (zl h0), none, some (zi v)]) rfl (fun _ _ => trivial) ⟨rfl, rfl⟩ (Nat.le_of_ble_eq_true rfl) rfl ?_
  refine z_ldc2 (x := 31) e_X4_mix_0 (z_tab 567 (by decide +kernel) rfl) ?_
  refine z_lload_n e_X4_mix_3 rfl ?_
  refine z_lmul e_X4_mix_4 ?_
  refine z_iload_n e_X4_mix_5 rfl ?_
  refine z_i2l e_X4_mix_6 ?_
  refine z_ladd e_X4_mix_7 ?_
  refine z_lret e_X4_mix_8 rfl rfl rfl ⟨rfl, _, rfl, ?_⟩
  exact ⟨rfl, rfl, rfl⟩
set_option maxHeartbeats 1000000 in
set_option maxRecDepth 100000 in
theorem e_X4_mixRows {E : z_E} {mi : z_Mi} {mr : z_Mr} {o : Nat} {P G : Int → Int} {f : Int → Option Nat} {n nx : Int} {h0 : Int64} (hX : z_X E o mi mr P n nx) : z_ml M_X4_mixRows E [zo o, zl h0] (z_u mi (o + 73) G) (z_u mr (o + 73) f) (fun x m r => x = y_dg2 P h0 ∧ m = z_u mi (o + 73) G ∧ r = z_u mr (o + 73) f) := by
  obtain ⟨⟨to, ta, tq, ro0, ro1, ro2, rok⟩, ⟨fo3, fo4, nb0, nb1, nb2, nb3⟩, hH, ⟨sg, hS⟩, hM⟩ := id hX
  obtain ⟨hc, hd, hr⟩ := id hS
  obtain ⟨t0, t1, t2, t3, t4, q0, q1, q2⟩ := id hc
  obtain ⟨d3, d4, d5, d6, d7, d8, u0, u1, u2, uk, uz⟩ := id hd
  obtain ⟨hw0, hw1, hh0, hh1, hf0, hf1, hf2, hr0, hr1, hc0, hc1, hp0, hp1, hk0, hk1, hi0, hi1, hkp, hP⟩ := id hH
  have hcnt := m_count_b hH
  refine z_ofl (ls := [some (zo o), some (zl h0), none, none, none, none, none]) rfl (fun _ _ => trivial) ⟨rfl, rfl⟩ (Nat.le_of_ble_eq_true rfl) rfl ?_
  refine z_lload_n e_X4_mixRows_0 rfl ?_
  refine z_lstore_n (ls' := [some (zo o), some (zl h0), none, some (zl h0), none, none, none]) e_X4_mixRows_1 rfl rfl rfl ?_
  refine z_aload_n e_X4_mixRows_2 rfl ?_
  refine z_getr (fi := 0) (r := some (o + 1)) e_X4_mixRows_3 f_RX4_12 to rfl rfl ((congrFun (z_un (by omega)) _).trans ro0) ?_
  refine z_geti (fi := 4) (x := (P 14)) e_X4_mixRows_6 f_RX4_49 t0 rfl rfl ((congrFun ((z_un (by omega))) _).trans d4) ?_
  refine z_ineg e_X4_mixRows_9 ?_
  refine z_istore (ls' := [some (zo o), some (zl h0), none, some (zl h0), none, some (zi (-(P 14))), none]) e_X4_mixRows_10 rfl rfl rfl ?_
  have loop12 : ∀ (nn : Nat) (r : Int) (h1 : Int64), (P 1 - r).toNat = nn → (- P 14 ≤ r ∧ r ≤ P 1 ∧ h1 = y_nest (fun k h => y_mixn (fun w => m_ros P (m_slot P k) w) 4 h) (r + P 14).toNat h0) → z_A M_X4_mixRows E 0 0 12 [some (zo o), some (zl h0), none, some (zl h1), none, some (zi r), none] [] (z_u mi (o + 73) G) (z_u mr (o + 73) f) (z_ql E (fun x m r => x = y_dg2 P h0 ∧ m = z_u mi (o + 73) G ∧ r = z_u mr (o + 73) f)) := by
    intro nn
    induction nn using Nat.strongRecOn with
    | _ nn ih12 =>
      intro r h1 hmeas hinv
      obtain ⟨ia0, ia1, hh1⟩ := hinv
      refine z_iload e_X4_mixRows_12 rfl ?_
      refine z_aload_n e_X4_mixRows_14 rfl ?_
      refine z_getr (fi := 0) (r := some (o + 1)) e_X4_mixRows_15 f_RX4_12 to rfl rfl ((congrFun (z_un (by omega)) _).trans ro0) ?_
      refine z_geti (fi := 6) (x := (P 1)) e_X4_mixRows_18 f_RX4_75 t0 rfl rfl ((congrFun ((z_un (by omega))) _).trans d6) ?_
      refine z_icmp_ge e_X4_mixRows_21 ⟨by omega, by omega⟩ ⟨by omega, by omega⟩ (fun h21_1 => ?_) (fun h21_1 => ?_)
      · refine z_lload_n e_X4_mixRows_58 rfl ?_
        refine z_lret e_X4_mixRows_59 rfl rfl rfl ⟨rfl, _, rfl, ?_⟩
        refine ⟨?_, rfl, rfl⟩
        rw [hh1, show r = P 1 by omega, show P 1 + P 14 = P 14 + P 1 by omega]
        rfl
      · refine z_iconst e_X4_mixRows_24 ?_
        refine z_istore (ls' := [some (zo o), some (zl h0), none, some (zl h1), none, some (zi r), some (zi 0)]) e_X4_mixRows_25 rfl rfl rfl ?_
        have loop27 : ∀ (nn : Nat) (w : Int) (h2 : Int64), (4 - w).toNat = nn → (0 ≤ w ∧ w ≤ 4 ∧ h2 = y_mixn (fun w => m_ros P (m_slot P (r + P 14)) w) w.toNat h1) → z_A M_X4_mixRows E 0 0 27 [some (zo o), some (zl h0), none, some (zl h2), none, some (zi r), some (zi w)] [] (z_u mi (o + 73) G) (z_u mr (o + 73) f) (z_ql E (fun x m r => x = y_dg2 P h0 ∧ m = z_u mi (o + 73) G ∧ r = z_u mr (o + 73) f)) := by
          intro nn
          induction nn using Nat.strongRecOn with
          | _ nn ih27 =>
            intro w h2 hmeas hinv
            obtain ⟨ib0, ib1, hh2⟩ := hinv
            refine z_iload e_X4_mixRows_27 rfl ?_
            refine z_iconst e_X4_mixRows_29 ?_
            refine z_icmp_gt e_X4_mixRows_30 ⟨by omega, by omega⟩ (by decide) (fun h30_2 => ?_) (fun h30_2 => ?_)
            · refine z_iinc (y := (r + 1)) (ls' := [some (zo o), some (zl h0), none, some (zl h2), none, some (zi (r + 1)), some (zi w)]) e_X4_mixRows_52 rfl rfl rfl rfl rfl ?_
              refine z_goto e_X4_mixRows_55 ?_
              refine z_fgt (ls' := [some (zo o), some (zl h0), none, some (zl h2), none, some (zi (r + 1)), none]) ⟨rfl, rfl, rfl, rfl, trivial⟩ ?_
              exact ih12 _ (by omega) (r + 1) h2 rfl (⟨by omega, by omega, by rw [show r + 1 + P 14 = (r + P 14) + 1 by omega, y_nest_s _ (by omega), ← hh1, hh2, show w = 4 by omega]; rfl⟩)
            · refine z_lload_n e_X4_mixRows_33 rfl ?_
              refine z_aload_n e_X4_mixRows_34 rfl ?_
              refine z_iload e_X4_mixRows_35 rfl ?_
              refine z_iload e_X4_mixRows_37 rfl ?_
              refine z_callVi (M' := M_X4_row) (As := [zi r, zi w]) (rest := [zl h2]) e_X4_mixRows_39 l_RX4_235 rfl rfl rfl rfl to ⟨_, _, rfl⟩ (c_X4_row (z_X_q hX) ⟨by omega, by omega⟩ ⟨by omega, by omega⟩) (fun xq mq rq hq => ?_)
              obtain ⟨e1q, e2q, e3q⟩ := hq
              subst xq mq rq
              refine z_callSl (M' := M_X4_mix) (As := [zl h2, zi (m_rowA P r w)]) (rest := []) e_X4_mixRows_42 l_RX4_213 rfl rfl rfl rfl (c_X4_mix) (fun xq mq rq hq => ?_)
              obtain ⟨e1q, e2q, e3q⟩ := hq
              subst xq mq rq
              refine z_lstore_n (ls' := [some (zo o), some (zl h0), none, some (zl (y_mix h2 (m_rowA P r w))), none, some (zi r), some (zi w)]) e_X4_mixRows_45 rfl rfl rfl ?_
              refine z_iinc (y := (w + 1)) (ls' := [some (zo o), some (zl h0), none, some (zl (y_mix h2 (m_rowA P r w))), none, some (zi r), some (zi (w + 1))]) e_X4_mixRows_46 rfl rfl rfl rfl rfl ?_
              refine z_goto e_X4_mixRows_49 ?_
              exact ih27 _ (by omega) (w + 1) (y_mix h2 (m_rowA P r w)) rfl (⟨by omega, by omega, by rw [y_mixn_s _ (by omega), ← hh2, m_rowA_ros (by omega) (by omega) (by omega) (by omega) (by omega)]⟩)
        exact loop27 _ 0 h1 rfl (⟨by omega, by omega, rfl⟩)
  exact loop12 _ (-(P 14)) h0 rfl (⟨by omega, by omega, by rw [show (-(P 14) + P 14).toNat = 0 by omega]; rfl⟩)
set_option maxHeartbeats 1000000 in
set_option maxRecDepth 100000 in
theorem e_X4_mixCells {E : z_E} {mi : z_Mi} {mr : z_Mr} {o : Nat} {P G : Int → Int} {f : Int → Option Nat} {n nx : Int} {h0 : Int64} (hX : z_X E o mi mr P n nx) : z_ml M_X4_mixCells E [zo o, zl h0] (z_u mi (o + 73) G) (z_u mr (o + 73) f) (fun x m r => x = y_dg3 P h0 ∧ m = z_u mi (o + 73) G ∧ r = z_u mr (o + 73) f) := by
  obtain ⟨⟨to, ta, tq, ro0, ro1, ro2, rok⟩, ⟨fo3, fo4, nb0, nb1, nb2, nb3⟩, hH, ⟨sg, hS⟩, hM⟩ := id hX
  obtain ⟨hc, hd, hr⟩ := id hS
  obtain ⟨t0, t1, t2, t3, t4, q0, q1, q2⟩ := id hc
  obtain ⟨d3, d4, d5, d6, d7, d8, u0, u1, u2, uk, uz⟩ := id hd
  obtain ⟨hw0, hw1, hh0, hh1, hf0, hf1, hf2, hr0, hr1, hc0, hc1, hp0, hp1, hk0, hk1, hi0, hi1, hkp, hP⟩ := id hH
  have hcnt := m_count_b hH
  refine z_ofl (ls := [some (zo o), some (zl h0), none, none, none, none, none]) rfl (fun _ _ => trivial) ⟨rfl, rfl⟩ (Nat.le_of_ble_eq_true rfl) rfl ?_
  refine z_lload_n e_X4_mixCells_0 rfl ?_
  refine z_lstore_n (ls' := [some (zo o), some (zl h0), none, some (zl h0), none, none, none]) e_X4_mixCells_1 rfl rfl rfl ?_
  refine z_iconst e_X4_mixCells_2 ?_
  refine z_istore (ls' := [some (zo o), some (zl h0), none, some (zl h0), none, some (zi 0), none]) e_X4_mixCells_3 rfl rfl rfl ?_
  have loop5 : ∀ (nn : Nat) (r : Int) (h1 : Int64), (P 1 - r).toNat = nn → (0 ≤ r ∧ r ≤ P 1 ∧ 0 ≤ r * P 0 ∧ h1 = y_mixn (fun k => m_cellA P (k / P 0) (k % P 0)) (r * P 0).toNat h0) → z_A M_X4_mixCells E 0 0 5 [some (zo o), some (zl h0), none, some (zl h1), none, some (zi r), none] [] (z_u mi (o + 73) G) (z_u mr (o + 73) f) (z_ql E (fun x m r => x = y_dg3 P h0 ∧ m = z_u mi (o + 73) G ∧ r = z_u mr (o + 73) f)) := by
    intro nn
    induction nn using Nat.strongRecOn with
    | _ nn ih5 =>
      intro r h1 hmeas hinv
      obtain ⟨ia0, ia1, ia2, hh1⟩ := hinv
      refine z_iload e_X4_mixCells_5 rfl ?_
      refine z_aload_n e_X4_mixCells_7 rfl ?_
      refine z_getr (fi := 0) (r := some (o + 1)) e_X4_mixCells_8 f_RX4_12 to rfl rfl ((congrFun (z_un (by omega)) _).trans ro0) ?_
      refine z_geti (fi := 6) (x := (P 1)) e_X4_mixCells_11 f_RX4_75 t0 rfl rfl ((congrFun ((z_un (by omega))) _).trans d6) ?_
      refine z_icmp_ge e_X4_mixCells_14 ⟨by omega, by omega⟩ ⟨by omega, by omega⟩ (fun h14_1 => ?_) (fun h14_1 => ?_)
      · refine z_lload_n e_X4_mixCells_57 rfl ?_
        refine z_lret e_X4_mixCells_58 rfl rfl rfl ⟨rfl, _, rfl, ?_⟩
        refine ⟨?_, rfl, rfl⟩
        rw [hh1, show r = P 1 by omega]
        rfl
      · refine z_iconst e_X4_mixCells_17 ?_
        refine z_istore (ls' := [some (zo o), some (zl h0), none, some (zl h1), none, some (zi r), some (zi 0)]) e_X4_mixCells_18 rfl rfl rfl ?_
        have loop20 : ∀ (nn : Nat) (c : Int) (h2 : Int64), (P 0 - c).toNat = nn → (0 ≤ c ∧ c ≤ P 0 ∧ h2 = y_mixn (fun k => m_cellA P (k / P 0) (k % P 0)) (r * P 0 + c).toNat h0) → z_A M_X4_mixCells E 0 0 20 [some (zo o), some (zl h0), none, some (zl h2), none, some (zi r), some (zi c)] [] (z_u mi (o + 73) G) (z_u mr (o + 73) f) (z_ql E (fun x m r => x = y_dg3 P h0 ∧ m = z_u mi (o + 73) G ∧ r = z_u mr (o + 73) f)) := by
          intro nn
          induction nn using Nat.strongRecOn with
          | _ nn ih20 =>
            intro c h2 hmeas hinv
            obtain ⟨ib0, ib1, hh2⟩ := hinv
            refine z_iload e_X4_mixCells_20 rfl ?_
            refine z_aload_n e_X4_mixCells_22 rfl ?_
            refine z_getr (fi := 0) (r := some (o + 1)) e_X4_mixCells_23 f_RX4_12 to rfl rfl ((congrFun (z_un (by omega)) _).trans ro0) ?_
            refine z_geti (fi := 5) (x := (P 0)) e_X4_mixCells_26 f_RX4_56 t0 rfl rfl ((congrFun ((z_un (by omega))) _).trans d5) ?_
            refine z_icmp_ge e_X4_mixCells_29 ⟨by omega, by omega⟩ ⟨by omega, by omega⟩ (fun h29_2 => ?_) (fun h29_2 => ?_)
            · refine z_iinc (y := (r + 1)) (ls' := [some (zo o), some (zl h0), none, some (zl h2), none, some (zi (r + 1)), some (zi c)]) e_X4_mixCells_51 rfl rfl rfl rfl rfl ?_
              refine z_goto e_X4_mixCells_54 ?_
              refine z_fgt (ls' := [some (zo o), some (zl h0), none, some (zl h2), none, some (zi (r + 1)), none]) ⟨rfl, rfl, rfl, rfl, trivial⟩ ?_
              exact ih5 _ (by omega) (r + 1) h2 rfl (⟨by omega, by omega, by rw [Int.add_mul, Int.one_mul]; omega, by rw [Int.add_mul, Int.one_mul, hh2, show c = P 0 by omega]⟩)
            · refine z_lload_n e_X4_mixCells_32 rfl ?_
              refine z_aload_n e_X4_mixCells_33 rfl ?_
              refine z_iload e_X4_mixCells_34 rfl ?_
              refine z_iload e_X4_mixCells_36 rfl ?_
              refine z_callVi (M' := M_X4_cell) (As := [zi r, zi c]) (rest := [zl h2]) e_X4_mixCells_38 l_RX4_237 rfl rfl rfl rfl to ⟨_, _, rfl⟩ (c_X4_cell (z_X_q hX) ⟨by omega, by omega⟩ ⟨by omega, by omega⟩) (fun xq mq rq hq => ?_)
              obtain ⟨e1q, e2q, e3q⟩ := hq
              subst xq mq rq
              refine z_callSl (M' := M_X4_mix) (As := [zl h2, zi (m_cellA P r c)]) (rest := []) e_X4_mixCells_41 l_RX4_213 rfl rfl rfl rfl (c_X4_mix) (fun xq mq rq hq => ?_)
              obtain ⟨e1q, e2q, e3q⟩ := hq
              subst xq mq rq
              refine z_lstore_n (ls' := [some (zo o), some (zl h0), none, some (zl (y_mix h2 (m_cellA P r c))), none, some (zi r), some (zi c)]) e_X4_mixCells_44 rfl rfl rfl ?_
              refine z_iinc (y := (c + 1)) (ls' := [some (zo o), some (zl h0), none, some (zl (y_mix h2 (m_cellA P r c))), none, some (zi r), some (zi (c + 1))]) e_X4_mixCells_45 rfl rfl rfl rfl rfl ?_
              refine z_goto e_X4_mixCells_48 ?_
              exact ih20 _ (by omega) (c + 1) (y_mix h2 (m_cellA P r c)) rfl (⟨by omega, by omega, by rw [show r * P 0 + (c + 1) = (r * P 0 + c) + 1 by omega, y_mixn_s _ (by omega), ← hh2, (y_dm ib0 (show c < P 0 by omega)).1, (y_dm ib0 (show c < P 0 by omega)).2]⟩)
        exact loop20 _ 0 h1 rfl (⟨by omega, by omega, by rw [Int.add_zero]; exact hh1⟩)
  exact loop5 _ 0 h0 rfl (⟨by omega, by omega, by rw [Int.zero_mul]; omega, by rw [Int.zero_mul]; rfl⟩)
set_option maxHeartbeats 1000000 in
set_option maxRecDepth 100000 in
theorem e_X4_mixCursors {E : z_E} {mi : z_Mi} {mr : z_Mr} {o : Nat} {P G : Int → Int} {f : Int → Option Nat} {n nx : Int} {h0 : Int64} (hX : z_X E o mi mr P n nx) : z_ml M_X4_mixCursors E [zo o, zl h0] (z_u mi (o + 73) G) (z_u mr (o + 73) f) (fun x m r => x = y_dg5 P h0 ∧ m = z_u mi (o + 73) G ∧ r = z_u mr (o + 73) f) := by
  obtain ⟨⟨to, ta, tq, ro0, ro1, ro2, rok⟩, ⟨fo3, fo4, nb0, nb1, nb2, nb3⟩, hH, ⟨sg, hS⟩, hM⟩ := id hX
  obtain ⟨hc, hd, hr⟩ := id hS
  obtain ⟨t0, t1, t2, t3, t4, q0, q1, q2⟩ := id hc
  obtain ⟨d3, d4, d5, d6, d7, d8, u0, u1, u2, uk, uz⟩ := id hd
  obtain ⟨hw0, hw1, hh0, hh1, hf0, hf1, hf2, hr0, hr1, hc0, hc1, hp0, hp1, hk0, hk1, hi0, hi1, hkp, hP⟩ := id hH
  have hcnt := m_count_b hH
  refine z_ofl (ls := [some (zo o), some (zl h0), none, none, none, none, none]) rfl (fun _ _ => trivial) ⟨rfl, rfl⟩ (Nat.le_of_ble_eq_true rfl) rfl ?_
  refine z_lload_n e_X4_mixCursors_0 rfl ?_
  refine z_lstore_n (ls' := [some (zo o), some (zl h0), none, some (zl h0), none, none, none]) e_X4_mixCursors_1 rfl rfl rfl ?_
  refine z_iconst e_X4_mixCursors_2 ?_
  refine z_istore (ls' := [some (zo o), some (zl h0), none, some (zl h0), none, some (zi 0), none]) e_X4_mixCursors_3 rfl rfl rfl ?_
  have loop5 : ∀ (nn : Nat) (k : Int) (h1 : Int64), (P 7 + 1 - k).toNat = nn → (0 ≤ k ∧ k ≤ P 7 + 1 ∧ h1 = y_nest (fun k h => y_mixn (fun w => m_cur P k w) 4 h) k.toNat h0) → z_A M_X4_mixCursors E 0 0 5 [some (zo o), some (zl h0), none, some (zl h1), none, some (zi k), none] [] (z_u mi (o + 73) G) (z_u mr (o + 73) f) (z_ql E (fun x m r => x = y_dg5 P h0 ∧ m = z_u mi (o + 73) G ∧ r = z_u mr (o + 73) f)) := by
    intro nn
    induction nn using Nat.strongRecOn with
    | _ nn ih5 =>
      intro k h1 hmeas hinv
      obtain ⟨ia0, ia1, hh1⟩ := hinv
      refine z_iload e_X4_mixCursors_5 rfl ?_
      refine z_aload_n e_X4_mixCursors_7 rfl ?_
      refine z_getr (fi := 0) (r := some (o + 1)) e_X4_mixCursors_8 f_RX4_12 to rfl rfl ((congrFun (z_un (by omega)) _).trans ro0) ?_
      refine z_geti (fi := 3) (x := (P 7)) e_X4_mixCursors_11 f_RX4_129 t0 rfl rfl ((congrFun ((z_un (by omega))) _).trans d3) ?_
      refine z_icmp_gt e_X4_mixCursors_14 ⟨by omega, by omega⟩ ⟨by omega, by omega⟩ (fun h14_1 => ?_) (fun h14_1 => ?_)
      · refine z_lload_n e_X4_mixCursors_51 rfl ?_
        refine z_lret e_X4_mixCursors_52 rfl rfl rfl ⟨rfl, _, rfl, ?_⟩
        refine ⟨?_, rfl, rfl⟩
        rw [hh1, show k = P 7 + 1 by omega]
        rfl
      · refine z_iconst e_X4_mixCursors_17 ?_
        refine z_istore (ls' := [some (zo o), some (zl h0), none, some (zl h1), none, some (zi k), some (zi 0)]) e_X4_mixCursors_18 rfl rfl rfl ?_
        have loop20 : ∀ (nn : Nat) (w : Int) (h2 : Int64), (4 - w).toNat = nn → (0 ≤ w ∧ w ≤ 4 ∧ h2 = y_mixn (fun w => m_cur P k w) w.toNat h1) → z_A M_X4_mixCursors E 0 0 20 [some (zo o), some (zl h0), none, some (zl h2), none, some (zi k), some (zi w)] [] (z_u mi (o + 73) G) (z_u mr (o + 73) f) (z_ql E (fun x m r => x = y_dg5 P h0 ∧ m = z_u mi (o + 73) G ∧ r = z_u mr (o + 73) f)) := by
          intro nn
          induction nn using Nat.strongRecOn with
          | _ nn ih20 =>
            intro w h2 hmeas hinv
            obtain ⟨ib0, ib1, hh2⟩ := hinv
            refine z_iload e_X4_mixCursors_20 rfl ?_
            refine z_iconst e_X4_mixCursors_22 ?_
            refine z_icmp_gt e_X4_mixCursors_23 ⟨by omega, by omega⟩ (by decide) (fun h23_2 => ?_) (fun h23_2 => ?_)
            · refine z_iinc (y := (k + 1)) (ls' := [some (zo o), some (zl h0), none, some (zl h2), none, some (zi (k + 1)), some (zi w)]) e_X4_mixCursors_45 rfl rfl rfl rfl rfl ?_
              refine z_goto e_X4_mixCursors_48 ?_
              refine z_fgt (ls' := [some (zo o), some (zl h0), none, some (zl h2), none, some (zi (k + 1)), none]) ⟨rfl, rfl, rfl, rfl, trivial⟩ ?_
              exact ih5 _ (by omega) (k + 1) h2 rfl (⟨by omega, by omega, by rw [y_nest_s _ (by omega), ← hh1, hh2, show w = 4 by omega]; rfl⟩)
            · refine z_lload_n e_X4_mixCursors_26 rfl ?_
              refine z_aload_n e_X4_mixCursors_27 rfl ?_
              refine z_iload e_X4_mixCursors_28 rfl ?_
              refine z_iload e_X4_mixCursors_30 rfl ?_
              refine z_callVi (M' := M_X4_cursor) (As := [zi k, zi w]) (rest := [zl h2]) e_X4_mixCursors_32 l_RX4_253 rfl rfl rfl rfl to ⟨_, _, rfl⟩ (c_X4_cursor (z_X_q hX) ⟨by omega, by omega⟩ ⟨by omega, by omega⟩) (fun xq mq rq hq => ?_)
              obtain ⟨e1q, e2q, e3q⟩ := hq
              subst xq mq rq
              refine z_callSl (M' := M_X4_mix) (As := [zl h2, zi (m_curA P k w)]) (rest := []) e_X4_mixCursors_35 l_RX4_213 rfl rfl rfl rfl (c_X4_mix) (fun xq mq rq hq => ?_)
              obtain ⟨e1q, e2q, e3q⟩ := hq
              subst xq mq rq
              refine z_lstore_n (ls' := [some (zo o), some (zl h0), none, some (zl (y_mix h2 (m_curA P k w))), none, some (zi k), some (zi w)]) e_X4_mixCursors_38 rfl rfl rfl ?_
              refine z_iinc (y := (w + 1)) (ls' := [some (zo o), some (zl h0), none, some (zl (y_mix h2 (m_curA P k w))), none, some (zi k), some (zi (w + 1))]) e_X4_mixCursors_39 rfl rfl rfl rfl rfl ?_
              refine z_goto e_X4_mixCursors_42 ?_
              exact ih20 _ (by omega) (w + 1) (y_mix h2 (m_curA P k w)) rfl (⟨by omega, by omega, by rw [y_mixn_s _ (by omega), ← hh2, m_curA_cur (by omega) (by omega) (by omega) (by omega) (by omega)]⟩)
        exact loop20 _ 0 h1 rfl (⟨by omega, by omega, rfl⟩)
  exact loop5 _ 0 h0 rfl (⟨by omega, by omega, rfl⟩)
