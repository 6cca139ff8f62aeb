set_option maxHeartbeats 1000000 in
set_option maxRecDepth 100000 in
theorem f_X3_screenRow {E : z_E} {mi : z_Mi} {mr : z_Mr} {s : Nat} {sg : Int → Nat} {P : Int → Int} {W n : Int} {R : Int → Int → Int} {k : Int} (hc : z_Sc E mr s) (hd : z_Sd mi s P) (hr : z_Sr E mi mr s sg W n R) (hW0 : 0 ≤ W) (hW : W ≤ 20) (hn : n ≤ 32) (h0 : 0 ≤ P 14 + k) (h1 : P 14 + k < 32) : z_mf M_X3_screenRow E [zo s, zi k] mi mr (fun x m r => x = sg (P 14 + k) ∧ m = mi ∧ r = mr) := by
  obtain ⟨t0, t1, t2, t3, t4, q0, q1, q2⟩ := id hc
  obtain ⟨d3, d4, d5, d6, d7, d8, u0, u1, u2, uk, uz⟩ := id hd
  refine z_ofr (ls := [some (zo s), some (zi k)]) rfl (fun _ _ => trivial) ⟨rfl, rfl⟩ (Nat.le_of_ble_eq_true rfl) rfl ?_
  refine z_aload_n e_X3_screenRow_0 rfl ?_
  refine z_aload_n e_X3_screenRow_1 rfl ?_
  refine z_geti (fi := 4) (x := (P 14)) e_X3_screenRow_2 f_RX3_32 t0 rfl rfl (d4) ?_
  refine z_iload_n e_X3_screenRow_5 rfl ?_
  refine z_iadd e_X3_screenRow_6 ?_
  refine z_callVr (M' := M_X3_rowAt) (As := [zi ((P 14) + k)]) (rest := []) e_X3_screenRow_7 l_RX3_56 rfl rfl rfl rfl t0 ⟨_, _, rfl⟩ (d_X3_rowAt hc hd hr hW0 hW hn (by omega) (by omega)) (fun xq mq rq hq => ?_)
  obtain ⟨e1q, e2q, e3q⟩ := hq
  subst xq mq rq
  refine z_aret e_X3_screenRow_10 ⟨_, rfl⟩ rfl rfl ⟨rfl, _, rfl, ?_⟩
  exact ⟨rfl, rfl, rfl⟩
set_option maxHeartbeats 1000000 in
set_option maxRecDepth 100000 in
theorem e_X3_openRows {E : z_E} {mi : z_Mi} {mr : z_Mr} {s : Nat} {sg : Int → Nat} {P : Int → Int} {n : Int} (hc : z_Sc E mr s) (hd : z_Sd mi s P) (hr : z_Sr E mi mr s sg (P 0) (P 14 + P 1) (p_rows P)) (hH : p_hd P) (hn1 : 1 ≤ n) (hn8 : n ≤ 8) (hrg : P 4 ≤ P 3) : z_mi M_X3_openRows E [zo s, zi n] mi mr (fun x m r => x = n_cnt (fun j => 0 < m_fill P (24 + (P 3 - j))) (m_many n P).toNat ∧ z_TR E s mi mr P (o_ins P (m_many n P)) m r) := by
  obtain ⟨t0, t1, t2, t3, t4, q0, q1, q2⟩ := id hc
  obtain ⟨d3, d4, d5, d6, d7, d8, u0, u1, u2, uk, uz⟩ := id hd
  obtain ⟨hw0, hw1, hh0, hh1, hf0, hf1, hf2, hr0, hr1, hc0, hc1, hp0, hp1, hk0, hk1, hi0, hi1, hkp, hP⟩ := id hH
  have hn : P 14 + P 1 ≤ 32 := by omega
  have hW0 : 0 ≤ P 0 := by omega
  have hW := hw1
  have hmm := m_many_b hn1 hrg
  refine z_ofi (ls := [some (zo s), some (zi n), none, none]) rfl (fun _ _ => trivial) ⟨rfl, rfl⟩ (Nat.le_of_ble_eq_true rfl) rfl ?_
  refine z_iconst e_X3_openRows_0 ?_
  refine z_istore_n (ls' := [some (zo s), some (zi n), some (zi 0), none]) e_X3_openRows_1 rfl rfl rfl ?_
  refine z_iconst e_X3_openRows_2 ?_
  refine z_istore_n (ls' := [some (zo s), some (zi n), some (zi 0), some (zi 0)]) e_X3_openRows_3 rfl rfl rfl ?_
  have loop4 : ∀ (nn : Nat) (k : Int) (lo : Int) (ml : z_Mi) (rl : z_Mr), (m_many n P - k).toNat = nn → (0 ≤ k ∧ k ≤ m_many n P ∧ lo = n_cnt (fun j => 0 < m_fill P (24 + (P 3 - j))) k.toNat ∧ z_TR E s mi mr P (o_ins P k) ml rl) → z_A M_X3_openRows E 0 0 4 [some (zo s), some (zi n), some (zi lo), some (zi k)] [] ml rl (z_qi E (fun x m r => x = n_cnt (fun j => 0 < m_fill P (24 + (P 3 - j))) (m_many n P).toNat ∧ z_TR E s mi mr P (o_ins P (m_many n P)) m r)) := by
    intro nn
    induction nn using Nat.strongRecOn with
    | _ nn ih4 =>
      intro k lo ml rl hmeas hinv
      obtain ⟨ia0, ia1, hlo, sg, hc, hd, hr, frl⟩ := hinv
      obtain ⟨t0, t1, t2, t3, t4, q0, q1, q2⟩ := id hc
      obtain ⟨d3, d4, d5, d6, d7, d8, u0, u1, u2, uk, uz⟩ := id hd
      refine z_iload_n e_X3_openRows_4 rfl ?_
      refine z_iload_n e_X3_openRows_5 rfl ?_
      refine z_icmp_ge e_X3_openRows_6 ⟨by omega, by omega⟩ ⟨by omega, by omega⟩ (fun h6_1 => ?_) (fun h6_1 => ?_)
      · refine z_iload_n e_X3_openRows_105 rfl ?_
        refine z_iret e_X3_openRows_106 (Or.inl rfl) rfl rfl ⟨rfl, _, rfl, ?_⟩
        have hk : k = m_many n P := by omega
        rw [hk] at hlo hr
        exact ⟨hlo, sg, hc, hd, hr, frl⟩
      · refine z_iload_n e_X3_openRows_9 rfl ?_
        refine z_aload_n e_X3_openRows_10 rfl ?_
        refine z_geti (fi := 8) (x := (P 3)) e_X3_openRows_11 f_RX3_44 t0 rfl rfl (d8) ?_
        refine z_aload_n e_X3_openRows_14 rfl ?_
        refine z_getr (fi := 1) (r := some (s + 2)) e_X3_openRows_15 f_RX3_20 t0 rfl rfl (q1) ?_
        refine z_geti (fi := 0) (x := (P 4)) e_X3_openRows_18 f_RX3_66 t2 rfl rfl (u0) ?_
        refine z_isub e_X3_openRows_21 ?_
        refine z_icmp_gt e_X3_openRows_22 ⟨by omega, by omega⟩ ⟨by omega, by omega⟩ (fun h22_2 => ?_) (fun h22_2 => ?_)
        · refine z_iload_n e_X3_openRows_105 rfl ?_
          refine z_iret e_X3_openRows_106 (Or.inl rfl) rfl rfl ⟨rfl, _, rfl, ?_⟩
          have hk : k = m_many n P := by omega
          rw [hk] at hlo hr
          exact ⟨hlo, sg, hc, hd, hr, frl⟩
        · refine z_iload_n e_X3_openRows_25 rfl ?_
          refine z_aload_n e_X3_openRows_26 rfl ?_
          refine z_aload_n e_X3_openRows_27 rfl ?_
          refine z_geti (fi := 8) (x := (P 3)) e_X3_openRows_28 f_RX3_44 t0 rfl rfl (d8) ?_
          refine z_callVr (M' := M_X3_screenRow) (As := [zi (P 3)]) (rest := [zi lo]) e_X3_openRows_31 l_RX3_76 rfl rfl rfl rfl t0 ⟨_, _, rfl⟩ (f_X3_screenRow hc hd hr hW0 hW hn (by omega) (by omega)) (fun xq mq rq hq => ?_)
          obtain ⟨e1q, e2q, e3q⟩ := hq
          subst xq mq rq
          refine z_callVi (M' := M_X2_isBlank) (As := []) (rest := [zi lo]) e_X3_openRows_34 l_RX3_124 rfl rfl rfl rfl (hr.1 (P 14 + (P 3)) (by omega) (by omega)).2.1.1 ⟨_, _, rfl⟩ (d_X2_isBlank (hr.1 (P 14 + (P 3)) (by omega) (by omega)).2.1 (hr.1 (P 14 + (P 3)) (by omega) (by omega)).2.2.2.2.1) (fun xb mq rq hq => ?_)
          obtain ⟨e1q, e2q, e3q⟩ := hq
          subst mq rq
          rw [c_fil_eq (hr.2.2 (P 14 + (P 3)) (by omega) (by omega)).1 (by omega) (by omega)] at e1q
          have hxb : xb = 0 ∨ xb = 1 := by rw [e1q]; split <;> omega
          have hob := o_ins_blank (P := P) (m := k) ia0 (by omega) hr0 hw1
          have join45_2 : ∀ (v : Int), v = (if 0 < m_fill P (24 + (P 3 - k)) then 1 else 0) → z_A M_X3_openRows E 0 0 45 [some (zo s), some (zi n), some (zi lo), some (zi k)] [zi v, zi lo] ml rl (z_qi E (fun x m r => x = n_cnt (fun j => 0 < m_fill P (24 + (P 3 - j))) (m_many n P).toNat ∧ z_TR E s mi mr P (o_ins P (m_many n P)) m r)) := by
            intro v hj
            have hv := hj
            have hvb : v = 0 ∨ v = 1 := by rw [hj]; split <;> omega
            refine z_iadd e_X3_openRows_45 ?_
            refine z_istore_n (ls' := [some (zo s), some (zi n), some (zi (lo + v)), some (zi k)]) e_X3_openRows_46 rfl rfl rfl ?_
            refine z_aload_n e_X3_openRows_47 rfl ?_
            refine z_aload_n e_X3_openRows_48 rfl ?_
            refine z_geti (fi := 4) (x := (P 14)) e_X3_openRows_49 f_RX3_32 t0 rfl rfl (d4) ?_
            refine z_aload_n e_X3_openRows_52 rfl ?_
            refine z_getr (fi := 1) (r := some (s + 2)) e_X3_openRows_53 f_RX3_20 t0 rfl rfl (q1) ?_
            refine z_geti (fi := 0) (x := (P 4)) e_X3_openRows_56 f_RX3_66 t2 rfl rfl (u0) ?_
            refine z_iadd e_X3_openRows_59 ?_
            refine z_callVv (M' := M_X3_unmarkAbove) (As := [zi ((P 14) + (P 4))]) (rest := []) e_X3_openRows_60 l_RX3_127 rfl rfl rfl rfl t0 ⟨_, _, rfl⟩ (d_X3_unmarkAbove hc hd hr hW0 hW hn (by omega) (by omega)) (fun m1 r1 hq => ?_)
            obtain ⟨sg, hc, hd, hr, hf1⟩ := hq
            obtain ⟨t0, t1, t2, t3, t4, q0, q1, q2⟩ := id hc
            obtain ⟨d3, d4, d5, d6, d7, d8, u0, u1, u2, uk, uz⟩ := id hd
            refine z_aload_n e_X3_openRows_63 rfl ?_
            refine z_aload_n e_X3_openRows_64 rfl ?_
            refine z_geti (fi := 4) (x := (P 14)) e_X3_openRows_65 f_RX3_32 t0 rfl rfl (d4) ?_
            refine z_aload_n e_X3_openRows_68 rfl ?_
            refine z_geti (fi := 8) (x := (P 3)) e_X3_openRows_69 f_RX3_44 t0 rfl rfl (d8) ?_
            refine z_iadd e_X3_openRows_72 ?_
            refine z_aload_n e_X3_openRows_73 rfl ?_
            refine z_geti (fi := 4) (x := (P 14)) e_X3_openRows_74 f_RX3_32 t0 rfl rfl (d4) ?_
            refine z_aload_n e_X3_openRows_77 rfl ?_
            refine z_getr (fi := 1) (r := some (s + 2)) e_X3_openRows_78 f_RX3_20 t0 rfl rfl (q1) ?_
            refine z_geti (fi := 0) (x := (P 4)) e_X3_openRows_81 f_RX3_66 t2 rfl rfl (u0) ?_
            refine z_iadd e_X3_openRows_84 ?_
            refine z_callVv (M' := M_X3_carryBlank) (As := [zi ((P 14) + (P 3)), zi ((P 14) + (P 4))]) (rest := []) e_X3_openRows_85 l_RX3_118 rfl rfl rfl rfl t0 ⟨_, _, rfl⟩ (d_X3_carryBlank hc hd hr hW0 hW (by omega) (by omega) (by omega) (by omega) hn (fun k k0 k1 kb => by unfold cy_i; split <;> (try split) <;> (try split) <;> omega)) (fun m2 r2 hq => ?_)
            obtain ⟨sg, hc, hd, hr, hf2⟩ := hq
            obtain ⟨t0, t1, t2, t3, t4, q0, q1, q2⟩ := id hc
            obtain ⟨d3, d4, d5, d6, d7, d8, u0, u1, u2, uk, uz⟩ := id hd
            refine z_aload_n e_X3_openRows_88 rfl ?_
            refine z_aload_n e_X3_openRows_89 rfl ?_
            refine z_geti (fi := 8) (x := (P 3)) e_X3_openRows_90 f_RX3_44 t0 rfl rfl (d8) ?_
            refine z_callVr (M' := M_X3_screenRow) (As := [zi (P 3)]) (rest := []) e_X3_openRows_93 l_RX3_76 rfl rfl rfl rfl t0 ⟨_, _, rfl⟩ (f_X3_screenRow hc hd hr hW0 hW hn (by omega) (by omega)) (fun xq mq rq hq => ?_)
            obtain ⟨e1q, e2q, e3q⟩ := hq
            subst xq mq rq
            refine z_callVv (M' := M_X2_unmark) (As := []) (rest := []) e_X3_openRows_96 l_RX3_115 rfl rfl rfl rfl (hr.1 (P 14 + (P 3)) (by omega) (by omega)).2.1.1 ⟨_, _, rfl⟩ (e_X2_unmark hc hd hr hW hn (k := (P 14 + (P 3))) (by omega) (by omega)) (fun m3 r3 hq => ?_)
            obtain ⟨sg, hc, hd, hr, hf3⟩ := hq
            obtain ⟨t0, t1, t2, t3, t4, q0, q1, q2⟩ := id hc
            obtain ⟨d3, d4, d5, d6, d7, d8, u0, u1, u2, uk, uz⟩ := id hd
            refine z_iinc (y := (k + 1)) (ls' := [some (zo s), some (zi n), some (zi (lo + v)), some (zi (k + 1))]) e_X3_openRows_99 rfl rfl rfl rfl rfl ?_
            refine z_goto e_X3_openRows_102 ?_
            exact ih4 _ (by omega) (k + 1) (lo + v) m3 r3 rfl (⟨by omega, by omega, by rw [n_cnt_s _ ia0, ← hlo, hv], sg, hc, hd, z_Sr_e hr hw1 (fun j _ _ c _ _ => o_ins_s ia0 (by omega)), z_Fr_t frl (z_Fr_t hf1 (z_Fr_t hf2 hf3))⟩)
          refine z_if_eq e_X3_openRows_37 ⟨by omega, by omega⟩ (fun h37_4 => ?_) (fun h37_4 => ?_)
          · refine z_iconst e_X3_openRows_44 ?_
            exact join45_2 1 ((if_pos (Classical.byContradiction (fun hno => by rw [if_pos (hob.2 hno)] at e1q; omega))).symm)
          · refine z_iconst e_X3_openRows_40 ?_
            refine z_goto e_X3_openRows_41 ?_
            exact join45_2 0 ((if_neg (hob.1 (Classical.byContradiction (fun hno => by rw [if_neg hno] at e1q; omega)))).symm)
  exact loop4 _ 0 0 mi mr rfl (⟨by omega, by omega, rfl, sg, hc, hd, z_Sr_e hr hw1 (fun k _ _ c _ _ => o_ins_0 P k c), z_Fr_r s mi mr⟩)
set_option maxHeartbeats 1000000 in
set_option maxRecDepth 100000 in
theorem e_X3_closeRows {E : z_E} {mi : z_Mi} {mr : z_Mr} {s : Nat} {sg : Int → Nat} {P : Int → Int} {n : Int} (hc : z_Sc E mr s) (hd : z_Sd mi s P) (hr : z_Sr E mi mr s sg (P 0) (P 14 + P 1) (p_rows P)) (hH : p_hd P) (hn1 : 1 ≤ n) (hn8 : n ≤ 8) (hrg : P 4 ≤ P 3) : z_mi M_X3_closeRows E [zo s, zi n] mi mr (fun x m r => x = n_cnt (fun j => 0 < m_fill P (24 + (P 4 + j))) (m_many n P).toNat ∧ z_TR E s mi mr P (o_del P (m_many n P)) m r) := by
  obtain ⟨t0, t1, t2, t3, t4, q0, q1, q2⟩ := id hc
  obtain ⟨d3, d4, d5, d6, d7, d8, u0, u1, u2, uk, uz⟩ := id hd
  obtain ⟨hw0, hw1, hh0, hh1, hf0, hf1, hf2, hr0, hr1, hc0, hc1, hp0, hp1, hk0, hk1, hi0, hi1, hkp, hP⟩ := id hH
  have hn : P 14 + P 1 ≤ 32 := by omega
  have hW0 : 0 ≤ P 0 := by omega
  have hW := hw1
  have hmm := m_many_b hn1 hrg
  refine z_ofi (ls := [some (zo s), some (zi n), none, none]) rfl (fun _ _ => trivial) ⟨rfl, rfl⟩ (Nat.le_of_ble_eq_true rfl) rfl ?_
  refine z_iconst e_X3_closeRows_0 ?_
  refine z_istore_n (ls' := [some (zo s), some (zi n), some (zi 0), none]) e_X3_closeRows_1 rfl rfl rfl ?_
  refine z_iconst e_X3_closeRows_2 ?_
  refine z_istore_n (ls' := [some (zo s), some (zi n), some (zi 0), some (zi 0)]) e_X3_closeRows_3 rfl rfl rfl ?_
  have loop4 : ∀ (nn : Nat) (k : Int) (lo : Int) (ml : z_Mi) (rl : z_Mr), (m_many n P - k).toNat = nn → (0 ≤ k ∧ k ≤ m_many n P ∧ lo = n_cnt (fun j => 0 < m_fill P (24 + (P 4 + j))) k.toNat ∧ z_TR E s mi mr P (o_del P k) ml rl) → z_A M_X3_closeRows E 0 0 4 [some (zo s), some (zi n), some (zi lo), some (zi k)] [] ml rl (z_qi E (fun x m r => x = n_cnt (fun j => 0 < m_fill P (24 + (P 4 + j))) (m_many n P).toNat ∧ z_TR E s mi mr P (o_del P (m_many n P)) m r)) := by
    intro nn
    induction nn using Nat.strongRecOn with
    | _ nn ih4 =>
      intro k lo ml rl hmeas hinv
      obtain ⟨ia0, ia1, hlo, sg, hc, hd, hr, frl⟩ := hinv
      obtain ⟨t0, t1, t2, t3, t4, q0, q1, q2⟩ := id hc
      obtain ⟨d3, d4, d5, d6, d7, d8, u0, u1, u2, uk, uz⟩ := id hd
      refine z_iload_n e_X3_closeRows_4 rfl ?_
      refine z_iload_n e_X3_closeRows_5 rfl ?_
      refine z_icmp_ge e_X3_closeRows_6 ⟨by omega, by omega⟩ ⟨by omega, by omega⟩ (fun h6_1 => ?_) (fun h6_1 => ?_)
      · refine z_iload_n e_X3_closeRows_67 rfl ?_
        refine z_iret e_X3_closeRows_68 (Or.inl rfl) rfl rfl ⟨rfl, _, rfl, ?_⟩
        have hk : k = m_many n P := by omega
        rw [hk] at hlo hr
        exact ⟨hlo, sg, hc, hd, hr, frl⟩
      · refine z_iload_n e_X3_closeRows_9 rfl ?_
        refine z_aload_n e_X3_closeRows_10 rfl ?_
        refine z_geti (fi := 8) (x := (P 3)) e_X3_closeRows_11 f_RX3_44 t0 rfl rfl (d8) ?_
        refine z_aload_n e_X3_closeRows_14 rfl ?_
        refine z_getr (fi := 1) (r := some (s + 2)) e_X3_closeRows_15 f_RX3_20 t0 rfl rfl (q1) ?_
        refine z_geti (fi := 0) (x := (P 4)) e_X3_closeRows_18 f_RX3_66 t2 rfl rfl (u0) ?_
        refine z_isub e_X3_closeRows_21 ?_
        refine z_icmp_gt e_X3_closeRows_22 ⟨by omega, by omega⟩ ⟨by omega, by omega⟩ (fun h22_2 => ?_) (fun h22_2 => ?_)
        · refine z_iload_n e_X3_closeRows_67 rfl ?_
          refine z_iret e_X3_closeRows_68 (Or.inl rfl) rfl rfl ⟨rfl, _, rfl, ?_⟩
          have hk : k = m_many n P := by omega
          rw [hk] at hlo hr
          exact ⟨hlo, sg, hc, hd, hr, frl⟩
        · refine z_iload_n e_X3_closeRows_25 rfl ?_
          refine z_aload_n e_X3_closeRows_26 rfl ?_
          refine z_aload_n e_X3_closeRows_27 rfl ?_
          refine z_getr (fi := 1) (r := some (s + 2)) e_X3_closeRows_28 f_RX3_20 t0 rfl rfl (q1) ?_
          refine z_geti (fi := 0) (x := (P 4)) e_X3_closeRows_31 f_RX3_66 t2 rfl rfl (u0) ?_
          refine z_callVr (M' := M_X3_screenRow) (As := [zi (P 4)]) (rest := [zi lo]) e_X3_closeRows_34 l_RX3_76 rfl rfl rfl rfl t0 ⟨_, _, rfl⟩ (f_X3_screenRow hc hd hr hW0 hW hn (by omega) (by omega)) (fun xq mq rq hq => ?_)
          obtain ⟨e1q, e2q, e3q⟩ := hq
          subst xq mq rq
          refine z_callVi (M' := M_X2_isBlank) (As := []) (rest := [zi lo]) e_X3_closeRows_37 l_RX3_124 rfl rfl rfl rfl (hr.1 (P 14 + (P 4)) (by omega) (by omega)).2.1.1 ⟨_, _, rfl⟩ (d_X2_isBlank (hr.1 (P 14 + (P 4)) (by omega) (by omega)).2.1 (hr.1 (P 14 + (P 4)) (by omega) (by omega)).2.2.2.2.1) (fun xb mq rq hq => ?_)
          obtain ⟨e1q, e2q, e3q⟩ := hq
          subst mq rq
          rw [c_fil_eq (hr.2.2 (P 14 + (P 4)) (by omega) (by omega)).1 (by omega) (by omega)] at e1q
          have hxb : xb = 0 ∨ xb = 1 := by rw [e1q]; split <;> omega
          have hob := o_del_blank (P := P) (m := k) ia0 (by omega) hr0 hw1
          have join48_2 : ∀ (v : Int), v = (if 0 < m_fill P (24 + (P 4 + k)) then 1 else 0) → z_A M_X3_closeRows E 0 0 48 [some (zo s), some (zi n), some (zi lo), some (zi k)] [zi v, zi lo] ml rl (z_qi E (fun x m r => x = n_cnt (fun j => 0 < m_fill P (24 + (P 4 + j))) (m_many n P).toNat ∧ z_TR E s mi mr P (o_del P (m_many n P)) m r)) := by
            intro v hj
            have hv := hj
            have hvb : v = 0 ∨ v = 1 := by rw [hj]; split <;> omega
            refine z_iadd e_X3_closeRows_48 ?_
            refine z_istore_n (ls' := [some (zo s), some (zi n), some (zi (lo + v)), some (zi k)]) e_X3_closeRows_49 rfl rfl rfl ?_
            refine z_aload_n e_X3_closeRows_50 rfl ?_
            refine z_aload_n e_X3_closeRows_51 rfl ?_
            refine z_getr (fi := 1) (r := some (s + 2)) e_X3_closeRows_52 f_RX3_20 t0 rfl rfl (q1) ?_
            refine z_geti (fi := 0) (x := (P 4)) e_X3_closeRows_55 f_RX3_66 t2 rfl rfl (u0) ?_
            refine z_callVv (M' := M_X3_takeRow) (As := [zi (P 4)]) (rest := []) e_X3_closeRows_58 l_RX3_111 rfl rfl rfl rfl t0 ⟨_, _, rfl⟩ (d_X3_takeRow hc hd hr hW0 hW hn (by omega) (by omega) (by omega)) (fun m1 r1 hq => ?_)
            obtain ⟨sg, hc, hd, hr, hf1⟩ := hq
            obtain ⟨t0, t1, t2, t3, t4, q0, q1, q2⟩ := id hc
            obtain ⟨d3, d4, d5, d6, d7, d8, u0, u1, u2, uk, uz⟩ := id hd
            refine z_iinc (y := (k + 1)) (ls' := [some (zo s), some (zi n), some (zi (lo + v)), some (zi (k + 1))]) e_X3_closeRows_61 rfl rfl rfl rfl rfl ?_
            refine z_goto e_X3_closeRows_64 ?_
            exact ih4 _ (by omega) (k + 1) (lo + v) m1 r1 rfl (⟨by omega, by omega, by rw [n_cnt_s _ ia0, ← hlo, hv], sg, hc, hd, z_Sr_e hr hw1 (fun j _ _ c _ _ => o_del_s ia0 (by omega)), z_Fr_t frl hf1⟩)
          refine z_if_eq e_X3_closeRows_40 ⟨by omega, by omega⟩ (fun h40_4 => ?_) (fun h40_4 => ?_)
          · refine z_iconst e_X3_closeRows_47 ?_
            exact join48_2 1 ((if_pos (Classical.byContradiction (fun hno => by rw [if_pos (hob.2 hno)] at e1q; omega))).symm)
          · refine z_iconst e_X3_closeRows_43 ?_
            refine z_goto e_X3_closeRows_44 ?_
            exact join48_2 0 ((if_neg (hob.1 (Classical.byContradiction (fun hno => by rw [if_neg hno] at e1q; omega)))).symm)
  exact loop4 _ 0 0 mi mr rfl (⟨by omega, by omega, rfl, sg, hc, hd, z_Sr_e hr hw1 (fun k _ _ c _ _ => o_del_0 P k c), z_Fr_r s mi mr⟩)
