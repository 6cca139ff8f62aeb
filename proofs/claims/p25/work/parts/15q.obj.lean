set_option maxHeartbeats 1000000 in
set_option maxRecDepth 100000 in
theorem e_X4_widthFor {E : z_E} {mi : z_Mi} {mr : z_Mr} {o : Nat} {P G : Int → Int} {f : Int → Option Nat} {n nx : Int} {k : Int} (hX : z_X E o mi mr P n nx) (hz : z_R k) : z_mi M_X4_widthFor E [zo o, zi k] (z_u mi (o + 73) G) (z_u mr (o + 73) f) (fun x m r => x = (if 1 ≤ k ∧ k ≤ 40 then y_wf P k 17 4 else -1) ∧ ∃ (G' : Int → Int) (f' : Int → Option Nat), m = z_u mi (o + 73) G' ∧ r = z_u mr (o + 73) f') := by
  obtain ⟨⟨to, ta, tq, ro0, ro1, ro2, rok⟩, ⟨fo3, fo4, nb0, nb1, nb2, nb3⟩, hH, ⟨sg, hS⟩, hM⟩ := id hX
  obtain ⟨hc, hd, hr⟩ := id hS
  obtain ⟨t0, t1, t2, t3, t4, q0, q1, q2⟩ := id hc
  obtain ⟨d3, d4, d5, d6, d7, d8, u0, u1, u2, uk, uz⟩ := id hd
  obtain ⟨hw0, hw1, hh0, hh1, hf0, hf1, hf2, hr0, hr1, hc0, hc1, hp0, hp1, hk0, hk1, hi0, hi1, hkp, hP⟩ := id hH
  have hcnt := m_count_b hH
  refine z_ofi (ls := [some (zo o), some (zi k), none]) rfl (fun _ _ => trivial) ⟨rfl, rfl⟩ (Nat.le_of_ble_eq_true rfl) rfl ?_
  refine z_iload_n e_X4_widthFor_0 rfl ?_
  refine z_iconst e_X4_widthFor_1 ?_
  refine z_icmp_lt e_X4_widthFor_2 ⟨by omega, by omega⟩ (by decide) (fun h2_1 => ?_) (fun h2_1 => ?_)
  · refine z_iconst e_X4_widthFor_11 ?_
    refine z_iret e_X4_widthFor_12 (Or.inl rfl) rfl rfl ⟨rfl, _, rfl, ?_⟩
    exact ⟨(if_neg (by omega)).symm, G, f, rfl, rfl⟩
  · refine z_iload_n e_X4_widthFor_5 rfl ?_
    refine z_bipush e_X4_widthFor_6 (by decide +kernel) ?_
    refine z_icmp_le e_X4_widthFor_8 ⟨by omega, by omega⟩ (by decide) (fun h8_2 => ?_) (fun h8_2 => ?_)
    · refine z_iconst e_X4_widthFor_13 ?_
      refine z_istore_n (ls' := [some (zo o), some (zi k), some (zi 4)]) e_X4_widthFor_14 rfl rfl rfl ?_
      have loop15 : ∀ (nn : Nat) (c : Int) (G1 : Int → Int) (f1 : Int → Option Nat), (21 - c).toNat = nn → (4 ≤ c ∧ c ≤ 21 ∧ y_wf P k 17 4 = y_wf P k (21 - c).toNat c) → z_A M_X4_widthFor E 0 0 15 [some (zo o), some (zi k), some (zi c)] [] (z_u mi (o + 73) G1) (z_u mr (o + 73) f1) (z_qi E (fun x m r => x = (if 1 ≤ k ∧ k ≤ 40 then y_wf P k 17 4 else -1) ∧ ∃ (G' : Int → Int) (f' : Int → Option Nat), m = z_u mi (o + 73) G' ∧ r = z_u mr (o + 73) f')) := by
        intro nn
        induction nn using Nat.strongRecOn with
        | _ nn ih15 =>
          intro c G1 f1 hmeas hinv
          obtain ⟨ia0, ia1, hwf⟩ := hinv
          refine z_iload_n e_X4_widthFor_15 rfl ?_
          refine z_bipush e_X4_widthFor_16 (by decide +kernel) ?_
          refine z_icmp_gt e_X4_widthFor_18 ⟨by omega, by omega⟩ (by decide) (fun h18_3 => ?_) (fun h18_3 => ?_)
          · refine z_bipush e_X4_widthFor_45 (by decide +kernel) ?_
            refine z_iret e_X4_widthFor_47 (Or.inl rfl) rfl rfl ⟨rfl, _, rfl, ?_⟩
            refine ⟨?_, G1, f1, rfl, rfl⟩
            rw [if_pos (by omega), hwf, show (21 - c).toNat = 0 by omega]; rfl
          · refine z_aload_n e_X4_widthFor_21 rfl ?_
            refine z_getr (fi := 2) (r := some (o + 73)) e_X4_widthFor_22 f_RX4_23 to rfl rfl ((congrFun (z_un (by omega)) _).trans ro2) ?_
            refine z_aload_n e_X4_widthFor_25 rfl ?_
            refine z_getr (fi := 0) (r := some (o + 1)) e_X4_widthFor_26 f_RX4_12 to rfl rfl ((congrFun (z_un (by omega)) _).trans ro0) ?_
            refine z_iload_n e_X4_widthFor_29 rfl ?_
            refine z_callVi (M' := M_X1_rowsIn) (As := [zo (o + 1), zi c]) (rest := []) e_X4_widthFor_30 l_RX4_190 rfl rfl rfl rfl tq ⟨_, _, rfl⟩ (c_X1_rowsIn (w := c) tq ⟨hc, hd, hr⟩ hH (by omega) (by omega) (by omega)) (fun xp mq rq hq => ?_)
            obtain ⟨hxp, G9, f9, e2q, e3q⟩ := hq
            subst mq rq
            have hyb := y_bc_b (W := c) (n := m_count P) hH (m_count P).toNat (by omega)
            rw [y_bc_many c hH, ← hxp] at hyb
            refine z_iload_n e_X4_widthFor_33 rfl ?_
            refine z_icmp_gt e_X4_widthFor_34 ⟨by omega, by omega⟩ ⟨by omega, by omega⟩ (fun h34_4 => ?_) (fun h34_4 => ?_)
            · refine z_iinc (y := (c + 1)) (ls' := [some (zo o), some (zi k), some (zi (c + 1))]) e_X4_widthFor_39 rfl rfl rfl rfl rfl ?_
              refine z_goto e_X4_widthFor_42 ?_
              exact ih15 _ (by omega) (c + 1) G9 f9 rfl (⟨by omega, by omega, by rw [hwf, y_wf_s _ _ (by omega), if_neg (by omega)]⟩)
            · refine z_iload_n e_X4_widthFor_37 rfl ?_
              refine z_iret e_X4_widthFor_38 (Or.inl rfl) rfl rfl ⟨rfl, _, rfl, ?_⟩
              refine ⟨?_, G9, f9, rfl, rfl⟩
              rw [if_pos (by omega), hwf, y_wf_s _ _ (by omega), if_pos (by omega)]
      exact loop15 _ 4 G f rfl (⟨by omega, by omega, rfl⟩)
    · refine z_iconst e_X4_widthFor_11 ?_
      refine z_iret e_X4_widthFor_12 (Or.inl rfl) rfl rfl ⟨rfl, _, rfl, ?_⟩
      exact ⟨(if_neg (by omega)).symm, G, f, rfl, rfl⟩
theorem c_X4_widthFor {E : z_E} {mi : z_Mi} {mr : z_Mr} {o : Nat} {P : Int → Int} {n nx k : Int} (hX : z_X E o mi mr P n nx) (hz : z_R k) : z_mi M_X4_widthFor E [zo o, zi k] mi mr (fun x m r => x = (if 1 ≤ k ∧ k ≤ 40 then y_wf P k 17 4 else -1) ∧ ∃ (G' : Int → Int) (f' : Int → Option Nat), m = z_u mi (o + 73) G' ∧ r = z_u mr (o + 73) f') := by
  have h := e_X4_widthFor (G := mi (o + 73)) (f := mr (o + 73)) hX hz
  rw [z_uself, z_uself] at h
  exact h
