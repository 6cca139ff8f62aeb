set_option maxHeartbeats 1000000 in
set_option maxRecDepth 100000 in
theorem c_X5_eraseScreen {E : z_E} {mi : z_Mi} {mr : z_Mr} {o : Nat} {P F : Int → Int} {kind : Int} (hM : z_MO E mr o) (hH : p_hd P) (hF1 : 0 ≤ F 1) (hF2 : F 1 ≤ 8) (hz : z_R kind) : z_mi M_X5_eraseScreen E [zo o, zi kind] (z_u (z_u mi o F) (o + 1) P) mr (fun x m r => ((0 ≤ kind ∧ kind ≤ 2) → x = m_fillA (p_rec (F 1) P) - m_fillA (p_escr kind (p_rec (F 1) P)) ∧ m = z_u (z_u mi o (f_rec F)) (o + 1) (p_escr kind (p_rec (F 1) P))) ∧ (¬ ((0 ≤ kind ∧ kind ≤ 2)) → x = -1 ∧ m = z_u (z_u mi o F) (o + 1) P) ∧ r = mr) := by
  obtain ⟨t0, t1, t2, t3, t4, t5, t6, t7, q0, q2, q3, q4, q5, q6, q7⟩ := id hM
  obtain ⟨hw0, hw1, hh0, hh1, hf0, hf1, hf2, hr0, hr1, hc0, hc1, hp0, hp1, hk0, hk1, hi0, hi1, hkp, hP⟩ := id hH
  refine z_ofi (ls := [some (zo o), some (zi kind), none, none, none]) rfl (fun _ _ => trivial) ⟨rfl, rfl⟩ (Nat.le_of_ble_eq_true rfl) rfl ?_
  refine z_iload_n e_X5_eraseScreen_0 rfl ?_
  refine z_iconst e_X5_eraseScreen_1 ?_
  refine z_iconst e_X5_eraseScreen_2 ?_
  refine z_callSi (M' := M_X5_in) (As := [zi kind, zi 0, zi 2]) (rest := []) e_X5_eraseScreen_3 l_RX5_47 rfl rfl rfl rfl (c_X5_in ⟨by omega, by omega⟩ ⟨by omega, by omega⟩ ⟨by omega, by omega⟩) (fun xq mq rq hq => ?_)
  obtain ⟨e1q, e2q, e3q⟩ := hq
  subst xq mq rq
  refine z_if_neB e_X5_eraseScreen_6  (fun h6_1 => ?_) (fun h6_1 => ?_)
  · refine z_aload_n e_X5_eraseScreen_11 rfl ?_
    refine z_callVv (M' := M_X5_records) (As := []) (rest := []) e_X5_eraseScreen_12 l_RX5_96 rfl rfl rfl rfl t0 ⟨_, _, rfl⟩ (c_X5_records hM (by omega) (by omega)) (fun mq rq hq => ?_)
    obtain ⟨e2q, e3q⟩ := hq
    subst mq rq
    generalize hgP1 : (p_rec (F 1) P) = P1
    have hd1 : p_hd P1 := by rw [← hgP1]; exact p_hd_rec hH hF1
    have e1 : ∀ k, k < 719 → P1 k = P k := by intro k hk; rw [← hgP1]; exact p_rec_hd hF1 hk
    have e1_0 : P1 0 = P 0 := e1 0 (by decide)
    have e1_1 : P1 1 = P 1 := e1 1 (by decide)
    have e1_2 : P1 2 = P 2 := e1 2 (by decide)
    have e1_3 : P1 3 = P 3 := e1 3 (by decide)
    have e1_4 : P1 4 = P 4 := e1 4 (by decide)
    have e1_5 : P1 5 = P 5 := e1 5 (by decide)
    have e1_7 : P1 7 = P 7 := e1 7 (by decide)
    have e1_14 : P1 14 = P 14 := e1 14 (by decide)
    clear hw0 hw1 hh0 hh1 hf0 hf1 hf2 hr0 hr1 hc0 hc1 hp0 hp1 hk0 hk1 hi0 hi1 hkp
    obtain ⟨hw0, hw1, hh0, hh1, hf0, hf1, hf2, hr0, hr1, hc0, hc1, hp0, hp1, hk0, hk1, hi0, hi1, hkp, hP1⟩ := id hd1
    refine z_aload_n e_X5_eraseScreen_15 rfl ?_
    refine z_callVi (M' := M_X5_filledAll) (As := []) (rest := []) e_X5_eraseScreen_16 l_RX5_114 rfl rfl rfl rfl t0 ⟨_, _, rfl⟩ (c_X5_filledAll hM hd1) (fun xq mq rq hq => ?_)
    obtain ⟨e1q, e2q, e3q⟩ := hq
    subst xq mq rq
    refine z_istore_n (ls' := [some (zo o), some (zi kind), some (zi (m_fillA P1)), none, none]) e_X5_eraseScreen_19 rfl rfl rfl ?_
    refine z_aload_n e_X5_eraseScreen_20 rfl ?_
    refine z_iload_n e_X5_eraseScreen_21 rfl ?_
    refine z_callVv (M' := M_X5_erasesLine) (As := [zi kind]) (rest := []) e_X5_eraseScreen_22 l_RX5_118 rfl rfl rfl rfl t0 ⟨_, _, rfl⟩ (c_X5_erasesLine hM hd1 ⟨by omega, by omega⟩) (fun mq rq hq => ?_)
    obtain ⟨e2q, e3q⟩ := hq
    subst mq rq
    refine z_iconst e_X5_eraseScreen_25 ?_
    refine z_istore_n (ls' := [some (zo o), some (zi kind), some (zi (m_fillA P1)), some (zi 0), none]) e_X5_eraseScreen_26 rfl rfl rfl ?_
    have loop27 : ∀ (nn : Nat) (k : Int) (P2 : Int → Int), (P1 1 - k).toNat = nn → (0 ≤ k ∧ k ≤ P1 1 ∧ P2 = n_it (p_esc kind (P1 0) (P1 4)) k.toNat (p_eline kind P1)) → z_A M_X5_eraseScreen E 0 0 27 [some (zo o), some (zi kind), some (zi (m_fillA P1)), some (zi k), none] [] (z_u (z_u mi o (f_rec F)) (o + 1) P2) mr (z_qi E (fun x m r => ((0 ≤ kind ∧ kind ≤ 2) → x = m_fillA P1 - m_fillA (p_escr kind P1) ∧ m = z_u (z_u mi o (f_rec F)) (o + 1) (p_escr kind P1)) ∧ (¬ ((0 ≤ kind ∧ kind ≤ 2)) → x = -1 ∧ m = z_u (z_u mi o F) (o + 1) P) ∧ r = mr)) := by
      intro nn
      induction nn using Nat.strongRecOn with
      | _ nn ih =>
        intro k P2 hmeas hinv
        obtain ⟨hl0, hl1, hP2a⟩ := hinv
        have hx := p_hd_escn (kind := kind) (W := P1 0) (row := P1 4) k.toNat (p_hd_eline (kind := kind) hd1)
        rw [← hP2a] at hx
        have hd2 := hx.1
        have e20 : P2 0 = P1 0 := by rw [hx.2 0 (by decide)]; exact p_eline_hd hd1 (by decide) (by decide)
        have e21 : P2 1 = P1 1 := by rw [hx.2 1 (by decide)]; exact p_eline_hd hd1 (by decide) (by decide)
        have e24 : P2 4 = P1 4 := by rw [hx.2 4 (by decide)]; exact p_eline_hd hd1 (by decide) (by decide)
        clear hw0 hw1 hh0 hh1 hf0 hf1 hf2 hr0 hr1 hc0 hc1 hp0 hp1 hk0 hk1 hi0 hi1 hkp
        obtain ⟨hw0, hw1, hh0, hh1, hf0, hf1, hf2, hr0, hr1, hc0, hc1, hp0, hp1, hk0, hk1, hi0, hi1, hkp, hP2⟩ := id hd2
        refine z_iload_n e_X5_eraseScreen_27 rfl ?_
        refine z_aload_n e_X5_eraseScreen_28 rfl ?_
        refine z_getr (fi := 0) (r := some (o + 1)) e_X5_eraseScreen_29 f_RX5_7 t0 rfl rfl (q0) ?_
        refine z_iconst e_X5_eraseScreen_32 ?_
        refine z_iald (x := (P2 1)) e_X5_eraseScreen_33 t1 (by decide) (by decide) (by decide) (congrFun (z_us _ _ _) _) ?_
        refine z_icmp_ge e_X5_eraseScreen_34 ⟨by omega, by omega⟩ ⟨by omega, by omega⟩ (fun h34_2 => ?_) (fun h34_2 => ?_)
        · refine z_iload_n e_X5_eraseScreen_103 rfl ?_
          refine z_aload_n e_X5_eraseScreen_104 rfl ?_
          refine z_callVi (M' := M_X5_filledAll) (As := []) (rest := [zi (m_fillA P1)]) e_X5_eraseScreen_105 l_RX5_114 rfl rfl rfl rfl t0 ⟨_, _, rfl⟩ (c_X5_filledAll hM hd2) (fun xq mq rq hq => ?_)
          obtain ⟨e1q, e2q, e3q⟩ := hq
          subst xq mq rq
          refine z_isub e_X5_eraseScreen_108 ?_
          refine z_iret e_X5_eraseScreen_109 (Or.inl rfl) rfl rfl ⟨rfl, _, rfl, ?_⟩
          refine ⟨fun hb => ⟨?_, ?_⟩, fun hb => absurd (by omega) hb, rfl⟩
          · rw [hP2a, show k = P1 1 by omega]; rfl
          · rw [hP2a, show k = P1 1 by omega]; rfl
        · refine z_iload_n e_X5_eraseScreen_37 rfl ?_
          refine z_iconst e_X5_eraseScreen_38 ?_
          refine z_icmp_eq e_X5_eraseScreen_39 ⟨by omega, by omega⟩ (by decide) (fun h39_3 => ?_) (fun h39_3 => ?_)
          · refine z_iconst e_X5_eraseScreen_71 ?_
            refine z_goto e_X5_eraseScreen_72 ?_
            refine z_istore (ls' := [some (zo o), some (zi kind), some (zi (m_fillA P1)), some (zi k), some (zi 1)]) e_X5_eraseScreen_76 rfl rfl rfl ?_
            refine z_iload e_X5_eraseScreen_78 rfl ?_
            refine z_if_eq e_X5_eraseScreen_80 (by decide) (fun hq => absurd hq (by decide)) (fun _ => ?_)
            refine z_aload_n e_X5_eraseScreen_83 rfl ?_
            refine z_iload_n e_X5_eraseScreen_84 rfl ?_
            refine z_iconst e_X5_eraseScreen_85 ?_
            refine z_aload_n e_X5_eraseScreen_86 rfl ?_
            refine z_getr (fi := 0) (r := some (o + 1)) e_X5_eraseScreen_87 f_RX5_7 t0 rfl rfl (q0) ?_
            refine z_iconst e_X5_eraseScreen_90 ?_
            refine z_iald (x := (P1 0)) e_X5_eraseScreen_91 t1 (by decide) (by decide) (by decide) ((congrFun (z_us _ _ _) _).trans e20) ?_
            refine z_iconst e_X5_eraseScreen_92 ?_
            refine z_isub e_X5_eraseScreen_93 ?_
            refine z_callVv (M' := M_X5_erases) (As := [zi k, zi 0, zi ((P1 0) - 1)]) (rest := []) e_X5_eraseScreen_94 l_RX5_93 rfl rfl rfl rfl t0 ⟨_, _, rfl⟩ (c_X5_erases hM (by omega) (by omega) (by omega) (by omega) (by omega) (by omega) (by omega) hP2) (fun mq rq hq => ?_)
            obtain ⟨e2q, e3q⟩ := hq
            subst mq rq
            refine z_iinc (y := (k + 1)) (ls' := [some (zo o), some (zi kind), some (zi (m_fillA P1)), some (zi (k + 1)), some (zi 1)]) e_X5_eraseScreen_97 rfl rfl rfl rfl rfl ?_
            refine z_goto e_X5_eraseScreen_100 ?_
            refine z_fgt (ls' := [some (zo o), some (zi kind), some (zi (m_fillA P1)), some (zi (k + 1)), none]) ⟨rfl, rfl, rfl, rfl, trivial⟩ ?_
            exact ih _ (by omega) (k + 1) (p_erases P2 k 0 (P1 0 - 1)) rfl (⟨by omega, by omega, by rw [n_it_s _ _ hl0, ← hP2a, p_esc_pos (by first | exact Or.inl (by omega) | exact Or.inr (Or.inl ⟨by omega, by omega⟩) | exact Or.inr (Or.inr ⟨by omega, by omega⟩))]⟩)
          · refine z_iload_n e_X5_eraseScreen_42 rfl ?_
            refine z_if_ne e_X5_eraseScreen_43 ⟨by omega, by omega⟩ (fun h43_4 => ?_) (fun h43_4 => ?_)
            · refine z_iload_n e_X5_eraseScreen_56 rfl ?_
              refine z_iconst e_X5_eraseScreen_57 ?_
              refine z_icmp_ne e_X5_eraseScreen_58 ⟨by omega, by omega⟩ (by decide) (fun h58_5 => ?_) (fun h58_5 => ?_)
              · refine z_iconst e_X5_eraseScreen_75 ?_
                refine z_istore (ls' := [some (zo o), some (zi kind), some (zi (m_fillA P1)), some (zi k), some (zi 0)]) e_X5_eraseScreen_76 rfl rfl rfl ?_
                refine z_iload e_X5_eraseScreen_78 rfl ?_
                refine z_if_eq e_X5_eraseScreen_80 (by decide) (fun _ => ?_) (fun hq => absurd hq (by decide))
                refine z_iinc (y := (k + 1)) (ls' := [some (zo o), some (zi kind), some (zi (m_fillA P1)), some (zi (k + 1)), some (zi 0)]) e_X5_eraseScreen_97 rfl rfl rfl rfl rfl ?_
                refine z_goto e_X5_eraseScreen_100 ?_
                refine z_fgt (ls' := [some (zo o), some (zi kind), some (zi (m_fillA P1)), some (zi (k + 1)), none]) ⟨rfl, rfl, rfl, rfl, trivial⟩ ?_
                exact ih _ (by omega) (k + 1) P2 rfl (⟨by omega, by omega, by rw [n_it_s _ _ hl0, ← hP2a, p_esc_neg (by rintro (h9 | ⟨h9, h8⟩ | ⟨h9, h8⟩) <;> omega)]⟩)
              · refine z_iload_n e_X5_eraseScreen_61 rfl ?_
                refine z_aload_n e_X5_eraseScreen_62 rfl ?_
                refine z_getr (fi := 0) (r := some (o + 1)) e_X5_eraseScreen_63 f_RX5_7 t0 rfl rfl (q0) ?_
                refine z_iconst e_X5_eraseScreen_66 ?_
                refine z_iald (x := (P2 4)) e_X5_eraseScreen_67 t1 (by decide) (by decide) (by decide) (congrFun (z_us _ _ _) _) ?_
                refine z_icmp_ge e_X5_eraseScreen_68 ⟨by omega, by omega⟩ ⟨by omega, by omega⟩ (fun h68_6 => ?_) (fun h68_6 => ?_)
                · refine z_iconst e_X5_eraseScreen_75 ?_
                  refine z_istore (ls' := [some (zo o), some (zi kind), some (zi (m_fillA P1)), some (zi k), some (zi 0)]) e_X5_eraseScreen_76 rfl rfl rfl ?_
                  refine z_iload e_X5_eraseScreen_78 rfl ?_
                  refine z_if_eq e_X5_eraseScreen_80 (by decide) (fun _ => ?_) (fun hq => absurd hq (by decide))
                  refine z_iinc (y := (k + 1)) (ls' := [some (zo o), some (zi kind), some (zi (m_fillA P1)), some (zi (k + 1)), some (zi 0)]) e_X5_eraseScreen_97 rfl rfl rfl rfl rfl ?_
                  refine z_goto e_X5_eraseScreen_100 ?_
                  refine z_fgt (ls' := [some (zo o), some (zi kind), some (zi (m_fillA P1)), some (zi (k + 1)), none]) ⟨rfl, rfl, rfl, rfl, trivial⟩ ?_
                  exact ih _ (by omega) (k + 1) P2 rfl (⟨by omega, by omega, by rw [n_it_s _ _ hl0, ← hP2a, p_esc_neg (by rintro (h9 | ⟨h9, h8⟩ | ⟨h9, h8⟩) <;> omega)]⟩)
                · refine z_iconst e_X5_eraseScreen_71 ?_
                  refine z_goto e_X5_eraseScreen_72 ?_
                  refine z_istore (ls' := [some (zo o), some (zi kind), some (zi (m_fillA P1)), some (zi k), some (zi 1)]) e_X5_eraseScreen_76 rfl rfl rfl ?_
                  refine z_iload e_X5_eraseScreen_78 rfl ?_
                  refine z_if_eq e_X5_eraseScreen_80 (by decide) (fun hq => absurd hq (by decide)) (fun _ => ?_)
                  refine z_aload_n e_X5_eraseScreen_83 rfl ?_
                  refine z_iload_n e_X5_eraseScreen_84 rfl ?_
                  refine z_iconst e_X5_eraseScreen_85 ?_
                  refine z_aload_n e_X5_eraseScreen_86 rfl ?_
                  refine z_getr (fi := 0) (r := some (o + 1)) e_X5_eraseScreen_87 f_RX5_7 t0 rfl rfl (q0) ?_
                  refine z_iconst e_X5_eraseScreen_90 ?_
                  refine z_iald (x := (P1 0)) e_X5_eraseScreen_91 t1 (by decide) (by decide) (by decide) ((congrFun (z_us _ _ _) _).trans e20) ?_
                  refine z_iconst e_X5_eraseScreen_92 ?_
                  refine z_isub e_X5_eraseScreen_93 ?_
                  refine z_callVv (M' := M_X5_erases) (As := [zi k, zi 0, zi ((P1 0) - 1)]) (rest := []) e_X5_eraseScreen_94 l_RX5_93 rfl rfl rfl rfl t0 ⟨_, _, rfl⟩ (c_X5_erases hM (by omega) (by omega) (by omega) (by omega) (by omega) (by omega) (by omega) hP2) (fun mq rq hq => ?_)
                  obtain ⟨e2q, e3q⟩ := hq
                  subst mq rq
                  refine z_iinc (y := (k + 1)) (ls' := [some (zo o), some (zi kind), some (zi (m_fillA P1)), some (zi (k + 1)), some (zi 1)]) e_X5_eraseScreen_97 rfl rfl rfl rfl rfl ?_
                  refine z_goto e_X5_eraseScreen_100 ?_
                  refine z_fgt (ls' := [some (zo o), some (zi kind), some (zi (m_fillA P1)), some (zi (k + 1)), none]) ⟨rfl, rfl, rfl, rfl, trivial⟩ ?_
                  exact ih _ (by omega) (k + 1) (p_erases P2 k 0 (P1 0 - 1)) rfl (⟨by omega, by omega, by rw [n_it_s _ _ hl0, ← hP2a, p_esc_pos (by first | exact Or.inl (by omega) | exact Or.inr (Or.inl ⟨by omega, by omega⟩) | exact Or.inr (Or.inr ⟨by omega, by omega⟩))]⟩)
            · refine z_iload_n e_X5_eraseScreen_46 rfl ?_
              refine z_aload_n e_X5_eraseScreen_47 rfl ?_
              refine z_getr (fi := 0) (r := some (o + 1)) e_X5_eraseScreen_48 f_RX5_7 t0 rfl rfl (q0) ?_
              refine z_iconst e_X5_eraseScreen_51 ?_
              refine z_iald (x := (P2 4)) e_X5_eraseScreen_52 t1 (by decide) (by decide) (by decide) (congrFun (z_us _ _ _) _) ?_
              refine z_icmp_gt e_X5_eraseScreen_53 ⟨by omega, by omega⟩ ⟨by omega, by omega⟩ (fun h53_7 => ?_) (fun h53_7 => ?_)
              · refine z_iconst e_X5_eraseScreen_71 ?_
                refine z_goto e_X5_eraseScreen_72 ?_
                refine z_istore (ls' := [some (zo o), some (zi kind), some (zi (m_fillA P1)), some (zi k), some (zi 1)]) e_X5_eraseScreen_76 rfl rfl rfl ?_
                refine z_iload e_X5_eraseScreen_78 rfl ?_
                refine z_if_eq e_X5_eraseScreen_80 (by decide) (fun hq => absurd hq (by decide)) (fun _ => ?_)
                refine z_aload_n e_X5_eraseScreen_83 rfl ?_
                refine z_iload_n e_X5_eraseScreen_84 rfl ?_
                refine z_iconst e_X5_eraseScreen_85 ?_
                refine z_aload_n e_X5_eraseScreen_86 rfl ?_
                refine z_getr (fi := 0) (r := some (o + 1)) e_X5_eraseScreen_87 f_RX5_7 t0 rfl rfl (q0) ?_
                refine z_iconst e_X5_eraseScreen_90 ?_
                refine z_iald (x := (P1 0)) e_X5_eraseScreen_91 t1 (by decide) (by decide) (by decide) ((congrFun (z_us _ _ _) _).trans e20) ?_
                refine z_iconst e_X5_eraseScreen_92 ?_
                refine z_isub e_X5_eraseScreen_93 ?_
                refine z_callVv (M' := M_X5_erases) (As := [zi k, zi 0, zi ((P1 0) - 1)]) (rest := []) e_X5_eraseScreen_94 l_RX5_93 rfl rfl rfl rfl t0 ⟨_, _, rfl⟩ (c_X5_erases hM (by omega) (by omega) (by omega) (by omega) (by omega) (by omega) (by omega) hP2) (fun mq rq hq => ?_)
                obtain ⟨e2q, e3q⟩ := hq
                subst mq rq
                refine z_iinc (y := (k + 1)) (ls' := [some (zo o), some (zi kind), some (zi (m_fillA P1)), some (zi (k + 1)), some (zi 1)]) e_X5_eraseScreen_97 rfl rfl rfl rfl rfl ?_
                refine z_goto e_X5_eraseScreen_100 ?_
                refine z_fgt (ls' := [some (zo o), some (zi kind), some (zi (m_fillA P1)), some (zi (k + 1)), none]) ⟨rfl, rfl, rfl, rfl, trivial⟩ ?_
                exact ih _ (by omega) (k + 1) (p_erases P2 k 0 (P1 0 - 1)) rfl (⟨by omega, by omega, by rw [n_it_s _ _ hl0, ← hP2a, p_esc_pos (by first | exact Or.inl (by omega) | exact Or.inr (Or.inl ⟨by omega, by omega⟩) | exact Or.inr (Or.inr ⟨by omega, by omega⟩))]⟩)
              · refine z_iload_n e_X5_eraseScreen_56 rfl ?_
                refine z_iconst e_X5_eraseScreen_57 ?_
                refine z_icmp_ne e_X5_eraseScreen_58 ⟨by omega, by omega⟩ (by decide) (fun h58_8 => ?_) (fun h58_8 => ?_)
                · refine z_iconst e_X5_eraseScreen_75 ?_
                  refine z_istore (ls' := [some (zo o), some (zi kind), some (zi (m_fillA P1)), some (zi k), some (zi 0)]) e_X5_eraseScreen_76 rfl rfl rfl ?_
                  refine z_iload e_X5_eraseScreen_78 rfl ?_
                  refine z_if_eq e_X5_eraseScreen_80 (by decide) (fun _ => ?_) (fun hq => absurd hq (by decide))
                  refine z_iinc (y := (k + 1)) (ls' := [some (zo o), some (zi kind), some (zi (m_fillA P1)), some (zi (k + 1)), some (zi 0)]) e_X5_eraseScreen_97 rfl rfl rfl rfl rfl ?_
                  refine z_goto e_X5_eraseScreen_100 ?_
                  refine z_fgt (ls' := [some (zo o), some (zi kind), some (zi (m_fillA P1)), some (zi (k + 1)), none]) ⟨rfl, rfl, rfl, rfl, trivial⟩ ?_
                  exact ih _ (by omega) (k + 1) P2 rfl (⟨by omega, by omega, by rw [n_it_s _ _ hl0, ← hP2a, p_esc_neg (by rintro (h9 | ⟨h9, h8⟩ | ⟨h9, h8⟩) <;> omega)]⟩)
                · refine z_iload_n e_X5_eraseScreen_61 rfl ?_
                  refine z_aload_n e_X5_eraseScreen_62 rfl ?_
                  refine z_getr (fi := 0) (r := some (o + 1)) e_X5_eraseScreen_63 f_RX5_7 t0 rfl rfl (q0) ?_
                  refine z_iconst e_X5_eraseScreen_66 ?_
                  refine z_iald (x := (P2 4)) e_X5_eraseScreen_67 t1 (by decide) (by decide) (by decide) (congrFun (z_us _ _ _) _) ?_
                  refine z_icmp_ge e_X5_eraseScreen_68 ⟨by omega, by omega⟩ ⟨by omega, by omega⟩ (fun h68_9 => ?_) (fun h68_9 => ?_)
                  · refine z_iconst e_X5_eraseScreen_75 ?_
                    refine z_istore (ls' := [some (zo o), some (zi kind), some (zi (m_fillA P1)), some (zi k), some (zi 0)]) e_X5_eraseScreen_76 rfl rfl rfl ?_
                    refine z_iload e_X5_eraseScreen_78 rfl ?_
                    refine z_if_eq e_X5_eraseScreen_80 (by decide) (fun _ => ?_) (fun hq => absurd hq (by decide))
                    refine z_iinc (y := (k + 1)) (ls' := [some (zo o), some (zi kind), some (zi (m_fillA P1)), some (zi (k + 1)), some (zi 0)]) e_X5_eraseScreen_97 rfl rfl rfl rfl rfl ?_
                    refine z_goto e_X5_eraseScreen_100 ?_
                    refine z_fgt (ls' := [some (zo o), some (zi kind), some (zi (m_fillA P1)), some (zi (k + 1)), none]) ⟨rfl, rfl, rfl, rfl, trivial⟩ ?_
                    exact ih _ (by omega) (k + 1) P2 rfl (⟨by omega, by omega, by rw [n_it_s _ _ hl0, ← hP2a, p_esc_neg (by rintro (h9 | ⟨h9, h8⟩ | ⟨h9, h8⟩) <;> omega)]⟩)
                  · refine z_iconst e_X5_eraseScreen_71 ?_
                    refine z_goto e_X5_eraseScreen_72 ?_
                    refine z_istore (ls' := [some (zo o), some (zi kind), some (zi (m_fillA P1)), some (zi k), some (zi 1)]) e_X5_eraseScreen_76 rfl rfl rfl ?_
                    refine z_iload e_X5_eraseScreen_78 rfl ?_
                    refine z_if_eq e_X5_eraseScreen_80 (by decide) (fun hq => absurd hq (by decide)) (fun _ => ?_)
                    refine z_aload_n e_X5_eraseScreen_83 rfl ?_
                    refine z_iload_n e_X5_eraseScreen_84 rfl ?_
                    refine z_iconst e_X5_eraseScreen_85 ?_
                    refine z_aload_n e_X5_eraseScreen_86 rfl ?_
                    refine z_getr (fi := 0) (r := some (o + 1)) e_X5_eraseScreen_87 f_RX5_7 t0 rfl rfl (q0) ?_
                    refine z_iconst e_X5_eraseScreen_90 ?_
                    refine z_iald (x := (P1 0)) e_X5_eraseScreen_91 t1 (by decide) (by decide) (by decide) ((congrFun (z_us _ _ _) _).trans e20) ?_
                    refine z_iconst e_X5_eraseScreen_92 ?_
                    refine z_isub e_X5_eraseScreen_93 ?_
                    refine z_callVv (M' := M_X5_erases) (As := [zi k, zi 0, zi ((P1 0) - 1)]) (rest := []) e_X5_eraseScreen_94 l_RX5_93 rfl rfl rfl rfl t0 ⟨_, _, rfl⟩ (c_X5_erases hM (by omega) (by omega) (by omega) (by omega) (by omega) (by omega) (by omega) hP2) (fun mq rq hq => ?_)
                    obtain ⟨e2q, e3q⟩ := hq
                    subst mq rq
                    refine z_iinc (y := (k + 1)) (ls' := [some (zo o), some (zi kind), some (zi (m_fillA P1)), some (zi (k + 1)), some (zi 1)]) e_X5_eraseScreen_97 rfl rfl rfl rfl rfl ?_
                    refine z_goto e_X5_eraseScreen_100 ?_
                    refine z_fgt (ls' := [some (zo o), some (zi kind), some (zi (m_fillA P1)), some (zi (k + 1)), none]) ⟨rfl, rfl, rfl, rfl, trivial⟩ ?_
                    exact ih _ (by omega) (k + 1) (p_erases P2 k 0 (P1 0 - 1)) rfl (⟨by omega, by omega, by rw [n_it_s _ _ hl0, ← hP2a, p_esc_pos (by first | exact Or.inl (by omega) | exact Or.inr (Or.inl ⟨by omega, by omega⟩) | exact Or.inr (Or.inr ⟨by omega, by omega⟩))]⟩)
    exact loop27 _ 0 (p_eline kind P1) rfl (⟨by omega, by omega, rfl⟩)
  · refine z_iconst e_X5_eraseScreen_9 ?_
    refine z_iret e_X5_eraseScreen_10 (Or.inl rfl) rfl rfl ⟨rfl, _, rfl, ?_⟩
    exact ⟨fun hb => absurd hb (by omega), fun _ => ⟨rfl, rfl⟩, rfl⟩
