set_option maxHeartbeats 1000000 in
set_option maxRecDepth 100000 in
theorem c_X4_resize {E : z_E} {mi : z_Mi} {mr : z_Mr} {o : Nat} {P : Int → Int} {n nx : Int} {w h : Int} (hX : z_X E o mi mr P n nx) (hz1 : z_R w) (hz2 : z_R h) {F X : Int → Int} (hf8 : F 8 = w) (hf10 : F 10 = 1) (hf9 : F 9 = y_base (p_rec n P) w h) : z_mi M_X4_resize E [zo o, zi w, zi h] mi mr (fun x m r => ((4 ≤ w ∧ w ≤ 20 ∧ 2 ≤ h ∧ h ≤ 8) → x = y_many (p_rec n P) w ∧ ∀ Q : Int → Int, g_pg (p_rec n P) Q w h (-(y_base (p_rec n P) w h)) (y_top (p_rec n P) w h - y_base (p_rec n P) w h) (y_bx (p_rec n P) w (m_count (p_rec n P)) F (y_fr X 704) (m_count (p_rec n P)).toNat).2 → p_hd Q → p_out (p_rec n P) Q → z_Z E o mi mr Q (n_rec n) m r) ∧ (¬ (4 ≤ w ∧ w ≤ 20 ∧ 2 ≤ h ∧ h ≤ 8) → x = -1 ∧ m = mi ∧ r = mr)) := by
  obtain ⟨⟨to, ta, tq, ro0, ro1, ro2, rok⟩, ⟨fo3, fo4, nb0, nb1, nb2, nb3⟩, hH, ⟨sg, hS⟩, hM⟩ := id hX
  obtain ⟨hc, hd, hr⟩ := id hS
  obtain ⟨t0, t1, t2, t3, t4, q0, q1, q2⟩ := id hc
  obtain ⟨d3, d4, d5, d6, d7, d8, u0, u1, u2, uk, uz⟩ := id hd
  obtain ⟨hw0, hw1, hh0, hh1, hf0, hf1, hf2, hr0, hr1, hc0, hc1, hp0, hp1, hk0, hk1, hi0, hi1, hkp, hP⟩ := id hH
  refine z_ofi (ls := [some (zo o), some (zi w), some (zi h), none]) rfl (fun _ _ => trivial) ⟨rfl, rfl⟩ (Nat.le_of_ble_eq_true rfl) rfl ?_
  refine z_iload_n e_X4_resize_0 rfl ?_
  refine z_callSi (M' := M_X4_isWidth) (As := [zi w]) (rest := []) e_X4_resize_1 l_RX4_138 rfl rfl rfl rfl (c_X4_isWidth hz1) (fun xq mq rq hq => ?_)
  obtain ⟨e1q, e2q, e3q⟩ := hq
  subst xq mq rq
  refine z_if_eqB e_X4_resize_4  (fun h4_1 => ?_) (fun h4_1 => ?_)
  · refine z_iconst e_X4_resize_18 ?_
    refine z_iret e_X4_resize_19 (Or.inl rfl) rfl rfl ⟨rfl, _, rfl, ?_⟩
    exact ⟨fun q => absurd q (by omega), fun _ => ⟨rfl, rfl, rfl⟩⟩
  · refine z_iload_n e_X4_resize_7 rfl ?_
    refine z_iconst e_X4_resize_8 ?_
    refine z_icmp_lt e_X4_resize_9 ⟨by omega, by omega⟩ (by decide) (fun h9_2 => ?_) (fun h9_2 => ?_)
    · refine z_iconst e_X4_resize_18 ?_
      refine z_iret e_X4_resize_19 (Or.inl rfl) rfl rfl ⟨rfl, _, rfl, ?_⟩
      exact ⟨fun q => absurd q (by omega), fun _ => ⟨rfl, rfl, rfl⟩⟩
    · refine z_iload_n e_X4_resize_12 rfl ?_
      refine z_bipush e_X4_resize_13 (by decide +kernel) ?_
      refine z_icmp_le e_X4_resize_15 ⟨by omega, by omega⟩ (by decide) (fun h15_3 => ?_) (fun h15_3 => ?_)
      · refine z_aload_n e_X4_resize_20 rfl ?_
        refine z_callVr (M' := M_X4_remember) (As := []) (rest := []) e_X4_resize_21 l_RX4_38 rfl rfl rfl rfl to ⟨_, _, rfl⟩ (c_X4_remember hX) (fun x1 m1 r1 hq => ?_)
        obtain ⟨hxr, hX, hSr, fx1⟩ := hq
        subst hxr
        generalize hn1 : (if n < 8 then n + 1 else 8) = n1 at hX
        generalize hnx1 : (nx + 1) % 8 = nx1 at hX
        have g1_0 : (p_rec n P) 0 = P 0 := p_rec_hd nb2 (by decide)
        have g1_1 : (p_rec n P) 1 = P 1 := p_rec_hd nb2 (by decide)
        have g1_2 : (p_rec n P) 2 = P 2 := p_rec_hd nb2 (by decide)
        have g1_3 : (p_rec n P) 3 = P 3 := p_rec_hd nb2 (by decide)
        have g1_4 : (p_rec n P) 4 = P 4 := p_rec_hd nb2 (by decide)
        have g1_5 : (p_rec n P) 5 = P 5 := p_rec_hd nb2 (by decide)
        have g1_6 : (p_rec n P) 6 = P 6 := p_rec_hd nb2 (by decide)
        have g1_7 : (p_rec n P) 7 = P 7 := p_rec_hd nb2 (by decide)
        have g1_14 : (p_rec n P) 14 = P 14 := p_rec_hd nb2 (by decide)
        generalize hP1 : p_rec n P = P1 at hX hSr g1_0 g1_1 g1_2 g1_3 g1_4 g1_5 g1_6 g1_7 g1_14
        obtain ⟨⟨to, ta, tq, ro0, ro1, ro2, rok⟩, ⟨fo3, fo4, nb0, nb1, nb2, nb3⟩, hH, ⟨sg, hS⟩, hM⟩ := id hX
        obtain ⟨hc, hd, hr⟩ := id hS
        obtain ⟨t0, t1, t2, t3, t4, q0, q1, q2⟩ := id hc
        obtain ⟨d3, d4, d5, d6, d7, d8, u0, u1, u2, uk, uz⟩ := id hd
        obtain ⟨hw0, hw1, hh0, hh1, hf0, hf1, hf2, hr0, hr1, hc0, hc1, hp0, hp1, hk0, hk1, hi0, hi1, hkp, hP⟩ := id hH
        refine z_astore_n (ls' := [some (zo o), some (zi w), some (zi h), some (zo (o + 74 + 71 * (nx).toNat))]) e_X4_resize_24 rfl rfl rfl ?_
        rw [hP1] at hf9
        obtain ⟨sgr, hSr⟩ := hSr
        have hp := c_X1_pour (f := r1 (o + 73)) (G := m1 (o + 73)) (F := F) (X := X) (w := w) (h := h) tq hc hd hr hSr hH (by omega) (by omega) (by omega) (by omega) (by omega) (by omega) (by omega) hf8 hf10 hf9
        rw [z_uself, z_uself] at hp
        refine z_aload_n e_X4_resize_25 rfl ?_
        refine z_getr (fi := 2) (r := some (o + 73)) e_X4_resize_26 f_RX4_23 to rfl rfl (ro2) ?_
        refine z_aload_n e_X4_resize_29 rfl ?_
        refine z_aload_n e_X4_resize_30 rfl ?_
        refine z_getr (fi := 0) (r := some (o + 1)) e_X4_resize_31 f_RX4_12 to rfl rfl (ro0) ?_
        refine z_iload_n e_X4_resize_34 rfl ?_
        refine z_iload_n e_X4_resize_35 rfl ?_
        refine z_callVi (M' := M_X1_pour) (As := [zo (o + 74 + 71 * (nx).toNat), zo (o + 1), zi w, zi h]) (rest := []) e_X4_resize_36 l_RX4_141 rfl rfl rfl rfl tq ⟨_, _, rfl⟩ (hp) (fun xp mq rq hq => ?_)
        obtain ⟨hxp, G9, f9, mk, e2q, e3q, hall⟩ := hq
        subst mq rq
        refine z_iret e_X4_resize_39 (Or.inl rfl) rfl rfl ⟨rfl, _, rfl, ?_⟩
        refine ⟨fun _ => ⟨hxp, fun Q hQ hQh hQo => ?_⟩, fun q => absurd (by omega) q⟩
        have hT := hall Q hQ
        have hnr : n_rec n = n1 := hn1
        rw [hnr]
        exact ⟨⟨nx1, z_X_q (z_X_T hX hT hQh hQo)⟩, z_Xf_t fx1 (z_Xf_t (z_Xf_T (o := o) hT (by omega)) z_Xf_q)⟩
      · refine z_iconst e_X4_resize_18 ?_
        refine z_iret e_X4_resize_19 (Or.inl rfl) rfl rfl ⟨rfl, _, rfl, ?_⟩
        exact ⟨fun q => absurd q (by omega), fun _ => ⟨rfl, rfl, rfl⟩⟩
