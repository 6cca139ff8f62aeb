section ZLC
variable {nm : String} {E : z_E} {o K b L : Nat} {xs : Nat → Int32} {m : z_Mi} {r : z_Mr} {i : Int} {Q : z_Q}
set_option maxHeartbeats 1000000 in
set_option maxRecDepth 100000 in
theorem w_resize (hJ : z_JJ E o m r) (hK : E.2.1 K = b) (hL : L ≤ 1536) (i0 : 0 ≤ i) (i3 : i + 3 ≤ (L : Int)) (k : ∀ (m2 : z_Mi) (r2 : z_Mr), z_JJ E o m2 r2 → z_A (M_W nm b L xs) E 650 14362 683 [some (zo K), some (zo 0), some (zo o), some (zi i)] [] m2 r2 Q) : z_A (M_W nm b L xs) E 650 14362 389 [some (zo K), some (zo 0), some (zo o), some (zi i)] [] m r Q := by
  obtain ⟨ho, ⟨nx, hX⟩, hMO, hb1, hb⟩ := id hJ
  have t0 := hX.1.1
  refine z_aload_n (z_Dl e_L_law_389) rfl ?_
  refine z_aload_n (z_Dl e_L_law_390) rfl ?_
  refine z_iload_n (z_Dl e_L_law_391) rfl ?_
  refine z_iconst (z_Dl e_L_law_392) ?_
  refine z_iadd (z_Dl e_L_law_393) ?_
  refine z_sld (z_Dl e_L_law_394) hK hL (by omega) (by omega) ?_
  refine z_aload_n (z_Dl e_L_law_395) rfl ?_
  refine z_iload_n (z_Dl e_L_law_396) rfl ?_
  refine z_iconst (z_Dl e_L_law_397) ?_
  refine z_iadd (z_Dl e_L_law_398) ?_
  refine z_sld (z_Dl e_L_law_399) hK hL (by omega) (by omega) ?_
  refine z_callVi (M' := M_X4_resize) (As := [zi (x_sc xs (i + 1)), zi (x_sc xs (i + 2))]) (rest := []) (z_Dl e_L_law_400) l_RL_60 rfl rfl rfl rfl t0 ⟨_, _, rfl⟩ (c_X4_resize hX x_sc_R x_sc_R (F := f_rs (m o 1) (m (o + 1)) (x_sc xs (i + 1)) (x_sc xs (i + 2))) (X := m (o + 2)) f_rs8 f_rs10 f_rs9) (fun x1 m1 r1 h1 => ?_)
  have h1 : z_rs E o m r (x_sc xs (i + 1)) (x_sc xs (i + 2)) x1 m1 r1 := h1
  have hf := f_rsz hJ h1
  refine z_aload_n (z_Dl e_L_law_403) rfl ?_
  refine z_aload_n (z_Dl e_L_law_404) rfl ?_
  refine z_iload_n (z_Dl e_L_law_405) rfl ?_
  refine z_iconst (z_Dl e_L_law_406) ?_
  refine z_iadd (z_Dl e_L_law_407) ?_
  refine z_sld (z_Dl e_L_law_408) hK hL (by omega) (by omega) ?_
  refine z_aload_n (z_Dl e_L_law_409) rfl ?_
  refine z_iload_n (z_Dl e_L_law_410) rfl ?_
  refine z_iconst (z_Dl e_L_law_411) ?_
  refine z_iadd (z_Dl e_L_law_412) ?_
  refine z_sld (z_Dl e_L_law_413) hK hL (by omega) (by omega) ?_
  refine z_callVi (M' := M_X5_resize) (As := [zi (x_sc xs (i + 1)), zi (x_sc xs (i + 2))]) (rest := [zi x1]) (z_Dl e_L_law_414) l_RL_63 rfl rfl rfl rfl hMO.1 ⟨_, _, rfl⟩ (d_L_resize hJ hf x_sc_R x_sc_R) (fun x2 m2 r2 h2 => ?_)
  obtain ⟨hx, hJ2⟩ := j_rs hJ h1 h2
  subst hx
  refine z_same (z_Jl e_L_law_417) ?_
  exact k m2 r2 hJ2
set_option maxHeartbeats 1000000 in
set_option maxRecDepth 100000 in
theorem law_loop (hQ : ∀ (E : z_E) (m : z_Mi) (r : z_Mr), Q (some (zi 1)) E m r) (hK : E.2.1 K = b) (hL : L ≤ 1536) : ∀ (nn : Nat) (i : Int) (m : z_Mi) (r : z_Mr), ((L : Int) - i).toNat ≤ nn → 0 ≤ i → i ≤ (L : Int) → z_JJ E o m r → z_A (M_W nm b L xs) E 650 14362 18 [some (zo K), some (zo 0), some (zo o), some (zi i)] [] m r Q := by
  intro nn
  induction nn with
  | zero =>
    intro i m r hn i0 i1 hJ
    refine z_iload_n (z_Dl e_L_law_18) rfl ?_
    refine z_aload_n (z_Dl e_L_law_19) rfl ?_
    refine z_slen (z_Dl e_L_law_20) hK ?_
    refine z_iconst (z_Dl e_L_law_21) ?_
    refine z_isub (z_Dl e_L_law_22) ?_
    refine z_icmp_gt (z_Jl e_L_law_23) ⟨by omega, by omega⟩ ⟨by omega, by omega⟩ (fun _ => ?_) (fun hq => absurd hq (by omega))
    refine z_iconst (z_Dl e_L_law_689) ?_
    exact z_iret (z_Dl e_L_law_690) (Or.inr ⟨rfl, Or.inr rfl⟩) rfl rfl (hQ _ _ _)
  | succ nn ih =>
    intro i m r hn i0 i1 hJ
    refine z_iload_n (z_Dl e_L_law_18) rfl ?_
    refine z_aload_n (z_Dl e_L_law_19) rfl ?_
    refine z_slen (z_Dl e_L_law_20) hK ?_
    refine z_iconst (z_Dl e_L_law_21) ?_
    refine z_isub (z_Dl e_L_law_22) ?_
    refine z_icmp_gt (z_Jl e_L_law_23) ⟨by omega, by omega⟩ ⟨by omega, by omega⟩ (fun _ => ?_) (fun hq => ?_)
    · refine z_iconst (z_Dl e_L_law_689) ?_
      exact z_iret (z_Dl e_L_law_690) (Or.inr ⟨rfl, Or.inr rfl⟩) rfl rfl (hQ _ _ _)
    have back : ∀ (m2 : z_Mi) (r2 : z_Mr), z_JJ E o m2 r2 → z_A (M_W nm b L xs) E 650 14362 683 [some (zo K), some (zo 0), some (zo o), some (zi i)] [] m2 r2 Q := by
      intro m2 r2 hJ2
      refine z_iinc (y := (i + 3)) (ls' := [some (zo K), some (zo 0), some (zo o), some (zi (i + 3))]) (z_Dl e_L_law_683) rfl rfl rfl rfl rfl ?_
      refine z_goto (z_Jl e_L_law_686) ?_
      exact ih (i + 3) m2 r2 (by omega) (by omega) (by omega) hJ2
    refine z_aload_n (z_Dl e_L_law_26) rfl ?_
    refine z_iload_n (z_Dl e_L_law_27) rfl ?_
    refine z_sld (z_Dl e_L_law_28) hK hL (by omega) (by omega) ?_
    refine z_bipush (z_Dl e_L_law_29) (by decide +kernel) ?_
    refine z_iand (z_Dl e_L_law_31) ?_
    have hyR : z_R ((z_I (x_sc xs i) &&& z_I 31).toInt) := by
      have h1 := Int32.le_toInt (z_I (x_sc xs i) &&& z_I 31)
      have h2 := Int32.toInt_lt (z_I (x_sc xs i) &&& z_I 31)
      constructor <;> omega
    generalize ((z_I (x_sc xs i) &&& z_I 31).toInt) = y at hyR ⊢
    by_cases hs : y < 0 ∨ 21 < y
    · refine z_tsOut (tgt := 683) (z_Dl e_L_law_32) hyR hs rfl ?_
      exact back m r hJ
    · rcases (show y = 0 ∨ y = 1 ∨ y = 2 ∨ y = 3 ∨ y = 4 ∨ y = 5 ∨ y = 6 ∨ y = 7 ∨ y = 8 ∨ y = 9 ∨ y = 10 ∨ y = 11 ∨ y = 12 ∨ y = 13 ∨ y = 14 ∨ y = 15 ∨ y = 16 ∨ y = 17 ∨ y = 18 ∨ y = 19 ∨ y = 20 ∨ y = 21 by omega) with hs | hs | hs | hs | hs | hs | hs | hs | hs | hs | hs | hs | hs | hs | hs | hs | hs | hs | hs | hs | hs | hs
      · refine z_tsIn (off := 104) (tgt := 136) (z_Dl e_L_law_32) hyR (by omega) (by omega) (by rw [hs]; rfl) rfl ?_
        exact w_feed hJ hK hL i0 (by omega) back
      · refine z_tsIn (off := 127) (tgt := 159) (z_Dl e_L_law_32) hyR (by omega) (by omega) (by rw [hs]; rfl) rfl ?_
        exact w_moveTo hJ hK hL i0 (by omega) back
      · refine z_tsIn (off := 160) (tgt := 192) (z_Dl e_L_law_32) hyR (by omega) (by omega) (by rw [hs]; rfl) rfl ?_
        exact w_setRegion hJ hK hL i0 (by omega) back
      · refine z_tsIn (off := 193) (tgt := 225) (z_Dl e_L_law_32) hyR (by omega) (by omega) (by rw [hs]; rfl) rfl ?_
        exact w_eraseLine hJ hK hL i0 (by omega) back
      · refine z_tsIn (off := 216) (tgt := 248) (z_Dl e_L_law_32) hyR (by omega) (by omega) (by rw [hs]; rfl) rfl ?_
        exact w_eraseScreen hJ hK hL i0 (by omega) back
      · refine z_tsIn (off := 239) (tgt := 271) (z_Dl e_L_law_32) hyR (by omega) (by omega) (by rw [hs]; rfl) rfl ?_
        exact w_insertRows hJ hK hL i0 (by omega) back
      · refine z_tsIn (off := 262) (tgt := 294) (z_Dl e_L_law_32) hyR (by omega) (by omega) (by rw [hs]; rfl) rfl ?_
        exact w_deleteRows hJ hK hL i0 (by omega) back
      · refine z_tsIn (off := 285) (tgt := 317) (z_Dl e_L_law_32) hyR (by omega) (by omega) (by rw [hs]; rfl) rfl ?_
        exact w_insertCells hJ hK hL i0 (by omega) back
      · refine z_tsIn (off := 308) (tgt := 340) (z_Dl e_L_law_32) hyR (by omega) (by omega) (by rw [hs]; rfl) rfl ?_
        exact w_deleteCells hJ hK hL i0 (by omega) back
      · refine z_tsIn (off := 331) (tgt := 363) (z_Dl e_L_law_32) hyR (by omega) (by omega) (by rw [hs]; rfl) rfl ?_
        exact w_keep hJ hK hL i0 (by omega) back
      · refine z_tsIn (off := 344) (tgt := 376) (z_Dl e_L_law_32) hyR (by omega) (by omega) (by rw [hs]; rfl) rfl ?_
        exact w_back hJ hK hL i0 (by omega) back
      · refine z_tsIn (off := 357) (tgt := 389) (z_Dl e_L_law_32) hyR (by omega) (by omega) (by rw [hs]; rfl) rfl ?_
        exact w_resize hJ hK hL i0 (by omega) back
      · refine z_tsIn (off := 390) (tgt := 422) (z_Dl e_L_law_32) hyR (by omega) (by omega) (by rw [hs]; rfl) rfl ?_
        exact w_cell hJ hK hL i0 (by omega) back
      · refine z_tsIn (off := 423) (tgt := 455) (z_Dl e_L_law_32) hyR (by omega) (by omega) (by rw [hs]; rfl) rfl ?_
        exact w_row hJ hK hL i0 (by omega) back
      · refine z_tsIn (off := 456) (tgt := 488) (z_Dl e_L_law_32) hyR (by omega) (by omega) (by rw [hs]; rfl) rfl ?_
        exact w_line hJ hK hL i0 (by omega) back
      · refine z_tsIn (off := 489) (tgt := 521) (z_Dl e_L_law_32) hyR (by omega) (by omega) (by rw [hs]; rfl) rfl ?_
        exact w_sign hJ hK hL i0 (by omega) back
      · refine z_tsIn (off := 522) (tgt := 554) (z_Dl e_L_law_32) hyR (by omega) (by omega) (by rw [hs]; rfl) rfl ?_
        exact w_cursor hJ hK hL i0 (by omega) back
      · refine z_tsIn (off := 555) (tgt := 587) (z_Dl e_L_law_32) hyR (by omega) (by omega) (by rw [hs]; rfl) rfl ?_
        exact w_ifWidth hJ hK hL i0 (by omega) back
      · refine z_tsIn (off := 578) (tgt := 610) (z_Dl e_L_law_32) hyR (by omega) (by omega) (by rw [hs]; rfl) rfl ?_
        exact w_widthFor hJ hK hL i0 (by omega) back
      · refine z_tsIn (off := 601) (tgt := 633) (z_Dl e_L_law_32) hyR (by omega) (by omega) (by rw [hs]; rfl) rfl ?_
        exact w_told hJ hK hL i0 (by omega) back
      · refine z_tsIn (off := 624) (tgt := 656) (z_Dl e_L_law_32) hyR (by omega) (by omega) (by rw [hs]; rfl) rfl ?_
        exact w_undo hJ hK hL i0 (by omega) back
      · refine z_tsIn (off := 637) (tgt := 669) (z_Dl e_L_law_32) hyR (by omega) (by omega) (by rw [hs]; rfl) rfl ?_
        exact w_digest hJ hK hL i0 (by omega) back
end ZLC
set_option maxHeartbeats 1000000 in
set_option maxRecDepth 100000 in
theorem law_begin {nm : String} {E : z_E} {b L : Nat} {xs : Nat → Int32} {mi : z_Mi} {mr : z_Mr} {Q : z_Q} (hQ : ∀ (E : z_E) (m : z_Mi) (r : z_Mr), Q (some (zi 1)) E m r) (hE : E.2.2.length = 0) (hK : E.2.1 650 = b) (hL : L ≤ 1536) : z_A (M_W nm b L xs) E 0 0 0 [some (zo 650), none, none, none] [] mi mr Q := by
  have hl0 : ∀ (E : z_E) (n : Nat) (al : Nat → Nat), (∀ i, i < n ∨ i = 650 → al i = E.2.1 i) → z_L al 0 [some (zo 650), none, none, none] = z_L E.2.1 0 [some (zo 650), none, none, none] := by
    intro E n al h
    show [(0, va_rf (some (al 650)))] = [(0, va_rf (some (E.2.1 650)))]
    rw [h 650 (Or.inr rfl)]
  have hl1 : ∀ (E : z_E) (n : Nat) (al : Nat → Nat), 0 < n → (∀ i, i < n ∨ i = 650 → al i = E.2.1 i) → z_L al 0 [some (zo 650), some (zo 0), none, none] = z_L E.2.1 0 [some (zo 650), some (zo 0), none, none] := by
    intro E n al hn h
    show [(0, va_rf (some (al 650))), (1, va_rf (some (al 0)))] = [(0, va_rf (some (E.2.1 650))), (1, va_rf (some (E.2.1 0)))]
    rw [h 650 (Or.inr rfl), h 0 (Or.inl hn)]
  refine z_newK (K := 650) (ci := 4) (z_Dl e_L_law_0) rfl (show Cond.classLink RL 7 RX4 ∈ z_WG from z_tab 9 (by decide +kernel) rfl) (z_tab 10 (by decide +kernel) rfl) (z_tab 1 (by decide +kernel) rfl) rfl trivial (hl0 _ _) (by omega) (fun q => ?_)
  have t1 : (z_E1 E q (4, 0)).2.2[0]? = some (4, 0) := z_E1_at hE
  have l1 : (z_E1 E q (4, 0)).2.2.length = 0 + 1 := by rw [z_E1_len, hE]
  have k1 : (z_E1 E q (4, 0)).2.1 650 = b := (z_un (by omega)).trans hK
  rw [hE]
  generalize z_E1 E q (4, 0) = E1 at t1 l1 k1 ⊢
  refine z_dup (z_Dl e_L_law_3) rfl ?_
  refine z_callL (K := 650) (M' := M_X4_init) (As := []) (rest := [zo 0]) (z_Dl e_L_law_4) l_RL_9 rfl rfl rfl rfl rfl (hl0 _ _) (by omega) ⟨by omega, trivial⟩ (c_X4_init t1 l1) (fun E2 m2 r2 hu2 hq => ?_)
  obtain ⟨hX, -⟩ := hq
  have l2 : E2.2.2.length = 642 := by rw [z_up_len hu2, l1]
  have hX : z_X (E2.1, z_u E2.2.1 650 (E1.2.1 650), E2.2.2) 0 m2 r2 p_new 0 0 := z_X_E (E := E2) rfl hX
  have k2 : ((E2.1, z_u E2.2.1 650 (E1.2.1 650), E2.2.2) : z_E).2.1 650 = b := by
    show z_u E2.2.1 650 (E1.2.1 650) 650 = b
    rw [z_us]; exact k1
  have l2 : ((E2.1, z_u E2.2.1 650 (E1.2.1 650), E2.2.2) : z_E).2.2.length = 642 := l2
  generalize ((E2.1, z_u E2.2.1 650 (E1.2.1 650), E2.2.2) : z_E) = E3 at hX k2 l2 ⊢
  refine z_astore_n (ls' := [some (zo 650), some (zo 0), none, none]) (z_Dl e_L_law_7) rfl rfl rfl ?_
  refine z_newK (K := 650) (ci := 5) (z_Dl e_L_law_8) rfl (show Cond.classLink RL 10 RX5 ∈ z_WG from z_tab 591 (by decide +kernel) rfl) (z_tab 592 (by decide +kernel) rfl) (z_tab 6 (by decide +kernel) rfl) rfl trivial (fun al h => hl1 _ _ al (by omega) h) (by omega) (fun q => ?_)
  have u4 := z_up_1 (z_up_r E3) q (5, 0)
  have t4 : (z_E1 E3 q (5, 0)).2.2[642]? = some (5, 0) := z_E1_at l2
  have l4 : (z_E1 E3 q (5, 0)).2.2.length = 642 + 1 := by rw [z_E1_len, l2]
  have k4 : (z_E1 E3 q (5, 0)).2.1 650 = b := (z_un (by omega)).trans k2
  rw [l2]
  generalize z_E1 E3 q (5, 0) = E4 at u4 t4 l4 k4 ⊢
  refine z_dup (z_Dl e_L_law_11) rfl ?_
  refine z_callL (K := 650) (M' := M_X5_init) (As := []) (rest := [zo 642]) (z_Dl e_L_law_12) l_RL_12 rfl rfl rfl rfl rfl (fun al h => hl1 _ _ al (by omega) h) (by omega) ⟨by omega, trivial⟩ (c_X5_init t4 l4 (z_us _ _ _)) (fun E5 m5 r5 hu5 hq => ?_)
  obtain ⟨hMO, f0, f1, f3, f4, f5, hfr⟩ := hq
  have hX5 : z_X E5 0 m5 r5 p_new 0 0 := z_X_up hX (z_up_t u4 hu5) (fun c c0 c1 => ⟨(hfr c (by omega)).1.trans (z_un (by omega)), (hfr c (by omega)).2.trans (z_un (by omega))⟩)
  have k5 : ((E5.1, z_u E5.2.1 650 (E4.2.1 650), E5.2.2) : z_E).2.1 650 = b := by
    show z_u E5.2.1 650 (E4.2.1 650) 650 = b
    rw [z_us]; exact k4
  have hJ : z_JJ (E5.1, z_u E5.2.1 650 (E4.2.1 650), E5.2.2) 642 m5 r5 := by
    refine ⟨Nat.le_refl _, ⟨0, ?_⟩, z_MO_E (E := E5) rfl hMO, ?_⟩
    · rw [f1, f0]; exact z_X_E (E := E5) rfl hX5
    · unfold z_Jb; rw [f0, f3, f4, f5]
      dsimp only; exact ⟨⟨by decide, by decide⟩, ⟨by decide, by decide⟩, fun _ => ⟨by decide, by decide⟩, fun _ => ⟨by decide, by decide⟩, fun _ => ⟨by decide, by decide⟩⟩
  generalize ((E5.1, z_u E5.2.1 650 (E4.2.1 650), E5.2.2) : z_E) = E6 at k5 hJ ⊢
  refine z_astore_n (ls' := [some (zo 650), some (zo 0), some (zo 642), none]) (z_Dl e_L_law_15) rfl rfl rfl ?_
  refine z_iconst (z_Dl e_L_law_16) ?_
  refine z_istore_n (ls' := [some (zo 650), some (zo 0), some (zo 642), some (zi 0)]) (z_Dl e_L_law_17) rfl rfl rfl ?_
  have ek : 0 + 1 + (z_mR M_X4_init).cells + 1 + (z_mR M_X5_init).cells = 650 := by decide
  have es : 0 + 5 + (z_mR M_X4_init).slots + 13 + (z_mR M_X5_init).slots = 14362 := by decide
  have hfin := law_loop (nm := nm) (xs := xs) hQ k5 hL _ 0 m5 r5 (Nat.le_refl _) (by omega) (by omega) hJ
  rw [← ek, ← es] at hfin
  exact hfin
