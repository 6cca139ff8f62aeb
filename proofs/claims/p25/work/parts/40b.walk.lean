section ZLC
variable {nm : String} {E : z_E} {K b L : Nat} {xs : Nat → Int32} {Q : z_Q}
set_option maxHeartbeats 1000000 in
set_option maxRecDepth 100000 in
theorem law_end (hQ : ∀ (E : z_E) (m : z_Mi) (r : z_Mr), Q (some (zi 1)) E m r) (hK : E.2.1 K = b) (hL : L ≤ 1536) {m : z_Mi} {r : z_Mr} {i j : Int} (ha : z_ac E 0 m r) : z_A (M_W nm b L xs) E 642 7154 89 [some (zo K), some (zo 0), some (zi 1), some (zi j), some (zi i)] [] m r Q := by
  obtain ⟨P, n, nx, hX, hG⟩ := ha
  have t0 := hX.1.1
  refine z_iload_n (z_Dl e_L_law_89) rfl ?_
  refine z_if_eq (z_Jl e_L_law_90) (by decide) (fun hq => absurd hq (by decide)) (fun _ => ?_)
  refine z_aload_n (z_Dl e_L_law_93) rfl ?_
  refine z_callSi (M' := M_L_whole) (As := [zo 0]) (rest := []) (z_Dl e_L_law_94) l_RL_95 rfl rfl rfl rfl (c_L_whole hX hG) (fun x1 m1 r1 h1 => ?_)
  obtain ⟨e1, hX⟩ := h1
  subst e1
  refine z_if_eq (z_Jl e_L_law_97) (by decide) (fun hq => absurd hq (by decide)) (fun _ => ?_)
  refine z_aload_n (z_Dl e_L_law_100) rfl ?_
  refine z_aload_n (z_Dl e_L_law_101) rfl ?_
  refine z_bipush (z_Dl e_L_law_102) (by decide +kernel) ?_
  refine z_callX (M' := M_sc b L xs) (As := [zo K, zi 75]) (rest := [zo 0]) (z_Dl e_L_law_104) l_RL_102 rfl rfl rfl rfl z_W_scr (c_L_cell hK hL (by decide) (by decide)) (fun x2 m2 r2 h2 => ?_)
  obtain ⟨⟨c0, c1⟩, rfl, rfl⟩ := h2
  refine z_callSi (M' := M_L_pours) (As := [zo 0, zi x2]) (rest := []) (z_Dl e_L_law_107) l_RL_109 rfl rfl rfl rfl (c_L_pours hX hG c0 c1) (fun x3 m3 r3 h3 => ?_)
  obtain ⟨e3, P3, n3, nx3, hX3, hG3⟩ := h3
  subst e3
  refine z_if_eq (z_Jl e_L_law_110) (by decide) (fun hq => absurd hq (by decide)) (fun _ => ?_)
  refine z_aload_n (z_Dl e_L_law_113) rfl ?_
  refine z_bipush (z_Dl e_L_law_114) (by decide +kernel) ?_
  refine z_callVi (M' := M_X4_feed) (As := [zi 7]) (rest := []) (z_Dl e_L_law_116) l_RL_15 rfl rfl rfl rfl hX3.1.1 ⟨_, _, rfl⟩ (c_X4_feed hX3 ⟨by decide, by decide⟩) (fun x4 m4 r4 h4 => ?_)
  obtain ⟨e4, -, -⟩ := h4.2 (by decide)
  subst e4
  refine z_iconst (z_Dl e_L_law_119) ?_
  refine z_samene (z_Jl e_L_law_120) ?_
  refine z_iconst (z_Dl e_L_law_123) ?_
  refine z_goto (z_Jl e_L_law_124) ?_
  exact z_iret (z_Dl e_L_law_128) (Or.inr ⟨rfl, Or.inr rfl⟩) rfl rfl (hQ _ _ _)
set_option maxHeartbeats 1000000 in
set_option maxRecDepth 100000 in
theorem law_loop (hQ : ∀ (E : z_E) (m : z_Mi) (r : z_Mr), Q (some (zi 1)) E m r) (hK : E.2.1 K = b) (hL : L ≤ 1536) {j : Int} (hj : j ≤ 69) (hj0 : 0 ≤ j) : ∀ (nn : Nat) (i : Int) (m : z_Mi) (r : z_Mr), (j - i).toNat ≤ nn → 0 ≤ i → i ≤ j → z_ac E 0 m r → z_A (M_W nm b L xs) E 642 7154 56 [some (zo K), some (zo 0), some (zi 1), some (zi j), some (zi i)] [] m r Q := by
  intro nn
  induction nn with
  | zero =>
    intro i m r hn i0 i1 ha
    refine z_iload (z_Dl e_L_law_56) rfl ?_
    refine z_iload_n (z_Dl e_L_law_58) rfl ?_
    refine z_icmp_ge (z_Jl e_L_law_59) ⟨by omega, by omega⟩ ⟨by omega, by omega⟩ (fun _ => ?_) (fun hq => absurd hq (by omega))
    exact law_end hQ hK hL ha
  | succ nn ih =>
    intro i m r hn i0 i1 ha
    refine z_iload (z_Dl e_L_law_56) rfl ?_
    refine z_iload_n (z_Dl e_L_law_58) rfl ?_
    refine z_icmp_ge (z_Jl e_L_law_59) ⟨by omega, by omega⟩ ⟨by omega, by omega⟩ (fun _ => ?_) (fun hq => ?_)
    · exact law_end hQ hK hL ha
    obtain ⟨P, n, nx, hX, hG⟩ := ha
    refine z_iload_n (z_Dl e_L_law_62) rfl ?_
    refine z_if_eq (z_Jl e_L_law_63) (by decide) (fun hq => absurd hq (by decide)) (fun _ => ?_)
    refine z_aload_n (z_Dl e_L_law_66) rfl ?_
    refine z_aload_n (z_Dl e_L_law_67) rfl ?_
    refine z_iconst (z_Dl e_L_law_68) ?_
    refine z_iload (z_Dl e_L_law_69) rfl ?_
    refine z_iadd (z_Dl e_L_law_71) ?_
    refine z_callX (M' := M_sc b L xs) (As := [zo K, zi (3 + i)]) (rest := [zo 0]) (z_Dl e_L_law_72) l_RL_102 rfl rfl rfl rfl z_W_scr (c_L_cell hK hL (by omega) (by omega)) (fun x2 m2 r2 h2 => ?_)
    obtain ⟨⟨c0, c1⟩, rfl, rfl⟩ := h2
    refine z_callSv (M' := M_L_acts) (As := [zo 0, zi x2]) (rest := []) (z_Dl e_L_law_75) l_RL_105 rfl rfl rfl rfl (c_L_acts hX hG c0 c1) (fun m3 r3 h3 => ?_)
    obtain ⟨P3, n3, nx3, hX3, hG3⟩ := h3
    refine z_aload_n (z_Dl e_L_law_78) rfl ?_
    refine z_callSi (M' := M_L_cells) (As := [zo 0]) (rest := []) (z_Dl e_L_law_79) l_RL_74 rfl rfl rfl rfl (c_L_cells hX3 hG3) (fun x4 m4 r4 h4 => ?_)
    obtain ⟨rfl, rfl, rfl⟩ := h4
    refine z_istore_n (ls' := [some (zo K), some (zo 0), some (zi 1), some (zi j), some (zi i)]) (z_Dl e_L_law_82) rfl rfl rfl ?_
    refine z_iinc (y := (i + 1)) (ls' := [some (zo K), some (zo 0), some (zi 1), some (zi j), some (zi (i + 1))]) (z_Dl e_L_law_83) rfl rfl rfl rfl rfl ?_
    refine z_goto (z_Jl e_L_law_86) ?_
    exact ih (i + 1) _ _ (by omega) (by omega) (by omega) ⟨P3, n3, nx3, hX3, hG3⟩
end ZLC
set_option maxHeartbeats 1000000 in
set_option maxRecDepth 100000 in
theorem law_begin {nm : String} {E : z_E} {b L : Nat} {xs : Nat → Int32} {mi : z_Mi} {mr : z_Mr} {Q : z_Q} (hQ : ∀ (E : z_E) (m : z_Mi) (r : z_Mr), Q (some (zi 1)) E m r) (hE : E.2.2.length = 0) (hK : E.2.1 650 = b) (hL : L ≤ 1536) : z_A (M_W nm b L xs) E 0 0 0 [some (zo 650), none, none, none, none] [] mi mr Q := by
  have hl0 : ∀ (E : z_E) (n : Nat) (al : Nat → Nat), (∀ i, i < n ∨ i = 650 → al i = E.2.1 i) → z_L al 0 [some (zo 650), none, none, none, none] = z_L E.2.1 0 [some (zo 650), none, none, none, none] := by
    intro E n al h
    show [(0, va_rf (some (al 650)))] = [(0, va_rf (some (E.2.1 650)))]
    rw [h 650 (Or.inr rfl)]
  refine z_newK (K := 650) (ci := 4) (z_Dl e_L_law_0) rfl (show Cond.classLink RL 10 RX4 ∈ z_WG from z_tab 8 (by decide +kernel) rfl) (z_tab 9 (by decide +kernel) rfl) (z_tab 1 (by decide +kernel) rfl) rfl trivial (hl0 _ _) (by omega) (fun q => ?_)
  have t1 : (z_E1 E q (4, 0)).2.2[0]? = some (4, 0) := z_E1_at hE
  have l1 : (z_E1 E q (4, 0)).2.2.length = 0 + 1 := by rw [z_E1_len, hE]
  have k1 : (z_E1 E q (4, 0)).2.1 650 = b := (z_un (by omega)).trans hK
  rw [hE]
  generalize z_E1 E q (4, 0) = E1 at t1 l1 k1 ⊢
  refine z_dup (z_Dl e_L_law_3) rfl ?_
  refine z_callL (K := 650) (M' := M_X4_init) (As := []) (rest := [zo 0]) (z_Dl e_L_law_4) l_RL_101 rfl rfl rfl rfl rfl (hl0 _ _) (by omega) ⟨by omega, trivial⟩ (c_X4_init t1 l1) (fun E2 m2 r2 hu2 hq => ?_)
  obtain ⟨hX, -⟩ := hq
  have hX : z_X (E2.1, z_u E2.2.1 650 (E1.2.1 650), E2.2.2) 0 m2 r2 p_new 0 0 := z_X_E (E := E2) rfl hX
  have k2 : ((E2.1, z_u E2.2.1 650 (E1.2.1 650), E2.2.2) : z_E).2.1 650 = b := by
    show z_u E2.2.1 650 (E1.2.1 650) 650 = b
    rw [z_us]; exact k1
  generalize ((E2.1, z_u E2.2.1 650 (E1.2.1 650), E2.2.2) : z_E) = E3 at hX k2 ⊢
  have ek : 0 + 1 + (z_mR M_X4_init).cells = 642 := by decide
  have es : 0 + 5 + (z_mR M_X4_init).slots = 7154 := by decide
  rw [ek, es]
  refine z_astore_n (ls' := [some (zo 650), some (zo 0), none, none, none]) (z_Dl e_L_law_7) rfl rfl rfl ?_
  refine z_aload_n (z_Dl e_L_law_8) rfl ?_
  refine z_iconst (z_Dl e_L_law_9) ?_
  refine z_aload_n (z_Dl e_L_law_10) rfl ?_
  refine z_iconst (z_Dl e_L_law_11) ?_
  refine z_callX (M' := M_sc b L xs) (As := [zo 650, zi 0]) (rest := [zi 4, zo 0]) (z_Dl e_L_law_12) l_RL_102 rfl rfl rfl rfl z_W_scr (c_L_cell k2 hL (by decide) (by decide)) (fun x0 m3 r3 h3 => ?_)
  obtain ⟨⟨c0, c1⟩, rfl, rfl⟩ := h3
  refine z_bipush (z_Dl e_L_law_15) (by decide +kernel) ?_
  refine z_irem (z_Dl e_L_law_17) c0 (by decide) c1 ⟨by decide, by decide⟩ ?_
  refine z_iadd (z_Dl e_L_law_18) ?_
  refine z_iconst (z_Dl e_L_law_19) ?_
  refine z_aload_n (z_Dl e_L_law_20) rfl ?_
  refine z_iconst (z_Dl e_L_law_21) ?_
  refine z_callX (M' := M_sc b L xs) (As := [zo 650, zi 1]) (rest := [zi 2, zi (4 + x0 % 8), zo 0]) (z_Dl e_L_law_22) l_RL_102 rfl rfl rfl rfl z_W_scr (c_L_cell k2 hL (by decide) (by decide)) (fun x1 m4 r4 h4 => ?_)
  obtain ⟨⟨d0, d1⟩, rfl, rfl⟩ := h4
  refine z_iconst (z_Dl e_L_law_25) ?_
  refine z_irem (z_Dl e_L_law_26) d0 (by decide) d1 ⟨by decide, by decide⟩ ?_
  refine z_iadd (z_Dl e_L_law_27) ?_
  refine z_callVi (M' := M_X4_resize) (As := [zi (4 + x0 % 8), zi (2 + x1 % 5)]) (rest := []) (z_Dl e_L_law_28) l_RL_43 rfl rfl rfl rfl hX.1.1 ⟨_, _, rfl⟩ (k_X4_resize hX ⟨by omega, by omega⟩ ⟨by omega, by omega⟩) (fun xr m5 r5 h5 => ?_)
  obtain ⟨e5, Q5, n5, nx5, hX5, hG5, -⟩ := h5.1 (by unfold r_ok; omega)
  rw [y_new_many] at e5
  subst e5
  refine z_iconst (z_Dl e_L_law_31) ?_
  refine z_samene (z_Jl e_L_law_32) ?_
  refine z_iconst (z_Dl e_L_law_35) ?_
  refine z_goto (z_Jl e_L_law_36) ?_
  refine z_istore_n (ls' := [some (zo 650), some (zo 0), some (zi 1), none, none]) (z_Dl e_L_law_40) rfl rfl rfl ?_
  refine z_bipush (z_Dl e_L_law_41) (by decide +kernel) ?_
  refine z_aload_n (z_Dl e_L_law_43) rfl ?_
  refine z_iconst (z_Dl e_L_law_44) ?_
  refine z_callX (M' := M_sc b L xs) (As := [zo 650, zi 2]) (rest := [zi 10]) (z_Dl e_L_law_45) l_RL_102 rfl rfl rfl rfl z_W_scr (c_L_cell k2 hL (by decide) (by decide)) (fun x2 m6 r6 h6 => ?_)
  obtain ⟨⟨f0, f1⟩, rfl, rfl⟩ := h6
  refine z_bipush (z_Dl e_L_law_48) (by decide +kernel) ?_
  refine z_irem (z_Dl e_L_law_50) f0 (by decide) f1 ⟨by decide, by decide⟩ ?_
  refine z_iadd (z_Dl e_L_law_51) ?_
  refine z_istore_n (ls' := [some (zo 650), some (zo 0), some (zi 1), some (zi (10 + x2 % 60)), none]) (z_Dl e_L_law_52) rfl rfl rfl ?_
  refine z_iconst (z_Dl e_L_law_53) ?_
  refine z_istore (ls' := [some (zo 650), some (zo 0), some (zi 1), some (zi (10 + x2 % 60)), some (zi 0)]) (z_Dl e_L_law_54) rfl rfl rfl ?_
  exact law_loop hQ k2 hL (by omega) (by omega) _ 0 _ _ (Nat.le_refl _) (by omega) (by omega) ⟨Q5, n5, nx5, hX5, hG5⟩
