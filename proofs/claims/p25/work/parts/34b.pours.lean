set_option maxHeartbeats 1000000 in
set_option maxRecDepth 100000 in
theorem c_L_pours {E : z_E} {mi : z_Mi} {mr : z_Mr} {o : Nat} {P : Int → Int} {n nx : Int} {k : Int} (hX : z_X E o mi mr P n nx) (hG : p_G P) (hk0 : 0 ≤ k) (hk1 : z_R k) : z_mi M_L_pours E [zo o, zi k] mi mr (fun x m r => x = 1 ∧ z_ac E o m r) := by
  have to := hX.1.1
  have hH : p_hd P := hX.2.2.1
  obtain ⟨hk2, hk3⟩ := hk1
  obtain ⟨pw0, pw1, ph0, ph1, pf0, pf1, pf2, pr0, pr1, pc0, pc1, pp0, pp1, pk0, pk1, pi0, pi1, pkp, pP⟩ := id hH
  refine z_ofi (ls := [some (zo o), some (zi k), none, none, none, none, none, none, none, none, none, none, none, none]) rfl (fun _ _ => trivial) ⟨rfl, rfl⟩ (Nat.le_of_ble_eq_true rfl) rfl ?_
  refine z_aload_n e_L_pours_0 rfl ?_
  refine z_iconst e_L_pours_1 ?_
  refine z_callVi (M' := M_X4_told) (As := [zi 0]) (rest := []) e_L_pours_2 l_RL_9 rfl rfl rfl rfl to ⟨_, _, rfl⟩ (c_X4_told hX ⟨by decide, by decide⟩) (fun xq mq rq hq => ?_)
  obtain ⟨e1q, e2q, e3q⟩ := hq
  rw [told_0] at e1q
  subst xq mq rq
  refine z_istore_n (ls' := [some (zo o), some (zi k), some (zi (P 0)), none, none, none, none, none, none, none, none, none, none, none]) e_L_pours_5 rfl rfl rfl ?_
  refine z_aload_n e_L_pours_6 rfl ?_
  refine z_iconst e_L_pours_7 ?_
  refine z_callVi (M' := M_X4_told) (As := [zi 1]) (rest := []) e_L_pours_8 l_RL_9 rfl rfl rfl rfl to ⟨_, _, rfl⟩ (c_X4_told hX ⟨by decide, by decide⟩) (fun xq mq rq hq => ?_)
  obtain ⟨e1q, e2q, e3q⟩ := hq
  rw [told_1] at e1q
  subst xq mq rq
  refine z_istore_n (ls' := [some (zo o), some (zi k), some (zi (P 0)), some (zi (P 1)), none, none, none, none, none, none, none, none, none, none]) e_L_pours_11 rfl rfl rfl ?_
  refine z_aload_n e_L_pours_12 rfl ?_
  refine z_callSi (M' := M_L_lineHash) (As := [zo o]) (rest := []) e_L_pours_13 l_RL_88 rfl rfl rfl rfl (c_L_lineHash hX) (fun xq m1 r1 hq => ?_)
  obtain ⟨e1q, hX⟩ := hq
  subst e1q
  refine z_istore (ls' := [some (zo o), some (zi k), some (zi (P 0)), some (zi (P 1)), some (zi (y_hash P)), none, none, none, none, none, none, none, none, none]) e_L_pours_16 rfl rfl rfl ?_
  refine z_iconst e_L_pours_18 ?_
  refine z_iload_n e_L_pours_19 rfl ?_
  refine z_bipush e_L_pours_20 (by decide +kernel) ?_
  refine z_irem e_L_pours_22 (by omega) (by omega) ⟨by omega, by omega⟩ (by decide) ?_
  refine z_iadd e_L_pours_23 ?_
  refine z_istore (ls' := [some (zo o), some (zi k), some (zi (P 0)), some (zi (P 1)), some (zi (y_hash P)), some (zi (4 + (k % 17))), none, none, none, none, none, none, none, none]) e_L_pours_24 rfl rfl rfl ?_
  have hotb : 4 ≤ 4 + k % 17 ∧ 4 + k % 17 ≤ 20 := by omega
  generalize 4 + k % 17 = ot at hotb ⊢
  refine z_aload_n e_L_pours_26 rfl ?_
  refine z_iload e_L_pours_27 rfl ?_
  refine z_callVi (M' := M_X4_ifWidth) (As := [zi ot]) (rest := []) e_L_pours_29 l_RL_92 rfl rfl rfl rfl to ⟨_, _, rfl⟩ (k_X4_ifWidth hX (by omega) (by omega)) (fun xq m2 r2 hq => ?_)
  obtain ⟨e1q, hX⟩ := hq
  subst e1q
  refine z_istore (ls' := [some (zo o), some (zi k), some (zi (P 0)), some (zi (P 1)), some (zi (y_hash P)), some (zi ot), some (zi (y_many P ot)), none, none, none, none, none, none, none]) e_L_pours_32 rfl rfl rfl ?_
  refine z_aload_n e_L_pours_34 rfl ?_
  refine z_iload e_L_pours_35 rfl ?_
  refine z_bipush e_L_pours_37 (by decide +kernel) ?_
  refine z_callVi (M' := M_X4_resize) (As := [zi ot, zi 8]) (rest := []) e_L_pours_39 l_RL_43 rfl rfl rfl rfl to ⟨_, _, rfl⟩ (k_X4_resize hX ⟨by omega, by omega⟩ ⟨by omega, by omega⟩) (fun xq m3 r3 hq => ?_)
  obtain ⟨hxv, Q, n2, nx2, hX, hGQ, ⟨q0, q1, q2, q3⟩, htx⟩ := hq.1 (by unfold r_ok; omega)
  subst hxv
  have hHQ : p_hd Q := hX.2.2.1
  have q3 : Q 3 = 7 := by omega
  have hmb := y_many_b hH ot
  refine z_istore (ls' := [some (zo o), some (zi k), some (zi (P 0)), some (zi (P 1)), some (zi (y_hash P)), some (zi ot), some (zi (y_many P ot)), some (zi (y_many P ot)), none, none, none, none, none, none]) e_L_pours_42 rfl rfl rfl ?_
  refine z_iload e_L_pours_44 rfl ?_
  refine z_iload e_L_pours_46 rfl ?_
  refine z_samene e_L_pours_48 ?_
  refine z_aload_n e_L_pours_51 rfl ?_
  refine z_callSi (M' := M_L_whole) (As := [zo o]) (rest := []) e_L_pours_52 l_RL_95 rfl rfl rfl rfl (c_L_whole hX hGQ) (fun xq m4 r4 hq => ?_)
  obtain ⟨e1q, hX⟩ := hq
  subst e1q
  refine z_if_eq e_L_pours_55 (by decide) (fun hq => absurd hq (by decide)) (fun _ => ?_)
  refine z_aload_n e_L_pours_58 rfl ?_
  refine z_iconst e_L_pours_59 ?_
  refine z_callVi (M' := M_X4_told) (As := [zi 2]) (rest := []) e_L_pours_60 l_RL_9 rfl rfl rfl rfl to ⟨_, _, rfl⟩ (c_X4_told hX ⟨by decide, by decide⟩) (fun xq mq rq hq => ?_)
  obtain ⟨e1q, e2q, e3q⟩ := hq
  rw [told_2, q2] at e1q
  subst xq mq rq
  refine z_if_ne e_L_pours_63 (by decide) (fun hq => absurd hq (by decide)) (fun _ => ?_)
  refine z_aload_n e_L_pours_66 rfl ?_
  refine z_iconst e_L_pours_67 ?_
  refine z_callVi (M' := M_X4_told) (As := [zi 3]) (rest := []) e_L_pours_68 l_RL_9 rfl rfl rfl rfl to ⟨_, _, rfl⟩ (c_X4_told hX ⟨by decide, by decide⟩) (fun xq mq rq hq => ?_)
  obtain ⟨e1q, e2q, e3q⟩ := hq
  rw [told_3, q3] at e1q
  subst xq mq rq
  refine z_bipush e_L_pours_71 (by decide +kernel) ?_
  refine z_icmp_ne e_L_pours_73 (by decide) (by decide) (fun hq => absurd hq (by decide)) (fun _ => ?_)
  refine z_iconst e_L_pours_76 ?_
  refine z_goto e_L_pours_77 ?_
  refine z_istore (ls' := [some (zo o), some (zi k), some (zi (P 0)), some (zi (P 1)), some (zi (y_hash P)), some (zi ot), some (zi (y_many P ot)), some (zi (y_many P ot)), some (zi 1), none, none, none, none, none]) e_L_pours_81 rfl rfl rfl ?_
  refine z_iload e_L_pours_83 rfl ?_
  refine z_bipush e_L_pours_85 (by decide +kernel) ?_
  refine z_icmp_gt e_L_pours_87 ⟨by omega, by omega⟩ (by decide) (fun h87_1 => ?_) (fun h87_1 => ?_)
  · refine z_iconst e_L_pours_94 ?_
    refine z_istore (ls' := [some (zo o), some (zi k), some (zi (P 0)), some (zi (P 1)), some (zi (y_hash P)), some (zi ot), some (zi (y_many P ot)), some (zi (y_many P ot)), some (zi 1), some (zi 0), none, none, none, none]) e_L_pours_95 rfl rfl rfl ?_
    refine z_iload e_L_pours_97 rfl ?_
    refine z_if_eq e_L_pours_99 (by decide) (fun hq => absurd hq (by decide)) (fun _ => ?_)
    refine z_iload e_L_pours_102 rfl ?_
    refine z_if_eq e_L_pours_104 (by decide) (fun _ => ?_) (fun hq => absurd hq (by decide))
    refine z_iconst e_L_pours_116 ?_
    refine z_goto e_L_pours_117 ?_
    refine z_istore (ls' := [some (zo o), some (zi k), some (zi (P 0)), some (zi (P 1)), some (zi (y_hash P)), some (zi ot), some (zi (y_many P ot)), some (zi (y_many P ot)), some (zi 1), some (zi 0), none, none, none, none]) e_L_pours_121 rfl rfl rfl ?_
    refine z_aload_n e_L_pours_123 rfl ?_
    refine z_iload_n e_L_pours_124 rfl ?_
    refine z_callVi (M' := M_X4_ifWidth) (As := [zi (P 0)]) (rest := []) e_L_pours_125 l_RL_92 rfl rfl rfl rfl to ⟨_, _, rfl⟩ (k_X4_ifWidth hX (by omega) (by omega)) (fun xq m5 r5 hq => ?_)
    obtain ⟨e1q, hX⟩ := hq
    subst e1q
    refine z_istore (ls' := [some (zo o), some (zi k), some (zi (P 0)), some (zi (P 1)), some (zi (y_hash P)), some (zi ot), some (zi (y_many P ot)), some (zi (y_many P ot)), some (zi 1), some (zi 0), some (zi (y_many Q (P 0))), none, none, none]) e_L_pours_128 rfl rfl rfl ?_
    refine z_aload_n e_L_pours_130 rfl ?_
    refine z_iload_n e_L_pours_131 rfl ?_
    refine z_iload_n e_L_pours_132 rfl ?_
    refine z_callVi (M' := M_X4_resize) (As := [zi (P 0), zi (P 1)]) (rest := []) e_L_pours_133 l_RL_43 rfl rfl rfl rfl to ⟨_, _, rfl⟩ (k_X4_resize hX ⟨by omega, by omega⟩ ⟨by omega, by omega⟩) (fun xq m6 r6 hq => ?_)
    obtain ⟨hxv, T, n3, nx3, hX, hGT, ⟨t0, t1, t2, t3⟩, htx2⟩ := hq.1 (by unfold r_ok; omega)
    subst hxv
    have hHT : p_hd T := hX.2.2.1
    have hmb2 := y_many_b hHQ (P 0)
    refine z_istore (ls' := [some (zo o), some (zi k), some (zi (P 0)), some (zi (P 1)), some (zi (y_hash P)), some (zi ot), some (zi (y_many P ot)), some (zi (y_many P ot)), some (zi 1), some (zi 0), some (zi (y_many Q (P 0))), some (zi (y_many Q (P 0))), none, none]) e_L_pours_136 rfl rfl rfl ?_
    refine z_iload e_L_pours_138 rfl ?_
    refine z_if_eq e_L_pours_140 (by decide) (fun hq => absurd hq (by decide)) (fun _ => ?_)
    refine z_iload e_L_pours_143 rfl ?_
    refine z_iload e_L_pours_145 rfl ?_
    refine z_samene e_L_pours_147 ?_
    refine z_aload_n e_L_pours_150 rfl ?_
    refine z_callSi (M' := M_L_whole) (As := [zo o]) (rest := []) e_L_pours_151 l_RL_95 rfl rfl rfl rfl (c_L_whole hX hGT) (fun xq m7 r7 hq => ?_)
    obtain ⟨e1q, hX⟩ := hq
    subst e1q
    refine z_if_eq e_L_pours_154 (by decide) (fun hq => absurd hq (by decide)) (fun _ => ?_)
    refine z_iload e_L_pours_157 rfl ?_
    refine z_if_eq e_L_pours_159 (by decide) (fun _ => ?_) (fun hq => absurd hq (by decide))
    refine z_iconst e_L_pours_180 ?_
    refine z_goto e_L_pours_181 ?_
    refine z_istore (ls' := [some (zo o), some (zi k), some (zi (P 0)), some (zi (P 1)), some (zi (y_hash P)), some (zi ot), some (zi (y_many P ot)), some (zi (y_many P ot)), some (zi 1), some (zi 0), some (zi (y_many Q (P 0))), some (zi (y_many Q (P 0))), none, none]) e_L_pours_185 rfl rfl rfl ?_
    refine z_aload_n e_L_pours_187 rfl ?_
    refine z_iconst e_L_pours_188 ?_
    refine z_callVi (M' := M_X4_widthFor) (As := [zi 5]) (rest := []) e_L_pours_189 l_RL_98 rfl rfl rfl rfl to ⟨_, _, rfl⟩ (k_X4_widthFor hX (by decide) (by decide)) (fun xw m8 r8 hq => ?_)
    obtain ⟨e1q, hX⟩ := hq
    have hwf := y_wf_sp (P := T) (n := 5) 17 4 (by decide)
    rw [← e1q] at hwf
    have hwb : xw = -9 ∨ (4 ≤ xw ∧ xw ≤ 20) := by rcases hwf with ⟨w1, _⟩ | ⟨w1, w2, _, _⟩ <;> omega
    refine z_istore (ls' := [some (zo o), some (zi k), some (zi (P 0)), some (zi (P 1)), some (zi (y_hash P)), some (zi ot), some (zi (y_many P ot)), some (zi (y_many P ot)), some (zi 1), some (zi 0), some (zi (y_many Q (P 0))), some (zi (y_many Q (P 0))), some (zi xw), none]) e_L_pours_192 rfl rfl rfl ?_
    refine z_iconst e_L_pours_194 ?_
    refine z_istore (ls' := [some (zo o), some (zi k), some (zi (P 0)), some (zi (P 1)), some (zi (y_hash P)), some (zi ot), some (zi (y_many P ot)), some (zi (y_many P ot)), some (zi 1), some (zi 0), some (zi (y_many Q (P 0))), some (zi (y_many Q (P 0))), some (zi xw), some (zi 4)]) e_L_pours_195 rfl rfl rfl ?_
    have loop197 : ∀ (nn : Nat) (cc : Int) (mz : z_Mi) (rz : z_Mr), (21 - cc).toNat = nn → (4 ≤ cc ∧ cc ≤ 21 ∧ z_X E o mz rz T n3 nx3) → z_A M_L_pours E 0 0 197 [some (zo o), some (zi k), some (zi (P 0)), some (zi (P 1)), some (zi (y_hash P)), some (zi ot), some (zi (y_many P ot)), some (zi (y_many P ot)), some (zi 1), some (zi 0), some (zi (y_many Q (P 0))), some (zi (y_many Q (P 0))), some (zi xw), some (zi cc)] [] mz rz (z_qi E (fun x m r => x = 1 ∧ z_ac E o m r)) := by
      intro nn
      induction nn using Nat.strongRecOn with
      | _ nn ih197 =>
        intro cc mz rz hmeas hinv
        obtain ⟨hcc0, hcc1, hX⟩ := hinv
        refine z_iload e_L_pours_197 rfl ?_
        refine z_bipush e_L_pours_199 (by decide +kernel) ?_
        refine z_icmp_gt e_L_pours_201 ⟨by omega, by omega⟩ (by decide) (fun h201_2 => ?_) (fun h201_2 => ?_)
        · refine z_iload e_L_pours_266 rfl ?_
          refine z_iret e_L_pours_268 (Or.inr ⟨rfl, Or.inr rfl⟩) rfl rfl ⟨rfl, _, rfl, ?_⟩
          exact ⟨rfl, T, n3, nx3, hX, hGT⟩
        · have hbig : (xw = -9 ∨ cc < xw) → 5 < y_many T cc := by
            intro q
            rcases hwf with ⟨w1, w2⟩ | ⟨w1, w2, w3, w4⟩
            · exact w2 cc (by omega) (by omega)
            · exact w4 cc (by omega) (by omega)
          have hsm : cc = xw → y_many T cc ≤ 5 := by
            intro q
            rcases hwf with ⟨w1, w2⟩ | ⟨w1, w2, w3, w4⟩
            · omega
            · rw [q]; exact w3
          refine z_iload e_L_pours_204 rfl ?_
          refine z_if_eq e_L_pours_206 (by decide) (fun hq => absurd hq (by decide)) (fun _ => ?_)
          refine z_iload e_L_pours_209 rfl ?_
          refine z_bipush e_L_pours_211 (by decide +kernel) ?_
          refine z_icmp_eq e_L_pours_213 ⟨by omega, by omega⟩ (by decide) (fun h213_3 => ?_) (fun h213_3 => ?_)
          · refine z_aload_n e_L_pours_223 rfl ?_
            refine z_iload e_L_pours_224 rfl ?_
            refine z_callVi (M' := M_X4_ifWidth) (As := [zi cc]) (rest := []) e_L_pours_226 l_RL_92 rfl rfl rfl rfl to ⟨_, _, rfl⟩ (k_X4_ifWidth hX (by omega) (by omega)) (fun xi m9 r9 hq => ?_)
            obtain ⟨e1q, hX⟩ := hq
            have hxib := y_many_b hHT cc
            rw [← e1q] at hxib hbig hsm
            refine z_iconst e_L_pours_229 ?_
            refine z_icmp_le e_L_pours_230 ⟨by omega, by omega⟩ (by decide) (fun h230_4 => ?_) (fun h230_4 => ?_)
            · exact absurd (hbig (by omega)) (by omega)
            · refine z_goto e_L_pours_233 ?_
              refine z_iconst e_L_pours_253 ?_
              refine z_goto e_L_pours_254 ?_
              refine z_istore (ls' := [some (zo o), some (zi k), some (zi (P 0)), some (zi (P 1)), some (zi (y_hash P)), some (zi ot), some (zi (y_many P ot)), some (zi (y_many P ot)), some (zi 1), some (zi 0), some (zi (y_many Q (P 0))), some (zi (y_many Q (P 0))), some (zi xw), some (zi cc)]) e_L_pours_258 rfl rfl rfl ?_
              refine z_iinc (y := (cc + 1)) (ls' := [some (zo o), some (zi k), some (zi (P 0)), some (zi (P 1)), some (zi (y_hash P)), some (zi ot), some (zi (y_many P ot)), some (zi (y_many P ot)), some (zi 1), some (zi 0), some (zi (y_many Q (P 0))), some (zi (y_many Q (P 0))), some (zi xw), some (zi (cc + 1))]) e_L_pours_260 rfl rfl rfl rfl rfl ?_
              refine z_goto e_L_pours_263 ?_
              exact ih197 _ (by omega) (cc + 1) m9 r9 rfl (⟨by omega, by omega, hX⟩)
          · refine z_iload e_L_pours_216 rfl ?_
            refine z_iload e_L_pours_218 rfl ?_
            refine z_icmp_ge e_L_pours_220 ⟨by omega, by omega⟩ ⟨by omega, by omega⟩ (fun h220_5 => ?_) (fun h220_5 => ?_)
            · refine z_iload e_L_pours_236 rfl ?_
              refine z_iload e_L_pours_238 rfl ?_
              refine z_icmp_gt e_L_pours_240 ⟨by omega, by omega⟩ ⟨by omega, by omega⟩ (fun h240_6 => ?_) (fun h240_6 => ?_)
              · refine z_iconst e_L_pours_253 ?_
                refine z_goto e_L_pours_254 ?_
                refine z_istore (ls' := [some (zo o), some (zi k), some (zi (P 0)), some (zi (P 1)), some (zi (y_hash P)), some (zi ot), some (zi (y_many P ot)), some (zi (y_many P ot)), some (zi 1), some (zi 0), some (zi (y_many Q (P 0))), some (zi (y_many Q (P 0))), some (zi xw), some (zi cc)]) e_L_pours_258 rfl rfl rfl ?_
                refine z_iinc (y := (cc + 1)) (ls' := [some (zo o), some (zi k), some (zi (P 0)), some (zi (P 1)), some (zi (y_hash P)), some (zi ot), some (zi (y_many P ot)), some (zi (y_many P ot)), some (zi 1), some (zi 0), some (zi (y_many Q (P 0))), some (zi (y_many Q (P 0))), some (zi xw), some (zi (cc + 1))]) e_L_pours_260 rfl rfl rfl rfl rfl ?_
                refine z_goto e_L_pours_263 ?_
                exact ih197 _ (by omega) (cc + 1) mz rz rfl (⟨by omega, by omega, hX⟩)
              · refine z_aload_n e_L_pours_243 rfl ?_
                refine z_iload e_L_pours_244 rfl ?_
                refine z_callVi (M' := M_X4_ifWidth) (As := [zi cc]) (rest := []) e_L_pours_246 l_RL_92 rfl rfl rfl rfl to ⟨_, _, rfl⟩ (k_X4_ifWidth hX (by omega) (by omega)) (fun xi m10 r10 hq => ?_)
                obtain ⟨e1q, hX⟩ := hq
                have hxib := y_many_b hHT cc
                rw [← e1q] at hxib hbig hsm
                refine z_iconst e_L_pours_249 ?_
                refine z_icmp_gt e_L_pours_250 ⟨by omega, by omega⟩ (by decide) (fun h250_7 => ?_) (fun h250_7 => ?_)
                · exact absurd (hsm (by omega)) (by omega)
                · refine z_iconst e_L_pours_253 ?_
                  refine z_goto e_L_pours_254 ?_
                  refine z_istore (ls' := [some (zo o), some (zi k), some (zi (P 0)), some (zi (P 1)), some (zi (y_hash P)), some (zi ot), some (zi (y_many P ot)), some (zi (y_many P ot)), some (zi 1), some (zi 0), some (zi (y_many Q (P 0))), some (zi (y_many Q (P 0))), some (zi xw), some (zi cc)]) e_L_pours_258 rfl rfl rfl ?_
                  refine z_iinc (y := (cc + 1)) (ls' := [some (zo o), some (zi k), some (zi (P 0)), some (zi (P 1)), some (zi (y_hash P)), some (zi ot), some (zi (y_many P ot)), some (zi (y_many P ot)), some (zi 1), some (zi 0), some (zi (y_many Q (P 0))), some (zi (y_many Q (P 0))), some (zi xw), some (zi (cc + 1))]) e_L_pours_260 rfl rfl rfl rfl rfl ?_
                  refine z_goto e_L_pours_263 ?_
                  exact ih197 _ (by omega) (cc + 1) m10 r10 rfl (⟨by omega, by omega, hX⟩)
            · refine z_aload_n e_L_pours_223 rfl ?_
              refine z_iload e_L_pours_224 rfl ?_
              refine z_callVi (M' := M_X4_ifWidth) (As := [zi cc]) (rest := []) e_L_pours_226 l_RL_92 rfl rfl rfl rfl to ⟨_, _, rfl⟩ (k_X4_ifWidth hX (by omega) (by omega)) (fun xi m11 r11 hq => ?_)
              obtain ⟨e1q, hX⟩ := hq
              have hxib := y_many_b hHT cc
              rw [← e1q] at hxib hbig hsm
              refine z_iconst e_L_pours_229 ?_
              refine z_icmp_le e_L_pours_230 ⟨by omega, by omega⟩ (by decide) (fun h230_8 => ?_) (fun h230_8 => ?_)
              · exact absurd (hbig (by omega)) (by omega)
              · refine z_goto e_L_pours_233 ?_
                refine z_iconst e_L_pours_253 ?_
                refine z_goto e_L_pours_254 ?_
                refine z_istore (ls' := [some (zo o), some (zi k), some (zi (P 0)), some (zi (P 1)), some (zi (y_hash P)), some (zi ot), some (zi (y_many P ot)), some (zi (y_many P ot)), some (zi 1), some (zi 0), some (zi (y_many Q (P 0))), some (zi (y_many Q (P 0))), some (zi xw), some (zi cc)]) e_L_pours_258 rfl rfl rfl ?_
                refine z_iinc (y := (cc + 1)) (ls' := [some (zo o), some (zi k), some (zi (P 0)), some (zi (P 1)), some (zi (y_hash P)), some (zi ot), some (zi (y_many P ot)), some (zi (y_many P ot)), some (zi 1), some (zi 0), some (zi (y_many Q (P 0))), some (zi (y_many Q (P 0))), some (zi xw), some (zi (cc + 1))]) e_L_pours_260 rfl rfl rfl rfl rfl ?_
                refine z_goto e_L_pours_263 ?_
                exact ih197 _ (by omega) (cc + 1) m11 r11 rfl (⟨by omega, by omega, hX⟩)
    exact loop197 _ 4 m8 r8 rfl (⟨by omega, by omega, hX⟩)
  · refine z_iconst e_L_pours_90 ?_
    refine z_goto e_L_pours_91 ?_
    refine z_istore (ls' := [some (zo o), some (zi k), some (zi (P 0)), some (zi (P 1)), some (zi (y_hash P)), some (zi ot), some (zi (y_many P ot)), some (zi (y_many P ot)), some (zi 1), some (zi 1), none, none, none, none]) e_L_pours_95 rfl rfl rfl ?_
    refine z_iload e_L_pours_97 rfl ?_
    refine z_if_eq e_L_pours_99 (by decide) (fun hq => absurd hq (by decide)) (fun _ => ?_)
    refine z_iload e_L_pours_102 rfl ?_
    refine z_if_eq e_L_pours_104 (by decide) (fun hq => absurd hq (by decide)) (fun _ => ?_)
    refine z_aload_n e_L_pours_107 rfl ?_
    refine z_callSi (M' := M_L_lineHash) (As := [zo o]) (rest := []) e_L_pours_108 l_RL_88 rfl rfl rfl rfl (c_L_lineHash hX) (fun xq m12 r12 hq => ?_)
    obtain ⟨e1q, hX⟩ := hq
    rw [y_hash_eq hH hHQ (htx (by omega))] at e1q
    subst e1q
    refine z_iload e_L_pours_111 rfl ?_
    refine z_samene e_L_pours_113 ?_
    refine z_iconst e_L_pours_116 ?_
    refine z_goto e_L_pours_117 ?_
    refine z_istore (ls' := [some (zo o), some (zi k), some (zi (P 0)), some (zi (P 1)), some (zi (y_hash P)), some (zi ot), some (zi (y_many P ot)), some (zi (y_many P ot)), some (zi 1), some (zi 1), none, none, none, none]) e_L_pours_121 rfl rfl rfl ?_
    refine z_aload_n e_L_pours_123 rfl ?_
    refine z_iload_n e_L_pours_124 rfl ?_
    refine z_callVi (M' := M_X4_ifWidth) (As := [zi (P 0)]) (rest := []) e_L_pours_125 l_RL_92 rfl rfl rfl rfl to ⟨_, _, rfl⟩ (k_X4_ifWidth hX (by omega) (by omega)) (fun xq m13 r13 hq => ?_)
    obtain ⟨e1q, hX⟩ := hq
    subst e1q
    refine z_istore (ls' := [some (zo o), some (zi k), some (zi (P 0)), some (zi (P 1)), some (zi (y_hash P)), some (zi ot), some (zi (y_many P ot)), some (zi (y_many P ot)), some (zi 1), some (zi 1), some (zi (y_many Q (P 0))), none, none, none]) e_L_pours_128 rfl rfl rfl ?_
    refine z_aload_n e_L_pours_130 rfl ?_
    refine z_iload_n e_L_pours_131 rfl ?_
    refine z_iload_n e_L_pours_132 rfl ?_
    refine z_callVi (M' := M_X4_resize) (As := [zi (P 0), zi (P 1)]) (rest := []) e_L_pours_133 l_RL_43 rfl rfl rfl rfl to ⟨_, _, rfl⟩ (k_X4_resize hX ⟨by omega, by omega⟩ ⟨by omega, by omega⟩) (fun xq m14 r14 hq => ?_)
    obtain ⟨hxv, T, n3, nx3, hX, hGT, ⟨t0, t1, t2, t3⟩, htx2⟩ := hq.1 (by unfold r_ok; omega)
    subst hxv
    have hHT : p_hd T := hX.2.2.1
    have hmb2 := y_many_b hHQ (P 0)
    refine z_istore (ls' := [some (zo o), some (zi k), some (zi (P 0)), some (zi (P 1)), some (zi (y_hash P)), some (zi ot), some (zi (y_many P ot)), some (zi (y_many P ot)), some (zi 1), some (zi 1), some (zi (y_many Q (P 0))), some (zi (y_many Q (P 0))), none, none]) e_L_pours_136 rfl rfl rfl ?_
    refine z_iload e_L_pours_138 rfl ?_
    refine z_if_eq e_L_pours_140 (by decide) (fun hq => absurd hq (by decide)) (fun _ => ?_)
    refine z_iload e_L_pours_143 rfl ?_
    refine z_iload e_L_pours_145 rfl ?_
    refine z_samene e_L_pours_147 ?_
    refine z_aload_n e_L_pours_150 rfl ?_
    refine z_callSi (M' := M_L_whole) (As := [zo o]) (rest := []) e_L_pours_151 l_RL_95 rfl rfl rfl rfl (c_L_whole hX hGT) (fun xq m15 r15 hq => ?_)
    obtain ⟨e1q, hX⟩ := hq
    subst e1q
    refine z_if_eq e_L_pours_154 (by decide) (fun hq => absurd hq (by decide)) (fun _ => ?_)
    refine z_iload e_L_pours_157 rfl ?_
    refine z_if_eq e_L_pours_159 (by decide) (fun hq => absurd hq (by decide)) (fun _ => ?_)
    refine z_iload e_L_pours_162 rfl ?_
    refine z_bipush e_L_pours_164 (by decide +kernel) ?_
    refine z_iload_n e_L_pours_166 rfl ?_
    refine z_iadd e_L_pours_167 ?_
    refine z_icmp_gt e_L_pours_168 ⟨by omega, by omega⟩ ⟨by omega, by omega⟩ (fun h168_9 => ?_) (fun h168_9 => ?_)
    · refine z_iconst e_L_pours_180 ?_
      refine z_goto e_L_pours_181 ?_
      refine z_istore (ls' := [some (zo o), some (zi k), some (zi (P 0)), some (zi (P 1)), some (zi (y_hash P)), some (zi ot), some (zi (y_many P ot)), some (zi (y_many P ot)), some (zi 1), some (zi 1), some (zi (y_many Q (P 0))), some (zi (y_many Q (P 0))), none, none]) e_L_pours_185 rfl rfl rfl ?_
      refine z_aload_n e_L_pours_187 rfl ?_
      refine z_iconst e_L_pours_188 ?_
      refine z_callVi (M' := M_X4_widthFor) (As := [zi 5]) (rest := []) e_L_pours_189 l_RL_98 rfl rfl rfl rfl to ⟨_, _, rfl⟩ (k_X4_widthFor hX (by decide) (by decide)) (fun xw m16 r16 hq => ?_)
      obtain ⟨e1q, hX⟩ := hq
      have hwf := y_wf_sp (P := T) (n := 5) 17 4 (by decide)
      rw [← e1q] at hwf
      have hwb : xw = -9 ∨ (4 ≤ xw ∧ xw ≤ 20) := by rcases hwf with ⟨w1, _⟩ | ⟨w1, w2, _, _⟩ <;> omega
      refine z_istore (ls' := [some (zo o), some (zi k), some (zi (P 0)), some (zi (P 1)), some (zi (y_hash P)), some (zi ot), some (zi (y_many P ot)), some (zi (y_many P ot)), some (zi 1), some (zi 1), some (zi (y_many Q (P 0))), some (zi (y_many Q (P 0))), some (zi xw), none]) e_L_pours_192 rfl rfl rfl ?_
      refine z_iconst e_L_pours_194 ?_
      refine z_istore (ls' := [some (zo o), some (zi k), some (zi (P 0)), some (zi (P 1)), some (zi (y_hash P)), some (zi ot), some (zi (y_many P ot)), some (zi (y_many P ot)), some (zi 1), some (zi 1), some (zi (y_many Q (P 0))), some (zi (y_many Q (P 0))), some (zi xw), some (zi 4)]) e_L_pours_195 rfl rfl rfl ?_
      have loop197 : ∀ (nn : Nat) (cc : Int) (mz : z_Mi) (rz : z_Mr), (21 - cc).toNat = nn → (4 ≤ cc ∧ cc ≤ 21 ∧ z_X E o mz rz T n3 nx3) → z_A M_L_pours E 0 0 197 [some (zo o), some (zi k), some (zi (P 0)), some (zi (P 1)), some (zi (y_hash P)), some (zi ot), some (zi (y_many P ot)), some (zi (y_many P ot)), some (zi 1), some (zi 1), some (zi (y_many Q (P 0))), some (zi (y_many Q (P 0))), some (zi xw), some (zi cc)] [] mz rz (z_qi E (fun x m r => x = 1 ∧ z_ac E o m r)) := by
        intro nn
        induction nn using Nat.strongRecOn with
        | _ nn ih197 =>
          intro cc mz rz hmeas hinv
          obtain ⟨hcc0, hcc1, hX⟩ := hinv
          refine z_iload e_L_pours_197 rfl ?_
          refine z_bipush e_L_pours_199 (by decide +kernel) ?_
          refine z_icmp_gt e_L_pours_201 ⟨by omega, by omega⟩ (by decide) (fun h201_10 => ?_) (fun h201_10 => ?_)
          · refine z_iload e_L_pours_266 rfl ?_
            refine z_iret e_L_pours_268 (Or.inr ⟨rfl, Or.inr rfl⟩) rfl rfl ⟨rfl, _, rfl, ?_⟩
            exact ⟨rfl, T, n3, nx3, hX, hGT⟩
          · have hbig : (xw = -9 ∨ cc < xw) → 5 < y_many T cc := by
              intro q
              rcases hwf with ⟨w1, w2⟩ | ⟨w1, w2, w3, w4⟩
              · exact w2 cc (by omega) (by omega)
              · exact w4 cc (by omega) (by omega)
            have hsm : cc = xw → y_many T cc ≤ 5 := by
              intro q
              rcases hwf with ⟨w1, w2⟩ | ⟨w1, w2, w3, w4⟩
              · omega
              · rw [q]; exact w3
            refine z_iload e_L_pours_204 rfl ?_
            refine z_if_eq e_L_pours_206 (by decide) (fun hq => absurd hq (by decide)) (fun _ => ?_)
            refine z_iload e_L_pours_209 rfl ?_
            refine z_bipush e_L_pours_211 (by decide +kernel) ?_
            refine z_icmp_eq e_L_pours_213 ⟨by omega, by omega⟩ (by decide) (fun h213_11 => ?_) (fun h213_11 => ?_)
            · refine z_aload_n e_L_pours_223 rfl ?_
              refine z_iload e_L_pours_224 rfl ?_
              refine z_callVi (M' := M_X4_ifWidth) (As := [zi cc]) (rest := []) e_L_pours_226 l_RL_92 rfl rfl rfl rfl to ⟨_, _, rfl⟩ (k_X4_ifWidth hX (by omega) (by omega)) (fun xi m17 r17 hq => ?_)
              obtain ⟨e1q, hX⟩ := hq
              have hxib := y_many_b hHT cc
              rw [← e1q] at hxib hbig hsm
              refine z_iconst e_L_pours_229 ?_
              refine z_icmp_le e_L_pours_230 ⟨by omega, by omega⟩ (by decide) (fun h230_12 => ?_) (fun h230_12 => ?_)
              · exact absurd (hbig (by omega)) (by omega)
              · refine z_goto e_L_pours_233 ?_
                refine z_iconst e_L_pours_253 ?_
                refine z_goto e_L_pours_254 ?_
                refine z_istore (ls' := [some (zo o), some (zi k), some (zi (P 0)), some (zi (P 1)), some (zi (y_hash P)), some (zi ot), some (zi (y_many P ot)), some (zi (y_many P ot)), some (zi 1), some (zi 1), some (zi (y_many Q (P 0))), some (zi (y_many Q (P 0))), some (zi xw), some (zi cc)]) e_L_pours_258 rfl rfl rfl ?_
                refine z_iinc (y := (cc + 1)) (ls' := [some (zo o), some (zi k), some (zi (P 0)), some (zi (P 1)), some (zi (y_hash P)), some (zi ot), some (zi (y_many P ot)), some (zi (y_many P ot)), some (zi 1), some (zi 1), some (zi (y_many Q (P 0))), some (zi (y_many Q (P 0))), some (zi xw), some (zi (cc + 1))]) e_L_pours_260 rfl rfl rfl rfl rfl ?_
                refine z_goto e_L_pours_263 ?_
                exact ih197 _ (by omega) (cc + 1) m17 r17 rfl (⟨by omega, by omega, hX⟩)
            · refine z_iload e_L_pours_216 rfl ?_
              refine z_iload e_L_pours_218 rfl ?_
              refine z_icmp_ge e_L_pours_220 ⟨by omega, by omega⟩ ⟨by omega, by omega⟩ (fun h220_13 => ?_) (fun h220_13 => ?_)
              · refine z_iload e_L_pours_236 rfl ?_
                refine z_iload e_L_pours_238 rfl ?_
                refine z_icmp_gt e_L_pours_240 ⟨by omega, by omega⟩ ⟨by omega, by omega⟩ (fun h240_14 => ?_) (fun h240_14 => ?_)
                · refine z_iconst e_L_pours_253 ?_
                  refine z_goto e_L_pours_254 ?_
                  refine z_istore (ls' := [some (zo o), some (zi k), some (zi (P 0)), some (zi (P 1)), some (zi (y_hash P)), some (zi ot), some (zi (y_many P ot)), some (zi (y_many P ot)), some (zi 1), some (zi 1), some (zi (y_many Q (P 0))), some (zi (y_many Q (P 0))), some (zi xw), some (zi cc)]) e_L_pours_258 rfl rfl rfl ?_
                  refine z_iinc (y := (cc + 1)) (ls' := [some (zo o), some (zi k), some (zi (P 0)), some (zi (P 1)), some (zi (y_hash P)), some (zi ot), some (zi (y_many P ot)), some (zi (y_many P ot)), some (zi 1), some (zi 1), some (zi (y_many Q (P 0))), some (zi (y_many Q (P 0))), some (zi xw), some (zi (cc + 1))]) e_L_pours_260 rfl rfl rfl rfl rfl ?_
                  refine z_goto e_L_pours_263 ?_
                  exact ih197 _ (by omega) (cc + 1) mz rz rfl (⟨by omega, by omega, hX⟩)
                · refine z_aload_n e_L_pours_243 rfl ?_
                  refine z_iload e_L_pours_244 rfl ?_
                  refine z_callVi (M' := M_X4_ifWidth) (As := [zi cc]) (rest := []) e_L_pours_246 l_RL_92 rfl rfl rfl rfl to ⟨_, _, rfl⟩ (k_X4_ifWidth hX (by omega) (by omega)) (fun xi m18 r18 hq => ?_)
                  obtain ⟨e1q, hX⟩ := hq
                  have hxib := y_many_b hHT cc
                  rw [← e1q] at hxib hbig hsm
                  refine z_iconst e_L_pours_249 ?_
                  refine z_icmp_gt e_L_pours_250 ⟨by omega, by omega⟩ (by decide) (fun h250_15 => ?_) (fun h250_15 => ?_)
                  · exact absurd (hsm (by omega)) (by omega)
                  · refine z_iconst e_L_pours_253 ?_
                    refine z_goto e_L_pours_254 ?_
                    refine z_istore (ls' := [some (zo o), some (zi k), some (zi (P 0)), some (zi (P 1)), some (zi (y_hash P)), some (zi ot), some (zi (y_many P ot)), some (zi (y_many P ot)), some (zi 1), some (zi 1), some (zi (y_many Q (P 0))), some (zi (y_many Q (P 0))), some (zi xw), some (zi cc)]) e_L_pours_258 rfl rfl rfl ?_
                    refine z_iinc (y := (cc + 1)) (ls' := [some (zo o), some (zi k), some (zi (P 0)), some (zi (P 1)), some (zi (y_hash P)), some (zi ot), some (zi (y_many P ot)), some (zi (y_many P ot)), some (zi 1), some (zi 1), some (zi (y_many Q (P 0))), some (zi (y_many Q (P 0))), some (zi xw), some (zi (cc + 1))]) e_L_pours_260 rfl rfl rfl rfl rfl ?_
                    refine z_goto e_L_pours_263 ?_
                    exact ih197 _ (by omega) (cc + 1) m18 r18 rfl (⟨by omega, by omega, hX⟩)
              · refine z_aload_n e_L_pours_223 rfl ?_
                refine z_iload e_L_pours_224 rfl ?_
                refine z_callVi (M' := M_X4_ifWidth) (As := [zi cc]) (rest := []) e_L_pours_226 l_RL_92 rfl rfl rfl rfl to ⟨_, _, rfl⟩ (k_X4_ifWidth hX (by omega) (by omega)) (fun xi m19 r19 hq => ?_)
                obtain ⟨e1q, hX⟩ := hq
                have hxib := y_many_b hHT cc
                rw [← e1q] at hxib hbig hsm
                refine z_iconst e_L_pours_229 ?_
                refine z_icmp_le e_L_pours_230 ⟨by omega, by omega⟩ (by decide) (fun h230_16 => ?_) (fun h230_16 => ?_)
                · exact absurd (hbig (by omega)) (by omega)
                · refine z_goto e_L_pours_233 ?_
                  refine z_iconst e_L_pours_253 ?_
                  refine z_goto e_L_pours_254 ?_
                  refine z_istore (ls' := [some (zo o), some (zi k), some (zi (P 0)), some (zi (P 1)), some (zi (y_hash P)), some (zi ot), some (zi (y_many P ot)), some (zi (y_many P ot)), some (zi 1), some (zi 1), some (zi (y_many Q (P 0))), some (zi (y_many Q (P 0))), some (zi xw), some (zi cc)]) e_L_pours_258 rfl rfl rfl ?_
                  refine z_iinc (y := (cc + 1)) (ls' := [some (zo o), some (zi k), some (zi (P 0)), some (zi (P 1)), some (zi (y_hash P)), some (zi ot), some (zi (y_many P ot)), some (zi (y_many P ot)), some (zi 1), some (zi 1), some (zi (y_many Q (P 0))), some (zi (y_many Q (P 0))), some (zi xw), some (zi (cc + 1))]) e_L_pours_260 rfl rfl rfl rfl rfl ?_
                  refine z_goto e_L_pours_263 ?_
                  exact ih197 _ (by omega) (cc + 1) m19 r19 rfl (⟨by omega, by omega, hX⟩)
      exact loop197 _ 4 m16 r16 rfl (⟨by omega, by omega, hX⟩)
    · refine z_aload_n e_L_pours_171 rfl ?_
      refine z_callSi (M' := M_L_lineHash) (As := [zo o]) (rest := []) e_L_pours_172 l_RL_88 rfl rfl rfl rfl (c_L_lineHash hX) (fun xq m20 r20 hq => ?_)
      obtain ⟨e1q, hX⟩ := hq
      rw [y_hash_eq hHQ hHT (htx2 (by omega)), y_hash_eq hH hHQ (htx (by omega))] at e1q
      subst e1q
      refine z_iload e_L_pours_175 rfl ?_
      refine z_samene e_L_pours_177 ?_
      refine z_iconst e_L_pours_180 ?_
      refine z_goto e_L_pours_181 ?_
      refine z_istore (ls' := [some (zo o), some (zi k), some (zi (P 0)), some (zi (P 1)), some (zi (y_hash P)), some (zi ot), some (zi (y_many P ot)), some (zi (y_many P ot)), some (zi 1), some (zi 1), some (zi (y_many Q (P 0))), some (zi (y_many Q (P 0))), none, none]) e_L_pours_185 rfl rfl rfl ?_
      refine z_aload_n e_L_pours_187 rfl ?_
      refine z_iconst e_L_pours_188 ?_
      refine z_callVi (M' := M_X4_widthFor) (As := [zi 5]) (rest := []) e_L_pours_189 l_RL_98 rfl rfl rfl rfl to ⟨_, _, rfl⟩ (k_X4_widthFor hX (by decide) (by decide)) (fun xw m21 r21 hq => ?_)
      obtain ⟨e1q, hX⟩ := hq
      have hwf := y_wf_sp (P := T) (n := 5) 17 4 (by decide)
      rw [← e1q] at hwf
      have hwb : xw = -9 ∨ (4 ≤ xw ∧ xw ≤ 20) := by rcases hwf with ⟨w1, _⟩ | ⟨w1, w2, _, _⟩ <;> omega
      refine z_istore (ls' := [some (zo o), some (zi k), some (zi (P 0)), some (zi (P 1)), some (zi (y_hash P)), some (zi ot), some (zi (y_many P ot)), some (zi (y_many P ot)), some (zi 1), some (zi 1), some (zi (y_many Q (P 0))), some (zi (y_many Q (P 0))), some (zi xw), none]) e_L_pours_192 rfl rfl rfl ?_
      refine z_iconst e_L_pours_194 ?_
      refine z_istore (ls' := [some (zo o), some (zi k), some (zi (P 0)), some (zi (P 1)), some (zi (y_hash P)), some (zi ot), some (zi (y_many P ot)), some (zi (y_many P ot)), some (zi 1), some (zi 1), some (zi (y_many Q (P 0))), some (zi (y_many Q (P 0))), some (zi xw), some (zi 4)]) e_L_pours_195 rfl rfl rfl ?_
      have loop197 : ∀ (nn : Nat) (cc : Int) (mz : z_Mi) (rz : z_Mr), (21 - cc).toNat = nn → (4 ≤ cc ∧ cc ≤ 21 ∧ z_X E o mz rz T n3 nx3) → z_A M_L_pours E 0 0 197 [some (zo o), some (zi k), some (zi (P 0)), some (zi (P 1)), some (zi (y_hash P)), some (zi ot), some (zi (y_many P ot)), some (zi (y_many P ot)), some (zi 1), some (zi 1), some (zi (y_many Q (P 0))), some (zi (y_many Q (P 0))), some (zi xw), some (zi cc)] [] mz rz (z_qi E (fun x m r => x = 1 ∧ z_ac E o m r)) := by
        intro nn
        induction nn using Nat.strongRecOn with
        | _ nn ih197 =>
          intro cc mz rz hmeas hinv
          obtain ⟨hcc0, hcc1, hX⟩ := hinv
          refine z_iload e_L_pours_197 rfl ?_
          refine z_bipush e_L_pours_199 (by decide +kernel) ?_
          refine z_icmp_gt e_L_pours_201 ⟨by omega, by omega⟩ (by decide) (fun h201_17 => ?_) (fun h201_17 => ?_)
          · refine z_iload e_L_pours_266 rfl ?_
            refine z_iret e_L_pours_268 (Or.inr ⟨rfl, Or.inr rfl⟩) rfl rfl ⟨rfl, _, rfl, ?_⟩
            exact ⟨rfl, T, n3, nx3, hX, hGT⟩
          · have hbig : (xw = -9 ∨ cc < xw) → 5 < y_many T cc := by
              intro q
              rcases hwf with ⟨w1, w2⟩ | ⟨w1, w2, w3, w4⟩
              · exact w2 cc (by omega) (by omega)
              · exact w4 cc (by omega) (by omega)
            have hsm : cc = xw → y_many T cc ≤ 5 := by
              intro q
              rcases hwf with ⟨w1, w2⟩ | ⟨w1, w2, w3, w4⟩
              · omega
              · rw [q]; exact w3
            refine z_iload e_L_pours_204 rfl ?_
            refine z_if_eq e_L_pours_206 (by decide) (fun hq => absurd hq (by decide)) (fun _ => ?_)
            refine z_iload e_L_pours_209 rfl ?_
            refine z_bipush e_L_pours_211 (by decide +kernel) ?_
            refine z_icmp_eq e_L_pours_213 ⟨by omega, by omega⟩ (by decide) (fun h213_18 => ?_) (fun h213_18 => ?_)
            · refine z_aload_n e_L_pours_223 rfl ?_
              refine z_iload e_L_pours_224 rfl ?_
              refine z_callVi (M' := M_X4_ifWidth) (As := [zi cc]) (rest := []) e_L_pours_226 l_RL_92 rfl rfl rfl rfl to ⟨_, _, rfl⟩ (k_X4_ifWidth hX (by omega) (by omega)) (fun xi m22 r22 hq => ?_)
              obtain ⟨e1q, hX⟩ := hq
              have hxib := y_many_b hHT cc
              rw [← e1q] at hxib hbig hsm
              refine z_iconst e_L_pours_229 ?_
              refine z_icmp_le e_L_pours_230 ⟨by omega, by omega⟩ (by decide) (fun h230_19 => ?_) (fun h230_19 => ?_)
              · exact absurd (hbig (by omega)) (by omega)
              · refine z_goto e_L_pours_233 ?_
                refine z_iconst e_L_pours_253 ?_
                refine z_goto e_L_pours_254 ?_
                refine z_istore (ls' := [some (zo o), some (zi k), some (zi (P 0)), some (zi (P 1)), some (zi (y_hash P)), some (zi ot), some (zi (y_many P ot)), some (zi (y_many P ot)), some (zi 1), some (zi 1), some (zi (y_many Q (P 0))), some (zi (y_many Q (P 0))), some (zi xw), some (zi cc)]) e_L_pours_258 rfl rfl rfl ?_
                refine z_iinc (y := (cc + 1)) (ls' := [some (zo o), some (zi k), some (zi (P 0)), some (zi (P 1)), some (zi (y_hash P)), some (zi ot), some (zi (y_many P ot)), some (zi (y_many P ot)), some (zi 1), some (zi 1), some (zi (y_many Q (P 0))), some (zi (y_many Q (P 0))), some (zi xw), some (zi (cc + 1))]) e_L_pours_260 rfl rfl rfl rfl rfl ?_
                refine z_goto e_L_pours_263 ?_
                exact ih197 _ (by omega) (cc + 1) m22 r22 rfl (⟨by omega, by omega, hX⟩)
            · refine z_iload e_L_pours_216 rfl ?_
              refine z_iload e_L_pours_218 rfl ?_
              refine z_icmp_ge e_L_pours_220 ⟨by omega, by omega⟩ ⟨by omega, by omega⟩ (fun h220_20 => ?_) (fun h220_20 => ?_)
              · refine z_iload e_L_pours_236 rfl ?_
                refine z_iload e_L_pours_238 rfl ?_
                refine z_icmp_gt e_L_pours_240 ⟨by omega, by omega⟩ ⟨by omega, by omega⟩ (fun h240_21 => ?_) (fun h240_21 => ?_)
                · refine z_iconst e_L_pours_253 ?_
                  refine z_goto e_L_pours_254 ?_
                  refine z_istore (ls' := [some (zo o), some (zi k), some (zi (P 0)), some (zi (P 1)), some (zi (y_hash P)), some (zi ot), some (zi (y_many P ot)), some (zi (y_many P ot)), some (zi 1), some (zi 1), some (zi (y_many Q (P 0))), some (zi (y_many Q (P 0))), some (zi xw), some (zi cc)]) e_L_pours_258 rfl rfl rfl ?_
                  refine z_iinc (y := (cc + 1)) (ls' := [some (zo o), some (zi k), some (zi (P 0)), some (zi (P 1)), some (zi (y_hash P)), some (zi ot), some (zi (y_many P ot)), some (zi (y_many P ot)), some (zi 1), some (zi 1), some (zi (y_many Q (P 0))), some (zi (y_many Q (P 0))), some (zi xw), some (zi (cc + 1))]) e_L_pours_260 rfl rfl rfl rfl rfl ?_
                  refine z_goto e_L_pours_263 ?_
                  exact ih197 _ (by omega) (cc + 1) mz rz rfl (⟨by omega, by omega, hX⟩)
                · refine z_aload_n e_L_pours_243 rfl ?_
                  refine z_iload e_L_pours_244 rfl ?_
                  refine z_callVi (M' := M_X4_ifWidth) (As := [zi cc]) (rest := []) e_L_pours_246 l_RL_92 rfl rfl rfl rfl to ⟨_, _, rfl⟩ (k_X4_ifWidth hX (by omega) (by omega)) (fun xi m23 r23 hq => ?_)
                  obtain ⟨e1q, hX⟩ := hq
                  have hxib := y_many_b hHT cc
                  rw [← e1q] at hxib hbig hsm
                  refine z_iconst e_L_pours_249 ?_
                  refine z_icmp_gt e_L_pours_250 ⟨by omega, by omega⟩ (by decide) (fun h250_22 => ?_) (fun h250_22 => ?_)
                  · exact absurd (hsm (by omega)) (by omega)
                  · refine z_iconst e_L_pours_253 ?_
                    refine z_goto e_L_pours_254 ?_
                    refine z_istore (ls' := [some (zo o), some (zi k), some (zi (P 0)), some (zi (P 1)), some (zi (y_hash P)), some (zi ot), some (zi (y_many P ot)), some (zi (y_many P ot)), some (zi 1), some (zi 1), some (zi (y_many Q (P 0))), some (zi (y_many Q (P 0))), some (zi xw), some (zi cc)]) e_L_pours_258 rfl rfl rfl ?_
                    refine z_iinc (y := (cc + 1)) (ls' := [some (zo o), some (zi k), some (zi (P 0)), some (zi (P 1)), some (zi (y_hash P)), some (zi ot), some (zi (y_many P ot)), some (zi (y_many P ot)), some (zi 1), some (zi 1), some (zi (y_many Q (P 0))), some (zi (y_many Q (P 0))), some (zi xw), some (zi (cc + 1))]) e_L_pours_260 rfl rfl rfl rfl rfl ?_
                    refine z_goto e_L_pours_263 ?_
                    exact ih197 _ (by omega) (cc + 1) m23 r23 rfl (⟨by omega, by omega, hX⟩)
              · refine z_aload_n e_L_pours_223 rfl ?_
                refine z_iload e_L_pours_224 rfl ?_
                refine z_callVi (M' := M_X4_ifWidth) (As := [zi cc]) (rest := []) e_L_pours_226 l_RL_92 rfl rfl rfl rfl to ⟨_, _, rfl⟩ (k_X4_ifWidth hX (by omega) (by omega)) (fun xi m24 r24 hq => ?_)
                obtain ⟨e1q, hX⟩ := hq
                have hxib := y_many_b hHT cc
                rw [← e1q] at hxib hbig hsm
                refine z_iconst e_L_pours_229 ?_
                refine z_icmp_le e_L_pours_230 ⟨by omega, by omega⟩ (by decide) (fun h230_23 => ?_) (fun h230_23 => ?_)
                · exact absurd (hbig (by omega)) (by omega)
                · refine z_goto e_L_pours_233 ?_
                  refine z_iconst e_L_pours_253 ?_
                  refine z_goto e_L_pours_254 ?_
                  refine z_istore (ls' := [some (zo o), some (zi k), some (zi (P 0)), some (zi (P 1)), some (zi (y_hash P)), some (zi ot), some (zi (y_many P ot)), some (zi (y_many P ot)), some (zi 1), some (zi 1), some (zi (y_many Q (P 0))), some (zi (y_many Q (P 0))), some (zi xw), some (zi cc)]) e_L_pours_258 rfl rfl rfl ?_
                  refine z_iinc (y := (cc + 1)) (ls' := [some (zo o), some (zi k), some (zi (P 0)), some (zi (P 1)), some (zi (y_hash P)), some (zi ot), some (zi (y_many P ot)), some (zi (y_many P ot)), some (zi 1), some (zi 1), some (zi (y_many Q (P 0))), some (zi (y_many Q (P 0))), some (zi xw), some (zi (cc + 1))]) e_L_pours_260 rfl rfl rfl rfl rfl ?_
                  refine z_goto e_L_pours_263 ?_
                  exact ih197 _ (by omega) (cc + 1) m24 r24 rfl (⟨by omega, by omega, hX⟩)
      exact loop197 _ 4 m21 r21 rfl (⟨by omega, by omega, hX⟩)
