set_option maxHeartbeats 1000000 in
set_option maxRecDepth 100000 in
theorem c_X3_carryBlank {E : z_E} {mi : z_Mi} {mr : z_Mr} {s : Nat} {sg : Int → Nat} {f : Int → Option Nat} {a b : Int} (t0 : E.2.2[s]? = some (3, 0)) (t1 : E.2.2[s + 1]? = some (12, 32)) (q0 : mr s 0 = some (s + 1)) (hrow : ∀ k : Int, 0 ≤ k → k < 32 → z_CR E mr (sg k) ∧ s + 4 ≤ sg k) (hf : ∀ k : Int, 0 ≤ k → k < 32 → f k = some (sg k)) (h0 : 0 ≤ a) (h1 : a < 32) (g0 : 0 ≤ b) (g1 : b < 32) : z_mv M_X3_carryBlank E [zo s, zi a, zi b] mi (z_u mr (s + 1) f) (fun m r => m = z_u (z_u mi (sg a) (c_un (mi (sg a)))) (sg a + 1) (c_bl (mi (sg a + 1)) 20) ∧ ∃ f' : Int → Option Nat, r = z_u mr (s + 1) f' ∧ ∀ k : Int, 0 ≤ k → k < 32 → f' k = some (cy_sg sg a b k)) := by
  refine z_ofv (ls := [some (zo s), some (zi a), some (zi b), none, none]) rfl (fun _ _ => trivial) ⟨rfl, rfl⟩ (Nat.le_of_ble_eq_true rfl) rfl ?_
  refine z_iload_n e_X3_carryBlank_0 rfl ?_
  refine z_if_lt e_X3_carryBlank_1 ⟨by omega, by omega⟩ (fun h1_1 => ?_) (fun h1_1 => ?_)
  · exfalso; omega
  · refine z_iload_n e_X3_carryBlank_4 rfl ?_
    refine z_bipush e_X3_carryBlank_5 (by decide +kernel) ?_
    refine z_icmp_ge e_X3_carryBlank_7 ⟨by omega, by omega⟩ (by decide) (fun h7_2 => ?_) (fun h7_2 => ?_)
    · exfalso; omega
    · refine z_iload_n e_X3_carryBlank_10 rfl ?_
      refine z_if_lt e_X3_carryBlank_11 ⟨by omega, by omega⟩ (fun h11_3 => ?_) (fun h11_3 => ?_)
      · exfalso; omega
      · refine z_iload_n e_X3_carryBlank_14 rfl ?_
        refine z_bipush e_X3_carryBlank_15 (by decide +kernel) ?_
        refine z_icmp_lt e_X3_carryBlank_17 ⟨by omega, by omega⟩ (by decide) (fun h17_4 => ?_) (fun h17_4 => ?_)
        · refine z_aload_n e_X3_carryBlank_21 rfl ?_
          refine z_getr (fi := 0) (r := some (s + 1)) e_X3_carryBlank_22 f_RX3_11 t0 rfl rfl ((congrFun (z_un (by omega)) _).trans q0) ?_
          refine z_iload_n e_X3_carryBlank_25 rfl ?_
          refine z_aald (r := some (sg a)) e_X3_carryBlank_26 t1 (by decide) (by decide) (by omega) (by omega) ((congrFun (z_us _ _ _) _).trans (hf a h0 h1)) ?_
          refine z_astore_n (ls' := [some (zo s), some (zi a), some (zi b), some (zo (sg a)), none]) e_X3_carryBlank_27 rfl rfl rfl ?_
          refine z_iload_n e_X3_carryBlank_28 rfl ?_
          refine z_istore (ls' := [some (zo s), some (zi a), some (zi b), some (zo (sg a)), some (zi a)]) e_X3_carryBlank_29 rfl rfl rfl ?_
          have loop31 : ∀ (nn : Nat) (i : Int) (f1 : Int → Option Nat), (b - i).toNat = nn → (a ≤ i ∧ (i ≤ b ∨ i = a) ∧ ∀ k : Int, 0 ≤ k → k < 32 → f1 k = some (cy_f sg a a i a k)) → z_A M_X3_carryBlank E 0 0 31 [some (zo s), some (zi a), some (zi b), some (zo (sg a)), some (zi i)] [] mi (z_u mr (s + 1) f1) (z_qv E (fun m r => m = z_u (z_u mi (sg a) (c_un (mi (sg a)))) (sg a + 1) (c_bl (mi (sg a + 1)) 20) ∧ ∃ f' : Int → Option Nat, r = z_u mr (s + 1) f' ∧ ∀ k : Int, 0 ≤ k → k < 32 → f' k = some (cy_sg sg a b k))) := by
            intro nn
            induction nn using Nat.strongRecOn with
            | _ nn ih31 =>
              intro i f1 hmeas hinv
              obtain ⟨hi0, hi1, hf1⟩ := hinv
              refine z_iload e_X3_carryBlank_31 rfl ?_
              refine z_iload_n e_X3_carryBlank_33 rfl ?_
              refine z_icmp_ge e_X3_carryBlank_34 ⟨by omega, by omega⟩ ⟨by omega, by omega⟩ (fun h34_5 => ?_) (fun h34_5 => ?_)
              · refine z_iload_n e_X3_carryBlank_59 rfl ?_
                refine z_istore (ls' := [some (zo s), some (zi a), some (zi b), some (zo (sg a)), some (zi a)]) e_X3_carryBlank_60 rfl rfl rfl ?_
                have loop62 : ∀ (nn : Nat) (j : Int) (f2 : Int → Option Nat), (j - b).toNat = nn → (j ≤ a ∧ (b ≤ j ∨ j = a) ∧ 0 ≤ j ∧ ∀ k : Int, 0 ≤ k → k < 32 → f2 k = some (cy_f sg a b i j k)) → z_A M_X3_carryBlank E 0 0 62 [some (zo s), some (zi a), some (zi b), some (zo (sg a)), some (zi j)] [] mi (z_u mr (s + 1) f2) (z_qv E (fun m r => m = z_u (z_u mi (sg a) (c_un (mi (sg a)))) (sg a + 1) (c_bl (mi (sg a + 1)) 20) ∧ ∃ f' : Int → Option Nat, r = z_u mr (s + 1) f' ∧ ∀ k : Int, 0 ≤ k → k < 32 → f' k = some (cy_sg sg a b k))) := by
                  intro nn
                  induction nn using Nat.strongRecOn with
                  | _ nn ih62 =>
                    intro j f2 hmeas hinv
                    obtain ⟨hj0, hj1, hj2, hf2⟩ := hinv
                    refine z_iload e_X3_carryBlank_62 rfl ?_
                    refine z_iload_n e_X3_carryBlank_64 rfl ?_
                    refine z_icmp_le e_X3_carryBlank_65 ⟨by omega, by omega⟩ ⟨by omega, by omega⟩ (fun h65_6 => ?_) (fun h65_6 => ?_)
                    · refine z_aload_n e_X3_carryBlank_90 rfl ?_
                      refine z_callVv (M' := M_X2_clear) (As := []) (rest := []) e_X3_carryBlank_91 l_RX3_63 rfl rfl rfl rfl (hrow a (by omega) (by omega)).1.1 ⟨_, _, rfl⟩ (d_X2_clear (z_CR_u (hrow a h0 h1).1 (by have := (hrow a h0 h1).2; omega))) (fun mq rq hq => ?_)
                      obtain ⟨e2q, e3q⟩ := hq
                      subst mq rq
                      refine z_aload_n e_X3_carryBlank_94 rfl ?_
                      refine z_getr (fi := 0) (r := some (s + 1)) e_X3_carryBlank_95 f_RX3_11 t0 rfl rfl ((congrFun (z_un (by omega)) _).trans q0) ?_
                      refine z_iload_n e_X3_carryBlank_98 rfl ?_
                      refine z_aload_n e_X3_carryBlank_99 rfl ?_
                      refine z_aastU e_X3_carryBlank_100 t1 (hrow a (by omega) (by omega)).1.1 (by decide) (by decide) (by omega) (by omega) ?_
                      refine z_ret e_X3_carryBlank_101 rfl rfl rfl ⟨rfl, rfl, ?_⟩
                      refine ⟨rfl, _, rfl, fun k k0 k1 => ?_⟩
                      unfold z_v cy_sg
                      by_cases q : k = b
                      · rw [if_pos q, if_neg (by omega), if_neg (by omega), if_pos q]
                      · rw [if_neg q, hf2 k k0 k1]; unfold cy_f
                        by_cases q2 : a ≤ k ∧ k < b
                        · rw [if_pos q2, if_pos (by omega)]
                        · rw [if_neg q2, if_neg (by omega)]
                          by_cases q3 : b < k ∧ k ≤ a
                          · rw [if_pos q3, if_pos (by omega)]
                          · rw [if_neg q3, if_neg (by omega), if_neg q]
                    · refine z_aload_n e_X3_carryBlank_68 rfl ?_
                      refine z_getr (fi := 0) (r := some (s + 1)) e_X3_carryBlank_69 f_RX3_11 t0 rfl rfl ((congrFun (z_un (by omega)) _).trans q0) ?_
                      refine z_iload e_X3_carryBlank_72 rfl ?_
                      refine z_aload_n e_X3_carryBlank_74 rfl ?_
                      refine z_getr (fi := 0) (r := some (s + 1)) e_X3_carryBlank_75 f_RX3_11 t0 rfl rfl ((congrFun (z_un (by omega)) _).trans q0) ?_
                      refine z_iload e_X3_carryBlank_78 rfl ?_
                      refine z_iconst e_X3_carryBlank_80 ?_
                      refine z_isub e_X3_carryBlank_81 ?_
                      refine z_aald (r := some (sg (j - 1))) e_X3_carryBlank_82 t1 (by decide) (by decide) (by omega) (by omega) ((congrFun (z_us _ _ _) _).trans ((hf2 (j - 1) (by omega) (by omega)).trans (by unfold cy_f; rw [if_neg (by omega), if_neg (by omega)]))) ?_
                      refine z_aastU e_X3_carryBlank_83 t1 (hrow (j - 1) (by omega) (by omega)).1.1 (by decide) (by decide) (by omega) (by omega) ?_
                      refine z_iinc (y := (j + (-1))) (ls' := [some (zo s), some (zi a), some (zi b), some (zo (sg a)), some (zi (j + (-1)))]) e_X3_carryBlank_84 rfl rfl rfl rfl rfl ?_
                      refine z_goto e_X3_carryBlank_87 ?_
                      exact ih62 _ (by omega) (j + (-1)) (z_v f2 j (some (sg (j - 1)))) rfl (⟨by omega, by omega, by omega, cy_dn (by omega) hf2 (by omega)⟩)
                exact loop62 _ a f1 rfl (⟨by omega, by omega, by omega, hf1⟩)
              · refine z_aload_n e_X3_carryBlank_37 rfl ?_
                refine z_getr (fi := 0) (r := some (s + 1)) e_X3_carryBlank_38 f_RX3_11 t0 rfl rfl ((congrFun (z_un (by omega)) _).trans q0) ?_
                refine z_iload e_X3_carryBlank_41 rfl ?_
                refine z_aload_n e_X3_carryBlank_43 rfl ?_
                refine z_getr (fi := 0) (r := some (s + 1)) e_X3_carryBlank_44 f_RX3_11 t0 rfl rfl ((congrFun (z_un (by omega)) _).trans q0) ?_
                refine z_iload e_X3_carryBlank_47 rfl ?_
                refine z_iconst e_X3_carryBlank_49 ?_
                refine z_iadd e_X3_carryBlank_50 ?_
                refine z_aald (r := some (sg (i + 1))) e_X3_carryBlank_51 t1 (by decide) (by decide) (by omega) (by omega) ((congrFun (z_us _ _ _) _).trans ((hf1 (i + 1) (by omega) (by omega)).trans (by unfold cy_f; rw [if_neg (by omega), if_neg (by omega)]))) ?_
                refine z_aastU e_X3_carryBlank_52 t1 (hrow (i + 1) (by omega) (by omega)).1.1 (by decide) (by decide) (by omega) (by omega) ?_
                refine z_iinc (y := (i + 1)) (ls' := [some (zo s), some (zi a), some (zi b), some (zo (sg a)), some (zi (i + 1))]) e_X3_carryBlank_53 rfl rfl rfl rfl rfl ?_
                refine z_goto e_X3_carryBlank_56 ?_
                exact ih31 _ (by omega) (i + 1) (z_v f1 i (some (sg (i + 1)))) rfl (⟨by omega, by omega, cy_up (by omega) hf1⟩)
          exact loop31 _ a f rfl (⟨by omega, by omega, fun k g0 g1 => by rw [hf k g0 g1]; unfold cy_f; rw [if_neg (by omega), if_neg (by omega)]⟩)
        · exfalso; omega
