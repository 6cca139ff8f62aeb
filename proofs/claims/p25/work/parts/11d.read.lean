set_option maxHeartbeats 1000000 in
set_option maxRecDepth 100000 in
theorem c_X1_readUpTo {E : z_E} {mi : z_Mi} {mr : z_Mr} {q s : Nat} {sg : Int → Nat} {P G : Int → Int} {l : List Int} {number : Int} (tq : E.2.2[q]? = some (1, 0)) (hS : z_Sh E mi mr s sg P (p_rows P)) (hH : p_hd P) (hqs : q < s ∨ s + 71 ≤ q) (hfr : mr q 0 = some s) (hl : q_at P G l) (hll : l.length ≤ 640) (hn0 : 0 ≤ number) (hn1 : number ≤ 9998) (h5 : 4 ≤ G 5) (h51 : G 5 ≤ 20) (h7 : G 7 = 0) (h8 : G 8 = 0) (h10 : G 10 = 0) : z_mi M_X1_readUpTo E [zo q, zi number] (z_u mi q G) mr (fun x m r => ∃ G' : Int → Int, m = z_u mi q G' ∧ r = mr ∧ G' 5 = G 5 ∧ ((number < l.length ∧ x = 1 ∧ l[number.toNat]? = some (G' 6) ∧ y_at (G 5) l number.toNat (0, 0) = (G' 8, G' 9)) ∨ ((l.length : Int) ≤ number ∧ x = 0 ∧ y_rcl (G 5) l (0, 0) = (G' 8, G' 10) ∧ G' 7 = l.length))) := by
  obtain ⟨hw0, hw1, hh0, hh1, hf0, hf1, hf2, hr0, hr1, hc0, hc1, hp0, hp1, hk0, hk1, hi0, hi1, hkp, hP⟩ := id hH
  refine z_ofi (ls := [some (zo q), some (zi number), none]) rfl (fun _ _ => trivial) ⟨rfl, rfl⟩ (Nat.le_of_ble_eq_true rfl) rfl ?_
  refine z_iconst e_X1_readUpTo_0 ?_
  refine z_istore_n (ls' := [some (zo q), some (zi number), some (zi 0)]) e_X1_readUpTo_1 rfl rfl rfl ?_
  have loop2 : ∀ (nn : Nat) (k : Int) (G1 : Int → Int) (l1 : List Int), (number + 1 - k).toNat = nn → (0 ≤ k ∧ k ≤ number + 1 ∧ q_at P G1 l1 ∧ G1 5 = G 5 ∧ G1 7 = k ∧ (0 ≤ G1 8 ∧ G1 8 ≤ k) ∧ (0 ≤ G1 10 ∧ G1 10 ≤ 20) ∧ (l.length : Int) = k + l1.length ∧ y_rcl (G 5) l (0, 0) = y_rcl (G 5) l1 (G1 8, G1 10) ∧ (k ≤ number → y_at (G 5) l number.toNat (0, 0) = y_at (G 5) l1 (number - k).toNat (G1 8, G1 10) ∧ l[number.toNat]? = l1[(number - k).toNat]?) ∧ (number < k → l[number.toNat]? = some (G1 6) ∧ y_at (G 5) l number.toNat (0, 0) = (G1 8, G1 9))) → z_A M_X1_readUpTo E 0 0 2 [some (zo q), some (zi number), some (zi k)] [] (z_u mi q G1) mr (z_qi E (fun x m r => ∃ G' : Int → Int, m = z_u mi q G' ∧ r = mr ∧ G' 5 = G 5 ∧ ((number < l.length ∧ x = 1 ∧ l[number.toNat]? = some (G' 6) ∧ y_at (G 5) l number.toNat (0, 0) = (G' 8, G' 9)) ∨ ((l.length : Int) ≤ number ∧ x = 0 ∧ y_rcl (G 5) l (0, 0) = (G' 8, G' 10) ∧ G' 7 = l.length)))) := by
    intro nn
    induction nn using Nat.strongRecOn with
    | _ nn ih2 =>
      intro k G1 l1 hmeas hinv
      obtain ⟨ia0, ia1, hq1, k5, k7, ⟨k8, k81⟩, ⟨k10, k101⟩, hlen, hrl, hlo, hhi⟩ := hinv
      refine z_iload_n e_X1_readUpTo_2 rfl ?_
      refine z_iload_n e_X1_readUpTo_3 rfl ?_
      refine z_icmp_gt e_X1_readUpTo_4 ⟨by omega, by omega⟩ ⟨by omega, by omega⟩ (fun h4_1 => ?_) (fun h4_1 => ?_)
      · refine z_iconst e_X1_readUpTo_22 ?_
        refine z_iret e_X1_readUpTo_23 (Or.inr ⟨rfl, Or.inr rfl⟩) rfl rfl ⟨rfl, _, rfl, ?_⟩
        have h1 := hhi (by omega)
        refine ⟨G1, rfl, rfl, k5, Or.inl ⟨?_, rfl, h1.1, h1.2⟩⟩
        have h2 := (List.getElem?_eq_some_iff.mp h1.1).1
        omega
      · refine z_aload_n e_X1_readUpTo_7 rfl ?_
        refine z_callVi (M' := M_X1_next) (As := []) (rest := []) e_X1_readUpTo_8 l_RX1_81 rfl rfl rfl rfl tq ⟨_, _, rfl⟩ (c_X1_next tq hS hH hqs hfr hq1 (by omega) (by omega) (by omega) (by omega) (by omega) (by omega) (by omega) (by omega)) (fun xn mq rq hq => ?_)
        obtain ⟨G9, e2q, e3q, hnx⟩ := hq
        subst mq rq
        have hnxb := q_nx_b hnx
        refine z_if_ne e_X1_readUpTo_11 ⟨by omega, by omega⟩ (fun h11_2 => ?_) (fun h11_2 => ?_)
        · obtain ⟨c, l2, el, ex, hq2, hcb9, ⟨j3, j5, j6, j7⟩, ⟨j8, j81⟩, ⟨j9, j91, j10, j101⟩, hrc, hat, hats, j11, j12, j13, j14⟩ := q_nx_1 hnx (by omega) (by omega) (by omega) (by omega)
          refine z_iinc (y := (k + 1)) (ls' := [some (zo q), some (zi number), some (zi (k + 1))]) e_X1_readUpTo_16 rfl rfl rfl rfl rfl ?_
          refine z_goto e_X1_readUpTo_19 ?_
          exact ih2 _ (by omega) (k + 1) G9 l2 rfl (⟨by omega, by omega, hq2, by omega, by omega, by omega, by omega, by rw [el, List.length_cons] at hlen; omega, by rw [← k5] at hrl ⊢; rw [hrl, hrc], fun hk => by have h1 := hlo (by omega); rw [← k5] at h1 ⊢; rw [h1.1, h1.2, show (number - k).toNat = (number - (k + 1)).toNat + 1 by omega, hats]; refine ⟨rfl, ?_⟩; rw [el]; rfl, fun hk => by have h1 := hlo (by omega); rw [← k5] at h1 ⊢; rw [h1.1, h1.2, show (number - k).toNat = 0 by omega, hat]; refine ⟨?_, rfl⟩; rw [el, j6]; rfl⟩)
        · obtain ⟨el, hq2, hsm⟩ := q_nx_0 hnx (by omega)
          refine z_iconst e_X1_readUpTo_14 ?_
          refine z_iret e_X1_readUpTo_15 (Or.inr ⟨rfl, Or.inl rfl⟩) rfl rfl ⟨rfl, _, rfl, ?_⟩
          subst el
          rw [List.length_nil] at hlen
          refine ⟨G9, rfl, rfl, (hsm 5 (by decide) (by decide) (by decide)).trans k5, Or.inr ⟨by omega, rfl, ?_, ?_⟩⟩
          · rw [hrl, hsm 8 (by decide) (by decide) (by decide), hsm 10 (by decide) (by decide) (by decide)]; rfl
          · rw [hsm 7 (by decide) (by decide) (by decide)]; omega
  exact loop2 _ 0 G l rfl (⟨by omega, by omega, hl, rfl, by omega, by omega, by omega, by omega, by rw [h8, h10], fun _ => by rw [h8, h10, Int.sub_zero]; exact ⟨rfl, rfl⟩, fun q => absurd q (by omega)⟩)
set_option maxHeartbeats 1000000 in
set_option maxRecDepth 100000 in
theorem c_X1_signOf {E : z_E} {mi : z_Mi} {mr : z_Mr} {q s : Nat} {sg : Int → Nat} {P G : Int → Int} {f : Int → Option Nat} {b e k : Int} (tq : E.2.2[q]? = some (1, 0)) (hS : z_Sh E mi mr s sg P (p_rows P)) (hH : p_hd P) (hqs : q < s ∨ s + 71 ≤ q) (h0 : 0 ≤ b) (h1 : b ≤ e) (h2 : e < P 14 + P 1) (hk0 : 0 ≤ k) (hk1 : k ≤ 9998) : z_mi M_X1_signOf E [zo q, zo s, zi b, zi e, zi k] (z_u mi q G) (z_u mr q f) (fun x m r => x = m_sgA P b e k ∧ ∃ (G' : Int → Int) (f' : Int → Option Nat), m = z_u mi q G' ∧ r = z_u mr q f') := by
  obtain ⟨hw0, hw1, hh0, hh1, hf0, hf1, hf2, hr0, hr1, hc0, hc1, hp0, hp1, hk00, hk11, hi0, hi1, hkp, hP⟩ := id hH
  refine z_ofi (ls := [some (zo q), some (zo s), some (zi b), some (zi e), some (zi k)]) rfl (fun _ _ => trivial) ⟨rfl, rfl⟩ (Nat.le_of_ble_eq_true rfl) rfl ?_
  refine z_aload_n e_X1_signOf_0 rfl ?_
  refine z_aload_n e_X1_signOf_1 rfl ?_
  refine z_iload_n e_X1_signOf_2 rfl ?_
  refine z_iload_n e_X1_signOf_3 rfl ?_
  refine z_aload_n e_X1_signOf_4 rfl ?_
  refine z_geti (fi := 5) (x := (P 0)) e_X1_signOf_5 f_RX1_72 hS.1.1 rfl rfl ((congrFun (z_un (by omega)) _).trans hS.2.1.2.2.1) ?_
  refine z_callVv (M' := M_X1_begin) (As := [zo s, zi b, zi e, zi (P 0)]) (rest := []) e_X1_signOf_8 l_RX1_73 rfl rfl rfl rfl tq ⟨_, _, rfl⟩ (c_X1_begin tq (z_Sh_r hS hH hqs f) hH hqs (by omega) (by omega) (by omega)) (fun mq rq hq => ?_)
  obtain ⟨G8, e2q, e3q, hbq, y3, y5, y7, y8, y10, yk⟩ := hq
  rw [z_us, z_uu] at e3q
  subst mq rq
  refine z_aload_n e_X1_signOf_11 rfl ?_
  refine z_iload e_X1_signOf_12 rfl ?_
  refine z_callVi (M' := M_X1_readUpTo) (As := [zi k]) (rest := []) e_X1_signOf_14 l_RX1_77 rfl rfl rfl rfl tq ⟨_, _, rfl⟩ (c_X1_readUpTo tq (z_Sh_r hS hH hqs _) hH hqs (by rw [z_us]; exact z_vs _ _ _) hbq (m_line_len hH (by omega) (by omega) (by omega)) (by omega) (by omega) (by omega) (by omega) y7 y8 y10) (fun xn mq rq hq => ?_)
  obtain ⟨G9, e2q, e3q, n5, hru⟩ := hq
  subst mq rq
  have hxb : xn = 0 ∨ xn = 1 := by rcases hru with q | q <;> omega
  refine z_if_eq e_X1_signOf_17 ⟨by omega, by omega⟩ (fun h17_1 => ?_) (fun h17_1 => ?_)
  · obtain ⟨hn1, hn2, hn3, hn4⟩ := hru.resolve_left (fun q => absurd q.2.1 (by omega))
    refine z_bipush e_X1_signOf_27 (by decide +kernel) ?_
    refine z_iret e_X1_signOf_29 (Or.inl rfl) rfl rfl ⟨rfl, _, rfl, ?_⟩
    refine ⟨?_, _, _, rfl, rfl⟩
    unfold m_sgA
    rw [List.getElem?_eq_none (by omega)]; rfl
  · obtain ⟨hn1, hn2, hn3, hn4⟩ := hru.resolve_right (fun q => absurd q.2.1 (by omega))
    refine z_aload_n e_X1_signOf_20 rfl ?_
    refine z_geti (fi := 6) (x := (G9 6)) e_X1_signOf_21 f_RX1_31 tq rfl rfl (congrFun (z_us _ _ _) _) ?_
    refine z_goto e_X1_signOf_24 ?_
    refine z_iret e_X1_signOf_29 (Or.inl rfl) rfl rfl ⟨rfl, _, rfl, ?_⟩
    refine ⟨?_, _, _, rfl, rfl⟩
    unfold m_sgA
    rw [hn3]; rfl
