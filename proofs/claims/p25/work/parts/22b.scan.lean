theorem m_fillA_b {P : Int → Int} (hH : p_hd P) : 0 ≤ m_fillA P ∧ m_fillA P ≤ 160 := by
  obtain ⟨pw0, pw1, ph0, ph1, pf0, pf1, pf2, pr0, pr1, pc0, pc1, pp0, pp1, pk0, pk1, pi0, pi1, pkp, pP⟩ := id hH
  have h := n_sum_b (f := fun r => m_fill P (24 + r)) (b := 20) (P 1).toNat (fun k _ _ => by
    have := n_cnt_b (fun c => P (15 + 22 * (24 + k) + c) ≠ 32) (P 0).toNat
    show 0 ≤ n_cnt (fun c => P (15 + 22 * (24 + k) + c) ≠ 32) (P 0).toNat ∧ n_cnt (fun c => P (15 + 22 * (24 + k) + c) ≠ 32) (P 0).toNat ≤ 20
    omega)
  unfold m_fillA
  omega
theorem s_sg_b {R : Int → Int} {c : Int} (h : 0 ≤ c) : 0 ≤ s_sg R c ∧ s_sg R c ≤ c := by
  have := n_cnt_b (fun c => R c ≠ 32 ∧ ¬ 128 ≤ R c) c.toNat
  unfold s_sg; omega
theorem s_tk_b {R : Int → Int} {c : Int} (h : 0 ≤ c) : 0 ≤ s_tk R c ∧ s_tk R c ≤ c := by
  have := n_cnt_b (fun c => R c ≠ 32) c.toNat
  unfold s_tk; omega
