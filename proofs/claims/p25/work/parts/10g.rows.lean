/-! rows put in and taken away one at a time, as the class does -/
def o_ins (P : Int → Int) (m : Int) : Int → Int → Int := fun k c =>
  if P 14 + P 4 ≤ k ∧ k < P 14 + P 4 + m then r_blank c
  else if P 14 + P 4 + m ≤ k ∧ k ≤ P 14 + P 3 then (if k = P 14 + P 3 ∧ 1 ≤ m ∧ (c = 20 ∨ c = 21) then 0 else p_rows P (k - m) c)
  else if k = P 14 + P 4 - 1 ∧ 1 ≤ m ∧ (c = 20 ∨ c = 21) then 0 else p_rows P k c
def o_del (P : Int → Int) (m : Int) : Int → Int → Int := fun k c =>
  if k = P 14 + P 4 - 1 ∧ 1 ≤ m ∧ (c = 20 ∨ c = 21) then 0
  else if P 14 + P 4 ≤ k ∧ k ≤ P 14 + P 3 - m then (if k + m = P 14 + P 3 ∧ 1 ≤ m ∧ (c = 20 ∨ c = 21) then 0 else p_rows P (k + m) c)
  else if P 14 + P 3 - m < k ∧ k ≤ P 14 + P 3 then r_blank c else p_rows P k c
theorem z_ifa (p : Prop) [Decidable p] (f g : Int → Int) (c : Int) : (if p then f else g) c = if p then f c else g c := by split <;> rfl
theorem o_ins_0 (P : Int → Int) (k c : Int) : o_ins P 0 k c = p_rows P k c := by
  unfold o_ins
  by_cases q : P 14 + P 4 ≤ k ∧ k ≤ P 14 + P 3
  · rw [if_neg (by omega), if_pos (by omega), if_neg (by omega), Int.sub_zero]
  · rw [if_neg (by omega), if_neg (by omega), if_neg (by omega)]
theorem o_del_0 (P : Int → Int) (k c : Int) : o_del P 0 k c = p_rows P k c := by
  unfold o_del
  rw [if_neg (by omega)]
  by_cases q : P 14 + P 4 ≤ k ∧ k ≤ P 14 + P 3
  · rw [if_pos (by omega), if_neg (by omega), Int.add_zero]
  · rw [if_neg (by omega), if_neg (by omega)]
theorem o_ins_s {P : Int → Int} {m k c : Int} (h0 : 0 ≤ m) (h1 : P 4 + m ≤ P 3) :
    o_ins P (m + 1) k c = (if k = P 14 + P 3 then r_unw ((fun k => if k = P 14 + P 4 then r_blank else (fun k => if k = P 14 + P 4 - 1 then r_unw (o_ins P m k) else o_ins P m k) (cy_i (P 14 + P 3) (P 14 + P 4) k)) k) else (fun k => if k = P 14 + P 4 then r_blank else (fun k => if k = P 14 + P 4 - 1 then r_unw (o_ins P m k) else o_ins P m k) (cy_i (P 14 + P 3) (P 14 + P 4) k)) k) c := by
  dsimp only
  generalize hq : P 14 + P 4 = a at *
  have h1' : a + m ≤ P 14 + P 3 := by omega
  generalize hb : P 14 + P 3 = b at *
  by_cases q1 : k < a - 1
  · have hc : cy_i b a k = k := by unfold cy_i; rw [if_neg (by omega), if_neg (by omega), if_neg (by omega)]
    rw [hc, if_neg (by omega), if_neg (by omega), if_neg (by omega)]
    unfold o_ins; grind
  · by_cases q2 : k = a - 1
    · have hc : cy_i b a k = k := by unfold cy_i; rw [if_neg (by omega), if_neg (by omega), if_neg (by omega)]
      rw [hc, if_neg (by omega), if_neg (by omega), if_pos q2, r_unw_x]
      unfold o_ins; grind
    · by_cases q3 : k = a
      · rw [if_pos q3]
        by_cases q4 : k = b
        · rw [if_pos q4, r_unw_x]; unfold o_ins r_blank; grind
        · rw [if_neg q4]; unfold o_ins; grind
      · by_cases q4 : k ≤ b
        · have hc : cy_i b a k = k - 1 := by unfold cy_i; rw [if_neg (by omega), if_pos (by omega)]
          rw [hc]
          by_cases q5 : k = b
          · rw [if_pos q5, if_neg q3, if_neg (show ¬ k - 1 = a - 1 by omega), r_unw_x]
            unfold o_ins r_blank; grind
          · rw [if_neg q5, if_neg q3, if_neg (show ¬ k - 1 = a - 1 by omega)]
            unfold o_ins r_blank; grind
        · have hc : cy_i b a k = k := by unfold cy_i; rw [if_neg (by omega), if_neg (by omega), if_neg (by omega)]
          rw [hc, if_neg (by omega), if_neg (by omega), if_neg (by omega)]
          unfold o_ins; grind
theorem o_del_s {P : Int → Int} {m k c : Int} (h0 : 0 ≤ m) (h1 : P 4 + m ≤ P 3) :
    o_del P (m + 1) k c = (if k = P 14 + P 3 then r_blank else (fun k => if k = P 14 + P 3 then r_unw ((fun k => if k = P 14 + P 4 - 1 then r_unw (o_del P m k) else o_del P m k) k) else (fun k => if k = P 14 + P 4 - 1 then r_unw (o_del P m k) else o_del P m k) k) (cy_i (P 14 + P 4) (P 14 + P 3) k)) c := by
  dsimp only
  generalize hq : P 14 + P 4 = a at *
  have h1' : a + m ≤ P 14 + P 3 := by omega
  generalize hb : P 14 + P 3 = b at *
  by_cases q3 : k = b
  · rw [if_pos q3]; unfold o_del; grind
  · rw [if_neg q3]
    by_cases q1 : k < a - 1
    · have hc : cy_i a b k = k := by unfold cy_i; rw [if_neg (by omega), if_neg (by omega), if_neg (by omega)]
      rw [hc, if_neg (by omega), if_neg (by omega)]
      unfold o_del; grind
    · by_cases q2 : k = a - 1
      · have hc : cy_i a b k = k := by unfold cy_i; rw [if_neg (by omega), if_neg (by omega), if_neg (by omega)]
        rw [hc, if_neg (by omega), if_pos q2, r_unw_x]
        unfold o_del; grind
      · by_cases q4 : k < b
        · have hc : cy_i a b k = k + 1 := by unfold cy_i; rw [if_pos (by omega)]
          rw [hc, if_neg (show ¬ k + 1 = a - 1 by omega)]
          by_cases q5 : k + 1 = b
          · rw [if_pos q5, r_unw_x]
            unfold o_del r_blank; grind
          · rw [if_neg q5]
            unfold o_del r_blank; grind
        · have hc : cy_i a b k = k := by unfold cy_i; rw [if_neg (by omega), if_neg (by omega), if_neg (by omega)]
          rw [hc, if_neg (by omega), if_neg (by omega)]
          unfold o_del; grind
theorem p_fill_pos {P : Int → Int} {q : Int} (h0 : 0 ≤ q) {r : Int → Int} (hr : ∀ c, 0 ≤ c → c < P 0 → r c = p_rows P (P 14 + q) c) : n_used r (P 0).toNat = 0 ↔ ¬ 0 < m_fill P (24 + q) := by
  rw [← p_rows_fill h0, n_used_c (r := r) (r' := p_rows P (P 14 + q)) (fun k k0 k1 => hr k k0 (by omega))]
  have := n_used_b (p_rows P (P 14 + q)) (P 0).toNat
  omega
theorem o_ins_blank {P : Int → Int} {m : Int} (h0 : 0 ≤ m) (h1 : P 4 + m ≤ P 3) (h4 : 0 ≤ P 4) (hW : P 0 ≤ 20) : n_used (o_ins P m (P 14 + P 3)) (P 0).toNat = 0 ↔ ¬ 0 < m_fill P (24 + (P 3 - m)) :=
  p_fill_pos (by omega) (fun c c0 c1 => by
    unfold o_ins
    rw [if_neg (by omega), if_pos (by omega), if_neg (by omega), show P 14 + P 3 - m = P 14 + (P 3 - m) by omega])
theorem o_del_blank {P : Int → Int} {m : Int} (h0 : 0 ≤ m) (h1 : P 4 + m ≤ P 3) (h4 : 0 ≤ P 4) (hW : P 0 ≤ 20) : n_used (o_del P m (P 14 + P 4)) (P 0).toNat = 0 ↔ ¬ 0 < m_fill P (24 + (P 4 + m)) :=
  p_fill_pos (by omega) (fun c c0 c1 => by
    unfold o_del
    rw [if_neg (by omega), if_pos (by omega), if_neg (by omega), show P 14 + P 4 + m = P 14 + (P 4 + m) by omega])
theorem m_many_b {n : Int} {P : Int → Int} (hn : 1 ≤ n) (hr : P 4 ≤ P 3) : 1 ≤ m_many n P ∧ m_many n P ≤ n ∧ m_many n P ≤ P 3 - P 4 + 1 ∧ (m_many n P = n ∨ m_many n P = P 3 - P 4 + 1) := by unfold m_many; split <;> omega
