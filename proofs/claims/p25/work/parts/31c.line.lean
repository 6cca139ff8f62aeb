theorem sgA_R {P : Int → Int} {b e k : Int} (hH : p_hd P) : z_R (m_sgA P b e k) := by
  unfold m_sgA
  cases h : (m_line P b e)[k.toNat]? with
  | none => exact ⟨by decide, by decide⟩
  | some a =>
    have := m_line_bb (p_hd_pr hH) b e a (List.mem_of_getElem? h)
    show -2147483648 ≤ a ∧ a ≤ 2147483647
    omega
