theorem size_step {l : List Int} {s : Int} (h0 : 0 < s) (h1 : s ≤ l.length) (hx : (l[(s - 1).toNat]?).getD (-9) = 32) : t_rim (l.take (s - 1).toNat) = t_rim (l.take s.toNat) := by
  have hl : (s - 1).toNat < l.length := by omega
  rw [show s.toNat = (s - 1).toNat + 1 by omega, List.take_add_one, List.getElem?_eq_getElem hl]
  rw [List.getElem?_eq_getElem hl] at hx
  have hx : l[(s - 1).toNat] = 32 := hx
  rw [hx]
  exact (t_rim_pad _ 1).symm
theorem size_end1 {l : List Int} {s : Int} (h : t_rim (l.take s.toNat) = t_rim l) (h0 : 0 ≤ s) (h1 : s ≤ 0) : s = (t_rim l).length := by
  rw [show s.toNat = 0 by omega] at h
  have h : ([] : List Int) = t_rim l := h
  rw [← h]
  show s = ((0 : Nat) : Int)
  omega
theorem size_end2 {l : List Int} {s : Int} (h : t_rim (l.take s.toNat) = t_rim l) (h0 : 0 < s) (h1 : s ≤ l.length) (hx : (l[(s - 1).toNat]?).getD (-9) ≠ 32) : s = (t_rim l).length := by
  have hl : (s - 1).toNat < l.length := by omega
  rw [show s.toNat = (s - 1).toNat + 1 by omega, List.take_add_one, List.getElem?_eq_getElem hl] at h
  rw [List.getElem?_eq_getElem hl] at hx
  have hx : l[(s - 1).toNat] ≠ 32 := hx
  have h : t_rim (l.take (s - 1).toNat ++ [l[(s - 1).toNat]]) = t_rim l := h
  rw [t_rim_ne hx] at h
  rw [← h, List.length_append, List.length_take]
  show s = ((min (s - 1).toNat l.length + 1 : Nat) : Int)
  omega
