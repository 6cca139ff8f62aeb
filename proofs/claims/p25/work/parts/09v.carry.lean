theorem z_Sd_cur {mi : z_Mi} {s : Nat} {P : Int → Int} {i v : Int} (h : z_Sd mi s P) (hi : i = 0 ∨ i = 1 ∨ i = 2) (h7 : P 7 ≤ 3) : z_Sd (z_u mi (s + 2) (z_v (mi (s + 2)) i v)) s (z_v P (4 + i) v) := by
  obtain ⟨d3, d4, d5, d6, d7, d8, u0, u1, u2, uk, uz⟩ := h
  unfold z_Sd
  rw [z_us, z_un (show s ≠ s + 2 by omega)]
  refine ⟨?_, ?_, ?_, ?_, ?_, ?_, ?_, ?_, ?_, fun j j0 j1 => ?_, fun j j0 j1 => ?_⟩
  · rw [z_vn (by omega)]; exact d3
  · rw [z_vn (by omega)]; exact d4
  · rw [z_vn (by omega)]; exact d5
  · rw [z_vn (by omega)]; exact d6
  · rw [z_vn (by omega)]; exact d7
  · rw [z_vn (by omega)]; exact d8
  · unfold z_v; rcases hi with rfl | rfl | rfl <;> simp [u0]
  · unfold z_v; rcases hi with rfl | rfl | rfl <;> simp [u1]
  · unfold z_v; rcases hi with rfl | rfl | rfl <;> simp [u2]
  · rw [z_vn (by omega)] at j1
    rw [z_un (by omega), z_vn (by omega), z_vn (by omega)]; exact uk j j0 j1
  · rw [z_un (by omega)]; exact uz j j0 j1
theorem z_Sr_cur {E : z_E} {mi : z_Mi} {mr : z_Mr} {s : Nat} {sg : Int → Nat} {W n : Int} {R : Int → Int → Int} {F : Int → Int} (hr : z_Sr E mi mr s sg W n R) (hn : n ≤ 32) : z_Sr E (z_u mi (s + 2) F) mr s sg W n R := z_Sr_m hr hn (fun c c0 c1 => z_un (by omega))
theorem z_Fr_cur {s : Nat} {mi : z_Mi} {mr : z_Mr} {F : Int → Int} : z_Fr s mi mr (z_u mi (s + 2) F) mr := fun c hc => ⟨z_un (by omega), rfl⟩
theorem p_rows_v {P : Int → Int} {i v : Int} (hi : i < 14) (k c : Int) (k0 : 0 ≤ k) (h0 : 0 ≤ P 14) (h14 : P 14 ≤ 24) (c0 : 0 ≤ c) : p_rows (z_v P i v) k c = p_rows P k c := by
  have e : m_slot (z_v P i v) k = m_slot P k := by unfold m_slot; rw [z_vn (by omega)]
  have hs : 0 ≤ m_slot P k := by unfold m_slot; split <;> omega
  rw [p_rows_at, p_rows_at, e, z_vn (by omega)]
