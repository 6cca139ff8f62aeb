/-- the sheet's own numbers change; its rows do not lie there -/
theorem z_Sr_m {E : z_E} {mi m : z_Mi} {mr : z_Mr} {s : Nat} {sg : Int → Nat} {W n : Int} {R : Int → Int → Int} (hr : z_Sr E mi mr s sg W n R) (hn : n ≤ 32) (h : ∀ c, s + 4 ≤ c → c < s + 68 → m c = mi c) : z_Sr E m mr s sg W n R := by
  refine ⟨fun k k0 k1 => ?_, hr.2.1, fun k k0 k1 => ?_⟩
  · obtain ⟨e1, e2, e3, e4, e5, e6, e7⟩ := hr.1 k k0 k1
    rw [h (sg k) (by omega) (by omega), h (sg k + 1) (by omega) (by omega)]
    exact ⟨e1, e2, e3, e4, e5, e6, e7⟩
  · obtain ⟨e1, e2, e3, e4, e5, e6, e7⟩ := hr.1 k k0 (by omega)
    rw [h (sg k) (by omega) (by omega), h (sg k + 1) (by omega) (by omega)]
    exact hr.2.2 k k0 k1
theorem z_Sr_s {E : z_E} {mi : z_Mi} {mr : z_Mr} {s : Nat} {sg : Int → Nat} {W n : Int} {R : Int → Int → Int} {F : Int → Int} (hr : z_Sr E mi mr s sg W n R) (hn : n ≤ 32) : z_Sr E (z_u mi s F) mr s sg W n R := z_Sr_m hr hn (fun c c0 c1 => z_un (by omega))
theorem z_Fr_s {s : Nat} {mi : z_Mi} {mr : z_Mr} {F : Int → Int} : z_Fr s mi mr (z_u mi s F) mr := fun c hc => ⟨z_un (by omega), rfl⟩
theorem z_Sd_14 {mi : z_Mi} {s : Nat} {P : Int → Int} {v : Int} (h : z_Sd mi s P) (h7 : P 7 ≤ 3) : z_Sd (z_u mi s (z_v (mi s) 4 v)) s (z_v P 14 v) := by
  obtain ⟨d3, d4, d5, d6, d7, d8, u0, u1, u2, uk, uz⟩ := h
  unfold z_Sd
  rw [z_us, z_un (show s + 2 ≠ s by omega)]
  refine ⟨?_, ?_, ?_, ?_, ?_, ?_, ?_, ?_, ?_, fun j j0 j1 => ?_, fun j j0 j1 => ?_⟩
  · rw [z_vn (by decide), z_vn (by decide)]; exact d3
  · rw [z_vs, z_vs]
  · rw [z_vn (by decide), z_vn (by decide)]; exact d5
  · rw [z_vn (by decide), z_vn (by decide)]; exact d6
  · rw [z_vn (by decide), z_vn (by decide)]; exact d7
  · rw [z_vn (by decide), z_vn (by decide)]; exact d8
  · rw [z_vn (by decide)]; exact u0
  · rw [z_vn (by decide)]; exact u1
  · rw [z_vn (by decide)]; exact u2
  · rw [z_vn (by decide)] at j1
    rw [z_un (by omega), z_vn (by omega), z_vn (by omega)]; exact uk j j0 j1
  · rw [z_un (by omega)]; exact uz j j0 j1
