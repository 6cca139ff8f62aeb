theorem z_un_full (mi : z_Mi) (a : Nat) (F : Int → Int) : z_u mi a F = z_u (z_u mi a F) (a + 1) (mi (a + 1)) := by
  have e2 : mi (a + 1) = z_u mi a F (a + 1) := (z_un (by omega)).symm
  rw [e2]; exact (z_uself _ _).symm
section ZUN
variable {E : z_E} {mi : z_Mi} {mr : z_Mr} {s : Nat} {sg : Int → Nat} {P : Int → Int} {W n a : Int} {R : Int → Int → Int}
theorem z_Sd_un (hd : z_Sd mi s P) (hr : z_Sr E mi mr s sg W n R) (h0 : 0 ≤ a) (h1 : a < 32) : z_Sd (z_u mi (sg a) (c_un (mi (sg a)))) s P := by
  rw [z_un_full]; exact z_Sd_row hd (hr.1 a h0 h1).2.2.1 (hr.1 a h0 h1).2.2.2.1
theorem z_Fr_un (hr : z_Sr E mi mr s sg W n R) (h0 : 0 ≤ a) (h1 : a < 32) : z_Fr s mi mr (z_u mi (sg a) (c_un (mi (sg a)))) mr := by
  rw [z_un_full]; exact z_Fr_row (hr.1 a h0 h1).2.2.1 (hr.1 a h0 h1).2.2.2.1
theorem z_Sr_R {R' : Int → Int → Int} (hr : z_Sr E mi mr s sg W n R) (h : ∀ k, 0 ≤ k → k < n → R' k = R k) : z_Sr E mi mr s sg W n R' :=
  ⟨hr.1, hr.2.1, fun k k0 k1 => by rw [h k k0 k1]; exact hr.2.2 k k0 k1⟩
theorem z_Sr_un (hr : z_Sr E mi mr s sg W n R) (hn : n ≤ 32) (hW : W ≤ 20) (h0 : 0 ≤ a) (h1 : a < 32) : z_Sr E (z_u mi (sg a) (c_un (mi (sg a)))) mr s sg W n (fun k => if k = a then r_unw (R k) else R k) := by
  rw [z_un_full]
  have h := z_Sr_set (a := a) (r := r_unw (R a)) (F := c_un (mi (sg a))) (X := mi (sg a + 1)) hr hn h0 h1 (hr.1 a h0 h1).2.2.2.2.1 (Or.inl rfl) (Or.inl rfl) (fun q => ⟨c_un_rw (hr.2.2 a h0 q).1 hW, c_wf_unw (hr.2.2 a h0 q).2 hW⟩)
  refine z_Sr_R h (fun k _ _ => ?_)
  by_cases q : k = a
  · rw [if_pos q, if_pos q, q]
  · rw [if_neg q, if_neg q]
theorem z_Sr_un0 (hr : z_Sr E mi mr s sg W n R) (h : a < 0) : z_Sr E mi mr s sg W n (fun k => if k = a then r_unw (R k) else R k) := z_Sr_R hr (fun k k0 _ => if_neg (by omega))
end ZUN
