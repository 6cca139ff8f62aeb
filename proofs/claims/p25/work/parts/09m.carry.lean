theorem e_X2_unmark {E : z_E} {mi : z_Mi} {mr : z_Mr} {s : Nat} {sg : Int → Nat} {P : Int → Int} {W n k : Int} {R : Int → Int → Int} (hc : z_Sc E mr s) (hd : z_Sd mi s P) (hr : z_Sr E mi mr s sg W n R) (hW : W ≤ 20) (hn : n ≤ 32) (h0 : 0 ≤ k) (h1 : k < 32) :
    z_mv M_X2_unmark E [zo (sg k)] mi mr (fun m r => ∃ sg' : Int → Nat, z_Sc E r s ∧ z_Sd m s P ∧ z_Sr E m r s sg' W n (fun j => if j = k then r_unw (R j) else R j) ∧ z_Fr s mi mr m r) :=
  z_mv_w (d_X2_unmark (hr.1 k h0 h1).2.1) (fun m r q => by
    obtain ⟨rfl, rfl⟩ := q
    exact ⟨sg, hc, z_Sd_un hd hr h0 h1, z_Sr_un hr hn hW h0 h1, z_Fr_un hr h0 h1⟩)
