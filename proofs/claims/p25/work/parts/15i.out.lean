theorem p_o_ers {P : Int → Int} {a b : Int} (h : p_hd P) (a0 : 0 ≤ a) (b1 : b ≤ 8) : p_out P (p_ers P a b) := by
  unfold p_ers
  refine n_it_p (fun Q => p_out P Q) _ (p_o_r P) (fun k q k0 k1 hb => ?_)
  exact p_o_upd hb (by omega)
theorem p_o_v6 {P Q : Int → Int} (h : p_out P Q) : p_out (z_v P 6 0) Q := fun k k0 k1 => (h k k0 k1).trans (z_vn (by omega)).symm
