section ZMORE
variable {M : z_M} {E : z_E} {kc ks pc n tgt : Nat} {off : Int} {ls : List (Option z_V)} {st : List z_V} {mi : z_Mi} {mr : z_Mr} {Q : z_Q}
/-! switches -/
theorem z_tsOut {len : Nat} {dflt lo hi x : Int} {offs : Array Int} (hd : z_D len M pc n (.tableswitch dflt lo hi offs)) (hx : z_R x) (h : x < lo ∨ hi < x) (ht : (pc : Int) + dflt = (tgt : Int)) (k : z_A M E kc ks tgt ls st mi mr Q) : z_A M E kc ks pc ls (zi x :: st) mi mr Q := by
  intro b0 p l e s m args below meth c H locs lsA Qm hC hP hD hS hL hK
  exact lv_tableOut hC.1 hC.2.1 hd.1 (by rw [z_I_toInt hx]; exact h) ht (k b0 p l e s m args below meth c H locs lsA Qm hC hP hD hS hL hK)
theorem z_tsIn {len : Nat} {dflt lo hi x : Int} {offs : Array Int} (hd : z_D len M pc n (.tableswitch dflt lo hi offs)) (hx : z_R x) (h1 : lo ≤ x) (h2 : x ≤ hi) (ho : offs[(x - lo).toNat]? = some off) (ht : (pc : Int) + off = (tgt : Int)) (k : z_A M E kc ks tgt ls st mi mr Q) : z_A M E kc ks pc ls (zi x :: st) mi mr Q := by
  intro b0 p l e s m args below meth c H locs lsA Qm hC hP hD hS hL hK
  exact lv_tableIn hC.1 hC.2.1 hd.1 (by rw [z_I_toInt hx]; omega) (by rw [z_I_toInt hx]; omega) (by rw [z_I_toInt hx]; exact ho) ht (k b0 p l e s m args below meth c H locs lsA Qm hC hP hD hS hL hK)
theorem z_lsw {len : Nat} {dflt x : Int} {ps : Array (Int × Int)} (hd : z_D len M pc n (.lookupswitch dflt ps)) (hx : z_R x) (hp : (ps.toList.zip (ps.toList.drop 1)).all (fun (a, next) => a.1 < next.1) = true) (ho : Op.lookupswitch.offset ps.toList dflt x = off) (ht : (pc : Int) + off = (tgt : Int)) (k : z_A M E kc ks tgt ls st mi mr Q) : z_A M E kc ks pc ls (zi x :: st) mi mr Q := by
  intro b0 p l e s m args below meth c H locs lsA Qm hC hP hD hS hL hK
  exact lv_lookup hC.1 hC.2.1 hd.1 hp (by rw [z_I_toInt hx]; exact ho) ht (k b0 p l e s m args below meth c H locs lsA Qm hC hP hD hS hL hK)
/-! Math -/
def z_LM (own : String) (idx : Nat) (y : MethodName) (b : ByteArray) (nL : Nat) : Prop := Cond.methodLink own idx y ∈ z_WG ∧ Cond.static y ∈ z_WG ∧ Cond.initialized "java/lang/Math" ∈ z_WG ∧ Cond.code y b nL (some .int) ∈ z_WG
def z_mroom (M : z_M) (kc ks : Nat) : Bool := Nat.ble 1 (z_mR M).frames && (Nat.ble 21 (z_mR M).locals && (Nat.ble kc (z_mR M).cells && Nat.ble ks (z_mR M).slots))
theorem z_mroom_of (h : z_mroom M kc ks = true) : 1 ≤ (z_mR M).frames ∧ 21 ≤ (z_mR M).locals ∧ kc ≤ (z_mR M).cells ∧ ks ≤ (z_mR M).slots := by
  simp only [z_mroom, Bool.and_eq_true] at h
  exact ⟨Nat.le_of_ble_eq_true h.1, Nat.le_of_ble_eq_true h.2.1, Nat.le_of_ble_eq_true h.2.2.1, Nat.le_of_ble_eq_true h.2.2.2⟩
theorem z_max {idx : Nat} {a b x : Int} (hd : z_D 3 M pc n (.invokestatic idx)) (hl : z_LM (z_my M).cls idx Lib.Math.max.name Lib.Math.max.code 2) (hr : z_mroom M kc ks = true) (hcat : Nat.ble (st.map z_cat).sum 8 = true) (ha : z_R a) (hb : z_R b) (hx : (if a < b then b else a) = x) (k : z_A M E kc ks n ls (zi x :: st) mi mr Q) : z_A M E kc ks pc ls (zi b :: zi a :: st) mi mr Q := by
  intro b0 p l e s m args below meth c H locs lsA Qm hC hP hD hS hL hK
  obtain ⟨hd, rfl⟩ := hd
  subst hx
  obtain ⟨r1, r2, r3, r4⟩ := z_mroom_of hr
  have hw := hC.2.2.2.2.1
  have k1 := k b0 p l e s m args below meth c H locs lsA Qm hC hP hD hS hL hK
  have hcat := Nat.le_of_ble_eq_true hcat
  refine va_mmax hC.1 hC.2.1 (hC.2.2.1.trans hL.1.symm) hC.2.2.2.1 (hw _ hl.1) (hw _ hl.2.1) (hw _ hl.2.2.1) (hw _ hl.2.2.2) r1 (by rw [z_cats]; omega) r3 r4 hd ?_
  have e : (if z_I a < z_I b then z_I b else z_I a) = z_I (if a < b then b else a) := by
    by_cases h : a < b
    · rw [if_pos h, if_pos ((z_I_lt ha hb).mpr h)]
    · rw [if_neg h, if_neg (fun q => h ((z_I_lt ha hb).mp q))]
  rw [e]; exact k1
theorem z_min {idx : Nat} {a b x : Int} (hd : z_D 3 M pc n (.invokestatic idx)) (hl : z_LM (z_my M).cls idx Lib.Math.min.name Lib.Math.min.code 2) (hr : z_mroom M kc ks = true) (hcat : Nat.ble (st.map z_cat).sum 8 = true) (ha : z_R a) (hb : z_R b) (hx : (if b < a then b else a) = x) (k : z_A M E kc ks n ls (zi x :: st) mi mr Q) : z_A M E kc ks pc ls (zi b :: zi a :: st) mi mr Q := by
  intro b0 p l e s m args below meth c H locs lsA Qm hC hP hD hS hL hK
  obtain ⟨hd, rfl⟩ := hd
  subst hx
  obtain ⟨r1, r2, r3, r4⟩ := z_mroom_of hr
  have hw := hC.2.2.2.2.1
  have k1 := k b0 p l e s m args below meth c H locs lsA Qm hC hP hD hS hL hK
  have hcat := Nat.le_of_ble_eq_true hcat
  refine va_mmin hC.1 hC.2.1 (hC.2.2.1.trans hL.1.symm) hC.2.2.2.1 (hw _ hl.1) (hw _ hl.2.1) (hw _ hl.2.2.1) (hw _ hl.2.2.2) r1 (by rw [z_cats]; omega) r3 r4 hd ?_
  have e : (if z_I b < z_I a then z_I b else z_I a) = z_I (if b < a then b else a) := by
    by_cases h : b < a
    · rw [if_pos h, if_pos ((z_I_lt hb ha).mpr h)]
    · rw [if_neg h, if_neg (fun q => h ((z_I_lt hb ha).mp q))]
  rw [e]; exact k1
theorem z_abs {idx : Nat} {a x : Int} (hd : z_D 3 M pc n (.invokestatic idx)) (hl : z_LM (z_my M).cls idx Lib.Math.abs.name Lib.Math.abs.code 1) (hr : z_mroom M kc ks = true) (hcat : Nat.ble (st.map z_cat).sum 8 = true) (ha : z_R a) (hx : (if 0 ≤ a then a else 0 - a) = x) (k : z_A M E kc ks n ls (zi x :: st) mi mr Q) : z_A M E kc ks pc ls (zi a :: st) mi mr Q := by
  intro b0 p l e s m args below meth c H locs lsA Qm hC hP hD hS hL hK
  obtain ⟨hd, rfl⟩ := hd
  subst hx
  obtain ⟨r1, r2, r3, r4⟩ := z_mroom_of hr
  have hw := hC.2.2.2.2.1
  have k1 := k b0 p l e s m args below meth c H locs lsA Qm hC hP hD hS hL hK
  have hcat := Nat.le_of_ble_eq_true hcat
  refine va_mabs hC.1 hC.2.1 (hC.2.2.1.trans hL.1.symm) hC.2.2.2.1 (hw _ hl.1) (hw _ hl.2.1) (hw _ hl.2.2.1) (hw _ hl.2.2.2) r1 (by rw [z_cats]; omega) r3 r4 hd ?_
  have e : (if 0 ≤ z_I a then z_I a else 0 - z_I a) = z_I (if 0 ≤ a then a else 0 - a) := by
    rw [← z_I_0, z_I_sub]
    by_cases h : 0 ≤ a
    · rw [if_pos h, if_pos ((z_I_le z_R0 ha).mpr h)]
    · rw [if_neg h, if_neg (fun q => h ((z_I_le z_R0 ha).mp q))]
  rw [e]; exact k1
/-! a copy of the first cells of an array of numbers -/
def z_cpy (f g : Int → Int) (k : Int) : Int → Int := fun j => if 0 ≤ j ∧ j < k then f j else g j
theorem z_copy {idx a0 a n0 n1 : Nat} {cnt : Int} (hd : z_D 3 M pc n (.invokestatic idx)) (h1 : Cond.methodLink (z_my M).cls idx arraycopyName ∈ z_WG) (h2 : Cond.native arraycopyName ∈ z_WG) (h3 : Cond.static arraycopyName ∈ z_WG) (h4 : Cond.initialized "java/lang/System" ∈ z_WG) (hr : Nat.ble 1 (z_mR M).frames = true) (hr2 : Nat.ble (8 + (nativeFrameWords "java/lang/System" "arraycopy" 5 + 11)) (z_mR M).locals = true) (hcat : Nat.ble (st.map z_cat).sum 8 = true)
    (ht0 : E.2.2[a0]? = some (10, n0)) (ht : E.2.2[a]? = some (10, n1)) (hc0 : 0 ≤ cnt) (hc1 : cnt ≤ (n0 : Int)) (hc2 : cnt ≤ (n1 : Int)) (hc3 : cnt ≤ 2147483647)
    (k : z_A M E kc ks n ls st (z_u mi a (z_cpy (mi a0) (mi a) cnt)) mr Q) : z_A M E kc ks pc ls (zi cnt :: zi 0 :: zo a :: zi 0 :: zo a0 :: st) mi mr Q := by
  intro b0 p l e s m args below meth c H locs lsA Qm hC hP hD hS hL hK
  obtain ⟨hd, rfl⟩ := hd
  have hw := hC.2.2.2.2.1
  have he0 : (z_W E mi mr)[a0]? = some (E.2.1 a0, .inl (E.1.2.1, n0, .inl fun j => z_I (mi a0 (j : Nat)))) := by rw [z_W_get ht0, z_ce_i]
  have he : (z_W E mi mr)[a]? = some (E.2.1 a, .inl (E.1.2.1, n1, .inl fun j => z_I (mi a (j : Nat)))) := by rw [z_W_get ht, z_ce_i]
  have e0 : (z_I 0).toNatClampNeg = 0 := by rw [z_I_clamp (by omega) (by omega)]; rfl
  have e1 : (z_I cnt).toNatClampNeg = cnt.toNat := z_I_clamp hc0 hc3
  have n0' : ¬ z_I 0 < 0 := by rw [z_I_0]; decide
  have n1' : ¬ z_I cnt < 0 := by rw [← z_I_0, z_I_lt ⟨by omega, hc3⟩ z_R0]; omega
  have hcat := Nat.le_of_ble_eq_true hcat
  have hr2 := Nat.le_of_ble_eq_true hr2
  refine va_copyi hC.1 hC.2.1 (hC.2.2.1.trans hL.1.symm) hC.2.2.2.1 (hw _ h1) (hw _ h2) (hw _ h3) (hw _ h4) hC.2.2.2.2.2.2.1 hP.1 hD hS a0 a 0 0 he0 he rfl rfl rfl n0' n0' n1' (by rw [e0, e1]; omega) (by rw [e0, e1]; omega) (fun i _ => rfl) (Nat.le_of_ble_eq_true hr) (by rw [z_cats]; omega) hd (fun H1 locs1 g1 g2 g3 => ?_)
  have e5 : va_cpy (fun j : Nat => z_I (mi a0 (j : Nat))) (fun j : Nat => z_I (mi a (j : Nat))) (z_I 0).toNatClampNeg (z_I 0).toNatClampNeg (z_I cnt).toNatClampNeg = fun j : Nat => z_I (z_cpy (mi a0) (mi a) cnt (j : Nat)) := by
    rw [e0, e1]
    funext j
    unfold va_cpy z_cpy
    by_cases h : j < cnt.toNat
    · rw [if_pos ⟨by omega, by omega⟩, if_pos ⟨by omega, by omega⟩]
      show z_I (mi a0 ((0 + (j - 0) : Nat) : Int)) = _
      rw [show 0 + (j - 0) = j by omega]
    · rw [if_neg (by omega), if_neg (by omega)]
  rw [e5] at g1 g2
  have e8 := z_W_set (mi := mi) (mr := mr) (z_cpy (mi a0) (mi a) cnt) (mr a) ht
  rw [z_ce_i, z_uself] at e8
  rw [e8] at g1 g2
  exact k b0 p l e s m args below meth c H1 locs1 lsA Qm hC ⟨g1, hP.2⟩ g2 g3 hL hK
end ZMORE
/-! loops: a measure that falls -/
theorem z_loop {σ : Type} {P : σ → Prop} (I : σ → Prop) (μ : σ → Nat) (hs : ∀ x, I x → (∀ y, I y → μ y < μ x → P y) → P x) : ∀ x, I x → P x := by
  have h : ∀ (k : Nat) (x : σ), μ x = k → I x → P x := by
    intro k
    induction k using Nat.strongRecOn with
    | _ k ih =>
      intro x hx hI
      subst hx
      exact hs x hI (fun y hy hlt => ih (μ y) hlt y rfl hy)
  exact fun x hx => h (μ x) x rfl hx
