/-! from the body to the contract -/
theorem z_qc_K {E : z_E} {U V : State} (h : va_K E.1.1 vwCl (z_tys E.1) U) (hv : U.vm.Alike V.vm) : va_K E.1.1 vwCl (z_tys E.1) V := va_K.moved hv h
theorem z_ct_of {M : z_M} {E : z_E} {as : List z_V} {ls : List (Option z_V)} {mi : z_Mi} {mr : z_Mr} {Q : z_Q} (hy : plainName (z_my M).cls = true) (hE : ∀ s b0, z_mE M s b0) (hn : (as.map z_cat).sum ≤ z_mn M) (hls : z_en as ++ List.replicate (z_mn M - (as.map z_cat).sum) none = ls)
    (h : z_A M E 0 0 0 ls [] mi mr Q) : z_ct M E as mi mr Q := by
  intro l b0
  refine Met.ofW (cc := z_mc M) (maxL := z_mn M) (ret := z_mr M) hy rfl ?_
  intro p e s m args below meth c s₁ B hml hv
  obtain ⟨rfl, hb0, hP, hK, hN, hD⟩ := hv
  have hx := B.exec
  have hb := B.bytes
  have hr := B.returns
  have hts := atoms_spec (ws := z_ws M) B.pre
  have hown : s.vm.findClass (z_my M).cls = some m.cls := findClass_of_methodNamed B.named
  have hlocks := B.notSynchronized
  have hin : meth.name = (z_my M).name := (name_of_methodNamed B.named B.method).1
  have hl := lv_entry (as.map (z_cv E.2.1)) (n := z_mn M) (by rw [z_sl_len]; exact hn)
  rw [lg_entry_eq]
  generalize (lg_sl (as.map (z_cv E.2.1)) ++ List.replicate (z_mn M - (lg_sl (as.map (z_cv E.2.1))).length) Slot.unset).toArray = lsA at hl ⊢
  have hl' : lv_has lsA (z_mn M) (z_L E.2.1 0 ls) := by rw [← hls, z_L_en]; exact hl
  refine h b0 p l e s m _ below meth c s.heap [] lsA _ ⟨hx, hb, hml, hown, fun w hw => hts w (List.mem_cons_of_mem _ hw), hN, hK, hb0, hin, hE s b0⟩ hP hD va_S.rf hl' ?_
  intro v E' mi' mr' H' locs' kc' ks' pc' lsA' hQ hG hP' hD' hS' hc hd h1 h2
  refine W.widen h1 h2 ?_
  have hq : ∀ (o : Option Value) (t : State), o = v.map (z_cv E'.2.1) → t.heap = H' → z_qc b0 E.1 Q (as.map (z_cv E.2.1)).toArray s (.returned o) t := fun o t ho ht => ⟨⟨v, E', mi', mr', hG, by rw [ho], hQ, by rw [ht]; exact hP', hD'⟩, hS'.F ht⟩
  cases v with
  | none => exact W.vret hx hb (hr.trans hc) (fun t ht _ => hq none t rfl ht) hS'.2.2 hd
  | some v =>
    rcases v with x | y | r
    · rcases hc with hc | ⟨hc, h0⟩
      · exact W.iret hx hb (hr.trans hc) (fun t ht _ => hq _ t rfl ht) hS'.2.2 hd
      · refine W.zret hx hb (hr.trans hc) ?_ (fun t ht _ => hq _ t rfl ht) hS'.2.2 hd
        rcases h0 with rfl | rfl <;> decide +kernel
    · exact W.lret hx hb (hr.trans hc) (fun t ht _ => hq _ t rfl ht) hS'.2.2 hd
    · obtain ⟨n, hc⟩ := hc
      refine W.aret hx hb (hr.trans hc) (Or.inl ⟨n, rfl⟩) ?_ (fun t ht _ => hq _ t rfl ht) hS'.2.2 hd
      cases r with
      | none => exact Or.inl rfl
      | some r => exact Or.inr ⟨_, rfl⟩
section ZROWS
variable {M : z_M} {E : z_E} {kc ks pc n tgt : Nat} {off : Int} {ls : List (Option z_V)} {st : List z_V} {mi : z_Mi} {mr : z_Mr} {Q : z_Q}
theorem z_iconst {x : Int} (hd : z_D 1 M pc n (.iconst x)) (k : z_A M E kc ks n ls (zi x :: st) mi mr Q) : z_A M E kc ks pc ls st mi mr Q := by
  intro b0 p l e s m args below meth c H locs lsA Qm hC hP hD hS hL hK
  obtain ⟨hd, rfl⟩ := hd
  exact lv_iconst hC.1 hC.2.1 hd rfl (k b0 p l e s m args below meth c H locs lsA Qm hC hP hD hS hL hK)
theorem z_bipush {x : Int} (hd : z_D 2 M pc n (.bipush x)) (hx : (Int8.ofInt x).toInt32 = z_I x) (k : z_A M E kc ks n ls (zi x :: st) mi mr Q) : z_A M E kc ks pc ls st mi mr Q := by
  intro b0 p l e s m args below meth c H locs lsA Qm hC hP hD hS hL hK
  obtain ⟨hd, rfl⟩ := hd
  exact lv_bipush hC.1 hC.2.1 hd hx (k b0 p l e s m args below meth c H locs lsA Qm hC hP hD hS hL hK)
theorem z_sipush {x : Int} (hd : z_D 3 M pc n (.sipush x)) (hx : (Int16.ofInt x).toInt32 = z_I x) (k : z_A M E kc ks n ls (zi x :: st) mi mr Q) : z_A M E kc ks pc ls st mi mr Q := by
  intro b0 p l e s m args below meth c H locs lsA Qm hC hP hD hS hL hK
  obtain ⟨hd, rfl⟩ := hd
  exact lv_sipush hC.1 hC.2.1 hd hx (k b0 p l e s m args below meth c H locs lsA Qm hC hP hD hS hL hK)
theorem z_ldc2 {idx : Nat} {x : Int64} (hd : z_D 3 M pc n (.ldc2_w idx)) (hw : Cond.constantLong (z_my M).cls idx x ∈ z_WG) (k : z_A M E kc ks n ls (zl x :: st) mi mr Q) : z_A M E kc ks pc ls st mi mr Q := by
  intro b0 p l e s m args below meth c H locs lsA Qm hC hP hD hS hL hK
  obtain ⟨hd, rfl⟩ := hd
  exact lv_ldc2 hC.1 hC.2.1 hC.2.2.2.1 (hC.2.2.2.2.1 _ hw) hd (k b0 p l e s m args below meth c H locs lsA Qm hC hP hD hS hL hK)
theorem z_iload_n {i : Fin 4} {x : Int} (hd : z_D 1 M pc n (.iload_n i)) (hl : ls[(i : Nat)]? = some (some (zi x))) (k : z_A M E kc ks n ls (zi x :: st) mi mr Q) : z_A M E kc ks pc ls st mi mr Q := by
  intro b0 p l e s m args below meth c H locs lsA Qm hC hP hD hS hL hK
  obtain ⟨hd, rfl⟩ := hd
  exact lv_iload_n hC.1 hC.2.1 hd rfl (z_L_at hL hl) (k b0 p l e s m args below meth c H locs lsA Qm hC hP hD hS hL hK)
theorem z_iload {i : Nat} {x : Int} (hd : z_D 2 M pc n (.iload i)) (hl : ls[i]? = some (some (zi x))) (k : z_A M E kc ks n ls (zi x :: st) mi mr Q) : z_A M E kc ks pc ls st mi mr Q := by
  intro b0 p l e s m args below meth c H locs lsA Qm hC hP hD hS hL hK
  obtain ⟨hd, rfl⟩ := hd
  exact lv_iload hC.1 hC.2.1 hd (z_L_at hL hl) (k b0 p l e s m args below meth c H locs lsA Qm hC hP hD hS hL hK)
theorem z_lload_n {i : Fin 4} {x : Int64} (hd : z_D 1 M pc n (.lload_n i)) (hl : ls[(i : Nat)]? = some (some (zl x))) (k : z_A M E kc ks n ls (zl x :: st) mi mr Q) : z_A M E kc ks pc ls st mi mr Q := by
  intro b0 p l e s m args below meth c H locs lsA Qm hC hP hD hS hL hK
  obtain ⟨hd, rfl⟩ := hd
  exact lv_lload_n hC.1 hC.2.1 hd rfl (z_L_at hL hl) (k b0 p l e s m args below meth c H locs lsA Qm hC hP hD hS hL hK)
theorem z_aload_n {i : Fin 4} {a : Nat} (hd : z_D 1 M pc n (.aload_n i)) (hl : ls[(i : Nat)]? = some (some (zo a))) (k : z_A M E kc ks n ls (zo a :: st) mi mr Q) : z_A M E kc ks pc ls st mi mr Q := by
  intro b0 p l e s m args below meth c H locs lsA Qm hC hP hD hS hL hK
  obtain ⟨hd, rfl⟩ := hd
  exact lv_aload_n hC.1 hC.2.1 hd rfl (z_L_at hL hl) (k b0 p l e s m args below meth c H locs lsA Qm hC hP hD hS hL hK)
theorem z_aload {i a : Nat} (hd : z_D 2 M pc n (.aload i)) (hl : ls[i]? = some (some (zo a))) (k : z_A M E kc ks n ls (zo a :: st) mi mr Q) : z_A M E kc ks pc ls st mi mr Q := by
  intro b0 p l e s m args below meth c H locs lsA Qm hC hP hD hS hL hK
  obtain ⟨hd, rfl⟩ := hd
  exact lv_aload hC.1 hC.2.1 hd (z_L_at hL hl) (k b0 p l e s m args below meth c H locs lsA Qm hC hP hD hS hL hK)
theorem z_istore_n {i : Fin 4} {x : Int} {ls' : List (Option z_V)} (hd : z_D 1 M pc n (.istore_n i)) (hi : Nat.ble ((i : Nat) + 1) (z_mn M) = true) (ho : z_ok ls (i : Nat) = true) (he : ls.set (i : Nat) (some (zi x)) = ls') (k : z_A M E kc ks n ls' st mi mr Q) : z_A M E kc ks pc ls (zi x :: st) mi mr Q := by
  intro b0 p l e s m args below meth c H locs lsA Qm hC hP hD hS hL hK
  obtain ⟨hd, rfl⟩ := hd
  subst he
  exact lv_istore_n hC.1 hC.2.1 hd rfl hL (Nat.le_of_ble_eq_true hi) rfl (fun lsB hB => k b0 p l e s m args below meth c H locs lsB Qm hC hP hD hS (z_L_sub hB (z_L_st1 ho)) hK)
theorem z_istore {i : Nat} {x : Int} {ls' : List (Option z_V)} (hd : z_D 2 M pc n (.istore i)) (hi : Nat.ble (i + 1) (z_mn M) = true) (ho : z_ok ls i = true) (he : ls.set i (some (zi x)) = ls') (k : z_A M E kc ks n ls' st mi mr Q) : z_A M E kc ks pc ls (zi x :: st) mi mr Q := by
  intro b0 p l e s m args below meth c H locs lsA Qm hC hP hD hS hL hK
  obtain ⟨hd, rfl⟩ := hd
  subst he
  exact lv_istore hC.1 hC.2.1 hd hL (Nat.le_of_ble_eq_true hi) rfl (fun lsB hB => k b0 p l e s m args below meth c H locs lsB Qm hC hP hD hS (z_L_sub hB (z_L_st1 ho)) hK)
theorem z_astore_n {i : Fin 4} {a : Nat} {ls' : List (Option z_V)} (hd : z_D 1 M pc n (.astore_n i)) (hi : Nat.ble ((i : Nat) + 1) (z_mn M) = true) (ho : z_ok ls (i : Nat) = true) (he : ls.set (i : Nat) (some (zo a)) = ls') (k : z_A M E kc ks n ls' st mi mr Q) : z_A M E kc ks pc ls (zo a :: st) mi mr Q := by
  intro b0 p l e s m args below meth c H locs lsA Qm hC hP hD hS hL hK
  obtain ⟨hd, rfl⟩ := hd
  subst he
  exact lv_astore_n hC.1 hC.2.1 hd rfl hL (Nat.le_of_ble_eq_true hi) rfl (fun lsB hB => k b0 p l e s m args below meth c H locs lsB Qm hC hP hD hS (z_L_sub hB (z_L_st1 (v := zo a) ho)) hK)
theorem z_astore {i a : Nat} {ls' : List (Option z_V)} (hd : z_D 2 M pc n (.astore i)) (hi : Nat.ble (i + 1) (z_mn M) = true) (ho : z_ok ls i = true) (he : ls.set i (some (zo a)) = ls') (k : z_A M E kc ks n ls' st mi mr Q) : z_A M E kc ks pc ls (zo a :: st) mi mr Q := by
  intro b0 p l e s m args below meth c H locs lsA Qm hC hP hD hS hL hK
  obtain ⟨hd, rfl⟩ := hd
  subst he
  exact lv_astore hC.1 hC.2.1 hd hL (Nat.le_of_ble_eq_true hi) rfl (fun lsB hB => k b0 p l e s m args below meth c H locs lsB Qm hC hP hD hS (z_L_sub hB (z_L_st1 (v := zo a) ho)) hK)
theorem z_lstore_n {i : Fin 4} {x : Int64} {ls' : List (Option z_V)} (hd : z_D 1 M pc n (.lstore_n i)) (hi : Nat.ble ((i : Nat) + 2) (z_mn M) = true) (ho : z_ok ls (i : Nat) = true) (he : (ls.set (i : Nat) (some (zl x))).set ((i : Nat) + 1) none = ls') (k : z_A M E kc ks n ls' st mi mr Q) : z_A M E kc ks pc ls (zl x :: st) mi mr Q := by
  intro b0 p l e s m args below meth c H locs lsA Qm hC hP hD hS hL hK
  obtain ⟨hd, rfl⟩ := hd
  subst he
  exact lv_lstore_n hC.1 hC.2.1 hd rfl hL (Nat.le_of_ble_eq_true hi) rfl (fun lsB hB => k b0 p l e s m args below meth c H locs lsB Qm hC hP hD hS (z_L_sub hB (z_L_st2 (v := zl x) ho)) hK)
theorem z_iinc {i : Nat} {d x y : Int} {ls' : List (Option z_V)} (hd : z_D 3 M pc n (.iinc i d)) (hl : ls[i]? = some (some (zi x))) (hi : Nat.ble (i + 1) (z_mn M) = true) (ho : z_ok ls i = true) (hy : x + d = y) (he : ls.set i (some (zi y)) = ls') (k : z_A M E kc ks n ls' st mi mr Q) : z_A M E kc ks pc ls st mi mr Q := by
  intro b0 p l e s m args below meth c H locs lsA Qm hC hP hD hS hL hK
  obtain ⟨hd, rfl⟩ := hd
  subst he
  subst hy
  obtain ⟨j, hj⟩ := List.getElem?_of_mem ((z_L_mem E.2.1 ls 0 (i, z_cv E.2.1 (zi x))).mpr ⟨i, zi x, hl, by simp⟩)
  exact lv_iinc (v := z_I (x + d)) hC.1 hC.2.1 hd hL hj (z_I_add x d) (Nat.le_of_ble_eq_true hi) rfl (fun lsB hB => k b0 p l e s m args below meth c H locs lsB Qm hC hP hD hS (z_L_sub hB (z_L_st1 (v := zi (x + d)) ho)) hK)
theorem z_iadd {a b : Int} (hd : z_D 1 M pc n .iadd) (k : z_A M E kc ks n ls (zi (a + b) :: st) mi mr Q) : z_A M E kc ks pc ls (zi b :: zi a :: st) mi mr Q := by
  intro b0 p l e s m args below meth c H locs lsA Qm hC hP hD hS hL hK
  obtain ⟨hd, rfl⟩ := hd
  have k1 := k b0 p l e s m args below meth c H locs lsA Qm hC hP hD hS hL hK
  refine lv_iadd hC.1 hC.2.1 hd ?_
  rw [z_I_add]; exact k1
theorem z_isub {a b : Int} (hd : z_D 1 M pc n .isub) (k : z_A M E kc ks n ls (zi (a - b) :: st) mi mr Q) : z_A M E kc ks pc ls (zi b :: zi a :: st) mi mr Q := by
  intro b0 p l e s m args below meth c H locs lsA Qm hC hP hD hS hL hK
  obtain ⟨hd, rfl⟩ := hd
  have k1 := k b0 p l e s m args below meth c H locs lsA Qm hC hP hD hS hL hK
  refine lv_isub hC.1 hC.2.1 hd ?_
  rw [z_I_sub]; exact k1
theorem z_imul {a b : Int} (hd : z_D 1 M pc n .imul) (k : z_A M E kc ks n ls (zi (a * b) :: st) mi mr Q) : z_A M E kc ks pc ls (zi b :: zi a :: st) mi mr Q := by
  intro b0 p l e s m args below meth c H locs lsA Qm hC hP hD hS hL hK
  obtain ⟨hd, rfl⟩ := hd
  have k1 := k b0 p l e s m args below meth c H locs lsA Qm hC hP hD hS hL hK
  refine lv_imul hC.1 hC.2.1 hd ?_
  rw [z_I_mul]; exact k1
theorem z_idiv {a b : Int} (hd : z_D 1 M pc n .idiv) (ha : 0 ≤ a) (hb : 0 < b) (h1 : z_R a) (h2 : z_R b) (k : z_A M E kc ks n ls (zi (a / b) :: st) mi mr Q) : z_A M E kc ks pc ls (zi b :: zi a :: st) mi mr Q := by
  intro b0 p l e s m args below meth c H locs lsA Qm hC hP hD hS hL hK
  obtain ⟨hd, rfl⟩ := hd
  have k1 := k b0 p l e s m args below meth c H locs lsA Qm hC hP hD hS hL hK
  refine lv_idiv hC.1 hC.2.1 hd (fun h => ?_) ?_
  · have := congrArg Int32.toInt h
    rw [z_I_toInt h2, Int32.toInt_zero] at this
    omega
  · rw [z_I_div ha hb h1 h2]; exact k1
theorem z_irem {a b : Int} (hd : z_D 1 M pc n .irem) (ha : 0 ≤ a) (hb : 0 < b) (h1 : z_R a) (h2 : z_R b) (k : z_A M E kc ks n ls (zi (a % b) :: st) mi mr Q) : z_A M E kc ks pc ls (zi b :: zi a :: st) mi mr Q := by
  intro b0 p l e s m args below meth c H locs lsA Qm hC hP hD hS hL hK
  obtain ⟨hd, rfl⟩ := hd
  have k1 := k b0 p l e s m args below meth c H locs lsA Qm hC hP hD hS hL hK
  refine lv_irem hC.1 hC.2.1 hd (fun h => ?_) ?_
  · have := congrArg Int32.toInt h
    rw [z_I_toInt h2, Int32.toInt_zero] at this
    omega
  · rw [z_I_rem ha hb h1 h2]; exact k1
theorem z_ineg {a : Int} (hd : z_D 1 M pc n .ineg) (k : z_A M E kc ks n ls (zi (-a) :: st) mi mr Q) : z_A M E kc ks pc ls (zi a :: st) mi mr Q := by
  intro b0 p l e s m args below meth c H locs lsA Qm hC hP hD hS hL hK
  obtain ⟨hd, rfl⟩ := hd
  have k1 := k b0 p l e s m args below meth c H locs lsA Qm hC hP hD hS hL hK
  refine lv_ineg hC.1 hC.2.1 hd ?_
  rw [z_I_neg]; exact k1
theorem z_iand31 {a : Int} (hd : z_D 1 M pc n .iand) (k : ∀ j : Int, 0 ≤ j → j < 32 → z_A M E kc ks n ls (zi j :: st) mi mr Q) : z_A M E kc ks pc ls (zi 31 :: zi a :: st) mi mr Q := by
  intro b0 p l e s m args below meth c H locs lsA Qm hC hP hD hS hL hK
  obtain ⟨hd, rfl⟩ := hd
  refine lv_iand hC.1 hC.2.1 hd ?_
  obtain ⟨j, hj, he⟩ := pk_andE (z_I a) (m := z_I 31) 5 (by decide +kernel)
  rw [he, ← z_I_nat]
  exact k (j : Int) (by omega) (by omega) b0 p l e s m args below meth c H locs lsA Qm hC hP hD hS hL hK
theorem z_i2l {a : Int} (hd : z_D 1 M pc n .i2l) (k : z_A M E kc ks n ls (zl (z_I a).toInt64 :: st) mi mr Q) : z_A M E kc ks pc ls (zi a :: st) mi mr Q := by
  intro b0 p l e s m args below meth c H locs lsA Qm hC hP hD hS hL hK
  obtain ⟨hd, rfl⟩ := hd
  exact lv_i2l hC.1 hC.2.1 hd rfl (k b0 p l e s m args below meth c H locs lsA Qm hC hP hD hS hL hK)
theorem z_ladd {a b : Int64} (hd : z_D 1 M pc n .ladd) (k : z_A M E kc ks n ls (zl (a + b) :: st) mi mr Q) : z_A M E kc ks pc ls (zl b :: zl a :: st) mi mr Q := by
  intro b0 p l e s m args below meth c H locs lsA Qm hC hP hD hS hL hK
  obtain ⟨hd, rfl⟩ := hd
  exact lv_ladd hC.1 hC.2.1 hd (k b0 p l e s m args below meth c H locs lsA Qm hC hP hD hS hL hK)
theorem z_lmul {a b : Int64} (hd : z_D 1 M pc n .lmul) (k : z_A M E kc ks n ls (zl (a * b) :: st) mi mr Q) : z_A M E kc ks pc ls (zl b :: zl a :: st) mi mr Q := by
  intro b0 p l e s m args below meth c H locs lsA Qm hC hP hD hS hL hK
  obtain ⟨hd, rfl⟩ := hd
  exact lv_lmul hC.1 hC.2.1 hd (k b0 p l e s m args below meth c H locs lsA Qm hC hP hD hS hL hK)
/-- two longs that are the same -/
theorem z_lcmpE {a : Int64} (hd : z_D 1 M pc n .lcmp) (k : z_A M E kc ks n ls (zi 0 :: st) mi mr Q) : z_A M E kc ks pc ls (zl a :: zl a :: st) mi mr Q := by
  intro b0 p l e s m args below meth c H locs lsA Qm hC hP hD hS hL hK
  obtain ⟨hd, rfl⟩ := hd
  have k1 := k b0 p l e s m args below meth c H locs lsA Qm hC hP hD hS hL hK
  refine W.lcmp hC.1 hC.2.1 hd ?_
  have e : lg_cmp a a = z_I 0 := by
    rw [z_I_0]; simp [lg_cmp]
  rw [e]; exact k1
theorem z_dup {v : z_V} (hd : z_D 1 M pc n .dup) (hv : z_cat v = 1) (k : z_A M E kc ks n ls (v :: v :: st) mi mr Q) : z_A M E kc ks pc ls (v :: st) mi mr Q := by
  intro b0 p l e s m args below meth c H locs lsA Qm hC hP hD hS hL hK
  obtain ⟨hd, rfl⟩ := hd
  exact lv_dup hC.1 hC.2.1 hd ((z_cat_eq _ _).trans hv) (k b0 p l e s m args below meth c H locs lsA Qm hC hP hD hS hL hK)
theorem z_pop {v : z_V} (hd : z_D 1 M pc n .pop) (hv : z_cat v = 1) (k : z_A M E kc ks n ls st mi mr Q) : z_A M E kc ks pc ls (v :: st) mi mr Q := by
  intro b0 p l e s m args below meth c H locs lsA Qm hC hP hD hS hL hK
  obtain ⟨hd, rfl⟩ := hd
  exact lv_pop hC.1 hC.2.1 hd ((z_cat_eq _ _).trans hv) (k b0 p l e s m args below meth c H locs lsA Qm hC hP hD hS hL hK)
theorem z_dup2 {v w : z_V} (hd : z_D 1 M pc n .dup2) (hv : z_cat v = 1) (hw : z_cat w = 1) (k : z_A M E kc ks n ls (v :: w :: v :: w :: st) mi mr Q) : z_A M E kc ks pc ls (v :: w :: st) mi mr Q := by
  intro b0 p l e s m args below meth c H locs lsA Qm hC hP hD hS hL hK
  obtain ⟨hd, rfl⟩ := hd
  exact lv_dup2_11 hC.1 hC.2.1 hd ((z_cat_eq _ _).trans hv) ((z_cat_eq _ _).trans hw) (k b0 p l e s m args below meth c H locs lsA Qm hC hP hD hS hL hK)
theorem z_null (hd : z_D 1 M pc n .aconst_null) (k : z_A M E kc ks n ls (zr none :: st) mi mr Q) : z_A M E kc ks pc ls st mi mr Q := by
  intro b0 p l e s m args below meth c H locs lsA Qm hC hP hD hS hL hK
  obtain ⟨hd, rfl⟩ := hd
  exact lv_null hC.1 hC.2.1 hd (k b0 p l e s m args below meth c H locs lsA Qm hC hP hD hS hL hK)
theorem z_goto (hd : z_J M pc n tgt off (.goto off)) (k : z_A M E kc ks tgt ls st mi mr Q) : z_A M E kc ks pc ls st mi mr Q := by
  intro b0 p l e s m args below meth c H locs lsA Qm hC hP hD hS hL hK
  obtain ⟨hd, rfl, ht⟩ := hd
  exact lv_goto hC.1 hC.2.1 hd ht (k b0 p l e s m args below meth c H locs lsA Qm hC hP hD hS hL hK)
theorem z_ifnonnull {a : Nat} (hd : z_J M pc n tgt off (.ifnonnull off)) (k : z_A M E kc ks tgt ls st mi mr Q) : z_A M E kc ks pc ls (zo a :: st) mi mr Q := by
  intro b0 p l e s m args below meth c H locs lsA Qm hC hP hD hS hL hK
  obtain ⟨hd, rfl, ht⟩ := hd
  exact lv_ifnonnull hC.1 hC.2.1 hd ht (k b0 p l e s m args below meth c H locs lsA Qm hC hP hD hS hL hK)
theorem z_if_eq {a : Int} (hd : z_J M pc n tgt off (.ifCond .eq off)) (ha : z_R a) (kt : a = 0 → z_A M E kc ks tgt ls st mi mr Q) (kf : ¬ a = 0 → z_A M E kc ks n ls st mi mr Q) : z_A M E kc ks pc ls (zi a :: st) mi mr Q := by
  intro b0 p l e s m args below meth c H locs lsA Qm hC hP hD hS hL hK
  obtain ⟨hd, rfl, ht⟩ := hd
  have h0 := z_I_0
  have T := fun h => kt h b0 p l e s m args below meth c H locs lsA Qm hC hP hD hS hL hK
  have F := fun h => kf h b0 p l e s m args below meth c H locs lsA Qm hC hP hD hS hL hK
  have hi := z_I_eq ha z_R0
  rw [h0] at hi
  exact lv_if_eq hC.1 hC.2.1 hd ht (fun h => T (hi.mp h)) (fun h => F (fun q => h (hi.mpr q)))
theorem z_icmp_eq {a b : Int} (hd : z_J M pc n tgt off (.if_icmp .eq off)) (ha : z_R a) (hb : z_R b) (kt : a = b → z_A M E kc ks tgt ls st mi mr Q) (kf : ¬ a = b → z_A M E kc ks n ls st mi mr Q) : z_A M E kc ks pc ls (zi b :: zi a :: st) mi mr Q := by
  intro b0 p l e s m args below meth c H locs lsA Qm hC hP hD hS hL hK
  obtain ⟨hd, rfl, ht⟩ := hd
  have T := fun h => kt h b0 p l e s m args below meth c H locs lsA Qm hC hP hD hS hL hK
  have F := fun h => kf h b0 p l e s m args below meth c H locs lsA Qm hC hP hD hS hL hK
  have hi := z_I_eq ha hb
  exact lv_icmp_eq hC.1 hC.2.1 hd ht (fun h => T (hi.mp h)) (fun h => F (fun q => h (hi.mpr q)))
theorem z_if_ne {a : Int} (hd : z_J M pc n tgt off (.ifCond .ne off)) (ha : z_R a) (kt : ¬ a = 0 → z_A M E kc ks tgt ls st mi mr Q) (kf : a = 0 → z_A M E kc ks n ls st mi mr Q) : z_A M E kc ks pc ls (zi a :: st) mi mr Q := by
  intro b0 p l e s m args below meth c H locs lsA Qm hC hP hD hS hL hK
  obtain ⟨hd, rfl, ht⟩ := hd
  have h0 := z_I_0
  have T := fun h => kt h b0 p l e s m args below meth c H locs lsA Qm hC hP hD hS hL hK
  have F := fun h => kf h b0 p l e s m args below meth c H locs lsA Qm hC hP hD hS hL hK
  have hi := z_I_eq ha z_R0
  rw [h0] at hi
  exact lv_if_ne hC.1 hC.2.1 hd ht (fun h => T (fun q => h (hi.mpr q))) (fun h => F (hi.mp h))
theorem z_icmp_ne {a b : Int} (hd : z_J M pc n tgt off (.if_icmp .ne off)) (ha : z_R a) (hb : z_R b) (kt : ¬ a = b → z_A M E kc ks tgt ls st mi mr Q) (kf : a = b → z_A M E kc ks n ls st mi mr Q) : z_A M E kc ks pc ls (zi b :: zi a :: st) mi mr Q := by
  intro b0 p l e s m args below meth c H locs lsA Qm hC hP hD hS hL hK
  obtain ⟨hd, rfl, ht⟩ := hd
  have T := fun h => kt h b0 p l e s m args below meth c H locs lsA Qm hC hP hD hS hL hK
  have F := fun h => kf h b0 p l e s m args below meth c H locs lsA Qm hC hP hD hS hL hK
  have hi := z_I_eq ha hb
  exact lv_icmp_ne hC.1 hC.2.1 hd ht (fun h => T (fun q => h (hi.mpr q))) (fun h => F (hi.mp h))
theorem z_if_lt {a : Int} (hd : z_J M pc n tgt off (.ifCond .lt off)) (ha : z_R a) (kt : a < 0 → z_A M E kc ks tgt ls st mi mr Q) (kf : ¬ a < 0 → z_A M E kc ks n ls st mi mr Q) : z_A M E kc ks pc ls (zi a :: st) mi mr Q := by
  intro b0 p l e s m args below meth c H locs lsA Qm hC hP hD hS hL hK
  obtain ⟨hd, rfl, ht⟩ := hd
  have h0 := z_I_0
  have T := fun h => kt h b0 p l e s m args below meth c H locs lsA Qm hC hP hD hS hL hK
  have F := fun h => kf h b0 p l e s m args below meth c H locs lsA Qm hC hP hD hS hL hK
  have hi := z_I_lt ha z_R0
  rw [h0] at hi
  exact lv_if_lt hC.1 hC.2.1 hd ht (fun h => T (hi.mp h)) (fun h => F (fun q => h (hi.mpr q)))
theorem z_icmp_lt {a b : Int} (hd : z_J M pc n tgt off (.if_icmp .lt off)) (ha : z_R a) (hb : z_R b) (kt : a < b → z_A M E kc ks tgt ls st mi mr Q) (kf : ¬ a < b → z_A M E kc ks n ls st mi mr Q) : z_A M E kc ks pc ls (zi b :: zi a :: st) mi mr Q := by
  intro b0 p l e s m args below meth c H locs lsA Qm hC hP hD hS hL hK
  obtain ⟨hd, rfl, ht⟩ := hd
  have T := fun h => kt h b0 p l e s m args below meth c H locs lsA Qm hC hP hD hS hL hK
  have F := fun h => kf h b0 p l e s m args below meth c H locs lsA Qm hC hP hD hS hL hK
  have hi := z_I_lt ha hb
  exact lv_icmp_lt hC.1 hC.2.1 hd ht (fun h => T (hi.mp h)) (fun h => F (fun q => h (hi.mpr q)))
theorem z_if_ge {a : Int} (hd : z_J M pc n tgt off (.ifCond .ge off)) (ha : z_R a) (kt : 0 ≤ a → z_A M E kc ks tgt ls st mi mr Q) (kf : ¬ 0 ≤ a → z_A M E kc ks n ls st mi mr Q) : z_A M E kc ks pc ls (zi a :: st) mi mr Q := by
  intro b0 p l e s m args below meth c H locs lsA Qm hC hP hD hS hL hK
  obtain ⟨hd, rfl, ht⟩ := hd
  have h0 := z_I_0
  have T := fun h => kt h b0 p l e s m args below meth c H locs lsA Qm hC hP hD hS hL hK
  have F := fun h => kf h b0 p l e s m args below meth c H locs lsA Qm hC hP hD hS hL hK
  have hi := z_I_le z_R0 ha
  rw [h0] at hi
  exact lv_if_ge hC.1 hC.2.1 hd ht (fun h => T (hi.mp h)) (fun h => F (fun q => h (hi.mpr q)))
theorem z_icmp_ge {a b : Int} (hd : z_J M pc n tgt off (.if_icmp .ge off)) (ha : z_R a) (hb : z_R b) (kt : b ≤ a → z_A M E kc ks tgt ls st mi mr Q) (kf : ¬ b ≤ a → z_A M E kc ks n ls st mi mr Q) : z_A M E kc ks pc ls (zi b :: zi a :: st) mi mr Q := by
  intro b0 p l e s m args below meth c H locs lsA Qm hC hP hD hS hL hK
  obtain ⟨hd, rfl, ht⟩ := hd
  have T := fun h => kt h b0 p l e s m args below meth c H locs lsA Qm hC hP hD hS hL hK
  have F := fun h => kf h b0 p l e s m args below meth c H locs lsA Qm hC hP hD hS hL hK
  have hi := z_I_le hb ha
  exact lv_icmp_ge hC.1 hC.2.1 hd ht (fun h => T (hi.mp h)) (fun h => F (fun q => h (hi.mpr q)))
theorem z_if_gt {a : Int} (hd : z_J M pc n tgt off (.ifCond .gt off)) (ha : z_R a) (kt : 0 < a → z_A M E kc ks tgt ls st mi mr Q) (kf : ¬ 0 < a → z_A M E kc ks n ls st mi mr Q) : z_A M E kc ks pc ls (zi a :: st) mi mr Q := by
  intro b0 p l e s m args below meth c H locs lsA Qm hC hP hD hS hL hK
  obtain ⟨hd, rfl, ht⟩ := hd
  have h0 := z_I_0
  have T := fun h => kt h b0 p l e s m args below meth c H locs lsA Qm hC hP hD hS hL hK
  have F := fun h => kf h b0 p l e s m args below meth c H locs lsA Qm hC hP hD hS hL hK
  have hi := z_I_lt z_R0 ha
  rw [h0] at hi
  exact lv_if_gt hC.1 hC.2.1 hd ht (fun h => T (hi.mp h)) (fun h => F (fun q => h (hi.mpr q)))
theorem z_icmp_gt {a b : Int} (hd : z_J M pc n tgt off (.if_icmp .gt off)) (ha : z_R a) (hb : z_R b) (kt : b < a → z_A M E kc ks tgt ls st mi mr Q) (kf : ¬ b < a → z_A M E kc ks n ls st mi mr Q) : z_A M E kc ks pc ls (zi b :: zi a :: st) mi mr Q := by
  intro b0 p l e s m args below meth c H locs lsA Qm hC hP hD hS hL hK
  obtain ⟨hd, rfl, ht⟩ := hd
  have T := fun h => kt h b0 p l e s m args below meth c H locs lsA Qm hC hP hD hS hL hK
  have F := fun h => kf h b0 p l e s m args below meth c H locs lsA Qm hC hP hD hS hL hK
  have hi := z_I_lt hb ha
  exact lv_icmp_gt hC.1 hC.2.1 hd ht (fun h => T (hi.mp h)) (fun h => F (fun q => h (hi.mpr q)))
theorem z_if_le {a : Int} (hd : z_J M pc n tgt off (.ifCond .le off)) (ha : z_R a) (kt : a ≤ 0 → z_A M E kc ks tgt ls st mi mr Q) (kf : ¬ a ≤ 0 → z_A M E kc ks n ls st mi mr Q) : z_A M E kc ks pc ls (zi a :: st) mi mr Q := by
  intro b0 p l e s m args below meth c H locs lsA Qm hC hP hD hS hL hK
  obtain ⟨hd, rfl, ht⟩ := hd
  have h0 := z_I_0
  have T := fun h => kt h b0 p l e s m args below meth c H locs lsA Qm hC hP hD hS hL hK
  have F := fun h => kf h b0 p l e s m args below meth c H locs lsA Qm hC hP hD hS hL hK
  have hi := z_I_le ha z_R0
  rw [h0] at hi
  exact lv_if_le hC.1 hC.2.1 hd ht (fun h => T (hi.mp h)) (fun h => F (fun q => h (hi.mpr q)))
theorem z_icmp_le {a b : Int} (hd : z_J M pc n tgt off (.if_icmp .le off)) (ha : z_R a) (hb : z_R b) (kt : a ≤ b → z_A M E kc ks tgt ls st mi mr Q) (kf : ¬ a ≤ b → z_A M E kc ks n ls st mi mr Q) : z_A M E kc ks pc ls (zi b :: zi a :: st) mi mr Q := by
  intro b0 p l e s m args below meth c H locs lsA Qm hC hP hD hS hL hK
  obtain ⟨hd, rfl, ht⟩ := hd
  have T := fun h => kt h b0 p l e s m args below meth c H locs lsA Qm hC hP hD hS hL hK
  have F := fun h => kf h b0 p l e s m args below meth c H locs lsA Qm hC hP hD hS hL hK
  have hi := z_I_le ha hb
  exact lv_icmp_le hC.1 hC.2.1 hd ht (fun h => T (hi.mp h)) (fun h => F (fun q => h (hi.mpr q)))
end ZROWS
