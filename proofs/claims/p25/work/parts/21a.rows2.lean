/-! rows that the law's own methods want: shifts, an int out of the constants; the script as an argument -/
theorem z_sh_nn {x y : Int32} (h : 0 ≤ x.toInt) : 0 ≤ (x >>> y).toInt := by
  have e : (x >>> y).toInt = x.toBitVec.toInt >>> (y.toBitVec.smod 32#32).toNat := BitVec.toInt_sshiftRight'
  rw [e, Int.shiftRight_eq_div_pow]
  have h : 0 ≤ x.toBitVec.toInt := h
  exact Int.ediv_nonneg h (Int.natCast_nonneg _)
theorem z_and_nn {x y : Int32} (h : 0 ≤ y.toInt) : 0 ≤ (x &&& y).toInt := by
  have e : (x &&& y).toInt = (x.toBitVec &&& y.toBitVec).toInt := rfl
  have h : 0 ≤ y.toBitVec.toInt := h
  have hy : y.toBitVec.msb = false := by
    cases hb : y.toBitVec.msb with
    | false => rfl
    | true =>
      have := BitVec.toInt_neg_of_msb_true hb
      omega
  rw [e]
  exact BitVec.toInt_nonneg_of_msb_false (by rw [BitVec.msb_and, hy, Bool.and_false])
def x_sc (xs : Nat → Int32) (i : Int) : Int := (xs i.toNat).toInt
theorem x_sc_R {xs : Nat → Int32} {i : Int} : z_R (x_sc xs i) := z_I_R _
section ZR2
variable {M M' : z_M} {E : z_E} {kc ks pc n tgt b L K : Nat} {off : Int} {xs : Nat → Int32} {ls : List (Option z_V)} {st : List z_V} {mi : z_Mi} {mr : z_Mr} {Q : z_Q}
theorem z_ishr {x y : Int} (hd : z_D 1 M pc n .ishr) (h0 : 0 ≤ x) (hx : z_R x) (k : ∀ z : Int, 0 ≤ z → z_R z → z_A M E kc ks n ls (zi z :: st) mi mr Q) : z_A M E kc ks pc ls (zi y :: zi x :: st) mi mr Q := by
  intro b0 p l e s m args below meth c H locs lsA Qm hC hP hD hS hL hK
  obtain ⟨hd, rfl⟩ := hd
  have k1 := k (z_I x >>> (z_I y &&& 31)).toInt (z_sh_nn (by rw [z_I_toInt hx]; exact h0)) (z_I_R _) b0 p l e s m args below meth c H locs lsA Qm hC hP hD hS hL hK
  refine lv_ishr hC.1 hC.2.1 hd ?_
  rw [show (z_I x >>> (z_I y &&& 31)) = z_I ((z_I x >>> (z_I y &&& 31)).toInt) from (z_I_of _).symm]
  exact k1
theorem z_mask {x y : Int} (hd : z_D 1 M pc n .iand) (h0 : 0 ≤ y) (hy : z_R y) (k : ∀ z : Int, 0 ≤ z → z_R z → z_A M E kc ks n ls (zi z :: st) mi mr Q) : z_A M E kc ks pc ls (zi y :: zi x :: st) mi mr Q := by
  intro b0 p l e s m args below meth c H locs lsA Qm hC hP hD hS hL hK
  obtain ⟨hd, rfl⟩ := hd
  have k1 := k (z_I x &&& z_I y).toInt (z_and_nn (by rw [z_I_toInt hy]; exact h0)) (z_I_R _) b0 p l e s m args below meth c H locs lsA Qm hC hP hD hS hL hK
  refine lv_iand hC.1 hC.2.1 hd ?_
  rw [show (z_I x &&& z_I y) = z_I ((z_I x &&& z_I y).toInt) from (z_I_of _).symm]
  exact k1
theorem z_ldc {idx : Nat} {v : Int32} (hd : z_D 2 M pc n (.ldc idx)) (hw : Cond.constant (z_my M).cls idx v ∈ z_WG) (k : z_A M E kc ks n ls (zi v.toInt :: st) mi mr Q) : z_A M E kc ks pc ls st mi mr Q := by
  intro b0 p l e s m args below meth c H locs lsA Qm hC hP hD hS hL hK
  obtain ⟨hd, rfl⟩ := hd
  have k1 := k b0 p l e s m args below meth c H locs lsA Qm hC hP hD hS hL hK
  have e1 : (zi v.toInt :: st).map (z_cv E.2.1) = .int v :: st.map (z_cv E.2.1) := by
    rw [List.map_cons]
    show Value.int (z_I v.toInt) :: _ = _
    rw [z_I_of]
  rw [e1] at k1
  exact lv_ldc hC.1 hC.2.1 hC.2.2.2.1 (hC.2.2.2.2.1 _ hw) hd k1
theorem z_same {x : Int} (hd : z_J M pc n tgt off (.if_icmp .eq off)) (k : z_A M E kc ks tgt ls st mi mr Q) : z_A M E kc ks pc ls (zi x :: zi x :: st) mi mr Q := by
  intro b0 p l e s m args below meth c H locs lsA Qm hC hP hD hS hL hK
  obtain ⟨hd, rfl, ht⟩ := hd
  have k1 := k b0 p l e s m args below meth c H locs lsA Qm hC hP hD hS hL hK
  exact lv_icmp_eq hC.1 hC.2.1 hd ht (fun _ => k1) (fun h => absurd rfl h)
theorem z_samene {x : Int} (hd : z_J M pc n tgt off (.if_icmp .ne off)) (k : z_A M E kc ks n ls st mi mr Q) : z_A M E kc ks pc ls (zi x :: zi x :: st) mi mr Q := by
  intro b0 p l e s m args below meth c H locs lsA Qm hC hP hD hS hL hK
  obtain ⟨hd, rfl, ht⟩ := hd
  have k1 := k b0 p l e s m args below meth c H locs lsA Qm hC hP hD hS hL hK
  exact lv_icmp_ne hC.1 hC.2.1 hd ht (fun h => absurd rfl h) (fun _ => k1)
/-! the script: no cell of mine -/
def z_scr (M : z_M) (b L : Nat) (xs : Nat → Int32) : Prop := ∀ s b0, z_mE M s b0 → va_X b L xs s s.heap ∧ b < b0 ∧ b < s.heap.size
theorem z_sld {i : Int} (hd : z_D 1 M pc n .iaload) (hM : z_scr M b L xs) (hK : E.2.1 K = b) (hL : L ≤ 1536) (h0 : 0 ≤ i) (h1 : i < (L : Int)) (k : z_A M E kc ks n ls (zi (x_sc xs i) :: st) mi mr Q) : z_A M E kc ks pc ls (zi i :: zo K :: st) mi mr Q := by
  intro b0 p l e s m args below meth c H locs lsA Qm hC hP hD hS hL' hK'
  obtain ⟨hd, rfl⟩ := hd
  have k1 := k b0 p l e s m args below meth c H locs lsA Qm hC hP hD hS hL' hK'
  obtain ⟨hX, hb0, hbs⟩ := hM _ _ hC.2.2.2.2.2.2.2.2.2
  have e : (zi i :: zo K :: st).map (z_cv E.2.1) = .int (z_I i) :: .ref b :: st.map (z_cv E.2.1) := by
    rw [List.map_cons, List.map_cons]
    show _ :: va_rf (some (E.2.1 K)) :: _ = _
    rw [hK]; rfl
  rw [e]
  refine va_sld hC.1 hC.2.1 hX hbs (Nat.not_le.mpr hb0) hS (z_I_in h0 h1 (by omega)) hd ?_
  rw [z_I_clamp h0 (by omega)]
  have e2 : xs i.toNat = z_I (x_sc xs i) := (z_I_of _).symm
  rw [e2]
  exact k1
theorem z_slen (hd : z_D 1 M pc n .arraylength) (hM : z_scr M b L xs) (hK : E.2.1 K = b) (k : z_A M E kc ks n ls (zi (L : Nat) :: st) mi mr Q) : z_A M E kc ks pc ls (zo K :: st) mi mr Q := by
  intro b0 p l e s m args below meth c H locs lsA Qm hC hP hD hS hL' hK'
  obtain ⟨hd, rfl⟩ := hd
  have k1 := k b0 p l e s m args below meth c H locs lsA Qm hC hP hD hS hL' hK'
  obtain ⟨hX, hb0, hbs⟩ := hM _ _ hC.2.2.2.2.2.2.2.2.2
  have e : (zo K :: st).map (z_cv E.2.1) = .ref b :: st.map (z_cv E.2.1) := by
    rw [List.map_cons]
    show va_rf (some (E.2.1 K)) :: _ = _
    rw [hK]; rfl
  rw [e]
  refine va_slen hC.1 hC.2.1 hX hbs (Nat.not_le.mpr hb0) hS hd ?_
  rw [show Int32.ofNat L = z_I (L : Nat) from (z_I_nat L).symm]
  exact k1
/-- a static method that is given the script -/
def z_cx (M : z_M) (E : z_E) (as : List z_V) (mi : z_Mi) (mr : z_Mr) (Q : z_Q) (b L : Nat) (xs : Nat → Int32) : Prop :=
  ∀ (l : Launch) (b0 : Nat), b < b0 → Met l (z_my M) (z_ws M) (z_mR M) (va_Pc (as.map (z_cv E.2.1)) (fun U => z_pc b0 E mi mr U ∧ va_X b L xs U U.heap ∧ b < U.heap.size)) (z_qc b0 E.1 Q) (z_mR M).cells (z_mR M).slots (z_af b0)
theorem z_cx_of {as : List z_V} {Q : z_Q} (hy : plainName (z_my M).cls = true) (hE : ∀ s b0, va_X b L xs s s.heap → b < b0 → b < s.heap.size → z_mE M s b0) (hn : (as.map z_cat).sum ≤ z_mn M) (hls : z_en as ++ List.replicate (z_mn M - (as.map z_cat).sum) none = ls)
    (h : z_A M E 0 0 0 ls [] mi mr Q) : z_cx M E as mi mr Q b L xs := by
  intro l b0 hbb
  refine Met.ofW (cc := z_mc M) (maxL := z_mn M) (ret := z_mr M) hy rfl ?_
  intro p e s m args below meth c s₁ B hml hv
  obtain ⟨rfl, ⟨hb0, hP, hK, hN, hD⟩, hX, hbs⟩ := hv
  have hx := B.exec
  have hb := B.bytes
  have hr := B.returns
  have hts := atoms_spec (ws := z_ws M) B.pre
  have hown : s.vm.findClass (z_my M).cls = some m.cls := findClass_of_methodNamed B.named
  have hlocks := B.notSynchronized
  have hin : meth.name = (z_my M).name := (name_of_methodNamed B.named B.method).1
  have hl := lv_entry (as.map (z_cv E.2.1)) (n := z_mn M) (by rw [z_sl_len]; exact hn)
  rw [lg_entry_eq]
  generalize (lg_sl (as.map (z_cv E.2.1)) ++ List.replicate (z_mn M - (lg_sl (as.map (z_cv E.2.1))).length) Slot.unset).toArray = lsA at hl ⊢
  have hl' : lv_has lsA (z_mn M) (z_L E.2.1 0 ls) := by rw [← hls, z_L_en]; exact hl
  refine h b0 p l e s m _ below meth c s.heap [] lsA _ ⟨hx, hb, hml, hown, fun w hw => hts w (List.mem_cons_of_mem _ hw), hN, hK, hb0, hin, hE s b0 hX hbb hbs⟩ hP hD va_S.rf hl' ?_
  intro v E' mi' mr' H' locs' kc' ks' pc' lsA' hQ hG hP' hD' hS' hc hd h1 h2
  refine W.widen h1 h2 ?_
  have hq : ∀ (o : Option Value) (t : State), o = v.map (z_cv E'.2.1) → t.heap = H' → z_qc b0 E.1 Q (as.map (z_cv E.2.1)).toArray s (.returned o) t := fun o t ho ht => ⟨⟨v, E', mi', mr', hG, by rw [ho], hQ, by rw [ht]; exact hP', hD'⟩, hS'.F ht⟩
  cases v with
  | none => exact W.vret hx hb (hr.trans hc) (fun t ht _ => hq none t rfl ht) hS'.2.2 hd
  | some v =>
    rcases v with x | y | r
    · rcases hc with hc | ⟨hc, h0⟩
      · exact W.iret hx hb (hr.trans hc) (fun t ht _ => hq _ t rfl ht) hS'.2.2 hd
      · refine W.zret hx hb (hr.trans hc) ?_ (fun t ht _ => hq _ t rfl ht) hS'.2.2 hd
        rcases h0 with rfl | rfl <;> decide +kernel
    · exact W.lret hx hb (hr.trans hc) (fun t ht _ => hq _ t rfl ht) hS'.2.2 hd
    · obtain ⟨n, hc⟩ := hc
      refine W.aret hx hb (hr.trans hc) (Or.inl ⟨n, rfl⟩) ?_ (fun t ht _ => hq _ t rfl ht) hS'.2.2 hd
      cases r with
      | none => exact Or.inl rfl
      | some r => exact Or.inr ⟨_, rfl⟩
theorem z_pcx_blind {as : List Value} {b0 : Nat} : FrameBlind (va_Pc as (fun U => z_pc b0 E mi mr U ∧ va_X b L xs U U.heap ∧ b < U.heap.size)) := by
  intro a U g mk h
  obtain ⟨h0, hp, hx, hb⟩ := h
  obtain ⟨h0', h1⟩ := z_pc_blind (as := as) a U g mk ⟨h0, hp⟩
  exact ⟨h0', h1, va_X.moved (u := U) (U := U.calling g mk a) (Vm.Alike.refl U.vm) hx, hb⟩
theorem z_callX {P : Int → z_Mi → z_Mr → Prop} {idx nA : Nat} {As rest : List z_V} (hd : z_D 3 M pc n (.invokestatic idx)) (hl : z_LS (z_my M).cls idx (z_my M') (z_mc M') (z_mn M') (z_mr M') nA) (hr : z_rm M M' kc ks = true) (hn : As.length = nA) (hst : st = As.reverse ++ rest) (hcat : Nat.ble (rest.map z_cat).sum 8 = true) (hE : z_scr M b L xs)
    (hM : z_cx M' E As mi mr (z_qi E P) b L xs ∧ (z_mR M').cells = 0 ∧ (z_mR M').slots = 0) (k : ∀ (x : Int) (mi' : z_Mi) (mr' : z_Mr), P x mi' mr' → z_A M E kc ks n ls (zi x :: rest) mi' mr' Q) : z_A M E kc ks pc ls st mi mr Q := by
  intro b0 p l e s m args below meth c H locs lsA Qm hC hP hD hS hL hK
  obtain ⟨hd, rfl⟩ := hd
  subst hst
  obtain ⟨⟨hlk, hcode, hini, hdd⟩, hstat⟩ := hl
  obtain ⟨r1, r2, r3, r4⟩ := z_rm_of hr
  obtain ⟨hX, hb0, hbs⟩ := hE _ _ hC.2.2.2.2.2.2.2.2.2
  have hw := hC.2.2.2.2.1
  have CF : CallFix p m c (z_mc M) (z_mn M) s args z_WG (z_my M).cls := ⟨hC.1, hC.2.1, hC.2.2.1, hC.2.2.2.1, hw⟩
  have hpre : PreS s H (va_Pc (As.map (z_cv E.2.1)) (fun U => z_pc b0 E mi mr U ∧ va_X b L xs U U.heap ∧ b < U.heap.size)) (As.map (z_cv E.2.1)) := by
    refine ⟨z_pcx_blind, fun U hU hW => ?_⟩
    obtain ⟨g1, g2⟩ := z_pc_of (as := As.map (z_cv E.2.1)) hC hP hD hS U hU hW
    refine ⟨g1, g2, va_X.moved hW.alike ?_, ?_⟩
    · rw [hU]; exact va_X.kept hX (hS.2.1 b hbs (Nat.not_le.mpr hb0))
    · rw [hU]; exact Nat.lt_of_lt_of_le hbs hS.1
  have hstk : (As.reverse ++ rest).map (z_cv E.2.1) = (As.map (z_cv E.2.1)).reverse ++ rest.map (z_cv E.2.1) := by
    rw [List.map_append, List.map_reverse]
  have hrm : 2 * (F0 m pc lsA ((As.reverse ++ rest).map (z_cv E.2.1))).monitorRoom + ((rest.map (z_cv E.2.1)).map fun v => v.category).sum ≤ 8 := lv_room (by rw [z_cats]; exact Nat.le_of_ble_eq_true hcat)
  have run : va_Run p l e (z_mR M) s m args below meth c H locs kc ks (z_mR M').cells (z_mR M').slots (F0 m pc lsA ((As.reverse ++ rest).map (z_cv E.2.1))) (rest.map (z_cv E.2.1)) (z_qc b0 E.1 (z_qi E P) (As.map (z_cv E.2.1)).toArray) (z_af b0) := by
    rcases hlk with hlk | ⟨host, hlk⟩
    · exact va_runS CF (hM.1 l b0 hb0) ⟨callB_of nA hw (z_goodws hcode) rfl rfl rfl (hw _ hini) (hw _ hlk) hdd ⟨r1, r2⟩, hw _ hstat⟩ hpre rfl (by rw [List.length_map]; exact hn) hL.1 hstk hrm hd ⟨r3, r4⟩
    · exact va_runSN CF (hM.1 l b0 hb0) ⟨va_cnB nA hw (z_goodws hcode) rfl rfl rfl (hC.2.2.2.2.2.1 _ hlk) (hw _ hini) hdd ⟨r1, r2⟩, hw _ hstat, trivial⟩ hpre rfl (by rw [List.length_map]; exact hn) hL.1 hstk hrm hd ⟨r3, r4⟩
  refine z_after run hS (fun v E' mi' mr' H1 locs1 hG hQ hP' hD' hS' => ?_)
  obtain ⟨rfl, x, rfl, hQ⟩ := hQ
  rw [hM.2.1, hM.2.2]
  exact k x mi' mr' hQ b0 p l e s m args below meth c H1 locs1 lsA Qm hC hP' hD' hS' hL hK
end ZR2
/-! cell: a number out of the script, not negative -/
def M_sc (b L : Nat) (xs : Nat → Int32) : z_M := (yL_cell, cL_cell, 2, (some .int), { frames := 0, cells := 0, slots := 0, locals := 0 }, fun s b0 => va_X b L xs s s.heap ∧ b < b0 ∧ b < s.heap.size)
theorem z_sc_D {len pc n b L : Nat} {xs : Nat → Int32} {i : Instr} (h : z_D len M_L_cell pc n i) : z_D len (M_sc b L xs) pc n i := h
theorem z_sc_J {pc n tgt b L : Nat} {off : Int} {xs : Nat → Int32} {i : Instr} (h : z_J M_L_cell pc n tgt off i) : z_J (M_sc b L xs) pc n tgt off i := h
set_option maxHeartbeats 1000000 in
theorem c_L_cell {E : z_E} {mi : z_Mi} {mr : z_Mr} {K b L : Nat} {xs : Nat → Int32} {k : Int} (hK : E.2.1 K = b) (hL : L ≤ 1536) (h0 : 0 ≤ k) (h1 : k ≤ 1000) : z_cx (M_sc b L xs) E [zo K, zi k] mi mr (z_qi E (fun x m r => (0 ≤ x ∧ z_R x) ∧ m = mi ∧ r = mr)) b L xs ∧ (z_mR (M_sc b L xs)).cells = 0 ∧ (z_mR (M_sc b L xs)).slots = 0 := by
  have hM : z_scr (M_sc b L xs) b L xs := fun s b0 h => h
  refine ⟨z_cx_of (ls := [some (zo K), some (zi k)]) rfl (fun s b0 a1 a2 a3 => ⟨a1, a2, a3⟩) (Nat.le_of_ble_eq_true rfl) rfl ?_, rfl, rfl⟩
  have fin : ∀ x, z_A (M_sc b L xs) E 0 0 20 [some (zo K), some (zi k)] [zi x] mi mr (z_qi E (fun x m r => (0 ≤ x ∧ z_R x) ∧ m = mi ∧ r = mr)) := by
    intro x
    refine z_ldc (v := 2147483647) (z_sc_D e_L_cell_20) (show Cond.constant RL 8 2147483647 ∈ z_WG from z_tab 388 (by decide +kernel) rfl) ?_
    refine z_mask (z_sc_D e_L_cell_22) (by decide +kernel) (z_I_R _) (fun z z0 z1 => ?_)
    exact z_iret (z_sc_D e_L_cell_23) (Or.inl rfl) rfl rfl ⟨rfl, _, rfl, ⟨z0, z1⟩, rfl, rfl⟩
  refine z_iload_n (z_sc_D e_L_cell_0) rfl ?_
  refine z_aload_n (z_sc_D e_L_cell_1) rfl ?_
  refine z_slen (z_sc_D e_L_cell_2) hM hK ?_
  refine z_icmp_ge (z_sc_J e_L_cell_3) ⟨by omega, by omega⟩ ⟨by omega, by omega⟩ (fun h => ?_) (fun h => ?_)
  · refine z_ldc (v := 15486221) (z_sc_D e_L_cell_12) (show Cond.constant RL 7 15486221 ∈ z_WG from z_tab 387 (by decide +kernel) rfl) ?_
    refine z_iload_n (z_sc_D e_L_cell_14) rfl ?_
    refine z_imul (z_sc_D e_L_cell_15) ?_
    refine z_sipush (z_sc_D e_L_cell_16) (by decide +kernel) ?_
    refine z_iadd (z_sc_D e_L_cell_19) ?_
    exact fin _
  · refine z_aload_n (z_sc_D e_L_cell_6) rfl ?_
    refine z_iload_n (z_sc_D e_L_cell_7) rfl ?_
    refine z_sld (z_sc_D e_L_cell_8) hM hK hL h0 (by omega) ?_
    refine z_goto (z_sc_J e_L_cell_9) ?_
    exact fin _
