/-! calls, switches, Math, what is made -/
theorem z_pc_blind {as : List Value} {b0 : Nat} {E : z_E} {mi : z_Mi} {mr : z_Mr} : FrameBlind (va_Pc as (z_pc b0 E mi mr)) := by
  intro a U g mk h
  obtain ⟨h0, h1, h2, h3, h4, h5⟩ := h
  refine ⟨h0, h1, h2, va_K.moved (u := U) (U := U.calling g mk a) (Vm.Alike.refl U.vm) h3, fun w hw => ?_, h5⟩
  exact z_Nw_same hw (u := U) (U := U.calling g mk a) rfl (h4 w hw)
theorem z_pc_of {M : z_M} {b0 : Nat} {E : z_E} {mi : z_Mi} {mr : z_Mr} {p : Program} {s : State} {m : MethodId} {args : Array Value} {meth : Method} {c : Code} {H : Heap} {locs : List Loc} {as : List Value} (hC : z_C M b0 E.1 p s m args meth c) (hP : z_P E mi mr H) (hD : va_D (z_af b0) (z_W E mi mr)) (hS : va_S (z_af b0) s.heap H locs) : ∀ U : State, U.heap = H → s.WarmedH U.vm → va_Pc as (z_pc b0 E mi mr) as.toArray U := by
  intro U hU hW
  refine ⟨rfl, ?_, by rw [hU]; exact hP, va_K.moved hW.alike hC.2.2.2.2.2.2.1, fun w hw => z_Nw_warm hw hW (hC.2.2.2.2.2.1 w hw), hD⟩
  rw [hU]; exact Nat.le_trans hC.2.2.2.2.2.2.2.1 hS.1
section ZCALL
variable {M M' : z_M} {E : z_E} {kc ks pc n tgt : Nat} {off : Int} {ls : List (Option z_V)} {st : List z_V} {mi : z_Mi} {mr : z_Mr} {Q Q0 : z_Q}
theorem z_after {b0 : Nat} {p : Program} {l : Launch} {e : Env} {R : Room} {s : State} {m : MethodId} {args a' : Array Value} {below : List Frame} {meth : Method} {c : Code} {H : Heap} {locs : List Loc} {lsA : Array Slot} {Qm : State → Prop} {G : z_G} {st0 rest : List Value} {mc ms : Nat}
    (hr : va_Run p l e R s m args below meth c H locs kc ks mc ms (F0 m pc lsA st0) rest (z_qc b0 G Q0 a') (z_af b0)) (hS : va_S (z_af b0) s.heap H locs)
    (kk : ∀ (v : Option z_V) (E' : z_E) (mi' : z_Mi) (mr' : z_Mr) (H1 : Heap) (locs1 : List Loc), E'.1 = G → Q0 v E' mi' mr' → z_P E' mi' mr' H1 → va_D (z_af b0) (z_W E' mi' mr') → va_S (z_af b0) s.heap H1 locs1 → W p l e R s m args below meth c H1 locs1 (kc + mc) (ks + ms) Qm (F0 m (pc + 3) lsA ((v.map (z_cv E'.2.1)).toList ++ rest))) :
    W p l e R s m args below meth c H locs kc ks Qm (F0 m pc lsA st0) := by
  intro T hT X
  obtain ⟨v, st₀, t, T', L, h0, X', hL, e1, e2, ⟨⟨v', E', mi', mr', hG, ho, hQ, hP, hD⟩, hz, hk⟩, st⟩ := hr T hT X
  cases ho
  rw [h0] at hz hk
  obtain ⟨t2, a1, b1⟩ := kk v' E' mi' mr' T'.heap (locs ++ L) hG hQ (by rw [e1]; exact hP) hD
    ⟨Nat.le_trans hS.1 (by rw [e1]; exact hz), fun q h1 h2 => by rw [e1, hk q (Nat.lt_of_lt_of_le h1 hS.1) h2]; exact hS.2.1 q h1 h2, fun q hq => by
      rcases List.mem_append.mp hq with h | h
      · exact hS.2.2 q h
      · exact hL q h⟩ T' rfl X'
  exact ⟨t2, st t2 a1, b1⟩
theorem z_goodws (hc : Cond.code (z_my M') (z_mc M') (z_mn M') (z_mr M') ∈ z_WG) : GoodIn z_WG (z_ws M') := by
  intro w hw
  rcases List.mem_cons.mp hw with rfl | h
  · exact ⟨hc, good_of_word (z_good _ hc)⟩
  · exact ⟨h, good_of_word (z_good _ h)⟩
/-- room for a callee -/
def z_rm (M M' : z_M) (kc ks : Nat) : Bool := Nat.ble ((z_mR M').frames + 1) (z_mR M).frames && (Nat.ble (8 + (z_mn M' + 11) + (z_mR M').locals) (z_mR M).locals && (Nat.ble (kc + (z_mR M').cells) (z_mR M).cells && Nat.ble (ks + (z_mR M').slots) (z_mR M).slots))
theorem z_rm_of (h : z_rm M M' kc ks = true) : (z_mR M').frames + 1 ≤ (z_mR M).frames ∧ 8 + (z_mn M' + 11) + (z_mR M').locals ≤ (z_mR M).locals ∧ kc + (z_mR M').cells ≤ (z_mR M).cells ∧ ks + (z_mR M').slots ≤ (z_mR M).slots := by
  simp only [z_rm, Bool.and_eq_true] at h
  exact ⟨Nat.le_of_ble_eq_true h.1, Nat.le_of_ble_eq_true h.2.1, Nat.le_of_ble_eq_true h.2.2.1, Nat.le_of_ble_eq_true h.2.2.2⟩
theorem z_recv {s : State} {H : Heap} {b ci : Nat} (hK : va_K E.1.1 vwCl (z_tys E.1) s) (hP : z_P E mi mr H) (ht : E.2.2[b]? = some (ci, 0)) {C : String} (hc : ∃ T N, vwCl[ci]? = some (C, T, N)) : ∃ cell : Cell, H[E.2.1 b]? = some cell ∧ cell.vm.isStatics = false ∧ s.vm.findClass C = some cell.cls := by
  obtain ⟨T, N, hc⟩ := hc
  obtain ⟨h6, -⟩ := z_cl hc
  have he : (z_W E mi mr)[b]? = some (E.2.1 b, .inr (ci, z_fs ci (mi b) (z_mp E.2.1 (mr b)))) := by rw [z_W_get ht, z_ce_obj (by show ci < 10; omega)]
  exact va_recv hK hP.1 hc he
theorem z_callV {idx nA ci b : Nat} {As rest : List z_V} (hd : z_D 3 M pc n (.invokevirtual idx)) (hl : z_LV (z_my M).cls idx (z_my M') (z_mc M') (z_mn M') (z_mr M') nA) (hr : z_rm M M' kc ks = true) (hn : As.length = nA) (hst : st = As.reverse ++ zo b :: rest) (hcat : Nat.ble (rest.map z_cat).sum 8 = true) (ht : E.2.2[b]? = some (ci, 0)) (hci : ∃ T N, vwCl[ci]? = some ((z_my M').cls, T, N))
    (hM : z_ct M' E (zo b :: As) mi mr Q0)
    (k : ∀ (v : Option z_V) (E' : z_E) (mi' : z_Mi) (mr' : z_Mr) (b0 : Nat) (p : Program) (l : Launch) (e : Env) (s : State) (m : MethodId) (args : Array Value) (below : List Frame) (meth : Method) (c : Code) (H : Heap) (locs : List Loc) (lsA : Array Slot) (Qm : State → Prop), Q0 v E' mi' mr' → z_C M b0 E.1 p s m args meth c → E'.1 = E.1 → z_P E' mi' mr' H → va_D (z_af b0) (z_W E' mi' mr') → va_S (z_af b0) s.heap H locs → lv_has lsA (z_mn M) (z_L E.2.1 0 ls) → z_K M b0 E.1 p l e s m args below meth c Q Qm →
      W p l e (z_mR M) s m args below meth c H locs (kc + (z_mR M').cells) (ks + (z_mR M').slots) Qm (F0 m n lsA ((v.map (z_cv E'.2.1)).toList ++ rest.map (z_cv E.2.1)))) : z_A M E kc ks pc ls st mi mr Q := by
  intro b0 p l e s m args below meth c H locs lsA Qm hC hP hD hS hL hK
  obtain ⟨hd, rfl⟩ := hd
  subst hst
  obtain ⟨⟨hlk, hcode, hini, hdd⟩, hinst, hsel⟩ := hl
  obtain ⟨r1, r2, r3, r4⟩ := z_rm_of hr
  have hw := hC.2.2.2.2.1
  have CF : CallFix p m c (z_mc M) (z_mn M) s args z_WG (z_my M).cls := ⟨hC.1, hC.2.1, hC.2.2.1, hC.2.2.2.1, hw⟩
  have hpre : PreV s H (z_my M').cls (E.2.1 b) (va_Pc ((zo b :: As).map (z_cv E.2.1)) (z_pc b0 E mi mr)) (As.map (z_cv E.2.1)) := ⟨z_pc_blind, z_recv hC.2.2.2.2.2.2.1 hP ht hci, z_pc_of hC hP hD hS⟩
  have hstk : (As.reverse ++ zo b :: rest).map (z_cv E.2.1) = (As.map (z_cv E.2.1)).reverse ++ .ref (E.2.1 b) :: rest.map (z_cv E.2.1) := by
    rw [List.map_append, List.map_reverse, List.map_cons]; rfl
  have hrm : 2 * (F0 m pc lsA ((As.reverse ++ zo b :: rest).map (z_cv E.2.1))).monitorRoom + ((rest.map (z_cv E.2.1)).map fun v => v.category).sum ≤ 8 := lv_room (by rw [z_cats]; exact Nat.le_of_ble_eq_true hcat)
  have run : va_Run p l e (z_mR M) s m args below meth c H locs kc ks (z_mR M').cells (z_mR M').slots (F0 m pc lsA ((As.reverse ++ zo b :: rest).map (z_cv E.2.1))) (rest.map (z_cv E.2.1)) (z_qc b0 E.1 Q0 (Value.ref (E.2.1 b) :: As.map (z_cv E.2.1)).toArray) (z_af b0) := by
    rcases hlk with hlk | ⟨host, hlk⟩
    · exact va_runV CF (hM l b0) ⟨callB_of nA hw (z_goodws hcode) rfl rfl rfl (hw _ hini) (hw _ hlk) hdd ⟨r1, r2⟩, hw _ hinst, hw _ hsel⟩ hpre rfl (by rw [List.length_map]; exact hn) hL.1 hstk hrm hd ⟨r3, r4⟩
    · exact va_runVN CF (hM l b0) ⟨va_cnB nA hw (z_goodws hcode) rfl rfl rfl (hC.2.2.2.2.2.1 _ hlk) (hw _ hini) hdd ⟨r1, r2⟩, hw _ hinst, hw _ hsel⟩ hpre rfl (by rw [List.length_map]; exact hn) hL.1 hstk hrm hd ⟨r3, r4⟩
  exact z_after run hS (fun v E' mi' mr' H1 locs1 hG hQ hP' hD' hS' => k v E' mi' mr' b0 p l e s m args below meth c H1 locs1 lsA Qm hQ hC hG hP' hD' hS' hL hK)
theorem z_callS {idx nA : Nat} {As rest : List z_V} (hd : z_D 3 M pc n (.invokestatic idx)) (hl : z_LS (z_my M).cls idx (z_my M') (z_mc M') (z_mn M') (z_mr M') nA) (hr : z_rm M M' kc ks = true) (hn : As.length = nA) (hst : st = As.reverse ++ rest) (hcat : Nat.ble (rest.map z_cat).sum 8 = true)
    (hM : z_ct M' E As mi mr Q0)
    (k : ∀ (v : Option z_V) (E' : z_E) (mi' : z_Mi) (mr' : z_Mr) (b0 : Nat) (p : Program) (l : Launch) (e : Env) (s : State) (m : MethodId) (args : Array Value) (below : List Frame) (meth : Method) (c : Code) (H : Heap) (locs : List Loc) (lsA : Array Slot) (Qm : State → Prop), Q0 v E' mi' mr' → z_C M b0 E.1 p s m args meth c → E'.1 = E.1 → z_P E' mi' mr' H → va_D (z_af b0) (z_W E' mi' mr') → va_S (z_af b0) s.heap H locs → lv_has lsA (z_mn M) (z_L E.2.1 0 ls) → z_K M b0 E.1 p l e s m args below meth c Q Qm →
      W p l e (z_mR M) s m args below meth c H locs (kc + (z_mR M').cells) (ks + (z_mR M').slots) Qm (F0 m n lsA ((v.map (z_cv E'.2.1)).toList ++ rest.map (z_cv E.2.1)))) : z_A M E kc ks pc ls st mi mr Q := by
  intro b0 p l e s m args below meth c H locs lsA Qm hC hP hD hS hL hK
  obtain ⟨hd, rfl⟩ := hd
  subst hst
  obtain ⟨⟨hlk, hcode, hini, hdd⟩, hstat⟩ := hl
  obtain ⟨r1, r2, r3, r4⟩ := z_rm_of hr
  have hw := hC.2.2.2.2.1
  have CF : CallFix p m c (z_mc M) (z_mn M) s args z_WG (z_my M).cls := ⟨hC.1, hC.2.1, hC.2.2.1, hC.2.2.2.1, hw⟩
  have hpre : PreS s H (va_Pc (As.map (z_cv E.2.1)) (z_pc b0 E mi mr)) (As.map (z_cv E.2.1)) := ⟨z_pc_blind, z_pc_of hC hP hD hS⟩
  have hstk : (As.reverse ++ rest).map (z_cv E.2.1) = (As.map (z_cv E.2.1)).reverse ++ rest.map (z_cv E.2.1) := by
    rw [List.map_append, List.map_reverse]
  have hrm : 2 * (F0 m pc lsA ((As.reverse ++ rest).map (z_cv E.2.1))).monitorRoom + ((rest.map (z_cv E.2.1)).map fun v => v.category).sum ≤ 8 := lv_room (by rw [z_cats]; exact Nat.le_of_ble_eq_true hcat)
  have run : va_Run p l e (z_mR M) s m args below meth c H locs kc ks (z_mR M').cells (z_mR M').slots (F0 m pc lsA ((As.reverse ++ rest).map (z_cv E.2.1))) (rest.map (z_cv E.2.1)) (z_qc b0 E.1 Q0 (As.map (z_cv E.2.1)).toArray) (z_af b0) := by
    rcases hlk with hlk | ⟨host, hlk⟩
    · exact va_runS CF (hM l b0) ⟨callB_of nA hw (z_goodws hcode) rfl rfl rfl (hw _ hini) (hw _ hlk) hdd ⟨r1, r2⟩, hw _ hstat⟩ hpre rfl (by rw [List.length_map]; exact hn) hL.1 hstk hrm hd ⟨r3, r4⟩
    · exact va_runSN CF (hM l b0) ⟨va_cnB nA hw (z_goodws hcode) rfl rfl rfl (hC.2.2.2.2.2.1 _ hlk) (hw _ hini) hdd ⟨r1, r2⟩, hw _ hstat, trivial⟩ hpre rfl (by rw [List.length_map]; exact hn) hL.1 hstk hrm hd ⟨r3, r4⟩
  exact z_after run hS (fun v E' mi' mr' H1 locs1 hG hQ hP' hD' hS' => k v E' mi' mr' b0 p l e s m args below meth c H1 locs1 lsA Qm hQ hC hG hP' hD' hS' hL hK)
theorem z_callI {idx nA b : Nat} {As rest : List z_V} (hd : z_D 3 M pc n (.invokespecial idx)) (hl : z_LI (z_my M).cls idx (z_my M') (z_mc M') (z_mn M') none nA) (hret : z_mr M' = none) (hr : z_rm M M' kc ks = true) (hn : As.length = nA) (hst : st = As.reverse ++ zo b :: rest) (hcat : Nat.ble (rest.map z_cat).sum 8 = true)
    (hM : z_ct M' E (zo b :: As) mi mr Q0)
    (k : ∀ (v : Option z_V) (E' : z_E) (mi' : z_Mi) (mr' : z_Mr) (b0 : Nat) (p : Program) (l : Launch) (e : Env) (s : State) (m : MethodId) (args : Array Value) (below : List Frame) (meth : Method) (c : Code) (H : Heap) (locs : List Loc) (lsA : Array Slot) (Qm : State → Prop), Q0 v E' mi' mr' → z_C M b0 E.1 p s m args meth c → E'.1 = E.1 → z_P E' mi' mr' H → va_D (z_af b0) (z_W E' mi' mr') → va_S (z_af b0) s.heap H locs → lv_has lsA (z_mn M) (z_L E.2.1 0 ls) → z_K M b0 E.1 p l e s m args below meth c Q Qm →
      W p l e (z_mR M) s m args below meth c H locs (kc + (z_mR M').cells) (ks + (z_mR M').slots) Qm (F0 m n lsA ((v.map (z_cv E'.2.1)).toList ++ rest.map (z_cv E.2.1)))) : z_A M E kc ks pc ls st mi mr Q := by
  intro b0 p l e s m args below meth c H locs lsA Qm hC hP hD hS hL hK
  obtain ⟨hd, rfl⟩ := hd
  subst hst
  obtain ⟨⟨hlk, hcode, hini, hdd⟩, hnm, hinst⟩ := hl
  obtain ⟨r1, r2, r3, r4⟩ := z_rm_of hr
  have hw := hC.2.2.2.2.1
  have CF : CallFix p m c (z_mc M) (z_mn M) s args z_WG (z_my M).cls := ⟨hC.1, hC.2.1, hC.2.2.1, hC.2.2.2.1, hw⟩
  have hpre : PreS s H (va_Pc ((zo b :: As).map (z_cv E.2.1)) (z_pc b0 E mi mr)) (.ref (E.2.1 b) :: As.map (z_cv E.2.1)) := ⟨z_pc_blind, z_pc_of hC hP hD hS⟩
  have hstk : (As.reverse ++ zo b :: rest).map (z_cv E.2.1) = (As.map (z_cv E.2.1)).reverse ++ .ref (E.2.1 b) :: rest.map (z_cv E.2.1) := by
    rw [List.map_append, List.map_reverse, List.map_cons]; rfl
  have hrm : 2 * (F0 m pc lsA ((As.reverse ++ zo b :: rest).map (z_cv E.2.1))).monitorRoom + ((rest.map (z_cv E.2.1)).map fun v => v.category).sum ≤ 8 := lv_room (by rw [z_cats]; exact Nat.le_of_ble_eq_true hcat)
  have hwse : z_ws M' = Cond.code (z_my M') (z_mc M') (z_mn M') none :: z_WG := by rw [z_ws, hret]
  have run : va_Run p l e (z_mR M) s m args below meth c H locs kc ks (z_mR M').cells (z_mR M').slots (F0 m pc lsA ((As.reverse ++ zo b :: rest).map (z_cv E.2.1))) (rest.map (z_cv E.2.1)) (z_qc b0 E.1 Q0 (Value.ref (E.2.1 b) :: As.map (z_cv E.2.1)).toArray) (z_af b0) := by
    rcases hlk with hlk | ⟨host, hlk⟩
    · exact va_runI CF (hM l b0) ⟨callB_of nA hw (z_goodws (by rw [hret]; exact hcode)) hwse rfl rfl (hw _ hini) (hw _ hlk) hdd ⟨r1, r2⟩, hnm, hw _ hinst⟩ hpre rfl (by rw [List.length_map]; exact hn) hL.1 hstk hrm hd ⟨r3, r4⟩
    · exact va_runIN CF (hM l b0) ⟨va_cnB nA hw (z_goodws (by rw [hret]; exact hcode)) hwse rfl rfl (hC.2.2.2.2.2.1 _ hlk) (hw _ hini) hdd ⟨r1, r2⟩, hnm, hw _ hinst⟩ hpre rfl (by rw [List.length_map]; exact hn) hL.1 hstk hrm hd ⟨r3, r4⟩
  exact z_after run hS (fun v E' mi' mr' H1 locs1 hG hQ hP' hD' hS' => k v E' mi' mr' b0 p l e s m args below meth c H1 locs1 lsA Qm hQ hC hG hP' hD' hS' hL hK)
end ZCALL
/-! the four kinds of answers of a method that makes nothing -/
abbrev z_qv (E : z_E) (P : z_Mi → z_Mr → Prop) : z_Q := fun v E' mi mr => E' = E ∧ v = none ∧ P mi mr
abbrev z_qi (E : z_E) (P : Int → z_Mi → z_Mr → Prop) : z_Q := fun v E' mi mr => E' = E ∧ ∃ x, v = some (zi x) ∧ P x mi mr
abbrev z_ql (E : z_E) (P : Int64 → z_Mi → z_Mr → Prop) : z_Q := fun v E' mi mr => E' = E ∧ ∃ x, v = some (zl x) ∧ P x mi mr
abbrev z_qr (E : z_E) (P : Nat → z_Mi → z_Mr → Prop) : z_Q := fun v E' mi mr => E' = E ∧ ∃ x, v = some (zo x) ∧ P x mi mr
def z_mv (M : z_M) (E : z_E) (as : List z_V) (mi : z_Mi) (mr : z_Mr) (P : z_Mi → z_Mr → Prop) : Prop := z_ct M E as mi mr (z_qv E P) ∧ (z_mR M).cells = 0 ∧ (z_mR M).slots = 0
def z_mi (M : z_M) (E : z_E) (as : List z_V) (mi : z_Mi) (mr : z_Mr) (P : Int → z_Mi → z_Mr → Prop) : Prop := z_ct M E as mi mr (z_qi E P) ∧ (z_mR M).cells = 0 ∧ (z_mR M).slots = 0
def z_ml (M : z_M) (E : z_E) (as : List z_V) (mi : z_Mi) (mr : z_Mr) (P : Int64 → z_Mi → z_Mr → Prop) : Prop := z_ct M E as mi mr (z_ql E P) ∧ (z_mR M).cells = 0 ∧ (z_mR M).slots = 0
def z_mf (M : z_M) (E : z_E) (as : List z_V) (mi : z_Mi) (mr : z_Mr) (P : Nat → z_Mi → z_Mr → Prop) : Prop := z_ct M E as mi mr (z_qr E P) ∧ (z_mR M).cells = 0 ∧ (z_mR M).slots = 0
section ZCT
variable {M M' : z_M} {E : z_E} {kc ks pc n : Nat} {ls : List (Option z_V)} {st : List z_V} {mi : z_Mi} {mr : z_Mr} {Q : z_Q}
theorem z_callVv {P : z_Mi → z_Mr → Prop} {idx nA ci b : Nat} {As rest : List z_V} (hd : z_D 3 M pc n (.invokevirtual idx)) (hl : z_LV (z_my M).cls idx (z_my M') (z_mc M') (z_mn M') (z_mr M') nA) (hr : z_rm M M' kc ks = true) (hn : As.length = nA) (hst : st = As.reverse ++ zo b :: rest) (hcat : Nat.ble (rest.map z_cat).sum 8 = true) (ht : E.2.2[b]? = some (ci, 0)) (hci : ∃ T N, vwCl[ci]? = some ((z_my M').cls, T, N)) (hM : z_mv M' E (zo b :: As) mi mr P) (k : ∀ (mi' : z_Mi) (mr' : z_Mr), P mi' mr' → z_A M E kc ks n ls rest mi' mr' Q) : z_A M E kc ks pc ls st mi mr Q := by
  refine z_callV hd hl hr hn hst hcat ht hci hM.1 ?_
  intro v E' mi' mr' b0 p l e s m args below meth c H locs lsA Qm hQ hC hG hP hD hS hL hK
  obtain ⟨rfl, rfl, hQ⟩ := hQ
  rw [hM.2.1, hM.2.2]
  exact k mi' mr' hQ b0 p l e s m args below meth c H locs lsA Qm hC hP hD hS hL hK
theorem z_callVi {P : Int → z_Mi → z_Mr → Prop} {idx nA ci b : Nat} {As rest : List z_V} (hd : z_D 3 M pc n (.invokevirtual idx)) (hl : z_LV (z_my M).cls idx (z_my M') (z_mc M') (z_mn M') (z_mr M') nA) (hr : z_rm M M' kc ks = true) (hn : As.length = nA) (hst : st = As.reverse ++ zo b :: rest) (hcat : Nat.ble (rest.map z_cat).sum 8 = true) (ht : E.2.2[b]? = some (ci, 0)) (hci : ∃ T N, vwCl[ci]? = some ((z_my M').cls, T, N)) (hM : z_mi M' E (zo b :: As) mi mr P) (k : ∀ (x : Int) (mi' : z_Mi) (mr' : z_Mr), P x mi' mr' → z_A M E kc ks n ls (zi x :: rest) mi' mr' Q) : z_A M E kc ks pc ls st mi mr Q := by
  refine z_callV hd hl hr hn hst hcat ht hci hM.1 ?_
  intro v E' mi' mr' b0 p l e s m args below meth c H locs lsA Qm hQ hC hG hP hD hS hL hK
  obtain ⟨rfl, x, rfl, hQ⟩ := hQ
  rw [hM.2.1, hM.2.2]
  exact k x mi' mr' hQ b0 p l e s m args below meth c H locs lsA Qm hC hP hD hS hL hK
theorem z_callVl {P : Int64 → z_Mi → z_Mr → Prop} {idx nA ci b : Nat} {As rest : List z_V} (hd : z_D 3 M pc n (.invokevirtual idx)) (hl : z_LV (z_my M).cls idx (z_my M') (z_mc M') (z_mn M') (z_mr M') nA) (hr : z_rm M M' kc ks = true) (hn : As.length = nA) (hst : st = As.reverse ++ zo b :: rest) (hcat : Nat.ble (rest.map z_cat).sum 8 = true) (ht : E.2.2[b]? = some (ci, 0)) (hci : ∃ T N, vwCl[ci]? = some ((z_my M').cls, T, N)) (hM : z_ml M' E (zo b :: As) mi mr P) (k : ∀ (x : Int64) (mi' : z_Mi) (mr' : z_Mr), P x mi' mr' → z_A M E kc ks n ls (zl x :: rest) mi' mr' Q) : z_A M E kc ks pc ls st mi mr Q := by
  refine z_callV hd hl hr hn hst hcat ht hci hM.1 ?_
  intro v E' mi' mr' b0 p l e s m args below meth c H locs lsA Qm hQ hC hG hP hD hS hL hK
  obtain ⟨rfl, x, rfl, hQ⟩ := hQ
  rw [hM.2.1, hM.2.2]
  exact k x mi' mr' hQ b0 p l e s m args below meth c H locs lsA Qm hC hP hD hS hL hK
theorem z_callVr {P : Nat → z_Mi → z_Mr → Prop} {idx nA ci b : Nat} {As rest : List z_V} (hd : z_D 3 M pc n (.invokevirtual idx)) (hl : z_LV (z_my M).cls idx (z_my M') (z_mc M') (z_mn M') (z_mr M') nA) (hr : z_rm M M' kc ks = true) (hn : As.length = nA) (hst : st = As.reverse ++ zo b :: rest) (hcat : Nat.ble (rest.map z_cat).sum 8 = true) (ht : E.2.2[b]? = some (ci, 0)) (hci : ∃ T N, vwCl[ci]? = some ((z_my M').cls, T, N)) (hM : z_mf M' E (zo b :: As) mi mr P) (k : ∀ (x : Nat) (mi' : z_Mi) (mr' : z_Mr), P x mi' mr' → z_A M E kc ks n ls (zo x :: rest) mi' mr' Q) : z_A M E kc ks pc ls st mi mr Q := by
  refine z_callV hd hl hr hn hst hcat ht hci hM.1 ?_
  intro v E' mi' mr' b0 p l e s m args below meth c H locs lsA Qm hQ hC hG hP hD hS hL hK
  obtain ⟨rfl, x, rfl, hQ⟩ := hQ
  rw [hM.2.1, hM.2.2]
  exact k x mi' mr' hQ b0 p l e s m args below meth c H locs lsA Qm hC hP hD hS hL hK
theorem z_callSv {P : z_Mi → z_Mr → Prop} {idx nA : Nat} {As rest : List z_V} (hd : z_D 3 M pc n (.invokestatic idx)) (hl : z_LS (z_my M).cls idx (z_my M') (z_mc M') (z_mn M') (z_mr M') nA) (hr : z_rm M M' kc ks = true) (hn : As.length = nA) (hst : st = As.reverse ++ rest) (hcat : Nat.ble (rest.map z_cat).sum 8 = true) (hM : z_mv M' E As mi mr P) (k : ∀ (mi' : z_Mi) (mr' : z_Mr), P mi' mr' → z_A M E kc ks n ls rest mi' mr' Q) : z_A M E kc ks pc ls st mi mr Q := by
  refine z_callS hd hl hr hn hst hcat hM.1 ?_
  intro v E' mi' mr' b0 p l e s m args below meth c H locs lsA Qm hQ hC hG hP hD hS hL hK
  obtain ⟨rfl, rfl, hQ⟩ := hQ
  rw [hM.2.1, hM.2.2]
  exact k mi' mr' hQ b0 p l e s m args below meth c H locs lsA Qm hC hP hD hS hL hK
theorem z_callSi {P : Int → z_Mi → z_Mr → Prop} {idx nA : Nat} {As rest : List z_V} (hd : z_D 3 M pc n (.invokestatic idx)) (hl : z_LS (z_my M).cls idx (z_my M') (z_mc M') (z_mn M') (z_mr M') nA) (hr : z_rm M M' kc ks = true) (hn : As.length = nA) (hst : st = As.reverse ++ rest) (hcat : Nat.ble (rest.map z_cat).sum 8 = true) (hM : z_mi M' E As mi mr P) (k : ∀ (x : Int) (mi' : z_Mi) (mr' : z_Mr), P x mi' mr' → z_A M E kc ks n ls (zi x :: rest) mi' mr' Q) : z_A M E kc ks pc ls st mi mr Q := by
  refine z_callS hd hl hr hn hst hcat hM.1 ?_
  intro v E' mi' mr' b0 p l e s m args below meth c H locs lsA Qm hQ hC hG hP hD hS hL hK
  obtain ⟨rfl, x, rfl, hQ⟩ := hQ
  rw [hM.2.1, hM.2.2]
  exact k x mi' mr' hQ b0 p l e s m args below meth c H locs lsA Qm hC hP hD hS hL hK
theorem z_callSl {P : Int64 → z_Mi → z_Mr → Prop} {idx nA : Nat} {As rest : List z_V} (hd : z_D 3 M pc n (.invokestatic idx)) (hl : z_LS (z_my M).cls idx (z_my M') (z_mc M') (z_mn M') (z_mr M') nA) (hr : z_rm M M' kc ks = true) (hn : As.length = nA) (hst : st = As.reverse ++ rest) (hcat : Nat.ble (rest.map z_cat).sum 8 = true) (hM : z_ml M' E As mi mr P) (k : ∀ (x : Int64) (mi' : z_Mi) (mr' : z_Mr), P x mi' mr' → z_A M E kc ks n ls (zl x :: rest) mi' mr' Q) : z_A M E kc ks pc ls st mi mr Q := by
  refine z_callS hd hl hr hn hst hcat hM.1 ?_
  intro v E' mi' mr' b0 p l e s m args below meth c H locs lsA Qm hQ hC hG hP hD hS hL hK
  obtain ⟨rfl, x, rfl, hQ⟩ := hQ
  rw [hM.2.1, hM.2.2]
  exact k x mi' mr' hQ b0 p l e s m args below meth c H locs lsA Qm hC hP hD hS hL hK
theorem z_callSr {P : Nat → z_Mi → z_Mr → Prop} {idx nA : Nat} {As rest : List z_V} (hd : z_D 3 M pc n (.invokestatic idx)) (hl : z_LS (z_my M).cls idx (z_my M') (z_mc M') (z_mn M') (z_mr M') nA) (hr : z_rm M M' kc ks = true) (hn : As.length = nA) (hst : st = As.reverse ++ rest) (hcat : Nat.ble (rest.map z_cat).sum 8 = true) (hM : z_mf M' E As mi mr P) (k : ∀ (x : Nat) (mi' : z_Mi) (mr' : z_Mr), P x mi' mr' → z_A M E kc ks n ls (zo x :: rest) mi' mr' Q) : z_A M E kc ks pc ls st mi mr Q := by
  refine z_callS hd hl hr hn hst hcat hM.1 ?_
  intro v E' mi' mr' b0 p l e s m args below meth c H locs lsA Qm hQ hC hG hP hD hS hL hK
  obtain ⟨rfl, x, rfl, hQ⟩ := hQ
  rw [hM.2.1, hM.2.2]
  exact k x mi' mr' hQ b0 p l e s m args below meth c H locs lsA Qm hC hP hD hS hL hK
theorem z_callIv {P : z_Mi → z_Mr → Prop} {idx nA b : Nat} {As rest : List z_V} (hd : z_D 3 M pc n (.invokespecial idx)) (hl : z_LI (z_my M).cls idx (z_my M') (z_mc M') (z_mn M') none nA) (hret : z_mr M' = none) (hr : z_rm M M' kc ks = true) (hn : As.length = nA) (hst : st = As.reverse ++ zo b :: rest) (hcat : Nat.ble (rest.map z_cat).sum 8 = true) (hM : z_mv M' E (zo b :: As) mi mr P) (k : ∀ (mi' : z_Mi) (mr' : z_Mr), P mi' mr' → z_A M E kc ks n ls rest mi' mr' Q) : z_A M E kc ks pc ls st mi mr Q := by
  refine z_callI hd hl hret hr hn hst hcat hM.1 ?_
  intro v E' mi' mr' b0 p l e s m args below meth c H locs lsA Qm hQ hC hG hP hD hS hL hK
  obtain ⟨rfl, rfl, hQ⟩ := hQ
  rw [hM.2.1, hM.2.2]
  exact k mi' mr' hQ b0 p l e s m args below meth c H locs lsA Qm hC hP hD hS hL hK
end ZCT
theorem z_ofv {M : z_M} {E : z_E} {as : List z_V} {ls : List (Option z_V)} {mi : z_Mi} {mr : z_Mr} {P : z_Mi → z_Mr → Prop} (hy : plainName (z_my M).cls = true) (hE : ∀ s b0, z_mE M s b0) (hc : (z_mR M).cells = 0 ∧ (z_mR M).slots = 0) (hn : (as.map z_cat).sum ≤ z_mn M) (hls : z_en as ++ List.replicate (z_mn M - (as.map z_cat).sum) none = ls) (h : z_A M E 0 0 0 ls [] mi mr (z_qv E P)) : z_mv M E as mi mr P := ⟨z_ct_of hy hE hn hls h, hc.1, hc.2⟩
theorem z_ofi {M : z_M} {E : z_E} {as : List z_V} {ls : List (Option z_V)} {mi : z_Mi} {mr : z_Mr} {P : Int → z_Mi → z_Mr → Prop} (hy : plainName (z_my M).cls = true) (hE : ∀ s b0, z_mE M s b0) (hc : (z_mR M).cells = 0 ∧ (z_mR M).slots = 0) (hn : (as.map z_cat).sum ≤ z_mn M) (hls : z_en as ++ List.replicate (z_mn M - (as.map z_cat).sum) none = ls) (h : z_A M E 0 0 0 ls [] mi mr (z_qi E P)) : z_mi M E as mi mr P := ⟨z_ct_of hy hE hn hls h, hc.1, hc.2⟩
theorem z_ofl {M : z_M} {E : z_E} {as : List z_V} {ls : List (Option z_V)} {mi : z_Mi} {mr : z_Mr} {P : Int64 → z_Mi → z_Mr → Prop} (hy : plainName (z_my M).cls = true) (hE : ∀ s b0, z_mE M s b0) (hc : (z_mR M).cells = 0 ∧ (z_mR M).slots = 0) (hn : (as.map z_cat).sum ≤ z_mn M) (hls : z_en as ++ List.replicate (z_mn M - (as.map z_cat).sum) none = ls) (h : z_A M E 0 0 0 ls [] mi mr (z_ql E P)) : z_ml M E as mi mr P := ⟨z_ct_of hy hE hn hls h, hc.1, hc.2⟩
theorem z_ofr {M : z_M} {E : z_E} {as : List z_V} {ls : List (Option z_V)} {mi : z_Mi} {mr : z_Mr} {P : Nat → z_Mi → z_Mr → Prop} (hy : plainName (z_my M).cls = true) (hE : ∀ s b0, z_mE M s b0) (hc : (z_mR M).cells = 0 ∧ (z_mR M).slots = 0) (hn : (as.map z_cat).sum ≤ z_mn M) (hls : z_en as ++ List.replicate (z_mn M - (as.map z_cat).sum) none = ls) (h : z_A M E 0 0 0 ls [] mi mr (z_qr E P)) : z_mf M E as mi mr P := ⟨z_ct_of hy hE hn hls h, hc.1, hc.2⟩
