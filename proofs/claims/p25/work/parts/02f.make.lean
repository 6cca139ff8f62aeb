section ZNORM
variable {M : z_M} {E : z_E} {kc ks pc n : Nat} {ls : List (Option z_V)} {st : List z_V} {mi : z_Mi} {mr : z_Mr} {Q : z_Q}
theorem z_putiN {idx ci fk a N : Nat} {C : String} {T : u_T} {fi x : Int} {f : Int → Int} (hd : z_D 3 M pc n (.putfield idx)) (hf : z_F (z_my M).cls idx ci fk C T N) (ht : E.2.2[a]? = some (ci, 0)) (hk : ((fk : Nat) : Int) = fi) (hfin : (T fk).2.2.2 = false) (hz : z_ty ci fk = .int ∨ (z_ty ci fk = .boolean ∧ (x = 0 ∨ x = 1))) (hm : mi a = f) (k : z_A M E kc ks n ls st (z_u mi a (z_v f fi x)) mr Q) : z_A M E kc ks pc ls (zi x :: zo a :: st) mi mr Q :=
  z_puti hd hf ht hk hfin hz (by rw [hm]; exact k)
theorem z_putiU {idx ci fk a N : Nat} {C : String} {T : u_T} {fi x : Int} {f : Int → Int} (hd : z_D 3 M pc n (.putfield idx)) (hf : z_F (z_my M).cls idx ci fk C T N) (ht : E.2.2[a]? = some (ci, 0)) (hk : ((fk : Nat) : Int) = fi) (hfin : (T fk).2.2.2 = false) (hz : z_ty ci fk = .int ∨ (z_ty ci fk = .boolean ∧ (x = 0 ∨ x = 1))) (k : z_A M E kc ks n ls st (z_u mi a (z_v f fi x)) mr Q) : z_A M E kc ks pc ls (zi x :: zo a :: st) (z_u mi a f) mr Q :=
  z_puti hd hf ht hk hfin hz (by rw [z_us, z_uu]; exact k)
theorem z_iastN {a len : Nat} {i x : Int} {f : Int → Int} (hd : z_D 1 M pc n .iastore) (ht : E.2.2[a]? = some (10, len)) (hn : len ≤ 2147483648) (h0 : 0 ≤ i) (h1 : i < (len : Int)) (hm : mi a = f) (k : z_A M E kc ks n ls st (z_u mi a (z_v f i x)) mr Q) : z_A M E kc ks pc ls (zi x :: zi i :: zo a :: st) mi mr Q :=
  z_iast hd ht hn h0 h1 (by rw [hm]; exact k)
theorem z_iastU {a len : Nat} {i x : Int} {f : Int → Int} (hd : z_D 1 M pc n .iastore) (ht : E.2.2[a]? = some (10, len)) (hn : len ≤ 2147483648) (h0 : 0 ≤ i) (h1 : i < (len : Int)) (k : z_A M E kc ks n ls st (z_u mi a (z_v f i x)) mr Q) : z_A M E kc ks pc ls (zi x :: zi i :: zo a :: st) (z_u mi a f) mr Q :=
  z_iast hd ht hn h0 h1 (by rw [z_us, z_uu]; exact k)
end ZNORM
/-! what is made: a new cell has the next number -/
def z_lb (a : Nat) : List (Option z_V) → Prop
  | [] => True
  | some (.inr (.inr (some r))) :: t => r < a ∧ z_lb a t
  | _ :: t => z_lb a t
theorem z_cv_new {al : Nat → Nat} {a q : Nat} {v : z_V} (h : z_lb a [some v]) : z_cv (z_u al a q) v = z_cv al v := by
  rcases v with x | y | r
  · rfl
  · rfl
  · cases r with
    | none => rfl
    | some r =>
      have h1 : r < a := h.1
      show va_rf (some (z_u al a q r)) = va_rf (some (al r))
      rw [z_un (by omega)]
theorem z_lb_cons {a : Nat} {v : Option z_V} {t : List (Option z_V)} (h : z_lb a (v :: t)) : (∀ w, v = some w → z_lb a [some w]) ∧ z_lb a t := by
  cases v with
  | none => exact ⟨(fun w hw => by cases hw), h⟩
  | some v =>
    rcases v with x | y | r
    · exact ⟨(fun w hw => by cases hw; trivial), h⟩
    · exact ⟨(fun w hw => by cases hw; trivial), h⟩
    · cases r with
      | none => exact ⟨(fun w hw => by cases hw; trivial), h⟩
      | some r => exact ⟨(fun w hw => by cases hw; exact ⟨h.1, trivial⟩), h.2⟩
theorem z_L_new {al : Nat → Nat} {a q : Nat} (ls : List (Option z_V)) : ∀ (i : Nat), z_lb a ls → z_L (z_u al a q) i ls = z_L al i ls := by
  induction ls with
  | nil => intro i _; rfl
  | cons v t ih =>
    intro i h
    obtain ⟨h1, h2⟩ := z_lb_cons h
    cases v with
    | none => exact ih (i + 1) h2
    | some v =>
      show (i, z_cv (z_u al a q) v) :: z_L _ (i + 1) t = (i, z_cv al v) :: z_L al (i + 1) t
      rw [ih (i + 1) h2, z_cv_new (h1 v rfl)]
theorem z_st_new {al : Nat → Nat} {a q : Nat} (st : List z_V) : z_lb a (st.map some) → st.map (z_cv (z_u al a q)) = st.map (z_cv al) := by
  induction st with
  | nil => intro _; rfl
  | cons v t ih =>
    intro h
    obtain ⟨h1, h2⟩ := z_lb_cons h
    rw [List.map_cons, List.map_cons, ih h2, z_cv_new (h1 v rfl)]
/-- the surroundings with one more cell -/
def z_E1 (E : z_E) (q : Nat) (t : Nat × Nat) : z_E := (E.1, z_u E.2.1 E.2.2.length q, E.2.2 ++ [t])
theorem z_W_push {E : z_E} {mi : z_Mi} {mr : z_Mr} {H : Heap} {q : Nat} {t : Nat × Nat} {f : Int → Int} (hP : z_P E mi mr H) :
    z_W (z_E1 E q t) (z_u mi E.2.2.length f) (z_u mr E.2.2.length (fun _ => none)) = z_W E mi mr ++ [(q, z_ce E.1 t f (fun _ => none))] := by
  have hlen : (z_W E mi mr).length = E.2.2.length := by simp [z_W]
  apply List.ext_getElem?
  intro i
  rcases Nat.lt_trichotomy i E.2.2.length with h | h | h
  · have ht : E.2.2[i]? = some E.2.2[i] := List.getElem?_eq_getElem h
    have ht' : (z_E1 E q t).2.2[i]? = some E.2.2[i] := by show (E.2.2 ++ [t])[i]? = _; rw [List.getElem?_append_left h]; exact ht
    rw [z_W_get ht', List.getElem?_append_left (by rw [hlen]; exact h), z_W_get ht, z_un (by omega), z_un (by omega)]
    have e1 : (z_E1 E q t).2.1 i = E.2.1 i := z_un (by omega)
    have e2 : z_mp (z_E1 E q t).2.1 (mr i) = z_mp E.2.1 (mr i) := by
      funext k
      unfold z_mp
      cases hk : mr i k with
      | none => rfl
      | some j =>
        have := hP.2 i k j h hk
        show some (z_u E.2.1 E.2.2.length q j) = some (E.2.1 j)
        rw [z_un (by omega)]
    rw [e1, e2]; rfl
  · subst h
    have ht' : (z_E1 E q t).2.2[E.2.2.length]? = some t := by show (E.2.2 ++ [t])[_]? = _; rw [List.getElem?_append_right (Nat.le_refl _), Nat.sub_self]; rfl
    rw [z_W_get ht', List.getElem?_append_right (by rw [hlen]; exact Nat.le_refl _), hlen, Nat.sub_self, z_us, z_us]
    have e1 : (z_E1 E q t).2.1 E.2.2.length = q := z_us _ _ _
    rw [e1]; rfl
  · rw [List.getElem?_eq_none (by simp only [z_W, List.length_map, List.length_zipIdx]; show (E.2.2 ++ [t]).length ≤ i; simp; omega), List.getElem?_eq_none (by rw [List.length_append, hlen]; simp; omega)]
theorem z_P_push {E : z_E} {mi : z_Mi} {mr : z_Mr} {H H1 : Heap} {q : Nat} {t : Nat × Nat} {f : Int → Int} (hP : z_P E mi mr H) (h : va_P E.1.1 vwCl (z_W (z_E1 E q t) (z_u mi E.2.2.length f) (z_u mr E.2.2.length (fun _ => none))) H1) : z_P (z_E1 E q t) (z_u mi E.2.2.length f) (z_u mr E.2.2.length (fun _ => none)) H1 := by
  refine ⟨h, fun i k j hi hj => ?_⟩
  have hi' : i < E.2.2.length + 1 := by
    have : (z_E1 E q t).2.2.length = E.2.2.length + 1 := by show (E.2.2 ++ [t]).length = _; simp
    omega
  show j < (E.2.2 ++ [t]).length
  rw [List.length_append]
  by_cases hc : i = E.2.2.length
  · subst hc; rw [z_us] at hj; cases hj
  · rw [z_un hc] at hj
    have := hP.2 i k j (by omega) hj
    omega
section ZNEW
variable {M : z_M} {E : z_E} {kc ks pc n : Nat} {ls : List (Option z_V)} {st : List z_V} {mi : z_Mi} {mr : z_Mr} {Q : z_Q}
def z_rn (M : z_M) (kc ks N : Nat) : Bool := Nat.ble (kc + 1) (z_mR M).cells && Nat.ble (ks + N) (z_mR M).slots
theorem z_rn_of {N : Nat} (h : z_rn M kc ks N = true) : kc + 1 ≤ (z_mR M).cells ∧ ks + N ≤ (z_mR M).slots := by
  simp only [z_rn, Bool.and_eq_true] at h
  exact ⟨Nat.le_of_ble_eq_true h.1, Nat.le_of_ble_eq_true h.2⟩
theorem z_new {idx ci N : Nat} {C : String} {T : u_T} (hd : z_D 3 M pc n (.new idx)) (hc : vwCl[ci]? = some (C, T, N)) (h1 : Cond.classLink (z_my M).cls idx C ∈ z_WG) (h2 : Cond.instantiable C N ∈ z_WG) (h3 : Cond.initialized C ∈ z_WG) (hrm : z_rn M kc ks N = true) (hls : z_lb E.2.2.length ls) (hst : z_lb E.2.2.length (st.map some))
    (k : ∀ q : Nat, z_A M (z_E1 E q (ci, 0)) (kc + 1) (ks + N) n ls (zo E.2.2.length :: st) (z_u mi E.2.2.length (fun _ => 0)) (z_u mr E.2.2.length (fun _ => none)) Q) : z_A M E kc ks pc ls st mi mr Q := by
  intro b0 p l e s m args below meth c H locs lsA Qm hC hP hD hS hL hK
  obtain ⟨hd, rfl⟩ := hd
  obtain ⟨h6, hN, hty, hnm, hin⟩ := z_cl hc
  obtain ⟨r1, r2⟩ := z_rn_of hrm
  have hw := hC.2.2.2.2.1
  refine va_new (fs := z_fs ci (fun _ => 0) (fun _ => none)) hC.1 hC.2.1 hw hin (z_ty ci) hty hC.2.2.2.1 (hw _ h1) (hw _ h2) (hw _ h3) hC.2.2.2.2.2.2.1 hP.1 hD hS (fun q hq => Nat.le_trans hC.2.2.2.2.2.2.2.1 hq) hc (fun j hj => ?_) r1 r2 hd (fun q H1 g1 g2 g3 => ?_)
  · have hv : vp_V (z_fs ci (fun _ => 0) (fun _ => none)) j = z_fv (z_ty ci j) 0 none := by
      unfold vp_V
      rw [List.getD_eq_getElem?_getD, z_fs_get (hN ▸ hj)]; rfl
    rw [hv]
    have hall : ∀ c, c < 6 → ∀ j, j < z_NF c → defaultValue (z_ty c j) = z_fv (z_ty c j) 0 none := by decide +kernel
    exact hall ci h6 j (hN ▸ hj)
  · have e8 := z_W_push (q := q) (t := (ci, 0)) (f := fun _ => 0) hP
    rw [z_ce_obj (by show ci < 10; omega)] at e8
    rw [← e8] at g1 g2
    have k1 := k q b0 p l e s m args below meth c H1 locs lsA Qm hC (z_P_push hP g1) g2 g3 (by show lv_has lsA (z_mn M) (z_L (z_u E.2.1 E.2.2.length q) 0 ls); rw [z_L_new ls 0 hls]; exact hL) hK
    have e9 : (zo E.2.2.length :: st).map (z_cv (z_E1 E q (ci, 0)).2.1) = .ref q :: st.map (z_cv E.2.1) := by
      rw [List.map_cons]
      show va_rf (some (z_u E.2.1 E.2.2.length q E.2.2.length)) :: st.map (z_cv (z_u E.2.1 E.2.2.length q)) = _
      rw [z_us, z_st_new st hst]; rfl
    rw [e9] at k1
    exact k1
theorem z_newi {len : Nat} (hd : z_D 2 M pc n (.newarray .int)) (hw1 : Cond.arrayClass .int ∈ z_WG) (hlen : len ≤ 100000) (hrm : z_rn M kc ks len = true) (hls : z_lb E.2.2.length ls) (hst : z_lb E.2.2.length (st.map some))
    (k : ∀ q : Nat, z_A M (z_E1 E q (10, len)) (kc + 1) (ks + len) n ls (zo E.2.2.length :: st) (z_u mi E.2.2.length (fun _ => 0)) (z_u mr E.2.2.length (fun _ => none)) Q) : z_A M E kc ks pc ls (zi (len : Nat) :: st) mi mr Q := by
  intro b0 p l e s m args below meth c H locs lsA Qm hC hP hD hS hL hK
  obtain ⟨hd, rfl⟩ := hd
  obtain ⟨r1, r2⟩ := z_rn_of hrm
  have hw := hC.2.2.2.2.1
  refine va_newa (atype := .int) (ty := .int) (a0 := (len, .inl fun _ => z_I 0)) hC.1 hC.2.1 (hw _ hw1) rfl hC.2.2.2.2.2.2.1 hP.1 hD hS (fun q hq => Nat.le_trans hC.2.2.2.2.2.2.2.1 hq) (fun cA => by rw [vp_cell_i, z_I_0]; rfl) (by rw [← z_I_0, z_I_lt (by constructor <;> omega) z_R0]; omega) (by rw [z_I_clamp (by omega) (by omega)]; omega) (by show len * 4 ≤ _; omega) r1 r2 hd (fun q cA H1 g0 g1 g2 g3 => ?_)
  have e0 := (g0.2 0 _ rfl).2
  have e1 := (g0.2 5 _ rfl).2
  have e2 : cA = E.1.2.1 := Option.some.inj ((show s.vm.findClass _ = some cA from e1).symm.trans e0)
  subst e2
  have e8 := z_W_push (q := q) (t := (10, len)) (f := fun _ => 0) hP
  rw [z_ce_i] at e8
  rw [← e8] at g1 g2
  have k1 := k q b0 p l e s m args below meth c H1 locs lsA Qm hC (z_P_push hP g1) g2 g3 (by show lv_has lsA (z_mn M) (z_L (z_u E.2.1 E.2.2.length q) 0 ls); rw [z_L_new ls 0 hls]; exact hL) hK
  have e9 : (zo E.2.2.length :: st).map (z_cv (z_E1 E q (10, len)).2.1) = .ref q :: st.map (z_cv E.2.1) := by
    rw [List.map_cons]
    show va_rf (some (z_u E.2.1 E.2.2.length q E.2.2.length)) :: st.map (z_cv (z_u E.2.1 E.2.2.length q)) = _
    rw [z_us, z_st_new st hst]; rfl
  rw [e9] at k1
  exact k1
/-- an array of references: kind t over the class of index ci -/
theorem z_newq {idx len t ci : Nat} {C : String} (hd : z_D 3 M pc n (.anewarray idx)) (h1 : Cond.classLink (z_my M).cls idx C ∈ z_WG) (h2 : Cond.arrayOver (.object C) ∈ z_WN) (h3 : (t = 12 ∧ C = RX2) ∨ (t = 13 ∧ C = RX0) ∨ (t = 14 ∧ C = RX3)) (hlen : len ≤ 100000) (hrm : z_rn M kc ks len = true) (hls : z_lb E.2.2.length ls) (hst : z_lb E.2.2.length (st.map some))
    (k : ∀ q : Nat, z_A M (z_E1 E q (t, len)) (kc + 1) (ks + len) n ls (zo E.2.2.length :: st) (z_u mi E.2.2.length (fun _ => 0)) (z_u mr E.2.2.length (fun _ => none)) Q) : z_A M E kc ks pc ls (zi (len : Nat) :: st) mi mr Q := by
  intro b0 p l e s m args below meth c H locs lsA Qm hC hP hD hS hL hK
  obtain ⟨hd, rfl⟩ := hd
  obtain ⟨r1, r2⟩ := z_rn_of hrm
  have hw := hC.2.2.2.2.1
  refine va_newq (C := C) hC.1 hC.2.1 hC.2.2.2.1 (hw _ h1) (hC.2.2.2.2.2.1 _ h2) hC.2.2.2.2.2.2.1 hP.1 hD hS (fun q hq => Nat.le_trans hC.2.2.2.2.2.2.2.1 hq) (N' := len) (by rw [← z_I_0, z_I_lt (by constructor <;> omega) z_R0]; omega) (by rw [z_I_clamp (by omega) (by omega)]; omega) (by omega) r1 r2 hd (fun q cA H1 g0 g1 g2 g3 => ?_)
  obtain ⟨kA, comp, -, -, -, e1⟩ := (g0.2 5 _ rfl).2
  have e8 := z_W_push (q := q) (t := (t, len)) (f := fun _ => 0) hP
  have e7 : z_ce E.1 (t, len) (fun _ => 0) (fun _ => none) = .inl (cA, len, .inr (.inr (.inr (.inr fun _ => none)))) := by
    rcases h3 with ⟨rfl, rfl⟩ | ⟨rfl, rfl⟩ | ⟨rfl, rfl⟩
    · obtain ⟨_, _, -, -, -, e0⟩ := (g0.2 2 _ rfl).2
      have e2 : cA = E.1.2.2.2.1 := Option.some.inj (e1.symm.trans e0)
      rw [z_ce_12, e2]
    · obtain ⟨_, _, -, -, -, e0⟩ := (g0.2 3 _ rfl).2
      have e2 : cA = E.1.2.2.2.2.1 := Option.some.inj (e1.symm.trans e0)
      rw [z_ce_13, e2]
    · obtain ⟨_, _, -, -, -, e0⟩ := (g0.2 4 _ rfl).2
      have e2 : cA = E.1.2.2.2.2.2 := Option.some.inj (e1.symm.trans e0)
      rw [z_ce_14, e2]
  rw [e7] at e8
  rw [← e8] at g1 g2
  have k1 := k q b0 p l e s m args below meth c H1 locs lsA Qm hC (z_P_push hP g1) g2 g3 (by show lv_has lsA (z_mn M) (z_L (z_u E.2.1 E.2.2.length q) 0 ls); rw [z_L_new ls 0 hls]; exact hL) hK
  have e9 : (zo E.2.2.length :: st).map (z_cv (z_E1 E q (t, len)).2.1) = .ref q :: st.map (z_cv E.2.1) := by
    rw [List.map_cons]
    show va_rf (some (z_u E.2.1 E.2.2.length q E.2.2.length)) :: st.map (z_cv (z_u E.2.1 E.2.2.length q)) = _
    rw [z_us, z_st_new st hst]; rfl
  rw [e9] at k1
  exact k1
def z_oroom (M : z_M) : Bool := Nat.ble 1 (z_mR M).frames && Nat.ble 20 (z_mR M).locals
def z_LO (own : String) (idx : Nat) : Prop := Cond.methodLink own idx Lib.objectInit ∈ z_WG ∧ Cond.instanceMethod Lib.objectInit ∈ z_WG ∧ Cond.code Lib.objectInit ⟨#[0xb1]⟩ 1 none ∈ z_WG
theorem z_obj {idx a : Nat} (hd : z_D 3 M pc n (.invokespecial idx)) (hl : z_LO (z_my M).cls idx) (hr : z_oroom M = true) (hcat : Nat.ble (st.map z_cat).sum 8 = true) (k : z_A M E kc ks n ls st mi mr Q) : z_A M E kc ks pc ls (zo a :: st) mi mr Q := by
  intro b0 p l e s m args below meth c H locs lsA Qm hC hP hD hS hL hK
  obtain ⟨hd, rfl⟩ := hd
  simp only [z_oroom, Bool.and_eq_true] at hr
  have hw := hC.2.2.2.2.1
  have hcat := Nat.le_of_ble_eq_true hcat
  have h20 := Nat.le_of_ble_eq_true hr.2
  have k1 := k b0 p l e s m args below meth c H locs lsA Qm hC hP hD hS hL hK
  refine W.objInit hC.1 hC.2.1 hC.2.2.2.1 (hw _ hl.1) (hw _ hl.2.1) (hw _ hl.2.2) rfl (by rw [hC.2.2.1]; exact hL.1) rfl hd (Nat.le_of_ble_eq_true hr.1) ?_ ?_
  · show 2 * 0 + _ + 12 ≤ _
    rw [z_cats]; omega
  · exact k1
end ZNEW
