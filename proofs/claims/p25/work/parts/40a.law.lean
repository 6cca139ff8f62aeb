/-! the law itself: its script stands in local 0 under a number behind all cells -/
def M_W (nm : String) (b L : Nat) (xs : Nat → Int32) : z_M := (⟨RL, nm, "([I)Z"⟩, cL_law, 5, ret, room_1, fun s b0 => va_X b L xs s s.heap ∧ b < b0 ∧ b < s.heap.size)
theorem z_W_scr {nm : String} {b L : Nat} {xs : Nat → Int32} : z_scr (M_W nm b L xs) b L xs := fun _ _ h => h
theorem z_Dl {nm : String} {len pc n b L : Nat} {xs : Nat → Int32} {i : Instr} (h : z_D len M_L_law pc n i) : z_D len (M_W nm b L xs) pc n i := h
theorem z_Jl {nm : String} {pc n tgt b L : Nat} {off : Int} {xs : Nat → Int32} {i : Instr} (h : z_J M_L_law pc n tgt off i) : z_J (M_W nm b L xs) pc n tgt off i := h
section ZLAW2
variable {M M' : z_M} {E : z_E} {kc ks pc n tgt K : Nat} {off : Int} {ls : List (Option z_V)} {st : List z_V} {mi : z_Mi} {mr : z_Mr} {Q : z_Q}
theorem z_Kset {H : Heap} {q : Nat} (hP : z_P E mi mr H) (hK : E.2.2.length ≤ K) : z_W (E.1, z_u E.2.1 K q, E.2.2) mi mr = z_W E mi mr := by
  apply List.ext_getElem?
  intro i
  cases ht : E.2.2[i]? with
  | none =>
    rw [z_W_none ht]; exact z_W_none ht
  | some t =>
    have hi : i < E.2.2.length := (List.getElem?_eq_some_iff.mp ht).1
    rw [z_W_get ht]
    refine (z_W_get (E := (E.1, z_u E.2.1 K q, E.2.2)) (mi := mi) (mr := mr) ht).trans ?_
    have e1 : z_u E.2.1 K q i = E.2.1 i := z_un (by omega)
    have e2 : z_mp (z_u E.2.1 K q) (mr i) = z_mp E.2.1 (mr i) := by
      funext k
      unfold z_mp
      cases hk : mr i k with
      | none => rfl
      | some j =>
        have := hP.2 i k j hi hk
        show some (z_u E.2.1 K q j) = some (E.2.1 j)
        rw [z_un (by omega)]
    show some (z_u E.2.1 K q i, z_ce E.1 t (mi i) (z_mp (z_u E.2.1 K q) (mr i))) = _
    rw [e1, e2]
theorem z_P_Kset {H : Heap} {q : Nat} (hP : z_P E mi mr H) (hK : E.2.2.length ≤ K) : z_P (E.1, z_u E.2.1 K q, E.2.2) mi mr H := by
  refine ⟨?_, hP.2⟩
  rw [z_Kset hP hK]; exact hP.1
theorem z_newK {idx ci N : Nat} {C : String} {T : u_T} (hd : z_D 3 M pc n (.new idx)) (hc : vwCl[ci]? = some (C, T, N)) (h1 : Cond.classLink (z_my M).cls idx C ∈ z_WG) (h2 : Cond.instantiable C N ∈ z_WG) (h3 : Cond.initialized C ∈ z_WG) (hrm : z_rn M kc ks N = true) (hst : z_lb E.2.2.length (st.map some))
    (hLs : ∀ al : Nat → Nat, (∀ i, i < E.2.2.length ∨ i = K → al i = E.2.1 i) → z_L al 0 ls = z_L E.2.1 0 ls) (hKl : E.2.2.length < K)
    (k : ∀ q : Nat, z_A M (z_E1 E q (ci, 0)) (kc + 1) (ks + N) n ls (zo E.2.2.length :: st) (z_u mi E.2.2.length (fun _ => 0)) (z_u mr E.2.2.length (fun _ => none)) Q) : z_A M E kc ks pc ls st mi mr Q := by
  intro b0 p l e s m args below meth c H locs lsA Qm hC hP hD hS hL hK
  obtain ⟨hd, rfl⟩ := hd
  obtain ⟨h6, hN, hty, hnm, hin⟩ := z_cl hc
  obtain ⟨r1, r2⟩ := z_rn_of hrm
  have hw := hC.2.2.2.2.1
  refine va_new (fs := z_fs ci (fun _ => 0) (fun _ => none)) hC.1 hC.2.1 hw hin (z_ty ci) hty hC.2.2.2.1 (hw _ h1) (hw _ h2) (hw _ h3) hC.2.2.2.2.2.2.1 hP.1 hD hS (fun q hq => Nat.le_trans hC.2.2.2.2.2.2.2.1 hq) hc (fun j hj => ?_) r1 r2 hd (fun q H1 g1 g2 g3 => ?_)
  · have hv : vp_V (z_fs ci (fun _ => 0) (fun _ => none)) j = z_fv (z_ty ci j) 0 none := by
      unfold vp_V
      rw [List.getD_eq_getElem?_getD, z_fs_get (hN ▸ hj)]; rfl
    rw [hv]
    have hall : ∀ c, c < 6 → ∀ j, j < z_NF c → defaultValue (z_ty c j) = z_fv (z_ty c j) 0 none := by decide +kernel
    exact hall ci h6 j (hN ▸ hj)
  · have e8 := z_W_push (q := q) (t := (ci, 0)) (f := fun _ => 0) hP
    rw [z_ce_obj (by show ci < 10; omega)] at e8
    rw [← e8] at g1 g2
    have k1 := k q b0 p l e s m args below meth c H1 locs lsA Qm hC (z_P_push hP g1) g2 g3 (by show lv_has lsA (z_mn M) (z_L (z_u E.2.1 E.2.2.length q) 0 ls); rw [hLs _ (fun i hi => z_un (by omega))]; exact hL) hK
    have e9 : (zo E.2.2.length :: st).map (z_cv (z_E1 E q (ci, 0)).2.1) = .ref q :: st.map (z_cv E.2.1) := by
      rw [List.map_cons]
      show va_rf (some (z_u E.2.1 E.2.2.length q E.2.2.length)) :: st.map (z_cv (z_u E.2.1 E.2.2.length q)) = _
      rw [z_us, z_st_new st hst]; rfl
    rw [e9] at k1
    exact k1
theorem z_callL {N : Nat} {P : z_E → z_Mi → z_Mr → Prop} {idx nA b : Nat} {As rest : List z_V} (hd : z_D 3 M pc n (.invokespecial idx)) (hl : z_LI (z_my M).cls idx (z_my M') (z_mc M') (z_mn M') none nA) (hret : z_mr M' = none) (hr : z_rm M M' kc ks = true) (hn : As.length = nA) (hst : st = As.reverse ++ zo b :: rest) (hcat : Nat.ble (rest.map z_cat).sum 8 = true)
    (hLs : ∀ al : Nat → Nat, (∀ i, i < E.2.2.length ∨ i = K → al i = E.2.1 i) → z_L al 0 ls = z_L E.2.1 0 ls) (hKl : E.2.2.length + N ≤ K) (hrs : z_lb E.2.2.length (rest.map some)) (hM : z_mk M' E (zo b :: As) mi mr N P)
    (k : ∀ (E' : z_E) (mi' : z_Mi) (mr' : z_Mr), z_up E E' N → P E' mi' mr' → z_A M (E'.1, z_u E'.2.1 K (E.2.1 K), E'.2.2) (kc + (z_mR M').cells) (ks + (z_mR M').slots) n ls rest mi' mr' Q) : z_A M E kc ks pc ls st mi mr Q := by
  refine z_callI hd hl hret hr hn hst hcat hM ?_
  intro v E' mi' mr' b0 p l e s m args below meth c H locs lsA Qm hQ hC hG hP hD hS hL hK
  obtain ⟨rfl, hup, hQ⟩ := hQ
  have hlen := z_up_len hup
  have hal : ∀ i, i < E.2.2.length ∨ i = K → z_u E'.2.1 K (E.2.1 K) i = E.2.1 i := by
    intro i hi
    by_cases h : i = K
    · subst h; rw [z_us]
    · rw [z_un h]; exact hup.2.2 i (by omega)
  have k1 := k E' mi' mr' hup hQ b0 p l e s m args below meth c H locs lsA Qm (by show z_C M b0 E'.1 p s m args meth c; rw [hG]; exact hC) (z_P_Kset hP (by omega)) (by rw [z_Kset hP (by omega)]; exact hD) hS (by show lv_has lsA (z_mn M) (z_L (z_u E'.2.1 K (E.2.1 K)) 0 ls); rw [hLs _ hal]; exact hL) (by show z_K M b0 E'.1 p l e s m args below meth c Q Qm; rw [hG]; exact hK)
  have e9 : rest.map (z_cv (z_u E'.2.1 K (E.2.1 K))) = rest.map (z_cv E.2.1) := z_st_al (a := E.2.2.length) (fun i hi => hal i (Or.inl hi)) rest hrs
  have e10 : rest.map (z_cv ((E'.1, z_u E'.2.1 K (E.2.1 K), E'.2.2) : z_E).2.1) = rest.map (z_cv E.2.1) := e9
  rw [e10] at k1
  exact k1
end ZLAW2
theorem z_X_E {E E2 : z_E} {o : Nat} {m : z_Mi} {r : z_Mr} {P : Int → Int} {n nx : Int} (he : E2.2.2 = E.2.2) (h : z_X E o m r P n nx) : z_X E2 o m r P n nx := by
  obtain ⟨G, al, T⟩ := E
  obtain ⟨G2, al2, T2⟩ := E2
  have he : T2 = T := he
  subst he
  exact h
