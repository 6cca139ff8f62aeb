/-! constructors that make cells: the surroundings grow -/
theorem z_cv_al {al al' : Nat → Nat} {a : Nat} {v : z_V} (ha : ∀ i, i < a → al' i = al i) (h : z_lb a [some v]) : z_cv al' v = z_cv al v := by
  rcases v with x | y | r
  · rfl
  · rfl
  · cases r with
    | none => rfl
    | some r =>
      show va_rf (some (al' r)) = va_rf (some (al r))
      rw [ha r h.1]
theorem z_L_al {al al' : Nat → Nat} {a : Nat} (ha : ∀ i, i < a → al' i = al i) (ls : List (Option z_V)) : ∀ (i : Nat), z_lb a ls → z_L al' i ls = z_L al i ls := by
  induction ls with
  | nil => intro i _; rfl
  | cons v t ih =>
    intro i h
    obtain ⟨h1, h2⟩ := z_lb_cons h
    cases v with
    | none => exact ih (i + 1) h2
    | some v =>
      show (i, z_cv al' v) :: z_L _ (i + 1) t = (i, z_cv al v) :: z_L al (i + 1) t
      rw [ih (i + 1) h2, z_cv_al ha (h1 v rfl)]
theorem z_st_al {al al' : Nat → Nat} {a : Nat} (ha : ∀ i, i < a → al' i = al i) (st : List z_V) : z_lb a (st.map some) → st.map (z_cv al') = st.map (z_cv al) := by
  induction st with
  | nil => intro _; rfl
  | cons v t ih =>
    intro h
    obtain ⟨h1, h2⟩ := z_lb_cons h
    rw [List.map_cons, List.map_cons, ih h2, z_cv_al ha (h1 v rfl)]
def z_up (E E' : z_E) (N : Nat) : Prop := E'.1 = E.1 ∧ (∃ L, E'.2.2 = E.2.2 ++ L ∧ L.length = N) ∧ ∀ i, i < E.2.2.length → E'.2.1 i = E.2.1 i
theorem z_up_r (E : z_E) : z_up E E 0 := ⟨rfl, ⟨[], by simp, rfl⟩, fun _ _ => rfl⟩
theorem z_up_1 {E E' : z_E} {N : Nat} (h : z_up E E' N) (q : Nat) (t : Nat × Nat) : z_up E (z_E1 E' q t) (N + 1) := by
  obtain ⟨h1, ⟨L, h2, h3⟩, h4⟩ := h
  refine ⟨h1, ⟨L ++ [t], ?_, by simp [h3]⟩, fun i hi => ?_⟩
  · show E'.2.2 ++ [t] = _; rw [h2, List.append_assoc]
  · show z_u E'.2.1 E'.2.2.length q i = _
    rw [z_un (by rw [h2, List.length_append]; omega)]; exact h4 i hi
theorem z_up_t {E E1 E2 : z_E} {N K : Nat} (h : z_up E E1 N) (h' : z_up E1 E2 K) : z_up E E2 (N + K) := by
  obtain ⟨h1, ⟨L, h2, h3⟩, h4⟩ := h
  obtain ⟨g1, ⟨L', g2, g3⟩, g4⟩ := h'
  refine ⟨g1.trans h1, ⟨L ++ L', by rw [g2, h2, List.append_assoc], by simp [h3, g3]⟩, fun i hi => ?_⟩
  rw [g4 i (by rw [h2, List.length_append]; omega)]; exact h4 i hi
theorem z_up_len {E E' : z_E} {N : Nat} (h : z_up E E' N) : E'.2.2.length = E.2.2.length + N := by
  obtain ⟨h1, ⟨L, h2, h3⟩, h4⟩ := h
  rw [h2, List.length_append, h3]
theorem z_up_get {E E' : z_E} {N i : Nat} {t : Nat × Nat} (h : z_up E E' N) (hi : E.2.2[i]? = some t) : E'.2.2[i]? = some t := by
  obtain ⟨h1, ⟨L, h2, h3⟩, h4⟩ := h
  rw [h2, List.getElem?_append_left (List.getElem?_eq_some_iff.mp hi).1]; exact hi
theorem z_E1_at {E : z_E} {q : Nat} {t : Nat × Nat} {a : Nat} (h : E.2.2.length = a) : (z_E1 E q t).2.2[a]? = some t := by
  show (E.2.2 ++ [t])[a]? = _
  rw [List.getElem?_append_right (by omega), h, Nat.sub_self]; rfl
theorem z_E1_len {E : z_E} {q : Nat} {t : Nat × Nat} : (z_E1 E q t).2.2.length = E.2.2.length + 1 := by
  show (E.2.2 ++ [t]).length = _; simp
theorem z_E1_get {E : z_E} {q i : Nat} {t t' : Nat × Nat} (hi : E.2.2[i]? = some t') : (z_E1 E q t).2.2[i]? = some t' := z_up_get (z_up_1 (z_up_r E) q t) hi
abbrev z_qk (E : z_E) (N : Nat) (P : z_E → z_Mi → z_Mr → Prop) : z_Q := fun v E' mi mr => v = none ∧ z_up E E' N ∧ P E' mi mr
def z_mk (M : z_M) (E : z_E) (as : List z_V) (mi : z_Mi) (mr : z_Mr) (N : Nat) (P : z_E → z_Mi → z_Mr → Prop) : Prop := z_ct M E as mi mr (z_qk E N P)
theorem z_rm_i {M M' : z_M} {kc ks : Nat} (h0 : z_rm M M' 0 0 = true) (h1 : kc + (z_mR M').cells ≤ (z_mR M).cells) (h2 : ks + (z_mR M').slots ≤ (z_mR M).slots) : z_rm M M' kc ks = true := by
  obtain ⟨a1, a2, a3, a4⟩ := z_rm_of h0
  simp only [z_rm, Bool.and_eq_true]
  exact ⟨Nat.ble_eq_true_of_le a1, Nat.ble_eq_true_of_le a2, Nat.ble_eq_true_of_le h1, Nat.ble_eq_true_of_le h2⟩
theorem z_rn_i {M : z_M} {kc ks N : Nat} (h1 : kc + 1 ≤ (z_mR M).cells) (h2 : ks + N ≤ (z_mR M).slots) : z_rn M kc ks N = true := by
  simp only [z_rn, Bool.and_eq_true]
  exact ⟨Nat.ble_eq_true_of_le h1, Nat.ble_eq_true_of_le h2⟩
theorem z_callK {M M' : z_M} {E : z_E} {kc ks pc n : Nat} {ls : List (Option z_V)} {st : List z_V} {mi : z_Mi} {mr : z_Mr} {Q : z_Q} {N : Nat} {P : z_E → z_Mi → z_Mr → Prop} {idx nA b : Nat} {As rest : List z_V} (hd : z_D 3 M pc n (.invokespecial idx)) (hl : z_LI (z_my M).cls idx (z_my M') (z_mc M') (z_mn M') none nA) (hret : z_mr M' = none) (hr : z_rm M M' kc ks = true) (hn : As.length = nA) (hst : st = As.reverse ++ zo b :: rest) (hcat : Nat.ble (rest.map z_cat).sum 8 = true)
    (hls : z_lb E.2.2.length ls) (hrs : z_lb E.2.2.length (rest.map some)) (hM : z_mk M' E (zo b :: As) mi mr N P)
    (k : ∀ (E' : z_E) (mi' : z_Mi) (mr' : z_Mr), z_up E E' N → P E' mi' mr' → z_A M E' (kc + (z_mR M').cells) (ks + (z_mR M').slots) n ls rest mi' mr' Q) : z_A M E kc ks pc ls st mi mr Q := by
  refine z_callI hd hl hret hr hn hst hcat hM ?_
  intro v E' mi' mr' b0 p l e s m args below meth c H locs lsA Qm hQ hC hG hP hD hS hL hK
  obtain ⟨rfl, hup, hQ⟩ := hQ
  have k1 := k E' mi' mr' hup hQ b0 p l e s m args below meth c H locs lsA Qm (by rw [hG]; exact hC) hP hD hS (by rw [z_L_al hup.2.2 ls 0 hls]; exact hL) (by rw [hG]; exact hK)
  rw [z_st_al hup.2.2 rest hrs] at k1
  exact k1
theorem z_ofk {M : z_M} {E : z_E} {as : List z_V} {ls : List (Option z_V)} {mi : z_Mi} {mr : z_Mr} {N : Nat} {P : z_E → z_Mi → z_Mr → Prop} (hy : plainName (z_my M).cls = true) (hE : ∀ s b0, z_mE M s b0) (hn : (as.map z_cat).sum ≤ z_mn M) (hls : z_en as ++ List.replicate (z_mn M - (as.map z_cat).sum) none = ls) (h : z_A M E 0 0 0 ls [] mi mr (z_qk E N P)) : z_mk M E as mi mr N P := z_ct_of hy hE hn hls h
