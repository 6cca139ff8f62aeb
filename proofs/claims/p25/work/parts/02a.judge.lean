/-! A LIGHTER LOGIC OVER THE KIT'S: numbers are integers, cells are numbered in the order in which they were made; the machine is hidden in z_A -/
abbrev z_V : Type := Int ⊕ Int64 ⊕ Option Nat
abbrev zi (x : Int) : z_V := Sum.inl x
abbrev zl (x : Int64) : z_V := Sum.inr (Sum.inl x)
abbrev zr (r : Option Nat) : z_V := Sum.inr (Sum.inr r)
abbrev zo (a : Nat) : z_V := Sum.inr (Sum.inr (some a))
abbrev z_Mi : Type := Nat → Int → Int
abbrev z_Mr : Type := Nat → Int → Option Nat
abbrev z_R (x : Int) : Prop := -2147483648 ≤ x ∧ x ≤ 2147483647
def z_I (x : Int) : Int32 := Int32.ofInt x
def z_cv (al : Nat → Nat) (v : z_V) : Value := match v with
  | .inl x => .int (z_I x)
  | .inr (.inl y) => .long y
  | .inr (.inr r) => va_rf (r.map al)
def z_cat (v : z_V) : Nat := match v with
  | .inr (.inl _) => 2
  | _ => 1
theorem z_cat_eq (al : Nat → Nat) (v : z_V) : (z_cv al v).category = z_cat v := by
  rcases v with x | y | r
  · rfl
  · rfl
  · cases r <;> rfl
theorem z_cats (al : Nat → Nat) (vs : List z_V) : ((vs.map (z_cv al)).map fun v => v.category).sum = (vs.map z_cat).sum := by
  rw [List.map_map]
  congr 1
  apply List.map_congr_left
  intro v _
  exact z_cat_eq al v
/-! numbers -/
theorem z_I_add (a b : Int) : z_I a + z_I b = z_I (a + b) := by simp [z_I, Int32.ofInt_add]
theorem z_I_sub (a b : Int) : z_I a - z_I b = z_I (a - b) := by simp [z_I, Int32.ofInt_sub]
theorem z_I_mul (a b : Int) : z_I a * z_I b = z_I (a * b) := by simp [z_I, Int32.ofInt_mul]
theorem z_I_neg (a : Int) : - z_I a = z_I (-a) := by simp [z_I, Int32.ofInt_neg]
theorem z_I_toInt {x : Int} (h : z_R x) : (z_I x).toInt = x := by
  unfold z_I
  rw [Int32.toInt_ofInt]
  apply Int.bmod_eq_of_le
  · have := h.1; show -(2147483648 : Int) ≤ x; exact this
  · have := h.2; show x < (2147483648 : Int); omega
theorem z_I_of (x : Int32) : z_I x.toInt = x := by simp [z_I]
theorem z_I_R (x : Int32) : z_R x.toInt := by
  have h1 := Int32.le_toInt x
  have h2 := Int32.toInt_lt x
  constructor <;> omega
theorem z_I_eq {a b : Int} (ha : z_R a) (hb : z_R b) : z_I a = z_I b ↔ a = b := by
  constructor
  · intro h
    have := congrArg Int32.toInt h
    rwa [z_I_toInt ha, z_I_toInt hb] at this
  · intro h; rw [h]
theorem z_I_lt {a b : Int} (ha : z_R a) (hb : z_R b) : z_I a < z_I b ↔ a < b := by
  rw [Int32.lt_iff_toInt_lt, z_I_toInt ha, z_I_toInt hb]
theorem z_I_le {a b : Int} (ha : z_R a) (hb : z_R b) : z_I a ≤ z_I b ↔ a ≤ b := by
  rw [Int32.le_iff_toInt_le, z_I_toInt ha, z_I_toInt hb]
theorem z_I_0 : z_I 0 = 0 := by decide +kernel
theorem z_R0 : z_R 0 := by decide
theorem z_I_nat (n : Nat) : z_I (n : Int) = nI n := by
  simp [z_I, nI, Int32.ofInt, Int32.ofNat]
theorem z_I_clamp {x : Int} (h0 : 0 ≤ x) (h1 : x ≤ 2147483647) : (z_I x).toNatClampNeg = x.toNat := by
  show (z_I x).toInt.toNat = x.toNat
  rw [z_I_toInt ⟨by omega, h1⟩]
theorem z_I_in {x : Int} {n : Nat} (h0 : 0 ≤ x) (h1 : x < n) (hn : n ≤ 2147483648) : vp_in (z_I x) n := by
  rw [vp_in_iff, z_I_toInt ⟨by omega, by omega⟩]
  exact ⟨h0, h1⟩
theorem z_I_div {a b : Int} (ha : 0 ≤ a) (hb : 0 < b) (h1 : z_R a) (h2 : z_R b) : z_I a / z_I b = z_I (a / b) := by
  have e1 : a = (a.toNat : Int) := by omega
  have e2 : b = (b.toNat : Int) := by omega
  rw [e1, e2, z_I_nat, z_I_nat, pk_div (by have := h1.2; omega) (by omega) (by have := h2.2; omega), ← z_I_nat]
  rfl
theorem z_I_rem {a b : Int} (ha : 0 ≤ a) (hb : 0 < b) (h1 : z_R a) (h2 : z_R b) : z_I a - z_I a / z_I b * z_I b = z_I (a % b) := by
  rw [z_I_div ha hb h1 h2, z_I_mul, z_I_sub]
  congr 1
  have := Int.emod_add_mul_ediv a b
  have h3 : a / b * b = b * (a / b) := Int.mul_comm _ _
  omega
/-! updates -/
def z_u {α : Type} (m : Nat → α) (a : Nat) (f : α) : Nat → α := fun b => if b = a then f else m b
def z_v {α : Type} (f : Int → α) (i : Int) (v : α) : Int → α := fun j => if j = i then v else f j
theorem z_us {α : Type} (m : Nat → α) (a : Nat) (f : α) : z_u m a f a = f := if_pos rfl
theorem z_un {α : Type} {m : Nat → α} {a b : Nat} {f : α} (h : b ≠ a) : z_u m a f b = m b := if_neg h
theorem z_uu {α : Type} (m : Nat → α) (a : Nat) (f g : α) : z_u (z_u m a f) a g = z_u m a g := by
  funext b; unfold z_u; split <;> rfl
theorem z_uself {α : Type} (m : Nat → α) (a : Nat) : z_u m a (m a) = m := by
  funext b; unfold z_u; split
  · next h => rw [h]
  · rfl
theorem z_uc {α : Type} (m : Nat → α) {a b : Nat} (f g : α) (h : a ≠ b) : z_u (z_u m a f) b g = z_u (z_u m b g) a f := by
  funext c; unfold z_u
  by_cases h1 : c = a
  · by_cases h2 : c = b
    · exact absurd (h1.symm.trans h2) h
    · simp [h1, h]
  · simp [h1]
theorem z_vs {α : Type} (f : Int → α) (i : Int) (v : α) : z_v f i v i = v := if_pos rfl
theorem z_vn {α : Type} {f : Int → α} {i j : Int} {v : α} (h : j ≠ i) : z_v f i v j = f j := if_neg h
/-! what stands around: classes, addresses, the kinds of the cells -/
abbrev z_G : Type := va_G × (ClassId × ClassId × ClassId × ClassId × ClassId)
abbrev z_E : Type := z_G × (Nat → Nat) × List (Nat × Nat)
abbrev z_Q : Type := Option z_V → z_E → z_Mi → z_Mr → Prop
def z_tys (G : z_G) : List (ClassId × FieldType) := [(G.2.1, .int), (G.2.2.1, .int), (G.2.2.2.1, .object RX2), (G.2.2.2.2.1, .object RX0), (G.2.2.2.2.2, .object RX3)]
def z_ty (n : Nat) : Nat → FieldType := match n with
  | 0 => tyX0
  | 1 => tyX1
  | 2 => tyX2
  | 3 => tyX3
  | 4 => tyX4
  | _ => tyX5
def z_NF (n : Nat) : Nat := match n with
  | 0 => 3
  | 1 => 13
  | 2 => 3
  | 3 => 9
  | 4 => 5
  | _ => 13
def z_ref (ty : FieldType) : Bool := match ty with
  | .object _ => true
  | .array _ => true
  | _ => false
def z_fv (ty : FieldType) (x : Int) (r : Option Nat) : Value := if z_ref ty then va_rf r else .int (z_I x)
def z_fs (n : Nat) (f : Int → Int) (g : Int → Option Nat) : List Value := (List.range (z_NF n)).map fun k => z_fv (z_ty n k) (f (k : Nat)) (g (k : Nat))
def z_ce (G : z_G) (t : Nat × Nat) (f : Int → Int) (g : Int → Option Nat) : va_E :=
  if t.1 < 10 then .inr (t.1, z_fs t.1 f g)
  else if t.1 = 10 then .inl (G.2.1, t.2, .inl fun j => z_I (f (j : Nat)))
  else if t.1 = 11 then .inl (G.2.2.1, t.2, .inl fun j => z_I (f (j : Nat)))
  else if t.1 = 12 then .inl (G.2.2.2.1, t.2, .inr (.inr (.inr (.inr fun j => g (j : Nat)))))
  else if t.1 = 13 then .inl (G.2.2.2.2.1, t.2, .inr (.inr (.inr (.inr fun j => g (j : Nat)))))
  else .inl (G.2.2.2.2.2, t.2, .inr (.inr (.inr (.inr fun j => g (j : Nat)))))
def z_mp (al : Nat → Nat) (g : Int → Option Nat) : Int → Option Nat := fun k => (g k).map al
def z_W (E : z_E) (mi : z_Mi) (mr : z_Mr) : va_W := E.2.2.zipIdx.map fun p => (E.2.1 p.2, z_ce E.1 p.1 (mi p.2) (z_mp E.2.1 (mr p.2)))
theorem z_W_get {E : z_E} {mi : z_Mi} {mr : z_Mr} {i : Nat} {t : Nat × Nat} (h : E.2.2[i]? = some t) : (z_W E mi mr)[i]? = some (E.2.1 i, z_ce E.1 t (mi i) (z_mp E.2.1 (mr i))) := by
  simp [z_W, List.getElem?_map, List.getElem?_zipIdx, h]
theorem z_W_none {E : z_E} {mi : z_Mi} {mr : z_Mr} {i : Nat} (h : E.2.2[i]? = none) : (z_W E mi mr)[i]? = none := by
  simp only [z_W, List.getElem?_map, List.getElem?_zipIdx, h, Option.map_none]
theorem z_W_set {E : z_E} {mi : z_Mi} {mr : z_Mr} {a : Nat} {t : Nat × Nat} (f : Int → Int) (g : Int → Option Nat) (h : E.2.2[a]? = some t) :
    (z_W E mi mr).set a (E.2.1 a, z_ce E.1 t f (z_mp E.2.1 g)) = z_W E (z_u mi a f) (z_u mr a g) := by
  apply List.ext_getElem?
  intro i
  by_cases hi : i = a
  · subst hi
    have hl : i < (z_W E mi mr).length := (List.getElem?_eq_some_iff.mp (z_W_get (mi := mi) (mr := mr) h)).1
    rw [List.getElem?_set_self hl, z_W_get h, z_us, z_us]
  · rw [List.getElem?_set_ne (Ne.symm hi)]
    cases ht : E.2.2[i]? with
    | none => rw [z_W_none ht, z_W_none ht]
    | some t' => rw [z_W_get ht, z_W_get ht, z_un hi, z_un hi]
def z_P (E : z_E) (mi : z_Mi) (mr : z_Mr) (H : Heap) : Prop := va_P E.1.1 vwCl (z_W E mi mr) H ∧ ∀ (i : Nat) (k : Int) (j : Nat), i < E.2.2.length → mr i k = some j → j < E.2.2.length
abbrev z_af (b0 : Nat) : Nat → Prop := fun q => b0 ≤ q
/-! locals -/
def z_L (al : Nat → Nat) : Nat → List (Option z_V) → List (Nat × Value)
  | _, [] => []
  | i, none :: t => z_L al (i + 1) t
  | i, some v :: t => (i, z_cv al v) :: z_L al (i + 1) t
theorem z_L_mem (al : Nat → Nat) (ls : List (Option z_V)) : ∀ (i : Nat) (q : Nat × Value), q ∈ z_L al i ls ↔ ∃ (j : Nat) (v : z_V), ls[j]? = some (some v) ∧ q = (i + j, z_cv al v) := by
  induction ls with
  | nil => intro i q; simp [z_L]
  | cons a t ih =>
    intro i q
    have hs : (∃ (j : Nat) (v : z_V), (a :: t)[j]? = some (some v) ∧ q = (i + j, z_cv al v)) ↔ (∃ v, a = some v ∧ q = (i, z_cv al v)) ∨ ∃ (j : Nat) (v : z_V), t[j]? = some (some v) ∧ q = (i + 1 + j, z_cv al v) := by
      constructor
      · rintro ⟨j, v, h1, h2⟩
        cases j with
        | zero => exact Or.inl ⟨v, by simpa using h1, by simpa using h2⟩
        | succ j => exact Or.inr ⟨j, v, by simpa using h1, by rw [h2]; congr 1; omega⟩
      · rintro (⟨v, h1, h2⟩ | ⟨j, v, h1, h2⟩)
        · exact ⟨0, v, by simp [h1], by simpa using h2⟩
        · exact ⟨j + 1, v, by simpa using h1, by rw [h2]; congr 1; omega⟩
    rw [hs]
    cases a with
    | none =>
      show q ∈ z_L al (i + 1) t ↔ _
      rw [ih]
      simp
    | some v =>
      show q ∈ (i, z_cv al v) :: z_L al (i + 1) t ↔ _
      rw [List.mem_cons, ih]
      simp
theorem z_L_at {lsA : Array Slot} {nL : Nat} {al : Nat → Nat} {ls : List (Option z_V)} {i : Nat} {v : z_V} (h : lv_has lsA nL (z_L al 0 ls)) (hi : ls[i]? = some (some v)) : lsA[i]? = some (.val (z_cv al v)) :=
  h.2.2 (i, z_cv al v) ((z_L_mem al ls 0 _).mpr ⟨i, v, hi, by simp⟩)
theorem z_L_sub {lsA : Array Slot} {nL : Nat} {l l' : List (Nat × Value)} (h : lv_has lsA nL l) (hs : ∀ q ∈ l', q ∈ l) : lv_has lsA nL l' := ⟨h.1, h.2.1, fun q hq => h.2.2 q (hs q hq)⟩
/-- no long begins in the slot ahead -/
def z_ok (ls : List (Option z_V)) (i : Nat) : Bool := match i with
  | 0 => true
  | j + 1 => match ls[j]? with
    | some (some (.inr (.inl _))) => false
    | _ => true
theorem z_L_st1 {al : Nat → Nat} {ls : List (Option z_V)} {i : Nat} {v : z_V} (ho : z_ok ls i = true) :
    ∀ q ∈ z_L al 0 (ls.set i (some v)), q ∈ (i, z_cv al v) :: (z_L al 0 ls).filter (fun q => !(q.1 == i) && !(q.1 + 1 == i && q.2.category == 2)) := by
  intro q hq
  obtain ⟨j, w, h1, h2⟩ := (z_L_mem al _ 0 q).mp hq
  by_cases hj : j = i
  · subst hj
    have hl : j < ls.length := by
      have := (List.getElem?_eq_some_iff.mp h1).1
      simpa using this
    rw [List.getElem?_set_self hl] at h1
    cases h1
    rw [h2]; simp
  · rw [List.getElem?_set_ne (Ne.symm hj)] at h1
    refine List.mem_cons_of_mem _ (List.mem_filter.mpr ⟨(z_L_mem al ls 0 q).mpr ⟨j, w, h1, h2⟩, ?_⟩)
    rw [h2]
    simp only [Nat.zero_add, z_cat_eq]
    have hn : ¬ (j + 1 = i ∧ z_cat w = 2) := by
      rintro ⟨e1, e2⟩
      subst e1
      unfold z_ok at ho
      simp only [h1] at ho
      rcases w with x | y | r
      · exact absurd (show (1 : Nat) = 2 from e2) (by decide)
      · exact absurd (show (false : Bool) = true from ho) (by decide)
      · exact absurd (show (1 : Nat) = 2 from e2) (by decide)
    have : (j == i) = false := by simpa using hj
    rw [this]
    by_cases h3 : j + 1 = i
    · have h4 : ¬ z_cat w = 2 := fun h => hn ⟨h3, h⟩
      simp [h4]
    · simp [h3]
theorem z_L_st2 {al : Nat → Nat} {ls : List (Option z_V)} {i : Nat} {v : z_V} (ho : z_ok ls i = true) :
    ∀ q ∈ z_L al 0 ((ls.set i (some v)).set (i + 1) none), q ∈ (i, z_cv al v) :: (z_L al 0 ls).filter (fun q => !(q.1 == i) && (!(q.1 == i + 1) && !(q.1 + 1 == i && q.2.category == 2))) := by
  intro q hq
  obtain ⟨j, w, h1, h2⟩ := (z_L_mem al _ 0 q).mp hq
  by_cases hj1 : j = i + 1
  · subst hj1
    have hl : i + 1 < (ls.set i (some v)).length := by
      have := (List.getElem?_eq_some_iff.mp h1).1
      simpa using this
    rw [List.getElem?_set_self hl] at h1
    cases h1
  · rw [List.getElem?_set_ne (Ne.symm hj1)] at h1
    have hq1 := z_L_st1 (al := al) (v := v) ho q ((z_L_mem al _ 0 q).mpr ⟨j, w, h1, h2⟩)
    rcases List.mem_cons.mp hq1 with h | h
    · exact List.mem_cons.mpr (Or.inl h)
    · obtain ⟨h3, h4⟩ := List.mem_filter.mp h
      refine List.mem_cons_of_mem _ (List.mem_filter.mpr ⟨h3, ?_⟩)
      rw [h2] at h4 ⊢
      simp only [Nat.zero_add] at h4 ⊢
      have : (j == i + 1) = false := by simpa using hj1
      rw [this]
      simpa using h4
/-- how arguments lie in the locals -/
def z_en : List z_V → List (Option z_V)
  | [] => []
  | .inr (.inl y) :: t => some (zl y) :: none :: z_en t
  | v :: t => some v :: z_en t
theorem z_L_en (al : Nat → Nat) (n : Nat) (vs : List z_V) : ∀ i, z_L al i (z_en vs ++ List.replicate n none) = lv_args i (vs.map (z_cv al)) := by
  induction vs with
  | nil =>
    intro i
    simp only [z_en, List.nil_append, List.map_nil, lv_args]
    induction n generalizing i with
    | zero => rfl
    | succ n ih => rw [List.replicate_succ]; exact ih (i + 1)
  | cons v t ih =>
    intro i
    rcases v with x | y | r
    · show (i, z_cv al (zi x)) :: z_L al (i + 1) (z_en t ++ _) = _
      rw [ih]; rfl
    · show (i, z_cv al (zl y)) :: z_L al (i + 1 + 1) (z_en t ++ _) = _
      rw [ih]; rfl
    · show (i, z_cv al (zr r)) :: z_L al (i + 1) (z_en t ++ _) = _
      rw [ih]
      cases r <;> rfl
theorem z_sl_len (al : Nat → Nat) (vs : List z_V) : (lg_sl (vs.map (z_cv al))).length = (vs.map z_cat).sum := by
  induction vs with
  | nil => rfl
  | cons v t ih =>
    have e : (lg_sl ((v :: t).map (z_cv al))).length = (if (z_cv al v).category = 2 then [Slot.val (z_cv al v), .second] else [.val (z_cv al v)]).length + (lg_sl (t.map (z_cv al))).length := by
      simp [lg_sl]
    rw [e, ih, z_cat_eq, List.map_cons, List.sum_cons]
    rcases v with x | y | r
    · rfl
    · rfl
    · rfl
/-! THE JUDGEMENT -/
def z_ri (v : Option z_V) : Instr := match v with
  | none => .return_
  | some (.inl _) => .ireturn
  | some (.inr (.inl _)) => .lreturn
  | some (.inr (.inr _)) => .areturn
def z_rc (ret : Option FieldType) (v : Option z_V) : Prop := match v with
  | none => ret = none
  | some (.inl x) => ret = some .int ∨ (ret = some .boolean ∧ (x = 0 ∨ x = 1))
  | some (.inr (.inl _)) => ret = some .long
  | some (.inr (.inr _)) => ∃ n, ret = some (.object n)
def z_C (M : z_M) (b0 : Nat) (G : z_G) (p : Program) (s : State) (m : MethodId) (args : Array Value) (meth : Method) (c : Code) : Prop :=
  p.tables.exec = Jvm.exec ∧ c.code = z_mc M ∧ c.maxLocals = z_mn M ∧ s.vm.findClass (z_my M).cls = some m.cls ∧ (∀ w ∈ z_WG, w.before args s = true) ∧ (∀ w ∈ z_WN, va_Nw w s) ∧ va_K G.1 vwCl (z_tys G) s ∧ b0 ≤ s.heap.size ∧ meth.name = (z_my M).name ∧ z_mE M s b0
def z_K (M : z_M) (b0 : Nat) (G : z_G) (p : Program) (l : Launch) (e : Env) (s : State) (m : MethodId) (args : Array Value) (below : List Frame) (meth : Method) (c : Code) (Q : z_Q) (Qm : State → Prop) : Prop :=
  ∀ (v : Option z_V) (E : z_E) (mi : z_Mi) (mr : z_Mr) (H : Heap) (locs : List Loc) (kc ks pc : Nat) (lsA : Array Slot), Q v E mi mr → E.1 = G → z_P E mi mr H → va_D (z_af b0) (z_W E mi mr) → va_S (z_af b0) s.heap H locs → z_rc (z_mr M) v → decode (z_mc M) pc = .ok (z_ri v, 1) → kc ≤ (z_mR M).cells → ks ≤ (z_mR M).slots →
    W p l e (z_mR M) s m args below meth c H locs kc ks Qm (F0 m pc lsA (v.toList.map (z_cv E.2.1)))
def z_A (M : z_M) (E : z_E) (kc ks pc : Nat) (ls : List (Option z_V)) (st : List z_V) (mi : z_Mi) (mr : z_Mr) (Q : z_Q) : Prop :=
  ∀ (b0 : Nat) (p : Program) (l : Launch) (e : Env) (s : State) (m : MethodId) (args : Array Value) (below : List Frame) (meth : Method) (c : Code) (H : Heap) (locs : List Loc) (lsA : Array Slot) (Qm : State → Prop),
    z_C M b0 E.1 p s m args meth c → z_P E mi mr H → va_D (z_af b0) (z_W E mi mr) → va_S (z_af b0) s.heap H locs → lv_has lsA (z_mn M) (z_L E.2.1 0 ls) → z_K M b0 E.1 p l e s m args below meth c Q Qm →
    W p l e (z_mR M) s m args below meth c H locs kc ks Qm (F0 m pc lsA (st.map (z_cv E.2.1)))
/-! contracts -/
def z_ws (M : z_M) : List Cond := Cond.code (z_my M) (z_mc M) (z_mn M) (z_mr M) :: z_WG
def z_pc (b0 : Nat) (E : z_E) (mi : z_Mi) (mr : z_Mr) (U : State) : Prop := b0 ≤ U.heap.size ∧ z_P E mi mr U.heap ∧ va_K E.1.1 vwCl (z_tys E.1) U ∧ (∀ w ∈ z_WN, va_Nw w U) ∧ va_D (z_af b0) (z_W E mi mr)
def z_qc (b0 : Nat) (G : z_G) (Q : z_Q) : Array Value → State → Outcome → State → Prop := fun _ st oc t =>
  (∃ (v : Option z_V) (E : z_E) (mi : z_Mi) (mr : z_Mr), E.1 = G ∧ oc = .returned (v.map (z_cv E.2.1)) ∧ Q v E mi mr ∧ z_P E mi mr t.heap ∧ va_D (z_af b0) (z_W E mi mr)) ∧ va_F (z_af b0) st t
def z_ct (M : z_M) (E : z_E) (as : List z_V) (mi : z_Mi) (mr : z_Mr) (Q : z_Q) : Prop :=
  ∀ (l : Launch) (b0 : Nat), Met l (z_my M) (z_ws M) (z_mR M) (va_Pc (as.map (z_cv E.2.1)) (z_pc b0 E mi mr)) (z_qc b0 E.1 Q) (z_mR M).cells (z_mR M).slots (z_af b0)
theorem z_Nw_same {w : Cond} (hw : w ∈ z_WN) {u U : State} (h : u.vm = U.vm) (hZ : va_Nw w u) : va_Nw w U := by
  have hn : z_nest w = true := (List.mem_filter.mp hw).2
  cases w <;> first | (simp [z_nest] at hn; done) | skip
  · exact va_Nw.same rfl h hZ
  · exact va_Nw.same rfl h hZ
  · rename_i ty
    cases ty <;> first | (simp [z_nest] at hn; done) | skip
    exact va_AO.moved (by rw [h]; exact Vm.Alike.refl _) hZ
theorem z_Nw_warm {w : Cond} (hw : w ∈ z_WN) {s U : State} (h : s.WarmedH U.vm) (hZ : va_Nw w s) : va_Nw w U := by
  have hn : z_nest w = true := (List.mem_filter.mp hw).2
  cases w <;> first | (simp [z_nest] at hn; done) | skip
  · exact va_Nw.warmM h hZ
  · exact va_Nw.warmF h hZ
  · rename_i ty
    cases ty <;> first | (simp [z_nest] at hn; done) | skip
    exact va_AO.moved h.alike hZ
