section ZDEEP
variable {M : z_M} {E : z_E} {kc ks pc n : Nat} {ls : List (Option z_V)} {st : List z_V} {mi mi' : z_Mi} {mr : z_Mr} {Q : z_Q}
theorem z_putiX {idx ci fk a N : Nat} {C : String} {T : u_T} {fi x : Int} {f : Int → Int} (hd : z_D 3 M pc n (.putfield idx)) (hf : z_F (z_my M).cls idx ci fk C T N) (ht : E.2.2[a]? = some (ci, 0)) (hk : ((fk : Nat) : Int) = fi) (hfin : (T fk).2.2.2 = false) (hz : z_ty ci fk = .int ∨ (z_ty ci fk = .boolean ∧ (x = 0 ∨ x = 1))) (hm : mi a = f) (hn : z_u mi a (z_v f fi x) = mi') (k : z_A M E kc ks n ls st mi' mr Q) : z_A M E kc ks pc ls (zi x :: zo a :: st) mi mr Q :=
  z_puti hd hf ht hk hfin hz (by rw [hm, hn]; exact k)
theorem z_iastX {a len : Nat} {i x : Int} {f : Int → Int} (hd : z_D 1 M pc n .iastore) (ht : E.2.2[a]? = some (10, len)) (hn0 : len ≤ 2147483648) (h0 : 0 ≤ i) (h1 : i < (len : Int)) (hm : mi a = f) (hn : z_u mi a (z_v f i x) = mi') (k : z_A M E kc ks n ls st mi' mr Q) : z_A M E kc ks pc ls (zi x :: zi i :: zo a :: st) mi mr Q :=
  z_iast hd ht hn0 h0 h1 (by rw [hm, hn]; exact k)
theorem z_ux {α : Type} {m m' : Nat → α} {a b : Nat} {g f : α} (h : b ≠ a) (e : z_u m a f = m') : z_u (z_u m b g) a f = z_u m' b g := by
  rw [z_uc m g f h, e]
end ZDEEP
section ZBOOL
variable {M : z_M} {E : z_E} {kc ks pc n tgt : Nat} {off : Int} {ls : List (Option z_V)} {st : List z_V} {mi : z_Mi} {mr : z_Mr} {Q : z_Q}
theorem z_if_eqB {p : Prop} [Decidable p] (hd : z_J M pc n tgt off (.ifCond .eq off)) (kt : ¬ p → z_A M E kc ks tgt ls st mi mr Q) (kf : p → z_A M E kc ks n ls st mi mr Q) : z_A M E kc ks pc ls (zi (if p then 1 else 0) :: st) mi mr Q := by
  by_cases h : p
  · rw [if_pos h]
    exact z_if_eq hd ⟨by decide, by decide⟩ (fun q => absurd q (by decide)) (fun _ => kf h)
  · rw [if_neg h]
    exact z_if_eq hd ⟨by decide, by decide⟩ (fun _ => kt h) (fun q => absurd rfl q)
theorem z_if_neB {p : Prop} [Decidable p] (hd : z_J M pc n tgt off (.ifCond .ne off)) (kt : p → z_A M E kc ks tgt ls st mi mr Q) (kf : ¬ p → z_A M E kc ks n ls st mi mr Q) : z_A M E kc ks pc ls (zi (if p then 1 else 0) :: st) mi mr Q := by
  by_cases h : p
  · rw [if_pos h]
    exact z_if_ne hd ⟨by decide, by decide⟩ (fun _ => kt h) (fun q => absurd q (by decide))
  · rw [if_neg h]
    exact z_if_ne hd ⟨by decide, by decide⟩ (fun q => absurd rfl q) (fun _ => kf h)
end ZBOOL
/-! fewer locals -/
def z_sub : List (Option z_V) → List (Option z_V) → Prop
  | [], _ => True
  | none :: t', _ :: t => z_sub t' t
  | some v :: t', some w :: t => v = w ∧ z_sub t' t
  | _, _ => False
theorem z_sub_at : ∀ (ls' ls : List (Option z_V)), z_sub ls' ls → ∀ (i : Nat) (v : z_V), ls'[i]? = some (some v) → ls[i]? = some (some v)
  | [], _, _, i, v, h => by simp at h
  | none :: t', [], h, i, v, hi => by simp [z_sub] at h
  | none :: t', _ :: t, h, i, v, hi => by
    cases i with
    | zero => simp at hi
    | succ i => simpa using z_sub_at t' t h i v (by simpa using hi)
  | some w :: t', [], h, i, v, hi => by simp [z_sub] at h
  | some w :: t', none :: t, h, i, v, hi => by simp [z_sub] at h
  | some w :: t', some u :: t, h, i, v, hi => by
    obtain ⟨h1, h2⟩ := h
    subst h1
    cases i with
    | zero => simpa using hi
    | succ i => simpa using z_sub_at t' t h2 i v (by simpa using hi)
theorem z_fgt {M : z_M} {E : z_E} {kc ks pc : Nat} {ls ls' : List (Option z_V)} {st : List z_V} {mi : z_Mi} {mr : z_Mr} {Q : z_Q} (h : z_sub ls' ls) (k : z_A M E kc ks pc ls' st mi mr Q) : z_A M E kc ks pc ls st mi mr Q := by
  intro b0 p l e s m args below meth c H locs lsA Qm hC hP hD hS hL hK
  refine k b0 p l e s m args below meth c H locs lsA Qm hC hP hD hS (z_L_sub hL (fun q hq => ?_)) hK
  obtain ⟨j, v, h1, h2⟩ := (z_L_mem E.2.1 ls' 0 q).mp hq
  exact (z_L_mem E.2.1 ls 0 q).mpr ⟨j, v, z_sub_at ls' ls h j v h1, h2⟩
