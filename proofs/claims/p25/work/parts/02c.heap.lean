/-! cells: reads, writes, calls, what is made -/
theorem z_ce_obj {G : z_G} {t : Nat × Nat} {f : Int → Int} {g : Int → Option Nat} (h : t.1 < 10) : z_ce G t f g = .inr (t.1, z_fs t.1 f g) := if_pos h
theorem z_ce_i {G : z_G} {n : Nat} {f : Int → Int} {g : Int → Option Nat} : z_ce G (10, n) f g = .inl (G.2.1, n, .inl fun j => z_I (f (j : Nat))) := by simp [z_ce]
theorem z_ce_z {G : z_G} {n : Nat} {f : Int → Int} {g : Int → Option Nat} : z_ce G (11, n) f g = .inl (G.2.2.1, n, .inl fun j => z_I (f (j : Nat))) := by simp [z_ce]
theorem z_ce_12 {G : z_G} {n : Nat} {f : Int → Int} {g : Int → Option Nat} : z_ce G (12, n) f g = .inl (G.2.2.2.1, n, .inr (.inr (.inr (.inr fun j => g (j : Nat))))) := by simp [z_ce]
theorem z_ce_13 {G : z_G} {n : Nat} {f : Int → Int} {g : Int → Option Nat} : z_ce G (13, n) f g = .inl (G.2.2.2.2.1, n, .inr (.inr (.inr (.inr fun j => g (j : Nat))))) := by simp [z_ce]
theorem z_ce_14 {G : z_G} {n : Nat} {f : Int → Int} {g : Int → Option Nat} : z_ce G (14, n) f g = .inl (G.2.2.2.2.2, n, .inr (.inr (.inr (.inr fun j => g (j : Nat))))) := by simp [z_ce]
theorem z_fs_get {n k : Nat} {f : Int → Int} {g : Int → Option Nat} (h : k < z_NF n) : (z_fs n f g)[k]? = some (z_fv (z_ty n k) (f (k : Nat)) (g (k : Nat))) := by
  simp [z_fs, List.getElem?_map, List.getElem?_range h]
theorem z_fs_len {n : Nat} {f : Int → Int} {g : Int → Option Nat} : (z_fs n f g).length = z_NF n := by simp [z_fs]
theorem z_fs_set {n k : Nat} {f : Int → Int} {g : Int → Option Nat} (x : Int) (r : Option Nat) (h : k < z_NF n) : (z_fs n f g).set k (z_fv (z_ty n k) x r) = z_fs n (z_v f (k : Nat) x) (z_v g (k : Nat) r) := by
  apply List.ext_getElem?
  intro i
  by_cases hi : i = k
  · subst hi
    rw [List.getElem?_set_self (by rw [z_fs_len]; exact h), z_fs_get h, z_vs, z_vs]
  · rw [List.getElem?_set_ne (Ne.symm hi)]
    by_cases hl : i < z_NF n
    · rw [z_fs_get hl, z_fs_get hl, z_vn (by omega), z_vn (by omega)]
    · rw [List.getElem?_eq_none (by rw [z_fs_len]; omega), List.getElem?_eq_none (by rw [z_fs_len]; omega)]
theorem z_vself {α : Type} (f : Int → α) (i : Int) : z_v f i (f i) = f := by
  funext j; unfold z_v; split
  · next h => rw [h]
  · rfl
theorem z_mpv (al : Nat → Nat) (g : Int → Option Nat) (i : Int) (r : Option Nat) : z_v (z_mp al g) i (r.map al) = z_mp al (z_v g i r) := by
  funext j; by_cases h : j = i <;> simp [z_v, z_mp, h]
theorem z_arrI (f : Int → Int) {i x : Int} (h0 : 0 ≤ i) : upd (fun j : Nat => z_I (f (j : Nat))) i.toNat (z_I x) = fun j : Nat => z_I (z_v f i x (j : Nat)) := by
  funext j
  unfold upd z_v
  by_cases h : j = i.toNat
  · rw [if_pos h, if_pos (by omega)]
  · rw [if_neg h, if_neg (by omega)]
theorem z_arrQ (al : Nat → Nat) (g : Int → Option Nat) {i : Int} {b : Nat} (h0 : 0 ≤ i) : va_up (fun j : Nat => z_mp al g (j : Nat)) i.toNat (some (al b)) = fun j : Nat => z_mp al (z_v g i (some b)) (j : Nat) := by
  funext j
  unfold va_up z_mp z_v
  by_cases h : j = i.toNat
  · rw [if_pos h, if_pos (by omega)]; rfl
  · rw [if_neg h, if_neg (by omega)]
theorem z_P.putr {E : z_E} {mi mi' : z_Mi} {mr : z_Mr} {H H1 : Heap} {a : Nat} {i : Int} {r : Option Nat} (hP : z_P E mi mr H) (h : va_P E.1.1 vwCl (z_W E mi' (z_u mr a (z_v (mr a) i r))) H1) (hr : ∀ b, r = some b → b < E.2.2.length) : z_P E mi' (z_u mr a (z_v (mr a) i r)) H1 := by
  refine ⟨h, fun j k b hj hb => ?_⟩
  by_cases h1 : j = a
  · subst h1
    rw [z_us] at hb
    unfold z_v at hb
    split at hb
    · exact hr b hb
    · exact hP.2 j k b hj hb
  · rw [z_un h1] at hb
    exact hP.2 j k b hj hb
theorem z_lt {E : z_E} {a : Nat} {t : Nat × Nat} (h : E.2.2[a]? = some t) : a < E.2.2.length := (List.getElem?_eq_some_iff.mp h).1
section ZHEAP
variable {M : z_M} {E : z_E} {kc ks pc n : Nat} {ls : List (Option z_V)} {st : List z_V} {mi : z_Mi} {mr : z_Mr} {Q : z_Q}
theorem z_geti {idx ci fk a N : Nat} {C : String} {T : u_T} {fi x : Int} (hd : z_D 3 M pc n (.getfield idx)) (hf : z_F (z_my M).cls idx ci fk C T N) (ht : E.2.2[a]? = some (ci, 0)) (hr : z_ref (z_ty ci fk) = false) (hk : ((fk : Nat) : Int) = fi) (hx : mi a fi = x) (k : z_A M E kc ks n ls (zi x :: st) mi mr Q) : z_A M E kc ks pc ls (zo a :: st) mi mr Q := by
  intro b0 p l e s m args below meth c H locs lsA Qm hC hP hD hS hL hK
  obtain ⟨hd, rfl⟩ := hd
  subst hk; subst hx
  obtain ⟨hc, hkN, hl⟩ := hf
  obtain ⟨h6, hN, hty, hnm, hin⟩ := z_cl hc
  have k1 := k b0 p l e s m args below meth c H locs lsA Qm hC hP hD hS hL hK
  have he : (z_W E mi mr)[a]? = some (E.2.1 a, .inr (ci, z_fs ci (mi a) (z_mp E.2.1 (mr a)))) := by rw [z_W_get ht, z_ce_obj (by show ci < 10; omega)]
  have hv : (z_fs ci (mi a) (z_mp E.2.1 (mr a)))[fk]? = some (.int (z_I (mi a (fk : Nat)))) := by rw [z_fs_get (hN ▸ hkN), z_fv, hr]; rfl
  rcases hl with hl | ⟨host, hl⟩
  · exact va_get hC.1 hC.2.1 hC.2.2.2.2.1 hin hC.2.2.2.1 hC.2.2.2.2.2.2.1 hP.1 a he hc fk hkN (hC.2.2.2.2.1 _ hl) (fun _ h => h) hv hd k1
  · exact va_getN hC.1 hC.2.1 hC.2.2.2.2.1 hin hC.2.2.2.1 hC.2.2.2.2.2.2.1 hP.1 a he hc fk hkN (va_Nw.use rfl (hC.2.2.2.2.2.1 _ hl)) (fun _ h => h) hv hd k1
theorem z_getr {idx ci fk a N : Nat} {C : String} {T : u_T} {fi : Int} {r : Option Nat} (hd : z_D 3 M pc n (.getfield idx)) (hf : z_F (z_my M).cls idx ci fk C T N) (ht : E.2.2[a]? = some (ci, 0)) (hr : z_ref (z_ty ci fk) = true) (hk : ((fk : Nat) : Int) = fi) (hx : mr a fi = r) (k : z_A M E kc ks n ls (zr r :: st) mi mr Q) : z_A M E kc ks pc ls (zo a :: st) mi mr Q := by
  intro b0 p l e s m args below meth c H locs lsA Qm hC hP hD hS hL hK
  obtain ⟨hd, rfl⟩ := hd
  subst hk; subst hx
  obtain ⟨hc, hkN, hl⟩ := hf
  obtain ⟨h6, hN, hty, hnm, hin⟩ := z_cl hc
  have k1 := k b0 p l e s m args below meth c H locs lsA Qm hC hP hD hS hL hK
  have he : (z_W E mi mr)[a]? = some (E.2.1 a, .inr (ci, z_fs ci (mi a) (z_mp E.2.1 (mr a)))) := by rw [z_W_get ht, z_ce_obj (by show ci < 10; omega)]
  have hv : (z_fs ci (mi a) (z_mp E.2.1 (mr a)))[fk]? = some (va_rf ((mr a (fk : Nat)).map E.2.1)) := by rw [z_fs_get (hN ▸ hkN), z_fv, hr]; rfl
  rcases hl with hl | ⟨host, hl⟩
  · exact va_get hC.1 hC.2.1 hC.2.2.2.2.1 hin hC.2.2.2.1 hC.2.2.2.2.2.2.1 hP.1 a he hc fk hkN (hC.2.2.2.2.1 _ hl) (fun _ h => h) hv hd k1
  · exact va_getN hC.1 hC.2.1 hC.2.2.2.2.1 hin hC.2.2.2.1 hC.2.2.2.2.2.2.1 hP.1 a he hc fk hkN (va_Nw.use rfl (hC.2.2.2.2.2.1 _ hl)) (fun _ h => h) hv hd k1
theorem z_puti {idx ci fk a N : Nat} {C : String} {T : u_T} {fi x : Int} (hd : z_D 3 M pc n (.putfield idx)) (hf : z_F (z_my M).cls idx ci fk C T N) (ht : E.2.2[a]? = some (ci, 0)) (hk : ((fk : Nat) : Int) = fi) (hfin : (T fk).2.2.2 = false) (hz : z_ty ci fk = .int ∨ (z_ty ci fk = .boolean ∧ (x = 0 ∨ x = 1))) (k : z_A M E kc ks n ls st (z_u mi a (z_v (mi a) fi x)) mr Q) : z_A M E kc ks pc ls (zi x :: zo a :: st) mi mr Q := by
  intro b0 p l e s m args below meth c H locs lsA Qm hC hP hD hS hL hK
  obtain ⟨hd, rfl⟩ := hd
  subst hk
  obtain ⟨hc, hkN, hl⟩ := hf
  obtain ⟨h6, hN, hty, hnm, hin⟩ := z_cl hc
  have he : (z_W E mi mr)[a]? = some (E.2.1 a, .inr (ci, z_fs ci (mi a) (z_mp E.2.1 (mr a)))) := by rw [z_W_get ht, z_ce_obj (by show ci < 10; omega)]
  have hv : Value.int (z_I x) = z_fv (z_ty ci fk) x (z_mp E.2.1 (mr a) (fk : Nat)) := by
    rcases hz with h | ⟨h, -⟩ <;> rw [h] <;> rfl
  have hnf : narrow (z_ty ci fk) (.int (z_I x)) = .int (z_I x) ∧ fits (z_ty ci fk) (.int (z_I x)) = true := by
    rcases hz with h | ⟨h, rfl | rfl⟩ <;> rw [h]
    · exact ⟨rfl, rfl⟩
    · exact ⟨by decide +kernel, by decide +kernel⟩
    · exact ⟨by decide +kernel, by decide +kernel⟩
  have e9 : (z_W E mi mr).set a (E.2.1 a, .inr (ci, (z_fs ci (mi a) (z_mp E.2.1 (mr a))).set fk (.int (z_I x)))) = z_W E (z_u mi a (z_v (mi a) (fk : Nat) x)) mr := by
    rw [hv, z_fs_set _ _ (hN ▸ hkN), z_vself]
    have e8 := z_W_set (mi := mi) (mr := mr) (z_v (mi a) (fk : Nat) x) (mr a) ht
    rw [z_ce_obj (by show ci < 10; omega), z_uself] at e8
    exact e8
  have kk : ∀ (H1 : Heap) (locs1 : List Loc), va_P E.1.1 vwCl ((z_W E mi mr).set a (E.2.1 a, .inr (ci, (z_fs ci (mi a) (z_mp E.2.1 (mr a))).set fk (.int (z_I x))))) H1 → va_D (z_af b0) ((z_W E mi mr).set a (E.2.1 a, .inr (ci, (z_fs ci (mi a) (z_mp E.2.1 (mr a))).set fk (.int (z_I x))))) → va_S (z_af b0) s.heap H1 locs1 → W p l e (z_mR M) s m args below meth c H1 locs1 kc ks Qm (F0 m (pc + 3) lsA (st.map (z_cv E.2.1))) := by
    intro H1 locs1 h1 h2 h3
    rw [e9] at h1 h2
    exact k b0 p l e s m args below meth c H1 locs1 lsA Qm hC ⟨h1, hP.2⟩ h2 h3 hL hK
  have hlen : fk < (z_fs ci (mi a) (z_mp E.2.1 (mr a))).length := by rw [z_fs_len]; exact hN ▸ hkN
  rcases hl with hl | ⟨host, hl⟩
  · exact va_put hC.1 hC.2.1 hC.2.2.2.2.1 hin (z_ty ci) hty hnm hC.2.2.2.1 hC.2.2.2.2.2.2.1 hP.1 hD hS a he hc fk hkN (hC.2.2.2.2.1 _ hl) (fun _ h => h) hfin (hty fk hkN) hnf.1 hnf.2 hlen hd kk
  · exact va_putN hC.1 hC.2.1 hC.2.2.2.2.1 hin (z_ty ci) hty hnm hC.2.2.2.1 hC.2.2.2.2.2.2.1 hP.1 hD hS a he hc fk hkN (va_Nw.use rfl (hC.2.2.2.2.2.1 _ hl)) (fun _ h => h) hfin (hty fk hkN) hnf.1 hnf.2 hlen hd kk
theorem z_rfnf {ty : FieldType} (hr : z_ref ty = true) (al : Nat → Nat) (r : Option Nat) : narrow ty (va_rf (r.map al)) = va_rf (r.map al) ∧ fits ty (va_rf (r.map al)) = true := by
  cases ty <;> first | (simp [z_ref] at hr; done) | (cases r <;> exact ⟨rfl, rfl⟩)
theorem z_putr {idx ci fk a N : Nat} {C : String} {T : u_T} {fi : Int} {r : Option Nat} (hd : z_D 3 M pc n (.putfield idx)) (hf : z_F (z_my M).cls idx ci fk C T N) (ht : E.2.2[a]? = some (ci, 0)) (hk : ((fk : Nat) : Int) = fi) (hfin : (T fk).2.2.2 = false ∨ ((T fk).2.2.2 = true ∧ (z_my M).name = "<init>" ∧ (T fk).1 = (z_my M).cls ∧ Cond.fieldLink (z_my M).cls idx (T fk).1 (T fk).2.1 (T fk).2.2.1 ∈ z_WG)) (hr : z_ref (z_ty ci fk) = true) (hb : ∀ b, r = some b → b < E.2.2.length) (k : z_A M E kc ks n ls st mi (z_u mr a (z_v (mr a) fi r)) Q) : z_A M E kc ks pc ls (zr r :: zo a :: st) mi mr Q := by
  intro b0 p l e s m args below meth c H locs lsA Qm hC hP hD hS hL hK
  obtain ⟨hd, rfl⟩ := hd
  subst hk
  obtain ⟨hc, hkN, hl⟩ := hf
  obtain ⟨h6, hN, hty, hnm, hin⟩ := z_cl hc
  have he : (z_W E mi mr)[a]? = some (E.2.1 a, .inr (ci, z_fs ci (mi a) (z_mp E.2.1 (mr a)))) := by rw [z_W_get ht, z_ce_obj (by show ci < 10; omega)]
  have hv : va_rf (r.map E.2.1) = z_fv (z_ty ci fk) (mi a (fk : Nat)) (r.map E.2.1) := by rw [z_fv, hr]; rfl
  have hnf := z_rfnf hr E.2.1 r
  have e9 : (z_W E mi mr).set a (E.2.1 a, .inr (ci, (z_fs ci (mi a) (z_mp E.2.1 (mr a))).set fk (va_rf (r.map E.2.1)))) = z_W E mi (z_u mr a (z_v (mr a) (fk : Nat) r)) := by
    rw [hv, z_fs_set _ _ (hN ▸ hkN), z_vself, z_mpv]
    have e8 := z_W_set (mi := mi) (mr := mr) (mi a) (z_v (mr a) (fk : Nat) r) ht
    rw [z_ce_obj (by show ci < 10; omega), z_uself] at e8
    exact e8
  have kk : ∀ (H1 : Heap) (locs1 : List Loc), va_P E.1.1 vwCl ((z_W E mi mr).set a (E.2.1 a, .inr (ci, (z_fs ci (mi a) (z_mp E.2.1 (mr a))).set fk (va_rf (r.map E.2.1))))) H1 → va_D (z_af b0) ((z_W E mi mr).set a (E.2.1 a, .inr (ci, (z_fs ci (mi a) (z_mp E.2.1 (mr a))).set fk (va_rf (r.map E.2.1))))) → va_S (z_af b0) s.heap H1 locs1 → W p l e (z_mR M) s m args below meth c H1 locs1 kc ks Qm (F0 m (pc + 3) lsA (st.map (z_cv E.2.1))) := by
    intro H1 locs1 h1 h2 h3
    rw [e9] at h1 h2
    exact k b0 p l e s m args below meth c H1 locs1 lsA Qm hC (hP.putr h1 hb) h2 h3 hL hK
  have hlen : fk < (z_fs ci (mi a) (z_mp E.2.1 (mr a))).length := by rw [z_fs_len]; exact hN ▸ hkN
  rcases hfin with hfin | ⟨hfin, hi1, hi2, hl2⟩
  · rcases hl with hl | ⟨host, hl⟩
    · exact va_put hC.1 hC.2.1 hC.2.2.2.2.1 hin (z_ty ci) hty hnm hC.2.2.2.1 hC.2.2.2.2.2.2.1 hP.1 hD hS a he hc fk hkN (hC.2.2.2.2.1 _ hl) (fun _ h => h) hfin (hty fk hkN) hnf.1 hnf.2 hlen hd kk
    · exact va_putN hC.1 hC.2.1 hC.2.2.2.2.1 hin (z_ty ci) hty hnm hC.2.2.2.1 hC.2.2.2.2.2.2.1 hP.1 hD hS a he hc fk hkN (va_Nw.use rfl (hC.2.2.2.2.2.1 _ hl)) (fun _ h => h) hfin (hty fk hkN) hnf.1 hnf.2 hlen hd kk
  · exact va_putF hC.1 hC.2.1 hC.2.2.2.2.1 hin (z_ty ci) hty hnm hC.2.2.2.1 hC.2.2.2.2.2.2.1 hP.1 hD hS a he hc fk hkN (hC.2.2.2.2.1 _ hl2) (fun _ h => h) hfin (hC.2.2.2.2.2.2.2.2.1.trans hi1) hi2 (hty fk hkN) hnf.1 hnf.2 hlen hd kk
theorem z_iald {a len : Nat} {i x : Int} (hd : z_D 1 M pc n .iaload) (ht : E.2.2[a]? = some (10, len)) (hn : len ≤ 2147483648) (h0 : 0 ≤ i) (h1 : i < (len : Int)) (hx : mi a i = x) (k : z_A M E kc ks n ls (zi x :: st) mi mr Q) : z_A M E kc ks pc ls (zi i :: zo a :: st) mi mr Q := by
  intro b0 p l e s m args below meth c H locs lsA Qm hC hP hD hS hL hK
  obtain ⟨hd, rfl⟩ := hd
  subst hx
  have k1 := k b0 p l e s m args below meth c H locs lsA Qm hC hP hD hS hL hK
  have he : (z_W E mi mr)[a]? = some (E.2.1 a, .inl (E.1.2.1, len, .inl fun j => z_I (mi a (j : Nat)))) := by rw [z_W_get ht, z_ce_i]
  refine va_iald hC.1 hC.2.1 hC.2.2.2.2.2.2.1 hP.1 a 0 he rfl (z_I_in h0 h1 hn) hd ?_
  rw [z_I_clamp h0 (by omega), show ((i.toNat : Nat) : Int) = i by omega]
  exact k1
theorem z_iast {a len : Nat} {i x : Int} (hd : z_D 1 M pc n .iastore) (ht : E.2.2[a]? = some (10, len)) (hn : len ≤ 2147483648) (h0 : 0 ≤ i) (h1 : i < (len : Int)) (k : z_A M E kc ks n ls st (z_u mi a (z_v (mi a) i x)) mr Q) : z_A M E kc ks pc ls (zi x :: zi i :: zo a :: st) mi mr Q := by
  intro b0 p l e s m args below meth c H locs lsA Qm hC hP hD hS hL hK
  obtain ⟨hd, rfl⟩ := hd
  have he : (z_W E mi mr)[a]? = some (E.2.1 a, .inl (E.1.2.1, len, .inl fun j => z_I (mi a (j : Nat)))) := by rw [z_W_get ht, z_ce_i]
  refine va_iast hC.1 hC.2.1 hC.2.2.2.2.2.2.1 hP.1 hD hS a 0 he rfl (z_I_in h0 h1 hn) hd (fun H1 locs1 g1 g2 g3 => ?_)
  rw [z_I_clamp h0 (by omega), z_arrI _ h0] at g1 g2
  have e8 := z_W_set (mi := mi) (mr := mr) (z_v (mi a) i x) (mr a) ht
  rw [z_ce_i, z_uself] at e8
  rw [e8] at g1 g2
  exact k b0 p l e s m args below meth c H1 locs1 lsA Qm hC ⟨g1, hP.2⟩ g2 g3 hL hK
theorem z_aald {a t len : Nat} {i : Int} {r : Option Nat} (hd : z_D 1 M pc n .aaload) (ht : E.2.2[a]? = some (t, len)) (h3 : t = 12 ∨ t = 13 ∨ t = 14) (hn : len ≤ 2147483648) (h0 : 0 ≤ i) (h1 : i < (len : Int)) (hx : mr a i = r) (k : z_A M E kc ks n ls (zr r :: st) mi mr Q) : z_A M E kc ks pc ls (zi i :: zo a :: st) mi mr Q := by
  intro b0 p l e s m args below meth c H locs lsA Qm hC hP hD hS hL hK
  obtain ⟨hd, rfl⟩ := hd
  subst hx
  have k1 := k b0 p l e s m args below meth c H locs lsA Qm hC hP hD hS hL hK
  rcases h3 with rfl | rfl | rfl
  · have he : (z_W E mi mr)[a]? = some (E.2.1 a, .inl (E.1.2.2.2.1, len, .inr (.inr (.inr (.inr fun j => z_mp E.2.1 (mr a) (j : Nat)))))) := by rw [z_W_get ht, z_ce_12]
    refine va_aldq hC.1 hC.2.1 hC.2.2.2.2.2.2.1 hP.1 a 2 he rfl (z_I_in h0 h1 hn) hd ?_
    rw [z_I_clamp h0 (by omega), show ((i.toNat : Nat) : Int) = i by omega]
    exact k1
  · have he : (z_W E mi mr)[a]? = some (E.2.1 a, .inl (E.1.2.2.2.2.1, len, .inr (.inr (.inr (.inr fun j => z_mp E.2.1 (mr a) (j : Nat)))))) := by rw [z_W_get ht, z_ce_13]
    refine va_aldq hC.1 hC.2.1 hC.2.2.2.2.2.2.1 hP.1 a 3 he rfl (z_I_in h0 h1 hn) hd ?_
    rw [z_I_clamp h0 (by omega), show ((i.toNat : Nat) : Int) = i by omega]
    exact k1
  · have he : (z_W E mi mr)[a]? = some (E.2.1 a, .inl (E.1.2.2.2.2.2, len, .inr (.inr (.inr (.inr fun j => z_mp E.2.1 (mr a) (j : Nat)))))) := by rw [z_W_get ht, z_ce_14]
    refine va_aldq hC.1 hC.2.1 hC.2.2.2.2.2.2.1 hP.1 a 4 he rfl (z_I_in h0 h1 hn) hd ?_
    rw [z_I_clamp h0 (by omega), show ((i.toNat : Nat) : Int) = i by omega]
    exact k1
theorem z_aast {a b t ci len : Nat} {i : Int} (hd : z_D 1 M pc n .aastore) (ht : E.2.2[a]? = some (t, len)) (hb : E.2.2[b]? = some (ci, 0)) (h3 : (t = 12 ∧ ci = 2) ∨ (t = 13 ∧ ci = 0) ∨ (t = 14 ∧ ci = 3)) (hn : len ≤ 2147483648) (h0 : 0 ≤ i) (h1 : i < (len : Int)) (k : z_A M E kc ks n ls st mi (z_u mr a (z_v (mr a) i (some b))) Q) : z_A M E kc ks pc ls (zo b :: zi i :: zo a :: st) mi mr Q := by
  intro b0 p l e s m args below meth c H locs lsA Qm hC hP hD hS hL hK
  obtain ⟨hd, rfl⟩ := hd
  rcases h3 with ⟨rfl, rfl⟩ | ⟨rfl, rfl⟩ | ⟨rfl, rfl⟩
  · have he : (z_W E mi mr)[a]? = some (E.2.1 a, .inl (E.1.2.2.2.1, len, .inr (.inr (.inr (.inr fun j => z_mp E.2.1 (mr a) (j : Nat)))))) := by rw [z_W_get ht, z_ce_12]
    have hv : (z_W E mi mr)[b]? = some (E.2.1 b, .inr (2, z_fs 2 (mi b) (z_mp E.2.1 (mr b)))) := by rw [z_W_get hb, z_ce_obj (by decide)]
    refine va_astq (r := (RX2, TX2, 3)) hC.1 hC.2.1 hC.2.2.2.2.2.2.1 hP.1 hD hS a 2 b 2 he rfl hv rfl (z_I_in h0 h1 hn) hd (fun H1 locs1 g1 g2 g3 => ?_)
    rw [z_I_clamp h0 (by omega), z_arrQ _ _ h0] at g1 g2
    have e8 := z_W_set (mi := mi) (mr := mr) (mi a) (z_v (mr a) i (some b)) ht
    rw [z_ce_12, z_uself] at e8
    rw [e8] at g1 g2
    exact k b0 p l e s m args below meth c H1 locs1 lsA Qm hC (hP.putr g1 (fun b' hb' => by cases hb'; exact z_lt hb)) g2 g3 hL hK
  · have he : (z_W E mi mr)[a]? = some (E.2.1 a, .inl (E.1.2.2.2.2.1, len, .inr (.inr (.inr (.inr fun j => z_mp E.2.1 (mr a) (j : Nat)))))) := by rw [z_W_get ht, z_ce_13]
    have hv : (z_W E mi mr)[b]? = some (E.2.1 b, .inr (0, z_fs 0 (mi b) (z_mp E.2.1 (mr b)))) := by rw [z_W_get hb, z_ce_obj (by decide)]
    refine va_astq (r := (RX0, TX0, 3)) hC.1 hC.2.1 hC.2.2.2.2.2.2.1 hP.1 hD hS a 3 b 0 he rfl hv rfl (z_I_in h0 h1 hn) hd (fun H1 locs1 g1 g2 g3 => ?_)
    rw [z_I_clamp h0 (by omega), z_arrQ _ _ h0] at g1 g2
    have e8 := z_W_set (mi := mi) (mr := mr) (mi a) (z_v (mr a) i (some b)) ht
    rw [z_ce_13, z_uself] at e8
    rw [e8] at g1 g2
    exact k b0 p l e s m args below meth c H1 locs1 lsA Qm hC (hP.putr g1 (fun b' hb' => by cases hb'; exact z_lt hb)) g2 g3 hL hK
  · have he : (z_W E mi mr)[a]? = some (E.2.1 a, .inl (E.1.2.2.2.2.2, len, .inr (.inr (.inr (.inr fun j => z_mp E.2.1 (mr a) (j : Nat)))))) := by rw [z_W_get ht, z_ce_14]
    have hv : (z_W E mi mr)[b]? = some (E.2.1 b, .inr (3, z_fs 3 (mi b) (z_mp E.2.1 (mr b)))) := by rw [z_W_get hb, z_ce_obj (by decide)]
    refine va_astq (r := (RX3, TX3, 9)) hC.1 hC.2.1 hC.2.2.2.2.2.2.1 hP.1 hD hS a 4 b 3 he rfl hv rfl (z_I_in h0 h1 hn) hd (fun H1 locs1 g1 g2 g3 => ?_)
    rw [z_I_clamp h0 (by omega), z_arrQ _ _ h0] at g1 g2
    have e8 := z_W_set (mi := mi) (mr := mr) (mi a) (z_v (mr a) i (some b)) ht
    rw [z_ce_14, z_uself] at e8
    rw [e8] at g1 g2
    exact k b0 p l e s m args below meth c H1 locs1 lsA Qm hC (hP.putr g1 (fun b' hb' => by cases hb'; exact z_lt hb)) g2 g3 hL hK
theorem z_alen {a t len : Nat} (hd : z_D 1 M pc n .arraylength) (ht : E.2.2[a]? = some (t, len)) (h3 : t = 10 ∨ t = 11 ∨ t = 12 ∨ t = 13 ∨ t = 14) (k : z_A M E kc ks n ls (zi (len : Nat) :: st) mi mr Q) : z_A M E kc ks pc ls (zo a :: st) mi mr Q := by
  intro b0 p l e s m args below meth c H locs lsA Qm hC hP hD hS hL hK
  obtain ⟨hd, rfl⟩ := hd
  have k1 := k b0 p l e s m args below meth c H locs lsA Qm hC hP hD hS hL hK
  have hz : Int32.ofNat len = z_I (len : Nat) := (z_I_nat len).symm
  rcases h3 with rfl | rfl | rfl | rfl | rfl
  · exact va_alen hC.1 hC.2.1 hC.2.2.2.2.2.2.1 hP.1 a 0 (by rw [z_W_get ht, z_ce_i]) rfl hz hd k1
  · exact va_alen hC.1 hC.2.1 hC.2.2.2.2.2.2.1 hP.1 a 1 (by rw [z_W_get ht, z_ce_z]) rfl hz hd k1
  · exact va_alen hC.1 hC.2.1 hC.2.2.2.2.2.2.1 hP.1 a 2 (by rw [z_W_get ht, z_ce_12]) rfl hz hd k1
  · exact va_alen hC.1 hC.2.1 hC.2.2.2.2.2.2.1 hP.1 a 3 (by rw [z_W_get ht, z_ce_13]) rfl hz hd k1
  · exact va_alen hC.1 hC.2.1 hC.2.2.2.2.2.2.1 hP.1 a 4 (by rw [z_W_get ht, z_ce_14]) rfl hz hd k1
/-! ends -/
theorem z_ret (hd : z_D 1 M pc n .return_) (hr : z_mr M = none) (hk : Nat.ble kc (z_mR M).cells = true) (hs : Nat.ble ks (z_mR M).slots = true) (h : Q none E mi mr) : z_A M E kc ks pc ls [] mi mr Q := by
  intro b0 p l e s m args below meth c H locs lsA Qm hC hP hD hS hL hK
  exact hK none E mi mr H locs kc ks pc lsA h rfl hP hD hS hr hd.1 (Nat.le_of_ble_eq_true hk) (Nat.le_of_ble_eq_true hs)
theorem z_iret {x : Int} (hd : z_D 1 M pc n .ireturn) (hr : z_mr M = some .int ∨ (z_mr M = some .boolean ∧ (x = 0 ∨ x = 1))) (hk : Nat.ble kc (z_mR M).cells = true) (hs : Nat.ble ks (z_mR M).slots = true) (h : Q (some (zi x)) E mi mr) : z_A M E kc ks pc ls [zi x] mi mr Q := by
  intro b0 p l e s m args below meth c H locs lsA Qm hC hP hD hS hL hK
  exact hK (some (zi x)) E mi mr H locs kc ks pc lsA h rfl hP hD hS hr hd.1 (Nat.le_of_ble_eq_true hk) (Nat.le_of_ble_eq_true hs)
theorem z_lret {x : Int64} (hd : z_D 1 M pc n .lreturn) (hr : z_mr M = some .long) (hk : Nat.ble kc (z_mR M).cells = true) (hs : Nat.ble ks (z_mR M).slots = true) (h : Q (some (zl x)) E mi mr) : z_A M E kc ks pc ls [zl x] mi mr Q := by
  intro b0 p l e s m args below meth c H locs lsA Qm hC hP hD hS hL hK
  exact hK (some (zl x)) E mi mr H locs kc ks pc lsA h rfl hP hD hS hr hd.1 (Nat.le_of_ble_eq_true hk) (Nat.le_of_ble_eq_true hs)
theorem z_aret {a : Nat} (hd : z_D 1 M pc n .areturn) (hr : ∃ c, z_mr M = some (.object c)) (hk : Nat.ble kc (z_mR M).cells = true) (hs : Nat.ble ks (z_mR M).slots = true) (h : Q (some (zo a)) E mi mr) : z_A M E kc ks pc ls [zo a] mi mr Q := by
  intro b0 p l e s m args below meth c H locs lsA Qm hC hP hD hS hL hK
  exact hK (some (zo a)) E mi mr H locs kc ks pc lsA h rfl hP hD hS hr hd.1 (Nat.le_of_ble_eq_true hk) (Nat.le_of_ble_eq_true hs)
end ZHEAP
