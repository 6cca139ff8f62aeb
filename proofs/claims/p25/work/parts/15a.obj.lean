/-! the class's object at cell o: its sheet at o + 1, the remembered ones at o + 74 + 71 i, its Pouring at o + 73 -/
def z_S (E : z_E) (mi : z_Mi) (mr : z_Mr) (s : Nat) (D : Int → Int) : Prop := ∃ sg : Int → Nat, z_Sh E mi mr s sg D (p_rows D)
def p_st (P : Int → Int) (i : Int) : Int → Int := fun k => P (719 * i + k)
def z_Xc (E : z_E) (o : Nat) (mr : z_Mr) : Prop := E.2.2[o]? = some (4, 0) ∧ E.2.2[o + 72]? = some (14, 8) ∧ E.2.2[o + 73]? = some (1, 0) ∧ mr o 0 = some (o + 1) ∧ mr o 1 = some (o + 72) ∧ mr o 2 = some (o + 73) ∧ (∀ i : Int, 0 ≤ i → i < 8 → mr (o + 72) i = some (o + 74 + 71 * i.toNat))
def z_Xm (E : z_E) (o : Nat) (mi : z_Mi) (mr : z_Mr) (P : Int → Int) (n nx : Int) : Prop := (∀ i : Int, 0 ≤ i → i < 8 → ∃ D, p_hd D ∧ z_S E mi mr (o + 74 + 71 * i.toNat) D) ∧ (∀ i : Int, 1 ≤ i → i ≤ n → p_hd (p_st P i) ∧ z_S E mi mr (o + 74 + 71 * ((nx - n + i - 1) % 8).toNat) (p_st P i))
def z_X (E : z_E) (o : Nat) (mi : z_Mi) (mr : z_Mr) (P : Int → Int) (n nx : Int) : Prop := z_Xc E o mr ∧ (mi o 3 = nx ∧ mi o 4 = n ∧ 0 ≤ nx ∧ nx < 8 ∧ 0 ≤ n ∧ n ≤ 8) ∧ p_hd P ∧ z_S E mi mr (o + 1) P ∧ z_Xm E o mi mr P n nx
/-- cells behind the object are as before -/
def z_Xf (o : Nat) (mi : z_Mi) (mr : z_Mr) (m : z_Mi) (r : z_Mr) : Prop := ∀ c, o + 642 ≤ c → m c = mi c ∧ r c = mr c
section ZOBJ
variable {E : z_E} {o s : Nat} {mi m m2 : z_Mi} {mr r r2 : z_Mr} {P Q A B : Int → Int} {n nx : Int}
theorem z_Xf_r : z_Xf o mi mr mi mr := fun _ _ => ⟨rfl, rfl⟩
theorem z_Xf_t (h : z_Xf o mi mr m r) (h2 : z_Xf o m r m2 r2) : z_Xf o mi mr m2 r2 := fun c hc => ⟨(h2 c hc).1.trans (h c hc).1, (h2 c hc).2.trans (h c hc).2⟩
theorem z_Xf_T (h : z_T E s mi mr Q m r) (hs : s + 71 ≤ o + 642) : z_Xf o mi mr m r := by
  obtain ⟨sg, a1, a2, a3, hf⟩ := h
  exact fun c hc => hf c (by omega)
theorem z_S_T (h : z_T E s mi mr Q m r) : z_S E m r s Q := by
  obtain ⟨sg, a1, a2, a3, hf⟩ := h
  exact ⟨sg, a1, a2, a3⟩
theorem z_T_S (h : z_S E mi mr s Q) : z_T E s mi mr Q mi mr := by
  obtain ⟨sg, a1, a2, a3⟩ := h
  exact ⟨sg, a1, a2, a3, z_Fr_r s mi mr⟩
theorem z_S_ag (hS : z_S E mi mr s A) (hA : p_hd A) (h : ∀ k, 0 ≤ k → k < 719 → B k = A k) : z_S E mi mr s B := by
  obtain ⟨hw0, hw1, hh0, hh1, hf0, hf1, hf2, hr0, hr1, hc0, hc1, hp0, hp1, hk0, hk1, hi0, hi1, hkp, hP⟩ := id hA
  obtain ⟨sg, a1, a2, a3⟩ := hS
  refine ⟨sg, a1, z_Sd_c a2 (fun k k0 k1 => h k k0 (by omega)) hk1, ?_⟩
  rw [h 0 (by decide) (by decide), h 14 (by decide) (by decide), h 1 (by decide) (by decide)]
  refine z_Sr_e a3 hw1 (fun k k0 k1 c c0 c1 => ?_)
  have e : m_slot B k = m_slot A k := by unfold m_slot; rw [h 14 (by decide) (by decide)]
  have hs : 0 ≤ m_slot A k ∧ m_slot A k ≤ 31 := by unfold m_slot; split <;> omega
  rw [p_rows_at, p_rows_at, e, h _ (by omega) (by omega)]
theorem z_S_fr (hS : z_S E mi mr s A) (hA : p_hd A) (hf : ∀ c, s ≤ c → c < s + 71 → m c = mi c ∧ r c = mr c) : z_S E m r s A := by
  obtain ⟨sg, h⟩ := hS
  exact ⟨sg, z_Sh_fr h hA hf⟩
theorem p_hd_st {i : Int} (hA : p_hd (p_st P i)) (hQ : z_pr Q) (h : ∀ k, 0 ≤ k → k < 15 → Q (719 * i + k) = P (719 * i + k)) : p_hd (p_st Q i) := p_hd_congr hA (fun k k0 k1 => h k k0 k1) (fun k => hQ _)
theorem z_Xc_fr (h : z_Xc E o mr) (h1 : r o = mr o) (h2 : r (o + 72) = mr (o + 72)) : z_Xc E o r := by
  obtain ⟨t0, t1, t2, q0, q1, q2, q3⟩ := h
  exact ⟨t0, t1, t2, by rw [h1]; exact q0, by rw [h1]; exact q1, by rw [h1]; exact q2, fun i i0 i1 => by rw [h2]; exact q3 i i0 i1⟩
theorem z_Xm_fr (h : z_Xm E o mi mr P n nx) (hf : ∀ c, o + 74 ≤ c → c < o + 642 → m c = mi c ∧ r c = mr c) : z_Xm E o m r P n nx := by
  refine ⟨fun i i0 i1 => ?_, fun i i0 i1 => ?_⟩
  · obtain ⟨D, h1, h2⟩ := h.1 i i0 i1
    exact ⟨D, h1, z_S_fr h2 h1 (fun c c0 c1 => hf c (by omega) (by omega))⟩
  · obtain ⟨h1, h2⟩ := h.2 i i0 i1
    exact ⟨h1, z_S_fr h2 h1 (fun c c0 c1 => hf c (by omega) (by omega))⟩
theorem z_Xm_P (h : z_Xm E o mi mr P n nx) (hQ : z_pr Q) (hn : n ≤ 8) (he : ∀ k, 719 ≤ k → k < 6471 → Q k = P k) : z_Xm E o mi mr Q n nx := by
  refine ⟨h.1, fun i i0 i1 => ?_⟩
  obtain ⟨h1, h2⟩ := h.2 i i0 i1
  exact ⟨p_hd_st h1 hQ (fun k k0 k1 => he _ (by omega) (by omega)), z_S_ag h2 h1 (fun k k0 k1 => he _ (by omega) (by omega))⟩
/-- a change of the sheet is one of the object -/
theorem z_X_T (h : z_X E o mi mr P n nx) (hT : z_T E (o + 1) mi mr Q m r) (hQ : p_hd Q) (he : ∀ k, 719 ≤ k → k < 6471 → Q k = P k) : z_X E o m r Q n nx := by
  obtain ⟨h1, h2, h3, h4, h5⟩ := h
  obtain ⟨sg, a1, a2, a3, hf⟩ := hT
  refine ⟨z_Xc_fr h1 (hf o (by omega)).2 (hf (o + 72) (by omega)).2, ?_, hQ, ⟨sg, a1, a2, a3⟩, z_Xm_fr (z_Xm_P h5 (p_hd_pr hQ) h2.2.2.2.2.2 he) (fun c c0 c1 => hf c (by omega))⟩
  rw [(hf o (by omega)).1]; exact h2
/-- a change of the object's Pouring -/
theorem z_X_q {G : Int → Int} {f : Int → Option Nat} (h : z_X E o mi mr P n nx) : z_X E o (z_u mi (o + 73) G) (z_u mr (o + 73) f) P n nx := by
  obtain ⟨h1, h2, h3, h4, h5⟩ := h
  refine ⟨z_Xc_fr h1 (z_un (by omega)) (z_un (by omega)), ?_, h3, z_S_fr h4 h3 (fun c c0 c1 => ⟨z_un (by omega), z_un (by omega)⟩), z_Xm_fr h5 (fun c c0 c1 => ⟨z_un (by omega), z_un (by omega)⟩)⟩
  rw [z_un (by omega)]; exact h2
theorem z_Xf_q {G : Int → Int} {f : Int → Option Nat} : z_Xf o mi mr (z_u mi (o + 73) G) (z_u mr (o + 73) f) := fun c hc => ⟨z_un (by omega), z_un (by omega)⟩
/-- a state is recorded: over the one at nx -/
theorem z_X_rec {F : Int → Int} (h : z_X E o mi mr P n nx) (hT : z_T E (o + 74 + 71 * nx.toNat) mi mr P m r) (hF : ∀ k, k ≠ 3 → k ≠ 4 → F k = mi o k) (h3 : F 3 = (nx + 1) % 8) (h4 : F 4 = (if n < 8 then n + 1 else 8)) :
    z_X E o (z_u m o F) r (p_rec n P) (if n < 8 then n + 1 else 8) ((nx + 1) % 8) ∧ z_S E (z_u m o F) r (o + 74 + 71 * nx.toNat) (p_rec n P) ∧ z_Xf o mi mr (z_u m o F) r := by
  obtain ⟨a1, ⟨b1, b2, b3, b4, b5, b6⟩, a3, a4, a5⟩ := h
  obtain ⟨sg, c1, c2, c3, hf⟩ := hT
  have hS : z_S E m r (o + 74 + 71 * nx.toNat) P := ⟨sg, c1, c2, c3⟩
  have hR : p_hd (p_rec n P) := p_hd_rec a3 b5
  have e0 : ∀ k, 0 ≤ k → k < 719 → p_rec n P k = P k := fun k k0 k1 => p_rec_hd b5 k1
  have hS2 : z_S E (z_u m o F) r (o + 74 + 71 * nx.toNat) P := z_S_fr hS a3 (fun c c0 c1 => ⟨z_un (by omega), rfl⟩)
  have hm : (if n < 8 then n + 1 else 8) = n + 1 ∧ n < 8 ∨ (if n < 8 then n + 1 else 8) = 8 ∧ n = 8 := by
    by_cases q : n < 8
    · rw [if_pos q]; exact Or.inl ⟨rfl, q⟩
    · rw [if_neg q]; exact Or.inr ⟨rfl, by omega⟩
  generalize hnn : (if n < 8 then n + 1 else 8) = n' at *
  refine ⟨⟨z_Xc_fr a1 (hf o (by omega)).2 (hf (o + 72) (by omega)).2, ⟨by rw [z_us]; exact h3, by rw [z_us]; exact h4, by omega, by omega, by omega, by omega⟩, hR, ?_, ?_, ?_⟩, z_S_ag hS2 a3 e0, fun c hc => ⟨(z_un (by omega)).trans (hf c (by omega)).1, (hf c (by omega)).2⟩⟩
  · exact z_S_ag (z_S_fr a4 a3 (fun c c0 c1 => ⟨(z_un (by omega)).trans (hf c (by omega)).1, (hf c (by omega)).2⟩)) a3 e0
  · intro i i0 i1
    by_cases q : i = nx
    · subst q; exact ⟨P, a3, hS2⟩
    · obtain ⟨D, d1, d2⟩ := a5.1 i i0 i1
      exact ⟨D, d1, z_S_fr d2 d1 (fun c c0 c1 => ⟨(z_un (by omega)).trans (hf c (by omega)).1, (hf c (by omega)).2⟩)⟩
  · intro i i0 i1
    by_cases q : i = n'
    · have ei : ((nx + 1) % 8 - n' + i - 1) % 8 = nx := by omega
      rw [ei]
      have e1 : ∀ k, 0 ≤ k → k < 719 → p_st (p_rec n P) i k = P k := by
        intro k k0 k1
        unfold p_st p_rec
        rcases hm with ⟨m1, m2⟩ | ⟨m1, m2⟩
        · rw [if_neg (by omega), if_pos (by omega)]; congr 1; omega
        · rw [if_pos m2, if_neg (by omega), if_pos (by omega)]; congr 1; omega
      exact ⟨p_hd_congr a3 (fun k k0 k1 => e1 k k0 (by omega)) (fun k => p_hd_pr hR _), z_S_ag hS2 a3 e1⟩
    · have e1 : ∃ j, 1 ≤ j ∧ j ≤ n ∧ ((nx + 1) % 8 - n' + i - 1) % 8 = (nx - n + j - 1) % 8 ∧ (nx - n + j - 1) % 8 ≠ nx ∧ ∀ k, 0 ≤ k → k < 719 → p_st (p_rec n P) i k = p_st P j k := by
        rcases hm with ⟨m1, m2⟩ | ⟨m1, m2⟩
        · refine ⟨i, i0, by omega, by omega, by omega, fun k k0 k1 => ?_⟩
          unfold p_st p_rec
          rw [if_neg (by omega), if_neg (by omega)]
        · refine ⟨i + 1, by omega, by omega, by omega, by omega, fun k k0 k1 => ?_⟩
          unfold p_st p_rec
          rw [if_pos m2, if_pos (by omega)]; congr 1; omega
      obtain ⟨j, j0, j1, j2, j3, j4⟩ := e1
      obtain ⟨d1, d2⟩ := a5.2 j j0 j1
      rw [j2]
      refine ⟨p_hd_congr d1 (fun k k0 k1 => j4 k k0 (by omega)) (fun k => p_hd_pr hR _), z_S_ag (z_S_fr d2 d1 (fun c c0 c1 => ⟨(z_un (by omega)).trans (hf c (by omega)).1, (hf c (by omega)).2⟩)) d1 j4⟩
/-- the latest state comes back -/
theorem z_X_und {F : Int → Int} (h : z_X E o mi mr P n nx) (hn : 1 ≤ n) (hT : z_T E (o + 1) mi mr (p_st P n) m r) (h3 : F 3 = (nx + 7) % 8) (h4 : F 4 = n - 1) :
    z_X E o (z_u m o F) r (p_und n P) (n - 1) ((nx + 7) % 8) ∧ z_Xf o mi mr (z_u m o F) r := by
  obtain ⟨a1, ⟨b1, b2, b3, b4, b5, b6⟩, a3, a4, a5⟩ := h
  obtain ⟨sg, c1, c2, c3, hf⟩ := hT
  have hS : z_S E m r (o + 1) (p_st P n) := ⟨sg, c1, c2, c3⟩
  have hn1 := (a5.2 n hn (Int.le_refl _)).1
  have e0 : ∀ k, 0 ≤ k → k < 719 → p_und n P k = p_st P n k := fun k k0 k1 => if_pos ⟨k0, k1⟩
  have hz : z_pr (p_und n P) := by
    intro k; unfold p_und; split
    · exact p_hd_pr a3 _
    · exact p_hd_pr a3 _
  have hR : p_hd (p_und n P) := p_hd_congr hn1 (fun k k0 k1 => e0 k k0 (by omega)) hz
  have e1 : ∀ k, 719 ≤ k → p_und n P k = P k := fun k k0 => if_neg (by omega)
  have hg : ∀ c, c < o + 1 ∨ o + 72 ≤ c → c ≠ o → z_u m o F c = mi c ∧ r c = mr c := fun c g1 g2 => ⟨(z_un g2).trans (hf c (by omega)).1, (hf c (by omega)).2⟩
  refine ⟨⟨z_Xc_fr a1 (hf o (by omega)).2 (hf (o + 72) (by omega)).2, ⟨by rw [z_us]; exact h3, by rw [z_us]; exact h4, by omega, by omega, by omega, by omega⟩, hR, z_S_ag (z_S_fr hS hn1 (fun c c0 c1 => ⟨z_un (by omega), rfl⟩)) hn1 e0, ?_, ?_⟩, fun c hc => hg c (by omega) (by omega)⟩
  · intro i i0 i1
    obtain ⟨D, d1, d2⟩ := a5.1 i i0 i1
    exact ⟨D, d1, z_S_fr d2 d1 (fun c c0 c1 => hg c (by omega) (by omega))⟩
  · intro i i0 i1
    obtain ⟨d1, d2⟩ := a5.2 i i0 (by omega)
    have ei : ((nx + 7) % 8 - (n - 1) + i - 1) % 8 = (nx - n + i - 1) % 8 := by omega
    rw [ei]
    exact ⟨p_hd_st d1 hz (fun k k0 k1 => e1 _ (by omega)), z_S_ag (z_S_fr d2 d1 (fun c c0 c1 => hg c (by omega) (by omega))) d1 (fun k k0 k1 => e1 _ (by omega))⟩
end ZOBJ
