/-! the class's reading of a line: G its fields (1 row, 2 column, 3 last row, 4 cells, 5 width, 6 sign, 7 read, 8 row of the pouring, 9 column, 10 behind, 11 wraps, 12 gap), l the signs to come -/
def q_at (P G : Int → Int) (l : List Int) : Prop := 0 ≤ G 1 ∧ G 1 ≤ G 3 ∧ G 3 < P 14 + P 1 ∧ 0 ≤ G 2 ∧ G 2 ≤ 21 ∧ G 4 = m_cells P (G 1) (G 3) ∧ (G 2 < G 4 → ¬ 128 ≤ p_rows P (G 1) (G 2)) ∧ l = n_ss (p_rows P (G 1)) (G 2) (G 4 - G 2).toNat ++ m_ss P (G 3) (G 1 + 1) (G 3 - G 1).toNat
theorem q_at_c {P G G' : Int → Int} {l : List Int} (h : q_at P G l) (h1 : G' 1 = G 1) (h2 : G' 2 = G 2) (h3 : G' 3 = G 3) (h4 : G' 4 = G 4) : q_at P G' l := by
  unfold q_at; rw [h1, h2, h3, h4]; exact h
theorem c_wf_0 {W : Int} {r : Int → Int} (h : c_wf W r) (hW : 0 < W) : ¬ 128 ≤ r 0 := by
  have := h.1 0 (by decide) hW
  omega
theorem q_begin {P G : Int → Int} {b e : Int} (hw : c_wf (P 0) (p_rows P b)) (hW : 0 < P 0) (h0 : 0 ≤ b) (h1 : b ≤ e) (h2 : e < P 14 + P 1) (g1 : G 1 = b) (g2 : G 2 = 0) (g3 : G 3 = e) (g4 : G 4 = m_cells P b e) : q_at P G (m_line P b e) := by
  unfold q_at
  rw [g1, g2, g3, g4]
  refine ⟨h0, h1, h2, by decide, by decide, rfl, fun _ => c_wf_0 hw hW, ?_⟩
  unfold m_line
  rw [m_ss_s h1, Int.sub_zero, show (e + 1 - (b + 1)).toNat = (e - b).toNat by omega]
  rfl
theorem q_next {P G : Int → Int} {l : List Int} {be : Int} (h : q_at P G l) (hw : c_wf (P 0) (p_rows P (G 1 + 1))) (hW : 0 < P 0) (h0 : G 4 ≤ G 2) (h1 : G 1 < G 3) (hb : be = (if G 1 + 1 = G 3 then 1 else 0)) : q_at P (z_v (z_v (z_v G 1 (G 1 + 1)) 2 0) 4 (m_cl P (G 1 + 1) be)) l := by
  obtain ⟨a1, a2, a3, a4, a5, a6, a7, a8⟩ := h
  unfold q_at
  have e1 : z_v (z_v (z_v G 1 (G 1 + 1)) 2 0) 4 (m_cl P (G 1 + 1) be) 1 = G 1 + 1 := by rw [z_vn (by decide), z_vn (by decide), z_vs]
  have e2 : z_v (z_v (z_v G 1 (G 1 + 1)) 2 0) 4 (m_cl P (G 1 + 1) be) 2 = 0 := by rw [z_vn (by decide), z_vs]
  have e3 : z_v (z_v (z_v G 1 (G 1 + 1)) 2 0) 4 (m_cl P (G 1 + 1) be) 3 = G 3 := by rw [z_vn (by decide), z_vn (by decide), z_vn (by decide)]
  have e4 : z_v (z_v (z_v G 1 (G 1 + 1)) 2 0) 4 (m_cl P (G 1 + 1) be) 4 = m_cells P (G 1 + 1) (G 3) := by rw [z_vs, hb]; exact m_cl_e _ _ _
  rw [e1, e2, e3, e4]
  refine ⟨by omega, by omega, a3, by decide, by decide, rfl, fun _ => c_wf_0 hw hW, ?_⟩
  rw [a8, show (G 4 - G 2).toNat = 0 by omega, show (G 3 - G 1).toNat = (G 3 + 1 - (G 1 + 1)).toNat by omega, m_ss_s (by omega), Int.sub_zero, show (G 3 + 1 - (G 1 + 1 + 1)).toNat = (G 3 - (G 1 + 1)).toNat by omega]
  rfl
theorem q_end {P G : Int → Int} {l : List Int} (h : q_at P G l) (h0 : G 4 ≤ G 2) (h1 : G 3 ≤ G 1) : l = [] := by
  obtain ⟨a1, a2, a3, a4, a5, a6, a7, a8⟩ := h
  rw [a8, show (G 4 - G 2).toNat = 0 by omega, show (G 3 - G 1).toNat = 0 by omega]
  rfl
theorem c_wf_nr {W c : Int} {r : Int → Int} (hw : c_wf W r) (h0 : 0 ≤ c) (h1 : c < W) (hn : ¬ 128 ≤ r c) : 32 ≤ r c ∧ r c ≤ 126 := by
  have := hw.1 c h0 h1
  omega
/-- the sign that is read, and those behind it -/
theorem q_step {P G : Int → Int} {l : List Int} (h : q_at P G l) (hw : c_wf (P 0) (p_rows P (G 1))) (hW0 : 0 < P 0) (hW : P 0 ≤ 20) (hcb : G 4 ≤ P 0) (h0 : G 2 < G 4) :
    ∃ l', l = p_rows P (G 1) (G 2) :: l' ∧ (32 ≤ p_rows P (G 1) (G 2) ∧ p_rows P (G 1) (G 2) ≤ 126) ∧ ∀ G' : Int → Int, G' 1 = G 1 → G' 3 = G 3 → G' 4 = G 4 → G' 2 = G 2 + p_sz (p_rows P (G 1) (G 2)) → q_at P G' l' := by
  obtain ⟨a1, a2, a3, a4, a5, a6, a7, a8⟩ := h
  have hn := a7 h0
  have hb := c_wf_nr hw a4 (by omega) hn
  have hsb := p_sz_b (p_rows P (G 1) (G 2))
  refine ⟨n_ss (p_rows P (G 1)) (G 2 + p_sz (p_rows P (G 1) (G 2))) (G 4 - (G 2 + p_sz (p_rows P (G 1) (G 2)))).toNat ++ m_ss P (G 3) (G 1 + 1) (G 3 - G 1).toNat, ?_, hb, ?_⟩
  · rw [a8, y_ns_sign h0 hn]
    congr 1
    unfold p_sz
    by_cases q : 65 ≤ p_rows P (G 1) (G 2) ∧ p_rows P (G 1) (G 2) ≤ 90
    · rw [if_pos q]
      have hl := (c_wf_left hw a4 (show G 2 < P 0 by omega)).1 q
      by_cases q2 : G 2 + 1 < G 4
      · rw [y_ns_right q2 hl.2, show G 2 + 1 + 1 = G 2 + 2 by omega]
      · rw [show (G 4 - (G 2 + 1)).toNat = 0 by omega, show (G 4 - (G 2 + 2)).toNat = 0 by omega]
        rfl
    · rw [if_neg q]
  · intro G' g1 g3 g4 g2
    unfold q_at
    rw [g1, g2, g3, g4]
    refine ⟨a1, a2, a3, by omega, by omega, a6, fun hc => ?_, rfl⟩
    unfold p_sz at hc ⊢
    by_cases q : 65 ≤ p_rows P (G 1) (G 2) ∧ p_rows P (G 1) (G 2) ≤ 90
    · rw [if_pos q] at hc ⊢
      have hl := (c_wf_left hw a4 (show G 2 < P 0 by omega)).1 q
      intro hr
      have w2 := hw.1 (G 2 + 2) (by omega) (by omega)
      rcases w2 with w2 | w2
      · omega
      · have e : G 2 + 2 - 1 = G 2 + 1 := by omega
        rw [e] at w2; omega
    · rw [if_neg q] at hc ⊢
      intro hr
      have := (c_wf_left hw a4 (show G 2 < P 0 by omega)).2 ⟨by omega, hr⟩
      exact q this
/-- what one reading does -/
def q_nx (P G G' : Int → Int) (x : Int) : List Int → Prop
  | [] => x = 0 ∧ q_at P G' [] ∧ (∀ k, k ≠ 1 → k ≠ 2 → k ≠ 4 → G' k = G k)
  | a :: l => x = 1 ∧ q_at P G' l ∧ (32 ≤ a ∧ a ≤ 126) ∧ G' 3 = G 3 ∧ G' 5 = G 5 ∧ G' 6 = a ∧ G' 7 = G 7 + 1 ∧ G' 11 = (if G 5 < G 10 + p_sz a then 1 else 0) ∧ G' 12 = (if G 5 < G 10 + p_sz a ∧ G 10 < G 5 then 1 else 0) ∧ G' 8 = (if G 5 < G 10 + p_sz a then G 8 + 1 else G 8) ∧ G' 9 = (if G 5 < G 10 + p_sz a then 0 else G 10) ∧ G' 10 = G' 9 + p_sz a
theorem z_Sh_fr {E : z_E} {mi m : z_Mi} {mr r : z_Mr} {s : Nat} {sg : Int → Nat} {P : Int → Int} {R : Int → Int → Int} (h : z_Sh E mi mr s sg P R) (hH : p_hd P) (hf : ∀ c, s ≤ c → c < s + 71 → m c = mi c ∧ r c = mr c) : z_Sh E m r s sg P R := by
  obtain ⟨hc, hd, hr⟩ := h
  obtain ⟨hw0, hw1, hh0, hh1, hf0, hf1, hf2, hr0, hr1, hc0, hc1, hp0, hp1, hk0, hk1, hi0, hi1, hkp, hP⟩ := id hH
  refine ⟨?_, z_Sd_fr hd hk1 (fun c c0 c1 => (hf c c0 c1).1), ?_⟩
  · obtain ⟨t0, t1, t2, t3, t4, q0, q1, q2⟩ := hc
    refine ⟨t0, t1, t2, t3, fun j j0 j1 => ⟨(t4 j j0 j1).1, ?_⟩, ?_, ?_, ?_⟩
    · rw [(hf (s + 3) (by omega) (by omega)).2]; exact (t4 j j0 j1).2
    · rw [(hf s (by omega) (by omega)).2]; exact q0
    · rw [(hf s (by omega) (by omega)).2]; exact q1
    · rw [(hf s (by omega) (by omega)).2]; exact q2
  · obtain ⟨p1, p2, p3⟩ := hr
    refine ⟨fun k k0 k1 => ?_, p2, fun k k0 k1 => ?_⟩
    · obtain ⟨e1, e2, e3, e4, e5, e6, e7⟩ := p1 k k0 k1
      rw [(hf (s + 1) (by omega) (by omega)).2, (hf (sg k) (by omega) (by omega)).1, (hf (sg k + 1) (by omega) (by omega)).1]
      refine ⟨e1, ⟨e2.1, e2.2.1, ?_⟩, e3, e4, e5, e6, e7⟩
      rw [(hf (sg k) (by omega) (by omega)).2]; exact e2.2.2
    · obtain ⟨e1, e2, e3, e4, e5, e6, e7⟩ := p1 k k0 (by omega)
      rw [(hf (sg k) (by omega) (by omega)).1, (hf (sg k + 1) (by omega) (by omega)).1]
      exact p3 k k0 k1
theorem z_Sh_q {E : z_E} {mi : z_Mi} {mr : z_Mr} {s q : Nat} {sg : Int → Nat} {P : Int → Int} {R : Int → Int → Int} (h : z_Sh E mi mr s sg P R) (hH : p_hd P) (hq : q < s ∨ s + 71 ≤ q) (G : Int → Int) : z_Sh E (z_u mi q G) mr s sg P R := z_Sh_fr h hH (fun c c0 c1 => ⟨z_un (by omega), rfl⟩)
theorem z_Sh_r {E : z_E} {mi : z_Mi} {mr : z_Mr} {s q : Nat} {sg : Int → Nat} {P : Int → Int} {R : Int → Int → Int} (h : z_Sh E mi mr s sg P R) (hH : p_hd P) (hq : q < s ∨ s + 71 ≤ q) (f : Int → Option Nat) : z_Sh E mi (z_u mr q f) s sg P R := z_Sh_fr h hH (fun c c0 c1 => ⟨rfl, z_un (by omega)⟩)
/-- lengths -/
theorem n_ss_len (r : Int → Int) : ∀ (n : Nat) (c : Int), (n_ss r c n).length ≤ n := by
  intro n
  induction n with
  | zero => intro c; exact Nat.le_refl _
  | succ n ih =>
    intro c
    have := ih (c + 1)
    show (if 128 ≤ r c then n_ss r (c + 1) n else r c :: n_ss r (c + 1) n).length ≤ n + 1
    split
    · omega
    · rw [List.length_cons]; omega
theorem m_ss_len {P : Int → Int} {e : Int} (h : p_hd P) : ∀ (n : Nat) (k : Int), (m_ss P e k n).length ≤ 20 * n := by
  intro n
  induction n with
  | zero => intro c; exact Nat.le_refl _
  | succ n ih =>
    intro k
    have h1 := ih (k + 1)
    have h2 := n_ss_len (p_row P (m_slot P k)) (m_cells P k e).toNat 0
    have h3 := m_cells_b (k := k) (e := e) h
    have h4 := h.2.1
    show (n_ss (p_row P (m_slot P k)) 0 (m_cells P k e).toNat ++ m_ss P e (k + 1) n).length ≤ 20 * (n + 1)
    rw [List.length_append]; omega
theorem m_line_len {P : Int → Int} {b e : Int} (h : p_hd P) (h0 : 0 ≤ b) (h1 : b ≤ e) (h2 : e < P 14 + P 1) : (m_line P b e).length ≤ 640 := by
  have h3 := m_ss_len (e := e) h (e + 1 - b).toNat b
  obtain ⟨hw0, hw1, hh0, hh1, hf0, hf1, hf2, hr0, hr1, hc0, hc1, hp0, hp1, hk0, hk1, hi0, hi1, hkp, hP⟩ := id h
  unfold m_line; omega
/-- where the sign with some number comes -/
def y_at (W : Int) : List Int → Nat → Int × Int → Int × Int
  | [], _, p => p
  | a :: _, 0, p => if W < p.2 + p_sz a then (p.1 + 1, 0) else p
  | a :: l, k + 1, p => y_at W l k (if W < p.2 + p_sz a then (p.1 + 1, p_sz a) else (p.1, p.2 + p_sz a))
