/-! pages that agree on a sheet's numbers have the same lines -/
section ZAG
variable {P Q : Int → Int} {k e b n : Int}
theorem ag_slot (h : ∀ k, 0 ≤ k → k < 719 → Q k = P k) (k : Int) : m_slot Q k = m_slot P k := by
  unfold m_slot; rw [h 14 (by decide) (by decide)]
theorem ag_row (hH : p_hd P) (h : ∀ k, 0 ≤ k → k < 719 → Q k = P k) (k0 : 0 ≤ k) (k1 : k < P 14 + P 1) {c : Int} (c0 : 0 ≤ c) (c1 : c < 22) : p_rows Q k c = p_rows P k c := by
  obtain ⟨pw0, pw1, ph0, ph1, pf0, pf1, pf2, pr0, pr1, pc0, pc1, pp0, pp1, pk0, pk1, pi0, pi1, pkp, pP⟩ := id hH
  have hs := m_slot_b hH k0 (by omega)
  show Q (15 + 22 * m_slot Q k + c) = P (15 + 22 * m_slot P k + c)
  rw [ag_slot h, h _ (by omega) (by omega)]
theorem ag_ends (hH : p_hd P) (h : ∀ k, 0 ≤ k → k < 719 → Q k = P k) (k0 : 0 ≤ k) (k1 : k < P 14 + P 1) : m_ends Q n k ↔ m_ends P n k := by
  have e : Q (15 + 22 * m_slot Q k + 20) = P (15 + 22 * m_slot P k + 20) := ag_row hH h k0 k1 (c := 20) (by decide) (by decide)
  show (n - 1 ≤ k ∨ ¬ Q (15 + 22 * m_slot Q k + 20) = 1) ↔ (n - 1 ≤ k ∨ ¬ P (15 + 22 * m_slot P k + 20) = 1)
  rw [e]
theorem ag_lend (hH : p_hd P) (h : ∀ k, 0 ≤ k → k < 719 → Q k = P k) (k0 : 0 ≤ k) (kn : k < n) (hn : n ≤ P 14 + P 1) : m_lend Q n k = m_lend P n k := by
  obtain ⟨g1, g2, g3, g4⟩ := m_lend_spec (P := P) kn
  exact m_lend_eq g1 g2 ((ag_ends hH h (by omega) (by omega)).mpr g3) (fun j j0 j1 => fun x => g4 j j0 j1 ((ag_ends hH h (by omega) (by omega)).mp x))
theorem ag_cells (hH : p_hd P) (h : ∀ k, 0 ≤ k → k < 719 → Q k = P k) (k0 : 0 ≤ k) (k1 : k < P 14 + P 1) : m_cells Q k e = m_cells P k e := by
  have hW := p_hd_W hH
  have e0 := h 0 (by decide) (by decide)
  have e21 : Q (15 + 22 * m_slot Q k + 21) = P (15 + 22 * m_slot P k + 21) := ag_row hH h k0 k1 (c := 21) (by decide) (by decide)
  have eu : n_used (p_rows Q k) (P 0).toNat = n_used (p_rows P k) (P 0).toNat := n_used_c (fun c c0 c1 => ag_row hH h k0 k1 c0 (by omega))
  unfold m_cells
  rw [e21, e0]
  split
  · unfold m_used; rw [e0]; exact eu
  · rfl
theorem ag_ss (hH : p_hd P) (h : ∀ k, 0 ≤ k → k < 719 → Q k = P k) : ∀ (n : Nat) (k : Int), 0 ≤ k → k + n ≤ P 14 + P 1 → m_ss Q e k n = m_ss P e k n := by
  have hW := p_hd_W hH
  intro n
  induction n with
  | zero => intro k _ _; rfl
  | succ n ih =>
    intro k k0 k1
    show n_ss (p_row Q (m_slot Q k)) 0 (m_cells Q k e).toNat ++ m_ss Q e (k + 1) n = n_ss (p_row P (m_slot P k)) 0 (m_cells P k e).toNat ++ m_ss P e (k + 1) n
    have hc := m_cells_b (k := k) (e := e) hH
    rw [ih (k + 1) (by omega) (by omega), ag_cells hH h k0 (by omega)]
    congr 1
    exact n_ss_c _ _ (fun j j0 j1 => ag_row hH h k0 (by omega) j0 (by omega))
theorem ag_line (hH : p_hd P) (h : ∀ k, 0 ≤ k → k < 719 → Q k = P k) (b0 : 0 ≤ b) (he : e < P 14 + P 1) (hb : b ≤ e + 1) : m_line Q b e = m_line P b e := ag_ss hH h _ _ b0 (by omega)
theorem ag_ll (hH : p_hd P) (h : ∀ k, 0 ≤ k → k < 719 → Q k = P k) (hn : n ≤ P 14 + P 1) : ∀ (f : Nat) (k : Int), 0 ≤ k → n - k ≤ f → y_ll Q n k = y_ll P n k := by
  intro f
  induction f with
  | zero => intro k k0 kf; rw [y_ll_e (show n ≤ k by omega), y_ll_e (show n ≤ k by omega)]
  | succ f ih =>
    intro k k0 kf
    by_cases q : k < n
    · have g := m_lend_spec (P := P) q
      rw [y_ll_s q, y_ll_s q, ag_lend hH h k0 q hn, ag_line hH h k0 (by omega) (by omega), ih _ (by omega) (by omega)]
    · rw [y_ll_e (show n ≤ k by omega), y_ll_e (show n ≤ k by omega)]
theorem ag_lastk (h : ∀ k, 0 ≤ k → k < 719 → Q k = P k) : ∀ n : Nat, n ≤ 3 → m_lastk Q n = m_lastk P n := by
  intro n
  induction n with
  | zero => intro _; exact h 4 (by decide) (by decide)
  | succ n ih =>
    intro hn
    show (if m_lastk Q n < Q (8 + 2 * (n : Nat)) then Q (8 + 2 * (n : Nat)) else m_lastk Q n) = (if m_lastk P n < P (8 + 2 * (n : Nat)) then P (8 + 2 * (n : Nat)) else m_lastk P n)
    rw [ih (by omega), h _ (by omega) (by omega)]
theorem ag_lastr (hH : p_hd P) (h : ∀ k, 0 ≤ k → k < 719 → Q k = P k) {l : Int} : ∀ n : Nat, n ≤ 8 → m_lastr Q l n = m_lastr P l n := by
  have hW := p_hd_W hH
  intro n
  induction n with
  | zero => intro _; rfl
  | succ n ih =>
    intro hn
    have ef : m_fill Q (24 + (n : Nat)) = m_fill P (24 + (n : Nat)) := by
      unfold m_fill
      rw [h 0 (by decide) (by decide)]
      exact n_cnt_c (fun c c0 c1 => by rw [h _ (by omega) (by omega)])
    show (if m_lastr Q l n < (n : Nat) ∧ 0 < m_fill Q (24 + (n : Nat)) then ((n : Nat) : Int) else m_lastr Q l n) = (if m_lastr P l n < (n : Nat) ∧ 0 < m_fill P (24 + (n : Nat)) then ((n : Nat) : Int) else m_lastr P l n)
    rw [ih (by omega), ef]
theorem ag_count (hH : p_hd P) (h : ∀ k, 0 ≤ k → k < 719 → Q k = P k) : m_count Q = m_count P := by
  obtain ⟨pw0, pw1, ph0, ph1, pf0, pf1, pf2, pr0, pr1, pc0, pc1, pp0, pp1, pk0, pk1, pi0, pi1, pkp, pP⟩ := id hH
  unfold m_count m_last
  rw [h 14 (by decide) (by decide), h 7 (by decide) (by decide), h 1 (by decide) (by decide), ag_lastk h _ (by omega), ag_lastr hH h _ (by omega)]
theorem ag_lines (hH : p_hd P) (h : ∀ k, 0 ≤ k → k < 719 → Q k = P k) : y_ll Q (m_count Q) 0 = y_ll P (m_count P) 0 := by
  have hc := m_count_b hH
  rw [ag_count hH h]
  exact ag_ll hH h hc.2.1 (m_count P).toNat 0 (Int.le_refl _) (by omega)
theorem ag_many (hH : p_hd P) (h : ∀ k, 0 ≤ k → k < 719 → Q k = P k) (w : Int) : y_many Q w = y_many P w := by
  unfold y_many; rw [ag_lines hH h]
theorem y_new_ll : y_ll p_new (m_count p_new) 0 = [[]] := by decide +kernel
theorem y_new_many (w : Int) : y_many p_new w = 1 := by
  unfold y_many; rw [y_new_ll]; rfl
theorem gg_new : p_G p_new := by
  have e14 : p_new 14 = 0 := (p_new_lo (by decide)).trans (by decide)
  have e1 : p_new 1 = 4 := (p_new_lo (by decide)).trans (by decide)
  refine ⟨fun s hs => ?_, ?_⟩
  · unfold gg_in at hs
    exact gg_0 ((p_new_row (by omega) (by omega) (by decide) (by decide)).trans rfl)
  · rw [e1]; exact (p_new_row (by decide) (by decide) (by decide) (by decide)).trans rfl
end ZAG
/-! resize, as the law sees it -/
def f_rz (w bs : Int) : Int → Int := z_v (z_v (z_v (fun _ => 0) 8 w) 10 1) 9 bs
def r_ok (w h : Int) : Prop := 4 ≤ w ∧ w ≤ 20 ∧ 2 ≤ h ∧ h ≤ 8
def r_to (E : z_E) (o : Nat) (P : Int → Int) (w h : Int) (m : z_Mi) (r : z_Mr) : Prop := ∃ (Q : Int → Int) (n' nx' : Int), z_X E o m r Q n' nx' ∧ p_G Q ∧ (Q 0 = w ∧ Q 1 = h ∧ Q 2 = 0 ∧ Q 3 = h - 1) ∧ (y_many P w ≤ 24 + h → t_cut (y_ll Q (m_count Q) 0) = t_cut (y_ll P (m_count P) 0))
theorem k_X4_resize {E : z_E} {mi : z_Mi} {mr : z_Mr} {o : Nat} {P : Int → Int} {n nx w h : Int} (hX : z_X E o mi mr P n nx) (hz1 : z_R w) (hz2 : z_R h) : z_mi M_X4_resize E [zo o, zi w, zi h] mi mr (fun x m r => (r_ok w h → x = y_many P w ∧ r_to E o P w h m r) ∧ (¬ r_ok w h → x = -1 ∧ m = mi ∧ r = mr)) := by
  have hH : p_hd P := hX.2.2.1
  have hn := hX.2.1.2.2.2.2.1
  have e8 : ∀ bs, f_rz w bs 8 = w := fun bs => (z_vn (by decide)).trans ((z_vn (by decide)).trans (z_vs _ _ _))
  have e10 : ∀ bs, f_rz w bs 10 = 1 := fun bs => (z_vn (by decide)).trans (z_vs _ _ _)
  have e9 : ∀ bs, f_rz w bs 9 = bs := fun bs => z_vs _ _ _
  have hR : p_hd (p_rec n P) := p_hd_rec hH hn
  have ha : ∀ k, 0 ≤ k → k < 719 → p_rec n P k = P k := fun k _ k1 => p_rec_hd hn k1
  refine z_mi_w (c_X4_resize hX hz1 hz2 (F := f_rz w (y_base (p_rec n P) w h)) (X := fun _ => 0) (e8 _) (e10 _) (e9 _)) (fun x m r hq => ⟨fun hok => ?_, hq.2⟩)
  obtain ⟨hx, hz⟩ := hq.1 hok
  obtain ⟨w0, w1, h0, h1⟩ := hok
  have hy := y_Q_ok (P := p_rec n P) (L := fun _ => 0) (M := fun _ => 0) (X := fun _ => 0) (F0 := f_rz w (y_base (p_rec n P) w h)) (U0 := fun _ => 0) (V0 := fun _ => 0) (F1 := f_rz w (y_base (p_rec n P) w h)) (X1 := fun _ => 0) (U1 := fun _ => 0) (V1 := fun _ => 0) (B := fun _ => 0) hR w0 w1 h0 h1 (e8 _) (e8 _) (e9 _) (e10 _) rfl rfl rfl (F := f_rz w (y_base (p_rec n P) w h)) (e8 _) (e9 _) (e10 _)
  obtain ⟨g1, g2, g3⟩ := hy
  obtain ⟨⟨nx', hX'⟩, -⟩ := hz _ g1 g2 g3
  have hG' := gg_pour hR ⟨w0, w1⟩ ⟨h0, h1⟩ (e8 _) (e10 _) (e9 _) g1 g2
  refine ⟨by rw [hx, ag_many hH ha], _, _, nx', hX', hG', ⟨g1.1.1, g1.1.2.1, g1.1.2.2.1, g1.1.2.2.2.1⟩, fun hm => ?_⟩
  rw [gg_text hR ⟨w0, w1⟩ ⟨h0, h1⟩ (e8 _) (e10 _) (e9 _) g1 g2 hG' (by rw [ag_many hH ha]; exact hm), ag_lines hH ha]
