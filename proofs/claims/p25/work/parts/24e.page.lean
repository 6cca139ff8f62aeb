/-! the page after the pouring: its rules; its lines are those before -/
theorem x_tx_bx {P F X : Int → Int} {w n : Int} (hw : 4 ≤ w ∧ w ≤ 20) (h8 : F 8 = w) (h10 : F 10 = 1) (h9 : F 9 = 0) (hm : (y_bc P w n n.toNat).2 ≤ 32) : ∀ (f : Nat) (k : Int) (L : List (List Int)), 0 ≤ k → k ≤ n → n - k ≤ f → (y_bc P w n k.toNat).1 = k → x_tx w (y_bx P w n F (y_fr X 704) k.toNat) L → x_tx w (y_bx P w n F (y_fr X 704) n.toNat) (L ++ y_ll P n k) := by
  intro f
  induction f with
  | zero =>
    intro k L k0 k1 kf hk ht
    have e : k = n := by omega
    subst e
    rw [y_ll_e (Int.le_refl _), List.append_nil]
    exact ht
  | succ f ih =>
    intro k L k0 k1 kf hk ht
    by_cases q : k < n
    · have g := m_lend_spec (P := P) q
      have hl := y_bc_line (W := w) k0 q hk
      have hb := y_bx_line (F := F) (X := y_fr X 704) (W := w) k0 q hk
      have hr := y_bx_r (P := P) (n := n) (X := y_fr X 704) h8 (m_lend P n k + 1).toNat
      have hmono := y_bc_mono (P := P) (W := w) (n := n) (a := (m_lend P n k + 1).toNat) (n.toNat - (m_lend P n k + 1).toNat)
      rw [show (m_lend P n k + 1).toNat + (n.toNat - (m_lend P n k + 1).toNat) = n.toNat by omega] at hmono
      rw [hb] at hr
      have h2 := x_tx_ln hw (x_lb_bx (P := P) (X := X) (n := n) hw h8 h10 (by omega) k.toNat) ((y_bx_c (by decide) (by decide) k.toNat).trans h9) (m_line_lt (P := P) k (m_lend P n k)) ht (by omega)
      rw [← hb] at h2
      have h3 := ih (m_lend P n k + 1) _ (by omega) (by omega) (by omega) (by rw [hl]) h2
      rw [y_ll_s q]
      rw [List.append_assoc] at h3
      exact h3
    · have e : k = n := by omega
      subst e
      rw [y_ll_e (Int.le_refl _), List.append_nil]
      exact ht
/-- rows that don't count are blank -/
theorem m_lastr_bl {P : Int → Int} {l : Int} : ∀ (n : Nat) (r : Int), m_lastr P l n < r → 0 ≤ r → r < n → ¬ 0 < m_fill P (24 + r) := by
  intro n
  induction n with
  | zero => intro r _ h0 h1; omega
  | succ n ih =>
    intro r h h0 h1
    have h : (if m_lastr P l n < (n : Nat) ∧ 0 < m_fill P (24 + (n : Nat)) then ((n : Nat) : Int) else m_lastr P l n) < r := h
    by_cases q : m_lastr P l n < (n : Nat) ∧ 0 < m_fill P (24 + (n : Nat))
    · rw [if_pos q] at h; omega
    · rw [if_neg q] at h
      by_cases q2 : r = (n : Nat)
      · rw [q2] at h ⊢; exact fun x => q ⟨h, x⟩
      · exact ih r h h0 (by omega)
theorem m_count_bl {P : Int → Int} (hH : p_hd P) {k c : Int} (h0 : m_count P ≤ k) (h1 : k < P 14 + P 1) (c0 : 0 ≤ c) (c1 : c < P 0) : p_rows P k c = 32 := by
  obtain ⟨pw0, pw1, ph0, ph1, pf0, pf1, pf2, pr0, pr1, pc0, pc1, pp0, pp1, pk0, pk1, pi0, pi1, pkp, pP⟩ := id hH
  have hl := m_last_b hH
  have hc : m_count P = P 14 + m_last P + 1 := rfl
  have hb := m_lastr_bl (P := P) (l := m_lastk P (P 7).toNat) (P 1).toNat (k - P 14) (by have e : m_last P = m_lastr P (m_lastk P (P 7).toNat) (P 1).toNat := rfl; rw [← e]; omega) (by omega) (by omega)
  have hf := (p_rows_fill (P := P) (q := k - P 14) (by omega))
  rw [show P 14 + (k - P 14) = k by omega] at hf
  have hu : ¬ 0 < n_used (p_rows P k) (P 0).toNat := fun x => hb (hf.mp x)
  exact n_used_bl _ (P 0).toNat c (by omega) (by omega)
section ZPG
variable {P Q F X : Int → Int} {w h : Int}
theorem y_final (hH : p_hd P) (h8 : F 8 = w) : (y_bx P w (m_count P) F (y_fr X 704) (m_count P).toNat).1 11 = y_many P w := by
  rw [y_bx_r h8, y_bc_many w hH]
theorem gg_pour (hH : p_hd P) (hw : 4 ≤ w ∧ w ≤ 20) (hh : 2 ≤ h ∧ h ≤ 8) (h8 : F 8 = w) (h10 : F 10 = 1) (h9 : F 9 = y_base P w h) (hQ : g_pg P Q w h (-(y_base P w h)) (y_top P w h - y_base P w h) (y_bx P w (m_count P) F (y_fr X 704) (m_count P).toNat).2) (hQh : p_hd Q) : p_G Q := by
  have ef := y_final (F := F) (X := X) hH h8
  have hbt : 0 ≤ y_base P w h ∧ y_top P w h - y_base P w h ≤ 24 ∧ 0 ≤ y_top P w h - y_base P w h ∧ ((h < y_many P w ∧ y_top P w h = y_many P w - h) ∨ (y_many P w ≤ h ∧ y_top P w h = 0 ∧ y_base P w h = 0)) := by
    unfold y_base y_top; split <;> split <;> omega
  have hlb := x_lb_bx (P := P) (X := X) (n := m_count P) hw h8 h10 (by omega) (m_count P).toNat
  have e9 : (y_bx P w (m_count P) F (y_fr X 704) (m_count P).toNat).1 9 = y_base P w h := (y_bx_c (by decide) (by decide) _).trans h9
  generalize y_bx P w (m_count P) F (y_fr X 704) (m_count P).toNat = q at ef hlb hQ e9
  obtain ⟨-, -, hf, hg, hlast⟩ := hlb
  obtain ⟨⟨q0, q1, q2, q3, q7, q14⟩, -, -, hr⟩ := hQ
  rw [ef, e9] at hf hg hlast
  generalize y_base P w h = base at *
  generalize y_top P w h = top at *
  generalize y_many P w = many at *
  refine gg_of hQh (fun k k0 k1 => ?_) ?_
  · rw [q14, q1] at k1
    rw [q0]
    by_cases e : k < many - base
    · exact gg_c22 (hg k k0 e (by omega)) (by omega) (fun c c0 c1 => hr k c k0 k1 c0 c1)
    · refine gg_0 ?_
      rw [hr k 21 k0 k1 (by decide) (by decide)]
      by_cases e2 : k = many - base
      · rw [e2, hf.2 (by omega) (by omega) 21 (by decide) (by decide) (by decide)]; rfl
      · rw [hf.1 k 21 (by omega) k0 (by omega) (by decide) (by decide)]; rfl
  · rw [q14, q1, hr _ 20 (by omega) (by omega) (by decide) (by decide)]
    by_cases e : h ≤ many
    · have := hlast (by omega) (by omega)
      rw [show top - base + h - 1 = many - base - 1 by omega]; exact this
    · by_cases e2 : h - 1 = many
      · rw [show top - base + h - 1 = many - base by omega, hf.2 (by omega) (by omega) 20 (by decide) (by decide) (by decide)]; rfl
      · rw [hf.1 _ 20 (by omega) (by omega) (by omega) (by decide) (by decide)]; rfl
theorem gg_text (hH : p_hd P) (hw : 4 ≤ w ∧ w ≤ 20) (hh : 2 ≤ h ∧ h ≤ 8) (h8 : F 8 = w) (h10 : F 10 = 1) (h9 : F 9 = y_base P w h) (hQ : g_pg P Q w h (-(y_base P w h)) (y_top P w h - y_base P w h) (y_bx P w (m_count P) F (y_fr X 704) (m_count P).toNat).2) (hQh : p_hd Q) (hG : p_G Q) (hm : y_many P w ≤ 24 + h) :
    t_cut (y_ll Q (m_count Q) 0) = t_cut (y_ll P (m_count P) 0) := by
  have hmc := y_bc_many (P := P) w hH
  have hc := m_count_b hH
  have hb0 : y_base P w h = 0 := by unfold y_base y_top; split <;> split <;> omega
  have htop : (h < y_many P w ∧ y_top P w h = y_many P w - h) ∨ (y_many P w ≤ h ∧ y_top P w h = 0) := by unfold y_top; split <;> omega
  have ef := y_final (F := F) (X := X) hH h8
  rw [hb0] at hQ h9
  have hlb := x_lb_bx (P := P) (X := X) (n := m_count P) hw h8 h10 (by omega) (m_count P).toNat
  have htx := x_tx_bx (P := P) (F := F) (X := X) (n := m_count P) hw h8 h10 h9 (by omega) (m_count P).toNat 0 [] (Int.le_refl _) (by omega) (by omega) rfl (by
    show x_tx w (z_v F 11 0, y_fr X 704) []
    unfold x_tx
    dsimp only
    rw [z_vs]
    exact ⟨Int.le_refl _, [], trivial, fun t => rfl⟩)
  have e9 : (y_bx P w (m_count P) F (y_fr X 704) (m_count P).toNat).1 9 = 0 := (y_bx_c (by decide) (by decide) _).trans h9
  generalize y_bx P w (m_count P) F (y_fr X 704) (m_count P).toNat = q at ef hlb hQ e9 htx
  obtain ⟨-, -, hf, hg, hlast⟩ := hlb
  obtain ⟨⟨q0, q1, q2, q3, q7, q14⟩, -, -, hr⟩ := hQ
  obtain ⟨m0, L', hp, hall⟩ := htx
  rw [ef] at hall m0
  rw [ef, e9] at hf
  rw [List.nil_append] at hp
  have hcq := m_count_b hQh
  rw [q14, q1] at hcq
  generalize y_top P w h = top at *
  generalize y_many P w = many at *
  -- all rows of the new page
  have e1 : t_cut (l_all (w_ls w (p_rows Q) (top + h).toNat 0)) = t_cut (y_ll P (m_count P) 0) := by
    rw [w_ls_c (R := x_row q.2) (by omega) _ _ (fun k c k0 k1 c0 c1 => hr k c k0 (by omega) c0 c1)]
    rw [show (top + h).toNat = many.toNat + (top + h - many).toNat by omega, w_ls_add, hall]
    have hbl : l_bl (w_ls w (x_row q.2) (top + h - many).toNat (0 + (many.toNat : Int))) := w_ls_bl (by omega) (by omega) _ _ (fun k c k0 k1 c0 c1 => by
      have e : x_row q.2 k c = r_blank c := by
        by_cases e2 : k = many
        · rw [e2]
          have := hf.2 (by omega) (by omega) c c0 c0 (by omega)
          rw [Int.sub_zero] at this; exact this
        · exact hf.1 k c (by omega) (by omega) (by omega) c0 (by omega)
      rw [e, r_blank_x, if_neg (by omega)])
    have := t_cut_app (A := L') (B := l_all (w_ls w (x_row q.2) (top + h - many).toNat (0 + (many.toNat : Int)))) (B' := []) (l_all_bl hbl).1
    rw [this, List.append_nil]
    exact t_pad_cut hp
  have e2 := y_ll_text hQh hG (n := m_count Q) (by rw [q14, q1]; omega) (m_count Q).toNat 0 (Int.le_refl _) (by omega)
  rw [e2, ← e1, q0, Int.sub_zero]
  have e3 : (top + h).toNat = (m_count Q).toNat + (top + h - m_count Q).toNat := by omega
  rw [e3, w_ls_add]
  have hbl : l_bl (w_ls w (p_rows Q) (top + h - m_count Q).toNat (0 + ((m_count Q).toNat : Int))) := w_ls_bl (by omega) (by omega) _ _ (fun k c k0 k1 c0 c1 => m_count_bl hQh (by omega) (by rw [q14, q1]; omega) c0 (by rw [q0]; exact c1))
  exact (l_all_app hbl _).symm
end ZPG
