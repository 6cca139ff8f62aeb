/-! what the rows that were poured say -/
section ZCO
variable {w a i0 : Int} {p : (Int → Int) × (Int → Int)} {F X : Int → Int} {l c : List Int}
theorem n_ss_put {r : Int → Int} {b : Int} (ha : ¬ 128 ≤ a) (h : r b = a) (h2 : 65 ≤ a ∧ a ≤ 90 → r (b + 1) = a + 128) : n_ss r b (p_sz a).toNat = [a] := by
  by_cases q : 65 ≤ a ∧ a ≤ 90
  · have e : p_sz a = 2 := if_pos q
    rw [e]
    show (if 128 ≤ r b then n_ss r (b + 1) 1 else r b :: n_ss r (b + 1) 1) = _
    rw [h, if_neg ha]
    show a :: (if 128 ≤ r (b + 1) then [] else [r (b + 1)]) = _
    rw [h2 q, if_pos (by omega)]
  · have e : p_sz a = 1 := if_neg q
    rw [e]
    show (if 128 ≤ r b then [] else [r b]) = _
    rw [h, if_neg ha]
theorem y_px_mono : ∀ (l : List Int) (p : (Int → Int) × (Int → Int)), p.1 8 = w → p.1 11 ≤ (y_px l p).1 11 := by
  intro l p h
  have e := congrArg Prod.fst (y_px_rc w l p h)
  dsimp only at e
  rw [e]
  exact (y_rcl_b w l (p.1 11, p.1 12)).1
def x_co (w i0 : Int) (p : (Int → Int) × (Int → Int)) (c : List Int) : Prop := i0 ≤ p.1 11 ∧ (∀ k, i0 ≤ k → k < p.1 11 → x_row p.2 k 20 = 1) ∧ w_cat w (x_row p.2) (p.1 11 - i0).toNat i0 ++ n_ss (x_row p.2 (p.1 11)) 0 (p.1 12).toNat = c
theorem x_co_step (hw : 4 ≤ w ∧ w ≤ 20) (h : x_ok w p) (h9 : p.1 9 = 0) (hi : 0 ≤ i0) (ha : ¬ 128 ≤ a) (hc : x_co w i0 p c) (h32 : y_F a p.1 11 < 32) : x_co w i0 (y_adv a p.1, y_X a p.1 p.2) (c ++ [a]) := by
  have hat := fun k j k0 j0 j1 => x_X_at (a := a) hw h (k := k) (j := j) k0 j0 j1
  obtain ⟨h8, h10, ⟨c0, c1⟩, hf, hg⟩ := h
  obtain ⟨i1, hr, hcat⟩ := hc
  have hs := p_sz_b a
  have e11 : y_adv a p.1 11 = y_F a p.1 11 := y_adv_r a p.1
  have e12 : y_adv a p.1 12 = y_F a p.1 12 + p_sz a := y_adv_w a p.1
  unfold x_co
  dsimp only
  rw [e11, e12]
  rw [h9, Int.sub_zero] at hf
  simp only [h9, Int.sub_zero] at hat
  by_cases q : w < p.1 12 + p_sz a
  · have f11 : y_F a p.1 11 = p.1 11 + 1 := by unfold y_F; rw [if_pos (by omega), z_vn (by decide), z_vs]
    have f12 : y_F a p.1 12 = 0 := by unfold y_F; rw [if_pos (by omega), z_vs]
    rw [f11] at h32
    rw [f11, f12] at hat ⊢
    -- rows further up, the row that goes on, the new row
    have up : ∀ k j, 0 ≤ k → k < p.1 11 → 0 ≤ j → j < 22 → x_row (y_X a p.1 p.2) k j = x_row p.2 k j := fun k j k0 k1 j0 j1 => by
      rw [hat k j k0 j0 j1, if_neg (by omega), if_neg (by omega), if_neg (by omega)]
    have on : ∀ j, 0 ≤ j → j < 22 → x_row (y_X a p.1 p.2) (p.1 11) j = z_v (z_v (x_row p.2 (p.1 11)) 20 1) 21 (if p.1 12 < w then 1 else 0) j := fun j j0 j1 => by
      rw [hat _ j (by omega) j0 j1, if_neg (by omega), if_neg (by omega), if_pos ⟨q, rfl⟩]
    refine ⟨by omega, fun k k0 k1 => ?_, ?_⟩
    · by_cases e : k = p.1 11
      · rw [e, on 20 (by decide) (by decide), z_vn (by decide), z_vs]
      · rw [up k 20 (by omega) (by omega) (by decide) (by decide)]; exact hr k k0 (by omega)
    · rw [show (p.1 11 + 1 - i0).toNat = (p.1 11 - i0).toNat + 1 by omega, w_cat_s, show i0 + ((p.1 11 - i0).toNat : Int) = p.1 11 by omega]
      rw [w_cat_c (R := x_row p.2) (by omega) _ _ (fun k j k0 k1 j0 j1 => up k j (by omega) (by omega) j0 j1)]
      have er : (w_row w (x_row (y_X a p.1 p.2) (p.1 11))).1 = n_ss (x_row p.2 (p.1 11)) 0 (p.1 12).toNat := by
        unfold w_row
        dsimp only
        rw [on 21 (by decide) (by decide), z_vs]
        have hb : (if (if p.1 12 < w then (1 : Int) else 0) = 1 then w - 1 else w) = p.1 12 := by
          by_cases q3 : p.1 12 < w
          · rw [if_pos q3, if_pos rfl]; omega
          · rw [if_neg q3, if_neg (by decide)]; omega
        rw [hb]
        exact n_ss_c _ _ (fun j j0 j1 => by rw [on j j0 (by omega), z_vn (by omega), z_vn (by omega)])
      rw [er, hcat]
      congr 1
      rw [Int.zero_add]
      refine n_ss_put ha ?_ ?_
      · rw [hat _ 0 (by omega) (by decide) (by decide), if_pos ⟨rfl, rfl⟩]
      · intro hq
        rw [hat _ (0 + 1) (by omega) (by decide) (by decide), if_neg (by omega), if_pos ⟨⟨rfl, rfl⟩, hq⟩]
  · have f11 : y_F a p.1 11 = p.1 11 := by unfold y_F; rw [if_neg (by omega)]
    have f12 : y_F a p.1 12 = p.1 12 := by unfold y_F; rw [if_neg (by omega)]
    rw [f11] at h32
    rw [f11, f12] at hat ⊢
    have up : ∀ k j, 0 ≤ k → k < p.1 11 → 0 ≤ j → j < 22 → x_row (y_X a p.1 p.2) k j = x_row p.2 k j := fun k j k0 k1 j0 j1 => by
      rw [hat k j k0 j0 j1, if_neg (by omega), if_neg (by omega), if_neg (by omega)]
    refine ⟨i1, fun k k0 k1 => ?_, ?_⟩
    · rw [up k 20 (by omega) k1 (by decide) (by decide)]; exact hr k k0 k1
    · rw [w_cat_c (R := x_row p.2) (by omega) _ _ (fun k j k0 k1 j0 j1 => up k j (by omega) (by omega) j0 j1)]
      rw [show (p.1 12 + p_sz a).toNat = (p.1 12).toNat + (p_sz a).toNat by omega, n_ss_add, ← List.append_assoc]
      rw [n_ss_c (r := x_row p.2 (p.1 11)) _ _ (fun j j0 j1 => by rw [hat _ j (by omega) j0 (by omega), if_neg (by omega), if_neg (by omega), if_neg (by omega)]), hcat]
      congr 1
      rw [show (0 : Int) + ((p.1 12).toNat : Int) = p.1 12 by omega]
      refine n_ss_put ha ?_ ?_
      · rw [hat _ _ (by omega) c0 (by omega), if_pos ⟨rfl, rfl⟩]
      · intro hq
        rw [hat _ _ (by omega) (by omega) (by omega), if_neg (by omega), if_pos ⟨⟨rfl, rfl⟩, hq⟩]
theorem x_co_px (hw : 4 ≤ w ∧ w ≤ 20) (hi : 0 ≤ i0) : ∀ (l : List Int) (p : (Int → Int) × (Int → Int)) (c : List Int), x_ok w p → p.1 9 = 0 → (∀ a ∈ l, ¬ 128 ≤ a) → x_co w i0 p c → (y_px l p).1 11 < 32 → x_co w i0 (y_px l p) (c ++ l) := by
  intro l
  induction l with
  | nil => intro p c _ _ _ h _; rw [List.append_nil]; exact h
  | cons a l ih =>
    intro p c h h9 hl hc h32
    have h1 := x_ok_step (a := a) hw h
    have h32 : (y_px l (y_adv a p.1, y_X a p.1 p.2)).1 11 < 32 := h32
    have hm := y_px_mono l (y_adv a p.1, y_X a p.1 p.2) h1.1
    have e11 : y_adv a p.1 11 = y_F a p.1 11 := y_adv_r a p.1
    have hm : y_adv a p.1 11 ≤ (y_px l (y_adv a p.1, y_X a p.1 p.2)).1 11 := hm
    have h2 := x_co_step hw h h9 hi (hl a List.mem_cons_self) hc (by omega)
    have h3 := ih _ _ h1 ((y_adv_c a p.1 (by decide) (by decide)).trans h9) (fun b hb => hl b (List.mem_cons_of_mem _ hb)) h2 h32
    rw [List.append_assoc] at h3
    exact h3
/-- rows ahead of the one that is written stay -/
theorem x_px_up (hw : 4 ≤ w ∧ w ≤ 20) : ∀ (l : List Int) (p : (Int → Int) × (Int → Int)), x_ok w p → ∀ k j, 0 ≤ k → k < p.1 11 - p.1 9 → 0 ≤ j → j < 22 → x_row (y_px l p).2 k j = x_row p.2 k j := by
  intro l
  induction l with
  | nil => intro p _ k j _ _ _ _; rfl
  | cons a l ih =>
    intro p h k j k0 k1 j0 j1
    have h1 := x_ok_step (a := a) hw h
    have e11 : y_adv a p.1 11 = y_F a p.1 11 := y_adv_r a p.1
    have e9 : y_adv a p.1 9 = p.1 9 := y_adv_c a p.1 (by decide) (by decide)
    have f11 : p.1 11 ≤ y_F a p.1 11 := by
      unfold y_F; split
      · rw [z_vn (by decide), z_vs]; omega
      · exact Int.le_refl _
    have hk : k < y_adv a p.1 11 - y_adv a p.1 9 := by omega
    have h2 : x_row (y_px (a :: l) p).2 k j = x_row (y_X a p.1 p.2) k j := ih (y_adv a p.1, y_X a p.1 p.2) h1 k j k0 hk j0 j1
    rw [h2, x_X_at hw h k0 j0 j1, if_neg (by omega), if_neg (by omega), if_neg (by omega)]
/-- the lines that the rows poured so far are -/
def x_tx (w : Int) (p : (Int → Int) × (Int → Int)) (L : List (List Int)) : Prop := 0 ≤ p.1 11 ∧ ∃ L', t_pad L' L ∧ ∀ t, l_all (w_ls w (x_row p.2) (p.1 11).toNat 0 ++ t) = L' ++ l_all t
theorem x_tx_ln {L : List (List Int)} (hw : 4 ≤ w ∧ w ≤ 20) (h : x_lb w p) (h9 : p.1 9 = 0) (hl : ∀ a ∈ l, ¬ 128 ≤ a) (ht : x_tx w p L) (h32 : (y_ln l p).1 11 ≤ 32) : x_tx w (y_ln l p) (L ++ [l]) := by
  obtain ⟨p0, L', hp, hall⟩ := ht
  have ho := x_lb_ok hw h
  have e9 : z_v p.1 12 0 9 = 0 := (z_vn (by decide)).trans h9
  have e11 : z_v p.1 12 0 11 = p.1 11 := z_vn (by decide)
  have e12 : z_v p.1 12 0 12 = 0 := z_vs _ _ _
  have hup := x_px_up hw l _ ho
  dsimp only at hup
  rw [e9, e11, Int.sub_zero] at hup
  have h1 := x_ok_px hw l _ ho
  have hq9 : (y_px l (z_v p.1 12 0, p.2)).1 9 = 0 := (y_px_c (by decide) (by decide) l _).trans e9
  have hc0 : x_co w (p.1 11) (z_v p.1 12 0, p.2) [] := by
    unfold x_co
    dsimp only
    rw [e11, e12]
    refine ⟨Int.le_refl _, fun k k0 k1 => absurd k1 (by omega), ?_⟩
    rw [show (p.1 11 - p.1 11).toNat = 0 by omega]; rfl
  have hq11 : (y_ln l p).1 11 = (y_px l (z_v p.1 12 0, p.2)).1 11 + 1 := y_ln11
  have hco := x_co_px hw p0 l _ [] ho e9 hl hc0 (by omega)
  have eX : (y_ln l p).2 = (y_px l (z_v p.1 12 0, p.2)).2 := rfl
  unfold x_tx
  rw [hq11, eX]
  generalize y_px l (z_v p.1 12 0, p.2) = q at h1 hq9 hco hup hq11 ⊢
  obtain ⟨h8, h10, ⟨c0, c1⟩, hf, hg⟩ := h1
  obtain ⟨i1, hr, hcat⟩ := hco
  rw [List.nil_append] at hcat
  rw [hq9, Int.sub_zero] at hf
  have hb : ∀ c, q.1 12 ≤ c → 0 ≤ c → c < 22 → x_row q.2 (q.1 11) c = r_blank c := hf.2 (by omega) (by omega)
  refine ⟨by omega, L' ++ [l ++ List.replicate (w - q.1 12).toNat 32], t_pad_snoc hp ⟨_, rfl⟩, fun t => ?_⟩
  have en : (q.1 11 + 1).toNat = (p.1 11).toNat + ((q.1 11 - p.1 11).toNat + 1) := by omega
  rw [en, w_ls_add, List.append_assoc, w_ls_c (R := x_row p.2) (by omega) _ _ (fun k j k0 k1 j0 j1 => hup k j k0 (by omega) j0 j1), hall, List.append_assoc]
  congr 1
  rw [show (0 : Int) + ((p.1 11).toNat : Int) = p.1 11 by omega]
  rw [l_all_line _ (fun k k0 k1 => hr k k0 (by omega)) (by rw [show p.1 11 + ((q.1 11 - p.1 11).toNat : Int) = q.1 11 by omega, hb 20 (by omega) (by decide) (by decide)]; decide)]
  rw [show p.1 11 + ((q.1 11 - p.1 11).toNat : Int) = q.1 11 by omega]
  have er : (w_row w (x_row q.2 (q.1 11))).1 = n_ss (x_row q.2 (q.1 11)) 0 (q.1 12).toNat ++ List.replicate (w - q.1 12).toNat 32 := by
    unfold w_row
    dsimp only
    rw [hb 21 (by omega) (by decide) (by decide), if_neg (by decide)]
    exact n_ss_pad c0 c1 (fun j j0 j1 => by rw [hb j j0 (by omega) (by omega), r_blank_x, if_neg (by omega)])
  rw [er, ← List.append_assoc, hcat]
  rfl
end ZCO
theorem m_line_lt {P : Int → Int} (b e : Int) : ∀ a ∈ m_line P b e, ¬ 128 ≤ a := by
  have h1 : ∀ (r : Int → Int) (n : Nat) (c : Int), ∀ a ∈ n_ss r c n, ¬ 128 ≤ a := by
    intro r n
    induction n with
    | zero => intro c a ha; exact absurd ha List.not_mem_nil
    | succ n ih =>
      intro c a ha
      have ha : a ∈ (if 128 ≤ r c then n_ss r (c + 1) n else r c :: n_ss r (c + 1) n) := ha
      split at ha
      · exact ih _ a ha
      · rcases List.mem_cons.mp ha with h | h
        · rw [h]; assumption
        · exact ih _ a h
  unfold m_line
  generalize (e + 1 - b).toNat = n
  have h2 : ∀ (n : Nat) (k : Int), ∀ a ∈ m_ss P e k n, ¬ 128 ≤ a := by
    intro n
    induction n with
    | zero => intro k a ha; exact absurd ha List.not_mem_nil
    | succ n ih =>
      intro k a ha
      have ha : a ∈ n_ss (p_row P (m_slot P k)) 0 (m_cells P k e).toNat ++ m_ss P e (k + 1) n := ha
      rcases List.mem_append.mp ha with h | h
      · exact h1 _ _ _ a h
      · exact ih _ a h
  exact h2 n b
