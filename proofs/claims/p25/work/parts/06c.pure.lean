/-! the pouring of the reference: its fields, the fresh rows, where the cursors come -/
abbrev y_S : Type := (Int → Int) × (Int → Int) × (Int → Int) × (Int → Int) × (Int → Int)
def y_lay (F : Int → Int) (c w : Int) (X : Int → Int) : Int → Int := if F 10 = 1 ∧ 0 ≤ F 11 - F 9 then z_v X (22 * (F 11 - F 9) + c) w else X
def y_F (code : Int) (F : Int → Int) : Int → Int := if F 8 < F 12 + p_sz code then z_v (z_v F 11 (F 11 + 1)) 12 0 else F
def y_X1 (code : Int) (F X : Int → Int) : Int → Int := if F 8 < F 12 + p_sz code then y_lay F 21 (if F 12 < F 8 then 1 else 0) (y_lay F 20 1 X) else X
def y_X2 (code : Int) (F X : Int → Int) : Int → Int := if p_sz code = 2 then y_lay F (F 12 + 1) (code + 128) (y_lay F (F 12) code X) else y_lay F (F 12) code X
def y_X (code : Int) (F X : Int → Int) : Int → Int := y_X2 code (y_F code F) (y_X1 code F X)
def y_mt (L M : Int → Int) (line k v : Int) (U : Int → Int) (n : Int) : Int → Int := fun j => if (0 ≤ j ∧ j < n) ∧ L j = line ∧ M j = k then v else U j
def y_en (L M : Int → Int) (line k : Int) (v : Int → Int) (U : Int → Int) (n : Int) : Int → Int := fun j => if (0 ≤ j ∧ j < n) ∧ L j = line ∧ k ≤ M j then v j else U j
def y_ec (F M : Int → Int) (k j : Int) : Int := if F 12 + M j - k < F 8 then F 12 + M j - k else F 8 - 1
def y_ef (F M : Int → Int) (k j : Int) : Int := if 0 < k ∧ M j = k ∧ F 12 = F 8 then 1 else 0
def y_adv (code : Int) (F : Int → Int) : Int → Int := z_v (y_F code F) 12 (y_F code F 12 + p_sz code)
def y_sign (L M : Int → Int) (line k code : Int) (s : y_S) : y_S := ⟨y_adv code s.1, y_X code s.1 s.2.1, y_mt L M line k (y_F code s.1 11) s.2.2.1 4, y_mt L M line k (y_F code s.1 12) s.2.2.2.1 4, s.2.2.2.2⟩
def y_end (L M : Int → Int) (line k : Int) (s : y_S) : y_S := ⟨z_v s.1 11 (s.1 11 + 1), s.2.1, y_en L M line k (fun _ => s.1 11) s.2.2.1 4, y_en L M line k (y_ec s.1 M k) s.2.2.2.1 4, y_en L M line k (y_ef s.1 M k) s.2.2.2.2 4⟩
def y_rest (L M : Int → Int) (line : Int) : Int → List Int → y_S → y_S
  | k, [], s => y_end L M line k s
  | k, a :: l, s => y_rest L M line (k + 1) l (y_sign L M line k a s)
def y_line (L M : Int → Int) (line : Int) (l : List Int) (s : y_S) : y_S := y_rest L M line 0 l ⟨z_v s.1 12 0, s.2.1, s.2.2.1, s.2.2.2.1, s.2.2.2.2⟩
def y_all (L M : Int → Int) : Int → List (List Int) → y_S → y_S
  | _, [], s => s
  | line, l :: ll, s => y_all L M (line + 1) ll (y_line L M line l s)
/-- the signs of all lines -/
def y_llf (P : Int → Int) (n : Int) : Nat → Int → List (List Int)
  | 0, _ => []
  | f + 1, k => if k < n then m_line P k (m_lend P n k) :: y_llf P n f (m_lend P n k + 1) else []
def y_ll (P : Int → Int) (n k : Int) : List (List Int) := y_llf P n (n - k).toNat k
theorem y_llf_eq (P : Int → Int) (n : Int) : ∀ (f g : Nat) (k : Int), n - k ≤ f → n - k ≤ g → y_llf P n f k = y_llf P n g k := by
  intro f
  induction f with
  | zero =>
    intro g k h0 h1
    cases g with
    | zero => rfl
    | succ g => show [] = if k < n then _ else _; rw [if_neg (by omega)]
  | succ f ih =>
    intro g k h0 h1
    cases g with
    | zero => show (if k < n then _ else _) = []; rw [if_neg (by omega)]
    | succ g =>
      show (if k < n then _ else _) = (if k < n then _ else _)
      by_cases h : k < n
      · have hs := (m_lend_spec (P := P) h).1
        rw [if_pos h, if_pos h, ih g (m_lend P n k + 1) (by omega) (by omega)]
      · rw [if_neg h, if_neg h]
theorem y_ll_s {P : Int → Int} {n k : Int} (h : k < n) : y_ll P n k = m_line P k (m_lend P n k) :: y_ll P n (m_lend P n k + 1) := by
  have hs := (m_lend_spec (P := P) h).1
  unfold y_ll
  rw [show (n - k).toNat = (n - k - 1).toNat + 1 by omega]
  show (if k < n then _ else _) = _
  rw [if_pos h, y_llf_eq P n _ (n - (m_lend P n k + 1)).toNat _ (by omega) (by omega)]
theorem y_ll_e {P : Int → Int} {n k : Int} (h : n ≤ k) : y_ll P n k = [] := by
  unfold y_ll
  rw [show (n - k).toNat = 0 by omega]; rfl
theorem y_F_c (code : Int) (F : Int → Int) {k : Int} (h : k ≠ 11) (h2 : k ≠ 12) : y_F code F k = F k := by
  unfold y_F; split
  · rw [z_vn h2, z_vn h]
  · rfl
theorem y_F_r (code : Int) (F : Int → Int) : F 11 ≤ y_F code F 11 ∧ y_F code F 11 ≤ F 11 + 1 := by
  unfold y_F; split
  · rw [z_vn (by decide), z_vs]; omega
  · omega
theorem y_F_w {code : Int} {F : Int → Int} (h0 : 0 ≤ F 12) (hw : 4 ≤ F 8) : 0 ≤ y_F code F 12 ∧ y_F code F 12 + p_sz code ≤ F 8 := by
  have := p_sz_b code
  unfold y_F; split
  · rw [z_vs]; omega
  · omega
theorem y_adv_c (code : Int) (F : Int → Int) {k : Int} (h : k ≠ 11) (h2 : k ≠ 12) : y_adv code F k = F k := by
  unfold y_adv; rw [z_vn h2]; exact y_F_c code F h h2
theorem y_adv_r (code : Int) (F : Int → Int) : y_adv code F 11 = y_F code F 11 := by
  unfold y_adv; rw [z_vn (by decide)]
theorem y_adv_w (code : Int) (F : Int → Int) : y_adv code F 12 = y_F code F 12 + p_sz code := by
  unfold y_adv; rw [z_vs]
theorem y_rest_r (L M : Int → Int) (line : Int) : ∀ (l : List Int) (k : Int) (s : y_S), s.1 11 + 1 ≤ (y_rest L M line k l s).1 11 := by
  intro l
  induction l with
  | nil => intro k s; show _ ≤ z_v s.1 11 (s.1 11 + 1) 11; rw [z_vs]; omega
  | cons a l ih =>
    intro k s
    have h := ih (k + 1) (y_sign L M line k a s)
    have h2 := (y_F_r a s.1).1
    have h3 : (y_sign L M line k a s).1 11 = y_F a s.1 11 := y_adv_r a s.1
    show _ ≤ (y_rest L M line (k + 1) l (y_sign L M line k a s)).1 11
    omega
theorem y_all_r (L M : Int → Int) : ∀ (ll : List (List Int)) (line : Int) (s : y_S), s.1 11 ≤ (y_all L M line ll s).1 11 := by
  intro ll
  induction ll with
  | nil => intro line s; exact Int.le_refl _
  | cons l ll ih =>
    intro line s
    have h := ih (line + 1) (y_line L M line l s)
    have h2 := y_rest_r L M line l 0 ⟨z_v s.1 12 0, s.2.1, s.2.2.1, s.2.2.2.1, s.2.2.2.2⟩
    have h3 : (z_v s.1 12 0) 11 = s.1 11 := z_vn (by decide)
    show _ ≤ (y_all L M (line + 1) ll (y_line L M line l s)).1 11
    have h4 : (y_line L M line l s).1 11 = (y_rest L M line 0 l ⟨z_v s.1 12 0, s.2.1, s.2.2.1, s.2.2.2.1, s.2.2.2.2⟩).1 11 := rfl
    have h5 : (⟨z_v s.1 12 0, s.2.1, s.2.2.1, s.2.2.2.1, s.2.2.2.2⟩ : y_S).1 11 = (z_v s.1 12 0) 11 := rfl
    omega
theorem y_ss_end {P : Int → Int} {e row : Int} (h : row = e + 1) : m_ss P e row (e + 1 - row).toNat = [] := by
  rw [show (e + 1 - row).toNat = 0 by omega]; rfl
theorem y_ns_end {r : Int → Int} {c t : Int} {l : List Int} (h : c = t) : n_ss r c (t - c).toNat ++ l = l := by
  rw [show (t - c).toNat = 0 by omega]; rfl
theorem y_ns_right {r : Int → Int} {c t : Int} {l : List Int} (h : c < t) (hr : 128 ≤ r c) : n_ss r c (t - c).toNat ++ l = n_ss r (c + 1) (t - (c + 1)).toNat ++ l := by
  rw [n_ss_s h, if_pos hr]
theorem y_ns_sign {r : Int → Int} {c t : Int} {l : List Int} (h : c < t) (hr : ¬ 128 ≤ r c) : n_ss r c (t - c).toNat ++ l = r c :: (n_ss r (c + 1) (t - (c + 1)).toNat ++ l) := by
  rw [n_ss_s h, if_neg hr]; rfl
theorem y_mt_y {L M U U1 : Int → Int} {line k v j : Int} (h0 : 0 ≤ j) (hU : U1 = y_mt L M line k v U j) (h1 : L j = line) (h2 : M j = k) : z_v U1 j v = y_mt L M line k v U (j + 1) := by
  rw [hU]; funext i; unfold z_v y_mt
  by_cases h : i = j
  · rw [if_pos h, if_pos ⟨⟨by omega, by omega⟩, by rw [h]; exact h1, by rw [h]; exact h2⟩]
  · rw [if_neg h]
    by_cases g : (0 ≤ i ∧ i < j) ∧ L i = line ∧ M i = k
    · rw [if_pos g, if_pos ⟨⟨g.1.1, by omega⟩, g.2⟩]
    · rw [if_neg g, if_neg (fun q => g ⟨⟨q.1.1, by omega⟩, q.2⟩)]
theorem y_mt_n {L M U U1 : Int → Int} {line k v j : Int} (hU : U1 = y_mt L M line k v U j) (h1 : ¬ (L j = line ∧ M j = k)) : U1 = y_mt L M line k v U (j + 1) := by
  rw [hU]; funext i; unfold y_mt
  by_cases h : i = j
  · rw [if_neg (by omega), if_neg (by rw [h]; exact fun q => h1 q.2)]
  · by_cases g : (0 ≤ i ∧ i < j) ∧ L i = line ∧ M i = k
    · rw [if_pos g, if_pos ⟨⟨g.1.1, by omega⟩, g.2⟩]
    · rw [if_neg g, if_neg (fun q => g ⟨⟨q.1.1, by omega⟩, q.2⟩)]
theorem y_en_y {L M U U1 : Int → Int} {line k : Int} {v : Int → Int} {w j : Int} (h0 : 0 ≤ j) (hU : U1 = y_en L M line k v U j) (h1 : L j = line) (h2 : k ≤ M j) (hw : w = v j) : z_v U1 j w = y_en L M line k v U (j + 1) := by
  rw [hU, hw]; funext i; unfold z_v y_en
  by_cases h : i = j
  · rw [if_pos h, if_pos ⟨⟨by omega, by omega⟩, by rw [h]; exact h1, by rw [h]; exact h2⟩, h]
  · rw [if_neg h]
    by_cases g : (0 ≤ i ∧ i < j) ∧ L i = line ∧ k ≤ M i
    · rw [if_pos g, if_pos ⟨⟨g.1.1, by omega⟩, g.2⟩]
    · rw [if_neg g, if_neg (fun q => g ⟨⟨q.1.1, by omega⟩, q.2⟩)]
theorem y_en_n {L M U U1 : Int → Int} {line k : Int} {v : Int → Int} {j : Int} (hU : U1 = y_en L M line k v U j) (h1 : ¬ (L j = line ∧ k ≤ M j)) : U1 = y_en L M line k v U (j + 1) := by
  rw [hU]; funext i; unfold y_en
  by_cases h : i = j
  · rw [if_neg (by omega), if_neg (by rw [h]; exact fun q => h1 q.2)]
  · by_cases g : (0 ≤ i ∧ i < j) ∧ L i = line ∧ k ≤ M i
    · rw [if_pos g, if_pos ⟨⟨g.1.1, by omega⟩, g.2⟩]
    · rw [if_neg g, if_neg (fun q => g ⟨⟨q.1.1, by omega⟩, q.2⟩)]
