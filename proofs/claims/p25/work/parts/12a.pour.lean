/-! rows poured: the fresh rows as rows of the class -/
def x_row (X : Int → Int) (k : Int) : Int → Int := fun c => X (22 * k + c)
def x_fresh (X : Int → Int) (i b : Int) : Prop := (∀ k c, i < k → 0 ≤ k → k < 32 → 0 ≤ c → c < 22 → x_row X k c = r_blank c) ∧ (0 ≤ i → i < 32 → ∀ c, b ≤ c → 0 ≤ c → c < 22 → x_row X i c = r_blank c)
/-- fields and rows alone, over the signs of a line -/
def y_px : List Int → (Int → Int) × (Int → Int) → (Int → Int) × (Int → Int)
  | [], p => p
  | a :: l, p => y_px l (y_adv a p.1, y_X a p.1 p.2)
theorem x_lay {F X : Int → Int} {c v k j : Int} (hf : F 10 = 1) (c0 : 0 ≤ c) (c1 : c < 22) (j0 : 0 ≤ j) (j1 : j < 22) (k0 : 0 ≤ k) : x_row (y_lay F c v X) k j = if k = F 11 - F 9 ∧ j = c then v else x_row X k j := by
  unfold x_row y_lay
  by_cases q : 0 ≤ F 11 - F 9
  · rw [if_pos ⟨hf, q⟩]
    unfold z_v
    by_cases q2 : k = F 11 - F 9 ∧ j = c
    · rw [if_pos q2, if_pos (by rw [q2.1, q2.2])]
    · rw [if_neg q2, if_neg (by omega)]
  · rw [if_neg (by omega), if_neg (by omega)]
theorem x_X1 {F X : Int → Int} {a k j : Int} (hf : F 10 = 1) (j0 : 0 ≤ j) (j1 : j < 22) (k0 : 0 ≤ k) : x_row (y_X1 a F X) k j = if F 8 < F 12 + p_sz a ∧ k = F 11 - F 9 then z_v (z_v (x_row X k) 20 1) 21 (if F 12 < F 8 then 1 else 0) j else x_row X k j := by
  unfold y_X1
  by_cases q : F 8 < F 12 + p_sz a
  · rw [if_pos q, x_lay hf (by decide) (by decide) j0 j1 k0, x_lay hf (by decide) (by decide) j0 j1 k0]
    unfold z_v
    grind
  · rw [if_neg q, if_neg (by omega)]
theorem x_X2 {F X : Int → Int} {a k j : Int} (hf : F 10 = 1) (c0 : 0 ≤ F 12) (c1 : F 12 + p_sz a ≤ 20) (j0 : 0 ≤ j) (j1 : j < 22) (k0 : 0 ≤ k) : x_row (y_X2 a F X) k j = if k = F 11 - F 9 ∧ j = F 12 then a else if (k = F 11 - F 9 ∧ j = F 12 + 1) ∧ 65 ≤ a ∧ a ≤ 90 then a + 128 else x_row X k j := by
  have hs := p_sz_b a
  unfold y_X2
  by_cases q : 65 ≤ a ∧ a ≤ 90
  · have e : p_sz a = 2 := if_pos q
    rw [if_pos e, x_lay hf (by omega) (by omega) j0 j1 k0, x_lay hf (by omega) (by omega) j0 j1 k0]
    grind
  · have e : p_sz a = 1 := if_neg q
    rw [if_neg (by omega), x_lay hf (by omega) (by omega) j0 j1 k0]
    grind
/-- a sign put into a row without marks -/
theorem r_put_x {W c v : Int} {r : Int → Int} (hc : c + p_sz v ≤ W) (hW : W ≤ 20) (h20 : r 20 = 0) (h21 : r 21 = 0) {j : Int} (j0 : 0 ≤ j) (j1 : j < 22) : r_put W c v r j = if j = c then v else if j = c + 1 ∧ 65 ≤ v ∧ v ≤ 90 then v + 128 else r j := by
  have hs := p_sz_b v
  by_cases q : j < 20
  · rw [r_put_at j q]
    grind
  · rw [r_put_fl hc hW (by omega)]
    have e : ¬ (j = c + 1 ∧ 65 ≤ v ∧ v ≤ 90) := by
      rintro ⟨x1, x2⟩
      have : p_sz v = 2 := if_pos x2
      omega
    rw [if_neg (show ¬ j = c by omega), if_neg e]
    rcases (show j = 20 ∨ j = 21 by omega) with x | x
    · rw [x, h20]; split <;> rfl
    · rw [x, h21]; split <;> rfl
theorem d_X2_put {E : z_E} {mi : z_Mi} {mr : z_Mr} {o : Nat} {c v : Int} (hM : z_CR E mr o) (hz : z_R c) (hz2 : z_R v) (hc : c ≤ 99) : z_mv M_X2_put E [zo o, zi c, zi v] mi mr (fun m r => m = z_u mi (o + 1) (c_put (mi (o + 1)) c v) ∧ r = mr) := by
  have h := c_X2_put (mi := mi) (mr := mr) (F := mi o) (X := mi (o + 1)) hM hz hz2 hc
  rw [z_mself, z_uself] at h
  exact h
theorem r_blank_x (c : Int) : r_blank c = if c = 20 ∨ c = 21 then 0 else 32 := rfl
/-- the target's rows when a row ends with a wrap -/
theorem x_wrap {E : z_E} {m : z_Mi} {mr : z_Mr} {s : Nat} {sg : Int → Nat} {w n a g : Int} {F X : Int → Int} (hr : z_Sr E m mr s sg w n (x_row X)) (hw : w ≤ 20) (hn : n ≤ 32) (hf : F 10 = 1) (hq : F 8 < F 12 + p_sz a) (hg : g = (if F 12 < F 8 then 1 else 0)) (h0 : 0 ≤ F 11 - F 9) (h1 : F 11 - F 9 < n) :
    z_Sr E (z_u m (sg (F 11 - F 9)) (z_v (z_v (m (sg (F 11 - F 9))) 1 1) 2 g)) mr s sg w n (x_row (y_X1 a F X)) := by
  have hgb : g = 0 ∨ g = 1 := by rw [hg]; split <;> omega
  have hi := hr.1 (F 11 - F 9) h0 (by omega)
  have hw2 := c_ga_rw (c_wr_rw (hr.2.2 (F 11 - F 9) h0 h1) hw (Or.inr rfl)) hw hgb
  rw [z_un_full]
  have hs := z_Sr_set (a := F 11 - F 9) (r := z_v (z_v (x_row X (F 11 - F 9)) 20 1) 21 g) (F := z_v (z_v (m (sg (F 11 - F 9))) 1 1) 2 g) (X := m (sg (F 11 - F 9) + 1)) hr hn h0 (by omega) hi.2.2.2.2.1 (Or.inr ((z_vn (by decide)).trans (z_vs _ _ _))) (by rw [z_vs]; exact hgb) (fun _ => hw2)
  refine z_Sr_e hs hw (fun k k0 k1 c c0 c1 => ?_)
  rw [x_X1 hf c0 c1 k0]
  by_cases q : k = F 11 - F 9
  · rw [if_pos ⟨hq, q⟩, q, z_ifa, if_pos rfl, hg]
  · rw [if_neg (fun x => q x.2), z_ifa, if_neg q]
theorem x_wrap0 {E : z_E} {m : z_Mi} {mr : z_Mr} {s : Nat} {sg : Int → Nat} {w n a : Int} {F X : Int → Int} (hr : z_Sr E m mr s sg w n (x_row X)) (hw : w ≤ 20) (hf : F 10 = 1) (hq : ¬ F 8 < F 12 + p_sz a ∨ F 11 - F 9 < 0) : z_Sr E m mr s sg w n (x_row (y_X1 a F X)) := by
  refine z_Sr_e hr hw (fun k k0 k1 c c0 c1 => ?_)
  rw [x_X1 hf c0 c1 k0, if_neg (by omega)]
/-- when a sign is put -/
theorem x_put {E : z_E} {m : z_Mi} {mr : z_Mr} {s : Nat} {sg : Int → Nat} {w n a : Int} {F X : Int → Int} (hr : z_Sr E m mr s sg w n (x_row X)) (hw : w ≤ 20) (hn : n ≤ 32) (hf : F 10 = 1) (c0 : 0 ≤ F 12) (c1 : F 12 + p_sz a ≤ w) (a0 : 32 ≤ a) (a1 : a ≤ 126) (h0 : 0 ≤ F 11 - F 9) (h1 : F 11 - F 9 < n) (hx : ∀ c, F 12 ≤ c → c < 22 → x_row X (F 11 - F 9) c = r_blank c) :
    z_Sr E (z_u m (sg (F 11 - F 9) + 1) (c_put (m (sg (F 11 - F 9) + 1)) (F 12) a)) mr s sg w n (x_row (y_X2 a F X)) := by
  have hs9 := p_sz_b a
  have hi := hr.1 (F 11 - F 9) h0 (by omega)
  have hrw := hr.2.2 (F 11 - F 9) h0 h1
  have h20 : x_row X (F 11 - F 9) 20 = 0 := (hx 20 (by omega) (by decide)).trans rfl
  have h21 : x_row X (F 11 - F 9) 21 = 0 := (hx 21 (by omega) (by decide)).trans rfl
  have e : z_u m (sg (F 11 - F 9) + 1) (c_put (m (sg (F 11 - F 9) + 1)) (F 12) a) = z_u (z_u m (sg (F 11 - F 9)) (m (sg (F 11 - F 9)))) (sg (F 11 - F 9) + 1) (c_put (m (sg (F 11 - F 9) + 1)) (F 12) a) := by rw [z_uself]
  rw [e]
  have hs := z_Sr_set (a := F 11 - F 9) (r := r_put w (F 12) a (x_row X (F 11 - F 9))) (F := m (sg (F 11 - F 9))) (X := c_put (m (sg (F 11 - F 9) + 1)) (F 12) a) hr hn h0 (by omega) (z_xr_put hi.2.2.2.2.1 (by omega) (by omega)) hi.2.2.2.2.2.1 hi.2.2.2.2.2.2
    (fun _ => ⟨c_put_rw hrw.1 hw c0 c1 a0 a1 (fun _ => ⟨h20, h21⟩), c_wf_put hrw.2 hw c0 c1 a0 a1 (fun j j0 j1 => by rw [hx j j0 (by omega), r_blank_x, if_neg (by omega)])⟩)
  refine z_Sr_e hs hw (fun k k0 k1 c c2 c3 => ?_)
  rw [x_X2 hf c0 (by omega) c2 c3 k0, z_ifa]
  by_cases q : k = F 11 - F 9
  · rw [if_pos q, q, r_put_x c1 hw h20 h21 c2 c3]
    by_cases q1 : c = F 12
    · rw [if_pos ⟨rfl, q1⟩, if_pos q1]
    · rw [if_neg (fun x => q1 x.2), if_neg q1]
      by_cases q2 : c = F 12 + 1 ∧ 65 ≤ a ∧ a ≤ 90
      · rw [if_pos ⟨⟨rfl, q2.1⟩, q2.2⟩, if_pos q2]
      · rw [if_neg (fun x => q2 ⟨x.1.2, x.2⟩), if_neg q2]
  · rw [if_neg (fun x => q x.1), if_neg (fun x => q x.1.1), if_neg q]
theorem x_put0 {E : z_E} {m : z_Mi} {mr : z_Mr} {s : Nat} {sg : Int → Nat} {w n a : Int} {F X : Int → Int} (hr : z_Sr E m mr s sg w n (x_row X)) (hw : w ≤ 20) (hf : F 10 = 1) (c0 : 0 ≤ F 12) (c1 : F 12 + p_sz a ≤ w) (h0 : F 11 - F 9 < 0) : z_Sr E m mr s sg w n (x_row (y_X2 a F X)) := by
  refine z_Sr_e hr hw (fun k k0 k1 c c2 c3 => ?_)
  rw [x_X2 hf c0 (by omega) c2 c3 k0, if_neg (by omega), if_neg (by omega)]
/-- what is still blank -/
theorem x_fresh_X1 {F X : Int → Int} {a : Int} (hf : F 10 = 1) (h : x_fresh X (F 11 - F 9) (F 12)) (h8 : F 12 ≤ F 8) (hw : F 8 ≤ 20) (h4 : 4 ≤ F 8) : x_fresh (y_X1 a F X) (y_F a F 11 - y_F a F 9) (y_F a F 12) := by
  have e9 : y_F a F 9 = F 9 := y_F_c a F (by decide) (by decide)
  rw [e9]
  by_cases q : F 8 < F 12 + p_sz a
  · have e11 : y_F a F 11 = F 11 + 1 := by unfold y_F; rw [if_pos q, z_vn (by decide), z_vs]
    have e12 : y_F a F 12 = 0 := by unfold y_F; rw [if_pos q, z_vs]
    rw [e11, e12]
    refine ⟨fun k c k0 k1 k2 c0 c1 => ?_, fun i0 i1 c _ c0 c1 => ?_⟩
    · rw [x_X1 hf c0 c1 k1, if_neg (by omega)]; exact h.1 k c (by omega) k1 k2 c0 c1
    · rw [x_X1 hf c0 c1 i0, if_neg (by omega)]; exact h.1 _ c (by omega) i0 i1 c0 c1
  · have e11 : y_F a F 11 = F 11 := by unfold y_F; rw [if_neg q]
    have e12 : y_F a F 12 = F 12 := by unfold y_F; rw [if_neg q]
    rw [e11, e12]
    refine ⟨fun k c k0 k1 k2 c0 c1 => ?_, fun i0 i1 c c2 c0 c1 => ?_⟩
    · rw [x_X1 hf c0 c1 k1, if_neg (by omega)]; exact h.1 k c (by omega) k1 k2 c0 c1
    · rw [x_X1 hf c0 c1 i0, if_neg (by omega)]; exact h.2 i0 i1 c c2 c0 c1
theorem x_fresh_X2 {F X : Int → Int} {a : Int} (hf : F 10 = 1) (h : x_fresh X (F 11 - F 9) (F 12)) (c0 : 0 ≤ F 12) (c1 : F 12 + p_sz a ≤ 20) : x_fresh (y_X2 a F X) (F 11 - F 9) (F 12 + p_sz a) := by
  have hs := p_sz_b a
  refine ⟨fun k c k0 k1 k2 c2 c3 => ?_, fun i0 i1 c c4 c2 c3 => ?_⟩
  · rw [x_X2 hf c0 c1 c2 c3 k1, if_neg (by omega), if_neg (by omega)]; exact h.1 k c k0 k1 k2 c2 c3
  · rw [x_X2 hf c0 c1 c2 c3 i0, if_neg (by omega)]
    have e : ¬ ((F 11 - F 9 = F 11 - F 9 ∧ c = F 12 + 1) ∧ 65 ≤ a ∧ a ≤ 90) := by
      rintro ⟨x1, x2⟩
      have : p_sz a = 2 := if_pos x2
      omega
    rw [if_neg e]; exact h.2 i0 i1 c (by omega) c2 c3
theorem x_fresh_up {X : Int → Int} {i b : Int} (h : x_fresh X i b) : x_fresh X (i + 1) 0 :=
  ⟨fun k c k0 k1 k2 c0 c1 => h.1 k c (by omega) k1 k2 c0 c1, fun i0 i1 c _ c0 c1 => h.1 _ c (by omega) i0 i1 c0 c1⟩
