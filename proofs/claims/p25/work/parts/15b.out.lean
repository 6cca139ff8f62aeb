/-! what lies behind the page of the present state stays -/
def p_out (P Q : Int → Int) : Prop := ∀ k, 719 ≤ k → k < 6471 → Q k = P k
theorem p_o_r (P : Int → Int) : p_out P P := fun _ _ _ => rfl
theorem p_o_t {P Q R : Int → Int} (h : p_out P Q) (h2 : p_out Q R) : p_out P R := fun k k0 k1 => (h2 k k0 k1).trans (h k k0 k1)
theorem p_o_v {P Q : Int → Int} {i v : Int} (h : p_out P Q) (hi : i < 719) : p_out P (z_v Q i v) := fun k k0 k1 => (z_vn (by omega)).trans (h k k0 k1)
theorem p_o_upd {P Q r : Int → Int} {s : Int} (h : p_out P Q) (hs : s ≤ 31) : p_out P (p_upd Q s r) := fun k k0 k1 => (p_upd_out _ _ (by omega)).trans (h k k0 k1)
theorem p_o_sh {P Q : Int → Int} {a b : Int} (h : p_out P Q) (hb : b ≤ 32) : p_out P (p_sh Q a b) := fun k k0 k1 => (if_neg (by omega)).trans (h k k0 k1)
theorem p_o_keep {P Q : Int → Int} {s : Int} (h : p_out P Q) (h14 : Q 14 ≤ 24) : p_out P (p_keep Q s) := by
  unfold p_keep; split
  · exact p_o_v (p_o_upd (p_o_sh h (by decide)) (by decide)) (by decide)
  · exact p_o_v (p_o_upd h (by omega)) (by decide)
theorem p_o_ahead {P Q : Int → Int} {row : Int} (h : p_out P Q) (h1 : row ≤ 8) (h14 : Q 14 ≤ 24) : p_out P (p_ahead Q row) := by
  unfold p_ahead; split
  · exact p_o_upd h (by omega)
  · split
    · exact p_o_upd h (by omega)
    · exact h
theorem p_o_scroll {P : Int → Int} (h : p_hd P) : p_out P (p_scroll P) := by
  obtain ⟨hw0, hw1, hh0, hh1, hf0, hf1, hf2, hr0, hr1, hc0, hc1, hp0, hp1, hk0, hk1, hi0, hi1, hkp, hP⟩ := id h
  have e1 : p_out P (p_scr1 P) := by
    unfold p_scr1; split
    · exact p_o_keep (p_o_r P) hi1
    · exact p_o_ahead (p_o_r P) (by omega) hi1
  unfold p_scroll p_scr2
  exact p_o_upd (p_o_upd (p_o_sh e1 (by omega)) (by omega)) (by omega)
theorem p_o_fl {P : Int → Int} (h : p_hd P) : p_out P (p_fl P) := by
  unfold p_fl; split
  · exact p_o_scroll h
  · split
    · exact p_o_r P
    · exact p_o_v (p_o_r P) (by decide)
theorem p_o_go {P : Int → Int} {g : Int} (h : p_hd P) : p_out P (p_go g P) := by
  have h1 := p_o_fl h
  have h2 := p_hd_fl h
  have h5 : p_out P (z_v (p_fl P) 5 0) := p_o_v h1 (by decide)
  have e4 : z_v (p_fl P) 5 0 4 = p_fl P 4 := z_vn (by decide)
  have hb := h2.2.2.2.2.2.2.2.2.1
  have hb1 := h2.2.2.2.1
  unfold p_go; split
  · unfold p_go1
    rw [e4]
    exact p_o_v (p_o_v h5 (by omega)) (by omega)
  · exact h5
theorem p_o_erases {P : Int → Int} {row a b : Int} (h : p_hd P) (hr : row ≤ 7) : p_out P (p_erases P row a b) := p_o_upd (p_o_r P) (by omega)
theorem p_o_w1 {P : Int → Int} (h : p_hd P) : p_out P (p_w1 P) := by
  unfold p_w1; split
  · exact p_o_t (p_o_v (p_o_r P) (by decide)) (p_o_go (p_hd_6 h))
  · exact p_o_r P
theorem p_o_w2 {P : Int → Int} {code : Int} (h : p_hd P) : p_out P (p_w2 code P) := by
  obtain ⟨hw0, hw1, hh0, hh1, hf0, hf1, hf2, hr0, hr1, hc0, hc1, hp0, hp1, hk0, hk1, hi0, hi1, hkp, hP⟩ := id h
  unfold p_w2; split
  · exact p_o_t (p_o_erases h (by omega)) (p_o_go (p_hd_erases h hr0))
  · exact p_o_r P
theorem p_o_write {P : Int → Int} {code : Int} (h : p_hd P) : p_out P (p_write code P) := by
  have h2 := p_hd_w2 (code := code) (p_hd_w1 h)
  have ho := p_o_t (p_o_w1 h) (p_o_w2 (code := code) (p_hd_w1 h))
  unfold p_write p_w6 p_w5
  rw [p_w4_ovw h2]
  have hb := h2.2.2.2.2.2.2.2.2.1
  have hb1 := h2.2.2.2.1
  exact p_o_v (p_o_v (p_o_upd ho (by omega)) (by decide)) (by decide)
theorem p_o_goes {P : Int → Int} {r c : Int} : p_out P (p_goes r c P) := p_o_v (p_o_v (p_o_v (p_o_r P) (by decide)) (by decide)) (by decide)
theorem p_o_reg {P : Int → Int} {a b : Int} : p_out P (p_reg a b P) := p_o_v (p_o_v (p_o_v (p_o_v (p_o_v (p_o_r P) (by decide)) (by decide)) (by decide)) (by decide)) (by decide)
theorem p_o_move {P : Int → Int} {code : Int} (h : p_hd P) : p_out P (p_move code P) := by
  have e : p_out P (p_mvq code P) := by
    unfold p_mvq; split
    · exact p_o_fl h
    · exact p_o_r P
  exact p_o_v (p_o_v e (by decide)) (by decide)
theorem p_o_eline {P : Int → Int} {kind : Int} (h : p_hd P) : p_out P (p_eline kind P) := by
  have hb := h.2.2.2.2.2.2.2.2.1
  have hb1 := h.2.2.2.1
  exact p_o_v (p_o_erases h (by omega)) (by decide)
theorem p_o_escr {P : Int → Int} {kind : Int} (h : p_hd P) : p_out P (p_escr kind P) := by
  have hb1 := h.2.2.2.1
  refine n_it_p (fun Q => p_out P Q) _ (p_o_eline h) (fun k b k0 k1 hb => ?_)
  unfold p_esc; split
  · exact p_o_upd hb (by omega)
  · exact hb
theorem p_o_insr {P : Int → Int} {n : Int} (h : p_hd P) (hn : 1 ≤ n) (hr : P 4 ≤ P 3) : p_out P (p_insr n P) := by
  obtain ⟨hw0, hw1, hh0, hh1, hf0, hf1, hf2, hr0, hr1, hc0, hc1, hp0, hp1, hk0, hk1, hi0, hi1, hkp, hP⟩ := id h
  have hm := m_many_b hn hr
  have e1 : p_out P (p_ahead P (P 4)) := p_o_ahead (p_o_r P) (by omega) hi1
  have e2 : p_out P (p_dn (p_ahead P (P 4)) (24 + P 4 + m_many n P) (24 + P 3 + 1) (m_many n P)) := fun k k0 k1 => (if_neg (by omega)).trans (e1 k k0 k1)
  have e3 : p_out P (p_unw (p_dn (p_ahead P (P 4)) (24 + P 4 + m_many n P) (24 + P 3 + 1) (m_many n P)) (24 + P 3)) := p_o_upd e2 (by omega)
  have e4 : p_out P (p_blk (p_unw (p_dn (p_ahead P (P 4)) (24 + P 4 + m_many n P) (24 + P 3 + 1) (m_many n P)) (24 + P 3)) (24 + P 4) (24 + P 4 + m_many n P)) := fun k k0 k1 => (if_neg (by omega)).trans (e3 k k0 k1)
  exact p_o_v e4 (by decide)
theorem p_o_delr {P : Int → Int} {n : Int} (h : p_hd P) (hn : 1 ≤ n) (hr : P 4 ≤ P 3) : p_out P (p_delr n P) := by
  obtain ⟨hw0, hw1, hh0, hh1, hf0, hf1, hf2, hr0, hr1, hc0, hc1, hp0, hp1, hk0, hk1, hi0, hi1, hkp, hP⟩ := id h
  have hm := m_many_b hn hr
  have e1 : p_out P (p_unw (p_ahead P (P 4)) (24 + P 3)) := p_o_upd (p_o_ahead (p_o_r P) (by omega) hi1) (by omega)
  have e2 : p_out P (p_up (p_unw (p_ahead P (P 4)) (24 + P 3)) (24 + P 4) (24 + P 3 + 1 - m_many n P) (m_many n P)) := fun k k0 k1 => (if_neg (by omega)).trans (e1 k k0 k1)
  have e3 : p_out P (p_blk (p_up (p_unw (p_ahead P (P 4)) (24 + P 3)) (24 + P 4) (24 + P 3 + 1 - m_many n P) (m_many n P)) (24 + P 3 + 1 - m_many n P) (24 + P 3 + 1)) := fun k k0 k1 => (if_neg (by omega)).trans (e2 k k0 k1)
  exact p_o_v e3 (by decide)
theorem p_o_insc {P : Int → Int} {n : Int} (h : p_hd P) : p_out P (p_insc n P) := by
  have hb := h.2.2.2.2.2.2.2.2.1
  have hb1 := h.2.2.2.1
  exact p_o_v (p_o_upd (p_o_r P) (by omega)) (by decide)
theorem p_o_delc {P : Int → Int} {n : Int} (h : p_hd P) : p_out P (p_delc n P) := by
  have hb := h.2.2.2.2.2.2.2.2.1
  have hb1 := h.2.2.2.1
  exact p_o_v (p_o_upd (p_o_r P) (by omega)) (by decide)
theorem p_o_kp {P : Int → Int} (h7 : P 7 ≤ 3) : p_out P (p_kp P) := p_o_v (p_o_v (p_o_v (p_o_r P) (by omega)) (by omega)) (by decide)
theorem p_o_bk {P : Int → Int} : p_out P (p_bk P) := p_o_v (p_o_v (p_o_v (p_o_v (p_o_r P) (by decide)) (by decide)) (by decide)) (by decide)
theorem p_o_pour {P U V B X : Int → Int} {n h hm top : Int} (h7 : P 7 ≤ 3) : p_out P (y_land U V B top (y_pg n h hm X P) (P 7 + 1)) := by
  intro k k0 k1
  have e7 : y_pg n h hm X P 7 = P 7 := by
    unfold y_pg
    rw [y_tk_k (by decide) (by decide), y_tk_k (by decide) (by decide), z_vn (by decide), z_vn (by decide), z_vn (by decide), z_vn (by decide), z_vn (by decide)]
  rw [y_land_k (by omega) (by omega) (by omega)]
  unfold y_pg y_tk
  rw [if_neg (by omega), if_neg (by omega), z_vn (by omega), z_vn (by omega), z_vn (by omega), z_vn (by omega), z_vn (by omega)]
def n_rec (n : Int) : Int := if n < 8 then n + 1 else 8
/-- a change of the object: its page is Q then, n states remembered -/
def z_Z (E : z_E) (o : Nat) (mi : z_Mi) (mr : z_Mr) (Q : Int → Int) (n : Int) (m : z_Mi) (r : z_Mr) : Prop := (∃ nx, z_X E o m r Q n nx) ∧ z_Xf o mi mr m r
