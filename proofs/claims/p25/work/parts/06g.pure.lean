theorem m_cur2_b {P : Int → Int} {w : Int} (h : p_hd P) (h0 : 0 ≤ w) (h1 : w ≤ P 7) : 0 ≤ m_cur P w 2 ∧ m_cur P w 2 ≤ 31 := by
  have hr := m_row_b h h0 h1
  have hb := m_lno_b P (m_count P) (P 14 + m_row P w)
  obtain ⟨hw0, hw1, hh0, hh1, hf0, hf1, hf2, hr0, hr1, hc0, hc1, hp0, hp1, hk0, hk1, hi0, hi1, hkp, hP⟩ := id h
  have e : m_cur P w 2 = m_lno P (m_count P) (P 14 + m_row P w) := rfl
  have hb2 := hb (by omega)
  omega
theorem m_mark_b {P : Int → Int} {n row col : Int} (h : p_hd P) (h0 : 0 ≤ row) (h1 : row < 8) (h2 : 0 ≤ col) (h3 : col ≤ 20) (hb0 : 0 ≤ m_lbeg P n (m_lno P n (P 14 + row))) : 0 ≤ m_mark P n row col ∧ m_mark P n row col ≤ 700 := by
  have hs := m_sgn_b (P := P) (e := m_lend P n (P 14 + row)) (b := m_lbeg P n (m_lno P n (P 14 + row))) h (P 14 + row - m_lbeg P n (m_lno P n (P 14 + row))).toNat
  have hc := m_cells_b (k := P 14 + row) (e := m_lend P n (P 14 + row)) h
  obtain ⟨hw0, hw1, hh0, hh1, hf0, hf1, hf2, hr0, hr1, hc0, hc1, hp0, hp1, hk0, hk1, hi0, hi1, hkp, hP⟩ := id h
  unfold m_mark
  have ht : 0 ≤ (if col < m_cells P (P 14 + row) (m_lend P n (P 14 + row)) then col else m_cells P (P 14 + row) (m_lend P n (P 14 + row))) ∧ (if col < m_cells P (P 14 + row) (m_lend P n (P 14 + row)) then col else m_cells P (P 14 + row) (m_lend P n (P 14 + row))) ≤ 20 := by split <;> omega
  have hi := m_sin_b P (m_slot P (P 14 + row)) _ ht.1
  have hl : 0 ≤ (if P 14 + row = m_lend P n (P 14 + row) ∧ m_cells P (P 14 + row) (m_lend P n (P 14 + row)) < col then col - m_cells P (P 14 + row) (m_lend P n (P 14 + row)) else 0) ∧ (if P 14 + row = m_lend P n (P 14 + row) ∧ m_cells P (P 14 + row) (m_lend P n (P 14 + row)) < col then col - m_cells P (P 14 + row) (m_lend P n (P 14 + row)) else 0) ≤ 20 := by split <;> omega
  generalize m_sin P (m_slot P (P 14 + row)) _ = g1 at *
  generalize (if P 14 + row = m_lend P n (P 14 + row) ∧ m_cells P (P 14 + row) (m_lend P n (P 14 + row)) < col then col - m_cells P (P 14 + row) (m_lend P n (P 14 + row)) else 0) = g2 at *
  generalize m_sgn P _ _ _ = g3 at *
  omega
theorem m_cur3_b {P : Int → Int} {w : Int} (h : p_hd P) (h0 : 0 ≤ w) (h1 : w ≤ P 7) : 0 ≤ m_cur P w 3 ∧ m_cur P w 3 ≤ 700 := by
  have hr := m_row_b h h0 h1
  obtain ⟨hw0, hw1, hh0, hh1, hf0, hf1, hf2, hr0, hr1, hc0, hc1, hp0, hp1, hk0, hk1, hi0, hi1, hkp, hP⟩ := id h
  have hp : 0 ≤ m_pcol P w ∧ m_pcol P w ≤ 20 := by unfold m_pcol; split <;> omega
  have hcn : m_count P = P 14 + m_last P + 1 := rfl
  have hb := m_lbeg_of (P := P) (n := m_count P) (k := P 14 + m_row P w) (by omega) (by omega)
  exact m_mark_b h hr.1 (by omega) hp.1 hp.2 (by omega)
def y_mk (P : Int → Int) (what : Int) (L : Int → Int) (n : Int) : Int → Int := fun j => if 0 ≤ j ∧ j < n then (if j ≤ P 7 then m_cur P j what else -9) else L j
theorem y_mk2_b {P L : Int → Int} (h : p_hd P) (hL : ∀ j, -9 ≤ L j ∧ L j ≤ 99) (n j : Int) : -9 ≤ y_mk P 2 L n j ∧ y_mk P 2 L n j ≤ 99 := by
  unfold y_mk
  split
  · split
    · have := m_cur2_b (w := j) h (by omega) (by omega); omega
    · omega
  · exact hL j
theorem y_mk3_b {P M : Int → Int} (h : p_hd P) (hM : ∀ j, -9 ≤ M j ∧ M j ≤ 9999) (n j : Int) : -9 ≤ y_mk P 3 M n j ∧ y_mk P 3 M n j ≤ 9999 := by
  unfold y_mk
  split
  · split
    · have := m_cur3_b (w := j) h (by omega) (by omega); omega
    · omega
  · exact hM j
theorem y_mk_0 (P L : Int → Int) (what : Int) : y_mk P what L 0 = L := by funext j; exact if_neg (by omega)
theorem y_mk_s {P L L1 : Int → Int} {what n v : Int} (h0 : 0 ≤ n) (h : L1 = y_mk P what L n) (hv : v = (if n ≤ P 7 then m_cur P n what else -9)) : z_v L1 n v = y_mk P what L (n + 1) := by
  rw [h, hv]; funext j; unfold z_v y_mk; grind
def y_bz (B : Int → Int) (n : Int) : Int → Int := fun j => if 0 ≤ j ∧ j < n then 0 else B j
theorem y_bz_0 (B : Int → Int) : y_bz B 0 = B := by funext j; exact if_neg (by omega)
theorem y_bz_s {B B1 : Int → Int} {n : Int} (h0 : 0 ≤ n) (h : B1 = y_bz B n) : z_v B1 n 0 = y_bz B (n + 1) := by
  rw [h]; funext j; unfold z_v y_bz; grind
def y_lr (U : Int → Int) (top j : Int) : Int := if top ≤ U j then U j - top else 0
def y_lc (U V : Int → Int) (top j : Int) : Int := if top ≤ U j then V j else 0
def y_land (U V B : Int → Int) (top : Int) (P : Int → Int) (n : Int) : Int → Int := fun k =>
  if 0 < n ∧ k = 4 then y_lr U top 0 else if 0 < n ∧ k = 5 then y_lc U V top 0 else if 0 < n ∧ k = 6 then (if top ≤ U 0 ∧ B 0 = 1 then 1 else 0)
  else if 8 + 2 * (P 7 - n + 1) ≤ k ∧ k < 8 + 2 * P 7 then (if (k - 8) % 2 = 0 then y_lr U top (P 7 - (k - 8) / 2) else y_lc U V top (P 7 - (k - 8) / 2)) else P k
theorem y_land_0 (U V B P : Int → Int) (top : Int) : y_land U V B top P 0 = P := by
  funext k; unfold y_land
  rw [if_neg (by omega), if_neg (by omega), if_neg (by omega), if_neg (by omega)]
theorem y_land_1 {U V B P P1 : Int → Int} {top r c f : Int} (h : P1 = y_land U V B top P 0) (hr : r = y_lr U top 0) (hc : c = y_lc U V top 0) (hf : f = (if top ≤ U 0 ∧ B 0 = 1 then 1 else 0)) : z_v (p_goes r c P1) 6 f = y_land U V B top P (0 + 1) := by
  rw [h, y_land_0, hr, hc, hf]; funext k; unfold p_goes z_v y_land; grind
theorem y_land_s {U V B P P1 : Int → Int} {top n r c : Int} (h0 : 0 < n) (hn : n ≤ P 7) (h : P1 = y_land U V B top P n) (hr : r = y_lr U top n) (hc : c = y_lc U V top n) : z_v (z_v P1 (8 + 2 * (P 7 - n)) r) (8 + 2 * (P 7 - n) + 1) c = y_land U V B top P (n + 1) := by
  rw [h, hr, hc]; funext k; unfold z_v y_land; grind
theorem y_land_k {U V B P : Int → Int} {top n k : Int} (h : k = 7 ∨ k < 4 ∨ 14 ≤ k) (h7 : P 7 ≤ 3) (hn : n ≤ P 7 + 1) : y_land U V B top P n k = P k := by
  unfold y_land
  rw [if_neg (by omega), if_neg (by omega), if_neg (by omega), if_neg (by omega)]
/-- poured rows come onto the page -/
def y_tk (X : Int → Int) (lo d hm : Int) (P : Int → Int) (n : Int) : Int → Int := fun k =>
  if 15 + 22 * lo ≤ k ∧ k < 15 + 22 * (lo + n) then (if (k - 15) / 22 - lo < hm then X (22 * (d + ((k - 15) / 22 - lo)) + (k - 15) % 22) else r_blank ((k - 15) % 22)) else P k
theorem y_tk_0 (X P : Int → Int) (lo d hm : Int) : y_tk X lo d hm P 0 = P := by funext k; exact if_neg (by omega)
theorem y_tk_a {X P P1 : Int → Int} {lo d hm n : Int} (h0 : 0 ≤ n) (h : P1 = y_tk X lo d hm P n) (hn : ¬ n < hm) : p_upd P1 (lo + n) r_blank = y_tk X lo d hm P (n + 1) := by
  rw [h]; funext k; unfold p_upd y_tk
  by_cases g : 15 + 22 * (lo + n) ≤ k ∧ k < 15 + 22 * (lo + n) + 22
  · have e1 : (k - 15) / 22 - lo = n := by omega
    have e2 : (k - 15) % 22 = k - (15 + 22 * (lo + n)) := by omega
    rw [if_pos g, if_pos (by omega), e1, if_neg hn, e2]
  · rw [if_neg g]
    by_cases q : 15 + 22 * lo ≤ k ∧ k < 15 + 22 * (lo + n)
    · rw [if_pos q, if_pos (show 15 + 22 * lo ≤ k ∧ k < 15 + 22 * (lo + (n + 1)) by omega)]
    · rw [if_neg q, if_neg (by omega)]
theorem y_tk_b {X P P1 : Int → Int} {lo d hm n : Int} (h0 : 0 ≤ n) (h : P1 = y_tk X lo d hm P n) (hn : n < hm) : p_upd (p_upd P1 (lo + n) r_blank) (lo + n) (fun c => X (22 * (d + n) + c)) = y_tk X lo d hm P (n + 1) := by
  rw [h]; funext k; unfold p_upd y_tk
  by_cases g : 15 + 22 * (lo + n) ≤ k ∧ k < 15 + 22 * (lo + n) + 22
  · have e1 : (k - 15) / 22 - lo = n := by omega
    have e2 : (k - 15) % 22 = k - (15 + 22 * (lo + n)) := by omega
    rw [if_pos g, if_pos (by omega), e1, if_pos hn, e2]
  · rw [if_neg g, if_neg g]
    by_cases q : 15 + 22 * lo ≤ k ∧ k < 15 + 22 * (lo + n)
    · rw [if_pos q, if_pos (show 15 + 22 * lo ≤ k ∧ k < 15 + 22 * (lo + (n + 1)) by omega)]
    · rw [if_neg q, if_neg (by omega)]
theorem y_tk_k {X P : Int → Int} {lo d hm n k : Int} (h0 : 0 ≤ lo) (h : k < 15) : y_tk X lo d hm P n k = P k := if_neg (by omega)
def y_fr (X : Int → Int) (n : Int) : Int → Int := fun k => if 0 ≤ k ∧ k < n then (if k % 22 < 20 then 32 else 0) else X k
theorem y_fr_0 (X : Int → Int) : y_fr X 0 = X := by funext k; exact if_neg (by omega)
theorem y_fr_s {X X1 : Int → Int} {n v : Int} (h0 : 0 ≤ n) (h : X1 = y_fr X n) (hv : v = (if n % 22 < 20 then 32 else 0)) : z_v X1 n v = y_fr X (n + 1) := by
  rw [h, hv]; funext j; unfold z_v y_fr; grind
def y_pg (n h hm : Int) (X P : Int → Int) : Int → Int := y_tk X 24 hm h (y_tk X 0 0 hm (z_v (z_v (z_v (z_v (z_v P 0 n) 1 h) 2 0) 3 (h - 1)) 14 hm) 24) 8
def y_top (P : Int → Int) (n h : Int) : Int := if h < y_many P n then y_many P n - h else 0
def y_base (P : Int → Int) (n h : Int) : Int := if 24 < y_top P n h then y_top P n h - 24 else 0
