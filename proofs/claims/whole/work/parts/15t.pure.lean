theorem m_lno_full {P : Int → Int} {n b : Int} (h0 : 0 ≤ b) (h1 : b ≤ n) (h : m_lno P n b = m_lno P n n) : b = n := by
  rcases Int.lt_or_le b n with q | q
  · have e := m_lno_next (P := P) h0 q
    have g := m_lend_spec (P := P) q
    have m := m_lno_mono P n (a := m_lend P n b + 1) (b := n) (by omega) (by omega)
    omega
  · omega
theorem m_lineA_lof {P : Int → Int} {nn b what : Int} (h0 : 0 ≤ nn) (h1 : 0 ≤ what) (h2 : what ≤ 2) (hb : m_lbeg P (m_count P) nn = b) (hn : b < m_count P) : m_lineA P nn what = m_lof P b (m_lend P (m_count P) b) what := by
  unfold m_lineA
  rw [hb, if_neg (by omega), if_pos hn]
