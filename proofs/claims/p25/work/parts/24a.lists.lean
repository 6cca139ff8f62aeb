/-! lines as lists: without the blanks at their ends, without the empty ones behind the last that is not -/
def t_rim : List Int → List Int
  | [] => []
  | a :: l => if t_rim l = [] ∧ a = 32 then [] else a :: t_rim l
def t_cut : List (List Int) → List (List Int)
  | [] => []
  | l :: ll => if t_cut ll = [] ∧ t_rim l = [] then [] else t_rim l :: t_cut ll
theorem t_rim_c (a : Int) (l : List Int) : t_rim (a :: l) = if t_rim l = [] ∧ a = 32 then [] else a :: t_rim l := rfl
theorem t_cut_c (l : List Int) (ll : List (List Int)) : t_cut (l :: ll) = if t_cut ll = [] ∧ t_rim l = [] then [] else t_rim l :: t_cut ll := rfl
theorem t_rim_bl : ∀ n : Nat, t_rim (List.replicate n 32) = [] := by
  intro n
  induction n with
  | zero => rfl
  | succ n ih => rw [List.replicate_succ, t_rim_c, if_pos ⟨ih, rfl⟩]
theorem t_rim_app {l m m' : List Int} (h : t_rim m = t_rim m') : t_rim (l ++ m) = t_rim (l ++ m') := by
  induction l with
  | nil => exact h
  | cons a l ih => rw [List.cons_append, List.cons_append, t_rim_c, t_rim_c, ih]
theorem t_rim_pad (l : List Int) (n : Nat) : t_rim (l ++ List.replicate n 32) = t_rim l := by
  have := t_rim_app (l := l) (m := List.replicate n 32) (m' := []) (t_rim_bl n)
  rw [this, List.append_nil]
theorem t_cut_inv {a b : List Int} {A B : List (List Int)} (h : t_cut (a :: A) = t_cut (b :: B)) : t_rim a = t_rim b ∧ t_cut A = t_cut B := by
  rw [t_cut_c, t_cut_c] at h
  by_cases q : t_cut A = [] ∧ t_rim a = []
  · rw [if_pos q] at h
    by_cases q2 : t_cut B = [] ∧ t_rim b = []
    · rw [q.1, q.2, q2.1, q2.2]; exact ⟨rfl, rfl⟩
    · rw [if_neg q2] at h; exact absurd h (by simp)
  · rw [if_neg q] at h
    by_cases q2 : t_cut B = [] ∧ t_rim b = []
    · rw [if_pos q2] at h; exact absurd h (by simp)
    · rw [if_neg q2] at h; exact List.cons_eq_cons.mp h
theorem t_cut_of {a b : List Int} {A B : List (List Int)} (h : t_rim a = t_rim b) (h2 : t_cut A = t_cut B) : t_cut (a :: A) = t_cut (b :: B) := by
  rw [t_cut_c, t_cut_c, h, h2]
theorem t_cut_app {A B B' : List (List Int)} (h : t_cut B = t_cut B') : t_cut (A ++ B) = t_cut (A ++ B') := by
  induction A with
  | nil => exact h
  | cons a A ih => exact t_cut_of rfl ih
/-- lines that are as these, but for blanks at their ends -/
def t_pad : List (List Int) → List (List Int) → Prop
  | [], [] => True
  | a :: A, b :: B => (∃ n, a = b ++ List.replicate n 32) ∧ t_pad A B
  | _, _ => False
theorem t_pad_cut : ∀ {A B : List (List Int)}, t_pad A B → t_cut A = t_cut B := by
  intro A
  induction A with
  | nil => intro B h; cases B with
    | nil => rfl
    | cons b B => exact absurd h (fun x => x)
  | cons a A ih => intro B h; cases B with
    | nil => exact absurd h (fun x => x)
    | cons b B =>
      obtain ⟨⟨n, rfl⟩, h2⟩ := h
      exact t_cut_of (t_rim_pad b n) (ih h2)
theorem t_pad_snoc : ∀ {A B : List (List Int)} {a b : List Int}, t_pad A B → (∃ n, a = b ++ List.replicate n 32) → t_pad (A ++ [a]) (B ++ [b]) := by
  intro A
  induction A with
  | nil => intro B a b h h2; cases B with
    | nil => exact ⟨h2, trivial⟩
    | cons c B => exact absurd h (fun x => x)
  | cons c A ih => intro B a b h h2; cases B with
    | nil => exact absurd h (fun x => x)
    | cons d B => exact ⟨h.1, ih h.2 h2⟩
/-- rows, each with its signs and whether it has a wrap, as lines: the first one, and those behind it -/
def l_of : List (List Int × Bool) → List Int × List (List Int)
  | [] => ([], [])
  | (s, true) :: t => (s ++ (l_of t).1, (l_of t).2)
  | (s, false) :: t => (s, (l_of t).1 :: (l_of t).2)
def l_all (t : List (List Int × Bool)) : List (List Int) := (l_of t).1 :: (l_of t).2
theorem l_all_f (s : List Int) (t : List (List Int × Bool)) : l_all ((s, false) :: t) = s :: l_all t := rfl
theorem l_all_t (s : List Int) (t : List (List Int × Bool)) : l_all ((s, true) :: t) = (s ++ (l_of t).1) :: (l_of t).2 := rfl
/-- blank rows behind others change nothing -/
def l_bl (t : List (List Int × Bool)) : Prop := ∀ q ∈ t, ∃ n, q.1 = List.replicate n 32
theorem l_all_bl : ∀ {t : List (List Int × Bool)}, l_bl t → t_cut (l_all t) = [] ∧ t_rim (l_of t).1 = [] ∧ t_cut (l_of t).2 = [] := by
  intro t
  induction t with
  | nil => intro _; exact ⟨rfl, rfl, rfl⟩
  | cons q t ih =>
    intro h
    obtain ⟨h1, h2, h3⟩ := ih (fun x hx => h x (List.mem_cons_of_mem _ hx))
    obtain ⟨n, hn⟩ := h q List.mem_cons_self
    obtain ⟨s, b⟩ := q
    have hn : s = List.replicate n 32 := hn
    subst hn
    cases b with
    | false =>
      rw [l_all_f]
      exact ⟨by rw [t_cut_c, if_pos ⟨h1, t_rim_bl n⟩], t_rim_bl n, h1⟩
    | true =>
      rw [l_all_t]
      have e : t_rim (List.replicate n 32 ++ (l_of t).1) = [] := by
        rw [t_rim_app (m' := []) h2, List.append_nil]; exact t_rim_bl n
      exact ⟨by rw [t_cut_c, if_pos ⟨h3, e⟩], e, h3⟩
theorem l_all_app {t : List (List Int × Bool)} (h : l_bl t) : ∀ A : List (List Int × Bool), t_cut (l_all (A ++ t)) = t_cut (l_all A) := by
  intro A
  induction A with
  | nil => exact (l_all_bl h).1
  | cons q A ih =>
    obtain ⟨s, b⟩ := q
    cases b with
    | false =>
      rw [List.cons_append, l_all_f, l_all_f]
      exact t_cut_of rfl ih
    | true =>
      rw [List.cons_append, l_all_t, l_all_t]
      obtain ⟨i1, i2⟩ := t_cut_inv ih
      exact t_cut_of (t_rim_app i1) i2
/-! the signs of a row, in pieces -/
theorem n_ss_add (r : Int → Int) (m : Nat) : ∀ (n : Nat) (c : Int), n_ss r c (n + m) = n_ss r c n ++ n_ss r (c + n) m := by
  intro n
  induction n with
  | zero => intro c; rw [Nat.zero_add, show c + ((0 : Nat) : Int) = c by omega]; rfl
  | succ n ih =>
    intro c
    rw [show n + 1 + m = (n + m) + 1 by omega]
    show (if 128 ≤ r c then n_ss r (c + 1) (n + m) else r c :: n_ss r (c + 1) (n + m)) = (if 128 ≤ r c then n_ss r (c + 1) n else r c :: n_ss r (c + 1) n) ++ n_ss r (c + ((n + 1 : Nat) : Int)) m
    rw [ih, show c + 1 + (n : Int) = c + ((n + 1 : Nat) : Int) by omega]
    split
    · rfl
    · rfl
theorem n_ss_c {r r' : Int → Int} : ∀ (n : Nat) (c : Int), (∀ j, c ≤ j → j < c + n → r' j = r j) → n_ss r' c n = n_ss r c n := by
  intro n
  induction n with
  | zero => intro c _; rfl
  | succ n ih =>
    intro c h
    show (if 128 ≤ r' c then n_ss r' (c + 1) n else r' c :: n_ss r' (c + 1) n) = (if 128 ≤ r c then n_ss r (c + 1) n else r c :: n_ss r (c + 1) n)
    rw [h c (by omega) (by omega), ih (c + 1) (fun j j0 j1 => h j (by omega) (by omega))]
theorem n_ss_bl {r : Int → Int} : ∀ (n : Nat) (c : Int), (∀ j, c ≤ j → j < c + n → r j = 32) → n_ss r c n = List.replicate n 32 := by
  intro n
  induction n with
  | zero => intro c _; rfl
  | succ n ih =>
    intro c h
    show (if 128 ≤ r c then n_ss r (c + 1) n else r c :: n_ss r (c + 1) n) = _
    rw [h c (by omega) (by omega), if_neg (by decide), ih (c + 1) (fun j j0 j1 => h j (by omega) (by omega)), List.replicate_succ]
theorem n_ss_pad {r : Int → Int} {a b : Int} (a0 : 0 ≤ a) (ab : a ≤ b) (h : ∀ j, a ≤ j → j < b → r j = 32) : n_ss r 0 b.toNat = n_ss r 0 a.toNat ++ List.replicate (b - a).toNat 32 := by
  rw [show b.toNat = a.toNat + (b - a).toNat by omega, n_ss_add, n_ss_bl (b - a).toNat (0 + (a.toNat : Int)) (fun j j0 j1 => h j (by omega) (by omega))]
theorem n_used_bl (r : Int → Int) : ∀ (n : Nat) (j : Int), n_used r n ≤ j → j < n → r j = 32 := by
  intro n
  induction n with
  | zero => intro j h0 h1; have := (n_used_b r 0).1; omega
  | succ n ih =>
    intro j h0 h1
    have h0 : (if r (n : Nat) = 32 then n_used r n else ((n + 1 : Nat) : Int)) ≤ j := h0
    by_cases q : r (n : Nat) = 32
    · rw [if_pos q] at h0
      by_cases q2 : j = (n : Nat)
      · rw [q2]; exact q
      · exact ih j h0 (by omega)
    · rw [if_neg q] at h0; omega
