theorem z_lay_0 : ∀ w ∈ u_ws RX0 TX0 3, w ∈ z_WG := by
  intro w hw
  obtain ⟨k, hk, rfl⟩ := List.mem_map.mp hw
  have hk := List.mem_range.mp hk
  match k, hk with
  | 0, _ => exact z_tab 41 (by decide +kernel) rfl
  | 1, _ => exact z_tab 43 (by decide +kernel) rfl
  | 2, _ => exact z_tab 45 (by decide +kernel) rfl
  | k + 3, hk => omega
theorem z_lay_1 : ∀ w ∈ u_ws RX1 TX1 13, w ∈ z_WG := by
  intro w hw
  obtain ⟨k, hk, rfl⟩ := List.mem_map.mp hw
  have hk := List.mem_range.mp hk
  match k, hk with
  | 0, _ => exact z_tab 134 (by decide +kernel) rfl
  | 1, _ => exact z_tab 136 (by decide +kernel) rfl
  | 2, _ => exact z_tab 138 (by decide +kernel) rfl
  | 3, _ => exact z_tab 140 (by decide +kernel) rfl
  | 4, _ => exact z_tab 142 (by decide +kernel) rfl
  | 5, _ => exact z_tab 144 (by decide +kernel) rfl
  | 6, _ => exact z_tab 146 (by decide +kernel) rfl
  | 7, _ => exact z_tab 148 (by decide +kernel) rfl
  | 8, _ => exact z_tab 150 (by decide +kernel) rfl
  | 9, _ => exact z_tab 152 (by decide +kernel) rfl
  | 10, _ => exact z_tab 154 (by decide +kernel) rfl
  | 11, _ => exact z_tab 156 (by decide +kernel) rfl
  | 12, _ => exact z_tab 158 (by decide +kernel) rfl
  | k + 13, hk => omega
theorem z_lay_2 : ∀ w ∈ u_ws RX2 TX2 3, w ∈ z_WG := by
  intro w hw
  obtain ⟨k, hk, rfl⟩ := List.mem_map.mp hw
  have hk := List.mem_range.mp hk
  match k, hk with
  | 0, _ => exact z_tab 67 (by decide +kernel) rfl
  | 1, _ => exact z_tab 69 (by decide +kernel) rfl
  | 2, _ => exact z_tab 71 (by decide +kernel) rfl
  | k + 3, hk => omega
theorem z_lay_3 : ∀ w ∈ u_ws RX3 TX3 9, w ∈ z_WG := by
  intro w hw
  obtain ⟨k, hk, rfl⟩ := List.mem_map.mp hw
  have hk := List.mem_range.mp hk
  match k, hk with
  | 0, _ => exact z_tab 95 (by decide +kernel) rfl
  | 1, _ => exact z_tab 97 (by decide +kernel) rfl
  | 2, _ => exact z_tab 99 (by decide +kernel) rfl
  | 3, _ => exact z_tab 101 (by decide +kernel) rfl
  | 4, _ => exact z_tab 103 (by decide +kernel) rfl
  | 5, _ => exact z_tab 105 (by decide +kernel) rfl
  | 6, _ => exact z_tab 107 (by decide +kernel) rfl
  | 7, _ => exact z_tab 109 (by decide +kernel) rfl
  | 8, _ => exact z_tab 111 (by decide +kernel) rfl
  | k + 9, hk => omega
theorem z_lay_4 : ∀ w ∈ u_ws RX4 TX4 5, w ∈ z_WG := by
  intro w hw
  obtain ⟨k, hk, rfl⟩ := List.mem_map.mp hw
  have hk := List.mem_range.mp hk
  match k, hk with
  | 0, _ => exact z_tab 166 (by decide +kernel) rfl
  | 1, _ => exact z_tab 168 (by decide +kernel) rfl
  | 2, _ => exact z_tab 170 (by decide +kernel) rfl
  | 3, _ => exact z_tab 172 (by decide +kernel) rfl
  | 4, _ => exact z_tab 174 (by decide +kernel) rfl
  | k + 5, hk => omega
theorem z_cl {ci N : Nat} {C : String} {T : u_T} (h : vwCl[ci]? = some (C, T, N)) : ci < 6 ∧ N = z_NF ci ∧ (∀ k, k < N → parseFieldDescriptor (T k).2.2.1 = some (z_ty ci k)) ∧ (∀ a, a < N → ∀ b, b < N → a ≠ b → (T a).2.1 ≠ (T b).2.1) ∧ (∀ w ∈ u_ws C T N, w ∈ z_WG) := by
  match ci, h with
  | 0, h => cases h; exact ⟨by decide, rfl, tyX0_ok, nmX0, z_lay_0⟩
  | 1, h => cases h; exact ⟨by decide, rfl, tyX1_ok, nmX1, z_lay_1⟩
  | 2, h => cases h; exact ⟨by decide, rfl, tyX2_ok, nmX2, z_lay_2⟩
  | 3, h => cases h; exact ⟨by decide, rfl, tyX3_ok, nmX3, z_lay_3⟩
  | 4, h => cases h; exact ⟨by decide, rfl, tyX4_ok, nmX4, z_lay_4⟩
  | n + 5, h => simp [vwCl] at h
