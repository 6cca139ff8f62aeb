theorem z_lay_0 : ∀ w ∈ u_ws RX0 TX0 3, w ∈ z_WG := by
  intro w hw
  obtain ⟨k, hk, rfl⟩ := List.mem_map.mp hw
  have hk := List.mem_range.mp hk
  match k, hk with
  | 0, _ => exact z_tab 42 (by decide +kernel) rfl
  | 1, _ => exact z_tab 44 (by decide +kernel) rfl
  | 2, _ => exact z_tab 46 (by decide +kernel) rfl
  | k + 3, hk => omega
theorem z_lay_1 : ∀ w ∈ u_ws RX1 TX1 13, w ∈ z_WG := by
  intro w hw
  obtain ⟨k, hk, rfl⟩ := List.mem_map.mp hw
  have hk := List.mem_range.mp hk
  match k, hk with
  | 0, _ => exact z_tab 136 (by decide +kernel) rfl
  | 1, _ => exact z_tab 138 (by decide +kernel) rfl
  | 2, _ => exact z_tab 140 (by decide +kernel) rfl
  | 3, _ => exact z_tab 142 (by decide +kernel) rfl
  | 4, _ => exact z_tab 144 (by decide +kernel) rfl
  | 5, _ => exact z_tab 146 (by decide +kernel) rfl
  | 6, _ => exact z_tab 148 (by decide +kernel) rfl
  | 7, _ => exact z_tab 150 (by decide +kernel) rfl
  | 8, _ => exact z_tab 152 (by decide +kernel) rfl
  | 9, _ => exact z_tab 154 (by decide +kernel) rfl
  | 10, _ => exact z_tab 156 (by decide +kernel) rfl
  | 11, _ => exact z_tab 158 (by decide +kernel) rfl
  | 12, _ => exact z_tab 160 (by decide +kernel) rfl
  | k + 13, hk => omega
theorem z_lay_2 : ∀ w ∈ u_ws RX2 TX2 3, w ∈ z_WG := by
  intro w hw
  obtain ⟨k, hk, rfl⟩ := List.mem_map.mp hw
  have hk := List.mem_range.mp hk
  match k, hk with
  | 0, _ => exact z_tab 68 (by decide +kernel) rfl
  | 1, _ => exact z_tab 70 (by decide +kernel) rfl
  | 2, _ => exact z_tab 72 (by decide +kernel) rfl
  | k + 3, hk => omega
theorem z_lay_3 : ∀ w ∈ u_ws RX3 TX3 9, w ∈ z_WG := by
  intro w hw
  obtain ⟨k, hk, rfl⟩ := List.mem_map.mp hw
  have hk := List.mem_range.mp hk
  match k, hk with
  | 0, _ => exact z_tab 96 (by decide +kernel) rfl
  | 1, _ => exact z_tab 98 (by decide +kernel) rfl
  | 2, _ => exact z_tab 100 (by decide +kernel) rfl
  | 3, _ => exact z_tab 102 (by decide +kernel) rfl
  | 4, _ => exact z_tab 104 (by decide +kernel) rfl
  | 5, _ => exact z_tab 106 (by decide +kernel) rfl
  | 6, _ => exact z_tab 108 (by decide +kernel) rfl
  | 7, _ => exact z_tab 110 (by decide +kernel) rfl
  | 8, _ => exact z_tab 112 (by decide +kernel) rfl
  | k + 9, hk => omega
theorem z_lay_4 : ∀ w ∈ u_ws RX4 TX4 5, w ∈ z_WG := by
  intro w hw
  obtain ⟨k, hk, rfl⟩ := List.mem_map.mp hw
  have hk := List.mem_range.mp hk
  match k, hk with
  | 0, _ => exact z_tab 168 (by decide +kernel) rfl
  | 1, _ => exact z_tab 170 (by decide +kernel) rfl
  | 2, _ => exact z_tab 172 (by decide +kernel) rfl
  | 3, _ => exact z_tab 174 (by decide +kernel) rfl
  | 4, _ => exact z_tab 176 (by decide +kernel) rfl
  | k + 5, hk => omega
theorem z_lay_5 : ∀ w ∈ u_ws RX5 TX5 13, w ∈ z_WG := by
  intro w hw
  obtain ⟨k, hk, rfl⟩ := List.mem_map.mp hw
  have hk := List.mem_range.mp hk
  match k, hk with
  | 0, _ => exact z_tab 621 (by decide +kernel) rfl
  | 1, _ => exact z_tab 623 (by decide +kernel) rfl
  | 2, _ => exact z_tab 625 (by decide +kernel) rfl
  | 3, _ => exact z_tab 627 (by decide +kernel) rfl
  | 4, _ => exact z_tab 629 (by decide +kernel) rfl
  | 5, _ => exact z_tab 631 (by decide +kernel) rfl
  | 6, _ => exact z_tab 633 (by decide +kernel) rfl
  | 7, _ => exact z_tab 635 (by decide +kernel) rfl
  | 8, _ => exact z_tab 637 (by decide +kernel) rfl
  | 9, _ => exact z_tab 639 (by decide +kernel) rfl
  | 10, _ => exact z_tab 641 (by decide +kernel) rfl
  | 11, _ => exact z_tab 643 (by decide +kernel) rfl
  | 12, _ => exact z_tab 645 (by decide +kernel) rfl
  | k + 13, hk => omega
theorem z_cl {ci N : Nat} {C : String} {T : u_T} (h : vwCl[ci]? = some (C, T, N)) : ci < 6 ∧ N = z_NF ci ∧ (∀ k, k < N → parseFieldDescriptor (T k).2.2.1 = some (z_ty ci k)) ∧ (∀ a, a < N → ∀ b, b < N → a ≠ b → (T a).2.1 ≠ (T b).2.1) ∧ (∀ w ∈ u_ws C T N, w ∈ z_WG) := by
  match ci, h with
  | 0, h => cases h; exact ⟨by decide, rfl, tyX0_ok, nmX0, z_lay_0⟩
  | 1, h => cases h; exact ⟨by decide, rfl, tyX1_ok, nmX1, z_lay_1⟩
  | 2, h => cases h; exact ⟨by decide, rfl, tyX2_ok, nmX2, z_lay_2⟩
  | 3, h => cases h; exact ⟨by decide, rfl, tyX3_ok, nmX3, z_lay_3⟩
  | 4, h => cases h; exact ⟨by decide, rfl, tyX4_ok, nmX4, z_lay_4⟩
  | 5, h => cases h; exact ⟨by decide, rfl, tyX5_ok, nmX5, z_lay_5⟩
  | n + 6, h => simp [vwCl] at h
