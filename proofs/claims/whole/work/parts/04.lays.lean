theorem ky_in0 : ∀ w ∈ u_ws (kR 0) (kT 0) (kN 0), w ∈ lw_tbl ∧ goodWord w = true := by
  intro w hw
  obtain ⟨k, hk, rfl⟩ := List.mem_map.mp hw
  have hk : k < 15 := List.mem_range.mp hk
  exact match k, hk with
  | 0, _ => ⟨q236, rfl⟩
  | 1, _ => ⟨q238, rfl⟩
  | 2, _ => ⟨q240, rfl⟩
  | 3, _ => ⟨q242, rfl⟩
  | 4, _ => ⟨q244, rfl⟩
  | 5, _ => ⟨q246, rfl⟩
  | 6, _ => ⟨q248, rfl⟩
  | 7, _ => ⟨q250, rfl⟩
  | 8, _ => ⟨q252, rfl⟩
  | 9, _ => ⟨q254, rfl⟩
  | 10, _ => ⟨q256, rfl⟩
  | 11, _ => ⟨q258, rfl⟩
  | 12, _ => ⟨q260, rfl⟩
  | 13, _ => ⟨q262, rfl⟩
  | 14, _ => ⟨q264, rfl⟩
  | k + 15, hk => absurd hk (by omega)
theorem ky_in1 : ∀ w ∈ u_ws (kR 1) (kT 1) (kN 1), w ∈ lw_tbl ∧ goodWord w = true := by
  intro w hw
  obtain ⟨k, hk, rfl⟩ := List.mem_map.mp hw
  have hk : k < 9 := List.mem_range.mp hk
  exact match k, hk with
  | 0, _ => ⟨q202, rfl⟩
  | 1, _ => ⟨q204, rfl⟩
  | 2, _ => ⟨q206, rfl⟩
  | 3, _ => ⟨q208, rfl⟩
  | 4, _ => ⟨q210, rfl⟩
  | 5, _ => ⟨q212, rfl⟩
  | 6, _ => ⟨q214, rfl⟩
  | 7, _ => ⟨q216, rfl⟩
  | 8, _ => ⟨q218, rfl⟩
  | k + 9, hk => absurd hk (by omega)
theorem ky_in2 : ∀ w ∈ u_ws (kR 2) (kT 2) (kN 2), w ∈ lw_tbl ∧ goodWord w = true := by
  intro w hw
  obtain ⟨k, hk, rfl⟩ := List.mem_map.mp hw
  have hk : k < 3 := List.mem_range.mp hk
  exact match k, hk with
  | 0, _ => ⟨q125, rfl⟩
  | 1, _ => ⟨q127, rfl⟩
  | 2, _ => ⟨q129, rfl⟩
  | k + 3, hk => absurd hk (by omega)
theorem ky_in3 : ∀ w ∈ u_ws (kR 3) (kT 3) (kN 3), w ∈ lw_tbl ∧ goodWord w = true := by
  intro w hw
  obtain ⟨k, hk, rfl⟩ := List.mem_map.mp hw
  have hk : k < 11 := List.mem_range.mp hk
  exact match k, hk with
  | 0, _ => ⟨q625, rfl⟩
  | 1, _ => ⟨q627, rfl⟩
  | 2, _ => ⟨q629, rfl⟩
  | 3, _ => ⟨q631, rfl⟩
  | 4, _ => ⟨q633, rfl⟩
  | 5, _ => ⟨q635, rfl⟩
  | 6, _ => ⟨q637, rfl⟩
  | 7, _ => ⟨q639, rfl⟩
  | 8, _ => ⟨q641, rfl⟩
  | 9, _ => ⟨q643, rfl⟩
  | 10, _ => ⟨q645, rfl⟩
  | k + 11, hk => absurd hk (by omega)
theorem ky_in4 : ∀ w ∈ u_ws (kR 4) (kT 4) (kN 4), w ∈ lw_tbl ∧ goodWord w = true := by
  intro w hw
  obtain ⟨k, hk, rfl⟩ := List.mem_map.mp hw
  have hk : k < 3 := List.mem_range.mp hk
  exact match k, hk with
  | 0, _ => ⟨q108, rfl⟩
  | 1, _ => ⟨q110, rfl⟩
  | 2, _ => ⟨q112, rfl⟩
  | k + 3, hk => absurd hk (by omega)
theorem ky_in5 : ∀ w ∈ u_ws (kR 5) (kT 5) (kN 5), w ∈ lw_tbl ∧ goodWord w = true := by
  intro w hw
  obtain ⟨k, hk, rfl⟩ := List.mem_map.mp hw
  have hk : k < 4 := List.mem_range.mp hk
  exact match k, hk with
  | 0, _ => ⟨q83, rfl⟩
  | 1, _ => ⟨q85, rfl⟩
  | 2, _ => ⟨q87, rfl⟩
  | 3, _ => ⟨q89, rfl⟩
  | k + 4, hk => absurd hk (by omega)
theorem ky_in6 : ∀ w ∈ u_ws (kR 6) (kT 6) (kN 6), w ∈ lw_tbl ∧ goodWord w = true := by
  intro w hw
  obtain ⟨k, hk, rfl⟩ := List.mem_map.mp hw
  have hk : k < 3 := List.mem_range.mp hk
  exact match k, hk with
  | 0, _ => ⟨q45, rfl⟩
  | 1, _ => ⟨q47, rfl⟩
  | 2, _ => ⟨q49, rfl⟩
  | k + 3, hk => absurd hk (by omega)
theorem ky_in7 : ∀ w ∈ u_ws (kR 7) (kT 7) (kN 7), w ∈ lw_tbl ∧ goodWord w = true := by
  intro w hw
  obtain ⟨k, hk, rfl⟩ := List.mem_map.mp hw
  have hk : k < 4 := List.mem_range.mp hk
  exact match k, hk with
  | 0, _ => ⟨q152, rfl⟩
  | 1, _ => ⟨q154, rfl⟩
  | 2, _ => ⟨q156, rfl⟩
  | 3, _ => ⟨q158, rfl⟩
  | k + 4, hk => absurd hk (by omega)
theorem ky_in8 : ∀ w ∈ u_ws (kR 8) (kT 8) (kN 8), w ∈ lw_tbl ∧ goodWord w = true := by
  intro w hw
  obtain ⟨k, hk, rfl⟩ := List.mem_map.mp hw
  have hk : k < 5 := List.mem_range.mp hk
  exact match k, hk with
  | 0, _ => ⟨q172, rfl⟩
  | 1, _ => ⟨q174, rfl⟩
  | 2, _ => ⟨q176, rfl⟩
  | 3, _ => ⟨q178, rfl⟩
  | 4, _ => ⟨q180, rfl⟩
  | k + 5, hk => absurd hk (by omega)
theorem ky_in9 : ∀ w ∈ u_ws (kR 9) (kT 9) (kN 9), w ∈ lw_tbl ∧ goodWord w = true := by
  intro w hw
  obtain ⟨k, hk, rfl⟩ := List.mem_map.mp hw
  have hk : k < 3 := List.mem_range.mp hk
  exact match k, hk with
  | 0, _ => ⟨q65, rfl⟩
  | 1, _ => ⟨q67, rfl⟩
  | 2, _ => ⟨q69, rfl⟩
  | k + 3, hk => absurd hk (by omega)
theorem ky_in10 : ∀ w ∈ u_ws (kR 10) (kT 10) (kN 10), w ∈ lw_tbl ∧ goodWord w = true := by
  intro w hw
  obtain ⟨k, hk, rfl⟩ := List.mem_map.mp hw
  have hk : k < 2 := List.mem_range.mp hk
  exact match k, hk with
  | 0, _ => ⟨q462, rfl⟩
  | 1, _ => ⟨q464, rfl⟩
  | k + 2, hk => absurd hk (by omega)
theorem ky_in11 : ∀ w ∈ u_ws (kR 11) (kT 11) (kN 11), w ∈ lw_tbl ∧ goodWord w = true := by
  intro w hw
  obtain ⟨k, hk, rfl⟩ := List.mem_map.mp hw
  have hk : k < 49 := List.mem_range.mp hk
  exact match k, hk with
  | 0, _ => ⟨q753, rfl⟩
  | 1, _ => ⟨q755, rfl⟩
  | 2, _ => ⟨q757, rfl⟩
  | 3, _ => ⟨q759, rfl⟩
  | 4, _ => ⟨q761, rfl⟩
  | 5, _ => ⟨q763, rfl⟩
  | 6, _ => ⟨q765, rfl⟩
  | 7, _ => ⟨q767, rfl⟩
  | 8, _ => ⟨q769, rfl⟩
  | 9, _ => ⟨q771, rfl⟩
  | 10, _ => ⟨q773, rfl⟩
  | 11, _ => ⟨q775, rfl⟩
  | 12, _ => ⟨q777, rfl⟩
  | 13, _ => ⟨q779, rfl⟩
  | 14, _ => ⟨q781, rfl⟩
  | 15, _ => ⟨q783, rfl⟩
  | 16, _ => ⟨q785, rfl⟩
  | 17, _ => ⟨q787, rfl⟩
  | 18, _ => ⟨q789, rfl⟩
  | 19, _ => ⟨q791, rfl⟩
  | 20, _ => ⟨q793, rfl⟩
  | 21, _ => ⟨q795, rfl⟩
  | 22, _ => ⟨q797, rfl⟩
  | 23, _ => ⟨q799, rfl⟩
  | 24, _ => ⟨q801, rfl⟩
  | 25, _ => ⟨q803, rfl⟩
  | 26, _ => ⟨q805, rfl⟩
  | 27, _ => ⟨q807, rfl⟩
  | 28, _ => ⟨q809, rfl⟩
  | 29, _ => ⟨q811, rfl⟩
  | 30, _ => ⟨q813, rfl⟩
  | 31, _ => ⟨q815, rfl⟩
  | 32, _ => ⟨q817, rfl⟩
  | 33, _ => ⟨q819, rfl⟩
  | 34, _ => ⟨q821, rfl⟩
  | 35, _ => ⟨q823, rfl⟩
  | 36, _ => ⟨q825, rfl⟩
  | 37, _ => ⟨q827, rfl⟩
  | 38, _ => ⟨q829, rfl⟩
  | 39, _ => ⟨q831, rfl⟩
  | 40, _ => ⟨q833, rfl⟩
  | 41, _ => ⟨q835, rfl⟩
  | 42, _ => ⟨q837, rfl⟩
  | 43, _ => ⟨q839, rfl⟩
  | 44, _ => ⟨q841, rfl⟩
  | 45, _ => ⟨q843, rfl⟩
  | 46, _ => ⟨q845, rfl⟩
  | 47, _ => ⟨q847, rfl⟩
  | 48, _ => ⟨q849, rfl⟩
  | k + 49, hk => absurd hk (by omega)
theorem ky_in {c : Nat} (h : c < 12) : ∀ w ∈ u_ws (kR c) (kT c) (kN c), w ∈ lw_tbl ∧ goodWord w = true := by
  rcases (show c = 0 ∨ c = 1 ∨ c = 2 ∨ c = 3 ∨ c = 4 ∨ c = 5 ∨ c = 6 ∨ c = 7 ∨ c = 8 ∨ c = 9 ∨ c = 10 ∨ c = 11 by omega) with rfl | rfl | rfl | rfl | rfl | rfl | rfl | rfl | rfl | rfl | rfl | rfl
  · exact ky_in0
  · exact ky_in1
  · exact ky_in2
  · exact ky_in3
  · exact ky_in4
  · exact ky_in5
  · exact ky_in6
  · exact ky_in7
  · exact ky_in8
  · exact ky_in9
  · exact ky_in10
  · exact ky_in11
