/-! the classes; the handlers -/
def sTg0B (b : Nat) (ty : FieldType) : Bool := match b, ty with
  | 0, .int => true
  | 1, .boolean => true
  | 2, .object _ => true
  | 2, .array _ => true
  | _, _ => false
theorem sTg0B_ok {b : Nat} {ty : FieldType} (h : sTg0B b ty = true) : sTg0 b ty := by
  unfold sTg0B at h
  split at h
  · rfl
  · rfl
  · exact Or.inl ⟨_, rfl⟩
  · exact Or.inr ⟨_, rfl⟩
  · cases h
theorem sCl0_ok : (∀ w ∈ u_ws RX0 TX0 2, w ∈ sGW) ∧ (∀ a, a < 2 → ∀ b, b < 2 → a ≠ b → (TX0 a).2.1 ≠ (TX0 b).2.1) ∧ ∃ ty0 : Nat → FieldType, (∀ j, j < 2 → parseFieldDescriptor (TX0 j).2.2.1 = some (ty0 j)) ∧ ∀ j, j < 2 → sTg0 (sTb (64 * 0 + j)) (ty0 j) := by
  refine ⟨fun w hw => ?_, nmX0, tyX0, tyX0_ok, fun j hj => sTg0B_ok ?_⟩
  · have h1 : u_ws RX0 TX0 2 = sLy0.filterMap (fun p => (sTk (p / 1000))[p % 1000]?) := by decide +kernel
    have h2 : (u_ws RX0 TX0 2).all sWm = true := by decide +kernel
    have h3 := List.all_eq_true.mp h2 w hw
    rw [h1] at hw
    obtain ⟨p, -, hp⟩ := List.mem_filterMap.mp hw
    exact List.mem_filter.mpr ⟨sTk_in (List.mem_of_getElem? hp), h3⟩
  · have h : (List.range 2).all (fun j => sTg0B (sTb (64 * 0 + j)) (tyX0 j)) = true := by decide +kernel
    exact List.all_eq_true.mp h j (List.mem_range.mpr hj)
theorem sCl1_ok : (∀ w ∈ u_ws RX1 TX1 7, w ∈ sGW) ∧ (∀ a, a < 7 → ∀ b, b < 7 → a ≠ b → (TX1 a).2.1 ≠ (TX1 b).2.1) ∧ ∃ ty0 : Nat → FieldType, (∀ j, j < 7 → parseFieldDescriptor (TX1 j).2.2.1 = some (ty0 j)) ∧ ∀ j, j < 7 → sTg0 (sTb (64 * 1 + j)) (ty0 j) := by
  refine ⟨fun w hw => ?_, nmX1, tyX1, tyX1_ok, fun j hj => sTg0B_ok ?_⟩
  · have h1 : u_ws RX1 TX1 7 = sLy1.filterMap (fun p => (sTk (p / 1000))[p % 1000]?) := by decide +kernel
    have h2 : (u_ws RX1 TX1 7).all sWm = true := by decide +kernel
    have h3 := List.all_eq_true.mp h2 w hw
    rw [h1] at hw
    obtain ⟨p, -, hp⟩ := List.mem_filterMap.mp hw
    exact List.mem_filter.mpr ⟨sTk_in (List.mem_of_getElem? hp), h3⟩
  · have h : (List.range 7).all (fun j => sTg0B (sTb (64 * 1 + j)) (tyX1 j)) = true := by decide +kernel
    exact List.all_eq_true.mp h j (List.mem_range.mpr hj)
theorem sCl2_ok : (∀ w ∈ u_ws RX2 TX2 4, w ∈ sGW) ∧ (∀ a, a < 4 → ∀ b, b < 4 → a ≠ b → (TX2 a).2.1 ≠ (TX2 b).2.1) ∧ ∃ ty0 : Nat → FieldType, (∀ j, j < 4 → parseFieldDescriptor (TX2 j).2.2.1 = some (ty0 j)) ∧ ∀ j, j < 4 → sTg0 (sTb (64 * 2 + j)) (ty0 j) := by
  refine ⟨fun w hw => ?_, nmX2, tyX2, tyX2_ok, fun j hj => sTg0B_ok ?_⟩
  · have h1 : u_ws RX2 TX2 4 = sLy2.filterMap (fun p => (sTk (p / 1000))[p % 1000]?) := by decide +kernel
    have h2 : (u_ws RX2 TX2 4).all sWm = true := by decide +kernel
    have h3 := List.all_eq_true.mp h2 w hw
    rw [h1] at hw
    obtain ⟨p, -, hp⟩ := List.mem_filterMap.mp hw
    exact List.mem_filter.mpr ⟨sTk_in (List.mem_of_getElem? hp), h3⟩
  · have h : (List.range 4).all (fun j => sTg0B (sTb (64 * 2 + j)) (tyX2 j)) = true := by decide +kernel
    exact List.all_eq_true.mp h j (List.mem_range.mpr hj)
theorem sCl3_ok : (∀ w ∈ u_ws RX3 TX3 1, w ∈ sGW) ∧ (∀ a, a < 1 → ∀ b, b < 1 → a ≠ b → (TX3 a).2.1 ≠ (TX3 b).2.1) ∧ ∃ ty0 : Nat → FieldType, (∀ j, j < 1 → parseFieldDescriptor (TX3 j).2.2.1 = some (ty0 j)) ∧ ∀ j, j < 1 → sTg0 (sTb (64 * 3 + j)) (ty0 j) := by
  refine ⟨fun w hw => ?_, nmX3, tyX3, tyX3_ok, fun j hj => sTg0B_ok ?_⟩
  · have h1 : u_ws RX3 TX3 1 = sLy3.filterMap (fun p => (sTk (p / 1000))[p % 1000]?) := by decide +kernel
    have h2 : (u_ws RX3 TX3 1).all sWm = true := by decide +kernel
    have h3 := List.all_eq_true.mp h2 w hw
    rw [h1] at hw
    obtain ⟨p, -, hp⟩ := List.mem_filterMap.mp hw
    exact List.mem_filter.mpr ⟨sTk_in (List.mem_of_getElem? hp), h3⟩
  · have h : (List.range 1).all (fun j => sTg0B (sTb (64 * 3 + j)) (tyX3 j)) = true := by decide +kernel
    exact List.all_eq_true.mp h j (List.mem_range.mpr hj)
theorem sCl4_ok : (∀ w ∈ u_ws RX4 TX4 3, w ∈ sGW) ∧ (∀ a, a < 3 → ∀ b, b < 3 → a ≠ b → (TX4 a).2.1 ≠ (TX4 b).2.1) ∧ ∃ ty0 : Nat → FieldType, (∀ j, j < 3 → parseFieldDescriptor (TX4 j).2.2.1 = some (ty0 j)) ∧ ∀ j, j < 3 → sTg0 (sTb (64 * 4 + j)) (ty0 j) := by
  refine ⟨fun w hw => ?_, nmX4, tyX4, tyX4_ok, fun j hj => sTg0B_ok ?_⟩
  · have h1 : u_ws RX4 TX4 3 = sLy4.filterMap (fun p => (sTk (p / 1000))[p % 1000]?) := by decide +kernel
    have h2 : (u_ws RX4 TX4 3).all sWm = true := by decide +kernel
    have h3 := List.all_eq_true.mp h2 w hw
    rw [h1] at hw
    obtain ⟨p, -, hp⟩ := List.mem_filterMap.mp hw
    exact List.mem_filter.mpr ⟨sTk_in (List.mem_of_getElem? hp), h3⟩
  · have h : (List.range 3).all (fun j => sTg0B (sTb (64 * 4 + j)) (tyX4 j)) = true := by decide +kernel
    exact List.all_eq_true.mp h j (List.mem_range.mpr hj)
theorem sCl5_ok : (∀ w ∈ u_ws RX5 TX5 6, w ∈ sGW) ∧ (∀ a, a < 6 → ∀ b, b < 6 → a ≠ b → (TX5 a).2.1 ≠ (TX5 b).2.1) ∧ ∃ ty0 : Nat → FieldType, (∀ j, j < 6 → parseFieldDescriptor (TX5 j).2.2.1 = some (ty0 j)) ∧ ∀ j, j < 6 → sTg0 (sTb (64 * 5 + j)) (ty0 j) := by
  refine ⟨fun w hw => ?_, nmX5, tyX5, tyX5_ok, fun j hj => sTg0B_ok ?_⟩
  · have h1 : u_ws RX5 TX5 6 = sLy5.filterMap (fun p => (sTk (p / 1000))[p % 1000]?) := by decide +kernel
    have h2 : (u_ws RX5 TX5 6).all sWm = true := by decide +kernel
    have h3 := List.all_eq_true.mp h2 w hw
    rw [h1] at hw
    obtain ⟨p, -, hp⟩ := List.mem_filterMap.mp hw
    exact List.mem_filter.mpr ⟨sTk_in (List.mem_of_getElem? hp), h3⟩
  · have h : (List.range 6).all (fun j => sTg0B (sTb (64 * 5 + j)) (tyX5 j)) = true := by decide +kernel
    exact List.all_eq_true.mp h j (List.mem_range.mpr hj)
theorem sCl6_ok : (∀ w ∈ u_ws RX6 TX6 4, w ∈ sGW) ∧ (∀ a, a < 4 → ∀ b, b < 4 → a ≠ b → (TX6 a).2.1 ≠ (TX6 b).2.1) ∧ ∃ ty0 : Nat → FieldType, (∀ j, j < 4 → parseFieldDescriptor (TX6 j).2.2.1 = some (ty0 j)) ∧ ∀ j, j < 4 → sTg0 (sTb (64 * 6 + j)) (ty0 j) := by
  refine ⟨fun w hw => ?_, nmX6, tyX6, tyX6_ok, fun j hj => sTg0B_ok ?_⟩
  · have h1 : u_ws RX6 TX6 4 = sLy6.filterMap (fun p => (sTk (p / 1000))[p % 1000]?) := by decide +kernel
    have h2 : (u_ws RX6 TX6 4).all sWm = true := by decide +kernel
    have h3 := List.all_eq_true.mp h2 w hw
    rw [h1] at hw
    obtain ⟨p, -, hp⟩ := List.mem_filterMap.mp hw
    exact List.mem_filter.mpr ⟨sTk_in (List.mem_of_getElem? hp), h3⟩
  · have h : (List.range 4).all (fun j => sTg0B (sTb (64 * 6 + j)) (tyX6 j)) = true := by decide +kernel
    exact List.all_eq_true.mp h j (List.mem_range.mpr hj)
theorem sCl7_ok : (∀ w ∈ u_ws RX7 TX7 11, w ∈ sGW) ∧ (∀ a, a < 11 → ∀ b, b < 11 → a ≠ b → (TX7 a).2.1 ≠ (TX7 b).2.1) ∧ ∃ ty0 : Nat → FieldType, (∀ j, j < 11 → parseFieldDescriptor (TX7 j).2.2.1 = some (ty0 j)) ∧ ∀ j, j < 11 → sTg0 (sTb (64 * 7 + j)) (ty0 j) := by
  refine ⟨fun w hw => ?_, nmX7, tyX7, tyX7_ok, fun j hj => sTg0B_ok ?_⟩
  · have h1 : u_ws RX7 TX7 11 = sLy7.filterMap (fun p => (sTk (p / 1000))[p % 1000]?) := by decide +kernel
    have h2 : (u_ws RX7 TX7 11).all sWm = true := by decide +kernel
    have h3 := List.all_eq_true.mp h2 w hw
    rw [h1] at hw
    obtain ⟨p, -, hp⟩ := List.mem_filterMap.mp hw
    exact List.mem_filter.mpr ⟨sTk_in (List.mem_of_getElem? hp), h3⟩
  · have h : (List.range 11).all (fun j => sTg0B (sTb (64 * 7 + j)) (tyX7 j)) = true := by decide +kernel
    exact List.all_eq_true.mp h j (List.mem_range.mpr hj)
theorem sCl8_ok : (∀ w ∈ u_ws RX8 TX8 18, w ∈ sGW) ∧ (∀ a, a < 18 → ∀ b, b < 18 → a ≠ b → (TX8 a).2.1 ≠ (TX8 b).2.1) ∧ ∃ ty0 : Nat → FieldType, (∀ j, j < 18 → parseFieldDescriptor (TX8 j).2.2.1 = some (ty0 j)) ∧ ∀ j, j < 18 → sTg0 (sTb (64 * 8 + j)) (ty0 j) := by
  refine ⟨fun w hw => ?_, nmX8, tyX8, tyX8_ok, fun j hj => sTg0B_ok ?_⟩
  · have h1 : u_ws RX8 TX8 18 = sLy8.filterMap (fun p => (sTk (p / 1000))[p % 1000]?) := by decide +kernel
    have h2 : (u_ws RX8 TX8 18).all sWm = true := by decide +kernel
    have h3 := List.all_eq_true.mp h2 w hw
    rw [h1] at hw
    obtain ⟨p, -, hp⟩ := List.mem_filterMap.mp hw
    exact List.mem_filter.mpr ⟨sTk_in (List.mem_of_getElem? hp), h3⟩
  · have h : (List.range 18).all (fun j => sTg0B (sTb (64 * 8 + j)) (tyX8 j)) = true := by decide +kernel
    exact List.all_eq_true.mp h j (List.mem_range.mpr hj)
theorem sCl9_ok : (∀ w ∈ u_ws RX9 TX9 6, w ∈ sGW) ∧ (∀ a, a < 6 → ∀ b, b < 6 → a ≠ b → (TX9 a).2.1 ≠ (TX9 b).2.1) ∧ ∃ ty0 : Nat → FieldType, (∀ j, j < 6 → parseFieldDescriptor (TX9 j).2.2.1 = some (ty0 j)) ∧ ∀ j, j < 6 → sTg0 (sTb (64 * 9 + j)) (ty0 j) := by
  refine ⟨fun w hw => ?_, nmX9, tyX9, tyX9_ok, fun j hj => sTg0B_ok ?_⟩
  · have h1 : u_ws RX9 TX9 6 = sLy9.filterMap (fun p => (sTk (p / 1000))[p % 1000]?) := by decide +kernel
    have h2 : (u_ws RX9 TX9 6).all sWm = true := by decide +kernel
    have h3 := List.all_eq_true.mp h2 w hw
    rw [h1] at hw
    obtain ⟨p, -, hp⟩ := List.mem_filterMap.mp hw
    exact List.mem_filter.mpr ⟨sTk_in (List.mem_of_getElem? hp), h3⟩
  · have h : (List.range 6).all (fun j => sTg0B (sTb (64 * 9 + j)) (tyX9 j)) = true := by decide +kernel
    exact List.all_eq_true.mp h j (List.mem_range.mpr hj)
theorem sCl10_ok : (∀ w ∈ u_ws RX10 TX10 1, w ∈ sGW) ∧ (∀ a, a < 1 → ∀ b, b < 1 → a ≠ b → (TX10 a).2.1 ≠ (TX10 b).2.1) ∧ ∃ ty0 : Nat → FieldType, (∀ j, j < 1 → parseFieldDescriptor (TX10 j).2.2.1 = some (ty0 j)) ∧ ∀ j, j < 1 → sTg0 (sTb (64 * 10 + j)) (ty0 j) := by
  refine ⟨fun w hw => ?_, nmX10, tyX10, tyX10_ok, fun j hj => sTg0B_ok ?_⟩
  · have h1 : u_ws RX10 TX10 1 = sLy10.filterMap (fun p => (sTk (p / 1000))[p % 1000]?) := by decide +kernel
    have h2 : (u_ws RX10 TX10 1).all sWm = true := by decide +kernel
    have h3 := List.all_eq_true.mp h2 w hw
    rw [h1] at hw
    obtain ⟨p, -, hp⟩ := List.mem_filterMap.mp hw
    exact List.mem_filter.mpr ⟨sTk_in (List.mem_of_getElem? hp), h3⟩
  · have h : (List.range 1).all (fun j => sTg0B (sTb (64 * 10 + j)) (tyX10 j)) = true := by decide +kernel
    exact List.all_eq_true.mp h j (List.mem_range.mpr hj)
theorem sCl11_ok : (∀ w ∈ u_ws RX11 TX11 6, w ∈ sGW) ∧ (∀ a, a < 6 → ∀ b, b < 6 → a ≠ b → (TX11 a).2.1 ≠ (TX11 b).2.1) ∧ ∃ ty0 : Nat → FieldType, (∀ j, j < 6 → parseFieldDescriptor (TX11 j).2.2.1 = some (ty0 j)) ∧ ∀ j, j < 6 → sTg0 (sTb (64 * 11 + j)) (ty0 j) := by
  refine ⟨fun w hw => ?_, nmX11, tyX11, tyX11_ok, fun j hj => sTg0B_ok ?_⟩
  · have h1 : u_ws RX11 TX11 6 = sLy11.filterMap (fun p => (sTk (p / 1000))[p % 1000]?) := by decide +kernel
    have h2 : (u_ws RX11 TX11 6).all sWm = true := by decide +kernel
    have h3 := List.all_eq_true.mp h2 w hw
    rw [h1] at hw
    obtain ⟨p, -, hp⟩ := List.mem_filterMap.mp hw
    exact List.mem_filter.mpr ⟨sTk_in (List.mem_of_getElem? hp), h3⟩
  · have h : (List.range 6).all (fun j => sTg0B (sTb (64 * 11 + j)) (tyX11 j)) = true := by decide +kernel
    exact List.all_eq_true.mp h j (List.mem_range.mpr hj)
theorem sCl12_ok : (∀ w ∈ u_ws RX10 TX10 1, w ∈ sGW) ∧ (∀ a, a < 1 → ∀ b, b < 1 → a ≠ b → (TX10 a).2.1 ≠ (TX10 b).2.1) ∧ ∃ ty0 : Nat → FieldType, (∀ j, j < 1 → parseFieldDescriptor (TX10 j).2.2.1 = some (ty0 j)) ∧ ∀ j, j < 1 → sTg0 (sTb (64 * 12 + j)) (ty0 j) := by
  refine ⟨fun w hw => ?_, nmX10, tyX10, tyX10_ok, fun j hj => sTg0B_ok ?_⟩
  · have h1 : u_ws RX10 TX10 1 = sLy12.filterMap (fun p => (sTk (p / 1000))[p % 1000]?) := by decide +kernel
    have h2 : (u_ws RX10 TX10 1).all sWm = true := by decide +kernel
    have h3 := List.all_eq_true.mp h2 w hw
    rw [h1] at hw
    obtain ⟨p, -, hp⟩ := List.mem_filterMap.mp hw
    exact List.mem_filter.mpr ⟨sTk_in (List.mem_of_getElem? hp), h3⟩
  · have h : (List.range 1).all (fun j => sTg0B (sTb (64 * 12 + j)) (tyX10 j)) = true := by decide +kernel
    exact List.all_eq_true.mp h j (List.mem_range.mpr hj)
theorem sCl13_ok : (∀ w ∈ u_ws RJx4a65c TJx4a65c 3, w ∈ sGW) ∧ (∀ a, a < 3 → ∀ b, b < 3 → a ≠ b → (TJx4a65c a).2.1 ≠ (TJx4a65c b).2.1) ∧ ∃ ty0 : Nat → FieldType, (∀ j, j < 3 → parseFieldDescriptor (TJx4a65c j).2.2.1 = some (ty0 j)) ∧ ∀ j, j < 3 → sTg0 (sTb (64 * 13 + j)) (ty0 j) := by
  refine ⟨fun w hw => ?_, nmJx4a65c, tyJx4a65c, tyJx4a65c_ok, fun j hj => sTg0B_ok ?_⟩
  · have h1 : u_ws RJx4a65c TJx4a65c 3 = sLy13.filterMap (fun p => (sTk (p / 1000))[p % 1000]?) := by decide +kernel
    have h2 : (u_ws RJx4a65c TJx4a65c 3).all sWm = true := by decide +kernel
    have h3 := List.all_eq_true.mp h2 w hw
    rw [h1] at hw
    obtain ⟨p, -, hp⟩ := List.mem_filterMap.mp hw
    exact List.mem_filter.mpr ⟨sTk_in (List.mem_of_getElem? hp), h3⟩
  · have h : (List.range 3).all (fun j => sTg0B (sTb (64 * 13 + j)) (tyJx4a65c j)) = true := by decide +kernel
    exact List.all_eq_true.mp h j (List.mem_range.mpr hj)
theorem sCl_ok : sClOk := by
  intro k q hq
  have hk : k < 14 := (List.getElem?_eq_some_iff.mp hq).1
  obtain ⟨g1, g2, g3, g4⟩ := sIP_get hk hq
  have key : (∀ w ∈ u_ws q.1 q.2.1 q.2.2, w ∈ sGW) ∧ (∀ a, a < q.2.2 → ∀ b, b < q.2.2 → a ≠ b → (q.2.1 a).2.1 ≠ (q.2.1 b).2.1) ∧ ∃ ty0 : Nat → FieldType, (∀ j, j < q.2.2 → parseFieldDescriptor (q.2.1 j).2.2.1 = some (ty0 j)) ∧ ∀ j, j < q.2.2 → sTg0 (sTb (64 * k + j)) (ty0 j) := by
    clear g1 g2 g3 g4
    have hk2 : k = 0 ∨ k = 1 ∨ k = 2 ∨ k = 3 ∨ k = 4 ∨ k = 5 ∨ k = 6 ∨ k = 7 ∨ k = 8 ∨ k = 9 ∨ k = 10 ∨ k = 11 ∨ k = 12 ∨ k = 13 := by omega
    rcases hk2 with h | h | h | h | h | h | h | h | h | h | h | h | h | h <;> subst h <;> cases hq
    · exact sCl0_ok
    · exact sCl1_ok
    · exact sCl2_ok
    · exact sCl3_ok
    · exact sCl4_ok
    · exact sCl5_ok
    · exact sCl6_ok
    · exact sCl7_ok
    · exact sCl8_ok
    · exact sCl9_ok
    · exact sCl10_ok
    · exact sCl11_ok
    · exact sCl12_ok
    · exact sCl13_ok
  exact ⟨key.1, g4, g3, key.2.1, key.2.2⟩
def sHCt : List (Nat × Nat) := [(16, 4123), (168, 5055)]
theorem sHCt_ok : sHCt.all (fun e => sWx e.2 (Cond.classLink "BookExchangeLaw" e.1 (sEc (sCt e.1))) && Nat.blt (sCt e.1) 3 && !(Nat.beq e.1 0) && !(Nat.beq (sCt e.1) 1)) = true := by decide +kernel
theorem sHh_all : ∀ i, i < sNm → (sHh i).all (fun r => sHCt.any (fun e => Nat.beq e.1 r.2.2.2)) = true ∧ (sHh i = [] ∨ (sY i).cls = "BookExchangeLaw") := by
  have h : (List.range sNm).all (fun i => (sHh i).all (fun r => sHCt.any (fun e => Nat.beq e.1 r.2.2.2)) && (decide (sHh i = []) || decide ((sY i).cls = "BookExchangeLaw"))) = true := by decide +kernel
  intro i hi
  have h1 := List.all_eq_true.mp h i (List.mem_range.mpr hi)
  simp only [Bool.and_eq_true, Bool.or_eq_true, decide_eq_true_eq] at h1
  exact h1
theorem sHt_ok : sHtOk := by
  intro i hi r hr
  obtain ⟨h1, h2⟩ := sHh_all i hi
  have h3 := List.all_eq_true.mp h1 r hr
  obtain ⟨e, he, h4⟩ := List.any_eq_true.mp h3
  have h5 := List.all_eq_true.mp sHCt_ok e he
  have h6 : e.1 = r.2.2.2 := by simpa using h4
  simp only [Bool.and_eq_true, Nat.blt_eq, Bool.not_eq_true'] at h5
  rw [h6] at h5
  have hcl : (sY i).cls = "BookExchangeLaw" := by
    rcases h2 with h2 | h2
    · rw [h2] at hr; cases hr
    · exact h2
  refine ⟨fun z => ?_, ⟨h5.1.1.2, fun z => ?_⟩, by rw [hcl]; exact sWx_in h5.1.1.1⟩
  · have h7 := h5.1.2
    rw [z] at h7
    cases h7
  · have h7 := h5.2
    rw [z] at h7
    cases h7
def sEEt : List (Nat × Nat) := [(0, 2090), (1, 4049), (2, 2161)]
theorem sEEt_ok : ∀ a, a < 3 → Cond.castable (sEc a) (sEc a) ∈ sGW := by
  have h : sEEt.all (fun e => sWx e.2 (Cond.castable (sEc e.1) (sEc e.1))) = true := by decide +kernel
  intro a ha
  have h1 := List.all_eq_true.mp h
  have h2 : a = 0 ∨ a = 1 ∨ a = 2 := by omega
  rcases h2 with h2 | h2 | h2 <;> subst h2
  · exact sWx_in (h1 _ (by unfold sEEt; exact List.mem_cons_self))
  · exact sWx_in (h1 (1, _) (by unfold sEEt; exact List.mem_cons_of_mem _ List.mem_cons_self))
  · exact sWx_in (h1 (2, _) (by unfold sEEt; exact List.mem_cons_of_mem _ (List.mem_cons_of_mem _ List.mem_cons_self)))
