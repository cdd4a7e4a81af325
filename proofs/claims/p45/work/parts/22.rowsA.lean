theorem sR0_0 : (List.range 15).all (fun q => sRowB 0 (0 + q)) = true := by decide +kernel
theorem sR0 : ∀ pc, pc < sLen 0 → sRowB 0 pc = true := by
  intro pc h
  have hl : sLen 0 = 15 := by decide +kernel
  rw [hl] at h
  have := List.all_eq_true.mp sR0_0 (pc - 0) (List.mem_range.mpr (by omega))
  rwa [show 0 + (pc - 0) = pc by omega] at this
theorem sR1_0 : (List.range 80).all (fun q => sRowB 1 (0 + q)) = true := by decide +kernel
theorem sR1_1 : (List.range 80).all (fun q => sRowB 1 (80 + q)) = true := by decide +kernel
theorem sR1_2 : (List.range 44).all (fun q => sRowB 1 (160 + q)) = true := by decide +kernel
theorem sR1 : ∀ pc, pc < sLen 1 → sRowB 1 pc = true := by
  intro pc h
  have hl : sLen 1 = 204 := by decide +kernel
  rw [hl] at h
  by_cases h0 : pc < 80
  · have := List.all_eq_true.mp sR1_0 (pc - 0) (List.mem_range.mpr (by omega))
    rwa [show 0 + (pc - 0) = pc by omega] at this
  by_cases h1 : pc < 160
  · have := List.all_eq_true.mp sR1_1 (pc - 80) (List.mem_range.mpr (by omega))
    rwa [show 80 + (pc - 80) = pc by omega] at this
  have := List.all_eq_true.mp sR1_2 (pc - 160) (List.mem_range.mpr (by omega))
  rwa [show 160 + (pc - 160) = pc by omega] at this
theorem sR2_0 : (List.range 38).all (fun q => sRowB 2 (0 + q)) = true := by decide +kernel
theorem sR2 : ∀ pc, pc < sLen 2 → sRowB 2 pc = true := by
  intro pc h
  have hl : sLen 2 = 38 := by decide +kernel
  rw [hl] at h
  have := List.all_eq_true.mp sR2_0 (pc - 0) (List.mem_range.mpr (by omega))
  rwa [show 0 + (pc - 0) = pc by omega] at this
theorem sR3_0 : (List.range 43).all (fun q => sRowB 3 (0 + q)) = true := by decide +kernel
theorem sR3 : ∀ pc, pc < sLen 3 → sRowB 3 pc = true := by
  intro pc h
  have hl : sLen 3 = 43 := by decide +kernel
  rw [hl] at h
  have := List.all_eq_true.mp sR3_0 (pc - 0) (List.mem_range.mpr (by omega))
  rwa [show 0 + (pc - 0) = pc by omega] at this
theorem sR4_0 : (List.range 80).all (fun q => sRowB 4 (0 + q)) = true := by decide +kernel
theorem sR4_1 : (List.range 11).all (fun q => sRowB 4 (80 + q)) = true := by decide +kernel
theorem sR4 : ∀ pc, pc < sLen 4 → sRowB 4 pc = true := by
  intro pc h
  have hl : sLen 4 = 91 := by decide +kernel
  rw [hl] at h
  by_cases h0 : pc < 80
  · have := List.all_eq_true.mp sR4_0 (pc - 0) (List.mem_range.mpr (by omega))
    rwa [show 0 + (pc - 0) = pc by omega] at this
  have := List.all_eq_true.mp sR4_1 (pc - 80) (List.mem_range.mpr (by omega))
  rwa [show 80 + (pc - 80) = pc by omega] at this
theorem sR5_0 : (List.range 80).all (fun q => sRowB 5 (0 + q)) = true := by decide +kernel
theorem sR5_1 : (List.range 36).all (fun q => sRowB 5 (80 + q)) = true := by decide +kernel
theorem sR5 : ∀ pc, pc < sLen 5 → sRowB 5 pc = true := by
  intro pc h
  have hl : sLen 5 = 116 := by decide +kernel
  rw [hl] at h
  by_cases h0 : pc < 80
  · have := List.all_eq_true.mp sR5_0 (pc - 0) (List.mem_range.mpr (by omega))
    rwa [show 0 + (pc - 0) = pc by omega] at this
  have := List.all_eq_true.mp sR5_1 (pc - 80) (List.mem_range.mpr (by omega))
  rwa [show 80 + (pc - 80) = pc by omega] at this
theorem sR6_0 : (List.range 19).all (fun q => sRowB 6 (0 + q)) = true := by decide +kernel
theorem sR6 : ∀ pc, pc < sLen 6 → sRowB 6 pc = true := by
  intro pc h
  have hl : sLen 6 = 19 := by decide +kernel
  rw [hl] at h
  have := List.all_eq_true.mp sR6_0 (pc - 0) (List.mem_range.mpr (by omega))
  rwa [show 0 + (pc - 0) = pc by omega] at this
theorem sR7_0 : (List.range 25).all (fun q => sRowB 7 (0 + q)) = true := by decide +kernel
theorem sR7 : ∀ pc, pc < sLen 7 → sRowB 7 pc = true := by
  intro pc h
  have hl : sLen 7 = 25 := by decide +kernel
  rw [hl] at h
  have := List.all_eq_true.mp sR7_0 (pc - 0) (List.mem_range.mpr (by omega))
  rwa [show 0 + (pc - 0) = pc by omega] at this
theorem sR8_0 : (List.range 13).all (fun q => sRowB 8 (0 + q)) = true := by decide +kernel
theorem sR8 : ∀ pc, pc < sLen 8 → sRowB 8 pc = true := by
  intro pc h
  have hl : sLen 8 = 13 := by decide +kernel
  rw [hl] at h
  have := List.all_eq_true.mp sR8_0 (pc - 0) (List.mem_range.mpr (by omega))
  rwa [show 0 + (pc - 0) = pc by omega] at this
theorem sR9_0 : (List.range 16).all (fun q => sRowB 9 (0 + q)) = true := by decide +kernel
theorem sR9 : ∀ pc, pc < sLen 9 → sRowB 9 pc = true := by
  intro pc h
  have hl : sLen 9 = 16 := by decide +kernel
  rw [hl] at h
  have := List.all_eq_true.mp sR9_0 (pc - 0) (List.mem_range.mpr (by omega))
  rwa [show 0 + (pc - 0) = pc by omega] at this
theorem sR10_0 : (List.range 80).all (fun q => sRowB 10 (0 + q)) = true := by decide +kernel
theorem sR10_1 : (List.range 24).all (fun q => sRowB 10 (80 + q)) = true := by decide +kernel
theorem sR10 : ∀ pc, pc < sLen 10 → sRowB 10 pc = true := by
  intro pc h
  have hl : sLen 10 = 104 := by decide +kernel
  rw [hl] at h
  by_cases h0 : pc < 80
  · have := List.all_eq_true.mp sR10_0 (pc - 0) (List.mem_range.mpr (by omega))
    rwa [show 0 + (pc - 0) = pc by omega] at this
  have := List.all_eq_true.mp sR10_1 (pc - 80) (List.mem_range.mpr (by omega))
  rwa [show 80 + (pc - 80) = pc by omega] at this
theorem sR11_0 : (List.range 80).all (fun q => sRowB 11 (0 + q)) = true := by decide +kernel
theorem sR11_1 : (List.range 12).all (fun q => sRowB 11 (80 + q)) = true := by decide +kernel
theorem sR11 : ∀ pc, pc < sLen 11 → sRowB 11 pc = true := by
  intro pc h
  have hl : sLen 11 = 92 := by decide +kernel
  rw [hl] at h
  by_cases h0 : pc < 80
  · have := List.all_eq_true.mp sR11_0 (pc - 0) (List.mem_range.mpr (by omega))
    rwa [show 0 + (pc - 0) = pc by omega] at this
  have := List.all_eq_true.mp sR11_1 (pc - 80) (List.mem_range.mpr (by omega))
  rwa [show 80 + (pc - 80) = pc by omega] at this
theorem sR12_0 : (List.range 29).all (fun q => sRowB 12 (0 + q)) = true := by decide +kernel
theorem sR12 : ∀ pc, pc < sLen 12 → sRowB 12 pc = true := by
  intro pc h
  have hl : sLen 12 = 29 := by decide +kernel
  rw [hl] at h
  have := List.all_eq_true.mp sR12_0 (pc - 0) (List.mem_range.mpr (by omega))
  rwa [show 0 + (pc - 0) = pc by omega] at this
theorem sR13_0 : (List.range 22).all (fun q => sRowB 13 (0 + q)) = true := by decide +kernel
theorem sR13 : ∀ pc, pc < sLen 13 → sRowB 13 pc = true := by
  intro pc h
  have hl : sLen 13 = 22 := by decide +kernel
  rw [hl] at h
  have := List.all_eq_true.mp sR13_0 (pc - 0) (List.mem_range.mpr (by omega))
  rwa [show 0 + (pc - 0) = pc by omega] at this
theorem sR14_0 : (List.range 10).all (fun q => sRowB 14 (0 + q)) = true := by decide +kernel
theorem sR14 : ∀ pc, pc < sLen 14 → sRowB 14 pc = true := by
  intro pc h
  have hl : sLen 14 = 10 := by decide +kernel
  rw [hl] at h
  have := List.all_eq_true.mp sR14_0 (pc - 0) (List.mem_range.mpr (by omega))
  rwa [show 0 + (pc - 0) = pc by omega] at this
theorem sR15_0 : (List.range 80).all (fun q => sRowB 15 (0 + q)) = true := by decide +kernel
theorem sR15_1 : (List.range 7).all (fun q => sRowB 15 (80 + q)) = true := by decide +kernel
theorem sR15 : ∀ pc, pc < sLen 15 → sRowB 15 pc = true := by
  intro pc h
  have hl : sLen 15 = 87 := by decide +kernel
  rw [hl] at h
  by_cases h0 : pc < 80
  · have := List.all_eq_true.mp sR15_0 (pc - 0) (List.mem_range.mpr (by omega))
    rwa [show 0 + (pc - 0) = pc by omega] at this
  have := List.all_eq_true.mp sR15_1 (pc - 80) (List.mem_range.mpr (by omega))
  rwa [show 80 + (pc - 80) = pc by omega] at this
theorem sR16_0 : (List.range 43).all (fun q => sRowB 16 (0 + q)) = true := by decide +kernel
theorem sR16 : ∀ pc, pc < sLen 16 → sRowB 16 pc = true := by
  intro pc h
  have hl : sLen 16 = 43 := by decide +kernel
  rw [hl] at h
  have := List.all_eq_true.mp sR16_0 (pc - 0) (List.mem_range.mpr (by omega))
  rwa [show 0 + (pc - 0) = pc by omega] at this
theorem sR17_0 : (List.range 78).all (fun q => sRowB 17 (0 + q)) = true := by decide +kernel
theorem sR17 : ∀ pc, pc < sLen 17 → sRowB 17 pc = true := by
  intro pc h
  have hl : sLen 17 = 78 := by decide +kernel
  rw [hl] at h
  have := List.all_eq_true.mp sR17_0 (pc - 0) (List.mem_range.mpr (by omega))
  rwa [show 0 + (pc - 0) = pc by omega] at this
theorem sR18_0 : (List.range 55).all (fun q => sRowB 18 (0 + q)) = true := by decide +kernel
theorem sR18 : ∀ pc, pc < sLen 18 → sRowB 18 pc = true := by
  intro pc h
  have hl : sLen 18 = 55 := by decide +kernel
  rw [hl] at h
  have := List.all_eq_true.mp sR18_0 (pc - 0) (List.mem_range.mpr (by omega))
  rwa [show 0 + (pc - 0) = pc by omega] at this
theorem sR19_0 : (List.range 40).all (fun q => sRowB 19 (0 + q)) = true := by decide +kernel
theorem sR19 : ∀ pc, pc < sLen 19 → sRowB 19 pc = true := by
  intro pc h
  have hl : sLen 19 = 40 := by decide +kernel
  rw [hl] at h
  have := List.all_eq_true.mp sR19_0 (pc - 0) (List.mem_range.mpr (by omega))
  rwa [show 0 + (pc - 0) = pc by omega] at this
theorem sR20_0 : (List.range 80).all (fun q => sRowB 20 (0 + q)) = true := by decide +kernel
theorem sR20_1 : (List.range 80).all (fun q => sRowB 20 (80 + q)) = true := by decide +kernel
theorem sR20_2 : (List.range 43).all (fun q => sRowB 20 (160 + q)) = true := by decide +kernel
theorem sR20 : ∀ pc, pc < sLen 20 → sRowB 20 pc = true := by
  intro pc h
  have hl : sLen 20 = 203 := by decide +kernel
  rw [hl] at h
  by_cases h0 : pc < 80
  · have := List.all_eq_true.mp sR20_0 (pc - 0) (List.mem_range.mpr (by omega))
    rwa [show 0 + (pc - 0) = pc by omega] at this
  by_cases h1 : pc < 160
  · have := List.all_eq_true.mp sR20_1 (pc - 80) (List.mem_range.mpr (by omega))
    rwa [show 80 + (pc - 80) = pc by omega] at this
  have := List.all_eq_true.mp sR20_2 (pc - 160) (List.mem_range.mpr (by omega))
  rwa [show 160 + (pc - 160) = pc by omega] at this
theorem sR21_0 : (List.range 40).all (fun q => sRowB 21 (0 + q)) = true := by decide +kernel
theorem sR21 : ∀ pc, pc < sLen 21 → sRowB 21 pc = true := by
  intro pc h
  have hl : sLen 21 = 40 := by decide +kernel
  rw [hl] at h
  have := List.all_eq_true.mp sR21_0 (pc - 0) (List.mem_range.mpr (by omega))
  rwa [show 0 + (pc - 0) = pc by omega] at this
theorem sR22_0 : (List.range 75).all (fun q => sRowB 22 (0 + q)) = true := by decide +kernel
theorem sR22 : ∀ pc, pc < sLen 22 → sRowB 22 pc = true := by
  intro pc h
  have hl : sLen 22 = 75 := by decide +kernel
  rw [hl] at h
  have := List.all_eq_true.mp sR22_0 (pc - 0) (List.mem_range.mpr (by omega))
  rwa [show 0 + (pc - 0) = pc by omega] at this
theorem sR23_0 : (List.range 80).all (fun q => sRowB 23 (0 + q)) = true := by decide +kernel
theorem sR23_1 : (List.range 10).all (fun q => sRowB 23 (80 + q)) = true := by decide +kernel
theorem sR23 : ∀ pc, pc < sLen 23 → sRowB 23 pc = true := by
  intro pc h
  have hl : sLen 23 = 90 := by decide +kernel
  rw [hl] at h
  by_cases h0 : pc < 80
  · have := List.all_eq_true.mp sR23_0 (pc - 0) (List.mem_range.mpr (by omega))
    rwa [show 0 + (pc - 0) = pc by omega] at this
  have := List.all_eq_true.mp sR23_1 (pc - 80) (List.mem_range.mpr (by omega))
  rwa [show 80 + (pc - 80) = pc by omega] at this
theorem sR24_0 : (List.range 80).all (fun q => sRowB 24 (0 + q)) = true := by decide +kernel
theorem sR24_1 : (List.range 80).all (fun q => sRowB 24 (80 + q)) = true := by decide +kernel
theorem sR24_2 : (List.range 15).all (fun q => sRowB 24 (160 + q)) = true := by decide +kernel
theorem sR24 : ∀ pc, pc < sLen 24 → sRowB 24 pc = true := by
  intro pc h
  have hl : sLen 24 = 175 := by decide +kernel
  rw [hl] at h
  by_cases h0 : pc < 80
  · have := List.all_eq_true.mp sR24_0 (pc - 0) (List.mem_range.mpr (by omega))
    rwa [show 0 + (pc - 0) = pc by omega] at this
  by_cases h1 : pc < 160
  · have := List.all_eq_true.mp sR24_1 (pc - 80) (List.mem_range.mpr (by omega))
    rwa [show 80 + (pc - 80) = pc by omega] at this
  have := List.all_eq_true.mp sR24_2 (pc - 160) (List.mem_range.mpr (by omega))
  rwa [show 160 + (pc - 160) = pc by omega] at this
theorem sR25_0 : (List.range 77).all (fun q => sRowB 25 (0 + q)) = true := by decide +kernel
theorem sR25 : ∀ pc, pc < sLen 25 → sRowB 25 pc = true := by
  intro pc h
  have hl : sLen 25 = 77 := by decide +kernel
  rw [hl] at h
  have := List.all_eq_true.mp sR25_0 (pc - 0) (List.mem_range.mpr (by omega))
  rwa [show 0 + (pc - 0) = pc by omega] at this
theorem sR26_0 : (List.range 80).all (fun q => sRowB 26 (0 + q)) = true := by decide +kernel
theorem sR26_1 : (List.range 13).all (fun q => sRowB 26 (80 + q)) = true := by decide +kernel
theorem sR26 : ∀ pc, pc < sLen 26 → sRowB 26 pc = true := by
  intro pc h
  have hl : sLen 26 = 93 := by decide +kernel
  rw [hl] at h
  by_cases h0 : pc < 80
  · have := List.all_eq_true.mp sR26_0 (pc - 0) (List.mem_range.mpr (by omega))
    rwa [show 0 + (pc - 0) = pc by omega] at this
  have := List.all_eq_true.mp sR26_1 (pc - 80) (List.mem_range.mpr (by omega))
  rwa [show 80 + (pc - 80) = pc by omega] at this
theorem sR27_0 : (List.range 36).all (fun q => sRowB 27 (0 + q)) = true := by decide +kernel
theorem sR27 : ∀ pc, pc < sLen 27 → sRowB 27 pc = true := by
  intro pc h
  have hl : sLen 27 = 36 := by decide +kernel
  rw [hl] at h
  have := List.all_eq_true.mp sR27_0 (pc - 0) (List.mem_range.mpr (by omega))
  rwa [show 0 + (pc - 0) = pc by omega] at this
theorem sR28_0 : (List.range 36).all (fun q => sRowB 28 (0 + q)) = true := by decide +kernel
theorem sR28 : ∀ pc, pc < sLen 28 → sRowB 28 pc = true := by
  intro pc h
  have hl : sLen 28 = 36 := by decide +kernel
  rw [hl] at h
  have := List.all_eq_true.mp sR28_0 (pc - 0) (List.mem_range.mpr (by omega))
  rwa [show 0 + (pc - 0) = pc by omega] at this
theorem sR29_0 : (List.range 36).all (fun q => sRowB 29 (0 + q)) = true := by decide +kernel
theorem sR29 : ∀ pc, pc < sLen 29 → sRowB 29 pc = true := by
  intro pc h
  have hl : sLen 29 = 36 := by decide +kernel
  rw [hl] at h
  have := List.all_eq_true.mp sR29_0 (pc - 0) (List.mem_range.mpr (by omega))
  rwa [show 0 + (pc - 0) = pc by omega] at this
theorem sR30_0 : (List.range 22).all (fun q => sRowB 30 (0 + q)) = true := by decide +kernel
theorem sR30 : ∀ pc, pc < sLen 30 → sRowB 30 pc = true := by
  intro pc h
  have hl : sLen 30 = 22 := by decide +kernel
  rw [hl] at h
  have := List.all_eq_true.mp sR30_0 (pc - 0) (List.mem_range.mpr (by omega))
  rwa [show 0 + (pc - 0) = pc by omega] at this
theorem sR31_0 : (List.range 52).all (fun q => sRowB 31 (0 + q)) = true := by decide +kernel
theorem sR31 : ∀ pc, pc < sLen 31 → sRowB 31 pc = true := by
  intro pc h
  have hl : sLen 31 = 52 := by decide +kernel
  rw [hl] at h
  have := List.all_eq_true.mp sR31_0 (pc - 0) (List.mem_range.mpr (by omega))
  rwa [show 0 + (pc - 0) = pc by omega] at this
theorem sR32_0 : (List.range 80).all (fun q => sRowB 32 (0 + q)) = true := by decide +kernel
theorem sR32_1 : (List.range 9).all (fun q => sRowB 32 (80 + q)) = true := by decide +kernel
theorem sR32 : ∀ pc, pc < sLen 32 → sRowB 32 pc = true := by
  intro pc h
  have hl : sLen 32 = 89 := by decide +kernel
  rw [hl] at h
  by_cases h0 : pc < 80
  · have := List.all_eq_true.mp sR32_0 (pc - 0) (List.mem_range.mpr (by omega))
    rwa [show 0 + (pc - 0) = pc by omega] at this
  have := List.all_eq_true.mp sR32_1 (pc - 80) (List.mem_range.mpr (by omega))
  rwa [show 80 + (pc - 80) = pc by omega] at this
theorem sR33_0 : (List.range 31).all (fun q => sRowB 33 (0 + q)) = true := by decide +kernel
theorem sR33 : ∀ pc, pc < sLen 33 → sRowB 33 pc = true := by
  intro pc h
  have hl : sLen 33 = 31 := by decide +kernel
  rw [hl] at h
  have := List.all_eq_true.mp sR33_0 (pc - 0) (List.mem_range.mpr (by omega))
  rwa [show 0 + (pc - 0) = pc by omega] at this
theorem sR34_0 : (List.range 27).all (fun q => sRowB 34 (0 + q)) = true := by decide +kernel
theorem sR34 : ∀ pc, pc < sLen 34 → sRowB 34 pc = true := by
  intro pc h
  have hl : sLen 34 = 27 := by decide +kernel
  rw [hl] at h
  have := List.all_eq_true.mp sR34_0 (pc - 0) (List.mem_range.mpr (by omega))
  rwa [show 0 + (pc - 0) = pc by omega] at this
theorem sR35_0 : (List.range 44).all (fun q => sRowB 35 (0 + q)) = true := by decide +kernel
theorem sR35 : ∀ pc, pc < sLen 35 → sRowB 35 pc = true := by
  intro pc h
  have hl : sLen 35 = 44 := by decide +kernel
  rw [hl] at h
  have := List.all_eq_true.mp sR35_0 (pc - 0) (List.mem_range.mpr (by omega))
  rwa [show 0 + (pc - 0) = pc by omega] at this
theorem sR36_0 : (List.range 65).all (fun q => sRowB 36 (0 + q)) = true := by decide +kernel
theorem sR36 : ∀ pc, pc < sLen 36 → sRowB 36 pc = true := by
  intro pc h
  have hl : sLen 36 = 65 := by decide +kernel
  rw [hl] at h
  have := List.all_eq_true.mp sR36_0 (pc - 0) (List.mem_range.mpr (by omega))
  rwa [show 0 + (pc - 0) = pc by omega] at this
theorem sR37_0 : (List.range 49).all (fun q => sRowB 37 (0 + q)) = true := by decide +kernel
theorem sR37 : ∀ pc, pc < sLen 37 → sRowB 37 pc = true := by
  intro pc h
  have hl : sLen 37 = 49 := by decide +kernel
  rw [hl] at h
  have := List.all_eq_true.mp sR37_0 (pc - 0) (List.mem_range.mpr (by omega))
  rwa [show 0 + (pc - 0) = pc by omega] at this
theorem sR38_0 : (List.range 80).all (fun q => sRowB 38 (0 + q)) = true := by decide +kernel
theorem sR38_1 : (List.range 14).all (fun q => sRowB 38 (80 + q)) = true := by decide +kernel
theorem sR38 : ∀ pc, pc < sLen 38 → sRowB 38 pc = true := by
  intro pc h
  have hl : sLen 38 = 94 := by decide +kernel
  rw [hl] at h
  by_cases h0 : pc < 80
  · have := List.all_eq_true.mp sR38_0 (pc - 0) (List.mem_range.mpr (by omega))
    rwa [show 0 + (pc - 0) = pc by omega] at this
  have := List.all_eq_true.mp sR38_1 (pc - 80) (List.mem_range.mpr (by omega))
  rwa [show 80 + (pc - 80) = pc by omega] at this
theorem sR39_0 : (List.range 80).all (fun q => sRowB 39 (0 + q)) = true := by decide +kernel
theorem sR39_1 : (List.range 27).all (fun q => sRowB 39 (80 + q)) = true := by decide +kernel
theorem sR39 : ∀ pc, pc < sLen 39 → sRowB 39 pc = true := by
  intro pc h
  have hl : sLen 39 = 107 := by decide +kernel
  rw [hl] at h
  by_cases h0 : pc < 80
  · have := List.all_eq_true.mp sR39_0 (pc - 0) (List.mem_range.mpr (by omega))
    rwa [show 0 + (pc - 0) = pc by omega] at this
  have := List.all_eq_true.mp sR39_1 (pc - 80) (List.mem_range.mpr (by omega))
  rwa [show 80 + (pc - 80) = pc by omega] at this
theorem sR40_0 : (List.range 36).all (fun q => sRowB 40 (0 + q)) = true := by decide +kernel
theorem sR40 : ∀ pc, pc < sLen 40 → sRowB 40 pc = true := by
  intro pc h
  have hl : sLen 40 = 36 := by decide +kernel
  rw [hl] at h
  have := List.all_eq_true.mp sR40_0 (pc - 0) (List.mem_range.mpr (by omega))
  rwa [show 0 + (pc - 0) = pc by omega] at this
theorem sR41_0 : (List.range 40).all (fun q => sRowB 41 (0 + q)) = true := by decide +kernel
theorem sR41 : ∀ pc, pc < sLen 41 → sRowB 41 pc = true := by
  intro pc h
  have hl : sLen 41 = 40 := by decide +kernel
  rw [hl] at h
  have := List.all_eq_true.mp sR41_0 (pc - 0) (List.mem_range.mpr (by omega))
  rwa [show 0 + (pc - 0) = pc by omega] at this
theorem sR42_0 : (List.range 80).all (fun q => sRowB 42 (0 + q)) = true := by decide +kernel
theorem sR42_1 : (List.range 16).all (fun q => sRowB 42 (80 + q)) = true := by decide +kernel
theorem sR42 : ∀ pc, pc < sLen 42 → sRowB 42 pc = true := by
  intro pc h
  have hl : sLen 42 = 96 := by decide +kernel
  rw [hl] at h
  by_cases h0 : pc < 80
  · have := List.all_eq_true.mp sR42_0 (pc - 0) (List.mem_range.mpr (by omega))
    rwa [show 0 + (pc - 0) = pc by omega] at this
  have := List.all_eq_true.mp sR42_1 (pc - 80) (List.mem_range.mpr (by omega))
  rwa [show 80 + (pc - 80) = pc by omega] at this
theorem sR43_0 : (List.range 30).all (fun q => sRowB 43 (0 + q)) = true := by decide +kernel
theorem sR43 : ∀ pc, pc < sLen 43 → sRowB 43 pc = true := by
  intro pc h
  have hl : sLen 43 = 30 := by decide +kernel
  rw [hl] at h
  have := List.all_eq_true.mp sR43_0 (pc - 0) (List.mem_range.mpr (by omega))
  rwa [show 0 + (pc - 0) = pc by omega] at this
theorem sR44_0 : (List.range 31).all (fun q => sRowB 44 (0 + q)) = true := by decide +kernel
theorem sR44 : ∀ pc, pc < sLen 44 → sRowB 44 pc = true := by
  intro pc h
  have hl : sLen 44 = 31 := by decide +kernel
  rw [hl] at h
  have := List.all_eq_true.mp sR44_0 (pc - 0) (List.mem_range.mpr (by omega))
  rwa [show 0 + (pc - 0) = pc by omega] at this
theorem sR45_0 : (List.range 34).all (fun q => sRowB 45 (0 + q)) = true := by decide +kernel
theorem sR45 : ∀ pc, pc < sLen 45 → sRowB 45 pc = true := by
  intro pc h
  have hl : sLen 45 = 34 := by decide +kernel
  rw [hl] at h
  have := List.all_eq_true.mp sR45_0 (pc - 0) (List.mem_range.mpr (by omega))
  rwa [show 0 + (pc - 0) = pc by omega] at this
theorem sR46_0 : (List.range 18).all (fun q => sRowB 46 (0 + q)) = true := by decide +kernel
theorem sR46 : ∀ pc, pc < sLen 46 → sRowB 46 pc = true := by
  intro pc h
  have hl : sLen 46 = 18 := by decide +kernel
  rw [hl] at h
  have := List.all_eq_true.mp sR46_0 (pc - 0) (List.mem_range.mpr (by omega))
  rwa [show 0 + (pc - 0) = pc by omega] at this
theorem sR47_0 : (List.range 74).all (fun q => sRowB 47 (0 + q)) = true := by decide +kernel
theorem sR47 : ∀ pc, pc < sLen 47 → sRowB 47 pc = true := by
  intro pc h
  have hl : sLen 47 = 74 := by decide +kernel
  rw [hl] at h
  have := List.all_eq_true.mp sR47_0 (pc - 0) (List.mem_range.mpr (by omega))
  rwa [show 0 + (pc - 0) = pc by omega] at this
theorem sR48_0 : (List.range 80).all (fun q => sRowB 48 (0 + q)) = true := by decide +kernel
theorem sR48_1 : (List.range 18).all (fun q => sRowB 48 (80 + q)) = true := by decide +kernel
theorem sR48 : ∀ pc, pc < sLen 48 → sRowB 48 pc = true := by
  intro pc h
  have hl : sLen 48 = 98 := by decide +kernel
  rw [hl] at h
  by_cases h0 : pc < 80
  · have := List.all_eq_true.mp sR48_0 (pc - 0) (List.mem_range.mpr (by omega))
    rwa [show 0 + (pc - 0) = pc by omega] at this
  have := List.all_eq_true.mp sR48_1 (pc - 80) (List.mem_range.mpr (by omega))
  rwa [show 80 + (pc - 80) = pc by omega] at this
theorem sR49_0 : (List.range 58).all (fun q => sRowB 49 (0 + q)) = true := by decide +kernel
theorem sR49 : ∀ pc, pc < sLen 49 → sRowB 49 pc = true := by
  intro pc h
  have hl : sLen 49 = 58 := by decide +kernel
  rw [hl] at h
  have := List.all_eq_true.mp sR49_0 (pc - 0) (List.mem_range.mpr (by omega))
  rwa [show 0 + (pc - 0) = pc by omega] at this
theorem sR50_0 : (List.range 80).all (fun q => sRowB 50 (0 + q)) = true := by decide +kernel
theorem sR50_1 : (List.range 30).all (fun q => sRowB 50 (80 + q)) = true := by decide +kernel
theorem sR50 : ∀ pc, pc < sLen 50 → sRowB 50 pc = true := by
  intro pc h
  have hl : sLen 50 = 110 := by decide +kernel
  rw [hl] at h
  by_cases h0 : pc < 80
  · have := List.all_eq_true.mp sR50_0 (pc - 0) (List.mem_range.mpr (by omega))
    rwa [show 0 + (pc - 0) = pc by omega] at this
  have := List.all_eq_true.mp sR50_1 (pc - 80) (List.mem_range.mpr (by omega))
  rwa [show 80 + (pc - 80) = pc by omega] at this
theorem sR51_0 : (List.range 80).all (fun q => sRowB 51 (0 + q)) = true := by decide +kernel
theorem sR51_1 : (List.range 33).all (fun q => sRowB 51 (80 + q)) = true := by decide +kernel
theorem sR51 : ∀ pc, pc < sLen 51 → sRowB 51 pc = true := by
  intro pc h
  have hl : sLen 51 = 113 := by decide +kernel
  rw [hl] at h
  by_cases h0 : pc < 80
  · have := List.all_eq_true.mp sR51_0 (pc - 0) (List.mem_range.mpr (by omega))
    rwa [show 0 + (pc - 0) = pc by omega] at this
  have := List.all_eq_true.mp sR51_1 (pc - 80) (List.mem_range.mpr (by omega))
  rwa [show 80 + (pc - 80) = pc by omega] at this
theorem sR52_0 : (List.range 33).all (fun q => sRowB 52 (0 + q)) = true := by decide +kernel
theorem sR52 : ∀ pc, pc < sLen 52 → sRowB 52 pc = true := by
  intro pc h
  have hl : sLen 52 = 33 := by decide +kernel
  rw [hl] at h
  have := List.all_eq_true.mp sR52_0 (pc - 0) (List.mem_range.mpr (by omega))
  rwa [show 0 + (pc - 0) = pc by omega] at this
theorem sR53_0 : (List.range 49).all (fun q => sRowB 53 (0 + q)) = true := by decide +kernel
theorem sR53 : ∀ pc, pc < sLen 53 → sRowB 53 pc = true := by
  intro pc h
  have hl : sLen 53 = 49 := by decide +kernel
  rw [hl] at h
  have := List.all_eq_true.mp sR53_0 (pc - 0) (List.mem_range.mpr (by omega))
  rwa [show 0 + (pc - 0) = pc by omega] at this
theorem sR54_0 : (List.range 33).all (fun q => sRowB 54 (0 + q)) = true := by decide +kernel
theorem sR54 : ∀ pc, pc < sLen 54 → sRowB 54 pc = true := by
  intro pc h
  have hl : sLen 54 = 33 := by decide +kernel
  rw [hl] at h
  have := List.all_eq_true.mp sR54_0 (pc - 0) (List.mem_range.mpr (by omega))
  rwa [show 0 + (pc - 0) = pc by omega] at this
theorem sR55_0 : (List.range 31).all (fun q => sRowB 55 (0 + q)) = true := by decide +kernel
theorem sR55 : ∀ pc, pc < sLen 55 → sRowB 55 pc = true := by
  intro pc h
  have hl : sLen 55 = 31 := by decide +kernel
  rw [hl] at h
  have := List.all_eq_true.mp sR55_0 (pc - 0) (List.mem_range.mpr (by omega))
  rwa [show 0 + (pc - 0) = pc by omega] at this
theorem sR56_0 : (List.range 80).all (fun q => sRowB 56 (0 + q)) = true := by decide +kernel
theorem sR56_1 : (List.range 80).all (fun q => sRowB 56 (80 + q)) = true := by decide +kernel
theorem sR56_2 : (List.range 2).all (fun q => sRowB 56 (160 + q)) = true := by decide +kernel
theorem sR56 : ∀ pc, pc < sLen 56 → sRowB 56 pc = true := by
  intro pc h
  have hl : sLen 56 = 162 := by decide +kernel
  rw [hl] at h
  by_cases h0 : pc < 80
  · have := List.all_eq_true.mp sR56_0 (pc - 0) (List.mem_range.mpr (by omega))
    rwa [show 0 + (pc - 0) = pc by omega] at this
  by_cases h1 : pc < 160
  · have := List.all_eq_true.mp sR56_1 (pc - 80) (List.mem_range.mpr (by omega))
    rwa [show 80 + (pc - 80) = pc by omega] at this
  have := List.all_eq_true.mp sR56_2 (pc - 160) (List.mem_range.mpr (by omega))
  rwa [show 160 + (pc - 160) = pc by omega] at this
theorem sR57_0 : (List.range 80).all (fun q => sRowB 57 (0 + q)) = true := by decide +kernel
theorem sR57_1 : (List.range 20).all (fun q => sRowB 57 (80 + q)) = true := by decide +kernel
theorem sR57 : ∀ pc, pc < sLen 57 → sRowB 57 pc = true := by
  intro pc h
  have hl : sLen 57 = 100 := by decide +kernel
  rw [hl] at h
  by_cases h0 : pc < 80
  · have := List.all_eq_true.mp sR57_0 (pc - 0) (List.mem_range.mpr (by omega))
    rwa [show 0 + (pc - 0) = pc by omega] at this
  have := List.all_eq_true.mp sR57_1 (pc - 80) (List.mem_range.mpr (by omega))
  rwa [show 80 + (pc - 80) = pc by omega] at this
theorem sR58_0 : (List.range 35).all (fun q => sRowB 58 (0 + q)) = true := by decide +kernel
theorem sR58 : ∀ pc, pc < sLen 58 → sRowB 58 pc = true := by
  intro pc h
  have hl : sLen 58 = 35 := by decide +kernel
  rw [hl] at h
  have := List.all_eq_true.mp sR58_0 (pc - 0) (List.mem_range.mpr (by omega))
  rwa [show 0 + (pc - 0) = pc by omega] at this
theorem sR59_0 : (List.range 61).all (fun q => sRowB 59 (0 + q)) = true := by decide +kernel
theorem sR59 : ∀ pc, pc < sLen 59 → sRowB 59 pc = true := by
  intro pc h
  have hl : sLen 59 = 61 := by decide +kernel
  rw [hl] at h
  have := List.all_eq_true.mp sR59_0 (pc - 0) (List.mem_range.mpr (by omega))
  rwa [show 0 + (pc - 0) = pc by omega] at this
theorem sR60_0 : (List.range 80).all (fun q => sRowB 60 (0 + q)) = true := by decide +kernel
theorem sR60_1 : (List.range 22).all (fun q => sRowB 60 (80 + q)) = true := by decide +kernel
theorem sR60 : ∀ pc, pc < sLen 60 → sRowB 60 pc = true := by
  intro pc h
  have hl : sLen 60 = 102 := by decide +kernel
  rw [hl] at h
  by_cases h0 : pc < 80
  · have := List.all_eq_true.mp sR60_0 (pc - 0) (List.mem_range.mpr (by omega))
    rwa [show 0 + (pc - 0) = pc by omega] at this
  have := List.all_eq_true.mp sR60_1 (pc - 80) (List.mem_range.mpr (by omega))
  rwa [show 80 + (pc - 80) = pc by omega] at this
theorem sR61_0 : (List.range 80).all (fun q => sRowB 61 (0 + q)) = true := by decide +kernel
theorem sR61_1 : (List.range 53).all (fun q => sRowB 61 (80 + q)) = true := by decide +kernel
theorem sR61 : ∀ pc, pc < sLen 61 → sRowB 61 pc = true := by
  intro pc h
  have hl : sLen 61 = 133 := by decide +kernel
  rw [hl] at h
  by_cases h0 : pc < 80
  · have := List.all_eq_true.mp sR61_0 (pc - 0) (List.mem_range.mpr (by omega))
    rwa [show 0 + (pc - 0) = pc by omega] at this
  have := List.all_eq_true.mp sR61_1 (pc - 80) (List.mem_range.mpr (by omega))
  rwa [show 80 + (pc - 80) = pc by omega] at this
theorem sR62_0 : (List.range 80).all (fun q => sRowB 62 (0 + q)) = true := by decide +kernel
theorem sR62_1 : (List.range 12).all (fun q => sRowB 62 (80 + q)) = true := by decide +kernel
theorem sR62 : ∀ pc, pc < sLen 62 → sRowB 62 pc = true := by
  intro pc h
  have hl : sLen 62 = 92 := by decide +kernel
  rw [hl] at h
  by_cases h0 : pc < 80
  · have := List.all_eq_true.mp sR62_0 (pc - 0) (List.mem_range.mpr (by omega))
    rwa [show 0 + (pc - 0) = pc by omega] at this
  have := List.all_eq_true.mp sR62_1 (pc - 80) (List.mem_range.mpr (by omega))
  rwa [show 80 + (pc - 80) = pc by omega] at this
theorem sR63_0 : (List.range 80).all (fun q => sRowB 63 (0 + q)) = true := by decide +kernel
theorem sR63_1 : (List.range 14).all (fun q => sRowB 63 (80 + q)) = true := by decide +kernel
theorem sR63 : ∀ pc, pc < sLen 63 → sRowB 63 pc = true := by
  intro pc h
  have hl : sLen 63 = 94 := by decide +kernel
  rw [hl] at h
  by_cases h0 : pc < 80
  · have := List.all_eq_true.mp sR63_0 (pc - 0) (List.mem_range.mpr (by omega))
    rwa [show 0 + (pc - 0) = pc by omega] at this
  have := List.all_eq_true.mp sR63_1 (pc - 80) (List.mem_range.mpr (by omega))
  rwa [show 80 + (pc - 80) = pc by omega] at this
theorem sR64_0 : (List.range 80).all (fun q => sRowB 64 (0 + q)) = true := by decide +kernel
theorem sR64_1 : (List.range 66).all (fun q => sRowB 64 (80 + q)) = true := by decide +kernel
theorem sR64 : ∀ pc, pc < sLen 64 → sRowB 64 pc = true := by
  intro pc h
  have hl : sLen 64 = 146 := by decide +kernel
  rw [hl] at h
  by_cases h0 : pc < 80
  · have := List.all_eq_true.mp sR64_0 (pc - 0) (List.mem_range.mpr (by omega))
    rwa [show 0 + (pc - 0) = pc by omega] at this
  have := List.all_eq_true.mp sR64_1 (pc - 80) (List.mem_range.mpr (by omega))
  rwa [show 80 + (pc - 80) = pc by omega] at this
theorem sR65_0 : (List.range 80).all (fun q => sRowB 65 (0 + q)) = true := by decide +kernel
theorem sR65_1 : (List.range 80).all (fun q => sRowB 65 (80 + q)) = true := by decide +kernel
theorem sR65_2 : (List.range 10).all (fun q => sRowB 65 (160 + q)) = true := by decide +kernel
theorem sR65 : ∀ pc, pc < sLen 65 → sRowB 65 pc = true := by
  intro pc h
  have hl : sLen 65 = 170 := by decide +kernel
  rw [hl] at h
  by_cases h0 : pc < 80
  · have := List.all_eq_true.mp sR65_0 (pc - 0) (List.mem_range.mpr (by omega))
    rwa [show 0 + (pc - 0) = pc by omega] at this
  by_cases h1 : pc < 160
  · have := List.all_eq_true.mp sR65_1 (pc - 80) (List.mem_range.mpr (by omega))
    rwa [show 80 + (pc - 80) = pc by omega] at this
  have := List.all_eq_true.mp sR65_2 (pc - 160) (List.mem_range.mpr (by omega))
  rwa [show 160 + (pc - 160) = pc by omega] at this
theorem sR66_0 : (List.range 66).all (fun q => sRowB 66 (0 + q)) = true := by decide +kernel
theorem sR66 : ∀ pc, pc < sLen 66 → sRowB 66 pc = true := by
  intro pc h
  have hl : sLen 66 = 66 := by decide +kernel
  rw [hl] at h
  have := List.all_eq_true.mp sR66_0 (pc - 0) (List.mem_range.mpr (by omega))
  rwa [show 0 + (pc - 0) = pc by omega] at this
theorem sR67_0 : (List.range 80).all (fun q => sRowB 67 (0 + q)) = true := by decide +kernel
theorem sR67_1 : (List.range 80).all (fun q => sRowB 67 (80 + q)) = true := by decide +kernel
theorem sR67_2 : (List.range 80).all (fun q => sRowB 67 (160 + q)) = true := by decide +kernel
theorem sR67_3 : (List.range 2).all (fun q => sRowB 67 (240 + q)) = true := by decide +kernel
theorem sR67 : ∀ pc, pc < sLen 67 → sRowB 67 pc = true := by
  intro pc h
  have hl : sLen 67 = 242 := by decide +kernel
  rw [hl] at h
  by_cases h0 : pc < 80
  · have := List.all_eq_true.mp sR67_0 (pc - 0) (List.mem_range.mpr (by omega))
    rwa [show 0 + (pc - 0) = pc by omega] at this
  by_cases h1 : pc < 160
  · have := List.all_eq_true.mp sR67_1 (pc - 80) (List.mem_range.mpr (by omega))
    rwa [show 80 + (pc - 80) = pc by omega] at this
  by_cases h2 : pc < 240
  · have := List.all_eq_true.mp sR67_2 (pc - 160) (List.mem_range.mpr (by omega))
    rwa [show 160 + (pc - 160) = pc by omega] at this
  have := List.all_eq_true.mp sR67_3 (pc - 240) (List.mem_range.mpr (by omega))
  rwa [show 240 + (pc - 240) = pc by omega] at this
theorem sR68_0 : (List.range 17).all (fun q => sRowB 68 (0 + q)) = true := by decide +kernel
theorem sR68 : ∀ pc, pc < sLen 68 → sRowB 68 pc = true := by
  intro pc h
  have hl : sLen 68 = 17 := by decide +kernel
  rw [hl] at h
  have := List.all_eq_true.mp sR68_0 (pc - 0) (List.mem_range.mpr (by omega))
  rwa [show 0 + (pc - 0) = pc by omega] at this
theorem sR69_0 : (List.range 29).all (fun q => sRowB 69 (0 + q)) = true := by decide +kernel
theorem sR69 : ∀ pc, pc < sLen 69 → sRowB 69 pc = true := by
  intro pc h
  have hl : sLen 69 = 29 := by decide +kernel
  rw [hl] at h
  have := List.all_eq_true.mp sR69_0 (pc - 0) (List.mem_range.mpr (by omega))
  rwa [show 0 + (pc - 0) = pc by omega] at this
theorem sR70_0 : (List.range 49).all (fun q => sRowB 70 (0 + q)) = true := by decide +kernel
theorem sR70 : ∀ pc, pc < sLen 70 → sRowB 70 pc = true := by
  intro pc h
  have hl : sLen 70 = 49 := by decide +kernel
  rw [hl] at h
  have := List.all_eq_true.mp sR70_0 (pc - 0) (List.mem_range.mpr (by omega))
  rwa [show 0 + (pc - 0) = pc by omega] at this
theorem sR71_0 : (List.range 21).all (fun q => sRowB 71 (0 + q)) = true := by decide +kernel
theorem sR71 : ∀ pc, pc < sLen 71 → sRowB 71 pc = true := by
  intro pc h
  have hl : sLen 71 = 21 := by decide +kernel
  rw [hl] at h
  have := List.all_eq_true.mp sR71_0 (pc - 0) (List.mem_range.mpr (by omega))
  rwa [show 0 + (pc - 0) = pc by omega] at this
theorem sR72_0 : (List.range 37).all (fun q => sRowB 72 (0 + q)) = true := by decide +kernel
theorem sR72 : ∀ pc, pc < sLen 72 → sRowB 72 pc = true := by
  intro pc h
  have hl : sLen 72 = 37 := by decide +kernel
  rw [hl] at h
  have := List.all_eq_true.mp sR72_0 (pc - 0) (List.mem_range.mpr (by omega))
  rwa [show 0 + (pc - 0) = pc by omega] at this
theorem sR73_0 : (List.range 37).all (fun q => sRowB 73 (0 + q)) = true := by decide +kernel
theorem sR73 : ∀ pc, pc < sLen 73 → sRowB 73 pc = true := by
  intro pc h
  have hl : sLen 73 = 37 := by decide +kernel
  rw [hl] at h
  have := List.all_eq_true.mp sR73_0 (pc - 0) (List.mem_range.mpr (by omega))
  rwa [show 0 + (pc - 0) = pc by omega] at this
theorem sR74_0 : (List.range 71).all (fun q => sRowB 74 (0 + q)) = true := by decide +kernel
theorem sR74 : ∀ pc, pc < sLen 74 → sRowB 74 pc = true := by
  intro pc h
  have hl : sLen 74 = 71 := by decide +kernel
  rw [hl] at h
  have := List.all_eq_true.mp sR74_0 (pc - 0) (List.mem_range.mpr (by omega))
  rwa [show 0 + (pc - 0) = pc by omega] at this
theorem sR75_0 : (List.range 16).all (fun q => sRowB 75 (0 + q)) = true := by decide +kernel
theorem sR75 : ∀ pc, pc < sLen 75 → sRowB 75 pc = true := by
  intro pc h
  have hl : sLen 75 = 16 := by decide +kernel
  rw [hl] at h
  have := List.all_eq_true.mp sR75_0 (pc - 0) (List.mem_range.mpr (by omega))
  rwa [show 0 + (pc - 0) = pc by omega] at this
theorem sR76_0 : (List.range 32).all (fun q => sRowB 76 (0 + q)) = true := by decide +kernel
theorem sR76 : ∀ pc, pc < sLen 76 → sRowB 76 pc = true := by
  intro pc h
  have hl : sLen 76 = 32 := by decide +kernel
  rw [hl] at h
  have := List.all_eq_true.mp sR76_0 (pc - 0) (List.mem_range.mpr (by omega))
  rwa [show 0 + (pc - 0) = pc by omega] at this
theorem sR77_0 : (List.range 80).all (fun q => sRowB 77 (0 + q)) = true := by decide +kernel
theorem sR77_1 : (List.range 19).all (fun q => sRowB 77 (80 + q)) = true := by decide +kernel
theorem sR77 : ∀ pc, pc < sLen 77 → sRowB 77 pc = true := by
  intro pc h
  have hl : sLen 77 = 99 := by decide +kernel
  rw [hl] at h
  by_cases h0 : pc < 80
  · have := List.all_eq_true.mp sR77_0 (pc - 0) (List.mem_range.mpr (by omega))
    rwa [show 0 + (pc - 0) = pc by omega] at this
  have := List.all_eq_true.mp sR77_1 (pc - 80) (List.mem_range.mpr (by omega))
  rwa [show 80 + (pc - 80) = pc by omega] at this
theorem sR78_0 : (List.range 10).all (fun q => sRowB 78 (0 + q)) = true := by decide +kernel
theorem sR78 : ∀ pc, pc < sLen 78 → sRowB 78 pc = true := by
  intro pc h
  have hl : sLen 78 = 10 := by decide +kernel
  rw [hl] at h
  have := List.all_eq_true.mp sR78_0 (pc - 0) (List.mem_range.mpr (by omega))
  rwa [show 0 + (pc - 0) = pc by omega] at this
theorem sR79_0 : (List.range 62).all (fun q => sRowB 79 (0 + q)) = true := by decide +kernel
theorem sR79 : ∀ pc, pc < sLen 79 → sRowB 79 pc = true := by
  intro pc h
  have hl : sLen 79 = 62 := by decide +kernel
  rw [hl] at h
  have := List.all_eq_true.mp sR79_0 (pc - 0) (List.mem_range.mpr (by omega))
  rwa [show 0 + (pc - 0) = pc by omega] at this
theorem sR80_0 : (List.range 69).all (fun q => sRowB 80 (0 + q)) = true := by decide +kernel
theorem sR80 : ∀ pc, pc < sLen 80 → sRowB 80 pc = true := by
  intro pc h
  have hl : sLen 80 = 69 := by decide +kernel
  rw [hl] at h
  have := List.all_eq_true.mp sR80_0 (pc - 0) (List.mem_range.mpr (by omega))
  rwa [show 0 + (pc - 0) = pc by omega] at this
theorem sR81_0 : (List.range 80).all (fun q => sRowB 81 (0 + q)) = true := by decide +kernel
theorem sR81_1 : (List.range 12).all (fun q => sRowB 81 (80 + q)) = true := by decide +kernel
theorem sR81 : ∀ pc, pc < sLen 81 → sRowB 81 pc = true := by
  intro pc h
  have hl : sLen 81 = 92 := by decide +kernel
  rw [hl] at h
  by_cases h0 : pc < 80
  · have := List.all_eq_true.mp sR81_0 (pc - 0) (List.mem_range.mpr (by omega))
    rwa [show 0 + (pc - 0) = pc by omega] at this
  have := List.all_eq_true.mp sR81_1 (pc - 80) (List.mem_range.mpr (by omega))
  rwa [show 80 + (pc - 80) = pc by omega] at this
theorem sR82_0 : (List.range 80).all (fun q => sRowB 82 (0 + q)) = true := by decide +kernel
theorem sR82_1 : (List.range 12).all (fun q => sRowB 82 (80 + q)) = true := by decide +kernel
theorem sR82 : ∀ pc, pc < sLen 82 → sRowB 82 pc = true := by
  intro pc h
  have hl : sLen 82 = 92 := by decide +kernel
  rw [hl] at h
  by_cases h0 : pc < 80
  · have := List.all_eq_true.mp sR82_0 (pc - 0) (List.mem_range.mpr (by omega))
    rwa [show 0 + (pc - 0) = pc by omega] at this
  have := List.all_eq_true.mp sR82_1 (pc - 80) (List.mem_range.mpr (by omega))
  rwa [show 80 + (pc - 80) = pc by omega] at this
theorem sR83_0 : (List.range 80).all (fun q => sRowB 83 (0 + q)) = true := by decide +kernel
theorem sR83_1 : (List.range 11).all (fun q => sRowB 83 (80 + q)) = true := by decide +kernel
theorem sR83 : ∀ pc, pc < sLen 83 → sRowB 83 pc = true := by
  intro pc h
  have hl : sLen 83 = 91 := by decide +kernel
  rw [hl] at h
  by_cases h0 : pc < 80
  · have := List.all_eq_true.mp sR83_0 (pc - 0) (List.mem_range.mpr (by omega))
    rwa [show 0 + (pc - 0) = pc by omega] at this
  have := List.all_eq_true.mp sR83_1 (pc - 80) (List.mem_range.mpr (by omega))
  rwa [show 80 + (pc - 80) = pc by omega] at this
theorem sR84_0 : (List.range 34).all (fun q => sRowB 84 (0 + q)) = true := by decide +kernel
theorem sR84 : ∀ pc, pc < sLen 84 → sRowB 84 pc = true := by
  intro pc h
  have hl : sLen 84 = 34 := by decide +kernel
  rw [hl] at h
  have := List.all_eq_true.mp sR84_0 (pc - 0) (List.mem_range.mpr (by omega))
  rwa [show 0 + (pc - 0) = pc by omega] at this
theorem sR85_0 : (List.range 33).all (fun q => sRowB 85 (0 + q)) = true := by decide +kernel
theorem sR85 : ∀ pc, pc < sLen 85 → sRowB 85 pc = true := by
  intro pc h
  have hl : sLen 85 = 33 := by decide +kernel
  rw [hl] at h
  have := List.all_eq_true.mp sR85_0 (pc - 0) (List.mem_range.mpr (by omega))
  rwa [show 0 + (pc - 0) = pc by omega] at this
theorem sR86_0 : (List.range 63).all (fun q => sRowB 86 (0 + q)) = true := by decide +kernel
theorem sR86 : ∀ pc, pc < sLen 86 → sRowB 86 pc = true := by
  intro pc h
  have hl : sLen 86 = 63 := by decide +kernel
  rw [hl] at h
  have := List.all_eq_true.mp sR86_0 (pc - 0) (List.mem_range.mpr (by omega))
  rwa [show 0 + (pc - 0) = pc by omega] at this
theorem sR87_0 : (List.range 20).all (fun q => sRowB 87 (0 + q)) = true := by decide +kernel
theorem sR87 : ∀ pc, pc < sLen 87 → sRowB 87 pc = true := by
  intro pc h
  have hl : sLen 87 = 20 := by decide +kernel
  rw [hl] at h
  have := List.all_eq_true.mp sR87_0 (pc - 0) (List.mem_range.mpr (by omega))
  rwa [show 0 + (pc - 0) = pc by omega] at this
theorem sR88_0 : (List.range 36).all (fun q => sRowB 88 (0 + q)) = true := by decide +kernel
theorem sR88 : ∀ pc, pc < sLen 88 → sRowB 88 pc = true := by
  intro pc h
  have hl : sLen 88 = 36 := by decide +kernel
  rw [hl] at h
  have := List.all_eq_true.mp sR88_0 (pc - 0) (List.mem_range.mpr (by omega))
  rwa [show 0 + (pc - 0) = pc by omega] at this
theorem sR89_0 : (List.range 80).all (fun q => sRowB 89 (0 + q)) = true := by decide +kernel
theorem sR89_1 : (List.range 8).all (fun q => sRowB 89 (80 + q)) = true := by decide +kernel
theorem sR89 : ∀ pc, pc < sLen 89 → sRowB 89 pc = true := by
  intro pc h
  have hl : sLen 89 = 88 := by decide +kernel
  rw [hl] at h
  by_cases h0 : pc < 80
  · have := List.all_eq_true.mp sR89_0 (pc - 0) (List.mem_range.mpr (by omega))
    rwa [show 0 + (pc - 0) = pc by omega] at this
  have := List.all_eq_true.mp sR89_1 (pc - 80) (List.mem_range.mpr (by omega))
  rwa [show 80 + (pc - 80) = pc by omega] at this
theorem sR90_0 : (List.range 42).all (fun q => sRowB 90 (0 + q)) = true := by decide +kernel
theorem sR90 : ∀ pc, pc < sLen 90 → sRowB 90 pc = true := by
  intro pc h
  have hl : sLen 90 = 42 := by decide +kernel
  rw [hl] at h
  have := List.all_eq_true.mp sR90_0 (pc - 0) (List.mem_range.mpr (by omega))
  rwa [show 0 + (pc - 0) = pc by omega] at this
theorem sR91_0 : (List.range 25).all (fun q => sRowB 91 (0 + q)) = true := by decide +kernel
theorem sR91 : ∀ pc, pc < sLen 91 → sRowB 91 pc = true := by
  intro pc h
  have hl : sLen 91 = 25 := by decide +kernel
  rw [hl] at h
  have := List.all_eq_true.mp sR91_0 (pc - 0) (List.mem_range.mpr (by omega))
  rwa [show 0 + (pc - 0) = pc by omega] at this
theorem sR92_0 : (List.range 28).all (fun q => sRowB 92 (0 + q)) = true := by decide +kernel
theorem sR92 : ∀ pc, pc < sLen 92 → sRowB 92 pc = true := by
  intro pc h
  have hl : sLen 92 = 28 := by decide +kernel
  rw [hl] at h
  have := List.all_eq_true.mp sR92_0 (pc - 0) (List.mem_range.mpr (by omega))
  rwa [show 0 + (pc - 0) = pc by omega] at this
theorem sR93_0 : (List.range 45).all (fun q => sRowB 93 (0 + q)) = true := by decide +kernel
theorem sR93 : ∀ pc, pc < sLen 93 → sRowB 93 pc = true := by
  intro pc h
  have hl : sLen 93 = 45 := by decide +kernel
  rw [hl] at h
  have := List.all_eq_true.mp sR93_0 (pc - 0) (List.mem_range.mpr (by omega))
  rwa [show 0 + (pc - 0) = pc by omega] at this
theorem sR94_0 : (List.range 80).all (fun q => sRowB 94 (0 + q)) = true := by decide +kernel
theorem sR94_1 : (List.range 40).all (fun q => sRowB 94 (80 + q)) = true := by decide +kernel
theorem sR94 : ∀ pc, pc < sLen 94 → sRowB 94 pc = true := by
  intro pc h
  have hl : sLen 94 = 120 := by decide +kernel
  rw [hl] at h
  by_cases h0 : pc < 80
  · have := List.all_eq_true.mp sR94_0 (pc - 0) (List.mem_range.mpr (by omega))
    rwa [show 0 + (pc - 0) = pc by omega] at this
  have := List.all_eq_true.mp sR94_1 (pc - 80) (List.mem_range.mpr (by omega))
  rwa [show 80 + (pc - 80) = pc by omega] at this
theorem sR95_0 : (List.range 80).all (fun q => sRowB 95 (0 + q)) = true := by decide +kernel
theorem sR95_1 : (List.range 32).all (fun q => sRowB 95 (80 + q)) = true := by decide +kernel
theorem sR95 : ∀ pc, pc < sLen 95 → sRowB 95 pc = true := by
  intro pc h
  have hl : sLen 95 = 112 := by decide +kernel
  rw [hl] at h
  by_cases h0 : pc < 80
  · have := List.all_eq_true.mp sR95_0 (pc - 0) (List.mem_range.mpr (by omega))
    rwa [show 0 + (pc - 0) = pc by omega] at this
  have := List.all_eq_true.mp sR95_1 (pc - 80) (List.mem_range.mpr (by omega))
  rwa [show 80 + (pc - 80) = pc by omega] at this
theorem sR96_0 : (List.range 80).all (fun q => sRowB 96 (0 + q)) = true := by decide +kernel
theorem sR96_1 : (List.range 32).all (fun q => sRowB 96 (80 + q)) = true := by decide +kernel
theorem sR96 : ∀ pc, pc < sLen 96 → sRowB 96 pc = true := by
  intro pc h
  have hl : sLen 96 = 112 := by decide +kernel
  rw [hl] at h
  by_cases h0 : pc < 80
  · have := List.all_eq_true.mp sR96_0 (pc - 0) (List.mem_range.mpr (by omega))
    rwa [show 0 + (pc - 0) = pc by omega] at this
  have := List.all_eq_true.mp sR96_1 (pc - 80) (List.mem_range.mpr (by omega))
  rwa [show 80 + (pc - 80) = pc by omega] at this
theorem sR97_0 : (List.range 80).all (fun q => sRowB 97 (0 + q)) = true := by decide +kernel
theorem sR97_1 : (List.range 80).all (fun q => sRowB 97 (80 + q)) = true := by decide +kernel
theorem sR97_2 : (List.range 7).all (fun q => sRowB 97 (160 + q)) = true := by decide +kernel
theorem sR97 : ∀ pc, pc < sLen 97 → sRowB 97 pc = true := by
  intro pc h
  have hl : sLen 97 = 167 := by decide +kernel
  rw [hl] at h
  by_cases h0 : pc < 80
  · have := List.all_eq_true.mp sR97_0 (pc - 0) (List.mem_range.mpr (by omega))
    rwa [show 0 + (pc - 0) = pc by omega] at this
  by_cases h1 : pc < 160
  · have := List.all_eq_true.mp sR97_1 (pc - 80) (List.mem_range.mpr (by omega))
    rwa [show 80 + (pc - 80) = pc by omega] at this
  have := List.all_eq_true.mp sR97_2 (pc - 160) (List.mem_range.mpr (by omega))
  rwa [show 160 + (pc - 160) = pc by omega] at this
theorem sR98_0 : (List.range 26).all (fun q => sRowB 98 (0 + q)) = true := by decide +kernel
theorem sR98 : ∀ pc, pc < sLen 98 → sRowB 98 pc = true := by
  intro pc h
  have hl : sLen 98 = 26 := by decide +kernel
  rw [hl] at h
  have := List.all_eq_true.mp sR98_0 (pc - 0) (List.mem_range.mpr (by omega))
  rwa [show 0 + (pc - 0) = pc by omega] at this
theorem sR99_0 : (List.range 60).all (fun q => sRowB 99 (0 + q)) = true := by decide +kernel
theorem sR99 : ∀ pc, pc < sLen 99 → sRowB 99 pc = true := by
  intro pc h
  have hl : sLen 99 = 60 := by decide +kernel
  rw [hl] at h
  have := List.all_eq_true.mp sR99_0 (pc - 0) (List.mem_range.mpr (by omega))
  rwa [show 0 + (pc - 0) = pc by omega] at this
theorem sR100_0 : (List.range 47).all (fun q => sRowB 100 (0 + q)) = true := by decide +kernel
theorem sR100 : ∀ pc, pc < sLen 100 → sRowB 100 pc = true := by
  intro pc h
  have hl : sLen 100 = 47 := by decide +kernel
  rw [hl] at h
  have := List.all_eq_true.mp sR100_0 (pc - 0) (List.mem_range.mpr (by omega))
  rwa [show 0 + (pc - 0) = pc by omega] at this
theorem sR101_0 : (List.range 80).all (fun q => sRowB 101 (0 + q)) = true := by decide +kernel
theorem sR101_1 : (List.range 30).all (fun q => sRowB 101 (80 + q)) = true := by decide +kernel
theorem sR101 : ∀ pc, pc < sLen 101 → sRowB 101 pc = true := by
  intro pc h
  have hl : sLen 101 = 110 := by decide +kernel
  rw [hl] at h
  by_cases h0 : pc < 80
  · have := List.all_eq_true.mp sR101_0 (pc - 0) (List.mem_range.mpr (by omega))
    rwa [show 0 + (pc - 0) = pc by omega] at this
  have := List.all_eq_true.mp sR101_1 (pc - 80) (List.mem_range.mpr (by omega))
  rwa [show 80 + (pc - 80) = pc by omega] at this
theorem sR102_0 : (List.range 9).all (fun q => sRowB 102 (0 + q)) = true := by decide +kernel
theorem sR102 : ∀ pc, pc < sLen 102 → sRowB 102 pc = true := by
  intro pc h
  have hl : sLen 102 = 9 := by decide +kernel
  rw [hl] at h
  have := List.all_eq_true.mp sR102_0 (pc - 0) (List.mem_range.mpr (by omega))
  rwa [show 0 + (pc - 0) = pc by omega] at this
theorem sR103_0 : (List.range 11).all (fun q => sRowB 103 (0 + q)) = true := by decide +kernel
theorem sR103 : ∀ pc, pc < sLen 103 → sRowB 103 pc = true := by
  intro pc h
  have hl : sLen 103 = 11 := by decide +kernel
  rw [hl] at h
  have := List.all_eq_true.mp sR103_0 (pc - 0) (List.mem_range.mpr (by omega))
  rwa [show 0 + (pc - 0) = pc by omega] at this
theorem sR104_0 : (List.range 9).all (fun q => sRowB 104 (0 + q)) = true := by decide +kernel
theorem sR104 : ∀ pc, pc < sLen 104 → sRowB 104 pc = true := by
  intro pc h
  have hl : sLen 104 = 9 := by decide +kernel
  rw [hl] at h
  have := List.all_eq_true.mp sR104_0 (pc - 0) (List.mem_range.mpr (by omega))
  rwa [show 0 + (pc - 0) = pc by omega] at this
theorem sR105_0 : (List.range 9).all (fun q => sRowB 105 (0 + q)) = true := by decide +kernel
theorem sR105 : ∀ pc, pc < sLen 105 → sRowB 105 pc = true := by
  intro pc h
  have hl : sLen 105 = 9 := by decide +kernel
  rw [hl] at h
  have := List.all_eq_true.mp sR105_0 (pc - 0) (List.mem_range.mpr (by omega))
  rwa [show 0 + (pc - 0) = pc by omega] at this
theorem sR106_0 : (List.range 23).all (fun q => sRowB 106 (0 + q)) = true := by decide +kernel
theorem sR106 : ∀ pc, pc < sLen 106 → sRowB 106 pc = true := by
  intro pc h
  have hl : sLen 106 = 23 := by decide +kernel
  rw [hl] at h
  have := List.all_eq_true.mp sR106_0 (pc - 0) (List.mem_range.mpr (by omega))
  rwa [show 0 + (pc - 0) = pc by omega] at this
theorem sR107_0 : (List.range 13).all (fun q => sRowB 107 (0 + q)) = true := by decide +kernel
theorem sR107 : ∀ pc, pc < sLen 107 → sRowB 107 pc = true := by
  intro pc h
  have hl : sLen 107 = 13 := by decide +kernel
  rw [hl] at h
  have := List.all_eq_true.mp sR107_0 (pc - 0) (List.mem_range.mpr (by omega))
  rwa [show 0 + (pc - 0) = pc by omega] at this
theorem sR108_0 : (List.range 17).all (fun q => sRowB 108 (0 + q)) = true := by decide +kernel
theorem sR108 : ∀ pc, pc < sLen 108 → sRowB 108 pc = true := by
  intro pc h
  have hl : sLen 108 = 17 := by decide +kernel
  rw [hl] at h
  have := List.all_eq_true.mp sR108_0 (pc - 0) (List.mem_range.mpr (by omega))
  rwa [show 0 + (pc - 0) = pc by omega] at this
theorem sR109_0 : (List.range 14).all (fun q => sRowB 109 (0 + q)) = true := by decide +kernel
theorem sR109 : ∀ pc, pc < sLen 109 → sRowB 109 pc = true := by
  intro pc h
  have hl : sLen 109 = 14 := by decide +kernel
  rw [hl] at h
  have := List.all_eq_true.mp sR109_0 (pc - 0) (List.mem_range.mpr (by omega))
  rwa [show 0 + (pc - 0) = pc by omega] at this
theorem sR110_0 : (List.range 25).all (fun q => sRowB 110 (0 + q)) = true := by decide +kernel
theorem sR110 : ∀ pc, pc < sLen 110 → sRowB 110 pc = true := by
  intro pc h
  have hl : sLen 110 = 25 := by decide +kernel
  rw [hl] at h
  have := List.all_eq_true.mp sR110_0 (pc - 0) (List.mem_range.mpr (by omega))
  rwa [show 0 + (pc - 0) = pc by omega] at this
theorem sR111_0 : (List.range 13).all (fun q => sRowB 111 (0 + q)) = true := by decide +kernel
theorem sR111 : ∀ pc, pc < sLen 111 → sRowB 111 pc = true := by
  intro pc h
  have hl : sLen 111 = 13 := by decide +kernel
  rw [hl] at h
  have := List.all_eq_true.mp sR111_0 (pc - 0) (List.mem_range.mpr (by omega))
  rwa [show 0 + (pc - 0) = pc by omega] at this
theorem sR112 : ∀ pc, pc < sLen 112 → sRowB 112 pc = true := by
  intro pc h
  have hl : sLen 112 = 0 := by decide +kernel
  rw [hl] at h
  exact absurd h (Nat.not_lt_zero _)
theorem sR113_0 : (List.range 9).all (fun q => sRowB 113 (0 + q)) = true := by decide +kernel
theorem sR113 : ∀ pc, pc < sLen 113 → sRowB 113 pc = true := by
  intro pc h
  have hl : sLen 113 = 9 := by decide +kernel
  rw [hl] at h
  have := List.all_eq_true.mp sR113_0 (pc - 0) (List.mem_range.mpr (by omega))
  rwa [show 0 + (pc - 0) = pc by omega] at this
theorem sR114_0 : (List.range 11).all (fun q => sRowB 114 (0 + q)) = true := by decide +kernel
theorem sR114 : ∀ pc, pc < sLen 114 → sRowB 114 pc = true := by
  intro pc h
  have hl : sLen 114 = 11 := by decide +kernel
  rw [hl] at h
  have := List.all_eq_true.mp sR114_0 (pc - 0) (List.mem_range.mpr (by omega))
  rwa [show 0 + (pc - 0) = pc by omega] at this
theorem sR115_0 : (List.range 80).all (fun q => sRowB 115 (0 + q)) = true := by decide +kernel
theorem sR115_1 : (List.range 15).all (fun q => sRowB 115 (80 + q)) = true := by decide +kernel
theorem sR115 : ∀ pc, pc < sLen 115 → sRowB 115 pc = true := by
  intro pc h
  have hl : sLen 115 = 95 := by decide +kernel
  rw [hl] at h
  by_cases h0 : pc < 80
  · have := List.all_eq_true.mp sR115_0 (pc - 0) (List.mem_range.mpr (by omega))
    rwa [show 0 + (pc - 0) = pc by omega] at this
  have := List.all_eq_true.mp sR115_1 (pc - 80) (List.mem_range.mpr (by omega))
  rwa [show 80 + (pc - 80) = pc by omega] at this
theorem sR116_0 : (List.range 16).all (fun q => sRowB 116 (0 + q)) = true := by decide +kernel
theorem sR116 : ∀ pc, pc < sLen 116 → sRowB 116 pc = true := by
  intro pc h
  have hl : sLen 116 = 16 := by decide +kernel
  rw [hl] at h
  have := List.all_eq_true.mp sR116_0 (pc - 0) (List.mem_range.mpr (by omega))
  rwa [show 0 + (pc - 0) = pc by omega] at this
theorem sR117_0 : (List.range 20).all (fun q => sRowB 117 (0 + q)) = true := by decide +kernel
theorem sR117 : ∀ pc, pc < sLen 117 → sRowB 117 pc = true := by
  intro pc h
  have hl : sLen 117 = 20 := by decide +kernel
  rw [hl] at h
  have := List.all_eq_true.mp sR117_0 (pc - 0) (List.mem_range.mpr (by omega))
  rwa [show 0 + (pc - 0) = pc by omega] at this
theorem sR118_0 : (List.range 9).all (fun q => sRowB 118 (0 + q)) = true := by decide +kernel
theorem sR118 : ∀ pc, pc < sLen 118 → sRowB 118 pc = true := by
  intro pc h
  have hl : sLen 118 = 9 := by decide +kernel
  rw [hl] at h
  have := List.all_eq_true.mp sR118_0 (pc - 0) (List.mem_range.mpr (by omega))
  rwa [show 0 + (pc - 0) = pc by omega] at this
theorem sR119_0 : (List.range 13).all (fun q => sRowB 119 (0 + q)) = true := by decide +kernel
theorem sR119 : ∀ pc, pc < sLen 119 → sRowB 119 pc = true := by
  intro pc h
  have hl : sLen 119 = 13 := by decide +kernel
  rw [hl] at h
  have := List.all_eq_true.mp sR119_0 (pc - 0) (List.mem_range.mpr (by omega))
  rwa [show 0 + (pc - 0) = pc by omega] at this
theorem sR120_0 : (List.range 14).all (fun q => sRowB 120 (0 + q)) = true := by decide +kernel
theorem sR120 : ∀ pc, pc < sLen 120 → sRowB 120 pc = true := by
  intro pc h
  have hl : sLen 120 = 14 := by decide +kernel
  rw [hl] at h
  have := List.all_eq_true.mp sR120_0 (pc - 0) (List.mem_range.mpr (by omega))
  rwa [show 0 + (pc - 0) = pc by omega] at this
theorem sR121_0 : (List.range 10).all (fun q => sRowB 121 (0 + q)) = true := by decide +kernel
theorem sR121 : ∀ pc, pc < sLen 121 → sRowB 121 pc = true := by
  intro pc h
  have hl : sLen 121 = 10 := by decide +kernel
  rw [hl] at h
  have := List.all_eq_true.mp sR121_0 (pc - 0) (List.mem_range.mpr (by omega))
  rwa [show 0 + (pc - 0) = pc by omega] at this
theorem sR122_0 : (List.range 9).all (fun q => sRowB 122 (0 + q)) = true := by decide +kernel
theorem sR122 : ∀ pc, pc < sLen 122 → sRowB 122 pc = true := by
  intro pc h
  have hl : sLen 122 = 9 := by decide +kernel
  rw [hl] at h
  have := List.all_eq_true.mp sR122_0 (pc - 0) (List.mem_range.mpr (by omega))
  rwa [show 0 + (pc - 0) = pc by omega] at this
theorem sR123_0 : (List.range 9).all (fun q => sRowB 123 (0 + q)) = true := by decide +kernel
theorem sR123 : ∀ pc, pc < sLen 123 → sRowB 123 pc = true := by
  intro pc h
  have hl : sLen 123 = 9 := by decide +kernel
  rw [hl] at h
  have := List.all_eq_true.mp sR123_0 (pc - 0) (List.mem_range.mpr (by omega))
  rwa [show 0 + (pc - 0) = pc by omega] at this
theorem sR124 : ∀ pc, pc < sLen 124 → sRowB 124 pc = true := by
  intro pc h
  have hl : sLen 124 = 0 := by decide +kernel
  rw [hl] at h
  exact absurd h (Nat.not_lt_zero _)
theorem sR125_0 : (List.range 8).all (fun q => sRowB 125 (0 + q)) = true := by decide +kernel
theorem sR125 : ∀ pc, pc < sLen 125 → sRowB 125 pc = true := by
  intro pc h
  have hl : sLen 125 = 8 := by decide +kernel
  rw [hl] at h
  have := List.all_eq_true.mp sR125_0 (pc - 0) (List.mem_range.mpr (by omega))
  rwa [show 0 + (pc - 0) = pc by omega] at this
theorem sR126_0 : (List.range 21).all (fun q => sRowB 126 (0 + q)) = true := by decide +kernel
theorem sR126 : ∀ pc, pc < sLen 126 → sRowB 126 pc = true := by
  intro pc h
  have hl : sLen 126 = 21 := by decide +kernel
  rw [hl] at h
  have := List.all_eq_true.mp sR126_0 (pc - 0) (List.mem_range.mpr (by omega))
  rwa [show 0 + (pc - 0) = pc by omega] at this
theorem sR127_0 : (List.range 22).all (fun q => sRowB 127 (0 + q)) = true := by decide +kernel
theorem sR127 : ∀ pc, pc < sLen 127 → sRowB 127 pc = true := by
  intro pc h
  have hl : sLen 127 = 22 := by decide +kernel
  rw [hl] at h
  have := List.all_eq_true.mp sR127_0 (pc - 0) (List.mem_range.mpr (by omega))
  rwa [show 0 + (pc - 0) = pc by omega] at this
theorem sR128_0 : (List.range 29).all (fun q => sRowB 128 (0 + q)) = true := by decide +kernel
theorem sR128 : ∀ pc, pc < sLen 128 → sRowB 128 pc = true := by
  intro pc h
  have hl : sLen 128 = 29 := by decide +kernel
  rw [hl] at h
  have := List.all_eq_true.mp sR128_0 (pc - 0) (List.mem_range.mpr (by omega))
  rwa [show 0 + (pc - 0) = pc by omega] at this
theorem sR129_0 : (List.range 16).all (fun q => sRowB 129 (0 + q)) = true := by decide +kernel
theorem sR129 : ∀ pc, pc < sLen 129 → sRowB 129 pc = true := by
  intro pc h
  have hl : sLen 129 = 16 := by decide +kernel
  rw [hl] at h
  have := List.all_eq_true.mp sR129_0 (pc - 0) (List.mem_range.mpr (by omega))
  rwa [show 0 + (pc - 0) = pc by omega] at this
theorem sR130_0 : (List.range 34).all (fun q => sRowB 130 (0 + q)) = true := by decide +kernel
theorem sR130 : ∀ pc, pc < sLen 130 → sRowB 130 pc = true := by
  intro pc h
  have hl : sLen 130 = 34 := by decide +kernel
  rw [hl] at h
  have := List.all_eq_true.mp sR130_0 (pc - 0) (List.mem_range.mpr (by omega))
  rwa [show 0 + (pc - 0) = pc by omega] at this
theorem sR131_0 : (List.range 37).all (fun q => sRowB 131 (0 + q)) = true := by decide +kernel
theorem sR131 : ∀ pc, pc < sLen 131 → sRowB 131 pc = true := by
  intro pc h
  have hl : sLen 131 = 37 := by decide +kernel
  rw [hl] at h
  have := List.all_eq_true.mp sR131_0 (pc - 0) (List.mem_range.mpr (by omega))
  rwa [show 0 + (pc - 0) = pc by omega] at this
theorem sR132_0 : (List.range 37).all (fun q => sRowB 132 (0 + q)) = true := by decide +kernel
theorem sR132 : ∀ pc, pc < sLen 132 → sRowB 132 pc = true := by
  intro pc h
  have hl : sLen 132 = 37 := by decide +kernel
  rw [hl] at h
  have := List.all_eq_true.mp sR132_0 (pc - 0) (List.mem_range.mpr (by omega))
  rwa [show 0 + (pc - 0) = pc by omega] at this
theorem sR133_0 : (List.range 37).all (fun q => sRowB 133 (0 + q)) = true := by decide +kernel
theorem sR133 : ∀ pc, pc < sLen 133 → sRowB 133 pc = true := by
  intro pc h
  have hl : sLen 133 = 37 := by decide +kernel
  rw [hl] at h
  have := List.all_eq_true.mp sR133_0 (pc - 0) (List.mem_range.mpr (by omega))
  rwa [show 0 + (pc - 0) = pc by omega] at this
theorem sR134_0 : (List.range 44).all (fun q => sRowB 134 (0 + q)) = true := by decide +kernel
theorem sR134 : ∀ pc, pc < sLen 134 → sRowB 134 pc = true := by
  intro pc h
  have hl : sLen 134 = 44 := by decide +kernel
  rw [hl] at h
  have := List.all_eq_true.mp sR134_0 (pc - 0) (List.mem_range.mpr (by omega))
  rwa [show 0 + (pc - 0) = pc by omega] at this
theorem sR135_0 : (List.range 44).all (fun q => sRowB 135 (0 + q)) = true := by decide +kernel
theorem sR135 : ∀ pc, pc < sLen 135 → sRowB 135 pc = true := by
  intro pc h
  have hl : sLen 135 = 44 := by decide +kernel
  rw [hl] at h
  have := List.all_eq_true.mp sR135_0 (pc - 0) (List.mem_range.mpr (by omega))
  rwa [show 0 + (pc - 0) = pc by omega] at this
theorem sR136_0 : (List.range 13).all (fun q => sRowB 136 (0 + q)) = true := by decide +kernel
theorem sR136 : ∀ pc, pc < sLen 136 → sRowB 136 pc = true := by
  intro pc h
  have hl : sLen 136 = 13 := by decide +kernel
  rw [hl] at h
  have := List.all_eq_true.mp sR136_0 (pc - 0) (List.mem_range.mpr (by omega))
  rwa [show 0 + (pc - 0) = pc by omega] at this
theorem sR137_0 : (List.range 18).all (fun q => sRowB 137 (0 + q)) = true := by decide +kernel
theorem sR137 : ∀ pc, pc < sLen 137 → sRowB 137 pc = true := by
  intro pc h
  have hl : sLen 137 = 18 := by decide +kernel
  rw [hl] at h
  have := List.all_eq_true.mp sR137_0 (pc - 0) (List.mem_range.mpr (by omega))
  rwa [show 0 + (pc - 0) = pc by omega] at this
theorem sR138_0 : (List.range 47).all (fun q => sRowB 138 (0 + q)) = true := by decide +kernel
theorem sR138 : ∀ pc, pc < sLen 138 → sRowB 138 pc = true := by
  intro pc h
  have hl : sLen 138 = 47 := by decide +kernel
  rw [hl] at h
  have := List.all_eq_true.mp sR138_0 (pc - 0) (List.mem_range.mpr (by omega))
  rwa [show 0 + (pc - 0) = pc by omega] at this
theorem sR139_0 : (List.range 54).all (fun q => sRowB 139 (0 + q)) = true := by decide +kernel
theorem sR139 : ∀ pc, pc < sLen 139 → sRowB 139 pc = true := by
  intro pc h
  have hl : sLen 139 = 54 := by decide +kernel
  rw [hl] at h
  have := List.all_eq_true.mp sR139_0 (pc - 0) (List.mem_range.mpr (by omega))
  rwa [show 0 + (pc - 0) = pc by omega] at this
