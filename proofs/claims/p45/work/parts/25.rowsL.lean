theorem sR297_0 : (List.range 40).all (fun q => sRowB 297 (0 + q)) = true := by decide +kernel
theorem sR297_1 : (List.range 40).all (fun q => sRowB 297 (40 + q)) = true := by decide +kernel
theorem sR297_2 : (List.range 40).all (fun q => sRowB 297 (80 + q)) = true := by decide +kernel
theorem sR297_3 : (List.range 40).all (fun q => sRowB 297 (120 + q)) = true := by decide +kernel
theorem sR297_4 : (List.range 40).all (fun q => sRowB 297 (160 + q)) = true := by decide +kernel
theorem sR297_5 : (List.range 40).all (fun q => sRowB 297 (200 + q)) = true := by decide +kernel
theorem sR297_6 : (List.range 40).all (fun q => sRowB 297 (240 + q)) = true := by decide +kernel
theorem sR297_7 : (List.range 38).all (fun q => sRowB 297 (280 + q)) = true := by decide +kernel
theorem sR297 : ∀ pc, pc < sLen 297 → sRowB 297 pc = true := by
  intro pc h
  have hl : sLen 297 = 318 := by decide +kernel
  rw [hl] at h
  by_cases h0 : pc < 40
  · have := List.all_eq_true.mp sR297_0 (pc - 0) (List.mem_range.mpr (by omega))
    rwa [show 0 + (pc - 0) = pc by omega] at this
  by_cases h1 : pc < 80
  · have := List.all_eq_true.mp sR297_1 (pc - 40) (List.mem_range.mpr (by omega))
    rwa [show 40 + (pc - 40) = pc by omega] at this
  by_cases h2 : pc < 120
  · have := List.all_eq_true.mp sR297_2 (pc - 80) (List.mem_range.mpr (by omega))
    rwa [show 80 + (pc - 80) = pc by omega] at this
  by_cases h3 : pc < 160
  · have := List.all_eq_true.mp sR297_3 (pc - 120) (List.mem_range.mpr (by omega))
    rwa [show 120 + (pc - 120) = pc by omega] at this
  by_cases h4 : pc < 200
  · have := List.all_eq_true.mp sR297_4 (pc - 160) (List.mem_range.mpr (by omega))
    rwa [show 160 + (pc - 160) = pc by omega] at this
  by_cases h5 : pc < 240
  · have := List.all_eq_true.mp sR297_5 (pc - 200) (List.mem_range.mpr (by omega))
    rwa [show 200 + (pc - 200) = pc by omega] at this
  by_cases h6 : pc < 280
  · have := List.all_eq_true.mp sR297_6 (pc - 240) (List.mem_range.mpr (by omega))
    rwa [show 240 + (pc - 240) = pc by omega] at this
  have := List.all_eq_true.mp sR297_7 (pc - 280) (List.mem_range.mpr (by omega))
  rwa [show 280 + (pc - 280) = pc by omega] at this
