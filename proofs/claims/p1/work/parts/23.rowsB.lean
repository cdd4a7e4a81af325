theorem sR140_0 : (List.range 66).all (fun q => sRowB 140 (0 + q)) = true := by decide +kernel
theorem sR140 : ∀ pc, pc < sLen 140 → sRowB 140 pc = true := by
  intro pc h
  have hl : sLen 140 = 66 := by decide +kernel
  rw [hl] at h
  have := List.all_eq_true.mp sR140_0 (pc - 0) (List.mem_range.mpr (by omega))
  rwa [show 0 + (pc - 0) = pc by omega] at this
theorem sR141_0 : (List.range 61).all (fun q => sRowB 141 (0 + q)) = true := by decide +kernel
theorem sR141 : ∀ pc, pc < sLen 141 → sRowB 141 pc = true := by
  intro pc h
  have hl : sLen 141 = 61 := by decide +kernel
  rw [hl] at h
  have := List.all_eq_true.mp sR141_0 (pc - 0) (List.mem_range.mpr (by omega))
  rwa [show 0 + (pc - 0) = pc by omega] at this
theorem sR142_0 : (List.range 80).all (fun q => sRowB 142 (0 + q)) = true := by decide +kernel
theorem sR142_1 : (List.range 80).all (fun q => sRowB 142 (80 + q)) = true := by decide +kernel
theorem sR142_2 : (List.range 80).all (fun q => sRowB 142 (160 + q)) = true := by decide +kernel
theorem sR142_3 : (List.range 80).all (fun q => sRowB 142 (240 + q)) = true := by decide +kernel
theorem sR142_4 : (List.range 70).all (fun q => sRowB 142 (320 + q)) = true := by decide +kernel
theorem sR142 : ∀ pc, pc < sLen 142 → sRowB 142 pc = true := by
  intro pc h
  have hl : sLen 142 = 390 := by decide +kernel
  rw [hl] at h
  by_cases h0 : pc < 80
  · have := List.all_eq_true.mp sR142_0 (pc - 0) (List.mem_range.mpr (by omega))
    rwa [show 0 + (pc - 0) = pc by omega] at this
  by_cases h1 : pc < 160
  · have := List.all_eq_true.mp sR142_1 (pc - 80) (List.mem_range.mpr (by omega))
    rwa [show 80 + (pc - 80) = pc by omega] at this
  by_cases h2 : pc < 240
  · have := List.all_eq_true.mp sR142_2 (pc - 160) (List.mem_range.mpr (by omega))
    rwa [show 160 + (pc - 160) = pc by omega] at this
  by_cases h3 : pc < 320
  · have := List.all_eq_true.mp sR142_3 (pc - 240) (List.mem_range.mpr (by omega))
    rwa [show 240 + (pc - 240) = pc by omega] at this
  have := List.all_eq_true.mp sR142_4 (pc - 320) (List.mem_range.mpr (by omega))
  rwa [show 320 + (pc - 320) = pc by omega] at this
theorem sR143_0 : (List.range 5).all (fun q => sRowB 143 (0 + q)) = true := by decide +kernel
theorem sR143 : ∀ pc, pc < sLen 143 → sRowB 143 pc = true := by
  intro pc h
  have hl : sLen 143 = 5 := by decide +kernel
  rw [hl] at h
  have := List.all_eq_true.mp sR143_0 (pc - 0) (List.mem_range.mpr (by omega))
  rwa [show 0 + (pc - 0) = pc by omega] at this
theorem sR144_0 : (List.range 15).all (fun q => sRowB 144 (0 + q)) = true := by decide +kernel
theorem sR144 : ∀ pc, pc < sLen 144 → sRowB 144 pc = true := by
  intro pc h
  have hl : sLen 144 = 15 := by decide +kernel
  rw [hl] at h
  have := List.all_eq_true.mp sR144_0 (pc - 0) (List.mem_range.mpr (by omega))
  rwa [show 0 + (pc - 0) = pc by omega] at this
theorem sR145_0 : (List.range 16).all (fun q => sRowB 145 (0 + q)) = true := by decide +kernel
theorem sR145 : ∀ pc, pc < sLen 145 → sRowB 145 pc = true := by
  intro pc h
  have hl : sLen 145 = 16 := by decide +kernel
  rw [hl] at h
  have := List.all_eq_true.mp sR145_0 (pc - 0) (List.mem_range.mpr (by omega))
  rwa [show 0 + (pc - 0) = pc by omega] at this
theorem sR146_0 : (List.range 7).all (fun q => sRowB 146 (0 + q)) = true := by decide +kernel
theorem sR146 : ∀ pc, pc < sLen 146 → sRowB 146 pc = true := by
  intro pc h
  have hl : sLen 146 = 7 := by decide +kernel
  rw [hl] at h
  have := List.all_eq_true.mp sR146_0 (pc - 0) (List.mem_range.mpr (by omega))
  rwa [show 0 + (pc - 0) = pc by omega] at this
theorem sR147_0 : (List.range 7).all (fun q => sRowB 147 (0 + q)) = true := by decide +kernel
theorem sR147 : ∀ pc, pc < sLen 147 → sRowB 147 pc = true := by
  intro pc h
  have hl : sLen 147 = 7 := by decide +kernel
  rw [hl] at h
  have := List.all_eq_true.mp sR147_0 (pc - 0) (List.mem_range.mpr (by omega))
  rwa [show 0 + (pc - 0) = pc by omega] at this
theorem sR148_0 : (List.range 7).all (fun q => sRowB 148 (0 + q)) = true := by decide +kernel
theorem sR148 : ∀ pc, pc < sLen 148 → sRowB 148 pc = true := by
  intro pc h
  have hl : sLen 148 = 7 := by decide +kernel
  rw [hl] at h
  have := List.all_eq_true.mp sR148_0 (pc - 0) (List.mem_range.mpr (by omega))
  rwa [show 0 + (pc - 0) = pc by omega] at this
theorem sR149_0 : (List.range 12).all (fun q => sRowB 149 (0 + q)) = true := by decide +kernel
theorem sR149 : ∀ pc, pc < sLen 149 → sRowB 149 pc = true := by
  intro pc h
  have hl : sLen 149 = 12 := by decide +kernel
  rw [hl] at h
  have := List.all_eq_true.mp sR149_0 (pc - 0) (List.mem_range.mpr (by omega))
  rwa [show 0 + (pc - 0) = pc by omega] at this
theorem sR150_0 : (List.range 27).all (fun q => sRowB 150 (0 + q)) = true := by decide +kernel
theorem sR150 : ∀ pc, pc < sLen 150 → sRowB 150 pc = true := by
  intro pc h
  have hl : sLen 150 = 27 := by decide +kernel
  rw [hl] at h
  have := List.all_eq_true.mp sR150_0 (pc - 0) (List.mem_range.mpr (by omega))
  rwa [show 0 + (pc - 0) = pc by omega] at this
theorem sR151_0 : (List.range 4).all (fun q => sRowB 151 (0 + q)) = true := by decide +kernel
theorem sR151 : ∀ pc, pc < sLen 151 → sRowB 151 pc = true := by
  intro pc h
  have hl : sLen 151 = 4 := by decide +kernel
  rw [hl] at h
  have := List.all_eq_true.mp sR151_0 (pc - 0) (List.mem_range.mpr (by omega))
  rwa [show 0 + (pc - 0) = pc by omega] at this
theorem sR152_0 : (List.range 80).all (fun q => sRowB 152 (0 + q)) = true := by decide +kernel
theorem sR152_1 : (List.range 9).all (fun q => sRowB 152 (80 + q)) = true := by decide +kernel
theorem sR152 : ∀ pc, pc < sLen 152 → sRowB 152 pc = true := by
  intro pc h
  have hl : sLen 152 = 89 := by decide +kernel
  rw [hl] at h
  by_cases h0 : pc < 80
  · have := List.all_eq_true.mp sR152_0 (pc - 0) (List.mem_range.mpr (by omega))
    rwa [show 0 + (pc - 0) = pc by omega] at this
  have := List.all_eq_true.mp sR152_1 (pc - 80) (List.mem_range.mpr (by omega))
  rwa [show 80 + (pc - 80) = pc by omega] at this
theorem sR153_0 : (List.range 80).all (fun q => sRowB 153 (0 + q)) = true := by decide +kernel
theorem sR153_1 : (List.range 9).all (fun q => sRowB 153 (80 + q)) = true := by decide +kernel
theorem sR153 : ∀ pc, pc < sLen 153 → sRowB 153 pc = true := by
  intro pc h
  have hl : sLen 153 = 89 := by decide +kernel
  rw [hl] at h
  by_cases h0 : pc < 80
  · have := List.all_eq_true.mp sR153_0 (pc - 0) (List.mem_range.mpr (by omega))
    rwa [show 0 + (pc - 0) = pc by omega] at this
  have := List.all_eq_true.mp sR153_1 (pc - 80) (List.mem_range.mpr (by omega))
  rwa [show 80 + (pc - 80) = pc by omega] at this
theorem sR154_0 : (List.range 14).all (fun q => sRowB 154 (0 + q)) = true := by decide +kernel
theorem sR154 : ∀ pc, pc < sLen 154 → sRowB 154 pc = true := by
  intro pc h
  have hl : sLen 154 = 14 := by decide +kernel
  rw [hl] at h
  have := List.all_eq_true.mp sR154_0 (pc - 0) (List.mem_range.mpr (by omega))
  rwa [show 0 + (pc - 0) = pc by omega] at this
theorem sR155_0 : (List.range 61).all (fun q => sRowB 155 (0 + q)) = true := by decide +kernel
theorem sR155 : ∀ pc, pc < sLen 155 → sRowB 155 pc = true := by
  intro pc h
  have hl : sLen 155 = 61 := by decide +kernel
  rw [hl] at h
  have := List.all_eq_true.mp sR155_0 (pc - 0) (List.mem_range.mpr (by omega))
  rwa [show 0 + (pc - 0) = pc by omega] at this
theorem sR156_0 : (List.range 15).all (fun q => sRowB 156 (0 + q)) = true := by decide +kernel
theorem sR156 : ∀ pc, pc < sLen 156 → sRowB 156 pc = true := by
  intro pc h
  have hl : sLen 156 = 15 := by decide +kernel
  rw [hl] at h
  have := List.all_eq_true.mp sR156_0 (pc - 0) (List.mem_range.mpr (by omega))
  rwa [show 0 + (pc - 0) = pc by omega] at this
theorem sR157_0 : (List.range 80).all (fun q => sRowB 157 (0 + q)) = true := by decide +kernel
theorem sR157_1 : (List.range 12).all (fun q => sRowB 157 (80 + q)) = true := by decide +kernel
theorem sR157 : ∀ pc, pc < sLen 157 → sRowB 157 pc = true := by
  intro pc h
  have hl : sLen 157 = 92 := by decide +kernel
  rw [hl] at h
  by_cases h0 : pc < 80
  · have := List.all_eq_true.mp sR157_0 (pc - 0) (List.mem_range.mpr (by omega))
    rwa [show 0 + (pc - 0) = pc by omega] at this
  have := List.all_eq_true.mp sR157_1 (pc - 80) (List.mem_range.mpr (by omega))
  rwa [show 80 + (pc - 80) = pc by omega] at this
theorem sR158_0 : (List.range 47).all (fun q => sRowB 158 (0 + q)) = true := by decide +kernel
theorem sR158 : ∀ pc, pc < sLen 158 → sRowB 158 pc = true := by
  intro pc h
  have hl : sLen 158 = 47 := by decide +kernel
  rw [hl] at h
  have := List.all_eq_true.mp sR158_0 (pc - 0) (List.mem_range.mpr (by omega))
  rwa [show 0 + (pc - 0) = pc by omega] at this
theorem sR159_0 : (List.range 80).all (fun q => sRowB 159 (0 + q)) = true := by decide +kernel
theorem sR159_1 : (List.range 52).all (fun q => sRowB 159 (80 + q)) = true := by decide +kernel
theorem sR159 : ∀ pc, pc < sLen 159 → sRowB 159 pc = true := by
  intro pc h
  have hl : sLen 159 = 132 := by decide +kernel
  rw [hl] at h
  by_cases h0 : pc < 80
  · have := List.all_eq_true.mp sR159_0 (pc - 0) (List.mem_range.mpr (by omega))
    rwa [show 0 + (pc - 0) = pc by omega] at this
  have := List.all_eq_true.mp sR159_1 (pc - 80) (List.mem_range.mpr (by omega))
  rwa [show 80 + (pc - 80) = pc by omega] at this
theorem sR160_0 : (List.range 80).all (fun q => sRowB 160 (0 + q)) = true := by decide +kernel
theorem sR160_1 : (List.range 17).all (fun q => sRowB 160 (80 + q)) = true := by decide +kernel
theorem sR160 : ∀ pc, pc < sLen 160 → sRowB 160 pc = true := by
  intro pc h
  have hl : sLen 160 = 97 := by decide +kernel
  rw [hl] at h
  by_cases h0 : pc < 80
  · have := List.all_eq_true.mp sR160_0 (pc - 0) (List.mem_range.mpr (by omega))
    rwa [show 0 + (pc - 0) = pc by omega] at this
  have := List.all_eq_true.mp sR160_1 (pc - 80) (List.mem_range.mpr (by omega))
  rwa [show 80 + (pc - 80) = pc by omega] at this
theorem sR161_0 : (List.range 80).all (fun q => sRowB 161 (0 + q)) = true := by decide +kernel
theorem sR161_1 : (List.range 21).all (fun q => sRowB 161 (80 + q)) = true := by decide +kernel
theorem sR161 : ∀ pc, pc < sLen 161 → sRowB 161 pc = true := by
  intro pc h
  have hl : sLen 161 = 101 := by decide +kernel
  rw [hl] at h
  by_cases h0 : pc < 80
  · have := List.all_eq_true.mp sR161_0 (pc - 0) (List.mem_range.mpr (by omega))
    rwa [show 0 + (pc - 0) = pc by omega] at this
  have := List.all_eq_true.mp sR161_1 (pc - 80) (List.mem_range.mpr (by omega))
  rwa [show 80 + (pc - 80) = pc by omega] at this
theorem sR162_0 : (List.range 80).all (fun q => sRowB 162 (0 + q)) = true := by decide +kernel
theorem sR162_1 : (List.range 26).all (fun q => sRowB 162 (80 + q)) = true := by decide +kernel
theorem sR162 : ∀ pc, pc < sLen 162 → sRowB 162 pc = true := by
  intro pc h
  have hl : sLen 162 = 106 := by decide +kernel
  rw [hl] at h
  by_cases h0 : pc < 80
  · have := List.all_eq_true.mp sR162_0 (pc - 0) (List.mem_range.mpr (by omega))
    rwa [show 0 + (pc - 0) = pc by omega] at this
  have := List.all_eq_true.mp sR162_1 (pc - 80) (List.mem_range.mpr (by omega))
  rwa [show 80 + (pc - 80) = pc by omega] at this
theorem sR163_0 : (List.range 59).all (fun q => sRowB 163 (0 + q)) = true := by decide +kernel
theorem sR163 : ∀ pc, pc < sLen 163 → sRowB 163 pc = true := by
  intro pc h
  have hl : sLen 163 = 59 := by decide +kernel
  rw [hl] at h
  have := List.all_eq_true.mp sR163_0 (pc - 0) (List.mem_range.mpr (by omega))
  rwa [show 0 + (pc - 0) = pc by omega] at this
theorem sR164_0 : (List.range 32).all (fun q => sRowB 164 (0 + q)) = true := by decide +kernel
theorem sR164 : ∀ pc, pc < sLen 164 → sRowB 164 pc = true := by
  intro pc h
  have hl : sLen 164 = 32 := by decide +kernel
  rw [hl] at h
  have := List.all_eq_true.mp sR164_0 (pc - 0) (List.mem_range.mpr (by omega))
  rwa [show 0 + (pc - 0) = pc by omega] at this
theorem sR165_0 : (List.range 61).all (fun q => sRowB 165 (0 + q)) = true := by decide +kernel
theorem sR165 : ∀ pc, pc < sLen 165 → sRowB 165 pc = true := by
  intro pc h
  have hl : sLen 165 = 61 := by decide +kernel
  rw [hl] at h
  have := List.all_eq_true.mp sR165_0 (pc - 0) (List.mem_range.mpr (by omega))
  rwa [show 0 + (pc - 0) = pc by omega] at this
theorem sR166_0 : (List.range 80).all (fun q => sRowB 166 (0 + q)) = true := by decide +kernel
theorem sR166_1 : (List.range 20).all (fun q => sRowB 166 (80 + q)) = true := by decide +kernel
theorem sR166 : ∀ pc, pc < sLen 166 → sRowB 166 pc = true := by
  intro pc h
  have hl : sLen 166 = 100 := by decide +kernel
  rw [hl] at h
  by_cases h0 : pc < 80
  · have := List.all_eq_true.mp sR166_0 (pc - 0) (List.mem_range.mpr (by omega))
    rwa [show 0 + (pc - 0) = pc by omega] at this
  have := List.all_eq_true.mp sR166_1 (pc - 80) (List.mem_range.mpr (by omega))
  rwa [show 80 + (pc - 80) = pc by omega] at this
theorem sR167_0 : (List.range 62).all (fun q => sRowB 167 (0 + q)) = true := by decide +kernel
theorem sR167 : ∀ pc, pc < sLen 167 → sRowB 167 pc = true := by
  intro pc h
  have hl : sLen 167 = 62 := by decide +kernel
  rw [hl] at h
  have := List.all_eq_true.mp sR167_0 (pc - 0) (List.mem_range.mpr (by omega))
  rwa [show 0 + (pc - 0) = pc by omega] at this
theorem sR168_0 : (List.range 41).all (fun q => sRowB 168 (0 + q)) = true := by decide +kernel
theorem sR168 : ∀ pc, pc < sLen 168 → sRowB 168 pc = true := by
  intro pc h
  have hl : sLen 168 = 41 := by decide +kernel
  rw [hl] at h
  have := List.all_eq_true.mp sR168_0 (pc - 0) (List.mem_range.mpr (by omega))
  rwa [show 0 + (pc - 0) = pc by omega] at this
theorem sR169_0 : (List.range 80).all (fun q => sRowB 169 (0 + q)) = true := by decide +kernel
theorem sR169_1 : (List.range 80).all (fun q => sRowB 169 (80 + q)) = true := by decide +kernel
theorem sR169_2 : (List.range 36).all (fun q => sRowB 169 (160 + q)) = true := by decide +kernel
theorem sR169 : ∀ pc, pc < sLen 169 → sRowB 169 pc = true := by
  intro pc h
  have hl : sLen 169 = 196 := by decide +kernel
  rw [hl] at h
  by_cases h0 : pc < 80
  · have := List.all_eq_true.mp sR169_0 (pc - 0) (List.mem_range.mpr (by omega))
    rwa [show 0 + (pc - 0) = pc by omega] at this
  by_cases h1 : pc < 160
  · have := List.all_eq_true.mp sR169_1 (pc - 80) (List.mem_range.mpr (by omega))
    rwa [show 80 + (pc - 80) = pc by omega] at this
  have := List.all_eq_true.mp sR169_2 (pc - 160) (List.mem_range.mpr (by omega))
  rwa [show 160 + (pc - 160) = pc by omega] at this
theorem sR170_0 : (List.range 80).all (fun q => sRowB 170 (0 + q)) = true := by decide +kernel
theorem sR170_1 : (List.range 80).all (fun q => sRowB 170 (80 + q)) = true := by decide +kernel
theorem sR170_2 : (List.range 80).all (fun q => sRowB 170 (160 + q)) = true := by decide +kernel
theorem sR170_3 : (List.range 5).all (fun q => sRowB 170 (240 + q)) = true := by decide +kernel
theorem sR170 : ∀ pc, pc < sLen 170 → sRowB 170 pc = true := by
  intro pc h
  have hl : sLen 170 = 245 := by decide +kernel
  rw [hl] at h
  by_cases h0 : pc < 80
  · have := List.all_eq_true.mp sR170_0 (pc - 0) (List.mem_range.mpr (by omega))
    rwa [show 0 + (pc - 0) = pc by omega] at this
  by_cases h1 : pc < 160
  · have := List.all_eq_true.mp sR170_1 (pc - 80) (List.mem_range.mpr (by omega))
    rwa [show 80 + (pc - 80) = pc by omega] at this
  by_cases h2 : pc < 240
  · have := List.all_eq_true.mp sR170_2 (pc - 160) (List.mem_range.mpr (by omega))
    rwa [show 160 + (pc - 160) = pc by omega] at this
  have := List.all_eq_true.mp sR170_3 (pc - 240) (List.mem_range.mpr (by omega))
  rwa [show 240 + (pc - 240) = pc by omega] at this
theorem sR171_0 : (List.range 80).all (fun q => sRowB 171 (0 + q)) = true := by decide +kernel
theorem sR171_1 : (List.range 28).all (fun q => sRowB 171 (80 + q)) = true := by decide +kernel
theorem sR171 : ∀ pc, pc < sLen 171 → sRowB 171 pc = true := by
  intro pc h
  have hl : sLen 171 = 108 := by decide +kernel
  rw [hl] at h
  by_cases h0 : pc < 80
  · have := List.all_eq_true.mp sR171_0 (pc - 0) (List.mem_range.mpr (by omega))
    rwa [show 0 + (pc - 0) = pc by omega] at this
  have := List.all_eq_true.mp sR171_1 (pc - 80) (List.mem_range.mpr (by omega))
  rwa [show 80 + (pc - 80) = pc by omega] at this
theorem sR172_0 : (List.range 80).all (fun q => sRowB 172 (0 + q)) = true := by decide +kernel
theorem sR172_1 : (List.range 80).all (fun q => sRowB 172 (80 + q)) = true := by decide +kernel
theorem sR172_2 : (List.range 50).all (fun q => sRowB 172 (160 + q)) = true := by decide +kernel
theorem sR172 : ∀ pc, pc < sLen 172 → sRowB 172 pc = true := by
  intro pc h
  have hl : sLen 172 = 210 := by decide +kernel
  rw [hl] at h
  by_cases h0 : pc < 80
  · have := List.all_eq_true.mp sR172_0 (pc - 0) (List.mem_range.mpr (by omega))
    rwa [show 0 + (pc - 0) = pc by omega] at this
  by_cases h1 : pc < 160
  · have := List.all_eq_true.mp sR172_1 (pc - 80) (List.mem_range.mpr (by omega))
    rwa [show 80 + (pc - 80) = pc by omega] at this
  have := List.all_eq_true.mp sR172_2 (pc - 160) (List.mem_range.mpr (by omega))
  rwa [show 160 + (pc - 160) = pc by omega] at this
theorem sR173_0 : (List.range 80).all (fun q => sRowB 173 (0 + q)) = true := by decide +kernel
theorem sR173_1 : (List.range 80).all (fun q => sRowB 173 (80 + q)) = true := by decide +kernel
theorem sR173_2 : (List.range 80).all (fun q => sRowB 173 (160 + q)) = true := by decide +kernel
theorem sR173_3 : (List.range 71).all (fun q => sRowB 173 (240 + q)) = true := by decide +kernel
theorem sR173 : ∀ pc, pc < sLen 173 → sRowB 173 pc = true := by
  intro pc h
  have hl : sLen 173 = 311 := by decide +kernel
  rw [hl] at h
  by_cases h0 : pc < 80
  · have := List.all_eq_true.mp sR173_0 (pc - 0) (List.mem_range.mpr (by omega))
    rwa [show 0 + (pc - 0) = pc by omega] at this
  by_cases h1 : pc < 160
  · have := List.all_eq_true.mp sR173_1 (pc - 80) (List.mem_range.mpr (by omega))
    rwa [show 80 + (pc - 80) = pc by omega] at this
  by_cases h2 : pc < 240
  · have := List.all_eq_true.mp sR173_2 (pc - 160) (List.mem_range.mpr (by omega))
    rwa [show 160 + (pc - 160) = pc by omega] at this
  have := List.all_eq_true.mp sR173_3 (pc - 240) (List.mem_range.mpr (by omega))
  rwa [show 240 + (pc - 240) = pc by omega] at this
theorem sR174_0 : (List.range 80).all (fun q => sRowB 174 (0 + q)) = true := by decide +kernel
theorem sR174_1 : (List.range 80).all (fun q => sRowB 174 (80 + q)) = true := by decide +kernel
theorem sR174_2 : (List.range 80).all (fun q => sRowB 174 (160 + q)) = true := by decide +kernel
theorem sR174_3 : (List.range 15).all (fun q => sRowB 174 (240 + q)) = true := by decide +kernel
theorem sR174 : ∀ pc, pc < sLen 174 → sRowB 174 pc = true := by
  intro pc h
  have hl : sLen 174 = 255 := by decide +kernel
  rw [hl] at h
  by_cases h0 : pc < 80
  · have := List.all_eq_true.mp sR174_0 (pc - 0) (List.mem_range.mpr (by omega))
    rwa [show 0 + (pc - 0) = pc by omega] at this
  by_cases h1 : pc < 160
  · have := List.all_eq_true.mp sR174_1 (pc - 80) (List.mem_range.mpr (by omega))
    rwa [show 80 + (pc - 80) = pc by omega] at this
  by_cases h2 : pc < 240
  · have := List.all_eq_true.mp sR174_2 (pc - 160) (List.mem_range.mpr (by omega))
    rwa [show 160 + (pc - 160) = pc by omega] at this
  have := List.all_eq_true.mp sR174_3 (pc - 240) (List.mem_range.mpr (by omega))
  rwa [show 240 + (pc - 240) = pc by omega] at this
theorem sR175_0 : (List.range 80).all (fun q => sRowB 175 (0 + q)) = true := by decide +kernel
theorem sR175_1 : (List.range 80).all (fun q => sRowB 175 (80 + q)) = true := by decide +kernel
theorem sR175_2 : (List.range 80).all (fun q => sRowB 175 (160 + q)) = true := by decide +kernel
theorem sR175_3 : (List.range 80).all (fun q => sRowB 175 (240 + q)) = true := by decide +kernel
theorem sR175_4 : (List.range 50).all (fun q => sRowB 175 (320 + q)) = true := by decide +kernel
theorem sR175 : ∀ pc, pc < sLen 175 → sRowB 175 pc = true := by
  intro pc h
  have hl : sLen 175 = 370 := by decide +kernel
  rw [hl] at h
  by_cases h0 : pc < 80
  · have := List.all_eq_true.mp sR175_0 (pc - 0) (List.mem_range.mpr (by omega))
    rwa [show 0 + (pc - 0) = pc by omega] at this
  by_cases h1 : pc < 160
  · have := List.all_eq_true.mp sR175_1 (pc - 80) (List.mem_range.mpr (by omega))
    rwa [show 80 + (pc - 80) = pc by omega] at this
  by_cases h2 : pc < 240
  · have := List.all_eq_true.mp sR175_2 (pc - 160) (List.mem_range.mpr (by omega))
    rwa [show 160 + (pc - 160) = pc by omega] at this
  by_cases h3 : pc < 320
  · have := List.all_eq_true.mp sR175_3 (pc - 240) (List.mem_range.mpr (by omega))
    rwa [show 240 + (pc - 240) = pc by omega] at this
  have := List.all_eq_true.mp sR175_4 (pc - 320) (List.mem_range.mpr (by omega))
  rwa [show 320 + (pc - 320) = pc by omega] at this
theorem sR176_0 : (List.range 80).all (fun q => sRowB 176 (0 + q)) = true := by decide +kernel
theorem sR176_1 : (List.range 25).all (fun q => sRowB 176 (80 + q)) = true := by decide +kernel
theorem sR176 : ∀ pc, pc < sLen 176 → sRowB 176 pc = true := by
  intro pc h
  have hl : sLen 176 = 105 := by decide +kernel
  rw [hl] at h
  by_cases h0 : pc < 80
  · have := List.all_eq_true.mp sR176_0 (pc - 0) (List.mem_range.mpr (by omega))
    rwa [show 0 + (pc - 0) = pc by omega] at this
  have := List.all_eq_true.mp sR176_1 (pc - 80) (List.mem_range.mpr (by omega))
  rwa [show 80 + (pc - 80) = pc by omega] at this
theorem sR177_0 : (List.range 80).all (fun q => sRowB 177 (0 + q)) = true := by decide +kernel
theorem sR177_1 : (List.range 2).all (fun q => sRowB 177 (80 + q)) = true := by decide +kernel
theorem sR177 : ∀ pc, pc < sLen 177 → sRowB 177 pc = true := by
  intro pc h
  have hl : sLen 177 = 82 := by decide +kernel
  rw [hl] at h
  by_cases h0 : pc < 80
  · have := List.all_eq_true.mp sR177_0 (pc - 0) (List.mem_range.mpr (by omega))
    rwa [show 0 + (pc - 0) = pc by omega] at this
  have := List.all_eq_true.mp sR177_1 (pc - 80) (List.mem_range.mpr (by omega))
  rwa [show 80 + (pc - 80) = pc by omega] at this
theorem sR178_0 : (List.range 73).all (fun q => sRowB 178 (0 + q)) = true := by decide +kernel
theorem sR178 : ∀ pc, pc < sLen 178 → sRowB 178 pc = true := by
  intro pc h
  have hl : sLen 178 = 73 := by decide +kernel
  rw [hl] at h
  have := List.all_eq_true.mp sR178_0 (pc - 0) (List.mem_range.mpr (by omega))
  rwa [show 0 + (pc - 0) = pc by omega] at this
theorem sR179_0 : (List.range 22).all (fun q => sRowB 179 (0 + q)) = true := by decide +kernel
theorem sR179 : ∀ pc, pc < sLen 179 → sRowB 179 pc = true := by
  intro pc h
  have hl : sLen 179 = 22 := by decide +kernel
  rw [hl] at h
  have := List.all_eq_true.mp sR179_0 (pc - 0) (List.mem_range.mpr (by omega))
  rwa [show 0 + (pc - 0) = pc by omega] at this
theorem sR180_0 : (List.range 80).all (fun q => sRowB 180 (0 + q)) = true := by decide +kernel
theorem sR180 : ∀ pc, pc < sLen 180 → sRowB 180 pc = true := by
  intro pc h
  have hl : sLen 180 = 80 := by decide +kernel
  rw [hl] at h
  have := List.all_eq_true.mp sR180_0 (pc - 0) (List.mem_range.mpr (by omega))
  rwa [show 0 + (pc - 0) = pc by omega] at this
theorem sR181_0 : (List.range 33).all (fun q => sRowB 181 (0 + q)) = true := by decide +kernel
theorem sR181 : ∀ pc, pc < sLen 181 → sRowB 181 pc = true := by
  intro pc h
  have hl : sLen 181 = 33 := by decide +kernel
  rw [hl] at h
  have := List.all_eq_true.mp sR181_0 (pc - 0) (List.mem_range.mpr (by omega))
  rwa [show 0 + (pc - 0) = pc by omega] at this
theorem sR182_0 : (List.range 49).all (fun q => sRowB 182 (0 + q)) = true := by decide +kernel
theorem sR182 : ∀ pc, pc < sLen 182 → sRowB 182 pc = true := by
  intro pc h
  have hl : sLen 182 = 49 := by decide +kernel
  rw [hl] at h
  have := List.all_eq_true.mp sR182_0 (pc - 0) (List.mem_range.mpr (by omega))
  rwa [show 0 + (pc - 0) = pc by omega] at this
theorem sR183_0 : (List.range 80).all (fun q => sRowB 183 (0 + q)) = true := by decide +kernel
theorem sR183_1 : (List.range 80).all (fun q => sRowB 183 (80 + q)) = true := by decide +kernel
theorem sR183_2 : (List.range 33).all (fun q => sRowB 183 (160 + q)) = true := by decide +kernel
theorem sR183 : ∀ pc, pc < sLen 183 → sRowB 183 pc = true := by
  intro pc h
  have hl : sLen 183 = 193 := by decide +kernel
  rw [hl] at h
  by_cases h0 : pc < 80
  · have := List.all_eq_true.mp sR183_0 (pc - 0) (List.mem_range.mpr (by omega))
    rwa [show 0 + (pc - 0) = pc by omega] at this
  by_cases h1 : pc < 160
  · have := List.all_eq_true.mp sR183_1 (pc - 80) (List.mem_range.mpr (by omega))
    rwa [show 80 + (pc - 80) = pc by omega] at this
  have := List.all_eq_true.mp sR183_2 (pc - 160) (List.mem_range.mpr (by omega))
  rwa [show 160 + (pc - 160) = pc by omega] at this
theorem sR184_0 : (List.range 58).all (fun q => sRowB 184 (0 + q)) = true := by decide +kernel
theorem sR184 : ∀ pc, pc < sLen 184 → sRowB 184 pc = true := by
  intro pc h
  have hl : sLen 184 = 58 := by decide +kernel
  rw [hl] at h
  have := List.all_eq_true.mp sR184_0 (pc - 0) (List.mem_range.mpr (by omega))
  rwa [show 0 + (pc - 0) = pc by omega] at this
theorem sR185_0 : (List.range 51).all (fun q => sRowB 185 (0 + q)) = true := by decide +kernel
theorem sR185 : ∀ pc, pc < sLen 185 → sRowB 185 pc = true := by
  intro pc h
  have hl : sLen 185 = 51 := by decide +kernel
  rw [hl] at h
  have := List.all_eq_true.mp sR185_0 (pc - 0) (List.mem_range.mpr (by omega))
  rwa [show 0 + (pc - 0) = pc by omega] at this
theorem sR186_0 : (List.range 51).all (fun q => sRowB 186 (0 + q)) = true := by decide +kernel
theorem sR186 : ∀ pc, pc < sLen 186 → sRowB 186 pc = true := by
  intro pc h
  have hl : sLen 186 = 51 := by decide +kernel
  rw [hl] at h
  have := List.all_eq_true.mp sR186_0 (pc - 0) (List.mem_range.mpr (by omega))
  rwa [show 0 + (pc - 0) = pc by omega] at this
theorem sR187_0 : (List.range 50).all (fun q => sRowB 187 (0 + q)) = true := by decide +kernel
theorem sR187 : ∀ pc, pc < sLen 187 → sRowB 187 pc = true := by
  intro pc h
  have hl : sLen 187 = 50 := by decide +kernel
  rw [hl] at h
  have := List.all_eq_true.mp sR187_0 (pc - 0) (List.mem_range.mpr (by omega))
  rwa [show 0 + (pc - 0) = pc by omega] at this
theorem sR188_0 : (List.range 80).all (fun q => sRowB 188 (0 + q)) = true := by decide +kernel
theorem sR188_1 : (List.range 34).all (fun q => sRowB 188 (80 + q)) = true := by decide +kernel
theorem sR188 : ∀ pc, pc < sLen 188 → sRowB 188 pc = true := by
  intro pc h
  have hl : sLen 188 = 114 := by decide +kernel
  rw [hl] at h
  by_cases h0 : pc < 80
  · have := List.all_eq_true.mp sR188_0 (pc - 0) (List.mem_range.mpr (by omega))
    rwa [show 0 + (pc - 0) = pc by omega] at this
  have := List.all_eq_true.mp sR188_1 (pc - 80) (List.mem_range.mpr (by omega))
  rwa [show 80 + (pc - 80) = pc by omega] at this
theorem sR189_0 : (List.range 11).all (fun q => sRowB 189 (0 + q)) = true := by decide +kernel
theorem sR189 : ∀ pc, pc < sLen 189 → sRowB 189 pc = true := by
  intro pc h
  have hl : sLen 189 = 11 := by decide +kernel
  rw [hl] at h
  have := List.all_eq_true.mp sR189_0 (pc - 0) (List.mem_range.mpr (by omega))
  rwa [show 0 + (pc - 0) = pc by omega] at this
theorem sR190_0 : (List.range 11).all (fun q => sRowB 190 (0 + q)) = true := by decide +kernel
theorem sR190 : ∀ pc, pc < sLen 190 → sRowB 190 pc = true := by
  intro pc h
  have hl : sLen 190 = 11 := by decide +kernel
  rw [hl] at h
  have := List.all_eq_true.mp sR190_0 (pc - 0) (List.mem_range.mpr (by omega))
  rwa [show 0 + (pc - 0) = pc by omega] at this
theorem sR191_0 : (List.range 80).all (fun q => sRowB 191 (0 + q)) = true := by decide +kernel
theorem sR191_1 : (List.range 80).all (fun q => sRowB 191 (80 + q)) = true := by decide +kernel
theorem sR191_2 : (List.range 80).all (fun q => sRowB 191 (160 + q)) = true := by decide +kernel
theorem sR191_3 : (List.range 25).all (fun q => sRowB 191 (240 + q)) = true := by decide +kernel
theorem sR191 : ∀ pc, pc < sLen 191 → sRowB 191 pc = true := by
  intro pc h
  have hl : sLen 191 = 265 := by decide +kernel
  rw [hl] at h
  by_cases h0 : pc < 80
  · have := List.all_eq_true.mp sR191_0 (pc - 0) (List.mem_range.mpr (by omega))
    rwa [show 0 + (pc - 0) = pc by omega] at this
  by_cases h1 : pc < 160
  · have := List.all_eq_true.mp sR191_1 (pc - 80) (List.mem_range.mpr (by omega))
    rwa [show 80 + (pc - 80) = pc by omega] at this
  by_cases h2 : pc < 240
  · have := List.all_eq_true.mp sR191_2 (pc - 160) (List.mem_range.mpr (by omega))
    rwa [show 160 + (pc - 160) = pc by omega] at this
  have := List.all_eq_true.mp sR191_3 (pc - 240) (List.mem_range.mpr (by omega))
  rwa [show 240 + (pc - 240) = pc by omega] at this
theorem sR192_0 : (List.range 80).all (fun q => sRowB 192 (0 + q)) = true := by decide +kernel
theorem sR192_1 : (List.range 80).all (fun q => sRowB 192 (80 + q)) = true := by decide +kernel
theorem sR192_2 : (List.range 80).all (fun q => sRowB 192 (160 + q)) = true := by decide +kernel
theorem sR192_3 : (List.range 68).all (fun q => sRowB 192 (240 + q)) = true := by decide +kernel
theorem sR192 : ∀ pc, pc < sLen 192 → sRowB 192 pc = true := by
  intro pc h
  have hl : sLen 192 = 308 := by decide +kernel
  rw [hl] at h
  by_cases h0 : pc < 80
  · have := List.all_eq_true.mp sR192_0 (pc - 0) (List.mem_range.mpr (by omega))
    rwa [show 0 + (pc - 0) = pc by omega] at this
  by_cases h1 : pc < 160
  · have := List.all_eq_true.mp sR192_1 (pc - 80) (List.mem_range.mpr (by omega))
    rwa [show 80 + (pc - 80) = pc by omega] at this
  by_cases h2 : pc < 240
  · have := List.all_eq_true.mp sR192_2 (pc - 160) (List.mem_range.mpr (by omega))
    rwa [show 160 + (pc - 160) = pc by omega] at this
  have := List.all_eq_true.mp sR192_3 (pc - 240) (List.mem_range.mpr (by omega))
  rwa [show 240 + (pc - 240) = pc by omega] at this
theorem sR193_0 : (List.range 37).all (fun q => sRowB 193 (0 + q)) = true := by decide +kernel
theorem sR193 : ∀ pc, pc < sLen 193 → sRowB 193 pc = true := by
  intro pc h
  have hl : sLen 193 = 37 := by decide +kernel
  rw [hl] at h
  have := List.all_eq_true.mp sR193_0 (pc - 0) (List.mem_range.mpr (by omega))
  rwa [show 0 + (pc - 0) = pc by omega] at this
theorem sR194_0 : (List.range 60).all (fun q => sRowB 194 (0 + q)) = true := by decide +kernel
theorem sR194 : ∀ pc, pc < sLen 194 → sRowB 194 pc = true := by
  intro pc h
  have hl : sLen 194 = 60 := by decide +kernel
  rw [hl] at h
  have := List.all_eq_true.mp sR194_0 (pc - 0) (List.mem_range.mpr (by omega))
  rwa [show 0 + (pc - 0) = pc by omega] at this
theorem sR195_0 : (List.range 80).all (fun q => sRowB 195 (0 + q)) = true := by decide +kernel
theorem sR195_1 : (List.range 52).all (fun q => sRowB 195 (80 + q)) = true := by decide +kernel
theorem sR195 : ∀ pc, pc < sLen 195 → sRowB 195 pc = true := by
  intro pc h
  have hl : sLen 195 = 132 := by decide +kernel
  rw [hl] at h
  by_cases h0 : pc < 80
  · have := List.all_eq_true.mp sR195_0 (pc - 0) (List.mem_range.mpr (by omega))
    rwa [show 0 + (pc - 0) = pc by omega] at this
  have := List.all_eq_true.mp sR195_1 (pc - 80) (List.mem_range.mpr (by omega))
  rwa [show 80 + (pc - 80) = pc by omega] at this
theorem sR196_0 : (List.range 69).all (fun q => sRowB 196 (0 + q)) = true := by decide +kernel
theorem sR196 : ∀ pc, pc < sLen 196 → sRowB 196 pc = true := by
  intro pc h
  have hl : sLen 196 = 69 := by decide +kernel
  rw [hl] at h
  have := List.all_eq_true.mp sR196_0 (pc - 0) (List.mem_range.mpr (by omega))
  rwa [show 0 + (pc - 0) = pc by omega] at this
theorem sR197_0 : (List.range 37).all (fun q => sRowB 197 (0 + q)) = true := by decide +kernel
theorem sR197 : ∀ pc, pc < sLen 197 → sRowB 197 pc = true := by
  intro pc h
  have hl : sLen 197 = 37 := by decide +kernel
  rw [hl] at h
  have := List.all_eq_true.mp sR197_0 (pc - 0) (List.mem_range.mpr (by omega))
  rwa [show 0 + (pc - 0) = pc by omega] at this
theorem sR198_0 : (List.range 52).all (fun q => sRowB 198 (0 + q)) = true := by decide +kernel
theorem sR198 : ∀ pc, pc < sLen 198 → sRowB 198 pc = true := by
  intro pc h
  have hl : sLen 198 = 52 := by decide +kernel
  rw [hl] at h
  have := List.all_eq_true.mp sR198_0 (pc - 0) (List.mem_range.mpr (by omega))
  rwa [show 0 + (pc - 0) = pc by omega] at this
theorem sR199_0 : (List.range 80).all (fun q => sRowB 199 (0 + q)) = true := by decide +kernel
theorem sR199_1 : (List.range 5).all (fun q => sRowB 199 (80 + q)) = true := by decide +kernel
theorem sR199 : ∀ pc, pc < sLen 199 → sRowB 199 pc = true := by
  intro pc h
  have hl : sLen 199 = 85 := by decide +kernel
  rw [hl] at h
  by_cases h0 : pc < 80
  · have := List.all_eq_true.mp sR199_0 (pc - 0) (List.mem_range.mpr (by omega))
    rwa [show 0 + (pc - 0) = pc by omega] at this
  have := List.all_eq_true.mp sR199_1 (pc - 80) (List.mem_range.mpr (by omega))
  rwa [show 80 + (pc - 80) = pc by omega] at this
