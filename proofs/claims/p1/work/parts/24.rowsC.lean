theorem sR200_0 : (List.range 80).all (fun q => sRowB 200 (0 + q)) = true := by decide +kernel
theorem sR200_1 : (List.range 70).all (fun q => sRowB 200 (80 + q)) = true := by decide +kernel
theorem sR200 : ∀ pc, pc < sLen 200 → sRowB 200 pc = true := by
  intro pc h
  have hl : sLen 200 = 150 := by decide +kernel
  rw [hl] at h
  by_cases h0 : pc < 80
  · have := List.all_eq_true.mp sR200_0 (pc - 0) (List.mem_range.mpr (by omega))
    rwa [show 0 + (pc - 0) = pc by omega] at this
  have := List.all_eq_true.mp sR200_1 (pc - 80) (List.mem_range.mpr (by omega))
  rwa [show 80 + (pc - 80) = pc by omega] at this
theorem sR201_0 : (List.range 58).all (fun q => sRowB 201 (0 + q)) = true := by decide +kernel
theorem sR201 : ∀ pc, pc < sLen 201 → sRowB 201 pc = true := by
  intro pc h
  have hl : sLen 201 = 58 := by decide +kernel
  rw [hl] at h
  have := List.all_eq_true.mp sR201_0 (pc - 0) (List.mem_range.mpr (by omega))
  rwa [show 0 + (pc - 0) = pc by omega] at this
theorem sR202_0 : (List.range 19).all (fun q => sRowB 202 (0 + q)) = true := by decide +kernel
theorem sR202 : ∀ pc, pc < sLen 202 → sRowB 202 pc = true := by
  intro pc h
  have hl : sLen 202 = 19 := by decide +kernel
  rw [hl] at h
  have := List.all_eq_true.mp sR202_0 (pc - 0) (List.mem_range.mpr (by omega))
  rwa [show 0 + (pc - 0) = pc by omega] at this
theorem sR203_0 : (List.range 61).all (fun q => sRowB 203 (0 + q)) = true := by decide +kernel
theorem sR203 : ∀ pc, pc < sLen 203 → sRowB 203 pc = true := by
  intro pc h
  have hl : sLen 203 = 61 := by decide +kernel
  rw [hl] at h
  have := List.all_eq_true.mp sR203_0 (pc - 0) (List.mem_range.mpr (by omega))
  rwa [show 0 + (pc - 0) = pc by omega] at this
theorem sR204_0 : (List.range 80).all (fun q => sRowB 204 (0 + q)) = true := by decide +kernel
theorem sR204_1 : (List.range 34).all (fun q => sRowB 204 (80 + q)) = true := by decide +kernel
theorem sR204 : ∀ pc, pc < sLen 204 → sRowB 204 pc = true := by
  intro pc h
  have hl : sLen 204 = 114 := by decide +kernel
  rw [hl] at h
  by_cases h0 : pc < 80
  · have := List.all_eq_true.mp sR204_0 (pc - 0) (List.mem_range.mpr (by omega))
    rwa [show 0 + (pc - 0) = pc by omega] at this
  have := List.all_eq_true.mp sR204_1 (pc - 80) (List.mem_range.mpr (by omega))
  rwa [show 80 + (pc - 80) = pc by omega] at this
theorem sR205_0 : (List.range 80).all (fun q => sRowB 205 (0 + q)) = true := by decide +kernel
theorem sR205_1 : (List.range 24).all (fun q => sRowB 205 (80 + q)) = true := by decide +kernel
theorem sR205 : ∀ pc, pc < sLen 205 → sRowB 205 pc = true := by
  intro pc h
  have hl : sLen 205 = 104 := by decide +kernel
  rw [hl] at h
  by_cases h0 : pc < 80
  · have := List.all_eq_true.mp sR205_0 (pc - 0) (List.mem_range.mpr (by omega))
    rwa [show 0 + (pc - 0) = pc by omega] at this
  have := List.all_eq_true.mp sR205_1 (pc - 80) (List.mem_range.mpr (by omega))
  rwa [show 80 + (pc - 80) = pc by omega] at this
theorem sR206_0 : (List.range 80).all (fun q => sRowB 206 (0 + q)) = true := by decide +kernel
theorem sR206_1 : (List.range 62).all (fun q => sRowB 206 (80 + q)) = true := by decide +kernel
theorem sR206 : ∀ pc, pc < sLen 206 → sRowB 206 pc = true := by
  intro pc h
  have hl : sLen 206 = 142 := by decide +kernel
  rw [hl] at h
  by_cases h0 : pc < 80
  · have := List.all_eq_true.mp sR206_0 (pc - 0) (List.mem_range.mpr (by omega))
    rwa [show 0 + (pc - 0) = pc by omega] at this
  have := List.all_eq_true.mp sR206_1 (pc - 80) (List.mem_range.mpr (by omega))
  rwa [show 80 + (pc - 80) = pc by omega] at this
theorem sR207_0 : (List.range 25).all (fun q => sRowB 207 (0 + q)) = true := by decide +kernel
theorem sR207 : ∀ pc, pc < sLen 207 → sRowB 207 pc = true := by
  intro pc h
  have hl : sLen 207 = 25 := by decide +kernel
  rw [hl] at h
  have := List.all_eq_true.mp sR207_0 (pc - 0) (List.mem_range.mpr (by omega))
  rwa [show 0 + (pc - 0) = pc by omega] at this
theorem sR208_0 : (List.range 80).all (fun q => sRowB 208 (0 + q)) = true := by decide +kernel
theorem sR208_1 : (List.range 80).all (fun q => sRowB 208 (80 + q)) = true := by decide +kernel
theorem sR208_2 : (List.range 80).all (fun q => sRowB 208 (160 + q)) = true := by decide +kernel
theorem sR208_3 : (List.range 80).all (fun q => sRowB 208 (240 + q)) = true := by decide +kernel
theorem sR208_4 : (List.range 48).all (fun q => sRowB 208 (320 + q)) = true := by decide +kernel
theorem sR208 : ∀ pc, pc < sLen 208 → sRowB 208 pc = true := by
  intro pc h
  have hl : sLen 208 = 368 := by decide +kernel
  rw [hl] at h
  by_cases h0 : pc < 80
  · have := List.all_eq_true.mp sR208_0 (pc - 0) (List.mem_range.mpr (by omega))
    rwa [show 0 + (pc - 0) = pc by omega] at this
  by_cases h1 : pc < 160
  · have := List.all_eq_true.mp sR208_1 (pc - 80) (List.mem_range.mpr (by omega))
    rwa [show 80 + (pc - 80) = pc by omega] at this
  by_cases h2 : pc < 240
  · have := List.all_eq_true.mp sR208_2 (pc - 160) (List.mem_range.mpr (by omega))
    rwa [show 160 + (pc - 160) = pc by omega] at this
  by_cases h3 : pc < 320
  · have := List.all_eq_true.mp sR208_3 (pc - 240) (List.mem_range.mpr (by omega))
    rwa [show 240 + (pc - 240) = pc by omega] at this
  have := List.all_eq_true.mp sR208_4 (pc - 320) (List.mem_range.mpr (by omega))
  rwa [show 320 + (pc - 320) = pc by omega] at this
theorem sR209_0 : (List.range 48).all (fun q => sRowB 209 (0 + q)) = true := by decide +kernel
theorem sR209 : ∀ pc, pc < sLen 209 → sRowB 209 pc = true := by
  intro pc h
  have hl : sLen 209 = 48 := by decide +kernel
  rw [hl] at h
  have := List.all_eq_true.mp sR209_0 (pc - 0) (List.mem_range.mpr (by omega))
  rwa [show 0 + (pc - 0) = pc by omega] at this
theorem sR210_0 : (List.range 12).all (fun q => sRowB 210 (0 + q)) = true := by decide +kernel
theorem sR210 : ∀ pc, pc < sLen 210 → sRowB 210 pc = true := by
  intro pc h
  have hl : sLen 210 = 12 := by decide +kernel
  rw [hl] at h
  have := List.all_eq_true.mp sR210_0 (pc - 0) (List.mem_range.mpr (by omega))
  rwa [show 0 + (pc - 0) = pc by omega] at this
theorem sR211_0 : (List.range 80).all (fun q => sRowB 211 (0 + q)) = true := by decide +kernel
theorem sR211_1 : (List.range 48).all (fun q => sRowB 211 (80 + q)) = true := by decide +kernel
theorem sR211 : ∀ pc, pc < sLen 211 → sRowB 211 pc = true := by
  intro pc h
  have hl : sLen 211 = 128 := by decide +kernel
  rw [hl] at h
  by_cases h0 : pc < 80
  · have := List.all_eq_true.mp sR211_0 (pc - 0) (List.mem_range.mpr (by omega))
    rwa [show 0 + (pc - 0) = pc by omega] at this
  have := List.all_eq_true.mp sR211_1 (pc - 80) (List.mem_range.mpr (by omega))
  rwa [show 80 + (pc - 80) = pc by omega] at this
theorem sR212_0 : (List.range 80).all (fun q => sRowB 212 (0 + q)) = true := by decide +kernel
theorem sR212_1 : (List.range 29).all (fun q => sRowB 212 (80 + q)) = true := by decide +kernel
theorem sR212 : ∀ pc, pc < sLen 212 → sRowB 212 pc = true := by
  intro pc h
  have hl : sLen 212 = 109 := by decide +kernel
  rw [hl] at h
  by_cases h0 : pc < 80
  · have := List.all_eq_true.mp sR212_0 (pc - 0) (List.mem_range.mpr (by omega))
    rwa [show 0 + (pc - 0) = pc by omega] at this
  have := List.all_eq_true.mp sR212_1 (pc - 80) (List.mem_range.mpr (by omega))
  rwa [show 80 + (pc - 80) = pc by omega] at this
theorem sR213_0 : (List.range 80).all (fun q => sRowB 213 (0 + q)) = true := by decide +kernel
theorem sR213_1 : (List.range 80).all (fun q => sRowB 213 (80 + q)) = true := by decide +kernel
theorem sR213_2 : (List.range 1).all (fun q => sRowB 213 (160 + q)) = true := by decide +kernel
theorem sR213 : ∀ pc, pc < sLen 213 → sRowB 213 pc = true := by
  intro pc h
  have hl : sLen 213 = 161 := by decide +kernel
  rw [hl] at h
  by_cases h0 : pc < 80
  · have := List.all_eq_true.mp sR213_0 (pc - 0) (List.mem_range.mpr (by omega))
    rwa [show 0 + (pc - 0) = pc by omega] at this
  by_cases h1 : pc < 160
  · have := List.all_eq_true.mp sR213_1 (pc - 80) (List.mem_range.mpr (by omega))
    rwa [show 80 + (pc - 80) = pc by omega] at this
  have := List.all_eq_true.mp sR213_2 (pc - 160) (List.mem_range.mpr (by omega))
  rwa [show 160 + (pc - 160) = pc by omega] at this
theorem sR214_0 : (List.range 47).all (fun q => sRowB 214 (0 + q)) = true := by decide +kernel
theorem sR214 : ∀ pc, pc < sLen 214 → sRowB 214 pc = true := by
  intro pc h
  have hl : sLen 214 = 47 := by decide +kernel
  rw [hl] at h
  have := List.all_eq_true.mp sR214_0 (pc - 0) (List.mem_range.mpr (by omega))
  rwa [show 0 + (pc - 0) = pc by omega] at this
theorem sR215_0 : (List.range 80).all (fun q => sRowB 215 (0 + q)) = true := by decide +kernel
theorem sR215_1 : (List.range 80).all (fun q => sRowB 215 (80 + q)) = true := by decide +kernel
theorem sR215_2 : (List.range 59).all (fun q => sRowB 215 (160 + q)) = true := by decide +kernel
theorem sR215 : ∀ pc, pc < sLen 215 → sRowB 215 pc = true := by
  intro pc h
  have hl : sLen 215 = 219 := by decide +kernel
  rw [hl] at h
  by_cases h0 : pc < 80
  · have := List.all_eq_true.mp sR215_0 (pc - 0) (List.mem_range.mpr (by omega))
    rwa [show 0 + (pc - 0) = pc by omega] at this
  by_cases h1 : pc < 160
  · have := List.all_eq_true.mp sR215_1 (pc - 80) (List.mem_range.mpr (by omega))
    rwa [show 80 + (pc - 80) = pc by omega] at this
  have := List.all_eq_true.mp sR215_2 (pc - 160) (List.mem_range.mpr (by omega))
  rwa [show 160 + (pc - 160) = pc by omega] at this
theorem sR216_0 : (List.range 43).all (fun q => sRowB 216 (0 + q)) = true := by decide +kernel
theorem sR216 : ∀ pc, pc < sLen 216 → sRowB 216 pc = true := by
  intro pc h
  have hl : sLen 216 = 43 := by decide +kernel
  rw [hl] at h
  have := List.all_eq_true.mp sR216_0 (pc - 0) (List.mem_range.mpr (by omega))
  rwa [show 0 + (pc - 0) = pc by omega] at this
theorem sR217_0 : (List.range 80).all (fun q => sRowB 217 (0 + q)) = true := by decide +kernel
theorem sR217_1 : (List.range 80).all (fun q => sRowB 217 (80 + q)) = true := by decide +kernel
theorem sR217_2 : (List.range 80).all (fun q => sRowB 217 (160 + q)) = true := by decide +kernel
theorem sR217_3 : (List.range 12).all (fun q => sRowB 217 (240 + q)) = true := by decide +kernel
theorem sR217 : ∀ pc, pc < sLen 217 → sRowB 217 pc = true := by
  intro pc h
  have hl : sLen 217 = 252 := by decide +kernel
  rw [hl] at h
  by_cases h0 : pc < 80
  · have := List.all_eq_true.mp sR217_0 (pc - 0) (List.mem_range.mpr (by omega))
    rwa [show 0 + (pc - 0) = pc by omega] at this
  by_cases h1 : pc < 160
  · have := List.all_eq_true.mp sR217_1 (pc - 80) (List.mem_range.mpr (by omega))
    rwa [show 80 + (pc - 80) = pc by omega] at this
  by_cases h2 : pc < 240
  · have := List.all_eq_true.mp sR217_2 (pc - 160) (List.mem_range.mpr (by omega))
    rwa [show 160 + (pc - 160) = pc by omega] at this
  have := List.all_eq_true.mp sR217_3 (pc - 240) (List.mem_range.mpr (by omega))
  rwa [show 240 + (pc - 240) = pc by omega] at this
theorem sR218_0 : (List.range 62).all (fun q => sRowB 218 (0 + q)) = true := by decide +kernel
theorem sR218 : ∀ pc, pc < sLen 218 → sRowB 218 pc = true := by
  intro pc h
  have hl : sLen 218 = 62 := by decide +kernel
  rw [hl] at h
  have := List.all_eq_true.mp sR218_0 (pc - 0) (List.mem_range.mpr (by omega))
  rwa [show 0 + (pc - 0) = pc by omega] at this
theorem sR219_0 : (List.range 80).all (fun q => sRowB 219 (0 + q)) = true := by decide +kernel
theorem sR219_1 : (List.range 80).all (fun q => sRowB 219 (80 + q)) = true := by decide +kernel
theorem sR219_2 : (List.range 80).all (fun q => sRowB 219 (160 + q)) = true := by decide +kernel
theorem sR219_3 : (List.range 17).all (fun q => sRowB 219 (240 + q)) = true := by decide +kernel
theorem sR219 : ∀ pc, pc < sLen 219 → sRowB 219 pc = true := by
  intro pc h
  have hl : sLen 219 = 257 := by decide +kernel
  rw [hl] at h
  by_cases h0 : pc < 80
  · have := List.all_eq_true.mp sR219_0 (pc - 0) (List.mem_range.mpr (by omega))
    rwa [show 0 + (pc - 0) = pc by omega] at this
  by_cases h1 : pc < 160
  · have := List.all_eq_true.mp sR219_1 (pc - 80) (List.mem_range.mpr (by omega))
    rwa [show 80 + (pc - 80) = pc by omega] at this
  by_cases h2 : pc < 240
  · have := List.all_eq_true.mp sR219_2 (pc - 160) (List.mem_range.mpr (by omega))
    rwa [show 160 + (pc - 160) = pc by omega] at this
  have := List.all_eq_true.mp sR219_3 (pc - 240) (List.mem_range.mpr (by omega))
  rwa [show 240 + (pc - 240) = pc by omega] at this
theorem sR220_0 : (List.range 30).all (fun q => sRowB 220 (0 + q)) = true := by decide +kernel
theorem sR220 : ∀ pc, pc < sLen 220 → sRowB 220 pc = true := by
  intro pc h
  have hl : sLen 220 = 30 := by decide +kernel
  rw [hl] at h
  have := List.all_eq_true.mp sR220_0 (pc - 0) (List.mem_range.mpr (by omega))
  rwa [show 0 + (pc - 0) = pc by omega] at this
theorem sR221_0 : (List.range 10).all (fun q => sRowB 221 (0 + q)) = true := by decide +kernel
theorem sR221 : ∀ pc, pc < sLen 221 → sRowB 221 pc = true := by
  intro pc h
  have hl : sLen 221 = 10 := by decide +kernel
  rw [hl] at h
  have := List.all_eq_true.mp sR221_0 (pc - 0) (List.mem_range.mpr (by omega))
  rwa [show 0 + (pc - 0) = pc by omega] at this
theorem sR222_0 : (List.range 31).all (fun q => sRowB 222 (0 + q)) = true := by decide +kernel
theorem sR222 : ∀ pc, pc < sLen 222 → sRowB 222 pc = true := by
  intro pc h
  have hl : sLen 222 = 31 := by decide +kernel
  rw [hl] at h
  have := List.all_eq_true.mp sR222_0 (pc - 0) (List.mem_range.mpr (by omega))
  rwa [show 0 + (pc - 0) = pc by omega] at this
theorem sR223_0 : (List.range 31).all (fun q => sRowB 223 (0 + q)) = true := by decide +kernel
theorem sR223 : ∀ pc, pc < sLen 223 → sRowB 223 pc = true := by
  intro pc h
  have hl : sLen 223 = 31 := by decide +kernel
  rw [hl] at h
  have := List.all_eq_true.mp sR223_0 (pc - 0) (List.mem_range.mpr (by omega))
  rwa [show 0 + (pc - 0) = pc by omega] at this
theorem sR224_0 : (List.range 31).all (fun q => sRowB 224 (0 + q)) = true := by decide +kernel
theorem sR224 : ∀ pc, pc < sLen 224 → sRowB 224 pc = true := by
  intro pc h
  have hl : sLen 224 = 31 := by decide +kernel
  rw [hl] at h
  have := List.all_eq_true.mp sR224_0 (pc - 0) (List.mem_range.mpr (by omega))
  rwa [show 0 + (pc - 0) = pc by omega] at this
theorem sR225_0 : (List.range 30).all (fun q => sRowB 225 (0 + q)) = true := by decide +kernel
theorem sR225 : ∀ pc, pc < sLen 225 → sRowB 225 pc = true := by
  intro pc h
  have hl : sLen 225 = 30 := by decide +kernel
  rw [hl] at h
  have := List.all_eq_true.mp sR225_0 (pc - 0) (List.mem_range.mpr (by omega))
  rwa [show 0 + (pc - 0) = pc by omega] at this
theorem sR226_0 : (List.range 30).all (fun q => sRowB 226 (0 + q)) = true := by decide +kernel
theorem sR226 : ∀ pc, pc < sLen 226 → sRowB 226 pc = true := by
  intro pc h
  have hl : sLen 226 = 30 := by decide +kernel
  rw [hl] at h
  have := List.all_eq_true.mp sR226_0 (pc - 0) (List.mem_range.mpr (by omega))
  rwa [show 0 + (pc - 0) = pc by omega] at this
theorem sR227_0 : (List.range 30).all (fun q => sRowB 227 (0 + q)) = true := by decide +kernel
theorem sR227 : ∀ pc, pc < sLen 227 → sRowB 227 pc = true := by
  intro pc h
  have hl : sLen 227 = 30 := by decide +kernel
  rw [hl] at h
  have := List.all_eq_true.mp sR227_0 (pc - 0) (List.mem_range.mpr (by omega))
  rwa [show 0 + (pc - 0) = pc by omega] at this
theorem sR228_0 : (List.range 56).all (fun q => sRowB 228 (0 + q)) = true := by decide +kernel
theorem sR228 : ∀ pc, pc < sLen 228 → sRowB 228 pc = true := by
  intro pc h
  have hl : sLen 228 = 56 := by decide +kernel
  rw [hl] at h
  have := List.all_eq_true.mp sR228_0 (pc - 0) (List.mem_range.mpr (by omega))
  rwa [show 0 + (pc - 0) = pc by omega] at this
theorem sR229_0 : (List.range 29).all (fun q => sRowB 229 (0 + q)) = true := by decide +kernel
theorem sR229 : ∀ pc, pc < sLen 229 → sRowB 229 pc = true := by
  intro pc h
  have hl : sLen 229 = 29 := by decide +kernel
  rw [hl] at h
  have := List.all_eq_true.mp sR229_0 (pc - 0) (List.mem_range.mpr (by omega))
  rwa [show 0 + (pc - 0) = pc by omega] at this
theorem sR230_0 : (List.range 30).all (fun q => sRowB 230 (0 + q)) = true := by decide +kernel
theorem sR230 : ∀ pc, pc < sLen 230 → sRowB 230 pc = true := by
  intro pc h
  have hl : sLen 230 = 30 := by decide +kernel
  rw [hl] at h
  have := List.all_eq_true.mp sR230_0 (pc - 0) (List.mem_range.mpr (by omega))
  rwa [show 0 + (pc - 0) = pc by omega] at this
theorem sR231_0 : (List.range 30).all (fun q => sRowB 231 (0 + q)) = true := by decide +kernel
theorem sR231 : ∀ pc, pc < sLen 231 → sRowB 231 pc = true := by
  intro pc h
  have hl : sLen 231 = 30 := by decide +kernel
  rw [hl] at h
  have := List.all_eq_true.mp sR231_0 (pc - 0) (List.mem_range.mpr (by omega))
  rwa [show 0 + (pc - 0) = pc by omega] at this
theorem sR232_0 : (List.range 10).all (fun q => sRowB 232 (0 + q)) = true := by decide +kernel
theorem sR232 : ∀ pc, pc < sLen 232 → sRowB 232 pc = true := by
  intro pc h
  have hl : sLen 232 = 10 := by decide +kernel
  rw [hl] at h
  have := List.all_eq_true.mp sR232_0 (pc - 0) (List.mem_range.mpr (by omega))
  rwa [show 0 + (pc - 0) = pc by omega] at this
theorem sR233_0 : (List.range 80).all (fun q => sRowB 233 (0 + q)) = true := by decide +kernel
theorem sR233_1 : (List.range 41).all (fun q => sRowB 233 (80 + q)) = true := by decide +kernel
theorem sR233 : ∀ pc, pc < sLen 233 → sRowB 233 pc = true := by
  intro pc h
  have hl : sLen 233 = 121 := by decide +kernel
  rw [hl] at h
  by_cases h0 : pc < 80
  · have := List.all_eq_true.mp sR233_0 (pc - 0) (List.mem_range.mpr (by omega))
    rwa [show 0 + (pc - 0) = pc by omega] at this
  have := List.all_eq_true.mp sR233_1 (pc - 80) (List.mem_range.mpr (by omega))
  rwa [show 80 + (pc - 80) = pc by omega] at this
theorem sR234_0 : (List.range 41).all (fun q => sRowB 234 (0 + q)) = true := by decide +kernel
theorem sR234 : ∀ pc, pc < sLen 234 → sRowB 234 pc = true := by
  intro pc h
  have hl : sLen 234 = 41 := by decide +kernel
  rw [hl] at h
  have := List.all_eq_true.mp sR234_0 (pc - 0) (List.mem_range.mpr (by omega))
  rwa [show 0 + (pc - 0) = pc by omega] at this
theorem sR235_0 : (List.range 80).all (fun q => sRowB 235 (0 + q)) = true := by decide +kernel
theorem sR235_1 : (List.range 42).all (fun q => sRowB 235 (80 + q)) = true := by decide +kernel
theorem sR235 : ∀ pc, pc < sLen 235 → sRowB 235 pc = true := by
  intro pc h
  have hl : sLen 235 = 122 := by decide +kernel
  rw [hl] at h
  by_cases h0 : pc < 80
  · have := List.all_eq_true.mp sR235_0 (pc - 0) (List.mem_range.mpr (by omega))
    rwa [show 0 + (pc - 0) = pc by omega] at this
  have := List.all_eq_true.mp sR235_1 (pc - 80) (List.mem_range.mpr (by omega))
  rwa [show 80 + (pc - 80) = pc by omega] at this
theorem sR236_0 : (List.range 17).all (fun q => sRowB 236 (0 + q)) = true := by decide +kernel
theorem sR236 : ∀ pc, pc < sLen 236 → sRowB 236 pc = true := by
  intro pc h
  have hl : sLen 236 = 17 := by decide +kernel
  rw [hl] at h
  have := List.all_eq_true.mp sR236_0 (pc - 0) (List.mem_range.mpr (by omega))
  rwa [show 0 + (pc - 0) = pc by omega] at this
theorem sR237_0 : (List.range 19).all (fun q => sRowB 237 (0 + q)) = true := by decide +kernel
theorem sR237 : ∀ pc, pc < sLen 237 → sRowB 237 pc = true := by
  intro pc h
  have hl : sLen 237 = 19 := by decide +kernel
  rw [hl] at h
  have := List.all_eq_true.mp sR237_0 (pc - 0) (List.mem_range.mpr (by omega))
  rwa [show 0 + (pc - 0) = pc by omega] at this
theorem sR238_0 : (List.range 18).all (fun q => sRowB 238 (0 + q)) = true := by decide +kernel
theorem sR238 : ∀ pc, pc < sLen 238 → sRowB 238 pc = true := by
  intro pc h
  have hl : sLen 238 = 18 := by decide +kernel
  rw [hl] at h
  have := List.all_eq_true.mp sR238_0 (pc - 0) (List.mem_range.mpr (by omega))
  rwa [show 0 + (pc - 0) = pc by omega] at this
theorem sR239_0 : (List.range 18).all (fun q => sRowB 239 (0 + q)) = true := by decide +kernel
theorem sR239 : ∀ pc, pc < sLen 239 → sRowB 239 pc = true := by
  intro pc h
  have hl : sLen 239 = 18 := by decide +kernel
  rw [hl] at h
  have := List.all_eq_true.mp sR239_0 (pc - 0) (List.mem_range.mpr (by omega))
  rwa [show 0 + (pc - 0) = pc by omega] at this
theorem sR240_0 : (List.range 18).all (fun q => sRowB 240 (0 + q)) = true := by decide +kernel
theorem sR240 : ∀ pc, pc < sLen 240 → sRowB 240 pc = true := by
  intro pc h
  have hl : sLen 240 = 18 := by decide +kernel
  rw [hl] at h
  have := List.all_eq_true.mp sR240_0 (pc - 0) (List.mem_range.mpr (by omega))
  rwa [show 0 + (pc - 0) = pc by omega] at this
theorem sR241_0 : (List.range 19).all (fun q => sRowB 241 (0 + q)) = true := by decide +kernel
theorem sR241 : ∀ pc, pc < sLen 241 → sRowB 241 pc = true := by
  intro pc h
  have hl : sLen 241 = 19 := by decide +kernel
  rw [hl] at h
  have := List.all_eq_true.mp sR241_0 (pc - 0) (List.mem_range.mpr (by omega))
  rwa [show 0 + (pc - 0) = pc by omega] at this
theorem sR242_0 : (List.range 23).all (fun q => sRowB 242 (0 + q)) = true := by decide +kernel
theorem sR242 : ∀ pc, pc < sLen 242 → sRowB 242 pc = true := by
  intro pc h
  have hl : sLen 242 = 23 := by decide +kernel
  rw [hl] at h
  have := List.all_eq_true.mp sR242_0 (pc - 0) (List.mem_range.mpr (by omega))
  rwa [show 0 + (pc - 0) = pc by omega] at this
theorem sR243_0 : (List.range 10).all (fun q => sRowB 243 (0 + q)) = true := by decide +kernel
theorem sR243 : ∀ pc, pc < sLen 243 → sRowB 243 pc = true := by
  intro pc h
  have hl : sLen 243 = 10 := by decide +kernel
  rw [hl] at h
  have := List.all_eq_true.mp sR243_0 (pc - 0) (List.mem_range.mpr (by omega))
  rwa [show 0 + (pc - 0) = pc by omega] at this
theorem sR244_0 : (List.range 10).all (fun q => sRowB 244 (0 + q)) = true := by decide +kernel
theorem sR244 : ∀ pc, pc < sLen 244 → sRowB 244 pc = true := by
  intro pc h
  have hl : sLen 244 = 10 := by decide +kernel
  rw [hl] at h
  have := List.all_eq_true.mp sR244_0 (pc - 0) (List.mem_range.mpr (by omega))
  rwa [show 0 + (pc - 0) = pc by omega] at this
theorem sR245_0 : (List.range 5).all (fun q => sRowB 245 (0 + q)) = true := by decide +kernel
theorem sR245 : ∀ pc, pc < sLen 245 → sRowB 245 pc = true := by
  intro pc h
  have hl : sLen 245 = 5 := by decide +kernel
  rw [hl] at h
  have := List.all_eq_true.mp sR245_0 (pc - 0) (List.mem_range.mpr (by omega))
  rwa [show 0 + (pc - 0) = pc by omega] at this
theorem sR246_0 : (List.range 10).all (fun q => sRowB 246 (0 + q)) = true := by decide +kernel
theorem sR246 : ∀ pc, pc < sLen 246 → sRowB 246 pc = true := by
  intro pc h
  have hl : sLen 246 = 10 := by decide +kernel
  rw [hl] at h
  have := List.all_eq_true.mp sR246_0 (pc - 0) (List.mem_range.mpr (by omega))
  rwa [show 0 + (pc - 0) = pc by omega] at this
theorem sR247_0 : (List.range 12).all (fun q => sRowB 247 (0 + q)) = true := by decide +kernel
theorem sR247 : ∀ pc, pc < sLen 247 → sRowB 247 pc = true := by
  intro pc h
  have hl : sLen 247 = 12 := by decide +kernel
  rw [hl] at h
  have := List.all_eq_true.mp sR247_0 (pc - 0) (List.mem_range.mpr (by omega))
  rwa [show 0 + (pc - 0) = pc by omega] at this
theorem sR248_0 : (List.range 60).all (fun q => sRowB 248 (0 + q)) = true := by decide +kernel
theorem sR248 : ∀ pc, pc < sLen 248 → sRowB 248 pc = true := by
  intro pc h
  have hl : sLen 248 = 60 := by decide +kernel
  rw [hl] at h
  have := List.all_eq_true.mp sR248_0 (pc - 0) (List.mem_range.mpr (by omega))
  rwa [show 0 + (pc - 0) = pc by omega] at this
theorem sR249_0 : (List.range 11).all (fun q => sRowB 249 (0 + q)) = true := by decide +kernel
theorem sR249 : ∀ pc, pc < sLen 249 → sRowB 249 pc = true := by
  intro pc h
  have hl : sLen 249 = 11 := by decide +kernel
  rw [hl] at h
  have := List.all_eq_true.mp sR249_0 (pc - 0) (List.mem_range.mpr (by omega))
  rwa [show 0 + (pc - 0) = pc by omega] at this
theorem sR250_0 : (List.range 5).all (fun q => sRowB 250 (0 + q)) = true := by decide +kernel
theorem sR250 : ∀ pc, pc < sLen 250 → sRowB 250 pc = true := by
  intro pc h
  have hl : sLen 250 = 5 := by decide +kernel
  rw [hl] at h
  have := List.all_eq_true.mp sR250_0 (pc - 0) (List.mem_range.mpr (by omega))
  rwa [show 0 + (pc - 0) = pc by omega] at this
theorem sR251_0 : (List.range 7).all (fun q => sRowB 251 (0 + q)) = true := by decide +kernel
theorem sR251 : ∀ pc, pc < sLen 251 → sRowB 251 pc = true := by
  intro pc h
  have hl : sLen 251 = 7 := by decide +kernel
  rw [hl] at h
  have := List.all_eq_true.mp sR251_0 (pc - 0) (List.mem_range.mpr (by omega))
  rwa [show 0 + (pc - 0) = pc by omega] at this
theorem sR252_0 : (List.range 15).all (fun q => sRowB 252 (0 + q)) = true := by decide +kernel
theorem sR252 : ∀ pc, pc < sLen 252 → sRowB 252 pc = true := by
  intro pc h
  have hl : sLen 252 = 15 := by decide +kernel
  rw [hl] at h
  have := List.all_eq_true.mp sR252_0 (pc - 0) (List.mem_range.mpr (by omega))
  rwa [show 0 + (pc - 0) = pc by omega] at this
theorem sR253_0 : (List.range 23).all (fun q => sRowB 253 (0 + q)) = true := by decide +kernel
theorem sR253 : ∀ pc, pc < sLen 253 → sRowB 253 pc = true := by
  intro pc h
  have hl : sLen 253 = 23 := by decide +kernel
  rw [hl] at h
  have := List.all_eq_true.mp sR253_0 (pc - 0) (List.mem_range.mpr (by omega))
  rwa [show 0 + (pc - 0) = pc by omega] at this
theorem sR254_0 : (List.range 25).all (fun q => sRowB 254 (0 + q)) = true := by decide +kernel
theorem sR254 : ∀ pc, pc < sLen 254 → sRowB 254 pc = true := by
  intro pc h
  have hl : sLen 254 = 25 := by decide +kernel
  rw [hl] at h
  have := List.all_eq_true.mp sR254_0 (pc - 0) (List.mem_range.mpr (by omega))
  rwa [show 0 + (pc - 0) = pc by omega] at this
theorem sR255_0 : (List.range 43).all (fun q => sRowB 255 (0 + q)) = true := by decide +kernel
theorem sR255 : ∀ pc, pc < sLen 255 → sRowB 255 pc = true := by
  intro pc h
  have hl : sLen 255 = 43 := by decide +kernel
  rw [hl] at h
  have := List.all_eq_true.mp sR255_0 (pc - 0) (List.mem_range.mpr (by omega))
  rwa [show 0 + (pc - 0) = pc by omega] at this
theorem sR256_0 : (List.range 7).all (fun q => sRowB 256 (0 + q)) = true := by decide +kernel
theorem sR256 : ∀ pc, pc < sLen 256 → sRowB 256 pc = true := by
  intro pc h
  have hl : sLen 256 = 7 := by decide +kernel
  rw [hl] at h
  have := List.all_eq_true.mp sR256_0 (pc - 0) (List.mem_range.mpr (by omega))
  rwa [show 0 + (pc - 0) = pc by omega] at this
theorem sR257_0 : (List.range 27).all (fun q => sRowB 257 (0 + q)) = true := by decide +kernel
theorem sR257 : ∀ pc, pc < sLen 257 → sRowB 257 pc = true := by
  intro pc h
  have hl : sLen 257 = 27 := by decide +kernel
  rw [hl] at h
  have := List.all_eq_true.mp sR257_0 (pc - 0) (List.mem_range.mpr (by omega))
  rwa [show 0 + (pc - 0) = pc by omega] at this
theorem sR258_0 : (List.range 18).all (fun q => sRowB 258 (0 + q)) = true := by decide +kernel
theorem sR258 : ∀ pc, pc < sLen 258 → sRowB 258 pc = true := by
  intro pc h
  have hl : sLen 258 = 18 := by decide +kernel
  rw [hl] at h
  have := List.all_eq_true.mp sR258_0 (pc - 0) (List.mem_range.mpr (by omega))
  rwa [show 0 + (pc - 0) = pc by omega] at this
theorem sR259_0 : (List.range 20).all (fun q => sRowB 259 (0 + q)) = true := by decide +kernel
theorem sR259 : ∀ pc, pc < sLen 259 → sRowB 259 pc = true := by
  intro pc h
  have hl : sLen 259 = 20 := by decide +kernel
  rw [hl] at h
  have := List.all_eq_true.mp sR259_0 (pc - 0) (List.mem_range.mpr (by omega))
  rwa [show 0 + (pc - 0) = pc by omega] at this
theorem sR260_0 : (List.range 20).all (fun q => sRowB 260 (0 + q)) = true := by decide +kernel
theorem sR260 : ∀ pc, pc < sLen 260 → sRowB 260 pc = true := by
  intro pc h
  have hl : sLen 260 = 20 := by decide +kernel
  rw [hl] at h
  have := List.all_eq_true.mp sR260_0 (pc - 0) (List.mem_range.mpr (by omega))
  rwa [show 0 + (pc - 0) = pc by omega] at this
theorem sR261_0 : (List.range 20).all (fun q => sRowB 261 (0 + q)) = true := by decide +kernel
theorem sR261 : ∀ pc, pc < sLen 261 → sRowB 261 pc = true := by
  intro pc h
  have hl : sLen 261 = 20 := by decide +kernel
  rw [hl] at h
  have := List.all_eq_true.mp sR261_0 (pc - 0) (List.mem_range.mpr (by omega))
  rwa [show 0 + (pc - 0) = pc by omega] at this
theorem sR262_0 : (List.range 26).all (fun q => sRowB 262 (0 + q)) = true := by decide +kernel
theorem sR262 : ∀ pc, pc < sLen 262 → sRowB 262 pc = true := by
  intro pc h
  have hl : sLen 262 = 26 := by decide +kernel
  rw [hl] at h
  have := List.all_eq_true.mp sR262_0 (pc - 0) (List.mem_range.mpr (by omega))
  rwa [show 0 + (pc - 0) = pc by omega] at this
theorem sR263_0 : (List.range 20).all (fun q => sRowB 263 (0 + q)) = true := by decide +kernel
theorem sR263 : ∀ pc, pc < sLen 263 → sRowB 263 pc = true := by
  intro pc h
  have hl : sLen 263 = 20 := by decide +kernel
  rw [hl] at h
  have := List.all_eq_true.mp sR263_0 (pc - 0) (List.mem_range.mpr (by omega))
  rwa [show 0 + (pc - 0) = pc by omega] at this
theorem sR264_0 : (List.range 27).all (fun q => sRowB 264 (0 + q)) = true := by decide +kernel
theorem sR264 : ∀ pc, pc < sLen 264 → sRowB 264 pc = true := by
  intro pc h
  have hl : sLen 264 = 27 := by decide +kernel
  rw [hl] at h
  have := List.all_eq_true.mp sR264_0 (pc - 0) (List.mem_range.mpr (by omega))
  rwa [show 0 + (pc - 0) = pc by omega] at this
theorem sR265_0 : (List.range 27).all (fun q => sRowB 265 (0 + q)) = true := by decide +kernel
theorem sR265 : ∀ pc, pc < sLen 265 → sRowB 265 pc = true := by
  intro pc h
  have hl : sLen 265 = 27 := by decide +kernel
  rw [hl] at h
  have := List.all_eq_true.mp sR265_0 (pc - 0) (List.mem_range.mpr (by omega))
  rwa [show 0 + (pc - 0) = pc by omega] at this
theorem sR266_0 : (List.range 17).all (fun q => sRowB 266 (0 + q)) = true := by decide +kernel
theorem sR266 : ∀ pc, pc < sLen 266 → sRowB 266 pc = true := by
  intro pc h
  have hl : sLen 266 = 17 := by decide +kernel
  rw [hl] at h
  have := List.all_eq_true.mp sR266_0 (pc - 0) (List.mem_range.mpr (by omega))
  rwa [show 0 + (pc - 0) = pc by omega] at this
theorem sR267_0 : (List.range 23).all (fun q => sRowB 267 (0 + q)) = true := by decide +kernel
theorem sR267 : ∀ pc, pc < sLen 267 → sRowB 267 pc = true := by
  intro pc h
  have hl : sLen 267 = 23 := by decide +kernel
  rw [hl] at h
  have := List.all_eq_true.mp sR267_0 (pc - 0) (List.mem_range.mpr (by omega))
  rwa [show 0 + (pc - 0) = pc by omega] at this
theorem sR268_0 : (List.range 25).all (fun q => sRowB 268 (0 + q)) = true := by decide +kernel
theorem sR268 : ∀ pc, pc < sLen 268 → sRowB 268 pc = true := by
  intro pc h
  have hl : sLen 268 = 25 := by decide +kernel
  rw [hl] at h
  have := List.all_eq_true.mp sR268_0 (pc - 0) (List.mem_range.mpr (by omega))
  rwa [show 0 + (pc - 0) = pc by omega] at this
theorem sR269_0 : (List.range 35).all (fun q => sRowB 269 (0 + q)) = true := by decide +kernel
theorem sR269 : ∀ pc, pc < sLen 269 → sRowB 269 pc = true := by
  intro pc h
  have hl : sLen 269 = 35 := by decide +kernel
  rw [hl] at h
  have := List.all_eq_true.mp sR269_0 (pc - 0) (List.mem_range.mpr (by omega))
  rwa [show 0 + (pc - 0) = pc by omega] at this
theorem sR270_0 : (List.range 33).all (fun q => sRowB 270 (0 + q)) = true := by decide +kernel
theorem sR270 : ∀ pc, pc < sLen 270 → sRowB 270 pc = true := by
  intro pc h
  have hl : sLen 270 = 33 := by decide +kernel
  rw [hl] at h
  have := List.all_eq_true.mp sR270_0 (pc - 0) (List.mem_range.mpr (by omega))
  rwa [show 0 + (pc - 0) = pc by omega] at this
theorem sR271_0 : (List.range 35).all (fun q => sRowB 271 (0 + q)) = true := by decide +kernel
theorem sR271 : ∀ pc, pc < sLen 271 → sRowB 271 pc = true := by
  intro pc h
  have hl : sLen 271 = 35 := by decide +kernel
  rw [hl] at h
  have := List.all_eq_true.mp sR271_0 (pc - 0) (List.mem_range.mpr (by omega))
  rwa [show 0 + (pc - 0) = pc by omega] at this
theorem sR272_0 : (List.range 33).all (fun q => sRowB 272 (0 + q)) = true := by decide +kernel
theorem sR272 : ∀ pc, pc < sLen 272 → sRowB 272 pc = true := by
  intro pc h
  have hl : sLen 272 = 33 := by decide +kernel
  rw [hl] at h
  have := List.all_eq_true.mp sR272_0 (pc - 0) (List.mem_range.mpr (by omega))
  rwa [show 0 + (pc - 0) = pc by omega] at this
theorem sR273_0 : (List.range 20).all (fun q => sRowB 273 (0 + q)) = true := by decide +kernel
theorem sR273 : ∀ pc, pc < sLen 273 → sRowB 273 pc = true := by
  intro pc h
  have hl : sLen 273 = 20 := by decide +kernel
  rw [hl] at h
  have := List.all_eq_true.mp sR273_0 (pc - 0) (List.mem_range.mpr (by omega))
  rwa [show 0 + (pc - 0) = pc by omega] at this
theorem sR274_0 : (List.range 20).all (fun q => sRowB 274 (0 + q)) = true := by decide +kernel
theorem sR274 : ∀ pc, pc < sLen 274 → sRowB 274 pc = true := by
  intro pc h
  have hl : sLen 274 = 20 := by decide +kernel
  rw [hl] at h
  have := List.all_eq_true.mp sR274_0 (pc - 0) (List.mem_range.mpr (by omega))
  rwa [show 0 + (pc - 0) = pc by omega] at this
theorem sR275_0 : (List.range 27).all (fun q => sRowB 275 (0 + q)) = true := by decide +kernel
theorem sR275 : ∀ pc, pc < sLen 275 → sRowB 275 pc = true := by
  intro pc h
  have hl : sLen 275 = 27 := by decide +kernel
  rw [hl] at h
  have := List.all_eq_true.mp sR275_0 (pc - 0) (List.mem_range.mpr (by omega))
  rwa [show 0 + (pc - 0) = pc by omega] at this
theorem sR276_0 : (List.range 20).all (fun q => sRowB 276 (0 + q)) = true := by decide +kernel
theorem sR276 : ∀ pc, pc < sLen 276 → sRowB 276 pc = true := by
  intro pc h
  have hl : sLen 276 = 20 := by decide +kernel
  rw [hl] at h
  have := List.all_eq_true.mp sR276_0 (pc - 0) (List.mem_range.mpr (by omega))
  rwa [show 0 + (pc - 0) = pc by omega] at this
theorem sR277_0 : (List.range 17).all (fun q => sRowB 277 (0 + q)) = true := by decide +kernel
theorem sR277 : ∀ pc, pc < sLen 277 → sRowB 277 pc = true := by
  intro pc h
  have hl : sLen 277 = 17 := by decide +kernel
  rw [hl] at h
  have := List.all_eq_true.mp sR277_0 (pc - 0) (List.mem_range.mpr (by omega))
  rwa [show 0 + (pc - 0) = pc by omega] at this
theorem sR278_0 : (List.range 17).all (fun q => sRowB 278 (0 + q)) = true := by decide +kernel
theorem sR278 : ∀ pc, pc < sLen 278 → sRowB 278 pc = true := by
  intro pc h
  have hl : sLen 278 = 17 := by decide +kernel
  rw [hl] at h
  have := List.all_eq_true.mp sR278_0 (pc - 0) (List.mem_range.mpr (by omega))
  rwa [show 0 + (pc - 0) = pc by omega] at this
theorem sR279_0 : (List.range 17).all (fun q => sRowB 279 (0 + q)) = true := by decide +kernel
theorem sR279 : ∀ pc, pc < sLen 279 → sRowB 279 pc = true := by
  intro pc h
  have hl : sLen 279 = 17 := by decide +kernel
  rw [hl] at h
  have := List.all_eq_true.mp sR279_0 (pc - 0) (List.mem_range.mpr (by omega))
  rwa [show 0 + (pc - 0) = pc by omega] at this
theorem sR280_0 : (List.range 17).all (fun q => sRowB 280 (0 + q)) = true := by decide +kernel
theorem sR280 : ∀ pc, pc < sLen 280 → sRowB 280 pc = true := by
  intro pc h
  have hl : sLen 280 = 17 := by decide +kernel
  rw [hl] at h
  have := List.all_eq_true.mp sR280_0 (pc - 0) (List.mem_range.mpr (by omega))
  rwa [show 0 + (pc - 0) = pc by omega] at this
theorem sR281_0 : (List.range 19).all (fun q => sRowB 281 (0 + q)) = true := by decide +kernel
theorem sR281 : ∀ pc, pc < sLen 281 → sRowB 281 pc = true := by
  intro pc h
  have hl : sLen 281 = 19 := by decide +kernel
  rw [hl] at h
  have := List.all_eq_true.mp sR281_0 (pc - 0) (List.mem_range.mpr (by omega))
  rwa [show 0 + (pc - 0) = pc by omega] at this
theorem sR282_0 : (List.range 19).all (fun q => sRowB 282 (0 + q)) = true := by decide +kernel
theorem sR282 : ∀ pc, pc < sLen 282 → sRowB 282 pc = true := by
  intro pc h
  have hl : sLen 282 = 19 := by decide +kernel
  rw [hl] at h
  have := List.all_eq_true.mp sR282_0 (pc - 0) (List.mem_range.mpr (by omega))
  rwa [show 0 + (pc - 0) = pc by omega] at this
theorem sR283_0 : (List.range 19).all (fun q => sRowB 283 (0 + q)) = true := by decide +kernel
theorem sR283 : ∀ pc, pc < sLen 283 → sRowB 283 pc = true := by
  intro pc h
  have hl : sLen 283 = 19 := by decide +kernel
  rw [hl] at h
  have := List.all_eq_true.mp sR283_0 (pc - 0) (List.mem_range.mpr (by omega))
  rwa [show 0 + (pc - 0) = pc by omega] at this
theorem sR284_0 : (List.range 19).all (fun q => sRowB 284 (0 + q)) = true := by decide +kernel
theorem sR284 : ∀ pc, pc < sLen 284 → sRowB 284 pc = true := by
  intro pc h
  have hl : sLen 284 = 19 := by decide +kernel
  rw [hl] at h
  have := List.all_eq_true.mp sR284_0 (pc - 0) (List.mem_range.mpr (by omega))
  rwa [show 0 + (pc - 0) = pc by omega] at this
theorem sR285_0 : (List.range 17).all (fun q => sRowB 285 (0 + q)) = true := by decide +kernel
theorem sR285 : ∀ pc, pc < sLen 285 → sRowB 285 pc = true := by
  intro pc h
  have hl : sLen 285 = 17 := by decide +kernel
  rw [hl] at h
  have := List.all_eq_true.mp sR285_0 (pc - 0) (List.mem_range.mpr (by omega))
  rwa [show 0 + (pc - 0) = pc by omega] at this
theorem sR286_0 : (List.range 17).all (fun q => sRowB 286 (0 + q)) = true := by decide +kernel
theorem sR286 : ∀ pc, pc < sLen 286 → sRowB 286 pc = true := by
  intro pc h
  have hl : sLen 286 = 17 := by decide +kernel
  rw [hl] at h
  have := List.all_eq_true.mp sR286_0 (pc - 0) (List.mem_range.mpr (by omega))
  rwa [show 0 + (pc - 0) = pc by omega] at this
theorem sR287_0 : (List.range 17).all (fun q => sRowB 287 (0 + q)) = true := by decide +kernel
theorem sR287 : ∀ pc, pc < sLen 287 → sRowB 287 pc = true := by
  intro pc h
  have hl : sLen 287 = 17 := by decide +kernel
  rw [hl] at h
  have := List.all_eq_true.mp sR287_0 (pc - 0) (List.mem_range.mpr (by omega))
  rwa [show 0 + (pc - 0) = pc by omega] at this
theorem sR288_0 : (List.range 23).all (fun q => sRowB 288 (0 + q)) = true := by decide +kernel
theorem sR288 : ∀ pc, pc < sLen 288 → sRowB 288 pc = true := by
  intro pc h
  have hl : sLen 288 = 23 := by decide +kernel
  rw [hl] at h
  have := List.all_eq_true.mp sR288_0 (pc - 0) (List.mem_range.mpr (by omega))
  rwa [show 0 + (pc - 0) = pc by omega] at this
theorem sR289_0 : (List.range 19).all (fun q => sRowB 289 (0 + q)) = true := by decide +kernel
theorem sR289 : ∀ pc, pc < sLen 289 → sRowB 289 pc = true := by
  intro pc h
  have hl : sLen 289 = 19 := by decide +kernel
  rw [hl] at h
  have := List.all_eq_true.mp sR289_0 (pc - 0) (List.mem_range.mpr (by omega))
  rwa [show 0 + (pc - 0) = pc by omega] at this
theorem sR290_0 : (List.range 19).all (fun q => sRowB 290 (0 + q)) = true := by decide +kernel
theorem sR290 : ∀ pc, pc < sLen 290 → sRowB 290 pc = true := by
  intro pc h
  have hl : sLen 290 = 19 := by decide +kernel
  rw [hl] at h
  have := List.all_eq_true.mp sR290_0 (pc - 0) (List.mem_range.mpr (by omega))
  rwa [show 0 + (pc - 0) = pc by omega] at this
theorem sR291_0 : (List.range 17).all (fun q => sRowB 291 (0 + q)) = true := by decide +kernel
theorem sR291 : ∀ pc, pc < sLen 291 → sRowB 291 pc = true := by
  intro pc h
  have hl : sLen 291 = 17 := by decide +kernel
  rw [hl] at h
  have := List.all_eq_true.mp sR291_0 (pc - 0) (List.mem_range.mpr (by omega))
  rwa [show 0 + (pc - 0) = pc by omega] at this
theorem sR292_0 : (List.range 17).all (fun q => sRowB 292 (0 + q)) = true := by decide +kernel
theorem sR292 : ∀ pc, pc < sLen 292 → sRowB 292 pc = true := by
  intro pc h
  have hl : sLen 292 = 17 := by decide +kernel
  rw [hl] at h
  have := List.all_eq_true.mp sR292_0 (pc - 0) (List.mem_range.mpr (by omega))
  rwa [show 0 + (pc - 0) = pc by omega] at this
theorem sR293_0 : (List.range 17).all (fun q => sRowB 293 (0 + q)) = true := by decide +kernel
theorem sR293 : ∀ pc, pc < sLen 293 → sRowB 293 pc = true := by
  intro pc h
  have hl : sLen 293 = 17 := by decide +kernel
  rw [hl] at h
  have := List.all_eq_true.mp sR293_0 (pc - 0) (List.mem_range.mpr (by omega))
  rwa [show 0 + (pc - 0) = pc by omega] at this
theorem sR294_0 : (List.range 17).all (fun q => sRowB 294 (0 + q)) = true := by decide +kernel
theorem sR294 : ∀ pc, pc < sLen 294 → sRowB 294 pc = true := by
  intro pc h
  have hl : sLen 294 = 17 := by decide +kernel
  rw [hl] at h
  have := List.all_eq_true.mp sR294_0 (pc - 0) (List.mem_range.mpr (by omega))
  rwa [show 0 + (pc - 0) = pc by omega] at this
theorem sR295_0 : (List.range 17).all (fun q => sRowB 295 (0 + q)) = true := by decide +kernel
theorem sR295 : ∀ pc, pc < sLen 295 → sRowB 295 pc = true := by
  intro pc h
  have hl : sLen 295 = 17 := by decide +kernel
  rw [hl] at h
  have := List.all_eq_true.mp sR295_0 (pc - 0) (List.mem_range.mpr (by omega))
  rwa [show 0 + (pc - 0) = pc by omega] at this
theorem sR296_0 : (List.range 24).all (fun q => sRowB 296 (0 + q)) = true := by decide +kernel
theorem sR296 : ∀ pc, pc < sLen 296 → sRowB 296 pc = true := by
  intro pc h
  have hl : sLen 296 = 24 := by decide +kernel
  rw [hl] at h
  have := List.all_eq_true.mp sR296_0 (pc - 0) (List.mem_range.mpr (by omega))
  rwa [show 0 + (pc - 0) = pc by omega] at this
