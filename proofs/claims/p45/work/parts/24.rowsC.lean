theorem sR259_0 : (List.range 25).all (fun q => sRowB 259 (0 + q)) = true := by decide +kernel
theorem sR259 : ∀ pc, pc < sLen 259 → sRowB 259 pc = true := by
  intro pc h
  have hl : sLen 259 = 25 := by decide +kernel
  rw [hl] at h
  have := List.all_eq_true.mp sR259_0 (pc - 0) (List.mem_range.mpr (by omega))
  rwa [show 0 + (pc - 0) = pc by omega] at this
theorem sR260_0 : (List.range 10).all (fun q => sRowB 260 (0 + q)) = true := by decide +kernel
theorem sR260 : ∀ pc, pc < sLen 260 → sRowB 260 pc = true := by
  intro pc h
  have hl : sLen 260 = 10 := by decide +kernel
  rw [hl] at h
  have := List.all_eq_true.mp sR260_0 (pc - 0) (List.mem_range.mpr (by omega))
  rwa [show 0 + (pc - 0) = pc by omega] at this
theorem sR261_0 : (List.range 19).all (fun q => sRowB 261 (0 + q)) = true := by decide +kernel
theorem sR261 : ∀ pc, pc < sLen 261 → sRowB 261 pc = true := by
  intro pc h
  have hl : sLen 261 = 19 := by decide +kernel
  rw [hl] at h
  have := List.all_eq_true.mp sR261_0 (pc - 0) (List.mem_range.mpr (by omega))
  rwa [show 0 + (pc - 0) = pc by omega] at this
theorem sR262_0 : (List.range 17).all (fun q => sRowB 262 (0 + q)) = true := by decide +kernel
theorem sR262 : ∀ pc, pc < sLen 262 → sRowB 262 pc = true := by
  intro pc h
  have hl : sLen 262 = 17 := by decide +kernel
  rw [hl] at h
  have := List.all_eq_true.mp sR262_0 (pc - 0) (List.mem_range.mpr (by omega))
  rwa [show 0 + (pc - 0) = pc by omega] at this
theorem sR263_0 : (List.range 19).all (fun q => sRowB 263 (0 + q)) = true := by decide +kernel
theorem sR263 : ∀ pc, pc < sLen 263 → sRowB 263 pc = true := by
  intro pc h
  have hl : sLen 263 = 19 := by decide +kernel
  rw [hl] at h
  have := List.all_eq_true.mp sR263_0 (pc - 0) (List.mem_range.mpr (by omega))
  rwa [show 0 + (pc - 0) = pc by omega] at this
theorem sR264_0 : (List.range 17).all (fun q => sRowB 264 (0 + q)) = true := by decide +kernel
theorem sR264 : ∀ pc, pc < sLen 264 → sRowB 264 pc = true := by
  intro pc h
  have hl : sLen 264 = 17 := by decide +kernel
  rw [hl] at h
  have := List.all_eq_true.mp sR264_0 (pc - 0) (List.mem_range.mpr (by omega))
  rwa [show 0 + (pc - 0) = pc by omega] at this
theorem sR265_0 : (List.range 10).all (fun q => sRowB 265 (0 + q)) = true := by decide +kernel
theorem sR265 : ∀ pc, pc < sLen 265 → sRowB 265 pc = true := by
  intro pc h
  have hl : sLen 265 = 10 := by decide +kernel
  rw [hl] at h
  have := List.all_eq_true.mp sR265_0 (pc - 0) (List.mem_range.mpr (by omega))
  rwa [show 0 + (pc - 0) = pc by omega] at this
theorem sR266_0 : (List.range 10).all (fun q => sRowB 266 (0 + q)) = true := by decide +kernel
theorem sR266 : ∀ pc, pc < sLen 266 → sRowB 266 pc = true := by
  intro pc h
  have hl : sLen 266 = 10 := by decide +kernel
  rw [hl] at h
  have := List.all_eq_true.mp sR266_0 (pc - 0) (List.mem_range.mpr (by omega))
  rwa [show 0 + (pc - 0) = pc by omega] at this
theorem sR267_0 : (List.range 10).all (fun q => sRowB 267 (0 + q)) = true := by decide +kernel
theorem sR267 : ∀ pc, pc < sLen 267 → sRowB 267 pc = true := by
  intro pc h
  have hl : sLen 267 = 10 := by decide +kernel
  rw [hl] at h
  have := List.all_eq_true.mp sR267_0 (pc - 0) (List.mem_range.mpr (by omega))
  rwa [show 0 + (pc - 0) = pc by omega] at this
theorem sR268_0 : (List.range 11).all (fun q => sRowB 268 (0 + q)) = true := by decide +kernel
theorem sR268 : ∀ pc, pc < sLen 268 → sRowB 268 pc = true := by
  intro pc h
  have hl : sLen 268 = 11 := by decide +kernel
  rw [hl] at h
  have := List.all_eq_true.mp sR268_0 (pc - 0) (List.mem_range.mpr (by omega))
  rwa [show 0 + (pc - 0) = pc by omega] at this
theorem sR269_0 : (List.range 11).all (fun q => sRowB 269 (0 + q)) = true := by decide +kernel
theorem sR269 : ∀ pc, pc < sLen 269 → sRowB 269 pc = true := by
  intro pc h
  have hl : sLen 269 = 11 := by decide +kernel
  rw [hl] at h
  have := List.all_eq_true.mp sR269_0 (pc - 0) (List.mem_range.mpr (by omega))
  rwa [show 0 + (pc - 0) = pc by omega] at this
theorem sR270_0 : (List.range 40).all (fun q => sRowB 270 (0 + q)) = true := by decide +kernel
theorem sR270_1 : (List.range 36).all (fun q => sRowB 270 (40 + q)) = true := by decide +kernel
theorem sR270 : ∀ pc, pc < sLen 270 → sRowB 270 pc = true := by
  intro pc h
  have hl : sLen 270 = 76 := by decide +kernel
  rw [hl] at h
  by_cases h0 : pc < 40
  · have := List.all_eq_true.mp sR270_0 (pc - 0) (List.mem_range.mpr (by omega))
    rwa [show 0 + (pc - 0) = pc by omega] at this
  have := List.all_eq_true.mp sR270_1 (pc - 40) (List.mem_range.mpr (by omega))
  rwa [show 40 + (pc - 40) = pc by omega] at this
theorem sR271_0 : (List.range 22).all (fun q => sRowB 271 (0 + q)) = true := by decide +kernel
theorem sR271 : ∀ pc, pc < sLen 271 → sRowB 271 pc = true := by
  intro pc h
  have hl : sLen 271 = 22 := by decide +kernel
  rw [hl] at h
  have := List.all_eq_true.mp sR271_0 (pc - 0) (List.mem_range.mpr (by omega))
  rwa [show 0 + (pc - 0) = pc by omega] at this
theorem sR272_0 : (List.range 40).all (fun q => sRowB 272 (0 + q)) = true := by decide +kernel
theorem sR272_1 : (List.range 40).all (fun q => sRowB 272 (40 + q)) = true := by decide +kernel
theorem sR272_2 : (List.range 40).all (fun q => sRowB 272 (80 + q)) = true := by decide +kernel
theorem sR272_3 : (List.range 40).all (fun q => sRowB 272 (120 + q)) = true := by decide +kernel
theorem sR272_4 : (List.range 40).all (fun q => sRowB 272 (160 + q)) = true := by decide +kernel
theorem sR272_5 : (List.range 40).all (fun q => sRowB 272 (200 + q)) = true := by decide +kernel
theorem sR272_6 : (List.range 40).all (fun q => sRowB 272 (240 + q)) = true := by decide +kernel
theorem sR272_7 : (List.range 40).all (fun q => sRowB 272 (280 + q)) = true := by decide +kernel
theorem sR272_8 : (List.range 40).all (fun q => sRowB 272 (320 + q)) = true := by decide +kernel
theorem sR272_9 : (List.range 40).all (fun q => sRowB 272 (360 + q)) = true := by decide +kernel
theorem sR272_10 : (List.range 40).all (fun q => sRowB 272 (400 + q)) = true := by decide +kernel
theorem sR272_11 : (List.range 40).all (fun q => sRowB 272 (440 + q)) = true := by decide +kernel
theorem sR272_12 : (List.range 40).all (fun q => sRowB 272 (480 + q)) = true := by decide +kernel
theorem sR272_13 : (List.range 40).all (fun q => sRowB 272 (520 + q)) = true := by decide +kernel
theorem sR272_14 : (List.range 40).all (fun q => sRowB 272 (560 + q)) = true := by decide +kernel
theorem sR272_15 : (List.range 40).all (fun q => sRowB 272 (600 + q)) = true := by decide +kernel
theorem sR272_16 : (List.range 40).all (fun q => sRowB 272 (640 + q)) = true := by decide +kernel
theorem sR272_17 : (List.range 40).all (fun q => sRowB 272 (680 + q)) = true := by decide +kernel
theorem sR272_18 : (List.range 40).all (fun q => sRowB 272 (720 + q)) = true := by decide +kernel
theorem sR272_19 : (List.range 40).all (fun q => sRowB 272 (760 + q)) = true := by decide +kernel
theorem sR272_20 : (List.range 40).all (fun q => sRowB 272 (800 + q)) = true := by decide +kernel
theorem sR272_21 : (List.range 40).all (fun q => sRowB 272 (840 + q)) = true := by decide +kernel
theorem sR272_22 : (List.range 40).all (fun q => sRowB 272 (880 + q)) = true := by decide +kernel
theorem sR272_23 : (List.range 40).all (fun q => sRowB 272 (920 + q)) = true := by decide +kernel
theorem sR272_24 : (List.range 40).all (fun q => sRowB 272 (960 + q)) = true := by decide +kernel
theorem sR272_25 : (List.range 40).all (fun q => sRowB 272 (1000 + q)) = true := by decide +kernel
theorem sR272_26 : (List.range 40).all (fun q => sRowB 272 (1040 + q)) = true := by decide +kernel
theorem sR272_27 : (List.range 40).all (fun q => sRowB 272 (1080 + q)) = true := by decide +kernel
theorem sR272_28 : (List.range 40).all (fun q => sRowB 272 (1120 + q)) = true := by decide +kernel
theorem sR272_29 : (List.range 20).all (fun q => sRowB 272 (1160 + q)) = true := by decide +kernel
theorem sR272 : ∀ pc, pc < sLen 272 → sRowB 272 pc = true := by
  intro pc h
  have hl : sLen 272 = 1180 := by decide +kernel
  rw [hl] at h
  by_cases h0 : pc < 40
  · have := List.all_eq_true.mp sR272_0 (pc - 0) (List.mem_range.mpr (by omega))
    rwa [show 0 + (pc - 0) = pc by omega] at this
  by_cases h1 : pc < 80
  · have := List.all_eq_true.mp sR272_1 (pc - 40) (List.mem_range.mpr (by omega))
    rwa [show 40 + (pc - 40) = pc by omega] at this
  by_cases h2 : pc < 120
  · have := List.all_eq_true.mp sR272_2 (pc - 80) (List.mem_range.mpr (by omega))
    rwa [show 80 + (pc - 80) = pc by omega] at this
  by_cases h3 : pc < 160
  · have := List.all_eq_true.mp sR272_3 (pc - 120) (List.mem_range.mpr (by omega))
    rwa [show 120 + (pc - 120) = pc by omega] at this
  by_cases h4 : pc < 200
  · have := List.all_eq_true.mp sR272_4 (pc - 160) (List.mem_range.mpr (by omega))
    rwa [show 160 + (pc - 160) = pc by omega] at this
  by_cases h5 : pc < 240
  · have := List.all_eq_true.mp sR272_5 (pc - 200) (List.mem_range.mpr (by omega))
    rwa [show 200 + (pc - 200) = pc by omega] at this
  by_cases h6 : pc < 280
  · have := List.all_eq_true.mp sR272_6 (pc - 240) (List.mem_range.mpr (by omega))
    rwa [show 240 + (pc - 240) = pc by omega] at this
  by_cases h7 : pc < 320
  · have := List.all_eq_true.mp sR272_7 (pc - 280) (List.mem_range.mpr (by omega))
    rwa [show 280 + (pc - 280) = pc by omega] at this
  by_cases h8 : pc < 360
  · have := List.all_eq_true.mp sR272_8 (pc - 320) (List.mem_range.mpr (by omega))
    rwa [show 320 + (pc - 320) = pc by omega] at this
  by_cases h9 : pc < 400
  · have := List.all_eq_true.mp sR272_9 (pc - 360) (List.mem_range.mpr (by omega))
    rwa [show 360 + (pc - 360) = pc by omega] at this
  by_cases h10 : pc < 440
  · have := List.all_eq_true.mp sR272_10 (pc - 400) (List.mem_range.mpr (by omega))
    rwa [show 400 + (pc - 400) = pc by omega] at this
  by_cases h11 : pc < 480
  · have := List.all_eq_true.mp sR272_11 (pc - 440) (List.mem_range.mpr (by omega))
    rwa [show 440 + (pc - 440) = pc by omega] at this
  by_cases h12 : pc < 520
  · have := List.all_eq_true.mp sR272_12 (pc - 480) (List.mem_range.mpr (by omega))
    rwa [show 480 + (pc - 480) = pc by omega] at this
  by_cases h13 : pc < 560
  · have := List.all_eq_true.mp sR272_13 (pc - 520) (List.mem_range.mpr (by omega))
    rwa [show 520 + (pc - 520) = pc by omega] at this
  by_cases h14 : pc < 600
  · have := List.all_eq_true.mp sR272_14 (pc - 560) (List.mem_range.mpr (by omega))
    rwa [show 560 + (pc - 560) = pc by omega] at this
  by_cases h15 : pc < 640
  · have := List.all_eq_true.mp sR272_15 (pc - 600) (List.mem_range.mpr (by omega))
    rwa [show 600 + (pc - 600) = pc by omega] at this
  by_cases h16 : pc < 680
  · have := List.all_eq_true.mp sR272_16 (pc - 640) (List.mem_range.mpr (by omega))
    rwa [show 640 + (pc - 640) = pc by omega] at this
  by_cases h17 : pc < 720
  · have := List.all_eq_true.mp sR272_17 (pc - 680) (List.mem_range.mpr (by omega))
    rwa [show 680 + (pc - 680) = pc by omega] at this
  by_cases h18 : pc < 760
  · have := List.all_eq_true.mp sR272_18 (pc - 720) (List.mem_range.mpr (by omega))
    rwa [show 720 + (pc - 720) = pc by omega] at this
  by_cases h19 : pc < 800
  · have := List.all_eq_true.mp sR272_19 (pc - 760) (List.mem_range.mpr (by omega))
    rwa [show 760 + (pc - 760) = pc by omega] at this
  by_cases h20 : pc < 840
  · have := List.all_eq_true.mp sR272_20 (pc - 800) (List.mem_range.mpr (by omega))
    rwa [show 800 + (pc - 800) = pc by omega] at this
  by_cases h21 : pc < 880
  · have := List.all_eq_true.mp sR272_21 (pc - 840) (List.mem_range.mpr (by omega))
    rwa [show 840 + (pc - 840) = pc by omega] at this
  by_cases h22 : pc < 920
  · have := List.all_eq_true.mp sR272_22 (pc - 880) (List.mem_range.mpr (by omega))
    rwa [show 880 + (pc - 880) = pc by omega] at this
  by_cases h23 : pc < 960
  · have := List.all_eq_true.mp sR272_23 (pc - 920) (List.mem_range.mpr (by omega))
    rwa [show 920 + (pc - 920) = pc by omega] at this
  by_cases h24 : pc < 1000
  · have := List.all_eq_true.mp sR272_24 (pc - 960) (List.mem_range.mpr (by omega))
    rwa [show 960 + (pc - 960) = pc by omega] at this
  by_cases h25 : pc < 1040
  · have := List.all_eq_true.mp sR272_25 (pc - 1000) (List.mem_range.mpr (by omega))
    rwa [show 1000 + (pc - 1000) = pc by omega] at this
  by_cases h26 : pc < 1080
  · have := List.all_eq_true.mp sR272_26 (pc - 1040) (List.mem_range.mpr (by omega))
    rwa [show 1040 + (pc - 1040) = pc by omega] at this
  by_cases h27 : pc < 1120
  · have := List.all_eq_true.mp sR272_27 (pc - 1080) (List.mem_range.mpr (by omega))
    rwa [show 1080 + (pc - 1080) = pc by omega] at this
  by_cases h28 : pc < 1160
  · have := List.all_eq_true.mp sR272_28 (pc - 1120) (List.mem_range.mpr (by omega))
    rwa [show 1120 + (pc - 1120) = pc by omega] at this
  have := List.all_eq_true.mp sR272_29 (pc - 1160) (List.mem_range.mpr (by omega))
  rwa [show 1160 + (pc - 1160) = pc by omega] at this
theorem sR273_0 : (List.range 10).all (fun q => sRowB 273 (0 + q)) = true := by decide +kernel
theorem sR273 : ∀ pc, pc < sLen 273 → sRowB 273 pc = true := by
  intro pc h
  have hl : sLen 273 = 10 := by decide +kernel
  rw [hl] at h
  have := List.all_eq_true.mp sR273_0 (pc - 0) (List.mem_range.mpr (by omega))
  rwa [show 0 + (pc - 0) = pc by omega] at this
theorem sR274_0 : (List.range 40).all (fun q => sRowB 274 (0 + q)) = true := by decide +kernel
theorem sR274_1 : (List.range 40).all (fun q => sRowB 274 (40 + q)) = true := by decide +kernel
theorem sR274_2 : (List.range 40).all (fun q => sRowB 274 (80 + q)) = true := by decide +kernel
theorem sR274_3 : (List.range 40).all (fun q => sRowB 274 (120 + q)) = true := by decide +kernel
theorem sR274_4 : (List.range 40).all (fun q => sRowB 274 (160 + q)) = true := by decide +kernel
theorem sR274_5 : (List.range 1).all (fun q => sRowB 274 (200 + q)) = true := by decide +kernel
theorem sR274 : ∀ pc, pc < sLen 274 → sRowB 274 pc = true := by
  intro pc h
  have hl : sLen 274 = 201 := by decide +kernel
  rw [hl] at h
  by_cases h0 : pc < 40
  · have := List.all_eq_true.mp sR274_0 (pc - 0) (List.mem_range.mpr (by omega))
    rwa [show 0 + (pc - 0) = pc by omega] at this
  by_cases h1 : pc < 80
  · have := List.all_eq_true.mp sR274_1 (pc - 40) (List.mem_range.mpr (by omega))
    rwa [show 40 + (pc - 40) = pc by omega] at this
  by_cases h2 : pc < 120
  · have := List.all_eq_true.mp sR274_2 (pc - 80) (List.mem_range.mpr (by omega))
    rwa [show 80 + (pc - 80) = pc by omega] at this
  by_cases h3 : pc < 160
  · have := List.all_eq_true.mp sR274_3 (pc - 120) (List.mem_range.mpr (by omega))
    rwa [show 120 + (pc - 120) = pc by omega] at this
  by_cases h4 : pc < 200
  · have := List.all_eq_true.mp sR274_4 (pc - 160) (List.mem_range.mpr (by omega))
    rwa [show 160 + (pc - 160) = pc by omega] at this
  have := List.all_eq_true.mp sR274_5 (pc - 200) (List.mem_range.mpr (by omega))
  rwa [show 200 + (pc - 200) = pc by omega] at this
theorem sR275_0 : (List.range 40).all (fun q => sRowB 275 (0 + q)) = true := by decide +kernel
theorem sR275_1 : (List.range 40).all (fun q => sRowB 275 (40 + q)) = true := by decide +kernel
theorem sR275_2 : (List.range 40).all (fun q => sRowB 275 (80 + q)) = true := by decide +kernel
theorem sR275_3 : (List.range 40).all (fun q => sRowB 275 (120 + q)) = true := by decide +kernel
theorem sR275_4 : (List.range 40).all (fun q => sRowB 275 (160 + q)) = true := by decide +kernel
theorem sR275_5 : (List.range 40).all (fun q => sRowB 275 (200 + q)) = true := by decide +kernel
theorem sR275_6 : (List.range 40).all (fun q => sRowB 275 (240 + q)) = true := by decide +kernel
theorem sR275_7 : (List.range 40).all (fun q => sRowB 275 (280 + q)) = true := by decide +kernel
theorem sR275_8 : (List.range 40).all (fun q => sRowB 275 (320 + q)) = true := by decide +kernel
theorem sR275_9 : (List.range 40).all (fun q => sRowB 275 (360 + q)) = true := by decide +kernel
theorem sR275_10 : (List.range 40).all (fun q => sRowB 275 (400 + q)) = true := by decide +kernel
theorem sR275_11 : (List.range 40).all (fun q => sRowB 275 (440 + q)) = true := by decide +kernel
theorem sR275_12 : (List.range 25).all (fun q => sRowB 275 (480 + q)) = true := by decide +kernel
theorem sR275 : ∀ pc, pc < sLen 275 → sRowB 275 pc = true := by
  intro pc h
  have hl : sLen 275 = 505 := by decide +kernel
  rw [hl] at h
  by_cases h0 : pc < 40
  · have := List.all_eq_true.mp sR275_0 (pc - 0) (List.mem_range.mpr (by omega))
    rwa [show 0 + (pc - 0) = pc by omega] at this
  by_cases h1 : pc < 80
  · have := List.all_eq_true.mp sR275_1 (pc - 40) (List.mem_range.mpr (by omega))
    rwa [show 40 + (pc - 40) = pc by omega] at this
  by_cases h2 : pc < 120
  · have := List.all_eq_true.mp sR275_2 (pc - 80) (List.mem_range.mpr (by omega))
    rwa [show 80 + (pc - 80) = pc by omega] at this
  by_cases h3 : pc < 160
  · have := List.all_eq_true.mp sR275_3 (pc - 120) (List.mem_range.mpr (by omega))
    rwa [show 120 + (pc - 120) = pc by omega] at this
  by_cases h4 : pc < 200
  · have := List.all_eq_true.mp sR275_4 (pc - 160) (List.mem_range.mpr (by omega))
    rwa [show 160 + (pc - 160) = pc by omega] at this
  by_cases h5 : pc < 240
  · have := List.all_eq_true.mp sR275_5 (pc - 200) (List.mem_range.mpr (by omega))
    rwa [show 200 + (pc - 200) = pc by omega] at this
  by_cases h6 : pc < 280
  · have := List.all_eq_true.mp sR275_6 (pc - 240) (List.mem_range.mpr (by omega))
    rwa [show 240 + (pc - 240) = pc by omega] at this
  by_cases h7 : pc < 320
  · have := List.all_eq_true.mp sR275_7 (pc - 280) (List.mem_range.mpr (by omega))
    rwa [show 280 + (pc - 280) = pc by omega] at this
  by_cases h8 : pc < 360
  · have := List.all_eq_true.mp sR275_8 (pc - 320) (List.mem_range.mpr (by omega))
    rwa [show 320 + (pc - 320) = pc by omega] at this
  by_cases h9 : pc < 400
  · have := List.all_eq_true.mp sR275_9 (pc - 360) (List.mem_range.mpr (by omega))
    rwa [show 360 + (pc - 360) = pc by omega] at this
  by_cases h10 : pc < 440
  · have := List.all_eq_true.mp sR275_10 (pc - 400) (List.mem_range.mpr (by omega))
    rwa [show 400 + (pc - 400) = pc by omega] at this
  by_cases h11 : pc < 480
  · have := List.all_eq_true.mp sR275_11 (pc - 440) (List.mem_range.mpr (by omega))
    rwa [show 440 + (pc - 440) = pc by omega] at this
  have := List.all_eq_true.mp sR275_12 (pc - 480) (List.mem_range.mpr (by omega))
  rwa [show 480 + (pc - 480) = pc by omega] at this
theorem sR276_0 : (List.range 40).all (fun q => sRowB 276 (0 + q)) = true := by decide +kernel
theorem sR276_1 : (List.range 40).all (fun q => sRowB 276 (40 + q)) = true := by decide +kernel
theorem sR276_2 : (List.range 40).all (fun q => sRowB 276 (80 + q)) = true := by decide +kernel
theorem sR276_3 : (List.range 33).all (fun q => sRowB 276 (120 + q)) = true := by decide +kernel
theorem sR276 : ∀ pc, pc < sLen 276 → sRowB 276 pc = true := by
  intro pc h
  have hl : sLen 276 = 153 := by decide +kernel
  rw [hl] at h
  by_cases h0 : pc < 40
  · have := List.all_eq_true.mp sR276_0 (pc - 0) (List.mem_range.mpr (by omega))
    rwa [show 0 + (pc - 0) = pc by omega] at this
  by_cases h1 : pc < 80
  · have := List.all_eq_true.mp sR276_1 (pc - 40) (List.mem_range.mpr (by omega))
    rwa [show 40 + (pc - 40) = pc by omega] at this
  by_cases h2 : pc < 120
  · have := List.all_eq_true.mp sR276_2 (pc - 80) (List.mem_range.mpr (by omega))
    rwa [show 80 + (pc - 80) = pc by omega] at this
  have := List.all_eq_true.mp sR276_3 (pc - 120) (List.mem_range.mpr (by omega))
  rwa [show 120 + (pc - 120) = pc by omega] at this
theorem sR277_0 : (List.range 40).all (fun q => sRowB 277 (0 + q)) = true := by decide +kernel
theorem sR277_1 : (List.range 40).all (fun q => sRowB 277 (40 + q)) = true := by decide +kernel
theorem sR277_2 : (List.range 37).all (fun q => sRowB 277 (80 + q)) = true := by decide +kernel
theorem sR277 : ∀ pc, pc < sLen 277 → sRowB 277 pc = true := by
  intro pc h
  have hl : sLen 277 = 117 := by decide +kernel
  rw [hl] at h
  by_cases h0 : pc < 40
  · have := List.all_eq_true.mp sR277_0 (pc - 0) (List.mem_range.mpr (by omega))
    rwa [show 0 + (pc - 0) = pc by omega] at this
  by_cases h1 : pc < 80
  · have := List.all_eq_true.mp sR277_1 (pc - 40) (List.mem_range.mpr (by omega))
    rwa [show 40 + (pc - 40) = pc by omega] at this
  have := List.all_eq_true.mp sR277_2 (pc - 80) (List.mem_range.mpr (by omega))
  rwa [show 80 + (pc - 80) = pc by omega] at this
theorem sR278 : ∀ pc, pc < sLen 278 → sRowB 278 pc = true := by
  intro pc h
  have hl : sLen 278 = 0 := by decide +kernel
  rw [hl] at h
  exact absurd h (Nat.not_lt_zero _)
theorem sR279 : ∀ pc, pc < sLen 279 → sRowB 279 pc = true := by
  intro pc h
  have hl : sLen 279 = 0 := by decide +kernel
  rw [hl] at h
  exact absurd h (Nat.not_lt_zero _)
theorem sR280 : ∀ pc, pc < sLen 280 → sRowB 280 pc = true := by
  intro pc h
  have hl : sLen 280 = 0 := by decide +kernel
  rw [hl] at h
  exact absurd h (Nat.not_lt_zero _)
theorem sR281 : ∀ pc, pc < sLen 281 → sRowB 281 pc = true := by
  intro pc h
  have hl : sLen 281 = 0 := by decide +kernel
  rw [hl] at h
  exact absurd h (Nat.not_lt_zero _)
theorem sR282 : ∀ pc, pc < sLen 282 → sRowB 282 pc = true := by
  intro pc h
  have hl : sLen 282 = 0 := by decide +kernel
  rw [hl] at h
  exact absurd h (Nat.not_lt_zero _)
theorem sR283 : ∀ pc, pc < sLen 283 → sRowB 283 pc = true := by
  intro pc h
  have hl : sLen 283 = 0 := by decide +kernel
  rw [hl] at h
  exact absurd h (Nat.not_lt_zero _)
theorem sR284 : ∀ pc, pc < sLen 284 → sRowB 284 pc = true := by
  intro pc h
  have hl : sLen 284 = 0 := by decide +kernel
  rw [hl] at h
  exact absurd h (Nat.not_lt_zero _)
theorem sR285 : ∀ pc, pc < sLen 285 → sRowB 285 pc = true := by
  intro pc h
  have hl : sLen 285 = 0 := by decide +kernel
  rw [hl] at h
  exact absurd h (Nat.not_lt_zero _)
theorem sR286 : ∀ pc, pc < sLen 286 → sRowB 286 pc = true := by
  intro pc h
  have hl : sLen 286 = 0 := by decide +kernel
  rw [hl] at h
  exact absurd h (Nat.not_lt_zero _)
theorem sR287 : ∀ pc, pc < sLen 287 → sRowB 287 pc = true := by
  intro pc h
  have hl : sLen 287 = 0 := by decide +kernel
  rw [hl] at h
  exact absurd h (Nat.not_lt_zero _)
theorem sR288 : ∀ pc, pc < sLen 288 → sRowB 288 pc = true := by
  intro pc h
  have hl : sLen 288 = 0 := by decide +kernel
  rw [hl] at h
  exact absurd h (Nat.not_lt_zero _)
theorem sR289 : ∀ pc, pc < sLen 289 → sRowB 289 pc = true := by
  intro pc h
  have hl : sLen 289 = 0 := by decide +kernel
  rw [hl] at h
  exact absurd h (Nat.not_lt_zero _)
theorem sR290 : ∀ pc, pc < sLen 290 → sRowB 290 pc = true := by
  intro pc h
  have hl : sLen 290 = 0 := by decide +kernel
  rw [hl] at h
  exact absurd h (Nat.not_lt_zero _)
theorem sR291 : ∀ pc, pc < sLen 291 → sRowB 291 pc = true := by
  intro pc h
  have hl : sLen 291 = 0 := by decide +kernel
  rw [hl] at h
  exact absurd h (Nat.not_lt_zero _)
theorem sR292 : ∀ pc, pc < sLen 292 → sRowB 292 pc = true := by
  intro pc h
  have hl : sLen 292 = 0 := by decide +kernel
  rw [hl] at h
  exact absurd h (Nat.not_lt_zero _)
theorem sR293 : ∀ pc, pc < sLen 293 → sRowB 293 pc = true := by
  intro pc h
  have hl : sLen 293 = 0 := by decide +kernel
  rw [hl] at h
  exact absurd h (Nat.not_lt_zero _)
theorem sR294 : ∀ pc, pc < sLen 294 → sRowB 294 pc = true := by
  intro pc h
  have hl : sLen 294 = 0 := by decide +kernel
  rw [hl] at h
  exact absurd h (Nat.not_lt_zero _)
theorem sR295 : ∀ pc, pc < sLen 295 → sRowB 295 pc = true := by
  intro pc h
  have hl : sLen 295 = 0 := by decide +kernel
  rw [hl] at h
  exact absurd h (Nat.not_lt_zero _)
theorem sR296 : ∀ pc, pc < sLen 296 → sRowB 296 pc = true := by
  intro pc h
  have hl : sLen 296 = 0 := by decide +kernel
  rw [hl] at h
  exact absurd h (Nat.not_lt_zero _)
