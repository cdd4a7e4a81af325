theorem sR297_0 : (List.range 40).all (fun q => sRowB 297 (0 + q)) = true := by decide +kernel
theorem sR297_1 : (List.range 40).all (fun q => sRowB 297 (40 + q)) = true := by decide +kernel
theorem sR297_2 : (List.range 40).all (fun q => sRowB 297 (80 + q)) = true := by decide +kernel
theorem sR297_3 : (List.range 40).all (fun q => sRowB 297 (120 + q)) = true := by decide +kernel
theorem sR297_4 : (List.range 40).all (fun q => sRowB 297 (160 + q)) = true := by decide +kernel
theorem sR297_5 : (List.range 40).all (fun q => sRowB 297 (200 + q)) = true := by decide +kernel
theorem sR297_6 : (List.range 40).all (fun q => sRowB 297 (240 + q)) = true := by decide +kernel
theorem sR297_7 : (List.range 40).all (fun q => sRowB 297 (280 + q)) = true := by decide +kernel
theorem sR297_8 : (List.range 40).all (fun q => sRowB 297 (320 + q)) = true := by decide +kernel
theorem sR297_9 : (List.range 40).all (fun q => sRowB 297 (360 + q)) = true := by decide +kernel
theorem sR297_10 : (List.range 40).all (fun q => sRowB 297 (400 + q)) = true := by decide +kernel
theorem sR297_11 : (List.range 40).all (fun q => sRowB 297 (440 + q)) = true := by decide +kernel
theorem sR297_12 : (List.range 40).all (fun q => sRowB 297 (480 + q)) = true := by decide +kernel
theorem sR297_13 : (List.range 40).all (fun q => sRowB 297 (520 + q)) = true := by decide +kernel
theorem sR297_14 : (List.range 40).all (fun q => sRowB 297 (560 + q)) = true := by decide +kernel
theorem sR297_15 : (List.range 40).all (fun q => sRowB 297 (600 + q)) = true := by decide +kernel
theorem sR297_16 : (List.range 40).all (fun q => sRowB 297 (640 + q)) = true := by decide +kernel
theorem sR297_17 : (List.range 40).all (fun q => sRowB 297 (680 + q)) = true := by decide +kernel
theorem sR297_18 : (List.range 40).all (fun q => sRowB 297 (720 + q)) = true := by decide +kernel
theorem sR297_19 : (List.range 40).all (fun q => sRowB 297 (760 + q)) = true := by decide +kernel
theorem sR297_20 : (List.range 40).all (fun q => sRowB 297 (800 + q)) = true := by decide +kernel
theorem sR297_21 : (List.range 40).all (fun q => sRowB 297 (840 + q)) = true := by decide +kernel
theorem sR297_22 : (List.range 40).all (fun q => sRowB 297 (880 + q)) = true := by decide +kernel
theorem sR297_23 : (List.range 40).all (fun q => sRowB 297 (920 + q)) = true := by decide +kernel
theorem sR297_24 : (List.range 40).all (fun q => sRowB 297 (960 + q)) = true := by decide +kernel
theorem sR297_25 : (List.range 40).all (fun q => sRowB 297 (1000 + q)) = true := by decide +kernel
theorem sR297_26 : (List.range 40).all (fun q => sRowB 297 (1040 + q)) = true := by decide +kernel
theorem sR297_27 : (List.range 40).all (fun q => sRowB 297 (1080 + q)) = true := by decide +kernel
theorem sR297_28 : (List.range 40).all (fun q => sRowB 297 (1120 + q)) = true := by decide +kernel
theorem sR297_29 : (List.range 40).all (fun q => sRowB 297 (1160 + q)) = true := by decide +kernel
theorem sR297_30 : (List.range 40).all (fun q => sRowB 297 (1200 + q)) = true := by decide +kernel
theorem sR297_31 : (List.range 40).all (fun q => sRowB 297 (1240 + q)) = true := by decide +kernel
theorem sR297_32 : (List.range 40).all (fun q => sRowB 297 (1280 + q)) = true := by decide +kernel
theorem sR297_33 : (List.range 40).all (fun q => sRowB 297 (1320 + q)) = true := by decide +kernel
theorem sR297_34 : (List.range 40).all (fun q => sRowB 297 (1360 + q)) = true := by decide +kernel
theorem sR297_35 : (List.range 40).all (fun q => sRowB 297 (1400 + q)) = true := by decide +kernel
theorem sR297_36 : (List.range 40).all (fun q => sRowB 297 (1440 + q)) = true := by decide +kernel
theorem sR297_37 : (List.range 40).all (fun q => sRowB 297 (1480 + q)) = true := by decide +kernel
theorem sR297_38 : (List.range 40).all (fun q => sRowB 297 (1520 + q)) = true := by decide +kernel
theorem sR297_39 : (List.range 40).all (fun q => sRowB 297 (1560 + q)) = true := by decide +kernel
theorem sR297_40 : (List.range 40).all (fun q => sRowB 297 (1600 + q)) = true := by decide +kernel
theorem sR297_41 : (List.range 40).all (fun q => sRowB 297 (1640 + q)) = true := by decide +kernel
theorem sR297_42 : (List.range 40).all (fun q => sRowB 297 (1680 + q)) = true := by decide +kernel
theorem sR297_43 : (List.range 40).all (fun q => sRowB 297 (1720 + q)) = true := by decide +kernel
theorem sR297_44 : (List.range 40).all (fun q => sRowB 297 (1760 + q)) = true := by decide +kernel
theorem sR297_45 : (List.range 40).all (fun q => sRowB 297 (1800 + q)) = true := by decide +kernel
theorem sR297_46 : (List.range 40).all (fun q => sRowB 297 (1840 + q)) = true := by decide +kernel
theorem sR297_47 : (List.range 40).all (fun q => sRowB 297 (1880 + q)) = true := by decide +kernel
theorem sR297_48 : (List.range 40).all (fun q => sRowB 297 (1920 + q)) = true := by decide +kernel
theorem sR297_49 : (List.range 40).all (fun q => sRowB 297 (1960 + q)) = true := by decide +kernel
theorem sR297_50 : (List.range 40).all (fun q => sRowB 297 (2000 + q)) = true := by decide +kernel
theorem sR297_51 : (List.range 40).all (fun q => sRowB 297 (2040 + q)) = true := by decide +kernel
theorem sR297_52 : (List.range 40).all (fun q => sRowB 297 (2080 + q)) = true := by decide +kernel
theorem sR297_53 : (List.range 40).all (fun q => sRowB 297 (2120 + q)) = true := by decide +kernel
theorem sR297_54 : (List.range 40).all (fun q => sRowB 297 (2160 + q)) = true := by decide +kernel
theorem sR297_55 : (List.range 40).all (fun q => sRowB 297 (2200 + q)) = true := by decide +kernel
theorem sR297_56 : (List.range 40).all (fun q => sRowB 297 (2240 + q)) = true := by decide +kernel
theorem sR297_57 : (List.range 40).all (fun q => sRowB 297 (2280 + q)) = true := by decide +kernel
theorem sR297_58 : (List.range 40).all (fun q => sRowB 297 (2320 + q)) = true := by decide +kernel
theorem sR297_59 : (List.range 40).all (fun q => sRowB 297 (2360 + q)) = true := by decide +kernel
theorem sR297_60 : (List.range 40).all (fun q => sRowB 297 (2400 + q)) = true := by decide +kernel
theorem sR297_61 : (List.range 40).all (fun q => sRowB 297 (2440 + q)) = true := by decide +kernel
theorem sR297_62 : (List.range 40).all (fun q => sRowB 297 (2480 + q)) = true := by decide +kernel
theorem sR297_63 : (List.range 40).all (fun q => sRowB 297 (2520 + q)) = true := by decide +kernel
theorem sR297_64 : (List.range 40).all (fun q => sRowB 297 (2560 + q)) = true := by decide +kernel
theorem sR297_65 : (List.range 40).all (fun q => sRowB 297 (2600 + q)) = true := by decide +kernel
theorem sR297_66 : (List.range 40).all (fun q => sRowB 297 (2640 + q)) = true := by decide +kernel
theorem sR297_67 : (List.range 40).all (fun q => sRowB 297 (2680 + q)) = true := by decide +kernel
theorem sR297_68 : (List.range 40).all (fun q => sRowB 297 (2720 + q)) = true := by decide +kernel
theorem sR297_69 : (List.range 40).all (fun q => sRowB 297 (2760 + q)) = true := by decide +kernel
theorem sR297_70 : (List.range 40).all (fun q => sRowB 297 (2800 + q)) = true := by decide +kernel
theorem sR297_71 : (List.range 40).all (fun q => sRowB 297 (2840 + q)) = true := by decide +kernel
theorem sR297_72 : (List.range 40).all (fun q => sRowB 297 (2880 + q)) = true := by decide +kernel
theorem sR297_73 : (List.range 26).all (fun q => sRowB 297 (2920 + q)) = true := by decide +kernel
theorem sR297 : ∀ pc, pc < sLen 297 → sRowB 297 pc = true := by
  intro pc h
  have hl : sLen 297 = 2946 := by decide +kernel
  rw [hl] at h
  by_cases h0 : pc < 40
  · have := List.all_eq_true.mp sR297_0 (pc - 0) (List.mem_range.mpr (by omega))
    rwa [show 0 + (pc - 0) = pc by omega] at this
  by_cases h1 : pc < 80
  · have := List.all_eq_true.mp sR297_1 (pc - 40) (List.mem_range.mpr (by omega))
    rwa [show 40 + (pc - 40) = pc by omega] at this
  by_cases h2 : pc < 120
  · have := List.all_eq_true.mp sR297_2 (pc - 80) (List.mem_range.mpr (by omega))
    rwa [show 80 + (pc - 80) = pc by omega] at this
  by_cases h3 : pc < 160
  · have := List.all_eq_true.mp sR297_3 (pc - 120) (List.mem_range.mpr (by omega))
    rwa [show 120 + (pc - 120) = pc by omega] at this
  by_cases h4 : pc < 200
  · have := List.all_eq_true.mp sR297_4 (pc - 160) (List.mem_range.mpr (by omega))
    rwa [show 160 + (pc - 160) = pc by omega] at this
  by_cases h5 : pc < 240
  · have := List.all_eq_true.mp sR297_5 (pc - 200) (List.mem_range.mpr (by omega))
    rwa [show 200 + (pc - 200) = pc by omega] at this
  by_cases h6 : pc < 280
  · have := List.all_eq_true.mp sR297_6 (pc - 240) (List.mem_range.mpr (by omega))
    rwa [show 240 + (pc - 240) = pc by omega] at this
  by_cases h7 : pc < 320
  · have := List.all_eq_true.mp sR297_7 (pc - 280) (List.mem_range.mpr (by omega))
    rwa [show 280 + (pc - 280) = pc by omega] at this
  by_cases h8 : pc < 360
  · have := List.all_eq_true.mp sR297_8 (pc - 320) (List.mem_range.mpr (by omega))
    rwa [show 320 + (pc - 320) = pc by omega] at this
  by_cases h9 : pc < 400
  · have := List.all_eq_true.mp sR297_9 (pc - 360) (List.mem_range.mpr (by omega))
    rwa [show 360 + (pc - 360) = pc by omega] at this
  by_cases h10 : pc < 440
  · have := List.all_eq_true.mp sR297_10 (pc - 400) (List.mem_range.mpr (by omega))
    rwa [show 400 + (pc - 400) = pc by omega] at this
  by_cases h11 : pc < 480
  · have := List.all_eq_true.mp sR297_11 (pc - 440) (List.mem_range.mpr (by omega))
    rwa [show 440 + (pc - 440) = pc by omega] at this
  by_cases h12 : pc < 520
  · have := List.all_eq_true.mp sR297_12 (pc - 480) (List.mem_range.mpr (by omega))
    rwa [show 480 + (pc - 480) = pc by omega] at this
  by_cases h13 : pc < 560
  · have := List.all_eq_true.mp sR297_13 (pc - 520) (List.mem_range.mpr (by omega))
    rwa [show 520 + (pc - 520) = pc by omega] at this
  by_cases h14 : pc < 600
  · have := List.all_eq_true.mp sR297_14 (pc - 560) (List.mem_range.mpr (by omega))
    rwa [show 560 + (pc - 560) = pc by omega] at this
  by_cases h15 : pc < 640
  · have := List.all_eq_true.mp sR297_15 (pc - 600) (List.mem_range.mpr (by omega))
    rwa [show 600 + (pc - 600) = pc by omega] at this
  by_cases h16 : pc < 680
  · have := List.all_eq_true.mp sR297_16 (pc - 640) (List.mem_range.mpr (by omega))
    rwa [show 640 + (pc - 640) = pc by omega] at this
  by_cases h17 : pc < 720
  · have := List.all_eq_true.mp sR297_17 (pc - 680) (List.mem_range.mpr (by omega))
    rwa [show 680 + (pc - 680) = pc by omega] at this
  by_cases h18 : pc < 760
  · have := List.all_eq_true.mp sR297_18 (pc - 720) (List.mem_range.mpr (by omega))
    rwa [show 720 + (pc - 720) = pc by omega] at this
  by_cases h19 : pc < 800
  · have := List.all_eq_true.mp sR297_19 (pc - 760) (List.mem_range.mpr (by omega))
    rwa [show 760 + (pc - 760) = pc by omega] at this
  by_cases h20 : pc < 840
  · have := List.all_eq_true.mp sR297_20 (pc - 800) (List.mem_range.mpr (by omega))
    rwa [show 800 + (pc - 800) = pc by omega] at this
  by_cases h21 : pc < 880
  · have := List.all_eq_true.mp sR297_21 (pc - 840) (List.mem_range.mpr (by omega))
    rwa [show 840 + (pc - 840) = pc by omega] at this
  by_cases h22 : pc < 920
  · have := List.all_eq_true.mp sR297_22 (pc - 880) (List.mem_range.mpr (by omega))
    rwa [show 880 + (pc - 880) = pc by omega] at this
  by_cases h23 : pc < 960
  · have := List.all_eq_true.mp sR297_23 (pc - 920) (List.mem_range.mpr (by omega))
    rwa [show 920 + (pc - 920) = pc by omega] at this
  by_cases h24 : pc < 1000
  · have := List.all_eq_true.mp sR297_24 (pc - 960) (List.mem_range.mpr (by omega))
    rwa [show 960 + (pc - 960) = pc by omega] at this
  by_cases h25 : pc < 1040
  · have := List.all_eq_true.mp sR297_25 (pc - 1000) (List.mem_range.mpr (by omega))
    rwa [show 1000 + (pc - 1000) = pc by omega] at this
  by_cases h26 : pc < 1080
  · have := List.all_eq_true.mp sR297_26 (pc - 1040) (List.mem_range.mpr (by omega))
    rwa [show 1040 + (pc - 1040) = pc by omega] at this
  by_cases h27 : pc < 1120
  · have := List.all_eq_true.mp sR297_27 (pc - 1080) (List.mem_range.mpr (by omega))
    rwa [show 1080 + (pc - 1080) = pc by omega] at this
  by_cases h28 : pc < 1160
  · have := List.all_eq_true.mp sR297_28 (pc - 1120) (List.mem_range.mpr (by omega))
    rwa [show 1120 + (pc - 1120) = pc by omega] at this
  by_cases h29 : pc < 1200
  · have := List.all_eq_true.mp sR297_29 (pc - 1160) (List.mem_range.mpr (by omega))
    rwa [show 1160 + (pc - 1160) = pc by omega] at this
  by_cases h30 : pc < 1240
  · have := List.all_eq_true.mp sR297_30 (pc - 1200) (List.mem_range.mpr (by omega))
    rwa [show 1200 + (pc - 1200) = pc by omega] at this
  by_cases h31 : pc < 1280
  · have := List.all_eq_true.mp sR297_31 (pc - 1240) (List.mem_range.mpr (by omega))
    rwa [show 1240 + (pc - 1240) = pc by omega] at this
  by_cases h32 : pc < 1320
  · have := List.all_eq_true.mp sR297_32 (pc - 1280) (List.mem_range.mpr (by omega))
    rwa [show 1280 + (pc - 1280) = pc by omega] at this
  by_cases h33 : pc < 1360
  · have := List.all_eq_true.mp sR297_33 (pc - 1320) (List.mem_range.mpr (by omega))
    rwa [show 1320 + (pc - 1320) = pc by omega] at this
  by_cases h34 : pc < 1400
  · have := List.all_eq_true.mp sR297_34 (pc - 1360) (List.mem_range.mpr (by omega))
    rwa [show 1360 + (pc - 1360) = pc by omega] at this
  by_cases h35 : pc < 1440
  · have := List.all_eq_true.mp sR297_35 (pc - 1400) (List.mem_range.mpr (by omega))
    rwa [show 1400 + (pc - 1400) = pc by omega] at this
  by_cases h36 : pc < 1480
  · have := List.all_eq_true.mp sR297_36 (pc - 1440) (List.mem_range.mpr (by omega))
    rwa [show 1440 + (pc - 1440) = pc by omega] at this
  by_cases h37 : pc < 1520
  · have := List.all_eq_true.mp sR297_37 (pc - 1480) (List.mem_range.mpr (by omega))
    rwa [show 1480 + (pc - 1480) = pc by omega] at this
  by_cases h38 : pc < 1560
  · have := List.all_eq_true.mp sR297_38 (pc - 1520) (List.mem_range.mpr (by omega))
    rwa [show 1520 + (pc - 1520) = pc by omega] at this
  by_cases h39 : pc < 1600
  · have := List.all_eq_true.mp sR297_39 (pc - 1560) (List.mem_range.mpr (by omega))
    rwa [show 1560 + (pc - 1560) = pc by omega] at this
  by_cases h40 : pc < 1640
  · have := List.all_eq_true.mp sR297_40 (pc - 1600) (List.mem_range.mpr (by omega))
    rwa [show 1600 + (pc - 1600) = pc by omega] at this
  by_cases h41 : pc < 1680
  · have := List.all_eq_true.mp sR297_41 (pc - 1640) (List.mem_range.mpr (by omega))
    rwa [show 1640 + (pc - 1640) = pc by omega] at this
  by_cases h42 : pc < 1720
  · have := List.all_eq_true.mp sR297_42 (pc - 1680) (List.mem_range.mpr (by omega))
    rwa [show 1680 + (pc - 1680) = pc by omega] at this
  by_cases h43 : pc < 1760
  · have := List.all_eq_true.mp sR297_43 (pc - 1720) (List.mem_range.mpr (by omega))
    rwa [show 1720 + (pc - 1720) = pc by omega] at this
  by_cases h44 : pc < 1800
  · have := List.all_eq_true.mp sR297_44 (pc - 1760) (List.mem_range.mpr (by omega))
    rwa [show 1760 + (pc - 1760) = pc by omega] at this
  by_cases h45 : pc < 1840
  · have := List.all_eq_true.mp sR297_45 (pc - 1800) (List.mem_range.mpr (by omega))
    rwa [show 1800 + (pc - 1800) = pc by omega] at this
  by_cases h46 : pc < 1880
  · have := List.all_eq_true.mp sR297_46 (pc - 1840) (List.mem_range.mpr (by omega))
    rwa [show 1840 + (pc - 1840) = pc by omega] at this
  by_cases h47 : pc < 1920
  · have := List.all_eq_true.mp sR297_47 (pc - 1880) (List.mem_range.mpr (by omega))
    rwa [show 1880 + (pc - 1880) = pc by omega] at this
  by_cases h48 : pc < 1960
  · have := List.all_eq_true.mp sR297_48 (pc - 1920) (List.mem_range.mpr (by omega))
    rwa [show 1920 + (pc - 1920) = pc by omega] at this
  by_cases h49 : pc < 2000
  · have := List.all_eq_true.mp sR297_49 (pc - 1960) (List.mem_range.mpr (by omega))
    rwa [show 1960 + (pc - 1960) = pc by omega] at this
  by_cases h50 : pc < 2040
  · have := List.all_eq_true.mp sR297_50 (pc - 2000) (List.mem_range.mpr (by omega))
    rwa [show 2000 + (pc - 2000) = pc by omega] at this
  by_cases h51 : pc < 2080
  · have := List.all_eq_true.mp sR297_51 (pc - 2040) (List.mem_range.mpr (by omega))
    rwa [show 2040 + (pc - 2040) = pc by omega] at this
  by_cases h52 : pc < 2120
  · have := List.all_eq_true.mp sR297_52 (pc - 2080) (List.mem_range.mpr (by omega))
    rwa [show 2080 + (pc - 2080) = pc by omega] at this
  by_cases h53 : pc < 2160
  · have := List.all_eq_true.mp sR297_53 (pc - 2120) (List.mem_range.mpr (by omega))
    rwa [show 2120 + (pc - 2120) = pc by omega] at this
  by_cases h54 : pc < 2200
  · have := List.all_eq_true.mp sR297_54 (pc - 2160) (List.mem_range.mpr (by omega))
    rwa [show 2160 + (pc - 2160) = pc by omega] at this
  by_cases h55 : pc < 2240
  · have := List.all_eq_true.mp sR297_55 (pc - 2200) (List.mem_range.mpr (by omega))
    rwa [show 2200 + (pc - 2200) = pc by omega] at this
  by_cases h56 : pc < 2280
  · have := List.all_eq_true.mp sR297_56 (pc - 2240) (List.mem_range.mpr (by omega))
    rwa [show 2240 + (pc - 2240) = pc by omega] at this
  by_cases h57 : pc < 2320
  · have := List.all_eq_true.mp sR297_57 (pc - 2280) (List.mem_range.mpr (by omega))
    rwa [show 2280 + (pc - 2280) = pc by omega] at this
  by_cases h58 : pc < 2360
  · have := List.all_eq_true.mp sR297_58 (pc - 2320) (List.mem_range.mpr (by omega))
    rwa [show 2320 + (pc - 2320) = pc by omega] at this
  by_cases h59 : pc < 2400
  · have := List.all_eq_true.mp sR297_59 (pc - 2360) (List.mem_range.mpr (by omega))
    rwa [show 2360 + (pc - 2360) = pc by omega] at this
  by_cases h60 : pc < 2440
  · have := List.all_eq_true.mp sR297_60 (pc - 2400) (List.mem_range.mpr (by omega))
    rwa [show 2400 + (pc - 2400) = pc by omega] at this
  by_cases h61 : pc < 2480
  · have := List.all_eq_true.mp sR297_61 (pc - 2440) (List.mem_range.mpr (by omega))
    rwa [show 2440 + (pc - 2440) = pc by omega] at this
  by_cases h62 : pc < 2520
  · have := List.all_eq_true.mp sR297_62 (pc - 2480) (List.mem_range.mpr (by omega))
    rwa [show 2480 + (pc - 2480) = pc by omega] at this
  by_cases h63 : pc < 2560
  · have := List.all_eq_true.mp sR297_63 (pc - 2520) (List.mem_range.mpr (by omega))
    rwa [show 2520 + (pc - 2520) = pc by omega] at this
  by_cases h64 : pc < 2600
  · have := List.all_eq_true.mp sR297_64 (pc - 2560) (List.mem_range.mpr (by omega))
    rwa [show 2560 + (pc - 2560) = pc by omega] at this
  by_cases h65 : pc < 2640
  · have := List.all_eq_true.mp sR297_65 (pc - 2600) (List.mem_range.mpr (by omega))
    rwa [show 2600 + (pc - 2600) = pc by omega] at this
  by_cases h66 : pc < 2680
  · have := List.all_eq_true.mp sR297_66 (pc - 2640) (List.mem_range.mpr (by omega))
    rwa [show 2640 + (pc - 2640) = pc by omega] at this
  by_cases h67 : pc < 2720
  · have := List.all_eq_true.mp sR297_67 (pc - 2680) (List.mem_range.mpr (by omega))
    rwa [show 2680 + (pc - 2680) = pc by omega] at this
  by_cases h68 : pc < 2760
  · have := List.all_eq_true.mp sR297_68 (pc - 2720) (List.mem_range.mpr (by omega))
    rwa [show 2720 + (pc - 2720) = pc by omega] at this
  by_cases h69 : pc < 2800
  · have := List.all_eq_true.mp sR297_69 (pc - 2760) (List.mem_range.mpr (by omega))
    rwa [show 2760 + (pc - 2760) = pc by omega] at this
  by_cases h70 : pc < 2840
  · have := List.all_eq_true.mp sR297_70 (pc - 2800) (List.mem_range.mpr (by omega))
    rwa [show 2800 + (pc - 2800) = pc by omega] at this
  by_cases h71 : pc < 2880
  · have := List.all_eq_true.mp sR297_71 (pc - 2840) (List.mem_range.mpr (by omega))
    rwa [show 2840 + (pc - 2840) = pc by omega] at this
  by_cases h72 : pc < 2920
  · have := List.all_eq_true.mp sR297_72 (pc - 2880) (List.mem_range.mpr (by omega))
    rwa [show 2880 + (pc - 2880) = pc by omega] at this
  have := List.all_eq_true.mp sR297_73 (pc - 2920) (List.mem_range.mpr (by omega))
  rwa [show 2920 + (pc - 2920) = pc by omega] at this
