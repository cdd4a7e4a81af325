set_option maxHeartbeats 4000000 in
set_option maxRecDepth 10000 in
theorem v_26_0_i_2 {t : sT} {xs : Nat → Int32}
    (e : t = T16 7 xs)
    (hk : ((xs 0) &&& 63) = 26)
    (e0 : xs 1 = 0) :
    X 297 2125 [.inr (.inr (29, (some 0))), .inr (.inr (11, (some 0))), .inr (.inr (12, (some 0))), .inr (.inr (23, (some 0))), .inl 0, sJk, sJk] [.inl 0] (sLw t 23 0 0 (-10000 : Int64)) Qp := by
  refine x_istore (pc' := 2127) (ls' := [_, _, _, _, _, _, _]) rfl rfl rfl rfl ?_
  refine x_aload_n (pc' := 2128) rfl rfl rfl rfl rfl ?_
  refine x_aload_n (pc' := 2129) rfl rfl rfl rfl rfl ?_
  refine x_iload (pc' := 2131) rfl rfl rfl ?_
  refine x_iconst (pc' := 2132) rfl rfl ?_
  refine x_iadd (pc' := 2133) (z := 1) rfl rfl (by decide) ?_
  refine x_iald (pc' := 2134) (N := 7) (x := 0) rfl rfl rfl (Eq.trans rdNL (z_N_29_0 e)) (io_in (p := 1) (N := 7) (by decide) (by decide)) (Eq.trans (congrArg (sA (sLw t 23 0 0 (-10000 : Int64)) 29 0) (nn_io (p := 1) (by decide))) (Eq.trans rdAL (Eq.trans (z_A_29_0_1 e) e0))) ?_
  refine x_aload_n (pc' := 2135) rfl rfl rfl rfl rfl ?_
  refine x_iload (pc' := 2137) rfl rfl rfl ?_
  refine x_iconst (pc' := 2138) rfl rfl ?_
  refine x_iadd (pc' := 2139) (z := 2) rfl rfl (by decide) ?_
  refine x_iald (pc' := 2140) (N := 7) (x := (xs 2)) rfl rfl rfl (Eq.trans rdNL (z_N_29_0 e)) (io_in (p := 2) (N := 7) (by decide) (by decide)) (Eq.trans (congrArg (sA (sLw t 23 0 0 (-10000 : Int64)) 29 0) (nn_io (p := 2) (by decide))) (Eq.trans rdAL (z_A_29_0_2 e))) ?_
  have J5001 : X 297 2148 [.inr (.inr (29, (some 0))), .inr (.inr (11, (some 0))), .inr (.inr (12, (some 0))), .inr (.inr (23, (some 0))), .inl 0, .inl 0, sJk] [.inl (bz (!(decide ((xs 2) = 0)))), .inl 0, .inr (.inr (12, (some 0)))] (sLw t 23 0 0 (-10000 : Int64)) Qp := by
    refine x_cv (ls0 := [_, _, _, sJk]) (rest := []) rfl rfl rfl rfl rfl ?_
    refine x_aload_n (pc' := 1) rfl rfl rfl rfl rfl ?_
    refine x_iload_n (pc' := 2) rfl rfl rfl ?_
    refine x_cs (ls0 := [_]) (rest := [_]) rfl rfl rfl rfl ?_
    refine x_iload_n (pc' := 1) rfl rfl rfl ?_
    refine x_iconst (pc' := 2) rfl rfl ?_
    refine x_iconst (pc' := 3) rfl rfl ?_
    refine x_cs (ls0 := [_, _, _]) (rest := []) rfl rfl rfl rfl ?_
    refine x_iload_n (pc' := 1) rfl rfl rfl ?_
    refine x_iload_n (pc' := 2) rfl rfl rfl ?_
    refine x_icmp (a' := 14) (pc' := 5) (z := false) rfl rfl rfl (by decide) (fun h => by cases h) (fun _ => ?_)
    refine x_iload_n (pc' := 6) rfl rfl rfl ?_
    refine x_iload_n (pc' := 7) rfl rfl rfl ?_
    refine x_icmp (a' := 14) (pc' := 10) (z := false) rfl rfl rfl (by decide) (fun h => by cases h) (fun _ => ?_)
    refine x_iconst (pc' := 11) rfl rfl ?_
    refine x_goto (pc' := 15) rfl rfl ?_
    refine x_retz (z := true) rfl rfl ?_
    refine sK_i (pc' := 6) rfl ?_
    refine x_retz (z := true) rfl rfl ?_
    refine sK_i (pc' := 5) rfl ?_
    refine x_if (a' := 12) (pc' := 8) (z := false) rfl rfl rfl (by decide) (fun h => by cases h) (fun _ => ?_)
    refine x_iconst (pc' := 9) rfl rfl ?_
    refine x_goto (pc' := 13) rfl rfl ?_
    refine x_cv (ls0 := [_, _]) (rest := []) rfl rfl rfl rfl rfl ?_
    refine x_aload_n (pc' := 1) rfl rfl rfl rfl rfl ?_
    refine x_iload_n (pc' := 2) rfl rfl rfl ?_
    refine x_pI (pc' := 5) rfl rfl rfl ?_
    refine x_iload_n (pc' := 6) rfl rfl rfl ?_
    refine x_if (a' := 13) (pc' := 9) (z := false) rfl rfl rfl (by decide) (fun h => by cases h) (fun _ => ?_)
    refine x_iconst (pc' := 10) rfl rfl ?_
    refine x_goto (pc' := 14) rfl rfl ?_
    refine x_retz (z := true) rfl rfl ?_
    refine sK_i (pc' := 16) rfl ?_
    refine x_if (a' := 21) (pc' := 19) (z := true) rfl rfl rfl (by decide) (fun _ => ?_) (fun h => by cases h)
    refine x_aload_n (pc' := 22) rfl rfl rfl rfl rfl ?_
    refine x_iload_n (pc' := 23) rfl rfl rfl ?_
    refine x_iload_n (pc' := 24) rfl rfl rfl ?_
    refine x_cv (ls0 := [_, _, _, sJk, sJk, sJk, sJk, sJk]) (rest := []) rfl rfl rfl rfl rfl ?_
    refine x_iconst (pc' := 1) rfl rfl ?_
    refine x_istore_n (pc' := 2) (ls' := [_, _, _, _, _, _, _, _]) rfl rfl rfl rfl ?_
    refine x_iconst (pc' := 3) rfl rfl ?_
    refine x_istore (pc' := 5) (ls' := [_, _, _, _, _, _, _, _]) rfl rfl rfl rfl ?_
    refine x_iconst (pc' := 6) rfl rfl ?_
    refine x_istore (pc' := 8) (ls' := [_, _, _, _, _, _, _, _]) rfl rfl rfl rfl ?_
    refine x_iload (pc' := 10) rfl rfl rfl ?_
    refine x_iconst (pc' := 11) rfl rfl ?_
    refine x_icmp (a' := 99) (pc' := 14) (z := false) rfl rfl rfl (by decide) (fun h => by cases h) (fun _ => ?_)
    refine x_aload_n (pc' := 15) rfl rfl rfl rfl rfl ?_
    refine x_iload_n (pc' := 16) rfl rfl rfl ?_
    refine x_iload_n (pc' := 17) rfl rfl rfl ?_
    refine x_iload (pc' := 19) rfl rfl rfl ?_
    refine x_cv (ls0 := [_, _, _, _, sJk, sJk, sJk]) (rest := []) rfl rfl rfl rfl rfl ?_
    refine x_iload_n (pc' := 1) rfl rfl rfl ?_
    refine x_iload_n (pc' := 2) rfl rfl rfl ?_
    refine x_iconst (pc' := 3) rfl rfl ?_
    refine x_cs (ls0 := [_, _, _, sJk, sJk, sJk]) (rest := []) rfl rfl rfl rfl ?_
    refine x_getstatic (pc' := 3) rfl rfl (show 1 < sC t 28 from z_st1 e) ?_
    refine x_iconst (pc' := 4) rfl rfl ?_
    refine x_iload_n (pc' := 5) rfl rfl rfl ?_
    refine x_imul (pc' := 6) (z := 0) rfl rfl (by decide) ?_
    refine x_iload_n (pc' := 7) rfl rfl rfl ?_
    refine x_iadd (pc' := 8) (z := 0) rfl rfl (by decide) ?_
    refine x_iald (pc' := 9) (N := 15) (x := 1) rfl rfl rfl (Eq.trans rdNI (Eq.trans rdNL (z_N_28_1 e))) (io_in (p := 0) (N := 15) (by decide) (by decide)) (Eq.trans (congrArg (sA (sIw (sLw t 23 0 0 (-10000 : Int64)) 768 0 0) 28 1) (nn_io (p := 0) (by decide))) (Eq.trans rdAI (Eq.trans rdAL (z_A_28_1_0 e)))) ?_
    refine x_istore_n (pc' := 10) (ls' := [_, _, _, _, _, _]) rfl rfl rfl rfl ?_
    refine x_iload_n (pc' := 11) rfl rfl rfl ?_
    refine x_bipush (pc' := 13) rfl rfl ?_
    refine x_icmp (a' := 20) (pc' := 16) (z := true) rfl rfl rfl (by decide) (fun _ => ?_) (fun h => by cases h)
    refine x_iload_n (pc' := 21) rfl rfl rfl ?_
    refine x_bipush (pc' := 23) rfl rfl ?_
    refine x_icmp (a' := 30) (pc' := 26) (z := true) rfl rfl rfl (by decide) (fun _ => ?_) (fun h => by cases h)
    refine x_iload_n (pc' := 31) rfl rfl rfl ?_
    refine x_if (a' := 38) (pc' := 34) (z := false) rfl rfl rfl (by decide) (fun h => by cases h) (fun _ => ?_)
    refine x_iconst (pc' := 35) rfl rfl ?_
    refine x_goto (pc' := 39) rfl rfl ?_
    refine x_istore (pc' := 41) (ls' := [_, _, _, _, _, _]) rfl rfl rfl rfl ?_
    refine x_iload (pc' := 43) rfl rfl rfl ?_
    refine x_iload_n (pc' := 44) rfl rfl rfl ?_
    refine x_isub (pc' := 45) (z := 1) rfl rfl (by decide) ?_
    refine x_istore (pc' := 47) (ls' := [_, _, _, _, _, _]) rfl rfl rfl rfl ?_
    refine x_iload (pc' := 49) rfl rfl rfl ?_
    refine x_if (a' := 56) (pc' := 52) (z := true) rfl rfl rfl (by decide) (fun _ => ?_) (fun h => by cases h)
    refine x_iload (pc' := 58) rfl rfl rfl ?_
    refine x_iconst (pc' := 59) rfl rfl ?_
    refine x_icmp (a' := 69) (pc' := 62) (z := true) rfl rfl rfl (by decide) (fun _ => ?_) (fun h => by cases h)
    refine x_iload (pc' := 71) rfl rfl rfl ?_
    refine x_iconst (pc' := 72) rfl rfl ?_
    refine x_icmp (a' := 85) (pc' := 75) (z := true) rfl rfl rfl (by decide) (fun _ => ?_) (fun h => by cases h)
    refine x_iload_n (pc' := 86) rfl rfl rfl ?_
    refine x_bipush (pc' := 88) rfl rfl ?_
    refine x_irem (pc' := 89) (z := 1) rfl rfl (by decide) (by decide +kernel) ?_
    refine x_iconst (pc' := 90) rfl rfl ?_
    refine x_isub (pc' := 91) (z := 0) rfl rfl (by decide) ?_
    refine x_reti rfl rfl ?_
    refine sK_i (pc' := 6) rfl ?_
    refine x_iconst (pc' := 7) rfl rfl ?_
    refine x_icmp (a' := 14) (pc' := 10) (z := false) rfl rfl rfl (by decide) (fun h => by cases h) (fun _ => ?_)
    refine x_iconst (pc' := 11) rfl rfl ?_
    refine x_goto (pc' := 15) rfl rfl ?_
    refine x_istore (pc' := 17) (ls' := [_, _, _, _, _, _, _]) rfl rfl rfl rfl ?_
    refine x_aload_n (pc' := 18) rfl rfl rfl rfl rfl ?_
    refine x_iconst (pc' := 19) rfl rfl ?_
    refine x_pI (pc' := 22) rfl rfl rfl ?_
    refine x_iconst (pc' := 23) rfl rfl ?_
    refine x_istore (pc' := 25) (ls' := [_, _, _, _, _, _, _]) rfl rfl rfl rfl ?_
    refine x_iload (pc' := 27) rfl rfl rfl ?_
    refine x_iconst (pc' := 28) rfl rfl ?_
    refine x_icmp (a' := 129) (pc' := 31) (z := false) rfl rfl rfl (by decide) (fun h => by cases h) (fun _ => ?_)
    refine x_iload (pc' := 33) rfl rfl rfl ?_
    refine x_if (a' := 129) (pc' := 36) (z := false) rfl rfl rfl (by decide) (fun h => by cases h) (fun _ => ?_)
    refine x_iload_n (pc' := 37) rfl rfl rfl ?_
    refine x_iload_n (pc' := 38) rfl rfl rfl ?_
    refine x_iload (pc' := 40) rfl rfl rfl ?_
    refine x_cs (ls0 := [_, _, _, sJk, sJk, sJk]) (rest := []) rfl rfl rfl rfl ?_
    refine x_getstatic (pc' := 3) rfl rfl (show 1 < sC t 28 from z_st1 e) ?_
    refine x_iconst (pc' := 4) rfl rfl ?_
    refine x_iload_n (pc' := 5) rfl rfl rfl ?_
    refine x_imul (pc' := 6) (z := 0) rfl rfl (by decide) ?_
    refine x_iload_n (pc' := 7) rfl rfl rfl ?_
    refine x_iadd (pc' := 8) (z := 0) rfl rfl (by decide) ?_
    refine x_iald (pc' := 9) (N := 15) (x := 1) rfl rfl rfl (Eq.trans rdNI (Eq.trans rdNI (Eq.trans rdNL (z_N_28_1 e)))) (io_in (p := 0) (N := 15) (by decide) (by decide)) (Eq.trans (congrArg (sA (sIw (sIw (sLw t 23 0 0 (-10000 : Int64)) 768 0 0) 811 0 0) 28 1) (nn_io (p := 0) (by decide))) (Eq.trans rdAI (Eq.trans rdAI (Eq.trans rdAL (z_A_28_1_0 e))))) ?_
    refine x_istore_n (pc' := 10) (ls' := [_, _, _, _, _, _]) rfl rfl rfl rfl ?_
    refine x_iload_n (pc' := 11) rfl rfl rfl ?_
    refine x_bipush (pc' := 13) rfl rfl ?_
    refine x_icmp (a' := 20) (pc' := 16) (z := true) rfl rfl rfl (by decide) (fun _ => ?_) (fun h => by cases h)
    refine x_iload_n (pc' := 21) rfl rfl rfl ?_
    refine x_bipush (pc' := 23) rfl rfl ?_
    refine x_icmp (a' := 30) (pc' := 26) (z := true) rfl rfl rfl (by decide) (fun _ => ?_) (fun h => by cases h)
    refine x_iload_n (pc' := 31) rfl rfl rfl ?_
    refine x_if (a' := 38) (pc' := 34) (z := false) rfl rfl rfl (by decide) (fun h => by cases h) (fun _ => ?_)
    refine x_iconst (pc' := 35) rfl rfl ?_
    refine x_goto (pc' := 39) rfl rfl ?_
    refine x_istore (pc' := 41) (ls' := [_, _, _, _, _, _]) rfl rfl rfl rfl ?_
    refine x_iload (pc' := 43) rfl rfl rfl ?_
    refine x_iload_n (pc' := 44) rfl rfl rfl ?_
    refine x_isub (pc' := 45) (z := 1) rfl rfl (by decide) ?_
    refine x_istore (pc' := 47) (ls' := [_, _, _, _, _, _]) rfl rfl rfl rfl ?_
    refine x_iload (pc' := 49) rfl rfl rfl ?_
    refine x_if (a' := 56) (pc' := 52) (z := true) rfl rfl rfl (by decide) (fun _ => ?_) (fun h => by cases h)
    refine x_iload (pc' := 58) rfl rfl rfl ?_
    refine x_iconst (pc' := 59) rfl rfl ?_
    refine x_icmp (a' := 69) (pc' := 62) (z := true) rfl rfl rfl (by decide) (fun _ => ?_) (fun h => by cases h)
    refine x_iload (pc' := 71) rfl rfl rfl ?_
    refine x_iconst (pc' := 72) rfl rfl ?_
    refine x_icmp (a' := 85) (pc' := 75) (z := true) rfl rfl rfl (by decide) (fun _ => ?_) (fun h => by cases h)
    refine x_iload_n (pc' := 86) rfl rfl rfl ?_
    refine x_bipush (pc' := 88) rfl rfl ?_
    refine x_irem (pc' := 89) (z := 1) rfl rfl (by decide) (by decide +kernel) ?_
    refine x_iconst (pc' := 90) rfl rfl ?_
    refine x_isub (pc' := 91) (z := 0) rfl rfl (by decide) ?_
    refine x_reti rfl rfl ?_
    refine sK_i (pc' := 43) rfl ?_
    refine x_istore (pc' := 45) (ls' := [_, _, _, _, _, _, _]) rfl rfl rfl rfl ?_
    refine x_iload (pc' := 47) rfl rfl rfl ?_
    refine x_iconst (pc' := 48) rfl rfl ?_
    refine x_icmp (a' := 123) (pc' := 51) (z := false) rfl rfl rfl (by decide) (fun h => by cases h) (fun _ => ?_)
    refine x_aload_n (pc' := 52) rfl rfl rfl rfl rfl ?_
    refine x_gR (pc' := 55) (r := (some 27)) rfl rfl rfl (Eq.trans rdRI (Eq.trans rdRI (Eq.trans rdRL (z_R_809_0 e)))) ?_
    refine x_aload_n (pc' := 56) rfl rfl rfl rfl rfl ?_
    refine x_gI (pc' := 59) (x := 0) rfl rfl rfl sI_s ?_
    refine x_aload_n (pc' := 60) rfl rfl rfl rfl rfl ?_
    refine x_iload (pc' := 62) rfl rfl rfl ?_
    refine x_iload_n (pc' := 63) rfl rfl rfl ?_
    refine x_iload_n (pc' := 64) rfl rfl rfl ?_
    refine x_iload (pc' := 66) rfl rfl rfl ?_
    refine x_cs (ls0 := [_, _, _, sJk]) (rest := [_, _, _, _]) rfl rfl rfl rfl ?_
    refine x_iload_n (pc' := 1) rfl rfl rfl ?_
    refine x_iload_n (pc' := 2) rfl rfl rfl ?_
    refine x_iload_n (pc' := 3) rfl rfl rfl ?_
    refine x_cs (ls0 := [_, _, _, sJk, sJk, sJk]) (rest := []) rfl rfl rfl rfl ?_
    refine x_getstatic (pc' := 3) rfl rfl (show 1 < sC t 28 from z_st1 e) ?_
    refine x_iconst (pc' := 4) rfl rfl ?_
    refine x_iload_n (pc' := 5) rfl rfl rfl ?_
    refine x_imul (pc' := 6) (z := 0) rfl rfl (by decide) ?_
    refine x_iload_n (pc' := 7) rfl rfl rfl ?_
    refine x_iadd (pc' := 8) (z := 0) rfl rfl (by decide) ?_
    refine x_iald (pc' := 9) (N := 15) (x := 1) rfl rfl rfl (Eq.trans rdNI (Eq.trans rdNI (Eq.trans rdNL (z_N_28_1 e)))) (io_in (p := 0) (N := 15) (by decide) (by decide)) (Eq.trans (congrArg (sA (sIw (sIw (sLw t 23 0 0 (-10000 : Int64)) 768 0 0) 811 0 0) 28 1) (nn_io (p := 0) (by decide))) (Eq.trans rdAI (Eq.trans rdAI (Eq.trans rdAL (z_A_28_1_0 e))))) ?_
    refine x_istore_n (pc' := 10) (ls' := [_, _, _, _, _, _]) rfl rfl rfl rfl ?_
    refine x_iload_n (pc' := 11) rfl rfl rfl ?_
    refine x_bipush (pc' := 13) rfl rfl ?_
    refine x_icmp (a' := 20) (pc' := 16) (z := true) rfl rfl rfl (by decide) (fun _ => ?_) (fun h => by cases h)
    refine x_iload_n (pc' := 21) rfl rfl rfl ?_
    refine x_bipush (pc' := 23) rfl rfl ?_
    refine x_icmp (a' := 30) (pc' := 26) (z := true) rfl rfl rfl (by decide) (fun _ => ?_) (fun h => by cases h)
    refine x_iload_n (pc' := 31) rfl rfl rfl ?_
    refine x_if (a' := 38) (pc' := 34) (z := false) rfl rfl rfl (by decide) (fun h => by cases h) (fun _ => ?_)
    refine x_iconst (pc' := 35) rfl rfl ?_
    refine x_goto (pc' := 39) rfl rfl ?_
    refine x_istore (pc' := 41) (ls' := [_, _, _, _, _, _]) rfl rfl rfl rfl ?_
    refine x_iload (pc' := 43) rfl rfl rfl ?_
    refine x_iload_n (pc' := 44) rfl rfl rfl ?_
    refine x_isub (pc' := 45) (z := 1) rfl rfl (by decide) ?_
    refine x_istore (pc' := 47) (ls' := [_, _, _, _, _, _]) rfl rfl rfl rfl ?_
    refine x_iload (pc' := 49) rfl rfl rfl ?_
    refine x_if (a' := 56) (pc' := 52) (z := true) rfl rfl rfl (by decide) (fun _ => ?_) (fun h => by cases h)
    refine x_iload (pc' := 58) rfl rfl rfl ?_
    refine x_iconst (pc' := 59) rfl rfl ?_
    refine x_icmp (a' := 69) (pc' := 62) (z := true) rfl rfl rfl (by decide) (fun _ => ?_) (fun h => by cases h)
    refine x_iload (pc' := 71) rfl rfl rfl ?_
    refine x_iconst (pc' := 72) rfl rfl ?_
    refine x_icmp (a' := 85) (pc' := 75) (z := true) rfl rfl rfl (by decide) (fun _ => ?_) (fun h => by cases h)
    refine x_iload_n (pc' := 86) rfl rfl rfl ?_
    refine x_bipush (pc' := 88) rfl rfl ?_
    refine x_irem (pc' := 89) (z := 1) rfl rfl (by decide) (by decide +kernel) ?_
    refine x_iconst (pc' := 90) rfl rfl ?_
    refine x_isub (pc' := 91) (z := 0) rfl rfl (by decide) ?_
    refine x_reti rfl rfl ?_
    refine sK_i (pc' := 6) rfl ?_
    refine x_istore_n (pc' := 7) (ls' := [_, _, _, _]) rfl rfl rfl rfl ?_
    refine x_iload_n (pc' := 8) rfl rfl rfl ?_
    refine x_iconst (pc' := 9) rfl rfl ?_
    refine x_icmp (a' := 31) (pc' := 12) (z := false) rfl rfl rfl (by decide) (fun h => by cases h) (fun _ => ?_)
    refine x_iload_n (pc' := 13) rfl rfl rfl ?_
    refine x_iconst (pc' := 14) rfl rfl ?_
    refine x_icmp (a' := 29) (pc' := 17) (z := true) rfl rfl rfl (by decide) (fun _ => ?_) (fun h => by cases h)
    refine x_iconst (pc' := 30) rfl rfl ?_
    refine x_retz (z := false) rfl rfl ?_
    refine sK_i (pc' := 69) rfl ?_
    refine x_iload_n (pc' := 70) rfl rfl rfl ?_
    have J5033 : X 159 78 [.inr (.inr (12, (some 0))), .inl 0, .inl (bz (!(decide ((xs 2) = 0)))), .inl 0, .inl 1, .inl 0, .inl 0] [.inl (bz (!(xor false (!(decide ((xs 2) = 0)))))), .inl 0, .inr (.inr (12, (some 0))), .inl 0, .inr (.inr (21, (some 27)))] (sIw (sIw (sLw t 23 0 0 (-10000 : Int64)) 768 0 0) 811 0 0) (sK 159 161 19 [.inr (.inr (12, (some 0))), .inl 0, .inl (bz (!(decide ((xs 2) = 0)))), .inl (-1), .inl 0, .inl 0, sJk, sJk] [] (sK 161 228 24 [.inr (.inr (12, (some 0))), .inl 0, .inl (bz (!(decide ((xs 2) = 0)))), sJk] [] (sK 228 297 2148 [.inr (.inr (29, (some 0))), .inr (.inr (11, (some 0))), .inr (.inr (12, (some 0))), .inr (.inr (23, (some 0))), .inl 0, .inl 0, sJk] [] Qp))) := by
      refine x_cv (ls0 := [_, _, _, sJk, sJk, sJk]) (rest := [_, _]) rfl rfl rfl rfl rfl ?_
      refine x_iconst (pc' := 1) rfl rfl ?_
      refine x_istore_n (pc' := 2) (ls' := [_, _, _, _, _, _]) rfl rfl rfl rfl ?_
      refine x_iconst (pc' := 3) rfl rfl ?_
      refine x_istore (pc' := 5) (ls' := [_, _, _, _, _, _]) rfl rfl rfl rfl ?_
      refine x_iload (pc' := 7) rfl rfl rfl ?_
      refine x_aload_n (pc' := 8) rfl rfl rfl rfl rfl ?_
      refine x_gI (pc' := 11) (x := 0) rfl rfl rfl (Eq.trans (rdI_F rfl) (Eq.trans (rdI_F rfl) (Eq.trans rdIL (z_I_786_0 e)))) ?_
      refine x_icmp (a' := 87) (pc' := 14) (z := true) rfl rfl rfl (by decide) (fun _ => ?_) (fun h => by cases h)
      refine x_iload_n (pc' := 88) rfl rfl rfl ?_
      refine x_reti rfl rfl ?_
      refine sK_i (pc' := 81) rfl ?_
      refine x_iast (pc' := 82) (N := 200) (p := 0) rfl rfl rfl (Eq.trans rdNI (Eq.trans rdNI (Eq.trans rdNL (z_N_21_27 e)))) (io_in (p := 0) (N := 200) (by decide) (by decide)) (nn_io (p := 0) (by decide)) ?_
      refine x_aload_n (pc' := 83) rfl rfl rfl rfl rfl ?_
      refine x_gR (pc' := 86) (r := (some 0)) rfl rfl rfl (Eq.trans rdRA (Eq.trans rdRI (Eq.trans rdRI (Eq.trans rdRL (z_R_769_0 e))))) ?_
      refine x_iload (pc' := 88) rfl rfl rfl ?_
      refine x_iald (pc' := 89) (N := 5) (x := 0) rfl rfl rfl (Eq.trans rdNA (Eq.trans rdNI (Eq.trans rdNI (Eq.trans rdNL (z_N_21_0 e))))) (io_in (p := 0) (N := 5) (by decide) (by decide)) (Eq.trans (congrArg (sA (sAw (sIw (sIw (sLw t 23 0 0 (-10000 : Int64)) 768 0 0) 811 0 0) 21 27 0 (-1)) 21 0) (nn_io (p := 0) (by decide))) (Eq.trans (rdA_o rfl) (Eq.trans rdAI (Eq.trans rdAI (Eq.trans rdAL (z_A_21_0_0 e)))))) ?_
      refine x_iconst (pc' := 90) rfl rfl ?_
      refine x_icmp (a' := 110) (pc' := 93) (z := true) rfl rfl rfl (by decide) (fun _ => ?_) (fun h => by cases h)
      refine x_iconst (pc' := 111) rfl rfl ?_
      refine x_istore (pc' := 113) (ls' := [_, _, _, _, _, _, _]) rfl rfl rfl rfl ?_
      refine x_aload_n (pc' := 114) rfl rfl rfl rfl rfl ?_
      refine x_dup (pc' := 115) rfl rfl rfl ?_
      refine x_gI (pc' := 118) (x := 0) rfl rfl rfl (Eq.trans rdIA sI_s) ?_
      refine x_iconst (pc' := 119) rfl rfl ?_
      refine x_iadd (pc' := 120) (z := 1) rfl rfl (by decide) ?_
      refine x_pI (pc' := 123) rfl rfl rfl ?_
      refine x_iinc (pc' := 126) (y := 1) (ls' := [_, _, _, _, _, _, _]) rfl rfl rfl rfl rfl ?_
      refine x_goto (pc' := 25) rfl rfl ?_
      refine x_iload (pc' := 27) rfl rfl rfl ?_
      refine x_iconst (pc' := 28) rfl rfl ?_
      refine x_icmp (a' := 129) (pc' := 31) (z := false) rfl rfl rfl (by decide) (fun h => by cases h) (fun _ => ?_)
      refine x_iload (pc' := 33) rfl rfl rfl ?_
      refine x_if (a' := 129) (pc' := 36) (z := true) rfl rfl rfl (by decide) (fun _ => ?_) (fun h => by cases h)
      refine x_iload (pc' := 131) rfl rfl rfl ?_
      refine x_retz (z := false) rfl rfl ?_
      refine sK_i (pc' := 22) rfl ?_
      refine x_if (a' := 93) (pc' := 25) (z := true) rfl rfl rfl (by decide) (fun _ => ?_) (fun h => by cases h)
      refine x_iinc (pc' := 96) (y := 1) (ls' := [_, _, _, _, _, _, _, _]) rfl rfl rfl rfl rfl ?_
      refine x_goto (pc' := 8) rfl rfl ?_
      refine x_iload (pc' := 10) rfl rfl rfl ?_
      refine x_iconst (pc' := 11) rfl rfl ?_
      refine x_icmp (a' := 99) (pc' := 14) (z := false) rfl rfl rfl (by decide) (fun h => by cases h) (fun _ => ?_)
      refine x_aload_n (pc' := 15) rfl rfl rfl rfl rfl ?_
      refine x_iload_n (pc' := 16) rfl rfl rfl ?_
      refine x_iload_n (pc' := 17) rfl rfl rfl ?_
      refine x_iload (pc' := 19) rfl rfl rfl ?_
      refine x_cv (ls0 := [_, _, _, _, sJk, sJk, sJk]) (rest := []) rfl rfl rfl rfl rfl ?_
      refine x_iload_n (pc' := 1) rfl rfl rfl ?_
      refine x_iload_n (pc' := 2) rfl rfl rfl ?_
      refine x_iconst (pc' := 3) rfl rfl ?_
      refine x_cs (ls0 := [_, _, _, sJk, sJk, sJk]) (rest := []) rfl rfl rfl rfl ?_
      refine x_getstatic (pc' := 3) rfl rfl (show 1 < sC t 28 from z_st1 e) ?_
      refine x_iconst (pc' := 4) rfl rfl ?_
      refine x_iload_n (pc' := 5) rfl rfl rfl ?_
      refine x_imul (pc' := 6) (z := 0) rfl rfl (by decide) ?_
      refine x_iload_n (pc' := 7) rfl rfl rfl ?_
      refine x_iadd (pc' := 8) (z := 1) rfl rfl (by decide) ?_
      refine x_iald (pc' := 9) (N := 15) (x := 42) rfl rfl rfl (Eq.trans rdNI (Eq.trans rdNA (Eq.trans rdNI (Eq.trans rdNI (Eq.trans rdNL (z_N_28_1 e)))))) (io_in (p := 1) (N := 15) (by decide) (by decide)) (Eq.trans (congrArg (sA (sIw (sAw (sIw (sIw (sLw t 23 0 0 (-10000 : Int64)) 768 0 0) 811 0 0) 21 27 0 (-1)) 811 0 1) 28 1) (nn_io (p := 1) (by decide))) (Eq.trans rdAI (Eq.trans (rdA_F rfl) (Eq.trans rdAI (Eq.trans rdAI (Eq.trans rdAL (z_A_28_1_1 e))))))) ?_
      refine x_istore_n (pc' := 10) (ls' := [_, _, _, _, _, _]) rfl rfl rfl rfl ?_
      refine x_iload_n (pc' := 11) rfl rfl rfl ?_
      refine x_bipush (pc' := 13) rfl rfl ?_
      refine x_icmp (a' := 20) (pc' := 16) (z := true) rfl rfl rfl (by decide) (fun _ => ?_) (fun h => by cases h)
      refine x_iload_n (pc' := 21) rfl rfl rfl ?_
      refine x_bipush (pc' := 23) rfl rfl ?_
      refine x_icmp (a' := 30) (pc' := 26) (z := false) rfl rfl rfl (by decide) (fun h => by cases h) (fun _ => ?_)
      refine x_iconst (pc' := 27) rfl rfl ?_
      refine x_goto (pc' := 39) rfl rfl ?_
      refine x_istore (pc' := 41) (ls' := [_, _, _, _, _, _]) rfl rfl rfl rfl ?_
      refine x_iload (pc' := 43) rfl rfl rfl ?_
      refine x_iload_n (pc' := 44) rfl rfl rfl ?_
      refine x_isub (pc' := 45) (z := 2) rfl rfl (by decide) ?_
      refine x_istore (pc' := 47) (ls' := [_, _, _, _, _, _]) rfl rfl rfl rfl ?_
      refine x_iload (pc' := 49) rfl rfl rfl ?_
      refine x_if (a' := 56) (pc' := 52) (z := true) rfl rfl rfl (by decide) (fun _ => ?_) (fun h => by cases h)
      refine x_iload (pc' := 58) rfl rfl rfl ?_
      refine x_iconst (pc' := 59) rfl rfl ?_
      refine x_icmp (a' := 69) (pc' := 62) (z := true) rfl rfl rfl (by decide) (fun _ => ?_) (fun h => by cases h)
      refine x_iload (pc' := 71) rfl rfl rfl ?_
      refine x_iconst (pc' := 72) rfl rfl ?_
      refine x_icmp (a' := 85) (pc' := 75) (z := false) rfl rfl rfl (by decide) (fun h => by cases h) (fun _ => ?_)
      refine x_iload_n (pc' := 76) rfl rfl rfl ?_
      refine x_bipush (pc' := 78) rfl rfl ?_
      refine x_idiv (pc' := 79) (z := 4) rfl rfl (by decide) (by decide +kernel) ?_
      refine x_bipush (pc' := 81) rfl rfl ?_
      refine x_irem (pc' := 82) (z := 4) rfl rfl (by decide) (by decide +kernel) ?_
      refine x_goto (pc' := 89) rfl rfl ?_
      refine x_iconst (pc' := 90) rfl rfl ?_
      refine x_isub (pc' := 91) (z := 3) rfl rfl (by decide) ?_
      refine x_reti rfl rfl ?_
      refine sK_i (pc' := 6) rfl ?_
      refine x_iconst (pc' := 7) rfl rfl ?_
      refine x_icmp (a' := 14) (pc' := 10) (z := false) rfl rfl rfl (by decide) (fun h => by cases h) (fun _ => ?_)
      refine x_iconst (pc' := 11) rfl rfl ?_
      refine x_goto (pc' := 15) rfl rfl ?_
      refine x_istore (pc' := 17) (ls' := [_, _, _, _, _, _, _]) rfl rfl rfl rfl ?_
      refine x_aload_n (pc' := 18) rfl rfl rfl rfl rfl ?_
      refine x_iconst (pc' := 19) rfl rfl ?_
      refine x_pI (pc' := 22) rfl rfl rfl ?_
      refine x_iconst (pc' := 23) rfl rfl ?_
      refine x_istore (pc' := 25) (ls' := [_, _, _, _, _, _, _]) rfl rfl rfl rfl ?_
      refine x_iload (pc' := 27) rfl rfl rfl ?_
      refine x_iconst (pc' := 28) rfl rfl ?_
      refine x_icmp (a' := 129) (pc' := 31) (z := false) rfl rfl rfl (by decide) (fun h => by cases h) (fun _ => ?_)
      refine x_iload (pc' := 33) rfl rfl rfl ?_
      refine x_if (a' := 129) (pc' := 36) (z := false) rfl rfl rfl (by decide) (fun h => by cases h) (fun _ => ?_)
      refine x_iload_n (pc' := 37) rfl rfl rfl ?_
      refine x_iload_n (pc' := 38) rfl rfl rfl ?_
      refine x_iload (pc' := 40) rfl rfl rfl ?_
      refine x_cs (ls0 := [_, _, _, sJk, sJk, sJk]) (rest := []) rfl rfl rfl rfl ?_
      refine x_getstatic (pc' := 3) rfl rfl (show 1 < sC t 28 from z_st1 e) ?_
      refine x_iconst (pc' := 4) rfl rfl ?_
      refine x_iload_n (pc' := 5) rfl rfl rfl ?_
      refine x_imul (pc' := 6) (z := 0) rfl rfl (by decide) ?_
      refine x_iload_n (pc' := 7) rfl rfl rfl ?_
      refine x_iadd (pc' := 8) (z := 1) rfl rfl (by decide) ?_
      refine x_iald (pc' := 9) (N := 15) (x := 42) rfl rfl rfl (Eq.trans rdNI (Eq.trans rdNI (Eq.trans rdNA (Eq.trans rdNI (Eq.trans rdNI (Eq.trans rdNL (z_N_28_1 e))))))) (io_in (p := 1) (N := 15) (by decide) (by decide)) (Eq.trans (congrArg (sA (sIw (sIw (sAw (sIw (sIw (sLw t 23 0 0 (-10000 : Int64)) 768 0 0) 811 0 0) 21 27 0 (-1)) 811 0 1) 811 0 0) 28 1) (nn_io (p := 1) (by decide))) (Eq.trans rdAI (Eq.trans rdAI (Eq.trans (rdA_F rfl) (Eq.trans rdAI (Eq.trans rdAI (Eq.trans rdAL (z_A_28_1_1 e)))))))) ?_
      refine x_istore_n (pc' := 10) (ls' := [_, _, _, _, _, _]) rfl rfl rfl rfl ?_
      refine x_iload_n (pc' := 11) rfl rfl rfl ?_
      refine x_bipush (pc' := 13) rfl rfl ?_
      refine x_icmp (a' := 20) (pc' := 16) (z := true) rfl rfl rfl (by decide) (fun _ => ?_) (fun h => by cases h)
      refine x_iload_n (pc' := 21) rfl rfl rfl ?_
      refine x_bipush (pc' := 23) rfl rfl ?_
      refine x_icmp (a' := 30) (pc' := 26) (z := false) rfl rfl rfl (by decide) (fun h => by cases h) (fun _ => ?_)
      refine x_iconst (pc' := 27) rfl rfl ?_
      refine x_goto (pc' := 39) rfl rfl ?_
      refine x_istore (pc' := 41) (ls' := [_, _, _, _, _, _]) rfl rfl rfl rfl ?_
      refine x_iload (pc' := 43) rfl rfl rfl ?_
      refine x_iload_n (pc' := 44) rfl rfl rfl ?_
      refine x_isub (pc' := 45) (z := 2) rfl rfl (by decide) ?_
      refine x_istore (pc' := 47) (ls' := [_, _, _, _, _, _]) rfl rfl rfl rfl ?_
      refine x_iload (pc' := 49) rfl rfl rfl ?_
      refine x_if (a' := 56) (pc' := 52) (z := true) rfl rfl rfl (by decide) (fun _ => ?_) (fun h => by cases h)
      refine x_iload (pc' := 58) rfl rfl rfl ?_
      refine x_iconst (pc' := 59) rfl rfl ?_
      refine x_icmp (a' := 69) (pc' := 62) (z := true) rfl rfl rfl (by decide) (fun _ => ?_) (fun h => by cases h)
      refine x_iload (pc' := 71) rfl rfl rfl ?_
      refine x_iconst (pc' := 72) rfl rfl ?_
      refine x_icmp (a' := 85) (pc' := 75) (z := false) rfl rfl rfl (by decide) (fun h => by cases h) (fun _ => ?_)
      refine x_iload_n (pc' := 76) rfl rfl rfl ?_
      refine x_bipush (pc' := 78) rfl rfl ?_
      refine x_idiv (pc' := 79) (z := 4) rfl rfl (by decide) (by decide +kernel) ?_
      refine x_bipush (pc' := 81) rfl rfl ?_
      refine x_irem (pc' := 82) (z := 4) rfl rfl (by decide) (by decide +kernel) ?_
      refine x_goto (pc' := 89) rfl rfl ?_
      refine x_iconst (pc' := 90) rfl rfl ?_
      refine x_isub (pc' := 91) (z := 3) rfl rfl (by decide) ?_
      refine x_reti rfl rfl ?_
      refine sK_i (pc' := 43) rfl ?_
      refine x_istore (pc' := 45) (ls' := [_, _, _, _, _, _, _]) rfl rfl rfl rfl ?_
      refine x_iload (pc' := 47) rfl rfl rfl ?_
      refine x_iconst (pc' := 48) rfl rfl ?_
      refine x_icmp (a' := 123) (pc' := 51) (z := false) rfl rfl rfl (by decide) (fun h => by cases h) (fun _ => ?_)
      refine x_aload_n (pc' := 52) rfl rfl rfl rfl rfl ?_
      refine x_gR (pc' := 55) (r := (some 27)) rfl rfl rfl (Eq.trans rdRI (Eq.trans rdRI (Eq.trans rdRA (Eq.trans rdRI (Eq.trans rdRI (Eq.trans rdRL (z_R_809_0 e))))))) ?_
      refine x_aload_n (pc' := 56) rfl rfl rfl rfl rfl ?_
      refine x_gI (pc' := 59) (x := 0) rfl rfl rfl sI_s ?_
      refine x_aload_n (pc' := 60) rfl rfl rfl rfl rfl ?_
      refine x_iload (pc' := 62) rfl rfl rfl ?_
      refine x_iload_n (pc' := 63) rfl rfl rfl ?_
      refine x_iload_n (pc' := 64) rfl rfl rfl ?_
      refine x_iload (pc' := 66) rfl rfl rfl ?_
      refine x_cs (ls0 := [_, _, _, sJk]) (rest := [_, _, _, _]) rfl rfl rfl rfl ?_
      refine x_iload_n (pc' := 1) rfl rfl rfl ?_
      refine x_iload_n (pc' := 2) rfl rfl rfl ?_
      refine x_iload_n (pc' := 3) rfl rfl rfl ?_
      refine x_cs (ls0 := [_, _, _, sJk, sJk, sJk]) (rest := []) rfl rfl rfl rfl ?_
      refine x_getstatic (pc' := 3) rfl rfl (show 1 < sC t 28 from z_st1 e) ?_
      refine x_iconst (pc' := 4) rfl rfl ?_
      refine x_iload_n (pc' := 5) rfl rfl rfl ?_
      refine x_imul (pc' := 6) (z := 0) rfl rfl (by decide) ?_
      refine x_iload_n (pc' := 7) rfl rfl rfl ?_
      refine x_iadd (pc' := 8) (z := 1) rfl rfl (by decide) ?_
      refine x_iald (pc' := 9) (N := 15) (x := 42) rfl rfl rfl (Eq.trans rdNI (Eq.trans rdNI (Eq.trans rdNA (Eq.trans rdNI (Eq.trans rdNI (Eq.trans rdNL (z_N_28_1 e))))))) (io_in (p := 1) (N := 15) (by decide) (by decide)) (Eq.trans (congrArg (sA (sIw (sIw (sAw (sIw (sIw (sLw t 23 0 0 (-10000 : Int64)) 768 0 0) 811 0 0) 21 27 0 (-1)) 811 0 1) 811 0 0) 28 1) (nn_io (p := 1) (by decide))) (Eq.trans rdAI (Eq.trans rdAI (Eq.trans (rdA_F rfl) (Eq.trans rdAI (Eq.trans rdAI (Eq.trans rdAL (z_A_28_1_1 e)))))))) ?_
      refine x_istore_n (pc' := 10) (ls' := [_, _, _, _, _, _]) rfl rfl rfl rfl ?_
      refine x_iload_n (pc' := 11) rfl rfl rfl ?_
      refine x_bipush (pc' := 13) rfl rfl ?_
      refine x_icmp (a' := 20) (pc' := 16) (z := true) rfl rfl rfl (by decide) (fun _ => ?_) (fun h => by cases h)
      refine x_iload_n (pc' := 21) rfl rfl rfl ?_
      refine x_bipush (pc' := 23) rfl rfl ?_
      refine x_icmp (a' := 30) (pc' := 26) (z := false) rfl rfl rfl (by decide) (fun h => by cases h) (fun _ => ?_)
      refine x_iconst (pc' := 27) rfl rfl ?_
      refine x_goto (pc' := 39) rfl rfl ?_
      refine x_istore (pc' := 41) (ls' := [_, _, _, _, _, _]) rfl rfl rfl rfl ?_
      refine x_iload (pc' := 43) rfl rfl rfl ?_
      refine x_iload_n (pc' := 44) rfl rfl rfl ?_
      refine x_isub (pc' := 45) (z := 2) rfl rfl (by decide) ?_
      refine x_istore (pc' := 47) (ls' := [_, _, _, _, _, _]) rfl rfl rfl rfl ?_
      refine x_iload (pc' := 49) rfl rfl rfl ?_
      refine x_if (a' := 56) (pc' := 52) (z := true) rfl rfl rfl (by decide) (fun _ => ?_) (fun h => by cases h)
      refine x_iload (pc' := 58) rfl rfl rfl ?_
      refine x_iconst (pc' := 59) rfl rfl ?_
      refine x_icmp (a' := 69) (pc' := 62) (z := true) rfl rfl rfl (by decide) (fun _ => ?_) (fun h => by cases h)
      refine x_iload (pc' := 71) rfl rfl rfl ?_
      refine x_iconst (pc' := 72) rfl rfl ?_
      refine x_icmp (a' := 85) (pc' := 75) (z := false) rfl rfl rfl (by decide) (fun h => by cases h) (fun _ => ?_)
      refine x_iload_n (pc' := 76) rfl rfl rfl ?_
      refine x_bipush (pc' := 78) rfl rfl ?_
      refine x_idiv (pc' := 79) (z := 4) rfl rfl (by decide) (by decide +kernel) ?_
      refine x_bipush (pc' := 81) rfl rfl ?_
      refine x_irem (pc' := 82) (z := 4) rfl rfl (by decide) (by decide +kernel) ?_
      refine x_goto (pc' := 89) rfl rfl ?_
      refine x_iconst (pc' := 90) rfl rfl ?_
      refine x_isub (pc' := 91) (z := 3) rfl rfl (by decide) ?_
      refine x_reti rfl rfl ?_
      refine sK_i (pc' := 6) rfl ?_
      refine x_istore_n (pc' := 7) (ls' := [_, _, _, _]) rfl rfl rfl rfl ?_
      refine x_iload_n (pc' := 8) rfl rfl rfl ?_
      refine x_iconst (pc' := 9) rfl rfl ?_
      refine x_icmp (a' := 31) (pc' := 12) (z := false) rfl rfl rfl (by decide) (fun h => by cases h) (fun _ => ?_)
      refine x_iload_n (pc' := 13) rfl rfl rfl ?_
      refine x_iconst (pc' := 14) rfl rfl ?_
      refine x_icmp (a' := 29) (pc' := 17) (z := false) rfl rfl rfl (by decide) (fun h => by cases h) (fun _ => ?_)
      refine x_iload_n (pc' := 18) rfl rfl rfl ?_
      refine x_cs (ls0 := [_]) (rest := []) rfl rfl rfl rfl ?_
      refine x_iload_n (pc' := 1) rfl rfl rfl ?_
      refine x_iconst (pc' := 2) rfl rfl ?_
      refine x_isub (pc' := 3) (z := 0) rfl rfl (by decide) ?_
      refine x_reti rfl rfl ?_
      refine sK_i (pc' := 21) rfl ?_
      refine x_iload_n (pc' := 22) rfl rfl rfl ?_
      refine x_icmp (a' := 29) (pc' := 25) (z := true) rfl rfl rfl (by decide) (fun _ => ?_) (fun h => by cases h)
      refine x_iconst (pc' := 30) rfl rfl ?_
      refine x_retz (z := false) rfl rfl ?_
      refine sK_i (pc' := 69) rfl ?_
      refine x_iload_n (pc' := 70) rfl rfl rfl ?_
      have J5063 : X 159 78 [.inr (.inr (12, (some 0))), .inl 0, .inl (bz (!(decide ((xs 2) = 0)))), .inl 1, .inl 1, .inl 0, .inl 3] [.inl (bz (!(xor false (!(decide ((xs 2) = 0)))))), .inl 3, .inr (.inr (12, (some 0))), .inl 0, .inr (.inr (21, (some 27)))] (sIw (sIw (sAw (sIw (sIw (sLw t 23 0 0 (-10000 : Int64)) 768 0 0) 811 0 0) 21 27 0 (-1)) 811 0 1) 811 0 0) (sK 159 161 19 [.inr (.inr (12, (some 0))), .inl 0, .inl (bz (!(decide ((xs 2) = 0)))), .inl (-1), .inl 0, .inl 1, sJk, sJk] [] (sK 161 228 24 [.inr (.inr (12, (some 0))), .inl 0, .inl (bz (!(decide ((xs 2) = 0)))), sJk] [] (sK 228 297 2148 [.inr (.inr (29, (some 0))), .inr (.inr (11, (some 0))), .inr (.inr (12, (some 0))), .inr (.inr (23, (some 0))), .inl 0, .inl 0, sJk] [] Qp))) := by
        refine x_cv (ls0 := [_, _, _, sJk, sJk, sJk]) (rest := [_, _]) rfl rfl rfl rfl rfl ?_
        refine x_iconst (pc' := 1) rfl rfl ?_
        refine x_istore_n (pc' := 2) (ls' := [_, _, _, _, _, _]) rfl rfl rfl rfl ?_
        refine x_iconst (pc' := 3) rfl rfl ?_
        refine x_istore (pc' := 5) (ls' := [_, _, _, _, _, _]) rfl rfl rfl rfl ?_
        refine x_iload (pc' := 7) rfl rfl rfl ?_
        refine x_aload_n (pc' := 8) rfl rfl rfl rfl rfl ?_
        refine x_gI (pc' := 11) (x := 0) rfl rfl rfl (Eq.trans (rdI_F rfl) (Eq.trans (rdI_F rfl) (Eq.trans rdIA (Eq.trans (rdI_F rfl) (Eq.trans (rdI_F rfl) (Eq.trans rdIL (z_I_786_0 e))))))) ?_
        refine x_icmp (a' := 87) (pc' := 14) (z := true) rfl rfl rfl (by decide) (fun _ => ?_) (fun h => by cases h)
        refine x_iload_n (pc' := 88) rfl rfl rfl ?_
        refine x_reti rfl rfl ?_
        refine sK_i (pc' := 81) rfl ?_
        refine x_iast (pc' := 82) (N := 200) (p := 0) rfl rfl rfl (Eq.trans rdNI (Eq.trans rdNI (Eq.trans rdNA (Eq.trans rdNI (Eq.trans rdNI (Eq.trans rdNL (z_N_21_27 e))))))) (io_in (p := 0) (N := 200) (by decide) (by decide)) (nn_io (p := 0) (by decide)) ?_
        refine x_aload_n (pc' := 83) rfl rfl rfl rfl rfl ?_
        refine x_gR (pc' := 86) (r := (some 0)) rfl rfl rfl (Eq.trans rdRA (Eq.trans rdRI (Eq.trans rdRI (Eq.trans rdRA (Eq.trans rdRI (Eq.trans rdRI (Eq.trans rdRL (z_R_769_0 e)))))))) ?_
        refine x_iload (pc' := 88) rfl rfl rfl ?_
        refine x_iald (pc' := 89) (N := 5) (x := 0) rfl rfl rfl (Eq.trans rdNA (Eq.trans rdNI (Eq.trans rdNI (Eq.trans rdNA (Eq.trans rdNI (Eq.trans rdNI (Eq.trans rdNL (z_N_21_0 e)))))))) (io_in (p := 3) (N := 5) (by decide) (by decide)) (Eq.trans (congrArg (sA (sAw (sIw (sIw (sAw (sIw (sIw (sLw t 23 0 0 (-10000 : Int64)) 768 0 0) 811 0 0) 21 27 0 (-1)) 811 0 1) 811 0 0) 21 27 0 (-1)) 21 0) (nn_io (p := 3) (by decide))) (Eq.trans (rdA_o rfl) (Eq.trans rdAI (Eq.trans rdAI (Eq.trans (rdA_o rfl) (Eq.trans rdAI (Eq.trans rdAI (Eq.trans rdAL (z_A_21_0_3 e))))))))) ?_
        refine x_iconst (pc' := 90) rfl rfl ?_
        refine x_icmp (a' := 110) (pc' := 93) (z := true) rfl rfl rfl (by decide) (fun _ => ?_) (fun h => by cases h)
        refine x_iconst (pc' := 111) rfl rfl ?_
        refine x_istore (pc' := 113) (ls' := [_, _, _, _, _, _, _]) rfl rfl rfl rfl ?_
        refine x_aload_n (pc' := 114) rfl rfl rfl rfl rfl ?_
        refine x_dup (pc' := 115) rfl rfl rfl ?_
        refine x_gI (pc' := 118) (x := 0) rfl rfl rfl (Eq.trans rdIA sI_s) ?_
        refine x_iconst (pc' := 119) rfl rfl ?_
        refine x_iadd (pc' := 120) (z := 1) rfl rfl (by decide) ?_
        refine x_pI (pc' := 123) rfl rfl rfl ?_
        refine x_iinc (pc' := 126) (y := 1) (ls' := [_, _, _, _, _, _, _]) rfl rfl rfl rfl rfl ?_
        refine x_goto (pc' := 25) rfl rfl ?_
        refine x_iload (pc' := 27) rfl rfl rfl ?_
        refine x_iconst (pc' := 28) rfl rfl ?_
        refine x_icmp (a' := 129) (pc' := 31) (z := false) rfl rfl rfl (by decide) (fun h => by cases h) (fun _ => ?_)
        refine x_iload (pc' := 33) rfl rfl rfl ?_
        refine x_if (a' := 129) (pc' := 36) (z := true) rfl rfl rfl (by decide) (fun _ => ?_) (fun h => by cases h)
        refine x_iload (pc' := 131) rfl rfl rfl ?_
        refine x_retz (z := false) rfl rfl ?_
        refine sK_i (pc' := 22) rfl ?_
        refine x_if (a' := 93) (pc' := 25) (z := true) rfl rfl rfl (by decide) (fun _ => ?_) (fun h => by cases h)
        refine x_iinc (pc' := 96) (y := 2) (ls' := [_, _, _, _, _, _, _, _]) rfl rfl rfl rfl rfl ?_
        refine x_goto (pc' := 8) rfl rfl ?_
        refine x_iload (pc' := 10) rfl rfl rfl ?_
        refine x_iconst (pc' := 11) rfl rfl ?_
        refine x_icmp (a' := 99) (pc' := 14) (z := false) rfl rfl rfl (by decide) (fun h => by cases h) (fun _ => ?_)
        refine x_aload_n (pc' := 15) rfl rfl rfl rfl rfl ?_
        refine x_iload_n (pc' := 16) rfl rfl rfl ?_
        refine x_iload_n (pc' := 17) rfl rfl rfl ?_
        refine x_iload (pc' := 19) rfl rfl rfl ?_
        refine x_cv (ls0 := [_, _, _, _, sJk, sJk, sJk]) (rest := []) rfl rfl rfl rfl rfl ?_
        refine x_iload_n (pc' := 1) rfl rfl rfl ?_
        refine x_iload_n (pc' := 2) rfl rfl rfl ?_
        refine x_iconst (pc' := 3) rfl rfl ?_
        refine x_cs (ls0 := [_, _, _, sJk, sJk, sJk]) (rest := []) rfl rfl rfl rfl ?_
        refine x_getstatic (pc' := 3) rfl rfl (show 1 < sC t 28 from z_st1 e) ?_
        refine x_iconst (pc' := 4) rfl rfl ?_
        refine x_iload_n (pc' := 5) rfl rfl rfl ?_
        refine x_imul (pc' := 6) (z := 0) rfl rfl (by decide) ?_
        refine x_iload_n (pc' := 7) rfl rfl rfl ?_
        refine x_iadd (pc' := 8) (z := 2) rfl rfl (by decide) ?_
        refine x_iald (pc' := 9) (N := 15) (x := 453) rfl rfl rfl (Eq.trans rdNI (Eq.trans rdNA (Eq.trans rdNI (Eq.trans rdNI (Eq.trans rdNA (Eq.trans rdNI (Eq.trans rdNI (Eq.trans rdNL (z_N_28_1 e))))))))) (io_in (p := 2) (N := 15) (by decide) (by decide)) (Eq.trans (congrArg (sA (sIw (sAw (sIw (sIw (sAw (sIw (sIw (sLw t 23 0 0 (-10000 : Int64)) 768 0 0) 811 0 0) 21 27 0 (-1)) 811 0 1) 811 0 0) 21 27 0 (-1)) 811 0 1) 28 1) (nn_io (p := 2) (by decide))) (Eq.trans rdAI (Eq.trans (rdA_F rfl) (Eq.trans rdAI (Eq.trans rdAI (Eq.trans (rdA_F rfl) (Eq.trans rdAI (Eq.trans rdAI (Eq.trans rdAL (z_A_28_1_2 e)))))))))) ?_
        refine x_istore_n (pc' := 10) (ls' := [_, _, _, _, _, _]) rfl rfl rfl rfl ?_
        refine x_iload_n (pc' := 11) rfl rfl rfl ?_
        refine x_bipush (pc' := 13) rfl rfl ?_
        refine x_icmp (a' := 20) (pc' := 16) (z := false) rfl rfl rfl (by decide) (fun h => by cases h) (fun _ => ?_)
        refine x_iconst (pc' := 17) rfl rfl ?_
        refine x_goto (pc' := 39) rfl rfl ?_
        refine x_istore (pc' := 41) (ls' := [_, _, _, _, _, _]) rfl rfl rfl rfl ?_
        refine x_iload (pc' := 43) rfl rfl rfl ?_
        refine x_iload_n (pc' := 44) rfl rfl rfl ?_
        refine x_isub (pc' := 45) (z := 3) rfl rfl (by decide) ?_
        refine x_istore (pc' := 47) (ls' := [_, _, _, _, _, _]) rfl rfl rfl rfl ?_
        refine x_iload (pc' := 49) rfl rfl rfl ?_
        refine x_if (a' := 56) (pc' := 52) (z := true) rfl rfl rfl (by decide) (fun _ => ?_) (fun h => by cases h)
        refine x_iload (pc' := 58) rfl rfl rfl ?_
        refine x_iconst (pc' := 59) rfl rfl ?_
        refine x_icmp (a' := 69) (pc' := 62) (z := false) rfl rfl rfl (by decide) (fun h => by cases h) (fun _ => ?_)
        refine x_iload_n (pc' := 63) rfl rfl rfl ?_
        refine x_bipush (pc' := 65) rfl rfl ?_
        refine x_idiv (pc' := 66) (z := 4) rfl rfl (by decide) (by decide +kernel) ?_
        refine x_goto (pc' := 89) rfl rfl ?_
        refine x_iconst (pc' := 90) rfl rfl ?_
        refine x_isub (pc' := 91) (z := 3) rfl rfl (by decide) ?_
        refine x_reti rfl rfl ?_
        refine sK_i (pc' := 6) rfl ?_
        refine x_iconst (pc' := 7) rfl rfl ?_
        refine x_icmp (a' := 14) (pc' := 10) (z := false) rfl rfl rfl (by decide) (fun h => by cases h) (fun _ => ?_)
        refine x_iconst (pc' := 11) rfl rfl ?_
        refine x_goto (pc' := 15) rfl rfl ?_
        refine x_istore (pc' := 17) (ls' := [_, _, _, _, _, _, _]) rfl rfl rfl rfl ?_
        refine x_aload_n (pc' := 18) rfl rfl rfl rfl rfl ?_
        refine x_iconst (pc' := 19) rfl rfl ?_
        refine x_pI (pc' := 22) rfl rfl rfl ?_
        refine x_iconst (pc' := 23) rfl rfl ?_
        refine x_istore (pc' := 25) (ls' := [_, _, _, _, _, _, _]) rfl rfl rfl rfl ?_
        refine x_iload (pc' := 27) rfl rfl rfl ?_
        refine x_iconst (pc' := 28) rfl rfl ?_
        refine x_icmp (a' := 129) (pc' := 31) (z := false) rfl rfl rfl (by decide) (fun h => by cases h) (fun _ => ?_)
        refine x_iload (pc' := 33) rfl rfl rfl ?_
        refine x_if (a' := 129) (pc' := 36) (z := false) rfl rfl rfl (by decide) (fun h => by cases h) (fun _ => ?_)
        refine x_iload_n (pc' := 37) rfl rfl rfl ?_
        refine x_iload_n (pc' := 38) rfl rfl rfl ?_
        refine x_iload (pc' := 40) rfl rfl rfl ?_
        refine x_cs (ls0 := [_, _, _, sJk, sJk, sJk]) (rest := []) rfl rfl rfl rfl ?_
        refine x_getstatic (pc' := 3) rfl rfl (show 1 < sC t 28 from z_st1 e) ?_
        refine x_iconst (pc' := 4) rfl rfl ?_
        refine x_iload_n (pc' := 5) rfl rfl rfl ?_
        refine x_imul (pc' := 6) (z := 0) rfl rfl (by decide) ?_
        refine x_iload_n (pc' := 7) rfl rfl rfl ?_
        refine x_iadd (pc' := 8) (z := 2) rfl rfl (by decide) ?_
        refine x_iald (pc' := 9) (N := 15) (x := 453) rfl rfl rfl (Eq.trans rdNI (Eq.trans rdNI (Eq.trans rdNA (Eq.trans rdNI (Eq.trans rdNI (Eq.trans rdNA (Eq.trans rdNI (Eq.trans rdNI (Eq.trans rdNL (z_N_28_1 e)))))))))) (io_in (p := 2) (N := 15) (by decide) (by decide)) (Eq.trans (congrArg (sA (sIw (sIw (sAw (sIw (sIw (sAw (sIw (sIw (sLw t 23 0 0 (-10000 : Int64)) 768 0 0) 811 0 0) 21 27 0 (-1)) 811 0 1) 811 0 0) 21 27 0 (-1)) 811 0 1) 811 0 0) 28 1) (nn_io (p := 2) (by decide))) (Eq.trans rdAI (Eq.trans rdAI (Eq.trans (rdA_F rfl) (Eq.trans rdAI (Eq.trans rdAI (Eq.trans (rdA_F rfl) (Eq.trans rdAI (Eq.trans rdAI (Eq.trans rdAL (z_A_28_1_2 e))))))))))) ?_
        refine x_istore_n (pc' := 10) (ls' := [_, _, _, _, _, _]) rfl rfl rfl rfl ?_
        refine x_iload_n (pc' := 11) rfl rfl rfl ?_
        refine x_bipush (pc' := 13) rfl rfl ?_
        refine x_icmp (a' := 20) (pc' := 16) (z := false) rfl rfl rfl (by decide) (fun h => by cases h) (fun _ => ?_)
        refine x_iconst (pc' := 17) rfl rfl ?_
        refine x_goto (pc' := 39) rfl rfl ?_
        refine x_istore (pc' := 41) (ls' := [_, _, _, _, _, _]) rfl rfl rfl rfl ?_
        refine x_iload (pc' := 43) rfl rfl rfl ?_
        refine x_iload_n (pc' := 44) rfl rfl rfl ?_
        refine x_isub (pc' := 45) (z := 3) rfl rfl (by decide) ?_
        refine x_istore (pc' := 47) (ls' := [_, _, _, _, _, _]) rfl rfl rfl rfl ?_
        refine x_iload (pc' := 49) rfl rfl rfl ?_
        refine x_if (a' := 56) (pc' := 52) (z := true) rfl rfl rfl (by decide) (fun _ => ?_) (fun h => by cases h)
        refine x_iload (pc' := 58) rfl rfl rfl ?_
        refine x_iconst (pc' := 59) rfl rfl ?_
        refine x_icmp (a' := 69) (pc' := 62) (z := false) rfl rfl rfl (by decide) (fun h => by cases h) (fun _ => ?_)
        refine x_iload_n (pc' := 63) rfl rfl rfl ?_
        refine x_bipush (pc' := 65) rfl rfl ?_
        refine x_idiv (pc' := 66) (z := 4) rfl rfl (by decide) (by decide +kernel) ?_
        refine x_goto (pc' := 89) rfl rfl ?_
        refine x_iconst (pc' := 90) rfl rfl ?_
        refine x_isub (pc' := 91) (z := 3) rfl rfl (by decide) ?_
        refine x_reti rfl rfl ?_
        refine sK_i (pc' := 43) rfl ?_
        refine x_istore (pc' := 45) (ls' := [_, _, _, _, _, _, _]) rfl rfl rfl rfl ?_
        refine x_iload (pc' := 47) rfl rfl rfl ?_
        refine x_iconst (pc' := 48) rfl rfl ?_
        refine x_icmp (a' := 123) (pc' := 51) (z := false) rfl rfl rfl (by decide) (fun h => by cases h) (fun _ => ?_)
        refine x_aload_n (pc' := 52) rfl rfl rfl rfl rfl ?_
        refine x_gR (pc' := 55) (r := (some 27)) rfl rfl rfl (Eq.trans rdRI (Eq.trans rdRI (Eq.trans rdRA (Eq.trans rdRI (Eq.trans rdRI (Eq.trans rdRA (Eq.trans rdRI (Eq.trans rdRI (Eq.trans rdRL (z_R_809_0 e)))))))))) ?_
        refine x_aload_n (pc' := 56) rfl rfl rfl rfl rfl ?_
        refine x_gI (pc' := 59) (x := 0) rfl rfl rfl sI_s ?_
        refine x_aload_n (pc' := 60) rfl rfl rfl rfl rfl ?_
        refine x_iload (pc' := 62) rfl rfl rfl ?_
        refine x_iload_n (pc' := 63) rfl rfl rfl ?_
        refine x_iload_n (pc' := 64) rfl rfl rfl ?_
        refine x_iload (pc' := 66) rfl rfl rfl ?_
        refine x_cs (ls0 := [_, _, _, sJk]) (rest := [_, _, _, _]) rfl rfl rfl rfl ?_
        refine x_iload_n (pc' := 1) rfl rfl rfl ?_
        refine x_iload_n (pc' := 2) rfl rfl rfl ?_
        refine x_iload_n (pc' := 3) rfl rfl rfl ?_
        refine x_cs (ls0 := [_, _, _, sJk, sJk, sJk]) (rest := []) rfl rfl rfl rfl ?_
        refine x_getstatic (pc' := 3) rfl rfl (show 1 < sC t 28 from z_st1 e) ?_
        refine x_iconst (pc' := 4) rfl rfl ?_
        refine x_iload_n (pc' := 5) rfl rfl rfl ?_
        refine x_imul (pc' := 6) (z := 0) rfl rfl (by decide) ?_
        refine x_iload_n (pc' := 7) rfl rfl rfl ?_
        refine x_iadd (pc' := 8) (z := 2) rfl rfl (by decide) ?_
        refine x_iald (pc' := 9) (N := 15) (x := 453) rfl rfl rfl (Eq.trans rdNI (Eq.trans rdNI (Eq.trans rdNA (Eq.trans rdNI (Eq.trans rdNI (Eq.trans rdNA (Eq.trans rdNI (Eq.trans rdNI (Eq.trans rdNL (z_N_28_1 e)))))))))) (io_in (p := 2) (N := 15) (by decide) (by decide)) (Eq.trans (congrArg (sA (sIw (sIw (sAw (sIw (sIw (sAw (sIw (sIw (sLw t 23 0 0 (-10000 : Int64)) 768 0 0) 811 0 0) 21 27 0 (-1)) 811 0 1) 811 0 0) 21 27 0 (-1)) 811 0 1) 811 0 0) 28 1) (nn_io (p := 2) (by decide))) (Eq.trans rdAI (Eq.trans rdAI (Eq.trans (rdA_F rfl) (Eq.trans rdAI (Eq.trans rdAI (Eq.trans (rdA_F rfl) (Eq.trans rdAI (Eq.trans rdAI (Eq.trans rdAL (z_A_28_1_2 e))))))))))) ?_
        refine x_istore_n (pc' := 10) (ls' := [_, _, _, _, _, _]) rfl rfl rfl rfl ?_
        refine x_iload_n (pc' := 11) rfl rfl rfl ?_
        refine x_bipush (pc' := 13) rfl rfl ?_
        refine x_icmp (a' := 20) (pc' := 16) (z := false) rfl rfl rfl (by decide) (fun h => by cases h) (fun _ => ?_)
        refine x_iconst (pc' := 17) rfl rfl ?_
        refine x_goto (pc' := 39) rfl rfl ?_
        refine x_istore (pc' := 41) (ls' := [_, _, _, _, _, _]) rfl rfl rfl rfl ?_
        refine x_iload (pc' := 43) rfl rfl rfl ?_
        refine x_iload_n (pc' := 44) rfl rfl rfl ?_
        refine x_isub (pc' := 45) (z := 3) rfl rfl (by decide) ?_
        refine x_istore (pc' := 47) (ls' := [_, _, _, _, _, _]) rfl rfl rfl rfl ?_
        refine x_iload (pc' := 49) rfl rfl rfl ?_
        refine x_if (a' := 56) (pc' := 52) (z := true) rfl rfl rfl (by decide) (fun _ => ?_) (fun h => by cases h)
        refine x_iload (pc' := 58) rfl rfl rfl ?_
        refine x_iconst (pc' := 59) rfl rfl ?_
        refine x_icmp (a' := 69) (pc' := 62) (z := false) rfl rfl rfl (by decide) (fun h => by cases h) (fun _ => ?_)
        refine x_iload_n (pc' := 63) rfl rfl rfl ?_
        refine x_bipush (pc' := 65) rfl rfl ?_
        refine x_idiv (pc' := 66) (z := 4) rfl rfl (by decide) (by decide +kernel) ?_
        refine x_goto (pc' := 89) rfl rfl ?_
        refine x_iconst (pc' := 90) rfl rfl ?_
        refine x_isub (pc' := 91) (z := 3) rfl rfl (by decide) ?_
        refine x_reti rfl rfl ?_
        refine sK_i (pc' := 6) rfl ?_
        refine x_istore_n (pc' := 7) (ls' := [_, _, _, _]) rfl rfl rfl rfl ?_
        refine x_iload_n (pc' := 8) rfl rfl rfl ?_
        refine x_iconst (pc' := 9) rfl rfl ?_
        refine x_icmp (a' := 31) (pc' := 12) (z := false) rfl rfl rfl (by decide) (fun h => by cases h) (fun _ => ?_)
        refine x_iload_n (pc' := 13) rfl rfl rfl ?_
        refine x_iconst (pc' := 14) rfl rfl ?_
        refine x_icmp (a' := 29) (pc' := 17) (z := false) rfl rfl rfl (by decide) (fun h => by cases h) (fun _ => ?_)
        refine x_iload_n (pc' := 18) rfl rfl rfl ?_
        refine x_cs (ls0 := [_]) (rest := []) rfl rfl rfl rfl ?_
        refine x_iload_n (pc' := 1) rfl rfl rfl ?_
        refine x_iconst (pc' := 2) rfl rfl ?_
        refine x_isub (pc' := 3) (z := 0) rfl rfl (by decide) ?_
        refine x_reti rfl rfl ?_
        refine sK_i (pc' := 21) rfl ?_
        refine x_iload_n (pc' := 22) rfl rfl rfl ?_
        refine x_icmp (a' := 29) (pc' := 25) (z := true) rfl rfl rfl (by decide) (fun _ => ?_) (fun h => by cases h)
        refine x_iconst (pc' := 30) rfl rfl ?_
        refine x_retz (z := false) rfl rfl ?_
        refine sK_i (pc' := 69) rfl ?_
        refine x_iload_n (pc' := 70) rfl rfl rfl ?_
        have J5087 : X 159 78 [.inr (.inr (12, (some 0))), .inl 0, .inl (bz (!(decide ((xs 2) = 0)))), .inl 2, .inl 1, .inl 0, .inl 3] [.inl (bz (!(xor false (!(decide ((xs 2) = 0)))))), .inl 3, .inr (.inr (12, (some 0))), .inl 0, .inr (.inr (21, (some 27)))] (sIw (sIw (sAw (sIw (sIw (sAw (sIw (sIw (sLw t 23 0 0 (-10000 : Int64)) 768 0 0) 811 0 0) 21 27 0 (-1)) 811 0 1) 811 0 0) 21 27 0 (-1)) 811 0 1) 811 0 0) (sK 159 161 19 [.inr (.inr (12, (some 0))), .inl 0, .inl (bz (!(decide ((xs 2) = 0)))), .inl (-1), .inl 0, .inl 2, sJk, sJk] [] (sK 161 228 24 [.inr (.inr (12, (some 0))), .inl 0, .inl (bz (!(decide ((xs 2) = 0)))), sJk] [] (sK 228 297 2148 [.inr (.inr (29, (some 0))), .inr (.inr (11, (some 0))), .inr (.inr (12, (some 0))), .inr (.inr (23, (some 0))), .inl 0, .inl 0, sJk] [] Qp))) := by
          refine x_cv (ls0 := [_, _, _, sJk, sJk, sJk]) (rest := [_, _]) rfl rfl rfl rfl rfl ?_
          refine x_iconst (pc' := 1) rfl rfl ?_
          refine x_istore_n (pc' := 2) (ls' := [_, _, _, _, _, _]) rfl rfl rfl rfl ?_
          refine x_iconst (pc' := 3) rfl rfl ?_
          refine x_istore (pc' := 5) (ls' := [_, _, _, _, _, _]) rfl rfl rfl rfl ?_
          refine x_iload (pc' := 7) rfl rfl rfl ?_
          refine x_aload_n (pc' := 8) rfl rfl rfl rfl rfl ?_
          refine x_gI (pc' := 11) (x := 0) rfl rfl rfl (Eq.trans (rdI_F rfl) (Eq.trans (rdI_F rfl) (Eq.trans rdIA (Eq.trans (rdI_F rfl) (Eq.trans (rdI_F rfl) (Eq.trans rdIA (Eq.trans (rdI_F rfl) (Eq.trans (rdI_F rfl) (Eq.trans rdIL (z_I_786_0 e)))))))))) ?_
          refine x_icmp (a' := 87) (pc' := 14) (z := true) rfl rfl rfl (by decide) (fun _ => ?_) (fun h => by cases h)
          refine x_iload_n (pc' := 88) rfl rfl rfl ?_
          refine x_reti rfl rfl ?_
          refine sK_i (pc' := 81) rfl ?_
          refine x_iast (pc' := 82) (N := 200) (p := 0) rfl rfl rfl (Eq.trans rdNI (Eq.trans rdNI (Eq.trans rdNA (Eq.trans rdNI (Eq.trans rdNI (Eq.trans rdNA (Eq.trans rdNI (Eq.trans rdNI (Eq.trans rdNL (z_N_21_27 e)))))))))) (io_in (p := 0) (N := 200) (by decide) (by decide)) (nn_io (p := 0) (by decide)) ?_
          refine x_aload_n (pc' := 83) rfl rfl rfl rfl rfl ?_
          refine x_gR (pc' := 86) (r := (some 0)) rfl rfl rfl (Eq.trans rdRA (Eq.trans rdRI (Eq.trans rdRI (Eq.trans rdRA (Eq.trans rdRI (Eq.trans rdRI (Eq.trans rdRA (Eq.trans rdRI (Eq.trans rdRI (Eq.trans rdRL (z_R_769_0 e))))))))))) ?_
          refine x_iload (pc' := 88) rfl rfl rfl ?_
          refine x_iald (pc' := 89) (N := 5) (x := 0) rfl rfl rfl (Eq.trans rdNA (Eq.trans rdNI (Eq.trans rdNI (Eq.trans rdNA (Eq.trans rdNI (Eq.trans rdNI (Eq.trans rdNA (Eq.trans rdNI (Eq.trans rdNI (Eq.trans rdNL (z_N_21_0 e))))))))))) (io_in (p := 3) (N := 5) (by decide) (by decide)) (Eq.trans (congrArg (sA (sAw (sIw (sIw (sAw (sIw (sIw (sAw (sIw (sIw (sLw t 23 0 0 (-10000 : Int64)) 768 0 0) 811 0 0) 21 27 0 (-1)) 811 0 1) 811 0 0) 21 27 0 (-1)) 811 0 1) 811 0 0) 21 27 0 (-1)) 21 0) (nn_io (p := 3) (by decide))) (Eq.trans (rdA_o rfl) (Eq.trans rdAI (Eq.trans rdAI (Eq.trans (rdA_o rfl) (Eq.trans rdAI (Eq.trans rdAI (Eq.trans (rdA_o rfl) (Eq.trans rdAI (Eq.trans rdAI (Eq.trans rdAL (z_A_21_0_3 e)))))))))))) ?_
          refine x_iconst (pc' := 90) rfl rfl ?_
          refine x_icmp (a' := 110) (pc' := 93) (z := true) rfl rfl rfl (by decide) (fun _ => ?_) (fun h => by cases h)
          refine x_iconst (pc' := 111) rfl rfl ?_
          refine x_istore (pc' := 113) (ls' := [_, _, _, _, _, _, _]) rfl rfl rfl rfl ?_
          refine x_aload_n (pc' := 114) rfl rfl rfl rfl rfl ?_
          refine x_dup (pc' := 115) rfl rfl rfl ?_
          refine x_gI (pc' := 118) (x := 0) rfl rfl rfl (Eq.trans rdIA sI_s) ?_
          refine x_iconst (pc' := 119) rfl rfl ?_
          refine x_iadd (pc' := 120) (z := 1) rfl rfl (by decide) ?_
          refine x_pI (pc' := 123) rfl rfl rfl ?_
          refine x_iinc (pc' := 126) (y := 1) (ls' := [_, _, _, _, _, _, _]) rfl rfl rfl rfl rfl ?_
          refine x_goto (pc' := 25) rfl rfl ?_
          refine x_iload (pc' := 27) rfl rfl rfl ?_
          refine x_iconst (pc' := 28) rfl rfl ?_
          refine x_icmp (a' := 129) (pc' := 31) (z := false) rfl rfl rfl (by decide) (fun h => by cases h) (fun _ => ?_)
          refine x_iload (pc' := 33) rfl rfl rfl ?_
          refine x_if (a' := 129) (pc' := 36) (z := true) rfl rfl rfl (by decide) (fun _ => ?_) (fun h => by cases h)
          refine x_iload (pc' := 131) rfl rfl rfl ?_
          refine x_retz (z := false) rfl rfl ?_
          refine sK_i (pc' := 22) rfl ?_
          refine x_if (a' := 93) (pc' := 25) (z := true) rfl rfl rfl (by decide) (fun _ => ?_) (fun h => by cases h)
          refine x_iinc (pc' := 96) (y := 3) (ls' := [_, _, _, _, _, _, _, _]) rfl rfl rfl rfl rfl ?_
          refine x_goto (pc' := 8) rfl rfl ?_
          refine x_iload (pc' := 10) rfl rfl rfl ?_
          refine x_iconst (pc' := 11) rfl rfl ?_
          refine x_icmp (a' := 99) (pc' := 14) (z := true) rfl rfl rfl (by decide) (fun _ => ?_) (fun h => by cases h)
          refine x_iload_n (pc' := 100) rfl rfl rfl ?_
          refine x_reti rfl rfl ?_
          refine sK_i (pc' := 27) rfl ?_
          refine x_istore_n (pc' := 28) (ls' := [_, _, _, _]) rfl rfl rfl rfl ?_
          refine x_iload_n (pc' := 29) rfl rfl rfl ?_
          refine x_iconst (pc' := 30) rfl rfl ?_
          refine x_icmp (a' := 52) (pc' := 33) (z := true) rfl rfl rfl (by decide) (fun _ => ?_) (fun h => by cases h)
          refine x_sipush (pc' := 55) rfl rfl ?_
          refine x_reti rfl rfl ?_
          refine sK_i (pc' := 2151) rfl ?_
          refine x_istore (pc' := 2153) (ls' := [_, _, _, _, _, _, _]) rfl rfl rfl rfl ?_
          refine x_aload_n (pc' := 2154) rfl rfl rfl rfl rfl ?_
          refine x_cv (ls0 := [_]) (rest := []) rfl rfl rfl rfl rfl ?_
          refine x_aload_n (pc' := 1) rfl rfl rfl rfl rfl ?_
          refine x_gI (pc' := 4) (x := 0) rfl rfl rfl (Eq.trans (rdI_F rfl) (Eq.trans rdIA (Eq.trans (rdI_F rfl) (Eq.trans (rdI_F rfl) (Eq.trans rdIA (Eq.trans (rdI_F rfl) (Eq.trans (rdI_F rfl) (Eq.trans rdIA (Eq.trans (rdI_F rfl) sI_s))))))))) ?_
          refine x_reti rfl rfl ?_
          refine sK_i (pc' := 2157) rfl ?_
          refine x_iload (pc' := 2159) rfl rfl rfl ?_
          refine x_icmp (a' := 2164) (pc' := 2162) (z := true) rfl rfl rfl (by decide) (fun _ => ?_) (fun h => by cases h)
          refine x_iload (pc' := 2166) rfl rfl rfl ?_
          refine x_if (a' := 2181) (pc' := 2169) (z := false) rfl rfl rfl (by decide) (fun h => by cases h) (fun _ => ?_)
          refine x_aload_n (pc' := 2170) rfl rfl rfl rfl rfl ?_
          refine x_iconst (pc' := 2171) rfl rfl ?_
          refine x_lald (pc' := 2172) (N := 1) (x := (-10000 : Int64)) rfl rfl (Eq.trans rdNI (Eq.trans rdNA (Eq.trans rdNI (Eq.trans rdNI (Eq.trans rdNA (Eq.trans rdNI (Eq.trans rdNI (Eq.trans rdNA (Eq.trans rdNI (Eq.trans rdNI (Eq.trans rdNL (z_N_23_0 e)))))))))))) (io_in (p := 0) (N := 1) (by decide) (by decide)) (Eq.trans (congrArg (sL (sIw (sAw (sIw (sIw (sAw (sIw (sIw (sAw (sIw (sIw (sLw t 23 0 0 (-10000 : Int64)) 768 0 0) 811 0 0) 21 27 0 (-1)) 811 0 1) 811 0 0) 21 27 0 (-1)) 811 0 1) 811 0 0) 21 27 0 (-1)) 811 0 1) 23 0) (nn_io (p := 0) (by decide))) (Eq.trans rdLI (Eq.trans rdLA (Eq.trans rdLI (Eq.trans rdLI (Eq.trans rdLA (Eq.trans rdLI (Eq.trans rdLI (Eq.trans rdLA (Eq.trans rdLI (Eq.trans rdLI sL_s))))))))))) ?_
          refine x_iload (pc' := 2174) rfl rfl rfl ?_
          refine x_i2l (pc' := 2175) (z := (-10000 : Int64)) rfl rfl (by decide) ?_
          refine x_lcmp (pc' := 2176) (z := 0) rfl rfl (sLcmp_s _) ?_
          refine x_if (a' := 2181) (pc' := 2179) (z := true) rfl rfl rfl (by decide) (fun _ => ?_) (fun h => by cases h)
          refine x_goto (pc' := 2938) rfl rfl ?_
          refine x_iinc (pc' := 2941) (y := 7) (ls' := [_, _, _, _, _, _, _]) rfl rfl rfl rfl rfl ?_
          refine x_goto (pc' := 23) rfl rfl ?_
          refine x_iload (pc' := 25) rfl rfl rfl ?_
          refine x_aload_n (pc' := 26) rfl rfl rfl rfl rfl ?_
          refine x_alen (pc' := 27) (N := 7) rfl rfl rfl (Eq.trans rdNI (Eq.trans rdNA (Eq.trans rdNI (Eq.trans rdNI (Eq.trans rdNA (Eq.trans rdNI (Eq.trans rdNI (Eq.trans rdNA (Eq.trans rdNI (Eq.trans rdNI (Eq.trans rdNL (z_N_29_0 e)))))))))))) (?_ : X _ _ _ (.inl 7 :: _) _ _)
          refine x_bipush (pc' := 29) rfl rfl ?_
          refine x_isub (pc' := 30) (z := 0) rfl rfl (by decide) ?_
          refine x_icmp (a' := 2944) (pc' := 33) (z := true) rfl rfl rfl (by decide) (fun _ => ?_) (fun h => by cases h)
          refine x_iconst (pc' := 2945) rfl rfl ?_
          refine x_retz (z := true) rfl rfl ?_
          exact Qp_ok e (p := 0) (q := 0) rfl rfl rfl rfl
        refine x_icmp (a' := 77) (pc' := 73) (z := (xor false (!(decide ((xs 2) = 0))))) rfl rfl rfl (bz_neb _ _) (fun q5087 => ?_) (fun q5087 => ?_)
        · refine x_iconst (pc' := 78) rfl rfl ?_
          ((try rw [q5087] at J5087); (try rw [q5087]); (try simp only [cd_t, cd_f, nt_t, nt_f, an_t, an_f, or_t, or_f] at J5087); (try simp only [cd_t, cd_f, nt_t, nt_f, an_t, an_f, or_t, or_f]); exact J5087)
        · refine x_iconst (pc' := 74) rfl rfl ?_
          refine x_goto (pc' := 78) rfl rfl ?_
          ((try rw [q5087] at J5087); (try rw [q5087]); (try simp only [cd_t, cd_f, nt_t, nt_f, an_t, an_f, or_t, or_f] at J5087); (try simp only [cd_t, cd_f, nt_t, nt_f, an_t, an_f, or_t, or_f]); exact J5087)
      refine x_icmp (a' := 77) (pc' := 73) (z := (xor false (!(decide ((xs 2) = 0))))) rfl rfl rfl (bz_neb _ _) (fun q5063 => ?_) (fun q5063 => ?_)
      · refine x_iconst (pc' := 78) rfl rfl ?_
        ((try rw [q5063] at J5063); (try rw [q5063]); (try simp only [cd_t, cd_f, nt_t, nt_f, an_t, an_f, or_t, or_f] at J5063); (try simp only [cd_t, cd_f, nt_t, nt_f, an_t, an_f, or_t, or_f]); exact J5063)
      · refine x_iconst (pc' := 74) rfl rfl ?_
        refine x_goto (pc' := 78) rfl rfl ?_
        ((try rw [q5063] at J5063); (try rw [q5063]); (try simp only [cd_t, cd_f, nt_t, nt_f, an_t, an_f, or_t, or_f] at J5063); (try simp only [cd_t, cd_f, nt_t, nt_f, an_t, an_f, or_t, or_f]); exact J5063)
    refine x_icmp (a' := 77) (pc' := 73) (z := (xor false (!(decide ((xs 2) = 0))))) rfl rfl rfl (bz_neb _ _) (fun q5033 => ?_) (fun q5033 => ?_)
    · refine x_iconst (pc' := 78) rfl rfl ?_
      ((try rw [q5033] at J5033); (try rw [q5033]); (try simp only [cd_t, cd_f, nt_t, nt_f, an_t, an_f, or_t, or_f] at J5033); (try simp only [cd_t, cd_f, nt_t, nt_f, an_t, an_f, or_t, or_f]); exact J5033)
    · refine x_iconst (pc' := 74) rfl rfl ?_
      refine x_goto (pc' := 78) rfl rfl ?_
      ((try rw [q5033] at J5033); (try rw [q5033]); (try simp only [cd_t, cd_f, nt_t, nt_f, an_t, an_f, or_t, or_f] at J5033); (try simp only [cd_t, cd_f, nt_t, nt_f, an_t, an_f, or_t, or_f]); exact J5033)
  refine x_if (a' := 2147) (pc' := 2143) (z := decide ((xs 2) = 0)) rfl rfl rfl rfl (fun q5001 => ?_) (fun q5001 => ?_)
  · refine x_iconst (pc' := 2148) rfl rfl ?_
    ((try rw [q5001] at J5001); (try rw [q5001]); (try simp only [cd_t, cd_f, nt_t, nt_f, an_t, an_f, or_t, or_f] at J5001); (try simp only [cd_t, cd_f, nt_t, nt_f, an_t, an_f, or_t, or_f]); exact J5001)
  · refine x_iconst (pc' := 2144) rfl rfl ?_
    refine x_goto (pc' := 2148) rfl rfl ?_
    ((try rw [q5001] at J5001); (try rw [q5001]); (try simp only [cd_t, cd_f, nt_t, nt_f, an_t, an_f, or_t, or_f] at J5001); (try simp only [cd_t, cd_f, nt_t, nt_f, an_t, an_f, or_t, or_f]); exact J5001)
set_option maxHeartbeats 4000000 in
set_option maxRecDepth 10000 in
theorem v_26_0_i {t : sT} {xs : Nat → Int32}
    (e : t = T16 7 xs)
    (hk : ((xs 0) &&& 63) = 26)
    (e0 : xs 1 = 0) :
    X 297 23 [.inr (.inr (29, (some 0))), .inr (.inr (11, (some 0))), .inr (.inr (12, (some 0))), .inr (.inr (23, (some 0))), .inl 0, sJk, sJk] [] t Qp := by
  have k0 : X 297 2125 [.inr (.inr (29, (some 0))), .inr (.inr (11, (some 0))), .inr (.inr (12, (some 0))), .inr (.inr (23, (some 0))), .inl 0, sJk, sJk] [.inl 0] (sLw t 23 0 0 (-10000 : Int64)) Qp := v_26_0_i_2 e hk e0
  refine x_iload (pc' := 25) rfl rfl rfl ?_
  refine x_aload_n (pc' := 26) rfl rfl rfl rfl rfl ?_
  refine x_alen (pc' := 27) (N := 7) rfl rfl rfl (z_N_29_0 e) (?_ : X _ _ _ (.inl 7 :: _) _ _)
  refine x_bipush (pc' := 29) rfl rfl ?_
  refine x_isub (pc' := 30) (z := 0) rfl rfl (by decide) ?_
  refine x_icmp (a' := 2944) (pc' := 33) (z := false) rfl rfl rfl (by decide) (fun h => by cases h) (fun _ => ?_)
  refine x_aload_n (pc' := 34) rfl rfl rfl rfl rfl ?_
  refine x_iload (pc' := 36) rfl rfl rfl ?_
  refine x_iald (pc' := 37) (N := 7) (x := (xs 0)) rfl rfl rfl (z_N_29_0 e) (io_in (p := 0) (N := 7) (by decide) (by decide)) (Eq.trans (congrArg (sA t 29 0) (nn_io (p := 0) (by decide))) (z_A_29_0_0 e)) ?_
  refine x_bipush (pc' := 39) rfl rfl ?_
  refine x_iand (pc' := 40) (z := ((xs 0) &&& 63)) rfl rfl rfl ?_
  refine x_switch (pc' := 2100) rfl (by rw [hk]; decide) ?_
  refine x_aload_n (pc' := 2101) rfl rfl rfl rfl rfl ?_
  refine x_aload_n (pc' := 2102) rfl rfl rfl rfl rfl ?_
  refine x_iload (pc' := 2104) rfl rfl rfl ?_
  refine x_iconst (pc' := 2105) rfl rfl ?_
  refine x_iadd (pc' := 2106) (z := 1) rfl rfl (by decide) ?_
  refine x_iald (pc' := 2107) (N := 7) (x := 0) rfl rfl rfl (z_N_29_0 e) (io_in (p := 1) (N := 7) (by decide) (by decide)) (Eq.trans (congrArg (sA t 29 0) (nn_io (p := 1) (by decide))) (Eq.trans (z_A_29_0_1 e) e0)) ?_
  refine x_aload_n (pc' := 2108) rfl rfl rfl rfl rfl ?_
  refine x_iload (pc' := 2110) rfl rfl rfl ?_
  refine x_iconst (pc' := 2111) rfl rfl ?_
  refine x_iadd (pc' := 2112) (z := 2) rfl rfl (by decide) ?_
  refine x_iald (pc' := 2113) (N := 7) (x := (xs 2)) rfl rfl rfl (z_N_29_0 e) (io_in (p := 2) (N := 7) (by decide) (by decide)) (Eq.trans (congrArg (sA t 29 0) (nn_io (p := 2) (by decide))) (z_A_29_0_2 e)) ?_
  have J3 : X 297 2121 [.inr (.inr (29, (some 0))), .inr (.inr (11, (some 0))), .inr (.inr (12, (some 0))), .inr (.inr (23, (some 0))), .inl 0, sJk, sJk] [.inl (bz (!(decide ((xs 2) = 0)))), .inl 0, .inr (.inr (11, (some 0)))] t Qp := by
    refine x_aload_n (pc' := 2122) rfl rfl rfl rfl rfl ?_
    refine x_cs (ls0 := [_, _, _, _, sJk]) (rest := []) rfl rfl rfl rfl ?_
    refine x_aload_n (pc' := 1) rfl rfl rfl rfl rfl ?_
    refine x_iconst (pc' := 2) rfl rfl ?_
    refine x_aload_n (pc' := 3) rfl rfl rfl rfl rfl ?_
    refine x_iload_n (pc' := 4) rfl rfl rfl ?_
    refine x_iload_n (pc' := 5) rfl rfl rfl ?_
    refine x_cv (ls0 := [_, _, _, sJk]) (rest := [_, _]) rfl rfl rfl rfl rfl ?_
    refine x_aload_n (pc' := 1) rfl rfl rfl rfl rfl ?_
    refine x_iload_n (pc' := 2) rfl rfl rfl ?_
    refine x_cv (ls0 := [_, _]) (rest := []) rfl rfl rfl rfl rfl ?_
    refine x_iload_n (pc' := 1) rfl rfl rfl ?_
    refine x_if (a' := 16) (pc' := 4) (z := false) rfl rfl rfl (by decide) (fun h => by cases h) (fun _ => ?_)
    refine x_iload_n (pc' := 5) rfl rfl rfl ?_
    refine x_aload_n (pc' := 6) rfl rfl rfl rfl rfl ?_
    refine x_gR (pc' := 9) (r := (some 0)) rfl rfl rfl (z_R_705_0 e) ?_
    refine x_gR (pc' := 12) (r := (some 0)) rfl rfl rfl (z_R_256_0 e) ?_
    refine x_alen (pc' := 13) (N := 5) rfl rfl rfl (z_N_24_0 e) (?_ : X _ _ _ (.inl 5 :: _) _ _)
    refine x_icmp (a' := 27) (pc' := 16) (z := true) rfl rfl rfl (by decide) (fun _ => ?_) (fun h => by cases h)
    refine x_aload_n (pc' := 28) rfl rfl rfl rfl rfl ?_
    refine x_gR (pc' := 31) (r := (some 0)) rfl rfl rfl (z_R_705_0 e) ?_
    refine x_gR (pc' := 34) (r := (some 0)) rfl rfl rfl (z_R_256_0 e) ?_
    refine x_iload_n (pc' := 35) rfl rfl rfl ?_
    refine x_aald (pc' := 36) (N := 5) (k' := 1) (r := (some 0)) rfl rfl rfl (z_N_24_0 e) (io_in (p := 0) (N := 5) (by decide) (by decide)) (Eq.trans (congrArg (sE t 24 0) (nn_io (p := 0) (by decide))) (z_E_24_0_0 e)) ?_
    refine x_reta rfl rfl ?_
    refine sK_i (pc' := 5) rfl ?_
    refine x_astore_n (pc' := 6) (ls' := [_, _, _, _]) rfl rfl rfl rfl rfl ?_
    refine x_aload_n (pc' := 7) rfl rfl rfl rfl rfl ?_
    refine x_gR (pc' := 10) (r := (some 0)) rfl rfl rfl (z_R_706_0 e) ?_
    refine x_aload_n (pc' := 11) rfl rfl rfl rfl rfl ?_
    refine x_aload_n (pc' := 12) rfl rfl rfl rfl rfl ?_
    refine x_gR (pc' := 15) (r := (some 0)) rfl rfl rfl (z_R_706_0 e) ?_
    refine x_aload_n (pc' := 16) rfl rfl rfl rfl rfl ?_
    refine x_iload_n (pc' := 17) rfl rfl rfl ?_
    refine x_cv (ls0 := [_, _, _, sJk, sJk, sJk, sJk, sJk]) (rest := [_, _]) rfl rfl rfl rfl rfl ?_
    refine x_iconst (pc' := 1) rfl rfl ?_
    refine x_istore_n (pc' := 2) (ls' := [_, _, _, _, _, _, _, _]) rfl rfl rfl rfl ?_
    refine x_sipush (pc' := 5) rfl rfl ?_
    refine x_istore (pc' := 7) (ls' := [_, _, _, _, _, _, _, _]) rfl rfl rfl rfl ?_
    refine x_iconst (pc' := 8) rfl rfl ?_
    refine x_istore (pc' := 10) (ls' := [_, _, _, _, _, _, _, _]) rfl rfl rfl rfl ?_
    refine x_iload (pc' := 12) rfl rfl rfl ?_
    refine x_iconst (pc' := 13) rfl rfl ?_
    refine x_icmp (a' := 90) (pc' := 16) (z := false) rfl rfl rfl (by decide) (fun h => by cases h) (fun _ => ?_)
    refine x_aload_n (pc' := 17) rfl rfl rfl rfl rfl ?_
    refine x_aload_n (pc' := 18) rfl rfl rfl rfl rfl ?_
    refine x_iload (pc' := 20) rfl rfl rfl ?_
    refine x_iload_n (pc' := 21) rfl rfl rfl ?_
    refine x_cv (ls0 := [_, _, _, _, sJk, sJk, sJk, sJk]) (rest := []) rfl rfl rfl rfl rfl ?_
    refine x_aload_n (pc' := 1) rfl rfl rfl rfl rfl ?_
    refine x_aload_n (pc' := 2) rfl rfl rfl rfl rfl ?_
    refine x_iload_n (pc' := 3) rfl rfl rfl ?_
    refine x_iconst (pc' := 4) rfl rfl ?_
    refine x_cv (ls0 := [_, _, _, _, sJk, sJk]) (rest := []) rfl rfl rfl rfl rfl ?_
    refine x_aload_n (pc' := 1) rfl rfl rfl rfl rfl ?_
    refine x_gI (pc' := 4) (x := 0) rfl rfl rfl (z_I_64_0 e) ?_
    refine x_iconst (pc' := 5) rfl rfl ?_
    refine x_imul (pc' := 6) (z := 0) rfl rfl (by decide) ?_
    refine x_iload_n (pc' := 7) rfl rfl rfl ?_
    refine x_iadd (pc' := 8) (z := 0) rfl rfl (by decide) ?_
    refine x_iconst (pc' := 9) rfl rfl ?_
    refine x_imul (pc' := 10) (z := 0) rfl rfl (by decide) ?_
    refine x_iload_n (pc' := 11) rfl rfl rfl ?_
    refine x_iadd (pc' := 12) (z := 0) rfl rfl (by decide) ?_
    refine x_istore (pc' := 14) (ls' := [_, _, _, _, _, _]) rfl rfl rfl rfl ?_
    refine x_iload_n (pc' := 15) rfl rfl rfl ?_
    refine x_if (a' := 36) (pc' := 18) (z := false) rfl rfl rfl (by decide) (fun h => by cases h) (fun _ => ?_)
    refine x_iload_n (pc' := 19) rfl rfl rfl ?_
    refine x_iconst (pc' := 20) rfl rfl ?_
    refine x_icmp (a' := 36) (pc' := 23) (z := false) rfl rfl rfl (by decide) (fun h => by cases h) (fun _ => ?_)
    refine x_iload_n (pc' := 24) rfl rfl rfl ?_
    refine x_if (a' := 36) (pc' := 27) (z := false) rfl rfl rfl (by decide) (fun h => by cases h) (fun _ => ?_)
    refine x_iload_n (pc' := 28) rfl rfl rfl ?_
    refine x_iconst (pc' := 29) rfl rfl ?_
    refine x_icmp (a' := 36) (pc' := 32) (z := false) rfl rfl rfl (by decide) (fun h => by cases h) (fun _ => ?_)
    refine x_iconst (pc' := 33) rfl rfl ?_
    refine x_goto (pc' := 37) rfl rfl ?_
    refine x_istore (pc' := 39) (ls' := [_, _, _, _, _, _]) rfl rfl rfl rfl ?_
    refine x_iload (pc' := 41) rfl rfl rfl ?_
    refine x_if (a' := 67) (pc' := 44) (z := false) rfl rfl rfl (by decide) (fun h => by cases h) (fun _ => ?_)
    refine x_iload (pc' := 46) rfl rfl rfl ?_
    refine x_if (a' := 67) (pc' := 49) (z := false) rfl rfl rfl (by decide) (fun h => by cases h) (fun _ => ?_)
    refine x_iload (pc' := 51) rfl rfl rfl ?_
    refine x_getstatic (pc' := 54) rfl rfl (show 0 < sC t 28 from z_st0 e) ?_
    refine x_alen (pc' := 55) (N := 45) rfl rfl rfl (z_N_28_0 e) (?_ : X _ _ _ (.inl 45 :: _) _ _)
    refine x_icmp (a' := 67) (pc' := 58) (z := false) rfl rfl rfl (by decide) (fun h => by cases h) (fun _ => ?_)
    refine x_getstatic (pc' := 61) rfl rfl (show 0 < sC t 28 from z_st0 e) ?_
    refine x_iload (pc' := 63) rfl rfl rfl ?_
    refine x_iald (pc' := 64) (N := 45) (x := 1) rfl rfl rfl (z_N_28_0 e) (io_in (p := 0) (N := 45) (by decide) (by decide)) (Eq.trans (congrArg (sA t 28 0) (nn_io (p := 0) (by decide))) (z_A_28_0_0 e)) ?_
    refine x_goto (pc' := 68) rfl rfl ?_
    refine x_reti rfl rfl ?_
    refine sK_i (pc' := 7) rfl ?_
    refine x_if (a' := 14) (pc' := 10) (z := true) rfl rfl rfl (by decide) (fun _ => ?_) (fun h => by cases h)
    refine x_iconst (pc' := 15) rfl rfl ?_
    refine x_istore (pc' := 17) (ls' := [_, _, _, _, _, _, _, _]) rfl rfl rfl rfl ?_
    refine x_iconst (pc' := 18) rfl rfl ?_
    refine x_istore (pc' := 20) (ls' := [_, _, _, _, _, _, _, _]) rfl rfl rfl rfl ?_
    refine x_iload (pc' := 22) rfl rfl rfl ?_
    refine x_iconst (pc' := 23) rfl rfl ?_
    refine x_icmp (a' := 89) (pc' := 26) (z := false) rfl rfl rfl (by decide) (fun h => by cases h) (fun _ => ?_)
    refine x_aload_n (pc' := 27) rfl rfl rfl rfl rfl ?_
    refine x_aload_n (pc' := 28) rfl rfl rfl rfl rfl ?_
    refine x_iload_n (pc' := 29) rfl rfl rfl ?_
    refine x_iload (pc' := 31) rfl rfl rfl ?_
    refine x_cv (ls0 := [_, _, _, _, sJk, sJk]) (rest := []) rfl rfl rfl rfl rfl ?_
    refine x_aload_n (pc' := 1) rfl rfl rfl rfl rfl ?_
    refine x_gI (pc' := 4) (x := 0) rfl rfl rfl (z_I_64_0 e) ?_
    refine x_iconst (pc' := 5) rfl rfl ?_
    refine x_imul (pc' := 6) (z := 0) rfl rfl (by decide) ?_
    refine x_iload_n (pc' := 7) rfl rfl rfl ?_
    refine x_iadd (pc' := 8) (z := 0) rfl rfl (by decide) ?_
    refine x_iconst (pc' := 9) rfl rfl ?_
    refine x_imul (pc' := 10) (z := 0) rfl rfl (by decide) ?_
    refine x_iload_n (pc' := 11) rfl rfl rfl ?_
    refine x_iadd (pc' := 12) (z := 0) rfl rfl (by decide) ?_
    refine x_istore (pc' := 14) (ls' := [_, _, _, _, _, _]) rfl rfl rfl rfl ?_
    refine x_iload_n (pc' := 15) rfl rfl rfl ?_
    refine x_if (a' := 36) (pc' := 18) (z := false) rfl rfl rfl (by decide) (fun h => by cases h) (fun _ => ?_)
    refine x_iload_n (pc' := 19) rfl rfl rfl ?_
    refine x_iconst (pc' := 20) rfl rfl ?_
    refine x_icmp (a' := 36) (pc' := 23) (z := false) rfl rfl rfl (by decide) (fun h => by cases h) (fun _ => ?_)
    refine x_iload_n (pc' := 24) rfl rfl rfl ?_
    refine x_if (a' := 36) (pc' := 27) (z := false) rfl rfl rfl (by decide) (fun h => by cases h) (fun _ => ?_)
    refine x_iload_n (pc' := 28) rfl rfl rfl ?_
    refine x_iconst (pc' := 29) rfl rfl ?_
    refine x_icmp (a' := 36) (pc' := 32) (z := false) rfl rfl rfl (by decide) (fun h => by cases h) (fun _ => ?_)
    refine x_iconst (pc' := 33) rfl rfl ?_
    refine x_goto (pc' := 37) rfl rfl ?_
    refine x_istore (pc' := 39) (ls' := [_, _, _, _, _, _]) rfl rfl rfl rfl ?_
    refine x_iload (pc' := 41) rfl rfl rfl ?_
    refine x_if (a' := 67) (pc' := 44) (z := false) rfl rfl rfl (by decide) (fun h => by cases h) (fun _ => ?_)
    refine x_iload (pc' := 46) rfl rfl rfl ?_
    refine x_if (a' := 67) (pc' := 49) (z := false) rfl rfl rfl (by decide) (fun h => by cases h) (fun _ => ?_)
    refine x_iload (pc' := 51) rfl rfl rfl ?_
    refine x_getstatic (pc' := 54) rfl rfl (show 0 < sC t 28 from z_st0 e) ?_
    refine x_alen (pc' := 55) (N := 45) rfl rfl rfl (z_N_28_0 e) (?_ : X _ _ _ (.inl 45 :: _) _ _)
    refine x_icmp (a' := 67) (pc' := 58) (z := false) rfl rfl rfl (by decide) (fun h => by cases h) (fun _ => ?_)
    refine x_getstatic (pc' := 61) rfl rfl (show 0 < sC t 28 from z_st0 e) ?_
    refine x_iload (pc' := 63) rfl rfl rfl ?_
    refine x_iald (pc' := 64) (N := 45) (x := 1) rfl rfl rfl (z_N_28_0 e) (io_in (p := 0) (N := 45) (by decide) (by decide)) (Eq.trans (congrArg (sA t 28 0) (nn_io (p := 0) (by decide))) (z_A_28_0_0 e)) ?_
    refine x_goto (pc' := 68) rfl rfl ?_
    refine x_reti rfl rfl ?_
    refine sK_i (pc' := 34) rfl ?_
    refine x_istore (pc' := 36) (ls' := [_, _, _, _, _, _, _, _]) rfl rfl rfl rfl ?_
    refine x_iload (pc' := 38) rfl rfl rfl ?_
    refine x_if (a' := 83) (pc' := 41) (z := false) rfl rfl rfl (by decide) (fun h => by cases h) (fun _ => ?_)
    refine x_aload_n (pc' := 42) rfl rfl rfl rfl rfl ?_
    refine x_iload (pc' := 44) rfl rfl rfl ?_
    refine x_iload_n (pc' := 45) rfl rfl rfl ?_
    refine x_cv (ls0 := [_, _, _, sJk]) (rest := []) rfl rfl rfl rfl rfl ?_
    refine x_iload_n (pc' := 1) rfl rfl rfl ?_
    refine x_abs (pc' := 4) (z := 1) rfl rfl rfl (by decide) ?_
    refine x_iconst (pc' := 5) rfl rfl ?_
    refine x_isub (pc' := 6) (z := 0) rfl rfl (by decide) ?_
    refine x_istore_n (pc' := 7) (ls' := [_, _, _, _]) rfl rfl rfl rfl ?_
    refine x_iload_n (pc' := 8) rfl rfl rfl ?_
    refine x_if (a' := 33) (pc' := 11) (z := false) rfl rfl rfl (by decide) (fun h => by cases h) (fun _ => ?_)
    refine x_iload_n (pc' := 12) rfl rfl rfl ?_
    refine x_aload_n (pc' := 13) rfl rfl rfl rfl rfl ?_
    refine x_gR (pc' := 16) (r := (some 0)) rfl rfl rfl (z_R_640_0 e) ?_
    refine x_alen (pc' := 17) (N := 5) rfl rfl rfl (z_N_24_0 e) (?_ : X _ _ _ (.inl 5 :: _) _ _)
    refine x_icmp (a' := 33) (pc' := 20) (z := false) rfl rfl rfl (by decide) (fun h => by cases h) (fun _ => ?_)
    refine x_aload_n (pc' := 21) rfl rfl rfl rfl rfl ?_
    refine x_gR (pc' := 24) (r := (some 0)) rfl rfl rfl (z_R_640_0 e) ?_
    refine x_iload_n (pc' := 25) rfl rfl rfl ?_
    refine x_aald (pc' := 26) (N := 5) (k' := 1) (r := (some 0)) rfl rfl rfl (z_N_24_0 e) (io_in (p := 0) (N := 5) (by decide) (by decide)) (Eq.trans (congrArg (sE t 24 0) (nn_io (p := 0) (by decide))) (z_E_24_0_0 e)) ?_
    refine x_gI (pc' := 29) (x := 0) rfl rfl rfl (z_I_67_0 e) ?_
    refine x_iconst (pc' := 30) rfl rfl ?_
    refine x_icmp (a' := 35) (pc' := 33) (z := false) rfl rfl rfl (by decide) (fun h => by cases h) (fun _ => ?_)
    refine x_null (pc' := 34) rfl rfl rfl ?_
    refine x_reta rfl rfl ?_
    refine sK_i (pc' := 48) rfl ?_
    refine x_astore (pc' := 50) (ls' := [_, _, _, _, _, _, _, _]) rfl rfl rfl rfl rfl ?_
    refine x_aload (pc' := 52) rfl rfl rfl rfl rfl ?_
    refine x_ifnonnull (a' := 59) (pc' := 55) rfl rfl rfl rfl (fun i h => by cases h) (fun _ => ?_)
    refine x_sipush (pc' := 58) rfl rfl ?_
    refine x_reti rfl rfl ?_
    refine sK_i (pc' := 24) rfl ?_
    refine x_istore (pc' := 26) (ls' := [_, _, _, _, _, _, _, _]) rfl rfl rfl rfl ?_
    refine x_iload_n (pc' := 27) rfl rfl rfl ?_
    have J31 : X 82 57 [.inr (.inr (10, (some 0))), .inr (.inr (1, (some 0))), .inl (bz (!(decide ((xs 2) = 0)))), .inl (-1), .inl (-10000), .inl 0, .inl (-10000), sJk] [.inl 0] t (sK 82 110 17 [.inr (.inr (11, (some 0))), .inl 0, .inl (bz (!(decide ((xs 2) = 0)))), .inr (.inr (1, (some 0)))] [.inr (.inr (1, (some 0))), .inr (.inr (10, (some 0)))] (sK 110 284 5 [.inr (.inr (11, (some 0))), .inl 0, .inl (bz (!(decide ((xs 2) = 0)))), .inr (.inr (23, (some 0))), sJk] [.inl 0, .inr (.inr (23, (some 0)))] (sK 284 297 2122 [.inr (.inr (29, (some 0))), .inr (.inr (11, (some 0))), .inr (.inr (12, (some 0))), .inr (.inr (23, (some 0))), .inl 0, sJk, sJk] [] Qp))) := by
      refine x_istore (pc' := 59) (ls' := [_, _, _, _, _, _, _, _]) rfl rfl rfl rfl ?_
      refine x_iload (pc' := 61) rfl rfl rfl ?_
      refine x_sipush (pc' := 64) rfl rfl ?_
      refine x_icmp (a' := 84) (pc' := 67) (z := true) rfl rfl rfl (by decide) (fun _ => ?_) (fun h => by cases h)
      refine x_iinc (pc' := 87) (y := 1) (ls' := [_, _, _, _, _, _, _, _]) rfl rfl rfl rfl rfl ?_
      refine x_goto (pc' := 10) rfl rfl ?_
      refine x_iload (pc' := 12) rfl rfl rfl ?_
      refine x_iconst (pc' := 13) rfl rfl ?_
      refine x_icmp (a' := 90) (pc' := 16) (z := false) rfl rfl rfl (by decide) (fun h => by cases h) (fun _ => ?_)
      refine x_aload_n (pc' := 17) rfl rfl rfl rfl rfl ?_
      refine x_aload_n (pc' := 18) rfl rfl rfl rfl rfl ?_
      refine x_iload (pc' := 20) rfl rfl rfl ?_
      refine x_iload_n (pc' := 21) rfl rfl rfl ?_
      refine x_cv (ls0 := [_, _, _, _, sJk, sJk, sJk, sJk]) (rest := []) rfl rfl rfl rfl rfl ?_
      refine x_aload_n (pc' := 1) rfl rfl rfl rfl rfl ?_
      refine x_aload_n (pc' := 2) rfl rfl rfl rfl rfl ?_
      refine x_iload_n (pc' := 3) rfl rfl rfl ?_
      refine x_iconst (pc' := 4) rfl rfl ?_
      refine x_cv (ls0 := [_, _, _, _, sJk, sJk]) (rest := []) rfl rfl rfl rfl rfl ?_
      refine x_aload_n (pc' := 1) rfl rfl rfl rfl rfl ?_
      refine x_gI (pc' := 4) (x := 0) rfl rfl rfl (z_I_64_0 e) ?_
      refine x_iconst (pc' := 5) rfl rfl ?_
      refine x_imul (pc' := 6) (z := 0) rfl rfl (by decide) ?_
      refine x_iload_n (pc' := 7) rfl rfl rfl ?_
      refine x_iadd (pc' := 8) (z := 1) rfl rfl (by decide) ?_
      refine x_iconst (pc' := 9) rfl rfl ?_
      refine x_imul (pc' := 10) (z := 3) rfl rfl (by decide) ?_
      refine x_iload_n (pc' := 11) rfl rfl rfl ?_
      refine x_iadd (pc' := 12) (z := 3) rfl rfl (by decide) ?_
      refine x_istore (pc' := 14) (ls' := [_, _, _, _, _, _]) rfl rfl rfl rfl ?_
      refine x_iload_n (pc' := 15) rfl rfl rfl ?_
      refine x_if (a' := 36) (pc' := 18) (z := false) rfl rfl rfl (by decide) (fun h => by cases h) (fun _ => ?_)
      refine x_iload_n (pc' := 19) rfl rfl rfl ?_
      refine x_iconst (pc' := 20) rfl rfl ?_
      refine x_icmp (a' := 36) (pc' := 23) (z := false) rfl rfl rfl (by decide) (fun h => by cases h) (fun _ => ?_)
      refine x_iload_n (pc' := 24) rfl rfl rfl ?_
      refine x_if (a' := 36) (pc' := 27) (z := false) rfl rfl rfl (by decide) (fun h => by cases h) (fun _ => ?_)
      refine x_iload_n (pc' := 28) rfl rfl rfl ?_
      refine x_iconst (pc' := 29) rfl rfl ?_
      refine x_icmp (a' := 36) (pc' := 32) (z := false) rfl rfl rfl (by decide) (fun h => by cases h) (fun _ => ?_)
      refine x_iconst (pc' := 33) rfl rfl ?_
      refine x_goto (pc' := 37) rfl rfl ?_
      refine x_istore (pc' := 39) (ls' := [_, _, _, _, _, _]) rfl rfl rfl rfl ?_
      refine x_iload (pc' := 41) rfl rfl rfl ?_
      refine x_if (a' := 67) (pc' := 44) (z := false) rfl rfl rfl (by decide) (fun h => by cases h) (fun _ => ?_)
      refine x_iload (pc' := 46) rfl rfl rfl ?_
      refine x_if (a' := 67) (pc' := 49) (z := false) rfl rfl rfl (by decide) (fun h => by cases h) (fun _ => ?_)
      refine x_iload (pc' := 51) rfl rfl rfl ?_
      refine x_getstatic (pc' := 54) rfl rfl (show 0 < sC t 28 from z_st0 e) ?_
      refine x_alen (pc' := 55) (N := 45) rfl rfl rfl (z_N_28_0 e) (?_ : X _ _ _ (.inl 45 :: _) _ _)
      refine x_icmp (a' := 67) (pc' := 58) (z := false) rfl rfl rfl (by decide) (fun h => by cases h) (fun _ => ?_)
      refine x_getstatic (pc' := 61) rfl rfl (show 0 < sC t 28 from z_st0 e) ?_
      refine x_iload (pc' := 63) rfl rfl rfl ?_
      refine x_iald (pc' := 64) (N := 45) (x := 4) rfl rfl rfl (z_N_28_0 e) (io_in (p := 3) (N := 45) (by decide) (by decide)) (Eq.trans (congrArg (sA t 28 0) (nn_io (p := 3) (by decide))) (z_A_28_0_3 e)) ?_
      refine x_goto (pc' := 68) rfl rfl ?_
      refine x_reti rfl rfl ?_
      refine sK_i (pc' := 7) rfl ?_
      refine x_if (a' := 14) (pc' := 10) (z := true) rfl rfl rfl (by decide) (fun _ => ?_) (fun h => by cases h)
      refine x_iconst (pc' := 15) rfl rfl ?_
      refine x_istore (pc' := 17) (ls' := [_, _, _, _, _, _, _, _]) rfl rfl rfl rfl ?_
      refine x_iconst (pc' := 18) rfl rfl ?_
      refine x_istore (pc' := 20) (ls' := [_, _, _, _, _, _, _, _]) rfl rfl rfl rfl ?_
      refine x_iload (pc' := 22) rfl rfl rfl ?_
      refine x_iconst (pc' := 23) rfl rfl ?_
      refine x_icmp (a' := 89) (pc' := 26) (z := false) rfl rfl rfl (by decide) (fun h => by cases h) (fun _ => ?_)
      refine x_aload_n (pc' := 27) rfl rfl rfl rfl rfl ?_
      refine x_aload_n (pc' := 28) rfl rfl rfl rfl rfl ?_
      refine x_iload_n (pc' := 29) rfl rfl rfl ?_
      refine x_iload (pc' := 31) rfl rfl rfl ?_
      refine x_cv (ls0 := [_, _, _, _, sJk, sJk]) (rest := []) rfl rfl rfl rfl rfl ?_
      refine x_aload_n (pc' := 1) rfl rfl rfl rfl rfl ?_
      refine x_gI (pc' := 4) (x := 0) rfl rfl rfl (z_I_64_0 e) ?_
      refine x_iconst (pc' := 5) rfl rfl ?_
      refine x_imul (pc' := 6) (z := 0) rfl rfl (by decide) ?_
      refine x_iload_n (pc' := 7) rfl rfl rfl ?_
      refine x_iadd (pc' := 8) (z := 1) rfl rfl (by decide) ?_
      refine x_iconst (pc' := 9) rfl rfl ?_
      refine x_imul (pc' := 10) (z := 3) rfl rfl (by decide) ?_
      refine x_iload_n (pc' := 11) rfl rfl rfl ?_
      refine x_iadd (pc' := 12) (z := 3) rfl rfl (by decide) ?_
      refine x_istore (pc' := 14) (ls' := [_, _, _, _, _, _]) rfl rfl rfl rfl ?_
      refine x_iload_n (pc' := 15) rfl rfl rfl ?_
      refine x_if (a' := 36) (pc' := 18) (z := false) rfl rfl rfl (by decide) (fun h => by cases h) (fun _ => ?_)
      refine x_iload_n (pc' := 19) rfl rfl rfl ?_
      refine x_iconst (pc' := 20) rfl rfl ?_
      refine x_icmp (a' := 36) (pc' := 23) (z := false) rfl rfl rfl (by decide) (fun h => by cases h) (fun _ => ?_)
      refine x_iload_n (pc' := 24) rfl rfl rfl ?_
      refine x_if (a' := 36) (pc' := 27) (z := false) rfl rfl rfl (by decide) (fun h => by cases h) (fun _ => ?_)
      refine x_iload_n (pc' := 28) rfl rfl rfl ?_
      refine x_iconst (pc' := 29) rfl rfl ?_
      refine x_icmp (a' := 36) (pc' := 32) (z := false) rfl rfl rfl (by decide) (fun h => by cases h) (fun _ => ?_)
      refine x_iconst (pc' := 33) rfl rfl ?_
      refine x_goto (pc' := 37) rfl rfl ?_
      refine x_istore (pc' := 39) (ls' := [_, _, _, _, _, _]) rfl rfl rfl rfl ?_
      refine x_iload (pc' := 41) rfl rfl rfl ?_
      refine x_if (a' := 67) (pc' := 44) (z := false) rfl rfl rfl (by decide) (fun h => by cases h) (fun _ => ?_)
      refine x_iload (pc' := 46) rfl rfl rfl ?_
      refine x_if (a' := 67) (pc' := 49) (z := false) rfl rfl rfl (by decide) (fun h => by cases h) (fun _ => ?_)
      refine x_iload (pc' := 51) rfl rfl rfl ?_
      refine x_getstatic (pc' := 54) rfl rfl (show 0 < sC t 28 from z_st0 e) ?_
      refine x_alen (pc' := 55) (N := 45) rfl rfl rfl (z_N_28_0 e) (?_ : X _ _ _ (.inl 45 :: _) _ _)
      refine x_icmp (a' := 67) (pc' := 58) (z := false) rfl rfl rfl (by decide) (fun h => by cases h) (fun _ => ?_)
      refine x_getstatic (pc' := 61) rfl rfl (show 0 < sC t 28 from z_st0 e) ?_
      refine x_iload (pc' := 63) rfl rfl rfl ?_
      refine x_iald (pc' := 64) (N := 45) (x := 4) rfl rfl rfl (z_N_28_0 e) (io_in (p := 3) (N := 45) (by decide) (by decide)) (Eq.trans (congrArg (sA t 28 0) (nn_io (p := 3) (by decide))) (z_A_28_0_3 e)) ?_
      refine x_goto (pc' := 68) rfl rfl ?_
      refine x_reti rfl rfl ?_
      refine sK_i (pc' := 34) rfl ?_
      refine x_istore (pc' := 36) (ls' := [_, _, _, _, _, _, _, _]) rfl rfl rfl rfl ?_
      refine x_iload (pc' := 38) rfl rfl rfl ?_
      refine x_if (a' := 83) (pc' := 41) (z := false) rfl rfl rfl (by decide) (fun h => by cases h) (fun _ => ?_)
      refine x_aload_n (pc' := 42) rfl rfl rfl rfl rfl ?_
      refine x_iload (pc' := 44) rfl rfl rfl ?_
      refine x_iload_n (pc' := 45) rfl rfl rfl ?_
      refine x_cv (ls0 := [_, _, _, sJk]) (rest := []) rfl rfl rfl rfl rfl ?_
      refine x_iload_n (pc' := 1) rfl rfl rfl ?_
      refine x_abs (pc' := 4) (z := 4) rfl rfl rfl (by decide) ?_
      refine x_iconst (pc' := 5) rfl rfl ?_
      refine x_isub (pc' := 6) (z := 3) rfl rfl (by decide) ?_
      refine x_istore_n (pc' := 7) (ls' := [_, _, _, _]) rfl rfl rfl rfl ?_
      refine x_iload_n (pc' := 8) rfl rfl rfl ?_
      refine x_if (a' := 33) (pc' := 11) (z := false) rfl rfl rfl (by decide) (fun h => by cases h) (fun _ => ?_)
      refine x_iload_n (pc' := 12) rfl rfl rfl ?_
      refine x_aload_n (pc' := 13) rfl rfl rfl rfl rfl ?_
      refine x_gR (pc' := 16) (r := (some 0)) rfl rfl rfl (z_R_640_0 e) ?_
      refine x_alen (pc' := 17) (N := 5) rfl rfl rfl (z_N_24_0 e) (?_ : X _ _ _ (.inl 5 :: _) _ _)
      refine x_icmp (a' := 33) (pc' := 20) (z := false) rfl rfl rfl (by decide) (fun h => by cases h) (fun _ => ?_)
      refine x_aload_n (pc' := 21) rfl rfl rfl rfl rfl ?_
      refine x_gR (pc' := 24) (r := (some 0)) rfl rfl rfl (z_R_640_0 e) ?_
      refine x_iload_n (pc' := 25) rfl rfl rfl ?_
      refine x_aald (pc' := 26) (N := 5) (k' := 1) (r := (some 3)) rfl rfl rfl (z_N_24_0 e) (io_in (p := 3) (N := 5) (by decide) (by decide)) (Eq.trans (congrArg (sE t 24 0) (nn_io (p := 3) (by decide))) (z_E_24_0_3 e)) ?_
      refine x_gI (pc' := 29) (x := 0) rfl rfl rfl (z_I_67_3 e) ?_
      refine x_iconst (pc' := 30) rfl rfl ?_
      refine x_icmp (a' := 35) (pc' := 33) (z := false) rfl rfl rfl (by decide) (fun h => by cases h) (fun _ => ?_)
      refine x_null (pc' := 34) rfl rfl rfl ?_
      refine x_reta rfl rfl ?_
      refine sK_i (pc' := 48) rfl ?_
      refine x_astore (pc' := 50) (ls' := [_, _, _, _, _, _, _, _]) rfl rfl rfl rfl rfl ?_
      refine x_aload (pc' := 52) rfl rfl rfl rfl rfl ?_
      refine x_ifnonnull (a' := 59) (pc' := 55) rfl rfl rfl rfl (fun i h => by cases h) (fun _ => ?_)
      refine x_sipush (pc' := 58) rfl rfl ?_
      refine x_reti rfl rfl ?_
      refine sK_i (pc' := 24) rfl ?_
      refine x_istore (pc' := 26) (ls' := [_, _, _, _, _, _, _, _]) rfl rfl rfl rfl ?_
      refine x_iload_n (pc' := 27) rfl rfl rfl ?_
      have J58 : X 82 57 [.inr (.inr (10, (some 0))), .inr (.inr (1, (some 0))), .inl (bz (!(decide ((xs 2) = 0)))), .inl (-1), .inl (-10000), .inl 1, .inl (-10000), .inl 0] [.inl 0] t (sK 82 110 17 [.inr (.inr (11, (some 0))), .inl 0, .inl (bz (!(decide ((xs 2) = 0)))), .inr (.inr (1, (some 0)))] [.inr (.inr (1, (some 0))), .inr (.inr (10, (some 0)))] (sK 110 284 5 [.inr (.inr (11, (some 0))), .inl 0, .inl (bz (!(decide ((xs 2) = 0)))), .inr (.inr (23, (some 0))), sJk] [.inl 0, .inr (.inr (23, (some 0)))] (sK 284 297 2122 [.inr (.inr (29, (some 0))), .inr (.inr (11, (some 0))), .inr (.inr (12, (some 0))), .inr (.inr (23, (some 0))), .inl 0, sJk, sJk] [] Qp))) := by
        refine x_istore (pc' := 59) (ls' := [_, _, _, _, _, _, _, _]) rfl rfl rfl rfl ?_
        refine x_iload (pc' := 61) rfl rfl rfl ?_
        refine x_sipush (pc' := 64) rfl rfl ?_
        refine x_icmp (a' := 84) (pc' := 67) (z := true) rfl rfl rfl (by decide) (fun _ => ?_) (fun h => by cases h)
        refine x_iinc (pc' := 87) (y := 2) (ls' := [_, _, _, _, _, _, _, _]) rfl rfl rfl rfl rfl ?_
        refine x_goto (pc' := 10) rfl rfl ?_
        refine x_iload (pc' := 12) rfl rfl rfl ?_
        refine x_iconst (pc' := 13) rfl rfl ?_
        refine x_icmp (a' := 90) (pc' := 16) (z := false) rfl rfl rfl (by decide) (fun h => by cases h) (fun _ => ?_)
        refine x_aload_n (pc' := 17) rfl rfl rfl rfl rfl ?_
        refine x_aload_n (pc' := 18) rfl rfl rfl rfl rfl ?_
        refine x_iload (pc' := 20) rfl rfl rfl ?_
        refine x_iload_n (pc' := 21) rfl rfl rfl ?_
        refine x_cv (ls0 := [_, _, _, _, sJk, sJk, sJk, sJk]) (rest := []) rfl rfl rfl rfl rfl ?_
        refine x_aload_n (pc' := 1) rfl rfl rfl rfl rfl ?_
        refine x_aload_n (pc' := 2) rfl rfl rfl rfl rfl ?_
        refine x_iload_n (pc' := 3) rfl rfl rfl ?_
        refine x_iconst (pc' := 4) rfl rfl ?_
        refine x_cv (ls0 := [_, _, _, _, sJk, sJk]) (rest := []) rfl rfl rfl rfl rfl ?_
        refine x_aload_n (pc' := 1) rfl rfl rfl rfl rfl ?_
        refine x_gI (pc' := 4) (x := 0) rfl rfl rfl (z_I_64_0 e) ?_
        refine x_iconst (pc' := 5) rfl rfl ?_
        refine x_imul (pc' := 6) (z := 0) rfl rfl (by decide) ?_
        refine x_iload_n (pc' := 7) rfl rfl rfl ?_
        refine x_iadd (pc' := 8) (z := 2) rfl rfl (by decide) ?_
        refine x_iconst (pc' := 9) rfl rfl ?_
        refine x_imul (pc' := 10) (z := 6) rfl rfl (by decide) ?_
        refine x_iload_n (pc' := 11) rfl rfl rfl ?_
        refine x_iadd (pc' := 12) (z := 6) rfl rfl (by decide) ?_
        refine x_istore (pc' := 14) (ls' := [_, _, _, _, _, _]) rfl rfl rfl rfl ?_
        refine x_iload_n (pc' := 15) rfl rfl rfl ?_
        refine x_if (a' := 36) (pc' := 18) (z := false) rfl rfl rfl (by decide) (fun h => by cases h) (fun _ => ?_)
        refine x_iload_n (pc' := 19) rfl rfl rfl ?_
        refine x_iconst (pc' := 20) rfl rfl ?_
        refine x_icmp (a' := 36) (pc' := 23) (z := false) rfl rfl rfl (by decide) (fun h => by cases h) (fun _ => ?_)
        refine x_iload_n (pc' := 24) rfl rfl rfl ?_
        refine x_if (a' := 36) (pc' := 27) (z := false) rfl rfl rfl (by decide) (fun h => by cases h) (fun _ => ?_)
        refine x_iload_n (pc' := 28) rfl rfl rfl ?_
        refine x_iconst (pc' := 29) rfl rfl ?_
        refine x_icmp (a' := 36) (pc' := 32) (z := false) rfl rfl rfl (by decide) (fun h => by cases h) (fun _ => ?_)
        refine x_iconst (pc' := 33) rfl rfl ?_
        refine x_goto (pc' := 37) rfl rfl ?_
        refine x_istore (pc' := 39) (ls' := [_, _, _, _, _, _]) rfl rfl rfl rfl ?_
        refine x_iload (pc' := 41) rfl rfl rfl ?_
        refine x_if (a' := 67) (pc' := 44) (z := false) rfl rfl rfl (by decide) (fun h => by cases h) (fun _ => ?_)
        refine x_iload (pc' := 46) rfl rfl rfl ?_
        refine x_if (a' := 67) (pc' := 49) (z := false) rfl rfl rfl (by decide) (fun h => by cases h) (fun _ => ?_)
        refine x_iload (pc' := 51) rfl rfl rfl ?_
        refine x_getstatic (pc' := 54) rfl rfl (show 0 < sC t 28 from z_st0 e) ?_
        refine x_alen (pc' := 55) (N := 45) rfl rfl rfl (z_N_28_0 e) (?_ : X _ _ _ (.inl 45 :: _) _ _)
        refine x_icmp (a' := 67) (pc' := 58) (z := false) rfl rfl rfl (by decide) (fun h => by cases h) (fun _ => ?_)
        refine x_getstatic (pc' := 61) rfl rfl (show 0 < sC t 28 from z_st0 e) ?_
        refine x_iload (pc' := 63) rfl rfl rfl ?_
        refine x_iald (pc' := 64) (N := 45) (x := 4) rfl rfl rfl (z_N_28_0 e) (io_in (p := 6) (N := 45) (by decide) (by decide)) (Eq.trans (congrArg (sA t 28 0) (nn_io (p := 6) (by decide))) (z_A_28_0_6 e)) ?_
        refine x_goto (pc' := 68) rfl rfl ?_
        refine x_reti rfl rfl ?_
        refine sK_i (pc' := 7) rfl ?_
        refine x_if (a' := 14) (pc' := 10) (z := true) rfl rfl rfl (by decide) (fun _ => ?_) (fun h => by cases h)
        refine x_iconst (pc' := 15) rfl rfl ?_
        refine x_istore (pc' := 17) (ls' := [_, _, _, _, _, _, _, _]) rfl rfl rfl rfl ?_
        refine x_iconst (pc' := 18) rfl rfl ?_
        refine x_istore (pc' := 20) (ls' := [_, _, _, _, _, _, _, _]) rfl rfl rfl rfl ?_
        refine x_iload (pc' := 22) rfl rfl rfl ?_
        refine x_iconst (pc' := 23) rfl rfl ?_
        refine x_icmp (a' := 89) (pc' := 26) (z := false) rfl rfl rfl (by decide) (fun h => by cases h) (fun _ => ?_)
        refine x_aload_n (pc' := 27) rfl rfl rfl rfl rfl ?_
        refine x_aload_n (pc' := 28) rfl rfl rfl rfl rfl ?_
        refine x_iload_n (pc' := 29) rfl rfl rfl ?_
        refine x_iload (pc' := 31) rfl rfl rfl ?_
        refine x_cv (ls0 := [_, _, _, _, sJk, sJk]) (rest := []) rfl rfl rfl rfl rfl ?_
        refine x_aload_n (pc' := 1) rfl rfl rfl rfl rfl ?_
        refine x_gI (pc' := 4) (x := 0) rfl rfl rfl (z_I_64_0 e) ?_
        refine x_iconst (pc' := 5) rfl rfl ?_
        refine x_imul (pc' := 6) (z := 0) rfl rfl (by decide) ?_
        refine x_iload_n (pc' := 7) rfl rfl rfl ?_
        refine x_iadd (pc' := 8) (z := 2) rfl rfl (by decide) ?_
        refine x_iconst (pc' := 9) rfl rfl ?_
        refine x_imul (pc' := 10) (z := 6) rfl rfl (by decide) ?_
        refine x_iload_n (pc' := 11) rfl rfl rfl ?_
        refine x_iadd (pc' := 12) (z := 6) rfl rfl (by decide) ?_
        refine x_istore (pc' := 14) (ls' := [_, _, _, _, _, _]) rfl rfl rfl rfl ?_
        refine x_iload_n (pc' := 15) rfl rfl rfl ?_
        refine x_if (a' := 36) (pc' := 18) (z := false) rfl rfl rfl (by decide) (fun h => by cases h) (fun _ => ?_)
        refine x_iload_n (pc' := 19) rfl rfl rfl ?_
        refine x_iconst (pc' := 20) rfl rfl ?_
        refine x_icmp (a' := 36) (pc' := 23) (z := false) rfl rfl rfl (by decide) (fun h => by cases h) (fun _ => ?_)
        refine x_iload_n (pc' := 24) rfl rfl rfl ?_
        refine x_if (a' := 36) (pc' := 27) (z := false) rfl rfl rfl (by decide) (fun h => by cases h) (fun _ => ?_)
        refine x_iload_n (pc' := 28) rfl rfl rfl ?_
        refine x_iconst (pc' := 29) rfl rfl ?_
        refine x_icmp (a' := 36) (pc' := 32) (z := false) rfl rfl rfl (by decide) (fun h => by cases h) (fun _ => ?_)
        refine x_iconst (pc' := 33) rfl rfl ?_
        refine x_goto (pc' := 37) rfl rfl ?_
        refine x_istore (pc' := 39) (ls' := [_, _, _, _, _, _]) rfl rfl rfl rfl ?_
        refine x_iload (pc' := 41) rfl rfl rfl ?_
        refine x_if (a' := 67) (pc' := 44) (z := false) rfl rfl rfl (by decide) (fun h => by cases h) (fun _ => ?_)
        refine x_iload (pc' := 46) rfl rfl rfl ?_
        refine x_if (a' := 67) (pc' := 49) (z := false) rfl rfl rfl (by decide) (fun h => by cases h) (fun _ => ?_)
        refine x_iload (pc' := 51) rfl rfl rfl ?_
        refine x_getstatic (pc' := 54) rfl rfl (show 0 < sC t 28 from z_st0 e) ?_
        refine x_alen (pc' := 55) (N := 45) rfl rfl rfl (z_N_28_0 e) (?_ : X _ _ _ (.inl 45 :: _) _ _)
        refine x_icmp (a' := 67) (pc' := 58) (z := false) rfl rfl rfl (by decide) (fun h => by cases h) (fun _ => ?_)
        refine x_getstatic (pc' := 61) rfl rfl (show 0 < sC t 28 from z_st0 e) ?_
        refine x_iload (pc' := 63) rfl rfl rfl ?_
        refine x_iald (pc' := 64) (N := 45) (x := 4) rfl rfl rfl (z_N_28_0 e) (io_in (p := 6) (N := 45) (by decide) (by decide)) (Eq.trans (congrArg (sA t 28 0) (nn_io (p := 6) (by decide))) (z_A_28_0_6 e)) ?_
        refine x_goto (pc' := 68) rfl rfl ?_
        refine x_reti rfl rfl ?_
        refine sK_i (pc' := 34) rfl ?_
        refine x_istore (pc' := 36) (ls' := [_, _, _, _, _, _, _, _]) rfl rfl rfl rfl ?_
        refine x_iload (pc' := 38) rfl rfl rfl ?_
        refine x_if (a' := 83) (pc' := 41) (z := false) rfl rfl rfl (by decide) (fun h => by cases h) (fun _ => ?_)
        refine x_aload_n (pc' := 42) rfl rfl rfl rfl rfl ?_
        refine x_iload (pc' := 44) rfl rfl rfl ?_
        refine x_iload_n (pc' := 45) rfl rfl rfl ?_
        refine x_cv (ls0 := [_, _, _, sJk]) (rest := []) rfl rfl rfl rfl rfl ?_
        refine x_iload_n (pc' := 1) rfl rfl rfl ?_
        refine x_abs (pc' := 4) (z := 4) rfl rfl rfl (by decide) ?_
        refine x_iconst (pc' := 5) rfl rfl ?_
        refine x_isub (pc' := 6) (z := 3) rfl rfl (by decide) ?_
        refine x_istore_n (pc' := 7) (ls' := [_, _, _, _]) rfl rfl rfl rfl ?_
        refine x_iload_n (pc' := 8) rfl rfl rfl ?_
        refine x_if (a' := 33) (pc' := 11) (z := false) rfl rfl rfl (by decide) (fun h => by cases h) (fun _ => ?_)
        refine x_iload_n (pc' := 12) rfl rfl rfl ?_
        refine x_aload_n (pc' := 13) rfl rfl rfl rfl rfl ?_
        refine x_gR (pc' := 16) (r := (some 0)) rfl rfl rfl (z_R_640_0 e) ?_
        refine x_alen (pc' := 17) (N := 5) rfl rfl rfl (z_N_24_0 e) (?_ : X _ _ _ (.inl 5 :: _) _ _)
        refine x_icmp (a' := 33) (pc' := 20) (z := false) rfl rfl rfl (by decide) (fun h => by cases h) (fun _ => ?_)
        refine x_aload_n (pc' := 21) rfl rfl rfl rfl rfl ?_
        refine x_gR (pc' := 24) (r := (some 0)) rfl rfl rfl (z_R_640_0 e) ?_
        refine x_iload_n (pc' := 25) rfl rfl rfl ?_
        refine x_aald (pc' := 26) (N := 5) (k' := 1) (r := (some 3)) rfl rfl rfl (z_N_24_0 e) (io_in (p := 3) (N := 5) (by decide) (by decide)) (Eq.trans (congrArg (sE t 24 0) (nn_io (p := 3) (by decide))) (z_E_24_0_3 e)) ?_
        refine x_gI (pc' := 29) (x := 0) rfl rfl rfl (z_I_67_3 e) ?_
        refine x_iconst (pc' := 30) rfl rfl ?_
        refine x_icmp (a' := 35) (pc' := 33) (z := false) rfl rfl rfl (by decide) (fun h => by cases h) (fun _ => ?_)
        refine x_null (pc' := 34) rfl rfl rfl ?_
        refine x_reta rfl rfl ?_
        refine sK_i (pc' := 48) rfl ?_
        refine x_astore (pc' := 50) (ls' := [_, _, _, _, _, _, _, _]) rfl rfl rfl rfl rfl ?_
        refine x_aload (pc' := 52) rfl rfl rfl rfl rfl ?_
        refine x_ifnonnull (a' := 59) (pc' := 55) rfl rfl rfl rfl (fun i h => by cases h) (fun _ => ?_)
        refine x_sipush (pc' := 58) rfl rfl ?_
        refine x_reti rfl rfl ?_
        refine sK_i (pc' := 24) rfl ?_
        refine x_istore (pc' := 26) (ls' := [_, _, _, _, _, _, _, _]) rfl rfl rfl rfl ?_
        refine x_iload_n (pc' := 27) rfl rfl rfl ?_
        have J85 : X 82 57 [.inr (.inr (10, (some 0))), .inr (.inr (1, (some 0))), .inl (bz (!(decide ((xs 2) = 0)))), .inl (-1), .inl (-10000), .inl 2, .inl (-10000), .inl 0] [.inl 0] t (sK 82 110 17 [.inr (.inr (11, (some 0))), .inl 0, .inl (bz (!(decide ((xs 2) = 0)))), .inr (.inr (1, (some 0)))] [.inr (.inr (1, (some 0))), .inr (.inr (10, (some 0)))] (sK 110 284 5 [.inr (.inr (11, (some 0))), .inl 0, .inl (bz (!(decide ((xs 2) = 0)))), .inr (.inr (23, (some 0))), sJk] [.inl 0, .inr (.inr (23, (some 0)))] (sK 284 297 2122 [.inr (.inr (29, (some 0))), .inr (.inr (11, (some 0))), .inr (.inr (12, (some 0))), .inr (.inr (23, (some 0))), .inl 0, sJk, sJk] [] Qp))) := by
          refine x_istore (pc' := 59) (ls' := [_, _, _, _, _, _, _, _]) rfl rfl rfl rfl ?_
          refine x_iload (pc' := 61) rfl rfl rfl ?_
          refine x_sipush (pc' := 64) rfl rfl ?_
          refine x_icmp (a' := 84) (pc' := 67) (z := true) rfl rfl rfl (by decide) (fun _ => ?_) (fun h => by cases h)
          refine x_iinc (pc' := 87) (y := 3) (ls' := [_, _, _, _, _, _, _, _]) rfl rfl rfl rfl rfl ?_
          refine x_goto (pc' := 10) rfl rfl ?_
          refine x_iload (pc' := 12) rfl rfl rfl ?_
          refine x_iconst (pc' := 13) rfl rfl ?_
          refine x_icmp (a' := 90) (pc' := 16) (z := true) rfl rfl rfl (by decide) (fun _ => ?_) (fun h => by cases h)
          refine x_iload_n (pc' := 91) rfl rfl rfl ?_
          refine x_reti rfl rfl ?_
          refine sK_i (pc' := 20) rfl ?_
          refine x_iload_n (pc' := 21) rfl rfl rfl ?_
          refine x_cv (ls0 := [_, _, _, _, sJk, sJk, sJk, sJk]) (rest := []) rfl rfl rfl rfl rfl ?_
          refine x_aload_n (pc' := 1) rfl rfl rfl rfl rfl ?_
          refine x_aload_n (pc' := 2) rfl rfl rfl rfl rfl ?_
          refine x_iload_n (pc' := 3) rfl rfl rfl ?_
          refine x_iconst (pc' := 4) rfl rfl ?_
          refine x_cv (ls0 := [_, _, _, _, sJk, sJk]) (rest := []) rfl rfl rfl rfl rfl ?_
          refine x_aload_n (pc' := 1) rfl rfl rfl rfl rfl ?_
          refine x_gI (pc' := 4) (x := 0) rfl rfl rfl (z_I_64_0 e) ?_
          refine x_iconst (pc' := 5) rfl rfl ?_
          refine x_imul (pc' := 6) (z := 0) rfl rfl (by decide) ?_
          refine x_iload_n (pc' := 7) rfl rfl rfl ?_
          refine x_iadd (pc' := 8) (z := (-1)) rfl rfl (by decide) ?_
          refine x_iconst (pc' := 9) rfl rfl ?_
          refine x_imul (pc' := 10) (z := (-3)) rfl rfl (by decide) ?_
          refine x_iload_n (pc' := 11) rfl rfl rfl ?_
          refine x_iadd (pc' := 12) (z := (-3)) rfl rfl (by decide) ?_
          refine x_istore (pc' := 14) (ls' := [_, _, _, _, _, _]) rfl rfl rfl rfl ?_
          refine x_iload_n (pc' := 15) rfl rfl rfl ?_
          refine x_if (a' := 36) (pc' := 18) (z := true) rfl rfl rfl (by decide) (fun _ => ?_) (fun h => by cases h)
          refine x_iconst (pc' := 37) rfl rfl ?_
          refine x_istore (pc' := 39) (ls' := [_, _, _, _, _, _]) rfl rfl rfl rfl ?_
          refine x_iload (pc' := 41) rfl rfl rfl ?_
          refine x_if (a' := 67) (pc' := 44) (z := true) rfl rfl rfl (by decide) (fun _ => ?_) (fun h => by cases h)
          refine x_iconst (pc' := 68) rfl rfl ?_
          refine x_reti rfl rfl ?_
          refine sK_i (pc' := 7) rfl ?_
          refine x_if (a' := 14) (pc' := 10) (z := false) rfl rfl rfl (by decide) (fun h => by cases h) (fun _ => ?_)
          refine x_sipush (pc' := 13) rfl rfl ?_
          refine x_reti rfl rfl ?_
          refine sK_i (pc' := 24) rfl ?_
          refine x_reti rfl rfl ?_
          refine sK_i (pc' := 8) rfl ?_
          refine x_i2l (pc' := 9) (z := (-10000 : Int64)) rfl rfl (by decide) ?_
          refine x_last (pc' := 10) (N := 1) (p := 0) rfl rfl (z_N_23_0 e) (io_in (p := 0) (N := 1) (by decide) (by decide)) (nn_io (p := 0) (by decide)) ?_
          refine x_goto (pc' := 17) rfl rfl ?_
          refine x_iconst (pc' := 18) rfl rfl ?_
          refine x_reti rfl rfl ?_
          refine sK_i (pc' := 2125) rfl ?_
          exact k0
        refine x_ifeq_z (a' := 45) (pc' := 30) (z := (!(decide ((xs 2) = 0)))) rfl rfl rfl (fun q83 => ?_) (fun q83 => ?_)
        · refine x_iload (pc' := 47) rfl rfl rfl ?_
          refine x_iload (pc' := 49) rfl rfl rfl ?_
          refine x_icmp (a' := 56) (pc' := 52) (z := true) rfl rfl rfl (by decide) (fun _ => ?_) (fun h => by cases h)
          refine x_iconst (pc' := 57) rfl rfl ?_
          ((try rw [q83] at J85); (try rw [q83]); (try simp only [cd_t, cd_f, nt_t, nt_f, an_t, an_f, or_t, or_f] at J85); (try simp only [cd_t, cd_f, nt_t, nt_f, an_t, an_f, or_t, or_f]); exact J85)
        · refine x_iload (pc' := 32) rfl rfl rfl ?_
          refine x_iload (pc' := 34) rfl rfl rfl ?_
          refine x_icmp (a' := 41) (pc' := 37) (z := true) rfl rfl rfl (by decide) (fun _ => ?_) (fun h => by cases h)
          refine x_iconst (pc' := 42) rfl rfl ?_
          refine x_goto (pc' := 57) rfl rfl ?_
          ((try rw [q83] at J85); (try rw [q83]); (try simp only [cd_t, cd_f, nt_t, nt_f, an_t, an_f, or_t, or_f] at J85); (try simp only [cd_t, cd_f, nt_t, nt_f, an_t, an_f, or_t, or_f]); exact J85)
      refine x_ifeq_z (a' := 45) (pc' := 30) (z := (!(decide ((xs 2) = 0)))) rfl rfl rfl (fun q56 => ?_) (fun q56 => ?_)
      · refine x_iload (pc' := 47) rfl rfl rfl ?_
        refine x_iload (pc' := 49) rfl rfl rfl ?_
        refine x_icmp (a' := 56) (pc' := 52) (z := true) rfl rfl rfl (by decide) (fun _ => ?_) (fun h => by cases h)
        refine x_iconst (pc' := 57) rfl rfl ?_
        ((try rw [q56] at J58); (try rw [q56]); (try simp only [cd_t, cd_f, nt_t, nt_f, an_t, an_f, or_t, or_f] at J58); (try simp only [cd_t, cd_f, nt_t, nt_f, an_t, an_f, or_t, or_f]); exact J58)
      · refine x_iload (pc' := 32) rfl rfl rfl ?_
        refine x_iload (pc' := 34) rfl rfl rfl ?_
        refine x_icmp (a' := 41) (pc' := 37) (z := true) rfl rfl rfl (by decide) (fun _ => ?_) (fun h => by cases h)
        refine x_iconst (pc' := 42) rfl rfl ?_
        refine x_goto (pc' := 57) rfl rfl ?_
        ((try rw [q56] at J58); (try rw [q56]); (try simp only [cd_t, cd_f, nt_t, nt_f, an_t, an_f, or_t, or_f] at J58); (try simp only [cd_t, cd_f, nt_t, nt_f, an_t, an_f, or_t, or_f]); exact J58)
    refine x_ifeq_z (a' := 45) (pc' := 30) (z := (!(decide ((xs 2) = 0)))) rfl rfl rfl (fun q29 => ?_) (fun q29 => ?_)
    · refine x_iload (pc' := 47) rfl rfl rfl ?_
      refine x_iload (pc' := 49) rfl rfl rfl ?_
      refine x_icmp (a' := 56) (pc' := 52) (z := true) rfl rfl rfl (by decide) (fun _ => ?_) (fun h => by cases h)
      refine x_iconst (pc' := 57) rfl rfl ?_
      ((try rw [q29] at J31); (try rw [q29]); (try simp only [cd_t, cd_f, nt_t, nt_f, an_t, an_f, or_t, or_f] at J31); (try simp only [cd_t, cd_f, nt_t, nt_f, an_t, an_f, or_t, or_f]); exact J31)
    · refine x_iload (pc' := 32) rfl rfl rfl ?_
      refine x_iload (pc' := 34) rfl rfl rfl ?_
      refine x_icmp (a' := 41) (pc' := 37) (z := true) rfl rfl rfl (by decide) (fun _ => ?_) (fun h => by cases h)
      refine x_iconst (pc' := 42) rfl rfl ?_
      refine x_goto (pc' := 57) rfl rfl ?_
      ((try rw [q29] at J31); (try rw [q29]); (try simp only [cd_t, cd_f, nt_t, nt_f, an_t, an_f, or_t, or_f] at J31); (try simp only [cd_t, cd_f, nt_t, nt_f, an_t, an_f, or_t, or_f]); exact J31)
  refine x_if (a' := 2120) (pc' := 2116) (z := decide ((xs 2) = 0)) rfl rfl rfl rfl (fun q3 => ?_) (fun q3 => ?_)
  · refine x_iconst (pc' := 2121) rfl rfl ?_
    ((try rw [q3] at J3); (try rw [q3]); (try simp only [cd_t, cd_f, nt_t, nt_f, an_t, an_f, or_t, or_f] at J3); (try simp only [cd_t, cd_f, nt_t, nt_f, an_t, an_f, or_t, or_f]); exact J3)
  · refine x_iconst (pc' := 2117) rfl rfl ?_
    refine x_goto (pc' := 2121) rfl rfl ?_
    ((try rw [q3] at J3); (try rw [q3]); (try simp only [cd_t, cd_f, nt_t, nt_f, an_t, an_f, or_t, or_f] at J3); (try simp only [cd_t, cd_f, nt_t, nt_f, an_t, an_f, or_t, or_f]); exact J3)
set_option maxHeartbeats 4000000 in
set_option maxRecDepth 10000 in
theorem v_26_1_i_2 {t : sT} {xs : Nat → Int32}
    (e : t = T16 7 xs)
    (hk : ((xs 0) &&& 63) = 26)
    (e0 : xs 1 = 1) :
    X 297 2125 [.inr (.inr (29, (some 0))), .inr (.inr (11, (some 0))), .inr (.inr (12, (some 0))), .inr (.inr (23, (some 0))), .inl 0, sJk, sJk] [.inl 0] (sLw t 23 0 0 (-10000 : Int64)) Qp := by
  refine x_istore (pc' := 2127) (ls' := [_, _, _, _, _, _, _]) rfl rfl rfl rfl ?_
  refine x_aload_n (pc' := 2128) rfl rfl rfl rfl rfl ?_
  refine x_aload_n (pc' := 2129) rfl rfl rfl rfl rfl ?_
  refine x_iload (pc' := 2131) rfl rfl rfl ?_
  refine x_iconst (pc' := 2132) rfl rfl ?_
  refine x_iadd (pc' := 2133) (z := 1) rfl rfl (by decide) ?_
  refine x_iald (pc' := 2134) (N := 7) (x := 1) rfl rfl rfl (Eq.trans rdNL (z_N_29_0 e)) (io_in (p := 1) (N := 7) (by decide) (by decide)) (Eq.trans (congrArg (sA (sLw t 23 0 0 (-10000 : Int64)) 29 0) (nn_io (p := 1) (by decide))) (Eq.trans rdAL (Eq.trans (z_A_29_0_1 e) e0))) ?_
  refine x_aload_n (pc' := 2135) rfl rfl rfl rfl rfl ?_
  refine x_iload (pc' := 2137) rfl rfl rfl ?_
  refine x_iconst (pc' := 2138) rfl rfl ?_
  refine x_iadd (pc' := 2139) (z := 2) rfl rfl (by decide) ?_
  refine x_iald (pc' := 2140) (N := 7) (x := (xs 2)) rfl rfl rfl (Eq.trans rdNL (z_N_29_0 e)) (io_in (p := 2) (N := 7) (by decide) (by decide)) (Eq.trans (congrArg (sA (sLw t 23 0 0 (-10000 : Int64)) 29 0) (nn_io (p := 2) (by decide))) (Eq.trans rdAL (z_A_29_0_2 e))) ?_
  have J5001 : X 297 2148 [.inr (.inr (29, (some 0))), .inr (.inr (11, (some 0))), .inr (.inr (12, (some 0))), .inr (.inr (23, (some 0))), .inl 0, .inl 0, sJk] [.inl (bz (!(decide ((xs 2) = 0)))), .inl 1, .inr (.inr (12, (some 0)))] (sLw t 23 0 0 (-10000 : Int64)) Qp := by
    refine x_cv (ls0 := [_, _, _, sJk]) (rest := []) rfl rfl rfl rfl rfl ?_
    refine x_aload_n (pc' := 1) rfl rfl rfl rfl rfl ?_
    refine x_iload_n (pc' := 2) rfl rfl rfl ?_
    refine x_cs (ls0 := [_]) (rest := [_]) rfl rfl rfl rfl ?_
    refine x_iload_n (pc' := 1) rfl rfl rfl ?_
    refine x_iconst (pc' := 2) rfl rfl ?_
    refine x_iconst (pc' := 3) rfl rfl ?_
    refine x_cs (ls0 := [_, _, _]) (rest := []) rfl rfl rfl rfl ?_
    refine x_iload_n (pc' := 1) rfl rfl rfl ?_
    refine x_iload_n (pc' := 2) rfl rfl rfl ?_
    refine x_icmp (a' := 14) (pc' := 5) (z := false) rfl rfl rfl (by decide) (fun h => by cases h) (fun _ => ?_)
    refine x_iload_n (pc' := 6) rfl rfl rfl ?_
    refine x_iload_n (pc' := 7) rfl rfl rfl ?_
    refine x_icmp (a' := 14) (pc' := 10) (z := false) rfl rfl rfl (by decide) (fun h => by cases h) (fun _ => ?_)
    refine x_iconst (pc' := 11) rfl rfl ?_
    refine x_goto (pc' := 15) rfl rfl ?_
    refine x_retz (z := true) rfl rfl ?_
    refine sK_i (pc' := 6) rfl ?_
    refine x_retz (z := true) rfl rfl ?_
    refine sK_i (pc' := 5) rfl ?_
    refine x_if (a' := 12) (pc' := 8) (z := false) rfl rfl rfl (by decide) (fun h => by cases h) (fun _ => ?_)
    refine x_iconst (pc' := 9) rfl rfl ?_
    refine x_goto (pc' := 13) rfl rfl ?_
    refine x_cv (ls0 := [_, _]) (rest := []) rfl rfl rfl rfl rfl ?_
    refine x_aload_n (pc' := 1) rfl rfl rfl rfl rfl ?_
    refine x_iload_n (pc' := 2) rfl rfl rfl ?_
    refine x_pI (pc' := 5) rfl rfl rfl ?_
    refine x_iload_n (pc' := 6) rfl rfl rfl ?_
    refine x_if (a' := 13) (pc' := 9) (z := false) rfl rfl rfl (by decide) (fun h => by cases h) (fun _ => ?_)
    refine x_iconst (pc' := 10) rfl rfl ?_
    refine x_goto (pc' := 14) rfl rfl ?_
    refine x_retz (z := true) rfl rfl ?_
    refine sK_i (pc' := 16) rfl ?_
    refine x_if (a' := 21) (pc' := 19) (z := true) rfl rfl rfl (by decide) (fun _ => ?_) (fun h => by cases h)
    refine x_aload_n (pc' := 22) rfl rfl rfl rfl rfl ?_
    refine x_iload_n (pc' := 23) rfl rfl rfl ?_
    refine x_iload_n (pc' := 24) rfl rfl rfl ?_
    refine x_cv (ls0 := [_, _, _, sJk, sJk, sJk, sJk, sJk]) (rest := []) rfl rfl rfl rfl rfl ?_
    refine x_iconst (pc' := 1) rfl rfl ?_
    refine x_istore_n (pc' := 2) (ls' := [_, _, _, _, _, _, _, _]) rfl rfl rfl rfl ?_
    refine x_iconst (pc' := 3) rfl rfl ?_
    refine x_istore (pc' := 5) (ls' := [_, _, _, _, _, _, _, _]) rfl rfl rfl rfl ?_
    refine x_iconst (pc' := 6) rfl rfl ?_
    refine x_istore (pc' := 8) (ls' := [_, _, _, _, _, _, _, _]) rfl rfl rfl rfl ?_
    refine x_iload (pc' := 10) rfl rfl rfl ?_
    refine x_iconst (pc' := 11) rfl rfl ?_
    refine x_icmp (a' := 99) (pc' := 14) (z := false) rfl rfl rfl (by decide) (fun h => by cases h) (fun _ => ?_)
    refine x_aload_n (pc' := 15) rfl rfl rfl rfl rfl ?_
    refine x_iload_n (pc' := 16) rfl rfl rfl ?_
    refine x_iload_n (pc' := 17) rfl rfl rfl ?_
    refine x_iload (pc' := 19) rfl rfl rfl ?_
    refine x_cv (ls0 := [_, _, _, _, sJk, sJk, sJk]) (rest := []) rfl rfl rfl rfl rfl ?_
    refine x_iload_n (pc' := 1) rfl rfl rfl ?_
    refine x_iload_n (pc' := 2) rfl rfl rfl ?_
    refine x_iconst (pc' := 3) rfl rfl ?_
    refine x_cs (ls0 := [_, _, _, sJk, sJk, sJk]) (rest := []) rfl rfl rfl rfl ?_
    refine x_getstatic (pc' := 3) rfl rfl (show 1 < sC t 28 from z_st1 e) ?_
    refine x_iconst (pc' := 4) rfl rfl ?_
    refine x_iload_n (pc' := 5) rfl rfl rfl ?_
    refine x_imul (pc' := 6) (z := 3) rfl rfl (by decide) ?_
    refine x_iload_n (pc' := 7) rfl rfl rfl ?_
    refine x_iadd (pc' := 8) (z := 3) rfl rfl (by decide) ?_
    refine x_iald (pc' := 9) (N := 15) (x := 2) rfl rfl rfl (Eq.trans rdNI (Eq.trans rdNL (z_N_28_1 e))) (io_in (p := 3) (N := 15) (by decide) (by decide)) (Eq.trans (congrArg (sA (sIw (sLw t 23 0 0 (-10000 : Int64)) 768 0 0) 28 1) (nn_io (p := 3) (by decide))) (Eq.trans rdAI (Eq.trans rdAL (z_A_28_1_3 e)))) ?_
    refine x_istore_n (pc' := 10) (ls' := [_, _, _, _, _, _]) rfl rfl rfl rfl ?_
    refine x_iload_n (pc' := 11) rfl rfl rfl ?_
    refine x_bipush (pc' := 13) rfl rfl ?_
    refine x_icmp (a' := 20) (pc' := 16) (z := true) rfl rfl rfl (by decide) (fun _ => ?_) (fun h => by cases h)
    refine x_iload_n (pc' := 21) rfl rfl rfl ?_
    refine x_bipush (pc' := 23) rfl rfl ?_
    refine x_icmp (a' := 30) (pc' := 26) (z := true) rfl rfl rfl (by decide) (fun _ => ?_) (fun h => by cases h)
    refine x_iload_n (pc' := 31) rfl rfl rfl ?_
    refine x_if (a' := 38) (pc' := 34) (z := false) rfl rfl rfl (by decide) (fun h => by cases h) (fun _ => ?_)
    refine x_iconst (pc' := 35) rfl rfl ?_
    refine x_goto (pc' := 39) rfl rfl ?_
    refine x_istore (pc' := 41) (ls' := [_, _, _, _, _, _]) rfl rfl rfl rfl ?_
    refine x_iload (pc' := 43) rfl rfl rfl ?_
    refine x_iload_n (pc' := 44) rfl rfl rfl ?_
    refine x_isub (pc' := 45) (z := 1) rfl rfl (by decide) ?_
    refine x_istore (pc' := 47) (ls' := [_, _, _, _, _, _]) rfl rfl rfl rfl ?_
    refine x_iload (pc' := 49) rfl rfl rfl ?_
    refine x_if (a' := 56) (pc' := 52) (z := true) rfl rfl rfl (by decide) (fun _ => ?_) (fun h => by cases h)
    refine x_iload (pc' := 58) rfl rfl rfl ?_
    refine x_iconst (pc' := 59) rfl rfl ?_
    refine x_icmp (a' := 69) (pc' := 62) (z := true) rfl rfl rfl (by decide) (fun _ => ?_) (fun h => by cases h)
    refine x_iload (pc' := 71) rfl rfl rfl ?_
    refine x_iconst (pc' := 72) rfl rfl ?_
    refine x_icmp (a' := 85) (pc' := 75) (z := true) rfl rfl rfl (by decide) (fun _ => ?_) (fun h => by cases h)
    refine x_iload_n (pc' := 86) rfl rfl rfl ?_
    refine x_bipush (pc' := 88) rfl rfl ?_
    refine x_irem (pc' := 89) (z := 2) rfl rfl (by decide) (by decide +kernel) ?_
    refine x_iconst (pc' := 90) rfl rfl ?_
    refine x_isub (pc' := 91) (z := 1) rfl rfl (by decide) ?_
    refine x_reti rfl rfl ?_
    refine sK_i (pc' := 6) rfl ?_
    refine x_iconst (pc' := 7) rfl rfl ?_
    refine x_icmp (a' := 14) (pc' := 10) (z := false) rfl rfl rfl (by decide) (fun h => by cases h) (fun _ => ?_)
    refine x_iconst (pc' := 11) rfl rfl ?_
    refine x_goto (pc' := 15) rfl rfl ?_
    refine x_istore (pc' := 17) (ls' := [_, _, _, _, _, _, _]) rfl rfl rfl rfl ?_
    refine x_aload_n (pc' := 18) rfl rfl rfl rfl rfl ?_
    refine x_iconst (pc' := 19) rfl rfl ?_
    refine x_pI (pc' := 22) rfl rfl rfl ?_
    refine x_iconst (pc' := 23) rfl rfl ?_
    refine x_istore (pc' := 25) (ls' := [_, _, _, _, _, _, _]) rfl rfl rfl rfl ?_
    refine x_iload (pc' := 27) rfl rfl rfl ?_
    refine x_iconst (pc' := 28) rfl rfl ?_
    refine x_icmp (a' := 129) (pc' := 31) (z := false) rfl rfl rfl (by decide) (fun h => by cases h) (fun _ => ?_)
    refine x_iload (pc' := 33) rfl rfl rfl ?_
    refine x_if (a' := 129) (pc' := 36) (z := false) rfl rfl rfl (by decide) (fun h => by cases h) (fun _ => ?_)
    refine x_iload_n (pc' := 37) rfl rfl rfl ?_
    refine x_iload_n (pc' := 38) rfl rfl rfl ?_
    refine x_iload (pc' := 40) rfl rfl rfl ?_
    refine x_cs (ls0 := [_, _, _, sJk, sJk, sJk]) (rest := []) rfl rfl rfl rfl ?_
    refine x_getstatic (pc' := 3) rfl rfl (show 1 < sC t 28 from z_st1 e) ?_
    refine x_iconst (pc' := 4) rfl rfl ?_
    refine x_iload_n (pc' := 5) rfl rfl rfl ?_
    refine x_imul (pc' := 6) (z := 3) rfl rfl (by decide) ?_
    refine x_iload_n (pc' := 7) rfl rfl rfl ?_
    refine x_iadd (pc' := 8) (z := 3) rfl rfl (by decide) ?_
    refine x_iald (pc' := 9) (N := 15) (x := 2) rfl rfl rfl (Eq.trans rdNI (Eq.trans rdNI (Eq.trans rdNL (z_N_28_1 e)))) (io_in (p := 3) (N := 15) (by decide) (by decide)) (Eq.trans (congrArg (sA (sIw (sIw (sLw t 23 0 0 (-10000 : Int64)) 768 0 0) 811 0 0) 28 1) (nn_io (p := 3) (by decide))) (Eq.trans rdAI (Eq.trans rdAI (Eq.trans rdAL (z_A_28_1_3 e))))) ?_
    refine x_istore_n (pc' := 10) (ls' := [_, _, _, _, _, _]) rfl rfl rfl rfl ?_
    refine x_iload_n (pc' := 11) rfl rfl rfl ?_
    refine x_bipush (pc' := 13) rfl rfl ?_
    refine x_icmp (a' := 20) (pc' := 16) (z := true) rfl rfl rfl (by decide) (fun _ => ?_) (fun h => by cases h)
    refine x_iload_n (pc' := 21) rfl rfl rfl ?_
    refine x_bipush (pc' := 23) rfl rfl ?_
    refine x_icmp (a' := 30) (pc' := 26) (z := true) rfl rfl rfl (by decide) (fun _ => ?_) (fun h => by cases h)
    refine x_iload_n (pc' := 31) rfl rfl rfl ?_
    refine x_if (a' := 38) (pc' := 34) (z := false) rfl rfl rfl (by decide) (fun h => by cases h) (fun _ => ?_)
    refine x_iconst (pc' := 35) rfl rfl ?_
    refine x_goto (pc' := 39) rfl rfl ?_
    refine x_istore (pc' := 41) (ls' := [_, _, _, _, _, _]) rfl rfl rfl rfl ?_
    refine x_iload (pc' := 43) rfl rfl rfl ?_
    refine x_iload_n (pc' := 44) rfl rfl rfl ?_
    refine x_isub (pc' := 45) (z := 1) rfl rfl (by decide) ?_
    refine x_istore (pc' := 47) (ls' := [_, _, _, _, _, _]) rfl rfl rfl rfl ?_
    refine x_iload (pc' := 49) rfl rfl rfl ?_
    refine x_if (a' := 56) (pc' := 52) (z := true) rfl rfl rfl (by decide) (fun _ => ?_) (fun h => by cases h)
    refine x_iload (pc' := 58) rfl rfl rfl ?_
    refine x_iconst (pc' := 59) rfl rfl ?_
    refine x_icmp (a' := 69) (pc' := 62) (z := true) rfl rfl rfl (by decide) (fun _ => ?_) (fun h => by cases h)
    refine x_iload (pc' := 71) rfl rfl rfl ?_
    refine x_iconst (pc' := 72) rfl rfl ?_
    refine x_icmp (a' := 85) (pc' := 75) (z := true) rfl rfl rfl (by decide) (fun _ => ?_) (fun h => by cases h)
    refine x_iload_n (pc' := 86) rfl rfl rfl ?_
    refine x_bipush (pc' := 88) rfl rfl ?_
    refine x_irem (pc' := 89) (z := 2) rfl rfl (by decide) (by decide +kernel) ?_
    refine x_iconst (pc' := 90) rfl rfl ?_
    refine x_isub (pc' := 91) (z := 1) rfl rfl (by decide) ?_
    refine x_reti rfl rfl ?_
    refine sK_i (pc' := 43) rfl ?_
    refine x_istore (pc' := 45) (ls' := [_, _, _, _, _, _, _]) rfl rfl rfl rfl ?_
    refine x_iload (pc' := 47) rfl rfl rfl ?_
    refine x_iconst (pc' := 48) rfl rfl ?_
    refine x_icmp (a' := 123) (pc' := 51) (z := false) rfl rfl rfl (by decide) (fun h => by cases h) (fun _ => ?_)
    refine x_aload_n (pc' := 52) rfl rfl rfl rfl rfl ?_
    refine x_gR (pc' := 55) (r := (some 27)) rfl rfl rfl (Eq.trans rdRI (Eq.trans rdRI (Eq.trans rdRL (z_R_809_0 e)))) ?_
    refine x_aload_n (pc' := 56) rfl rfl rfl rfl rfl ?_
    refine x_gI (pc' := 59) (x := 0) rfl rfl rfl sI_s ?_
    refine x_aload_n (pc' := 60) rfl rfl rfl rfl rfl ?_
    refine x_iload (pc' := 62) rfl rfl rfl ?_
    refine x_iload_n (pc' := 63) rfl rfl rfl ?_
    refine x_iload_n (pc' := 64) rfl rfl rfl ?_
    refine x_iload (pc' := 66) rfl rfl rfl ?_
    refine x_cs (ls0 := [_, _, _, sJk]) (rest := [_, _, _, _]) rfl rfl rfl rfl ?_
    refine x_iload_n (pc' := 1) rfl rfl rfl ?_
    refine x_iload_n (pc' := 2) rfl rfl rfl ?_
    refine x_iload_n (pc' := 3) rfl rfl rfl ?_
    refine x_cs (ls0 := [_, _, _, sJk, sJk, sJk]) (rest := []) rfl rfl rfl rfl ?_
    refine x_getstatic (pc' := 3) rfl rfl (show 1 < sC t 28 from z_st1 e) ?_
    refine x_iconst (pc' := 4) rfl rfl ?_
    refine x_iload_n (pc' := 5) rfl rfl rfl ?_
    refine x_imul (pc' := 6) (z := 3) rfl rfl (by decide) ?_
    refine x_iload_n (pc' := 7) rfl rfl rfl ?_
    refine x_iadd (pc' := 8) (z := 3) rfl rfl (by decide) ?_
    refine x_iald (pc' := 9) (N := 15) (x := 2) rfl rfl rfl (Eq.trans rdNI (Eq.trans rdNI (Eq.trans rdNL (z_N_28_1 e)))) (io_in (p := 3) (N := 15) (by decide) (by decide)) (Eq.trans (congrArg (sA (sIw (sIw (sLw t 23 0 0 (-10000 : Int64)) 768 0 0) 811 0 0) 28 1) (nn_io (p := 3) (by decide))) (Eq.trans rdAI (Eq.trans rdAI (Eq.trans rdAL (z_A_28_1_3 e))))) ?_
    refine x_istore_n (pc' := 10) (ls' := [_, _, _, _, _, _]) rfl rfl rfl rfl ?_
    refine x_iload_n (pc' := 11) rfl rfl rfl ?_
    refine x_bipush (pc' := 13) rfl rfl ?_
    refine x_icmp (a' := 20) (pc' := 16) (z := true) rfl rfl rfl (by decide) (fun _ => ?_) (fun h => by cases h)
    refine x_iload_n (pc' := 21) rfl rfl rfl ?_
    refine x_bipush (pc' := 23) rfl rfl ?_
    refine x_icmp (a' := 30) (pc' := 26) (z := true) rfl rfl rfl (by decide) (fun _ => ?_) (fun h => by cases h)
    refine x_iload_n (pc' := 31) rfl rfl rfl ?_
    refine x_if (a' := 38) (pc' := 34) (z := false) rfl rfl rfl (by decide) (fun h => by cases h) (fun _ => ?_)
    refine x_iconst (pc' := 35) rfl rfl ?_
    refine x_goto (pc' := 39) rfl rfl ?_
    refine x_istore (pc' := 41) (ls' := [_, _, _, _, _, _]) rfl rfl rfl rfl ?_
    refine x_iload (pc' := 43) rfl rfl rfl ?_
    refine x_iload_n (pc' := 44) rfl rfl rfl ?_
    refine x_isub (pc' := 45) (z := 1) rfl rfl (by decide) ?_
    refine x_istore (pc' := 47) (ls' := [_, _, _, _, _, _]) rfl rfl rfl rfl ?_
    refine x_iload (pc' := 49) rfl rfl rfl ?_
    refine x_if (a' := 56) (pc' := 52) (z := true) rfl rfl rfl (by decide) (fun _ => ?_) (fun h => by cases h)
    refine x_iload (pc' := 58) rfl rfl rfl ?_
    refine x_iconst (pc' := 59) rfl rfl ?_
    refine x_icmp (a' := 69) (pc' := 62) (z := true) rfl rfl rfl (by decide) (fun _ => ?_) (fun h => by cases h)
    refine x_iload (pc' := 71) rfl rfl rfl ?_
    refine x_iconst (pc' := 72) rfl rfl ?_
    refine x_icmp (a' := 85) (pc' := 75) (z := true) rfl rfl rfl (by decide) (fun _ => ?_) (fun h => by cases h)
    refine x_iload_n (pc' := 86) rfl rfl rfl ?_
    refine x_bipush (pc' := 88) rfl rfl ?_
    refine x_irem (pc' := 89) (z := 2) rfl rfl (by decide) (by decide +kernel) ?_
    refine x_iconst (pc' := 90) rfl rfl ?_
    refine x_isub (pc' := 91) (z := 1) rfl rfl (by decide) ?_
    refine x_reti rfl rfl ?_
    refine sK_i (pc' := 6) rfl ?_
    refine x_istore_n (pc' := 7) (ls' := [_, _, _, _]) rfl rfl rfl rfl ?_
    refine x_iload_n (pc' := 8) rfl rfl rfl ?_
    refine x_iconst (pc' := 9) rfl rfl ?_
    refine x_icmp (a' := 31) (pc' := 12) (z := false) rfl rfl rfl (by decide) (fun h => by cases h) (fun _ => ?_)
    refine x_iload_n (pc' := 13) rfl rfl rfl ?_
    refine x_iconst (pc' := 14) rfl rfl ?_
    refine x_icmp (a' := 29) (pc' := 17) (z := true) rfl rfl rfl (by decide) (fun _ => ?_) (fun h => by cases h)
    refine x_iconst (pc' := 30) rfl rfl ?_
    refine x_retz (z := false) rfl rfl ?_
    refine sK_i (pc' := 69) rfl ?_
    refine x_iload_n (pc' := 70) rfl rfl rfl ?_
    have J5033 : X 159 78 [.inr (.inr (12, (some 0))), .inl 1, .inl (bz (!(decide ((xs 2) = 0)))), .inl 0, .inl 1, .inl 0, .inl 1] [.inl (bz (!(xor false (!(decide ((xs 2) = 0)))))), .inl 1, .inr (.inr (12, (some 0))), .inl 0, .inr (.inr (21, (some 27)))] (sIw (sIw (sLw t 23 0 0 (-10000 : Int64)) 768 0 0) 811 0 0) (sK 159 161 19 [.inr (.inr (12, (some 0))), .inl 1, .inl (bz (!(decide ((xs 2) = 0)))), .inl (-1), .inl 0, .inl 0, sJk, sJk] [] (sK 161 228 24 [.inr (.inr (12, (some 0))), .inl 1, .inl (bz (!(decide ((xs 2) = 0)))), sJk] [] (sK 228 297 2148 [.inr (.inr (29, (some 0))), .inr (.inr (11, (some 0))), .inr (.inr (12, (some 0))), .inr (.inr (23, (some 0))), .inl 0, .inl 0, sJk] [] Qp))) := by
      refine x_cv (ls0 := [_, _, _, sJk, sJk, sJk]) (rest := [_, _]) rfl rfl rfl rfl rfl ?_
      refine x_iconst (pc' := 1) rfl rfl ?_
      refine x_istore_n (pc' := 2) (ls' := [_, _, _, _, _, _]) rfl rfl rfl rfl ?_
      refine x_iconst (pc' := 3) rfl rfl ?_
      refine x_istore (pc' := 5) (ls' := [_, _, _, _, _, _]) rfl rfl rfl rfl ?_
      refine x_iload (pc' := 7) rfl rfl rfl ?_
      refine x_aload_n (pc' := 8) rfl rfl rfl rfl rfl ?_
      refine x_gI (pc' := 11) (x := 0) rfl rfl rfl (Eq.trans (rdI_F rfl) (Eq.trans (rdI_F rfl) (Eq.trans rdIL (z_I_786_0 e)))) ?_
      refine x_icmp (a' := 87) (pc' := 14) (z := true) rfl rfl rfl (by decide) (fun _ => ?_) (fun h => by cases h)
      refine x_iload_n (pc' := 88) rfl rfl rfl ?_
      refine x_reti rfl rfl ?_
      refine sK_i (pc' := 81) rfl ?_
      refine x_iast (pc' := 82) (N := 200) (p := 0) rfl rfl rfl (Eq.trans rdNI (Eq.trans rdNI (Eq.trans rdNL (z_N_21_27 e)))) (io_in (p := 0) (N := 200) (by decide) (by decide)) (nn_io (p := 0) (by decide)) ?_
      refine x_aload_n (pc' := 83) rfl rfl rfl rfl rfl ?_
      refine x_gR (pc' := 86) (r := (some 0)) rfl rfl rfl (Eq.trans rdRA (Eq.trans rdRI (Eq.trans rdRI (Eq.trans rdRL (z_R_769_0 e))))) ?_
      refine x_iload (pc' := 88) rfl rfl rfl ?_
      refine x_iald (pc' := 89) (N := 5) (x := 0) rfl rfl rfl (Eq.trans rdNA (Eq.trans rdNI (Eq.trans rdNI (Eq.trans rdNL (z_N_21_0 e))))) (io_in (p := 1) (N := 5) (by decide) (by decide)) (Eq.trans (congrArg (sA (sAw (sIw (sIw (sLw t 23 0 0 (-10000 : Int64)) 768 0 0) 811 0 0) 21 27 0 (-1)) 21 0) (nn_io (p := 1) (by decide))) (Eq.trans (rdA_o rfl) (Eq.trans rdAI (Eq.trans rdAI (Eq.trans rdAL (z_A_21_0_1 e)))))) ?_
      refine x_iconst (pc' := 90) rfl rfl ?_
      refine x_icmp (a' := 110) (pc' := 93) (z := true) rfl rfl rfl (by decide) (fun _ => ?_) (fun h => by cases h)
      refine x_iconst (pc' := 111) rfl rfl ?_
      refine x_istore (pc' := 113) (ls' := [_, _, _, _, _, _, _]) rfl rfl rfl rfl ?_
      refine x_aload_n (pc' := 114) rfl rfl rfl rfl rfl ?_
      refine x_dup (pc' := 115) rfl rfl rfl ?_
      refine x_gI (pc' := 118) (x := 0) rfl rfl rfl (Eq.trans rdIA sI_s) ?_
      refine x_iconst (pc' := 119) rfl rfl ?_
      refine x_iadd (pc' := 120) (z := 1) rfl rfl (by decide) ?_
      refine x_pI (pc' := 123) rfl rfl rfl ?_
      refine x_iinc (pc' := 126) (y := 1) (ls' := [_, _, _, _, _, _, _]) rfl rfl rfl rfl rfl ?_
      refine x_goto (pc' := 25) rfl rfl ?_
      refine x_iload (pc' := 27) rfl rfl rfl ?_
      refine x_iconst (pc' := 28) rfl rfl ?_
      refine x_icmp (a' := 129) (pc' := 31) (z := false) rfl rfl rfl (by decide) (fun h => by cases h) (fun _ => ?_)
      refine x_iload (pc' := 33) rfl rfl rfl ?_
      refine x_if (a' := 129) (pc' := 36) (z := true) rfl rfl rfl (by decide) (fun _ => ?_) (fun h => by cases h)
      refine x_iload (pc' := 131) rfl rfl rfl ?_
      refine x_retz (z := false) rfl rfl ?_
      refine sK_i (pc' := 22) rfl ?_
      refine x_if (a' := 93) (pc' := 25) (z := true) rfl rfl rfl (by decide) (fun _ => ?_) (fun h => by cases h)
      refine x_iinc (pc' := 96) (y := 1) (ls' := [_, _, _, _, _, _, _, _]) rfl rfl rfl rfl rfl ?_
      refine x_goto (pc' := 8) rfl rfl ?_
      refine x_iload (pc' := 10) rfl rfl rfl ?_
      refine x_iconst (pc' := 11) rfl rfl ?_
      refine x_icmp (a' := 99) (pc' := 14) (z := false) rfl rfl rfl (by decide) (fun h => by cases h) (fun _ => ?_)
      refine x_aload_n (pc' := 15) rfl rfl rfl rfl rfl ?_
      refine x_iload_n (pc' := 16) rfl rfl rfl ?_
      refine x_iload_n (pc' := 17) rfl rfl rfl ?_
      refine x_iload (pc' := 19) rfl rfl rfl ?_
      refine x_cv (ls0 := [_, _, _, _, sJk, sJk, sJk]) (rest := []) rfl rfl rfl rfl rfl ?_
      refine x_iload_n (pc' := 1) rfl rfl rfl ?_
      refine x_iload_n (pc' := 2) rfl rfl rfl ?_
      refine x_iconst (pc' := 3) rfl rfl ?_
      refine x_cs (ls0 := [_, _, _, sJk, sJk, sJk]) (rest := []) rfl rfl rfl rfl ?_
      refine x_getstatic (pc' := 3) rfl rfl (show 1 < sC t 28 from z_st1 e) ?_
      refine x_iconst (pc' := 4) rfl rfl ?_
      refine x_iload_n (pc' := 5) rfl rfl rfl ?_
      refine x_imul (pc' := 6) (z := 3) rfl rfl (by decide) ?_
      refine x_iload_n (pc' := 7) rfl rfl rfl ?_
      refine x_iadd (pc' := 8) (z := 4) rfl rfl (by decide) ?_
      refine x_iald (pc' := 9) (N := 15) (x := 53) rfl rfl rfl (Eq.trans rdNI (Eq.trans rdNA (Eq.trans rdNI (Eq.trans rdNI (Eq.trans rdNL (z_N_28_1 e)))))) (io_in (p := 4) (N := 15) (by decide) (by decide)) (Eq.trans (congrArg (sA (sIw (sAw (sIw (sIw (sLw t 23 0 0 (-10000 : Int64)) 768 0 0) 811 0 0) 21 27 0 (-1)) 811 0 1) 28 1) (nn_io (p := 4) (by decide))) (Eq.trans rdAI (Eq.trans (rdA_F rfl) (Eq.trans rdAI (Eq.trans rdAI (Eq.trans rdAL (z_A_28_1_4 e))))))) ?_
      refine x_istore_n (pc' := 10) (ls' := [_, _, _, _, _, _]) rfl rfl rfl rfl ?_
      refine x_iload_n (pc' := 11) rfl rfl rfl ?_
      refine x_bipush (pc' := 13) rfl rfl ?_
      refine x_icmp (a' := 20) (pc' := 16) (z := true) rfl rfl rfl (by decide) (fun _ => ?_) (fun h => by cases h)
      refine x_iload_n (pc' := 21) rfl rfl rfl ?_
      refine x_bipush (pc' := 23) rfl rfl ?_
      refine x_icmp (a' := 30) (pc' := 26) (z := false) rfl rfl rfl (by decide) (fun h => by cases h) (fun _ => ?_)
      refine x_iconst (pc' := 27) rfl rfl ?_
      refine x_goto (pc' := 39) rfl rfl ?_
      refine x_istore (pc' := 41) (ls' := [_, _, _, _, _, _]) rfl rfl rfl rfl ?_
      refine x_iload (pc' := 43) rfl rfl rfl ?_
      refine x_iload_n (pc' := 44) rfl rfl rfl ?_
      refine x_isub (pc' := 45) (z := 2) rfl rfl (by decide) ?_
      refine x_istore (pc' := 47) (ls' := [_, _, _, _, _, _]) rfl rfl rfl rfl ?_
      refine x_iload (pc' := 49) rfl rfl rfl ?_
      refine x_if (a' := 56) (pc' := 52) (z := true) rfl rfl rfl (by decide) (fun _ => ?_) (fun h => by cases h)
      refine x_iload (pc' := 58) rfl rfl rfl ?_
      refine x_iconst (pc' := 59) rfl rfl ?_
      refine x_icmp (a' := 69) (pc' := 62) (z := true) rfl rfl rfl (by decide) (fun _ => ?_) (fun h => by cases h)
      refine x_iload (pc' := 71) rfl rfl rfl ?_
      refine x_iconst (pc' := 72) rfl rfl ?_
      refine x_icmp (a' := 85) (pc' := 75) (z := false) rfl rfl rfl (by decide) (fun h => by cases h) (fun _ => ?_)
      refine x_iload_n (pc' := 76) rfl rfl rfl ?_
      refine x_bipush (pc' := 78) rfl rfl ?_
      refine x_idiv (pc' := 79) (z := 5) rfl rfl (by decide) (by decide +kernel) ?_
      refine x_bipush (pc' := 81) rfl rfl ?_
      refine x_irem (pc' := 82) (z := 5) rfl rfl (by decide) (by decide +kernel) ?_
      refine x_goto (pc' := 89) rfl rfl ?_
      refine x_iconst (pc' := 90) rfl rfl ?_
      refine x_isub (pc' := 91) (z := 4) rfl rfl (by decide) ?_
      refine x_reti rfl rfl ?_
      refine sK_i (pc' := 6) rfl ?_
      refine x_iconst (pc' := 7) rfl rfl ?_
      refine x_icmp (a' := 14) (pc' := 10) (z := false) rfl rfl rfl (by decide) (fun h => by cases h) (fun _ => ?_)
      refine x_iconst (pc' := 11) rfl rfl ?_
      refine x_goto (pc' := 15) rfl rfl ?_
      refine x_istore (pc' := 17) (ls' := [_, _, _, _, _, _, _]) rfl rfl rfl rfl ?_
      refine x_aload_n (pc' := 18) rfl rfl rfl rfl rfl ?_
      refine x_iconst (pc' := 19) rfl rfl ?_
      refine x_pI (pc' := 22) rfl rfl rfl ?_
      refine x_iconst (pc' := 23) rfl rfl ?_
      refine x_istore (pc' := 25) (ls' := [_, _, _, _, _, _, _]) rfl rfl rfl rfl ?_
      refine x_iload (pc' := 27) rfl rfl rfl ?_
      refine x_iconst (pc' := 28) rfl rfl ?_
      refine x_icmp (a' := 129) (pc' := 31) (z := false) rfl rfl rfl (by decide) (fun h => by cases h) (fun _ => ?_)
      refine x_iload (pc' := 33) rfl rfl rfl ?_
      refine x_if (a' := 129) (pc' := 36) (z := false) rfl rfl rfl (by decide) (fun h => by cases h) (fun _ => ?_)
      refine x_iload_n (pc' := 37) rfl rfl rfl ?_
      refine x_iload_n (pc' := 38) rfl rfl rfl ?_
      refine x_iload (pc' := 40) rfl rfl rfl ?_
      refine x_cs (ls0 := [_, _, _, sJk, sJk, sJk]) (rest := []) rfl rfl rfl rfl ?_
      refine x_getstatic (pc' := 3) rfl rfl (show 1 < sC t 28 from z_st1 e) ?_
      refine x_iconst (pc' := 4) rfl rfl ?_
      refine x_iload_n (pc' := 5) rfl rfl rfl ?_
      refine x_imul (pc' := 6) (z := 3) rfl rfl (by decide) ?_
      refine x_iload_n (pc' := 7) rfl rfl rfl ?_
      refine x_iadd (pc' := 8) (z := 4) rfl rfl (by decide) ?_
      refine x_iald (pc' := 9) (N := 15) (x := 53) rfl rfl rfl (Eq.trans rdNI (Eq.trans rdNI (Eq.trans rdNA (Eq.trans rdNI (Eq.trans rdNI (Eq.trans rdNL (z_N_28_1 e))))))) (io_in (p := 4) (N := 15) (by decide) (by decide)) (Eq.trans (congrArg (sA (sIw (sIw (sAw (sIw (sIw (sLw t 23 0 0 (-10000 : Int64)) 768 0 0) 811 0 0) 21 27 0 (-1)) 811 0 1) 811 0 0) 28 1) (nn_io (p := 4) (by decide))) (Eq.trans rdAI (Eq.trans rdAI (Eq.trans (rdA_F rfl) (Eq.trans rdAI (Eq.trans rdAI (Eq.trans rdAL (z_A_28_1_4 e)))))))) ?_
      refine x_istore_n (pc' := 10) (ls' := [_, _, _, _, _, _]) rfl rfl rfl rfl ?_
      refine x_iload_n (pc' := 11) rfl rfl rfl ?_
      refine x_bipush (pc' := 13) rfl rfl ?_
      refine x_icmp (a' := 20) (pc' := 16) (z := true) rfl rfl rfl (by decide) (fun _ => ?_) (fun h => by cases h)
      refine x_iload_n (pc' := 21) rfl rfl rfl ?_
      refine x_bipush (pc' := 23) rfl rfl ?_
      refine x_icmp (a' := 30) (pc' := 26) (z := false) rfl rfl rfl (by decide) (fun h => by cases h) (fun _ => ?_)
      refine x_iconst (pc' := 27) rfl rfl ?_
      refine x_goto (pc' := 39) rfl rfl ?_
      refine x_istore (pc' := 41) (ls' := [_, _, _, _, _, _]) rfl rfl rfl rfl ?_
      refine x_iload (pc' := 43) rfl rfl rfl ?_
      refine x_iload_n (pc' := 44) rfl rfl rfl ?_
      refine x_isub (pc' := 45) (z := 2) rfl rfl (by decide) ?_
      refine x_istore (pc' := 47) (ls' := [_, _, _, _, _, _]) rfl rfl rfl rfl ?_
      refine x_iload (pc' := 49) rfl rfl rfl ?_
      refine x_if (a' := 56) (pc' := 52) (z := true) rfl rfl rfl (by decide) (fun _ => ?_) (fun h => by cases h)
      refine x_iload (pc' := 58) rfl rfl rfl ?_
      refine x_iconst (pc' := 59) rfl rfl ?_
      refine x_icmp (a' := 69) (pc' := 62) (z := true) rfl rfl rfl (by decide) (fun _ => ?_) (fun h => by cases h)
      refine x_iload (pc' := 71) rfl rfl rfl ?_
      refine x_iconst (pc' := 72) rfl rfl ?_
      refine x_icmp (a' := 85) (pc' := 75) (z := false) rfl rfl rfl (by decide) (fun h => by cases h) (fun _ => ?_)
      refine x_iload_n (pc' := 76) rfl rfl rfl ?_
      refine x_bipush (pc' := 78) rfl rfl ?_
      refine x_idiv (pc' := 79) (z := 5) rfl rfl (by decide) (by decide +kernel) ?_
      refine x_bipush (pc' := 81) rfl rfl ?_
      refine x_irem (pc' := 82) (z := 5) rfl rfl (by decide) (by decide +kernel) ?_
      refine x_goto (pc' := 89) rfl rfl ?_
      refine x_iconst (pc' := 90) rfl rfl ?_
      refine x_isub (pc' := 91) (z := 4) rfl rfl (by decide) ?_
      refine x_reti rfl rfl ?_
      refine sK_i (pc' := 43) rfl ?_
      refine x_istore (pc' := 45) (ls' := [_, _, _, _, _, _, _]) rfl rfl rfl rfl ?_
      refine x_iload (pc' := 47) rfl rfl rfl ?_
      refine x_iconst (pc' := 48) rfl rfl ?_
      refine x_icmp (a' := 123) (pc' := 51) (z := false) rfl rfl rfl (by decide) (fun h => by cases h) (fun _ => ?_)
      refine x_aload_n (pc' := 52) rfl rfl rfl rfl rfl ?_
      refine x_gR (pc' := 55) (r := (some 27)) rfl rfl rfl (Eq.trans rdRI (Eq.trans rdRI (Eq.trans rdRA (Eq.trans rdRI (Eq.trans rdRI (Eq.trans rdRL (z_R_809_0 e))))))) ?_
      refine x_aload_n (pc' := 56) rfl rfl rfl rfl rfl ?_
      refine x_gI (pc' := 59) (x := 0) rfl rfl rfl sI_s ?_
      refine x_aload_n (pc' := 60) rfl rfl rfl rfl rfl ?_
      refine x_iload (pc' := 62) rfl rfl rfl ?_
      refine x_iload_n (pc' := 63) rfl rfl rfl ?_
      refine x_iload_n (pc' := 64) rfl rfl rfl ?_
      refine x_iload (pc' := 66) rfl rfl rfl ?_
      refine x_cs (ls0 := [_, _, _, sJk]) (rest := [_, _, _, _]) rfl rfl rfl rfl ?_
      refine x_iload_n (pc' := 1) rfl rfl rfl ?_
      refine x_iload_n (pc' := 2) rfl rfl rfl ?_
      refine x_iload_n (pc' := 3) rfl rfl rfl ?_
      refine x_cs (ls0 := [_, _, _, sJk, sJk, sJk]) (rest := []) rfl rfl rfl rfl ?_
      refine x_getstatic (pc' := 3) rfl rfl (show 1 < sC t 28 from z_st1 e) ?_
      refine x_iconst (pc' := 4) rfl rfl ?_
      refine x_iload_n (pc' := 5) rfl rfl rfl ?_
      refine x_imul (pc' := 6) (z := 3) rfl rfl (by decide) ?_
      refine x_iload_n (pc' := 7) rfl rfl rfl ?_
      refine x_iadd (pc' := 8) (z := 4) rfl rfl (by decide) ?_
      refine x_iald (pc' := 9) (N := 15) (x := 53) rfl rfl rfl (Eq.trans rdNI (Eq.trans rdNI (Eq.trans rdNA (Eq.trans rdNI (Eq.trans rdNI (Eq.trans rdNL (z_N_28_1 e))))))) (io_in (p := 4) (N := 15) (by decide) (by decide)) (Eq.trans (congrArg (sA (sIw (sIw (sAw (sIw (sIw (sLw t 23 0 0 (-10000 : Int64)) 768 0 0) 811 0 0) 21 27 0 (-1)) 811 0 1) 811 0 0) 28 1) (nn_io (p := 4) (by decide))) (Eq.trans rdAI (Eq.trans rdAI (Eq.trans (rdA_F rfl) (Eq.trans rdAI (Eq.trans rdAI (Eq.trans rdAL (z_A_28_1_4 e)))))))) ?_
      refine x_istore_n (pc' := 10) (ls' := [_, _, _, _, _, _]) rfl rfl rfl rfl ?_
      refine x_iload_n (pc' := 11) rfl rfl rfl ?_
      refine x_bipush (pc' := 13) rfl rfl ?_
      refine x_icmp (a' := 20) (pc' := 16) (z := true) rfl rfl rfl (by decide) (fun _ => ?_) (fun h => by cases h)
      refine x_iload_n (pc' := 21) rfl rfl rfl ?_
      refine x_bipush (pc' := 23) rfl rfl ?_
      refine x_icmp (a' := 30) (pc' := 26) (z := false) rfl rfl rfl (by decide) (fun h => by cases h) (fun _ => ?_)
      refine x_iconst (pc' := 27) rfl rfl ?_
      refine x_goto (pc' := 39) rfl rfl ?_
      refine x_istore (pc' := 41) (ls' := [_, _, _, _, _, _]) rfl rfl rfl rfl ?_
      refine x_iload (pc' := 43) rfl rfl rfl ?_
      refine x_iload_n (pc' := 44) rfl rfl rfl ?_
      refine x_isub (pc' := 45) (z := 2) rfl rfl (by decide) ?_
      refine x_istore (pc' := 47) (ls' := [_, _, _, _, _, _]) rfl rfl rfl rfl ?_
      refine x_iload (pc' := 49) rfl rfl rfl ?_
      refine x_if (a' := 56) (pc' := 52) (z := true) rfl rfl rfl (by decide) (fun _ => ?_) (fun h => by cases h)
      refine x_iload (pc' := 58) rfl rfl rfl ?_
      refine x_iconst (pc' := 59) rfl rfl ?_
      refine x_icmp (a' := 69) (pc' := 62) (z := true) rfl rfl rfl (by decide) (fun _ => ?_) (fun h => by cases h)
      refine x_iload (pc' := 71) rfl rfl rfl ?_
      refine x_iconst (pc' := 72) rfl rfl ?_
      refine x_icmp (a' := 85) (pc' := 75) (z := false) rfl rfl rfl (by decide) (fun h => by cases h) (fun _ => ?_)
      refine x_iload_n (pc' := 76) rfl rfl rfl ?_
      refine x_bipush (pc' := 78) rfl rfl ?_
      refine x_idiv (pc' := 79) (z := 5) rfl rfl (by decide) (by decide +kernel) ?_
      refine x_bipush (pc' := 81) rfl rfl ?_
      refine x_irem (pc' := 82) (z := 5) rfl rfl (by decide) (by decide +kernel) ?_
      refine x_goto (pc' := 89) rfl rfl ?_
      refine x_iconst (pc' := 90) rfl rfl ?_
      refine x_isub (pc' := 91) (z := 4) rfl rfl (by decide) ?_
      refine x_reti rfl rfl ?_
      refine sK_i (pc' := 6) rfl ?_
      refine x_istore_n (pc' := 7) (ls' := [_, _, _, _]) rfl rfl rfl rfl ?_
      refine x_iload_n (pc' := 8) rfl rfl rfl ?_
      refine x_iconst (pc' := 9) rfl rfl ?_
      refine x_icmp (a' := 31) (pc' := 12) (z := false) rfl rfl rfl (by decide) (fun h => by cases h) (fun _ => ?_)
      refine x_iload_n (pc' := 13) rfl rfl rfl ?_
      refine x_iconst (pc' := 14) rfl rfl ?_
      refine x_icmp (a' := 29) (pc' := 17) (z := false) rfl rfl rfl (by decide) (fun h => by cases h) (fun _ => ?_)
      refine x_iload_n (pc' := 18) rfl rfl rfl ?_
      refine x_cs (ls0 := [_]) (rest := []) rfl rfl rfl rfl ?_
      refine x_iload_n (pc' := 1) rfl rfl rfl ?_
      refine x_iconst (pc' := 2) rfl rfl ?_
      refine x_isub (pc' := 3) (z := 1) rfl rfl (by decide) ?_
      refine x_reti rfl rfl ?_
      refine sK_i (pc' := 21) rfl ?_
      refine x_iload_n (pc' := 22) rfl rfl rfl ?_
      refine x_icmp (a' := 29) (pc' := 25) (z := true) rfl rfl rfl (by decide) (fun _ => ?_) (fun h => by cases h)
      refine x_iconst (pc' := 30) rfl rfl ?_
      refine x_retz (z := false) rfl rfl ?_
      refine sK_i (pc' := 69) rfl ?_
      refine x_iload_n (pc' := 70) rfl rfl rfl ?_
      have J5063 : X 159 78 [.inr (.inr (12, (some 0))), .inl 1, .inl (bz (!(decide ((xs 2) = 0)))), .inl 1, .inl 1, .inl 0, .inl 4] [.inl (bz (!(xor false (!(decide ((xs 2) = 0)))))), .inl 4, .inr (.inr (12, (some 0))), .inl 0, .inr (.inr (21, (some 27)))] (sIw (sIw (sAw (sIw (sIw (sLw t 23 0 0 (-10000 : Int64)) 768 0 0) 811 0 0) 21 27 0 (-1)) 811 0 1) 811 0 0) (sK 159 161 19 [.inr (.inr (12, (some 0))), .inl 1, .inl (bz (!(decide ((xs 2) = 0)))), .inl (-1), .inl 0, .inl 1, sJk, sJk] [] (sK 161 228 24 [.inr (.inr (12, (some 0))), .inl 1, .inl (bz (!(decide ((xs 2) = 0)))), sJk] [] (sK 228 297 2148 [.inr (.inr (29, (some 0))), .inr (.inr (11, (some 0))), .inr (.inr (12, (some 0))), .inr (.inr (23, (some 0))), .inl 0, .inl 0, sJk] [] Qp))) := by
        refine x_cv (ls0 := [_, _, _, sJk, sJk, sJk]) (rest := [_, _]) rfl rfl rfl rfl rfl ?_
        refine x_iconst (pc' := 1) rfl rfl ?_
        refine x_istore_n (pc' := 2) (ls' := [_, _, _, _, _, _]) rfl rfl rfl rfl ?_
        refine x_iconst (pc' := 3) rfl rfl ?_
        refine x_istore (pc' := 5) (ls' := [_, _, _, _, _, _]) rfl rfl rfl rfl ?_
        refine x_iload (pc' := 7) rfl rfl rfl ?_
        refine x_aload_n (pc' := 8) rfl rfl rfl rfl rfl ?_
        refine x_gI (pc' := 11) (x := 0) rfl rfl rfl (Eq.trans (rdI_F rfl) (Eq.trans (rdI_F rfl) (Eq.trans rdIA (Eq.trans (rdI_F rfl) (Eq.trans (rdI_F rfl) (Eq.trans rdIL (z_I_786_0 e))))))) ?_
        refine x_icmp (a' := 87) (pc' := 14) (z := true) rfl rfl rfl (by decide) (fun _ => ?_) (fun h => by cases h)
        refine x_iload_n (pc' := 88) rfl rfl rfl ?_
        refine x_reti rfl rfl ?_
        refine sK_i (pc' := 81) rfl ?_
        refine x_iast (pc' := 82) (N := 200) (p := 0) rfl rfl rfl (Eq.trans rdNI (Eq.trans rdNI (Eq.trans rdNA (Eq.trans rdNI (Eq.trans rdNI (Eq.trans rdNL (z_N_21_27 e))))))) (io_in (p := 0) (N := 200) (by decide) (by decide)) (nn_io (p := 0) (by decide)) ?_
        refine x_aload_n (pc' := 83) rfl rfl rfl rfl rfl ?_
        refine x_gR (pc' := 86) (r := (some 0)) rfl rfl rfl (Eq.trans rdRA (Eq.trans rdRI (Eq.trans rdRI (Eq.trans rdRA (Eq.trans rdRI (Eq.trans rdRI (Eq.trans rdRL (z_R_769_0 e)))))))) ?_
        refine x_iload (pc' := 88) rfl rfl rfl ?_
        refine x_iald (pc' := 89) (N := 5) (x := 0) rfl rfl rfl (Eq.trans rdNA (Eq.trans rdNI (Eq.trans rdNI (Eq.trans rdNA (Eq.trans rdNI (Eq.trans rdNI (Eq.trans rdNL (z_N_21_0 e)))))))) (io_in (p := 4) (N := 5) (by decide) (by decide)) (Eq.trans (congrArg (sA (sAw (sIw (sIw (sAw (sIw (sIw (sLw t 23 0 0 (-10000 : Int64)) 768 0 0) 811 0 0) 21 27 0 (-1)) 811 0 1) 811 0 0) 21 27 0 (-1)) 21 0) (nn_io (p := 4) (by decide))) (Eq.trans (rdA_o rfl) (Eq.trans rdAI (Eq.trans rdAI (Eq.trans (rdA_o rfl) (Eq.trans rdAI (Eq.trans rdAI (Eq.trans rdAL (z_A_21_0_4 e))))))))) ?_
        refine x_iconst (pc' := 90) rfl rfl ?_
        refine x_icmp (a' := 110) (pc' := 93) (z := true) rfl rfl rfl (by decide) (fun _ => ?_) (fun h => by cases h)
        refine x_iconst (pc' := 111) rfl rfl ?_
        refine x_istore (pc' := 113) (ls' := [_, _, _, _, _, _, _]) rfl rfl rfl rfl ?_
        refine x_aload_n (pc' := 114) rfl rfl rfl rfl rfl ?_
        refine x_dup (pc' := 115) rfl rfl rfl ?_
        refine x_gI (pc' := 118) (x := 0) rfl rfl rfl (Eq.trans rdIA sI_s) ?_
        refine x_iconst (pc' := 119) rfl rfl ?_
        refine x_iadd (pc' := 120) (z := 1) rfl rfl (by decide) ?_
        refine x_pI (pc' := 123) rfl rfl rfl ?_
        refine x_iinc (pc' := 126) (y := 1) (ls' := [_, _, _, _, _, _, _]) rfl rfl rfl rfl rfl ?_
        refine x_goto (pc' := 25) rfl rfl ?_
        refine x_iload (pc' := 27) rfl rfl rfl ?_
        refine x_iconst (pc' := 28) rfl rfl ?_
        refine x_icmp (a' := 129) (pc' := 31) (z := false) rfl rfl rfl (by decide) (fun h => by cases h) (fun _ => ?_)
        refine x_iload (pc' := 33) rfl rfl rfl ?_
        refine x_if (a' := 129) (pc' := 36) (z := true) rfl rfl rfl (by decide) (fun _ => ?_) (fun h => by cases h)
        refine x_iload (pc' := 131) rfl rfl rfl ?_
        refine x_retz (z := false) rfl rfl ?_
        refine sK_i (pc' := 22) rfl ?_
        refine x_if (a' := 93) (pc' := 25) (z := true) rfl rfl rfl (by decide) (fun _ => ?_) (fun h => by cases h)
        refine x_iinc (pc' := 96) (y := 2) (ls' := [_, _, _, _, _, _, _, _]) rfl rfl rfl rfl rfl ?_
        refine x_goto (pc' := 8) rfl rfl ?_
        refine x_iload (pc' := 10) rfl rfl rfl ?_
        refine x_iconst (pc' := 11) rfl rfl ?_
        refine x_icmp (a' := 99) (pc' := 14) (z := false) rfl rfl rfl (by decide) (fun h => by cases h) (fun _ => ?_)
        refine x_aload_n (pc' := 15) rfl rfl rfl rfl rfl ?_
        refine x_iload_n (pc' := 16) rfl rfl rfl ?_
        refine x_iload_n (pc' := 17) rfl rfl rfl ?_
        refine x_iload (pc' := 19) rfl rfl rfl ?_
        refine x_cv (ls0 := [_, _, _, _, sJk, sJk, sJk]) (rest := []) rfl rfl rfl rfl rfl ?_
        refine x_iload_n (pc' := 1) rfl rfl rfl ?_
        refine x_iload_n (pc' := 2) rfl rfl rfl ?_
        refine x_iconst (pc' := 3) rfl rfl ?_
        refine x_cs (ls0 := [_, _, _, sJk, sJk, sJk]) (rest := []) rfl rfl rfl rfl ?_
        refine x_getstatic (pc' := 3) rfl rfl (show 1 < sC t 28 from z_st1 e) ?_
        refine x_iconst (pc' := 4) rfl rfl ?_
        refine x_iload_n (pc' := 5) rfl rfl rfl ?_
        refine x_imul (pc' := 6) (z := 3) rfl rfl (by decide) ?_
        refine x_iload_n (pc' := 7) rfl rfl rfl ?_
        refine x_iadd (pc' := 8) (z := 5) rfl rfl (by decide) ?_
        refine x_iald (pc' := 9) (N := 15) (x := 41) rfl rfl rfl (Eq.trans rdNI (Eq.trans rdNA (Eq.trans rdNI (Eq.trans rdNI (Eq.trans rdNA (Eq.trans rdNI (Eq.trans rdNI (Eq.trans rdNL (z_N_28_1 e))))))))) (io_in (p := 5) (N := 15) (by decide) (by decide)) (Eq.trans (congrArg (sA (sIw (sAw (sIw (sIw (sAw (sIw (sIw (sLw t 23 0 0 (-10000 : Int64)) 768 0 0) 811 0 0) 21 27 0 (-1)) 811 0 1) 811 0 0) 21 27 0 (-1)) 811 0 1) 28 1) (nn_io (p := 5) (by decide))) (Eq.trans rdAI (Eq.trans (rdA_F rfl) (Eq.trans rdAI (Eq.trans rdAI (Eq.trans (rdA_F rfl) (Eq.trans rdAI (Eq.trans rdAI (Eq.trans rdAL (z_A_28_1_5 e)))))))))) ?_
        refine x_istore_n (pc' := 10) (ls' := [_, _, _, _, _, _]) rfl rfl rfl rfl ?_
        refine x_iload_n (pc' := 11) rfl rfl rfl ?_
        refine x_bipush (pc' := 13) rfl rfl ?_
        refine x_icmp (a' := 20) (pc' := 16) (z := true) rfl rfl rfl (by decide) (fun _ => ?_) (fun h => by cases h)
        refine x_iload_n (pc' := 21) rfl rfl rfl ?_
        refine x_bipush (pc' := 23) rfl rfl ?_
        refine x_icmp (a' := 30) (pc' := 26) (z := false) rfl rfl rfl (by decide) (fun h => by cases h) (fun _ => ?_)
        refine x_iconst (pc' := 27) rfl rfl ?_
        refine x_goto (pc' := 39) rfl rfl ?_
        refine x_istore (pc' := 41) (ls' := [_, _, _, _, _, _]) rfl rfl rfl rfl ?_
        refine x_iload (pc' := 43) rfl rfl rfl ?_
        refine x_iload_n (pc' := 44) rfl rfl rfl ?_
        refine x_isub (pc' := 45) (z := 2) rfl rfl (by decide) ?_
        refine x_istore (pc' := 47) (ls' := [_, _, _, _, _, _]) rfl rfl rfl rfl ?_
        refine x_iload (pc' := 49) rfl rfl rfl ?_
        refine x_if (a' := 56) (pc' := 52) (z := true) rfl rfl rfl (by decide) (fun _ => ?_) (fun h => by cases h)
        refine x_iload (pc' := 58) rfl rfl rfl ?_
        refine x_iconst (pc' := 59) rfl rfl ?_
        refine x_icmp (a' := 69) (pc' := 62) (z := true) rfl rfl rfl (by decide) (fun _ => ?_) (fun h => by cases h)
        refine x_iload (pc' := 71) rfl rfl rfl ?_
        refine x_iconst (pc' := 72) rfl rfl ?_
        refine x_icmp (a' := 85) (pc' := 75) (z := false) rfl rfl rfl (by decide) (fun h => by cases h) (fun _ => ?_)
        refine x_iload_n (pc' := 76) rfl rfl rfl ?_
        refine x_bipush (pc' := 78) rfl rfl ?_
        refine x_idiv (pc' := 79) (z := 4) rfl rfl (by decide) (by decide +kernel) ?_
        refine x_bipush (pc' := 81) rfl rfl ?_
        refine x_irem (pc' := 82) (z := 4) rfl rfl (by decide) (by decide +kernel) ?_
        refine x_goto (pc' := 89) rfl rfl ?_
        refine x_iconst (pc' := 90) rfl rfl ?_
        refine x_isub (pc' := 91) (z := 3) rfl rfl (by decide) ?_
        refine x_reti rfl rfl ?_
        refine sK_i (pc' := 6) rfl ?_
        refine x_iconst (pc' := 7) rfl rfl ?_
        refine x_icmp (a' := 14) (pc' := 10) (z := false) rfl rfl rfl (by decide) (fun h => by cases h) (fun _ => ?_)
        refine x_iconst (pc' := 11) rfl rfl ?_
        refine x_goto (pc' := 15) rfl rfl ?_
        refine x_istore (pc' := 17) (ls' := [_, _, _, _, _, _, _]) rfl rfl rfl rfl ?_
        refine x_aload_n (pc' := 18) rfl rfl rfl rfl rfl ?_
        refine x_iconst (pc' := 19) rfl rfl ?_
        refine x_pI (pc' := 22) rfl rfl rfl ?_
        refine x_iconst (pc' := 23) rfl rfl ?_
        refine x_istore (pc' := 25) (ls' := [_, _, _, _, _, _, _]) rfl rfl rfl rfl ?_
        refine x_iload (pc' := 27) rfl rfl rfl ?_
        refine x_iconst (pc' := 28) rfl rfl ?_
        refine x_icmp (a' := 129) (pc' := 31) (z := false) rfl rfl rfl (by decide) (fun h => by cases h) (fun _ => ?_)
        refine x_iload (pc' := 33) rfl rfl rfl ?_
        refine x_if (a' := 129) (pc' := 36) (z := false) rfl rfl rfl (by decide) (fun h => by cases h) (fun _ => ?_)
        refine x_iload_n (pc' := 37) rfl rfl rfl ?_
        refine x_iload_n (pc' := 38) rfl rfl rfl ?_
        refine x_iload (pc' := 40) rfl rfl rfl ?_
        refine x_cs (ls0 := [_, _, _, sJk, sJk, sJk]) (rest := []) rfl rfl rfl rfl ?_
        refine x_getstatic (pc' := 3) rfl rfl (show 1 < sC t 28 from z_st1 e) ?_
        refine x_iconst (pc' := 4) rfl rfl ?_
        refine x_iload_n (pc' := 5) rfl rfl rfl ?_
        refine x_imul (pc' := 6) (z := 3) rfl rfl (by decide) ?_
        refine x_iload_n (pc' := 7) rfl rfl rfl ?_
        refine x_iadd (pc' := 8) (z := 5) rfl rfl (by decide) ?_
        refine x_iald (pc' := 9) (N := 15) (x := 41) rfl rfl rfl (Eq.trans rdNI (Eq.trans rdNI (Eq.trans rdNA (Eq.trans rdNI (Eq.trans rdNI (Eq.trans rdNA (Eq.trans rdNI (Eq.trans rdNI (Eq.trans rdNL (z_N_28_1 e)))))))))) (io_in (p := 5) (N := 15) (by decide) (by decide)) (Eq.trans (congrArg (sA (sIw (sIw (sAw (sIw (sIw (sAw (sIw (sIw (sLw t 23 0 0 (-10000 : Int64)) 768 0 0) 811 0 0) 21 27 0 (-1)) 811 0 1) 811 0 0) 21 27 0 (-1)) 811 0 1) 811 0 0) 28 1) (nn_io (p := 5) (by decide))) (Eq.trans rdAI (Eq.trans rdAI (Eq.trans (rdA_F rfl) (Eq.trans rdAI (Eq.trans rdAI (Eq.trans (rdA_F rfl) (Eq.trans rdAI (Eq.trans rdAI (Eq.trans rdAL (z_A_28_1_5 e))))))))))) ?_
        refine x_istore_n (pc' := 10) (ls' := [_, _, _, _, _, _]) rfl rfl rfl rfl ?_
        refine x_iload_n (pc' := 11) rfl rfl rfl ?_
        refine x_bipush (pc' := 13) rfl rfl ?_
        refine x_icmp (a' := 20) (pc' := 16) (z := true) rfl rfl rfl (by decide) (fun _ => ?_) (fun h => by cases h)
        refine x_iload_n (pc' := 21) rfl rfl rfl ?_
        refine x_bipush (pc' := 23) rfl rfl ?_
        refine x_icmp (a' := 30) (pc' := 26) (z := false) rfl rfl rfl (by decide) (fun h => by cases h) (fun _ => ?_)
        refine x_iconst (pc' := 27) rfl rfl ?_
        refine x_goto (pc' := 39) rfl rfl ?_
        refine x_istore (pc' := 41) (ls' := [_, _, _, _, _, _]) rfl rfl rfl rfl ?_
        refine x_iload (pc' := 43) rfl rfl rfl ?_
        refine x_iload_n (pc' := 44) rfl rfl rfl ?_
        refine x_isub (pc' := 45) (z := 2) rfl rfl (by decide) ?_
        refine x_istore (pc' := 47) (ls' := [_, _, _, _, _, _]) rfl rfl rfl rfl ?_
        refine x_iload (pc' := 49) rfl rfl rfl ?_
        refine x_if (a' := 56) (pc' := 52) (z := true) rfl rfl rfl (by decide) (fun _ => ?_) (fun h => by cases h)
        refine x_iload (pc' := 58) rfl rfl rfl ?_
        refine x_iconst (pc' := 59) rfl rfl ?_
        refine x_icmp (a' := 69) (pc' := 62) (z := true) rfl rfl rfl (by decide) (fun _ => ?_) (fun h => by cases h)
        refine x_iload (pc' := 71) rfl rfl rfl ?_
        refine x_iconst (pc' := 72) rfl rfl ?_
        refine x_icmp (a' := 85) (pc' := 75) (z := false) rfl rfl rfl (by decide) (fun h => by cases h) (fun _ => ?_)
        refine x_iload_n (pc' := 76) rfl rfl rfl ?_
        refine x_bipush (pc' := 78) rfl rfl ?_
        refine x_idiv (pc' := 79) (z := 4) rfl rfl (by decide) (by decide +kernel) ?_
        refine x_bipush (pc' := 81) rfl rfl ?_
        refine x_irem (pc' := 82) (z := 4) rfl rfl (by decide) (by decide +kernel) ?_
        refine x_goto (pc' := 89) rfl rfl ?_
        refine x_iconst (pc' := 90) rfl rfl ?_
        refine x_isub (pc' := 91) (z := 3) rfl rfl (by decide) ?_
        refine x_reti rfl rfl ?_
        refine sK_i (pc' := 43) rfl ?_
        refine x_istore (pc' := 45) (ls' := [_, _, _, _, _, _, _]) rfl rfl rfl rfl ?_
        refine x_iload (pc' := 47) rfl rfl rfl ?_
        refine x_iconst (pc' := 48) rfl rfl ?_
        refine x_icmp (a' := 123) (pc' := 51) (z := false) rfl rfl rfl (by decide) (fun h => by cases h) (fun _ => ?_)
        refine x_aload_n (pc' := 52) rfl rfl rfl rfl rfl ?_
        refine x_gR (pc' := 55) (r := (some 27)) rfl rfl rfl (Eq.trans rdRI (Eq.trans rdRI (Eq.trans rdRA (Eq.trans rdRI (Eq.trans rdRI (Eq.trans rdRA (Eq.trans rdRI (Eq.trans rdRI (Eq.trans rdRL (z_R_809_0 e)))))))))) ?_
        refine x_aload_n (pc' := 56) rfl rfl rfl rfl rfl ?_
        refine x_gI (pc' := 59) (x := 0) rfl rfl rfl sI_s ?_
        refine x_aload_n (pc' := 60) rfl rfl rfl rfl rfl ?_
        refine x_iload (pc' := 62) rfl rfl rfl ?_
        refine x_iload_n (pc' := 63) rfl rfl rfl ?_
        refine x_iload_n (pc' := 64) rfl rfl rfl ?_
        refine x_iload (pc' := 66) rfl rfl rfl ?_
        refine x_cs (ls0 := [_, _, _, sJk]) (rest := [_, _, _, _]) rfl rfl rfl rfl ?_
        refine x_iload_n (pc' := 1) rfl rfl rfl ?_
        refine x_iload_n (pc' := 2) rfl rfl rfl ?_
        refine x_iload_n (pc' := 3) rfl rfl rfl ?_
        refine x_cs (ls0 := [_, _, _, sJk, sJk, sJk]) (rest := []) rfl rfl rfl rfl ?_
        refine x_getstatic (pc' := 3) rfl rfl (show 1 < sC t 28 from z_st1 e) ?_
        refine x_iconst (pc' := 4) rfl rfl ?_
        refine x_iload_n (pc' := 5) rfl rfl rfl ?_
        refine x_imul (pc' := 6) (z := 3) rfl rfl (by decide) ?_
        refine x_iload_n (pc' := 7) rfl rfl rfl ?_
        refine x_iadd (pc' := 8) (z := 5) rfl rfl (by decide) ?_
        refine x_iald (pc' := 9) (N := 15) (x := 41) rfl rfl rfl (Eq.trans rdNI (Eq.trans rdNI (Eq.trans rdNA (Eq.trans rdNI (Eq.trans rdNI (Eq.trans rdNA (Eq.trans rdNI (Eq.trans rdNI (Eq.trans rdNL (z_N_28_1 e)))))))))) (io_in (p := 5) (N := 15) (by decide) (by decide)) (Eq.trans (congrArg (sA (sIw (sIw (sAw (sIw (sIw (sAw (sIw (sIw (sLw t 23 0 0 (-10000 : Int64)) 768 0 0) 811 0 0) 21 27 0 (-1)) 811 0 1) 811 0 0) 21 27 0 (-1)) 811 0 1) 811 0 0) 28 1) (nn_io (p := 5) (by decide))) (Eq.trans rdAI (Eq.trans rdAI (Eq.trans (rdA_F rfl) (Eq.trans rdAI (Eq.trans rdAI (Eq.trans (rdA_F rfl) (Eq.trans rdAI (Eq.trans rdAI (Eq.trans rdAL (z_A_28_1_5 e))))))))))) ?_
        refine x_istore_n (pc' := 10) (ls' := [_, _, _, _, _, _]) rfl rfl rfl rfl ?_
        refine x_iload_n (pc' := 11) rfl rfl rfl ?_
        refine x_bipush (pc' := 13) rfl rfl ?_
        refine x_icmp (a' := 20) (pc' := 16) (z := true) rfl rfl rfl (by decide) (fun _ => ?_) (fun h => by cases h)
        refine x_iload_n (pc' := 21) rfl rfl rfl ?_
        refine x_bipush (pc' := 23) rfl rfl ?_
        refine x_icmp (a' := 30) (pc' := 26) (z := false) rfl rfl rfl (by decide) (fun h => by cases h) (fun _ => ?_)
        refine x_iconst (pc' := 27) rfl rfl ?_
        refine x_goto (pc' := 39) rfl rfl ?_
        refine x_istore (pc' := 41) (ls' := [_, _, _, _, _, _]) rfl rfl rfl rfl ?_
        refine x_iload (pc' := 43) rfl rfl rfl ?_
        refine x_iload_n (pc' := 44) rfl rfl rfl ?_
        refine x_isub (pc' := 45) (z := 2) rfl rfl (by decide) ?_
        refine x_istore (pc' := 47) (ls' := [_, _, _, _, _, _]) rfl rfl rfl rfl ?_
        refine x_iload (pc' := 49) rfl rfl rfl ?_
        refine x_if (a' := 56) (pc' := 52) (z := true) rfl rfl rfl (by decide) (fun _ => ?_) (fun h => by cases h)
        refine x_iload (pc' := 58) rfl rfl rfl ?_
        refine x_iconst (pc' := 59) rfl rfl ?_
        refine x_icmp (a' := 69) (pc' := 62) (z := true) rfl rfl rfl (by decide) (fun _ => ?_) (fun h => by cases h)
        refine x_iload (pc' := 71) rfl rfl rfl ?_
        refine x_iconst (pc' := 72) rfl rfl ?_
        refine x_icmp (a' := 85) (pc' := 75) (z := false) rfl rfl rfl (by decide) (fun h => by cases h) (fun _ => ?_)
        refine x_iload_n (pc' := 76) rfl rfl rfl ?_
        refine x_bipush (pc' := 78) rfl rfl ?_
        refine x_idiv (pc' := 79) (z := 4) rfl rfl (by decide) (by decide +kernel) ?_
        refine x_bipush (pc' := 81) rfl rfl ?_
        refine x_irem (pc' := 82) (z := 4) rfl rfl (by decide) (by decide +kernel) ?_
        refine x_goto (pc' := 89) rfl rfl ?_
        refine x_iconst (pc' := 90) rfl rfl ?_
        refine x_isub (pc' := 91) (z := 3) rfl rfl (by decide) ?_
        refine x_reti rfl rfl ?_
        refine sK_i (pc' := 6) rfl ?_
        refine x_istore_n (pc' := 7) (ls' := [_, _, _, _]) rfl rfl rfl rfl ?_
        refine x_iload_n (pc' := 8) rfl rfl rfl ?_
        refine x_iconst (pc' := 9) rfl rfl ?_
        refine x_icmp (a' := 31) (pc' := 12) (z := false) rfl rfl rfl (by decide) (fun h => by cases h) (fun _ => ?_)
        refine x_iload_n (pc' := 13) rfl rfl rfl ?_
        refine x_iconst (pc' := 14) rfl rfl ?_
        refine x_icmp (a' := 29) (pc' := 17) (z := false) rfl rfl rfl (by decide) (fun h => by cases h) (fun _ => ?_)
        refine x_iload_n (pc' := 18) rfl rfl rfl ?_
        refine x_cs (ls0 := [_]) (rest := []) rfl rfl rfl rfl ?_
        refine x_iload_n (pc' := 1) rfl rfl rfl ?_
        refine x_iconst (pc' := 2) rfl rfl ?_
        refine x_isub (pc' := 3) (z := 0) rfl rfl (by decide) ?_
        refine x_reti rfl rfl ?_
        refine sK_i (pc' := 21) rfl ?_
        refine x_iload_n (pc' := 22) rfl rfl rfl ?_
        refine x_icmp (a' := 29) (pc' := 25) (z := false) rfl rfl rfl (by decide) (fun h => by cases h) (fun _ => ?_)
        refine x_iconst (pc' := 26) rfl rfl ?_
        refine x_goto (pc' := 30) rfl rfl ?_
        refine x_retz (z := true) rfl rfl ?_
        refine sK_i (pc' := 69) rfl ?_
        refine x_iload_n (pc' := 70) rfl rfl rfl ?_
        have J5093 : X 159 78 [.inr (.inr (12, (some 0))), .inl 1, .inl (bz (!(decide ((xs 2) = 0)))), .inl 2, .inl 1, .inl 0, .inl 3] [.inl (bz (!(xor true (!(decide ((xs 2) = 0)))))), .inl 3, .inr (.inr (12, (some 0))), .inl 0, .inr (.inr (21, (some 27)))] (sIw (sIw (sAw (sIw (sIw (sAw (sIw (sIw (sLw t 23 0 0 (-10000 : Int64)) 768 0 0) 811 0 0) 21 27 0 (-1)) 811 0 1) 811 0 0) 21 27 0 (-1)) 811 0 1) 811 0 0) (sK 159 161 19 [.inr (.inr (12, (some 0))), .inl 1, .inl (bz (!(decide ((xs 2) = 0)))), .inl (-1), .inl 0, .inl 2, sJk, sJk] [] (sK 161 228 24 [.inr (.inr (12, (some 0))), .inl 1, .inl (bz (!(decide ((xs 2) = 0)))), sJk] [] (sK 228 297 2148 [.inr (.inr (29, (some 0))), .inr (.inr (11, (some 0))), .inr (.inr (12, (some 0))), .inr (.inr (23, (some 0))), .inl 0, .inl 0, sJk] [] Qp))) := by
          refine x_cv (ls0 := [_, _, _, sJk, sJk, sJk]) (rest := [_, _]) rfl rfl rfl rfl rfl ?_
          refine x_iconst (pc' := 1) rfl rfl ?_
          refine x_istore_n (pc' := 2) (ls' := [_, _, _, _, _, _]) rfl rfl rfl rfl ?_
          refine x_iconst (pc' := 3) rfl rfl ?_
          refine x_istore (pc' := 5) (ls' := [_, _, _, _, _, _]) rfl rfl rfl rfl ?_
          refine x_iload (pc' := 7) rfl rfl rfl ?_
          refine x_aload_n (pc' := 8) rfl rfl rfl rfl rfl ?_
          refine x_gI (pc' := 11) (x := 0) rfl rfl rfl (Eq.trans (rdI_F rfl) (Eq.trans (rdI_F rfl) (Eq.trans rdIA (Eq.trans (rdI_F rfl) (Eq.trans (rdI_F rfl) (Eq.trans rdIA (Eq.trans (rdI_F rfl) (Eq.trans (rdI_F rfl) (Eq.trans rdIL (z_I_786_0 e)))))))))) ?_
          refine x_icmp (a' := 87) (pc' := 14) (z := true) rfl rfl rfl (by decide) (fun _ => ?_) (fun h => by cases h)
          refine x_iload_n (pc' := 88) rfl rfl rfl ?_
          refine x_reti rfl rfl ?_
          refine sK_i (pc' := 81) rfl ?_
          refine x_iast (pc' := 82) (N := 200) (p := 0) rfl rfl rfl (Eq.trans rdNI (Eq.trans rdNI (Eq.trans rdNA (Eq.trans rdNI (Eq.trans rdNI (Eq.trans rdNA (Eq.trans rdNI (Eq.trans rdNI (Eq.trans rdNL (z_N_21_27 e)))))))))) (io_in (p := 0) (N := 200) (by decide) (by decide)) (nn_io (p := 0) (by decide)) ?_
          refine x_aload_n (pc' := 83) rfl rfl rfl rfl rfl ?_
          refine x_gR (pc' := 86) (r := (some 0)) rfl rfl rfl (Eq.trans rdRA (Eq.trans rdRI (Eq.trans rdRI (Eq.trans rdRA (Eq.trans rdRI (Eq.trans rdRI (Eq.trans rdRA (Eq.trans rdRI (Eq.trans rdRI (Eq.trans rdRL (z_R_769_0 e))))))))))) ?_
          refine x_iload (pc' := 88) rfl rfl rfl ?_
          refine x_iald (pc' := 89) (N := 5) (x := 0) rfl rfl rfl (Eq.trans rdNA (Eq.trans rdNI (Eq.trans rdNI (Eq.trans rdNA (Eq.trans rdNI (Eq.trans rdNI (Eq.trans rdNA (Eq.trans rdNI (Eq.trans rdNI (Eq.trans rdNL (z_N_21_0 e))))))))))) (io_in (p := 3) (N := 5) (by decide) (by decide)) (Eq.trans (congrArg (sA (sAw (sIw (sIw (sAw (sIw (sIw (sAw (sIw (sIw (sLw t 23 0 0 (-10000 : Int64)) 768 0 0) 811 0 0) 21 27 0 (-1)) 811 0 1) 811 0 0) 21 27 0 (-1)) 811 0 1) 811 0 0) 21 27 0 (-1)) 21 0) (nn_io (p := 3) (by decide))) (Eq.trans (rdA_o rfl) (Eq.trans rdAI (Eq.trans rdAI (Eq.trans (rdA_o rfl) (Eq.trans rdAI (Eq.trans rdAI (Eq.trans (rdA_o rfl) (Eq.trans rdAI (Eq.trans rdAI (Eq.trans rdAL (z_A_21_0_3 e)))))))))))) ?_
          refine x_iconst (pc' := 90) rfl rfl ?_
          refine x_icmp (a' := 110) (pc' := 93) (z := true) rfl rfl rfl (by decide) (fun _ => ?_) (fun h => by cases h)
          refine x_iconst (pc' := 111) rfl rfl ?_
          refine x_istore (pc' := 113) (ls' := [_, _, _, _, _, _, _]) rfl rfl rfl rfl ?_
          refine x_aload_n (pc' := 114) rfl rfl rfl rfl rfl ?_
          refine x_dup (pc' := 115) rfl rfl rfl ?_
          refine x_gI (pc' := 118) (x := 0) rfl rfl rfl (Eq.trans rdIA sI_s) ?_
          refine x_iconst (pc' := 119) rfl rfl ?_
          refine x_iadd (pc' := 120) (z := 1) rfl rfl (by decide) ?_
          refine x_pI (pc' := 123) rfl rfl rfl ?_
          refine x_iinc (pc' := 126) (y := 1) (ls' := [_, _, _, _, _, _, _]) rfl rfl rfl rfl rfl ?_
          refine x_goto (pc' := 25) rfl rfl ?_
          refine x_iload (pc' := 27) rfl rfl rfl ?_
          refine x_iconst (pc' := 28) rfl rfl ?_
          refine x_icmp (a' := 129) (pc' := 31) (z := false) rfl rfl rfl (by decide) (fun h => by cases h) (fun _ => ?_)
          refine x_iload (pc' := 33) rfl rfl rfl ?_
          refine x_if (a' := 129) (pc' := 36) (z := true) rfl rfl rfl (by decide) (fun _ => ?_) (fun h => by cases h)
          refine x_iload (pc' := 131) rfl rfl rfl ?_
          refine x_retz (z := false) rfl rfl ?_
          refine sK_i (pc' := 22) rfl ?_
          refine x_if (a' := 93) (pc' := 25) (z := true) rfl rfl rfl (by decide) (fun _ => ?_) (fun h => by cases h)
          refine x_iinc (pc' := 96) (y := 3) (ls' := [_, _, _, _, _, _, _, _]) rfl rfl rfl rfl rfl ?_
          refine x_goto (pc' := 8) rfl rfl ?_
          refine x_iload (pc' := 10) rfl rfl rfl ?_
          refine x_iconst (pc' := 11) rfl rfl ?_
          refine x_icmp (a' := 99) (pc' := 14) (z := true) rfl rfl rfl (by decide) (fun _ => ?_) (fun h => by cases h)
          refine x_iload_n (pc' := 100) rfl rfl rfl ?_
          refine x_reti rfl rfl ?_
          refine sK_i (pc' := 27) rfl ?_
          refine x_istore_n (pc' := 28) (ls' := [_, _, _, _]) rfl rfl rfl rfl ?_
          refine x_iload_n (pc' := 29) rfl rfl rfl ?_
          refine x_iconst (pc' := 30) rfl rfl ?_
          refine x_icmp (a' := 52) (pc' := 33) (z := true) rfl rfl rfl (by decide) (fun _ => ?_) (fun h => by cases h)
          refine x_sipush (pc' := 55) rfl rfl ?_
          refine x_reti rfl rfl ?_
          refine sK_i (pc' := 2151) rfl ?_
          refine x_istore (pc' := 2153) (ls' := [_, _, _, _, _, _, _]) rfl rfl rfl rfl ?_
          refine x_aload_n (pc' := 2154) rfl rfl rfl rfl rfl ?_
          refine x_cv (ls0 := [_]) (rest := []) rfl rfl rfl rfl rfl ?_
          refine x_aload_n (pc' := 1) rfl rfl rfl rfl rfl ?_
          refine x_gI (pc' := 4) (x := 0) rfl rfl rfl (Eq.trans (rdI_F rfl) (Eq.trans rdIA (Eq.trans (rdI_F rfl) (Eq.trans (rdI_F rfl) (Eq.trans rdIA (Eq.trans (rdI_F rfl) (Eq.trans (rdI_F rfl) (Eq.trans rdIA (Eq.trans (rdI_F rfl) sI_s))))))))) ?_
          refine x_reti rfl rfl ?_
          refine sK_i (pc' := 2157) rfl ?_
          refine x_iload (pc' := 2159) rfl rfl rfl ?_
          refine x_icmp (a' := 2164) (pc' := 2162) (z := true) rfl rfl rfl (by decide) (fun _ => ?_) (fun h => by cases h)
          refine x_iload (pc' := 2166) rfl rfl rfl ?_
          refine x_if (a' := 2181) (pc' := 2169) (z := false) rfl rfl rfl (by decide) (fun h => by cases h) (fun _ => ?_)
          refine x_aload_n (pc' := 2170) rfl rfl rfl rfl rfl ?_
          refine x_iconst (pc' := 2171) rfl rfl ?_
          refine x_lald (pc' := 2172) (N := 1) (x := (-10000 : Int64)) rfl rfl (Eq.trans rdNI (Eq.trans rdNA (Eq.trans rdNI (Eq.trans rdNI (Eq.trans rdNA (Eq.trans rdNI (Eq.trans rdNI (Eq.trans rdNA (Eq.trans rdNI (Eq.trans rdNI (Eq.trans rdNL (z_N_23_0 e)))))))))))) (io_in (p := 0) (N := 1) (by decide) (by decide)) (Eq.trans (congrArg (sL (sIw (sAw (sIw (sIw (sAw (sIw (sIw (sAw (sIw (sIw (sLw t 23 0 0 (-10000 : Int64)) 768 0 0) 811 0 0) 21 27 0 (-1)) 811 0 1) 811 0 0) 21 27 0 (-1)) 811 0 1) 811 0 0) 21 27 0 (-1)) 811 0 1) 23 0) (nn_io (p := 0) (by decide))) (Eq.trans rdLI (Eq.trans rdLA (Eq.trans rdLI (Eq.trans rdLI (Eq.trans rdLA (Eq.trans rdLI (Eq.trans rdLI (Eq.trans rdLA (Eq.trans rdLI (Eq.trans rdLI sL_s))))))))))) ?_
          refine x_iload (pc' := 2174) rfl rfl rfl ?_
          refine x_i2l (pc' := 2175) (z := (-10000 : Int64)) rfl rfl (by decide) ?_
          refine x_lcmp (pc' := 2176) (z := 0) rfl rfl (sLcmp_s _) ?_
          refine x_if (a' := 2181) (pc' := 2179) (z := true) rfl rfl rfl (by decide) (fun _ => ?_) (fun h => by cases h)
          refine x_goto (pc' := 2938) rfl rfl ?_
          refine x_iinc (pc' := 2941) (y := 7) (ls' := [_, _, _, _, _, _, _]) rfl rfl rfl rfl rfl ?_
          refine x_goto (pc' := 23) rfl rfl ?_
          refine x_iload (pc' := 25) rfl rfl rfl ?_
          refine x_aload_n (pc' := 26) rfl rfl rfl rfl rfl ?_
          refine x_alen (pc' := 27) (N := 7) rfl rfl rfl (Eq.trans rdNI (Eq.trans rdNA (Eq.trans rdNI (Eq.trans rdNI (Eq.trans rdNA (Eq.trans rdNI (Eq.trans rdNI (Eq.trans rdNA (Eq.trans rdNI (Eq.trans rdNI (Eq.trans rdNL (z_N_29_0 e)))))))))))) (?_ : X _ _ _ (.inl 7 :: _) _ _)
          refine x_bipush (pc' := 29) rfl rfl ?_
          refine x_isub (pc' := 30) (z := 0) rfl rfl (by decide) ?_
          refine x_icmp (a' := 2944) (pc' := 33) (z := true) rfl rfl rfl (by decide) (fun _ => ?_) (fun h => by cases h)
          refine x_iconst (pc' := 2945) rfl rfl ?_
          refine x_retz (z := true) rfl rfl ?_
          exact Qp_ok e (p := 0) (q := 0) rfl rfl rfl rfl
        refine x_icmp (a' := 77) (pc' := 73) (z := (xor true (!(decide ((xs 2) = 0))))) rfl rfl rfl (bz_neb _ _) (fun q5093 => ?_) (fun q5093 => ?_)
        · refine x_iconst (pc' := 78) rfl rfl ?_
          ((try rw [q5093] at J5093); (try rw [q5093]); (try simp only [cd_t, cd_f, nt_t, nt_f, an_t, an_f, or_t, or_f] at J5093); (try simp only [cd_t, cd_f, nt_t, nt_f, an_t, an_f, or_t, or_f]); exact J5093)
        · refine x_iconst (pc' := 74) rfl rfl ?_
          refine x_goto (pc' := 78) rfl rfl ?_
          ((try rw [q5093] at J5093); (try rw [q5093]); (try simp only [cd_t, cd_f, nt_t, nt_f, an_t, an_f, or_t, or_f] at J5093); (try simp only [cd_t, cd_f, nt_t, nt_f, an_t, an_f, or_t, or_f]); exact J5093)
      refine x_icmp (a' := 77) (pc' := 73) (z := (xor false (!(decide ((xs 2) = 0))))) rfl rfl rfl (bz_neb _ _) (fun q5063 => ?_) (fun q5063 => ?_)
      · refine x_iconst (pc' := 78) rfl rfl ?_
        ((try rw [q5063] at J5063); (try rw [q5063]); (try simp only [cd_t, cd_f, nt_t, nt_f, an_t, an_f, or_t, or_f] at J5063); (try simp only [cd_t, cd_f, nt_t, nt_f, an_t, an_f, or_t, or_f]); exact J5063)
      · refine x_iconst (pc' := 74) rfl rfl ?_
        refine x_goto (pc' := 78) rfl rfl ?_
        ((try rw [q5063] at J5063); (try rw [q5063]); (try simp only [cd_t, cd_f, nt_t, nt_f, an_t, an_f, or_t, or_f] at J5063); (try simp only [cd_t, cd_f, nt_t, nt_f, an_t, an_f, or_t, or_f]); exact J5063)
    refine x_icmp (a' := 77) (pc' := 73) (z := (xor false (!(decide ((xs 2) = 0))))) rfl rfl rfl (bz_neb _ _) (fun q5033 => ?_) (fun q5033 => ?_)
    · refine x_iconst (pc' := 78) rfl rfl ?_
      ((try rw [q5033] at J5033); (try rw [q5033]); (try simp only [cd_t, cd_f, nt_t, nt_f, an_t, an_f, or_t, or_f] at J5033); (try simp only [cd_t, cd_f, nt_t, nt_f, an_t, an_f, or_t, or_f]); exact J5033)
    · refine x_iconst (pc' := 74) rfl rfl ?_
      refine x_goto (pc' := 78) rfl rfl ?_
      ((try rw [q5033] at J5033); (try rw [q5033]); (try simp only [cd_t, cd_f, nt_t, nt_f, an_t, an_f, or_t, or_f] at J5033); (try simp only [cd_t, cd_f, nt_t, nt_f, an_t, an_f, or_t, or_f]); exact J5033)
  refine x_if (a' := 2147) (pc' := 2143) (z := decide ((xs 2) = 0)) rfl rfl rfl rfl (fun q5001 => ?_) (fun q5001 => ?_)
  · refine x_iconst (pc' := 2148) rfl rfl ?_
    ((try rw [q5001] at J5001); (try rw [q5001]); (try simp only [cd_t, cd_f, nt_t, nt_f, an_t, an_f, or_t, or_f] at J5001); (try simp only [cd_t, cd_f, nt_t, nt_f, an_t, an_f, or_t, or_f]); exact J5001)
  · refine x_iconst (pc' := 2144) rfl rfl ?_
    refine x_goto (pc' := 2148) rfl rfl ?_
    ((try rw [q5001] at J5001); (try rw [q5001]); (try simp only [cd_t, cd_f, nt_t, nt_f, an_t, an_f, or_t, or_f] at J5001); (try simp only [cd_t, cd_f, nt_t, nt_f, an_t, an_f, or_t, or_f]); exact J5001)
set_option maxHeartbeats 4000000 in
set_option maxRecDepth 10000 in
theorem v_26_1_i {t : sT} {xs : Nat → Int32}
    (e : t = T16 7 xs)
    (hk : ((xs 0) &&& 63) = 26)
    (e0 : xs 1 = 1) :
    X 297 23 [.inr (.inr (29, (some 0))), .inr (.inr (11, (some 0))), .inr (.inr (12, (some 0))), .inr (.inr (23, (some 0))), .inl 0, sJk, sJk] [] t Qp := by
  have k0 : X 297 2125 [.inr (.inr (29, (some 0))), .inr (.inr (11, (some 0))), .inr (.inr (12, (some 0))), .inr (.inr (23, (some 0))), .inl 0, sJk, sJk] [.inl 0] (sLw t 23 0 0 (-10000 : Int64)) Qp := v_26_1_i_2 e hk e0
  refine x_iload (pc' := 25) rfl rfl rfl ?_
  refine x_aload_n (pc' := 26) rfl rfl rfl rfl rfl ?_
  refine x_alen (pc' := 27) (N := 7) rfl rfl rfl (z_N_29_0 e) (?_ : X _ _ _ (.inl 7 :: _) _ _)
  refine x_bipush (pc' := 29) rfl rfl ?_
  refine x_isub (pc' := 30) (z := 0) rfl rfl (by decide) ?_
  refine x_icmp (a' := 2944) (pc' := 33) (z := false) rfl rfl rfl (by decide) (fun h => by cases h) (fun _ => ?_)
  refine x_aload_n (pc' := 34) rfl rfl rfl rfl rfl ?_
  refine x_iload (pc' := 36) rfl rfl rfl ?_
  refine x_iald (pc' := 37) (N := 7) (x := (xs 0)) rfl rfl rfl (z_N_29_0 e) (io_in (p := 0) (N := 7) (by decide) (by decide)) (Eq.trans (congrArg (sA t 29 0) (nn_io (p := 0) (by decide))) (z_A_29_0_0 e)) ?_
  refine x_bipush (pc' := 39) rfl rfl ?_
  refine x_iand (pc' := 40) (z := ((xs 0) &&& 63)) rfl rfl rfl ?_
  refine x_switch (pc' := 2100) rfl (by rw [hk]; decide) ?_
  refine x_aload_n (pc' := 2101) rfl rfl rfl rfl rfl ?_
  refine x_aload_n (pc' := 2102) rfl rfl rfl rfl rfl ?_
  refine x_iload (pc' := 2104) rfl rfl rfl ?_
  refine x_iconst (pc' := 2105) rfl rfl ?_
  refine x_iadd (pc' := 2106) (z := 1) rfl rfl (by decide) ?_
  refine x_iald (pc' := 2107) (N := 7) (x := 1) rfl rfl rfl (z_N_29_0 e) (io_in (p := 1) (N := 7) (by decide) (by decide)) (Eq.trans (congrArg (sA t 29 0) (nn_io (p := 1) (by decide))) (Eq.trans (z_A_29_0_1 e) e0)) ?_
  refine x_aload_n (pc' := 2108) rfl rfl rfl rfl rfl ?_
  refine x_iload (pc' := 2110) rfl rfl rfl ?_
  refine x_iconst (pc' := 2111) rfl rfl ?_
  refine x_iadd (pc' := 2112) (z := 2) rfl rfl (by decide) ?_
  refine x_iald (pc' := 2113) (N := 7) (x := (xs 2)) rfl rfl rfl (z_N_29_0 e) (io_in (p := 2) (N := 7) (by decide) (by decide)) (Eq.trans (congrArg (sA t 29 0) (nn_io (p := 2) (by decide))) (z_A_29_0_2 e)) ?_
  have J3 : X 297 2121 [.inr (.inr (29, (some 0))), .inr (.inr (11, (some 0))), .inr (.inr (12, (some 0))), .inr (.inr (23, (some 0))), .inl 0, sJk, sJk] [.inl (bz (!(decide ((xs 2) = 0)))), .inl 1, .inr (.inr (11, (some 0)))] t Qp := by
    refine x_aload_n (pc' := 2122) rfl rfl rfl rfl rfl ?_
    refine x_cs (ls0 := [_, _, _, _, sJk]) (rest := []) rfl rfl rfl rfl ?_
    refine x_aload_n (pc' := 1) rfl rfl rfl rfl rfl ?_
    refine x_iconst (pc' := 2) rfl rfl ?_
    refine x_aload_n (pc' := 3) rfl rfl rfl rfl rfl ?_
    refine x_iload_n (pc' := 4) rfl rfl rfl ?_
    refine x_iload_n (pc' := 5) rfl rfl rfl ?_
    refine x_cv (ls0 := [_, _, _, sJk]) (rest := [_, _]) rfl rfl rfl rfl rfl ?_
    refine x_aload_n (pc' := 1) rfl rfl rfl rfl rfl ?_
    refine x_iload_n (pc' := 2) rfl rfl rfl ?_
    refine x_cv (ls0 := [_, _]) (rest := []) rfl rfl rfl rfl rfl ?_
    refine x_iload_n (pc' := 1) rfl rfl rfl ?_
    refine x_if (a' := 16) (pc' := 4) (z := false) rfl rfl rfl (by decide) (fun h => by cases h) (fun _ => ?_)
    refine x_iload_n (pc' := 5) rfl rfl rfl ?_
    refine x_aload_n (pc' := 6) rfl rfl rfl rfl rfl ?_
    refine x_gR (pc' := 9) (r := (some 0)) rfl rfl rfl (z_R_705_0 e) ?_
    refine x_gR (pc' := 12) (r := (some 0)) rfl rfl rfl (z_R_256_0 e) ?_
    refine x_alen (pc' := 13) (N := 5) rfl rfl rfl (z_N_24_0 e) (?_ : X _ _ _ (.inl 5 :: _) _ _)
    refine x_icmp (a' := 27) (pc' := 16) (z := true) rfl rfl rfl (by decide) (fun _ => ?_) (fun h => by cases h)
    refine x_aload_n (pc' := 28) rfl rfl rfl rfl rfl ?_
    refine x_gR (pc' := 31) (r := (some 0)) rfl rfl rfl (z_R_705_0 e) ?_
    refine x_gR (pc' := 34) (r := (some 0)) rfl rfl rfl (z_R_256_0 e) ?_
    refine x_iload_n (pc' := 35) rfl rfl rfl ?_
    refine x_aald (pc' := 36) (N := 5) (k' := 1) (r := (some 1)) rfl rfl rfl (z_N_24_0 e) (io_in (p := 1) (N := 5) (by decide) (by decide)) (Eq.trans (congrArg (sE t 24 0) (nn_io (p := 1) (by decide))) (z_E_24_0_1 e)) ?_
    refine x_reta rfl rfl ?_
    refine sK_i (pc' := 5) rfl ?_
    refine x_astore_n (pc' := 6) (ls' := [_, _, _, _]) rfl rfl rfl rfl rfl ?_
    refine x_aload_n (pc' := 7) rfl rfl rfl rfl rfl ?_
    refine x_gR (pc' := 10) (r := (some 0)) rfl rfl rfl (z_R_706_0 e) ?_
    refine x_aload_n (pc' := 11) rfl rfl rfl rfl rfl ?_
    refine x_aload_n (pc' := 12) rfl rfl rfl rfl rfl ?_
    refine x_gR (pc' := 15) (r := (some 0)) rfl rfl rfl (z_R_706_0 e) ?_
    refine x_aload_n (pc' := 16) rfl rfl rfl rfl rfl ?_
    refine x_iload_n (pc' := 17) rfl rfl rfl ?_
    refine x_cv (ls0 := [_, _, _, sJk, sJk, sJk, sJk, sJk]) (rest := [_, _]) rfl rfl rfl rfl rfl ?_
    refine x_iconst (pc' := 1) rfl rfl ?_
    refine x_istore_n (pc' := 2) (ls' := [_, _, _, _, _, _, _, _]) rfl rfl rfl rfl ?_
    refine x_sipush (pc' := 5) rfl rfl ?_
    refine x_istore (pc' := 7) (ls' := [_, _, _, _, _, _, _, _]) rfl rfl rfl rfl ?_
    refine x_iconst (pc' := 8) rfl rfl ?_
    refine x_istore (pc' := 10) (ls' := [_, _, _, _, _, _, _, _]) rfl rfl rfl rfl ?_
    refine x_iload (pc' := 12) rfl rfl rfl ?_
    refine x_iconst (pc' := 13) rfl rfl ?_
    refine x_icmp (a' := 90) (pc' := 16) (z := false) rfl rfl rfl (by decide) (fun h => by cases h) (fun _ => ?_)
    refine x_aload_n (pc' := 17) rfl rfl rfl rfl rfl ?_
    refine x_aload_n (pc' := 18) rfl rfl rfl rfl rfl ?_
    refine x_iload (pc' := 20) rfl rfl rfl ?_
    refine x_iload_n (pc' := 21) rfl rfl rfl ?_
    refine x_cv (ls0 := [_, _, _, _, sJk, sJk, sJk, sJk]) (rest := []) rfl rfl rfl rfl rfl ?_
    refine x_aload_n (pc' := 1) rfl rfl rfl rfl rfl ?_
    refine x_aload_n (pc' := 2) rfl rfl rfl rfl rfl ?_
    refine x_iload_n (pc' := 3) rfl rfl rfl ?_
    refine x_iconst (pc' := 4) rfl rfl ?_
    refine x_cv (ls0 := [_, _, _, _, sJk, sJk]) (rest := []) rfl rfl rfl rfl rfl ?_
    refine x_aload_n (pc' := 1) rfl rfl rfl rfl rfl ?_
    refine x_gI (pc' := 4) (x := 1) rfl rfl rfl (z_I_64_1 e) ?_
    refine x_iconst (pc' := 5) rfl rfl ?_
    refine x_imul (pc' := 6) (z := 3) rfl rfl (by decide) ?_
    refine x_iload_n (pc' := 7) rfl rfl rfl ?_
    refine x_iadd (pc' := 8) (z := 3) rfl rfl (by decide) ?_
    refine x_iconst (pc' := 9) rfl rfl ?_
    refine x_imul (pc' := 10) (z := 9) rfl rfl (by decide) ?_
    refine x_iload_n (pc' := 11) rfl rfl rfl ?_
    refine x_iadd (pc' := 12) (z := 9) rfl rfl (by decide) ?_
    refine x_istore (pc' := 14) (ls' := [_, _, _, _, _, _]) rfl rfl rfl rfl ?_
    refine x_iload_n (pc' := 15) rfl rfl rfl ?_
    refine x_if (a' := 36) (pc' := 18) (z := false) rfl rfl rfl (by decide) (fun h => by cases h) (fun _ => ?_)
    refine x_iload_n (pc' := 19) rfl rfl rfl ?_
    refine x_iconst (pc' := 20) rfl rfl ?_
    refine x_icmp (a' := 36) (pc' := 23) (z := false) rfl rfl rfl (by decide) (fun h => by cases h) (fun _ => ?_)
    refine x_iload_n (pc' := 24) rfl rfl rfl ?_
    refine x_if (a' := 36) (pc' := 27) (z := false) rfl rfl rfl (by decide) (fun h => by cases h) (fun _ => ?_)
    refine x_iload_n (pc' := 28) rfl rfl rfl ?_
    refine x_iconst (pc' := 29) rfl rfl ?_
    refine x_icmp (a' := 36) (pc' := 32) (z := false) rfl rfl rfl (by decide) (fun h => by cases h) (fun _ => ?_)
    refine x_iconst (pc' := 33) rfl rfl ?_
    refine x_goto (pc' := 37) rfl rfl ?_
    refine x_istore (pc' := 39) (ls' := [_, _, _, _, _, _]) rfl rfl rfl rfl ?_
    refine x_iload (pc' := 41) rfl rfl rfl ?_
    refine x_if (a' := 67) (pc' := 44) (z := false) rfl rfl rfl (by decide) (fun h => by cases h) (fun _ => ?_)
    refine x_iload (pc' := 46) rfl rfl rfl ?_
    refine x_if (a' := 67) (pc' := 49) (z := false) rfl rfl rfl (by decide) (fun h => by cases h) (fun _ => ?_)
    refine x_iload (pc' := 51) rfl rfl rfl ?_
    refine x_getstatic (pc' := 54) rfl rfl (show 0 < sC t 28 from z_st0 e) ?_
    refine x_alen (pc' := 55) (N := 45) rfl rfl rfl (z_N_28_0 e) (?_ : X _ _ _ (.inl 45 :: _) _ _)
    refine x_icmp (a' := 67) (pc' := 58) (z := false) rfl rfl rfl (by decide) (fun h => by cases h) (fun _ => ?_)
    refine x_getstatic (pc' := 61) rfl rfl (show 0 < sC t 28 from z_st0 e) ?_
    refine x_iload (pc' := 63) rfl rfl rfl ?_
    refine x_iald (pc' := 64) (N := 45) (x := 2) rfl rfl rfl (z_N_28_0 e) (io_in (p := 9) (N := 45) (by decide) (by decide)) (Eq.trans (congrArg (sA t 28 0) (nn_io (p := 9) (by decide))) (z_A_28_0_9 e)) ?_
    refine x_goto (pc' := 68) rfl rfl ?_
    refine x_reti rfl rfl ?_
    refine sK_i (pc' := 7) rfl ?_
    refine x_if (a' := 14) (pc' := 10) (z := true) rfl rfl rfl (by decide) (fun _ => ?_) (fun h => by cases h)
    refine x_iconst (pc' := 15) rfl rfl ?_
    refine x_istore (pc' := 17) (ls' := [_, _, _, _, _, _, _, _]) rfl rfl rfl rfl ?_
    refine x_iconst (pc' := 18) rfl rfl ?_
    refine x_istore (pc' := 20) (ls' := [_, _, _, _, _, _, _, _]) rfl rfl rfl rfl ?_
    refine x_iload (pc' := 22) rfl rfl rfl ?_
    refine x_iconst (pc' := 23) rfl rfl ?_
    refine x_icmp (a' := 89) (pc' := 26) (z := false) rfl rfl rfl (by decide) (fun h => by cases h) (fun _ => ?_)
    refine x_aload_n (pc' := 27) rfl rfl rfl rfl rfl ?_
    refine x_aload_n (pc' := 28) rfl rfl rfl rfl rfl ?_
    refine x_iload_n (pc' := 29) rfl rfl rfl ?_
    refine x_iload (pc' := 31) rfl rfl rfl ?_
    refine x_cv (ls0 := [_, _, _, _, sJk, sJk]) (rest := []) rfl rfl rfl rfl rfl ?_
    refine x_aload_n (pc' := 1) rfl rfl rfl rfl rfl ?_
    refine x_gI (pc' := 4) (x := 1) rfl rfl rfl (z_I_64_1 e) ?_
    refine x_iconst (pc' := 5) rfl rfl ?_
    refine x_imul (pc' := 6) (z := 3) rfl rfl (by decide) ?_
    refine x_iload_n (pc' := 7) rfl rfl rfl ?_
    refine x_iadd (pc' := 8) (z := 3) rfl rfl (by decide) ?_
    refine x_iconst (pc' := 9) rfl rfl ?_
    refine x_imul (pc' := 10) (z := 9) rfl rfl (by decide) ?_
    refine x_iload_n (pc' := 11) rfl rfl rfl ?_
    refine x_iadd (pc' := 12) (z := 9) rfl rfl (by decide) ?_
    refine x_istore (pc' := 14) (ls' := [_, _, _, _, _, _]) rfl rfl rfl rfl ?_
    refine x_iload_n (pc' := 15) rfl rfl rfl ?_
    refine x_if (a' := 36) (pc' := 18) (z := false) rfl rfl rfl (by decide) (fun h => by cases h) (fun _ => ?_)
    refine x_iload_n (pc' := 19) rfl rfl rfl ?_
    refine x_iconst (pc' := 20) rfl rfl ?_
    refine x_icmp (a' := 36) (pc' := 23) (z := false) rfl rfl rfl (by decide) (fun h => by cases h) (fun _ => ?_)
    refine x_iload_n (pc' := 24) rfl rfl rfl ?_
    refine x_if (a' := 36) (pc' := 27) (z := false) rfl rfl rfl (by decide) (fun h => by cases h) (fun _ => ?_)
    refine x_iload_n (pc' := 28) rfl rfl rfl ?_
    refine x_iconst (pc' := 29) rfl rfl ?_
    refine x_icmp (a' := 36) (pc' := 32) (z := false) rfl rfl rfl (by decide) (fun h => by cases h) (fun _ => ?_)
    refine x_iconst (pc' := 33) rfl rfl ?_
    refine x_goto (pc' := 37) rfl rfl ?_
    refine x_istore (pc' := 39) (ls' := [_, _, _, _, _, _]) rfl rfl rfl rfl ?_
    refine x_iload (pc' := 41) rfl rfl rfl ?_
    refine x_if (a' := 67) (pc' := 44) (z := false) rfl rfl rfl (by decide) (fun h => by cases h) (fun _ => ?_)
    refine x_iload (pc' := 46) rfl rfl rfl ?_
    refine x_if (a' := 67) (pc' := 49) (z := false) rfl rfl rfl (by decide) (fun h => by cases h) (fun _ => ?_)
    refine x_iload (pc' := 51) rfl rfl rfl ?_
    refine x_getstatic (pc' := 54) rfl rfl (show 0 < sC t 28 from z_st0 e) ?_
    refine x_alen (pc' := 55) (N := 45) rfl rfl rfl (z_N_28_0 e) (?_ : X _ _ _ (.inl 45 :: _) _ _)
    refine x_icmp (a' := 67) (pc' := 58) (z := false) rfl rfl rfl (by decide) (fun h => by cases h) (fun _ => ?_)
    refine x_getstatic (pc' := 61) rfl rfl (show 0 < sC t 28 from z_st0 e) ?_
    refine x_iload (pc' := 63) rfl rfl rfl ?_
    refine x_iald (pc' := 64) (N := 45) (x := 2) rfl rfl rfl (z_N_28_0 e) (io_in (p := 9) (N := 45) (by decide) (by decide)) (Eq.trans (congrArg (sA t 28 0) (nn_io (p := 9) (by decide))) (z_A_28_0_9 e)) ?_
    refine x_goto (pc' := 68) rfl rfl ?_
    refine x_reti rfl rfl ?_
    refine sK_i (pc' := 34) rfl ?_
    refine x_istore (pc' := 36) (ls' := [_, _, _, _, _, _, _, _]) rfl rfl rfl rfl ?_
    refine x_iload (pc' := 38) rfl rfl rfl ?_
    refine x_if (a' := 83) (pc' := 41) (z := false) rfl rfl rfl (by decide) (fun h => by cases h) (fun _ => ?_)
    refine x_aload_n (pc' := 42) rfl rfl rfl rfl rfl ?_
    refine x_iload (pc' := 44) rfl rfl rfl ?_
    refine x_iload_n (pc' := 45) rfl rfl rfl ?_
    refine x_cv (ls0 := [_, _, _, sJk]) (rest := []) rfl rfl rfl rfl rfl ?_
    refine x_iload_n (pc' := 1) rfl rfl rfl ?_
    refine x_abs (pc' := 4) (z := 2) rfl rfl rfl (by decide) ?_
    refine x_iconst (pc' := 5) rfl rfl ?_
    refine x_isub (pc' := 6) (z := 1) rfl rfl (by decide) ?_
    refine x_istore_n (pc' := 7) (ls' := [_, _, _, _]) rfl rfl rfl rfl ?_
    refine x_iload_n (pc' := 8) rfl rfl rfl ?_
    refine x_if (a' := 33) (pc' := 11) (z := false) rfl rfl rfl (by decide) (fun h => by cases h) (fun _ => ?_)
    refine x_iload_n (pc' := 12) rfl rfl rfl ?_
    refine x_aload_n (pc' := 13) rfl rfl rfl rfl rfl ?_
    refine x_gR (pc' := 16) (r := (some 0)) rfl rfl rfl (z_R_640_0 e) ?_
    refine x_alen (pc' := 17) (N := 5) rfl rfl rfl (z_N_24_0 e) (?_ : X _ _ _ (.inl 5 :: _) _ _)
    refine x_icmp (a' := 33) (pc' := 20) (z := false) rfl rfl rfl (by decide) (fun h => by cases h) (fun _ => ?_)
    refine x_aload_n (pc' := 21) rfl rfl rfl rfl rfl ?_
    refine x_gR (pc' := 24) (r := (some 0)) rfl rfl rfl (z_R_640_0 e) ?_
    refine x_iload_n (pc' := 25) rfl rfl rfl ?_
    refine x_aald (pc' := 26) (N := 5) (k' := 1) (r := (some 1)) rfl rfl rfl (z_N_24_0 e) (io_in (p := 1) (N := 5) (by decide) (by decide)) (Eq.trans (congrArg (sE t 24 0) (nn_io (p := 1) (by decide))) (z_E_24_0_1 e)) ?_
    refine x_gI (pc' := 29) (x := 0) rfl rfl rfl (z_I_67_1 e) ?_
    refine x_iconst (pc' := 30) rfl rfl ?_
    refine x_icmp (a' := 35) (pc' := 33) (z := false) rfl rfl rfl (by decide) (fun h => by cases h) (fun _ => ?_)
    refine x_null (pc' := 34) rfl rfl rfl ?_
    refine x_reta rfl rfl ?_
    refine sK_i (pc' := 48) rfl ?_
    refine x_astore (pc' := 50) (ls' := [_, _, _, _, _, _, _, _]) rfl rfl rfl rfl rfl ?_
    refine x_aload (pc' := 52) rfl rfl rfl rfl rfl ?_
    refine x_ifnonnull (a' := 59) (pc' := 55) rfl rfl rfl rfl (fun i h => by cases h) (fun _ => ?_)
    refine x_sipush (pc' := 58) rfl rfl ?_
    refine x_reti rfl rfl ?_
    refine sK_i (pc' := 24) rfl ?_
    refine x_istore (pc' := 26) (ls' := [_, _, _, _, _, _, _, _]) rfl rfl rfl rfl ?_
    refine x_iload_n (pc' := 27) rfl rfl rfl ?_
    have J31 : X 82 57 [.inr (.inr (10, (some 0))), .inr (.inr (1, (some 1))), .inl (bz (!(decide ((xs 2) = 0)))), .inl (-1), .inl (-10000), .inl 0, .inl (-10000), sJk] [.inl 0] t (sK 82 110 17 [.inr (.inr (11, (some 0))), .inl 1, .inl (bz (!(decide ((xs 2) = 0)))), .inr (.inr (1, (some 1)))] [.inr (.inr (1, (some 1))), .inr (.inr (10, (some 0)))] (sK 110 284 5 [.inr (.inr (11, (some 0))), .inl 1, .inl (bz (!(decide ((xs 2) = 0)))), .inr (.inr (23, (some 0))), sJk] [.inl 0, .inr (.inr (23, (some 0)))] (sK 284 297 2122 [.inr (.inr (29, (some 0))), .inr (.inr (11, (some 0))), .inr (.inr (12, (some 0))), .inr (.inr (23, (some 0))), .inl 0, sJk, sJk] [] Qp))) := by
      refine x_istore (pc' := 59) (ls' := [_, _, _, _, _, _, _, _]) rfl rfl rfl rfl ?_
      refine x_iload (pc' := 61) rfl rfl rfl ?_
      refine x_sipush (pc' := 64) rfl rfl ?_
      refine x_icmp (a' := 84) (pc' := 67) (z := true) rfl rfl rfl (by decide) (fun _ => ?_) (fun h => by cases h)
      refine x_iinc (pc' := 87) (y := 1) (ls' := [_, _, _, _, _, _, _, _]) rfl rfl rfl rfl rfl ?_
      refine x_goto (pc' := 10) rfl rfl ?_
      refine x_iload (pc' := 12) rfl rfl rfl ?_
      refine x_iconst (pc' := 13) rfl rfl ?_
      refine x_icmp (a' := 90) (pc' := 16) (z := false) rfl rfl rfl (by decide) (fun h => by cases h) (fun _ => ?_)
      refine x_aload_n (pc' := 17) rfl rfl rfl rfl rfl ?_
      refine x_aload_n (pc' := 18) rfl rfl rfl rfl rfl ?_
      refine x_iload (pc' := 20) rfl rfl rfl ?_
      refine x_iload_n (pc' := 21) rfl rfl rfl ?_
      refine x_cv (ls0 := [_, _, _, _, sJk, sJk, sJk, sJk]) (rest := []) rfl rfl rfl rfl rfl ?_
      refine x_aload_n (pc' := 1) rfl rfl rfl rfl rfl ?_
      refine x_aload_n (pc' := 2) rfl rfl rfl rfl rfl ?_
      refine x_iload_n (pc' := 3) rfl rfl rfl ?_
      refine x_iconst (pc' := 4) rfl rfl ?_
      refine x_cv (ls0 := [_, _, _, _, sJk, sJk]) (rest := []) rfl rfl rfl rfl rfl ?_
      refine x_aload_n (pc' := 1) rfl rfl rfl rfl rfl ?_
      refine x_gI (pc' := 4) (x := 1) rfl rfl rfl (z_I_64_1 e) ?_
      refine x_iconst (pc' := 5) rfl rfl ?_
      refine x_imul (pc' := 6) (z := 3) rfl rfl (by decide) ?_
      refine x_iload_n (pc' := 7) rfl rfl rfl ?_
      refine x_iadd (pc' := 8) (z := 4) rfl rfl (by decide) ?_
      refine x_iconst (pc' := 9) rfl rfl ?_
      refine x_imul (pc' := 10) (z := 12) rfl rfl (by decide) ?_
      refine x_iload_n (pc' := 11) rfl rfl rfl ?_
      refine x_iadd (pc' := 12) (z := 12) rfl rfl (by decide) ?_
      refine x_istore (pc' := 14) (ls' := [_, _, _, _, _, _]) rfl rfl rfl rfl ?_
      refine x_iload_n (pc' := 15) rfl rfl rfl ?_
      refine x_if (a' := 36) (pc' := 18) (z := false) rfl rfl rfl (by decide) (fun h => by cases h) (fun _ => ?_)
      refine x_iload_n (pc' := 19) rfl rfl rfl ?_
      refine x_iconst (pc' := 20) rfl rfl ?_
      refine x_icmp (a' := 36) (pc' := 23) (z := false) rfl rfl rfl (by decide) (fun h => by cases h) (fun _ => ?_)
      refine x_iload_n (pc' := 24) rfl rfl rfl ?_
      refine x_if (a' := 36) (pc' := 27) (z := false) rfl rfl rfl (by decide) (fun h => by cases h) (fun _ => ?_)
      refine x_iload_n (pc' := 28) rfl rfl rfl ?_
      refine x_iconst (pc' := 29) rfl rfl ?_
      refine x_icmp (a' := 36) (pc' := 32) (z := false) rfl rfl rfl (by decide) (fun h => by cases h) (fun _ => ?_)
      refine x_iconst (pc' := 33) rfl rfl ?_
      refine x_goto (pc' := 37) rfl rfl ?_
      refine x_istore (pc' := 39) (ls' := [_, _, _, _, _, _]) rfl rfl rfl rfl ?_
      refine x_iload (pc' := 41) rfl rfl rfl ?_
      refine x_if (a' := 67) (pc' := 44) (z := false) rfl rfl rfl (by decide) (fun h => by cases h) (fun _ => ?_)
      refine x_iload (pc' := 46) rfl rfl rfl ?_
      refine x_if (a' := 67) (pc' := 49) (z := false) rfl rfl rfl (by decide) (fun h => by cases h) (fun _ => ?_)
      refine x_iload (pc' := 51) rfl rfl rfl ?_
      refine x_getstatic (pc' := 54) rfl rfl (show 0 < sC t 28 from z_st0 e) ?_
      refine x_alen (pc' := 55) (N := 45) rfl rfl rfl (z_N_28_0 e) (?_ : X _ _ _ (.inl 45 :: _) _ _)
      refine x_icmp (a' := 67) (pc' := 58) (z := false) rfl rfl rfl (by decide) (fun h => by cases h) (fun _ => ?_)
      refine x_getstatic (pc' := 61) rfl rfl (show 0 < sC t 28 from z_st0 e) ?_
      refine x_iload (pc' := 63) rfl rfl rfl ?_
      refine x_iald (pc' := 64) (N := 45) (x := 5) rfl rfl rfl (z_N_28_0 e) (io_in (p := 12) (N := 45) (by decide) (by decide)) (Eq.trans (congrArg (sA t 28 0) (nn_io (p := 12) (by decide))) (z_A_28_0_12 e)) ?_
      refine x_goto (pc' := 68) rfl rfl ?_
      refine x_reti rfl rfl ?_
      refine sK_i (pc' := 7) rfl ?_
      refine x_if (a' := 14) (pc' := 10) (z := true) rfl rfl rfl (by decide) (fun _ => ?_) (fun h => by cases h)
      refine x_iconst (pc' := 15) rfl rfl ?_
      refine x_istore (pc' := 17) (ls' := [_, _, _, _, _, _, _, _]) rfl rfl rfl rfl ?_
      refine x_iconst (pc' := 18) rfl rfl ?_
      refine x_istore (pc' := 20) (ls' := [_, _, _, _, _, _, _, _]) rfl rfl rfl rfl ?_
      refine x_iload (pc' := 22) rfl rfl rfl ?_
      refine x_iconst (pc' := 23) rfl rfl ?_
      refine x_icmp (a' := 89) (pc' := 26) (z := false) rfl rfl rfl (by decide) (fun h => by cases h) (fun _ => ?_)
      refine x_aload_n (pc' := 27) rfl rfl rfl rfl rfl ?_
      refine x_aload_n (pc' := 28) rfl rfl rfl rfl rfl ?_
      refine x_iload_n (pc' := 29) rfl rfl rfl ?_
      refine x_iload (pc' := 31) rfl rfl rfl ?_
      refine x_cv (ls0 := [_, _, _, _, sJk, sJk]) (rest := []) rfl rfl rfl rfl rfl ?_
      refine x_aload_n (pc' := 1) rfl rfl rfl rfl rfl ?_
      refine x_gI (pc' := 4) (x := 1) rfl rfl rfl (z_I_64_1 e) ?_
      refine x_iconst (pc' := 5) rfl rfl ?_
      refine x_imul (pc' := 6) (z := 3) rfl rfl (by decide) ?_
      refine x_iload_n (pc' := 7) rfl rfl rfl ?_
      refine x_iadd (pc' := 8) (z := 4) rfl rfl (by decide) ?_
      refine x_iconst (pc' := 9) rfl rfl ?_
      refine x_imul (pc' := 10) (z := 12) rfl rfl (by decide) ?_
      refine x_iload_n (pc' := 11) rfl rfl rfl ?_
      refine x_iadd (pc' := 12) (z := 12) rfl rfl (by decide) ?_
      refine x_istore (pc' := 14) (ls' := [_, _, _, _, _, _]) rfl rfl rfl rfl ?_
      refine x_iload_n (pc' := 15) rfl rfl rfl ?_
      refine x_if (a' := 36) (pc' := 18) (z := false) rfl rfl rfl (by decide) (fun h => by cases h) (fun _ => ?_)
      refine x_iload_n (pc' := 19) rfl rfl rfl ?_
      refine x_iconst (pc' := 20) rfl rfl ?_
      refine x_icmp (a' := 36) (pc' := 23) (z := false) rfl rfl rfl (by decide) (fun h => by cases h) (fun _ => ?_)
      refine x_iload_n (pc' := 24) rfl rfl rfl ?_
      refine x_if (a' := 36) (pc' := 27) (z := false) rfl rfl rfl (by decide) (fun h => by cases h) (fun _ => ?_)
      refine x_iload_n (pc' := 28) rfl rfl rfl ?_
      refine x_iconst (pc' := 29) rfl rfl ?_
      refine x_icmp (a' := 36) (pc' := 32) (z := false) rfl rfl rfl (by decide) (fun h => by cases h) (fun _ => ?_)
      refine x_iconst (pc' := 33) rfl rfl ?_
      refine x_goto (pc' := 37) rfl rfl ?_
      refine x_istore (pc' := 39) (ls' := [_, _, _, _, _, _]) rfl rfl rfl rfl ?_
      refine x_iload (pc' := 41) rfl rfl rfl ?_
      refine x_if (a' := 67) (pc' := 44) (z := false) rfl rfl rfl (by decide) (fun h => by cases h) (fun _ => ?_)
      refine x_iload (pc' := 46) rfl rfl rfl ?_
      refine x_if (a' := 67) (pc' := 49) (z := false) rfl rfl rfl (by decide) (fun h => by cases h) (fun _ => ?_)
      refine x_iload (pc' := 51) rfl rfl rfl ?_
      refine x_getstatic (pc' := 54) rfl rfl (show 0 < sC t 28 from z_st0 e) ?_
      refine x_alen (pc' := 55) (N := 45) rfl rfl rfl (z_N_28_0 e) (?_ : X _ _ _ (.inl 45 :: _) _ _)
      refine x_icmp (a' := 67) (pc' := 58) (z := false) rfl rfl rfl (by decide) (fun h => by cases h) (fun _ => ?_)
      refine x_getstatic (pc' := 61) rfl rfl (show 0 < sC t 28 from z_st0 e) ?_
      refine x_iload (pc' := 63) rfl rfl rfl ?_
      refine x_iald (pc' := 64) (N := 45) (x := 5) rfl rfl rfl (z_N_28_0 e) (io_in (p := 12) (N := 45) (by decide) (by decide)) (Eq.trans (congrArg (sA t 28 0) (nn_io (p := 12) (by decide))) (z_A_28_0_12 e)) ?_
      refine x_goto (pc' := 68) rfl rfl ?_
      refine x_reti rfl rfl ?_
      refine sK_i (pc' := 34) rfl ?_
      refine x_istore (pc' := 36) (ls' := [_, _, _, _, _, _, _, _]) rfl rfl rfl rfl ?_
      refine x_iload (pc' := 38) rfl rfl rfl ?_
      refine x_if (a' := 83) (pc' := 41) (z := false) rfl rfl rfl (by decide) (fun h => by cases h) (fun _ => ?_)
      refine x_aload_n (pc' := 42) rfl rfl rfl rfl rfl ?_
      refine x_iload (pc' := 44) rfl rfl rfl ?_
      refine x_iload_n (pc' := 45) rfl rfl rfl ?_
      refine x_cv (ls0 := [_, _, _, sJk]) (rest := []) rfl rfl rfl rfl rfl ?_
      refine x_iload_n (pc' := 1) rfl rfl rfl ?_
      refine x_abs (pc' := 4) (z := 5) rfl rfl rfl (by decide) ?_
      refine x_iconst (pc' := 5) rfl rfl ?_
      refine x_isub (pc' := 6) (z := 4) rfl rfl (by decide) ?_
      refine x_istore_n (pc' := 7) (ls' := [_, _, _, _]) rfl rfl rfl rfl ?_
      refine x_iload_n (pc' := 8) rfl rfl rfl ?_
      refine x_if (a' := 33) (pc' := 11) (z := false) rfl rfl rfl (by decide) (fun h => by cases h) (fun _ => ?_)
      refine x_iload_n (pc' := 12) rfl rfl rfl ?_
      refine x_aload_n (pc' := 13) rfl rfl rfl rfl rfl ?_
      refine x_gR (pc' := 16) (r := (some 0)) rfl rfl rfl (z_R_640_0 e) ?_
      refine x_alen (pc' := 17) (N := 5) rfl rfl rfl (z_N_24_0 e) (?_ : X _ _ _ (.inl 5 :: _) _ _)
      refine x_icmp (a' := 33) (pc' := 20) (z := false) rfl rfl rfl (by decide) (fun h => by cases h) (fun _ => ?_)
      refine x_aload_n (pc' := 21) rfl rfl rfl rfl rfl ?_
      refine x_gR (pc' := 24) (r := (some 0)) rfl rfl rfl (z_R_640_0 e) ?_
      refine x_iload_n (pc' := 25) rfl rfl rfl ?_
      refine x_aald (pc' := 26) (N := 5) (k' := 1) (r := (some 4)) rfl rfl rfl (z_N_24_0 e) (io_in (p := 4) (N := 5) (by decide) (by decide)) (Eq.trans (congrArg (sE t 24 0) (nn_io (p := 4) (by decide))) (z_E_24_0_4 e)) ?_
      refine x_gI (pc' := 29) (x := 0) rfl rfl rfl (z_I_67_4 e) ?_
      refine x_iconst (pc' := 30) rfl rfl ?_
      refine x_icmp (a' := 35) (pc' := 33) (z := false) rfl rfl rfl (by decide) (fun h => by cases h) (fun _ => ?_)
      refine x_null (pc' := 34) rfl rfl rfl ?_
      refine x_reta rfl rfl ?_
      refine sK_i (pc' := 48) rfl ?_
      refine x_astore (pc' := 50) (ls' := [_, _, _, _, _, _, _, _]) rfl rfl rfl rfl rfl ?_
      refine x_aload (pc' := 52) rfl rfl rfl rfl rfl ?_
      refine x_ifnonnull (a' := 59) (pc' := 55) rfl rfl rfl rfl (fun i h => by cases h) (fun _ => ?_)
      refine x_sipush (pc' := 58) rfl rfl ?_
      refine x_reti rfl rfl ?_
      refine sK_i (pc' := 24) rfl ?_
      refine x_istore (pc' := 26) (ls' := [_, _, _, _, _, _, _, _]) rfl rfl rfl rfl ?_
      refine x_iload_n (pc' := 27) rfl rfl rfl ?_
      have J58 : X 82 57 [.inr (.inr (10, (some 0))), .inr (.inr (1, (some 1))), .inl (bz (!(decide ((xs 2) = 0)))), .inl (-1), .inl (-10000), .inl 1, .inl (-10000), .inl 0] [.inl 0] t (sK 82 110 17 [.inr (.inr (11, (some 0))), .inl 1, .inl (bz (!(decide ((xs 2) = 0)))), .inr (.inr (1, (some 1)))] [.inr (.inr (1, (some 1))), .inr (.inr (10, (some 0)))] (sK 110 284 5 [.inr (.inr (11, (some 0))), .inl 1, .inl (bz (!(decide ((xs 2) = 0)))), .inr (.inr (23, (some 0))), sJk] [.inl 0, .inr (.inr (23, (some 0)))] (sK 284 297 2122 [.inr (.inr (29, (some 0))), .inr (.inr (11, (some 0))), .inr (.inr (12, (some 0))), .inr (.inr (23, (some 0))), .inl 0, sJk, sJk] [] Qp))) := by
        refine x_istore (pc' := 59) (ls' := [_, _, _, _, _, _, _, _]) rfl rfl rfl rfl ?_
        refine x_iload (pc' := 61) rfl rfl rfl ?_
        refine x_sipush (pc' := 64) rfl rfl ?_
        refine x_icmp (a' := 84) (pc' := 67) (z := true) rfl rfl rfl (by decide) (fun _ => ?_) (fun h => by cases h)
        refine x_iinc (pc' := 87) (y := 2) (ls' := [_, _, _, _, _, _, _, _]) rfl rfl rfl rfl rfl ?_
        refine x_goto (pc' := 10) rfl rfl ?_
        refine x_iload (pc' := 12) rfl rfl rfl ?_
        refine x_iconst (pc' := 13) rfl rfl ?_
        refine x_icmp (a' := 90) (pc' := 16) (z := false) rfl rfl rfl (by decide) (fun h => by cases h) (fun _ => ?_)
        refine x_aload_n (pc' := 17) rfl rfl rfl rfl rfl ?_
        refine x_aload_n (pc' := 18) rfl rfl rfl rfl rfl ?_
        refine x_iload (pc' := 20) rfl rfl rfl ?_
        refine x_iload_n (pc' := 21) rfl rfl rfl ?_
        refine x_cv (ls0 := [_, _, _, _, sJk, sJk, sJk, sJk]) (rest := []) rfl rfl rfl rfl rfl ?_
        refine x_aload_n (pc' := 1) rfl rfl rfl rfl rfl ?_
        refine x_aload_n (pc' := 2) rfl rfl rfl rfl rfl ?_
        refine x_iload_n (pc' := 3) rfl rfl rfl ?_
        refine x_iconst (pc' := 4) rfl rfl ?_
        refine x_cv (ls0 := [_, _, _, _, sJk, sJk]) (rest := []) rfl rfl rfl rfl rfl ?_
        refine x_aload_n (pc' := 1) rfl rfl rfl rfl rfl ?_
        refine x_gI (pc' := 4) (x := 1) rfl rfl rfl (z_I_64_1 e) ?_
        refine x_iconst (pc' := 5) rfl rfl ?_
        refine x_imul (pc' := 6) (z := 3) rfl rfl (by decide) ?_
        refine x_iload_n (pc' := 7) rfl rfl rfl ?_
        refine x_iadd (pc' := 8) (z := 5) rfl rfl (by decide) ?_
        refine x_iconst (pc' := 9) rfl rfl ?_
        refine x_imul (pc' := 10) (z := 15) rfl rfl (by decide) ?_
        refine x_iload_n (pc' := 11) rfl rfl rfl ?_
        refine x_iadd (pc' := 12) (z := 15) rfl rfl (by decide) ?_
        refine x_istore (pc' := 14) (ls' := [_, _, _, _, _, _]) rfl rfl rfl rfl ?_
        refine x_iload_n (pc' := 15) rfl rfl rfl ?_
        refine x_if (a' := 36) (pc' := 18) (z := false) rfl rfl rfl (by decide) (fun h => by cases h) (fun _ => ?_)
        refine x_iload_n (pc' := 19) rfl rfl rfl ?_
        refine x_iconst (pc' := 20) rfl rfl ?_
        refine x_icmp (a' := 36) (pc' := 23) (z := false) rfl rfl rfl (by decide) (fun h => by cases h) (fun _ => ?_)
        refine x_iload_n (pc' := 24) rfl rfl rfl ?_
        refine x_if (a' := 36) (pc' := 27) (z := false) rfl rfl rfl (by decide) (fun h => by cases h) (fun _ => ?_)
        refine x_iload_n (pc' := 28) rfl rfl rfl ?_
        refine x_iconst (pc' := 29) rfl rfl ?_
        refine x_icmp (a' := 36) (pc' := 32) (z := false) rfl rfl rfl (by decide) (fun h => by cases h) (fun _ => ?_)
        refine x_iconst (pc' := 33) rfl rfl ?_
        refine x_goto (pc' := 37) rfl rfl ?_
        refine x_istore (pc' := 39) (ls' := [_, _, _, _, _, _]) rfl rfl rfl rfl ?_
        refine x_iload (pc' := 41) rfl rfl rfl ?_
        refine x_if (a' := 67) (pc' := 44) (z := false) rfl rfl rfl (by decide) (fun h => by cases h) (fun _ => ?_)
        refine x_iload (pc' := 46) rfl rfl rfl ?_
        refine x_if (a' := 67) (pc' := 49) (z := false) rfl rfl rfl (by decide) (fun h => by cases h) (fun _ => ?_)
        refine x_iload (pc' := 51) rfl rfl rfl ?_
        refine x_getstatic (pc' := 54) rfl rfl (show 0 < sC t 28 from z_st0 e) ?_
        refine x_alen (pc' := 55) (N := 45) rfl rfl rfl (z_N_28_0 e) (?_ : X _ _ _ (.inl 45 :: _) _ _)
        refine x_icmp (a' := 67) (pc' := 58) (z := false) rfl rfl rfl (by decide) (fun h => by cases h) (fun _ => ?_)
        refine x_getstatic (pc' := 61) rfl rfl (show 0 < sC t 28 from z_st0 e) ?_
        refine x_iload (pc' := 63) rfl rfl rfl ?_
        refine x_iald (pc' := 64) (N := 45) (x := (-4)) rfl rfl rfl (z_N_28_0 e) (io_in (p := 15) (N := 45) (by decide) (by decide)) (Eq.trans (congrArg (sA t 28 0) (nn_io (p := 15) (by decide))) (z_A_28_0_15 e)) ?_
        refine x_goto (pc' := 68) rfl rfl ?_
        refine x_reti rfl rfl ?_
        refine sK_i (pc' := 7) rfl ?_
        refine x_if (a' := 14) (pc' := 10) (z := true) rfl rfl rfl (by decide) (fun _ => ?_) (fun h => by cases h)
        refine x_iconst (pc' := 15) rfl rfl ?_
        refine x_istore (pc' := 17) (ls' := [_, _, _, _, _, _, _, _]) rfl rfl rfl rfl ?_
        refine x_iconst (pc' := 18) rfl rfl ?_
        refine x_istore (pc' := 20) (ls' := [_, _, _, _, _, _, _, _]) rfl rfl rfl rfl ?_
        refine x_iload (pc' := 22) rfl rfl rfl ?_
        refine x_iconst (pc' := 23) rfl rfl ?_
        refine x_icmp (a' := 89) (pc' := 26) (z := false) rfl rfl rfl (by decide) (fun h => by cases h) (fun _ => ?_)
        refine x_aload_n (pc' := 27) rfl rfl rfl rfl rfl ?_
        refine x_aload_n (pc' := 28) rfl rfl rfl rfl rfl ?_
        refine x_iload_n (pc' := 29) rfl rfl rfl ?_
        refine x_iload (pc' := 31) rfl rfl rfl ?_
        refine x_cv (ls0 := [_, _, _, _, sJk, sJk]) (rest := []) rfl rfl rfl rfl rfl ?_
        refine x_aload_n (pc' := 1) rfl rfl rfl rfl rfl ?_
        refine x_gI (pc' := 4) (x := 1) rfl rfl rfl (z_I_64_1 e) ?_
        refine x_iconst (pc' := 5) rfl rfl ?_
        refine x_imul (pc' := 6) (z := 3) rfl rfl (by decide) ?_
        refine x_iload_n (pc' := 7) rfl rfl rfl ?_
        refine x_iadd (pc' := 8) (z := 5) rfl rfl (by decide) ?_
        refine x_iconst (pc' := 9) rfl rfl ?_
        refine x_imul (pc' := 10) (z := 15) rfl rfl (by decide) ?_
        refine x_iload_n (pc' := 11) rfl rfl rfl ?_
        refine x_iadd (pc' := 12) (z := 15) rfl rfl (by decide) ?_
        refine x_istore (pc' := 14) (ls' := [_, _, _, _, _, _]) rfl rfl rfl rfl ?_
        refine x_iload_n (pc' := 15) rfl rfl rfl ?_
        refine x_if (a' := 36) (pc' := 18) (z := false) rfl rfl rfl (by decide) (fun h => by cases h) (fun _ => ?_)
        refine x_iload_n (pc' := 19) rfl rfl rfl ?_
        refine x_iconst (pc' := 20) rfl rfl ?_
        refine x_icmp (a' := 36) (pc' := 23) (z := false) rfl rfl rfl (by decide) (fun h => by cases h) (fun _ => ?_)
        refine x_iload_n (pc' := 24) rfl rfl rfl ?_
        refine x_if (a' := 36) (pc' := 27) (z := false) rfl rfl rfl (by decide) (fun h => by cases h) (fun _ => ?_)
        refine x_iload_n (pc' := 28) rfl rfl rfl ?_
        refine x_iconst (pc' := 29) rfl rfl ?_
        refine x_icmp (a' := 36) (pc' := 32) (z := false) rfl rfl rfl (by decide) (fun h => by cases h) (fun _ => ?_)
        refine x_iconst (pc' := 33) rfl rfl ?_
        refine x_goto (pc' := 37) rfl rfl ?_
        refine x_istore (pc' := 39) (ls' := [_, _, _, _, _, _]) rfl rfl rfl rfl ?_
        refine x_iload (pc' := 41) rfl rfl rfl ?_
        refine x_if (a' := 67) (pc' := 44) (z := false) rfl rfl rfl (by decide) (fun h => by cases h) (fun _ => ?_)
        refine x_iload (pc' := 46) rfl rfl rfl ?_
        refine x_if (a' := 67) (pc' := 49) (z := false) rfl rfl rfl (by decide) (fun h => by cases h) (fun _ => ?_)
        refine x_iload (pc' := 51) rfl rfl rfl ?_
        refine x_getstatic (pc' := 54) rfl rfl (show 0 < sC t 28 from z_st0 e) ?_
        refine x_alen (pc' := 55) (N := 45) rfl rfl rfl (z_N_28_0 e) (?_ : X _ _ _ (.inl 45 :: _) _ _)
        refine x_icmp (a' := 67) (pc' := 58) (z := false) rfl rfl rfl (by decide) (fun h => by cases h) (fun _ => ?_)
        refine x_getstatic (pc' := 61) rfl rfl (show 0 < sC t 28 from z_st0 e) ?_
        refine x_iload (pc' := 63) rfl rfl rfl ?_
        refine x_iald (pc' := 64) (N := 45) (x := (-4)) rfl rfl rfl (z_N_28_0 e) (io_in (p := 15) (N := 45) (by decide) (by decide)) (Eq.trans (congrArg (sA t 28 0) (nn_io (p := 15) (by decide))) (z_A_28_0_15 e)) ?_
        refine x_goto (pc' := 68) rfl rfl ?_
        refine x_reti rfl rfl ?_
        refine sK_i (pc' := 34) rfl ?_
        refine x_istore (pc' := 36) (ls' := [_, _, _, _, _, _, _, _]) rfl rfl rfl rfl ?_
        refine x_iload (pc' := 38) rfl rfl rfl ?_
        refine x_if (a' := 83) (pc' := 41) (z := false) rfl rfl rfl (by decide) (fun h => by cases h) (fun _ => ?_)
        refine x_aload_n (pc' := 42) rfl rfl rfl rfl rfl ?_
        refine x_iload (pc' := 44) rfl rfl rfl ?_
        refine x_iload_n (pc' := 45) rfl rfl rfl ?_
        refine x_cv (ls0 := [_, _, _, sJk]) (rest := []) rfl rfl rfl rfl rfl ?_
        refine x_iload_n (pc' := 1) rfl rfl rfl ?_
        refine x_abs (pc' := 4) (z := 4) rfl rfl rfl (by decide) ?_
        refine x_iconst (pc' := 5) rfl rfl ?_
        refine x_isub (pc' := 6) (z := 3) rfl rfl (by decide) ?_
        refine x_istore_n (pc' := 7) (ls' := [_, _, _, _]) rfl rfl rfl rfl ?_
        refine x_iload_n (pc' := 8) rfl rfl rfl ?_
        refine x_if (a' := 33) (pc' := 11) (z := false) rfl rfl rfl (by decide) (fun h => by cases h) (fun _ => ?_)
        refine x_iload_n (pc' := 12) rfl rfl rfl ?_
        refine x_aload_n (pc' := 13) rfl rfl rfl rfl rfl ?_
        refine x_gR (pc' := 16) (r := (some 0)) rfl rfl rfl (z_R_640_0 e) ?_
        refine x_alen (pc' := 17) (N := 5) rfl rfl rfl (z_N_24_0 e) (?_ : X _ _ _ (.inl 5 :: _) _ _)
        refine x_icmp (a' := 33) (pc' := 20) (z := false) rfl rfl rfl (by decide) (fun h => by cases h) (fun _ => ?_)
        refine x_aload_n (pc' := 21) rfl rfl rfl rfl rfl ?_
        refine x_gR (pc' := 24) (r := (some 0)) rfl rfl rfl (z_R_640_0 e) ?_
        refine x_iload_n (pc' := 25) rfl rfl rfl ?_
        refine x_aald (pc' := 26) (N := 5) (k' := 1) (r := (some 3)) rfl rfl rfl (z_N_24_0 e) (io_in (p := 3) (N := 5) (by decide) (by decide)) (Eq.trans (congrArg (sE t 24 0) (nn_io (p := 3) (by decide))) (z_E_24_0_3 e)) ?_
        refine x_gI (pc' := 29) (x := 0) rfl rfl rfl (z_I_67_3 e) ?_
        refine x_iconst (pc' := 30) rfl rfl ?_
        refine x_icmp (a' := 35) (pc' := 33) (z := false) rfl rfl rfl (by decide) (fun h => by cases h) (fun _ => ?_)
        refine x_null (pc' := 34) rfl rfl rfl ?_
        refine x_reta rfl rfl ?_
        refine sK_i (pc' := 48) rfl ?_
        refine x_astore (pc' := 50) (ls' := [_, _, _, _, _, _, _, _]) rfl rfl rfl rfl rfl ?_
        refine x_aload (pc' := 52) rfl rfl rfl rfl rfl ?_
        refine x_ifnonnull (a' := 59) (pc' := 55) rfl rfl rfl rfl (fun i h => by cases h) (fun _ => ?_)
        refine x_sipush (pc' := 58) rfl rfl ?_
        refine x_reti rfl rfl ?_
        refine sK_i (pc' := 24) rfl ?_
        refine x_istore (pc' := 26) (ls' := [_, _, _, _, _, _, _, _]) rfl rfl rfl rfl ?_
        refine x_iload_n (pc' := 27) rfl rfl rfl ?_
        have J85 : X 82 57 [.inr (.inr (10, (some 0))), .inr (.inr (1, (some 1))), .inl (bz (!(decide ((xs 2) = 0)))), .inl (-1), .inl (-10000), .inl 2, .inl (-10000), .inl 0] [.inl 0] t (sK 82 110 17 [.inr (.inr (11, (some 0))), .inl 1, .inl (bz (!(decide ((xs 2) = 0)))), .inr (.inr (1, (some 1)))] [.inr (.inr (1, (some 1))), .inr (.inr (10, (some 0)))] (sK 110 284 5 [.inr (.inr (11, (some 0))), .inl 1, .inl (bz (!(decide ((xs 2) = 0)))), .inr (.inr (23, (some 0))), sJk] [.inl 0, .inr (.inr (23, (some 0)))] (sK 284 297 2122 [.inr (.inr (29, (some 0))), .inr (.inr (11, (some 0))), .inr (.inr (12, (some 0))), .inr (.inr (23, (some 0))), .inl 0, sJk, sJk] [] Qp))) := by
          refine x_istore (pc' := 59) (ls' := [_, _, _, _, _, _, _, _]) rfl rfl rfl rfl ?_
          refine x_iload (pc' := 61) rfl rfl rfl ?_
          refine x_sipush (pc' := 64) rfl rfl ?_
          refine x_icmp (a' := 84) (pc' := 67) (z := true) rfl rfl rfl (by decide) (fun _ => ?_) (fun h => by cases h)
          refine x_iinc (pc' := 87) (y := 3) (ls' := [_, _, _, _, _, _, _, _]) rfl rfl rfl rfl rfl ?_
          refine x_goto (pc' := 10) rfl rfl ?_
          refine x_iload (pc' := 12) rfl rfl rfl ?_
          refine x_iconst (pc' := 13) rfl rfl ?_
          refine x_icmp (a' := 90) (pc' := 16) (z := true) rfl rfl rfl (by decide) (fun _ => ?_) (fun h => by cases h)
          refine x_iload_n (pc' := 91) rfl rfl rfl ?_
          refine x_reti rfl rfl ?_
          refine sK_i (pc' := 20) rfl ?_
          refine x_iload_n (pc' := 21) rfl rfl rfl ?_
          refine x_cv (ls0 := [_, _, _, _, sJk, sJk, sJk, sJk]) (rest := []) rfl rfl rfl rfl rfl ?_
          refine x_aload_n (pc' := 1) rfl rfl rfl rfl rfl ?_
          refine x_aload_n (pc' := 2) rfl rfl rfl rfl rfl ?_
          refine x_iload_n (pc' := 3) rfl rfl rfl ?_
          refine x_iconst (pc' := 4) rfl rfl ?_
          refine x_cv (ls0 := [_, _, _, _, sJk, sJk]) (rest := []) rfl rfl rfl rfl rfl ?_
          refine x_aload_n (pc' := 1) rfl rfl rfl rfl rfl ?_
          refine x_gI (pc' := 4) (x := 1) rfl rfl rfl (z_I_64_1 e) ?_
          refine x_iconst (pc' := 5) rfl rfl ?_
          refine x_imul (pc' := 6) (z := 3) rfl rfl (by decide) ?_
          refine x_iload_n (pc' := 7) rfl rfl rfl ?_
          refine x_iadd (pc' := 8) (z := 2) rfl rfl (by decide) ?_
          refine x_iconst (pc' := 9) rfl rfl ?_
          refine x_imul (pc' := 10) (z := 6) rfl rfl (by decide) ?_
          refine x_iload_n (pc' := 11) rfl rfl rfl ?_
          refine x_iadd (pc' := 12) (z := 6) rfl rfl (by decide) ?_
          refine x_istore (pc' := 14) (ls' := [_, _, _, _, _, _]) rfl rfl rfl rfl ?_
          refine x_iload_n (pc' := 15) rfl rfl rfl ?_
          refine x_if (a' := 36) (pc' := 18) (z := true) rfl rfl rfl (by decide) (fun _ => ?_) (fun h => by cases h)
          refine x_iconst (pc' := 37) rfl rfl ?_
          refine x_istore (pc' := 39) (ls' := [_, _, _, _, _, _]) rfl rfl rfl rfl ?_
          refine x_iload (pc' := 41) rfl rfl rfl ?_
          refine x_if (a' := 67) (pc' := 44) (z := true) rfl rfl rfl (by decide) (fun _ => ?_) (fun h => by cases h)
          refine x_iconst (pc' := 68) rfl rfl ?_
          refine x_reti rfl rfl ?_
          refine sK_i (pc' := 7) rfl ?_
          refine x_if (a' := 14) (pc' := 10) (z := false) rfl rfl rfl (by decide) (fun h => by cases h) (fun _ => ?_)
          refine x_sipush (pc' := 13) rfl rfl ?_
          refine x_reti rfl rfl ?_
          refine sK_i (pc' := 24) rfl ?_
          refine x_reti rfl rfl ?_
          refine sK_i (pc' := 8) rfl ?_
          refine x_i2l (pc' := 9) (z := (-10000 : Int64)) rfl rfl (by decide) ?_
          refine x_last (pc' := 10) (N := 1) (p := 0) rfl rfl (z_N_23_0 e) (io_in (p := 0) (N := 1) (by decide) (by decide)) (nn_io (p := 0) (by decide)) ?_
          refine x_goto (pc' := 17) rfl rfl ?_
          refine x_iconst (pc' := 18) rfl rfl ?_
          refine x_reti rfl rfl ?_
          refine sK_i (pc' := 2125) rfl ?_
          exact k0
        refine x_ifeq_z (a' := 45) (pc' := 30) (z := (!(decide ((xs 2) = 0)))) rfl rfl rfl (fun q83 => ?_) (fun q83 => ?_)
        · refine x_iload (pc' := 47) rfl rfl rfl ?_
          refine x_iload (pc' := 49) rfl rfl rfl ?_
          refine x_icmp (a' := 56) (pc' := 52) (z := true) rfl rfl rfl (by decide) (fun _ => ?_) (fun h => by cases h)
          refine x_iconst (pc' := 57) rfl rfl ?_
          ((try rw [q83] at J85); (try rw [q83]); (try simp only [cd_t, cd_f, nt_t, nt_f, an_t, an_f, or_t, or_f] at J85); (try simp only [cd_t, cd_f, nt_t, nt_f, an_t, an_f, or_t, or_f]); exact J85)
        · refine x_iload (pc' := 32) rfl rfl rfl ?_
          refine x_iload (pc' := 34) rfl rfl rfl ?_
          refine x_icmp (a' := 41) (pc' := 37) (z := true) rfl rfl rfl (by decide) (fun _ => ?_) (fun h => by cases h)
          refine x_iconst (pc' := 42) rfl rfl ?_
          refine x_goto (pc' := 57) rfl rfl ?_
          ((try rw [q83] at J85); (try rw [q83]); (try simp only [cd_t, cd_f, nt_t, nt_f, an_t, an_f, or_t, or_f] at J85); (try simp only [cd_t, cd_f, nt_t, nt_f, an_t, an_f, or_t, or_f]); exact J85)
      refine x_ifeq_z (a' := 45) (pc' := 30) (z := (!(decide ((xs 2) = 0)))) rfl rfl rfl (fun q56 => ?_) (fun q56 => ?_)
      · refine x_iload (pc' := 47) rfl rfl rfl ?_
        refine x_iload (pc' := 49) rfl rfl rfl ?_
        refine x_icmp (a' := 56) (pc' := 52) (z := true) rfl rfl rfl (by decide) (fun _ => ?_) (fun h => by cases h)
        refine x_iconst (pc' := 57) rfl rfl ?_
        ((try rw [q56] at J58); (try rw [q56]); (try simp only [cd_t, cd_f, nt_t, nt_f, an_t, an_f, or_t, or_f] at J58); (try simp only [cd_t, cd_f, nt_t, nt_f, an_t, an_f, or_t, or_f]); exact J58)
      · refine x_iload (pc' := 32) rfl rfl rfl ?_
        refine x_iload (pc' := 34) rfl rfl rfl ?_
        refine x_icmp (a' := 41) (pc' := 37) (z := true) rfl rfl rfl (by decide) (fun _ => ?_) (fun h => by cases h)
        refine x_iconst (pc' := 42) rfl rfl ?_
        refine x_goto (pc' := 57) rfl rfl ?_
        ((try rw [q56] at J58); (try rw [q56]); (try simp only [cd_t, cd_f, nt_t, nt_f, an_t, an_f, or_t, or_f] at J58); (try simp only [cd_t, cd_f, nt_t, nt_f, an_t, an_f, or_t, or_f]); exact J58)
    refine x_ifeq_z (a' := 45) (pc' := 30) (z := (!(decide ((xs 2) = 0)))) rfl rfl rfl (fun q29 => ?_) (fun q29 => ?_)
    · refine x_iload (pc' := 47) rfl rfl rfl ?_
      refine x_iload (pc' := 49) rfl rfl rfl ?_
      refine x_icmp (a' := 56) (pc' := 52) (z := true) rfl rfl rfl (by decide) (fun _ => ?_) (fun h => by cases h)
      refine x_iconst (pc' := 57) rfl rfl ?_
      ((try rw [q29] at J31); (try rw [q29]); (try simp only [cd_t, cd_f, nt_t, nt_f, an_t, an_f, or_t, or_f] at J31); (try simp only [cd_t, cd_f, nt_t, nt_f, an_t, an_f, or_t, or_f]); exact J31)
    · refine x_iload (pc' := 32) rfl rfl rfl ?_
      refine x_iload (pc' := 34) rfl rfl rfl ?_
      refine x_icmp (a' := 41) (pc' := 37) (z := true) rfl rfl rfl (by decide) (fun _ => ?_) (fun h => by cases h)
      refine x_iconst (pc' := 42) rfl rfl ?_
      refine x_goto (pc' := 57) rfl rfl ?_
      ((try rw [q29] at J31); (try rw [q29]); (try simp only [cd_t, cd_f, nt_t, nt_f, an_t, an_f, or_t, or_f] at J31); (try simp only [cd_t, cd_f, nt_t, nt_f, an_t, an_f, or_t, or_f]); exact J31)
  refine x_if (a' := 2120) (pc' := 2116) (z := decide ((xs 2) = 0)) rfl rfl rfl rfl (fun q3 => ?_) (fun q3 => ?_)
  · refine x_iconst (pc' := 2121) rfl rfl ?_
    ((try rw [q3] at J3); (try rw [q3]); (try simp only [cd_t, cd_f, nt_t, nt_f, an_t, an_f, or_t, or_f] at J3); (try simp only [cd_t, cd_f, nt_t, nt_f, an_t, an_f, or_t, or_f]); exact J3)
  · refine x_iconst (pc' := 2117) rfl rfl ?_
    refine x_goto (pc' := 2121) rfl rfl ?_
    ((try rw [q3] at J3); (try rw [q3]); (try simp only [cd_t, cd_f, nt_t, nt_f, an_t, an_f, or_t, or_f] at J3); (try simp only [cd_t, cd_f, nt_t, nt_f, an_t, an_f, or_t, or_f]); exact J3)
set_option maxHeartbeats 4000000 in
set_option maxRecDepth 10000 in
theorem v_26_2_i_2 {t : sT} {xs : Nat → Int32}
    (e : t = T16 7 xs)
    (hk : ((xs 0) &&& 63) = 26)
    (e0 : xs 1 = 2) :
    X 297 2125 [.inr (.inr (29, (some 0))), .inr (.inr (11, (some 0))), .inr (.inr (12, (some 0))), .inr (.inr (23, (some 0))), .inl 0, sJk, sJk] [.inl 0] (sLw t 23 0 0 (-10000 : Int64)) Qp := by
  refine x_istore (pc' := 2127) (ls' := [_, _, _, _, _, _, _]) rfl rfl rfl rfl ?_
  refine x_aload_n (pc' := 2128) rfl rfl rfl rfl rfl ?_
  refine x_aload_n (pc' := 2129) rfl rfl rfl rfl rfl ?_
  refine x_iload (pc' := 2131) rfl rfl rfl ?_
  refine x_iconst (pc' := 2132) rfl rfl ?_
  refine x_iadd (pc' := 2133) (z := 1) rfl rfl (by decide) ?_
  refine x_iald (pc' := 2134) (N := 7) (x := 2) rfl rfl rfl (Eq.trans rdNL (z_N_29_0 e)) (io_in (p := 1) (N := 7) (by decide) (by decide)) (Eq.trans (congrArg (sA (sLw t 23 0 0 (-10000 : Int64)) 29 0) (nn_io (p := 1) (by decide))) (Eq.trans rdAL (Eq.trans (z_A_29_0_1 e) e0))) ?_
  refine x_aload_n (pc' := 2135) rfl rfl rfl rfl rfl ?_
  refine x_iload (pc' := 2137) rfl rfl rfl ?_
  refine x_iconst (pc' := 2138) rfl rfl ?_
  refine x_iadd (pc' := 2139) (z := 2) rfl rfl (by decide) ?_
  refine x_iald (pc' := 2140) (N := 7) (x := (xs 2)) rfl rfl rfl (Eq.trans rdNL (z_N_29_0 e)) (io_in (p := 2) (N := 7) (by decide) (by decide)) (Eq.trans (congrArg (sA (sLw t 23 0 0 (-10000 : Int64)) 29 0) (nn_io (p := 2) (by decide))) (Eq.trans rdAL (z_A_29_0_2 e))) ?_
  have J5001 : X 297 2148 [.inr (.inr (29, (some 0))), .inr (.inr (11, (some 0))), .inr (.inr (12, (some 0))), .inr (.inr (23, (some 0))), .inl 0, .inl 0, sJk] [.inl (bz (!(decide ((xs 2) = 0)))), .inl 2, .inr (.inr (12, (some 0)))] (sLw t 23 0 0 (-10000 : Int64)) Qp := by
    refine x_cv (ls0 := [_, _, _, sJk]) (rest := []) rfl rfl rfl rfl rfl ?_
    refine x_aload_n (pc' := 1) rfl rfl rfl rfl rfl ?_
    refine x_iload_n (pc' := 2) rfl rfl rfl ?_
    refine x_cs (ls0 := [_]) (rest := [_]) rfl rfl rfl rfl ?_
    refine x_iload_n (pc' := 1) rfl rfl rfl ?_
    refine x_iconst (pc' := 2) rfl rfl ?_
    refine x_iconst (pc' := 3) rfl rfl ?_
    refine x_cs (ls0 := [_, _, _]) (rest := []) rfl rfl rfl rfl ?_
    refine x_iload_n (pc' := 1) rfl rfl rfl ?_
    refine x_iload_n (pc' := 2) rfl rfl rfl ?_
    refine x_icmp (a' := 14) (pc' := 5) (z := false) rfl rfl rfl (by decide) (fun h => by cases h) (fun _ => ?_)
    refine x_iload_n (pc' := 6) rfl rfl rfl ?_
    refine x_iload_n (pc' := 7) rfl rfl rfl ?_
    refine x_icmp (a' := 14) (pc' := 10) (z := false) rfl rfl rfl (by decide) (fun h => by cases h) (fun _ => ?_)
    refine x_iconst (pc' := 11) rfl rfl ?_
    refine x_goto (pc' := 15) rfl rfl ?_
    refine x_retz (z := true) rfl rfl ?_
    refine sK_i (pc' := 6) rfl ?_
    refine x_retz (z := true) rfl rfl ?_
    refine sK_i (pc' := 5) rfl ?_
    refine x_if (a' := 12) (pc' := 8) (z := false) rfl rfl rfl (by decide) (fun h => by cases h) (fun _ => ?_)
    refine x_iconst (pc' := 9) rfl rfl ?_
    refine x_goto (pc' := 13) rfl rfl ?_
    refine x_cv (ls0 := [_, _]) (rest := []) rfl rfl rfl rfl rfl ?_
    refine x_aload_n (pc' := 1) rfl rfl rfl rfl rfl ?_
    refine x_iload_n (pc' := 2) rfl rfl rfl ?_
    refine x_pI (pc' := 5) rfl rfl rfl ?_
    refine x_iload_n (pc' := 6) rfl rfl rfl ?_
    refine x_if (a' := 13) (pc' := 9) (z := false) rfl rfl rfl (by decide) (fun h => by cases h) (fun _ => ?_)
    refine x_iconst (pc' := 10) rfl rfl ?_
    refine x_goto (pc' := 14) rfl rfl ?_
    refine x_retz (z := true) rfl rfl ?_
    refine sK_i (pc' := 16) rfl ?_
    refine x_if (a' := 21) (pc' := 19) (z := true) rfl rfl rfl (by decide) (fun _ => ?_) (fun h => by cases h)
    refine x_aload_n (pc' := 22) rfl rfl rfl rfl rfl ?_
    refine x_iload_n (pc' := 23) rfl rfl rfl ?_
    refine x_iload_n (pc' := 24) rfl rfl rfl ?_
    refine x_cv (ls0 := [_, _, _, sJk, sJk, sJk, sJk, sJk]) (rest := []) rfl rfl rfl rfl rfl ?_
    refine x_iconst (pc' := 1) rfl rfl ?_
    refine x_istore_n (pc' := 2) (ls' := [_, _, _, _, _, _, _, _]) rfl rfl rfl rfl ?_
    refine x_iconst (pc' := 3) rfl rfl ?_
    refine x_istore (pc' := 5) (ls' := [_, _, _, _, _, _, _, _]) rfl rfl rfl rfl ?_
    refine x_iconst (pc' := 6) rfl rfl ?_
    refine x_istore (pc' := 8) (ls' := [_, _, _, _, _, _, _, _]) rfl rfl rfl rfl ?_
    refine x_iload (pc' := 10) rfl rfl rfl ?_
    refine x_iconst (pc' := 11) rfl rfl ?_
    refine x_icmp (a' := 99) (pc' := 14) (z := false) rfl rfl rfl (by decide) (fun h => by cases h) (fun _ => ?_)
    refine x_aload_n (pc' := 15) rfl rfl rfl rfl rfl ?_
    refine x_iload_n (pc' := 16) rfl rfl rfl ?_
    refine x_iload_n (pc' := 17) rfl rfl rfl ?_
    refine x_iload (pc' := 19) rfl rfl rfl ?_
    refine x_cv (ls0 := [_, _, _, _, sJk, sJk, sJk]) (rest := []) rfl rfl rfl rfl rfl ?_
    refine x_iload_n (pc' := 1) rfl rfl rfl ?_
    refine x_iload_n (pc' := 2) rfl rfl rfl ?_
    refine x_iconst (pc' := 3) rfl rfl ?_
    refine x_cs (ls0 := [_, _, _, sJk, sJk, sJk]) (rest := []) rfl rfl rfl rfl ?_
    refine x_getstatic (pc' := 3) rfl rfl (show 1 < sC t 28 from z_st1 e) ?_
    refine x_iconst (pc' := 4) rfl rfl ?_
    refine x_iload_n (pc' := 5) rfl rfl rfl ?_
    refine x_imul (pc' := 6) (z := 6) rfl rfl (by decide) ?_
    refine x_iload_n (pc' := 7) rfl rfl rfl ?_
    refine x_iadd (pc' := 8) (z := 6) rfl rfl (by decide) ?_
    refine x_iald (pc' := 9) (N := 15) (x := 3) rfl rfl rfl (Eq.trans rdNI (Eq.trans rdNL (z_N_28_1 e))) (io_in (p := 6) (N := 15) (by decide) (by decide)) (Eq.trans (congrArg (sA (sIw (sLw t 23 0 0 (-10000 : Int64)) 768 0 0) 28 1) (nn_io (p := 6) (by decide))) (Eq.trans rdAI (Eq.trans rdAL (z_A_28_1_6 e)))) ?_
    refine x_istore_n (pc' := 10) (ls' := [_, _, _, _, _, _]) rfl rfl rfl rfl ?_
    refine x_iload_n (pc' := 11) rfl rfl rfl ?_
    refine x_bipush (pc' := 13) rfl rfl ?_
    refine x_icmp (a' := 20) (pc' := 16) (z := true) rfl rfl rfl (by decide) (fun _ => ?_) (fun h => by cases h)
    refine x_iload_n (pc' := 21) rfl rfl rfl ?_
    refine x_bipush (pc' := 23) rfl rfl ?_
    refine x_icmp (a' := 30) (pc' := 26) (z := true) rfl rfl rfl (by decide) (fun _ => ?_) (fun h => by cases h)
    refine x_iload_n (pc' := 31) rfl rfl rfl ?_
    refine x_if (a' := 38) (pc' := 34) (z := false) rfl rfl rfl (by decide) (fun h => by cases h) (fun _ => ?_)
    refine x_iconst (pc' := 35) rfl rfl ?_
    refine x_goto (pc' := 39) rfl rfl ?_
    refine x_istore (pc' := 41) (ls' := [_, _, _, _, _, _]) rfl rfl rfl rfl ?_
    refine x_iload (pc' := 43) rfl rfl rfl ?_
    refine x_iload_n (pc' := 44) rfl rfl rfl ?_
    refine x_isub (pc' := 45) (z := 1) rfl rfl (by decide) ?_
    refine x_istore (pc' := 47) (ls' := [_, _, _, _, _, _]) rfl rfl rfl rfl ?_
    refine x_iload (pc' := 49) rfl rfl rfl ?_
    refine x_if (a' := 56) (pc' := 52) (z := true) rfl rfl rfl (by decide) (fun _ => ?_) (fun h => by cases h)
    refine x_iload (pc' := 58) rfl rfl rfl ?_
    refine x_iconst (pc' := 59) rfl rfl ?_
    refine x_icmp (a' := 69) (pc' := 62) (z := true) rfl rfl rfl (by decide) (fun _ => ?_) (fun h => by cases h)
    refine x_iload (pc' := 71) rfl rfl rfl ?_
    refine x_iconst (pc' := 72) rfl rfl ?_
    refine x_icmp (a' := 85) (pc' := 75) (z := true) rfl rfl rfl (by decide) (fun _ => ?_) (fun h => by cases h)
    refine x_iload_n (pc' := 86) rfl rfl rfl ?_
    refine x_bipush (pc' := 88) rfl rfl ?_
    refine x_irem (pc' := 89) (z := 3) rfl rfl (by decide) (by decide +kernel) ?_
    refine x_iconst (pc' := 90) rfl rfl ?_
    refine x_isub (pc' := 91) (z := 2) rfl rfl (by decide) ?_
    refine x_reti rfl rfl ?_
    refine sK_i (pc' := 6) rfl ?_
    refine x_iconst (pc' := 7) rfl rfl ?_
    refine x_icmp (a' := 14) (pc' := 10) (z := false) rfl rfl rfl (by decide) (fun h => by cases h) (fun _ => ?_)
    refine x_iconst (pc' := 11) rfl rfl ?_
    refine x_goto (pc' := 15) rfl rfl ?_
    refine x_istore (pc' := 17) (ls' := [_, _, _, _, _, _, _]) rfl rfl rfl rfl ?_
    refine x_aload_n (pc' := 18) rfl rfl rfl rfl rfl ?_
    refine x_iconst (pc' := 19) rfl rfl ?_
    refine x_pI (pc' := 22) rfl rfl rfl ?_
    refine x_iconst (pc' := 23) rfl rfl ?_
    refine x_istore (pc' := 25) (ls' := [_, _, _, _, _, _, _]) rfl rfl rfl rfl ?_
    refine x_iload (pc' := 27) rfl rfl rfl ?_
    refine x_iconst (pc' := 28) rfl rfl ?_
    refine x_icmp (a' := 129) (pc' := 31) (z := false) rfl rfl rfl (by decide) (fun h => by cases h) (fun _ => ?_)
    refine x_iload (pc' := 33) rfl rfl rfl ?_
    refine x_if (a' := 129) (pc' := 36) (z := false) rfl rfl rfl (by decide) (fun h => by cases h) (fun _ => ?_)
    refine x_iload_n (pc' := 37) rfl rfl rfl ?_
    refine x_iload_n (pc' := 38) rfl rfl rfl ?_
    refine x_iload (pc' := 40) rfl rfl rfl ?_
    refine x_cs (ls0 := [_, _, _, sJk, sJk, sJk]) (rest := []) rfl rfl rfl rfl ?_
    refine x_getstatic (pc' := 3) rfl rfl (show 1 < sC t 28 from z_st1 e) ?_
    refine x_iconst (pc' := 4) rfl rfl ?_
    refine x_iload_n (pc' := 5) rfl rfl rfl ?_
    refine x_imul (pc' := 6) (z := 6) rfl rfl (by decide) ?_
    refine x_iload_n (pc' := 7) rfl rfl rfl ?_
    refine x_iadd (pc' := 8) (z := 6) rfl rfl (by decide) ?_
    refine x_iald (pc' := 9) (N := 15) (x := 3) rfl rfl rfl (Eq.trans rdNI (Eq.trans rdNI (Eq.trans rdNL (z_N_28_1 e)))) (io_in (p := 6) (N := 15) (by decide) (by decide)) (Eq.trans (congrArg (sA (sIw (sIw (sLw t 23 0 0 (-10000 : Int64)) 768 0 0) 811 0 0) 28 1) (nn_io (p := 6) (by decide))) (Eq.trans rdAI (Eq.trans rdAI (Eq.trans rdAL (z_A_28_1_6 e))))) ?_
    refine x_istore_n (pc' := 10) (ls' := [_, _, _, _, _, _]) rfl rfl rfl rfl ?_
    refine x_iload_n (pc' := 11) rfl rfl rfl ?_
    refine x_bipush (pc' := 13) rfl rfl ?_
    refine x_icmp (a' := 20) (pc' := 16) (z := true) rfl rfl rfl (by decide) (fun _ => ?_) (fun h => by cases h)
    refine x_iload_n (pc' := 21) rfl rfl rfl ?_
    refine x_bipush (pc' := 23) rfl rfl ?_
    refine x_icmp (a' := 30) (pc' := 26) (z := true) rfl rfl rfl (by decide) (fun _ => ?_) (fun h => by cases h)
    refine x_iload_n (pc' := 31) rfl rfl rfl ?_
    refine x_if (a' := 38) (pc' := 34) (z := false) rfl rfl rfl (by decide) (fun h => by cases h) (fun _ => ?_)
    refine x_iconst (pc' := 35) rfl rfl ?_
    refine x_goto (pc' := 39) rfl rfl ?_
    refine x_istore (pc' := 41) (ls' := [_, _, _, _, _, _]) rfl rfl rfl rfl ?_
    refine x_iload (pc' := 43) rfl rfl rfl ?_
    refine x_iload_n (pc' := 44) rfl rfl rfl ?_
    refine x_isub (pc' := 45) (z := 1) rfl rfl (by decide) ?_
    refine x_istore (pc' := 47) (ls' := [_, _, _, _, _, _]) rfl rfl rfl rfl ?_
    refine x_iload (pc' := 49) rfl rfl rfl ?_
    refine x_if (a' := 56) (pc' := 52) (z := true) rfl rfl rfl (by decide) (fun _ => ?_) (fun h => by cases h)
    refine x_iload (pc' := 58) rfl rfl rfl ?_
    refine x_iconst (pc' := 59) rfl rfl ?_
    refine x_icmp (a' := 69) (pc' := 62) (z := true) rfl rfl rfl (by decide) (fun _ => ?_) (fun h => by cases h)
    refine x_iload (pc' := 71) rfl rfl rfl ?_
    refine x_iconst (pc' := 72) rfl rfl ?_
    refine x_icmp (a' := 85) (pc' := 75) (z := true) rfl rfl rfl (by decide) (fun _ => ?_) (fun h => by cases h)
    refine x_iload_n (pc' := 86) rfl rfl rfl ?_
    refine x_bipush (pc' := 88) rfl rfl ?_
    refine x_irem (pc' := 89) (z := 3) rfl rfl (by decide) (by decide +kernel) ?_
    refine x_iconst (pc' := 90) rfl rfl ?_
    refine x_isub (pc' := 91) (z := 2) rfl rfl (by decide) ?_
    refine x_reti rfl rfl ?_
    refine sK_i (pc' := 43) rfl ?_
    refine x_istore (pc' := 45) (ls' := [_, _, _, _, _, _, _]) rfl rfl rfl rfl ?_
    refine x_iload (pc' := 47) rfl rfl rfl ?_
    refine x_iconst (pc' := 48) rfl rfl ?_
    refine x_icmp (a' := 123) (pc' := 51) (z := false) rfl rfl rfl (by decide) (fun h => by cases h) (fun _ => ?_)
    refine x_aload_n (pc' := 52) rfl rfl rfl rfl rfl ?_
    refine x_gR (pc' := 55) (r := (some 27)) rfl rfl rfl (Eq.trans rdRI (Eq.trans rdRI (Eq.trans rdRL (z_R_809_0 e)))) ?_
    refine x_aload_n (pc' := 56) rfl rfl rfl rfl rfl ?_
    refine x_gI (pc' := 59) (x := 0) rfl rfl rfl sI_s ?_
    refine x_aload_n (pc' := 60) rfl rfl rfl rfl rfl ?_
    refine x_iload (pc' := 62) rfl rfl rfl ?_
    refine x_iload_n (pc' := 63) rfl rfl rfl ?_
    refine x_iload_n (pc' := 64) rfl rfl rfl ?_
    refine x_iload (pc' := 66) rfl rfl rfl ?_
    refine x_cs (ls0 := [_, _, _, sJk]) (rest := [_, _, _, _]) rfl rfl rfl rfl ?_
    refine x_iload_n (pc' := 1) rfl rfl rfl ?_
    refine x_iload_n (pc' := 2) rfl rfl rfl ?_
    refine x_iload_n (pc' := 3) rfl rfl rfl ?_
    refine x_cs (ls0 := [_, _, _, sJk, sJk, sJk]) (rest := []) rfl rfl rfl rfl ?_
    refine x_getstatic (pc' := 3) rfl rfl (show 1 < sC t 28 from z_st1 e) ?_
    refine x_iconst (pc' := 4) rfl rfl ?_
    refine x_iload_n (pc' := 5) rfl rfl rfl ?_
    refine x_imul (pc' := 6) (z := 6) rfl rfl (by decide) ?_
    refine x_iload_n (pc' := 7) rfl rfl rfl ?_
    refine x_iadd (pc' := 8) (z := 6) rfl rfl (by decide) ?_
    refine x_iald (pc' := 9) (N := 15) (x := 3) rfl rfl rfl (Eq.trans rdNI (Eq.trans rdNI (Eq.trans rdNL (z_N_28_1 e)))) (io_in (p := 6) (N := 15) (by decide) (by decide)) (Eq.trans (congrArg (sA (sIw (sIw (sLw t 23 0 0 (-10000 : Int64)) 768 0 0) 811 0 0) 28 1) (nn_io (p := 6) (by decide))) (Eq.trans rdAI (Eq.trans rdAI (Eq.trans rdAL (z_A_28_1_6 e))))) ?_
    refine x_istore_n (pc' := 10) (ls' := [_, _, _, _, _, _]) rfl rfl rfl rfl ?_
    refine x_iload_n (pc' := 11) rfl rfl rfl ?_
    refine x_bipush (pc' := 13) rfl rfl ?_
    refine x_icmp (a' := 20) (pc' := 16) (z := true) rfl rfl rfl (by decide) (fun _ => ?_) (fun h => by cases h)
    refine x_iload_n (pc' := 21) rfl rfl rfl ?_
    refine x_bipush (pc' := 23) rfl rfl ?_
    refine x_icmp (a' := 30) (pc' := 26) (z := true) rfl rfl rfl (by decide) (fun _ => ?_) (fun h => by cases h)
    refine x_iload_n (pc' := 31) rfl rfl rfl ?_
    refine x_if (a' := 38) (pc' := 34) (z := false) rfl rfl rfl (by decide) (fun h => by cases h) (fun _ => ?_)
    refine x_iconst (pc' := 35) rfl rfl ?_
    refine x_goto (pc' := 39) rfl rfl ?_
    refine x_istore (pc' := 41) (ls' := [_, _, _, _, _, _]) rfl rfl rfl rfl ?_
    refine x_iload (pc' := 43) rfl rfl rfl ?_
    refine x_iload_n (pc' := 44) rfl rfl rfl ?_
    refine x_isub (pc' := 45) (z := 1) rfl rfl (by decide) ?_
    refine x_istore (pc' := 47) (ls' := [_, _, _, _, _, _]) rfl rfl rfl rfl ?_
    refine x_iload (pc' := 49) rfl rfl rfl ?_
    refine x_if (a' := 56) (pc' := 52) (z := true) rfl rfl rfl (by decide) (fun _ => ?_) (fun h => by cases h)
    refine x_iload (pc' := 58) rfl rfl rfl ?_
    refine x_iconst (pc' := 59) rfl rfl ?_
    refine x_icmp (a' := 69) (pc' := 62) (z := true) rfl rfl rfl (by decide) (fun _ => ?_) (fun h => by cases h)
    refine x_iload (pc' := 71) rfl rfl rfl ?_
    refine x_iconst (pc' := 72) rfl rfl ?_
    refine x_icmp (a' := 85) (pc' := 75) (z := true) rfl rfl rfl (by decide) (fun _ => ?_) (fun h => by cases h)
    refine x_iload_n (pc' := 86) rfl rfl rfl ?_
    refine x_bipush (pc' := 88) rfl rfl ?_
    refine x_irem (pc' := 89) (z := 3) rfl rfl (by decide) (by decide +kernel) ?_
    refine x_iconst (pc' := 90) rfl rfl ?_
    refine x_isub (pc' := 91) (z := 2) rfl rfl (by decide) ?_
    refine x_reti rfl rfl ?_
    refine sK_i (pc' := 6) rfl ?_
    refine x_istore_n (pc' := 7) (ls' := [_, _, _, _]) rfl rfl rfl rfl ?_
    refine x_iload_n (pc' := 8) rfl rfl rfl ?_
    refine x_iconst (pc' := 9) rfl rfl ?_
    refine x_icmp (a' := 31) (pc' := 12) (z := false) rfl rfl rfl (by decide) (fun h => by cases h) (fun _ => ?_)
    refine x_iload_n (pc' := 13) rfl rfl rfl ?_
    refine x_iconst (pc' := 14) rfl rfl ?_
    refine x_icmp (a' := 29) (pc' := 17) (z := true) rfl rfl rfl (by decide) (fun _ => ?_) (fun h => by cases h)
    refine x_iconst (pc' := 30) rfl rfl ?_
    refine x_retz (z := false) rfl rfl ?_
    refine sK_i (pc' := 69) rfl ?_
    refine x_iload_n (pc' := 70) rfl rfl rfl ?_
    have J5033 : X 159 78 [.inr (.inr (12, (some 0))), .inl 2, .inl (bz (!(decide ((xs 2) = 0)))), .inl 0, .inl 1, .inl 0, .inl 2] [.inl (bz (!(xor false (!(decide ((xs 2) = 0)))))), .inl 2, .inr (.inr (12, (some 0))), .inl 0, .inr (.inr (21, (some 27)))] (sIw (sIw (sLw t 23 0 0 (-10000 : Int64)) 768 0 0) 811 0 0) (sK 159 161 19 [.inr (.inr (12, (some 0))), .inl 2, .inl (bz (!(decide ((xs 2) = 0)))), .inl (-1), .inl 0, .inl 0, sJk, sJk] [] (sK 161 228 24 [.inr (.inr (12, (some 0))), .inl 2, .inl (bz (!(decide ((xs 2) = 0)))), sJk] [] (sK 228 297 2148 [.inr (.inr (29, (some 0))), .inr (.inr (11, (some 0))), .inr (.inr (12, (some 0))), .inr (.inr (23, (some 0))), .inl 0, .inl 0, sJk] [] Qp))) := by
      refine x_cv (ls0 := [_, _, _, sJk, sJk, sJk]) (rest := [_, _]) rfl rfl rfl rfl rfl ?_
      refine x_iconst (pc' := 1) rfl rfl ?_
      refine x_istore_n (pc' := 2) (ls' := [_, _, _, _, _, _]) rfl rfl rfl rfl ?_
      refine x_iconst (pc' := 3) rfl rfl ?_
      refine x_istore (pc' := 5) (ls' := [_, _, _, _, _, _]) rfl rfl rfl rfl ?_
      refine x_iload (pc' := 7) rfl rfl rfl ?_
      refine x_aload_n (pc' := 8) rfl rfl rfl rfl rfl ?_
      refine x_gI (pc' := 11) (x := 0) rfl rfl rfl (Eq.trans (rdI_F rfl) (Eq.trans (rdI_F rfl) (Eq.trans rdIL (z_I_786_0 e)))) ?_
      refine x_icmp (a' := 87) (pc' := 14) (z := true) rfl rfl rfl (by decide) (fun _ => ?_) (fun h => by cases h)
      refine x_iload_n (pc' := 88) rfl rfl rfl ?_
      refine x_reti rfl rfl ?_
      refine sK_i (pc' := 81) rfl ?_
      refine x_iast (pc' := 82) (N := 200) (p := 0) rfl rfl rfl (Eq.trans rdNI (Eq.trans rdNI (Eq.trans rdNL (z_N_21_27 e)))) (io_in (p := 0) (N := 200) (by decide) (by decide)) (nn_io (p := 0) (by decide)) ?_
      refine x_aload_n (pc' := 83) rfl rfl rfl rfl rfl ?_
      refine x_gR (pc' := 86) (r := (some 0)) rfl rfl rfl (Eq.trans rdRA (Eq.trans rdRI (Eq.trans rdRI (Eq.trans rdRL (z_R_769_0 e))))) ?_
      refine x_iload (pc' := 88) rfl rfl rfl ?_
      refine x_iald (pc' := 89) (N := 5) (x := 0) rfl rfl rfl (Eq.trans rdNA (Eq.trans rdNI (Eq.trans rdNI (Eq.trans rdNL (z_N_21_0 e))))) (io_in (p := 2) (N := 5) (by decide) (by decide)) (Eq.trans (congrArg (sA (sAw (sIw (sIw (sLw t 23 0 0 (-10000 : Int64)) 768 0 0) 811 0 0) 21 27 0 (-1)) 21 0) (nn_io (p := 2) (by decide))) (Eq.trans (rdA_o rfl) (Eq.trans rdAI (Eq.trans rdAI (Eq.trans rdAL (z_A_21_0_2 e)))))) ?_
      refine x_iconst (pc' := 90) rfl rfl ?_
      refine x_icmp (a' := 110) (pc' := 93) (z := true) rfl rfl rfl (by decide) (fun _ => ?_) (fun h => by cases h)
      refine x_iconst (pc' := 111) rfl rfl ?_
      refine x_istore (pc' := 113) (ls' := [_, _, _, _, _, _, _]) rfl rfl rfl rfl ?_
      refine x_aload_n (pc' := 114) rfl rfl rfl rfl rfl ?_
      refine x_dup (pc' := 115) rfl rfl rfl ?_
      refine x_gI (pc' := 118) (x := 0) rfl rfl rfl (Eq.trans rdIA sI_s) ?_
      refine x_iconst (pc' := 119) rfl rfl ?_
      refine x_iadd (pc' := 120) (z := 1) rfl rfl (by decide) ?_
      refine x_pI (pc' := 123) rfl rfl rfl ?_
      refine x_iinc (pc' := 126) (y := 1) (ls' := [_, _, _, _, _, _, _]) rfl rfl rfl rfl rfl ?_
      refine x_goto (pc' := 25) rfl rfl ?_
      refine x_iload (pc' := 27) rfl rfl rfl ?_
      refine x_iconst (pc' := 28) rfl rfl ?_
      refine x_icmp (a' := 129) (pc' := 31) (z := false) rfl rfl rfl (by decide) (fun h => by cases h) (fun _ => ?_)
      refine x_iload (pc' := 33) rfl rfl rfl ?_
      refine x_if (a' := 129) (pc' := 36) (z := true) rfl rfl rfl (by decide) (fun _ => ?_) (fun h => by cases h)
      refine x_iload (pc' := 131) rfl rfl rfl ?_
      refine x_retz (z := false) rfl rfl ?_
      refine sK_i (pc' := 22) rfl ?_
      refine x_if (a' := 93) (pc' := 25) (z := true) rfl rfl rfl (by decide) (fun _ => ?_) (fun h => by cases h)
      refine x_iinc (pc' := 96) (y := 1) (ls' := [_, _, _, _, _, _, _, _]) rfl rfl rfl rfl rfl ?_
      refine x_goto (pc' := 8) rfl rfl ?_
      refine x_iload (pc' := 10) rfl rfl rfl ?_
      refine x_iconst (pc' := 11) rfl rfl ?_
      refine x_icmp (a' := 99) (pc' := 14) (z := false) rfl rfl rfl (by decide) (fun h => by cases h) (fun _ => ?_)
      refine x_aload_n (pc' := 15) rfl rfl rfl rfl rfl ?_
      refine x_iload_n (pc' := 16) rfl rfl rfl ?_
      refine x_iload_n (pc' := 17) rfl rfl rfl ?_
      refine x_iload (pc' := 19) rfl rfl rfl ?_
      refine x_cv (ls0 := [_, _, _, _, sJk, sJk, sJk]) (rest := []) rfl rfl rfl rfl rfl ?_
      refine x_iload_n (pc' := 1) rfl rfl rfl ?_
      refine x_iload_n (pc' := 2) rfl rfl rfl ?_
      refine x_iconst (pc' := 3) rfl rfl ?_
      refine x_cs (ls0 := [_, _, _, sJk, sJk, sJk]) (rest := []) rfl rfl rfl rfl ?_
      refine x_getstatic (pc' := 3) rfl rfl (show 1 < sC t 28 from z_st1 e) ?_
      refine x_iconst (pc' := 4) rfl rfl ?_
      refine x_iload_n (pc' := 5) rfl rfl rfl ?_
      refine x_imul (pc' := 6) (z := 6) rfl rfl (by decide) ?_
      refine x_iload_n (pc' := 7) rfl rfl rfl ?_
      refine x_iadd (pc' := 8) (z := 7) rfl rfl (by decide) ?_
      refine x_iald (pc' := 9) (N := 15) (x := 52) rfl rfl rfl (Eq.trans rdNI (Eq.trans rdNA (Eq.trans rdNI (Eq.trans rdNI (Eq.trans rdNL (z_N_28_1 e)))))) (io_in (p := 7) (N := 15) (by decide) (by decide)) (Eq.trans (congrArg (sA (sIw (sAw (sIw (sIw (sLw t 23 0 0 (-10000 : Int64)) 768 0 0) 811 0 0) 21 27 0 (-1)) 811 0 1) 28 1) (nn_io (p := 7) (by decide))) (Eq.trans rdAI (Eq.trans (rdA_F rfl) (Eq.trans rdAI (Eq.trans rdAI (Eq.trans rdAL (z_A_28_1_7 e))))))) ?_
      refine x_istore_n (pc' := 10) (ls' := [_, _, _, _, _, _]) rfl rfl rfl rfl ?_
      refine x_iload_n (pc' := 11) rfl rfl rfl ?_
      refine x_bipush (pc' := 13) rfl rfl ?_
      refine x_icmp (a' := 20) (pc' := 16) (z := true) rfl rfl rfl (by decide) (fun _ => ?_) (fun h => by cases h)
      refine x_iload_n (pc' := 21) rfl rfl rfl ?_
      refine x_bipush (pc' := 23) rfl rfl ?_
      refine x_icmp (a' := 30) (pc' := 26) (z := false) rfl rfl rfl (by decide) (fun h => by cases h) (fun _ => ?_)
      refine x_iconst (pc' := 27) rfl rfl ?_
      refine x_goto (pc' := 39) rfl rfl ?_
      refine x_istore (pc' := 41) (ls' := [_, _, _, _, _, _]) rfl rfl rfl rfl ?_
      refine x_iload (pc' := 43) rfl rfl rfl ?_
      refine x_iload_n (pc' := 44) rfl rfl rfl ?_
      refine x_isub (pc' := 45) (z := 2) rfl rfl (by decide) ?_
      refine x_istore (pc' := 47) (ls' := [_, _, _, _, _, _]) rfl rfl rfl rfl ?_
      refine x_iload (pc' := 49) rfl rfl rfl ?_
      refine x_if (a' := 56) (pc' := 52) (z := true) rfl rfl rfl (by decide) (fun _ => ?_) (fun h => by cases h)
      refine x_iload (pc' := 58) rfl rfl rfl ?_
      refine x_iconst (pc' := 59) rfl rfl ?_
      refine x_icmp (a' := 69) (pc' := 62) (z := true) rfl rfl rfl (by decide) (fun _ => ?_) (fun h => by cases h)
      refine x_iload (pc' := 71) rfl rfl rfl ?_
      refine x_iconst (pc' := 72) rfl rfl ?_
      refine x_icmp (a' := 85) (pc' := 75) (z := false) rfl rfl rfl (by decide) (fun h => by cases h) (fun _ => ?_)
      refine x_iload_n (pc' := 76) rfl rfl rfl ?_
      refine x_bipush (pc' := 78) rfl rfl ?_
      refine x_idiv (pc' := 79) (z := 5) rfl rfl (by decide) (by decide +kernel) ?_
      refine x_bipush (pc' := 81) rfl rfl ?_
      refine x_irem (pc' := 82) (z := 5) rfl rfl (by decide) (by decide +kernel) ?_
      refine x_goto (pc' := 89) rfl rfl ?_
      refine x_iconst (pc' := 90) rfl rfl ?_
      refine x_isub (pc' := 91) (z := 4) rfl rfl (by decide) ?_
      refine x_reti rfl rfl ?_
      refine sK_i (pc' := 6) rfl ?_
      refine x_iconst (pc' := 7) rfl rfl ?_
      refine x_icmp (a' := 14) (pc' := 10) (z := false) rfl rfl rfl (by decide) (fun h => by cases h) (fun _ => ?_)
      refine x_iconst (pc' := 11) rfl rfl ?_
      refine x_goto (pc' := 15) rfl rfl ?_
      refine x_istore (pc' := 17) (ls' := [_, _, _, _, _, _, _]) rfl rfl rfl rfl ?_
      refine x_aload_n (pc' := 18) rfl rfl rfl rfl rfl ?_
      refine x_iconst (pc' := 19) rfl rfl ?_
      refine x_pI (pc' := 22) rfl rfl rfl ?_
      refine x_iconst (pc' := 23) rfl rfl ?_
      refine x_istore (pc' := 25) (ls' := [_, _, _, _, _, _, _]) rfl rfl rfl rfl ?_
      refine x_iload (pc' := 27) rfl rfl rfl ?_
      refine x_iconst (pc' := 28) rfl rfl ?_
      refine x_icmp (a' := 129) (pc' := 31) (z := false) rfl rfl rfl (by decide) (fun h => by cases h) (fun _ => ?_)
      refine x_iload (pc' := 33) rfl rfl rfl ?_
      refine x_if (a' := 129) (pc' := 36) (z := false) rfl rfl rfl (by decide) (fun h => by cases h) (fun _ => ?_)
      refine x_iload_n (pc' := 37) rfl rfl rfl ?_
      refine x_iload_n (pc' := 38) rfl rfl rfl ?_
      refine x_iload (pc' := 40) rfl rfl rfl ?_
      refine x_cs (ls0 := [_, _, _, sJk, sJk, sJk]) (rest := []) rfl rfl rfl rfl ?_
      refine x_getstatic (pc' := 3) rfl rfl (show 1 < sC t 28 from z_st1 e) ?_
      refine x_iconst (pc' := 4) rfl rfl ?_
      refine x_iload_n (pc' := 5) rfl rfl rfl ?_
      refine x_imul (pc' := 6) (z := 6) rfl rfl (by decide) ?_
      refine x_iload_n (pc' := 7) rfl rfl rfl ?_
      refine x_iadd (pc' := 8) (z := 7) rfl rfl (by decide) ?_
      refine x_iald (pc' := 9) (N := 15) (x := 52) rfl rfl rfl (Eq.trans rdNI (Eq.trans rdNI (Eq.trans rdNA (Eq.trans rdNI (Eq.trans rdNI (Eq.trans rdNL (z_N_28_1 e))))))) (io_in (p := 7) (N := 15) (by decide) (by decide)) (Eq.trans (congrArg (sA (sIw (sIw (sAw (sIw (sIw (sLw t 23 0 0 (-10000 : Int64)) 768 0 0) 811 0 0) 21 27 0 (-1)) 811 0 1) 811 0 0) 28 1) (nn_io (p := 7) (by decide))) (Eq.trans rdAI (Eq.trans rdAI (Eq.trans (rdA_F rfl) (Eq.trans rdAI (Eq.trans rdAI (Eq.trans rdAL (z_A_28_1_7 e)))))))) ?_
      refine x_istore_n (pc' := 10) (ls' := [_, _, _, _, _, _]) rfl rfl rfl rfl ?_
      refine x_iload_n (pc' := 11) rfl rfl rfl ?_
      refine x_bipush (pc' := 13) rfl rfl ?_
      refine x_icmp (a' := 20) (pc' := 16) (z := true) rfl rfl rfl (by decide) (fun _ => ?_) (fun h => by cases h)
      refine x_iload_n (pc' := 21) rfl rfl rfl ?_
      refine x_bipush (pc' := 23) rfl rfl ?_
      refine x_icmp (a' := 30) (pc' := 26) (z := false) rfl rfl rfl (by decide) (fun h => by cases h) (fun _ => ?_)
      refine x_iconst (pc' := 27) rfl rfl ?_
      refine x_goto (pc' := 39) rfl rfl ?_
      refine x_istore (pc' := 41) (ls' := [_, _, _, _, _, _]) rfl rfl rfl rfl ?_
      refine x_iload (pc' := 43) rfl rfl rfl ?_
      refine x_iload_n (pc' := 44) rfl rfl rfl ?_
      refine x_isub (pc' := 45) (z := 2) rfl rfl (by decide) ?_
      refine x_istore (pc' := 47) (ls' := [_, _, _, _, _, _]) rfl rfl rfl rfl ?_
      refine x_iload (pc' := 49) rfl rfl rfl ?_
      refine x_if (a' := 56) (pc' := 52) (z := true) rfl rfl rfl (by decide) (fun _ => ?_) (fun h => by cases h)
      refine x_iload (pc' := 58) rfl rfl rfl ?_
      refine x_iconst (pc' := 59) rfl rfl ?_
      refine x_icmp (a' := 69) (pc' := 62) (z := true) rfl rfl rfl (by decide) (fun _ => ?_) (fun h => by cases h)
      refine x_iload (pc' := 71) rfl rfl rfl ?_
      refine x_iconst (pc' := 72) rfl rfl ?_
      refine x_icmp (a' := 85) (pc' := 75) (z := false) rfl rfl rfl (by decide) (fun h => by cases h) (fun _ => ?_)
      refine x_iload_n (pc' := 76) rfl rfl rfl ?_
      refine x_bipush (pc' := 78) rfl rfl ?_
      refine x_idiv (pc' := 79) (z := 5) rfl rfl (by decide) (by decide +kernel) ?_
      refine x_bipush (pc' := 81) rfl rfl ?_
      refine x_irem (pc' := 82) (z := 5) rfl rfl (by decide) (by decide +kernel) ?_
      refine x_goto (pc' := 89) rfl rfl ?_
      refine x_iconst (pc' := 90) rfl rfl ?_
      refine x_isub (pc' := 91) (z := 4) rfl rfl (by decide) ?_
      refine x_reti rfl rfl ?_
      refine sK_i (pc' := 43) rfl ?_
      refine x_istore (pc' := 45) (ls' := [_, _, _, _, _, _, _]) rfl rfl rfl rfl ?_
      refine x_iload (pc' := 47) rfl rfl rfl ?_
      refine x_iconst (pc' := 48) rfl rfl ?_
      refine x_icmp (a' := 123) (pc' := 51) (z := false) rfl rfl rfl (by decide) (fun h => by cases h) (fun _ => ?_)
      refine x_aload_n (pc' := 52) rfl rfl rfl rfl rfl ?_
      refine x_gR (pc' := 55) (r := (some 27)) rfl rfl rfl (Eq.trans rdRI (Eq.trans rdRI (Eq.trans rdRA (Eq.trans rdRI (Eq.trans rdRI (Eq.trans rdRL (z_R_809_0 e))))))) ?_
      refine x_aload_n (pc' := 56) rfl rfl rfl rfl rfl ?_
      refine x_gI (pc' := 59) (x := 0) rfl rfl rfl sI_s ?_
      refine x_aload_n (pc' := 60) rfl rfl rfl rfl rfl ?_
      refine x_iload (pc' := 62) rfl rfl rfl ?_
      refine x_iload_n (pc' := 63) rfl rfl rfl ?_
      refine x_iload_n (pc' := 64) rfl rfl rfl ?_
      refine x_iload (pc' := 66) rfl rfl rfl ?_
      refine x_cs (ls0 := [_, _, _, sJk]) (rest := [_, _, _, _]) rfl rfl rfl rfl ?_
      refine x_iload_n (pc' := 1) rfl rfl rfl ?_
      refine x_iload_n (pc' := 2) rfl rfl rfl ?_
      refine x_iload_n (pc' := 3) rfl rfl rfl ?_
      refine x_cs (ls0 := [_, _, _, sJk, sJk, sJk]) (rest := []) rfl rfl rfl rfl ?_
      refine x_getstatic (pc' := 3) rfl rfl (show 1 < sC t 28 from z_st1 e) ?_
      refine x_iconst (pc' := 4) rfl rfl ?_
      refine x_iload_n (pc' := 5) rfl rfl rfl ?_
      refine x_imul (pc' := 6) (z := 6) rfl rfl (by decide) ?_
      refine x_iload_n (pc' := 7) rfl rfl rfl ?_
      refine x_iadd (pc' := 8) (z := 7) rfl rfl (by decide) ?_
      refine x_iald (pc' := 9) (N := 15) (x := 52) rfl rfl rfl (Eq.trans rdNI (Eq.trans rdNI (Eq.trans rdNA (Eq.trans rdNI (Eq.trans rdNI (Eq.trans rdNL (z_N_28_1 e))))))) (io_in (p := 7) (N := 15) (by decide) (by decide)) (Eq.trans (congrArg (sA (sIw (sIw (sAw (sIw (sIw (sLw t 23 0 0 (-10000 : Int64)) 768 0 0) 811 0 0) 21 27 0 (-1)) 811 0 1) 811 0 0) 28 1) (nn_io (p := 7) (by decide))) (Eq.trans rdAI (Eq.trans rdAI (Eq.trans (rdA_F rfl) (Eq.trans rdAI (Eq.trans rdAI (Eq.trans rdAL (z_A_28_1_7 e)))))))) ?_
      refine x_istore_n (pc' := 10) (ls' := [_, _, _, _, _, _]) rfl rfl rfl rfl ?_
      refine x_iload_n (pc' := 11) rfl rfl rfl ?_
      refine x_bipush (pc' := 13) rfl rfl ?_
      refine x_icmp (a' := 20) (pc' := 16) (z := true) rfl rfl rfl (by decide) (fun _ => ?_) (fun h => by cases h)
      refine x_iload_n (pc' := 21) rfl rfl rfl ?_
      refine x_bipush (pc' := 23) rfl rfl ?_
      refine x_icmp (a' := 30) (pc' := 26) (z := false) rfl rfl rfl (by decide) (fun h => by cases h) (fun _ => ?_)
      refine x_iconst (pc' := 27) rfl rfl ?_
      refine x_goto (pc' := 39) rfl rfl ?_
      refine x_istore (pc' := 41) (ls' := [_, _, _, _, _, _]) rfl rfl rfl rfl ?_
      refine x_iload (pc' := 43) rfl rfl rfl ?_
      refine x_iload_n (pc' := 44) rfl rfl rfl ?_
      refine x_isub (pc' := 45) (z := 2) rfl rfl (by decide) ?_
      refine x_istore (pc' := 47) (ls' := [_, _, _, _, _, _]) rfl rfl rfl rfl ?_
      refine x_iload (pc' := 49) rfl rfl rfl ?_
      refine x_if (a' := 56) (pc' := 52) (z := true) rfl rfl rfl (by decide) (fun _ => ?_) (fun h => by cases h)
      refine x_iload (pc' := 58) rfl rfl rfl ?_
      refine x_iconst (pc' := 59) rfl rfl ?_
      refine x_icmp (a' := 69) (pc' := 62) (z := true) rfl rfl rfl (by decide) (fun _ => ?_) (fun h => by cases h)
      refine x_iload (pc' := 71) rfl rfl rfl ?_
      refine x_iconst (pc' := 72) rfl rfl ?_
      refine x_icmp (a' := 85) (pc' := 75) (z := false) rfl rfl rfl (by decide) (fun h => by cases h) (fun _ => ?_)
      refine x_iload_n (pc' := 76) rfl rfl rfl ?_
      refine x_bipush (pc' := 78) rfl rfl ?_
      refine x_idiv (pc' := 79) (z := 5) rfl rfl (by decide) (by decide +kernel) ?_
      refine x_bipush (pc' := 81) rfl rfl ?_
      refine x_irem (pc' := 82) (z := 5) rfl rfl (by decide) (by decide +kernel) ?_
      refine x_goto (pc' := 89) rfl rfl ?_
      refine x_iconst (pc' := 90) rfl rfl ?_
      refine x_isub (pc' := 91) (z := 4) rfl rfl (by decide) ?_
      refine x_reti rfl rfl ?_
      refine sK_i (pc' := 6) rfl ?_
      refine x_istore_n (pc' := 7) (ls' := [_, _, _, _]) rfl rfl rfl rfl ?_
      refine x_iload_n (pc' := 8) rfl rfl rfl ?_
      refine x_iconst (pc' := 9) rfl rfl ?_
      refine x_icmp (a' := 31) (pc' := 12) (z := false) rfl rfl rfl (by decide) (fun h => by cases h) (fun _ => ?_)
      refine x_iload_n (pc' := 13) rfl rfl rfl ?_
      refine x_iconst (pc' := 14) rfl rfl ?_
      refine x_icmp (a' := 29) (pc' := 17) (z := false) rfl rfl rfl (by decide) (fun h => by cases h) (fun _ => ?_)
      refine x_iload_n (pc' := 18) rfl rfl rfl ?_
      refine x_cs (ls0 := [_]) (rest := []) rfl rfl rfl rfl ?_
      refine x_iload_n (pc' := 1) rfl rfl rfl ?_
      refine x_iconst (pc' := 2) rfl rfl ?_
      refine x_isub (pc' := 3) (z := 1) rfl rfl (by decide) ?_
      refine x_reti rfl rfl ?_
      refine sK_i (pc' := 21) rfl ?_
      refine x_iload_n (pc' := 22) rfl rfl rfl ?_
      refine x_icmp (a' := 29) (pc' := 25) (z := false) rfl rfl rfl (by decide) (fun h => by cases h) (fun _ => ?_)
      refine x_iconst (pc' := 26) rfl rfl ?_
      refine x_goto (pc' := 30) rfl rfl ?_
      refine x_retz (z := true) rfl rfl ?_
      refine sK_i (pc' := 69) rfl ?_
      refine x_iload_n (pc' := 70) rfl rfl rfl ?_
      have J5063 : X 159 78 [.inr (.inr (12, (some 0))), .inl 2, .inl (bz (!(decide ((xs 2) = 0)))), .inl 1, .inl 1, .inl 0, .inl 4] [.inl (bz (!(xor true (!(decide ((xs 2) = 0)))))), .inl 4, .inr (.inr (12, (some 0))), .inl 0, .inr (.inr (21, (some 27)))] (sIw (sIw (sAw (sIw (sIw (sLw t 23 0 0 (-10000 : Int64)) 768 0 0) 811 0 0) 21 27 0 (-1)) 811 0 1) 811 0 0) (sK 159 161 19 [.inr (.inr (12, (some 0))), .inl 2, .inl (bz (!(decide ((xs 2) = 0)))), .inl (-1), .inl 0, .inl 1, sJk, sJk] [] (sK 161 228 24 [.inr (.inr (12, (some 0))), .inl 2, .inl (bz (!(decide ((xs 2) = 0)))), sJk] [] (sK 228 297 2148 [.inr (.inr (29, (some 0))), .inr (.inr (11, (some 0))), .inr (.inr (12, (some 0))), .inr (.inr (23, (some 0))), .inl 0, .inl 0, sJk] [] Qp))) := by
        refine x_cv (ls0 := [_, _, _, sJk, sJk, sJk]) (rest := [_, _]) rfl rfl rfl rfl rfl ?_
        refine x_iconst (pc' := 1) rfl rfl ?_
        refine x_istore_n (pc' := 2) (ls' := [_, _, _, _, _, _]) rfl rfl rfl rfl ?_
        refine x_iconst (pc' := 3) rfl rfl ?_
        refine x_istore (pc' := 5) (ls' := [_, _, _, _, _, _]) rfl rfl rfl rfl ?_
        refine x_iload (pc' := 7) rfl rfl rfl ?_
        refine x_aload_n (pc' := 8) rfl rfl rfl rfl rfl ?_
        refine x_gI (pc' := 11) (x := 0) rfl rfl rfl (Eq.trans (rdI_F rfl) (Eq.trans (rdI_F rfl) (Eq.trans rdIA (Eq.trans (rdI_F rfl) (Eq.trans (rdI_F rfl) (Eq.trans rdIL (z_I_786_0 e))))))) ?_
        refine x_icmp (a' := 87) (pc' := 14) (z := true) rfl rfl rfl (by decide) (fun _ => ?_) (fun h => by cases h)
        refine x_iload_n (pc' := 88) rfl rfl rfl ?_
        refine x_reti rfl rfl ?_
        refine sK_i (pc' := 81) rfl ?_
        refine x_iast (pc' := 82) (N := 200) (p := 0) rfl rfl rfl (Eq.trans rdNI (Eq.trans rdNI (Eq.trans rdNA (Eq.trans rdNI (Eq.trans rdNI (Eq.trans rdNL (z_N_21_27 e))))))) (io_in (p := 0) (N := 200) (by decide) (by decide)) (nn_io (p := 0) (by decide)) ?_
        refine x_aload_n (pc' := 83) rfl rfl rfl rfl rfl ?_
        refine x_gR (pc' := 86) (r := (some 0)) rfl rfl rfl (Eq.trans rdRA (Eq.trans rdRI (Eq.trans rdRI (Eq.trans rdRA (Eq.trans rdRI (Eq.trans rdRI (Eq.trans rdRL (z_R_769_0 e)))))))) ?_
        refine x_iload (pc' := 88) rfl rfl rfl ?_
        refine x_iald (pc' := 89) (N := 5) (x := 0) rfl rfl rfl (Eq.trans rdNA (Eq.trans rdNI (Eq.trans rdNI (Eq.trans rdNA (Eq.trans rdNI (Eq.trans rdNI (Eq.trans rdNL (z_N_21_0 e)))))))) (io_in (p := 4) (N := 5) (by decide) (by decide)) (Eq.trans (congrArg (sA (sAw (sIw (sIw (sAw (sIw (sIw (sLw t 23 0 0 (-10000 : Int64)) 768 0 0) 811 0 0) 21 27 0 (-1)) 811 0 1) 811 0 0) 21 27 0 (-1)) 21 0) (nn_io (p := 4) (by decide))) (Eq.trans (rdA_o rfl) (Eq.trans rdAI (Eq.trans rdAI (Eq.trans (rdA_o rfl) (Eq.trans rdAI (Eq.trans rdAI (Eq.trans rdAL (z_A_21_0_4 e))))))))) ?_
        refine x_iconst (pc' := 90) rfl rfl ?_
        refine x_icmp (a' := 110) (pc' := 93) (z := true) rfl rfl rfl (by decide) (fun _ => ?_) (fun h => by cases h)
        refine x_iconst (pc' := 111) rfl rfl ?_
        refine x_istore (pc' := 113) (ls' := [_, _, _, _, _, _, _]) rfl rfl rfl rfl ?_
        refine x_aload_n (pc' := 114) rfl rfl rfl rfl rfl ?_
        refine x_dup (pc' := 115) rfl rfl rfl ?_
        refine x_gI (pc' := 118) (x := 0) rfl rfl rfl (Eq.trans rdIA sI_s) ?_
        refine x_iconst (pc' := 119) rfl rfl ?_
        refine x_iadd (pc' := 120) (z := 1) rfl rfl (by decide) ?_
        refine x_pI (pc' := 123) rfl rfl rfl ?_
        refine x_iinc (pc' := 126) (y := 1) (ls' := [_, _, _, _, _, _, _]) rfl rfl rfl rfl rfl ?_
        refine x_goto (pc' := 25) rfl rfl ?_
        refine x_iload (pc' := 27) rfl rfl rfl ?_
        refine x_iconst (pc' := 28) rfl rfl ?_
        refine x_icmp (a' := 129) (pc' := 31) (z := false) rfl rfl rfl (by decide) (fun h => by cases h) (fun _ => ?_)
        refine x_iload (pc' := 33) rfl rfl rfl ?_
        refine x_if (a' := 129) (pc' := 36) (z := true) rfl rfl rfl (by decide) (fun _ => ?_) (fun h => by cases h)
        refine x_iload (pc' := 131) rfl rfl rfl ?_
        refine x_retz (z := false) rfl rfl ?_
        refine sK_i (pc' := 22) rfl ?_
        refine x_if (a' := 93) (pc' := 25) (z := true) rfl rfl rfl (by decide) (fun _ => ?_) (fun h => by cases h)
        refine x_iinc (pc' := 96) (y := 2) (ls' := [_, _, _, _, _, _, _, _]) rfl rfl rfl rfl rfl ?_
        refine x_goto (pc' := 8) rfl rfl ?_
        refine x_iload (pc' := 10) rfl rfl rfl ?_
        refine x_iconst (pc' := 11) rfl rfl ?_
        refine x_icmp (a' := 99) (pc' := 14) (z := false) rfl rfl rfl (by decide) (fun h => by cases h) (fun _ => ?_)
        refine x_aload_n (pc' := 15) rfl rfl rfl rfl rfl ?_
        refine x_iload_n (pc' := 16) rfl rfl rfl ?_
        refine x_iload_n (pc' := 17) rfl rfl rfl ?_
        refine x_iload (pc' := 19) rfl rfl rfl ?_
        refine x_cv (ls0 := [_, _, _, _, sJk, sJk, sJk]) (rest := []) rfl rfl rfl rfl rfl ?_
        refine x_iload_n (pc' := 1) rfl rfl rfl ?_
        refine x_iload_n (pc' := 2) rfl rfl rfl ?_
        refine x_iconst (pc' := 3) rfl rfl ?_
        refine x_cs (ls0 := [_, _, _, sJk, sJk, sJk]) (rest := []) rfl rfl rfl rfl ?_
        refine x_getstatic (pc' := 3) rfl rfl (show 1 < sC t 28 from z_st1 e) ?_
        refine x_iconst (pc' := 4) rfl rfl ?_
        refine x_iload_n (pc' := 5) rfl rfl rfl ?_
        refine x_imul (pc' := 6) (z := 6) rfl rfl (by decide) ?_
        refine x_iload_n (pc' := 7) rfl rfl rfl ?_
        refine x_iadd (pc' := 8) (z := 8) rfl rfl (by decide) ?_
        refine x_iald (pc' := 9) (N := 15) (x := 541) rfl rfl rfl (Eq.trans rdNI (Eq.trans rdNA (Eq.trans rdNI (Eq.trans rdNI (Eq.trans rdNA (Eq.trans rdNI (Eq.trans rdNI (Eq.trans rdNL (z_N_28_1 e))))))))) (io_in (p := 8) (N := 15) (by decide) (by decide)) (Eq.trans (congrArg (sA (sIw (sAw (sIw (sIw (sAw (sIw (sIw (sLw t 23 0 0 (-10000 : Int64)) 768 0 0) 811 0 0) 21 27 0 (-1)) 811 0 1) 811 0 0) 21 27 0 (-1)) 811 0 1) 28 1) (nn_io (p := 8) (by decide))) (Eq.trans rdAI (Eq.trans (rdA_F rfl) (Eq.trans rdAI (Eq.trans rdAI (Eq.trans (rdA_F rfl) (Eq.trans rdAI (Eq.trans rdAI (Eq.trans rdAL (z_A_28_1_8 e)))))))))) ?_
        refine x_istore_n (pc' := 10) (ls' := [_, _, _, _, _, _]) rfl rfl rfl rfl ?_
        refine x_iload_n (pc' := 11) rfl rfl rfl ?_
        refine x_bipush (pc' := 13) rfl rfl ?_
        refine x_icmp (a' := 20) (pc' := 16) (z := false) rfl rfl rfl (by decide) (fun h => by cases h) (fun _ => ?_)
        refine x_iconst (pc' := 17) rfl rfl ?_
        refine x_goto (pc' := 39) rfl rfl ?_
        refine x_istore (pc' := 41) (ls' := [_, _, _, _, _, _]) rfl rfl rfl rfl ?_
        refine x_iload (pc' := 43) rfl rfl rfl ?_
        refine x_iload_n (pc' := 44) rfl rfl rfl ?_
        refine x_isub (pc' := 45) (z := 3) rfl rfl (by decide) ?_
        refine x_istore (pc' := 47) (ls' := [_, _, _, _, _, _]) rfl rfl rfl rfl ?_
        refine x_iload (pc' := 49) rfl rfl rfl ?_
        refine x_if (a' := 56) (pc' := 52) (z := true) rfl rfl rfl (by decide) (fun _ => ?_) (fun h => by cases h)
        refine x_iload (pc' := 58) rfl rfl rfl ?_
        refine x_iconst (pc' := 59) rfl rfl ?_
        refine x_icmp (a' := 69) (pc' := 62) (z := false) rfl rfl rfl (by decide) (fun h => by cases h) (fun _ => ?_)
        refine x_iload_n (pc' := 63) rfl rfl rfl ?_
        refine x_bipush (pc' := 65) rfl rfl ?_
        refine x_idiv (pc' := 66) (z := 5) rfl rfl (by decide) (by decide +kernel) ?_
        refine x_goto (pc' := 89) rfl rfl ?_
        refine x_iconst (pc' := 90) rfl rfl ?_
        refine x_isub (pc' := 91) (z := 4) rfl rfl (by decide) ?_
        refine x_reti rfl rfl ?_
        refine sK_i (pc' := 6) rfl ?_
        refine x_iconst (pc' := 7) rfl rfl ?_
        refine x_icmp (a' := 14) (pc' := 10) (z := false) rfl rfl rfl (by decide) (fun h => by cases h) (fun _ => ?_)
        refine x_iconst (pc' := 11) rfl rfl ?_
        refine x_goto (pc' := 15) rfl rfl ?_
        refine x_istore (pc' := 17) (ls' := [_, _, _, _, _, _, _]) rfl rfl rfl rfl ?_
        refine x_aload_n (pc' := 18) rfl rfl rfl rfl rfl ?_
        refine x_iconst (pc' := 19) rfl rfl ?_
        refine x_pI (pc' := 22) rfl rfl rfl ?_
        refine x_iconst (pc' := 23) rfl rfl ?_
        refine x_istore (pc' := 25) (ls' := [_, _, _, _, _, _, _]) rfl rfl rfl rfl ?_
        refine x_iload (pc' := 27) rfl rfl rfl ?_
        refine x_iconst (pc' := 28) rfl rfl ?_
        refine x_icmp (a' := 129) (pc' := 31) (z := false) rfl rfl rfl (by decide) (fun h => by cases h) (fun _ => ?_)
        refine x_iload (pc' := 33) rfl rfl rfl ?_
        refine x_if (a' := 129) (pc' := 36) (z := false) rfl rfl rfl (by decide) (fun h => by cases h) (fun _ => ?_)
        refine x_iload_n (pc' := 37) rfl rfl rfl ?_
        refine x_iload_n (pc' := 38) rfl rfl rfl ?_
        refine x_iload (pc' := 40) rfl rfl rfl ?_
        refine x_cs (ls0 := [_, _, _, sJk, sJk, sJk]) (rest := []) rfl rfl rfl rfl ?_
        refine x_getstatic (pc' := 3) rfl rfl (show 1 < sC t 28 from z_st1 e) ?_
        refine x_iconst (pc' := 4) rfl rfl ?_
        refine x_iload_n (pc' := 5) rfl rfl rfl ?_
        refine x_imul (pc' := 6) (z := 6) rfl rfl (by decide) ?_
        refine x_iload_n (pc' := 7) rfl rfl rfl ?_
        refine x_iadd (pc' := 8) (z := 8) rfl rfl (by decide) ?_
        refine x_iald (pc' := 9) (N := 15) (x := 541) rfl rfl rfl (Eq.trans rdNI (Eq.trans rdNI (Eq.trans rdNA (Eq.trans rdNI (Eq.trans rdNI (Eq.trans rdNA (Eq.trans rdNI (Eq.trans rdNI (Eq.trans rdNL (z_N_28_1 e)))))))))) (io_in (p := 8) (N := 15) (by decide) (by decide)) (Eq.trans (congrArg (sA (sIw (sIw (sAw (sIw (sIw (sAw (sIw (sIw (sLw t 23 0 0 (-10000 : Int64)) 768 0 0) 811 0 0) 21 27 0 (-1)) 811 0 1) 811 0 0) 21 27 0 (-1)) 811 0 1) 811 0 0) 28 1) (nn_io (p := 8) (by decide))) (Eq.trans rdAI (Eq.trans rdAI (Eq.trans (rdA_F rfl) (Eq.trans rdAI (Eq.trans rdAI (Eq.trans (rdA_F rfl) (Eq.trans rdAI (Eq.trans rdAI (Eq.trans rdAL (z_A_28_1_8 e))))))))))) ?_
        refine x_istore_n (pc' := 10) (ls' := [_, _, _, _, _, _]) rfl rfl rfl rfl ?_
        refine x_iload_n (pc' := 11) rfl rfl rfl ?_
        refine x_bipush (pc' := 13) rfl rfl ?_
        refine x_icmp (a' := 20) (pc' := 16) (z := false) rfl rfl rfl (by decide) (fun h => by cases h) (fun _ => ?_)
        refine x_iconst (pc' := 17) rfl rfl ?_
        refine x_goto (pc' := 39) rfl rfl ?_
        refine x_istore (pc' := 41) (ls' := [_, _, _, _, _, _]) rfl rfl rfl rfl ?_
        refine x_iload (pc' := 43) rfl rfl rfl ?_
        refine x_iload_n (pc' := 44) rfl rfl rfl ?_
        refine x_isub (pc' := 45) (z := 3) rfl rfl (by decide) ?_
        refine x_istore (pc' := 47) (ls' := [_, _, _, _, _, _]) rfl rfl rfl rfl ?_
        refine x_iload (pc' := 49) rfl rfl rfl ?_
        refine x_if (a' := 56) (pc' := 52) (z := true) rfl rfl rfl (by decide) (fun _ => ?_) (fun h => by cases h)
        refine x_iload (pc' := 58) rfl rfl rfl ?_
        refine x_iconst (pc' := 59) rfl rfl ?_
        refine x_icmp (a' := 69) (pc' := 62) (z := false) rfl rfl rfl (by decide) (fun h => by cases h) (fun _ => ?_)
        refine x_iload_n (pc' := 63) rfl rfl rfl ?_
        refine x_bipush (pc' := 65) rfl rfl ?_
        refine x_idiv (pc' := 66) (z := 5) rfl rfl (by decide) (by decide +kernel) ?_
        refine x_goto (pc' := 89) rfl rfl ?_
        refine x_iconst (pc' := 90) rfl rfl ?_
        refine x_isub (pc' := 91) (z := 4) rfl rfl (by decide) ?_
        refine x_reti rfl rfl ?_
        refine sK_i (pc' := 43) rfl ?_
        refine x_istore (pc' := 45) (ls' := [_, _, _, _, _, _, _]) rfl rfl rfl rfl ?_
        refine x_iload (pc' := 47) rfl rfl rfl ?_
        refine x_iconst (pc' := 48) rfl rfl ?_
        refine x_icmp (a' := 123) (pc' := 51) (z := false) rfl rfl rfl (by decide) (fun h => by cases h) (fun _ => ?_)
        refine x_aload_n (pc' := 52) rfl rfl rfl rfl rfl ?_
        refine x_gR (pc' := 55) (r := (some 27)) rfl rfl rfl (Eq.trans rdRI (Eq.trans rdRI (Eq.trans rdRA (Eq.trans rdRI (Eq.trans rdRI (Eq.trans rdRA (Eq.trans rdRI (Eq.trans rdRI (Eq.trans rdRL (z_R_809_0 e)))))))))) ?_
        refine x_aload_n (pc' := 56) rfl rfl rfl rfl rfl ?_
        refine x_gI (pc' := 59) (x := 0) rfl rfl rfl sI_s ?_
        refine x_aload_n (pc' := 60) rfl rfl rfl rfl rfl ?_
        refine x_iload (pc' := 62) rfl rfl rfl ?_
        refine x_iload_n (pc' := 63) rfl rfl rfl ?_
        refine x_iload_n (pc' := 64) rfl rfl rfl ?_
        refine x_iload (pc' := 66) rfl rfl rfl ?_
        refine x_cs (ls0 := [_, _, _, sJk]) (rest := [_, _, _, _]) rfl rfl rfl rfl ?_
        refine x_iload_n (pc' := 1) rfl rfl rfl ?_
        refine x_iload_n (pc' := 2) rfl rfl rfl ?_
        refine x_iload_n (pc' := 3) rfl rfl rfl ?_
        refine x_cs (ls0 := [_, _, _, sJk, sJk, sJk]) (rest := []) rfl rfl rfl rfl ?_
        refine x_getstatic (pc' := 3) rfl rfl (show 1 < sC t 28 from z_st1 e) ?_
        refine x_iconst (pc' := 4) rfl rfl ?_
        refine x_iload_n (pc' := 5) rfl rfl rfl ?_
        refine x_imul (pc' := 6) (z := 6) rfl rfl (by decide) ?_
        refine x_iload_n (pc' := 7) rfl rfl rfl ?_
        refine x_iadd (pc' := 8) (z := 8) rfl rfl (by decide) ?_
        refine x_iald (pc' := 9) (N := 15) (x := 541) rfl rfl rfl (Eq.trans rdNI (Eq.trans rdNI (Eq.trans rdNA (Eq.trans rdNI (Eq.trans rdNI (Eq.trans rdNA (Eq.trans rdNI (Eq.trans rdNI (Eq.trans rdNL (z_N_28_1 e)))))))))) (io_in (p := 8) (N := 15) (by decide) (by decide)) (Eq.trans (congrArg (sA (sIw (sIw (sAw (sIw (sIw (sAw (sIw (sIw (sLw t 23 0 0 (-10000 : Int64)) 768 0 0) 811 0 0) 21 27 0 (-1)) 811 0 1) 811 0 0) 21 27 0 (-1)) 811 0 1) 811 0 0) 28 1) (nn_io (p := 8) (by decide))) (Eq.trans rdAI (Eq.trans rdAI (Eq.trans (rdA_F rfl) (Eq.trans rdAI (Eq.trans rdAI (Eq.trans (rdA_F rfl) (Eq.trans rdAI (Eq.trans rdAI (Eq.trans rdAL (z_A_28_1_8 e))))))))))) ?_
        refine x_istore_n (pc' := 10) (ls' := [_, _, _, _, _, _]) rfl rfl rfl rfl ?_
        refine x_iload_n (pc' := 11) rfl rfl rfl ?_
        refine x_bipush (pc' := 13) rfl rfl ?_
        refine x_icmp (a' := 20) (pc' := 16) (z := false) rfl rfl rfl (by decide) (fun h => by cases h) (fun _ => ?_)
        refine x_iconst (pc' := 17) rfl rfl ?_
        refine x_goto (pc' := 39) rfl rfl ?_
        refine x_istore (pc' := 41) (ls' := [_, _, _, _, _, _]) rfl rfl rfl rfl ?_
        refine x_iload (pc' := 43) rfl rfl rfl ?_
        refine x_iload_n (pc' := 44) rfl rfl rfl ?_
        refine x_isub (pc' := 45) (z := 3) rfl rfl (by decide) ?_
        refine x_istore (pc' := 47) (ls' := [_, _, _, _, _, _]) rfl rfl rfl rfl ?_
        refine x_iload (pc' := 49) rfl rfl rfl ?_
        refine x_if (a' := 56) (pc' := 52) (z := true) rfl rfl rfl (by decide) (fun _ => ?_) (fun h => by cases h)
        refine x_iload (pc' := 58) rfl rfl rfl ?_
        refine x_iconst (pc' := 59) rfl rfl ?_
        refine x_icmp (a' := 69) (pc' := 62) (z := false) rfl rfl rfl (by decide) (fun h => by cases h) (fun _ => ?_)
        refine x_iload_n (pc' := 63) rfl rfl rfl ?_
        refine x_bipush (pc' := 65) rfl rfl ?_
        refine x_idiv (pc' := 66) (z := 5) rfl rfl (by decide) (by decide +kernel) ?_
        refine x_goto (pc' := 89) rfl rfl ?_
        refine x_iconst (pc' := 90) rfl rfl ?_
        refine x_isub (pc' := 91) (z := 4) rfl rfl (by decide) ?_
        refine x_reti rfl rfl ?_
        refine sK_i (pc' := 6) rfl ?_
        refine x_istore_n (pc' := 7) (ls' := [_, _, _, _]) rfl rfl rfl rfl ?_
        refine x_iload_n (pc' := 8) rfl rfl rfl ?_
        refine x_iconst (pc' := 9) rfl rfl ?_
        refine x_icmp (a' := 31) (pc' := 12) (z := false) rfl rfl rfl (by decide) (fun h => by cases h) (fun _ => ?_)
        refine x_iload_n (pc' := 13) rfl rfl rfl ?_
        refine x_iconst (pc' := 14) rfl rfl ?_
        refine x_icmp (a' := 29) (pc' := 17) (z := false) rfl rfl rfl (by decide) (fun h => by cases h) (fun _ => ?_)
        refine x_iload_n (pc' := 18) rfl rfl rfl ?_
        refine x_cs (ls0 := [_]) (rest := []) rfl rfl rfl rfl ?_
        refine x_iload_n (pc' := 1) rfl rfl rfl ?_
        refine x_iconst (pc' := 2) rfl rfl ?_
        refine x_isub (pc' := 3) (z := 1) rfl rfl (by decide) ?_
        refine x_reti rfl rfl ?_
        refine sK_i (pc' := 21) rfl ?_
        refine x_iload_n (pc' := 22) rfl rfl rfl ?_
        refine x_icmp (a' := 29) (pc' := 25) (z := false) rfl rfl rfl (by decide) (fun h => by cases h) (fun _ => ?_)
        refine x_iconst (pc' := 26) rfl rfl ?_
        refine x_goto (pc' := 30) rfl rfl ?_
        refine x_retz (z := true) rfl rfl ?_
        refine sK_i (pc' := 69) rfl ?_
        refine x_iload_n (pc' := 70) rfl rfl rfl ?_
        have J5087 : X 159 78 [.inr (.inr (12, (some 0))), .inl 2, .inl (bz (!(decide ((xs 2) = 0)))), .inl 2, .inl 1, .inl 0, .inl 4] [.inl (bz (!(xor true (!(decide ((xs 2) = 0)))))), .inl 4, .inr (.inr (12, (some 0))), .inl 0, .inr (.inr (21, (some 27)))] (sIw (sIw (sAw (sIw (sIw (sAw (sIw (sIw (sLw t 23 0 0 (-10000 : Int64)) 768 0 0) 811 0 0) 21 27 0 (-1)) 811 0 1) 811 0 0) 21 27 0 (-1)) 811 0 1) 811 0 0) (sK 159 161 19 [.inr (.inr (12, (some 0))), .inl 2, .inl (bz (!(decide ((xs 2) = 0)))), .inl (-1), .inl 0, .inl 2, sJk, sJk] [] (sK 161 228 24 [.inr (.inr (12, (some 0))), .inl 2, .inl (bz (!(decide ((xs 2) = 0)))), sJk] [] (sK 228 297 2148 [.inr (.inr (29, (some 0))), .inr (.inr (11, (some 0))), .inr (.inr (12, (some 0))), .inr (.inr (23, (some 0))), .inl 0, .inl 0, sJk] [] Qp))) := by
          refine x_cv (ls0 := [_, _, _, sJk, sJk, sJk]) (rest := [_, _]) rfl rfl rfl rfl rfl ?_
          refine x_iconst (pc' := 1) rfl rfl ?_
          refine x_istore_n (pc' := 2) (ls' := [_, _, _, _, _, _]) rfl rfl rfl rfl ?_
          refine x_iconst (pc' := 3) rfl rfl ?_
          refine x_istore (pc' := 5) (ls' := [_, _, _, _, _, _]) rfl rfl rfl rfl ?_
          refine x_iload (pc' := 7) rfl rfl rfl ?_
          refine x_aload_n (pc' := 8) rfl rfl rfl rfl rfl ?_
          refine x_gI (pc' := 11) (x := 0) rfl rfl rfl (Eq.trans (rdI_F rfl) (Eq.trans (rdI_F rfl) (Eq.trans rdIA (Eq.trans (rdI_F rfl) (Eq.trans (rdI_F rfl) (Eq.trans rdIA (Eq.trans (rdI_F rfl) (Eq.trans (rdI_F rfl) (Eq.trans rdIL (z_I_786_0 e)))))))))) ?_
          refine x_icmp (a' := 87) (pc' := 14) (z := true) rfl rfl rfl (by decide) (fun _ => ?_) (fun h => by cases h)
          refine x_iload_n (pc' := 88) rfl rfl rfl ?_
          refine x_reti rfl rfl ?_
          refine sK_i (pc' := 81) rfl ?_
          refine x_iast (pc' := 82) (N := 200) (p := 0) rfl rfl rfl (Eq.trans rdNI (Eq.trans rdNI (Eq.trans rdNA (Eq.trans rdNI (Eq.trans rdNI (Eq.trans rdNA (Eq.trans rdNI (Eq.trans rdNI (Eq.trans rdNL (z_N_21_27 e)))))))))) (io_in (p := 0) (N := 200) (by decide) (by decide)) (nn_io (p := 0) (by decide)) ?_
          refine x_aload_n (pc' := 83) rfl rfl rfl rfl rfl ?_
          refine x_gR (pc' := 86) (r := (some 0)) rfl rfl rfl (Eq.trans rdRA (Eq.trans rdRI (Eq.trans rdRI (Eq.trans rdRA (Eq.trans rdRI (Eq.trans rdRI (Eq.trans rdRA (Eq.trans rdRI (Eq.trans rdRI (Eq.trans rdRL (z_R_769_0 e))))))))))) ?_
          refine x_iload (pc' := 88) rfl rfl rfl ?_
          refine x_iald (pc' := 89) (N := 5) (x := 0) rfl rfl rfl (Eq.trans rdNA (Eq.trans rdNI (Eq.trans rdNI (Eq.trans rdNA (Eq.trans rdNI (Eq.trans rdNI (Eq.trans rdNA (Eq.trans rdNI (Eq.trans rdNI (Eq.trans rdNL (z_N_21_0 e))))))))))) (io_in (p := 4) (N := 5) (by decide) (by decide)) (Eq.trans (congrArg (sA (sAw (sIw (sIw (sAw (sIw (sIw (sAw (sIw (sIw (sLw t 23 0 0 (-10000 : Int64)) 768 0 0) 811 0 0) 21 27 0 (-1)) 811 0 1) 811 0 0) 21 27 0 (-1)) 811 0 1) 811 0 0) 21 27 0 (-1)) 21 0) (nn_io (p := 4) (by decide))) (Eq.trans (rdA_o rfl) (Eq.trans rdAI (Eq.trans rdAI (Eq.trans (rdA_o rfl) (Eq.trans rdAI (Eq.trans rdAI (Eq.trans (rdA_o rfl) (Eq.trans rdAI (Eq.trans rdAI (Eq.trans rdAL (z_A_21_0_4 e)))))))))))) ?_
          refine x_iconst (pc' := 90) rfl rfl ?_
          refine x_icmp (a' := 110) (pc' := 93) (z := true) rfl rfl rfl (by decide) (fun _ => ?_) (fun h => by cases h)
          refine x_iconst (pc' := 111) rfl rfl ?_
          refine x_istore (pc' := 113) (ls' := [_, _, _, _, _, _, _]) rfl rfl rfl rfl ?_
          refine x_aload_n (pc' := 114) rfl rfl rfl rfl rfl ?_
          refine x_dup (pc' := 115) rfl rfl rfl ?_
          refine x_gI (pc' := 118) (x := 0) rfl rfl rfl (Eq.trans rdIA sI_s) ?_
          refine x_iconst (pc' := 119) rfl rfl ?_
          refine x_iadd (pc' := 120) (z := 1) rfl rfl (by decide) ?_
          refine x_pI (pc' := 123) rfl rfl rfl ?_
          refine x_iinc (pc' := 126) (y := 1) (ls' := [_, _, _, _, _, _, _]) rfl rfl rfl rfl rfl ?_
          refine x_goto (pc' := 25) rfl rfl ?_
          refine x_iload (pc' := 27) rfl rfl rfl ?_
          refine x_iconst (pc' := 28) rfl rfl ?_
          refine x_icmp (a' := 129) (pc' := 31) (z := false) rfl rfl rfl (by decide) (fun h => by cases h) (fun _ => ?_)
          refine x_iload (pc' := 33) rfl rfl rfl ?_
          refine x_if (a' := 129) (pc' := 36) (z := true) rfl rfl rfl (by decide) (fun _ => ?_) (fun h => by cases h)
          refine x_iload (pc' := 131) rfl rfl rfl ?_
          refine x_retz (z := false) rfl rfl ?_
          refine sK_i (pc' := 22) rfl ?_
          refine x_if (a' := 93) (pc' := 25) (z := true) rfl rfl rfl (by decide) (fun _ => ?_) (fun h => by cases h)
          refine x_iinc (pc' := 96) (y := 3) (ls' := [_, _, _, _, _, _, _, _]) rfl rfl rfl rfl rfl ?_
          refine x_goto (pc' := 8) rfl rfl ?_
          refine x_iload (pc' := 10) rfl rfl rfl ?_
          refine x_iconst (pc' := 11) rfl rfl ?_
          refine x_icmp (a' := 99) (pc' := 14) (z := true) rfl rfl rfl (by decide) (fun _ => ?_) (fun h => by cases h)
          refine x_iload_n (pc' := 100) rfl rfl rfl ?_
          refine x_reti rfl rfl ?_
          refine sK_i (pc' := 27) rfl ?_
          refine x_istore_n (pc' := 28) (ls' := [_, _, _, _]) rfl rfl rfl rfl ?_
          refine x_iload_n (pc' := 29) rfl rfl rfl ?_
          refine x_iconst (pc' := 30) rfl rfl ?_
          refine x_icmp (a' := 52) (pc' := 33) (z := true) rfl rfl rfl (by decide) (fun _ => ?_) (fun h => by cases h)
          refine x_sipush (pc' := 55) rfl rfl ?_
          refine x_reti rfl rfl ?_
          refine sK_i (pc' := 2151) rfl ?_
          refine x_istore (pc' := 2153) (ls' := [_, _, _, _, _, _, _]) rfl rfl rfl rfl ?_
          refine x_aload_n (pc' := 2154) rfl rfl rfl rfl rfl ?_
          refine x_cv (ls0 := [_]) (rest := []) rfl rfl rfl rfl rfl ?_
          refine x_aload_n (pc' := 1) rfl rfl rfl rfl rfl ?_
          refine x_gI (pc' := 4) (x := 0) rfl rfl rfl (Eq.trans (rdI_F rfl) (Eq.trans rdIA (Eq.trans (rdI_F rfl) (Eq.trans (rdI_F rfl) (Eq.trans rdIA (Eq.trans (rdI_F rfl) (Eq.trans (rdI_F rfl) (Eq.trans rdIA (Eq.trans (rdI_F rfl) sI_s))))))))) ?_
          refine x_reti rfl rfl ?_
          refine sK_i (pc' := 2157) rfl ?_
          refine x_iload (pc' := 2159) rfl rfl rfl ?_
          refine x_icmp (a' := 2164) (pc' := 2162) (z := true) rfl rfl rfl (by decide) (fun _ => ?_) (fun h => by cases h)
          refine x_iload (pc' := 2166) rfl rfl rfl ?_
          refine x_if (a' := 2181) (pc' := 2169) (z := false) rfl rfl rfl (by decide) (fun h => by cases h) (fun _ => ?_)
          refine x_aload_n (pc' := 2170) rfl rfl rfl rfl rfl ?_
          refine x_iconst (pc' := 2171) rfl rfl ?_
          refine x_lald (pc' := 2172) (N := 1) (x := (-10000 : Int64)) rfl rfl (Eq.trans rdNI (Eq.trans rdNA (Eq.trans rdNI (Eq.trans rdNI (Eq.trans rdNA (Eq.trans rdNI (Eq.trans rdNI (Eq.trans rdNA (Eq.trans rdNI (Eq.trans rdNI (Eq.trans rdNL (z_N_23_0 e)))))))))))) (io_in (p := 0) (N := 1) (by decide) (by decide)) (Eq.trans (congrArg (sL (sIw (sAw (sIw (sIw (sAw (sIw (sIw (sAw (sIw (sIw (sLw t 23 0 0 (-10000 : Int64)) 768 0 0) 811 0 0) 21 27 0 (-1)) 811 0 1) 811 0 0) 21 27 0 (-1)) 811 0 1) 811 0 0) 21 27 0 (-1)) 811 0 1) 23 0) (nn_io (p := 0) (by decide))) (Eq.trans rdLI (Eq.trans rdLA (Eq.trans rdLI (Eq.trans rdLI (Eq.trans rdLA (Eq.trans rdLI (Eq.trans rdLI (Eq.trans rdLA (Eq.trans rdLI (Eq.trans rdLI sL_s))))))))))) ?_
          refine x_iload (pc' := 2174) rfl rfl rfl ?_
          refine x_i2l (pc' := 2175) (z := (-10000 : Int64)) rfl rfl (by decide) ?_
          refine x_lcmp (pc' := 2176) (z := 0) rfl rfl (sLcmp_s _) ?_
          refine x_if (a' := 2181) (pc' := 2179) (z := true) rfl rfl rfl (by decide) (fun _ => ?_) (fun h => by cases h)
          refine x_goto (pc' := 2938) rfl rfl ?_
          refine x_iinc (pc' := 2941) (y := 7) (ls' := [_, _, _, _, _, _, _]) rfl rfl rfl rfl rfl ?_
          refine x_goto (pc' := 23) rfl rfl ?_
          refine x_iload (pc' := 25) rfl rfl rfl ?_
          refine x_aload_n (pc' := 26) rfl rfl rfl rfl rfl ?_
          refine x_alen (pc' := 27) (N := 7) rfl rfl rfl (Eq.trans rdNI (Eq.trans rdNA (Eq.trans rdNI (Eq.trans rdNI (Eq.trans rdNA (Eq.trans rdNI (Eq.trans rdNI (Eq.trans rdNA (Eq.trans rdNI (Eq.trans rdNI (Eq.trans rdNL (z_N_29_0 e)))))))))))) (?_ : X _ _ _ (.inl 7 :: _) _ _)
          refine x_bipush (pc' := 29) rfl rfl ?_
          refine x_isub (pc' := 30) (z := 0) rfl rfl (by decide) ?_
          refine x_icmp (a' := 2944) (pc' := 33) (z := true) rfl rfl rfl (by decide) (fun _ => ?_) (fun h => by cases h)
          refine x_iconst (pc' := 2945) rfl rfl ?_
          refine x_retz (z := true) rfl rfl ?_
          exact Qp_ok e (p := 0) (q := 0) rfl rfl rfl rfl
        refine x_icmp (a' := 77) (pc' := 73) (z := (xor true (!(decide ((xs 2) = 0))))) rfl rfl rfl (bz_neb _ _) (fun q5087 => ?_) (fun q5087 => ?_)
        · refine x_iconst (pc' := 78) rfl rfl ?_
          ((try rw [q5087] at J5087); (try rw [q5087]); (try simp only [cd_t, cd_f, nt_t, nt_f, an_t, an_f, or_t, or_f] at J5087); (try simp only [cd_t, cd_f, nt_t, nt_f, an_t, an_f, or_t, or_f]); exact J5087)
        · refine x_iconst (pc' := 74) rfl rfl ?_
          refine x_goto (pc' := 78) rfl rfl ?_
          ((try rw [q5087] at J5087); (try rw [q5087]); (try simp only [cd_t, cd_f, nt_t, nt_f, an_t, an_f, or_t, or_f] at J5087); (try simp only [cd_t, cd_f, nt_t, nt_f, an_t, an_f, or_t, or_f]); exact J5087)
      refine x_icmp (a' := 77) (pc' := 73) (z := (xor true (!(decide ((xs 2) = 0))))) rfl rfl rfl (bz_neb _ _) (fun q5063 => ?_) (fun q5063 => ?_)
      · refine x_iconst (pc' := 78) rfl rfl ?_
        ((try rw [q5063] at J5063); (try rw [q5063]); (try simp only [cd_t, cd_f, nt_t, nt_f, an_t, an_f, or_t, or_f] at J5063); (try simp only [cd_t, cd_f, nt_t, nt_f, an_t, an_f, or_t, or_f]); exact J5063)
      · refine x_iconst (pc' := 74) rfl rfl ?_
        refine x_goto (pc' := 78) rfl rfl ?_
        ((try rw [q5063] at J5063); (try rw [q5063]); (try simp only [cd_t, cd_f, nt_t, nt_f, an_t, an_f, or_t, or_f] at J5063); (try simp only [cd_t, cd_f, nt_t, nt_f, an_t, an_f, or_t, or_f]); exact J5063)
    refine x_icmp (a' := 77) (pc' := 73) (z := (xor false (!(decide ((xs 2) = 0))))) rfl rfl rfl (bz_neb _ _) (fun q5033 => ?_) (fun q5033 => ?_)
    · refine x_iconst (pc' := 78) rfl rfl ?_
      ((try rw [q5033] at J5033); (try rw [q5033]); (try simp only [cd_t, cd_f, nt_t, nt_f, an_t, an_f, or_t, or_f] at J5033); (try simp only [cd_t, cd_f, nt_t, nt_f, an_t, an_f, or_t, or_f]); exact J5033)
    · refine x_iconst (pc' := 74) rfl rfl ?_
      refine x_goto (pc' := 78) rfl rfl ?_
      ((try rw [q5033] at J5033); (try rw [q5033]); (try simp only [cd_t, cd_f, nt_t, nt_f, an_t, an_f, or_t, or_f] at J5033); (try simp only [cd_t, cd_f, nt_t, nt_f, an_t, an_f, or_t, or_f]); exact J5033)
  refine x_if (a' := 2147) (pc' := 2143) (z := decide ((xs 2) = 0)) rfl rfl rfl rfl (fun q5001 => ?_) (fun q5001 => ?_)
  · refine x_iconst (pc' := 2148) rfl rfl ?_
    ((try rw [q5001] at J5001); (try rw [q5001]); (try simp only [cd_t, cd_f, nt_t, nt_f, an_t, an_f, or_t, or_f] at J5001); (try simp only [cd_t, cd_f, nt_t, nt_f, an_t, an_f, or_t, or_f]); exact J5001)
  · refine x_iconst (pc' := 2144) rfl rfl ?_
    refine x_goto (pc' := 2148) rfl rfl ?_
    ((try rw [q5001] at J5001); (try rw [q5001]); (try simp only [cd_t, cd_f, nt_t, nt_f, an_t, an_f, or_t, or_f] at J5001); (try simp only [cd_t, cd_f, nt_t, nt_f, an_t, an_f, or_t, or_f]); exact J5001)
set_option maxHeartbeats 4000000 in
set_option maxRecDepth 10000 in
theorem v_26_2_i {t : sT} {xs : Nat → Int32}
    (e : t = T16 7 xs)
    (hk : ((xs 0) &&& 63) = 26)
    (e0 : xs 1 = 2) :
    X 297 23 [.inr (.inr (29, (some 0))), .inr (.inr (11, (some 0))), .inr (.inr (12, (some 0))), .inr (.inr (23, (some 0))), .inl 0, sJk, sJk] [] t Qp := by
  have k0 : X 297 2125 [.inr (.inr (29, (some 0))), .inr (.inr (11, (some 0))), .inr (.inr (12, (some 0))), .inr (.inr (23, (some 0))), .inl 0, sJk, sJk] [.inl 0] (sLw t 23 0 0 (-10000 : Int64)) Qp := v_26_2_i_2 e hk e0
  refine x_iload (pc' := 25) rfl rfl rfl ?_
  refine x_aload_n (pc' := 26) rfl rfl rfl rfl rfl ?_
  refine x_alen (pc' := 27) (N := 7) rfl rfl rfl (z_N_29_0 e) (?_ : X _ _ _ (.inl 7 :: _) _ _)
  refine x_bipush (pc' := 29) rfl rfl ?_
  refine x_isub (pc' := 30) (z := 0) rfl rfl (by decide) ?_
  refine x_icmp (a' := 2944) (pc' := 33) (z := false) rfl rfl rfl (by decide) (fun h => by cases h) (fun _ => ?_)
  refine x_aload_n (pc' := 34) rfl rfl rfl rfl rfl ?_
  refine x_iload (pc' := 36) rfl rfl rfl ?_
  refine x_iald (pc' := 37) (N := 7) (x := (xs 0)) rfl rfl rfl (z_N_29_0 e) (io_in (p := 0) (N := 7) (by decide) (by decide)) (Eq.trans (congrArg (sA t 29 0) (nn_io (p := 0) (by decide))) (z_A_29_0_0 e)) ?_
  refine x_bipush (pc' := 39) rfl rfl ?_
  refine x_iand (pc' := 40) (z := ((xs 0) &&& 63)) rfl rfl rfl ?_
  refine x_switch (pc' := 2100) rfl (by rw [hk]; decide) ?_
  refine x_aload_n (pc' := 2101) rfl rfl rfl rfl rfl ?_
  refine x_aload_n (pc' := 2102) rfl rfl rfl rfl rfl ?_
  refine x_iload (pc' := 2104) rfl rfl rfl ?_
  refine x_iconst (pc' := 2105) rfl rfl ?_
  refine x_iadd (pc' := 2106) (z := 1) rfl rfl (by decide) ?_
  refine x_iald (pc' := 2107) (N := 7) (x := 2) rfl rfl rfl (z_N_29_0 e) (io_in (p := 1) (N := 7) (by decide) (by decide)) (Eq.trans (congrArg (sA t 29 0) (nn_io (p := 1) (by decide))) (Eq.trans (z_A_29_0_1 e) e0)) ?_
  refine x_aload_n (pc' := 2108) rfl rfl rfl rfl rfl ?_
  refine x_iload (pc' := 2110) rfl rfl rfl ?_
  refine x_iconst (pc' := 2111) rfl rfl ?_
  refine x_iadd (pc' := 2112) (z := 2) rfl rfl (by decide) ?_
  refine x_iald (pc' := 2113) (N := 7) (x := (xs 2)) rfl rfl rfl (z_N_29_0 e) (io_in (p := 2) (N := 7) (by decide) (by decide)) (Eq.trans (congrArg (sA t 29 0) (nn_io (p := 2) (by decide))) (z_A_29_0_2 e)) ?_
  have J3 : X 297 2121 [.inr (.inr (29, (some 0))), .inr (.inr (11, (some 0))), .inr (.inr (12, (some 0))), .inr (.inr (23, (some 0))), .inl 0, sJk, sJk] [.inl (bz (!(decide ((xs 2) = 0)))), .inl 2, .inr (.inr (11, (some 0)))] t Qp := by
    refine x_aload_n (pc' := 2122) rfl rfl rfl rfl rfl ?_
    refine x_cs (ls0 := [_, _, _, _, sJk]) (rest := []) rfl rfl rfl rfl ?_
    refine x_aload_n (pc' := 1) rfl rfl rfl rfl rfl ?_
    refine x_iconst (pc' := 2) rfl rfl ?_
    refine x_aload_n (pc' := 3) rfl rfl rfl rfl rfl ?_
    refine x_iload_n (pc' := 4) rfl rfl rfl ?_
    refine x_iload_n (pc' := 5) rfl rfl rfl ?_
    refine x_cv (ls0 := [_, _, _, sJk]) (rest := [_, _]) rfl rfl rfl rfl rfl ?_
    refine x_aload_n (pc' := 1) rfl rfl rfl rfl rfl ?_
    refine x_iload_n (pc' := 2) rfl rfl rfl ?_
    refine x_cv (ls0 := [_, _]) (rest := []) rfl rfl rfl rfl rfl ?_
    refine x_iload_n (pc' := 1) rfl rfl rfl ?_
    refine x_if (a' := 16) (pc' := 4) (z := false) rfl rfl rfl (by decide) (fun h => by cases h) (fun _ => ?_)
    refine x_iload_n (pc' := 5) rfl rfl rfl ?_
    refine x_aload_n (pc' := 6) rfl rfl rfl rfl rfl ?_
    refine x_gR (pc' := 9) (r := (some 0)) rfl rfl rfl (z_R_705_0 e) ?_
    refine x_gR (pc' := 12) (r := (some 0)) rfl rfl rfl (z_R_256_0 e) ?_
    refine x_alen (pc' := 13) (N := 5) rfl rfl rfl (z_N_24_0 e) (?_ : X _ _ _ (.inl 5 :: _) _ _)
    refine x_icmp (a' := 27) (pc' := 16) (z := true) rfl rfl rfl (by decide) (fun _ => ?_) (fun h => by cases h)
    refine x_aload_n (pc' := 28) rfl rfl rfl rfl rfl ?_
    refine x_gR (pc' := 31) (r := (some 0)) rfl rfl rfl (z_R_705_0 e) ?_
    refine x_gR (pc' := 34) (r := (some 0)) rfl rfl rfl (z_R_256_0 e) ?_
    refine x_iload_n (pc' := 35) rfl rfl rfl ?_
    refine x_aald (pc' := 36) (N := 5) (k' := 1) (r := (some 2)) rfl rfl rfl (z_N_24_0 e) (io_in (p := 2) (N := 5) (by decide) (by decide)) (Eq.trans (congrArg (sE t 24 0) (nn_io (p := 2) (by decide))) (z_E_24_0_2 e)) ?_
    refine x_reta rfl rfl ?_
    refine sK_i (pc' := 5) rfl ?_
    refine x_astore_n (pc' := 6) (ls' := [_, _, _, _]) rfl rfl rfl rfl rfl ?_
    refine x_aload_n (pc' := 7) rfl rfl rfl rfl rfl ?_
    refine x_gR (pc' := 10) (r := (some 0)) rfl rfl rfl (z_R_706_0 e) ?_
    refine x_aload_n (pc' := 11) rfl rfl rfl rfl rfl ?_
    refine x_aload_n (pc' := 12) rfl rfl rfl rfl rfl ?_
    refine x_gR (pc' := 15) (r := (some 0)) rfl rfl rfl (z_R_706_0 e) ?_
    refine x_aload_n (pc' := 16) rfl rfl rfl rfl rfl ?_
    refine x_iload_n (pc' := 17) rfl rfl rfl ?_
    refine x_cv (ls0 := [_, _, _, sJk, sJk, sJk, sJk, sJk]) (rest := [_, _]) rfl rfl rfl rfl rfl ?_
    refine x_iconst (pc' := 1) rfl rfl ?_
    refine x_istore_n (pc' := 2) (ls' := [_, _, _, _, _, _, _, _]) rfl rfl rfl rfl ?_
    refine x_sipush (pc' := 5) rfl rfl ?_
    refine x_istore (pc' := 7) (ls' := [_, _, _, _, _, _, _, _]) rfl rfl rfl rfl ?_
    refine x_iconst (pc' := 8) rfl rfl ?_
    refine x_istore (pc' := 10) (ls' := [_, _, _, _, _, _, _, _]) rfl rfl rfl rfl ?_
    refine x_iload (pc' := 12) rfl rfl rfl ?_
    refine x_iconst (pc' := 13) rfl rfl ?_
    refine x_icmp (a' := 90) (pc' := 16) (z := false) rfl rfl rfl (by decide) (fun h => by cases h) (fun _ => ?_)
    refine x_aload_n (pc' := 17) rfl rfl rfl rfl rfl ?_
    refine x_aload_n (pc' := 18) rfl rfl rfl rfl rfl ?_
    refine x_iload (pc' := 20) rfl rfl rfl ?_
    refine x_iload_n (pc' := 21) rfl rfl rfl ?_
    refine x_cv (ls0 := [_, _, _, _, sJk, sJk, sJk, sJk]) (rest := []) rfl rfl rfl rfl rfl ?_
    refine x_aload_n (pc' := 1) rfl rfl rfl rfl rfl ?_
    refine x_aload_n (pc' := 2) rfl rfl rfl rfl rfl ?_
    refine x_iload_n (pc' := 3) rfl rfl rfl ?_
    refine x_iconst (pc' := 4) rfl rfl ?_
    refine x_cv (ls0 := [_, _, _, _, sJk, sJk]) (rest := []) rfl rfl rfl rfl rfl ?_
    refine x_aload_n (pc' := 1) rfl rfl rfl rfl rfl ?_
    refine x_gI (pc' := 4) (x := 2) rfl rfl rfl (z_I_64_2 e) ?_
    refine x_iconst (pc' := 5) rfl rfl ?_
    refine x_imul (pc' := 6) (z := 6) rfl rfl (by decide) ?_
    refine x_iload_n (pc' := 7) rfl rfl rfl ?_
    refine x_iadd (pc' := 8) (z := 6) rfl rfl (by decide) ?_
    refine x_iconst (pc' := 9) rfl rfl ?_
    refine x_imul (pc' := 10) (z := 18) rfl rfl (by decide) ?_
    refine x_iload_n (pc' := 11) rfl rfl rfl ?_
    refine x_iadd (pc' := 12) (z := 18) rfl rfl (by decide) ?_
    refine x_istore (pc' := 14) (ls' := [_, _, _, _, _, _]) rfl rfl rfl rfl ?_
    refine x_iload_n (pc' := 15) rfl rfl rfl ?_
    refine x_if (a' := 36) (pc' := 18) (z := false) rfl rfl rfl (by decide) (fun h => by cases h) (fun _ => ?_)
    refine x_iload_n (pc' := 19) rfl rfl rfl ?_
    refine x_iconst (pc' := 20) rfl rfl ?_
    refine x_icmp (a' := 36) (pc' := 23) (z := false) rfl rfl rfl (by decide) (fun h => by cases h) (fun _ => ?_)
    refine x_iload_n (pc' := 24) rfl rfl rfl ?_
    refine x_if (a' := 36) (pc' := 27) (z := false) rfl rfl rfl (by decide) (fun h => by cases h) (fun _ => ?_)
    refine x_iload_n (pc' := 28) rfl rfl rfl ?_
    refine x_iconst (pc' := 29) rfl rfl ?_
    refine x_icmp (a' := 36) (pc' := 32) (z := false) rfl rfl rfl (by decide) (fun h => by cases h) (fun _ => ?_)
    refine x_iconst (pc' := 33) rfl rfl ?_
    refine x_goto (pc' := 37) rfl rfl ?_
    refine x_istore (pc' := 39) (ls' := [_, _, _, _, _, _]) rfl rfl rfl rfl ?_
    refine x_iload (pc' := 41) rfl rfl rfl ?_
    refine x_if (a' := 67) (pc' := 44) (z := false) rfl rfl rfl (by decide) (fun h => by cases h) (fun _ => ?_)
    refine x_iload (pc' := 46) rfl rfl rfl ?_
    refine x_if (a' := 67) (pc' := 49) (z := false) rfl rfl rfl (by decide) (fun h => by cases h) (fun _ => ?_)
    refine x_iload (pc' := 51) rfl rfl rfl ?_
    refine x_getstatic (pc' := 54) rfl rfl (show 0 < sC t 28 from z_st0 e) ?_
    refine x_alen (pc' := 55) (N := 45) rfl rfl rfl (z_N_28_0 e) (?_ : X _ _ _ (.inl 45 :: _) _ _)
    refine x_icmp (a' := 67) (pc' := 58) (z := false) rfl rfl rfl (by decide) (fun h => by cases h) (fun _ => ?_)
    refine x_getstatic (pc' := 61) rfl rfl (show 0 < sC t 28 from z_st0 e) ?_
    refine x_iload (pc' := 63) rfl rfl rfl ?_
    refine x_iald (pc' := 64) (N := 45) (x := 3) rfl rfl rfl (z_N_28_0 e) (io_in (p := 18) (N := 45) (by decide) (by decide)) (Eq.trans (congrArg (sA t 28 0) (nn_io (p := 18) (by decide))) (z_A_28_0_18 e)) ?_
    refine x_goto (pc' := 68) rfl rfl ?_
    refine x_reti rfl rfl ?_
    refine sK_i (pc' := 7) rfl ?_
    refine x_if (a' := 14) (pc' := 10) (z := true) rfl rfl rfl (by decide) (fun _ => ?_) (fun h => by cases h)
    refine x_iconst (pc' := 15) rfl rfl ?_
    refine x_istore (pc' := 17) (ls' := [_, _, _, _, _, _, _, _]) rfl rfl rfl rfl ?_
    refine x_iconst (pc' := 18) rfl rfl ?_
    refine x_istore (pc' := 20) (ls' := [_, _, _, _, _, _, _, _]) rfl rfl rfl rfl ?_
    refine x_iload (pc' := 22) rfl rfl rfl ?_
    refine x_iconst (pc' := 23) rfl rfl ?_
    refine x_icmp (a' := 89) (pc' := 26) (z := false) rfl rfl rfl (by decide) (fun h => by cases h) (fun _ => ?_)
    refine x_aload_n (pc' := 27) rfl rfl rfl rfl rfl ?_
    refine x_aload_n (pc' := 28) rfl rfl rfl rfl rfl ?_
    refine x_iload_n (pc' := 29) rfl rfl rfl ?_
    refine x_iload (pc' := 31) rfl rfl rfl ?_
    refine x_cv (ls0 := [_, _, _, _, sJk, sJk]) (rest := []) rfl rfl rfl rfl rfl ?_
    refine x_aload_n (pc' := 1) rfl rfl rfl rfl rfl ?_
    refine x_gI (pc' := 4) (x := 2) rfl rfl rfl (z_I_64_2 e) ?_
    refine x_iconst (pc' := 5) rfl rfl ?_
    refine x_imul (pc' := 6) (z := 6) rfl rfl (by decide) ?_
    refine x_iload_n (pc' := 7) rfl rfl rfl ?_
    refine x_iadd (pc' := 8) (z := 6) rfl rfl (by decide) ?_
    refine x_iconst (pc' := 9) rfl rfl ?_
    refine x_imul (pc' := 10) (z := 18) rfl rfl (by decide) ?_
    refine x_iload_n (pc' := 11) rfl rfl rfl ?_
    refine x_iadd (pc' := 12) (z := 18) rfl rfl (by decide) ?_
    refine x_istore (pc' := 14) (ls' := [_, _, _, _, _, _]) rfl rfl rfl rfl ?_
    refine x_iload_n (pc' := 15) rfl rfl rfl ?_
    refine x_if (a' := 36) (pc' := 18) (z := false) rfl rfl rfl (by decide) (fun h => by cases h) (fun _ => ?_)
    refine x_iload_n (pc' := 19) rfl rfl rfl ?_
    refine x_iconst (pc' := 20) rfl rfl ?_
    refine x_icmp (a' := 36) (pc' := 23) (z := false) rfl rfl rfl (by decide) (fun h => by cases h) (fun _ => ?_)
    refine x_iload_n (pc' := 24) rfl rfl rfl ?_
    refine x_if (a' := 36) (pc' := 27) (z := false) rfl rfl rfl (by decide) (fun h => by cases h) (fun _ => ?_)
    refine x_iload_n (pc' := 28) rfl rfl rfl ?_
    refine x_iconst (pc' := 29) rfl rfl ?_
    refine x_icmp (a' := 36) (pc' := 32) (z := false) rfl rfl rfl (by decide) (fun h => by cases h) (fun _ => ?_)
    refine x_iconst (pc' := 33) rfl rfl ?_
    refine x_goto (pc' := 37) rfl rfl ?_
    refine x_istore (pc' := 39) (ls' := [_, _, _, _, _, _]) rfl rfl rfl rfl ?_
    refine x_iload (pc' := 41) rfl rfl rfl ?_
    refine x_if (a' := 67) (pc' := 44) (z := false) rfl rfl rfl (by decide) (fun h => by cases h) (fun _ => ?_)
    refine x_iload (pc' := 46) rfl rfl rfl ?_
    refine x_if (a' := 67) (pc' := 49) (z := false) rfl rfl rfl (by decide) (fun h => by cases h) (fun _ => ?_)
    refine x_iload (pc' := 51) rfl rfl rfl ?_
    refine x_getstatic (pc' := 54) rfl rfl (show 0 < sC t 28 from z_st0 e) ?_
    refine x_alen (pc' := 55) (N := 45) rfl rfl rfl (z_N_28_0 e) (?_ : X _ _ _ (.inl 45 :: _) _ _)
    refine x_icmp (a' := 67) (pc' := 58) (z := false) rfl rfl rfl (by decide) (fun h => by cases h) (fun _ => ?_)
    refine x_getstatic (pc' := 61) rfl rfl (show 0 < sC t 28 from z_st0 e) ?_
    refine x_iload (pc' := 63) rfl rfl rfl ?_
    refine x_iald (pc' := 64) (N := 45) (x := 3) rfl rfl rfl (z_N_28_0 e) (io_in (p := 18) (N := 45) (by decide) (by decide)) (Eq.trans (congrArg (sA t 28 0) (nn_io (p := 18) (by decide))) (z_A_28_0_18 e)) ?_
    refine x_goto (pc' := 68) rfl rfl ?_
    refine x_reti rfl rfl ?_
    refine sK_i (pc' := 34) rfl ?_
    refine x_istore (pc' := 36) (ls' := [_, _, _, _, _, _, _, _]) rfl rfl rfl rfl ?_
    refine x_iload (pc' := 38) rfl rfl rfl ?_
    refine x_if (a' := 83) (pc' := 41) (z := false) rfl rfl rfl (by decide) (fun h => by cases h) (fun _ => ?_)
    refine x_aload_n (pc' := 42) rfl rfl rfl rfl rfl ?_
    refine x_iload (pc' := 44) rfl rfl rfl ?_
    refine x_iload_n (pc' := 45) rfl rfl rfl ?_
    refine x_cv (ls0 := [_, _, _, sJk]) (rest := []) rfl rfl rfl rfl rfl ?_
    refine x_iload_n (pc' := 1) rfl rfl rfl ?_
    refine x_abs (pc' := 4) (z := 3) rfl rfl rfl (by decide) ?_
    refine x_iconst (pc' := 5) rfl rfl ?_
    refine x_isub (pc' := 6) (z := 2) rfl rfl (by decide) ?_
    refine x_istore_n (pc' := 7) (ls' := [_, _, _, _]) rfl rfl rfl rfl ?_
    refine x_iload_n (pc' := 8) rfl rfl rfl ?_
    refine x_if (a' := 33) (pc' := 11) (z := false) rfl rfl rfl (by decide) (fun h => by cases h) (fun _ => ?_)
    refine x_iload_n (pc' := 12) rfl rfl rfl ?_
    refine x_aload_n (pc' := 13) rfl rfl rfl rfl rfl ?_
    refine x_gR (pc' := 16) (r := (some 0)) rfl rfl rfl (z_R_640_0 e) ?_
    refine x_alen (pc' := 17) (N := 5) rfl rfl rfl (z_N_24_0 e) (?_ : X _ _ _ (.inl 5 :: _) _ _)
    refine x_icmp (a' := 33) (pc' := 20) (z := false) rfl rfl rfl (by decide) (fun h => by cases h) (fun _ => ?_)
    refine x_aload_n (pc' := 21) rfl rfl rfl rfl rfl ?_
    refine x_gR (pc' := 24) (r := (some 0)) rfl rfl rfl (z_R_640_0 e) ?_
    refine x_iload_n (pc' := 25) rfl rfl rfl ?_
    refine x_aald (pc' := 26) (N := 5) (k' := 1) (r := (some 2)) rfl rfl rfl (z_N_24_0 e) (io_in (p := 2) (N := 5) (by decide) (by decide)) (Eq.trans (congrArg (sE t 24 0) (nn_io (p := 2) (by decide))) (z_E_24_0_2 e)) ?_
    refine x_gI (pc' := 29) (x := 0) rfl rfl rfl (z_I_67_2 e) ?_
    refine x_iconst (pc' := 30) rfl rfl ?_
    refine x_icmp (a' := 35) (pc' := 33) (z := false) rfl rfl rfl (by decide) (fun h => by cases h) (fun _ => ?_)
    refine x_null (pc' := 34) rfl rfl rfl ?_
    refine x_reta rfl rfl ?_
    refine sK_i (pc' := 48) rfl ?_
    refine x_astore (pc' := 50) (ls' := [_, _, _, _, _, _, _, _]) rfl rfl rfl rfl rfl ?_
    refine x_aload (pc' := 52) rfl rfl rfl rfl rfl ?_
    refine x_ifnonnull (a' := 59) (pc' := 55) rfl rfl rfl rfl (fun i h => by cases h) (fun _ => ?_)
    refine x_sipush (pc' := 58) rfl rfl ?_
    refine x_reti rfl rfl ?_
    refine sK_i (pc' := 24) rfl ?_
    refine x_istore (pc' := 26) (ls' := [_, _, _, _, _, _, _, _]) rfl rfl rfl rfl ?_
    refine x_iload_n (pc' := 27) rfl rfl rfl ?_
    have J31 : X 82 57 [.inr (.inr (10, (some 0))), .inr (.inr (1, (some 2))), .inl (bz (!(decide ((xs 2) = 0)))), .inl (-1), .inl (-10000), .inl 0, .inl (-10000), sJk] [.inl 0] t (sK 82 110 17 [.inr (.inr (11, (some 0))), .inl 2, .inl (bz (!(decide ((xs 2) = 0)))), .inr (.inr (1, (some 2)))] [.inr (.inr (1, (some 2))), .inr (.inr (10, (some 0)))] (sK 110 284 5 [.inr (.inr (11, (some 0))), .inl 2, .inl (bz (!(decide ((xs 2) = 0)))), .inr (.inr (23, (some 0))), sJk] [.inl 0, .inr (.inr (23, (some 0)))] (sK 284 297 2122 [.inr (.inr (29, (some 0))), .inr (.inr (11, (some 0))), .inr (.inr (12, (some 0))), .inr (.inr (23, (some 0))), .inl 0, sJk, sJk] [] Qp))) := by
      refine x_istore (pc' := 59) (ls' := [_, _, _, _, _, _, _, _]) rfl rfl rfl rfl ?_
      refine x_iload (pc' := 61) rfl rfl rfl ?_
      refine x_sipush (pc' := 64) rfl rfl ?_
      refine x_icmp (a' := 84) (pc' := 67) (z := true) rfl rfl rfl (by decide) (fun _ => ?_) (fun h => by cases h)
      refine x_iinc (pc' := 87) (y := 1) (ls' := [_, _, _, _, _, _, _, _]) rfl rfl rfl rfl rfl ?_
      refine x_goto (pc' := 10) rfl rfl ?_
      refine x_iload (pc' := 12) rfl rfl rfl ?_
      refine x_iconst (pc' := 13) rfl rfl ?_
      refine x_icmp (a' := 90) (pc' := 16) (z := false) rfl rfl rfl (by decide) (fun h => by cases h) (fun _ => ?_)
      refine x_aload_n (pc' := 17) rfl rfl rfl rfl rfl ?_
      refine x_aload_n (pc' := 18) rfl rfl rfl rfl rfl ?_
      refine x_iload (pc' := 20) rfl rfl rfl ?_
      refine x_iload_n (pc' := 21) rfl rfl rfl ?_
      refine x_cv (ls0 := [_, _, _, _, sJk, sJk, sJk, sJk]) (rest := []) rfl rfl rfl rfl rfl ?_
      refine x_aload_n (pc' := 1) rfl rfl rfl rfl rfl ?_
      refine x_aload_n (pc' := 2) rfl rfl rfl rfl rfl ?_
      refine x_iload_n (pc' := 3) rfl rfl rfl ?_
      refine x_iconst (pc' := 4) rfl rfl ?_
      refine x_cv (ls0 := [_, _, _, _, sJk, sJk]) (rest := []) rfl rfl rfl rfl rfl ?_
      refine x_aload_n (pc' := 1) rfl rfl rfl rfl rfl ?_
      refine x_gI (pc' := 4) (x := 2) rfl rfl rfl (z_I_64_2 e) ?_
      refine x_iconst (pc' := 5) rfl rfl ?_
      refine x_imul (pc' := 6) (z := 6) rfl rfl (by decide) ?_
      refine x_iload_n (pc' := 7) rfl rfl rfl ?_
      refine x_iadd (pc' := 8) (z := 7) rfl rfl (by decide) ?_
      refine x_iconst (pc' := 9) rfl rfl ?_
      refine x_imul (pc' := 10) (z := 21) rfl rfl (by decide) ?_
      refine x_iload_n (pc' := 11) rfl rfl rfl ?_
      refine x_iadd (pc' := 12) (z := 21) rfl rfl (by decide) ?_
      refine x_istore (pc' := 14) (ls' := [_, _, _, _, _, _]) rfl rfl rfl rfl ?_
      refine x_iload_n (pc' := 15) rfl rfl rfl ?_
      refine x_if (a' := 36) (pc' := 18) (z := false) rfl rfl rfl (by decide) (fun h => by cases h) (fun _ => ?_)
      refine x_iload_n (pc' := 19) rfl rfl rfl ?_
      refine x_iconst (pc' := 20) rfl rfl ?_
      refine x_icmp (a' := 36) (pc' := 23) (z := false) rfl rfl rfl (by decide) (fun h => by cases h) (fun _ => ?_)
      refine x_iload_n (pc' := 24) rfl rfl rfl ?_
      refine x_if (a' := 36) (pc' := 27) (z := false) rfl rfl rfl (by decide) (fun h => by cases h) (fun _ => ?_)
      refine x_iload_n (pc' := 28) rfl rfl rfl ?_
      refine x_iconst (pc' := 29) rfl rfl ?_
      refine x_icmp (a' := 36) (pc' := 32) (z := false) rfl rfl rfl (by decide) (fun h => by cases h) (fun _ => ?_)
      refine x_iconst (pc' := 33) rfl rfl ?_
      refine x_goto (pc' := 37) rfl rfl ?_
      refine x_istore (pc' := 39) (ls' := [_, _, _, _, _, _]) rfl rfl rfl rfl ?_
      refine x_iload (pc' := 41) rfl rfl rfl ?_
      refine x_if (a' := 67) (pc' := 44) (z := false) rfl rfl rfl (by decide) (fun h => by cases h) (fun _ => ?_)
      refine x_iload (pc' := 46) rfl rfl rfl ?_
      refine x_if (a' := 67) (pc' := 49) (z := false) rfl rfl rfl (by decide) (fun h => by cases h) (fun _ => ?_)
      refine x_iload (pc' := 51) rfl rfl rfl ?_
      refine x_getstatic (pc' := 54) rfl rfl (show 0 < sC t 28 from z_st0 e) ?_
      refine x_alen (pc' := 55) (N := 45) rfl rfl rfl (z_N_28_0 e) (?_ : X _ _ _ (.inl 45 :: _) _ _)
      refine x_icmp (a' := 67) (pc' := 58) (z := false) rfl rfl rfl (by decide) (fun h => by cases h) (fun _ => ?_)
      refine x_getstatic (pc' := 61) rfl rfl (show 0 < sC t 28 from z_st0 e) ?_
      refine x_iload (pc' := 63) rfl rfl rfl ?_
      refine x_iald (pc' := 64) (N := 45) (x := (-5)) rfl rfl rfl (z_N_28_0 e) (io_in (p := 21) (N := 45) (by decide) (by decide)) (Eq.trans (congrArg (sA t 28 0) (nn_io (p := 21) (by decide))) (z_A_28_0_21 e)) ?_
      refine x_goto (pc' := 68) rfl rfl ?_
      refine x_reti rfl rfl ?_
      refine sK_i (pc' := 7) rfl ?_
      refine x_if (a' := 14) (pc' := 10) (z := true) rfl rfl rfl (by decide) (fun _ => ?_) (fun h => by cases h)
      refine x_iconst (pc' := 15) rfl rfl ?_
      refine x_istore (pc' := 17) (ls' := [_, _, _, _, _, _, _, _]) rfl rfl rfl rfl ?_
      refine x_iconst (pc' := 18) rfl rfl ?_
      refine x_istore (pc' := 20) (ls' := [_, _, _, _, _, _, _, _]) rfl rfl rfl rfl ?_
      refine x_iload (pc' := 22) rfl rfl rfl ?_
      refine x_iconst (pc' := 23) rfl rfl ?_
      refine x_icmp (a' := 89) (pc' := 26) (z := false) rfl rfl rfl (by decide) (fun h => by cases h) (fun _ => ?_)
      refine x_aload_n (pc' := 27) rfl rfl rfl rfl rfl ?_
      refine x_aload_n (pc' := 28) rfl rfl rfl rfl rfl ?_
      refine x_iload_n (pc' := 29) rfl rfl rfl ?_
      refine x_iload (pc' := 31) rfl rfl rfl ?_
      refine x_cv (ls0 := [_, _, _, _, sJk, sJk]) (rest := []) rfl rfl rfl rfl rfl ?_
      refine x_aload_n (pc' := 1) rfl rfl rfl rfl rfl ?_
      refine x_gI (pc' := 4) (x := 2) rfl rfl rfl (z_I_64_2 e) ?_
      refine x_iconst (pc' := 5) rfl rfl ?_
      refine x_imul (pc' := 6) (z := 6) rfl rfl (by decide) ?_
      refine x_iload_n (pc' := 7) rfl rfl rfl ?_
      refine x_iadd (pc' := 8) (z := 7) rfl rfl (by decide) ?_
      refine x_iconst (pc' := 9) rfl rfl ?_
      refine x_imul (pc' := 10) (z := 21) rfl rfl (by decide) ?_
      refine x_iload_n (pc' := 11) rfl rfl rfl ?_
      refine x_iadd (pc' := 12) (z := 21) rfl rfl (by decide) ?_
      refine x_istore (pc' := 14) (ls' := [_, _, _, _, _, _]) rfl rfl rfl rfl ?_
      refine x_iload_n (pc' := 15) rfl rfl rfl ?_
      refine x_if (a' := 36) (pc' := 18) (z := false) rfl rfl rfl (by decide) (fun h => by cases h) (fun _ => ?_)
      refine x_iload_n (pc' := 19) rfl rfl rfl ?_
      refine x_iconst (pc' := 20) rfl rfl ?_
      refine x_icmp (a' := 36) (pc' := 23) (z := false) rfl rfl rfl (by decide) (fun h => by cases h) (fun _ => ?_)
      refine x_iload_n (pc' := 24) rfl rfl rfl ?_
      refine x_if (a' := 36) (pc' := 27) (z := false) rfl rfl rfl (by decide) (fun h => by cases h) (fun _ => ?_)
      refine x_iload_n (pc' := 28) rfl rfl rfl ?_
      refine x_iconst (pc' := 29) rfl rfl ?_
      refine x_icmp (a' := 36) (pc' := 32) (z := false) rfl rfl rfl (by decide) (fun h => by cases h) (fun _ => ?_)
      refine x_iconst (pc' := 33) rfl rfl ?_
      refine x_goto (pc' := 37) rfl rfl ?_
      refine x_istore (pc' := 39) (ls' := [_, _, _, _, _, _]) rfl rfl rfl rfl ?_
      refine x_iload (pc' := 41) rfl rfl rfl ?_
      refine x_if (a' := 67) (pc' := 44) (z := false) rfl rfl rfl (by decide) (fun h => by cases h) (fun _ => ?_)
      refine x_iload (pc' := 46) rfl rfl rfl ?_
      refine x_if (a' := 67) (pc' := 49) (z := false) rfl rfl rfl (by decide) (fun h => by cases h) (fun _ => ?_)
      refine x_iload (pc' := 51) rfl rfl rfl ?_
      refine x_getstatic (pc' := 54) rfl rfl (show 0 < sC t 28 from z_st0 e) ?_
      refine x_alen (pc' := 55) (N := 45) rfl rfl rfl (z_N_28_0 e) (?_ : X _ _ _ (.inl 45 :: _) _ _)
      refine x_icmp (a' := 67) (pc' := 58) (z := false) rfl rfl rfl (by decide) (fun h => by cases h) (fun _ => ?_)
      refine x_getstatic (pc' := 61) rfl rfl (show 0 < sC t 28 from z_st0 e) ?_
      refine x_iload (pc' := 63) rfl rfl rfl ?_
      refine x_iald (pc' := 64) (N := 45) (x := (-5)) rfl rfl rfl (z_N_28_0 e) (io_in (p := 21) (N := 45) (by decide) (by decide)) (Eq.trans (congrArg (sA t 28 0) (nn_io (p := 21) (by decide))) (z_A_28_0_21 e)) ?_
      refine x_goto (pc' := 68) rfl rfl ?_
      refine x_reti rfl rfl ?_
      refine sK_i (pc' := 34) rfl ?_
      refine x_istore (pc' := 36) (ls' := [_, _, _, _, _, _, _, _]) rfl rfl rfl rfl ?_
      refine x_iload (pc' := 38) rfl rfl rfl ?_
      refine x_if (a' := 83) (pc' := 41) (z := false) rfl rfl rfl (by decide) (fun h => by cases h) (fun _ => ?_)
      refine x_aload_n (pc' := 42) rfl rfl rfl rfl rfl ?_
      refine x_iload (pc' := 44) rfl rfl rfl ?_
      refine x_iload_n (pc' := 45) rfl rfl rfl ?_
      refine x_cv (ls0 := [_, _, _, sJk]) (rest := []) rfl rfl rfl rfl rfl ?_
      refine x_iload_n (pc' := 1) rfl rfl rfl ?_
      refine x_abs (pc' := 4) (z := 5) rfl rfl rfl (by decide) ?_
      refine x_iconst (pc' := 5) rfl rfl ?_
      refine x_isub (pc' := 6) (z := 4) rfl rfl (by decide) ?_
      refine x_istore_n (pc' := 7) (ls' := [_, _, _, _]) rfl rfl rfl rfl ?_
      refine x_iload_n (pc' := 8) rfl rfl rfl ?_
      refine x_if (a' := 33) (pc' := 11) (z := false) rfl rfl rfl (by decide) (fun h => by cases h) (fun _ => ?_)
      refine x_iload_n (pc' := 12) rfl rfl rfl ?_
      refine x_aload_n (pc' := 13) rfl rfl rfl rfl rfl ?_
      refine x_gR (pc' := 16) (r := (some 0)) rfl rfl rfl (z_R_640_0 e) ?_
      refine x_alen (pc' := 17) (N := 5) rfl rfl rfl (z_N_24_0 e) (?_ : X _ _ _ (.inl 5 :: _) _ _)
      refine x_icmp (a' := 33) (pc' := 20) (z := false) rfl rfl rfl (by decide) (fun h => by cases h) (fun _ => ?_)
      refine x_aload_n (pc' := 21) rfl rfl rfl rfl rfl ?_
      refine x_gR (pc' := 24) (r := (some 0)) rfl rfl rfl (z_R_640_0 e) ?_
      refine x_iload_n (pc' := 25) rfl rfl rfl ?_
      refine x_aald (pc' := 26) (N := 5) (k' := 1) (r := (some 4)) rfl rfl rfl (z_N_24_0 e) (io_in (p := 4) (N := 5) (by decide) (by decide)) (Eq.trans (congrArg (sE t 24 0) (nn_io (p := 4) (by decide))) (z_E_24_0_4 e)) ?_
      refine x_gI (pc' := 29) (x := 0) rfl rfl rfl (z_I_67_4 e) ?_
      refine x_iconst (pc' := 30) rfl rfl ?_
      refine x_icmp (a' := 35) (pc' := 33) (z := false) rfl rfl rfl (by decide) (fun h => by cases h) (fun _ => ?_)
      refine x_null (pc' := 34) rfl rfl rfl ?_
      refine x_reta rfl rfl ?_
      refine sK_i (pc' := 48) rfl ?_
      refine x_astore (pc' := 50) (ls' := [_, _, _, _, _, _, _, _]) rfl rfl rfl rfl rfl ?_
      refine x_aload (pc' := 52) rfl rfl rfl rfl rfl ?_
      refine x_ifnonnull (a' := 59) (pc' := 55) rfl rfl rfl rfl (fun i h => by cases h) (fun _ => ?_)
      refine x_sipush (pc' := 58) rfl rfl ?_
      refine x_reti rfl rfl ?_
      refine sK_i (pc' := 24) rfl ?_
      refine x_istore (pc' := 26) (ls' := [_, _, _, _, _, _, _, _]) rfl rfl rfl rfl ?_
      refine x_iload_n (pc' := 27) rfl rfl rfl ?_
      have J58 : X 82 57 [.inr (.inr (10, (some 0))), .inr (.inr (1, (some 2))), .inl (bz (!(decide ((xs 2) = 0)))), .inl (-1), .inl (-10000), .inl 1, .inl (-10000), .inl 0] [.inl 0] t (sK 82 110 17 [.inr (.inr (11, (some 0))), .inl 2, .inl (bz (!(decide ((xs 2) = 0)))), .inr (.inr (1, (some 2)))] [.inr (.inr (1, (some 2))), .inr (.inr (10, (some 0)))] (sK 110 284 5 [.inr (.inr (11, (some 0))), .inl 2, .inl (bz (!(decide ((xs 2) = 0)))), .inr (.inr (23, (some 0))), sJk] [.inl 0, .inr (.inr (23, (some 0)))] (sK 284 297 2122 [.inr (.inr (29, (some 0))), .inr (.inr (11, (some 0))), .inr (.inr (12, (some 0))), .inr (.inr (23, (some 0))), .inl 0, sJk, sJk] [] Qp))) := by
        refine x_istore (pc' := 59) (ls' := [_, _, _, _, _, _, _, _]) rfl rfl rfl rfl ?_
        refine x_iload (pc' := 61) rfl rfl rfl ?_
        refine x_sipush (pc' := 64) rfl rfl ?_
        refine x_icmp (a' := 84) (pc' := 67) (z := true) rfl rfl rfl (by decide) (fun _ => ?_) (fun h => by cases h)
        refine x_iinc (pc' := 87) (y := 2) (ls' := [_, _, _, _, _, _, _, _]) rfl rfl rfl rfl rfl ?_
        refine x_goto (pc' := 10) rfl rfl ?_
        refine x_iload (pc' := 12) rfl rfl rfl ?_
        refine x_iconst (pc' := 13) rfl rfl ?_
        refine x_icmp (a' := 90) (pc' := 16) (z := false) rfl rfl rfl (by decide) (fun h => by cases h) (fun _ => ?_)
        refine x_aload_n (pc' := 17) rfl rfl rfl rfl rfl ?_
        refine x_aload_n (pc' := 18) rfl rfl rfl rfl rfl ?_
        refine x_iload (pc' := 20) rfl rfl rfl ?_
        refine x_iload_n (pc' := 21) rfl rfl rfl ?_
        refine x_cv (ls0 := [_, _, _, _, sJk, sJk, sJk, sJk]) (rest := []) rfl rfl rfl rfl rfl ?_
        refine x_aload_n (pc' := 1) rfl rfl rfl rfl rfl ?_
        refine x_aload_n (pc' := 2) rfl rfl rfl rfl rfl ?_
        refine x_iload_n (pc' := 3) rfl rfl rfl ?_
        refine x_iconst (pc' := 4) rfl rfl ?_
        refine x_cv (ls0 := [_, _, _, _, sJk, sJk]) (rest := []) rfl rfl rfl rfl rfl ?_
        refine x_aload_n (pc' := 1) rfl rfl rfl rfl rfl ?_
        refine x_gI (pc' := 4) (x := 2) rfl rfl rfl (z_I_64_2 e) ?_
        refine x_iconst (pc' := 5) rfl rfl ?_
        refine x_imul (pc' := 6) (z := 6) rfl rfl (by decide) ?_
        refine x_iload_n (pc' := 7) rfl rfl rfl ?_
        refine x_iadd (pc' := 8) (z := 8) rfl rfl (by decide) ?_
        refine x_iconst (pc' := 9) rfl rfl ?_
        refine x_imul (pc' := 10) (z := 24) rfl rfl (by decide) ?_
        refine x_iload_n (pc' := 11) rfl rfl rfl ?_
        refine x_iadd (pc' := 12) (z := 24) rfl rfl (by decide) ?_
        refine x_istore (pc' := 14) (ls' := [_, _, _, _, _, _]) rfl rfl rfl rfl ?_
        refine x_iload_n (pc' := 15) rfl rfl rfl ?_
        refine x_if (a' := 36) (pc' := 18) (z := false) rfl rfl rfl (by decide) (fun h => by cases h) (fun _ => ?_)
        refine x_iload_n (pc' := 19) rfl rfl rfl ?_
        refine x_iconst (pc' := 20) rfl rfl ?_
        refine x_icmp (a' := 36) (pc' := 23) (z := false) rfl rfl rfl (by decide) (fun h => by cases h) (fun _ => ?_)
        refine x_iload_n (pc' := 24) rfl rfl rfl ?_
        refine x_if (a' := 36) (pc' := 27) (z := false) rfl rfl rfl (by decide) (fun h => by cases h) (fun _ => ?_)
        refine x_iload_n (pc' := 28) rfl rfl rfl ?_
        refine x_iconst (pc' := 29) rfl rfl ?_
        refine x_icmp (a' := 36) (pc' := 32) (z := false) rfl rfl rfl (by decide) (fun h => by cases h) (fun _ => ?_)
        refine x_iconst (pc' := 33) rfl rfl ?_
        refine x_goto (pc' := 37) rfl rfl ?_
        refine x_istore (pc' := 39) (ls' := [_, _, _, _, _, _]) rfl rfl rfl rfl ?_
        refine x_iload (pc' := 41) rfl rfl rfl ?_
        refine x_if (a' := 67) (pc' := 44) (z := false) rfl rfl rfl (by decide) (fun h => by cases h) (fun _ => ?_)
        refine x_iload (pc' := 46) rfl rfl rfl ?_
        refine x_if (a' := 67) (pc' := 49) (z := false) rfl rfl rfl (by decide) (fun h => by cases h) (fun _ => ?_)
        refine x_iload (pc' := 51) rfl rfl rfl ?_
        refine x_getstatic (pc' := 54) rfl rfl (show 0 < sC t 28 from z_st0 e) ?_
        refine x_alen (pc' := 55) (N := 45) rfl rfl rfl (z_N_28_0 e) (?_ : X _ _ _ (.inl 45 :: _) _ _)
        refine x_icmp (a' := 67) (pc' := 58) (z := false) rfl rfl rfl (by decide) (fun h => by cases h) (fun _ => ?_)
        refine x_getstatic (pc' := 61) rfl rfl (show 0 < sC t 28 from z_st0 e) ?_
        refine x_iload (pc' := 63) rfl rfl rfl ?_
        refine x_iald (pc' := 64) (N := 45) (x := (-5)) rfl rfl rfl (z_N_28_0 e) (io_in (p := 24) (N := 45) (by decide) (by decide)) (Eq.trans (congrArg (sA t 28 0) (nn_io (p := 24) (by decide))) (z_A_28_0_24 e)) ?_
        refine x_goto (pc' := 68) rfl rfl ?_
        refine x_reti rfl rfl ?_
        refine sK_i (pc' := 7) rfl ?_
        refine x_if (a' := 14) (pc' := 10) (z := true) rfl rfl rfl (by decide) (fun _ => ?_) (fun h => by cases h)
        refine x_iconst (pc' := 15) rfl rfl ?_
        refine x_istore (pc' := 17) (ls' := [_, _, _, _, _, _, _, _]) rfl rfl rfl rfl ?_
        refine x_iconst (pc' := 18) rfl rfl ?_
        refine x_istore (pc' := 20) (ls' := [_, _, _, _, _, _, _, _]) rfl rfl rfl rfl ?_
        refine x_iload (pc' := 22) rfl rfl rfl ?_
        refine x_iconst (pc' := 23) rfl rfl ?_
        refine x_icmp (a' := 89) (pc' := 26) (z := false) rfl rfl rfl (by decide) (fun h => by cases h) (fun _ => ?_)
        refine x_aload_n (pc' := 27) rfl rfl rfl rfl rfl ?_
        refine x_aload_n (pc' := 28) rfl rfl rfl rfl rfl ?_
        refine x_iload_n (pc' := 29) rfl rfl rfl ?_
        refine x_iload (pc' := 31) rfl rfl rfl ?_
        refine x_cv (ls0 := [_, _, _, _, sJk, sJk]) (rest := []) rfl rfl rfl rfl rfl ?_
        refine x_aload_n (pc' := 1) rfl rfl rfl rfl rfl ?_
        refine x_gI (pc' := 4) (x := 2) rfl rfl rfl (z_I_64_2 e) ?_
        refine x_iconst (pc' := 5) rfl rfl ?_
        refine x_imul (pc' := 6) (z := 6) rfl rfl (by decide) ?_
        refine x_iload_n (pc' := 7) rfl rfl rfl ?_
        refine x_iadd (pc' := 8) (z := 8) rfl rfl (by decide) ?_
        refine x_iconst (pc' := 9) rfl rfl ?_
        refine x_imul (pc' := 10) (z := 24) rfl rfl (by decide) ?_
        refine x_iload_n (pc' := 11) rfl rfl rfl ?_
        refine x_iadd (pc' := 12) (z := 24) rfl rfl (by decide) ?_
        refine x_istore (pc' := 14) (ls' := [_, _, _, _, _, _]) rfl rfl rfl rfl ?_
        refine x_iload_n (pc' := 15) rfl rfl rfl ?_
        refine x_if (a' := 36) (pc' := 18) (z := false) rfl rfl rfl (by decide) (fun h => by cases h) (fun _ => ?_)
        refine x_iload_n (pc' := 19) rfl rfl rfl ?_
        refine x_iconst (pc' := 20) rfl rfl ?_
        refine x_icmp (a' := 36) (pc' := 23) (z := false) rfl rfl rfl (by decide) (fun h => by cases h) (fun _ => ?_)
        refine x_iload_n (pc' := 24) rfl rfl rfl ?_
        refine x_if (a' := 36) (pc' := 27) (z := false) rfl rfl rfl (by decide) (fun h => by cases h) (fun _ => ?_)
        refine x_iload_n (pc' := 28) rfl rfl rfl ?_
        refine x_iconst (pc' := 29) rfl rfl ?_
        refine x_icmp (a' := 36) (pc' := 32) (z := false) rfl rfl rfl (by decide) (fun h => by cases h) (fun _ => ?_)
        refine x_iconst (pc' := 33) rfl rfl ?_
        refine x_goto (pc' := 37) rfl rfl ?_
        refine x_istore (pc' := 39) (ls' := [_, _, _, _, _, _]) rfl rfl rfl rfl ?_
        refine x_iload (pc' := 41) rfl rfl rfl ?_
        refine x_if (a' := 67) (pc' := 44) (z := false) rfl rfl rfl (by decide) (fun h => by cases h) (fun _ => ?_)
        refine x_iload (pc' := 46) rfl rfl rfl ?_
        refine x_if (a' := 67) (pc' := 49) (z := false) rfl rfl rfl (by decide) (fun h => by cases h) (fun _ => ?_)
        refine x_iload (pc' := 51) rfl rfl rfl ?_
        refine x_getstatic (pc' := 54) rfl rfl (show 0 < sC t 28 from z_st0 e) ?_
        refine x_alen (pc' := 55) (N := 45) rfl rfl rfl (z_N_28_0 e) (?_ : X _ _ _ (.inl 45 :: _) _ _)
        refine x_icmp (a' := 67) (pc' := 58) (z := false) rfl rfl rfl (by decide) (fun h => by cases h) (fun _ => ?_)
        refine x_getstatic (pc' := 61) rfl rfl (show 0 < sC t 28 from z_st0 e) ?_
        refine x_iload (pc' := 63) rfl rfl rfl ?_
        refine x_iald (pc' := 64) (N := 45) (x := (-5)) rfl rfl rfl (z_N_28_0 e) (io_in (p := 24) (N := 45) (by decide) (by decide)) (Eq.trans (congrArg (sA t 28 0) (nn_io (p := 24) (by decide))) (z_A_28_0_24 e)) ?_
        refine x_goto (pc' := 68) rfl rfl ?_
        refine x_reti rfl rfl ?_
        refine sK_i (pc' := 34) rfl ?_
        refine x_istore (pc' := 36) (ls' := [_, _, _, _, _, _, _, _]) rfl rfl rfl rfl ?_
        refine x_iload (pc' := 38) rfl rfl rfl ?_
        refine x_if (a' := 83) (pc' := 41) (z := false) rfl rfl rfl (by decide) (fun h => by cases h) (fun _ => ?_)
        refine x_aload_n (pc' := 42) rfl rfl rfl rfl rfl ?_
        refine x_iload (pc' := 44) rfl rfl rfl ?_
        refine x_iload_n (pc' := 45) rfl rfl rfl ?_
        refine x_cv (ls0 := [_, _, _, sJk]) (rest := []) rfl rfl rfl rfl rfl ?_
        refine x_iload_n (pc' := 1) rfl rfl rfl ?_
        refine x_abs (pc' := 4) (z := 5) rfl rfl rfl (by decide) ?_
        refine x_iconst (pc' := 5) rfl rfl ?_
        refine x_isub (pc' := 6) (z := 4) rfl rfl (by decide) ?_
        refine x_istore_n (pc' := 7) (ls' := [_, _, _, _]) rfl rfl rfl rfl ?_
        refine x_iload_n (pc' := 8) rfl rfl rfl ?_
        refine x_if (a' := 33) (pc' := 11) (z := false) rfl rfl rfl (by decide) (fun h => by cases h) (fun _ => ?_)
        refine x_iload_n (pc' := 12) rfl rfl rfl ?_
        refine x_aload_n (pc' := 13) rfl rfl rfl rfl rfl ?_
        refine x_gR (pc' := 16) (r := (some 0)) rfl rfl rfl (z_R_640_0 e) ?_
        refine x_alen (pc' := 17) (N := 5) rfl rfl rfl (z_N_24_0 e) (?_ : X _ _ _ (.inl 5 :: _) _ _)
        refine x_icmp (a' := 33) (pc' := 20) (z := false) rfl rfl rfl (by decide) (fun h => by cases h) (fun _ => ?_)
        refine x_aload_n (pc' := 21) rfl rfl rfl rfl rfl ?_
        refine x_gR (pc' := 24) (r := (some 0)) rfl rfl rfl (z_R_640_0 e) ?_
        refine x_iload_n (pc' := 25) rfl rfl rfl ?_
        refine x_aald (pc' := 26) (N := 5) (k' := 1) (r := (some 4)) rfl rfl rfl (z_N_24_0 e) (io_in (p := 4) (N := 5) (by decide) (by decide)) (Eq.trans (congrArg (sE t 24 0) (nn_io (p := 4) (by decide))) (z_E_24_0_4 e)) ?_
        refine x_gI (pc' := 29) (x := 0) rfl rfl rfl (z_I_67_4 e) ?_
        refine x_iconst (pc' := 30) rfl rfl ?_
        refine x_icmp (a' := 35) (pc' := 33) (z := false) rfl rfl rfl (by decide) (fun h => by cases h) (fun _ => ?_)
        refine x_null (pc' := 34) rfl rfl rfl ?_
        refine x_reta rfl rfl ?_
        refine sK_i (pc' := 48) rfl ?_
        refine x_astore (pc' := 50) (ls' := [_, _, _, _, _, _, _, _]) rfl rfl rfl rfl rfl ?_
        refine x_aload (pc' := 52) rfl rfl rfl rfl rfl ?_
        refine x_ifnonnull (a' := 59) (pc' := 55) rfl rfl rfl rfl (fun i h => by cases h) (fun _ => ?_)
        refine x_sipush (pc' := 58) rfl rfl ?_
        refine x_reti rfl rfl ?_
        refine sK_i (pc' := 24) rfl ?_
        refine x_istore (pc' := 26) (ls' := [_, _, _, _, _, _, _, _]) rfl rfl rfl rfl ?_
        refine x_iload_n (pc' := 27) rfl rfl rfl ?_
        have J85 : X 82 57 [.inr (.inr (10, (some 0))), .inr (.inr (1, (some 2))), .inl (bz (!(decide ((xs 2) = 0)))), .inl (-1), .inl (-10000), .inl 2, .inl (-10000), .inl 0] [.inl 0] t (sK 82 110 17 [.inr (.inr (11, (some 0))), .inl 2, .inl (bz (!(decide ((xs 2) = 0)))), .inr (.inr (1, (some 2)))] [.inr (.inr (1, (some 2))), .inr (.inr (10, (some 0)))] (sK 110 284 5 [.inr (.inr (11, (some 0))), .inl 2, .inl (bz (!(decide ((xs 2) = 0)))), .inr (.inr (23, (some 0))), sJk] [.inl 0, .inr (.inr (23, (some 0)))] (sK 284 297 2122 [.inr (.inr (29, (some 0))), .inr (.inr (11, (some 0))), .inr (.inr (12, (some 0))), .inr (.inr (23, (some 0))), .inl 0, sJk, sJk] [] Qp))) := by
          refine x_istore (pc' := 59) (ls' := [_, _, _, _, _, _, _, _]) rfl rfl rfl rfl ?_
          refine x_iload (pc' := 61) rfl rfl rfl ?_
          refine x_sipush (pc' := 64) rfl rfl ?_
          refine x_icmp (a' := 84) (pc' := 67) (z := true) rfl rfl rfl (by decide) (fun _ => ?_) (fun h => by cases h)
          refine x_iinc (pc' := 87) (y := 3) (ls' := [_, _, _, _, _, _, _, _]) rfl rfl rfl rfl rfl ?_
          refine x_goto (pc' := 10) rfl rfl ?_
          refine x_iload (pc' := 12) rfl rfl rfl ?_
          refine x_iconst (pc' := 13) rfl rfl ?_
          refine x_icmp (a' := 90) (pc' := 16) (z := true) rfl rfl rfl (by decide) (fun _ => ?_) (fun h => by cases h)
          refine x_iload_n (pc' := 91) rfl rfl rfl ?_
          refine x_reti rfl rfl ?_
          refine sK_i (pc' := 20) rfl ?_
          refine x_iload_n (pc' := 21) rfl rfl rfl ?_
          refine x_cv (ls0 := [_, _, _, _, sJk, sJk, sJk, sJk]) (rest := []) rfl rfl rfl rfl rfl ?_
          refine x_aload_n (pc' := 1) rfl rfl rfl rfl rfl ?_
          refine x_aload_n (pc' := 2) rfl rfl rfl rfl rfl ?_
          refine x_iload_n (pc' := 3) rfl rfl rfl ?_
          refine x_iconst (pc' := 4) rfl rfl ?_
          refine x_cv (ls0 := [_, _, _, _, sJk, sJk]) (rest := []) rfl rfl rfl rfl rfl ?_
          refine x_aload_n (pc' := 1) rfl rfl rfl rfl rfl ?_
          refine x_gI (pc' := 4) (x := 2) rfl rfl rfl (z_I_64_2 e) ?_
          refine x_iconst (pc' := 5) rfl rfl ?_
          refine x_imul (pc' := 6) (z := 6) rfl rfl (by decide) ?_
          refine x_iload_n (pc' := 7) rfl rfl rfl ?_
          refine x_iadd (pc' := 8) (z := 5) rfl rfl (by decide) ?_
          refine x_iconst (pc' := 9) rfl rfl ?_
          refine x_imul (pc' := 10) (z := 15) rfl rfl (by decide) ?_
          refine x_iload_n (pc' := 11) rfl rfl rfl ?_
          refine x_iadd (pc' := 12) (z := 15) rfl rfl (by decide) ?_
          refine x_istore (pc' := 14) (ls' := [_, _, _, _, _, _]) rfl rfl rfl rfl ?_
          refine x_iload_n (pc' := 15) rfl rfl rfl ?_
          refine x_if (a' := 36) (pc' := 18) (z := true) rfl rfl rfl (by decide) (fun _ => ?_) (fun h => by cases h)
          refine x_iconst (pc' := 37) rfl rfl ?_
          refine x_istore (pc' := 39) (ls' := [_, _, _, _, _, _]) rfl rfl rfl rfl ?_
          refine x_iload (pc' := 41) rfl rfl rfl ?_
          refine x_if (a' := 67) (pc' := 44) (z := true) rfl rfl rfl (by decide) (fun _ => ?_) (fun h => by cases h)
          refine x_iconst (pc' := 68) rfl rfl ?_
          refine x_reti rfl rfl ?_
          refine sK_i (pc' := 7) rfl ?_
          refine x_if (a' := 14) (pc' := 10) (z := false) rfl rfl rfl (by decide) (fun h => by cases h) (fun _ => ?_)
          refine x_sipush (pc' := 13) rfl rfl ?_
          refine x_reti rfl rfl ?_
          refine sK_i (pc' := 24) rfl ?_
          refine x_reti rfl rfl ?_
          refine sK_i (pc' := 8) rfl ?_
          refine x_i2l (pc' := 9) (z := (-10000 : Int64)) rfl rfl (by decide) ?_
          refine x_last (pc' := 10) (N := 1) (p := 0) rfl rfl (z_N_23_0 e) (io_in (p := 0) (N := 1) (by decide) (by decide)) (nn_io (p := 0) (by decide)) ?_
          refine x_goto (pc' := 17) rfl rfl ?_
          refine x_iconst (pc' := 18) rfl rfl ?_
          refine x_reti rfl rfl ?_
          refine sK_i (pc' := 2125) rfl ?_
          exact k0
        refine x_ifeq_z (a' := 45) (pc' := 30) (z := (!(decide ((xs 2) = 0)))) rfl rfl rfl (fun q83 => ?_) (fun q83 => ?_)
        · refine x_iload (pc' := 47) rfl rfl rfl ?_
          refine x_iload (pc' := 49) rfl rfl rfl ?_
          refine x_icmp (a' := 56) (pc' := 52) (z := true) rfl rfl rfl (by decide) (fun _ => ?_) (fun h => by cases h)
          refine x_iconst (pc' := 57) rfl rfl ?_
          ((try rw [q83] at J85); (try rw [q83]); (try simp only [cd_t, cd_f, nt_t, nt_f, an_t, an_f, or_t, or_f] at J85); (try simp only [cd_t, cd_f, nt_t, nt_f, an_t, an_f, or_t, or_f]); exact J85)
        · refine x_iload (pc' := 32) rfl rfl rfl ?_
          refine x_iload (pc' := 34) rfl rfl rfl ?_
          refine x_icmp (a' := 41) (pc' := 37) (z := true) rfl rfl rfl (by decide) (fun _ => ?_) (fun h => by cases h)
          refine x_iconst (pc' := 42) rfl rfl ?_
          refine x_goto (pc' := 57) rfl rfl ?_
          ((try rw [q83] at J85); (try rw [q83]); (try simp only [cd_t, cd_f, nt_t, nt_f, an_t, an_f, or_t, or_f] at J85); (try simp only [cd_t, cd_f, nt_t, nt_f, an_t, an_f, or_t, or_f]); exact J85)
      refine x_ifeq_z (a' := 45) (pc' := 30) (z := (!(decide ((xs 2) = 0)))) rfl rfl rfl (fun q56 => ?_) (fun q56 => ?_)
      · refine x_iload (pc' := 47) rfl rfl rfl ?_
        refine x_iload (pc' := 49) rfl rfl rfl ?_
        refine x_icmp (a' := 56) (pc' := 52) (z := true) rfl rfl rfl (by decide) (fun _ => ?_) (fun h => by cases h)
        refine x_iconst (pc' := 57) rfl rfl ?_
        ((try rw [q56] at J58); (try rw [q56]); (try simp only [cd_t, cd_f, nt_t, nt_f, an_t, an_f, or_t, or_f] at J58); (try simp only [cd_t, cd_f, nt_t, nt_f, an_t, an_f, or_t, or_f]); exact J58)
      · refine x_iload (pc' := 32) rfl rfl rfl ?_
        refine x_iload (pc' := 34) rfl rfl rfl ?_
        refine x_icmp (a' := 41) (pc' := 37) (z := true) rfl rfl rfl (by decide) (fun _ => ?_) (fun h => by cases h)
        refine x_iconst (pc' := 42) rfl rfl ?_
        refine x_goto (pc' := 57) rfl rfl ?_
        ((try rw [q56] at J58); (try rw [q56]); (try simp only [cd_t, cd_f, nt_t, nt_f, an_t, an_f, or_t, or_f] at J58); (try simp only [cd_t, cd_f, nt_t, nt_f, an_t, an_f, or_t, or_f]); exact J58)
    refine x_ifeq_z (a' := 45) (pc' := 30) (z := (!(decide ((xs 2) = 0)))) rfl rfl rfl (fun q29 => ?_) (fun q29 => ?_)
    · refine x_iload (pc' := 47) rfl rfl rfl ?_
      refine x_iload (pc' := 49) rfl rfl rfl ?_
      refine x_icmp (a' := 56) (pc' := 52) (z := true) rfl rfl rfl (by decide) (fun _ => ?_) (fun h => by cases h)
      refine x_iconst (pc' := 57) rfl rfl ?_
      ((try rw [q29] at J31); (try rw [q29]); (try simp only [cd_t, cd_f, nt_t, nt_f, an_t, an_f, or_t, or_f] at J31); (try simp only [cd_t, cd_f, nt_t, nt_f, an_t, an_f, or_t, or_f]); exact J31)
    · refine x_iload (pc' := 32) rfl rfl rfl ?_
      refine x_iload (pc' := 34) rfl rfl rfl ?_
      refine x_icmp (a' := 41) (pc' := 37) (z := true) rfl rfl rfl (by decide) (fun _ => ?_) (fun h => by cases h)
      refine x_iconst (pc' := 42) rfl rfl ?_
      refine x_goto (pc' := 57) rfl rfl ?_
      ((try rw [q29] at J31); (try rw [q29]); (try simp only [cd_t, cd_f, nt_t, nt_f, an_t, an_f, or_t, or_f] at J31); (try simp only [cd_t, cd_f, nt_t, nt_f, an_t, an_f, or_t, or_f]); exact J31)
  refine x_if (a' := 2120) (pc' := 2116) (z := decide ((xs 2) = 0)) rfl rfl rfl rfl (fun q3 => ?_) (fun q3 => ?_)
  · refine x_iconst (pc' := 2121) rfl rfl ?_
    ((try rw [q3] at J3); (try rw [q3]); (try simp only [cd_t, cd_f, nt_t, nt_f, an_t, an_f, or_t, or_f] at J3); (try simp only [cd_t, cd_f, nt_t, nt_f, an_t, an_f, or_t, or_f]); exact J3)
  · refine x_iconst (pc' := 2117) rfl rfl ?_
    refine x_goto (pc' := 2121) rfl rfl ?_
    ((try rw [q3] at J3); (try rw [q3]); (try simp only [cd_t, cd_f, nt_t, nt_f, an_t, an_f, or_t, or_f] at J3); (try simp only [cd_t, cd_f, nt_t, nt_f, an_t, an_f, or_t, or_f]); exact J3)
set_option maxHeartbeats 4000000 in
set_option maxRecDepth 10000 in
theorem v_26_3_i_2 {t : sT} {xs : Nat → Int32}
    (e : t = T16 7 xs)
    (hk : ((xs 0) &&& 63) = 26)
    (e0 : xs 1 = 3) :
    X 297 2125 [.inr (.inr (29, (some 0))), .inr (.inr (11, (some 0))), .inr (.inr (12, (some 0))), .inr (.inr (23, (some 0))), .inl 0, sJk, sJk] [.inl 0] (sLw t 23 0 0 (-10000 : Int64)) Qp := by
  refine x_istore (pc' := 2127) (ls' := [_, _, _, _, _, _, _]) rfl rfl rfl rfl ?_
  refine x_aload_n (pc' := 2128) rfl rfl rfl rfl rfl ?_
  refine x_aload_n (pc' := 2129) rfl rfl rfl rfl rfl ?_
  refine x_iload (pc' := 2131) rfl rfl rfl ?_
  refine x_iconst (pc' := 2132) rfl rfl ?_
  refine x_iadd (pc' := 2133) (z := 1) rfl rfl (by decide) ?_
  refine x_iald (pc' := 2134) (N := 7) (x := 3) rfl rfl rfl (Eq.trans rdNL (z_N_29_0 e)) (io_in (p := 1) (N := 7) (by decide) (by decide)) (Eq.trans (congrArg (sA (sLw t 23 0 0 (-10000 : Int64)) 29 0) (nn_io (p := 1) (by decide))) (Eq.trans rdAL (Eq.trans (z_A_29_0_1 e) e0))) ?_
  refine x_aload_n (pc' := 2135) rfl rfl rfl rfl rfl ?_
  refine x_iload (pc' := 2137) rfl rfl rfl ?_
  refine x_iconst (pc' := 2138) rfl rfl ?_
  refine x_iadd (pc' := 2139) (z := 2) rfl rfl (by decide) ?_
  refine x_iald (pc' := 2140) (N := 7) (x := (xs 2)) rfl rfl rfl (Eq.trans rdNL (z_N_29_0 e)) (io_in (p := 2) (N := 7) (by decide) (by decide)) (Eq.trans (congrArg (sA (sLw t 23 0 0 (-10000 : Int64)) 29 0) (nn_io (p := 2) (by decide))) (Eq.trans rdAL (z_A_29_0_2 e))) ?_
  have J5001 : X 297 2148 [.inr (.inr (29, (some 0))), .inr (.inr (11, (some 0))), .inr (.inr (12, (some 0))), .inr (.inr (23, (some 0))), .inl 0, .inl 0, sJk] [.inl (bz (!(decide ((xs 2) = 0)))), .inl 3, .inr (.inr (12, (some 0)))] (sLw t 23 0 0 (-10000 : Int64)) Qp := by
    refine x_cv (ls0 := [_, _, _, sJk]) (rest := []) rfl rfl rfl rfl rfl ?_
    refine x_aload_n (pc' := 1) rfl rfl rfl rfl rfl ?_
    refine x_iload_n (pc' := 2) rfl rfl rfl ?_
    refine x_cs (ls0 := [_]) (rest := [_]) rfl rfl rfl rfl ?_
    refine x_iload_n (pc' := 1) rfl rfl rfl ?_
    refine x_iconst (pc' := 2) rfl rfl ?_
    refine x_iconst (pc' := 3) rfl rfl ?_
    refine x_cs (ls0 := [_, _, _]) (rest := []) rfl rfl rfl rfl ?_
    refine x_iload_n (pc' := 1) rfl rfl rfl ?_
    refine x_iload_n (pc' := 2) rfl rfl rfl ?_
    refine x_icmp (a' := 14) (pc' := 5) (z := false) rfl rfl rfl (by decide) (fun h => by cases h) (fun _ => ?_)
    refine x_iload_n (pc' := 6) rfl rfl rfl ?_
    refine x_iload_n (pc' := 7) rfl rfl rfl ?_
    refine x_icmp (a' := 14) (pc' := 10) (z := false) rfl rfl rfl (by decide) (fun h => by cases h) (fun _ => ?_)
    refine x_iconst (pc' := 11) rfl rfl ?_
    refine x_goto (pc' := 15) rfl rfl ?_
    refine x_retz (z := true) rfl rfl ?_
    refine sK_i (pc' := 6) rfl ?_
    refine x_retz (z := true) rfl rfl ?_
    refine sK_i (pc' := 5) rfl ?_
    refine x_if (a' := 12) (pc' := 8) (z := false) rfl rfl rfl (by decide) (fun h => by cases h) (fun _ => ?_)
    refine x_iconst (pc' := 9) rfl rfl ?_
    refine x_goto (pc' := 13) rfl rfl ?_
    refine x_cv (ls0 := [_, _]) (rest := []) rfl rfl rfl rfl rfl ?_
    refine x_aload_n (pc' := 1) rfl rfl rfl rfl rfl ?_
    refine x_iload_n (pc' := 2) rfl rfl rfl ?_
    refine x_pI (pc' := 5) rfl rfl rfl ?_
    refine x_iload_n (pc' := 6) rfl rfl rfl ?_
    refine x_if (a' := 13) (pc' := 9) (z := false) rfl rfl rfl (by decide) (fun h => by cases h) (fun _ => ?_)
    refine x_iconst (pc' := 10) rfl rfl ?_
    refine x_goto (pc' := 14) rfl rfl ?_
    refine x_retz (z := true) rfl rfl ?_
    refine sK_i (pc' := 16) rfl ?_
    refine x_if (a' := 21) (pc' := 19) (z := true) rfl rfl rfl (by decide) (fun _ => ?_) (fun h => by cases h)
    refine x_aload_n (pc' := 22) rfl rfl rfl rfl rfl ?_
    refine x_iload_n (pc' := 23) rfl rfl rfl ?_
    refine x_iload_n (pc' := 24) rfl rfl rfl ?_
    refine x_cv (ls0 := [_, _, _, sJk, sJk, sJk, sJk, sJk]) (rest := []) rfl rfl rfl rfl rfl ?_
    refine x_iconst (pc' := 1) rfl rfl ?_
    refine x_istore_n (pc' := 2) (ls' := [_, _, _, _, _, _, _, _]) rfl rfl rfl rfl ?_
    refine x_iconst (pc' := 3) rfl rfl ?_
    refine x_istore (pc' := 5) (ls' := [_, _, _, _, _, _, _, _]) rfl rfl rfl rfl ?_
    refine x_iconst (pc' := 6) rfl rfl ?_
    refine x_istore (pc' := 8) (ls' := [_, _, _, _, _, _, _, _]) rfl rfl rfl rfl ?_
    refine x_iload (pc' := 10) rfl rfl rfl ?_
    refine x_iconst (pc' := 11) rfl rfl ?_
    refine x_icmp (a' := 99) (pc' := 14) (z := false) rfl rfl rfl (by decide) (fun h => by cases h) (fun _ => ?_)
    refine x_aload_n (pc' := 15) rfl rfl rfl rfl rfl ?_
    refine x_iload_n (pc' := 16) rfl rfl rfl ?_
    refine x_iload_n (pc' := 17) rfl rfl rfl ?_
    refine x_iload (pc' := 19) rfl rfl rfl ?_
    refine x_cv (ls0 := [_, _, _, _, sJk, sJk, sJk]) (rest := []) rfl rfl rfl rfl rfl ?_
    refine x_iload_n (pc' := 1) rfl rfl rfl ?_
    refine x_iload_n (pc' := 2) rfl rfl rfl ?_
    refine x_iconst (pc' := 3) rfl rfl ?_
    refine x_cs (ls0 := [_, _, _, sJk, sJk, sJk]) (rest := []) rfl rfl rfl rfl ?_
    refine x_getstatic (pc' := 3) rfl rfl (show 1 < sC t 28 from z_st1 e) ?_
    refine x_iconst (pc' := 4) rfl rfl ?_
    refine x_iload_n (pc' := 5) rfl rfl rfl ?_
    refine x_imul (pc' := 6) (z := 9) rfl rfl (by decide) ?_
    refine x_iload_n (pc' := 7) rfl rfl rfl ?_
    refine x_iadd (pc' := 8) (z := 9) rfl rfl (by decide) ?_
    refine x_iald (pc' := 9) (N := 15) (x := 4) rfl rfl rfl (Eq.trans rdNI (Eq.trans rdNL (z_N_28_1 e))) (io_in (p := 9) (N := 15) (by decide) (by decide)) (Eq.trans (congrArg (sA (sIw (sLw t 23 0 0 (-10000 : Int64)) 768 0 0) 28 1) (nn_io (p := 9) (by decide))) (Eq.trans rdAI (Eq.trans rdAL (z_A_28_1_9 e)))) ?_
    refine x_istore_n (pc' := 10) (ls' := [_, _, _, _, _, _]) rfl rfl rfl rfl ?_
    refine x_iload_n (pc' := 11) rfl rfl rfl ?_
    refine x_bipush (pc' := 13) rfl rfl ?_
    refine x_icmp (a' := 20) (pc' := 16) (z := true) rfl rfl rfl (by decide) (fun _ => ?_) (fun h => by cases h)
    refine x_iload_n (pc' := 21) rfl rfl rfl ?_
    refine x_bipush (pc' := 23) rfl rfl ?_
    refine x_icmp (a' := 30) (pc' := 26) (z := true) rfl rfl rfl (by decide) (fun _ => ?_) (fun h => by cases h)
    refine x_iload_n (pc' := 31) rfl rfl rfl ?_
    refine x_if (a' := 38) (pc' := 34) (z := false) rfl rfl rfl (by decide) (fun h => by cases h) (fun _ => ?_)
    refine x_iconst (pc' := 35) rfl rfl ?_
    refine x_goto (pc' := 39) rfl rfl ?_
    refine x_istore (pc' := 41) (ls' := [_, _, _, _, _, _]) rfl rfl rfl rfl ?_
    refine x_iload (pc' := 43) rfl rfl rfl ?_
    refine x_iload_n (pc' := 44) rfl rfl rfl ?_
    refine x_isub (pc' := 45) (z := 1) rfl rfl (by decide) ?_
    refine x_istore (pc' := 47) (ls' := [_, _, _, _, _, _]) rfl rfl rfl rfl ?_
    refine x_iload (pc' := 49) rfl rfl rfl ?_
    refine x_if (a' := 56) (pc' := 52) (z := true) rfl rfl rfl (by decide) (fun _ => ?_) (fun h => by cases h)
    refine x_iload (pc' := 58) rfl rfl rfl ?_
    refine x_iconst (pc' := 59) rfl rfl ?_
    refine x_icmp (a' := 69) (pc' := 62) (z := true) rfl rfl rfl (by decide) (fun _ => ?_) (fun h => by cases h)
    refine x_iload (pc' := 71) rfl rfl rfl ?_
    refine x_iconst (pc' := 72) rfl rfl ?_
    refine x_icmp (a' := 85) (pc' := 75) (z := true) rfl rfl rfl (by decide) (fun _ => ?_) (fun h => by cases h)
    refine x_iload_n (pc' := 86) rfl rfl rfl ?_
    refine x_bipush (pc' := 88) rfl rfl ?_
    refine x_irem (pc' := 89) (z := 4) rfl rfl (by decide) (by decide +kernel) ?_
    refine x_iconst (pc' := 90) rfl rfl ?_
    refine x_isub (pc' := 91) (z := 3) rfl rfl (by decide) ?_
    refine x_reti rfl rfl ?_
    refine sK_i (pc' := 6) rfl ?_
    refine x_iconst (pc' := 7) rfl rfl ?_
    refine x_icmp (a' := 14) (pc' := 10) (z := false) rfl rfl rfl (by decide) (fun h => by cases h) (fun _ => ?_)
    refine x_iconst (pc' := 11) rfl rfl ?_
    refine x_goto (pc' := 15) rfl rfl ?_
    refine x_istore (pc' := 17) (ls' := [_, _, _, _, _, _, _]) rfl rfl rfl rfl ?_
    refine x_aload_n (pc' := 18) rfl rfl rfl rfl rfl ?_
    refine x_iconst (pc' := 19) rfl rfl ?_
    refine x_pI (pc' := 22) rfl rfl rfl ?_
    refine x_iconst (pc' := 23) rfl rfl ?_
    refine x_istore (pc' := 25) (ls' := [_, _, _, _, _, _, _]) rfl rfl rfl rfl ?_
    refine x_iload (pc' := 27) rfl rfl rfl ?_
    refine x_iconst (pc' := 28) rfl rfl ?_
    refine x_icmp (a' := 129) (pc' := 31) (z := false) rfl rfl rfl (by decide) (fun h => by cases h) (fun _ => ?_)
    refine x_iload (pc' := 33) rfl rfl rfl ?_
    refine x_if (a' := 129) (pc' := 36) (z := false) rfl rfl rfl (by decide) (fun h => by cases h) (fun _ => ?_)
    refine x_iload_n (pc' := 37) rfl rfl rfl ?_
    refine x_iload_n (pc' := 38) rfl rfl rfl ?_
    refine x_iload (pc' := 40) rfl rfl rfl ?_
    refine x_cs (ls0 := [_, _, _, sJk, sJk, sJk]) (rest := []) rfl rfl rfl rfl ?_
    refine x_getstatic (pc' := 3) rfl rfl (show 1 < sC t 28 from z_st1 e) ?_
    refine x_iconst (pc' := 4) rfl rfl ?_
    refine x_iload_n (pc' := 5) rfl rfl rfl ?_
    refine x_imul (pc' := 6) (z := 9) rfl rfl (by decide) ?_
    refine x_iload_n (pc' := 7) rfl rfl rfl ?_
    refine x_iadd (pc' := 8) (z := 9) rfl rfl (by decide) ?_
    refine x_iald (pc' := 9) (N := 15) (x := 4) rfl rfl rfl (Eq.trans rdNI (Eq.trans rdNI (Eq.trans rdNL (z_N_28_1 e)))) (io_in (p := 9) (N := 15) (by decide) (by decide)) (Eq.trans (congrArg (sA (sIw (sIw (sLw t 23 0 0 (-10000 : Int64)) 768 0 0) 811 0 0) 28 1) (nn_io (p := 9) (by decide))) (Eq.trans rdAI (Eq.trans rdAI (Eq.trans rdAL (z_A_28_1_9 e))))) ?_
    refine x_istore_n (pc' := 10) (ls' := [_, _, _, _, _, _]) rfl rfl rfl rfl ?_
    refine x_iload_n (pc' := 11) rfl rfl rfl ?_
    refine x_bipush (pc' := 13) rfl rfl ?_
    refine x_icmp (a' := 20) (pc' := 16) (z := true) rfl rfl rfl (by decide) (fun _ => ?_) (fun h => by cases h)
    refine x_iload_n (pc' := 21) rfl rfl rfl ?_
    refine x_bipush (pc' := 23) rfl rfl ?_
    refine x_icmp (a' := 30) (pc' := 26) (z := true) rfl rfl rfl (by decide) (fun _ => ?_) (fun h => by cases h)
    refine x_iload_n (pc' := 31) rfl rfl rfl ?_
    refine x_if (a' := 38) (pc' := 34) (z := false) rfl rfl rfl (by decide) (fun h => by cases h) (fun _ => ?_)
    refine x_iconst (pc' := 35) rfl rfl ?_
    refine x_goto (pc' := 39) rfl rfl ?_
    refine x_istore (pc' := 41) (ls' := [_, _, _, _, _, _]) rfl rfl rfl rfl ?_
    refine x_iload (pc' := 43) rfl rfl rfl ?_
    refine x_iload_n (pc' := 44) rfl rfl rfl ?_
    refine x_isub (pc' := 45) (z := 1) rfl rfl (by decide) ?_
    refine x_istore (pc' := 47) (ls' := [_, _, _, _, _, _]) rfl rfl rfl rfl ?_
    refine x_iload (pc' := 49) rfl rfl rfl ?_
    refine x_if (a' := 56) (pc' := 52) (z := true) rfl rfl rfl (by decide) (fun _ => ?_) (fun h => by cases h)
    refine x_iload (pc' := 58) rfl rfl rfl ?_
    refine x_iconst (pc' := 59) rfl rfl ?_
    refine x_icmp (a' := 69) (pc' := 62) (z := true) rfl rfl rfl (by decide) (fun _ => ?_) (fun h => by cases h)
    refine x_iload (pc' := 71) rfl rfl rfl ?_
    refine x_iconst (pc' := 72) rfl rfl ?_
    refine x_icmp (a' := 85) (pc' := 75) (z := true) rfl rfl rfl (by decide) (fun _ => ?_) (fun h => by cases h)
    refine x_iload_n (pc' := 86) rfl rfl rfl ?_
    refine x_bipush (pc' := 88) rfl rfl ?_
    refine x_irem (pc' := 89) (z := 4) rfl rfl (by decide) (by decide +kernel) ?_
    refine x_iconst (pc' := 90) rfl rfl ?_
    refine x_isub (pc' := 91) (z := 3) rfl rfl (by decide) ?_
    refine x_reti rfl rfl ?_
    refine sK_i (pc' := 43) rfl ?_
    refine x_istore (pc' := 45) (ls' := [_, _, _, _, _, _, _]) rfl rfl rfl rfl ?_
    refine x_iload (pc' := 47) rfl rfl rfl ?_
    refine x_iconst (pc' := 48) rfl rfl ?_
    refine x_icmp (a' := 123) (pc' := 51) (z := false) rfl rfl rfl (by decide) (fun h => by cases h) (fun _ => ?_)
    refine x_aload_n (pc' := 52) rfl rfl rfl rfl rfl ?_
    refine x_gR (pc' := 55) (r := (some 27)) rfl rfl rfl (Eq.trans rdRI (Eq.trans rdRI (Eq.trans rdRL (z_R_809_0 e)))) ?_
    refine x_aload_n (pc' := 56) rfl rfl rfl rfl rfl ?_
    refine x_gI (pc' := 59) (x := 0) rfl rfl rfl sI_s ?_
    refine x_aload_n (pc' := 60) rfl rfl rfl rfl rfl ?_
    refine x_iload (pc' := 62) rfl rfl rfl ?_
    refine x_iload_n (pc' := 63) rfl rfl rfl ?_
    refine x_iload_n (pc' := 64) rfl rfl rfl ?_
    refine x_iload (pc' := 66) rfl rfl rfl ?_
    refine x_cs (ls0 := [_, _, _, sJk]) (rest := [_, _, _, _]) rfl rfl rfl rfl ?_
    refine x_iload_n (pc' := 1) rfl rfl rfl ?_
    refine x_iload_n (pc' := 2) rfl rfl rfl ?_
    refine x_iload_n (pc' := 3) rfl rfl rfl ?_
    refine x_cs (ls0 := [_, _, _, sJk, sJk, sJk]) (rest := []) rfl rfl rfl rfl ?_
    refine x_getstatic (pc' := 3) rfl rfl (show 1 < sC t 28 from z_st1 e) ?_
    refine x_iconst (pc' := 4) rfl rfl ?_
    refine x_iload_n (pc' := 5) rfl rfl rfl ?_
    refine x_imul (pc' := 6) (z := 9) rfl rfl (by decide) ?_
    refine x_iload_n (pc' := 7) rfl rfl rfl ?_
    refine x_iadd (pc' := 8) (z := 9) rfl rfl (by decide) ?_
    refine x_iald (pc' := 9) (N := 15) (x := 4) rfl rfl rfl (Eq.trans rdNI (Eq.trans rdNI (Eq.trans rdNL (z_N_28_1 e)))) (io_in (p := 9) (N := 15) (by decide) (by decide)) (Eq.trans (congrArg (sA (sIw (sIw (sLw t 23 0 0 (-10000 : Int64)) 768 0 0) 811 0 0) 28 1) (nn_io (p := 9) (by decide))) (Eq.trans rdAI (Eq.trans rdAI (Eq.trans rdAL (z_A_28_1_9 e))))) ?_
    refine x_istore_n (pc' := 10) (ls' := [_, _, _, _, _, _]) rfl rfl rfl rfl ?_
    refine x_iload_n (pc' := 11) rfl rfl rfl ?_
    refine x_bipush (pc' := 13) rfl rfl ?_
    refine x_icmp (a' := 20) (pc' := 16) (z := true) rfl rfl rfl (by decide) (fun _ => ?_) (fun h => by cases h)
    refine x_iload_n (pc' := 21) rfl rfl rfl ?_
    refine x_bipush (pc' := 23) rfl rfl ?_
    refine x_icmp (a' := 30) (pc' := 26) (z := true) rfl rfl rfl (by decide) (fun _ => ?_) (fun h => by cases h)
    refine x_iload_n (pc' := 31) rfl rfl rfl ?_
    refine x_if (a' := 38) (pc' := 34) (z := false) rfl rfl rfl (by decide) (fun h => by cases h) (fun _ => ?_)
    refine x_iconst (pc' := 35) rfl rfl ?_
    refine x_goto (pc' := 39) rfl rfl ?_
    refine x_istore (pc' := 41) (ls' := [_, _, _, _, _, _]) rfl rfl rfl rfl ?_
    refine x_iload (pc' := 43) rfl rfl rfl ?_
    refine x_iload_n (pc' := 44) rfl rfl rfl ?_
    refine x_isub (pc' := 45) (z := 1) rfl rfl (by decide) ?_
    refine x_istore (pc' := 47) (ls' := [_, _, _, _, _, _]) rfl rfl rfl rfl ?_
    refine x_iload (pc' := 49) rfl rfl rfl ?_
    refine x_if (a' := 56) (pc' := 52) (z := true) rfl rfl rfl (by decide) (fun _ => ?_) (fun h => by cases h)
    refine x_iload (pc' := 58) rfl rfl rfl ?_
    refine x_iconst (pc' := 59) rfl rfl ?_
    refine x_icmp (a' := 69) (pc' := 62) (z := true) rfl rfl rfl (by decide) (fun _ => ?_) (fun h => by cases h)
    refine x_iload (pc' := 71) rfl rfl rfl ?_
    refine x_iconst (pc' := 72) rfl rfl ?_
    refine x_icmp (a' := 85) (pc' := 75) (z := true) rfl rfl rfl (by decide) (fun _ => ?_) (fun h => by cases h)
    refine x_iload_n (pc' := 86) rfl rfl rfl ?_
    refine x_bipush (pc' := 88) rfl rfl ?_
    refine x_irem (pc' := 89) (z := 4) rfl rfl (by decide) (by decide +kernel) ?_
    refine x_iconst (pc' := 90) rfl rfl ?_
    refine x_isub (pc' := 91) (z := 3) rfl rfl (by decide) ?_
    refine x_reti rfl rfl ?_
    refine sK_i (pc' := 6) rfl ?_
    refine x_istore_n (pc' := 7) (ls' := [_, _, _, _]) rfl rfl rfl rfl ?_
    refine x_iload_n (pc' := 8) rfl rfl rfl ?_
    refine x_iconst (pc' := 9) rfl rfl ?_
    refine x_icmp (a' := 31) (pc' := 12) (z := true) rfl rfl rfl (by decide) (fun _ => ?_) (fun h => by cases h)
    refine x_iload_n (pc' := 32) rfl rfl rfl ?_
    refine x_iconst (pc' := 33) rfl rfl ?_
    refine x_icmp (a' := 45) (pc' := 36) (z := true) rfl rfl rfl (by decide) (fun _ => ?_) (fun h => by cases h)
    refine x_iconst (pc' := 46) rfl rfl ?_
    refine x_retz (z := false) rfl rfl ?_
    refine sK_i (pc' := 69) rfl ?_
    refine x_iload_n (pc' := 70) rfl rfl rfl ?_
    have J5033 : X 159 78 [.inr (.inr (12, (some 0))), .inl 3, .inl (bz (!(decide ((xs 2) = 0)))), .inl 0, .inl 1, .inl 0, .inl 3] [.inl (bz (!(xor false (!(decide ((xs 2) = 0)))))), .inl 3, .inr (.inr (12, (some 0))), .inl 0, .inr (.inr (21, (some 27)))] (sIw (sIw (sLw t 23 0 0 (-10000 : Int64)) 768 0 0) 811 0 0) (sK 159 161 19 [.inr (.inr (12, (some 0))), .inl 3, .inl (bz (!(decide ((xs 2) = 0)))), .inl (-1), .inl 0, .inl 0, sJk, sJk] [] (sK 161 228 24 [.inr (.inr (12, (some 0))), .inl 3, .inl (bz (!(decide ((xs 2) = 0)))), sJk] [] (sK 228 297 2148 [.inr (.inr (29, (some 0))), .inr (.inr (11, (some 0))), .inr (.inr (12, (some 0))), .inr (.inr (23, (some 0))), .inl 0, .inl 0, sJk] [] Qp))) := by
      refine x_cv (ls0 := [_, _, _, sJk, sJk, sJk]) (rest := [_, _]) rfl rfl rfl rfl rfl ?_
      refine x_iconst (pc' := 1) rfl rfl ?_
      refine x_istore_n (pc' := 2) (ls' := [_, _, _, _, _, _]) rfl rfl rfl rfl ?_
      refine x_iconst (pc' := 3) rfl rfl ?_
      refine x_istore (pc' := 5) (ls' := [_, _, _, _, _, _]) rfl rfl rfl rfl ?_
      refine x_iload (pc' := 7) rfl rfl rfl ?_
      refine x_aload_n (pc' := 8) rfl rfl rfl rfl rfl ?_
      refine x_gI (pc' := 11) (x := 0) rfl rfl rfl (Eq.trans (rdI_F rfl) (Eq.trans (rdI_F rfl) (Eq.trans rdIL (z_I_786_0 e)))) ?_
      refine x_icmp (a' := 87) (pc' := 14) (z := true) rfl rfl rfl (by decide) (fun _ => ?_) (fun h => by cases h)
      refine x_iload_n (pc' := 88) rfl rfl rfl ?_
      refine x_reti rfl rfl ?_
      refine sK_i (pc' := 81) rfl ?_
      refine x_iast (pc' := 82) (N := 200) (p := 0) rfl rfl rfl (Eq.trans rdNI (Eq.trans rdNI (Eq.trans rdNL (z_N_21_27 e)))) (io_in (p := 0) (N := 200) (by decide) (by decide)) (nn_io (p := 0) (by decide)) ?_
      refine x_aload_n (pc' := 83) rfl rfl rfl rfl rfl ?_
      refine x_gR (pc' := 86) (r := (some 0)) rfl rfl rfl (Eq.trans rdRA (Eq.trans rdRI (Eq.trans rdRI (Eq.trans rdRL (z_R_769_0 e))))) ?_
      refine x_iload (pc' := 88) rfl rfl rfl ?_
      refine x_iald (pc' := 89) (N := 5) (x := 0) rfl rfl rfl (Eq.trans rdNA (Eq.trans rdNI (Eq.trans rdNI (Eq.trans rdNL (z_N_21_0 e))))) (io_in (p := 3) (N := 5) (by decide) (by decide)) (Eq.trans (congrArg (sA (sAw (sIw (sIw (sLw t 23 0 0 (-10000 : Int64)) 768 0 0) 811 0 0) 21 27 0 (-1)) 21 0) (nn_io (p := 3) (by decide))) (Eq.trans (rdA_o rfl) (Eq.trans rdAI (Eq.trans rdAI (Eq.trans rdAL (z_A_21_0_3 e)))))) ?_
      refine x_iconst (pc' := 90) rfl rfl ?_
      refine x_icmp (a' := 110) (pc' := 93) (z := true) rfl rfl rfl (by decide) (fun _ => ?_) (fun h => by cases h)
      refine x_iconst (pc' := 111) rfl rfl ?_
      refine x_istore (pc' := 113) (ls' := [_, _, _, _, _, _, _]) rfl rfl rfl rfl ?_
      refine x_aload_n (pc' := 114) rfl rfl rfl rfl rfl ?_
      refine x_dup (pc' := 115) rfl rfl rfl ?_
      refine x_gI (pc' := 118) (x := 0) rfl rfl rfl (Eq.trans rdIA sI_s) ?_
      refine x_iconst (pc' := 119) rfl rfl ?_
      refine x_iadd (pc' := 120) (z := 1) rfl rfl (by decide) ?_
      refine x_pI (pc' := 123) rfl rfl rfl ?_
      refine x_iinc (pc' := 126) (y := 1) (ls' := [_, _, _, _, _, _, _]) rfl rfl rfl rfl rfl ?_
      refine x_goto (pc' := 25) rfl rfl ?_
      refine x_iload (pc' := 27) rfl rfl rfl ?_
      refine x_iconst (pc' := 28) rfl rfl ?_
      refine x_icmp (a' := 129) (pc' := 31) (z := false) rfl rfl rfl (by decide) (fun h => by cases h) (fun _ => ?_)
      refine x_iload (pc' := 33) rfl rfl rfl ?_
      refine x_if (a' := 129) (pc' := 36) (z := true) rfl rfl rfl (by decide) (fun _ => ?_) (fun h => by cases h)
      refine x_iload (pc' := 131) rfl rfl rfl ?_
      refine x_retz (z := false) rfl rfl ?_
      refine sK_i (pc' := 22) rfl ?_
      refine x_if (a' := 93) (pc' := 25) (z := true) rfl rfl rfl (by decide) (fun _ => ?_) (fun h => by cases h)
      refine x_iinc (pc' := 96) (y := 1) (ls' := [_, _, _, _, _, _, _, _]) rfl rfl rfl rfl rfl ?_
      refine x_goto (pc' := 8) rfl rfl ?_
      refine x_iload (pc' := 10) rfl rfl rfl ?_
      refine x_iconst (pc' := 11) rfl rfl ?_
      refine x_icmp (a' := 99) (pc' := 14) (z := false) rfl rfl rfl (by decide) (fun h => by cases h) (fun _ => ?_)
      refine x_aload_n (pc' := 15) rfl rfl rfl rfl rfl ?_
      refine x_iload_n (pc' := 16) rfl rfl rfl ?_
      refine x_iload_n (pc' := 17) rfl rfl rfl ?_
      refine x_iload (pc' := 19) rfl rfl rfl ?_
      refine x_cv (ls0 := [_, _, _, _, sJk, sJk, sJk]) (rest := []) rfl rfl rfl rfl rfl ?_
      refine x_iload_n (pc' := 1) rfl rfl rfl ?_
      refine x_iload_n (pc' := 2) rfl rfl rfl ?_
      refine x_iconst (pc' := 3) rfl rfl ?_
      refine x_cs (ls0 := [_, _, _, sJk, sJk, sJk]) (rest := []) rfl rfl rfl rfl ?_
      refine x_getstatic (pc' := 3) rfl rfl (show 1 < sC t 28 from z_st1 e) ?_
      refine x_iconst (pc' := 4) rfl rfl ?_
      refine x_iload_n (pc' := 5) rfl rfl rfl ?_
      refine x_imul (pc' := 6) (z := 9) rfl rfl (by decide) ?_
      refine x_iload_n (pc' := 7) rfl rfl rfl ?_
      refine x_iadd (pc' := 8) (z := 10) rfl rfl (by decide) ?_
      refine x_iald (pc' := 9) (N := 15) (x := 12) rfl rfl rfl (Eq.trans rdNI (Eq.trans rdNA (Eq.trans rdNI (Eq.trans rdNI (Eq.trans rdNL (z_N_28_1 e)))))) (io_in (p := 10) (N := 15) (by decide) (by decide)) (Eq.trans (congrArg (sA (sIw (sAw (sIw (sIw (sLw t 23 0 0 (-10000 : Int64)) 768 0 0) 811 0 0) 21 27 0 (-1)) 811 0 1) 28 1) (nn_io (p := 10) (by decide))) (Eq.trans rdAI (Eq.trans (rdA_F rfl) (Eq.trans rdAI (Eq.trans rdAI (Eq.trans rdAL (z_A_28_1_10 e))))))) ?_
      refine x_istore_n (pc' := 10) (ls' := [_, _, _, _, _, _]) rfl rfl rfl rfl ?_
      refine x_iload_n (pc' := 11) rfl rfl rfl ?_
      refine x_bipush (pc' := 13) rfl rfl ?_
      refine x_icmp (a' := 20) (pc' := 16) (z := true) rfl rfl rfl (by decide) (fun _ => ?_) (fun h => by cases h)
      refine x_iload_n (pc' := 21) rfl rfl rfl ?_
      refine x_bipush (pc' := 23) rfl rfl ?_
      refine x_icmp (a' := 30) (pc' := 26) (z := false) rfl rfl rfl (by decide) (fun h => by cases h) (fun _ => ?_)
      refine x_iconst (pc' := 27) rfl rfl ?_
      refine x_goto (pc' := 39) rfl rfl ?_
      refine x_istore (pc' := 41) (ls' := [_, _, _, _, _, _]) rfl rfl rfl rfl ?_
      refine x_iload (pc' := 43) rfl rfl rfl ?_
      refine x_iload_n (pc' := 44) rfl rfl rfl ?_
      refine x_isub (pc' := 45) (z := 2) rfl rfl (by decide) ?_
      refine x_istore (pc' := 47) (ls' := [_, _, _, _, _, _]) rfl rfl rfl rfl ?_
      refine x_iload (pc' := 49) rfl rfl rfl ?_
      refine x_if (a' := 56) (pc' := 52) (z := true) rfl rfl rfl (by decide) (fun _ => ?_) (fun h => by cases h)
      refine x_iload (pc' := 58) rfl rfl rfl ?_
      refine x_iconst (pc' := 59) rfl rfl ?_
      refine x_icmp (a' := 69) (pc' := 62) (z := true) rfl rfl rfl (by decide) (fun _ => ?_) (fun h => by cases h)
      refine x_iload (pc' := 71) rfl rfl rfl ?_
      refine x_iconst (pc' := 72) rfl rfl ?_
      refine x_icmp (a' := 85) (pc' := 75) (z := false) rfl rfl rfl (by decide) (fun h => by cases h) (fun _ => ?_)
      refine x_iload_n (pc' := 76) rfl rfl rfl ?_
      refine x_bipush (pc' := 78) rfl rfl ?_
      refine x_idiv (pc' := 79) (z := 1) rfl rfl (by decide) (by decide +kernel) ?_
      refine x_bipush (pc' := 81) rfl rfl ?_
      refine x_irem (pc' := 82) (z := 1) rfl rfl (by decide) (by decide +kernel) ?_
      refine x_goto (pc' := 89) rfl rfl ?_
      refine x_iconst (pc' := 90) rfl rfl ?_
      refine x_isub (pc' := 91) (z := 0) rfl rfl (by decide) ?_
      refine x_reti rfl rfl ?_
      refine sK_i (pc' := 6) rfl ?_
      refine x_iconst (pc' := 7) rfl rfl ?_
      refine x_icmp (a' := 14) (pc' := 10) (z := false) rfl rfl rfl (by decide) (fun h => by cases h) (fun _ => ?_)
      refine x_iconst (pc' := 11) rfl rfl ?_
      refine x_goto (pc' := 15) rfl rfl ?_
      refine x_istore (pc' := 17) (ls' := [_, _, _, _, _, _, _]) rfl rfl rfl rfl ?_
      refine x_aload_n (pc' := 18) rfl rfl rfl rfl rfl ?_
      refine x_iconst (pc' := 19) rfl rfl ?_
      refine x_pI (pc' := 22) rfl rfl rfl ?_
      refine x_iconst (pc' := 23) rfl rfl ?_
      refine x_istore (pc' := 25) (ls' := [_, _, _, _, _, _, _]) rfl rfl rfl rfl ?_
      refine x_iload (pc' := 27) rfl rfl rfl ?_
      refine x_iconst (pc' := 28) rfl rfl ?_
      refine x_icmp (a' := 129) (pc' := 31) (z := false) rfl rfl rfl (by decide) (fun h => by cases h) (fun _ => ?_)
      refine x_iload (pc' := 33) rfl rfl rfl ?_
      refine x_if (a' := 129) (pc' := 36) (z := false) rfl rfl rfl (by decide) (fun h => by cases h) (fun _ => ?_)
      refine x_iload_n (pc' := 37) rfl rfl rfl ?_
      refine x_iload_n (pc' := 38) rfl rfl rfl ?_
      refine x_iload (pc' := 40) rfl rfl rfl ?_
      refine x_cs (ls0 := [_, _, _, sJk, sJk, sJk]) (rest := []) rfl rfl rfl rfl ?_
      refine x_getstatic (pc' := 3) rfl rfl (show 1 < sC t 28 from z_st1 e) ?_
      refine x_iconst (pc' := 4) rfl rfl ?_
      refine x_iload_n (pc' := 5) rfl rfl rfl ?_
      refine x_imul (pc' := 6) (z := 9) rfl rfl (by decide) ?_
      refine x_iload_n (pc' := 7) rfl rfl rfl ?_
      refine x_iadd (pc' := 8) (z := 10) rfl rfl (by decide) ?_
      refine x_iald (pc' := 9) (N := 15) (x := 12) rfl rfl rfl (Eq.trans rdNI (Eq.trans rdNI (Eq.trans rdNA (Eq.trans rdNI (Eq.trans rdNI (Eq.trans rdNL (z_N_28_1 e))))))) (io_in (p := 10) (N := 15) (by decide) (by decide)) (Eq.trans (congrArg (sA (sIw (sIw (sAw (sIw (sIw (sLw t 23 0 0 (-10000 : Int64)) 768 0 0) 811 0 0) 21 27 0 (-1)) 811 0 1) 811 0 0) 28 1) (nn_io (p := 10) (by decide))) (Eq.trans rdAI (Eq.trans rdAI (Eq.trans (rdA_F rfl) (Eq.trans rdAI (Eq.trans rdAI (Eq.trans rdAL (z_A_28_1_10 e)))))))) ?_
      refine x_istore_n (pc' := 10) (ls' := [_, _, _, _, _, _]) rfl rfl rfl rfl ?_
      refine x_iload_n (pc' := 11) rfl rfl rfl ?_
      refine x_bipush (pc' := 13) rfl rfl ?_
      refine x_icmp (a' := 20) (pc' := 16) (z := true) rfl rfl rfl (by decide) (fun _ => ?_) (fun h => by cases h)
      refine x_iload_n (pc' := 21) rfl rfl rfl ?_
      refine x_bipush (pc' := 23) rfl rfl ?_
      refine x_icmp (a' := 30) (pc' := 26) (z := false) rfl rfl rfl (by decide) (fun h => by cases h) (fun _ => ?_)
      refine x_iconst (pc' := 27) rfl rfl ?_
      refine x_goto (pc' := 39) rfl rfl ?_
      refine x_istore (pc' := 41) (ls' := [_, _, _, _, _, _]) rfl rfl rfl rfl ?_
      refine x_iload (pc' := 43) rfl rfl rfl ?_
      refine x_iload_n (pc' := 44) rfl rfl rfl ?_
      refine x_isub (pc' := 45) (z := 2) rfl rfl (by decide) ?_
      refine x_istore (pc' := 47) (ls' := [_, _, _, _, _, _]) rfl rfl rfl rfl ?_
      refine x_iload (pc' := 49) rfl rfl rfl ?_
      refine x_if (a' := 56) (pc' := 52) (z := true) rfl rfl rfl (by decide) (fun _ => ?_) (fun h => by cases h)
      refine x_iload (pc' := 58) rfl rfl rfl ?_
      refine x_iconst (pc' := 59) rfl rfl ?_
      refine x_icmp (a' := 69) (pc' := 62) (z := true) rfl rfl rfl (by decide) (fun _ => ?_) (fun h => by cases h)
      refine x_iload (pc' := 71) rfl rfl rfl ?_
      refine x_iconst (pc' := 72) rfl rfl ?_
      refine x_icmp (a' := 85) (pc' := 75) (z := false) rfl rfl rfl (by decide) (fun h => by cases h) (fun _ => ?_)
      refine x_iload_n (pc' := 76) rfl rfl rfl ?_
      refine x_bipush (pc' := 78) rfl rfl ?_
      refine x_idiv (pc' := 79) (z := 1) rfl rfl (by decide) (by decide +kernel) ?_
      refine x_bipush (pc' := 81) rfl rfl ?_
      refine x_irem (pc' := 82) (z := 1) rfl rfl (by decide) (by decide +kernel) ?_
      refine x_goto (pc' := 89) rfl rfl ?_
      refine x_iconst (pc' := 90) rfl rfl ?_
      refine x_isub (pc' := 91) (z := 0) rfl rfl (by decide) ?_
      refine x_reti rfl rfl ?_
      refine sK_i (pc' := 43) rfl ?_
      refine x_istore (pc' := 45) (ls' := [_, _, _, _, _, _, _]) rfl rfl rfl rfl ?_
      refine x_iload (pc' := 47) rfl rfl rfl ?_
      refine x_iconst (pc' := 48) rfl rfl ?_
      refine x_icmp (a' := 123) (pc' := 51) (z := false) rfl rfl rfl (by decide) (fun h => by cases h) (fun _ => ?_)
      refine x_aload_n (pc' := 52) rfl rfl rfl rfl rfl ?_
      refine x_gR (pc' := 55) (r := (some 27)) rfl rfl rfl (Eq.trans rdRI (Eq.trans rdRI (Eq.trans rdRA (Eq.trans rdRI (Eq.trans rdRI (Eq.trans rdRL (z_R_809_0 e))))))) ?_
      refine x_aload_n (pc' := 56) rfl rfl rfl rfl rfl ?_
      refine x_gI (pc' := 59) (x := 0) rfl rfl rfl sI_s ?_
      refine x_aload_n (pc' := 60) rfl rfl rfl rfl rfl ?_
      refine x_iload (pc' := 62) rfl rfl rfl ?_
      refine x_iload_n (pc' := 63) rfl rfl rfl ?_
      refine x_iload_n (pc' := 64) rfl rfl rfl ?_
      refine x_iload (pc' := 66) rfl rfl rfl ?_
      refine x_cs (ls0 := [_, _, _, sJk]) (rest := [_, _, _, _]) rfl rfl rfl rfl ?_
      refine x_iload_n (pc' := 1) rfl rfl rfl ?_
      refine x_iload_n (pc' := 2) rfl rfl rfl ?_
      refine x_iload_n (pc' := 3) rfl rfl rfl ?_
      refine x_cs (ls0 := [_, _, _, sJk, sJk, sJk]) (rest := []) rfl rfl rfl rfl ?_
      refine x_getstatic (pc' := 3) rfl rfl (show 1 < sC t 28 from z_st1 e) ?_
      refine x_iconst (pc' := 4) rfl rfl ?_
      refine x_iload_n (pc' := 5) rfl rfl rfl ?_
      refine x_imul (pc' := 6) (z := 9) rfl rfl (by decide) ?_
      refine x_iload_n (pc' := 7) rfl rfl rfl ?_
      refine x_iadd (pc' := 8) (z := 10) rfl rfl (by decide) ?_
      refine x_iald (pc' := 9) (N := 15) (x := 12) rfl rfl rfl (Eq.trans rdNI (Eq.trans rdNI (Eq.trans rdNA (Eq.trans rdNI (Eq.trans rdNI (Eq.trans rdNL (z_N_28_1 e))))))) (io_in (p := 10) (N := 15) (by decide) (by decide)) (Eq.trans (congrArg (sA (sIw (sIw (sAw (sIw (sIw (sLw t 23 0 0 (-10000 : Int64)) 768 0 0) 811 0 0) 21 27 0 (-1)) 811 0 1) 811 0 0) 28 1) (nn_io (p := 10) (by decide))) (Eq.trans rdAI (Eq.trans rdAI (Eq.trans (rdA_F rfl) (Eq.trans rdAI (Eq.trans rdAI (Eq.trans rdAL (z_A_28_1_10 e)))))))) ?_
      refine x_istore_n (pc' := 10) (ls' := [_, _, _, _, _, _]) rfl rfl rfl rfl ?_
      refine x_iload_n (pc' := 11) rfl rfl rfl ?_
      refine x_bipush (pc' := 13) rfl rfl ?_
      refine x_icmp (a' := 20) (pc' := 16) (z := true) rfl rfl rfl (by decide) (fun _ => ?_) (fun h => by cases h)
      refine x_iload_n (pc' := 21) rfl rfl rfl ?_
      refine x_bipush (pc' := 23) rfl rfl ?_
      refine x_icmp (a' := 30) (pc' := 26) (z := false) rfl rfl rfl (by decide) (fun h => by cases h) (fun _ => ?_)
      refine x_iconst (pc' := 27) rfl rfl ?_
      refine x_goto (pc' := 39) rfl rfl ?_
      refine x_istore (pc' := 41) (ls' := [_, _, _, _, _, _]) rfl rfl rfl rfl ?_
      refine x_iload (pc' := 43) rfl rfl rfl ?_
      refine x_iload_n (pc' := 44) rfl rfl rfl ?_
      refine x_isub (pc' := 45) (z := 2) rfl rfl (by decide) ?_
      refine x_istore (pc' := 47) (ls' := [_, _, _, _, _, _]) rfl rfl rfl rfl ?_
      refine x_iload (pc' := 49) rfl rfl rfl ?_
      refine x_if (a' := 56) (pc' := 52) (z := true) rfl rfl rfl (by decide) (fun _ => ?_) (fun h => by cases h)
      refine x_iload (pc' := 58) rfl rfl rfl ?_
      refine x_iconst (pc' := 59) rfl rfl ?_
      refine x_icmp (a' := 69) (pc' := 62) (z := true) rfl rfl rfl (by decide) (fun _ => ?_) (fun h => by cases h)
      refine x_iload (pc' := 71) rfl rfl rfl ?_
      refine x_iconst (pc' := 72) rfl rfl ?_
      refine x_icmp (a' := 85) (pc' := 75) (z := false) rfl rfl rfl (by decide) (fun h => by cases h) (fun _ => ?_)
      refine x_iload_n (pc' := 76) rfl rfl rfl ?_
      refine x_bipush (pc' := 78) rfl rfl ?_
      refine x_idiv (pc' := 79) (z := 1) rfl rfl (by decide) (by decide +kernel) ?_
      refine x_bipush (pc' := 81) rfl rfl ?_
      refine x_irem (pc' := 82) (z := 1) rfl rfl (by decide) (by decide +kernel) ?_
      refine x_goto (pc' := 89) rfl rfl ?_
      refine x_iconst (pc' := 90) rfl rfl ?_
      refine x_isub (pc' := 91) (z := 0) rfl rfl (by decide) ?_
      refine x_reti rfl rfl ?_
      refine sK_i (pc' := 6) rfl ?_
      refine x_istore_n (pc' := 7) (ls' := [_, _, _, _]) rfl rfl rfl rfl ?_
      refine x_iload_n (pc' := 8) rfl rfl rfl ?_
      refine x_iconst (pc' := 9) rfl rfl ?_
      refine x_icmp (a' := 31) (pc' := 12) (z := true) rfl rfl rfl (by decide) (fun _ => ?_) (fun h => by cases h)
      refine x_iload_n (pc' := 32) rfl rfl rfl ?_
      refine x_iconst (pc' := 33) rfl rfl ?_
      refine x_icmp (a' := 45) (pc' := 36) (z := false) rfl rfl rfl (by decide) (fun h => by cases h) (fun _ => ?_)
      refine x_iload_n (pc' := 37) rfl rfl rfl ?_
      refine x_iconst (pc' := 38) rfl rfl ?_
      refine x_icmp (a' := 45) (pc' := 41) (z := true) rfl rfl rfl (by decide) (fun _ => ?_) (fun h => by cases h)
      refine x_iconst (pc' := 46) rfl rfl ?_
      refine x_retz (z := false) rfl rfl ?_
      refine sK_i (pc' := 69) rfl ?_
      refine x_iload_n (pc' := 70) rfl rfl rfl ?_
      have J5063 : X 159 78 [.inr (.inr (12, (some 0))), .inl 3, .inl (bz (!(decide ((xs 2) = 0)))), .inl 1, .inl 1, .inl 0, .inl 0] [.inl (bz (!(xor false (!(decide ((xs 2) = 0)))))), .inl 0, .inr (.inr (12, (some 0))), .inl 0, .inr (.inr (21, (some 27)))] (sIw (sIw (sAw (sIw (sIw (sLw t 23 0 0 (-10000 : Int64)) 768 0 0) 811 0 0) 21 27 0 (-1)) 811 0 1) 811 0 0) (sK 159 161 19 [.inr (.inr (12, (some 0))), .inl 3, .inl (bz (!(decide ((xs 2) = 0)))), .inl (-1), .inl 0, .inl 1, sJk, sJk] [] (sK 161 228 24 [.inr (.inr (12, (some 0))), .inl 3, .inl (bz (!(decide ((xs 2) = 0)))), sJk] [] (sK 228 297 2148 [.inr (.inr (29, (some 0))), .inr (.inr (11, (some 0))), .inr (.inr (12, (some 0))), .inr (.inr (23, (some 0))), .inl 0, .inl 0, sJk] [] Qp))) := by
        refine x_cv (ls0 := [_, _, _, sJk, sJk, sJk]) (rest := [_, _]) rfl rfl rfl rfl rfl ?_
        refine x_iconst (pc' := 1) rfl rfl ?_
        refine x_istore_n (pc' := 2) (ls' := [_, _, _, _, _, _]) rfl rfl rfl rfl ?_
        refine x_iconst (pc' := 3) rfl rfl ?_
        refine x_istore (pc' := 5) (ls' := [_, _, _, _, _, _]) rfl rfl rfl rfl ?_
        refine x_iload (pc' := 7) rfl rfl rfl ?_
        refine x_aload_n (pc' := 8) rfl rfl rfl rfl rfl ?_
        refine x_gI (pc' := 11) (x := 0) rfl rfl rfl (Eq.trans (rdI_F rfl) (Eq.trans (rdI_F rfl) (Eq.trans rdIA (Eq.trans (rdI_F rfl) (Eq.trans (rdI_F rfl) (Eq.trans rdIL (z_I_786_0 e))))))) ?_
        refine x_icmp (a' := 87) (pc' := 14) (z := true) rfl rfl rfl (by decide) (fun _ => ?_) (fun h => by cases h)
        refine x_iload_n (pc' := 88) rfl rfl rfl ?_
        refine x_reti rfl rfl ?_
        refine sK_i (pc' := 81) rfl ?_
        refine x_iast (pc' := 82) (N := 200) (p := 0) rfl rfl rfl (Eq.trans rdNI (Eq.trans rdNI (Eq.trans rdNA (Eq.trans rdNI (Eq.trans rdNI (Eq.trans rdNL (z_N_21_27 e))))))) (io_in (p := 0) (N := 200) (by decide) (by decide)) (nn_io (p := 0) (by decide)) ?_
        refine x_aload_n (pc' := 83) rfl rfl rfl rfl rfl ?_
        refine x_gR (pc' := 86) (r := (some 0)) rfl rfl rfl (Eq.trans rdRA (Eq.trans rdRI (Eq.trans rdRI (Eq.trans rdRA (Eq.trans rdRI (Eq.trans rdRI (Eq.trans rdRL (z_R_769_0 e)))))))) ?_
        refine x_iload (pc' := 88) rfl rfl rfl ?_
        refine x_iald (pc' := 89) (N := 5) (x := 0) rfl rfl rfl (Eq.trans rdNA (Eq.trans rdNI (Eq.trans rdNI (Eq.trans rdNA (Eq.trans rdNI (Eq.trans rdNI (Eq.trans rdNL (z_N_21_0 e)))))))) (io_in (p := 0) (N := 5) (by decide) (by decide)) (Eq.trans (congrArg (sA (sAw (sIw (sIw (sAw (sIw (sIw (sLw t 23 0 0 (-10000 : Int64)) 768 0 0) 811 0 0) 21 27 0 (-1)) 811 0 1) 811 0 0) 21 27 0 (-1)) 21 0) (nn_io (p := 0) (by decide))) (Eq.trans (rdA_o rfl) (Eq.trans rdAI (Eq.trans rdAI (Eq.trans (rdA_o rfl) (Eq.trans rdAI (Eq.trans rdAI (Eq.trans rdAL (z_A_21_0_0 e))))))))) ?_
        refine x_iconst (pc' := 90) rfl rfl ?_
        refine x_icmp (a' := 110) (pc' := 93) (z := true) rfl rfl rfl (by decide) (fun _ => ?_) (fun h => by cases h)
        refine x_iconst (pc' := 111) rfl rfl ?_
        refine x_istore (pc' := 113) (ls' := [_, _, _, _, _, _, _]) rfl rfl rfl rfl ?_
        refine x_aload_n (pc' := 114) rfl rfl rfl rfl rfl ?_
        refine x_dup (pc' := 115) rfl rfl rfl ?_
        refine x_gI (pc' := 118) (x := 0) rfl rfl rfl (Eq.trans rdIA sI_s) ?_
        refine x_iconst (pc' := 119) rfl rfl ?_
        refine x_iadd (pc' := 120) (z := 1) rfl rfl (by decide) ?_
        refine x_pI (pc' := 123) rfl rfl rfl ?_
        refine x_iinc (pc' := 126) (y := 1) (ls' := [_, _, _, _, _, _, _]) rfl rfl rfl rfl rfl ?_
        refine x_goto (pc' := 25) rfl rfl ?_
        refine x_iload (pc' := 27) rfl rfl rfl ?_
        refine x_iconst (pc' := 28) rfl rfl ?_
        refine x_icmp (a' := 129) (pc' := 31) (z := false) rfl rfl rfl (by decide) (fun h => by cases h) (fun _ => ?_)
        refine x_iload (pc' := 33) rfl rfl rfl ?_
        refine x_if (a' := 129) (pc' := 36) (z := true) rfl rfl rfl (by decide) (fun _ => ?_) (fun h => by cases h)
        refine x_iload (pc' := 131) rfl rfl rfl ?_
        refine x_retz (z := false) rfl rfl ?_
        refine sK_i (pc' := 22) rfl ?_
        refine x_if (a' := 93) (pc' := 25) (z := true) rfl rfl rfl (by decide) (fun _ => ?_) (fun h => by cases h)
        refine x_iinc (pc' := 96) (y := 2) (ls' := [_, _, _, _, _, _, _, _]) rfl rfl rfl rfl rfl ?_
        refine x_goto (pc' := 8) rfl rfl ?_
        refine x_iload (pc' := 10) rfl rfl rfl ?_
        refine x_iconst (pc' := 11) rfl rfl ?_
        refine x_icmp (a' := 99) (pc' := 14) (z := false) rfl rfl rfl (by decide) (fun h => by cases h) (fun _ => ?_)
        refine x_aload_n (pc' := 15) rfl rfl rfl rfl rfl ?_
        refine x_iload_n (pc' := 16) rfl rfl rfl ?_
        refine x_iload_n (pc' := 17) rfl rfl rfl ?_
        refine x_iload (pc' := 19) rfl rfl rfl ?_
        refine x_cv (ls0 := [_, _, _, _, sJk, sJk, sJk]) (rest := []) rfl rfl rfl rfl rfl ?_
        refine x_iload_n (pc' := 1) rfl rfl rfl ?_
        refine x_iload_n (pc' := 2) rfl rfl rfl ?_
        refine x_iconst (pc' := 3) rfl rfl ?_
        refine x_cs (ls0 := [_, _, _, sJk, sJk, sJk]) (rest := []) rfl rfl rfl rfl ?_
        refine x_getstatic (pc' := 3) rfl rfl (show 1 < sC t 28 from z_st1 e) ?_
        refine x_iconst (pc' := 4) rfl rfl ?_
        refine x_iload_n (pc' := 5) rfl rfl rfl ?_
        refine x_imul (pc' := 6) (z := 9) rfl rfl (by decide) ?_
        refine x_iload_n (pc' := 7) rfl rfl rfl ?_
        refine x_iadd (pc' := 8) (z := 11) rfl rfl (by decide) ?_
        refine x_iald (pc' := 9) (N := 15) (x := 0) rfl rfl rfl (Eq.trans rdNI (Eq.trans rdNA (Eq.trans rdNI (Eq.trans rdNI (Eq.trans rdNA (Eq.trans rdNI (Eq.trans rdNI (Eq.trans rdNL (z_N_28_1 e))))))))) (io_in (p := 11) (N := 15) (by decide) (by decide)) (Eq.trans (congrArg (sA (sIw (sAw (sIw (sIw (sAw (sIw (sIw (sLw t 23 0 0 (-10000 : Int64)) 768 0 0) 811 0 0) 21 27 0 (-1)) 811 0 1) 811 0 0) 21 27 0 (-1)) 811 0 1) 28 1) (nn_io (p := 11) (by decide))) (Eq.trans rdAI (Eq.trans (rdA_F rfl) (Eq.trans rdAI (Eq.trans rdAI (Eq.trans (rdA_F rfl) (Eq.trans rdAI (Eq.trans rdAI (Eq.trans rdAL (z_A_28_1_11 e)))))))))) ?_
        refine x_istore_n (pc' := 10) (ls' := [_, _, _, _, _, _]) rfl rfl rfl rfl ?_
        refine x_iload_n (pc' := 11) rfl rfl rfl ?_
        refine x_bipush (pc' := 13) rfl rfl ?_
        refine x_icmp (a' := 20) (pc' := 16) (z := true) rfl rfl rfl (by decide) (fun _ => ?_) (fun h => by cases h)
        refine x_iload_n (pc' := 21) rfl rfl rfl ?_
        refine x_bipush (pc' := 23) rfl rfl ?_
        refine x_icmp (a' := 30) (pc' := 26) (z := true) rfl rfl rfl (by decide) (fun _ => ?_) (fun h => by cases h)
        refine x_iload_n (pc' := 31) rfl rfl rfl ?_
        refine x_if (a' := 38) (pc' := 34) (z := true) rfl rfl rfl (by decide) (fun _ => ?_) (fun h => by cases h)
        refine x_iconst (pc' := 39) rfl rfl ?_
        refine x_istore (pc' := 41) (ls' := [_, _, _, _, _, _]) rfl rfl rfl rfl ?_
        refine x_iload (pc' := 43) rfl rfl rfl ?_
        refine x_iload_n (pc' := 44) rfl rfl rfl ?_
        refine x_isub (pc' := 45) (z := 0) rfl rfl (by decide) ?_
        refine x_istore (pc' := 47) (ls' := [_, _, _, _, _, _]) rfl rfl rfl rfl ?_
        refine x_iload (pc' := 49) rfl rfl rfl ?_
        refine x_if (a' := 56) (pc' := 52) (z := false) rfl rfl rfl (by decide) (fun h => by cases h) (fun _ => ?_)
        refine x_iconst (pc' := 53) rfl rfl ?_
        refine x_goto (pc' := 91) rfl rfl ?_
        refine x_reti rfl rfl ?_
        refine sK_i (pc' := 6) rfl ?_
        refine x_iconst (pc' := 7) rfl rfl ?_
        refine x_icmp (a' := 14) (pc' := 10) (z := true) rfl rfl rfl (by decide) (fun _ => ?_) (fun h => by cases h)
        refine x_iconst (pc' := 15) rfl rfl ?_
        refine x_istore (pc' := 17) (ls' := [_, _, _, _, _, _, _]) rfl rfl rfl rfl ?_
        refine x_aload_n (pc' := 18) rfl rfl rfl rfl rfl ?_
        refine x_iconst (pc' := 19) rfl rfl ?_
        refine x_pI (pc' := 22) rfl rfl rfl ?_
        refine x_iconst (pc' := 23) rfl rfl ?_
        refine x_istore (pc' := 25) (ls' := [_, _, _, _, _, _, _]) rfl rfl rfl rfl ?_
        refine x_iload (pc' := 27) rfl rfl rfl ?_
        refine x_iconst (pc' := 28) rfl rfl ?_
        refine x_icmp (a' := 129) (pc' := 31) (z := false) rfl rfl rfl (by decide) (fun h => by cases h) (fun _ => ?_)
        refine x_iload (pc' := 33) rfl rfl rfl ?_
        refine x_if (a' := 129) (pc' := 36) (z := true) rfl rfl rfl (by decide) (fun _ => ?_) (fun h => by cases h)
        refine x_iload (pc' := 131) rfl rfl rfl ?_
        refine x_retz (z := false) rfl rfl ?_
        refine sK_i (pc' := 22) rfl ?_
        refine x_if (a' := 93) (pc' := 25) (z := true) rfl rfl rfl (by decide) (fun _ => ?_) (fun h => by cases h)
        refine x_iinc (pc' := 96) (y := 3) (ls' := [_, _, _, _, _, _, _, _]) rfl rfl rfl rfl rfl ?_
        refine x_goto (pc' := 8) rfl rfl ?_
        refine x_iload (pc' := 10) rfl rfl rfl ?_
        refine x_iconst (pc' := 11) rfl rfl ?_
        refine x_icmp (a' := 99) (pc' := 14) (z := true) rfl rfl rfl (by decide) (fun _ => ?_) (fun h => by cases h)
        refine x_iload_n (pc' := 100) rfl rfl rfl ?_
        refine x_reti rfl rfl ?_
        refine sK_i (pc' := 27) rfl ?_
        refine x_istore_n (pc' := 28) (ls' := [_, _, _, _]) rfl rfl rfl rfl ?_
        refine x_iload_n (pc' := 29) rfl rfl rfl ?_
        refine x_iconst (pc' := 30) rfl rfl ?_
        refine x_icmp (a' := 52) (pc' := 33) (z := true) rfl rfl rfl (by decide) (fun _ => ?_) (fun h => by cases h)
        refine x_sipush (pc' := 55) rfl rfl ?_
        refine x_reti rfl rfl ?_
        refine sK_i (pc' := 2151) rfl ?_
        refine x_istore (pc' := 2153) (ls' := [_, _, _, _, _, _, _]) rfl rfl rfl rfl ?_
        refine x_aload_n (pc' := 2154) rfl rfl rfl rfl rfl ?_
        refine x_cv (ls0 := [_]) (rest := []) rfl rfl rfl rfl rfl ?_
        refine x_aload_n (pc' := 1) rfl rfl rfl rfl rfl ?_
        refine x_gI (pc' := 4) (x := 0) rfl rfl rfl (Eq.trans (rdI_F rfl) (Eq.trans (rdI_F rfl) (Eq.trans rdIA (Eq.trans (rdI_F rfl) (Eq.trans (rdI_F rfl) (Eq.trans rdIA (Eq.trans (rdI_F rfl) sI_s))))))) ?_
        refine x_reti rfl rfl ?_
        refine sK_i (pc' := 2157) rfl ?_
        refine x_iload (pc' := 2159) rfl rfl rfl ?_
        refine x_icmp (a' := 2164) (pc' := 2162) (z := true) rfl rfl rfl (by decide) (fun _ => ?_) (fun h => by cases h)
        refine x_iload (pc' := 2166) rfl rfl rfl ?_
        refine x_if (a' := 2181) (pc' := 2169) (z := false) rfl rfl rfl (by decide) (fun h => by cases h) (fun _ => ?_)
        refine x_aload_n (pc' := 2170) rfl rfl rfl rfl rfl ?_
        refine x_iconst (pc' := 2171) rfl rfl ?_
        refine x_lald (pc' := 2172) (N := 1) (x := (-10000 : Int64)) rfl rfl (Eq.trans rdNI (Eq.trans rdNI (Eq.trans rdNA (Eq.trans rdNI (Eq.trans rdNI (Eq.trans rdNA (Eq.trans rdNI (Eq.trans rdNI (Eq.trans rdNL (z_N_23_0 e)))))))))) (io_in (p := 0) (N := 1) (by decide) (by decide)) (Eq.trans (congrArg (sL (sIw (sIw (sAw (sIw (sIw (sAw (sIw (sIw (sLw t 23 0 0 (-10000 : Int64)) 768 0 0) 811 0 0) 21 27 0 (-1)) 811 0 1) 811 0 0) 21 27 0 (-1)) 811 0 1) 811 0 0) 23 0) (nn_io (p := 0) (by decide))) (Eq.trans rdLI (Eq.trans rdLI (Eq.trans rdLA (Eq.trans rdLI (Eq.trans rdLI (Eq.trans rdLA (Eq.trans rdLI (Eq.trans rdLI sL_s))))))))) ?_
        refine x_iload (pc' := 2174) rfl rfl rfl ?_
        refine x_i2l (pc' := 2175) (z := (-10000 : Int64)) rfl rfl (by decide) ?_
        refine x_lcmp (pc' := 2176) (z := 0) rfl rfl (sLcmp_s _) ?_
        refine x_if (a' := 2181) (pc' := 2179) (z := true) rfl rfl rfl (by decide) (fun _ => ?_) (fun h => by cases h)
        refine x_goto (pc' := 2938) rfl rfl ?_
        refine x_iinc (pc' := 2941) (y := 7) (ls' := [_, _, _, _, _, _, _]) rfl rfl rfl rfl rfl ?_
        refine x_goto (pc' := 23) rfl rfl ?_
        refine x_iload (pc' := 25) rfl rfl rfl ?_
        refine x_aload_n (pc' := 26) rfl rfl rfl rfl rfl ?_
        refine x_alen (pc' := 27) (N := 7) rfl rfl rfl (Eq.trans rdNI (Eq.trans rdNI (Eq.trans rdNA (Eq.trans rdNI (Eq.trans rdNI (Eq.trans rdNA (Eq.trans rdNI (Eq.trans rdNI (Eq.trans rdNL (z_N_29_0 e)))))))))) (?_ : X _ _ _ (.inl 7 :: _) _ _)
        refine x_bipush (pc' := 29) rfl rfl ?_
        refine x_isub (pc' := 30) (z := 0) rfl rfl (by decide) ?_
        refine x_icmp (a' := 2944) (pc' := 33) (z := true) rfl rfl rfl (by decide) (fun _ => ?_) (fun h => by cases h)
        refine x_iconst (pc' := 2945) rfl rfl ?_
        refine x_retz (z := true) rfl rfl ?_
        exact Qp_ok e (p := 0) (q := 0) rfl rfl rfl rfl
      refine x_icmp (a' := 77) (pc' := 73) (z := (xor false (!(decide ((xs 2) = 0))))) rfl rfl rfl (bz_neb _ _) (fun q5063 => ?_) (fun q5063 => ?_)
      · refine x_iconst (pc' := 78) rfl rfl ?_
        ((try rw [q5063] at J5063); (try rw [q5063]); (try simp only [cd_t, cd_f, nt_t, nt_f, an_t, an_f, or_t, or_f] at J5063); (try simp only [cd_t, cd_f, nt_t, nt_f, an_t, an_f, or_t, or_f]); exact J5063)
      · refine x_iconst (pc' := 74) rfl rfl ?_
        refine x_goto (pc' := 78) rfl rfl ?_
        ((try rw [q5063] at J5063); (try rw [q5063]); (try simp only [cd_t, cd_f, nt_t, nt_f, an_t, an_f, or_t, or_f] at J5063); (try simp only [cd_t, cd_f, nt_t, nt_f, an_t, an_f, or_t, or_f]); exact J5063)
    refine x_icmp (a' := 77) (pc' := 73) (z := (xor false (!(decide ((xs 2) = 0))))) rfl rfl rfl (bz_neb _ _) (fun q5033 => ?_) (fun q5033 => ?_)
    · refine x_iconst (pc' := 78) rfl rfl ?_
      ((try rw [q5033] at J5033); (try rw [q5033]); (try simp only [cd_t, cd_f, nt_t, nt_f, an_t, an_f, or_t, or_f] at J5033); (try simp only [cd_t, cd_f, nt_t, nt_f, an_t, an_f, or_t, or_f]); exact J5033)
    · refine x_iconst (pc' := 74) rfl rfl ?_
      refine x_goto (pc' := 78) rfl rfl ?_
      ((try rw [q5033] at J5033); (try rw [q5033]); (try simp only [cd_t, cd_f, nt_t, nt_f, an_t, an_f, or_t, or_f] at J5033); (try simp only [cd_t, cd_f, nt_t, nt_f, an_t, an_f, or_t, or_f]); exact J5033)
  refine x_if (a' := 2147) (pc' := 2143) (z := decide ((xs 2) = 0)) rfl rfl rfl rfl (fun q5001 => ?_) (fun q5001 => ?_)
  · refine x_iconst (pc' := 2148) rfl rfl ?_
    ((try rw [q5001] at J5001); (try rw [q5001]); (try simp only [cd_t, cd_f, nt_t, nt_f, an_t, an_f, or_t, or_f] at J5001); (try simp only [cd_t, cd_f, nt_t, nt_f, an_t, an_f, or_t, or_f]); exact J5001)
  · refine x_iconst (pc' := 2144) rfl rfl ?_
    refine x_goto (pc' := 2148) rfl rfl ?_
    ((try rw [q5001] at J5001); (try rw [q5001]); (try simp only [cd_t, cd_f, nt_t, nt_f, an_t, an_f, or_t, or_f] at J5001); (try simp only [cd_t, cd_f, nt_t, nt_f, an_t, an_f, or_t, or_f]); exact J5001)
set_option maxHeartbeats 4000000 in
set_option maxRecDepth 10000 in
theorem v_26_3_i {t : sT} {xs : Nat → Int32}
    (e : t = T16 7 xs)
    (hk : ((xs 0) &&& 63) = 26)
    (e0 : xs 1 = 3) :
    X 297 23 [.inr (.inr (29, (some 0))), .inr (.inr (11, (some 0))), .inr (.inr (12, (some 0))), .inr (.inr (23, (some 0))), .inl 0, sJk, sJk] [] t Qp := by
  have k0 : X 297 2125 [.inr (.inr (29, (some 0))), .inr (.inr (11, (some 0))), .inr (.inr (12, (some 0))), .inr (.inr (23, (some 0))), .inl 0, sJk, sJk] [.inl 0] (sLw t 23 0 0 (-10000 : Int64)) Qp := v_26_3_i_2 e hk e0
  refine x_iload (pc' := 25) rfl rfl rfl ?_
  refine x_aload_n (pc' := 26) rfl rfl rfl rfl rfl ?_
  refine x_alen (pc' := 27) (N := 7) rfl rfl rfl (z_N_29_0 e) (?_ : X _ _ _ (.inl 7 :: _) _ _)
  refine x_bipush (pc' := 29) rfl rfl ?_
  refine x_isub (pc' := 30) (z := 0) rfl rfl (by decide) ?_
  refine x_icmp (a' := 2944) (pc' := 33) (z := false) rfl rfl rfl (by decide) (fun h => by cases h) (fun _ => ?_)
  refine x_aload_n (pc' := 34) rfl rfl rfl rfl rfl ?_
  refine x_iload (pc' := 36) rfl rfl rfl ?_
  refine x_iald (pc' := 37) (N := 7) (x := (xs 0)) rfl rfl rfl (z_N_29_0 e) (io_in (p := 0) (N := 7) (by decide) (by decide)) (Eq.trans (congrArg (sA t 29 0) (nn_io (p := 0) (by decide))) (z_A_29_0_0 e)) ?_
  refine x_bipush (pc' := 39) rfl rfl ?_
  refine x_iand (pc' := 40) (z := ((xs 0) &&& 63)) rfl rfl rfl ?_
  refine x_switch (pc' := 2100) rfl (by rw [hk]; decide) ?_
  refine x_aload_n (pc' := 2101) rfl rfl rfl rfl rfl ?_
  refine x_aload_n (pc' := 2102) rfl rfl rfl rfl rfl ?_
  refine x_iload (pc' := 2104) rfl rfl rfl ?_
  refine x_iconst (pc' := 2105) rfl rfl ?_
  refine x_iadd (pc' := 2106) (z := 1) rfl rfl (by decide) ?_
  refine x_iald (pc' := 2107) (N := 7) (x := 3) rfl rfl rfl (z_N_29_0 e) (io_in (p := 1) (N := 7) (by decide) (by decide)) (Eq.trans (congrArg (sA t 29 0) (nn_io (p := 1) (by decide))) (Eq.trans (z_A_29_0_1 e) e0)) ?_
  refine x_aload_n (pc' := 2108) rfl rfl rfl rfl rfl ?_
  refine x_iload (pc' := 2110) rfl rfl rfl ?_
  refine x_iconst (pc' := 2111) rfl rfl ?_
  refine x_iadd (pc' := 2112) (z := 2) rfl rfl (by decide) ?_
  refine x_iald (pc' := 2113) (N := 7) (x := (xs 2)) rfl rfl rfl (z_N_29_0 e) (io_in (p := 2) (N := 7) (by decide) (by decide)) (Eq.trans (congrArg (sA t 29 0) (nn_io (p := 2) (by decide))) (z_A_29_0_2 e)) ?_
  have J3 : X 297 2121 [.inr (.inr (29, (some 0))), .inr (.inr (11, (some 0))), .inr (.inr (12, (some 0))), .inr (.inr (23, (some 0))), .inl 0, sJk, sJk] [.inl (bz (!(decide ((xs 2) = 0)))), .inl 3, .inr (.inr (11, (some 0)))] t Qp := by
    refine x_aload_n (pc' := 2122) rfl rfl rfl rfl rfl ?_
    refine x_cs (ls0 := [_, _, _, _, sJk]) (rest := []) rfl rfl rfl rfl ?_
    refine x_aload_n (pc' := 1) rfl rfl rfl rfl rfl ?_
    refine x_iconst (pc' := 2) rfl rfl ?_
    refine x_aload_n (pc' := 3) rfl rfl rfl rfl rfl ?_
    refine x_iload_n (pc' := 4) rfl rfl rfl ?_
    refine x_iload_n (pc' := 5) rfl rfl rfl ?_
    refine x_cv (ls0 := [_, _, _, sJk]) (rest := [_, _]) rfl rfl rfl rfl rfl ?_
    refine x_aload_n (pc' := 1) rfl rfl rfl rfl rfl ?_
    refine x_iload_n (pc' := 2) rfl rfl rfl ?_
    refine x_cv (ls0 := [_, _]) (rest := []) rfl rfl rfl rfl rfl ?_
    refine x_iload_n (pc' := 1) rfl rfl rfl ?_
    refine x_if (a' := 16) (pc' := 4) (z := false) rfl rfl rfl (by decide) (fun h => by cases h) (fun _ => ?_)
    refine x_iload_n (pc' := 5) rfl rfl rfl ?_
    refine x_aload_n (pc' := 6) rfl rfl rfl rfl rfl ?_
    refine x_gR (pc' := 9) (r := (some 0)) rfl rfl rfl (z_R_705_0 e) ?_
    refine x_gR (pc' := 12) (r := (some 0)) rfl rfl rfl (z_R_256_0 e) ?_
    refine x_alen (pc' := 13) (N := 5) rfl rfl rfl (z_N_24_0 e) (?_ : X _ _ _ (.inl 5 :: _) _ _)
    refine x_icmp (a' := 27) (pc' := 16) (z := true) rfl rfl rfl (by decide) (fun _ => ?_) (fun h => by cases h)
    refine x_aload_n (pc' := 28) rfl rfl rfl rfl rfl ?_
    refine x_gR (pc' := 31) (r := (some 0)) rfl rfl rfl (z_R_705_0 e) ?_
    refine x_gR (pc' := 34) (r := (some 0)) rfl rfl rfl (z_R_256_0 e) ?_
    refine x_iload_n (pc' := 35) rfl rfl rfl ?_
    refine x_aald (pc' := 36) (N := 5) (k' := 1) (r := (some 3)) rfl rfl rfl (z_N_24_0 e) (io_in (p := 3) (N := 5) (by decide) (by decide)) (Eq.trans (congrArg (sE t 24 0) (nn_io (p := 3) (by decide))) (z_E_24_0_3 e)) ?_
    refine x_reta rfl rfl ?_
    refine sK_i (pc' := 5) rfl ?_
    refine x_astore_n (pc' := 6) (ls' := [_, _, _, _]) rfl rfl rfl rfl rfl ?_
    refine x_aload_n (pc' := 7) rfl rfl rfl rfl rfl ?_
    refine x_gR (pc' := 10) (r := (some 0)) rfl rfl rfl (z_R_706_0 e) ?_
    refine x_aload_n (pc' := 11) rfl rfl rfl rfl rfl ?_
    refine x_aload_n (pc' := 12) rfl rfl rfl rfl rfl ?_
    refine x_gR (pc' := 15) (r := (some 0)) rfl rfl rfl (z_R_706_0 e) ?_
    refine x_aload_n (pc' := 16) rfl rfl rfl rfl rfl ?_
    refine x_iload_n (pc' := 17) rfl rfl rfl ?_
    refine x_cv (ls0 := [_, _, _, sJk, sJk, sJk, sJk, sJk]) (rest := [_, _]) rfl rfl rfl rfl rfl ?_
    refine x_iconst (pc' := 1) rfl rfl ?_
    refine x_istore_n (pc' := 2) (ls' := [_, _, _, _, _, _, _, _]) rfl rfl rfl rfl ?_
    refine x_sipush (pc' := 5) rfl rfl ?_
    refine x_istore (pc' := 7) (ls' := [_, _, _, _, _, _, _, _]) rfl rfl rfl rfl ?_
    refine x_iconst (pc' := 8) rfl rfl ?_
    refine x_istore (pc' := 10) (ls' := [_, _, _, _, _, _, _, _]) rfl rfl rfl rfl ?_
    refine x_iload (pc' := 12) rfl rfl rfl ?_
    refine x_iconst (pc' := 13) rfl rfl ?_
    refine x_icmp (a' := 90) (pc' := 16) (z := false) rfl rfl rfl (by decide) (fun h => by cases h) (fun _ => ?_)
    refine x_aload_n (pc' := 17) rfl rfl rfl rfl rfl ?_
    refine x_aload_n (pc' := 18) rfl rfl rfl rfl rfl ?_
    refine x_iload (pc' := 20) rfl rfl rfl ?_
    refine x_iload_n (pc' := 21) rfl rfl rfl ?_
    refine x_cv (ls0 := [_, _, _, _, sJk, sJk, sJk, sJk]) (rest := []) rfl rfl rfl rfl rfl ?_
    refine x_aload_n (pc' := 1) rfl rfl rfl rfl rfl ?_
    refine x_aload_n (pc' := 2) rfl rfl rfl rfl rfl ?_
    refine x_iload_n (pc' := 3) rfl rfl rfl ?_
    refine x_iconst (pc' := 4) rfl rfl ?_
    refine x_cv (ls0 := [_, _, _, _, sJk, sJk]) (rest := []) rfl rfl rfl rfl rfl ?_
    refine x_aload_n (pc' := 1) rfl rfl rfl rfl rfl ?_
    refine x_gI (pc' := 4) (x := 3) rfl rfl rfl (z_I_64_3 e) ?_
    refine x_iconst (pc' := 5) rfl rfl ?_
    refine x_imul (pc' := 6) (z := 9) rfl rfl (by decide) ?_
    refine x_iload_n (pc' := 7) rfl rfl rfl ?_
    refine x_iadd (pc' := 8) (z := 9) rfl rfl (by decide) ?_
    refine x_iconst (pc' := 9) rfl rfl ?_
    refine x_imul (pc' := 10) (z := 27) rfl rfl (by decide) ?_
    refine x_iload_n (pc' := 11) rfl rfl rfl ?_
    refine x_iadd (pc' := 12) (z := 27) rfl rfl (by decide) ?_
    refine x_istore (pc' := 14) (ls' := [_, _, _, _, _, _]) rfl rfl rfl rfl ?_
    refine x_iload_n (pc' := 15) rfl rfl rfl ?_
    refine x_if (a' := 36) (pc' := 18) (z := false) rfl rfl rfl (by decide) (fun h => by cases h) (fun _ => ?_)
    refine x_iload_n (pc' := 19) rfl rfl rfl ?_
    refine x_iconst (pc' := 20) rfl rfl ?_
    refine x_icmp (a' := 36) (pc' := 23) (z := false) rfl rfl rfl (by decide) (fun h => by cases h) (fun _ => ?_)
    refine x_iload_n (pc' := 24) rfl rfl rfl ?_
    refine x_if (a' := 36) (pc' := 27) (z := false) rfl rfl rfl (by decide) (fun h => by cases h) (fun _ => ?_)
    refine x_iload_n (pc' := 28) rfl rfl rfl ?_
    refine x_iconst (pc' := 29) rfl rfl ?_
    refine x_icmp (a' := 36) (pc' := 32) (z := false) rfl rfl rfl (by decide) (fun h => by cases h) (fun _ => ?_)
    refine x_iconst (pc' := 33) rfl rfl ?_
    refine x_goto (pc' := 37) rfl rfl ?_
    refine x_istore (pc' := 39) (ls' := [_, _, _, _, _, _]) rfl rfl rfl rfl ?_
    refine x_iload (pc' := 41) rfl rfl rfl ?_
    refine x_if (a' := 67) (pc' := 44) (z := false) rfl rfl rfl (by decide) (fun h => by cases h) (fun _ => ?_)
    refine x_iload (pc' := 46) rfl rfl rfl ?_
    refine x_if (a' := 67) (pc' := 49) (z := false) rfl rfl rfl (by decide) (fun h => by cases h) (fun _ => ?_)
    refine x_iload (pc' := 51) rfl rfl rfl ?_
    refine x_getstatic (pc' := 54) rfl rfl (show 0 < sC t 28 from z_st0 e) ?_
    refine x_alen (pc' := 55) (N := 45) rfl rfl rfl (z_N_28_0 e) (?_ : X _ _ _ (.inl 45 :: _) _ _)
    refine x_icmp (a' := 67) (pc' := 58) (z := false) rfl rfl rfl (by decide) (fun h => by cases h) (fun _ => ?_)
    refine x_getstatic (pc' := 61) rfl rfl (show 0 < sC t 28 from z_st0 e) ?_
    refine x_iload (pc' := 63) rfl rfl rfl ?_
    refine x_iald (pc' := 64) (N := 45) (x := 4) rfl rfl rfl (z_N_28_0 e) (io_in (p := 27) (N := 45) (by decide) (by decide)) (Eq.trans (congrArg (sA t 28 0) (nn_io (p := 27) (by decide))) (z_A_28_0_27 e)) ?_
    refine x_goto (pc' := 68) rfl rfl ?_
    refine x_reti rfl rfl ?_
    refine sK_i (pc' := 7) rfl ?_
    refine x_if (a' := 14) (pc' := 10) (z := true) rfl rfl rfl (by decide) (fun _ => ?_) (fun h => by cases h)
    refine x_iconst (pc' := 15) rfl rfl ?_
    refine x_istore (pc' := 17) (ls' := [_, _, _, _, _, _, _, _]) rfl rfl rfl rfl ?_
    refine x_iconst (pc' := 18) rfl rfl ?_
    refine x_istore (pc' := 20) (ls' := [_, _, _, _, _, _, _, _]) rfl rfl rfl rfl ?_
    refine x_iload (pc' := 22) rfl rfl rfl ?_
    refine x_iconst (pc' := 23) rfl rfl ?_
    refine x_icmp (a' := 89) (pc' := 26) (z := false) rfl rfl rfl (by decide) (fun h => by cases h) (fun _ => ?_)
    refine x_aload_n (pc' := 27) rfl rfl rfl rfl rfl ?_
    refine x_aload_n (pc' := 28) rfl rfl rfl rfl rfl ?_
    refine x_iload_n (pc' := 29) rfl rfl rfl ?_
    refine x_iload (pc' := 31) rfl rfl rfl ?_
    refine x_cv (ls0 := [_, _, _, _, sJk, sJk]) (rest := []) rfl rfl rfl rfl rfl ?_
    refine x_aload_n (pc' := 1) rfl rfl rfl rfl rfl ?_
    refine x_gI (pc' := 4) (x := 3) rfl rfl rfl (z_I_64_3 e) ?_
    refine x_iconst (pc' := 5) rfl rfl ?_
    refine x_imul (pc' := 6) (z := 9) rfl rfl (by decide) ?_
    refine x_iload_n (pc' := 7) rfl rfl rfl ?_
    refine x_iadd (pc' := 8) (z := 9) rfl rfl (by decide) ?_
    refine x_iconst (pc' := 9) rfl rfl ?_
    refine x_imul (pc' := 10) (z := 27) rfl rfl (by decide) ?_
    refine x_iload_n (pc' := 11) rfl rfl rfl ?_
    refine x_iadd (pc' := 12) (z := 27) rfl rfl (by decide) ?_
    refine x_istore (pc' := 14) (ls' := [_, _, _, _, _, _]) rfl rfl rfl rfl ?_
    refine x_iload_n (pc' := 15) rfl rfl rfl ?_
    refine x_if (a' := 36) (pc' := 18) (z := false) rfl rfl rfl (by decide) (fun h => by cases h) (fun _ => ?_)
    refine x_iload_n (pc' := 19) rfl rfl rfl ?_
    refine x_iconst (pc' := 20) rfl rfl ?_
    refine x_icmp (a' := 36) (pc' := 23) (z := false) rfl rfl rfl (by decide) (fun h => by cases h) (fun _ => ?_)
    refine x_iload_n (pc' := 24) rfl rfl rfl ?_
    refine x_if (a' := 36) (pc' := 27) (z := false) rfl rfl rfl (by decide) (fun h => by cases h) (fun _ => ?_)
    refine x_iload_n (pc' := 28) rfl rfl rfl ?_
    refine x_iconst (pc' := 29) rfl rfl ?_
    refine x_icmp (a' := 36) (pc' := 32) (z := false) rfl rfl rfl (by decide) (fun h => by cases h) (fun _ => ?_)
    refine x_iconst (pc' := 33) rfl rfl ?_
    refine x_goto (pc' := 37) rfl rfl ?_
    refine x_istore (pc' := 39) (ls' := [_, _, _, _, _, _]) rfl rfl rfl rfl ?_
    refine x_iload (pc' := 41) rfl rfl rfl ?_
    refine x_if (a' := 67) (pc' := 44) (z := false) rfl rfl rfl (by decide) (fun h => by cases h) (fun _ => ?_)
    refine x_iload (pc' := 46) rfl rfl rfl ?_
    refine x_if (a' := 67) (pc' := 49) (z := false) rfl rfl rfl (by decide) (fun h => by cases h) (fun _ => ?_)
    refine x_iload (pc' := 51) rfl rfl rfl ?_
    refine x_getstatic (pc' := 54) rfl rfl (show 0 < sC t 28 from z_st0 e) ?_
    refine x_alen (pc' := 55) (N := 45) rfl rfl rfl (z_N_28_0 e) (?_ : X _ _ _ (.inl 45 :: _) _ _)
    refine x_icmp (a' := 67) (pc' := 58) (z := false) rfl rfl rfl (by decide) (fun h => by cases h) (fun _ => ?_)
    refine x_getstatic (pc' := 61) rfl rfl (show 0 < sC t 28 from z_st0 e) ?_
    refine x_iload (pc' := 63) rfl rfl rfl ?_
    refine x_iald (pc' := 64) (N := 45) (x := 4) rfl rfl rfl (z_N_28_0 e) (io_in (p := 27) (N := 45) (by decide) (by decide)) (Eq.trans (congrArg (sA t 28 0) (nn_io (p := 27) (by decide))) (z_A_28_0_27 e)) ?_
    refine x_goto (pc' := 68) rfl rfl ?_
    refine x_reti rfl rfl ?_
    refine sK_i (pc' := 34) rfl ?_
    refine x_istore (pc' := 36) (ls' := [_, _, _, _, _, _, _, _]) rfl rfl rfl rfl ?_
    refine x_iload (pc' := 38) rfl rfl rfl ?_
    refine x_if (a' := 83) (pc' := 41) (z := false) rfl rfl rfl (by decide) (fun h => by cases h) (fun _ => ?_)
    refine x_aload_n (pc' := 42) rfl rfl rfl rfl rfl ?_
    refine x_iload (pc' := 44) rfl rfl rfl ?_
    refine x_iload_n (pc' := 45) rfl rfl rfl ?_
    refine x_cv (ls0 := [_, _, _, sJk]) (rest := []) rfl rfl rfl rfl rfl ?_
    refine x_iload_n (pc' := 1) rfl rfl rfl ?_
    refine x_abs (pc' := 4) (z := 4) rfl rfl rfl (by decide) ?_
    refine x_iconst (pc' := 5) rfl rfl ?_
    refine x_isub (pc' := 6) (z := 3) rfl rfl (by decide) ?_
    refine x_istore_n (pc' := 7) (ls' := [_, _, _, _]) rfl rfl rfl rfl ?_
    refine x_iload_n (pc' := 8) rfl rfl rfl ?_
    refine x_if (a' := 33) (pc' := 11) (z := false) rfl rfl rfl (by decide) (fun h => by cases h) (fun _ => ?_)
    refine x_iload_n (pc' := 12) rfl rfl rfl ?_
    refine x_aload_n (pc' := 13) rfl rfl rfl rfl rfl ?_
    refine x_gR (pc' := 16) (r := (some 0)) rfl rfl rfl (z_R_640_0 e) ?_
    refine x_alen (pc' := 17) (N := 5) rfl rfl rfl (z_N_24_0 e) (?_ : X _ _ _ (.inl 5 :: _) _ _)
    refine x_icmp (a' := 33) (pc' := 20) (z := false) rfl rfl rfl (by decide) (fun h => by cases h) (fun _ => ?_)
    refine x_aload_n (pc' := 21) rfl rfl rfl rfl rfl ?_
    refine x_gR (pc' := 24) (r := (some 0)) rfl rfl rfl (z_R_640_0 e) ?_
    refine x_iload_n (pc' := 25) rfl rfl rfl ?_
    refine x_aald (pc' := 26) (N := 5) (k' := 1) (r := (some 3)) rfl rfl rfl (z_N_24_0 e) (io_in (p := 3) (N := 5) (by decide) (by decide)) (Eq.trans (congrArg (sE t 24 0) (nn_io (p := 3) (by decide))) (z_E_24_0_3 e)) ?_
    refine x_gI (pc' := 29) (x := 0) rfl rfl rfl (z_I_67_3 e) ?_
    refine x_iconst (pc' := 30) rfl rfl ?_
    refine x_icmp (a' := 35) (pc' := 33) (z := false) rfl rfl rfl (by decide) (fun h => by cases h) (fun _ => ?_)
    refine x_null (pc' := 34) rfl rfl rfl ?_
    refine x_reta rfl rfl ?_
    refine sK_i (pc' := 48) rfl ?_
    refine x_astore (pc' := 50) (ls' := [_, _, _, _, _, _, _, _]) rfl rfl rfl rfl rfl ?_
    refine x_aload (pc' := 52) rfl rfl rfl rfl rfl ?_
    refine x_ifnonnull (a' := 59) (pc' := 55) rfl rfl rfl rfl (fun i h => by cases h) (fun _ => ?_)
    refine x_sipush (pc' := 58) rfl rfl ?_
    refine x_reti rfl rfl ?_
    refine sK_i (pc' := 24) rfl ?_
    refine x_istore (pc' := 26) (ls' := [_, _, _, _, _, _, _, _]) rfl rfl rfl rfl ?_
    refine x_iload_n (pc' := 27) rfl rfl rfl ?_
    have J31 : X 82 57 [.inr (.inr (10, (some 0))), .inr (.inr (1, (some 3))), .inl (bz (!(decide ((xs 2) = 0)))), .inl (-1), .inl (-10000), .inl 0, .inl (-10000), sJk] [.inl 0] t (sK 82 110 17 [.inr (.inr (11, (some 0))), .inl 3, .inl (bz (!(decide ((xs 2) = 0)))), .inr (.inr (1, (some 3)))] [.inr (.inr (1, (some 3))), .inr (.inr (10, (some 0)))] (sK 110 284 5 [.inr (.inr (11, (some 0))), .inl 3, .inl (bz (!(decide ((xs 2) = 0)))), .inr (.inr (23, (some 0))), sJk] [.inl 0, .inr (.inr (23, (some 0)))] (sK 284 297 2122 [.inr (.inr (29, (some 0))), .inr (.inr (11, (some 0))), .inr (.inr (12, (some 0))), .inr (.inr (23, (some 0))), .inl 0, sJk, sJk] [] Qp))) := by
      refine x_istore (pc' := 59) (ls' := [_, _, _, _, _, _, _, _]) rfl rfl rfl rfl ?_
      refine x_iload (pc' := 61) rfl rfl rfl ?_
      refine x_sipush (pc' := 64) rfl rfl ?_
      refine x_icmp (a' := 84) (pc' := 67) (z := true) rfl rfl rfl (by decide) (fun _ => ?_) (fun h => by cases h)
      refine x_iinc (pc' := 87) (y := 1) (ls' := [_, _, _, _, _, _, _, _]) rfl rfl rfl rfl rfl ?_
      refine x_goto (pc' := 10) rfl rfl ?_
      refine x_iload (pc' := 12) rfl rfl rfl ?_
      refine x_iconst (pc' := 13) rfl rfl ?_
      refine x_icmp (a' := 90) (pc' := 16) (z := false) rfl rfl rfl (by decide) (fun h => by cases h) (fun _ => ?_)
      refine x_aload_n (pc' := 17) rfl rfl rfl rfl rfl ?_
      refine x_aload_n (pc' := 18) rfl rfl rfl rfl rfl ?_
      refine x_iload (pc' := 20) rfl rfl rfl ?_
      refine x_iload_n (pc' := 21) rfl rfl rfl ?_
      refine x_cv (ls0 := [_, _, _, _, sJk, sJk, sJk, sJk]) (rest := []) rfl rfl rfl rfl rfl ?_
      refine x_aload_n (pc' := 1) rfl rfl rfl rfl rfl ?_
      refine x_aload_n (pc' := 2) rfl rfl rfl rfl rfl ?_
      refine x_iload_n (pc' := 3) rfl rfl rfl ?_
      refine x_iconst (pc' := 4) rfl rfl ?_
      refine x_cv (ls0 := [_, _, _, _, sJk, sJk]) (rest := []) rfl rfl rfl rfl rfl ?_
      refine x_aload_n (pc' := 1) rfl rfl rfl rfl rfl ?_
      refine x_gI (pc' := 4) (x := 3) rfl rfl rfl (z_I_64_3 e) ?_
      refine x_iconst (pc' := 5) rfl rfl ?_
      refine x_imul (pc' := 6) (z := 9) rfl rfl (by decide) ?_
      refine x_iload_n (pc' := 7) rfl rfl rfl ?_
      refine x_iadd (pc' := 8) (z := 10) rfl rfl (by decide) ?_
      refine x_iconst (pc' := 9) rfl rfl ?_
      refine x_imul (pc' := 10) (z := 30) rfl rfl (by decide) ?_
      refine x_iload_n (pc' := 11) rfl rfl rfl ?_
      refine x_iadd (pc' := 12) (z := 30) rfl rfl (by decide) ?_
      refine x_istore (pc' := 14) (ls' := [_, _, _, _, _, _]) rfl rfl rfl rfl ?_
      refine x_iload_n (pc' := 15) rfl rfl rfl ?_
      refine x_if (a' := 36) (pc' := 18) (z := false) rfl rfl rfl (by decide) (fun h => by cases h) (fun _ => ?_)
      refine x_iload_n (pc' := 19) rfl rfl rfl ?_
      refine x_iconst (pc' := 20) rfl rfl ?_
      refine x_icmp (a' := 36) (pc' := 23) (z := false) rfl rfl rfl (by decide) (fun h => by cases h) (fun _ => ?_)
      refine x_iload_n (pc' := 24) rfl rfl rfl ?_
      refine x_if (a' := 36) (pc' := 27) (z := false) rfl rfl rfl (by decide) (fun h => by cases h) (fun _ => ?_)
      refine x_iload_n (pc' := 28) rfl rfl rfl ?_
      refine x_iconst (pc' := 29) rfl rfl ?_
      refine x_icmp (a' := 36) (pc' := 32) (z := false) rfl rfl rfl (by decide) (fun h => by cases h) (fun _ => ?_)
      refine x_iconst (pc' := 33) rfl rfl ?_
      refine x_goto (pc' := 37) rfl rfl ?_
      refine x_istore (pc' := 39) (ls' := [_, _, _, _, _, _]) rfl rfl rfl rfl ?_
      refine x_iload (pc' := 41) rfl rfl rfl ?_
      refine x_if (a' := 67) (pc' := 44) (z := false) rfl rfl rfl (by decide) (fun h => by cases h) (fun _ => ?_)
      refine x_iload (pc' := 46) rfl rfl rfl ?_
      refine x_if (a' := 67) (pc' := 49) (z := false) rfl rfl rfl (by decide) (fun h => by cases h) (fun _ => ?_)
      refine x_iload (pc' := 51) rfl rfl rfl ?_
      refine x_getstatic (pc' := 54) rfl rfl (show 0 < sC t 28 from z_st0 e) ?_
      refine x_alen (pc' := 55) (N := 45) rfl rfl rfl (z_N_28_0 e) (?_ : X _ _ _ (.inl 45 :: _) _ _)
      refine x_icmp (a' := 67) (pc' := 58) (z := false) rfl rfl rfl (by decide) (fun h => by cases h) (fun _ => ?_)
      refine x_getstatic (pc' := 61) rfl rfl (show 0 < sC t 28 from z_st0 e) ?_
      refine x_iload (pc' := 63) rfl rfl rfl ?_
      refine x_iald (pc' := 64) (N := 45) (x := 1) rfl rfl rfl (z_N_28_0 e) (io_in (p := 30) (N := 45) (by decide) (by decide)) (Eq.trans (congrArg (sA t 28 0) (nn_io (p := 30) (by decide))) (z_A_28_0_30 e)) ?_
      refine x_goto (pc' := 68) rfl rfl ?_
      refine x_reti rfl rfl ?_
      refine sK_i (pc' := 7) rfl ?_
      refine x_if (a' := 14) (pc' := 10) (z := true) rfl rfl rfl (by decide) (fun _ => ?_) (fun h => by cases h)
      refine x_iconst (pc' := 15) rfl rfl ?_
      refine x_istore (pc' := 17) (ls' := [_, _, _, _, _, _, _, _]) rfl rfl rfl rfl ?_
      refine x_iconst (pc' := 18) rfl rfl ?_
      refine x_istore (pc' := 20) (ls' := [_, _, _, _, _, _, _, _]) rfl rfl rfl rfl ?_
      refine x_iload (pc' := 22) rfl rfl rfl ?_
      refine x_iconst (pc' := 23) rfl rfl ?_
      refine x_icmp (a' := 89) (pc' := 26) (z := false) rfl rfl rfl (by decide) (fun h => by cases h) (fun _ => ?_)
      refine x_aload_n (pc' := 27) rfl rfl rfl rfl rfl ?_
      refine x_aload_n (pc' := 28) rfl rfl rfl rfl rfl ?_
      refine x_iload_n (pc' := 29) rfl rfl rfl ?_
      refine x_iload (pc' := 31) rfl rfl rfl ?_
      refine x_cv (ls0 := [_, _, _, _, sJk, sJk]) (rest := []) rfl rfl rfl rfl rfl ?_
      refine x_aload_n (pc' := 1) rfl rfl rfl rfl rfl ?_
      refine x_gI (pc' := 4) (x := 3) rfl rfl rfl (z_I_64_3 e) ?_
      refine x_iconst (pc' := 5) rfl rfl ?_
      refine x_imul (pc' := 6) (z := 9) rfl rfl (by decide) ?_
      refine x_iload_n (pc' := 7) rfl rfl rfl ?_
      refine x_iadd (pc' := 8) (z := 10) rfl rfl (by decide) ?_
      refine x_iconst (pc' := 9) rfl rfl ?_
      refine x_imul (pc' := 10) (z := 30) rfl rfl (by decide) ?_
      refine x_iload_n (pc' := 11) rfl rfl rfl ?_
      refine x_iadd (pc' := 12) (z := 30) rfl rfl (by decide) ?_
      refine x_istore (pc' := 14) (ls' := [_, _, _, _, _, _]) rfl rfl rfl rfl ?_
      refine x_iload_n (pc' := 15) rfl rfl rfl ?_
      refine x_if (a' := 36) (pc' := 18) (z := false) rfl rfl rfl (by decide) (fun h => by cases h) (fun _ => ?_)
      refine x_iload_n (pc' := 19) rfl rfl rfl ?_
      refine x_iconst (pc' := 20) rfl rfl ?_
      refine x_icmp (a' := 36) (pc' := 23) (z := false) rfl rfl rfl (by decide) (fun h => by cases h) (fun _ => ?_)
      refine x_iload_n (pc' := 24) rfl rfl rfl ?_
      refine x_if (a' := 36) (pc' := 27) (z := false) rfl rfl rfl (by decide) (fun h => by cases h) (fun _ => ?_)
      refine x_iload_n (pc' := 28) rfl rfl rfl ?_
      refine x_iconst (pc' := 29) rfl rfl ?_
      refine x_icmp (a' := 36) (pc' := 32) (z := false) rfl rfl rfl (by decide) (fun h => by cases h) (fun _ => ?_)
      refine x_iconst (pc' := 33) rfl rfl ?_
      refine x_goto (pc' := 37) rfl rfl ?_
      refine x_istore (pc' := 39) (ls' := [_, _, _, _, _, _]) rfl rfl rfl rfl ?_
      refine x_iload (pc' := 41) rfl rfl rfl ?_
      refine x_if (a' := 67) (pc' := 44) (z := false) rfl rfl rfl (by decide) (fun h => by cases h) (fun _ => ?_)
      refine x_iload (pc' := 46) rfl rfl rfl ?_
      refine x_if (a' := 67) (pc' := 49) (z := false) rfl rfl rfl (by decide) (fun h => by cases h) (fun _ => ?_)
      refine x_iload (pc' := 51) rfl rfl rfl ?_
      refine x_getstatic (pc' := 54) rfl rfl (show 0 < sC t 28 from z_st0 e) ?_
      refine x_alen (pc' := 55) (N := 45) rfl rfl rfl (z_N_28_0 e) (?_ : X _ _ _ (.inl 45 :: _) _ _)
      refine x_icmp (a' := 67) (pc' := 58) (z := false) rfl rfl rfl (by decide) (fun h => by cases h) (fun _ => ?_)
      refine x_getstatic (pc' := 61) rfl rfl (show 0 < sC t 28 from z_st0 e) ?_
      refine x_iload (pc' := 63) rfl rfl rfl ?_
      refine x_iald (pc' := 64) (N := 45) (x := 1) rfl rfl rfl (z_N_28_0 e) (io_in (p := 30) (N := 45) (by decide) (by decide)) (Eq.trans (congrArg (sA t 28 0) (nn_io (p := 30) (by decide))) (z_A_28_0_30 e)) ?_
      refine x_goto (pc' := 68) rfl rfl ?_
      refine x_reti rfl rfl ?_
      refine sK_i (pc' := 34) rfl ?_
      refine x_istore (pc' := 36) (ls' := [_, _, _, _, _, _, _, _]) rfl rfl rfl rfl ?_
      refine x_iload (pc' := 38) rfl rfl rfl ?_
      refine x_if (a' := 83) (pc' := 41) (z := false) rfl rfl rfl (by decide) (fun h => by cases h) (fun _ => ?_)
      refine x_aload_n (pc' := 42) rfl rfl rfl rfl rfl ?_
      refine x_iload (pc' := 44) rfl rfl rfl ?_
      refine x_iload_n (pc' := 45) rfl rfl rfl ?_
      refine x_cv (ls0 := [_, _, _, sJk]) (rest := []) rfl rfl rfl rfl rfl ?_
      refine x_iload_n (pc' := 1) rfl rfl rfl ?_
      refine x_abs (pc' := 4) (z := 1) rfl rfl rfl (by decide) ?_
      refine x_iconst (pc' := 5) rfl rfl ?_
      refine x_isub (pc' := 6) (z := 0) rfl rfl (by decide) ?_
      refine x_istore_n (pc' := 7) (ls' := [_, _, _, _]) rfl rfl rfl rfl ?_
      refine x_iload_n (pc' := 8) rfl rfl rfl ?_
      refine x_if (a' := 33) (pc' := 11) (z := false) rfl rfl rfl (by decide) (fun h => by cases h) (fun _ => ?_)
      refine x_iload_n (pc' := 12) rfl rfl rfl ?_
      refine x_aload_n (pc' := 13) rfl rfl rfl rfl rfl ?_
      refine x_gR (pc' := 16) (r := (some 0)) rfl rfl rfl (z_R_640_0 e) ?_
      refine x_alen (pc' := 17) (N := 5) rfl rfl rfl (z_N_24_0 e) (?_ : X _ _ _ (.inl 5 :: _) _ _)
      refine x_icmp (a' := 33) (pc' := 20) (z := false) rfl rfl rfl (by decide) (fun h => by cases h) (fun _ => ?_)
      refine x_aload_n (pc' := 21) rfl rfl rfl rfl rfl ?_
      refine x_gR (pc' := 24) (r := (some 0)) rfl rfl rfl (z_R_640_0 e) ?_
      refine x_iload_n (pc' := 25) rfl rfl rfl ?_
      refine x_aald (pc' := 26) (N := 5) (k' := 1) (r := (some 0)) rfl rfl rfl (z_N_24_0 e) (io_in (p := 0) (N := 5) (by decide) (by decide)) (Eq.trans (congrArg (sE t 24 0) (nn_io (p := 0) (by decide))) (z_E_24_0_0 e)) ?_
      refine x_gI (pc' := 29) (x := 0) rfl rfl rfl (z_I_67_0 e) ?_
      refine x_iconst (pc' := 30) rfl rfl ?_
      refine x_icmp (a' := 35) (pc' := 33) (z := false) rfl rfl rfl (by decide) (fun h => by cases h) (fun _ => ?_)
      refine x_null (pc' := 34) rfl rfl rfl ?_
      refine x_reta rfl rfl ?_
      refine sK_i (pc' := 48) rfl ?_
      refine x_astore (pc' := 50) (ls' := [_, _, _, _, _, _, _, _]) rfl rfl rfl rfl rfl ?_
      refine x_aload (pc' := 52) rfl rfl rfl rfl rfl ?_
      refine x_ifnonnull (a' := 59) (pc' := 55) rfl rfl rfl rfl (fun i h => by cases h) (fun _ => ?_)
      refine x_sipush (pc' := 58) rfl rfl ?_
      refine x_reti rfl rfl ?_
      refine sK_i (pc' := 24) rfl ?_
      refine x_istore (pc' := 26) (ls' := [_, _, _, _, _, _, _, _]) rfl rfl rfl rfl ?_
      refine x_iload_n (pc' := 27) rfl rfl rfl ?_
      have J58 : X 82 57 [.inr (.inr (10, (some 0))), .inr (.inr (1, (some 3))), .inl (bz (!(decide ((xs 2) = 0)))), .inl (-1), .inl (-10000), .inl 1, .inl (-10000), .inl 0] [.inl 0] t (sK 82 110 17 [.inr (.inr (11, (some 0))), .inl 3, .inl (bz (!(decide ((xs 2) = 0)))), .inr (.inr (1, (some 3)))] [.inr (.inr (1, (some 3))), .inr (.inr (10, (some 0)))] (sK 110 284 5 [.inr (.inr (11, (some 0))), .inl 3, .inl (bz (!(decide ((xs 2) = 0)))), .inr (.inr (23, (some 0))), sJk] [.inl 0, .inr (.inr (23, (some 0)))] (sK 284 297 2122 [.inr (.inr (29, (some 0))), .inr (.inr (11, (some 0))), .inr (.inr (12, (some 0))), .inr (.inr (23, (some 0))), .inl 0, sJk, sJk] [] Qp))) := by
        refine x_istore (pc' := 59) (ls' := [_, _, _, _, _, _, _, _]) rfl rfl rfl rfl ?_
        refine x_iload (pc' := 61) rfl rfl rfl ?_
        refine x_sipush (pc' := 64) rfl rfl ?_
        refine x_icmp (a' := 84) (pc' := 67) (z := true) rfl rfl rfl (by decide) (fun _ => ?_) (fun h => by cases h)
        refine x_iinc (pc' := 87) (y := 2) (ls' := [_, _, _, _, _, _, _, _]) rfl rfl rfl rfl rfl ?_
        refine x_goto (pc' := 10) rfl rfl ?_
        refine x_iload (pc' := 12) rfl rfl rfl ?_
        refine x_iconst (pc' := 13) rfl rfl ?_
        refine x_icmp (a' := 90) (pc' := 16) (z := false) rfl rfl rfl (by decide) (fun h => by cases h) (fun _ => ?_)
        refine x_aload_n (pc' := 17) rfl rfl rfl rfl rfl ?_
        refine x_aload_n (pc' := 18) rfl rfl rfl rfl rfl ?_
        refine x_iload (pc' := 20) rfl rfl rfl ?_
        refine x_iload_n (pc' := 21) rfl rfl rfl ?_
        refine x_cv (ls0 := [_, _, _, _, sJk, sJk, sJk, sJk]) (rest := []) rfl rfl rfl rfl rfl ?_
        refine x_aload_n (pc' := 1) rfl rfl rfl rfl rfl ?_
        refine x_aload_n (pc' := 2) rfl rfl rfl rfl rfl ?_
        refine x_iload_n (pc' := 3) rfl rfl rfl ?_
        refine x_iconst (pc' := 4) rfl rfl ?_
        refine x_cv (ls0 := [_, _, _, _, sJk, sJk]) (rest := []) rfl rfl rfl rfl rfl ?_
        refine x_aload_n (pc' := 1) rfl rfl rfl rfl rfl ?_
        refine x_gI (pc' := 4) (x := 3) rfl rfl rfl (z_I_64_3 e) ?_
        refine x_iconst (pc' := 5) rfl rfl ?_
        refine x_imul (pc' := 6) (z := 9) rfl rfl (by decide) ?_
        refine x_iload_n (pc' := 7) rfl rfl rfl ?_
        refine x_iadd (pc' := 8) (z := 11) rfl rfl (by decide) ?_
        refine x_iconst (pc' := 9) rfl rfl ?_
        refine x_imul (pc' := 10) (z := 33) rfl rfl (by decide) ?_
        refine x_iload_n (pc' := 11) rfl rfl rfl ?_
        refine x_iadd (pc' := 12) (z := 33) rfl rfl (by decide) ?_
        refine x_istore (pc' := 14) (ls' := [_, _, _, _, _, _]) rfl rfl rfl rfl ?_
        refine x_iload_n (pc' := 15) rfl rfl rfl ?_
        refine x_if (a' := 36) (pc' := 18) (z := false) rfl rfl rfl (by decide) (fun h => by cases h) (fun _ => ?_)
        refine x_iload_n (pc' := 19) rfl rfl rfl ?_
        refine x_iconst (pc' := 20) rfl rfl ?_
        refine x_icmp (a' := 36) (pc' := 23) (z := false) rfl rfl rfl (by decide) (fun h => by cases h) (fun _ => ?_)
        refine x_iload_n (pc' := 24) rfl rfl rfl ?_
        refine x_if (a' := 36) (pc' := 27) (z := false) rfl rfl rfl (by decide) (fun h => by cases h) (fun _ => ?_)
        refine x_iload_n (pc' := 28) rfl rfl rfl ?_
        refine x_iconst (pc' := 29) rfl rfl ?_
        refine x_icmp (a' := 36) (pc' := 32) (z := false) rfl rfl rfl (by decide) (fun h => by cases h) (fun _ => ?_)
        refine x_iconst (pc' := 33) rfl rfl ?_
        refine x_goto (pc' := 37) rfl rfl ?_
        refine x_istore (pc' := 39) (ls' := [_, _, _, _, _, _]) rfl rfl rfl rfl ?_
        refine x_iload (pc' := 41) rfl rfl rfl ?_
        refine x_if (a' := 67) (pc' := 44) (z := false) rfl rfl rfl (by decide) (fun h => by cases h) (fun _ => ?_)
        refine x_iload (pc' := 46) rfl rfl rfl ?_
        refine x_if (a' := 67) (pc' := 49) (z := false) rfl rfl rfl (by decide) (fun h => by cases h) (fun _ => ?_)
        refine x_iload (pc' := 51) rfl rfl rfl ?_
        refine x_getstatic (pc' := 54) rfl rfl (show 0 < sC t 28 from z_st0 e) ?_
        refine x_alen (pc' := 55) (N := 45) rfl rfl rfl (z_N_28_0 e) (?_ : X _ _ _ (.inl 45 :: _) _ _)
        refine x_icmp (a' := 67) (pc' := 58) (z := false) rfl rfl rfl (by decide) (fun h => by cases h) (fun _ => ?_)
        refine x_getstatic (pc' := 61) rfl rfl (show 0 < sC t 28 from z_st0 e) ?_
        refine x_iload (pc' := 63) rfl rfl rfl ?_
        refine x_iald (pc' := 64) (N := 45) (x := 0) rfl rfl rfl (z_N_28_0 e) (io_in (p := 33) (N := 45) (by decide) (by decide)) (Eq.trans (congrArg (sA t 28 0) (nn_io (p := 33) (by decide))) (z_A_28_0_33 e)) ?_
        refine x_goto (pc' := 68) rfl rfl ?_
        refine x_reti rfl rfl ?_
        refine sK_i (pc' := 7) rfl ?_
        refine x_if (a' := 14) (pc' := 10) (z := false) rfl rfl rfl (by decide) (fun h => by cases h) (fun _ => ?_)
        refine x_sipush (pc' := 13) rfl rfl ?_
        refine x_reti rfl rfl ?_
        refine sK_i (pc' := 24) rfl ?_
        refine x_istore (pc' := 26) (ls' := [_, _, _, _, _, _, _, _]) rfl rfl rfl rfl ?_
        refine x_iload_n (pc' := 27) rfl rfl rfl ?_
        have J72 : X 82 57 [.inr (.inr (10, (some 0))), .inr (.inr (1, (some 3))), .inl (bz (!(decide ((xs 2) = 0)))), .inl (-1), .inl (-10000), .inl 2, .inl (-10000), .inl 0] [.inl 0] t (sK 82 110 17 [.inr (.inr (11, (some 0))), .inl 3, .inl (bz (!(decide ((xs 2) = 0)))), .inr (.inr (1, (some 3)))] [.inr (.inr (1, (some 3))), .inr (.inr (10, (some 0)))] (sK 110 284 5 [.inr (.inr (11, (some 0))), .inl 3, .inl (bz (!(decide ((xs 2) = 0)))), .inr (.inr (23, (some 0))), sJk] [.inl 0, .inr (.inr (23, (some 0)))] (sK 284 297 2122 [.inr (.inr (29, (some 0))), .inr (.inr (11, (some 0))), .inr (.inr (12, (some 0))), .inr (.inr (23, (some 0))), .inl 0, sJk, sJk] [] Qp))) := by
          refine x_istore (pc' := 59) (ls' := [_, _, _, _, _, _, _, _]) rfl rfl rfl rfl ?_
          refine x_iload (pc' := 61) rfl rfl rfl ?_
          refine x_sipush (pc' := 64) rfl rfl ?_
          refine x_icmp (a' := 84) (pc' := 67) (z := true) rfl rfl rfl (by decide) (fun _ => ?_) (fun h => by cases h)
          refine x_iinc (pc' := 87) (y := 3) (ls' := [_, _, _, _, _, _, _, _]) rfl rfl rfl rfl rfl ?_
          refine x_goto (pc' := 10) rfl rfl ?_
          refine x_iload (pc' := 12) rfl rfl rfl ?_
          refine x_iconst (pc' := 13) rfl rfl ?_
          refine x_icmp (a' := 90) (pc' := 16) (z := true) rfl rfl rfl (by decide) (fun _ => ?_) (fun h => by cases h)
          refine x_iload_n (pc' := 91) rfl rfl rfl ?_
          refine x_reti rfl rfl ?_
          refine sK_i (pc' := 20) rfl ?_
          refine x_iload_n (pc' := 21) rfl rfl rfl ?_
          refine x_cv (ls0 := [_, _, _, _, sJk, sJk, sJk, sJk]) (rest := []) rfl rfl rfl rfl rfl ?_
          refine x_aload_n (pc' := 1) rfl rfl rfl rfl rfl ?_
          refine x_aload_n (pc' := 2) rfl rfl rfl rfl rfl ?_
          refine x_iload_n (pc' := 3) rfl rfl rfl ?_
          refine x_iconst (pc' := 4) rfl rfl ?_
          refine x_cv (ls0 := [_, _, _, _, sJk, sJk]) (rest := []) rfl rfl rfl rfl rfl ?_
          refine x_aload_n (pc' := 1) rfl rfl rfl rfl rfl ?_
          refine x_gI (pc' := 4) (x := 3) rfl rfl rfl (z_I_64_3 e) ?_
          refine x_iconst (pc' := 5) rfl rfl ?_
          refine x_imul (pc' := 6) (z := 9) rfl rfl (by decide) ?_
          refine x_iload_n (pc' := 7) rfl rfl rfl ?_
          refine x_iadd (pc' := 8) (z := 8) rfl rfl (by decide) ?_
          refine x_iconst (pc' := 9) rfl rfl ?_
          refine x_imul (pc' := 10) (z := 24) rfl rfl (by decide) ?_
          refine x_iload_n (pc' := 11) rfl rfl rfl ?_
          refine x_iadd (pc' := 12) (z := 24) rfl rfl (by decide) ?_
          refine x_istore (pc' := 14) (ls' := [_, _, _, _, _, _]) rfl rfl rfl rfl ?_
          refine x_iload_n (pc' := 15) rfl rfl rfl ?_
          refine x_if (a' := 36) (pc' := 18) (z := true) rfl rfl rfl (by decide) (fun _ => ?_) (fun h => by cases h)
          refine x_iconst (pc' := 37) rfl rfl ?_
          refine x_istore (pc' := 39) (ls' := [_, _, _, _, _, _]) rfl rfl rfl rfl ?_
          refine x_iload (pc' := 41) rfl rfl rfl ?_
          refine x_if (a' := 67) (pc' := 44) (z := true) rfl rfl rfl (by decide) (fun _ => ?_) (fun h => by cases h)
          refine x_iconst (pc' := 68) rfl rfl ?_
          refine x_reti rfl rfl ?_
          refine sK_i (pc' := 7) rfl ?_
          refine x_if (a' := 14) (pc' := 10) (z := false) rfl rfl rfl (by decide) (fun h => by cases h) (fun _ => ?_)
          refine x_sipush (pc' := 13) rfl rfl ?_
          refine x_reti rfl rfl ?_
          refine sK_i (pc' := 24) rfl ?_
          refine x_reti rfl rfl ?_
          refine sK_i (pc' := 8) rfl ?_
          refine x_i2l (pc' := 9) (z := (-10000 : Int64)) rfl rfl (by decide) ?_
          refine x_last (pc' := 10) (N := 1) (p := 0) rfl rfl (z_N_23_0 e) (io_in (p := 0) (N := 1) (by decide) (by decide)) (nn_io (p := 0) (by decide)) ?_
          refine x_goto (pc' := 17) rfl rfl ?_
          refine x_iconst (pc' := 18) rfl rfl ?_
          refine x_reti rfl rfl ?_
          refine sK_i (pc' := 2125) rfl ?_
          exact k0
        refine x_ifeq_z (a' := 45) (pc' := 30) (z := (!(decide ((xs 2) = 0)))) rfl rfl rfl (fun q70 => ?_) (fun q70 => ?_)
        · refine x_iload (pc' := 47) rfl rfl rfl ?_
          refine x_iload (pc' := 49) rfl rfl rfl ?_
          refine x_icmp (a' := 56) (pc' := 52) (z := true) rfl rfl rfl (by decide) (fun _ => ?_) (fun h => by cases h)
          refine x_iconst (pc' := 57) rfl rfl ?_
          ((try rw [q70] at J72); (try rw [q70]); (try simp only [cd_t, cd_f, nt_t, nt_f, an_t, an_f, or_t, or_f] at J72); (try simp only [cd_t, cd_f, nt_t, nt_f, an_t, an_f, or_t, or_f]); exact J72)
        · refine x_iload (pc' := 32) rfl rfl rfl ?_
          refine x_iload (pc' := 34) rfl rfl rfl ?_
          refine x_icmp (a' := 41) (pc' := 37) (z := true) rfl rfl rfl (by decide) (fun _ => ?_) (fun h => by cases h)
          refine x_iconst (pc' := 42) rfl rfl ?_
          refine x_goto (pc' := 57) rfl rfl ?_
          ((try rw [q70] at J72); (try rw [q70]); (try simp only [cd_t, cd_f, nt_t, nt_f, an_t, an_f, or_t, or_f] at J72); (try simp only [cd_t, cd_f, nt_t, nt_f, an_t, an_f, or_t, or_f]); exact J72)
      refine x_ifeq_z (a' := 45) (pc' := 30) (z := (!(decide ((xs 2) = 0)))) rfl rfl rfl (fun q56 => ?_) (fun q56 => ?_)
      · refine x_iload (pc' := 47) rfl rfl rfl ?_
        refine x_iload (pc' := 49) rfl rfl rfl ?_
        refine x_icmp (a' := 56) (pc' := 52) (z := true) rfl rfl rfl (by decide) (fun _ => ?_) (fun h => by cases h)
        refine x_iconst (pc' := 57) rfl rfl ?_
        ((try rw [q56] at J58); (try rw [q56]); (try simp only [cd_t, cd_f, nt_t, nt_f, an_t, an_f, or_t, or_f] at J58); (try simp only [cd_t, cd_f, nt_t, nt_f, an_t, an_f, or_t, or_f]); exact J58)
      · refine x_iload (pc' := 32) rfl rfl rfl ?_
        refine x_iload (pc' := 34) rfl rfl rfl ?_
        refine x_icmp (a' := 41) (pc' := 37) (z := true) rfl rfl rfl (by decide) (fun _ => ?_) (fun h => by cases h)
        refine x_iconst (pc' := 42) rfl rfl ?_
        refine x_goto (pc' := 57) rfl rfl ?_
        ((try rw [q56] at J58); (try rw [q56]); (try simp only [cd_t, cd_f, nt_t, nt_f, an_t, an_f, or_t, or_f] at J58); (try simp only [cd_t, cd_f, nt_t, nt_f, an_t, an_f, or_t, or_f]); exact J58)
    refine x_ifeq_z (a' := 45) (pc' := 30) (z := (!(decide ((xs 2) = 0)))) rfl rfl rfl (fun q29 => ?_) (fun q29 => ?_)
    · refine x_iload (pc' := 47) rfl rfl rfl ?_
      refine x_iload (pc' := 49) rfl rfl rfl ?_
      refine x_icmp (a' := 56) (pc' := 52) (z := true) rfl rfl rfl (by decide) (fun _ => ?_) (fun h => by cases h)
      refine x_iconst (pc' := 57) rfl rfl ?_
      ((try rw [q29] at J31); (try rw [q29]); (try simp only [cd_t, cd_f, nt_t, nt_f, an_t, an_f, or_t, or_f] at J31); (try simp only [cd_t, cd_f, nt_t, nt_f, an_t, an_f, or_t, or_f]); exact J31)
    · refine x_iload (pc' := 32) rfl rfl rfl ?_
      refine x_iload (pc' := 34) rfl rfl rfl ?_
      refine x_icmp (a' := 41) (pc' := 37) (z := true) rfl rfl rfl (by decide) (fun _ => ?_) (fun h => by cases h)
      refine x_iconst (pc' := 42) rfl rfl ?_
      refine x_goto (pc' := 57) rfl rfl ?_
      ((try rw [q29] at J31); (try rw [q29]); (try simp only [cd_t, cd_f, nt_t, nt_f, an_t, an_f, or_t, or_f] at J31); (try simp only [cd_t, cd_f, nt_t, nt_f, an_t, an_f, or_t, or_f]); exact J31)
  refine x_if (a' := 2120) (pc' := 2116) (z := decide ((xs 2) = 0)) rfl rfl rfl rfl (fun q3 => ?_) (fun q3 => ?_)
  · refine x_iconst (pc' := 2121) rfl rfl ?_
    ((try rw [q3] at J3); (try rw [q3]); (try simp only [cd_t, cd_f, nt_t, nt_f, an_t, an_f, or_t, or_f] at J3); (try simp only [cd_t, cd_f, nt_t, nt_f, an_t, an_f, or_t, or_f]); exact J3)
  · refine x_iconst (pc' := 2117) rfl rfl ?_
    refine x_goto (pc' := 2121) rfl rfl ?_
    ((try rw [q3] at J3); (try rw [q3]); (try simp only [cd_t, cd_f, nt_t, nt_f, an_t, an_f, or_t, or_f] at J3); (try simp only [cd_t, cd_f, nt_t, nt_f, an_t, an_f, or_t, or_f]); exact J3)
set_option maxHeartbeats 4000000 in
set_option maxRecDepth 10000 in
theorem v_26_4_i_2 {t : sT} {xs : Nat → Int32}
    (e : t = T16 7 xs)
    (hk : ((xs 0) &&& 63) = 26)
    (e0 : xs 1 = 4) :
    X 297 2125 [.inr (.inr (29, (some 0))), .inr (.inr (11, (some 0))), .inr (.inr (12, (some 0))), .inr (.inr (23, (some 0))), .inl 0, sJk, sJk] [.inl 0] (sLw t 23 0 0 (-10000 : Int64)) Qp := by
  refine x_istore (pc' := 2127) (ls' := [_, _, _, _, _, _, _]) rfl rfl rfl rfl ?_
  refine x_aload_n (pc' := 2128) rfl rfl rfl rfl rfl ?_
  refine x_aload_n (pc' := 2129) rfl rfl rfl rfl rfl ?_
  refine x_iload (pc' := 2131) rfl rfl rfl ?_
  refine x_iconst (pc' := 2132) rfl rfl ?_
  refine x_iadd (pc' := 2133) (z := 1) rfl rfl (by decide) ?_
  refine x_iald (pc' := 2134) (N := 7) (x := 4) rfl rfl rfl (Eq.trans rdNL (z_N_29_0 e)) (io_in (p := 1) (N := 7) (by decide) (by decide)) (Eq.trans (congrArg (sA (sLw t 23 0 0 (-10000 : Int64)) 29 0) (nn_io (p := 1) (by decide))) (Eq.trans rdAL (Eq.trans (z_A_29_0_1 e) e0))) ?_
  refine x_aload_n (pc' := 2135) rfl rfl rfl rfl rfl ?_
  refine x_iload (pc' := 2137) rfl rfl rfl ?_
  refine x_iconst (pc' := 2138) rfl rfl ?_
  refine x_iadd (pc' := 2139) (z := 2) rfl rfl (by decide) ?_
  refine x_iald (pc' := 2140) (N := 7) (x := (xs 2)) rfl rfl rfl (Eq.trans rdNL (z_N_29_0 e)) (io_in (p := 2) (N := 7) (by decide) (by decide)) (Eq.trans (congrArg (sA (sLw t 23 0 0 (-10000 : Int64)) 29 0) (nn_io (p := 2) (by decide))) (Eq.trans rdAL (z_A_29_0_2 e))) ?_
  have J5001 : X 297 2148 [.inr (.inr (29, (some 0))), .inr (.inr (11, (some 0))), .inr (.inr (12, (some 0))), .inr (.inr (23, (some 0))), .inl 0, .inl 0, sJk] [.inl (bz (!(decide ((xs 2) = 0)))), .inl 4, .inr (.inr (12, (some 0)))] (sLw t 23 0 0 (-10000 : Int64)) Qp := by
    refine x_cv (ls0 := [_, _, _, sJk]) (rest := []) rfl rfl rfl rfl rfl ?_
    refine x_aload_n (pc' := 1) rfl rfl rfl rfl rfl ?_
    refine x_iload_n (pc' := 2) rfl rfl rfl ?_
    refine x_cs (ls0 := [_]) (rest := [_]) rfl rfl rfl rfl ?_
    refine x_iload_n (pc' := 1) rfl rfl rfl ?_
    refine x_iconst (pc' := 2) rfl rfl ?_
    refine x_iconst (pc' := 3) rfl rfl ?_
    refine x_cs (ls0 := [_, _, _]) (rest := []) rfl rfl rfl rfl ?_
    refine x_iload_n (pc' := 1) rfl rfl rfl ?_
    refine x_iload_n (pc' := 2) rfl rfl rfl ?_
    refine x_icmp (a' := 14) (pc' := 5) (z := false) rfl rfl rfl (by decide) (fun h => by cases h) (fun _ => ?_)
    refine x_iload_n (pc' := 6) rfl rfl rfl ?_
    refine x_iload_n (pc' := 7) rfl rfl rfl ?_
    refine x_icmp (a' := 14) (pc' := 10) (z := false) rfl rfl rfl (by decide) (fun h => by cases h) (fun _ => ?_)
    refine x_iconst (pc' := 11) rfl rfl ?_
    refine x_goto (pc' := 15) rfl rfl ?_
    refine x_retz (z := true) rfl rfl ?_
    refine sK_i (pc' := 6) rfl ?_
    refine x_retz (z := true) rfl rfl ?_
    refine sK_i (pc' := 5) rfl ?_
    refine x_if (a' := 12) (pc' := 8) (z := false) rfl rfl rfl (by decide) (fun h => by cases h) (fun _ => ?_)
    refine x_iconst (pc' := 9) rfl rfl ?_
    refine x_goto (pc' := 13) rfl rfl ?_
    refine x_cv (ls0 := [_, _]) (rest := []) rfl rfl rfl rfl rfl ?_
    refine x_aload_n (pc' := 1) rfl rfl rfl rfl rfl ?_
    refine x_iload_n (pc' := 2) rfl rfl rfl ?_
    refine x_pI (pc' := 5) rfl rfl rfl ?_
    refine x_iload_n (pc' := 6) rfl rfl rfl ?_
    refine x_if (a' := 13) (pc' := 9) (z := false) rfl rfl rfl (by decide) (fun h => by cases h) (fun _ => ?_)
    refine x_iconst (pc' := 10) rfl rfl ?_
    refine x_goto (pc' := 14) rfl rfl ?_
    refine x_retz (z := true) rfl rfl ?_
    refine sK_i (pc' := 16) rfl ?_
    refine x_if (a' := 21) (pc' := 19) (z := true) rfl rfl rfl (by decide) (fun _ => ?_) (fun h => by cases h)
    refine x_aload_n (pc' := 22) rfl rfl rfl rfl rfl ?_
    refine x_iload_n (pc' := 23) rfl rfl rfl ?_
    refine x_iload_n (pc' := 24) rfl rfl rfl ?_
    refine x_cv (ls0 := [_, _, _, sJk, sJk, sJk, sJk, sJk]) (rest := []) rfl rfl rfl rfl rfl ?_
    refine x_iconst (pc' := 1) rfl rfl ?_
    refine x_istore_n (pc' := 2) (ls' := [_, _, _, _, _, _, _, _]) rfl rfl rfl rfl ?_
    refine x_iconst (pc' := 3) rfl rfl ?_
    refine x_istore (pc' := 5) (ls' := [_, _, _, _, _, _, _, _]) rfl rfl rfl rfl ?_
    refine x_iconst (pc' := 6) rfl rfl ?_
    refine x_istore (pc' := 8) (ls' := [_, _, _, _, _, _, _, _]) rfl rfl rfl rfl ?_
    refine x_iload (pc' := 10) rfl rfl rfl ?_
    refine x_iconst (pc' := 11) rfl rfl ?_
    refine x_icmp (a' := 99) (pc' := 14) (z := false) rfl rfl rfl (by decide) (fun h => by cases h) (fun _ => ?_)
    refine x_aload_n (pc' := 15) rfl rfl rfl rfl rfl ?_
    refine x_iload_n (pc' := 16) rfl rfl rfl ?_
    refine x_iload_n (pc' := 17) rfl rfl rfl ?_
    refine x_iload (pc' := 19) rfl rfl rfl ?_
    refine x_cv (ls0 := [_, _, _, _, sJk, sJk, sJk]) (rest := []) rfl rfl rfl rfl rfl ?_
    refine x_iload_n (pc' := 1) rfl rfl rfl ?_
    refine x_iload_n (pc' := 2) rfl rfl rfl ?_
    refine x_iconst (pc' := 3) rfl rfl ?_
    refine x_cs (ls0 := [_, _, _, sJk, sJk, sJk]) (rest := []) rfl rfl rfl rfl ?_
    refine x_getstatic (pc' := 3) rfl rfl (show 1 < sC t 28 from z_st1 e) ?_
    refine x_iconst (pc' := 4) rfl rfl ?_
    refine x_iload_n (pc' := 5) rfl rfl rfl ?_
    refine x_imul (pc' := 6) (z := 12) rfl rfl (by decide) ?_
    refine x_iload_n (pc' := 7) rfl rfl rfl ?_
    refine x_iadd (pc' := 8) (z := 12) rfl rfl (by decide) ?_
    refine x_iald (pc' := 9) (N := 15) (x := 5) rfl rfl rfl (Eq.trans rdNI (Eq.trans rdNL (z_N_28_1 e))) (io_in (p := 12) (N := 15) (by decide) (by decide)) (Eq.trans (congrArg (sA (sIw (sLw t 23 0 0 (-10000 : Int64)) 768 0 0) 28 1) (nn_io (p := 12) (by decide))) (Eq.trans rdAI (Eq.trans rdAL (z_A_28_1_12 e)))) ?_
    refine x_istore_n (pc' := 10) (ls' := [_, _, _, _, _, _]) rfl rfl rfl rfl ?_
    refine x_iload_n (pc' := 11) rfl rfl rfl ?_
    refine x_bipush (pc' := 13) rfl rfl ?_
    refine x_icmp (a' := 20) (pc' := 16) (z := true) rfl rfl rfl (by decide) (fun _ => ?_) (fun h => by cases h)
    refine x_iload_n (pc' := 21) rfl rfl rfl ?_
    refine x_bipush (pc' := 23) rfl rfl ?_
    refine x_icmp (a' := 30) (pc' := 26) (z := true) rfl rfl rfl (by decide) (fun _ => ?_) (fun h => by cases h)
    refine x_iload_n (pc' := 31) rfl rfl rfl ?_
    refine x_if (a' := 38) (pc' := 34) (z := false) rfl rfl rfl (by decide) (fun h => by cases h) (fun _ => ?_)
    refine x_iconst (pc' := 35) rfl rfl ?_
    refine x_goto (pc' := 39) rfl rfl ?_
    refine x_istore (pc' := 41) (ls' := [_, _, _, _, _, _]) rfl rfl rfl rfl ?_
    refine x_iload (pc' := 43) rfl rfl rfl ?_
    refine x_iload_n (pc' := 44) rfl rfl rfl ?_
    refine x_isub (pc' := 45) (z := 1) rfl rfl (by decide) ?_
    refine x_istore (pc' := 47) (ls' := [_, _, _, _, _, _]) rfl rfl rfl rfl ?_
    refine x_iload (pc' := 49) rfl rfl rfl ?_
    refine x_if (a' := 56) (pc' := 52) (z := true) rfl rfl rfl (by decide) (fun _ => ?_) (fun h => by cases h)
    refine x_iload (pc' := 58) rfl rfl rfl ?_
    refine x_iconst (pc' := 59) rfl rfl ?_
    refine x_icmp (a' := 69) (pc' := 62) (z := true) rfl rfl rfl (by decide) (fun _ => ?_) (fun h => by cases h)
    refine x_iload (pc' := 71) rfl rfl rfl ?_
    refine x_iconst (pc' := 72) rfl rfl ?_
    refine x_icmp (a' := 85) (pc' := 75) (z := true) rfl rfl rfl (by decide) (fun _ => ?_) (fun h => by cases h)
    refine x_iload_n (pc' := 86) rfl rfl rfl ?_
    refine x_bipush (pc' := 88) rfl rfl ?_
    refine x_irem (pc' := 89) (z := 5) rfl rfl (by decide) (by decide +kernel) ?_
    refine x_iconst (pc' := 90) rfl rfl ?_
    refine x_isub (pc' := 91) (z := 4) rfl rfl (by decide) ?_
    refine x_reti rfl rfl ?_
    refine sK_i (pc' := 6) rfl ?_
    refine x_iconst (pc' := 7) rfl rfl ?_
    refine x_icmp (a' := 14) (pc' := 10) (z := false) rfl rfl rfl (by decide) (fun h => by cases h) (fun _ => ?_)
    refine x_iconst (pc' := 11) rfl rfl ?_
    refine x_goto (pc' := 15) rfl rfl ?_
    refine x_istore (pc' := 17) (ls' := [_, _, _, _, _, _, _]) rfl rfl rfl rfl ?_
    refine x_aload_n (pc' := 18) rfl rfl rfl rfl rfl ?_
    refine x_iconst (pc' := 19) rfl rfl ?_
    refine x_pI (pc' := 22) rfl rfl rfl ?_
    refine x_iconst (pc' := 23) rfl rfl ?_
    refine x_istore (pc' := 25) (ls' := [_, _, _, _, _, _, _]) rfl rfl rfl rfl ?_
    refine x_iload (pc' := 27) rfl rfl rfl ?_
    refine x_iconst (pc' := 28) rfl rfl ?_
    refine x_icmp (a' := 129) (pc' := 31) (z := false) rfl rfl rfl (by decide) (fun h => by cases h) (fun _ => ?_)
    refine x_iload (pc' := 33) rfl rfl rfl ?_
    refine x_if (a' := 129) (pc' := 36) (z := false) rfl rfl rfl (by decide) (fun h => by cases h) (fun _ => ?_)
    refine x_iload_n (pc' := 37) rfl rfl rfl ?_
    refine x_iload_n (pc' := 38) rfl rfl rfl ?_
    refine x_iload (pc' := 40) rfl rfl rfl ?_
    refine x_cs (ls0 := [_, _, _, sJk, sJk, sJk]) (rest := []) rfl rfl rfl rfl ?_
    refine x_getstatic (pc' := 3) rfl rfl (show 1 < sC t 28 from z_st1 e) ?_
    refine x_iconst (pc' := 4) rfl rfl ?_
    refine x_iload_n (pc' := 5) rfl rfl rfl ?_
    refine x_imul (pc' := 6) (z := 12) rfl rfl (by decide) ?_
    refine x_iload_n (pc' := 7) rfl rfl rfl ?_
    refine x_iadd (pc' := 8) (z := 12) rfl rfl (by decide) ?_
    refine x_iald (pc' := 9) (N := 15) (x := 5) rfl rfl rfl (Eq.trans rdNI (Eq.trans rdNI (Eq.trans rdNL (z_N_28_1 e)))) (io_in (p := 12) (N := 15) (by decide) (by decide)) (Eq.trans (congrArg (sA (sIw (sIw (sLw t 23 0 0 (-10000 : Int64)) 768 0 0) 811 0 0) 28 1) (nn_io (p := 12) (by decide))) (Eq.trans rdAI (Eq.trans rdAI (Eq.trans rdAL (z_A_28_1_12 e))))) ?_
    refine x_istore_n (pc' := 10) (ls' := [_, _, _, _, _, _]) rfl rfl rfl rfl ?_
    refine x_iload_n (pc' := 11) rfl rfl rfl ?_
    refine x_bipush (pc' := 13) rfl rfl ?_
    refine x_icmp (a' := 20) (pc' := 16) (z := true) rfl rfl rfl (by decide) (fun _ => ?_) (fun h => by cases h)
    refine x_iload_n (pc' := 21) rfl rfl rfl ?_
    refine x_bipush (pc' := 23) rfl rfl ?_
    refine x_icmp (a' := 30) (pc' := 26) (z := true) rfl rfl rfl (by decide) (fun _ => ?_) (fun h => by cases h)
    refine x_iload_n (pc' := 31) rfl rfl rfl ?_
    refine x_if (a' := 38) (pc' := 34) (z := false) rfl rfl rfl (by decide) (fun h => by cases h) (fun _ => ?_)
    refine x_iconst (pc' := 35) rfl rfl ?_
    refine x_goto (pc' := 39) rfl rfl ?_
    refine x_istore (pc' := 41) (ls' := [_, _, _, _, _, _]) rfl rfl rfl rfl ?_
    refine x_iload (pc' := 43) rfl rfl rfl ?_
    refine x_iload_n (pc' := 44) rfl rfl rfl ?_
    refine x_isub (pc' := 45) (z := 1) rfl rfl (by decide) ?_
    refine x_istore (pc' := 47) (ls' := [_, _, _, _, _, _]) rfl rfl rfl rfl ?_
    refine x_iload (pc' := 49) rfl rfl rfl ?_
    refine x_if (a' := 56) (pc' := 52) (z := true) rfl rfl rfl (by decide) (fun _ => ?_) (fun h => by cases h)
    refine x_iload (pc' := 58) rfl rfl rfl ?_
    refine x_iconst (pc' := 59) rfl rfl ?_
    refine x_icmp (a' := 69) (pc' := 62) (z := true) rfl rfl rfl (by decide) (fun _ => ?_) (fun h => by cases h)
    refine x_iload (pc' := 71) rfl rfl rfl ?_
    refine x_iconst (pc' := 72) rfl rfl ?_
    refine x_icmp (a' := 85) (pc' := 75) (z := true) rfl rfl rfl (by decide) (fun _ => ?_) (fun h => by cases h)
    refine x_iload_n (pc' := 86) rfl rfl rfl ?_
    refine x_bipush (pc' := 88) rfl rfl ?_
    refine x_irem (pc' := 89) (z := 5) rfl rfl (by decide) (by decide +kernel) ?_
    refine x_iconst (pc' := 90) rfl rfl ?_
    refine x_isub (pc' := 91) (z := 4) rfl rfl (by decide) ?_
    refine x_reti rfl rfl ?_
    refine sK_i (pc' := 43) rfl ?_
    refine x_istore (pc' := 45) (ls' := [_, _, _, _, _, _, _]) rfl rfl rfl rfl ?_
    refine x_iload (pc' := 47) rfl rfl rfl ?_
    refine x_iconst (pc' := 48) rfl rfl ?_
    refine x_icmp (a' := 123) (pc' := 51) (z := false) rfl rfl rfl (by decide) (fun h => by cases h) (fun _ => ?_)
    refine x_aload_n (pc' := 52) rfl rfl rfl rfl rfl ?_
    refine x_gR (pc' := 55) (r := (some 27)) rfl rfl rfl (Eq.trans rdRI (Eq.trans rdRI (Eq.trans rdRL (z_R_809_0 e)))) ?_
    refine x_aload_n (pc' := 56) rfl rfl rfl rfl rfl ?_
    refine x_gI (pc' := 59) (x := 0) rfl rfl rfl sI_s ?_
    refine x_aload_n (pc' := 60) rfl rfl rfl rfl rfl ?_
    refine x_iload (pc' := 62) rfl rfl rfl ?_
    refine x_iload_n (pc' := 63) rfl rfl rfl ?_
    refine x_iload_n (pc' := 64) rfl rfl rfl ?_
    refine x_iload (pc' := 66) rfl rfl rfl ?_
    refine x_cs (ls0 := [_, _, _, sJk]) (rest := [_, _, _, _]) rfl rfl rfl rfl ?_
    refine x_iload_n (pc' := 1) rfl rfl rfl ?_
    refine x_iload_n (pc' := 2) rfl rfl rfl ?_
    refine x_iload_n (pc' := 3) rfl rfl rfl ?_
    refine x_cs (ls0 := [_, _, _, sJk, sJk, sJk]) (rest := []) rfl rfl rfl rfl ?_
    refine x_getstatic (pc' := 3) rfl rfl (show 1 < sC t 28 from z_st1 e) ?_
    refine x_iconst (pc' := 4) rfl rfl ?_
    refine x_iload_n (pc' := 5) rfl rfl rfl ?_
    refine x_imul (pc' := 6) (z := 12) rfl rfl (by decide) ?_
    refine x_iload_n (pc' := 7) rfl rfl rfl ?_
    refine x_iadd (pc' := 8) (z := 12) rfl rfl (by decide) ?_
    refine x_iald (pc' := 9) (N := 15) (x := 5) rfl rfl rfl (Eq.trans rdNI (Eq.trans rdNI (Eq.trans rdNL (z_N_28_1 e)))) (io_in (p := 12) (N := 15) (by decide) (by decide)) (Eq.trans (congrArg (sA (sIw (sIw (sLw t 23 0 0 (-10000 : Int64)) 768 0 0) 811 0 0) 28 1) (nn_io (p := 12) (by decide))) (Eq.trans rdAI (Eq.trans rdAI (Eq.trans rdAL (z_A_28_1_12 e))))) ?_
    refine x_istore_n (pc' := 10) (ls' := [_, _, _, _, _, _]) rfl rfl rfl rfl ?_
    refine x_iload_n (pc' := 11) rfl rfl rfl ?_
    refine x_bipush (pc' := 13) rfl rfl ?_
    refine x_icmp (a' := 20) (pc' := 16) (z := true) rfl rfl rfl (by decide) (fun _ => ?_) (fun h => by cases h)
    refine x_iload_n (pc' := 21) rfl rfl rfl ?_
    refine x_bipush (pc' := 23) rfl rfl ?_
    refine x_icmp (a' := 30) (pc' := 26) (z := true) rfl rfl rfl (by decide) (fun _ => ?_) (fun h => by cases h)
    refine x_iload_n (pc' := 31) rfl rfl rfl ?_
    refine x_if (a' := 38) (pc' := 34) (z := false) rfl rfl rfl (by decide) (fun h => by cases h) (fun _ => ?_)
    refine x_iconst (pc' := 35) rfl rfl ?_
    refine x_goto (pc' := 39) rfl rfl ?_
    refine x_istore (pc' := 41) (ls' := [_, _, _, _, _, _]) rfl rfl rfl rfl ?_
    refine x_iload (pc' := 43) rfl rfl rfl ?_
    refine x_iload_n (pc' := 44) rfl rfl rfl ?_
    refine x_isub (pc' := 45) (z := 1) rfl rfl (by decide) ?_
    refine x_istore (pc' := 47) (ls' := [_, _, _, _, _, _]) rfl rfl rfl rfl ?_
    refine x_iload (pc' := 49) rfl rfl rfl ?_
    refine x_if (a' := 56) (pc' := 52) (z := true) rfl rfl rfl (by decide) (fun _ => ?_) (fun h => by cases h)
    refine x_iload (pc' := 58) rfl rfl rfl ?_
    refine x_iconst (pc' := 59) rfl rfl ?_
    refine x_icmp (a' := 69) (pc' := 62) (z := true) rfl rfl rfl (by decide) (fun _ => ?_) (fun h => by cases h)
    refine x_iload (pc' := 71) rfl rfl rfl ?_
    refine x_iconst (pc' := 72) rfl rfl ?_
    refine x_icmp (a' := 85) (pc' := 75) (z := true) rfl rfl rfl (by decide) (fun _ => ?_) (fun h => by cases h)
    refine x_iload_n (pc' := 86) rfl rfl rfl ?_
    refine x_bipush (pc' := 88) rfl rfl ?_
    refine x_irem (pc' := 89) (z := 5) rfl rfl (by decide) (by decide +kernel) ?_
    refine x_iconst (pc' := 90) rfl rfl ?_
    refine x_isub (pc' := 91) (z := 4) rfl rfl (by decide) ?_
    refine x_reti rfl rfl ?_
    refine sK_i (pc' := 6) rfl ?_
    refine x_istore_n (pc' := 7) (ls' := [_, _, _, _]) rfl rfl rfl rfl ?_
    refine x_iload_n (pc' := 8) rfl rfl rfl ?_
    refine x_iconst (pc' := 9) rfl rfl ?_
    refine x_icmp (a' := 31) (pc' := 12) (z := true) rfl rfl rfl (by decide) (fun _ => ?_) (fun h => by cases h)
    refine x_iload_n (pc' := 32) rfl rfl rfl ?_
    refine x_iconst (pc' := 33) rfl rfl ?_
    refine x_icmp (a' := 45) (pc' := 36) (z := true) rfl rfl rfl (by decide) (fun _ => ?_) (fun h => by cases h)
    refine x_iconst (pc' := 46) rfl rfl ?_
    refine x_retz (z := false) rfl rfl ?_
    refine sK_i (pc' := 69) rfl ?_
    refine x_iload_n (pc' := 70) rfl rfl rfl ?_
    have J5033 : X 159 78 [.inr (.inr (12, (some 0))), .inl 4, .inl (bz (!(decide ((xs 2) = 0)))), .inl 0, .inl 1, .inl 0, .inl 4] [.inl (bz (!(xor false (!(decide ((xs 2) = 0)))))), .inl 4, .inr (.inr (12, (some 0))), .inl 0, .inr (.inr (21, (some 27)))] (sIw (sIw (sLw t 23 0 0 (-10000 : Int64)) 768 0 0) 811 0 0) (sK 159 161 19 [.inr (.inr (12, (some 0))), .inl 4, .inl (bz (!(decide ((xs 2) = 0)))), .inl (-1), .inl 0, .inl 0, sJk, sJk] [] (sK 161 228 24 [.inr (.inr (12, (some 0))), .inl 4, .inl (bz (!(decide ((xs 2) = 0)))), sJk] [] (sK 228 297 2148 [.inr (.inr (29, (some 0))), .inr (.inr (11, (some 0))), .inr (.inr (12, (some 0))), .inr (.inr (23, (some 0))), .inl 0, .inl 0, sJk] [] Qp))) := by
      refine x_cv (ls0 := [_, _, _, sJk, sJk, sJk]) (rest := [_, _]) rfl rfl rfl rfl rfl ?_
      refine x_iconst (pc' := 1) rfl rfl ?_
      refine x_istore_n (pc' := 2) (ls' := [_, _, _, _, _, _]) rfl rfl rfl rfl ?_
      refine x_iconst (pc' := 3) rfl rfl ?_
      refine x_istore (pc' := 5) (ls' := [_, _, _, _, _, _]) rfl rfl rfl rfl ?_
      refine x_iload (pc' := 7) rfl rfl rfl ?_
      refine x_aload_n (pc' := 8) rfl rfl rfl rfl rfl ?_
      refine x_gI (pc' := 11) (x := 0) rfl rfl rfl (Eq.trans (rdI_F rfl) (Eq.trans (rdI_F rfl) (Eq.trans rdIL (z_I_786_0 e)))) ?_
      refine x_icmp (a' := 87) (pc' := 14) (z := true) rfl rfl rfl (by decide) (fun _ => ?_) (fun h => by cases h)
      refine x_iload_n (pc' := 88) rfl rfl rfl ?_
      refine x_reti rfl rfl ?_
      refine sK_i (pc' := 81) rfl ?_
      refine x_iast (pc' := 82) (N := 200) (p := 0) rfl rfl rfl (Eq.trans rdNI (Eq.trans rdNI (Eq.trans rdNL (z_N_21_27 e)))) (io_in (p := 0) (N := 200) (by decide) (by decide)) (nn_io (p := 0) (by decide)) ?_
      refine x_aload_n (pc' := 83) rfl rfl rfl rfl rfl ?_
      refine x_gR (pc' := 86) (r := (some 0)) rfl rfl rfl (Eq.trans rdRA (Eq.trans rdRI (Eq.trans rdRI (Eq.trans rdRL (z_R_769_0 e))))) ?_
      refine x_iload (pc' := 88) rfl rfl rfl ?_
      refine x_iald (pc' := 89) (N := 5) (x := 0) rfl rfl rfl (Eq.trans rdNA (Eq.trans rdNI (Eq.trans rdNI (Eq.trans rdNL (z_N_21_0 e))))) (io_in (p := 4) (N := 5) (by decide) (by decide)) (Eq.trans (congrArg (sA (sAw (sIw (sIw (sLw t 23 0 0 (-10000 : Int64)) 768 0 0) 811 0 0) 21 27 0 (-1)) 21 0) (nn_io (p := 4) (by decide))) (Eq.trans (rdA_o rfl) (Eq.trans rdAI (Eq.trans rdAI (Eq.trans rdAL (z_A_21_0_4 e)))))) ?_
      refine x_iconst (pc' := 90) rfl rfl ?_
      refine x_icmp (a' := 110) (pc' := 93) (z := true) rfl rfl rfl (by decide) (fun _ => ?_) (fun h => by cases h)
      refine x_iconst (pc' := 111) rfl rfl ?_
      refine x_istore (pc' := 113) (ls' := [_, _, _, _, _, _, _]) rfl rfl rfl rfl ?_
      refine x_aload_n (pc' := 114) rfl rfl rfl rfl rfl ?_
      refine x_dup (pc' := 115) rfl rfl rfl ?_
      refine x_gI (pc' := 118) (x := 0) rfl rfl rfl (Eq.trans rdIA sI_s) ?_
      refine x_iconst (pc' := 119) rfl rfl ?_
      refine x_iadd (pc' := 120) (z := 1) rfl rfl (by decide) ?_
      refine x_pI (pc' := 123) rfl rfl rfl ?_
      refine x_iinc (pc' := 126) (y := 1) (ls' := [_, _, _, _, _, _, _]) rfl rfl rfl rfl rfl ?_
      refine x_goto (pc' := 25) rfl rfl ?_
      refine x_iload (pc' := 27) rfl rfl rfl ?_
      refine x_iconst (pc' := 28) rfl rfl ?_
      refine x_icmp (a' := 129) (pc' := 31) (z := false) rfl rfl rfl (by decide) (fun h => by cases h) (fun _ => ?_)
      refine x_iload (pc' := 33) rfl rfl rfl ?_
      refine x_if (a' := 129) (pc' := 36) (z := true) rfl rfl rfl (by decide) (fun _ => ?_) (fun h => by cases h)
      refine x_iload (pc' := 131) rfl rfl rfl ?_
      refine x_retz (z := false) rfl rfl ?_
      refine sK_i (pc' := 22) rfl ?_
      refine x_if (a' := 93) (pc' := 25) (z := true) rfl rfl rfl (by decide) (fun _ => ?_) (fun h => by cases h)
      refine x_iinc (pc' := 96) (y := 1) (ls' := [_, _, _, _, _, _, _, _]) rfl rfl rfl rfl rfl ?_
      refine x_goto (pc' := 8) rfl rfl ?_
      refine x_iload (pc' := 10) rfl rfl rfl ?_
      refine x_iconst (pc' := 11) rfl rfl ?_
      refine x_icmp (a' := 99) (pc' := 14) (z := false) rfl rfl rfl (by decide) (fun h => by cases h) (fun _ => ?_)
      refine x_aload_n (pc' := 15) rfl rfl rfl rfl rfl ?_
      refine x_iload_n (pc' := 16) rfl rfl rfl ?_
      refine x_iload_n (pc' := 17) rfl rfl rfl ?_
      refine x_iload (pc' := 19) rfl rfl rfl ?_
      refine x_cv (ls0 := [_, _, _, _, sJk, sJk, sJk]) (rest := []) rfl rfl rfl rfl rfl ?_
      refine x_iload_n (pc' := 1) rfl rfl rfl ?_
      refine x_iload_n (pc' := 2) rfl rfl rfl ?_
      refine x_iconst (pc' := 3) rfl rfl ?_
      refine x_cs (ls0 := [_, _, _, sJk, sJk, sJk]) (rest := []) rfl rfl rfl rfl ?_
      refine x_getstatic (pc' := 3) rfl rfl (show 1 < sC t 28 from z_st1 e) ?_
      refine x_iconst (pc' := 4) rfl rfl ?_
      refine x_iload_n (pc' := 5) rfl rfl rfl ?_
      refine x_imul (pc' := 6) (z := 12) rfl rfl (by decide) ?_
      refine x_iload_n (pc' := 7) rfl rfl rfl ?_
      refine x_iadd (pc' := 8) (z := 13) rfl rfl (by decide) ?_
      refine x_iald (pc' := 9) (N := 15) (x := 23) rfl rfl rfl (Eq.trans rdNI (Eq.trans rdNA (Eq.trans rdNI (Eq.trans rdNI (Eq.trans rdNL (z_N_28_1 e)))))) (io_in (p := 13) (N := 15) (by decide) (by decide)) (Eq.trans (congrArg (sA (sIw (sAw (sIw (sIw (sLw t 23 0 0 (-10000 : Int64)) 768 0 0) 811 0 0) 21 27 0 (-1)) 811 0 1) 28 1) (nn_io (p := 13) (by decide))) (Eq.trans rdAI (Eq.trans (rdA_F rfl) (Eq.trans rdAI (Eq.trans rdAI (Eq.trans rdAL (z_A_28_1_13 e))))))) ?_
      refine x_istore_n (pc' := 10) (ls' := [_, _, _, _, _, _]) rfl rfl rfl rfl ?_
      refine x_iload_n (pc' := 11) rfl rfl rfl ?_
      refine x_bipush (pc' := 13) rfl rfl ?_
      refine x_icmp (a' := 20) (pc' := 16) (z := true) rfl rfl rfl (by decide) (fun _ => ?_) (fun h => by cases h)
      refine x_iload_n (pc' := 21) rfl rfl rfl ?_
      refine x_bipush (pc' := 23) rfl rfl ?_
      refine x_icmp (a' := 30) (pc' := 26) (z := false) rfl rfl rfl (by decide) (fun h => by cases h) (fun _ => ?_)
      refine x_iconst (pc' := 27) rfl rfl ?_
      refine x_goto (pc' := 39) rfl rfl ?_
      refine x_istore (pc' := 41) (ls' := [_, _, _, _, _, _]) rfl rfl rfl rfl ?_
      refine x_iload (pc' := 43) rfl rfl rfl ?_
      refine x_iload_n (pc' := 44) rfl rfl rfl ?_
      refine x_isub (pc' := 45) (z := 2) rfl rfl (by decide) ?_
      refine x_istore (pc' := 47) (ls' := [_, _, _, _, _, _]) rfl rfl rfl rfl ?_
      refine x_iload (pc' := 49) rfl rfl rfl ?_
      refine x_if (a' := 56) (pc' := 52) (z := true) rfl rfl rfl (by decide) (fun _ => ?_) (fun h => by cases h)
      refine x_iload (pc' := 58) rfl rfl rfl ?_
      refine x_iconst (pc' := 59) rfl rfl ?_
      refine x_icmp (a' := 69) (pc' := 62) (z := true) rfl rfl rfl (by decide) (fun _ => ?_) (fun h => by cases h)
      refine x_iload (pc' := 71) rfl rfl rfl ?_
      refine x_iconst (pc' := 72) rfl rfl ?_
      refine x_icmp (a' := 85) (pc' := 75) (z := false) rfl rfl rfl (by decide) (fun h => by cases h) (fun _ => ?_)
      refine x_iload_n (pc' := 76) rfl rfl rfl ?_
      refine x_bipush (pc' := 78) rfl rfl ?_
      refine x_idiv (pc' := 79) (z := 2) rfl rfl (by decide) (by decide +kernel) ?_
      refine x_bipush (pc' := 81) rfl rfl ?_
      refine x_irem (pc' := 82) (z := 2) rfl rfl (by decide) (by decide +kernel) ?_
      refine x_goto (pc' := 89) rfl rfl ?_
      refine x_iconst (pc' := 90) rfl rfl ?_
      refine x_isub (pc' := 91) (z := 1) rfl rfl (by decide) ?_
      refine x_reti rfl rfl ?_
      refine sK_i (pc' := 6) rfl ?_
      refine x_iconst (pc' := 7) rfl rfl ?_
      refine x_icmp (a' := 14) (pc' := 10) (z := false) rfl rfl rfl (by decide) (fun h => by cases h) (fun _ => ?_)
      refine x_iconst (pc' := 11) rfl rfl ?_
      refine x_goto (pc' := 15) rfl rfl ?_
      refine x_istore (pc' := 17) (ls' := [_, _, _, _, _, _, _]) rfl rfl rfl rfl ?_
      refine x_aload_n (pc' := 18) rfl rfl rfl rfl rfl ?_
      refine x_iconst (pc' := 19) rfl rfl ?_
      refine x_pI (pc' := 22) rfl rfl rfl ?_
      refine x_iconst (pc' := 23) rfl rfl ?_
      refine x_istore (pc' := 25) (ls' := [_, _, _, _, _, _, _]) rfl rfl rfl rfl ?_
      refine x_iload (pc' := 27) rfl rfl rfl ?_
      refine x_iconst (pc' := 28) rfl rfl ?_
      refine x_icmp (a' := 129) (pc' := 31) (z := false) rfl rfl rfl (by decide) (fun h => by cases h) (fun _ => ?_)
      refine x_iload (pc' := 33) rfl rfl rfl ?_
      refine x_if (a' := 129) (pc' := 36) (z := false) rfl rfl rfl (by decide) (fun h => by cases h) (fun _ => ?_)
      refine x_iload_n (pc' := 37) rfl rfl rfl ?_
      refine x_iload_n (pc' := 38) rfl rfl rfl ?_
      refine x_iload (pc' := 40) rfl rfl rfl ?_
      refine x_cs (ls0 := [_, _, _, sJk, sJk, sJk]) (rest := []) rfl rfl rfl rfl ?_
      refine x_getstatic (pc' := 3) rfl rfl (show 1 < sC t 28 from z_st1 e) ?_
      refine x_iconst (pc' := 4) rfl rfl ?_
      refine x_iload_n (pc' := 5) rfl rfl rfl ?_
      refine x_imul (pc' := 6) (z := 12) rfl rfl (by decide) ?_
      refine x_iload_n (pc' := 7) rfl rfl rfl ?_
      refine x_iadd (pc' := 8) (z := 13) rfl rfl (by decide) ?_
      refine x_iald (pc' := 9) (N := 15) (x := 23) rfl rfl rfl (Eq.trans rdNI (Eq.trans rdNI (Eq.trans rdNA (Eq.trans rdNI (Eq.trans rdNI (Eq.trans rdNL (z_N_28_1 e))))))) (io_in (p := 13) (N := 15) (by decide) (by decide)) (Eq.trans (congrArg (sA (sIw (sIw (sAw (sIw (sIw (sLw t 23 0 0 (-10000 : Int64)) 768 0 0) 811 0 0) 21 27 0 (-1)) 811 0 1) 811 0 0) 28 1) (nn_io (p := 13) (by decide))) (Eq.trans rdAI (Eq.trans rdAI (Eq.trans (rdA_F rfl) (Eq.trans rdAI (Eq.trans rdAI (Eq.trans rdAL (z_A_28_1_13 e)))))))) ?_
      refine x_istore_n (pc' := 10) (ls' := [_, _, _, _, _, _]) rfl rfl rfl rfl ?_
      refine x_iload_n (pc' := 11) rfl rfl rfl ?_
      refine x_bipush (pc' := 13) rfl rfl ?_
      refine x_icmp (a' := 20) (pc' := 16) (z := true) rfl rfl rfl (by decide) (fun _ => ?_) (fun h => by cases h)
      refine x_iload_n (pc' := 21) rfl rfl rfl ?_
      refine x_bipush (pc' := 23) rfl rfl ?_
      refine x_icmp (a' := 30) (pc' := 26) (z := false) rfl rfl rfl (by decide) (fun h => by cases h) (fun _ => ?_)
      refine x_iconst (pc' := 27) rfl rfl ?_
      refine x_goto (pc' := 39) rfl rfl ?_
      refine x_istore (pc' := 41) (ls' := [_, _, _, _, _, _]) rfl rfl rfl rfl ?_
      refine x_iload (pc' := 43) rfl rfl rfl ?_
      refine x_iload_n (pc' := 44) rfl rfl rfl ?_
      refine x_isub (pc' := 45) (z := 2) rfl rfl (by decide) ?_
      refine x_istore (pc' := 47) (ls' := [_, _, _, _, _, _]) rfl rfl rfl rfl ?_
      refine x_iload (pc' := 49) rfl rfl rfl ?_
      refine x_if (a' := 56) (pc' := 52) (z := true) rfl rfl rfl (by decide) (fun _ => ?_) (fun h => by cases h)
      refine x_iload (pc' := 58) rfl rfl rfl ?_
      refine x_iconst (pc' := 59) rfl rfl ?_
      refine x_icmp (a' := 69) (pc' := 62) (z := true) rfl rfl rfl (by decide) (fun _ => ?_) (fun h => by cases h)
      refine x_iload (pc' := 71) rfl rfl rfl ?_
      refine x_iconst (pc' := 72) rfl rfl ?_
      refine x_icmp (a' := 85) (pc' := 75) (z := false) rfl rfl rfl (by decide) (fun h => by cases h) (fun _ => ?_)
      refine x_iload_n (pc' := 76) rfl rfl rfl ?_
      refine x_bipush (pc' := 78) rfl rfl ?_
      refine x_idiv (pc' := 79) (z := 2) rfl rfl (by decide) (by decide +kernel) ?_
      refine x_bipush (pc' := 81) rfl rfl ?_
      refine x_irem (pc' := 82) (z := 2) rfl rfl (by decide) (by decide +kernel) ?_
      refine x_goto (pc' := 89) rfl rfl ?_
      refine x_iconst (pc' := 90) rfl rfl ?_
      refine x_isub (pc' := 91) (z := 1) rfl rfl (by decide) ?_
      refine x_reti rfl rfl ?_
      refine sK_i (pc' := 43) rfl ?_
      refine x_istore (pc' := 45) (ls' := [_, _, _, _, _, _, _]) rfl rfl rfl rfl ?_
      refine x_iload (pc' := 47) rfl rfl rfl ?_
      refine x_iconst (pc' := 48) rfl rfl ?_
      refine x_icmp (a' := 123) (pc' := 51) (z := false) rfl rfl rfl (by decide) (fun h => by cases h) (fun _ => ?_)
      refine x_aload_n (pc' := 52) rfl rfl rfl rfl rfl ?_
      refine x_gR (pc' := 55) (r := (some 27)) rfl rfl rfl (Eq.trans rdRI (Eq.trans rdRI (Eq.trans rdRA (Eq.trans rdRI (Eq.trans rdRI (Eq.trans rdRL (z_R_809_0 e))))))) ?_
      refine x_aload_n (pc' := 56) rfl rfl rfl rfl rfl ?_
      refine x_gI (pc' := 59) (x := 0) rfl rfl rfl sI_s ?_
      refine x_aload_n (pc' := 60) rfl rfl rfl rfl rfl ?_
      refine x_iload (pc' := 62) rfl rfl rfl ?_
      refine x_iload_n (pc' := 63) rfl rfl rfl ?_
      refine x_iload_n (pc' := 64) rfl rfl rfl ?_
      refine x_iload (pc' := 66) rfl rfl rfl ?_
      refine x_cs (ls0 := [_, _, _, sJk]) (rest := [_, _, _, _]) rfl rfl rfl rfl ?_
      refine x_iload_n (pc' := 1) rfl rfl rfl ?_
      refine x_iload_n (pc' := 2) rfl rfl rfl ?_
      refine x_iload_n (pc' := 3) rfl rfl rfl ?_
      refine x_cs (ls0 := [_, _, _, sJk, sJk, sJk]) (rest := []) rfl rfl rfl rfl ?_
      refine x_getstatic (pc' := 3) rfl rfl (show 1 < sC t 28 from z_st1 e) ?_
      refine x_iconst (pc' := 4) rfl rfl ?_
      refine x_iload_n (pc' := 5) rfl rfl rfl ?_
      refine x_imul (pc' := 6) (z := 12) rfl rfl (by decide) ?_
      refine x_iload_n (pc' := 7) rfl rfl rfl ?_
      refine x_iadd (pc' := 8) (z := 13) rfl rfl (by decide) ?_
      refine x_iald (pc' := 9) (N := 15) (x := 23) rfl rfl rfl (Eq.trans rdNI (Eq.trans rdNI (Eq.trans rdNA (Eq.trans rdNI (Eq.trans rdNI (Eq.trans rdNL (z_N_28_1 e))))))) (io_in (p := 13) (N := 15) (by decide) (by decide)) (Eq.trans (congrArg (sA (sIw (sIw (sAw (sIw (sIw (sLw t 23 0 0 (-10000 : Int64)) 768 0 0) 811 0 0) 21 27 0 (-1)) 811 0 1) 811 0 0) 28 1) (nn_io (p := 13) (by decide))) (Eq.trans rdAI (Eq.trans rdAI (Eq.trans (rdA_F rfl) (Eq.trans rdAI (Eq.trans rdAI (Eq.trans rdAL (z_A_28_1_13 e)))))))) ?_
      refine x_istore_n (pc' := 10) (ls' := [_, _, _, _, _, _]) rfl rfl rfl rfl ?_
      refine x_iload_n (pc' := 11) rfl rfl rfl ?_
      refine x_bipush (pc' := 13) rfl rfl ?_
      refine x_icmp (a' := 20) (pc' := 16) (z := true) rfl rfl rfl (by decide) (fun _ => ?_) (fun h => by cases h)
      refine x_iload_n (pc' := 21) rfl rfl rfl ?_
      refine x_bipush (pc' := 23) rfl rfl ?_
      refine x_icmp (a' := 30) (pc' := 26) (z := false) rfl rfl rfl (by decide) (fun h => by cases h) (fun _ => ?_)
      refine x_iconst (pc' := 27) rfl rfl ?_
      refine x_goto (pc' := 39) rfl rfl ?_
      refine x_istore (pc' := 41) (ls' := [_, _, _, _, _, _]) rfl rfl rfl rfl ?_
      refine x_iload (pc' := 43) rfl rfl rfl ?_
      refine x_iload_n (pc' := 44) rfl rfl rfl ?_
      refine x_isub (pc' := 45) (z := 2) rfl rfl (by decide) ?_
      refine x_istore (pc' := 47) (ls' := [_, _, _, _, _, _]) rfl rfl rfl rfl ?_
      refine x_iload (pc' := 49) rfl rfl rfl ?_
      refine x_if (a' := 56) (pc' := 52) (z := true) rfl rfl rfl (by decide) (fun _ => ?_) (fun h => by cases h)
      refine x_iload (pc' := 58) rfl rfl rfl ?_
      refine x_iconst (pc' := 59) rfl rfl ?_
      refine x_icmp (a' := 69) (pc' := 62) (z := true) rfl rfl rfl (by decide) (fun _ => ?_) (fun h => by cases h)
      refine x_iload (pc' := 71) rfl rfl rfl ?_
      refine x_iconst (pc' := 72) rfl rfl ?_
      refine x_icmp (a' := 85) (pc' := 75) (z := false) rfl rfl rfl (by decide) (fun h => by cases h) (fun _ => ?_)
      refine x_iload_n (pc' := 76) rfl rfl rfl ?_
      refine x_bipush (pc' := 78) rfl rfl ?_
      refine x_idiv (pc' := 79) (z := 2) rfl rfl (by decide) (by decide +kernel) ?_
      refine x_bipush (pc' := 81) rfl rfl ?_
      refine x_irem (pc' := 82) (z := 2) rfl rfl (by decide) (by decide +kernel) ?_
      refine x_goto (pc' := 89) rfl rfl ?_
      refine x_iconst (pc' := 90) rfl rfl ?_
      refine x_isub (pc' := 91) (z := 1) rfl rfl (by decide) ?_
      refine x_reti rfl rfl ?_
      refine sK_i (pc' := 6) rfl ?_
      refine x_istore_n (pc' := 7) (ls' := [_, _, _, _]) rfl rfl rfl rfl ?_
      refine x_iload_n (pc' := 8) rfl rfl rfl ?_
      refine x_iconst (pc' := 9) rfl rfl ?_
      refine x_icmp (a' := 31) (pc' := 12) (z := true) rfl rfl rfl (by decide) (fun _ => ?_) (fun h => by cases h)
      refine x_iload_n (pc' := 32) rfl rfl rfl ?_
      refine x_iconst (pc' := 33) rfl rfl ?_
      refine x_icmp (a' := 45) (pc' := 36) (z := false) rfl rfl rfl (by decide) (fun h => by cases h) (fun _ => ?_)
      refine x_iload_n (pc' := 37) rfl rfl rfl ?_
      refine x_iconst (pc' := 38) rfl rfl ?_
      refine x_icmp (a' := 45) (pc' := 41) (z := true) rfl rfl rfl (by decide) (fun _ => ?_) (fun h => by cases h)
      refine x_iconst (pc' := 46) rfl rfl ?_
      refine x_retz (z := false) rfl rfl ?_
      refine sK_i (pc' := 69) rfl ?_
      refine x_iload_n (pc' := 70) rfl rfl rfl ?_
      have J5063 : X 159 78 [.inr (.inr (12, (some 0))), .inl 4, .inl (bz (!(decide ((xs 2) = 0)))), .inl 1, .inl 1, .inl 0, .inl 1] [.inl (bz (!(xor false (!(decide ((xs 2) = 0)))))), .inl 1, .inr (.inr (12, (some 0))), .inl 0, .inr (.inr (21, (some 27)))] (sIw (sIw (sAw (sIw (sIw (sLw t 23 0 0 (-10000 : Int64)) 768 0 0) 811 0 0) 21 27 0 (-1)) 811 0 1) 811 0 0) (sK 159 161 19 [.inr (.inr (12, (some 0))), .inl 4, .inl (bz (!(decide ((xs 2) = 0)))), .inl (-1), .inl 0, .inl 1, sJk, sJk] [] (sK 161 228 24 [.inr (.inr (12, (some 0))), .inl 4, .inl (bz (!(decide ((xs 2) = 0)))), sJk] [] (sK 228 297 2148 [.inr (.inr (29, (some 0))), .inr (.inr (11, (some 0))), .inr (.inr (12, (some 0))), .inr (.inr (23, (some 0))), .inl 0, .inl 0, sJk] [] Qp))) := by
        refine x_cv (ls0 := [_, _, _, sJk, sJk, sJk]) (rest := [_, _]) rfl rfl rfl rfl rfl ?_
        refine x_iconst (pc' := 1) rfl rfl ?_
        refine x_istore_n (pc' := 2) (ls' := [_, _, _, _, _, _]) rfl rfl rfl rfl ?_
        refine x_iconst (pc' := 3) rfl rfl ?_
        refine x_istore (pc' := 5) (ls' := [_, _, _, _, _, _]) rfl rfl rfl rfl ?_
        refine x_iload (pc' := 7) rfl rfl rfl ?_
        refine x_aload_n (pc' := 8) rfl rfl rfl rfl rfl ?_
        refine x_gI (pc' := 11) (x := 0) rfl rfl rfl (Eq.trans (rdI_F rfl) (Eq.trans (rdI_F rfl) (Eq.trans rdIA (Eq.trans (rdI_F rfl) (Eq.trans (rdI_F rfl) (Eq.trans rdIL (z_I_786_0 e))))))) ?_
        refine x_icmp (a' := 87) (pc' := 14) (z := true) rfl rfl rfl (by decide) (fun _ => ?_) (fun h => by cases h)
        refine x_iload_n (pc' := 88) rfl rfl rfl ?_
        refine x_reti rfl rfl ?_
        refine sK_i (pc' := 81) rfl ?_
        refine x_iast (pc' := 82) (N := 200) (p := 0) rfl rfl rfl (Eq.trans rdNI (Eq.trans rdNI (Eq.trans rdNA (Eq.trans rdNI (Eq.trans rdNI (Eq.trans rdNL (z_N_21_27 e))))))) (io_in (p := 0) (N := 200) (by decide) (by decide)) (nn_io (p := 0) (by decide)) ?_
        refine x_aload_n (pc' := 83) rfl rfl rfl rfl rfl ?_
        refine x_gR (pc' := 86) (r := (some 0)) rfl rfl rfl (Eq.trans rdRA (Eq.trans rdRI (Eq.trans rdRI (Eq.trans rdRA (Eq.trans rdRI (Eq.trans rdRI (Eq.trans rdRL (z_R_769_0 e)))))))) ?_
        refine x_iload (pc' := 88) rfl rfl rfl ?_
        refine x_iald (pc' := 89) (N := 5) (x := 0) rfl rfl rfl (Eq.trans rdNA (Eq.trans rdNI (Eq.trans rdNI (Eq.trans rdNA (Eq.trans rdNI (Eq.trans rdNI (Eq.trans rdNL (z_N_21_0 e)))))))) (io_in (p := 1) (N := 5) (by decide) (by decide)) (Eq.trans (congrArg (sA (sAw (sIw (sIw (sAw (sIw (sIw (sLw t 23 0 0 (-10000 : Int64)) 768 0 0) 811 0 0) 21 27 0 (-1)) 811 0 1) 811 0 0) 21 27 0 (-1)) 21 0) (nn_io (p := 1) (by decide))) (Eq.trans (rdA_o rfl) (Eq.trans rdAI (Eq.trans rdAI (Eq.trans (rdA_o rfl) (Eq.trans rdAI (Eq.trans rdAI (Eq.trans rdAL (z_A_21_0_1 e))))))))) ?_
        refine x_iconst (pc' := 90) rfl rfl ?_
        refine x_icmp (a' := 110) (pc' := 93) (z := true) rfl rfl rfl (by decide) (fun _ => ?_) (fun h => by cases h)
        refine x_iconst (pc' := 111) rfl rfl ?_
        refine x_istore (pc' := 113) (ls' := [_, _, _, _, _, _, _]) rfl rfl rfl rfl ?_
        refine x_aload_n (pc' := 114) rfl rfl rfl rfl rfl ?_
        refine x_dup (pc' := 115) rfl rfl rfl ?_
        refine x_gI (pc' := 118) (x := 0) rfl rfl rfl (Eq.trans rdIA sI_s) ?_
        refine x_iconst (pc' := 119) rfl rfl ?_
        refine x_iadd (pc' := 120) (z := 1) rfl rfl (by decide) ?_
        refine x_pI (pc' := 123) rfl rfl rfl ?_
        refine x_iinc (pc' := 126) (y := 1) (ls' := [_, _, _, _, _, _, _]) rfl rfl rfl rfl rfl ?_
        refine x_goto (pc' := 25) rfl rfl ?_
        refine x_iload (pc' := 27) rfl rfl rfl ?_
        refine x_iconst (pc' := 28) rfl rfl ?_
        refine x_icmp (a' := 129) (pc' := 31) (z := false) rfl rfl rfl (by decide) (fun h => by cases h) (fun _ => ?_)
        refine x_iload (pc' := 33) rfl rfl rfl ?_
        refine x_if (a' := 129) (pc' := 36) (z := true) rfl rfl rfl (by decide) (fun _ => ?_) (fun h => by cases h)
        refine x_iload (pc' := 131) rfl rfl rfl ?_
        refine x_retz (z := false) rfl rfl ?_
        refine sK_i (pc' := 22) rfl ?_
        refine x_if (a' := 93) (pc' := 25) (z := true) rfl rfl rfl (by decide) (fun _ => ?_) (fun h => by cases h)
        refine x_iinc (pc' := 96) (y := 2) (ls' := [_, _, _, _, _, _, _, _]) rfl rfl rfl rfl rfl ?_
        refine x_goto (pc' := 8) rfl rfl ?_
        refine x_iload (pc' := 10) rfl rfl rfl ?_
        refine x_iconst (pc' := 11) rfl rfl ?_
        refine x_icmp (a' := 99) (pc' := 14) (z := false) rfl rfl rfl (by decide) (fun h => by cases h) (fun _ => ?_)
        refine x_aload_n (pc' := 15) rfl rfl rfl rfl rfl ?_
        refine x_iload_n (pc' := 16) rfl rfl rfl ?_
        refine x_iload_n (pc' := 17) rfl rfl rfl ?_
        refine x_iload (pc' := 19) rfl rfl rfl ?_
        refine x_cv (ls0 := [_, _, _, _, sJk, sJk, sJk]) (rest := []) rfl rfl rfl rfl rfl ?_
        refine x_iload_n (pc' := 1) rfl rfl rfl ?_
        refine x_iload_n (pc' := 2) rfl rfl rfl ?_
        refine x_iconst (pc' := 3) rfl rfl ?_
        refine x_cs (ls0 := [_, _, _, sJk, sJk, sJk]) (rest := []) rfl rfl rfl rfl ?_
        refine x_getstatic (pc' := 3) rfl rfl (show 1 < sC t 28 from z_st1 e) ?_
        refine x_iconst (pc' := 4) rfl rfl ?_
        refine x_iload_n (pc' := 5) rfl rfl rfl ?_
        refine x_imul (pc' := 6) (z := 12) rfl rfl (by decide) ?_
        refine x_iload_n (pc' := 7) rfl rfl rfl ?_
        refine x_iadd (pc' := 8) (z := 14) rfl rfl (by decide) ?_
        refine x_iald (pc' := 9) (N := 15) (x := 0) rfl rfl rfl (Eq.trans rdNI (Eq.trans rdNA (Eq.trans rdNI (Eq.trans rdNI (Eq.trans rdNA (Eq.trans rdNI (Eq.trans rdNI (Eq.trans rdNL (z_N_28_1 e))))))))) (io_in (p := 14) (N := 15) (by decide) (by decide)) (Eq.trans (congrArg (sA (sIw (sAw (sIw (sIw (sAw (sIw (sIw (sLw t 23 0 0 (-10000 : Int64)) 768 0 0) 811 0 0) 21 27 0 (-1)) 811 0 1) 811 0 0) 21 27 0 (-1)) 811 0 1) 28 1) (nn_io (p := 14) (by decide))) (Eq.trans rdAI (Eq.trans (rdA_F rfl) (Eq.trans rdAI (Eq.trans rdAI (Eq.trans (rdA_F rfl) (Eq.trans rdAI (Eq.trans rdAI (Eq.trans rdAL (z_A_28_1_14 e)))))))))) ?_
        refine x_istore_n (pc' := 10) (ls' := [_, _, _, _, _, _]) rfl rfl rfl rfl ?_
        refine x_iload_n (pc' := 11) rfl rfl rfl ?_
        refine x_bipush (pc' := 13) rfl rfl ?_
        refine x_icmp (a' := 20) (pc' := 16) (z := true) rfl rfl rfl (by decide) (fun _ => ?_) (fun h => by cases h)
        refine x_iload_n (pc' := 21) rfl rfl rfl ?_
        refine x_bipush (pc' := 23) rfl rfl ?_
        refine x_icmp (a' := 30) (pc' := 26) (z := true) rfl rfl rfl (by decide) (fun _ => ?_) (fun h => by cases h)
        refine x_iload_n (pc' := 31) rfl rfl rfl ?_
        refine x_if (a' := 38) (pc' := 34) (z := true) rfl rfl rfl (by decide) (fun _ => ?_) (fun h => by cases h)
        refine x_iconst (pc' := 39) rfl rfl ?_
        refine x_istore (pc' := 41) (ls' := [_, _, _, _, _, _]) rfl rfl rfl rfl ?_
        refine x_iload (pc' := 43) rfl rfl rfl ?_
        refine x_iload_n (pc' := 44) rfl rfl rfl ?_
        refine x_isub (pc' := 45) (z := 0) rfl rfl (by decide) ?_
        refine x_istore (pc' := 47) (ls' := [_, _, _, _, _, _]) rfl rfl rfl rfl ?_
        refine x_iload (pc' := 49) rfl rfl rfl ?_
        refine x_if (a' := 56) (pc' := 52) (z := false) rfl rfl rfl (by decide) (fun h => by cases h) (fun _ => ?_)
        refine x_iconst (pc' := 53) rfl rfl ?_
        refine x_goto (pc' := 91) rfl rfl ?_
        refine x_reti rfl rfl ?_
        refine sK_i (pc' := 6) rfl ?_
        refine x_iconst (pc' := 7) rfl rfl ?_
        refine x_icmp (a' := 14) (pc' := 10) (z := true) rfl rfl rfl (by decide) (fun _ => ?_) (fun h => by cases h)
        refine x_iconst (pc' := 15) rfl rfl ?_
        refine x_istore (pc' := 17) (ls' := [_, _, _, _, _, _, _]) rfl rfl rfl rfl ?_
        refine x_aload_n (pc' := 18) rfl rfl rfl rfl rfl ?_
        refine x_iconst (pc' := 19) rfl rfl ?_
        refine x_pI (pc' := 22) rfl rfl rfl ?_
        refine x_iconst (pc' := 23) rfl rfl ?_
        refine x_istore (pc' := 25) (ls' := [_, _, _, _, _, _, _]) rfl rfl rfl rfl ?_
        refine x_iload (pc' := 27) rfl rfl rfl ?_
        refine x_iconst (pc' := 28) rfl rfl ?_
        refine x_icmp (a' := 129) (pc' := 31) (z := false) rfl rfl rfl (by decide) (fun h => by cases h) (fun _ => ?_)
        refine x_iload (pc' := 33) rfl rfl rfl ?_
        refine x_if (a' := 129) (pc' := 36) (z := true) rfl rfl rfl (by decide) (fun _ => ?_) (fun h => by cases h)
        refine x_iload (pc' := 131) rfl rfl rfl ?_
        refine x_retz (z := false) rfl rfl ?_
        refine sK_i (pc' := 22) rfl ?_
        refine x_if (a' := 93) (pc' := 25) (z := true) rfl rfl rfl (by decide) (fun _ => ?_) (fun h => by cases h)
        refine x_iinc (pc' := 96) (y := 3) (ls' := [_, _, _, _, _, _, _, _]) rfl rfl rfl rfl rfl ?_
        refine x_goto (pc' := 8) rfl rfl ?_
        refine x_iload (pc' := 10) rfl rfl rfl ?_
        refine x_iconst (pc' := 11) rfl rfl ?_
        refine x_icmp (a' := 99) (pc' := 14) (z := true) rfl rfl rfl (by decide) (fun _ => ?_) (fun h => by cases h)
        refine x_iload_n (pc' := 100) rfl rfl rfl ?_
        refine x_reti rfl rfl ?_
        refine sK_i (pc' := 27) rfl ?_
        refine x_istore_n (pc' := 28) (ls' := [_, _, _, _]) rfl rfl rfl rfl ?_
        refine x_iload_n (pc' := 29) rfl rfl rfl ?_
        refine x_iconst (pc' := 30) rfl rfl ?_
        refine x_icmp (a' := 52) (pc' := 33) (z := true) rfl rfl rfl (by decide) (fun _ => ?_) (fun h => by cases h)
        refine x_sipush (pc' := 55) rfl rfl ?_
        refine x_reti rfl rfl ?_
        refine sK_i (pc' := 2151) rfl ?_
        refine x_istore (pc' := 2153) (ls' := [_, _, _, _, _, _, _]) rfl rfl rfl rfl ?_
        refine x_aload_n (pc' := 2154) rfl rfl rfl rfl rfl ?_
        refine x_cv (ls0 := [_]) (rest := []) rfl rfl rfl rfl rfl ?_
        refine x_aload_n (pc' := 1) rfl rfl rfl rfl rfl ?_
        refine x_gI (pc' := 4) (x := 0) rfl rfl rfl (Eq.trans (rdI_F rfl) (Eq.trans (rdI_F rfl) (Eq.trans rdIA (Eq.trans (rdI_F rfl) (Eq.trans (rdI_F rfl) (Eq.trans rdIA (Eq.trans (rdI_F rfl) sI_s))))))) ?_
        refine x_reti rfl rfl ?_
        refine sK_i (pc' := 2157) rfl ?_
        refine x_iload (pc' := 2159) rfl rfl rfl ?_
        refine x_icmp (a' := 2164) (pc' := 2162) (z := true) rfl rfl rfl (by decide) (fun _ => ?_) (fun h => by cases h)
        refine x_iload (pc' := 2166) rfl rfl rfl ?_
        refine x_if (a' := 2181) (pc' := 2169) (z := false) rfl rfl rfl (by decide) (fun h => by cases h) (fun _ => ?_)
        refine x_aload_n (pc' := 2170) rfl rfl rfl rfl rfl ?_
        refine x_iconst (pc' := 2171) rfl rfl ?_
        refine x_lald (pc' := 2172) (N := 1) (x := (-10000 : Int64)) rfl rfl (Eq.trans rdNI (Eq.trans rdNI (Eq.trans rdNA (Eq.trans rdNI (Eq.trans rdNI (Eq.trans rdNA (Eq.trans rdNI (Eq.trans rdNI (Eq.trans rdNL (z_N_23_0 e)))))))))) (io_in (p := 0) (N := 1) (by decide) (by decide)) (Eq.trans (congrArg (sL (sIw (sIw (sAw (sIw (sIw (sAw (sIw (sIw (sLw t 23 0 0 (-10000 : Int64)) 768 0 0) 811 0 0) 21 27 0 (-1)) 811 0 1) 811 0 0) 21 27 0 (-1)) 811 0 1) 811 0 0) 23 0) (nn_io (p := 0) (by decide))) (Eq.trans rdLI (Eq.trans rdLI (Eq.trans rdLA (Eq.trans rdLI (Eq.trans rdLI (Eq.trans rdLA (Eq.trans rdLI (Eq.trans rdLI sL_s))))))))) ?_
        refine x_iload (pc' := 2174) rfl rfl rfl ?_
        refine x_i2l (pc' := 2175) (z := (-10000 : Int64)) rfl rfl (by decide) ?_
        refine x_lcmp (pc' := 2176) (z := 0) rfl rfl (sLcmp_s _) ?_
        refine x_if (a' := 2181) (pc' := 2179) (z := true) rfl rfl rfl (by decide) (fun _ => ?_) (fun h => by cases h)
        refine x_goto (pc' := 2938) rfl rfl ?_
        refine x_iinc (pc' := 2941) (y := 7) (ls' := [_, _, _, _, _, _, _]) rfl rfl rfl rfl rfl ?_
        refine x_goto (pc' := 23) rfl rfl ?_
        refine x_iload (pc' := 25) rfl rfl rfl ?_
        refine x_aload_n (pc' := 26) rfl rfl rfl rfl rfl ?_
        refine x_alen (pc' := 27) (N := 7) rfl rfl rfl (Eq.trans rdNI (Eq.trans rdNI (Eq.trans rdNA (Eq.trans rdNI (Eq.trans rdNI (Eq.trans rdNA (Eq.trans rdNI (Eq.trans rdNI (Eq.trans rdNL (z_N_29_0 e)))))))))) (?_ : X _ _ _ (.inl 7 :: _) _ _)
        refine x_bipush (pc' := 29) rfl rfl ?_
        refine x_isub (pc' := 30) (z := 0) rfl rfl (by decide) ?_
        refine x_icmp (a' := 2944) (pc' := 33) (z := true) rfl rfl rfl (by decide) (fun _ => ?_) (fun h => by cases h)
        refine x_iconst (pc' := 2945) rfl rfl ?_
        refine x_retz (z := true) rfl rfl ?_
        exact Qp_ok e (p := 0) (q := 0) rfl rfl rfl rfl
      refine x_icmp (a' := 77) (pc' := 73) (z := (xor false (!(decide ((xs 2) = 0))))) rfl rfl rfl (bz_neb _ _) (fun q5063 => ?_) (fun q5063 => ?_)
      · refine x_iconst (pc' := 78) rfl rfl ?_
        ((try rw [q5063] at J5063); (try rw [q5063]); (try simp only [cd_t, cd_f, nt_t, nt_f, an_t, an_f, or_t, or_f] at J5063); (try simp only [cd_t, cd_f, nt_t, nt_f, an_t, an_f, or_t, or_f]); exact J5063)
      · refine x_iconst (pc' := 74) rfl rfl ?_
        refine x_goto (pc' := 78) rfl rfl ?_
        ((try rw [q5063] at J5063); (try rw [q5063]); (try simp only [cd_t, cd_f, nt_t, nt_f, an_t, an_f, or_t, or_f] at J5063); (try simp only [cd_t, cd_f, nt_t, nt_f, an_t, an_f, or_t, or_f]); exact J5063)
    refine x_icmp (a' := 77) (pc' := 73) (z := (xor false (!(decide ((xs 2) = 0))))) rfl rfl rfl (bz_neb _ _) (fun q5033 => ?_) (fun q5033 => ?_)
    · refine x_iconst (pc' := 78) rfl rfl ?_
      ((try rw [q5033] at J5033); (try rw [q5033]); (try simp only [cd_t, cd_f, nt_t, nt_f, an_t, an_f, or_t, or_f] at J5033); (try simp only [cd_t, cd_f, nt_t, nt_f, an_t, an_f, or_t, or_f]); exact J5033)
    · refine x_iconst (pc' := 74) rfl rfl ?_
      refine x_goto (pc' := 78) rfl rfl ?_
      ((try rw [q5033] at J5033); (try rw [q5033]); (try simp only [cd_t, cd_f, nt_t, nt_f, an_t, an_f, or_t, or_f] at J5033); (try simp only [cd_t, cd_f, nt_t, nt_f, an_t, an_f, or_t, or_f]); exact J5033)
  refine x_if (a' := 2147) (pc' := 2143) (z := decide ((xs 2) = 0)) rfl rfl rfl rfl (fun q5001 => ?_) (fun q5001 => ?_)
  · refine x_iconst (pc' := 2148) rfl rfl ?_
    ((try rw [q5001] at J5001); (try rw [q5001]); (try simp only [cd_t, cd_f, nt_t, nt_f, an_t, an_f, or_t, or_f] at J5001); (try simp only [cd_t, cd_f, nt_t, nt_f, an_t, an_f, or_t, or_f]); exact J5001)
  · refine x_iconst (pc' := 2144) rfl rfl ?_
    refine x_goto (pc' := 2148) rfl rfl ?_
    ((try rw [q5001] at J5001); (try rw [q5001]); (try simp only [cd_t, cd_f, nt_t, nt_f, an_t, an_f, or_t, or_f] at J5001); (try simp only [cd_t, cd_f, nt_t, nt_f, an_t, an_f, or_t, or_f]); exact J5001)
set_option maxHeartbeats 4000000 in
set_option maxRecDepth 10000 in
theorem v_26_4_i {t : sT} {xs : Nat → Int32}
    (e : t = T16 7 xs)
    (hk : ((xs 0) &&& 63) = 26)
    (e0 : xs 1 = 4) :
    X 297 23 [.inr (.inr (29, (some 0))), .inr (.inr (11, (some 0))), .inr (.inr (12, (some 0))), .inr (.inr (23, (some 0))), .inl 0, sJk, sJk] [] t Qp := by
  have k0 : X 297 2125 [.inr (.inr (29, (some 0))), .inr (.inr (11, (some 0))), .inr (.inr (12, (some 0))), .inr (.inr (23, (some 0))), .inl 0, sJk, sJk] [.inl 0] (sLw t 23 0 0 (-10000 : Int64)) Qp := v_26_4_i_2 e hk e0
  refine x_iload (pc' := 25) rfl rfl rfl ?_
  refine x_aload_n (pc' := 26) rfl rfl rfl rfl rfl ?_
  refine x_alen (pc' := 27) (N := 7) rfl rfl rfl (z_N_29_0 e) (?_ : X _ _ _ (.inl 7 :: _) _ _)
  refine x_bipush (pc' := 29) rfl rfl ?_
  refine x_isub (pc' := 30) (z := 0) rfl rfl (by decide) ?_
  refine x_icmp (a' := 2944) (pc' := 33) (z := false) rfl rfl rfl (by decide) (fun h => by cases h) (fun _ => ?_)
  refine x_aload_n (pc' := 34) rfl rfl rfl rfl rfl ?_
  refine x_iload (pc' := 36) rfl rfl rfl ?_
  refine x_iald (pc' := 37) (N := 7) (x := (xs 0)) rfl rfl rfl (z_N_29_0 e) (io_in (p := 0) (N := 7) (by decide) (by decide)) (Eq.trans (congrArg (sA t 29 0) (nn_io (p := 0) (by decide))) (z_A_29_0_0 e)) ?_
  refine x_bipush (pc' := 39) rfl rfl ?_
  refine x_iand (pc' := 40) (z := ((xs 0) &&& 63)) rfl rfl rfl ?_
  refine x_switch (pc' := 2100) rfl (by rw [hk]; decide) ?_
  refine x_aload_n (pc' := 2101) rfl rfl rfl rfl rfl ?_
  refine x_aload_n (pc' := 2102) rfl rfl rfl rfl rfl ?_
  refine x_iload (pc' := 2104) rfl rfl rfl ?_
  refine x_iconst (pc' := 2105) rfl rfl ?_
  refine x_iadd (pc' := 2106) (z := 1) rfl rfl (by decide) ?_
  refine x_iald (pc' := 2107) (N := 7) (x := 4) rfl rfl rfl (z_N_29_0 e) (io_in (p := 1) (N := 7) (by decide) (by decide)) (Eq.trans (congrArg (sA t 29 0) (nn_io (p := 1) (by decide))) (Eq.trans (z_A_29_0_1 e) e0)) ?_
  refine x_aload_n (pc' := 2108) rfl rfl rfl rfl rfl ?_
  refine x_iload (pc' := 2110) rfl rfl rfl ?_
  refine x_iconst (pc' := 2111) rfl rfl ?_
  refine x_iadd (pc' := 2112) (z := 2) rfl rfl (by decide) ?_
  refine x_iald (pc' := 2113) (N := 7) (x := (xs 2)) rfl rfl rfl (z_N_29_0 e) (io_in (p := 2) (N := 7) (by decide) (by decide)) (Eq.trans (congrArg (sA t 29 0) (nn_io (p := 2) (by decide))) (z_A_29_0_2 e)) ?_
  have J3 : X 297 2121 [.inr (.inr (29, (some 0))), .inr (.inr (11, (some 0))), .inr (.inr (12, (some 0))), .inr (.inr (23, (some 0))), .inl 0, sJk, sJk] [.inl (bz (!(decide ((xs 2) = 0)))), .inl 4, .inr (.inr (11, (some 0)))] t Qp := by
    refine x_aload_n (pc' := 2122) rfl rfl rfl rfl rfl ?_
    refine x_cs (ls0 := [_, _, _, _, sJk]) (rest := []) rfl rfl rfl rfl ?_
    refine x_aload_n (pc' := 1) rfl rfl rfl rfl rfl ?_
    refine x_iconst (pc' := 2) rfl rfl ?_
    refine x_aload_n (pc' := 3) rfl rfl rfl rfl rfl ?_
    refine x_iload_n (pc' := 4) rfl rfl rfl ?_
    refine x_iload_n (pc' := 5) rfl rfl rfl ?_
    refine x_cv (ls0 := [_, _, _, sJk]) (rest := [_, _]) rfl rfl rfl rfl rfl ?_
    refine x_aload_n (pc' := 1) rfl rfl rfl rfl rfl ?_
    refine x_iload_n (pc' := 2) rfl rfl rfl ?_
    refine x_cv (ls0 := [_, _]) (rest := []) rfl rfl rfl rfl rfl ?_
    refine x_iload_n (pc' := 1) rfl rfl rfl ?_
    refine x_if (a' := 16) (pc' := 4) (z := false) rfl rfl rfl (by decide) (fun h => by cases h) (fun _ => ?_)
    refine x_iload_n (pc' := 5) rfl rfl rfl ?_
    refine x_aload_n (pc' := 6) rfl rfl rfl rfl rfl ?_
    refine x_gR (pc' := 9) (r := (some 0)) rfl rfl rfl (z_R_705_0 e) ?_
    refine x_gR (pc' := 12) (r := (some 0)) rfl rfl rfl (z_R_256_0 e) ?_
    refine x_alen (pc' := 13) (N := 5) rfl rfl rfl (z_N_24_0 e) (?_ : X _ _ _ (.inl 5 :: _) _ _)
    refine x_icmp (a' := 27) (pc' := 16) (z := true) rfl rfl rfl (by decide) (fun _ => ?_) (fun h => by cases h)
    refine x_aload_n (pc' := 28) rfl rfl rfl rfl rfl ?_
    refine x_gR (pc' := 31) (r := (some 0)) rfl rfl rfl (z_R_705_0 e) ?_
    refine x_gR (pc' := 34) (r := (some 0)) rfl rfl rfl (z_R_256_0 e) ?_
    refine x_iload_n (pc' := 35) rfl rfl rfl ?_
    refine x_aald (pc' := 36) (N := 5) (k' := 1) (r := (some 4)) rfl rfl rfl (z_N_24_0 e) (io_in (p := 4) (N := 5) (by decide) (by decide)) (Eq.trans (congrArg (sE t 24 0) (nn_io (p := 4) (by decide))) (z_E_24_0_4 e)) ?_
    refine x_reta rfl rfl ?_
    refine sK_i (pc' := 5) rfl ?_
    refine x_astore_n (pc' := 6) (ls' := [_, _, _, _]) rfl rfl rfl rfl rfl ?_
    refine x_aload_n (pc' := 7) rfl rfl rfl rfl rfl ?_
    refine x_gR (pc' := 10) (r := (some 0)) rfl rfl rfl (z_R_706_0 e) ?_
    refine x_aload_n (pc' := 11) rfl rfl rfl rfl rfl ?_
    refine x_aload_n (pc' := 12) rfl rfl rfl rfl rfl ?_
    refine x_gR (pc' := 15) (r := (some 0)) rfl rfl rfl (z_R_706_0 e) ?_
    refine x_aload_n (pc' := 16) rfl rfl rfl rfl rfl ?_
    refine x_iload_n (pc' := 17) rfl rfl rfl ?_
    refine x_cv (ls0 := [_, _, _, sJk, sJk, sJk, sJk, sJk]) (rest := [_, _]) rfl rfl rfl rfl rfl ?_
    refine x_iconst (pc' := 1) rfl rfl ?_
    refine x_istore_n (pc' := 2) (ls' := [_, _, _, _, _, _, _, _]) rfl rfl rfl rfl ?_
    refine x_sipush (pc' := 5) rfl rfl ?_
    refine x_istore (pc' := 7) (ls' := [_, _, _, _, _, _, _, _]) rfl rfl rfl rfl ?_
    refine x_iconst (pc' := 8) rfl rfl ?_
    refine x_istore (pc' := 10) (ls' := [_, _, _, _, _, _, _, _]) rfl rfl rfl rfl ?_
    refine x_iload (pc' := 12) rfl rfl rfl ?_
    refine x_iconst (pc' := 13) rfl rfl ?_
    refine x_icmp (a' := 90) (pc' := 16) (z := false) rfl rfl rfl (by decide) (fun h => by cases h) (fun _ => ?_)
    refine x_aload_n (pc' := 17) rfl rfl rfl rfl rfl ?_
    refine x_aload_n (pc' := 18) rfl rfl rfl rfl rfl ?_
    refine x_iload (pc' := 20) rfl rfl rfl ?_
    refine x_iload_n (pc' := 21) rfl rfl rfl ?_
    refine x_cv (ls0 := [_, _, _, _, sJk, sJk, sJk, sJk]) (rest := []) rfl rfl rfl rfl rfl ?_
    refine x_aload_n (pc' := 1) rfl rfl rfl rfl rfl ?_
    refine x_aload_n (pc' := 2) rfl rfl rfl rfl rfl ?_
    refine x_iload_n (pc' := 3) rfl rfl rfl ?_
    refine x_iconst (pc' := 4) rfl rfl ?_
    refine x_cv (ls0 := [_, _, _, _, sJk, sJk]) (rest := []) rfl rfl rfl rfl rfl ?_
    refine x_aload_n (pc' := 1) rfl rfl rfl rfl rfl ?_
    refine x_gI (pc' := 4) (x := 4) rfl rfl rfl (z_I_64_4 e) ?_
    refine x_iconst (pc' := 5) rfl rfl ?_
    refine x_imul (pc' := 6) (z := 12) rfl rfl (by decide) ?_
    refine x_iload_n (pc' := 7) rfl rfl rfl ?_
    refine x_iadd (pc' := 8) (z := 12) rfl rfl (by decide) ?_
    refine x_iconst (pc' := 9) rfl rfl ?_
    refine x_imul (pc' := 10) (z := 36) rfl rfl (by decide) ?_
    refine x_iload_n (pc' := 11) rfl rfl rfl ?_
    refine x_iadd (pc' := 12) (z := 36) rfl rfl (by decide) ?_
    refine x_istore (pc' := 14) (ls' := [_, _, _, _, _, _]) rfl rfl rfl rfl ?_
    refine x_iload_n (pc' := 15) rfl rfl rfl ?_
    refine x_if (a' := 36) (pc' := 18) (z := false) rfl rfl rfl (by decide) (fun h => by cases h) (fun _ => ?_)
    refine x_iload_n (pc' := 19) rfl rfl rfl ?_
    refine x_iconst (pc' := 20) rfl rfl ?_
    refine x_icmp (a' := 36) (pc' := 23) (z := false) rfl rfl rfl (by decide) (fun h => by cases h) (fun _ => ?_)
    refine x_iload_n (pc' := 24) rfl rfl rfl ?_
    refine x_if (a' := 36) (pc' := 27) (z := false) rfl rfl rfl (by decide) (fun h => by cases h) (fun _ => ?_)
    refine x_iload_n (pc' := 28) rfl rfl rfl ?_
    refine x_iconst (pc' := 29) rfl rfl ?_
    refine x_icmp (a' := 36) (pc' := 32) (z := false) rfl rfl rfl (by decide) (fun h => by cases h) (fun _ => ?_)
    refine x_iconst (pc' := 33) rfl rfl ?_
    refine x_goto (pc' := 37) rfl rfl ?_
    refine x_istore (pc' := 39) (ls' := [_, _, _, _, _, _]) rfl rfl rfl rfl ?_
    refine x_iload (pc' := 41) rfl rfl rfl ?_
    refine x_if (a' := 67) (pc' := 44) (z := false) rfl rfl rfl (by decide) (fun h => by cases h) (fun _ => ?_)
    refine x_iload (pc' := 46) rfl rfl rfl ?_
    refine x_if (a' := 67) (pc' := 49) (z := false) rfl rfl rfl (by decide) (fun h => by cases h) (fun _ => ?_)
    refine x_iload (pc' := 51) rfl rfl rfl ?_
    refine x_getstatic (pc' := 54) rfl rfl (show 0 < sC t 28 from z_st0 e) ?_
    refine x_alen (pc' := 55) (N := 45) rfl rfl rfl (z_N_28_0 e) (?_ : X _ _ _ (.inl 45 :: _) _ _)
    refine x_icmp (a' := 67) (pc' := 58) (z := false) rfl rfl rfl (by decide) (fun h => by cases h) (fun _ => ?_)
    refine x_getstatic (pc' := 61) rfl rfl (show 0 < sC t 28 from z_st0 e) ?_
    refine x_iload (pc' := 63) rfl rfl rfl ?_
    refine x_iald (pc' := 64) (N := 45) (x := 5) rfl rfl rfl (z_N_28_0 e) (io_in (p := 36) (N := 45) (by decide) (by decide)) (Eq.trans (congrArg (sA t 28 0) (nn_io (p := 36) (by decide))) (z_A_28_0_36 e)) ?_
    refine x_goto (pc' := 68) rfl rfl ?_
    refine x_reti rfl rfl ?_
    refine sK_i (pc' := 7) rfl ?_
    refine x_if (a' := 14) (pc' := 10) (z := true) rfl rfl rfl (by decide) (fun _ => ?_) (fun h => by cases h)
    refine x_iconst (pc' := 15) rfl rfl ?_
    refine x_istore (pc' := 17) (ls' := [_, _, _, _, _, _, _, _]) rfl rfl rfl rfl ?_
    refine x_iconst (pc' := 18) rfl rfl ?_
    refine x_istore (pc' := 20) (ls' := [_, _, _, _, _, _, _, _]) rfl rfl rfl rfl ?_
    refine x_iload (pc' := 22) rfl rfl rfl ?_
    refine x_iconst (pc' := 23) rfl rfl ?_
    refine x_icmp (a' := 89) (pc' := 26) (z := false) rfl rfl rfl (by decide) (fun h => by cases h) (fun _ => ?_)
    refine x_aload_n (pc' := 27) rfl rfl rfl rfl rfl ?_
    refine x_aload_n (pc' := 28) rfl rfl rfl rfl rfl ?_
    refine x_iload_n (pc' := 29) rfl rfl rfl ?_
    refine x_iload (pc' := 31) rfl rfl rfl ?_
    refine x_cv (ls0 := [_, _, _, _, sJk, sJk]) (rest := []) rfl rfl rfl rfl rfl ?_
    refine x_aload_n (pc' := 1) rfl rfl rfl rfl rfl ?_
    refine x_gI (pc' := 4) (x := 4) rfl rfl rfl (z_I_64_4 e) ?_
    refine x_iconst (pc' := 5) rfl rfl ?_
    refine x_imul (pc' := 6) (z := 12) rfl rfl (by decide) ?_
    refine x_iload_n (pc' := 7) rfl rfl rfl ?_
    refine x_iadd (pc' := 8) (z := 12) rfl rfl (by decide) ?_
    refine x_iconst (pc' := 9) rfl rfl ?_
    refine x_imul (pc' := 10) (z := 36) rfl rfl (by decide) ?_
    refine x_iload_n (pc' := 11) rfl rfl rfl ?_
    refine x_iadd (pc' := 12) (z := 36) rfl rfl (by decide) ?_
    refine x_istore (pc' := 14) (ls' := [_, _, _, _, _, _]) rfl rfl rfl rfl ?_
    refine x_iload_n (pc' := 15) rfl rfl rfl ?_
    refine x_if (a' := 36) (pc' := 18) (z := false) rfl rfl rfl (by decide) (fun h => by cases h) (fun _ => ?_)
    refine x_iload_n (pc' := 19) rfl rfl rfl ?_
    refine x_iconst (pc' := 20) rfl rfl ?_
    refine x_icmp (a' := 36) (pc' := 23) (z := false) rfl rfl rfl (by decide) (fun h => by cases h) (fun _ => ?_)
    refine x_iload_n (pc' := 24) rfl rfl rfl ?_
    refine x_if (a' := 36) (pc' := 27) (z := false) rfl rfl rfl (by decide) (fun h => by cases h) (fun _ => ?_)
    refine x_iload_n (pc' := 28) rfl rfl rfl ?_
    refine x_iconst (pc' := 29) rfl rfl ?_
    refine x_icmp (a' := 36) (pc' := 32) (z := false) rfl rfl rfl (by decide) (fun h => by cases h) (fun _ => ?_)
    refine x_iconst (pc' := 33) rfl rfl ?_
    refine x_goto (pc' := 37) rfl rfl ?_
    refine x_istore (pc' := 39) (ls' := [_, _, _, _, _, _]) rfl rfl rfl rfl ?_
    refine x_iload (pc' := 41) rfl rfl rfl ?_
    refine x_if (a' := 67) (pc' := 44) (z := false) rfl rfl rfl (by decide) (fun h => by cases h) (fun _ => ?_)
    refine x_iload (pc' := 46) rfl rfl rfl ?_
    refine x_if (a' := 67) (pc' := 49) (z := false) rfl rfl rfl (by decide) (fun h => by cases h) (fun _ => ?_)
    refine x_iload (pc' := 51) rfl rfl rfl ?_
    refine x_getstatic (pc' := 54) rfl rfl (show 0 < sC t 28 from z_st0 e) ?_
    refine x_alen (pc' := 55) (N := 45) rfl rfl rfl (z_N_28_0 e) (?_ : X _ _ _ (.inl 45 :: _) _ _)
    refine x_icmp (a' := 67) (pc' := 58) (z := false) rfl rfl rfl (by decide) (fun h => by cases h) (fun _ => ?_)
    refine x_getstatic (pc' := 61) rfl rfl (show 0 < sC t 28 from z_st0 e) ?_
    refine x_iload (pc' := 63) rfl rfl rfl ?_
    refine x_iald (pc' := 64) (N := 45) (x := 5) rfl rfl rfl (z_N_28_0 e) (io_in (p := 36) (N := 45) (by decide) (by decide)) (Eq.trans (congrArg (sA t 28 0) (nn_io (p := 36) (by decide))) (z_A_28_0_36 e)) ?_
    refine x_goto (pc' := 68) rfl rfl ?_
    refine x_reti rfl rfl ?_
    refine sK_i (pc' := 34) rfl ?_
    refine x_istore (pc' := 36) (ls' := [_, _, _, _, _, _, _, _]) rfl rfl rfl rfl ?_
    refine x_iload (pc' := 38) rfl rfl rfl ?_
    refine x_if (a' := 83) (pc' := 41) (z := false) rfl rfl rfl (by decide) (fun h => by cases h) (fun _ => ?_)
    refine x_aload_n (pc' := 42) rfl rfl rfl rfl rfl ?_
    refine x_iload (pc' := 44) rfl rfl rfl ?_
    refine x_iload_n (pc' := 45) rfl rfl rfl ?_
    refine x_cv (ls0 := [_, _, _, sJk]) (rest := []) rfl rfl rfl rfl rfl ?_
    refine x_iload_n (pc' := 1) rfl rfl rfl ?_
    refine x_abs (pc' := 4) (z := 5) rfl rfl rfl (by decide) ?_
    refine x_iconst (pc' := 5) rfl rfl ?_
    refine x_isub (pc' := 6) (z := 4) rfl rfl (by decide) ?_
    refine x_istore_n (pc' := 7) (ls' := [_, _, _, _]) rfl rfl rfl rfl ?_
    refine x_iload_n (pc' := 8) rfl rfl rfl ?_
    refine x_if (a' := 33) (pc' := 11) (z := false) rfl rfl rfl (by decide) (fun h => by cases h) (fun _ => ?_)
    refine x_iload_n (pc' := 12) rfl rfl rfl ?_
    refine x_aload_n (pc' := 13) rfl rfl rfl rfl rfl ?_
    refine x_gR (pc' := 16) (r := (some 0)) rfl rfl rfl (z_R_640_0 e) ?_
    refine x_alen (pc' := 17) (N := 5) rfl rfl rfl (z_N_24_0 e) (?_ : X _ _ _ (.inl 5 :: _) _ _)
    refine x_icmp (a' := 33) (pc' := 20) (z := false) rfl rfl rfl (by decide) (fun h => by cases h) (fun _ => ?_)
    refine x_aload_n (pc' := 21) rfl rfl rfl rfl rfl ?_
    refine x_gR (pc' := 24) (r := (some 0)) rfl rfl rfl (z_R_640_0 e) ?_
    refine x_iload_n (pc' := 25) rfl rfl rfl ?_
    refine x_aald (pc' := 26) (N := 5) (k' := 1) (r := (some 4)) rfl rfl rfl (z_N_24_0 e) (io_in (p := 4) (N := 5) (by decide) (by decide)) (Eq.trans (congrArg (sE t 24 0) (nn_io (p := 4) (by decide))) (z_E_24_0_4 e)) ?_
    refine x_gI (pc' := 29) (x := 0) rfl rfl rfl (z_I_67_4 e) ?_
    refine x_iconst (pc' := 30) rfl rfl ?_
    refine x_icmp (a' := 35) (pc' := 33) (z := false) rfl rfl rfl (by decide) (fun h => by cases h) (fun _ => ?_)
    refine x_null (pc' := 34) rfl rfl rfl ?_
    refine x_reta rfl rfl ?_
    refine sK_i (pc' := 48) rfl ?_
    refine x_astore (pc' := 50) (ls' := [_, _, _, _, _, _, _, _]) rfl rfl rfl rfl rfl ?_
    refine x_aload (pc' := 52) rfl rfl rfl rfl rfl ?_
    refine x_ifnonnull (a' := 59) (pc' := 55) rfl rfl rfl rfl (fun i h => by cases h) (fun _ => ?_)
    refine x_sipush (pc' := 58) rfl rfl ?_
    refine x_reti rfl rfl ?_
    refine sK_i (pc' := 24) rfl ?_
    refine x_istore (pc' := 26) (ls' := [_, _, _, _, _, _, _, _]) rfl rfl rfl rfl ?_
    refine x_iload_n (pc' := 27) rfl rfl rfl ?_
    have J31 : X 82 57 [.inr (.inr (10, (some 0))), .inr (.inr (1, (some 4))), .inl (bz (!(decide ((xs 2) = 0)))), .inl (-1), .inl (-10000), .inl 0, .inl (-10000), sJk] [.inl 0] t (sK 82 110 17 [.inr (.inr (11, (some 0))), .inl 4, .inl (bz (!(decide ((xs 2) = 0)))), .inr (.inr (1, (some 4)))] [.inr (.inr (1, (some 4))), .inr (.inr (10, (some 0)))] (sK 110 284 5 [.inr (.inr (11, (some 0))), .inl 4, .inl (bz (!(decide ((xs 2) = 0)))), .inr (.inr (23, (some 0))), sJk] [.inl 0, .inr (.inr (23, (some 0)))] (sK 284 297 2122 [.inr (.inr (29, (some 0))), .inr (.inr (11, (some 0))), .inr (.inr (12, (some 0))), .inr (.inr (23, (some 0))), .inl 0, sJk, sJk] [] Qp))) := by
      refine x_istore (pc' := 59) (ls' := [_, _, _, _, _, _, _, _]) rfl rfl rfl rfl ?_
      refine x_iload (pc' := 61) rfl rfl rfl ?_
      refine x_sipush (pc' := 64) rfl rfl ?_
      refine x_icmp (a' := 84) (pc' := 67) (z := true) rfl rfl rfl (by decide) (fun _ => ?_) (fun h => by cases h)
      refine x_iinc (pc' := 87) (y := 1) (ls' := [_, _, _, _, _, _, _, _]) rfl rfl rfl rfl rfl ?_
      refine x_goto (pc' := 10) rfl rfl ?_
      refine x_iload (pc' := 12) rfl rfl rfl ?_
      refine x_iconst (pc' := 13) rfl rfl ?_
      refine x_icmp (a' := 90) (pc' := 16) (z := false) rfl rfl rfl (by decide) (fun h => by cases h) (fun _ => ?_)
      refine x_aload_n (pc' := 17) rfl rfl rfl rfl rfl ?_
      refine x_aload_n (pc' := 18) rfl rfl rfl rfl rfl ?_
      refine x_iload (pc' := 20) rfl rfl rfl ?_
      refine x_iload_n (pc' := 21) rfl rfl rfl ?_
      refine x_cv (ls0 := [_, _, _, _, sJk, sJk, sJk, sJk]) (rest := []) rfl rfl rfl rfl rfl ?_
      refine x_aload_n (pc' := 1) rfl rfl rfl rfl rfl ?_
      refine x_aload_n (pc' := 2) rfl rfl rfl rfl rfl ?_
      refine x_iload_n (pc' := 3) rfl rfl rfl ?_
      refine x_iconst (pc' := 4) rfl rfl ?_
      refine x_cv (ls0 := [_, _, _, _, sJk, sJk]) (rest := []) rfl rfl rfl rfl rfl ?_
      refine x_aload_n (pc' := 1) rfl rfl rfl rfl rfl ?_
      refine x_gI (pc' := 4) (x := 4) rfl rfl rfl (z_I_64_4 e) ?_
      refine x_iconst (pc' := 5) rfl rfl ?_
      refine x_imul (pc' := 6) (z := 12) rfl rfl (by decide) ?_
      refine x_iload_n (pc' := 7) rfl rfl rfl ?_
      refine x_iadd (pc' := 8) (z := 13) rfl rfl (by decide) ?_
      refine x_iconst (pc' := 9) rfl rfl ?_
      refine x_imul (pc' := 10) (z := 39) rfl rfl (by decide) ?_
      refine x_iload_n (pc' := 11) rfl rfl rfl ?_
      refine x_iadd (pc' := 12) (z := 39) rfl rfl (by decide) ?_
      refine x_istore (pc' := 14) (ls' := [_, _, _, _, _, _]) rfl rfl rfl rfl ?_
      refine x_iload_n (pc' := 15) rfl rfl rfl ?_
      refine x_if (a' := 36) (pc' := 18) (z := false) rfl rfl rfl (by decide) (fun h => by cases h) (fun _ => ?_)
      refine x_iload_n (pc' := 19) rfl rfl rfl ?_
      refine x_iconst (pc' := 20) rfl rfl ?_
      refine x_icmp (a' := 36) (pc' := 23) (z := false) rfl rfl rfl (by decide) (fun h => by cases h) (fun _ => ?_)
      refine x_iload_n (pc' := 24) rfl rfl rfl ?_
      refine x_if (a' := 36) (pc' := 27) (z := false) rfl rfl rfl (by decide) (fun h => by cases h) (fun _ => ?_)
      refine x_iload_n (pc' := 28) rfl rfl rfl ?_
      refine x_iconst (pc' := 29) rfl rfl ?_
      refine x_icmp (a' := 36) (pc' := 32) (z := false) rfl rfl rfl (by decide) (fun h => by cases h) (fun _ => ?_)
      refine x_iconst (pc' := 33) rfl rfl ?_
      refine x_goto (pc' := 37) rfl rfl ?_
      refine x_istore (pc' := 39) (ls' := [_, _, _, _, _, _]) rfl rfl rfl rfl ?_
      refine x_iload (pc' := 41) rfl rfl rfl ?_
      refine x_if (a' := 67) (pc' := 44) (z := false) rfl rfl rfl (by decide) (fun h => by cases h) (fun _ => ?_)
      refine x_iload (pc' := 46) rfl rfl rfl ?_
      refine x_if (a' := 67) (pc' := 49) (z := false) rfl rfl rfl (by decide) (fun h => by cases h) (fun _ => ?_)
      refine x_iload (pc' := 51) rfl rfl rfl ?_
      refine x_getstatic (pc' := 54) rfl rfl (show 0 < sC t 28 from z_st0 e) ?_
      refine x_alen (pc' := 55) (N := 45) rfl rfl rfl (z_N_28_0 e) (?_ : X _ _ _ (.inl 45 :: _) _ _)
      refine x_icmp (a' := 67) (pc' := 58) (z := false) rfl rfl rfl (by decide) (fun h => by cases h) (fun _ => ?_)
      refine x_getstatic (pc' := 61) rfl rfl (show 0 < sC t 28 from z_st0 e) ?_
      refine x_iload (pc' := 63) rfl rfl rfl ?_
      refine x_iald (pc' := 64) (N := 45) (x := 2) rfl rfl rfl (z_N_28_0 e) (io_in (p := 39) (N := 45) (by decide) (by decide)) (Eq.trans (congrArg (sA t 28 0) (nn_io (p := 39) (by decide))) (z_A_28_0_39 e)) ?_
      refine x_goto (pc' := 68) rfl rfl ?_
      refine x_reti rfl rfl ?_
      refine sK_i (pc' := 7) rfl ?_
      refine x_if (a' := 14) (pc' := 10) (z := true) rfl rfl rfl (by decide) (fun _ => ?_) (fun h => by cases h)
      refine x_iconst (pc' := 15) rfl rfl ?_
      refine x_istore (pc' := 17) (ls' := [_, _, _, _, _, _, _, _]) rfl rfl rfl rfl ?_
      refine x_iconst (pc' := 18) rfl rfl ?_
      refine x_istore (pc' := 20) (ls' := [_, _, _, _, _, _, _, _]) rfl rfl rfl rfl ?_
      refine x_iload (pc' := 22) rfl rfl rfl ?_
      refine x_iconst (pc' := 23) rfl rfl ?_
      refine x_icmp (a' := 89) (pc' := 26) (z := false) rfl rfl rfl (by decide) (fun h => by cases h) (fun _ => ?_)
      refine x_aload_n (pc' := 27) rfl rfl rfl rfl rfl ?_
      refine x_aload_n (pc' := 28) rfl rfl rfl rfl rfl ?_
      refine x_iload_n (pc' := 29) rfl rfl rfl ?_
      refine x_iload (pc' := 31) rfl rfl rfl ?_
      refine x_cv (ls0 := [_, _, _, _, sJk, sJk]) (rest := []) rfl rfl rfl rfl rfl ?_
      refine x_aload_n (pc' := 1) rfl rfl rfl rfl rfl ?_
      refine x_gI (pc' := 4) (x := 4) rfl rfl rfl (z_I_64_4 e) ?_
      refine x_iconst (pc' := 5) rfl rfl ?_
      refine x_imul (pc' := 6) (z := 12) rfl rfl (by decide) ?_
      refine x_iload_n (pc' := 7) rfl rfl rfl ?_
      refine x_iadd (pc' := 8) (z := 13) rfl rfl (by decide) ?_
      refine x_iconst (pc' := 9) rfl rfl ?_
      refine x_imul (pc' := 10) (z := 39) rfl rfl (by decide) ?_
      refine x_iload_n (pc' := 11) rfl rfl rfl ?_
      refine x_iadd (pc' := 12) (z := 39) rfl rfl (by decide) ?_
      refine x_istore (pc' := 14) (ls' := [_, _, _, _, _, _]) rfl rfl rfl rfl ?_
      refine x_iload_n (pc' := 15) rfl rfl rfl ?_
      refine x_if (a' := 36) (pc' := 18) (z := false) rfl rfl rfl (by decide) (fun h => by cases h) (fun _ => ?_)
      refine x_iload_n (pc' := 19) rfl rfl rfl ?_
      refine x_iconst (pc' := 20) rfl rfl ?_
      refine x_icmp (a' := 36) (pc' := 23) (z := false) rfl rfl rfl (by decide) (fun h => by cases h) (fun _ => ?_)
      refine x_iload_n (pc' := 24) rfl rfl rfl ?_
      refine x_if (a' := 36) (pc' := 27) (z := false) rfl rfl rfl (by decide) (fun h => by cases h) (fun _ => ?_)
      refine x_iload_n (pc' := 28) rfl rfl rfl ?_
      refine x_iconst (pc' := 29) rfl rfl ?_
      refine x_icmp (a' := 36) (pc' := 32) (z := false) rfl rfl rfl (by decide) (fun h => by cases h) (fun _ => ?_)
      refine x_iconst (pc' := 33) rfl rfl ?_
      refine x_goto (pc' := 37) rfl rfl ?_
      refine x_istore (pc' := 39) (ls' := [_, _, _, _, _, _]) rfl rfl rfl rfl ?_
      refine x_iload (pc' := 41) rfl rfl rfl ?_
      refine x_if (a' := 67) (pc' := 44) (z := false) rfl rfl rfl (by decide) (fun h => by cases h) (fun _ => ?_)
      refine x_iload (pc' := 46) rfl rfl rfl ?_
      refine x_if (a' := 67) (pc' := 49) (z := false) rfl rfl rfl (by decide) (fun h => by cases h) (fun _ => ?_)
      refine x_iload (pc' := 51) rfl rfl rfl ?_
      refine x_getstatic (pc' := 54) rfl rfl (show 0 < sC t 28 from z_st0 e) ?_
      refine x_alen (pc' := 55) (N := 45) rfl rfl rfl (z_N_28_0 e) (?_ : X _ _ _ (.inl 45 :: _) _ _)
      refine x_icmp (a' := 67) (pc' := 58) (z := false) rfl rfl rfl (by decide) (fun h => by cases h) (fun _ => ?_)
      refine x_getstatic (pc' := 61) rfl rfl (show 0 < sC t 28 from z_st0 e) ?_
      refine x_iload (pc' := 63) rfl rfl rfl ?_
      refine x_iald (pc' := 64) (N := 45) (x := 2) rfl rfl rfl (z_N_28_0 e) (io_in (p := 39) (N := 45) (by decide) (by decide)) (Eq.trans (congrArg (sA t 28 0) (nn_io (p := 39) (by decide))) (z_A_28_0_39 e)) ?_
      refine x_goto (pc' := 68) rfl rfl ?_
      refine x_reti rfl rfl ?_
      refine sK_i (pc' := 34) rfl ?_
      refine x_istore (pc' := 36) (ls' := [_, _, _, _, _, _, _, _]) rfl rfl rfl rfl ?_
      refine x_iload (pc' := 38) rfl rfl rfl ?_
      refine x_if (a' := 83) (pc' := 41) (z := false) rfl rfl rfl (by decide) (fun h => by cases h) (fun _ => ?_)
      refine x_aload_n (pc' := 42) rfl rfl rfl rfl rfl ?_
      refine x_iload (pc' := 44) rfl rfl rfl ?_
      refine x_iload_n (pc' := 45) rfl rfl rfl ?_
      refine x_cv (ls0 := [_, _, _, sJk]) (rest := []) rfl rfl rfl rfl rfl ?_
      refine x_iload_n (pc' := 1) rfl rfl rfl ?_
      refine x_abs (pc' := 4) (z := 2) rfl rfl rfl (by decide) ?_
      refine x_iconst (pc' := 5) rfl rfl ?_
      refine x_isub (pc' := 6) (z := 1) rfl rfl (by decide) ?_
      refine x_istore_n (pc' := 7) (ls' := [_, _, _, _]) rfl rfl rfl rfl ?_
      refine x_iload_n (pc' := 8) rfl rfl rfl ?_
      refine x_if (a' := 33) (pc' := 11) (z := false) rfl rfl rfl (by decide) (fun h => by cases h) (fun _ => ?_)
      refine x_iload_n (pc' := 12) rfl rfl rfl ?_
      refine x_aload_n (pc' := 13) rfl rfl rfl rfl rfl ?_
      refine x_gR (pc' := 16) (r := (some 0)) rfl rfl rfl (z_R_640_0 e) ?_
      refine x_alen (pc' := 17) (N := 5) rfl rfl rfl (z_N_24_0 e) (?_ : X _ _ _ (.inl 5 :: _) _ _)
      refine x_icmp (a' := 33) (pc' := 20) (z := false) rfl rfl rfl (by decide) (fun h => by cases h) (fun _ => ?_)
      refine x_aload_n (pc' := 21) rfl rfl rfl rfl rfl ?_
      refine x_gR (pc' := 24) (r := (some 0)) rfl rfl rfl (z_R_640_0 e) ?_
      refine x_iload_n (pc' := 25) rfl rfl rfl ?_
      refine x_aald (pc' := 26) (N := 5) (k' := 1) (r := (some 1)) rfl rfl rfl (z_N_24_0 e) (io_in (p := 1) (N := 5) (by decide) (by decide)) (Eq.trans (congrArg (sE t 24 0) (nn_io (p := 1) (by decide))) (z_E_24_0_1 e)) ?_
      refine x_gI (pc' := 29) (x := 0) rfl rfl rfl (z_I_67_1 e) ?_
      refine x_iconst (pc' := 30) rfl rfl ?_
      refine x_icmp (a' := 35) (pc' := 33) (z := false) rfl rfl rfl (by decide) (fun h => by cases h) (fun _ => ?_)
      refine x_null (pc' := 34) rfl rfl rfl ?_
      refine x_reta rfl rfl ?_
      refine sK_i (pc' := 48) rfl ?_
      refine x_astore (pc' := 50) (ls' := [_, _, _, _, _, _, _, _]) rfl rfl rfl rfl rfl ?_
      refine x_aload (pc' := 52) rfl rfl rfl rfl rfl ?_
      refine x_ifnonnull (a' := 59) (pc' := 55) rfl rfl rfl rfl (fun i h => by cases h) (fun _ => ?_)
      refine x_sipush (pc' := 58) rfl rfl ?_
      refine x_reti rfl rfl ?_
      refine sK_i (pc' := 24) rfl ?_
      refine x_istore (pc' := 26) (ls' := [_, _, _, _, _, _, _, _]) rfl rfl rfl rfl ?_
      refine x_iload_n (pc' := 27) rfl rfl rfl ?_
      have J58 : X 82 57 [.inr (.inr (10, (some 0))), .inr (.inr (1, (some 4))), .inl (bz (!(decide ((xs 2) = 0)))), .inl (-1), .inl (-10000), .inl 1, .inl (-10000), .inl 0] [.inl 0] t (sK 82 110 17 [.inr (.inr (11, (some 0))), .inl 4, .inl (bz (!(decide ((xs 2) = 0)))), .inr (.inr (1, (some 4)))] [.inr (.inr (1, (some 4))), .inr (.inr (10, (some 0)))] (sK 110 284 5 [.inr (.inr (11, (some 0))), .inl 4, .inl (bz (!(decide ((xs 2) = 0)))), .inr (.inr (23, (some 0))), sJk] [.inl 0, .inr (.inr (23, (some 0)))] (sK 284 297 2122 [.inr (.inr (29, (some 0))), .inr (.inr (11, (some 0))), .inr (.inr (12, (some 0))), .inr (.inr (23, (some 0))), .inl 0, sJk, sJk] [] Qp))) := by
        refine x_istore (pc' := 59) (ls' := [_, _, _, _, _, _, _, _]) rfl rfl rfl rfl ?_
        refine x_iload (pc' := 61) rfl rfl rfl ?_
        refine x_sipush (pc' := 64) rfl rfl ?_
        refine x_icmp (a' := 84) (pc' := 67) (z := true) rfl rfl rfl (by decide) (fun _ => ?_) (fun h => by cases h)
        refine x_iinc (pc' := 87) (y := 2) (ls' := [_, _, _, _, _, _, _, _]) rfl rfl rfl rfl rfl ?_
        refine x_goto (pc' := 10) rfl rfl ?_
        refine x_iload (pc' := 12) rfl rfl rfl ?_
        refine x_iconst (pc' := 13) rfl rfl ?_
        refine x_icmp (a' := 90) (pc' := 16) (z := false) rfl rfl rfl (by decide) (fun h => by cases h) (fun _ => ?_)
        refine x_aload_n (pc' := 17) rfl rfl rfl rfl rfl ?_
        refine x_aload_n (pc' := 18) rfl rfl rfl rfl rfl ?_
        refine x_iload (pc' := 20) rfl rfl rfl ?_
        refine x_iload_n (pc' := 21) rfl rfl rfl ?_
        refine x_cv (ls0 := [_, _, _, _, sJk, sJk, sJk, sJk]) (rest := []) rfl rfl rfl rfl rfl ?_
        refine x_aload_n (pc' := 1) rfl rfl rfl rfl rfl ?_
        refine x_aload_n (pc' := 2) rfl rfl rfl rfl rfl ?_
        refine x_iload_n (pc' := 3) rfl rfl rfl ?_
        refine x_iconst (pc' := 4) rfl rfl ?_
        refine x_cv (ls0 := [_, _, _, _, sJk, sJk]) (rest := []) rfl rfl rfl rfl rfl ?_
        refine x_aload_n (pc' := 1) rfl rfl rfl rfl rfl ?_
        refine x_gI (pc' := 4) (x := 4) rfl rfl rfl (z_I_64_4 e) ?_
        refine x_iconst (pc' := 5) rfl rfl ?_
        refine x_imul (pc' := 6) (z := 12) rfl rfl (by decide) ?_
        refine x_iload_n (pc' := 7) rfl rfl rfl ?_
        refine x_iadd (pc' := 8) (z := 14) rfl rfl (by decide) ?_
        refine x_iconst (pc' := 9) rfl rfl ?_
        refine x_imul (pc' := 10) (z := 42) rfl rfl (by decide) ?_
        refine x_iload_n (pc' := 11) rfl rfl rfl ?_
        refine x_iadd (pc' := 12) (z := 42) rfl rfl (by decide) ?_
        refine x_istore (pc' := 14) (ls' := [_, _, _, _, _, _]) rfl rfl rfl rfl ?_
        refine x_iload_n (pc' := 15) rfl rfl rfl ?_
        refine x_if (a' := 36) (pc' := 18) (z := false) rfl rfl rfl (by decide) (fun h => by cases h) (fun _ => ?_)
        refine x_iload_n (pc' := 19) rfl rfl rfl ?_
        refine x_iconst (pc' := 20) rfl rfl ?_
        refine x_icmp (a' := 36) (pc' := 23) (z := false) rfl rfl rfl (by decide) (fun h => by cases h) (fun _ => ?_)
        refine x_iload_n (pc' := 24) rfl rfl rfl ?_
        refine x_if (a' := 36) (pc' := 27) (z := false) rfl rfl rfl (by decide) (fun h => by cases h) (fun _ => ?_)
        refine x_iload_n (pc' := 28) rfl rfl rfl ?_
        refine x_iconst (pc' := 29) rfl rfl ?_
        refine x_icmp (a' := 36) (pc' := 32) (z := false) rfl rfl rfl (by decide) (fun h => by cases h) (fun _ => ?_)
        refine x_iconst (pc' := 33) rfl rfl ?_
        refine x_goto (pc' := 37) rfl rfl ?_
        refine x_istore (pc' := 39) (ls' := [_, _, _, _, _, _]) rfl rfl rfl rfl ?_
        refine x_iload (pc' := 41) rfl rfl rfl ?_
        refine x_if (a' := 67) (pc' := 44) (z := false) rfl rfl rfl (by decide) (fun h => by cases h) (fun _ => ?_)
        refine x_iload (pc' := 46) rfl rfl rfl ?_
        refine x_if (a' := 67) (pc' := 49) (z := false) rfl rfl rfl (by decide) (fun h => by cases h) (fun _ => ?_)
        refine x_iload (pc' := 51) rfl rfl rfl ?_
        refine x_getstatic (pc' := 54) rfl rfl (show 0 < sC t 28 from z_st0 e) ?_
        refine x_alen (pc' := 55) (N := 45) rfl rfl rfl (z_N_28_0 e) (?_ : X _ _ _ (.inl 45 :: _) _ _)
        refine x_icmp (a' := 67) (pc' := 58) (z := false) rfl rfl rfl (by decide) (fun h => by cases h) (fun _ => ?_)
        refine x_getstatic (pc' := 61) rfl rfl (show 0 < sC t 28 from z_st0 e) ?_
        refine x_iload (pc' := 63) rfl rfl rfl ?_
        refine x_iald (pc' := 64) (N := 45) (x := 0) rfl rfl rfl (z_N_28_0 e) (io_in (p := 42) (N := 45) (by decide) (by decide)) (Eq.trans (congrArg (sA t 28 0) (nn_io (p := 42) (by decide))) (z_A_28_0_42 e)) ?_
        refine x_goto (pc' := 68) rfl rfl ?_
        refine x_reti rfl rfl ?_
        refine sK_i (pc' := 7) rfl ?_
        refine x_if (a' := 14) (pc' := 10) (z := false) rfl rfl rfl (by decide) (fun h => by cases h) (fun _ => ?_)
        refine x_sipush (pc' := 13) rfl rfl ?_
        refine x_reti rfl rfl ?_
        refine sK_i (pc' := 24) rfl ?_
        refine x_istore (pc' := 26) (ls' := [_, _, _, _, _, _, _, _]) rfl rfl rfl rfl ?_
        refine x_iload_n (pc' := 27) rfl rfl rfl ?_
        have J72 : X 82 57 [.inr (.inr (10, (some 0))), .inr (.inr (1, (some 4))), .inl (bz (!(decide ((xs 2) = 0)))), .inl (-1), .inl (-10000), .inl 2, .inl (-10000), .inl 0] [.inl 0] t (sK 82 110 17 [.inr (.inr (11, (some 0))), .inl 4, .inl (bz (!(decide ((xs 2) = 0)))), .inr (.inr (1, (some 4)))] [.inr (.inr (1, (some 4))), .inr (.inr (10, (some 0)))] (sK 110 284 5 [.inr (.inr (11, (some 0))), .inl 4, .inl (bz (!(decide ((xs 2) = 0)))), .inr (.inr (23, (some 0))), sJk] [.inl 0, .inr (.inr (23, (some 0)))] (sK 284 297 2122 [.inr (.inr (29, (some 0))), .inr (.inr (11, (some 0))), .inr (.inr (12, (some 0))), .inr (.inr (23, (some 0))), .inl 0, sJk, sJk] [] Qp))) := by
          refine x_istore (pc' := 59) (ls' := [_, _, _, _, _, _, _, _]) rfl rfl rfl rfl ?_
          refine x_iload (pc' := 61) rfl rfl rfl ?_
          refine x_sipush (pc' := 64) rfl rfl ?_
          refine x_icmp (a' := 84) (pc' := 67) (z := true) rfl rfl rfl (by decide) (fun _ => ?_) (fun h => by cases h)
          refine x_iinc (pc' := 87) (y := 3) (ls' := [_, _, _, _, _, _, _, _]) rfl rfl rfl rfl rfl ?_
          refine x_goto (pc' := 10) rfl rfl ?_
          refine x_iload (pc' := 12) rfl rfl rfl ?_
          refine x_iconst (pc' := 13) rfl rfl ?_
          refine x_icmp (a' := 90) (pc' := 16) (z := true) rfl rfl rfl (by decide) (fun _ => ?_) (fun h => by cases h)
          refine x_iload_n (pc' := 91) rfl rfl rfl ?_
          refine x_reti rfl rfl ?_
          refine sK_i (pc' := 20) rfl ?_
          refine x_iload_n (pc' := 21) rfl rfl rfl ?_
          refine x_cv (ls0 := [_, _, _, _, sJk, sJk, sJk, sJk]) (rest := []) rfl rfl rfl rfl rfl ?_
          refine x_aload_n (pc' := 1) rfl rfl rfl rfl rfl ?_
          refine x_aload_n (pc' := 2) rfl rfl rfl rfl rfl ?_
          refine x_iload_n (pc' := 3) rfl rfl rfl ?_
          refine x_iconst (pc' := 4) rfl rfl ?_
          refine x_cv (ls0 := [_, _, _, _, sJk, sJk]) (rest := []) rfl rfl rfl rfl rfl ?_
          refine x_aload_n (pc' := 1) rfl rfl rfl rfl rfl ?_
          refine x_gI (pc' := 4) (x := 4) rfl rfl rfl (z_I_64_4 e) ?_
          refine x_iconst (pc' := 5) rfl rfl ?_
          refine x_imul (pc' := 6) (z := 12) rfl rfl (by decide) ?_
          refine x_iload_n (pc' := 7) rfl rfl rfl ?_
          refine x_iadd (pc' := 8) (z := 11) rfl rfl (by decide) ?_
          refine x_iconst (pc' := 9) rfl rfl ?_
          refine x_imul (pc' := 10) (z := 33) rfl rfl (by decide) ?_
          refine x_iload_n (pc' := 11) rfl rfl rfl ?_
          refine x_iadd (pc' := 12) (z := 33) rfl rfl (by decide) ?_
          refine x_istore (pc' := 14) (ls' := [_, _, _, _, _, _]) rfl rfl rfl rfl ?_
          refine x_iload_n (pc' := 15) rfl rfl rfl ?_
          refine x_if (a' := 36) (pc' := 18) (z := true) rfl rfl rfl (by decide) (fun _ => ?_) (fun h => by cases h)
          refine x_iconst (pc' := 37) rfl rfl ?_
          refine x_istore (pc' := 39) (ls' := [_, _, _, _, _, _]) rfl rfl rfl rfl ?_
          refine x_iload (pc' := 41) rfl rfl rfl ?_
          refine x_if (a' := 67) (pc' := 44) (z := true) rfl rfl rfl (by decide) (fun _ => ?_) (fun h => by cases h)
          refine x_iconst (pc' := 68) rfl rfl ?_
          refine x_reti rfl rfl ?_
          refine sK_i (pc' := 7) rfl ?_
          refine x_if (a' := 14) (pc' := 10) (z := false) rfl rfl rfl (by decide) (fun h => by cases h) (fun _ => ?_)
          refine x_sipush (pc' := 13) rfl rfl ?_
          refine x_reti rfl rfl ?_
          refine sK_i (pc' := 24) rfl ?_
          refine x_reti rfl rfl ?_
          refine sK_i (pc' := 8) rfl ?_
          refine x_i2l (pc' := 9) (z := (-10000 : Int64)) rfl rfl (by decide) ?_
          refine x_last (pc' := 10) (N := 1) (p := 0) rfl rfl (z_N_23_0 e) (io_in (p := 0) (N := 1) (by decide) (by decide)) (nn_io (p := 0) (by decide)) ?_
          refine x_goto (pc' := 17) rfl rfl ?_
          refine x_iconst (pc' := 18) rfl rfl ?_
          refine x_reti rfl rfl ?_
          refine sK_i (pc' := 2125) rfl ?_
          exact k0
        refine x_ifeq_z (a' := 45) (pc' := 30) (z := (!(decide ((xs 2) = 0)))) rfl rfl rfl (fun q70 => ?_) (fun q70 => ?_)
        · refine x_iload (pc' := 47) rfl rfl rfl ?_
          refine x_iload (pc' := 49) rfl rfl rfl ?_
          refine x_icmp (a' := 56) (pc' := 52) (z := true) rfl rfl rfl (by decide) (fun _ => ?_) (fun h => by cases h)
          refine x_iconst (pc' := 57) rfl rfl ?_
          ((try rw [q70] at J72); (try rw [q70]); (try simp only [cd_t, cd_f, nt_t, nt_f, an_t, an_f, or_t, or_f] at J72); (try simp only [cd_t, cd_f, nt_t, nt_f, an_t, an_f, or_t, or_f]); exact J72)
        · refine x_iload (pc' := 32) rfl rfl rfl ?_
          refine x_iload (pc' := 34) rfl rfl rfl ?_
          refine x_icmp (a' := 41) (pc' := 37) (z := true) rfl rfl rfl (by decide) (fun _ => ?_) (fun h => by cases h)
          refine x_iconst (pc' := 42) rfl rfl ?_
          refine x_goto (pc' := 57) rfl rfl ?_
          ((try rw [q70] at J72); (try rw [q70]); (try simp only [cd_t, cd_f, nt_t, nt_f, an_t, an_f, or_t, or_f] at J72); (try simp only [cd_t, cd_f, nt_t, nt_f, an_t, an_f, or_t, or_f]); exact J72)
      refine x_ifeq_z (a' := 45) (pc' := 30) (z := (!(decide ((xs 2) = 0)))) rfl rfl rfl (fun q56 => ?_) (fun q56 => ?_)
      · refine x_iload (pc' := 47) rfl rfl rfl ?_
        refine x_iload (pc' := 49) rfl rfl rfl ?_
        refine x_icmp (a' := 56) (pc' := 52) (z := true) rfl rfl rfl (by decide) (fun _ => ?_) (fun h => by cases h)
        refine x_iconst (pc' := 57) rfl rfl ?_
        ((try rw [q56] at J58); (try rw [q56]); (try simp only [cd_t, cd_f, nt_t, nt_f, an_t, an_f, or_t, or_f] at J58); (try simp only [cd_t, cd_f, nt_t, nt_f, an_t, an_f, or_t, or_f]); exact J58)
      · refine x_iload (pc' := 32) rfl rfl rfl ?_
        refine x_iload (pc' := 34) rfl rfl rfl ?_
        refine x_icmp (a' := 41) (pc' := 37) (z := true) rfl rfl rfl (by decide) (fun _ => ?_) (fun h => by cases h)
        refine x_iconst (pc' := 42) rfl rfl ?_
        refine x_goto (pc' := 57) rfl rfl ?_
        ((try rw [q56] at J58); (try rw [q56]); (try simp only [cd_t, cd_f, nt_t, nt_f, an_t, an_f, or_t, or_f] at J58); (try simp only [cd_t, cd_f, nt_t, nt_f, an_t, an_f, or_t, or_f]); exact J58)
    refine x_ifeq_z (a' := 45) (pc' := 30) (z := (!(decide ((xs 2) = 0)))) rfl rfl rfl (fun q29 => ?_) (fun q29 => ?_)
    · refine x_iload (pc' := 47) rfl rfl rfl ?_
      refine x_iload (pc' := 49) rfl rfl rfl ?_
      refine x_icmp (a' := 56) (pc' := 52) (z := true) rfl rfl rfl (by decide) (fun _ => ?_) (fun h => by cases h)
      refine x_iconst (pc' := 57) rfl rfl ?_
      ((try rw [q29] at J31); (try rw [q29]); (try simp only [cd_t, cd_f, nt_t, nt_f, an_t, an_f, or_t, or_f] at J31); (try simp only [cd_t, cd_f, nt_t, nt_f, an_t, an_f, or_t, or_f]); exact J31)
    · refine x_iload (pc' := 32) rfl rfl rfl ?_
      refine x_iload (pc' := 34) rfl rfl rfl ?_
      refine x_icmp (a' := 41) (pc' := 37) (z := true) rfl rfl rfl (by decide) (fun _ => ?_) (fun h => by cases h)
      refine x_iconst (pc' := 42) rfl rfl ?_
      refine x_goto (pc' := 57) rfl rfl ?_
      ((try rw [q29] at J31); (try rw [q29]); (try simp only [cd_t, cd_f, nt_t, nt_f, an_t, an_f, or_t, or_f] at J31); (try simp only [cd_t, cd_f, nt_t, nt_f, an_t, an_f, or_t, or_f]); exact J31)
  refine x_if (a' := 2120) (pc' := 2116) (z := decide ((xs 2) = 0)) rfl rfl rfl rfl (fun q3 => ?_) (fun q3 => ?_)
  · refine x_iconst (pc' := 2121) rfl rfl ?_
    ((try rw [q3] at J3); (try rw [q3]); (try simp only [cd_t, cd_f, nt_t, nt_f, an_t, an_f, or_t, or_f] at J3); (try simp only [cd_t, cd_f, nt_t, nt_f, an_t, an_f, or_t, or_f]); exact J3)
  · refine x_iconst (pc' := 2117) rfl rfl ?_
    refine x_goto (pc' := 2121) rfl rfl ?_
    ((try rw [q3] at J3); (try rw [q3]); (try simp only [cd_t, cd_f, nt_t, nt_f, an_t, an_f, or_t, or_f] at J3); (try simp only [cd_t, cd_f, nt_t, nt_f, an_t, an_f, or_t, or_f]); exact J3)
set_option maxHeartbeats 4000000 in
set_option maxRecDepth 10000 in
theorem v_26_A_i {t : sT} {xs : Nat → Int32}
    (e : t = T16 7 xs)
    (hk : ((xs 0) &&& 63) = 26)
    (e0 : (xs 1) < 0) :
    X 297 23 [.inr (.inr (29, (some 0))), .inr (.inr (11, (some 0))), .inr (.inr (12, (some 0))), .inr (.inr (23, (some 0))), .inl 0, sJk, sJk] [] t Qp := by
  refine x_iload (pc' := 25) rfl rfl rfl ?_
  refine x_aload_n (pc' := 26) rfl rfl rfl rfl rfl ?_
  refine x_alen (pc' := 27) (N := 7) rfl rfl rfl (z_N_29_0 e) (?_ : X _ _ _ (.inl 7 :: _) _ _)
  refine x_bipush (pc' := 29) rfl rfl ?_
  refine x_isub (pc' := 30) (z := 0) rfl rfl (by decide) ?_
  refine x_icmp (a' := 2944) (pc' := 33) (z := false) rfl rfl rfl (by decide) (fun h => by cases h) (fun _ => ?_)
  refine x_aload_n (pc' := 34) rfl rfl rfl rfl rfl ?_
  refine x_iload (pc' := 36) rfl rfl rfl ?_
  refine x_iald (pc' := 37) (N := 7) (x := (xs 0)) rfl rfl rfl (z_N_29_0 e) (io_in (p := 0) (N := 7) (by decide) (by decide)) (Eq.trans (congrArg (sA t 29 0) (nn_io (p := 0) (by decide))) (z_A_29_0_0 e)) ?_
  refine x_bipush (pc' := 39) rfl rfl ?_
  refine x_iand (pc' := 40) (z := ((xs 0) &&& 63)) rfl rfl rfl ?_
  refine x_switch (pc' := 2100) rfl (by rw [hk]; decide) ?_
  refine x_aload_n (pc' := 2101) rfl rfl rfl rfl rfl ?_
  refine x_aload_n (pc' := 2102) rfl rfl rfl rfl rfl ?_
  refine x_iload (pc' := 2104) rfl rfl rfl ?_
  refine x_iconst (pc' := 2105) rfl rfl ?_
  refine x_iadd (pc' := 2106) (z := 1) rfl rfl (by decide) ?_
  refine x_iald (pc' := 2107) (N := 7) (x := (xs 1)) rfl rfl rfl (z_N_29_0 e) (io_in (p := 1) (N := 7) (by decide) (by decide)) (Eq.trans (congrArg (sA t 29 0) (nn_io (p := 1) (by decide))) (z_A_29_0_1 e)) ?_
  refine x_aload_n (pc' := 2108) rfl rfl rfl rfl rfl ?_
  refine x_iload (pc' := 2110) rfl rfl rfl ?_
  refine x_iconst (pc' := 2111) rfl rfl ?_
  refine x_iadd (pc' := 2112) (z := 2) rfl rfl (by decide) ?_
  refine x_iald (pc' := 2113) (N := 7) (x := (xs 2)) rfl rfl rfl (z_N_29_0 e) (io_in (p := 2) (N := 7) (by decide) (by decide)) (Eq.trans (congrArg (sA t 29 0) (nn_io (p := 2) (by decide))) (z_A_29_0_2 e)) ?_
  have J3 : X 297 2121 [.inr (.inr (29, (some 0))), .inr (.inr (11, (some 0))), .inr (.inr (12, (some 0))), .inr (.inr (23, (some 0))), .inl 0, sJk, sJk] [.inl (bz (!(decide ((xs 2) = 0)))), .inl (xs 1), .inr (.inr (11, (some 0)))] t Qp := by
    refine x_aload_n (pc' := 2122) rfl rfl rfl rfl rfl ?_
    refine x_cs (ls0 := [_, _, _, _, sJk]) (rest := []) rfl rfl rfl rfl ?_
    refine x_aload_n (pc' := 1) rfl rfl rfl rfl rfl ?_
    refine x_iconst (pc' := 2) rfl rfl ?_
    refine x_aload_n (pc' := 3) rfl rfl rfl rfl rfl ?_
    refine x_iload_n (pc' := 4) rfl rfl rfl ?_
    refine x_iload_n (pc' := 5) rfl rfl rfl ?_
    refine x_cv (ls0 := [_, _, _, sJk]) (rest := [_, _]) rfl rfl rfl rfl rfl ?_
    refine x_aload_n (pc' := 1) rfl rfl rfl rfl rfl ?_
    refine x_iload_n (pc' := 2) rfl rfl rfl ?_
    refine x_cv (ls0 := [_, _]) (rest := []) rfl rfl rfl rfl rfl ?_
    refine x_iload_n (pc' := 1) rfl rfl rfl ?_
    refine x_if (a' := 16) (pc' := 4) (z := decide ((xs 1) < 0)) rfl rfl rfl rfl (fun _ => ?_) (fun h => absurd e0 (of_decide_eq_false h))
    refine x_throw rfl rfl ?_
    refine sK_n (by decide +kernel) rfl ?_
    refine sK_h (h := 13) (by decide +kernel) rfl ?_
    refine x_catch (pc' := 15) (ls' := [_, _, _, _, _]) rfl rfl rfl rfl ?_
    refine x_iconst (pc' := 16) rfl rfl ?_
    refine x_reti rfl rfl ?_
    refine sK_i (pc' := 2125) rfl ?_
    refine x_istore (pc' := 2127) (ls' := [_, _, _, _, _, _, _]) rfl rfl rfl rfl ?_
    refine x_aload_n (pc' := 2128) rfl rfl rfl rfl rfl ?_
    refine x_aload_n (pc' := 2129) rfl rfl rfl rfl rfl ?_
    refine x_iload (pc' := 2131) rfl rfl rfl ?_
    refine x_iconst (pc' := 2132) rfl rfl ?_
    refine x_iadd (pc' := 2133) (z := 1) rfl rfl (by decide) ?_
    refine x_iald (pc' := 2134) (N := 7) (x := (xs 1)) rfl rfl rfl (Eq.trans rdNthr (z_N_29_0 e)) (io_in (p := 1) (N := 7) (by decide) (by decide)) (Eq.trans (congrArg (sA (sThr t) 29 0) (nn_io (p := 1) (by decide))) (Eq.trans rdAthr (z_A_29_0_1 e))) ?_
    refine x_aload_n (pc' := 2135) rfl rfl rfl rfl rfl ?_
    refine x_iload (pc' := 2137) rfl rfl rfl ?_
    refine x_iconst (pc' := 2138) rfl rfl ?_
    refine x_iadd (pc' := 2139) (z := 2) rfl rfl (by decide) ?_
    refine x_iald (pc' := 2140) (N := 7) (x := (xs 2)) rfl rfl rfl (Eq.trans rdNthr (z_N_29_0 e)) (io_in (p := 2) (N := 7) (by decide) (by decide)) (Eq.trans (congrArg (sA (sThr t) 29 0) (nn_io (p := 2) (by decide))) (Eq.trans rdAthr (z_A_29_0_2 e))) ?_
    have J6 : X 297 2148 [.inr (.inr (29, (some 0))), .inr (.inr (11, (some 0))), .inr (.inr (12, (some 0))), .inr (.inr (23, (some 0))), .inl 0, .inl 1, sJk] [.inl (bz (!(decide ((xs 2) = 0)))), .inl (xs 1), .inr (.inr (12, (some 0)))] (sThr t) Qp := by
      refine x_cv (ls0 := [_, _, _, sJk]) (rest := []) rfl rfl rfl rfl rfl ?_
      refine x_aload_n (pc' := 1) rfl rfl rfl rfl rfl ?_
      refine x_iload_n (pc' := 2) rfl rfl rfl ?_
      refine x_cs (ls0 := [_]) (rest := [_]) rfl rfl rfl rfl ?_
      refine x_iload_n (pc' := 1) rfl rfl rfl ?_
      refine x_iconst (pc' := 2) rfl rfl ?_
      refine x_iconst (pc' := 3) rfl rfl ?_
      refine x_cs (ls0 := [_, _, _]) (rest := []) rfl rfl rfl rfl ?_
      refine x_iload_n (pc' := 1) rfl rfl rfl ?_
      refine x_iload_n (pc' := 2) rfl rfl rfl ?_
      refine x_icmp (a' := 14) (pc' := 5) (z := decide ((xs 1) < 0)) rfl rfl rfl rfl (fun _ => ?_) (fun h => absurd e0 (of_decide_eq_false h))
      refine x_iconst (pc' := 15) rfl rfl ?_
      refine x_retz (z := false) rfl rfl ?_
      refine sK_i (pc' := 6) rfl ?_
      refine x_retz (z := false) rfl rfl ?_
      refine sK_i (pc' := 5) rfl ?_
      refine x_if (a' := 12) (pc' := 8) (z := true) rfl rfl rfl (by decide) (fun _ => ?_) (fun h => by cases h)
      refine x_iconst (pc' := 13) rfl rfl ?_
      refine x_cv (ls0 := [_, _]) (rest := []) rfl rfl rfl rfl rfl ?_
      refine x_aload_n (pc' := 1) rfl rfl rfl rfl rfl ?_
      refine x_iload_n (pc' := 2) rfl rfl rfl ?_
      refine x_pI (pc' := 5) rfl rfl rfl ?_
      refine x_iload_n (pc' := 6) rfl rfl rfl ?_
      refine x_if (a' := 13) (pc' := 9) (z := true) rfl rfl rfl (by decide) (fun _ => ?_) (fun h => by cases h)
      refine x_iconst (pc' := 14) rfl rfl ?_
      refine x_retz (z := false) rfl rfl ?_
      refine sK_i (pc' := 16) rfl ?_
      refine x_if (a' := 21) (pc' := 19) (z := false) rfl rfl rfl (by decide) (fun h => by cases h) (fun _ => ?_)
      refine x_iconst (pc' := 20) rfl rfl ?_
      refine x_reti rfl rfl ?_
      refine sK_i (pc' := 2151) rfl ?_
      refine x_istore (pc' := 2153) (ls' := [_, _, _, _, _, _, _]) rfl rfl rfl rfl ?_
      refine x_aload_n (pc' := 2154) rfl rfl rfl rfl rfl ?_
      refine x_cv (ls0 := [_]) (rest := []) rfl rfl rfl rfl rfl ?_
      refine x_aload_n (pc' := 1) rfl rfl rfl rfl rfl ?_
      refine x_gI (pc' := 4) (x := 1) rfl rfl rfl sI_s ?_
      refine x_reti rfl rfl ?_
      refine sK_i (pc' := 2157) rfl ?_
      refine x_iload (pc' := 2159) rfl rfl rfl ?_
      refine x_icmp (a' := 2164) (pc' := 2162) (z := true) rfl rfl rfl (by decide) (fun _ => ?_) (fun h => by cases h)
      refine x_iload (pc' := 2166) rfl rfl rfl ?_
      refine x_if (a' := 2181) (pc' := 2169) (z := true) rfl rfl rfl (by decide) (fun _ => ?_) (fun h => by cases h)
      refine x_goto (pc' := 2938) rfl rfl ?_
      refine x_iinc (pc' := 2941) (y := 7) (ls' := [_, _, _, _, _, _, _]) rfl rfl rfl rfl rfl ?_
      refine x_goto (pc' := 23) rfl rfl ?_
      refine x_iload (pc' := 25) rfl rfl rfl ?_
      refine x_aload_n (pc' := 26) rfl rfl rfl rfl rfl ?_
      refine x_alen (pc' := 27) (N := 7) rfl rfl rfl (Eq.trans rdNI (Eq.trans rdNthr (z_N_29_0 e))) (?_ : X _ _ _ (.inl 7 :: _) _ _)
      refine x_bipush (pc' := 29) rfl rfl ?_
      refine x_isub (pc' := 30) (z := 0) rfl rfl (by decide) ?_
      refine x_icmp (a' := 2944) (pc' := 33) (z := true) rfl rfl rfl (by decide) (fun _ => ?_) (fun h => by cases h)
      refine x_iconst (pc' := 2945) rfl rfl ?_
      refine x_retz (z := true) rfl rfl ?_
      exact Qp_ok e (p := 1) (q := 6) rfl rfl rfl rfl
    refine x_if (a' := 2147) (pc' := 2143) (z := decide ((xs 2) = 0)) rfl rfl rfl rfl (fun q6 => ?_) (fun q6 => ?_)
    · refine x_iconst (pc' := 2148) rfl rfl ?_
      ((try rw [q6] at J6); (try rw [q6]); (try simp only [cd_t, cd_f, nt_t, nt_f, an_t, an_f, or_t, or_f] at J6); (try simp only [cd_t, cd_f, nt_t, nt_f, an_t, an_f, or_t, or_f]); exact J6)
    · refine x_iconst (pc' := 2144) rfl rfl ?_
      refine x_goto (pc' := 2148) rfl rfl ?_
      ((try rw [q6] at J6); (try rw [q6]); (try simp only [cd_t, cd_f, nt_t, nt_f, an_t, an_f, or_t, or_f] at J6); (try simp only [cd_t, cd_f, nt_t, nt_f, an_t, an_f, or_t, or_f]); exact J6)
  refine x_if (a' := 2120) (pc' := 2116) (z := decide ((xs 2) = 0)) rfl rfl rfl rfl (fun q3 => ?_) (fun q3 => ?_)
  · refine x_iconst (pc' := 2121) rfl rfl ?_
    ((try rw [q3] at J3); (try rw [q3]); (try simp only [cd_t, cd_f, nt_t, nt_f, an_t, an_f, or_t, or_f] at J3); (try simp only [cd_t, cd_f, nt_t, nt_f, an_t, an_f, or_t, or_f]); exact J3)
  · refine x_iconst (pc' := 2117) rfl rfl ?_
    refine x_goto (pc' := 2121) rfl rfl ?_
    ((try rw [q3] at J3); (try rw [q3]); (try simp only [cd_t, cd_f, nt_t, nt_f, an_t, an_f, or_t, or_f] at J3); (try simp only [cd_t, cd_f, nt_t, nt_f, an_t, an_f, or_t, or_f]); exact J3)
set_option maxHeartbeats 4000000 in
set_option maxRecDepth 10000 in
theorem v_26_B_i {t : sT} {xs : Nat → Int32}
    (e : t = T16 7 xs)
    (hk : ((xs 0) &&& 63) = 26)
    (e0 : ¬ (xs 1) < 0)
    (f0 : ¬ (xs 1) < 5) :
    X 297 23 [.inr (.inr (29, (some 0))), .inr (.inr (11, (some 0))), .inr (.inr (12, (some 0))), .inr (.inr (23, (some 0))), .inl 0, sJk, sJk] [] t Qp := by
  refine x_iload (pc' := 25) rfl rfl rfl ?_
  refine x_aload_n (pc' := 26) rfl rfl rfl rfl rfl ?_
  refine x_alen (pc' := 27) (N := 7) rfl rfl rfl (z_N_29_0 e) (?_ : X _ _ _ (.inl 7 :: _) _ _)
  refine x_bipush (pc' := 29) rfl rfl ?_
  refine x_isub (pc' := 30) (z := 0) rfl rfl (by decide) ?_
  refine x_icmp (a' := 2944) (pc' := 33) (z := false) rfl rfl rfl (by decide) (fun h => by cases h) (fun _ => ?_)
  refine x_aload_n (pc' := 34) rfl rfl rfl rfl rfl ?_
  refine x_iload (pc' := 36) rfl rfl rfl ?_
  refine x_iald (pc' := 37) (N := 7) (x := (xs 0)) rfl rfl rfl (z_N_29_0 e) (io_in (p := 0) (N := 7) (by decide) (by decide)) (Eq.trans (congrArg (sA t 29 0) (nn_io (p := 0) (by decide))) (z_A_29_0_0 e)) ?_
  refine x_bipush (pc' := 39) rfl rfl ?_
  refine x_iand (pc' := 40) (z := ((xs 0) &&& 63)) rfl rfl rfl ?_
  refine x_switch (pc' := 2100) rfl (by rw [hk]; decide) ?_
  refine x_aload_n (pc' := 2101) rfl rfl rfl rfl rfl ?_
  refine x_aload_n (pc' := 2102) rfl rfl rfl rfl rfl ?_
  refine x_iload (pc' := 2104) rfl rfl rfl ?_
  refine x_iconst (pc' := 2105) rfl rfl ?_
  refine x_iadd (pc' := 2106) (z := 1) rfl rfl (by decide) ?_
  refine x_iald (pc' := 2107) (N := 7) (x := (xs 1)) rfl rfl rfl (z_N_29_0 e) (io_in (p := 1) (N := 7) (by decide) (by decide)) (Eq.trans (congrArg (sA t 29 0) (nn_io (p := 1) (by decide))) (z_A_29_0_1 e)) ?_
  refine x_aload_n (pc' := 2108) rfl rfl rfl rfl rfl ?_
  refine x_iload (pc' := 2110) rfl rfl rfl ?_
  refine x_iconst (pc' := 2111) rfl rfl ?_
  refine x_iadd (pc' := 2112) (z := 2) rfl rfl (by decide) ?_
  refine x_iald (pc' := 2113) (N := 7) (x := (xs 2)) rfl rfl rfl (z_N_29_0 e) (io_in (p := 2) (N := 7) (by decide) (by decide)) (Eq.trans (congrArg (sA t 29 0) (nn_io (p := 2) (by decide))) (z_A_29_0_2 e)) ?_
  have J3 : X 297 2121 [.inr (.inr (29, (some 0))), .inr (.inr (11, (some 0))), .inr (.inr (12, (some 0))), .inr (.inr (23, (some 0))), .inl 0, sJk, sJk] [.inl (bz (!(decide ((xs 2) = 0)))), .inl (xs 1), .inr (.inr (11, (some 0)))] t Qp := by
    refine x_aload_n (pc' := 2122) rfl rfl rfl rfl rfl ?_
    refine x_cs (ls0 := [_, _, _, _, sJk]) (rest := []) rfl rfl rfl rfl ?_
    refine x_aload_n (pc' := 1) rfl rfl rfl rfl rfl ?_
    refine x_iconst (pc' := 2) rfl rfl ?_
    refine x_aload_n (pc' := 3) rfl rfl rfl rfl rfl ?_
    refine x_iload_n (pc' := 4) rfl rfl rfl ?_
    refine x_iload_n (pc' := 5) rfl rfl rfl ?_
    refine x_cv (ls0 := [_, _, _, sJk]) (rest := [_, _]) rfl rfl rfl rfl rfl ?_
    refine x_aload_n (pc' := 1) rfl rfl rfl rfl rfl ?_
    refine x_iload_n (pc' := 2) rfl rfl rfl ?_
    refine x_cv (ls0 := [_, _]) (rest := []) rfl rfl rfl rfl rfl ?_
    refine x_iload_n (pc' := 1) rfl rfl rfl ?_
    refine x_if (a' := 16) (pc' := 4) (z := decide ((xs 1) < 0)) rfl rfl rfl rfl (fun h => absurd (of_decide_eq_true h) e0) (fun _ => ?_)
    refine x_iload_n (pc' := 5) rfl rfl rfl ?_
    refine x_aload_n (pc' := 6) rfl rfl rfl rfl rfl ?_
    refine x_gR (pc' := 9) (r := (some 0)) rfl rfl rfl (z_R_705_0 e) ?_
    refine x_gR (pc' := 12) (r := (some 0)) rfl rfl rfl (z_R_256_0 e) ?_
    refine x_alen (pc' := 13) (N := 5) rfl rfl rfl (z_N_24_0 e) (?_ : X _ _ _ (.inl 5 :: _) _ _)
    refine x_icmp (a' := 27) (pc' := 16) (z := decide ((xs 1) < 5)) rfl rfl rfl rfl (fun h => absurd (of_decide_eq_true h) f0) (fun _ => ?_)
    refine x_throw rfl rfl ?_
    refine sK_n (by decide +kernel) rfl ?_
    refine sK_h (h := 13) (by decide +kernel) rfl ?_
    refine x_catch (pc' := 15) (ls' := [_, _, _, _, _]) rfl rfl rfl rfl ?_
    refine x_iconst (pc' := 16) rfl rfl ?_
    refine x_reti rfl rfl ?_
    refine sK_i (pc' := 2125) rfl ?_
    refine x_istore (pc' := 2127) (ls' := [_, _, _, _, _, _, _]) rfl rfl rfl rfl ?_
    refine x_aload_n (pc' := 2128) rfl rfl rfl rfl rfl ?_
    refine x_aload_n (pc' := 2129) rfl rfl rfl rfl rfl ?_
    refine x_iload (pc' := 2131) rfl rfl rfl ?_
    refine x_iconst (pc' := 2132) rfl rfl ?_
    refine x_iadd (pc' := 2133) (z := 1) rfl rfl (by decide) ?_
    refine x_iald (pc' := 2134) (N := 7) (x := (xs 1)) rfl rfl rfl (Eq.trans rdNthr (z_N_29_0 e)) (io_in (p := 1) (N := 7) (by decide) (by decide)) (Eq.trans (congrArg (sA (sThr t) 29 0) (nn_io (p := 1) (by decide))) (Eq.trans rdAthr (z_A_29_0_1 e))) ?_
    refine x_aload_n (pc' := 2135) rfl rfl rfl rfl rfl ?_
    refine x_iload (pc' := 2137) rfl rfl rfl ?_
    refine x_iconst (pc' := 2138) rfl rfl ?_
    refine x_iadd (pc' := 2139) (z := 2) rfl rfl (by decide) ?_
    refine x_iald (pc' := 2140) (N := 7) (x := (xs 2)) rfl rfl rfl (Eq.trans rdNthr (z_N_29_0 e)) (io_in (p := 2) (N := 7) (by decide) (by decide)) (Eq.trans (congrArg (sA (sThr t) 29 0) (nn_io (p := 2) (by decide))) (Eq.trans rdAthr (z_A_29_0_2 e))) ?_
    have J7 : X 297 2148 [.inr (.inr (29, (some 0))), .inr (.inr (11, (some 0))), .inr (.inr (12, (some 0))), .inr (.inr (23, (some 0))), .inl 0, .inl 1, sJk] [.inl (bz (!(decide ((xs 2) = 0)))), .inl (xs 1), .inr (.inr (12, (some 0)))] (sThr t) Qp := by
      refine x_cv (ls0 := [_, _, _, sJk]) (rest := []) rfl rfl rfl rfl rfl ?_
      refine x_aload_n (pc' := 1) rfl rfl rfl rfl rfl ?_
      refine x_iload_n (pc' := 2) rfl rfl rfl ?_
      refine x_cs (ls0 := [_]) (rest := [_]) rfl rfl rfl rfl ?_
      refine x_iload_n (pc' := 1) rfl rfl rfl ?_
      refine x_iconst (pc' := 2) rfl rfl ?_
      refine x_iconst (pc' := 3) rfl rfl ?_
      refine x_cs (ls0 := [_, _, _]) (rest := []) rfl rfl rfl rfl ?_
      refine x_iload_n (pc' := 1) rfl rfl rfl ?_
      refine x_iload_n (pc' := 2) rfl rfl rfl ?_
      refine x_icmp (a' := 14) (pc' := 5) (z := decide ((xs 1) < 0)) rfl rfl rfl rfl (fun h => absurd (of_decide_eq_true h) e0) (fun _ => ?_)
      refine x_iload_n (pc' := 6) rfl rfl rfl ?_
      refine x_iload_n (pc' := 7) rfl rfl rfl ?_
      refine x_icmp (a' := 14) (pc' := 10) (z := decide (4 < (xs 1))) rfl rfl rfl rfl (fun _ => ?_) (fun h => absurd (lt_of5 f0) (of_decide_eq_false h))
      refine x_iconst (pc' := 15) rfl rfl ?_
      refine x_retz (z := false) rfl rfl ?_
      refine sK_i (pc' := 6) rfl ?_
      refine x_retz (z := false) rfl rfl ?_
      refine sK_i (pc' := 5) rfl ?_
      refine x_if (a' := 12) (pc' := 8) (z := true) rfl rfl rfl (by decide) (fun _ => ?_) (fun h => by cases h)
      refine x_iconst (pc' := 13) rfl rfl ?_
      refine x_cv (ls0 := [_, _]) (rest := []) rfl rfl rfl rfl rfl ?_
      refine x_aload_n (pc' := 1) rfl rfl rfl rfl rfl ?_
      refine x_iload_n (pc' := 2) rfl rfl rfl ?_
      refine x_pI (pc' := 5) rfl rfl rfl ?_
      refine x_iload_n (pc' := 6) rfl rfl rfl ?_
      refine x_if (a' := 13) (pc' := 9) (z := true) rfl rfl rfl (by decide) (fun _ => ?_) (fun h => by cases h)
      refine x_iconst (pc' := 14) rfl rfl ?_
      refine x_retz (z := false) rfl rfl ?_
      refine sK_i (pc' := 16) rfl ?_
      refine x_if (a' := 21) (pc' := 19) (z := false) rfl rfl rfl (by decide) (fun h => by cases h) (fun _ => ?_)
      refine x_iconst (pc' := 20) rfl rfl ?_
      refine x_reti rfl rfl ?_
      refine sK_i (pc' := 2151) rfl ?_
      refine x_istore (pc' := 2153) (ls' := [_, _, _, _, _, _, _]) rfl rfl rfl rfl ?_
      refine x_aload_n (pc' := 2154) rfl rfl rfl rfl rfl ?_
      refine x_cv (ls0 := [_]) (rest := []) rfl rfl rfl rfl rfl ?_
      refine x_aload_n (pc' := 1) rfl rfl rfl rfl rfl ?_
      refine x_gI (pc' := 4) (x := 1) rfl rfl rfl sI_s ?_
      refine x_reti rfl rfl ?_
      refine sK_i (pc' := 2157) rfl ?_
      refine x_iload (pc' := 2159) rfl rfl rfl ?_
      refine x_icmp (a' := 2164) (pc' := 2162) (z := true) rfl rfl rfl (by decide) (fun _ => ?_) (fun h => by cases h)
      refine x_iload (pc' := 2166) rfl rfl rfl ?_
      refine x_if (a' := 2181) (pc' := 2169) (z := true) rfl rfl rfl (by decide) (fun _ => ?_) (fun h => by cases h)
      refine x_goto (pc' := 2938) rfl rfl ?_
      refine x_iinc (pc' := 2941) (y := 7) (ls' := [_, _, _, _, _, _, _]) rfl rfl rfl rfl rfl ?_
      refine x_goto (pc' := 23) rfl rfl ?_
      refine x_iload (pc' := 25) rfl rfl rfl ?_
      refine x_aload_n (pc' := 26) rfl rfl rfl rfl rfl ?_
      refine x_alen (pc' := 27) (N := 7) rfl rfl rfl (Eq.trans rdNI (Eq.trans rdNthr (z_N_29_0 e))) (?_ : X _ _ _ (.inl 7 :: _) _ _)
      refine x_bipush (pc' := 29) rfl rfl ?_
      refine x_isub (pc' := 30) (z := 0) rfl rfl (by decide) ?_
      refine x_icmp (a' := 2944) (pc' := 33) (z := true) rfl rfl rfl (by decide) (fun _ => ?_) (fun h => by cases h)
      refine x_iconst (pc' := 2945) rfl rfl ?_
      refine x_retz (z := true) rfl rfl ?_
      exact Qp_ok e (p := 1) (q := 6) rfl rfl rfl rfl
    refine x_if (a' := 2147) (pc' := 2143) (z := decide ((xs 2) = 0)) rfl rfl rfl rfl (fun q7 => ?_) (fun q7 => ?_)
    · refine x_iconst (pc' := 2148) rfl rfl ?_
      ((try rw [q7] at J7); (try rw [q7]); (try simp only [cd_t, cd_f, nt_t, nt_f, an_t, an_f, or_t, or_f] at J7); (try simp only [cd_t, cd_f, nt_t, nt_f, an_t, an_f, or_t, or_f]); exact J7)
    · refine x_iconst (pc' := 2144) rfl rfl ?_
      refine x_goto (pc' := 2148) rfl rfl ?_
      ((try rw [q7] at J7); (try rw [q7]); (try simp only [cd_t, cd_f, nt_t, nt_f, an_t, an_f, or_t, or_f] at J7); (try simp only [cd_t, cd_f, nt_t, nt_f, an_t, an_f, or_t, or_f]); exact J7)
  refine x_if (a' := 2120) (pc' := 2116) (z := decide ((xs 2) = 0)) rfl rfl rfl rfl (fun q3 => ?_) (fun q3 => ?_)
  · refine x_iconst (pc' := 2121) rfl rfl ?_
    ((try rw [q3] at J3); (try rw [q3]); (try simp only [cd_t, cd_f, nt_t, nt_f, an_t, an_f, or_t, or_f] at J3); (try simp only [cd_t, cd_f, nt_t, nt_f, an_t, an_f, or_t, or_f]); exact J3)
  · refine x_iconst (pc' := 2117) rfl rfl ?_
    refine x_goto (pc' := 2121) rfl rfl ?_
    ((try rw [q3] at J3); (try rw [q3]); (try simp only [cd_t, cd_f, nt_t, nt_f, an_t, an_f, or_t, or_f] at J3); (try simp only [cd_t, cd_f, nt_t, nt_f, an_t, an_f, or_t, or_f]); exact J3)
