set_option maxHeartbeats 4000000 in
set_option maxRecDepth 10000 in
theorem v_0_0 {t : sT} {xs : Nat → Int32}
    (e : t = T16 7 xs)
    (hk : ((xs 0) &&& 63) = 0)
    (e0 : xs 1 = 0) :
    X 297 23 [.inr (.inr (29, (some 0))), .inr (.inr (11, (some 0))), .inr (.inr (12, (some 0))), .inr (.inr (23, (some 0))), .inl 0, sJk, sJk] [] t Qp := by
  refine x_iload (pc' := 25) rfl rfl rfl ?_
  refine x_aload_n (pc' := 26) rfl rfl rfl rfl rfl ?_
  refine x_alen (pc' := 27) (N := 7) rfl rfl rfl (z_N_29_0 e) (?_ : X _ _ _ (.inl 7 :: _) _ _)
  refine x_bipush (pc' := 29) rfl rfl ?_
  refine x_isub (pc' := 30) (z := 0) rfl rfl (by decide) ?_
  refine x_icmp (a' := 2944) (pc' := 33) (z := false) rfl rfl rfl (by decide) (fun h => by cases h) (fun _ => ?_)
  refine x_aload_n (pc' := 34) rfl rfl rfl rfl rfl ?_
  refine x_iload (pc' := 36) rfl rfl rfl ?_
  refine x_iald (pc' := 37) (N := 7) (x := (xs 0)) rfl rfl rfl (z_N_29_0 e) (io_in (p := 0) (N := 7) (by decide) (by decide)) (Eq.trans (congrArg (sA t 29 0) (nn_io (p := 0) (by decide))) (z_A_29_0_0 e)) ?_
  refine x_bipush (pc' := 39) rfl rfl ?_
  refine x_iand (pc' := 40) (z := ((xs 0) &&& 63)) rfl rfl rfl ?_
  refine x_switch (pc' := 224) rfl (by rw [hk]; decide) ?_
  refine x_aload_n (pc' := 225) rfl rfl rfl rfl rfl ?_
  refine x_aload_n (pc' := 226) rfl rfl rfl rfl rfl ?_
  refine x_iload (pc' := 228) rfl rfl rfl ?_
  refine x_iconst (pc' := 229) rfl rfl ?_
  refine x_iadd (pc' := 230) (z := 1) rfl rfl (by decide) ?_
  refine x_iald (pc' := 231) (N := 7) (x := 0) rfl rfl rfl (z_N_29_0 e) (io_in (p := 1) (N := 7) (by decide) (by decide)) (Eq.trans (congrArg (sA t 29 0) (nn_io (p := 1) (by decide))) (Eq.trans (z_A_29_0_1 e) e0)) ?_
  refine x_aload_n (pc' := 232) rfl rfl rfl rfl rfl ?_
  refine x_cs (ls0 := [_, _, _, sJk]) (rest := []) rfl rfl rfl rfl ?_
  refine x_aload_n (pc' := 1) rfl rfl rfl rfl rfl ?_
  refine x_iconst (pc' := 2) rfl rfl ?_
  refine x_aload_n (pc' := 3) rfl rfl rfl rfl rfl ?_
  refine x_iload_n (pc' := 4) rfl rfl rfl ?_
  refine x_cv (ls0 := [_, _, sJk, sJk]) (rest := [_, _]) rfl rfl rfl rfl rfl ?_
  refine x_aload_n (pc' := 1) rfl rfl rfl rfl rfl ?_
  refine x_iload_n (pc' := 2) rfl rfl rfl ?_
  refine x_cv (ls0 := [_, _]) (rest := []) rfl rfl rfl rfl rfl ?_
  refine x_iload_n (pc' := 1) rfl rfl rfl ?_
  refine x_if (a' := 16) (pc' := 4) (z := false) rfl rfl rfl (by decide) (fun h => by cases h) (fun _ => ?_)
  refine x_iload_n (pc' := 5) rfl rfl rfl ?_
  refine x_aload_n (pc' := 6) rfl rfl rfl rfl rfl ?_
  refine x_gR (pc' := 9) (r := (some 0)) rfl rfl rfl (z_R_705_0 e) ?_
  refine x_gR (pc' := 12) (r := (some 0)) rfl rfl rfl (z_R_256_0 e) ?_
  refine x_alen (pc' := 13) (N := 5) rfl rfl rfl (z_N_24_0 e) (?_ : X _ _ _ (.inl 5 :: _) _ _)
  refine x_icmp (a' := 27) (pc' := 16) (z := true) rfl rfl rfl (by decide) (fun _ => ?_) (fun h => by cases h)
  refine x_aload_n (pc' := 28) rfl rfl rfl rfl rfl ?_
  refine x_gR (pc' := 31) (r := (some 0)) rfl rfl rfl (z_R_705_0 e) ?_
  refine x_gR (pc' := 34) (r := (some 0)) rfl rfl rfl (z_R_256_0 e) ?_
  refine x_iload_n (pc' := 35) rfl rfl rfl ?_
  refine x_aald (pc' := 36) (N := 5) (k' := 1) (r := (some 0)) rfl rfl rfl (z_N_24_0 e) (io_in (p := 0) (N := 5) (by decide) (by decide)) (Eq.trans (congrArg (sE t 24 0) (nn_io (p := 0) (by decide))) (z_E_24_0_0 e)) ?_
  refine x_reta rfl rfl ?_
  refine sK_i (pc' := 5) rfl ?_
  refine x_astore_n (pc' := 6) (ls' := [_, _, _, _]) rfl rfl rfl rfl rfl ?_
  refine x_aload_n (pc' := 7) rfl rfl rfl rfl rfl ?_
  refine x_gI (pc' := 10) (x := 0) rfl rfl rfl (z_I_67_0 e) ?_
  refine x_iconst (pc' := 11) rfl rfl ?_
  refine x_icmp (a' := 18) (pc' := 14) (z := false) rfl rfl rfl (by decide) (fun h => by cases h) (fun _ => ?_)
  refine x_iconst (pc' := 15) rfl rfl ?_
  refine x_goto (pc' := 19) rfl rfl ?_
  refine x_cs (ls0 := [_]) (rest := []) rfl rfl rfl rfl ?_
  refine x_iload_n (pc' := 1) rfl rfl rfl ?_
  refine x_if (a' := 15) (pc' := 4) (z := true) rfl rfl rfl (by decide) (fun _ => ?_) (fun h => by cases h)
  refine x_ret rfl ?_
  refine sK_v (pc' := 22) rfl ?_
  refine x_aload_n (pc' := 23) rfl rfl rfl rfl rfl ?_
  refine x_gI (pc' := 26) (x := 0) rfl rfl rfl (z_I_67_0 e) ?_
  refine x_istore_n (pc' := 27) (ls' := [_, _, _, _]) rfl rfl rfl rfl ?_
  refine x_aload_n (pc' := 28) rfl rfl rfl rfl rfl ?_
  refine x_iconst (pc' := 29) rfl rfl ?_
  refine x_pI (pc' := 32) rfl rfl rfl ?_
  refine x_iload_n (pc' := 33) rfl rfl rfl ?_
  refine x_reti rfl rfl ?_
  refine sK_i (pc' := 7) rfl ?_
  refine x_i2l (pc' := 8) (z := (0 : Int64)) rfl rfl (by decide) ?_
  refine x_last (pc' := 9) (N := 1) (p := 0) rfl rfl (Eq.trans rdNI (z_N_23_0 e)) (io_in (p := 0) (N := 1) (by decide) (by decide)) (nn_io (p := 0) (by decide)) ?_
  refine x_goto (pc' := 18) rfl rfl ?_
  refine x_iconst (pc' := 19) rfl rfl ?_
  refine x_reti rfl rfl ?_
  refine sK_i (pc' := 235) rfl ?_
  refine x_istore (pc' := 237) (ls' := [_, _, _, _, _, _, _]) rfl rfl rfl rfl ?_
  refine x_aload_n (pc' := 238) rfl rfl rfl rfl rfl ?_
  refine x_aload_n (pc' := 239) rfl rfl rfl rfl rfl ?_
  refine x_iload (pc' := 241) rfl rfl rfl ?_
  refine x_iconst (pc' := 242) rfl rfl ?_
  refine x_iadd (pc' := 243) (z := 1) rfl rfl (by decide) ?_
  refine x_iald (pc' := 244) (N := 7) (x := 0) rfl rfl rfl (Eq.trans rdNL (Eq.trans rdNI (z_N_29_0 e))) (io_in (p := 1) (N := 7) (by decide) (by decide)) (Eq.trans (congrArg (sA (sLw (sIw t 67 0 1) 23 0 0 (0 : Int64)) 29 0) (nn_io (p := 1) (by decide))) (Eq.trans rdAL (Eq.trans rdAI (Eq.trans (z_A_29_0_1 e) e0)))) ?_
  refine x_cv (ls0 := [_, _, sJk]) (rest := []) rfl rfl rfl rfl rfl ?_
  refine x_aload_n (pc' := 1) rfl rfl rfl rfl rfl ?_
  refine x_iload_n (pc' := 2) rfl rfl rfl ?_
  refine x_cs (ls0 := [_]) (rest := [_]) rfl rfl rfl rfl ?_
  refine x_iload_n (pc' := 1) rfl rfl rfl ?_
  refine x_iconst (pc' := 2) rfl rfl ?_
  refine x_iconst (pc' := 3) rfl rfl ?_
  refine x_cs (ls0 := [_, _, _]) (rest := []) rfl rfl rfl rfl ?_
  refine x_iload_n (pc' := 1) rfl rfl rfl ?_
  refine x_iload_n (pc' := 2) rfl rfl rfl ?_
  refine x_icmp (a' := 14) (pc' := 5) (z := false) rfl rfl rfl (by decide) (fun h => by cases h) (fun _ => ?_)
  refine x_iload_n (pc' := 6) rfl rfl rfl ?_
  refine x_iload_n (pc' := 7) rfl rfl rfl ?_
  refine x_icmp (a' := 14) (pc' := 10) (z := false) rfl rfl rfl (by decide) (fun h => by cases h) (fun _ => ?_)
  refine x_iconst (pc' := 11) rfl rfl ?_
  refine x_goto (pc' := 15) rfl rfl ?_
  refine x_retz (z := true) rfl rfl ?_
  refine sK_i (pc' := 6) rfl ?_
  refine x_retz (z := true) rfl rfl ?_
  refine sK_i (pc' := 5) rfl ?_
  refine x_if (a' := 12) (pc' := 8) (z := true) rfl rfl rfl (by decide) (fun _ => ?_) (fun h => by cases h)
  refine x_aload_n (pc' := 13) rfl rfl rfl rfl rfl ?_
  refine x_gR (pc' := 16) (r := (some 0)) rfl rfl rfl (Eq.trans rdRL (Eq.trans rdRI (z_R_769_0 e))) ?_
  refine x_iload_n (pc' := 17) rfl rfl rfl ?_
  refine x_iald (pc' := 18) (N := 5) (x := 0) rfl rfl rfl (Eq.trans rdNL (Eq.trans rdNI (z_N_21_0 e))) (io_in (p := 0) (N := 5) (by decide) (by decide)) (Eq.trans (congrArg (sA (sLw (sIw t 67 0 1) 23 0 0 (0 : Int64)) 21 0) (nn_io (p := 0) (by decide))) (Eq.trans rdAL (Eq.trans rdAI (z_A_21_0_0 e)))) ?_
  refine x_iconst (pc' := 19) rfl rfl ?_
  refine x_icmp (a' := 26) (pc' := 22) (z := true) rfl rfl rfl (by decide) (fun _ => ?_) (fun h => by cases h)
  refine x_iconst (pc' := 27) rfl rfl ?_
  refine x_cv (ls0 := [_, _]) (rest := []) rfl rfl rfl rfl rfl ?_
  refine x_aload_n (pc' := 1) rfl rfl rfl rfl rfl ?_
  refine x_iload_n (pc' := 2) rfl rfl rfl ?_
  refine x_pI (pc' := 5) rfl rfl rfl ?_
  refine x_iload_n (pc' := 6) rfl rfl rfl ?_
  refine x_if (a' := 13) (pc' := 9) (z := false) rfl rfl rfl (by decide) (fun h => by cases h) (fun _ => ?_)
  refine x_iconst (pc' := 10) rfl rfl ?_
  refine x_goto (pc' := 14) rfl rfl ?_
  refine x_retz (z := true) rfl rfl ?_
  refine sK_i (pc' := 30) rfl ?_
  refine x_if (a' := 35) (pc' := 33) (z := true) rfl rfl rfl (by decide) (fun _ => ?_) (fun h => by cases h)
  refine x_aload_n (pc' := 36) rfl rfl rfl rfl rfl ?_
  refine x_gR (pc' := 39) (r := (some 0)) rfl rfl rfl (Eq.trans rdRI (Eq.trans rdRL (Eq.trans rdRI (z_R_769_0 e)))) ?_
  refine x_iload_n (pc' := 40) rfl rfl rfl ?_
  refine x_iald (pc' := 41) (N := 5) (x := 0) rfl rfl rfl (Eq.trans rdNI (Eq.trans rdNL (Eq.trans rdNI (z_N_21_0 e)))) (io_in (p := 0) (N := 5) (by decide) (by decide)) (Eq.trans (congrArg (sA (sIw (sLw (sIw t 67 0 1) 23 0 0 (0 : Int64)) 768 0 0) 21 0) (nn_io (p := 0) (by decide))) (Eq.trans rdAI (Eq.trans rdAL (Eq.trans rdAI (z_A_21_0_0 e))))) ?_
  refine x_istore_n (pc' := 42) (ls' := [_, _, _]) rfl rfl rfl rfl ?_
  refine x_aload_n (pc' := 43) rfl rfl rfl rfl rfl ?_
  refine x_gR (pc' := 46) (r := (some 0)) rfl rfl rfl (Eq.trans rdRI (Eq.trans rdRL (Eq.trans rdRI (z_R_769_0 e)))) ?_
  refine x_iload_n (pc' := 47) rfl rfl rfl ?_
  refine x_iconst (pc' := 48) rfl rfl ?_
  refine x_iast (pc' := 49) (N := 5) (p := 0) rfl rfl rfl (Eq.trans rdNI (Eq.trans rdNL (Eq.trans rdNI (z_N_21_0 e)))) (io_in (p := 0) (N := 5) (by decide) (by decide)) (nn_io (p := 0) (by decide)) ?_
  refine x_iload_n (pc' := 50) rfl rfl rfl ?_
  refine x_reti rfl rfl ?_
  refine sK_i (pc' := 247) rfl ?_
  refine x_istore (pc' := 249) (ls' := [_, _, _, _, _, _, _]) rfl rfl rfl rfl ?_
  refine x_aload_n (pc' := 250) rfl rfl rfl rfl rfl ?_
  refine x_cv (ls0 := [_]) (rest := []) rfl rfl rfl rfl rfl ?_
  refine x_aload_n (pc' := 1) rfl rfl rfl rfl rfl ?_
  refine x_gI (pc' := 4) (x := 0) rfl rfl rfl (Eq.trans rdIA sI_s) ?_
  refine x_reti rfl rfl ?_
  refine sK_i (pc' := 253) rfl ?_
  refine x_iload (pc' := 255) rfl rfl rfl ?_
  refine x_icmp (a' := 260) (pc' := 258) (z := true) rfl rfl rfl (by decide) (fun _ => ?_) (fun h => by cases h)
  refine x_iload (pc' := 262) rfl rfl rfl ?_
  refine x_if (a' := 277) (pc' := 265) (z := false) rfl rfl rfl (by decide) (fun h => by cases h) (fun _ => ?_)
  refine x_aload_n (pc' := 266) rfl rfl rfl rfl rfl ?_
  refine x_iconst (pc' := 267) rfl rfl ?_
  refine x_lald (pc' := 268) (N := 1) (x := (0 : Int64)) rfl rfl (Eq.trans rdNA (Eq.trans rdNI (Eq.trans rdNL (Eq.trans rdNI (z_N_23_0 e))))) (io_in (p := 0) (N := 1) (by decide) (by decide)) (Eq.trans (congrArg (sL (sAw (sIw (sLw (sIw t 67 0 1) 23 0 0 (0 : Int64)) 768 0 0) 21 0 0 1) 23 0) (nn_io (p := 0) (by decide))) (Eq.trans rdLA (Eq.trans rdLI sL_s))) ?_
  refine x_iload (pc' := 270) rfl rfl rfl ?_
  refine x_i2l (pc' := 271) (z := (0 : Int64)) rfl rfl (by decide) ?_
  refine x_lcmp (pc' := 272) (z := 0) rfl rfl (sLcmp_s _) ?_
  refine x_if (a' := 277) (pc' := 275) (z := true) rfl rfl rfl (by decide) (fun _ => ?_) (fun h => by cases h)
  refine x_goto (pc' := 2938) rfl rfl ?_
  refine x_iinc (pc' := 2941) (y := 7) (ls' := [_, _, _, _, _, _, _]) rfl rfl rfl rfl rfl ?_
  refine x_goto (pc' := 23) rfl rfl ?_
  refine x_iload (pc' := 25) rfl rfl rfl ?_
  refine x_aload_n (pc' := 26) rfl rfl rfl rfl rfl ?_
  refine x_alen (pc' := 27) (N := 7) rfl rfl rfl (Eq.trans rdNA (Eq.trans rdNI (Eq.trans rdNL (Eq.trans rdNI (z_N_29_0 e))))) (?_ : X _ _ _ (.inl 7 :: _) _ _)
  refine x_bipush (pc' := 29) rfl rfl ?_
  refine x_isub (pc' := 30) (z := 0) rfl rfl (by decide) ?_
  refine x_icmp (a' := 2944) (pc' := 33) (z := true) rfl rfl rfl (by decide) (fun _ => ?_) (fun h => by cases h)
  refine x_iconst (pc' := 2945) rfl rfl ?_
  refine x_retz (z := true) rfl rfl ?_
  exact Qp_ok e (p := 0) (q := 0) rfl rfl rfl rfl
set_option maxHeartbeats 4000000 in
set_option maxRecDepth 10000 in
theorem v_0_1 {t : sT} {xs : Nat → Int32}
    (e : t = T16 7 xs)
    (hk : ((xs 0) &&& 63) = 0)
    (e0 : xs 1 = 1) :
    X 297 23 [.inr (.inr (29, (some 0))), .inr (.inr (11, (some 0))), .inr (.inr (12, (some 0))), .inr (.inr (23, (some 0))), .inl 0, sJk, sJk] [] t Qp := by
  refine x_iload (pc' := 25) rfl rfl rfl ?_
  refine x_aload_n (pc' := 26) rfl rfl rfl rfl rfl ?_
  refine x_alen (pc' := 27) (N := 7) rfl rfl rfl (z_N_29_0 e) (?_ : X _ _ _ (.inl 7 :: _) _ _)
  refine x_bipush (pc' := 29) rfl rfl ?_
  refine x_isub (pc' := 30) (z := 0) rfl rfl (by decide) ?_
  refine x_icmp (a' := 2944) (pc' := 33) (z := false) rfl rfl rfl (by decide) (fun h => by cases h) (fun _ => ?_)
  refine x_aload_n (pc' := 34) rfl rfl rfl rfl rfl ?_
  refine x_iload (pc' := 36) rfl rfl rfl ?_
  refine x_iald (pc' := 37) (N := 7) (x := (xs 0)) rfl rfl rfl (z_N_29_0 e) (io_in (p := 0) (N := 7) (by decide) (by decide)) (Eq.trans (congrArg (sA t 29 0) (nn_io (p := 0) (by decide))) (z_A_29_0_0 e)) ?_
  refine x_bipush (pc' := 39) rfl rfl ?_
  refine x_iand (pc' := 40) (z := ((xs 0) &&& 63)) rfl rfl rfl ?_
  refine x_switch (pc' := 224) rfl (by rw [hk]; decide) ?_
  refine x_aload_n (pc' := 225) rfl rfl rfl rfl rfl ?_
  refine x_aload_n (pc' := 226) rfl rfl rfl rfl rfl ?_
  refine x_iload (pc' := 228) rfl rfl rfl ?_
  refine x_iconst (pc' := 229) rfl rfl ?_
  refine x_iadd (pc' := 230) (z := 1) rfl rfl (by decide) ?_
  refine x_iald (pc' := 231) (N := 7) (x := 1) rfl rfl rfl (z_N_29_0 e) (io_in (p := 1) (N := 7) (by decide) (by decide)) (Eq.trans (congrArg (sA t 29 0) (nn_io (p := 1) (by decide))) (Eq.trans (z_A_29_0_1 e) e0)) ?_
  refine x_aload_n (pc' := 232) rfl rfl rfl rfl rfl ?_
  refine x_cs (ls0 := [_, _, _, sJk]) (rest := []) rfl rfl rfl rfl ?_
  refine x_aload_n (pc' := 1) rfl rfl rfl rfl rfl ?_
  refine x_iconst (pc' := 2) rfl rfl ?_
  refine x_aload_n (pc' := 3) rfl rfl rfl rfl rfl ?_
  refine x_iload_n (pc' := 4) rfl rfl rfl ?_
  refine x_cv (ls0 := [_, _, sJk, sJk]) (rest := [_, _]) rfl rfl rfl rfl rfl ?_
  refine x_aload_n (pc' := 1) rfl rfl rfl rfl rfl ?_
  refine x_iload_n (pc' := 2) rfl rfl rfl ?_
  refine x_cv (ls0 := [_, _]) (rest := []) rfl rfl rfl rfl rfl ?_
  refine x_iload_n (pc' := 1) rfl rfl rfl ?_
  refine x_if (a' := 16) (pc' := 4) (z := false) rfl rfl rfl (by decide) (fun h => by cases h) (fun _ => ?_)
  refine x_iload_n (pc' := 5) rfl rfl rfl ?_
  refine x_aload_n (pc' := 6) rfl rfl rfl rfl rfl ?_
  refine x_gR (pc' := 9) (r := (some 0)) rfl rfl rfl (z_R_705_0 e) ?_
  refine x_gR (pc' := 12) (r := (some 0)) rfl rfl rfl (z_R_256_0 e) ?_
  refine x_alen (pc' := 13) (N := 5) rfl rfl rfl (z_N_24_0 e) (?_ : X _ _ _ (.inl 5 :: _) _ _)
  refine x_icmp (a' := 27) (pc' := 16) (z := true) rfl rfl rfl (by decide) (fun _ => ?_) (fun h => by cases h)
  refine x_aload_n (pc' := 28) rfl rfl rfl rfl rfl ?_
  refine x_gR (pc' := 31) (r := (some 0)) rfl rfl rfl (z_R_705_0 e) ?_
  refine x_gR (pc' := 34) (r := (some 0)) rfl rfl rfl (z_R_256_0 e) ?_
  refine x_iload_n (pc' := 35) rfl rfl rfl ?_
  refine x_aald (pc' := 36) (N := 5) (k' := 1) (r := (some 1)) rfl rfl rfl (z_N_24_0 e) (io_in (p := 1) (N := 5) (by decide) (by decide)) (Eq.trans (congrArg (sE t 24 0) (nn_io (p := 1) (by decide))) (z_E_24_0_1 e)) ?_
  refine x_reta rfl rfl ?_
  refine sK_i (pc' := 5) rfl ?_
  refine x_astore_n (pc' := 6) (ls' := [_, _, _, _]) rfl rfl rfl rfl rfl ?_
  refine x_aload_n (pc' := 7) rfl rfl rfl rfl rfl ?_
  refine x_gI (pc' := 10) (x := 0) rfl rfl rfl (z_I_67_1 e) ?_
  refine x_iconst (pc' := 11) rfl rfl ?_
  refine x_icmp (a' := 18) (pc' := 14) (z := false) rfl rfl rfl (by decide) (fun h => by cases h) (fun _ => ?_)
  refine x_iconst (pc' := 15) rfl rfl ?_
  refine x_goto (pc' := 19) rfl rfl ?_
  refine x_cs (ls0 := [_]) (rest := []) rfl rfl rfl rfl ?_
  refine x_iload_n (pc' := 1) rfl rfl rfl ?_
  refine x_if (a' := 15) (pc' := 4) (z := true) rfl rfl rfl (by decide) (fun _ => ?_) (fun h => by cases h)
  refine x_ret rfl ?_
  refine sK_v (pc' := 22) rfl ?_
  refine x_aload_n (pc' := 23) rfl rfl rfl rfl rfl ?_
  refine x_gI (pc' := 26) (x := 0) rfl rfl rfl (z_I_67_1 e) ?_
  refine x_istore_n (pc' := 27) (ls' := [_, _, _, _]) rfl rfl rfl rfl ?_
  refine x_aload_n (pc' := 28) rfl rfl rfl rfl rfl ?_
  refine x_iconst (pc' := 29) rfl rfl ?_
  refine x_pI (pc' := 32) rfl rfl rfl ?_
  refine x_iload_n (pc' := 33) rfl rfl rfl ?_
  refine x_reti rfl rfl ?_
  refine sK_i (pc' := 7) rfl ?_
  refine x_i2l (pc' := 8) (z := (0 : Int64)) rfl rfl (by decide) ?_
  refine x_last (pc' := 9) (N := 1) (p := 0) rfl rfl (Eq.trans rdNI (z_N_23_0 e)) (io_in (p := 0) (N := 1) (by decide) (by decide)) (nn_io (p := 0) (by decide)) ?_
  refine x_goto (pc' := 18) rfl rfl ?_
  refine x_iconst (pc' := 19) rfl rfl ?_
  refine x_reti rfl rfl ?_
  refine sK_i (pc' := 235) rfl ?_
  refine x_istore (pc' := 237) (ls' := [_, _, _, _, _, _, _]) rfl rfl rfl rfl ?_
  refine x_aload_n (pc' := 238) rfl rfl rfl rfl rfl ?_
  refine x_aload_n (pc' := 239) rfl rfl rfl rfl rfl ?_
  refine x_iload (pc' := 241) rfl rfl rfl ?_
  refine x_iconst (pc' := 242) rfl rfl ?_
  refine x_iadd (pc' := 243) (z := 1) rfl rfl (by decide) ?_
  refine x_iald (pc' := 244) (N := 7) (x := 1) rfl rfl rfl (Eq.trans rdNL (Eq.trans rdNI (z_N_29_0 e))) (io_in (p := 1) (N := 7) (by decide) (by decide)) (Eq.trans (congrArg (sA (sLw (sIw t 67 1 1) 23 0 0 (0 : Int64)) 29 0) (nn_io (p := 1) (by decide))) (Eq.trans rdAL (Eq.trans rdAI (Eq.trans (z_A_29_0_1 e) e0)))) ?_
  refine x_cv (ls0 := [_, _, sJk]) (rest := []) rfl rfl rfl rfl rfl ?_
  refine x_aload_n (pc' := 1) rfl rfl rfl rfl rfl ?_
  refine x_iload_n (pc' := 2) rfl rfl rfl ?_
  refine x_cs (ls0 := [_]) (rest := [_]) rfl rfl rfl rfl ?_
  refine x_iload_n (pc' := 1) rfl rfl rfl ?_
  refine x_iconst (pc' := 2) rfl rfl ?_
  refine x_iconst (pc' := 3) rfl rfl ?_
  refine x_cs (ls0 := [_, _, _]) (rest := []) rfl rfl rfl rfl ?_
  refine x_iload_n (pc' := 1) rfl rfl rfl ?_
  refine x_iload_n (pc' := 2) rfl rfl rfl ?_
  refine x_icmp (a' := 14) (pc' := 5) (z := false) rfl rfl rfl (by decide) (fun h => by cases h) (fun _ => ?_)
  refine x_iload_n (pc' := 6) rfl rfl rfl ?_
  refine x_iload_n (pc' := 7) rfl rfl rfl ?_
  refine x_icmp (a' := 14) (pc' := 10) (z := false) rfl rfl rfl (by decide) (fun h => by cases h) (fun _ => ?_)
  refine x_iconst (pc' := 11) rfl rfl ?_
  refine x_goto (pc' := 15) rfl rfl ?_
  refine x_retz (z := true) rfl rfl ?_
  refine sK_i (pc' := 6) rfl ?_
  refine x_retz (z := true) rfl rfl ?_
  refine sK_i (pc' := 5) rfl ?_
  refine x_if (a' := 12) (pc' := 8) (z := true) rfl rfl rfl (by decide) (fun _ => ?_) (fun h => by cases h)
  refine x_aload_n (pc' := 13) rfl rfl rfl rfl rfl ?_
  refine x_gR (pc' := 16) (r := (some 0)) rfl rfl rfl (Eq.trans rdRL (Eq.trans rdRI (z_R_769_0 e))) ?_
  refine x_iload_n (pc' := 17) rfl rfl rfl ?_
  refine x_iald (pc' := 18) (N := 5) (x := 0) rfl rfl rfl (Eq.trans rdNL (Eq.trans rdNI (z_N_21_0 e))) (io_in (p := 1) (N := 5) (by decide) (by decide)) (Eq.trans (congrArg (sA (sLw (sIw t 67 1 1) 23 0 0 (0 : Int64)) 21 0) (nn_io (p := 1) (by decide))) (Eq.trans rdAL (Eq.trans rdAI (z_A_21_0_1 e)))) ?_
  refine x_iconst (pc' := 19) rfl rfl ?_
  refine x_icmp (a' := 26) (pc' := 22) (z := true) rfl rfl rfl (by decide) (fun _ => ?_) (fun h => by cases h)
  refine x_iconst (pc' := 27) rfl rfl ?_
  refine x_cv (ls0 := [_, _]) (rest := []) rfl rfl rfl rfl rfl ?_
  refine x_aload_n (pc' := 1) rfl rfl rfl rfl rfl ?_
  refine x_iload_n (pc' := 2) rfl rfl rfl ?_
  refine x_pI (pc' := 5) rfl rfl rfl ?_
  refine x_iload_n (pc' := 6) rfl rfl rfl ?_
  refine x_if (a' := 13) (pc' := 9) (z := false) rfl rfl rfl (by decide) (fun h => by cases h) (fun _ => ?_)
  refine x_iconst (pc' := 10) rfl rfl ?_
  refine x_goto (pc' := 14) rfl rfl ?_
  refine x_retz (z := true) rfl rfl ?_
  refine sK_i (pc' := 30) rfl ?_
  refine x_if (a' := 35) (pc' := 33) (z := true) rfl rfl rfl (by decide) (fun _ => ?_) (fun h => by cases h)
  refine x_aload_n (pc' := 36) rfl rfl rfl rfl rfl ?_
  refine x_gR (pc' := 39) (r := (some 0)) rfl rfl rfl (Eq.trans rdRI (Eq.trans rdRL (Eq.trans rdRI (z_R_769_0 e)))) ?_
  refine x_iload_n (pc' := 40) rfl rfl rfl ?_
  refine x_iald (pc' := 41) (N := 5) (x := 0) rfl rfl rfl (Eq.trans rdNI (Eq.trans rdNL (Eq.trans rdNI (z_N_21_0 e)))) (io_in (p := 1) (N := 5) (by decide) (by decide)) (Eq.trans (congrArg (sA (sIw (sLw (sIw t 67 1 1) 23 0 0 (0 : Int64)) 768 0 0) 21 0) (nn_io (p := 1) (by decide))) (Eq.trans rdAI (Eq.trans rdAL (Eq.trans rdAI (z_A_21_0_1 e))))) ?_
  refine x_istore_n (pc' := 42) (ls' := [_, _, _]) rfl rfl rfl rfl ?_
  refine x_aload_n (pc' := 43) rfl rfl rfl rfl rfl ?_
  refine x_gR (pc' := 46) (r := (some 0)) rfl rfl rfl (Eq.trans rdRI (Eq.trans rdRL (Eq.trans rdRI (z_R_769_0 e)))) ?_
  refine x_iload_n (pc' := 47) rfl rfl rfl ?_
  refine x_iconst (pc' := 48) rfl rfl ?_
  refine x_iast (pc' := 49) (N := 5) (p := 1) rfl rfl rfl (Eq.trans rdNI (Eq.trans rdNL (Eq.trans rdNI (z_N_21_0 e)))) (io_in (p := 1) (N := 5) (by decide) (by decide)) (nn_io (p := 1) (by decide)) ?_
  refine x_iload_n (pc' := 50) rfl rfl rfl ?_
  refine x_reti rfl rfl ?_
  refine sK_i (pc' := 247) rfl ?_
  refine x_istore (pc' := 249) (ls' := [_, _, _, _, _, _, _]) rfl rfl rfl rfl ?_
  refine x_aload_n (pc' := 250) rfl rfl rfl rfl rfl ?_
  refine x_cv (ls0 := [_]) (rest := []) rfl rfl rfl rfl rfl ?_
  refine x_aload_n (pc' := 1) rfl rfl rfl rfl rfl ?_
  refine x_gI (pc' := 4) (x := 0) rfl rfl rfl (Eq.trans rdIA sI_s) ?_
  refine x_reti rfl rfl ?_
  refine sK_i (pc' := 253) rfl ?_
  refine x_iload (pc' := 255) rfl rfl rfl ?_
  refine x_icmp (a' := 260) (pc' := 258) (z := true) rfl rfl rfl (by decide) (fun _ => ?_) (fun h => by cases h)
  refine x_iload (pc' := 262) rfl rfl rfl ?_
  refine x_if (a' := 277) (pc' := 265) (z := false) rfl rfl rfl (by decide) (fun h => by cases h) (fun _ => ?_)
  refine x_aload_n (pc' := 266) rfl rfl rfl rfl rfl ?_
  refine x_iconst (pc' := 267) rfl rfl ?_
  refine x_lald (pc' := 268) (N := 1) (x := (0 : Int64)) rfl rfl (Eq.trans rdNA (Eq.trans rdNI (Eq.trans rdNL (Eq.trans rdNI (z_N_23_0 e))))) (io_in (p := 0) (N := 1) (by decide) (by decide)) (Eq.trans (congrArg (sL (sAw (sIw (sLw (sIw t 67 1 1) 23 0 0 (0 : Int64)) 768 0 0) 21 0 1 1) 23 0) (nn_io (p := 0) (by decide))) (Eq.trans rdLA (Eq.trans rdLI sL_s))) ?_
  refine x_iload (pc' := 270) rfl rfl rfl ?_
  refine x_i2l (pc' := 271) (z := (0 : Int64)) rfl rfl (by decide) ?_
  refine x_lcmp (pc' := 272) (z := 0) rfl rfl (sLcmp_s _) ?_
  refine x_if (a' := 277) (pc' := 275) (z := true) rfl rfl rfl (by decide) (fun _ => ?_) (fun h => by cases h)
  refine x_goto (pc' := 2938) rfl rfl ?_
  refine x_iinc (pc' := 2941) (y := 7) (ls' := [_, _, _, _, _, _, _]) rfl rfl rfl rfl rfl ?_
  refine x_goto (pc' := 23) rfl rfl ?_
  refine x_iload (pc' := 25) rfl rfl rfl ?_
  refine x_aload_n (pc' := 26) rfl rfl rfl rfl rfl ?_
  refine x_alen (pc' := 27) (N := 7) rfl rfl rfl (Eq.trans rdNA (Eq.trans rdNI (Eq.trans rdNL (Eq.trans rdNI (z_N_29_0 e))))) (?_ : X _ _ _ (.inl 7 :: _) _ _)
  refine x_bipush (pc' := 29) rfl rfl ?_
  refine x_isub (pc' := 30) (z := 0) rfl rfl (by decide) ?_
  refine x_icmp (a' := 2944) (pc' := 33) (z := true) rfl rfl rfl (by decide) (fun _ => ?_) (fun h => by cases h)
  refine x_iconst (pc' := 2945) rfl rfl ?_
  refine x_retz (z := true) rfl rfl ?_
  exact Qp_ok e (p := 0) (q := 0) rfl rfl rfl rfl
set_option maxHeartbeats 4000000 in
set_option maxRecDepth 10000 in
theorem v_0_2 {t : sT} {xs : Nat → Int32}
    (e : t = T16 7 xs)
    (hk : ((xs 0) &&& 63) = 0)
    (e0 : xs 1 = 2) :
    X 297 23 [.inr (.inr (29, (some 0))), .inr (.inr (11, (some 0))), .inr (.inr (12, (some 0))), .inr (.inr (23, (some 0))), .inl 0, sJk, sJk] [] t Qp := by
  refine x_iload (pc' := 25) rfl rfl rfl ?_
  refine x_aload_n (pc' := 26) rfl rfl rfl rfl rfl ?_
  refine x_alen (pc' := 27) (N := 7) rfl rfl rfl (z_N_29_0 e) (?_ : X _ _ _ (.inl 7 :: _) _ _)
  refine x_bipush (pc' := 29) rfl rfl ?_
  refine x_isub (pc' := 30) (z := 0) rfl rfl (by decide) ?_
  refine x_icmp (a' := 2944) (pc' := 33) (z := false) rfl rfl rfl (by decide) (fun h => by cases h) (fun _ => ?_)
  refine x_aload_n (pc' := 34) rfl rfl rfl rfl rfl ?_
  refine x_iload (pc' := 36) rfl rfl rfl ?_
  refine x_iald (pc' := 37) (N := 7) (x := (xs 0)) rfl rfl rfl (z_N_29_0 e) (io_in (p := 0) (N := 7) (by decide) (by decide)) (Eq.trans (congrArg (sA t 29 0) (nn_io (p := 0) (by decide))) (z_A_29_0_0 e)) ?_
  refine x_bipush (pc' := 39) rfl rfl ?_
  refine x_iand (pc' := 40) (z := ((xs 0) &&& 63)) rfl rfl rfl ?_
  refine x_switch (pc' := 224) rfl (by rw [hk]; decide) ?_
  refine x_aload_n (pc' := 225) rfl rfl rfl rfl rfl ?_
  refine x_aload_n (pc' := 226) rfl rfl rfl rfl rfl ?_
  refine x_iload (pc' := 228) rfl rfl rfl ?_
  refine x_iconst (pc' := 229) rfl rfl ?_
  refine x_iadd (pc' := 230) (z := 1) rfl rfl (by decide) ?_
  refine x_iald (pc' := 231) (N := 7) (x := 2) rfl rfl rfl (z_N_29_0 e) (io_in (p := 1) (N := 7) (by decide) (by decide)) (Eq.trans (congrArg (sA t 29 0) (nn_io (p := 1) (by decide))) (Eq.trans (z_A_29_0_1 e) e0)) ?_
  refine x_aload_n (pc' := 232) rfl rfl rfl rfl rfl ?_
  refine x_cs (ls0 := [_, _, _, sJk]) (rest := []) rfl rfl rfl rfl ?_
  refine x_aload_n (pc' := 1) rfl rfl rfl rfl rfl ?_
  refine x_iconst (pc' := 2) rfl rfl ?_
  refine x_aload_n (pc' := 3) rfl rfl rfl rfl rfl ?_
  refine x_iload_n (pc' := 4) rfl rfl rfl ?_
  refine x_cv (ls0 := [_, _, sJk, sJk]) (rest := [_, _]) rfl rfl rfl rfl rfl ?_
  refine x_aload_n (pc' := 1) rfl rfl rfl rfl rfl ?_
  refine x_iload_n (pc' := 2) rfl rfl rfl ?_
  refine x_cv (ls0 := [_, _]) (rest := []) rfl rfl rfl rfl rfl ?_
  refine x_iload_n (pc' := 1) rfl rfl rfl ?_
  refine x_if (a' := 16) (pc' := 4) (z := false) rfl rfl rfl (by decide) (fun h => by cases h) (fun _ => ?_)
  refine x_iload_n (pc' := 5) rfl rfl rfl ?_
  refine x_aload_n (pc' := 6) rfl rfl rfl rfl rfl ?_
  refine x_gR (pc' := 9) (r := (some 0)) rfl rfl rfl (z_R_705_0 e) ?_
  refine x_gR (pc' := 12) (r := (some 0)) rfl rfl rfl (z_R_256_0 e) ?_
  refine x_alen (pc' := 13) (N := 5) rfl rfl rfl (z_N_24_0 e) (?_ : X _ _ _ (.inl 5 :: _) _ _)
  refine x_icmp (a' := 27) (pc' := 16) (z := true) rfl rfl rfl (by decide) (fun _ => ?_) (fun h => by cases h)
  refine x_aload_n (pc' := 28) rfl rfl rfl rfl rfl ?_
  refine x_gR (pc' := 31) (r := (some 0)) rfl rfl rfl (z_R_705_0 e) ?_
  refine x_gR (pc' := 34) (r := (some 0)) rfl rfl rfl (z_R_256_0 e) ?_
  refine x_iload_n (pc' := 35) rfl rfl rfl ?_
  refine x_aald (pc' := 36) (N := 5) (k' := 1) (r := (some 2)) rfl rfl rfl (z_N_24_0 e) (io_in (p := 2) (N := 5) (by decide) (by decide)) (Eq.trans (congrArg (sE t 24 0) (nn_io (p := 2) (by decide))) (z_E_24_0_2 e)) ?_
  refine x_reta rfl rfl ?_
  refine sK_i (pc' := 5) rfl ?_
  refine x_astore_n (pc' := 6) (ls' := [_, _, _, _]) rfl rfl rfl rfl rfl ?_
  refine x_aload_n (pc' := 7) rfl rfl rfl rfl rfl ?_
  refine x_gI (pc' := 10) (x := 0) rfl rfl rfl (z_I_67_2 e) ?_
  refine x_iconst (pc' := 11) rfl rfl ?_
  refine x_icmp (a' := 18) (pc' := 14) (z := false) rfl rfl rfl (by decide) (fun h => by cases h) (fun _ => ?_)
  refine x_iconst (pc' := 15) rfl rfl ?_
  refine x_goto (pc' := 19) rfl rfl ?_
  refine x_cs (ls0 := [_]) (rest := []) rfl rfl rfl rfl ?_
  refine x_iload_n (pc' := 1) rfl rfl rfl ?_
  refine x_if (a' := 15) (pc' := 4) (z := true) rfl rfl rfl (by decide) (fun _ => ?_) (fun h => by cases h)
  refine x_ret rfl ?_
  refine sK_v (pc' := 22) rfl ?_
  refine x_aload_n (pc' := 23) rfl rfl rfl rfl rfl ?_
  refine x_gI (pc' := 26) (x := 0) rfl rfl rfl (z_I_67_2 e) ?_
  refine x_istore_n (pc' := 27) (ls' := [_, _, _, _]) rfl rfl rfl rfl ?_
  refine x_aload_n (pc' := 28) rfl rfl rfl rfl rfl ?_
  refine x_iconst (pc' := 29) rfl rfl ?_
  refine x_pI (pc' := 32) rfl rfl rfl ?_
  refine x_iload_n (pc' := 33) rfl rfl rfl ?_
  refine x_reti rfl rfl ?_
  refine sK_i (pc' := 7) rfl ?_
  refine x_i2l (pc' := 8) (z := (0 : Int64)) rfl rfl (by decide) ?_
  refine x_last (pc' := 9) (N := 1) (p := 0) rfl rfl (Eq.trans rdNI (z_N_23_0 e)) (io_in (p := 0) (N := 1) (by decide) (by decide)) (nn_io (p := 0) (by decide)) ?_
  refine x_goto (pc' := 18) rfl rfl ?_
  refine x_iconst (pc' := 19) rfl rfl ?_
  refine x_reti rfl rfl ?_
  refine sK_i (pc' := 235) rfl ?_
  refine x_istore (pc' := 237) (ls' := [_, _, _, _, _, _, _]) rfl rfl rfl rfl ?_
  refine x_aload_n (pc' := 238) rfl rfl rfl rfl rfl ?_
  refine x_aload_n (pc' := 239) rfl rfl rfl rfl rfl ?_
  refine x_iload (pc' := 241) rfl rfl rfl ?_
  refine x_iconst (pc' := 242) rfl rfl ?_
  refine x_iadd (pc' := 243) (z := 1) rfl rfl (by decide) ?_
  refine x_iald (pc' := 244) (N := 7) (x := 2) rfl rfl rfl (Eq.trans rdNL (Eq.trans rdNI (z_N_29_0 e))) (io_in (p := 1) (N := 7) (by decide) (by decide)) (Eq.trans (congrArg (sA (sLw (sIw t 67 2 1) 23 0 0 (0 : Int64)) 29 0) (nn_io (p := 1) (by decide))) (Eq.trans rdAL (Eq.trans rdAI (Eq.trans (z_A_29_0_1 e) e0)))) ?_
  refine x_cv (ls0 := [_, _, sJk]) (rest := []) rfl rfl rfl rfl rfl ?_
  refine x_aload_n (pc' := 1) rfl rfl rfl rfl rfl ?_
  refine x_iload_n (pc' := 2) rfl rfl rfl ?_
  refine x_cs (ls0 := [_]) (rest := [_]) rfl rfl rfl rfl ?_
  refine x_iload_n (pc' := 1) rfl rfl rfl ?_
  refine x_iconst (pc' := 2) rfl rfl ?_
  refine x_iconst (pc' := 3) rfl rfl ?_
  refine x_cs (ls0 := [_, _, _]) (rest := []) rfl rfl rfl rfl ?_
  refine x_iload_n (pc' := 1) rfl rfl rfl ?_
  refine x_iload_n (pc' := 2) rfl rfl rfl ?_
  refine x_icmp (a' := 14) (pc' := 5) (z := false) rfl rfl rfl (by decide) (fun h => by cases h) (fun _ => ?_)
  refine x_iload_n (pc' := 6) rfl rfl rfl ?_
  refine x_iload_n (pc' := 7) rfl rfl rfl ?_
  refine x_icmp (a' := 14) (pc' := 10) (z := false) rfl rfl rfl (by decide) (fun h => by cases h) (fun _ => ?_)
  refine x_iconst (pc' := 11) rfl rfl ?_
  refine x_goto (pc' := 15) rfl rfl ?_
  refine x_retz (z := true) rfl rfl ?_
  refine sK_i (pc' := 6) rfl ?_
  refine x_retz (z := true) rfl rfl ?_
  refine sK_i (pc' := 5) rfl ?_
  refine x_if (a' := 12) (pc' := 8) (z := true) rfl rfl rfl (by decide) (fun _ => ?_) (fun h => by cases h)
  refine x_aload_n (pc' := 13) rfl rfl rfl rfl rfl ?_
  refine x_gR (pc' := 16) (r := (some 0)) rfl rfl rfl (Eq.trans rdRL (Eq.trans rdRI (z_R_769_0 e))) ?_
  refine x_iload_n (pc' := 17) rfl rfl rfl ?_
  refine x_iald (pc' := 18) (N := 5) (x := 0) rfl rfl rfl (Eq.trans rdNL (Eq.trans rdNI (z_N_21_0 e))) (io_in (p := 2) (N := 5) (by decide) (by decide)) (Eq.trans (congrArg (sA (sLw (sIw t 67 2 1) 23 0 0 (0 : Int64)) 21 0) (nn_io (p := 2) (by decide))) (Eq.trans rdAL (Eq.trans rdAI (z_A_21_0_2 e)))) ?_
  refine x_iconst (pc' := 19) rfl rfl ?_
  refine x_icmp (a' := 26) (pc' := 22) (z := true) rfl rfl rfl (by decide) (fun _ => ?_) (fun h => by cases h)
  refine x_iconst (pc' := 27) rfl rfl ?_
  refine x_cv (ls0 := [_, _]) (rest := []) rfl rfl rfl rfl rfl ?_
  refine x_aload_n (pc' := 1) rfl rfl rfl rfl rfl ?_
  refine x_iload_n (pc' := 2) rfl rfl rfl ?_
  refine x_pI (pc' := 5) rfl rfl rfl ?_
  refine x_iload_n (pc' := 6) rfl rfl rfl ?_
  refine x_if (a' := 13) (pc' := 9) (z := false) rfl rfl rfl (by decide) (fun h => by cases h) (fun _ => ?_)
  refine x_iconst (pc' := 10) rfl rfl ?_
  refine x_goto (pc' := 14) rfl rfl ?_
  refine x_retz (z := true) rfl rfl ?_
  refine sK_i (pc' := 30) rfl ?_
  refine x_if (a' := 35) (pc' := 33) (z := true) rfl rfl rfl (by decide) (fun _ => ?_) (fun h => by cases h)
  refine x_aload_n (pc' := 36) rfl rfl rfl rfl rfl ?_
  refine x_gR (pc' := 39) (r := (some 0)) rfl rfl rfl (Eq.trans rdRI (Eq.trans rdRL (Eq.trans rdRI (z_R_769_0 e)))) ?_
  refine x_iload_n (pc' := 40) rfl rfl rfl ?_
  refine x_iald (pc' := 41) (N := 5) (x := 0) rfl rfl rfl (Eq.trans rdNI (Eq.trans rdNL (Eq.trans rdNI (z_N_21_0 e)))) (io_in (p := 2) (N := 5) (by decide) (by decide)) (Eq.trans (congrArg (sA (sIw (sLw (sIw t 67 2 1) 23 0 0 (0 : Int64)) 768 0 0) 21 0) (nn_io (p := 2) (by decide))) (Eq.trans rdAI (Eq.trans rdAL (Eq.trans rdAI (z_A_21_0_2 e))))) ?_
  refine x_istore_n (pc' := 42) (ls' := [_, _, _]) rfl rfl rfl rfl ?_
  refine x_aload_n (pc' := 43) rfl rfl rfl rfl rfl ?_
  refine x_gR (pc' := 46) (r := (some 0)) rfl rfl rfl (Eq.trans rdRI (Eq.trans rdRL (Eq.trans rdRI (z_R_769_0 e)))) ?_
  refine x_iload_n (pc' := 47) rfl rfl rfl ?_
  refine x_iconst (pc' := 48) rfl rfl ?_
  refine x_iast (pc' := 49) (N := 5) (p := 2) rfl rfl rfl (Eq.trans rdNI (Eq.trans rdNL (Eq.trans rdNI (z_N_21_0 e)))) (io_in (p := 2) (N := 5) (by decide) (by decide)) (nn_io (p := 2) (by decide)) ?_
  refine x_iload_n (pc' := 50) rfl rfl rfl ?_
  refine x_reti rfl rfl ?_
  refine sK_i (pc' := 247) rfl ?_
  refine x_istore (pc' := 249) (ls' := [_, _, _, _, _, _, _]) rfl rfl rfl rfl ?_
  refine x_aload_n (pc' := 250) rfl rfl rfl rfl rfl ?_
  refine x_cv (ls0 := [_]) (rest := []) rfl rfl rfl rfl rfl ?_
  refine x_aload_n (pc' := 1) rfl rfl rfl rfl rfl ?_
  refine x_gI (pc' := 4) (x := 0) rfl rfl rfl (Eq.trans rdIA sI_s) ?_
  refine x_reti rfl rfl ?_
  refine sK_i (pc' := 253) rfl ?_
  refine x_iload (pc' := 255) rfl rfl rfl ?_
  refine x_icmp (a' := 260) (pc' := 258) (z := true) rfl rfl rfl (by decide) (fun _ => ?_) (fun h => by cases h)
  refine x_iload (pc' := 262) rfl rfl rfl ?_
  refine x_if (a' := 277) (pc' := 265) (z := false) rfl rfl rfl (by decide) (fun h => by cases h) (fun _ => ?_)
  refine x_aload_n (pc' := 266) rfl rfl rfl rfl rfl ?_
  refine x_iconst (pc' := 267) rfl rfl ?_
  refine x_lald (pc' := 268) (N := 1) (x := (0 : Int64)) rfl rfl (Eq.trans rdNA (Eq.trans rdNI (Eq.trans rdNL (Eq.trans rdNI (z_N_23_0 e))))) (io_in (p := 0) (N := 1) (by decide) (by decide)) (Eq.trans (congrArg (sL (sAw (sIw (sLw (sIw t 67 2 1) 23 0 0 (0 : Int64)) 768 0 0) 21 0 2 1) 23 0) (nn_io (p := 0) (by decide))) (Eq.trans rdLA (Eq.trans rdLI sL_s))) ?_
  refine x_iload (pc' := 270) rfl rfl rfl ?_
  refine x_i2l (pc' := 271) (z := (0 : Int64)) rfl rfl (by decide) ?_
  refine x_lcmp (pc' := 272) (z := 0) rfl rfl (sLcmp_s _) ?_
  refine x_if (a' := 277) (pc' := 275) (z := true) rfl rfl rfl (by decide) (fun _ => ?_) (fun h => by cases h)
  refine x_goto (pc' := 2938) rfl rfl ?_
  refine x_iinc (pc' := 2941) (y := 7) (ls' := [_, _, _, _, _, _, _]) rfl rfl rfl rfl rfl ?_
  refine x_goto (pc' := 23) rfl rfl ?_
  refine x_iload (pc' := 25) rfl rfl rfl ?_
  refine x_aload_n (pc' := 26) rfl rfl rfl rfl rfl ?_
  refine x_alen (pc' := 27) (N := 7) rfl rfl rfl (Eq.trans rdNA (Eq.trans rdNI (Eq.trans rdNL (Eq.trans rdNI (z_N_29_0 e))))) (?_ : X _ _ _ (.inl 7 :: _) _ _)
  refine x_bipush (pc' := 29) rfl rfl ?_
  refine x_isub (pc' := 30) (z := 0) rfl rfl (by decide) ?_
  refine x_icmp (a' := 2944) (pc' := 33) (z := true) rfl rfl rfl (by decide) (fun _ => ?_) (fun h => by cases h)
  refine x_iconst (pc' := 2945) rfl rfl ?_
  refine x_retz (z := true) rfl rfl ?_
  exact Qp_ok e (p := 0) (q := 0) rfl rfl rfl rfl
set_option maxHeartbeats 4000000 in
set_option maxRecDepth 10000 in
theorem v_0_3 {t : sT} {xs : Nat → Int32}
    (e : t = T16 7 xs)
    (hk : ((xs 0) &&& 63) = 0)
    (e0 : xs 1 = 3) :
    X 297 23 [.inr (.inr (29, (some 0))), .inr (.inr (11, (some 0))), .inr (.inr (12, (some 0))), .inr (.inr (23, (some 0))), .inl 0, sJk, sJk] [] t Qp := by
  refine x_iload (pc' := 25) rfl rfl rfl ?_
  refine x_aload_n (pc' := 26) rfl rfl rfl rfl rfl ?_
  refine x_alen (pc' := 27) (N := 7) rfl rfl rfl (z_N_29_0 e) (?_ : X _ _ _ (.inl 7 :: _) _ _)
  refine x_bipush (pc' := 29) rfl rfl ?_
  refine x_isub (pc' := 30) (z := 0) rfl rfl (by decide) ?_
  refine x_icmp (a' := 2944) (pc' := 33) (z := false) rfl rfl rfl (by decide) (fun h => by cases h) (fun _ => ?_)
  refine x_aload_n (pc' := 34) rfl rfl rfl rfl rfl ?_
  refine x_iload (pc' := 36) rfl rfl rfl ?_
  refine x_iald (pc' := 37) (N := 7) (x := (xs 0)) rfl rfl rfl (z_N_29_0 e) (io_in (p := 0) (N := 7) (by decide) (by decide)) (Eq.trans (congrArg (sA t 29 0) (nn_io (p := 0) (by decide))) (z_A_29_0_0 e)) ?_
  refine x_bipush (pc' := 39) rfl rfl ?_
  refine x_iand (pc' := 40) (z := ((xs 0) &&& 63)) rfl rfl rfl ?_
  refine x_switch (pc' := 224) rfl (by rw [hk]; decide) ?_
  refine x_aload_n (pc' := 225) rfl rfl rfl rfl rfl ?_
  refine x_aload_n (pc' := 226) rfl rfl rfl rfl rfl ?_
  refine x_iload (pc' := 228) rfl rfl rfl ?_
  refine x_iconst (pc' := 229) rfl rfl ?_
  refine x_iadd (pc' := 230) (z := 1) rfl rfl (by decide) ?_
  refine x_iald (pc' := 231) (N := 7) (x := 3) rfl rfl rfl (z_N_29_0 e) (io_in (p := 1) (N := 7) (by decide) (by decide)) (Eq.trans (congrArg (sA t 29 0) (nn_io (p := 1) (by decide))) (Eq.trans (z_A_29_0_1 e) e0)) ?_
  refine x_aload_n (pc' := 232) rfl rfl rfl rfl rfl ?_
  refine x_cs (ls0 := [_, _, _, sJk]) (rest := []) rfl rfl rfl rfl ?_
  refine x_aload_n (pc' := 1) rfl rfl rfl rfl rfl ?_
  refine x_iconst (pc' := 2) rfl rfl ?_
  refine x_aload_n (pc' := 3) rfl rfl rfl rfl rfl ?_
  refine x_iload_n (pc' := 4) rfl rfl rfl ?_
  refine x_cv (ls0 := [_, _, sJk, sJk]) (rest := [_, _]) rfl rfl rfl rfl rfl ?_
  refine x_aload_n (pc' := 1) rfl rfl rfl rfl rfl ?_
  refine x_iload_n (pc' := 2) rfl rfl rfl ?_
  refine x_cv (ls0 := [_, _]) (rest := []) rfl rfl rfl rfl rfl ?_
  refine x_iload_n (pc' := 1) rfl rfl rfl ?_
  refine x_if (a' := 16) (pc' := 4) (z := false) rfl rfl rfl (by decide) (fun h => by cases h) (fun _ => ?_)
  refine x_iload_n (pc' := 5) rfl rfl rfl ?_
  refine x_aload_n (pc' := 6) rfl rfl rfl rfl rfl ?_
  refine x_gR (pc' := 9) (r := (some 0)) rfl rfl rfl (z_R_705_0 e) ?_
  refine x_gR (pc' := 12) (r := (some 0)) rfl rfl rfl (z_R_256_0 e) ?_
  refine x_alen (pc' := 13) (N := 5) rfl rfl rfl (z_N_24_0 e) (?_ : X _ _ _ (.inl 5 :: _) _ _)
  refine x_icmp (a' := 27) (pc' := 16) (z := true) rfl rfl rfl (by decide) (fun _ => ?_) (fun h => by cases h)
  refine x_aload_n (pc' := 28) rfl rfl rfl rfl rfl ?_
  refine x_gR (pc' := 31) (r := (some 0)) rfl rfl rfl (z_R_705_0 e) ?_
  refine x_gR (pc' := 34) (r := (some 0)) rfl rfl rfl (z_R_256_0 e) ?_
  refine x_iload_n (pc' := 35) rfl rfl rfl ?_
  refine x_aald (pc' := 36) (N := 5) (k' := 1) (r := (some 3)) rfl rfl rfl (z_N_24_0 e) (io_in (p := 3) (N := 5) (by decide) (by decide)) (Eq.trans (congrArg (sE t 24 0) (nn_io (p := 3) (by decide))) (z_E_24_0_3 e)) ?_
  refine x_reta rfl rfl ?_
  refine sK_i (pc' := 5) rfl ?_
  refine x_astore_n (pc' := 6) (ls' := [_, _, _, _]) rfl rfl rfl rfl rfl ?_
  refine x_aload_n (pc' := 7) rfl rfl rfl rfl rfl ?_
  refine x_gI (pc' := 10) (x := 0) rfl rfl rfl (z_I_67_3 e) ?_
  refine x_iconst (pc' := 11) rfl rfl ?_
  refine x_icmp (a' := 18) (pc' := 14) (z := false) rfl rfl rfl (by decide) (fun h => by cases h) (fun _ => ?_)
  refine x_iconst (pc' := 15) rfl rfl ?_
  refine x_goto (pc' := 19) rfl rfl ?_
  refine x_cs (ls0 := [_]) (rest := []) rfl rfl rfl rfl ?_
  refine x_iload_n (pc' := 1) rfl rfl rfl ?_
  refine x_if (a' := 15) (pc' := 4) (z := true) rfl rfl rfl (by decide) (fun _ => ?_) (fun h => by cases h)
  refine x_ret rfl ?_
  refine sK_v (pc' := 22) rfl ?_
  refine x_aload_n (pc' := 23) rfl rfl rfl rfl rfl ?_
  refine x_gI (pc' := 26) (x := 0) rfl rfl rfl (z_I_67_3 e) ?_
  refine x_istore_n (pc' := 27) (ls' := [_, _, _, _]) rfl rfl rfl rfl ?_
  refine x_aload_n (pc' := 28) rfl rfl rfl rfl rfl ?_
  refine x_iconst (pc' := 29) rfl rfl ?_
  refine x_pI (pc' := 32) rfl rfl rfl ?_
  refine x_iload_n (pc' := 33) rfl rfl rfl ?_
  refine x_reti rfl rfl ?_
  refine sK_i (pc' := 7) rfl ?_
  refine x_i2l (pc' := 8) (z := (0 : Int64)) rfl rfl (by decide) ?_
  refine x_last (pc' := 9) (N := 1) (p := 0) rfl rfl (Eq.trans rdNI (z_N_23_0 e)) (io_in (p := 0) (N := 1) (by decide) (by decide)) (nn_io (p := 0) (by decide)) ?_
  refine x_goto (pc' := 18) rfl rfl ?_
  refine x_iconst (pc' := 19) rfl rfl ?_
  refine x_reti rfl rfl ?_
  refine sK_i (pc' := 235) rfl ?_
  refine x_istore (pc' := 237) (ls' := [_, _, _, _, _, _, _]) rfl rfl rfl rfl ?_
  refine x_aload_n (pc' := 238) rfl rfl rfl rfl rfl ?_
  refine x_aload_n (pc' := 239) rfl rfl rfl rfl rfl ?_
  refine x_iload (pc' := 241) rfl rfl rfl ?_
  refine x_iconst (pc' := 242) rfl rfl ?_
  refine x_iadd (pc' := 243) (z := 1) rfl rfl (by decide) ?_
  refine x_iald (pc' := 244) (N := 7) (x := 3) rfl rfl rfl (Eq.trans rdNL (Eq.trans rdNI (z_N_29_0 e))) (io_in (p := 1) (N := 7) (by decide) (by decide)) (Eq.trans (congrArg (sA (sLw (sIw t 67 3 1) 23 0 0 (0 : Int64)) 29 0) (nn_io (p := 1) (by decide))) (Eq.trans rdAL (Eq.trans rdAI (Eq.trans (z_A_29_0_1 e) e0)))) ?_
  refine x_cv (ls0 := [_, _, sJk]) (rest := []) rfl rfl rfl rfl rfl ?_
  refine x_aload_n (pc' := 1) rfl rfl rfl rfl rfl ?_
  refine x_iload_n (pc' := 2) rfl rfl rfl ?_
  refine x_cs (ls0 := [_]) (rest := [_]) rfl rfl rfl rfl ?_
  refine x_iload_n (pc' := 1) rfl rfl rfl ?_
  refine x_iconst (pc' := 2) rfl rfl ?_
  refine x_iconst (pc' := 3) rfl rfl ?_
  refine x_cs (ls0 := [_, _, _]) (rest := []) rfl rfl rfl rfl ?_
  refine x_iload_n (pc' := 1) rfl rfl rfl ?_
  refine x_iload_n (pc' := 2) rfl rfl rfl ?_
  refine x_icmp (a' := 14) (pc' := 5) (z := false) rfl rfl rfl (by decide) (fun h => by cases h) (fun _ => ?_)
  refine x_iload_n (pc' := 6) rfl rfl rfl ?_
  refine x_iload_n (pc' := 7) rfl rfl rfl ?_
  refine x_icmp (a' := 14) (pc' := 10) (z := false) rfl rfl rfl (by decide) (fun h => by cases h) (fun _ => ?_)
  refine x_iconst (pc' := 11) rfl rfl ?_
  refine x_goto (pc' := 15) rfl rfl ?_
  refine x_retz (z := true) rfl rfl ?_
  refine sK_i (pc' := 6) rfl ?_
  refine x_retz (z := true) rfl rfl ?_
  refine sK_i (pc' := 5) rfl ?_
  refine x_if (a' := 12) (pc' := 8) (z := true) rfl rfl rfl (by decide) (fun _ => ?_) (fun h => by cases h)
  refine x_aload_n (pc' := 13) rfl rfl rfl rfl rfl ?_
  refine x_gR (pc' := 16) (r := (some 0)) rfl rfl rfl (Eq.trans rdRL (Eq.trans rdRI (z_R_769_0 e))) ?_
  refine x_iload_n (pc' := 17) rfl rfl rfl ?_
  refine x_iald (pc' := 18) (N := 5) (x := 0) rfl rfl rfl (Eq.trans rdNL (Eq.trans rdNI (z_N_21_0 e))) (io_in (p := 3) (N := 5) (by decide) (by decide)) (Eq.trans (congrArg (sA (sLw (sIw t 67 3 1) 23 0 0 (0 : Int64)) 21 0) (nn_io (p := 3) (by decide))) (Eq.trans rdAL (Eq.trans rdAI (z_A_21_0_3 e)))) ?_
  refine x_iconst (pc' := 19) rfl rfl ?_
  refine x_icmp (a' := 26) (pc' := 22) (z := true) rfl rfl rfl (by decide) (fun _ => ?_) (fun h => by cases h)
  refine x_iconst (pc' := 27) rfl rfl ?_
  refine x_cv (ls0 := [_, _]) (rest := []) rfl rfl rfl rfl rfl ?_
  refine x_aload_n (pc' := 1) rfl rfl rfl rfl rfl ?_
  refine x_iload_n (pc' := 2) rfl rfl rfl ?_
  refine x_pI (pc' := 5) rfl rfl rfl ?_
  refine x_iload_n (pc' := 6) rfl rfl rfl ?_
  refine x_if (a' := 13) (pc' := 9) (z := false) rfl rfl rfl (by decide) (fun h => by cases h) (fun _ => ?_)
  refine x_iconst (pc' := 10) rfl rfl ?_
  refine x_goto (pc' := 14) rfl rfl ?_
  refine x_retz (z := true) rfl rfl ?_
  refine sK_i (pc' := 30) rfl ?_
  refine x_if (a' := 35) (pc' := 33) (z := true) rfl rfl rfl (by decide) (fun _ => ?_) (fun h => by cases h)
  refine x_aload_n (pc' := 36) rfl rfl rfl rfl rfl ?_
  refine x_gR (pc' := 39) (r := (some 0)) rfl rfl rfl (Eq.trans rdRI (Eq.trans rdRL (Eq.trans rdRI (z_R_769_0 e)))) ?_
  refine x_iload_n (pc' := 40) rfl rfl rfl ?_
  refine x_iald (pc' := 41) (N := 5) (x := 0) rfl rfl rfl (Eq.trans rdNI (Eq.trans rdNL (Eq.trans rdNI (z_N_21_0 e)))) (io_in (p := 3) (N := 5) (by decide) (by decide)) (Eq.trans (congrArg (sA (sIw (sLw (sIw t 67 3 1) 23 0 0 (0 : Int64)) 768 0 0) 21 0) (nn_io (p := 3) (by decide))) (Eq.trans rdAI (Eq.trans rdAL (Eq.trans rdAI (z_A_21_0_3 e))))) ?_
  refine x_istore_n (pc' := 42) (ls' := [_, _, _]) rfl rfl rfl rfl ?_
  refine x_aload_n (pc' := 43) rfl rfl rfl rfl rfl ?_
  refine x_gR (pc' := 46) (r := (some 0)) rfl rfl rfl (Eq.trans rdRI (Eq.trans rdRL (Eq.trans rdRI (z_R_769_0 e)))) ?_
  refine x_iload_n (pc' := 47) rfl rfl rfl ?_
  refine x_iconst (pc' := 48) rfl rfl ?_
  refine x_iast (pc' := 49) (N := 5) (p := 3) rfl rfl rfl (Eq.trans rdNI (Eq.trans rdNL (Eq.trans rdNI (z_N_21_0 e)))) (io_in (p := 3) (N := 5) (by decide) (by decide)) (nn_io (p := 3) (by decide)) ?_
  refine x_iload_n (pc' := 50) rfl rfl rfl ?_
  refine x_reti rfl rfl ?_
  refine sK_i (pc' := 247) rfl ?_
  refine x_istore (pc' := 249) (ls' := [_, _, _, _, _, _, _]) rfl rfl rfl rfl ?_
  refine x_aload_n (pc' := 250) rfl rfl rfl rfl rfl ?_
  refine x_cv (ls0 := [_]) (rest := []) rfl rfl rfl rfl rfl ?_
  refine x_aload_n (pc' := 1) rfl rfl rfl rfl rfl ?_
  refine x_gI (pc' := 4) (x := 0) rfl rfl rfl (Eq.trans rdIA sI_s) ?_
  refine x_reti rfl rfl ?_
  refine sK_i (pc' := 253) rfl ?_
  refine x_iload (pc' := 255) rfl rfl rfl ?_
  refine x_icmp (a' := 260) (pc' := 258) (z := true) rfl rfl rfl (by decide) (fun _ => ?_) (fun h => by cases h)
  refine x_iload (pc' := 262) rfl rfl rfl ?_
  refine x_if (a' := 277) (pc' := 265) (z := false) rfl rfl rfl (by decide) (fun h => by cases h) (fun _ => ?_)
  refine x_aload_n (pc' := 266) rfl rfl rfl rfl rfl ?_
  refine x_iconst (pc' := 267) rfl rfl ?_
  refine x_lald (pc' := 268) (N := 1) (x := (0 : Int64)) rfl rfl (Eq.trans rdNA (Eq.trans rdNI (Eq.trans rdNL (Eq.trans rdNI (z_N_23_0 e))))) (io_in (p := 0) (N := 1) (by decide) (by decide)) (Eq.trans (congrArg (sL (sAw (sIw (sLw (sIw t 67 3 1) 23 0 0 (0 : Int64)) 768 0 0) 21 0 3 1) 23 0) (nn_io (p := 0) (by decide))) (Eq.trans rdLA (Eq.trans rdLI sL_s))) ?_
  refine x_iload (pc' := 270) rfl rfl rfl ?_
  refine x_i2l (pc' := 271) (z := (0 : Int64)) rfl rfl (by decide) ?_
  refine x_lcmp (pc' := 272) (z := 0) rfl rfl (sLcmp_s _) ?_
  refine x_if (a' := 277) (pc' := 275) (z := true) rfl rfl rfl (by decide) (fun _ => ?_) (fun h => by cases h)
  refine x_goto (pc' := 2938) rfl rfl ?_
  refine x_iinc (pc' := 2941) (y := 7) (ls' := [_, _, _, _, _, _, _]) rfl rfl rfl rfl rfl ?_
  refine x_goto (pc' := 23) rfl rfl ?_
  refine x_iload (pc' := 25) rfl rfl rfl ?_
  refine x_aload_n (pc' := 26) rfl rfl rfl rfl rfl ?_
  refine x_alen (pc' := 27) (N := 7) rfl rfl rfl (Eq.trans rdNA (Eq.trans rdNI (Eq.trans rdNL (Eq.trans rdNI (z_N_29_0 e))))) (?_ : X _ _ _ (.inl 7 :: _) _ _)
  refine x_bipush (pc' := 29) rfl rfl ?_
  refine x_isub (pc' := 30) (z := 0) rfl rfl (by decide) ?_
  refine x_icmp (a' := 2944) (pc' := 33) (z := true) rfl rfl rfl (by decide) (fun _ => ?_) (fun h => by cases h)
  refine x_iconst (pc' := 2945) rfl rfl ?_
  refine x_retz (z := true) rfl rfl ?_
  exact Qp_ok e (p := 0) (q := 0) rfl rfl rfl rfl
set_option maxHeartbeats 4000000 in
set_option maxRecDepth 10000 in
theorem v_0_4 {t : sT} {xs : Nat → Int32}
    (e : t = T16 7 xs)
    (hk : ((xs 0) &&& 63) = 0)
    (e0 : xs 1 = 4) :
    X 297 23 [.inr (.inr (29, (some 0))), .inr (.inr (11, (some 0))), .inr (.inr (12, (some 0))), .inr (.inr (23, (some 0))), .inl 0, sJk, sJk] [] t Qp := by
  refine x_iload (pc' := 25) rfl rfl rfl ?_
  refine x_aload_n (pc' := 26) rfl rfl rfl rfl rfl ?_
  refine x_alen (pc' := 27) (N := 7) rfl rfl rfl (z_N_29_0 e) (?_ : X _ _ _ (.inl 7 :: _) _ _)
  refine x_bipush (pc' := 29) rfl rfl ?_
  refine x_isub (pc' := 30) (z := 0) rfl rfl (by decide) ?_
  refine x_icmp (a' := 2944) (pc' := 33) (z := false) rfl rfl rfl (by decide) (fun h => by cases h) (fun _ => ?_)
  refine x_aload_n (pc' := 34) rfl rfl rfl rfl rfl ?_
  refine x_iload (pc' := 36) rfl rfl rfl ?_
  refine x_iald (pc' := 37) (N := 7) (x := (xs 0)) rfl rfl rfl (z_N_29_0 e) (io_in (p := 0) (N := 7) (by decide) (by decide)) (Eq.trans (congrArg (sA t 29 0) (nn_io (p := 0) (by decide))) (z_A_29_0_0 e)) ?_
  refine x_bipush (pc' := 39) rfl rfl ?_
  refine x_iand (pc' := 40) (z := ((xs 0) &&& 63)) rfl rfl rfl ?_
  refine x_switch (pc' := 224) rfl (by rw [hk]; decide) ?_
  refine x_aload_n (pc' := 225) rfl rfl rfl rfl rfl ?_
  refine x_aload_n (pc' := 226) rfl rfl rfl rfl rfl ?_
  refine x_iload (pc' := 228) rfl rfl rfl ?_
  refine x_iconst (pc' := 229) rfl rfl ?_
  refine x_iadd (pc' := 230) (z := 1) rfl rfl (by decide) ?_
  refine x_iald (pc' := 231) (N := 7) (x := 4) rfl rfl rfl (z_N_29_0 e) (io_in (p := 1) (N := 7) (by decide) (by decide)) (Eq.trans (congrArg (sA t 29 0) (nn_io (p := 1) (by decide))) (Eq.trans (z_A_29_0_1 e) e0)) ?_
  refine x_aload_n (pc' := 232) rfl rfl rfl rfl rfl ?_
  refine x_cs (ls0 := [_, _, _, sJk]) (rest := []) rfl rfl rfl rfl ?_
  refine x_aload_n (pc' := 1) rfl rfl rfl rfl rfl ?_
  refine x_iconst (pc' := 2) rfl rfl ?_
  refine x_aload_n (pc' := 3) rfl rfl rfl rfl rfl ?_
  refine x_iload_n (pc' := 4) rfl rfl rfl ?_
  refine x_cv (ls0 := [_, _, sJk, sJk]) (rest := [_, _]) rfl rfl rfl rfl rfl ?_
  refine x_aload_n (pc' := 1) rfl rfl rfl rfl rfl ?_
  refine x_iload_n (pc' := 2) rfl rfl rfl ?_
  refine x_cv (ls0 := [_, _]) (rest := []) rfl rfl rfl rfl rfl ?_
  refine x_iload_n (pc' := 1) rfl rfl rfl ?_
  refine x_if (a' := 16) (pc' := 4) (z := false) rfl rfl rfl (by decide) (fun h => by cases h) (fun _ => ?_)
  refine x_iload_n (pc' := 5) rfl rfl rfl ?_
  refine x_aload_n (pc' := 6) rfl rfl rfl rfl rfl ?_
  refine x_gR (pc' := 9) (r := (some 0)) rfl rfl rfl (z_R_705_0 e) ?_
  refine x_gR (pc' := 12) (r := (some 0)) rfl rfl rfl (z_R_256_0 e) ?_
  refine x_alen (pc' := 13) (N := 5) rfl rfl rfl (z_N_24_0 e) (?_ : X _ _ _ (.inl 5 :: _) _ _)
  refine x_icmp (a' := 27) (pc' := 16) (z := true) rfl rfl rfl (by decide) (fun _ => ?_) (fun h => by cases h)
  refine x_aload_n (pc' := 28) rfl rfl rfl rfl rfl ?_
  refine x_gR (pc' := 31) (r := (some 0)) rfl rfl rfl (z_R_705_0 e) ?_
  refine x_gR (pc' := 34) (r := (some 0)) rfl rfl rfl (z_R_256_0 e) ?_
  refine x_iload_n (pc' := 35) rfl rfl rfl ?_
  refine x_aald (pc' := 36) (N := 5) (k' := 1) (r := (some 4)) rfl rfl rfl (z_N_24_0 e) (io_in (p := 4) (N := 5) (by decide) (by decide)) (Eq.trans (congrArg (sE t 24 0) (nn_io (p := 4) (by decide))) (z_E_24_0_4 e)) ?_
  refine x_reta rfl rfl ?_
  refine sK_i (pc' := 5) rfl ?_
  refine x_astore_n (pc' := 6) (ls' := [_, _, _, _]) rfl rfl rfl rfl rfl ?_
  refine x_aload_n (pc' := 7) rfl rfl rfl rfl rfl ?_
  refine x_gI (pc' := 10) (x := 0) rfl rfl rfl (z_I_67_4 e) ?_
  refine x_iconst (pc' := 11) rfl rfl ?_
  refine x_icmp (a' := 18) (pc' := 14) (z := false) rfl rfl rfl (by decide) (fun h => by cases h) (fun _ => ?_)
  refine x_iconst (pc' := 15) rfl rfl ?_
  refine x_goto (pc' := 19) rfl rfl ?_
  refine x_cs (ls0 := [_]) (rest := []) rfl rfl rfl rfl ?_
  refine x_iload_n (pc' := 1) rfl rfl rfl ?_
  refine x_if (a' := 15) (pc' := 4) (z := true) rfl rfl rfl (by decide) (fun _ => ?_) (fun h => by cases h)
  refine x_ret rfl ?_
  refine sK_v (pc' := 22) rfl ?_
  refine x_aload_n (pc' := 23) rfl rfl rfl rfl rfl ?_
  refine x_gI (pc' := 26) (x := 0) rfl rfl rfl (z_I_67_4 e) ?_
  refine x_istore_n (pc' := 27) (ls' := [_, _, _, _]) rfl rfl rfl rfl ?_
  refine x_aload_n (pc' := 28) rfl rfl rfl rfl rfl ?_
  refine x_iconst (pc' := 29) rfl rfl ?_
  refine x_pI (pc' := 32) rfl rfl rfl ?_
  refine x_iload_n (pc' := 33) rfl rfl rfl ?_
  refine x_reti rfl rfl ?_
  refine sK_i (pc' := 7) rfl ?_
  refine x_i2l (pc' := 8) (z := (0 : Int64)) rfl rfl (by decide) ?_
  refine x_last (pc' := 9) (N := 1) (p := 0) rfl rfl (Eq.trans rdNI (z_N_23_0 e)) (io_in (p := 0) (N := 1) (by decide) (by decide)) (nn_io (p := 0) (by decide)) ?_
  refine x_goto (pc' := 18) rfl rfl ?_
  refine x_iconst (pc' := 19) rfl rfl ?_
  refine x_reti rfl rfl ?_
  refine sK_i (pc' := 235) rfl ?_
  refine x_istore (pc' := 237) (ls' := [_, _, _, _, _, _, _]) rfl rfl rfl rfl ?_
  refine x_aload_n (pc' := 238) rfl rfl rfl rfl rfl ?_
  refine x_aload_n (pc' := 239) rfl rfl rfl rfl rfl ?_
  refine x_iload (pc' := 241) rfl rfl rfl ?_
  refine x_iconst (pc' := 242) rfl rfl ?_
  refine x_iadd (pc' := 243) (z := 1) rfl rfl (by decide) ?_
  refine x_iald (pc' := 244) (N := 7) (x := 4) rfl rfl rfl (Eq.trans rdNL (Eq.trans rdNI (z_N_29_0 e))) (io_in (p := 1) (N := 7) (by decide) (by decide)) (Eq.trans (congrArg (sA (sLw (sIw t 67 4 1) 23 0 0 (0 : Int64)) 29 0) (nn_io (p := 1) (by decide))) (Eq.trans rdAL (Eq.trans rdAI (Eq.trans (z_A_29_0_1 e) e0)))) ?_
  refine x_cv (ls0 := [_, _, sJk]) (rest := []) rfl rfl rfl rfl rfl ?_
  refine x_aload_n (pc' := 1) rfl rfl rfl rfl rfl ?_
  refine x_iload_n (pc' := 2) rfl rfl rfl ?_
  refine x_cs (ls0 := [_]) (rest := [_]) rfl rfl rfl rfl ?_
  refine x_iload_n (pc' := 1) rfl rfl rfl ?_
  refine x_iconst (pc' := 2) rfl rfl ?_
  refine x_iconst (pc' := 3) rfl rfl ?_
  refine x_cs (ls0 := [_, _, _]) (rest := []) rfl rfl rfl rfl ?_
  refine x_iload_n (pc' := 1) rfl rfl rfl ?_
  refine x_iload_n (pc' := 2) rfl rfl rfl ?_
  refine x_icmp (a' := 14) (pc' := 5) (z := false) rfl rfl rfl (by decide) (fun h => by cases h) (fun _ => ?_)
  refine x_iload_n (pc' := 6) rfl rfl rfl ?_
  refine x_iload_n (pc' := 7) rfl rfl rfl ?_
  refine x_icmp (a' := 14) (pc' := 10) (z := false) rfl rfl rfl (by decide) (fun h => by cases h) (fun _ => ?_)
  refine x_iconst (pc' := 11) rfl rfl ?_
  refine x_goto (pc' := 15) rfl rfl ?_
  refine x_retz (z := true) rfl rfl ?_
  refine sK_i (pc' := 6) rfl ?_
  refine x_retz (z := true) rfl rfl ?_
  refine sK_i (pc' := 5) rfl ?_
  refine x_if (a' := 12) (pc' := 8) (z := true) rfl rfl rfl (by decide) (fun _ => ?_) (fun h => by cases h)
  refine x_aload_n (pc' := 13) rfl rfl rfl rfl rfl ?_
  refine x_gR (pc' := 16) (r := (some 0)) rfl rfl rfl (Eq.trans rdRL (Eq.trans rdRI (z_R_769_0 e))) ?_
  refine x_iload_n (pc' := 17) rfl rfl rfl ?_
  refine x_iald (pc' := 18) (N := 5) (x := 0) rfl rfl rfl (Eq.trans rdNL (Eq.trans rdNI (z_N_21_0 e))) (io_in (p := 4) (N := 5) (by decide) (by decide)) (Eq.trans (congrArg (sA (sLw (sIw t 67 4 1) 23 0 0 (0 : Int64)) 21 0) (nn_io (p := 4) (by decide))) (Eq.trans rdAL (Eq.trans rdAI (z_A_21_0_4 e)))) ?_
  refine x_iconst (pc' := 19) rfl rfl ?_
  refine x_icmp (a' := 26) (pc' := 22) (z := true) rfl rfl rfl (by decide) (fun _ => ?_) (fun h => by cases h)
  refine x_iconst (pc' := 27) rfl rfl ?_
  refine x_cv (ls0 := [_, _]) (rest := []) rfl rfl rfl rfl rfl ?_
  refine x_aload_n (pc' := 1) rfl rfl rfl rfl rfl ?_
  refine x_iload_n (pc' := 2) rfl rfl rfl ?_
  refine x_pI (pc' := 5) rfl rfl rfl ?_
  refine x_iload_n (pc' := 6) rfl rfl rfl ?_
  refine x_if (a' := 13) (pc' := 9) (z := false) rfl rfl rfl (by decide) (fun h => by cases h) (fun _ => ?_)
  refine x_iconst (pc' := 10) rfl rfl ?_
  refine x_goto (pc' := 14) rfl rfl ?_
  refine x_retz (z := true) rfl rfl ?_
  refine sK_i (pc' := 30) rfl ?_
  refine x_if (a' := 35) (pc' := 33) (z := true) rfl rfl rfl (by decide) (fun _ => ?_) (fun h => by cases h)
  refine x_aload_n (pc' := 36) rfl rfl rfl rfl rfl ?_
  refine x_gR (pc' := 39) (r := (some 0)) rfl rfl rfl (Eq.trans rdRI (Eq.trans rdRL (Eq.trans rdRI (z_R_769_0 e)))) ?_
  refine x_iload_n (pc' := 40) rfl rfl rfl ?_
  refine x_iald (pc' := 41) (N := 5) (x := 0) rfl rfl rfl (Eq.trans rdNI (Eq.trans rdNL (Eq.trans rdNI (z_N_21_0 e)))) (io_in (p := 4) (N := 5) (by decide) (by decide)) (Eq.trans (congrArg (sA (sIw (sLw (sIw t 67 4 1) 23 0 0 (0 : Int64)) 768 0 0) 21 0) (nn_io (p := 4) (by decide))) (Eq.trans rdAI (Eq.trans rdAL (Eq.trans rdAI (z_A_21_0_4 e))))) ?_
  refine x_istore_n (pc' := 42) (ls' := [_, _, _]) rfl rfl rfl rfl ?_
  refine x_aload_n (pc' := 43) rfl rfl rfl rfl rfl ?_
  refine x_gR (pc' := 46) (r := (some 0)) rfl rfl rfl (Eq.trans rdRI (Eq.trans rdRL (Eq.trans rdRI (z_R_769_0 e)))) ?_
  refine x_iload_n (pc' := 47) rfl rfl rfl ?_
  refine x_iconst (pc' := 48) rfl rfl ?_
  refine x_iast (pc' := 49) (N := 5) (p := 4) rfl rfl rfl (Eq.trans rdNI (Eq.trans rdNL (Eq.trans rdNI (z_N_21_0 e)))) (io_in (p := 4) (N := 5) (by decide) (by decide)) (nn_io (p := 4) (by decide)) ?_
  refine x_iload_n (pc' := 50) rfl rfl rfl ?_
  refine x_reti rfl rfl ?_
  refine sK_i (pc' := 247) rfl ?_
  refine x_istore (pc' := 249) (ls' := [_, _, _, _, _, _, _]) rfl rfl rfl rfl ?_
  refine x_aload_n (pc' := 250) rfl rfl rfl rfl rfl ?_
  refine x_cv (ls0 := [_]) (rest := []) rfl rfl rfl rfl rfl ?_
  refine x_aload_n (pc' := 1) rfl rfl rfl rfl rfl ?_
  refine x_gI (pc' := 4) (x := 0) rfl rfl rfl (Eq.trans rdIA sI_s) ?_
  refine x_reti rfl rfl ?_
  refine sK_i (pc' := 253) rfl ?_
  refine x_iload (pc' := 255) rfl rfl rfl ?_
  refine x_icmp (a' := 260) (pc' := 258) (z := true) rfl rfl rfl (by decide) (fun _ => ?_) (fun h => by cases h)
  refine x_iload (pc' := 262) rfl rfl rfl ?_
  refine x_if (a' := 277) (pc' := 265) (z := false) rfl rfl rfl (by decide) (fun h => by cases h) (fun _ => ?_)
  refine x_aload_n (pc' := 266) rfl rfl rfl rfl rfl ?_
  refine x_iconst (pc' := 267) rfl rfl ?_
  refine x_lald (pc' := 268) (N := 1) (x := (0 : Int64)) rfl rfl (Eq.trans rdNA (Eq.trans rdNI (Eq.trans rdNL (Eq.trans rdNI (z_N_23_0 e))))) (io_in (p := 0) (N := 1) (by decide) (by decide)) (Eq.trans (congrArg (sL (sAw (sIw (sLw (sIw t 67 4 1) 23 0 0 (0 : Int64)) 768 0 0) 21 0 4 1) 23 0) (nn_io (p := 0) (by decide))) (Eq.trans rdLA (Eq.trans rdLI sL_s))) ?_
  refine x_iload (pc' := 270) rfl rfl rfl ?_
  refine x_i2l (pc' := 271) (z := (0 : Int64)) rfl rfl (by decide) ?_
  refine x_lcmp (pc' := 272) (z := 0) rfl rfl (sLcmp_s _) ?_
  refine x_if (a' := 277) (pc' := 275) (z := true) rfl rfl rfl (by decide) (fun _ => ?_) (fun h => by cases h)
  refine x_goto (pc' := 2938) rfl rfl ?_
  refine x_iinc (pc' := 2941) (y := 7) (ls' := [_, _, _, _, _, _, _]) rfl rfl rfl rfl rfl ?_
  refine x_goto (pc' := 23) rfl rfl ?_
  refine x_iload (pc' := 25) rfl rfl rfl ?_
  refine x_aload_n (pc' := 26) rfl rfl rfl rfl rfl ?_
  refine x_alen (pc' := 27) (N := 7) rfl rfl rfl (Eq.trans rdNA (Eq.trans rdNI (Eq.trans rdNL (Eq.trans rdNI (z_N_29_0 e))))) (?_ : X _ _ _ (.inl 7 :: _) _ _)
  refine x_bipush (pc' := 29) rfl rfl ?_
  refine x_isub (pc' := 30) (z := 0) rfl rfl (by decide) ?_
  refine x_icmp (a' := 2944) (pc' := 33) (z := true) rfl rfl rfl (by decide) (fun _ => ?_) (fun h => by cases h)
  refine x_iconst (pc' := 2945) rfl rfl ?_
  refine x_retz (z := true) rfl rfl ?_
  exact Qp_ok e (p := 0) (q := 0) rfl rfl rfl rfl
set_option maxHeartbeats 4000000 in
set_option maxRecDepth 10000 in
theorem v_0_A {t : sT} {xs : Nat → Int32}
    (e : t = T16 7 xs)
    (hk : ((xs 0) &&& 63) = 0)
    (e0 : (xs 1) < 0) :
    X 297 23 [.inr (.inr (29, (some 0))), .inr (.inr (11, (some 0))), .inr (.inr (12, (some 0))), .inr (.inr (23, (some 0))), .inl 0, sJk, sJk] [] t Qp := by
  refine x_iload (pc' := 25) rfl rfl rfl ?_
  refine x_aload_n (pc' := 26) rfl rfl rfl rfl rfl ?_
  refine x_alen (pc' := 27) (N := 7) rfl rfl rfl (z_N_29_0 e) (?_ : X _ _ _ (.inl 7 :: _) _ _)
  refine x_bipush (pc' := 29) rfl rfl ?_
  refine x_isub (pc' := 30) (z := 0) rfl rfl (by decide) ?_
  refine x_icmp (a' := 2944) (pc' := 33) (z := false) rfl rfl rfl (by decide) (fun h => by cases h) (fun _ => ?_)
  refine x_aload_n (pc' := 34) rfl rfl rfl rfl rfl ?_
  refine x_iload (pc' := 36) rfl rfl rfl ?_
  refine x_iald (pc' := 37) (N := 7) (x := (xs 0)) rfl rfl rfl (z_N_29_0 e) (io_in (p := 0) (N := 7) (by decide) (by decide)) (Eq.trans (congrArg (sA t 29 0) (nn_io (p := 0) (by decide))) (z_A_29_0_0 e)) ?_
  refine x_bipush (pc' := 39) rfl rfl ?_
  refine x_iand (pc' := 40) (z := ((xs 0) &&& 63)) rfl rfl rfl ?_
  refine x_switch (pc' := 224) rfl (by rw [hk]; decide) ?_
  refine x_aload_n (pc' := 225) rfl rfl rfl rfl rfl ?_
  refine x_aload_n (pc' := 226) rfl rfl rfl rfl rfl ?_
  refine x_iload (pc' := 228) rfl rfl rfl ?_
  refine x_iconst (pc' := 229) rfl rfl ?_
  refine x_iadd (pc' := 230) (z := 1) rfl rfl (by decide) ?_
  refine x_iald (pc' := 231) (N := 7) (x := (xs 1)) rfl rfl rfl (z_N_29_0 e) (io_in (p := 1) (N := 7) (by decide) (by decide)) (Eq.trans (congrArg (sA t 29 0) (nn_io (p := 1) (by decide))) (z_A_29_0_1 e)) ?_
  refine x_aload_n (pc' := 232) rfl rfl rfl rfl rfl ?_
  refine x_cs (ls0 := [_, _, _, sJk]) (rest := []) rfl rfl rfl rfl ?_
  refine x_aload_n (pc' := 1) rfl rfl rfl rfl rfl ?_
  refine x_iconst (pc' := 2) rfl rfl ?_
  refine x_aload_n (pc' := 3) rfl rfl rfl rfl rfl ?_
  refine x_iload_n (pc' := 4) rfl rfl rfl ?_
  refine x_cv (ls0 := [_, _, sJk, sJk]) (rest := [_, _]) rfl rfl rfl rfl rfl ?_
  refine x_aload_n (pc' := 1) rfl rfl rfl rfl rfl ?_
  refine x_iload_n (pc' := 2) rfl rfl rfl ?_
  refine x_cv (ls0 := [_, _]) (rest := []) rfl rfl rfl rfl rfl ?_
  refine x_iload_n (pc' := 1) rfl rfl rfl ?_
  refine x_if (a' := 16) (pc' := 4) (z := decide ((xs 1) < 0)) rfl rfl rfl rfl (fun _ => ?_) (fun h => absurd e0 (of_decide_eq_false h))
  refine x_throw rfl rfl ?_
  refine sK_n (by decide +kernel) rfl ?_
  refine sK_h (h := 12) (by decide +kernel) rfl ?_
  refine x_catch_n (pc' := 13) (ls' := [_, _, _, _]) rfl rfl rfl rfl ?_
  refine x_iconst (pc' := 14) rfl rfl ?_
  refine x_reti rfl rfl ?_
  refine sK_i (pc' := 235) rfl ?_
  refine x_istore (pc' := 237) (ls' := [_, _, _, _, _, _, _]) rfl rfl rfl rfl ?_
  refine x_aload_n (pc' := 238) rfl rfl rfl rfl rfl ?_
  refine x_aload_n (pc' := 239) rfl rfl rfl rfl rfl ?_
  refine x_iload (pc' := 241) rfl rfl rfl ?_
  refine x_iconst (pc' := 242) rfl rfl ?_
  refine x_iadd (pc' := 243) (z := 1) rfl rfl (by decide) ?_
  refine x_iald (pc' := 244) (N := 7) (x := (xs 1)) rfl rfl rfl (Eq.trans rdNthr (z_N_29_0 e)) (io_in (p := 1) (N := 7) (by decide) (by decide)) (Eq.trans (congrArg (sA (sThr t) 29 0) (nn_io (p := 1) (by decide))) (Eq.trans rdAthr (z_A_29_0_1 e))) ?_
  refine x_cv (ls0 := [_, _, sJk]) (rest := []) rfl rfl rfl rfl rfl ?_
  refine x_aload_n (pc' := 1) rfl rfl rfl rfl rfl ?_
  refine x_iload_n (pc' := 2) rfl rfl rfl ?_
  refine x_cs (ls0 := [_]) (rest := [_]) rfl rfl rfl rfl ?_
  refine x_iload_n (pc' := 1) rfl rfl rfl ?_
  refine x_iconst (pc' := 2) rfl rfl ?_
  refine x_iconst (pc' := 3) rfl rfl ?_
  refine x_cs (ls0 := [_, _, _]) (rest := []) rfl rfl rfl rfl ?_
  refine x_iload_n (pc' := 1) rfl rfl rfl ?_
  refine x_iload_n (pc' := 2) rfl rfl rfl ?_
  refine x_icmp (a' := 14) (pc' := 5) (z := decide ((xs 1) < 0)) rfl rfl rfl rfl (fun _ => ?_) (fun h => absurd e0 (of_decide_eq_false h))
  refine x_iconst (pc' := 15) rfl rfl ?_
  refine x_retz (z := false) rfl rfl ?_
  refine sK_i (pc' := 6) rfl ?_
  refine x_retz (z := false) rfl rfl ?_
  refine sK_i (pc' := 5) rfl ?_
  refine x_if (a' := 12) (pc' := 8) (z := false) rfl rfl rfl (by decide) (fun h => by cases h) (fun _ => ?_)
  refine x_iconst (pc' := 9) rfl rfl ?_
  refine x_goto (pc' := 27) rfl rfl ?_
  refine x_cv (ls0 := [_, _]) (rest := []) rfl rfl rfl rfl rfl ?_
  refine x_aload_n (pc' := 1) rfl rfl rfl rfl rfl ?_
  refine x_iload_n (pc' := 2) rfl rfl rfl ?_
  refine x_pI (pc' := 5) rfl rfl rfl ?_
  refine x_iload_n (pc' := 6) rfl rfl rfl ?_
  refine x_if (a' := 13) (pc' := 9) (z := true) rfl rfl rfl (by decide) (fun _ => ?_) (fun h => by cases h)
  refine x_iconst (pc' := 14) rfl rfl ?_
  refine x_retz (z := false) rfl rfl ?_
  refine sK_i (pc' := 30) rfl ?_
  refine x_if (a' := 35) (pc' := 33) (z := false) rfl rfl rfl (by decide) (fun h => by cases h) (fun _ => ?_)
  refine x_iconst (pc' := 34) rfl rfl ?_
  refine x_reti rfl rfl ?_
  refine sK_i (pc' := 247) rfl ?_
  refine x_istore (pc' := 249) (ls' := [_, _, _, _, _, _, _]) rfl rfl rfl rfl ?_
  refine x_aload_n (pc' := 250) rfl rfl rfl rfl rfl ?_
  refine x_cv (ls0 := [_]) (rest := []) rfl rfl rfl rfl rfl ?_
  refine x_aload_n (pc' := 1) rfl rfl rfl rfl rfl ?_
  refine x_gI (pc' := 4) (x := 1) rfl rfl rfl sI_s ?_
  refine x_reti rfl rfl ?_
  refine sK_i (pc' := 253) rfl ?_
  refine x_iload (pc' := 255) rfl rfl rfl ?_
  refine x_icmp (a' := 260) (pc' := 258) (z := true) rfl rfl rfl (by decide) (fun _ => ?_) (fun h => by cases h)
  refine x_iload (pc' := 262) rfl rfl rfl ?_
  refine x_if (a' := 277) (pc' := 265) (z := true) rfl rfl rfl (by decide) (fun _ => ?_) (fun h => by cases h)
  refine x_goto (pc' := 2938) rfl rfl ?_
  refine x_iinc (pc' := 2941) (y := 7) (ls' := [_, _, _, _, _, _, _]) rfl rfl rfl rfl rfl ?_
  refine x_goto (pc' := 23) rfl rfl ?_
  refine x_iload (pc' := 25) rfl rfl rfl ?_
  refine x_aload_n (pc' := 26) rfl rfl rfl rfl rfl ?_
  refine x_alen (pc' := 27) (N := 7) rfl rfl rfl (Eq.trans rdNI (Eq.trans rdNthr (z_N_29_0 e))) (?_ : X _ _ _ (.inl 7 :: _) _ _)
  refine x_bipush (pc' := 29) rfl rfl ?_
  refine x_isub (pc' := 30) (z := 0) rfl rfl (by decide) ?_
  refine x_icmp (a' := 2944) (pc' := 33) (z := true) rfl rfl rfl (by decide) (fun _ => ?_) (fun h => by cases h)
  refine x_iconst (pc' := 2945) rfl rfl ?_
  refine x_retz (z := true) rfl rfl ?_
  exact Qp_ok e (p := 1) (q := 6) rfl rfl rfl rfl
set_option maxHeartbeats 4000000 in
set_option maxRecDepth 10000 in
theorem v_0_B {t : sT} {xs : Nat → Int32}
    (e : t = T16 7 xs)
    (hk : ((xs 0) &&& 63) = 0)
    (e0 : ¬ (xs 1) < 0)
    (f0 : ¬ (xs 1) < 5) :
    X 297 23 [.inr (.inr (29, (some 0))), .inr (.inr (11, (some 0))), .inr (.inr (12, (some 0))), .inr (.inr (23, (some 0))), .inl 0, sJk, sJk] [] t Qp := by
  refine x_iload (pc' := 25) rfl rfl rfl ?_
  refine x_aload_n (pc' := 26) rfl rfl rfl rfl rfl ?_
  refine x_alen (pc' := 27) (N := 7) rfl rfl rfl (z_N_29_0 e) (?_ : X _ _ _ (.inl 7 :: _) _ _)
  refine x_bipush (pc' := 29) rfl rfl ?_
  refine x_isub (pc' := 30) (z := 0) rfl rfl (by decide) ?_
  refine x_icmp (a' := 2944) (pc' := 33) (z := false) rfl rfl rfl (by decide) (fun h => by cases h) (fun _ => ?_)
  refine x_aload_n (pc' := 34) rfl rfl rfl rfl rfl ?_
  refine x_iload (pc' := 36) rfl rfl rfl ?_
  refine x_iald (pc' := 37) (N := 7) (x := (xs 0)) rfl rfl rfl (z_N_29_0 e) (io_in (p := 0) (N := 7) (by decide) (by decide)) (Eq.trans (congrArg (sA t 29 0) (nn_io (p := 0) (by decide))) (z_A_29_0_0 e)) ?_
  refine x_bipush (pc' := 39) rfl rfl ?_
  refine x_iand (pc' := 40) (z := ((xs 0) &&& 63)) rfl rfl rfl ?_
  refine x_switch (pc' := 224) rfl (by rw [hk]; decide) ?_
  refine x_aload_n (pc' := 225) rfl rfl rfl rfl rfl ?_
  refine x_aload_n (pc' := 226) rfl rfl rfl rfl rfl ?_
  refine x_iload (pc' := 228) rfl rfl rfl ?_
  refine x_iconst (pc' := 229) rfl rfl ?_
  refine x_iadd (pc' := 230) (z := 1) rfl rfl (by decide) ?_
  refine x_iald (pc' := 231) (N := 7) (x := (xs 1)) rfl rfl rfl (z_N_29_0 e) (io_in (p := 1) (N := 7) (by decide) (by decide)) (Eq.trans (congrArg (sA t 29 0) (nn_io (p := 1) (by decide))) (z_A_29_0_1 e)) ?_
  refine x_aload_n (pc' := 232) rfl rfl rfl rfl rfl ?_
  refine x_cs (ls0 := [_, _, _, sJk]) (rest := []) rfl rfl rfl rfl ?_
  refine x_aload_n (pc' := 1) rfl rfl rfl rfl rfl ?_
  refine x_iconst (pc' := 2) rfl rfl ?_
  refine x_aload_n (pc' := 3) rfl rfl rfl rfl rfl ?_
  refine x_iload_n (pc' := 4) rfl rfl rfl ?_
  refine x_cv (ls0 := [_, _, sJk, sJk]) (rest := [_, _]) rfl rfl rfl rfl rfl ?_
  refine x_aload_n (pc' := 1) rfl rfl rfl rfl rfl ?_
  refine x_iload_n (pc' := 2) rfl rfl rfl ?_
  refine x_cv (ls0 := [_, _]) (rest := []) rfl rfl rfl rfl rfl ?_
  refine x_iload_n (pc' := 1) rfl rfl rfl ?_
  refine x_if (a' := 16) (pc' := 4) (z := decide ((xs 1) < 0)) rfl rfl rfl rfl (fun h => absurd (of_decide_eq_true h) e0) (fun _ => ?_)
  refine x_iload_n (pc' := 5) rfl rfl rfl ?_
  refine x_aload_n (pc' := 6) rfl rfl rfl rfl rfl ?_
  refine x_gR (pc' := 9) (r := (some 0)) rfl rfl rfl (z_R_705_0 e) ?_
  refine x_gR (pc' := 12) (r := (some 0)) rfl rfl rfl (z_R_256_0 e) ?_
  refine x_alen (pc' := 13) (N := 5) rfl rfl rfl (z_N_24_0 e) (?_ : X _ _ _ (.inl 5 :: _) _ _)
  refine x_icmp (a' := 27) (pc' := 16) (z := decide ((xs 1) < 5)) rfl rfl rfl rfl (fun h => absurd (of_decide_eq_true h) f0) (fun _ => ?_)
  refine x_throw rfl rfl ?_
  refine sK_n (by decide +kernel) rfl ?_
  refine sK_h (h := 12) (by decide +kernel) rfl ?_
  refine x_catch_n (pc' := 13) (ls' := [_, _, _, _]) rfl rfl rfl rfl ?_
  refine x_iconst (pc' := 14) rfl rfl ?_
  refine x_reti rfl rfl ?_
  refine sK_i (pc' := 235) rfl ?_
  refine x_istore (pc' := 237) (ls' := [_, _, _, _, _, _, _]) rfl rfl rfl rfl ?_
  refine x_aload_n (pc' := 238) rfl rfl rfl rfl rfl ?_
  refine x_aload_n (pc' := 239) rfl rfl rfl rfl rfl ?_
  refine x_iload (pc' := 241) rfl rfl rfl ?_
  refine x_iconst (pc' := 242) rfl rfl ?_
  refine x_iadd (pc' := 243) (z := 1) rfl rfl (by decide) ?_
  refine x_iald (pc' := 244) (N := 7) (x := (xs 1)) rfl rfl rfl (Eq.trans rdNthr (z_N_29_0 e)) (io_in (p := 1) (N := 7) (by decide) (by decide)) (Eq.trans (congrArg (sA (sThr t) 29 0) (nn_io (p := 1) (by decide))) (Eq.trans rdAthr (z_A_29_0_1 e))) ?_
  refine x_cv (ls0 := [_, _, sJk]) (rest := []) rfl rfl rfl rfl rfl ?_
  refine x_aload_n (pc' := 1) rfl rfl rfl rfl rfl ?_
  refine x_iload_n (pc' := 2) rfl rfl rfl ?_
  refine x_cs (ls0 := [_]) (rest := [_]) rfl rfl rfl rfl ?_
  refine x_iload_n (pc' := 1) rfl rfl rfl ?_
  refine x_iconst (pc' := 2) rfl rfl ?_
  refine x_iconst (pc' := 3) rfl rfl ?_
  refine x_cs (ls0 := [_, _, _]) (rest := []) rfl rfl rfl rfl ?_
  refine x_iload_n (pc' := 1) rfl rfl rfl ?_
  refine x_iload_n (pc' := 2) rfl rfl rfl ?_
  refine x_icmp (a' := 14) (pc' := 5) (z := decide ((xs 1) < 0)) rfl rfl rfl rfl (fun h => absurd (of_decide_eq_true h) e0) (fun _ => ?_)
  refine x_iload_n (pc' := 6) rfl rfl rfl ?_
  refine x_iload_n (pc' := 7) rfl rfl rfl ?_
  refine x_icmp (a' := 14) (pc' := 10) (z := decide (4 < (xs 1))) rfl rfl rfl rfl (fun _ => ?_) (fun h => absurd (lt_of5 f0) (of_decide_eq_false h))
  refine x_iconst (pc' := 15) rfl rfl ?_
  refine x_retz (z := false) rfl rfl ?_
  refine sK_i (pc' := 6) rfl ?_
  refine x_retz (z := false) rfl rfl ?_
  refine sK_i (pc' := 5) rfl ?_
  refine x_if (a' := 12) (pc' := 8) (z := false) rfl rfl rfl (by decide) (fun h => by cases h) (fun _ => ?_)
  refine x_iconst (pc' := 9) rfl rfl ?_
  refine x_goto (pc' := 27) rfl rfl ?_
  refine x_cv (ls0 := [_, _]) (rest := []) rfl rfl rfl rfl rfl ?_
  refine x_aload_n (pc' := 1) rfl rfl rfl rfl rfl ?_
  refine x_iload_n (pc' := 2) rfl rfl rfl ?_
  refine x_pI (pc' := 5) rfl rfl rfl ?_
  refine x_iload_n (pc' := 6) rfl rfl rfl ?_
  refine x_if (a' := 13) (pc' := 9) (z := true) rfl rfl rfl (by decide) (fun _ => ?_) (fun h => by cases h)
  refine x_iconst (pc' := 14) rfl rfl ?_
  refine x_retz (z := false) rfl rfl ?_
  refine sK_i (pc' := 30) rfl ?_
  refine x_if (a' := 35) (pc' := 33) (z := false) rfl rfl rfl (by decide) (fun h => by cases h) (fun _ => ?_)
  refine x_iconst (pc' := 34) rfl rfl ?_
  refine x_reti rfl rfl ?_
  refine sK_i (pc' := 247) rfl ?_
  refine x_istore (pc' := 249) (ls' := [_, _, _, _, _, _, _]) rfl rfl rfl rfl ?_
  refine x_aload_n (pc' := 250) rfl rfl rfl rfl rfl ?_
  refine x_cv (ls0 := [_]) (rest := []) rfl rfl rfl rfl rfl ?_
  refine x_aload_n (pc' := 1) rfl rfl rfl rfl rfl ?_
  refine x_gI (pc' := 4) (x := 1) rfl rfl rfl sI_s ?_
  refine x_reti rfl rfl ?_
  refine sK_i (pc' := 253) rfl ?_
  refine x_iload (pc' := 255) rfl rfl rfl ?_
  refine x_icmp (a' := 260) (pc' := 258) (z := true) rfl rfl rfl (by decide) (fun _ => ?_) (fun h => by cases h)
  refine x_iload (pc' := 262) rfl rfl rfl ?_
  refine x_if (a' := 277) (pc' := 265) (z := true) rfl rfl rfl (by decide) (fun _ => ?_) (fun h => by cases h)
  refine x_goto (pc' := 2938) rfl rfl ?_
  refine x_iinc (pc' := 2941) (y := 7) (ls' := [_, _, _, _, _, _, _]) rfl rfl rfl rfl rfl ?_
  refine x_goto (pc' := 23) rfl rfl ?_
  refine x_iload (pc' := 25) rfl rfl rfl ?_
  refine x_aload_n (pc' := 26) rfl rfl rfl rfl rfl ?_
  refine x_alen (pc' := 27) (N := 7) rfl rfl rfl (Eq.trans rdNI (Eq.trans rdNthr (z_N_29_0 e))) (?_ : X _ _ _ (.inl 7 :: _) _ _)
  refine x_bipush (pc' := 29) rfl rfl ?_
  refine x_isub (pc' := 30) (z := 0) rfl rfl (by decide) ?_
  refine x_icmp (a' := 2944) (pc' := 33) (z := true) rfl rfl rfl (by decide) (fun _ => ?_) (fun h => by cases h)
  refine x_iconst (pc' := 2945) rfl rfl ?_
  refine x_retz (z := true) rfl rfl ?_
  exact Qp_ok e (p := 1) (q := 6) rfl rfl rfl rfl
set_option maxHeartbeats 4000000 in
set_option maxRecDepth 10000 in
theorem v_1_0 {t : sT} {xs : Nat → Int32}
    (e : t = T16 7 xs)
    (hk : ((xs 0) &&& 63) = 1)
    (e0 : xs 1 = 0) :
    X 297 23 [.inr (.inr (29, (some 0))), .inr (.inr (11, (some 0))), .inr (.inr (12, (some 0))), .inr (.inr (23, (some 0))), .inl 0, sJk, sJk] [] t Qp := by
  refine x_iload (pc' := 25) rfl rfl rfl ?_
  refine x_aload_n (pc' := 26) rfl rfl rfl rfl rfl ?_
  refine x_alen (pc' := 27) (N := 7) rfl rfl rfl (z_N_29_0 e) (?_ : X _ _ _ (.inl 7 :: _) _ _)
  refine x_bipush (pc' := 29) rfl rfl ?_
  refine x_isub (pc' := 30) (z := 0) rfl rfl (by decide) ?_
  refine x_icmp (a' := 2944) (pc' := 33) (z := false) rfl rfl rfl (by decide) (fun h => by cases h) (fun _ => ?_)
  refine x_aload_n (pc' := 34) rfl rfl rfl rfl rfl ?_
  refine x_iload (pc' := 36) rfl rfl rfl ?_
  refine x_iald (pc' := 37) (N := 7) (x := (xs 0)) rfl rfl rfl (z_N_29_0 e) (io_in (p := 0) (N := 7) (by decide) (by decide)) (Eq.trans (congrArg (sA t 29 0) (nn_io (p := 0) (by decide))) (z_A_29_0_0 e)) ?_
  refine x_bipush (pc' := 39) rfl rfl ?_
  refine x_iand (pc' := 40) (z := ((xs 0) &&& 63)) rfl rfl rfl ?_
  refine x_switch (pc' := 280) rfl (by rw [hk]; decide) ?_
  refine x_aload_n (pc' := 281) rfl rfl rfl rfl rfl ?_
  refine x_aload_n (pc' := 282) rfl rfl rfl rfl rfl ?_
  refine x_iload (pc' := 284) rfl rfl rfl ?_
  refine x_iconst (pc' := 285) rfl rfl ?_
  refine x_iadd (pc' := 286) (z := 1) rfl rfl (by decide) ?_
  refine x_iald (pc' := 287) (N := 7) (x := 0) rfl rfl rfl (z_N_29_0 e) (io_in (p := 1) (N := 7) (by decide) (by decide)) (Eq.trans (congrArg (sA t 29 0) (nn_io (p := 1) (by decide))) (Eq.trans (z_A_29_0_1 e) e0)) ?_
  refine x_aload_n (pc' := 288) rfl rfl rfl rfl rfl ?_
  refine x_cs (ls0 := [_, _, _, sJk]) (rest := []) rfl rfl rfl rfl ?_
  refine x_aload_n (pc' := 1) rfl rfl rfl rfl rfl ?_
  refine x_iconst (pc' := 2) rfl rfl ?_
  refine x_aload_n (pc' := 3) rfl rfl rfl rfl rfl ?_
  refine x_iload_n (pc' := 4) rfl rfl rfl ?_
  refine x_cv (ls0 := [_, _, sJk, sJk]) (rest := [_, _]) rfl rfl rfl rfl rfl ?_
  refine x_aload_n (pc' := 1) rfl rfl rfl rfl rfl ?_
  refine x_iload_n (pc' := 2) rfl rfl rfl ?_
  refine x_cv (ls0 := [_, _]) (rest := []) rfl rfl rfl rfl rfl ?_
  refine x_iload_n (pc' := 1) rfl rfl rfl ?_
  refine x_if (a' := 16) (pc' := 4) (z := false) rfl rfl rfl (by decide) (fun h => by cases h) (fun _ => ?_)
  refine x_iload_n (pc' := 5) rfl rfl rfl ?_
  refine x_aload_n (pc' := 6) rfl rfl rfl rfl rfl ?_
  refine x_gR (pc' := 9) (r := (some 0)) rfl rfl rfl (z_R_705_0 e) ?_
  refine x_gR (pc' := 12) (r := (some 0)) rfl rfl rfl (z_R_256_0 e) ?_
  refine x_alen (pc' := 13) (N := 5) rfl rfl rfl (z_N_24_0 e) (?_ : X _ _ _ (.inl 5 :: _) _ _)
  refine x_icmp (a' := 27) (pc' := 16) (z := true) rfl rfl rfl (by decide) (fun _ => ?_) (fun h => by cases h)
  refine x_aload_n (pc' := 28) rfl rfl rfl rfl rfl ?_
  refine x_gR (pc' := 31) (r := (some 0)) rfl rfl rfl (z_R_705_0 e) ?_
  refine x_gR (pc' := 34) (r := (some 0)) rfl rfl rfl (z_R_256_0 e) ?_
  refine x_iload_n (pc' := 35) rfl rfl rfl ?_
  refine x_aald (pc' := 36) (N := 5) (k' := 1) (r := (some 0)) rfl rfl rfl (z_N_24_0 e) (io_in (p := 0) (N := 5) (by decide) (by decide)) (Eq.trans (congrArg (sE t 24 0) (nn_io (p := 0) (by decide))) (z_E_24_0_0 e)) ?_
  refine x_reta rfl rfl ?_
  refine sK_i (pc' := 5) rfl ?_
  refine x_astore_n (pc' := 6) (ls' := [_, _, _, _]) rfl rfl rfl rfl rfl ?_
  refine x_aload_n (pc' := 7) rfl rfl rfl rfl rfl ?_
  refine x_gI (pc' := 10) (x := 0) rfl rfl rfl (z_I_67_0 e) ?_
  refine x_if (a' := 17) (pc' := 13) (z := true) rfl rfl rfl (by decide) (fun _ => ?_) (fun h => by cases h)
  refine x_iconst (pc' := 18) rfl rfl ?_
  refine x_cs (ls0 := [_]) (rest := []) rfl rfl rfl rfl ?_
  refine x_iload_n (pc' := 1) rfl rfl rfl ?_
  refine x_if (a' := 15) (pc' := 4) (z := false) rfl rfl rfl (by decide) (fun h => by cases h) (fun _ => ?_)
  refine x_throw rfl rfl ?_
  refine sK_n (by decide +kernel) rfl ?_
  refine sK_h (h := 15) (by decide +kernel) rfl ?_
  refine x_catch_n (pc' := 16) (ls' := [_, _, _, _]) rfl rfl rfl rfl ?_
  refine x_iconst (pc' := 17) rfl rfl ?_
  refine x_reti rfl rfl ?_
  refine sK_i (pc' := 291) rfl ?_
  refine x_istore (pc' := 293) (ls' := [_, _, _, _, _, _, _]) rfl rfl rfl rfl ?_
  refine x_aload_n (pc' := 294) rfl rfl rfl rfl rfl ?_
  refine x_aload_n (pc' := 295) rfl rfl rfl rfl rfl ?_
  refine x_iload (pc' := 297) rfl rfl rfl ?_
  refine x_iconst (pc' := 298) rfl rfl ?_
  refine x_iadd (pc' := 299) (z := 1) rfl rfl (by decide) ?_
  refine x_iald (pc' := 300) (N := 7) (x := 0) rfl rfl rfl (Eq.trans rdNthr (z_N_29_0 e)) (io_in (p := 1) (N := 7) (by decide) (by decide)) (Eq.trans (congrArg (sA (sThr t) 29 0) (nn_io (p := 1) (by decide))) (Eq.trans rdAthr (Eq.trans (z_A_29_0_1 e) e0))) ?_
  refine x_cv (ls0 := [_, _, sJk]) (rest := []) rfl rfl rfl rfl rfl ?_
  refine x_aload_n (pc' := 1) rfl rfl rfl rfl rfl ?_
  refine x_iload_n (pc' := 2) rfl rfl rfl ?_
  refine x_cs (ls0 := [_]) (rest := [_]) rfl rfl rfl rfl ?_
  refine x_iload_n (pc' := 1) rfl rfl rfl ?_
  refine x_iconst (pc' := 2) rfl rfl ?_
  refine x_iconst (pc' := 3) rfl rfl ?_
  refine x_cs (ls0 := [_, _, _]) (rest := []) rfl rfl rfl rfl ?_
  refine x_iload_n (pc' := 1) rfl rfl rfl ?_
  refine x_iload_n (pc' := 2) rfl rfl rfl ?_
  refine x_icmp (a' := 14) (pc' := 5) (z := false) rfl rfl rfl (by decide) (fun h => by cases h) (fun _ => ?_)
  refine x_iload_n (pc' := 6) rfl rfl rfl ?_
  refine x_iload_n (pc' := 7) rfl rfl rfl ?_
  refine x_icmp (a' := 14) (pc' := 10) (z := false) rfl rfl rfl (by decide) (fun h => by cases h) (fun _ => ?_)
  refine x_iconst (pc' := 11) rfl rfl ?_
  refine x_goto (pc' := 15) rfl rfl ?_
  refine x_retz (z := true) rfl rfl ?_
  refine sK_i (pc' := 6) rfl ?_
  refine x_retz (z := true) rfl rfl ?_
  refine sK_i (pc' := 5) rfl ?_
  refine x_if (a' := 12) (pc' := 8) (z := true) rfl rfl rfl (by decide) (fun _ => ?_) (fun h => by cases h)
  refine x_aload_n (pc' := 13) rfl rfl rfl rfl rfl ?_
  refine x_gR (pc' := 16) (r := (some 0)) rfl rfl rfl (Eq.trans rdRthr (z_R_769_0 e)) ?_
  refine x_iload_n (pc' := 17) rfl rfl rfl ?_
  refine x_iald (pc' := 18) (N := 5) (x := 0) rfl rfl rfl (Eq.trans rdNthr (z_N_21_0 e)) (io_in (p := 0) (N := 5) (by decide) (by decide)) (Eq.trans (congrArg (sA (sThr t) 21 0) (nn_io (p := 0) (by decide))) (Eq.trans rdAthr (z_A_21_0_0 e))) ?_
  refine x_if (a' := 25) (pc' := 21) (z := false) rfl rfl rfl (by decide) (fun h => by cases h) (fun _ => ?_)
  refine x_iconst (pc' := 22) rfl rfl ?_
  refine x_goto (pc' := 26) rfl rfl ?_
  refine x_cv (ls0 := [_, _]) (rest := []) rfl rfl rfl rfl rfl ?_
  refine x_aload_n (pc' := 1) rfl rfl rfl rfl rfl ?_
  refine x_iload_n (pc' := 2) rfl rfl rfl ?_
  refine x_pI (pc' := 5) rfl rfl rfl ?_
  refine x_iload_n (pc' := 6) rfl rfl rfl ?_
  refine x_if (a' := 13) (pc' := 9) (z := true) rfl rfl rfl (by decide) (fun _ => ?_) (fun h => by cases h)
  refine x_iconst (pc' := 14) rfl rfl ?_
  refine x_retz (z := false) rfl rfl ?_
  refine sK_i (pc' := 29) rfl ?_
  refine x_if (a' := 34) (pc' := 32) (z := false) rfl rfl rfl (by decide) (fun h => by cases h) (fun _ => ?_)
  refine x_iconst (pc' := 33) rfl rfl ?_
  refine x_reti rfl rfl ?_
  refine sK_i (pc' := 303) rfl ?_
  refine x_istore (pc' := 305) (ls' := [_, _, _, _, _, _, _]) rfl rfl rfl rfl ?_
  refine x_aload_n (pc' := 306) rfl rfl rfl rfl rfl ?_
  refine x_cv (ls0 := [_]) (rest := []) rfl rfl rfl rfl rfl ?_
  refine x_aload_n (pc' := 1) rfl rfl rfl rfl rfl ?_
  refine x_gI (pc' := 4) (x := 2) rfl rfl rfl sI_s ?_
  refine x_reti rfl rfl ?_
  refine sK_i (pc' := 309) rfl ?_
  refine x_iload (pc' := 311) rfl rfl rfl ?_
  refine x_icmp (a' := 316) (pc' := 314) (z := true) rfl rfl rfl (by decide) (fun _ => ?_) (fun h => by cases h)
  refine x_iload (pc' := 318) rfl rfl rfl ?_
  refine x_if (a' := 333) (pc' := 321) (z := true) rfl rfl rfl (by decide) (fun _ => ?_) (fun h => by cases h)
  refine x_goto (pc' := 2938) rfl rfl ?_
  refine x_iinc (pc' := 2941) (y := 7) (ls' := [_, _, _, _, _, _, _]) rfl rfl rfl rfl rfl ?_
  refine x_goto (pc' := 23) rfl rfl ?_
  refine x_iload (pc' := 25) rfl rfl rfl ?_
  refine x_aload_n (pc' := 26) rfl rfl rfl rfl rfl ?_
  refine x_alen (pc' := 27) (N := 7) rfl rfl rfl (Eq.trans rdNI (Eq.trans rdNthr (z_N_29_0 e))) (?_ : X _ _ _ (.inl 7 :: _) _ _)
  refine x_bipush (pc' := 29) rfl rfl ?_
  refine x_isub (pc' := 30) (z := 0) rfl rfl (by decide) ?_
  refine x_icmp (a' := 2944) (pc' := 33) (z := true) rfl rfl rfl (by decide) (fun _ => ?_) (fun h => by cases h)
  refine x_iconst (pc' := 2945) rfl rfl ?_
  refine x_retz (z := true) rfl rfl ?_
  exact Qp_ok e (p := 1) (q := 6) rfl rfl rfl rfl
set_option maxHeartbeats 4000000 in
set_option maxRecDepth 10000 in
theorem v_1_1 {t : sT} {xs : Nat → Int32}
    (e : t = T16 7 xs)
    (hk : ((xs 0) &&& 63) = 1)
    (e0 : xs 1 = 1) :
    X 297 23 [.inr (.inr (29, (some 0))), .inr (.inr (11, (some 0))), .inr (.inr (12, (some 0))), .inr (.inr (23, (some 0))), .inl 0, sJk, sJk] [] t Qp := by
  refine x_iload (pc' := 25) rfl rfl rfl ?_
  refine x_aload_n (pc' := 26) rfl rfl rfl rfl rfl ?_
  refine x_alen (pc' := 27) (N := 7) rfl rfl rfl (z_N_29_0 e) (?_ : X _ _ _ (.inl 7 :: _) _ _)
  refine x_bipush (pc' := 29) rfl rfl ?_
  refine x_isub (pc' := 30) (z := 0) rfl rfl (by decide) ?_
  refine x_icmp (a' := 2944) (pc' := 33) (z := false) rfl rfl rfl (by decide) (fun h => by cases h) (fun _ => ?_)
  refine x_aload_n (pc' := 34) rfl rfl rfl rfl rfl ?_
  refine x_iload (pc' := 36) rfl rfl rfl ?_
  refine x_iald (pc' := 37) (N := 7) (x := (xs 0)) rfl rfl rfl (z_N_29_0 e) (io_in (p := 0) (N := 7) (by decide) (by decide)) (Eq.trans (congrArg (sA t 29 0) (nn_io (p := 0) (by decide))) (z_A_29_0_0 e)) ?_
  refine x_bipush (pc' := 39) rfl rfl ?_
  refine x_iand (pc' := 40) (z := ((xs 0) &&& 63)) rfl rfl rfl ?_
  refine x_switch (pc' := 280) rfl (by rw [hk]; decide) ?_
  refine x_aload_n (pc' := 281) rfl rfl rfl rfl rfl ?_
  refine x_aload_n (pc' := 282) rfl rfl rfl rfl rfl ?_
  refine x_iload (pc' := 284) rfl rfl rfl ?_
  refine x_iconst (pc' := 285) rfl rfl ?_
  refine x_iadd (pc' := 286) (z := 1) rfl rfl (by decide) ?_
  refine x_iald (pc' := 287) (N := 7) (x := 1) rfl rfl rfl (z_N_29_0 e) (io_in (p := 1) (N := 7) (by decide) (by decide)) (Eq.trans (congrArg (sA t 29 0) (nn_io (p := 1) (by decide))) (Eq.trans (z_A_29_0_1 e) e0)) ?_
  refine x_aload_n (pc' := 288) rfl rfl rfl rfl rfl ?_
  refine x_cs (ls0 := [_, _, _, sJk]) (rest := []) rfl rfl rfl rfl ?_
  refine x_aload_n (pc' := 1) rfl rfl rfl rfl rfl ?_
  refine x_iconst (pc' := 2) rfl rfl ?_
  refine x_aload_n (pc' := 3) rfl rfl rfl rfl rfl ?_
  refine x_iload_n (pc' := 4) rfl rfl rfl ?_
  refine x_cv (ls0 := [_, _, sJk, sJk]) (rest := [_, _]) rfl rfl rfl rfl rfl ?_
  refine x_aload_n (pc' := 1) rfl rfl rfl rfl rfl ?_
  refine x_iload_n (pc' := 2) rfl rfl rfl ?_
  refine x_cv (ls0 := [_, _]) (rest := []) rfl rfl rfl rfl rfl ?_
  refine x_iload_n (pc' := 1) rfl rfl rfl ?_
  refine x_if (a' := 16) (pc' := 4) (z := false) rfl rfl rfl (by decide) (fun h => by cases h) (fun _ => ?_)
  refine x_iload_n (pc' := 5) rfl rfl rfl ?_
  refine x_aload_n (pc' := 6) rfl rfl rfl rfl rfl ?_
  refine x_gR (pc' := 9) (r := (some 0)) rfl rfl rfl (z_R_705_0 e) ?_
  refine x_gR (pc' := 12) (r := (some 0)) rfl rfl rfl (z_R_256_0 e) ?_
  refine x_alen (pc' := 13) (N := 5) rfl rfl rfl (z_N_24_0 e) (?_ : X _ _ _ (.inl 5 :: _) _ _)
  refine x_icmp (a' := 27) (pc' := 16) (z := true) rfl rfl rfl (by decide) (fun _ => ?_) (fun h => by cases h)
  refine x_aload_n (pc' := 28) rfl rfl rfl rfl rfl ?_
  refine x_gR (pc' := 31) (r := (some 0)) rfl rfl rfl (z_R_705_0 e) ?_
  refine x_gR (pc' := 34) (r := (some 0)) rfl rfl rfl (z_R_256_0 e) ?_
  refine x_iload_n (pc' := 35) rfl rfl rfl ?_
  refine x_aald (pc' := 36) (N := 5) (k' := 1) (r := (some 1)) rfl rfl rfl (z_N_24_0 e) (io_in (p := 1) (N := 5) (by decide) (by decide)) (Eq.trans (congrArg (sE t 24 0) (nn_io (p := 1) (by decide))) (z_E_24_0_1 e)) ?_
  refine x_reta rfl rfl ?_
  refine sK_i (pc' := 5) rfl ?_
  refine x_astore_n (pc' := 6) (ls' := [_, _, _, _]) rfl rfl rfl rfl rfl ?_
  refine x_aload_n (pc' := 7) rfl rfl rfl rfl rfl ?_
  refine x_gI (pc' := 10) (x := 0) rfl rfl rfl (z_I_67_1 e) ?_
  refine x_if (a' := 17) (pc' := 13) (z := true) rfl rfl rfl (by decide) (fun _ => ?_) (fun h => by cases h)
  refine x_iconst (pc' := 18) rfl rfl ?_
  refine x_cs (ls0 := [_]) (rest := []) rfl rfl rfl rfl ?_
  refine x_iload_n (pc' := 1) rfl rfl rfl ?_
  refine x_if (a' := 15) (pc' := 4) (z := false) rfl rfl rfl (by decide) (fun h => by cases h) (fun _ => ?_)
  refine x_throw rfl rfl ?_
  refine sK_n (by decide +kernel) rfl ?_
  refine sK_h (h := 15) (by decide +kernel) rfl ?_
  refine x_catch_n (pc' := 16) (ls' := [_, _, _, _]) rfl rfl rfl rfl ?_
  refine x_iconst (pc' := 17) rfl rfl ?_
  refine x_reti rfl rfl ?_
  refine sK_i (pc' := 291) rfl ?_
  refine x_istore (pc' := 293) (ls' := [_, _, _, _, _, _, _]) rfl rfl rfl rfl ?_
  refine x_aload_n (pc' := 294) rfl rfl rfl rfl rfl ?_
  refine x_aload_n (pc' := 295) rfl rfl rfl rfl rfl ?_
  refine x_iload (pc' := 297) rfl rfl rfl ?_
  refine x_iconst (pc' := 298) rfl rfl ?_
  refine x_iadd (pc' := 299) (z := 1) rfl rfl (by decide) ?_
  refine x_iald (pc' := 300) (N := 7) (x := 1) rfl rfl rfl (Eq.trans rdNthr (z_N_29_0 e)) (io_in (p := 1) (N := 7) (by decide) (by decide)) (Eq.trans (congrArg (sA (sThr t) 29 0) (nn_io (p := 1) (by decide))) (Eq.trans rdAthr (Eq.trans (z_A_29_0_1 e) e0))) ?_
  refine x_cv (ls0 := [_, _, sJk]) (rest := []) rfl rfl rfl rfl rfl ?_
  refine x_aload_n (pc' := 1) rfl rfl rfl rfl rfl ?_
  refine x_iload_n (pc' := 2) rfl rfl rfl ?_
  refine x_cs (ls0 := [_]) (rest := [_]) rfl rfl rfl rfl ?_
  refine x_iload_n (pc' := 1) rfl rfl rfl ?_
  refine x_iconst (pc' := 2) rfl rfl ?_
  refine x_iconst (pc' := 3) rfl rfl ?_
  refine x_cs (ls0 := [_, _, _]) (rest := []) rfl rfl rfl rfl ?_
  refine x_iload_n (pc' := 1) rfl rfl rfl ?_
  refine x_iload_n (pc' := 2) rfl rfl rfl ?_
  refine x_icmp (a' := 14) (pc' := 5) (z := false) rfl rfl rfl (by decide) (fun h => by cases h) (fun _ => ?_)
  refine x_iload_n (pc' := 6) rfl rfl rfl ?_
  refine x_iload_n (pc' := 7) rfl rfl rfl ?_
  refine x_icmp (a' := 14) (pc' := 10) (z := false) rfl rfl rfl (by decide) (fun h => by cases h) (fun _ => ?_)
  refine x_iconst (pc' := 11) rfl rfl ?_
  refine x_goto (pc' := 15) rfl rfl ?_
  refine x_retz (z := true) rfl rfl ?_
  refine sK_i (pc' := 6) rfl ?_
  refine x_retz (z := true) rfl rfl ?_
  refine sK_i (pc' := 5) rfl ?_
  refine x_if (a' := 12) (pc' := 8) (z := true) rfl rfl rfl (by decide) (fun _ => ?_) (fun h => by cases h)
  refine x_aload_n (pc' := 13) rfl rfl rfl rfl rfl ?_
  refine x_gR (pc' := 16) (r := (some 0)) rfl rfl rfl (Eq.trans rdRthr (z_R_769_0 e)) ?_
  refine x_iload_n (pc' := 17) rfl rfl rfl ?_
  refine x_iald (pc' := 18) (N := 5) (x := 0) rfl rfl rfl (Eq.trans rdNthr (z_N_21_0 e)) (io_in (p := 1) (N := 5) (by decide) (by decide)) (Eq.trans (congrArg (sA (sThr t) 21 0) (nn_io (p := 1) (by decide))) (Eq.trans rdAthr (z_A_21_0_1 e))) ?_
  refine x_if (a' := 25) (pc' := 21) (z := false) rfl rfl rfl (by decide) (fun h => by cases h) (fun _ => ?_)
  refine x_iconst (pc' := 22) rfl rfl ?_
  refine x_goto (pc' := 26) rfl rfl ?_
  refine x_cv (ls0 := [_, _]) (rest := []) rfl rfl rfl rfl rfl ?_
  refine x_aload_n (pc' := 1) rfl rfl rfl rfl rfl ?_
  refine x_iload_n (pc' := 2) rfl rfl rfl ?_
  refine x_pI (pc' := 5) rfl rfl rfl ?_
  refine x_iload_n (pc' := 6) rfl rfl rfl ?_
  refine x_if (a' := 13) (pc' := 9) (z := true) rfl rfl rfl (by decide) (fun _ => ?_) (fun h => by cases h)
  refine x_iconst (pc' := 14) rfl rfl ?_
  refine x_retz (z := false) rfl rfl ?_
  refine sK_i (pc' := 29) rfl ?_
  refine x_if (a' := 34) (pc' := 32) (z := false) rfl rfl rfl (by decide) (fun h => by cases h) (fun _ => ?_)
  refine x_iconst (pc' := 33) rfl rfl ?_
  refine x_reti rfl rfl ?_
  refine sK_i (pc' := 303) rfl ?_
  refine x_istore (pc' := 305) (ls' := [_, _, _, _, _, _, _]) rfl rfl rfl rfl ?_
  refine x_aload_n (pc' := 306) rfl rfl rfl rfl rfl ?_
  refine x_cv (ls0 := [_]) (rest := []) rfl rfl rfl rfl rfl ?_
  refine x_aload_n (pc' := 1) rfl rfl rfl rfl rfl ?_
  refine x_gI (pc' := 4) (x := 2) rfl rfl rfl sI_s ?_
  refine x_reti rfl rfl ?_
  refine sK_i (pc' := 309) rfl ?_
  refine x_iload (pc' := 311) rfl rfl rfl ?_
  refine x_icmp (a' := 316) (pc' := 314) (z := true) rfl rfl rfl (by decide) (fun _ => ?_) (fun h => by cases h)
  refine x_iload (pc' := 318) rfl rfl rfl ?_
  refine x_if (a' := 333) (pc' := 321) (z := true) rfl rfl rfl (by decide) (fun _ => ?_) (fun h => by cases h)
  refine x_goto (pc' := 2938) rfl rfl ?_
  refine x_iinc (pc' := 2941) (y := 7) (ls' := [_, _, _, _, _, _, _]) rfl rfl rfl rfl rfl ?_
  refine x_goto (pc' := 23) rfl rfl ?_
  refine x_iload (pc' := 25) rfl rfl rfl ?_
  refine x_aload_n (pc' := 26) rfl rfl rfl rfl rfl ?_
  refine x_alen (pc' := 27) (N := 7) rfl rfl rfl (Eq.trans rdNI (Eq.trans rdNthr (z_N_29_0 e))) (?_ : X _ _ _ (.inl 7 :: _) _ _)
  refine x_bipush (pc' := 29) rfl rfl ?_
  refine x_isub (pc' := 30) (z := 0) rfl rfl (by decide) ?_
  refine x_icmp (a' := 2944) (pc' := 33) (z := true) rfl rfl rfl (by decide) (fun _ => ?_) (fun h => by cases h)
  refine x_iconst (pc' := 2945) rfl rfl ?_
  refine x_retz (z := true) rfl rfl ?_
  exact Qp_ok e (p := 1) (q := 6) rfl rfl rfl rfl
set_option maxHeartbeats 4000000 in
set_option maxRecDepth 10000 in
theorem v_1_2 {t : sT} {xs : Nat → Int32}
    (e : t = T16 7 xs)
    (hk : ((xs 0) &&& 63) = 1)
    (e0 : xs 1 = 2) :
    X 297 23 [.inr (.inr (29, (some 0))), .inr (.inr (11, (some 0))), .inr (.inr (12, (some 0))), .inr (.inr (23, (some 0))), .inl 0, sJk, sJk] [] t Qp := by
  refine x_iload (pc' := 25) rfl rfl rfl ?_
  refine x_aload_n (pc' := 26) rfl rfl rfl rfl rfl ?_
  refine x_alen (pc' := 27) (N := 7) rfl rfl rfl (z_N_29_0 e) (?_ : X _ _ _ (.inl 7 :: _) _ _)
  refine x_bipush (pc' := 29) rfl rfl ?_
  refine x_isub (pc' := 30) (z := 0) rfl rfl (by decide) ?_
  refine x_icmp (a' := 2944) (pc' := 33) (z := false) rfl rfl rfl (by decide) (fun h => by cases h) (fun _ => ?_)
  refine x_aload_n (pc' := 34) rfl rfl rfl rfl rfl ?_
  refine x_iload (pc' := 36) rfl rfl rfl ?_
  refine x_iald (pc' := 37) (N := 7) (x := (xs 0)) rfl rfl rfl (z_N_29_0 e) (io_in (p := 0) (N := 7) (by decide) (by decide)) (Eq.trans (congrArg (sA t 29 0) (nn_io (p := 0) (by decide))) (z_A_29_0_0 e)) ?_
  refine x_bipush (pc' := 39) rfl rfl ?_
  refine x_iand (pc' := 40) (z := ((xs 0) &&& 63)) rfl rfl rfl ?_
  refine x_switch (pc' := 280) rfl (by rw [hk]; decide) ?_
  refine x_aload_n (pc' := 281) rfl rfl rfl rfl rfl ?_
  refine x_aload_n (pc' := 282) rfl rfl rfl rfl rfl ?_
  refine x_iload (pc' := 284) rfl rfl rfl ?_
  refine x_iconst (pc' := 285) rfl rfl ?_
  refine x_iadd (pc' := 286) (z := 1) rfl rfl (by decide) ?_
  refine x_iald (pc' := 287) (N := 7) (x := 2) rfl rfl rfl (z_N_29_0 e) (io_in (p := 1) (N := 7) (by decide) (by decide)) (Eq.trans (congrArg (sA t 29 0) (nn_io (p := 1) (by decide))) (Eq.trans (z_A_29_0_1 e) e0)) ?_
  refine x_aload_n (pc' := 288) rfl rfl rfl rfl rfl ?_
  refine x_cs (ls0 := [_, _, _, sJk]) (rest := []) rfl rfl rfl rfl ?_
  refine x_aload_n (pc' := 1) rfl rfl rfl rfl rfl ?_
  refine x_iconst (pc' := 2) rfl rfl ?_
  refine x_aload_n (pc' := 3) rfl rfl rfl rfl rfl ?_
  refine x_iload_n (pc' := 4) rfl rfl rfl ?_
  refine x_cv (ls0 := [_, _, sJk, sJk]) (rest := [_, _]) rfl rfl rfl rfl rfl ?_
  refine x_aload_n (pc' := 1) rfl rfl rfl rfl rfl ?_
  refine x_iload_n (pc' := 2) rfl rfl rfl ?_
  refine x_cv (ls0 := [_, _]) (rest := []) rfl rfl rfl rfl rfl ?_
  refine x_iload_n (pc' := 1) rfl rfl rfl ?_
  refine x_if (a' := 16) (pc' := 4) (z := false) rfl rfl rfl (by decide) (fun h => by cases h) (fun _ => ?_)
  refine x_iload_n (pc' := 5) rfl rfl rfl ?_
  refine x_aload_n (pc' := 6) rfl rfl rfl rfl rfl ?_
  refine x_gR (pc' := 9) (r := (some 0)) rfl rfl rfl (z_R_705_0 e) ?_
  refine x_gR (pc' := 12) (r := (some 0)) rfl rfl rfl (z_R_256_0 e) ?_
  refine x_alen (pc' := 13) (N := 5) rfl rfl rfl (z_N_24_0 e) (?_ : X _ _ _ (.inl 5 :: _) _ _)
  refine x_icmp (a' := 27) (pc' := 16) (z := true) rfl rfl rfl (by decide) (fun _ => ?_) (fun h => by cases h)
  refine x_aload_n (pc' := 28) rfl rfl rfl rfl rfl ?_
  refine x_gR (pc' := 31) (r := (some 0)) rfl rfl rfl (z_R_705_0 e) ?_
  refine x_gR (pc' := 34) (r := (some 0)) rfl rfl rfl (z_R_256_0 e) ?_
  refine x_iload_n (pc' := 35) rfl rfl rfl ?_
  refine x_aald (pc' := 36) (N := 5) (k' := 1) (r := (some 2)) rfl rfl rfl (z_N_24_0 e) (io_in (p := 2) (N := 5) (by decide) (by decide)) (Eq.trans (congrArg (sE t 24 0) (nn_io (p := 2) (by decide))) (z_E_24_0_2 e)) ?_
  refine x_reta rfl rfl ?_
  refine sK_i (pc' := 5) rfl ?_
  refine x_astore_n (pc' := 6) (ls' := [_, _, _, _]) rfl rfl rfl rfl rfl ?_
  refine x_aload_n (pc' := 7) rfl rfl rfl rfl rfl ?_
  refine x_gI (pc' := 10) (x := 0) rfl rfl rfl (z_I_67_2 e) ?_
  refine x_if (a' := 17) (pc' := 13) (z := true) rfl rfl rfl (by decide) (fun _ => ?_) (fun h => by cases h)
  refine x_iconst (pc' := 18) rfl rfl ?_
  refine x_cs (ls0 := [_]) (rest := []) rfl rfl rfl rfl ?_
  refine x_iload_n (pc' := 1) rfl rfl rfl ?_
  refine x_if (a' := 15) (pc' := 4) (z := false) rfl rfl rfl (by decide) (fun h => by cases h) (fun _ => ?_)
  refine x_throw rfl rfl ?_
  refine sK_n (by decide +kernel) rfl ?_
  refine sK_h (h := 15) (by decide +kernel) rfl ?_
  refine x_catch_n (pc' := 16) (ls' := [_, _, _, _]) rfl rfl rfl rfl ?_
  refine x_iconst (pc' := 17) rfl rfl ?_
  refine x_reti rfl rfl ?_
  refine sK_i (pc' := 291) rfl ?_
  refine x_istore (pc' := 293) (ls' := [_, _, _, _, _, _, _]) rfl rfl rfl rfl ?_
  refine x_aload_n (pc' := 294) rfl rfl rfl rfl rfl ?_
  refine x_aload_n (pc' := 295) rfl rfl rfl rfl rfl ?_
  refine x_iload (pc' := 297) rfl rfl rfl ?_
  refine x_iconst (pc' := 298) rfl rfl ?_
  refine x_iadd (pc' := 299) (z := 1) rfl rfl (by decide) ?_
  refine x_iald (pc' := 300) (N := 7) (x := 2) rfl rfl rfl (Eq.trans rdNthr (z_N_29_0 e)) (io_in (p := 1) (N := 7) (by decide) (by decide)) (Eq.trans (congrArg (sA (sThr t) 29 0) (nn_io (p := 1) (by decide))) (Eq.trans rdAthr (Eq.trans (z_A_29_0_1 e) e0))) ?_
  refine x_cv (ls0 := [_, _, sJk]) (rest := []) rfl rfl rfl rfl rfl ?_
  refine x_aload_n (pc' := 1) rfl rfl rfl rfl rfl ?_
  refine x_iload_n (pc' := 2) rfl rfl rfl ?_
  refine x_cs (ls0 := [_]) (rest := [_]) rfl rfl rfl rfl ?_
  refine x_iload_n (pc' := 1) rfl rfl rfl ?_
  refine x_iconst (pc' := 2) rfl rfl ?_
  refine x_iconst (pc' := 3) rfl rfl ?_
  refine x_cs (ls0 := [_, _, _]) (rest := []) rfl rfl rfl rfl ?_
  refine x_iload_n (pc' := 1) rfl rfl rfl ?_
  refine x_iload_n (pc' := 2) rfl rfl rfl ?_
  refine x_icmp (a' := 14) (pc' := 5) (z := false) rfl rfl rfl (by decide) (fun h => by cases h) (fun _ => ?_)
  refine x_iload_n (pc' := 6) rfl rfl rfl ?_
  refine x_iload_n (pc' := 7) rfl rfl rfl ?_
  refine x_icmp (a' := 14) (pc' := 10) (z := false) rfl rfl rfl (by decide) (fun h => by cases h) (fun _ => ?_)
  refine x_iconst (pc' := 11) rfl rfl ?_
  refine x_goto (pc' := 15) rfl rfl ?_
  refine x_retz (z := true) rfl rfl ?_
  refine sK_i (pc' := 6) rfl ?_
  refine x_retz (z := true) rfl rfl ?_
  refine sK_i (pc' := 5) rfl ?_
  refine x_if (a' := 12) (pc' := 8) (z := true) rfl rfl rfl (by decide) (fun _ => ?_) (fun h => by cases h)
  refine x_aload_n (pc' := 13) rfl rfl rfl rfl rfl ?_
  refine x_gR (pc' := 16) (r := (some 0)) rfl rfl rfl (Eq.trans rdRthr (z_R_769_0 e)) ?_
  refine x_iload_n (pc' := 17) rfl rfl rfl ?_
  refine x_iald (pc' := 18) (N := 5) (x := 0) rfl rfl rfl (Eq.trans rdNthr (z_N_21_0 e)) (io_in (p := 2) (N := 5) (by decide) (by decide)) (Eq.trans (congrArg (sA (sThr t) 21 0) (nn_io (p := 2) (by decide))) (Eq.trans rdAthr (z_A_21_0_2 e))) ?_
  refine x_if (a' := 25) (pc' := 21) (z := false) rfl rfl rfl (by decide) (fun h => by cases h) (fun _ => ?_)
  refine x_iconst (pc' := 22) rfl rfl ?_
  refine x_goto (pc' := 26) rfl rfl ?_
  refine x_cv (ls0 := [_, _]) (rest := []) rfl rfl rfl rfl rfl ?_
  refine x_aload_n (pc' := 1) rfl rfl rfl rfl rfl ?_
  refine x_iload_n (pc' := 2) rfl rfl rfl ?_
  refine x_pI (pc' := 5) rfl rfl rfl ?_
  refine x_iload_n (pc' := 6) rfl rfl rfl ?_
  refine x_if (a' := 13) (pc' := 9) (z := true) rfl rfl rfl (by decide) (fun _ => ?_) (fun h => by cases h)
  refine x_iconst (pc' := 14) rfl rfl ?_
  refine x_retz (z := false) rfl rfl ?_
  refine sK_i (pc' := 29) rfl ?_
  refine x_if (a' := 34) (pc' := 32) (z := false) rfl rfl rfl (by decide) (fun h => by cases h) (fun _ => ?_)
  refine x_iconst (pc' := 33) rfl rfl ?_
  refine x_reti rfl rfl ?_
  refine sK_i (pc' := 303) rfl ?_
  refine x_istore (pc' := 305) (ls' := [_, _, _, _, _, _, _]) rfl rfl rfl rfl ?_
  refine x_aload_n (pc' := 306) rfl rfl rfl rfl rfl ?_
  refine x_cv (ls0 := [_]) (rest := []) rfl rfl rfl rfl rfl ?_
  refine x_aload_n (pc' := 1) rfl rfl rfl rfl rfl ?_
  refine x_gI (pc' := 4) (x := 2) rfl rfl rfl sI_s ?_
  refine x_reti rfl rfl ?_
  refine sK_i (pc' := 309) rfl ?_
  refine x_iload (pc' := 311) rfl rfl rfl ?_
  refine x_icmp (a' := 316) (pc' := 314) (z := true) rfl rfl rfl (by decide) (fun _ => ?_) (fun h => by cases h)
  refine x_iload (pc' := 318) rfl rfl rfl ?_
  refine x_if (a' := 333) (pc' := 321) (z := true) rfl rfl rfl (by decide) (fun _ => ?_) (fun h => by cases h)
  refine x_goto (pc' := 2938) rfl rfl ?_
  refine x_iinc (pc' := 2941) (y := 7) (ls' := [_, _, _, _, _, _, _]) rfl rfl rfl rfl rfl ?_
  refine x_goto (pc' := 23) rfl rfl ?_
  refine x_iload (pc' := 25) rfl rfl rfl ?_
  refine x_aload_n (pc' := 26) rfl rfl rfl rfl rfl ?_
  refine x_alen (pc' := 27) (N := 7) rfl rfl rfl (Eq.trans rdNI (Eq.trans rdNthr (z_N_29_0 e))) (?_ : X _ _ _ (.inl 7 :: _) _ _)
  refine x_bipush (pc' := 29) rfl rfl ?_
  refine x_isub (pc' := 30) (z := 0) rfl rfl (by decide) ?_
  refine x_icmp (a' := 2944) (pc' := 33) (z := true) rfl rfl rfl (by decide) (fun _ => ?_) (fun h => by cases h)
  refine x_iconst (pc' := 2945) rfl rfl ?_
  refine x_retz (z := true) rfl rfl ?_
  exact Qp_ok e (p := 1) (q := 6) rfl rfl rfl rfl
set_option maxHeartbeats 4000000 in
set_option maxRecDepth 10000 in
theorem v_1_3 {t : sT} {xs : Nat → Int32}
    (e : t = T16 7 xs)
    (hk : ((xs 0) &&& 63) = 1)
    (e0 : xs 1 = 3) :
    X 297 23 [.inr (.inr (29, (some 0))), .inr (.inr (11, (some 0))), .inr (.inr (12, (some 0))), .inr (.inr (23, (some 0))), .inl 0, sJk, sJk] [] t Qp := by
  refine x_iload (pc' := 25) rfl rfl rfl ?_
  refine x_aload_n (pc' := 26) rfl rfl rfl rfl rfl ?_
  refine x_alen (pc' := 27) (N := 7) rfl rfl rfl (z_N_29_0 e) (?_ : X _ _ _ (.inl 7 :: _) _ _)
  refine x_bipush (pc' := 29) rfl rfl ?_
  refine x_isub (pc' := 30) (z := 0) rfl rfl (by decide) ?_
  refine x_icmp (a' := 2944) (pc' := 33) (z := false) rfl rfl rfl (by decide) (fun h => by cases h) (fun _ => ?_)
  refine x_aload_n (pc' := 34) rfl rfl rfl rfl rfl ?_
  refine x_iload (pc' := 36) rfl rfl rfl ?_
  refine x_iald (pc' := 37) (N := 7) (x := (xs 0)) rfl rfl rfl (z_N_29_0 e) (io_in (p := 0) (N := 7) (by decide) (by decide)) (Eq.trans (congrArg (sA t 29 0) (nn_io (p := 0) (by decide))) (z_A_29_0_0 e)) ?_
  refine x_bipush (pc' := 39) rfl rfl ?_
  refine x_iand (pc' := 40) (z := ((xs 0) &&& 63)) rfl rfl rfl ?_
  refine x_switch (pc' := 280) rfl (by rw [hk]; decide) ?_
  refine x_aload_n (pc' := 281) rfl rfl rfl rfl rfl ?_
  refine x_aload_n (pc' := 282) rfl rfl rfl rfl rfl ?_
  refine x_iload (pc' := 284) rfl rfl rfl ?_
  refine x_iconst (pc' := 285) rfl rfl ?_
  refine x_iadd (pc' := 286) (z := 1) rfl rfl (by decide) ?_
  refine x_iald (pc' := 287) (N := 7) (x := 3) rfl rfl rfl (z_N_29_0 e) (io_in (p := 1) (N := 7) (by decide) (by decide)) (Eq.trans (congrArg (sA t 29 0) (nn_io (p := 1) (by decide))) (Eq.trans (z_A_29_0_1 e) e0)) ?_
  refine x_aload_n (pc' := 288) rfl rfl rfl rfl rfl ?_
  refine x_cs (ls0 := [_, _, _, sJk]) (rest := []) rfl rfl rfl rfl ?_
  refine x_aload_n (pc' := 1) rfl rfl rfl rfl rfl ?_
  refine x_iconst (pc' := 2) rfl rfl ?_
  refine x_aload_n (pc' := 3) rfl rfl rfl rfl rfl ?_
  refine x_iload_n (pc' := 4) rfl rfl rfl ?_
  refine x_cv (ls0 := [_, _, sJk, sJk]) (rest := [_, _]) rfl rfl rfl rfl rfl ?_
  refine x_aload_n (pc' := 1) rfl rfl rfl rfl rfl ?_
  refine x_iload_n (pc' := 2) rfl rfl rfl ?_
  refine x_cv (ls0 := [_, _]) (rest := []) rfl rfl rfl rfl rfl ?_
  refine x_iload_n (pc' := 1) rfl rfl rfl ?_
  refine x_if (a' := 16) (pc' := 4) (z := false) rfl rfl rfl (by decide) (fun h => by cases h) (fun _ => ?_)
  refine x_iload_n (pc' := 5) rfl rfl rfl ?_
  refine x_aload_n (pc' := 6) rfl rfl rfl rfl rfl ?_
  refine x_gR (pc' := 9) (r := (some 0)) rfl rfl rfl (z_R_705_0 e) ?_
  refine x_gR (pc' := 12) (r := (some 0)) rfl rfl rfl (z_R_256_0 e) ?_
  refine x_alen (pc' := 13) (N := 5) rfl rfl rfl (z_N_24_0 e) (?_ : X _ _ _ (.inl 5 :: _) _ _)
  refine x_icmp (a' := 27) (pc' := 16) (z := true) rfl rfl rfl (by decide) (fun _ => ?_) (fun h => by cases h)
  refine x_aload_n (pc' := 28) rfl rfl rfl rfl rfl ?_
  refine x_gR (pc' := 31) (r := (some 0)) rfl rfl rfl (z_R_705_0 e) ?_
  refine x_gR (pc' := 34) (r := (some 0)) rfl rfl rfl (z_R_256_0 e) ?_
  refine x_iload_n (pc' := 35) rfl rfl rfl ?_
  refine x_aald (pc' := 36) (N := 5) (k' := 1) (r := (some 3)) rfl rfl rfl (z_N_24_0 e) (io_in (p := 3) (N := 5) (by decide) (by decide)) (Eq.trans (congrArg (sE t 24 0) (nn_io (p := 3) (by decide))) (z_E_24_0_3 e)) ?_
  refine x_reta rfl rfl ?_
  refine sK_i (pc' := 5) rfl ?_
  refine x_astore_n (pc' := 6) (ls' := [_, _, _, _]) rfl rfl rfl rfl rfl ?_
  refine x_aload_n (pc' := 7) rfl rfl rfl rfl rfl ?_
  refine x_gI (pc' := 10) (x := 0) rfl rfl rfl (z_I_67_3 e) ?_
  refine x_if (a' := 17) (pc' := 13) (z := true) rfl rfl rfl (by decide) (fun _ => ?_) (fun h => by cases h)
  refine x_iconst (pc' := 18) rfl rfl ?_
  refine x_cs (ls0 := [_]) (rest := []) rfl rfl rfl rfl ?_
  refine x_iload_n (pc' := 1) rfl rfl rfl ?_
  refine x_if (a' := 15) (pc' := 4) (z := false) rfl rfl rfl (by decide) (fun h => by cases h) (fun _ => ?_)
  refine x_throw rfl rfl ?_
  refine sK_n (by decide +kernel) rfl ?_
  refine sK_h (h := 15) (by decide +kernel) rfl ?_
  refine x_catch_n (pc' := 16) (ls' := [_, _, _, _]) rfl rfl rfl rfl ?_
  refine x_iconst (pc' := 17) rfl rfl ?_
  refine x_reti rfl rfl ?_
  refine sK_i (pc' := 291) rfl ?_
  refine x_istore (pc' := 293) (ls' := [_, _, _, _, _, _, _]) rfl rfl rfl rfl ?_
  refine x_aload_n (pc' := 294) rfl rfl rfl rfl rfl ?_
  refine x_aload_n (pc' := 295) rfl rfl rfl rfl rfl ?_
  refine x_iload (pc' := 297) rfl rfl rfl ?_
  refine x_iconst (pc' := 298) rfl rfl ?_
  refine x_iadd (pc' := 299) (z := 1) rfl rfl (by decide) ?_
  refine x_iald (pc' := 300) (N := 7) (x := 3) rfl rfl rfl (Eq.trans rdNthr (z_N_29_0 e)) (io_in (p := 1) (N := 7) (by decide) (by decide)) (Eq.trans (congrArg (sA (sThr t) 29 0) (nn_io (p := 1) (by decide))) (Eq.trans rdAthr (Eq.trans (z_A_29_0_1 e) e0))) ?_
  refine x_cv (ls0 := [_, _, sJk]) (rest := []) rfl rfl rfl rfl rfl ?_
  refine x_aload_n (pc' := 1) rfl rfl rfl rfl rfl ?_
  refine x_iload_n (pc' := 2) rfl rfl rfl ?_
  refine x_cs (ls0 := [_]) (rest := [_]) rfl rfl rfl rfl ?_
  refine x_iload_n (pc' := 1) rfl rfl rfl ?_
  refine x_iconst (pc' := 2) rfl rfl ?_
  refine x_iconst (pc' := 3) rfl rfl ?_
  refine x_cs (ls0 := [_, _, _]) (rest := []) rfl rfl rfl rfl ?_
  refine x_iload_n (pc' := 1) rfl rfl rfl ?_
  refine x_iload_n (pc' := 2) rfl rfl rfl ?_
  refine x_icmp (a' := 14) (pc' := 5) (z := false) rfl rfl rfl (by decide) (fun h => by cases h) (fun _ => ?_)
  refine x_iload_n (pc' := 6) rfl rfl rfl ?_
  refine x_iload_n (pc' := 7) rfl rfl rfl ?_
  refine x_icmp (a' := 14) (pc' := 10) (z := false) rfl rfl rfl (by decide) (fun h => by cases h) (fun _ => ?_)
  refine x_iconst (pc' := 11) rfl rfl ?_
  refine x_goto (pc' := 15) rfl rfl ?_
  refine x_retz (z := true) rfl rfl ?_
  refine sK_i (pc' := 6) rfl ?_
  refine x_retz (z := true) rfl rfl ?_
  refine sK_i (pc' := 5) rfl ?_
  refine x_if (a' := 12) (pc' := 8) (z := true) rfl rfl rfl (by decide) (fun _ => ?_) (fun h => by cases h)
  refine x_aload_n (pc' := 13) rfl rfl rfl rfl rfl ?_
  refine x_gR (pc' := 16) (r := (some 0)) rfl rfl rfl (Eq.trans rdRthr (z_R_769_0 e)) ?_
  refine x_iload_n (pc' := 17) rfl rfl rfl ?_
  refine x_iald (pc' := 18) (N := 5) (x := 0) rfl rfl rfl (Eq.trans rdNthr (z_N_21_0 e)) (io_in (p := 3) (N := 5) (by decide) (by decide)) (Eq.trans (congrArg (sA (sThr t) 21 0) (nn_io (p := 3) (by decide))) (Eq.trans rdAthr (z_A_21_0_3 e))) ?_
  refine x_if (a' := 25) (pc' := 21) (z := false) rfl rfl rfl (by decide) (fun h => by cases h) (fun _ => ?_)
  refine x_iconst (pc' := 22) rfl rfl ?_
  refine x_goto (pc' := 26) rfl rfl ?_
  refine x_cv (ls0 := [_, _]) (rest := []) rfl rfl rfl rfl rfl ?_
  refine x_aload_n (pc' := 1) rfl rfl rfl rfl rfl ?_
  refine x_iload_n (pc' := 2) rfl rfl rfl ?_
  refine x_pI (pc' := 5) rfl rfl rfl ?_
  refine x_iload_n (pc' := 6) rfl rfl rfl ?_
  refine x_if (a' := 13) (pc' := 9) (z := true) rfl rfl rfl (by decide) (fun _ => ?_) (fun h => by cases h)
  refine x_iconst (pc' := 14) rfl rfl ?_
  refine x_retz (z := false) rfl rfl ?_
  refine sK_i (pc' := 29) rfl ?_
  refine x_if (a' := 34) (pc' := 32) (z := false) rfl rfl rfl (by decide) (fun h => by cases h) (fun _ => ?_)
  refine x_iconst (pc' := 33) rfl rfl ?_
  refine x_reti rfl rfl ?_
  refine sK_i (pc' := 303) rfl ?_
  refine x_istore (pc' := 305) (ls' := [_, _, _, _, _, _, _]) rfl rfl rfl rfl ?_
  refine x_aload_n (pc' := 306) rfl rfl rfl rfl rfl ?_
  refine x_cv (ls0 := [_]) (rest := []) rfl rfl rfl rfl rfl ?_
  refine x_aload_n (pc' := 1) rfl rfl rfl rfl rfl ?_
  refine x_gI (pc' := 4) (x := 2) rfl rfl rfl sI_s ?_
  refine x_reti rfl rfl ?_
  refine sK_i (pc' := 309) rfl ?_
  refine x_iload (pc' := 311) rfl rfl rfl ?_
  refine x_icmp (a' := 316) (pc' := 314) (z := true) rfl rfl rfl (by decide) (fun _ => ?_) (fun h => by cases h)
  refine x_iload (pc' := 318) rfl rfl rfl ?_
  refine x_if (a' := 333) (pc' := 321) (z := true) rfl rfl rfl (by decide) (fun _ => ?_) (fun h => by cases h)
  refine x_goto (pc' := 2938) rfl rfl ?_
  refine x_iinc (pc' := 2941) (y := 7) (ls' := [_, _, _, _, _, _, _]) rfl rfl rfl rfl rfl ?_
  refine x_goto (pc' := 23) rfl rfl ?_
  refine x_iload (pc' := 25) rfl rfl rfl ?_
  refine x_aload_n (pc' := 26) rfl rfl rfl rfl rfl ?_
  refine x_alen (pc' := 27) (N := 7) rfl rfl rfl (Eq.trans rdNI (Eq.trans rdNthr (z_N_29_0 e))) (?_ : X _ _ _ (.inl 7 :: _) _ _)
  refine x_bipush (pc' := 29) rfl rfl ?_
  refine x_isub (pc' := 30) (z := 0) rfl rfl (by decide) ?_
  refine x_icmp (a' := 2944) (pc' := 33) (z := true) rfl rfl rfl (by decide) (fun _ => ?_) (fun h => by cases h)
  refine x_iconst (pc' := 2945) rfl rfl ?_
  refine x_retz (z := true) rfl rfl ?_
  exact Qp_ok e (p := 1) (q := 6) rfl rfl rfl rfl
set_option maxHeartbeats 4000000 in
set_option maxRecDepth 10000 in
theorem v_1_4 {t : sT} {xs : Nat → Int32}
    (e : t = T16 7 xs)
    (hk : ((xs 0) &&& 63) = 1)
    (e0 : xs 1 = 4) :
    X 297 23 [.inr (.inr (29, (some 0))), .inr (.inr (11, (some 0))), .inr (.inr (12, (some 0))), .inr (.inr (23, (some 0))), .inl 0, sJk, sJk] [] t Qp := by
  refine x_iload (pc' := 25) rfl rfl rfl ?_
  refine x_aload_n (pc' := 26) rfl rfl rfl rfl rfl ?_
  refine x_alen (pc' := 27) (N := 7) rfl rfl rfl (z_N_29_0 e) (?_ : X _ _ _ (.inl 7 :: _) _ _)
  refine x_bipush (pc' := 29) rfl rfl ?_
  refine x_isub (pc' := 30) (z := 0) rfl rfl (by decide) ?_
  refine x_icmp (a' := 2944) (pc' := 33) (z := false) rfl rfl rfl (by decide) (fun h => by cases h) (fun _ => ?_)
  refine x_aload_n (pc' := 34) rfl rfl rfl rfl rfl ?_
  refine x_iload (pc' := 36) rfl rfl rfl ?_
  refine x_iald (pc' := 37) (N := 7) (x := (xs 0)) rfl rfl rfl (z_N_29_0 e) (io_in (p := 0) (N := 7) (by decide) (by decide)) (Eq.trans (congrArg (sA t 29 0) (nn_io (p := 0) (by decide))) (z_A_29_0_0 e)) ?_
  refine x_bipush (pc' := 39) rfl rfl ?_
  refine x_iand (pc' := 40) (z := ((xs 0) &&& 63)) rfl rfl rfl ?_
  refine x_switch (pc' := 280) rfl (by rw [hk]; decide) ?_
  refine x_aload_n (pc' := 281) rfl rfl rfl rfl rfl ?_
  refine x_aload_n (pc' := 282) rfl rfl rfl rfl rfl ?_
  refine x_iload (pc' := 284) rfl rfl rfl ?_
  refine x_iconst (pc' := 285) rfl rfl ?_
  refine x_iadd (pc' := 286) (z := 1) rfl rfl (by decide) ?_
  refine x_iald (pc' := 287) (N := 7) (x := 4) rfl rfl rfl (z_N_29_0 e) (io_in (p := 1) (N := 7) (by decide) (by decide)) (Eq.trans (congrArg (sA t 29 0) (nn_io (p := 1) (by decide))) (Eq.trans (z_A_29_0_1 e) e0)) ?_
  refine x_aload_n (pc' := 288) rfl rfl rfl rfl rfl ?_
  refine x_cs (ls0 := [_, _, _, sJk]) (rest := []) rfl rfl rfl rfl ?_
  refine x_aload_n (pc' := 1) rfl rfl rfl rfl rfl ?_
  refine x_iconst (pc' := 2) rfl rfl ?_
  refine x_aload_n (pc' := 3) rfl rfl rfl rfl rfl ?_
  refine x_iload_n (pc' := 4) rfl rfl rfl ?_
  refine x_cv (ls0 := [_, _, sJk, sJk]) (rest := [_, _]) rfl rfl rfl rfl rfl ?_
  refine x_aload_n (pc' := 1) rfl rfl rfl rfl rfl ?_
  refine x_iload_n (pc' := 2) rfl rfl rfl ?_
  refine x_cv (ls0 := [_, _]) (rest := []) rfl rfl rfl rfl rfl ?_
  refine x_iload_n (pc' := 1) rfl rfl rfl ?_
  refine x_if (a' := 16) (pc' := 4) (z := false) rfl rfl rfl (by decide) (fun h => by cases h) (fun _ => ?_)
  refine x_iload_n (pc' := 5) rfl rfl rfl ?_
  refine x_aload_n (pc' := 6) rfl rfl rfl rfl rfl ?_
  refine x_gR (pc' := 9) (r := (some 0)) rfl rfl rfl (z_R_705_0 e) ?_
  refine x_gR (pc' := 12) (r := (some 0)) rfl rfl rfl (z_R_256_0 e) ?_
  refine x_alen (pc' := 13) (N := 5) rfl rfl rfl (z_N_24_0 e) (?_ : X _ _ _ (.inl 5 :: _) _ _)
  refine x_icmp (a' := 27) (pc' := 16) (z := true) rfl rfl rfl (by decide) (fun _ => ?_) (fun h => by cases h)
  refine x_aload_n (pc' := 28) rfl rfl rfl rfl rfl ?_
  refine x_gR (pc' := 31) (r := (some 0)) rfl rfl rfl (z_R_705_0 e) ?_
  refine x_gR (pc' := 34) (r := (some 0)) rfl rfl rfl (z_R_256_0 e) ?_
  refine x_iload_n (pc' := 35) rfl rfl rfl ?_
  refine x_aald (pc' := 36) (N := 5) (k' := 1) (r := (some 4)) rfl rfl rfl (z_N_24_0 e) (io_in (p := 4) (N := 5) (by decide) (by decide)) (Eq.trans (congrArg (sE t 24 0) (nn_io (p := 4) (by decide))) (z_E_24_0_4 e)) ?_
  refine x_reta rfl rfl ?_
  refine sK_i (pc' := 5) rfl ?_
  refine x_astore_n (pc' := 6) (ls' := [_, _, _, _]) rfl rfl rfl rfl rfl ?_
  refine x_aload_n (pc' := 7) rfl rfl rfl rfl rfl ?_
  refine x_gI (pc' := 10) (x := 0) rfl rfl rfl (z_I_67_4 e) ?_
  refine x_if (a' := 17) (pc' := 13) (z := true) rfl rfl rfl (by decide) (fun _ => ?_) (fun h => by cases h)
  refine x_iconst (pc' := 18) rfl rfl ?_
  refine x_cs (ls0 := [_]) (rest := []) rfl rfl rfl rfl ?_
  refine x_iload_n (pc' := 1) rfl rfl rfl ?_
  refine x_if (a' := 15) (pc' := 4) (z := false) rfl rfl rfl (by decide) (fun h => by cases h) (fun _ => ?_)
  refine x_throw rfl rfl ?_
  refine sK_n (by decide +kernel) rfl ?_
  refine sK_h (h := 15) (by decide +kernel) rfl ?_
  refine x_catch_n (pc' := 16) (ls' := [_, _, _, _]) rfl rfl rfl rfl ?_
  refine x_iconst (pc' := 17) rfl rfl ?_
  refine x_reti rfl rfl ?_
  refine sK_i (pc' := 291) rfl ?_
  refine x_istore (pc' := 293) (ls' := [_, _, _, _, _, _, _]) rfl rfl rfl rfl ?_
  refine x_aload_n (pc' := 294) rfl rfl rfl rfl rfl ?_
  refine x_aload_n (pc' := 295) rfl rfl rfl rfl rfl ?_
  refine x_iload (pc' := 297) rfl rfl rfl ?_
  refine x_iconst (pc' := 298) rfl rfl ?_
  refine x_iadd (pc' := 299) (z := 1) rfl rfl (by decide) ?_
  refine x_iald (pc' := 300) (N := 7) (x := 4) rfl rfl rfl (Eq.trans rdNthr (z_N_29_0 e)) (io_in (p := 1) (N := 7) (by decide) (by decide)) (Eq.trans (congrArg (sA (sThr t) 29 0) (nn_io (p := 1) (by decide))) (Eq.trans rdAthr (Eq.trans (z_A_29_0_1 e) e0))) ?_
  refine x_cv (ls0 := [_, _, sJk]) (rest := []) rfl rfl rfl rfl rfl ?_
  refine x_aload_n (pc' := 1) rfl rfl rfl rfl rfl ?_
  refine x_iload_n (pc' := 2) rfl rfl rfl ?_
  refine x_cs (ls0 := [_]) (rest := [_]) rfl rfl rfl rfl ?_
  refine x_iload_n (pc' := 1) rfl rfl rfl ?_
  refine x_iconst (pc' := 2) rfl rfl ?_
  refine x_iconst (pc' := 3) rfl rfl ?_
  refine x_cs (ls0 := [_, _, _]) (rest := []) rfl rfl rfl rfl ?_
  refine x_iload_n (pc' := 1) rfl rfl rfl ?_
  refine x_iload_n (pc' := 2) rfl rfl rfl ?_
  refine x_icmp (a' := 14) (pc' := 5) (z := false) rfl rfl rfl (by decide) (fun h => by cases h) (fun _ => ?_)
  refine x_iload_n (pc' := 6) rfl rfl rfl ?_
  refine x_iload_n (pc' := 7) rfl rfl rfl ?_
  refine x_icmp (a' := 14) (pc' := 10) (z := false) rfl rfl rfl (by decide) (fun h => by cases h) (fun _ => ?_)
  refine x_iconst (pc' := 11) rfl rfl ?_
  refine x_goto (pc' := 15) rfl rfl ?_
  refine x_retz (z := true) rfl rfl ?_
  refine sK_i (pc' := 6) rfl ?_
  refine x_retz (z := true) rfl rfl ?_
  refine sK_i (pc' := 5) rfl ?_
  refine x_if (a' := 12) (pc' := 8) (z := true) rfl rfl rfl (by decide) (fun _ => ?_) (fun h => by cases h)
  refine x_aload_n (pc' := 13) rfl rfl rfl rfl rfl ?_
  refine x_gR (pc' := 16) (r := (some 0)) rfl rfl rfl (Eq.trans rdRthr (z_R_769_0 e)) ?_
  refine x_iload_n (pc' := 17) rfl rfl rfl ?_
  refine x_iald (pc' := 18) (N := 5) (x := 0) rfl rfl rfl (Eq.trans rdNthr (z_N_21_0 e)) (io_in (p := 4) (N := 5) (by decide) (by decide)) (Eq.trans (congrArg (sA (sThr t) 21 0) (nn_io (p := 4) (by decide))) (Eq.trans rdAthr (z_A_21_0_4 e))) ?_
  refine x_if (a' := 25) (pc' := 21) (z := false) rfl rfl rfl (by decide) (fun h => by cases h) (fun _ => ?_)
  refine x_iconst (pc' := 22) rfl rfl ?_
  refine x_goto (pc' := 26) rfl rfl ?_
  refine x_cv (ls0 := [_, _]) (rest := []) rfl rfl rfl rfl rfl ?_
  refine x_aload_n (pc' := 1) rfl rfl rfl rfl rfl ?_
  refine x_iload_n (pc' := 2) rfl rfl rfl ?_
  refine x_pI (pc' := 5) rfl rfl rfl ?_
  refine x_iload_n (pc' := 6) rfl rfl rfl ?_
  refine x_if (a' := 13) (pc' := 9) (z := true) rfl rfl rfl (by decide) (fun _ => ?_) (fun h => by cases h)
  refine x_iconst (pc' := 14) rfl rfl ?_
  refine x_retz (z := false) rfl rfl ?_
  refine sK_i (pc' := 29) rfl ?_
  refine x_if (a' := 34) (pc' := 32) (z := false) rfl rfl rfl (by decide) (fun h => by cases h) (fun _ => ?_)
  refine x_iconst (pc' := 33) rfl rfl ?_
  refine x_reti rfl rfl ?_
  refine sK_i (pc' := 303) rfl ?_
  refine x_istore (pc' := 305) (ls' := [_, _, _, _, _, _, _]) rfl rfl rfl rfl ?_
  refine x_aload_n (pc' := 306) rfl rfl rfl rfl rfl ?_
  refine x_cv (ls0 := [_]) (rest := []) rfl rfl rfl rfl rfl ?_
  refine x_aload_n (pc' := 1) rfl rfl rfl rfl rfl ?_
  refine x_gI (pc' := 4) (x := 2) rfl rfl rfl sI_s ?_
  refine x_reti rfl rfl ?_
  refine sK_i (pc' := 309) rfl ?_
  refine x_iload (pc' := 311) rfl rfl rfl ?_
  refine x_icmp (a' := 316) (pc' := 314) (z := true) rfl rfl rfl (by decide) (fun _ => ?_) (fun h => by cases h)
  refine x_iload (pc' := 318) rfl rfl rfl ?_
  refine x_if (a' := 333) (pc' := 321) (z := true) rfl rfl rfl (by decide) (fun _ => ?_) (fun h => by cases h)
  refine x_goto (pc' := 2938) rfl rfl ?_
  refine x_iinc (pc' := 2941) (y := 7) (ls' := [_, _, _, _, _, _, _]) rfl rfl rfl rfl rfl ?_
  refine x_goto (pc' := 23) rfl rfl ?_
  refine x_iload (pc' := 25) rfl rfl rfl ?_
  refine x_aload_n (pc' := 26) rfl rfl rfl rfl rfl ?_
  refine x_alen (pc' := 27) (N := 7) rfl rfl rfl (Eq.trans rdNI (Eq.trans rdNthr (z_N_29_0 e))) (?_ : X _ _ _ (.inl 7 :: _) _ _)
  refine x_bipush (pc' := 29) rfl rfl ?_
  refine x_isub (pc' := 30) (z := 0) rfl rfl (by decide) ?_
  refine x_icmp (a' := 2944) (pc' := 33) (z := true) rfl rfl rfl (by decide) (fun _ => ?_) (fun h => by cases h)
  refine x_iconst (pc' := 2945) rfl rfl ?_
  refine x_retz (z := true) rfl rfl ?_
  exact Qp_ok e (p := 1) (q := 6) rfl rfl rfl rfl
set_option maxHeartbeats 4000000 in
set_option maxRecDepth 10000 in
theorem v_1_A {t : sT} {xs : Nat → Int32}
    (e : t = T16 7 xs)
    (hk : ((xs 0) &&& 63) = 1)
    (e0 : (xs 1) < 0) :
    X 297 23 [.inr (.inr (29, (some 0))), .inr (.inr (11, (some 0))), .inr (.inr (12, (some 0))), .inr (.inr (23, (some 0))), .inl 0, sJk, sJk] [] t Qp := by
  refine x_iload (pc' := 25) rfl rfl rfl ?_
  refine x_aload_n (pc' := 26) rfl rfl rfl rfl rfl ?_
  refine x_alen (pc' := 27) (N := 7) rfl rfl rfl (z_N_29_0 e) (?_ : X _ _ _ (.inl 7 :: _) _ _)
  refine x_bipush (pc' := 29) rfl rfl ?_
  refine x_isub (pc' := 30) (z := 0) rfl rfl (by decide) ?_
  refine x_icmp (a' := 2944) (pc' := 33) (z := false) rfl rfl rfl (by decide) (fun h => by cases h) (fun _ => ?_)
  refine x_aload_n (pc' := 34) rfl rfl rfl rfl rfl ?_
  refine x_iload (pc' := 36) rfl rfl rfl ?_
  refine x_iald (pc' := 37) (N := 7) (x := (xs 0)) rfl rfl rfl (z_N_29_0 e) (io_in (p := 0) (N := 7) (by decide) (by decide)) (Eq.trans (congrArg (sA t 29 0) (nn_io (p := 0) (by decide))) (z_A_29_0_0 e)) ?_
  refine x_bipush (pc' := 39) rfl rfl ?_
  refine x_iand (pc' := 40) (z := ((xs 0) &&& 63)) rfl rfl rfl ?_
  refine x_switch (pc' := 280) rfl (by rw [hk]; decide) ?_
  refine x_aload_n (pc' := 281) rfl rfl rfl rfl rfl ?_
  refine x_aload_n (pc' := 282) rfl rfl rfl rfl rfl ?_
  refine x_iload (pc' := 284) rfl rfl rfl ?_
  refine x_iconst (pc' := 285) rfl rfl ?_
  refine x_iadd (pc' := 286) (z := 1) rfl rfl (by decide) ?_
  refine x_iald (pc' := 287) (N := 7) (x := (xs 1)) rfl rfl rfl (z_N_29_0 e) (io_in (p := 1) (N := 7) (by decide) (by decide)) (Eq.trans (congrArg (sA t 29 0) (nn_io (p := 1) (by decide))) (z_A_29_0_1 e)) ?_
  refine x_aload_n (pc' := 288) rfl rfl rfl rfl rfl ?_
  refine x_cs (ls0 := [_, _, _, sJk]) (rest := []) rfl rfl rfl rfl ?_
  refine x_aload_n (pc' := 1) rfl rfl rfl rfl rfl ?_
  refine x_iconst (pc' := 2) rfl rfl ?_
  refine x_aload_n (pc' := 3) rfl rfl rfl rfl rfl ?_
  refine x_iload_n (pc' := 4) rfl rfl rfl ?_
  refine x_cv (ls0 := [_, _, sJk, sJk]) (rest := [_, _]) rfl rfl rfl rfl rfl ?_
  refine x_aload_n (pc' := 1) rfl rfl rfl rfl rfl ?_
  refine x_iload_n (pc' := 2) rfl rfl rfl ?_
  refine x_cv (ls0 := [_, _]) (rest := []) rfl rfl rfl rfl rfl ?_
  refine x_iload_n (pc' := 1) rfl rfl rfl ?_
  refine x_if (a' := 16) (pc' := 4) (z := decide ((xs 1) < 0)) rfl rfl rfl rfl (fun _ => ?_) (fun h => absurd e0 (of_decide_eq_false h))
  refine x_throw rfl rfl ?_
  refine sK_n (by decide +kernel) rfl ?_
  refine sK_h (h := 12) (by decide +kernel) rfl ?_
  refine x_catch_n (pc' := 13) (ls' := [_, _, _, _]) rfl rfl rfl rfl ?_
  refine x_iconst (pc' := 14) rfl rfl ?_
  refine x_reti rfl rfl ?_
  refine sK_i (pc' := 291) rfl ?_
  refine x_istore (pc' := 293) (ls' := [_, _, _, _, _, _, _]) rfl rfl rfl rfl ?_
  refine x_aload_n (pc' := 294) rfl rfl rfl rfl rfl ?_
  refine x_aload_n (pc' := 295) rfl rfl rfl rfl rfl ?_
  refine x_iload (pc' := 297) rfl rfl rfl ?_
  refine x_iconst (pc' := 298) rfl rfl ?_
  refine x_iadd (pc' := 299) (z := 1) rfl rfl (by decide) ?_
  refine x_iald (pc' := 300) (N := 7) (x := (xs 1)) rfl rfl rfl (Eq.trans rdNthr (z_N_29_0 e)) (io_in (p := 1) (N := 7) (by decide) (by decide)) (Eq.trans (congrArg (sA (sThr t) 29 0) (nn_io (p := 1) (by decide))) (Eq.trans rdAthr (z_A_29_0_1 e))) ?_
  refine x_cv (ls0 := [_, _, sJk]) (rest := []) rfl rfl rfl rfl rfl ?_
  refine x_aload_n (pc' := 1) rfl rfl rfl rfl rfl ?_
  refine x_iload_n (pc' := 2) rfl rfl rfl ?_
  refine x_cs (ls0 := [_]) (rest := [_]) rfl rfl rfl rfl ?_
  refine x_iload_n (pc' := 1) rfl rfl rfl ?_
  refine x_iconst (pc' := 2) rfl rfl ?_
  refine x_iconst (pc' := 3) rfl rfl ?_
  refine x_cs (ls0 := [_, _, _]) (rest := []) rfl rfl rfl rfl ?_
  refine x_iload_n (pc' := 1) rfl rfl rfl ?_
  refine x_iload_n (pc' := 2) rfl rfl rfl ?_
  refine x_icmp (a' := 14) (pc' := 5) (z := decide ((xs 1) < 0)) rfl rfl rfl rfl (fun _ => ?_) (fun h => absurd e0 (of_decide_eq_false h))
  refine x_iconst (pc' := 15) rfl rfl ?_
  refine x_retz (z := false) rfl rfl ?_
  refine sK_i (pc' := 6) rfl ?_
  refine x_retz (z := false) rfl rfl ?_
  refine sK_i (pc' := 5) rfl ?_
  refine x_if (a' := 12) (pc' := 8) (z := false) rfl rfl rfl (by decide) (fun h => by cases h) (fun _ => ?_)
  refine x_iconst (pc' := 9) rfl rfl ?_
  refine x_goto (pc' := 26) rfl rfl ?_
  refine x_cv (ls0 := [_, _]) (rest := []) rfl rfl rfl rfl rfl ?_
  refine x_aload_n (pc' := 1) rfl rfl rfl rfl rfl ?_
  refine x_iload_n (pc' := 2) rfl rfl rfl ?_
  refine x_pI (pc' := 5) rfl rfl rfl ?_
  refine x_iload_n (pc' := 6) rfl rfl rfl ?_
  refine x_if (a' := 13) (pc' := 9) (z := true) rfl rfl rfl (by decide) (fun _ => ?_) (fun h => by cases h)
  refine x_iconst (pc' := 14) rfl rfl ?_
  refine x_retz (z := false) rfl rfl ?_
  refine sK_i (pc' := 29) rfl ?_
  refine x_if (a' := 34) (pc' := 32) (z := false) rfl rfl rfl (by decide) (fun h => by cases h) (fun _ => ?_)
  refine x_iconst (pc' := 33) rfl rfl ?_
  refine x_reti rfl rfl ?_
  refine sK_i (pc' := 303) rfl ?_
  refine x_istore (pc' := 305) (ls' := [_, _, _, _, _, _, _]) rfl rfl rfl rfl ?_
  refine x_aload_n (pc' := 306) rfl rfl rfl rfl rfl ?_
  refine x_cv (ls0 := [_]) (rest := []) rfl rfl rfl rfl rfl ?_
  refine x_aload_n (pc' := 1) rfl rfl rfl rfl rfl ?_
  refine x_gI (pc' := 4) (x := 1) rfl rfl rfl sI_s ?_
  refine x_reti rfl rfl ?_
  refine sK_i (pc' := 309) rfl ?_
  refine x_iload (pc' := 311) rfl rfl rfl ?_
  refine x_icmp (a' := 316) (pc' := 314) (z := true) rfl rfl rfl (by decide) (fun _ => ?_) (fun h => by cases h)
  refine x_iload (pc' := 318) rfl rfl rfl ?_
  refine x_if (a' := 333) (pc' := 321) (z := true) rfl rfl rfl (by decide) (fun _ => ?_) (fun h => by cases h)
  refine x_goto (pc' := 2938) rfl rfl ?_
  refine x_iinc (pc' := 2941) (y := 7) (ls' := [_, _, _, _, _, _, _]) rfl rfl rfl rfl rfl ?_
  refine x_goto (pc' := 23) rfl rfl ?_
  refine x_iload (pc' := 25) rfl rfl rfl ?_
  refine x_aload_n (pc' := 26) rfl rfl rfl rfl rfl ?_
  refine x_alen (pc' := 27) (N := 7) rfl rfl rfl (Eq.trans rdNI (Eq.trans rdNthr (z_N_29_0 e))) (?_ : X _ _ _ (.inl 7 :: _) _ _)
  refine x_bipush (pc' := 29) rfl rfl ?_
  refine x_isub (pc' := 30) (z := 0) rfl rfl (by decide) ?_
  refine x_icmp (a' := 2944) (pc' := 33) (z := true) rfl rfl rfl (by decide) (fun _ => ?_) (fun h => by cases h)
  refine x_iconst (pc' := 2945) rfl rfl ?_
  refine x_retz (z := true) rfl rfl ?_
  exact Qp_ok e (p := 1) (q := 6) rfl rfl rfl rfl
set_option maxHeartbeats 4000000 in
set_option maxRecDepth 10000 in
theorem v_1_B {t : sT} {xs : Nat → Int32}
    (e : t = T16 7 xs)
    (hk : ((xs 0) &&& 63) = 1)
    (e0 : ¬ (xs 1) < 0)
    (f0 : ¬ (xs 1) < 5) :
    X 297 23 [.inr (.inr (29, (some 0))), .inr (.inr (11, (some 0))), .inr (.inr (12, (some 0))), .inr (.inr (23, (some 0))), .inl 0, sJk, sJk] [] t Qp := by
  refine x_iload (pc' := 25) rfl rfl rfl ?_
  refine x_aload_n (pc' := 26) rfl rfl rfl rfl rfl ?_
  refine x_alen (pc' := 27) (N := 7) rfl rfl rfl (z_N_29_0 e) (?_ : X _ _ _ (.inl 7 :: _) _ _)
  refine x_bipush (pc' := 29) rfl rfl ?_
  refine x_isub (pc' := 30) (z := 0) rfl rfl (by decide) ?_
  refine x_icmp (a' := 2944) (pc' := 33) (z := false) rfl rfl rfl (by decide) (fun h => by cases h) (fun _ => ?_)
  refine x_aload_n (pc' := 34) rfl rfl rfl rfl rfl ?_
  refine x_iload (pc' := 36) rfl rfl rfl ?_
  refine x_iald (pc' := 37) (N := 7) (x := (xs 0)) rfl rfl rfl (z_N_29_0 e) (io_in (p := 0) (N := 7) (by decide) (by decide)) (Eq.trans (congrArg (sA t 29 0) (nn_io (p := 0) (by decide))) (z_A_29_0_0 e)) ?_
  refine x_bipush (pc' := 39) rfl rfl ?_
  refine x_iand (pc' := 40) (z := ((xs 0) &&& 63)) rfl rfl rfl ?_
  refine x_switch (pc' := 280) rfl (by rw [hk]; decide) ?_
  refine x_aload_n (pc' := 281) rfl rfl rfl rfl rfl ?_
  refine x_aload_n (pc' := 282) rfl rfl rfl rfl rfl ?_
  refine x_iload (pc' := 284) rfl rfl rfl ?_
  refine x_iconst (pc' := 285) rfl rfl ?_
  refine x_iadd (pc' := 286) (z := 1) rfl rfl (by decide) ?_
  refine x_iald (pc' := 287) (N := 7) (x := (xs 1)) rfl rfl rfl (z_N_29_0 e) (io_in (p := 1) (N := 7) (by decide) (by decide)) (Eq.trans (congrArg (sA t 29 0) (nn_io (p := 1) (by decide))) (z_A_29_0_1 e)) ?_
  refine x_aload_n (pc' := 288) rfl rfl rfl rfl rfl ?_
  refine x_cs (ls0 := [_, _, _, sJk]) (rest := []) rfl rfl rfl rfl ?_
  refine x_aload_n (pc' := 1) rfl rfl rfl rfl rfl ?_
  refine x_iconst (pc' := 2) rfl rfl ?_
  refine x_aload_n (pc' := 3) rfl rfl rfl rfl rfl ?_
  refine x_iload_n (pc' := 4) rfl rfl rfl ?_
  refine x_cv (ls0 := [_, _, sJk, sJk]) (rest := [_, _]) rfl rfl rfl rfl rfl ?_
  refine x_aload_n (pc' := 1) rfl rfl rfl rfl rfl ?_
  refine x_iload_n (pc' := 2) rfl rfl rfl ?_
  refine x_cv (ls0 := [_, _]) (rest := []) rfl rfl rfl rfl rfl ?_
  refine x_iload_n (pc' := 1) rfl rfl rfl ?_
  refine x_if (a' := 16) (pc' := 4) (z := decide ((xs 1) < 0)) rfl rfl rfl rfl (fun h => absurd (of_decide_eq_true h) e0) (fun _ => ?_)
  refine x_iload_n (pc' := 5) rfl rfl rfl ?_
  refine x_aload_n (pc' := 6) rfl rfl rfl rfl rfl ?_
  refine x_gR (pc' := 9) (r := (some 0)) rfl rfl rfl (z_R_705_0 e) ?_
  refine x_gR (pc' := 12) (r := (some 0)) rfl rfl rfl (z_R_256_0 e) ?_
  refine x_alen (pc' := 13) (N := 5) rfl rfl rfl (z_N_24_0 e) (?_ : X _ _ _ (.inl 5 :: _) _ _)
  refine x_icmp (a' := 27) (pc' := 16) (z := decide ((xs 1) < 5)) rfl rfl rfl rfl (fun h => absurd (of_decide_eq_true h) f0) (fun _ => ?_)
  refine x_throw rfl rfl ?_
  refine sK_n (by decide +kernel) rfl ?_
  refine sK_h (h := 12) (by decide +kernel) rfl ?_
  refine x_catch_n (pc' := 13) (ls' := [_, _, _, _]) rfl rfl rfl rfl ?_
  refine x_iconst (pc' := 14) rfl rfl ?_
  refine x_reti rfl rfl ?_
  refine sK_i (pc' := 291) rfl ?_
  refine x_istore (pc' := 293) (ls' := [_, _, _, _, _, _, _]) rfl rfl rfl rfl ?_
  refine x_aload_n (pc' := 294) rfl rfl rfl rfl rfl ?_
  refine x_aload_n (pc' := 295) rfl rfl rfl rfl rfl ?_
  refine x_iload (pc' := 297) rfl rfl rfl ?_
  refine x_iconst (pc' := 298) rfl rfl ?_
  refine x_iadd (pc' := 299) (z := 1) rfl rfl (by decide) ?_
  refine x_iald (pc' := 300) (N := 7) (x := (xs 1)) rfl rfl rfl (Eq.trans rdNthr (z_N_29_0 e)) (io_in (p := 1) (N := 7) (by decide) (by decide)) (Eq.trans (congrArg (sA (sThr t) 29 0) (nn_io (p := 1) (by decide))) (Eq.trans rdAthr (z_A_29_0_1 e))) ?_
  refine x_cv (ls0 := [_, _, sJk]) (rest := []) rfl rfl rfl rfl rfl ?_
  refine x_aload_n (pc' := 1) rfl rfl rfl rfl rfl ?_
  refine x_iload_n (pc' := 2) rfl rfl rfl ?_
  refine x_cs (ls0 := [_]) (rest := [_]) rfl rfl rfl rfl ?_
  refine x_iload_n (pc' := 1) rfl rfl rfl ?_
  refine x_iconst (pc' := 2) rfl rfl ?_
  refine x_iconst (pc' := 3) rfl rfl ?_
  refine x_cs (ls0 := [_, _, _]) (rest := []) rfl rfl rfl rfl ?_
  refine x_iload_n (pc' := 1) rfl rfl rfl ?_
  refine x_iload_n (pc' := 2) rfl rfl rfl ?_
  refine x_icmp (a' := 14) (pc' := 5) (z := decide ((xs 1) < 0)) rfl rfl rfl rfl (fun h => absurd (of_decide_eq_true h) e0) (fun _ => ?_)
  refine x_iload_n (pc' := 6) rfl rfl rfl ?_
  refine x_iload_n (pc' := 7) rfl rfl rfl ?_
  refine x_icmp (a' := 14) (pc' := 10) (z := decide (4 < (xs 1))) rfl rfl rfl rfl (fun _ => ?_) (fun h => absurd (lt_of5 f0) (of_decide_eq_false h))
  refine x_iconst (pc' := 15) rfl rfl ?_
  refine x_retz (z := false) rfl rfl ?_
  refine sK_i (pc' := 6) rfl ?_
  refine x_retz (z := false) rfl rfl ?_
  refine sK_i (pc' := 5) rfl ?_
  refine x_if (a' := 12) (pc' := 8) (z := false) rfl rfl rfl (by decide) (fun h => by cases h) (fun _ => ?_)
  refine x_iconst (pc' := 9) rfl rfl ?_
  refine x_goto (pc' := 26) rfl rfl ?_
  refine x_cv (ls0 := [_, _]) (rest := []) rfl rfl rfl rfl rfl ?_
  refine x_aload_n (pc' := 1) rfl rfl rfl rfl rfl ?_
  refine x_iload_n (pc' := 2) rfl rfl rfl ?_
  refine x_pI (pc' := 5) rfl rfl rfl ?_
  refine x_iload_n (pc' := 6) rfl rfl rfl ?_
  refine x_if (a' := 13) (pc' := 9) (z := true) rfl rfl rfl (by decide) (fun _ => ?_) (fun h => by cases h)
  refine x_iconst (pc' := 14) rfl rfl ?_
  refine x_retz (z := false) rfl rfl ?_
  refine sK_i (pc' := 29) rfl ?_
  refine x_if (a' := 34) (pc' := 32) (z := false) rfl rfl rfl (by decide) (fun h => by cases h) (fun _ => ?_)
  refine x_iconst (pc' := 33) rfl rfl ?_
  refine x_reti rfl rfl ?_
  refine sK_i (pc' := 303) rfl ?_
  refine x_istore (pc' := 305) (ls' := [_, _, _, _, _, _, _]) rfl rfl rfl rfl ?_
  refine x_aload_n (pc' := 306) rfl rfl rfl rfl rfl ?_
  refine x_cv (ls0 := [_]) (rest := []) rfl rfl rfl rfl rfl ?_
  refine x_aload_n (pc' := 1) rfl rfl rfl rfl rfl ?_
  refine x_gI (pc' := 4) (x := 1) rfl rfl rfl sI_s ?_
  refine x_reti rfl rfl ?_
  refine sK_i (pc' := 309) rfl ?_
  refine x_iload (pc' := 311) rfl rfl rfl ?_
  refine x_icmp (a' := 316) (pc' := 314) (z := true) rfl rfl rfl (by decide) (fun _ => ?_) (fun h => by cases h)
  refine x_iload (pc' := 318) rfl rfl rfl ?_
  refine x_if (a' := 333) (pc' := 321) (z := true) rfl rfl rfl (by decide) (fun _ => ?_) (fun h => by cases h)
  refine x_goto (pc' := 2938) rfl rfl ?_
  refine x_iinc (pc' := 2941) (y := 7) (ls' := [_, _, _, _, _, _, _]) rfl rfl rfl rfl rfl ?_
  refine x_goto (pc' := 23) rfl rfl ?_
  refine x_iload (pc' := 25) rfl rfl rfl ?_
  refine x_aload_n (pc' := 26) rfl rfl rfl rfl rfl ?_
  refine x_alen (pc' := 27) (N := 7) rfl rfl rfl (Eq.trans rdNI (Eq.trans rdNthr (z_N_29_0 e))) (?_ : X _ _ _ (.inl 7 :: _) _ _)
  refine x_bipush (pc' := 29) rfl rfl ?_
  refine x_isub (pc' := 30) (z := 0) rfl rfl (by decide) ?_
  refine x_icmp (a' := 2944) (pc' := 33) (z := true) rfl rfl rfl (by decide) (fun _ => ?_) (fun h => by cases h)
  refine x_iconst (pc' := 2945) rfl rfl ?_
  refine x_retz (z := true) rfl rfl ?_
  exact Qp_ok e (p := 1) (q := 6) rfl rfl rfl rfl
set_option maxHeartbeats 4000000 in
set_option maxRecDepth 10000 in
theorem v_2_0 {t : sT} {xs : Nat → Int32}
    (e : t = T16 7 xs)
    (hk : ((xs 0) &&& 63) = 2)
    (e0 : xs 1 = 0) :
    X 297 23 [.inr (.inr (29, (some 0))), .inr (.inr (11, (some 0))), .inr (.inr (12, (some 0))), .inr (.inr (23, (some 0))), .inl 0, sJk, sJk] [] t Qp := by
  refine x_iload (pc' := 25) rfl rfl rfl ?_
  refine x_aload_n (pc' := 26) rfl rfl rfl rfl rfl ?_
  refine x_alen (pc' := 27) (N := 7) rfl rfl rfl (z_N_29_0 e) (?_ : X _ _ _ (.inl 7 :: _) _ _)
  refine x_bipush (pc' := 29) rfl rfl ?_
  refine x_isub (pc' := 30) (z := 0) rfl rfl (by decide) ?_
  refine x_icmp (a' := 2944) (pc' := 33) (z := false) rfl rfl rfl (by decide) (fun h => by cases h) (fun _ => ?_)
  refine x_aload_n (pc' := 34) rfl rfl rfl rfl rfl ?_
  refine x_iload (pc' := 36) rfl rfl rfl ?_
  refine x_iald (pc' := 37) (N := 7) (x := (xs 0)) rfl rfl rfl (z_N_29_0 e) (io_in (p := 0) (N := 7) (by decide) (by decide)) (Eq.trans (congrArg (sA t 29 0) (nn_io (p := 0) (by decide))) (z_A_29_0_0 e)) ?_
  refine x_bipush (pc' := 39) rfl rfl ?_
  refine x_iand (pc' := 40) (z := ((xs 0) &&& 63)) rfl rfl rfl ?_
  refine x_switch (pc' := 336) rfl (by rw [hk]; decide) ?_
  refine x_aload_n (pc' := 337) rfl rfl rfl rfl rfl ?_
  refine x_aload_n (pc' := 338) rfl rfl rfl rfl rfl ?_
  refine x_iload (pc' := 340) rfl rfl rfl ?_
  refine x_iconst (pc' := 341) rfl rfl ?_
  refine x_iadd (pc' := 342) (z := 1) rfl rfl (by decide) ?_
  refine x_iald (pc' := 343) (N := 7) (x := 0) rfl rfl rfl (z_N_29_0 e) (io_in (p := 1) (N := 7) (by decide) (by decide)) (Eq.trans (congrArg (sA t 29 0) (nn_io (p := 1) (by decide))) (Eq.trans (z_A_29_0_1 e) e0)) ?_
  refine x_aload_n (pc' := 344) rfl rfl rfl rfl rfl ?_
  refine x_cs (ls0 := [_, _, _, sJk]) (rest := []) rfl rfl rfl rfl ?_
  refine x_aload_n (pc' := 1) rfl rfl rfl rfl rfl ?_
  refine x_iconst (pc' := 2) rfl rfl ?_
  refine x_aload_n (pc' := 3) rfl rfl rfl rfl rfl ?_
  refine x_iload_n (pc' := 4) rfl rfl rfl ?_
  refine x_cv (ls0 := [_, _, sJk, sJk]) (rest := [_, _]) rfl rfl rfl rfl rfl ?_
  refine x_aload_n (pc' := 1) rfl rfl rfl rfl rfl ?_
  refine x_iload_n (pc' := 2) rfl rfl rfl ?_
  refine x_cv (ls0 := [_, _]) (rest := []) rfl rfl rfl rfl rfl ?_
  refine x_iload_n (pc' := 1) rfl rfl rfl ?_
  refine x_if (a' := 16) (pc' := 4) (z := false) rfl rfl rfl (by decide) (fun h => by cases h) (fun _ => ?_)
  refine x_iload_n (pc' := 5) rfl rfl rfl ?_
  refine x_aload_n (pc' := 6) rfl rfl rfl rfl rfl ?_
  refine x_gR (pc' := 9) (r := (some 0)) rfl rfl rfl (z_R_705_0 e) ?_
  refine x_gR (pc' := 12) (r := (some 0)) rfl rfl rfl (z_R_256_0 e) ?_
  refine x_alen (pc' := 13) (N := 5) rfl rfl rfl (z_N_24_0 e) (?_ : X _ _ _ (.inl 5 :: _) _ _)
  refine x_icmp (a' := 27) (pc' := 16) (z := true) rfl rfl rfl (by decide) (fun _ => ?_) (fun h => by cases h)
  refine x_aload_n (pc' := 28) rfl rfl rfl rfl rfl ?_
  refine x_gR (pc' := 31) (r := (some 0)) rfl rfl rfl (z_R_705_0 e) ?_
  refine x_gR (pc' := 34) (r := (some 0)) rfl rfl rfl (z_R_256_0 e) ?_
  refine x_iload_n (pc' := 35) rfl rfl rfl ?_
  refine x_aald (pc' := 36) (N := 5) (k' := 1) (r := (some 0)) rfl rfl rfl (z_N_24_0 e) (io_in (p := 0) (N := 5) (by decide) (by decide)) (Eq.trans (congrArg (sE t 24 0) (nn_io (p := 0) (by decide))) (z_E_24_0_0 e)) ?_
  refine x_reta rfl rfl ?_
  refine sK_i (pc' := 5) rfl ?_
  refine x_astore_n (pc' := 6) (ls' := [_, _, _, _]) rfl rfl rfl rfl rfl ?_
  refine x_aload_n (pc' := 7) rfl rfl rfl rfl rfl ?_
  refine x_gI (pc' := 10) (x := 0) rfl rfl rfl (z_I_67_0 e) ?_
  refine x_iconst (pc' := 11) rfl rfl ?_
  refine x_icmp (a' := 22) (pc' := 14) (z := false) rfl rfl rfl (by decide) (fun h => by cases h) (fun _ => ?_)
  refine x_aload_n (pc' := 15) rfl rfl rfl rfl rfl ?_
  refine x_gI (pc' := 18) (x := 0) rfl rfl rfl (z_I_67_0 e) ?_
  refine x_iconst (pc' := 19) rfl rfl ?_
  refine x_icmp (a' := 26) (pc' := 22) (z := true) rfl rfl rfl (by decide) (fun _ => ?_) (fun h => by cases h)
  refine x_iconst (pc' := 27) rfl rfl ?_
  refine x_cs (ls0 := [_]) (rest := []) rfl rfl rfl rfl ?_
  refine x_iload_n (pc' := 1) rfl rfl rfl ?_
  refine x_if (a' := 15) (pc' := 4) (z := false) rfl rfl rfl (by decide) (fun h => by cases h) (fun _ => ?_)
  refine x_throw rfl rfl ?_
  refine sK_n (by decide +kernel) rfl ?_
  refine sK_h (h := 15) (by decide +kernel) rfl ?_
  refine x_catch_n (pc' := 16) (ls' := [_, _, _, _]) rfl rfl rfl rfl ?_
  refine x_iconst (pc' := 17) rfl rfl ?_
  refine x_reti rfl rfl ?_
  refine sK_i (pc' := 347) rfl ?_
  refine x_istore (pc' := 349) (ls' := [_, _, _, _, _, _, _]) rfl rfl rfl rfl ?_
  refine x_aload_n (pc' := 350) rfl rfl rfl rfl rfl ?_
  refine x_aload_n (pc' := 351) rfl rfl rfl rfl rfl ?_
  refine x_iload (pc' := 353) rfl rfl rfl ?_
  refine x_iconst (pc' := 354) rfl rfl ?_
  refine x_iadd (pc' := 355) (z := 1) rfl rfl (by decide) ?_
  refine x_iald (pc' := 356) (N := 7) (x := 0) rfl rfl rfl (Eq.trans rdNthr (z_N_29_0 e)) (io_in (p := 1) (N := 7) (by decide) (by decide)) (Eq.trans (congrArg (sA (sThr t) 29 0) (nn_io (p := 1) (by decide))) (Eq.trans rdAthr (Eq.trans (z_A_29_0_1 e) e0))) ?_
  refine x_cv (ls0 := [_, _, sJk, sJk, sJk, sJk, sJk, sJk, sJk]) (rest := []) rfl rfl rfl rfl rfl ?_
  refine x_iload_n (pc' := 1) rfl rfl rfl ?_
  refine x_cs (ls0 := [_]) (rest := []) rfl rfl rfl rfl ?_
  refine x_iload_n (pc' := 1) rfl rfl rfl ?_
  refine x_iconst (pc' := 2) rfl rfl ?_
  refine x_iconst (pc' := 3) rfl rfl ?_
  refine x_cs (ls0 := [_, _, _]) (rest := []) rfl rfl rfl rfl ?_
  refine x_iload_n (pc' := 1) rfl rfl rfl ?_
  refine x_iload_n (pc' := 2) rfl rfl rfl ?_
  refine x_icmp (a' := 14) (pc' := 5) (z := false) rfl rfl rfl (by decide) (fun h => by cases h) (fun _ => ?_)
  refine x_iload_n (pc' := 6) rfl rfl rfl ?_
  refine x_iload_n (pc' := 7) rfl rfl rfl ?_
  refine x_icmp (a' := 14) (pc' := 10) (z := false) rfl rfl rfl (by decide) (fun h => by cases h) (fun _ => ?_)
  refine x_iconst (pc' := 11) rfl rfl ?_
  refine x_goto (pc' := 15) rfl rfl ?_
  refine x_retz (z := true) rfl rfl ?_
  refine sK_i (pc' := 6) rfl ?_
  refine x_retz (z := true) rfl rfl ?_
  refine sK_i (pc' := 4) rfl ?_
  refine x_istore_n (pc' := 5) (ls' := [_, _, _, _, _, _, _, _, _]) rfl rfl rfl rfl ?_
  refine x_aload_n (pc' := 6) rfl rfl rfl rfl rfl ?_
  refine x_iload_n (pc' := 7) rfl rfl rfl ?_
  refine x_if (a' := 14) (pc' := 10) (z := true) rfl rfl rfl (by decide) (fun _ => ?_) (fun h => by cases h)
  refine x_aload_n (pc' := 15) rfl rfl rfl rfl rfl ?_
  refine x_gR (pc' := 18) (r := (some 0)) rfl rfl rfl (Eq.trans rdRthr (z_R_769_0 e)) ?_
  refine x_iload_n (pc' := 19) rfl rfl rfl ?_
  refine x_iald (pc' := 20) (N := 5) (x := 0) rfl rfl rfl (Eq.trans rdNthr (z_N_21_0 e)) (io_in (p := 0) (N := 5) (by decide) (by decide)) (Eq.trans (congrArg (sA (sThr t) 21 0) (nn_io (p := 0) (by decide))) (Eq.trans rdAthr (z_A_21_0_0 e))) ?_
  refine x_iconst (pc' := 21) rfl rfl ?_
  refine x_icmp (a' := 38) (pc' := 24) (z := false) rfl rfl rfl (by decide) (fun h => by cases h) (fun _ => ?_)
  refine x_aload_n (pc' := 25) rfl rfl rfl rfl rfl ?_
  refine x_gR (pc' := 28) (r := (some 0)) rfl rfl rfl (Eq.trans rdRthr (z_R_769_0 e)) ?_
  refine x_iload_n (pc' := 29) rfl rfl rfl ?_
  refine x_iald (pc' := 30) (N := 5) (x := 0) rfl rfl rfl (Eq.trans rdNthr (z_N_21_0 e)) (io_in (p := 0) (N := 5) (by decide) (by decide)) (Eq.trans (congrArg (sA (sThr t) 21 0) (nn_io (p := 0) (by decide))) (Eq.trans rdAthr (z_A_21_0_0 e))) ?_
  refine x_iconst (pc' := 31) rfl rfl ?_
  refine x_icmp (a' := 38) (pc' := 34) (z := false) rfl rfl rfl (by decide) (fun h => by cases h) (fun _ => ?_)
  refine x_iconst (pc' := 35) rfl rfl ?_
  refine x_goto (pc' := 39) rfl rfl ?_
  refine x_cv (ls0 := [_, _]) (rest := []) rfl rfl rfl rfl rfl ?_
  refine x_aload_n (pc' := 1) rfl rfl rfl rfl rfl ?_
  refine x_iload_n (pc' := 2) rfl rfl rfl ?_
  refine x_pI (pc' := 5) rfl rfl rfl ?_
  refine x_iload_n (pc' := 6) rfl rfl rfl ?_
  refine x_if (a' := 13) (pc' := 9) (z := true) rfl rfl rfl (by decide) (fun _ => ?_) (fun h => by cases h)
  refine x_iconst (pc' := 14) rfl rfl ?_
  refine x_retz (z := false) rfl rfl ?_
  refine sK_i (pc' := 42) rfl ?_
  refine x_if (a' := 47) (pc' := 45) (z := false) rfl rfl rfl (by decide) (fun h => by cases h) (fun _ => ?_)
  refine x_iconst (pc' := 46) rfl rfl ?_
  refine x_reti rfl rfl ?_
  refine sK_i (pc' := 359) rfl ?_
  refine x_istore (pc' := 361) (ls' := [_, _, _, _, _, _, _]) rfl rfl rfl rfl ?_
  refine x_aload_n (pc' := 362) rfl rfl rfl rfl rfl ?_
  refine x_cv (ls0 := [_]) (rest := []) rfl rfl rfl rfl rfl ?_
  refine x_aload_n (pc' := 1) rfl rfl rfl rfl rfl ?_
  refine x_gI (pc' := 4) (x := 2) rfl rfl rfl sI_s ?_
  refine x_reti rfl rfl ?_
  refine sK_i (pc' := 365) rfl ?_
  refine x_iload (pc' := 367) rfl rfl rfl ?_
  refine x_icmp (a' := 372) (pc' := 370) (z := true) rfl rfl rfl (by decide) (fun _ => ?_) (fun h => by cases h)
  refine x_iload (pc' := 374) rfl rfl rfl ?_
  refine x_if (a' := 389) (pc' := 377) (z := true) rfl rfl rfl (by decide) (fun _ => ?_) (fun h => by cases h)
  refine x_goto (pc' := 2938) rfl rfl ?_
  refine x_iinc (pc' := 2941) (y := 7) (ls' := [_, _, _, _, _, _, _]) rfl rfl rfl rfl rfl ?_
  refine x_goto (pc' := 23) rfl rfl ?_
  refine x_iload (pc' := 25) rfl rfl rfl ?_
  refine x_aload_n (pc' := 26) rfl rfl rfl rfl rfl ?_
  refine x_alen (pc' := 27) (N := 7) rfl rfl rfl (Eq.trans rdNI (Eq.trans rdNthr (z_N_29_0 e))) (?_ : X _ _ _ (.inl 7 :: _) _ _)
  refine x_bipush (pc' := 29) rfl rfl ?_
  refine x_isub (pc' := 30) (z := 0) rfl rfl (by decide) ?_
  refine x_icmp (a' := 2944) (pc' := 33) (z := true) rfl rfl rfl (by decide) (fun _ => ?_) (fun h => by cases h)
  refine x_iconst (pc' := 2945) rfl rfl ?_
  refine x_retz (z := true) rfl rfl ?_
  exact Qp_ok e (p := 1) (q := 6) rfl rfl rfl rfl
set_option maxHeartbeats 4000000 in
set_option maxRecDepth 10000 in
theorem v_2_1 {t : sT} {xs : Nat → Int32}
    (e : t = T16 7 xs)
    (hk : ((xs 0) &&& 63) = 2)
    (e0 : xs 1 = 1) :
    X 297 23 [.inr (.inr (29, (some 0))), .inr (.inr (11, (some 0))), .inr (.inr (12, (some 0))), .inr (.inr (23, (some 0))), .inl 0, sJk, sJk] [] t Qp := by
  refine x_iload (pc' := 25) rfl rfl rfl ?_
  refine x_aload_n (pc' := 26) rfl rfl rfl rfl rfl ?_
  refine x_alen (pc' := 27) (N := 7) rfl rfl rfl (z_N_29_0 e) (?_ : X _ _ _ (.inl 7 :: _) _ _)
  refine x_bipush (pc' := 29) rfl rfl ?_
  refine x_isub (pc' := 30) (z := 0) rfl rfl (by decide) ?_
  refine x_icmp (a' := 2944) (pc' := 33) (z := false) rfl rfl rfl (by decide) (fun h => by cases h) (fun _ => ?_)
  refine x_aload_n (pc' := 34) rfl rfl rfl rfl rfl ?_
  refine x_iload (pc' := 36) rfl rfl rfl ?_
  refine x_iald (pc' := 37) (N := 7) (x := (xs 0)) rfl rfl rfl (z_N_29_0 e) (io_in (p := 0) (N := 7) (by decide) (by decide)) (Eq.trans (congrArg (sA t 29 0) (nn_io (p := 0) (by decide))) (z_A_29_0_0 e)) ?_
  refine x_bipush (pc' := 39) rfl rfl ?_
  refine x_iand (pc' := 40) (z := ((xs 0) &&& 63)) rfl rfl rfl ?_
  refine x_switch (pc' := 336) rfl (by rw [hk]; decide) ?_
  refine x_aload_n (pc' := 337) rfl rfl rfl rfl rfl ?_
  refine x_aload_n (pc' := 338) rfl rfl rfl rfl rfl ?_
  refine x_iload (pc' := 340) rfl rfl rfl ?_
  refine x_iconst (pc' := 341) rfl rfl ?_
  refine x_iadd (pc' := 342) (z := 1) rfl rfl (by decide) ?_
  refine x_iald (pc' := 343) (N := 7) (x := 1) rfl rfl rfl (z_N_29_0 e) (io_in (p := 1) (N := 7) (by decide) (by decide)) (Eq.trans (congrArg (sA t 29 0) (nn_io (p := 1) (by decide))) (Eq.trans (z_A_29_0_1 e) e0)) ?_
  refine x_aload_n (pc' := 344) rfl rfl rfl rfl rfl ?_
  refine x_cs (ls0 := [_, _, _, sJk]) (rest := []) rfl rfl rfl rfl ?_
  refine x_aload_n (pc' := 1) rfl rfl rfl rfl rfl ?_
  refine x_iconst (pc' := 2) rfl rfl ?_
  refine x_aload_n (pc' := 3) rfl rfl rfl rfl rfl ?_
  refine x_iload_n (pc' := 4) rfl rfl rfl ?_
  refine x_cv (ls0 := [_, _, sJk, sJk]) (rest := [_, _]) rfl rfl rfl rfl rfl ?_
  refine x_aload_n (pc' := 1) rfl rfl rfl rfl rfl ?_
  refine x_iload_n (pc' := 2) rfl rfl rfl ?_
  refine x_cv (ls0 := [_, _]) (rest := []) rfl rfl rfl rfl rfl ?_
  refine x_iload_n (pc' := 1) rfl rfl rfl ?_
  refine x_if (a' := 16) (pc' := 4) (z := false) rfl rfl rfl (by decide) (fun h => by cases h) (fun _ => ?_)
  refine x_iload_n (pc' := 5) rfl rfl rfl ?_
  refine x_aload_n (pc' := 6) rfl rfl rfl rfl rfl ?_
  refine x_gR (pc' := 9) (r := (some 0)) rfl rfl rfl (z_R_705_0 e) ?_
  refine x_gR (pc' := 12) (r := (some 0)) rfl rfl rfl (z_R_256_0 e) ?_
  refine x_alen (pc' := 13) (N := 5) rfl rfl rfl (z_N_24_0 e) (?_ : X _ _ _ (.inl 5 :: _) _ _)
  refine x_icmp (a' := 27) (pc' := 16) (z := true) rfl rfl rfl (by decide) (fun _ => ?_) (fun h => by cases h)
  refine x_aload_n (pc' := 28) rfl rfl rfl rfl rfl ?_
  refine x_gR (pc' := 31) (r := (some 0)) rfl rfl rfl (z_R_705_0 e) ?_
  refine x_gR (pc' := 34) (r := (some 0)) rfl rfl rfl (z_R_256_0 e) ?_
  refine x_iload_n (pc' := 35) rfl rfl rfl ?_
  refine x_aald (pc' := 36) (N := 5) (k' := 1) (r := (some 1)) rfl rfl rfl (z_N_24_0 e) (io_in (p := 1) (N := 5) (by decide) (by decide)) (Eq.trans (congrArg (sE t 24 0) (nn_io (p := 1) (by decide))) (z_E_24_0_1 e)) ?_
  refine x_reta rfl rfl ?_
  refine sK_i (pc' := 5) rfl ?_
  refine x_astore_n (pc' := 6) (ls' := [_, _, _, _]) rfl rfl rfl rfl rfl ?_
  refine x_aload_n (pc' := 7) rfl rfl rfl rfl rfl ?_
  refine x_gI (pc' := 10) (x := 0) rfl rfl rfl (z_I_67_1 e) ?_
  refine x_iconst (pc' := 11) rfl rfl ?_
  refine x_icmp (a' := 22) (pc' := 14) (z := false) rfl rfl rfl (by decide) (fun h => by cases h) (fun _ => ?_)
  refine x_aload_n (pc' := 15) rfl rfl rfl rfl rfl ?_
  refine x_gI (pc' := 18) (x := 0) rfl rfl rfl (z_I_67_1 e) ?_
  refine x_iconst (pc' := 19) rfl rfl ?_
  refine x_icmp (a' := 26) (pc' := 22) (z := true) rfl rfl rfl (by decide) (fun _ => ?_) (fun h => by cases h)
  refine x_iconst (pc' := 27) rfl rfl ?_
  refine x_cs (ls0 := [_]) (rest := []) rfl rfl rfl rfl ?_
  refine x_iload_n (pc' := 1) rfl rfl rfl ?_
  refine x_if (a' := 15) (pc' := 4) (z := false) rfl rfl rfl (by decide) (fun h => by cases h) (fun _ => ?_)
  refine x_throw rfl rfl ?_
  refine sK_n (by decide +kernel) rfl ?_
  refine sK_h (h := 15) (by decide +kernel) rfl ?_
  refine x_catch_n (pc' := 16) (ls' := [_, _, _, _]) rfl rfl rfl rfl ?_
  refine x_iconst (pc' := 17) rfl rfl ?_
  refine x_reti rfl rfl ?_
  refine sK_i (pc' := 347) rfl ?_
  refine x_istore (pc' := 349) (ls' := [_, _, _, _, _, _, _]) rfl rfl rfl rfl ?_
  refine x_aload_n (pc' := 350) rfl rfl rfl rfl rfl ?_
  refine x_aload_n (pc' := 351) rfl rfl rfl rfl rfl ?_
  refine x_iload (pc' := 353) rfl rfl rfl ?_
  refine x_iconst (pc' := 354) rfl rfl ?_
  refine x_iadd (pc' := 355) (z := 1) rfl rfl (by decide) ?_
  refine x_iald (pc' := 356) (N := 7) (x := 1) rfl rfl rfl (Eq.trans rdNthr (z_N_29_0 e)) (io_in (p := 1) (N := 7) (by decide) (by decide)) (Eq.trans (congrArg (sA (sThr t) 29 0) (nn_io (p := 1) (by decide))) (Eq.trans rdAthr (Eq.trans (z_A_29_0_1 e) e0))) ?_
  refine x_cv (ls0 := [_, _, sJk, sJk, sJk, sJk, sJk, sJk, sJk]) (rest := []) rfl rfl rfl rfl rfl ?_
  refine x_iload_n (pc' := 1) rfl rfl rfl ?_
  refine x_cs (ls0 := [_]) (rest := []) rfl rfl rfl rfl ?_
  refine x_iload_n (pc' := 1) rfl rfl rfl ?_
  refine x_iconst (pc' := 2) rfl rfl ?_
  refine x_iconst (pc' := 3) rfl rfl ?_
  refine x_cs (ls0 := [_, _, _]) (rest := []) rfl rfl rfl rfl ?_
  refine x_iload_n (pc' := 1) rfl rfl rfl ?_
  refine x_iload_n (pc' := 2) rfl rfl rfl ?_
  refine x_icmp (a' := 14) (pc' := 5) (z := false) rfl rfl rfl (by decide) (fun h => by cases h) (fun _ => ?_)
  refine x_iload_n (pc' := 6) rfl rfl rfl ?_
  refine x_iload_n (pc' := 7) rfl rfl rfl ?_
  refine x_icmp (a' := 14) (pc' := 10) (z := false) rfl rfl rfl (by decide) (fun h => by cases h) (fun _ => ?_)
  refine x_iconst (pc' := 11) rfl rfl ?_
  refine x_goto (pc' := 15) rfl rfl ?_
  refine x_retz (z := true) rfl rfl ?_
  refine sK_i (pc' := 6) rfl ?_
  refine x_retz (z := true) rfl rfl ?_
  refine sK_i (pc' := 4) rfl ?_
  refine x_istore_n (pc' := 5) (ls' := [_, _, _, _, _, _, _, _, _]) rfl rfl rfl rfl ?_
  refine x_aload_n (pc' := 6) rfl rfl rfl rfl rfl ?_
  refine x_iload_n (pc' := 7) rfl rfl rfl ?_
  refine x_if (a' := 14) (pc' := 10) (z := true) rfl rfl rfl (by decide) (fun _ => ?_) (fun h => by cases h)
  refine x_aload_n (pc' := 15) rfl rfl rfl rfl rfl ?_
  refine x_gR (pc' := 18) (r := (some 0)) rfl rfl rfl (Eq.trans rdRthr (z_R_769_0 e)) ?_
  refine x_iload_n (pc' := 19) rfl rfl rfl ?_
  refine x_iald (pc' := 20) (N := 5) (x := 0) rfl rfl rfl (Eq.trans rdNthr (z_N_21_0 e)) (io_in (p := 1) (N := 5) (by decide) (by decide)) (Eq.trans (congrArg (sA (sThr t) 21 0) (nn_io (p := 1) (by decide))) (Eq.trans rdAthr (z_A_21_0_1 e))) ?_
  refine x_iconst (pc' := 21) rfl rfl ?_
  refine x_icmp (a' := 38) (pc' := 24) (z := false) rfl rfl rfl (by decide) (fun h => by cases h) (fun _ => ?_)
  refine x_aload_n (pc' := 25) rfl rfl rfl rfl rfl ?_
  refine x_gR (pc' := 28) (r := (some 0)) rfl rfl rfl (Eq.trans rdRthr (z_R_769_0 e)) ?_
  refine x_iload_n (pc' := 29) rfl rfl rfl ?_
  refine x_iald (pc' := 30) (N := 5) (x := 0) rfl rfl rfl (Eq.trans rdNthr (z_N_21_0 e)) (io_in (p := 1) (N := 5) (by decide) (by decide)) (Eq.trans (congrArg (sA (sThr t) 21 0) (nn_io (p := 1) (by decide))) (Eq.trans rdAthr (z_A_21_0_1 e))) ?_
  refine x_iconst (pc' := 31) rfl rfl ?_
  refine x_icmp (a' := 38) (pc' := 34) (z := false) rfl rfl rfl (by decide) (fun h => by cases h) (fun _ => ?_)
  refine x_iconst (pc' := 35) rfl rfl ?_
  refine x_goto (pc' := 39) rfl rfl ?_
  refine x_cv (ls0 := [_, _]) (rest := []) rfl rfl rfl rfl rfl ?_
  refine x_aload_n (pc' := 1) rfl rfl rfl rfl rfl ?_
  refine x_iload_n (pc' := 2) rfl rfl rfl ?_
  refine x_pI (pc' := 5) rfl rfl rfl ?_
  refine x_iload_n (pc' := 6) rfl rfl rfl ?_
  refine x_if (a' := 13) (pc' := 9) (z := true) rfl rfl rfl (by decide) (fun _ => ?_) (fun h => by cases h)
  refine x_iconst (pc' := 14) rfl rfl ?_
  refine x_retz (z := false) rfl rfl ?_
  refine sK_i (pc' := 42) rfl ?_
  refine x_if (a' := 47) (pc' := 45) (z := false) rfl rfl rfl (by decide) (fun h => by cases h) (fun _ => ?_)
  refine x_iconst (pc' := 46) rfl rfl ?_
  refine x_reti rfl rfl ?_
  refine sK_i (pc' := 359) rfl ?_
  refine x_istore (pc' := 361) (ls' := [_, _, _, _, _, _, _]) rfl rfl rfl rfl ?_
  refine x_aload_n (pc' := 362) rfl rfl rfl rfl rfl ?_
  refine x_cv (ls0 := [_]) (rest := []) rfl rfl rfl rfl rfl ?_
  refine x_aload_n (pc' := 1) rfl rfl rfl rfl rfl ?_
  refine x_gI (pc' := 4) (x := 2) rfl rfl rfl sI_s ?_
  refine x_reti rfl rfl ?_
  refine sK_i (pc' := 365) rfl ?_
  refine x_iload (pc' := 367) rfl rfl rfl ?_
  refine x_icmp (a' := 372) (pc' := 370) (z := true) rfl rfl rfl (by decide) (fun _ => ?_) (fun h => by cases h)
  refine x_iload (pc' := 374) rfl rfl rfl ?_
  refine x_if (a' := 389) (pc' := 377) (z := true) rfl rfl rfl (by decide) (fun _ => ?_) (fun h => by cases h)
  refine x_goto (pc' := 2938) rfl rfl ?_
  refine x_iinc (pc' := 2941) (y := 7) (ls' := [_, _, _, _, _, _, _]) rfl rfl rfl rfl rfl ?_
  refine x_goto (pc' := 23) rfl rfl ?_
  refine x_iload (pc' := 25) rfl rfl rfl ?_
  refine x_aload_n (pc' := 26) rfl rfl rfl rfl rfl ?_
  refine x_alen (pc' := 27) (N := 7) rfl rfl rfl (Eq.trans rdNI (Eq.trans rdNthr (z_N_29_0 e))) (?_ : X _ _ _ (.inl 7 :: _) _ _)
  refine x_bipush (pc' := 29) rfl rfl ?_
  refine x_isub (pc' := 30) (z := 0) rfl rfl (by decide) ?_
  refine x_icmp (a' := 2944) (pc' := 33) (z := true) rfl rfl rfl (by decide) (fun _ => ?_) (fun h => by cases h)
  refine x_iconst (pc' := 2945) rfl rfl ?_
  refine x_retz (z := true) rfl rfl ?_
  exact Qp_ok e (p := 1) (q := 6) rfl rfl rfl rfl
set_option maxHeartbeats 4000000 in
set_option maxRecDepth 10000 in
theorem v_2_2 {t : sT} {xs : Nat → Int32}
    (e : t = T16 7 xs)
    (hk : ((xs 0) &&& 63) = 2)
    (e0 : xs 1 = 2) :
    X 297 23 [.inr (.inr (29, (some 0))), .inr (.inr (11, (some 0))), .inr (.inr (12, (some 0))), .inr (.inr (23, (some 0))), .inl 0, sJk, sJk] [] t Qp := by
  refine x_iload (pc' := 25) rfl rfl rfl ?_
  refine x_aload_n (pc' := 26) rfl rfl rfl rfl rfl ?_
  refine x_alen (pc' := 27) (N := 7) rfl rfl rfl (z_N_29_0 e) (?_ : X _ _ _ (.inl 7 :: _) _ _)
  refine x_bipush (pc' := 29) rfl rfl ?_
  refine x_isub (pc' := 30) (z := 0) rfl rfl (by decide) ?_
  refine x_icmp (a' := 2944) (pc' := 33) (z := false) rfl rfl rfl (by decide) (fun h => by cases h) (fun _ => ?_)
  refine x_aload_n (pc' := 34) rfl rfl rfl rfl rfl ?_
  refine x_iload (pc' := 36) rfl rfl rfl ?_
  refine x_iald (pc' := 37) (N := 7) (x := (xs 0)) rfl rfl rfl (z_N_29_0 e) (io_in (p := 0) (N := 7) (by decide) (by decide)) (Eq.trans (congrArg (sA t 29 0) (nn_io (p := 0) (by decide))) (z_A_29_0_0 e)) ?_
  refine x_bipush (pc' := 39) rfl rfl ?_
  refine x_iand (pc' := 40) (z := ((xs 0) &&& 63)) rfl rfl rfl ?_
  refine x_switch (pc' := 336) rfl (by rw [hk]; decide) ?_
  refine x_aload_n (pc' := 337) rfl rfl rfl rfl rfl ?_
  refine x_aload_n (pc' := 338) rfl rfl rfl rfl rfl ?_
  refine x_iload (pc' := 340) rfl rfl rfl ?_
  refine x_iconst (pc' := 341) rfl rfl ?_
  refine x_iadd (pc' := 342) (z := 1) rfl rfl (by decide) ?_
  refine x_iald (pc' := 343) (N := 7) (x := 2) rfl rfl rfl (z_N_29_0 e) (io_in (p := 1) (N := 7) (by decide) (by decide)) (Eq.trans (congrArg (sA t 29 0) (nn_io (p := 1) (by decide))) (Eq.trans (z_A_29_0_1 e) e0)) ?_
  refine x_aload_n (pc' := 344) rfl rfl rfl rfl rfl ?_
  refine x_cs (ls0 := [_, _, _, sJk]) (rest := []) rfl rfl rfl rfl ?_
  refine x_aload_n (pc' := 1) rfl rfl rfl rfl rfl ?_
  refine x_iconst (pc' := 2) rfl rfl ?_
  refine x_aload_n (pc' := 3) rfl rfl rfl rfl rfl ?_
  refine x_iload_n (pc' := 4) rfl rfl rfl ?_
  refine x_cv (ls0 := [_, _, sJk, sJk]) (rest := [_, _]) rfl rfl rfl rfl rfl ?_
  refine x_aload_n (pc' := 1) rfl rfl rfl rfl rfl ?_
  refine x_iload_n (pc' := 2) rfl rfl rfl ?_
  refine x_cv (ls0 := [_, _]) (rest := []) rfl rfl rfl rfl rfl ?_
  refine x_iload_n (pc' := 1) rfl rfl rfl ?_
  refine x_if (a' := 16) (pc' := 4) (z := false) rfl rfl rfl (by decide) (fun h => by cases h) (fun _ => ?_)
  refine x_iload_n (pc' := 5) rfl rfl rfl ?_
  refine x_aload_n (pc' := 6) rfl rfl rfl rfl rfl ?_
  refine x_gR (pc' := 9) (r := (some 0)) rfl rfl rfl (z_R_705_0 e) ?_
  refine x_gR (pc' := 12) (r := (some 0)) rfl rfl rfl (z_R_256_0 e) ?_
  refine x_alen (pc' := 13) (N := 5) rfl rfl rfl (z_N_24_0 e) (?_ : X _ _ _ (.inl 5 :: _) _ _)
  refine x_icmp (a' := 27) (pc' := 16) (z := true) rfl rfl rfl (by decide) (fun _ => ?_) (fun h => by cases h)
  refine x_aload_n (pc' := 28) rfl rfl rfl rfl rfl ?_
  refine x_gR (pc' := 31) (r := (some 0)) rfl rfl rfl (z_R_705_0 e) ?_
  refine x_gR (pc' := 34) (r := (some 0)) rfl rfl rfl (z_R_256_0 e) ?_
  refine x_iload_n (pc' := 35) rfl rfl rfl ?_
  refine x_aald (pc' := 36) (N := 5) (k' := 1) (r := (some 2)) rfl rfl rfl (z_N_24_0 e) (io_in (p := 2) (N := 5) (by decide) (by decide)) (Eq.trans (congrArg (sE t 24 0) (nn_io (p := 2) (by decide))) (z_E_24_0_2 e)) ?_
  refine x_reta rfl rfl ?_
  refine sK_i (pc' := 5) rfl ?_
  refine x_astore_n (pc' := 6) (ls' := [_, _, _, _]) rfl rfl rfl rfl rfl ?_
  refine x_aload_n (pc' := 7) rfl rfl rfl rfl rfl ?_
  refine x_gI (pc' := 10) (x := 0) rfl rfl rfl (z_I_67_2 e) ?_
  refine x_iconst (pc' := 11) rfl rfl ?_
  refine x_icmp (a' := 22) (pc' := 14) (z := false) rfl rfl rfl (by decide) (fun h => by cases h) (fun _ => ?_)
  refine x_aload_n (pc' := 15) rfl rfl rfl rfl rfl ?_
  refine x_gI (pc' := 18) (x := 0) rfl rfl rfl (z_I_67_2 e) ?_
  refine x_iconst (pc' := 19) rfl rfl ?_
  refine x_icmp (a' := 26) (pc' := 22) (z := true) rfl rfl rfl (by decide) (fun _ => ?_) (fun h => by cases h)
  refine x_iconst (pc' := 27) rfl rfl ?_
  refine x_cs (ls0 := [_]) (rest := []) rfl rfl rfl rfl ?_
  refine x_iload_n (pc' := 1) rfl rfl rfl ?_
  refine x_if (a' := 15) (pc' := 4) (z := false) rfl rfl rfl (by decide) (fun h => by cases h) (fun _ => ?_)
  refine x_throw rfl rfl ?_
  refine sK_n (by decide +kernel) rfl ?_
  refine sK_h (h := 15) (by decide +kernel) rfl ?_
  refine x_catch_n (pc' := 16) (ls' := [_, _, _, _]) rfl rfl rfl rfl ?_
  refine x_iconst (pc' := 17) rfl rfl ?_
  refine x_reti rfl rfl ?_
  refine sK_i (pc' := 347) rfl ?_
  refine x_istore (pc' := 349) (ls' := [_, _, _, _, _, _, _]) rfl rfl rfl rfl ?_
  refine x_aload_n (pc' := 350) rfl rfl rfl rfl rfl ?_
  refine x_aload_n (pc' := 351) rfl rfl rfl rfl rfl ?_
  refine x_iload (pc' := 353) rfl rfl rfl ?_
  refine x_iconst (pc' := 354) rfl rfl ?_
  refine x_iadd (pc' := 355) (z := 1) rfl rfl (by decide) ?_
  refine x_iald (pc' := 356) (N := 7) (x := 2) rfl rfl rfl (Eq.trans rdNthr (z_N_29_0 e)) (io_in (p := 1) (N := 7) (by decide) (by decide)) (Eq.trans (congrArg (sA (sThr t) 29 0) (nn_io (p := 1) (by decide))) (Eq.trans rdAthr (Eq.trans (z_A_29_0_1 e) e0))) ?_
  refine x_cv (ls0 := [_, _, sJk, sJk, sJk, sJk, sJk, sJk, sJk]) (rest := []) rfl rfl rfl rfl rfl ?_
  refine x_iload_n (pc' := 1) rfl rfl rfl ?_
  refine x_cs (ls0 := [_]) (rest := []) rfl rfl rfl rfl ?_
  refine x_iload_n (pc' := 1) rfl rfl rfl ?_
  refine x_iconst (pc' := 2) rfl rfl ?_
  refine x_iconst (pc' := 3) rfl rfl ?_
  refine x_cs (ls0 := [_, _, _]) (rest := []) rfl rfl rfl rfl ?_
  refine x_iload_n (pc' := 1) rfl rfl rfl ?_
  refine x_iload_n (pc' := 2) rfl rfl rfl ?_
  refine x_icmp (a' := 14) (pc' := 5) (z := false) rfl rfl rfl (by decide) (fun h => by cases h) (fun _ => ?_)
  refine x_iload_n (pc' := 6) rfl rfl rfl ?_
  refine x_iload_n (pc' := 7) rfl rfl rfl ?_
  refine x_icmp (a' := 14) (pc' := 10) (z := false) rfl rfl rfl (by decide) (fun h => by cases h) (fun _ => ?_)
  refine x_iconst (pc' := 11) rfl rfl ?_
  refine x_goto (pc' := 15) rfl rfl ?_
  refine x_retz (z := true) rfl rfl ?_
  refine sK_i (pc' := 6) rfl ?_
  refine x_retz (z := true) rfl rfl ?_
  refine sK_i (pc' := 4) rfl ?_
  refine x_istore_n (pc' := 5) (ls' := [_, _, _, _, _, _, _, _, _]) rfl rfl rfl rfl ?_
  refine x_aload_n (pc' := 6) rfl rfl rfl rfl rfl ?_
  refine x_iload_n (pc' := 7) rfl rfl rfl ?_
  refine x_if (a' := 14) (pc' := 10) (z := true) rfl rfl rfl (by decide) (fun _ => ?_) (fun h => by cases h)
  refine x_aload_n (pc' := 15) rfl rfl rfl rfl rfl ?_
  refine x_gR (pc' := 18) (r := (some 0)) rfl rfl rfl (Eq.trans rdRthr (z_R_769_0 e)) ?_
  refine x_iload_n (pc' := 19) rfl rfl rfl ?_
  refine x_iald (pc' := 20) (N := 5) (x := 0) rfl rfl rfl (Eq.trans rdNthr (z_N_21_0 e)) (io_in (p := 2) (N := 5) (by decide) (by decide)) (Eq.trans (congrArg (sA (sThr t) 21 0) (nn_io (p := 2) (by decide))) (Eq.trans rdAthr (z_A_21_0_2 e))) ?_
  refine x_iconst (pc' := 21) rfl rfl ?_
  refine x_icmp (a' := 38) (pc' := 24) (z := false) rfl rfl rfl (by decide) (fun h => by cases h) (fun _ => ?_)
  refine x_aload_n (pc' := 25) rfl rfl rfl rfl rfl ?_
  refine x_gR (pc' := 28) (r := (some 0)) rfl rfl rfl (Eq.trans rdRthr (z_R_769_0 e)) ?_
  refine x_iload_n (pc' := 29) rfl rfl rfl ?_
  refine x_iald (pc' := 30) (N := 5) (x := 0) rfl rfl rfl (Eq.trans rdNthr (z_N_21_0 e)) (io_in (p := 2) (N := 5) (by decide) (by decide)) (Eq.trans (congrArg (sA (sThr t) 21 0) (nn_io (p := 2) (by decide))) (Eq.trans rdAthr (z_A_21_0_2 e))) ?_
  refine x_iconst (pc' := 31) rfl rfl ?_
  refine x_icmp (a' := 38) (pc' := 34) (z := false) rfl rfl rfl (by decide) (fun h => by cases h) (fun _ => ?_)
  refine x_iconst (pc' := 35) rfl rfl ?_
  refine x_goto (pc' := 39) rfl rfl ?_
  refine x_cv (ls0 := [_, _]) (rest := []) rfl rfl rfl rfl rfl ?_
  refine x_aload_n (pc' := 1) rfl rfl rfl rfl rfl ?_
  refine x_iload_n (pc' := 2) rfl rfl rfl ?_
  refine x_pI (pc' := 5) rfl rfl rfl ?_
  refine x_iload_n (pc' := 6) rfl rfl rfl ?_
  refine x_if (a' := 13) (pc' := 9) (z := true) rfl rfl rfl (by decide) (fun _ => ?_) (fun h => by cases h)
  refine x_iconst (pc' := 14) rfl rfl ?_
  refine x_retz (z := false) rfl rfl ?_
  refine sK_i (pc' := 42) rfl ?_
  refine x_if (a' := 47) (pc' := 45) (z := false) rfl rfl rfl (by decide) (fun h => by cases h) (fun _ => ?_)
  refine x_iconst (pc' := 46) rfl rfl ?_
  refine x_reti rfl rfl ?_
  refine sK_i (pc' := 359) rfl ?_
  refine x_istore (pc' := 361) (ls' := [_, _, _, _, _, _, _]) rfl rfl rfl rfl ?_
  refine x_aload_n (pc' := 362) rfl rfl rfl rfl rfl ?_
  refine x_cv (ls0 := [_]) (rest := []) rfl rfl rfl rfl rfl ?_
  refine x_aload_n (pc' := 1) rfl rfl rfl rfl rfl ?_
  refine x_gI (pc' := 4) (x := 2) rfl rfl rfl sI_s ?_
  refine x_reti rfl rfl ?_
  refine sK_i (pc' := 365) rfl ?_
  refine x_iload (pc' := 367) rfl rfl rfl ?_
  refine x_icmp (a' := 372) (pc' := 370) (z := true) rfl rfl rfl (by decide) (fun _ => ?_) (fun h => by cases h)
  refine x_iload (pc' := 374) rfl rfl rfl ?_
  refine x_if (a' := 389) (pc' := 377) (z := true) rfl rfl rfl (by decide) (fun _ => ?_) (fun h => by cases h)
  refine x_goto (pc' := 2938) rfl rfl ?_
  refine x_iinc (pc' := 2941) (y := 7) (ls' := [_, _, _, _, _, _, _]) rfl rfl rfl rfl rfl ?_
  refine x_goto (pc' := 23) rfl rfl ?_
  refine x_iload (pc' := 25) rfl rfl rfl ?_
  refine x_aload_n (pc' := 26) rfl rfl rfl rfl rfl ?_
  refine x_alen (pc' := 27) (N := 7) rfl rfl rfl (Eq.trans rdNI (Eq.trans rdNthr (z_N_29_0 e))) (?_ : X _ _ _ (.inl 7 :: _) _ _)
  refine x_bipush (pc' := 29) rfl rfl ?_
  refine x_isub (pc' := 30) (z := 0) rfl rfl (by decide) ?_
  refine x_icmp (a' := 2944) (pc' := 33) (z := true) rfl rfl rfl (by decide) (fun _ => ?_) (fun h => by cases h)
  refine x_iconst (pc' := 2945) rfl rfl ?_
  refine x_retz (z := true) rfl rfl ?_
  exact Qp_ok e (p := 1) (q := 6) rfl rfl rfl rfl
set_option maxHeartbeats 4000000 in
set_option maxRecDepth 10000 in
theorem v_2_3 {t : sT} {xs : Nat → Int32}
    (e : t = T16 7 xs)
    (hk : ((xs 0) &&& 63) = 2)
    (e0 : xs 1 = 3) :
    X 297 23 [.inr (.inr (29, (some 0))), .inr (.inr (11, (some 0))), .inr (.inr (12, (some 0))), .inr (.inr (23, (some 0))), .inl 0, sJk, sJk] [] t Qp := by
  refine x_iload (pc' := 25) rfl rfl rfl ?_
  refine x_aload_n (pc' := 26) rfl rfl rfl rfl rfl ?_
  refine x_alen (pc' := 27) (N := 7) rfl rfl rfl (z_N_29_0 e) (?_ : X _ _ _ (.inl 7 :: _) _ _)
  refine x_bipush (pc' := 29) rfl rfl ?_
  refine x_isub (pc' := 30) (z := 0) rfl rfl (by decide) ?_
  refine x_icmp (a' := 2944) (pc' := 33) (z := false) rfl rfl rfl (by decide) (fun h => by cases h) (fun _ => ?_)
  refine x_aload_n (pc' := 34) rfl rfl rfl rfl rfl ?_
  refine x_iload (pc' := 36) rfl rfl rfl ?_
  refine x_iald (pc' := 37) (N := 7) (x := (xs 0)) rfl rfl rfl (z_N_29_0 e) (io_in (p := 0) (N := 7) (by decide) (by decide)) (Eq.trans (congrArg (sA t 29 0) (nn_io (p := 0) (by decide))) (z_A_29_0_0 e)) ?_
  refine x_bipush (pc' := 39) rfl rfl ?_
  refine x_iand (pc' := 40) (z := ((xs 0) &&& 63)) rfl rfl rfl ?_
  refine x_switch (pc' := 336) rfl (by rw [hk]; decide) ?_
  refine x_aload_n (pc' := 337) rfl rfl rfl rfl rfl ?_
  refine x_aload_n (pc' := 338) rfl rfl rfl rfl rfl ?_
  refine x_iload (pc' := 340) rfl rfl rfl ?_
  refine x_iconst (pc' := 341) rfl rfl ?_
  refine x_iadd (pc' := 342) (z := 1) rfl rfl (by decide) ?_
  refine x_iald (pc' := 343) (N := 7) (x := 3) rfl rfl rfl (z_N_29_0 e) (io_in (p := 1) (N := 7) (by decide) (by decide)) (Eq.trans (congrArg (sA t 29 0) (nn_io (p := 1) (by decide))) (Eq.trans (z_A_29_0_1 e) e0)) ?_
  refine x_aload_n (pc' := 344) rfl rfl rfl rfl rfl ?_
  refine x_cs (ls0 := [_, _, _, sJk]) (rest := []) rfl rfl rfl rfl ?_
  refine x_aload_n (pc' := 1) rfl rfl rfl rfl rfl ?_
  refine x_iconst (pc' := 2) rfl rfl ?_
  refine x_aload_n (pc' := 3) rfl rfl rfl rfl rfl ?_
  refine x_iload_n (pc' := 4) rfl rfl rfl ?_
  refine x_cv (ls0 := [_, _, sJk, sJk]) (rest := [_, _]) rfl rfl rfl rfl rfl ?_
  refine x_aload_n (pc' := 1) rfl rfl rfl rfl rfl ?_
  refine x_iload_n (pc' := 2) rfl rfl rfl ?_
  refine x_cv (ls0 := [_, _]) (rest := []) rfl rfl rfl rfl rfl ?_
  refine x_iload_n (pc' := 1) rfl rfl rfl ?_
  refine x_if (a' := 16) (pc' := 4) (z := false) rfl rfl rfl (by decide) (fun h => by cases h) (fun _ => ?_)
  refine x_iload_n (pc' := 5) rfl rfl rfl ?_
  refine x_aload_n (pc' := 6) rfl rfl rfl rfl rfl ?_
  refine x_gR (pc' := 9) (r := (some 0)) rfl rfl rfl (z_R_705_0 e) ?_
  refine x_gR (pc' := 12) (r := (some 0)) rfl rfl rfl (z_R_256_0 e) ?_
  refine x_alen (pc' := 13) (N := 5) rfl rfl rfl (z_N_24_0 e) (?_ : X _ _ _ (.inl 5 :: _) _ _)
  refine x_icmp (a' := 27) (pc' := 16) (z := true) rfl rfl rfl (by decide) (fun _ => ?_) (fun h => by cases h)
  refine x_aload_n (pc' := 28) rfl rfl rfl rfl rfl ?_
  refine x_gR (pc' := 31) (r := (some 0)) rfl rfl rfl (z_R_705_0 e) ?_
  refine x_gR (pc' := 34) (r := (some 0)) rfl rfl rfl (z_R_256_0 e) ?_
  refine x_iload_n (pc' := 35) rfl rfl rfl ?_
  refine x_aald (pc' := 36) (N := 5) (k' := 1) (r := (some 3)) rfl rfl rfl (z_N_24_0 e) (io_in (p := 3) (N := 5) (by decide) (by decide)) (Eq.trans (congrArg (sE t 24 0) (nn_io (p := 3) (by decide))) (z_E_24_0_3 e)) ?_
  refine x_reta rfl rfl ?_
  refine sK_i (pc' := 5) rfl ?_
  refine x_astore_n (pc' := 6) (ls' := [_, _, _, _]) rfl rfl rfl rfl rfl ?_
  refine x_aload_n (pc' := 7) rfl rfl rfl rfl rfl ?_
  refine x_gI (pc' := 10) (x := 0) rfl rfl rfl (z_I_67_3 e) ?_
  refine x_iconst (pc' := 11) rfl rfl ?_
  refine x_icmp (a' := 22) (pc' := 14) (z := false) rfl rfl rfl (by decide) (fun h => by cases h) (fun _ => ?_)
  refine x_aload_n (pc' := 15) rfl rfl rfl rfl rfl ?_
  refine x_gI (pc' := 18) (x := 0) rfl rfl rfl (z_I_67_3 e) ?_
  refine x_iconst (pc' := 19) rfl rfl ?_
  refine x_icmp (a' := 26) (pc' := 22) (z := true) rfl rfl rfl (by decide) (fun _ => ?_) (fun h => by cases h)
  refine x_iconst (pc' := 27) rfl rfl ?_
  refine x_cs (ls0 := [_]) (rest := []) rfl rfl rfl rfl ?_
  refine x_iload_n (pc' := 1) rfl rfl rfl ?_
  refine x_if (a' := 15) (pc' := 4) (z := false) rfl rfl rfl (by decide) (fun h => by cases h) (fun _ => ?_)
  refine x_throw rfl rfl ?_
  refine sK_n (by decide +kernel) rfl ?_
  refine sK_h (h := 15) (by decide +kernel) rfl ?_
  refine x_catch_n (pc' := 16) (ls' := [_, _, _, _]) rfl rfl rfl rfl ?_
  refine x_iconst (pc' := 17) rfl rfl ?_
  refine x_reti rfl rfl ?_
  refine sK_i (pc' := 347) rfl ?_
  refine x_istore (pc' := 349) (ls' := [_, _, _, _, _, _, _]) rfl rfl rfl rfl ?_
  refine x_aload_n (pc' := 350) rfl rfl rfl rfl rfl ?_
  refine x_aload_n (pc' := 351) rfl rfl rfl rfl rfl ?_
  refine x_iload (pc' := 353) rfl rfl rfl ?_
  refine x_iconst (pc' := 354) rfl rfl ?_
  refine x_iadd (pc' := 355) (z := 1) rfl rfl (by decide) ?_
  refine x_iald (pc' := 356) (N := 7) (x := 3) rfl rfl rfl (Eq.trans rdNthr (z_N_29_0 e)) (io_in (p := 1) (N := 7) (by decide) (by decide)) (Eq.trans (congrArg (sA (sThr t) 29 0) (nn_io (p := 1) (by decide))) (Eq.trans rdAthr (Eq.trans (z_A_29_0_1 e) e0))) ?_
  refine x_cv (ls0 := [_, _, sJk, sJk, sJk, sJk, sJk, sJk, sJk]) (rest := []) rfl rfl rfl rfl rfl ?_
  refine x_iload_n (pc' := 1) rfl rfl rfl ?_
  refine x_cs (ls0 := [_]) (rest := []) rfl rfl rfl rfl ?_
  refine x_iload_n (pc' := 1) rfl rfl rfl ?_
  refine x_iconst (pc' := 2) rfl rfl ?_
  refine x_iconst (pc' := 3) rfl rfl ?_
  refine x_cs (ls0 := [_, _, _]) (rest := []) rfl rfl rfl rfl ?_
  refine x_iload_n (pc' := 1) rfl rfl rfl ?_
  refine x_iload_n (pc' := 2) rfl rfl rfl ?_
  refine x_icmp (a' := 14) (pc' := 5) (z := false) rfl rfl rfl (by decide) (fun h => by cases h) (fun _ => ?_)
  refine x_iload_n (pc' := 6) rfl rfl rfl ?_
  refine x_iload_n (pc' := 7) rfl rfl rfl ?_
  refine x_icmp (a' := 14) (pc' := 10) (z := false) rfl rfl rfl (by decide) (fun h => by cases h) (fun _ => ?_)
  refine x_iconst (pc' := 11) rfl rfl ?_
  refine x_goto (pc' := 15) rfl rfl ?_
  refine x_retz (z := true) rfl rfl ?_
  refine sK_i (pc' := 6) rfl ?_
  refine x_retz (z := true) rfl rfl ?_
  refine sK_i (pc' := 4) rfl ?_
  refine x_istore_n (pc' := 5) (ls' := [_, _, _, _, _, _, _, _, _]) rfl rfl rfl rfl ?_
  refine x_aload_n (pc' := 6) rfl rfl rfl rfl rfl ?_
  refine x_iload_n (pc' := 7) rfl rfl rfl ?_
  refine x_if (a' := 14) (pc' := 10) (z := true) rfl rfl rfl (by decide) (fun _ => ?_) (fun h => by cases h)
  refine x_aload_n (pc' := 15) rfl rfl rfl rfl rfl ?_
  refine x_gR (pc' := 18) (r := (some 0)) rfl rfl rfl (Eq.trans rdRthr (z_R_769_0 e)) ?_
  refine x_iload_n (pc' := 19) rfl rfl rfl ?_
  refine x_iald (pc' := 20) (N := 5) (x := 0) rfl rfl rfl (Eq.trans rdNthr (z_N_21_0 e)) (io_in (p := 3) (N := 5) (by decide) (by decide)) (Eq.trans (congrArg (sA (sThr t) 21 0) (nn_io (p := 3) (by decide))) (Eq.trans rdAthr (z_A_21_0_3 e))) ?_
  refine x_iconst (pc' := 21) rfl rfl ?_
  refine x_icmp (a' := 38) (pc' := 24) (z := false) rfl rfl rfl (by decide) (fun h => by cases h) (fun _ => ?_)
  refine x_aload_n (pc' := 25) rfl rfl rfl rfl rfl ?_
  refine x_gR (pc' := 28) (r := (some 0)) rfl rfl rfl (Eq.trans rdRthr (z_R_769_0 e)) ?_
  refine x_iload_n (pc' := 29) rfl rfl rfl ?_
  refine x_iald (pc' := 30) (N := 5) (x := 0) rfl rfl rfl (Eq.trans rdNthr (z_N_21_0 e)) (io_in (p := 3) (N := 5) (by decide) (by decide)) (Eq.trans (congrArg (sA (sThr t) 21 0) (nn_io (p := 3) (by decide))) (Eq.trans rdAthr (z_A_21_0_3 e))) ?_
  refine x_iconst (pc' := 31) rfl rfl ?_
  refine x_icmp (a' := 38) (pc' := 34) (z := false) rfl rfl rfl (by decide) (fun h => by cases h) (fun _ => ?_)
  refine x_iconst (pc' := 35) rfl rfl ?_
  refine x_goto (pc' := 39) rfl rfl ?_
  refine x_cv (ls0 := [_, _]) (rest := []) rfl rfl rfl rfl rfl ?_
  refine x_aload_n (pc' := 1) rfl rfl rfl rfl rfl ?_
  refine x_iload_n (pc' := 2) rfl rfl rfl ?_
  refine x_pI (pc' := 5) rfl rfl rfl ?_
  refine x_iload_n (pc' := 6) rfl rfl rfl ?_
  refine x_if (a' := 13) (pc' := 9) (z := true) rfl rfl rfl (by decide) (fun _ => ?_) (fun h => by cases h)
  refine x_iconst (pc' := 14) rfl rfl ?_
  refine x_retz (z := false) rfl rfl ?_
  refine sK_i (pc' := 42) rfl ?_
  refine x_if (a' := 47) (pc' := 45) (z := false) rfl rfl rfl (by decide) (fun h => by cases h) (fun _ => ?_)
  refine x_iconst (pc' := 46) rfl rfl ?_
  refine x_reti rfl rfl ?_
  refine sK_i (pc' := 359) rfl ?_
  refine x_istore (pc' := 361) (ls' := [_, _, _, _, _, _, _]) rfl rfl rfl rfl ?_
  refine x_aload_n (pc' := 362) rfl rfl rfl rfl rfl ?_
  refine x_cv (ls0 := [_]) (rest := []) rfl rfl rfl rfl rfl ?_
  refine x_aload_n (pc' := 1) rfl rfl rfl rfl rfl ?_
  refine x_gI (pc' := 4) (x := 2) rfl rfl rfl sI_s ?_
  refine x_reti rfl rfl ?_
  refine sK_i (pc' := 365) rfl ?_
  refine x_iload (pc' := 367) rfl rfl rfl ?_
  refine x_icmp (a' := 372) (pc' := 370) (z := true) rfl rfl rfl (by decide) (fun _ => ?_) (fun h => by cases h)
  refine x_iload (pc' := 374) rfl rfl rfl ?_
  refine x_if (a' := 389) (pc' := 377) (z := true) rfl rfl rfl (by decide) (fun _ => ?_) (fun h => by cases h)
  refine x_goto (pc' := 2938) rfl rfl ?_
  refine x_iinc (pc' := 2941) (y := 7) (ls' := [_, _, _, _, _, _, _]) rfl rfl rfl rfl rfl ?_
  refine x_goto (pc' := 23) rfl rfl ?_
  refine x_iload (pc' := 25) rfl rfl rfl ?_
  refine x_aload_n (pc' := 26) rfl rfl rfl rfl rfl ?_
  refine x_alen (pc' := 27) (N := 7) rfl rfl rfl (Eq.trans rdNI (Eq.trans rdNthr (z_N_29_0 e))) (?_ : X _ _ _ (.inl 7 :: _) _ _)
  refine x_bipush (pc' := 29) rfl rfl ?_
  refine x_isub (pc' := 30) (z := 0) rfl rfl (by decide) ?_
  refine x_icmp (a' := 2944) (pc' := 33) (z := true) rfl rfl rfl (by decide) (fun _ => ?_) (fun h => by cases h)
  refine x_iconst (pc' := 2945) rfl rfl ?_
  refine x_retz (z := true) rfl rfl ?_
  exact Qp_ok e (p := 1) (q := 6) rfl rfl rfl rfl
set_option maxHeartbeats 4000000 in
set_option maxRecDepth 10000 in
theorem v_2_4 {t : sT} {xs : Nat → Int32}
    (e : t = T16 7 xs)
    (hk : ((xs 0) &&& 63) = 2)
    (e0 : xs 1 = 4) :
    X 297 23 [.inr (.inr (29, (some 0))), .inr (.inr (11, (some 0))), .inr (.inr (12, (some 0))), .inr (.inr (23, (some 0))), .inl 0, sJk, sJk] [] t Qp := by
  refine x_iload (pc' := 25) rfl rfl rfl ?_
  refine x_aload_n (pc' := 26) rfl rfl rfl rfl rfl ?_
  refine x_alen (pc' := 27) (N := 7) rfl rfl rfl (z_N_29_0 e) (?_ : X _ _ _ (.inl 7 :: _) _ _)
  refine x_bipush (pc' := 29) rfl rfl ?_
  refine x_isub (pc' := 30) (z := 0) rfl rfl (by decide) ?_
  refine x_icmp (a' := 2944) (pc' := 33) (z := false) rfl rfl rfl (by decide) (fun h => by cases h) (fun _ => ?_)
  refine x_aload_n (pc' := 34) rfl rfl rfl rfl rfl ?_
  refine x_iload (pc' := 36) rfl rfl rfl ?_
  refine x_iald (pc' := 37) (N := 7) (x := (xs 0)) rfl rfl rfl (z_N_29_0 e) (io_in (p := 0) (N := 7) (by decide) (by decide)) (Eq.trans (congrArg (sA t 29 0) (nn_io (p := 0) (by decide))) (z_A_29_0_0 e)) ?_
  refine x_bipush (pc' := 39) rfl rfl ?_
  refine x_iand (pc' := 40) (z := ((xs 0) &&& 63)) rfl rfl rfl ?_
  refine x_switch (pc' := 336) rfl (by rw [hk]; decide) ?_
  refine x_aload_n (pc' := 337) rfl rfl rfl rfl rfl ?_
  refine x_aload_n (pc' := 338) rfl rfl rfl rfl rfl ?_
  refine x_iload (pc' := 340) rfl rfl rfl ?_
  refine x_iconst (pc' := 341) rfl rfl ?_
  refine x_iadd (pc' := 342) (z := 1) rfl rfl (by decide) ?_
  refine x_iald (pc' := 343) (N := 7) (x := 4) rfl rfl rfl (z_N_29_0 e) (io_in (p := 1) (N := 7) (by decide) (by decide)) (Eq.trans (congrArg (sA t 29 0) (nn_io (p := 1) (by decide))) (Eq.trans (z_A_29_0_1 e) e0)) ?_
  refine x_aload_n (pc' := 344) rfl rfl rfl rfl rfl ?_
  refine x_cs (ls0 := [_, _, _, sJk]) (rest := []) rfl rfl rfl rfl ?_
  refine x_aload_n (pc' := 1) rfl rfl rfl rfl rfl ?_
  refine x_iconst (pc' := 2) rfl rfl ?_
  refine x_aload_n (pc' := 3) rfl rfl rfl rfl rfl ?_
  refine x_iload_n (pc' := 4) rfl rfl rfl ?_
  refine x_cv (ls0 := [_, _, sJk, sJk]) (rest := [_, _]) rfl rfl rfl rfl rfl ?_
  refine x_aload_n (pc' := 1) rfl rfl rfl rfl rfl ?_
  refine x_iload_n (pc' := 2) rfl rfl rfl ?_
  refine x_cv (ls0 := [_, _]) (rest := []) rfl rfl rfl rfl rfl ?_
  refine x_iload_n (pc' := 1) rfl rfl rfl ?_
  refine x_if (a' := 16) (pc' := 4) (z := false) rfl rfl rfl (by decide) (fun h => by cases h) (fun _ => ?_)
  refine x_iload_n (pc' := 5) rfl rfl rfl ?_
  refine x_aload_n (pc' := 6) rfl rfl rfl rfl rfl ?_
  refine x_gR (pc' := 9) (r := (some 0)) rfl rfl rfl (z_R_705_0 e) ?_
  refine x_gR (pc' := 12) (r := (some 0)) rfl rfl rfl (z_R_256_0 e) ?_
  refine x_alen (pc' := 13) (N := 5) rfl rfl rfl (z_N_24_0 e) (?_ : X _ _ _ (.inl 5 :: _) _ _)
  refine x_icmp (a' := 27) (pc' := 16) (z := true) rfl rfl rfl (by decide) (fun _ => ?_) (fun h => by cases h)
  refine x_aload_n (pc' := 28) rfl rfl rfl rfl rfl ?_
  refine x_gR (pc' := 31) (r := (some 0)) rfl rfl rfl (z_R_705_0 e) ?_
  refine x_gR (pc' := 34) (r := (some 0)) rfl rfl rfl (z_R_256_0 e) ?_
  refine x_iload_n (pc' := 35) rfl rfl rfl ?_
  refine x_aald (pc' := 36) (N := 5) (k' := 1) (r := (some 4)) rfl rfl rfl (z_N_24_0 e) (io_in (p := 4) (N := 5) (by decide) (by decide)) (Eq.trans (congrArg (sE t 24 0) (nn_io (p := 4) (by decide))) (z_E_24_0_4 e)) ?_
  refine x_reta rfl rfl ?_
  refine sK_i (pc' := 5) rfl ?_
  refine x_astore_n (pc' := 6) (ls' := [_, _, _, _]) rfl rfl rfl rfl rfl ?_
  refine x_aload_n (pc' := 7) rfl rfl rfl rfl rfl ?_
  refine x_gI (pc' := 10) (x := 0) rfl rfl rfl (z_I_67_4 e) ?_
  refine x_iconst (pc' := 11) rfl rfl ?_
  refine x_icmp (a' := 22) (pc' := 14) (z := false) rfl rfl rfl (by decide) (fun h => by cases h) (fun _ => ?_)
  refine x_aload_n (pc' := 15) rfl rfl rfl rfl rfl ?_
  refine x_gI (pc' := 18) (x := 0) rfl rfl rfl (z_I_67_4 e) ?_
  refine x_iconst (pc' := 19) rfl rfl ?_
  refine x_icmp (a' := 26) (pc' := 22) (z := true) rfl rfl rfl (by decide) (fun _ => ?_) (fun h => by cases h)
  refine x_iconst (pc' := 27) rfl rfl ?_
  refine x_cs (ls0 := [_]) (rest := []) rfl rfl rfl rfl ?_
  refine x_iload_n (pc' := 1) rfl rfl rfl ?_
  refine x_if (a' := 15) (pc' := 4) (z := false) rfl rfl rfl (by decide) (fun h => by cases h) (fun _ => ?_)
  refine x_throw rfl rfl ?_
  refine sK_n (by decide +kernel) rfl ?_
  refine sK_h (h := 15) (by decide +kernel) rfl ?_
  refine x_catch_n (pc' := 16) (ls' := [_, _, _, _]) rfl rfl rfl rfl ?_
  refine x_iconst (pc' := 17) rfl rfl ?_
  refine x_reti rfl rfl ?_
  refine sK_i (pc' := 347) rfl ?_
  refine x_istore (pc' := 349) (ls' := [_, _, _, _, _, _, _]) rfl rfl rfl rfl ?_
  refine x_aload_n (pc' := 350) rfl rfl rfl rfl rfl ?_
  refine x_aload_n (pc' := 351) rfl rfl rfl rfl rfl ?_
  refine x_iload (pc' := 353) rfl rfl rfl ?_
  refine x_iconst (pc' := 354) rfl rfl ?_
  refine x_iadd (pc' := 355) (z := 1) rfl rfl (by decide) ?_
  refine x_iald (pc' := 356) (N := 7) (x := 4) rfl rfl rfl (Eq.trans rdNthr (z_N_29_0 e)) (io_in (p := 1) (N := 7) (by decide) (by decide)) (Eq.trans (congrArg (sA (sThr t) 29 0) (nn_io (p := 1) (by decide))) (Eq.trans rdAthr (Eq.trans (z_A_29_0_1 e) e0))) ?_
  refine x_cv (ls0 := [_, _, sJk, sJk, sJk, sJk, sJk, sJk, sJk]) (rest := []) rfl rfl rfl rfl rfl ?_
  refine x_iload_n (pc' := 1) rfl rfl rfl ?_
  refine x_cs (ls0 := [_]) (rest := []) rfl rfl rfl rfl ?_
  refine x_iload_n (pc' := 1) rfl rfl rfl ?_
  refine x_iconst (pc' := 2) rfl rfl ?_
  refine x_iconst (pc' := 3) rfl rfl ?_
  refine x_cs (ls0 := [_, _, _]) (rest := []) rfl rfl rfl rfl ?_
  refine x_iload_n (pc' := 1) rfl rfl rfl ?_
  refine x_iload_n (pc' := 2) rfl rfl rfl ?_
  refine x_icmp (a' := 14) (pc' := 5) (z := false) rfl rfl rfl (by decide) (fun h => by cases h) (fun _ => ?_)
  refine x_iload_n (pc' := 6) rfl rfl rfl ?_
  refine x_iload_n (pc' := 7) rfl rfl rfl ?_
  refine x_icmp (a' := 14) (pc' := 10) (z := false) rfl rfl rfl (by decide) (fun h => by cases h) (fun _ => ?_)
  refine x_iconst (pc' := 11) rfl rfl ?_
  refine x_goto (pc' := 15) rfl rfl ?_
  refine x_retz (z := true) rfl rfl ?_
  refine sK_i (pc' := 6) rfl ?_
  refine x_retz (z := true) rfl rfl ?_
  refine sK_i (pc' := 4) rfl ?_
  refine x_istore_n (pc' := 5) (ls' := [_, _, _, _, _, _, _, _, _]) rfl rfl rfl rfl ?_
  refine x_aload_n (pc' := 6) rfl rfl rfl rfl rfl ?_
  refine x_iload_n (pc' := 7) rfl rfl rfl ?_
  refine x_if (a' := 14) (pc' := 10) (z := true) rfl rfl rfl (by decide) (fun _ => ?_) (fun h => by cases h)
  refine x_aload_n (pc' := 15) rfl rfl rfl rfl rfl ?_
  refine x_gR (pc' := 18) (r := (some 0)) rfl rfl rfl (Eq.trans rdRthr (z_R_769_0 e)) ?_
  refine x_iload_n (pc' := 19) rfl rfl rfl ?_
  refine x_iald (pc' := 20) (N := 5) (x := 0) rfl rfl rfl (Eq.trans rdNthr (z_N_21_0 e)) (io_in (p := 4) (N := 5) (by decide) (by decide)) (Eq.trans (congrArg (sA (sThr t) 21 0) (nn_io (p := 4) (by decide))) (Eq.trans rdAthr (z_A_21_0_4 e))) ?_
  refine x_iconst (pc' := 21) rfl rfl ?_
  refine x_icmp (a' := 38) (pc' := 24) (z := false) rfl rfl rfl (by decide) (fun h => by cases h) (fun _ => ?_)
  refine x_aload_n (pc' := 25) rfl rfl rfl rfl rfl ?_
  refine x_gR (pc' := 28) (r := (some 0)) rfl rfl rfl (Eq.trans rdRthr (z_R_769_0 e)) ?_
  refine x_iload_n (pc' := 29) rfl rfl rfl ?_
  refine x_iald (pc' := 30) (N := 5) (x := 0) rfl rfl rfl (Eq.trans rdNthr (z_N_21_0 e)) (io_in (p := 4) (N := 5) (by decide) (by decide)) (Eq.trans (congrArg (sA (sThr t) 21 0) (nn_io (p := 4) (by decide))) (Eq.trans rdAthr (z_A_21_0_4 e))) ?_
  refine x_iconst (pc' := 31) rfl rfl ?_
  refine x_icmp (a' := 38) (pc' := 34) (z := false) rfl rfl rfl (by decide) (fun h => by cases h) (fun _ => ?_)
  refine x_iconst (pc' := 35) rfl rfl ?_
  refine x_goto (pc' := 39) rfl rfl ?_
  refine x_cv (ls0 := [_, _]) (rest := []) rfl rfl rfl rfl rfl ?_
  refine x_aload_n (pc' := 1) rfl rfl rfl rfl rfl ?_
  refine x_iload_n (pc' := 2) rfl rfl rfl ?_
  refine x_pI (pc' := 5) rfl rfl rfl ?_
  refine x_iload_n (pc' := 6) rfl rfl rfl ?_
  refine x_if (a' := 13) (pc' := 9) (z := true) rfl rfl rfl (by decide) (fun _ => ?_) (fun h => by cases h)
  refine x_iconst (pc' := 14) rfl rfl ?_
  refine x_retz (z := false) rfl rfl ?_
  refine sK_i (pc' := 42) rfl ?_
  refine x_if (a' := 47) (pc' := 45) (z := false) rfl rfl rfl (by decide) (fun h => by cases h) (fun _ => ?_)
  refine x_iconst (pc' := 46) rfl rfl ?_
  refine x_reti rfl rfl ?_
  refine sK_i (pc' := 359) rfl ?_
  refine x_istore (pc' := 361) (ls' := [_, _, _, _, _, _, _]) rfl rfl rfl rfl ?_
  refine x_aload_n (pc' := 362) rfl rfl rfl rfl rfl ?_
  refine x_cv (ls0 := [_]) (rest := []) rfl rfl rfl rfl rfl ?_
  refine x_aload_n (pc' := 1) rfl rfl rfl rfl rfl ?_
  refine x_gI (pc' := 4) (x := 2) rfl rfl rfl sI_s ?_
  refine x_reti rfl rfl ?_
  refine sK_i (pc' := 365) rfl ?_
  refine x_iload (pc' := 367) rfl rfl rfl ?_
  refine x_icmp (a' := 372) (pc' := 370) (z := true) rfl rfl rfl (by decide) (fun _ => ?_) (fun h => by cases h)
  refine x_iload (pc' := 374) rfl rfl rfl ?_
  refine x_if (a' := 389) (pc' := 377) (z := true) rfl rfl rfl (by decide) (fun _ => ?_) (fun h => by cases h)
  refine x_goto (pc' := 2938) rfl rfl ?_
  refine x_iinc (pc' := 2941) (y := 7) (ls' := [_, _, _, _, _, _, _]) rfl rfl rfl rfl rfl ?_
  refine x_goto (pc' := 23) rfl rfl ?_
  refine x_iload (pc' := 25) rfl rfl rfl ?_
  refine x_aload_n (pc' := 26) rfl rfl rfl rfl rfl ?_
  refine x_alen (pc' := 27) (N := 7) rfl rfl rfl (Eq.trans rdNI (Eq.trans rdNthr (z_N_29_0 e))) (?_ : X _ _ _ (.inl 7 :: _) _ _)
  refine x_bipush (pc' := 29) rfl rfl ?_
  refine x_isub (pc' := 30) (z := 0) rfl rfl (by decide) ?_
  refine x_icmp (a' := 2944) (pc' := 33) (z := true) rfl rfl rfl (by decide) (fun _ => ?_) (fun h => by cases h)
  refine x_iconst (pc' := 2945) rfl rfl ?_
  refine x_retz (z := true) rfl rfl ?_
  exact Qp_ok e (p := 1) (q := 6) rfl rfl rfl rfl
set_option maxHeartbeats 4000000 in
set_option maxRecDepth 10000 in
theorem v_2_A {t : sT} {xs : Nat → Int32}
    (e : t = T16 7 xs)
    (hk : ((xs 0) &&& 63) = 2)
    (e0 : (xs 1) < 0) :
    X 297 23 [.inr (.inr (29, (some 0))), .inr (.inr (11, (some 0))), .inr (.inr (12, (some 0))), .inr (.inr (23, (some 0))), .inl 0, sJk, sJk] [] t Qp := by
  refine x_iload (pc' := 25) rfl rfl rfl ?_
  refine x_aload_n (pc' := 26) rfl rfl rfl rfl rfl ?_
  refine x_alen (pc' := 27) (N := 7) rfl rfl rfl (z_N_29_0 e) (?_ : X _ _ _ (.inl 7 :: _) _ _)
  refine x_bipush (pc' := 29) rfl rfl ?_
  refine x_isub (pc' := 30) (z := 0) rfl rfl (by decide) ?_
  refine x_icmp (a' := 2944) (pc' := 33) (z := false) rfl rfl rfl (by decide) (fun h => by cases h) (fun _ => ?_)
  refine x_aload_n (pc' := 34) rfl rfl rfl rfl rfl ?_
  refine x_iload (pc' := 36) rfl rfl rfl ?_
  refine x_iald (pc' := 37) (N := 7) (x := (xs 0)) rfl rfl rfl (z_N_29_0 e) (io_in (p := 0) (N := 7) (by decide) (by decide)) (Eq.trans (congrArg (sA t 29 0) (nn_io (p := 0) (by decide))) (z_A_29_0_0 e)) ?_
  refine x_bipush (pc' := 39) rfl rfl ?_
  refine x_iand (pc' := 40) (z := ((xs 0) &&& 63)) rfl rfl rfl ?_
  refine x_switch (pc' := 336) rfl (by rw [hk]; decide) ?_
  refine x_aload_n (pc' := 337) rfl rfl rfl rfl rfl ?_
  refine x_aload_n (pc' := 338) rfl rfl rfl rfl rfl ?_
  refine x_iload (pc' := 340) rfl rfl rfl ?_
  refine x_iconst (pc' := 341) rfl rfl ?_
  refine x_iadd (pc' := 342) (z := 1) rfl rfl (by decide) ?_
  refine x_iald (pc' := 343) (N := 7) (x := (xs 1)) rfl rfl rfl (z_N_29_0 e) (io_in (p := 1) (N := 7) (by decide) (by decide)) (Eq.trans (congrArg (sA t 29 0) (nn_io (p := 1) (by decide))) (z_A_29_0_1 e)) ?_
  refine x_aload_n (pc' := 344) rfl rfl rfl rfl rfl ?_
  refine x_cs (ls0 := [_, _, _, sJk]) (rest := []) rfl rfl rfl rfl ?_
  refine x_aload_n (pc' := 1) rfl rfl rfl rfl rfl ?_
  refine x_iconst (pc' := 2) rfl rfl ?_
  refine x_aload_n (pc' := 3) rfl rfl rfl rfl rfl ?_
  refine x_iload_n (pc' := 4) rfl rfl rfl ?_
  refine x_cv (ls0 := [_, _, sJk, sJk]) (rest := [_, _]) rfl rfl rfl rfl rfl ?_
  refine x_aload_n (pc' := 1) rfl rfl rfl rfl rfl ?_
  refine x_iload_n (pc' := 2) rfl rfl rfl ?_
  refine x_cv (ls0 := [_, _]) (rest := []) rfl rfl rfl rfl rfl ?_
  refine x_iload_n (pc' := 1) rfl rfl rfl ?_
  refine x_if (a' := 16) (pc' := 4) (z := decide ((xs 1) < 0)) rfl rfl rfl rfl (fun _ => ?_) (fun h => absurd e0 (of_decide_eq_false h))
  refine x_throw rfl rfl ?_
  refine sK_n (by decide +kernel) rfl ?_
  refine sK_h (h := 12) (by decide +kernel) rfl ?_
  refine x_catch_n (pc' := 13) (ls' := [_, _, _, _]) rfl rfl rfl rfl ?_
  refine x_iconst (pc' := 14) rfl rfl ?_
  refine x_reti rfl rfl ?_
  refine sK_i (pc' := 347) rfl ?_
  refine x_istore (pc' := 349) (ls' := [_, _, _, _, _, _, _]) rfl rfl rfl rfl ?_
  refine x_aload_n (pc' := 350) rfl rfl rfl rfl rfl ?_
  refine x_aload_n (pc' := 351) rfl rfl rfl rfl rfl ?_
  refine x_iload (pc' := 353) rfl rfl rfl ?_
  refine x_iconst (pc' := 354) rfl rfl ?_
  refine x_iadd (pc' := 355) (z := 1) rfl rfl (by decide) ?_
  refine x_iald (pc' := 356) (N := 7) (x := (xs 1)) rfl rfl rfl (Eq.trans rdNthr (z_N_29_0 e)) (io_in (p := 1) (N := 7) (by decide) (by decide)) (Eq.trans (congrArg (sA (sThr t) 29 0) (nn_io (p := 1) (by decide))) (Eq.trans rdAthr (z_A_29_0_1 e))) ?_
  refine x_cv (ls0 := [_, _, sJk, sJk, sJk, sJk, sJk, sJk, sJk]) (rest := []) rfl rfl rfl rfl rfl ?_
  refine x_iload_n (pc' := 1) rfl rfl rfl ?_
  refine x_cs (ls0 := [_]) (rest := []) rfl rfl rfl rfl ?_
  refine x_iload_n (pc' := 1) rfl rfl rfl ?_
  refine x_iconst (pc' := 2) rfl rfl ?_
  refine x_iconst (pc' := 3) rfl rfl ?_
  refine x_cs (ls0 := [_, _, _]) (rest := []) rfl rfl rfl rfl ?_
  refine x_iload_n (pc' := 1) rfl rfl rfl ?_
  refine x_iload_n (pc' := 2) rfl rfl rfl ?_
  refine x_icmp (a' := 14) (pc' := 5) (z := decide ((xs 1) < 0)) rfl rfl rfl rfl (fun _ => ?_) (fun h => absurd e0 (of_decide_eq_false h))
  refine x_iconst (pc' := 15) rfl rfl ?_
  refine x_retz (z := false) rfl rfl ?_
  refine sK_i (pc' := 6) rfl ?_
  refine x_retz (z := false) rfl rfl ?_
  refine sK_i (pc' := 4) rfl ?_
  refine x_istore_n (pc' := 5) (ls' := [_, _, _, _, _, _, _, _, _]) rfl rfl rfl rfl ?_
  refine x_aload_n (pc' := 6) rfl rfl rfl rfl rfl ?_
  refine x_iload_n (pc' := 7) rfl rfl rfl ?_
  refine x_if (a' := 14) (pc' := 10) (z := false) rfl rfl rfl (by decide) (fun h => by cases h) (fun _ => ?_)
  refine x_iconst (pc' := 11) rfl rfl ?_
  refine x_goto (pc' := 39) rfl rfl ?_
  refine x_cv (ls0 := [_, _]) (rest := []) rfl rfl rfl rfl rfl ?_
  refine x_aload_n (pc' := 1) rfl rfl rfl rfl rfl ?_
  refine x_iload_n (pc' := 2) rfl rfl rfl ?_
  refine x_pI (pc' := 5) rfl rfl rfl ?_
  refine x_iload_n (pc' := 6) rfl rfl rfl ?_
  refine x_if (a' := 13) (pc' := 9) (z := true) rfl rfl rfl (by decide) (fun _ => ?_) (fun h => by cases h)
  refine x_iconst (pc' := 14) rfl rfl ?_
  refine x_retz (z := false) rfl rfl ?_
  refine sK_i (pc' := 42) rfl ?_
  refine x_if (a' := 47) (pc' := 45) (z := false) rfl rfl rfl (by decide) (fun h => by cases h) (fun _ => ?_)
  refine x_iconst (pc' := 46) rfl rfl ?_
  refine x_reti rfl rfl ?_
  refine sK_i (pc' := 359) rfl ?_
  refine x_istore (pc' := 361) (ls' := [_, _, _, _, _, _, _]) rfl rfl rfl rfl ?_
  refine x_aload_n (pc' := 362) rfl rfl rfl rfl rfl ?_
  refine x_cv (ls0 := [_]) (rest := []) rfl rfl rfl rfl rfl ?_
  refine x_aload_n (pc' := 1) rfl rfl rfl rfl rfl ?_
  refine x_gI (pc' := 4) (x := 1) rfl rfl rfl sI_s ?_
  refine x_reti rfl rfl ?_
  refine sK_i (pc' := 365) rfl ?_
  refine x_iload (pc' := 367) rfl rfl rfl ?_
  refine x_icmp (a' := 372) (pc' := 370) (z := true) rfl rfl rfl (by decide) (fun _ => ?_) (fun h => by cases h)
  refine x_iload (pc' := 374) rfl rfl rfl ?_
  refine x_if (a' := 389) (pc' := 377) (z := true) rfl rfl rfl (by decide) (fun _ => ?_) (fun h => by cases h)
  refine x_goto (pc' := 2938) rfl rfl ?_
  refine x_iinc (pc' := 2941) (y := 7) (ls' := [_, _, _, _, _, _, _]) rfl rfl rfl rfl rfl ?_
  refine x_goto (pc' := 23) rfl rfl ?_
  refine x_iload (pc' := 25) rfl rfl rfl ?_
  refine x_aload_n (pc' := 26) rfl rfl rfl rfl rfl ?_
  refine x_alen (pc' := 27) (N := 7) rfl rfl rfl (Eq.trans rdNI (Eq.trans rdNthr (z_N_29_0 e))) (?_ : X _ _ _ (.inl 7 :: _) _ _)
  refine x_bipush (pc' := 29) rfl rfl ?_
  refine x_isub (pc' := 30) (z := 0) rfl rfl (by decide) ?_
  refine x_icmp (a' := 2944) (pc' := 33) (z := true) rfl rfl rfl (by decide) (fun _ => ?_) (fun h => by cases h)
  refine x_iconst (pc' := 2945) rfl rfl ?_
  refine x_retz (z := true) rfl rfl ?_
  exact Qp_ok e (p := 1) (q := 6) rfl rfl rfl rfl
set_option maxHeartbeats 4000000 in
set_option maxRecDepth 10000 in
theorem v_2_B {t : sT} {xs : Nat → Int32}
    (e : t = T16 7 xs)
    (hk : ((xs 0) &&& 63) = 2)
    (e0 : ¬ (xs 1) < 0)
    (f0 : ¬ (xs 1) < 5) :
    X 297 23 [.inr (.inr (29, (some 0))), .inr (.inr (11, (some 0))), .inr (.inr (12, (some 0))), .inr (.inr (23, (some 0))), .inl 0, sJk, sJk] [] t Qp := by
  refine x_iload (pc' := 25) rfl rfl rfl ?_
  refine x_aload_n (pc' := 26) rfl rfl rfl rfl rfl ?_
  refine x_alen (pc' := 27) (N := 7) rfl rfl rfl (z_N_29_0 e) (?_ : X _ _ _ (.inl 7 :: _) _ _)
  refine x_bipush (pc' := 29) rfl rfl ?_
  refine x_isub (pc' := 30) (z := 0) rfl rfl (by decide) ?_
  refine x_icmp (a' := 2944) (pc' := 33) (z := false) rfl rfl rfl (by decide) (fun h => by cases h) (fun _ => ?_)
  refine x_aload_n (pc' := 34) rfl rfl rfl rfl rfl ?_
  refine x_iload (pc' := 36) rfl rfl rfl ?_
  refine x_iald (pc' := 37) (N := 7) (x := (xs 0)) rfl rfl rfl (z_N_29_0 e) (io_in (p := 0) (N := 7) (by decide) (by decide)) (Eq.trans (congrArg (sA t 29 0) (nn_io (p := 0) (by decide))) (z_A_29_0_0 e)) ?_
  refine x_bipush (pc' := 39) rfl rfl ?_
  refine x_iand (pc' := 40) (z := ((xs 0) &&& 63)) rfl rfl rfl ?_
  refine x_switch (pc' := 336) rfl (by rw [hk]; decide) ?_
  refine x_aload_n (pc' := 337) rfl rfl rfl rfl rfl ?_
  refine x_aload_n (pc' := 338) rfl rfl rfl rfl rfl ?_
  refine x_iload (pc' := 340) rfl rfl rfl ?_
  refine x_iconst (pc' := 341) rfl rfl ?_
  refine x_iadd (pc' := 342) (z := 1) rfl rfl (by decide) ?_
  refine x_iald (pc' := 343) (N := 7) (x := (xs 1)) rfl rfl rfl (z_N_29_0 e) (io_in (p := 1) (N := 7) (by decide) (by decide)) (Eq.trans (congrArg (sA t 29 0) (nn_io (p := 1) (by decide))) (z_A_29_0_1 e)) ?_
  refine x_aload_n (pc' := 344) rfl rfl rfl rfl rfl ?_
  refine x_cs (ls0 := [_, _, _, sJk]) (rest := []) rfl rfl rfl rfl ?_
  refine x_aload_n (pc' := 1) rfl rfl rfl rfl rfl ?_
  refine x_iconst (pc' := 2) rfl rfl ?_
  refine x_aload_n (pc' := 3) rfl rfl rfl rfl rfl ?_
  refine x_iload_n (pc' := 4) rfl rfl rfl ?_
  refine x_cv (ls0 := [_, _, sJk, sJk]) (rest := [_, _]) rfl rfl rfl rfl rfl ?_
  refine x_aload_n (pc' := 1) rfl rfl rfl rfl rfl ?_
  refine x_iload_n (pc' := 2) rfl rfl rfl ?_
  refine x_cv (ls0 := [_, _]) (rest := []) rfl rfl rfl rfl rfl ?_
  refine x_iload_n (pc' := 1) rfl rfl rfl ?_
  refine x_if (a' := 16) (pc' := 4) (z := decide ((xs 1) < 0)) rfl rfl rfl rfl (fun h => absurd (of_decide_eq_true h) e0) (fun _ => ?_)
  refine x_iload_n (pc' := 5) rfl rfl rfl ?_
  refine x_aload_n (pc' := 6) rfl rfl rfl rfl rfl ?_
  refine x_gR (pc' := 9) (r := (some 0)) rfl rfl rfl (z_R_705_0 e) ?_
  refine x_gR (pc' := 12) (r := (some 0)) rfl rfl rfl (z_R_256_0 e) ?_
  refine x_alen (pc' := 13) (N := 5) rfl rfl rfl (z_N_24_0 e) (?_ : X _ _ _ (.inl 5 :: _) _ _)
  refine x_icmp (a' := 27) (pc' := 16) (z := decide ((xs 1) < 5)) rfl rfl rfl rfl (fun h => absurd (of_decide_eq_true h) f0) (fun _ => ?_)
  refine x_throw rfl rfl ?_
  refine sK_n (by decide +kernel) rfl ?_
  refine sK_h (h := 12) (by decide +kernel) rfl ?_
  refine x_catch_n (pc' := 13) (ls' := [_, _, _, _]) rfl rfl rfl rfl ?_
  refine x_iconst (pc' := 14) rfl rfl ?_
  refine x_reti rfl rfl ?_
  refine sK_i (pc' := 347) rfl ?_
  refine x_istore (pc' := 349) (ls' := [_, _, _, _, _, _, _]) rfl rfl rfl rfl ?_
  refine x_aload_n (pc' := 350) rfl rfl rfl rfl rfl ?_
  refine x_aload_n (pc' := 351) rfl rfl rfl rfl rfl ?_
  refine x_iload (pc' := 353) rfl rfl rfl ?_
  refine x_iconst (pc' := 354) rfl rfl ?_
  refine x_iadd (pc' := 355) (z := 1) rfl rfl (by decide) ?_
  refine x_iald (pc' := 356) (N := 7) (x := (xs 1)) rfl rfl rfl (Eq.trans rdNthr (z_N_29_0 e)) (io_in (p := 1) (N := 7) (by decide) (by decide)) (Eq.trans (congrArg (sA (sThr t) 29 0) (nn_io (p := 1) (by decide))) (Eq.trans rdAthr (z_A_29_0_1 e))) ?_
  refine x_cv (ls0 := [_, _, sJk, sJk, sJk, sJk, sJk, sJk, sJk]) (rest := []) rfl rfl rfl rfl rfl ?_
  refine x_iload_n (pc' := 1) rfl rfl rfl ?_
  refine x_cs (ls0 := [_]) (rest := []) rfl rfl rfl rfl ?_
  refine x_iload_n (pc' := 1) rfl rfl rfl ?_
  refine x_iconst (pc' := 2) rfl rfl ?_
  refine x_iconst (pc' := 3) rfl rfl ?_
  refine x_cs (ls0 := [_, _, _]) (rest := []) rfl rfl rfl rfl ?_
  refine x_iload_n (pc' := 1) rfl rfl rfl ?_
  refine x_iload_n (pc' := 2) rfl rfl rfl ?_
  refine x_icmp (a' := 14) (pc' := 5) (z := decide ((xs 1) < 0)) rfl rfl rfl rfl (fun h => absurd (of_decide_eq_true h) e0) (fun _ => ?_)
  refine x_iload_n (pc' := 6) rfl rfl rfl ?_
  refine x_iload_n (pc' := 7) rfl rfl rfl ?_
  refine x_icmp (a' := 14) (pc' := 10) (z := decide (4 < (xs 1))) rfl rfl rfl rfl (fun _ => ?_) (fun h => absurd (lt_of5 f0) (of_decide_eq_false h))
  refine x_iconst (pc' := 15) rfl rfl ?_
  refine x_retz (z := false) rfl rfl ?_
  refine sK_i (pc' := 6) rfl ?_
  refine x_retz (z := false) rfl rfl ?_
  refine sK_i (pc' := 4) rfl ?_
  refine x_istore_n (pc' := 5) (ls' := [_, _, _, _, _, _, _, _, _]) rfl rfl rfl rfl ?_
  refine x_aload_n (pc' := 6) rfl rfl rfl rfl rfl ?_
  refine x_iload_n (pc' := 7) rfl rfl rfl ?_
  refine x_if (a' := 14) (pc' := 10) (z := false) rfl rfl rfl (by decide) (fun h => by cases h) (fun _ => ?_)
  refine x_iconst (pc' := 11) rfl rfl ?_
  refine x_goto (pc' := 39) rfl rfl ?_
  refine x_cv (ls0 := [_, _]) (rest := []) rfl rfl rfl rfl rfl ?_
  refine x_aload_n (pc' := 1) rfl rfl rfl rfl rfl ?_
  refine x_iload_n (pc' := 2) rfl rfl rfl ?_
  refine x_pI (pc' := 5) rfl rfl rfl ?_
  refine x_iload_n (pc' := 6) rfl rfl rfl ?_
  refine x_if (a' := 13) (pc' := 9) (z := true) rfl rfl rfl (by decide) (fun _ => ?_) (fun h => by cases h)
  refine x_iconst (pc' := 14) rfl rfl ?_
  refine x_retz (z := false) rfl rfl ?_
  refine sK_i (pc' := 42) rfl ?_
  refine x_if (a' := 47) (pc' := 45) (z := false) rfl rfl rfl (by decide) (fun h => by cases h) (fun _ => ?_)
  refine x_iconst (pc' := 46) rfl rfl ?_
  refine x_reti rfl rfl ?_
  refine sK_i (pc' := 359) rfl ?_
  refine x_istore (pc' := 361) (ls' := [_, _, _, _, _, _, _]) rfl rfl rfl rfl ?_
  refine x_aload_n (pc' := 362) rfl rfl rfl rfl rfl ?_
  refine x_cv (ls0 := [_]) (rest := []) rfl rfl rfl rfl rfl ?_
  refine x_aload_n (pc' := 1) rfl rfl rfl rfl rfl ?_
  refine x_gI (pc' := 4) (x := 1) rfl rfl rfl sI_s ?_
  refine x_reti rfl rfl ?_
  refine sK_i (pc' := 365) rfl ?_
  refine x_iload (pc' := 367) rfl rfl rfl ?_
  refine x_icmp (a' := 372) (pc' := 370) (z := true) rfl rfl rfl (by decide) (fun _ => ?_) (fun h => by cases h)
  refine x_iload (pc' := 374) rfl rfl rfl ?_
  refine x_if (a' := 389) (pc' := 377) (z := true) rfl rfl rfl (by decide) (fun _ => ?_) (fun h => by cases h)
  refine x_goto (pc' := 2938) rfl rfl ?_
  refine x_iinc (pc' := 2941) (y := 7) (ls' := [_, _, _, _, _, _, _]) rfl rfl rfl rfl rfl ?_
  refine x_goto (pc' := 23) rfl rfl ?_
  refine x_iload (pc' := 25) rfl rfl rfl ?_
  refine x_aload_n (pc' := 26) rfl rfl rfl rfl rfl ?_
  refine x_alen (pc' := 27) (N := 7) rfl rfl rfl (Eq.trans rdNI (Eq.trans rdNthr (z_N_29_0 e))) (?_ : X _ _ _ (.inl 7 :: _) _ _)
  refine x_bipush (pc' := 29) rfl rfl ?_
  refine x_isub (pc' := 30) (z := 0) rfl rfl (by decide) ?_
  refine x_icmp (a' := 2944) (pc' := 33) (z := true) rfl rfl rfl (by decide) (fun _ => ?_) (fun h => by cases h)
  refine x_iconst (pc' := 2945) rfl rfl ?_
  refine x_retz (z := true) rfl rfl ?_
  exact Qp_ok e (p := 1) (q := 6) rfl rfl rfl rfl
set_option maxHeartbeats 4000000 in
set_option maxRecDepth 10000 in
theorem v_3_0_i {t : sT} {xs : Nat → Int32}
    (e : t = T16 7 xs)
    (hk : ((xs 0) &&& 63) = 3)
    (e0 : xs 1 = 0) :
    X 297 23 [.inr (.inr (29, (some 0))), .inr (.inr (11, (some 0))), .inr (.inr (12, (some 0))), .inr (.inr (23, (some 0))), .inl 0, sJk, sJk] [] t Qp := by
  refine x_iload (pc' := 25) rfl rfl rfl ?_
  refine x_aload_n (pc' := 26) rfl rfl rfl rfl rfl ?_
  refine x_alen (pc' := 27) (N := 7) rfl rfl rfl (z_N_29_0 e) (?_ : X _ _ _ (.inl 7 :: _) _ _)
  refine x_bipush (pc' := 29) rfl rfl ?_
  refine x_isub (pc' := 30) (z := 0) rfl rfl (by decide) ?_
  refine x_icmp (a' := 2944) (pc' := 33) (z := false) rfl rfl rfl (by decide) (fun h => by cases h) (fun _ => ?_)
  refine x_aload_n (pc' := 34) rfl rfl rfl rfl rfl ?_
  refine x_iload (pc' := 36) rfl rfl rfl ?_
  refine x_iald (pc' := 37) (N := 7) (x := (xs 0)) rfl rfl rfl (z_N_29_0 e) (io_in (p := 0) (N := 7) (by decide) (by decide)) (Eq.trans (congrArg (sA t 29 0) (nn_io (p := 0) (by decide))) (z_A_29_0_0 e)) ?_
  refine x_bipush (pc' := 39) rfl rfl ?_
  refine x_iand (pc' := 40) (z := ((xs 0) &&& 63)) rfl rfl rfl ?_
  refine x_switch (pc' := 392) rfl (by rw [hk]; decide) ?_
  refine x_aload_n (pc' := 393) rfl rfl rfl rfl rfl ?_
  refine x_aload_n (pc' := 394) rfl rfl rfl rfl rfl ?_
  refine x_iload (pc' := 396) rfl rfl rfl ?_
  refine x_iconst (pc' := 397) rfl rfl ?_
  refine x_iadd (pc' := 398) (z := 1) rfl rfl (by decide) ?_
  refine x_iald (pc' := 399) (N := 7) (x := 0) rfl rfl rfl (z_N_29_0 e) (io_in (p := 1) (N := 7) (by decide) (by decide)) (Eq.trans (congrArg (sA t 29 0) (nn_io (p := 1) (by decide))) (Eq.trans (z_A_29_0_1 e) e0)) ?_
  refine x_aload_n (pc' := 400) rfl rfl rfl rfl rfl ?_
  refine x_iload (pc' := 402) rfl rfl rfl ?_
  refine x_iconst (pc' := 403) rfl rfl ?_
  refine x_iadd (pc' := 404) (z := 2) rfl rfl (by decide) ?_
  refine x_iald (pc' := 405) (N := 7) (x := (xs 2)) rfl rfl rfl (z_N_29_0 e) (io_in (p := 2) (N := 7) (by decide) (by decide)) (Eq.trans (congrArg (sA t 29 0) (nn_io (p := 2) (by decide))) (z_A_29_0_2 e)) ?_
  have J3 : X 297 413 [.inr (.inr (29, (some 0))), .inr (.inr (11, (some 0))), .inr (.inr (12, (some 0))), .inr (.inr (23, (some 0))), .inl 0, sJk, sJk] [.inl (bz (!(decide ((xs 2) = 0)))), .inl 0, .inr (.inr (11, (some 0)))] t Qp := by
    refine x_aload_n (pc' := 414) rfl rfl rfl rfl rfl ?_
    refine x_cs (ls0 := [_, _, _, _, sJk]) (rest := []) rfl rfl rfl rfl ?_
    refine x_aload_n (pc' := 1) rfl rfl rfl rfl rfl ?_
    refine x_iconst (pc' := 2) rfl rfl ?_
    refine x_aload_n (pc' := 3) rfl rfl rfl rfl rfl ?_
    refine x_iload_n (pc' := 4) rfl rfl rfl ?_
    refine x_iload_n (pc' := 5) rfl rfl rfl ?_
    refine x_cv (ls0 := [_, _, _, sJk, sJk]) (rest := [_, _]) rfl rfl rfl rfl rfl ?_
    refine x_aload_n (pc' := 1) rfl rfl rfl rfl rfl ?_
    refine x_iload_n (pc' := 2) rfl rfl rfl ?_
    refine x_cv (ls0 := [_, _]) (rest := []) rfl rfl rfl rfl rfl ?_
    refine x_iload_n (pc' := 1) rfl rfl rfl ?_
    refine x_if (a' := 16) (pc' := 4) (z := false) rfl rfl rfl (by decide) (fun h => by cases h) (fun _ => ?_)
    refine x_iload_n (pc' := 5) rfl rfl rfl ?_
    refine x_aload_n (pc' := 6) rfl rfl rfl rfl rfl ?_
    refine x_gR (pc' := 9) (r := (some 0)) rfl rfl rfl (z_R_705_0 e) ?_
    refine x_gR (pc' := 12) (r := (some 0)) rfl rfl rfl (z_R_256_0 e) ?_
    refine x_alen (pc' := 13) (N := 5) rfl rfl rfl (z_N_24_0 e) (?_ : X _ _ _ (.inl 5 :: _) _ _)
    refine x_icmp (a' := 27) (pc' := 16) (z := true) rfl rfl rfl (by decide) (fun _ => ?_) (fun h => by cases h)
    refine x_aload_n (pc' := 28) rfl rfl rfl rfl rfl ?_
    refine x_gR (pc' := 31) (r := (some 0)) rfl rfl rfl (z_R_705_0 e) ?_
    refine x_gR (pc' := 34) (r := (some 0)) rfl rfl rfl (z_R_256_0 e) ?_
    refine x_iload_n (pc' := 35) rfl rfl rfl ?_
    refine x_aald (pc' := 36) (N := 5) (k' := 1) (r := (some 0)) rfl rfl rfl (z_N_24_0 e) (io_in (p := 0) (N := 5) (by decide) (by decide)) (Eq.trans (congrArg (sE t 24 0) (nn_io (p := 0) (by decide))) (z_E_24_0_0 e)) ?_
    refine x_reta rfl rfl ?_
    refine sK_i (pc' := 5) rfl ?_
    refine x_astore_n (pc' := 6) (ls' := [_, _, _, _, _]) rfl rfl rfl rfl rfl ?_
    refine x_aload_n (pc' := 7) rfl rfl rfl rfl rfl ?_
    refine x_gZ (pc' := 10) (z := false) rfl rfl rfl (z_Z_68_0 e) ?_
    refine x_istore (pc' := 12) (ls' := [_, _, _, _, _]) rfl rfl rfl rfl ?_
    refine x_aload_n (pc' := 13) rfl rfl rfl rfl rfl ?_
    refine x_iload_n (pc' := 14) rfl rfl rfl ?_
    refine x_pZ (pc' := 17) (z := (!(decide ((xs 2) = 0)))) rfl rfl rfl rfl ?_
    refine x_iload (pc' := 19) rfl rfl rfl ?_
    refine x_retz (z := false) rfl rfl ?_
    refine sK_i (pc' := 8) rfl ?_
    refine x_if (a' := 15) (pc' := 11) (z := true) rfl rfl rfl (by decide) (fun _ => ?_) (fun h => by cases h)
    refine x_lconst (pc' := 16) rfl rfl rfl ?_
    refine x_last (pc' := 17) (N := 1) (p := 0) rfl rfl (Eq.trans rdNZ (z_N_23_0 e)) (io_in (p := 0) (N := 1) (by decide) (by decide)) (nn_io (p := 0) (by decide)) ?_
    refine x_goto (pc' := 24) rfl rfl ?_
    refine x_iconst (pc' := 25) rfl rfl ?_
    refine x_reti rfl rfl ?_
    refine sK_i (pc' := 417) rfl ?_
    refine x_istore (pc' := 419) (ls' := [_, _, _, _, _, _, _]) rfl rfl rfl rfl ?_
    refine x_aload_n (pc' := 420) rfl rfl rfl rfl rfl ?_
    refine x_aload_n (pc' := 421) rfl rfl rfl rfl rfl ?_
    refine x_iload (pc' := 423) rfl rfl rfl ?_
    refine x_iconst (pc' := 424) rfl rfl ?_
    refine x_iadd (pc' := 425) (z := 1) rfl rfl (by decide) ?_
    refine x_iald (pc' := 426) (N := 7) (x := 0) rfl rfl rfl (Eq.trans rdNL (Eq.trans rdNZ (z_N_29_0 e))) (io_in (p := 1) (N := 7) (by decide) (by decide)) (Eq.trans (congrArg (sA (sLw (sZw t 68 0 (!(decide ((xs 2) = 0)))) 23 0 0 (0 : Int64)) 29 0) (nn_io (p := 1) (by decide))) (Eq.trans rdAL (Eq.trans rdAZ (Eq.trans (z_A_29_0_1 e) e0)))) ?_
    refine x_aload_n (pc' := 427) rfl rfl rfl rfl rfl ?_
    refine x_iload (pc' := 429) rfl rfl rfl ?_
    refine x_iconst (pc' := 430) rfl rfl ?_
    refine x_iadd (pc' := 431) (z := 2) rfl rfl (by decide) ?_
    refine x_iald (pc' := 432) (N := 7) (x := (xs 2)) rfl rfl rfl (Eq.trans rdNL (Eq.trans rdNZ (z_N_29_0 e))) (io_in (p := 2) (N := 7) (by decide) (by decide)) (Eq.trans (congrArg (sA (sLw (sZw t 68 0 (!(decide ((xs 2) = 0)))) 23 0 0 (0 : Int64)) 29 0) (nn_io (p := 2) (by decide))) (Eq.trans rdAL (Eq.trans rdAZ (z_A_29_0_2 e)))) ?_
    have J8 : X 297 440 [.inr (.inr (29, (some 0))), .inr (.inr (11, (some 0))), .inr (.inr (12, (some 0))), .inr (.inr (23, (some 0))), .inl 0, .inl 0, sJk] [.inl (bz (!(decide ((xs 2) = 0)))), .inl 0, .inr (.inr (12, (some 0)))] (sLw (sZw t 68 0 (!(decide ((xs 2) = 0)))) 23 0 0 (0 : Int64)) Qp := by
      refine x_cv (ls0 := [_, _, _, sJk]) (rest := []) rfl rfl rfl rfl rfl ?_
      refine x_aload_n (pc' := 1) rfl rfl rfl rfl rfl ?_
      refine x_iload_n (pc' := 2) rfl rfl rfl ?_
      refine x_cs (ls0 := [_]) (rest := [_]) rfl rfl rfl rfl ?_
      refine x_iload_n (pc' := 1) rfl rfl rfl ?_
      refine x_iconst (pc' := 2) rfl rfl ?_
      refine x_iconst (pc' := 3) rfl rfl ?_
      refine x_cs (ls0 := [_, _, _]) (rest := []) rfl rfl rfl rfl ?_
      refine x_iload_n (pc' := 1) rfl rfl rfl ?_
      refine x_iload_n (pc' := 2) rfl rfl rfl ?_
      refine x_icmp (a' := 14) (pc' := 5) (z := false) rfl rfl rfl (by decide) (fun h => by cases h) (fun _ => ?_)
      refine x_iload_n (pc' := 6) rfl rfl rfl ?_
      refine x_iload_n (pc' := 7) rfl rfl rfl ?_
      refine x_icmp (a' := 14) (pc' := 10) (z := false) rfl rfl rfl (by decide) (fun h => by cases h) (fun _ => ?_)
      refine x_iconst (pc' := 11) rfl rfl ?_
      refine x_goto (pc' := 15) rfl rfl ?_
      refine x_retz (z := true) rfl rfl ?_
      refine sK_i (pc' := 6) rfl ?_
      refine x_retz (z := true) rfl rfl ?_
      refine sK_i (pc' := 5) rfl ?_
      refine x_if (a' := 12) (pc' := 8) (z := false) rfl rfl rfl (by decide) (fun h => by cases h) (fun _ => ?_)
      refine x_iconst (pc' := 9) rfl rfl ?_
      refine x_goto (pc' := 13) rfl rfl ?_
      refine x_cv (ls0 := [_, _]) (rest := []) rfl rfl rfl rfl rfl ?_
      refine x_aload_n (pc' := 1) rfl rfl rfl rfl rfl ?_
      refine x_iload_n (pc' := 2) rfl rfl rfl ?_
      refine x_pI (pc' := 5) rfl rfl rfl ?_
      refine x_iload_n (pc' := 6) rfl rfl rfl ?_
      refine x_if (a' := 13) (pc' := 9) (z := false) rfl rfl rfl (by decide) (fun h => by cases h) (fun _ => ?_)
      refine x_iconst (pc' := 10) rfl rfl ?_
      refine x_goto (pc' := 14) rfl rfl ?_
      refine x_retz (z := true) rfl rfl ?_
      refine sK_i (pc' := 16) rfl ?_
      refine x_if (a' := 21) (pc' := 19) (z := true) rfl rfl rfl (by decide) (fun _ => ?_) (fun h => by cases h)
      refine x_aload_n (pc' := 22) rfl rfl rfl rfl rfl ?_
      refine x_gR (pc' := 25) (r := (some 0)) rfl rfl rfl (Eq.trans rdRI (Eq.trans rdRL (Eq.trans rdRZ (z_R_770_0 e)))) ?_
      refine x_iload_n (pc' := 26) rfl rfl rfl ?_
      refine x_bald (pc' := 27) (N := 5) (z := false) rfl rfl (Eq.trans rdNI (Eq.trans rdNL (Eq.trans rdNZ (z_N_22_0 e)))) (io_in (p := 0) (N := 5) (by decide) (by decide)) (Eq.trans (congrArg (sB (sIw (sLw (sZw t 68 0 (!(decide ((xs 2) = 0)))) 23 0 0 (0 : Int64)) 768 0 0) 22 0) (nn_io (p := 0) (by decide))) (Eq.trans rdBI (Eq.trans rdBL (Eq.trans rdBZ (z_B_22_0_0 e))))) ?_
      refine x_istore_n (pc' := 28) (ls' := [_, _, _, _]) rfl rfl rfl rfl ?_
      refine x_aload_n (pc' := 29) rfl rfl rfl rfl rfl ?_
      refine x_gR (pc' := 32) (r := (some 0)) rfl rfl rfl (Eq.trans rdRI (Eq.trans rdRL (Eq.trans rdRZ (z_R_770_0 e)))) ?_
      refine x_iload_n (pc' := 33) rfl rfl rfl ?_
      refine x_iload_n (pc' := 34) rfl rfl rfl ?_
      refine x_bast (pc' := 35) (N := 5) (p := 0) (z := (!(decide ((xs 2) = 0)))) rfl rfl (Eq.trans rdNI (Eq.trans rdNL (Eq.trans rdNZ (z_N_22_0 e)))) (io_in (p := 0) (N := 5) (by decide) (by decide)) (nn_io (p := 0) (by decide)) rfl ?_
      refine x_iload_n (pc' := 36) rfl rfl rfl ?_
      refine x_retz (z := false) rfl rfl ?_
      refine sK_i (pc' := 443) rfl ?_
      refine x_istore (pc' := 445) (ls' := [_, _, _, _, _, _, _]) rfl rfl rfl rfl ?_
      refine x_aload_n (pc' := 446) rfl rfl rfl rfl rfl ?_
      refine x_cv (ls0 := [_]) (rest := []) rfl rfl rfl rfl rfl ?_
      refine x_aload_n (pc' := 1) rfl rfl rfl rfl rfl ?_
      refine x_gI (pc' := 4) (x := 0) rfl rfl rfl (Eq.trans rdIB sI_s) ?_
      refine x_reti rfl rfl ?_
      refine sK_i (pc' := 449) rfl ?_
      refine x_iload (pc' := 451) rfl rfl rfl ?_
      refine x_icmp (a' := 456) (pc' := 454) (z := true) rfl rfl rfl (by decide) (fun _ => ?_) (fun h => by cases h)
      refine x_iload (pc' := 458) rfl rfl rfl ?_
      refine x_if (a' := 480) (pc' := 461) (z := false) rfl rfl rfl (by decide) (fun h => by cases h) (fun _ => ?_)
      refine x_aload_n (pc' := 462) rfl rfl rfl rfl rfl ?_
      refine x_iconst (pc' := 463) rfl rfl ?_
      refine x_lald (pc' := 464) (N := 1) (x := (0 : Int64)) rfl rfl (Eq.trans rdNB (Eq.trans rdNI (Eq.trans rdNL (Eq.trans rdNZ (z_N_23_0 e))))) (io_in (p := 0) (N := 1) (by decide) (by decide)) (Eq.trans (congrArg (sL (sBw (sIw (sLw (sZw t 68 0 (!(decide ((xs 2) = 0)))) 23 0 0 (0 : Int64)) 768 0 0) 22 0 0 (!(decide ((xs 2) = 0)))) 23 0) (nn_io (p := 0) (by decide))) (Eq.trans rdLB (Eq.trans rdLI sL_s))) ?_
      refine x_iload (pc' := 466) rfl rfl rfl ?_
      refine x_if (a' := 473) (pc' := 469) (z := true) rfl rfl rfl (by decide) (fun _ => ?_) (fun h => by cases h)
      refine x_lconst (pc' := 474) rfl rfl rfl ?_
      refine x_lcmp (pc' := 475) (z := 0) rfl rfl (sLcmp_s _) ?_
      refine x_if (a' := 480) (pc' := 478) (z := true) rfl rfl rfl (by decide) (fun _ => ?_) (fun h => by cases h)
      refine x_goto (pc' := 2938) rfl rfl ?_
      refine x_iinc (pc' := 2941) (y := 7) (ls' := [_, _, _, _, _, _, _]) rfl rfl rfl rfl rfl ?_
      refine x_goto (pc' := 23) rfl rfl ?_
      refine x_iload (pc' := 25) rfl rfl rfl ?_
      refine x_aload_n (pc' := 26) rfl rfl rfl rfl rfl ?_
      refine x_alen (pc' := 27) (N := 7) rfl rfl rfl (Eq.trans rdNB (Eq.trans rdNI (Eq.trans rdNL (Eq.trans rdNZ (z_N_29_0 e))))) (?_ : X _ _ _ (.inl 7 :: _) _ _)
      refine x_bipush (pc' := 29) rfl rfl ?_
      refine x_isub (pc' := 30) (z := 0) rfl rfl (by decide) ?_
      refine x_icmp (a' := 2944) (pc' := 33) (z := true) rfl rfl rfl (by decide) (fun _ => ?_) (fun h => by cases h)
      refine x_iconst (pc' := 2945) rfl rfl ?_
      refine x_retz (z := true) rfl rfl ?_
      exact Qp_ok e (p := 0) (q := 0) rfl rfl rfl rfl
    refine x_if (a' := 439) (pc' := 435) (z := decide ((xs 2) = 0)) rfl rfl rfl rfl (fun q8 => ?_) (fun q8 => ?_)
    · refine x_iconst (pc' := 440) rfl rfl ?_
      ((try rw [q8] at J8); (try rw [q8]); (try simp only [cd_t, cd_f, nt_t, nt_f, an_t, an_f, or_t, or_f] at J8); (try simp only [cd_t, cd_f, nt_t, nt_f, an_t, an_f, or_t, or_f]); exact J8)
    · refine x_iconst (pc' := 436) rfl rfl ?_
      refine x_goto (pc' := 440) rfl rfl ?_
      ((try rw [q8] at J8); (try rw [q8]); (try simp only [cd_t, cd_f, nt_t, nt_f, an_t, an_f, or_t, or_f] at J8); (try simp only [cd_t, cd_f, nt_t, nt_f, an_t, an_f, or_t, or_f]); exact J8)
  refine x_if (a' := 412) (pc' := 408) (z := decide ((xs 2) = 0)) rfl rfl rfl rfl (fun q3 => ?_) (fun q3 => ?_)
  · refine x_iconst (pc' := 413) rfl rfl ?_
    ((try rw [q3] at J3); (try rw [q3]); (try simp only [cd_t, cd_f, nt_t, nt_f, an_t, an_f, or_t, or_f] at J3); (try simp only [cd_t, cd_f, nt_t, nt_f, an_t, an_f, or_t, or_f]); exact J3)
  · refine x_iconst (pc' := 409) rfl rfl ?_
    refine x_goto (pc' := 413) rfl rfl ?_
    ((try rw [q3] at J3); (try rw [q3]); (try simp only [cd_t, cd_f, nt_t, nt_f, an_t, an_f, or_t, or_f] at J3); (try simp only [cd_t, cd_f, nt_t, nt_f, an_t, an_f, or_t, or_f]); exact J3)
set_option maxHeartbeats 4000000 in
set_option maxRecDepth 10000 in
theorem v_3_1_i {t : sT} {xs : Nat → Int32}
    (e : t = T16 7 xs)
    (hk : ((xs 0) &&& 63) = 3)
    (e0 : xs 1 = 1) :
    X 297 23 [.inr (.inr (29, (some 0))), .inr (.inr (11, (some 0))), .inr (.inr (12, (some 0))), .inr (.inr (23, (some 0))), .inl 0, sJk, sJk] [] t Qp := by
  refine x_iload (pc' := 25) rfl rfl rfl ?_
  refine x_aload_n (pc' := 26) rfl rfl rfl rfl rfl ?_
  refine x_alen (pc' := 27) (N := 7) rfl rfl rfl (z_N_29_0 e) (?_ : X _ _ _ (.inl 7 :: _) _ _)
  refine x_bipush (pc' := 29) rfl rfl ?_
  refine x_isub (pc' := 30) (z := 0) rfl rfl (by decide) ?_
  refine x_icmp (a' := 2944) (pc' := 33) (z := false) rfl rfl rfl (by decide) (fun h => by cases h) (fun _ => ?_)
  refine x_aload_n (pc' := 34) rfl rfl rfl rfl rfl ?_
  refine x_iload (pc' := 36) rfl rfl rfl ?_
  refine x_iald (pc' := 37) (N := 7) (x := (xs 0)) rfl rfl rfl (z_N_29_0 e) (io_in (p := 0) (N := 7) (by decide) (by decide)) (Eq.trans (congrArg (sA t 29 0) (nn_io (p := 0) (by decide))) (z_A_29_0_0 e)) ?_
  refine x_bipush (pc' := 39) rfl rfl ?_
  refine x_iand (pc' := 40) (z := ((xs 0) &&& 63)) rfl rfl rfl ?_
  refine x_switch (pc' := 392) rfl (by rw [hk]; decide) ?_
  refine x_aload_n (pc' := 393) rfl rfl rfl rfl rfl ?_
  refine x_aload_n (pc' := 394) rfl rfl rfl rfl rfl ?_
  refine x_iload (pc' := 396) rfl rfl rfl ?_
  refine x_iconst (pc' := 397) rfl rfl ?_
  refine x_iadd (pc' := 398) (z := 1) rfl rfl (by decide) ?_
  refine x_iald (pc' := 399) (N := 7) (x := 1) rfl rfl rfl (z_N_29_0 e) (io_in (p := 1) (N := 7) (by decide) (by decide)) (Eq.trans (congrArg (sA t 29 0) (nn_io (p := 1) (by decide))) (Eq.trans (z_A_29_0_1 e) e0)) ?_
  refine x_aload_n (pc' := 400) rfl rfl rfl rfl rfl ?_
  refine x_iload (pc' := 402) rfl rfl rfl ?_
  refine x_iconst (pc' := 403) rfl rfl ?_
  refine x_iadd (pc' := 404) (z := 2) rfl rfl (by decide) ?_
  refine x_iald (pc' := 405) (N := 7) (x := (xs 2)) rfl rfl rfl (z_N_29_0 e) (io_in (p := 2) (N := 7) (by decide) (by decide)) (Eq.trans (congrArg (sA t 29 0) (nn_io (p := 2) (by decide))) (z_A_29_0_2 e)) ?_
  have J3 : X 297 413 [.inr (.inr (29, (some 0))), .inr (.inr (11, (some 0))), .inr (.inr (12, (some 0))), .inr (.inr (23, (some 0))), .inl 0, sJk, sJk] [.inl (bz (!(decide ((xs 2) = 0)))), .inl 1, .inr (.inr (11, (some 0)))] t Qp := by
    refine x_aload_n (pc' := 414) rfl rfl rfl rfl rfl ?_
    refine x_cs (ls0 := [_, _, _, _, sJk]) (rest := []) rfl rfl rfl rfl ?_
    refine x_aload_n (pc' := 1) rfl rfl rfl rfl rfl ?_
    refine x_iconst (pc' := 2) rfl rfl ?_
    refine x_aload_n (pc' := 3) rfl rfl rfl rfl rfl ?_
    refine x_iload_n (pc' := 4) rfl rfl rfl ?_
    refine x_iload_n (pc' := 5) rfl rfl rfl ?_
    refine x_cv (ls0 := [_, _, _, sJk, sJk]) (rest := [_, _]) rfl rfl rfl rfl rfl ?_
    refine x_aload_n (pc' := 1) rfl rfl rfl rfl rfl ?_
    refine x_iload_n (pc' := 2) rfl rfl rfl ?_
    refine x_cv (ls0 := [_, _]) (rest := []) rfl rfl rfl rfl rfl ?_
    refine x_iload_n (pc' := 1) rfl rfl rfl ?_
    refine x_if (a' := 16) (pc' := 4) (z := false) rfl rfl rfl (by decide) (fun h => by cases h) (fun _ => ?_)
    refine x_iload_n (pc' := 5) rfl rfl rfl ?_
    refine x_aload_n (pc' := 6) rfl rfl rfl rfl rfl ?_
    refine x_gR (pc' := 9) (r := (some 0)) rfl rfl rfl (z_R_705_0 e) ?_
    refine x_gR (pc' := 12) (r := (some 0)) rfl rfl rfl (z_R_256_0 e) ?_
    refine x_alen (pc' := 13) (N := 5) rfl rfl rfl (z_N_24_0 e) (?_ : X _ _ _ (.inl 5 :: _) _ _)
    refine x_icmp (a' := 27) (pc' := 16) (z := true) rfl rfl rfl (by decide) (fun _ => ?_) (fun h => by cases h)
    refine x_aload_n (pc' := 28) rfl rfl rfl rfl rfl ?_
    refine x_gR (pc' := 31) (r := (some 0)) rfl rfl rfl (z_R_705_0 e) ?_
    refine x_gR (pc' := 34) (r := (some 0)) rfl rfl rfl (z_R_256_0 e) ?_
    refine x_iload_n (pc' := 35) rfl rfl rfl ?_
    refine x_aald (pc' := 36) (N := 5) (k' := 1) (r := (some 1)) rfl rfl rfl (z_N_24_0 e) (io_in (p := 1) (N := 5) (by decide) (by decide)) (Eq.trans (congrArg (sE t 24 0) (nn_io (p := 1) (by decide))) (z_E_24_0_1 e)) ?_
    refine x_reta rfl rfl ?_
    refine sK_i (pc' := 5) rfl ?_
    refine x_astore_n (pc' := 6) (ls' := [_, _, _, _, _]) rfl rfl rfl rfl rfl ?_
    refine x_aload_n (pc' := 7) rfl rfl rfl rfl rfl ?_
    refine x_gZ (pc' := 10) (z := false) rfl rfl rfl (z_Z_68_1 e) ?_
    refine x_istore (pc' := 12) (ls' := [_, _, _, _, _]) rfl rfl rfl rfl ?_
    refine x_aload_n (pc' := 13) rfl rfl rfl rfl rfl ?_
    refine x_iload_n (pc' := 14) rfl rfl rfl ?_
    refine x_pZ (pc' := 17) (z := (!(decide ((xs 2) = 0)))) rfl rfl rfl rfl ?_
    refine x_iload (pc' := 19) rfl rfl rfl ?_
    refine x_retz (z := false) rfl rfl ?_
    refine sK_i (pc' := 8) rfl ?_
    refine x_if (a' := 15) (pc' := 11) (z := true) rfl rfl rfl (by decide) (fun _ => ?_) (fun h => by cases h)
    refine x_lconst (pc' := 16) rfl rfl rfl ?_
    refine x_last (pc' := 17) (N := 1) (p := 0) rfl rfl (Eq.trans rdNZ (z_N_23_0 e)) (io_in (p := 0) (N := 1) (by decide) (by decide)) (nn_io (p := 0) (by decide)) ?_
    refine x_goto (pc' := 24) rfl rfl ?_
    refine x_iconst (pc' := 25) rfl rfl ?_
    refine x_reti rfl rfl ?_
    refine sK_i (pc' := 417) rfl ?_
    refine x_istore (pc' := 419) (ls' := [_, _, _, _, _, _, _]) rfl rfl rfl rfl ?_
    refine x_aload_n (pc' := 420) rfl rfl rfl rfl rfl ?_
    refine x_aload_n (pc' := 421) rfl rfl rfl rfl rfl ?_
    refine x_iload (pc' := 423) rfl rfl rfl ?_
    refine x_iconst (pc' := 424) rfl rfl ?_
    refine x_iadd (pc' := 425) (z := 1) rfl rfl (by decide) ?_
    refine x_iald (pc' := 426) (N := 7) (x := 1) rfl rfl rfl (Eq.trans rdNL (Eq.trans rdNZ (z_N_29_0 e))) (io_in (p := 1) (N := 7) (by decide) (by decide)) (Eq.trans (congrArg (sA (sLw (sZw t 68 1 (!(decide ((xs 2) = 0)))) 23 0 0 (0 : Int64)) 29 0) (nn_io (p := 1) (by decide))) (Eq.trans rdAL (Eq.trans rdAZ (Eq.trans (z_A_29_0_1 e) e0)))) ?_
    refine x_aload_n (pc' := 427) rfl rfl rfl rfl rfl ?_
    refine x_iload (pc' := 429) rfl rfl rfl ?_
    refine x_iconst (pc' := 430) rfl rfl ?_
    refine x_iadd (pc' := 431) (z := 2) rfl rfl (by decide) ?_
    refine x_iald (pc' := 432) (N := 7) (x := (xs 2)) rfl rfl rfl (Eq.trans rdNL (Eq.trans rdNZ (z_N_29_0 e))) (io_in (p := 2) (N := 7) (by decide) (by decide)) (Eq.trans (congrArg (sA (sLw (sZw t 68 1 (!(decide ((xs 2) = 0)))) 23 0 0 (0 : Int64)) 29 0) (nn_io (p := 2) (by decide))) (Eq.trans rdAL (Eq.trans rdAZ (z_A_29_0_2 e)))) ?_
    have J8 : X 297 440 [.inr (.inr (29, (some 0))), .inr (.inr (11, (some 0))), .inr (.inr (12, (some 0))), .inr (.inr (23, (some 0))), .inl 0, .inl 0, sJk] [.inl (bz (!(decide ((xs 2) = 0)))), .inl 1, .inr (.inr (12, (some 0)))] (sLw (sZw t 68 1 (!(decide ((xs 2) = 0)))) 23 0 0 (0 : Int64)) Qp := by
      refine x_cv (ls0 := [_, _, _, sJk]) (rest := []) rfl rfl rfl rfl rfl ?_
      refine x_aload_n (pc' := 1) rfl rfl rfl rfl rfl ?_
      refine x_iload_n (pc' := 2) rfl rfl rfl ?_
      refine x_cs (ls0 := [_]) (rest := [_]) rfl rfl rfl rfl ?_
      refine x_iload_n (pc' := 1) rfl rfl rfl ?_
      refine x_iconst (pc' := 2) rfl rfl ?_
      refine x_iconst (pc' := 3) rfl rfl ?_
      refine x_cs (ls0 := [_, _, _]) (rest := []) rfl rfl rfl rfl ?_
      refine x_iload_n (pc' := 1) rfl rfl rfl ?_
      refine x_iload_n (pc' := 2) rfl rfl rfl ?_
      refine x_icmp (a' := 14) (pc' := 5) (z := false) rfl rfl rfl (by decide) (fun h => by cases h) (fun _ => ?_)
      refine x_iload_n (pc' := 6) rfl rfl rfl ?_
      refine x_iload_n (pc' := 7) rfl rfl rfl ?_
      refine x_icmp (a' := 14) (pc' := 10) (z := false) rfl rfl rfl (by decide) (fun h => by cases h) (fun _ => ?_)
      refine x_iconst (pc' := 11) rfl rfl ?_
      refine x_goto (pc' := 15) rfl rfl ?_
      refine x_retz (z := true) rfl rfl ?_
      refine sK_i (pc' := 6) rfl ?_
      refine x_retz (z := true) rfl rfl ?_
      refine sK_i (pc' := 5) rfl ?_
      refine x_if (a' := 12) (pc' := 8) (z := false) rfl rfl rfl (by decide) (fun h => by cases h) (fun _ => ?_)
      refine x_iconst (pc' := 9) rfl rfl ?_
      refine x_goto (pc' := 13) rfl rfl ?_
      refine x_cv (ls0 := [_, _]) (rest := []) rfl rfl rfl rfl rfl ?_
      refine x_aload_n (pc' := 1) rfl rfl rfl rfl rfl ?_
      refine x_iload_n (pc' := 2) rfl rfl rfl ?_
      refine x_pI (pc' := 5) rfl rfl rfl ?_
      refine x_iload_n (pc' := 6) rfl rfl rfl ?_
      refine x_if (a' := 13) (pc' := 9) (z := false) rfl rfl rfl (by decide) (fun h => by cases h) (fun _ => ?_)
      refine x_iconst (pc' := 10) rfl rfl ?_
      refine x_goto (pc' := 14) rfl rfl ?_
      refine x_retz (z := true) rfl rfl ?_
      refine sK_i (pc' := 16) rfl ?_
      refine x_if (a' := 21) (pc' := 19) (z := true) rfl rfl rfl (by decide) (fun _ => ?_) (fun h => by cases h)
      refine x_aload_n (pc' := 22) rfl rfl rfl rfl rfl ?_
      refine x_gR (pc' := 25) (r := (some 0)) rfl rfl rfl (Eq.trans rdRI (Eq.trans rdRL (Eq.trans rdRZ (z_R_770_0 e)))) ?_
      refine x_iload_n (pc' := 26) rfl rfl rfl ?_
      refine x_bald (pc' := 27) (N := 5) (z := false) rfl rfl (Eq.trans rdNI (Eq.trans rdNL (Eq.trans rdNZ (z_N_22_0 e)))) (io_in (p := 1) (N := 5) (by decide) (by decide)) (Eq.trans (congrArg (sB (sIw (sLw (sZw t 68 1 (!(decide ((xs 2) = 0)))) 23 0 0 (0 : Int64)) 768 0 0) 22 0) (nn_io (p := 1) (by decide))) (Eq.trans rdBI (Eq.trans rdBL (Eq.trans rdBZ (z_B_22_0_1 e))))) ?_
      refine x_istore_n (pc' := 28) (ls' := [_, _, _, _]) rfl rfl rfl rfl ?_
      refine x_aload_n (pc' := 29) rfl rfl rfl rfl rfl ?_
      refine x_gR (pc' := 32) (r := (some 0)) rfl rfl rfl (Eq.trans rdRI (Eq.trans rdRL (Eq.trans rdRZ (z_R_770_0 e)))) ?_
      refine x_iload_n (pc' := 33) rfl rfl rfl ?_
      refine x_iload_n (pc' := 34) rfl rfl rfl ?_
      refine x_bast (pc' := 35) (N := 5) (p := 1) (z := (!(decide ((xs 2) = 0)))) rfl rfl (Eq.trans rdNI (Eq.trans rdNL (Eq.trans rdNZ (z_N_22_0 e)))) (io_in (p := 1) (N := 5) (by decide) (by decide)) (nn_io (p := 1) (by decide)) rfl ?_
      refine x_iload_n (pc' := 36) rfl rfl rfl ?_
      refine x_retz (z := false) rfl rfl ?_
      refine sK_i (pc' := 443) rfl ?_
      refine x_istore (pc' := 445) (ls' := [_, _, _, _, _, _, _]) rfl rfl rfl rfl ?_
      refine x_aload_n (pc' := 446) rfl rfl rfl rfl rfl ?_
      refine x_cv (ls0 := [_]) (rest := []) rfl rfl rfl rfl rfl ?_
      refine x_aload_n (pc' := 1) rfl rfl rfl rfl rfl ?_
      refine x_gI (pc' := 4) (x := 0) rfl rfl rfl (Eq.trans rdIB sI_s) ?_
      refine x_reti rfl rfl ?_
      refine sK_i (pc' := 449) rfl ?_
      refine x_iload (pc' := 451) rfl rfl rfl ?_
      refine x_icmp (a' := 456) (pc' := 454) (z := true) rfl rfl rfl (by decide) (fun _ => ?_) (fun h => by cases h)
      refine x_iload (pc' := 458) rfl rfl rfl ?_
      refine x_if (a' := 480) (pc' := 461) (z := false) rfl rfl rfl (by decide) (fun h => by cases h) (fun _ => ?_)
      refine x_aload_n (pc' := 462) rfl rfl rfl rfl rfl ?_
      refine x_iconst (pc' := 463) rfl rfl ?_
      refine x_lald (pc' := 464) (N := 1) (x := (0 : Int64)) rfl rfl (Eq.trans rdNB (Eq.trans rdNI (Eq.trans rdNL (Eq.trans rdNZ (z_N_23_0 e))))) (io_in (p := 0) (N := 1) (by decide) (by decide)) (Eq.trans (congrArg (sL (sBw (sIw (sLw (sZw t 68 1 (!(decide ((xs 2) = 0)))) 23 0 0 (0 : Int64)) 768 0 0) 22 0 1 (!(decide ((xs 2) = 0)))) 23 0) (nn_io (p := 0) (by decide))) (Eq.trans rdLB (Eq.trans rdLI sL_s))) ?_
      refine x_iload (pc' := 466) rfl rfl rfl ?_
      refine x_if (a' := 473) (pc' := 469) (z := true) rfl rfl rfl (by decide) (fun _ => ?_) (fun h => by cases h)
      refine x_lconst (pc' := 474) rfl rfl rfl ?_
      refine x_lcmp (pc' := 475) (z := 0) rfl rfl (sLcmp_s _) ?_
      refine x_if (a' := 480) (pc' := 478) (z := true) rfl rfl rfl (by decide) (fun _ => ?_) (fun h => by cases h)
      refine x_goto (pc' := 2938) rfl rfl ?_
      refine x_iinc (pc' := 2941) (y := 7) (ls' := [_, _, _, _, _, _, _]) rfl rfl rfl rfl rfl ?_
      refine x_goto (pc' := 23) rfl rfl ?_
      refine x_iload (pc' := 25) rfl rfl rfl ?_
      refine x_aload_n (pc' := 26) rfl rfl rfl rfl rfl ?_
      refine x_alen (pc' := 27) (N := 7) rfl rfl rfl (Eq.trans rdNB (Eq.trans rdNI (Eq.trans rdNL (Eq.trans rdNZ (z_N_29_0 e))))) (?_ : X _ _ _ (.inl 7 :: _) _ _)
      refine x_bipush (pc' := 29) rfl rfl ?_
      refine x_isub (pc' := 30) (z := 0) rfl rfl (by decide) ?_
      refine x_icmp (a' := 2944) (pc' := 33) (z := true) rfl rfl rfl (by decide) (fun _ => ?_) (fun h => by cases h)
      refine x_iconst (pc' := 2945) rfl rfl ?_
      refine x_retz (z := true) rfl rfl ?_
      exact Qp_ok e (p := 0) (q := 0) rfl rfl rfl rfl
    refine x_if (a' := 439) (pc' := 435) (z := decide ((xs 2) = 0)) rfl rfl rfl rfl (fun q8 => ?_) (fun q8 => ?_)
    · refine x_iconst (pc' := 440) rfl rfl ?_
      ((try rw [q8] at J8); (try rw [q8]); (try simp only [cd_t, cd_f, nt_t, nt_f, an_t, an_f, or_t, or_f] at J8); (try simp only [cd_t, cd_f, nt_t, nt_f, an_t, an_f, or_t, or_f]); exact J8)
    · refine x_iconst (pc' := 436) rfl rfl ?_
      refine x_goto (pc' := 440) rfl rfl ?_
      ((try rw [q8] at J8); (try rw [q8]); (try simp only [cd_t, cd_f, nt_t, nt_f, an_t, an_f, or_t, or_f] at J8); (try simp only [cd_t, cd_f, nt_t, nt_f, an_t, an_f, or_t, or_f]); exact J8)
  refine x_if (a' := 412) (pc' := 408) (z := decide ((xs 2) = 0)) rfl rfl rfl rfl (fun q3 => ?_) (fun q3 => ?_)
  · refine x_iconst (pc' := 413) rfl rfl ?_
    ((try rw [q3] at J3); (try rw [q3]); (try simp only [cd_t, cd_f, nt_t, nt_f, an_t, an_f, or_t, or_f] at J3); (try simp only [cd_t, cd_f, nt_t, nt_f, an_t, an_f, or_t, or_f]); exact J3)
  · refine x_iconst (pc' := 409) rfl rfl ?_
    refine x_goto (pc' := 413) rfl rfl ?_
    ((try rw [q3] at J3); (try rw [q3]); (try simp only [cd_t, cd_f, nt_t, nt_f, an_t, an_f, or_t, or_f] at J3); (try simp only [cd_t, cd_f, nt_t, nt_f, an_t, an_f, or_t, or_f]); exact J3)
set_option maxHeartbeats 4000000 in
set_option maxRecDepth 10000 in
theorem v_3_2_i {t : sT} {xs : Nat → Int32}
    (e : t = T16 7 xs)
    (hk : ((xs 0) &&& 63) = 3)
    (e0 : xs 1 = 2) :
    X 297 23 [.inr (.inr (29, (some 0))), .inr (.inr (11, (some 0))), .inr (.inr (12, (some 0))), .inr (.inr (23, (some 0))), .inl 0, sJk, sJk] [] t Qp := by
  refine x_iload (pc' := 25) rfl rfl rfl ?_
  refine x_aload_n (pc' := 26) rfl rfl rfl rfl rfl ?_
  refine x_alen (pc' := 27) (N := 7) rfl rfl rfl (z_N_29_0 e) (?_ : X _ _ _ (.inl 7 :: _) _ _)
  refine x_bipush (pc' := 29) rfl rfl ?_
  refine x_isub (pc' := 30) (z := 0) rfl rfl (by decide) ?_
  refine x_icmp (a' := 2944) (pc' := 33) (z := false) rfl rfl rfl (by decide) (fun h => by cases h) (fun _ => ?_)
  refine x_aload_n (pc' := 34) rfl rfl rfl rfl rfl ?_
  refine x_iload (pc' := 36) rfl rfl rfl ?_
  refine x_iald (pc' := 37) (N := 7) (x := (xs 0)) rfl rfl rfl (z_N_29_0 e) (io_in (p := 0) (N := 7) (by decide) (by decide)) (Eq.trans (congrArg (sA t 29 0) (nn_io (p := 0) (by decide))) (z_A_29_0_0 e)) ?_
  refine x_bipush (pc' := 39) rfl rfl ?_
  refine x_iand (pc' := 40) (z := ((xs 0) &&& 63)) rfl rfl rfl ?_
  refine x_switch (pc' := 392) rfl (by rw [hk]; decide) ?_
  refine x_aload_n (pc' := 393) rfl rfl rfl rfl rfl ?_
  refine x_aload_n (pc' := 394) rfl rfl rfl rfl rfl ?_
  refine x_iload (pc' := 396) rfl rfl rfl ?_
  refine x_iconst (pc' := 397) rfl rfl ?_
  refine x_iadd (pc' := 398) (z := 1) rfl rfl (by decide) ?_
  refine x_iald (pc' := 399) (N := 7) (x := 2) rfl rfl rfl (z_N_29_0 e) (io_in (p := 1) (N := 7) (by decide) (by decide)) (Eq.trans (congrArg (sA t 29 0) (nn_io (p := 1) (by decide))) (Eq.trans (z_A_29_0_1 e) e0)) ?_
  refine x_aload_n (pc' := 400) rfl rfl rfl rfl rfl ?_
  refine x_iload (pc' := 402) rfl rfl rfl ?_
  refine x_iconst (pc' := 403) rfl rfl ?_
  refine x_iadd (pc' := 404) (z := 2) rfl rfl (by decide) ?_
  refine x_iald (pc' := 405) (N := 7) (x := (xs 2)) rfl rfl rfl (z_N_29_0 e) (io_in (p := 2) (N := 7) (by decide) (by decide)) (Eq.trans (congrArg (sA t 29 0) (nn_io (p := 2) (by decide))) (z_A_29_0_2 e)) ?_
  have J3 : X 297 413 [.inr (.inr (29, (some 0))), .inr (.inr (11, (some 0))), .inr (.inr (12, (some 0))), .inr (.inr (23, (some 0))), .inl 0, sJk, sJk] [.inl (bz (!(decide ((xs 2) = 0)))), .inl 2, .inr (.inr (11, (some 0)))] t Qp := by
    refine x_aload_n (pc' := 414) rfl rfl rfl rfl rfl ?_
    refine x_cs (ls0 := [_, _, _, _, sJk]) (rest := []) rfl rfl rfl rfl ?_
    refine x_aload_n (pc' := 1) rfl rfl rfl rfl rfl ?_
    refine x_iconst (pc' := 2) rfl rfl ?_
    refine x_aload_n (pc' := 3) rfl rfl rfl rfl rfl ?_
    refine x_iload_n (pc' := 4) rfl rfl rfl ?_
    refine x_iload_n (pc' := 5) rfl rfl rfl ?_
    refine x_cv (ls0 := [_, _, _, sJk, sJk]) (rest := [_, _]) rfl rfl rfl rfl rfl ?_
    refine x_aload_n (pc' := 1) rfl rfl rfl rfl rfl ?_
    refine x_iload_n (pc' := 2) rfl rfl rfl ?_
    refine x_cv (ls0 := [_, _]) (rest := []) rfl rfl rfl rfl rfl ?_
    refine x_iload_n (pc' := 1) rfl rfl rfl ?_
    refine x_if (a' := 16) (pc' := 4) (z := false) rfl rfl rfl (by decide) (fun h => by cases h) (fun _ => ?_)
    refine x_iload_n (pc' := 5) rfl rfl rfl ?_
    refine x_aload_n (pc' := 6) rfl rfl rfl rfl rfl ?_
    refine x_gR (pc' := 9) (r := (some 0)) rfl rfl rfl (z_R_705_0 e) ?_
    refine x_gR (pc' := 12) (r := (some 0)) rfl rfl rfl (z_R_256_0 e) ?_
    refine x_alen (pc' := 13) (N := 5) rfl rfl rfl (z_N_24_0 e) (?_ : X _ _ _ (.inl 5 :: _) _ _)
    refine x_icmp (a' := 27) (pc' := 16) (z := true) rfl rfl rfl (by decide) (fun _ => ?_) (fun h => by cases h)
    refine x_aload_n (pc' := 28) rfl rfl rfl rfl rfl ?_
    refine x_gR (pc' := 31) (r := (some 0)) rfl rfl rfl (z_R_705_0 e) ?_
    refine x_gR (pc' := 34) (r := (some 0)) rfl rfl rfl (z_R_256_0 e) ?_
    refine x_iload_n (pc' := 35) rfl rfl rfl ?_
    refine x_aald (pc' := 36) (N := 5) (k' := 1) (r := (some 2)) rfl rfl rfl (z_N_24_0 e) (io_in (p := 2) (N := 5) (by decide) (by decide)) (Eq.trans (congrArg (sE t 24 0) (nn_io (p := 2) (by decide))) (z_E_24_0_2 e)) ?_
    refine x_reta rfl rfl ?_
    refine sK_i (pc' := 5) rfl ?_
    refine x_astore_n (pc' := 6) (ls' := [_, _, _, _, _]) rfl rfl rfl rfl rfl ?_
    refine x_aload_n (pc' := 7) rfl rfl rfl rfl rfl ?_
    refine x_gZ (pc' := 10) (z := false) rfl rfl rfl (z_Z_68_2 e) ?_
    refine x_istore (pc' := 12) (ls' := [_, _, _, _, _]) rfl rfl rfl rfl ?_
    refine x_aload_n (pc' := 13) rfl rfl rfl rfl rfl ?_
    refine x_iload_n (pc' := 14) rfl rfl rfl ?_
    refine x_pZ (pc' := 17) (z := (!(decide ((xs 2) = 0)))) rfl rfl rfl rfl ?_
    refine x_iload (pc' := 19) rfl rfl rfl ?_
    refine x_retz (z := false) rfl rfl ?_
    refine sK_i (pc' := 8) rfl ?_
    refine x_if (a' := 15) (pc' := 11) (z := true) rfl rfl rfl (by decide) (fun _ => ?_) (fun h => by cases h)
    refine x_lconst (pc' := 16) rfl rfl rfl ?_
    refine x_last (pc' := 17) (N := 1) (p := 0) rfl rfl (Eq.trans rdNZ (z_N_23_0 e)) (io_in (p := 0) (N := 1) (by decide) (by decide)) (nn_io (p := 0) (by decide)) ?_
    refine x_goto (pc' := 24) rfl rfl ?_
    refine x_iconst (pc' := 25) rfl rfl ?_
    refine x_reti rfl rfl ?_
    refine sK_i (pc' := 417) rfl ?_
    refine x_istore (pc' := 419) (ls' := [_, _, _, _, _, _, _]) rfl rfl rfl rfl ?_
    refine x_aload_n (pc' := 420) rfl rfl rfl rfl rfl ?_
    refine x_aload_n (pc' := 421) rfl rfl rfl rfl rfl ?_
    refine x_iload (pc' := 423) rfl rfl rfl ?_
    refine x_iconst (pc' := 424) rfl rfl ?_
    refine x_iadd (pc' := 425) (z := 1) rfl rfl (by decide) ?_
    refine x_iald (pc' := 426) (N := 7) (x := 2) rfl rfl rfl (Eq.trans rdNL (Eq.trans rdNZ (z_N_29_0 e))) (io_in (p := 1) (N := 7) (by decide) (by decide)) (Eq.trans (congrArg (sA (sLw (sZw t 68 2 (!(decide ((xs 2) = 0)))) 23 0 0 (0 : Int64)) 29 0) (nn_io (p := 1) (by decide))) (Eq.trans rdAL (Eq.trans rdAZ (Eq.trans (z_A_29_0_1 e) e0)))) ?_
    refine x_aload_n (pc' := 427) rfl rfl rfl rfl rfl ?_
    refine x_iload (pc' := 429) rfl rfl rfl ?_
    refine x_iconst (pc' := 430) rfl rfl ?_
    refine x_iadd (pc' := 431) (z := 2) rfl rfl (by decide) ?_
    refine x_iald (pc' := 432) (N := 7) (x := (xs 2)) rfl rfl rfl (Eq.trans rdNL (Eq.trans rdNZ (z_N_29_0 e))) (io_in (p := 2) (N := 7) (by decide) (by decide)) (Eq.trans (congrArg (sA (sLw (sZw t 68 2 (!(decide ((xs 2) = 0)))) 23 0 0 (0 : Int64)) 29 0) (nn_io (p := 2) (by decide))) (Eq.trans rdAL (Eq.trans rdAZ (z_A_29_0_2 e)))) ?_
    have J8 : X 297 440 [.inr (.inr (29, (some 0))), .inr (.inr (11, (some 0))), .inr (.inr (12, (some 0))), .inr (.inr (23, (some 0))), .inl 0, .inl 0, sJk] [.inl (bz (!(decide ((xs 2) = 0)))), .inl 2, .inr (.inr (12, (some 0)))] (sLw (sZw t 68 2 (!(decide ((xs 2) = 0)))) 23 0 0 (0 : Int64)) Qp := by
      refine x_cv (ls0 := [_, _, _, sJk]) (rest := []) rfl rfl rfl rfl rfl ?_
      refine x_aload_n (pc' := 1) rfl rfl rfl rfl rfl ?_
      refine x_iload_n (pc' := 2) rfl rfl rfl ?_
      refine x_cs (ls0 := [_]) (rest := [_]) rfl rfl rfl rfl ?_
      refine x_iload_n (pc' := 1) rfl rfl rfl ?_
      refine x_iconst (pc' := 2) rfl rfl ?_
      refine x_iconst (pc' := 3) rfl rfl ?_
      refine x_cs (ls0 := [_, _, _]) (rest := []) rfl rfl rfl rfl ?_
      refine x_iload_n (pc' := 1) rfl rfl rfl ?_
      refine x_iload_n (pc' := 2) rfl rfl rfl ?_
      refine x_icmp (a' := 14) (pc' := 5) (z := false) rfl rfl rfl (by decide) (fun h => by cases h) (fun _ => ?_)
      refine x_iload_n (pc' := 6) rfl rfl rfl ?_
      refine x_iload_n (pc' := 7) rfl rfl rfl ?_
      refine x_icmp (a' := 14) (pc' := 10) (z := false) rfl rfl rfl (by decide) (fun h => by cases h) (fun _ => ?_)
      refine x_iconst (pc' := 11) rfl rfl ?_
      refine x_goto (pc' := 15) rfl rfl ?_
      refine x_retz (z := true) rfl rfl ?_
      refine sK_i (pc' := 6) rfl ?_
      refine x_retz (z := true) rfl rfl ?_
      refine sK_i (pc' := 5) rfl ?_
      refine x_if (a' := 12) (pc' := 8) (z := false) rfl rfl rfl (by decide) (fun h => by cases h) (fun _ => ?_)
      refine x_iconst (pc' := 9) rfl rfl ?_
      refine x_goto (pc' := 13) rfl rfl ?_
      refine x_cv (ls0 := [_, _]) (rest := []) rfl rfl rfl rfl rfl ?_
      refine x_aload_n (pc' := 1) rfl rfl rfl rfl rfl ?_
      refine x_iload_n (pc' := 2) rfl rfl rfl ?_
      refine x_pI (pc' := 5) rfl rfl rfl ?_
      refine x_iload_n (pc' := 6) rfl rfl rfl ?_
      refine x_if (a' := 13) (pc' := 9) (z := false) rfl rfl rfl (by decide) (fun h => by cases h) (fun _ => ?_)
      refine x_iconst (pc' := 10) rfl rfl ?_
      refine x_goto (pc' := 14) rfl rfl ?_
      refine x_retz (z := true) rfl rfl ?_
      refine sK_i (pc' := 16) rfl ?_
      refine x_if (a' := 21) (pc' := 19) (z := true) rfl rfl rfl (by decide) (fun _ => ?_) (fun h => by cases h)
      refine x_aload_n (pc' := 22) rfl rfl rfl rfl rfl ?_
      refine x_gR (pc' := 25) (r := (some 0)) rfl rfl rfl (Eq.trans rdRI (Eq.trans rdRL (Eq.trans rdRZ (z_R_770_0 e)))) ?_
      refine x_iload_n (pc' := 26) rfl rfl rfl ?_
      refine x_bald (pc' := 27) (N := 5) (z := false) rfl rfl (Eq.trans rdNI (Eq.trans rdNL (Eq.trans rdNZ (z_N_22_0 e)))) (io_in (p := 2) (N := 5) (by decide) (by decide)) (Eq.trans (congrArg (sB (sIw (sLw (sZw t 68 2 (!(decide ((xs 2) = 0)))) 23 0 0 (0 : Int64)) 768 0 0) 22 0) (nn_io (p := 2) (by decide))) (Eq.trans rdBI (Eq.trans rdBL (Eq.trans rdBZ (z_B_22_0_2 e))))) ?_
      refine x_istore_n (pc' := 28) (ls' := [_, _, _, _]) rfl rfl rfl rfl ?_
      refine x_aload_n (pc' := 29) rfl rfl rfl rfl rfl ?_
      refine x_gR (pc' := 32) (r := (some 0)) rfl rfl rfl (Eq.trans rdRI (Eq.trans rdRL (Eq.trans rdRZ (z_R_770_0 e)))) ?_
      refine x_iload_n (pc' := 33) rfl rfl rfl ?_
      refine x_iload_n (pc' := 34) rfl rfl rfl ?_
      refine x_bast (pc' := 35) (N := 5) (p := 2) (z := (!(decide ((xs 2) = 0)))) rfl rfl (Eq.trans rdNI (Eq.trans rdNL (Eq.trans rdNZ (z_N_22_0 e)))) (io_in (p := 2) (N := 5) (by decide) (by decide)) (nn_io (p := 2) (by decide)) rfl ?_
      refine x_iload_n (pc' := 36) rfl rfl rfl ?_
      refine x_retz (z := false) rfl rfl ?_
      refine sK_i (pc' := 443) rfl ?_
      refine x_istore (pc' := 445) (ls' := [_, _, _, _, _, _, _]) rfl rfl rfl rfl ?_
      refine x_aload_n (pc' := 446) rfl rfl rfl rfl rfl ?_
      refine x_cv (ls0 := [_]) (rest := []) rfl rfl rfl rfl rfl ?_
      refine x_aload_n (pc' := 1) rfl rfl rfl rfl rfl ?_
      refine x_gI (pc' := 4) (x := 0) rfl rfl rfl (Eq.trans rdIB sI_s) ?_
      refine x_reti rfl rfl ?_
      refine sK_i (pc' := 449) rfl ?_
      refine x_iload (pc' := 451) rfl rfl rfl ?_
      refine x_icmp (a' := 456) (pc' := 454) (z := true) rfl rfl rfl (by decide) (fun _ => ?_) (fun h => by cases h)
      refine x_iload (pc' := 458) rfl rfl rfl ?_
      refine x_if (a' := 480) (pc' := 461) (z := false) rfl rfl rfl (by decide) (fun h => by cases h) (fun _ => ?_)
      refine x_aload_n (pc' := 462) rfl rfl rfl rfl rfl ?_
      refine x_iconst (pc' := 463) rfl rfl ?_
      refine x_lald (pc' := 464) (N := 1) (x := (0 : Int64)) rfl rfl (Eq.trans rdNB (Eq.trans rdNI (Eq.trans rdNL (Eq.trans rdNZ (z_N_23_0 e))))) (io_in (p := 0) (N := 1) (by decide) (by decide)) (Eq.trans (congrArg (sL (sBw (sIw (sLw (sZw t 68 2 (!(decide ((xs 2) = 0)))) 23 0 0 (0 : Int64)) 768 0 0) 22 0 2 (!(decide ((xs 2) = 0)))) 23 0) (nn_io (p := 0) (by decide))) (Eq.trans rdLB (Eq.trans rdLI sL_s))) ?_
      refine x_iload (pc' := 466) rfl rfl rfl ?_
      refine x_if (a' := 473) (pc' := 469) (z := true) rfl rfl rfl (by decide) (fun _ => ?_) (fun h => by cases h)
      refine x_lconst (pc' := 474) rfl rfl rfl ?_
      refine x_lcmp (pc' := 475) (z := 0) rfl rfl (sLcmp_s _) ?_
      refine x_if (a' := 480) (pc' := 478) (z := true) rfl rfl rfl (by decide) (fun _ => ?_) (fun h => by cases h)
      refine x_goto (pc' := 2938) rfl rfl ?_
      refine x_iinc (pc' := 2941) (y := 7) (ls' := [_, _, _, _, _, _, _]) rfl rfl rfl rfl rfl ?_
      refine x_goto (pc' := 23) rfl rfl ?_
      refine x_iload (pc' := 25) rfl rfl rfl ?_
      refine x_aload_n (pc' := 26) rfl rfl rfl rfl rfl ?_
      refine x_alen (pc' := 27) (N := 7) rfl rfl rfl (Eq.trans rdNB (Eq.trans rdNI (Eq.trans rdNL (Eq.trans rdNZ (z_N_29_0 e))))) (?_ : X _ _ _ (.inl 7 :: _) _ _)
      refine x_bipush (pc' := 29) rfl rfl ?_
      refine x_isub (pc' := 30) (z := 0) rfl rfl (by decide) ?_
      refine x_icmp (a' := 2944) (pc' := 33) (z := true) rfl rfl rfl (by decide) (fun _ => ?_) (fun h => by cases h)
      refine x_iconst (pc' := 2945) rfl rfl ?_
      refine x_retz (z := true) rfl rfl ?_
      exact Qp_ok e (p := 0) (q := 0) rfl rfl rfl rfl
    refine x_if (a' := 439) (pc' := 435) (z := decide ((xs 2) = 0)) rfl rfl rfl rfl (fun q8 => ?_) (fun q8 => ?_)
    · refine x_iconst (pc' := 440) rfl rfl ?_
      ((try rw [q8] at J8); (try rw [q8]); (try simp only [cd_t, cd_f, nt_t, nt_f, an_t, an_f, or_t, or_f] at J8); (try simp only [cd_t, cd_f, nt_t, nt_f, an_t, an_f, or_t, or_f]); exact J8)
    · refine x_iconst (pc' := 436) rfl rfl ?_
      refine x_goto (pc' := 440) rfl rfl ?_
      ((try rw [q8] at J8); (try rw [q8]); (try simp only [cd_t, cd_f, nt_t, nt_f, an_t, an_f, or_t, or_f] at J8); (try simp only [cd_t, cd_f, nt_t, nt_f, an_t, an_f, or_t, or_f]); exact J8)
  refine x_if (a' := 412) (pc' := 408) (z := decide ((xs 2) = 0)) rfl rfl rfl rfl (fun q3 => ?_) (fun q3 => ?_)
  · refine x_iconst (pc' := 413) rfl rfl ?_
    ((try rw [q3] at J3); (try rw [q3]); (try simp only [cd_t, cd_f, nt_t, nt_f, an_t, an_f, or_t, or_f] at J3); (try simp only [cd_t, cd_f, nt_t, nt_f, an_t, an_f, or_t, or_f]); exact J3)
  · refine x_iconst (pc' := 409) rfl rfl ?_
    refine x_goto (pc' := 413) rfl rfl ?_
    ((try rw [q3] at J3); (try rw [q3]); (try simp only [cd_t, cd_f, nt_t, nt_f, an_t, an_f, or_t, or_f] at J3); (try simp only [cd_t, cd_f, nt_t, nt_f, an_t, an_f, or_t, or_f]); exact J3)
set_option maxHeartbeats 4000000 in
set_option maxRecDepth 10000 in
theorem v_3_3_i {t : sT} {xs : Nat → Int32}
    (e : t = T16 7 xs)
    (hk : ((xs 0) &&& 63) = 3)
    (e0 : xs 1 = 3) :
    X 297 23 [.inr (.inr (29, (some 0))), .inr (.inr (11, (some 0))), .inr (.inr (12, (some 0))), .inr (.inr (23, (some 0))), .inl 0, sJk, sJk] [] t Qp := by
  refine x_iload (pc' := 25) rfl rfl rfl ?_
  refine x_aload_n (pc' := 26) rfl rfl rfl rfl rfl ?_
  refine x_alen (pc' := 27) (N := 7) rfl rfl rfl (z_N_29_0 e) (?_ : X _ _ _ (.inl 7 :: _) _ _)
  refine x_bipush (pc' := 29) rfl rfl ?_
  refine x_isub (pc' := 30) (z := 0) rfl rfl (by decide) ?_
  refine x_icmp (a' := 2944) (pc' := 33) (z := false) rfl rfl rfl (by decide) (fun h => by cases h) (fun _ => ?_)
  refine x_aload_n (pc' := 34) rfl rfl rfl rfl rfl ?_
  refine x_iload (pc' := 36) rfl rfl rfl ?_
  refine x_iald (pc' := 37) (N := 7) (x := (xs 0)) rfl rfl rfl (z_N_29_0 e) (io_in (p := 0) (N := 7) (by decide) (by decide)) (Eq.trans (congrArg (sA t 29 0) (nn_io (p := 0) (by decide))) (z_A_29_0_0 e)) ?_
  refine x_bipush (pc' := 39) rfl rfl ?_
  refine x_iand (pc' := 40) (z := ((xs 0) &&& 63)) rfl rfl rfl ?_
  refine x_switch (pc' := 392) rfl (by rw [hk]; decide) ?_
  refine x_aload_n (pc' := 393) rfl rfl rfl rfl rfl ?_
  refine x_aload_n (pc' := 394) rfl rfl rfl rfl rfl ?_
  refine x_iload (pc' := 396) rfl rfl rfl ?_
  refine x_iconst (pc' := 397) rfl rfl ?_
  refine x_iadd (pc' := 398) (z := 1) rfl rfl (by decide) ?_
  refine x_iald (pc' := 399) (N := 7) (x := 3) rfl rfl rfl (z_N_29_0 e) (io_in (p := 1) (N := 7) (by decide) (by decide)) (Eq.trans (congrArg (sA t 29 0) (nn_io (p := 1) (by decide))) (Eq.trans (z_A_29_0_1 e) e0)) ?_
  refine x_aload_n (pc' := 400) rfl rfl rfl rfl rfl ?_
  refine x_iload (pc' := 402) rfl rfl rfl ?_
  refine x_iconst (pc' := 403) rfl rfl ?_
  refine x_iadd (pc' := 404) (z := 2) rfl rfl (by decide) ?_
  refine x_iald (pc' := 405) (N := 7) (x := (xs 2)) rfl rfl rfl (z_N_29_0 e) (io_in (p := 2) (N := 7) (by decide) (by decide)) (Eq.trans (congrArg (sA t 29 0) (nn_io (p := 2) (by decide))) (z_A_29_0_2 e)) ?_
  have J3 : X 297 413 [.inr (.inr (29, (some 0))), .inr (.inr (11, (some 0))), .inr (.inr (12, (some 0))), .inr (.inr (23, (some 0))), .inl 0, sJk, sJk] [.inl (bz (!(decide ((xs 2) = 0)))), .inl 3, .inr (.inr (11, (some 0)))] t Qp := by
    refine x_aload_n (pc' := 414) rfl rfl rfl rfl rfl ?_
    refine x_cs (ls0 := [_, _, _, _, sJk]) (rest := []) rfl rfl rfl rfl ?_
    refine x_aload_n (pc' := 1) rfl rfl rfl rfl rfl ?_
    refine x_iconst (pc' := 2) rfl rfl ?_
    refine x_aload_n (pc' := 3) rfl rfl rfl rfl rfl ?_
    refine x_iload_n (pc' := 4) rfl rfl rfl ?_
    refine x_iload_n (pc' := 5) rfl rfl rfl ?_
    refine x_cv (ls0 := [_, _, _, sJk, sJk]) (rest := [_, _]) rfl rfl rfl rfl rfl ?_
    refine x_aload_n (pc' := 1) rfl rfl rfl rfl rfl ?_
    refine x_iload_n (pc' := 2) rfl rfl rfl ?_
    refine x_cv (ls0 := [_, _]) (rest := []) rfl rfl rfl rfl rfl ?_
    refine x_iload_n (pc' := 1) rfl rfl rfl ?_
    refine x_if (a' := 16) (pc' := 4) (z := false) rfl rfl rfl (by decide) (fun h => by cases h) (fun _ => ?_)
    refine x_iload_n (pc' := 5) rfl rfl rfl ?_
    refine x_aload_n (pc' := 6) rfl rfl rfl rfl rfl ?_
    refine x_gR (pc' := 9) (r := (some 0)) rfl rfl rfl (z_R_705_0 e) ?_
    refine x_gR (pc' := 12) (r := (some 0)) rfl rfl rfl (z_R_256_0 e) ?_
    refine x_alen (pc' := 13) (N := 5) rfl rfl rfl (z_N_24_0 e) (?_ : X _ _ _ (.inl 5 :: _) _ _)
    refine x_icmp (a' := 27) (pc' := 16) (z := true) rfl rfl rfl (by decide) (fun _ => ?_) (fun h => by cases h)
    refine x_aload_n (pc' := 28) rfl rfl rfl rfl rfl ?_
    refine x_gR (pc' := 31) (r := (some 0)) rfl rfl rfl (z_R_705_0 e) ?_
    refine x_gR (pc' := 34) (r := (some 0)) rfl rfl rfl (z_R_256_0 e) ?_
    refine x_iload_n (pc' := 35) rfl rfl rfl ?_
    refine x_aald (pc' := 36) (N := 5) (k' := 1) (r := (some 3)) rfl rfl rfl (z_N_24_0 e) (io_in (p := 3) (N := 5) (by decide) (by decide)) (Eq.trans (congrArg (sE t 24 0) (nn_io (p := 3) (by decide))) (z_E_24_0_3 e)) ?_
    refine x_reta rfl rfl ?_
    refine sK_i (pc' := 5) rfl ?_
    refine x_astore_n (pc' := 6) (ls' := [_, _, _, _, _]) rfl rfl rfl rfl rfl ?_
    refine x_aload_n (pc' := 7) rfl rfl rfl rfl rfl ?_
    refine x_gZ (pc' := 10) (z := false) rfl rfl rfl (z_Z_68_3 e) ?_
    refine x_istore (pc' := 12) (ls' := [_, _, _, _, _]) rfl rfl rfl rfl ?_
    refine x_aload_n (pc' := 13) rfl rfl rfl rfl rfl ?_
    refine x_iload_n (pc' := 14) rfl rfl rfl ?_
    refine x_pZ (pc' := 17) (z := (!(decide ((xs 2) = 0)))) rfl rfl rfl rfl ?_
    refine x_iload (pc' := 19) rfl rfl rfl ?_
    refine x_retz (z := false) rfl rfl ?_
    refine sK_i (pc' := 8) rfl ?_
    refine x_if (a' := 15) (pc' := 11) (z := true) rfl rfl rfl (by decide) (fun _ => ?_) (fun h => by cases h)
    refine x_lconst (pc' := 16) rfl rfl rfl ?_
    refine x_last (pc' := 17) (N := 1) (p := 0) rfl rfl (Eq.trans rdNZ (z_N_23_0 e)) (io_in (p := 0) (N := 1) (by decide) (by decide)) (nn_io (p := 0) (by decide)) ?_
    refine x_goto (pc' := 24) rfl rfl ?_
    refine x_iconst (pc' := 25) rfl rfl ?_
    refine x_reti rfl rfl ?_
    refine sK_i (pc' := 417) rfl ?_
    refine x_istore (pc' := 419) (ls' := [_, _, _, _, _, _, _]) rfl rfl rfl rfl ?_
    refine x_aload_n (pc' := 420) rfl rfl rfl rfl rfl ?_
    refine x_aload_n (pc' := 421) rfl rfl rfl rfl rfl ?_
    refine x_iload (pc' := 423) rfl rfl rfl ?_
    refine x_iconst (pc' := 424) rfl rfl ?_
    refine x_iadd (pc' := 425) (z := 1) rfl rfl (by decide) ?_
    refine x_iald (pc' := 426) (N := 7) (x := 3) rfl rfl rfl (Eq.trans rdNL (Eq.trans rdNZ (z_N_29_0 e))) (io_in (p := 1) (N := 7) (by decide) (by decide)) (Eq.trans (congrArg (sA (sLw (sZw t 68 3 (!(decide ((xs 2) = 0)))) 23 0 0 (0 : Int64)) 29 0) (nn_io (p := 1) (by decide))) (Eq.trans rdAL (Eq.trans rdAZ (Eq.trans (z_A_29_0_1 e) e0)))) ?_
    refine x_aload_n (pc' := 427) rfl rfl rfl rfl rfl ?_
    refine x_iload (pc' := 429) rfl rfl rfl ?_
    refine x_iconst (pc' := 430) rfl rfl ?_
    refine x_iadd (pc' := 431) (z := 2) rfl rfl (by decide) ?_
    refine x_iald (pc' := 432) (N := 7) (x := (xs 2)) rfl rfl rfl (Eq.trans rdNL (Eq.trans rdNZ (z_N_29_0 e))) (io_in (p := 2) (N := 7) (by decide) (by decide)) (Eq.trans (congrArg (sA (sLw (sZw t 68 3 (!(decide ((xs 2) = 0)))) 23 0 0 (0 : Int64)) 29 0) (nn_io (p := 2) (by decide))) (Eq.trans rdAL (Eq.trans rdAZ (z_A_29_0_2 e)))) ?_
    have J8 : X 297 440 [.inr (.inr (29, (some 0))), .inr (.inr (11, (some 0))), .inr (.inr (12, (some 0))), .inr (.inr (23, (some 0))), .inl 0, .inl 0, sJk] [.inl (bz (!(decide ((xs 2) = 0)))), .inl 3, .inr (.inr (12, (some 0)))] (sLw (sZw t 68 3 (!(decide ((xs 2) = 0)))) 23 0 0 (0 : Int64)) Qp := by
      refine x_cv (ls0 := [_, _, _, sJk]) (rest := []) rfl rfl rfl rfl rfl ?_
      refine x_aload_n (pc' := 1) rfl rfl rfl rfl rfl ?_
      refine x_iload_n (pc' := 2) rfl rfl rfl ?_
      refine x_cs (ls0 := [_]) (rest := [_]) rfl rfl rfl rfl ?_
      refine x_iload_n (pc' := 1) rfl rfl rfl ?_
      refine x_iconst (pc' := 2) rfl rfl ?_
      refine x_iconst (pc' := 3) rfl rfl ?_
      refine x_cs (ls0 := [_, _, _]) (rest := []) rfl rfl rfl rfl ?_
      refine x_iload_n (pc' := 1) rfl rfl rfl ?_
      refine x_iload_n (pc' := 2) rfl rfl rfl ?_
      refine x_icmp (a' := 14) (pc' := 5) (z := false) rfl rfl rfl (by decide) (fun h => by cases h) (fun _ => ?_)
      refine x_iload_n (pc' := 6) rfl rfl rfl ?_
      refine x_iload_n (pc' := 7) rfl rfl rfl ?_
      refine x_icmp (a' := 14) (pc' := 10) (z := false) rfl rfl rfl (by decide) (fun h => by cases h) (fun _ => ?_)
      refine x_iconst (pc' := 11) rfl rfl ?_
      refine x_goto (pc' := 15) rfl rfl ?_
      refine x_retz (z := true) rfl rfl ?_
      refine sK_i (pc' := 6) rfl ?_
      refine x_retz (z := true) rfl rfl ?_
      refine sK_i (pc' := 5) rfl ?_
      refine x_if (a' := 12) (pc' := 8) (z := false) rfl rfl rfl (by decide) (fun h => by cases h) (fun _ => ?_)
      refine x_iconst (pc' := 9) rfl rfl ?_
      refine x_goto (pc' := 13) rfl rfl ?_
      refine x_cv (ls0 := [_, _]) (rest := []) rfl rfl rfl rfl rfl ?_
      refine x_aload_n (pc' := 1) rfl rfl rfl rfl rfl ?_
      refine x_iload_n (pc' := 2) rfl rfl rfl ?_
      refine x_pI (pc' := 5) rfl rfl rfl ?_
      refine x_iload_n (pc' := 6) rfl rfl rfl ?_
      refine x_if (a' := 13) (pc' := 9) (z := false) rfl rfl rfl (by decide) (fun h => by cases h) (fun _ => ?_)
      refine x_iconst (pc' := 10) rfl rfl ?_
      refine x_goto (pc' := 14) rfl rfl ?_
      refine x_retz (z := true) rfl rfl ?_
      refine sK_i (pc' := 16) rfl ?_
      refine x_if (a' := 21) (pc' := 19) (z := true) rfl rfl rfl (by decide) (fun _ => ?_) (fun h => by cases h)
      refine x_aload_n (pc' := 22) rfl rfl rfl rfl rfl ?_
      refine x_gR (pc' := 25) (r := (some 0)) rfl rfl rfl (Eq.trans rdRI (Eq.trans rdRL (Eq.trans rdRZ (z_R_770_0 e)))) ?_
      refine x_iload_n (pc' := 26) rfl rfl rfl ?_
      refine x_bald (pc' := 27) (N := 5) (z := false) rfl rfl (Eq.trans rdNI (Eq.trans rdNL (Eq.trans rdNZ (z_N_22_0 e)))) (io_in (p := 3) (N := 5) (by decide) (by decide)) (Eq.trans (congrArg (sB (sIw (sLw (sZw t 68 3 (!(decide ((xs 2) = 0)))) 23 0 0 (0 : Int64)) 768 0 0) 22 0) (nn_io (p := 3) (by decide))) (Eq.trans rdBI (Eq.trans rdBL (Eq.trans rdBZ (z_B_22_0_3 e))))) ?_
      refine x_istore_n (pc' := 28) (ls' := [_, _, _, _]) rfl rfl rfl rfl ?_
      refine x_aload_n (pc' := 29) rfl rfl rfl rfl rfl ?_
      refine x_gR (pc' := 32) (r := (some 0)) rfl rfl rfl (Eq.trans rdRI (Eq.trans rdRL (Eq.trans rdRZ (z_R_770_0 e)))) ?_
      refine x_iload_n (pc' := 33) rfl rfl rfl ?_
      refine x_iload_n (pc' := 34) rfl rfl rfl ?_
      refine x_bast (pc' := 35) (N := 5) (p := 3) (z := (!(decide ((xs 2) = 0)))) rfl rfl (Eq.trans rdNI (Eq.trans rdNL (Eq.trans rdNZ (z_N_22_0 e)))) (io_in (p := 3) (N := 5) (by decide) (by decide)) (nn_io (p := 3) (by decide)) rfl ?_
      refine x_iload_n (pc' := 36) rfl rfl rfl ?_
      refine x_retz (z := false) rfl rfl ?_
      refine sK_i (pc' := 443) rfl ?_
      refine x_istore (pc' := 445) (ls' := [_, _, _, _, _, _, _]) rfl rfl rfl rfl ?_
      refine x_aload_n (pc' := 446) rfl rfl rfl rfl rfl ?_
      refine x_cv (ls0 := [_]) (rest := []) rfl rfl rfl rfl rfl ?_
      refine x_aload_n (pc' := 1) rfl rfl rfl rfl rfl ?_
      refine x_gI (pc' := 4) (x := 0) rfl rfl rfl (Eq.trans rdIB sI_s) ?_
      refine x_reti rfl rfl ?_
      refine sK_i (pc' := 449) rfl ?_
      refine x_iload (pc' := 451) rfl rfl rfl ?_
      refine x_icmp (a' := 456) (pc' := 454) (z := true) rfl rfl rfl (by decide) (fun _ => ?_) (fun h => by cases h)
      refine x_iload (pc' := 458) rfl rfl rfl ?_
      refine x_if (a' := 480) (pc' := 461) (z := false) rfl rfl rfl (by decide) (fun h => by cases h) (fun _ => ?_)
      refine x_aload_n (pc' := 462) rfl rfl rfl rfl rfl ?_
      refine x_iconst (pc' := 463) rfl rfl ?_
      refine x_lald (pc' := 464) (N := 1) (x := (0 : Int64)) rfl rfl (Eq.trans rdNB (Eq.trans rdNI (Eq.trans rdNL (Eq.trans rdNZ (z_N_23_0 e))))) (io_in (p := 0) (N := 1) (by decide) (by decide)) (Eq.trans (congrArg (sL (sBw (sIw (sLw (sZw t 68 3 (!(decide ((xs 2) = 0)))) 23 0 0 (0 : Int64)) 768 0 0) 22 0 3 (!(decide ((xs 2) = 0)))) 23 0) (nn_io (p := 0) (by decide))) (Eq.trans rdLB (Eq.trans rdLI sL_s))) ?_
      refine x_iload (pc' := 466) rfl rfl rfl ?_
      refine x_if (a' := 473) (pc' := 469) (z := true) rfl rfl rfl (by decide) (fun _ => ?_) (fun h => by cases h)
      refine x_lconst (pc' := 474) rfl rfl rfl ?_
      refine x_lcmp (pc' := 475) (z := 0) rfl rfl (sLcmp_s _) ?_
      refine x_if (a' := 480) (pc' := 478) (z := true) rfl rfl rfl (by decide) (fun _ => ?_) (fun h => by cases h)
      refine x_goto (pc' := 2938) rfl rfl ?_
      refine x_iinc (pc' := 2941) (y := 7) (ls' := [_, _, _, _, _, _, _]) rfl rfl rfl rfl rfl ?_
      refine x_goto (pc' := 23) rfl rfl ?_
      refine x_iload (pc' := 25) rfl rfl rfl ?_
      refine x_aload_n (pc' := 26) rfl rfl rfl rfl rfl ?_
      refine x_alen (pc' := 27) (N := 7) rfl rfl rfl (Eq.trans rdNB (Eq.trans rdNI (Eq.trans rdNL (Eq.trans rdNZ (z_N_29_0 e))))) (?_ : X _ _ _ (.inl 7 :: _) _ _)
      refine x_bipush (pc' := 29) rfl rfl ?_
      refine x_isub (pc' := 30) (z := 0) rfl rfl (by decide) ?_
      refine x_icmp (a' := 2944) (pc' := 33) (z := true) rfl rfl rfl (by decide) (fun _ => ?_) (fun h => by cases h)
      refine x_iconst (pc' := 2945) rfl rfl ?_
      refine x_retz (z := true) rfl rfl ?_
      exact Qp_ok e (p := 0) (q := 0) rfl rfl rfl rfl
    refine x_if (a' := 439) (pc' := 435) (z := decide ((xs 2) = 0)) rfl rfl rfl rfl (fun q8 => ?_) (fun q8 => ?_)
    · refine x_iconst (pc' := 440) rfl rfl ?_
      ((try rw [q8] at J8); (try rw [q8]); (try simp only [cd_t, cd_f, nt_t, nt_f, an_t, an_f, or_t, or_f] at J8); (try simp only [cd_t, cd_f, nt_t, nt_f, an_t, an_f, or_t, or_f]); exact J8)
    · refine x_iconst (pc' := 436) rfl rfl ?_
      refine x_goto (pc' := 440) rfl rfl ?_
      ((try rw [q8] at J8); (try rw [q8]); (try simp only [cd_t, cd_f, nt_t, nt_f, an_t, an_f, or_t, or_f] at J8); (try simp only [cd_t, cd_f, nt_t, nt_f, an_t, an_f, or_t, or_f]); exact J8)
  refine x_if (a' := 412) (pc' := 408) (z := decide ((xs 2) = 0)) rfl rfl rfl rfl (fun q3 => ?_) (fun q3 => ?_)
  · refine x_iconst (pc' := 413) rfl rfl ?_
    ((try rw [q3] at J3); (try rw [q3]); (try simp only [cd_t, cd_f, nt_t, nt_f, an_t, an_f, or_t, or_f] at J3); (try simp only [cd_t, cd_f, nt_t, nt_f, an_t, an_f, or_t, or_f]); exact J3)
  · refine x_iconst (pc' := 409) rfl rfl ?_
    refine x_goto (pc' := 413) rfl rfl ?_
    ((try rw [q3] at J3); (try rw [q3]); (try simp only [cd_t, cd_f, nt_t, nt_f, an_t, an_f, or_t, or_f] at J3); (try simp only [cd_t, cd_f, nt_t, nt_f, an_t, an_f, or_t, or_f]); exact J3)
set_option maxHeartbeats 4000000 in
set_option maxRecDepth 10000 in
theorem v_3_4_i {t : sT} {xs : Nat → Int32}
    (e : t = T16 7 xs)
    (hk : ((xs 0) &&& 63) = 3)
    (e0 : xs 1 = 4) :
    X 297 23 [.inr (.inr (29, (some 0))), .inr (.inr (11, (some 0))), .inr (.inr (12, (some 0))), .inr (.inr (23, (some 0))), .inl 0, sJk, sJk] [] t Qp := by
  refine x_iload (pc' := 25) rfl rfl rfl ?_
  refine x_aload_n (pc' := 26) rfl rfl rfl rfl rfl ?_
  refine x_alen (pc' := 27) (N := 7) rfl rfl rfl (z_N_29_0 e) (?_ : X _ _ _ (.inl 7 :: _) _ _)
  refine x_bipush (pc' := 29) rfl rfl ?_
  refine x_isub (pc' := 30) (z := 0) rfl rfl (by decide) ?_
  refine x_icmp (a' := 2944) (pc' := 33) (z := false) rfl rfl rfl (by decide) (fun h => by cases h) (fun _ => ?_)
  refine x_aload_n (pc' := 34) rfl rfl rfl rfl rfl ?_
  refine x_iload (pc' := 36) rfl rfl rfl ?_
  refine x_iald (pc' := 37) (N := 7) (x := (xs 0)) rfl rfl rfl (z_N_29_0 e) (io_in (p := 0) (N := 7) (by decide) (by decide)) (Eq.trans (congrArg (sA t 29 0) (nn_io (p := 0) (by decide))) (z_A_29_0_0 e)) ?_
  refine x_bipush (pc' := 39) rfl rfl ?_
  refine x_iand (pc' := 40) (z := ((xs 0) &&& 63)) rfl rfl rfl ?_
  refine x_switch (pc' := 392) rfl (by rw [hk]; decide) ?_
  refine x_aload_n (pc' := 393) rfl rfl rfl rfl rfl ?_
  refine x_aload_n (pc' := 394) rfl rfl rfl rfl rfl ?_
  refine x_iload (pc' := 396) rfl rfl rfl ?_
  refine x_iconst (pc' := 397) rfl rfl ?_
  refine x_iadd (pc' := 398) (z := 1) rfl rfl (by decide) ?_
  refine x_iald (pc' := 399) (N := 7) (x := 4) rfl rfl rfl (z_N_29_0 e) (io_in (p := 1) (N := 7) (by decide) (by decide)) (Eq.trans (congrArg (sA t 29 0) (nn_io (p := 1) (by decide))) (Eq.trans (z_A_29_0_1 e) e0)) ?_
  refine x_aload_n (pc' := 400) rfl rfl rfl rfl rfl ?_
  refine x_iload (pc' := 402) rfl rfl rfl ?_
  refine x_iconst (pc' := 403) rfl rfl ?_
  refine x_iadd (pc' := 404) (z := 2) rfl rfl (by decide) ?_
  refine x_iald (pc' := 405) (N := 7) (x := (xs 2)) rfl rfl rfl (z_N_29_0 e) (io_in (p := 2) (N := 7) (by decide) (by decide)) (Eq.trans (congrArg (sA t 29 0) (nn_io (p := 2) (by decide))) (z_A_29_0_2 e)) ?_
  have J3 : X 297 413 [.inr (.inr (29, (some 0))), .inr (.inr (11, (some 0))), .inr (.inr (12, (some 0))), .inr (.inr (23, (some 0))), .inl 0, sJk, sJk] [.inl (bz (!(decide ((xs 2) = 0)))), .inl 4, .inr (.inr (11, (some 0)))] t Qp := by
    refine x_aload_n (pc' := 414) rfl rfl rfl rfl rfl ?_
    refine x_cs (ls0 := [_, _, _, _, sJk]) (rest := []) rfl rfl rfl rfl ?_
    refine x_aload_n (pc' := 1) rfl rfl rfl rfl rfl ?_
    refine x_iconst (pc' := 2) rfl rfl ?_
    refine x_aload_n (pc' := 3) rfl rfl rfl rfl rfl ?_
    refine x_iload_n (pc' := 4) rfl rfl rfl ?_
    refine x_iload_n (pc' := 5) rfl rfl rfl ?_
    refine x_cv (ls0 := [_, _, _, sJk, sJk]) (rest := [_, _]) rfl rfl rfl rfl rfl ?_
    refine x_aload_n (pc' := 1) rfl rfl rfl rfl rfl ?_
    refine x_iload_n (pc' := 2) rfl rfl rfl ?_
    refine x_cv (ls0 := [_, _]) (rest := []) rfl rfl rfl rfl rfl ?_
    refine x_iload_n (pc' := 1) rfl rfl rfl ?_
    refine x_if (a' := 16) (pc' := 4) (z := false) rfl rfl rfl (by decide) (fun h => by cases h) (fun _ => ?_)
    refine x_iload_n (pc' := 5) rfl rfl rfl ?_
    refine x_aload_n (pc' := 6) rfl rfl rfl rfl rfl ?_
    refine x_gR (pc' := 9) (r := (some 0)) rfl rfl rfl (z_R_705_0 e) ?_
    refine x_gR (pc' := 12) (r := (some 0)) rfl rfl rfl (z_R_256_0 e) ?_
    refine x_alen (pc' := 13) (N := 5) rfl rfl rfl (z_N_24_0 e) (?_ : X _ _ _ (.inl 5 :: _) _ _)
    refine x_icmp (a' := 27) (pc' := 16) (z := true) rfl rfl rfl (by decide) (fun _ => ?_) (fun h => by cases h)
    refine x_aload_n (pc' := 28) rfl rfl rfl rfl rfl ?_
    refine x_gR (pc' := 31) (r := (some 0)) rfl rfl rfl (z_R_705_0 e) ?_
    refine x_gR (pc' := 34) (r := (some 0)) rfl rfl rfl (z_R_256_0 e) ?_
    refine x_iload_n (pc' := 35) rfl rfl rfl ?_
    refine x_aald (pc' := 36) (N := 5) (k' := 1) (r := (some 4)) rfl rfl rfl (z_N_24_0 e) (io_in (p := 4) (N := 5) (by decide) (by decide)) (Eq.trans (congrArg (sE t 24 0) (nn_io (p := 4) (by decide))) (z_E_24_0_4 e)) ?_
    refine x_reta rfl rfl ?_
    refine sK_i (pc' := 5) rfl ?_
    refine x_astore_n (pc' := 6) (ls' := [_, _, _, _, _]) rfl rfl rfl rfl rfl ?_
    refine x_aload_n (pc' := 7) rfl rfl rfl rfl rfl ?_
    refine x_gZ (pc' := 10) (z := false) rfl rfl rfl (z_Z_68_4 e) ?_
    refine x_istore (pc' := 12) (ls' := [_, _, _, _, _]) rfl rfl rfl rfl ?_
    refine x_aload_n (pc' := 13) rfl rfl rfl rfl rfl ?_
    refine x_iload_n (pc' := 14) rfl rfl rfl ?_
    refine x_pZ (pc' := 17) (z := (!(decide ((xs 2) = 0)))) rfl rfl rfl rfl ?_
    refine x_iload (pc' := 19) rfl rfl rfl ?_
    refine x_retz (z := false) rfl rfl ?_
    refine sK_i (pc' := 8) rfl ?_
    refine x_if (a' := 15) (pc' := 11) (z := true) rfl rfl rfl (by decide) (fun _ => ?_) (fun h => by cases h)
    refine x_lconst (pc' := 16) rfl rfl rfl ?_
    refine x_last (pc' := 17) (N := 1) (p := 0) rfl rfl (Eq.trans rdNZ (z_N_23_0 e)) (io_in (p := 0) (N := 1) (by decide) (by decide)) (nn_io (p := 0) (by decide)) ?_
    refine x_goto (pc' := 24) rfl rfl ?_
    refine x_iconst (pc' := 25) rfl rfl ?_
    refine x_reti rfl rfl ?_
    refine sK_i (pc' := 417) rfl ?_
    refine x_istore (pc' := 419) (ls' := [_, _, _, _, _, _, _]) rfl rfl rfl rfl ?_
    refine x_aload_n (pc' := 420) rfl rfl rfl rfl rfl ?_
    refine x_aload_n (pc' := 421) rfl rfl rfl rfl rfl ?_
    refine x_iload (pc' := 423) rfl rfl rfl ?_
    refine x_iconst (pc' := 424) rfl rfl ?_
    refine x_iadd (pc' := 425) (z := 1) rfl rfl (by decide) ?_
    refine x_iald (pc' := 426) (N := 7) (x := 4) rfl rfl rfl (Eq.trans rdNL (Eq.trans rdNZ (z_N_29_0 e))) (io_in (p := 1) (N := 7) (by decide) (by decide)) (Eq.trans (congrArg (sA (sLw (sZw t 68 4 (!(decide ((xs 2) = 0)))) 23 0 0 (0 : Int64)) 29 0) (nn_io (p := 1) (by decide))) (Eq.trans rdAL (Eq.trans rdAZ (Eq.trans (z_A_29_0_1 e) e0)))) ?_
    refine x_aload_n (pc' := 427) rfl rfl rfl rfl rfl ?_
    refine x_iload (pc' := 429) rfl rfl rfl ?_
    refine x_iconst (pc' := 430) rfl rfl ?_
    refine x_iadd (pc' := 431) (z := 2) rfl rfl (by decide) ?_
    refine x_iald (pc' := 432) (N := 7) (x := (xs 2)) rfl rfl rfl (Eq.trans rdNL (Eq.trans rdNZ (z_N_29_0 e))) (io_in (p := 2) (N := 7) (by decide) (by decide)) (Eq.trans (congrArg (sA (sLw (sZw t 68 4 (!(decide ((xs 2) = 0)))) 23 0 0 (0 : Int64)) 29 0) (nn_io (p := 2) (by decide))) (Eq.trans rdAL (Eq.trans rdAZ (z_A_29_0_2 e)))) ?_
    have J8 : X 297 440 [.inr (.inr (29, (some 0))), .inr (.inr (11, (some 0))), .inr (.inr (12, (some 0))), .inr (.inr (23, (some 0))), .inl 0, .inl 0, sJk] [.inl (bz (!(decide ((xs 2) = 0)))), .inl 4, .inr (.inr (12, (some 0)))] (sLw (sZw t 68 4 (!(decide ((xs 2) = 0)))) 23 0 0 (0 : Int64)) Qp := by
      refine x_cv (ls0 := [_, _, _, sJk]) (rest := []) rfl rfl rfl rfl rfl ?_
      refine x_aload_n (pc' := 1) rfl rfl rfl rfl rfl ?_
      refine x_iload_n (pc' := 2) rfl rfl rfl ?_
      refine x_cs (ls0 := [_]) (rest := [_]) rfl rfl rfl rfl ?_
      refine x_iload_n (pc' := 1) rfl rfl rfl ?_
      refine x_iconst (pc' := 2) rfl rfl ?_
      refine x_iconst (pc' := 3) rfl rfl ?_
      refine x_cs (ls0 := [_, _, _]) (rest := []) rfl rfl rfl rfl ?_
      refine x_iload_n (pc' := 1) rfl rfl rfl ?_
      refine x_iload_n (pc' := 2) rfl rfl rfl ?_
      refine x_icmp (a' := 14) (pc' := 5) (z := false) rfl rfl rfl (by decide) (fun h => by cases h) (fun _ => ?_)
      refine x_iload_n (pc' := 6) rfl rfl rfl ?_
      refine x_iload_n (pc' := 7) rfl rfl rfl ?_
      refine x_icmp (a' := 14) (pc' := 10) (z := false) rfl rfl rfl (by decide) (fun h => by cases h) (fun _ => ?_)
      refine x_iconst (pc' := 11) rfl rfl ?_
      refine x_goto (pc' := 15) rfl rfl ?_
      refine x_retz (z := true) rfl rfl ?_
      refine sK_i (pc' := 6) rfl ?_
      refine x_retz (z := true) rfl rfl ?_
      refine sK_i (pc' := 5) rfl ?_
      refine x_if (a' := 12) (pc' := 8) (z := false) rfl rfl rfl (by decide) (fun h => by cases h) (fun _ => ?_)
      refine x_iconst (pc' := 9) rfl rfl ?_
      refine x_goto (pc' := 13) rfl rfl ?_
      refine x_cv (ls0 := [_, _]) (rest := []) rfl rfl rfl rfl rfl ?_
      refine x_aload_n (pc' := 1) rfl rfl rfl rfl rfl ?_
      refine x_iload_n (pc' := 2) rfl rfl rfl ?_
      refine x_pI (pc' := 5) rfl rfl rfl ?_
      refine x_iload_n (pc' := 6) rfl rfl rfl ?_
      refine x_if (a' := 13) (pc' := 9) (z := false) rfl rfl rfl (by decide) (fun h => by cases h) (fun _ => ?_)
      refine x_iconst (pc' := 10) rfl rfl ?_
      refine x_goto (pc' := 14) rfl rfl ?_
      refine x_retz (z := true) rfl rfl ?_
      refine sK_i (pc' := 16) rfl ?_
      refine x_if (a' := 21) (pc' := 19) (z := true) rfl rfl rfl (by decide) (fun _ => ?_) (fun h => by cases h)
      refine x_aload_n (pc' := 22) rfl rfl rfl rfl rfl ?_
      refine x_gR (pc' := 25) (r := (some 0)) rfl rfl rfl (Eq.trans rdRI (Eq.trans rdRL (Eq.trans rdRZ (z_R_770_0 e)))) ?_
      refine x_iload_n (pc' := 26) rfl rfl rfl ?_
      refine x_bald (pc' := 27) (N := 5) (z := false) rfl rfl (Eq.trans rdNI (Eq.trans rdNL (Eq.trans rdNZ (z_N_22_0 e)))) (io_in (p := 4) (N := 5) (by decide) (by decide)) (Eq.trans (congrArg (sB (sIw (sLw (sZw t 68 4 (!(decide ((xs 2) = 0)))) 23 0 0 (0 : Int64)) 768 0 0) 22 0) (nn_io (p := 4) (by decide))) (Eq.trans rdBI (Eq.trans rdBL (Eq.trans rdBZ (z_B_22_0_4 e))))) ?_
      refine x_istore_n (pc' := 28) (ls' := [_, _, _, _]) rfl rfl rfl rfl ?_
      refine x_aload_n (pc' := 29) rfl rfl rfl rfl rfl ?_
      refine x_gR (pc' := 32) (r := (some 0)) rfl rfl rfl (Eq.trans rdRI (Eq.trans rdRL (Eq.trans rdRZ (z_R_770_0 e)))) ?_
      refine x_iload_n (pc' := 33) rfl rfl rfl ?_
      refine x_iload_n (pc' := 34) rfl rfl rfl ?_
      refine x_bast (pc' := 35) (N := 5) (p := 4) (z := (!(decide ((xs 2) = 0)))) rfl rfl (Eq.trans rdNI (Eq.trans rdNL (Eq.trans rdNZ (z_N_22_0 e)))) (io_in (p := 4) (N := 5) (by decide) (by decide)) (nn_io (p := 4) (by decide)) rfl ?_
      refine x_iload_n (pc' := 36) rfl rfl rfl ?_
      refine x_retz (z := false) rfl rfl ?_
      refine sK_i (pc' := 443) rfl ?_
      refine x_istore (pc' := 445) (ls' := [_, _, _, _, _, _, _]) rfl rfl rfl rfl ?_
      refine x_aload_n (pc' := 446) rfl rfl rfl rfl rfl ?_
      refine x_cv (ls0 := [_]) (rest := []) rfl rfl rfl rfl rfl ?_
      refine x_aload_n (pc' := 1) rfl rfl rfl rfl rfl ?_
      refine x_gI (pc' := 4) (x := 0) rfl rfl rfl (Eq.trans rdIB sI_s) ?_
      refine x_reti rfl rfl ?_
      refine sK_i (pc' := 449) rfl ?_
      refine x_iload (pc' := 451) rfl rfl rfl ?_
      refine x_icmp (a' := 456) (pc' := 454) (z := true) rfl rfl rfl (by decide) (fun _ => ?_) (fun h => by cases h)
      refine x_iload (pc' := 458) rfl rfl rfl ?_
      refine x_if (a' := 480) (pc' := 461) (z := false) rfl rfl rfl (by decide) (fun h => by cases h) (fun _ => ?_)
      refine x_aload_n (pc' := 462) rfl rfl rfl rfl rfl ?_
      refine x_iconst (pc' := 463) rfl rfl ?_
      refine x_lald (pc' := 464) (N := 1) (x := (0 : Int64)) rfl rfl (Eq.trans rdNB (Eq.trans rdNI (Eq.trans rdNL (Eq.trans rdNZ (z_N_23_0 e))))) (io_in (p := 0) (N := 1) (by decide) (by decide)) (Eq.trans (congrArg (sL (sBw (sIw (sLw (sZw t 68 4 (!(decide ((xs 2) = 0)))) 23 0 0 (0 : Int64)) 768 0 0) 22 0 4 (!(decide ((xs 2) = 0)))) 23 0) (nn_io (p := 0) (by decide))) (Eq.trans rdLB (Eq.trans rdLI sL_s))) ?_
      refine x_iload (pc' := 466) rfl rfl rfl ?_
      refine x_if (a' := 473) (pc' := 469) (z := true) rfl rfl rfl (by decide) (fun _ => ?_) (fun h => by cases h)
      refine x_lconst (pc' := 474) rfl rfl rfl ?_
      refine x_lcmp (pc' := 475) (z := 0) rfl rfl (sLcmp_s _) ?_
      refine x_if (a' := 480) (pc' := 478) (z := true) rfl rfl rfl (by decide) (fun _ => ?_) (fun h => by cases h)
      refine x_goto (pc' := 2938) rfl rfl ?_
      refine x_iinc (pc' := 2941) (y := 7) (ls' := [_, _, _, _, _, _, _]) rfl rfl rfl rfl rfl ?_
      refine x_goto (pc' := 23) rfl rfl ?_
      refine x_iload (pc' := 25) rfl rfl rfl ?_
      refine x_aload_n (pc' := 26) rfl rfl rfl rfl rfl ?_
      refine x_alen (pc' := 27) (N := 7) rfl rfl rfl (Eq.trans rdNB (Eq.trans rdNI (Eq.trans rdNL (Eq.trans rdNZ (z_N_29_0 e))))) (?_ : X _ _ _ (.inl 7 :: _) _ _)
      refine x_bipush (pc' := 29) rfl rfl ?_
      refine x_isub (pc' := 30) (z := 0) rfl rfl (by decide) ?_
      refine x_icmp (a' := 2944) (pc' := 33) (z := true) rfl rfl rfl (by decide) (fun _ => ?_) (fun h => by cases h)
      refine x_iconst (pc' := 2945) rfl rfl ?_
      refine x_retz (z := true) rfl rfl ?_
      exact Qp_ok e (p := 0) (q := 0) rfl rfl rfl rfl
    refine x_if (a' := 439) (pc' := 435) (z := decide ((xs 2) = 0)) rfl rfl rfl rfl (fun q8 => ?_) (fun q8 => ?_)
    · refine x_iconst (pc' := 440) rfl rfl ?_
      ((try rw [q8] at J8); (try rw [q8]); (try simp only [cd_t, cd_f, nt_t, nt_f, an_t, an_f, or_t, or_f] at J8); (try simp only [cd_t, cd_f, nt_t, nt_f, an_t, an_f, or_t, or_f]); exact J8)
    · refine x_iconst (pc' := 436) rfl rfl ?_
      refine x_goto (pc' := 440) rfl rfl ?_
      ((try rw [q8] at J8); (try rw [q8]); (try simp only [cd_t, cd_f, nt_t, nt_f, an_t, an_f, or_t, or_f] at J8); (try simp only [cd_t, cd_f, nt_t, nt_f, an_t, an_f, or_t, or_f]); exact J8)
  refine x_if (a' := 412) (pc' := 408) (z := decide ((xs 2) = 0)) rfl rfl rfl rfl (fun q3 => ?_) (fun q3 => ?_)
  · refine x_iconst (pc' := 413) rfl rfl ?_
    ((try rw [q3] at J3); (try rw [q3]); (try simp only [cd_t, cd_f, nt_t, nt_f, an_t, an_f, or_t, or_f] at J3); (try simp only [cd_t, cd_f, nt_t, nt_f, an_t, an_f, or_t, or_f]); exact J3)
  · refine x_iconst (pc' := 409) rfl rfl ?_
    refine x_goto (pc' := 413) rfl rfl ?_
    ((try rw [q3] at J3); (try rw [q3]); (try simp only [cd_t, cd_f, nt_t, nt_f, an_t, an_f, or_t, or_f] at J3); (try simp only [cd_t, cd_f, nt_t, nt_f, an_t, an_f, or_t, or_f]); exact J3)
set_option maxHeartbeats 4000000 in
set_option maxRecDepth 10000 in
theorem v_3_A_i {t : sT} {xs : Nat → Int32}
    (e : t = T16 7 xs)
    (hk : ((xs 0) &&& 63) = 3)
    (e0 : (xs 1) < 0) :
    X 297 23 [.inr (.inr (29, (some 0))), .inr (.inr (11, (some 0))), .inr (.inr (12, (some 0))), .inr (.inr (23, (some 0))), .inl 0, sJk, sJk] [] t Qp := by
  refine x_iload (pc' := 25) rfl rfl rfl ?_
  refine x_aload_n (pc' := 26) rfl rfl rfl rfl rfl ?_
  refine x_alen (pc' := 27) (N := 7) rfl rfl rfl (z_N_29_0 e) (?_ : X _ _ _ (.inl 7 :: _) _ _)
  refine x_bipush (pc' := 29) rfl rfl ?_
  refine x_isub (pc' := 30) (z := 0) rfl rfl (by decide) ?_
  refine x_icmp (a' := 2944) (pc' := 33) (z := false) rfl rfl rfl (by decide) (fun h => by cases h) (fun _ => ?_)
  refine x_aload_n (pc' := 34) rfl rfl rfl rfl rfl ?_
  refine x_iload (pc' := 36) rfl rfl rfl ?_
  refine x_iald (pc' := 37) (N := 7) (x := (xs 0)) rfl rfl rfl (z_N_29_0 e) (io_in (p := 0) (N := 7) (by decide) (by decide)) (Eq.trans (congrArg (sA t 29 0) (nn_io (p := 0) (by decide))) (z_A_29_0_0 e)) ?_
  refine x_bipush (pc' := 39) rfl rfl ?_
  refine x_iand (pc' := 40) (z := ((xs 0) &&& 63)) rfl rfl rfl ?_
  refine x_switch (pc' := 392) rfl (by rw [hk]; decide) ?_
  refine x_aload_n (pc' := 393) rfl rfl rfl rfl rfl ?_
  refine x_aload_n (pc' := 394) rfl rfl rfl rfl rfl ?_
  refine x_iload (pc' := 396) rfl rfl rfl ?_
  refine x_iconst (pc' := 397) rfl rfl ?_
  refine x_iadd (pc' := 398) (z := 1) rfl rfl (by decide) ?_
  refine x_iald (pc' := 399) (N := 7) (x := (xs 1)) rfl rfl rfl (z_N_29_0 e) (io_in (p := 1) (N := 7) (by decide) (by decide)) (Eq.trans (congrArg (sA t 29 0) (nn_io (p := 1) (by decide))) (z_A_29_0_1 e)) ?_
  refine x_aload_n (pc' := 400) rfl rfl rfl rfl rfl ?_
  refine x_iload (pc' := 402) rfl rfl rfl ?_
  refine x_iconst (pc' := 403) rfl rfl ?_
  refine x_iadd (pc' := 404) (z := 2) rfl rfl (by decide) ?_
  refine x_iald (pc' := 405) (N := 7) (x := (xs 2)) rfl rfl rfl (z_N_29_0 e) (io_in (p := 2) (N := 7) (by decide) (by decide)) (Eq.trans (congrArg (sA t 29 0) (nn_io (p := 2) (by decide))) (z_A_29_0_2 e)) ?_
  have J3 : X 297 413 [.inr (.inr (29, (some 0))), .inr (.inr (11, (some 0))), .inr (.inr (12, (some 0))), .inr (.inr (23, (some 0))), .inl 0, sJk, sJk] [.inl (bz (!(decide ((xs 2) = 0)))), .inl (xs 1), .inr (.inr (11, (some 0)))] t Qp := by
    refine x_aload_n (pc' := 414) rfl rfl rfl rfl rfl ?_
    refine x_cs (ls0 := [_, _, _, _, sJk]) (rest := []) rfl rfl rfl rfl ?_
    refine x_aload_n (pc' := 1) rfl rfl rfl rfl rfl ?_
    refine x_iconst (pc' := 2) rfl rfl ?_
    refine x_aload_n (pc' := 3) rfl rfl rfl rfl rfl ?_
    refine x_iload_n (pc' := 4) rfl rfl rfl ?_
    refine x_iload_n (pc' := 5) rfl rfl rfl ?_
    refine x_cv (ls0 := [_, _, _, sJk, sJk]) (rest := [_, _]) rfl rfl rfl rfl rfl ?_
    refine x_aload_n (pc' := 1) rfl rfl rfl rfl rfl ?_
    refine x_iload_n (pc' := 2) rfl rfl rfl ?_
    refine x_cv (ls0 := [_, _]) (rest := []) rfl rfl rfl rfl rfl ?_
    refine x_iload_n (pc' := 1) rfl rfl rfl ?_
    refine x_if (a' := 16) (pc' := 4) (z := decide ((xs 1) < 0)) rfl rfl rfl rfl (fun _ => ?_) (fun h => absurd e0 (of_decide_eq_false h))
    refine x_throw rfl rfl ?_
    refine sK_n (by decide +kernel) rfl ?_
    refine sK_h (h := 20) (by decide +kernel) rfl ?_
    refine x_catch (pc' := 22) (ls' := [_, _, _, _, _]) rfl rfl rfl rfl ?_
    refine x_iconst (pc' := 23) rfl rfl ?_
    refine x_reti rfl rfl ?_
    refine sK_i (pc' := 417) rfl ?_
    refine x_istore (pc' := 419) (ls' := [_, _, _, _, _, _, _]) rfl rfl rfl rfl ?_
    refine x_aload_n (pc' := 420) rfl rfl rfl rfl rfl ?_
    refine x_aload_n (pc' := 421) rfl rfl rfl rfl rfl ?_
    refine x_iload (pc' := 423) rfl rfl rfl ?_
    refine x_iconst (pc' := 424) rfl rfl ?_
    refine x_iadd (pc' := 425) (z := 1) rfl rfl (by decide) ?_
    refine x_iald (pc' := 426) (N := 7) (x := (xs 1)) rfl rfl rfl (Eq.trans rdNthr (z_N_29_0 e)) (io_in (p := 1) (N := 7) (by decide) (by decide)) (Eq.trans (congrArg (sA (sThr t) 29 0) (nn_io (p := 1) (by decide))) (Eq.trans rdAthr (z_A_29_0_1 e))) ?_
    refine x_aload_n (pc' := 427) rfl rfl rfl rfl rfl ?_
    refine x_iload (pc' := 429) rfl rfl rfl ?_
    refine x_iconst (pc' := 430) rfl rfl ?_
    refine x_iadd (pc' := 431) (z := 2) rfl rfl (by decide) ?_
    refine x_iald (pc' := 432) (N := 7) (x := (xs 2)) rfl rfl rfl (Eq.trans rdNthr (z_N_29_0 e)) (io_in (p := 2) (N := 7) (by decide) (by decide)) (Eq.trans (congrArg (sA (sThr t) 29 0) (nn_io (p := 2) (by decide))) (Eq.trans rdAthr (z_A_29_0_2 e))) ?_
    have J6 : X 297 440 [.inr (.inr (29, (some 0))), .inr (.inr (11, (some 0))), .inr (.inr (12, (some 0))), .inr (.inr (23, (some 0))), .inl 0, .inl 1, sJk] [.inl (bz (!(decide ((xs 2) = 0)))), .inl (xs 1), .inr (.inr (12, (some 0)))] (sThr t) Qp := by
      refine x_cv (ls0 := [_, _, _, sJk]) (rest := []) rfl rfl rfl rfl rfl ?_
      refine x_aload_n (pc' := 1) rfl rfl rfl rfl rfl ?_
      refine x_iload_n (pc' := 2) rfl rfl rfl ?_
      refine x_cs (ls0 := [_]) (rest := [_]) rfl rfl rfl rfl ?_
      refine x_iload_n (pc' := 1) rfl rfl rfl ?_
      refine x_iconst (pc' := 2) rfl rfl ?_
      refine x_iconst (pc' := 3) rfl rfl ?_
      refine x_cs (ls0 := [_, _, _]) (rest := []) rfl rfl rfl rfl ?_
      refine x_iload_n (pc' := 1) rfl rfl rfl ?_
      refine x_iload_n (pc' := 2) rfl rfl rfl ?_
      refine x_icmp (a' := 14) (pc' := 5) (z := decide ((xs 1) < 0)) rfl rfl rfl rfl (fun _ => ?_) (fun h => absurd e0 (of_decide_eq_false h))
      refine x_iconst (pc' := 15) rfl rfl ?_
      refine x_retz (z := false) rfl rfl ?_
      refine sK_i (pc' := 6) rfl ?_
      refine x_retz (z := false) rfl rfl ?_
      refine sK_i (pc' := 5) rfl ?_
      refine x_if (a' := 12) (pc' := 8) (z := true) rfl rfl rfl (by decide) (fun _ => ?_) (fun h => by cases h)
      refine x_iconst (pc' := 13) rfl rfl ?_
      refine x_cv (ls0 := [_, _]) (rest := []) rfl rfl rfl rfl rfl ?_
      refine x_aload_n (pc' := 1) rfl rfl rfl rfl rfl ?_
      refine x_iload_n (pc' := 2) rfl rfl rfl ?_
      refine x_pI (pc' := 5) rfl rfl rfl ?_
      refine x_iload_n (pc' := 6) rfl rfl rfl ?_
      refine x_if (a' := 13) (pc' := 9) (z := true) rfl rfl rfl (by decide) (fun _ => ?_) (fun h => by cases h)
      refine x_iconst (pc' := 14) rfl rfl ?_
      refine x_retz (z := false) rfl rfl ?_
      refine sK_i (pc' := 16) rfl ?_
      refine x_if (a' := 21) (pc' := 19) (z := false) rfl rfl rfl (by decide) (fun h => by cases h) (fun _ => ?_)
      refine x_iconst (pc' := 20) rfl rfl ?_
      refine x_retz (z := false) rfl rfl ?_
      refine sK_i (pc' := 443) rfl ?_
      refine x_istore (pc' := 445) (ls' := [_, _, _, _, _, _, _]) rfl rfl rfl rfl ?_
      refine x_aload_n (pc' := 446) rfl rfl rfl rfl rfl ?_
      refine x_cv (ls0 := [_]) (rest := []) rfl rfl rfl rfl rfl ?_
      refine x_aload_n (pc' := 1) rfl rfl rfl rfl rfl ?_
      refine x_gI (pc' := 4) (x := 1) rfl rfl rfl sI_s ?_
      refine x_reti rfl rfl ?_
      refine sK_i (pc' := 449) rfl ?_
      refine x_iload (pc' := 451) rfl rfl rfl ?_
      refine x_icmp (a' := 456) (pc' := 454) (z := true) rfl rfl rfl (by decide) (fun _ => ?_) (fun h => by cases h)
      refine x_iload (pc' := 458) rfl rfl rfl ?_
      refine x_if (a' := 480) (pc' := 461) (z := true) rfl rfl rfl (by decide) (fun _ => ?_) (fun h => by cases h)
      refine x_goto (pc' := 2938) rfl rfl ?_
      refine x_iinc (pc' := 2941) (y := 7) (ls' := [_, _, _, _, _, _, _]) rfl rfl rfl rfl rfl ?_
      refine x_goto (pc' := 23) rfl rfl ?_
      refine x_iload (pc' := 25) rfl rfl rfl ?_
      refine x_aload_n (pc' := 26) rfl rfl rfl rfl rfl ?_
      refine x_alen (pc' := 27) (N := 7) rfl rfl rfl (Eq.trans rdNI (Eq.trans rdNthr (z_N_29_0 e))) (?_ : X _ _ _ (.inl 7 :: _) _ _)
      refine x_bipush (pc' := 29) rfl rfl ?_
      refine x_isub (pc' := 30) (z := 0) rfl rfl (by decide) ?_
      refine x_icmp (a' := 2944) (pc' := 33) (z := true) rfl rfl rfl (by decide) (fun _ => ?_) (fun h => by cases h)
      refine x_iconst (pc' := 2945) rfl rfl ?_
      refine x_retz (z := true) rfl rfl ?_
      exact Qp_ok e (p := 1) (q := 6) rfl rfl rfl rfl
    refine x_if (a' := 439) (pc' := 435) (z := decide ((xs 2) = 0)) rfl rfl rfl rfl (fun q6 => ?_) (fun q6 => ?_)
    · refine x_iconst (pc' := 440) rfl rfl ?_
      ((try rw [q6] at J6); (try rw [q6]); (try simp only [cd_t, cd_f, nt_t, nt_f, an_t, an_f, or_t, or_f] at J6); (try simp only [cd_t, cd_f, nt_t, nt_f, an_t, an_f, or_t, or_f]); exact J6)
    · refine x_iconst (pc' := 436) rfl rfl ?_
      refine x_goto (pc' := 440) rfl rfl ?_
      ((try rw [q6] at J6); (try rw [q6]); (try simp only [cd_t, cd_f, nt_t, nt_f, an_t, an_f, or_t, or_f] at J6); (try simp only [cd_t, cd_f, nt_t, nt_f, an_t, an_f, or_t, or_f]); exact J6)
  refine x_if (a' := 412) (pc' := 408) (z := decide ((xs 2) = 0)) rfl rfl rfl rfl (fun q3 => ?_) (fun q3 => ?_)
  · refine x_iconst (pc' := 413) rfl rfl ?_
    ((try rw [q3] at J3); (try rw [q3]); (try simp only [cd_t, cd_f, nt_t, nt_f, an_t, an_f, or_t, or_f] at J3); (try simp only [cd_t, cd_f, nt_t, nt_f, an_t, an_f, or_t, or_f]); exact J3)
  · refine x_iconst (pc' := 409) rfl rfl ?_
    refine x_goto (pc' := 413) rfl rfl ?_
    ((try rw [q3] at J3); (try rw [q3]); (try simp only [cd_t, cd_f, nt_t, nt_f, an_t, an_f, or_t, or_f] at J3); (try simp only [cd_t, cd_f, nt_t, nt_f, an_t, an_f, or_t, or_f]); exact J3)
set_option maxHeartbeats 4000000 in
set_option maxRecDepth 10000 in
theorem v_3_B_i {t : sT} {xs : Nat → Int32}
    (e : t = T16 7 xs)
    (hk : ((xs 0) &&& 63) = 3)
    (e0 : ¬ (xs 1) < 0)
    (f0 : ¬ (xs 1) < 5) :
    X 297 23 [.inr (.inr (29, (some 0))), .inr (.inr (11, (some 0))), .inr (.inr (12, (some 0))), .inr (.inr (23, (some 0))), .inl 0, sJk, sJk] [] t Qp := by
  refine x_iload (pc' := 25) rfl rfl rfl ?_
  refine x_aload_n (pc' := 26) rfl rfl rfl rfl rfl ?_
  refine x_alen (pc' := 27) (N := 7) rfl rfl rfl (z_N_29_0 e) (?_ : X _ _ _ (.inl 7 :: _) _ _)
  refine x_bipush (pc' := 29) rfl rfl ?_
  refine x_isub (pc' := 30) (z := 0) rfl rfl (by decide) ?_
  refine x_icmp (a' := 2944) (pc' := 33) (z := false) rfl rfl rfl (by decide) (fun h => by cases h) (fun _ => ?_)
  refine x_aload_n (pc' := 34) rfl rfl rfl rfl rfl ?_
  refine x_iload (pc' := 36) rfl rfl rfl ?_
  refine x_iald (pc' := 37) (N := 7) (x := (xs 0)) rfl rfl rfl (z_N_29_0 e) (io_in (p := 0) (N := 7) (by decide) (by decide)) (Eq.trans (congrArg (sA t 29 0) (nn_io (p := 0) (by decide))) (z_A_29_0_0 e)) ?_
  refine x_bipush (pc' := 39) rfl rfl ?_
  refine x_iand (pc' := 40) (z := ((xs 0) &&& 63)) rfl rfl rfl ?_
  refine x_switch (pc' := 392) rfl (by rw [hk]; decide) ?_
  refine x_aload_n (pc' := 393) rfl rfl rfl rfl rfl ?_
  refine x_aload_n (pc' := 394) rfl rfl rfl rfl rfl ?_
  refine x_iload (pc' := 396) rfl rfl rfl ?_
  refine x_iconst (pc' := 397) rfl rfl ?_
  refine x_iadd (pc' := 398) (z := 1) rfl rfl (by decide) ?_
  refine x_iald (pc' := 399) (N := 7) (x := (xs 1)) rfl rfl rfl (z_N_29_0 e) (io_in (p := 1) (N := 7) (by decide) (by decide)) (Eq.trans (congrArg (sA t 29 0) (nn_io (p := 1) (by decide))) (z_A_29_0_1 e)) ?_
  refine x_aload_n (pc' := 400) rfl rfl rfl rfl rfl ?_
  refine x_iload (pc' := 402) rfl rfl rfl ?_
  refine x_iconst (pc' := 403) rfl rfl ?_
  refine x_iadd (pc' := 404) (z := 2) rfl rfl (by decide) ?_
  refine x_iald (pc' := 405) (N := 7) (x := (xs 2)) rfl rfl rfl (z_N_29_0 e) (io_in (p := 2) (N := 7) (by decide) (by decide)) (Eq.trans (congrArg (sA t 29 0) (nn_io (p := 2) (by decide))) (z_A_29_0_2 e)) ?_
  have J3 : X 297 413 [.inr (.inr (29, (some 0))), .inr (.inr (11, (some 0))), .inr (.inr (12, (some 0))), .inr (.inr (23, (some 0))), .inl 0, sJk, sJk] [.inl (bz (!(decide ((xs 2) = 0)))), .inl (xs 1), .inr (.inr (11, (some 0)))] t Qp := by
    refine x_aload_n (pc' := 414) rfl rfl rfl rfl rfl ?_
    refine x_cs (ls0 := [_, _, _, _, sJk]) (rest := []) rfl rfl rfl rfl ?_
    refine x_aload_n (pc' := 1) rfl rfl rfl rfl rfl ?_
    refine x_iconst (pc' := 2) rfl rfl ?_
    refine x_aload_n (pc' := 3) rfl rfl rfl rfl rfl ?_
    refine x_iload_n (pc' := 4) rfl rfl rfl ?_
    refine x_iload_n (pc' := 5) rfl rfl rfl ?_
    refine x_cv (ls0 := [_, _, _, sJk, sJk]) (rest := [_, _]) rfl rfl rfl rfl rfl ?_
    refine x_aload_n (pc' := 1) rfl rfl rfl rfl rfl ?_
    refine x_iload_n (pc' := 2) rfl rfl rfl ?_
    refine x_cv (ls0 := [_, _]) (rest := []) rfl rfl rfl rfl rfl ?_
    refine x_iload_n (pc' := 1) rfl rfl rfl ?_
    refine x_if (a' := 16) (pc' := 4) (z := decide ((xs 1) < 0)) rfl rfl rfl rfl (fun h => absurd (of_decide_eq_true h) e0) (fun _ => ?_)
    refine x_iload_n (pc' := 5) rfl rfl rfl ?_
    refine x_aload_n (pc' := 6) rfl rfl rfl rfl rfl ?_
    refine x_gR (pc' := 9) (r := (some 0)) rfl rfl rfl (z_R_705_0 e) ?_
    refine x_gR (pc' := 12) (r := (some 0)) rfl rfl rfl (z_R_256_0 e) ?_
    refine x_alen (pc' := 13) (N := 5) rfl rfl rfl (z_N_24_0 e) (?_ : X _ _ _ (.inl 5 :: _) _ _)
    refine x_icmp (a' := 27) (pc' := 16) (z := decide ((xs 1) < 5)) rfl rfl rfl rfl (fun h => absurd (of_decide_eq_true h) f0) (fun _ => ?_)
    refine x_throw rfl rfl ?_
    refine sK_n (by decide +kernel) rfl ?_
    refine sK_h (h := 20) (by decide +kernel) rfl ?_
    refine x_catch (pc' := 22) (ls' := [_, _, _, _, _]) rfl rfl rfl rfl ?_
    refine x_iconst (pc' := 23) rfl rfl ?_
    refine x_reti rfl rfl ?_
    refine sK_i (pc' := 417) rfl ?_
    refine x_istore (pc' := 419) (ls' := [_, _, _, _, _, _, _]) rfl rfl rfl rfl ?_
    refine x_aload_n (pc' := 420) rfl rfl rfl rfl rfl ?_
    refine x_aload_n (pc' := 421) rfl rfl rfl rfl rfl ?_
    refine x_iload (pc' := 423) rfl rfl rfl ?_
    refine x_iconst (pc' := 424) rfl rfl ?_
    refine x_iadd (pc' := 425) (z := 1) rfl rfl (by decide) ?_
    refine x_iald (pc' := 426) (N := 7) (x := (xs 1)) rfl rfl rfl (Eq.trans rdNthr (z_N_29_0 e)) (io_in (p := 1) (N := 7) (by decide) (by decide)) (Eq.trans (congrArg (sA (sThr t) 29 0) (nn_io (p := 1) (by decide))) (Eq.trans rdAthr (z_A_29_0_1 e))) ?_
    refine x_aload_n (pc' := 427) rfl rfl rfl rfl rfl ?_
    refine x_iload (pc' := 429) rfl rfl rfl ?_
    refine x_iconst (pc' := 430) rfl rfl ?_
    refine x_iadd (pc' := 431) (z := 2) rfl rfl (by decide) ?_
    refine x_iald (pc' := 432) (N := 7) (x := (xs 2)) rfl rfl rfl (Eq.trans rdNthr (z_N_29_0 e)) (io_in (p := 2) (N := 7) (by decide) (by decide)) (Eq.trans (congrArg (sA (sThr t) 29 0) (nn_io (p := 2) (by decide))) (Eq.trans rdAthr (z_A_29_0_2 e))) ?_
    have J7 : X 297 440 [.inr (.inr (29, (some 0))), .inr (.inr (11, (some 0))), .inr (.inr (12, (some 0))), .inr (.inr (23, (some 0))), .inl 0, .inl 1, sJk] [.inl (bz (!(decide ((xs 2) = 0)))), .inl (xs 1), .inr (.inr (12, (some 0)))] (sThr t) Qp := by
      refine x_cv (ls0 := [_, _, _, sJk]) (rest := []) rfl rfl rfl rfl rfl ?_
      refine x_aload_n (pc' := 1) rfl rfl rfl rfl rfl ?_
      refine x_iload_n (pc' := 2) rfl rfl rfl ?_
      refine x_cs (ls0 := [_]) (rest := [_]) rfl rfl rfl rfl ?_
      refine x_iload_n (pc' := 1) rfl rfl rfl ?_
      refine x_iconst (pc' := 2) rfl rfl ?_
      refine x_iconst (pc' := 3) rfl rfl ?_
      refine x_cs (ls0 := [_, _, _]) (rest := []) rfl rfl rfl rfl ?_
      refine x_iload_n (pc' := 1) rfl rfl rfl ?_
      refine x_iload_n (pc' := 2) rfl rfl rfl ?_
      refine x_icmp (a' := 14) (pc' := 5) (z := decide ((xs 1) < 0)) rfl rfl rfl rfl (fun h => absurd (of_decide_eq_true h) e0) (fun _ => ?_)
      refine x_iload_n (pc' := 6) rfl rfl rfl ?_
      refine x_iload_n (pc' := 7) rfl rfl rfl ?_
      refine x_icmp (a' := 14) (pc' := 10) (z := decide (4 < (xs 1))) rfl rfl rfl rfl (fun _ => ?_) (fun h => absurd (lt_of5 f0) (of_decide_eq_false h))
      refine x_iconst (pc' := 15) rfl rfl ?_
      refine x_retz (z := false) rfl rfl ?_
      refine sK_i (pc' := 6) rfl ?_
      refine x_retz (z := false) rfl rfl ?_
      refine sK_i (pc' := 5) rfl ?_
      refine x_if (a' := 12) (pc' := 8) (z := true) rfl rfl rfl (by decide) (fun _ => ?_) (fun h => by cases h)
      refine x_iconst (pc' := 13) rfl rfl ?_
      refine x_cv (ls0 := [_, _]) (rest := []) rfl rfl rfl rfl rfl ?_
      refine x_aload_n (pc' := 1) rfl rfl rfl rfl rfl ?_
      refine x_iload_n (pc' := 2) rfl rfl rfl ?_
      refine x_pI (pc' := 5) rfl rfl rfl ?_
      refine x_iload_n (pc' := 6) rfl rfl rfl ?_
      refine x_if (a' := 13) (pc' := 9) (z := true) rfl rfl rfl (by decide) (fun _ => ?_) (fun h => by cases h)
      refine x_iconst (pc' := 14) rfl rfl ?_
      refine x_retz (z := false) rfl rfl ?_
      refine sK_i (pc' := 16) rfl ?_
      refine x_if (a' := 21) (pc' := 19) (z := false) rfl rfl rfl (by decide) (fun h => by cases h) (fun _ => ?_)
      refine x_iconst (pc' := 20) rfl rfl ?_
      refine x_retz (z := false) rfl rfl ?_
      refine sK_i (pc' := 443) rfl ?_
      refine x_istore (pc' := 445) (ls' := [_, _, _, _, _, _, _]) rfl rfl rfl rfl ?_
      refine x_aload_n (pc' := 446) rfl rfl rfl rfl rfl ?_
      refine x_cv (ls0 := [_]) (rest := []) rfl rfl rfl rfl rfl ?_
      refine x_aload_n (pc' := 1) rfl rfl rfl rfl rfl ?_
      refine x_gI (pc' := 4) (x := 1) rfl rfl rfl sI_s ?_
      refine x_reti rfl rfl ?_
      refine sK_i (pc' := 449) rfl ?_
      refine x_iload (pc' := 451) rfl rfl rfl ?_
      refine x_icmp (a' := 456) (pc' := 454) (z := true) rfl rfl rfl (by decide) (fun _ => ?_) (fun h => by cases h)
      refine x_iload (pc' := 458) rfl rfl rfl ?_
      refine x_if (a' := 480) (pc' := 461) (z := true) rfl rfl rfl (by decide) (fun _ => ?_) (fun h => by cases h)
      refine x_goto (pc' := 2938) rfl rfl ?_
      refine x_iinc (pc' := 2941) (y := 7) (ls' := [_, _, _, _, _, _, _]) rfl rfl rfl rfl rfl ?_
      refine x_goto (pc' := 23) rfl rfl ?_
      refine x_iload (pc' := 25) rfl rfl rfl ?_
      refine x_aload_n (pc' := 26) rfl rfl rfl rfl rfl ?_
      refine x_alen (pc' := 27) (N := 7) rfl rfl rfl (Eq.trans rdNI (Eq.trans rdNthr (z_N_29_0 e))) (?_ : X _ _ _ (.inl 7 :: _) _ _)
      refine x_bipush (pc' := 29) rfl rfl ?_
      refine x_isub (pc' := 30) (z := 0) rfl rfl (by decide) ?_
      refine x_icmp (a' := 2944) (pc' := 33) (z := true) rfl rfl rfl (by decide) (fun _ => ?_) (fun h => by cases h)
      refine x_iconst (pc' := 2945) rfl rfl ?_
      refine x_retz (z := true) rfl rfl ?_
      exact Qp_ok e (p := 1) (q := 6) rfl rfl rfl rfl
    refine x_if (a' := 439) (pc' := 435) (z := decide ((xs 2) = 0)) rfl rfl rfl rfl (fun q7 => ?_) (fun q7 => ?_)
    · refine x_iconst (pc' := 440) rfl rfl ?_
      ((try rw [q7] at J7); (try rw [q7]); (try simp only [cd_t, cd_f, nt_t, nt_f, an_t, an_f, or_t, or_f] at J7); (try simp only [cd_t, cd_f, nt_t, nt_f, an_t, an_f, or_t, or_f]); exact J7)
    · refine x_iconst (pc' := 436) rfl rfl ?_
      refine x_goto (pc' := 440) rfl rfl ?_
      ((try rw [q7] at J7); (try rw [q7]); (try simp only [cd_t, cd_f, nt_t, nt_f, an_t, an_f, or_t, or_f] at J7); (try simp only [cd_t, cd_f, nt_t, nt_f, an_t, an_f, or_t, or_f]); exact J7)
  refine x_if (a' := 412) (pc' := 408) (z := decide ((xs 2) = 0)) rfl rfl rfl rfl (fun q3 => ?_) (fun q3 => ?_)
  · refine x_iconst (pc' := 413) rfl rfl ?_
    ((try rw [q3] at J3); (try rw [q3]); (try simp only [cd_t, cd_f, nt_t, nt_f, an_t, an_f, or_t, or_f] at J3); (try simp only [cd_t, cd_f, nt_t, nt_f, an_t, an_f, or_t, or_f]); exact J3)
  · refine x_iconst (pc' := 409) rfl rfl ?_
    refine x_goto (pc' := 413) rfl rfl ?_
    ((try rw [q3] at J3); (try rw [q3]); (try simp only [cd_t, cd_f, nt_t, nt_f, an_t, an_f, or_t, or_f] at J3); (try simp only [cd_t, cd_f, nt_t, nt_f, an_t, an_f, or_t, or_f]); exact J3)
set_option maxHeartbeats 4000000 in
set_option maxRecDepth 10000 in
theorem v_4_0_i_i {t : sT} {xs : Nat → Int32}
    (e : t = T16 7 xs)
    (hk : ((xs 0) &&& 63) = 4)
    (e0 : xs 1 = 0) :
    X 297 23 [.inr (.inr (29, (some 0))), .inr (.inr (11, (some 0))), .inr (.inr (12, (some 0))), .inr (.inr (23, (some 0))), .inl 0, sJk, sJk] [] t Qp := by
  refine x_iload (pc' := 25) rfl rfl rfl ?_
  refine x_aload_n (pc' := 26) rfl rfl rfl rfl rfl ?_
  refine x_alen (pc' := 27) (N := 7) rfl rfl rfl (z_N_29_0 e) (?_ : X _ _ _ (.inl 7 :: _) _ _)
  refine x_bipush (pc' := 29) rfl rfl ?_
  refine x_isub (pc' := 30) (z := 0) rfl rfl (by decide) ?_
  refine x_icmp (a' := 2944) (pc' := 33) (z := false) rfl rfl rfl (by decide) (fun h => by cases h) (fun _ => ?_)
  refine x_aload_n (pc' := 34) rfl rfl rfl rfl rfl ?_
  refine x_iload (pc' := 36) rfl rfl rfl ?_
  refine x_iald (pc' := 37) (N := 7) (x := (xs 0)) rfl rfl rfl (z_N_29_0 e) (io_in (p := 0) (N := 7) (by decide) (by decide)) (Eq.trans (congrArg (sA t 29 0) (nn_io (p := 0) (by decide))) (z_A_29_0_0 e)) ?_
  refine x_bipush (pc' := 39) rfl rfl ?_
  refine x_iand (pc' := 40) (z := ((xs 0) &&& 63)) rfl rfl rfl ?_
  refine x_switch (pc' := 483) rfl (by rw [hk]; decide) ?_
  refine x_aload_n (pc' := 484) rfl rfl rfl rfl rfl ?_
  refine x_aload_n (pc' := 485) rfl rfl rfl rfl rfl ?_
  refine x_iload (pc' := 487) rfl rfl rfl ?_
  refine x_iconst (pc' := 488) rfl rfl ?_
  refine x_iadd (pc' := 489) (z := 1) rfl rfl (by decide) ?_
  refine x_iald (pc' := 490) (N := 7) (x := 0) rfl rfl rfl (z_N_29_0 e) (io_in (p := 1) (N := 7) (by decide) (by decide)) (Eq.trans (congrArg (sA t 29 0) (nn_io (p := 1) (by decide))) (Eq.trans (z_A_29_0_1 e) e0)) ?_
  refine x_aload_n (pc' := 491) rfl rfl rfl rfl rfl ?_
  refine x_iload (pc' := 493) rfl rfl rfl ?_
  refine x_iconst (pc' := 494) rfl rfl ?_
  refine x_iadd (pc' := 495) (z := 2) rfl rfl (by decide) ?_
  refine x_iald (pc' := 496) (N := 7) (x := (xs 2)) rfl rfl rfl (z_N_29_0 e) (io_in (p := 2) (N := 7) (by decide) (by decide)) (Eq.trans (congrArg (sA t 29 0) (nn_io (p := 2) (by decide))) (z_A_29_0_2 e)) ?_
  refine x_aload_n (pc' := 497) rfl rfl rfl rfl rfl ?_
  refine x_iload (pc' := 499) rfl rfl rfl ?_
  refine x_iconst (pc' := 500) rfl rfl ?_
  refine x_iadd (pc' := 501) (z := 3) rfl rfl (by decide) ?_
  refine x_iald (pc' := 502) (N := 7) (x := (xs 3)) rfl rfl rfl (z_N_29_0 e) (io_in (p := 3) (N := 7) (by decide) (by decide)) (Eq.trans (congrArg (sA t 29 0) (nn_io (p := 3) (by decide))) (z_A_29_0_3 e)) ?_
  refine x_cs (ls0 := [_, _, _, _, sJk]) (rest := []) rfl rfl rfl rfl ?_
  refine x_aload_n (pc' := 1) rfl rfl rfl rfl rfl ?_
  refine x_iload_n (pc' := 2) rfl rfl rfl ?_
  refine x_iload_n (pc' := 3) rfl rfl rfl ?_
  refine x_iload_n (pc' := 4) rfl rfl rfl ?_
  refine x_cv (ls0 := [_, _, _, _, sJk]) (rest := []) rfl rfl rfl rfl rfl ?_
  refine x_aload_n (pc' := 1) rfl rfl rfl rfl rfl ?_
  refine x_iload_n (pc' := 2) rfl rfl rfl ?_
  refine x_cv (ls0 := [_, _]) (rest := []) rfl rfl rfl rfl rfl ?_
  refine x_iload_n (pc' := 1) rfl rfl rfl ?_
  refine x_if (a' := 16) (pc' := 4) (z := false) rfl rfl rfl (by decide) (fun h => by cases h) (fun _ => ?_)
  refine x_iload_n (pc' := 5) rfl rfl rfl ?_
  refine x_aload_n (pc' := 6) rfl rfl rfl rfl rfl ?_
  refine x_gR (pc' := 9) (r := (some 0)) rfl rfl rfl (z_R_704_0 e) ?_
  refine x_gR (pc' := 12) (r := (some 0)) rfl rfl rfl (z_R_320_0 e) ?_
  refine x_alen (pc' := 13) (N := 3) rfl rfl rfl (z_N_25_0 e) (?_ : X _ _ _ (.inl 3 :: _) _ _)
  refine x_icmp (a' := 27) (pc' := 16) (z := true) rfl rfl rfl (by decide) (fun _ => ?_) (fun h => by cases h)
  refine x_aload_n (pc' := 28) rfl rfl rfl rfl rfl ?_
  refine x_gR (pc' := 31) (r := (some 0)) rfl rfl rfl (z_R_704_0 e) ?_
  refine x_gR (pc' := 34) (r := (some 0)) rfl rfl rfl (z_R_320_0 e) ?_
  refine x_iload_n (pc' := 35) rfl rfl rfl ?_
  refine x_aald (pc' := 36) (N := 3) (k' := 2) (r := (some 0)) rfl rfl rfl (z_N_25_0 e) (io_in (p := 0) (N := 3) (by decide) (by decide)) (Eq.trans (congrArg (sE t 25 0) (nn_io (p := 0) (by decide))) (z_E_25_0_0 e)) ?_
  refine x_reta rfl rfl ?_
  refine sK_i (pc' := 5) rfl ?_
  refine x_astore (pc' := 7) (ls' := [_, _, _, _, _]) rfl rfl rfl rfl rfl ?_
  refine x_iload_n (pc' := 8) rfl rfl rfl ?_
  refine x_iconst (pc' := 9) rfl rfl ?_
  refine x_sipush (pc' := 12) rfl rfl ?_
  refine x_cs (ls0 := [_, _, _]) (rest := []) rfl rfl rfl rfl ?_
  refine x_iload_n (pc' := 1) rfl rfl rfl ?_
  refine x_iload_n (pc' := 2) rfl rfl rfl ?_
  refine x_icmp (a' := 10) (pc' := 5) (z := decide ((xs 2) < 1)) rfl rfl rfl rfl (fun q5 => ?_) (fun q5 => ?_)
  · refine x_throw rfl rfl ?_
    refine sK_n (by decide +kernel) rfl ?_
    refine sK_h (h := 14) (by decide +kernel) rfl ?_
    refine x_catch (pc' := 16) (ls' := [_, _, _, _, _]) rfl rfl rfl rfl ?_
    refine x_iconst (pc' := 17) rfl rfl ?_
    refine x_reti rfl rfl ?_
    refine sK_i (pc' := 505) rfl ?_
    refine x_istore (pc' := 507) (ls' := [_, _, _, _, _, _, _]) rfl rfl rfl rfl ?_
    refine x_aload_n (pc' := 508) rfl rfl rfl rfl rfl ?_
    refine x_aload_n (pc' := 509) rfl rfl rfl rfl rfl ?_
    refine x_iload (pc' := 511) rfl rfl rfl ?_
    refine x_iconst (pc' := 512) rfl rfl ?_
    refine x_iadd (pc' := 513) (z := 1) rfl rfl (by decide) ?_
    refine x_iald (pc' := 514) (N := 7) (x := 0) rfl rfl rfl (Eq.trans rdNthr (z_N_29_0 e)) (io_in (p := 1) (N := 7) (by decide) (by decide)) (Eq.trans (congrArg (sA (sThr t) 29 0) (nn_io (p := 1) (by decide))) (Eq.trans rdAthr (Eq.trans (z_A_29_0_1 e) e0))) ?_
    refine x_aload_n (pc' := 515) rfl rfl rfl rfl rfl ?_
    refine x_iload (pc' := 517) rfl rfl rfl ?_
    refine x_iconst (pc' := 518) rfl rfl ?_
    refine x_iadd (pc' := 519) (z := 2) rfl rfl (by decide) ?_
    refine x_iald (pc' := 520) (N := 7) (x := (xs 2)) rfl rfl rfl (Eq.trans rdNthr (z_N_29_0 e)) (io_in (p := 2) (N := 7) (by decide) (by decide)) (Eq.trans (congrArg (sA (sThr t) 29 0) (nn_io (p := 2) (by decide))) (Eq.trans rdAthr (z_A_29_0_2 e))) ?_
    refine x_aload_n (pc' := 521) rfl rfl rfl rfl rfl ?_
    refine x_iload (pc' := 523) rfl rfl rfl ?_
    refine x_iconst (pc' := 524) rfl rfl ?_
    refine x_iadd (pc' := 525) (z := 3) rfl rfl (by decide) ?_
    refine x_iald (pc' := 526) (N := 7) (x := (xs 3)) rfl rfl rfl (Eq.trans rdNthr (z_N_29_0 e)) (io_in (p := 3) (N := 7) (by decide) (by decide)) (Eq.trans (congrArg (sA (sThr t) 29 0) (nn_io (p := 3) (by decide))) (Eq.trans rdAthr (z_A_29_0_3 e))) ?_
    refine x_cv (ls0 := [_, _, _, _]) (rest := []) rfl rfl rfl rfl rfl ?_
    refine x_aload_n (pc' := 1) rfl rfl rfl rfl rfl ?_
    refine x_iload_n (pc' := 2) rfl rfl rfl ?_
    refine x_cs (ls0 := [_]) (rest := [_]) rfl rfl rfl rfl ?_
    refine x_iload_n (pc' := 1) rfl rfl rfl ?_
    refine x_iconst (pc' := 2) rfl rfl ?_
    refine x_iconst (pc' := 3) rfl rfl ?_
    refine x_cs (ls0 := [_, _, _]) (rest := []) rfl rfl rfl rfl ?_
    refine x_iload_n (pc' := 1) rfl rfl rfl ?_
    refine x_iload_n (pc' := 2) rfl rfl rfl ?_
    refine x_icmp (a' := 14) (pc' := 5) (z := false) rfl rfl rfl (by decide) (fun h => by cases h) (fun _ => ?_)
    refine x_iload_n (pc' := 6) rfl rfl rfl ?_
    refine x_iload_n (pc' := 7) rfl rfl rfl ?_
    refine x_icmp (a' := 14) (pc' := 10) (z := false) rfl rfl rfl (by decide) (fun h => by cases h) (fun _ => ?_)
    refine x_iconst (pc' := 11) rfl rfl ?_
    refine x_goto (pc' := 15) rfl rfl ?_
    refine x_retz (z := true) rfl rfl ?_
    refine sK_i (pc' := 6) rfl ?_
    refine x_retz (z := true) rfl rfl ?_
    refine sK_i (pc' := 5) rfl ?_
    refine x_if (a' := 12) (pc' := 8) (z := true) rfl rfl rfl (by decide) (fun _ => ?_) (fun h => by cases h)
    refine x_iload_n (pc' := 13) rfl rfl rfl ?_
    refine x_iconst (pc' := 14) rfl rfl ?_
    refine x_sipush (pc' := 17) rfl rfl ?_
    refine x_cs (ls0 := [_, _, _]) (rest := [_]) rfl rfl rfl rfl ?_
    refine x_iload_n (pc' := 1) rfl rfl rfl ?_
    refine x_iload_n (pc' := 2) rfl rfl rfl ?_
    refine x_icmp (a' := 14) (pc' := 5) (z := decide ((xs 2) < 1)) rfl rfl rfl rfl (fun _ => ?_) (fun h => absurd (of_decide_eq_true q5) (of_decide_eq_false h))
    refine x_iconst (pc' := 15) rfl rfl ?_
    refine x_retz (z := false) rfl rfl ?_
    refine sK_i (pc' := 20) rfl ?_
    refine x_if (a' := 38) (pc' := 23) (z := true) rfl rfl rfl (by decide) (fun _ => ?_) (fun h => by cases h)
    refine x_iconst (pc' := 39) rfl rfl ?_
    refine x_cv (ls0 := [_, _]) (rest := []) rfl rfl rfl rfl rfl ?_
    refine x_aload_n (pc' := 1) rfl rfl rfl rfl rfl ?_
    refine x_iload_n (pc' := 2) rfl rfl rfl ?_
    refine x_pI (pc' := 5) rfl rfl rfl ?_
    refine x_iload_n (pc' := 6) rfl rfl rfl ?_
    refine x_if (a' := 13) (pc' := 9) (z := true) rfl rfl rfl (by decide) (fun _ => ?_) (fun h => by cases h)
    refine x_iconst (pc' := 14) rfl rfl ?_
    refine x_retz (z := false) rfl rfl ?_
    refine sK_i (pc' := 42) rfl ?_
    refine x_if (a' := 59) (pc' := 45) (z := true) rfl rfl rfl (by decide) (fun _ => ?_) (fun h => by cases h)
    refine x_ret rfl ?_
    refine sK_v (pc' := 529) rfl ?_
    refine x_aload_n (pc' := 530) rfl rfl rfl rfl rfl ?_
    refine x_cv (ls0 := [_]) (rest := []) rfl rfl rfl rfl rfl ?_
    refine x_aload_n (pc' := 1) rfl rfl rfl rfl rfl ?_
    refine x_gI (pc' := 4) (x := 2) rfl rfl rfl sI_s ?_
    refine x_reti rfl rfl ?_
    refine sK_i (pc' := 533) rfl ?_
    refine x_iload (pc' := 535) rfl rfl rfl ?_
    refine x_icmp (a' := 540) (pc' := 538) (z := true) rfl rfl rfl (by decide) (fun _ => ?_) (fun h => by cases h)
    refine x_goto (pc' := 2938) rfl rfl ?_
    refine x_iinc (pc' := 2941) (y := 7) (ls' := [_, _, _, _, _, _, _]) rfl rfl rfl rfl rfl ?_
    refine x_goto (pc' := 23) rfl rfl ?_
    refine x_iload (pc' := 25) rfl rfl rfl ?_
    refine x_aload_n (pc' := 26) rfl rfl rfl rfl rfl ?_
    refine x_alen (pc' := 27) (N := 7) rfl rfl rfl (Eq.trans rdNI (Eq.trans rdNthr (z_N_29_0 e))) (?_ : X _ _ _ (.inl 7 :: _) _ _)
    refine x_bipush (pc' := 29) rfl rfl ?_
    refine x_isub (pc' := 30) (z := 0) rfl rfl (by decide) ?_
    refine x_icmp (a' := 2944) (pc' := 33) (z := true) rfl rfl rfl (by decide) (fun _ => ?_) (fun h => by cases h)
    refine x_iconst (pc' := 2945) rfl rfl ?_
    refine x_retz (z := true) rfl rfl ?_
    exact Qp_ok e (p := 1) (q := 6) rfl rfl rfl rfl
  · refine x_iload_n (pc' := 6) rfl rfl rfl ?_
    refine x_iload_n (pc' := 7) rfl rfl rfl ?_
    refine x_icmp_n (a' := 21) (pc' := 10) (z := decide (999 < (xs 2))) rfl rfl rfl (ik_le _ _) (fun q15 => ?_) (fun q15 => ?_)
    · refine x_ret rfl ?_
      refine sK_v (pc' := 15) rfl ?_
      refine x_iload_n (pc' := 16) rfl rfl rfl ?_
      refine x_iconst (pc' := 17) rfl rfl ?_
      refine x_sipush (pc' := 20) rfl rfl ?_
      refine x_cs (ls0 := [_, _, _]) (rest := []) rfl rfl rfl rfl ?_
      refine x_iload_n (pc' := 1) rfl rfl rfl ?_
      refine x_iload_n (pc' := 2) rfl rfl rfl ?_
      refine x_icmp (a' := 10) (pc' := 5) (z := decide ((xs 3) < 0)) rfl rfl rfl rfl (fun q16 => ?_) (fun q16 => ?_)
      · refine x_throw rfl rfl ?_
        refine sK_n (by decide +kernel) rfl ?_
        refine sK_h (h := 14) (by decide +kernel) rfl ?_
        refine x_catch (pc' := 16) (ls' := [_, _, _, _, _]) rfl rfl rfl rfl ?_
        refine x_iconst (pc' := 17) rfl rfl ?_
        refine x_reti rfl rfl ?_
        refine sK_i (pc' := 505) rfl ?_
        refine x_istore (pc' := 507) (ls' := [_, _, _, _, _, _, _]) rfl rfl rfl rfl ?_
        refine x_aload_n (pc' := 508) rfl rfl rfl rfl rfl ?_
        refine x_aload_n (pc' := 509) rfl rfl rfl rfl rfl ?_
        refine x_iload (pc' := 511) rfl rfl rfl ?_
        refine x_iconst (pc' := 512) rfl rfl ?_
        refine x_iadd (pc' := 513) (z := 1) rfl rfl (by decide) ?_
        refine x_iald (pc' := 514) (N := 7) (x := 0) rfl rfl rfl (Eq.trans rdNthr (z_N_29_0 e)) (io_in (p := 1) (N := 7) (by decide) (by decide)) (Eq.trans (congrArg (sA (sThr t) 29 0) (nn_io (p := 1) (by decide))) (Eq.trans rdAthr (Eq.trans (z_A_29_0_1 e) e0))) ?_
        refine x_aload_n (pc' := 515) rfl rfl rfl rfl rfl ?_
        refine x_iload (pc' := 517) rfl rfl rfl ?_
        refine x_iconst (pc' := 518) rfl rfl ?_
        refine x_iadd (pc' := 519) (z := 2) rfl rfl (by decide) ?_
        refine x_iald (pc' := 520) (N := 7) (x := (xs 2)) rfl rfl rfl (Eq.trans rdNthr (z_N_29_0 e)) (io_in (p := 2) (N := 7) (by decide) (by decide)) (Eq.trans (congrArg (sA (sThr t) 29 0) (nn_io (p := 2) (by decide))) (Eq.trans rdAthr (z_A_29_0_2 e))) ?_
        refine x_aload_n (pc' := 521) rfl rfl rfl rfl rfl ?_
        refine x_iload (pc' := 523) rfl rfl rfl ?_
        refine x_iconst (pc' := 524) rfl rfl ?_
        refine x_iadd (pc' := 525) (z := 3) rfl rfl (by decide) ?_
        refine x_iald (pc' := 526) (N := 7) (x := (xs 3)) rfl rfl rfl (Eq.trans rdNthr (z_N_29_0 e)) (io_in (p := 3) (N := 7) (by decide) (by decide)) (Eq.trans (congrArg (sA (sThr t) 29 0) (nn_io (p := 3) (by decide))) (Eq.trans rdAthr (z_A_29_0_3 e))) ?_
        refine x_cv (ls0 := [_, _, _, _]) (rest := []) rfl rfl rfl rfl rfl ?_
        refine x_aload_n (pc' := 1) rfl rfl rfl rfl rfl ?_
        refine x_iload_n (pc' := 2) rfl rfl rfl ?_
        refine x_cs (ls0 := [_]) (rest := [_]) rfl rfl rfl rfl ?_
        refine x_iload_n (pc' := 1) rfl rfl rfl ?_
        refine x_iconst (pc' := 2) rfl rfl ?_
        refine x_iconst (pc' := 3) rfl rfl ?_
        refine x_cs (ls0 := [_, _, _]) (rest := []) rfl rfl rfl rfl ?_
        refine x_iload_n (pc' := 1) rfl rfl rfl ?_
        refine x_iload_n (pc' := 2) rfl rfl rfl ?_
        refine x_icmp (a' := 14) (pc' := 5) (z := false) rfl rfl rfl (by decide) (fun h => by cases h) (fun _ => ?_)
        refine x_iload_n (pc' := 6) rfl rfl rfl ?_
        refine x_iload_n (pc' := 7) rfl rfl rfl ?_
        refine x_icmp (a' := 14) (pc' := 10) (z := false) rfl rfl rfl (by decide) (fun h => by cases h) (fun _ => ?_)
        refine x_iconst (pc' := 11) rfl rfl ?_
        refine x_goto (pc' := 15) rfl rfl ?_
        refine x_retz (z := true) rfl rfl ?_
        refine sK_i (pc' := 6) rfl ?_
        refine x_retz (z := true) rfl rfl ?_
        refine sK_i (pc' := 5) rfl ?_
        refine x_if (a' := 12) (pc' := 8) (z := true) rfl rfl rfl (by decide) (fun _ => ?_) (fun h => by cases h)
        refine x_iload_n (pc' := 13) rfl rfl rfl ?_
        refine x_iconst (pc' := 14) rfl rfl ?_
        refine x_sipush (pc' := 17) rfl rfl ?_
        refine x_cs (ls0 := [_, _, _]) (rest := [_]) rfl rfl rfl rfl ?_
        refine x_iload_n (pc' := 1) rfl rfl rfl ?_
        refine x_iload_n (pc' := 2) rfl rfl rfl ?_
        refine x_icmp (a' := 14) (pc' := 5) (z := decide ((xs 2) < 1)) rfl rfl rfl rfl (fun h => absurd (of_decide_eq_true h) (of_decide_eq_false q5)) (fun _ => ?_)
        refine x_iload_n (pc' := 6) rfl rfl rfl ?_
        refine x_iload_n (pc' := 7) rfl rfl rfl ?_
        refine x_icmp (a' := 14) (pc' := 10) (z := decide (999 < (xs 2))) rfl rfl rfl rfl (fun h => absurd (of_decide_eq_true h) (of_decide_eq_false q15)) (fun _ => ?_)
        refine x_iconst (pc' := 11) rfl rfl ?_
        refine x_goto (pc' := 15) rfl rfl ?_
        refine x_retz (z := true) rfl rfl ?_
        refine sK_i (pc' := 20) rfl ?_
        refine x_if (a' := 38) (pc' := 23) (z := false) rfl rfl rfl (by decide) (fun h => by cases h) (fun _ => ?_)
        refine x_iload_n (pc' := 24) rfl rfl rfl ?_
        refine x_iconst (pc' := 25) rfl rfl ?_
        refine x_sipush (pc' := 28) rfl rfl ?_
        refine x_cs (ls0 := [_, _, _]) (rest := [_]) rfl rfl rfl rfl ?_
        refine x_iload_n (pc' := 1) rfl rfl rfl ?_
        refine x_iload_n (pc' := 2) rfl rfl rfl ?_
        refine x_icmp (a' := 14) (pc' := 5) (z := decide ((xs 3) < 0)) rfl rfl rfl rfl (fun _ => ?_) (fun h => absurd (of_decide_eq_true q16) (of_decide_eq_false h))
        refine x_iconst (pc' := 15) rfl rfl ?_
        refine x_retz (z := false) rfl rfl ?_
        refine sK_i (pc' := 31) rfl ?_
        refine x_if (a' := 38) (pc' := 34) (z := true) rfl rfl rfl (by decide) (fun _ => ?_) (fun h => by cases h)
        refine x_iconst (pc' := 39) rfl rfl ?_
        refine x_cv (ls0 := [_, _]) (rest := []) rfl rfl rfl rfl rfl ?_
        refine x_aload_n (pc' := 1) rfl rfl rfl rfl rfl ?_
        refine x_iload_n (pc' := 2) rfl rfl rfl ?_
        refine x_pI (pc' := 5) rfl rfl rfl ?_
        refine x_iload_n (pc' := 6) rfl rfl rfl ?_
        refine x_if (a' := 13) (pc' := 9) (z := true) rfl rfl rfl (by decide) (fun _ => ?_) (fun h => by cases h)
        refine x_iconst (pc' := 14) rfl rfl ?_
        refine x_retz (z := false) rfl rfl ?_
        refine sK_i (pc' := 42) rfl ?_
        refine x_if (a' := 59) (pc' := 45) (z := true) rfl rfl rfl (by decide) (fun _ => ?_) (fun h => by cases h)
        refine x_ret rfl ?_
        refine sK_v (pc' := 529) rfl ?_
        refine x_aload_n (pc' := 530) rfl rfl rfl rfl rfl ?_
        refine x_cv (ls0 := [_]) (rest := []) rfl rfl rfl rfl rfl ?_
        refine x_aload_n (pc' := 1) rfl rfl rfl rfl rfl ?_
        refine x_gI (pc' := 4) (x := 2) rfl rfl rfl sI_s ?_
        refine x_reti rfl rfl ?_
        refine sK_i (pc' := 533) rfl ?_
        refine x_iload (pc' := 535) rfl rfl rfl ?_
        refine x_icmp (a' := 540) (pc' := 538) (z := true) rfl rfl rfl (by decide) (fun _ => ?_) (fun h => by cases h)
        refine x_goto (pc' := 2938) rfl rfl ?_
        refine x_iinc (pc' := 2941) (y := 7) (ls' := [_, _, _, _, _, _, _]) rfl rfl rfl rfl rfl ?_
        refine x_goto (pc' := 23) rfl rfl ?_
        refine x_iload (pc' := 25) rfl rfl rfl ?_
        refine x_aload_n (pc' := 26) rfl rfl rfl rfl rfl ?_
        refine x_alen (pc' := 27) (N := 7) rfl rfl rfl (Eq.trans rdNI (Eq.trans rdNthr (z_N_29_0 e))) (?_ : X _ _ _ (.inl 7 :: _) _ _)
        refine x_bipush (pc' := 29) rfl rfl ?_
        refine x_isub (pc' := 30) (z := 0) rfl rfl (by decide) ?_
        refine x_icmp (a' := 2944) (pc' := 33) (z := true) rfl rfl rfl (by decide) (fun _ => ?_) (fun h => by cases h)
        refine x_iconst (pc' := 2945) rfl rfl ?_
        refine x_retz (z := true) rfl rfl ?_
        exact Qp_ok e (p := 1) (q := 6) rfl rfl rfl rfl
      · refine x_iload_n (pc' := 6) rfl rfl rfl ?_
        refine x_iload_n (pc' := 7) rfl rfl rfl ?_
        refine x_icmp_n (a' := 21) (pc' := 10) (z := decide (999 < (xs 3))) rfl rfl rfl (ik_le _ _) (fun q29 => ?_) (fun q29 => ?_)
        · refine x_ret rfl ?_
          refine sK_v (pc' := 23) rfl ?_
          refine x_aload (pc' := 25) rfl rfl rfl rfl rfl ?_
          refine x_iload_n (pc' := 26) rfl rfl rfl ?_
          refine x_pI (pc' := 29) rfl rfl rfl ?_
          refine x_aload (pc' := 31) rfl rfl rfl rfl rfl ?_
          refine x_iload_n (pc' := 32) rfl rfl rfl ?_
          refine x_pI (pc' := 35) rfl rfl rfl ?_
          refine x_ret rfl ?_
          refine sK_v (pc' := 7) rfl ?_
          refine x_goto (pc' := 18) rfl rfl ?_
          refine x_iconst (pc' := 19) rfl rfl ?_
          refine x_reti rfl rfl ?_
          refine sK_i (pc' := 505) rfl ?_
          refine x_istore (pc' := 507) (ls' := [_, _, _, _, _, _, _]) rfl rfl rfl rfl ?_
          refine x_aload_n (pc' := 508) rfl rfl rfl rfl rfl ?_
          refine x_aload_n (pc' := 509) rfl rfl rfl rfl rfl ?_
          refine x_iload (pc' := 511) rfl rfl rfl ?_
          refine x_iconst (pc' := 512) rfl rfl ?_
          refine x_iadd (pc' := 513) (z := 1) rfl rfl (by decide) ?_
          refine x_iald (pc' := 514) (N := 7) (x := 0) rfl rfl rfl (Eq.trans rdNI (Eq.trans rdNI (z_N_29_0 e))) (io_in (p := 1) (N := 7) (by decide) (by decide)) (Eq.trans (congrArg (sA (sIw (sIw t 130 0 (xs 2)) 131 0 (xs 3)) 29 0) (nn_io (p := 1) (by decide))) (Eq.trans rdAI (Eq.trans rdAI (Eq.trans (z_A_29_0_1 e) e0)))) ?_
          refine x_aload_n (pc' := 515) rfl rfl rfl rfl rfl ?_
          refine x_iload (pc' := 517) rfl rfl rfl ?_
          refine x_iconst (pc' := 518) rfl rfl ?_
          refine x_iadd (pc' := 519) (z := 2) rfl rfl (by decide) ?_
          refine x_iald (pc' := 520) (N := 7) (x := (xs 2)) rfl rfl rfl (Eq.trans rdNI (Eq.trans rdNI (z_N_29_0 e))) (io_in (p := 2) (N := 7) (by decide) (by decide)) (Eq.trans (congrArg (sA (sIw (sIw t 130 0 (xs 2)) 131 0 (xs 3)) 29 0) (nn_io (p := 2) (by decide))) (Eq.trans rdAI (Eq.trans rdAI (z_A_29_0_2 e)))) ?_
          refine x_aload_n (pc' := 521) rfl rfl rfl rfl rfl ?_
          refine x_iload (pc' := 523) rfl rfl rfl ?_
          refine x_iconst (pc' := 524) rfl rfl ?_
          refine x_iadd (pc' := 525) (z := 3) rfl rfl (by decide) ?_
          refine x_iald (pc' := 526) (N := 7) (x := (xs 3)) rfl rfl rfl (Eq.trans rdNI (Eq.trans rdNI (z_N_29_0 e))) (io_in (p := 3) (N := 7) (by decide) (by decide)) (Eq.trans (congrArg (sA (sIw (sIw t 130 0 (xs 2)) 131 0 (xs 3)) 29 0) (nn_io (p := 3) (by decide))) (Eq.trans rdAI (Eq.trans rdAI (z_A_29_0_3 e)))) ?_
          refine x_cv (ls0 := [_, _, _, _]) (rest := []) rfl rfl rfl rfl rfl ?_
          refine x_aload_n (pc' := 1) rfl rfl rfl rfl rfl ?_
          refine x_iload_n (pc' := 2) rfl rfl rfl ?_
          refine x_cs (ls0 := [_]) (rest := [_]) rfl rfl rfl rfl ?_
          refine x_iload_n (pc' := 1) rfl rfl rfl ?_
          refine x_iconst (pc' := 2) rfl rfl ?_
          refine x_iconst (pc' := 3) rfl rfl ?_
          refine x_cs (ls0 := [_, _, _]) (rest := []) rfl rfl rfl rfl ?_
          refine x_iload_n (pc' := 1) rfl rfl rfl ?_
          refine x_iload_n (pc' := 2) rfl rfl rfl ?_
          refine x_icmp (a' := 14) (pc' := 5) (z := false) rfl rfl rfl (by decide) (fun h => by cases h) (fun _ => ?_)
          refine x_iload_n (pc' := 6) rfl rfl rfl ?_
          refine x_iload_n (pc' := 7) rfl rfl rfl ?_
          refine x_icmp (a' := 14) (pc' := 10) (z := false) rfl rfl rfl (by decide) (fun h => by cases h) (fun _ => ?_)
          refine x_iconst (pc' := 11) rfl rfl ?_
          refine x_goto (pc' := 15) rfl rfl ?_
          refine x_retz (z := true) rfl rfl ?_
          refine sK_i (pc' := 6) rfl ?_
          refine x_retz (z := true) rfl rfl ?_
          refine sK_i (pc' := 5) rfl ?_
          refine x_if (a' := 12) (pc' := 8) (z := true) rfl rfl rfl (by decide) (fun _ => ?_) (fun h => by cases h)
          refine x_iload_n (pc' := 13) rfl rfl rfl ?_
          refine x_iconst (pc' := 14) rfl rfl ?_
          refine x_sipush (pc' := 17) rfl rfl ?_
          refine x_cs (ls0 := [_, _, _]) (rest := [_]) rfl rfl rfl rfl ?_
          refine x_iload_n (pc' := 1) rfl rfl rfl ?_
          refine x_iload_n (pc' := 2) rfl rfl rfl ?_
          refine x_icmp (a' := 14) (pc' := 5) (z := decide ((xs 2) < 1)) rfl rfl rfl rfl (fun h => absurd (of_decide_eq_true h) (of_decide_eq_false q5)) (fun _ => ?_)
          refine x_iload_n (pc' := 6) rfl rfl rfl ?_
          refine x_iload_n (pc' := 7) rfl rfl rfl ?_
          refine x_icmp (a' := 14) (pc' := 10) (z := decide (999 < (xs 2))) rfl rfl rfl rfl (fun h => absurd (of_decide_eq_true h) (of_decide_eq_false q15)) (fun _ => ?_)
          refine x_iconst (pc' := 11) rfl rfl ?_
          refine x_goto (pc' := 15) rfl rfl ?_
          refine x_retz (z := true) rfl rfl ?_
          refine sK_i (pc' := 20) rfl ?_
          refine x_if (a' := 38) (pc' := 23) (z := false) rfl rfl rfl (by decide) (fun h => by cases h) (fun _ => ?_)
          refine x_iload_n (pc' := 24) rfl rfl rfl ?_
          refine x_iconst (pc' := 25) rfl rfl ?_
          refine x_sipush (pc' := 28) rfl rfl ?_
          refine x_cs (ls0 := [_, _, _]) (rest := [_]) rfl rfl rfl rfl ?_
          refine x_iload_n (pc' := 1) rfl rfl rfl ?_
          refine x_iload_n (pc' := 2) rfl rfl rfl ?_
          refine x_icmp (a' := 14) (pc' := 5) (z := decide ((xs 3) < 0)) rfl rfl rfl rfl (fun h => absurd (of_decide_eq_true h) (of_decide_eq_false q16)) (fun _ => ?_)
          refine x_iload_n (pc' := 6) rfl rfl rfl ?_
          refine x_iload_n (pc' := 7) rfl rfl rfl ?_
          refine x_icmp (a' := 14) (pc' := 10) (z := decide (999 < (xs 3))) rfl rfl rfl rfl (fun h => absurd (of_decide_eq_true h) (of_decide_eq_false q29)) (fun _ => ?_)
          refine x_iconst (pc' := 11) rfl rfl ?_
          refine x_goto (pc' := 15) rfl rfl ?_
          refine x_retz (z := true) rfl rfl ?_
          refine sK_i (pc' := 31) rfl ?_
          refine x_if (a' := 38) (pc' := 34) (z := false) rfl rfl rfl (by decide) (fun h => by cases h) (fun _ => ?_)
          refine x_iconst (pc' := 35) rfl rfl ?_
          refine x_goto (pc' := 39) rfl rfl ?_
          refine x_cv (ls0 := [_, _]) (rest := []) rfl rfl rfl rfl rfl ?_
          refine x_aload_n (pc' := 1) rfl rfl rfl rfl rfl ?_
          refine x_iload_n (pc' := 2) rfl rfl rfl ?_
          refine x_pI (pc' := 5) rfl rfl rfl ?_
          refine x_iload_n (pc' := 6) rfl rfl rfl ?_
          refine x_if (a' := 13) (pc' := 9) (z := false) rfl rfl rfl (by decide) (fun h => by cases h) (fun _ => ?_)
          refine x_iconst (pc' := 10) rfl rfl ?_
          refine x_goto (pc' := 14) rfl rfl ?_
          refine x_retz (z := true) rfl rfl ?_
          refine sK_i (pc' := 42) rfl ?_
          refine x_if (a' := 59) (pc' := 45) (z := false) rfl rfl rfl (by decide) (fun h => by cases h) (fun _ => ?_)
          refine x_aload_n (pc' := 46) rfl rfl rfl rfl rfl ?_
          refine x_gR (pc' := 49) (r := (some 2)) rfl rfl rfl (Eq.trans rdRI (Eq.trans rdRI (Eq.trans rdRI (z_R_772_0 e)))) ?_
          refine x_iload_n (pc' := 50) rfl rfl rfl ?_
          refine x_iload_n (pc' := 51) rfl rfl rfl ?_
          refine x_iast (pc' := 52) (N := 3) (p := 0) rfl rfl rfl (Eq.trans rdNI (Eq.trans rdNI (Eq.trans rdNI (z_N_21_2 e)))) (io_in (p := 0) (N := 3) (by decide) (by decide)) (nn_io (p := 0) (by decide)) ?_
          refine x_aload_n (pc' := 53) rfl rfl rfl rfl rfl ?_
          refine x_gR (pc' := 56) (r := (some 3)) rfl rfl rfl (Eq.trans rdRA (Eq.trans rdRI (Eq.trans rdRI (Eq.trans rdRI (z_R_773_0 e))))) ?_
          refine x_iload_n (pc' := 57) rfl rfl rfl ?_
          refine x_iload_n (pc' := 58) rfl rfl rfl ?_
          refine x_iast (pc' := 59) (N := 3) (p := 0) rfl rfl rfl (Eq.trans rdNA (Eq.trans rdNI (Eq.trans rdNI (Eq.trans rdNI (z_N_21_3 e))))) (io_in (p := 0) (N := 3) (by decide) (by decide)) (nn_io (p := 0) (by decide)) ?_
          refine x_ret rfl ?_
          refine sK_v (pc' := 529) rfl ?_
          refine x_aload_n (pc' := 530) rfl rfl rfl rfl rfl ?_
          refine x_cv (ls0 := [_]) (rest := []) rfl rfl rfl rfl rfl ?_
          refine x_aload_n (pc' := 1) rfl rfl rfl rfl rfl ?_
          refine x_gI (pc' := 4) (x := 0) rfl rfl rfl (Eq.trans rdIA (Eq.trans rdIA sI_s)) ?_
          refine x_reti rfl rfl ?_
          refine sK_i (pc' := 533) rfl ?_
          refine x_iload (pc' := 535) rfl rfl rfl ?_
          refine x_icmp (a' := 540) (pc' := 538) (z := true) rfl rfl rfl (by decide) (fun _ => ?_) (fun h => by cases h)
          refine x_goto (pc' := 2938) rfl rfl ?_
          refine x_iinc (pc' := 2941) (y := 7) (ls' := [_, _, _, _, _, _, _]) rfl rfl rfl rfl rfl ?_
          refine x_goto (pc' := 23) rfl rfl ?_
          refine x_iload (pc' := 25) rfl rfl rfl ?_
          refine x_aload_n (pc' := 26) rfl rfl rfl rfl rfl ?_
          refine x_alen (pc' := 27) (N := 7) rfl rfl rfl (Eq.trans rdNA (Eq.trans rdNA (Eq.trans rdNI (Eq.trans rdNI (Eq.trans rdNI (z_N_29_0 e)))))) (?_ : X _ _ _ (.inl 7 :: _) _ _)
          refine x_bipush (pc' := 29) rfl rfl ?_
          refine x_isub (pc' := 30) (z := 0) rfl rfl (by decide) ?_
          refine x_icmp (a' := 2944) (pc' := 33) (z := true) rfl rfl rfl (by decide) (fun _ => ?_) (fun h => by cases h)
          refine x_iconst (pc' := 2945) rfl rfl ?_
          refine x_retz (z := true) rfl rfl ?_
          exact Qp_ok e (p := 0) (q := 0) rfl rfl rfl rfl
        · refine x_throw rfl rfl ?_
          refine sK_n (by decide +kernel) rfl ?_
          refine sK_h (h := 14) (by decide +kernel) rfl ?_
          refine x_catch (pc' := 16) (ls' := [_, _, _, _, _]) rfl rfl rfl rfl ?_
          refine x_iconst (pc' := 17) rfl rfl ?_
          refine x_reti rfl rfl ?_
          refine sK_i (pc' := 505) rfl ?_
          refine x_istore (pc' := 507) (ls' := [_, _, _, _, _, _, _]) rfl rfl rfl rfl ?_
          refine x_aload_n (pc' := 508) rfl rfl rfl rfl rfl ?_
          refine x_aload_n (pc' := 509) rfl rfl rfl rfl rfl ?_
          refine x_iload (pc' := 511) rfl rfl rfl ?_
          refine x_iconst (pc' := 512) rfl rfl ?_
          refine x_iadd (pc' := 513) (z := 1) rfl rfl (by decide) ?_
          refine x_iald (pc' := 514) (N := 7) (x := 0) rfl rfl rfl (Eq.trans rdNthr (z_N_29_0 e)) (io_in (p := 1) (N := 7) (by decide) (by decide)) (Eq.trans (congrArg (sA (sThr t) 29 0) (nn_io (p := 1) (by decide))) (Eq.trans rdAthr (Eq.trans (z_A_29_0_1 e) e0))) ?_
          refine x_aload_n (pc' := 515) rfl rfl rfl rfl rfl ?_
          refine x_iload (pc' := 517) rfl rfl rfl ?_
          refine x_iconst (pc' := 518) rfl rfl ?_
          refine x_iadd (pc' := 519) (z := 2) rfl rfl (by decide) ?_
          refine x_iald (pc' := 520) (N := 7) (x := (xs 2)) rfl rfl rfl (Eq.trans rdNthr (z_N_29_0 e)) (io_in (p := 2) (N := 7) (by decide) (by decide)) (Eq.trans (congrArg (sA (sThr t) 29 0) (nn_io (p := 2) (by decide))) (Eq.trans rdAthr (z_A_29_0_2 e))) ?_
          refine x_aload_n (pc' := 521) rfl rfl rfl rfl rfl ?_
          refine x_iload (pc' := 523) rfl rfl rfl ?_
          refine x_iconst (pc' := 524) rfl rfl ?_
          refine x_iadd (pc' := 525) (z := 3) rfl rfl (by decide) ?_
          refine x_iald (pc' := 526) (N := 7) (x := (xs 3)) rfl rfl rfl (Eq.trans rdNthr (z_N_29_0 e)) (io_in (p := 3) (N := 7) (by decide) (by decide)) (Eq.trans (congrArg (sA (sThr t) 29 0) (nn_io (p := 3) (by decide))) (Eq.trans rdAthr (z_A_29_0_3 e))) ?_
          refine x_cv (ls0 := [_, _, _, _]) (rest := []) rfl rfl rfl rfl rfl ?_
          refine x_aload_n (pc' := 1) rfl rfl rfl rfl rfl ?_
          refine x_iload_n (pc' := 2) rfl rfl rfl ?_
          refine x_cs (ls0 := [_]) (rest := [_]) rfl rfl rfl rfl ?_
          refine x_iload_n (pc' := 1) rfl rfl rfl ?_
          refine x_iconst (pc' := 2) rfl rfl ?_
          refine x_iconst (pc' := 3) rfl rfl ?_
          refine x_cs (ls0 := [_, _, _]) (rest := []) rfl rfl rfl rfl ?_
          refine x_iload_n (pc' := 1) rfl rfl rfl ?_
          refine x_iload_n (pc' := 2) rfl rfl rfl ?_
          refine x_icmp (a' := 14) (pc' := 5) (z := false) rfl rfl rfl (by decide) (fun h => by cases h) (fun _ => ?_)
          refine x_iload_n (pc' := 6) rfl rfl rfl ?_
          refine x_iload_n (pc' := 7) rfl rfl rfl ?_
          refine x_icmp (a' := 14) (pc' := 10) (z := false) rfl rfl rfl (by decide) (fun h => by cases h) (fun _ => ?_)
          refine x_iconst (pc' := 11) rfl rfl ?_
          refine x_goto (pc' := 15) rfl rfl ?_
          refine x_retz (z := true) rfl rfl ?_
          refine sK_i (pc' := 6) rfl ?_
          refine x_retz (z := true) rfl rfl ?_
          refine sK_i (pc' := 5) rfl ?_
          refine x_if (a' := 12) (pc' := 8) (z := true) rfl rfl rfl (by decide) (fun _ => ?_) (fun h => by cases h)
          refine x_iload_n (pc' := 13) rfl rfl rfl ?_
          refine x_iconst (pc' := 14) rfl rfl ?_
          refine x_sipush (pc' := 17) rfl rfl ?_
          refine x_cs (ls0 := [_, _, _]) (rest := [_]) rfl rfl rfl rfl ?_
          refine x_iload_n (pc' := 1) rfl rfl rfl ?_
          refine x_iload_n (pc' := 2) rfl rfl rfl ?_
          refine x_icmp (a' := 14) (pc' := 5) (z := decide ((xs 2) < 1)) rfl rfl rfl rfl (fun h => absurd (of_decide_eq_true h) (of_decide_eq_false q5)) (fun _ => ?_)
          refine x_iload_n (pc' := 6) rfl rfl rfl ?_
          refine x_iload_n (pc' := 7) rfl rfl rfl ?_
          refine x_icmp (a' := 14) (pc' := 10) (z := decide (999 < (xs 2))) rfl rfl rfl rfl (fun h => absurd (of_decide_eq_true h) (of_decide_eq_false q15)) (fun _ => ?_)
          refine x_iconst (pc' := 11) rfl rfl ?_
          refine x_goto (pc' := 15) rfl rfl ?_
          refine x_retz (z := true) rfl rfl ?_
          refine sK_i (pc' := 20) rfl ?_
          refine x_if (a' := 38) (pc' := 23) (z := false) rfl rfl rfl (by decide) (fun h => by cases h) (fun _ => ?_)
          refine x_iload_n (pc' := 24) rfl rfl rfl ?_
          refine x_iconst (pc' := 25) rfl rfl ?_
          refine x_sipush (pc' := 28) rfl rfl ?_
          refine x_cs (ls0 := [_, _, _]) (rest := [_]) rfl rfl rfl rfl ?_
          refine x_iload_n (pc' := 1) rfl rfl rfl ?_
          refine x_iload_n (pc' := 2) rfl rfl rfl ?_
          refine x_icmp (a' := 14) (pc' := 5) (z := decide ((xs 3) < 0)) rfl rfl rfl rfl (fun h => absurd (of_decide_eq_true h) (of_decide_eq_false q16)) (fun _ => ?_)
          refine x_iload_n (pc' := 6) rfl rfl rfl ?_
          refine x_iload_n (pc' := 7) rfl rfl rfl ?_
          refine x_icmp (a' := 14) (pc' := 10) (z := decide (999 < (xs 3))) rfl rfl rfl rfl (fun _ => ?_) (fun h => absurd (of_decide_eq_true q29) (of_decide_eq_false h))
          refine x_iconst (pc' := 15) rfl rfl ?_
          refine x_retz (z := false) rfl rfl ?_
          refine sK_i (pc' := 31) rfl ?_
          refine x_if (a' := 38) (pc' := 34) (z := true) rfl rfl rfl (by decide) (fun _ => ?_) (fun h => by cases h)
          refine x_iconst (pc' := 39) rfl rfl ?_
          refine x_cv (ls0 := [_, _]) (rest := []) rfl rfl rfl rfl rfl ?_
          refine x_aload_n (pc' := 1) rfl rfl rfl rfl rfl ?_
          refine x_iload_n (pc' := 2) rfl rfl rfl ?_
          refine x_pI (pc' := 5) rfl rfl rfl ?_
          refine x_iload_n (pc' := 6) rfl rfl rfl ?_
          refine x_if (a' := 13) (pc' := 9) (z := true) rfl rfl rfl (by decide) (fun _ => ?_) (fun h => by cases h)
          refine x_iconst (pc' := 14) rfl rfl ?_
          refine x_retz (z := false) rfl rfl ?_
          refine sK_i (pc' := 42) rfl ?_
          refine x_if (a' := 59) (pc' := 45) (z := true) rfl rfl rfl (by decide) (fun _ => ?_) (fun h => by cases h)
          refine x_ret rfl ?_
          refine sK_v (pc' := 529) rfl ?_
          refine x_aload_n (pc' := 530) rfl rfl rfl rfl rfl ?_
          refine x_cv (ls0 := [_]) (rest := []) rfl rfl rfl rfl rfl ?_
          refine x_aload_n (pc' := 1) rfl rfl rfl rfl rfl ?_
          refine x_gI (pc' := 4) (x := 2) rfl rfl rfl sI_s ?_
          refine x_reti rfl rfl ?_
          refine sK_i (pc' := 533) rfl ?_
          refine x_iload (pc' := 535) rfl rfl rfl ?_
          refine x_icmp (a' := 540) (pc' := 538) (z := true) rfl rfl rfl (by decide) (fun _ => ?_) (fun h => by cases h)
          refine x_goto (pc' := 2938) rfl rfl ?_
          refine x_iinc (pc' := 2941) (y := 7) (ls' := [_, _, _, _, _, _, _]) rfl rfl rfl rfl rfl ?_
          refine x_goto (pc' := 23) rfl rfl ?_
          refine x_iload (pc' := 25) rfl rfl rfl ?_
          refine x_aload_n (pc' := 26) rfl rfl rfl rfl rfl ?_
          refine x_alen (pc' := 27) (N := 7) rfl rfl rfl (Eq.trans rdNI (Eq.trans rdNthr (z_N_29_0 e))) (?_ : X _ _ _ (.inl 7 :: _) _ _)
          refine x_bipush (pc' := 29) rfl rfl ?_
          refine x_isub (pc' := 30) (z := 0) rfl rfl (by decide) ?_
          refine x_icmp (a' := 2944) (pc' := 33) (z := true) rfl rfl rfl (by decide) (fun _ => ?_) (fun h => by cases h)
          refine x_iconst (pc' := 2945) rfl rfl ?_
          refine x_retz (z := true) rfl rfl ?_
          exact Qp_ok e (p := 1) (q := 6) rfl rfl rfl rfl
    · refine x_throw rfl rfl ?_
      refine sK_n (by decide +kernel) rfl ?_
      refine sK_h (h := 14) (by decide +kernel) rfl ?_
      refine x_catch (pc' := 16) (ls' := [_, _, _, _, _]) rfl rfl rfl rfl ?_
      refine x_iconst (pc' := 17) rfl rfl ?_
      refine x_reti rfl rfl ?_
      refine sK_i (pc' := 505) rfl ?_
      refine x_istore (pc' := 507) (ls' := [_, _, _, _, _, _, _]) rfl rfl rfl rfl ?_
      refine x_aload_n (pc' := 508) rfl rfl rfl rfl rfl ?_
      refine x_aload_n (pc' := 509) rfl rfl rfl rfl rfl ?_
      refine x_iload (pc' := 511) rfl rfl rfl ?_
      refine x_iconst (pc' := 512) rfl rfl ?_
      refine x_iadd (pc' := 513) (z := 1) rfl rfl (by decide) ?_
      refine x_iald (pc' := 514) (N := 7) (x := 0) rfl rfl rfl (Eq.trans rdNthr (z_N_29_0 e)) (io_in (p := 1) (N := 7) (by decide) (by decide)) (Eq.trans (congrArg (sA (sThr t) 29 0) (nn_io (p := 1) (by decide))) (Eq.trans rdAthr (Eq.trans (z_A_29_0_1 e) e0))) ?_
      refine x_aload_n (pc' := 515) rfl rfl rfl rfl rfl ?_
      refine x_iload (pc' := 517) rfl rfl rfl ?_
      refine x_iconst (pc' := 518) rfl rfl ?_
      refine x_iadd (pc' := 519) (z := 2) rfl rfl (by decide) ?_
      refine x_iald (pc' := 520) (N := 7) (x := (xs 2)) rfl rfl rfl (Eq.trans rdNthr (z_N_29_0 e)) (io_in (p := 2) (N := 7) (by decide) (by decide)) (Eq.trans (congrArg (sA (sThr t) 29 0) (nn_io (p := 2) (by decide))) (Eq.trans rdAthr (z_A_29_0_2 e))) ?_
      refine x_aload_n (pc' := 521) rfl rfl rfl rfl rfl ?_
      refine x_iload (pc' := 523) rfl rfl rfl ?_
      refine x_iconst (pc' := 524) rfl rfl ?_
      refine x_iadd (pc' := 525) (z := 3) rfl rfl (by decide) ?_
      refine x_iald (pc' := 526) (N := 7) (x := (xs 3)) rfl rfl rfl (Eq.trans rdNthr (z_N_29_0 e)) (io_in (p := 3) (N := 7) (by decide) (by decide)) (Eq.trans (congrArg (sA (sThr t) 29 0) (nn_io (p := 3) (by decide))) (Eq.trans rdAthr (z_A_29_0_3 e))) ?_
      refine x_cv (ls0 := [_, _, _, _]) (rest := []) rfl rfl rfl rfl rfl ?_
      refine x_aload_n (pc' := 1) rfl rfl rfl rfl rfl ?_
      refine x_iload_n (pc' := 2) rfl rfl rfl ?_
      refine x_cs (ls0 := [_]) (rest := [_]) rfl rfl rfl rfl ?_
      refine x_iload_n (pc' := 1) rfl rfl rfl ?_
      refine x_iconst (pc' := 2) rfl rfl ?_
      refine x_iconst (pc' := 3) rfl rfl ?_
      refine x_cs (ls0 := [_, _, _]) (rest := []) rfl rfl rfl rfl ?_
      refine x_iload_n (pc' := 1) rfl rfl rfl ?_
      refine x_iload_n (pc' := 2) rfl rfl rfl ?_
      refine x_icmp (a' := 14) (pc' := 5) (z := false) rfl rfl rfl (by decide) (fun h => by cases h) (fun _ => ?_)
      refine x_iload_n (pc' := 6) rfl rfl rfl ?_
      refine x_iload_n (pc' := 7) rfl rfl rfl ?_
      refine x_icmp (a' := 14) (pc' := 10) (z := false) rfl rfl rfl (by decide) (fun h => by cases h) (fun _ => ?_)
      refine x_iconst (pc' := 11) rfl rfl ?_
      refine x_goto (pc' := 15) rfl rfl ?_
      refine x_retz (z := true) rfl rfl ?_
      refine sK_i (pc' := 6) rfl ?_
      refine x_retz (z := true) rfl rfl ?_
      refine sK_i (pc' := 5) rfl ?_
      refine x_if (a' := 12) (pc' := 8) (z := true) rfl rfl rfl (by decide) (fun _ => ?_) (fun h => by cases h)
      refine x_iload_n (pc' := 13) rfl rfl rfl ?_
      refine x_iconst (pc' := 14) rfl rfl ?_
      refine x_sipush (pc' := 17) rfl rfl ?_
      refine x_cs (ls0 := [_, _, _]) (rest := [_]) rfl rfl rfl rfl ?_
      refine x_iload_n (pc' := 1) rfl rfl rfl ?_
      refine x_iload_n (pc' := 2) rfl rfl rfl ?_
      refine x_icmp (a' := 14) (pc' := 5) (z := decide ((xs 2) < 1)) rfl rfl rfl rfl (fun h => absurd (of_decide_eq_true h) (of_decide_eq_false q5)) (fun _ => ?_)
      refine x_iload_n (pc' := 6) rfl rfl rfl ?_
      refine x_iload_n (pc' := 7) rfl rfl rfl ?_
      refine x_icmp (a' := 14) (pc' := 10) (z := decide (999 < (xs 2))) rfl rfl rfl rfl (fun _ => ?_) (fun h => absurd (of_decide_eq_true q15) (of_decide_eq_false h))
      refine x_iconst (pc' := 15) rfl rfl ?_
      refine x_retz (z := false) rfl rfl ?_
      refine sK_i (pc' := 20) rfl ?_
      refine x_if (a' := 38) (pc' := 23) (z := true) rfl rfl rfl (by decide) (fun _ => ?_) (fun h => by cases h)
      refine x_iconst (pc' := 39) rfl rfl ?_
      refine x_cv (ls0 := [_, _]) (rest := []) rfl rfl rfl rfl rfl ?_
      refine x_aload_n (pc' := 1) rfl rfl rfl rfl rfl ?_
      refine x_iload_n (pc' := 2) rfl rfl rfl ?_
      refine x_pI (pc' := 5) rfl rfl rfl ?_
      refine x_iload_n (pc' := 6) rfl rfl rfl ?_
      refine x_if (a' := 13) (pc' := 9) (z := true) rfl rfl rfl (by decide) (fun _ => ?_) (fun h => by cases h)
      refine x_iconst (pc' := 14) rfl rfl ?_
      refine x_retz (z := false) rfl rfl ?_
      refine sK_i (pc' := 42) rfl ?_
      refine x_if (a' := 59) (pc' := 45) (z := true) rfl rfl rfl (by decide) (fun _ => ?_) (fun h => by cases h)
      refine x_ret rfl ?_
      refine sK_v (pc' := 529) rfl ?_
      refine x_aload_n (pc' := 530) rfl rfl rfl rfl rfl ?_
      refine x_cv (ls0 := [_]) (rest := []) rfl rfl rfl rfl rfl ?_
      refine x_aload_n (pc' := 1) rfl rfl rfl rfl rfl ?_
      refine x_gI (pc' := 4) (x := 2) rfl rfl rfl sI_s ?_
      refine x_reti rfl rfl ?_
      refine sK_i (pc' := 533) rfl ?_
      refine x_iload (pc' := 535) rfl rfl rfl ?_
      refine x_icmp (a' := 540) (pc' := 538) (z := true) rfl rfl rfl (by decide) (fun _ => ?_) (fun h => by cases h)
      refine x_goto (pc' := 2938) rfl rfl ?_
      refine x_iinc (pc' := 2941) (y := 7) (ls' := [_, _, _, _, _, _, _]) rfl rfl rfl rfl rfl ?_
      refine x_goto (pc' := 23) rfl rfl ?_
      refine x_iload (pc' := 25) rfl rfl rfl ?_
      refine x_aload_n (pc' := 26) rfl rfl rfl rfl rfl ?_
      refine x_alen (pc' := 27) (N := 7) rfl rfl rfl (Eq.trans rdNI (Eq.trans rdNthr (z_N_29_0 e))) (?_ : X _ _ _ (.inl 7 :: _) _ _)
      refine x_bipush (pc' := 29) rfl rfl ?_
      refine x_isub (pc' := 30) (z := 0) rfl rfl (by decide) ?_
      refine x_icmp (a' := 2944) (pc' := 33) (z := true) rfl rfl rfl (by decide) (fun _ => ?_) (fun h => by cases h)
      refine x_iconst (pc' := 2945) rfl rfl ?_
      refine x_retz (z := true) rfl rfl ?_
      exact Qp_ok e (p := 1) (q := 6) rfl rfl rfl rfl
set_option maxHeartbeats 4000000 in
set_option maxRecDepth 10000 in
theorem v_4_1_i_i {t : sT} {xs : Nat → Int32}
    (e : t = T16 7 xs)
    (hk : ((xs 0) &&& 63) = 4)
    (e0 : xs 1 = 1) :
    X 297 23 [.inr (.inr (29, (some 0))), .inr (.inr (11, (some 0))), .inr (.inr (12, (some 0))), .inr (.inr (23, (some 0))), .inl 0, sJk, sJk] [] t Qp := by
  refine x_iload (pc' := 25) rfl rfl rfl ?_
  refine x_aload_n (pc' := 26) rfl rfl rfl rfl rfl ?_
  refine x_alen (pc' := 27) (N := 7) rfl rfl rfl (z_N_29_0 e) (?_ : X _ _ _ (.inl 7 :: _) _ _)
  refine x_bipush (pc' := 29) rfl rfl ?_
  refine x_isub (pc' := 30) (z := 0) rfl rfl (by decide) ?_
  refine x_icmp (a' := 2944) (pc' := 33) (z := false) rfl rfl rfl (by decide) (fun h => by cases h) (fun _ => ?_)
  refine x_aload_n (pc' := 34) rfl rfl rfl rfl rfl ?_
  refine x_iload (pc' := 36) rfl rfl rfl ?_
  refine x_iald (pc' := 37) (N := 7) (x := (xs 0)) rfl rfl rfl (z_N_29_0 e) (io_in (p := 0) (N := 7) (by decide) (by decide)) (Eq.trans (congrArg (sA t 29 0) (nn_io (p := 0) (by decide))) (z_A_29_0_0 e)) ?_
  refine x_bipush (pc' := 39) rfl rfl ?_
  refine x_iand (pc' := 40) (z := ((xs 0) &&& 63)) rfl rfl rfl ?_
  refine x_switch (pc' := 483) rfl (by rw [hk]; decide) ?_
  refine x_aload_n (pc' := 484) rfl rfl rfl rfl rfl ?_
  refine x_aload_n (pc' := 485) rfl rfl rfl rfl rfl ?_
  refine x_iload (pc' := 487) rfl rfl rfl ?_
  refine x_iconst (pc' := 488) rfl rfl ?_
  refine x_iadd (pc' := 489) (z := 1) rfl rfl (by decide) ?_
  refine x_iald (pc' := 490) (N := 7) (x := 1) rfl rfl rfl (z_N_29_0 e) (io_in (p := 1) (N := 7) (by decide) (by decide)) (Eq.trans (congrArg (sA t 29 0) (nn_io (p := 1) (by decide))) (Eq.trans (z_A_29_0_1 e) e0)) ?_
  refine x_aload_n (pc' := 491) rfl rfl rfl rfl rfl ?_
  refine x_iload (pc' := 493) rfl rfl rfl ?_
  refine x_iconst (pc' := 494) rfl rfl ?_
  refine x_iadd (pc' := 495) (z := 2) rfl rfl (by decide) ?_
  refine x_iald (pc' := 496) (N := 7) (x := (xs 2)) rfl rfl rfl (z_N_29_0 e) (io_in (p := 2) (N := 7) (by decide) (by decide)) (Eq.trans (congrArg (sA t 29 0) (nn_io (p := 2) (by decide))) (z_A_29_0_2 e)) ?_
  refine x_aload_n (pc' := 497) rfl rfl rfl rfl rfl ?_
  refine x_iload (pc' := 499) rfl rfl rfl ?_
  refine x_iconst (pc' := 500) rfl rfl ?_
  refine x_iadd (pc' := 501) (z := 3) rfl rfl (by decide) ?_
  refine x_iald (pc' := 502) (N := 7) (x := (xs 3)) rfl rfl rfl (z_N_29_0 e) (io_in (p := 3) (N := 7) (by decide) (by decide)) (Eq.trans (congrArg (sA t 29 0) (nn_io (p := 3) (by decide))) (z_A_29_0_3 e)) ?_
  refine x_cs (ls0 := [_, _, _, _, sJk]) (rest := []) rfl rfl rfl rfl ?_
  refine x_aload_n (pc' := 1) rfl rfl rfl rfl rfl ?_
  refine x_iload_n (pc' := 2) rfl rfl rfl ?_
  refine x_iload_n (pc' := 3) rfl rfl rfl ?_
  refine x_iload_n (pc' := 4) rfl rfl rfl ?_
  refine x_cv (ls0 := [_, _, _, _, sJk]) (rest := []) rfl rfl rfl rfl rfl ?_
  refine x_aload_n (pc' := 1) rfl rfl rfl rfl rfl ?_
  refine x_iload_n (pc' := 2) rfl rfl rfl ?_
  refine x_cv (ls0 := [_, _]) (rest := []) rfl rfl rfl rfl rfl ?_
  refine x_iload_n (pc' := 1) rfl rfl rfl ?_
  refine x_if (a' := 16) (pc' := 4) (z := false) rfl rfl rfl (by decide) (fun h => by cases h) (fun _ => ?_)
  refine x_iload_n (pc' := 5) rfl rfl rfl ?_
  refine x_aload_n (pc' := 6) rfl rfl rfl rfl rfl ?_
  refine x_gR (pc' := 9) (r := (some 0)) rfl rfl rfl (z_R_704_0 e) ?_
  refine x_gR (pc' := 12) (r := (some 0)) rfl rfl rfl (z_R_320_0 e) ?_
  refine x_alen (pc' := 13) (N := 3) rfl rfl rfl (z_N_25_0 e) (?_ : X _ _ _ (.inl 3 :: _) _ _)
  refine x_icmp (a' := 27) (pc' := 16) (z := true) rfl rfl rfl (by decide) (fun _ => ?_) (fun h => by cases h)
  refine x_aload_n (pc' := 28) rfl rfl rfl rfl rfl ?_
  refine x_gR (pc' := 31) (r := (some 0)) rfl rfl rfl (z_R_704_0 e) ?_
  refine x_gR (pc' := 34) (r := (some 0)) rfl rfl rfl (z_R_320_0 e) ?_
  refine x_iload_n (pc' := 35) rfl rfl rfl ?_
  refine x_aald (pc' := 36) (N := 3) (k' := 2) (r := (some 1)) rfl rfl rfl (z_N_25_0 e) (io_in (p := 1) (N := 3) (by decide) (by decide)) (Eq.trans (congrArg (sE t 25 0) (nn_io (p := 1) (by decide))) (z_E_25_0_1 e)) ?_
  refine x_reta rfl rfl ?_
  refine sK_i (pc' := 5) rfl ?_
  refine x_astore (pc' := 7) (ls' := [_, _, _, _, _]) rfl rfl rfl rfl rfl ?_
  refine x_iload_n (pc' := 8) rfl rfl rfl ?_
  refine x_iconst (pc' := 9) rfl rfl ?_
  refine x_sipush (pc' := 12) rfl rfl ?_
  refine x_cs (ls0 := [_, _, _]) (rest := []) rfl rfl rfl rfl ?_
  refine x_iload_n (pc' := 1) rfl rfl rfl ?_
  refine x_iload_n (pc' := 2) rfl rfl rfl ?_
  refine x_icmp (a' := 10) (pc' := 5) (z := decide ((xs 2) < 1)) rfl rfl rfl rfl (fun q5 => ?_) (fun q5 => ?_)
  · refine x_throw rfl rfl ?_
    refine sK_n (by decide +kernel) rfl ?_
    refine sK_h (h := 14) (by decide +kernel) rfl ?_
    refine x_catch (pc' := 16) (ls' := [_, _, _, _, _]) rfl rfl rfl rfl ?_
    refine x_iconst (pc' := 17) rfl rfl ?_
    refine x_reti rfl rfl ?_
    refine sK_i (pc' := 505) rfl ?_
    refine x_istore (pc' := 507) (ls' := [_, _, _, _, _, _, _]) rfl rfl rfl rfl ?_
    refine x_aload_n (pc' := 508) rfl rfl rfl rfl rfl ?_
    refine x_aload_n (pc' := 509) rfl rfl rfl rfl rfl ?_
    refine x_iload (pc' := 511) rfl rfl rfl ?_
    refine x_iconst (pc' := 512) rfl rfl ?_
    refine x_iadd (pc' := 513) (z := 1) rfl rfl (by decide) ?_
    refine x_iald (pc' := 514) (N := 7) (x := 1) rfl rfl rfl (Eq.trans rdNthr (z_N_29_0 e)) (io_in (p := 1) (N := 7) (by decide) (by decide)) (Eq.trans (congrArg (sA (sThr t) 29 0) (nn_io (p := 1) (by decide))) (Eq.trans rdAthr (Eq.trans (z_A_29_0_1 e) e0))) ?_
    refine x_aload_n (pc' := 515) rfl rfl rfl rfl rfl ?_
    refine x_iload (pc' := 517) rfl rfl rfl ?_
    refine x_iconst (pc' := 518) rfl rfl ?_
    refine x_iadd (pc' := 519) (z := 2) rfl rfl (by decide) ?_
    refine x_iald (pc' := 520) (N := 7) (x := (xs 2)) rfl rfl rfl (Eq.trans rdNthr (z_N_29_0 e)) (io_in (p := 2) (N := 7) (by decide) (by decide)) (Eq.trans (congrArg (sA (sThr t) 29 0) (nn_io (p := 2) (by decide))) (Eq.trans rdAthr (z_A_29_0_2 e))) ?_
    refine x_aload_n (pc' := 521) rfl rfl rfl rfl rfl ?_
    refine x_iload (pc' := 523) rfl rfl rfl ?_
    refine x_iconst (pc' := 524) rfl rfl ?_
    refine x_iadd (pc' := 525) (z := 3) rfl rfl (by decide) ?_
    refine x_iald (pc' := 526) (N := 7) (x := (xs 3)) rfl rfl rfl (Eq.trans rdNthr (z_N_29_0 e)) (io_in (p := 3) (N := 7) (by decide) (by decide)) (Eq.trans (congrArg (sA (sThr t) 29 0) (nn_io (p := 3) (by decide))) (Eq.trans rdAthr (z_A_29_0_3 e))) ?_
    refine x_cv (ls0 := [_, _, _, _]) (rest := []) rfl rfl rfl rfl rfl ?_
    refine x_aload_n (pc' := 1) rfl rfl rfl rfl rfl ?_
    refine x_iload_n (pc' := 2) rfl rfl rfl ?_
    refine x_cs (ls0 := [_]) (rest := [_]) rfl rfl rfl rfl ?_
    refine x_iload_n (pc' := 1) rfl rfl rfl ?_
    refine x_iconst (pc' := 2) rfl rfl ?_
    refine x_iconst (pc' := 3) rfl rfl ?_
    refine x_cs (ls0 := [_, _, _]) (rest := []) rfl rfl rfl rfl ?_
    refine x_iload_n (pc' := 1) rfl rfl rfl ?_
    refine x_iload_n (pc' := 2) rfl rfl rfl ?_
    refine x_icmp (a' := 14) (pc' := 5) (z := false) rfl rfl rfl (by decide) (fun h => by cases h) (fun _ => ?_)
    refine x_iload_n (pc' := 6) rfl rfl rfl ?_
    refine x_iload_n (pc' := 7) rfl rfl rfl ?_
    refine x_icmp (a' := 14) (pc' := 10) (z := false) rfl rfl rfl (by decide) (fun h => by cases h) (fun _ => ?_)
    refine x_iconst (pc' := 11) rfl rfl ?_
    refine x_goto (pc' := 15) rfl rfl ?_
    refine x_retz (z := true) rfl rfl ?_
    refine sK_i (pc' := 6) rfl ?_
    refine x_retz (z := true) rfl rfl ?_
    refine sK_i (pc' := 5) rfl ?_
    refine x_if (a' := 12) (pc' := 8) (z := true) rfl rfl rfl (by decide) (fun _ => ?_) (fun h => by cases h)
    refine x_iload_n (pc' := 13) rfl rfl rfl ?_
    refine x_iconst (pc' := 14) rfl rfl ?_
    refine x_sipush (pc' := 17) rfl rfl ?_
    refine x_cs (ls0 := [_, _, _]) (rest := [_]) rfl rfl rfl rfl ?_
    refine x_iload_n (pc' := 1) rfl rfl rfl ?_
    refine x_iload_n (pc' := 2) rfl rfl rfl ?_
    refine x_icmp (a' := 14) (pc' := 5) (z := decide ((xs 2) < 1)) rfl rfl rfl rfl (fun _ => ?_) (fun h => absurd (of_decide_eq_true q5) (of_decide_eq_false h))
    refine x_iconst (pc' := 15) rfl rfl ?_
    refine x_retz (z := false) rfl rfl ?_
    refine sK_i (pc' := 20) rfl ?_
    refine x_if (a' := 38) (pc' := 23) (z := true) rfl rfl rfl (by decide) (fun _ => ?_) (fun h => by cases h)
    refine x_iconst (pc' := 39) rfl rfl ?_
    refine x_cv (ls0 := [_, _]) (rest := []) rfl rfl rfl rfl rfl ?_
    refine x_aload_n (pc' := 1) rfl rfl rfl rfl rfl ?_
    refine x_iload_n (pc' := 2) rfl rfl rfl ?_
    refine x_pI (pc' := 5) rfl rfl rfl ?_
    refine x_iload_n (pc' := 6) rfl rfl rfl ?_
    refine x_if (a' := 13) (pc' := 9) (z := true) rfl rfl rfl (by decide) (fun _ => ?_) (fun h => by cases h)
    refine x_iconst (pc' := 14) rfl rfl ?_
    refine x_retz (z := false) rfl rfl ?_
    refine sK_i (pc' := 42) rfl ?_
    refine x_if (a' := 59) (pc' := 45) (z := true) rfl rfl rfl (by decide) (fun _ => ?_) (fun h => by cases h)
    refine x_ret rfl ?_
    refine sK_v (pc' := 529) rfl ?_
    refine x_aload_n (pc' := 530) rfl rfl rfl rfl rfl ?_
    refine x_cv (ls0 := [_]) (rest := []) rfl rfl rfl rfl rfl ?_
    refine x_aload_n (pc' := 1) rfl rfl rfl rfl rfl ?_
    refine x_gI (pc' := 4) (x := 2) rfl rfl rfl sI_s ?_
    refine x_reti rfl rfl ?_
    refine sK_i (pc' := 533) rfl ?_
    refine x_iload (pc' := 535) rfl rfl rfl ?_
    refine x_icmp (a' := 540) (pc' := 538) (z := true) rfl rfl rfl (by decide) (fun _ => ?_) (fun h => by cases h)
    refine x_goto (pc' := 2938) rfl rfl ?_
    refine x_iinc (pc' := 2941) (y := 7) (ls' := [_, _, _, _, _, _, _]) rfl rfl rfl rfl rfl ?_
    refine x_goto (pc' := 23) rfl rfl ?_
    refine x_iload (pc' := 25) rfl rfl rfl ?_
    refine x_aload_n (pc' := 26) rfl rfl rfl rfl rfl ?_
    refine x_alen (pc' := 27) (N := 7) rfl rfl rfl (Eq.trans rdNI (Eq.trans rdNthr (z_N_29_0 e))) (?_ : X _ _ _ (.inl 7 :: _) _ _)
    refine x_bipush (pc' := 29) rfl rfl ?_
    refine x_isub (pc' := 30) (z := 0) rfl rfl (by decide) ?_
    refine x_icmp (a' := 2944) (pc' := 33) (z := true) rfl rfl rfl (by decide) (fun _ => ?_) (fun h => by cases h)
    refine x_iconst (pc' := 2945) rfl rfl ?_
    refine x_retz (z := true) rfl rfl ?_
    exact Qp_ok e (p := 1) (q := 6) rfl rfl rfl rfl
  · refine x_iload_n (pc' := 6) rfl rfl rfl ?_
    refine x_iload_n (pc' := 7) rfl rfl rfl ?_
    refine x_icmp_n (a' := 21) (pc' := 10) (z := decide (999 < (xs 2))) rfl rfl rfl (ik_le _ _) (fun q15 => ?_) (fun q15 => ?_)
    · refine x_ret rfl ?_
      refine sK_v (pc' := 15) rfl ?_
      refine x_iload_n (pc' := 16) rfl rfl rfl ?_
      refine x_iconst (pc' := 17) rfl rfl ?_
      refine x_sipush (pc' := 20) rfl rfl ?_
      refine x_cs (ls0 := [_, _, _]) (rest := []) rfl rfl rfl rfl ?_
      refine x_iload_n (pc' := 1) rfl rfl rfl ?_
      refine x_iload_n (pc' := 2) rfl rfl rfl ?_
      refine x_icmp (a' := 10) (pc' := 5) (z := decide ((xs 3) < 0)) rfl rfl rfl rfl (fun q16 => ?_) (fun q16 => ?_)
      · refine x_throw rfl rfl ?_
        refine sK_n (by decide +kernel) rfl ?_
        refine sK_h (h := 14) (by decide +kernel) rfl ?_
        refine x_catch (pc' := 16) (ls' := [_, _, _, _, _]) rfl rfl rfl rfl ?_
        refine x_iconst (pc' := 17) rfl rfl ?_
        refine x_reti rfl rfl ?_
        refine sK_i (pc' := 505) rfl ?_
        refine x_istore (pc' := 507) (ls' := [_, _, _, _, _, _, _]) rfl rfl rfl rfl ?_
        refine x_aload_n (pc' := 508) rfl rfl rfl rfl rfl ?_
        refine x_aload_n (pc' := 509) rfl rfl rfl rfl rfl ?_
        refine x_iload (pc' := 511) rfl rfl rfl ?_
        refine x_iconst (pc' := 512) rfl rfl ?_
        refine x_iadd (pc' := 513) (z := 1) rfl rfl (by decide) ?_
        refine x_iald (pc' := 514) (N := 7) (x := 1) rfl rfl rfl (Eq.trans rdNthr (z_N_29_0 e)) (io_in (p := 1) (N := 7) (by decide) (by decide)) (Eq.trans (congrArg (sA (sThr t) 29 0) (nn_io (p := 1) (by decide))) (Eq.trans rdAthr (Eq.trans (z_A_29_0_1 e) e0))) ?_
        refine x_aload_n (pc' := 515) rfl rfl rfl rfl rfl ?_
        refine x_iload (pc' := 517) rfl rfl rfl ?_
        refine x_iconst (pc' := 518) rfl rfl ?_
        refine x_iadd (pc' := 519) (z := 2) rfl rfl (by decide) ?_
        refine x_iald (pc' := 520) (N := 7) (x := (xs 2)) rfl rfl rfl (Eq.trans rdNthr (z_N_29_0 e)) (io_in (p := 2) (N := 7) (by decide) (by decide)) (Eq.trans (congrArg (sA (sThr t) 29 0) (nn_io (p := 2) (by decide))) (Eq.trans rdAthr (z_A_29_0_2 e))) ?_
        refine x_aload_n (pc' := 521) rfl rfl rfl rfl rfl ?_
        refine x_iload (pc' := 523) rfl rfl rfl ?_
        refine x_iconst (pc' := 524) rfl rfl ?_
        refine x_iadd (pc' := 525) (z := 3) rfl rfl (by decide) ?_
        refine x_iald (pc' := 526) (N := 7) (x := (xs 3)) rfl rfl rfl (Eq.trans rdNthr (z_N_29_0 e)) (io_in (p := 3) (N := 7) (by decide) (by decide)) (Eq.trans (congrArg (sA (sThr t) 29 0) (nn_io (p := 3) (by decide))) (Eq.trans rdAthr (z_A_29_0_3 e))) ?_
        refine x_cv (ls0 := [_, _, _, _]) (rest := []) rfl rfl rfl rfl rfl ?_
        refine x_aload_n (pc' := 1) rfl rfl rfl rfl rfl ?_
        refine x_iload_n (pc' := 2) rfl rfl rfl ?_
        refine x_cs (ls0 := [_]) (rest := [_]) rfl rfl rfl rfl ?_
        refine x_iload_n (pc' := 1) rfl rfl rfl ?_
        refine x_iconst (pc' := 2) rfl rfl ?_
        refine x_iconst (pc' := 3) rfl rfl ?_
        refine x_cs (ls0 := [_, _, _]) (rest := []) rfl rfl rfl rfl ?_
        refine x_iload_n (pc' := 1) rfl rfl rfl ?_
        refine x_iload_n (pc' := 2) rfl rfl rfl ?_
        refine x_icmp (a' := 14) (pc' := 5) (z := false) rfl rfl rfl (by decide) (fun h => by cases h) (fun _ => ?_)
        refine x_iload_n (pc' := 6) rfl rfl rfl ?_
        refine x_iload_n (pc' := 7) rfl rfl rfl ?_
        refine x_icmp (a' := 14) (pc' := 10) (z := false) rfl rfl rfl (by decide) (fun h => by cases h) (fun _ => ?_)
        refine x_iconst (pc' := 11) rfl rfl ?_
        refine x_goto (pc' := 15) rfl rfl ?_
        refine x_retz (z := true) rfl rfl ?_
        refine sK_i (pc' := 6) rfl ?_
        refine x_retz (z := true) rfl rfl ?_
        refine sK_i (pc' := 5) rfl ?_
        refine x_if (a' := 12) (pc' := 8) (z := true) rfl rfl rfl (by decide) (fun _ => ?_) (fun h => by cases h)
        refine x_iload_n (pc' := 13) rfl rfl rfl ?_
        refine x_iconst (pc' := 14) rfl rfl ?_
        refine x_sipush (pc' := 17) rfl rfl ?_
        refine x_cs (ls0 := [_, _, _]) (rest := [_]) rfl rfl rfl rfl ?_
        refine x_iload_n (pc' := 1) rfl rfl rfl ?_
        refine x_iload_n (pc' := 2) rfl rfl rfl ?_
        refine x_icmp (a' := 14) (pc' := 5) (z := decide ((xs 2) < 1)) rfl rfl rfl rfl (fun h => absurd (of_decide_eq_true h) (of_decide_eq_false q5)) (fun _ => ?_)
        refine x_iload_n (pc' := 6) rfl rfl rfl ?_
        refine x_iload_n (pc' := 7) rfl rfl rfl ?_
        refine x_icmp (a' := 14) (pc' := 10) (z := decide (999 < (xs 2))) rfl rfl rfl rfl (fun h => absurd (of_decide_eq_true h) (of_decide_eq_false q15)) (fun _ => ?_)
        refine x_iconst (pc' := 11) rfl rfl ?_
        refine x_goto (pc' := 15) rfl rfl ?_
        refine x_retz (z := true) rfl rfl ?_
        refine sK_i (pc' := 20) rfl ?_
        refine x_if (a' := 38) (pc' := 23) (z := false) rfl rfl rfl (by decide) (fun h => by cases h) (fun _ => ?_)
        refine x_iload_n (pc' := 24) rfl rfl rfl ?_
        refine x_iconst (pc' := 25) rfl rfl ?_
        refine x_sipush (pc' := 28) rfl rfl ?_
        refine x_cs (ls0 := [_, _, _]) (rest := [_]) rfl rfl rfl rfl ?_
        refine x_iload_n (pc' := 1) rfl rfl rfl ?_
        refine x_iload_n (pc' := 2) rfl rfl rfl ?_
        refine x_icmp (a' := 14) (pc' := 5) (z := decide ((xs 3) < 0)) rfl rfl rfl rfl (fun _ => ?_) (fun h => absurd (of_decide_eq_true q16) (of_decide_eq_false h))
        refine x_iconst (pc' := 15) rfl rfl ?_
        refine x_retz (z := false) rfl rfl ?_
        refine sK_i (pc' := 31) rfl ?_
        refine x_if (a' := 38) (pc' := 34) (z := true) rfl rfl rfl (by decide) (fun _ => ?_) (fun h => by cases h)
        refine x_iconst (pc' := 39) rfl rfl ?_
        refine x_cv (ls0 := [_, _]) (rest := []) rfl rfl rfl rfl rfl ?_
        refine x_aload_n (pc' := 1) rfl rfl rfl rfl rfl ?_
        refine x_iload_n (pc' := 2) rfl rfl rfl ?_
        refine x_pI (pc' := 5) rfl rfl rfl ?_
        refine x_iload_n (pc' := 6) rfl rfl rfl ?_
        refine x_if (a' := 13) (pc' := 9) (z := true) rfl rfl rfl (by decide) (fun _ => ?_) (fun h => by cases h)
        refine x_iconst (pc' := 14) rfl rfl ?_
        refine x_retz (z := false) rfl rfl ?_
        refine sK_i (pc' := 42) rfl ?_
        refine x_if (a' := 59) (pc' := 45) (z := true) rfl rfl rfl (by decide) (fun _ => ?_) (fun h => by cases h)
        refine x_ret rfl ?_
        refine sK_v (pc' := 529) rfl ?_
        refine x_aload_n (pc' := 530) rfl rfl rfl rfl rfl ?_
        refine x_cv (ls0 := [_]) (rest := []) rfl rfl rfl rfl rfl ?_
        refine x_aload_n (pc' := 1) rfl rfl rfl rfl rfl ?_
        refine x_gI (pc' := 4) (x := 2) rfl rfl rfl sI_s ?_
        refine x_reti rfl rfl ?_
        refine sK_i (pc' := 533) rfl ?_
        refine x_iload (pc' := 535) rfl rfl rfl ?_
        refine x_icmp (a' := 540) (pc' := 538) (z := true) rfl rfl rfl (by decide) (fun _ => ?_) (fun h => by cases h)
        refine x_goto (pc' := 2938) rfl rfl ?_
        refine x_iinc (pc' := 2941) (y := 7) (ls' := [_, _, _, _, _, _, _]) rfl rfl rfl rfl rfl ?_
        refine x_goto (pc' := 23) rfl rfl ?_
        refine x_iload (pc' := 25) rfl rfl rfl ?_
        refine x_aload_n (pc' := 26) rfl rfl rfl rfl rfl ?_
        refine x_alen (pc' := 27) (N := 7) rfl rfl rfl (Eq.trans rdNI (Eq.trans rdNthr (z_N_29_0 e))) (?_ : X _ _ _ (.inl 7 :: _) _ _)
        refine x_bipush (pc' := 29) rfl rfl ?_
        refine x_isub (pc' := 30) (z := 0) rfl rfl (by decide) ?_
        refine x_icmp (a' := 2944) (pc' := 33) (z := true) rfl rfl rfl (by decide) (fun _ => ?_) (fun h => by cases h)
        refine x_iconst (pc' := 2945) rfl rfl ?_
        refine x_retz (z := true) rfl rfl ?_
        exact Qp_ok e (p := 1) (q := 6) rfl rfl rfl rfl
      · refine x_iload_n (pc' := 6) rfl rfl rfl ?_
        refine x_iload_n (pc' := 7) rfl rfl rfl ?_
        refine x_icmp_n (a' := 21) (pc' := 10) (z := decide (999 < (xs 3))) rfl rfl rfl (ik_le _ _) (fun q29 => ?_) (fun q29 => ?_)
        · refine x_ret rfl ?_
          refine sK_v (pc' := 23) rfl ?_
          refine x_aload (pc' := 25) rfl rfl rfl rfl rfl ?_
          refine x_iload_n (pc' := 26) rfl rfl rfl ?_
          refine x_pI (pc' := 29) rfl rfl rfl ?_
          refine x_aload (pc' := 31) rfl rfl rfl rfl rfl ?_
          refine x_iload_n (pc' := 32) rfl rfl rfl ?_
          refine x_pI (pc' := 35) rfl rfl rfl ?_
          refine x_ret rfl ?_
          refine sK_v (pc' := 7) rfl ?_
          refine x_goto (pc' := 18) rfl rfl ?_
          refine x_iconst (pc' := 19) rfl rfl ?_
          refine x_reti rfl rfl ?_
          refine sK_i (pc' := 505) rfl ?_
          refine x_istore (pc' := 507) (ls' := [_, _, _, _, _, _, _]) rfl rfl rfl rfl ?_
          refine x_aload_n (pc' := 508) rfl rfl rfl rfl rfl ?_
          refine x_aload_n (pc' := 509) rfl rfl rfl rfl rfl ?_
          refine x_iload (pc' := 511) rfl rfl rfl ?_
          refine x_iconst (pc' := 512) rfl rfl ?_
          refine x_iadd (pc' := 513) (z := 1) rfl rfl (by decide) ?_
          refine x_iald (pc' := 514) (N := 7) (x := 1) rfl rfl rfl (Eq.trans rdNI (Eq.trans rdNI (z_N_29_0 e))) (io_in (p := 1) (N := 7) (by decide) (by decide)) (Eq.trans (congrArg (sA (sIw (sIw t 130 1 (xs 2)) 131 1 (xs 3)) 29 0) (nn_io (p := 1) (by decide))) (Eq.trans rdAI (Eq.trans rdAI (Eq.trans (z_A_29_0_1 e) e0)))) ?_
          refine x_aload_n (pc' := 515) rfl rfl rfl rfl rfl ?_
          refine x_iload (pc' := 517) rfl rfl rfl ?_
          refine x_iconst (pc' := 518) rfl rfl ?_
          refine x_iadd (pc' := 519) (z := 2) rfl rfl (by decide) ?_
          refine x_iald (pc' := 520) (N := 7) (x := (xs 2)) rfl rfl rfl (Eq.trans rdNI (Eq.trans rdNI (z_N_29_0 e))) (io_in (p := 2) (N := 7) (by decide) (by decide)) (Eq.trans (congrArg (sA (sIw (sIw t 130 1 (xs 2)) 131 1 (xs 3)) 29 0) (nn_io (p := 2) (by decide))) (Eq.trans rdAI (Eq.trans rdAI (z_A_29_0_2 e)))) ?_
          refine x_aload_n (pc' := 521) rfl rfl rfl rfl rfl ?_
          refine x_iload (pc' := 523) rfl rfl rfl ?_
          refine x_iconst (pc' := 524) rfl rfl ?_
          refine x_iadd (pc' := 525) (z := 3) rfl rfl (by decide) ?_
          refine x_iald (pc' := 526) (N := 7) (x := (xs 3)) rfl rfl rfl (Eq.trans rdNI (Eq.trans rdNI (z_N_29_0 e))) (io_in (p := 3) (N := 7) (by decide) (by decide)) (Eq.trans (congrArg (sA (sIw (sIw t 130 1 (xs 2)) 131 1 (xs 3)) 29 0) (nn_io (p := 3) (by decide))) (Eq.trans rdAI (Eq.trans rdAI (z_A_29_0_3 e)))) ?_
          refine x_cv (ls0 := [_, _, _, _]) (rest := []) rfl rfl rfl rfl rfl ?_
          refine x_aload_n (pc' := 1) rfl rfl rfl rfl rfl ?_
          refine x_iload_n (pc' := 2) rfl rfl rfl ?_
          refine x_cs (ls0 := [_]) (rest := [_]) rfl rfl rfl rfl ?_
          refine x_iload_n (pc' := 1) rfl rfl rfl ?_
          refine x_iconst (pc' := 2) rfl rfl ?_
          refine x_iconst (pc' := 3) rfl rfl ?_
          refine x_cs (ls0 := [_, _, _]) (rest := []) rfl rfl rfl rfl ?_
          refine x_iload_n (pc' := 1) rfl rfl rfl ?_
          refine x_iload_n (pc' := 2) rfl rfl rfl ?_
          refine x_icmp (a' := 14) (pc' := 5) (z := false) rfl rfl rfl (by decide) (fun h => by cases h) (fun _ => ?_)
          refine x_iload_n (pc' := 6) rfl rfl rfl ?_
          refine x_iload_n (pc' := 7) rfl rfl rfl ?_
          refine x_icmp (a' := 14) (pc' := 10) (z := false) rfl rfl rfl (by decide) (fun h => by cases h) (fun _ => ?_)
          refine x_iconst (pc' := 11) rfl rfl ?_
          refine x_goto (pc' := 15) rfl rfl ?_
          refine x_retz (z := true) rfl rfl ?_
          refine sK_i (pc' := 6) rfl ?_
          refine x_retz (z := true) rfl rfl ?_
          refine sK_i (pc' := 5) rfl ?_
          refine x_if (a' := 12) (pc' := 8) (z := true) rfl rfl rfl (by decide) (fun _ => ?_) (fun h => by cases h)
          refine x_iload_n (pc' := 13) rfl rfl rfl ?_
          refine x_iconst (pc' := 14) rfl rfl ?_
          refine x_sipush (pc' := 17) rfl rfl ?_
          refine x_cs (ls0 := [_, _, _]) (rest := [_]) rfl rfl rfl rfl ?_
          refine x_iload_n (pc' := 1) rfl rfl rfl ?_
          refine x_iload_n (pc' := 2) rfl rfl rfl ?_
          refine x_icmp (a' := 14) (pc' := 5) (z := decide ((xs 2) < 1)) rfl rfl rfl rfl (fun h => absurd (of_decide_eq_true h) (of_decide_eq_false q5)) (fun _ => ?_)
          refine x_iload_n (pc' := 6) rfl rfl rfl ?_
          refine x_iload_n (pc' := 7) rfl rfl rfl ?_
          refine x_icmp (a' := 14) (pc' := 10) (z := decide (999 < (xs 2))) rfl rfl rfl rfl (fun h => absurd (of_decide_eq_true h) (of_decide_eq_false q15)) (fun _ => ?_)
          refine x_iconst (pc' := 11) rfl rfl ?_
          refine x_goto (pc' := 15) rfl rfl ?_
          refine x_retz (z := true) rfl rfl ?_
          refine sK_i (pc' := 20) rfl ?_
          refine x_if (a' := 38) (pc' := 23) (z := false) rfl rfl rfl (by decide) (fun h => by cases h) (fun _ => ?_)
          refine x_iload_n (pc' := 24) rfl rfl rfl ?_
          refine x_iconst (pc' := 25) rfl rfl ?_
          refine x_sipush (pc' := 28) rfl rfl ?_
          refine x_cs (ls0 := [_, _, _]) (rest := [_]) rfl rfl rfl rfl ?_
          refine x_iload_n (pc' := 1) rfl rfl rfl ?_
          refine x_iload_n (pc' := 2) rfl rfl rfl ?_
          refine x_icmp (a' := 14) (pc' := 5) (z := decide ((xs 3) < 0)) rfl rfl rfl rfl (fun h => absurd (of_decide_eq_true h) (of_decide_eq_false q16)) (fun _ => ?_)
          refine x_iload_n (pc' := 6) rfl rfl rfl ?_
          refine x_iload_n (pc' := 7) rfl rfl rfl ?_
          refine x_icmp (a' := 14) (pc' := 10) (z := decide (999 < (xs 3))) rfl rfl rfl rfl (fun h => absurd (of_decide_eq_true h) (of_decide_eq_false q29)) (fun _ => ?_)
          refine x_iconst (pc' := 11) rfl rfl ?_
          refine x_goto (pc' := 15) rfl rfl ?_
          refine x_retz (z := true) rfl rfl ?_
          refine sK_i (pc' := 31) rfl ?_
          refine x_if (a' := 38) (pc' := 34) (z := false) rfl rfl rfl (by decide) (fun h => by cases h) (fun _ => ?_)
          refine x_iconst (pc' := 35) rfl rfl ?_
          refine x_goto (pc' := 39) rfl rfl ?_
          refine x_cv (ls0 := [_, _]) (rest := []) rfl rfl rfl rfl rfl ?_
          refine x_aload_n (pc' := 1) rfl rfl rfl rfl rfl ?_
          refine x_iload_n (pc' := 2) rfl rfl rfl ?_
          refine x_pI (pc' := 5) rfl rfl rfl ?_
          refine x_iload_n (pc' := 6) rfl rfl rfl ?_
          refine x_if (a' := 13) (pc' := 9) (z := false) rfl rfl rfl (by decide) (fun h => by cases h) (fun _ => ?_)
          refine x_iconst (pc' := 10) rfl rfl ?_
          refine x_goto (pc' := 14) rfl rfl ?_
          refine x_retz (z := true) rfl rfl ?_
          refine sK_i (pc' := 42) rfl ?_
          refine x_if (a' := 59) (pc' := 45) (z := false) rfl rfl rfl (by decide) (fun h => by cases h) (fun _ => ?_)
          refine x_aload_n (pc' := 46) rfl rfl rfl rfl rfl ?_
          refine x_gR (pc' := 49) (r := (some 2)) rfl rfl rfl (Eq.trans rdRI (Eq.trans rdRI (Eq.trans rdRI (z_R_772_0 e)))) ?_
          refine x_iload_n (pc' := 50) rfl rfl rfl ?_
          refine x_iload_n (pc' := 51) rfl rfl rfl ?_
          refine x_iast (pc' := 52) (N := 3) (p := 1) rfl rfl rfl (Eq.trans rdNI (Eq.trans rdNI (Eq.trans rdNI (z_N_21_2 e)))) (io_in (p := 1) (N := 3) (by decide) (by decide)) (nn_io (p := 1) (by decide)) ?_
          refine x_aload_n (pc' := 53) rfl rfl rfl rfl rfl ?_
          refine x_gR (pc' := 56) (r := (some 3)) rfl rfl rfl (Eq.trans rdRA (Eq.trans rdRI (Eq.trans rdRI (Eq.trans rdRI (z_R_773_0 e))))) ?_
          refine x_iload_n (pc' := 57) rfl rfl rfl ?_
          refine x_iload_n (pc' := 58) rfl rfl rfl ?_
          refine x_iast (pc' := 59) (N := 3) (p := 1) rfl rfl rfl (Eq.trans rdNA (Eq.trans rdNI (Eq.trans rdNI (Eq.trans rdNI (z_N_21_3 e))))) (io_in (p := 1) (N := 3) (by decide) (by decide)) (nn_io (p := 1) (by decide)) ?_
          refine x_ret rfl ?_
          refine sK_v (pc' := 529) rfl ?_
          refine x_aload_n (pc' := 530) rfl rfl rfl rfl rfl ?_
          refine x_cv (ls0 := [_]) (rest := []) rfl rfl rfl rfl rfl ?_
          refine x_aload_n (pc' := 1) rfl rfl rfl rfl rfl ?_
          refine x_gI (pc' := 4) (x := 0) rfl rfl rfl (Eq.trans rdIA (Eq.trans rdIA sI_s)) ?_
          refine x_reti rfl rfl ?_
          refine sK_i (pc' := 533) rfl ?_
          refine x_iload (pc' := 535) rfl rfl rfl ?_
          refine x_icmp (a' := 540) (pc' := 538) (z := true) rfl rfl rfl (by decide) (fun _ => ?_) (fun h => by cases h)
          refine x_goto (pc' := 2938) rfl rfl ?_
          refine x_iinc (pc' := 2941) (y := 7) (ls' := [_, _, _, _, _, _, _]) rfl rfl rfl rfl rfl ?_
          refine x_goto (pc' := 23) rfl rfl ?_
          refine x_iload (pc' := 25) rfl rfl rfl ?_
          refine x_aload_n (pc' := 26) rfl rfl rfl rfl rfl ?_
          refine x_alen (pc' := 27) (N := 7) rfl rfl rfl (Eq.trans rdNA (Eq.trans rdNA (Eq.trans rdNI (Eq.trans rdNI (Eq.trans rdNI (z_N_29_0 e)))))) (?_ : X _ _ _ (.inl 7 :: _) _ _)
          refine x_bipush (pc' := 29) rfl rfl ?_
          refine x_isub (pc' := 30) (z := 0) rfl rfl (by decide) ?_
          refine x_icmp (a' := 2944) (pc' := 33) (z := true) rfl rfl rfl (by decide) (fun _ => ?_) (fun h => by cases h)
          refine x_iconst (pc' := 2945) rfl rfl ?_
          refine x_retz (z := true) rfl rfl ?_
          exact Qp_ok e (p := 0) (q := 0) rfl rfl rfl rfl
        · refine x_throw rfl rfl ?_
          refine sK_n (by decide +kernel) rfl ?_
          refine sK_h (h := 14) (by decide +kernel) rfl ?_
          refine x_catch (pc' := 16) (ls' := [_, _, _, _, _]) rfl rfl rfl rfl ?_
          refine x_iconst (pc' := 17) rfl rfl ?_
          refine x_reti rfl rfl ?_
          refine sK_i (pc' := 505) rfl ?_
          refine x_istore (pc' := 507) (ls' := [_, _, _, _, _, _, _]) rfl rfl rfl rfl ?_
          refine x_aload_n (pc' := 508) rfl rfl rfl rfl rfl ?_
          refine x_aload_n (pc' := 509) rfl rfl rfl rfl rfl ?_
          refine x_iload (pc' := 511) rfl rfl rfl ?_
          refine x_iconst (pc' := 512) rfl rfl ?_
          refine x_iadd (pc' := 513) (z := 1) rfl rfl (by decide) ?_
          refine x_iald (pc' := 514) (N := 7) (x := 1) rfl rfl rfl (Eq.trans rdNthr (z_N_29_0 e)) (io_in (p := 1) (N := 7) (by decide) (by decide)) (Eq.trans (congrArg (sA (sThr t) 29 0) (nn_io (p := 1) (by decide))) (Eq.trans rdAthr (Eq.trans (z_A_29_0_1 e) e0))) ?_
          refine x_aload_n (pc' := 515) rfl rfl rfl rfl rfl ?_
          refine x_iload (pc' := 517) rfl rfl rfl ?_
          refine x_iconst (pc' := 518) rfl rfl ?_
          refine x_iadd (pc' := 519) (z := 2) rfl rfl (by decide) ?_
          refine x_iald (pc' := 520) (N := 7) (x := (xs 2)) rfl rfl rfl (Eq.trans rdNthr (z_N_29_0 e)) (io_in (p := 2) (N := 7) (by decide) (by decide)) (Eq.trans (congrArg (sA (sThr t) 29 0) (nn_io (p := 2) (by decide))) (Eq.trans rdAthr (z_A_29_0_2 e))) ?_
          refine x_aload_n (pc' := 521) rfl rfl rfl rfl rfl ?_
          refine x_iload (pc' := 523) rfl rfl rfl ?_
          refine x_iconst (pc' := 524) rfl rfl ?_
          refine x_iadd (pc' := 525) (z := 3) rfl rfl (by decide) ?_
          refine x_iald (pc' := 526) (N := 7) (x := (xs 3)) rfl rfl rfl (Eq.trans rdNthr (z_N_29_0 e)) (io_in (p := 3) (N := 7) (by decide) (by decide)) (Eq.trans (congrArg (sA (sThr t) 29 0) (nn_io (p := 3) (by decide))) (Eq.trans rdAthr (z_A_29_0_3 e))) ?_
          refine x_cv (ls0 := [_, _, _, _]) (rest := []) rfl rfl rfl rfl rfl ?_
          refine x_aload_n (pc' := 1) rfl rfl rfl rfl rfl ?_
          refine x_iload_n (pc' := 2) rfl rfl rfl ?_
          refine x_cs (ls0 := [_]) (rest := [_]) rfl rfl rfl rfl ?_
          refine x_iload_n (pc' := 1) rfl rfl rfl ?_
          refine x_iconst (pc' := 2) rfl rfl ?_
          refine x_iconst (pc' := 3) rfl rfl ?_
          refine x_cs (ls0 := [_, _, _]) (rest := []) rfl rfl rfl rfl ?_
          refine x_iload_n (pc' := 1) rfl rfl rfl ?_
          refine x_iload_n (pc' := 2) rfl rfl rfl ?_
          refine x_icmp (a' := 14) (pc' := 5) (z := false) rfl rfl rfl (by decide) (fun h => by cases h) (fun _ => ?_)
          refine x_iload_n (pc' := 6) rfl rfl rfl ?_
          refine x_iload_n (pc' := 7) rfl rfl rfl ?_
          refine x_icmp (a' := 14) (pc' := 10) (z := false) rfl rfl rfl (by decide) (fun h => by cases h) (fun _ => ?_)
          refine x_iconst (pc' := 11) rfl rfl ?_
          refine x_goto (pc' := 15) rfl rfl ?_
          refine x_retz (z := true) rfl rfl ?_
          refine sK_i (pc' := 6) rfl ?_
          refine x_retz (z := true) rfl rfl ?_
          refine sK_i (pc' := 5) rfl ?_
          refine x_if (a' := 12) (pc' := 8) (z := true) rfl rfl rfl (by decide) (fun _ => ?_) (fun h => by cases h)
          refine x_iload_n (pc' := 13) rfl rfl rfl ?_
          refine x_iconst (pc' := 14) rfl rfl ?_
          refine x_sipush (pc' := 17) rfl rfl ?_
          refine x_cs (ls0 := [_, _, _]) (rest := [_]) rfl rfl rfl rfl ?_
          refine x_iload_n (pc' := 1) rfl rfl rfl ?_
          refine x_iload_n (pc' := 2) rfl rfl rfl ?_
          refine x_icmp (a' := 14) (pc' := 5) (z := decide ((xs 2) < 1)) rfl rfl rfl rfl (fun h => absurd (of_decide_eq_true h) (of_decide_eq_false q5)) (fun _ => ?_)
          refine x_iload_n (pc' := 6) rfl rfl rfl ?_
          refine x_iload_n (pc' := 7) rfl rfl rfl ?_
          refine x_icmp (a' := 14) (pc' := 10) (z := decide (999 < (xs 2))) rfl rfl rfl rfl (fun h => absurd (of_decide_eq_true h) (of_decide_eq_false q15)) (fun _ => ?_)
          refine x_iconst (pc' := 11) rfl rfl ?_
          refine x_goto (pc' := 15) rfl rfl ?_
          refine x_retz (z := true) rfl rfl ?_
          refine sK_i (pc' := 20) rfl ?_
          refine x_if (a' := 38) (pc' := 23) (z := false) rfl rfl rfl (by decide) (fun h => by cases h) (fun _ => ?_)
          refine x_iload_n (pc' := 24) rfl rfl rfl ?_
          refine x_iconst (pc' := 25) rfl rfl ?_
          refine x_sipush (pc' := 28) rfl rfl ?_
          refine x_cs (ls0 := [_, _, _]) (rest := [_]) rfl rfl rfl rfl ?_
          refine x_iload_n (pc' := 1) rfl rfl rfl ?_
          refine x_iload_n (pc' := 2) rfl rfl rfl ?_
          refine x_icmp (a' := 14) (pc' := 5) (z := decide ((xs 3) < 0)) rfl rfl rfl rfl (fun h => absurd (of_decide_eq_true h) (of_decide_eq_false q16)) (fun _ => ?_)
          refine x_iload_n (pc' := 6) rfl rfl rfl ?_
          refine x_iload_n (pc' := 7) rfl rfl rfl ?_
          refine x_icmp (a' := 14) (pc' := 10) (z := decide (999 < (xs 3))) rfl rfl rfl rfl (fun _ => ?_) (fun h => absurd (of_decide_eq_true q29) (of_decide_eq_false h))
          refine x_iconst (pc' := 15) rfl rfl ?_
          refine x_retz (z := false) rfl rfl ?_
          refine sK_i (pc' := 31) rfl ?_
          refine x_if (a' := 38) (pc' := 34) (z := true) rfl rfl rfl (by decide) (fun _ => ?_) (fun h => by cases h)
          refine x_iconst (pc' := 39) rfl rfl ?_
          refine x_cv (ls0 := [_, _]) (rest := []) rfl rfl rfl rfl rfl ?_
          refine x_aload_n (pc' := 1) rfl rfl rfl rfl rfl ?_
          refine x_iload_n (pc' := 2) rfl rfl rfl ?_
          refine x_pI (pc' := 5) rfl rfl rfl ?_
          refine x_iload_n (pc' := 6) rfl rfl rfl ?_
          refine x_if (a' := 13) (pc' := 9) (z := true) rfl rfl rfl (by decide) (fun _ => ?_) (fun h => by cases h)
          refine x_iconst (pc' := 14) rfl rfl ?_
          refine x_retz (z := false) rfl rfl ?_
          refine sK_i (pc' := 42) rfl ?_
          refine x_if (a' := 59) (pc' := 45) (z := true) rfl rfl rfl (by decide) (fun _ => ?_) (fun h => by cases h)
          refine x_ret rfl ?_
          refine sK_v (pc' := 529) rfl ?_
          refine x_aload_n (pc' := 530) rfl rfl rfl rfl rfl ?_
          refine x_cv (ls0 := [_]) (rest := []) rfl rfl rfl rfl rfl ?_
          refine x_aload_n (pc' := 1) rfl rfl rfl rfl rfl ?_
          refine x_gI (pc' := 4) (x := 2) rfl rfl rfl sI_s ?_
          refine x_reti rfl rfl ?_
          refine sK_i (pc' := 533) rfl ?_
          refine x_iload (pc' := 535) rfl rfl rfl ?_
          refine x_icmp (a' := 540) (pc' := 538) (z := true) rfl rfl rfl (by decide) (fun _ => ?_) (fun h => by cases h)
          refine x_goto (pc' := 2938) rfl rfl ?_
          refine x_iinc (pc' := 2941) (y := 7) (ls' := [_, _, _, _, _, _, _]) rfl rfl rfl rfl rfl ?_
          refine x_goto (pc' := 23) rfl rfl ?_
          refine x_iload (pc' := 25) rfl rfl rfl ?_
          refine x_aload_n (pc' := 26) rfl rfl rfl rfl rfl ?_
          refine x_alen (pc' := 27) (N := 7) rfl rfl rfl (Eq.trans rdNI (Eq.trans rdNthr (z_N_29_0 e))) (?_ : X _ _ _ (.inl 7 :: _) _ _)
          refine x_bipush (pc' := 29) rfl rfl ?_
          refine x_isub (pc' := 30) (z := 0) rfl rfl (by decide) ?_
          refine x_icmp (a' := 2944) (pc' := 33) (z := true) rfl rfl rfl (by decide) (fun _ => ?_) (fun h => by cases h)
          refine x_iconst (pc' := 2945) rfl rfl ?_
          refine x_retz (z := true) rfl rfl ?_
          exact Qp_ok e (p := 1) (q := 6) rfl rfl rfl rfl
    · refine x_throw rfl rfl ?_
      refine sK_n (by decide +kernel) rfl ?_
      refine sK_h (h := 14) (by decide +kernel) rfl ?_
      refine x_catch (pc' := 16) (ls' := [_, _, _, _, _]) rfl rfl rfl rfl ?_
      refine x_iconst (pc' := 17) rfl rfl ?_
      refine x_reti rfl rfl ?_
      refine sK_i (pc' := 505) rfl ?_
      refine x_istore (pc' := 507) (ls' := [_, _, _, _, _, _, _]) rfl rfl rfl rfl ?_
      refine x_aload_n (pc' := 508) rfl rfl rfl rfl rfl ?_
      refine x_aload_n (pc' := 509) rfl rfl rfl rfl rfl ?_
      refine x_iload (pc' := 511) rfl rfl rfl ?_
      refine x_iconst (pc' := 512) rfl rfl ?_
      refine x_iadd (pc' := 513) (z := 1) rfl rfl (by decide) ?_
      refine x_iald (pc' := 514) (N := 7) (x := 1) rfl rfl rfl (Eq.trans rdNthr (z_N_29_0 e)) (io_in (p := 1) (N := 7) (by decide) (by decide)) (Eq.trans (congrArg (sA (sThr t) 29 0) (nn_io (p := 1) (by decide))) (Eq.trans rdAthr (Eq.trans (z_A_29_0_1 e) e0))) ?_
      refine x_aload_n (pc' := 515) rfl rfl rfl rfl rfl ?_
      refine x_iload (pc' := 517) rfl rfl rfl ?_
      refine x_iconst (pc' := 518) rfl rfl ?_
      refine x_iadd (pc' := 519) (z := 2) rfl rfl (by decide) ?_
      refine x_iald (pc' := 520) (N := 7) (x := (xs 2)) rfl rfl rfl (Eq.trans rdNthr (z_N_29_0 e)) (io_in (p := 2) (N := 7) (by decide) (by decide)) (Eq.trans (congrArg (sA (sThr t) 29 0) (nn_io (p := 2) (by decide))) (Eq.trans rdAthr (z_A_29_0_2 e))) ?_
      refine x_aload_n (pc' := 521) rfl rfl rfl rfl rfl ?_
      refine x_iload (pc' := 523) rfl rfl rfl ?_
      refine x_iconst (pc' := 524) rfl rfl ?_
      refine x_iadd (pc' := 525) (z := 3) rfl rfl (by decide) ?_
      refine x_iald (pc' := 526) (N := 7) (x := (xs 3)) rfl rfl rfl (Eq.trans rdNthr (z_N_29_0 e)) (io_in (p := 3) (N := 7) (by decide) (by decide)) (Eq.trans (congrArg (sA (sThr t) 29 0) (nn_io (p := 3) (by decide))) (Eq.trans rdAthr (z_A_29_0_3 e))) ?_
      refine x_cv (ls0 := [_, _, _, _]) (rest := []) rfl rfl rfl rfl rfl ?_
      refine x_aload_n (pc' := 1) rfl rfl rfl rfl rfl ?_
      refine x_iload_n (pc' := 2) rfl rfl rfl ?_
      refine x_cs (ls0 := [_]) (rest := [_]) rfl rfl rfl rfl ?_
      refine x_iload_n (pc' := 1) rfl rfl rfl ?_
      refine x_iconst (pc' := 2) rfl rfl ?_
      refine x_iconst (pc' := 3) rfl rfl ?_
      refine x_cs (ls0 := [_, _, _]) (rest := []) rfl rfl rfl rfl ?_
      refine x_iload_n (pc' := 1) rfl rfl rfl ?_
      refine x_iload_n (pc' := 2) rfl rfl rfl ?_
      refine x_icmp (a' := 14) (pc' := 5) (z := false) rfl rfl rfl (by decide) (fun h => by cases h) (fun _ => ?_)
      refine x_iload_n (pc' := 6) rfl rfl rfl ?_
      refine x_iload_n (pc' := 7) rfl rfl rfl ?_
      refine x_icmp (a' := 14) (pc' := 10) (z := false) rfl rfl rfl (by decide) (fun h => by cases h) (fun _ => ?_)
      refine x_iconst (pc' := 11) rfl rfl ?_
      refine x_goto (pc' := 15) rfl rfl ?_
      refine x_retz (z := true) rfl rfl ?_
      refine sK_i (pc' := 6) rfl ?_
      refine x_retz (z := true) rfl rfl ?_
      refine sK_i (pc' := 5) rfl ?_
      refine x_if (a' := 12) (pc' := 8) (z := true) rfl rfl rfl (by decide) (fun _ => ?_) (fun h => by cases h)
      refine x_iload_n (pc' := 13) rfl rfl rfl ?_
      refine x_iconst (pc' := 14) rfl rfl ?_
      refine x_sipush (pc' := 17) rfl rfl ?_
      refine x_cs (ls0 := [_, _, _]) (rest := [_]) rfl rfl rfl rfl ?_
      refine x_iload_n (pc' := 1) rfl rfl rfl ?_
      refine x_iload_n (pc' := 2) rfl rfl rfl ?_
      refine x_icmp (a' := 14) (pc' := 5) (z := decide ((xs 2) < 1)) rfl rfl rfl rfl (fun h => absurd (of_decide_eq_true h) (of_decide_eq_false q5)) (fun _ => ?_)
      refine x_iload_n (pc' := 6) rfl rfl rfl ?_
      refine x_iload_n (pc' := 7) rfl rfl rfl ?_
      refine x_icmp (a' := 14) (pc' := 10) (z := decide (999 < (xs 2))) rfl rfl rfl rfl (fun _ => ?_) (fun h => absurd (of_decide_eq_true q15) (of_decide_eq_false h))
      refine x_iconst (pc' := 15) rfl rfl ?_
      refine x_retz (z := false) rfl rfl ?_
      refine sK_i (pc' := 20) rfl ?_
      refine x_if (a' := 38) (pc' := 23) (z := true) rfl rfl rfl (by decide) (fun _ => ?_) (fun h => by cases h)
      refine x_iconst (pc' := 39) rfl rfl ?_
      refine x_cv (ls0 := [_, _]) (rest := []) rfl rfl rfl rfl rfl ?_
      refine x_aload_n (pc' := 1) rfl rfl rfl rfl rfl ?_
      refine x_iload_n (pc' := 2) rfl rfl rfl ?_
      refine x_pI (pc' := 5) rfl rfl rfl ?_
      refine x_iload_n (pc' := 6) rfl rfl rfl ?_
      refine x_if (a' := 13) (pc' := 9) (z := true) rfl rfl rfl (by decide) (fun _ => ?_) (fun h => by cases h)
      refine x_iconst (pc' := 14) rfl rfl ?_
      refine x_retz (z := false) rfl rfl ?_
      refine sK_i (pc' := 42) rfl ?_
      refine x_if (a' := 59) (pc' := 45) (z := true) rfl rfl rfl (by decide) (fun _ => ?_) (fun h => by cases h)
      refine x_ret rfl ?_
      refine sK_v (pc' := 529) rfl ?_
      refine x_aload_n (pc' := 530) rfl rfl rfl rfl rfl ?_
      refine x_cv (ls0 := [_]) (rest := []) rfl rfl rfl rfl rfl ?_
      refine x_aload_n (pc' := 1) rfl rfl rfl rfl rfl ?_
      refine x_gI (pc' := 4) (x := 2) rfl rfl rfl sI_s ?_
      refine x_reti rfl rfl ?_
      refine sK_i (pc' := 533) rfl ?_
      refine x_iload (pc' := 535) rfl rfl rfl ?_
      refine x_icmp (a' := 540) (pc' := 538) (z := true) rfl rfl rfl (by decide) (fun _ => ?_) (fun h => by cases h)
      refine x_goto (pc' := 2938) rfl rfl ?_
      refine x_iinc (pc' := 2941) (y := 7) (ls' := [_, _, _, _, _, _, _]) rfl rfl rfl rfl rfl ?_
      refine x_goto (pc' := 23) rfl rfl ?_
      refine x_iload (pc' := 25) rfl rfl rfl ?_
      refine x_aload_n (pc' := 26) rfl rfl rfl rfl rfl ?_
      refine x_alen (pc' := 27) (N := 7) rfl rfl rfl (Eq.trans rdNI (Eq.trans rdNthr (z_N_29_0 e))) (?_ : X _ _ _ (.inl 7 :: _) _ _)
      refine x_bipush (pc' := 29) rfl rfl ?_
      refine x_isub (pc' := 30) (z := 0) rfl rfl (by decide) ?_
      refine x_icmp (a' := 2944) (pc' := 33) (z := true) rfl rfl rfl (by decide) (fun _ => ?_) (fun h => by cases h)
      refine x_iconst (pc' := 2945) rfl rfl ?_
      refine x_retz (z := true) rfl rfl ?_
      exact Qp_ok e (p := 1) (q := 6) rfl rfl rfl rfl
set_option maxHeartbeats 4000000 in
set_option maxRecDepth 10000 in
theorem v_4_2_i_i {t : sT} {xs : Nat → Int32}
    (e : t = T16 7 xs)
    (hk : ((xs 0) &&& 63) = 4)
    (e0 : xs 1 = 2) :
    X 297 23 [.inr (.inr (29, (some 0))), .inr (.inr (11, (some 0))), .inr (.inr (12, (some 0))), .inr (.inr (23, (some 0))), .inl 0, sJk, sJk] [] t Qp := by
  refine x_iload (pc' := 25) rfl rfl rfl ?_
  refine x_aload_n (pc' := 26) rfl rfl rfl rfl rfl ?_
  refine x_alen (pc' := 27) (N := 7) rfl rfl rfl (z_N_29_0 e) (?_ : X _ _ _ (.inl 7 :: _) _ _)
  refine x_bipush (pc' := 29) rfl rfl ?_
  refine x_isub (pc' := 30) (z := 0) rfl rfl (by decide) ?_
  refine x_icmp (a' := 2944) (pc' := 33) (z := false) rfl rfl rfl (by decide) (fun h => by cases h) (fun _ => ?_)
  refine x_aload_n (pc' := 34) rfl rfl rfl rfl rfl ?_
  refine x_iload (pc' := 36) rfl rfl rfl ?_
  refine x_iald (pc' := 37) (N := 7) (x := (xs 0)) rfl rfl rfl (z_N_29_0 e) (io_in (p := 0) (N := 7) (by decide) (by decide)) (Eq.trans (congrArg (sA t 29 0) (nn_io (p := 0) (by decide))) (z_A_29_0_0 e)) ?_
  refine x_bipush (pc' := 39) rfl rfl ?_
  refine x_iand (pc' := 40) (z := ((xs 0) &&& 63)) rfl rfl rfl ?_
  refine x_switch (pc' := 483) rfl (by rw [hk]; decide) ?_
  refine x_aload_n (pc' := 484) rfl rfl rfl rfl rfl ?_
  refine x_aload_n (pc' := 485) rfl rfl rfl rfl rfl ?_
  refine x_iload (pc' := 487) rfl rfl rfl ?_
  refine x_iconst (pc' := 488) rfl rfl ?_
  refine x_iadd (pc' := 489) (z := 1) rfl rfl (by decide) ?_
  refine x_iald (pc' := 490) (N := 7) (x := 2) rfl rfl rfl (z_N_29_0 e) (io_in (p := 1) (N := 7) (by decide) (by decide)) (Eq.trans (congrArg (sA t 29 0) (nn_io (p := 1) (by decide))) (Eq.trans (z_A_29_0_1 e) e0)) ?_
  refine x_aload_n (pc' := 491) rfl rfl rfl rfl rfl ?_
  refine x_iload (pc' := 493) rfl rfl rfl ?_
  refine x_iconst (pc' := 494) rfl rfl ?_
  refine x_iadd (pc' := 495) (z := 2) rfl rfl (by decide) ?_
  refine x_iald (pc' := 496) (N := 7) (x := (xs 2)) rfl rfl rfl (z_N_29_0 e) (io_in (p := 2) (N := 7) (by decide) (by decide)) (Eq.trans (congrArg (sA t 29 0) (nn_io (p := 2) (by decide))) (z_A_29_0_2 e)) ?_
  refine x_aload_n (pc' := 497) rfl rfl rfl rfl rfl ?_
  refine x_iload (pc' := 499) rfl rfl rfl ?_
  refine x_iconst (pc' := 500) rfl rfl ?_
  refine x_iadd (pc' := 501) (z := 3) rfl rfl (by decide) ?_
  refine x_iald (pc' := 502) (N := 7) (x := (xs 3)) rfl rfl rfl (z_N_29_0 e) (io_in (p := 3) (N := 7) (by decide) (by decide)) (Eq.trans (congrArg (sA t 29 0) (nn_io (p := 3) (by decide))) (z_A_29_0_3 e)) ?_
  refine x_cs (ls0 := [_, _, _, _, sJk]) (rest := []) rfl rfl rfl rfl ?_
  refine x_aload_n (pc' := 1) rfl rfl rfl rfl rfl ?_
  refine x_iload_n (pc' := 2) rfl rfl rfl ?_
  refine x_iload_n (pc' := 3) rfl rfl rfl ?_
  refine x_iload_n (pc' := 4) rfl rfl rfl ?_
  refine x_cv (ls0 := [_, _, _, _, sJk]) (rest := []) rfl rfl rfl rfl rfl ?_
  refine x_aload_n (pc' := 1) rfl rfl rfl rfl rfl ?_
  refine x_iload_n (pc' := 2) rfl rfl rfl ?_
  refine x_cv (ls0 := [_, _]) (rest := []) rfl rfl rfl rfl rfl ?_
  refine x_iload_n (pc' := 1) rfl rfl rfl ?_
  refine x_if (a' := 16) (pc' := 4) (z := false) rfl rfl rfl (by decide) (fun h => by cases h) (fun _ => ?_)
  refine x_iload_n (pc' := 5) rfl rfl rfl ?_
  refine x_aload_n (pc' := 6) rfl rfl rfl rfl rfl ?_
  refine x_gR (pc' := 9) (r := (some 0)) rfl rfl rfl (z_R_704_0 e) ?_
  refine x_gR (pc' := 12) (r := (some 0)) rfl rfl rfl (z_R_320_0 e) ?_
  refine x_alen (pc' := 13) (N := 3) rfl rfl rfl (z_N_25_0 e) (?_ : X _ _ _ (.inl 3 :: _) _ _)
  refine x_icmp (a' := 27) (pc' := 16) (z := true) rfl rfl rfl (by decide) (fun _ => ?_) (fun h => by cases h)
  refine x_aload_n (pc' := 28) rfl rfl rfl rfl rfl ?_
  refine x_gR (pc' := 31) (r := (some 0)) rfl rfl rfl (z_R_704_0 e) ?_
  refine x_gR (pc' := 34) (r := (some 0)) rfl rfl rfl (z_R_320_0 e) ?_
  refine x_iload_n (pc' := 35) rfl rfl rfl ?_
  refine x_aald (pc' := 36) (N := 3) (k' := 2) (r := (some 2)) rfl rfl rfl (z_N_25_0 e) (io_in (p := 2) (N := 3) (by decide) (by decide)) (Eq.trans (congrArg (sE t 25 0) (nn_io (p := 2) (by decide))) (z_E_25_0_2 e)) ?_
  refine x_reta rfl rfl ?_
  refine sK_i (pc' := 5) rfl ?_
  refine x_astore (pc' := 7) (ls' := [_, _, _, _, _]) rfl rfl rfl rfl rfl ?_
  refine x_iload_n (pc' := 8) rfl rfl rfl ?_
  refine x_iconst (pc' := 9) rfl rfl ?_
  refine x_sipush (pc' := 12) rfl rfl ?_
  refine x_cs (ls0 := [_, _, _]) (rest := []) rfl rfl rfl rfl ?_
  refine x_iload_n (pc' := 1) rfl rfl rfl ?_
  refine x_iload_n (pc' := 2) rfl rfl rfl ?_
  refine x_icmp (a' := 10) (pc' := 5) (z := decide ((xs 2) < 1)) rfl rfl rfl rfl (fun q5 => ?_) (fun q5 => ?_)
  · refine x_throw rfl rfl ?_
    refine sK_n (by decide +kernel) rfl ?_
    refine sK_h (h := 14) (by decide +kernel) rfl ?_
    refine x_catch (pc' := 16) (ls' := [_, _, _, _, _]) rfl rfl rfl rfl ?_
    refine x_iconst (pc' := 17) rfl rfl ?_
    refine x_reti rfl rfl ?_
    refine sK_i (pc' := 505) rfl ?_
    refine x_istore (pc' := 507) (ls' := [_, _, _, _, _, _, _]) rfl rfl rfl rfl ?_
    refine x_aload_n (pc' := 508) rfl rfl rfl rfl rfl ?_
    refine x_aload_n (pc' := 509) rfl rfl rfl rfl rfl ?_
    refine x_iload (pc' := 511) rfl rfl rfl ?_
    refine x_iconst (pc' := 512) rfl rfl ?_
    refine x_iadd (pc' := 513) (z := 1) rfl rfl (by decide) ?_
    refine x_iald (pc' := 514) (N := 7) (x := 2) rfl rfl rfl (Eq.trans rdNthr (z_N_29_0 e)) (io_in (p := 1) (N := 7) (by decide) (by decide)) (Eq.trans (congrArg (sA (sThr t) 29 0) (nn_io (p := 1) (by decide))) (Eq.trans rdAthr (Eq.trans (z_A_29_0_1 e) e0))) ?_
    refine x_aload_n (pc' := 515) rfl rfl rfl rfl rfl ?_
    refine x_iload (pc' := 517) rfl rfl rfl ?_
    refine x_iconst (pc' := 518) rfl rfl ?_
    refine x_iadd (pc' := 519) (z := 2) rfl rfl (by decide) ?_
    refine x_iald (pc' := 520) (N := 7) (x := (xs 2)) rfl rfl rfl (Eq.trans rdNthr (z_N_29_0 e)) (io_in (p := 2) (N := 7) (by decide) (by decide)) (Eq.trans (congrArg (sA (sThr t) 29 0) (nn_io (p := 2) (by decide))) (Eq.trans rdAthr (z_A_29_0_2 e))) ?_
    refine x_aload_n (pc' := 521) rfl rfl rfl rfl rfl ?_
    refine x_iload (pc' := 523) rfl rfl rfl ?_
    refine x_iconst (pc' := 524) rfl rfl ?_
    refine x_iadd (pc' := 525) (z := 3) rfl rfl (by decide) ?_
    refine x_iald (pc' := 526) (N := 7) (x := (xs 3)) rfl rfl rfl (Eq.trans rdNthr (z_N_29_0 e)) (io_in (p := 3) (N := 7) (by decide) (by decide)) (Eq.trans (congrArg (sA (sThr t) 29 0) (nn_io (p := 3) (by decide))) (Eq.trans rdAthr (z_A_29_0_3 e))) ?_
    refine x_cv (ls0 := [_, _, _, _]) (rest := []) rfl rfl rfl rfl rfl ?_
    refine x_aload_n (pc' := 1) rfl rfl rfl rfl rfl ?_
    refine x_iload_n (pc' := 2) rfl rfl rfl ?_
    refine x_cs (ls0 := [_]) (rest := [_]) rfl rfl rfl rfl ?_
    refine x_iload_n (pc' := 1) rfl rfl rfl ?_
    refine x_iconst (pc' := 2) rfl rfl ?_
    refine x_iconst (pc' := 3) rfl rfl ?_
    refine x_cs (ls0 := [_, _, _]) (rest := []) rfl rfl rfl rfl ?_
    refine x_iload_n (pc' := 1) rfl rfl rfl ?_
    refine x_iload_n (pc' := 2) rfl rfl rfl ?_
    refine x_icmp (a' := 14) (pc' := 5) (z := false) rfl rfl rfl (by decide) (fun h => by cases h) (fun _ => ?_)
    refine x_iload_n (pc' := 6) rfl rfl rfl ?_
    refine x_iload_n (pc' := 7) rfl rfl rfl ?_
    refine x_icmp (a' := 14) (pc' := 10) (z := false) rfl rfl rfl (by decide) (fun h => by cases h) (fun _ => ?_)
    refine x_iconst (pc' := 11) rfl rfl ?_
    refine x_goto (pc' := 15) rfl rfl ?_
    refine x_retz (z := true) rfl rfl ?_
    refine sK_i (pc' := 6) rfl ?_
    refine x_retz (z := true) rfl rfl ?_
    refine sK_i (pc' := 5) rfl ?_
    refine x_if (a' := 12) (pc' := 8) (z := true) rfl rfl rfl (by decide) (fun _ => ?_) (fun h => by cases h)
    refine x_iload_n (pc' := 13) rfl rfl rfl ?_
    refine x_iconst (pc' := 14) rfl rfl ?_
    refine x_sipush (pc' := 17) rfl rfl ?_
    refine x_cs (ls0 := [_, _, _]) (rest := [_]) rfl rfl rfl rfl ?_
    refine x_iload_n (pc' := 1) rfl rfl rfl ?_
    refine x_iload_n (pc' := 2) rfl rfl rfl ?_
    refine x_icmp (a' := 14) (pc' := 5) (z := decide ((xs 2) < 1)) rfl rfl rfl rfl (fun _ => ?_) (fun h => absurd (of_decide_eq_true q5) (of_decide_eq_false h))
    refine x_iconst (pc' := 15) rfl rfl ?_
    refine x_retz (z := false) rfl rfl ?_
    refine sK_i (pc' := 20) rfl ?_
    refine x_if (a' := 38) (pc' := 23) (z := true) rfl rfl rfl (by decide) (fun _ => ?_) (fun h => by cases h)
    refine x_iconst (pc' := 39) rfl rfl ?_
    refine x_cv (ls0 := [_, _]) (rest := []) rfl rfl rfl rfl rfl ?_
    refine x_aload_n (pc' := 1) rfl rfl rfl rfl rfl ?_
    refine x_iload_n (pc' := 2) rfl rfl rfl ?_
    refine x_pI (pc' := 5) rfl rfl rfl ?_
    refine x_iload_n (pc' := 6) rfl rfl rfl ?_
    refine x_if (a' := 13) (pc' := 9) (z := true) rfl rfl rfl (by decide) (fun _ => ?_) (fun h => by cases h)
    refine x_iconst (pc' := 14) rfl rfl ?_
    refine x_retz (z := false) rfl rfl ?_
    refine sK_i (pc' := 42) rfl ?_
    refine x_if (a' := 59) (pc' := 45) (z := true) rfl rfl rfl (by decide) (fun _ => ?_) (fun h => by cases h)
    refine x_ret rfl ?_
    refine sK_v (pc' := 529) rfl ?_
    refine x_aload_n (pc' := 530) rfl rfl rfl rfl rfl ?_
    refine x_cv (ls0 := [_]) (rest := []) rfl rfl rfl rfl rfl ?_
    refine x_aload_n (pc' := 1) rfl rfl rfl rfl rfl ?_
    refine x_gI (pc' := 4) (x := 2) rfl rfl rfl sI_s ?_
    refine x_reti rfl rfl ?_
    refine sK_i (pc' := 533) rfl ?_
    refine x_iload (pc' := 535) rfl rfl rfl ?_
    refine x_icmp (a' := 540) (pc' := 538) (z := true) rfl rfl rfl (by decide) (fun _ => ?_) (fun h => by cases h)
    refine x_goto (pc' := 2938) rfl rfl ?_
    refine x_iinc (pc' := 2941) (y := 7) (ls' := [_, _, _, _, _, _, _]) rfl rfl rfl rfl rfl ?_
    refine x_goto (pc' := 23) rfl rfl ?_
    refine x_iload (pc' := 25) rfl rfl rfl ?_
    refine x_aload_n (pc' := 26) rfl rfl rfl rfl rfl ?_
    refine x_alen (pc' := 27) (N := 7) rfl rfl rfl (Eq.trans rdNI (Eq.trans rdNthr (z_N_29_0 e))) (?_ : X _ _ _ (.inl 7 :: _) _ _)
    refine x_bipush (pc' := 29) rfl rfl ?_
    refine x_isub (pc' := 30) (z := 0) rfl rfl (by decide) ?_
    refine x_icmp (a' := 2944) (pc' := 33) (z := true) rfl rfl rfl (by decide) (fun _ => ?_) (fun h => by cases h)
    refine x_iconst (pc' := 2945) rfl rfl ?_
    refine x_retz (z := true) rfl rfl ?_
    exact Qp_ok e (p := 1) (q := 6) rfl rfl rfl rfl
  · refine x_iload_n (pc' := 6) rfl rfl rfl ?_
    refine x_iload_n (pc' := 7) rfl rfl rfl ?_
    refine x_icmp_n (a' := 21) (pc' := 10) (z := decide (999 < (xs 2))) rfl rfl rfl (ik_le _ _) (fun q15 => ?_) (fun q15 => ?_)
    · refine x_ret rfl ?_
      refine sK_v (pc' := 15) rfl ?_
      refine x_iload_n (pc' := 16) rfl rfl rfl ?_
      refine x_iconst (pc' := 17) rfl rfl ?_
      refine x_sipush (pc' := 20) rfl rfl ?_
      refine x_cs (ls0 := [_, _, _]) (rest := []) rfl rfl rfl rfl ?_
      refine x_iload_n (pc' := 1) rfl rfl rfl ?_
      refine x_iload_n (pc' := 2) rfl rfl rfl ?_
      refine x_icmp (a' := 10) (pc' := 5) (z := decide ((xs 3) < 0)) rfl rfl rfl rfl (fun q16 => ?_) (fun q16 => ?_)
      · refine x_throw rfl rfl ?_
        refine sK_n (by decide +kernel) rfl ?_
        refine sK_h (h := 14) (by decide +kernel) rfl ?_
        refine x_catch (pc' := 16) (ls' := [_, _, _, _, _]) rfl rfl rfl rfl ?_
        refine x_iconst (pc' := 17) rfl rfl ?_
        refine x_reti rfl rfl ?_
        refine sK_i (pc' := 505) rfl ?_
        refine x_istore (pc' := 507) (ls' := [_, _, _, _, _, _, _]) rfl rfl rfl rfl ?_
        refine x_aload_n (pc' := 508) rfl rfl rfl rfl rfl ?_
        refine x_aload_n (pc' := 509) rfl rfl rfl rfl rfl ?_
        refine x_iload (pc' := 511) rfl rfl rfl ?_
        refine x_iconst (pc' := 512) rfl rfl ?_
        refine x_iadd (pc' := 513) (z := 1) rfl rfl (by decide) ?_
        refine x_iald (pc' := 514) (N := 7) (x := 2) rfl rfl rfl (Eq.trans rdNthr (z_N_29_0 e)) (io_in (p := 1) (N := 7) (by decide) (by decide)) (Eq.trans (congrArg (sA (sThr t) 29 0) (nn_io (p := 1) (by decide))) (Eq.trans rdAthr (Eq.trans (z_A_29_0_1 e) e0))) ?_
        refine x_aload_n (pc' := 515) rfl rfl rfl rfl rfl ?_
        refine x_iload (pc' := 517) rfl rfl rfl ?_
        refine x_iconst (pc' := 518) rfl rfl ?_
        refine x_iadd (pc' := 519) (z := 2) rfl rfl (by decide) ?_
        refine x_iald (pc' := 520) (N := 7) (x := (xs 2)) rfl rfl rfl (Eq.trans rdNthr (z_N_29_0 e)) (io_in (p := 2) (N := 7) (by decide) (by decide)) (Eq.trans (congrArg (sA (sThr t) 29 0) (nn_io (p := 2) (by decide))) (Eq.trans rdAthr (z_A_29_0_2 e))) ?_
        refine x_aload_n (pc' := 521) rfl rfl rfl rfl rfl ?_
        refine x_iload (pc' := 523) rfl rfl rfl ?_
        refine x_iconst (pc' := 524) rfl rfl ?_
        refine x_iadd (pc' := 525) (z := 3) rfl rfl (by decide) ?_
        refine x_iald (pc' := 526) (N := 7) (x := (xs 3)) rfl rfl rfl (Eq.trans rdNthr (z_N_29_0 e)) (io_in (p := 3) (N := 7) (by decide) (by decide)) (Eq.trans (congrArg (sA (sThr t) 29 0) (nn_io (p := 3) (by decide))) (Eq.trans rdAthr (z_A_29_0_3 e))) ?_
        refine x_cv (ls0 := [_, _, _, _]) (rest := []) rfl rfl rfl rfl rfl ?_
        refine x_aload_n (pc' := 1) rfl rfl rfl rfl rfl ?_
        refine x_iload_n (pc' := 2) rfl rfl rfl ?_
        refine x_cs (ls0 := [_]) (rest := [_]) rfl rfl rfl rfl ?_
        refine x_iload_n (pc' := 1) rfl rfl rfl ?_
        refine x_iconst (pc' := 2) rfl rfl ?_
        refine x_iconst (pc' := 3) rfl rfl ?_
        refine x_cs (ls0 := [_, _, _]) (rest := []) rfl rfl rfl rfl ?_
        refine x_iload_n (pc' := 1) rfl rfl rfl ?_
        refine x_iload_n (pc' := 2) rfl rfl rfl ?_
        refine x_icmp (a' := 14) (pc' := 5) (z := false) rfl rfl rfl (by decide) (fun h => by cases h) (fun _ => ?_)
        refine x_iload_n (pc' := 6) rfl rfl rfl ?_
        refine x_iload_n (pc' := 7) rfl rfl rfl ?_
        refine x_icmp (a' := 14) (pc' := 10) (z := false) rfl rfl rfl (by decide) (fun h => by cases h) (fun _ => ?_)
        refine x_iconst (pc' := 11) rfl rfl ?_
        refine x_goto (pc' := 15) rfl rfl ?_
        refine x_retz (z := true) rfl rfl ?_
        refine sK_i (pc' := 6) rfl ?_
        refine x_retz (z := true) rfl rfl ?_
        refine sK_i (pc' := 5) rfl ?_
        refine x_if (a' := 12) (pc' := 8) (z := true) rfl rfl rfl (by decide) (fun _ => ?_) (fun h => by cases h)
        refine x_iload_n (pc' := 13) rfl rfl rfl ?_
        refine x_iconst (pc' := 14) rfl rfl ?_
        refine x_sipush (pc' := 17) rfl rfl ?_
        refine x_cs (ls0 := [_, _, _]) (rest := [_]) rfl rfl rfl rfl ?_
        refine x_iload_n (pc' := 1) rfl rfl rfl ?_
        refine x_iload_n (pc' := 2) rfl rfl rfl ?_
        refine x_icmp (a' := 14) (pc' := 5) (z := decide ((xs 2) < 1)) rfl rfl rfl rfl (fun h => absurd (of_decide_eq_true h) (of_decide_eq_false q5)) (fun _ => ?_)
        refine x_iload_n (pc' := 6) rfl rfl rfl ?_
        refine x_iload_n (pc' := 7) rfl rfl rfl ?_
        refine x_icmp (a' := 14) (pc' := 10) (z := decide (999 < (xs 2))) rfl rfl rfl rfl (fun h => absurd (of_decide_eq_true h) (of_decide_eq_false q15)) (fun _ => ?_)
        refine x_iconst (pc' := 11) rfl rfl ?_
        refine x_goto (pc' := 15) rfl rfl ?_
        refine x_retz (z := true) rfl rfl ?_
        refine sK_i (pc' := 20) rfl ?_
        refine x_if (a' := 38) (pc' := 23) (z := false) rfl rfl rfl (by decide) (fun h => by cases h) (fun _ => ?_)
        refine x_iload_n (pc' := 24) rfl rfl rfl ?_
        refine x_iconst (pc' := 25) rfl rfl ?_
        refine x_sipush (pc' := 28) rfl rfl ?_
        refine x_cs (ls0 := [_, _, _]) (rest := [_]) rfl rfl rfl rfl ?_
        refine x_iload_n (pc' := 1) rfl rfl rfl ?_
        refine x_iload_n (pc' := 2) rfl rfl rfl ?_
        refine x_icmp (a' := 14) (pc' := 5) (z := decide ((xs 3) < 0)) rfl rfl rfl rfl (fun _ => ?_) (fun h => absurd (of_decide_eq_true q16) (of_decide_eq_false h))
        refine x_iconst (pc' := 15) rfl rfl ?_
        refine x_retz (z := false) rfl rfl ?_
        refine sK_i (pc' := 31) rfl ?_
        refine x_if (a' := 38) (pc' := 34) (z := true) rfl rfl rfl (by decide) (fun _ => ?_) (fun h => by cases h)
        refine x_iconst (pc' := 39) rfl rfl ?_
        refine x_cv (ls0 := [_, _]) (rest := []) rfl rfl rfl rfl rfl ?_
        refine x_aload_n (pc' := 1) rfl rfl rfl rfl rfl ?_
        refine x_iload_n (pc' := 2) rfl rfl rfl ?_
        refine x_pI (pc' := 5) rfl rfl rfl ?_
        refine x_iload_n (pc' := 6) rfl rfl rfl ?_
        refine x_if (a' := 13) (pc' := 9) (z := true) rfl rfl rfl (by decide) (fun _ => ?_) (fun h => by cases h)
        refine x_iconst (pc' := 14) rfl rfl ?_
        refine x_retz (z := false) rfl rfl ?_
        refine sK_i (pc' := 42) rfl ?_
        refine x_if (a' := 59) (pc' := 45) (z := true) rfl rfl rfl (by decide) (fun _ => ?_) (fun h => by cases h)
        refine x_ret rfl ?_
        refine sK_v (pc' := 529) rfl ?_
        refine x_aload_n (pc' := 530) rfl rfl rfl rfl rfl ?_
        refine x_cv (ls0 := [_]) (rest := []) rfl rfl rfl rfl rfl ?_
        refine x_aload_n (pc' := 1) rfl rfl rfl rfl rfl ?_
        refine x_gI (pc' := 4) (x := 2) rfl rfl rfl sI_s ?_
        refine x_reti rfl rfl ?_
        refine sK_i (pc' := 533) rfl ?_
        refine x_iload (pc' := 535) rfl rfl rfl ?_
        refine x_icmp (a' := 540) (pc' := 538) (z := true) rfl rfl rfl (by decide) (fun _ => ?_) (fun h => by cases h)
        refine x_goto (pc' := 2938) rfl rfl ?_
        refine x_iinc (pc' := 2941) (y := 7) (ls' := [_, _, _, _, _, _, _]) rfl rfl rfl rfl rfl ?_
        refine x_goto (pc' := 23) rfl rfl ?_
        refine x_iload (pc' := 25) rfl rfl rfl ?_
        refine x_aload_n (pc' := 26) rfl rfl rfl rfl rfl ?_
        refine x_alen (pc' := 27) (N := 7) rfl rfl rfl (Eq.trans rdNI (Eq.trans rdNthr (z_N_29_0 e))) (?_ : X _ _ _ (.inl 7 :: _) _ _)
        refine x_bipush (pc' := 29) rfl rfl ?_
        refine x_isub (pc' := 30) (z := 0) rfl rfl (by decide) ?_
        refine x_icmp (a' := 2944) (pc' := 33) (z := true) rfl rfl rfl (by decide) (fun _ => ?_) (fun h => by cases h)
        refine x_iconst (pc' := 2945) rfl rfl ?_
        refine x_retz (z := true) rfl rfl ?_
        exact Qp_ok e (p := 1) (q := 6) rfl rfl rfl rfl
      · refine x_iload_n (pc' := 6) rfl rfl rfl ?_
        refine x_iload_n (pc' := 7) rfl rfl rfl ?_
        refine x_icmp_n (a' := 21) (pc' := 10) (z := decide (999 < (xs 3))) rfl rfl rfl (ik_le _ _) (fun q29 => ?_) (fun q29 => ?_)
        · refine x_ret rfl ?_
          refine sK_v (pc' := 23) rfl ?_
          refine x_aload (pc' := 25) rfl rfl rfl rfl rfl ?_
          refine x_iload_n (pc' := 26) rfl rfl rfl ?_
          refine x_pI (pc' := 29) rfl rfl rfl ?_
          refine x_aload (pc' := 31) rfl rfl rfl rfl rfl ?_
          refine x_iload_n (pc' := 32) rfl rfl rfl ?_
          refine x_pI (pc' := 35) rfl rfl rfl ?_
          refine x_ret rfl ?_
          refine sK_v (pc' := 7) rfl ?_
          refine x_goto (pc' := 18) rfl rfl ?_
          refine x_iconst (pc' := 19) rfl rfl ?_
          refine x_reti rfl rfl ?_
          refine sK_i (pc' := 505) rfl ?_
          refine x_istore (pc' := 507) (ls' := [_, _, _, _, _, _, _]) rfl rfl rfl rfl ?_
          refine x_aload_n (pc' := 508) rfl rfl rfl rfl rfl ?_
          refine x_aload_n (pc' := 509) rfl rfl rfl rfl rfl ?_
          refine x_iload (pc' := 511) rfl rfl rfl ?_
          refine x_iconst (pc' := 512) rfl rfl ?_
          refine x_iadd (pc' := 513) (z := 1) rfl rfl (by decide) ?_
          refine x_iald (pc' := 514) (N := 7) (x := 2) rfl rfl rfl (Eq.trans rdNI (Eq.trans rdNI (z_N_29_0 e))) (io_in (p := 1) (N := 7) (by decide) (by decide)) (Eq.trans (congrArg (sA (sIw (sIw t 130 2 (xs 2)) 131 2 (xs 3)) 29 0) (nn_io (p := 1) (by decide))) (Eq.trans rdAI (Eq.trans rdAI (Eq.trans (z_A_29_0_1 e) e0)))) ?_
          refine x_aload_n (pc' := 515) rfl rfl rfl rfl rfl ?_
          refine x_iload (pc' := 517) rfl rfl rfl ?_
          refine x_iconst (pc' := 518) rfl rfl ?_
          refine x_iadd (pc' := 519) (z := 2) rfl rfl (by decide) ?_
          refine x_iald (pc' := 520) (N := 7) (x := (xs 2)) rfl rfl rfl (Eq.trans rdNI (Eq.trans rdNI (z_N_29_0 e))) (io_in (p := 2) (N := 7) (by decide) (by decide)) (Eq.trans (congrArg (sA (sIw (sIw t 130 2 (xs 2)) 131 2 (xs 3)) 29 0) (nn_io (p := 2) (by decide))) (Eq.trans rdAI (Eq.trans rdAI (z_A_29_0_2 e)))) ?_
          refine x_aload_n (pc' := 521) rfl rfl rfl rfl rfl ?_
          refine x_iload (pc' := 523) rfl rfl rfl ?_
          refine x_iconst (pc' := 524) rfl rfl ?_
          refine x_iadd (pc' := 525) (z := 3) rfl rfl (by decide) ?_
          refine x_iald (pc' := 526) (N := 7) (x := (xs 3)) rfl rfl rfl (Eq.trans rdNI (Eq.trans rdNI (z_N_29_0 e))) (io_in (p := 3) (N := 7) (by decide) (by decide)) (Eq.trans (congrArg (sA (sIw (sIw t 130 2 (xs 2)) 131 2 (xs 3)) 29 0) (nn_io (p := 3) (by decide))) (Eq.trans rdAI (Eq.trans rdAI (z_A_29_0_3 e)))) ?_
          refine x_cv (ls0 := [_, _, _, _]) (rest := []) rfl rfl rfl rfl rfl ?_
          refine x_aload_n (pc' := 1) rfl rfl rfl rfl rfl ?_
          refine x_iload_n (pc' := 2) rfl rfl rfl ?_
          refine x_cs (ls0 := [_]) (rest := [_]) rfl rfl rfl rfl ?_
          refine x_iload_n (pc' := 1) rfl rfl rfl ?_
          refine x_iconst (pc' := 2) rfl rfl ?_
          refine x_iconst (pc' := 3) rfl rfl ?_
          refine x_cs (ls0 := [_, _, _]) (rest := []) rfl rfl rfl rfl ?_
          refine x_iload_n (pc' := 1) rfl rfl rfl ?_
          refine x_iload_n (pc' := 2) rfl rfl rfl ?_
          refine x_icmp (a' := 14) (pc' := 5) (z := false) rfl rfl rfl (by decide) (fun h => by cases h) (fun _ => ?_)
          refine x_iload_n (pc' := 6) rfl rfl rfl ?_
          refine x_iload_n (pc' := 7) rfl rfl rfl ?_
          refine x_icmp (a' := 14) (pc' := 10) (z := false) rfl rfl rfl (by decide) (fun h => by cases h) (fun _ => ?_)
          refine x_iconst (pc' := 11) rfl rfl ?_
          refine x_goto (pc' := 15) rfl rfl ?_
          refine x_retz (z := true) rfl rfl ?_
          refine sK_i (pc' := 6) rfl ?_
          refine x_retz (z := true) rfl rfl ?_
          refine sK_i (pc' := 5) rfl ?_
          refine x_if (a' := 12) (pc' := 8) (z := true) rfl rfl rfl (by decide) (fun _ => ?_) (fun h => by cases h)
          refine x_iload_n (pc' := 13) rfl rfl rfl ?_
          refine x_iconst (pc' := 14) rfl rfl ?_
          refine x_sipush (pc' := 17) rfl rfl ?_
          refine x_cs (ls0 := [_, _, _]) (rest := [_]) rfl rfl rfl rfl ?_
          refine x_iload_n (pc' := 1) rfl rfl rfl ?_
          refine x_iload_n (pc' := 2) rfl rfl rfl ?_
          refine x_icmp (a' := 14) (pc' := 5) (z := decide ((xs 2) < 1)) rfl rfl rfl rfl (fun h => absurd (of_decide_eq_true h) (of_decide_eq_false q5)) (fun _ => ?_)
          refine x_iload_n (pc' := 6) rfl rfl rfl ?_
          refine x_iload_n (pc' := 7) rfl rfl rfl ?_
          refine x_icmp (a' := 14) (pc' := 10) (z := decide (999 < (xs 2))) rfl rfl rfl rfl (fun h => absurd (of_decide_eq_true h) (of_decide_eq_false q15)) (fun _ => ?_)
          refine x_iconst (pc' := 11) rfl rfl ?_
          refine x_goto (pc' := 15) rfl rfl ?_
          refine x_retz (z := true) rfl rfl ?_
          refine sK_i (pc' := 20) rfl ?_
          refine x_if (a' := 38) (pc' := 23) (z := false) rfl rfl rfl (by decide) (fun h => by cases h) (fun _ => ?_)
          refine x_iload_n (pc' := 24) rfl rfl rfl ?_
          refine x_iconst (pc' := 25) rfl rfl ?_
          refine x_sipush (pc' := 28) rfl rfl ?_
          refine x_cs (ls0 := [_, _, _]) (rest := [_]) rfl rfl rfl rfl ?_
          refine x_iload_n (pc' := 1) rfl rfl rfl ?_
          refine x_iload_n (pc' := 2) rfl rfl rfl ?_
          refine x_icmp (a' := 14) (pc' := 5) (z := decide ((xs 3) < 0)) rfl rfl rfl rfl (fun h => absurd (of_decide_eq_true h) (of_decide_eq_false q16)) (fun _ => ?_)
          refine x_iload_n (pc' := 6) rfl rfl rfl ?_
          refine x_iload_n (pc' := 7) rfl rfl rfl ?_
          refine x_icmp (a' := 14) (pc' := 10) (z := decide (999 < (xs 3))) rfl rfl rfl rfl (fun h => absurd (of_decide_eq_true h) (of_decide_eq_false q29)) (fun _ => ?_)
          refine x_iconst (pc' := 11) rfl rfl ?_
          refine x_goto (pc' := 15) rfl rfl ?_
          refine x_retz (z := true) rfl rfl ?_
          refine sK_i (pc' := 31) rfl ?_
          refine x_if (a' := 38) (pc' := 34) (z := false) rfl rfl rfl (by decide) (fun h => by cases h) (fun _ => ?_)
          refine x_iconst (pc' := 35) rfl rfl ?_
          refine x_goto (pc' := 39) rfl rfl ?_
          refine x_cv (ls0 := [_, _]) (rest := []) rfl rfl rfl rfl rfl ?_
          refine x_aload_n (pc' := 1) rfl rfl rfl rfl rfl ?_
          refine x_iload_n (pc' := 2) rfl rfl rfl ?_
          refine x_pI (pc' := 5) rfl rfl rfl ?_
          refine x_iload_n (pc' := 6) rfl rfl rfl ?_
          refine x_if (a' := 13) (pc' := 9) (z := false) rfl rfl rfl (by decide) (fun h => by cases h) (fun _ => ?_)
          refine x_iconst (pc' := 10) rfl rfl ?_
          refine x_goto (pc' := 14) rfl rfl ?_
          refine x_retz (z := true) rfl rfl ?_
          refine sK_i (pc' := 42) rfl ?_
          refine x_if (a' := 59) (pc' := 45) (z := false) rfl rfl rfl (by decide) (fun h => by cases h) (fun _ => ?_)
          refine x_aload_n (pc' := 46) rfl rfl rfl rfl rfl ?_
          refine x_gR (pc' := 49) (r := (some 2)) rfl rfl rfl (Eq.trans rdRI (Eq.trans rdRI (Eq.trans rdRI (z_R_772_0 e)))) ?_
          refine x_iload_n (pc' := 50) rfl rfl rfl ?_
          refine x_iload_n (pc' := 51) rfl rfl rfl ?_
          refine x_iast (pc' := 52) (N := 3) (p := 2) rfl rfl rfl (Eq.trans rdNI (Eq.trans rdNI (Eq.trans rdNI (z_N_21_2 e)))) (io_in (p := 2) (N := 3) (by decide) (by decide)) (nn_io (p := 2) (by decide)) ?_
          refine x_aload_n (pc' := 53) rfl rfl rfl rfl rfl ?_
          refine x_gR (pc' := 56) (r := (some 3)) rfl rfl rfl (Eq.trans rdRA (Eq.trans rdRI (Eq.trans rdRI (Eq.trans rdRI (z_R_773_0 e))))) ?_
          refine x_iload_n (pc' := 57) rfl rfl rfl ?_
          refine x_iload_n (pc' := 58) rfl rfl rfl ?_
          refine x_iast (pc' := 59) (N := 3) (p := 2) rfl rfl rfl (Eq.trans rdNA (Eq.trans rdNI (Eq.trans rdNI (Eq.trans rdNI (z_N_21_3 e))))) (io_in (p := 2) (N := 3) (by decide) (by decide)) (nn_io (p := 2) (by decide)) ?_
          refine x_ret rfl ?_
          refine sK_v (pc' := 529) rfl ?_
          refine x_aload_n (pc' := 530) rfl rfl rfl rfl rfl ?_
          refine x_cv (ls0 := [_]) (rest := []) rfl rfl rfl rfl rfl ?_
          refine x_aload_n (pc' := 1) rfl rfl rfl rfl rfl ?_
          refine x_gI (pc' := 4) (x := 0) rfl rfl rfl (Eq.trans rdIA (Eq.trans rdIA sI_s)) ?_
          refine x_reti rfl rfl ?_
          refine sK_i (pc' := 533) rfl ?_
          refine x_iload (pc' := 535) rfl rfl rfl ?_
          refine x_icmp (a' := 540) (pc' := 538) (z := true) rfl rfl rfl (by decide) (fun _ => ?_) (fun h => by cases h)
          refine x_goto (pc' := 2938) rfl rfl ?_
          refine x_iinc (pc' := 2941) (y := 7) (ls' := [_, _, _, _, _, _, _]) rfl rfl rfl rfl rfl ?_
          refine x_goto (pc' := 23) rfl rfl ?_
          refine x_iload (pc' := 25) rfl rfl rfl ?_
          refine x_aload_n (pc' := 26) rfl rfl rfl rfl rfl ?_
          refine x_alen (pc' := 27) (N := 7) rfl rfl rfl (Eq.trans rdNA (Eq.trans rdNA (Eq.trans rdNI (Eq.trans rdNI (Eq.trans rdNI (z_N_29_0 e)))))) (?_ : X _ _ _ (.inl 7 :: _) _ _)
          refine x_bipush (pc' := 29) rfl rfl ?_
          refine x_isub (pc' := 30) (z := 0) rfl rfl (by decide) ?_
          refine x_icmp (a' := 2944) (pc' := 33) (z := true) rfl rfl rfl (by decide) (fun _ => ?_) (fun h => by cases h)
          refine x_iconst (pc' := 2945) rfl rfl ?_
          refine x_retz (z := true) rfl rfl ?_
          exact Qp_ok e (p := 0) (q := 0) rfl rfl rfl rfl
        · refine x_throw rfl rfl ?_
          refine sK_n (by decide +kernel) rfl ?_
          refine sK_h (h := 14) (by decide +kernel) rfl ?_
          refine x_catch (pc' := 16) (ls' := [_, _, _, _, _]) rfl rfl rfl rfl ?_
          refine x_iconst (pc' := 17) rfl rfl ?_
          refine x_reti rfl rfl ?_
          refine sK_i (pc' := 505) rfl ?_
          refine x_istore (pc' := 507) (ls' := [_, _, _, _, _, _, _]) rfl rfl rfl rfl ?_
          refine x_aload_n (pc' := 508) rfl rfl rfl rfl rfl ?_
          refine x_aload_n (pc' := 509) rfl rfl rfl rfl rfl ?_
          refine x_iload (pc' := 511) rfl rfl rfl ?_
          refine x_iconst (pc' := 512) rfl rfl ?_
          refine x_iadd (pc' := 513) (z := 1) rfl rfl (by decide) ?_
          refine x_iald (pc' := 514) (N := 7) (x := 2) rfl rfl rfl (Eq.trans rdNthr (z_N_29_0 e)) (io_in (p := 1) (N := 7) (by decide) (by decide)) (Eq.trans (congrArg (sA (sThr t) 29 0) (nn_io (p := 1) (by decide))) (Eq.trans rdAthr (Eq.trans (z_A_29_0_1 e) e0))) ?_
          refine x_aload_n (pc' := 515) rfl rfl rfl rfl rfl ?_
          refine x_iload (pc' := 517) rfl rfl rfl ?_
          refine x_iconst (pc' := 518) rfl rfl ?_
          refine x_iadd (pc' := 519) (z := 2) rfl rfl (by decide) ?_
          refine x_iald (pc' := 520) (N := 7) (x := (xs 2)) rfl rfl rfl (Eq.trans rdNthr (z_N_29_0 e)) (io_in (p := 2) (N := 7) (by decide) (by decide)) (Eq.trans (congrArg (sA (sThr t) 29 0) (nn_io (p := 2) (by decide))) (Eq.trans rdAthr (z_A_29_0_2 e))) ?_
          refine x_aload_n (pc' := 521) rfl rfl rfl rfl rfl ?_
          refine x_iload (pc' := 523) rfl rfl rfl ?_
          refine x_iconst (pc' := 524) rfl rfl ?_
          refine x_iadd (pc' := 525) (z := 3) rfl rfl (by decide) ?_
          refine x_iald (pc' := 526) (N := 7) (x := (xs 3)) rfl rfl rfl (Eq.trans rdNthr (z_N_29_0 e)) (io_in (p := 3) (N := 7) (by decide) (by decide)) (Eq.trans (congrArg (sA (sThr t) 29 0) (nn_io (p := 3) (by decide))) (Eq.trans rdAthr (z_A_29_0_3 e))) ?_
          refine x_cv (ls0 := [_, _, _, _]) (rest := []) rfl rfl rfl rfl rfl ?_
          refine x_aload_n (pc' := 1) rfl rfl rfl rfl rfl ?_
          refine x_iload_n (pc' := 2) rfl rfl rfl ?_
          refine x_cs (ls0 := [_]) (rest := [_]) rfl rfl rfl rfl ?_
          refine x_iload_n (pc' := 1) rfl rfl rfl ?_
          refine x_iconst (pc' := 2) rfl rfl ?_
          refine x_iconst (pc' := 3) rfl rfl ?_
          refine x_cs (ls0 := [_, _, _]) (rest := []) rfl rfl rfl rfl ?_
          refine x_iload_n (pc' := 1) rfl rfl rfl ?_
          refine x_iload_n (pc' := 2) rfl rfl rfl ?_
          refine x_icmp (a' := 14) (pc' := 5) (z := false) rfl rfl rfl (by decide) (fun h => by cases h) (fun _ => ?_)
          refine x_iload_n (pc' := 6) rfl rfl rfl ?_
          refine x_iload_n (pc' := 7) rfl rfl rfl ?_
          refine x_icmp (a' := 14) (pc' := 10) (z := false) rfl rfl rfl (by decide) (fun h => by cases h) (fun _ => ?_)
          refine x_iconst (pc' := 11) rfl rfl ?_
          refine x_goto (pc' := 15) rfl rfl ?_
          refine x_retz (z := true) rfl rfl ?_
          refine sK_i (pc' := 6) rfl ?_
          refine x_retz (z := true) rfl rfl ?_
          refine sK_i (pc' := 5) rfl ?_
          refine x_if (a' := 12) (pc' := 8) (z := true) rfl rfl rfl (by decide) (fun _ => ?_) (fun h => by cases h)
          refine x_iload_n (pc' := 13) rfl rfl rfl ?_
          refine x_iconst (pc' := 14) rfl rfl ?_
          refine x_sipush (pc' := 17) rfl rfl ?_
          refine x_cs (ls0 := [_, _, _]) (rest := [_]) rfl rfl rfl rfl ?_
          refine x_iload_n (pc' := 1) rfl rfl rfl ?_
          refine x_iload_n (pc' := 2) rfl rfl rfl ?_
          refine x_icmp (a' := 14) (pc' := 5) (z := decide ((xs 2) < 1)) rfl rfl rfl rfl (fun h => absurd (of_decide_eq_true h) (of_decide_eq_false q5)) (fun _ => ?_)
          refine x_iload_n (pc' := 6) rfl rfl rfl ?_
          refine x_iload_n (pc' := 7) rfl rfl rfl ?_
          refine x_icmp (a' := 14) (pc' := 10) (z := decide (999 < (xs 2))) rfl rfl rfl rfl (fun h => absurd (of_decide_eq_true h) (of_decide_eq_false q15)) (fun _ => ?_)
          refine x_iconst (pc' := 11) rfl rfl ?_
          refine x_goto (pc' := 15) rfl rfl ?_
          refine x_retz (z := true) rfl rfl ?_
          refine sK_i (pc' := 20) rfl ?_
          refine x_if (a' := 38) (pc' := 23) (z := false) rfl rfl rfl (by decide) (fun h => by cases h) (fun _ => ?_)
          refine x_iload_n (pc' := 24) rfl rfl rfl ?_
          refine x_iconst (pc' := 25) rfl rfl ?_
          refine x_sipush (pc' := 28) rfl rfl ?_
          refine x_cs (ls0 := [_, _, _]) (rest := [_]) rfl rfl rfl rfl ?_
          refine x_iload_n (pc' := 1) rfl rfl rfl ?_
          refine x_iload_n (pc' := 2) rfl rfl rfl ?_
          refine x_icmp (a' := 14) (pc' := 5) (z := decide ((xs 3) < 0)) rfl rfl rfl rfl (fun h => absurd (of_decide_eq_true h) (of_decide_eq_false q16)) (fun _ => ?_)
          refine x_iload_n (pc' := 6) rfl rfl rfl ?_
          refine x_iload_n (pc' := 7) rfl rfl rfl ?_
          refine x_icmp (a' := 14) (pc' := 10) (z := decide (999 < (xs 3))) rfl rfl rfl rfl (fun _ => ?_) (fun h => absurd (of_decide_eq_true q29) (of_decide_eq_false h))
          refine x_iconst (pc' := 15) rfl rfl ?_
          refine x_retz (z := false) rfl rfl ?_
          refine sK_i (pc' := 31) rfl ?_
          refine x_if (a' := 38) (pc' := 34) (z := true) rfl rfl rfl (by decide) (fun _ => ?_) (fun h => by cases h)
          refine x_iconst (pc' := 39) rfl rfl ?_
          refine x_cv (ls0 := [_, _]) (rest := []) rfl rfl rfl rfl rfl ?_
          refine x_aload_n (pc' := 1) rfl rfl rfl rfl rfl ?_
          refine x_iload_n (pc' := 2) rfl rfl rfl ?_
          refine x_pI (pc' := 5) rfl rfl rfl ?_
          refine x_iload_n (pc' := 6) rfl rfl rfl ?_
          refine x_if (a' := 13) (pc' := 9) (z := true) rfl rfl rfl (by decide) (fun _ => ?_) (fun h => by cases h)
          refine x_iconst (pc' := 14) rfl rfl ?_
          refine x_retz (z := false) rfl rfl ?_
          refine sK_i (pc' := 42) rfl ?_
          refine x_if (a' := 59) (pc' := 45) (z := true) rfl rfl rfl (by decide) (fun _ => ?_) (fun h => by cases h)
          refine x_ret rfl ?_
          refine sK_v (pc' := 529) rfl ?_
          refine x_aload_n (pc' := 530) rfl rfl rfl rfl rfl ?_
          refine x_cv (ls0 := [_]) (rest := []) rfl rfl rfl rfl rfl ?_
          refine x_aload_n (pc' := 1) rfl rfl rfl rfl rfl ?_
          refine x_gI (pc' := 4) (x := 2) rfl rfl rfl sI_s ?_
          refine x_reti rfl rfl ?_
          refine sK_i (pc' := 533) rfl ?_
          refine x_iload (pc' := 535) rfl rfl rfl ?_
          refine x_icmp (a' := 540) (pc' := 538) (z := true) rfl rfl rfl (by decide) (fun _ => ?_) (fun h => by cases h)
          refine x_goto (pc' := 2938) rfl rfl ?_
          refine x_iinc (pc' := 2941) (y := 7) (ls' := [_, _, _, _, _, _, _]) rfl rfl rfl rfl rfl ?_
          refine x_goto (pc' := 23) rfl rfl ?_
          refine x_iload (pc' := 25) rfl rfl rfl ?_
          refine x_aload_n (pc' := 26) rfl rfl rfl rfl rfl ?_
          refine x_alen (pc' := 27) (N := 7) rfl rfl rfl (Eq.trans rdNI (Eq.trans rdNthr (z_N_29_0 e))) (?_ : X _ _ _ (.inl 7 :: _) _ _)
          refine x_bipush (pc' := 29) rfl rfl ?_
          refine x_isub (pc' := 30) (z := 0) rfl rfl (by decide) ?_
          refine x_icmp (a' := 2944) (pc' := 33) (z := true) rfl rfl rfl (by decide) (fun _ => ?_) (fun h => by cases h)
          refine x_iconst (pc' := 2945) rfl rfl ?_
          refine x_retz (z := true) rfl rfl ?_
          exact Qp_ok e (p := 1) (q := 6) rfl rfl rfl rfl
    · refine x_throw rfl rfl ?_
      refine sK_n (by decide +kernel) rfl ?_
      refine sK_h (h := 14) (by decide +kernel) rfl ?_
      refine x_catch (pc' := 16) (ls' := [_, _, _, _, _]) rfl rfl rfl rfl ?_
      refine x_iconst (pc' := 17) rfl rfl ?_
      refine x_reti rfl rfl ?_
      refine sK_i (pc' := 505) rfl ?_
      refine x_istore (pc' := 507) (ls' := [_, _, _, _, _, _, _]) rfl rfl rfl rfl ?_
      refine x_aload_n (pc' := 508) rfl rfl rfl rfl rfl ?_
      refine x_aload_n (pc' := 509) rfl rfl rfl rfl rfl ?_
      refine x_iload (pc' := 511) rfl rfl rfl ?_
      refine x_iconst (pc' := 512) rfl rfl ?_
      refine x_iadd (pc' := 513) (z := 1) rfl rfl (by decide) ?_
      refine x_iald (pc' := 514) (N := 7) (x := 2) rfl rfl rfl (Eq.trans rdNthr (z_N_29_0 e)) (io_in (p := 1) (N := 7) (by decide) (by decide)) (Eq.trans (congrArg (sA (sThr t) 29 0) (nn_io (p := 1) (by decide))) (Eq.trans rdAthr (Eq.trans (z_A_29_0_1 e) e0))) ?_
      refine x_aload_n (pc' := 515) rfl rfl rfl rfl rfl ?_
      refine x_iload (pc' := 517) rfl rfl rfl ?_
      refine x_iconst (pc' := 518) rfl rfl ?_
      refine x_iadd (pc' := 519) (z := 2) rfl rfl (by decide) ?_
      refine x_iald (pc' := 520) (N := 7) (x := (xs 2)) rfl rfl rfl (Eq.trans rdNthr (z_N_29_0 e)) (io_in (p := 2) (N := 7) (by decide) (by decide)) (Eq.trans (congrArg (sA (sThr t) 29 0) (nn_io (p := 2) (by decide))) (Eq.trans rdAthr (z_A_29_0_2 e))) ?_
      refine x_aload_n (pc' := 521) rfl rfl rfl rfl rfl ?_
      refine x_iload (pc' := 523) rfl rfl rfl ?_
      refine x_iconst (pc' := 524) rfl rfl ?_
      refine x_iadd (pc' := 525) (z := 3) rfl rfl (by decide) ?_
      refine x_iald (pc' := 526) (N := 7) (x := (xs 3)) rfl rfl rfl (Eq.trans rdNthr (z_N_29_0 e)) (io_in (p := 3) (N := 7) (by decide) (by decide)) (Eq.trans (congrArg (sA (sThr t) 29 0) (nn_io (p := 3) (by decide))) (Eq.trans rdAthr (z_A_29_0_3 e))) ?_
      refine x_cv (ls0 := [_, _, _, _]) (rest := []) rfl rfl rfl rfl rfl ?_
      refine x_aload_n (pc' := 1) rfl rfl rfl rfl rfl ?_
      refine x_iload_n (pc' := 2) rfl rfl rfl ?_
      refine x_cs (ls0 := [_]) (rest := [_]) rfl rfl rfl rfl ?_
      refine x_iload_n (pc' := 1) rfl rfl rfl ?_
      refine x_iconst (pc' := 2) rfl rfl ?_
      refine x_iconst (pc' := 3) rfl rfl ?_
      refine x_cs (ls0 := [_, _, _]) (rest := []) rfl rfl rfl rfl ?_
      refine x_iload_n (pc' := 1) rfl rfl rfl ?_
      refine x_iload_n (pc' := 2) rfl rfl rfl ?_
      refine x_icmp (a' := 14) (pc' := 5) (z := false) rfl rfl rfl (by decide) (fun h => by cases h) (fun _ => ?_)
      refine x_iload_n (pc' := 6) rfl rfl rfl ?_
      refine x_iload_n (pc' := 7) rfl rfl rfl ?_
      refine x_icmp (a' := 14) (pc' := 10) (z := false) rfl rfl rfl (by decide) (fun h => by cases h) (fun _ => ?_)
      refine x_iconst (pc' := 11) rfl rfl ?_
      refine x_goto (pc' := 15) rfl rfl ?_
      refine x_retz (z := true) rfl rfl ?_
      refine sK_i (pc' := 6) rfl ?_
      refine x_retz (z := true) rfl rfl ?_
      refine sK_i (pc' := 5) rfl ?_
      refine x_if (a' := 12) (pc' := 8) (z := true) rfl rfl rfl (by decide) (fun _ => ?_) (fun h => by cases h)
      refine x_iload_n (pc' := 13) rfl rfl rfl ?_
      refine x_iconst (pc' := 14) rfl rfl ?_
      refine x_sipush (pc' := 17) rfl rfl ?_
      refine x_cs (ls0 := [_, _, _]) (rest := [_]) rfl rfl rfl rfl ?_
      refine x_iload_n (pc' := 1) rfl rfl rfl ?_
      refine x_iload_n (pc' := 2) rfl rfl rfl ?_
      refine x_icmp (a' := 14) (pc' := 5) (z := decide ((xs 2) < 1)) rfl rfl rfl rfl (fun h => absurd (of_decide_eq_true h) (of_decide_eq_false q5)) (fun _ => ?_)
      refine x_iload_n (pc' := 6) rfl rfl rfl ?_
      refine x_iload_n (pc' := 7) rfl rfl rfl ?_
      refine x_icmp (a' := 14) (pc' := 10) (z := decide (999 < (xs 2))) rfl rfl rfl rfl (fun _ => ?_) (fun h => absurd (of_decide_eq_true q15) (of_decide_eq_false h))
      refine x_iconst (pc' := 15) rfl rfl ?_
      refine x_retz (z := false) rfl rfl ?_
      refine sK_i (pc' := 20) rfl ?_
      refine x_if (a' := 38) (pc' := 23) (z := true) rfl rfl rfl (by decide) (fun _ => ?_) (fun h => by cases h)
      refine x_iconst (pc' := 39) rfl rfl ?_
      refine x_cv (ls0 := [_, _]) (rest := []) rfl rfl rfl rfl rfl ?_
      refine x_aload_n (pc' := 1) rfl rfl rfl rfl rfl ?_
      refine x_iload_n (pc' := 2) rfl rfl rfl ?_
      refine x_pI (pc' := 5) rfl rfl rfl ?_
      refine x_iload_n (pc' := 6) rfl rfl rfl ?_
      refine x_if (a' := 13) (pc' := 9) (z := true) rfl rfl rfl (by decide) (fun _ => ?_) (fun h => by cases h)
      refine x_iconst (pc' := 14) rfl rfl ?_
      refine x_retz (z := false) rfl rfl ?_
      refine sK_i (pc' := 42) rfl ?_
      refine x_if (a' := 59) (pc' := 45) (z := true) rfl rfl rfl (by decide) (fun _ => ?_) (fun h => by cases h)
      refine x_ret rfl ?_
      refine sK_v (pc' := 529) rfl ?_
      refine x_aload_n (pc' := 530) rfl rfl rfl rfl rfl ?_
      refine x_cv (ls0 := [_]) (rest := []) rfl rfl rfl rfl rfl ?_
      refine x_aload_n (pc' := 1) rfl rfl rfl rfl rfl ?_
      refine x_gI (pc' := 4) (x := 2) rfl rfl rfl sI_s ?_
      refine x_reti rfl rfl ?_
      refine sK_i (pc' := 533) rfl ?_
      refine x_iload (pc' := 535) rfl rfl rfl ?_
      refine x_icmp (a' := 540) (pc' := 538) (z := true) rfl rfl rfl (by decide) (fun _ => ?_) (fun h => by cases h)
      refine x_goto (pc' := 2938) rfl rfl ?_
      refine x_iinc (pc' := 2941) (y := 7) (ls' := [_, _, _, _, _, _, _]) rfl rfl rfl rfl rfl ?_
      refine x_goto (pc' := 23) rfl rfl ?_
      refine x_iload (pc' := 25) rfl rfl rfl ?_
      refine x_aload_n (pc' := 26) rfl rfl rfl rfl rfl ?_
      refine x_alen (pc' := 27) (N := 7) rfl rfl rfl (Eq.trans rdNI (Eq.trans rdNthr (z_N_29_0 e))) (?_ : X _ _ _ (.inl 7 :: _) _ _)
      refine x_bipush (pc' := 29) rfl rfl ?_
      refine x_isub (pc' := 30) (z := 0) rfl rfl (by decide) ?_
      refine x_icmp (a' := 2944) (pc' := 33) (z := true) rfl rfl rfl (by decide) (fun _ => ?_) (fun h => by cases h)
      refine x_iconst (pc' := 2945) rfl rfl ?_
      refine x_retz (z := true) rfl rfl ?_
      exact Qp_ok e (p := 1) (q := 6) rfl rfl rfl rfl
set_option maxHeartbeats 4000000 in
set_option maxRecDepth 10000 in
theorem v_4_A_i_i {t : sT} {xs : Nat → Int32}
    (e : t = T16 7 xs)
    (hk : ((xs 0) &&& 63) = 4)
    (e0 : (xs 1) < 0) :
    X 297 23 [.inr (.inr (29, (some 0))), .inr (.inr (11, (some 0))), .inr (.inr (12, (some 0))), .inr (.inr (23, (some 0))), .inl 0, sJk, sJk] [] t Qp := by
  refine x_iload (pc' := 25) rfl rfl rfl ?_
  refine x_aload_n (pc' := 26) rfl rfl rfl rfl rfl ?_
  refine x_alen (pc' := 27) (N := 7) rfl rfl rfl (z_N_29_0 e) (?_ : X _ _ _ (.inl 7 :: _) _ _)
  refine x_bipush (pc' := 29) rfl rfl ?_
  refine x_isub (pc' := 30) (z := 0) rfl rfl (by decide) ?_
  refine x_icmp (a' := 2944) (pc' := 33) (z := false) rfl rfl rfl (by decide) (fun h => by cases h) (fun _ => ?_)
  refine x_aload_n (pc' := 34) rfl rfl rfl rfl rfl ?_
  refine x_iload (pc' := 36) rfl rfl rfl ?_
  refine x_iald (pc' := 37) (N := 7) (x := (xs 0)) rfl rfl rfl (z_N_29_0 e) (io_in (p := 0) (N := 7) (by decide) (by decide)) (Eq.trans (congrArg (sA t 29 0) (nn_io (p := 0) (by decide))) (z_A_29_0_0 e)) ?_
  refine x_bipush (pc' := 39) rfl rfl ?_
  refine x_iand (pc' := 40) (z := ((xs 0) &&& 63)) rfl rfl rfl ?_
  refine x_switch (pc' := 483) rfl (by rw [hk]; decide) ?_
  refine x_aload_n (pc' := 484) rfl rfl rfl rfl rfl ?_
  refine x_aload_n (pc' := 485) rfl rfl rfl rfl rfl ?_
  refine x_iload (pc' := 487) rfl rfl rfl ?_
  refine x_iconst (pc' := 488) rfl rfl ?_
  refine x_iadd (pc' := 489) (z := 1) rfl rfl (by decide) ?_
  refine x_iald (pc' := 490) (N := 7) (x := (xs 1)) rfl rfl rfl (z_N_29_0 e) (io_in (p := 1) (N := 7) (by decide) (by decide)) (Eq.trans (congrArg (sA t 29 0) (nn_io (p := 1) (by decide))) (z_A_29_0_1 e)) ?_
  refine x_aload_n (pc' := 491) rfl rfl rfl rfl rfl ?_
  refine x_iload (pc' := 493) rfl rfl rfl ?_
  refine x_iconst (pc' := 494) rfl rfl ?_
  refine x_iadd (pc' := 495) (z := 2) rfl rfl (by decide) ?_
  refine x_iald (pc' := 496) (N := 7) (x := (xs 2)) rfl rfl rfl (z_N_29_0 e) (io_in (p := 2) (N := 7) (by decide) (by decide)) (Eq.trans (congrArg (sA t 29 0) (nn_io (p := 2) (by decide))) (z_A_29_0_2 e)) ?_
  refine x_aload_n (pc' := 497) rfl rfl rfl rfl rfl ?_
  refine x_iload (pc' := 499) rfl rfl rfl ?_
  refine x_iconst (pc' := 500) rfl rfl ?_
  refine x_iadd (pc' := 501) (z := 3) rfl rfl (by decide) ?_
  refine x_iald (pc' := 502) (N := 7) (x := (xs 3)) rfl rfl rfl (z_N_29_0 e) (io_in (p := 3) (N := 7) (by decide) (by decide)) (Eq.trans (congrArg (sA t 29 0) (nn_io (p := 3) (by decide))) (z_A_29_0_3 e)) ?_
  refine x_cs (ls0 := [_, _, _, _, sJk]) (rest := []) rfl rfl rfl rfl ?_
  refine x_aload_n (pc' := 1) rfl rfl rfl rfl rfl ?_
  refine x_iload_n (pc' := 2) rfl rfl rfl ?_
  refine x_iload_n (pc' := 3) rfl rfl rfl ?_
  refine x_iload_n (pc' := 4) rfl rfl rfl ?_
  refine x_cv (ls0 := [_, _, _, _, sJk]) (rest := []) rfl rfl rfl rfl rfl ?_
  refine x_aload_n (pc' := 1) rfl rfl rfl rfl rfl ?_
  refine x_iload_n (pc' := 2) rfl rfl rfl ?_
  refine x_cv (ls0 := [_, _]) (rest := []) rfl rfl rfl rfl rfl ?_
  refine x_iload_n (pc' := 1) rfl rfl rfl ?_
  refine x_if (a' := 16) (pc' := 4) (z := decide ((xs 1) < 0)) rfl rfl rfl rfl (fun _ => ?_) (fun h => absurd e0 (of_decide_eq_false h))
  refine x_throw rfl rfl ?_
  refine sK_n (by decide +kernel) rfl ?_
  refine sK_h (h := 10) (by decide +kernel) rfl ?_
  refine x_catch (pc' := 12) (ls' := [_, _, _, _, _]) rfl rfl rfl rfl ?_
  refine x_iconst (pc' := 13) rfl rfl ?_
  refine x_reti rfl rfl ?_
  refine sK_i (pc' := 505) rfl ?_
  refine x_istore (pc' := 507) (ls' := [_, _, _, _, _, _, _]) rfl rfl rfl rfl ?_
  refine x_aload_n (pc' := 508) rfl rfl rfl rfl rfl ?_
  refine x_aload_n (pc' := 509) rfl rfl rfl rfl rfl ?_
  refine x_iload (pc' := 511) rfl rfl rfl ?_
  refine x_iconst (pc' := 512) rfl rfl ?_
  refine x_iadd (pc' := 513) (z := 1) rfl rfl (by decide) ?_
  refine x_iald (pc' := 514) (N := 7) (x := (xs 1)) rfl rfl rfl (Eq.trans rdNthr (z_N_29_0 e)) (io_in (p := 1) (N := 7) (by decide) (by decide)) (Eq.trans (congrArg (sA (sThr t) 29 0) (nn_io (p := 1) (by decide))) (Eq.trans rdAthr (z_A_29_0_1 e))) ?_
  refine x_aload_n (pc' := 515) rfl rfl rfl rfl rfl ?_
  refine x_iload (pc' := 517) rfl rfl rfl ?_
  refine x_iconst (pc' := 518) rfl rfl ?_
  refine x_iadd (pc' := 519) (z := 2) rfl rfl (by decide) ?_
  refine x_iald (pc' := 520) (N := 7) (x := (xs 2)) rfl rfl rfl (Eq.trans rdNthr (z_N_29_0 e)) (io_in (p := 2) (N := 7) (by decide) (by decide)) (Eq.trans (congrArg (sA (sThr t) 29 0) (nn_io (p := 2) (by decide))) (Eq.trans rdAthr (z_A_29_0_2 e))) ?_
  refine x_aload_n (pc' := 521) rfl rfl rfl rfl rfl ?_
  refine x_iload (pc' := 523) rfl rfl rfl ?_
  refine x_iconst (pc' := 524) rfl rfl ?_
  refine x_iadd (pc' := 525) (z := 3) rfl rfl (by decide) ?_
  refine x_iald (pc' := 526) (N := 7) (x := (xs 3)) rfl rfl rfl (Eq.trans rdNthr (z_N_29_0 e)) (io_in (p := 3) (N := 7) (by decide) (by decide)) (Eq.trans (congrArg (sA (sThr t) 29 0) (nn_io (p := 3) (by decide))) (Eq.trans rdAthr (z_A_29_0_3 e))) ?_
  refine x_cv (ls0 := [_, _, _, _]) (rest := []) rfl rfl rfl rfl rfl ?_
  refine x_aload_n (pc' := 1) rfl rfl rfl rfl rfl ?_
  refine x_iload_n (pc' := 2) rfl rfl rfl ?_
  refine x_cs (ls0 := [_]) (rest := [_]) rfl rfl rfl rfl ?_
  refine x_iload_n (pc' := 1) rfl rfl rfl ?_
  refine x_iconst (pc' := 2) rfl rfl ?_
  refine x_iconst (pc' := 3) rfl rfl ?_
  refine x_cs (ls0 := [_, _, _]) (rest := []) rfl rfl rfl rfl ?_
  refine x_iload_n (pc' := 1) rfl rfl rfl ?_
  refine x_iload_n (pc' := 2) rfl rfl rfl ?_
  refine x_icmp (a' := 14) (pc' := 5) (z := decide ((xs 1) < 0)) rfl rfl rfl rfl (fun _ => ?_) (fun h => absurd e0 (of_decide_eq_false h))
  refine x_iconst (pc' := 15) rfl rfl ?_
  refine x_retz (z := false) rfl rfl ?_
  refine sK_i (pc' := 6) rfl ?_
  refine x_retz (z := false) rfl rfl ?_
  refine sK_i (pc' := 5) rfl ?_
  refine x_if (a' := 12) (pc' := 8) (z := false) rfl rfl rfl (by decide) (fun h => by cases h) (fun _ => ?_)
  refine x_iconst (pc' := 9) rfl rfl ?_
  refine x_goto (pc' := 39) rfl rfl ?_
  refine x_cv (ls0 := [_, _]) (rest := []) rfl rfl rfl rfl rfl ?_
  refine x_aload_n (pc' := 1) rfl rfl rfl rfl rfl ?_
  refine x_iload_n (pc' := 2) rfl rfl rfl ?_
  refine x_pI (pc' := 5) rfl rfl rfl ?_
  refine x_iload_n (pc' := 6) rfl rfl rfl ?_
  refine x_if (a' := 13) (pc' := 9) (z := true) rfl rfl rfl (by decide) (fun _ => ?_) (fun h => by cases h)
  refine x_iconst (pc' := 14) rfl rfl ?_
  refine x_retz (z := false) rfl rfl ?_
  refine sK_i (pc' := 42) rfl ?_
  refine x_if (a' := 59) (pc' := 45) (z := true) rfl rfl rfl (by decide) (fun _ => ?_) (fun h => by cases h)
  refine x_ret rfl ?_
  refine sK_v (pc' := 529) rfl ?_
  refine x_aload_n (pc' := 530) rfl rfl rfl rfl rfl ?_
  refine x_cv (ls0 := [_]) (rest := []) rfl rfl rfl rfl rfl ?_
  refine x_aload_n (pc' := 1) rfl rfl rfl rfl rfl ?_
  refine x_gI (pc' := 4) (x := 1) rfl rfl rfl sI_s ?_
  refine x_reti rfl rfl ?_
  refine sK_i (pc' := 533) rfl ?_
  refine x_iload (pc' := 535) rfl rfl rfl ?_
  refine x_icmp (a' := 540) (pc' := 538) (z := true) rfl rfl rfl (by decide) (fun _ => ?_) (fun h => by cases h)
  refine x_goto (pc' := 2938) rfl rfl ?_
  refine x_iinc (pc' := 2941) (y := 7) (ls' := [_, _, _, _, _, _, _]) rfl rfl rfl rfl rfl ?_
  refine x_goto (pc' := 23) rfl rfl ?_
  refine x_iload (pc' := 25) rfl rfl rfl ?_
  refine x_aload_n (pc' := 26) rfl rfl rfl rfl rfl ?_
  refine x_alen (pc' := 27) (N := 7) rfl rfl rfl (Eq.trans rdNI (Eq.trans rdNthr (z_N_29_0 e))) (?_ : X _ _ _ (.inl 7 :: _) _ _)
  refine x_bipush (pc' := 29) rfl rfl ?_
  refine x_isub (pc' := 30) (z := 0) rfl rfl (by decide) ?_
  refine x_icmp (a' := 2944) (pc' := 33) (z := true) rfl rfl rfl (by decide) (fun _ => ?_) (fun h => by cases h)
  refine x_iconst (pc' := 2945) rfl rfl ?_
  refine x_retz (z := true) rfl rfl ?_
  exact Qp_ok e (p := 1) (q := 6) rfl rfl rfl rfl
set_option maxHeartbeats 4000000 in
set_option maxRecDepth 10000 in
theorem v_4_B_i_i {t : sT} {xs : Nat → Int32}
    (e : t = T16 7 xs)
    (hk : ((xs 0) &&& 63) = 4)
    (e0 : ¬ (xs 1) < 0)
    (f0 : ¬ (xs 1) < 3) :
    X 297 23 [.inr (.inr (29, (some 0))), .inr (.inr (11, (some 0))), .inr (.inr (12, (some 0))), .inr (.inr (23, (some 0))), .inl 0, sJk, sJk] [] t Qp := by
  refine x_iload (pc' := 25) rfl rfl rfl ?_
  refine x_aload_n (pc' := 26) rfl rfl rfl rfl rfl ?_
  refine x_alen (pc' := 27) (N := 7) rfl rfl rfl (z_N_29_0 e) (?_ : X _ _ _ (.inl 7 :: _) _ _)
  refine x_bipush (pc' := 29) rfl rfl ?_
  refine x_isub (pc' := 30) (z := 0) rfl rfl (by decide) ?_
  refine x_icmp (a' := 2944) (pc' := 33) (z := false) rfl rfl rfl (by decide) (fun h => by cases h) (fun _ => ?_)
  refine x_aload_n (pc' := 34) rfl rfl rfl rfl rfl ?_
  refine x_iload (pc' := 36) rfl rfl rfl ?_
  refine x_iald (pc' := 37) (N := 7) (x := (xs 0)) rfl rfl rfl (z_N_29_0 e) (io_in (p := 0) (N := 7) (by decide) (by decide)) (Eq.trans (congrArg (sA t 29 0) (nn_io (p := 0) (by decide))) (z_A_29_0_0 e)) ?_
  refine x_bipush (pc' := 39) rfl rfl ?_
  refine x_iand (pc' := 40) (z := ((xs 0) &&& 63)) rfl rfl rfl ?_
  refine x_switch (pc' := 483) rfl (by rw [hk]; decide) ?_
  refine x_aload_n (pc' := 484) rfl rfl rfl rfl rfl ?_
  refine x_aload_n (pc' := 485) rfl rfl rfl rfl rfl ?_
  refine x_iload (pc' := 487) rfl rfl rfl ?_
  refine x_iconst (pc' := 488) rfl rfl ?_
  refine x_iadd (pc' := 489) (z := 1) rfl rfl (by decide) ?_
  refine x_iald (pc' := 490) (N := 7) (x := (xs 1)) rfl rfl rfl (z_N_29_0 e) (io_in (p := 1) (N := 7) (by decide) (by decide)) (Eq.trans (congrArg (sA t 29 0) (nn_io (p := 1) (by decide))) (z_A_29_0_1 e)) ?_
  refine x_aload_n (pc' := 491) rfl rfl rfl rfl rfl ?_
  refine x_iload (pc' := 493) rfl rfl rfl ?_
  refine x_iconst (pc' := 494) rfl rfl ?_
  refine x_iadd (pc' := 495) (z := 2) rfl rfl (by decide) ?_
  refine x_iald (pc' := 496) (N := 7) (x := (xs 2)) rfl rfl rfl (z_N_29_0 e) (io_in (p := 2) (N := 7) (by decide) (by decide)) (Eq.trans (congrArg (sA t 29 0) (nn_io (p := 2) (by decide))) (z_A_29_0_2 e)) ?_
  refine x_aload_n (pc' := 497) rfl rfl rfl rfl rfl ?_
  refine x_iload (pc' := 499) rfl rfl rfl ?_
  refine x_iconst (pc' := 500) rfl rfl ?_
  refine x_iadd (pc' := 501) (z := 3) rfl rfl (by decide) ?_
  refine x_iald (pc' := 502) (N := 7) (x := (xs 3)) rfl rfl rfl (z_N_29_0 e) (io_in (p := 3) (N := 7) (by decide) (by decide)) (Eq.trans (congrArg (sA t 29 0) (nn_io (p := 3) (by decide))) (z_A_29_0_3 e)) ?_
  refine x_cs (ls0 := [_, _, _, _, sJk]) (rest := []) rfl rfl rfl rfl ?_
  refine x_aload_n (pc' := 1) rfl rfl rfl rfl rfl ?_
  refine x_iload_n (pc' := 2) rfl rfl rfl ?_
  refine x_iload_n (pc' := 3) rfl rfl rfl ?_
  refine x_iload_n (pc' := 4) rfl rfl rfl ?_
  refine x_cv (ls0 := [_, _, _, _, sJk]) (rest := []) rfl rfl rfl rfl rfl ?_
  refine x_aload_n (pc' := 1) rfl rfl rfl rfl rfl ?_
  refine x_iload_n (pc' := 2) rfl rfl rfl ?_
  refine x_cv (ls0 := [_, _]) (rest := []) rfl rfl rfl rfl rfl ?_
  refine x_iload_n (pc' := 1) rfl rfl rfl ?_
  refine x_if (a' := 16) (pc' := 4) (z := decide ((xs 1) < 0)) rfl rfl rfl rfl (fun h => absurd (of_decide_eq_true h) e0) (fun _ => ?_)
  refine x_iload_n (pc' := 5) rfl rfl rfl ?_
  refine x_aload_n (pc' := 6) rfl rfl rfl rfl rfl ?_
  refine x_gR (pc' := 9) (r := (some 0)) rfl rfl rfl (z_R_704_0 e) ?_
  refine x_gR (pc' := 12) (r := (some 0)) rfl rfl rfl (z_R_320_0 e) ?_
  refine x_alen (pc' := 13) (N := 3) rfl rfl rfl (z_N_25_0 e) (?_ : X _ _ _ (.inl 3 :: _) _ _)
  refine x_icmp (a' := 27) (pc' := 16) (z := decide ((xs 1) < 3)) rfl rfl rfl rfl (fun h => absurd (of_decide_eq_true h) f0) (fun _ => ?_)
  refine x_throw rfl rfl ?_
  refine sK_n (by decide +kernel) rfl ?_
  refine sK_h (h := 10) (by decide +kernel) rfl ?_
  refine x_catch (pc' := 12) (ls' := [_, _, _, _, _]) rfl rfl rfl rfl ?_
  refine x_iconst (pc' := 13) rfl rfl ?_
  refine x_reti rfl rfl ?_
  refine sK_i (pc' := 505) rfl ?_
  refine x_istore (pc' := 507) (ls' := [_, _, _, _, _, _, _]) rfl rfl rfl rfl ?_
  refine x_aload_n (pc' := 508) rfl rfl rfl rfl rfl ?_
  refine x_aload_n (pc' := 509) rfl rfl rfl rfl rfl ?_
  refine x_iload (pc' := 511) rfl rfl rfl ?_
  refine x_iconst (pc' := 512) rfl rfl ?_
  refine x_iadd (pc' := 513) (z := 1) rfl rfl (by decide) ?_
  refine x_iald (pc' := 514) (N := 7) (x := (xs 1)) rfl rfl rfl (Eq.trans rdNthr (z_N_29_0 e)) (io_in (p := 1) (N := 7) (by decide) (by decide)) (Eq.trans (congrArg (sA (sThr t) 29 0) (nn_io (p := 1) (by decide))) (Eq.trans rdAthr (z_A_29_0_1 e))) ?_
  refine x_aload_n (pc' := 515) rfl rfl rfl rfl rfl ?_
  refine x_iload (pc' := 517) rfl rfl rfl ?_
  refine x_iconst (pc' := 518) rfl rfl ?_
  refine x_iadd (pc' := 519) (z := 2) rfl rfl (by decide) ?_
  refine x_iald (pc' := 520) (N := 7) (x := (xs 2)) rfl rfl rfl (Eq.trans rdNthr (z_N_29_0 e)) (io_in (p := 2) (N := 7) (by decide) (by decide)) (Eq.trans (congrArg (sA (sThr t) 29 0) (nn_io (p := 2) (by decide))) (Eq.trans rdAthr (z_A_29_0_2 e))) ?_
  refine x_aload_n (pc' := 521) rfl rfl rfl rfl rfl ?_
  refine x_iload (pc' := 523) rfl rfl rfl ?_
  refine x_iconst (pc' := 524) rfl rfl ?_
  refine x_iadd (pc' := 525) (z := 3) rfl rfl (by decide) ?_
  refine x_iald (pc' := 526) (N := 7) (x := (xs 3)) rfl rfl rfl (Eq.trans rdNthr (z_N_29_0 e)) (io_in (p := 3) (N := 7) (by decide) (by decide)) (Eq.trans (congrArg (sA (sThr t) 29 0) (nn_io (p := 3) (by decide))) (Eq.trans rdAthr (z_A_29_0_3 e))) ?_
  refine x_cv (ls0 := [_, _, _, _]) (rest := []) rfl rfl rfl rfl rfl ?_
  refine x_aload_n (pc' := 1) rfl rfl rfl rfl rfl ?_
  refine x_iload_n (pc' := 2) rfl rfl rfl ?_
  refine x_cs (ls0 := [_]) (rest := [_]) rfl rfl rfl rfl ?_
  refine x_iload_n (pc' := 1) rfl rfl rfl ?_
  refine x_iconst (pc' := 2) rfl rfl ?_
  refine x_iconst (pc' := 3) rfl rfl ?_
  refine x_cs (ls0 := [_, _, _]) (rest := []) rfl rfl rfl rfl ?_
  refine x_iload_n (pc' := 1) rfl rfl rfl ?_
  refine x_iload_n (pc' := 2) rfl rfl rfl ?_
  refine x_icmp (a' := 14) (pc' := 5) (z := decide ((xs 1) < 0)) rfl rfl rfl rfl (fun h => absurd (of_decide_eq_true h) e0) (fun _ => ?_)
  refine x_iload_n (pc' := 6) rfl rfl rfl ?_
  refine x_iload_n (pc' := 7) rfl rfl rfl ?_
  refine x_icmp (a' := 14) (pc' := 10) (z := decide (2 < (xs 1))) rfl rfl rfl rfl (fun _ => ?_) (fun h => absurd (lt_of3 f0) (of_decide_eq_false h))
  refine x_iconst (pc' := 15) rfl rfl ?_
  refine x_retz (z := false) rfl rfl ?_
  refine sK_i (pc' := 6) rfl ?_
  refine x_retz (z := false) rfl rfl ?_
  refine sK_i (pc' := 5) rfl ?_
  refine x_if (a' := 12) (pc' := 8) (z := false) rfl rfl rfl (by decide) (fun h => by cases h) (fun _ => ?_)
  refine x_iconst (pc' := 9) rfl rfl ?_
  refine x_goto (pc' := 39) rfl rfl ?_
  refine x_cv (ls0 := [_, _]) (rest := []) rfl rfl rfl rfl rfl ?_
  refine x_aload_n (pc' := 1) rfl rfl rfl rfl rfl ?_
  refine x_iload_n (pc' := 2) rfl rfl rfl ?_
  refine x_pI (pc' := 5) rfl rfl rfl ?_
  refine x_iload_n (pc' := 6) rfl rfl rfl ?_
  refine x_if (a' := 13) (pc' := 9) (z := true) rfl rfl rfl (by decide) (fun _ => ?_) (fun h => by cases h)
  refine x_iconst (pc' := 14) rfl rfl ?_
  refine x_retz (z := false) rfl rfl ?_
  refine sK_i (pc' := 42) rfl ?_
  refine x_if (a' := 59) (pc' := 45) (z := true) rfl rfl rfl (by decide) (fun _ => ?_) (fun h => by cases h)
  refine x_ret rfl ?_
  refine sK_v (pc' := 529) rfl ?_
  refine x_aload_n (pc' := 530) rfl rfl rfl rfl rfl ?_
  refine x_cv (ls0 := [_]) (rest := []) rfl rfl rfl rfl rfl ?_
  refine x_aload_n (pc' := 1) rfl rfl rfl rfl rfl ?_
  refine x_gI (pc' := 4) (x := 1) rfl rfl rfl sI_s ?_
  refine x_reti rfl rfl ?_
  refine sK_i (pc' := 533) rfl ?_
  refine x_iload (pc' := 535) rfl rfl rfl ?_
  refine x_icmp (a' := 540) (pc' := 538) (z := true) rfl rfl rfl (by decide) (fun _ => ?_) (fun h => by cases h)
  refine x_goto (pc' := 2938) rfl rfl ?_
  refine x_iinc (pc' := 2941) (y := 7) (ls' := [_, _, _, _, _, _, _]) rfl rfl rfl rfl rfl ?_
  refine x_goto (pc' := 23) rfl rfl ?_
  refine x_iload (pc' := 25) rfl rfl rfl ?_
  refine x_aload_n (pc' := 26) rfl rfl rfl rfl rfl ?_
  refine x_alen (pc' := 27) (N := 7) rfl rfl rfl (Eq.trans rdNI (Eq.trans rdNthr (z_N_29_0 e))) (?_ : X _ _ _ (.inl 7 :: _) _ _)
  refine x_bipush (pc' := 29) rfl rfl ?_
  refine x_isub (pc' := 30) (z := 0) rfl rfl (by decide) ?_
  refine x_icmp (a' := 2944) (pc' := 33) (z := true) rfl rfl rfl (by decide) (fun _ => ?_) (fun h => by cases h)
  refine x_iconst (pc' := 2945) rfl rfl ?_
  refine x_retz (z := true) rfl rfl ?_
  exact Qp_ok e (p := 1) (q := 6) rfl rfl rfl rfl
set_option maxHeartbeats 4000000 in
set_option maxRecDepth 10000 in
theorem v_6_v_i {t : sT} {xs : Nat → Int32} {m : Nat}
    (e : t = T16 7 xs)
    (hk : ((xs 0) &&& 63) = 6)
    (hm : m < 6)
    (e0 : xs 1 = io m) :
    X 297 23 [.inr (.inr (29, (some 0))), .inr (.inr (11, (some 0))), .inr (.inr (12, (some 0))), .inr (.inr (23, (some 0))), .inl 0, sJk, sJk] [] t Qp := by
  refine x_iload (pc' := 25) rfl rfl rfl ?_
  refine x_aload_n (pc' := 26) rfl rfl rfl rfl rfl ?_
  refine x_alen (pc' := 27) (N := 7) rfl rfl rfl (z_N_29_0 e) (?_ : X _ _ _ (.inl 7 :: _) _ _)
  refine x_bipush (pc' := 29) rfl rfl ?_
  refine x_isub (pc' := 30) (z := 0) rfl rfl (by decide) ?_
  refine x_icmp (a' := 2944) (pc' := 33) (z := false) rfl rfl rfl (by decide) (fun h => by cases h) (fun _ => ?_)
  refine x_aload_n (pc' := 34) rfl rfl rfl rfl rfl ?_
  refine x_iload (pc' := 36) rfl rfl rfl ?_
  refine x_iald (pc' := 37) (N := 7) (x := (xs 0)) rfl rfl rfl (z_N_29_0 e) (io_in (p := 0) (N := 7) (by decide) (by decide)) (Eq.trans (congrArg (sA t 29 0) (nn_io (p := 0) (by decide))) (z_A_29_0_0 e)) ?_
  refine x_bipush (pc' := 39) rfl rfl ?_
  refine x_iand (pc' := 40) (z := ((xs 0) &&& 63)) rfl rfl rfl ?_
  refine x_switch (pc' := 611) rfl (by rw [hk]; decide) ?_
  refine x_aload_n (pc' := 612) rfl rfl rfl rfl rfl ?_
  refine x_aload_n (pc' := 613) rfl rfl rfl rfl rfl ?_
  refine x_iload (pc' := 615) rfl rfl rfl ?_
  refine x_iconst (pc' := 616) rfl rfl ?_
  refine x_iadd (pc' := 617) (z := 1) rfl rfl (by decide) ?_
  refine x_iald (pc' := 618) (N := 7) (x := (io m)) rfl rfl rfl (z_N_29_0 e) (io_in (p := 1) (N := 7) (by decide) (by decide)) (Eq.trans (congrArg (sA t 29 0) (nn_io (p := 1) (by decide))) (Eq.trans (z_A_29_0_1 e) e0)) ?_
  refine x_aload_n (pc' := 619) rfl rfl rfl rfl rfl ?_
  refine x_iload (pc' := 621) rfl rfl rfl ?_
  refine x_iconst (pc' := 622) rfl rfl ?_
  refine x_iadd (pc' := 623) (z := 2) rfl rfl (by decide) ?_
  refine x_iald (pc' := 624) (N := 7) (x := (xs 2)) rfl rfl rfl (z_N_29_0 e) (io_in (p := 2) (N := 7) (by decide) (by decide)) (Eq.trans (congrArg (sA t 29 0) (nn_io (p := 2) (by decide))) (z_A_29_0_2 e)) ?_
  refine x_aload_n (pc' := 625) rfl rfl rfl rfl rfl ?_
  refine x_cs (ls0 := [_, _, _, _, sJk]) (rest := []) rfl rfl rfl rfl ?_
  refine x_aload_n (pc' := 1) rfl rfl rfl rfl rfl ?_
  refine x_iconst (pc' := 2) rfl rfl ?_
  refine x_aload_n (pc' := 3) rfl rfl rfl rfl rfl ?_
  refine x_iload_n (pc' := 4) rfl rfl rfl ?_
  refine x_iload_n (pc' := 5) rfl rfl rfl ?_
  refine x_cv (ls0 := [_, _, _, sJk, sJk]) (rest := [_, _]) rfl rfl rfl rfl rfl ?_
  refine x_aload_n (pc' := 1) rfl rfl rfl rfl rfl ?_
  refine x_iload_n (pc' := 2) rfl rfl rfl ?_
  refine x_cv (ls0 := [_, _]) (rest := []) rfl rfl rfl rfl rfl ?_
  refine x_iload_n (pc' := 1) rfl rfl rfl ?_
  refine x_if (a' := 16) (pc' := 4) (z := decide (m < 0)) rfl rfl rfl (ic_lt (p := m) (q := 0) (Nat.lt_trans hm (by decide)) (by decide)) (fun h => absurd (of_decide_eq_true h) (by first | decide | omega | simp)) (fun _ => ?_)
  refine x_iload_n (pc' := 5) rfl rfl rfl ?_
  refine x_aload_n (pc' := 6) rfl rfl rfl rfl rfl ?_
  refine x_gR (pc' := 9) (r := (some 0)) rfl rfl rfl (z_R_704_0 e) ?_
  refine x_gR (pc' := 12) (r := (some 0)) rfl rfl rfl (z_R_321_0 e) ?_
  refine x_alen (pc' := 13) (N := 6) rfl rfl rfl (z_N_26_0 e) (?_ : X _ _ _ (.inl 6 :: _) _ _)
  refine x_icmp (a' := 27) (pc' := 16) (z := decide (m < 6)) rfl rfl rfl (ic_lt (p := m) (q := 6) (Nat.lt_trans hm (by decide)) (by decide)) (fun _ => ?_) (fun h => absurd (Nat.lt_of_lt_of_le hm (by decide)) (of_decide_eq_false h))
  refine x_aload_n (pc' := 28) rfl rfl rfl rfl rfl ?_
  refine x_gR (pc' := 31) (r := (some 0)) rfl rfl rfl (z_R_704_0 e) ?_
  refine x_gR (pc' := 34) (r := (some 0)) rfl rfl rfl (z_R_321_0 e) ?_
  refine x_iload_n (pc' := 35) rfl rfl rfl ?_
  refine x_aald (pc' := 36) (N := 6) (k' := 7) (r := (some m)) rfl rfl rfl (z_N_26_0 e) (io_in (p := m) (N := 6) hm (by decide)) (Eq.trans (congrArg (sE t 26 0) (nn_io (p := m) (Nat.lt_trans hm (by decide)))) (kM (Cn_e e) hm)) ?_
  refine x_reta rfl rfl ?_
  refine sK_i (pc' := 5) rfl ?_
  refine x_astore_n (pc' := 6) (ls' := [_, _, _, _, _]) rfl rfl rfl rfl rfl ?_
  refine x_iload_n (pc' := 7) rfl rfl rfl ?_
  refine x_iconst (pc' := 8) rfl rfl ?_
  refine x_ldc (pc' := 10) rfl rfl ?_
  refine x_cs (ls0 := [_, _, _]) (rest := []) rfl rfl rfl rfl ?_
  refine x_iload_n (pc' := 1) rfl rfl rfl ?_
  refine x_iload_n (pc' := 2) rfl rfl rfl ?_
  refine x_icmp (a' := 10) (pc' := 5) (z := decide ((xs 2) < 0)) rfl rfl rfl rfl (fun q5 => ?_) (fun q5 => ?_)
  · refine x_throw rfl rfl ?_
    refine sK_n (by decide +kernel) rfl ?_
    refine sK_h (h := 17) (by decide +kernel) rfl ?_
    refine x_catch (pc' := 19) (ls' := [_, _, _, _, _]) rfl rfl rfl rfl ?_
    refine x_iconst (pc' := 20) rfl rfl ?_
    refine x_reti rfl rfl ?_
    refine sK_i (pc' := 628) rfl ?_
    refine x_istore (pc' := 630) (ls' := [_, _, _, _, _, _, _]) rfl rfl rfl rfl ?_
    refine x_aload_n (pc' := 631) rfl rfl rfl rfl rfl ?_
    refine x_aload_n (pc' := 632) rfl rfl rfl rfl rfl ?_
    refine x_iload (pc' := 634) rfl rfl rfl ?_
    refine x_iconst (pc' := 635) rfl rfl ?_
    refine x_iadd (pc' := 636) (z := 1) rfl rfl (by decide) ?_
    refine x_iald (pc' := 637) (N := 7) (x := (io m)) rfl rfl rfl (Eq.trans rdNthr (z_N_29_0 e)) (io_in (p := 1) (N := 7) (by decide) (by decide)) (Eq.trans (congrArg (sA (sThr t) 29 0) (nn_io (p := 1) (by decide))) (Eq.trans rdAthr (Eq.trans (z_A_29_0_1 e) e0))) ?_
    refine x_aload_n (pc' := 638) rfl rfl rfl rfl rfl ?_
    refine x_iload (pc' := 640) rfl rfl rfl ?_
    refine x_iconst (pc' := 641) rfl rfl ?_
    refine x_iadd (pc' := 642) (z := 2) rfl rfl (by decide) ?_
    refine x_iald (pc' := 643) (N := 7) (x := (xs 2)) rfl rfl rfl (Eq.trans rdNthr (z_N_29_0 e)) (io_in (p := 2) (N := 7) (by decide) (by decide)) (Eq.trans (congrArg (sA (sThr t) 29 0) (nn_io (p := 2) (by decide))) (Eq.trans rdAthr (z_A_29_0_2 e))) ?_
    refine x_cv (ls0 := [_, _, _, sJk, sJk]) (rest := []) rfl rfl rfl rfl rfl ?_
    refine x_iload_n (pc' := 1) rfl rfl rfl ?_
    refine x_cs (ls0 := [_]) (rest := []) rfl rfl rfl rfl ?_
    refine x_iload_n (pc' := 1) rfl rfl rfl ?_
    refine x_iconst (pc' := 2) rfl rfl ?_
    refine x_iconst (pc' := 3) rfl rfl ?_
    refine x_cs (ls0 := [_, _, _]) (rest := []) rfl rfl rfl rfl ?_
    refine x_iload_n (pc' := 1) rfl rfl rfl ?_
    refine x_iload_n (pc' := 2) rfl rfl rfl ?_
    refine x_icmp (a' := 14) (pc' := 5) (z := decide (m < 0)) rfl rfl rfl (ic_lt (p := m) (q := 0) (Nat.lt_trans hm (by decide)) (by decide)) (fun h => absurd (of_decide_eq_true h) (by first | decide | omega | simp)) (fun _ => ?_)
    refine x_iload_n (pc' := 6) rfl rfl rfl ?_
    refine x_iload_n (pc' := 7) rfl rfl rfl ?_
    refine x_icmp (a' := 14) (pc' := 10) (z := decide (5 < m)) rfl rfl rfl (ic_gt (p := m) (q := 5) (Nat.lt_trans hm (by decide)) (by decide)) (fun h => absurd (of_decide_eq_true h) (fun z => absurd hm (Nat.not_lt.mpr z))) (fun _ => ?_)
    refine x_iconst (pc' := 11) rfl rfl ?_
    refine x_goto (pc' := 15) rfl rfl ?_
    refine x_retz (z := true) rfl rfl ?_
    refine sK_i (pc' := 6) rfl ?_
    refine x_retz (z := true) rfl rfl ?_
    refine sK_i (pc' := 4) rfl ?_
    refine x_istore_n (pc' := 5) (ls' := [_, _, _, _, _]) rfl rfl rfl rfl ?_
    refine x_aload_n (pc' := 6) rfl rfl rfl rfl rfl ?_
    refine x_iload_n (pc' := 7) rfl rfl rfl ?_
    refine x_if (a' := 14) (pc' := 10) (z := true) rfl rfl rfl (by decide) (fun _ => ?_) (fun h => by cases h)
    refine x_iload_n (pc' := 15) rfl rfl rfl ?_
    refine x_iconst (pc' := 16) rfl rfl ?_
    refine x_ldc_w (pc' := 19) rfl rfl ?_
    refine x_cs (ls0 := [_, _, _]) (rest := [_]) rfl rfl rfl rfl ?_
    refine x_iload_n (pc' := 1) rfl rfl rfl ?_
    refine x_iload_n (pc' := 2) rfl rfl rfl ?_
    refine x_icmp (a' := 14) (pc' := 5) (z := decide ((xs 2) < 0)) rfl rfl rfl rfl (fun _ => ?_) (fun h => absurd (of_decide_eq_true q5) (of_decide_eq_false h))
    refine x_iconst (pc' := 15) rfl rfl ?_
    refine x_retz (z := false) rfl rfl ?_
    refine sK_i (pc' := 22) rfl ?_
    refine x_if (a' := 29) (pc' := 25) (z := false) rfl rfl rfl (by decide) (fun h => by cases h) (fun _ => ?_)
    refine x_iconst (pc' := 26) rfl rfl ?_
    refine x_goto (pc' := 43) rfl rfl ?_
    refine x_cv (ls0 := [_, _]) (rest := []) rfl rfl rfl rfl rfl ?_
    refine x_aload_n (pc' := 1) rfl rfl rfl rfl rfl ?_
    refine x_iload_n (pc' := 2) rfl rfl rfl ?_
    refine x_pI (pc' := 5) rfl rfl rfl ?_
    refine x_iload_n (pc' := 6) rfl rfl rfl ?_
    refine x_if (a' := 13) (pc' := 9) (z := true) rfl rfl rfl (by decide) (fun _ => ?_) (fun h => by cases h)
    refine x_iconst (pc' := 14) rfl rfl ?_
    refine x_retz (z := false) rfl rfl ?_
    refine sK_i (pc' := 46) rfl ?_
    refine x_if (a' := 51) (pc' := 49) (z := false) rfl rfl rfl (by decide) (fun h => by cases h) (fun _ => ?_)
    refine x_iconst (pc' := 50) rfl rfl ?_
    refine x_reti rfl rfl ?_
    refine sK_i (pc' := 646) rfl ?_
    refine x_istore (pc' := 648) (ls' := [_, _, _, _, _, _, _]) rfl rfl rfl rfl ?_
    refine x_aload_n (pc' := 649) rfl rfl rfl rfl rfl ?_
    refine x_cv (ls0 := [_]) (rest := []) rfl rfl rfl rfl rfl ?_
    refine x_aload_n (pc' := 1) rfl rfl rfl rfl rfl ?_
    refine x_gI (pc' := 4) (x := 2) rfl rfl rfl sI_s ?_
    refine x_reti rfl rfl ?_
    refine sK_i (pc' := 652) rfl ?_
    refine x_iload (pc' := 654) rfl rfl rfl ?_
    refine x_icmp (a' := 659) (pc' := 657) (z := true) rfl rfl rfl (by decide) (fun _ => ?_) (fun h => by cases h)
    refine x_iload (pc' := 661) rfl rfl rfl ?_
    refine x_if (a' := 676) (pc' := 664) (z := true) rfl rfl rfl (by decide) (fun _ => ?_) (fun h => by cases h)
    refine x_goto (pc' := 2938) rfl rfl ?_
    refine x_iinc (pc' := 2941) (y := 7) (ls' := [_, _, _, _, _, _, _]) rfl rfl rfl rfl rfl ?_
    refine x_goto (pc' := 23) rfl rfl ?_
    refine x_iload (pc' := 25) rfl rfl rfl ?_
    refine x_aload_n (pc' := 26) rfl rfl rfl rfl rfl ?_
    refine x_alen (pc' := 27) (N := 7) rfl rfl rfl (Eq.trans rdNI (Eq.trans rdNthr (z_N_29_0 e))) (?_ : X _ _ _ (.inl 7 :: _) _ _)
    refine x_bipush (pc' := 29) rfl rfl ?_
    refine x_isub (pc' := 30) (z := 0) rfl rfl (by decide) ?_
    refine x_icmp (a' := 2944) (pc' := 33) (z := true) rfl rfl rfl (by decide) (fun _ => ?_) (fun h => by cases h)
    refine x_iconst (pc' := 2945) rfl rfl ?_
    refine x_retz (z := true) rfl rfl ?_
    exact Qp_ok e (p := 1) (q := 6) rfl rfl rfl rfl
  · refine x_iload_n (pc' := 6) rfl rfl rfl ?_
    refine x_iload_n (pc' := 7) rfl rfl rfl ?_
    refine x_icmp_n (a' := 21) (pc' := 10) (z := decide (1000000 < (xs 2))) rfl rfl rfl (ik_le _ _) (fun q16 => ?_) (fun q16 => ?_)
    · refine x_ret rfl ?_
      refine sK_v (pc' := 13) rfl ?_
      refine x_aload_n (pc' := 14) rfl rfl rfl rfl rfl ?_
      refine x_gZ (pc' := 17) (z := false) rfl rfl rfl (z_Z_458_y e _) ?_
      refine x_if (a' := 24) (pc' := 20) (z := false) rfl rfl rfl (by decide) (fun h => by cases h) (fun _ => ?_)
      refine x_iconst (pc' := 21) rfl rfl ?_
      refine x_goto (pc' := 25) rfl rfl ?_
      refine x_cs (ls0 := [_]) (rest := []) rfl rfl rfl rfl ?_
      refine x_iload_n (pc' := 1) rfl rfl rfl ?_
      refine x_if (a' := 15) (pc' := 4) (z := true) rfl rfl rfl (by decide) (fun _ => ?_) (fun h => by cases h)
      refine x_ret rfl ?_
      refine sK_v (pc' := 28) rfl ?_
      refine x_aload_n (pc' := 29) rfl rfl rfl rfl rfl ?_
      refine x_gI (pc' := 32) (x := 0) rfl rfl rfl (z_I_452_y e _) ?_
      refine x_istore (pc' := 34) (ls' := [_, _, _, _, _]) rfl rfl rfl rfl ?_
      refine x_aload_n (pc' := 35) rfl rfl rfl rfl rfl ?_
      refine x_iload_n (pc' := 36) rfl rfl rfl ?_
      refine x_pI (pc' := 39) rfl rfl rfl ?_
      refine x_iload (pc' := 41) rfl rfl rfl ?_
      refine x_reti rfl rfl ?_
      refine sK_i (pc' := 8) rfl ?_
      refine x_i2l (pc' := 9) (z := (0 : Int64)) rfl rfl (by decide) ?_
      refine x_last (pc' := 10) (N := 1) (p := 0) rfl rfl (Eq.trans rdNI (z_N_23_0 e)) (io_in (p := 0) (N := 1) (by decide) (by decide)) (nn_io (p := 0) (by decide)) ?_
      refine x_goto (pc' := 25) rfl rfl ?_
      refine x_iconst (pc' := 26) rfl rfl ?_
      refine x_reti rfl rfl ?_
      refine sK_i (pc' := 628) rfl ?_
      refine x_istore (pc' := 630) (ls' := [_, _, _, _, _, _, _]) rfl rfl rfl rfl ?_
      refine x_aload_n (pc' := 631) rfl rfl rfl rfl rfl ?_
      refine x_aload_n (pc' := 632) rfl rfl rfl rfl rfl ?_
      refine x_iload (pc' := 634) rfl rfl rfl ?_
      refine x_iconst (pc' := 635) rfl rfl ?_
      refine x_iadd (pc' := 636) (z := 1) rfl rfl (by decide) ?_
      refine x_iald (pc' := 637) (N := 7) (x := (io m)) rfl rfl rfl (Eq.trans rdNL (Eq.trans rdNI (z_N_29_0 e))) (io_in (p := 1) (N := 7) (by decide) (by decide)) (Eq.trans (congrArg (sA (sLw (sIw t 452 m (xs 2)) 23 0 0 (0 : Int64)) 29 0) (nn_io (p := 1) (by decide))) (Eq.trans rdAL (Eq.trans rdAI (Eq.trans (z_A_29_0_1 e) e0)))) ?_
      refine x_aload_n (pc' := 638) rfl rfl rfl rfl rfl ?_
      refine x_iload (pc' := 640) rfl rfl rfl ?_
      refine x_iconst (pc' := 641) rfl rfl ?_
      refine x_iadd (pc' := 642) (z := 2) rfl rfl (by decide) ?_
      refine x_iald (pc' := 643) (N := 7) (x := (xs 2)) rfl rfl rfl (Eq.trans rdNL (Eq.trans rdNI (z_N_29_0 e))) (io_in (p := 2) (N := 7) (by decide) (by decide)) (Eq.trans (congrArg (sA (sLw (sIw t 452 m (xs 2)) 23 0 0 (0 : Int64)) 29 0) (nn_io (p := 2) (by decide))) (Eq.trans rdAL (Eq.trans rdAI (z_A_29_0_2 e)))) ?_
      refine x_cv (ls0 := [_, _, _, sJk, sJk]) (rest := []) rfl rfl rfl rfl rfl ?_
      refine x_iload_n (pc' := 1) rfl rfl rfl ?_
      refine x_cs (ls0 := [_]) (rest := []) rfl rfl rfl rfl ?_
      refine x_iload_n (pc' := 1) rfl rfl rfl ?_
      refine x_iconst (pc' := 2) rfl rfl ?_
      refine x_iconst (pc' := 3) rfl rfl ?_
      refine x_cs (ls0 := [_, _, _]) (rest := []) rfl rfl rfl rfl ?_
      refine x_iload_n (pc' := 1) rfl rfl rfl ?_
      refine x_iload_n (pc' := 2) rfl rfl rfl ?_
      refine x_icmp (a' := 14) (pc' := 5) (z := decide (m < 0)) rfl rfl rfl (ic_lt (p := m) (q := 0) (Nat.lt_trans hm (by decide)) (by decide)) (fun h => absurd (of_decide_eq_true h) (by first | decide | omega | simp)) (fun _ => ?_)
      refine x_iload_n (pc' := 6) rfl rfl rfl ?_
      refine x_iload_n (pc' := 7) rfl rfl rfl ?_
      refine x_icmp (a' := 14) (pc' := 10) (z := decide (5 < m)) rfl rfl rfl (ic_gt (p := m) (q := 5) (Nat.lt_trans hm (by decide)) (by decide)) (fun h => absurd (of_decide_eq_true h) (fun z => absurd hm (Nat.not_lt.mpr z))) (fun _ => ?_)
      refine x_iconst (pc' := 11) rfl rfl ?_
      refine x_goto (pc' := 15) rfl rfl ?_
      refine x_retz (z := true) rfl rfl ?_
      refine sK_i (pc' := 6) rfl ?_
      refine x_retz (z := true) rfl rfl ?_
      refine sK_i (pc' := 4) rfl ?_
      refine x_istore_n (pc' := 5) (ls' := [_, _, _, _, _]) rfl rfl rfl rfl ?_
      refine x_aload_n (pc' := 6) rfl rfl rfl rfl rfl ?_
      refine x_iload_n (pc' := 7) rfl rfl rfl ?_
      refine x_if (a' := 14) (pc' := 10) (z := true) rfl rfl rfl (by decide) (fun _ => ?_) (fun h => by cases h)
      refine x_iload_n (pc' := 15) rfl rfl rfl ?_
      refine x_iconst (pc' := 16) rfl rfl ?_
      refine x_ldc_w (pc' := 19) rfl rfl ?_
      refine x_cs (ls0 := [_, _, _]) (rest := [_]) rfl rfl rfl rfl ?_
      refine x_iload_n (pc' := 1) rfl rfl rfl ?_
      refine x_iload_n (pc' := 2) rfl rfl rfl ?_
      refine x_icmp (a' := 14) (pc' := 5) (z := decide ((xs 2) < 0)) rfl rfl rfl rfl (fun h => absurd (of_decide_eq_true h) (of_decide_eq_false q5)) (fun _ => ?_)
      refine x_iload_n (pc' := 6) rfl rfl rfl ?_
      refine x_iload_n (pc' := 7) rfl rfl rfl ?_
      refine x_icmp (a' := 14) (pc' := 10) (z := decide (1000000 < (xs 2))) rfl rfl rfl rfl (fun h => absurd (of_decide_eq_true h) (of_decide_eq_false q16)) (fun _ => ?_)
      refine x_iconst (pc' := 11) rfl rfl ?_
      refine x_goto (pc' := 15) rfl rfl ?_
      refine x_retz (z := true) rfl rfl ?_
      refine sK_i (pc' := 22) rfl ?_
      refine x_if (a' := 29) (pc' := 25) (z := true) rfl rfl rfl (by decide) (fun _ => ?_) (fun h => by cases h)
      refine x_aload_n (pc' := 30) rfl rfl rfl rfl rfl ?_
      refine x_gR (pc' := 33) (r := (some 2)) rfl rfl rfl (Eq.trans rdRL (Eq.trans rdRI (z_R_781_0 e))) ?_
      refine x_iload_n (pc' := 34) rfl rfl rfl ?_
      refine x_bald (pc' := 35) (N := 6) (z := false) rfl rfl (Eq.trans rdNL (Eq.trans rdNI (z_N_22_2 e))) (io_in (p := m) (N := 6) hm (by decide)) (Eq.trans (congrArg (sB (sLw (sIw t 452 m (xs 2)) 23 0 0 (0 : Int64)) 22 2) (nn_io (p := m) (Nat.lt_trans hm (by decide)))) (Eq.trans rdBL (Eq.trans rdBI (z_B_22_2_y e _)))) ?_
      refine x_if (a' := 42) (pc' := 38) (z := true) rfl rfl rfl (by decide) (fun _ => ?_) (fun h => by cases h)
      refine x_iconst (pc' := 43) rfl rfl ?_
      refine x_cv (ls0 := [_, _]) (rest := []) rfl rfl rfl rfl rfl ?_
      refine x_aload_n (pc' := 1) rfl rfl rfl rfl rfl ?_
      refine x_iload_n (pc' := 2) rfl rfl rfl ?_
      refine x_pI (pc' := 5) rfl rfl rfl ?_
      refine x_iload_n (pc' := 6) rfl rfl rfl ?_
      refine x_if (a' := 13) (pc' := 9) (z := false) rfl rfl rfl (by decide) (fun h => by cases h) (fun _ => ?_)
      refine x_iconst (pc' := 10) rfl rfl ?_
      refine x_goto (pc' := 14) rfl rfl ?_
      refine x_retz (z := true) rfl rfl ?_
      refine sK_i (pc' := 46) rfl ?_
      refine x_if (a' := 51) (pc' := 49) (z := true) rfl rfl rfl (by decide) (fun _ => ?_) (fun h => by cases h)
      refine x_aload_n (pc' := 52) rfl rfl rfl rfl rfl ?_
      refine x_gR (pc' := 55) (r := (some 7)) rfl rfl rfl (Eq.trans rdRI (Eq.trans rdRL (Eq.trans rdRI (z_R_777_0 e)))) ?_
      refine x_iload_n (pc' := 56) rfl rfl rfl ?_
      refine x_iald (pc' := 57) (N := 6) (x := 0) rfl rfl rfl (Eq.trans rdNI (Eq.trans rdNL (Eq.trans rdNI (z_N_21_7 e)))) (io_in (p := m) (N := 6) hm (by decide)) (Eq.trans (congrArg (sA (sIw (sLw (sIw t 452 m (xs 2)) 23 0 0 (0 : Int64)) 768 0 0) 21 7) (nn_io (p := m) (Nat.lt_trans hm (by decide)))) (Eq.trans rdAI (Eq.trans rdAL (Eq.trans rdAI (z_A_21_7_y e _))))) ?_
      refine x_istore (pc' := 59) (ls' := [_, _, _, _, _]) rfl rfl rfl rfl ?_
      refine x_aload_n (pc' := 60) rfl rfl rfl rfl rfl ?_
      refine x_gR (pc' := 63) (r := (some 7)) rfl rfl rfl (Eq.trans rdRI (Eq.trans rdRL (Eq.trans rdRI (z_R_777_0 e)))) ?_
      refine x_iload_n (pc' := 64) rfl rfl rfl ?_
      refine x_iload_n (pc' := 65) rfl rfl rfl ?_
      refine x_iast (pc' := 66) (N := 6) (p := m) rfl rfl rfl (Eq.trans rdNI (Eq.trans rdNL (Eq.trans rdNI (z_N_21_7 e)))) (io_in (p := m) (N := 6) hm (by decide)) (nn_io (p := m) (Nat.lt_trans hm (by decide))) ?_
      refine x_iload (pc' := 68) rfl rfl rfl ?_
      refine x_reti rfl rfl ?_
      refine sK_i (pc' := 646) rfl ?_
      refine x_istore (pc' := 648) (ls' := [_, _, _, _, _, _, _]) rfl rfl rfl rfl ?_
      refine x_aload_n (pc' := 649) rfl rfl rfl rfl rfl ?_
      refine x_cv (ls0 := [_]) (rest := []) rfl rfl rfl rfl rfl ?_
      refine x_aload_n (pc' := 1) rfl rfl rfl rfl rfl ?_
      refine x_gI (pc' := 4) (x := 0) rfl rfl rfl (Eq.trans rdIA sI_s) ?_
      refine x_reti rfl rfl ?_
      refine sK_i (pc' := 652) rfl ?_
      refine x_iload (pc' := 654) rfl rfl rfl ?_
      refine x_icmp (a' := 659) (pc' := 657) (z := true) rfl rfl rfl (by decide) (fun _ => ?_) (fun h => by cases h)
      refine x_iload (pc' := 661) rfl rfl rfl ?_
      refine x_if (a' := 676) (pc' := 664) (z := false) rfl rfl rfl (by decide) (fun h => by cases h) (fun _ => ?_)
      refine x_aload_n (pc' := 665) rfl rfl rfl rfl rfl ?_
      refine x_iconst (pc' := 666) rfl rfl ?_
      refine x_lald (pc' := 667) (N := 1) (x := (0 : Int64)) rfl rfl (Eq.trans rdNA (Eq.trans rdNI (Eq.trans rdNL (Eq.trans rdNI (z_N_23_0 e))))) (io_in (p := 0) (N := 1) (by decide) (by decide)) (Eq.trans (congrArg (sL (sAw (sIw (sLw (sIw t 452 m (xs 2)) 23 0 0 (0 : Int64)) 768 0 0) 21 7 m (xs 2)) 23 0) (nn_io (p := 0) (by decide))) (Eq.trans rdLA (Eq.trans rdLI sL_s))) ?_
      refine x_iload (pc' := 669) rfl rfl rfl ?_
      refine x_i2l (pc' := 670) (z := (0 : Int64)) rfl rfl (by decide) ?_
      refine x_lcmp (pc' := 671) (z := 0) rfl rfl (sLcmp_s _) ?_
      refine x_if (a' := 676) (pc' := 674) (z := true) rfl rfl rfl (by decide) (fun _ => ?_) (fun h => by cases h)
      refine x_goto (pc' := 2938) rfl rfl ?_
      refine x_iinc (pc' := 2941) (y := 7) (ls' := [_, _, _, _, _, _, _]) rfl rfl rfl rfl rfl ?_
      refine x_goto (pc' := 23) rfl rfl ?_
      refine x_iload (pc' := 25) rfl rfl rfl ?_
      refine x_aload_n (pc' := 26) rfl rfl rfl rfl rfl ?_
      refine x_alen (pc' := 27) (N := 7) rfl rfl rfl (Eq.trans rdNA (Eq.trans rdNI (Eq.trans rdNL (Eq.trans rdNI (z_N_29_0 e))))) (?_ : X _ _ _ (.inl 7 :: _) _ _)
      refine x_bipush (pc' := 29) rfl rfl ?_
      refine x_isub (pc' := 30) (z := 0) rfl rfl (by decide) ?_
      refine x_icmp (a' := 2944) (pc' := 33) (z := true) rfl rfl rfl (by decide) (fun _ => ?_) (fun h => by cases h)
      refine x_iconst (pc' := 2945) rfl rfl ?_
      refine x_retz (z := true) rfl rfl ?_
      exact Qp_ok e (p := 0) (q := 0) rfl rfl rfl rfl
    · refine x_throw rfl rfl ?_
      refine sK_n (by decide +kernel) rfl ?_
      refine sK_h (h := 17) (by decide +kernel) rfl ?_
      refine x_catch (pc' := 19) (ls' := [_, _, _, _, _]) rfl rfl rfl rfl ?_
      refine x_iconst (pc' := 20) rfl rfl ?_
      refine x_reti rfl rfl ?_
      refine sK_i (pc' := 628) rfl ?_
      refine x_istore (pc' := 630) (ls' := [_, _, _, _, _, _, _]) rfl rfl rfl rfl ?_
      refine x_aload_n (pc' := 631) rfl rfl rfl rfl rfl ?_
      refine x_aload_n (pc' := 632) rfl rfl rfl rfl rfl ?_
      refine x_iload (pc' := 634) rfl rfl rfl ?_
      refine x_iconst (pc' := 635) rfl rfl ?_
      refine x_iadd (pc' := 636) (z := 1) rfl rfl (by decide) ?_
      refine x_iald (pc' := 637) (N := 7) (x := (io m)) rfl rfl rfl (Eq.trans rdNthr (z_N_29_0 e)) (io_in (p := 1) (N := 7) (by decide) (by decide)) (Eq.trans (congrArg (sA (sThr t) 29 0) (nn_io (p := 1) (by decide))) (Eq.trans rdAthr (Eq.trans (z_A_29_0_1 e) e0))) ?_
      refine x_aload_n (pc' := 638) rfl rfl rfl rfl rfl ?_
      refine x_iload (pc' := 640) rfl rfl rfl ?_
      refine x_iconst (pc' := 641) rfl rfl ?_
      refine x_iadd (pc' := 642) (z := 2) rfl rfl (by decide) ?_
      refine x_iald (pc' := 643) (N := 7) (x := (xs 2)) rfl rfl rfl (Eq.trans rdNthr (z_N_29_0 e)) (io_in (p := 2) (N := 7) (by decide) (by decide)) (Eq.trans (congrArg (sA (sThr t) 29 0) (nn_io (p := 2) (by decide))) (Eq.trans rdAthr (z_A_29_0_2 e))) ?_
      refine x_cv (ls0 := [_, _, _, sJk, sJk]) (rest := []) rfl rfl rfl rfl rfl ?_
      refine x_iload_n (pc' := 1) rfl rfl rfl ?_
      refine x_cs (ls0 := [_]) (rest := []) rfl rfl rfl rfl ?_
      refine x_iload_n (pc' := 1) rfl rfl rfl ?_
      refine x_iconst (pc' := 2) rfl rfl ?_
      refine x_iconst (pc' := 3) rfl rfl ?_
      refine x_cs (ls0 := [_, _, _]) (rest := []) rfl rfl rfl rfl ?_
      refine x_iload_n (pc' := 1) rfl rfl rfl ?_
      refine x_iload_n (pc' := 2) rfl rfl rfl ?_
      refine x_icmp (a' := 14) (pc' := 5) (z := decide (m < 0)) rfl rfl rfl (ic_lt (p := m) (q := 0) (Nat.lt_trans hm (by decide)) (by decide)) (fun h => absurd (of_decide_eq_true h) (by first | decide | omega | simp)) (fun _ => ?_)
      refine x_iload_n (pc' := 6) rfl rfl rfl ?_
      refine x_iload_n (pc' := 7) rfl rfl rfl ?_
      refine x_icmp (a' := 14) (pc' := 10) (z := decide (5 < m)) rfl rfl rfl (ic_gt (p := m) (q := 5) (Nat.lt_trans hm (by decide)) (by decide)) (fun h => absurd (of_decide_eq_true h) (fun z => absurd hm (Nat.not_lt.mpr z))) (fun _ => ?_)
      refine x_iconst (pc' := 11) rfl rfl ?_
      refine x_goto (pc' := 15) rfl rfl ?_
      refine x_retz (z := true) rfl rfl ?_
      refine sK_i (pc' := 6) rfl ?_
      refine x_retz (z := true) rfl rfl ?_
      refine sK_i (pc' := 4) rfl ?_
      refine x_istore_n (pc' := 5) (ls' := [_, _, _, _, _]) rfl rfl rfl rfl ?_
      refine x_aload_n (pc' := 6) rfl rfl rfl rfl rfl ?_
      refine x_iload_n (pc' := 7) rfl rfl rfl ?_
      refine x_if (a' := 14) (pc' := 10) (z := true) rfl rfl rfl (by decide) (fun _ => ?_) (fun h => by cases h)
      refine x_iload_n (pc' := 15) rfl rfl rfl ?_
      refine x_iconst (pc' := 16) rfl rfl ?_
      refine x_ldc_w (pc' := 19) rfl rfl ?_
      refine x_cs (ls0 := [_, _, _]) (rest := [_]) rfl rfl rfl rfl ?_
      refine x_iload_n (pc' := 1) rfl rfl rfl ?_
      refine x_iload_n (pc' := 2) rfl rfl rfl ?_
      refine x_icmp (a' := 14) (pc' := 5) (z := decide ((xs 2) < 0)) rfl rfl rfl rfl (fun h => absurd (of_decide_eq_true h) (of_decide_eq_false q5)) (fun _ => ?_)
      refine x_iload_n (pc' := 6) rfl rfl rfl ?_
      refine x_iload_n (pc' := 7) rfl rfl rfl ?_
      refine x_icmp (a' := 14) (pc' := 10) (z := decide (1000000 < (xs 2))) rfl rfl rfl rfl (fun _ => ?_) (fun h => absurd (of_decide_eq_true q16) (of_decide_eq_false h))
      refine x_iconst (pc' := 15) rfl rfl ?_
      refine x_retz (z := false) rfl rfl ?_
      refine sK_i (pc' := 22) rfl ?_
      refine x_if (a' := 29) (pc' := 25) (z := false) rfl rfl rfl (by decide) (fun h => by cases h) (fun _ => ?_)
      refine x_iconst (pc' := 26) rfl rfl ?_
      refine x_goto (pc' := 43) rfl rfl ?_
      refine x_cv (ls0 := [_, _]) (rest := []) rfl rfl rfl rfl rfl ?_
      refine x_aload_n (pc' := 1) rfl rfl rfl rfl rfl ?_
      refine x_iload_n (pc' := 2) rfl rfl rfl ?_
      refine x_pI (pc' := 5) rfl rfl rfl ?_
      refine x_iload_n (pc' := 6) rfl rfl rfl ?_
      refine x_if (a' := 13) (pc' := 9) (z := true) rfl rfl rfl (by decide) (fun _ => ?_) (fun h => by cases h)
      refine x_iconst (pc' := 14) rfl rfl ?_
      refine x_retz (z := false) rfl rfl ?_
      refine sK_i (pc' := 46) rfl ?_
      refine x_if (a' := 51) (pc' := 49) (z := false) rfl rfl rfl (by decide) (fun h => by cases h) (fun _ => ?_)
      refine x_iconst (pc' := 50) rfl rfl ?_
      refine x_reti rfl rfl ?_
      refine sK_i (pc' := 646) rfl ?_
      refine x_istore (pc' := 648) (ls' := [_, _, _, _, _, _, _]) rfl rfl rfl rfl ?_
      refine x_aload_n (pc' := 649) rfl rfl rfl rfl rfl ?_
      refine x_cv (ls0 := [_]) (rest := []) rfl rfl rfl rfl rfl ?_
      refine x_aload_n (pc' := 1) rfl rfl rfl rfl rfl ?_
      refine x_gI (pc' := 4) (x := 2) rfl rfl rfl sI_s ?_
      refine x_reti rfl rfl ?_
      refine sK_i (pc' := 652) rfl ?_
      refine x_iload (pc' := 654) rfl rfl rfl ?_
      refine x_icmp (a' := 659) (pc' := 657) (z := true) rfl rfl rfl (by decide) (fun _ => ?_) (fun h => by cases h)
      refine x_iload (pc' := 661) rfl rfl rfl ?_
      refine x_if (a' := 676) (pc' := 664) (z := true) rfl rfl rfl (by decide) (fun _ => ?_) (fun h => by cases h)
      refine x_goto (pc' := 2938) rfl rfl ?_
      refine x_iinc (pc' := 2941) (y := 7) (ls' := [_, _, _, _, _, _, _]) rfl rfl rfl rfl rfl ?_
      refine x_goto (pc' := 23) rfl rfl ?_
      refine x_iload (pc' := 25) rfl rfl rfl ?_
      refine x_aload_n (pc' := 26) rfl rfl rfl rfl rfl ?_
      refine x_alen (pc' := 27) (N := 7) rfl rfl rfl (Eq.trans rdNI (Eq.trans rdNthr (z_N_29_0 e))) (?_ : X _ _ _ (.inl 7 :: _) _ _)
      refine x_bipush (pc' := 29) rfl rfl ?_
      refine x_isub (pc' := 30) (z := 0) rfl rfl (by decide) ?_
      refine x_icmp (a' := 2944) (pc' := 33) (z := true) rfl rfl rfl (by decide) (fun _ => ?_) (fun h => by cases h)
      refine x_iconst (pc' := 2945) rfl rfl ?_
      refine x_retz (z := true) rfl rfl ?_
      exact Qp_ok e (p := 1) (q := 6) rfl rfl rfl rfl
set_option maxHeartbeats 4000000 in
set_option maxRecDepth 10000 in
theorem v_6_A_i {t : sT} {xs : Nat → Int32}
    (e : t = T16 7 xs)
    (hk : ((xs 0) &&& 63) = 6)
    (e0 : (xs 1) < 0) :
    X 297 23 [.inr (.inr (29, (some 0))), .inr (.inr (11, (some 0))), .inr (.inr (12, (some 0))), .inr (.inr (23, (some 0))), .inl 0, sJk, sJk] [] t Qp := by
  refine x_iload (pc' := 25) rfl rfl rfl ?_
  refine x_aload_n (pc' := 26) rfl rfl rfl rfl rfl ?_
  refine x_alen (pc' := 27) (N := 7) rfl rfl rfl (z_N_29_0 e) (?_ : X _ _ _ (.inl 7 :: _) _ _)
  refine x_bipush (pc' := 29) rfl rfl ?_
  refine x_isub (pc' := 30) (z := 0) rfl rfl (by decide) ?_
  refine x_icmp (a' := 2944) (pc' := 33) (z := false) rfl rfl rfl (by decide) (fun h => by cases h) (fun _ => ?_)
  refine x_aload_n (pc' := 34) rfl rfl rfl rfl rfl ?_
  refine x_iload (pc' := 36) rfl rfl rfl ?_
  refine x_iald (pc' := 37) (N := 7) (x := (xs 0)) rfl rfl rfl (z_N_29_0 e) (io_in (p := 0) (N := 7) (by decide) (by decide)) (Eq.trans (congrArg (sA t 29 0) (nn_io (p := 0) (by decide))) (z_A_29_0_0 e)) ?_
  refine x_bipush (pc' := 39) rfl rfl ?_
  refine x_iand (pc' := 40) (z := ((xs 0) &&& 63)) rfl rfl rfl ?_
  refine x_switch (pc' := 611) rfl (by rw [hk]; decide) ?_
  refine x_aload_n (pc' := 612) rfl rfl rfl rfl rfl ?_
  refine x_aload_n (pc' := 613) rfl rfl rfl rfl rfl ?_
  refine x_iload (pc' := 615) rfl rfl rfl ?_
  refine x_iconst (pc' := 616) rfl rfl ?_
  refine x_iadd (pc' := 617) (z := 1) rfl rfl (by decide) ?_
  refine x_iald (pc' := 618) (N := 7) (x := (xs 1)) rfl rfl rfl (z_N_29_0 e) (io_in (p := 1) (N := 7) (by decide) (by decide)) (Eq.trans (congrArg (sA t 29 0) (nn_io (p := 1) (by decide))) (z_A_29_0_1 e)) ?_
  refine x_aload_n (pc' := 619) rfl rfl rfl rfl rfl ?_
  refine x_iload (pc' := 621) rfl rfl rfl ?_
  refine x_iconst (pc' := 622) rfl rfl ?_
  refine x_iadd (pc' := 623) (z := 2) rfl rfl (by decide) ?_
  refine x_iald (pc' := 624) (N := 7) (x := (xs 2)) rfl rfl rfl (z_N_29_0 e) (io_in (p := 2) (N := 7) (by decide) (by decide)) (Eq.trans (congrArg (sA t 29 0) (nn_io (p := 2) (by decide))) (z_A_29_0_2 e)) ?_
  refine x_aload_n (pc' := 625) rfl rfl rfl rfl rfl ?_
  refine x_cs (ls0 := [_, _, _, _, sJk]) (rest := []) rfl rfl rfl rfl ?_
  refine x_aload_n (pc' := 1) rfl rfl rfl rfl rfl ?_
  refine x_iconst (pc' := 2) rfl rfl ?_
  refine x_aload_n (pc' := 3) rfl rfl rfl rfl rfl ?_
  refine x_iload_n (pc' := 4) rfl rfl rfl ?_
  refine x_iload_n (pc' := 5) rfl rfl rfl ?_
  refine x_cv (ls0 := [_, _, _, sJk, sJk]) (rest := [_, _]) rfl rfl rfl rfl rfl ?_
  refine x_aload_n (pc' := 1) rfl rfl rfl rfl rfl ?_
  refine x_iload_n (pc' := 2) rfl rfl rfl ?_
  refine x_cv (ls0 := [_, _]) (rest := []) rfl rfl rfl rfl rfl ?_
  refine x_iload_n (pc' := 1) rfl rfl rfl ?_
  refine x_if (a' := 16) (pc' := 4) (z := decide ((xs 1) < 0)) rfl rfl rfl rfl (fun _ => ?_) (fun h => absurd e0 (of_decide_eq_false h))
  refine x_throw rfl rfl ?_
  refine sK_n (by decide +kernel) rfl ?_
  refine sK_h (h := 13) (by decide +kernel) rfl ?_
  refine x_catch (pc' := 15) (ls' := [_, _, _, _, _]) rfl rfl rfl rfl ?_
  refine x_iconst (pc' := 16) rfl rfl ?_
  refine x_reti rfl rfl ?_
  refine sK_i (pc' := 628) rfl ?_
  refine x_istore (pc' := 630) (ls' := [_, _, _, _, _, _, _]) rfl rfl rfl rfl ?_
  refine x_aload_n (pc' := 631) rfl rfl rfl rfl rfl ?_
  refine x_aload_n (pc' := 632) rfl rfl rfl rfl rfl ?_
  refine x_iload (pc' := 634) rfl rfl rfl ?_
  refine x_iconst (pc' := 635) rfl rfl ?_
  refine x_iadd (pc' := 636) (z := 1) rfl rfl (by decide) ?_
  refine x_iald (pc' := 637) (N := 7) (x := (xs 1)) rfl rfl rfl (Eq.trans rdNthr (z_N_29_0 e)) (io_in (p := 1) (N := 7) (by decide) (by decide)) (Eq.trans (congrArg (sA (sThr t) 29 0) (nn_io (p := 1) (by decide))) (Eq.trans rdAthr (z_A_29_0_1 e))) ?_
  refine x_aload_n (pc' := 638) rfl rfl rfl rfl rfl ?_
  refine x_iload (pc' := 640) rfl rfl rfl ?_
  refine x_iconst (pc' := 641) rfl rfl ?_
  refine x_iadd (pc' := 642) (z := 2) rfl rfl (by decide) ?_
  refine x_iald (pc' := 643) (N := 7) (x := (xs 2)) rfl rfl rfl (Eq.trans rdNthr (z_N_29_0 e)) (io_in (p := 2) (N := 7) (by decide) (by decide)) (Eq.trans (congrArg (sA (sThr t) 29 0) (nn_io (p := 2) (by decide))) (Eq.trans rdAthr (z_A_29_0_2 e))) ?_
  refine x_cv (ls0 := [_, _, _, sJk, sJk]) (rest := []) rfl rfl rfl rfl rfl ?_
  refine x_iload_n (pc' := 1) rfl rfl rfl ?_
  refine x_cs (ls0 := [_]) (rest := []) rfl rfl rfl rfl ?_
  refine x_iload_n (pc' := 1) rfl rfl rfl ?_
  refine x_iconst (pc' := 2) rfl rfl ?_
  refine x_iconst (pc' := 3) rfl rfl ?_
  refine x_cs (ls0 := [_, _, _]) (rest := []) rfl rfl rfl rfl ?_
  refine x_iload_n (pc' := 1) rfl rfl rfl ?_
  refine x_iload_n (pc' := 2) rfl rfl rfl ?_
  refine x_icmp (a' := 14) (pc' := 5) (z := decide ((xs 1) < 0)) rfl rfl rfl rfl (fun _ => ?_) (fun h => absurd e0 (of_decide_eq_false h))
  refine x_iconst (pc' := 15) rfl rfl ?_
  refine x_retz (z := false) rfl rfl ?_
  refine sK_i (pc' := 6) rfl ?_
  refine x_retz (z := false) rfl rfl ?_
  refine sK_i (pc' := 4) rfl ?_
  refine x_istore_n (pc' := 5) (ls' := [_, _, _, _, _]) rfl rfl rfl rfl ?_
  refine x_aload_n (pc' := 6) rfl rfl rfl rfl rfl ?_
  refine x_iload_n (pc' := 7) rfl rfl rfl ?_
  refine x_if (a' := 14) (pc' := 10) (z := false) rfl rfl rfl (by decide) (fun h => by cases h) (fun _ => ?_)
  refine x_iconst (pc' := 11) rfl rfl ?_
  refine x_goto (pc' := 43) rfl rfl ?_
  refine x_cv (ls0 := [_, _]) (rest := []) rfl rfl rfl rfl rfl ?_
  refine x_aload_n (pc' := 1) rfl rfl rfl rfl rfl ?_
  refine x_iload_n (pc' := 2) rfl rfl rfl ?_
  refine x_pI (pc' := 5) rfl rfl rfl ?_
  refine x_iload_n (pc' := 6) rfl rfl rfl ?_
  refine x_if (a' := 13) (pc' := 9) (z := true) rfl rfl rfl (by decide) (fun _ => ?_) (fun h => by cases h)
  refine x_iconst (pc' := 14) rfl rfl ?_
  refine x_retz (z := false) rfl rfl ?_
  refine sK_i (pc' := 46) rfl ?_
  refine x_if (a' := 51) (pc' := 49) (z := false) rfl rfl rfl (by decide) (fun h => by cases h) (fun _ => ?_)
  refine x_iconst (pc' := 50) rfl rfl ?_
  refine x_reti rfl rfl ?_
  refine sK_i (pc' := 646) rfl ?_
  refine x_istore (pc' := 648) (ls' := [_, _, _, _, _, _, _]) rfl rfl rfl rfl ?_
  refine x_aload_n (pc' := 649) rfl rfl rfl rfl rfl ?_
  refine x_cv (ls0 := [_]) (rest := []) rfl rfl rfl rfl rfl ?_
  refine x_aload_n (pc' := 1) rfl rfl rfl rfl rfl ?_
  refine x_gI (pc' := 4) (x := 1) rfl rfl rfl sI_s ?_
  refine x_reti rfl rfl ?_
  refine sK_i (pc' := 652) rfl ?_
  refine x_iload (pc' := 654) rfl rfl rfl ?_
  refine x_icmp (a' := 659) (pc' := 657) (z := true) rfl rfl rfl (by decide) (fun _ => ?_) (fun h => by cases h)
  refine x_iload (pc' := 661) rfl rfl rfl ?_
  refine x_if (a' := 676) (pc' := 664) (z := true) rfl rfl rfl (by decide) (fun _ => ?_) (fun h => by cases h)
  refine x_goto (pc' := 2938) rfl rfl ?_
  refine x_iinc (pc' := 2941) (y := 7) (ls' := [_, _, _, _, _, _, _]) rfl rfl rfl rfl rfl ?_
  refine x_goto (pc' := 23) rfl rfl ?_
  refine x_iload (pc' := 25) rfl rfl rfl ?_
  refine x_aload_n (pc' := 26) rfl rfl rfl rfl rfl ?_
  refine x_alen (pc' := 27) (N := 7) rfl rfl rfl (Eq.trans rdNI (Eq.trans rdNthr (z_N_29_0 e))) (?_ : X _ _ _ (.inl 7 :: _) _ _)
  refine x_bipush (pc' := 29) rfl rfl ?_
  refine x_isub (pc' := 30) (z := 0) rfl rfl (by decide) ?_
  refine x_icmp (a' := 2944) (pc' := 33) (z := true) rfl rfl rfl (by decide) (fun _ => ?_) (fun h => by cases h)
  refine x_iconst (pc' := 2945) rfl rfl ?_
  refine x_retz (z := true) rfl rfl ?_
  exact Qp_ok e (p := 1) (q := 6) rfl rfl rfl rfl
set_option maxHeartbeats 4000000 in
set_option maxRecDepth 10000 in
theorem v_6_B_i {t : sT} {xs : Nat → Int32}
    (e : t = T16 7 xs)
    (hk : ((xs 0) &&& 63) = 6)
    (e0 : ¬ (xs 1) < 0)
    (f0 : ¬ (xs 1) < 6) :
    X 297 23 [.inr (.inr (29, (some 0))), .inr (.inr (11, (some 0))), .inr (.inr (12, (some 0))), .inr (.inr (23, (some 0))), .inl 0, sJk, sJk] [] t Qp := by
  refine x_iload (pc' := 25) rfl rfl rfl ?_
  refine x_aload_n (pc' := 26) rfl rfl rfl rfl rfl ?_
  refine x_alen (pc' := 27) (N := 7) rfl rfl rfl (z_N_29_0 e) (?_ : X _ _ _ (.inl 7 :: _) _ _)
  refine x_bipush (pc' := 29) rfl rfl ?_
  refine x_isub (pc' := 30) (z := 0) rfl rfl (by decide) ?_
  refine x_icmp (a' := 2944) (pc' := 33) (z := false) rfl rfl rfl (by decide) (fun h => by cases h) (fun _ => ?_)
  refine x_aload_n (pc' := 34) rfl rfl rfl rfl rfl ?_
  refine x_iload (pc' := 36) rfl rfl rfl ?_
  refine x_iald (pc' := 37) (N := 7) (x := (xs 0)) rfl rfl rfl (z_N_29_0 e) (io_in (p := 0) (N := 7) (by decide) (by decide)) (Eq.trans (congrArg (sA t 29 0) (nn_io (p := 0) (by decide))) (z_A_29_0_0 e)) ?_
  refine x_bipush (pc' := 39) rfl rfl ?_
  refine x_iand (pc' := 40) (z := ((xs 0) &&& 63)) rfl rfl rfl ?_
  refine x_switch (pc' := 611) rfl (by rw [hk]; decide) ?_
  refine x_aload_n (pc' := 612) rfl rfl rfl rfl rfl ?_
  refine x_aload_n (pc' := 613) rfl rfl rfl rfl rfl ?_
  refine x_iload (pc' := 615) rfl rfl rfl ?_
  refine x_iconst (pc' := 616) rfl rfl ?_
  refine x_iadd (pc' := 617) (z := 1) rfl rfl (by decide) ?_
  refine x_iald (pc' := 618) (N := 7) (x := (xs 1)) rfl rfl rfl (z_N_29_0 e) (io_in (p := 1) (N := 7) (by decide) (by decide)) (Eq.trans (congrArg (sA t 29 0) (nn_io (p := 1) (by decide))) (z_A_29_0_1 e)) ?_
  refine x_aload_n (pc' := 619) rfl rfl rfl rfl rfl ?_
  refine x_iload (pc' := 621) rfl rfl rfl ?_
  refine x_iconst (pc' := 622) rfl rfl ?_
  refine x_iadd (pc' := 623) (z := 2) rfl rfl (by decide) ?_
  refine x_iald (pc' := 624) (N := 7) (x := (xs 2)) rfl rfl rfl (z_N_29_0 e) (io_in (p := 2) (N := 7) (by decide) (by decide)) (Eq.trans (congrArg (sA t 29 0) (nn_io (p := 2) (by decide))) (z_A_29_0_2 e)) ?_
  refine x_aload_n (pc' := 625) rfl rfl rfl rfl rfl ?_
  refine x_cs (ls0 := [_, _, _, _, sJk]) (rest := []) rfl rfl rfl rfl ?_
  refine x_aload_n (pc' := 1) rfl rfl rfl rfl rfl ?_
  refine x_iconst (pc' := 2) rfl rfl ?_
  refine x_aload_n (pc' := 3) rfl rfl rfl rfl rfl ?_
  refine x_iload_n (pc' := 4) rfl rfl rfl ?_
  refine x_iload_n (pc' := 5) rfl rfl rfl ?_
  refine x_cv (ls0 := [_, _, _, sJk, sJk]) (rest := [_, _]) rfl rfl rfl rfl rfl ?_
  refine x_aload_n (pc' := 1) rfl rfl rfl rfl rfl ?_
  refine x_iload_n (pc' := 2) rfl rfl rfl ?_
  refine x_cv (ls0 := [_, _]) (rest := []) rfl rfl rfl rfl rfl ?_
  refine x_iload_n (pc' := 1) rfl rfl rfl ?_
  refine x_if (a' := 16) (pc' := 4) (z := decide ((xs 1) < 0)) rfl rfl rfl rfl (fun h => absurd (of_decide_eq_true h) e0) (fun _ => ?_)
  refine x_iload_n (pc' := 5) rfl rfl rfl ?_
  refine x_aload_n (pc' := 6) rfl rfl rfl rfl rfl ?_
  refine x_gR (pc' := 9) (r := (some 0)) rfl rfl rfl (z_R_704_0 e) ?_
  refine x_gR (pc' := 12) (r := (some 0)) rfl rfl rfl (z_R_321_0 e) ?_
  refine x_alen (pc' := 13) (N := 6) rfl rfl rfl (z_N_26_0 e) (?_ : X _ _ _ (.inl 6 :: _) _ _)
  refine x_icmp (a' := 27) (pc' := 16) (z := decide ((xs 1) < 6)) rfl rfl rfl rfl (fun h => absurd (of_decide_eq_true h) f0) (fun _ => ?_)
  refine x_throw rfl rfl ?_
  refine sK_n (by decide +kernel) rfl ?_
  refine sK_h (h := 13) (by decide +kernel) rfl ?_
  refine x_catch (pc' := 15) (ls' := [_, _, _, _, _]) rfl rfl rfl rfl ?_
  refine x_iconst (pc' := 16) rfl rfl ?_
  refine x_reti rfl rfl ?_
  refine sK_i (pc' := 628) rfl ?_
  refine x_istore (pc' := 630) (ls' := [_, _, _, _, _, _, _]) rfl rfl rfl rfl ?_
  refine x_aload_n (pc' := 631) rfl rfl rfl rfl rfl ?_
  refine x_aload_n (pc' := 632) rfl rfl rfl rfl rfl ?_
  refine x_iload (pc' := 634) rfl rfl rfl ?_
  refine x_iconst (pc' := 635) rfl rfl ?_
  refine x_iadd (pc' := 636) (z := 1) rfl rfl (by decide) ?_
  refine x_iald (pc' := 637) (N := 7) (x := (xs 1)) rfl rfl rfl (Eq.trans rdNthr (z_N_29_0 e)) (io_in (p := 1) (N := 7) (by decide) (by decide)) (Eq.trans (congrArg (sA (sThr t) 29 0) (nn_io (p := 1) (by decide))) (Eq.trans rdAthr (z_A_29_0_1 e))) ?_
  refine x_aload_n (pc' := 638) rfl rfl rfl rfl rfl ?_
  refine x_iload (pc' := 640) rfl rfl rfl ?_
  refine x_iconst (pc' := 641) rfl rfl ?_
  refine x_iadd (pc' := 642) (z := 2) rfl rfl (by decide) ?_
  refine x_iald (pc' := 643) (N := 7) (x := (xs 2)) rfl rfl rfl (Eq.trans rdNthr (z_N_29_0 e)) (io_in (p := 2) (N := 7) (by decide) (by decide)) (Eq.trans (congrArg (sA (sThr t) 29 0) (nn_io (p := 2) (by decide))) (Eq.trans rdAthr (z_A_29_0_2 e))) ?_
  refine x_cv (ls0 := [_, _, _, sJk, sJk]) (rest := []) rfl rfl rfl rfl rfl ?_
  refine x_iload_n (pc' := 1) rfl rfl rfl ?_
  refine x_cs (ls0 := [_]) (rest := []) rfl rfl rfl rfl ?_
  refine x_iload_n (pc' := 1) rfl rfl rfl ?_
  refine x_iconst (pc' := 2) rfl rfl ?_
  refine x_iconst (pc' := 3) rfl rfl ?_
  refine x_cs (ls0 := [_, _, _]) (rest := []) rfl rfl rfl rfl ?_
  refine x_iload_n (pc' := 1) rfl rfl rfl ?_
  refine x_iload_n (pc' := 2) rfl rfl rfl ?_
  refine x_icmp (a' := 14) (pc' := 5) (z := decide ((xs 1) < 0)) rfl rfl rfl rfl (fun h => absurd (of_decide_eq_true h) e0) (fun _ => ?_)
  refine x_iload_n (pc' := 6) rfl rfl rfl ?_
  refine x_iload_n (pc' := 7) rfl rfl rfl ?_
  refine x_icmp (a' := 14) (pc' := 10) (z := decide (5 < (xs 1))) rfl rfl rfl rfl (fun _ => ?_) (fun h => absurd (lt_of6 f0) (of_decide_eq_false h))
  refine x_iconst (pc' := 15) rfl rfl ?_
  refine x_retz (z := false) rfl rfl ?_
  refine sK_i (pc' := 6) rfl ?_
  refine x_retz (z := false) rfl rfl ?_
  refine sK_i (pc' := 4) rfl ?_
  refine x_istore_n (pc' := 5) (ls' := [_, _, _, _, _]) rfl rfl rfl rfl ?_
  refine x_aload_n (pc' := 6) rfl rfl rfl rfl rfl ?_
  refine x_iload_n (pc' := 7) rfl rfl rfl ?_
  refine x_if (a' := 14) (pc' := 10) (z := false) rfl rfl rfl (by decide) (fun h => by cases h) (fun _ => ?_)
  refine x_iconst (pc' := 11) rfl rfl ?_
  refine x_goto (pc' := 43) rfl rfl ?_
  refine x_cv (ls0 := [_, _]) (rest := []) rfl rfl rfl rfl rfl ?_
  refine x_aload_n (pc' := 1) rfl rfl rfl rfl rfl ?_
  refine x_iload_n (pc' := 2) rfl rfl rfl ?_
  refine x_pI (pc' := 5) rfl rfl rfl ?_
  refine x_iload_n (pc' := 6) rfl rfl rfl ?_
  refine x_if (a' := 13) (pc' := 9) (z := true) rfl rfl rfl (by decide) (fun _ => ?_) (fun h => by cases h)
  refine x_iconst (pc' := 14) rfl rfl ?_
  refine x_retz (z := false) rfl rfl ?_
  refine sK_i (pc' := 46) rfl ?_
  refine x_if (a' := 51) (pc' := 49) (z := false) rfl rfl rfl (by decide) (fun h => by cases h) (fun _ => ?_)
  refine x_iconst (pc' := 50) rfl rfl ?_
  refine x_reti rfl rfl ?_
  refine sK_i (pc' := 646) rfl ?_
  refine x_istore (pc' := 648) (ls' := [_, _, _, _, _, _, _]) rfl rfl rfl rfl ?_
  refine x_aload_n (pc' := 649) rfl rfl rfl rfl rfl ?_
  refine x_cv (ls0 := [_]) (rest := []) rfl rfl rfl rfl rfl ?_
  refine x_aload_n (pc' := 1) rfl rfl rfl rfl rfl ?_
  refine x_gI (pc' := 4) (x := 1) rfl rfl rfl sI_s ?_
  refine x_reti rfl rfl ?_
  refine sK_i (pc' := 652) rfl ?_
  refine x_iload (pc' := 654) rfl rfl rfl ?_
  refine x_icmp (a' := 659) (pc' := 657) (z := true) rfl rfl rfl (by decide) (fun _ => ?_) (fun h => by cases h)
  refine x_iload (pc' := 661) rfl rfl rfl ?_
  refine x_if (a' := 676) (pc' := 664) (z := true) rfl rfl rfl (by decide) (fun _ => ?_) (fun h => by cases h)
  refine x_goto (pc' := 2938) rfl rfl ?_
  refine x_iinc (pc' := 2941) (y := 7) (ls' := [_, _, _, _, _, _, _]) rfl rfl rfl rfl rfl ?_
  refine x_goto (pc' := 23) rfl rfl ?_
  refine x_iload (pc' := 25) rfl rfl rfl ?_
  refine x_aload_n (pc' := 26) rfl rfl rfl rfl rfl ?_
  refine x_alen (pc' := 27) (N := 7) rfl rfl rfl (Eq.trans rdNI (Eq.trans rdNthr (z_N_29_0 e))) (?_ : X _ _ _ (.inl 7 :: _) _ _)
  refine x_bipush (pc' := 29) rfl rfl ?_
  refine x_isub (pc' := 30) (z := 0) rfl rfl (by decide) ?_
  refine x_icmp (a' := 2944) (pc' := 33) (z := true) rfl rfl rfl (by decide) (fun _ => ?_) (fun h => by cases h)
  refine x_iconst (pc' := 2945) rfl rfl ?_
  refine x_retz (z := true) rfl rfl ?_
  exact Qp_ok e (p := 1) (q := 6) rfl rfl rfl rfl
set_option maxHeartbeats 4000000 in
set_option maxRecDepth 10000 in
theorem v_7_i {t : sT} {xs : Nat → Int32}
    (e : t = T16 7 xs)
    (hk : ((xs 0) &&& 63) = 7) :
    X 297 23 [.inr (.inr (29, (some 0))), .inr (.inr (11, (some 0))), .inr (.inr (12, (some 0))), .inr (.inr (23, (some 0))), .inl 0, sJk, sJk] [] t Qp := by
  refine x_iload (pc' := 25) rfl rfl rfl ?_
  refine x_aload_n (pc' := 26) rfl rfl rfl rfl rfl ?_
  refine x_alen (pc' := 27) (N := 7) rfl rfl rfl (z_N_29_0 e) (?_ : X _ _ _ (.inl 7 :: _) _ _)
  refine x_bipush (pc' := 29) rfl rfl ?_
  refine x_isub (pc' := 30) (z := 0) rfl rfl (by decide) ?_
  refine x_icmp (a' := 2944) (pc' := 33) (z := false) rfl rfl rfl (by decide) (fun h => by cases h) (fun _ => ?_)
  refine x_aload_n (pc' := 34) rfl rfl rfl rfl rfl ?_
  refine x_iload (pc' := 36) rfl rfl rfl ?_
  refine x_iald (pc' := 37) (N := 7) (x := (xs 0)) rfl rfl rfl (z_N_29_0 e) (io_in (p := 0) (N := 7) (by decide) (by decide)) (Eq.trans (congrArg (sA t 29 0) (nn_io (p := 0) (by decide))) (z_A_29_0_0 e)) ?_
  refine x_bipush (pc' := 39) rfl rfl ?_
  refine x_iand (pc' := 40) (z := ((xs 0) &&& 63)) rfl rfl rfl ?_
  refine x_switch (pc' := 679) rfl (by rw [hk]; decide) ?_
  refine x_aload_n (pc' := 680) rfl rfl rfl rfl rfl ?_
  refine x_aload_n (pc' := 681) rfl rfl rfl rfl rfl ?_
  refine x_iload (pc' := 683) rfl rfl rfl ?_
  refine x_iconst (pc' := 684) rfl rfl ?_
  refine x_iadd (pc' := 685) (z := 1) rfl rfl (by decide) ?_
  refine x_iald (pc' := 686) (N := 7) (x := (xs 1)) rfl rfl rfl (z_N_29_0 e) (io_in (p := 1) (N := 7) (by decide) (by decide)) (Eq.trans (congrArg (sA t 29 0) (nn_io (p := 1) (by decide))) (z_A_29_0_1 e)) ?_
  refine x_aload_n (pc' := 687) rfl rfl rfl rfl rfl ?_
  refine x_cs (ls0 := [_, _, _, sJk]) (rest := []) rfl rfl rfl rfl ?_
  refine x_aload_n (pc' := 1) rfl rfl rfl rfl rfl ?_
  refine x_iconst (pc' := 2) rfl rfl ?_
  refine x_aload_n (pc' := 3) rfl rfl rfl rfl rfl ?_
  refine x_iload_n (pc' := 4) rfl rfl rfl ?_
  refine x_cv (ls0 := [_, _, sJk]) (rest := [_, _]) rfl rfl rfl rfl rfl ?_
  refine x_iload_n (pc' := 1) rfl rfl rfl ?_
  refine x_iconst (pc' := 2) rfl rfl ?_
  refine x_ldc (pc' := 4) rfl rfl ?_
  refine x_cs (ls0 := [_, _, _]) (rest := []) rfl rfl rfl rfl ?_
  refine x_iload_n (pc' := 1) rfl rfl rfl ?_
  refine x_iload_n (pc' := 2) rfl rfl rfl ?_
  refine x_icmp (a' := 10) (pc' := 5) (z := decide ((xs 1) < 0)) rfl rfl rfl rfl (fun q3 => ?_) (fun q3 => ?_)
  · refine x_throw rfl rfl ?_
    refine sK_n (by decide +kernel) rfl ?_
    refine sK_h (h := 12) (by decide +kernel) rfl ?_
    refine x_catch_n (pc' := 13) (ls' := [_, _, _, _]) rfl rfl rfl rfl ?_
    refine x_iconst (pc' := 14) rfl rfl ?_
    refine x_reti rfl rfl ?_
    refine sK_i (pc' := 690) rfl ?_
    refine x_istore (pc' := 692) (ls' := [_, _, _, _, _, _, _]) rfl rfl rfl rfl ?_
    refine x_aload_n (pc' := 693) rfl rfl rfl rfl rfl ?_
    refine x_aload_n (pc' := 694) rfl rfl rfl rfl rfl ?_
    refine x_iload (pc' := 696) rfl rfl rfl ?_
    refine x_iconst (pc' := 697) rfl rfl ?_
    refine x_iadd (pc' := 698) (z := 1) rfl rfl (by decide) ?_
    refine x_iald (pc' := 699) (N := 7) (x := (xs 1)) rfl rfl rfl (Eq.trans rdNthr (z_N_29_0 e)) (io_in (p := 1) (N := 7) (by decide) (by decide)) (Eq.trans (congrArg (sA (sThr t) 29 0) (nn_io (p := 1) (by decide))) (Eq.trans rdAthr (z_A_29_0_1 e))) ?_
    refine x_cv (ls0 := [_, _, sJk]) (rest := []) rfl rfl rfl rfl rfl ?_
    refine x_aload_n (pc' := 1) rfl rfl rfl rfl rfl ?_
    refine x_iload_n (pc' := 2) rfl rfl rfl ?_
    refine x_iconst (pc' := 3) rfl rfl ?_
    refine x_ldc_w (pc' := 6) rfl rfl ?_
    refine x_cs (ls0 := [_, _, _]) (rest := [_]) rfl rfl rfl rfl ?_
    refine x_iload_n (pc' := 1) rfl rfl rfl ?_
    refine x_iload_n (pc' := 2) rfl rfl rfl ?_
    refine x_icmp (a' := 14) (pc' := 5) (z := decide ((xs 1) < 0)) rfl rfl rfl rfl (fun _ => ?_) (fun h => absurd (of_decide_eq_true q3) (of_decide_eq_false h))
    refine x_iconst (pc' := 15) rfl rfl ?_
    refine x_retz (z := false) rfl rfl ?_
    refine sK_i (pc' := 9) rfl ?_
    refine x_if (a' := 16) (pc' := 12) (z := true) rfl rfl rfl (by decide) (fun _ => ?_) (fun h => by cases h)
    refine x_iconst (pc' := 17) rfl rfl ?_
    refine x_cv (ls0 := [_, _]) (rest := []) rfl rfl rfl rfl rfl ?_
    refine x_aload_n (pc' := 1) rfl rfl rfl rfl rfl ?_
    refine x_iload_n (pc' := 2) rfl rfl rfl ?_
    refine x_pI (pc' := 5) rfl rfl rfl ?_
    refine x_iload_n (pc' := 6) rfl rfl rfl ?_
    refine x_if (a' := 13) (pc' := 9) (z := true) rfl rfl rfl (by decide) (fun _ => ?_) (fun h => by cases h)
    refine x_iconst (pc' := 14) rfl rfl ?_
    refine x_retz (z := false) rfl rfl ?_
    refine sK_i (pc' := 20) rfl ?_
    refine x_if (a' := 25) (pc' := 23) (z := false) rfl rfl rfl (by decide) (fun h => by cases h) (fun _ => ?_)
    refine x_iconst (pc' := 24) rfl rfl ?_
    refine x_reti rfl rfl ?_
    refine sK_i (pc' := 702) rfl ?_
    refine x_istore (pc' := 704) (ls' := [_, _, _, _, _, _, _]) rfl rfl rfl rfl ?_
    refine x_aload_n (pc' := 705) rfl rfl rfl rfl rfl ?_
    refine x_cv (ls0 := [_]) (rest := []) rfl rfl rfl rfl rfl ?_
    refine x_aload_n (pc' := 1) rfl rfl rfl rfl rfl ?_
    refine x_gI (pc' := 4) (x := 1) rfl rfl rfl sI_s ?_
    refine x_reti rfl rfl ?_
    refine sK_i (pc' := 708) rfl ?_
    refine x_iload (pc' := 710) rfl rfl rfl ?_
    refine x_icmp (a' := 715) (pc' := 713) (z := true) rfl rfl rfl (by decide) (fun _ => ?_) (fun h => by cases h)
    refine x_iload (pc' := 717) rfl rfl rfl ?_
    refine x_if (a' := 732) (pc' := 720) (z := true) rfl rfl rfl (by decide) (fun _ => ?_) (fun h => by cases h)
    refine x_goto (pc' := 2938) rfl rfl ?_
    refine x_iinc (pc' := 2941) (y := 7) (ls' := [_, _, _, _, _, _, _]) rfl rfl rfl rfl rfl ?_
    refine x_goto (pc' := 23) rfl rfl ?_
    refine x_iload (pc' := 25) rfl rfl rfl ?_
    refine x_aload_n (pc' := 26) rfl rfl rfl rfl rfl ?_
    refine x_alen (pc' := 27) (N := 7) rfl rfl rfl (Eq.trans rdNI (Eq.trans rdNthr (z_N_29_0 e))) (?_ : X _ _ _ (.inl 7 :: _) _ _)
    refine x_bipush (pc' := 29) rfl rfl ?_
    refine x_isub (pc' := 30) (z := 0) rfl rfl (by decide) ?_
    refine x_icmp (a' := 2944) (pc' := 33) (z := true) rfl rfl rfl (by decide) (fun _ => ?_) (fun h => by cases h)
    refine x_iconst (pc' := 2945) rfl rfl ?_
    refine x_retz (z := true) rfl rfl ?_
    exact Qp_ok e (p := 1) (q := 6) rfl rfl rfl rfl
  · refine x_iload_n (pc' := 6) rfl rfl rfl ?_
    refine x_iload_n (pc' := 7) rfl rfl rfl ?_
    refine x_icmp_n (a' := 21) (pc' := 10) (z := decide (1000000 < (xs 1))) rfl rfl rfl (ik_le _ _) (fun q11 => ?_) (fun q11 => ?_)
    · refine x_ret rfl ?_
      refine sK_v (pc' := 7) rfl ?_
      refine x_aload_n (pc' := 8) rfl rfl rfl rfl rfl ?_
      refine x_gR (pc' := 11) (r := (some 0)) rfl rfl rfl (z_R_704_0 e) ?_
      refine x_gI (pc' := 14) (x := 0) rfl rfl rfl (z_I_324_0 e) ?_
      refine x_istore_n (pc' := 15) (ls' := [_, _, _]) rfl rfl rfl rfl ?_
      refine x_aload_n (pc' := 16) rfl rfl rfl rfl rfl ?_
      refine x_gR (pc' := 19) (r := (some 0)) rfl rfl rfl (z_R_704_0 e) ?_
      refine x_iload_n (pc' := 20) rfl rfl rfl ?_
      refine x_pI (pc' := 23) rfl rfl rfl ?_
      refine x_iload_n (pc' := 24) rfl rfl rfl ?_
      refine x_reti rfl rfl ?_
      refine sK_i (pc' := 7) rfl ?_
      refine x_i2l (pc' := 8) (z := (0 : Int64)) rfl rfl (by decide) ?_
      refine x_last (pc' := 9) (N := 1) (p := 0) rfl rfl (Eq.trans rdNI (z_N_23_0 e)) (io_in (p := 0) (N := 1) (by decide) (by decide)) (nn_io (p := 0) (by decide)) ?_
      refine x_goto (pc' := 15) rfl rfl ?_
      refine x_iconst (pc' := 16) rfl rfl ?_
      refine x_reti rfl rfl ?_
      refine sK_i (pc' := 690) rfl ?_
      refine x_istore (pc' := 692) (ls' := [_, _, _, _, _, _, _]) rfl rfl rfl rfl ?_
      refine x_aload_n (pc' := 693) rfl rfl rfl rfl rfl ?_
      refine x_aload_n (pc' := 694) rfl rfl rfl rfl rfl ?_
      refine x_iload (pc' := 696) rfl rfl rfl ?_
      refine x_iconst (pc' := 697) rfl rfl ?_
      refine x_iadd (pc' := 698) (z := 1) rfl rfl (by decide) ?_
      refine x_iald (pc' := 699) (N := 7) (x := (xs 1)) rfl rfl rfl (Eq.trans rdNL (Eq.trans rdNI (z_N_29_0 e))) (io_in (p := 1) (N := 7) (by decide) (by decide)) (Eq.trans (congrArg (sA (sLw (sIw t 324 0 (xs 1)) 23 0 0 (0 : Int64)) 29 0) (nn_io (p := 1) (by decide))) (Eq.trans rdAL (Eq.trans rdAI (z_A_29_0_1 e)))) ?_
      refine x_cv (ls0 := [_, _, sJk]) (rest := []) rfl rfl rfl rfl rfl ?_
      refine x_aload_n (pc' := 1) rfl rfl rfl rfl rfl ?_
      refine x_iload_n (pc' := 2) rfl rfl rfl ?_
      refine x_iconst (pc' := 3) rfl rfl ?_
      refine x_ldc_w (pc' := 6) rfl rfl ?_
      refine x_cs (ls0 := [_, _, _]) (rest := [_]) rfl rfl rfl rfl ?_
      refine x_iload_n (pc' := 1) rfl rfl rfl ?_
      refine x_iload_n (pc' := 2) rfl rfl rfl ?_
      refine x_icmp (a' := 14) (pc' := 5) (z := decide ((xs 1) < 0)) rfl rfl rfl rfl (fun h => absurd (of_decide_eq_true h) (of_decide_eq_false q3)) (fun _ => ?_)
      refine x_iload_n (pc' := 6) rfl rfl rfl ?_
      refine x_iload_n (pc' := 7) rfl rfl rfl ?_
      refine x_icmp (a' := 14) (pc' := 10) (z := decide (1000000 < (xs 1))) rfl rfl rfl rfl (fun h => absurd (of_decide_eq_true h) (of_decide_eq_false q11)) (fun _ => ?_)
      refine x_iconst (pc' := 11) rfl rfl ?_
      refine x_goto (pc' := 15) rfl rfl ?_
      refine x_retz (z := true) rfl rfl ?_
      refine sK_i (pc' := 9) rfl ?_
      refine x_if (a' := 16) (pc' := 12) (z := false) rfl rfl rfl (by decide) (fun h => by cases h) (fun _ => ?_)
      refine x_iconst (pc' := 13) rfl rfl ?_
      refine x_goto (pc' := 17) rfl rfl ?_
      refine x_cv (ls0 := [_, _]) (rest := []) rfl rfl rfl rfl rfl ?_
      refine x_aload_n (pc' := 1) rfl rfl rfl rfl rfl ?_
      refine x_iload_n (pc' := 2) rfl rfl rfl ?_
      refine x_pI (pc' := 5) rfl rfl rfl ?_
      refine x_iload_n (pc' := 6) rfl rfl rfl ?_
      refine x_if (a' := 13) (pc' := 9) (z := false) rfl rfl rfl (by decide) (fun h => by cases h) (fun _ => ?_)
      refine x_iconst (pc' := 10) rfl rfl ?_
      refine x_goto (pc' := 14) rfl rfl ?_
      refine x_retz (z := true) rfl rfl ?_
      refine sK_i (pc' := 20) rfl ?_
      refine x_if (a' := 25) (pc' := 23) (z := true) rfl rfl rfl (by decide) (fun _ => ?_) (fun h => by cases h)
      refine x_aload_n (pc' := 26) rfl rfl rfl rfl rfl ?_
      refine x_gI (pc' := 29) (x := 0) rfl rfl rfl (Eq.trans (rdI_F rfl) (Eq.trans rdIL (Eq.trans (rdI_F rfl) (z_I_784_0 e)))) ?_
      refine x_istore_n (pc' := 30) (ls' := [_, _, _]) rfl rfl rfl rfl ?_
      refine x_aload_n (pc' := 31) rfl rfl rfl rfl rfl ?_
      refine x_iload_n (pc' := 32) rfl rfl rfl ?_
      refine x_pI (pc' := 35) rfl rfl rfl ?_
      refine x_iload_n (pc' := 36) rfl rfl rfl ?_
      refine x_reti rfl rfl ?_
      refine sK_i (pc' := 702) rfl ?_
      refine x_istore (pc' := 704) (ls' := [_, _, _, _, _, _, _]) rfl rfl rfl rfl ?_
      refine x_aload_n (pc' := 705) rfl rfl rfl rfl rfl ?_
      refine x_cv (ls0 := [_]) (rest := []) rfl rfl rfl rfl rfl ?_
      refine x_aload_n (pc' := 1) rfl rfl rfl rfl rfl ?_
      refine x_gI (pc' := 4) (x := 0) rfl rfl rfl (Eq.trans (rdI_F rfl) sI_s) ?_
      refine x_reti rfl rfl ?_
      refine sK_i (pc' := 708) rfl ?_
      refine x_iload (pc' := 710) rfl rfl rfl ?_
      refine x_icmp (a' := 715) (pc' := 713) (z := true) rfl rfl rfl (by decide) (fun _ => ?_) (fun h => by cases h)
      refine x_iload (pc' := 717) rfl rfl rfl ?_
      refine x_if (a' := 732) (pc' := 720) (z := false) rfl rfl rfl (by decide) (fun h => by cases h) (fun _ => ?_)
      refine x_aload_n (pc' := 721) rfl rfl rfl rfl rfl ?_
      refine x_iconst (pc' := 722) rfl rfl ?_
      refine x_lald (pc' := 723) (N := 1) (x := (0 : Int64)) rfl rfl (Eq.trans rdNI (Eq.trans rdNI (Eq.trans rdNL (Eq.trans rdNI (z_N_23_0 e))))) (io_in (p := 0) (N := 1) (by decide) (by decide)) (Eq.trans (congrArg (sL (sIw (sIw (sLw (sIw t 324 0 (xs 1)) 23 0 0 (0 : Int64)) 768 0 0) 784 0 (xs 1)) 23 0) (nn_io (p := 0) (by decide))) (Eq.trans rdLI (Eq.trans rdLI sL_s))) ?_
      refine x_iload (pc' := 725) rfl rfl rfl ?_
      refine x_i2l (pc' := 726) (z := (0 : Int64)) rfl rfl (by decide) ?_
      refine x_lcmp (pc' := 727) (z := 0) rfl rfl (sLcmp_s _) ?_
      refine x_if (a' := 732) (pc' := 730) (z := true) rfl rfl rfl (by decide) (fun _ => ?_) (fun h => by cases h)
      refine x_goto (pc' := 2938) rfl rfl ?_
      refine x_iinc (pc' := 2941) (y := 7) (ls' := [_, _, _, _, _, _, _]) rfl rfl rfl rfl rfl ?_
      refine x_goto (pc' := 23) rfl rfl ?_
      refine x_iload (pc' := 25) rfl rfl rfl ?_
      refine x_aload_n (pc' := 26) rfl rfl rfl rfl rfl ?_
      refine x_alen (pc' := 27) (N := 7) rfl rfl rfl (Eq.trans rdNI (Eq.trans rdNI (Eq.trans rdNL (Eq.trans rdNI (z_N_29_0 e))))) (?_ : X _ _ _ (.inl 7 :: _) _ _)
      refine x_bipush (pc' := 29) rfl rfl ?_
      refine x_isub (pc' := 30) (z := 0) rfl rfl (by decide) ?_
      refine x_icmp (a' := 2944) (pc' := 33) (z := true) rfl rfl rfl (by decide) (fun _ => ?_) (fun h => by cases h)
      refine x_iconst (pc' := 2945) rfl rfl ?_
      refine x_retz (z := true) rfl rfl ?_
      exact Qp_ok e (p := 0) (q := 0) rfl rfl rfl rfl
    · refine x_throw rfl rfl ?_
      refine sK_n (by decide +kernel) rfl ?_
      refine sK_h (h := 12) (by decide +kernel) rfl ?_
      refine x_catch_n (pc' := 13) (ls' := [_, _, _, _]) rfl rfl rfl rfl ?_
      refine x_iconst (pc' := 14) rfl rfl ?_
      refine x_reti rfl rfl ?_
      refine sK_i (pc' := 690) rfl ?_
      refine x_istore (pc' := 692) (ls' := [_, _, _, _, _, _, _]) rfl rfl rfl rfl ?_
      refine x_aload_n (pc' := 693) rfl rfl rfl rfl rfl ?_
      refine x_aload_n (pc' := 694) rfl rfl rfl rfl rfl ?_
      refine x_iload (pc' := 696) rfl rfl rfl ?_
      refine x_iconst (pc' := 697) rfl rfl ?_
      refine x_iadd (pc' := 698) (z := 1) rfl rfl (by decide) ?_
      refine x_iald (pc' := 699) (N := 7) (x := (xs 1)) rfl rfl rfl (Eq.trans rdNthr (z_N_29_0 e)) (io_in (p := 1) (N := 7) (by decide) (by decide)) (Eq.trans (congrArg (sA (sThr t) 29 0) (nn_io (p := 1) (by decide))) (Eq.trans rdAthr (z_A_29_0_1 e))) ?_
      refine x_cv (ls0 := [_, _, sJk]) (rest := []) rfl rfl rfl rfl rfl ?_
      refine x_aload_n (pc' := 1) rfl rfl rfl rfl rfl ?_
      refine x_iload_n (pc' := 2) rfl rfl rfl ?_
      refine x_iconst (pc' := 3) rfl rfl ?_
      refine x_ldc_w (pc' := 6) rfl rfl ?_
      refine x_cs (ls0 := [_, _, _]) (rest := [_]) rfl rfl rfl rfl ?_
      refine x_iload_n (pc' := 1) rfl rfl rfl ?_
      refine x_iload_n (pc' := 2) rfl rfl rfl ?_
      refine x_icmp (a' := 14) (pc' := 5) (z := decide ((xs 1) < 0)) rfl rfl rfl rfl (fun h => absurd (of_decide_eq_true h) (of_decide_eq_false q3)) (fun _ => ?_)
      refine x_iload_n (pc' := 6) rfl rfl rfl ?_
      refine x_iload_n (pc' := 7) rfl rfl rfl ?_
      refine x_icmp (a' := 14) (pc' := 10) (z := decide (1000000 < (xs 1))) rfl rfl rfl rfl (fun _ => ?_) (fun h => absurd (of_decide_eq_true q11) (of_decide_eq_false h))
      refine x_iconst (pc' := 15) rfl rfl ?_
      refine x_retz (z := false) rfl rfl ?_
      refine sK_i (pc' := 9) rfl ?_
      refine x_if (a' := 16) (pc' := 12) (z := true) rfl rfl rfl (by decide) (fun _ => ?_) (fun h => by cases h)
      refine x_iconst (pc' := 17) rfl rfl ?_
      refine x_cv (ls0 := [_, _]) (rest := []) rfl rfl rfl rfl rfl ?_
      refine x_aload_n (pc' := 1) rfl rfl rfl rfl rfl ?_
      refine x_iload_n (pc' := 2) rfl rfl rfl ?_
      refine x_pI (pc' := 5) rfl rfl rfl ?_
      refine x_iload_n (pc' := 6) rfl rfl rfl ?_
      refine x_if (a' := 13) (pc' := 9) (z := true) rfl rfl rfl (by decide) (fun _ => ?_) (fun h => by cases h)
      refine x_iconst (pc' := 14) rfl rfl ?_
      refine x_retz (z := false) rfl rfl ?_
      refine sK_i (pc' := 20) rfl ?_
      refine x_if (a' := 25) (pc' := 23) (z := false) rfl rfl rfl (by decide) (fun h => by cases h) (fun _ => ?_)
      refine x_iconst (pc' := 24) rfl rfl ?_
      refine x_reti rfl rfl ?_
      refine sK_i (pc' := 702) rfl ?_
      refine x_istore (pc' := 704) (ls' := [_, _, _, _, _, _, _]) rfl rfl rfl rfl ?_
      refine x_aload_n (pc' := 705) rfl rfl rfl rfl rfl ?_
      refine x_cv (ls0 := [_]) (rest := []) rfl rfl rfl rfl rfl ?_
      refine x_aload_n (pc' := 1) rfl rfl rfl rfl rfl ?_
      refine x_gI (pc' := 4) (x := 1) rfl rfl rfl sI_s ?_
      refine x_reti rfl rfl ?_
      refine sK_i (pc' := 708) rfl ?_
      refine x_iload (pc' := 710) rfl rfl rfl ?_
      refine x_icmp (a' := 715) (pc' := 713) (z := true) rfl rfl rfl (by decide) (fun _ => ?_) (fun h => by cases h)
      refine x_iload (pc' := 717) rfl rfl rfl ?_
      refine x_if (a' := 732) (pc' := 720) (z := true) rfl rfl rfl (by decide) (fun _ => ?_) (fun h => by cases h)
      refine x_goto (pc' := 2938) rfl rfl ?_
      refine x_iinc (pc' := 2941) (y := 7) (ls' := [_, _, _, _, _, _, _]) rfl rfl rfl rfl rfl ?_
      refine x_goto (pc' := 23) rfl rfl ?_
      refine x_iload (pc' := 25) rfl rfl rfl ?_
      refine x_aload_n (pc' := 26) rfl rfl rfl rfl rfl ?_
      refine x_alen (pc' := 27) (N := 7) rfl rfl rfl (Eq.trans rdNI (Eq.trans rdNthr (z_N_29_0 e))) (?_ : X _ _ _ (.inl 7 :: _) _ _)
      refine x_bipush (pc' := 29) rfl rfl ?_
      refine x_isub (pc' := 30) (z := 0) rfl rfl (by decide) ?_
      refine x_icmp (a' := 2944) (pc' := 33) (z := true) rfl rfl rfl (by decide) (fun _ => ?_) (fun h => by cases h)
      refine x_iconst (pc' := 2945) rfl rfl ?_
      refine x_retz (z := true) rfl rfl ?_
      exact Qp_ok e (p := 1) (q := 6) rfl rfl rfl rfl
set_option maxHeartbeats 4000000 in
set_option maxRecDepth 10000 in
theorem v_8_v_i {t : sT} {xs : Nat → Int32} {m : Nat}
    (e : t = T16 7 xs)
    (hk : ((xs 0) &&& 63) = 8)
    (hm : m < 6)
    (e0 : xs 1 = io m) :
    X 297 23 [.inr (.inr (29, (some 0))), .inr (.inr (11, (some 0))), .inr (.inr (12, (some 0))), .inr (.inr (23, (some 0))), .inl 0, sJk, sJk] [] t Qp := by
  refine x_iload (pc' := 25) rfl rfl rfl ?_
  refine x_aload_n (pc' := 26) rfl rfl rfl rfl rfl ?_
  refine x_alen (pc' := 27) (N := 7) rfl rfl rfl (z_N_29_0 e) (?_ : X _ _ _ (.inl 7 :: _) _ _)
  refine x_bipush (pc' := 29) rfl rfl ?_
  refine x_isub (pc' := 30) (z := 0) rfl rfl (by decide) ?_
  refine x_icmp (a' := 2944) (pc' := 33) (z := false) rfl rfl rfl (by decide) (fun h => by cases h) (fun _ => ?_)
  refine x_aload_n (pc' := 34) rfl rfl rfl rfl rfl ?_
  refine x_iload (pc' := 36) rfl rfl rfl ?_
  refine x_iald (pc' := 37) (N := 7) (x := (xs 0)) rfl rfl rfl (z_N_29_0 e) (io_in (p := 0) (N := 7) (by decide) (by decide)) (Eq.trans (congrArg (sA t 29 0) (nn_io (p := 0) (by decide))) (z_A_29_0_0 e)) ?_
  refine x_bipush (pc' := 39) rfl rfl ?_
  refine x_iand (pc' := 40) (z := ((xs 0) &&& 63)) rfl rfl rfl ?_
  refine x_switch (pc' := 735) rfl (by rw [hk]; decide) ?_
  refine x_aload_n (pc' := 736) rfl rfl rfl rfl rfl ?_
  refine x_aload_n (pc' := 737) rfl rfl rfl rfl rfl ?_
  refine x_iload (pc' := 739) rfl rfl rfl ?_
  refine x_iconst (pc' := 740) rfl rfl ?_
  refine x_iadd (pc' := 741) (z := 1) rfl rfl (by decide) ?_
  refine x_iald (pc' := 742) (N := 7) (x := (io m)) rfl rfl rfl (z_N_29_0 e) (io_in (p := 1) (N := 7) (by decide) (by decide)) (Eq.trans (congrArg (sA t 29 0) (nn_io (p := 1) (by decide))) (Eq.trans (z_A_29_0_1 e) e0)) ?_
  refine x_aload_n (pc' := 743) rfl rfl rfl rfl rfl ?_
  refine x_iload (pc' := 745) rfl rfl rfl ?_
  refine x_iconst (pc' := 746) rfl rfl ?_
  refine x_iadd (pc' := 747) (z := 2) rfl rfl (by decide) ?_
  refine x_iald (pc' := 748) (N := 7) (x := (xs 2)) rfl rfl rfl (z_N_29_0 e) (io_in (p := 2) (N := 7) (by decide) (by decide)) (Eq.trans (congrArg (sA t 29 0) (nn_io (p := 2) (by decide))) (z_A_29_0_2 e)) ?_
  refine x_aload_n (pc' := 749) rfl rfl rfl rfl rfl ?_
  refine x_cs (ls0 := [_, _, _, _, sJk]) (rest := []) rfl rfl rfl rfl ?_
  refine x_aload_n (pc' := 1) rfl rfl rfl rfl rfl ?_
  refine x_iconst (pc' := 2) rfl rfl ?_
  refine x_aload_n (pc' := 3) rfl rfl rfl rfl rfl ?_
  refine x_iload_n (pc' := 4) rfl rfl rfl ?_
  refine x_iload_n (pc' := 5) rfl rfl rfl ?_
  refine x_cv (ls0 := [_, _, _, sJk, sJk]) (rest := [_, _]) rfl rfl rfl rfl rfl ?_
  refine x_aload_n (pc' := 1) rfl rfl rfl rfl rfl ?_
  refine x_iload_n (pc' := 2) rfl rfl rfl ?_
  refine x_cv (ls0 := [_, _]) (rest := []) rfl rfl rfl rfl rfl ?_
  refine x_iload_n (pc' := 1) rfl rfl rfl ?_
  refine x_if (a' := 16) (pc' := 4) (z := decide (m < 0)) rfl rfl rfl (ic_lt (p := m) (q := 0) (Nat.lt_trans hm (by decide)) (by decide)) (fun h => absurd (of_decide_eq_true h) (by first | decide | omega | simp)) (fun _ => ?_)
  refine x_iload_n (pc' := 5) rfl rfl rfl ?_
  refine x_aload_n (pc' := 6) rfl rfl rfl rfl rfl ?_
  refine x_gR (pc' := 9) (r := (some 0)) rfl rfl rfl (z_R_704_0 e) ?_
  refine x_gR (pc' := 12) (r := (some 0)) rfl rfl rfl (z_R_321_0 e) ?_
  refine x_alen (pc' := 13) (N := 6) rfl rfl rfl (z_N_26_0 e) (?_ : X _ _ _ (.inl 6 :: _) _ _)
  refine x_icmp (a' := 27) (pc' := 16) (z := decide (m < 6)) rfl rfl rfl (ic_lt (p := m) (q := 6) (Nat.lt_trans hm (by decide)) (by decide)) (fun _ => ?_) (fun h => absurd (Nat.lt_of_lt_of_le hm (by decide)) (of_decide_eq_false h))
  refine x_aload_n (pc' := 28) rfl rfl rfl rfl rfl ?_
  refine x_gR (pc' := 31) (r := (some 0)) rfl rfl rfl (z_R_704_0 e) ?_
  refine x_gR (pc' := 34) (r := (some 0)) rfl rfl rfl (z_R_321_0 e) ?_
  refine x_iload_n (pc' := 35) rfl rfl rfl ?_
  refine x_aald (pc' := 36) (N := 6) (k' := 7) (r := (some m)) rfl rfl rfl (z_N_26_0 e) (io_in (p := m) (N := 6) hm (by decide)) (Eq.trans (congrArg (sE t 26 0) (nn_io (p := m) (Nat.lt_trans hm (by decide)))) (kM (Cn_e e) hm)) ?_
  refine x_reta rfl rfl ?_
  refine sK_i (pc' := 5) rfl ?_
  refine x_astore_n (pc' := 6) (ls' := [_, _, _, _, _]) rfl rfl rfl rfl rfl ?_
  refine x_iload_n (pc' := 7) rfl rfl rfl ?_
  refine x_iconst (pc' := 8) rfl rfl ?_
  refine x_sipush (pc' := 11) rfl rfl ?_
  refine x_cs (ls0 := [_, _, _]) (rest := []) rfl rfl rfl rfl ?_
  refine x_iload_n (pc' := 1) rfl rfl rfl ?_
  refine x_iload_n (pc' := 2) rfl rfl rfl ?_
  refine x_icmp (a' := 10) (pc' := 5) (z := decide ((xs 2) < 0)) rfl rfl rfl rfl (fun q5 => ?_) (fun q5 => ?_)
  · refine x_throw rfl rfl ?_
    refine sK_n (by decide +kernel) rfl ?_
    refine sK_h (h := 17) (by decide +kernel) rfl ?_
    refine x_catch (pc' := 19) (ls' := [_, _, _, _, _]) rfl rfl rfl rfl ?_
    refine x_iconst (pc' := 20) rfl rfl ?_
    refine x_reti rfl rfl ?_
    refine sK_i (pc' := 752) rfl ?_
    refine x_istore (pc' := 754) (ls' := [_, _, _, _, _, _, _]) rfl rfl rfl rfl ?_
    refine x_aload_n (pc' := 755) rfl rfl rfl rfl rfl ?_
    refine x_aload_n (pc' := 756) rfl rfl rfl rfl rfl ?_
    refine x_iload (pc' := 758) rfl rfl rfl ?_
    refine x_iconst (pc' := 759) rfl rfl ?_
    refine x_iadd (pc' := 760) (z := 1) rfl rfl (by decide) ?_
    refine x_iald (pc' := 761) (N := 7) (x := (io m)) rfl rfl rfl (Eq.trans rdNthr (z_N_29_0 e)) (io_in (p := 1) (N := 7) (by decide) (by decide)) (Eq.trans (congrArg (sA (sThr t) 29 0) (nn_io (p := 1) (by decide))) (Eq.trans rdAthr (Eq.trans (z_A_29_0_1 e) e0))) ?_
    refine x_aload_n (pc' := 762) rfl rfl rfl rfl rfl ?_
    refine x_iload (pc' := 764) rfl rfl rfl ?_
    refine x_iconst (pc' := 765) rfl rfl ?_
    refine x_iadd (pc' := 766) (z := 2) rfl rfl (by decide) ?_
    refine x_iald (pc' := 767) (N := 7) (x := (xs 2)) rfl rfl rfl (Eq.trans rdNthr (z_N_29_0 e)) (io_in (p := 2) (N := 7) (by decide) (by decide)) (Eq.trans (congrArg (sA (sThr t) 29 0) (nn_io (p := 2) (by decide))) (Eq.trans rdAthr (z_A_29_0_2 e))) ?_
    refine x_cv (ls0 := [_, _, _, sJk]) (rest := []) rfl rfl rfl rfl rfl ?_
    refine x_aload_n (pc' := 1) rfl rfl rfl rfl rfl ?_
    refine x_iload_n (pc' := 2) rfl rfl rfl ?_
    refine x_cs (ls0 := [_]) (rest := [_]) rfl rfl rfl rfl ?_
    refine x_iload_n (pc' := 1) rfl rfl rfl ?_
    refine x_iconst (pc' := 2) rfl rfl ?_
    refine x_iconst (pc' := 3) rfl rfl ?_
    refine x_cs (ls0 := [_, _, _]) (rest := []) rfl rfl rfl rfl ?_
    refine x_iload_n (pc' := 1) rfl rfl rfl ?_
    refine x_iload_n (pc' := 2) rfl rfl rfl ?_
    refine x_icmp (a' := 14) (pc' := 5) (z := decide (m < 0)) rfl rfl rfl (ic_lt (p := m) (q := 0) (Nat.lt_trans hm (by decide)) (by decide)) (fun h => absurd (of_decide_eq_true h) (by first | decide | omega | simp)) (fun _ => ?_)
    refine x_iload_n (pc' := 6) rfl rfl rfl ?_
    refine x_iload_n (pc' := 7) rfl rfl rfl ?_
    refine x_icmp (a' := 14) (pc' := 10) (z := decide (5 < m)) rfl rfl rfl (ic_gt (p := m) (q := 5) (Nat.lt_trans hm (by decide)) (by decide)) (fun h => absurd (of_decide_eq_true h) (fun z => absurd hm (Nat.not_lt.mpr z))) (fun _ => ?_)
    refine x_iconst (pc' := 11) rfl rfl ?_
    refine x_goto (pc' := 15) rfl rfl ?_
    refine x_retz (z := true) rfl rfl ?_
    refine sK_i (pc' := 6) rfl ?_
    refine x_retz (z := true) rfl rfl ?_
    refine sK_i (pc' := 5) rfl ?_
    refine x_if (a' := 12) (pc' := 8) (z := true) rfl rfl rfl (by decide) (fun _ => ?_) (fun h => by cases h)
    refine x_iload_n (pc' := 13) rfl rfl rfl ?_
    refine x_iconst (pc' := 14) rfl rfl ?_
    refine x_sipush (pc' := 17) rfl rfl ?_
    refine x_cs (ls0 := [_, _, _]) (rest := [_]) rfl rfl rfl rfl ?_
    refine x_iload_n (pc' := 1) rfl rfl rfl ?_
    refine x_iload_n (pc' := 2) rfl rfl rfl ?_
    refine x_icmp (a' := 14) (pc' := 5) (z := decide ((xs 2) < 0)) rfl rfl rfl rfl (fun _ => ?_) (fun h => absurd (of_decide_eq_true q5) (of_decide_eq_false h))
    refine x_iconst (pc' := 15) rfl rfl ?_
    refine x_retz (z := false) rfl rfl ?_
    refine sK_i (pc' := 20) rfl ?_
    refine x_if (a' := 27) (pc' := 23) (z := true) rfl rfl rfl (by decide) (fun _ => ?_) (fun h => by cases h)
    refine x_iconst (pc' := 28) rfl rfl ?_
    refine x_cv (ls0 := [_, _]) (rest := []) rfl rfl rfl rfl rfl ?_
    refine x_aload_n (pc' := 1) rfl rfl rfl rfl rfl ?_
    refine x_iload_n (pc' := 2) rfl rfl rfl ?_
    refine x_pI (pc' := 5) rfl rfl rfl ?_
    refine x_iload_n (pc' := 6) rfl rfl rfl ?_
    refine x_if (a' := 13) (pc' := 9) (z := true) rfl rfl rfl (by decide) (fun _ => ?_) (fun h => by cases h)
    refine x_iconst (pc' := 14) rfl rfl ?_
    refine x_retz (z := false) rfl rfl ?_
    refine sK_i (pc' := 31) rfl ?_
    refine x_if (a' := 36) (pc' := 34) (z := false) rfl rfl rfl (by decide) (fun h => by cases h) (fun _ => ?_)
    refine x_iconst (pc' := 35) rfl rfl ?_
    refine x_reti rfl rfl ?_
    refine sK_i (pc' := 770) rfl ?_
    refine x_istore (pc' := 772) (ls' := [_, _, _, _, _, _, _]) rfl rfl rfl rfl ?_
    refine x_aload_n (pc' := 773) rfl rfl rfl rfl rfl ?_
    refine x_cv (ls0 := [_]) (rest := []) rfl rfl rfl rfl rfl ?_
    refine x_aload_n (pc' := 1) rfl rfl rfl rfl rfl ?_
    refine x_gI (pc' := 4) (x := 2) rfl rfl rfl sI_s ?_
    refine x_reti rfl rfl ?_
    refine sK_i (pc' := 776) rfl ?_
    refine x_iload (pc' := 778) rfl rfl rfl ?_
    refine x_icmp (a' := 783) (pc' := 781) (z := true) rfl rfl rfl (by decide) (fun _ => ?_) (fun h => by cases h)
    refine x_iload (pc' := 785) rfl rfl rfl ?_
    refine x_if (a' := 800) (pc' := 788) (z := true) rfl rfl rfl (by decide) (fun _ => ?_) (fun h => by cases h)
    refine x_goto (pc' := 2938) rfl rfl ?_
    refine x_iinc (pc' := 2941) (y := 7) (ls' := [_, _, _, _, _, _, _]) rfl rfl rfl rfl rfl ?_
    refine x_goto (pc' := 23) rfl rfl ?_
    refine x_iload (pc' := 25) rfl rfl rfl ?_
    refine x_aload_n (pc' := 26) rfl rfl rfl rfl rfl ?_
    refine x_alen (pc' := 27) (N := 7) rfl rfl rfl (Eq.trans rdNI (Eq.trans rdNthr (z_N_29_0 e))) (?_ : X _ _ _ (.inl 7 :: _) _ _)
    refine x_bipush (pc' := 29) rfl rfl ?_
    refine x_isub (pc' := 30) (z := 0) rfl rfl (by decide) ?_
    refine x_icmp (a' := 2944) (pc' := 33) (z := true) rfl rfl rfl (by decide) (fun _ => ?_) (fun h => by cases h)
    refine x_iconst (pc' := 2945) rfl rfl ?_
    refine x_retz (z := true) rfl rfl ?_
    exact Qp_ok e (p := 1) (q := 6) rfl rfl rfl rfl
  · refine x_iload_n (pc' := 6) rfl rfl rfl ?_
    refine x_iload_n (pc' := 7) rfl rfl rfl ?_
    refine x_icmp_n (a' := 21) (pc' := 10) (z := decide (1000 < (xs 2))) rfl rfl rfl (ik_le _ _) (fun q16 => ?_) (fun q16 => ?_)
    · refine x_ret rfl ?_
      refine sK_v (pc' := 14) rfl ?_
      refine x_aload_n (pc' := 15) rfl rfl rfl rfl rfl ?_
      refine x_gI (pc' := 18) (x := 0) rfl rfl rfl (z_I_453_y e _) ?_
      refine x_istore (pc' := 20) (ls' := [_, _, _, _, _]) rfl rfl rfl rfl ?_
      refine x_aload_n (pc' := 21) rfl rfl rfl rfl rfl ?_
      refine x_iload_n (pc' := 22) rfl rfl rfl ?_
      refine x_pI (pc' := 25) rfl rfl rfl ?_
      refine x_iload (pc' := 27) rfl rfl rfl ?_
      refine x_reti rfl rfl ?_
      refine sK_i (pc' := 8) rfl ?_
      refine x_i2l (pc' := 9) (z := (0 : Int64)) rfl rfl (by decide) ?_
      refine x_last (pc' := 10) (N := 1) (p := 0) rfl rfl (Eq.trans rdNI (z_N_23_0 e)) (io_in (p := 0) (N := 1) (by decide) (by decide)) (nn_io (p := 0) (by decide)) ?_
      refine x_goto (pc' := 21) rfl rfl ?_
      refine x_iconst (pc' := 22) rfl rfl ?_
      refine x_reti rfl rfl ?_
      refine sK_i (pc' := 752) rfl ?_
      refine x_istore (pc' := 754) (ls' := [_, _, _, _, _, _, _]) rfl rfl rfl rfl ?_
      refine x_aload_n (pc' := 755) rfl rfl rfl rfl rfl ?_
      refine x_aload_n (pc' := 756) rfl rfl rfl rfl rfl ?_
      refine x_iload (pc' := 758) rfl rfl rfl ?_
      refine x_iconst (pc' := 759) rfl rfl ?_
      refine x_iadd (pc' := 760) (z := 1) rfl rfl (by decide) ?_
      refine x_iald (pc' := 761) (N := 7) (x := (io m)) rfl rfl rfl (Eq.trans rdNL (Eq.trans rdNI (z_N_29_0 e))) (io_in (p := 1) (N := 7) (by decide) (by decide)) (Eq.trans (congrArg (sA (sLw (sIw t 453 m (xs 2)) 23 0 0 (0 : Int64)) 29 0) (nn_io (p := 1) (by decide))) (Eq.trans rdAL (Eq.trans rdAI (Eq.trans (z_A_29_0_1 e) e0)))) ?_
      refine x_aload_n (pc' := 762) rfl rfl rfl rfl rfl ?_
      refine x_iload (pc' := 764) rfl rfl rfl ?_
      refine x_iconst (pc' := 765) rfl rfl ?_
      refine x_iadd (pc' := 766) (z := 2) rfl rfl (by decide) ?_
      refine x_iald (pc' := 767) (N := 7) (x := (xs 2)) rfl rfl rfl (Eq.trans rdNL (Eq.trans rdNI (z_N_29_0 e))) (io_in (p := 2) (N := 7) (by decide) (by decide)) (Eq.trans (congrArg (sA (sLw (sIw t 453 m (xs 2)) 23 0 0 (0 : Int64)) 29 0) (nn_io (p := 2) (by decide))) (Eq.trans rdAL (Eq.trans rdAI (z_A_29_0_2 e)))) ?_
      refine x_cv (ls0 := [_, _, _, sJk]) (rest := []) rfl rfl rfl rfl rfl ?_
      refine x_aload_n (pc' := 1) rfl rfl rfl rfl rfl ?_
      refine x_iload_n (pc' := 2) rfl rfl rfl ?_
      refine x_cs (ls0 := [_]) (rest := [_]) rfl rfl rfl rfl ?_
      refine x_iload_n (pc' := 1) rfl rfl rfl ?_
      refine x_iconst (pc' := 2) rfl rfl ?_
      refine x_iconst (pc' := 3) rfl rfl ?_
      refine x_cs (ls0 := [_, _, _]) (rest := []) rfl rfl rfl rfl ?_
      refine x_iload_n (pc' := 1) rfl rfl rfl ?_
      refine x_iload_n (pc' := 2) rfl rfl rfl ?_
      refine x_icmp (a' := 14) (pc' := 5) (z := decide (m < 0)) rfl rfl rfl (ic_lt (p := m) (q := 0) (Nat.lt_trans hm (by decide)) (by decide)) (fun h => absurd (of_decide_eq_true h) (by first | decide | omega | simp)) (fun _ => ?_)
      refine x_iload_n (pc' := 6) rfl rfl rfl ?_
      refine x_iload_n (pc' := 7) rfl rfl rfl ?_
      refine x_icmp (a' := 14) (pc' := 10) (z := decide (5 < m)) rfl rfl rfl (ic_gt (p := m) (q := 5) (Nat.lt_trans hm (by decide)) (by decide)) (fun h => absurd (of_decide_eq_true h) (fun z => absurd hm (Nat.not_lt.mpr z))) (fun _ => ?_)
      refine x_iconst (pc' := 11) rfl rfl ?_
      refine x_goto (pc' := 15) rfl rfl ?_
      refine x_retz (z := true) rfl rfl ?_
      refine sK_i (pc' := 6) rfl ?_
      refine x_retz (z := true) rfl rfl ?_
      refine sK_i (pc' := 5) rfl ?_
      refine x_if (a' := 12) (pc' := 8) (z := true) rfl rfl rfl (by decide) (fun _ => ?_) (fun h => by cases h)
      refine x_iload_n (pc' := 13) rfl rfl rfl ?_
      refine x_iconst (pc' := 14) rfl rfl ?_
      refine x_sipush (pc' := 17) rfl rfl ?_
      refine x_cs (ls0 := [_, _, _]) (rest := [_]) rfl rfl rfl rfl ?_
      refine x_iload_n (pc' := 1) rfl rfl rfl ?_
      refine x_iload_n (pc' := 2) rfl rfl rfl ?_
      refine x_icmp (a' := 14) (pc' := 5) (z := decide ((xs 2) < 0)) rfl rfl rfl rfl (fun h => absurd (of_decide_eq_true h) (of_decide_eq_false q5)) (fun _ => ?_)
      refine x_iload_n (pc' := 6) rfl rfl rfl ?_
      refine x_iload_n (pc' := 7) rfl rfl rfl ?_
      refine x_icmp (a' := 14) (pc' := 10) (z := decide (1000 < (xs 2))) rfl rfl rfl rfl (fun h => absurd (of_decide_eq_true h) (of_decide_eq_false q16)) (fun _ => ?_)
      refine x_iconst (pc' := 11) rfl rfl ?_
      refine x_goto (pc' := 15) rfl rfl ?_
      refine x_retz (z := true) rfl rfl ?_
      refine sK_i (pc' := 20) rfl ?_
      refine x_if (a' := 27) (pc' := 23) (z := false) rfl rfl rfl (by decide) (fun h => by cases h) (fun _ => ?_)
      refine x_iconst (pc' := 24) rfl rfl ?_
      refine x_goto (pc' := 28) rfl rfl ?_
      refine x_cv (ls0 := [_, _]) (rest := []) rfl rfl rfl rfl rfl ?_
      refine x_aload_n (pc' := 1) rfl rfl rfl rfl rfl ?_
      refine x_iload_n (pc' := 2) rfl rfl rfl ?_
      refine x_pI (pc' := 5) rfl rfl rfl ?_
      refine x_iload_n (pc' := 6) rfl rfl rfl ?_
      refine x_if (a' := 13) (pc' := 9) (z := false) rfl rfl rfl (by decide) (fun h => by cases h) (fun _ => ?_)
      refine x_iconst (pc' := 10) rfl rfl ?_
      refine x_goto (pc' := 14) rfl rfl ?_
      refine x_retz (z := true) rfl rfl ?_
      refine sK_i (pc' := 31) rfl ?_
      refine x_if (a' := 36) (pc' := 34) (z := true) rfl rfl rfl (by decide) (fun _ => ?_) (fun h => by cases h)
      refine x_aload_n (pc' := 37) rfl rfl rfl rfl rfl ?_
      refine x_gR (pc' := 40) (r := (some 8)) rfl rfl rfl (Eq.trans rdRI (Eq.trans rdRL (Eq.trans rdRI (z_R_778_0 e)))) ?_
      refine x_iload_n (pc' := 41) rfl rfl rfl ?_
      refine x_iald (pc' := 42) (N := 6) (x := 0) rfl rfl rfl (Eq.trans rdNI (Eq.trans rdNL (Eq.trans rdNI (z_N_21_8 e)))) (io_in (p := m) (N := 6) hm (by decide)) (Eq.trans (congrArg (sA (sIw (sLw (sIw t 453 m (xs 2)) 23 0 0 (0 : Int64)) 768 0 0) 21 8) (nn_io (p := m) (Nat.lt_trans hm (by decide)))) (Eq.trans rdAI (Eq.trans rdAL (Eq.trans rdAI (z_A_21_8_y e _))))) ?_
      refine x_istore_n (pc' := 43) (ls' := [_, _, _, _]) rfl rfl rfl rfl ?_
      refine x_aload_n (pc' := 44) rfl rfl rfl rfl rfl ?_
      refine x_gR (pc' := 47) (r := (some 8)) rfl rfl rfl (Eq.trans rdRI (Eq.trans rdRL (Eq.trans rdRI (z_R_778_0 e)))) ?_
      refine x_iload_n (pc' := 48) rfl rfl rfl ?_
      refine x_iload_n (pc' := 49) rfl rfl rfl ?_
      refine x_iast (pc' := 50) (N := 6) (p := m) rfl rfl rfl (Eq.trans rdNI (Eq.trans rdNL (Eq.trans rdNI (z_N_21_8 e)))) (io_in (p := m) (N := 6) hm (by decide)) (nn_io (p := m) (Nat.lt_trans hm (by decide))) ?_
      refine x_iload_n (pc' := 51) rfl rfl rfl ?_
      refine x_reti rfl rfl ?_
      refine sK_i (pc' := 770) rfl ?_
      refine x_istore (pc' := 772) (ls' := [_, _, _, _, _, _, _]) rfl rfl rfl rfl ?_
      refine x_aload_n (pc' := 773) rfl rfl rfl rfl rfl ?_
      refine x_cv (ls0 := [_]) (rest := []) rfl rfl rfl rfl rfl ?_
      refine x_aload_n (pc' := 1) rfl rfl rfl rfl rfl ?_
      refine x_gI (pc' := 4) (x := 0) rfl rfl rfl (Eq.trans rdIA sI_s) ?_
      refine x_reti rfl rfl ?_
      refine sK_i (pc' := 776) rfl ?_
      refine x_iload (pc' := 778) rfl rfl rfl ?_
      refine x_icmp (a' := 783) (pc' := 781) (z := true) rfl rfl rfl (by decide) (fun _ => ?_) (fun h => by cases h)
      refine x_iload (pc' := 785) rfl rfl rfl ?_
      refine x_if (a' := 800) (pc' := 788) (z := false) rfl rfl rfl (by decide) (fun h => by cases h) (fun _ => ?_)
      refine x_aload_n (pc' := 789) rfl rfl rfl rfl rfl ?_
      refine x_iconst (pc' := 790) rfl rfl ?_
      refine x_lald (pc' := 791) (N := 1) (x := (0 : Int64)) rfl rfl (Eq.trans rdNA (Eq.trans rdNI (Eq.trans rdNL (Eq.trans rdNI (z_N_23_0 e))))) (io_in (p := 0) (N := 1) (by decide) (by decide)) (Eq.trans (congrArg (sL (sAw (sIw (sLw (sIw t 453 m (xs 2)) 23 0 0 (0 : Int64)) 768 0 0) 21 8 m (xs 2)) 23 0) (nn_io (p := 0) (by decide))) (Eq.trans rdLA (Eq.trans rdLI sL_s))) ?_
      refine x_iload (pc' := 793) rfl rfl rfl ?_
      refine x_i2l (pc' := 794) (z := (0 : Int64)) rfl rfl (by decide) ?_
      refine x_lcmp (pc' := 795) (z := 0) rfl rfl (sLcmp_s _) ?_
      refine x_if (a' := 800) (pc' := 798) (z := true) rfl rfl rfl (by decide) (fun _ => ?_) (fun h => by cases h)
      refine x_goto (pc' := 2938) rfl rfl ?_
      refine x_iinc (pc' := 2941) (y := 7) (ls' := [_, _, _, _, _, _, _]) rfl rfl rfl rfl rfl ?_
      refine x_goto (pc' := 23) rfl rfl ?_
      refine x_iload (pc' := 25) rfl rfl rfl ?_
      refine x_aload_n (pc' := 26) rfl rfl rfl rfl rfl ?_
      refine x_alen (pc' := 27) (N := 7) rfl rfl rfl (Eq.trans rdNA (Eq.trans rdNI (Eq.trans rdNL (Eq.trans rdNI (z_N_29_0 e))))) (?_ : X _ _ _ (.inl 7 :: _) _ _)
      refine x_bipush (pc' := 29) rfl rfl ?_
      refine x_isub (pc' := 30) (z := 0) rfl rfl (by decide) ?_
      refine x_icmp (a' := 2944) (pc' := 33) (z := true) rfl rfl rfl (by decide) (fun _ => ?_) (fun h => by cases h)
      refine x_iconst (pc' := 2945) rfl rfl ?_
      refine x_retz (z := true) rfl rfl ?_
      exact Qp_ok e (p := 0) (q := 0) rfl rfl rfl rfl
    · refine x_throw rfl rfl ?_
      refine sK_n (by decide +kernel) rfl ?_
      refine sK_h (h := 17) (by decide +kernel) rfl ?_
      refine x_catch (pc' := 19) (ls' := [_, _, _, _, _]) rfl rfl rfl rfl ?_
      refine x_iconst (pc' := 20) rfl rfl ?_
      refine x_reti rfl rfl ?_
      refine sK_i (pc' := 752) rfl ?_
      refine x_istore (pc' := 754) (ls' := [_, _, _, _, _, _, _]) rfl rfl rfl rfl ?_
      refine x_aload_n (pc' := 755) rfl rfl rfl rfl rfl ?_
      refine x_aload_n (pc' := 756) rfl rfl rfl rfl rfl ?_
      refine x_iload (pc' := 758) rfl rfl rfl ?_
      refine x_iconst (pc' := 759) rfl rfl ?_
      refine x_iadd (pc' := 760) (z := 1) rfl rfl (by decide) ?_
      refine x_iald (pc' := 761) (N := 7) (x := (io m)) rfl rfl rfl (Eq.trans rdNthr (z_N_29_0 e)) (io_in (p := 1) (N := 7) (by decide) (by decide)) (Eq.trans (congrArg (sA (sThr t) 29 0) (nn_io (p := 1) (by decide))) (Eq.trans rdAthr (Eq.trans (z_A_29_0_1 e) e0))) ?_
      refine x_aload_n (pc' := 762) rfl rfl rfl rfl rfl ?_
      refine x_iload (pc' := 764) rfl rfl rfl ?_
      refine x_iconst (pc' := 765) rfl rfl ?_
      refine x_iadd (pc' := 766) (z := 2) rfl rfl (by decide) ?_
      refine x_iald (pc' := 767) (N := 7) (x := (xs 2)) rfl rfl rfl (Eq.trans rdNthr (z_N_29_0 e)) (io_in (p := 2) (N := 7) (by decide) (by decide)) (Eq.trans (congrArg (sA (sThr t) 29 0) (nn_io (p := 2) (by decide))) (Eq.trans rdAthr (z_A_29_0_2 e))) ?_
      refine x_cv (ls0 := [_, _, _, sJk]) (rest := []) rfl rfl rfl rfl rfl ?_
      refine x_aload_n (pc' := 1) rfl rfl rfl rfl rfl ?_
      refine x_iload_n (pc' := 2) rfl rfl rfl ?_
      refine x_cs (ls0 := [_]) (rest := [_]) rfl rfl rfl rfl ?_
      refine x_iload_n (pc' := 1) rfl rfl rfl ?_
      refine x_iconst (pc' := 2) rfl rfl ?_
      refine x_iconst (pc' := 3) rfl rfl ?_
      refine x_cs (ls0 := [_, _, _]) (rest := []) rfl rfl rfl rfl ?_
      refine x_iload_n (pc' := 1) rfl rfl rfl ?_
      refine x_iload_n (pc' := 2) rfl rfl rfl ?_
      refine x_icmp (a' := 14) (pc' := 5) (z := decide (m < 0)) rfl rfl rfl (ic_lt (p := m) (q := 0) (Nat.lt_trans hm (by decide)) (by decide)) (fun h => absurd (of_decide_eq_true h) (by first | decide | omega | simp)) (fun _ => ?_)
      refine x_iload_n (pc' := 6) rfl rfl rfl ?_
      refine x_iload_n (pc' := 7) rfl rfl rfl ?_
      refine x_icmp (a' := 14) (pc' := 10) (z := decide (5 < m)) rfl rfl rfl (ic_gt (p := m) (q := 5) (Nat.lt_trans hm (by decide)) (by decide)) (fun h => absurd (of_decide_eq_true h) (fun z => absurd hm (Nat.not_lt.mpr z))) (fun _ => ?_)
      refine x_iconst (pc' := 11) rfl rfl ?_
      refine x_goto (pc' := 15) rfl rfl ?_
      refine x_retz (z := true) rfl rfl ?_
      refine sK_i (pc' := 6) rfl ?_
      refine x_retz (z := true) rfl rfl ?_
      refine sK_i (pc' := 5) rfl ?_
      refine x_if (a' := 12) (pc' := 8) (z := true) rfl rfl rfl (by decide) (fun _ => ?_) (fun h => by cases h)
      refine x_iload_n (pc' := 13) rfl rfl rfl ?_
      refine x_iconst (pc' := 14) rfl rfl ?_
      refine x_sipush (pc' := 17) rfl rfl ?_
      refine x_cs (ls0 := [_, _, _]) (rest := [_]) rfl rfl rfl rfl ?_
      refine x_iload_n (pc' := 1) rfl rfl rfl ?_
      refine x_iload_n (pc' := 2) rfl rfl rfl ?_
      refine x_icmp (a' := 14) (pc' := 5) (z := decide ((xs 2) < 0)) rfl rfl rfl rfl (fun h => absurd (of_decide_eq_true h) (of_decide_eq_false q5)) (fun _ => ?_)
      refine x_iload_n (pc' := 6) rfl rfl rfl ?_
      refine x_iload_n (pc' := 7) rfl rfl rfl ?_
      refine x_icmp (a' := 14) (pc' := 10) (z := decide (1000 < (xs 2))) rfl rfl rfl rfl (fun _ => ?_) (fun h => absurd (of_decide_eq_true q16) (of_decide_eq_false h))
      refine x_iconst (pc' := 15) rfl rfl ?_
      refine x_retz (z := false) rfl rfl ?_
      refine sK_i (pc' := 20) rfl ?_
      refine x_if (a' := 27) (pc' := 23) (z := true) rfl rfl rfl (by decide) (fun _ => ?_) (fun h => by cases h)
      refine x_iconst (pc' := 28) rfl rfl ?_
      refine x_cv (ls0 := [_, _]) (rest := []) rfl rfl rfl rfl rfl ?_
      refine x_aload_n (pc' := 1) rfl rfl rfl rfl rfl ?_
      refine x_iload_n (pc' := 2) rfl rfl rfl ?_
      refine x_pI (pc' := 5) rfl rfl rfl ?_
      refine x_iload_n (pc' := 6) rfl rfl rfl ?_
      refine x_if (a' := 13) (pc' := 9) (z := true) rfl rfl rfl (by decide) (fun _ => ?_) (fun h => by cases h)
      refine x_iconst (pc' := 14) rfl rfl ?_
      refine x_retz (z := false) rfl rfl ?_
      refine sK_i (pc' := 31) rfl ?_
      refine x_if (a' := 36) (pc' := 34) (z := false) rfl rfl rfl (by decide) (fun h => by cases h) (fun _ => ?_)
      refine x_iconst (pc' := 35) rfl rfl ?_
      refine x_reti rfl rfl ?_
      refine sK_i (pc' := 770) rfl ?_
      refine x_istore (pc' := 772) (ls' := [_, _, _, _, _, _, _]) rfl rfl rfl rfl ?_
      refine x_aload_n (pc' := 773) rfl rfl rfl rfl rfl ?_
      refine x_cv (ls0 := [_]) (rest := []) rfl rfl rfl rfl rfl ?_
      refine x_aload_n (pc' := 1) rfl rfl rfl rfl rfl ?_
      refine x_gI (pc' := 4) (x := 2) rfl rfl rfl sI_s ?_
      refine x_reti rfl rfl ?_
      refine sK_i (pc' := 776) rfl ?_
      refine x_iload (pc' := 778) rfl rfl rfl ?_
      refine x_icmp (a' := 783) (pc' := 781) (z := true) rfl rfl rfl (by decide) (fun _ => ?_) (fun h => by cases h)
      refine x_iload (pc' := 785) rfl rfl rfl ?_
      refine x_if (a' := 800) (pc' := 788) (z := true) rfl rfl rfl (by decide) (fun _ => ?_) (fun h => by cases h)
      refine x_goto (pc' := 2938) rfl rfl ?_
      refine x_iinc (pc' := 2941) (y := 7) (ls' := [_, _, _, _, _, _, _]) rfl rfl rfl rfl rfl ?_
      refine x_goto (pc' := 23) rfl rfl ?_
      refine x_iload (pc' := 25) rfl rfl rfl ?_
      refine x_aload_n (pc' := 26) rfl rfl rfl rfl rfl ?_
      refine x_alen (pc' := 27) (N := 7) rfl rfl rfl (Eq.trans rdNI (Eq.trans rdNthr (z_N_29_0 e))) (?_ : X _ _ _ (.inl 7 :: _) _ _)
      refine x_bipush (pc' := 29) rfl rfl ?_
      refine x_isub (pc' := 30) (z := 0) rfl rfl (by decide) ?_
      refine x_icmp (a' := 2944) (pc' := 33) (z := true) rfl rfl rfl (by decide) (fun _ => ?_) (fun h => by cases h)
      refine x_iconst (pc' := 2945) rfl rfl ?_
      refine x_retz (z := true) rfl rfl ?_
      exact Qp_ok e (p := 1) (q := 6) rfl rfl rfl rfl
set_option maxHeartbeats 4000000 in
set_option maxRecDepth 10000 in
theorem v_8_A_i {t : sT} {xs : Nat → Int32}
    (e : t = T16 7 xs)
    (hk : ((xs 0) &&& 63) = 8)
    (e0 : (xs 1) < 0) :
    X 297 23 [.inr (.inr (29, (some 0))), .inr (.inr (11, (some 0))), .inr (.inr (12, (some 0))), .inr (.inr (23, (some 0))), .inl 0, sJk, sJk] [] t Qp := by
  refine x_iload (pc' := 25) rfl rfl rfl ?_
  refine x_aload_n (pc' := 26) rfl rfl rfl rfl rfl ?_
  refine x_alen (pc' := 27) (N := 7) rfl rfl rfl (z_N_29_0 e) (?_ : X _ _ _ (.inl 7 :: _) _ _)
  refine x_bipush (pc' := 29) rfl rfl ?_
  refine x_isub (pc' := 30) (z := 0) rfl rfl (by decide) ?_
  refine x_icmp (a' := 2944) (pc' := 33) (z := false) rfl rfl rfl (by decide) (fun h => by cases h) (fun _ => ?_)
  refine x_aload_n (pc' := 34) rfl rfl rfl rfl rfl ?_
  refine x_iload (pc' := 36) rfl rfl rfl ?_
  refine x_iald (pc' := 37) (N := 7) (x := (xs 0)) rfl rfl rfl (z_N_29_0 e) (io_in (p := 0) (N := 7) (by decide) (by decide)) (Eq.trans (congrArg (sA t 29 0) (nn_io (p := 0) (by decide))) (z_A_29_0_0 e)) ?_
  refine x_bipush (pc' := 39) rfl rfl ?_
  refine x_iand (pc' := 40) (z := ((xs 0) &&& 63)) rfl rfl rfl ?_
  refine x_switch (pc' := 735) rfl (by rw [hk]; decide) ?_
  refine x_aload_n (pc' := 736) rfl rfl rfl rfl rfl ?_
  refine x_aload_n (pc' := 737) rfl rfl rfl rfl rfl ?_
  refine x_iload (pc' := 739) rfl rfl rfl ?_
  refine x_iconst (pc' := 740) rfl rfl ?_
  refine x_iadd (pc' := 741) (z := 1) rfl rfl (by decide) ?_
  refine x_iald (pc' := 742) (N := 7) (x := (xs 1)) rfl rfl rfl (z_N_29_0 e) (io_in (p := 1) (N := 7) (by decide) (by decide)) (Eq.trans (congrArg (sA t 29 0) (nn_io (p := 1) (by decide))) (z_A_29_0_1 e)) ?_
  refine x_aload_n (pc' := 743) rfl rfl rfl rfl rfl ?_
  refine x_iload (pc' := 745) rfl rfl rfl ?_
  refine x_iconst (pc' := 746) rfl rfl ?_
  refine x_iadd (pc' := 747) (z := 2) rfl rfl (by decide) ?_
  refine x_iald (pc' := 748) (N := 7) (x := (xs 2)) rfl rfl rfl (z_N_29_0 e) (io_in (p := 2) (N := 7) (by decide) (by decide)) (Eq.trans (congrArg (sA t 29 0) (nn_io (p := 2) (by decide))) (z_A_29_0_2 e)) ?_
  refine x_aload_n (pc' := 749) rfl rfl rfl rfl rfl ?_
  refine x_cs (ls0 := [_, _, _, _, sJk]) (rest := []) rfl rfl rfl rfl ?_
  refine x_aload_n (pc' := 1) rfl rfl rfl rfl rfl ?_
  refine x_iconst (pc' := 2) rfl rfl ?_
  refine x_aload_n (pc' := 3) rfl rfl rfl rfl rfl ?_
  refine x_iload_n (pc' := 4) rfl rfl rfl ?_
  refine x_iload_n (pc' := 5) rfl rfl rfl ?_
  refine x_cv (ls0 := [_, _, _, sJk, sJk]) (rest := [_, _]) rfl rfl rfl rfl rfl ?_
  refine x_aload_n (pc' := 1) rfl rfl rfl rfl rfl ?_
  refine x_iload_n (pc' := 2) rfl rfl rfl ?_
  refine x_cv (ls0 := [_, _]) (rest := []) rfl rfl rfl rfl rfl ?_
  refine x_iload_n (pc' := 1) rfl rfl rfl ?_
  refine x_if (a' := 16) (pc' := 4) (z := decide ((xs 1) < 0)) rfl rfl rfl rfl (fun _ => ?_) (fun h => absurd e0 (of_decide_eq_false h))
  refine x_throw rfl rfl ?_
  refine sK_n (by decide +kernel) rfl ?_
  refine sK_h (h := 13) (by decide +kernel) rfl ?_
  refine x_catch (pc' := 15) (ls' := [_, _, _, _, _]) rfl rfl rfl rfl ?_
  refine x_iconst (pc' := 16) rfl rfl ?_
  refine x_reti rfl rfl ?_
  refine sK_i (pc' := 752) rfl ?_
  refine x_istore (pc' := 754) (ls' := [_, _, _, _, _, _, _]) rfl rfl rfl rfl ?_
  refine x_aload_n (pc' := 755) rfl rfl rfl rfl rfl ?_
  refine x_aload_n (pc' := 756) rfl rfl rfl rfl rfl ?_
  refine x_iload (pc' := 758) rfl rfl rfl ?_
  refine x_iconst (pc' := 759) rfl rfl ?_
  refine x_iadd (pc' := 760) (z := 1) rfl rfl (by decide) ?_
  refine x_iald (pc' := 761) (N := 7) (x := (xs 1)) rfl rfl rfl (Eq.trans rdNthr (z_N_29_0 e)) (io_in (p := 1) (N := 7) (by decide) (by decide)) (Eq.trans (congrArg (sA (sThr t) 29 0) (nn_io (p := 1) (by decide))) (Eq.trans rdAthr (z_A_29_0_1 e))) ?_
  refine x_aload_n (pc' := 762) rfl rfl rfl rfl rfl ?_
  refine x_iload (pc' := 764) rfl rfl rfl ?_
  refine x_iconst (pc' := 765) rfl rfl ?_
  refine x_iadd (pc' := 766) (z := 2) rfl rfl (by decide) ?_
  refine x_iald (pc' := 767) (N := 7) (x := (xs 2)) rfl rfl rfl (Eq.trans rdNthr (z_N_29_0 e)) (io_in (p := 2) (N := 7) (by decide) (by decide)) (Eq.trans (congrArg (sA (sThr t) 29 0) (nn_io (p := 2) (by decide))) (Eq.trans rdAthr (z_A_29_0_2 e))) ?_
  refine x_cv (ls0 := [_, _, _, sJk]) (rest := []) rfl rfl rfl rfl rfl ?_
  refine x_aload_n (pc' := 1) rfl rfl rfl rfl rfl ?_
  refine x_iload_n (pc' := 2) rfl rfl rfl ?_
  refine x_cs (ls0 := [_]) (rest := [_]) rfl rfl rfl rfl ?_
  refine x_iload_n (pc' := 1) rfl rfl rfl ?_
  refine x_iconst (pc' := 2) rfl rfl ?_
  refine x_iconst (pc' := 3) rfl rfl ?_
  refine x_cs (ls0 := [_, _, _]) (rest := []) rfl rfl rfl rfl ?_
  refine x_iload_n (pc' := 1) rfl rfl rfl ?_
  refine x_iload_n (pc' := 2) rfl rfl rfl ?_
  refine x_icmp (a' := 14) (pc' := 5) (z := decide ((xs 1) < 0)) rfl rfl rfl rfl (fun _ => ?_) (fun h => absurd e0 (of_decide_eq_false h))
  refine x_iconst (pc' := 15) rfl rfl ?_
  refine x_retz (z := false) rfl rfl ?_
  refine sK_i (pc' := 6) rfl ?_
  refine x_retz (z := false) rfl rfl ?_
  refine sK_i (pc' := 5) rfl ?_
  refine x_if (a' := 12) (pc' := 8) (z := false) rfl rfl rfl (by decide) (fun h => by cases h) (fun _ => ?_)
  refine x_iconst (pc' := 9) rfl rfl ?_
  refine x_goto (pc' := 28) rfl rfl ?_
  refine x_cv (ls0 := [_, _]) (rest := []) rfl rfl rfl rfl rfl ?_
  refine x_aload_n (pc' := 1) rfl rfl rfl rfl rfl ?_
  refine x_iload_n (pc' := 2) rfl rfl rfl ?_
  refine x_pI (pc' := 5) rfl rfl rfl ?_
  refine x_iload_n (pc' := 6) rfl rfl rfl ?_
  refine x_if (a' := 13) (pc' := 9) (z := true) rfl rfl rfl (by decide) (fun _ => ?_) (fun h => by cases h)
  refine x_iconst (pc' := 14) rfl rfl ?_
  refine x_retz (z := false) rfl rfl ?_
  refine sK_i (pc' := 31) rfl ?_
  refine x_if (a' := 36) (pc' := 34) (z := false) rfl rfl rfl (by decide) (fun h => by cases h) (fun _ => ?_)
  refine x_iconst (pc' := 35) rfl rfl ?_
  refine x_reti rfl rfl ?_
  refine sK_i (pc' := 770) rfl ?_
  refine x_istore (pc' := 772) (ls' := [_, _, _, _, _, _, _]) rfl rfl rfl rfl ?_
  refine x_aload_n (pc' := 773) rfl rfl rfl rfl rfl ?_
  refine x_cv (ls0 := [_]) (rest := []) rfl rfl rfl rfl rfl ?_
  refine x_aload_n (pc' := 1) rfl rfl rfl rfl rfl ?_
  refine x_gI (pc' := 4) (x := 1) rfl rfl rfl sI_s ?_
  refine x_reti rfl rfl ?_
  refine sK_i (pc' := 776) rfl ?_
  refine x_iload (pc' := 778) rfl rfl rfl ?_
  refine x_icmp (a' := 783) (pc' := 781) (z := true) rfl rfl rfl (by decide) (fun _ => ?_) (fun h => by cases h)
  refine x_iload (pc' := 785) rfl rfl rfl ?_
  refine x_if (a' := 800) (pc' := 788) (z := true) rfl rfl rfl (by decide) (fun _ => ?_) (fun h => by cases h)
  refine x_goto (pc' := 2938) rfl rfl ?_
  refine x_iinc (pc' := 2941) (y := 7) (ls' := [_, _, _, _, _, _, _]) rfl rfl rfl rfl rfl ?_
  refine x_goto (pc' := 23) rfl rfl ?_
  refine x_iload (pc' := 25) rfl rfl rfl ?_
  refine x_aload_n (pc' := 26) rfl rfl rfl rfl rfl ?_
  refine x_alen (pc' := 27) (N := 7) rfl rfl rfl (Eq.trans rdNI (Eq.trans rdNthr (z_N_29_0 e))) (?_ : X _ _ _ (.inl 7 :: _) _ _)
  refine x_bipush (pc' := 29) rfl rfl ?_
  refine x_isub (pc' := 30) (z := 0) rfl rfl (by decide) ?_
  refine x_icmp (a' := 2944) (pc' := 33) (z := true) rfl rfl rfl (by decide) (fun _ => ?_) (fun h => by cases h)
  refine x_iconst (pc' := 2945) rfl rfl ?_
  refine x_retz (z := true) rfl rfl ?_
  exact Qp_ok e (p := 1) (q := 6) rfl rfl rfl rfl
set_option maxHeartbeats 4000000 in
set_option maxRecDepth 10000 in
theorem v_8_B_i {t : sT} {xs : Nat → Int32}
    (e : t = T16 7 xs)
    (hk : ((xs 0) &&& 63) = 8)
    (e0 : ¬ (xs 1) < 0)
    (f0 : ¬ (xs 1) < 6) :
    X 297 23 [.inr (.inr (29, (some 0))), .inr (.inr (11, (some 0))), .inr (.inr (12, (some 0))), .inr (.inr (23, (some 0))), .inl 0, sJk, sJk] [] t Qp := by
  refine x_iload (pc' := 25) rfl rfl rfl ?_
  refine x_aload_n (pc' := 26) rfl rfl rfl rfl rfl ?_
  refine x_alen (pc' := 27) (N := 7) rfl rfl rfl (z_N_29_0 e) (?_ : X _ _ _ (.inl 7 :: _) _ _)
  refine x_bipush (pc' := 29) rfl rfl ?_
  refine x_isub (pc' := 30) (z := 0) rfl rfl (by decide) ?_
  refine x_icmp (a' := 2944) (pc' := 33) (z := false) rfl rfl rfl (by decide) (fun h => by cases h) (fun _ => ?_)
  refine x_aload_n (pc' := 34) rfl rfl rfl rfl rfl ?_
  refine x_iload (pc' := 36) rfl rfl rfl ?_
  refine x_iald (pc' := 37) (N := 7) (x := (xs 0)) rfl rfl rfl (z_N_29_0 e) (io_in (p := 0) (N := 7) (by decide) (by decide)) (Eq.trans (congrArg (sA t 29 0) (nn_io (p := 0) (by decide))) (z_A_29_0_0 e)) ?_
  refine x_bipush (pc' := 39) rfl rfl ?_
  refine x_iand (pc' := 40) (z := ((xs 0) &&& 63)) rfl rfl rfl ?_
  refine x_switch (pc' := 735) rfl (by rw [hk]; decide) ?_
  refine x_aload_n (pc' := 736) rfl rfl rfl rfl rfl ?_
  refine x_aload_n (pc' := 737) rfl rfl rfl rfl rfl ?_
  refine x_iload (pc' := 739) rfl rfl rfl ?_
  refine x_iconst (pc' := 740) rfl rfl ?_
  refine x_iadd (pc' := 741) (z := 1) rfl rfl (by decide) ?_
  refine x_iald (pc' := 742) (N := 7) (x := (xs 1)) rfl rfl rfl (z_N_29_0 e) (io_in (p := 1) (N := 7) (by decide) (by decide)) (Eq.trans (congrArg (sA t 29 0) (nn_io (p := 1) (by decide))) (z_A_29_0_1 e)) ?_
  refine x_aload_n (pc' := 743) rfl rfl rfl rfl rfl ?_
  refine x_iload (pc' := 745) rfl rfl rfl ?_
  refine x_iconst (pc' := 746) rfl rfl ?_
  refine x_iadd (pc' := 747) (z := 2) rfl rfl (by decide) ?_
  refine x_iald (pc' := 748) (N := 7) (x := (xs 2)) rfl rfl rfl (z_N_29_0 e) (io_in (p := 2) (N := 7) (by decide) (by decide)) (Eq.trans (congrArg (sA t 29 0) (nn_io (p := 2) (by decide))) (z_A_29_0_2 e)) ?_
  refine x_aload_n (pc' := 749) rfl rfl rfl rfl rfl ?_
  refine x_cs (ls0 := [_, _, _, _, sJk]) (rest := []) rfl rfl rfl rfl ?_
  refine x_aload_n (pc' := 1) rfl rfl rfl rfl rfl ?_
  refine x_iconst (pc' := 2) rfl rfl ?_
  refine x_aload_n (pc' := 3) rfl rfl rfl rfl rfl ?_
  refine x_iload_n (pc' := 4) rfl rfl rfl ?_
  refine x_iload_n (pc' := 5) rfl rfl rfl ?_
  refine x_cv (ls0 := [_, _, _, sJk, sJk]) (rest := [_, _]) rfl rfl rfl rfl rfl ?_
  refine x_aload_n (pc' := 1) rfl rfl rfl rfl rfl ?_
  refine x_iload_n (pc' := 2) rfl rfl rfl ?_
  refine x_cv (ls0 := [_, _]) (rest := []) rfl rfl rfl rfl rfl ?_
  refine x_iload_n (pc' := 1) rfl rfl rfl ?_
  refine x_if (a' := 16) (pc' := 4) (z := decide ((xs 1) < 0)) rfl rfl rfl rfl (fun h => absurd (of_decide_eq_true h) e0) (fun _ => ?_)
  refine x_iload_n (pc' := 5) rfl rfl rfl ?_
  refine x_aload_n (pc' := 6) rfl rfl rfl rfl rfl ?_
  refine x_gR (pc' := 9) (r := (some 0)) rfl rfl rfl (z_R_704_0 e) ?_
  refine x_gR (pc' := 12) (r := (some 0)) rfl rfl rfl (z_R_321_0 e) ?_
  refine x_alen (pc' := 13) (N := 6) rfl rfl rfl (z_N_26_0 e) (?_ : X _ _ _ (.inl 6 :: _) _ _)
  refine x_icmp (a' := 27) (pc' := 16) (z := decide ((xs 1) < 6)) rfl rfl rfl rfl (fun h => absurd (of_decide_eq_true h) f0) (fun _ => ?_)
  refine x_throw rfl rfl ?_
  refine sK_n (by decide +kernel) rfl ?_
  refine sK_h (h := 13) (by decide +kernel) rfl ?_
  refine x_catch (pc' := 15) (ls' := [_, _, _, _, _]) rfl rfl rfl rfl ?_
  refine x_iconst (pc' := 16) rfl rfl ?_
  refine x_reti rfl rfl ?_
  refine sK_i (pc' := 752) rfl ?_
  refine x_istore (pc' := 754) (ls' := [_, _, _, _, _, _, _]) rfl rfl rfl rfl ?_
  refine x_aload_n (pc' := 755) rfl rfl rfl rfl rfl ?_
  refine x_aload_n (pc' := 756) rfl rfl rfl rfl rfl ?_
  refine x_iload (pc' := 758) rfl rfl rfl ?_
  refine x_iconst (pc' := 759) rfl rfl ?_
  refine x_iadd (pc' := 760) (z := 1) rfl rfl (by decide) ?_
  refine x_iald (pc' := 761) (N := 7) (x := (xs 1)) rfl rfl rfl (Eq.trans rdNthr (z_N_29_0 e)) (io_in (p := 1) (N := 7) (by decide) (by decide)) (Eq.trans (congrArg (sA (sThr t) 29 0) (nn_io (p := 1) (by decide))) (Eq.trans rdAthr (z_A_29_0_1 e))) ?_
  refine x_aload_n (pc' := 762) rfl rfl rfl rfl rfl ?_
  refine x_iload (pc' := 764) rfl rfl rfl ?_
  refine x_iconst (pc' := 765) rfl rfl ?_
  refine x_iadd (pc' := 766) (z := 2) rfl rfl (by decide) ?_
  refine x_iald (pc' := 767) (N := 7) (x := (xs 2)) rfl rfl rfl (Eq.trans rdNthr (z_N_29_0 e)) (io_in (p := 2) (N := 7) (by decide) (by decide)) (Eq.trans (congrArg (sA (sThr t) 29 0) (nn_io (p := 2) (by decide))) (Eq.trans rdAthr (z_A_29_0_2 e))) ?_
  refine x_cv (ls0 := [_, _, _, sJk]) (rest := []) rfl rfl rfl rfl rfl ?_
  refine x_aload_n (pc' := 1) rfl rfl rfl rfl rfl ?_
  refine x_iload_n (pc' := 2) rfl rfl rfl ?_
  refine x_cs (ls0 := [_]) (rest := [_]) rfl rfl rfl rfl ?_
  refine x_iload_n (pc' := 1) rfl rfl rfl ?_
  refine x_iconst (pc' := 2) rfl rfl ?_
  refine x_iconst (pc' := 3) rfl rfl ?_
  refine x_cs (ls0 := [_, _, _]) (rest := []) rfl rfl rfl rfl ?_
  refine x_iload_n (pc' := 1) rfl rfl rfl ?_
  refine x_iload_n (pc' := 2) rfl rfl rfl ?_
  refine x_icmp (a' := 14) (pc' := 5) (z := decide ((xs 1) < 0)) rfl rfl rfl rfl (fun h => absurd (of_decide_eq_true h) e0) (fun _ => ?_)
  refine x_iload_n (pc' := 6) rfl rfl rfl ?_
  refine x_iload_n (pc' := 7) rfl rfl rfl ?_
  refine x_icmp (a' := 14) (pc' := 10) (z := decide (5 < (xs 1))) rfl rfl rfl rfl (fun _ => ?_) (fun h => absurd (lt_of6 f0) (of_decide_eq_false h))
  refine x_iconst (pc' := 15) rfl rfl ?_
  refine x_retz (z := false) rfl rfl ?_
  refine sK_i (pc' := 6) rfl ?_
  refine x_retz (z := false) rfl rfl ?_
  refine sK_i (pc' := 5) rfl ?_
  refine x_if (a' := 12) (pc' := 8) (z := false) rfl rfl rfl (by decide) (fun h => by cases h) (fun _ => ?_)
  refine x_iconst (pc' := 9) rfl rfl ?_
  refine x_goto (pc' := 28) rfl rfl ?_
  refine x_cv (ls0 := [_, _]) (rest := []) rfl rfl rfl rfl rfl ?_
  refine x_aload_n (pc' := 1) rfl rfl rfl rfl rfl ?_
  refine x_iload_n (pc' := 2) rfl rfl rfl ?_
  refine x_pI (pc' := 5) rfl rfl rfl ?_
  refine x_iload_n (pc' := 6) rfl rfl rfl ?_
  refine x_if (a' := 13) (pc' := 9) (z := true) rfl rfl rfl (by decide) (fun _ => ?_) (fun h => by cases h)
  refine x_iconst (pc' := 14) rfl rfl ?_
  refine x_retz (z := false) rfl rfl ?_
  refine sK_i (pc' := 31) rfl ?_
  refine x_if (a' := 36) (pc' := 34) (z := false) rfl rfl rfl (by decide) (fun h => by cases h) (fun _ => ?_)
  refine x_iconst (pc' := 35) rfl rfl ?_
  refine x_reti rfl rfl ?_
  refine sK_i (pc' := 770) rfl ?_
  refine x_istore (pc' := 772) (ls' := [_, _, _, _, _, _, _]) rfl rfl rfl rfl ?_
  refine x_aload_n (pc' := 773) rfl rfl rfl rfl rfl ?_
  refine x_cv (ls0 := [_]) (rest := []) rfl rfl rfl rfl rfl ?_
  refine x_aload_n (pc' := 1) rfl rfl rfl rfl rfl ?_
  refine x_gI (pc' := 4) (x := 1) rfl rfl rfl sI_s ?_
  refine x_reti rfl rfl ?_
  refine sK_i (pc' := 776) rfl ?_
  refine x_iload (pc' := 778) rfl rfl rfl ?_
  refine x_icmp (a' := 783) (pc' := 781) (z := true) rfl rfl rfl (by decide) (fun _ => ?_) (fun h => by cases h)
  refine x_iload (pc' := 785) rfl rfl rfl ?_
  refine x_if (a' := 800) (pc' := 788) (z := true) rfl rfl rfl (by decide) (fun _ => ?_) (fun h => by cases h)
  refine x_goto (pc' := 2938) rfl rfl ?_
  refine x_iinc (pc' := 2941) (y := 7) (ls' := [_, _, _, _, _, _, _]) rfl rfl rfl rfl rfl ?_
  refine x_goto (pc' := 23) rfl rfl ?_
  refine x_iload (pc' := 25) rfl rfl rfl ?_
  refine x_aload_n (pc' := 26) rfl rfl rfl rfl rfl ?_
  refine x_alen (pc' := 27) (N := 7) rfl rfl rfl (Eq.trans rdNI (Eq.trans rdNthr (z_N_29_0 e))) (?_ : X _ _ _ (.inl 7 :: _) _ _)
  refine x_bipush (pc' := 29) rfl rfl ?_
  refine x_isub (pc' := 30) (z := 0) rfl rfl (by decide) ?_
  refine x_icmp (a' := 2944) (pc' := 33) (z := true) rfl rfl rfl (by decide) (fun _ => ?_) (fun h => by cases h)
  refine x_iconst (pc' := 2945) rfl rfl ?_
  refine x_retz (z := true) rfl rfl ?_
  exact Qp_ok e (p := 1) (q := 6) rfl rfl rfl rfl
set_option maxHeartbeats 4000000 in
set_option maxRecDepth 10000 in
theorem v_9_v_0_i {t : sT} {xs : Nat → Int32} {s : Nat}
    (e : t = T16 7 xs)
    (hk : ((xs 0) &&& 63) = 9)
    (hs : s < 6)
    (e0 : xs 1 = io s)
    (e1 : xs 2 = 0) :
    X 297 23 [.inr (.inr (29, (some 0))), .inr (.inr (11, (some 0))), .inr (.inr (12, (some 0))), .inr (.inr (23, (some 0))), .inl 0, sJk, sJk] [] t Qp := by
  refine x_iload (pc' := 25) rfl rfl rfl ?_
  refine x_aload_n (pc' := 26) rfl rfl rfl rfl rfl ?_
  refine x_alen (pc' := 27) (N := 7) rfl rfl rfl (z_N_29_0 e) (?_ : X _ _ _ (.inl 7 :: _) _ _)
  refine x_bipush (pc' := 29) rfl rfl ?_
  refine x_isub (pc' := 30) (z := 0) rfl rfl (by decide) ?_
  refine x_icmp (a' := 2944) (pc' := 33) (z := false) rfl rfl rfl (by decide) (fun h => by cases h) (fun _ => ?_)
  refine x_aload_n (pc' := 34) rfl rfl rfl rfl rfl ?_
  refine x_iload (pc' := 36) rfl rfl rfl ?_
  refine x_iald (pc' := 37) (N := 7) (x := (xs 0)) rfl rfl rfl (z_N_29_0 e) (io_in (p := 0) (N := 7) (by decide) (by decide)) (Eq.trans (congrArg (sA t 29 0) (nn_io (p := 0) (by decide))) (z_A_29_0_0 e)) ?_
  refine x_bipush (pc' := 39) rfl rfl ?_
  refine x_iand (pc' := 40) (z := ((xs 0) &&& 63)) rfl rfl rfl ?_
  refine x_switch (pc' := 803) rfl (by rw [hk]; decide) ?_
  refine x_aload_n (pc' := 804) rfl rfl rfl rfl rfl ?_
  refine x_aload_n (pc' := 805) rfl rfl rfl rfl rfl ?_
  refine x_iload (pc' := 807) rfl rfl rfl ?_
  refine x_iconst (pc' := 808) rfl rfl ?_
  refine x_iadd (pc' := 809) (z := 1) rfl rfl (by decide) ?_
  refine x_iald (pc' := 810) (N := 7) (x := (io s)) rfl rfl rfl (z_N_29_0 e) (io_in (p := 1) (N := 7) (by decide) (by decide)) (Eq.trans (congrArg (sA t 29 0) (nn_io (p := 1) (by decide))) (Eq.trans (z_A_29_0_1 e) e0)) ?_
  refine x_aload_n (pc' := 811) rfl rfl rfl rfl rfl ?_
  refine x_iload (pc' := 813) rfl rfl rfl ?_
  refine x_iconst (pc' := 814) rfl rfl ?_
  refine x_iadd (pc' := 815) (z := 2) rfl rfl (by decide) ?_
  refine x_iald (pc' := 816) (N := 7) (x := 0) rfl rfl rfl (z_N_29_0 e) (io_in (p := 2) (N := 7) (by decide) (by decide)) (Eq.trans (congrArg (sA t 29 0) (nn_io (p := 2) (by decide))) (Eq.trans (z_A_29_0_2 e) e1)) ?_
  refine x_aload_n (pc' := 817) rfl rfl rfl rfl rfl ?_
  refine x_iload (pc' := 819) rfl rfl rfl ?_
  refine x_iconst (pc' := 820) rfl rfl ?_
  refine x_iadd (pc' := 821) (z := 3) rfl rfl (by decide) ?_
  refine x_iald (pc' := 822) (N := 7) (x := (xs 3)) rfl rfl rfl (z_N_29_0 e) (io_in (p := 3) (N := 7) (by decide) (by decide)) (Eq.trans (congrArg (sA t 29 0) (nn_io (p := 3) (by decide))) (z_A_29_0_3 e)) ?_
  refine x_aload_n (pc' := 823) rfl rfl rfl rfl rfl ?_
  refine x_cs (ls0 := [_, _, _, _, _, sJk]) (rest := []) rfl rfl rfl rfl ?_
  refine x_aload (pc' := 2) rfl rfl rfl rfl rfl ?_
  refine x_iconst (pc' := 3) rfl rfl ?_
  refine x_aload_n (pc' := 4) rfl rfl rfl rfl rfl ?_
  refine x_iload_n (pc' := 5) rfl rfl rfl ?_
  refine x_iload_n (pc' := 6) rfl rfl rfl ?_
  refine x_iload_n (pc' := 7) rfl rfl rfl ?_
  refine x_cv (ls0 := [_, _, _, _, sJk]) (rest := [_, _]) rfl rfl rfl rfl rfl ?_
  refine x_iload_n (pc' := 1) rfl rfl rfl ?_
  refine x_bipush (pc' := 3) rfl rfl ?_
  refine x_cs (ls0 := [_, _]) (rest := []) rfl rfl rfl rfl ?_
  refine x_iload_n (pc' := 1) rfl rfl rfl ?_
  refine x_if (a' := 9) (pc' := 4) (z := decide (s < 0)) rfl rfl rfl (ic_lt (p := s) (q := 0) (Nat.lt_trans hs (by decide)) (by decide)) (fun h => absurd (of_decide_eq_true h) (by first | decide | omega | simp)) (fun _ => ?_)
  refine x_iload_n (pc' := 5) rfl rfl rfl ?_
  refine x_iload_n (pc' := 6) rfl rfl rfl ?_
  refine x_icmp (a' := 20) (pc' := 9) (z := decide (s < 6)) rfl rfl rfl (ic_lt (p := s) (q := 6) (Nat.lt_trans hs (by decide)) (by decide)) (fun _ => ?_) (fun h => absurd (Nat.lt_of_lt_of_le hs (by decide)) (of_decide_eq_false h))
  refine x_ret rfl ?_
  refine sK_v (pc' := 6) rfl ?_
  refine x_iload_n (pc' := 7) rfl rfl rfl ?_
  refine x_iconst (pc' := 8) rfl rfl ?_
  refine x_cs (ls0 := [_, _]) (rest := []) rfl rfl rfl rfl ?_
  refine x_iload_n (pc' := 1) rfl rfl rfl ?_
  refine x_if (a' := 9) (pc' := 4) (z := false) rfl rfl rfl (by decide) (fun h => by cases h) (fun _ => ?_)
  refine x_iload_n (pc' := 5) rfl rfl rfl ?_
  refine x_iload_n (pc' := 6) rfl rfl rfl ?_
  refine x_icmp (a' := 20) (pc' := 9) (z := true) rfl rfl rfl (by decide) (fun _ => ?_) (fun h => by cases h)
  refine x_ret rfl ?_
  refine sK_v (pc' := 11) rfl ?_
  refine x_iload_n (pc' := 12) rfl rfl rfl ?_
  refine x_sipush (pc' := 15) rfl rfl ?_
  refine x_sipush (pc' := 18) rfl rfl ?_
  refine x_cs (ls0 := [_, _, _]) (rest := []) rfl rfl rfl rfl ?_
  refine x_iload_n (pc' := 1) rfl rfl rfl ?_
  refine x_iload_n (pc' := 2) rfl rfl rfl ?_
  refine x_icmp (a' := 10) (pc' := 5) (z := decide ((xs 3) < (-500))) rfl rfl rfl rfl (fun q7 => ?_) (fun q7 => ?_)
  · refine x_throw rfl rfl ?_
    refine sK_n (by decide +kernel) rfl ?_
    refine sK_h (h := 19) (by decide +kernel) rfl ?_
    refine x_catch (pc' := 21) (ls' := [_, _, _, _, _, _]) rfl rfl rfl rfl ?_
    refine x_iconst (pc' := 22) rfl rfl ?_
    refine x_reti rfl rfl ?_
    refine sK_i (pc' := 826) rfl ?_
    refine x_istore (pc' := 828) (ls' := [_, _, _, _, _, _, _]) rfl rfl rfl rfl ?_
    refine x_aload_n (pc' := 829) rfl rfl rfl rfl rfl ?_
    refine x_aload_n (pc' := 830) rfl rfl rfl rfl rfl ?_
    refine x_iload (pc' := 832) rfl rfl rfl ?_
    refine x_iconst (pc' := 833) rfl rfl ?_
    refine x_iadd (pc' := 834) (z := 1) rfl rfl (by decide) ?_
    refine x_iald (pc' := 835) (N := 7) (x := (io s)) rfl rfl rfl (Eq.trans rdNthr (z_N_29_0 e)) (io_in (p := 1) (N := 7) (by decide) (by decide)) (Eq.trans (congrArg (sA (sThr t) 29 0) (nn_io (p := 1) (by decide))) (Eq.trans rdAthr (Eq.trans (z_A_29_0_1 e) e0))) ?_
    refine x_aload_n (pc' := 836) rfl rfl rfl rfl rfl ?_
    refine x_iload (pc' := 838) rfl rfl rfl ?_
    refine x_iconst (pc' := 839) rfl rfl ?_
    refine x_iadd (pc' := 840) (z := 2) rfl rfl (by decide) ?_
    refine x_iald (pc' := 841) (N := 7) (x := 0) rfl rfl rfl (Eq.trans rdNthr (z_N_29_0 e)) (io_in (p := 2) (N := 7) (by decide) (by decide)) (Eq.trans (congrArg (sA (sThr t) 29 0) (nn_io (p := 2) (by decide))) (Eq.trans rdAthr (Eq.trans (z_A_29_0_2 e) e1))) ?_
    refine x_aload_n (pc' := 842) rfl rfl rfl rfl rfl ?_
    refine x_iload (pc' := 844) rfl rfl rfl ?_
    refine x_iconst (pc' := 845) rfl rfl ?_
    refine x_iadd (pc' := 846) (z := 3) rfl rfl (by decide) ?_
    refine x_iald (pc' := 847) (N := 7) (x := (xs 3)) rfl rfl rfl (Eq.trans rdNthr (z_N_29_0 e)) (io_in (p := 3) (N := 7) (by decide) (by decide)) (Eq.trans (congrArg (sA (sThr t) 29 0) (nn_io (p := 3) (by decide))) (Eq.trans rdAthr (z_A_29_0_3 e))) ?_
    refine x_cv (ls0 := [_, _, _, _, sJk, sJk]) (rest := []) rfl rfl rfl rfl rfl ?_
    refine x_iload_n (pc' := 1) rfl rfl rfl ?_
    refine x_iconst (pc' := 2) rfl rfl ?_
    refine x_iconst (pc' := 3) rfl rfl ?_
    refine x_cs (ls0 := [_, _, _]) (rest := []) rfl rfl rfl rfl ?_
    refine x_iload_n (pc' := 1) rfl rfl rfl ?_
    refine x_iload_n (pc' := 2) rfl rfl rfl ?_
    refine x_icmp (a' := 14) (pc' := 5) (z := decide (s < 0)) rfl rfl rfl (ic_lt (p := s) (q := 0) (Nat.lt_trans hs (by decide)) (by decide)) (fun h => absurd (of_decide_eq_true h) (by first | decide | omega | simp)) (fun _ => ?_)
    refine x_iload_n (pc' := 6) rfl rfl rfl ?_
    refine x_iload_n (pc' := 7) rfl rfl rfl ?_
    refine x_icmp (a' := 14) (pc' := 10) (z := decide (5 < s)) rfl rfl rfl (ic_gt (p := s) (q := 5) (Nat.lt_trans hs (by decide)) (by decide)) (fun h => absurd (of_decide_eq_true h) (fun z => absurd hs (Nat.not_lt.mpr z))) (fun _ => ?_)
    refine x_iconst (pc' := 11) rfl rfl ?_
    refine x_goto (pc' := 15) rfl rfl ?_
    refine x_retz (z := true) rfl rfl ?_
    refine sK_i (pc' := 6) rfl ?_
    refine x_if (a' := 20) (pc' := 9) (z := false) rfl rfl rfl (by decide) (fun h => by cases h) (fun _ => ?_)
    refine x_iload_n (pc' := 10) rfl rfl rfl ?_
    refine x_cs (ls0 := [_]) (rest := []) rfl rfl rfl rfl ?_
    refine x_iload_n (pc' := 1) rfl rfl rfl ?_
    refine x_iconst (pc' := 2) rfl rfl ?_
    refine x_iconst (pc' := 3) rfl rfl ?_
    refine x_cs (ls0 := [_, _, _]) (rest := []) rfl rfl rfl rfl ?_
    refine x_iload_n (pc' := 1) rfl rfl rfl ?_
    refine x_iload_n (pc' := 2) rfl rfl rfl ?_
    refine x_icmp (a' := 14) (pc' := 5) (z := false) rfl rfl rfl (by decide) (fun h => by cases h) (fun _ => ?_)
    refine x_iload_n (pc' := 6) rfl rfl rfl ?_
    refine x_iload_n (pc' := 7) rfl rfl rfl ?_
    refine x_icmp (a' := 14) (pc' := 10) (z := false) rfl rfl rfl (by decide) (fun h => by cases h) (fun _ => ?_)
    refine x_iconst (pc' := 11) rfl rfl ?_
    refine x_goto (pc' := 15) rfl rfl ?_
    refine x_retz (z := true) rfl rfl ?_
    refine sK_i (pc' := 6) rfl ?_
    refine x_retz (z := true) rfl rfl ?_
    refine sK_i (pc' := 13) rfl ?_
    refine x_if (a' := 20) (pc' := 16) (z := false) rfl rfl rfl (by decide) (fun h => by cases h) (fun _ => ?_)
    refine x_iconst (pc' := 17) rfl rfl ?_
    refine x_goto (pc' := 21) rfl rfl ?_
    refine x_istore (pc' := 23) (ls' := [_, _, _, _, _, _]) rfl rfl rfl rfl ?_
    refine x_aload_n (pc' := 24) rfl rfl rfl rfl rfl ?_
    refine x_iload (pc' := 26) rfl rfl rfl ?_
    refine x_if (a' := 33) (pc' := 29) (z := true) rfl rfl rfl (by decide) (fun _ => ?_) (fun h => by cases h)
    refine x_iload_n (pc' := 34) rfl rfl rfl ?_
    refine x_sipush (pc' := 37) rfl rfl ?_
    refine x_sipush (pc' := 40) rfl rfl ?_
    refine x_cs (ls0 := [_, _, _]) (rest := [_]) rfl rfl rfl rfl ?_
    refine x_iload_n (pc' := 1) rfl rfl rfl ?_
    refine x_iload_n (pc' := 2) rfl rfl rfl ?_
    refine x_icmp (a' := 14) (pc' := 5) (z := decide ((xs 3) < (-500))) rfl rfl rfl rfl (fun _ => ?_) (fun h => absurd (of_decide_eq_true q7) (of_decide_eq_false h))
    refine x_iconst (pc' := 15) rfl rfl ?_
    refine x_retz (z := false) rfl rfl ?_
    refine sK_i (pc' := 43) rfl ?_
    refine x_if (a' := 50) (pc' := 46) (z := true) rfl rfl rfl (by decide) (fun _ => ?_) (fun h => by cases h)
    refine x_iconst (pc' := 51) rfl rfl ?_
    refine x_cv (ls0 := [_, _]) (rest := []) rfl rfl rfl rfl rfl ?_
    refine x_aload_n (pc' := 1) rfl rfl rfl rfl rfl ?_
    refine x_iload_n (pc' := 2) rfl rfl rfl ?_
    refine x_pI (pc' := 5) rfl rfl rfl ?_
    refine x_iload_n (pc' := 6) rfl rfl rfl ?_
    refine x_if (a' := 13) (pc' := 9) (z := true) rfl rfl rfl (by decide) (fun _ => ?_) (fun h => by cases h)
    refine x_iconst (pc' := 14) rfl rfl ?_
    refine x_retz (z := false) rfl rfl ?_
    refine sK_i (pc' := 54) rfl ?_
    refine x_if (a' := 59) (pc' := 57) (z := false) rfl rfl rfl (by decide) (fun h => by cases h) (fun _ => ?_)
    refine x_iconst (pc' := 58) rfl rfl ?_
    refine x_reti rfl rfl ?_
    refine sK_i (pc' := 850) rfl ?_
    refine x_istore (pc' := 852) (ls' := [_, _, _, _, _, _, _]) rfl rfl rfl rfl ?_
    refine x_aload_n (pc' := 853) rfl rfl rfl rfl rfl ?_
    refine x_cv (ls0 := [_]) (rest := []) rfl rfl rfl rfl rfl ?_
    refine x_aload_n (pc' := 1) rfl rfl rfl rfl rfl ?_
    refine x_gI (pc' := 4) (x := 2) rfl rfl rfl sI_s ?_
    refine x_reti rfl rfl ?_
    refine sK_i (pc' := 856) rfl ?_
    refine x_iload (pc' := 858) rfl rfl rfl ?_
    refine x_icmp (a' := 863) (pc' := 861) (z := true) rfl rfl rfl (by decide) (fun _ => ?_) (fun h => by cases h)
    refine x_iload (pc' := 865) rfl rfl rfl ?_
    refine x_if (a' := 880) (pc' := 868) (z := true) rfl rfl rfl (by decide) (fun _ => ?_) (fun h => by cases h)
    refine x_goto (pc' := 2938) rfl rfl ?_
    refine x_iinc (pc' := 2941) (y := 7) (ls' := [_, _, _, _, _, _, _]) rfl rfl rfl rfl rfl ?_
    refine x_goto (pc' := 23) rfl rfl ?_
    refine x_iload (pc' := 25) rfl rfl rfl ?_
    refine x_aload_n (pc' := 26) rfl rfl rfl rfl rfl ?_
    refine x_alen (pc' := 27) (N := 7) rfl rfl rfl (Eq.trans rdNI (Eq.trans rdNthr (z_N_29_0 e))) (?_ : X _ _ _ (.inl 7 :: _) _ _)
    refine x_bipush (pc' := 29) rfl rfl ?_
    refine x_isub (pc' := 30) (z := 0) rfl rfl (by decide) ?_
    refine x_icmp (a' := 2944) (pc' := 33) (z := true) rfl rfl rfl (by decide) (fun _ => ?_) (fun h => by cases h)
    refine x_iconst (pc' := 2945) rfl rfl ?_
    refine x_retz (z := true) rfl rfl ?_
    exact Qp_ok e (p := 1) (q := 6) rfl rfl rfl rfl
  · refine x_iload_n (pc' := 6) rfl rfl rfl ?_
    refine x_iload_n (pc' := 7) rfl rfl rfl ?_
    refine x_icmp_n (a' := 21) (pc' := 10) (z := decide (500 < (xs 3))) rfl rfl rfl (ik_le _ _) (fun q22 => ?_) (fun q22 => ?_)
    · refine x_ret rfl ?_
      refine sK_v (pc' := 21) rfl ?_
      refine x_aload_n (pc' := 22) rfl rfl rfl rfl rfl ?_
      refine x_gR (pc' := 25) (r := (some 0)) rfl rfl rfl (z_R_704_0 e) ?_
      refine x_iload_n (pc' := 26) rfl rfl rfl ?_
      refine x_iload_n (pc' := 27) rfl rfl rfl ?_
      refine x_cv (ls0 := [_, _, _, sJk]) (rest := []) rfl rfl rfl rfl rfl ?_
      refine x_iload_n (pc' := 1) rfl rfl rfl ?_
      refine x_iconst (pc' := 2) rfl rfl ?_
      refine x_imul (pc' := 3) (z := (io (s * 3))) rfl rfl (io_mul s 3) ?_
      refine x_iload_n (pc' := 4) rfl rfl rfl ?_
      refine x_iadd (pc' := 5) (z := (io ((s * 3) + 0))) rfl rfl (io_add (s * 3) 0) ?_
      refine x_istore_n (pc' := 6) (ls' := [_, _, _, _]) rfl rfl rfl rfl ?_
      refine x_iload_n (pc' := 7) rfl rfl rfl ?_
      refine x_if (a' := 28) (pc' := 10) (z := decide (((s * 3) + 0) < 0)) rfl rfl rfl (ic_lt (p := ((s * 3) + 0)) (q := 0) (show ((s * 3) + 0) < 2 ^ 31 by omega) (by decide)) (fun h => absurd (of_decide_eq_true h) (by first | decide | omega | simp)) (fun _ => ?_)
      refine x_iload_n (pc' := 11) rfl rfl rfl ?_
      refine x_aload_n (pc' := 12) rfl rfl rfl rfl rfl ?_
      refine x_gR (pc' := 15) (r := (some 0)) rfl rfl rfl (z_R_323_0 e) ?_
      refine x_alen (pc' := 16) (N := 18) rfl rfl rfl (z_N_20_0 e) (?_ : X _ _ _ (.inl 18 :: _) _ _)
      have J24 : X 43 29 [.inr (.inr (5, (some 0))), .inl (io s), .inl 0, .inl (io ((s * 3) + 0))] [.inl 0] t (sK 43 93 27 [.inr (.inr (11, (some 0))), .inl (io s), .inl 0, .inl (xs 3), sJk] [] (sK 93 268 7 [.inr (.inr (11, (some 0))), .inl (io s), .inl 0, .inl (xs 3), .inr (.inr (23, (some 0))), sJk] [.inl 0, .inr (.inr (23, (some 0)))] (sK 268 297 823 [.inr (.inr (29, (some 0))), .inr (.inr (11, (some 0))), .inr (.inr (12, (some 0))), .inr (.inr (23, (some 0))), .inl 0, sJk, sJk] [] Qp))) := by
        refine x_reti rfl rfl ?_
        refine sK_i (pc' := 30) rfl ?_
        refine x_istore (pc' := 32) (ls' := [_, _, _, _, _]) rfl rfl rfl rfl ?_
        refine x_aload_n (pc' := 33) rfl rfl rfl rfl rfl ?_
        refine x_gR (pc' := 36) (r := (some 0)) rfl rfl rfl (z_R_704_0 e) ?_
        refine x_iload_n (pc' := 37) rfl rfl rfl ?_
        refine x_iload_n (pc' := 38) rfl rfl rfl ?_
        refine x_iload_n (pc' := 39) rfl rfl rfl ?_
        refine x_cv (ls0 := [_, _, _, _, sJk]) (rest := []) rfl rfl rfl rfl rfl ?_
        refine x_iload_n (pc' := 1) rfl rfl rfl ?_
        refine x_iconst (pc' := 2) rfl rfl ?_
        refine x_imul (pc' := 3) (z := (io (s * 3))) rfl rfl (io_mul s 3) ?_
        refine x_iload_n (pc' := 4) rfl rfl rfl ?_
        refine x_iadd (pc' := 5) (z := (io ((s * 3) + 0))) rfl rfl (io_add (s * 3) 0) ?_
        refine x_istore (pc' := 7) (ls' := [_, _, _, _, _]) rfl rfl rfl rfl ?_
        refine x_iload (pc' := 9) rfl rfl rfl ?_
        refine x_if (a' := 30) (pc' := 12) (z := decide (((s * 3) + 0) < 0)) rfl rfl rfl (ic_lt (p := ((s * 3) + 0)) (q := 0) (show ((s * 3) + 0) < 2 ^ 31 by omega) (by decide)) (fun h => absurd (of_decide_eq_true h) (by first | decide | omega | simp)) (fun _ => ?_)
        refine x_iload (pc' := 14) rfl rfl rfl ?_
        refine x_aload_n (pc' := 15) rfl rfl rfl rfl rfl ?_
        refine x_gR (pc' := 18) (r := (some 0)) rfl rfl rfl (z_R_323_0 e) ?_
        refine x_alen (pc' := 19) (N := 18) rfl rfl rfl (z_N_20_0 e) (?_ : X _ _ _ (.inl 18 :: _) _ _)
        refine x_icmp_n (a' := 30) (pc' := 22) (z := decide (((s * 3) + 0) < 18)) rfl rfl rfl (ic_gen (p := ((s * 3) + 0)) (q := 18) (show ((s * 3) + 0) < 2 ^ 31 by omega) (by decide)) (fun q27 => ?_) (fun q27 => ?_)
        · refine x_ret rfl ?_
          refine sK_v (pc' := 42) rfl ?_
          refine x_iload (pc' := 44) rfl rfl rfl ?_
          refine x_reti rfl rfl ?_
          refine sK_i (pc' := 10) rfl ?_
          refine x_i2l (pc' := 11) (z := (0 : Int64)) rfl rfl (by decide) ?_
          refine x_last (pc' := 12) (N := 1) (p := 0) rfl rfl (z_N_23_0 e) (io_in (p := 0) (N := 1) (by decide) (by decide)) (nn_io (p := 0) (by decide)) ?_
          refine x_goto (pc' := 23) rfl rfl ?_
          refine x_iconst (pc' := 24) rfl rfl ?_
          refine x_reti rfl rfl ?_
          refine sK_i (pc' := 826) rfl ?_
          refine x_istore (pc' := 828) (ls' := [_, _, _, _, _, _, _]) rfl rfl rfl rfl ?_
          refine x_aload_n (pc' := 829) rfl rfl rfl rfl rfl ?_
          refine x_aload_n (pc' := 830) rfl rfl rfl rfl rfl ?_
          refine x_iload (pc' := 832) rfl rfl rfl ?_
          refine x_iconst (pc' := 833) rfl rfl ?_
          refine x_iadd (pc' := 834) (z := 1) rfl rfl (by decide) ?_
          refine x_iald (pc' := 835) (N := 7) (x := (io s)) rfl rfl rfl (Eq.trans rdNL (z_N_29_0 e)) (io_in (p := 1) (N := 7) (by decide) (by decide)) (Eq.trans (congrArg (sA (sLw t 23 0 0 (0 : Int64)) 29 0) (nn_io (p := 1) (by decide))) (Eq.trans rdAL (Eq.trans (z_A_29_0_1 e) e0))) ?_
          refine x_aload_n (pc' := 836) rfl rfl rfl rfl rfl ?_
          refine x_iload (pc' := 838) rfl rfl rfl ?_
          refine x_iconst (pc' := 839) rfl rfl ?_
          refine x_iadd (pc' := 840) (z := 2) rfl rfl (by decide) ?_
          refine x_iald (pc' := 841) (N := 7) (x := 0) rfl rfl rfl (Eq.trans rdNL (z_N_29_0 e)) (io_in (p := 2) (N := 7) (by decide) (by decide)) (Eq.trans (congrArg (sA (sLw t 23 0 0 (0 : Int64)) 29 0) (nn_io (p := 2) (by decide))) (Eq.trans rdAL (Eq.trans (z_A_29_0_2 e) e1))) ?_
          refine x_aload_n (pc' := 842) rfl rfl rfl rfl rfl ?_
          refine x_iload (pc' := 844) rfl rfl rfl ?_
          refine x_iconst (pc' := 845) rfl rfl ?_
          refine x_iadd (pc' := 846) (z := 3) rfl rfl (by decide) ?_
          refine x_iald (pc' := 847) (N := 7) (x := (xs 3)) rfl rfl rfl (Eq.trans rdNL (z_N_29_0 e)) (io_in (p := 3) (N := 7) (by decide) (by decide)) (Eq.trans (congrArg (sA (sLw t 23 0 0 (0 : Int64)) 29 0) (nn_io (p := 3) (by decide))) (Eq.trans rdAL (z_A_29_0_3 e))) ?_
          refine x_cv (ls0 := [_, _, _, _, sJk, sJk]) (rest := []) rfl rfl rfl rfl rfl ?_
          refine x_iload_n (pc' := 1) rfl rfl rfl ?_
          refine x_iconst (pc' := 2) rfl rfl ?_
          refine x_iconst (pc' := 3) rfl rfl ?_
          refine x_cs (ls0 := [_, _, _]) (rest := []) rfl rfl rfl rfl ?_
          refine x_iload_n (pc' := 1) rfl rfl rfl ?_
          refine x_iload_n (pc' := 2) rfl rfl rfl ?_
          refine x_icmp (a' := 14) (pc' := 5) (z := decide (s < 0)) rfl rfl rfl (ic_lt (p := s) (q := 0) (Nat.lt_trans hs (by decide)) (by decide)) (fun h => absurd (of_decide_eq_true h) (by first | decide | omega | simp)) (fun _ => ?_)
          refine x_iload_n (pc' := 6) rfl rfl rfl ?_
          refine x_iload_n (pc' := 7) rfl rfl rfl ?_
          refine x_icmp (a' := 14) (pc' := 10) (z := decide (5 < s)) rfl rfl rfl (ic_gt (p := s) (q := 5) (Nat.lt_trans hs (by decide)) (by decide)) (fun h => absurd (of_decide_eq_true h) (fun z => absurd hs (Nat.not_lt.mpr z))) (fun _ => ?_)
          refine x_iconst (pc' := 11) rfl rfl ?_
          refine x_goto (pc' := 15) rfl rfl ?_
          refine x_retz (z := true) rfl rfl ?_
          refine sK_i (pc' := 6) rfl ?_
          refine x_if (a' := 20) (pc' := 9) (z := false) rfl rfl rfl (by decide) (fun h => by cases h) (fun _ => ?_)
          refine x_iload_n (pc' := 10) rfl rfl rfl ?_
          refine x_cs (ls0 := [_]) (rest := []) rfl rfl rfl rfl ?_
          refine x_iload_n (pc' := 1) rfl rfl rfl ?_
          refine x_iconst (pc' := 2) rfl rfl ?_
          refine x_iconst (pc' := 3) rfl rfl ?_
          refine x_cs (ls0 := [_, _, _]) (rest := []) rfl rfl rfl rfl ?_
          refine x_iload_n (pc' := 1) rfl rfl rfl ?_
          refine x_iload_n (pc' := 2) rfl rfl rfl ?_
          refine x_icmp (a' := 14) (pc' := 5) (z := false) rfl rfl rfl (by decide) (fun h => by cases h) (fun _ => ?_)
          refine x_iload_n (pc' := 6) rfl rfl rfl ?_
          refine x_iload_n (pc' := 7) rfl rfl rfl ?_
          refine x_icmp (a' := 14) (pc' := 10) (z := false) rfl rfl rfl (by decide) (fun h => by cases h) (fun _ => ?_)
          refine x_iconst (pc' := 11) rfl rfl ?_
          refine x_goto (pc' := 15) rfl rfl ?_
          refine x_retz (z := true) rfl rfl ?_
          refine sK_i (pc' := 6) rfl ?_
          refine x_retz (z := true) rfl rfl ?_
          refine sK_i (pc' := 13) rfl ?_
          refine x_if (a' := 20) (pc' := 16) (z := false) rfl rfl rfl (by decide) (fun h => by cases h) (fun _ => ?_)
          refine x_iconst (pc' := 17) rfl rfl ?_
          refine x_goto (pc' := 21) rfl rfl ?_
          refine x_istore (pc' := 23) (ls' := [_, _, _, _, _, _]) rfl rfl rfl rfl ?_
          refine x_aload_n (pc' := 24) rfl rfl rfl rfl rfl ?_
          refine x_iload (pc' := 26) rfl rfl rfl ?_
          refine x_if (a' := 33) (pc' := 29) (z := true) rfl rfl rfl (by decide) (fun _ => ?_) (fun h => by cases h)
          refine x_iload_n (pc' := 34) rfl rfl rfl ?_
          refine x_sipush (pc' := 37) rfl rfl ?_
          refine x_sipush (pc' := 40) rfl rfl ?_
          refine x_cs (ls0 := [_, _, _]) (rest := [_]) rfl rfl rfl rfl ?_
          refine x_iload_n (pc' := 1) rfl rfl rfl ?_
          refine x_iload_n (pc' := 2) rfl rfl rfl ?_
          refine x_icmp (a' := 14) (pc' := 5) (z := decide ((xs 3) < (-500))) rfl rfl rfl rfl (fun h => absurd (of_decide_eq_true h) (of_decide_eq_false q7)) (fun _ => ?_)
          refine x_iload_n (pc' := 6) rfl rfl rfl ?_
          refine x_iload_n (pc' := 7) rfl rfl rfl ?_
          refine x_icmp (a' := 14) (pc' := 10) (z := decide (500 < (xs 3))) rfl rfl rfl rfl (fun h => absurd (of_decide_eq_true h) (of_decide_eq_false q22)) (fun _ => ?_)
          refine x_iconst (pc' := 11) rfl rfl ?_
          refine x_goto (pc' := 15) rfl rfl ?_
          refine x_retz (z := true) rfl rfl ?_
          refine sK_i (pc' := 43) rfl ?_
          refine x_if (a' := 50) (pc' := 46) (z := false) rfl rfl rfl (by decide) (fun h => by cases h) (fun _ => ?_)
          refine x_iconst (pc' := 47) rfl rfl ?_
          refine x_goto (pc' := 51) rfl rfl ?_
          refine x_cv (ls0 := [_, _]) (rest := []) rfl rfl rfl rfl rfl ?_
          refine x_aload_n (pc' := 1) rfl rfl rfl rfl rfl ?_
          refine x_iload_n (pc' := 2) rfl rfl rfl ?_
          refine x_pI (pc' := 5) rfl rfl rfl ?_
          refine x_iload_n (pc' := 6) rfl rfl rfl ?_
          refine x_if (a' := 13) (pc' := 9) (z := false) rfl rfl rfl (by decide) (fun h => by cases h) (fun _ => ?_)
          refine x_iconst (pc' := 10) rfl rfl ?_
          refine x_goto (pc' := 14) rfl rfl ?_
          refine x_retz (z := true) rfl rfl ?_
          refine sK_i (pc' := 54) rfl ?_
          refine x_if (a' := 59) (pc' := 57) (z := true) rfl rfl rfl (by decide) (fun _ => ?_) (fun h => by cases h)
          refine x_aload_n (pc' := 60) rfl rfl rfl rfl rfl ?_
          refine x_gR (pc' := 63) (r := (some 11)) rfl rfl rfl (Eq.trans rdRI (Eq.trans rdRL (z_R_783_0 e))) ?_
          refine x_iconst (pc' := 64) rfl rfl ?_
          refine x_iload_n (pc' := 65) rfl rfl rfl ?_
          refine x_imul (pc' := 66) (z := (io (3 * s))) rfl rfl (io_mul 3 s) ?_
          refine x_iload_n (pc' := 67) rfl rfl rfl ?_
          refine x_iadd (pc' := 68) (z := (io ((3 * s) + 0))) rfl rfl (io_add (3 * s) 0) ?_
          refine x_iald (pc' := 69) (N := 18) (x := 0) rfl rfl rfl (Eq.trans rdNI (Eq.trans rdNL (z_N_21_11 e))) (io_in (p := ((3 * s) + 0)) (N := 18) (show ((3 * s) + 0) < 18 by omega) (by decide)) (Eq.trans (congrArg (sA (sIw (sLw t 23 0 0 (0 : Int64)) 768 0 0) 21 11) (nn_io (p := ((3 * s) + 0)) (Nat.lt_trans (show ((3 * s) + 0) < 18 by omega) (by decide)))) (Eq.trans rdAI (Eq.trans rdAL (z_A_21_11_y e _)))) ?_
          refine x_istore (pc' := 71) (ls' := [_, _, _, _, _, _]) rfl rfl rfl rfl ?_
          refine x_aload_n (pc' := 72) rfl rfl rfl rfl rfl ?_
          refine x_gR (pc' := 75) (r := (some 11)) rfl rfl rfl (Eq.trans rdRI (Eq.trans rdRL (z_R_783_0 e))) ?_
          refine x_iconst (pc' := 76) rfl rfl ?_
          refine x_iload_n (pc' := 77) rfl rfl rfl ?_
          refine x_imul (pc' := 78) (z := (io (3 * s))) rfl rfl (io_mul 3 s) ?_
          refine x_iload_n (pc' := 79) rfl rfl rfl ?_
          refine x_iadd (pc' := 80) (z := (io ((3 * s) + 0))) rfl rfl (io_add (3 * s) 0) ?_
          refine x_iload_n (pc' := 81) rfl rfl rfl ?_
          refine x_iast (pc' := 82) (N := 18) (p := ((3 * s) + 0)) rfl rfl rfl (Eq.trans rdNI (Eq.trans rdNL (z_N_21_11 e))) (io_in (p := ((3 * s) + 0)) (N := 18) (show ((3 * s) + 0) < 18 by omega) (by decide)) (nn_io (p := ((3 * s) + 0)) (Nat.lt_trans (show ((3 * s) + 0) < 18 by omega) (by decide))) ?_
          refine x_iload (pc' := 84) rfl rfl rfl ?_
          refine x_reti rfl rfl ?_
          refine sK_i (pc' := 850) rfl ?_
          refine x_istore (pc' := 852) (ls' := [_, _, _, _, _, _, _]) rfl rfl rfl rfl ?_
          refine x_aload_n (pc' := 853) rfl rfl rfl rfl rfl ?_
          refine x_cv (ls0 := [_]) (rest := []) rfl rfl rfl rfl rfl ?_
          refine x_aload_n (pc' := 1) rfl rfl rfl rfl rfl ?_
          refine x_gI (pc' := 4) (x := 0) rfl rfl rfl (Eq.trans rdIA sI_s) ?_
          refine x_reti rfl rfl ?_
          refine sK_i (pc' := 856) rfl ?_
          refine x_iload (pc' := 858) rfl rfl rfl ?_
          refine x_icmp (a' := 863) (pc' := 861) (z := true) rfl rfl rfl (by decide) (fun _ => ?_) (fun h => by cases h)
          refine x_iload (pc' := 865) rfl rfl rfl ?_
          refine x_if (a' := 880) (pc' := 868) (z := false) rfl rfl rfl (by decide) (fun h => by cases h) (fun _ => ?_)
          refine x_aload_n (pc' := 869) rfl rfl rfl rfl rfl ?_
          refine x_iconst (pc' := 870) rfl rfl ?_
          refine x_lald (pc' := 871) (N := 1) (x := (0 : Int64)) rfl rfl (Eq.trans rdNA (Eq.trans rdNI (Eq.trans rdNL (z_N_23_0 e)))) (io_in (p := 0) (N := 1) (by decide) (by decide)) (Eq.trans (congrArg (sL (sAw (sIw (sLw t 23 0 0 (0 : Int64)) 768 0 0) 21 11 ((3 * s) + 0) (xs 3)) 23 0) (nn_io (p := 0) (by decide))) (Eq.trans rdLA (Eq.trans rdLI sL_s))) ?_
          refine x_iload (pc' := 873) rfl rfl rfl ?_
          refine x_i2l (pc' := 874) (z := (0 : Int64)) rfl rfl (by decide) ?_
          refine x_lcmp (pc' := 875) (z := 0) rfl rfl (sLcmp_s _) ?_
          refine x_if (a' := 880) (pc' := 878) (z := true) rfl rfl rfl (by decide) (fun _ => ?_) (fun h => by cases h)
          refine x_goto (pc' := 2938) rfl rfl ?_
          refine x_iinc (pc' := 2941) (y := 7) (ls' := [_, _, _, _, _, _, _]) rfl rfl rfl rfl rfl ?_
          refine x_goto (pc' := 23) rfl rfl ?_
          refine x_iload (pc' := 25) rfl rfl rfl ?_
          refine x_aload_n (pc' := 26) rfl rfl rfl rfl rfl ?_
          refine x_alen (pc' := 27) (N := 7) rfl rfl rfl (Eq.trans rdNA (Eq.trans rdNI (Eq.trans rdNL (z_N_29_0 e)))) (?_ : X _ _ _ (.inl 7 :: _) _ _)
          refine x_bipush (pc' := 29) rfl rfl ?_
          refine x_isub (pc' := 30) (z := 0) rfl rfl (by decide) ?_
          refine x_icmp (a' := 2944) (pc' := 33) (z := true) rfl rfl rfl (by decide) (fun _ => ?_) (fun h => by cases h)
          refine x_iconst (pc' := 2945) rfl rfl ?_
          refine x_retz (z := true) rfl rfl ?_
          exact Qp_ok e (p := 0) (q := 0) rfl rfl rfl rfl
        · refine x_aload_n (pc' := 23) rfl rfl rfl rfl rfl ?_
          refine x_gR (pc' := 26) (r := (some 0)) rfl rfl rfl (z_R_323_0 e) ?_
          refine x_iload (pc' := 28) rfl rfl rfl ?_
          refine x_iload_n (pc' := 29) rfl rfl rfl ?_
          refine x_iast (pc' := 30) (N := 18) (p := ((s * 3) + 0)) rfl rfl rfl (z_N_20_0 e) (io_in (p := ((s * 3) + 0)) (N := 18) (of_decide_eq_true q27) (by decide)) (nn_io (p := ((s * 3) + 0)) (Nat.lt_trans (of_decide_eq_true q27) (by decide))) ?_
          refine x_ret rfl ?_
          refine sK_v (pc' := 42) rfl ?_
          refine x_iload (pc' := 44) rfl rfl rfl ?_
          refine x_reti rfl rfl ?_
          refine sK_i (pc' := 10) rfl ?_
          refine x_i2l (pc' := 11) (z := (0 : Int64)) rfl rfl (by decide) ?_
          refine x_last (pc' := 12) (N := 1) (p := 0) rfl rfl (Eq.trans rdNA (z_N_23_0 e)) (io_in (p := 0) (N := 1) (by decide) (by decide)) (nn_io (p := 0) (by decide)) ?_
          refine x_goto (pc' := 23) rfl rfl ?_
          refine x_iconst (pc' := 24) rfl rfl ?_
          refine x_reti rfl rfl ?_
          refine sK_i (pc' := 826) rfl ?_
          refine x_istore (pc' := 828) (ls' := [_, _, _, _, _, _, _]) rfl rfl rfl rfl ?_
          refine x_aload_n (pc' := 829) rfl rfl rfl rfl rfl ?_
          refine x_aload_n (pc' := 830) rfl rfl rfl rfl rfl ?_
          refine x_iload (pc' := 832) rfl rfl rfl ?_
          refine x_iconst (pc' := 833) rfl rfl ?_
          refine x_iadd (pc' := 834) (z := 1) rfl rfl (by decide) ?_
          refine x_iald (pc' := 835) (N := 7) (x := (io s)) rfl rfl rfl (Eq.trans rdNL (Eq.trans rdNA (z_N_29_0 e))) (io_in (p := 1) (N := 7) (by decide) (by decide)) (Eq.trans (congrArg (sA (sLw (sAw t 20 0 ((s * 3) + 0) (xs 3)) 23 0 0 (0 : Int64)) 29 0) (nn_io (p := 1) (by decide))) (Eq.trans rdAL (Eq.trans (rdA_F rfl) (Eq.trans (z_A_29_0_1 e) e0)))) ?_
          refine x_aload_n (pc' := 836) rfl rfl rfl rfl rfl ?_
          refine x_iload (pc' := 838) rfl rfl rfl ?_
          refine x_iconst (pc' := 839) rfl rfl ?_
          refine x_iadd (pc' := 840) (z := 2) rfl rfl (by decide) ?_
          refine x_iald (pc' := 841) (N := 7) (x := 0) rfl rfl rfl (Eq.trans rdNL (Eq.trans rdNA (z_N_29_0 e))) (io_in (p := 2) (N := 7) (by decide) (by decide)) (Eq.trans (congrArg (sA (sLw (sAw t 20 0 ((s * 3) + 0) (xs 3)) 23 0 0 (0 : Int64)) 29 0) (nn_io (p := 2) (by decide))) (Eq.trans rdAL (Eq.trans (rdA_F rfl) (Eq.trans (z_A_29_0_2 e) e1)))) ?_
          refine x_aload_n (pc' := 842) rfl rfl rfl rfl rfl ?_
          refine x_iload (pc' := 844) rfl rfl rfl ?_
          refine x_iconst (pc' := 845) rfl rfl ?_
          refine x_iadd (pc' := 846) (z := 3) rfl rfl (by decide) ?_
          refine x_iald (pc' := 847) (N := 7) (x := (xs 3)) rfl rfl rfl (Eq.trans rdNL (Eq.trans rdNA (z_N_29_0 e))) (io_in (p := 3) (N := 7) (by decide) (by decide)) (Eq.trans (congrArg (sA (sLw (sAw t 20 0 ((s * 3) + 0) (xs 3)) 23 0 0 (0 : Int64)) 29 0) (nn_io (p := 3) (by decide))) (Eq.trans rdAL (Eq.trans (rdA_F rfl) (z_A_29_0_3 e)))) ?_
          refine x_cv (ls0 := [_, _, _, _, sJk, sJk]) (rest := []) rfl rfl rfl rfl rfl ?_
          refine x_iload_n (pc' := 1) rfl rfl rfl ?_
          refine x_iconst (pc' := 2) rfl rfl ?_
          refine x_iconst (pc' := 3) rfl rfl ?_
          refine x_cs (ls0 := [_, _, _]) (rest := []) rfl rfl rfl rfl ?_
          refine x_iload_n (pc' := 1) rfl rfl rfl ?_
          refine x_iload_n (pc' := 2) rfl rfl rfl ?_
          refine x_icmp (a' := 14) (pc' := 5) (z := decide (s < 0)) rfl rfl rfl (ic_lt (p := s) (q := 0) (Nat.lt_trans hs (by decide)) (by decide)) (fun h => absurd (of_decide_eq_true h) (by first | decide | omega | simp)) (fun _ => ?_)
          refine x_iload_n (pc' := 6) rfl rfl rfl ?_
          refine x_iload_n (pc' := 7) rfl rfl rfl ?_
          refine x_icmp (a' := 14) (pc' := 10) (z := decide (5 < s)) rfl rfl rfl (ic_gt (p := s) (q := 5) (Nat.lt_trans hs (by decide)) (by decide)) (fun h => absurd (of_decide_eq_true h) (fun z => absurd hs (Nat.not_lt.mpr z))) (fun _ => ?_)
          refine x_iconst (pc' := 11) rfl rfl ?_
          refine x_goto (pc' := 15) rfl rfl ?_
          refine x_retz (z := true) rfl rfl ?_
          refine sK_i (pc' := 6) rfl ?_
          refine x_if (a' := 20) (pc' := 9) (z := false) rfl rfl rfl (by decide) (fun h => by cases h) (fun _ => ?_)
          refine x_iload_n (pc' := 10) rfl rfl rfl ?_
          refine x_cs (ls0 := [_]) (rest := []) rfl rfl rfl rfl ?_
          refine x_iload_n (pc' := 1) rfl rfl rfl ?_
          refine x_iconst (pc' := 2) rfl rfl ?_
          refine x_iconst (pc' := 3) rfl rfl ?_
          refine x_cs (ls0 := [_, _, _]) (rest := []) rfl rfl rfl rfl ?_
          refine x_iload_n (pc' := 1) rfl rfl rfl ?_
          refine x_iload_n (pc' := 2) rfl rfl rfl ?_
          refine x_icmp (a' := 14) (pc' := 5) (z := false) rfl rfl rfl (by decide) (fun h => by cases h) (fun _ => ?_)
          refine x_iload_n (pc' := 6) rfl rfl rfl ?_
          refine x_iload_n (pc' := 7) rfl rfl rfl ?_
          refine x_icmp (a' := 14) (pc' := 10) (z := false) rfl rfl rfl (by decide) (fun h => by cases h) (fun _ => ?_)
          refine x_iconst (pc' := 11) rfl rfl ?_
          refine x_goto (pc' := 15) rfl rfl ?_
          refine x_retz (z := true) rfl rfl ?_
          refine sK_i (pc' := 6) rfl ?_
          refine x_retz (z := true) rfl rfl ?_
          refine sK_i (pc' := 13) rfl ?_
          refine x_if (a' := 20) (pc' := 16) (z := false) rfl rfl rfl (by decide) (fun h => by cases h) (fun _ => ?_)
          refine x_iconst (pc' := 17) rfl rfl ?_
          refine x_goto (pc' := 21) rfl rfl ?_
          refine x_istore (pc' := 23) (ls' := [_, _, _, _, _, _]) rfl rfl rfl rfl ?_
          refine x_aload_n (pc' := 24) rfl rfl rfl rfl rfl ?_
          refine x_iload (pc' := 26) rfl rfl rfl ?_
          refine x_if (a' := 33) (pc' := 29) (z := true) rfl rfl rfl (by decide) (fun _ => ?_) (fun h => by cases h)
          refine x_iload_n (pc' := 34) rfl rfl rfl ?_
          refine x_sipush (pc' := 37) rfl rfl ?_
          refine x_sipush (pc' := 40) rfl rfl ?_
          refine x_cs (ls0 := [_, _, _]) (rest := [_]) rfl rfl rfl rfl ?_
          refine x_iload_n (pc' := 1) rfl rfl rfl ?_
          refine x_iload_n (pc' := 2) rfl rfl rfl ?_
          refine x_icmp (a' := 14) (pc' := 5) (z := decide ((xs 3) < (-500))) rfl rfl rfl rfl (fun h => absurd (of_decide_eq_true h) (of_decide_eq_false q7)) (fun _ => ?_)
          refine x_iload_n (pc' := 6) rfl rfl rfl ?_
          refine x_iload_n (pc' := 7) rfl rfl rfl ?_
          refine x_icmp (a' := 14) (pc' := 10) (z := decide (500 < (xs 3))) rfl rfl rfl rfl (fun h => absurd (of_decide_eq_true h) (of_decide_eq_false q22)) (fun _ => ?_)
          refine x_iconst (pc' := 11) rfl rfl ?_
          refine x_goto (pc' := 15) rfl rfl ?_
          refine x_retz (z := true) rfl rfl ?_
          refine sK_i (pc' := 43) rfl ?_
          refine x_if (a' := 50) (pc' := 46) (z := false) rfl rfl rfl (by decide) (fun h => by cases h) (fun _ => ?_)
          refine x_iconst (pc' := 47) rfl rfl ?_
          refine x_goto (pc' := 51) rfl rfl ?_
          refine x_cv (ls0 := [_, _]) (rest := []) rfl rfl rfl rfl rfl ?_
          refine x_aload_n (pc' := 1) rfl rfl rfl rfl rfl ?_
          refine x_iload_n (pc' := 2) rfl rfl rfl ?_
          refine x_pI (pc' := 5) rfl rfl rfl ?_
          refine x_iload_n (pc' := 6) rfl rfl rfl ?_
          refine x_if (a' := 13) (pc' := 9) (z := false) rfl rfl rfl (by decide) (fun h => by cases h) (fun _ => ?_)
          refine x_iconst (pc' := 10) rfl rfl ?_
          refine x_goto (pc' := 14) rfl rfl ?_
          refine x_retz (z := true) rfl rfl ?_
          refine sK_i (pc' := 54) rfl ?_
          refine x_if (a' := 59) (pc' := 57) (z := true) rfl rfl rfl (by decide) (fun _ => ?_) (fun h => by cases h)
          refine x_aload_n (pc' := 60) rfl rfl rfl rfl rfl ?_
          refine x_gR (pc' := 63) (r := (some 11)) rfl rfl rfl (Eq.trans rdRI (Eq.trans rdRL (Eq.trans rdRA (z_R_783_0 e)))) ?_
          refine x_iconst (pc' := 64) rfl rfl ?_
          refine x_iload_n (pc' := 65) rfl rfl rfl ?_
          refine x_imul (pc' := 66) (z := (io (3 * s))) rfl rfl (io_mul 3 s) ?_
          refine x_iload_n (pc' := 67) rfl rfl rfl ?_
          refine x_iadd (pc' := 68) (z := (io ((3 * s) + 0))) rfl rfl (io_add (3 * s) 0) ?_
          refine x_iald (pc' := 69) (N := 18) (x := 0) rfl rfl rfl (Eq.trans rdNI (Eq.trans rdNL (Eq.trans rdNA (z_N_21_11 e)))) (io_in (p := ((3 * s) + 0)) (N := 18) (show ((3 * s) + 0) < 18 by omega) (by decide)) (Eq.trans (congrArg (sA (sIw (sLw (sAw t 20 0 ((s * 3) + 0) (xs 3)) 23 0 0 (0 : Int64)) 768 0 0) 21 11) (nn_io (p := ((3 * s) + 0)) (Nat.lt_trans (show ((3 * s) + 0) < 18 by omega) (by decide)))) (Eq.trans rdAI (Eq.trans rdAL (Eq.trans (rdA_F rfl) (z_A_21_11_y e _))))) ?_
          refine x_istore (pc' := 71) (ls' := [_, _, _, _, _, _]) rfl rfl rfl rfl ?_
          refine x_aload_n (pc' := 72) rfl rfl rfl rfl rfl ?_
          refine x_gR (pc' := 75) (r := (some 11)) rfl rfl rfl (Eq.trans rdRI (Eq.trans rdRL (Eq.trans rdRA (z_R_783_0 e)))) ?_
          refine x_iconst (pc' := 76) rfl rfl ?_
          refine x_iload_n (pc' := 77) rfl rfl rfl ?_
          refine x_imul (pc' := 78) (z := (io (3 * s))) rfl rfl (io_mul 3 s) ?_
          refine x_iload_n (pc' := 79) rfl rfl rfl ?_
          refine x_iadd (pc' := 80) (z := (io ((3 * s) + 0))) rfl rfl (io_add (3 * s) 0) ?_
          refine x_iload_n (pc' := 81) rfl rfl rfl ?_
          refine x_iast (pc' := 82) (N := 18) (p := ((3 * s) + 0)) rfl rfl rfl (Eq.trans rdNI (Eq.trans rdNL (Eq.trans rdNA (z_N_21_11 e)))) (io_in (p := ((3 * s) + 0)) (N := 18) (show ((3 * s) + 0) < 18 by omega) (by decide)) (nn_io (p := ((3 * s) + 0)) (Nat.lt_trans (show ((3 * s) + 0) < 18 by omega) (by decide))) ?_
          refine x_iload (pc' := 84) rfl rfl rfl ?_
          refine x_reti rfl rfl ?_
          refine sK_i (pc' := 850) rfl ?_
          refine x_istore (pc' := 852) (ls' := [_, _, _, _, _, _, _]) rfl rfl rfl rfl ?_
          refine x_aload_n (pc' := 853) rfl rfl rfl rfl rfl ?_
          refine x_cv (ls0 := [_]) (rest := []) rfl rfl rfl rfl rfl ?_
          refine x_aload_n (pc' := 1) rfl rfl rfl rfl rfl ?_
          refine x_gI (pc' := 4) (x := 0) rfl rfl rfl (Eq.trans rdIA sI_s) ?_
          refine x_reti rfl rfl ?_
          refine sK_i (pc' := 856) rfl ?_
          refine x_iload (pc' := 858) rfl rfl rfl ?_
          refine x_icmp (a' := 863) (pc' := 861) (z := true) rfl rfl rfl (by decide) (fun _ => ?_) (fun h => by cases h)
          refine x_iload (pc' := 865) rfl rfl rfl ?_
          refine x_if (a' := 880) (pc' := 868) (z := false) rfl rfl rfl (by decide) (fun h => by cases h) (fun _ => ?_)
          refine x_aload_n (pc' := 869) rfl rfl rfl rfl rfl ?_
          refine x_iconst (pc' := 870) rfl rfl ?_
          refine x_lald (pc' := 871) (N := 1) (x := (0 : Int64)) rfl rfl (Eq.trans rdNA (Eq.trans rdNI (Eq.trans rdNL (Eq.trans rdNA (z_N_23_0 e))))) (io_in (p := 0) (N := 1) (by decide) (by decide)) (Eq.trans (congrArg (sL (sAw (sIw (sLw (sAw t 20 0 ((s * 3) + 0) (xs 3)) 23 0 0 (0 : Int64)) 768 0 0) 21 11 ((3 * s) + 0) (xs 3)) 23 0) (nn_io (p := 0) (by decide))) (Eq.trans rdLA (Eq.trans rdLI sL_s))) ?_
          refine x_iload (pc' := 873) rfl rfl rfl ?_
          refine x_i2l (pc' := 874) (z := (0 : Int64)) rfl rfl (by decide) ?_
          refine x_lcmp (pc' := 875) (z := 0) rfl rfl (sLcmp_s _) ?_
          refine x_if (a' := 880) (pc' := 878) (z := true) rfl rfl rfl (by decide) (fun _ => ?_) (fun h => by cases h)
          refine x_goto (pc' := 2938) rfl rfl ?_
          refine x_iinc (pc' := 2941) (y := 7) (ls' := [_, _, _, _, _, _, _]) rfl rfl rfl rfl rfl ?_
          refine x_goto (pc' := 23) rfl rfl ?_
          refine x_iload (pc' := 25) rfl rfl rfl ?_
          refine x_aload_n (pc' := 26) rfl rfl rfl rfl rfl ?_
          refine x_alen (pc' := 27) (N := 7) rfl rfl rfl (Eq.trans rdNA (Eq.trans rdNI (Eq.trans rdNL (Eq.trans rdNA (z_N_29_0 e))))) (?_ : X _ _ _ (.inl 7 :: _) _ _)
          refine x_bipush (pc' := 29) rfl rfl ?_
          refine x_isub (pc' := 30) (z := 0) rfl rfl (by decide) ?_
          refine x_icmp (a' := 2944) (pc' := 33) (z := true) rfl rfl rfl (by decide) (fun _ => ?_) (fun h => by cases h)
          refine x_iconst (pc' := 2945) rfl rfl ?_
          refine x_retz (z := true) rfl rfl ?_
          exact Qp_ok e (p := 0) (q := 0) rfl rfl rfl rfl
      refine x_icmp_n (a' := 28) (pc' := 19) (z := decide (((s * 3) + 0) < 18)) rfl rfl rfl (ic_gen (p := ((s * 3) + 0)) (q := 18) (show ((s * 3) + 0) < 2 ^ 31 by omega) (by decide)) (fun q24 => ?_) (fun q24 => ?_)
      · refine x_iconst (pc' := 29) rfl rfl ?_
        ((try rw [q24] at J24); (try rw [q24]); (try simp only [cd_t, cd_f, nt_t, nt_f, an_t, an_f, or_t, or_f] at J24); (try simp only [cd_t, cd_f, nt_t, nt_f, an_t, an_f, or_t, or_f]); exact J24)
      · refine x_aload_n (pc' := 20) rfl rfl rfl rfl rfl ?_
        refine x_gR (pc' := 23) (r := (some 0)) rfl rfl rfl (z_R_323_0 e) ?_
        refine x_iload_n (pc' := 24) rfl rfl rfl ?_
        refine x_iald (pc' := 25) (N := 18) (x := 0) rfl rfl rfl (z_N_20_0 e) (io_in (p := ((s * 3) + 0)) (N := 18) (of_decide_eq_true q24) (by decide)) (Eq.trans (congrArg (sA t 20 0) (nn_io (p := ((s * 3) + 0)) (Nat.lt_trans (of_decide_eq_true q24) (by decide)))) (z_A_20_0_y e _)) ?_
        refine x_goto (pc' := 29) rfl rfl ?_
        ((try rw [q24] at J24); (try rw [q24]); (try simp only [cd_t, cd_f, nt_t, nt_f, an_t, an_f, or_t, or_f] at J24); (try simp only [cd_t, cd_f, nt_t, nt_f, an_t, an_f, or_t, or_f]); exact J24)
    · refine x_throw rfl rfl ?_
      refine sK_n (by decide +kernel) rfl ?_
      refine sK_h (h := 19) (by decide +kernel) rfl ?_
      refine x_catch (pc' := 21) (ls' := [_, _, _, _, _, _]) rfl rfl rfl rfl ?_
      refine x_iconst (pc' := 22) rfl rfl ?_
      refine x_reti rfl rfl ?_
      refine sK_i (pc' := 826) rfl ?_
      refine x_istore (pc' := 828) (ls' := [_, _, _, _, _, _, _]) rfl rfl rfl rfl ?_
      refine x_aload_n (pc' := 829) rfl rfl rfl rfl rfl ?_
      refine x_aload_n (pc' := 830) rfl rfl rfl rfl rfl ?_
      refine x_iload (pc' := 832) rfl rfl rfl ?_
      refine x_iconst (pc' := 833) rfl rfl ?_
      refine x_iadd (pc' := 834) (z := 1) rfl rfl (by decide) ?_
      refine x_iald (pc' := 835) (N := 7) (x := (io s)) rfl rfl rfl (Eq.trans rdNthr (z_N_29_0 e)) (io_in (p := 1) (N := 7) (by decide) (by decide)) (Eq.trans (congrArg (sA (sThr t) 29 0) (nn_io (p := 1) (by decide))) (Eq.trans rdAthr (Eq.trans (z_A_29_0_1 e) e0))) ?_
      refine x_aload_n (pc' := 836) rfl rfl rfl rfl rfl ?_
      refine x_iload (pc' := 838) rfl rfl rfl ?_
      refine x_iconst (pc' := 839) rfl rfl ?_
      refine x_iadd (pc' := 840) (z := 2) rfl rfl (by decide) ?_
      refine x_iald (pc' := 841) (N := 7) (x := 0) rfl rfl rfl (Eq.trans rdNthr (z_N_29_0 e)) (io_in (p := 2) (N := 7) (by decide) (by decide)) (Eq.trans (congrArg (sA (sThr t) 29 0) (nn_io (p := 2) (by decide))) (Eq.trans rdAthr (Eq.trans (z_A_29_0_2 e) e1))) ?_
      refine x_aload_n (pc' := 842) rfl rfl rfl rfl rfl ?_
      refine x_iload (pc' := 844) rfl rfl rfl ?_
      refine x_iconst (pc' := 845) rfl rfl ?_
      refine x_iadd (pc' := 846) (z := 3) rfl rfl (by decide) ?_
      refine x_iald (pc' := 847) (N := 7) (x := (xs 3)) rfl rfl rfl (Eq.trans rdNthr (z_N_29_0 e)) (io_in (p := 3) (N := 7) (by decide) (by decide)) (Eq.trans (congrArg (sA (sThr t) 29 0) (nn_io (p := 3) (by decide))) (Eq.trans rdAthr (z_A_29_0_3 e))) ?_
      refine x_cv (ls0 := [_, _, _, _, sJk, sJk]) (rest := []) rfl rfl rfl rfl rfl ?_
      refine x_iload_n (pc' := 1) rfl rfl rfl ?_
      refine x_iconst (pc' := 2) rfl rfl ?_
      refine x_iconst (pc' := 3) rfl rfl ?_
      refine x_cs (ls0 := [_, _, _]) (rest := []) rfl rfl rfl rfl ?_
      refine x_iload_n (pc' := 1) rfl rfl rfl ?_
      refine x_iload_n (pc' := 2) rfl rfl rfl ?_
      refine x_icmp (a' := 14) (pc' := 5) (z := decide (s < 0)) rfl rfl rfl (ic_lt (p := s) (q := 0) (Nat.lt_trans hs (by decide)) (by decide)) (fun h => absurd (of_decide_eq_true h) (by first | decide | omega | simp)) (fun _ => ?_)
      refine x_iload_n (pc' := 6) rfl rfl rfl ?_
      refine x_iload_n (pc' := 7) rfl rfl rfl ?_
      refine x_icmp (a' := 14) (pc' := 10) (z := decide (5 < s)) rfl rfl rfl (ic_gt (p := s) (q := 5) (Nat.lt_trans hs (by decide)) (by decide)) (fun h => absurd (of_decide_eq_true h) (fun z => absurd hs (Nat.not_lt.mpr z))) (fun _ => ?_)
      refine x_iconst (pc' := 11) rfl rfl ?_
      refine x_goto (pc' := 15) rfl rfl ?_
      refine x_retz (z := true) rfl rfl ?_
      refine sK_i (pc' := 6) rfl ?_
      refine x_if (a' := 20) (pc' := 9) (z := false) rfl rfl rfl (by decide) (fun h => by cases h) (fun _ => ?_)
      refine x_iload_n (pc' := 10) rfl rfl rfl ?_
      refine x_cs (ls0 := [_]) (rest := []) rfl rfl rfl rfl ?_
      refine x_iload_n (pc' := 1) rfl rfl rfl ?_
      refine x_iconst (pc' := 2) rfl rfl ?_
      refine x_iconst (pc' := 3) rfl rfl ?_
      refine x_cs (ls0 := [_, _, _]) (rest := []) rfl rfl rfl rfl ?_
      refine x_iload_n (pc' := 1) rfl rfl rfl ?_
      refine x_iload_n (pc' := 2) rfl rfl rfl ?_
      refine x_icmp (a' := 14) (pc' := 5) (z := false) rfl rfl rfl (by decide) (fun h => by cases h) (fun _ => ?_)
      refine x_iload_n (pc' := 6) rfl rfl rfl ?_
      refine x_iload_n (pc' := 7) rfl rfl rfl ?_
      refine x_icmp (a' := 14) (pc' := 10) (z := false) rfl rfl rfl (by decide) (fun h => by cases h) (fun _ => ?_)
      refine x_iconst (pc' := 11) rfl rfl ?_
      refine x_goto (pc' := 15) rfl rfl ?_
      refine x_retz (z := true) rfl rfl ?_
      refine sK_i (pc' := 6) rfl ?_
      refine x_retz (z := true) rfl rfl ?_
      refine sK_i (pc' := 13) rfl ?_
      refine x_if (a' := 20) (pc' := 16) (z := false) rfl rfl rfl (by decide) (fun h => by cases h) (fun _ => ?_)
      refine x_iconst (pc' := 17) rfl rfl ?_
      refine x_goto (pc' := 21) rfl rfl ?_
      refine x_istore (pc' := 23) (ls' := [_, _, _, _, _, _]) rfl rfl rfl rfl ?_
      refine x_aload_n (pc' := 24) rfl rfl rfl rfl rfl ?_
      refine x_iload (pc' := 26) rfl rfl rfl ?_
      refine x_if (a' := 33) (pc' := 29) (z := true) rfl rfl rfl (by decide) (fun _ => ?_) (fun h => by cases h)
      refine x_iload_n (pc' := 34) rfl rfl rfl ?_
      refine x_sipush (pc' := 37) rfl rfl ?_
      refine x_sipush (pc' := 40) rfl rfl ?_
      refine x_cs (ls0 := [_, _, _]) (rest := [_]) rfl rfl rfl rfl ?_
      refine x_iload_n (pc' := 1) rfl rfl rfl ?_
      refine x_iload_n (pc' := 2) rfl rfl rfl ?_
      refine x_icmp (a' := 14) (pc' := 5) (z := decide ((xs 3) < (-500))) rfl rfl rfl rfl (fun h => absurd (of_decide_eq_true h) (of_decide_eq_false q7)) (fun _ => ?_)
      refine x_iload_n (pc' := 6) rfl rfl rfl ?_
      refine x_iload_n (pc' := 7) rfl rfl rfl ?_
      refine x_icmp (a' := 14) (pc' := 10) (z := decide (500 < (xs 3))) rfl rfl rfl rfl (fun _ => ?_) (fun h => absurd (of_decide_eq_true q22) (of_decide_eq_false h))
      refine x_iconst (pc' := 15) rfl rfl ?_
      refine x_retz (z := false) rfl rfl ?_
      refine sK_i (pc' := 43) rfl ?_
      refine x_if (a' := 50) (pc' := 46) (z := true) rfl rfl rfl (by decide) (fun _ => ?_) (fun h => by cases h)
      refine x_iconst (pc' := 51) rfl rfl ?_
      refine x_cv (ls0 := [_, _]) (rest := []) rfl rfl rfl rfl rfl ?_
      refine x_aload_n (pc' := 1) rfl rfl rfl rfl rfl ?_
      refine x_iload_n (pc' := 2) rfl rfl rfl ?_
      refine x_pI (pc' := 5) rfl rfl rfl ?_
      refine x_iload_n (pc' := 6) rfl rfl rfl ?_
      refine x_if (a' := 13) (pc' := 9) (z := true) rfl rfl rfl (by decide) (fun _ => ?_) (fun h => by cases h)
      refine x_iconst (pc' := 14) rfl rfl ?_
      refine x_retz (z := false) rfl rfl ?_
      refine sK_i (pc' := 54) rfl ?_
      refine x_if (a' := 59) (pc' := 57) (z := false) rfl rfl rfl (by decide) (fun h => by cases h) (fun _ => ?_)
      refine x_iconst (pc' := 58) rfl rfl ?_
      refine x_reti rfl rfl ?_
      refine sK_i (pc' := 850) rfl ?_
      refine x_istore (pc' := 852) (ls' := [_, _, _, _, _, _, _]) rfl rfl rfl rfl ?_
      refine x_aload_n (pc' := 853) rfl rfl rfl rfl rfl ?_
      refine x_cv (ls0 := [_]) (rest := []) rfl rfl rfl rfl rfl ?_
      refine x_aload_n (pc' := 1) rfl rfl rfl rfl rfl ?_
      refine x_gI (pc' := 4) (x := 2) rfl rfl rfl sI_s ?_
      refine x_reti rfl rfl ?_
      refine sK_i (pc' := 856) rfl ?_
      refine x_iload (pc' := 858) rfl rfl rfl ?_
      refine x_icmp (a' := 863) (pc' := 861) (z := true) rfl rfl rfl (by decide) (fun _ => ?_) (fun h => by cases h)
      refine x_iload (pc' := 865) rfl rfl rfl ?_
      refine x_if (a' := 880) (pc' := 868) (z := true) rfl rfl rfl (by decide) (fun _ => ?_) (fun h => by cases h)
      refine x_goto (pc' := 2938) rfl rfl ?_
      refine x_iinc (pc' := 2941) (y := 7) (ls' := [_, _, _, _, _, _, _]) rfl rfl rfl rfl rfl ?_
      refine x_goto (pc' := 23) rfl rfl ?_
      refine x_iload (pc' := 25) rfl rfl rfl ?_
      refine x_aload_n (pc' := 26) rfl rfl rfl rfl rfl ?_
      refine x_alen (pc' := 27) (N := 7) rfl rfl rfl (Eq.trans rdNI (Eq.trans rdNthr (z_N_29_0 e))) (?_ : X _ _ _ (.inl 7 :: _) _ _)
      refine x_bipush (pc' := 29) rfl rfl ?_
      refine x_isub (pc' := 30) (z := 0) rfl rfl (by decide) ?_
      refine x_icmp (a' := 2944) (pc' := 33) (z := true) rfl rfl rfl (by decide) (fun _ => ?_) (fun h => by cases h)
      refine x_iconst (pc' := 2945) rfl rfl ?_
      refine x_retz (z := true) rfl rfl ?_
      exact Qp_ok e (p := 1) (q := 6) rfl rfl rfl rfl
set_option maxHeartbeats 4000000 in
set_option maxRecDepth 10000 in
theorem v_9_v_1_i {t : sT} {xs : Nat → Int32} {s : Nat}
    (e : t = T16 7 xs)
    (hk : ((xs 0) &&& 63) = 9)
    (hs : s < 6)
    (e0 : xs 1 = io s)
    (e1 : xs 2 = 1) :
    X 297 23 [.inr (.inr (29, (some 0))), .inr (.inr (11, (some 0))), .inr (.inr (12, (some 0))), .inr (.inr (23, (some 0))), .inl 0, sJk, sJk] [] t Qp := by
  refine x_iload (pc' := 25) rfl rfl rfl ?_
  refine x_aload_n (pc' := 26) rfl rfl rfl rfl rfl ?_
  refine x_alen (pc' := 27) (N := 7) rfl rfl rfl (z_N_29_0 e) (?_ : X _ _ _ (.inl 7 :: _) _ _)
  refine x_bipush (pc' := 29) rfl rfl ?_
  refine x_isub (pc' := 30) (z := 0) rfl rfl (by decide) ?_
  refine x_icmp (a' := 2944) (pc' := 33) (z := false) rfl rfl rfl (by decide) (fun h => by cases h) (fun _ => ?_)
  refine x_aload_n (pc' := 34) rfl rfl rfl rfl rfl ?_
  refine x_iload (pc' := 36) rfl rfl rfl ?_
  refine x_iald (pc' := 37) (N := 7) (x := (xs 0)) rfl rfl rfl (z_N_29_0 e) (io_in (p := 0) (N := 7) (by decide) (by decide)) (Eq.trans (congrArg (sA t 29 0) (nn_io (p := 0) (by decide))) (z_A_29_0_0 e)) ?_
  refine x_bipush (pc' := 39) rfl rfl ?_
  refine x_iand (pc' := 40) (z := ((xs 0) &&& 63)) rfl rfl rfl ?_
  refine x_switch (pc' := 803) rfl (by rw [hk]; decide) ?_
  refine x_aload_n (pc' := 804) rfl rfl rfl rfl rfl ?_
  refine x_aload_n (pc' := 805) rfl rfl rfl rfl rfl ?_
  refine x_iload (pc' := 807) rfl rfl rfl ?_
  refine x_iconst (pc' := 808) rfl rfl ?_
  refine x_iadd (pc' := 809) (z := 1) rfl rfl (by decide) ?_
  refine x_iald (pc' := 810) (N := 7) (x := (io s)) rfl rfl rfl (z_N_29_0 e) (io_in (p := 1) (N := 7) (by decide) (by decide)) (Eq.trans (congrArg (sA t 29 0) (nn_io (p := 1) (by decide))) (Eq.trans (z_A_29_0_1 e) e0)) ?_
  refine x_aload_n (pc' := 811) rfl rfl rfl rfl rfl ?_
  refine x_iload (pc' := 813) rfl rfl rfl ?_
  refine x_iconst (pc' := 814) rfl rfl ?_
  refine x_iadd (pc' := 815) (z := 2) rfl rfl (by decide) ?_
  refine x_iald (pc' := 816) (N := 7) (x := 1) rfl rfl rfl (z_N_29_0 e) (io_in (p := 2) (N := 7) (by decide) (by decide)) (Eq.trans (congrArg (sA t 29 0) (nn_io (p := 2) (by decide))) (Eq.trans (z_A_29_0_2 e) e1)) ?_
  refine x_aload_n (pc' := 817) rfl rfl rfl rfl rfl ?_
  refine x_iload (pc' := 819) rfl rfl rfl ?_
  refine x_iconst (pc' := 820) rfl rfl ?_
  refine x_iadd (pc' := 821) (z := 3) rfl rfl (by decide) ?_
  refine x_iald (pc' := 822) (N := 7) (x := (xs 3)) rfl rfl rfl (z_N_29_0 e) (io_in (p := 3) (N := 7) (by decide) (by decide)) (Eq.trans (congrArg (sA t 29 0) (nn_io (p := 3) (by decide))) (z_A_29_0_3 e)) ?_
  refine x_aload_n (pc' := 823) rfl rfl rfl rfl rfl ?_
  refine x_cs (ls0 := [_, _, _, _, _, sJk]) (rest := []) rfl rfl rfl rfl ?_
  refine x_aload (pc' := 2) rfl rfl rfl rfl rfl ?_
  refine x_iconst (pc' := 3) rfl rfl ?_
  refine x_aload_n (pc' := 4) rfl rfl rfl rfl rfl ?_
  refine x_iload_n (pc' := 5) rfl rfl rfl ?_
  refine x_iload_n (pc' := 6) rfl rfl rfl ?_
  refine x_iload_n (pc' := 7) rfl rfl rfl ?_
  refine x_cv (ls0 := [_, _, _, _, sJk]) (rest := [_, _]) rfl rfl rfl rfl rfl ?_
  refine x_iload_n (pc' := 1) rfl rfl rfl ?_
  refine x_bipush (pc' := 3) rfl rfl ?_
  refine x_cs (ls0 := [_, _]) (rest := []) rfl rfl rfl rfl ?_
  refine x_iload_n (pc' := 1) rfl rfl rfl ?_
  refine x_if (a' := 9) (pc' := 4) (z := decide (s < 0)) rfl rfl rfl (ic_lt (p := s) (q := 0) (Nat.lt_trans hs (by decide)) (by decide)) (fun h => absurd (of_decide_eq_true h) (by first | decide | omega | simp)) (fun _ => ?_)
  refine x_iload_n (pc' := 5) rfl rfl rfl ?_
  refine x_iload_n (pc' := 6) rfl rfl rfl ?_
  refine x_icmp (a' := 20) (pc' := 9) (z := decide (s < 6)) rfl rfl rfl (ic_lt (p := s) (q := 6) (Nat.lt_trans hs (by decide)) (by decide)) (fun _ => ?_) (fun h => absurd (Nat.lt_of_lt_of_le hs (by decide)) (of_decide_eq_false h))
  refine x_ret rfl ?_
  refine sK_v (pc' := 6) rfl ?_
  refine x_iload_n (pc' := 7) rfl rfl rfl ?_
  refine x_iconst (pc' := 8) rfl rfl ?_
  refine x_cs (ls0 := [_, _]) (rest := []) rfl rfl rfl rfl ?_
  refine x_iload_n (pc' := 1) rfl rfl rfl ?_
  refine x_if (a' := 9) (pc' := 4) (z := false) rfl rfl rfl (by decide) (fun h => by cases h) (fun _ => ?_)
  refine x_iload_n (pc' := 5) rfl rfl rfl ?_
  refine x_iload_n (pc' := 6) rfl rfl rfl ?_
  refine x_icmp (a' := 20) (pc' := 9) (z := true) rfl rfl rfl (by decide) (fun _ => ?_) (fun h => by cases h)
  refine x_ret rfl ?_
  refine sK_v (pc' := 11) rfl ?_
  refine x_iload_n (pc' := 12) rfl rfl rfl ?_
  refine x_sipush (pc' := 15) rfl rfl ?_
  refine x_sipush (pc' := 18) rfl rfl ?_
  refine x_cs (ls0 := [_, _, _]) (rest := []) rfl rfl rfl rfl ?_
  refine x_iload_n (pc' := 1) rfl rfl rfl ?_
  refine x_iload_n (pc' := 2) rfl rfl rfl ?_
  refine x_icmp (a' := 10) (pc' := 5) (z := decide ((xs 3) < (-500))) rfl rfl rfl rfl (fun q7 => ?_) (fun q7 => ?_)
  · refine x_throw rfl rfl ?_
    refine sK_n (by decide +kernel) rfl ?_
    refine sK_h (h := 19) (by decide +kernel) rfl ?_
    refine x_catch (pc' := 21) (ls' := [_, _, _, _, _, _]) rfl rfl rfl rfl ?_
    refine x_iconst (pc' := 22) rfl rfl ?_
    refine x_reti rfl rfl ?_
    refine sK_i (pc' := 826) rfl ?_
    refine x_istore (pc' := 828) (ls' := [_, _, _, _, _, _, _]) rfl rfl rfl rfl ?_
    refine x_aload_n (pc' := 829) rfl rfl rfl rfl rfl ?_
    refine x_aload_n (pc' := 830) rfl rfl rfl rfl rfl ?_
    refine x_iload (pc' := 832) rfl rfl rfl ?_
    refine x_iconst (pc' := 833) rfl rfl ?_
    refine x_iadd (pc' := 834) (z := 1) rfl rfl (by decide) ?_
    refine x_iald (pc' := 835) (N := 7) (x := (io s)) rfl rfl rfl (Eq.trans rdNthr (z_N_29_0 e)) (io_in (p := 1) (N := 7) (by decide) (by decide)) (Eq.trans (congrArg (sA (sThr t) 29 0) (nn_io (p := 1) (by decide))) (Eq.trans rdAthr (Eq.trans (z_A_29_0_1 e) e0))) ?_
    refine x_aload_n (pc' := 836) rfl rfl rfl rfl rfl ?_
    refine x_iload (pc' := 838) rfl rfl rfl ?_
    refine x_iconst (pc' := 839) rfl rfl ?_
    refine x_iadd (pc' := 840) (z := 2) rfl rfl (by decide) ?_
    refine x_iald (pc' := 841) (N := 7) (x := 1) rfl rfl rfl (Eq.trans rdNthr (z_N_29_0 e)) (io_in (p := 2) (N := 7) (by decide) (by decide)) (Eq.trans (congrArg (sA (sThr t) 29 0) (nn_io (p := 2) (by decide))) (Eq.trans rdAthr (Eq.trans (z_A_29_0_2 e) e1))) ?_
    refine x_aload_n (pc' := 842) rfl rfl rfl rfl rfl ?_
    refine x_iload (pc' := 844) rfl rfl rfl ?_
    refine x_iconst (pc' := 845) rfl rfl ?_
    refine x_iadd (pc' := 846) (z := 3) rfl rfl (by decide) ?_
    refine x_iald (pc' := 847) (N := 7) (x := (xs 3)) rfl rfl rfl (Eq.trans rdNthr (z_N_29_0 e)) (io_in (p := 3) (N := 7) (by decide) (by decide)) (Eq.trans (congrArg (sA (sThr t) 29 0) (nn_io (p := 3) (by decide))) (Eq.trans rdAthr (z_A_29_0_3 e))) ?_
    refine x_cv (ls0 := [_, _, _, _, sJk, sJk]) (rest := []) rfl rfl rfl rfl rfl ?_
    refine x_iload_n (pc' := 1) rfl rfl rfl ?_
    refine x_iconst (pc' := 2) rfl rfl ?_
    refine x_iconst (pc' := 3) rfl rfl ?_
    refine x_cs (ls0 := [_, _, _]) (rest := []) rfl rfl rfl rfl ?_
    refine x_iload_n (pc' := 1) rfl rfl rfl ?_
    refine x_iload_n (pc' := 2) rfl rfl rfl ?_
    refine x_icmp (a' := 14) (pc' := 5) (z := decide (s < 0)) rfl rfl rfl (ic_lt (p := s) (q := 0) (Nat.lt_trans hs (by decide)) (by decide)) (fun h => absurd (of_decide_eq_true h) (by first | decide | omega | simp)) (fun _ => ?_)
    refine x_iload_n (pc' := 6) rfl rfl rfl ?_
    refine x_iload_n (pc' := 7) rfl rfl rfl ?_
    refine x_icmp (a' := 14) (pc' := 10) (z := decide (5 < s)) rfl rfl rfl (ic_gt (p := s) (q := 5) (Nat.lt_trans hs (by decide)) (by decide)) (fun h => absurd (of_decide_eq_true h) (fun z => absurd hs (Nat.not_lt.mpr z))) (fun _ => ?_)
    refine x_iconst (pc' := 11) rfl rfl ?_
    refine x_goto (pc' := 15) rfl rfl ?_
    refine x_retz (z := true) rfl rfl ?_
    refine sK_i (pc' := 6) rfl ?_
    refine x_if (a' := 20) (pc' := 9) (z := false) rfl rfl rfl (by decide) (fun h => by cases h) (fun _ => ?_)
    refine x_iload_n (pc' := 10) rfl rfl rfl ?_
    refine x_cs (ls0 := [_]) (rest := []) rfl rfl rfl rfl ?_
    refine x_iload_n (pc' := 1) rfl rfl rfl ?_
    refine x_iconst (pc' := 2) rfl rfl ?_
    refine x_iconst (pc' := 3) rfl rfl ?_
    refine x_cs (ls0 := [_, _, _]) (rest := []) rfl rfl rfl rfl ?_
    refine x_iload_n (pc' := 1) rfl rfl rfl ?_
    refine x_iload_n (pc' := 2) rfl rfl rfl ?_
    refine x_icmp (a' := 14) (pc' := 5) (z := false) rfl rfl rfl (by decide) (fun h => by cases h) (fun _ => ?_)
    refine x_iload_n (pc' := 6) rfl rfl rfl ?_
    refine x_iload_n (pc' := 7) rfl rfl rfl ?_
    refine x_icmp (a' := 14) (pc' := 10) (z := false) rfl rfl rfl (by decide) (fun h => by cases h) (fun _ => ?_)
    refine x_iconst (pc' := 11) rfl rfl ?_
    refine x_goto (pc' := 15) rfl rfl ?_
    refine x_retz (z := true) rfl rfl ?_
    refine sK_i (pc' := 6) rfl ?_
    refine x_retz (z := true) rfl rfl ?_
    refine sK_i (pc' := 13) rfl ?_
    refine x_if (a' := 20) (pc' := 16) (z := false) rfl rfl rfl (by decide) (fun h => by cases h) (fun _ => ?_)
    refine x_iconst (pc' := 17) rfl rfl ?_
    refine x_goto (pc' := 21) rfl rfl ?_
    refine x_istore (pc' := 23) (ls' := [_, _, _, _, _, _]) rfl rfl rfl rfl ?_
    refine x_aload_n (pc' := 24) rfl rfl rfl rfl rfl ?_
    refine x_iload (pc' := 26) rfl rfl rfl ?_
    refine x_if (a' := 33) (pc' := 29) (z := true) rfl rfl rfl (by decide) (fun _ => ?_) (fun h => by cases h)
    refine x_iload_n (pc' := 34) rfl rfl rfl ?_
    refine x_sipush (pc' := 37) rfl rfl ?_
    refine x_sipush (pc' := 40) rfl rfl ?_
    refine x_cs (ls0 := [_, _, _]) (rest := [_]) rfl rfl rfl rfl ?_
    refine x_iload_n (pc' := 1) rfl rfl rfl ?_
    refine x_iload_n (pc' := 2) rfl rfl rfl ?_
    refine x_icmp (a' := 14) (pc' := 5) (z := decide ((xs 3) < (-500))) rfl rfl rfl rfl (fun _ => ?_) (fun h => absurd (of_decide_eq_true q7) (of_decide_eq_false h))
    refine x_iconst (pc' := 15) rfl rfl ?_
    refine x_retz (z := false) rfl rfl ?_
    refine sK_i (pc' := 43) rfl ?_
    refine x_if (a' := 50) (pc' := 46) (z := true) rfl rfl rfl (by decide) (fun _ => ?_) (fun h => by cases h)
    refine x_iconst (pc' := 51) rfl rfl ?_
    refine x_cv (ls0 := [_, _]) (rest := []) rfl rfl rfl rfl rfl ?_
    refine x_aload_n (pc' := 1) rfl rfl rfl rfl rfl ?_
    refine x_iload_n (pc' := 2) rfl rfl rfl ?_
    refine x_pI (pc' := 5) rfl rfl rfl ?_
    refine x_iload_n (pc' := 6) rfl rfl rfl ?_
    refine x_if (a' := 13) (pc' := 9) (z := true) rfl rfl rfl (by decide) (fun _ => ?_) (fun h => by cases h)
    refine x_iconst (pc' := 14) rfl rfl ?_
    refine x_retz (z := false) rfl rfl ?_
    refine sK_i (pc' := 54) rfl ?_
    refine x_if (a' := 59) (pc' := 57) (z := false) rfl rfl rfl (by decide) (fun h => by cases h) (fun _ => ?_)
    refine x_iconst (pc' := 58) rfl rfl ?_
    refine x_reti rfl rfl ?_
    refine sK_i (pc' := 850) rfl ?_
    refine x_istore (pc' := 852) (ls' := [_, _, _, _, _, _, _]) rfl rfl rfl rfl ?_
    refine x_aload_n (pc' := 853) rfl rfl rfl rfl rfl ?_
    refine x_cv (ls0 := [_]) (rest := []) rfl rfl rfl rfl rfl ?_
    refine x_aload_n (pc' := 1) rfl rfl rfl rfl rfl ?_
    refine x_gI (pc' := 4) (x := 2) rfl rfl rfl sI_s ?_
    refine x_reti rfl rfl ?_
    refine sK_i (pc' := 856) rfl ?_
    refine x_iload (pc' := 858) rfl rfl rfl ?_
    refine x_icmp (a' := 863) (pc' := 861) (z := true) rfl rfl rfl (by decide) (fun _ => ?_) (fun h => by cases h)
    refine x_iload (pc' := 865) rfl rfl rfl ?_
    refine x_if (a' := 880) (pc' := 868) (z := true) rfl rfl rfl (by decide) (fun _ => ?_) (fun h => by cases h)
    refine x_goto (pc' := 2938) rfl rfl ?_
    refine x_iinc (pc' := 2941) (y := 7) (ls' := [_, _, _, _, _, _, _]) rfl rfl rfl rfl rfl ?_
    refine x_goto (pc' := 23) rfl rfl ?_
    refine x_iload (pc' := 25) rfl rfl rfl ?_
    refine x_aload_n (pc' := 26) rfl rfl rfl rfl rfl ?_
    refine x_alen (pc' := 27) (N := 7) rfl rfl rfl (Eq.trans rdNI (Eq.trans rdNthr (z_N_29_0 e))) (?_ : X _ _ _ (.inl 7 :: _) _ _)
    refine x_bipush (pc' := 29) rfl rfl ?_
    refine x_isub (pc' := 30) (z := 0) rfl rfl (by decide) ?_
    refine x_icmp (a' := 2944) (pc' := 33) (z := true) rfl rfl rfl (by decide) (fun _ => ?_) (fun h => by cases h)
    refine x_iconst (pc' := 2945) rfl rfl ?_
    refine x_retz (z := true) rfl rfl ?_
    exact Qp_ok e (p := 1) (q := 6) rfl rfl rfl rfl
  · refine x_iload_n (pc' := 6) rfl rfl rfl ?_
    refine x_iload_n (pc' := 7) rfl rfl rfl ?_
    refine x_icmp_n (a' := 21) (pc' := 10) (z := decide (500 < (xs 3))) rfl rfl rfl (ik_le _ _) (fun q22 => ?_) (fun q22 => ?_)
    · refine x_ret rfl ?_
      refine sK_v (pc' := 21) rfl ?_
      refine x_aload_n (pc' := 22) rfl rfl rfl rfl rfl ?_
      refine x_gR (pc' := 25) (r := (some 0)) rfl rfl rfl (z_R_704_0 e) ?_
      refine x_iload_n (pc' := 26) rfl rfl rfl ?_
      refine x_iload_n (pc' := 27) rfl rfl rfl ?_
      refine x_cv (ls0 := [_, _, _, sJk]) (rest := []) rfl rfl rfl rfl rfl ?_
      refine x_iload_n (pc' := 1) rfl rfl rfl ?_
      refine x_iconst (pc' := 2) rfl rfl ?_
      refine x_imul (pc' := 3) (z := (io (s * 3))) rfl rfl (io_mul s 3) ?_
      refine x_iload_n (pc' := 4) rfl rfl rfl ?_
      refine x_iadd (pc' := 5) (z := (io ((s * 3) + 1))) rfl rfl (io_add (s * 3) 1) ?_
      refine x_istore_n (pc' := 6) (ls' := [_, _, _, _]) rfl rfl rfl rfl ?_
      refine x_iload_n (pc' := 7) rfl rfl rfl ?_
      refine x_if (a' := 28) (pc' := 10) (z := decide (((s * 3) + 1) < 0)) rfl rfl rfl (ic_lt (p := ((s * 3) + 1)) (q := 0) (show ((s * 3) + 1) < 2 ^ 31 by omega) (by decide)) (fun h => absurd (of_decide_eq_true h) (by first | decide | omega | simp)) (fun _ => ?_)
      refine x_iload_n (pc' := 11) rfl rfl rfl ?_
      refine x_aload_n (pc' := 12) rfl rfl rfl rfl rfl ?_
      refine x_gR (pc' := 15) (r := (some 0)) rfl rfl rfl (z_R_323_0 e) ?_
      refine x_alen (pc' := 16) (N := 18) rfl rfl rfl (z_N_20_0 e) (?_ : X _ _ _ (.inl 18 :: _) _ _)
      have J24 : X 43 29 [.inr (.inr (5, (some 0))), .inl (io s), .inl 1, .inl (io ((s * 3) + 1))] [.inl 0] t (sK 43 93 27 [.inr (.inr (11, (some 0))), .inl (io s), .inl 1, .inl (xs 3), sJk] [] (sK 93 268 7 [.inr (.inr (11, (some 0))), .inl (io s), .inl 1, .inl (xs 3), .inr (.inr (23, (some 0))), sJk] [.inl 0, .inr (.inr (23, (some 0)))] (sK 268 297 823 [.inr (.inr (29, (some 0))), .inr (.inr (11, (some 0))), .inr (.inr (12, (some 0))), .inr (.inr (23, (some 0))), .inl 0, sJk, sJk] [] Qp))) := by
        refine x_reti rfl rfl ?_
        refine sK_i (pc' := 30) rfl ?_
        refine x_istore (pc' := 32) (ls' := [_, _, _, _, _]) rfl rfl rfl rfl ?_
        refine x_aload_n (pc' := 33) rfl rfl rfl rfl rfl ?_
        refine x_gR (pc' := 36) (r := (some 0)) rfl rfl rfl (z_R_704_0 e) ?_
        refine x_iload_n (pc' := 37) rfl rfl rfl ?_
        refine x_iload_n (pc' := 38) rfl rfl rfl ?_
        refine x_iload_n (pc' := 39) rfl rfl rfl ?_
        refine x_cv (ls0 := [_, _, _, _, sJk]) (rest := []) rfl rfl rfl rfl rfl ?_
        refine x_iload_n (pc' := 1) rfl rfl rfl ?_
        refine x_iconst (pc' := 2) rfl rfl ?_
        refine x_imul (pc' := 3) (z := (io (s * 3))) rfl rfl (io_mul s 3) ?_
        refine x_iload_n (pc' := 4) rfl rfl rfl ?_
        refine x_iadd (pc' := 5) (z := (io ((s * 3) + 1))) rfl rfl (io_add (s * 3) 1) ?_
        refine x_istore (pc' := 7) (ls' := [_, _, _, _, _]) rfl rfl rfl rfl ?_
        refine x_iload (pc' := 9) rfl rfl rfl ?_
        refine x_if (a' := 30) (pc' := 12) (z := decide (((s * 3) + 1) < 0)) rfl rfl rfl (ic_lt (p := ((s * 3) + 1)) (q := 0) (show ((s * 3) + 1) < 2 ^ 31 by omega) (by decide)) (fun h => absurd (of_decide_eq_true h) (by first | decide | omega | simp)) (fun _ => ?_)
        refine x_iload (pc' := 14) rfl rfl rfl ?_
        refine x_aload_n (pc' := 15) rfl rfl rfl rfl rfl ?_
        refine x_gR (pc' := 18) (r := (some 0)) rfl rfl rfl (z_R_323_0 e) ?_
        refine x_alen (pc' := 19) (N := 18) rfl rfl rfl (z_N_20_0 e) (?_ : X _ _ _ (.inl 18 :: _) _ _)
        refine x_icmp_n (a' := 30) (pc' := 22) (z := decide (((s * 3) + 1) < 18)) rfl rfl rfl (ic_gen (p := ((s * 3) + 1)) (q := 18) (show ((s * 3) + 1) < 2 ^ 31 by omega) (by decide)) (fun q27 => ?_) (fun q27 => ?_)
        · refine x_ret rfl ?_
          refine sK_v (pc' := 42) rfl ?_
          refine x_iload (pc' := 44) rfl rfl rfl ?_
          refine x_reti rfl rfl ?_
          refine sK_i (pc' := 10) rfl ?_
          refine x_i2l (pc' := 11) (z := (0 : Int64)) rfl rfl (by decide) ?_
          refine x_last (pc' := 12) (N := 1) (p := 0) rfl rfl (z_N_23_0 e) (io_in (p := 0) (N := 1) (by decide) (by decide)) (nn_io (p := 0) (by decide)) ?_
          refine x_goto (pc' := 23) rfl rfl ?_
          refine x_iconst (pc' := 24) rfl rfl ?_
          refine x_reti rfl rfl ?_
          refine sK_i (pc' := 826) rfl ?_
          refine x_istore (pc' := 828) (ls' := [_, _, _, _, _, _, _]) rfl rfl rfl rfl ?_
          refine x_aload_n (pc' := 829) rfl rfl rfl rfl rfl ?_
          refine x_aload_n (pc' := 830) rfl rfl rfl rfl rfl ?_
          refine x_iload (pc' := 832) rfl rfl rfl ?_
          refine x_iconst (pc' := 833) rfl rfl ?_
          refine x_iadd (pc' := 834) (z := 1) rfl rfl (by decide) ?_
          refine x_iald (pc' := 835) (N := 7) (x := (io s)) rfl rfl rfl (Eq.trans rdNL (z_N_29_0 e)) (io_in (p := 1) (N := 7) (by decide) (by decide)) (Eq.trans (congrArg (sA (sLw t 23 0 0 (0 : Int64)) 29 0) (nn_io (p := 1) (by decide))) (Eq.trans rdAL (Eq.trans (z_A_29_0_1 e) e0))) ?_
          refine x_aload_n (pc' := 836) rfl rfl rfl rfl rfl ?_
          refine x_iload (pc' := 838) rfl rfl rfl ?_
          refine x_iconst (pc' := 839) rfl rfl ?_
          refine x_iadd (pc' := 840) (z := 2) rfl rfl (by decide) ?_
          refine x_iald (pc' := 841) (N := 7) (x := 1) rfl rfl rfl (Eq.trans rdNL (z_N_29_0 e)) (io_in (p := 2) (N := 7) (by decide) (by decide)) (Eq.trans (congrArg (sA (sLw t 23 0 0 (0 : Int64)) 29 0) (nn_io (p := 2) (by decide))) (Eq.trans rdAL (Eq.trans (z_A_29_0_2 e) e1))) ?_
          refine x_aload_n (pc' := 842) rfl rfl rfl rfl rfl ?_
          refine x_iload (pc' := 844) rfl rfl rfl ?_
          refine x_iconst (pc' := 845) rfl rfl ?_
          refine x_iadd (pc' := 846) (z := 3) rfl rfl (by decide) ?_
          refine x_iald (pc' := 847) (N := 7) (x := (xs 3)) rfl rfl rfl (Eq.trans rdNL (z_N_29_0 e)) (io_in (p := 3) (N := 7) (by decide) (by decide)) (Eq.trans (congrArg (sA (sLw t 23 0 0 (0 : Int64)) 29 0) (nn_io (p := 3) (by decide))) (Eq.trans rdAL (z_A_29_0_3 e))) ?_
          refine x_cv (ls0 := [_, _, _, _, sJk, sJk]) (rest := []) rfl rfl rfl rfl rfl ?_
          refine x_iload_n (pc' := 1) rfl rfl rfl ?_
          refine x_iconst (pc' := 2) rfl rfl ?_
          refine x_iconst (pc' := 3) rfl rfl ?_
          refine x_cs (ls0 := [_, _, _]) (rest := []) rfl rfl rfl rfl ?_
          refine x_iload_n (pc' := 1) rfl rfl rfl ?_
          refine x_iload_n (pc' := 2) rfl rfl rfl ?_
          refine x_icmp (a' := 14) (pc' := 5) (z := decide (s < 0)) rfl rfl rfl (ic_lt (p := s) (q := 0) (Nat.lt_trans hs (by decide)) (by decide)) (fun h => absurd (of_decide_eq_true h) (by first | decide | omega | simp)) (fun _ => ?_)
          refine x_iload_n (pc' := 6) rfl rfl rfl ?_
          refine x_iload_n (pc' := 7) rfl rfl rfl ?_
          refine x_icmp (a' := 14) (pc' := 10) (z := decide (5 < s)) rfl rfl rfl (ic_gt (p := s) (q := 5) (Nat.lt_trans hs (by decide)) (by decide)) (fun h => absurd (of_decide_eq_true h) (fun z => absurd hs (Nat.not_lt.mpr z))) (fun _ => ?_)
          refine x_iconst (pc' := 11) rfl rfl ?_
          refine x_goto (pc' := 15) rfl rfl ?_
          refine x_retz (z := true) rfl rfl ?_
          refine sK_i (pc' := 6) rfl ?_
          refine x_if (a' := 20) (pc' := 9) (z := false) rfl rfl rfl (by decide) (fun h => by cases h) (fun _ => ?_)
          refine x_iload_n (pc' := 10) rfl rfl rfl ?_
          refine x_cs (ls0 := [_]) (rest := []) rfl rfl rfl rfl ?_
          refine x_iload_n (pc' := 1) rfl rfl rfl ?_
          refine x_iconst (pc' := 2) rfl rfl ?_
          refine x_iconst (pc' := 3) rfl rfl ?_
          refine x_cs (ls0 := [_, _, _]) (rest := []) rfl rfl rfl rfl ?_
          refine x_iload_n (pc' := 1) rfl rfl rfl ?_
          refine x_iload_n (pc' := 2) rfl rfl rfl ?_
          refine x_icmp (a' := 14) (pc' := 5) (z := false) rfl rfl rfl (by decide) (fun h => by cases h) (fun _ => ?_)
          refine x_iload_n (pc' := 6) rfl rfl rfl ?_
          refine x_iload_n (pc' := 7) rfl rfl rfl ?_
          refine x_icmp (a' := 14) (pc' := 10) (z := false) rfl rfl rfl (by decide) (fun h => by cases h) (fun _ => ?_)
          refine x_iconst (pc' := 11) rfl rfl ?_
          refine x_goto (pc' := 15) rfl rfl ?_
          refine x_retz (z := true) rfl rfl ?_
          refine sK_i (pc' := 6) rfl ?_
          refine x_retz (z := true) rfl rfl ?_
          refine sK_i (pc' := 13) rfl ?_
          refine x_if (a' := 20) (pc' := 16) (z := false) rfl rfl rfl (by decide) (fun h => by cases h) (fun _ => ?_)
          refine x_iconst (pc' := 17) rfl rfl ?_
          refine x_goto (pc' := 21) rfl rfl ?_
          refine x_istore (pc' := 23) (ls' := [_, _, _, _, _, _]) rfl rfl rfl rfl ?_
          refine x_aload_n (pc' := 24) rfl rfl rfl rfl rfl ?_
          refine x_iload (pc' := 26) rfl rfl rfl ?_
          refine x_if (a' := 33) (pc' := 29) (z := true) rfl rfl rfl (by decide) (fun _ => ?_) (fun h => by cases h)
          refine x_iload_n (pc' := 34) rfl rfl rfl ?_
          refine x_sipush (pc' := 37) rfl rfl ?_
          refine x_sipush (pc' := 40) rfl rfl ?_
          refine x_cs (ls0 := [_, _, _]) (rest := [_]) rfl rfl rfl rfl ?_
          refine x_iload_n (pc' := 1) rfl rfl rfl ?_
          refine x_iload_n (pc' := 2) rfl rfl rfl ?_
          refine x_icmp (a' := 14) (pc' := 5) (z := decide ((xs 3) < (-500))) rfl rfl rfl rfl (fun h => absurd (of_decide_eq_true h) (of_decide_eq_false q7)) (fun _ => ?_)
          refine x_iload_n (pc' := 6) rfl rfl rfl ?_
          refine x_iload_n (pc' := 7) rfl rfl rfl ?_
          refine x_icmp (a' := 14) (pc' := 10) (z := decide (500 < (xs 3))) rfl rfl rfl rfl (fun h => absurd (of_decide_eq_true h) (of_decide_eq_false q22)) (fun _ => ?_)
          refine x_iconst (pc' := 11) rfl rfl ?_
          refine x_goto (pc' := 15) rfl rfl ?_
          refine x_retz (z := true) rfl rfl ?_
          refine sK_i (pc' := 43) rfl ?_
          refine x_if (a' := 50) (pc' := 46) (z := false) rfl rfl rfl (by decide) (fun h => by cases h) (fun _ => ?_)
          refine x_iconst (pc' := 47) rfl rfl ?_
          refine x_goto (pc' := 51) rfl rfl ?_
          refine x_cv (ls0 := [_, _]) (rest := []) rfl rfl rfl rfl rfl ?_
          refine x_aload_n (pc' := 1) rfl rfl rfl rfl rfl ?_
          refine x_iload_n (pc' := 2) rfl rfl rfl ?_
          refine x_pI (pc' := 5) rfl rfl rfl ?_
          refine x_iload_n (pc' := 6) rfl rfl rfl ?_
          refine x_if (a' := 13) (pc' := 9) (z := false) rfl rfl rfl (by decide) (fun h => by cases h) (fun _ => ?_)
          refine x_iconst (pc' := 10) rfl rfl ?_
          refine x_goto (pc' := 14) rfl rfl ?_
          refine x_retz (z := true) rfl rfl ?_
          refine sK_i (pc' := 54) rfl ?_
          refine x_if (a' := 59) (pc' := 57) (z := true) rfl rfl rfl (by decide) (fun _ => ?_) (fun h => by cases h)
          refine x_aload_n (pc' := 60) rfl rfl rfl rfl rfl ?_
          refine x_gR (pc' := 63) (r := (some 11)) rfl rfl rfl (Eq.trans rdRI (Eq.trans rdRL (z_R_783_0 e))) ?_
          refine x_iconst (pc' := 64) rfl rfl ?_
          refine x_iload_n (pc' := 65) rfl rfl rfl ?_
          refine x_imul (pc' := 66) (z := (io (3 * s))) rfl rfl (io_mul 3 s) ?_
          refine x_iload_n (pc' := 67) rfl rfl rfl ?_
          refine x_iadd (pc' := 68) (z := (io ((3 * s) + 1))) rfl rfl (io_add (3 * s) 1) ?_
          refine x_iald (pc' := 69) (N := 18) (x := 0) rfl rfl rfl (Eq.trans rdNI (Eq.trans rdNL (z_N_21_11 e))) (io_in (p := ((3 * s) + 1)) (N := 18) (show ((3 * s) + 1) < 18 by omega) (by decide)) (Eq.trans (congrArg (sA (sIw (sLw t 23 0 0 (0 : Int64)) 768 0 0) 21 11) (nn_io (p := ((3 * s) + 1)) (Nat.lt_trans (show ((3 * s) + 1) < 18 by omega) (by decide)))) (Eq.trans rdAI (Eq.trans rdAL (z_A_21_11_y e _)))) ?_
          refine x_istore (pc' := 71) (ls' := [_, _, _, _, _, _]) rfl rfl rfl rfl ?_
          refine x_aload_n (pc' := 72) rfl rfl rfl rfl rfl ?_
          refine x_gR (pc' := 75) (r := (some 11)) rfl rfl rfl (Eq.trans rdRI (Eq.trans rdRL (z_R_783_0 e))) ?_
          refine x_iconst (pc' := 76) rfl rfl ?_
          refine x_iload_n (pc' := 77) rfl rfl rfl ?_
          refine x_imul (pc' := 78) (z := (io (3 * s))) rfl rfl (io_mul 3 s) ?_
          refine x_iload_n (pc' := 79) rfl rfl rfl ?_
          refine x_iadd (pc' := 80) (z := (io ((3 * s) + 1))) rfl rfl (io_add (3 * s) 1) ?_
          refine x_iload_n (pc' := 81) rfl rfl rfl ?_
          refine x_iast (pc' := 82) (N := 18) (p := ((3 * s) + 1)) rfl rfl rfl (Eq.trans rdNI (Eq.trans rdNL (z_N_21_11 e))) (io_in (p := ((3 * s) + 1)) (N := 18) (show ((3 * s) + 1) < 18 by omega) (by decide)) (nn_io (p := ((3 * s) + 1)) (Nat.lt_trans (show ((3 * s) + 1) < 18 by omega) (by decide))) ?_
          refine x_iload (pc' := 84) rfl rfl rfl ?_
          refine x_reti rfl rfl ?_
          refine sK_i (pc' := 850) rfl ?_
          refine x_istore (pc' := 852) (ls' := [_, _, _, _, _, _, _]) rfl rfl rfl rfl ?_
          refine x_aload_n (pc' := 853) rfl rfl rfl rfl rfl ?_
          refine x_cv (ls0 := [_]) (rest := []) rfl rfl rfl rfl rfl ?_
          refine x_aload_n (pc' := 1) rfl rfl rfl rfl rfl ?_
          refine x_gI (pc' := 4) (x := 0) rfl rfl rfl (Eq.trans rdIA sI_s) ?_
          refine x_reti rfl rfl ?_
          refine sK_i (pc' := 856) rfl ?_
          refine x_iload (pc' := 858) rfl rfl rfl ?_
          refine x_icmp (a' := 863) (pc' := 861) (z := true) rfl rfl rfl (by decide) (fun _ => ?_) (fun h => by cases h)
          refine x_iload (pc' := 865) rfl rfl rfl ?_
          refine x_if (a' := 880) (pc' := 868) (z := false) rfl rfl rfl (by decide) (fun h => by cases h) (fun _ => ?_)
          refine x_aload_n (pc' := 869) rfl rfl rfl rfl rfl ?_
          refine x_iconst (pc' := 870) rfl rfl ?_
          refine x_lald (pc' := 871) (N := 1) (x := (0 : Int64)) rfl rfl (Eq.trans rdNA (Eq.trans rdNI (Eq.trans rdNL (z_N_23_0 e)))) (io_in (p := 0) (N := 1) (by decide) (by decide)) (Eq.trans (congrArg (sL (sAw (sIw (sLw t 23 0 0 (0 : Int64)) 768 0 0) 21 11 ((3 * s) + 1) (xs 3)) 23 0) (nn_io (p := 0) (by decide))) (Eq.trans rdLA (Eq.trans rdLI sL_s))) ?_
          refine x_iload (pc' := 873) rfl rfl rfl ?_
          refine x_i2l (pc' := 874) (z := (0 : Int64)) rfl rfl (by decide) ?_
          refine x_lcmp (pc' := 875) (z := 0) rfl rfl (sLcmp_s _) ?_
          refine x_if (a' := 880) (pc' := 878) (z := true) rfl rfl rfl (by decide) (fun _ => ?_) (fun h => by cases h)
          refine x_goto (pc' := 2938) rfl rfl ?_
          refine x_iinc (pc' := 2941) (y := 7) (ls' := [_, _, _, _, _, _, _]) rfl rfl rfl rfl rfl ?_
          refine x_goto (pc' := 23) rfl rfl ?_
          refine x_iload (pc' := 25) rfl rfl rfl ?_
          refine x_aload_n (pc' := 26) rfl rfl rfl rfl rfl ?_
          refine x_alen (pc' := 27) (N := 7) rfl rfl rfl (Eq.trans rdNA (Eq.trans rdNI (Eq.trans rdNL (z_N_29_0 e)))) (?_ : X _ _ _ (.inl 7 :: _) _ _)
          refine x_bipush (pc' := 29) rfl rfl ?_
          refine x_isub (pc' := 30) (z := 0) rfl rfl (by decide) ?_
          refine x_icmp (a' := 2944) (pc' := 33) (z := true) rfl rfl rfl (by decide) (fun _ => ?_) (fun h => by cases h)
          refine x_iconst (pc' := 2945) rfl rfl ?_
          refine x_retz (z := true) rfl rfl ?_
          exact Qp_ok e (p := 0) (q := 0) rfl rfl rfl rfl
        · refine x_aload_n (pc' := 23) rfl rfl rfl rfl rfl ?_
          refine x_gR (pc' := 26) (r := (some 0)) rfl rfl rfl (z_R_323_0 e) ?_
          refine x_iload (pc' := 28) rfl rfl rfl ?_
          refine x_iload_n (pc' := 29) rfl rfl rfl ?_
          refine x_iast (pc' := 30) (N := 18) (p := ((s * 3) + 1)) rfl rfl rfl (z_N_20_0 e) (io_in (p := ((s * 3) + 1)) (N := 18) (of_decide_eq_true q27) (by decide)) (nn_io (p := ((s * 3) + 1)) (Nat.lt_trans (of_decide_eq_true q27) (by decide))) ?_
          refine x_ret rfl ?_
          refine sK_v (pc' := 42) rfl ?_
          refine x_iload (pc' := 44) rfl rfl rfl ?_
          refine x_reti rfl rfl ?_
          refine sK_i (pc' := 10) rfl ?_
          refine x_i2l (pc' := 11) (z := (0 : Int64)) rfl rfl (by decide) ?_
          refine x_last (pc' := 12) (N := 1) (p := 0) rfl rfl (Eq.trans rdNA (z_N_23_0 e)) (io_in (p := 0) (N := 1) (by decide) (by decide)) (nn_io (p := 0) (by decide)) ?_
          refine x_goto (pc' := 23) rfl rfl ?_
          refine x_iconst (pc' := 24) rfl rfl ?_
          refine x_reti rfl rfl ?_
          refine sK_i (pc' := 826) rfl ?_
          refine x_istore (pc' := 828) (ls' := [_, _, _, _, _, _, _]) rfl rfl rfl rfl ?_
          refine x_aload_n (pc' := 829) rfl rfl rfl rfl rfl ?_
          refine x_aload_n (pc' := 830) rfl rfl rfl rfl rfl ?_
          refine x_iload (pc' := 832) rfl rfl rfl ?_
          refine x_iconst (pc' := 833) rfl rfl ?_
          refine x_iadd (pc' := 834) (z := 1) rfl rfl (by decide) ?_
          refine x_iald (pc' := 835) (N := 7) (x := (io s)) rfl rfl rfl (Eq.trans rdNL (Eq.trans rdNA (z_N_29_0 e))) (io_in (p := 1) (N := 7) (by decide) (by decide)) (Eq.trans (congrArg (sA (sLw (sAw t 20 0 ((s * 3) + 1) (xs 3)) 23 0 0 (0 : Int64)) 29 0) (nn_io (p := 1) (by decide))) (Eq.trans rdAL (Eq.trans (rdA_F rfl) (Eq.trans (z_A_29_0_1 e) e0)))) ?_
          refine x_aload_n (pc' := 836) rfl rfl rfl rfl rfl ?_
          refine x_iload (pc' := 838) rfl rfl rfl ?_
          refine x_iconst (pc' := 839) rfl rfl ?_
          refine x_iadd (pc' := 840) (z := 2) rfl rfl (by decide) ?_
          refine x_iald (pc' := 841) (N := 7) (x := 1) rfl rfl rfl (Eq.trans rdNL (Eq.trans rdNA (z_N_29_0 e))) (io_in (p := 2) (N := 7) (by decide) (by decide)) (Eq.trans (congrArg (sA (sLw (sAw t 20 0 ((s * 3) + 1) (xs 3)) 23 0 0 (0 : Int64)) 29 0) (nn_io (p := 2) (by decide))) (Eq.trans rdAL (Eq.trans (rdA_F rfl) (Eq.trans (z_A_29_0_2 e) e1)))) ?_
          refine x_aload_n (pc' := 842) rfl rfl rfl rfl rfl ?_
          refine x_iload (pc' := 844) rfl rfl rfl ?_
          refine x_iconst (pc' := 845) rfl rfl ?_
          refine x_iadd (pc' := 846) (z := 3) rfl rfl (by decide) ?_
          refine x_iald (pc' := 847) (N := 7) (x := (xs 3)) rfl rfl rfl (Eq.trans rdNL (Eq.trans rdNA (z_N_29_0 e))) (io_in (p := 3) (N := 7) (by decide) (by decide)) (Eq.trans (congrArg (sA (sLw (sAw t 20 0 ((s * 3) + 1) (xs 3)) 23 0 0 (0 : Int64)) 29 0) (nn_io (p := 3) (by decide))) (Eq.trans rdAL (Eq.trans (rdA_F rfl) (z_A_29_0_3 e)))) ?_
          refine x_cv (ls0 := [_, _, _, _, sJk, sJk]) (rest := []) rfl rfl rfl rfl rfl ?_
          refine x_iload_n (pc' := 1) rfl rfl rfl ?_
          refine x_iconst (pc' := 2) rfl rfl ?_
          refine x_iconst (pc' := 3) rfl rfl ?_
          refine x_cs (ls0 := [_, _, _]) (rest := []) rfl rfl rfl rfl ?_
          refine x_iload_n (pc' := 1) rfl rfl rfl ?_
          refine x_iload_n (pc' := 2) rfl rfl rfl ?_
          refine x_icmp (a' := 14) (pc' := 5) (z := decide (s < 0)) rfl rfl rfl (ic_lt (p := s) (q := 0) (Nat.lt_trans hs (by decide)) (by decide)) (fun h => absurd (of_decide_eq_true h) (by first | decide | omega | simp)) (fun _ => ?_)
          refine x_iload_n (pc' := 6) rfl rfl rfl ?_
          refine x_iload_n (pc' := 7) rfl rfl rfl ?_
          refine x_icmp (a' := 14) (pc' := 10) (z := decide (5 < s)) rfl rfl rfl (ic_gt (p := s) (q := 5) (Nat.lt_trans hs (by decide)) (by decide)) (fun h => absurd (of_decide_eq_true h) (fun z => absurd hs (Nat.not_lt.mpr z))) (fun _ => ?_)
          refine x_iconst (pc' := 11) rfl rfl ?_
          refine x_goto (pc' := 15) rfl rfl ?_
          refine x_retz (z := true) rfl rfl ?_
          refine sK_i (pc' := 6) rfl ?_
          refine x_if (a' := 20) (pc' := 9) (z := false) rfl rfl rfl (by decide) (fun h => by cases h) (fun _ => ?_)
          refine x_iload_n (pc' := 10) rfl rfl rfl ?_
          refine x_cs (ls0 := [_]) (rest := []) rfl rfl rfl rfl ?_
          refine x_iload_n (pc' := 1) rfl rfl rfl ?_
          refine x_iconst (pc' := 2) rfl rfl ?_
          refine x_iconst (pc' := 3) rfl rfl ?_
          refine x_cs (ls0 := [_, _, _]) (rest := []) rfl rfl rfl rfl ?_
          refine x_iload_n (pc' := 1) rfl rfl rfl ?_
          refine x_iload_n (pc' := 2) rfl rfl rfl ?_
          refine x_icmp (a' := 14) (pc' := 5) (z := false) rfl rfl rfl (by decide) (fun h => by cases h) (fun _ => ?_)
          refine x_iload_n (pc' := 6) rfl rfl rfl ?_
          refine x_iload_n (pc' := 7) rfl rfl rfl ?_
          refine x_icmp (a' := 14) (pc' := 10) (z := false) rfl rfl rfl (by decide) (fun h => by cases h) (fun _ => ?_)
          refine x_iconst (pc' := 11) rfl rfl ?_
          refine x_goto (pc' := 15) rfl rfl ?_
          refine x_retz (z := true) rfl rfl ?_
          refine sK_i (pc' := 6) rfl ?_
          refine x_retz (z := true) rfl rfl ?_
          refine sK_i (pc' := 13) rfl ?_
          refine x_if (a' := 20) (pc' := 16) (z := false) rfl rfl rfl (by decide) (fun h => by cases h) (fun _ => ?_)
          refine x_iconst (pc' := 17) rfl rfl ?_
          refine x_goto (pc' := 21) rfl rfl ?_
          refine x_istore (pc' := 23) (ls' := [_, _, _, _, _, _]) rfl rfl rfl rfl ?_
          refine x_aload_n (pc' := 24) rfl rfl rfl rfl rfl ?_
          refine x_iload (pc' := 26) rfl rfl rfl ?_
          refine x_if (a' := 33) (pc' := 29) (z := true) rfl rfl rfl (by decide) (fun _ => ?_) (fun h => by cases h)
          refine x_iload_n (pc' := 34) rfl rfl rfl ?_
          refine x_sipush (pc' := 37) rfl rfl ?_
          refine x_sipush (pc' := 40) rfl rfl ?_
          refine x_cs (ls0 := [_, _, _]) (rest := [_]) rfl rfl rfl rfl ?_
          refine x_iload_n (pc' := 1) rfl rfl rfl ?_
          refine x_iload_n (pc' := 2) rfl rfl rfl ?_
          refine x_icmp (a' := 14) (pc' := 5) (z := decide ((xs 3) < (-500))) rfl rfl rfl rfl (fun h => absurd (of_decide_eq_true h) (of_decide_eq_false q7)) (fun _ => ?_)
          refine x_iload_n (pc' := 6) rfl rfl rfl ?_
          refine x_iload_n (pc' := 7) rfl rfl rfl ?_
          refine x_icmp (a' := 14) (pc' := 10) (z := decide (500 < (xs 3))) rfl rfl rfl rfl (fun h => absurd (of_decide_eq_true h) (of_decide_eq_false q22)) (fun _ => ?_)
          refine x_iconst (pc' := 11) rfl rfl ?_
          refine x_goto (pc' := 15) rfl rfl ?_
          refine x_retz (z := true) rfl rfl ?_
          refine sK_i (pc' := 43) rfl ?_
          refine x_if (a' := 50) (pc' := 46) (z := false) rfl rfl rfl (by decide) (fun h => by cases h) (fun _ => ?_)
          refine x_iconst (pc' := 47) rfl rfl ?_
          refine x_goto (pc' := 51) rfl rfl ?_
          refine x_cv (ls0 := [_, _]) (rest := []) rfl rfl rfl rfl rfl ?_
          refine x_aload_n (pc' := 1) rfl rfl rfl rfl rfl ?_
          refine x_iload_n (pc' := 2) rfl rfl rfl ?_
          refine x_pI (pc' := 5) rfl rfl rfl ?_
          refine x_iload_n (pc' := 6) rfl rfl rfl ?_
          refine x_if (a' := 13) (pc' := 9) (z := false) rfl rfl rfl (by decide) (fun h => by cases h) (fun _ => ?_)
          refine x_iconst (pc' := 10) rfl rfl ?_
          refine x_goto (pc' := 14) rfl rfl ?_
          refine x_retz (z := true) rfl rfl ?_
          refine sK_i (pc' := 54) rfl ?_
          refine x_if (a' := 59) (pc' := 57) (z := true) rfl rfl rfl (by decide) (fun _ => ?_) (fun h => by cases h)
          refine x_aload_n (pc' := 60) rfl rfl rfl rfl rfl ?_
          refine x_gR (pc' := 63) (r := (some 11)) rfl rfl rfl (Eq.trans rdRI (Eq.trans rdRL (Eq.trans rdRA (z_R_783_0 e)))) ?_
          refine x_iconst (pc' := 64) rfl rfl ?_
          refine x_iload_n (pc' := 65) rfl rfl rfl ?_
          refine x_imul (pc' := 66) (z := (io (3 * s))) rfl rfl (io_mul 3 s) ?_
          refine x_iload_n (pc' := 67) rfl rfl rfl ?_
          refine x_iadd (pc' := 68) (z := (io ((3 * s) + 1))) rfl rfl (io_add (3 * s) 1) ?_
          refine x_iald (pc' := 69) (N := 18) (x := 0) rfl rfl rfl (Eq.trans rdNI (Eq.trans rdNL (Eq.trans rdNA (z_N_21_11 e)))) (io_in (p := ((3 * s) + 1)) (N := 18) (show ((3 * s) + 1) < 18 by omega) (by decide)) (Eq.trans (congrArg (sA (sIw (sLw (sAw t 20 0 ((s * 3) + 1) (xs 3)) 23 0 0 (0 : Int64)) 768 0 0) 21 11) (nn_io (p := ((3 * s) + 1)) (Nat.lt_trans (show ((3 * s) + 1) < 18 by omega) (by decide)))) (Eq.trans rdAI (Eq.trans rdAL (Eq.trans (rdA_F rfl) (z_A_21_11_y e _))))) ?_
          refine x_istore (pc' := 71) (ls' := [_, _, _, _, _, _]) rfl rfl rfl rfl ?_
          refine x_aload_n (pc' := 72) rfl rfl rfl rfl rfl ?_
          refine x_gR (pc' := 75) (r := (some 11)) rfl rfl rfl (Eq.trans rdRI (Eq.trans rdRL (Eq.trans rdRA (z_R_783_0 e)))) ?_
          refine x_iconst (pc' := 76) rfl rfl ?_
          refine x_iload_n (pc' := 77) rfl rfl rfl ?_
          refine x_imul (pc' := 78) (z := (io (3 * s))) rfl rfl (io_mul 3 s) ?_
          refine x_iload_n (pc' := 79) rfl rfl rfl ?_
          refine x_iadd (pc' := 80) (z := (io ((3 * s) + 1))) rfl rfl (io_add (3 * s) 1) ?_
          refine x_iload_n (pc' := 81) rfl rfl rfl ?_
          refine x_iast (pc' := 82) (N := 18) (p := ((3 * s) + 1)) rfl rfl rfl (Eq.trans rdNI (Eq.trans rdNL (Eq.trans rdNA (z_N_21_11 e)))) (io_in (p := ((3 * s) + 1)) (N := 18) (show ((3 * s) + 1) < 18 by omega) (by decide)) (nn_io (p := ((3 * s) + 1)) (Nat.lt_trans (show ((3 * s) + 1) < 18 by omega) (by decide))) ?_
          refine x_iload (pc' := 84) rfl rfl rfl ?_
          refine x_reti rfl rfl ?_
          refine sK_i (pc' := 850) rfl ?_
          refine x_istore (pc' := 852) (ls' := [_, _, _, _, _, _, _]) rfl rfl rfl rfl ?_
          refine x_aload_n (pc' := 853) rfl rfl rfl rfl rfl ?_
          refine x_cv (ls0 := [_]) (rest := []) rfl rfl rfl rfl rfl ?_
          refine x_aload_n (pc' := 1) rfl rfl rfl rfl rfl ?_
          refine x_gI (pc' := 4) (x := 0) rfl rfl rfl (Eq.trans rdIA sI_s) ?_
          refine x_reti rfl rfl ?_
          refine sK_i (pc' := 856) rfl ?_
          refine x_iload (pc' := 858) rfl rfl rfl ?_
          refine x_icmp (a' := 863) (pc' := 861) (z := true) rfl rfl rfl (by decide) (fun _ => ?_) (fun h => by cases h)
          refine x_iload (pc' := 865) rfl rfl rfl ?_
          refine x_if (a' := 880) (pc' := 868) (z := false) rfl rfl rfl (by decide) (fun h => by cases h) (fun _ => ?_)
          refine x_aload_n (pc' := 869) rfl rfl rfl rfl rfl ?_
          refine x_iconst (pc' := 870) rfl rfl ?_
          refine x_lald (pc' := 871) (N := 1) (x := (0 : Int64)) rfl rfl (Eq.trans rdNA (Eq.trans rdNI (Eq.trans rdNL (Eq.trans rdNA (z_N_23_0 e))))) (io_in (p := 0) (N := 1) (by decide) (by decide)) (Eq.trans (congrArg (sL (sAw (sIw (sLw (sAw t 20 0 ((s * 3) + 1) (xs 3)) 23 0 0 (0 : Int64)) 768 0 0) 21 11 ((3 * s) + 1) (xs 3)) 23 0) (nn_io (p := 0) (by decide))) (Eq.trans rdLA (Eq.trans rdLI sL_s))) ?_
          refine x_iload (pc' := 873) rfl rfl rfl ?_
          refine x_i2l (pc' := 874) (z := (0 : Int64)) rfl rfl (by decide) ?_
          refine x_lcmp (pc' := 875) (z := 0) rfl rfl (sLcmp_s _) ?_
          refine x_if (a' := 880) (pc' := 878) (z := true) rfl rfl rfl (by decide) (fun _ => ?_) (fun h => by cases h)
          refine x_goto (pc' := 2938) rfl rfl ?_
          refine x_iinc (pc' := 2941) (y := 7) (ls' := [_, _, _, _, _, _, _]) rfl rfl rfl rfl rfl ?_
          refine x_goto (pc' := 23) rfl rfl ?_
          refine x_iload (pc' := 25) rfl rfl rfl ?_
          refine x_aload_n (pc' := 26) rfl rfl rfl rfl rfl ?_
          refine x_alen (pc' := 27) (N := 7) rfl rfl rfl (Eq.trans rdNA (Eq.trans rdNI (Eq.trans rdNL (Eq.trans rdNA (z_N_29_0 e))))) (?_ : X _ _ _ (.inl 7 :: _) _ _)
          refine x_bipush (pc' := 29) rfl rfl ?_
          refine x_isub (pc' := 30) (z := 0) rfl rfl (by decide) ?_
          refine x_icmp (a' := 2944) (pc' := 33) (z := true) rfl rfl rfl (by decide) (fun _ => ?_) (fun h => by cases h)
          refine x_iconst (pc' := 2945) rfl rfl ?_
          refine x_retz (z := true) rfl rfl ?_
          exact Qp_ok e (p := 0) (q := 0) rfl rfl rfl rfl
      refine x_icmp_n (a' := 28) (pc' := 19) (z := decide (((s * 3) + 1) < 18)) rfl rfl rfl (ic_gen (p := ((s * 3) + 1)) (q := 18) (show ((s * 3) + 1) < 2 ^ 31 by omega) (by decide)) (fun q24 => ?_) (fun q24 => ?_)
      · refine x_iconst (pc' := 29) rfl rfl ?_
        ((try rw [q24] at J24); (try rw [q24]); (try simp only [cd_t, cd_f, nt_t, nt_f, an_t, an_f, or_t, or_f] at J24); (try simp only [cd_t, cd_f, nt_t, nt_f, an_t, an_f, or_t, or_f]); exact J24)
      · refine x_aload_n (pc' := 20) rfl rfl rfl rfl rfl ?_
        refine x_gR (pc' := 23) (r := (some 0)) rfl rfl rfl (z_R_323_0 e) ?_
        refine x_iload_n (pc' := 24) rfl rfl rfl ?_
        refine x_iald (pc' := 25) (N := 18) (x := 0) rfl rfl rfl (z_N_20_0 e) (io_in (p := ((s * 3) + 1)) (N := 18) (of_decide_eq_true q24) (by decide)) (Eq.trans (congrArg (sA t 20 0) (nn_io (p := ((s * 3) + 1)) (Nat.lt_trans (of_decide_eq_true q24) (by decide)))) (z_A_20_0_y e _)) ?_
        refine x_goto (pc' := 29) rfl rfl ?_
        ((try rw [q24] at J24); (try rw [q24]); (try simp only [cd_t, cd_f, nt_t, nt_f, an_t, an_f, or_t, or_f] at J24); (try simp only [cd_t, cd_f, nt_t, nt_f, an_t, an_f, or_t, or_f]); exact J24)
    · refine x_throw rfl rfl ?_
      refine sK_n (by decide +kernel) rfl ?_
      refine sK_h (h := 19) (by decide +kernel) rfl ?_
      refine x_catch (pc' := 21) (ls' := [_, _, _, _, _, _]) rfl rfl rfl rfl ?_
      refine x_iconst (pc' := 22) rfl rfl ?_
      refine x_reti rfl rfl ?_
      refine sK_i (pc' := 826) rfl ?_
      refine x_istore (pc' := 828) (ls' := [_, _, _, _, _, _, _]) rfl rfl rfl rfl ?_
      refine x_aload_n (pc' := 829) rfl rfl rfl rfl rfl ?_
      refine x_aload_n (pc' := 830) rfl rfl rfl rfl rfl ?_
      refine x_iload (pc' := 832) rfl rfl rfl ?_
      refine x_iconst (pc' := 833) rfl rfl ?_
      refine x_iadd (pc' := 834) (z := 1) rfl rfl (by decide) ?_
      refine x_iald (pc' := 835) (N := 7) (x := (io s)) rfl rfl rfl (Eq.trans rdNthr (z_N_29_0 e)) (io_in (p := 1) (N := 7) (by decide) (by decide)) (Eq.trans (congrArg (sA (sThr t) 29 0) (nn_io (p := 1) (by decide))) (Eq.trans rdAthr (Eq.trans (z_A_29_0_1 e) e0))) ?_
      refine x_aload_n (pc' := 836) rfl rfl rfl rfl rfl ?_
      refine x_iload (pc' := 838) rfl rfl rfl ?_
      refine x_iconst (pc' := 839) rfl rfl ?_
      refine x_iadd (pc' := 840) (z := 2) rfl rfl (by decide) ?_
      refine x_iald (pc' := 841) (N := 7) (x := 1) rfl rfl rfl (Eq.trans rdNthr (z_N_29_0 e)) (io_in (p := 2) (N := 7) (by decide) (by decide)) (Eq.trans (congrArg (sA (sThr t) 29 0) (nn_io (p := 2) (by decide))) (Eq.trans rdAthr (Eq.trans (z_A_29_0_2 e) e1))) ?_
      refine x_aload_n (pc' := 842) rfl rfl rfl rfl rfl ?_
      refine x_iload (pc' := 844) rfl rfl rfl ?_
      refine x_iconst (pc' := 845) rfl rfl ?_
      refine x_iadd (pc' := 846) (z := 3) rfl rfl (by decide) ?_
      refine x_iald (pc' := 847) (N := 7) (x := (xs 3)) rfl rfl rfl (Eq.trans rdNthr (z_N_29_0 e)) (io_in (p := 3) (N := 7) (by decide) (by decide)) (Eq.trans (congrArg (sA (sThr t) 29 0) (nn_io (p := 3) (by decide))) (Eq.trans rdAthr (z_A_29_0_3 e))) ?_
      refine x_cv (ls0 := [_, _, _, _, sJk, sJk]) (rest := []) rfl rfl rfl rfl rfl ?_
      refine x_iload_n (pc' := 1) rfl rfl rfl ?_
      refine x_iconst (pc' := 2) rfl rfl ?_
      refine x_iconst (pc' := 3) rfl rfl ?_
      refine x_cs (ls0 := [_, _, _]) (rest := []) rfl rfl rfl rfl ?_
      refine x_iload_n (pc' := 1) rfl rfl rfl ?_
      refine x_iload_n (pc' := 2) rfl rfl rfl ?_
      refine x_icmp (a' := 14) (pc' := 5) (z := decide (s < 0)) rfl rfl rfl (ic_lt (p := s) (q := 0) (Nat.lt_trans hs (by decide)) (by decide)) (fun h => absurd (of_decide_eq_true h) (by first | decide | omega | simp)) (fun _ => ?_)
      refine x_iload_n (pc' := 6) rfl rfl rfl ?_
      refine x_iload_n (pc' := 7) rfl rfl rfl ?_
      refine x_icmp (a' := 14) (pc' := 10) (z := decide (5 < s)) rfl rfl rfl (ic_gt (p := s) (q := 5) (Nat.lt_trans hs (by decide)) (by decide)) (fun h => absurd (of_decide_eq_true h) (fun z => absurd hs (Nat.not_lt.mpr z))) (fun _ => ?_)
      refine x_iconst (pc' := 11) rfl rfl ?_
      refine x_goto (pc' := 15) rfl rfl ?_
      refine x_retz (z := true) rfl rfl ?_
      refine sK_i (pc' := 6) rfl ?_
      refine x_if (a' := 20) (pc' := 9) (z := false) rfl rfl rfl (by decide) (fun h => by cases h) (fun _ => ?_)
      refine x_iload_n (pc' := 10) rfl rfl rfl ?_
      refine x_cs (ls0 := [_]) (rest := []) rfl rfl rfl rfl ?_
      refine x_iload_n (pc' := 1) rfl rfl rfl ?_
      refine x_iconst (pc' := 2) rfl rfl ?_
      refine x_iconst (pc' := 3) rfl rfl ?_
      refine x_cs (ls0 := [_, _, _]) (rest := []) rfl rfl rfl rfl ?_
      refine x_iload_n (pc' := 1) rfl rfl rfl ?_
      refine x_iload_n (pc' := 2) rfl rfl rfl ?_
      refine x_icmp (a' := 14) (pc' := 5) (z := false) rfl rfl rfl (by decide) (fun h => by cases h) (fun _ => ?_)
      refine x_iload_n (pc' := 6) rfl rfl rfl ?_
      refine x_iload_n (pc' := 7) rfl rfl rfl ?_
      refine x_icmp (a' := 14) (pc' := 10) (z := false) rfl rfl rfl (by decide) (fun h => by cases h) (fun _ => ?_)
      refine x_iconst (pc' := 11) rfl rfl ?_
      refine x_goto (pc' := 15) rfl rfl ?_
      refine x_retz (z := true) rfl rfl ?_
      refine sK_i (pc' := 6) rfl ?_
      refine x_retz (z := true) rfl rfl ?_
      refine sK_i (pc' := 13) rfl ?_
      refine x_if (a' := 20) (pc' := 16) (z := false) rfl rfl rfl (by decide) (fun h => by cases h) (fun _ => ?_)
      refine x_iconst (pc' := 17) rfl rfl ?_
      refine x_goto (pc' := 21) rfl rfl ?_
      refine x_istore (pc' := 23) (ls' := [_, _, _, _, _, _]) rfl rfl rfl rfl ?_
      refine x_aload_n (pc' := 24) rfl rfl rfl rfl rfl ?_
      refine x_iload (pc' := 26) rfl rfl rfl ?_
      refine x_if (a' := 33) (pc' := 29) (z := true) rfl rfl rfl (by decide) (fun _ => ?_) (fun h => by cases h)
      refine x_iload_n (pc' := 34) rfl rfl rfl ?_
      refine x_sipush (pc' := 37) rfl rfl ?_
      refine x_sipush (pc' := 40) rfl rfl ?_
      refine x_cs (ls0 := [_, _, _]) (rest := [_]) rfl rfl rfl rfl ?_
      refine x_iload_n (pc' := 1) rfl rfl rfl ?_
      refine x_iload_n (pc' := 2) rfl rfl rfl ?_
      refine x_icmp (a' := 14) (pc' := 5) (z := decide ((xs 3) < (-500))) rfl rfl rfl rfl (fun h => absurd (of_decide_eq_true h) (of_decide_eq_false q7)) (fun _ => ?_)
      refine x_iload_n (pc' := 6) rfl rfl rfl ?_
      refine x_iload_n (pc' := 7) rfl rfl rfl ?_
      refine x_icmp (a' := 14) (pc' := 10) (z := decide (500 < (xs 3))) rfl rfl rfl rfl (fun _ => ?_) (fun h => absurd (of_decide_eq_true q22) (of_decide_eq_false h))
      refine x_iconst (pc' := 15) rfl rfl ?_
      refine x_retz (z := false) rfl rfl ?_
      refine sK_i (pc' := 43) rfl ?_
      refine x_if (a' := 50) (pc' := 46) (z := true) rfl rfl rfl (by decide) (fun _ => ?_) (fun h => by cases h)
      refine x_iconst (pc' := 51) rfl rfl ?_
      refine x_cv (ls0 := [_, _]) (rest := []) rfl rfl rfl rfl rfl ?_
      refine x_aload_n (pc' := 1) rfl rfl rfl rfl rfl ?_
      refine x_iload_n (pc' := 2) rfl rfl rfl ?_
      refine x_pI (pc' := 5) rfl rfl rfl ?_
      refine x_iload_n (pc' := 6) rfl rfl rfl ?_
      refine x_if (a' := 13) (pc' := 9) (z := true) rfl rfl rfl (by decide) (fun _ => ?_) (fun h => by cases h)
      refine x_iconst (pc' := 14) rfl rfl ?_
      refine x_retz (z := false) rfl rfl ?_
      refine sK_i (pc' := 54) rfl ?_
      refine x_if (a' := 59) (pc' := 57) (z := false) rfl rfl rfl (by decide) (fun h => by cases h) (fun _ => ?_)
      refine x_iconst (pc' := 58) rfl rfl ?_
      refine x_reti rfl rfl ?_
      refine sK_i (pc' := 850) rfl ?_
      refine x_istore (pc' := 852) (ls' := [_, _, _, _, _, _, _]) rfl rfl rfl rfl ?_
      refine x_aload_n (pc' := 853) rfl rfl rfl rfl rfl ?_
      refine x_cv (ls0 := [_]) (rest := []) rfl rfl rfl rfl rfl ?_
      refine x_aload_n (pc' := 1) rfl rfl rfl rfl rfl ?_
      refine x_gI (pc' := 4) (x := 2) rfl rfl rfl sI_s ?_
      refine x_reti rfl rfl ?_
      refine sK_i (pc' := 856) rfl ?_
      refine x_iload (pc' := 858) rfl rfl rfl ?_
      refine x_icmp (a' := 863) (pc' := 861) (z := true) rfl rfl rfl (by decide) (fun _ => ?_) (fun h => by cases h)
      refine x_iload (pc' := 865) rfl rfl rfl ?_
      refine x_if (a' := 880) (pc' := 868) (z := true) rfl rfl rfl (by decide) (fun _ => ?_) (fun h => by cases h)
      refine x_goto (pc' := 2938) rfl rfl ?_
      refine x_iinc (pc' := 2941) (y := 7) (ls' := [_, _, _, _, _, _, _]) rfl rfl rfl rfl rfl ?_
      refine x_goto (pc' := 23) rfl rfl ?_
      refine x_iload (pc' := 25) rfl rfl rfl ?_
      refine x_aload_n (pc' := 26) rfl rfl rfl rfl rfl ?_
      refine x_alen (pc' := 27) (N := 7) rfl rfl rfl (Eq.trans rdNI (Eq.trans rdNthr (z_N_29_0 e))) (?_ : X _ _ _ (.inl 7 :: _) _ _)
      refine x_bipush (pc' := 29) rfl rfl ?_
      refine x_isub (pc' := 30) (z := 0) rfl rfl (by decide) ?_
      refine x_icmp (a' := 2944) (pc' := 33) (z := true) rfl rfl rfl (by decide) (fun _ => ?_) (fun h => by cases h)
      refine x_iconst (pc' := 2945) rfl rfl ?_
      refine x_retz (z := true) rfl rfl ?_
      exact Qp_ok e (p := 1) (q := 6) rfl rfl rfl rfl
set_option maxHeartbeats 4000000 in
set_option maxRecDepth 10000 in
theorem v_9_v_2_i {t : sT} {xs : Nat → Int32} {s : Nat}
    (e : t = T16 7 xs)
    (hk : ((xs 0) &&& 63) = 9)
    (hs : s < 6)
    (e0 : xs 1 = io s)
    (e1 : xs 2 = 2) :
    X 297 23 [.inr (.inr (29, (some 0))), .inr (.inr (11, (some 0))), .inr (.inr (12, (some 0))), .inr (.inr (23, (some 0))), .inl 0, sJk, sJk] [] t Qp := by
  refine x_iload (pc' := 25) rfl rfl rfl ?_
  refine x_aload_n (pc' := 26) rfl rfl rfl rfl rfl ?_
  refine x_alen (pc' := 27) (N := 7) rfl rfl rfl (z_N_29_0 e) (?_ : X _ _ _ (.inl 7 :: _) _ _)
  refine x_bipush (pc' := 29) rfl rfl ?_
  refine x_isub (pc' := 30) (z := 0) rfl rfl (by decide) ?_
  refine x_icmp (a' := 2944) (pc' := 33) (z := false) rfl rfl rfl (by decide) (fun h => by cases h) (fun _ => ?_)
  refine x_aload_n (pc' := 34) rfl rfl rfl rfl rfl ?_
  refine x_iload (pc' := 36) rfl rfl rfl ?_
  refine x_iald (pc' := 37) (N := 7) (x := (xs 0)) rfl rfl rfl (z_N_29_0 e) (io_in (p := 0) (N := 7) (by decide) (by decide)) (Eq.trans (congrArg (sA t 29 0) (nn_io (p := 0) (by decide))) (z_A_29_0_0 e)) ?_
  refine x_bipush (pc' := 39) rfl rfl ?_
  refine x_iand (pc' := 40) (z := ((xs 0) &&& 63)) rfl rfl rfl ?_
  refine x_switch (pc' := 803) rfl (by rw [hk]; decide) ?_
  refine x_aload_n (pc' := 804) rfl rfl rfl rfl rfl ?_
  refine x_aload_n (pc' := 805) rfl rfl rfl rfl rfl ?_
  refine x_iload (pc' := 807) rfl rfl rfl ?_
  refine x_iconst (pc' := 808) rfl rfl ?_
  refine x_iadd (pc' := 809) (z := 1) rfl rfl (by decide) ?_
  refine x_iald (pc' := 810) (N := 7) (x := (io s)) rfl rfl rfl (z_N_29_0 e) (io_in (p := 1) (N := 7) (by decide) (by decide)) (Eq.trans (congrArg (sA t 29 0) (nn_io (p := 1) (by decide))) (Eq.trans (z_A_29_0_1 e) e0)) ?_
  refine x_aload_n (pc' := 811) rfl rfl rfl rfl rfl ?_
  refine x_iload (pc' := 813) rfl rfl rfl ?_
  refine x_iconst (pc' := 814) rfl rfl ?_
  refine x_iadd (pc' := 815) (z := 2) rfl rfl (by decide) ?_
  refine x_iald (pc' := 816) (N := 7) (x := 2) rfl rfl rfl (z_N_29_0 e) (io_in (p := 2) (N := 7) (by decide) (by decide)) (Eq.trans (congrArg (sA t 29 0) (nn_io (p := 2) (by decide))) (Eq.trans (z_A_29_0_2 e) e1)) ?_
  refine x_aload_n (pc' := 817) rfl rfl rfl rfl rfl ?_
  refine x_iload (pc' := 819) rfl rfl rfl ?_
  refine x_iconst (pc' := 820) rfl rfl ?_
  refine x_iadd (pc' := 821) (z := 3) rfl rfl (by decide) ?_
  refine x_iald (pc' := 822) (N := 7) (x := (xs 3)) rfl rfl rfl (z_N_29_0 e) (io_in (p := 3) (N := 7) (by decide) (by decide)) (Eq.trans (congrArg (sA t 29 0) (nn_io (p := 3) (by decide))) (z_A_29_0_3 e)) ?_
  refine x_aload_n (pc' := 823) rfl rfl rfl rfl rfl ?_
  refine x_cs (ls0 := [_, _, _, _, _, sJk]) (rest := []) rfl rfl rfl rfl ?_
  refine x_aload (pc' := 2) rfl rfl rfl rfl rfl ?_
  refine x_iconst (pc' := 3) rfl rfl ?_
  refine x_aload_n (pc' := 4) rfl rfl rfl rfl rfl ?_
  refine x_iload_n (pc' := 5) rfl rfl rfl ?_
  refine x_iload_n (pc' := 6) rfl rfl rfl ?_
  refine x_iload_n (pc' := 7) rfl rfl rfl ?_
  refine x_cv (ls0 := [_, _, _, _, sJk]) (rest := [_, _]) rfl rfl rfl rfl rfl ?_
  refine x_iload_n (pc' := 1) rfl rfl rfl ?_
  refine x_bipush (pc' := 3) rfl rfl ?_
  refine x_cs (ls0 := [_, _]) (rest := []) rfl rfl rfl rfl ?_
  refine x_iload_n (pc' := 1) rfl rfl rfl ?_
  refine x_if (a' := 9) (pc' := 4) (z := decide (s < 0)) rfl rfl rfl (ic_lt (p := s) (q := 0) (Nat.lt_trans hs (by decide)) (by decide)) (fun h => absurd (of_decide_eq_true h) (by first | decide | omega | simp)) (fun _ => ?_)
  refine x_iload_n (pc' := 5) rfl rfl rfl ?_
  refine x_iload_n (pc' := 6) rfl rfl rfl ?_
  refine x_icmp (a' := 20) (pc' := 9) (z := decide (s < 6)) rfl rfl rfl (ic_lt (p := s) (q := 6) (Nat.lt_trans hs (by decide)) (by decide)) (fun _ => ?_) (fun h => absurd (Nat.lt_of_lt_of_le hs (by decide)) (of_decide_eq_false h))
  refine x_ret rfl ?_
  refine sK_v (pc' := 6) rfl ?_
  refine x_iload_n (pc' := 7) rfl rfl rfl ?_
  refine x_iconst (pc' := 8) rfl rfl ?_
  refine x_cs (ls0 := [_, _]) (rest := []) rfl rfl rfl rfl ?_
  refine x_iload_n (pc' := 1) rfl rfl rfl ?_
  refine x_if (a' := 9) (pc' := 4) (z := false) rfl rfl rfl (by decide) (fun h => by cases h) (fun _ => ?_)
  refine x_iload_n (pc' := 5) rfl rfl rfl ?_
  refine x_iload_n (pc' := 6) rfl rfl rfl ?_
  refine x_icmp (a' := 20) (pc' := 9) (z := true) rfl rfl rfl (by decide) (fun _ => ?_) (fun h => by cases h)
  refine x_ret rfl ?_
  refine sK_v (pc' := 11) rfl ?_
  refine x_iload_n (pc' := 12) rfl rfl rfl ?_
  refine x_sipush (pc' := 15) rfl rfl ?_
  refine x_sipush (pc' := 18) rfl rfl ?_
  refine x_cs (ls0 := [_, _, _]) (rest := []) rfl rfl rfl rfl ?_
  refine x_iload_n (pc' := 1) rfl rfl rfl ?_
  refine x_iload_n (pc' := 2) rfl rfl rfl ?_
  refine x_icmp (a' := 10) (pc' := 5) (z := decide ((xs 3) < (-500))) rfl rfl rfl rfl (fun q7 => ?_) (fun q7 => ?_)
  · refine x_throw rfl rfl ?_
    refine sK_n (by decide +kernel) rfl ?_
    refine sK_h (h := 19) (by decide +kernel) rfl ?_
    refine x_catch (pc' := 21) (ls' := [_, _, _, _, _, _]) rfl rfl rfl rfl ?_
    refine x_iconst (pc' := 22) rfl rfl ?_
    refine x_reti rfl rfl ?_
    refine sK_i (pc' := 826) rfl ?_
    refine x_istore (pc' := 828) (ls' := [_, _, _, _, _, _, _]) rfl rfl rfl rfl ?_
    refine x_aload_n (pc' := 829) rfl rfl rfl rfl rfl ?_
    refine x_aload_n (pc' := 830) rfl rfl rfl rfl rfl ?_
    refine x_iload (pc' := 832) rfl rfl rfl ?_
    refine x_iconst (pc' := 833) rfl rfl ?_
    refine x_iadd (pc' := 834) (z := 1) rfl rfl (by decide) ?_
    refine x_iald (pc' := 835) (N := 7) (x := (io s)) rfl rfl rfl (Eq.trans rdNthr (z_N_29_0 e)) (io_in (p := 1) (N := 7) (by decide) (by decide)) (Eq.trans (congrArg (sA (sThr t) 29 0) (nn_io (p := 1) (by decide))) (Eq.trans rdAthr (Eq.trans (z_A_29_0_1 e) e0))) ?_
    refine x_aload_n (pc' := 836) rfl rfl rfl rfl rfl ?_
    refine x_iload (pc' := 838) rfl rfl rfl ?_
    refine x_iconst (pc' := 839) rfl rfl ?_
    refine x_iadd (pc' := 840) (z := 2) rfl rfl (by decide) ?_
    refine x_iald (pc' := 841) (N := 7) (x := 2) rfl rfl rfl (Eq.trans rdNthr (z_N_29_0 e)) (io_in (p := 2) (N := 7) (by decide) (by decide)) (Eq.trans (congrArg (sA (sThr t) 29 0) (nn_io (p := 2) (by decide))) (Eq.trans rdAthr (Eq.trans (z_A_29_0_2 e) e1))) ?_
    refine x_aload_n (pc' := 842) rfl rfl rfl rfl rfl ?_
    refine x_iload (pc' := 844) rfl rfl rfl ?_
    refine x_iconst (pc' := 845) rfl rfl ?_
    refine x_iadd (pc' := 846) (z := 3) rfl rfl (by decide) ?_
    refine x_iald (pc' := 847) (N := 7) (x := (xs 3)) rfl rfl rfl (Eq.trans rdNthr (z_N_29_0 e)) (io_in (p := 3) (N := 7) (by decide) (by decide)) (Eq.trans (congrArg (sA (sThr t) 29 0) (nn_io (p := 3) (by decide))) (Eq.trans rdAthr (z_A_29_0_3 e))) ?_
    refine x_cv (ls0 := [_, _, _, _, sJk, sJk]) (rest := []) rfl rfl rfl rfl rfl ?_
    refine x_iload_n (pc' := 1) rfl rfl rfl ?_
    refine x_iconst (pc' := 2) rfl rfl ?_
    refine x_iconst (pc' := 3) rfl rfl ?_
    refine x_cs (ls0 := [_, _, _]) (rest := []) rfl rfl rfl rfl ?_
    refine x_iload_n (pc' := 1) rfl rfl rfl ?_
    refine x_iload_n (pc' := 2) rfl rfl rfl ?_
    refine x_icmp (a' := 14) (pc' := 5) (z := decide (s < 0)) rfl rfl rfl (ic_lt (p := s) (q := 0) (Nat.lt_trans hs (by decide)) (by decide)) (fun h => absurd (of_decide_eq_true h) (by first | decide | omega | simp)) (fun _ => ?_)
    refine x_iload_n (pc' := 6) rfl rfl rfl ?_
    refine x_iload_n (pc' := 7) rfl rfl rfl ?_
    refine x_icmp (a' := 14) (pc' := 10) (z := decide (5 < s)) rfl rfl rfl (ic_gt (p := s) (q := 5) (Nat.lt_trans hs (by decide)) (by decide)) (fun h => absurd (of_decide_eq_true h) (fun z => absurd hs (Nat.not_lt.mpr z))) (fun _ => ?_)
    refine x_iconst (pc' := 11) rfl rfl ?_
    refine x_goto (pc' := 15) rfl rfl ?_
    refine x_retz (z := true) rfl rfl ?_
    refine sK_i (pc' := 6) rfl ?_
    refine x_if (a' := 20) (pc' := 9) (z := false) rfl rfl rfl (by decide) (fun h => by cases h) (fun _ => ?_)
    refine x_iload_n (pc' := 10) rfl rfl rfl ?_
    refine x_cs (ls0 := [_]) (rest := []) rfl rfl rfl rfl ?_
    refine x_iload_n (pc' := 1) rfl rfl rfl ?_
    refine x_iconst (pc' := 2) rfl rfl ?_
    refine x_iconst (pc' := 3) rfl rfl ?_
    refine x_cs (ls0 := [_, _, _]) (rest := []) rfl rfl rfl rfl ?_
    refine x_iload_n (pc' := 1) rfl rfl rfl ?_
    refine x_iload_n (pc' := 2) rfl rfl rfl ?_
    refine x_icmp (a' := 14) (pc' := 5) (z := false) rfl rfl rfl (by decide) (fun h => by cases h) (fun _ => ?_)
    refine x_iload_n (pc' := 6) rfl rfl rfl ?_
    refine x_iload_n (pc' := 7) rfl rfl rfl ?_
    refine x_icmp (a' := 14) (pc' := 10) (z := false) rfl rfl rfl (by decide) (fun h => by cases h) (fun _ => ?_)
    refine x_iconst (pc' := 11) rfl rfl ?_
    refine x_goto (pc' := 15) rfl rfl ?_
    refine x_retz (z := true) rfl rfl ?_
    refine sK_i (pc' := 6) rfl ?_
    refine x_retz (z := true) rfl rfl ?_
    refine sK_i (pc' := 13) rfl ?_
    refine x_if (a' := 20) (pc' := 16) (z := false) rfl rfl rfl (by decide) (fun h => by cases h) (fun _ => ?_)
    refine x_iconst (pc' := 17) rfl rfl ?_
    refine x_goto (pc' := 21) rfl rfl ?_
    refine x_istore (pc' := 23) (ls' := [_, _, _, _, _, _]) rfl rfl rfl rfl ?_
    refine x_aload_n (pc' := 24) rfl rfl rfl rfl rfl ?_
    refine x_iload (pc' := 26) rfl rfl rfl ?_
    refine x_if (a' := 33) (pc' := 29) (z := true) rfl rfl rfl (by decide) (fun _ => ?_) (fun h => by cases h)
    refine x_iload_n (pc' := 34) rfl rfl rfl ?_
    refine x_sipush (pc' := 37) rfl rfl ?_
    refine x_sipush (pc' := 40) rfl rfl ?_
    refine x_cs (ls0 := [_, _, _]) (rest := [_]) rfl rfl rfl rfl ?_
    refine x_iload_n (pc' := 1) rfl rfl rfl ?_
    refine x_iload_n (pc' := 2) rfl rfl rfl ?_
    refine x_icmp (a' := 14) (pc' := 5) (z := decide ((xs 3) < (-500))) rfl rfl rfl rfl (fun _ => ?_) (fun h => absurd (of_decide_eq_true q7) (of_decide_eq_false h))
    refine x_iconst (pc' := 15) rfl rfl ?_
    refine x_retz (z := false) rfl rfl ?_
    refine sK_i (pc' := 43) rfl ?_
    refine x_if (a' := 50) (pc' := 46) (z := true) rfl rfl rfl (by decide) (fun _ => ?_) (fun h => by cases h)
    refine x_iconst (pc' := 51) rfl rfl ?_
    refine x_cv (ls0 := [_, _]) (rest := []) rfl rfl rfl rfl rfl ?_
    refine x_aload_n (pc' := 1) rfl rfl rfl rfl rfl ?_
    refine x_iload_n (pc' := 2) rfl rfl rfl ?_
    refine x_pI (pc' := 5) rfl rfl rfl ?_
    refine x_iload_n (pc' := 6) rfl rfl rfl ?_
    refine x_if (a' := 13) (pc' := 9) (z := true) rfl rfl rfl (by decide) (fun _ => ?_) (fun h => by cases h)
    refine x_iconst (pc' := 14) rfl rfl ?_
    refine x_retz (z := false) rfl rfl ?_
    refine sK_i (pc' := 54) rfl ?_
    refine x_if (a' := 59) (pc' := 57) (z := false) rfl rfl rfl (by decide) (fun h => by cases h) (fun _ => ?_)
    refine x_iconst (pc' := 58) rfl rfl ?_
    refine x_reti rfl rfl ?_
    refine sK_i (pc' := 850) rfl ?_
    refine x_istore (pc' := 852) (ls' := [_, _, _, _, _, _, _]) rfl rfl rfl rfl ?_
    refine x_aload_n (pc' := 853) rfl rfl rfl rfl rfl ?_
    refine x_cv (ls0 := [_]) (rest := []) rfl rfl rfl rfl rfl ?_
    refine x_aload_n (pc' := 1) rfl rfl rfl rfl rfl ?_
    refine x_gI (pc' := 4) (x := 2) rfl rfl rfl sI_s ?_
    refine x_reti rfl rfl ?_
    refine sK_i (pc' := 856) rfl ?_
    refine x_iload (pc' := 858) rfl rfl rfl ?_
    refine x_icmp (a' := 863) (pc' := 861) (z := true) rfl rfl rfl (by decide) (fun _ => ?_) (fun h => by cases h)
    refine x_iload (pc' := 865) rfl rfl rfl ?_
    refine x_if (a' := 880) (pc' := 868) (z := true) rfl rfl rfl (by decide) (fun _ => ?_) (fun h => by cases h)
    refine x_goto (pc' := 2938) rfl rfl ?_
    refine x_iinc (pc' := 2941) (y := 7) (ls' := [_, _, _, _, _, _, _]) rfl rfl rfl rfl rfl ?_
    refine x_goto (pc' := 23) rfl rfl ?_
    refine x_iload (pc' := 25) rfl rfl rfl ?_
    refine x_aload_n (pc' := 26) rfl rfl rfl rfl rfl ?_
    refine x_alen (pc' := 27) (N := 7) rfl rfl rfl (Eq.trans rdNI (Eq.trans rdNthr (z_N_29_0 e))) (?_ : X _ _ _ (.inl 7 :: _) _ _)
    refine x_bipush (pc' := 29) rfl rfl ?_
    refine x_isub (pc' := 30) (z := 0) rfl rfl (by decide) ?_
    refine x_icmp (a' := 2944) (pc' := 33) (z := true) rfl rfl rfl (by decide) (fun _ => ?_) (fun h => by cases h)
    refine x_iconst (pc' := 2945) rfl rfl ?_
    refine x_retz (z := true) rfl rfl ?_
    exact Qp_ok e (p := 1) (q := 6) rfl rfl rfl rfl
  · refine x_iload_n (pc' := 6) rfl rfl rfl ?_
    refine x_iload_n (pc' := 7) rfl rfl rfl ?_
    refine x_icmp_n (a' := 21) (pc' := 10) (z := decide (500 < (xs 3))) rfl rfl rfl (ik_le _ _) (fun q22 => ?_) (fun q22 => ?_)
    · refine x_ret rfl ?_
      refine sK_v (pc' := 21) rfl ?_
      refine x_aload_n (pc' := 22) rfl rfl rfl rfl rfl ?_
      refine x_gR (pc' := 25) (r := (some 0)) rfl rfl rfl (z_R_704_0 e) ?_
      refine x_iload_n (pc' := 26) rfl rfl rfl ?_
      refine x_iload_n (pc' := 27) rfl rfl rfl ?_
      refine x_cv (ls0 := [_, _, _, sJk]) (rest := []) rfl rfl rfl rfl rfl ?_
      refine x_iload_n (pc' := 1) rfl rfl rfl ?_
      refine x_iconst (pc' := 2) rfl rfl ?_
      refine x_imul (pc' := 3) (z := (io (s * 3))) rfl rfl (io_mul s 3) ?_
      refine x_iload_n (pc' := 4) rfl rfl rfl ?_
      refine x_iadd (pc' := 5) (z := (io ((s * 3) + 2))) rfl rfl (io_add (s * 3) 2) ?_
      refine x_istore_n (pc' := 6) (ls' := [_, _, _, _]) rfl rfl rfl rfl ?_
      refine x_iload_n (pc' := 7) rfl rfl rfl ?_
      refine x_if (a' := 28) (pc' := 10) (z := decide (((s * 3) + 2) < 0)) rfl rfl rfl (ic_lt (p := ((s * 3) + 2)) (q := 0) (show ((s * 3) + 2) < 2 ^ 31 by omega) (by decide)) (fun h => absurd (of_decide_eq_true h) (by first | decide | omega | simp)) (fun _ => ?_)
      refine x_iload_n (pc' := 11) rfl rfl rfl ?_
      refine x_aload_n (pc' := 12) rfl rfl rfl rfl rfl ?_
      refine x_gR (pc' := 15) (r := (some 0)) rfl rfl rfl (z_R_323_0 e) ?_
      refine x_alen (pc' := 16) (N := 18) rfl rfl rfl (z_N_20_0 e) (?_ : X _ _ _ (.inl 18 :: _) _ _)
      have J24 : X 43 29 [.inr (.inr (5, (some 0))), .inl (io s), .inl 2, .inl (io ((s * 3) + 2))] [.inl 0] t (sK 43 93 27 [.inr (.inr (11, (some 0))), .inl (io s), .inl 2, .inl (xs 3), sJk] [] (sK 93 268 7 [.inr (.inr (11, (some 0))), .inl (io s), .inl 2, .inl (xs 3), .inr (.inr (23, (some 0))), sJk] [.inl 0, .inr (.inr (23, (some 0)))] (sK 268 297 823 [.inr (.inr (29, (some 0))), .inr (.inr (11, (some 0))), .inr (.inr (12, (some 0))), .inr (.inr (23, (some 0))), .inl 0, sJk, sJk] [] Qp))) := by
        refine x_reti rfl rfl ?_
        refine sK_i (pc' := 30) rfl ?_
        refine x_istore (pc' := 32) (ls' := [_, _, _, _, _]) rfl rfl rfl rfl ?_
        refine x_aload_n (pc' := 33) rfl rfl rfl rfl rfl ?_
        refine x_gR (pc' := 36) (r := (some 0)) rfl rfl rfl (z_R_704_0 e) ?_
        refine x_iload_n (pc' := 37) rfl rfl rfl ?_
        refine x_iload_n (pc' := 38) rfl rfl rfl ?_
        refine x_iload_n (pc' := 39) rfl rfl rfl ?_
        refine x_cv (ls0 := [_, _, _, _, sJk]) (rest := []) rfl rfl rfl rfl rfl ?_
        refine x_iload_n (pc' := 1) rfl rfl rfl ?_
        refine x_iconst (pc' := 2) rfl rfl ?_
        refine x_imul (pc' := 3) (z := (io (s * 3))) rfl rfl (io_mul s 3) ?_
        refine x_iload_n (pc' := 4) rfl rfl rfl ?_
        refine x_iadd (pc' := 5) (z := (io ((s * 3) + 2))) rfl rfl (io_add (s * 3) 2) ?_
        refine x_istore (pc' := 7) (ls' := [_, _, _, _, _]) rfl rfl rfl rfl ?_
        refine x_iload (pc' := 9) rfl rfl rfl ?_
        refine x_if (a' := 30) (pc' := 12) (z := decide (((s * 3) + 2) < 0)) rfl rfl rfl (ic_lt (p := ((s * 3) + 2)) (q := 0) (show ((s * 3) + 2) < 2 ^ 31 by omega) (by decide)) (fun h => absurd (of_decide_eq_true h) (by first | decide | omega | simp)) (fun _ => ?_)
        refine x_iload (pc' := 14) rfl rfl rfl ?_
        refine x_aload_n (pc' := 15) rfl rfl rfl rfl rfl ?_
        refine x_gR (pc' := 18) (r := (some 0)) rfl rfl rfl (z_R_323_0 e) ?_
        refine x_alen (pc' := 19) (N := 18) rfl rfl rfl (z_N_20_0 e) (?_ : X _ _ _ (.inl 18 :: _) _ _)
        refine x_icmp_n (a' := 30) (pc' := 22) (z := decide (((s * 3) + 2) < 18)) rfl rfl rfl (ic_gen (p := ((s * 3) + 2)) (q := 18) (show ((s * 3) + 2) < 2 ^ 31 by omega) (by decide)) (fun q27 => ?_) (fun q27 => ?_)
        · refine x_ret rfl ?_
          refine sK_v (pc' := 42) rfl ?_
          refine x_iload (pc' := 44) rfl rfl rfl ?_
          refine x_reti rfl rfl ?_
          refine sK_i (pc' := 10) rfl ?_
          refine x_i2l (pc' := 11) (z := (0 : Int64)) rfl rfl (by decide) ?_
          refine x_last (pc' := 12) (N := 1) (p := 0) rfl rfl (z_N_23_0 e) (io_in (p := 0) (N := 1) (by decide) (by decide)) (nn_io (p := 0) (by decide)) ?_
          refine x_goto (pc' := 23) rfl rfl ?_
          refine x_iconst (pc' := 24) rfl rfl ?_
          refine x_reti rfl rfl ?_
          refine sK_i (pc' := 826) rfl ?_
          refine x_istore (pc' := 828) (ls' := [_, _, _, _, _, _, _]) rfl rfl rfl rfl ?_
          refine x_aload_n (pc' := 829) rfl rfl rfl rfl rfl ?_
          refine x_aload_n (pc' := 830) rfl rfl rfl rfl rfl ?_
          refine x_iload (pc' := 832) rfl rfl rfl ?_
          refine x_iconst (pc' := 833) rfl rfl ?_
          refine x_iadd (pc' := 834) (z := 1) rfl rfl (by decide) ?_
          refine x_iald (pc' := 835) (N := 7) (x := (io s)) rfl rfl rfl (Eq.trans rdNL (z_N_29_0 e)) (io_in (p := 1) (N := 7) (by decide) (by decide)) (Eq.trans (congrArg (sA (sLw t 23 0 0 (0 : Int64)) 29 0) (nn_io (p := 1) (by decide))) (Eq.trans rdAL (Eq.trans (z_A_29_0_1 e) e0))) ?_
          refine x_aload_n (pc' := 836) rfl rfl rfl rfl rfl ?_
          refine x_iload (pc' := 838) rfl rfl rfl ?_
          refine x_iconst (pc' := 839) rfl rfl ?_
          refine x_iadd (pc' := 840) (z := 2) rfl rfl (by decide) ?_
          refine x_iald (pc' := 841) (N := 7) (x := 2) rfl rfl rfl (Eq.trans rdNL (z_N_29_0 e)) (io_in (p := 2) (N := 7) (by decide) (by decide)) (Eq.trans (congrArg (sA (sLw t 23 0 0 (0 : Int64)) 29 0) (nn_io (p := 2) (by decide))) (Eq.trans rdAL (Eq.trans (z_A_29_0_2 e) e1))) ?_
          refine x_aload_n (pc' := 842) rfl rfl rfl rfl rfl ?_
          refine x_iload (pc' := 844) rfl rfl rfl ?_
          refine x_iconst (pc' := 845) rfl rfl ?_
          refine x_iadd (pc' := 846) (z := 3) rfl rfl (by decide) ?_
          refine x_iald (pc' := 847) (N := 7) (x := (xs 3)) rfl rfl rfl (Eq.trans rdNL (z_N_29_0 e)) (io_in (p := 3) (N := 7) (by decide) (by decide)) (Eq.trans (congrArg (sA (sLw t 23 0 0 (0 : Int64)) 29 0) (nn_io (p := 3) (by decide))) (Eq.trans rdAL (z_A_29_0_3 e))) ?_
          refine x_cv (ls0 := [_, _, _, _, sJk, sJk]) (rest := []) rfl rfl rfl rfl rfl ?_
          refine x_iload_n (pc' := 1) rfl rfl rfl ?_
          refine x_iconst (pc' := 2) rfl rfl ?_
          refine x_iconst (pc' := 3) rfl rfl ?_
          refine x_cs (ls0 := [_, _, _]) (rest := []) rfl rfl rfl rfl ?_
          refine x_iload_n (pc' := 1) rfl rfl rfl ?_
          refine x_iload_n (pc' := 2) rfl rfl rfl ?_
          refine x_icmp (a' := 14) (pc' := 5) (z := decide (s < 0)) rfl rfl rfl (ic_lt (p := s) (q := 0) (Nat.lt_trans hs (by decide)) (by decide)) (fun h => absurd (of_decide_eq_true h) (by first | decide | omega | simp)) (fun _ => ?_)
          refine x_iload_n (pc' := 6) rfl rfl rfl ?_
          refine x_iload_n (pc' := 7) rfl rfl rfl ?_
          refine x_icmp (a' := 14) (pc' := 10) (z := decide (5 < s)) rfl rfl rfl (ic_gt (p := s) (q := 5) (Nat.lt_trans hs (by decide)) (by decide)) (fun h => absurd (of_decide_eq_true h) (fun z => absurd hs (Nat.not_lt.mpr z))) (fun _ => ?_)
          refine x_iconst (pc' := 11) rfl rfl ?_
          refine x_goto (pc' := 15) rfl rfl ?_
          refine x_retz (z := true) rfl rfl ?_
          refine sK_i (pc' := 6) rfl ?_
          refine x_if (a' := 20) (pc' := 9) (z := false) rfl rfl rfl (by decide) (fun h => by cases h) (fun _ => ?_)
          refine x_iload_n (pc' := 10) rfl rfl rfl ?_
          refine x_cs (ls0 := [_]) (rest := []) rfl rfl rfl rfl ?_
          refine x_iload_n (pc' := 1) rfl rfl rfl ?_
          refine x_iconst (pc' := 2) rfl rfl ?_
          refine x_iconst (pc' := 3) rfl rfl ?_
          refine x_cs (ls0 := [_, _, _]) (rest := []) rfl rfl rfl rfl ?_
          refine x_iload_n (pc' := 1) rfl rfl rfl ?_
          refine x_iload_n (pc' := 2) rfl rfl rfl ?_
          refine x_icmp (a' := 14) (pc' := 5) (z := false) rfl rfl rfl (by decide) (fun h => by cases h) (fun _ => ?_)
          refine x_iload_n (pc' := 6) rfl rfl rfl ?_
          refine x_iload_n (pc' := 7) rfl rfl rfl ?_
          refine x_icmp (a' := 14) (pc' := 10) (z := false) rfl rfl rfl (by decide) (fun h => by cases h) (fun _ => ?_)
          refine x_iconst (pc' := 11) rfl rfl ?_
          refine x_goto (pc' := 15) rfl rfl ?_
          refine x_retz (z := true) rfl rfl ?_
          refine sK_i (pc' := 6) rfl ?_
          refine x_retz (z := true) rfl rfl ?_
          refine sK_i (pc' := 13) rfl ?_
          refine x_if (a' := 20) (pc' := 16) (z := false) rfl rfl rfl (by decide) (fun h => by cases h) (fun _ => ?_)
          refine x_iconst (pc' := 17) rfl rfl ?_
          refine x_goto (pc' := 21) rfl rfl ?_
          refine x_istore (pc' := 23) (ls' := [_, _, _, _, _, _]) rfl rfl rfl rfl ?_
          refine x_aload_n (pc' := 24) rfl rfl rfl rfl rfl ?_
          refine x_iload (pc' := 26) rfl rfl rfl ?_
          refine x_if (a' := 33) (pc' := 29) (z := true) rfl rfl rfl (by decide) (fun _ => ?_) (fun h => by cases h)
          refine x_iload_n (pc' := 34) rfl rfl rfl ?_
          refine x_sipush (pc' := 37) rfl rfl ?_
          refine x_sipush (pc' := 40) rfl rfl ?_
          refine x_cs (ls0 := [_, _, _]) (rest := [_]) rfl rfl rfl rfl ?_
          refine x_iload_n (pc' := 1) rfl rfl rfl ?_
          refine x_iload_n (pc' := 2) rfl rfl rfl ?_
          refine x_icmp (a' := 14) (pc' := 5) (z := decide ((xs 3) < (-500))) rfl rfl rfl rfl (fun h => absurd (of_decide_eq_true h) (of_decide_eq_false q7)) (fun _ => ?_)
          refine x_iload_n (pc' := 6) rfl rfl rfl ?_
          refine x_iload_n (pc' := 7) rfl rfl rfl ?_
          refine x_icmp (a' := 14) (pc' := 10) (z := decide (500 < (xs 3))) rfl rfl rfl rfl (fun h => absurd (of_decide_eq_true h) (of_decide_eq_false q22)) (fun _ => ?_)
          refine x_iconst (pc' := 11) rfl rfl ?_
          refine x_goto (pc' := 15) rfl rfl ?_
          refine x_retz (z := true) rfl rfl ?_
          refine sK_i (pc' := 43) rfl ?_
          refine x_if (a' := 50) (pc' := 46) (z := false) rfl rfl rfl (by decide) (fun h => by cases h) (fun _ => ?_)
          refine x_iconst (pc' := 47) rfl rfl ?_
          refine x_goto (pc' := 51) rfl rfl ?_
          refine x_cv (ls0 := [_, _]) (rest := []) rfl rfl rfl rfl rfl ?_
          refine x_aload_n (pc' := 1) rfl rfl rfl rfl rfl ?_
          refine x_iload_n (pc' := 2) rfl rfl rfl ?_
          refine x_pI (pc' := 5) rfl rfl rfl ?_
          refine x_iload_n (pc' := 6) rfl rfl rfl ?_
          refine x_if (a' := 13) (pc' := 9) (z := false) rfl rfl rfl (by decide) (fun h => by cases h) (fun _ => ?_)
          refine x_iconst (pc' := 10) rfl rfl ?_
          refine x_goto (pc' := 14) rfl rfl ?_
          refine x_retz (z := true) rfl rfl ?_
          refine sK_i (pc' := 54) rfl ?_
          refine x_if (a' := 59) (pc' := 57) (z := true) rfl rfl rfl (by decide) (fun _ => ?_) (fun h => by cases h)
          refine x_aload_n (pc' := 60) rfl rfl rfl rfl rfl ?_
          refine x_gR (pc' := 63) (r := (some 11)) rfl rfl rfl (Eq.trans rdRI (Eq.trans rdRL (z_R_783_0 e))) ?_
          refine x_iconst (pc' := 64) rfl rfl ?_
          refine x_iload_n (pc' := 65) rfl rfl rfl ?_
          refine x_imul (pc' := 66) (z := (io (3 * s))) rfl rfl (io_mul 3 s) ?_
          refine x_iload_n (pc' := 67) rfl rfl rfl ?_
          refine x_iadd (pc' := 68) (z := (io ((3 * s) + 2))) rfl rfl (io_add (3 * s) 2) ?_
          refine x_iald (pc' := 69) (N := 18) (x := 0) rfl rfl rfl (Eq.trans rdNI (Eq.trans rdNL (z_N_21_11 e))) (io_in (p := ((3 * s) + 2)) (N := 18) (show ((3 * s) + 2) < 18 by omega) (by decide)) (Eq.trans (congrArg (sA (sIw (sLw t 23 0 0 (0 : Int64)) 768 0 0) 21 11) (nn_io (p := ((3 * s) + 2)) (Nat.lt_trans (show ((3 * s) + 2) < 18 by omega) (by decide)))) (Eq.trans rdAI (Eq.trans rdAL (z_A_21_11_y e _)))) ?_
          refine x_istore (pc' := 71) (ls' := [_, _, _, _, _, _]) rfl rfl rfl rfl ?_
          refine x_aload_n (pc' := 72) rfl rfl rfl rfl rfl ?_
          refine x_gR (pc' := 75) (r := (some 11)) rfl rfl rfl (Eq.trans rdRI (Eq.trans rdRL (z_R_783_0 e))) ?_
          refine x_iconst (pc' := 76) rfl rfl ?_
          refine x_iload_n (pc' := 77) rfl rfl rfl ?_
          refine x_imul (pc' := 78) (z := (io (3 * s))) rfl rfl (io_mul 3 s) ?_
          refine x_iload_n (pc' := 79) rfl rfl rfl ?_
          refine x_iadd (pc' := 80) (z := (io ((3 * s) + 2))) rfl rfl (io_add (3 * s) 2) ?_
          refine x_iload_n (pc' := 81) rfl rfl rfl ?_
          refine x_iast (pc' := 82) (N := 18) (p := ((3 * s) + 2)) rfl rfl rfl (Eq.trans rdNI (Eq.trans rdNL (z_N_21_11 e))) (io_in (p := ((3 * s) + 2)) (N := 18) (show ((3 * s) + 2) < 18 by omega) (by decide)) (nn_io (p := ((3 * s) + 2)) (Nat.lt_trans (show ((3 * s) + 2) < 18 by omega) (by decide))) ?_
          refine x_iload (pc' := 84) rfl rfl rfl ?_
          refine x_reti rfl rfl ?_
          refine sK_i (pc' := 850) rfl ?_
          refine x_istore (pc' := 852) (ls' := [_, _, _, _, _, _, _]) rfl rfl rfl rfl ?_
          refine x_aload_n (pc' := 853) rfl rfl rfl rfl rfl ?_
          refine x_cv (ls0 := [_]) (rest := []) rfl rfl rfl rfl rfl ?_
          refine x_aload_n (pc' := 1) rfl rfl rfl rfl rfl ?_
          refine x_gI (pc' := 4) (x := 0) rfl rfl rfl (Eq.trans rdIA sI_s) ?_
          refine x_reti rfl rfl ?_
          refine sK_i (pc' := 856) rfl ?_
          refine x_iload (pc' := 858) rfl rfl rfl ?_
          refine x_icmp (a' := 863) (pc' := 861) (z := true) rfl rfl rfl (by decide) (fun _ => ?_) (fun h => by cases h)
          refine x_iload (pc' := 865) rfl rfl rfl ?_
          refine x_if (a' := 880) (pc' := 868) (z := false) rfl rfl rfl (by decide) (fun h => by cases h) (fun _ => ?_)
          refine x_aload_n (pc' := 869) rfl rfl rfl rfl rfl ?_
          refine x_iconst (pc' := 870) rfl rfl ?_
          refine x_lald (pc' := 871) (N := 1) (x := (0 : Int64)) rfl rfl (Eq.trans rdNA (Eq.trans rdNI (Eq.trans rdNL (z_N_23_0 e)))) (io_in (p := 0) (N := 1) (by decide) (by decide)) (Eq.trans (congrArg (sL (sAw (sIw (sLw t 23 0 0 (0 : Int64)) 768 0 0) 21 11 ((3 * s) + 2) (xs 3)) 23 0) (nn_io (p := 0) (by decide))) (Eq.trans rdLA (Eq.trans rdLI sL_s))) ?_
          refine x_iload (pc' := 873) rfl rfl rfl ?_
          refine x_i2l (pc' := 874) (z := (0 : Int64)) rfl rfl (by decide) ?_
          refine x_lcmp (pc' := 875) (z := 0) rfl rfl (sLcmp_s _) ?_
          refine x_if (a' := 880) (pc' := 878) (z := true) rfl rfl rfl (by decide) (fun _ => ?_) (fun h => by cases h)
          refine x_goto (pc' := 2938) rfl rfl ?_
          refine x_iinc (pc' := 2941) (y := 7) (ls' := [_, _, _, _, _, _, _]) rfl rfl rfl rfl rfl ?_
          refine x_goto (pc' := 23) rfl rfl ?_
          refine x_iload (pc' := 25) rfl rfl rfl ?_
          refine x_aload_n (pc' := 26) rfl rfl rfl rfl rfl ?_
          refine x_alen (pc' := 27) (N := 7) rfl rfl rfl (Eq.trans rdNA (Eq.trans rdNI (Eq.trans rdNL (z_N_29_0 e)))) (?_ : X _ _ _ (.inl 7 :: _) _ _)
          refine x_bipush (pc' := 29) rfl rfl ?_
          refine x_isub (pc' := 30) (z := 0) rfl rfl (by decide) ?_
          refine x_icmp (a' := 2944) (pc' := 33) (z := true) rfl rfl rfl (by decide) (fun _ => ?_) (fun h => by cases h)
          refine x_iconst (pc' := 2945) rfl rfl ?_
          refine x_retz (z := true) rfl rfl ?_
          exact Qp_ok e (p := 0) (q := 0) rfl rfl rfl rfl
        · refine x_aload_n (pc' := 23) rfl rfl rfl rfl rfl ?_
          refine x_gR (pc' := 26) (r := (some 0)) rfl rfl rfl (z_R_323_0 e) ?_
          refine x_iload (pc' := 28) rfl rfl rfl ?_
          refine x_iload_n (pc' := 29) rfl rfl rfl ?_
          refine x_iast (pc' := 30) (N := 18) (p := ((s * 3) + 2)) rfl rfl rfl (z_N_20_0 e) (io_in (p := ((s * 3) + 2)) (N := 18) (of_decide_eq_true q27) (by decide)) (nn_io (p := ((s * 3) + 2)) (Nat.lt_trans (of_decide_eq_true q27) (by decide))) ?_
          refine x_ret rfl ?_
          refine sK_v (pc' := 42) rfl ?_
          refine x_iload (pc' := 44) rfl rfl rfl ?_
          refine x_reti rfl rfl ?_
          refine sK_i (pc' := 10) rfl ?_
          refine x_i2l (pc' := 11) (z := (0 : Int64)) rfl rfl (by decide) ?_
          refine x_last (pc' := 12) (N := 1) (p := 0) rfl rfl (Eq.trans rdNA (z_N_23_0 e)) (io_in (p := 0) (N := 1) (by decide) (by decide)) (nn_io (p := 0) (by decide)) ?_
          refine x_goto (pc' := 23) rfl rfl ?_
          refine x_iconst (pc' := 24) rfl rfl ?_
          refine x_reti rfl rfl ?_
          refine sK_i (pc' := 826) rfl ?_
          refine x_istore (pc' := 828) (ls' := [_, _, _, _, _, _, _]) rfl rfl rfl rfl ?_
          refine x_aload_n (pc' := 829) rfl rfl rfl rfl rfl ?_
          refine x_aload_n (pc' := 830) rfl rfl rfl rfl rfl ?_
          refine x_iload (pc' := 832) rfl rfl rfl ?_
          refine x_iconst (pc' := 833) rfl rfl ?_
          refine x_iadd (pc' := 834) (z := 1) rfl rfl (by decide) ?_
          refine x_iald (pc' := 835) (N := 7) (x := (io s)) rfl rfl rfl (Eq.trans rdNL (Eq.trans rdNA (z_N_29_0 e))) (io_in (p := 1) (N := 7) (by decide) (by decide)) (Eq.trans (congrArg (sA (sLw (sAw t 20 0 ((s * 3) + 2) (xs 3)) 23 0 0 (0 : Int64)) 29 0) (nn_io (p := 1) (by decide))) (Eq.trans rdAL (Eq.trans (rdA_F rfl) (Eq.trans (z_A_29_0_1 e) e0)))) ?_
          refine x_aload_n (pc' := 836) rfl rfl rfl rfl rfl ?_
          refine x_iload (pc' := 838) rfl rfl rfl ?_
          refine x_iconst (pc' := 839) rfl rfl ?_
          refine x_iadd (pc' := 840) (z := 2) rfl rfl (by decide) ?_
          refine x_iald (pc' := 841) (N := 7) (x := 2) rfl rfl rfl (Eq.trans rdNL (Eq.trans rdNA (z_N_29_0 e))) (io_in (p := 2) (N := 7) (by decide) (by decide)) (Eq.trans (congrArg (sA (sLw (sAw t 20 0 ((s * 3) + 2) (xs 3)) 23 0 0 (0 : Int64)) 29 0) (nn_io (p := 2) (by decide))) (Eq.trans rdAL (Eq.trans (rdA_F rfl) (Eq.trans (z_A_29_0_2 e) e1)))) ?_
          refine x_aload_n (pc' := 842) rfl rfl rfl rfl rfl ?_
          refine x_iload (pc' := 844) rfl rfl rfl ?_
          refine x_iconst (pc' := 845) rfl rfl ?_
          refine x_iadd (pc' := 846) (z := 3) rfl rfl (by decide) ?_
          refine x_iald (pc' := 847) (N := 7) (x := (xs 3)) rfl rfl rfl (Eq.trans rdNL (Eq.trans rdNA (z_N_29_0 e))) (io_in (p := 3) (N := 7) (by decide) (by decide)) (Eq.trans (congrArg (sA (sLw (sAw t 20 0 ((s * 3) + 2) (xs 3)) 23 0 0 (0 : Int64)) 29 0) (nn_io (p := 3) (by decide))) (Eq.trans rdAL (Eq.trans (rdA_F rfl) (z_A_29_0_3 e)))) ?_
          refine x_cv (ls0 := [_, _, _, _, sJk, sJk]) (rest := []) rfl rfl rfl rfl rfl ?_
          refine x_iload_n (pc' := 1) rfl rfl rfl ?_
          refine x_iconst (pc' := 2) rfl rfl ?_
          refine x_iconst (pc' := 3) rfl rfl ?_
          refine x_cs (ls0 := [_, _, _]) (rest := []) rfl rfl rfl rfl ?_
          refine x_iload_n (pc' := 1) rfl rfl rfl ?_
          refine x_iload_n (pc' := 2) rfl rfl rfl ?_
          refine x_icmp (a' := 14) (pc' := 5) (z := decide (s < 0)) rfl rfl rfl (ic_lt (p := s) (q := 0) (Nat.lt_trans hs (by decide)) (by decide)) (fun h => absurd (of_decide_eq_true h) (by first | decide | omega | simp)) (fun _ => ?_)
          refine x_iload_n (pc' := 6) rfl rfl rfl ?_
          refine x_iload_n (pc' := 7) rfl rfl rfl ?_
          refine x_icmp (a' := 14) (pc' := 10) (z := decide (5 < s)) rfl rfl rfl (ic_gt (p := s) (q := 5) (Nat.lt_trans hs (by decide)) (by decide)) (fun h => absurd (of_decide_eq_true h) (fun z => absurd hs (Nat.not_lt.mpr z))) (fun _ => ?_)
          refine x_iconst (pc' := 11) rfl rfl ?_
          refine x_goto (pc' := 15) rfl rfl ?_
          refine x_retz (z := true) rfl rfl ?_
          refine sK_i (pc' := 6) rfl ?_
          refine x_if (a' := 20) (pc' := 9) (z := false) rfl rfl rfl (by decide) (fun h => by cases h) (fun _ => ?_)
          refine x_iload_n (pc' := 10) rfl rfl rfl ?_
          refine x_cs (ls0 := [_]) (rest := []) rfl rfl rfl rfl ?_
          refine x_iload_n (pc' := 1) rfl rfl rfl ?_
          refine x_iconst (pc' := 2) rfl rfl ?_
          refine x_iconst (pc' := 3) rfl rfl ?_
          refine x_cs (ls0 := [_, _, _]) (rest := []) rfl rfl rfl rfl ?_
          refine x_iload_n (pc' := 1) rfl rfl rfl ?_
          refine x_iload_n (pc' := 2) rfl rfl rfl ?_
          refine x_icmp (a' := 14) (pc' := 5) (z := false) rfl rfl rfl (by decide) (fun h => by cases h) (fun _ => ?_)
          refine x_iload_n (pc' := 6) rfl rfl rfl ?_
          refine x_iload_n (pc' := 7) rfl rfl rfl ?_
          refine x_icmp (a' := 14) (pc' := 10) (z := false) rfl rfl rfl (by decide) (fun h => by cases h) (fun _ => ?_)
          refine x_iconst (pc' := 11) rfl rfl ?_
          refine x_goto (pc' := 15) rfl rfl ?_
          refine x_retz (z := true) rfl rfl ?_
          refine sK_i (pc' := 6) rfl ?_
          refine x_retz (z := true) rfl rfl ?_
          refine sK_i (pc' := 13) rfl ?_
          refine x_if (a' := 20) (pc' := 16) (z := false) rfl rfl rfl (by decide) (fun h => by cases h) (fun _ => ?_)
          refine x_iconst (pc' := 17) rfl rfl ?_
          refine x_goto (pc' := 21) rfl rfl ?_
          refine x_istore (pc' := 23) (ls' := [_, _, _, _, _, _]) rfl rfl rfl rfl ?_
          refine x_aload_n (pc' := 24) rfl rfl rfl rfl rfl ?_
          refine x_iload (pc' := 26) rfl rfl rfl ?_
          refine x_if (a' := 33) (pc' := 29) (z := true) rfl rfl rfl (by decide) (fun _ => ?_) (fun h => by cases h)
          refine x_iload_n (pc' := 34) rfl rfl rfl ?_
          refine x_sipush (pc' := 37) rfl rfl ?_
          refine x_sipush (pc' := 40) rfl rfl ?_
          refine x_cs (ls0 := [_, _, _]) (rest := [_]) rfl rfl rfl rfl ?_
          refine x_iload_n (pc' := 1) rfl rfl rfl ?_
          refine x_iload_n (pc' := 2) rfl rfl rfl ?_
          refine x_icmp (a' := 14) (pc' := 5) (z := decide ((xs 3) < (-500))) rfl rfl rfl rfl (fun h => absurd (of_decide_eq_true h) (of_decide_eq_false q7)) (fun _ => ?_)
          refine x_iload_n (pc' := 6) rfl rfl rfl ?_
          refine x_iload_n (pc' := 7) rfl rfl rfl ?_
          refine x_icmp (a' := 14) (pc' := 10) (z := decide (500 < (xs 3))) rfl rfl rfl rfl (fun h => absurd (of_decide_eq_true h) (of_decide_eq_false q22)) (fun _ => ?_)
          refine x_iconst (pc' := 11) rfl rfl ?_
          refine x_goto (pc' := 15) rfl rfl ?_
          refine x_retz (z := true) rfl rfl ?_
          refine sK_i (pc' := 43) rfl ?_
          refine x_if (a' := 50) (pc' := 46) (z := false) rfl rfl rfl (by decide) (fun h => by cases h) (fun _ => ?_)
          refine x_iconst (pc' := 47) rfl rfl ?_
          refine x_goto (pc' := 51) rfl rfl ?_
          refine x_cv (ls0 := [_, _]) (rest := []) rfl rfl rfl rfl rfl ?_
          refine x_aload_n (pc' := 1) rfl rfl rfl rfl rfl ?_
          refine x_iload_n (pc' := 2) rfl rfl rfl ?_
          refine x_pI (pc' := 5) rfl rfl rfl ?_
          refine x_iload_n (pc' := 6) rfl rfl rfl ?_
          refine x_if (a' := 13) (pc' := 9) (z := false) rfl rfl rfl (by decide) (fun h => by cases h) (fun _ => ?_)
          refine x_iconst (pc' := 10) rfl rfl ?_
          refine x_goto (pc' := 14) rfl rfl ?_
          refine x_retz (z := true) rfl rfl ?_
          refine sK_i (pc' := 54) rfl ?_
          refine x_if (a' := 59) (pc' := 57) (z := true) rfl rfl rfl (by decide) (fun _ => ?_) (fun h => by cases h)
          refine x_aload_n (pc' := 60) rfl rfl rfl rfl rfl ?_
          refine x_gR (pc' := 63) (r := (some 11)) rfl rfl rfl (Eq.trans rdRI (Eq.trans rdRL (Eq.trans rdRA (z_R_783_0 e)))) ?_
          refine x_iconst (pc' := 64) rfl rfl ?_
          refine x_iload_n (pc' := 65) rfl rfl rfl ?_
          refine x_imul (pc' := 66) (z := (io (3 * s))) rfl rfl (io_mul 3 s) ?_
          refine x_iload_n (pc' := 67) rfl rfl rfl ?_
          refine x_iadd (pc' := 68) (z := (io ((3 * s) + 2))) rfl rfl (io_add (3 * s) 2) ?_
          refine x_iald (pc' := 69) (N := 18) (x := 0) rfl rfl rfl (Eq.trans rdNI (Eq.trans rdNL (Eq.trans rdNA (z_N_21_11 e)))) (io_in (p := ((3 * s) + 2)) (N := 18) (show ((3 * s) + 2) < 18 by omega) (by decide)) (Eq.trans (congrArg (sA (sIw (sLw (sAw t 20 0 ((s * 3) + 2) (xs 3)) 23 0 0 (0 : Int64)) 768 0 0) 21 11) (nn_io (p := ((3 * s) + 2)) (Nat.lt_trans (show ((3 * s) + 2) < 18 by omega) (by decide)))) (Eq.trans rdAI (Eq.trans rdAL (Eq.trans (rdA_F rfl) (z_A_21_11_y e _))))) ?_
          refine x_istore (pc' := 71) (ls' := [_, _, _, _, _, _]) rfl rfl rfl rfl ?_
          refine x_aload_n (pc' := 72) rfl rfl rfl rfl rfl ?_
          refine x_gR (pc' := 75) (r := (some 11)) rfl rfl rfl (Eq.trans rdRI (Eq.trans rdRL (Eq.trans rdRA (z_R_783_0 e)))) ?_
          refine x_iconst (pc' := 76) rfl rfl ?_
          refine x_iload_n (pc' := 77) rfl rfl rfl ?_
          refine x_imul (pc' := 78) (z := (io (3 * s))) rfl rfl (io_mul 3 s) ?_
          refine x_iload_n (pc' := 79) rfl rfl rfl ?_
          refine x_iadd (pc' := 80) (z := (io ((3 * s) + 2))) rfl rfl (io_add (3 * s) 2) ?_
          refine x_iload_n (pc' := 81) rfl rfl rfl ?_
          refine x_iast (pc' := 82) (N := 18) (p := ((3 * s) + 2)) rfl rfl rfl (Eq.trans rdNI (Eq.trans rdNL (Eq.trans rdNA (z_N_21_11 e)))) (io_in (p := ((3 * s) + 2)) (N := 18) (show ((3 * s) + 2) < 18 by omega) (by decide)) (nn_io (p := ((3 * s) + 2)) (Nat.lt_trans (show ((3 * s) + 2) < 18 by omega) (by decide))) ?_
          refine x_iload (pc' := 84) rfl rfl rfl ?_
          refine x_reti rfl rfl ?_
          refine sK_i (pc' := 850) rfl ?_
          refine x_istore (pc' := 852) (ls' := [_, _, _, _, _, _, _]) rfl rfl rfl rfl ?_
          refine x_aload_n (pc' := 853) rfl rfl rfl rfl rfl ?_
          refine x_cv (ls0 := [_]) (rest := []) rfl rfl rfl rfl rfl ?_
          refine x_aload_n (pc' := 1) rfl rfl rfl rfl rfl ?_
          refine x_gI (pc' := 4) (x := 0) rfl rfl rfl (Eq.trans rdIA sI_s) ?_
          refine x_reti rfl rfl ?_
          refine sK_i (pc' := 856) rfl ?_
          refine x_iload (pc' := 858) rfl rfl rfl ?_
          refine x_icmp (a' := 863) (pc' := 861) (z := true) rfl rfl rfl (by decide) (fun _ => ?_) (fun h => by cases h)
          refine x_iload (pc' := 865) rfl rfl rfl ?_
          refine x_if (a' := 880) (pc' := 868) (z := false) rfl rfl rfl (by decide) (fun h => by cases h) (fun _ => ?_)
          refine x_aload_n (pc' := 869) rfl rfl rfl rfl rfl ?_
          refine x_iconst (pc' := 870) rfl rfl ?_
          refine x_lald (pc' := 871) (N := 1) (x := (0 : Int64)) rfl rfl (Eq.trans rdNA (Eq.trans rdNI (Eq.trans rdNL (Eq.trans rdNA (z_N_23_0 e))))) (io_in (p := 0) (N := 1) (by decide) (by decide)) (Eq.trans (congrArg (sL (sAw (sIw (sLw (sAw t 20 0 ((s * 3) + 2) (xs 3)) 23 0 0 (0 : Int64)) 768 0 0) 21 11 ((3 * s) + 2) (xs 3)) 23 0) (nn_io (p := 0) (by decide))) (Eq.trans rdLA (Eq.trans rdLI sL_s))) ?_
          refine x_iload (pc' := 873) rfl rfl rfl ?_
          refine x_i2l (pc' := 874) (z := (0 : Int64)) rfl rfl (by decide) ?_
          refine x_lcmp (pc' := 875) (z := 0) rfl rfl (sLcmp_s _) ?_
          refine x_if (a' := 880) (pc' := 878) (z := true) rfl rfl rfl (by decide) (fun _ => ?_) (fun h => by cases h)
          refine x_goto (pc' := 2938) rfl rfl ?_
          refine x_iinc (pc' := 2941) (y := 7) (ls' := [_, _, _, _, _, _, _]) rfl rfl rfl rfl rfl ?_
          refine x_goto (pc' := 23) rfl rfl ?_
          refine x_iload (pc' := 25) rfl rfl rfl ?_
          refine x_aload_n (pc' := 26) rfl rfl rfl rfl rfl ?_
          refine x_alen (pc' := 27) (N := 7) rfl rfl rfl (Eq.trans rdNA (Eq.trans rdNI (Eq.trans rdNL (Eq.trans rdNA (z_N_29_0 e))))) (?_ : X _ _ _ (.inl 7 :: _) _ _)
          refine x_bipush (pc' := 29) rfl rfl ?_
          refine x_isub (pc' := 30) (z := 0) rfl rfl (by decide) ?_
          refine x_icmp (a' := 2944) (pc' := 33) (z := true) rfl rfl rfl (by decide) (fun _ => ?_) (fun h => by cases h)
          refine x_iconst (pc' := 2945) rfl rfl ?_
          refine x_retz (z := true) rfl rfl ?_
          exact Qp_ok e (p := 0) (q := 0) rfl rfl rfl rfl
      refine x_icmp_n (a' := 28) (pc' := 19) (z := decide (((s * 3) + 2) < 18)) rfl rfl rfl (ic_gen (p := ((s * 3) + 2)) (q := 18) (show ((s * 3) + 2) < 2 ^ 31 by omega) (by decide)) (fun q24 => ?_) (fun q24 => ?_)
      · refine x_iconst (pc' := 29) rfl rfl ?_
        ((try rw [q24] at J24); (try rw [q24]); (try simp only [cd_t, cd_f, nt_t, nt_f, an_t, an_f, or_t, or_f] at J24); (try simp only [cd_t, cd_f, nt_t, nt_f, an_t, an_f, or_t, or_f]); exact J24)
      · refine x_aload_n (pc' := 20) rfl rfl rfl rfl rfl ?_
        refine x_gR (pc' := 23) (r := (some 0)) rfl rfl rfl (z_R_323_0 e) ?_
        refine x_iload_n (pc' := 24) rfl rfl rfl ?_
        refine x_iald (pc' := 25) (N := 18) (x := 0) rfl rfl rfl (z_N_20_0 e) (io_in (p := ((s * 3) + 2)) (N := 18) (of_decide_eq_true q24) (by decide)) (Eq.trans (congrArg (sA t 20 0) (nn_io (p := ((s * 3) + 2)) (Nat.lt_trans (of_decide_eq_true q24) (by decide)))) (z_A_20_0_y e _)) ?_
        refine x_goto (pc' := 29) rfl rfl ?_
        ((try rw [q24] at J24); (try rw [q24]); (try simp only [cd_t, cd_f, nt_t, nt_f, an_t, an_f, or_t, or_f] at J24); (try simp only [cd_t, cd_f, nt_t, nt_f, an_t, an_f, or_t, or_f]); exact J24)
    · refine x_throw rfl rfl ?_
      refine sK_n (by decide +kernel) rfl ?_
      refine sK_h (h := 19) (by decide +kernel) rfl ?_
      refine x_catch (pc' := 21) (ls' := [_, _, _, _, _, _]) rfl rfl rfl rfl ?_
      refine x_iconst (pc' := 22) rfl rfl ?_
      refine x_reti rfl rfl ?_
      refine sK_i (pc' := 826) rfl ?_
      refine x_istore (pc' := 828) (ls' := [_, _, _, _, _, _, _]) rfl rfl rfl rfl ?_
      refine x_aload_n (pc' := 829) rfl rfl rfl rfl rfl ?_
      refine x_aload_n (pc' := 830) rfl rfl rfl rfl rfl ?_
      refine x_iload (pc' := 832) rfl rfl rfl ?_
      refine x_iconst (pc' := 833) rfl rfl ?_
      refine x_iadd (pc' := 834) (z := 1) rfl rfl (by decide) ?_
      refine x_iald (pc' := 835) (N := 7) (x := (io s)) rfl rfl rfl (Eq.trans rdNthr (z_N_29_0 e)) (io_in (p := 1) (N := 7) (by decide) (by decide)) (Eq.trans (congrArg (sA (sThr t) 29 0) (nn_io (p := 1) (by decide))) (Eq.trans rdAthr (Eq.trans (z_A_29_0_1 e) e0))) ?_
      refine x_aload_n (pc' := 836) rfl rfl rfl rfl rfl ?_
      refine x_iload (pc' := 838) rfl rfl rfl ?_
      refine x_iconst (pc' := 839) rfl rfl ?_
      refine x_iadd (pc' := 840) (z := 2) rfl rfl (by decide) ?_
      refine x_iald (pc' := 841) (N := 7) (x := 2) rfl rfl rfl (Eq.trans rdNthr (z_N_29_0 e)) (io_in (p := 2) (N := 7) (by decide) (by decide)) (Eq.trans (congrArg (sA (sThr t) 29 0) (nn_io (p := 2) (by decide))) (Eq.trans rdAthr (Eq.trans (z_A_29_0_2 e) e1))) ?_
      refine x_aload_n (pc' := 842) rfl rfl rfl rfl rfl ?_
      refine x_iload (pc' := 844) rfl rfl rfl ?_
      refine x_iconst (pc' := 845) rfl rfl ?_
      refine x_iadd (pc' := 846) (z := 3) rfl rfl (by decide) ?_
      refine x_iald (pc' := 847) (N := 7) (x := (xs 3)) rfl rfl rfl (Eq.trans rdNthr (z_N_29_0 e)) (io_in (p := 3) (N := 7) (by decide) (by decide)) (Eq.trans (congrArg (sA (sThr t) 29 0) (nn_io (p := 3) (by decide))) (Eq.trans rdAthr (z_A_29_0_3 e))) ?_
      refine x_cv (ls0 := [_, _, _, _, sJk, sJk]) (rest := []) rfl rfl rfl rfl rfl ?_
      refine x_iload_n (pc' := 1) rfl rfl rfl ?_
      refine x_iconst (pc' := 2) rfl rfl ?_
      refine x_iconst (pc' := 3) rfl rfl ?_
      refine x_cs (ls0 := [_, _, _]) (rest := []) rfl rfl rfl rfl ?_
      refine x_iload_n (pc' := 1) rfl rfl rfl ?_
      refine x_iload_n (pc' := 2) rfl rfl rfl ?_
      refine x_icmp (a' := 14) (pc' := 5) (z := decide (s < 0)) rfl rfl rfl (ic_lt (p := s) (q := 0) (Nat.lt_trans hs (by decide)) (by decide)) (fun h => absurd (of_decide_eq_true h) (by first | decide | omega | simp)) (fun _ => ?_)
      refine x_iload_n (pc' := 6) rfl rfl rfl ?_
      refine x_iload_n (pc' := 7) rfl rfl rfl ?_
      refine x_icmp (a' := 14) (pc' := 10) (z := decide (5 < s)) rfl rfl rfl (ic_gt (p := s) (q := 5) (Nat.lt_trans hs (by decide)) (by decide)) (fun h => absurd (of_decide_eq_true h) (fun z => absurd hs (Nat.not_lt.mpr z))) (fun _ => ?_)
      refine x_iconst (pc' := 11) rfl rfl ?_
      refine x_goto (pc' := 15) rfl rfl ?_
      refine x_retz (z := true) rfl rfl ?_
      refine sK_i (pc' := 6) rfl ?_
      refine x_if (a' := 20) (pc' := 9) (z := false) rfl rfl rfl (by decide) (fun h => by cases h) (fun _ => ?_)
      refine x_iload_n (pc' := 10) rfl rfl rfl ?_
      refine x_cs (ls0 := [_]) (rest := []) rfl rfl rfl rfl ?_
      refine x_iload_n (pc' := 1) rfl rfl rfl ?_
      refine x_iconst (pc' := 2) rfl rfl ?_
      refine x_iconst (pc' := 3) rfl rfl ?_
      refine x_cs (ls0 := [_, _, _]) (rest := []) rfl rfl rfl rfl ?_
      refine x_iload_n (pc' := 1) rfl rfl rfl ?_
      refine x_iload_n (pc' := 2) rfl rfl rfl ?_
      refine x_icmp (a' := 14) (pc' := 5) (z := false) rfl rfl rfl (by decide) (fun h => by cases h) (fun _ => ?_)
      refine x_iload_n (pc' := 6) rfl rfl rfl ?_
      refine x_iload_n (pc' := 7) rfl rfl rfl ?_
      refine x_icmp (a' := 14) (pc' := 10) (z := false) rfl rfl rfl (by decide) (fun h => by cases h) (fun _ => ?_)
      refine x_iconst (pc' := 11) rfl rfl ?_
      refine x_goto (pc' := 15) rfl rfl ?_
      refine x_retz (z := true) rfl rfl ?_
      refine sK_i (pc' := 6) rfl ?_
      refine x_retz (z := true) rfl rfl ?_
      refine sK_i (pc' := 13) rfl ?_
      refine x_if (a' := 20) (pc' := 16) (z := false) rfl rfl rfl (by decide) (fun h => by cases h) (fun _ => ?_)
      refine x_iconst (pc' := 17) rfl rfl ?_
      refine x_goto (pc' := 21) rfl rfl ?_
      refine x_istore (pc' := 23) (ls' := [_, _, _, _, _, _]) rfl rfl rfl rfl ?_
      refine x_aload_n (pc' := 24) rfl rfl rfl rfl rfl ?_
      refine x_iload (pc' := 26) rfl rfl rfl ?_
      refine x_if (a' := 33) (pc' := 29) (z := true) rfl rfl rfl (by decide) (fun _ => ?_) (fun h => by cases h)
      refine x_iload_n (pc' := 34) rfl rfl rfl ?_
      refine x_sipush (pc' := 37) rfl rfl ?_
      refine x_sipush (pc' := 40) rfl rfl ?_
      refine x_cs (ls0 := [_, _, _]) (rest := [_]) rfl rfl rfl rfl ?_
      refine x_iload_n (pc' := 1) rfl rfl rfl ?_
      refine x_iload_n (pc' := 2) rfl rfl rfl ?_
      refine x_icmp (a' := 14) (pc' := 5) (z := decide ((xs 3) < (-500))) rfl rfl rfl rfl (fun h => absurd (of_decide_eq_true h) (of_decide_eq_false q7)) (fun _ => ?_)
      refine x_iload_n (pc' := 6) rfl rfl rfl ?_
      refine x_iload_n (pc' := 7) rfl rfl rfl ?_
      refine x_icmp (a' := 14) (pc' := 10) (z := decide (500 < (xs 3))) rfl rfl rfl rfl (fun _ => ?_) (fun h => absurd (of_decide_eq_true q22) (of_decide_eq_false h))
      refine x_iconst (pc' := 15) rfl rfl ?_
      refine x_retz (z := false) rfl rfl ?_
      refine sK_i (pc' := 43) rfl ?_
      refine x_if (a' := 50) (pc' := 46) (z := true) rfl rfl rfl (by decide) (fun _ => ?_) (fun h => by cases h)
      refine x_iconst (pc' := 51) rfl rfl ?_
      refine x_cv (ls0 := [_, _]) (rest := []) rfl rfl rfl rfl rfl ?_
      refine x_aload_n (pc' := 1) rfl rfl rfl rfl rfl ?_
      refine x_iload_n (pc' := 2) rfl rfl rfl ?_
      refine x_pI (pc' := 5) rfl rfl rfl ?_
      refine x_iload_n (pc' := 6) rfl rfl rfl ?_
      refine x_if (a' := 13) (pc' := 9) (z := true) rfl rfl rfl (by decide) (fun _ => ?_) (fun h => by cases h)
      refine x_iconst (pc' := 14) rfl rfl ?_
      refine x_retz (z := false) rfl rfl ?_
      refine sK_i (pc' := 54) rfl ?_
      refine x_if (a' := 59) (pc' := 57) (z := false) rfl rfl rfl (by decide) (fun h => by cases h) (fun _ => ?_)
      refine x_iconst (pc' := 58) rfl rfl ?_
      refine x_reti rfl rfl ?_
      refine sK_i (pc' := 850) rfl ?_
      refine x_istore (pc' := 852) (ls' := [_, _, _, _, _, _, _]) rfl rfl rfl rfl ?_
      refine x_aload_n (pc' := 853) rfl rfl rfl rfl rfl ?_
      refine x_cv (ls0 := [_]) (rest := []) rfl rfl rfl rfl rfl ?_
      refine x_aload_n (pc' := 1) rfl rfl rfl rfl rfl ?_
      refine x_gI (pc' := 4) (x := 2) rfl rfl rfl sI_s ?_
      refine x_reti rfl rfl ?_
      refine sK_i (pc' := 856) rfl ?_
      refine x_iload (pc' := 858) rfl rfl rfl ?_
      refine x_icmp (a' := 863) (pc' := 861) (z := true) rfl rfl rfl (by decide) (fun _ => ?_) (fun h => by cases h)
      refine x_iload (pc' := 865) rfl rfl rfl ?_
      refine x_if (a' := 880) (pc' := 868) (z := true) rfl rfl rfl (by decide) (fun _ => ?_) (fun h => by cases h)
      refine x_goto (pc' := 2938) rfl rfl ?_
      refine x_iinc (pc' := 2941) (y := 7) (ls' := [_, _, _, _, _, _, _]) rfl rfl rfl rfl rfl ?_
      refine x_goto (pc' := 23) rfl rfl ?_
      refine x_iload (pc' := 25) rfl rfl rfl ?_
      refine x_aload_n (pc' := 26) rfl rfl rfl rfl rfl ?_
      refine x_alen (pc' := 27) (N := 7) rfl rfl rfl (Eq.trans rdNI (Eq.trans rdNthr (z_N_29_0 e))) (?_ : X _ _ _ (.inl 7 :: _) _ _)
      refine x_bipush (pc' := 29) rfl rfl ?_
      refine x_isub (pc' := 30) (z := 0) rfl rfl (by decide) ?_
      refine x_icmp (a' := 2944) (pc' := 33) (z := true) rfl rfl rfl (by decide) (fun _ => ?_) (fun h => by cases h)
      refine x_iconst (pc' := 2945) rfl rfl ?_
      refine x_retz (z := true) rfl rfl ?_
      exact Qp_ok e (p := 1) (q := 6) rfl rfl rfl rfl
set_option maxHeartbeats 4000000 in
set_option maxRecDepth 10000 in
theorem v_9_v_A_i {t : sT} {xs : Nat → Int32} {s : Nat}
    (e : t = T16 7 xs)
    (hk : ((xs 0) &&& 63) = 9)
    (hs : s < 6)
    (e0 : xs 1 = io s)
    (e1 : (xs 2) < 0) :
    X 297 23 [.inr (.inr (29, (some 0))), .inr (.inr (11, (some 0))), .inr (.inr (12, (some 0))), .inr (.inr (23, (some 0))), .inl 0, sJk, sJk] [] t Qp := by
  refine x_iload (pc' := 25) rfl rfl rfl ?_
  refine x_aload_n (pc' := 26) rfl rfl rfl rfl rfl ?_
  refine x_alen (pc' := 27) (N := 7) rfl rfl rfl (z_N_29_0 e) (?_ : X _ _ _ (.inl 7 :: _) _ _)
  refine x_bipush (pc' := 29) rfl rfl ?_
  refine x_isub (pc' := 30) (z := 0) rfl rfl (by decide) ?_
  refine x_icmp (a' := 2944) (pc' := 33) (z := false) rfl rfl rfl (by decide) (fun h => by cases h) (fun _ => ?_)
  refine x_aload_n (pc' := 34) rfl rfl rfl rfl rfl ?_
  refine x_iload (pc' := 36) rfl rfl rfl ?_
  refine x_iald (pc' := 37) (N := 7) (x := (xs 0)) rfl rfl rfl (z_N_29_0 e) (io_in (p := 0) (N := 7) (by decide) (by decide)) (Eq.trans (congrArg (sA t 29 0) (nn_io (p := 0) (by decide))) (z_A_29_0_0 e)) ?_
  refine x_bipush (pc' := 39) rfl rfl ?_
  refine x_iand (pc' := 40) (z := ((xs 0) &&& 63)) rfl rfl rfl ?_
  refine x_switch (pc' := 803) rfl (by rw [hk]; decide) ?_
  refine x_aload_n (pc' := 804) rfl rfl rfl rfl rfl ?_
  refine x_aload_n (pc' := 805) rfl rfl rfl rfl rfl ?_
  refine x_iload (pc' := 807) rfl rfl rfl ?_
  refine x_iconst (pc' := 808) rfl rfl ?_
  refine x_iadd (pc' := 809) (z := 1) rfl rfl (by decide) ?_
  refine x_iald (pc' := 810) (N := 7) (x := (io s)) rfl rfl rfl (z_N_29_0 e) (io_in (p := 1) (N := 7) (by decide) (by decide)) (Eq.trans (congrArg (sA t 29 0) (nn_io (p := 1) (by decide))) (Eq.trans (z_A_29_0_1 e) e0)) ?_
  refine x_aload_n (pc' := 811) rfl rfl rfl rfl rfl ?_
  refine x_iload (pc' := 813) rfl rfl rfl ?_
  refine x_iconst (pc' := 814) rfl rfl ?_
  refine x_iadd (pc' := 815) (z := 2) rfl rfl (by decide) ?_
  refine x_iald (pc' := 816) (N := 7) (x := (xs 2)) rfl rfl rfl (z_N_29_0 e) (io_in (p := 2) (N := 7) (by decide) (by decide)) (Eq.trans (congrArg (sA t 29 0) (nn_io (p := 2) (by decide))) (z_A_29_0_2 e)) ?_
  refine x_aload_n (pc' := 817) rfl rfl rfl rfl rfl ?_
  refine x_iload (pc' := 819) rfl rfl rfl ?_
  refine x_iconst (pc' := 820) rfl rfl ?_
  refine x_iadd (pc' := 821) (z := 3) rfl rfl (by decide) ?_
  refine x_iald (pc' := 822) (N := 7) (x := (xs 3)) rfl rfl rfl (z_N_29_0 e) (io_in (p := 3) (N := 7) (by decide) (by decide)) (Eq.trans (congrArg (sA t 29 0) (nn_io (p := 3) (by decide))) (z_A_29_0_3 e)) ?_
  refine x_aload_n (pc' := 823) rfl rfl rfl rfl rfl ?_
  refine x_cs (ls0 := [_, _, _, _, _, sJk]) (rest := []) rfl rfl rfl rfl ?_
  refine x_aload (pc' := 2) rfl rfl rfl rfl rfl ?_
  refine x_iconst (pc' := 3) rfl rfl ?_
  refine x_aload_n (pc' := 4) rfl rfl rfl rfl rfl ?_
  refine x_iload_n (pc' := 5) rfl rfl rfl ?_
  refine x_iload_n (pc' := 6) rfl rfl rfl ?_
  refine x_iload_n (pc' := 7) rfl rfl rfl ?_
  refine x_cv (ls0 := [_, _, _, _, sJk]) (rest := [_, _]) rfl rfl rfl rfl rfl ?_
  refine x_iload_n (pc' := 1) rfl rfl rfl ?_
  refine x_bipush (pc' := 3) rfl rfl ?_
  refine x_cs (ls0 := [_, _]) (rest := []) rfl rfl rfl rfl ?_
  refine x_iload_n (pc' := 1) rfl rfl rfl ?_
  refine x_if (a' := 9) (pc' := 4) (z := decide (s < 0)) rfl rfl rfl (ic_lt (p := s) (q := 0) (Nat.lt_trans hs (by decide)) (by decide)) (fun h => absurd (of_decide_eq_true h) (by first | decide | omega | simp)) (fun _ => ?_)
  refine x_iload_n (pc' := 5) rfl rfl rfl ?_
  refine x_iload_n (pc' := 6) rfl rfl rfl ?_
  refine x_icmp (a' := 20) (pc' := 9) (z := decide (s < 6)) rfl rfl rfl (ic_lt (p := s) (q := 6) (Nat.lt_trans hs (by decide)) (by decide)) (fun _ => ?_) (fun h => absurd (Nat.lt_of_lt_of_le hs (by decide)) (of_decide_eq_false h))
  refine x_ret rfl ?_
  refine sK_v (pc' := 6) rfl ?_
  refine x_iload_n (pc' := 7) rfl rfl rfl ?_
  refine x_iconst (pc' := 8) rfl rfl ?_
  refine x_cs (ls0 := [_, _]) (rest := []) rfl rfl rfl rfl ?_
  refine x_iload_n (pc' := 1) rfl rfl rfl ?_
  refine x_if (a' := 9) (pc' := 4) (z := decide ((xs 2) < 0)) rfl rfl rfl rfl (fun _ => ?_) (fun h => absurd e1 (of_decide_eq_false h))
  refine x_throw rfl rfl ?_
  refine sK_n (by decide +kernel) rfl ?_
  refine sK_h (h := 15) (by decide +kernel) rfl ?_
  refine x_catch (pc' := 17) (ls' := [_, _, _, _, _, _]) rfl rfl rfl rfl ?_
  refine x_iconst (pc' := 18) rfl rfl ?_
  refine x_reti rfl rfl ?_
  refine sK_i (pc' := 826) rfl ?_
  refine x_istore (pc' := 828) (ls' := [_, _, _, _, _, _, _]) rfl rfl rfl rfl ?_
  refine x_aload_n (pc' := 829) rfl rfl rfl rfl rfl ?_
  refine x_aload_n (pc' := 830) rfl rfl rfl rfl rfl ?_
  refine x_iload (pc' := 832) rfl rfl rfl ?_
  refine x_iconst (pc' := 833) rfl rfl ?_
  refine x_iadd (pc' := 834) (z := 1) rfl rfl (by decide) ?_
  refine x_iald (pc' := 835) (N := 7) (x := (io s)) rfl rfl rfl (Eq.trans rdNthr (z_N_29_0 e)) (io_in (p := 1) (N := 7) (by decide) (by decide)) (Eq.trans (congrArg (sA (sThr t) 29 0) (nn_io (p := 1) (by decide))) (Eq.trans rdAthr (Eq.trans (z_A_29_0_1 e) e0))) ?_
  refine x_aload_n (pc' := 836) rfl rfl rfl rfl rfl ?_
  refine x_iload (pc' := 838) rfl rfl rfl ?_
  refine x_iconst (pc' := 839) rfl rfl ?_
  refine x_iadd (pc' := 840) (z := 2) rfl rfl (by decide) ?_
  refine x_iald (pc' := 841) (N := 7) (x := (xs 2)) rfl rfl rfl (Eq.trans rdNthr (z_N_29_0 e)) (io_in (p := 2) (N := 7) (by decide) (by decide)) (Eq.trans (congrArg (sA (sThr t) 29 0) (nn_io (p := 2) (by decide))) (Eq.trans rdAthr (z_A_29_0_2 e))) ?_
  refine x_aload_n (pc' := 842) rfl rfl rfl rfl rfl ?_
  refine x_iload (pc' := 844) rfl rfl rfl ?_
  refine x_iconst (pc' := 845) rfl rfl ?_
  refine x_iadd (pc' := 846) (z := 3) rfl rfl (by decide) ?_
  refine x_iald (pc' := 847) (N := 7) (x := (xs 3)) rfl rfl rfl (Eq.trans rdNthr (z_N_29_0 e)) (io_in (p := 3) (N := 7) (by decide) (by decide)) (Eq.trans (congrArg (sA (sThr t) 29 0) (nn_io (p := 3) (by decide))) (Eq.trans rdAthr (z_A_29_0_3 e))) ?_
  refine x_cv (ls0 := [_, _, _, _, sJk, sJk]) (rest := []) rfl rfl rfl rfl rfl ?_
  refine x_iload_n (pc' := 1) rfl rfl rfl ?_
  refine x_iconst (pc' := 2) rfl rfl ?_
  refine x_iconst (pc' := 3) rfl rfl ?_
  refine x_cs (ls0 := [_, _, _]) (rest := []) rfl rfl rfl rfl ?_
  refine x_iload_n (pc' := 1) rfl rfl rfl ?_
  refine x_iload_n (pc' := 2) rfl rfl rfl ?_
  refine x_icmp (a' := 14) (pc' := 5) (z := decide (s < 0)) rfl rfl rfl (ic_lt (p := s) (q := 0) (Nat.lt_trans hs (by decide)) (by decide)) (fun h => absurd (of_decide_eq_true h) (by first | decide | omega | simp)) (fun _ => ?_)
  refine x_iload_n (pc' := 6) rfl rfl rfl ?_
  refine x_iload_n (pc' := 7) rfl rfl rfl ?_
  refine x_icmp (a' := 14) (pc' := 10) (z := decide (5 < s)) rfl rfl rfl (ic_gt (p := s) (q := 5) (Nat.lt_trans hs (by decide)) (by decide)) (fun h => absurd (of_decide_eq_true h) (fun z => absurd hs (Nat.not_lt.mpr z))) (fun _ => ?_)
  refine x_iconst (pc' := 11) rfl rfl ?_
  refine x_goto (pc' := 15) rfl rfl ?_
  refine x_retz (z := true) rfl rfl ?_
  refine sK_i (pc' := 6) rfl ?_
  refine x_if (a' := 20) (pc' := 9) (z := false) rfl rfl rfl (by decide) (fun h => by cases h) (fun _ => ?_)
  refine x_iload_n (pc' := 10) rfl rfl rfl ?_
  refine x_cs (ls0 := [_]) (rest := []) rfl rfl rfl rfl ?_
  refine x_iload_n (pc' := 1) rfl rfl rfl ?_
  refine x_iconst (pc' := 2) rfl rfl ?_
  refine x_iconst (pc' := 3) rfl rfl ?_
  refine x_cs (ls0 := [_, _, _]) (rest := []) rfl rfl rfl rfl ?_
  refine x_iload_n (pc' := 1) rfl rfl rfl ?_
  refine x_iload_n (pc' := 2) rfl rfl rfl ?_
  refine x_icmp (a' := 14) (pc' := 5) (z := decide ((xs 2) < 0)) rfl rfl rfl rfl (fun _ => ?_) (fun h => absurd e1 (of_decide_eq_false h))
  refine x_iconst (pc' := 15) rfl rfl ?_
  refine x_retz (z := false) rfl rfl ?_
  refine sK_i (pc' := 6) rfl ?_
  refine x_retz (z := false) rfl rfl ?_
  refine sK_i (pc' := 13) rfl ?_
  refine x_if (a' := 20) (pc' := 16) (z := true) rfl rfl rfl (by decide) (fun _ => ?_) (fun h => by cases h)
  refine x_iconst (pc' := 21) rfl rfl ?_
  refine x_istore (pc' := 23) (ls' := [_, _, _, _, _, _]) rfl rfl rfl rfl ?_
  refine x_aload_n (pc' := 24) rfl rfl rfl rfl rfl ?_
  refine x_iload (pc' := 26) rfl rfl rfl ?_
  refine x_if (a' := 33) (pc' := 29) (z := false) rfl rfl rfl (by decide) (fun h => by cases h) (fun _ => ?_)
  refine x_iconst (pc' := 30) rfl rfl ?_
  refine x_goto (pc' := 51) rfl rfl ?_
  refine x_cv (ls0 := [_, _]) (rest := []) rfl rfl rfl rfl rfl ?_
  refine x_aload_n (pc' := 1) rfl rfl rfl rfl rfl ?_
  refine x_iload_n (pc' := 2) rfl rfl rfl ?_
  refine x_pI (pc' := 5) rfl rfl rfl ?_
  refine x_iload_n (pc' := 6) rfl rfl rfl ?_
  refine x_if (a' := 13) (pc' := 9) (z := true) rfl rfl rfl (by decide) (fun _ => ?_) (fun h => by cases h)
  refine x_iconst (pc' := 14) rfl rfl ?_
  refine x_retz (z := false) rfl rfl ?_
  refine sK_i (pc' := 54) rfl ?_
  refine x_if (a' := 59) (pc' := 57) (z := false) rfl rfl rfl (by decide) (fun h => by cases h) (fun _ => ?_)
  refine x_iconst (pc' := 58) rfl rfl ?_
  refine x_reti rfl rfl ?_
  refine sK_i (pc' := 850) rfl ?_
  refine x_istore (pc' := 852) (ls' := [_, _, _, _, _, _, _]) rfl rfl rfl rfl ?_
  refine x_aload_n (pc' := 853) rfl rfl rfl rfl rfl ?_
  refine x_cv (ls0 := [_]) (rest := []) rfl rfl rfl rfl rfl ?_
  refine x_aload_n (pc' := 1) rfl rfl rfl rfl rfl ?_
  refine x_gI (pc' := 4) (x := 1) rfl rfl rfl sI_s ?_
  refine x_reti rfl rfl ?_
  refine sK_i (pc' := 856) rfl ?_
  refine x_iload (pc' := 858) rfl rfl rfl ?_
  refine x_icmp (a' := 863) (pc' := 861) (z := true) rfl rfl rfl (by decide) (fun _ => ?_) (fun h => by cases h)
  refine x_iload (pc' := 865) rfl rfl rfl ?_
  refine x_if (a' := 880) (pc' := 868) (z := true) rfl rfl rfl (by decide) (fun _ => ?_) (fun h => by cases h)
  refine x_goto (pc' := 2938) rfl rfl ?_
  refine x_iinc (pc' := 2941) (y := 7) (ls' := [_, _, _, _, _, _, _]) rfl rfl rfl rfl rfl ?_
  refine x_goto (pc' := 23) rfl rfl ?_
  refine x_iload (pc' := 25) rfl rfl rfl ?_
  refine x_aload_n (pc' := 26) rfl rfl rfl rfl rfl ?_
  refine x_alen (pc' := 27) (N := 7) rfl rfl rfl (Eq.trans rdNI (Eq.trans rdNthr (z_N_29_0 e))) (?_ : X _ _ _ (.inl 7 :: _) _ _)
  refine x_bipush (pc' := 29) rfl rfl ?_
  refine x_isub (pc' := 30) (z := 0) rfl rfl (by decide) ?_
  refine x_icmp (a' := 2944) (pc' := 33) (z := true) rfl rfl rfl (by decide) (fun _ => ?_) (fun h => by cases h)
  refine x_iconst (pc' := 2945) rfl rfl ?_
  refine x_retz (z := true) rfl rfl ?_
  exact Qp_ok e (p := 1) (q := 6) rfl rfl rfl rfl
set_option maxHeartbeats 4000000 in
set_option maxRecDepth 10000 in
theorem v_9_v_B_i {t : sT} {xs : Nat → Int32} {s : Nat}
    (e : t = T16 7 xs)
    (hk : ((xs 0) &&& 63) = 9)
    (hs : s < 6)
    (e0 : xs 1 = io s)
    (e1 : ¬ (xs 2) < 0)
    (f1 : ¬ (xs 2) < 3) :
    X 297 23 [.inr (.inr (29, (some 0))), .inr (.inr (11, (some 0))), .inr (.inr (12, (some 0))), .inr (.inr (23, (some 0))), .inl 0, sJk, sJk] [] t Qp := by
  refine x_iload (pc' := 25) rfl rfl rfl ?_
  refine x_aload_n (pc' := 26) rfl rfl rfl rfl rfl ?_
  refine x_alen (pc' := 27) (N := 7) rfl rfl rfl (z_N_29_0 e) (?_ : X _ _ _ (.inl 7 :: _) _ _)
  refine x_bipush (pc' := 29) rfl rfl ?_
  refine x_isub (pc' := 30) (z := 0) rfl rfl (by decide) ?_
  refine x_icmp (a' := 2944) (pc' := 33) (z := false) rfl rfl rfl (by decide) (fun h => by cases h) (fun _ => ?_)
  refine x_aload_n (pc' := 34) rfl rfl rfl rfl rfl ?_
  refine x_iload (pc' := 36) rfl rfl rfl ?_
  refine x_iald (pc' := 37) (N := 7) (x := (xs 0)) rfl rfl rfl (z_N_29_0 e) (io_in (p := 0) (N := 7) (by decide) (by decide)) (Eq.trans (congrArg (sA t 29 0) (nn_io (p := 0) (by decide))) (z_A_29_0_0 e)) ?_
  refine x_bipush (pc' := 39) rfl rfl ?_
  refine x_iand (pc' := 40) (z := ((xs 0) &&& 63)) rfl rfl rfl ?_
  refine x_switch (pc' := 803) rfl (by rw [hk]; decide) ?_
  refine x_aload_n (pc' := 804) rfl rfl rfl rfl rfl ?_
  refine x_aload_n (pc' := 805) rfl rfl rfl rfl rfl ?_
  refine x_iload (pc' := 807) rfl rfl rfl ?_
  refine x_iconst (pc' := 808) rfl rfl ?_
  refine x_iadd (pc' := 809) (z := 1) rfl rfl (by decide) ?_
  refine x_iald (pc' := 810) (N := 7) (x := (io s)) rfl rfl rfl (z_N_29_0 e) (io_in (p := 1) (N := 7) (by decide) (by decide)) (Eq.trans (congrArg (sA t 29 0) (nn_io (p := 1) (by decide))) (Eq.trans (z_A_29_0_1 e) e0)) ?_
  refine x_aload_n (pc' := 811) rfl rfl rfl rfl rfl ?_
  refine x_iload (pc' := 813) rfl rfl rfl ?_
  refine x_iconst (pc' := 814) rfl rfl ?_
  refine x_iadd (pc' := 815) (z := 2) rfl rfl (by decide) ?_
  refine x_iald (pc' := 816) (N := 7) (x := (xs 2)) rfl rfl rfl (z_N_29_0 e) (io_in (p := 2) (N := 7) (by decide) (by decide)) (Eq.trans (congrArg (sA t 29 0) (nn_io (p := 2) (by decide))) (z_A_29_0_2 e)) ?_
  refine x_aload_n (pc' := 817) rfl rfl rfl rfl rfl ?_
  refine x_iload (pc' := 819) rfl rfl rfl ?_
  refine x_iconst (pc' := 820) rfl rfl ?_
  refine x_iadd (pc' := 821) (z := 3) rfl rfl (by decide) ?_
  refine x_iald (pc' := 822) (N := 7) (x := (xs 3)) rfl rfl rfl (z_N_29_0 e) (io_in (p := 3) (N := 7) (by decide) (by decide)) (Eq.trans (congrArg (sA t 29 0) (nn_io (p := 3) (by decide))) (z_A_29_0_3 e)) ?_
  refine x_aload_n (pc' := 823) rfl rfl rfl rfl rfl ?_
  refine x_cs (ls0 := [_, _, _, _, _, sJk]) (rest := []) rfl rfl rfl rfl ?_
  refine x_aload (pc' := 2) rfl rfl rfl rfl rfl ?_
  refine x_iconst (pc' := 3) rfl rfl ?_
  refine x_aload_n (pc' := 4) rfl rfl rfl rfl rfl ?_
  refine x_iload_n (pc' := 5) rfl rfl rfl ?_
  refine x_iload_n (pc' := 6) rfl rfl rfl ?_
  refine x_iload_n (pc' := 7) rfl rfl rfl ?_
  refine x_cv (ls0 := [_, _, _, _, sJk]) (rest := [_, _]) rfl rfl rfl rfl rfl ?_
  refine x_iload_n (pc' := 1) rfl rfl rfl ?_
  refine x_bipush (pc' := 3) rfl rfl ?_
  refine x_cs (ls0 := [_, _]) (rest := []) rfl rfl rfl rfl ?_
  refine x_iload_n (pc' := 1) rfl rfl rfl ?_
  refine x_if (a' := 9) (pc' := 4) (z := decide (s < 0)) rfl rfl rfl (ic_lt (p := s) (q := 0) (Nat.lt_trans hs (by decide)) (by decide)) (fun h => absurd (of_decide_eq_true h) (by first | decide | omega | simp)) (fun _ => ?_)
  refine x_iload_n (pc' := 5) rfl rfl rfl ?_
  refine x_iload_n (pc' := 6) rfl rfl rfl ?_
  refine x_icmp (a' := 20) (pc' := 9) (z := decide (s < 6)) rfl rfl rfl (ic_lt (p := s) (q := 6) (Nat.lt_trans hs (by decide)) (by decide)) (fun _ => ?_) (fun h => absurd (Nat.lt_of_lt_of_le hs (by decide)) (of_decide_eq_false h))
  refine x_ret rfl ?_
  refine sK_v (pc' := 6) rfl ?_
  refine x_iload_n (pc' := 7) rfl rfl rfl ?_
  refine x_iconst (pc' := 8) rfl rfl ?_
  refine x_cs (ls0 := [_, _]) (rest := []) rfl rfl rfl rfl ?_
  refine x_iload_n (pc' := 1) rfl rfl rfl ?_
  refine x_if (a' := 9) (pc' := 4) (z := decide ((xs 2) < 0)) rfl rfl rfl rfl (fun h => absurd (of_decide_eq_true h) e1) (fun _ => ?_)
  refine x_iload_n (pc' := 5) rfl rfl rfl ?_
  refine x_iload_n (pc' := 6) rfl rfl rfl ?_
  refine x_icmp (a' := 20) (pc' := 9) (z := decide ((xs 2) < 3)) rfl rfl rfl rfl (fun h => absurd (of_decide_eq_true h) f1) (fun _ => ?_)
  refine x_throw rfl rfl ?_
  refine sK_n (by decide +kernel) rfl ?_
  refine sK_h (h := 15) (by decide +kernel) rfl ?_
  refine x_catch (pc' := 17) (ls' := [_, _, _, _, _, _]) rfl rfl rfl rfl ?_
  refine x_iconst (pc' := 18) rfl rfl ?_
  refine x_reti rfl rfl ?_
  refine sK_i (pc' := 826) rfl ?_
  refine x_istore (pc' := 828) (ls' := [_, _, _, _, _, _, _]) rfl rfl rfl rfl ?_
  refine x_aload_n (pc' := 829) rfl rfl rfl rfl rfl ?_
  refine x_aload_n (pc' := 830) rfl rfl rfl rfl rfl ?_
  refine x_iload (pc' := 832) rfl rfl rfl ?_
  refine x_iconst (pc' := 833) rfl rfl ?_
  refine x_iadd (pc' := 834) (z := 1) rfl rfl (by decide) ?_
  refine x_iald (pc' := 835) (N := 7) (x := (io s)) rfl rfl rfl (Eq.trans rdNthr (z_N_29_0 e)) (io_in (p := 1) (N := 7) (by decide) (by decide)) (Eq.trans (congrArg (sA (sThr t) 29 0) (nn_io (p := 1) (by decide))) (Eq.trans rdAthr (Eq.trans (z_A_29_0_1 e) e0))) ?_
  refine x_aload_n (pc' := 836) rfl rfl rfl rfl rfl ?_
  refine x_iload (pc' := 838) rfl rfl rfl ?_
  refine x_iconst (pc' := 839) rfl rfl ?_
  refine x_iadd (pc' := 840) (z := 2) rfl rfl (by decide) ?_
  refine x_iald (pc' := 841) (N := 7) (x := (xs 2)) rfl rfl rfl (Eq.trans rdNthr (z_N_29_0 e)) (io_in (p := 2) (N := 7) (by decide) (by decide)) (Eq.trans (congrArg (sA (sThr t) 29 0) (nn_io (p := 2) (by decide))) (Eq.trans rdAthr (z_A_29_0_2 e))) ?_
  refine x_aload_n (pc' := 842) rfl rfl rfl rfl rfl ?_
  refine x_iload (pc' := 844) rfl rfl rfl ?_
  refine x_iconst (pc' := 845) rfl rfl ?_
  refine x_iadd (pc' := 846) (z := 3) rfl rfl (by decide) ?_
  refine x_iald (pc' := 847) (N := 7) (x := (xs 3)) rfl rfl rfl (Eq.trans rdNthr (z_N_29_0 e)) (io_in (p := 3) (N := 7) (by decide) (by decide)) (Eq.trans (congrArg (sA (sThr t) 29 0) (nn_io (p := 3) (by decide))) (Eq.trans rdAthr (z_A_29_0_3 e))) ?_
  refine x_cv (ls0 := [_, _, _, _, sJk, sJk]) (rest := []) rfl rfl rfl rfl rfl ?_
  refine x_iload_n (pc' := 1) rfl rfl rfl ?_
  refine x_iconst (pc' := 2) rfl rfl ?_
  refine x_iconst (pc' := 3) rfl rfl ?_
  refine x_cs (ls0 := [_, _, _]) (rest := []) rfl rfl rfl rfl ?_
  refine x_iload_n (pc' := 1) rfl rfl rfl ?_
  refine x_iload_n (pc' := 2) rfl rfl rfl ?_
  refine x_icmp (a' := 14) (pc' := 5) (z := decide (s < 0)) rfl rfl rfl (ic_lt (p := s) (q := 0) (Nat.lt_trans hs (by decide)) (by decide)) (fun h => absurd (of_decide_eq_true h) (by first | decide | omega | simp)) (fun _ => ?_)
  refine x_iload_n (pc' := 6) rfl rfl rfl ?_
  refine x_iload_n (pc' := 7) rfl rfl rfl ?_
  refine x_icmp (a' := 14) (pc' := 10) (z := decide (5 < s)) rfl rfl rfl (ic_gt (p := s) (q := 5) (Nat.lt_trans hs (by decide)) (by decide)) (fun h => absurd (of_decide_eq_true h) (fun z => absurd hs (Nat.not_lt.mpr z))) (fun _ => ?_)
  refine x_iconst (pc' := 11) rfl rfl ?_
  refine x_goto (pc' := 15) rfl rfl ?_
  refine x_retz (z := true) rfl rfl ?_
  refine sK_i (pc' := 6) rfl ?_
  refine x_if (a' := 20) (pc' := 9) (z := false) rfl rfl rfl (by decide) (fun h => by cases h) (fun _ => ?_)
  refine x_iload_n (pc' := 10) rfl rfl rfl ?_
  refine x_cs (ls0 := [_]) (rest := []) rfl rfl rfl rfl ?_
  refine x_iload_n (pc' := 1) rfl rfl rfl ?_
  refine x_iconst (pc' := 2) rfl rfl ?_
  refine x_iconst (pc' := 3) rfl rfl ?_
  refine x_cs (ls0 := [_, _, _]) (rest := []) rfl rfl rfl rfl ?_
  refine x_iload_n (pc' := 1) rfl rfl rfl ?_
  refine x_iload_n (pc' := 2) rfl rfl rfl ?_
  refine x_icmp (a' := 14) (pc' := 5) (z := decide ((xs 2) < 0)) rfl rfl rfl rfl (fun h => absurd (of_decide_eq_true h) e1) (fun _ => ?_)
  refine x_iload_n (pc' := 6) rfl rfl rfl ?_
  refine x_iload_n (pc' := 7) rfl rfl rfl ?_
  refine x_icmp (a' := 14) (pc' := 10) (z := decide (2 < (xs 2))) rfl rfl rfl rfl (fun _ => ?_) (fun h => absurd (lt_of3 f1) (of_decide_eq_false h))
  refine x_iconst (pc' := 15) rfl rfl ?_
  refine x_retz (z := false) rfl rfl ?_
  refine sK_i (pc' := 6) rfl ?_
  refine x_retz (z := false) rfl rfl ?_
  refine sK_i (pc' := 13) rfl ?_
  refine x_if (a' := 20) (pc' := 16) (z := true) rfl rfl rfl (by decide) (fun _ => ?_) (fun h => by cases h)
  refine x_iconst (pc' := 21) rfl rfl ?_
  refine x_istore (pc' := 23) (ls' := [_, _, _, _, _, _]) rfl rfl rfl rfl ?_
  refine x_aload_n (pc' := 24) rfl rfl rfl rfl rfl ?_
  refine x_iload (pc' := 26) rfl rfl rfl ?_
  refine x_if (a' := 33) (pc' := 29) (z := false) rfl rfl rfl (by decide) (fun h => by cases h) (fun _ => ?_)
  refine x_iconst (pc' := 30) rfl rfl ?_
  refine x_goto (pc' := 51) rfl rfl ?_
  refine x_cv (ls0 := [_, _]) (rest := []) rfl rfl rfl rfl rfl ?_
  refine x_aload_n (pc' := 1) rfl rfl rfl rfl rfl ?_
  refine x_iload_n (pc' := 2) rfl rfl rfl ?_
  refine x_pI (pc' := 5) rfl rfl rfl ?_
  refine x_iload_n (pc' := 6) rfl rfl rfl ?_
  refine x_if (a' := 13) (pc' := 9) (z := true) rfl rfl rfl (by decide) (fun _ => ?_) (fun h => by cases h)
  refine x_iconst (pc' := 14) rfl rfl ?_
  refine x_retz (z := false) rfl rfl ?_
  refine sK_i (pc' := 54) rfl ?_
  refine x_if (a' := 59) (pc' := 57) (z := false) rfl rfl rfl (by decide) (fun h => by cases h) (fun _ => ?_)
  refine x_iconst (pc' := 58) rfl rfl ?_
  refine x_reti rfl rfl ?_
  refine sK_i (pc' := 850) rfl ?_
  refine x_istore (pc' := 852) (ls' := [_, _, _, _, _, _, _]) rfl rfl rfl rfl ?_
  refine x_aload_n (pc' := 853) rfl rfl rfl rfl rfl ?_
  refine x_cv (ls0 := [_]) (rest := []) rfl rfl rfl rfl rfl ?_
  refine x_aload_n (pc' := 1) rfl rfl rfl rfl rfl ?_
  refine x_gI (pc' := 4) (x := 1) rfl rfl rfl sI_s ?_
  refine x_reti rfl rfl ?_
  refine sK_i (pc' := 856) rfl ?_
  refine x_iload (pc' := 858) rfl rfl rfl ?_
  refine x_icmp (a' := 863) (pc' := 861) (z := true) rfl rfl rfl (by decide) (fun _ => ?_) (fun h => by cases h)
  refine x_iload (pc' := 865) rfl rfl rfl ?_
  refine x_if (a' := 880) (pc' := 868) (z := true) rfl rfl rfl (by decide) (fun _ => ?_) (fun h => by cases h)
  refine x_goto (pc' := 2938) rfl rfl ?_
  refine x_iinc (pc' := 2941) (y := 7) (ls' := [_, _, _, _, _, _, _]) rfl rfl rfl rfl rfl ?_
  refine x_goto (pc' := 23) rfl rfl ?_
  refine x_iload (pc' := 25) rfl rfl rfl ?_
  refine x_aload_n (pc' := 26) rfl rfl rfl rfl rfl ?_
  refine x_alen (pc' := 27) (N := 7) rfl rfl rfl (Eq.trans rdNI (Eq.trans rdNthr (z_N_29_0 e))) (?_ : X _ _ _ (.inl 7 :: _) _ _)
  refine x_bipush (pc' := 29) rfl rfl ?_
  refine x_isub (pc' := 30) (z := 0) rfl rfl (by decide) ?_
  refine x_icmp (a' := 2944) (pc' := 33) (z := true) rfl rfl rfl (by decide) (fun _ => ?_) (fun h => by cases h)
  refine x_iconst (pc' := 2945) rfl rfl ?_
  refine x_retz (z := true) rfl rfl ?_
  exact Qp_ok e (p := 1) (q := 6) rfl rfl rfl rfl
set_option maxHeartbeats 4000000 in
set_option maxRecDepth 10000 in
theorem v_9_A_0_i {t : sT} {xs : Nat → Int32}
    (e : t = T16 7 xs)
    (hk : ((xs 0) &&& 63) = 9)
    (e0 : (xs 1) < 0)
    (e1 : xs 2 = 0) :
    X 297 23 [.inr (.inr (29, (some 0))), .inr (.inr (11, (some 0))), .inr (.inr (12, (some 0))), .inr (.inr (23, (some 0))), .inl 0, sJk, sJk] [] t Qp := by
  refine x_iload (pc' := 25) rfl rfl rfl ?_
  refine x_aload_n (pc' := 26) rfl rfl rfl rfl rfl ?_
  refine x_alen (pc' := 27) (N := 7) rfl rfl rfl (z_N_29_0 e) (?_ : X _ _ _ (.inl 7 :: _) _ _)
  refine x_bipush (pc' := 29) rfl rfl ?_
  refine x_isub (pc' := 30) (z := 0) rfl rfl (by decide) ?_
  refine x_icmp (a' := 2944) (pc' := 33) (z := false) rfl rfl rfl (by decide) (fun h => by cases h) (fun _ => ?_)
  refine x_aload_n (pc' := 34) rfl rfl rfl rfl rfl ?_
  refine x_iload (pc' := 36) rfl rfl rfl ?_
  refine x_iald (pc' := 37) (N := 7) (x := (xs 0)) rfl rfl rfl (z_N_29_0 e) (io_in (p := 0) (N := 7) (by decide) (by decide)) (Eq.trans (congrArg (sA t 29 0) (nn_io (p := 0) (by decide))) (z_A_29_0_0 e)) ?_
  refine x_bipush (pc' := 39) rfl rfl ?_
  refine x_iand (pc' := 40) (z := ((xs 0) &&& 63)) rfl rfl rfl ?_
  refine x_switch (pc' := 803) rfl (by rw [hk]; decide) ?_
  refine x_aload_n (pc' := 804) rfl rfl rfl rfl rfl ?_
  refine x_aload_n (pc' := 805) rfl rfl rfl rfl rfl ?_
  refine x_iload (pc' := 807) rfl rfl rfl ?_
  refine x_iconst (pc' := 808) rfl rfl ?_
  refine x_iadd (pc' := 809) (z := 1) rfl rfl (by decide) ?_
  refine x_iald (pc' := 810) (N := 7) (x := (xs 1)) rfl rfl rfl (z_N_29_0 e) (io_in (p := 1) (N := 7) (by decide) (by decide)) (Eq.trans (congrArg (sA t 29 0) (nn_io (p := 1) (by decide))) (z_A_29_0_1 e)) ?_
  refine x_aload_n (pc' := 811) rfl rfl rfl rfl rfl ?_
  refine x_iload (pc' := 813) rfl rfl rfl ?_
  refine x_iconst (pc' := 814) rfl rfl ?_
  refine x_iadd (pc' := 815) (z := 2) rfl rfl (by decide) ?_
  refine x_iald (pc' := 816) (N := 7) (x := 0) rfl rfl rfl (z_N_29_0 e) (io_in (p := 2) (N := 7) (by decide) (by decide)) (Eq.trans (congrArg (sA t 29 0) (nn_io (p := 2) (by decide))) (Eq.trans (z_A_29_0_2 e) e1)) ?_
  refine x_aload_n (pc' := 817) rfl rfl rfl rfl rfl ?_
  refine x_iload (pc' := 819) rfl rfl rfl ?_
  refine x_iconst (pc' := 820) rfl rfl ?_
  refine x_iadd (pc' := 821) (z := 3) rfl rfl (by decide) ?_
  refine x_iald (pc' := 822) (N := 7) (x := (xs 3)) rfl rfl rfl (z_N_29_0 e) (io_in (p := 3) (N := 7) (by decide) (by decide)) (Eq.trans (congrArg (sA t 29 0) (nn_io (p := 3) (by decide))) (z_A_29_0_3 e)) ?_
  refine x_aload_n (pc' := 823) rfl rfl rfl rfl rfl ?_
  refine x_cs (ls0 := [_, _, _, _, _, sJk]) (rest := []) rfl rfl rfl rfl ?_
  refine x_aload (pc' := 2) rfl rfl rfl rfl rfl ?_
  refine x_iconst (pc' := 3) rfl rfl ?_
  refine x_aload_n (pc' := 4) rfl rfl rfl rfl rfl ?_
  refine x_iload_n (pc' := 5) rfl rfl rfl ?_
  refine x_iload_n (pc' := 6) rfl rfl rfl ?_
  refine x_iload_n (pc' := 7) rfl rfl rfl ?_
  refine x_cv (ls0 := [_, _, _, _, sJk]) (rest := [_, _]) rfl rfl rfl rfl rfl ?_
  refine x_iload_n (pc' := 1) rfl rfl rfl ?_
  refine x_bipush (pc' := 3) rfl rfl ?_
  refine x_cs (ls0 := [_, _]) (rest := []) rfl rfl rfl rfl ?_
  refine x_iload_n (pc' := 1) rfl rfl rfl ?_
  refine x_if (a' := 9) (pc' := 4) (z := decide ((xs 1) < 0)) rfl rfl rfl rfl (fun _ => ?_) (fun h => absurd e0 (of_decide_eq_false h))
  refine x_throw rfl rfl ?_
  refine sK_n (by decide +kernel) rfl ?_
  refine sK_h (h := 15) (by decide +kernel) rfl ?_
  refine x_catch (pc' := 17) (ls' := [_, _, _, _, _, _]) rfl rfl rfl rfl ?_
  refine x_iconst (pc' := 18) rfl rfl ?_
  refine x_reti rfl rfl ?_
  refine sK_i (pc' := 826) rfl ?_
  refine x_istore (pc' := 828) (ls' := [_, _, _, _, _, _, _]) rfl rfl rfl rfl ?_
  refine x_aload_n (pc' := 829) rfl rfl rfl rfl rfl ?_
  refine x_aload_n (pc' := 830) rfl rfl rfl rfl rfl ?_
  refine x_iload (pc' := 832) rfl rfl rfl ?_
  refine x_iconst (pc' := 833) rfl rfl ?_
  refine x_iadd (pc' := 834) (z := 1) rfl rfl (by decide) ?_
  refine x_iald (pc' := 835) (N := 7) (x := (xs 1)) rfl rfl rfl (Eq.trans rdNthr (z_N_29_0 e)) (io_in (p := 1) (N := 7) (by decide) (by decide)) (Eq.trans (congrArg (sA (sThr t) 29 0) (nn_io (p := 1) (by decide))) (Eq.trans rdAthr (z_A_29_0_1 e))) ?_
  refine x_aload_n (pc' := 836) rfl rfl rfl rfl rfl ?_
  refine x_iload (pc' := 838) rfl rfl rfl ?_
  refine x_iconst (pc' := 839) rfl rfl ?_
  refine x_iadd (pc' := 840) (z := 2) rfl rfl (by decide) ?_
  refine x_iald (pc' := 841) (N := 7) (x := 0) rfl rfl rfl (Eq.trans rdNthr (z_N_29_0 e)) (io_in (p := 2) (N := 7) (by decide) (by decide)) (Eq.trans (congrArg (sA (sThr t) 29 0) (nn_io (p := 2) (by decide))) (Eq.trans rdAthr (Eq.trans (z_A_29_0_2 e) e1))) ?_
  refine x_aload_n (pc' := 842) rfl rfl rfl rfl rfl ?_
  refine x_iload (pc' := 844) rfl rfl rfl ?_
  refine x_iconst (pc' := 845) rfl rfl ?_
  refine x_iadd (pc' := 846) (z := 3) rfl rfl (by decide) ?_
  refine x_iald (pc' := 847) (N := 7) (x := (xs 3)) rfl rfl rfl (Eq.trans rdNthr (z_N_29_0 e)) (io_in (p := 3) (N := 7) (by decide) (by decide)) (Eq.trans (congrArg (sA (sThr t) 29 0) (nn_io (p := 3) (by decide))) (Eq.trans rdAthr (z_A_29_0_3 e))) ?_
  refine x_cv (ls0 := [_, _, _, _, sJk, sJk]) (rest := []) rfl rfl rfl rfl rfl ?_
  refine x_iload_n (pc' := 1) rfl rfl rfl ?_
  refine x_iconst (pc' := 2) rfl rfl ?_
  refine x_iconst (pc' := 3) rfl rfl ?_
  refine x_cs (ls0 := [_, _, _]) (rest := []) rfl rfl rfl rfl ?_
  refine x_iload_n (pc' := 1) rfl rfl rfl ?_
  refine x_iload_n (pc' := 2) rfl rfl rfl ?_
  refine x_icmp (a' := 14) (pc' := 5) (z := decide ((xs 1) < 0)) rfl rfl rfl rfl (fun _ => ?_) (fun h => absurd e0 (of_decide_eq_false h))
  refine x_iconst (pc' := 15) rfl rfl ?_
  refine x_retz (z := false) rfl rfl ?_
  refine sK_i (pc' := 6) rfl ?_
  refine x_if (a' := 20) (pc' := 9) (z := true) rfl rfl rfl (by decide) (fun _ => ?_) (fun h => by cases h)
  refine x_iconst (pc' := 21) rfl rfl ?_
  refine x_istore (pc' := 23) (ls' := [_, _, _, _, _, _]) rfl rfl rfl rfl ?_
  refine x_aload_n (pc' := 24) rfl rfl rfl rfl rfl ?_
  refine x_iload (pc' := 26) rfl rfl rfl ?_
  refine x_if (a' := 33) (pc' := 29) (z := false) rfl rfl rfl (by decide) (fun h => by cases h) (fun _ => ?_)
  refine x_iconst (pc' := 30) rfl rfl ?_
  refine x_goto (pc' := 51) rfl rfl ?_
  refine x_cv (ls0 := [_, _]) (rest := []) rfl rfl rfl rfl rfl ?_
  refine x_aload_n (pc' := 1) rfl rfl rfl rfl rfl ?_
  refine x_iload_n (pc' := 2) rfl rfl rfl ?_
  refine x_pI (pc' := 5) rfl rfl rfl ?_
  refine x_iload_n (pc' := 6) rfl rfl rfl ?_
  refine x_if (a' := 13) (pc' := 9) (z := true) rfl rfl rfl (by decide) (fun _ => ?_) (fun h => by cases h)
  refine x_iconst (pc' := 14) rfl rfl ?_
  refine x_retz (z := false) rfl rfl ?_
  refine sK_i (pc' := 54) rfl ?_
  refine x_if (a' := 59) (pc' := 57) (z := false) rfl rfl rfl (by decide) (fun h => by cases h) (fun _ => ?_)
  refine x_iconst (pc' := 58) rfl rfl ?_
  refine x_reti rfl rfl ?_
  refine sK_i (pc' := 850) rfl ?_
  refine x_istore (pc' := 852) (ls' := [_, _, _, _, _, _, _]) rfl rfl rfl rfl ?_
  refine x_aload_n (pc' := 853) rfl rfl rfl rfl rfl ?_
  refine x_cv (ls0 := [_]) (rest := []) rfl rfl rfl rfl rfl ?_
  refine x_aload_n (pc' := 1) rfl rfl rfl rfl rfl ?_
  refine x_gI (pc' := 4) (x := 1) rfl rfl rfl sI_s ?_
  refine x_reti rfl rfl ?_
  refine sK_i (pc' := 856) rfl ?_
  refine x_iload (pc' := 858) rfl rfl rfl ?_
  refine x_icmp (a' := 863) (pc' := 861) (z := true) rfl rfl rfl (by decide) (fun _ => ?_) (fun h => by cases h)
  refine x_iload (pc' := 865) rfl rfl rfl ?_
  refine x_if (a' := 880) (pc' := 868) (z := true) rfl rfl rfl (by decide) (fun _ => ?_) (fun h => by cases h)
  refine x_goto (pc' := 2938) rfl rfl ?_
  refine x_iinc (pc' := 2941) (y := 7) (ls' := [_, _, _, _, _, _, _]) rfl rfl rfl rfl rfl ?_
  refine x_goto (pc' := 23) rfl rfl ?_
  refine x_iload (pc' := 25) rfl rfl rfl ?_
  refine x_aload_n (pc' := 26) rfl rfl rfl rfl rfl ?_
  refine x_alen (pc' := 27) (N := 7) rfl rfl rfl (Eq.trans rdNI (Eq.trans rdNthr (z_N_29_0 e))) (?_ : X _ _ _ (.inl 7 :: _) _ _)
  refine x_bipush (pc' := 29) rfl rfl ?_
  refine x_isub (pc' := 30) (z := 0) rfl rfl (by decide) ?_
  refine x_icmp (a' := 2944) (pc' := 33) (z := true) rfl rfl rfl (by decide) (fun _ => ?_) (fun h => by cases h)
  refine x_iconst (pc' := 2945) rfl rfl ?_
  refine x_retz (z := true) rfl rfl ?_
  exact Qp_ok e (p := 1) (q := 6) rfl rfl rfl rfl
set_option maxHeartbeats 4000000 in
set_option maxRecDepth 10000 in
theorem v_9_A_1_i {t : sT} {xs : Nat → Int32}
    (e : t = T16 7 xs)
    (hk : ((xs 0) &&& 63) = 9)
    (e0 : (xs 1) < 0)
    (e1 : xs 2 = 1) :
    X 297 23 [.inr (.inr (29, (some 0))), .inr (.inr (11, (some 0))), .inr (.inr (12, (some 0))), .inr (.inr (23, (some 0))), .inl 0, sJk, sJk] [] t Qp := by
  refine x_iload (pc' := 25) rfl rfl rfl ?_
  refine x_aload_n (pc' := 26) rfl rfl rfl rfl rfl ?_
  refine x_alen (pc' := 27) (N := 7) rfl rfl rfl (z_N_29_0 e) (?_ : X _ _ _ (.inl 7 :: _) _ _)
  refine x_bipush (pc' := 29) rfl rfl ?_
  refine x_isub (pc' := 30) (z := 0) rfl rfl (by decide) ?_
  refine x_icmp (a' := 2944) (pc' := 33) (z := false) rfl rfl rfl (by decide) (fun h => by cases h) (fun _ => ?_)
  refine x_aload_n (pc' := 34) rfl rfl rfl rfl rfl ?_
  refine x_iload (pc' := 36) rfl rfl rfl ?_
  refine x_iald (pc' := 37) (N := 7) (x := (xs 0)) rfl rfl rfl (z_N_29_0 e) (io_in (p := 0) (N := 7) (by decide) (by decide)) (Eq.trans (congrArg (sA t 29 0) (nn_io (p := 0) (by decide))) (z_A_29_0_0 e)) ?_
  refine x_bipush (pc' := 39) rfl rfl ?_
  refine x_iand (pc' := 40) (z := ((xs 0) &&& 63)) rfl rfl rfl ?_
  refine x_switch (pc' := 803) rfl (by rw [hk]; decide) ?_
  refine x_aload_n (pc' := 804) rfl rfl rfl rfl rfl ?_
  refine x_aload_n (pc' := 805) rfl rfl rfl rfl rfl ?_
  refine x_iload (pc' := 807) rfl rfl rfl ?_
  refine x_iconst (pc' := 808) rfl rfl ?_
  refine x_iadd (pc' := 809) (z := 1) rfl rfl (by decide) ?_
  refine x_iald (pc' := 810) (N := 7) (x := (xs 1)) rfl rfl rfl (z_N_29_0 e) (io_in (p := 1) (N := 7) (by decide) (by decide)) (Eq.trans (congrArg (sA t 29 0) (nn_io (p := 1) (by decide))) (z_A_29_0_1 e)) ?_
  refine x_aload_n (pc' := 811) rfl rfl rfl rfl rfl ?_
  refine x_iload (pc' := 813) rfl rfl rfl ?_
  refine x_iconst (pc' := 814) rfl rfl ?_
  refine x_iadd (pc' := 815) (z := 2) rfl rfl (by decide) ?_
  refine x_iald (pc' := 816) (N := 7) (x := 1) rfl rfl rfl (z_N_29_0 e) (io_in (p := 2) (N := 7) (by decide) (by decide)) (Eq.trans (congrArg (sA t 29 0) (nn_io (p := 2) (by decide))) (Eq.trans (z_A_29_0_2 e) e1)) ?_
  refine x_aload_n (pc' := 817) rfl rfl rfl rfl rfl ?_
  refine x_iload (pc' := 819) rfl rfl rfl ?_
  refine x_iconst (pc' := 820) rfl rfl ?_
  refine x_iadd (pc' := 821) (z := 3) rfl rfl (by decide) ?_
  refine x_iald (pc' := 822) (N := 7) (x := (xs 3)) rfl rfl rfl (z_N_29_0 e) (io_in (p := 3) (N := 7) (by decide) (by decide)) (Eq.trans (congrArg (sA t 29 0) (nn_io (p := 3) (by decide))) (z_A_29_0_3 e)) ?_
  refine x_aload_n (pc' := 823) rfl rfl rfl rfl rfl ?_
  refine x_cs (ls0 := [_, _, _, _, _, sJk]) (rest := []) rfl rfl rfl rfl ?_
  refine x_aload (pc' := 2) rfl rfl rfl rfl rfl ?_
  refine x_iconst (pc' := 3) rfl rfl ?_
  refine x_aload_n (pc' := 4) rfl rfl rfl rfl rfl ?_
  refine x_iload_n (pc' := 5) rfl rfl rfl ?_
  refine x_iload_n (pc' := 6) rfl rfl rfl ?_
  refine x_iload_n (pc' := 7) rfl rfl rfl ?_
  refine x_cv (ls0 := [_, _, _, _, sJk]) (rest := [_, _]) rfl rfl rfl rfl rfl ?_
  refine x_iload_n (pc' := 1) rfl rfl rfl ?_
  refine x_bipush (pc' := 3) rfl rfl ?_
  refine x_cs (ls0 := [_, _]) (rest := []) rfl rfl rfl rfl ?_
  refine x_iload_n (pc' := 1) rfl rfl rfl ?_
  refine x_if (a' := 9) (pc' := 4) (z := decide ((xs 1) < 0)) rfl rfl rfl rfl (fun _ => ?_) (fun h => absurd e0 (of_decide_eq_false h))
  refine x_throw rfl rfl ?_
  refine sK_n (by decide +kernel) rfl ?_
  refine sK_h (h := 15) (by decide +kernel) rfl ?_
  refine x_catch (pc' := 17) (ls' := [_, _, _, _, _, _]) rfl rfl rfl rfl ?_
  refine x_iconst (pc' := 18) rfl rfl ?_
  refine x_reti rfl rfl ?_
  refine sK_i (pc' := 826) rfl ?_
  refine x_istore (pc' := 828) (ls' := [_, _, _, _, _, _, _]) rfl rfl rfl rfl ?_
  refine x_aload_n (pc' := 829) rfl rfl rfl rfl rfl ?_
  refine x_aload_n (pc' := 830) rfl rfl rfl rfl rfl ?_
  refine x_iload (pc' := 832) rfl rfl rfl ?_
  refine x_iconst (pc' := 833) rfl rfl ?_
  refine x_iadd (pc' := 834) (z := 1) rfl rfl (by decide) ?_
  refine x_iald (pc' := 835) (N := 7) (x := (xs 1)) rfl rfl rfl (Eq.trans rdNthr (z_N_29_0 e)) (io_in (p := 1) (N := 7) (by decide) (by decide)) (Eq.trans (congrArg (sA (sThr t) 29 0) (nn_io (p := 1) (by decide))) (Eq.trans rdAthr (z_A_29_0_1 e))) ?_
  refine x_aload_n (pc' := 836) rfl rfl rfl rfl rfl ?_
  refine x_iload (pc' := 838) rfl rfl rfl ?_
  refine x_iconst (pc' := 839) rfl rfl ?_
  refine x_iadd (pc' := 840) (z := 2) rfl rfl (by decide) ?_
  refine x_iald (pc' := 841) (N := 7) (x := 1) rfl rfl rfl (Eq.trans rdNthr (z_N_29_0 e)) (io_in (p := 2) (N := 7) (by decide) (by decide)) (Eq.trans (congrArg (sA (sThr t) 29 0) (nn_io (p := 2) (by decide))) (Eq.trans rdAthr (Eq.trans (z_A_29_0_2 e) e1))) ?_
  refine x_aload_n (pc' := 842) rfl rfl rfl rfl rfl ?_
  refine x_iload (pc' := 844) rfl rfl rfl ?_
  refine x_iconst (pc' := 845) rfl rfl ?_
  refine x_iadd (pc' := 846) (z := 3) rfl rfl (by decide) ?_
  refine x_iald (pc' := 847) (N := 7) (x := (xs 3)) rfl rfl rfl (Eq.trans rdNthr (z_N_29_0 e)) (io_in (p := 3) (N := 7) (by decide) (by decide)) (Eq.trans (congrArg (sA (sThr t) 29 0) (nn_io (p := 3) (by decide))) (Eq.trans rdAthr (z_A_29_0_3 e))) ?_
  refine x_cv (ls0 := [_, _, _, _, sJk, sJk]) (rest := []) rfl rfl rfl rfl rfl ?_
  refine x_iload_n (pc' := 1) rfl rfl rfl ?_
  refine x_iconst (pc' := 2) rfl rfl ?_
  refine x_iconst (pc' := 3) rfl rfl ?_
  refine x_cs (ls0 := [_, _, _]) (rest := []) rfl rfl rfl rfl ?_
  refine x_iload_n (pc' := 1) rfl rfl rfl ?_
  refine x_iload_n (pc' := 2) rfl rfl rfl ?_
  refine x_icmp (a' := 14) (pc' := 5) (z := decide ((xs 1) < 0)) rfl rfl rfl rfl (fun _ => ?_) (fun h => absurd e0 (of_decide_eq_false h))
  refine x_iconst (pc' := 15) rfl rfl ?_
  refine x_retz (z := false) rfl rfl ?_
  refine sK_i (pc' := 6) rfl ?_
  refine x_if (a' := 20) (pc' := 9) (z := true) rfl rfl rfl (by decide) (fun _ => ?_) (fun h => by cases h)
  refine x_iconst (pc' := 21) rfl rfl ?_
  refine x_istore (pc' := 23) (ls' := [_, _, _, _, _, _]) rfl rfl rfl rfl ?_
  refine x_aload_n (pc' := 24) rfl rfl rfl rfl rfl ?_
  refine x_iload (pc' := 26) rfl rfl rfl ?_
  refine x_if (a' := 33) (pc' := 29) (z := false) rfl rfl rfl (by decide) (fun h => by cases h) (fun _ => ?_)
  refine x_iconst (pc' := 30) rfl rfl ?_
  refine x_goto (pc' := 51) rfl rfl ?_
  refine x_cv (ls0 := [_, _]) (rest := []) rfl rfl rfl rfl rfl ?_
  refine x_aload_n (pc' := 1) rfl rfl rfl rfl rfl ?_
  refine x_iload_n (pc' := 2) rfl rfl rfl ?_
  refine x_pI (pc' := 5) rfl rfl rfl ?_
  refine x_iload_n (pc' := 6) rfl rfl rfl ?_
  refine x_if (a' := 13) (pc' := 9) (z := true) rfl rfl rfl (by decide) (fun _ => ?_) (fun h => by cases h)
  refine x_iconst (pc' := 14) rfl rfl ?_
  refine x_retz (z := false) rfl rfl ?_
  refine sK_i (pc' := 54) rfl ?_
  refine x_if (a' := 59) (pc' := 57) (z := false) rfl rfl rfl (by decide) (fun h => by cases h) (fun _ => ?_)
  refine x_iconst (pc' := 58) rfl rfl ?_
  refine x_reti rfl rfl ?_
  refine sK_i (pc' := 850) rfl ?_
  refine x_istore (pc' := 852) (ls' := [_, _, _, _, _, _, _]) rfl rfl rfl rfl ?_
  refine x_aload_n (pc' := 853) rfl rfl rfl rfl rfl ?_
  refine x_cv (ls0 := [_]) (rest := []) rfl rfl rfl rfl rfl ?_
  refine x_aload_n (pc' := 1) rfl rfl rfl rfl rfl ?_
  refine x_gI (pc' := 4) (x := 1) rfl rfl rfl sI_s ?_
  refine x_reti rfl rfl ?_
  refine sK_i (pc' := 856) rfl ?_
  refine x_iload (pc' := 858) rfl rfl rfl ?_
  refine x_icmp (a' := 863) (pc' := 861) (z := true) rfl rfl rfl (by decide) (fun _ => ?_) (fun h => by cases h)
  refine x_iload (pc' := 865) rfl rfl rfl ?_
  refine x_if (a' := 880) (pc' := 868) (z := true) rfl rfl rfl (by decide) (fun _ => ?_) (fun h => by cases h)
  refine x_goto (pc' := 2938) rfl rfl ?_
  refine x_iinc (pc' := 2941) (y := 7) (ls' := [_, _, _, _, _, _, _]) rfl rfl rfl rfl rfl ?_
  refine x_goto (pc' := 23) rfl rfl ?_
  refine x_iload (pc' := 25) rfl rfl rfl ?_
  refine x_aload_n (pc' := 26) rfl rfl rfl rfl rfl ?_
  refine x_alen (pc' := 27) (N := 7) rfl rfl rfl (Eq.trans rdNI (Eq.trans rdNthr (z_N_29_0 e))) (?_ : X _ _ _ (.inl 7 :: _) _ _)
  refine x_bipush (pc' := 29) rfl rfl ?_
  refine x_isub (pc' := 30) (z := 0) rfl rfl (by decide) ?_
  refine x_icmp (a' := 2944) (pc' := 33) (z := true) rfl rfl rfl (by decide) (fun _ => ?_) (fun h => by cases h)
  refine x_iconst (pc' := 2945) rfl rfl ?_
  refine x_retz (z := true) rfl rfl ?_
  exact Qp_ok e (p := 1) (q := 6) rfl rfl rfl rfl
set_option maxHeartbeats 4000000 in
set_option maxRecDepth 10000 in
theorem v_9_A_2_i {t : sT} {xs : Nat → Int32}
    (e : t = T16 7 xs)
    (hk : ((xs 0) &&& 63) = 9)
    (e0 : (xs 1) < 0)
    (e1 : xs 2 = 2) :
    X 297 23 [.inr (.inr (29, (some 0))), .inr (.inr (11, (some 0))), .inr (.inr (12, (some 0))), .inr (.inr (23, (some 0))), .inl 0, sJk, sJk] [] t Qp := by
  refine x_iload (pc' := 25) rfl rfl rfl ?_
  refine x_aload_n (pc' := 26) rfl rfl rfl rfl rfl ?_
  refine x_alen (pc' := 27) (N := 7) rfl rfl rfl (z_N_29_0 e) (?_ : X _ _ _ (.inl 7 :: _) _ _)
  refine x_bipush (pc' := 29) rfl rfl ?_
  refine x_isub (pc' := 30) (z := 0) rfl rfl (by decide) ?_
  refine x_icmp (a' := 2944) (pc' := 33) (z := false) rfl rfl rfl (by decide) (fun h => by cases h) (fun _ => ?_)
  refine x_aload_n (pc' := 34) rfl rfl rfl rfl rfl ?_
  refine x_iload (pc' := 36) rfl rfl rfl ?_
  refine x_iald (pc' := 37) (N := 7) (x := (xs 0)) rfl rfl rfl (z_N_29_0 e) (io_in (p := 0) (N := 7) (by decide) (by decide)) (Eq.trans (congrArg (sA t 29 0) (nn_io (p := 0) (by decide))) (z_A_29_0_0 e)) ?_
  refine x_bipush (pc' := 39) rfl rfl ?_
  refine x_iand (pc' := 40) (z := ((xs 0) &&& 63)) rfl rfl rfl ?_
  refine x_switch (pc' := 803) rfl (by rw [hk]; decide) ?_
  refine x_aload_n (pc' := 804) rfl rfl rfl rfl rfl ?_
  refine x_aload_n (pc' := 805) rfl rfl rfl rfl rfl ?_
  refine x_iload (pc' := 807) rfl rfl rfl ?_
  refine x_iconst (pc' := 808) rfl rfl ?_
  refine x_iadd (pc' := 809) (z := 1) rfl rfl (by decide) ?_
  refine x_iald (pc' := 810) (N := 7) (x := (xs 1)) rfl rfl rfl (z_N_29_0 e) (io_in (p := 1) (N := 7) (by decide) (by decide)) (Eq.trans (congrArg (sA t 29 0) (nn_io (p := 1) (by decide))) (z_A_29_0_1 e)) ?_
  refine x_aload_n (pc' := 811) rfl rfl rfl rfl rfl ?_
  refine x_iload (pc' := 813) rfl rfl rfl ?_
  refine x_iconst (pc' := 814) rfl rfl ?_
  refine x_iadd (pc' := 815) (z := 2) rfl rfl (by decide) ?_
  refine x_iald (pc' := 816) (N := 7) (x := 2) rfl rfl rfl (z_N_29_0 e) (io_in (p := 2) (N := 7) (by decide) (by decide)) (Eq.trans (congrArg (sA t 29 0) (nn_io (p := 2) (by decide))) (Eq.trans (z_A_29_0_2 e) e1)) ?_
  refine x_aload_n (pc' := 817) rfl rfl rfl rfl rfl ?_
  refine x_iload (pc' := 819) rfl rfl rfl ?_
  refine x_iconst (pc' := 820) rfl rfl ?_
  refine x_iadd (pc' := 821) (z := 3) rfl rfl (by decide) ?_
  refine x_iald (pc' := 822) (N := 7) (x := (xs 3)) rfl rfl rfl (z_N_29_0 e) (io_in (p := 3) (N := 7) (by decide) (by decide)) (Eq.trans (congrArg (sA t 29 0) (nn_io (p := 3) (by decide))) (z_A_29_0_3 e)) ?_
  refine x_aload_n (pc' := 823) rfl rfl rfl rfl rfl ?_
  refine x_cs (ls0 := [_, _, _, _, _, sJk]) (rest := []) rfl rfl rfl rfl ?_
  refine x_aload (pc' := 2) rfl rfl rfl rfl rfl ?_
  refine x_iconst (pc' := 3) rfl rfl ?_
  refine x_aload_n (pc' := 4) rfl rfl rfl rfl rfl ?_
  refine x_iload_n (pc' := 5) rfl rfl rfl ?_
  refine x_iload_n (pc' := 6) rfl rfl rfl ?_
  refine x_iload_n (pc' := 7) rfl rfl rfl ?_
  refine x_cv (ls0 := [_, _, _, _, sJk]) (rest := [_, _]) rfl rfl rfl rfl rfl ?_
  refine x_iload_n (pc' := 1) rfl rfl rfl ?_
  refine x_bipush (pc' := 3) rfl rfl ?_
  refine x_cs (ls0 := [_, _]) (rest := []) rfl rfl rfl rfl ?_
  refine x_iload_n (pc' := 1) rfl rfl rfl ?_
  refine x_if (a' := 9) (pc' := 4) (z := decide ((xs 1) < 0)) rfl rfl rfl rfl (fun _ => ?_) (fun h => absurd e0 (of_decide_eq_false h))
  refine x_throw rfl rfl ?_
  refine sK_n (by decide +kernel) rfl ?_
  refine sK_h (h := 15) (by decide +kernel) rfl ?_
  refine x_catch (pc' := 17) (ls' := [_, _, _, _, _, _]) rfl rfl rfl rfl ?_
  refine x_iconst (pc' := 18) rfl rfl ?_
  refine x_reti rfl rfl ?_
  refine sK_i (pc' := 826) rfl ?_
  refine x_istore (pc' := 828) (ls' := [_, _, _, _, _, _, _]) rfl rfl rfl rfl ?_
  refine x_aload_n (pc' := 829) rfl rfl rfl rfl rfl ?_
  refine x_aload_n (pc' := 830) rfl rfl rfl rfl rfl ?_
  refine x_iload (pc' := 832) rfl rfl rfl ?_
  refine x_iconst (pc' := 833) rfl rfl ?_
  refine x_iadd (pc' := 834) (z := 1) rfl rfl (by decide) ?_
  refine x_iald (pc' := 835) (N := 7) (x := (xs 1)) rfl rfl rfl (Eq.trans rdNthr (z_N_29_0 e)) (io_in (p := 1) (N := 7) (by decide) (by decide)) (Eq.trans (congrArg (sA (sThr t) 29 0) (nn_io (p := 1) (by decide))) (Eq.trans rdAthr (z_A_29_0_1 e))) ?_
  refine x_aload_n (pc' := 836) rfl rfl rfl rfl rfl ?_
  refine x_iload (pc' := 838) rfl rfl rfl ?_
  refine x_iconst (pc' := 839) rfl rfl ?_
  refine x_iadd (pc' := 840) (z := 2) rfl rfl (by decide) ?_
  refine x_iald (pc' := 841) (N := 7) (x := 2) rfl rfl rfl (Eq.trans rdNthr (z_N_29_0 e)) (io_in (p := 2) (N := 7) (by decide) (by decide)) (Eq.trans (congrArg (sA (sThr t) 29 0) (nn_io (p := 2) (by decide))) (Eq.trans rdAthr (Eq.trans (z_A_29_0_2 e) e1))) ?_
  refine x_aload_n (pc' := 842) rfl rfl rfl rfl rfl ?_
  refine x_iload (pc' := 844) rfl rfl rfl ?_
  refine x_iconst (pc' := 845) rfl rfl ?_
  refine x_iadd (pc' := 846) (z := 3) rfl rfl (by decide) ?_
  refine x_iald (pc' := 847) (N := 7) (x := (xs 3)) rfl rfl rfl (Eq.trans rdNthr (z_N_29_0 e)) (io_in (p := 3) (N := 7) (by decide) (by decide)) (Eq.trans (congrArg (sA (sThr t) 29 0) (nn_io (p := 3) (by decide))) (Eq.trans rdAthr (z_A_29_0_3 e))) ?_
  refine x_cv (ls0 := [_, _, _, _, sJk, sJk]) (rest := []) rfl rfl rfl rfl rfl ?_
  refine x_iload_n (pc' := 1) rfl rfl rfl ?_
  refine x_iconst (pc' := 2) rfl rfl ?_
  refine x_iconst (pc' := 3) rfl rfl ?_
  refine x_cs (ls0 := [_, _, _]) (rest := []) rfl rfl rfl rfl ?_
  refine x_iload_n (pc' := 1) rfl rfl rfl ?_
  refine x_iload_n (pc' := 2) rfl rfl rfl ?_
  refine x_icmp (a' := 14) (pc' := 5) (z := decide ((xs 1) < 0)) rfl rfl rfl rfl (fun _ => ?_) (fun h => absurd e0 (of_decide_eq_false h))
  refine x_iconst (pc' := 15) rfl rfl ?_
  refine x_retz (z := false) rfl rfl ?_
  refine sK_i (pc' := 6) rfl ?_
  refine x_if (a' := 20) (pc' := 9) (z := true) rfl rfl rfl (by decide) (fun _ => ?_) (fun h => by cases h)
  refine x_iconst (pc' := 21) rfl rfl ?_
  refine x_istore (pc' := 23) (ls' := [_, _, _, _, _, _]) rfl rfl rfl rfl ?_
  refine x_aload_n (pc' := 24) rfl rfl rfl rfl rfl ?_
  refine x_iload (pc' := 26) rfl rfl rfl ?_
  refine x_if (a' := 33) (pc' := 29) (z := false) rfl rfl rfl (by decide) (fun h => by cases h) (fun _ => ?_)
  refine x_iconst (pc' := 30) rfl rfl ?_
  refine x_goto (pc' := 51) rfl rfl ?_
  refine x_cv (ls0 := [_, _]) (rest := []) rfl rfl rfl rfl rfl ?_
  refine x_aload_n (pc' := 1) rfl rfl rfl rfl rfl ?_
  refine x_iload_n (pc' := 2) rfl rfl rfl ?_
  refine x_pI (pc' := 5) rfl rfl rfl ?_
  refine x_iload_n (pc' := 6) rfl rfl rfl ?_
  refine x_if (a' := 13) (pc' := 9) (z := true) rfl rfl rfl (by decide) (fun _ => ?_) (fun h => by cases h)
  refine x_iconst (pc' := 14) rfl rfl ?_
  refine x_retz (z := false) rfl rfl ?_
  refine sK_i (pc' := 54) rfl ?_
  refine x_if (a' := 59) (pc' := 57) (z := false) rfl rfl rfl (by decide) (fun h => by cases h) (fun _ => ?_)
  refine x_iconst (pc' := 58) rfl rfl ?_
  refine x_reti rfl rfl ?_
  refine sK_i (pc' := 850) rfl ?_
  refine x_istore (pc' := 852) (ls' := [_, _, _, _, _, _, _]) rfl rfl rfl rfl ?_
  refine x_aload_n (pc' := 853) rfl rfl rfl rfl rfl ?_
  refine x_cv (ls0 := [_]) (rest := []) rfl rfl rfl rfl rfl ?_
  refine x_aload_n (pc' := 1) rfl rfl rfl rfl rfl ?_
  refine x_gI (pc' := 4) (x := 1) rfl rfl rfl sI_s ?_
  refine x_reti rfl rfl ?_
  refine sK_i (pc' := 856) rfl ?_
  refine x_iload (pc' := 858) rfl rfl rfl ?_
  refine x_icmp (a' := 863) (pc' := 861) (z := true) rfl rfl rfl (by decide) (fun _ => ?_) (fun h => by cases h)
  refine x_iload (pc' := 865) rfl rfl rfl ?_
  refine x_if (a' := 880) (pc' := 868) (z := true) rfl rfl rfl (by decide) (fun _ => ?_) (fun h => by cases h)
  refine x_goto (pc' := 2938) rfl rfl ?_
  refine x_iinc (pc' := 2941) (y := 7) (ls' := [_, _, _, _, _, _, _]) rfl rfl rfl rfl rfl ?_
  refine x_goto (pc' := 23) rfl rfl ?_
  refine x_iload (pc' := 25) rfl rfl rfl ?_
  refine x_aload_n (pc' := 26) rfl rfl rfl rfl rfl ?_
  refine x_alen (pc' := 27) (N := 7) rfl rfl rfl (Eq.trans rdNI (Eq.trans rdNthr (z_N_29_0 e))) (?_ : X _ _ _ (.inl 7 :: _) _ _)
  refine x_bipush (pc' := 29) rfl rfl ?_
  refine x_isub (pc' := 30) (z := 0) rfl rfl (by decide) ?_
  refine x_icmp (a' := 2944) (pc' := 33) (z := true) rfl rfl rfl (by decide) (fun _ => ?_) (fun h => by cases h)
  refine x_iconst (pc' := 2945) rfl rfl ?_
  refine x_retz (z := true) rfl rfl ?_
  exact Qp_ok e (p := 1) (q := 6) rfl rfl rfl rfl
set_option maxHeartbeats 4000000 in
set_option maxRecDepth 10000 in
theorem v_9_A_A_i {t : sT} {xs : Nat → Int32}
    (e : t = T16 7 xs)
    (hk : ((xs 0) &&& 63) = 9)
    (e0 : (xs 1) < 0)
    (e1 : (xs 2) < 0) :
    X 297 23 [.inr (.inr (29, (some 0))), .inr (.inr (11, (some 0))), .inr (.inr (12, (some 0))), .inr (.inr (23, (some 0))), .inl 0, sJk, sJk] [] t Qp := by
  refine x_iload (pc' := 25) rfl rfl rfl ?_
  refine x_aload_n (pc' := 26) rfl rfl rfl rfl rfl ?_
  refine x_alen (pc' := 27) (N := 7) rfl rfl rfl (z_N_29_0 e) (?_ : X _ _ _ (.inl 7 :: _) _ _)
  refine x_bipush (pc' := 29) rfl rfl ?_
  refine x_isub (pc' := 30) (z := 0) rfl rfl (by decide) ?_
  refine x_icmp (a' := 2944) (pc' := 33) (z := false) rfl rfl rfl (by decide) (fun h => by cases h) (fun _ => ?_)
  refine x_aload_n (pc' := 34) rfl rfl rfl rfl rfl ?_
  refine x_iload (pc' := 36) rfl rfl rfl ?_
  refine x_iald (pc' := 37) (N := 7) (x := (xs 0)) rfl rfl rfl (z_N_29_0 e) (io_in (p := 0) (N := 7) (by decide) (by decide)) (Eq.trans (congrArg (sA t 29 0) (nn_io (p := 0) (by decide))) (z_A_29_0_0 e)) ?_
  refine x_bipush (pc' := 39) rfl rfl ?_
  refine x_iand (pc' := 40) (z := ((xs 0) &&& 63)) rfl rfl rfl ?_
  refine x_switch (pc' := 803) rfl (by rw [hk]; decide) ?_
  refine x_aload_n (pc' := 804) rfl rfl rfl rfl rfl ?_
  refine x_aload_n (pc' := 805) rfl rfl rfl rfl rfl ?_
  refine x_iload (pc' := 807) rfl rfl rfl ?_
  refine x_iconst (pc' := 808) rfl rfl ?_
  refine x_iadd (pc' := 809) (z := 1) rfl rfl (by decide) ?_
  refine x_iald (pc' := 810) (N := 7) (x := (xs 1)) rfl rfl rfl (z_N_29_0 e) (io_in (p := 1) (N := 7) (by decide) (by decide)) (Eq.trans (congrArg (sA t 29 0) (nn_io (p := 1) (by decide))) (z_A_29_0_1 e)) ?_
  refine x_aload_n (pc' := 811) rfl rfl rfl rfl rfl ?_
  refine x_iload (pc' := 813) rfl rfl rfl ?_
  refine x_iconst (pc' := 814) rfl rfl ?_
  refine x_iadd (pc' := 815) (z := 2) rfl rfl (by decide) ?_
  refine x_iald (pc' := 816) (N := 7) (x := (xs 2)) rfl rfl rfl (z_N_29_0 e) (io_in (p := 2) (N := 7) (by decide) (by decide)) (Eq.trans (congrArg (sA t 29 0) (nn_io (p := 2) (by decide))) (z_A_29_0_2 e)) ?_
  refine x_aload_n (pc' := 817) rfl rfl rfl rfl rfl ?_
  refine x_iload (pc' := 819) rfl rfl rfl ?_
  refine x_iconst (pc' := 820) rfl rfl ?_
  refine x_iadd (pc' := 821) (z := 3) rfl rfl (by decide) ?_
  refine x_iald (pc' := 822) (N := 7) (x := (xs 3)) rfl rfl rfl (z_N_29_0 e) (io_in (p := 3) (N := 7) (by decide) (by decide)) (Eq.trans (congrArg (sA t 29 0) (nn_io (p := 3) (by decide))) (z_A_29_0_3 e)) ?_
  refine x_aload_n (pc' := 823) rfl rfl rfl rfl rfl ?_
  refine x_cs (ls0 := [_, _, _, _, _, sJk]) (rest := []) rfl rfl rfl rfl ?_
  refine x_aload (pc' := 2) rfl rfl rfl rfl rfl ?_
  refine x_iconst (pc' := 3) rfl rfl ?_
  refine x_aload_n (pc' := 4) rfl rfl rfl rfl rfl ?_
  refine x_iload_n (pc' := 5) rfl rfl rfl ?_
  refine x_iload_n (pc' := 6) rfl rfl rfl ?_
  refine x_iload_n (pc' := 7) rfl rfl rfl ?_
  refine x_cv (ls0 := [_, _, _, _, sJk]) (rest := [_, _]) rfl rfl rfl rfl rfl ?_
  refine x_iload_n (pc' := 1) rfl rfl rfl ?_
  refine x_bipush (pc' := 3) rfl rfl ?_
  refine x_cs (ls0 := [_, _]) (rest := []) rfl rfl rfl rfl ?_
  refine x_iload_n (pc' := 1) rfl rfl rfl ?_
  refine x_if (a' := 9) (pc' := 4) (z := decide ((xs 1) < 0)) rfl rfl rfl rfl (fun _ => ?_) (fun h => absurd e0 (of_decide_eq_false h))
  refine x_throw rfl rfl ?_
  refine sK_n (by decide +kernel) rfl ?_
  refine sK_h (h := 15) (by decide +kernel) rfl ?_
  refine x_catch (pc' := 17) (ls' := [_, _, _, _, _, _]) rfl rfl rfl rfl ?_
  refine x_iconst (pc' := 18) rfl rfl ?_
  refine x_reti rfl rfl ?_
  refine sK_i (pc' := 826) rfl ?_
  refine x_istore (pc' := 828) (ls' := [_, _, _, _, _, _, _]) rfl rfl rfl rfl ?_
  refine x_aload_n (pc' := 829) rfl rfl rfl rfl rfl ?_
  refine x_aload_n (pc' := 830) rfl rfl rfl rfl rfl ?_
  refine x_iload (pc' := 832) rfl rfl rfl ?_
  refine x_iconst (pc' := 833) rfl rfl ?_
  refine x_iadd (pc' := 834) (z := 1) rfl rfl (by decide) ?_
  refine x_iald (pc' := 835) (N := 7) (x := (xs 1)) rfl rfl rfl (Eq.trans rdNthr (z_N_29_0 e)) (io_in (p := 1) (N := 7) (by decide) (by decide)) (Eq.trans (congrArg (sA (sThr t) 29 0) (nn_io (p := 1) (by decide))) (Eq.trans rdAthr (z_A_29_0_1 e))) ?_
  refine x_aload_n (pc' := 836) rfl rfl rfl rfl rfl ?_
  refine x_iload (pc' := 838) rfl rfl rfl ?_
  refine x_iconst (pc' := 839) rfl rfl ?_
  refine x_iadd (pc' := 840) (z := 2) rfl rfl (by decide) ?_
  refine x_iald (pc' := 841) (N := 7) (x := (xs 2)) rfl rfl rfl (Eq.trans rdNthr (z_N_29_0 e)) (io_in (p := 2) (N := 7) (by decide) (by decide)) (Eq.trans (congrArg (sA (sThr t) 29 0) (nn_io (p := 2) (by decide))) (Eq.trans rdAthr (z_A_29_0_2 e))) ?_
  refine x_aload_n (pc' := 842) rfl rfl rfl rfl rfl ?_
  refine x_iload (pc' := 844) rfl rfl rfl ?_
  refine x_iconst (pc' := 845) rfl rfl ?_
  refine x_iadd (pc' := 846) (z := 3) rfl rfl (by decide) ?_
  refine x_iald (pc' := 847) (N := 7) (x := (xs 3)) rfl rfl rfl (Eq.trans rdNthr (z_N_29_0 e)) (io_in (p := 3) (N := 7) (by decide) (by decide)) (Eq.trans (congrArg (sA (sThr t) 29 0) (nn_io (p := 3) (by decide))) (Eq.trans rdAthr (z_A_29_0_3 e))) ?_
  refine x_cv (ls0 := [_, _, _, _, sJk, sJk]) (rest := []) rfl rfl rfl rfl rfl ?_
  refine x_iload_n (pc' := 1) rfl rfl rfl ?_
  refine x_iconst (pc' := 2) rfl rfl ?_
  refine x_iconst (pc' := 3) rfl rfl ?_
  refine x_cs (ls0 := [_, _, _]) (rest := []) rfl rfl rfl rfl ?_
  refine x_iload_n (pc' := 1) rfl rfl rfl ?_
  refine x_iload_n (pc' := 2) rfl rfl rfl ?_
  refine x_icmp (a' := 14) (pc' := 5) (z := decide ((xs 1) < 0)) rfl rfl rfl rfl (fun _ => ?_) (fun h => absurd e0 (of_decide_eq_false h))
  refine x_iconst (pc' := 15) rfl rfl ?_
  refine x_retz (z := false) rfl rfl ?_
  refine sK_i (pc' := 6) rfl ?_
  refine x_if (a' := 20) (pc' := 9) (z := true) rfl rfl rfl (by decide) (fun _ => ?_) (fun h => by cases h)
  refine x_iconst (pc' := 21) rfl rfl ?_
  refine x_istore (pc' := 23) (ls' := [_, _, _, _, _, _]) rfl rfl rfl rfl ?_
  refine x_aload_n (pc' := 24) rfl rfl rfl rfl rfl ?_
  refine x_iload (pc' := 26) rfl rfl rfl ?_
  refine x_if (a' := 33) (pc' := 29) (z := false) rfl rfl rfl (by decide) (fun h => by cases h) (fun _ => ?_)
  refine x_iconst (pc' := 30) rfl rfl ?_
  refine x_goto (pc' := 51) rfl rfl ?_
  refine x_cv (ls0 := [_, _]) (rest := []) rfl rfl rfl rfl rfl ?_
  refine x_aload_n (pc' := 1) rfl rfl rfl rfl rfl ?_
  refine x_iload_n (pc' := 2) rfl rfl rfl ?_
  refine x_pI (pc' := 5) rfl rfl rfl ?_
  refine x_iload_n (pc' := 6) rfl rfl rfl ?_
  refine x_if (a' := 13) (pc' := 9) (z := true) rfl rfl rfl (by decide) (fun _ => ?_) (fun h => by cases h)
  refine x_iconst (pc' := 14) rfl rfl ?_
  refine x_retz (z := false) rfl rfl ?_
  refine sK_i (pc' := 54) rfl ?_
  refine x_if (a' := 59) (pc' := 57) (z := false) rfl rfl rfl (by decide) (fun h => by cases h) (fun _ => ?_)
  refine x_iconst (pc' := 58) rfl rfl ?_
  refine x_reti rfl rfl ?_
  refine sK_i (pc' := 850) rfl ?_
  refine x_istore (pc' := 852) (ls' := [_, _, _, _, _, _, _]) rfl rfl rfl rfl ?_
  refine x_aload_n (pc' := 853) rfl rfl rfl rfl rfl ?_
  refine x_cv (ls0 := [_]) (rest := []) rfl rfl rfl rfl rfl ?_
  refine x_aload_n (pc' := 1) rfl rfl rfl rfl rfl ?_
  refine x_gI (pc' := 4) (x := 1) rfl rfl rfl sI_s ?_
  refine x_reti rfl rfl ?_
  refine sK_i (pc' := 856) rfl ?_
  refine x_iload (pc' := 858) rfl rfl rfl ?_
  refine x_icmp (a' := 863) (pc' := 861) (z := true) rfl rfl rfl (by decide) (fun _ => ?_) (fun h => by cases h)
  refine x_iload (pc' := 865) rfl rfl rfl ?_
  refine x_if (a' := 880) (pc' := 868) (z := true) rfl rfl rfl (by decide) (fun _ => ?_) (fun h => by cases h)
  refine x_goto (pc' := 2938) rfl rfl ?_
  refine x_iinc (pc' := 2941) (y := 7) (ls' := [_, _, _, _, _, _, _]) rfl rfl rfl rfl rfl ?_
  refine x_goto (pc' := 23) rfl rfl ?_
  refine x_iload (pc' := 25) rfl rfl rfl ?_
  refine x_aload_n (pc' := 26) rfl rfl rfl rfl rfl ?_
  refine x_alen (pc' := 27) (N := 7) rfl rfl rfl (Eq.trans rdNI (Eq.trans rdNthr (z_N_29_0 e))) (?_ : X _ _ _ (.inl 7 :: _) _ _)
  refine x_bipush (pc' := 29) rfl rfl ?_
  refine x_isub (pc' := 30) (z := 0) rfl rfl (by decide) ?_
  refine x_icmp (a' := 2944) (pc' := 33) (z := true) rfl rfl rfl (by decide) (fun _ => ?_) (fun h => by cases h)
  refine x_iconst (pc' := 2945) rfl rfl ?_
  refine x_retz (z := true) rfl rfl ?_
  exact Qp_ok e (p := 1) (q := 6) rfl rfl rfl rfl
set_option maxHeartbeats 4000000 in
set_option maxRecDepth 10000 in
theorem v_9_A_B_i {t : sT} {xs : Nat → Int32}
    (e : t = T16 7 xs)
    (hk : ((xs 0) &&& 63) = 9)
    (e0 : (xs 1) < 0)
    (e1 : ¬ (xs 2) < 0)
    (f1 : ¬ (xs 2) < 3) :
    X 297 23 [.inr (.inr (29, (some 0))), .inr (.inr (11, (some 0))), .inr (.inr (12, (some 0))), .inr (.inr (23, (some 0))), .inl 0, sJk, sJk] [] t Qp := by
  refine x_iload (pc' := 25) rfl rfl rfl ?_
  refine x_aload_n (pc' := 26) rfl rfl rfl rfl rfl ?_
  refine x_alen (pc' := 27) (N := 7) rfl rfl rfl (z_N_29_0 e) (?_ : X _ _ _ (.inl 7 :: _) _ _)
  refine x_bipush (pc' := 29) rfl rfl ?_
  refine x_isub (pc' := 30) (z := 0) rfl rfl (by decide) ?_
  refine x_icmp (a' := 2944) (pc' := 33) (z := false) rfl rfl rfl (by decide) (fun h => by cases h) (fun _ => ?_)
  refine x_aload_n (pc' := 34) rfl rfl rfl rfl rfl ?_
  refine x_iload (pc' := 36) rfl rfl rfl ?_
  refine x_iald (pc' := 37) (N := 7) (x := (xs 0)) rfl rfl rfl (z_N_29_0 e) (io_in (p := 0) (N := 7) (by decide) (by decide)) (Eq.trans (congrArg (sA t 29 0) (nn_io (p := 0) (by decide))) (z_A_29_0_0 e)) ?_
  refine x_bipush (pc' := 39) rfl rfl ?_
  refine x_iand (pc' := 40) (z := ((xs 0) &&& 63)) rfl rfl rfl ?_
  refine x_switch (pc' := 803) rfl (by rw [hk]; decide) ?_
  refine x_aload_n (pc' := 804) rfl rfl rfl rfl rfl ?_
  refine x_aload_n (pc' := 805) rfl rfl rfl rfl rfl ?_
  refine x_iload (pc' := 807) rfl rfl rfl ?_
  refine x_iconst (pc' := 808) rfl rfl ?_
  refine x_iadd (pc' := 809) (z := 1) rfl rfl (by decide) ?_
  refine x_iald (pc' := 810) (N := 7) (x := (xs 1)) rfl rfl rfl (z_N_29_0 e) (io_in (p := 1) (N := 7) (by decide) (by decide)) (Eq.trans (congrArg (sA t 29 0) (nn_io (p := 1) (by decide))) (z_A_29_0_1 e)) ?_
  refine x_aload_n (pc' := 811) rfl rfl rfl rfl rfl ?_
  refine x_iload (pc' := 813) rfl rfl rfl ?_
  refine x_iconst (pc' := 814) rfl rfl ?_
  refine x_iadd (pc' := 815) (z := 2) rfl rfl (by decide) ?_
  refine x_iald (pc' := 816) (N := 7) (x := (xs 2)) rfl rfl rfl (z_N_29_0 e) (io_in (p := 2) (N := 7) (by decide) (by decide)) (Eq.trans (congrArg (sA t 29 0) (nn_io (p := 2) (by decide))) (z_A_29_0_2 e)) ?_
  refine x_aload_n (pc' := 817) rfl rfl rfl rfl rfl ?_
  refine x_iload (pc' := 819) rfl rfl rfl ?_
  refine x_iconst (pc' := 820) rfl rfl ?_
  refine x_iadd (pc' := 821) (z := 3) rfl rfl (by decide) ?_
  refine x_iald (pc' := 822) (N := 7) (x := (xs 3)) rfl rfl rfl (z_N_29_0 e) (io_in (p := 3) (N := 7) (by decide) (by decide)) (Eq.trans (congrArg (sA t 29 0) (nn_io (p := 3) (by decide))) (z_A_29_0_3 e)) ?_
  refine x_aload_n (pc' := 823) rfl rfl rfl rfl rfl ?_
  refine x_cs (ls0 := [_, _, _, _, _, sJk]) (rest := []) rfl rfl rfl rfl ?_
  refine x_aload (pc' := 2) rfl rfl rfl rfl rfl ?_
  refine x_iconst (pc' := 3) rfl rfl ?_
  refine x_aload_n (pc' := 4) rfl rfl rfl rfl rfl ?_
  refine x_iload_n (pc' := 5) rfl rfl rfl ?_
  refine x_iload_n (pc' := 6) rfl rfl rfl ?_
  refine x_iload_n (pc' := 7) rfl rfl rfl ?_
  refine x_cv (ls0 := [_, _, _, _, sJk]) (rest := [_, _]) rfl rfl rfl rfl rfl ?_
  refine x_iload_n (pc' := 1) rfl rfl rfl ?_
  refine x_bipush (pc' := 3) rfl rfl ?_
  refine x_cs (ls0 := [_, _]) (rest := []) rfl rfl rfl rfl ?_
  refine x_iload_n (pc' := 1) rfl rfl rfl ?_
  refine x_if (a' := 9) (pc' := 4) (z := decide ((xs 1) < 0)) rfl rfl rfl rfl (fun _ => ?_) (fun h => absurd e0 (of_decide_eq_false h))
  refine x_throw rfl rfl ?_
  refine sK_n (by decide +kernel) rfl ?_
  refine sK_h (h := 15) (by decide +kernel) rfl ?_
  refine x_catch (pc' := 17) (ls' := [_, _, _, _, _, _]) rfl rfl rfl rfl ?_
  refine x_iconst (pc' := 18) rfl rfl ?_
  refine x_reti rfl rfl ?_
  refine sK_i (pc' := 826) rfl ?_
  refine x_istore (pc' := 828) (ls' := [_, _, _, _, _, _, _]) rfl rfl rfl rfl ?_
  refine x_aload_n (pc' := 829) rfl rfl rfl rfl rfl ?_
  refine x_aload_n (pc' := 830) rfl rfl rfl rfl rfl ?_
  refine x_iload (pc' := 832) rfl rfl rfl ?_
  refine x_iconst (pc' := 833) rfl rfl ?_
  refine x_iadd (pc' := 834) (z := 1) rfl rfl (by decide) ?_
  refine x_iald (pc' := 835) (N := 7) (x := (xs 1)) rfl rfl rfl (Eq.trans rdNthr (z_N_29_0 e)) (io_in (p := 1) (N := 7) (by decide) (by decide)) (Eq.trans (congrArg (sA (sThr t) 29 0) (nn_io (p := 1) (by decide))) (Eq.trans rdAthr (z_A_29_0_1 e))) ?_
  refine x_aload_n (pc' := 836) rfl rfl rfl rfl rfl ?_
  refine x_iload (pc' := 838) rfl rfl rfl ?_
  refine x_iconst (pc' := 839) rfl rfl ?_
  refine x_iadd (pc' := 840) (z := 2) rfl rfl (by decide) ?_
  refine x_iald (pc' := 841) (N := 7) (x := (xs 2)) rfl rfl rfl (Eq.trans rdNthr (z_N_29_0 e)) (io_in (p := 2) (N := 7) (by decide) (by decide)) (Eq.trans (congrArg (sA (sThr t) 29 0) (nn_io (p := 2) (by decide))) (Eq.trans rdAthr (z_A_29_0_2 e))) ?_
  refine x_aload_n (pc' := 842) rfl rfl rfl rfl rfl ?_
  refine x_iload (pc' := 844) rfl rfl rfl ?_
  refine x_iconst (pc' := 845) rfl rfl ?_
  refine x_iadd (pc' := 846) (z := 3) rfl rfl (by decide) ?_
  refine x_iald (pc' := 847) (N := 7) (x := (xs 3)) rfl rfl rfl (Eq.trans rdNthr (z_N_29_0 e)) (io_in (p := 3) (N := 7) (by decide) (by decide)) (Eq.trans (congrArg (sA (sThr t) 29 0) (nn_io (p := 3) (by decide))) (Eq.trans rdAthr (z_A_29_0_3 e))) ?_
  refine x_cv (ls0 := [_, _, _, _, sJk, sJk]) (rest := []) rfl rfl rfl rfl rfl ?_
  refine x_iload_n (pc' := 1) rfl rfl rfl ?_
  refine x_iconst (pc' := 2) rfl rfl ?_
  refine x_iconst (pc' := 3) rfl rfl ?_
  refine x_cs (ls0 := [_, _, _]) (rest := []) rfl rfl rfl rfl ?_
  refine x_iload_n (pc' := 1) rfl rfl rfl ?_
  refine x_iload_n (pc' := 2) rfl rfl rfl ?_
  refine x_icmp (a' := 14) (pc' := 5) (z := decide ((xs 1) < 0)) rfl rfl rfl rfl (fun _ => ?_) (fun h => absurd e0 (of_decide_eq_false h))
  refine x_iconst (pc' := 15) rfl rfl ?_
  refine x_retz (z := false) rfl rfl ?_
  refine sK_i (pc' := 6) rfl ?_
  refine x_if (a' := 20) (pc' := 9) (z := true) rfl rfl rfl (by decide) (fun _ => ?_) (fun h => by cases h)
  refine x_iconst (pc' := 21) rfl rfl ?_
  refine x_istore (pc' := 23) (ls' := [_, _, _, _, _, _]) rfl rfl rfl rfl ?_
  refine x_aload_n (pc' := 24) rfl rfl rfl rfl rfl ?_
  refine x_iload (pc' := 26) rfl rfl rfl ?_
  refine x_if (a' := 33) (pc' := 29) (z := false) rfl rfl rfl (by decide) (fun h => by cases h) (fun _ => ?_)
  refine x_iconst (pc' := 30) rfl rfl ?_
  refine x_goto (pc' := 51) rfl rfl ?_
  refine x_cv (ls0 := [_, _]) (rest := []) rfl rfl rfl rfl rfl ?_
  refine x_aload_n (pc' := 1) rfl rfl rfl rfl rfl ?_
  refine x_iload_n (pc' := 2) rfl rfl rfl ?_
  refine x_pI (pc' := 5) rfl rfl rfl ?_
  refine x_iload_n (pc' := 6) rfl rfl rfl ?_
  refine x_if (a' := 13) (pc' := 9) (z := true) rfl rfl rfl (by decide) (fun _ => ?_) (fun h => by cases h)
  refine x_iconst (pc' := 14) rfl rfl ?_
  refine x_retz (z := false) rfl rfl ?_
  refine sK_i (pc' := 54) rfl ?_
  refine x_if (a' := 59) (pc' := 57) (z := false) rfl rfl rfl (by decide) (fun h => by cases h) (fun _ => ?_)
  refine x_iconst (pc' := 58) rfl rfl ?_
  refine x_reti rfl rfl ?_
  refine sK_i (pc' := 850) rfl ?_
  refine x_istore (pc' := 852) (ls' := [_, _, _, _, _, _, _]) rfl rfl rfl rfl ?_
  refine x_aload_n (pc' := 853) rfl rfl rfl rfl rfl ?_
  refine x_cv (ls0 := [_]) (rest := []) rfl rfl rfl rfl rfl ?_
  refine x_aload_n (pc' := 1) rfl rfl rfl rfl rfl ?_
  refine x_gI (pc' := 4) (x := 1) rfl rfl rfl sI_s ?_
  refine x_reti rfl rfl ?_
  refine sK_i (pc' := 856) rfl ?_
  refine x_iload (pc' := 858) rfl rfl rfl ?_
  refine x_icmp (a' := 863) (pc' := 861) (z := true) rfl rfl rfl (by decide) (fun _ => ?_) (fun h => by cases h)
  refine x_iload (pc' := 865) rfl rfl rfl ?_
  refine x_if (a' := 880) (pc' := 868) (z := true) rfl rfl rfl (by decide) (fun _ => ?_) (fun h => by cases h)
  refine x_goto (pc' := 2938) rfl rfl ?_
  refine x_iinc (pc' := 2941) (y := 7) (ls' := [_, _, _, _, _, _, _]) rfl rfl rfl rfl rfl ?_
  refine x_goto (pc' := 23) rfl rfl ?_
  refine x_iload (pc' := 25) rfl rfl rfl ?_
  refine x_aload_n (pc' := 26) rfl rfl rfl rfl rfl ?_
  refine x_alen (pc' := 27) (N := 7) rfl rfl rfl (Eq.trans rdNI (Eq.trans rdNthr (z_N_29_0 e))) (?_ : X _ _ _ (.inl 7 :: _) _ _)
  refine x_bipush (pc' := 29) rfl rfl ?_
  refine x_isub (pc' := 30) (z := 0) rfl rfl (by decide) ?_
  refine x_icmp (a' := 2944) (pc' := 33) (z := true) rfl rfl rfl (by decide) (fun _ => ?_) (fun h => by cases h)
  refine x_iconst (pc' := 2945) rfl rfl ?_
  refine x_retz (z := true) rfl rfl ?_
  exact Qp_ok e (p := 1) (q := 6) rfl rfl rfl rfl
set_option maxHeartbeats 4000000 in
set_option maxRecDepth 10000 in
theorem v_9_B_0_i {t : sT} {xs : Nat → Int32}
    (e : t = T16 7 xs)
    (hk : ((xs 0) &&& 63) = 9)
    (e0 : ¬ (xs 1) < 0)
    (f0 : ¬ (xs 1) < 6)
    (e1 : xs 2 = 0) :
    X 297 23 [.inr (.inr (29, (some 0))), .inr (.inr (11, (some 0))), .inr (.inr (12, (some 0))), .inr (.inr (23, (some 0))), .inl 0, sJk, sJk] [] t Qp := by
  refine x_iload (pc' := 25) rfl rfl rfl ?_
  refine x_aload_n (pc' := 26) rfl rfl rfl rfl rfl ?_
  refine x_alen (pc' := 27) (N := 7) rfl rfl rfl (z_N_29_0 e) (?_ : X _ _ _ (.inl 7 :: _) _ _)
  refine x_bipush (pc' := 29) rfl rfl ?_
  refine x_isub (pc' := 30) (z := 0) rfl rfl (by decide) ?_
  refine x_icmp (a' := 2944) (pc' := 33) (z := false) rfl rfl rfl (by decide) (fun h => by cases h) (fun _ => ?_)
  refine x_aload_n (pc' := 34) rfl rfl rfl rfl rfl ?_
  refine x_iload (pc' := 36) rfl rfl rfl ?_
  refine x_iald (pc' := 37) (N := 7) (x := (xs 0)) rfl rfl rfl (z_N_29_0 e) (io_in (p := 0) (N := 7) (by decide) (by decide)) (Eq.trans (congrArg (sA t 29 0) (nn_io (p := 0) (by decide))) (z_A_29_0_0 e)) ?_
  refine x_bipush (pc' := 39) rfl rfl ?_
  refine x_iand (pc' := 40) (z := ((xs 0) &&& 63)) rfl rfl rfl ?_
  refine x_switch (pc' := 803) rfl (by rw [hk]; decide) ?_
  refine x_aload_n (pc' := 804) rfl rfl rfl rfl rfl ?_
  refine x_aload_n (pc' := 805) rfl rfl rfl rfl rfl ?_
  refine x_iload (pc' := 807) rfl rfl rfl ?_
  refine x_iconst (pc' := 808) rfl rfl ?_
  refine x_iadd (pc' := 809) (z := 1) rfl rfl (by decide) ?_
  refine x_iald (pc' := 810) (N := 7) (x := (xs 1)) rfl rfl rfl (z_N_29_0 e) (io_in (p := 1) (N := 7) (by decide) (by decide)) (Eq.trans (congrArg (sA t 29 0) (nn_io (p := 1) (by decide))) (z_A_29_0_1 e)) ?_
  refine x_aload_n (pc' := 811) rfl rfl rfl rfl rfl ?_
  refine x_iload (pc' := 813) rfl rfl rfl ?_
  refine x_iconst (pc' := 814) rfl rfl ?_
  refine x_iadd (pc' := 815) (z := 2) rfl rfl (by decide) ?_
  refine x_iald (pc' := 816) (N := 7) (x := 0) rfl rfl rfl (z_N_29_0 e) (io_in (p := 2) (N := 7) (by decide) (by decide)) (Eq.trans (congrArg (sA t 29 0) (nn_io (p := 2) (by decide))) (Eq.trans (z_A_29_0_2 e) e1)) ?_
  refine x_aload_n (pc' := 817) rfl rfl rfl rfl rfl ?_
  refine x_iload (pc' := 819) rfl rfl rfl ?_
  refine x_iconst (pc' := 820) rfl rfl ?_
  refine x_iadd (pc' := 821) (z := 3) rfl rfl (by decide) ?_
  refine x_iald (pc' := 822) (N := 7) (x := (xs 3)) rfl rfl rfl (z_N_29_0 e) (io_in (p := 3) (N := 7) (by decide) (by decide)) (Eq.trans (congrArg (sA t 29 0) (nn_io (p := 3) (by decide))) (z_A_29_0_3 e)) ?_
  refine x_aload_n (pc' := 823) rfl rfl rfl rfl rfl ?_
  refine x_cs (ls0 := [_, _, _, _, _, sJk]) (rest := []) rfl rfl rfl rfl ?_
  refine x_aload (pc' := 2) rfl rfl rfl rfl rfl ?_
  refine x_iconst (pc' := 3) rfl rfl ?_
  refine x_aload_n (pc' := 4) rfl rfl rfl rfl rfl ?_
  refine x_iload_n (pc' := 5) rfl rfl rfl ?_
  refine x_iload_n (pc' := 6) rfl rfl rfl ?_
  refine x_iload_n (pc' := 7) rfl rfl rfl ?_
  refine x_cv (ls0 := [_, _, _, _, sJk]) (rest := [_, _]) rfl rfl rfl rfl rfl ?_
  refine x_iload_n (pc' := 1) rfl rfl rfl ?_
  refine x_bipush (pc' := 3) rfl rfl ?_
  refine x_cs (ls0 := [_, _]) (rest := []) rfl rfl rfl rfl ?_
  refine x_iload_n (pc' := 1) rfl rfl rfl ?_
  refine x_if (a' := 9) (pc' := 4) (z := decide ((xs 1) < 0)) rfl rfl rfl rfl (fun h => absurd (of_decide_eq_true h) e0) (fun _ => ?_)
  refine x_iload_n (pc' := 5) rfl rfl rfl ?_
  refine x_iload_n (pc' := 6) rfl rfl rfl ?_
  refine x_icmp (a' := 20) (pc' := 9) (z := decide ((xs 1) < 6)) rfl rfl rfl rfl (fun h => absurd (of_decide_eq_true h) f0) (fun _ => ?_)
  refine x_throw rfl rfl ?_
  refine sK_n (by decide +kernel) rfl ?_
  refine sK_h (h := 15) (by decide +kernel) rfl ?_
  refine x_catch (pc' := 17) (ls' := [_, _, _, _, _, _]) rfl rfl rfl rfl ?_
  refine x_iconst (pc' := 18) rfl rfl ?_
  refine x_reti rfl rfl ?_
  refine sK_i (pc' := 826) rfl ?_
  refine x_istore (pc' := 828) (ls' := [_, _, _, _, _, _, _]) rfl rfl rfl rfl ?_
  refine x_aload_n (pc' := 829) rfl rfl rfl rfl rfl ?_
  refine x_aload_n (pc' := 830) rfl rfl rfl rfl rfl ?_
  refine x_iload (pc' := 832) rfl rfl rfl ?_
  refine x_iconst (pc' := 833) rfl rfl ?_
  refine x_iadd (pc' := 834) (z := 1) rfl rfl (by decide) ?_
  refine x_iald (pc' := 835) (N := 7) (x := (xs 1)) rfl rfl rfl (Eq.trans rdNthr (z_N_29_0 e)) (io_in (p := 1) (N := 7) (by decide) (by decide)) (Eq.trans (congrArg (sA (sThr t) 29 0) (nn_io (p := 1) (by decide))) (Eq.trans rdAthr (z_A_29_0_1 e))) ?_
  refine x_aload_n (pc' := 836) rfl rfl rfl rfl rfl ?_
  refine x_iload (pc' := 838) rfl rfl rfl ?_
  refine x_iconst (pc' := 839) rfl rfl ?_
  refine x_iadd (pc' := 840) (z := 2) rfl rfl (by decide) ?_
  refine x_iald (pc' := 841) (N := 7) (x := 0) rfl rfl rfl (Eq.trans rdNthr (z_N_29_0 e)) (io_in (p := 2) (N := 7) (by decide) (by decide)) (Eq.trans (congrArg (sA (sThr t) 29 0) (nn_io (p := 2) (by decide))) (Eq.trans rdAthr (Eq.trans (z_A_29_0_2 e) e1))) ?_
  refine x_aload_n (pc' := 842) rfl rfl rfl rfl rfl ?_
  refine x_iload (pc' := 844) rfl rfl rfl ?_
  refine x_iconst (pc' := 845) rfl rfl ?_
  refine x_iadd (pc' := 846) (z := 3) rfl rfl (by decide) ?_
  refine x_iald (pc' := 847) (N := 7) (x := (xs 3)) rfl rfl rfl (Eq.trans rdNthr (z_N_29_0 e)) (io_in (p := 3) (N := 7) (by decide) (by decide)) (Eq.trans (congrArg (sA (sThr t) 29 0) (nn_io (p := 3) (by decide))) (Eq.trans rdAthr (z_A_29_0_3 e))) ?_
  refine x_cv (ls0 := [_, _, _, _, sJk, sJk]) (rest := []) rfl rfl rfl rfl rfl ?_
  refine x_iload_n (pc' := 1) rfl rfl rfl ?_
  refine x_iconst (pc' := 2) rfl rfl ?_
  refine x_iconst (pc' := 3) rfl rfl ?_
  refine x_cs (ls0 := [_, _, _]) (rest := []) rfl rfl rfl rfl ?_
  refine x_iload_n (pc' := 1) rfl rfl rfl ?_
  refine x_iload_n (pc' := 2) rfl rfl rfl ?_
  refine x_icmp (a' := 14) (pc' := 5) (z := decide ((xs 1) < 0)) rfl rfl rfl rfl (fun h => absurd (of_decide_eq_true h) e0) (fun _ => ?_)
  refine x_iload_n (pc' := 6) rfl rfl rfl ?_
  refine x_iload_n (pc' := 7) rfl rfl rfl ?_
  refine x_icmp (a' := 14) (pc' := 10) (z := decide (5 < (xs 1))) rfl rfl rfl rfl (fun _ => ?_) (fun h => absurd (lt_of6 f0) (of_decide_eq_false h))
  refine x_iconst (pc' := 15) rfl rfl ?_
  refine x_retz (z := false) rfl rfl ?_
  refine sK_i (pc' := 6) rfl ?_
  refine x_if (a' := 20) (pc' := 9) (z := true) rfl rfl rfl (by decide) (fun _ => ?_) (fun h => by cases h)
  refine x_iconst (pc' := 21) rfl rfl ?_
  refine x_istore (pc' := 23) (ls' := [_, _, _, _, _, _]) rfl rfl rfl rfl ?_
  refine x_aload_n (pc' := 24) rfl rfl rfl rfl rfl ?_
  refine x_iload (pc' := 26) rfl rfl rfl ?_
  refine x_if (a' := 33) (pc' := 29) (z := false) rfl rfl rfl (by decide) (fun h => by cases h) (fun _ => ?_)
  refine x_iconst (pc' := 30) rfl rfl ?_
  refine x_goto (pc' := 51) rfl rfl ?_
  refine x_cv (ls0 := [_, _]) (rest := []) rfl rfl rfl rfl rfl ?_
  refine x_aload_n (pc' := 1) rfl rfl rfl rfl rfl ?_
  refine x_iload_n (pc' := 2) rfl rfl rfl ?_
  refine x_pI (pc' := 5) rfl rfl rfl ?_
  refine x_iload_n (pc' := 6) rfl rfl rfl ?_
  refine x_if (a' := 13) (pc' := 9) (z := true) rfl rfl rfl (by decide) (fun _ => ?_) (fun h => by cases h)
  refine x_iconst (pc' := 14) rfl rfl ?_
  refine x_retz (z := false) rfl rfl ?_
  refine sK_i (pc' := 54) rfl ?_
  refine x_if (a' := 59) (pc' := 57) (z := false) rfl rfl rfl (by decide) (fun h => by cases h) (fun _ => ?_)
  refine x_iconst (pc' := 58) rfl rfl ?_
  refine x_reti rfl rfl ?_
  refine sK_i (pc' := 850) rfl ?_
  refine x_istore (pc' := 852) (ls' := [_, _, _, _, _, _, _]) rfl rfl rfl rfl ?_
  refine x_aload_n (pc' := 853) rfl rfl rfl rfl rfl ?_
  refine x_cv (ls0 := [_]) (rest := []) rfl rfl rfl rfl rfl ?_
  refine x_aload_n (pc' := 1) rfl rfl rfl rfl rfl ?_
  refine x_gI (pc' := 4) (x := 1) rfl rfl rfl sI_s ?_
  refine x_reti rfl rfl ?_
  refine sK_i (pc' := 856) rfl ?_
  refine x_iload (pc' := 858) rfl rfl rfl ?_
  refine x_icmp (a' := 863) (pc' := 861) (z := true) rfl rfl rfl (by decide) (fun _ => ?_) (fun h => by cases h)
  refine x_iload (pc' := 865) rfl rfl rfl ?_
  refine x_if (a' := 880) (pc' := 868) (z := true) rfl rfl rfl (by decide) (fun _ => ?_) (fun h => by cases h)
  refine x_goto (pc' := 2938) rfl rfl ?_
  refine x_iinc (pc' := 2941) (y := 7) (ls' := [_, _, _, _, _, _, _]) rfl rfl rfl rfl rfl ?_
  refine x_goto (pc' := 23) rfl rfl ?_
  refine x_iload (pc' := 25) rfl rfl rfl ?_
  refine x_aload_n (pc' := 26) rfl rfl rfl rfl rfl ?_
  refine x_alen (pc' := 27) (N := 7) rfl rfl rfl (Eq.trans rdNI (Eq.trans rdNthr (z_N_29_0 e))) (?_ : X _ _ _ (.inl 7 :: _) _ _)
  refine x_bipush (pc' := 29) rfl rfl ?_
  refine x_isub (pc' := 30) (z := 0) rfl rfl (by decide) ?_
  refine x_icmp (a' := 2944) (pc' := 33) (z := true) rfl rfl rfl (by decide) (fun _ => ?_) (fun h => by cases h)
  refine x_iconst (pc' := 2945) rfl rfl ?_
  refine x_retz (z := true) rfl rfl ?_
  exact Qp_ok e (p := 1) (q := 6) rfl rfl rfl rfl
set_option maxHeartbeats 4000000 in
set_option maxRecDepth 10000 in
theorem v_9_B_1_i {t : sT} {xs : Nat → Int32}
    (e : t = T16 7 xs)
    (hk : ((xs 0) &&& 63) = 9)
    (e0 : ¬ (xs 1) < 0)
    (f0 : ¬ (xs 1) < 6)
    (e1 : xs 2 = 1) :
    X 297 23 [.inr (.inr (29, (some 0))), .inr (.inr (11, (some 0))), .inr (.inr (12, (some 0))), .inr (.inr (23, (some 0))), .inl 0, sJk, sJk] [] t Qp := by
  refine x_iload (pc' := 25) rfl rfl rfl ?_
  refine x_aload_n (pc' := 26) rfl rfl rfl rfl rfl ?_
  refine x_alen (pc' := 27) (N := 7) rfl rfl rfl (z_N_29_0 e) (?_ : X _ _ _ (.inl 7 :: _) _ _)
  refine x_bipush (pc' := 29) rfl rfl ?_
  refine x_isub (pc' := 30) (z := 0) rfl rfl (by decide) ?_
  refine x_icmp (a' := 2944) (pc' := 33) (z := false) rfl rfl rfl (by decide) (fun h => by cases h) (fun _ => ?_)
  refine x_aload_n (pc' := 34) rfl rfl rfl rfl rfl ?_
  refine x_iload (pc' := 36) rfl rfl rfl ?_
  refine x_iald (pc' := 37) (N := 7) (x := (xs 0)) rfl rfl rfl (z_N_29_0 e) (io_in (p := 0) (N := 7) (by decide) (by decide)) (Eq.trans (congrArg (sA t 29 0) (nn_io (p := 0) (by decide))) (z_A_29_0_0 e)) ?_
  refine x_bipush (pc' := 39) rfl rfl ?_
  refine x_iand (pc' := 40) (z := ((xs 0) &&& 63)) rfl rfl rfl ?_
  refine x_switch (pc' := 803) rfl (by rw [hk]; decide) ?_
  refine x_aload_n (pc' := 804) rfl rfl rfl rfl rfl ?_
  refine x_aload_n (pc' := 805) rfl rfl rfl rfl rfl ?_
  refine x_iload (pc' := 807) rfl rfl rfl ?_
  refine x_iconst (pc' := 808) rfl rfl ?_
  refine x_iadd (pc' := 809) (z := 1) rfl rfl (by decide) ?_
  refine x_iald (pc' := 810) (N := 7) (x := (xs 1)) rfl rfl rfl (z_N_29_0 e) (io_in (p := 1) (N := 7) (by decide) (by decide)) (Eq.trans (congrArg (sA t 29 0) (nn_io (p := 1) (by decide))) (z_A_29_0_1 e)) ?_
  refine x_aload_n (pc' := 811) rfl rfl rfl rfl rfl ?_
  refine x_iload (pc' := 813) rfl rfl rfl ?_
  refine x_iconst (pc' := 814) rfl rfl ?_
  refine x_iadd (pc' := 815) (z := 2) rfl rfl (by decide) ?_
  refine x_iald (pc' := 816) (N := 7) (x := 1) rfl rfl rfl (z_N_29_0 e) (io_in (p := 2) (N := 7) (by decide) (by decide)) (Eq.trans (congrArg (sA t 29 0) (nn_io (p := 2) (by decide))) (Eq.trans (z_A_29_0_2 e) e1)) ?_
  refine x_aload_n (pc' := 817) rfl rfl rfl rfl rfl ?_
  refine x_iload (pc' := 819) rfl rfl rfl ?_
  refine x_iconst (pc' := 820) rfl rfl ?_
  refine x_iadd (pc' := 821) (z := 3) rfl rfl (by decide) ?_
  refine x_iald (pc' := 822) (N := 7) (x := (xs 3)) rfl rfl rfl (z_N_29_0 e) (io_in (p := 3) (N := 7) (by decide) (by decide)) (Eq.trans (congrArg (sA t 29 0) (nn_io (p := 3) (by decide))) (z_A_29_0_3 e)) ?_
  refine x_aload_n (pc' := 823) rfl rfl rfl rfl rfl ?_
  refine x_cs (ls0 := [_, _, _, _, _, sJk]) (rest := []) rfl rfl rfl rfl ?_
  refine x_aload (pc' := 2) rfl rfl rfl rfl rfl ?_
  refine x_iconst (pc' := 3) rfl rfl ?_
  refine x_aload_n (pc' := 4) rfl rfl rfl rfl rfl ?_
  refine x_iload_n (pc' := 5) rfl rfl rfl ?_
  refine x_iload_n (pc' := 6) rfl rfl rfl ?_
  refine x_iload_n (pc' := 7) rfl rfl rfl ?_
  refine x_cv (ls0 := [_, _, _, _, sJk]) (rest := [_, _]) rfl rfl rfl rfl rfl ?_
  refine x_iload_n (pc' := 1) rfl rfl rfl ?_
  refine x_bipush (pc' := 3) rfl rfl ?_
  refine x_cs (ls0 := [_, _]) (rest := []) rfl rfl rfl rfl ?_
  refine x_iload_n (pc' := 1) rfl rfl rfl ?_
  refine x_if (a' := 9) (pc' := 4) (z := decide ((xs 1) < 0)) rfl rfl rfl rfl (fun h => absurd (of_decide_eq_true h) e0) (fun _ => ?_)
  refine x_iload_n (pc' := 5) rfl rfl rfl ?_
  refine x_iload_n (pc' := 6) rfl rfl rfl ?_
  refine x_icmp (a' := 20) (pc' := 9) (z := decide ((xs 1) < 6)) rfl rfl rfl rfl (fun h => absurd (of_decide_eq_true h) f0) (fun _ => ?_)
  refine x_throw rfl rfl ?_
  refine sK_n (by decide +kernel) rfl ?_
  refine sK_h (h := 15) (by decide +kernel) rfl ?_
  refine x_catch (pc' := 17) (ls' := [_, _, _, _, _, _]) rfl rfl rfl rfl ?_
  refine x_iconst (pc' := 18) rfl rfl ?_
  refine x_reti rfl rfl ?_
  refine sK_i (pc' := 826) rfl ?_
  refine x_istore (pc' := 828) (ls' := [_, _, _, _, _, _, _]) rfl rfl rfl rfl ?_
  refine x_aload_n (pc' := 829) rfl rfl rfl rfl rfl ?_
  refine x_aload_n (pc' := 830) rfl rfl rfl rfl rfl ?_
  refine x_iload (pc' := 832) rfl rfl rfl ?_
  refine x_iconst (pc' := 833) rfl rfl ?_
  refine x_iadd (pc' := 834) (z := 1) rfl rfl (by decide) ?_
  refine x_iald (pc' := 835) (N := 7) (x := (xs 1)) rfl rfl rfl (Eq.trans rdNthr (z_N_29_0 e)) (io_in (p := 1) (N := 7) (by decide) (by decide)) (Eq.trans (congrArg (sA (sThr t) 29 0) (nn_io (p := 1) (by decide))) (Eq.trans rdAthr (z_A_29_0_1 e))) ?_
  refine x_aload_n (pc' := 836) rfl rfl rfl rfl rfl ?_
  refine x_iload (pc' := 838) rfl rfl rfl ?_
  refine x_iconst (pc' := 839) rfl rfl ?_
  refine x_iadd (pc' := 840) (z := 2) rfl rfl (by decide) ?_
  refine x_iald (pc' := 841) (N := 7) (x := 1) rfl rfl rfl (Eq.trans rdNthr (z_N_29_0 e)) (io_in (p := 2) (N := 7) (by decide) (by decide)) (Eq.trans (congrArg (sA (sThr t) 29 0) (nn_io (p := 2) (by decide))) (Eq.trans rdAthr (Eq.trans (z_A_29_0_2 e) e1))) ?_
  refine x_aload_n (pc' := 842) rfl rfl rfl rfl rfl ?_
  refine x_iload (pc' := 844) rfl rfl rfl ?_
  refine x_iconst (pc' := 845) rfl rfl ?_
  refine x_iadd (pc' := 846) (z := 3) rfl rfl (by decide) ?_
  refine x_iald (pc' := 847) (N := 7) (x := (xs 3)) rfl rfl rfl (Eq.trans rdNthr (z_N_29_0 e)) (io_in (p := 3) (N := 7) (by decide) (by decide)) (Eq.trans (congrArg (sA (sThr t) 29 0) (nn_io (p := 3) (by decide))) (Eq.trans rdAthr (z_A_29_0_3 e))) ?_
  refine x_cv (ls0 := [_, _, _, _, sJk, sJk]) (rest := []) rfl rfl rfl rfl rfl ?_
  refine x_iload_n (pc' := 1) rfl rfl rfl ?_
  refine x_iconst (pc' := 2) rfl rfl ?_
  refine x_iconst (pc' := 3) rfl rfl ?_
  refine x_cs (ls0 := [_, _, _]) (rest := []) rfl rfl rfl rfl ?_
  refine x_iload_n (pc' := 1) rfl rfl rfl ?_
  refine x_iload_n (pc' := 2) rfl rfl rfl ?_
  refine x_icmp (a' := 14) (pc' := 5) (z := decide ((xs 1) < 0)) rfl rfl rfl rfl (fun h => absurd (of_decide_eq_true h) e0) (fun _ => ?_)
  refine x_iload_n (pc' := 6) rfl rfl rfl ?_
  refine x_iload_n (pc' := 7) rfl rfl rfl ?_
  refine x_icmp (a' := 14) (pc' := 10) (z := decide (5 < (xs 1))) rfl rfl rfl rfl (fun _ => ?_) (fun h => absurd (lt_of6 f0) (of_decide_eq_false h))
  refine x_iconst (pc' := 15) rfl rfl ?_
  refine x_retz (z := false) rfl rfl ?_
  refine sK_i (pc' := 6) rfl ?_
  refine x_if (a' := 20) (pc' := 9) (z := true) rfl rfl rfl (by decide) (fun _ => ?_) (fun h => by cases h)
  refine x_iconst (pc' := 21) rfl rfl ?_
  refine x_istore (pc' := 23) (ls' := [_, _, _, _, _, _]) rfl rfl rfl rfl ?_
  refine x_aload_n (pc' := 24) rfl rfl rfl rfl rfl ?_
  refine x_iload (pc' := 26) rfl rfl rfl ?_
  refine x_if (a' := 33) (pc' := 29) (z := false) rfl rfl rfl (by decide) (fun h => by cases h) (fun _ => ?_)
  refine x_iconst (pc' := 30) rfl rfl ?_
  refine x_goto (pc' := 51) rfl rfl ?_
  refine x_cv (ls0 := [_, _]) (rest := []) rfl rfl rfl rfl rfl ?_
  refine x_aload_n (pc' := 1) rfl rfl rfl rfl rfl ?_
  refine x_iload_n (pc' := 2) rfl rfl rfl ?_
  refine x_pI (pc' := 5) rfl rfl rfl ?_
  refine x_iload_n (pc' := 6) rfl rfl rfl ?_
  refine x_if (a' := 13) (pc' := 9) (z := true) rfl rfl rfl (by decide) (fun _ => ?_) (fun h => by cases h)
  refine x_iconst (pc' := 14) rfl rfl ?_
  refine x_retz (z := false) rfl rfl ?_
  refine sK_i (pc' := 54) rfl ?_
  refine x_if (a' := 59) (pc' := 57) (z := false) rfl rfl rfl (by decide) (fun h => by cases h) (fun _ => ?_)
  refine x_iconst (pc' := 58) rfl rfl ?_
  refine x_reti rfl rfl ?_
  refine sK_i (pc' := 850) rfl ?_
  refine x_istore (pc' := 852) (ls' := [_, _, _, _, _, _, _]) rfl rfl rfl rfl ?_
  refine x_aload_n (pc' := 853) rfl rfl rfl rfl rfl ?_
  refine x_cv (ls0 := [_]) (rest := []) rfl rfl rfl rfl rfl ?_
  refine x_aload_n (pc' := 1) rfl rfl rfl rfl rfl ?_
  refine x_gI (pc' := 4) (x := 1) rfl rfl rfl sI_s ?_
  refine x_reti rfl rfl ?_
  refine sK_i (pc' := 856) rfl ?_
  refine x_iload (pc' := 858) rfl rfl rfl ?_
  refine x_icmp (a' := 863) (pc' := 861) (z := true) rfl rfl rfl (by decide) (fun _ => ?_) (fun h => by cases h)
  refine x_iload (pc' := 865) rfl rfl rfl ?_
  refine x_if (a' := 880) (pc' := 868) (z := true) rfl rfl rfl (by decide) (fun _ => ?_) (fun h => by cases h)
  refine x_goto (pc' := 2938) rfl rfl ?_
  refine x_iinc (pc' := 2941) (y := 7) (ls' := [_, _, _, _, _, _, _]) rfl rfl rfl rfl rfl ?_
  refine x_goto (pc' := 23) rfl rfl ?_
  refine x_iload (pc' := 25) rfl rfl rfl ?_
  refine x_aload_n (pc' := 26) rfl rfl rfl rfl rfl ?_
  refine x_alen (pc' := 27) (N := 7) rfl rfl rfl (Eq.trans rdNI (Eq.trans rdNthr (z_N_29_0 e))) (?_ : X _ _ _ (.inl 7 :: _) _ _)
  refine x_bipush (pc' := 29) rfl rfl ?_
  refine x_isub (pc' := 30) (z := 0) rfl rfl (by decide) ?_
  refine x_icmp (a' := 2944) (pc' := 33) (z := true) rfl rfl rfl (by decide) (fun _ => ?_) (fun h => by cases h)
  refine x_iconst (pc' := 2945) rfl rfl ?_
  refine x_retz (z := true) rfl rfl ?_
  exact Qp_ok e (p := 1) (q := 6) rfl rfl rfl rfl
set_option maxHeartbeats 4000000 in
set_option maxRecDepth 10000 in
theorem v_9_B_2_i {t : sT} {xs : Nat → Int32}
    (e : t = T16 7 xs)
    (hk : ((xs 0) &&& 63) = 9)
    (e0 : ¬ (xs 1) < 0)
    (f0 : ¬ (xs 1) < 6)
    (e1 : xs 2 = 2) :
    X 297 23 [.inr (.inr (29, (some 0))), .inr (.inr (11, (some 0))), .inr (.inr (12, (some 0))), .inr (.inr (23, (some 0))), .inl 0, sJk, sJk] [] t Qp := by
  refine x_iload (pc' := 25) rfl rfl rfl ?_
  refine x_aload_n (pc' := 26) rfl rfl rfl rfl rfl ?_
  refine x_alen (pc' := 27) (N := 7) rfl rfl rfl (z_N_29_0 e) (?_ : X _ _ _ (.inl 7 :: _) _ _)
  refine x_bipush (pc' := 29) rfl rfl ?_
  refine x_isub (pc' := 30) (z := 0) rfl rfl (by decide) ?_
  refine x_icmp (a' := 2944) (pc' := 33) (z := false) rfl rfl rfl (by decide) (fun h => by cases h) (fun _ => ?_)
  refine x_aload_n (pc' := 34) rfl rfl rfl rfl rfl ?_
  refine x_iload (pc' := 36) rfl rfl rfl ?_
  refine x_iald (pc' := 37) (N := 7) (x := (xs 0)) rfl rfl rfl (z_N_29_0 e) (io_in (p := 0) (N := 7) (by decide) (by decide)) (Eq.trans (congrArg (sA t 29 0) (nn_io (p := 0) (by decide))) (z_A_29_0_0 e)) ?_
  refine x_bipush (pc' := 39) rfl rfl ?_
  refine x_iand (pc' := 40) (z := ((xs 0) &&& 63)) rfl rfl rfl ?_
  refine x_switch (pc' := 803) rfl (by rw [hk]; decide) ?_
  refine x_aload_n (pc' := 804) rfl rfl rfl rfl rfl ?_
  refine x_aload_n (pc' := 805) rfl rfl rfl rfl rfl ?_
  refine x_iload (pc' := 807) rfl rfl rfl ?_
  refine x_iconst (pc' := 808) rfl rfl ?_
  refine x_iadd (pc' := 809) (z := 1) rfl rfl (by decide) ?_
  refine x_iald (pc' := 810) (N := 7) (x := (xs 1)) rfl rfl rfl (z_N_29_0 e) (io_in (p := 1) (N := 7) (by decide) (by decide)) (Eq.trans (congrArg (sA t 29 0) (nn_io (p := 1) (by decide))) (z_A_29_0_1 e)) ?_
  refine x_aload_n (pc' := 811) rfl rfl rfl rfl rfl ?_
  refine x_iload (pc' := 813) rfl rfl rfl ?_
  refine x_iconst (pc' := 814) rfl rfl ?_
  refine x_iadd (pc' := 815) (z := 2) rfl rfl (by decide) ?_
  refine x_iald (pc' := 816) (N := 7) (x := 2) rfl rfl rfl (z_N_29_0 e) (io_in (p := 2) (N := 7) (by decide) (by decide)) (Eq.trans (congrArg (sA t 29 0) (nn_io (p := 2) (by decide))) (Eq.trans (z_A_29_0_2 e) e1)) ?_
  refine x_aload_n (pc' := 817) rfl rfl rfl rfl rfl ?_
  refine x_iload (pc' := 819) rfl rfl rfl ?_
  refine x_iconst (pc' := 820) rfl rfl ?_
  refine x_iadd (pc' := 821) (z := 3) rfl rfl (by decide) ?_
  refine x_iald (pc' := 822) (N := 7) (x := (xs 3)) rfl rfl rfl (z_N_29_0 e) (io_in (p := 3) (N := 7) (by decide) (by decide)) (Eq.trans (congrArg (sA t 29 0) (nn_io (p := 3) (by decide))) (z_A_29_0_3 e)) ?_
  refine x_aload_n (pc' := 823) rfl rfl rfl rfl rfl ?_
  refine x_cs (ls0 := [_, _, _, _, _, sJk]) (rest := []) rfl rfl rfl rfl ?_
  refine x_aload (pc' := 2) rfl rfl rfl rfl rfl ?_
  refine x_iconst (pc' := 3) rfl rfl ?_
  refine x_aload_n (pc' := 4) rfl rfl rfl rfl rfl ?_
  refine x_iload_n (pc' := 5) rfl rfl rfl ?_
  refine x_iload_n (pc' := 6) rfl rfl rfl ?_
  refine x_iload_n (pc' := 7) rfl rfl rfl ?_
  refine x_cv (ls0 := [_, _, _, _, sJk]) (rest := [_, _]) rfl rfl rfl rfl rfl ?_
  refine x_iload_n (pc' := 1) rfl rfl rfl ?_
  refine x_bipush (pc' := 3) rfl rfl ?_
  refine x_cs (ls0 := [_, _]) (rest := []) rfl rfl rfl rfl ?_
  refine x_iload_n (pc' := 1) rfl rfl rfl ?_
  refine x_if (a' := 9) (pc' := 4) (z := decide ((xs 1) < 0)) rfl rfl rfl rfl (fun h => absurd (of_decide_eq_true h) e0) (fun _ => ?_)
  refine x_iload_n (pc' := 5) rfl rfl rfl ?_
  refine x_iload_n (pc' := 6) rfl rfl rfl ?_
  refine x_icmp (a' := 20) (pc' := 9) (z := decide ((xs 1) < 6)) rfl rfl rfl rfl (fun h => absurd (of_decide_eq_true h) f0) (fun _ => ?_)
  refine x_throw rfl rfl ?_
  refine sK_n (by decide +kernel) rfl ?_
  refine sK_h (h := 15) (by decide +kernel) rfl ?_
  refine x_catch (pc' := 17) (ls' := [_, _, _, _, _, _]) rfl rfl rfl rfl ?_
  refine x_iconst (pc' := 18) rfl rfl ?_
  refine x_reti rfl rfl ?_
  refine sK_i (pc' := 826) rfl ?_
  refine x_istore (pc' := 828) (ls' := [_, _, _, _, _, _, _]) rfl rfl rfl rfl ?_
  refine x_aload_n (pc' := 829) rfl rfl rfl rfl rfl ?_
  refine x_aload_n (pc' := 830) rfl rfl rfl rfl rfl ?_
  refine x_iload (pc' := 832) rfl rfl rfl ?_
  refine x_iconst (pc' := 833) rfl rfl ?_
  refine x_iadd (pc' := 834) (z := 1) rfl rfl (by decide) ?_
  refine x_iald (pc' := 835) (N := 7) (x := (xs 1)) rfl rfl rfl (Eq.trans rdNthr (z_N_29_0 e)) (io_in (p := 1) (N := 7) (by decide) (by decide)) (Eq.trans (congrArg (sA (sThr t) 29 0) (nn_io (p := 1) (by decide))) (Eq.trans rdAthr (z_A_29_0_1 e))) ?_
  refine x_aload_n (pc' := 836) rfl rfl rfl rfl rfl ?_
  refine x_iload (pc' := 838) rfl rfl rfl ?_
  refine x_iconst (pc' := 839) rfl rfl ?_
  refine x_iadd (pc' := 840) (z := 2) rfl rfl (by decide) ?_
  refine x_iald (pc' := 841) (N := 7) (x := 2) rfl rfl rfl (Eq.trans rdNthr (z_N_29_0 e)) (io_in (p := 2) (N := 7) (by decide) (by decide)) (Eq.trans (congrArg (sA (sThr t) 29 0) (nn_io (p := 2) (by decide))) (Eq.trans rdAthr (Eq.trans (z_A_29_0_2 e) e1))) ?_
  refine x_aload_n (pc' := 842) rfl rfl rfl rfl rfl ?_
  refine x_iload (pc' := 844) rfl rfl rfl ?_
  refine x_iconst (pc' := 845) rfl rfl ?_
  refine x_iadd (pc' := 846) (z := 3) rfl rfl (by decide) ?_
  refine x_iald (pc' := 847) (N := 7) (x := (xs 3)) rfl rfl rfl (Eq.trans rdNthr (z_N_29_0 e)) (io_in (p := 3) (N := 7) (by decide) (by decide)) (Eq.trans (congrArg (sA (sThr t) 29 0) (nn_io (p := 3) (by decide))) (Eq.trans rdAthr (z_A_29_0_3 e))) ?_
  refine x_cv (ls0 := [_, _, _, _, sJk, sJk]) (rest := []) rfl rfl rfl rfl rfl ?_
  refine x_iload_n (pc' := 1) rfl rfl rfl ?_
  refine x_iconst (pc' := 2) rfl rfl ?_
  refine x_iconst (pc' := 3) rfl rfl ?_
  refine x_cs (ls0 := [_, _, _]) (rest := []) rfl rfl rfl rfl ?_
  refine x_iload_n (pc' := 1) rfl rfl rfl ?_
  refine x_iload_n (pc' := 2) rfl rfl rfl ?_
  refine x_icmp (a' := 14) (pc' := 5) (z := decide ((xs 1) < 0)) rfl rfl rfl rfl (fun h => absurd (of_decide_eq_true h) e0) (fun _ => ?_)
  refine x_iload_n (pc' := 6) rfl rfl rfl ?_
  refine x_iload_n (pc' := 7) rfl rfl rfl ?_
  refine x_icmp (a' := 14) (pc' := 10) (z := decide (5 < (xs 1))) rfl rfl rfl rfl (fun _ => ?_) (fun h => absurd (lt_of6 f0) (of_decide_eq_false h))
  refine x_iconst (pc' := 15) rfl rfl ?_
  refine x_retz (z := false) rfl rfl ?_
  refine sK_i (pc' := 6) rfl ?_
  refine x_if (a' := 20) (pc' := 9) (z := true) rfl rfl rfl (by decide) (fun _ => ?_) (fun h => by cases h)
  refine x_iconst (pc' := 21) rfl rfl ?_
  refine x_istore (pc' := 23) (ls' := [_, _, _, _, _, _]) rfl rfl rfl rfl ?_
  refine x_aload_n (pc' := 24) rfl rfl rfl rfl rfl ?_
  refine x_iload (pc' := 26) rfl rfl rfl ?_
  refine x_if (a' := 33) (pc' := 29) (z := false) rfl rfl rfl (by decide) (fun h => by cases h) (fun _ => ?_)
  refine x_iconst (pc' := 30) rfl rfl ?_
  refine x_goto (pc' := 51) rfl rfl ?_
  refine x_cv (ls0 := [_, _]) (rest := []) rfl rfl rfl rfl rfl ?_
  refine x_aload_n (pc' := 1) rfl rfl rfl rfl rfl ?_
  refine x_iload_n (pc' := 2) rfl rfl rfl ?_
  refine x_pI (pc' := 5) rfl rfl rfl ?_
  refine x_iload_n (pc' := 6) rfl rfl rfl ?_
  refine x_if (a' := 13) (pc' := 9) (z := true) rfl rfl rfl (by decide) (fun _ => ?_) (fun h => by cases h)
  refine x_iconst (pc' := 14) rfl rfl ?_
  refine x_retz (z := false) rfl rfl ?_
  refine sK_i (pc' := 54) rfl ?_
  refine x_if (a' := 59) (pc' := 57) (z := false) rfl rfl rfl (by decide) (fun h => by cases h) (fun _ => ?_)
  refine x_iconst (pc' := 58) rfl rfl ?_
  refine x_reti rfl rfl ?_
  refine sK_i (pc' := 850) rfl ?_
  refine x_istore (pc' := 852) (ls' := [_, _, _, _, _, _, _]) rfl rfl rfl rfl ?_
  refine x_aload_n (pc' := 853) rfl rfl rfl rfl rfl ?_
  refine x_cv (ls0 := [_]) (rest := []) rfl rfl rfl rfl rfl ?_
  refine x_aload_n (pc' := 1) rfl rfl rfl rfl rfl ?_
  refine x_gI (pc' := 4) (x := 1) rfl rfl rfl sI_s ?_
  refine x_reti rfl rfl ?_
  refine sK_i (pc' := 856) rfl ?_
  refine x_iload (pc' := 858) rfl rfl rfl ?_
  refine x_icmp (a' := 863) (pc' := 861) (z := true) rfl rfl rfl (by decide) (fun _ => ?_) (fun h => by cases h)
  refine x_iload (pc' := 865) rfl rfl rfl ?_
  refine x_if (a' := 880) (pc' := 868) (z := true) rfl rfl rfl (by decide) (fun _ => ?_) (fun h => by cases h)
  refine x_goto (pc' := 2938) rfl rfl ?_
  refine x_iinc (pc' := 2941) (y := 7) (ls' := [_, _, _, _, _, _, _]) rfl rfl rfl rfl rfl ?_
  refine x_goto (pc' := 23) rfl rfl ?_
  refine x_iload (pc' := 25) rfl rfl rfl ?_
  refine x_aload_n (pc' := 26) rfl rfl rfl rfl rfl ?_
  refine x_alen (pc' := 27) (N := 7) rfl rfl rfl (Eq.trans rdNI (Eq.trans rdNthr (z_N_29_0 e))) (?_ : X _ _ _ (.inl 7 :: _) _ _)
  refine x_bipush (pc' := 29) rfl rfl ?_
  refine x_isub (pc' := 30) (z := 0) rfl rfl (by decide) ?_
  refine x_icmp (a' := 2944) (pc' := 33) (z := true) rfl rfl rfl (by decide) (fun _ => ?_) (fun h => by cases h)
  refine x_iconst (pc' := 2945) rfl rfl ?_
  refine x_retz (z := true) rfl rfl ?_
  exact Qp_ok e (p := 1) (q := 6) rfl rfl rfl rfl
set_option maxHeartbeats 4000000 in
set_option maxRecDepth 10000 in
theorem v_9_B_A_i {t : sT} {xs : Nat → Int32}
    (e : t = T16 7 xs)
    (hk : ((xs 0) &&& 63) = 9)
    (e0 : ¬ (xs 1) < 0)
    (f0 : ¬ (xs 1) < 6)
    (e1 : (xs 2) < 0) :
    X 297 23 [.inr (.inr (29, (some 0))), .inr (.inr (11, (some 0))), .inr (.inr (12, (some 0))), .inr (.inr (23, (some 0))), .inl 0, sJk, sJk] [] t Qp := by
  refine x_iload (pc' := 25) rfl rfl rfl ?_
  refine x_aload_n (pc' := 26) rfl rfl rfl rfl rfl ?_
  refine x_alen (pc' := 27) (N := 7) rfl rfl rfl (z_N_29_0 e) (?_ : X _ _ _ (.inl 7 :: _) _ _)
  refine x_bipush (pc' := 29) rfl rfl ?_
  refine x_isub (pc' := 30) (z := 0) rfl rfl (by decide) ?_
  refine x_icmp (a' := 2944) (pc' := 33) (z := false) rfl rfl rfl (by decide) (fun h => by cases h) (fun _ => ?_)
  refine x_aload_n (pc' := 34) rfl rfl rfl rfl rfl ?_
  refine x_iload (pc' := 36) rfl rfl rfl ?_
  refine x_iald (pc' := 37) (N := 7) (x := (xs 0)) rfl rfl rfl (z_N_29_0 e) (io_in (p := 0) (N := 7) (by decide) (by decide)) (Eq.trans (congrArg (sA t 29 0) (nn_io (p := 0) (by decide))) (z_A_29_0_0 e)) ?_
  refine x_bipush (pc' := 39) rfl rfl ?_
  refine x_iand (pc' := 40) (z := ((xs 0) &&& 63)) rfl rfl rfl ?_
  refine x_switch (pc' := 803) rfl (by rw [hk]; decide) ?_
  refine x_aload_n (pc' := 804) rfl rfl rfl rfl rfl ?_
  refine x_aload_n (pc' := 805) rfl rfl rfl rfl rfl ?_
  refine x_iload (pc' := 807) rfl rfl rfl ?_
  refine x_iconst (pc' := 808) rfl rfl ?_
  refine x_iadd (pc' := 809) (z := 1) rfl rfl (by decide) ?_
  refine x_iald (pc' := 810) (N := 7) (x := (xs 1)) rfl rfl rfl (z_N_29_0 e) (io_in (p := 1) (N := 7) (by decide) (by decide)) (Eq.trans (congrArg (sA t 29 0) (nn_io (p := 1) (by decide))) (z_A_29_0_1 e)) ?_
  refine x_aload_n (pc' := 811) rfl rfl rfl rfl rfl ?_
  refine x_iload (pc' := 813) rfl rfl rfl ?_
  refine x_iconst (pc' := 814) rfl rfl ?_
  refine x_iadd (pc' := 815) (z := 2) rfl rfl (by decide) ?_
  refine x_iald (pc' := 816) (N := 7) (x := (xs 2)) rfl rfl rfl (z_N_29_0 e) (io_in (p := 2) (N := 7) (by decide) (by decide)) (Eq.trans (congrArg (sA t 29 0) (nn_io (p := 2) (by decide))) (z_A_29_0_2 e)) ?_
  refine x_aload_n (pc' := 817) rfl rfl rfl rfl rfl ?_
  refine x_iload (pc' := 819) rfl rfl rfl ?_
  refine x_iconst (pc' := 820) rfl rfl ?_
  refine x_iadd (pc' := 821) (z := 3) rfl rfl (by decide) ?_
  refine x_iald (pc' := 822) (N := 7) (x := (xs 3)) rfl rfl rfl (z_N_29_0 e) (io_in (p := 3) (N := 7) (by decide) (by decide)) (Eq.trans (congrArg (sA t 29 0) (nn_io (p := 3) (by decide))) (z_A_29_0_3 e)) ?_
  refine x_aload_n (pc' := 823) rfl rfl rfl rfl rfl ?_
  refine x_cs (ls0 := [_, _, _, _, _, sJk]) (rest := []) rfl rfl rfl rfl ?_
  refine x_aload (pc' := 2) rfl rfl rfl rfl rfl ?_
  refine x_iconst (pc' := 3) rfl rfl ?_
  refine x_aload_n (pc' := 4) rfl rfl rfl rfl rfl ?_
  refine x_iload_n (pc' := 5) rfl rfl rfl ?_
  refine x_iload_n (pc' := 6) rfl rfl rfl ?_
  refine x_iload_n (pc' := 7) rfl rfl rfl ?_
  refine x_cv (ls0 := [_, _, _, _, sJk]) (rest := [_, _]) rfl rfl rfl rfl rfl ?_
  refine x_iload_n (pc' := 1) rfl rfl rfl ?_
  refine x_bipush (pc' := 3) rfl rfl ?_
  refine x_cs (ls0 := [_, _]) (rest := []) rfl rfl rfl rfl ?_
  refine x_iload_n (pc' := 1) rfl rfl rfl ?_
  refine x_if (a' := 9) (pc' := 4) (z := decide ((xs 1) < 0)) rfl rfl rfl rfl (fun h => absurd (of_decide_eq_true h) e0) (fun _ => ?_)
  refine x_iload_n (pc' := 5) rfl rfl rfl ?_
  refine x_iload_n (pc' := 6) rfl rfl rfl ?_
  refine x_icmp (a' := 20) (pc' := 9) (z := decide ((xs 1) < 6)) rfl rfl rfl rfl (fun h => absurd (of_decide_eq_true h) f0) (fun _ => ?_)
  refine x_throw rfl rfl ?_
  refine sK_n (by decide +kernel) rfl ?_
  refine sK_h (h := 15) (by decide +kernel) rfl ?_
  refine x_catch (pc' := 17) (ls' := [_, _, _, _, _, _]) rfl rfl rfl rfl ?_
  refine x_iconst (pc' := 18) rfl rfl ?_
  refine x_reti rfl rfl ?_
  refine sK_i (pc' := 826) rfl ?_
  refine x_istore (pc' := 828) (ls' := [_, _, _, _, _, _, _]) rfl rfl rfl rfl ?_
  refine x_aload_n (pc' := 829) rfl rfl rfl rfl rfl ?_
  refine x_aload_n (pc' := 830) rfl rfl rfl rfl rfl ?_
  refine x_iload (pc' := 832) rfl rfl rfl ?_
  refine x_iconst (pc' := 833) rfl rfl ?_
  refine x_iadd (pc' := 834) (z := 1) rfl rfl (by decide) ?_
  refine x_iald (pc' := 835) (N := 7) (x := (xs 1)) rfl rfl rfl (Eq.trans rdNthr (z_N_29_0 e)) (io_in (p := 1) (N := 7) (by decide) (by decide)) (Eq.trans (congrArg (sA (sThr t) 29 0) (nn_io (p := 1) (by decide))) (Eq.trans rdAthr (z_A_29_0_1 e))) ?_
  refine x_aload_n (pc' := 836) rfl rfl rfl rfl rfl ?_
  refine x_iload (pc' := 838) rfl rfl rfl ?_
  refine x_iconst (pc' := 839) rfl rfl ?_
  refine x_iadd (pc' := 840) (z := 2) rfl rfl (by decide) ?_
  refine x_iald (pc' := 841) (N := 7) (x := (xs 2)) rfl rfl rfl (Eq.trans rdNthr (z_N_29_0 e)) (io_in (p := 2) (N := 7) (by decide) (by decide)) (Eq.trans (congrArg (sA (sThr t) 29 0) (nn_io (p := 2) (by decide))) (Eq.trans rdAthr (z_A_29_0_2 e))) ?_
  refine x_aload_n (pc' := 842) rfl rfl rfl rfl rfl ?_
  refine x_iload (pc' := 844) rfl rfl rfl ?_
  refine x_iconst (pc' := 845) rfl rfl ?_
  refine x_iadd (pc' := 846) (z := 3) rfl rfl (by decide) ?_
  refine x_iald (pc' := 847) (N := 7) (x := (xs 3)) rfl rfl rfl (Eq.trans rdNthr (z_N_29_0 e)) (io_in (p := 3) (N := 7) (by decide) (by decide)) (Eq.trans (congrArg (sA (sThr t) 29 0) (nn_io (p := 3) (by decide))) (Eq.trans rdAthr (z_A_29_0_3 e))) ?_
  refine x_cv (ls0 := [_, _, _, _, sJk, sJk]) (rest := []) rfl rfl rfl rfl rfl ?_
  refine x_iload_n (pc' := 1) rfl rfl rfl ?_
  refine x_iconst (pc' := 2) rfl rfl ?_
  refine x_iconst (pc' := 3) rfl rfl ?_
  refine x_cs (ls0 := [_, _, _]) (rest := []) rfl rfl rfl rfl ?_
  refine x_iload_n (pc' := 1) rfl rfl rfl ?_
  refine x_iload_n (pc' := 2) rfl rfl rfl ?_
  refine x_icmp (a' := 14) (pc' := 5) (z := decide ((xs 1) < 0)) rfl rfl rfl rfl (fun h => absurd (of_decide_eq_true h) e0) (fun _ => ?_)
  refine x_iload_n (pc' := 6) rfl rfl rfl ?_
  refine x_iload_n (pc' := 7) rfl rfl rfl ?_
  refine x_icmp (a' := 14) (pc' := 10) (z := decide (5 < (xs 1))) rfl rfl rfl rfl (fun _ => ?_) (fun h => absurd (lt_of6 f0) (of_decide_eq_false h))
  refine x_iconst (pc' := 15) rfl rfl ?_
  refine x_retz (z := false) rfl rfl ?_
  refine sK_i (pc' := 6) rfl ?_
  refine x_if (a' := 20) (pc' := 9) (z := true) rfl rfl rfl (by decide) (fun _ => ?_) (fun h => by cases h)
  refine x_iconst (pc' := 21) rfl rfl ?_
  refine x_istore (pc' := 23) (ls' := [_, _, _, _, _, _]) rfl rfl rfl rfl ?_
  refine x_aload_n (pc' := 24) rfl rfl rfl rfl rfl ?_
  refine x_iload (pc' := 26) rfl rfl rfl ?_
  refine x_if (a' := 33) (pc' := 29) (z := false) rfl rfl rfl (by decide) (fun h => by cases h) (fun _ => ?_)
  refine x_iconst (pc' := 30) rfl rfl ?_
  refine x_goto (pc' := 51) rfl rfl ?_
  refine x_cv (ls0 := [_, _]) (rest := []) rfl rfl rfl rfl rfl ?_
  refine x_aload_n (pc' := 1) rfl rfl rfl rfl rfl ?_
  refine x_iload_n (pc' := 2) rfl rfl rfl ?_
  refine x_pI (pc' := 5) rfl rfl rfl ?_
  refine x_iload_n (pc' := 6) rfl rfl rfl ?_
  refine x_if (a' := 13) (pc' := 9) (z := true) rfl rfl rfl (by decide) (fun _ => ?_) (fun h => by cases h)
  refine x_iconst (pc' := 14) rfl rfl ?_
  refine x_retz (z := false) rfl rfl ?_
  refine sK_i (pc' := 54) rfl ?_
  refine x_if (a' := 59) (pc' := 57) (z := false) rfl rfl rfl (by decide) (fun h => by cases h) (fun _ => ?_)
  refine x_iconst (pc' := 58) rfl rfl ?_
  refine x_reti rfl rfl ?_
  refine sK_i (pc' := 850) rfl ?_
  refine x_istore (pc' := 852) (ls' := [_, _, _, _, _, _, _]) rfl rfl rfl rfl ?_
  refine x_aload_n (pc' := 853) rfl rfl rfl rfl rfl ?_
  refine x_cv (ls0 := [_]) (rest := []) rfl rfl rfl rfl rfl ?_
  refine x_aload_n (pc' := 1) rfl rfl rfl rfl rfl ?_
  refine x_gI (pc' := 4) (x := 1) rfl rfl rfl sI_s ?_
  refine x_reti rfl rfl ?_
  refine sK_i (pc' := 856) rfl ?_
  refine x_iload (pc' := 858) rfl rfl rfl ?_
  refine x_icmp (a' := 863) (pc' := 861) (z := true) rfl rfl rfl (by decide) (fun _ => ?_) (fun h => by cases h)
  refine x_iload (pc' := 865) rfl rfl rfl ?_
  refine x_if (a' := 880) (pc' := 868) (z := true) rfl rfl rfl (by decide) (fun _ => ?_) (fun h => by cases h)
  refine x_goto (pc' := 2938) rfl rfl ?_
  refine x_iinc (pc' := 2941) (y := 7) (ls' := [_, _, _, _, _, _, _]) rfl rfl rfl rfl rfl ?_
  refine x_goto (pc' := 23) rfl rfl ?_
  refine x_iload (pc' := 25) rfl rfl rfl ?_
  refine x_aload_n (pc' := 26) rfl rfl rfl rfl rfl ?_
  refine x_alen (pc' := 27) (N := 7) rfl rfl rfl (Eq.trans rdNI (Eq.trans rdNthr (z_N_29_0 e))) (?_ : X _ _ _ (.inl 7 :: _) _ _)
  refine x_bipush (pc' := 29) rfl rfl ?_
  refine x_isub (pc' := 30) (z := 0) rfl rfl (by decide) ?_
  refine x_icmp (a' := 2944) (pc' := 33) (z := true) rfl rfl rfl (by decide) (fun _ => ?_) (fun h => by cases h)
  refine x_iconst (pc' := 2945) rfl rfl ?_
  refine x_retz (z := true) rfl rfl ?_
  exact Qp_ok e (p := 1) (q := 6) rfl rfl rfl rfl
set_option maxHeartbeats 4000000 in
set_option maxRecDepth 10000 in
theorem v_9_B_B_i {t : sT} {xs : Nat → Int32}
    (e : t = T16 7 xs)
    (hk : ((xs 0) &&& 63) = 9)
    (e0 : ¬ (xs 1) < 0)
    (f0 : ¬ (xs 1) < 6)
    (e1 : ¬ (xs 2) < 0)
    (f1 : ¬ (xs 2) < 3) :
    X 297 23 [.inr (.inr (29, (some 0))), .inr (.inr (11, (some 0))), .inr (.inr (12, (some 0))), .inr (.inr (23, (some 0))), .inl 0, sJk, sJk] [] t Qp := by
  refine x_iload (pc' := 25) rfl rfl rfl ?_
  refine x_aload_n (pc' := 26) rfl rfl rfl rfl rfl ?_
  refine x_alen (pc' := 27) (N := 7) rfl rfl rfl (z_N_29_0 e) (?_ : X _ _ _ (.inl 7 :: _) _ _)
  refine x_bipush (pc' := 29) rfl rfl ?_
  refine x_isub (pc' := 30) (z := 0) rfl rfl (by decide) ?_
  refine x_icmp (a' := 2944) (pc' := 33) (z := false) rfl rfl rfl (by decide) (fun h => by cases h) (fun _ => ?_)
  refine x_aload_n (pc' := 34) rfl rfl rfl rfl rfl ?_
  refine x_iload (pc' := 36) rfl rfl rfl ?_
  refine x_iald (pc' := 37) (N := 7) (x := (xs 0)) rfl rfl rfl (z_N_29_0 e) (io_in (p := 0) (N := 7) (by decide) (by decide)) (Eq.trans (congrArg (sA t 29 0) (nn_io (p := 0) (by decide))) (z_A_29_0_0 e)) ?_
  refine x_bipush (pc' := 39) rfl rfl ?_
  refine x_iand (pc' := 40) (z := ((xs 0) &&& 63)) rfl rfl rfl ?_
  refine x_switch (pc' := 803) rfl (by rw [hk]; decide) ?_
  refine x_aload_n (pc' := 804) rfl rfl rfl rfl rfl ?_
  refine x_aload_n (pc' := 805) rfl rfl rfl rfl rfl ?_
  refine x_iload (pc' := 807) rfl rfl rfl ?_
  refine x_iconst (pc' := 808) rfl rfl ?_
  refine x_iadd (pc' := 809) (z := 1) rfl rfl (by decide) ?_
  refine x_iald (pc' := 810) (N := 7) (x := (xs 1)) rfl rfl rfl (z_N_29_0 e) (io_in (p := 1) (N := 7) (by decide) (by decide)) (Eq.trans (congrArg (sA t 29 0) (nn_io (p := 1) (by decide))) (z_A_29_0_1 e)) ?_
  refine x_aload_n (pc' := 811) rfl rfl rfl rfl rfl ?_
  refine x_iload (pc' := 813) rfl rfl rfl ?_
  refine x_iconst (pc' := 814) rfl rfl ?_
  refine x_iadd (pc' := 815) (z := 2) rfl rfl (by decide) ?_
  refine x_iald (pc' := 816) (N := 7) (x := (xs 2)) rfl rfl rfl (z_N_29_0 e) (io_in (p := 2) (N := 7) (by decide) (by decide)) (Eq.trans (congrArg (sA t 29 0) (nn_io (p := 2) (by decide))) (z_A_29_0_2 e)) ?_
  refine x_aload_n (pc' := 817) rfl rfl rfl rfl rfl ?_
  refine x_iload (pc' := 819) rfl rfl rfl ?_
  refine x_iconst (pc' := 820) rfl rfl ?_
  refine x_iadd (pc' := 821) (z := 3) rfl rfl (by decide) ?_
  refine x_iald (pc' := 822) (N := 7) (x := (xs 3)) rfl rfl rfl (z_N_29_0 e) (io_in (p := 3) (N := 7) (by decide) (by decide)) (Eq.trans (congrArg (sA t 29 0) (nn_io (p := 3) (by decide))) (z_A_29_0_3 e)) ?_
  refine x_aload_n (pc' := 823) rfl rfl rfl rfl rfl ?_
  refine x_cs (ls0 := [_, _, _, _, _, sJk]) (rest := []) rfl rfl rfl rfl ?_
  refine x_aload (pc' := 2) rfl rfl rfl rfl rfl ?_
  refine x_iconst (pc' := 3) rfl rfl ?_
  refine x_aload_n (pc' := 4) rfl rfl rfl rfl rfl ?_
  refine x_iload_n (pc' := 5) rfl rfl rfl ?_
  refine x_iload_n (pc' := 6) rfl rfl rfl ?_
  refine x_iload_n (pc' := 7) rfl rfl rfl ?_
  refine x_cv (ls0 := [_, _, _, _, sJk]) (rest := [_, _]) rfl rfl rfl rfl rfl ?_
  refine x_iload_n (pc' := 1) rfl rfl rfl ?_
  refine x_bipush (pc' := 3) rfl rfl ?_
  refine x_cs (ls0 := [_, _]) (rest := []) rfl rfl rfl rfl ?_
  refine x_iload_n (pc' := 1) rfl rfl rfl ?_
  refine x_if (a' := 9) (pc' := 4) (z := decide ((xs 1) < 0)) rfl rfl rfl rfl (fun h => absurd (of_decide_eq_true h) e0) (fun _ => ?_)
  refine x_iload_n (pc' := 5) rfl rfl rfl ?_
  refine x_iload_n (pc' := 6) rfl rfl rfl ?_
  refine x_icmp (a' := 20) (pc' := 9) (z := decide ((xs 1) < 6)) rfl rfl rfl rfl (fun h => absurd (of_decide_eq_true h) f0) (fun _ => ?_)
  refine x_throw rfl rfl ?_
  refine sK_n (by decide +kernel) rfl ?_
  refine sK_h (h := 15) (by decide +kernel) rfl ?_
  refine x_catch (pc' := 17) (ls' := [_, _, _, _, _, _]) rfl rfl rfl rfl ?_
  refine x_iconst (pc' := 18) rfl rfl ?_
  refine x_reti rfl rfl ?_
  refine sK_i (pc' := 826) rfl ?_
  refine x_istore (pc' := 828) (ls' := [_, _, _, _, _, _, _]) rfl rfl rfl rfl ?_
  refine x_aload_n (pc' := 829) rfl rfl rfl rfl rfl ?_
  refine x_aload_n (pc' := 830) rfl rfl rfl rfl rfl ?_
  refine x_iload (pc' := 832) rfl rfl rfl ?_
  refine x_iconst (pc' := 833) rfl rfl ?_
  refine x_iadd (pc' := 834) (z := 1) rfl rfl (by decide) ?_
  refine x_iald (pc' := 835) (N := 7) (x := (xs 1)) rfl rfl rfl (Eq.trans rdNthr (z_N_29_0 e)) (io_in (p := 1) (N := 7) (by decide) (by decide)) (Eq.trans (congrArg (sA (sThr t) 29 0) (nn_io (p := 1) (by decide))) (Eq.trans rdAthr (z_A_29_0_1 e))) ?_
  refine x_aload_n (pc' := 836) rfl rfl rfl rfl rfl ?_
  refine x_iload (pc' := 838) rfl rfl rfl ?_
  refine x_iconst (pc' := 839) rfl rfl ?_
  refine x_iadd (pc' := 840) (z := 2) rfl rfl (by decide) ?_
  refine x_iald (pc' := 841) (N := 7) (x := (xs 2)) rfl rfl rfl (Eq.trans rdNthr (z_N_29_0 e)) (io_in (p := 2) (N := 7) (by decide) (by decide)) (Eq.trans (congrArg (sA (sThr t) 29 0) (nn_io (p := 2) (by decide))) (Eq.trans rdAthr (z_A_29_0_2 e))) ?_
  refine x_aload_n (pc' := 842) rfl rfl rfl rfl rfl ?_
  refine x_iload (pc' := 844) rfl rfl rfl ?_
  refine x_iconst (pc' := 845) rfl rfl ?_
  refine x_iadd (pc' := 846) (z := 3) rfl rfl (by decide) ?_
  refine x_iald (pc' := 847) (N := 7) (x := (xs 3)) rfl rfl rfl (Eq.trans rdNthr (z_N_29_0 e)) (io_in (p := 3) (N := 7) (by decide) (by decide)) (Eq.trans (congrArg (sA (sThr t) 29 0) (nn_io (p := 3) (by decide))) (Eq.trans rdAthr (z_A_29_0_3 e))) ?_
  refine x_cv (ls0 := [_, _, _, _, sJk, sJk]) (rest := []) rfl rfl rfl rfl rfl ?_
  refine x_iload_n (pc' := 1) rfl rfl rfl ?_
  refine x_iconst (pc' := 2) rfl rfl ?_
  refine x_iconst (pc' := 3) rfl rfl ?_
  refine x_cs (ls0 := [_, _, _]) (rest := []) rfl rfl rfl rfl ?_
  refine x_iload_n (pc' := 1) rfl rfl rfl ?_
  refine x_iload_n (pc' := 2) rfl rfl rfl ?_
  refine x_icmp (a' := 14) (pc' := 5) (z := decide ((xs 1) < 0)) rfl rfl rfl rfl (fun h => absurd (of_decide_eq_true h) e0) (fun _ => ?_)
  refine x_iload_n (pc' := 6) rfl rfl rfl ?_
  refine x_iload_n (pc' := 7) rfl rfl rfl ?_
  refine x_icmp (a' := 14) (pc' := 10) (z := decide (5 < (xs 1))) rfl rfl rfl rfl (fun _ => ?_) (fun h => absurd (lt_of6 f0) (of_decide_eq_false h))
  refine x_iconst (pc' := 15) rfl rfl ?_
  refine x_retz (z := false) rfl rfl ?_
  refine sK_i (pc' := 6) rfl ?_
  refine x_if (a' := 20) (pc' := 9) (z := true) rfl rfl rfl (by decide) (fun _ => ?_) (fun h => by cases h)
  refine x_iconst (pc' := 21) rfl rfl ?_
  refine x_istore (pc' := 23) (ls' := [_, _, _, _, _, _]) rfl rfl rfl rfl ?_
  refine x_aload_n (pc' := 24) rfl rfl rfl rfl rfl ?_
  refine x_iload (pc' := 26) rfl rfl rfl ?_
  refine x_if (a' := 33) (pc' := 29) (z := false) rfl rfl rfl (by decide) (fun h => by cases h) (fun _ => ?_)
  refine x_iconst (pc' := 30) rfl rfl ?_
  refine x_goto (pc' := 51) rfl rfl ?_
  refine x_cv (ls0 := [_, _]) (rest := []) rfl rfl rfl rfl rfl ?_
  refine x_aload_n (pc' := 1) rfl rfl rfl rfl rfl ?_
  refine x_iload_n (pc' := 2) rfl rfl rfl ?_
  refine x_pI (pc' := 5) rfl rfl rfl ?_
  refine x_iload_n (pc' := 6) rfl rfl rfl ?_
  refine x_if (a' := 13) (pc' := 9) (z := true) rfl rfl rfl (by decide) (fun _ => ?_) (fun h => by cases h)
  refine x_iconst (pc' := 14) rfl rfl ?_
  refine x_retz (z := false) rfl rfl ?_
  refine sK_i (pc' := 54) rfl ?_
  refine x_if (a' := 59) (pc' := 57) (z := false) rfl rfl rfl (by decide) (fun h => by cases h) (fun _ => ?_)
  refine x_iconst (pc' := 58) rfl rfl ?_
  refine x_reti rfl rfl ?_
  refine sK_i (pc' := 850) rfl ?_
  refine x_istore (pc' := 852) (ls' := [_, _, _, _, _, _, _]) rfl rfl rfl rfl ?_
  refine x_aload_n (pc' := 853) rfl rfl rfl rfl rfl ?_
  refine x_cv (ls0 := [_]) (rest := []) rfl rfl rfl rfl rfl ?_
  refine x_aload_n (pc' := 1) rfl rfl rfl rfl rfl ?_
  refine x_gI (pc' := 4) (x := 1) rfl rfl rfl sI_s ?_
  refine x_reti rfl rfl ?_
  refine sK_i (pc' := 856) rfl ?_
  refine x_iload (pc' := 858) rfl rfl rfl ?_
  refine x_icmp (a' := 863) (pc' := 861) (z := true) rfl rfl rfl (by decide) (fun _ => ?_) (fun h => by cases h)
  refine x_iload (pc' := 865) rfl rfl rfl ?_
  refine x_if (a' := 880) (pc' := 868) (z := true) rfl rfl rfl (by decide) (fun _ => ?_) (fun h => by cases h)
  refine x_goto (pc' := 2938) rfl rfl ?_
  refine x_iinc (pc' := 2941) (y := 7) (ls' := [_, _, _, _, _, _, _]) rfl rfl rfl rfl rfl ?_
  refine x_goto (pc' := 23) rfl rfl ?_
  refine x_iload (pc' := 25) rfl rfl rfl ?_
  refine x_aload_n (pc' := 26) rfl rfl rfl rfl rfl ?_
  refine x_alen (pc' := 27) (N := 7) rfl rfl rfl (Eq.trans rdNI (Eq.trans rdNthr (z_N_29_0 e))) (?_ : X _ _ _ (.inl 7 :: _) _ _)
  refine x_bipush (pc' := 29) rfl rfl ?_
  refine x_isub (pc' := 30) (z := 0) rfl rfl (by decide) ?_
  refine x_icmp (a' := 2944) (pc' := 33) (z := true) rfl rfl rfl (by decide) (fun _ => ?_) (fun h => by cases h)
  refine x_iconst (pc' := 2945) rfl rfl ?_
  refine x_retz (z := true) rfl rfl ?_
  exact Qp_ok e (p := 1) (q := 6) rfl rfl rfl rfl
