set_option maxHeartbeats 4000000 in
set_option maxRecDepth 10000 in
theorem v_32_v_0 {t : sT} {xs : Nat → Int32} {m : Nat}
    (e : t = T16 7 xs)
    (hk : ((xs 0) &&& 63) = 32)
    (hm : m < 6)
    (e0 : xs 1 = io m)
    (e1 : xs 2 = 0) :
    X 297 23 [.inr (.inr (29, (some 0))), .inr (.inr (11, (some 0))), .inr (.inr (12, (some 0))), .inr (.inr (23, (some 0))), .inl 0, sJk, sJk] [] t Qp := by
  refine x_iload (pc' := 25) rfl rfl rfl ?_
  refine x_aload_n (pc' := 26) rfl rfl rfl rfl rfl ?_
  refine x_alen (pc' := 27) (N := 7) rfl rfl rfl (z_N_29_0 e) (?_ : X _ _ _ (.inl 7 :: _) _ _)
  refine x_bipush (pc' := 29) rfl rfl ?_
  refine x_isub (pc' := 30) (z := 0) rfl rfl (by decide) ?_
  refine x_icmp (a' := 2944) (pc' := 33) (z := false) rfl rfl rfl (by decide) (fun h => by cases h) (fun _ => ?_)
  refine x_aload_n (pc' := 34) rfl rfl rfl rfl rfl ?_
  refine x_iload (pc' := 36) rfl rfl rfl ?_
  refine x_iald (pc' := 37) (N := 7) (x := (xs 0)) rfl rfl rfl (z_N_29_0 e) (io_in (p := 0) (N := 7) (by decide) (by decide)) (Eq.trans (congrArg (sA t 29 0) (nn_io (p := 0) (by decide))) (z_A_29_0_0 e)) ?_
  refine x_bipush (pc' := 39) rfl rfl ?_
  refine x_iand (pc' := 40) (z := ((xs 0) &&& 63)) rfl rfl rfl ?_
  refine x_switch (pc' := 2433) rfl (by rw [hk]; decide) ?_
  refine x_aload_n (pc' := 2434) rfl rfl rfl rfl rfl ?_
  refine x_aload_n (pc' := 2435) rfl rfl rfl rfl rfl ?_
  refine x_iload (pc' := 2437) rfl rfl rfl ?_
  refine x_iconst (pc' := 2438) rfl rfl ?_
  refine x_iadd (pc' := 2439) (z := 1) rfl rfl (by decide) ?_
  refine x_iald (pc' := 2440) (N := 7) (x := (io m)) rfl rfl rfl (z_N_29_0 e) (io_in (p := 1) (N := 7) (by decide) (by decide)) (Eq.trans (congrArg (sA t 29 0) (nn_io (p := 1) (by decide))) (Eq.trans (z_A_29_0_1 e) e0)) ?_
  refine x_aload_n (pc' := 2441) rfl rfl rfl rfl rfl ?_
  refine x_iload (pc' := 2443) rfl rfl rfl ?_
  refine x_iconst (pc' := 2444) rfl rfl ?_
  refine x_iadd (pc' := 2445) (z := 2) rfl rfl (by decide) ?_
  refine x_iald (pc' := 2446) (N := 7) (x := 0) rfl rfl rfl (z_N_29_0 e) (io_in (p := 2) (N := 7) (by decide) (by decide)) (Eq.trans (congrArg (sA t 29 0) (nn_io (p := 2) (by decide))) (Eq.trans (z_A_29_0_2 e) e1)) ?_
  refine x_aload_n (pc' := 2447) rfl rfl rfl rfl rfl ?_
  refine x_cs (ls0 := [_, _, _, _, sJk]) (rest := []) rfl rfl rfl rfl ?_
  refine x_aload_n (pc' := 1) rfl rfl rfl rfl rfl ?_
  refine x_iconst (pc' := 2) rfl rfl ?_
  refine x_aload_n (pc' := 3) rfl rfl rfl rfl rfl ?_
  refine x_iload_n (pc' := 4) rfl rfl rfl ?_
  refine x_iload_n (pc' := 5) rfl rfl rfl ?_
  refine x_cv (ls0 := [_, _, _, sJk]) (rest := [_, _]) rfl rfl rfl rfl rfl ?_
  refine x_aload_n (pc' := 1) rfl rfl rfl rfl rfl ?_
  refine x_iload_n (pc' := 2) rfl rfl rfl ?_
  refine x_cv (ls0 := [_, _]) (rest := []) rfl rfl rfl rfl rfl ?_
  refine x_iload_n (pc' := 1) rfl rfl rfl ?_
  refine x_if (a' := 16) (pc' := 4) (z := decide (m < 0)) rfl rfl rfl (ic_lt (p := m) (q := 0) (Nat.lt_trans hm (by decide)) (by decide)) (fun h => absurd (of_decide_eq_true h) (by first | decide | omega | simp)) (fun _ => ?_)
  refine x_iload_n (pc' := 5) rfl rfl rfl ?_
  refine x_aload_n (pc' := 6) rfl rfl rfl rfl rfl ?_
  refine x_gR (pc' := 9) (r := (some 0)) rfl rfl rfl (z_R_704_0 e) ?_
  refine x_gR (pc' := 12) (r := (some 0)) rfl rfl rfl (z_R_321_0 e) ?_
  refine x_alen (pc' := 13) (N := 6) rfl rfl rfl (z_N_26_0 e) (?_ : X _ _ _ (.inl 6 :: _) _ _)
  refine x_icmp (a' := 27) (pc' := 16) (z := decide (m < 6)) rfl rfl rfl (ic_lt (p := m) (q := 6) (Nat.lt_trans hm (by decide)) (by decide)) (fun _ => ?_) (fun h => absurd (Nat.lt_of_lt_of_le hm (by decide)) (of_decide_eq_false h))
  refine x_aload_n (pc' := 28) rfl rfl rfl rfl rfl ?_
  refine x_gR (pc' := 31) (r := (some 0)) rfl rfl rfl (z_R_704_0 e) ?_
  refine x_gR (pc' := 34) (r := (some 0)) rfl rfl rfl (z_R_321_0 e) ?_
  refine x_iload_n (pc' := 35) rfl rfl rfl ?_
  refine x_aald (pc' := 36) (N := 6) (k' := 7) (r := (some m)) rfl rfl rfl (z_N_26_0 e) (io_in (p := m) (N := 6) hm (by decide)) (Eq.trans (congrArg (sE t 26 0) (nn_io (p := m) (Nat.lt_trans hm (by decide)))) (kM (Cn_e e) hm)) ?_
  refine x_reta rfl rfl ?_
  refine sK_i (pc' := 5) rfl ?_
  refine x_astore_n (pc' := 6) (ls' := [_, _, _, _]) rfl rfl rfl rfl rfl ?_
  refine x_aload_n (pc' := 7) rfl rfl rfl rfl rfl ?_
  refine x_aload_n (pc' := 8) rfl rfl rfl rfl rfl ?_
  refine x_iload_n (pc' := 9) rfl rfl rfl ?_
  refine x_cv (ls0 := [_, _]) (rest := [_]) rfl rfl rfl rfl rfl ?_
  refine x_iload_n (pc' := 1) rfl rfl rfl ?_
  refine x_if (a' := 16) (pc' := 4) (z := false) rfl rfl rfl (by decide) (fun h => by cases h) (fun _ => ?_)
  refine x_iload_n (pc' := 5) rfl rfl rfl ?_
  refine x_aload_n (pc' := 6) rfl rfl rfl rfl rfl ?_
  refine x_gR (pc' := 9) (r := (some 0)) rfl rfl rfl (z_R_704_0 e) ?_
  refine x_gR (pc' := 12) (r := (some 0)) rfl rfl rfl (z_R_320_0 e) ?_
  refine x_alen (pc' := 13) (N := 3) rfl rfl rfl (z_N_25_0 e) (?_ : X _ _ _ (.inl 3 :: _) _ _)
  refine x_icmp (a' := 27) (pc' := 16) (z := true) rfl rfl rfl (by decide) (fun _ => ?_) (fun h => by cases h)
  refine x_aload_n (pc' := 28) rfl rfl rfl rfl rfl ?_
  refine x_gR (pc' := 31) (r := (some 0)) rfl rfl rfl (z_R_704_0 e) ?_
  refine x_gR (pc' := 34) (r := (some 0)) rfl rfl rfl (z_R_320_0 e) ?_
  refine x_iload_n (pc' := 35) rfl rfl rfl ?_
  refine x_aald (pc' := 36) (N := 3) (k' := 2) (r := (some 0)) rfl rfl rfl (z_N_25_0 e) (io_in (p := 0) (N := 3) (by decide) (by decide)) (Eq.trans (congrArg (sE t 25 0) (nn_io (p := 0) (by decide))) (z_E_25_0_0 e)) ?_
  refine x_reta rfl rfl ?_
  refine sK_i (pc' := 12) rfl ?_
  refine x_cv (ls0 := [_, _, sJk]) (rest := []) rfl rfl rfl rfl rfl ?_
  refine x_aload_n (pc' := 1) rfl rfl rfl rfl rfl ?_
  refine x_gI (pc' := 4) (x := 0) rfl rfl rfl (z_I_128_0 e) ?_
  refine x_istore_n (pc' := 5) (ls' := [_, _, _]) rfl rfl rfl rfl ?_
  refine x_iload_n (pc' := 6) rfl rfl rfl ?_
  refine x_if (a' := 27) (pc' := 9) (z := false) rfl rfl rfl (by decide) (fun h => by cases h) (fun _ => ?_)
  refine x_iload_n (pc' := 10) rfl rfl rfl ?_
  refine x_aload_n (pc' := 11) rfl rfl rfl rfl rfl ?_
  refine x_gR (pc' := 14) (r := (some (m + 1))) rfl rfl rfl (kMp (Cn_e e) hm).1 ?_
  refine x_alen (pc' := 15) (N := 3) rfl rfl rfl (kMp (Cn_e e) hm).2.1 (?_ : X _ _ _ (.inl 3 :: _) _ _)
  refine x_icmp (a' := 27) (pc' := 18) (z := false) rfl rfl rfl (by decide) (fun h => by cases h) (fun _ => ?_)
  refine x_aload_n (pc' := 19) rfl rfl rfl rfl rfl ?_
  refine x_gR (pc' := 22) (r := (some (m + 1))) rfl rfl rfl (kMp (Cn_e e) hm).1 ?_
  refine x_iload_n (pc' := 23) rfl rfl rfl ?_
  refine x_iald (pc' := 24) (N := 3) (x := 0) rfl rfl rfl (kMp (Cn_e e) hm).2.1 (io_in (p := 0) (N := 3) (by decide) (by decide)) (Eq.trans (congrArg (sA t 20 (m + 1)) (nn_io (p := 0) (by decide))) (z_A_20_yy e _ _)) ?_
  refine x_goto (pc' := 28) rfl rfl ?_
  refine x_reti rfl rfl ?_
  refine sK_i (pc' := 15) rfl ?_
  refine x_reti rfl rfl ?_
  refine sK_i (pc' := 8) rfl ?_
  refine x_i2l (pc' := 9) (z := (0 : Int64)) rfl rfl (by decide) ?_
  refine x_last (pc' := 10) (N := 1) (p := 0) rfl rfl (z_N_23_0 e) (io_in (p := 0) (N := 1) (by decide) (by decide)) (nn_io (p := 0) (by decide)) ?_
  refine x_goto (pc' := 17) rfl rfl ?_
  refine x_iconst (pc' := 18) rfl rfl ?_
  refine x_reti rfl rfl ?_
  refine sK_i (pc' := 2450) rfl ?_
  refine x_istore (pc' := 2452) (ls' := [_, _, _, _, _, _, _]) rfl rfl rfl rfl ?_
  refine x_aload_n (pc' := 2453) rfl rfl rfl rfl rfl ?_
  refine x_aload_n (pc' := 2454) rfl rfl rfl rfl rfl ?_
  refine x_iload (pc' := 2456) rfl rfl rfl ?_
  refine x_iconst (pc' := 2457) rfl rfl ?_
  refine x_iadd (pc' := 2458) (z := 1) rfl rfl (by decide) ?_
  refine x_iald (pc' := 2459) (N := 7) (x := (io m)) rfl rfl rfl (Eq.trans rdNL (z_N_29_0 e)) (io_in (p := 1) (N := 7) (by decide) (by decide)) (Eq.trans (congrArg (sA (sLw t 23 0 0 (0 : Int64)) 29 0) (nn_io (p := 1) (by decide))) (Eq.trans rdAL (Eq.trans (z_A_29_0_1 e) e0))) ?_
  refine x_aload_n (pc' := 2460) rfl rfl rfl rfl rfl ?_
  refine x_iload (pc' := 2462) rfl rfl rfl ?_
  refine x_iconst (pc' := 2463) rfl rfl ?_
  refine x_iadd (pc' := 2464) (z := 2) rfl rfl (by decide) ?_
  refine x_iald (pc' := 2465) (N := 7) (x := 0) rfl rfl rfl (Eq.trans rdNL (z_N_29_0 e)) (io_in (p := 2) (N := 7) (by decide) (by decide)) (Eq.trans (congrArg (sA (sLw t 23 0 0 (0 : Int64)) 29 0) (nn_io (p := 2) (by decide))) (Eq.trans rdAL (Eq.trans (z_A_29_0_2 e) e1))) ?_
  refine x_cv (ls0 := [_, _, _]) (rest := []) rfl rfl rfl rfl rfl ?_
  refine x_aload_n (pc' := 1) rfl rfl rfl rfl rfl ?_
  refine x_iload_n (pc' := 2) rfl rfl rfl ?_
  refine x_cs (ls0 := [_]) (rest := [_]) rfl rfl rfl rfl ?_
  refine x_iload_n (pc' := 1) rfl rfl rfl ?_
  refine x_iconst (pc' := 2) rfl rfl ?_
  refine x_iconst (pc' := 3) rfl rfl ?_
  refine x_cs (ls0 := [_, _, _]) (rest := []) rfl rfl rfl rfl ?_
  refine x_iload_n (pc' := 1) rfl rfl rfl ?_
  refine x_iload_n (pc' := 2) rfl rfl rfl ?_
  refine x_icmp (a' := 14) (pc' := 5) (z := decide (m < 0)) rfl rfl rfl (ic_lt (p := m) (q := 0) (Nat.lt_trans hm (by decide)) (by decide)) (fun h => absurd (of_decide_eq_true h) (by first | decide | omega | simp)) (fun _ => ?_)
  refine x_iload_n (pc' := 6) rfl rfl rfl ?_
  refine x_iload_n (pc' := 7) rfl rfl rfl ?_
  refine x_icmp (a' := 14) (pc' := 10) (z := decide (5 < m)) rfl rfl rfl (ic_gt (p := m) (q := 5) (Nat.lt_trans hm (by decide)) (by decide)) (fun h => absurd (of_decide_eq_true h) (fun z => absurd hm (Nat.not_lt.mpr z))) (fun _ => ?_)
  refine x_iconst (pc' := 11) rfl rfl ?_
  refine x_goto (pc' := 15) rfl rfl ?_
  refine x_retz (z := true) rfl rfl ?_
  refine sK_i (pc' := 6) rfl ?_
  refine x_retz (z := true) rfl rfl ?_
  refine sK_i (pc' := 5) rfl ?_
  refine x_if (a' := 19) (pc' := 8) (z := false) rfl rfl rfl (by decide) (fun h => by cases h) (fun _ => ?_)
  refine x_iload_n (pc' := 9) rfl rfl rfl ?_
  refine x_cs (ls0 := [_]) (rest := [_]) rfl rfl rfl rfl ?_
  refine x_iload_n (pc' := 1) rfl rfl rfl ?_
  refine x_iconst (pc' := 2) rfl rfl ?_
  refine x_iconst (pc' := 3) rfl rfl ?_
  refine x_cs (ls0 := [_, _, _]) (rest := []) rfl rfl rfl rfl ?_
  refine x_iload_n (pc' := 1) rfl rfl rfl ?_
  refine x_iload_n (pc' := 2) rfl rfl rfl ?_
  refine x_icmp (a' := 14) (pc' := 5) (z := false) rfl rfl rfl (by decide) (fun h => by cases h) (fun _ => ?_)
  refine x_iload_n (pc' := 6) rfl rfl rfl ?_
  refine x_iload_n (pc' := 7) rfl rfl rfl ?_
  refine x_icmp (a' := 14) (pc' := 10) (z := false) rfl rfl rfl (by decide) (fun h => by cases h) (fun _ => ?_)
  refine x_iconst (pc' := 11) rfl rfl ?_
  refine x_goto (pc' := 15) rfl rfl ?_
  refine x_retz (z := true) rfl rfl ?_
  refine sK_i (pc' := 6) rfl ?_
  refine x_retz (z := true) rfl rfl ?_
  refine sK_i (pc' := 12) rfl ?_
  refine x_if (a' := 19) (pc' := 15) (z := false) rfl rfl rfl (by decide) (fun h => by cases h) (fun _ => ?_)
  refine x_iconst (pc' := 16) rfl rfl ?_
  refine x_goto (pc' := 20) rfl rfl ?_
  refine x_cv (ls0 := [_, _]) (rest := []) rfl rfl rfl rfl rfl ?_
  refine x_aload_n (pc' := 1) rfl rfl rfl rfl rfl ?_
  refine x_iload_n (pc' := 2) rfl rfl rfl ?_
  refine x_pI (pc' := 5) rfl rfl rfl ?_
  refine x_iload_n (pc' := 6) rfl rfl rfl ?_
  refine x_if (a' := 13) (pc' := 9) (z := false) rfl rfl rfl (by decide) (fun h => by cases h) (fun _ => ?_)
  refine x_iconst (pc' := 10) rfl rfl ?_
  refine x_goto (pc' := 14) rfl rfl ?_
  refine x_retz (z := true) rfl rfl ?_
  refine sK_i (pc' := 23) rfl ?_
  refine x_if (a' := 39) (pc' := 26) (z := false) rfl rfl rfl (by decide) (fun h => by cases h) (fun _ => ?_)
  refine x_aload_n (pc' := 27) rfl rfl rfl rfl rfl ?_
  refine x_gR (pc' := 30) (r := (some 6)) rfl rfl rfl (Eq.trans rdRI (Eq.trans rdRL (z_R_776_0 e))) ?_
  refine x_iconst (pc' := 31) rfl rfl ?_
  refine x_iload_n (pc' := 32) rfl rfl rfl ?_
  refine x_imul (pc' := 33) (z := (io (3 * m))) rfl rfl (io_mul 3 m) ?_
  refine x_iload_n (pc' := 34) rfl rfl rfl ?_
  refine x_iadd (pc' := 35) (z := (io ((3 * m) + 0))) rfl rfl (io_add (3 * m) 0) ?_
  refine x_iald (pc' := 36) (N := 18) (x := 0) rfl rfl rfl (Eq.trans rdNI (Eq.trans rdNL (z_N_21_6 e))) (io_in (p := ((3 * m) + 0)) (N := 18) (show ((3 * m) + 0) < 18 by omega) (by decide)) (Eq.trans (congrArg (sA (sIw (sLw t 23 0 0 (0 : Int64)) 768 0 0) 21 6) (nn_io (p := ((3 * m) + 0)) (Nat.lt_trans (show ((3 * m) + 0) < 18 by omega) (by decide)))) (Eq.trans rdAI (Eq.trans rdAL (z_A_21_6_y e _)))) ?_
  refine x_goto (pc' := 40) rfl rfl ?_
  refine x_reti rfl rfl ?_
  refine sK_i (pc' := 2468) rfl ?_
  refine x_istore (pc' := 2470) (ls' := [_, _, _, _, _, _, _]) rfl rfl rfl rfl ?_
  refine x_aload_n (pc' := 2471) rfl rfl rfl rfl rfl ?_
  refine x_cv (ls0 := [_]) (rest := []) rfl rfl rfl rfl rfl ?_
  refine x_aload_n (pc' := 1) rfl rfl rfl rfl rfl ?_
  refine x_gI (pc' := 4) (x := 0) rfl rfl rfl sI_s ?_
  refine x_reti rfl rfl ?_
  refine sK_i (pc' := 2474) rfl ?_
  refine x_iload (pc' := 2476) rfl rfl rfl ?_
  refine x_icmp (a' := 2481) (pc' := 2479) (z := true) rfl rfl rfl (by decide) (fun _ => ?_) (fun h => by cases h)
  refine x_iload (pc' := 2483) rfl rfl rfl ?_
  refine x_if (a' := 2498) (pc' := 2486) (z := false) rfl rfl rfl (by decide) (fun h => by cases h) (fun _ => ?_)
  refine x_aload_n (pc' := 2487) rfl rfl rfl rfl rfl ?_
  refine x_iconst (pc' := 2488) rfl rfl ?_
  refine x_lald (pc' := 2489) (N := 1) (x := (0 : Int64)) rfl rfl (Eq.trans rdNI (Eq.trans rdNL (z_N_23_0 e))) (io_in (p := 0) (N := 1) (by decide) (by decide)) (Eq.trans (congrArg (sL (sIw (sLw t 23 0 0 (0 : Int64)) 768 0 0) 23 0) (nn_io (p := 0) (by decide))) (Eq.trans rdLI sL_s)) ?_
  refine x_iload (pc' := 2491) rfl rfl rfl ?_
  refine x_i2l (pc' := 2492) (z := (0 : Int64)) rfl rfl (by decide) ?_
  refine x_lcmp (pc' := 2493) (z := 0) rfl rfl (sLcmp_s _) ?_
  refine x_if (a' := 2498) (pc' := 2496) (z := true) rfl rfl rfl (by decide) (fun _ => ?_) (fun h => by cases h)
  refine x_goto (pc' := 2938) rfl rfl ?_
  refine x_iinc (pc' := 2941) (y := 7) (ls' := [_, _, _, _, _, _, _]) rfl rfl rfl rfl rfl ?_
  refine x_goto (pc' := 23) rfl rfl ?_
  refine x_iload (pc' := 25) rfl rfl rfl ?_
  refine x_aload_n (pc' := 26) rfl rfl rfl rfl rfl ?_
  refine x_alen (pc' := 27) (N := 7) rfl rfl rfl (Eq.trans rdNI (Eq.trans rdNL (z_N_29_0 e))) (?_ : X _ _ _ (.inl 7 :: _) _ _)
  refine x_bipush (pc' := 29) rfl rfl ?_
  refine x_isub (pc' := 30) (z := 0) rfl rfl (by decide) ?_
  refine x_icmp (a' := 2944) (pc' := 33) (z := true) rfl rfl rfl (by decide) (fun _ => ?_) (fun h => by cases h)
  refine x_iconst (pc' := 2945) rfl rfl ?_
  refine x_retz (z := true) rfl rfl ?_
  exact Qp_ok e (p := 0) (q := 0) rfl rfl rfl rfl
set_option maxHeartbeats 4000000 in
set_option maxRecDepth 10000 in
theorem v_32_v_1 {t : sT} {xs : Nat → Int32} {m : Nat}
    (e : t = T16 7 xs)
    (hk : ((xs 0) &&& 63) = 32)
    (hm : m < 6)
    (e0 : xs 1 = io m)
    (e1 : xs 2 = 1) :
    X 297 23 [.inr (.inr (29, (some 0))), .inr (.inr (11, (some 0))), .inr (.inr (12, (some 0))), .inr (.inr (23, (some 0))), .inl 0, sJk, sJk] [] t Qp := by
  refine x_iload (pc' := 25) rfl rfl rfl ?_
  refine x_aload_n (pc' := 26) rfl rfl rfl rfl rfl ?_
  refine x_alen (pc' := 27) (N := 7) rfl rfl rfl (z_N_29_0 e) (?_ : X _ _ _ (.inl 7 :: _) _ _)
  refine x_bipush (pc' := 29) rfl rfl ?_
  refine x_isub (pc' := 30) (z := 0) rfl rfl (by decide) ?_
  refine x_icmp (a' := 2944) (pc' := 33) (z := false) rfl rfl rfl (by decide) (fun h => by cases h) (fun _ => ?_)
  refine x_aload_n (pc' := 34) rfl rfl rfl rfl rfl ?_
  refine x_iload (pc' := 36) rfl rfl rfl ?_
  refine x_iald (pc' := 37) (N := 7) (x := (xs 0)) rfl rfl rfl (z_N_29_0 e) (io_in (p := 0) (N := 7) (by decide) (by decide)) (Eq.trans (congrArg (sA t 29 0) (nn_io (p := 0) (by decide))) (z_A_29_0_0 e)) ?_
  refine x_bipush (pc' := 39) rfl rfl ?_
  refine x_iand (pc' := 40) (z := ((xs 0) &&& 63)) rfl rfl rfl ?_
  refine x_switch (pc' := 2433) rfl (by rw [hk]; decide) ?_
  refine x_aload_n (pc' := 2434) rfl rfl rfl rfl rfl ?_
  refine x_aload_n (pc' := 2435) rfl rfl rfl rfl rfl ?_
  refine x_iload (pc' := 2437) rfl rfl rfl ?_
  refine x_iconst (pc' := 2438) rfl rfl ?_
  refine x_iadd (pc' := 2439) (z := 1) rfl rfl (by decide) ?_
  refine x_iald (pc' := 2440) (N := 7) (x := (io m)) rfl rfl rfl (z_N_29_0 e) (io_in (p := 1) (N := 7) (by decide) (by decide)) (Eq.trans (congrArg (sA t 29 0) (nn_io (p := 1) (by decide))) (Eq.trans (z_A_29_0_1 e) e0)) ?_
  refine x_aload_n (pc' := 2441) rfl rfl rfl rfl rfl ?_
  refine x_iload (pc' := 2443) rfl rfl rfl ?_
  refine x_iconst (pc' := 2444) rfl rfl ?_
  refine x_iadd (pc' := 2445) (z := 2) rfl rfl (by decide) ?_
  refine x_iald (pc' := 2446) (N := 7) (x := 1) rfl rfl rfl (z_N_29_0 e) (io_in (p := 2) (N := 7) (by decide) (by decide)) (Eq.trans (congrArg (sA t 29 0) (nn_io (p := 2) (by decide))) (Eq.trans (z_A_29_0_2 e) e1)) ?_
  refine x_aload_n (pc' := 2447) rfl rfl rfl rfl rfl ?_
  refine x_cs (ls0 := [_, _, _, _, sJk]) (rest := []) rfl rfl rfl rfl ?_
  refine x_aload_n (pc' := 1) rfl rfl rfl rfl rfl ?_
  refine x_iconst (pc' := 2) rfl rfl ?_
  refine x_aload_n (pc' := 3) rfl rfl rfl rfl rfl ?_
  refine x_iload_n (pc' := 4) rfl rfl rfl ?_
  refine x_iload_n (pc' := 5) rfl rfl rfl ?_
  refine x_cv (ls0 := [_, _, _, sJk]) (rest := [_, _]) rfl rfl rfl rfl rfl ?_
  refine x_aload_n (pc' := 1) rfl rfl rfl rfl rfl ?_
  refine x_iload_n (pc' := 2) rfl rfl rfl ?_
  refine x_cv (ls0 := [_, _]) (rest := []) rfl rfl rfl rfl rfl ?_
  refine x_iload_n (pc' := 1) rfl rfl rfl ?_
  refine x_if (a' := 16) (pc' := 4) (z := decide (m < 0)) rfl rfl rfl (ic_lt (p := m) (q := 0) (Nat.lt_trans hm (by decide)) (by decide)) (fun h => absurd (of_decide_eq_true h) (by first | decide | omega | simp)) (fun _ => ?_)
  refine x_iload_n (pc' := 5) rfl rfl rfl ?_
  refine x_aload_n (pc' := 6) rfl rfl rfl rfl rfl ?_
  refine x_gR (pc' := 9) (r := (some 0)) rfl rfl rfl (z_R_704_0 e) ?_
  refine x_gR (pc' := 12) (r := (some 0)) rfl rfl rfl (z_R_321_0 e) ?_
  refine x_alen (pc' := 13) (N := 6) rfl rfl rfl (z_N_26_0 e) (?_ : X _ _ _ (.inl 6 :: _) _ _)
  refine x_icmp (a' := 27) (pc' := 16) (z := decide (m < 6)) rfl rfl rfl (ic_lt (p := m) (q := 6) (Nat.lt_trans hm (by decide)) (by decide)) (fun _ => ?_) (fun h => absurd (Nat.lt_of_lt_of_le hm (by decide)) (of_decide_eq_false h))
  refine x_aload_n (pc' := 28) rfl rfl rfl rfl rfl ?_
  refine x_gR (pc' := 31) (r := (some 0)) rfl rfl rfl (z_R_704_0 e) ?_
  refine x_gR (pc' := 34) (r := (some 0)) rfl rfl rfl (z_R_321_0 e) ?_
  refine x_iload_n (pc' := 35) rfl rfl rfl ?_
  refine x_aald (pc' := 36) (N := 6) (k' := 7) (r := (some m)) rfl rfl rfl (z_N_26_0 e) (io_in (p := m) (N := 6) hm (by decide)) (Eq.trans (congrArg (sE t 26 0) (nn_io (p := m) (Nat.lt_trans hm (by decide)))) (kM (Cn_e e) hm)) ?_
  refine x_reta rfl rfl ?_
  refine sK_i (pc' := 5) rfl ?_
  refine x_astore_n (pc' := 6) (ls' := [_, _, _, _]) rfl rfl rfl rfl rfl ?_
  refine x_aload_n (pc' := 7) rfl rfl rfl rfl rfl ?_
  refine x_aload_n (pc' := 8) rfl rfl rfl rfl rfl ?_
  refine x_iload_n (pc' := 9) rfl rfl rfl ?_
  refine x_cv (ls0 := [_, _]) (rest := [_]) rfl rfl rfl rfl rfl ?_
  refine x_iload_n (pc' := 1) rfl rfl rfl ?_
  refine x_if (a' := 16) (pc' := 4) (z := false) rfl rfl rfl (by decide) (fun h => by cases h) (fun _ => ?_)
  refine x_iload_n (pc' := 5) rfl rfl rfl ?_
  refine x_aload_n (pc' := 6) rfl rfl rfl rfl rfl ?_
  refine x_gR (pc' := 9) (r := (some 0)) rfl rfl rfl (z_R_704_0 e) ?_
  refine x_gR (pc' := 12) (r := (some 0)) rfl rfl rfl (z_R_320_0 e) ?_
  refine x_alen (pc' := 13) (N := 3) rfl rfl rfl (z_N_25_0 e) (?_ : X _ _ _ (.inl 3 :: _) _ _)
  refine x_icmp (a' := 27) (pc' := 16) (z := true) rfl rfl rfl (by decide) (fun _ => ?_) (fun h => by cases h)
  refine x_aload_n (pc' := 28) rfl rfl rfl rfl rfl ?_
  refine x_gR (pc' := 31) (r := (some 0)) rfl rfl rfl (z_R_704_0 e) ?_
  refine x_gR (pc' := 34) (r := (some 0)) rfl rfl rfl (z_R_320_0 e) ?_
  refine x_iload_n (pc' := 35) rfl rfl rfl ?_
  refine x_aald (pc' := 36) (N := 3) (k' := 2) (r := (some 1)) rfl rfl rfl (z_N_25_0 e) (io_in (p := 1) (N := 3) (by decide) (by decide)) (Eq.trans (congrArg (sE t 25 0) (nn_io (p := 1) (by decide))) (z_E_25_0_1 e)) ?_
  refine x_reta rfl rfl ?_
  refine sK_i (pc' := 12) rfl ?_
  refine x_cv (ls0 := [_, _, sJk]) (rest := []) rfl rfl rfl rfl rfl ?_
  refine x_aload_n (pc' := 1) rfl rfl rfl rfl rfl ?_
  refine x_gI (pc' := 4) (x := 1) rfl rfl rfl (z_I_128_1 e) ?_
  refine x_istore_n (pc' := 5) (ls' := [_, _, _]) rfl rfl rfl rfl ?_
  refine x_iload_n (pc' := 6) rfl rfl rfl ?_
  refine x_if (a' := 27) (pc' := 9) (z := false) rfl rfl rfl (by decide) (fun h => by cases h) (fun _ => ?_)
  refine x_iload_n (pc' := 10) rfl rfl rfl ?_
  refine x_aload_n (pc' := 11) rfl rfl rfl rfl rfl ?_
  refine x_gR (pc' := 14) (r := (some (m + 1))) rfl rfl rfl (kMp (Cn_e e) hm).1 ?_
  refine x_alen (pc' := 15) (N := 3) rfl rfl rfl (kMp (Cn_e e) hm).2.1 (?_ : X _ _ _ (.inl 3 :: _) _ _)
  refine x_icmp (a' := 27) (pc' := 18) (z := false) rfl rfl rfl (by decide) (fun h => by cases h) (fun _ => ?_)
  refine x_aload_n (pc' := 19) rfl rfl rfl rfl rfl ?_
  refine x_gR (pc' := 22) (r := (some (m + 1))) rfl rfl rfl (kMp (Cn_e e) hm).1 ?_
  refine x_iload_n (pc' := 23) rfl rfl rfl ?_
  refine x_iald (pc' := 24) (N := 3) (x := 0) rfl rfl rfl (kMp (Cn_e e) hm).2.1 (io_in (p := 1) (N := 3) (by decide) (by decide)) (Eq.trans (congrArg (sA t 20 (m + 1)) (nn_io (p := 1) (by decide))) (z_A_20_yy e _ _)) ?_
  refine x_goto (pc' := 28) rfl rfl ?_
  refine x_reti rfl rfl ?_
  refine sK_i (pc' := 15) rfl ?_
  refine x_reti rfl rfl ?_
  refine sK_i (pc' := 8) rfl ?_
  refine x_i2l (pc' := 9) (z := (0 : Int64)) rfl rfl (by decide) ?_
  refine x_last (pc' := 10) (N := 1) (p := 0) rfl rfl (z_N_23_0 e) (io_in (p := 0) (N := 1) (by decide) (by decide)) (nn_io (p := 0) (by decide)) ?_
  refine x_goto (pc' := 17) rfl rfl ?_
  refine x_iconst (pc' := 18) rfl rfl ?_
  refine x_reti rfl rfl ?_
  refine sK_i (pc' := 2450) rfl ?_
  refine x_istore (pc' := 2452) (ls' := [_, _, _, _, _, _, _]) rfl rfl rfl rfl ?_
  refine x_aload_n (pc' := 2453) rfl rfl rfl rfl rfl ?_
  refine x_aload_n (pc' := 2454) rfl rfl rfl rfl rfl ?_
  refine x_iload (pc' := 2456) rfl rfl rfl ?_
  refine x_iconst (pc' := 2457) rfl rfl ?_
  refine x_iadd (pc' := 2458) (z := 1) rfl rfl (by decide) ?_
  refine x_iald (pc' := 2459) (N := 7) (x := (io m)) rfl rfl rfl (Eq.trans rdNL (z_N_29_0 e)) (io_in (p := 1) (N := 7) (by decide) (by decide)) (Eq.trans (congrArg (sA (sLw t 23 0 0 (0 : Int64)) 29 0) (nn_io (p := 1) (by decide))) (Eq.trans rdAL (Eq.trans (z_A_29_0_1 e) e0))) ?_
  refine x_aload_n (pc' := 2460) rfl rfl rfl rfl rfl ?_
  refine x_iload (pc' := 2462) rfl rfl rfl ?_
  refine x_iconst (pc' := 2463) rfl rfl ?_
  refine x_iadd (pc' := 2464) (z := 2) rfl rfl (by decide) ?_
  refine x_iald (pc' := 2465) (N := 7) (x := 1) rfl rfl rfl (Eq.trans rdNL (z_N_29_0 e)) (io_in (p := 2) (N := 7) (by decide) (by decide)) (Eq.trans (congrArg (sA (sLw t 23 0 0 (0 : Int64)) 29 0) (nn_io (p := 2) (by decide))) (Eq.trans rdAL (Eq.trans (z_A_29_0_2 e) e1))) ?_
  refine x_cv (ls0 := [_, _, _]) (rest := []) rfl rfl rfl rfl rfl ?_
  refine x_aload_n (pc' := 1) rfl rfl rfl rfl rfl ?_
  refine x_iload_n (pc' := 2) rfl rfl rfl ?_
  refine x_cs (ls0 := [_]) (rest := [_]) rfl rfl rfl rfl ?_
  refine x_iload_n (pc' := 1) rfl rfl rfl ?_
  refine x_iconst (pc' := 2) rfl rfl ?_
  refine x_iconst (pc' := 3) rfl rfl ?_
  refine x_cs (ls0 := [_, _, _]) (rest := []) rfl rfl rfl rfl ?_
  refine x_iload_n (pc' := 1) rfl rfl rfl ?_
  refine x_iload_n (pc' := 2) rfl rfl rfl ?_
  refine x_icmp (a' := 14) (pc' := 5) (z := decide (m < 0)) rfl rfl rfl (ic_lt (p := m) (q := 0) (Nat.lt_trans hm (by decide)) (by decide)) (fun h => absurd (of_decide_eq_true h) (by first | decide | omega | simp)) (fun _ => ?_)
  refine x_iload_n (pc' := 6) rfl rfl rfl ?_
  refine x_iload_n (pc' := 7) rfl rfl rfl ?_
  refine x_icmp (a' := 14) (pc' := 10) (z := decide (5 < m)) rfl rfl rfl (ic_gt (p := m) (q := 5) (Nat.lt_trans hm (by decide)) (by decide)) (fun h => absurd (of_decide_eq_true h) (fun z => absurd hm (Nat.not_lt.mpr z))) (fun _ => ?_)
  refine x_iconst (pc' := 11) rfl rfl ?_
  refine x_goto (pc' := 15) rfl rfl ?_
  refine x_retz (z := true) rfl rfl ?_
  refine sK_i (pc' := 6) rfl ?_
  refine x_retz (z := true) rfl rfl ?_
  refine sK_i (pc' := 5) rfl ?_
  refine x_if (a' := 19) (pc' := 8) (z := false) rfl rfl rfl (by decide) (fun h => by cases h) (fun _ => ?_)
  refine x_iload_n (pc' := 9) rfl rfl rfl ?_
  refine x_cs (ls0 := [_]) (rest := [_]) rfl rfl rfl rfl ?_
  refine x_iload_n (pc' := 1) rfl rfl rfl ?_
  refine x_iconst (pc' := 2) rfl rfl ?_
  refine x_iconst (pc' := 3) rfl rfl ?_
  refine x_cs (ls0 := [_, _, _]) (rest := []) rfl rfl rfl rfl ?_
  refine x_iload_n (pc' := 1) rfl rfl rfl ?_
  refine x_iload_n (pc' := 2) rfl rfl rfl ?_
  refine x_icmp (a' := 14) (pc' := 5) (z := false) rfl rfl rfl (by decide) (fun h => by cases h) (fun _ => ?_)
  refine x_iload_n (pc' := 6) rfl rfl rfl ?_
  refine x_iload_n (pc' := 7) rfl rfl rfl ?_
  refine x_icmp (a' := 14) (pc' := 10) (z := false) rfl rfl rfl (by decide) (fun h => by cases h) (fun _ => ?_)
  refine x_iconst (pc' := 11) rfl rfl ?_
  refine x_goto (pc' := 15) rfl rfl ?_
  refine x_retz (z := true) rfl rfl ?_
  refine sK_i (pc' := 6) rfl ?_
  refine x_retz (z := true) rfl rfl ?_
  refine sK_i (pc' := 12) rfl ?_
  refine x_if (a' := 19) (pc' := 15) (z := false) rfl rfl rfl (by decide) (fun h => by cases h) (fun _ => ?_)
  refine x_iconst (pc' := 16) rfl rfl ?_
  refine x_goto (pc' := 20) rfl rfl ?_
  refine x_cv (ls0 := [_, _]) (rest := []) rfl rfl rfl rfl rfl ?_
  refine x_aload_n (pc' := 1) rfl rfl rfl rfl rfl ?_
  refine x_iload_n (pc' := 2) rfl rfl rfl ?_
  refine x_pI (pc' := 5) rfl rfl rfl ?_
  refine x_iload_n (pc' := 6) rfl rfl rfl ?_
  refine x_if (a' := 13) (pc' := 9) (z := false) rfl rfl rfl (by decide) (fun h => by cases h) (fun _ => ?_)
  refine x_iconst (pc' := 10) rfl rfl ?_
  refine x_goto (pc' := 14) rfl rfl ?_
  refine x_retz (z := true) rfl rfl ?_
  refine sK_i (pc' := 23) rfl ?_
  refine x_if (a' := 39) (pc' := 26) (z := false) rfl rfl rfl (by decide) (fun h => by cases h) (fun _ => ?_)
  refine x_aload_n (pc' := 27) rfl rfl rfl rfl rfl ?_
  refine x_gR (pc' := 30) (r := (some 6)) rfl rfl rfl (Eq.trans rdRI (Eq.trans rdRL (z_R_776_0 e))) ?_
  refine x_iconst (pc' := 31) rfl rfl ?_
  refine x_iload_n (pc' := 32) rfl rfl rfl ?_
  refine x_imul (pc' := 33) (z := (io (3 * m))) rfl rfl (io_mul 3 m) ?_
  refine x_iload_n (pc' := 34) rfl rfl rfl ?_
  refine x_iadd (pc' := 35) (z := (io ((3 * m) + 1))) rfl rfl (io_add (3 * m) 1) ?_
  refine x_iald (pc' := 36) (N := 18) (x := 0) rfl rfl rfl (Eq.trans rdNI (Eq.trans rdNL (z_N_21_6 e))) (io_in (p := ((3 * m) + 1)) (N := 18) (show ((3 * m) + 1) < 18 by omega) (by decide)) (Eq.trans (congrArg (sA (sIw (sLw t 23 0 0 (0 : Int64)) 768 0 0) 21 6) (nn_io (p := ((3 * m) + 1)) (Nat.lt_trans (show ((3 * m) + 1) < 18 by omega) (by decide)))) (Eq.trans rdAI (Eq.trans rdAL (z_A_21_6_y e _)))) ?_
  refine x_goto (pc' := 40) rfl rfl ?_
  refine x_reti rfl rfl ?_
  refine sK_i (pc' := 2468) rfl ?_
  refine x_istore (pc' := 2470) (ls' := [_, _, _, _, _, _, _]) rfl rfl rfl rfl ?_
  refine x_aload_n (pc' := 2471) rfl rfl rfl rfl rfl ?_
  refine x_cv (ls0 := [_]) (rest := []) rfl rfl rfl rfl rfl ?_
  refine x_aload_n (pc' := 1) rfl rfl rfl rfl rfl ?_
  refine x_gI (pc' := 4) (x := 0) rfl rfl rfl sI_s ?_
  refine x_reti rfl rfl ?_
  refine sK_i (pc' := 2474) rfl ?_
  refine x_iload (pc' := 2476) rfl rfl rfl ?_
  refine x_icmp (a' := 2481) (pc' := 2479) (z := true) rfl rfl rfl (by decide) (fun _ => ?_) (fun h => by cases h)
  refine x_iload (pc' := 2483) rfl rfl rfl ?_
  refine x_if (a' := 2498) (pc' := 2486) (z := false) rfl rfl rfl (by decide) (fun h => by cases h) (fun _ => ?_)
  refine x_aload_n (pc' := 2487) rfl rfl rfl rfl rfl ?_
  refine x_iconst (pc' := 2488) rfl rfl ?_
  refine x_lald (pc' := 2489) (N := 1) (x := (0 : Int64)) rfl rfl (Eq.trans rdNI (Eq.trans rdNL (z_N_23_0 e))) (io_in (p := 0) (N := 1) (by decide) (by decide)) (Eq.trans (congrArg (sL (sIw (sLw t 23 0 0 (0 : Int64)) 768 0 0) 23 0) (nn_io (p := 0) (by decide))) (Eq.trans rdLI sL_s)) ?_
  refine x_iload (pc' := 2491) rfl rfl rfl ?_
  refine x_i2l (pc' := 2492) (z := (0 : Int64)) rfl rfl (by decide) ?_
  refine x_lcmp (pc' := 2493) (z := 0) rfl rfl (sLcmp_s _) ?_
  refine x_if (a' := 2498) (pc' := 2496) (z := true) rfl rfl rfl (by decide) (fun _ => ?_) (fun h => by cases h)
  refine x_goto (pc' := 2938) rfl rfl ?_
  refine x_iinc (pc' := 2941) (y := 7) (ls' := [_, _, _, _, _, _, _]) rfl rfl rfl rfl rfl ?_
  refine x_goto (pc' := 23) rfl rfl ?_
  refine x_iload (pc' := 25) rfl rfl rfl ?_
  refine x_aload_n (pc' := 26) rfl rfl rfl rfl rfl ?_
  refine x_alen (pc' := 27) (N := 7) rfl rfl rfl (Eq.trans rdNI (Eq.trans rdNL (z_N_29_0 e))) (?_ : X _ _ _ (.inl 7 :: _) _ _)
  refine x_bipush (pc' := 29) rfl rfl ?_
  refine x_isub (pc' := 30) (z := 0) rfl rfl (by decide) ?_
  refine x_icmp (a' := 2944) (pc' := 33) (z := true) rfl rfl rfl (by decide) (fun _ => ?_) (fun h => by cases h)
  refine x_iconst (pc' := 2945) rfl rfl ?_
  refine x_retz (z := true) rfl rfl ?_
  exact Qp_ok e (p := 0) (q := 0) rfl rfl rfl rfl
set_option maxHeartbeats 4000000 in
set_option maxRecDepth 10000 in
theorem v_32_v_2 {t : sT} {xs : Nat → Int32} {m : Nat}
    (e : t = T16 7 xs)
    (hk : ((xs 0) &&& 63) = 32)
    (hm : m < 6)
    (e0 : xs 1 = io m)
    (e1 : xs 2 = 2) :
    X 297 23 [.inr (.inr (29, (some 0))), .inr (.inr (11, (some 0))), .inr (.inr (12, (some 0))), .inr (.inr (23, (some 0))), .inl 0, sJk, sJk] [] t Qp := by
  refine x_iload (pc' := 25) rfl rfl rfl ?_
  refine x_aload_n (pc' := 26) rfl rfl rfl rfl rfl ?_
  refine x_alen (pc' := 27) (N := 7) rfl rfl rfl (z_N_29_0 e) (?_ : X _ _ _ (.inl 7 :: _) _ _)
  refine x_bipush (pc' := 29) rfl rfl ?_
  refine x_isub (pc' := 30) (z := 0) rfl rfl (by decide) ?_
  refine x_icmp (a' := 2944) (pc' := 33) (z := false) rfl rfl rfl (by decide) (fun h => by cases h) (fun _ => ?_)
  refine x_aload_n (pc' := 34) rfl rfl rfl rfl rfl ?_
  refine x_iload (pc' := 36) rfl rfl rfl ?_
  refine x_iald (pc' := 37) (N := 7) (x := (xs 0)) rfl rfl rfl (z_N_29_0 e) (io_in (p := 0) (N := 7) (by decide) (by decide)) (Eq.trans (congrArg (sA t 29 0) (nn_io (p := 0) (by decide))) (z_A_29_0_0 e)) ?_
  refine x_bipush (pc' := 39) rfl rfl ?_
  refine x_iand (pc' := 40) (z := ((xs 0) &&& 63)) rfl rfl rfl ?_
  refine x_switch (pc' := 2433) rfl (by rw [hk]; decide) ?_
  refine x_aload_n (pc' := 2434) rfl rfl rfl rfl rfl ?_
  refine x_aload_n (pc' := 2435) rfl rfl rfl rfl rfl ?_
  refine x_iload (pc' := 2437) rfl rfl rfl ?_
  refine x_iconst (pc' := 2438) rfl rfl ?_
  refine x_iadd (pc' := 2439) (z := 1) rfl rfl (by decide) ?_
  refine x_iald (pc' := 2440) (N := 7) (x := (io m)) rfl rfl rfl (z_N_29_0 e) (io_in (p := 1) (N := 7) (by decide) (by decide)) (Eq.trans (congrArg (sA t 29 0) (nn_io (p := 1) (by decide))) (Eq.trans (z_A_29_0_1 e) e0)) ?_
  refine x_aload_n (pc' := 2441) rfl rfl rfl rfl rfl ?_
  refine x_iload (pc' := 2443) rfl rfl rfl ?_
  refine x_iconst (pc' := 2444) rfl rfl ?_
  refine x_iadd (pc' := 2445) (z := 2) rfl rfl (by decide) ?_
  refine x_iald (pc' := 2446) (N := 7) (x := 2) rfl rfl rfl (z_N_29_0 e) (io_in (p := 2) (N := 7) (by decide) (by decide)) (Eq.trans (congrArg (sA t 29 0) (nn_io (p := 2) (by decide))) (Eq.trans (z_A_29_0_2 e) e1)) ?_
  refine x_aload_n (pc' := 2447) rfl rfl rfl rfl rfl ?_
  refine x_cs (ls0 := [_, _, _, _, sJk]) (rest := []) rfl rfl rfl rfl ?_
  refine x_aload_n (pc' := 1) rfl rfl rfl rfl rfl ?_
  refine x_iconst (pc' := 2) rfl rfl ?_
  refine x_aload_n (pc' := 3) rfl rfl rfl rfl rfl ?_
  refine x_iload_n (pc' := 4) rfl rfl rfl ?_
  refine x_iload_n (pc' := 5) rfl rfl rfl ?_
  refine x_cv (ls0 := [_, _, _, sJk]) (rest := [_, _]) rfl rfl rfl rfl rfl ?_
  refine x_aload_n (pc' := 1) rfl rfl rfl rfl rfl ?_
  refine x_iload_n (pc' := 2) rfl rfl rfl ?_
  refine x_cv (ls0 := [_, _]) (rest := []) rfl rfl rfl rfl rfl ?_
  refine x_iload_n (pc' := 1) rfl rfl rfl ?_
  refine x_if (a' := 16) (pc' := 4) (z := decide (m < 0)) rfl rfl rfl (ic_lt (p := m) (q := 0) (Nat.lt_trans hm (by decide)) (by decide)) (fun h => absurd (of_decide_eq_true h) (by first | decide | omega | simp)) (fun _ => ?_)
  refine x_iload_n (pc' := 5) rfl rfl rfl ?_
  refine x_aload_n (pc' := 6) rfl rfl rfl rfl rfl ?_
  refine x_gR (pc' := 9) (r := (some 0)) rfl rfl rfl (z_R_704_0 e) ?_
  refine x_gR (pc' := 12) (r := (some 0)) rfl rfl rfl (z_R_321_0 e) ?_
  refine x_alen (pc' := 13) (N := 6) rfl rfl rfl (z_N_26_0 e) (?_ : X _ _ _ (.inl 6 :: _) _ _)
  refine x_icmp (a' := 27) (pc' := 16) (z := decide (m < 6)) rfl rfl rfl (ic_lt (p := m) (q := 6) (Nat.lt_trans hm (by decide)) (by decide)) (fun _ => ?_) (fun h => absurd (Nat.lt_of_lt_of_le hm (by decide)) (of_decide_eq_false h))
  refine x_aload_n (pc' := 28) rfl rfl rfl rfl rfl ?_
  refine x_gR (pc' := 31) (r := (some 0)) rfl rfl rfl (z_R_704_0 e) ?_
  refine x_gR (pc' := 34) (r := (some 0)) rfl rfl rfl (z_R_321_0 e) ?_
  refine x_iload_n (pc' := 35) rfl rfl rfl ?_
  refine x_aald (pc' := 36) (N := 6) (k' := 7) (r := (some m)) rfl rfl rfl (z_N_26_0 e) (io_in (p := m) (N := 6) hm (by decide)) (Eq.trans (congrArg (sE t 26 0) (nn_io (p := m) (Nat.lt_trans hm (by decide)))) (kM (Cn_e e) hm)) ?_
  refine x_reta rfl rfl ?_
  refine sK_i (pc' := 5) rfl ?_
  refine x_astore_n (pc' := 6) (ls' := [_, _, _, _]) rfl rfl rfl rfl rfl ?_
  refine x_aload_n (pc' := 7) rfl rfl rfl rfl rfl ?_
  refine x_aload_n (pc' := 8) rfl rfl rfl rfl rfl ?_
  refine x_iload_n (pc' := 9) rfl rfl rfl ?_
  refine x_cv (ls0 := [_, _]) (rest := [_]) rfl rfl rfl rfl rfl ?_
  refine x_iload_n (pc' := 1) rfl rfl rfl ?_
  refine x_if (a' := 16) (pc' := 4) (z := false) rfl rfl rfl (by decide) (fun h => by cases h) (fun _ => ?_)
  refine x_iload_n (pc' := 5) rfl rfl rfl ?_
  refine x_aload_n (pc' := 6) rfl rfl rfl rfl rfl ?_
  refine x_gR (pc' := 9) (r := (some 0)) rfl rfl rfl (z_R_704_0 e) ?_
  refine x_gR (pc' := 12) (r := (some 0)) rfl rfl rfl (z_R_320_0 e) ?_
  refine x_alen (pc' := 13) (N := 3) rfl rfl rfl (z_N_25_0 e) (?_ : X _ _ _ (.inl 3 :: _) _ _)
  refine x_icmp (a' := 27) (pc' := 16) (z := true) rfl rfl rfl (by decide) (fun _ => ?_) (fun h => by cases h)
  refine x_aload_n (pc' := 28) rfl rfl rfl rfl rfl ?_
  refine x_gR (pc' := 31) (r := (some 0)) rfl rfl rfl (z_R_704_0 e) ?_
  refine x_gR (pc' := 34) (r := (some 0)) rfl rfl rfl (z_R_320_0 e) ?_
  refine x_iload_n (pc' := 35) rfl rfl rfl ?_
  refine x_aald (pc' := 36) (N := 3) (k' := 2) (r := (some 2)) rfl rfl rfl (z_N_25_0 e) (io_in (p := 2) (N := 3) (by decide) (by decide)) (Eq.trans (congrArg (sE t 25 0) (nn_io (p := 2) (by decide))) (z_E_25_0_2 e)) ?_
  refine x_reta rfl rfl ?_
  refine sK_i (pc' := 12) rfl ?_
  refine x_cv (ls0 := [_, _, sJk]) (rest := []) rfl rfl rfl rfl rfl ?_
  refine x_aload_n (pc' := 1) rfl rfl rfl rfl rfl ?_
  refine x_gI (pc' := 4) (x := 2) rfl rfl rfl (z_I_128_2 e) ?_
  refine x_istore_n (pc' := 5) (ls' := [_, _, _]) rfl rfl rfl rfl ?_
  refine x_iload_n (pc' := 6) rfl rfl rfl ?_
  refine x_if (a' := 27) (pc' := 9) (z := false) rfl rfl rfl (by decide) (fun h => by cases h) (fun _ => ?_)
  refine x_iload_n (pc' := 10) rfl rfl rfl ?_
  refine x_aload_n (pc' := 11) rfl rfl rfl rfl rfl ?_
  refine x_gR (pc' := 14) (r := (some (m + 1))) rfl rfl rfl (kMp (Cn_e e) hm).1 ?_
  refine x_alen (pc' := 15) (N := 3) rfl rfl rfl (kMp (Cn_e e) hm).2.1 (?_ : X _ _ _ (.inl 3 :: _) _ _)
  refine x_icmp (a' := 27) (pc' := 18) (z := false) rfl rfl rfl (by decide) (fun h => by cases h) (fun _ => ?_)
  refine x_aload_n (pc' := 19) rfl rfl rfl rfl rfl ?_
  refine x_gR (pc' := 22) (r := (some (m + 1))) rfl rfl rfl (kMp (Cn_e e) hm).1 ?_
  refine x_iload_n (pc' := 23) rfl rfl rfl ?_
  refine x_iald (pc' := 24) (N := 3) (x := 0) rfl rfl rfl (kMp (Cn_e e) hm).2.1 (io_in (p := 2) (N := 3) (by decide) (by decide)) (Eq.trans (congrArg (sA t 20 (m + 1)) (nn_io (p := 2) (by decide))) (z_A_20_yy e _ _)) ?_
  refine x_goto (pc' := 28) rfl rfl ?_
  refine x_reti rfl rfl ?_
  refine sK_i (pc' := 15) rfl ?_
  refine x_reti rfl rfl ?_
  refine sK_i (pc' := 8) rfl ?_
  refine x_i2l (pc' := 9) (z := (0 : Int64)) rfl rfl (by decide) ?_
  refine x_last (pc' := 10) (N := 1) (p := 0) rfl rfl (z_N_23_0 e) (io_in (p := 0) (N := 1) (by decide) (by decide)) (nn_io (p := 0) (by decide)) ?_
  refine x_goto (pc' := 17) rfl rfl ?_
  refine x_iconst (pc' := 18) rfl rfl ?_
  refine x_reti rfl rfl ?_
  refine sK_i (pc' := 2450) rfl ?_
  refine x_istore (pc' := 2452) (ls' := [_, _, _, _, _, _, _]) rfl rfl rfl rfl ?_
  refine x_aload_n (pc' := 2453) rfl rfl rfl rfl rfl ?_
  refine x_aload_n (pc' := 2454) rfl rfl rfl rfl rfl ?_
  refine x_iload (pc' := 2456) rfl rfl rfl ?_
  refine x_iconst (pc' := 2457) rfl rfl ?_
  refine x_iadd (pc' := 2458) (z := 1) rfl rfl (by decide) ?_
  refine x_iald (pc' := 2459) (N := 7) (x := (io m)) rfl rfl rfl (Eq.trans rdNL (z_N_29_0 e)) (io_in (p := 1) (N := 7) (by decide) (by decide)) (Eq.trans (congrArg (sA (sLw t 23 0 0 (0 : Int64)) 29 0) (nn_io (p := 1) (by decide))) (Eq.trans rdAL (Eq.trans (z_A_29_0_1 e) e0))) ?_
  refine x_aload_n (pc' := 2460) rfl rfl rfl rfl rfl ?_
  refine x_iload (pc' := 2462) rfl rfl rfl ?_
  refine x_iconst (pc' := 2463) rfl rfl ?_
  refine x_iadd (pc' := 2464) (z := 2) rfl rfl (by decide) ?_
  refine x_iald (pc' := 2465) (N := 7) (x := 2) rfl rfl rfl (Eq.trans rdNL (z_N_29_0 e)) (io_in (p := 2) (N := 7) (by decide) (by decide)) (Eq.trans (congrArg (sA (sLw t 23 0 0 (0 : Int64)) 29 0) (nn_io (p := 2) (by decide))) (Eq.trans rdAL (Eq.trans (z_A_29_0_2 e) e1))) ?_
  refine x_cv (ls0 := [_, _, _]) (rest := []) rfl rfl rfl rfl rfl ?_
  refine x_aload_n (pc' := 1) rfl rfl rfl rfl rfl ?_
  refine x_iload_n (pc' := 2) rfl rfl rfl ?_
  refine x_cs (ls0 := [_]) (rest := [_]) rfl rfl rfl rfl ?_
  refine x_iload_n (pc' := 1) rfl rfl rfl ?_
  refine x_iconst (pc' := 2) rfl rfl ?_
  refine x_iconst (pc' := 3) rfl rfl ?_
  refine x_cs (ls0 := [_, _, _]) (rest := []) rfl rfl rfl rfl ?_
  refine x_iload_n (pc' := 1) rfl rfl rfl ?_
  refine x_iload_n (pc' := 2) rfl rfl rfl ?_
  refine x_icmp (a' := 14) (pc' := 5) (z := decide (m < 0)) rfl rfl rfl (ic_lt (p := m) (q := 0) (Nat.lt_trans hm (by decide)) (by decide)) (fun h => absurd (of_decide_eq_true h) (by first | decide | omega | simp)) (fun _ => ?_)
  refine x_iload_n (pc' := 6) rfl rfl rfl ?_
  refine x_iload_n (pc' := 7) rfl rfl rfl ?_
  refine x_icmp (a' := 14) (pc' := 10) (z := decide (5 < m)) rfl rfl rfl (ic_gt (p := m) (q := 5) (Nat.lt_trans hm (by decide)) (by decide)) (fun h => absurd (of_decide_eq_true h) (fun z => absurd hm (Nat.not_lt.mpr z))) (fun _ => ?_)
  refine x_iconst (pc' := 11) rfl rfl ?_
  refine x_goto (pc' := 15) rfl rfl ?_
  refine x_retz (z := true) rfl rfl ?_
  refine sK_i (pc' := 6) rfl ?_
  refine x_retz (z := true) rfl rfl ?_
  refine sK_i (pc' := 5) rfl ?_
  refine x_if (a' := 19) (pc' := 8) (z := false) rfl rfl rfl (by decide) (fun h => by cases h) (fun _ => ?_)
  refine x_iload_n (pc' := 9) rfl rfl rfl ?_
  refine x_cs (ls0 := [_]) (rest := [_]) rfl rfl rfl rfl ?_
  refine x_iload_n (pc' := 1) rfl rfl rfl ?_
  refine x_iconst (pc' := 2) rfl rfl ?_
  refine x_iconst (pc' := 3) rfl rfl ?_
  refine x_cs (ls0 := [_, _, _]) (rest := []) rfl rfl rfl rfl ?_
  refine x_iload_n (pc' := 1) rfl rfl rfl ?_
  refine x_iload_n (pc' := 2) rfl rfl rfl ?_
  refine x_icmp (a' := 14) (pc' := 5) (z := false) rfl rfl rfl (by decide) (fun h => by cases h) (fun _ => ?_)
  refine x_iload_n (pc' := 6) rfl rfl rfl ?_
  refine x_iload_n (pc' := 7) rfl rfl rfl ?_
  refine x_icmp (a' := 14) (pc' := 10) (z := false) rfl rfl rfl (by decide) (fun h => by cases h) (fun _ => ?_)
  refine x_iconst (pc' := 11) rfl rfl ?_
  refine x_goto (pc' := 15) rfl rfl ?_
  refine x_retz (z := true) rfl rfl ?_
  refine sK_i (pc' := 6) rfl ?_
  refine x_retz (z := true) rfl rfl ?_
  refine sK_i (pc' := 12) rfl ?_
  refine x_if (a' := 19) (pc' := 15) (z := false) rfl rfl rfl (by decide) (fun h => by cases h) (fun _ => ?_)
  refine x_iconst (pc' := 16) rfl rfl ?_
  refine x_goto (pc' := 20) rfl rfl ?_
  refine x_cv (ls0 := [_, _]) (rest := []) rfl rfl rfl rfl rfl ?_
  refine x_aload_n (pc' := 1) rfl rfl rfl rfl rfl ?_
  refine x_iload_n (pc' := 2) rfl rfl rfl ?_
  refine x_pI (pc' := 5) rfl rfl rfl ?_
  refine x_iload_n (pc' := 6) rfl rfl rfl ?_
  refine x_if (a' := 13) (pc' := 9) (z := false) rfl rfl rfl (by decide) (fun h => by cases h) (fun _ => ?_)
  refine x_iconst (pc' := 10) rfl rfl ?_
  refine x_goto (pc' := 14) rfl rfl ?_
  refine x_retz (z := true) rfl rfl ?_
  refine sK_i (pc' := 23) rfl ?_
  refine x_if (a' := 39) (pc' := 26) (z := false) rfl rfl rfl (by decide) (fun h => by cases h) (fun _ => ?_)
  refine x_aload_n (pc' := 27) rfl rfl rfl rfl rfl ?_
  refine x_gR (pc' := 30) (r := (some 6)) rfl rfl rfl (Eq.trans rdRI (Eq.trans rdRL (z_R_776_0 e))) ?_
  refine x_iconst (pc' := 31) rfl rfl ?_
  refine x_iload_n (pc' := 32) rfl rfl rfl ?_
  refine x_imul (pc' := 33) (z := (io (3 * m))) rfl rfl (io_mul 3 m) ?_
  refine x_iload_n (pc' := 34) rfl rfl rfl ?_
  refine x_iadd (pc' := 35) (z := (io ((3 * m) + 2))) rfl rfl (io_add (3 * m) 2) ?_
  refine x_iald (pc' := 36) (N := 18) (x := 0) rfl rfl rfl (Eq.trans rdNI (Eq.trans rdNL (z_N_21_6 e))) (io_in (p := ((3 * m) + 2)) (N := 18) (show ((3 * m) + 2) < 18 by omega) (by decide)) (Eq.trans (congrArg (sA (sIw (sLw t 23 0 0 (0 : Int64)) 768 0 0) 21 6) (nn_io (p := ((3 * m) + 2)) (Nat.lt_trans (show ((3 * m) + 2) < 18 by omega) (by decide)))) (Eq.trans rdAI (Eq.trans rdAL (z_A_21_6_y e _)))) ?_
  refine x_goto (pc' := 40) rfl rfl ?_
  refine x_reti rfl rfl ?_
  refine sK_i (pc' := 2468) rfl ?_
  refine x_istore (pc' := 2470) (ls' := [_, _, _, _, _, _, _]) rfl rfl rfl rfl ?_
  refine x_aload_n (pc' := 2471) rfl rfl rfl rfl rfl ?_
  refine x_cv (ls0 := [_]) (rest := []) rfl rfl rfl rfl rfl ?_
  refine x_aload_n (pc' := 1) rfl rfl rfl rfl rfl ?_
  refine x_gI (pc' := 4) (x := 0) rfl rfl rfl sI_s ?_
  refine x_reti rfl rfl ?_
  refine sK_i (pc' := 2474) rfl ?_
  refine x_iload (pc' := 2476) rfl rfl rfl ?_
  refine x_icmp (a' := 2481) (pc' := 2479) (z := true) rfl rfl rfl (by decide) (fun _ => ?_) (fun h => by cases h)
  refine x_iload (pc' := 2483) rfl rfl rfl ?_
  refine x_if (a' := 2498) (pc' := 2486) (z := false) rfl rfl rfl (by decide) (fun h => by cases h) (fun _ => ?_)
  refine x_aload_n (pc' := 2487) rfl rfl rfl rfl rfl ?_
  refine x_iconst (pc' := 2488) rfl rfl ?_
  refine x_lald (pc' := 2489) (N := 1) (x := (0 : Int64)) rfl rfl (Eq.trans rdNI (Eq.trans rdNL (z_N_23_0 e))) (io_in (p := 0) (N := 1) (by decide) (by decide)) (Eq.trans (congrArg (sL (sIw (sLw t 23 0 0 (0 : Int64)) 768 0 0) 23 0) (nn_io (p := 0) (by decide))) (Eq.trans rdLI sL_s)) ?_
  refine x_iload (pc' := 2491) rfl rfl rfl ?_
  refine x_i2l (pc' := 2492) (z := (0 : Int64)) rfl rfl (by decide) ?_
  refine x_lcmp (pc' := 2493) (z := 0) rfl rfl (sLcmp_s _) ?_
  refine x_if (a' := 2498) (pc' := 2496) (z := true) rfl rfl rfl (by decide) (fun _ => ?_) (fun h => by cases h)
  refine x_goto (pc' := 2938) rfl rfl ?_
  refine x_iinc (pc' := 2941) (y := 7) (ls' := [_, _, _, _, _, _, _]) rfl rfl rfl rfl rfl ?_
  refine x_goto (pc' := 23) rfl rfl ?_
  refine x_iload (pc' := 25) rfl rfl rfl ?_
  refine x_aload_n (pc' := 26) rfl rfl rfl rfl rfl ?_
  refine x_alen (pc' := 27) (N := 7) rfl rfl rfl (Eq.trans rdNI (Eq.trans rdNL (z_N_29_0 e))) (?_ : X _ _ _ (.inl 7 :: _) _ _)
  refine x_bipush (pc' := 29) rfl rfl ?_
  refine x_isub (pc' := 30) (z := 0) rfl rfl (by decide) ?_
  refine x_icmp (a' := 2944) (pc' := 33) (z := true) rfl rfl rfl (by decide) (fun _ => ?_) (fun h => by cases h)
  refine x_iconst (pc' := 2945) rfl rfl ?_
  refine x_retz (z := true) rfl rfl ?_
  exact Qp_ok e (p := 0) (q := 0) rfl rfl rfl rfl
set_option maxHeartbeats 4000000 in
set_option maxRecDepth 10000 in
theorem v_32_v_A {t : sT} {xs : Nat → Int32} {m : Nat}
    (e : t = T16 7 xs)
    (hk : ((xs 0) &&& 63) = 32)
    (hm : m < 6)
    (e0 : xs 1 = io m)
    (e1 : (xs 2) < 0) :
    X 297 23 [.inr (.inr (29, (some 0))), .inr (.inr (11, (some 0))), .inr (.inr (12, (some 0))), .inr (.inr (23, (some 0))), .inl 0, sJk, sJk] [] t Qp := by
  refine x_iload (pc' := 25) rfl rfl rfl ?_
  refine x_aload_n (pc' := 26) rfl rfl rfl rfl rfl ?_
  refine x_alen (pc' := 27) (N := 7) rfl rfl rfl (z_N_29_0 e) (?_ : X _ _ _ (.inl 7 :: _) _ _)
  refine x_bipush (pc' := 29) rfl rfl ?_
  refine x_isub (pc' := 30) (z := 0) rfl rfl (by decide) ?_
  refine x_icmp (a' := 2944) (pc' := 33) (z := false) rfl rfl rfl (by decide) (fun h => by cases h) (fun _ => ?_)
  refine x_aload_n (pc' := 34) rfl rfl rfl rfl rfl ?_
  refine x_iload (pc' := 36) rfl rfl rfl ?_
  refine x_iald (pc' := 37) (N := 7) (x := (xs 0)) rfl rfl rfl (z_N_29_0 e) (io_in (p := 0) (N := 7) (by decide) (by decide)) (Eq.trans (congrArg (sA t 29 0) (nn_io (p := 0) (by decide))) (z_A_29_0_0 e)) ?_
  refine x_bipush (pc' := 39) rfl rfl ?_
  refine x_iand (pc' := 40) (z := ((xs 0) &&& 63)) rfl rfl rfl ?_
  refine x_switch (pc' := 2433) rfl (by rw [hk]; decide) ?_
  refine x_aload_n (pc' := 2434) rfl rfl rfl rfl rfl ?_
  refine x_aload_n (pc' := 2435) rfl rfl rfl rfl rfl ?_
  refine x_iload (pc' := 2437) rfl rfl rfl ?_
  refine x_iconst (pc' := 2438) rfl rfl ?_
  refine x_iadd (pc' := 2439) (z := 1) rfl rfl (by decide) ?_
  refine x_iald (pc' := 2440) (N := 7) (x := (io m)) rfl rfl rfl (z_N_29_0 e) (io_in (p := 1) (N := 7) (by decide) (by decide)) (Eq.trans (congrArg (sA t 29 0) (nn_io (p := 1) (by decide))) (Eq.trans (z_A_29_0_1 e) e0)) ?_
  refine x_aload_n (pc' := 2441) rfl rfl rfl rfl rfl ?_
  refine x_iload (pc' := 2443) rfl rfl rfl ?_
  refine x_iconst (pc' := 2444) rfl rfl ?_
  refine x_iadd (pc' := 2445) (z := 2) rfl rfl (by decide) ?_
  refine x_iald (pc' := 2446) (N := 7) (x := (xs 2)) rfl rfl rfl (z_N_29_0 e) (io_in (p := 2) (N := 7) (by decide) (by decide)) (Eq.trans (congrArg (sA t 29 0) (nn_io (p := 2) (by decide))) (z_A_29_0_2 e)) ?_
  refine x_aload_n (pc' := 2447) rfl rfl rfl rfl rfl ?_
  refine x_cs (ls0 := [_, _, _, _, sJk]) (rest := []) rfl rfl rfl rfl ?_
  refine x_aload_n (pc' := 1) rfl rfl rfl rfl rfl ?_
  refine x_iconst (pc' := 2) rfl rfl ?_
  refine x_aload_n (pc' := 3) rfl rfl rfl rfl rfl ?_
  refine x_iload_n (pc' := 4) rfl rfl rfl ?_
  refine x_iload_n (pc' := 5) rfl rfl rfl ?_
  refine x_cv (ls0 := [_, _, _, sJk]) (rest := [_, _]) rfl rfl rfl rfl rfl ?_
  refine x_aload_n (pc' := 1) rfl rfl rfl rfl rfl ?_
  refine x_iload_n (pc' := 2) rfl rfl rfl ?_
  refine x_cv (ls0 := [_, _]) (rest := []) rfl rfl rfl rfl rfl ?_
  refine x_iload_n (pc' := 1) rfl rfl rfl ?_
  refine x_if (a' := 16) (pc' := 4) (z := decide (m < 0)) rfl rfl rfl (ic_lt (p := m) (q := 0) (Nat.lt_trans hm (by decide)) (by decide)) (fun h => absurd (of_decide_eq_true h) (by first | decide | omega | simp)) (fun _ => ?_)
  refine x_iload_n (pc' := 5) rfl rfl rfl ?_
  refine x_aload_n (pc' := 6) rfl rfl rfl rfl rfl ?_
  refine x_gR (pc' := 9) (r := (some 0)) rfl rfl rfl (z_R_704_0 e) ?_
  refine x_gR (pc' := 12) (r := (some 0)) rfl rfl rfl (z_R_321_0 e) ?_
  refine x_alen (pc' := 13) (N := 6) rfl rfl rfl (z_N_26_0 e) (?_ : X _ _ _ (.inl 6 :: _) _ _)
  refine x_icmp (a' := 27) (pc' := 16) (z := decide (m < 6)) rfl rfl rfl (ic_lt (p := m) (q := 6) (Nat.lt_trans hm (by decide)) (by decide)) (fun _ => ?_) (fun h => absurd (Nat.lt_of_lt_of_le hm (by decide)) (of_decide_eq_false h))
  refine x_aload_n (pc' := 28) rfl rfl rfl rfl rfl ?_
  refine x_gR (pc' := 31) (r := (some 0)) rfl rfl rfl (z_R_704_0 e) ?_
  refine x_gR (pc' := 34) (r := (some 0)) rfl rfl rfl (z_R_321_0 e) ?_
  refine x_iload_n (pc' := 35) rfl rfl rfl ?_
  refine x_aald (pc' := 36) (N := 6) (k' := 7) (r := (some m)) rfl rfl rfl (z_N_26_0 e) (io_in (p := m) (N := 6) hm (by decide)) (Eq.trans (congrArg (sE t 26 0) (nn_io (p := m) (Nat.lt_trans hm (by decide)))) (kM (Cn_e e) hm)) ?_
  refine x_reta rfl rfl ?_
  refine sK_i (pc' := 5) rfl ?_
  refine x_astore_n (pc' := 6) (ls' := [_, _, _, _]) rfl rfl rfl rfl rfl ?_
  refine x_aload_n (pc' := 7) rfl rfl rfl rfl rfl ?_
  refine x_aload_n (pc' := 8) rfl rfl rfl rfl rfl ?_
  refine x_iload_n (pc' := 9) rfl rfl rfl ?_
  refine x_cv (ls0 := [_, _]) (rest := [_]) rfl rfl rfl rfl rfl ?_
  refine x_iload_n (pc' := 1) rfl rfl rfl ?_
  refine x_if (a' := 16) (pc' := 4) (z := decide ((xs 2) < 0)) rfl rfl rfl rfl (fun _ => ?_) (fun h => absurd e1 (of_decide_eq_false h))
  refine x_throw rfl rfl ?_
  refine sK_n (by decide +kernel) rfl ?_
  refine sK_h (h := 13) (by decide +kernel) rfl ?_
  refine x_catch (pc' := 15) (ls' := [_, _, _, _, _]) rfl rfl rfl rfl ?_
  refine x_iconst (pc' := 16) rfl rfl ?_
  refine x_reti rfl rfl ?_
  refine sK_i (pc' := 2450) rfl ?_
  refine x_istore (pc' := 2452) (ls' := [_, _, _, _, _, _, _]) rfl rfl rfl rfl ?_
  refine x_aload_n (pc' := 2453) rfl rfl rfl rfl rfl ?_
  refine x_aload_n (pc' := 2454) rfl rfl rfl rfl rfl ?_
  refine x_iload (pc' := 2456) rfl rfl rfl ?_
  refine x_iconst (pc' := 2457) rfl rfl ?_
  refine x_iadd (pc' := 2458) (z := 1) rfl rfl (by decide) ?_
  refine x_iald (pc' := 2459) (N := 7) (x := (io m)) rfl rfl rfl (Eq.trans rdNthr (z_N_29_0 e)) (io_in (p := 1) (N := 7) (by decide) (by decide)) (Eq.trans (congrArg (sA (sThr t) 29 0) (nn_io (p := 1) (by decide))) (Eq.trans rdAthr (Eq.trans (z_A_29_0_1 e) e0))) ?_
  refine x_aload_n (pc' := 2460) rfl rfl rfl rfl rfl ?_
  refine x_iload (pc' := 2462) rfl rfl rfl ?_
  refine x_iconst (pc' := 2463) rfl rfl ?_
  refine x_iadd (pc' := 2464) (z := 2) rfl rfl (by decide) ?_
  refine x_iald (pc' := 2465) (N := 7) (x := (xs 2)) rfl rfl rfl (Eq.trans rdNthr (z_N_29_0 e)) (io_in (p := 2) (N := 7) (by decide) (by decide)) (Eq.trans (congrArg (sA (sThr t) 29 0) (nn_io (p := 2) (by decide))) (Eq.trans rdAthr (z_A_29_0_2 e))) ?_
  refine x_cv (ls0 := [_, _, _]) (rest := []) rfl rfl rfl rfl rfl ?_
  refine x_aload_n (pc' := 1) rfl rfl rfl rfl rfl ?_
  refine x_iload_n (pc' := 2) rfl rfl rfl ?_
  refine x_cs (ls0 := [_]) (rest := [_]) rfl rfl rfl rfl ?_
  refine x_iload_n (pc' := 1) rfl rfl rfl ?_
  refine x_iconst (pc' := 2) rfl rfl ?_
  refine x_iconst (pc' := 3) rfl rfl ?_
  refine x_cs (ls0 := [_, _, _]) (rest := []) rfl rfl rfl rfl ?_
  refine x_iload_n (pc' := 1) rfl rfl rfl ?_
  refine x_iload_n (pc' := 2) rfl rfl rfl ?_
  refine x_icmp (a' := 14) (pc' := 5) (z := decide (m < 0)) rfl rfl rfl (ic_lt (p := m) (q := 0) (Nat.lt_trans hm (by decide)) (by decide)) (fun h => absurd (of_decide_eq_true h) (by first | decide | omega | simp)) (fun _ => ?_)
  refine x_iload_n (pc' := 6) rfl rfl rfl ?_
  refine x_iload_n (pc' := 7) rfl rfl rfl ?_
  refine x_icmp (a' := 14) (pc' := 10) (z := decide (5 < m)) rfl rfl rfl (ic_gt (p := m) (q := 5) (Nat.lt_trans hm (by decide)) (by decide)) (fun h => absurd (of_decide_eq_true h) (fun z => absurd hm (Nat.not_lt.mpr z))) (fun _ => ?_)
  refine x_iconst (pc' := 11) rfl rfl ?_
  refine x_goto (pc' := 15) rfl rfl ?_
  refine x_retz (z := true) rfl rfl ?_
  refine sK_i (pc' := 6) rfl ?_
  refine x_retz (z := true) rfl rfl ?_
  refine sK_i (pc' := 5) rfl ?_
  refine x_if (a' := 19) (pc' := 8) (z := false) rfl rfl rfl (by decide) (fun h => by cases h) (fun _ => ?_)
  refine x_iload_n (pc' := 9) rfl rfl rfl ?_
  refine x_cs (ls0 := [_]) (rest := [_]) rfl rfl rfl rfl ?_
  refine x_iload_n (pc' := 1) rfl rfl rfl ?_
  refine x_iconst (pc' := 2) rfl rfl ?_
  refine x_iconst (pc' := 3) rfl rfl ?_
  refine x_cs (ls0 := [_, _, _]) (rest := []) rfl rfl rfl rfl ?_
  refine x_iload_n (pc' := 1) rfl rfl rfl ?_
  refine x_iload_n (pc' := 2) rfl rfl rfl ?_
  refine x_icmp (a' := 14) (pc' := 5) (z := decide ((xs 2) < 0)) rfl rfl rfl rfl (fun _ => ?_) (fun h => absurd e1 (of_decide_eq_false h))
  refine x_iconst (pc' := 15) rfl rfl ?_
  refine x_retz (z := false) rfl rfl ?_
  refine sK_i (pc' := 6) rfl ?_
  refine x_retz (z := false) rfl rfl ?_
  refine sK_i (pc' := 12) rfl ?_
  refine x_if (a' := 19) (pc' := 15) (z := true) rfl rfl rfl (by decide) (fun _ => ?_) (fun h => by cases h)
  refine x_iconst (pc' := 20) rfl rfl ?_
  refine x_cv (ls0 := [_, _]) (rest := []) rfl rfl rfl rfl rfl ?_
  refine x_aload_n (pc' := 1) rfl rfl rfl rfl rfl ?_
  refine x_iload_n (pc' := 2) rfl rfl rfl ?_
  refine x_pI (pc' := 5) rfl rfl rfl ?_
  refine x_iload_n (pc' := 6) rfl rfl rfl ?_
  refine x_if (a' := 13) (pc' := 9) (z := true) rfl rfl rfl (by decide) (fun _ => ?_) (fun h => by cases h)
  refine x_iconst (pc' := 14) rfl rfl ?_
  refine x_retz (z := false) rfl rfl ?_
  refine sK_i (pc' := 23) rfl ?_
  refine x_if (a' := 39) (pc' := 26) (z := true) rfl rfl rfl (by decide) (fun _ => ?_) (fun h => by cases h)
  refine x_iconst (pc' := 40) rfl rfl ?_
  refine x_reti rfl rfl ?_
  refine sK_i (pc' := 2468) rfl ?_
  refine x_istore (pc' := 2470) (ls' := [_, _, _, _, _, _, _]) rfl rfl rfl rfl ?_
  refine x_aload_n (pc' := 2471) rfl rfl rfl rfl rfl ?_
  refine x_cv (ls0 := [_]) (rest := []) rfl rfl rfl rfl rfl ?_
  refine x_aload_n (pc' := 1) rfl rfl rfl rfl rfl ?_
  refine x_gI (pc' := 4) (x := 1) rfl rfl rfl sI_s ?_
  refine x_reti rfl rfl ?_
  refine sK_i (pc' := 2474) rfl ?_
  refine x_iload (pc' := 2476) rfl rfl rfl ?_
  refine x_icmp (a' := 2481) (pc' := 2479) (z := true) rfl rfl rfl (by decide) (fun _ => ?_) (fun h => by cases h)
  refine x_iload (pc' := 2483) rfl rfl rfl ?_
  refine x_if (a' := 2498) (pc' := 2486) (z := true) rfl rfl rfl (by decide) (fun _ => ?_) (fun h => by cases h)
  refine x_goto (pc' := 2938) rfl rfl ?_
  refine x_iinc (pc' := 2941) (y := 7) (ls' := [_, _, _, _, _, _, _]) rfl rfl rfl rfl rfl ?_
  refine x_goto (pc' := 23) rfl rfl ?_
  refine x_iload (pc' := 25) rfl rfl rfl ?_
  refine x_aload_n (pc' := 26) rfl rfl rfl rfl rfl ?_
  refine x_alen (pc' := 27) (N := 7) rfl rfl rfl (Eq.trans rdNI (Eq.trans rdNthr (z_N_29_0 e))) (?_ : X _ _ _ (.inl 7 :: _) _ _)
  refine x_bipush (pc' := 29) rfl rfl ?_
  refine x_isub (pc' := 30) (z := 0) rfl rfl (by decide) ?_
  refine x_icmp (a' := 2944) (pc' := 33) (z := true) rfl rfl rfl (by decide) (fun _ => ?_) (fun h => by cases h)
  refine x_iconst (pc' := 2945) rfl rfl ?_
  refine x_retz (z := true) rfl rfl ?_
  exact Qp_ok e (p := 1) (q := 6) rfl rfl rfl rfl
set_option maxHeartbeats 4000000 in
set_option maxRecDepth 10000 in
theorem v_32_v_B {t : sT} {xs : Nat → Int32} {m : Nat}
    (e : t = T16 7 xs)
    (hk : ((xs 0) &&& 63) = 32)
    (hm : m < 6)
    (e0 : xs 1 = io m)
    (e1 : ¬ (xs 2) < 0)
    (f1 : ¬ (xs 2) < 3) :
    X 297 23 [.inr (.inr (29, (some 0))), .inr (.inr (11, (some 0))), .inr (.inr (12, (some 0))), .inr (.inr (23, (some 0))), .inl 0, sJk, sJk] [] t Qp := by
  refine x_iload (pc' := 25) rfl rfl rfl ?_
  refine x_aload_n (pc' := 26) rfl rfl rfl rfl rfl ?_
  refine x_alen (pc' := 27) (N := 7) rfl rfl rfl (z_N_29_0 e) (?_ : X _ _ _ (.inl 7 :: _) _ _)
  refine x_bipush (pc' := 29) rfl rfl ?_
  refine x_isub (pc' := 30) (z := 0) rfl rfl (by decide) ?_
  refine x_icmp (a' := 2944) (pc' := 33) (z := false) rfl rfl rfl (by decide) (fun h => by cases h) (fun _ => ?_)
  refine x_aload_n (pc' := 34) rfl rfl rfl rfl rfl ?_
  refine x_iload (pc' := 36) rfl rfl rfl ?_
  refine x_iald (pc' := 37) (N := 7) (x := (xs 0)) rfl rfl rfl (z_N_29_0 e) (io_in (p := 0) (N := 7) (by decide) (by decide)) (Eq.trans (congrArg (sA t 29 0) (nn_io (p := 0) (by decide))) (z_A_29_0_0 e)) ?_
  refine x_bipush (pc' := 39) rfl rfl ?_
  refine x_iand (pc' := 40) (z := ((xs 0) &&& 63)) rfl rfl rfl ?_
  refine x_switch (pc' := 2433) rfl (by rw [hk]; decide) ?_
  refine x_aload_n (pc' := 2434) rfl rfl rfl rfl rfl ?_
  refine x_aload_n (pc' := 2435) rfl rfl rfl rfl rfl ?_
  refine x_iload (pc' := 2437) rfl rfl rfl ?_
  refine x_iconst (pc' := 2438) rfl rfl ?_
  refine x_iadd (pc' := 2439) (z := 1) rfl rfl (by decide) ?_
  refine x_iald (pc' := 2440) (N := 7) (x := (io m)) rfl rfl rfl (z_N_29_0 e) (io_in (p := 1) (N := 7) (by decide) (by decide)) (Eq.trans (congrArg (sA t 29 0) (nn_io (p := 1) (by decide))) (Eq.trans (z_A_29_0_1 e) e0)) ?_
  refine x_aload_n (pc' := 2441) rfl rfl rfl rfl rfl ?_
  refine x_iload (pc' := 2443) rfl rfl rfl ?_
  refine x_iconst (pc' := 2444) rfl rfl ?_
  refine x_iadd (pc' := 2445) (z := 2) rfl rfl (by decide) ?_
  refine x_iald (pc' := 2446) (N := 7) (x := (xs 2)) rfl rfl rfl (z_N_29_0 e) (io_in (p := 2) (N := 7) (by decide) (by decide)) (Eq.trans (congrArg (sA t 29 0) (nn_io (p := 2) (by decide))) (z_A_29_0_2 e)) ?_
  refine x_aload_n (pc' := 2447) rfl rfl rfl rfl rfl ?_
  refine x_cs (ls0 := [_, _, _, _, sJk]) (rest := []) rfl rfl rfl rfl ?_
  refine x_aload_n (pc' := 1) rfl rfl rfl rfl rfl ?_
  refine x_iconst (pc' := 2) rfl rfl ?_
  refine x_aload_n (pc' := 3) rfl rfl rfl rfl rfl ?_
  refine x_iload_n (pc' := 4) rfl rfl rfl ?_
  refine x_iload_n (pc' := 5) rfl rfl rfl ?_
  refine x_cv (ls0 := [_, _, _, sJk]) (rest := [_, _]) rfl rfl rfl rfl rfl ?_
  refine x_aload_n (pc' := 1) rfl rfl rfl rfl rfl ?_
  refine x_iload_n (pc' := 2) rfl rfl rfl ?_
  refine x_cv (ls0 := [_, _]) (rest := []) rfl rfl rfl rfl rfl ?_
  refine x_iload_n (pc' := 1) rfl rfl rfl ?_
  refine x_if (a' := 16) (pc' := 4) (z := decide (m < 0)) rfl rfl rfl (ic_lt (p := m) (q := 0) (Nat.lt_trans hm (by decide)) (by decide)) (fun h => absurd (of_decide_eq_true h) (by first | decide | omega | simp)) (fun _ => ?_)
  refine x_iload_n (pc' := 5) rfl rfl rfl ?_
  refine x_aload_n (pc' := 6) rfl rfl rfl rfl rfl ?_
  refine x_gR (pc' := 9) (r := (some 0)) rfl rfl rfl (z_R_704_0 e) ?_
  refine x_gR (pc' := 12) (r := (some 0)) rfl rfl rfl (z_R_321_0 e) ?_
  refine x_alen (pc' := 13) (N := 6) rfl rfl rfl (z_N_26_0 e) (?_ : X _ _ _ (.inl 6 :: _) _ _)
  refine x_icmp (a' := 27) (pc' := 16) (z := decide (m < 6)) rfl rfl rfl (ic_lt (p := m) (q := 6) (Nat.lt_trans hm (by decide)) (by decide)) (fun _ => ?_) (fun h => absurd (Nat.lt_of_lt_of_le hm (by decide)) (of_decide_eq_false h))
  refine x_aload_n (pc' := 28) rfl rfl rfl rfl rfl ?_
  refine x_gR (pc' := 31) (r := (some 0)) rfl rfl rfl (z_R_704_0 e) ?_
  refine x_gR (pc' := 34) (r := (some 0)) rfl rfl rfl (z_R_321_0 e) ?_
  refine x_iload_n (pc' := 35) rfl rfl rfl ?_
  refine x_aald (pc' := 36) (N := 6) (k' := 7) (r := (some m)) rfl rfl rfl (z_N_26_0 e) (io_in (p := m) (N := 6) hm (by decide)) (Eq.trans (congrArg (sE t 26 0) (nn_io (p := m) (Nat.lt_trans hm (by decide)))) (kM (Cn_e e) hm)) ?_
  refine x_reta rfl rfl ?_
  refine sK_i (pc' := 5) rfl ?_
  refine x_astore_n (pc' := 6) (ls' := [_, _, _, _]) rfl rfl rfl rfl rfl ?_
  refine x_aload_n (pc' := 7) rfl rfl rfl rfl rfl ?_
  refine x_aload_n (pc' := 8) rfl rfl rfl rfl rfl ?_
  refine x_iload_n (pc' := 9) rfl rfl rfl ?_
  refine x_cv (ls0 := [_, _]) (rest := [_]) rfl rfl rfl rfl rfl ?_
  refine x_iload_n (pc' := 1) rfl rfl rfl ?_
  refine x_if (a' := 16) (pc' := 4) (z := decide ((xs 2) < 0)) rfl rfl rfl rfl (fun h => absurd (of_decide_eq_true h) e1) (fun _ => ?_)
  refine x_iload_n (pc' := 5) rfl rfl rfl ?_
  refine x_aload_n (pc' := 6) rfl rfl rfl rfl rfl ?_
  refine x_gR (pc' := 9) (r := (some 0)) rfl rfl rfl (z_R_704_0 e) ?_
  refine x_gR (pc' := 12) (r := (some 0)) rfl rfl rfl (z_R_320_0 e) ?_
  refine x_alen (pc' := 13) (N := 3) rfl rfl rfl (z_N_25_0 e) (?_ : X _ _ _ (.inl 3 :: _) _ _)
  refine x_icmp (a' := 27) (pc' := 16) (z := decide ((xs 2) < 3)) rfl rfl rfl rfl (fun h => absurd (of_decide_eq_true h) f1) (fun _ => ?_)
  refine x_throw rfl rfl ?_
  refine sK_n (by decide +kernel) rfl ?_
  refine sK_h (h := 13) (by decide +kernel) rfl ?_
  refine x_catch (pc' := 15) (ls' := [_, _, _, _, _]) rfl rfl rfl rfl ?_
  refine x_iconst (pc' := 16) rfl rfl ?_
  refine x_reti rfl rfl ?_
  refine sK_i (pc' := 2450) rfl ?_
  refine x_istore (pc' := 2452) (ls' := [_, _, _, _, _, _, _]) rfl rfl rfl rfl ?_
  refine x_aload_n (pc' := 2453) rfl rfl rfl rfl rfl ?_
  refine x_aload_n (pc' := 2454) rfl rfl rfl rfl rfl ?_
  refine x_iload (pc' := 2456) rfl rfl rfl ?_
  refine x_iconst (pc' := 2457) rfl rfl ?_
  refine x_iadd (pc' := 2458) (z := 1) rfl rfl (by decide) ?_
  refine x_iald (pc' := 2459) (N := 7) (x := (io m)) rfl rfl rfl (Eq.trans rdNthr (z_N_29_0 e)) (io_in (p := 1) (N := 7) (by decide) (by decide)) (Eq.trans (congrArg (sA (sThr t) 29 0) (nn_io (p := 1) (by decide))) (Eq.trans rdAthr (Eq.trans (z_A_29_0_1 e) e0))) ?_
  refine x_aload_n (pc' := 2460) rfl rfl rfl rfl rfl ?_
  refine x_iload (pc' := 2462) rfl rfl rfl ?_
  refine x_iconst (pc' := 2463) rfl rfl ?_
  refine x_iadd (pc' := 2464) (z := 2) rfl rfl (by decide) ?_
  refine x_iald (pc' := 2465) (N := 7) (x := (xs 2)) rfl rfl rfl (Eq.trans rdNthr (z_N_29_0 e)) (io_in (p := 2) (N := 7) (by decide) (by decide)) (Eq.trans (congrArg (sA (sThr t) 29 0) (nn_io (p := 2) (by decide))) (Eq.trans rdAthr (z_A_29_0_2 e))) ?_
  refine x_cv (ls0 := [_, _, _]) (rest := []) rfl rfl rfl rfl rfl ?_
  refine x_aload_n (pc' := 1) rfl rfl rfl rfl rfl ?_
  refine x_iload_n (pc' := 2) rfl rfl rfl ?_
  refine x_cs (ls0 := [_]) (rest := [_]) rfl rfl rfl rfl ?_
  refine x_iload_n (pc' := 1) rfl rfl rfl ?_
  refine x_iconst (pc' := 2) rfl rfl ?_
  refine x_iconst (pc' := 3) rfl rfl ?_
  refine x_cs (ls0 := [_, _, _]) (rest := []) rfl rfl rfl rfl ?_
  refine x_iload_n (pc' := 1) rfl rfl rfl ?_
  refine x_iload_n (pc' := 2) rfl rfl rfl ?_
  refine x_icmp (a' := 14) (pc' := 5) (z := decide (m < 0)) rfl rfl rfl (ic_lt (p := m) (q := 0) (Nat.lt_trans hm (by decide)) (by decide)) (fun h => absurd (of_decide_eq_true h) (by first | decide | omega | simp)) (fun _ => ?_)
  refine x_iload_n (pc' := 6) rfl rfl rfl ?_
  refine x_iload_n (pc' := 7) rfl rfl rfl ?_
  refine x_icmp (a' := 14) (pc' := 10) (z := decide (5 < m)) rfl rfl rfl (ic_gt (p := m) (q := 5) (Nat.lt_trans hm (by decide)) (by decide)) (fun h => absurd (of_decide_eq_true h) (fun z => absurd hm (Nat.not_lt.mpr z))) (fun _ => ?_)
  refine x_iconst (pc' := 11) rfl rfl ?_
  refine x_goto (pc' := 15) rfl rfl ?_
  refine x_retz (z := true) rfl rfl ?_
  refine sK_i (pc' := 6) rfl ?_
  refine x_retz (z := true) rfl rfl ?_
  refine sK_i (pc' := 5) rfl ?_
  refine x_if (a' := 19) (pc' := 8) (z := false) rfl rfl rfl (by decide) (fun h => by cases h) (fun _ => ?_)
  refine x_iload_n (pc' := 9) rfl rfl rfl ?_
  refine x_cs (ls0 := [_]) (rest := [_]) rfl rfl rfl rfl ?_
  refine x_iload_n (pc' := 1) rfl rfl rfl ?_
  refine x_iconst (pc' := 2) rfl rfl ?_
  refine x_iconst (pc' := 3) rfl rfl ?_
  refine x_cs (ls0 := [_, _, _]) (rest := []) rfl rfl rfl rfl ?_
  refine x_iload_n (pc' := 1) rfl rfl rfl ?_
  refine x_iload_n (pc' := 2) rfl rfl rfl ?_
  refine x_icmp (a' := 14) (pc' := 5) (z := decide ((xs 2) < 0)) rfl rfl rfl rfl (fun h => absurd (of_decide_eq_true h) e1) (fun _ => ?_)
  refine x_iload_n (pc' := 6) rfl rfl rfl ?_
  refine x_iload_n (pc' := 7) rfl rfl rfl ?_
  refine x_icmp (a' := 14) (pc' := 10) (z := decide (2 < (xs 2))) rfl rfl rfl rfl (fun _ => ?_) (fun h => absurd (lt_of3 f1) (of_decide_eq_false h))
  refine x_iconst (pc' := 15) rfl rfl ?_
  refine x_retz (z := false) rfl rfl ?_
  refine sK_i (pc' := 6) rfl ?_
  refine x_retz (z := false) rfl rfl ?_
  refine sK_i (pc' := 12) rfl ?_
  refine x_if (a' := 19) (pc' := 15) (z := true) rfl rfl rfl (by decide) (fun _ => ?_) (fun h => by cases h)
  refine x_iconst (pc' := 20) rfl rfl ?_
  refine x_cv (ls0 := [_, _]) (rest := []) rfl rfl rfl rfl rfl ?_
  refine x_aload_n (pc' := 1) rfl rfl rfl rfl rfl ?_
  refine x_iload_n (pc' := 2) rfl rfl rfl ?_
  refine x_pI (pc' := 5) rfl rfl rfl ?_
  refine x_iload_n (pc' := 6) rfl rfl rfl ?_
  refine x_if (a' := 13) (pc' := 9) (z := true) rfl rfl rfl (by decide) (fun _ => ?_) (fun h => by cases h)
  refine x_iconst (pc' := 14) rfl rfl ?_
  refine x_retz (z := false) rfl rfl ?_
  refine sK_i (pc' := 23) rfl ?_
  refine x_if (a' := 39) (pc' := 26) (z := true) rfl rfl rfl (by decide) (fun _ => ?_) (fun h => by cases h)
  refine x_iconst (pc' := 40) rfl rfl ?_
  refine x_reti rfl rfl ?_
  refine sK_i (pc' := 2468) rfl ?_
  refine x_istore (pc' := 2470) (ls' := [_, _, _, _, _, _, _]) rfl rfl rfl rfl ?_
  refine x_aload_n (pc' := 2471) rfl rfl rfl rfl rfl ?_
  refine x_cv (ls0 := [_]) (rest := []) rfl rfl rfl rfl rfl ?_
  refine x_aload_n (pc' := 1) rfl rfl rfl rfl rfl ?_
  refine x_gI (pc' := 4) (x := 1) rfl rfl rfl sI_s ?_
  refine x_reti rfl rfl ?_
  refine sK_i (pc' := 2474) rfl ?_
  refine x_iload (pc' := 2476) rfl rfl rfl ?_
  refine x_icmp (a' := 2481) (pc' := 2479) (z := true) rfl rfl rfl (by decide) (fun _ => ?_) (fun h => by cases h)
  refine x_iload (pc' := 2483) rfl rfl rfl ?_
  refine x_if (a' := 2498) (pc' := 2486) (z := true) rfl rfl rfl (by decide) (fun _ => ?_) (fun h => by cases h)
  refine x_goto (pc' := 2938) rfl rfl ?_
  refine x_iinc (pc' := 2941) (y := 7) (ls' := [_, _, _, _, _, _, _]) rfl rfl rfl rfl rfl ?_
  refine x_goto (pc' := 23) rfl rfl ?_
  refine x_iload (pc' := 25) rfl rfl rfl ?_
  refine x_aload_n (pc' := 26) rfl rfl rfl rfl rfl ?_
  refine x_alen (pc' := 27) (N := 7) rfl rfl rfl (Eq.trans rdNI (Eq.trans rdNthr (z_N_29_0 e))) (?_ : X _ _ _ (.inl 7 :: _) _ _)
  refine x_bipush (pc' := 29) rfl rfl ?_
  refine x_isub (pc' := 30) (z := 0) rfl rfl (by decide) ?_
  refine x_icmp (a' := 2944) (pc' := 33) (z := true) rfl rfl rfl (by decide) (fun _ => ?_) (fun h => by cases h)
  refine x_iconst (pc' := 2945) rfl rfl ?_
  refine x_retz (z := true) rfl rfl ?_
  exact Qp_ok e (p := 1) (q := 6) rfl rfl rfl rfl
set_option maxHeartbeats 4000000 in
set_option maxRecDepth 10000 in
theorem v_32_A_0 {t : sT} {xs : Nat → Int32}
    (e : t = T16 7 xs)
    (hk : ((xs 0) &&& 63) = 32)
    (e0 : (xs 1) < 0)
    (e1 : xs 2 = 0) :
    X 297 23 [.inr (.inr (29, (some 0))), .inr (.inr (11, (some 0))), .inr (.inr (12, (some 0))), .inr (.inr (23, (some 0))), .inl 0, sJk, sJk] [] t Qp := by
  refine x_iload (pc' := 25) rfl rfl rfl ?_
  refine x_aload_n (pc' := 26) rfl rfl rfl rfl rfl ?_
  refine x_alen (pc' := 27) (N := 7) rfl rfl rfl (z_N_29_0 e) (?_ : X _ _ _ (.inl 7 :: _) _ _)
  refine x_bipush (pc' := 29) rfl rfl ?_
  refine x_isub (pc' := 30) (z := 0) rfl rfl (by decide) ?_
  refine x_icmp (a' := 2944) (pc' := 33) (z := false) rfl rfl rfl (by decide) (fun h => by cases h) (fun _ => ?_)
  refine x_aload_n (pc' := 34) rfl rfl rfl rfl rfl ?_
  refine x_iload (pc' := 36) rfl rfl rfl ?_
  refine x_iald (pc' := 37) (N := 7) (x := (xs 0)) rfl rfl rfl (z_N_29_0 e) (io_in (p := 0) (N := 7) (by decide) (by decide)) (Eq.trans (congrArg (sA t 29 0) (nn_io (p := 0) (by decide))) (z_A_29_0_0 e)) ?_
  refine x_bipush (pc' := 39) rfl rfl ?_
  refine x_iand (pc' := 40) (z := ((xs 0) &&& 63)) rfl rfl rfl ?_
  refine x_switch (pc' := 2433) rfl (by rw [hk]; decide) ?_
  refine x_aload_n (pc' := 2434) rfl rfl rfl rfl rfl ?_
  refine x_aload_n (pc' := 2435) rfl rfl rfl rfl rfl ?_
  refine x_iload (pc' := 2437) rfl rfl rfl ?_
  refine x_iconst (pc' := 2438) rfl rfl ?_
  refine x_iadd (pc' := 2439) (z := 1) rfl rfl (by decide) ?_
  refine x_iald (pc' := 2440) (N := 7) (x := (xs 1)) rfl rfl rfl (z_N_29_0 e) (io_in (p := 1) (N := 7) (by decide) (by decide)) (Eq.trans (congrArg (sA t 29 0) (nn_io (p := 1) (by decide))) (z_A_29_0_1 e)) ?_
  refine x_aload_n (pc' := 2441) rfl rfl rfl rfl rfl ?_
  refine x_iload (pc' := 2443) rfl rfl rfl ?_
  refine x_iconst (pc' := 2444) rfl rfl ?_
  refine x_iadd (pc' := 2445) (z := 2) rfl rfl (by decide) ?_
  refine x_iald (pc' := 2446) (N := 7) (x := 0) rfl rfl rfl (z_N_29_0 e) (io_in (p := 2) (N := 7) (by decide) (by decide)) (Eq.trans (congrArg (sA t 29 0) (nn_io (p := 2) (by decide))) (Eq.trans (z_A_29_0_2 e) e1)) ?_
  refine x_aload_n (pc' := 2447) rfl rfl rfl rfl rfl ?_
  refine x_cs (ls0 := [_, _, _, _, sJk]) (rest := []) rfl rfl rfl rfl ?_
  refine x_aload_n (pc' := 1) rfl rfl rfl rfl rfl ?_
  refine x_iconst (pc' := 2) rfl rfl ?_
  refine x_aload_n (pc' := 3) rfl rfl rfl rfl rfl ?_
  refine x_iload_n (pc' := 4) rfl rfl rfl ?_
  refine x_iload_n (pc' := 5) rfl rfl rfl ?_
  refine x_cv (ls0 := [_, _, _, sJk]) (rest := [_, _]) rfl rfl rfl rfl rfl ?_
  refine x_aload_n (pc' := 1) rfl rfl rfl rfl rfl ?_
  refine x_iload_n (pc' := 2) rfl rfl rfl ?_
  refine x_cv (ls0 := [_, _]) (rest := []) rfl rfl rfl rfl rfl ?_
  refine x_iload_n (pc' := 1) rfl rfl rfl ?_
  refine x_if (a' := 16) (pc' := 4) (z := decide ((xs 1) < 0)) rfl rfl rfl rfl (fun _ => ?_) (fun h => absurd e0 (of_decide_eq_false h))
  refine x_throw rfl rfl ?_
  refine sK_n (by decide +kernel) rfl ?_
  refine sK_h (h := 13) (by decide +kernel) rfl ?_
  refine x_catch (pc' := 15) (ls' := [_, _, _, _, _]) rfl rfl rfl rfl ?_
  refine x_iconst (pc' := 16) rfl rfl ?_
  refine x_reti rfl rfl ?_
  refine sK_i (pc' := 2450) rfl ?_
  refine x_istore (pc' := 2452) (ls' := [_, _, _, _, _, _, _]) rfl rfl rfl rfl ?_
  refine x_aload_n (pc' := 2453) rfl rfl rfl rfl rfl ?_
  refine x_aload_n (pc' := 2454) rfl rfl rfl rfl rfl ?_
  refine x_iload (pc' := 2456) rfl rfl rfl ?_
  refine x_iconst (pc' := 2457) rfl rfl ?_
  refine x_iadd (pc' := 2458) (z := 1) rfl rfl (by decide) ?_
  refine x_iald (pc' := 2459) (N := 7) (x := (xs 1)) rfl rfl rfl (Eq.trans rdNthr (z_N_29_0 e)) (io_in (p := 1) (N := 7) (by decide) (by decide)) (Eq.trans (congrArg (sA (sThr t) 29 0) (nn_io (p := 1) (by decide))) (Eq.trans rdAthr (z_A_29_0_1 e))) ?_
  refine x_aload_n (pc' := 2460) rfl rfl rfl rfl rfl ?_
  refine x_iload (pc' := 2462) rfl rfl rfl ?_
  refine x_iconst (pc' := 2463) rfl rfl ?_
  refine x_iadd (pc' := 2464) (z := 2) rfl rfl (by decide) ?_
  refine x_iald (pc' := 2465) (N := 7) (x := 0) rfl rfl rfl (Eq.trans rdNthr (z_N_29_0 e)) (io_in (p := 2) (N := 7) (by decide) (by decide)) (Eq.trans (congrArg (sA (sThr t) 29 0) (nn_io (p := 2) (by decide))) (Eq.trans rdAthr (Eq.trans (z_A_29_0_2 e) e1))) ?_
  refine x_cv (ls0 := [_, _, _]) (rest := []) rfl rfl rfl rfl rfl ?_
  refine x_aload_n (pc' := 1) rfl rfl rfl rfl rfl ?_
  refine x_iload_n (pc' := 2) rfl rfl rfl ?_
  refine x_cs (ls0 := [_]) (rest := [_]) rfl rfl rfl rfl ?_
  refine x_iload_n (pc' := 1) rfl rfl rfl ?_
  refine x_iconst (pc' := 2) rfl rfl ?_
  refine x_iconst (pc' := 3) rfl rfl ?_
  refine x_cs (ls0 := [_, _, _]) (rest := []) rfl rfl rfl rfl ?_
  refine x_iload_n (pc' := 1) rfl rfl rfl ?_
  refine x_iload_n (pc' := 2) rfl rfl rfl ?_
  refine x_icmp (a' := 14) (pc' := 5) (z := decide ((xs 1) < 0)) rfl rfl rfl rfl (fun _ => ?_) (fun h => absurd e0 (of_decide_eq_false h))
  refine x_iconst (pc' := 15) rfl rfl ?_
  refine x_retz (z := false) rfl rfl ?_
  refine sK_i (pc' := 6) rfl ?_
  refine x_retz (z := false) rfl rfl ?_
  refine sK_i (pc' := 5) rfl ?_
  refine x_if (a' := 19) (pc' := 8) (z := true) rfl rfl rfl (by decide) (fun _ => ?_) (fun h => by cases h)
  refine x_iconst (pc' := 20) rfl rfl ?_
  refine x_cv (ls0 := [_, _]) (rest := []) rfl rfl rfl rfl rfl ?_
  refine x_aload_n (pc' := 1) rfl rfl rfl rfl rfl ?_
  refine x_iload_n (pc' := 2) rfl rfl rfl ?_
  refine x_pI (pc' := 5) rfl rfl rfl ?_
  refine x_iload_n (pc' := 6) rfl rfl rfl ?_
  refine x_if (a' := 13) (pc' := 9) (z := true) rfl rfl rfl (by decide) (fun _ => ?_) (fun h => by cases h)
  refine x_iconst (pc' := 14) rfl rfl ?_
  refine x_retz (z := false) rfl rfl ?_
  refine sK_i (pc' := 23) rfl ?_
  refine x_if (a' := 39) (pc' := 26) (z := true) rfl rfl rfl (by decide) (fun _ => ?_) (fun h => by cases h)
  refine x_iconst (pc' := 40) rfl rfl ?_
  refine x_reti rfl rfl ?_
  refine sK_i (pc' := 2468) rfl ?_
  refine x_istore (pc' := 2470) (ls' := [_, _, _, _, _, _, _]) rfl rfl rfl rfl ?_
  refine x_aload_n (pc' := 2471) rfl rfl rfl rfl rfl ?_
  refine x_cv (ls0 := [_]) (rest := []) rfl rfl rfl rfl rfl ?_
  refine x_aload_n (pc' := 1) rfl rfl rfl rfl rfl ?_
  refine x_gI (pc' := 4) (x := 1) rfl rfl rfl sI_s ?_
  refine x_reti rfl rfl ?_
  refine sK_i (pc' := 2474) rfl ?_
  refine x_iload (pc' := 2476) rfl rfl rfl ?_
  refine x_icmp (a' := 2481) (pc' := 2479) (z := true) rfl rfl rfl (by decide) (fun _ => ?_) (fun h => by cases h)
  refine x_iload (pc' := 2483) rfl rfl rfl ?_
  refine x_if (a' := 2498) (pc' := 2486) (z := true) rfl rfl rfl (by decide) (fun _ => ?_) (fun h => by cases h)
  refine x_goto (pc' := 2938) rfl rfl ?_
  refine x_iinc (pc' := 2941) (y := 7) (ls' := [_, _, _, _, _, _, _]) rfl rfl rfl rfl rfl ?_
  refine x_goto (pc' := 23) rfl rfl ?_
  refine x_iload (pc' := 25) rfl rfl rfl ?_
  refine x_aload_n (pc' := 26) rfl rfl rfl rfl rfl ?_
  refine x_alen (pc' := 27) (N := 7) rfl rfl rfl (Eq.trans rdNI (Eq.trans rdNthr (z_N_29_0 e))) (?_ : X _ _ _ (.inl 7 :: _) _ _)
  refine x_bipush (pc' := 29) rfl rfl ?_
  refine x_isub (pc' := 30) (z := 0) rfl rfl (by decide) ?_
  refine x_icmp (a' := 2944) (pc' := 33) (z := true) rfl rfl rfl (by decide) (fun _ => ?_) (fun h => by cases h)
  refine x_iconst (pc' := 2945) rfl rfl ?_
  refine x_retz (z := true) rfl rfl ?_
  exact Qp_ok e (p := 1) (q := 6) rfl rfl rfl rfl
set_option maxHeartbeats 4000000 in
set_option maxRecDepth 10000 in
theorem v_32_A_1 {t : sT} {xs : Nat → Int32}
    (e : t = T16 7 xs)
    (hk : ((xs 0) &&& 63) = 32)
    (e0 : (xs 1) < 0)
    (e1 : xs 2 = 1) :
    X 297 23 [.inr (.inr (29, (some 0))), .inr (.inr (11, (some 0))), .inr (.inr (12, (some 0))), .inr (.inr (23, (some 0))), .inl 0, sJk, sJk] [] t Qp := by
  refine x_iload (pc' := 25) rfl rfl rfl ?_
  refine x_aload_n (pc' := 26) rfl rfl rfl rfl rfl ?_
  refine x_alen (pc' := 27) (N := 7) rfl rfl rfl (z_N_29_0 e) (?_ : X _ _ _ (.inl 7 :: _) _ _)
  refine x_bipush (pc' := 29) rfl rfl ?_
  refine x_isub (pc' := 30) (z := 0) rfl rfl (by decide) ?_
  refine x_icmp (a' := 2944) (pc' := 33) (z := false) rfl rfl rfl (by decide) (fun h => by cases h) (fun _ => ?_)
  refine x_aload_n (pc' := 34) rfl rfl rfl rfl rfl ?_
  refine x_iload (pc' := 36) rfl rfl rfl ?_
  refine x_iald (pc' := 37) (N := 7) (x := (xs 0)) rfl rfl rfl (z_N_29_0 e) (io_in (p := 0) (N := 7) (by decide) (by decide)) (Eq.trans (congrArg (sA t 29 0) (nn_io (p := 0) (by decide))) (z_A_29_0_0 e)) ?_
  refine x_bipush (pc' := 39) rfl rfl ?_
  refine x_iand (pc' := 40) (z := ((xs 0) &&& 63)) rfl rfl rfl ?_
  refine x_switch (pc' := 2433) rfl (by rw [hk]; decide) ?_
  refine x_aload_n (pc' := 2434) rfl rfl rfl rfl rfl ?_
  refine x_aload_n (pc' := 2435) rfl rfl rfl rfl rfl ?_
  refine x_iload (pc' := 2437) rfl rfl rfl ?_
  refine x_iconst (pc' := 2438) rfl rfl ?_
  refine x_iadd (pc' := 2439) (z := 1) rfl rfl (by decide) ?_
  refine x_iald (pc' := 2440) (N := 7) (x := (xs 1)) rfl rfl rfl (z_N_29_0 e) (io_in (p := 1) (N := 7) (by decide) (by decide)) (Eq.trans (congrArg (sA t 29 0) (nn_io (p := 1) (by decide))) (z_A_29_0_1 e)) ?_
  refine x_aload_n (pc' := 2441) rfl rfl rfl rfl rfl ?_
  refine x_iload (pc' := 2443) rfl rfl rfl ?_
  refine x_iconst (pc' := 2444) rfl rfl ?_
  refine x_iadd (pc' := 2445) (z := 2) rfl rfl (by decide) ?_
  refine x_iald (pc' := 2446) (N := 7) (x := 1) rfl rfl rfl (z_N_29_0 e) (io_in (p := 2) (N := 7) (by decide) (by decide)) (Eq.trans (congrArg (sA t 29 0) (nn_io (p := 2) (by decide))) (Eq.trans (z_A_29_0_2 e) e1)) ?_
  refine x_aload_n (pc' := 2447) rfl rfl rfl rfl rfl ?_
  refine x_cs (ls0 := [_, _, _, _, sJk]) (rest := []) rfl rfl rfl rfl ?_
  refine x_aload_n (pc' := 1) rfl rfl rfl rfl rfl ?_
  refine x_iconst (pc' := 2) rfl rfl ?_
  refine x_aload_n (pc' := 3) rfl rfl rfl rfl rfl ?_
  refine x_iload_n (pc' := 4) rfl rfl rfl ?_
  refine x_iload_n (pc' := 5) rfl rfl rfl ?_
  refine x_cv (ls0 := [_, _, _, sJk]) (rest := [_, _]) rfl rfl rfl rfl rfl ?_
  refine x_aload_n (pc' := 1) rfl rfl rfl rfl rfl ?_
  refine x_iload_n (pc' := 2) rfl rfl rfl ?_
  refine x_cv (ls0 := [_, _]) (rest := []) rfl rfl rfl rfl rfl ?_
  refine x_iload_n (pc' := 1) rfl rfl rfl ?_
  refine x_if (a' := 16) (pc' := 4) (z := decide ((xs 1) < 0)) rfl rfl rfl rfl (fun _ => ?_) (fun h => absurd e0 (of_decide_eq_false h))
  refine x_throw rfl rfl ?_
  refine sK_n (by decide +kernel) rfl ?_
  refine sK_h (h := 13) (by decide +kernel) rfl ?_
  refine x_catch (pc' := 15) (ls' := [_, _, _, _, _]) rfl rfl rfl rfl ?_
  refine x_iconst (pc' := 16) rfl rfl ?_
  refine x_reti rfl rfl ?_
  refine sK_i (pc' := 2450) rfl ?_
  refine x_istore (pc' := 2452) (ls' := [_, _, _, _, _, _, _]) rfl rfl rfl rfl ?_
  refine x_aload_n (pc' := 2453) rfl rfl rfl rfl rfl ?_
  refine x_aload_n (pc' := 2454) rfl rfl rfl rfl rfl ?_
  refine x_iload (pc' := 2456) rfl rfl rfl ?_
  refine x_iconst (pc' := 2457) rfl rfl ?_
  refine x_iadd (pc' := 2458) (z := 1) rfl rfl (by decide) ?_
  refine x_iald (pc' := 2459) (N := 7) (x := (xs 1)) rfl rfl rfl (Eq.trans rdNthr (z_N_29_0 e)) (io_in (p := 1) (N := 7) (by decide) (by decide)) (Eq.trans (congrArg (sA (sThr t) 29 0) (nn_io (p := 1) (by decide))) (Eq.trans rdAthr (z_A_29_0_1 e))) ?_
  refine x_aload_n (pc' := 2460) rfl rfl rfl rfl rfl ?_
  refine x_iload (pc' := 2462) rfl rfl rfl ?_
  refine x_iconst (pc' := 2463) rfl rfl ?_
  refine x_iadd (pc' := 2464) (z := 2) rfl rfl (by decide) ?_
  refine x_iald (pc' := 2465) (N := 7) (x := 1) rfl rfl rfl (Eq.trans rdNthr (z_N_29_0 e)) (io_in (p := 2) (N := 7) (by decide) (by decide)) (Eq.trans (congrArg (sA (sThr t) 29 0) (nn_io (p := 2) (by decide))) (Eq.trans rdAthr (Eq.trans (z_A_29_0_2 e) e1))) ?_
  refine x_cv (ls0 := [_, _, _]) (rest := []) rfl rfl rfl rfl rfl ?_
  refine x_aload_n (pc' := 1) rfl rfl rfl rfl rfl ?_
  refine x_iload_n (pc' := 2) rfl rfl rfl ?_
  refine x_cs (ls0 := [_]) (rest := [_]) rfl rfl rfl rfl ?_
  refine x_iload_n (pc' := 1) rfl rfl rfl ?_
  refine x_iconst (pc' := 2) rfl rfl ?_
  refine x_iconst (pc' := 3) rfl rfl ?_
  refine x_cs (ls0 := [_, _, _]) (rest := []) rfl rfl rfl rfl ?_
  refine x_iload_n (pc' := 1) rfl rfl rfl ?_
  refine x_iload_n (pc' := 2) rfl rfl rfl ?_
  refine x_icmp (a' := 14) (pc' := 5) (z := decide ((xs 1) < 0)) rfl rfl rfl rfl (fun _ => ?_) (fun h => absurd e0 (of_decide_eq_false h))
  refine x_iconst (pc' := 15) rfl rfl ?_
  refine x_retz (z := false) rfl rfl ?_
  refine sK_i (pc' := 6) rfl ?_
  refine x_retz (z := false) rfl rfl ?_
  refine sK_i (pc' := 5) rfl ?_
  refine x_if (a' := 19) (pc' := 8) (z := true) rfl rfl rfl (by decide) (fun _ => ?_) (fun h => by cases h)
  refine x_iconst (pc' := 20) rfl rfl ?_
  refine x_cv (ls0 := [_, _]) (rest := []) rfl rfl rfl rfl rfl ?_
  refine x_aload_n (pc' := 1) rfl rfl rfl rfl rfl ?_
  refine x_iload_n (pc' := 2) rfl rfl rfl ?_
  refine x_pI (pc' := 5) rfl rfl rfl ?_
  refine x_iload_n (pc' := 6) rfl rfl rfl ?_
  refine x_if (a' := 13) (pc' := 9) (z := true) rfl rfl rfl (by decide) (fun _ => ?_) (fun h => by cases h)
  refine x_iconst (pc' := 14) rfl rfl ?_
  refine x_retz (z := false) rfl rfl ?_
  refine sK_i (pc' := 23) rfl ?_
  refine x_if (a' := 39) (pc' := 26) (z := true) rfl rfl rfl (by decide) (fun _ => ?_) (fun h => by cases h)
  refine x_iconst (pc' := 40) rfl rfl ?_
  refine x_reti rfl rfl ?_
  refine sK_i (pc' := 2468) rfl ?_
  refine x_istore (pc' := 2470) (ls' := [_, _, _, _, _, _, _]) rfl rfl rfl rfl ?_
  refine x_aload_n (pc' := 2471) rfl rfl rfl rfl rfl ?_
  refine x_cv (ls0 := [_]) (rest := []) rfl rfl rfl rfl rfl ?_
  refine x_aload_n (pc' := 1) rfl rfl rfl rfl rfl ?_
  refine x_gI (pc' := 4) (x := 1) rfl rfl rfl sI_s ?_
  refine x_reti rfl rfl ?_
  refine sK_i (pc' := 2474) rfl ?_
  refine x_iload (pc' := 2476) rfl rfl rfl ?_
  refine x_icmp (a' := 2481) (pc' := 2479) (z := true) rfl rfl rfl (by decide) (fun _ => ?_) (fun h => by cases h)
  refine x_iload (pc' := 2483) rfl rfl rfl ?_
  refine x_if (a' := 2498) (pc' := 2486) (z := true) rfl rfl rfl (by decide) (fun _ => ?_) (fun h => by cases h)
  refine x_goto (pc' := 2938) rfl rfl ?_
  refine x_iinc (pc' := 2941) (y := 7) (ls' := [_, _, _, _, _, _, _]) rfl rfl rfl rfl rfl ?_
  refine x_goto (pc' := 23) rfl rfl ?_
  refine x_iload (pc' := 25) rfl rfl rfl ?_
  refine x_aload_n (pc' := 26) rfl rfl rfl rfl rfl ?_
  refine x_alen (pc' := 27) (N := 7) rfl rfl rfl (Eq.trans rdNI (Eq.trans rdNthr (z_N_29_0 e))) (?_ : X _ _ _ (.inl 7 :: _) _ _)
  refine x_bipush (pc' := 29) rfl rfl ?_
  refine x_isub (pc' := 30) (z := 0) rfl rfl (by decide) ?_
  refine x_icmp (a' := 2944) (pc' := 33) (z := true) rfl rfl rfl (by decide) (fun _ => ?_) (fun h => by cases h)
  refine x_iconst (pc' := 2945) rfl rfl ?_
  refine x_retz (z := true) rfl rfl ?_
  exact Qp_ok e (p := 1) (q := 6) rfl rfl rfl rfl
set_option maxHeartbeats 4000000 in
set_option maxRecDepth 10000 in
theorem v_32_A_2 {t : sT} {xs : Nat → Int32}
    (e : t = T16 7 xs)
    (hk : ((xs 0) &&& 63) = 32)
    (e0 : (xs 1) < 0)
    (e1 : xs 2 = 2) :
    X 297 23 [.inr (.inr (29, (some 0))), .inr (.inr (11, (some 0))), .inr (.inr (12, (some 0))), .inr (.inr (23, (some 0))), .inl 0, sJk, sJk] [] t Qp := by
  refine x_iload (pc' := 25) rfl rfl rfl ?_
  refine x_aload_n (pc' := 26) rfl rfl rfl rfl rfl ?_
  refine x_alen (pc' := 27) (N := 7) rfl rfl rfl (z_N_29_0 e) (?_ : X _ _ _ (.inl 7 :: _) _ _)
  refine x_bipush (pc' := 29) rfl rfl ?_
  refine x_isub (pc' := 30) (z := 0) rfl rfl (by decide) ?_
  refine x_icmp (a' := 2944) (pc' := 33) (z := false) rfl rfl rfl (by decide) (fun h => by cases h) (fun _ => ?_)
  refine x_aload_n (pc' := 34) rfl rfl rfl rfl rfl ?_
  refine x_iload (pc' := 36) rfl rfl rfl ?_
  refine x_iald (pc' := 37) (N := 7) (x := (xs 0)) rfl rfl rfl (z_N_29_0 e) (io_in (p := 0) (N := 7) (by decide) (by decide)) (Eq.trans (congrArg (sA t 29 0) (nn_io (p := 0) (by decide))) (z_A_29_0_0 e)) ?_
  refine x_bipush (pc' := 39) rfl rfl ?_
  refine x_iand (pc' := 40) (z := ((xs 0) &&& 63)) rfl rfl rfl ?_
  refine x_switch (pc' := 2433) rfl (by rw [hk]; decide) ?_
  refine x_aload_n (pc' := 2434) rfl rfl rfl rfl rfl ?_
  refine x_aload_n (pc' := 2435) rfl rfl rfl rfl rfl ?_
  refine x_iload (pc' := 2437) rfl rfl rfl ?_
  refine x_iconst (pc' := 2438) rfl rfl ?_
  refine x_iadd (pc' := 2439) (z := 1) rfl rfl (by decide) ?_
  refine x_iald (pc' := 2440) (N := 7) (x := (xs 1)) rfl rfl rfl (z_N_29_0 e) (io_in (p := 1) (N := 7) (by decide) (by decide)) (Eq.trans (congrArg (sA t 29 0) (nn_io (p := 1) (by decide))) (z_A_29_0_1 e)) ?_
  refine x_aload_n (pc' := 2441) rfl rfl rfl rfl rfl ?_
  refine x_iload (pc' := 2443) rfl rfl rfl ?_
  refine x_iconst (pc' := 2444) rfl rfl ?_
  refine x_iadd (pc' := 2445) (z := 2) rfl rfl (by decide) ?_
  refine x_iald (pc' := 2446) (N := 7) (x := 2) rfl rfl rfl (z_N_29_0 e) (io_in (p := 2) (N := 7) (by decide) (by decide)) (Eq.trans (congrArg (sA t 29 0) (nn_io (p := 2) (by decide))) (Eq.trans (z_A_29_0_2 e) e1)) ?_
  refine x_aload_n (pc' := 2447) rfl rfl rfl rfl rfl ?_
  refine x_cs (ls0 := [_, _, _, _, sJk]) (rest := []) rfl rfl rfl rfl ?_
  refine x_aload_n (pc' := 1) rfl rfl rfl rfl rfl ?_
  refine x_iconst (pc' := 2) rfl rfl ?_
  refine x_aload_n (pc' := 3) rfl rfl rfl rfl rfl ?_
  refine x_iload_n (pc' := 4) rfl rfl rfl ?_
  refine x_iload_n (pc' := 5) rfl rfl rfl ?_
  refine x_cv (ls0 := [_, _, _, sJk]) (rest := [_, _]) rfl rfl rfl rfl rfl ?_
  refine x_aload_n (pc' := 1) rfl rfl rfl rfl rfl ?_
  refine x_iload_n (pc' := 2) rfl rfl rfl ?_
  refine x_cv (ls0 := [_, _]) (rest := []) rfl rfl rfl rfl rfl ?_
  refine x_iload_n (pc' := 1) rfl rfl rfl ?_
  refine x_if (a' := 16) (pc' := 4) (z := decide ((xs 1) < 0)) rfl rfl rfl rfl (fun _ => ?_) (fun h => absurd e0 (of_decide_eq_false h))
  refine x_throw rfl rfl ?_
  refine sK_n (by decide +kernel) rfl ?_
  refine sK_h (h := 13) (by decide +kernel) rfl ?_
  refine x_catch (pc' := 15) (ls' := [_, _, _, _, _]) rfl rfl rfl rfl ?_
  refine x_iconst (pc' := 16) rfl rfl ?_
  refine x_reti rfl rfl ?_
  refine sK_i (pc' := 2450) rfl ?_
  refine x_istore (pc' := 2452) (ls' := [_, _, _, _, _, _, _]) rfl rfl rfl rfl ?_
  refine x_aload_n (pc' := 2453) rfl rfl rfl rfl rfl ?_
  refine x_aload_n (pc' := 2454) rfl rfl rfl rfl rfl ?_
  refine x_iload (pc' := 2456) rfl rfl rfl ?_
  refine x_iconst (pc' := 2457) rfl rfl ?_
  refine x_iadd (pc' := 2458) (z := 1) rfl rfl (by decide) ?_
  refine x_iald (pc' := 2459) (N := 7) (x := (xs 1)) rfl rfl rfl (Eq.trans rdNthr (z_N_29_0 e)) (io_in (p := 1) (N := 7) (by decide) (by decide)) (Eq.trans (congrArg (sA (sThr t) 29 0) (nn_io (p := 1) (by decide))) (Eq.trans rdAthr (z_A_29_0_1 e))) ?_
  refine x_aload_n (pc' := 2460) rfl rfl rfl rfl rfl ?_
  refine x_iload (pc' := 2462) rfl rfl rfl ?_
  refine x_iconst (pc' := 2463) rfl rfl ?_
  refine x_iadd (pc' := 2464) (z := 2) rfl rfl (by decide) ?_
  refine x_iald (pc' := 2465) (N := 7) (x := 2) rfl rfl rfl (Eq.trans rdNthr (z_N_29_0 e)) (io_in (p := 2) (N := 7) (by decide) (by decide)) (Eq.trans (congrArg (sA (sThr t) 29 0) (nn_io (p := 2) (by decide))) (Eq.trans rdAthr (Eq.trans (z_A_29_0_2 e) e1))) ?_
  refine x_cv (ls0 := [_, _, _]) (rest := []) rfl rfl rfl rfl rfl ?_
  refine x_aload_n (pc' := 1) rfl rfl rfl rfl rfl ?_
  refine x_iload_n (pc' := 2) rfl rfl rfl ?_
  refine x_cs (ls0 := [_]) (rest := [_]) rfl rfl rfl rfl ?_
  refine x_iload_n (pc' := 1) rfl rfl rfl ?_
  refine x_iconst (pc' := 2) rfl rfl ?_
  refine x_iconst (pc' := 3) rfl rfl ?_
  refine x_cs (ls0 := [_, _, _]) (rest := []) rfl rfl rfl rfl ?_
  refine x_iload_n (pc' := 1) rfl rfl rfl ?_
  refine x_iload_n (pc' := 2) rfl rfl rfl ?_
  refine x_icmp (a' := 14) (pc' := 5) (z := decide ((xs 1) < 0)) rfl rfl rfl rfl (fun _ => ?_) (fun h => absurd e0 (of_decide_eq_false h))
  refine x_iconst (pc' := 15) rfl rfl ?_
  refine x_retz (z := false) rfl rfl ?_
  refine sK_i (pc' := 6) rfl ?_
  refine x_retz (z := false) rfl rfl ?_
  refine sK_i (pc' := 5) rfl ?_
  refine x_if (a' := 19) (pc' := 8) (z := true) rfl rfl rfl (by decide) (fun _ => ?_) (fun h => by cases h)
  refine x_iconst (pc' := 20) rfl rfl ?_
  refine x_cv (ls0 := [_, _]) (rest := []) rfl rfl rfl rfl rfl ?_
  refine x_aload_n (pc' := 1) rfl rfl rfl rfl rfl ?_
  refine x_iload_n (pc' := 2) rfl rfl rfl ?_
  refine x_pI (pc' := 5) rfl rfl rfl ?_
  refine x_iload_n (pc' := 6) rfl rfl rfl ?_
  refine x_if (a' := 13) (pc' := 9) (z := true) rfl rfl rfl (by decide) (fun _ => ?_) (fun h => by cases h)
  refine x_iconst (pc' := 14) rfl rfl ?_
  refine x_retz (z := false) rfl rfl ?_
  refine sK_i (pc' := 23) rfl ?_
  refine x_if (a' := 39) (pc' := 26) (z := true) rfl rfl rfl (by decide) (fun _ => ?_) (fun h => by cases h)
  refine x_iconst (pc' := 40) rfl rfl ?_
  refine x_reti rfl rfl ?_
  refine sK_i (pc' := 2468) rfl ?_
  refine x_istore (pc' := 2470) (ls' := [_, _, _, _, _, _, _]) rfl rfl rfl rfl ?_
  refine x_aload_n (pc' := 2471) rfl rfl rfl rfl rfl ?_
  refine x_cv (ls0 := [_]) (rest := []) rfl rfl rfl rfl rfl ?_
  refine x_aload_n (pc' := 1) rfl rfl rfl rfl rfl ?_
  refine x_gI (pc' := 4) (x := 1) rfl rfl rfl sI_s ?_
  refine x_reti rfl rfl ?_
  refine sK_i (pc' := 2474) rfl ?_
  refine x_iload (pc' := 2476) rfl rfl rfl ?_
  refine x_icmp (a' := 2481) (pc' := 2479) (z := true) rfl rfl rfl (by decide) (fun _ => ?_) (fun h => by cases h)
  refine x_iload (pc' := 2483) rfl rfl rfl ?_
  refine x_if (a' := 2498) (pc' := 2486) (z := true) rfl rfl rfl (by decide) (fun _ => ?_) (fun h => by cases h)
  refine x_goto (pc' := 2938) rfl rfl ?_
  refine x_iinc (pc' := 2941) (y := 7) (ls' := [_, _, _, _, _, _, _]) rfl rfl rfl rfl rfl ?_
  refine x_goto (pc' := 23) rfl rfl ?_
  refine x_iload (pc' := 25) rfl rfl rfl ?_
  refine x_aload_n (pc' := 26) rfl rfl rfl rfl rfl ?_
  refine x_alen (pc' := 27) (N := 7) rfl rfl rfl (Eq.trans rdNI (Eq.trans rdNthr (z_N_29_0 e))) (?_ : X _ _ _ (.inl 7 :: _) _ _)
  refine x_bipush (pc' := 29) rfl rfl ?_
  refine x_isub (pc' := 30) (z := 0) rfl rfl (by decide) ?_
  refine x_icmp (a' := 2944) (pc' := 33) (z := true) rfl rfl rfl (by decide) (fun _ => ?_) (fun h => by cases h)
  refine x_iconst (pc' := 2945) rfl rfl ?_
  refine x_retz (z := true) rfl rfl ?_
  exact Qp_ok e (p := 1) (q := 6) rfl rfl rfl rfl
set_option maxHeartbeats 4000000 in
set_option maxRecDepth 10000 in
theorem v_32_A_A {t : sT} {xs : Nat → Int32}
    (e : t = T16 7 xs)
    (hk : ((xs 0) &&& 63) = 32)
    (e0 : (xs 1) < 0)
    (e1 : (xs 2) < 0) :
    X 297 23 [.inr (.inr (29, (some 0))), .inr (.inr (11, (some 0))), .inr (.inr (12, (some 0))), .inr (.inr (23, (some 0))), .inl 0, sJk, sJk] [] t Qp := by
  refine x_iload (pc' := 25) rfl rfl rfl ?_
  refine x_aload_n (pc' := 26) rfl rfl rfl rfl rfl ?_
  refine x_alen (pc' := 27) (N := 7) rfl rfl rfl (z_N_29_0 e) (?_ : X _ _ _ (.inl 7 :: _) _ _)
  refine x_bipush (pc' := 29) rfl rfl ?_
  refine x_isub (pc' := 30) (z := 0) rfl rfl (by decide) ?_
  refine x_icmp (a' := 2944) (pc' := 33) (z := false) rfl rfl rfl (by decide) (fun h => by cases h) (fun _ => ?_)
  refine x_aload_n (pc' := 34) rfl rfl rfl rfl rfl ?_
  refine x_iload (pc' := 36) rfl rfl rfl ?_
  refine x_iald (pc' := 37) (N := 7) (x := (xs 0)) rfl rfl rfl (z_N_29_0 e) (io_in (p := 0) (N := 7) (by decide) (by decide)) (Eq.trans (congrArg (sA t 29 0) (nn_io (p := 0) (by decide))) (z_A_29_0_0 e)) ?_
  refine x_bipush (pc' := 39) rfl rfl ?_
  refine x_iand (pc' := 40) (z := ((xs 0) &&& 63)) rfl rfl rfl ?_
  refine x_switch (pc' := 2433) rfl (by rw [hk]; decide) ?_
  refine x_aload_n (pc' := 2434) rfl rfl rfl rfl rfl ?_
  refine x_aload_n (pc' := 2435) rfl rfl rfl rfl rfl ?_
  refine x_iload (pc' := 2437) rfl rfl rfl ?_
  refine x_iconst (pc' := 2438) rfl rfl ?_
  refine x_iadd (pc' := 2439) (z := 1) rfl rfl (by decide) ?_
  refine x_iald (pc' := 2440) (N := 7) (x := (xs 1)) rfl rfl rfl (z_N_29_0 e) (io_in (p := 1) (N := 7) (by decide) (by decide)) (Eq.trans (congrArg (sA t 29 0) (nn_io (p := 1) (by decide))) (z_A_29_0_1 e)) ?_
  refine x_aload_n (pc' := 2441) rfl rfl rfl rfl rfl ?_
  refine x_iload (pc' := 2443) rfl rfl rfl ?_
  refine x_iconst (pc' := 2444) rfl rfl ?_
  refine x_iadd (pc' := 2445) (z := 2) rfl rfl (by decide) ?_
  refine x_iald (pc' := 2446) (N := 7) (x := (xs 2)) rfl rfl rfl (z_N_29_0 e) (io_in (p := 2) (N := 7) (by decide) (by decide)) (Eq.trans (congrArg (sA t 29 0) (nn_io (p := 2) (by decide))) (z_A_29_0_2 e)) ?_
  refine x_aload_n (pc' := 2447) rfl rfl rfl rfl rfl ?_
  refine x_cs (ls0 := [_, _, _, _, sJk]) (rest := []) rfl rfl rfl rfl ?_
  refine x_aload_n (pc' := 1) rfl rfl rfl rfl rfl ?_
  refine x_iconst (pc' := 2) rfl rfl ?_
  refine x_aload_n (pc' := 3) rfl rfl rfl rfl rfl ?_
  refine x_iload_n (pc' := 4) rfl rfl rfl ?_
  refine x_iload_n (pc' := 5) rfl rfl rfl ?_
  refine x_cv (ls0 := [_, _, _, sJk]) (rest := [_, _]) rfl rfl rfl rfl rfl ?_
  refine x_aload_n (pc' := 1) rfl rfl rfl rfl rfl ?_
  refine x_iload_n (pc' := 2) rfl rfl rfl ?_
  refine x_cv (ls0 := [_, _]) (rest := []) rfl rfl rfl rfl rfl ?_
  refine x_iload_n (pc' := 1) rfl rfl rfl ?_
  refine x_if (a' := 16) (pc' := 4) (z := decide ((xs 1) < 0)) rfl rfl rfl rfl (fun _ => ?_) (fun h => absurd e0 (of_decide_eq_false h))
  refine x_throw rfl rfl ?_
  refine sK_n (by decide +kernel) rfl ?_
  refine sK_h (h := 13) (by decide +kernel) rfl ?_
  refine x_catch (pc' := 15) (ls' := [_, _, _, _, _]) rfl rfl rfl rfl ?_
  refine x_iconst (pc' := 16) rfl rfl ?_
  refine x_reti rfl rfl ?_
  refine sK_i (pc' := 2450) rfl ?_
  refine x_istore (pc' := 2452) (ls' := [_, _, _, _, _, _, _]) rfl rfl rfl rfl ?_
  refine x_aload_n (pc' := 2453) rfl rfl rfl rfl rfl ?_
  refine x_aload_n (pc' := 2454) rfl rfl rfl rfl rfl ?_
  refine x_iload (pc' := 2456) rfl rfl rfl ?_
  refine x_iconst (pc' := 2457) rfl rfl ?_
  refine x_iadd (pc' := 2458) (z := 1) rfl rfl (by decide) ?_
  refine x_iald (pc' := 2459) (N := 7) (x := (xs 1)) rfl rfl rfl (Eq.trans rdNthr (z_N_29_0 e)) (io_in (p := 1) (N := 7) (by decide) (by decide)) (Eq.trans (congrArg (sA (sThr t) 29 0) (nn_io (p := 1) (by decide))) (Eq.trans rdAthr (z_A_29_0_1 e))) ?_
  refine x_aload_n (pc' := 2460) rfl rfl rfl rfl rfl ?_
  refine x_iload (pc' := 2462) rfl rfl rfl ?_
  refine x_iconst (pc' := 2463) rfl rfl ?_
  refine x_iadd (pc' := 2464) (z := 2) rfl rfl (by decide) ?_
  refine x_iald (pc' := 2465) (N := 7) (x := (xs 2)) rfl rfl rfl (Eq.trans rdNthr (z_N_29_0 e)) (io_in (p := 2) (N := 7) (by decide) (by decide)) (Eq.trans (congrArg (sA (sThr t) 29 0) (nn_io (p := 2) (by decide))) (Eq.trans rdAthr (z_A_29_0_2 e))) ?_
  refine x_cv (ls0 := [_, _, _]) (rest := []) rfl rfl rfl rfl rfl ?_
  refine x_aload_n (pc' := 1) rfl rfl rfl rfl rfl ?_
  refine x_iload_n (pc' := 2) rfl rfl rfl ?_
  refine x_cs (ls0 := [_]) (rest := [_]) rfl rfl rfl rfl ?_
  refine x_iload_n (pc' := 1) rfl rfl rfl ?_
  refine x_iconst (pc' := 2) rfl rfl ?_
  refine x_iconst (pc' := 3) rfl rfl ?_
  refine x_cs (ls0 := [_, _, _]) (rest := []) rfl rfl rfl rfl ?_
  refine x_iload_n (pc' := 1) rfl rfl rfl ?_
  refine x_iload_n (pc' := 2) rfl rfl rfl ?_
  refine x_icmp (a' := 14) (pc' := 5) (z := decide ((xs 1) < 0)) rfl rfl rfl rfl (fun _ => ?_) (fun h => absurd e0 (of_decide_eq_false h))
  refine x_iconst (pc' := 15) rfl rfl ?_
  refine x_retz (z := false) rfl rfl ?_
  refine sK_i (pc' := 6) rfl ?_
  refine x_retz (z := false) rfl rfl ?_
  refine sK_i (pc' := 5) rfl ?_
  refine x_if (a' := 19) (pc' := 8) (z := true) rfl rfl rfl (by decide) (fun _ => ?_) (fun h => by cases h)
  refine x_iconst (pc' := 20) rfl rfl ?_
  refine x_cv (ls0 := [_, _]) (rest := []) rfl rfl rfl rfl rfl ?_
  refine x_aload_n (pc' := 1) rfl rfl rfl rfl rfl ?_
  refine x_iload_n (pc' := 2) rfl rfl rfl ?_
  refine x_pI (pc' := 5) rfl rfl rfl ?_
  refine x_iload_n (pc' := 6) rfl rfl rfl ?_
  refine x_if (a' := 13) (pc' := 9) (z := true) rfl rfl rfl (by decide) (fun _ => ?_) (fun h => by cases h)
  refine x_iconst (pc' := 14) rfl rfl ?_
  refine x_retz (z := false) rfl rfl ?_
  refine sK_i (pc' := 23) rfl ?_
  refine x_if (a' := 39) (pc' := 26) (z := true) rfl rfl rfl (by decide) (fun _ => ?_) (fun h => by cases h)
  refine x_iconst (pc' := 40) rfl rfl ?_
  refine x_reti rfl rfl ?_
  refine sK_i (pc' := 2468) rfl ?_
  refine x_istore (pc' := 2470) (ls' := [_, _, _, _, _, _, _]) rfl rfl rfl rfl ?_
  refine x_aload_n (pc' := 2471) rfl rfl rfl rfl rfl ?_
  refine x_cv (ls0 := [_]) (rest := []) rfl rfl rfl rfl rfl ?_
  refine x_aload_n (pc' := 1) rfl rfl rfl rfl rfl ?_
  refine x_gI (pc' := 4) (x := 1) rfl rfl rfl sI_s ?_
  refine x_reti rfl rfl ?_
  refine sK_i (pc' := 2474) rfl ?_
  refine x_iload (pc' := 2476) rfl rfl rfl ?_
  refine x_icmp (a' := 2481) (pc' := 2479) (z := true) rfl rfl rfl (by decide) (fun _ => ?_) (fun h => by cases h)
  refine x_iload (pc' := 2483) rfl rfl rfl ?_
  refine x_if (a' := 2498) (pc' := 2486) (z := true) rfl rfl rfl (by decide) (fun _ => ?_) (fun h => by cases h)
  refine x_goto (pc' := 2938) rfl rfl ?_
  refine x_iinc (pc' := 2941) (y := 7) (ls' := [_, _, _, _, _, _, _]) rfl rfl rfl rfl rfl ?_
  refine x_goto (pc' := 23) rfl rfl ?_
  refine x_iload (pc' := 25) rfl rfl rfl ?_
  refine x_aload_n (pc' := 26) rfl rfl rfl rfl rfl ?_
  refine x_alen (pc' := 27) (N := 7) rfl rfl rfl (Eq.trans rdNI (Eq.trans rdNthr (z_N_29_0 e))) (?_ : X _ _ _ (.inl 7 :: _) _ _)
  refine x_bipush (pc' := 29) rfl rfl ?_
  refine x_isub (pc' := 30) (z := 0) rfl rfl (by decide) ?_
  refine x_icmp (a' := 2944) (pc' := 33) (z := true) rfl rfl rfl (by decide) (fun _ => ?_) (fun h => by cases h)
  refine x_iconst (pc' := 2945) rfl rfl ?_
  refine x_retz (z := true) rfl rfl ?_
  exact Qp_ok e (p := 1) (q := 6) rfl rfl rfl rfl
set_option maxHeartbeats 4000000 in
set_option maxRecDepth 10000 in
theorem v_32_A_B {t : sT} {xs : Nat → Int32}
    (e : t = T16 7 xs)
    (hk : ((xs 0) &&& 63) = 32)
    (e0 : (xs 1) < 0)
    (e1 : ¬ (xs 2) < 0)
    (f1 : ¬ (xs 2) < 3) :
    X 297 23 [.inr (.inr (29, (some 0))), .inr (.inr (11, (some 0))), .inr (.inr (12, (some 0))), .inr (.inr (23, (some 0))), .inl 0, sJk, sJk] [] t Qp := by
  refine x_iload (pc' := 25) rfl rfl rfl ?_
  refine x_aload_n (pc' := 26) rfl rfl rfl rfl rfl ?_
  refine x_alen (pc' := 27) (N := 7) rfl rfl rfl (z_N_29_0 e) (?_ : X _ _ _ (.inl 7 :: _) _ _)
  refine x_bipush (pc' := 29) rfl rfl ?_
  refine x_isub (pc' := 30) (z := 0) rfl rfl (by decide) ?_
  refine x_icmp (a' := 2944) (pc' := 33) (z := false) rfl rfl rfl (by decide) (fun h => by cases h) (fun _ => ?_)
  refine x_aload_n (pc' := 34) rfl rfl rfl rfl rfl ?_
  refine x_iload (pc' := 36) rfl rfl rfl ?_
  refine x_iald (pc' := 37) (N := 7) (x := (xs 0)) rfl rfl rfl (z_N_29_0 e) (io_in (p := 0) (N := 7) (by decide) (by decide)) (Eq.trans (congrArg (sA t 29 0) (nn_io (p := 0) (by decide))) (z_A_29_0_0 e)) ?_
  refine x_bipush (pc' := 39) rfl rfl ?_
  refine x_iand (pc' := 40) (z := ((xs 0) &&& 63)) rfl rfl rfl ?_
  refine x_switch (pc' := 2433) rfl (by rw [hk]; decide) ?_
  refine x_aload_n (pc' := 2434) rfl rfl rfl rfl rfl ?_
  refine x_aload_n (pc' := 2435) rfl rfl rfl rfl rfl ?_
  refine x_iload (pc' := 2437) rfl rfl rfl ?_
  refine x_iconst (pc' := 2438) rfl rfl ?_
  refine x_iadd (pc' := 2439) (z := 1) rfl rfl (by decide) ?_
  refine x_iald (pc' := 2440) (N := 7) (x := (xs 1)) rfl rfl rfl (z_N_29_0 e) (io_in (p := 1) (N := 7) (by decide) (by decide)) (Eq.trans (congrArg (sA t 29 0) (nn_io (p := 1) (by decide))) (z_A_29_0_1 e)) ?_
  refine x_aload_n (pc' := 2441) rfl rfl rfl rfl rfl ?_
  refine x_iload (pc' := 2443) rfl rfl rfl ?_
  refine x_iconst (pc' := 2444) rfl rfl ?_
  refine x_iadd (pc' := 2445) (z := 2) rfl rfl (by decide) ?_
  refine x_iald (pc' := 2446) (N := 7) (x := (xs 2)) rfl rfl rfl (z_N_29_0 e) (io_in (p := 2) (N := 7) (by decide) (by decide)) (Eq.trans (congrArg (sA t 29 0) (nn_io (p := 2) (by decide))) (z_A_29_0_2 e)) ?_
  refine x_aload_n (pc' := 2447) rfl rfl rfl rfl rfl ?_
  refine x_cs (ls0 := [_, _, _, _, sJk]) (rest := []) rfl rfl rfl rfl ?_
  refine x_aload_n (pc' := 1) rfl rfl rfl rfl rfl ?_
  refine x_iconst (pc' := 2) rfl rfl ?_
  refine x_aload_n (pc' := 3) rfl rfl rfl rfl rfl ?_
  refine x_iload_n (pc' := 4) rfl rfl rfl ?_
  refine x_iload_n (pc' := 5) rfl rfl rfl ?_
  refine x_cv (ls0 := [_, _, _, sJk]) (rest := [_, _]) rfl rfl rfl rfl rfl ?_
  refine x_aload_n (pc' := 1) rfl rfl rfl rfl rfl ?_
  refine x_iload_n (pc' := 2) rfl rfl rfl ?_
  refine x_cv (ls0 := [_, _]) (rest := []) rfl rfl rfl rfl rfl ?_
  refine x_iload_n (pc' := 1) rfl rfl rfl ?_
  refine x_if (a' := 16) (pc' := 4) (z := decide ((xs 1) < 0)) rfl rfl rfl rfl (fun _ => ?_) (fun h => absurd e0 (of_decide_eq_false h))
  refine x_throw rfl rfl ?_
  refine sK_n (by decide +kernel) rfl ?_
  refine sK_h (h := 13) (by decide +kernel) rfl ?_
  refine x_catch (pc' := 15) (ls' := [_, _, _, _, _]) rfl rfl rfl rfl ?_
  refine x_iconst (pc' := 16) rfl rfl ?_
  refine x_reti rfl rfl ?_
  refine sK_i (pc' := 2450) rfl ?_
  refine x_istore (pc' := 2452) (ls' := [_, _, _, _, _, _, _]) rfl rfl rfl rfl ?_
  refine x_aload_n (pc' := 2453) rfl rfl rfl rfl rfl ?_
  refine x_aload_n (pc' := 2454) rfl rfl rfl rfl rfl ?_
  refine x_iload (pc' := 2456) rfl rfl rfl ?_
  refine x_iconst (pc' := 2457) rfl rfl ?_
  refine x_iadd (pc' := 2458) (z := 1) rfl rfl (by decide) ?_
  refine x_iald (pc' := 2459) (N := 7) (x := (xs 1)) rfl rfl rfl (Eq.trans rdNthr (z_N_29_0 e)) (io_in (p := 1) (N := 7) (by decide) (by decide)) (Eq.trans (congrArg (sA (sThr t) 29 0) (nn_io (p := 1) (by decide))) (Eq.trans rdAthr (z_A_29_0_1 e))) ?_
  refine x_aload_n (pc' := 2460) rfl rfl rfl rfl rfl ?_
  refine x_iload (pc' := 2462) rfl rfl rfl ?_
  refine x_iconst (pc' := 2463) rfl rfl ?_
  refine x_iadd (pc' := 2464) (z := 2) rfl rfl (by decide) ?_
  refine x_iald (pc' := 2465) (N := 7) (x := (xs 2)) rfl rfl rfl (Eq.trans rdNthr (z_N_29_0 e)) (io_in (p := 2) (N := 7) (by decide) (by decide)) (Eq.trans (congrArg (sA (sThr t) 29 0) (nn_io (p := 2) (by decide))) (Eq.trans rdAthr (z_A_29_0_2 e))) ?_
  refine x_cv (ls0 := [_, _, _]) (rest := []) rfl rfl rfl rfl rfl ?_
  refine x_aload_n (pc' := 1) rfl rfl rfl rfl rfl ?_
  refine x_iload_n (pc' := 2) rfl rfl rfl ?_
  refine x_cs (ls0 := [_]) (rest := [_]) rfl rfl rfl rfl ?_
  refine x_iload_n (pc' := 1) rfl rfl rfl ?_
  refine x_iconst (pc' := 2) rfl rfl ?_
  refine x_iconst (pc' := 3) rfl rfl ?_
  refine x_cs (ls0 := [_, _, _]) (rest := []) rfl rfl rfl rfl ?_
  refine x_iload_n (pc' := 1) rfl rfl rfl ?_
  refine x_iload_n (pc' := 2) rfl rfl rfl ?_
  refine x_icmp (a' := 14) (pc' := 5) (z := decide ((xs 1) < 0)) rfl rfl rfl rfl (fun _ => ?_) (fun h => absurd e0 (of_decide_eq_false h))
  refine x_iconst (pc' := 15) rfl rfl ?_
  refine x_retz (z := false) rfl rfl ?_
  refine sK_i (pc' := 6) rfl ?_
  refine x_retz (z := false) rfl rfl ?_
  refine sK_i (pc' := 5) rfl ?_
  refine x_if (a' := 19) (pc' := 8) (z := true) rfl rfl rfl (by decide) (fun _ => ?_) (fun h => by cases h)
  refine x_iconst (pc' := 20) rfl rfl ?_
  refine x_cv (ls0 := [_, _]) (rest := []) rfl rfl rfl rfl rfl ?_
  refine x_aload_n (pc' := 1) rfl rfl rfl rfl rfl ?_
  refine x_iload_n (pc' := 2) rfl rfl rfl ?_
  refine x_pI (pc' := 5) rfl rfl rfl ?_
  refine x_iload_n (pc' := 6) rfl rfl rfl ?_
  refine x_if (a' := 13) (pc' := 9) (z := true) rfl rfl rfl (by decide) (fun _ => ?_) (fun h => by cases h)
  refine x_iconst (pc' := 14) rfl rfl ?_
  refine x_retz (z := false) rfl rfl ?_
  refine sK_i (pc' := 23) rfl ?_
  refine x_if (a' := 39) (pc' := 26) (z := true) rfl rfl rfl (by decide) (fun _ => ?_) (fun h => by cases h)
  refine x_iconst (pc' := 40) rfl rfl ?_
  refine x_reti rfl rfl ?_
  refine sK_i (pc' := 2468) rfl ?_
  refine x_istore (pc' := 2470) (ls' := [_, _, _, _, _, _, _]) rfl rfl rfl rfl ?_
  refine x_aload_n (pc' := 2471) rfl rfl rfl rfl rfl ?_
  refine x_cv (ls0 := [_]) (rest := []) rfl rfl rfl rfl rfl ?_
  refine x_aload_n (pc' := 1) rfl rfl rfl rfl rfl ?_
  refine x_gI (pc' := 4) (x := 1) rfl rfl rfl sI_s ?_
  refine x_reti rfl rfl ?_
  refine sK_i (pc' := 2474) rfl ?_
  refine x_iload (pc' := 2476) rfl rfl rfl ?_
  refine x_icmp (a' := 2481) (pc' := 2479) (z := true) rfl rfl rfl (by decide) (fun _ => ?_) (fun h => by cases h)
  refine x_iload (pc' := 2483) rfl rfl rfl ?_
  refine x_if (a' := 2498) (pc' := 2486) (z := true) rfl rfl rfl (by decide) (fun _ => ?_) (fun h => by cases h)
  refine x_goto (pc' := 2938) rfl rfl ?_
  refine x_iinc (pc' := 2941) (y := 7) (ls' := [_, _, _, _, _, _, _]) rfl rfl rfl rfl rfl ?_
  refine x_goto (pc' := 23) rfl rfl ?_
  refine x_iload (pc' := 25) rfl rfl rfl ?_
  refine x_aload_n (pc' := 26) rfl rfl rfl rfl rfl ?_
  refine x_alen (pc' := 27) (N := 7) rfl rfl rfl (Eq.trans rdNI (Eq.trans rdNthr (z_N_29_0 e))) (?_ : X _ _ _ (.inl 7 :: _) _ _)
  refine x_bipush (pc' := 29) rfl rfl ?_
  refine x_isub (pc' := 30) (z := 0) rfl rfl (by decide) ?_
  refine x_icmp (a' := 2944) (pc' := 33) (z := true) rfl rfl rfl (by decide) (fun _ => ?_) (fun h => by cases h)
  refine x_iconst (pc' := 2945) rfl rfl ?_
  refine x_retz (z := true) rfl rfl ?_
  exact Qp_ok e (p := 1) (q := 6) rfl rfl rfl rfl
set_option maxHeartbeats 4000000 in
set_option maxRecDepth 10000 in
theorem v_32_B_0 {t : sT} {xs : Nat → Int32}
    (e : t = T16 7 xs)
    (hk : ((xs 0) &&& 63) = 32)
    (e0 : ¬ (xs 1) < 0)
    (f0 : ¬ (xs 1) < 6)
    (e1 : xs 2 = 0) :
    X 297 23 [.inr (.inr (29, (some 0))), .inr (.inr (11, (some 0))), .inr (.inr (12, (some 0))), .inr (.inr (23, (some 0))), .inl 0, sJk, sJk] [] t Qp := by
  refine x_iload (pc' := 25) rfl rfl rfl ?_
  refine x_aload_n (pc' := 26) rfl rfl rfl rfl rfl ?_
  refine x_alen (pc' := 27) (N := 7) rfl rfl rfl (z_N_29_0 e) (?_ : X _ _ _ (.inl 7 :: _) _ _)
  refine x_bipush (pc' := 29) rfl rfl ?_
  refine x_isub (pc' := 30) (z := 0) rfl rfl (by decide) ?_
  refine x_icmp (a' := 2944) (pc' := 33) (z := false) rfl rfl rfl (by decide) (fun h => by cases h) (fun _ => ?_)
  refine x_aload_n (pc' := 34) rfl rfl rfl rfl rfl ?_
  refine x_iload (pc' := 36) rfl rfl rfl ?_
  refine x_iald (pc' := 37) (N := 7) (x := (xs 0)) rfl rfl rfl (z_N_29_0 e) (io_in (p := 0) (N := 7) (by decide) (by decide)) (Eq.trans (congrArg (sA t 29 0) (nn_io (p := 0) (by decide))) (z_A_29_0_0 e)) ?_
  refine x_bipush (pc' := 39) rfl rfl ?_
  refine x_iand (pc' := 40) (z := ((xs 0) &&& 63)) rfl rfl rfl ?_
  refine x_switch (pc' := 2433) rfl (by rw [hk]; decide) ?_
  refine x_aload_n (pc' := 2434) rfl rfl rfl rfl rfl ?_
  refine x_aload_n (pc' := 2435) rfl rfl rfl rfl rfl ?_
  refine x_iload (pc' := 2437) rfl rfl rfl ?_
  refine x_iconst (pc' := 2438) rfl rfl ?_
  refine x_iadd (pc' := 2439) (z := 1) rfl rfl (by decide) ?_
  refine x_iald (pc' := 2440) (N := 7) (x := (xs 1)) rfl rfl rfl (z_N_29_0 e) (io_in (p := 1) (N := 7) (by decide) (by decide)) (Eq.trans (congrArg (sA t 29 0) (nn_io (p := 1) (by decide))) (z_A_29_0_1 e)) ?_
  refine x_aload_n (pc' := 2441) rfl rfl rfl rfl rfl ?_
  refine x_iload (pc' := 2443) rfl rfl rfl ?_
  refine x_iconst (pc' := 2444) rfl rfl ?_
  refine x_iadd (pc' := 2445) (z := 2) rfl rfl (by decide) ?_
  refine x_iald (pc' := 2446) (N := 7) (x := 0) rfl rfl rfl (z_N_29_0 e) (io_in (p := 2) (N := 7) (by decide) (by decide)) (Eq.trans (congrArg (sA t 29 0) (nn_io (p := 2) (by decide))) (Eq.trans (z_A_29_0_2 e) e1)) ?_
  refine x_aload_n (pc' := 2447) rfl rfl rfl rfl rfl ?_
  refine x_cs (ls0 := [_, _, _, _, sJk]) (rest := []) rfl rfl rfl rfl ?_
  refine x_aload_n (pc' := 1) rfl rfl rfl rfl rfl ?_
  refine x_iconst (pc' := 2) rfl rfl ?_
  refine x_aload_n (pc' := 3) rfl rfl rfl rfl rfl ?_
  refine x_iload_n (pc' := 4) rfl rfl rfl ?_
  refine x_iload_n (pc' := 5) rfl rfl rfl ?_
  refine x_cv (ls0 := [_, _, _, sJk]) (rest := [_, _]) rfl rfl rfl rfl rfl ?_
  refine x_aload_n (pc' := 1) rfl rfl rfl rfl rfl ?_
  refine x_iload_n (pc' := 2) rfl rfl rfl ?_
  refine x_cv (ls0 := [_, _]) (rest := []) rfl rfl rfl rfl rfl ?_
  refine x_iload_n (pc' := 1) rfl rfl rfl ?_
  refine x_if (a' := 16) (pc' := 4) (z := decide ((xs 1) < 0)) rfl rfl rfl rfl (fun h => absurd (of_decide_eq_true h) e0) (fun _ => ?_)
  refine x_iload_n (pc' := 5) rfl rfl rfl ?_
  refine x_aload_n (pc' := 6) rfl rfl rfl rfl rfl ?_
  refine x_gR (pc' := 9) (r := (some 0)) rfl rfl rfl (z_R_704_0 e) ?_
  refine x_gR (pc' := 12) (r := (some 0)) rfl rfl rfl (z_R_321_0 e) ?_
  refine x_alen (pc' := 13) (N := 6) rfl rfl rfl (z_N_26_0 e) (?_ : X _ _ _ (.inl 6 :: _) _ _)
  refine x_icmp (a' := 27) (pc' := 16) (z := decide ((xs 1) < 6)) rfl rfl rfl rfl (fun h => absurd (of_decide_eq_true h) f0) (fun _ => ?_)
  refine x_throw rfl rfl ?_
  refine sK_n (by decide +kernel) rfl ?_
  refine sK_h (h := 13) (by decide +kernel) rfl ?_
  refine x_catch (pc' := 15) (ls' := [_, _, _, _, _]) rfl rfl rfl rfl ?_
  refine x_iconst (pc' := 16) rfl rfl ?_
  refine x_reti rfl rfl ?_
  refine sK_i (pc' := 2450) rfl ?_
  refine x_istore (pc' := 2452) (ls' := [_, _, _, _, _, _, _]) rfl rfl rfl rfl ?_
  refine x_aload_n (pc' := 2453) rfl rfl rfl rfl rfl ?_
  refine x_aload_n (pc' := 2454) rfl rfl rfl rfl rfl ?_
  refine x_iload (pc' := 2456) rfl rfl rfl ?_
  refine x_iconst (pc' := 2457) rfl rfl ?_
  refine x_iadd (pc' := 2458) (z := 1) rfl rfl (by decide) ?_
  refine x_iald (pc' := 2459) (N := 7) (x := (xs 1)) rfl rfl rfl (Eq.trans rdNthr (z_N_29_0 e)) (io_in (p := 1) (N := 7) (by decide) (by decide)) (Eq.trans (congrArg (sA (sThr t) 29 0) (nn_io (p := 1) (by decide))) (Eq.trans rdAthr (z_A_29_0_1 e))) ?_
  refine x_aload_n (pc' := 2460) rfl rfl rfl rfl rfl ?_
  refine x_iload (pc' := 2462) rfl rfl rfl ?_
  refine x_iconst (pc' := 2463) rfl rfl ?_
  refine x_iadd (pc' := 2464) (z := 2) rfl rfl (by decide) ?_
  refine x_iald (pc' := 2465) (N := 7) (x := 0) rfl rfl rfl (Eq.trans rdNthr (z_N_29_0 e)) (io_in (p := 2) (N := 7) (by decide) (by decide)) (Eq.trans (congrArg (sA (sThr t) 29 0) (nn_io (p := 2) (by decide))) (Eq.trans rdAthr (Eq.trans (z_A_29_0_2 e) e1))) ?_
  refine x_cv (ls0 := [_, _, _]) (rest := []) rfl rfl rfl rfl rfl ?_
  refine x_aload_n (pc' := 1) rfl rfl rfl rfl rfl ?_
  refine x_iload_n (pc' := 2) rfl rfl rfl ?_
  refine x_cs (ls0 := [_]) (rest := [_]) rfl rfl rfl rfl ?_
  refine x_iload_n (pc' := 1) rfl rfl rfl ?_
  refine x_iconst (pc' := 2) rfl rfl ?_
  refine x_iconst (pc' := 3) rfl rfl ?_
  refine x_cs (ls0 := [_, _, _]) (rest := []) rfl rfl rfl rfl ?_
  refine x_iload_n (pc' := 1) rfl rfl rfl ?_
  refine x_iload_n (pc' := 2) rfl rfl rfl ?_
  refine x_icmp (a' := 14) (pc' := 5) (z := decide ((xs 1) < 0)) rfl rfl rfl rfl (fun h => absurd (of_decide_eq_true h) e0) (fun _ => ?_)
  refine x_iload_n (pc' := 6) rfl rfl rfl ?_
  refine x_iload_n (pc' := 7) rfl rfl rfl ?_
  refine x_icmp (a' := 14) (pc' := 10) (z := decide (5 < (xs 1))) rfl rfl rfl rfl (fun _ => ?_) (fun h => absurd (lt_of6 f0) (of_decide_eq_false h))
  refine x_iconst (pc' := 15) rfl rfl ?_
  refine x_retz (z := false) rfl rfl ?_
  refine sK_i (pc' := 6) rfl ?_
  refine x_retz (z := false) rfl rfl ?_
  refine sK_i (pc' := 5) rfl ?_
  refine x_if (a' := 19) (pc' := 8) (z := true) rfl rfl rfl (by decide) (fun _ => ?_) (fun h => by cases h)
  refine x_iconst (pc' := 20) rfl rfl ?_
  refine x_cv (ls0 := [_, _]) (rest := []) rfl rfl rfl rfl rfl ?_
  refine x_aload_n (pc' := 1) rfl rfl rfl rfl rfl ?_
  refine x_iload_n (pc' := 2) rfl rfl rfl ?_
  refine x_pI (pc' := 5) rfl rfl rfl ?_
  refine x_iload_n (pc' := 6) rfl rfl rfl ?_
  refine x_if (a' := 13) (pc' := 9) (z := true) rfl rfl rfl (by decide) (fun _ => ?_) (fun h => by cases h)
  refine x_iconst (pc' := 14) rfl rfl ?_
  refine x_retz (z := false) rfl rfl ?_
  refine sK_i (pc' := 23) rfl ?_
  refine x_if (a' := 39) (pc' := 26) (z := true) rfl rfl rfl (by decide) (fun _ => ?_) (fun h => by cases h)
  refine x_iconst (pc' := 40) rfl rfl ?_
  refine x_reti rfl rfl ?_
  refine sK_i (pc' := 2468) rfl ?_
  refine x_istore (pc' := 2470) (ls' := [_, _, _, _, _, _, _]) rfl rfl rfl rfl ?_
  refine x_aload_n (pc' := 2471) rfl rfl rfl rfl rfl ?_
  refine x_cv (ls0 := [_]) (rest := []) rfl rfl rfl rfl rfl ?_
  refine x_aload_n (pc' := 1) rfl rfl rfl rfl rfl ?_
  refine x_gI (pc' := 4) (x := 1) rfl rfl rfl sI_s ?_
  refine x_reti rfl rfl ?_
  refine sK_i (pc' := 2474) rfl ?_
  refine x_iload (pc' := 2476) rfl rfl rfl ?_
  refine x_icmp (a' := 2481) (pc' := 2479) (z := true) rfl rfl rfl (by decide) (fun _ => ?_) (fun h => by cases h)
  refine x_iload (pc' := 2483) rfl rfl rfl ?_
  refine x_if (a' := 2498) (pc' := 2486) (z := true) rfl rfl rfl (by decide) (fun _ => ?_) (fun h => by cases h)
  refine x_goto (pc' := 2938) rfl rfl ?_
  refine x_iinc (pc' := 2941) (y := 7) (ls' := [_, _, _, _, _, _, _]) rfl rfl rfl rfl rfl ?_
  refine x_goto (pc' := 23) rfl rfl ?_
  refine x_iload (pc' := 25) rfl rfl rfl ?_
  refine x_aload_n (pc' := 26) rfl rfl rfl rfl rfl ?_
  refine x_alen (pc' := 27) (N := 7) rfl rfl rfl (Eq.trans rdNI (Eq.trans rdNthr (z_N_29_0 e))) (?_ : X _ _ _ (.inl 7 :: _) _ _)
  refine x_bipush (pc' := 29) rfl rfl ?_
  refine x_isub (pc' := 30) (z := 0) rfl rfl (by decide) ?_
  refine x_icmp (a' := 2944) (pc' := 33) (z := true) rfl rfl rfl (by decide) (fun _ => ?_) (fun h => by cases h)
  refine x_iconst (pc' := 2945) rfl rfl ?_
  refine x_retz (z := true) rfl rfl ?_
  exact Qp_ok e (p := 1) (q := 6) rfl rfl rfl rfl
set_option maxHeartbeats 4000000 in
set_option maxRecDepth 10000 in
theorem v_32_B_1 {t : sT} {xs : Nat → Int32}
    (e : t = T16 7 xs)
    (hk : ((xs 0) &&& 63) = 32)
    (e0 : ¬ (xs 1) < 0)
    (f0 : ¬ (xs 1) < 6)
    (e1 : xs 2 = 1) :
    X 297 23 [.inr (.inr (29, (some 0))), .inr (.inr (11, (some 0))), .inr (.inr (12, (some 0))), .inr (.inr (23, (some 0))), .inl 0, sJk, sJk] [] t Qp := by
  refine x_iload (pc' := 25) rfl rfl rfl ?_
  refine x_aload_n (pc' := 26) rfl rfl rfl rfl rfl ?_
  refine x_alen (pc' := 27) (N := 7) rfl rfl rfl (z_N_29_0 e) (?_ : X _ _ _ (.inl 7 :: _) _ _)
  refine x_bipush (pc' := 29) rfl rfl ?_
  refine x_isub (pc' := 30) (z := 0) rfl rfl (by decide) ?_
  refine x_icmp (a' := 2944) (pc' := 33) (z := false) rfl rfl rfl (by decide) (fun h => by cases h) (fun _ => ?_)
  refine x_aload_n (pc' := 34) rfl rfl rfl rfl rfl ?_
  refine x_iload (pc' := 36) rfl rfl rfl ?_
  refine x_iald (pc' := 37) (N := 7) (x := (xs 0)) rfl rfl rfl (z_N_29_0 e) (io_in (p := 0) (N := 7) (by decide) (by decide)) (Eq.trans (congrArg (sA t 29 0) (nn_io (p := 0) (by decide))) (z_A_29_0_0 e)) ?_
  refine x_bipush (pc' := 39) rfl rfl ?_
  refine x_iand (pc' := 40) (z := ((xs 0) &&& 63)) rfl rfl rfl ?_
  refine x_switch (pc' := 2433) rfl (by rw [hk]; decide) ?_
  refine x_aload_n (pc' := 2434) rfl rfl rfl rfl rfl ?_
  refine x_aload_n (pc' := 2435) rfl rfl rfl rfl rfl ?_
  refine x_iload (pc' := 2437) rfl rfl rfl ?_
  refine x_iconst (pc' := 2438) rfl rfl ?_
  refine x_iadd (pc' := 2439) (z := 1) rfl rfl (by decide) ?_
  refine x_iald (pc' := 2440) (N := 7) (x := (xs 1)) rfl rfl rfl (z_N_29_0 e) (io_in (p := 1) (N := 7) (by decide) (by decide)) (Eq.trans (congrArg (sA t 29 0) (nn_io (p := 1) (by decide))) (z_A_29_0_1 e)) ?_
  refine x_aload_n (pc' := 2441) rfl rfl rfl rfl rfl ?_
  refine x_iload (pc' := 2443) rfl rfl rfl ?_
  refine x_iconst (pc' := 2444) rfl rfl ?_
  refine x_iadd (pc' := 2445) (z := 2) rfl rfl (by decide) ?_
  refine x_iald (pc' := 2446) (N := 7) (x := 1) rfl rfl rfl (z_N_29_0 e) (io_in (p := 2) (N := 7) (by decide) (by decide)) (Eq.trans (congrArg (sA t 29 0) (nn_io (p := 2) (by decide))) (Eq.trans (z_A_29_0_2 e) e1)) ?_
  refine x_aload_n (pc' := 2447) rfl rfl rfl rfl rfl ?_
  refine x_cs (ls0 := [_, _, _, _, sJk]) (rest := []) rfl rfl rfl rfl ?_
  refine x_aload_n (pc' := 1) rfl rfl rfl rfl rfl ?_
  refine x_iconst (pc' := 2) rfl rfl ?_
  refine x_aload_n (pc' := 3) rfl rfl rfl rfl rfl ?_
  refine x_iload_n (pc' := 4) rfl rfl rfl ?_
  refine x_iload_n (pc' := 5) rfl rfl rfl ?_
  refine x_cv (ls0 := [_, _, _, sJk]) (rest := [_, _]) rfl rfl rfl rfl rfl ?_
  refine x_aload_n (pc' := 1) rfl rfl rfl rfl rfl ?_
  refine x_iload_n (pc' := 2) rfl rfl rfl ?_
  refine x_cv (ls0 := [_, _]) (rest := []) rfl rfl rfl rfl rfl ?_
  refine x_iload_n (pc' := 1) rfl rfl rfl ?_
  refine x_if (a' := 16) (pc' := 4) (z := decide ((xs 1) < 0)) rfl rfl rfl rfl (fun h => absurd (of_decide_eq_true h) e0) (fun _ => ?_)
  refine x_iload_n (pc' := 5) rfl rfl rfl ?_
  refine x_aload_n (pc' := 6) rfl rfl rfl rfl rfl ?_
  refine x_gR (pc' := 9) (r := (some 0)) rfl rfl rfl (z_R_704_0 e) ?_
  refine x_gR (pc' := 12) (r := (some 0)) rfl rfl rfl (z_R_321_0 e) ?_
  refine x_alen (pc' := 13) (N := 6) rfl rfl rfl (z_N_26_0 e) (?_ : X _ _ _ (.inl 6 :: _) _ _)
  refine x_icmp (a' := 27) (pc' := 16) (z := decide ((xs 1) < 6)) rfl rfl rfl rfl (fun h => absurd (of_decide_eq_true h) f0) (fun _ => ?_)
  refine x_throw rfl rfl ?_
  refine sK_n (by decide +kernel) rfl ?_
  refine sK_h (h := 13) (by decide +kernel) rfl ?_
  refine x_catch (pc' := 15) (ls' := [_, _, _, _, _]) rfl rfl rfl rfl ?_
  refine x_iconst (pc' := 16) rfl rfl ?_
  refine x_reti rfl rfl ?_
  refine sK_i (pc' := 2450) rfl ?_
  refine x_istore (pc' := 2452) (ls' := [_, _, _, _, _, _, _]) rfl rfl rfl rfl ?_
  refine x_aload_n (pc' := 2453) rfl rfl rfl rfl rfl ?_
  refine x_aload_n (pc' := 2454) rfl rfl rfl rfl rfl ?_
  refine x_iload (pc' := 2456) rfl rfl rfl ?_
  refine x_iconst (pc' := 2457) rfl rfl ?_
  refine x_iadd (pc' := 2458) (z := 1) rfl rfl (by decide) ?_
  refine x_iald (pc' := 2459) (N := 7) (x := (xs 1)) rfl rfl rfl (Eq.trans rdNthr (z_N_29_0 e)) (io_in (p := 1) (N := 7) (by decide) (by decide)) (Eq.trans (congrArg (sA (sThr t) 29 0) (nn_io (p := 1) (by decide))) (Eq.trans rdAthr (z_A_29_0_1 e))) ?_
  refine x_aload_n (pc' := 2460) rfl rfl rfl rfl rfl ?_
  refine x_iload (pc' := 2462) rfl rfl rfl ?_
  refine x_iconst (pc' := 2463) rfl rfl ?_
  refine x_iadd (pc' := 2464) (z := 2) rfl rfl (by decide) ?_
  refine x_iald (pc' := 2465) (N := 7) (x := 1) rfl rfl rfl (Eq.trans rdNthr (z_N_29_0 e)) (io_in (p := 2) (N := 7) (by decide) (by decide)) (Eq.trans (congrArg (sA (sThr t) 29 0) (nn_io (p := 2) (by decide))) (Eq.trans rdAthr (Eq.trans (z_A_29_0_2 e) e1))) ?_
  refine x_cv (ls0 := [_, _, _]) (rest := []) rfl rfl rfl rfl rfl ?_
  refine x_aload_n (pc' := 1) rfl rfl rfl rfl rfl ?_
  refine x_iload_n (pc' := 2) rfl rfl rfl ?_
  refine x_cs (ls0 := [_]) (rest := [_]) rfl rfl rfl rfl ?_
  refine x_iload_n (pc' := 1) rfl rfl rfl ?_
  refine x_iconst (pc' := 2) rfl rfl ?_
  refine x_iconst (pc' := 3) rfl rfl ?_
  refine x_cs (ls0 := [_, _, _]) (rest := []) rfl rfl rfl rfl ?_
  refine x_iload_n (pc' := 1) rfl rfl rfl ?_
  refine x_iload_n (pc' := 2) rfl rfl rfl ?_
  refine x_icmp (a' := 14) (pc' := 5) (z := decide ((xs 1) < 0)) rfl rfl rfl rfl (fun h => absurd (of_decide_eq_true h) e0) (fun _ => ?_)
  refine x_iload_n (pc' := 6) rfl rfl rfl ?_
  refine x_iload_n (pc' := 7) rfl rfl rfl ?_
  refine x_icmp (a' := 14) (pc' := 10) (z := decide (5 < (xs 1))) rfl rfl rfl rfl (fun _ => ?_) (fun h => absurd (lt_of6 f0) (of_decide_eq_false h))
  refine x_iconst (pc' := 15) rfl rfl ?_
  refine x_retz (z := false) rfl rfl ?_
  refine sK_i (pc' := 6) rfl ?_
  refine x_retz (z := false) rfl rfl ?_
  refine sK_i (pc' := 5) rfl ?_
  refine x_if (a' := 19) (pc' := 8) (z := true) rfl rfl rfl (by decide) (fun _ => ?_) (fun h => by cases h)
  refine x_iconst (pc' := 20) rfl rfl ?_
  refine x_cv (ls0 := [_, _]) (rest := []) rfl rfl rfl rfl rfl ?_
  refine x_aload_n (pc' := 1) rfl rfl rfl rfl rfl ?_
  refine x_iload_n (pc' := 2) rfl rfl rfl ?_
  refine x_pI (pc' := 5) rfl rfl rfl ?_
  refine x_iload_n (pc' := 6) rfl rfl rfl ?_
  refine x_if (a' := 13) (pc' := 9) (z := true) rfl rfl rfl (by decide) (fun _ => ?_) (fun h => by cases h)
  refine x_iconst (pc' := 14) rfl rfl ?_
  refine x_retz (z := false) rfl rfl ?_
  refine sK_i (pc' := 23) rfl ?_
  refine x_if (a' := 39) (pc' := 26) (z := true) rfl rfl rfl (by decide) (fun _ => ?_) (fun h => by cases h)
  refine x_iconst (pc' := 40) rfl rfl ?_
  refine x_reti rfl rfl ?_
  refine sK_i (pc' := 2468) rfl ?_
  refine x_istore (pc' := 2470) (ls' := [_, _, _, _, _, _, _]) rfl rfl rfl rfl ?_
  refine x_aload_n (pc' := 2471) rfl rfl rfl rfl rfl ?_
  refine x_cv (ls0 := [_]) (rest := []) rfl rfl rfl rfl rfl ?_
  refine x_aload_n (pc' := 1) rfl rfl rfl rfl rfl ?_
  refine x_gI (pc' := 4) (x := 1) rfl rfl rfl sI_s ?_
  refine x_reti rfl rfl ?_
  refine sK_i (pc' := 2474) rfl ?_
  refine x_iload (pc' := 2476) rfl rfl rfl ?_
  refine x_icmp (a' := 2481) (pc' := 2479) (z := true) rfl rfl rfl (by decide) (fun _ => ?_) (fun h => by cases h)
  refine x_iload (pc' := 2483) rfl rfl rfl ?_
  refine x_if (a' := 2498) (pc' := 2486) (z := true) rfl rfl rfl (by decide) (fun _ => ?_) (fun h => by cases h)
  refine x_goto (pc' := 2938) rfl rfl ?_
  refine x_iinc (pc' := 2941) (y := 7) (ls' := [_, _, _, _, _, _, _]) rfl rfl rfl rfl rfl ?_
  refine x_goto (pc' := 23) rfl rfl ?_
  refine x_iload (pc' := 25) rfl rfl rfl ?_
  refine x_aload_n (pc' := 26) rfl rfl rfl rfl rfl ?_
  refine x_alen (pc' := 27) (N := 7) rfl rfl rfl (Eq.trans rdNI (Eq.trans rdNthr (z_N_29_0 e))) (?_ : X _ _ _ (.inl 7 :: _) _ _)
  refine x_bipush (pc' := 29) rfl rfl ?_
  refine x_isub (pc' := 30) (z := 0) rfl rfl (by decide) ?_
  refine x_icmp (a' := 2944) (pc' := 33) (z := true) rfl rfl rfl (by decide) (fun _ => ?_) (fun h => by cases h)
  refine x_iconst (pc' := 2945) rfl rfl ?_
  refine x_retz (z := true) rfl rfl ?_
  exact Qp_ok e (p := 1) (q := 6) rfl rfl rfl rfl
set_option maxHeartbeats 4000000 in
set_option maxRecDepth 10000 in
theorem v_32_B_2 {t : sT} {xs : Nat → Int32}
    (e : t = T16 7 xs)
    (hk : ((xs 0) &&& 63) = 32)
    (e0 : ¬ (xs 1) < 0)
    (f0 : ¬ (xs 1) < 6)
    (e1 : xs 2 = 2) :
    X 297 23 [.inr (.inr (29, (some 0))), .inr (.inr (11, (some 0))), .inr (.inr (12, (some 0))), .inr (.inr (23, (some 0))), .inl 0, sJk, sJk] [] t Qp := by
  refine x_iload (pc' := 25) rfl rfl rfl ?_
  refine x_aload_n (pc' := 26) rfl rfl rfl rfl rfl ?_
  refine x_alen (pc' := 27) (N := 7) rfl rfl rfl (z_N_29_0 e) (?_ : X _ _ _ (.inl 7 :: _) _ _)
  refine x_bipush (pc' := 29) rfl rfl ?_
  refine x_isub (pc' := 30) (z := 0) rfl rfl (by decide) ?_
  refine x_icmp (a' := 2944) (pc' := 33) (z := false) rfl rfl rfl (by decide) (fun h => by cases h) (fun _ => ?_)
  refine x_aload_n (pc' := 34) rfl rfl rfl rfl rfl ?_
  refine x_iload (pc' := 36) rfl rfl rfl ?_
  refine x_iald (pc' := 37) (N := 7) (x := (xs 0)) rfl rfl rfl (z_N_29_0 e) (io_in (p := 0) (N := 7) (by decide) (by decide)) (Eq.trans (congrArg (sA t 29 0) (nn_io (p := 0) (by decide))) (z_A_29_0_0 e)) ?_
  refine x_bipush (pc' := 39) rfl rfl ?_
  refine x_iand (pc' := 40) (z := ((xs 0) &&& 63)) rfl rfl rfl ?_
  refine x_switch (pc' := 2433) rfl (by rw [hk]; decide) ?_
  refine x_aload_n (pc' := 2434) rfl rfl rfl rfl rfl ?_
  refine x_aload_n (pc' := 2435) rfl rfl rfl rfl rfl ?_
  refine x_iload (pc' := 2437) rfl rfl rfl ?_
  refine x_iconst (pc' := 2438) rfl rfl ?_
  refine x_iadd (pc' := 2439) (z := 1) rfl rfl (by decide) ?_
  refine x_iald (pc' := 2440) (N := 7) (x := (xs 1)) rfl rfl rfl (z_N_29_0 e) (io_in (p := 1) (N := 7) (by decide) (by decide)) (Eq.trans (congrArg (sA t 29 0) (nn_io (p := 1) (by decide))) (z_A_29_0_1 e)) ?_
  refine x_aload_n (pc' := 2441) rfl rfl rfl rfl rfl ?_
  refine x_iload (pc' := 2443) rfl rfl rfl ?_
  refine x_iconst (pc' := 2444) rfl rfl ?_
  refine x_iadd (pc' := 2445) (z := 2) rfl rfl (by decide) ?_
  refine x_iald (pc' := 2446) (N := 7) (x := 2) rfl rfl rfl (z_N_29_0 e) (io_in (p := 2) (N := 7) (by decide) (by decide)) (Eq.trans (congrArg (sA t 29 0) (nn_io (p := 2) (by decide))) (Eq.trans (z_A_29_0_2 e) e1)) ?_
  refine x_aload_n (pc' := 2447) rfl rfl rfl rfl rfl ?_
  refine x_cs (ls0 := [_, _, _, _, sJk]) (rest := []) rfl rfl rfl rfl ?_
  refine x_aload_n (pc' := 1) rfl rfl rfl rfl rfl ?_
  refine x_iconst (pc' := 2) rfl rfl ?_
  refine x_aload_n (pc' := 3) rfl rfl rfl rfl rfl ?_
  refine x_iload_n (pc' := 4) rfl rfl rfl ?_
  refine x_iload_n (pc' := 5) rfl rfl rfl ?_
  refine x_cv (ls0 := [_, _, _, sJk]) (rest := [_, _]) rfl rfl rfl rfl rfl ?_
  refine x_aload_n (pc' := 1) rfl rfl rfl rfl rfl ?_
  refine x_iload_n (pc' := 2) rfl rfl rfl ?_
  refine x_cv (ls0 := [_, _]) (rest := []) rfl rfl rfl rfl rfl ?_
  refine x_iload_n (pc' := 1) rfl rfl rfl ?_
  refine x_if (a' := 16) (pc' := 4) (z := decide ((xs 1) < 0)) rfl rfl rfl rfl (fun h => absurd (of_decide_eq_true h) e0) (fun _ => ?_)
  refine x_iload_n (pc' := 5) rfl rfl rfl ?_
  refine x_aload_n (pc' := 6) rfl rfl rfl rfl rfl ?_
  refine x_gR (pc' := 9) (r := (some 0)) rfl rfl rfl (z_R_704_0 e) ?_
  refine x_gR (pc' := 12) (r := (some 0)) rfl rfl rfl (z_R_321_0 e) ?_
  refine x_alen (pc' := 13) (N := 6) rfl rfl rfl (z_N_26_0 e) (?_ : X _ _ _ (.inl 6 :: _) _ _)
  refine x_icmp (a' := 27) (pc' := 16) (z := decide ((xs 1) < 6)) rfl rfl rfl rfl (fun h => absurd (of_decide_eq_true h) f0) (fun _ => ?_)
  refine x_throw rfl rfl ?_
  refine sK_n (by decide +kernel) rfl ?_
  refine sK_h (h := 13) (by decide +kernel) rfl ?_
  refine x_catch (pc' := 15) (ls' := [_, _, _, _, _]) rfl rfl rfl rfl ?_
  refine x_iconst (pc' := 16) rfl rfl ?_
  refine x_reti rfl rfl ?_
  refine sK_i (pc' := 2450) rfl ?_
  refine x_istore (pc' := 2452) (ls' := [_, _, _, _, _, _, _]) rfl rfl rfl rfl ?_
  refine x_aload_n (pc' := 2453) rfl rfl rfl rfl rfl ?_
  refine x_aload_n (pc' := 2454) rfl rfl rfl rfl rfl ?_
  refine x_iload (pc' := 2456) rfl rfl rfl ?_
  refine x_iconst (pc' := 2457) rfl rfl ?_
  refine x_iadd (pc' := 2458) (z := 1) rfl rfl (by decide) ?_
  refine x_iald (pc' := 2459) (N := 7) (x := (xs 1)) rfl rfl rfl (Eq.trans rdNthr (z_N_29_0 e)) (io_in (p := 1) (N := 7) (by decide) (by decide)) (Eq.trans (congrArg (sA (sThr t) 29 0) (nn_io (p := 1) (by decide))) (Eq.trans rdAthr (z_A_29_0_1 e))) ?_
  refine x_aload_n (pc' := 2460) rfl rfl rfl rfl rfl ?_
  refine x_iload (pc' := 2462) rfl rfl rfl ?_
  refine x_iconst (pc' := 2463) rfl rfl ?_
  refine x_iadd (pc' := 2464) (z := 2) rfl rfl (by decide) ?_
  refine x_iald (pc' := 2465) (N := 7) (x := 2) rfl rfl rfl (Eq.trans rdNthr (z_N_29_0 e)) (io_in (p := 2) (N := 7) (by decide) (by decide)) (Eq.trans (congrArg (sA (sThr t) 29 0) (nn_io (p := 2) (by decide))) (Eq.trans rdAthr (Eq.trans (z_A_29_0_2 e) e1))) ?_
  refine x_cv (ls0 := [_, _, _]) (rest := []) rfl rfl rfl rfl rfl ?_
  refine x_aload_n (pc' := 1) rfl rfl rfl rfl rfl ?_
  refine x_iload_n (pc' := 2) rfl rfl rfl ?_
  refine x_cs (ls0 := [_]) (rest := [_]) rfl rfl rfl rfl ?_
  refine x_iload_n (pc' := 1) rfl rfl rfl ?_
  refine x_iconst (pc' := 2) rfl rfl ?_
  refine x_iconst (pc' := 3) rfl rfl ?_
  refine x_cs (ls0 := [_, _, _]) (rest := []) rfl rfl rfl rfl ?_
  refine x_iload_n (pc' := 1) rfl rfl rfl ?_
  refine x_iload_n (pc' := 2) rfl rfl rfl ?_
  refine x_icmp (a' := 14) (pc' := 5) (z := decide ((xs 1) < 0)) rfl rfl rfl rfl (fun h => absurd (of_decide_eq_true h) e0) (fun _ => ?_)
  refine x_iload_n (pc' := 6) rfl rfl rfl ?_
  refine x_iload_n (pc' := 7) rfl rfl rfl ?_
  refine x_icmp (a' := 14) (pc' := 10) (z := decide (5 < (xs 1))) rfl rfl rfl rfl (fun _ => ?_) (fun h => absurd (lt_of6 f0) (of_decide_eq_false h))
  refine x_iconst (pc' := 15) rfl rfl ?_
  refine x_retz (z := false) rfl rfl ?_
  refine sK_i (pc' := 6) rfl ?_
  refine x_retz (z := false) rfl rfl ?_
  refine sK_i (pc' := 5) rfl ?_
  refine x_if (a' := 19) (pc' := 8) (z := true) rfl rfl rfl (by decide) (fun _ => ?_) (fun h => by cases h)
  refine x_iconst (pc' := 20) rfl rfl ?_
  refine x_cv (ls0 := [_, _]) (rest := []) rfl rfl rfl rfl rfl ?_
  refine x_aload_n (pc' := 1) rfl rfl rfl rfl rfl ?_
  refine x_iload_n (pc' := 2) rfl rfl rfl ?_
  refine x_pI (pc' := 5) rfl rfl rfl ?_
  refine x_iload_n (pc' := 6) rfl rfl rfl ?_
  refine x_if (a' := 13) (pc' := 9) (z := true) rfl rfl rfl (by decide) (fun _ => ?_) (fun h => by cases h)
  refine x_iconst (pc' := 14) rfl rfl ?_
  refine x_retz (z := false) rfl rfl ?_
  refine sK_i (pc' := 23) rfl ?_
  refine x_if (a' := 39) (pc' := 26) (z := true) rfl rfl rfl (by decide) (fun _ => ?_) (fun h => by cases h)
  refine x_iconst (pc' := 40) rfl rfl ?_
  refine x_reti rfl rfl ?_
  refine sK_i (pc' := 2468) rfl ?_
  refine x_istore (pc' := 2470) (ls' := [_, _, _, _, _, _, _]) rfl rfl rfl rfl ?_
  refine x_aload_n (pc' := 2471) rfl rfl rfl rfl rfl ?_
  refine x_cv (ls0 := [_]) (rest := []) rfl rfl rfl rfl rfl ?_
  refine x_aload_n (pc' := 1) rfl rfl rfl rfl rfl ?_
  refine x_gI (pc' := 4) (x := 1) rfl rfl rfl sI_s ?_
  refine x_reti rfl rfl ?_
  refine sK_i (pc' := 2474) rfl ?_
  refine x_iload (pc' := 2476) rfl rfl rfl ?_
  refine x_icmp (a' := 2481) (pc' := 2479) (z := true) rfl rfl rfl (by decide) (fun _ => ?_) (fun h => by cases h)
  refine x_iload (pc' := 2483) rfl rfl rfl ?_
  refine x_if (a' := 2498) (pc' := 2486) (z := true) rfl rfl rfl (by decide) (fun _ => ?_) (fun h => by cases h)
  refine x_goto (pc' := 2938) rfl rfl ?_
  refine x_iinc (pc' := 2941) (y := 7) (ls' := [_, _, _, _, _, _, _]) rfl rfl rfl rfl rfl ?_
  refine x_goto (pc' := 23) rfl rfl ?_
  refine x_iload (pc' := 25) rfl rfl rfl ?_
  refine x_aload_n (pc' := 26) rfl rfl rfl rfl rfl ?_
  refine x_alen (pc' := 27) (N := 7) rfl rfl rfl (Eq.trans rdNI (Eq.trans rdNthr (z_N_29_0 e))) (?_ : X _ _ _ (.inl 7 :: _) _ _)
  refine x_bipush (pc' := 29) rfl rfl ?_
  refine x_isub (pc' := 30) (z := 0) rfl rfl (by decide) ?_
  refine x_icmp (a' := 2944) (pc' := 33) (z := true) rfl rfl rfl (by decide) (fun _ => ?_) (fun h => by cases h)
  refine x_iconst (pc' := 2945) rfl rfl ?_
  refine x_retz (z := true) rfl rfl ?_
  exact Qp_ok e (p := 1) (q := 6) rfl rfl rfl rfl
set_option maxHeartbeats 4000000 in
set_option maxRecDepth 10000 in
theorem v_32_B_A {t : sT} {xs : Nat → Int32}
    (e : t = T16 7 xs)
    (hk : ((xs 0) &&& 63) = 32)
    (e0 : ¬ (xs 1) < 0)
    (f0 : ¬ (xs 1) < 6)
    (e1 : (xs 2) < 0) :
    X 297 23 [.inr (.inr (29, (some 0))), .inr (.inr (11, (some 0))), .inr (.inr (12, (some 0))), .inr (.inr (23, (some 0))), .inl 0, sJk, sJk] [] t Qp := by
  refine x_iload (pc' := 25) rfl rfl rfl ?_
  refine x_aload_n (pc' := 26) rfl rfl rfl rfl rfl ?_
  refine x_alen (pc' := 27) (N := 7) rfl rfl rfl (z_N_29_0 e) (?_ : X _ _ _ (.inl 7 :: _) _ _)
  refine x_bipush (pc' := 29) rfl rfl ?_
  refine x_isub (pc' := 30) (z := 0) rfl rfl (by decide) ?_
  refine x_icmp (a' := 2944) (pc' := 33) (z := false) rfl rfl rfl (by decide) (fun h => by cases h) (fun _ => ?_)
  refine x_aload_n (pc' := 34) rfl rfl rfl rfl rfl ?_
  refine x_iload (pc' := 36) rfl rfl rfl ?_
  refine x_iald (pc' := 37) (N := 7) (x := (xs 0)) rfl rfl rfl (z_N_29_0 e) (io_in (p := 0) (N := 7) (by decide) (by decide)) (Eq.trans (congrArg (sA t 29 0) (nn_io (p := 0) (by decide))) (z_A_29_0_0 e)) ?_
  refine x_bipush (pc' := 39) rfl rfl ?_
  refine x_iand (pc' := 40) (z := ((xs 0) &&& 63)) rfl rfl rfl ?_
  refine x_switch (pc' := 2433) rfl (by rw [hk]; decide) ?_
  refine x_aload_n (pc' := 2434) rfl rfl rfl rfl rfl ?_
  refine x_aload_n (pc' := 2435) rfl rfl rfl rfl rfl ?_
  refine x_iload (pc' := 2437) rfl rfl rfl ?_
  refine x_iconst (pc' := 2438) rfl rfl ?_
  refine x_iadd (pc' := 2439) (z := 1) rfl rfl (by decide) ?_
  refine x_iald (pc' := 2440) (N := 7) (x := (xs 1)) rfl rfl rfl (z_N_29_0 e) (io_in (p := 1) (N := 7) (by decide) (by decide)) (Eq.trans (congrArg (sA t 29 0) (nn_io (p := 1) (by decide))) (z_A_29_0_1 e)) ?_
  refine x_aload_n (pc' := 2441) rfl rfl rfl rfl rfl ?_
  refine x_iload (pc' := 2443) rfl rfl rfl ?_
  refine x_iconst (pc' := 2444) rfl rfl ?_
  refine x_iadd (pc' := 2445) (z := 2) rfl rfl (by decide) ?_
  refine x_iald (pc' := 2446) (N := 7) (x := (xs 2)) rfl rfl rfl (z_N_29_0 e) (io_in (p := 2) (N := 7) (by decide) (by decide)) (Eq.trans (congrArg (sA t 29 0) (nn_io (p := 2) (by decide))) (z_A_29_0_2 e)) ?_
  refine x_aload_n (pc' := 2447) rfl rfl rfl rfl rfl ?_
  refine x_cs (ls0 := [_, _, _, _, sJk]) (rest := []) rfl rfl rfl rfl ?_
  refine x_aload_n (pc' := 1) rfl rfl rfl rfl rfl ?_
  refine x_iconst (pc' := 2) rfl rfl ?_
  refine x_aload_n (pc' := 3) rfl rfl rfl rfl rfl ?_
  refine x_iload_n (pc' := 4) rfl rfl rfl ?_
  refine x_iload_n (pc' := 5) rfl rfl rfl ?_
  refine x_cv (ls0 := [_, _, _, sJk]) (rest := [_, _]) rfl rfl rfl rfl rfl ?_
  refine x_aload_n (pc' := 1) rfl rfl rfl rfl rfl ?_
  refine x_iload_n (pc' := 2) rfl rfl rfl ?_
  refine x_cv (ls0 := [_, _]) (rest := []) rfl rfl rfl rfl rfl ?_
  refine x_iload_n (pc' := 1) rfl rfl rfl ?_
  refine x_if (a' := 16) (pc' := 4) (z := decide ((xs 1) < 0)) rfl rfl rfl rfl (fun h => absurd (of_decide_eq_true h) e0) (fun _ => ?_)
  refine x_iload_n (pc' := 5) rfl rfl rfl ?_
  refine x_aload_n (pc' := 6) rfl rfl rfl rfl rfl ?_
  refine x_gR (pc' := 9) (r := (some 0)) rfl rfl rfl (z_R_704_0 e) ?_
  refine x_gR (pc' := 12) (r := (some 0)) rfl rfl rfl (z_R_321_0 e) ?_
  refine x_alen (pc' := 13) (N := 6) rfl rfl rfl (z_N_26_0 e) (?_ : X _ _ _ (.inl 6 :: _) _ _)
  refine x_icmp (a' := 27) (pc' := 16) (z := decide ((xs 1) < 6)) rfl rfl rfl rfl (fun h => absurd (of_decide_eq_true h) f0) (fun _ => ?_)
  refine x_throw rfl rfl ?_
  refine sK_n (by decide +kernel) rfl ?_
  refine sK_h (h := 13) (by decide +kernel) rfl ?_
  refine x_catch (pc' := 15) (ls' := [_, _, _, _, _]) rfl rfl rfl rfl ?_
  refine x_iconst (pc' := 16) rfl rfl ?_
  refine x_reti rfl rfl ?_
  refine sK_i (pc' := 2450) rfl ?_
  refine x_istore (pc' := 2452) (ls' := [_, _, _, _, _, _, _]) rfl rfl rfl rfl ?_
  refine x_aload_n (pc' := 2453) rfl rfl rfl rfl rfl ?_
  refine x_aload_n (pc' := 2454) rfl rfl rfl rfl rfl ?_
  refine x_iload (pc' := 2456) rfl rfl rfl ?_
  refine x_iconst (pc' := 2457) rfl rfl ?_
  refine x_iadd (pc' := 2458) (z := 1) rfl rfl (by decide) ?_
  refine x_iald (pc' := 2459) (N := 7) (x := (xs 1)) rfl rfl rfl (Eq.trans rdNthr (z_N_29_0 e)) (io_in (p := 1) (N := 7) (by decide) (by decide)) (Eq.trans (congrArg (sA (sThr t) 29 0) (nn_io (p := 1) (by decide))) (Eq.trans rdAthr (z_A_29_0_1 e))) ?_
  refine x_aload_n (pc' := 2460) rfl rfl rfl rfl rfl ?_
  refine x_iload (pc' := 2462) rfl rfl rfl ?_
  refine x_iconst (pc' := 2463) rfl rfl ?_
  refine x_iadd (pc' := 2464) (z := 2) rfl rfl (by decide) ?_
  refine x_iald (pc' := 2465) (N := 7) (x := (xs 2)) rfl rfl rfl (Eq.trans rdNthr (z_N_29_0 e)) (io_in (p := 2) (N := 7) (by decide) (by decide)) (Eq.trans (congrArg (sA (sThr t) 29 0) (nn_io (p := 2) (by decide))) (Eq.trans rdAthr (z_A_29_0_2 e))) ?_
  refine x_cv (ls0 := [_, _, _]) (rest := []) rfl rfl rfl rfl rfl ?_
  refine x_aload_n (pc' := 1) rfl rfl rfl rfl rfl ?_
  refine x_iload_n (pc' := 2) rfl rfl rfl ?_
  refine x_cs (ls0 := [_]) (rest := [_]) rfl rfl rfl rfl ?_
  refine x_iload_n (pc' := 1) rfl rfl rfl ?_
  refine x_iconst (pc' := 2) rfl rfl ?_
  refine x_iconst (pc' := 3) rfl rfl ?_
  refine x_cs (ls0 := [_, _, _]) (rest := []) rfl rfl rfl rfl ?_
  refine x_iload_n (pc' := 1) rfl rfl rfl ?_
  refine x_iload_n (pc' := 2) rfl rfl rfl ?_
  refine x_icmp (a' := 14) (pc' := 5) (z := decide ((xs 1) < 0)) rfl rfl rfl rfl (fun h => absurd (of_decide_eq_true h) e0) (fun _ => ?_)
  refine x_iload_n (pc' := 6) rfl rfl rfl ?_
  refine x_iload_n (pc' := 7) rfl rfl rfl ?_
  refine x_icmp (a' := 14) (pc' := 10) (z := decide (5 < (xs 1))) rfl rfl rfl rfl (fun _ => ?_) (fun h => absurd (lt_of6 f0) (of_decide_eq_false h))
  refine x_iconst (pc' := 15) rfl rfl ?_
  refine x_retz (z := false) rfl rfl ?_
  refine sK_i (pc' := 6) rfl ?_
  refine x_retz (z := false) rfl rfl ?_
  refine sK_i (pc' := 5) rfl ?_
  refine x_if (a' := 19) (pc' := 8) (z := true) rfl rfl rfl (by decide) (fun _ => ?_) (fun h => by cases h)
  refine x_iconst (pc' := 20) rfl rfl ?_
  refine x_cv (ls0 := [_, _]) (rest := []) rfl rfl rfl rfl rfl ?_
  refine x_aload_n (pc' := 1) rfl rfl rfl rfl rfl ?_
  refine x_iload_n (pc' := 2) rfl rfl rfl ?_
  refine x_pI (pc' := 5) rfl rfl rfl ?_
  refine x_iload_n (pc' := 6) rfl rfl rfl ?_
  refine x_if (a' := 13) (pc' := 9) (z := true) rfl rfl rfl (by decide) (fun _ => ?_) (fun h => by cases h)
  refine x_iconst (pc' := 14) rfl rfl ?_
  refine x_retz (z := false) rfl rfl ?_
  refine sK_i (pc' := 23) rfl ?_
  refine x_if (a' := 39) (pc' := 26) (z := true) rfl rfl rfl (by decide) (fun _ => ?_) (fun h => by cases h)
  refine x_iconst (pc' := 40) rfl rfl ?_
  refine x_reti rfl rfl ?_
  refine sK_i (pc' := 2468) rfl ?_
  refine x_istore (pc' := 2470) (ls' := [_, _, _, _, _, _, _]) rfl rfl rfl rfl ?_
  refine x_aload_n (pc' := 2471) rfl rfl rfl rfl rfl ?_
  refine x_cv (ls0 := [_]) (rest := []) rfl rfl rfl rfl rfl ?_
  refine x_aload_n (pc' := 1) rfl rfl rfl rfl rfl ?_
  refine x_gI (pc' := 4) (x := 1) rfl rfl rfl sI_s ?_
  refine x_reti rfl rfl ?_
  refine sK_i (pc' := 2474) rfl ?_
  refine x_iload (pc' := 2476) rfl rfl rfl ?_
  refine x_icmp (a' := 2481) (pc' := 2479) (z := true) rfl rfl rfl (by decide) (fun _ => ?_) (fun h => by cases h)
  refine x_iload (pc' := 2483) rfl rfl rfl ?_
  refine x_if (a' := 2498) (pc' := 2486) (z := true) rfl rfl rfl (by decide) (fun _ => ?_) (fun h => by cases h)
  refine x_goto (pc' := 2938) rfl rfl ?_
  refine x_iinc (pc' := 2941) (y := 7) (ls' := [_, _, _, _, _, _, _]) rfl rfl rfl rfl rfl ?_
  refine x_goto (pc' := 23) rfl rfl ?_
  refine x_iload (pc' := 25) rfl rfl rfl ?_
  refine x_aload_n (pc' := 26) rfl rfl rfl rfl rfl ?_
  refine x_alen (pc' := 27) (N := 7) rfl rfl rfl (Eq.trans rdNI (Eq.trans rdNthr (z_N_29_0 e))) (?_ : X _ _ _ (.inl 7 :: _) _ _)
  refine x_bipush (pc' := 29) rfl rfl ?_
  refine x_isub (pc' := 30) (z := 0) rfl rfl (by decide) ?_
  refine x_icmp (a' := 2944) (pc' := 33) (z := true) rfl rfl rfl (by decide) (fun _ => ?_) (fun h => by cases h)
  refine x_iconst (pc' := 2945) rfl rfl ?_
  refine x_retz (z := true) rfl rfl ?_
  exact Qp_ok e (p := 1) (q := 6) rfl rfl rfl rfl
set_option maxHeartbeats 4000000 in
set_option maxRecDepth 10000 in
theorem v_32_B_B {t : sT} {xs : Nat → Int32}
    (e : t = T16 7 xs)
    (hk : ((xs 0) &&& 63) = 32)
    (e0 : ¬ (xs 1) < 0)
    (f0 : ¬ (xs 1) < 6)
    (e1 : ¬ (xs 2) < 0)
    (f1 : ¬ (xs 2) < 3) :
    X 297 23 [.inr (.inr (29, (some 0))), .inr (.inr (11, (some 0))), .inr (.inr (12, (some 0))), .inr (.inr (23, (some 0))), .inl 0, sJk, sJk] [] t Qp := by
  refine x_iload (pc' := 25) rfl rfl rfl ?_
  refine x_aload_n (pc' := 26) rfl rfl rfl rfl rfl ?_
  refine x_alen (pc' := 27) (N := 7) rfl rfl rfl (z_N_29_0 e) (?_ : X _ _ _ (.inl 7 :: _) _ _)
  refine x_bipush (pc' := 29) rfl rfl ?_
  refine x_isub (pc' := 30) (z := 0) rfl rfl (by decide) ?_
  refine x_icmp (a' := 2944) (pc' := 33) (z := false) rfl rfl rfl (by decide) (fun h => by cases h) (fun _ => ?_)
  refine x_aload_n (pc' := 34) rfl rfl rfl rfl rfl ?_
  refine x_iload (pc' := 36) rfl rfl rfl ?_
  refine x_iald (pc' := 37) (N := 7) (x := (xs 0)) rfl rfl rfl (z_N_29_0 e) (io_in (p := 0) (N := 7) (by decide) (by decide)) (Eq.trans (congrArg (sA t 29 0) (nn_io (p := 0) (by decide))) (z_A_29_0_0 e)) ?_
  refine x_bipush (pc' := 39) rfl rfl ?_
  refine x_iand (pc' := 40) (z := ((xs 0) &&& 63)) rfl rfl rfl ?_
  refine x_switch (pc' := 2433) rfl (by rw [hk]; decide) ?_
  refine x_aload_n (pc' := 2434) rfl rfl rfl rfl rfl ?_
  refine x_aload_n (pc' := 2435) rfl rfl rfl rfl rfl ?_
  refine x_iload (pc' := 2437) rfl rfl rfl ?_
  refine x_iconst (pc' := 2438) rfl rfl ?_
  refine x_iadd (pc' := 2439) (z := 1) rfl rfl (by decide) ?_
  refine x_iald (pc' := 2440) (N := 7) (x := (xs 1)) rfl rfl rfl (z_N_29_0 e) (io_in (p := 1) (N := 7) (by decide) (by decide)) (Eq.trans (congrArg (sA t 29 0) (nn_io (p := 1) (by decide))) (z_A_29_0_1 e)) ?_
  refine x_aload_n (pc' := 2441) rfl rfl rfl rfl rfl ?_
  refine x_iload (pc' := 2443) rfl rfl rfl ?_
  refine x_iconst (pc' := 2444) rfl rfl ?_
  refine x_iadd (pc' := 2445) (z := 2) rfl rfl (by decide) ?_
  refine x_iald (pc' := 2446) (N := 7) (x := (xs 2)) rfl rfl rfl (z_N_29_0 e) (io_in (p := 2) (N := 7) (by decide) (by decide)) (Eq.trans (congrArg (sA t 29 0) (nn_io (p := 2) (by decide))) (z_A_29_0_2 e)) ?_
  refine x_aload_n (pc' := 2447) rfl rfl rfl rfl rfl ?_
  refine x_cs (ls0 := [_, _, _, _, sJk]) (rest := []) rfl rfl rfl rfl ?_
  refine x_aload_n (pc' := 1) rfl rfl rfl rfl rfl ?_
  refine x_iconst (pc' := 2) rfl rfl ?_
  refine x_aload_n (pc' := 3) rfl rfl rfl rfl rfl ?_
  refine x_iload_n (pc' := 4) rfl rfl rfl ?_
  refine x_iload_n (pc' := 5) rfl rfl rfl ?_
  refine x_cv (ls0 := [_, _, _, sJk]) (rest := [_, _]) rfl rfl rfl rfl rfl ?_
  refine x_aload_n (pc' := 1) rfl rfl rfl rfl rfl ?_
  refine x_iload_n (pc' := 2) rfl rfl rfl ?_
  refine x_cv (ls0 := [_, _]) (rest := []) rfl rfl rfl rfl rfl ?_
  refine x_iload_n (pc' := 1) rfl rfl rfl ?_
  refine x_if (a' := 16) (pc' := 4) (z := decide ((xs 1) < 0)) rfl rfl rfl rfl (fun h => absurd (of_decide_eq_true h) e0) (fun _ => ?_)
  refine x_iload_n (pc' := 5) rfl rfl rfl ?_
  refine x_aload_n (pc' := 6) rfl rfl rfl rfl rfl ?_
  refine x_gR (pc' := 9) (r := (some 0)) rfl rfl rfl (z_R_704_0 e) ?_
  refine x_gR (pc' := 12) (r := (some 0)) rfl rfl rfl (z_R_321_0 e) ?_
  refine x_alen (pc' := 13) (N := 6) rfl rfl rfl (z_N_26_0 e) (?_ : X _ _ _ (.inl 6 :: _) _ _)
  refine x_icmp (a' := 27) (pc' := 16) (z := decide ((xs 1) < 6)) rfl rfl rfl rfl (fun h => absurd (of_decide_eq_true h) f0) (fun _ => ?_)
  refine x_throw rfl rfl ?_
  refine sK_n (by decide +kernel) rfl ?_
  refine sK_h (h := 13) (by decide +kernel) rfl ?_
  refine x_catch (pc' := 15) (ls' := [_, _, _, _, _]) rfl rfl rfl rfl ?_
  refine x_iconst (pc' := 16) rfl rfl ?_
  refine x_reti rfl rfl ?_
  refine sK_i (pc' := 2450) rfl ?_
  refine x_istore (pc' := 2452) (ls' := [_, _, _, _, _, _, _]) rfl rfl rfl rfl ?_
  refine x_aload_n (pc' := 2453) rfl rfl rfl rfl rfl ?_
  refine x_aload_n (pc' := 2454) rfl rfl rfl rfl rfl ?_
  refine x_iload (pc' := 2456) rfl rfl rfl ?_
  refine x_iconst (pc' := 2457) rfl rfl ?_
  refine x_iadd (pc' := 2458) (z := 1) rfl rfl (by decide) ?_
  refine x_iald (pc' := 2459) (N := 7) (x := (xs 1)) rfl rfl rfl (Eq.trans rdNthr (z_N_29_0 e)) (io_in (p := 1) (N := 7) (by decide) (by decide)) (Eq.trans (congrArg (sA (sThr t) 29 0) (nn_io (p := 1) (by decide))) (Eq.trans rdAthr (z_A_29_0_1 e))) ?_
  refine x_aload_n (pc' := 2460) rfl rfl rfl rfl rfl ?_
  refine x_iload (pc' := 2462) rfl rfl rfl ?_
  refine x_iconst (pc' := 2463) rfl rfl ?_
  refine x_iadd (pc' := 2464) (z := 2) rfl rfl (by decide) ?_
  refine x_iald (pc' := 2465) (N := 7) (x := (xs 2)) rfl rfl rfl (Eq.trans rdNthr (z_N_29_0 e)) (io_in (p := 2) (N := 7) (by decide) (by decide)) (Eq.trans (congrArg (sA (sThr t) 29 0) (nn_io (p := 2) (by decide))) (Eq.trans rdAthr (z_A_29_0_2 e))) ?_
  refine x_cv (ls0 := [_, _, _]) (rest := []) rfl rfl rfl rfl rfl ?_
  refine x_aload_n (pc' := 1) rfl rfl rfl rfl rfl ?_
  refine x_iload_n (pc' := 2) rfl rfl rfl ?_
  refine x_cs (ls0 := [_]) (rest := [_]) rfl rfl rfl rfl ?_
  refine x_iload_n (pc' := 1) rfl rfl rfl ?_
  refine x_iconst (pc' := 2) rfl rfl ?_
  refine x_iconst (pc' := 3) rfl rfl ?_
  refine x_cs (ls0 := [_, _, _]) (rest := []) rfl rfl rfl rfl ?_
  refine x_iload_n (pc' := 1) rfl rfl rfl ?_
  refine x_iload_n (pc' := 2) rfl rfl rfl ?_
  refine x_icmp (a' := 14) (pc' := 5) (z := decide ((xs 1) < 0)) rfl rfl rfl rfl (fun h => absurd (of_decide_eq_true h) e0) (fun _ => ?_)
  refine x_iload_n (pc' := 6) rfl rfl rfl ?_
  refine x_iload_n (pc' := 7) rfl rfl rfl ?_
  refine x_icmp (a' := 14) (pc' := 10) (z := decide (5 < (xs 1))) rfl rfl rfl rfl (fun _ => ?_) (fun h => absurd (lt_of6 f0) (of_decide_eq_false h))
  refine x_iconst (pc' := 15) rfl rfl ?_
  refine x_retz (z := false) rfl rfl ?_
  refine sK_i (pc' := 6) rfl ?_
  refine x_retz (z := false) rfl rfl ?_
  refine sK_i (pc' := 5) rfl ?_
  refine x_if (a' := 19) (pc' := 8) (z := true) rfl rfl rfl (by decide) (fun _ => ?_) (fun h => by cases h)
  refine x_iconst (pc' := 20) rfl rfl ?_
  refine x_cv (ls0 := [_, _]) (rest := []) rfl rfl rfl rfl rfl ?_
  refine x_aload_n (pc' := 1) rfl rfl rfl rfl rfl ?_
  refine x_iload_n (pc' := 2) rfl rfl rfl ?_
  refine x_pI (pc' := 5) rfl rfl rfl ?_
  refine x_iload_n (pc' := 6) rfl rfl rfl ?_
  refine x_if (a' := 13) (pc' := 9) (z := true) rfl rfl rfl (by decide) (fun _ => ?_) (fun h => by cases h)
  refine x_iconst (pc' := 14) rfl rfl ?_
  refine x_retz (z := false) rfl rfl ?_
  refine sK_i (pc' := 23) rfl ?_
  refine x_if (a' := 39) (pc' := 26) (z := true) rfl rfl rfl (by decide) (fun _ => ?_) (fun h => by cases h)
  refine x_iconst (pc' := 40) rfl rfl ?_
  refine x_reti rfl rfl ?_
  refine sK_i (pc' := 2468) rfl ?_
  refine x_istore (pc' := 2470) (ls' := [_, _, _, _, _, _, _]) rfl rfl rfl rfl ?_
  refine x_aload_n (pc' := 2471) rfl rfl rfl rfl rfl ?_
  refine x_cv (ls0 := [_]) (rest := []) rfl rfl rfl rfl rfl ?_
  refine x_aload_n (pc' := 1) rfl rfl rfl rfl rfl ?_
  refine x_gI (pc' := 4) (x := 1) rfl rfl rfl sI_s ?_
  refine x_reti rfl rfl ?_
  refine sK_i (pc' := 2474) rfl ?_
  refine x_iload (pc' := 2476) rfl rfl rfl ?_
  refine x_icmp (a' := 2481) (pc' := 2479) (z := true) rfl rfl rfl (by decide) (fun _ => ?_) (fun h => by cases h)
  refine x_iload (pc' := 2483) rfl rfl rfl ?_
  refine x_if (a' := 2498) (pc' := 2486) (z := true) rfl rfl rfl (by decide) (fun _ => ?_) (fun h => by cases h)
  refine x_goto (pc' := 2938) rfl rfl ?_
  refine x_iinc (pc' := 2941) (y := 7) (ls' := [_, _, _, _, _, _, _]) rfl rfl rfl rfl rfl ?_
  refine x_goto (pc' := 23) rfl rfl ?_
  refine x_iload (pc' := 25) rfl rfl rfl ?_
  refine x_aload_n (pc' := 26) rfl rfl rfl rfl rfl ?_
  refine x_alen (pc' := 27) (N := 7) rfl rfl rfl (Eq.trans rdNI (Eq.trans rdNthr (z_N_29_0 e))) (?_ : X _ _ _ (.inl 7 :: _) _ _)
  refine x_bipush (pc' := 29) rfl rfl ?_
  refine x_isub (pc' := 30) (z := 0) rfl rfl (by decide) ?_
  refine x_icmp (a' := 2944) (pc' := 33) (z := true) rfl rfl rfl (by decide) (fun _ => ?_) (fun h => by cases h)
  refine x_iconst (pc' := 2945) rfl rfl ?_
  refine x_retz (z := true) rfl rfl ?_
  exact Qp_ok e (p := 1) (q := 6) rfl rfl rfl rfl
set_option maxHeartbeats 4000000 in
set_option maxRecDepth 10000 in
theorem v_33_v_0 {t : sT} {xs : Nat → Int32} {m : Nat}
    (e : t = T16 7 xs)
    (hk : ((xs 0) &&& 63) = 33)
    (hm : m < 6)
    (e0 : xs 1 = io m)
    (e1 : xs 2 = 0) :
    X 297 23 [.inr (.inr (29, (some 0))), .inr (.inr (11, (some 0))), .inr (.inr (12, (some 0))), .inr (.inr (23, (some 0))), .inl 0, sJk, sJk] [] t Qp := by
  refine x_iload (pc' := 25) rfl rfl rfl ?_
  refine x_aload_n (pc' := 26) rfl rfl rfl rfl rfl ?_
  refine x_alen (pc' := 27) (N := 7) rfl rfl rfl (z_N_29_0 e) (?_ : X _ _ _ (.inl 7 :: _) _ _)
  refine x_bipush (pc' := 29) rfl rfl ?_
  refine x_isub (pc' := 30) (z := 0) rfl rfl (by decide) ?_
  refine x_icmp (a' := 2944) (pc' := 33) (z := false) rfl rfl rfl (by decide) (fun h => by cases h) (fun _ => ?_)
  refine x_aload_n (pc' := 34) rfl rfl rfl rfl rfl ?_
  refine x_iload (pc' := 36) rfl rfl rfl ?_
  refine x_iald (pc' := 37) (N := 7) (x := (xs 0)) rfl rfl rfl (z_N_29_0 e) (io_in (p := 0) (N := 7) (by decide) (by decide)) (Eq.trans (congrArg (sA t 29 0) (nn_io (p := 0) (by decide))) (z_A_29_0_0 e)) ?_
  refine x_bipush (pc' := 39) rfl rfl ?_
  refine x_iand (pc' := 40) (z := ((xs 0) &&& 63)) rfl rfl rfl ?_
  refine x_switch (pc' := 2501) rfl (by rw [hk]; decide) ?_
  refine x_aload_n (pc' := 2502) rfl rfl rfl rfl rfl ?_
  refine x_aload_n (pc' := 2503) rfl rfl rfl rfl rfl ?_
  refine x_iload (pc' := 2505) rfl rfl rfl ?_
  refine x_iconst (pc' := 2506) rfl rfl ?_
  refine x_iadd (pc' := 2507) (z := 1) rfl rfl (by decide) ?_
  refine x_iald (pc' := 2508) (N := 7) (x := (io m)) rfl rfl rfl (z_N_29_0 e) (io_in (p := 1) (N := 7) (by decide) (by decide)) (Eq.trans (congrArg (sA t 29 0) (nn_io (p := 1) (by decide))) (Eq.trans (z_A_29_0_1 e) e0)) ?_
  refine x_aload_n (pc' := 2509) rfl rfl rfl rfl rfl ?_
  refine x_iload (pc' := 2511) rfl rfl rfl ?_
  refine x_iconst (pc' := 2512) rfl rfl ?_
  refine x_iadd (pc' := 2513) (z := 2) rfl rfl (by decide) ?_
  refine x_iald (pc' := 2514) (N := 7) (x := 0) rfl rfl rfl (z_N_29_0 e) (io_in (p := 2) (N := 7) (by decide) (by decide)) (Eq.trans (congrArg (sA t 29 0) (nn_io (p := 2) (by decide))) (Eq.trans (z_A_29_0_2 e) e1)) ?_
  refine x_aload_n (pc' := 2515) rfl rfl rfl rfl rfl ?_
  refine x_cs (ls0 := [_, _, _, _, sJk]) (rest := []) rfl rfl rfl rfl ?_
  refine x_aload_n (pc' := 1) rfl rfl rfl rfl rfl ?_
  refine x_iconst (pc' := 2) rfl rfl ?_
  refine x_aload_n (pc' := 3) rfl rfl rfl rfl rfl ?_
  refine x_iload_n (pc' := 4) rfl rfl rfl ?_
  refine x_iload_n (pc' := 5) rfl rfl rfl ?_
  refine x_cv (ls0 := [_, _, _, sJk]) (rest := [_, _]) rfl rfl rfl rfl rfl ?_
  refine x_aload_n (pc' := 1) rfl rfl rfl rfl rfl ?_
  refine x_iload_n (pc' := 2) rfl rfl rfl ?_
  refine x_cv (ls0 := [_, _]) (rest := []) rfl rfl rfl rfl rfl ?_
  refine x_iload_n (pc' := 1) rfl rfl rfl ?_
  refine x_if (a' := 16) (pc' := 4) (z := decide (m < 0)) rfl rfl rfl (ic_lt (p := m) (q := 0) (Nat.lt_trans hm (by decide)) (by decide)) (fun h => absurd (of_decide_eq_true h) (by first | decide | omega | simp)) (fun _ => ?_)
  refine x_iload_n (pc' := 5) rfl rfl rfl ?_
  refine x_aload_n (pc' := 6) rfl rfl rfl rfl rfl ?_
  refine x_gR (pc' := 9) (r := (some 0)) rfl rfl rfl (z_R_704_0 e) ?_
  refine x_gR (pc' := 12) (r := (some 0)) rfl rfl rfl (z_R_321_0 e) ?_
  refine x_alen (pc' := 13) (N := 6) rfl rfl rfl (z_N_26_0 e) (?_ : X _ _ _ (.inl 6 :: _) _ _)
  refine x_icmp (a' := 27) (pc' := 16) (z := decide (m < 6)) rfl rfl rfl (ic_lt (p := m) (q := 6) (Nat.lt_trans hm (by decide)) (by decide)) (fun _ => ?_) (fun h => absurd (Nat.lt_of_lt_of_le hm (by decide)) (of_decide_eq_false h))
  refine x_aload_n (pc' := 28) rfl rfl rfl rfl rfl ?_
  refine x_gR (pc' := 31) (r := (some 0)) rfl rfl rfl (z_R_704_0 e) ?_
  refine x_gR (pc' := 34) (r := (some 0)) rfl rfl rfl (z_R_321_0 e) ?_
  refine x_iload_n (pc' := 35) rfl rfl rfl ?_
  refine x_aald (pc' := 36) (N := 6) (k' := 7) (r := (some m)) rfl rfl rfl (z_N_26_0 e) (io_in (p := m) (N := 6) hm (by decide)) (Eq.trans (congrArg (sE t 26 0) (nn_io (p := m) (Nat.lt_trans hm (by decide)))) (kM (Cn_e e) hm)) ?_
  refine x_reta rfl rfl ?_
  refine sK_i (pc' := 5) rfl ?_
  refine x_astore_n (pc' := 6) (ls' := [_, _, _, _]) rfl rfl rfl rfl rfl ?_
  refine x_aload_n (pc' := 7) rfl rfl rfl rfl rfl ?_
  refine x_gR (pc' := 10) (r := (some 0)) rfl rfl rfl (z_R_704_0 e) ?_
  refine x_aload_n (pc' := 11) rfl rfl rfl rfl rfl ?_
  refine x_aload_n (pc' := 12) rfl rfl rfl rfl rfl ?_
  refine x_iload_n (pc' := 13) rfl rfl rfl ?_
  refine x_cv (ls0 := [_, _]) (rest := [_, _]) rfl rfl rfl rfl rfl ?_
  refine x_iload_n (pc' := 1) rfl rfl rfl ?_
  refine x_if (a' := 16) (pc' := 4) (z := false) rfl rfl rfl (by decide) (fun h => by cases h) (fun _ => ?_)
  refine x_iload_n (pc' := 5) rfl rfl rfl ?_
  refine x_aload_n (pc' := 6) rfl rfl rfl rfl rfl ?_
  refine x_gR (pc' := 9) (r := (some 0)) rfl rfl rfl (z_R_704_0 e) ?_
  refine x_gR (pc' := 12) (r := (some 0)) rfl rfl rfl (z_R_320_0 e) ?_
  refine x_alen (pc' := 13) (N := 3) rfl rfl rfl (z_N_25_0 e) (?_ : X _ _ _ (.inl 3 :: _) _ _)
  refine x_icmp (a' := 27) (pc' := 16) (z := true) rfl rfl rfl (by decide) (fun _ => ?_) (fun h => by cases h)
  refine x_aload_n (pc' := 28) rfl rfl rfl rfl rfl ?_
  refine x_gR (pc' := 31) (r := (some 0)) rfl rfl rfl (z_R_704_0 e) ?_
  refine x_gR (pc' := 34) (r := (some 0)) rfl rfl rfl (z_R_320_0 e) ?_
  refine x_iload_n (pc' := 35) rfl rfl rfl ?_
  refine x_aald (pc' := 36) (N := 3) (k' := 2) (r := (some 0)) rfl rfl rfl (z_N_25_0 e) (io_in (p := 0) (N := 3) (by decide) (by decide)) (Eq.trans (congrArg (sE t 25 0) (nn_io (p := 0) (by decide))) (z_E_25_0_0 e)) ?_
  refine x_reta rfl rfl ?_
  refine sK_i (pc' := 16) rfl ?_
  refine x_cv (ls0 := [_, _, _, sJk, sJk, sJk]) (rest := []) rfl rfl rfl rfl rfl ?_
  refine x_iconst (pc' := 1) rfl rfl ?_
  refine x_istore_n (pc' := 2) (ls' := [_, _, _, _, _, _]) rfl rfl rfl rfl ?_
  refine x_iconst (pc' := 3) rfl rfl ?_
  refine x_istore (pc' := 5) (ls' := [_, _, _, _, _, _]) rfl rfl rfl rfl ?_
  refine x_iload (pc' := 7) rfl rfl rfl ?_
  refine x_aload_n (pc' := 8) rfl rfl rfl rfl rfl ?_
  refine x_gR (pc' := 11) (r := (some 0)) rfl rfl rfl (z_R_322_0 e) ?_
  refine x_cv (ls0 := [_]) (rest := [_]) rfl rfl rfl rfl rfl ?_
  refine x_aload_n (pc' := 1) rfl rfl rfl rfl rfl ?_
  refine x_gI (pc' := 4) (x := 0) rfl rfl rfl (z_I_834_0 e) ?_
  refine x_reti rfl rfl ?_
  refine sK_i (pc' := 14) rfl ?_
  refine x_icmp (a' := 96) (pc' := 17) (z := true) rfl rfl rfl (by decide) (fun _ => ?_) (fun h => by cases h)
  refine x_iload_n (pc' := 97) rfl rfl rfl ?_
  refine x_reti rfl rfl ?_
  refine sK_i (pc' := 19) rfl ?_
  refine x_reti rfl rfl ?_
  refine sK_i (pc' := 8) rfl ?_
  refine x_i2l (pc' := 9) (z := (0 : Int64)) rfl rfl (by decide) ?_
  refine x_last (pc' := 10) (N := 1) (p := 0) rfl rfl (z_N_23_0 e) (io_in (p := 0) (N := 1) (by decide) (by decide)) (nn_io (p := 0) (by decide)) ?_
  refine x_goto (pc' := 17) rfl rfl ?_
  refine x_iconst (pc' := 18) rfl rfl ?_
  refine x_reti rfl rfl ?_
  refine sK_i (pc' := 2518) rfl ?_
  refine x_istore (pc' := 2520) (ls' := [_, _, _, _, _, _, _]) rfl rfl rfl rfl ?_
  refine x_aload_n (pc' := 2521) rfl rfl rfl rfl rfl ?_
  refine x_aload_n (pc' := 2522) rfl rfl rfl rfl rfl ?_
  refine x_iload (pc' := 2524) rfl rfl rfl ?_
  refine x_iconst (pc' := 2525) rfl rfl ?_
  refine x_iadd (pc' := 2526) (z := 1) rfl rfl (by decide) ?_
  refine x_iald (pc' := 2527) (N := 7) (x := (io m)) rfl rfl rfl (Eq.trans rdNL (z_N_29_0 e)) (io_in (p := 1) (N := 7) (by decide) (by decide)) (Eq.trans (congrArg (sA (sLw t 23 0 0 (0 : Int64)) 29 0) (nn_io (p := 1) (by decide))) (Eq.trans rdAL (Eq.trans (z_A_29_0_1 e) e0))) ?_
  refine x_aload_n (pc' := 2528) rfl rfl rfl rfl rfl ?_
  refine x_iload (pc' := 2530) rfl rfl rfl ?_
  refine x_iconst (pc' := 2531) rfl rfl ?_
  refine x_iadd (pc' := 2532) (z := 2) rfl rfl (by decide) ?_
  refine x_iald (pc' := 2533) (N := 7) (x := 0) rfl rfl rfl (Eq.trans rdNL (z_N_29_0 e)) (io_in (p := 2) (N := 7) (by decide) (by decide)) (Eq.trans (congrArg (sA (sLw t 23 0 0 (0 : Int64)) 29 0) (nn_io (p := 2) (by decide))) (Eq.trans rdAL (Eq.trans (z_A_29_0_2 e) e1))) ?_
  refine x_cv (ls0 := [_, _, _, sJk, sJk, sJk]) (rest := []) rfl rfl rfl rfl rfl ?_
  refine x_aload_n (pc' := 1) rfl rfl rfl rfl rfl ?_
  refine x_iload_n (pc' := 2) rfl rfl rfl ?_
  refine x_cs (ls0 := [_]) (rest := [_]) rfl rfl rfl rfl ?_
  refine x_iload_n (pc' := 1) rfl rfl rfl ?_
  refine x_iconst (pc' := 2) rfl rfl ?_
  refine x_iconst (pc' := 3) rfl rfl ?_
  refine x_cs (ls0 := [_, _, _]) (rest := []) rfl rfl rfl rfl ?_
  refine x_iload_n (pc' := 1) rfl rfl rfl ?_
  refine x_iload_n (pc' := 2) rfl rfl rfl ?_
  refine x_icmp (a' := 14) (pc' := 5) (z := decide (m < 0)) rfl rfl rfl (ic_lt (p := m) (q := 0) (Nat.lt_trans hm (by decide)) (by decide)) (fun h => absurd (of_decide_eq_true h) (by first | decide | omega | simp)) (fun _ => ?_)
  refine x_iload_n (pc' := 6) rfl rfl rfl ?_
  refine x_iload_n (pc' := 7) rfl rfl rfl ?_
  refine x_icmp (a' := 14) (pc' := 10) (z := decide (5 < m)) rfl rfl rfl (ic_gt (p := m) (q := 5) (Nat.lt_trans hm (by decide)) (by decide)) (fun h => absurd (of_decide_eq_true h) (fun z => absurd hm (Nat.not_lt.mpr z))) (fun _ => ?_)
  refine x_iconst (pc' := 11) rfl rfl ?_
  refine x_goto (pc' := 15) rfl rfl ?_
  refine x_retz (z := true) rfl rfl ?_
  refine sK_i (pc' := 6) rfl ?_
  refine x_retz (z := true) rfl rfl ?_
  refine sK_i (pc' := 5) rfl ?_
  refine x_if (a' := 19) (pc' := 8) (z := false) rfl rfl rfl (by decide) (fun h => by cases h) (fun _ => ?_)
  refine x_iload_n (pc' := 9) rfl rfl rfl ?_
  refine x_cs (ls0 := [_]) (rest := [_]) rfl rfl rfl rfl ?_
  refine x_iload_n (pc' := 1) rfl rfl rfl ?_
  refine x_iconst (pc' := 2) rfl rfl ?_
  refine x_iconst (pc' := 3) rfl rfl ?_
  refine x_cs (ls0 := [_, _, _]) (rest := []) rfl rfl rfl rfl ?_
  refine x_iload_n (pc' := 1) rfl rfl rfl ?_
  refine x_iload_n (pc' := 2) rfl rfl rfl ?_
  refine x_icmp (a' := 14) (pc' := 5) (z := false) rfl rfl rfl (by decide) (fun h => by cases h) (fun _ => ?_)
  refine x_iload_n (pc' := 6) rfl rfl rfl ?_
  refine x_iload_n (pc' := 7) rfl rfl rfl ?_
  refine x_icmp (a' := 14) (pc' := 10) (z := false) rfl rfl rfl (by decide) (fun h => by cases h) (fun _ => ?_)
  refine x_iconst (pc' := 11) rfl rfl ?_
  refine x_goto (pc' := 15) rfl rfl ?_
  refine x_retz (z := true) rfl rfl ?_
  refine sK_i (pc' := 6) rfl ?_
  refine x_retz (z := true) rfl rfl ?_
  refine sK_i (pc' := 12) rfl ?_
  refine x_if (a' := 19) (pc' := 15) (z := false) rfl rfl rfl (by decide) (fun h => by cases h) (fun _ => ?_)
  refine x_iconst (pc' := 16) rfl rfl ?_
  refine x_goto (pc' := 20) rfl rfl ?_
  refine x_cv (ls0 := [_, _]) (rest := []) rfl rfl rfl rfl rfl ?_
  refine x_aload_n (pc' := 1) rfl rfl rfl rfl rfl ?_
  refine x_iload_n (pc' := 2) rfl rfl rfl ?_
  refine x_pI (pc' := 5) rfl rfl rfl ?_
  refine x_iload_n (pc' := 6) rfl rfl rfl ?_
  refine x_if (a' := 13) (pc' := 9) (z := false) rfl rfl rfl (by decide) (fun h => by cases h) (fun _ => ?_)
  refine x_iconst (pc' := 10) rfl rfl ?_
  refine x_goto (pc' := 14) rfl rfl ?_
  refine x_retz (z := true) rfl rfl ?_
  refine sK_i (pc' := 23) rfl ?_
  refine x_if (a' := 28) (pc' := 26) (z := true) rfl rfl rfl (by decide) (fun _ => ?_) (fun h => by cases h)
  refine x_iconst (pc' := 29) rfl rfl ?_
  refine x_istore_n (pc' := 30) (ls' := [_, _, _, _, _, _]) rfl rfl rfl rfl ?_
  refine x_iconst (pc' := 31) rfl rfl ?_
  refine x_istore (pc' := 33) (ls' := [_, _, _, _, _, _]) rfl rfl rfl rfl ?_
  refine x_iload (pc' := 35) rfl rfl rfl ?_
  refine x_aload_n (pc' := 36) rfl rfl rfl rfl rfl ?_
  refine x_gI (pc' := 39) (x := 0) rfl rfl rfl (Eq.trans (rdI_F rfl) (Eq.trans rdIL (z_I_801_0 e))) ?_
  refine x_icmp (a' := 120) (pc' := 42) (z := true) rfl rfl rfl (by decide) (fun _ => ?_) (fun h => by cases h)
  refine x_iload_n (pc' := 121) rfl rfl rfl ?_
  refine x_reti rfl rfl ?_
  refine sK_i (pc' := 2536) rfl ?_
  refine x_istore (pc' := 2538) (ls' := [_, _, _, _, _, _, _]) rfl rfl rfl rfl ?_
  refine x_aload_n (pc' := 2539) rfl rfl rfl rfl rfl ?_
  refine x_cv (ls0 := [_]) (rest := []) rfl rfl rfl rfl rfl ?_
  refine x_aload_n (pc' := 1) rfl rfl rfl rfl rfl ?_
  refine x_gI (pc' := 4) (x := 0) rfl rfl rfl sI_s ?_
  refine x_reti rfl rfl ?_
  refine sK_i (pc' := 2542) rfl ?_
  refine x_iload (pc' := 2544) rfl rfl rfl ?_
  refine x_icmp (a' := 2549) (pc' := 2547) (z := true) rfl rfl rfl (by decide) (fun _ => ?_) (fun h => by cases h)
  refine x_iload (pc' := 2551) rfl rfl rfl ?_
  refine x_if (a' := 2566) (pc' := 2554) (z := false) rfl rfl rfl (by decide) (fun h => by cases h) (fun _ => ?_)
  refine x_aload_n (pc' := 2555) rfl rfl rfl rfl rfl ?_
  refine x_iconst (pc' := 2556) rfl rfl ?_
  refine x_lald (pc' := 2557) (N := 1) (x := (0 : Int64)) rfl rfl (Eq.trans rdNI (Eq.trans rdNL (z_N_23_0 e))) (io_in (p := 0) (N := 1) (by decide) (by decide)) (Eq.trans (congrArg (sL (sIw (sLw t 23 0 0 (0 : Int64)) 768 0 0) 23 0) (nn_io (p := 0) (by decide))) (Eq.trans rdLI sL_s)) ?_
  refine x_iload (pc' := 2559) rfl rfl rfl ?_
  refine x_i2l (pc' := 2560) (z := (0 : Int64)) rfl rfl (by decide) ?_
  refine x_lcmp (pc' := 2561) (z := 0) rfl rfl (sLcmp_s _) ?_
  refine x_if (a' := 2566) (pc' := 2564) (z := true) rfl rfl rfl (by decide) (fun _ => ?_) (fun h => by cases h)
  refine x_goto (pc' := 2938) rfl rfl ?_
  refine x_iinc (pc' := 2941) (y := 7) (ls' := [_, _, _, _, _, _, _]) rfl rfl rfl rfl rfl ?_
  refine x_goto (pc' := 23) rfl rfl ?_
  refine x_iload (pc' := 25) rfl rfl rfl ?_
  refine x_aload_n (pc' := 26) rfl rfl rfl rfl rfl ?_
  refine x_alen (pc' := 27) (N := 7) rfl rfl rfl (Eq.trans rdNI (Eq.trans rdNL (z_N_29_0 e))) (?_ : X _ _ _ (.inl 7 :: _) _ _)
  refine x_bipush (pc' := 29) rfl rfl ?_
  refine x_isub (pc' := 30) (z := 0) rfl rfl (by decide) ?_
  refine x_icmp (a' := 2944) (pc' := 33) (z := true) rfl rfl rfl (by decide) (fun _ => ?_) (fun h => by cases h)
  refine x_iconst (pc' := 2945) rfl rfl ?_
  refine x_retz (z := true) rfl rfl ?_
  exact Qp_ok e (p := 0) (q := 0) rfl rfl rfl rfl
set_option maxHeartbeats 4000000 in
set_option maxRecDepth 10000 in
theorem v_33_v_1 {t : sT} {xs : Nat → Int32} {m : Nat}
    (e : t = T16 7 xs)
    (hk : ((xs 0) &&& 63) = 33)
    (hm : m < 6)
    (e0 : xs 1 = io m)
    (e1 : xs 2 = 1) :
    X 297 23 [.inr (.inr (29, (some 0))), .inr (.inr (11, (some 0))), .inr (.inr (12, (some 0))), .inr (.inr (23, (some 0))), .inl 0, sJk, sJk] [] t Qp := by
  refine x_iload (pc' := 25) rfl rfl rfl ?_
  refine x_aload_n (pc' := 26) rfl rfl rfl rfl rfl ?_
  refine x_alen (pc' := 27) (N := 7) rfl rfl rfl (z_N_29_0 e) (?_ : X _ _ _ (.inl 7 :: _) _ _)
  refine x_bipush (pc' := 29) rfl rfl ?_
  refine x_isub (pc' := 30) (z := 0) rfl rfl (by decide) ?_
  refine x_icmp (a' := 2944) (pc' := 33) (z := false) rfl rfl rfl (by decide) (fun h => by cases h) (fun _ => ?_)
  refine x_aload_n (pc' := 34) rfl rfl rfl rfl rfl ?_
  refine x_iload (pc' := 36) rfl rfl rfl ?_
  refine x_iald (pc' := 37) (N := 7) (x := (xs 0)) rfl rfl rfl (z_N_29_0 e) (io_in (p := 0) (N := 7) (by decide) (by decide)) (Eq.trans (congrArg (sA t 29 0) (nn_io (p := 0) (by decide))) (z_A_29_0_0 e)) ?_
  refine x_bipush (pc' := 39) rfl rfl ?_
  refine x_iand (pc' := 40) (z := ((xs 0) &&& 63)) rfl rfl rfl ?_
  refine x_switch (pc' := 2501) rfl (by rw [hk]; decide) ?_
  refine x_aload_n (pc' := 2502) rfl rfl rfl rfl rfl ?_
  refine x_aload_n (pc' := 2503) rfl rfl rfl rfl rfl ?_
  refine x_iload (pc' := 2505) rfl rfl rfl ?_
  refine x_iconst (pc' := 2506) rfl rfl ?_
  refine x_iadd (pc' := 2507) (z := 1) rfl rfl (by decide) ?_
  refine x_iald (pc' := 2508) (N := 7) (x := (io m)) rfl rfl rfl (z_N_29_0 e) (io_in (p := 1) (N := 7) (by decide) (by decide)) (Eq.trans (congrArg (sA t 29 0) (nn_io (p := 1) (by decide))) (Eq.trans (z_A_29_0_1 e) e0)) ?_
  refine x_aload_n (pc' := 2509) rfl rfl rfl rfl rfl ?_
  refine x_iload (pc' := 2511) rfl rfl rfl ?_
  refine x_iconst (pc' := 2512) rfl rfl ?_
  refine x_iadd (pc' := 2513) (z := 2) rfl rfl (by decide) ?_
  refine x_iald (pc' := 2514) (N := 7) (x := 1) rfl rfl rfl (z_N_29_0 e) (io_in (p := 2) (N := 7) (by decide) (by decide)) (Eq.trans (congrArg (sA t 29 0) (nn_io (p := 2) (by decide))) (Eq.trans (z_A_29_0_2 e) e1)) ?_
  refine x_aload_n (pc' := 2515) rfl rfl rfl rfl rfl ?_
  refine x_cs (ls0 := [_, _, _, _, sJk]) (rest := []) rfl rfl rfl rfl ?_
  refine x_aload_n (pc' := 1) rfl rfl rfl rfl rfl ?_
  refine x_iconst (pc' := 2) rfl rfl ?_
  refine x_aload_n (pc' := 3) rfl rfl rfl rfl rfl ?_
  refine x_iload_n (pc' := 4) rfl rfl rfl ?_
  refine x_iload_n (pc' := 5) rfl rfl rfl ?_
  refine x_cv (ls0 := [_, _, _, sJk]) (rest := [_, _]) rfl rfl rfl rfl rfl ?_
  refine x_aload_n (pc' := 1) rfl rfl rfl rfl rfl ?_
  refine x_iload_n (pc' := 2) rfl rfl rfl ?_
  refine x_cv (ls0 := [_, _]) (rest := []) rfl rfl rfl rfl rfl ?_
  refine x_iload_n (pc' := 1) rfl rfl rfl ?_
  refine x_if (a' := 16) (pc' := 4) (z := decide (m < 0)) rfl rfl rfl (ic_lt (p := m) (q := 0) (Nat.lt_trans hm (by decide)) (by decide)) (fun h => absurd (of_decide_eq_true h) (by first | decide | omega | simp)) (fun _ => ?_)
  refine x_iload_n (pc' := 5) rfl rfl rfl ?_
  refine x_aload_n (pc' := 6) rfl rfl rfl rfl rfl ?_
  refine x_gR (pc' := 9) (r := (some 0)) rfl rfl rfl (z_R_704_0 e) ?_
  refine x_gR (pc' := 12) (r := (some 0)) rfl rfl rfl (z_R_321_0 e) ?_
  refine x_alen (pc' := 13) (N := 6) rfl rfl rfl (z_N_26_0 e) (?_ : X _ _ _ (.inl 6 :: _) _ _)
  refine x_icmp (a' := 27) (pc' := 16) (z := decide (m < 6)) rfl rfl rfl (ic_lt (p := m) (q := 6) (Nat.lt_trans hm (by decide)) (by decide)) (fun _ => ?_) (fun h => absurd (Nat.lt_of_lt_of_le hm (by decide)) (of_decide_eq_false h))
  refine x_aload_n (pc' := 28) rfl rfl rfl rfl rfl ?_
  refine x_gR (pc' := 31) (r := (some 0)) rfl rfl rfl (z_R_704_0 e) ?_
  refine x_gR (pc' := 34) (r := (some 0)) rfl rfl rfl (z_R_321_0 e) ?_
  refine x_iload_n (pc' := 35) rfl rfl rfl ?_
  refine x_aald (pc' := 36) (N := 6) (k' := 7) (r := (some m)) rfl rfl rfl (z_N_26_0 e) (io_in (p := m) (N := 6) hm (by decide)) (Eq.trans (congrArg (sE t 26 0) (nn_io (p := m) (Nat.lt_trans hm (by decide)))) (kM (Cn_e e) hm)) ?_
  refine x_reta rfl rfl ?_
  refine sK_i (pc' := 5) rfl ?_
  refine x_astore_n (pc' := 6) (ls' := [_, _, _, _]) rfl rfl rfl rfl rfl ?_
  refine x_aload_n (pc' := 7) rfl rfl rfl rfl rfl ?_
  refine x_gR (pc' := 10) (r := (some 0)) rfl rfl rfl (z_R_704_0 e) ?_
  refine x_aload_n (pc' := 11) rfl rfl rfl rfl rfl ?_
  refine x_aload_n (pc' := 12) rfl rfl rfl rfl rfl ?_
  refine x_iload_n (pc' := 13) rfl rfl rfl ?_
  refine x_cv (ls0 := [_, _]) (rest := [_, _]) rfl rfl rfl rfl rfl ?_
  refine x_iload_n (pc' := 1) rfl rfl rfl ?_
  refine x_if (a' := 16) (pc' := 4) (z := false) rfl rfl rfl (by decide) (fun h => by cases h) (fun _ => ?_)
  refine x_iload_n (pc' := 5) rfl rfl rfl ?_
  refine x_aload_n (pc' := 6) rfl rfl rfl rfl rfl ?_
  refine x_gR (pc' := 9) (r := (some 0)) rfl rfl rfl (z_R_704_0 e) ?_
  refine x_gR (pc' := 12) (r := (some 0)) rfl rfl rfl (z_R_320_0 e) ?_
  refine x_alen (pc' := 13) (N := 3) rfl rfl rfl (z_N_25_0 e) (?_ : X _ _ _ (.inl 3 :: _) _ _)
  refine x_icmp (a' := 27) (pc' := 16) (z := true) rfl rfl rfl (by decide) (fun _ => ?_) (fun h => by cases h)
  refine x_aload_n (pc' := 28) rfl rfl rfl rfl rfl ?_
  refine x_gR (pc' := 31) (r := (some 0)) rfl rfl rfl (z_R_704_0 e) ?_
  refine x_gR (pc' := 34) (r := (some 0)) rfl rfl rfl (z_R_320_0 e) ?_
  refine x_iload_n (pc' := 35) rfl rfl rfl ?_
  refine x_aald (pc' := 36) (N := 3) (k' := 2) (r := (some 1)) rfl rfl rfl (z_N_25_0 e) (io_in (p := 1) (N := 3) (by decide) (by decide)) (Eq.trans (congrArg (sE t 25 0) (nn_io (p := 1) (by decide))) (z_E_25_0_1 e)) ?_
  refine x_reta rfl rfl ?_
  refine sK_i (pc' := 16) rfl ?_
  refine x_cv (ls0 := [_, _, _, sJk, sJk, sJk]) (rest := []) rfl rfl rfl rfl rfl ?_
  refine x_iconst (pc' := 1) rfl rfl ?_
  refine x_istore_n (pc' := 2) (ls' := [_, _, _, _, _, _]) rfl rfl rfl rfl ?_
  refine x_iconst (pc' := 3) rfl rfl ?_
  refine x_istore (pc' := 5) (ls' := [_, _, _, _, _, _]) rfl rfl rfl rfl ?_
  refine x_iload (pc' := 7) rfl rfl rfl ?_
  refine x_aload_n (pc' := 8) rfl rfl rfl rfl rfl ?_
  refine x_gR (pc' := 11) (r := (some 0)) rfl rfl rfl (z_R_322_0 e) ?_
  refine x_cv (ls0 := [_]) (rest := [_]) rfl rfl rfl rfl rfl ?_
  refine x_aload_n (pc' := 1) rfl rfl rfl rfl rfl ?_
  refine x_gI (pc' := 4) (x := 0) rfl rfl rfl (z_I_834_0 e) ?_
  refine x_reti rfl rfl ?_
  refine sK_i (pc' := 14) rfl ?_
  refine x_icmp (a' := 96) (pc' := 17) (z := true) rfl rfl rfl (by decide) (fun _ => ?_) (fun h => by cases h)
  refine x_iload_n (pc' := 97) rfl rfl rfl ?_
  refine x_reti rfl rfl ?_
  refine sK_i (pc' := 19) rfl ?_
  refine x_reti rfl rfl ?_
  refine sK_i (pc' := 8) rfl ?_
  refine x_i2l (pc' := 9) (z := (0 : Int64)) rfl rfl (by decide) ?_
  refine x_last (pc' := 10) (N := 1) (p := 0) rfl rfl (z_N_23_0 e) (io_in (p := 0) (N := 1) (by decide) (by decide)) (nn_io (p := 0) (by decide)) ?_
  refine x_goto (pc' := 17) rfl rfl ?_
  refine x_iconst (pc' := 18) rfl rfl ?_
  refine x_reti rfl rfl ?_
  refine sK_i (pc' := 2518) rfl ?_
  refine x_istore (pc' := 2520) (ls' := [_, _, _, _, _, _, _]) rfl rfl rfl rfl ?_
  refine x_aload_n (pc' := 2521) rfl rfl rfl rfl rfl ?_
  refine x_aload_n (pc' := 2522) rfl rfl rfl rfl rfl ?_
  refine x_iload (pc' := 2524) rfl rfl rfl ?_
  refine x_iconst (pc' := 2525) rfl rfl ?_
  refine x_iadd (pc' := 2526) (z := 1) rfl rfl (by decide) ?_
  refine x_iald (pc' := 2527) (N := 7) (x := (io m)) rfl rfl rfl (Eq.trans rdNL (z_N_29_0 e)) (io_in (p := 1) (N := 7) (by decide) (by decide)) (Eq.trans (congrArg (sA (sLw t 23 0 0 (0 : Int64)) 29 0) (nn_io (p := 1) (by decide))) (Eq.trans rdAL (Eq.trans (z_A_29_0_1 e) e0))) ?_
  refine x_aload_n (pc' := 2528) rfl rfl rfl rfl rfl ?_
  refine x_iload (pc' := 2530) rfl rfl rfl ?_
  refine x_iconst (pc' := 2531) rfl rfl ?_
  refine x_iadd (pc' := 2532) (z := 2) rfl rfl (by decide) ?_
  refine x_iald (pc' := 2533) (N := 7) (x := 1) rfl rfl rfl (Eq.trans rdNL (z_N_29_0 e)) (io_in (p := 2) (N := 7) (by decide) (by decide)) (Eq.trans (congrArg (sA (sLw t 23 0 0 (0 : Int64)) 29 0) (nn_io (p := 2) (by decide))) (Eq.trans rdAL (Eq.trans (z_A_29_0_2 e) e1))) ?_
  refine x_cv (ls0 := [_, _, _, sJk, sJk, sJk]) (rest := []) rfl rfl rfl rfl rfl ?_
  refine x_aload_n (pc' := 1) rfl rfl rfl rfl rfl ?_
  refine x_iload_n (pc' := 2) rfl rfl rfl ?_
  refine x_cs (ls0 := [_]) (rest := [_]) rfl rfl rfl rfl ?_
  refine x_iload_n (pc' := 1) rfl rfl rfl ?_
  refine x_iconst (pc' := 2) rfl rfl ?_
  refine x_iconst (pc' := 3) rfl rfl ?_
  refine x_cs (ls0 := [_, _, _]) (rest := []) rfl rfl rfl rfl ?_
  refine x_iload_n (pc' := 1) rfl rfl rfl ?_
  refine x_iload_n (pc' := 2) rfl rfl rfl ?_
  refine x_icmp (a' := 14) (pc' := 5) (z := decide (m < 0)) rfl rfl rfl (ic_lt (p := m) (q := 0) (Nat.lt_trans hm (by decide)) (by decide)) (fun h => absurd (of_decide_eq_true h) (by first | decide | omega | simp)) (fun _ => ?_)
  refine x_iload_n (pc' := 6) rfl rfl rfl ?_
  refine x_iload_n (pc' := 7) rfl rfl rfl ?_
  refine x_icmp (a' := 14) (pc' := 10) (z := decide (5 < m)) rfl rfl rfl (ic_gt (p := m) (q := 5) (Nat.lt_trans hm (by decide)) (by decide)) (fun h => absurd (of_decide_eq_true h) (fun z => absurd hm (Nat.not_lt.mpr z))) (fun _ => ?_)
  refine x_iconst (pc' := 11) rfl rfl ?_
  refine x_goto (pc' := 15) rfl rfl ?_
  refine x_retz (z := true) rfl rfl ?_
  refine sK_i (pc' := 6) rfl ?_
  refine x_retz (z := true) rfl rfl ?_
  refine sK_i (pc' := 5) rfl ?_
  refine x_if (a' := 19) (pc' := 8) (z := false) rfl rfl rfl (by decide) (fun h => by cases h) (fun _ => ?_)
  refine x_iload_n (pc' := 9) rfl rfl rfl ?_
  refine x_cs (ls0 := [_]) (rest := [_]) rfl rfl rfl rfl ?_
  refine x_iload_n (pc' := 1) rfl rfl rfl ?_
  refine x_iconst (pc' := 2) rfl rfl ?_
  refine x_iconst (pc' := 3) rfl rfl ?_
  refine x_cs (ls0 := [_, _, _]) (rest := []) rfl rfl rfl rfl ?_
  refine x_iload_n (pc' := 1) rfl rfl rfl ?_
  refine x_iload_n (pc' := 2) rfl rfl rfl ?_
  refine x_icmp (a' := 14) (pc' := 5) (z := false) rfl rfl rfl (by decide) (fun h => by cases h) (fun _ => ?_)
  refine x_iload_n (pc' := 6) rfl rfl rfl ?_
  refine x_iload_n (pc' := 7) rfl rfl rfl ?_
  refine x_icmp (a' := 14) (pc' := 10) (z := false) rfl rfl rfl (by decide) (fun h => by cases h) (fun _ => ?_)
  refine x_iconst (pc' := 11) rfl rfl ?_
  refine x_goto (pc' := 15) rfl rfl ?_
  refine x_retz (z := true) rfl rfl ?_
  refine sK_i (pc' := 6) rfl ?_
  refine x_retz (z := true) rfl rfl ?_
  refine sK_i (pc' := 12) rfl ?_
  refine x_if (a' := 19) (pc' := 15) (z := false) rfl rfl rfl (by decide) (fun h => by cases h) (fun _ => ?_)
  refine x_iconst (pc' := 16) rfl rfl ?_
  refine x_goto (pc' := 20) rfl rfl ?_
  refine x_cv (ls0 := [_, _]) (rest := []) rfl rfl rfl rfl rfl ?_
  refine x_aload_n (pc' := 1) rfl rfl rfl rfl rfl ?_
  refine x_iload_n (pc' := 2) rfl rfl rfl ?_
  refine x_pI (pc' := 5) rfl rfl rfl ?_
  refine x_iload_n (pc' := 6) rfl rfl rfl ?_
  refine x_if (a' := 13) (pc' := 9) (z := false) rfl rfl rfl (by decide) (fun h => by cases h) (fun _ => ?_)
  refine x_iconst (pc' := 10) rfl rfl ?_
  refine x_goto (pc' := 14) rfl rfl ?_
  refine x_retz (z := true) rfl rfl ?_
  refine sK_i (pc' := 23) rfl ?_
  refine x_if (a' := 28) (pc' := 26) (z := true) rfl rfl rfl (by decide) (fun _ => ?_) (fun h => by cases h)
  refine x_iconst (pc' := 29) rfl rfl ?_
  refine x_istore_n (pc' := 30) (ls' := [_, _, _, _, _, _]) rfl rfl rfl rfl ?_
  refine x_iconst (pc' := 31) rfl rfl ?_
  refine x_istore (pc' := 33) (ls' := [_, _, _, _, _, _]) rfl rfl rfl rfl ?_
  refine x_iload (pc' := 35) rfl rfl rfl ?_
  refine x_aload_n (pc' := 36) rfl rfl rfl rfl rfl ?_
  refine x_gI (pc' := 39) (x := 0) rfl rfl rfl (Eq.trans (rdI_F rfl) (Eq.trans rdIL (z_I_801_0 e))) ?_
  refine x_icmp (a' := 120) (pc' := 42) (z := true) rfl rfl rfl (by decide) (fun _ => ?_) (fun h => by cases h)
  refine x_iload_n (pc' := 121) rfl rfl rfl ?_
  refine x_reti rfl rfl ?_
  refine sK_i (pc' := 2536) rfl ?_
  refine x_istore (pc' := 2538) (ls' := [_, _, _, _, _, _, _]) rfl rfl rfl rfl ?_
  refine x_aload_n (pc' := 2539) rfl rfl rfl rfl rfl ?_
  refine x_cv (ls0 := [_]) (rest := []) rfl rfl rfl rfl rfl ?_
  refine x_aload_n (pc' := 1) rfl rfl rfl rfl rfl ?_
  refine x_gI (pc' := 4) (x := 0) rfl rfl rfl sI_s ?_
  refine x_reti rfl rfl ?_
  refine sK_i (pc' := 2542) rfl ?_
  refine x_iload (pc' := 2544) rfl rfl rfl ?_
  refine x_icmp (a' := 2549) (pc' := 2547) (z := true) rfl rfl rfl (by decide) (fun _ => ?_) (fun h => by cases h)
  refine x_iload (pc' := 2551) rfl rfl rfl ?_
  refine x_if (a' := 2566) (pc' := 2554) (z := false) rfl rfl rfl (by decide) (fun h => by cases h) (fun _ => ?_)
  refine x_aload_n (pc' := 2555) rfl rfl rfl rfl rfl ?_
  refine x_iconst (pc' := 2556) rfl rfl ?_
  refine x_lald (pc' := 2557) (N := 1) (x := (0 : Int64)) rfl rfl (Eq.trans rdNI (Eq.trans rdNL (z_N_23_0 e))) (io_in (p := 0) (N := 1) (by decide) (by decide)) (Eq.trans (congrArg (sL (sIw (sLw t 23 0 0 (0 : Int64)) 768 0 0) 23 0) (nn_io (p := 0) (by decide))) (Eq.trans rdLI sL_s)) ?_
  refine x_iload (pc' := 2559) rfl rfl rfl ?_
  refine x_i2l (pc' := 2560) (z := (0 : Int64)) rfl rfl (by decide) ?_
  refine x_lcmp (pc' := 2561) (z := 0) rfl rfl (sLcmp_s _) ?_
  refine x_if (a' := 2566) (pc' := 2564) (z := true) rfl rfl rfl (by decide) (fun _ => ?_) (fun h => by cases h)
  refine x_goto (pc' := 2938) rfl rfl ?_
  refine x_iinc (pc' := 2941) (y := 7) (ls' := [_, _, _, _, _, _, _]) rfl rfl rfl rfl rfl ?_
  refine x_goto (pc' := 23) rfl rfl ?_
  refine x_iload (pc' := 25) rfl rfl rfl ?_
  refine x_aload_n (pc' := 26) rfl rfl rfl rfl rfl ?_
  refine x_alen (pc' := 27) (N := 7) rfl rfl rfl (Eq.trans rdNI (Eq.trans rdNL (z_N_29_0 e))) (?_ : X _ _ _ (.inl 7 :: _) _ _)
  refine x_bipush (pc' := 29) rfl rfl ?_
  refine x_isub (pc' := 30) (z := 0) rfl rfl (by decide) ?_
  refine x_icmp (a' := 2944) (pc' := 33) (z := true) rfl rfl rfl (by decide) (fun _ => ?_) (fun h => by cases h)
  refine x_iconst (pc' := 2945) rfl rfl ?_
  refine x_retz (z := true) rfl rfl ?_
  exact Qp_ok e (p := 0) (q := 0) rfl rfl rfl rfl
set_option maxHeartbeats 4000000 in
set_option maxRecDepth 10000 in
theorem v_33_v_2 {t : sT} {xs : Nat → Int32} {m : Nat}
    (e : t = T16 7 xs)
    (hk : ((xs 0) &&& 63) = 33)
    (hm : m < 6)
    (e0 : xs 1 = io m)
    (e1 : xs 2 = 2) :
    X 297 23 [.inr (.inr (29, (some 0))), .inr (.inr (11, (some 0))), .inr (.inr (12, (some 0))), .inr (.inr (23, (some 0))), .inl 0, sJk, sJk] [] t Qp := by
  refine x_iload (pc' := 25) rfl rfl rfl ?_
  refine x_aload_n (pc' := 26) rfl rfl rfl rfl rfl ?_
  refine x_alen (pc' := 27) (N := 7) rfl rfl rfl (z_N_29_0 e) (?_ : X _ _ _ (.inl 7 :: _) _ _)
  refine x_bipush (pc' := 29) rfl rfl ?_
  refine x_isub (pc' := 30) (z := 0) rfl rfl (by decide) ?_
  refine x_icmp (a' := 2944) (pc' := 33) (z := false) rfl rfl rfl (by decide) (fun h => by cases h) (fun _ => ?_)
  refine x_aload_n (pc' := 34) rfl rfl rfl rfl rfl ?_
  refine x_iload (pc' := 36) rfl rfl rfl ?_
  refine x_iald (pc' := 37) (N := 7) (x := (xs 0)) rfl rfl rfl (z_N_29_0 e) (io_in (p := 0) (N := 7) (by decide) (by decide)) (Eq.trans (congrArg (sA t 29 0) (nn_io (p := 0) (by decide))) (z_A_29_0_0 e)) ?_
  refine x_bipush (pc' := 39) rfl rfl ?_
  refine x_iand (pc' := 40) (z := ((xs 0) &&& 63)) rfl rfl rfl ?_
  refine x_switch (pc' := 2501) rfl (by rw [hk]; decide) ?_
  refine x_aload_n (pc' := 2502) rfl rfl rfl rfl rfl ?_
  refine x_aload_n (pc' := 2503) rfl rfl rfl rfl rfl ?_
  refine x_iload (pc' := 2505) rfl rfl rfl ?_
  refine x_iconst (pc' := 2506) rfl rfl ?_
  refine x_iadd (pc' := 2507) (z := 1) rfl rfl (by decide) ?_
  refine x_iald (pc' := 2508) (N := 7) (x := (io m)) rfl rfl rfl (z_N_29_0 e) (io_in (p := 1) (N := 7) (by decide) (by decide)) (Eq.trans (congrArg (sA t 29 0) (nn_io (p := 1) (by decide))) (Eq.trans (z_A_29_0_1 e) e0)) ?_
  refine x_aload_n (pc' := 2509) rfl rfl rfl rfl rfl ?_
  refine x_iload (pc' := 2511) rfl rfl rfl ?_
  refine x_iconst (pc' := 2512) rfl rfl ?_
  refine x_iadd (pc' := 2513) (z := 2) rfl rfl (by decide) ?_
  refine x_iald (pc' := 2514) (N := 7) (x := 2) rfl rfl rfl (z_N_29_0 e) (io_in (p := 2) (N := 7) (by decide) (by decide)) (Eq.trans (congrArg (sA t 29 0) (nn_io (p := 2) (by decide))) (Eq.trans (z_A_29_0_2 e) e1)) ?_
  refine x_aload_n (pc' := 2515) rfl rfl rfl rfl rfl ?_
  refine x_cs (ls0 := [_, _, _, _, sJk]) (rest := []) rfl rfl rfl rfl ?_
  refine x_aload_n (pc' := 1) rfl rfl rfl rfl rfl ?_
  refine x_iconst (pc' := 2) rfl rfl ?_
  refine x_aload_n (pc' := 3) rfl rfl rfl rfl rfl ?_
  refine x_iload_n (pc' := 4) rfl rfl rfl ?_
  refine x_iload_n (pc' := 5) rfl rfl rfl ?_
  refine x_cv (ls0 := [_, _, _, sJk]) (rest := [_, _]) rfl rfl rfl rfl rfl ?_
  refine x_aload_n (pc' := 1) rfl rfl rfl rfl rfl ?_
  refine x_iload_n (pc' := 2) rfl rfl rfl ?_
  refine x_cv (ls0 := [_, _]) (rest := []) rfl rfl rfl rfl rfl ?_
  refine x_iload_n (pc' := 1) rfl rfl rfl ?_
  refine x_if (a' := 16) (pc' := 4) (z := decide (m < 0)) rfl rfl rfl (ic_lt (p := m) (q := 0) (Nat.lt_trans hm (by decide)) (by decide)) (fun h => absurd (of_decide_eq_true h) (by first | decide | omega | simp)) (fun _ => ?_)
  refine x_iload_n (pc' := 5) rfl rfl rfl ?_
  refine x_aload_n (pc' := 6) rfl rfl rfl rfl rfl ?_
  refine x_gR (pc' := 9) (r := (some 0)) rfl rfl rfl (z_R_704_0 e) ?_
  refine x_gR (pc' := 12) (r := (some 0)) rfl rfl rfl (z_R_321_0 e) ?_
  refine x_alen (pc' := 13) (N := 6) rfl rfl rfl (z_N_26_0 e) (?_ : X _ _ _ (.inl 6 :: _) _ _)
  refine x_icmp (a' := 27) (pc' := 16) (z := decide (m < 6)) rfl rfl rfl (ic_lt (p := m) (q := 6) (Nat.lt_trans hm (by decide)) (by decide)) (fun _ => ?_) (fun h => absurd (Nat.lt_of_lt_of_le hm (by decide)) (of_decide_eq_false h))
  refine x_aload_n (pc' := 28) rfl rfl rfl rfl rfl ?_
  refine x_gR (pc' := 31) (r := (some 0)) rfl rfl rfl (z_R_704_0 e) ?_
  refine x_gR (pc' := 34) (r := (some 0)) rfl rfl rfl (z_R_321_0 e) ?_
  refine x_iload_n (pc' := 35) rfl rfl rfl ?_
  refine x_aald (pc' := 36) (N := 6) (k' := 7) (r := (some m)) rfl rfl rfl (z_N_26_0 e) (io_in (p := m) (N := 6) hm (by decide)) (Eq.trans (congrArg (sE t 26 0) (nn_io (p := m) (Nat.lt_trans hm (by decide)))) (kM (Cn_e e) hm)) ?_
  refine x_reta rfl rfl ?_
  refine sK_i (pc' := 5) rfl ?_
  refine x_astore_n (pc' := 6) (ls' := [_, _, _, _]) rfl rfl rfl rfl rfl ?_
  refine x_aload_n (pc' := 7) rfl rfl rfl rfl rfl ?_
  refine x_gR (pc' := 10) (r := (some 0)) rfl rfl rfl (z_R_704_0 e) ?_
  refine x_aload_n (pc' := 11) rfl rfl rfl rfl rfl ?_
  refine x_aload_n (pc' := 12) rfl rfl rfl rfl rfl ?_
  refine x_iload_n (pc' := 13) rfl rfl rfl ?_
  refine x_cv (ls0 := [_, _]) (rest := [_, _]) rfl rfl rfl rfl rfl ?_
  refine x_iload_n (pc' := 1) rfl rfl rfl ?_
  refine x_if (a' := 16) (pc' := 4) (z := false) rfl rfl rfl (by decide) (fun h => by cases h) (fun _ => ?_)
  refine x_iload_n (pc' := 5) rfl rfl rfl ?_
  refine x_aload_n (pc' := 6) rfl rfl rfl rfl rfl ?_
  refine x_gR (pc' := 9) (r := (some 0)) rfl rfl rfl (z_R_704_0 e) ?_
  refine x_gR (pc' := 12) (r := (some 0)) rfl rfl rfl (z_R_320_0 e) ?_
  refine x_alen (pc' := 13) (N := 3) rfl rfl rfl (z_N_25_0 e) (?_ : X _ _ _ (.inl 3 :: _) _ _)
  refine x_icmp (a' := 27) (pc' := 16) (z := true) rfl rfl rfl (by decide) (fun _ => ?_) (fun h => by cases h)
  refine x_aload_n (pc' := 28) rfl rfl rfl rfl rfl ?_
  refine x_gR (pc' := 31) (r := (some 0)) rfl rfl rfl (z_R_704_0 e) ?_
  refine x_gR (pc' := 34) (r := (some 0)) rfl rfl rfl (z_R_320_0 e) ?_
  refine x_iload_n (pc' := 35) rfl rfl rfl ?_
  refine x_aald (pc' := 36) (N := 3) (k' := 2) (r := (some 2)) rfl rfl rfl (z_N_25_0 e) (io_in (p := 2) (N := 3) (by decide) (by decide)) (Eq.trans (congrArg (sE t 25 0) (nn_io (p := 2) (by decide))) (z_E_25_0_2 e)) ?_
  refine x_reta rfl rfl ?_
  refine sK_i (pc' := 16) rfl ?_
  refine x_cv (ls0 := [_, _, _, sJk, sJk, sJk]) (rest := []) rfl rfl rfl rfl rfl ?_
  refine x_iconst (pc' := 1) rfl rfl ?_
  refine x_istore_n (pc' := 2) (ls' := [_, _, _, _, _, _]) rfl rfl rfl rfl ?_
  refine x_iconst (pc' := 3) rfl rfl ?_
  refine x_istore (pc' := 5) (ls' := [_, _, _, _, _, _]) rfl rfl rfl rfl ?_
  refine x_iload (pc' := 7) rfl rfl rfl ?_
  refine x_aload_n (pc' := 8) rfl rfl rfl rfl rfl ?_
  refine x_gR (pc' := 11) (r := (some 0)) rfl rfl rfl (z_R_322_0 e) ?_
  refine x_cv (ls0 := [_]) (rest := [_]) rfl rfl rfl rfl rfl ?_
  refine x_aload_n (pc' := 1) rfl rfl rfl rfl rfl ?_
  refine x_gI (pc' := 4) (x := 0) rfl rfl rfl (z_I_834_0 e) ?_
  refine x_reti rfl rfl ?_
  refine sK_i (pc' := 14) rfl ?_
  refine x_icmp (a' := 96) (pc' := 17) (z := true) rfl rfl rfl (by decide) (fun _ => ?_) (fun h => by cases h)
  refine x_iload_n (pc' := 97) rfl rfl rfl ?_
  refine x_reti rfl rfl ?_
  refine sK_i (pc' := 19) rfl ?_
  refine x_reti rfl rfl ?_
  refine sK_i (pc' := 8) rfl ?_
  refine x_i2l (pc' := 9) (z := (0 : Int64)) rfl rfl (by decide) ?_
  refine x_last (pc' := 10) (N := 1) (p := 0) rfl rfl (z_N_23_0 e) (io_in (p := 0) (N := 1) (by decide) (by decide)) (nn_io (p := 0) (by decide)) ?_
  refine x_goto (pc' := 17) rfl rfl ?_
  refine x_iconst (pc' := 18) rfl rfl ?_
  refine x_reti rfl rfl ?_
  refine sK_i (pc' := 2518) rfl ?_
  refine x_istore (pc' := 2520) (ls' := [_, _, _, _, _, _, _]) rfl rfl rfl rfl ?_
  refine x_aload_n (pc' := 2521) rfl rfl rfl rfl rfl ?_
  refine x_aload_n (pc' := 2522) rfl rfl rfl rfl rfl ?_
  refine x_iload (pc' := 2524) rfl rfl rfl ?_
  refine x_iconst (pc' := 2525) rfl rfl ?_
  refine x_iadd (pc' := 2526) (z := 1) rfl rfl (by decide) ?_
  refine x_iald (pc' := 2527) (N := 7) (x := (io m)) rfl rfl rfl (Eq.trans rdNL (z_N_29_0 e)) (io_in (p := 1) (N := 7) (by decide) (by decide)) (Eq.trans (congrArg (sA (sLw t 23 0 0 (0 : Int64)) 29 0) (nn_io (p := 1) (by decide))) (Eq.trans rdAL (Eq.trans (z_A_29_0_1 e) e0))) ?_
  refine x_aload_n (pc' := 2528) rfl rfl rfl rfl rfl ?_
  refine x_iload (pc' := 2530) rfl rfl rfl ?_
  refine x_iconst (pc' := 2531) rfl rfl ?_
  refine x_iadd (pc' := 2532) (z := 2) rfl rfl (by decide) ?_
  refine x_iald (pc' := 2533) (N := 7) (x := 2) rfl rfl rfl (Eq.trans rdNL (z_N_29_0 e)) (io_in (p := 2) (N := 7) (by decide) (by decide)) (Eq.trans (congrArg (sA (sLw t 23 0 0 (0 : Int64)) 29 0) (nn_io (p := 2) (by decide))) (Eq.trans rdAL (Eq.trans (z_A_29_0_2 e) e1))) ?_
  refine x_cv (ls0 := [_, _, _, sJk, sJk, sJk]) (rest := []) rfl rfl rfl rfl rfl ?_
  refine x_aload_n (pc' := 1) rfl rfl rfl rfl rfl ?_
  refine x_iload_n (pc' := 2) rfl rfl rfl ?_
  refine x_cs (ls0 := [_]) (rest := [_]) rfl rfl rfl rfl ?_
  refine x_iload_n (pc' := 1) rfl rfl rfl ?_
  refine x_iconst (pc' := 2) rfl rfl ?_
  refine x_iconst (pc' := 3) rfl rfl ?_
  refine x_cs (ls0 := [_, _, _]) (rest := []) rfl rfl rfl rfl ?_
  refine x_iload_n (pc' := 1) rfl rfl rfl ?_
  refine x_iload_n (pc' := 2) rfl rfl rfl ?_
  refine x_icmp (a' := 14) (pc' := 5) (z := decide (m < 0)) rfl rfl rfl (ic_lt (p := m) (q := 0) (Nat.lt_trans hm (by decide)) (by decide)) (fun h => absurd (of_decide_eq_true h) (by first | decide | omega | simp)) (fun _ => ?_)
  refine x_iload_n (pc' := 6) rfl rfl rfl ?_
  refine x_iload_n (pc' := 7) rfl rfl rfl ?_
  refine x_icmp (a' := 14) (pc' := 10) (z := decide (5 < m)) rfl rfl rfl (ic_gt (p := m) (q := 5) (Nat.lt_trans hm (by decide)) (by decide)) (fun h => absurd (of_decide_eq_true h) (fun z => absurd hm (Nat.not_lt.mpr z))) (fun _ => ?_)
  refine x_iconst (pc' := 11) rfl rfl ?_
  refine x_goto (pc' := 15) rfl rfl ?_
  refine x_retz (z := true) rfl rfl ?_
  refine sK_i (pc' := 6) rfl ?_
  refine x_retz (z := true) rfl rfl ?_
  refine sK_i (pc' := 5) rfl ?_
  refine x_if (a' := 19) (pc' := 8) (z := false) rfl rfl rfl (by decide) (fun h => by cases h) (fun _ => ?_)
  refine x_iload_n (pc' := 9) rfl rfl rfl ?_
  refine x_cs (ls0 := [_]) (rest := [_]) rfl rfl rfl rfl ?_
  refine x_iload_n (pc' := 1) rfl rfl rfl ?_
  refine x_iconst (pc' := 2) rfl rfl ?_
  refine x_iconst (pc' := 3) rfl rfl ?_
  refine x_cs (ls0 := [_, _, _]) (rest := []) rfl rfl rfl rfl ?_
  refine x_iload_n (pc' := 1) rfl rfl rfl ?_
  refine x_iload_n (pc' := 2) rfl rfl rfl ?_
  refine x_icmp (a' := 14) (pc' := 5) (z := false) rfl rfl rfl (by decide) (fun h => by cases h) (fun _ => ?_)
  refine x_iload_n (pc' := 6) rfl rfl rfl ?_
  refine x_iload_n (pc' := 7) rfl rfl rfl ?_
  refine x_icmp (a' := 14) (pc' := 10) (z := false) rfl rfl rfl (by decide) (fun h => by cases h) (fun _ => ?_)
  refine x_iconst (pc' := 11) rfl rfl ?_
  refine x_goto (pc' := 15) rfl rfl ?_
  refine x_retz (z := true) rfl rfl ?_
  refine sK_i (pc' := 6) rfl ?_
  refine x_retz (z := true) rfl rfl ?_
  refine sK_i (pc' := 12) rfl ?_
  refine x_if (a' := 19) (pc' := 15) (z := false) rfl rfl rfl (by decide) (fun h => by cases h) (fun _ => ?_)
  refine x_iconst (pc' := 16) rfl rfl ?_
  refine x_goto (pc' := 20) rfl rfl ?_
  refine x_cv (ls0 := [_, _]) (rest := []) rfl rfl rfl rfl rfl ?_
  refine x_aload_n (pc' := 1) rfl rfl rfl rfl rfl ?_
  refine x_iload_n (pc' := 2) rfl rfl rfl ?_
  refine x_pI (pc' := 5) rfl rfl rfl ?_
  refine x_iload_n (pc' := 6) rfl rfl rfl ?_
  refine x_if (a' := 13) (pc' := 9) (z := false) rfl rfl rfl (by decide) (fun h => by cases h) (fun _ => ?_)
  refine x_iconst (pc' := 10) rfl rfl ?_
  refine x_goto (pc' := 14) rfl rfl ?_
  refine x_retz (z := true) rfl rfl ?_
  refine sK_i (pc' := 23) rfl ?_
  refine x_if (a' := 28) (pc' := 26) (z := true) rfl rfl rfl (by decide) (fun _ => ?_) (fun h => by cases h)
  refine x_iconst (pc' := 29) rfl rfl ?_
  refine x_istore_n (pc' := 30) (ls' := [_, _, _, _, _, _]) rfl rfl rfl rfl ?_
  refine x_iconst (pc' := 31) rfl rfl ?_
  refine x_istore (pc' := 33) (ls' := [_, _, _, _, _, _]) rfl rfl rfl rfl ?_
  refine x_iload (pc' := 35) rfl rfl rfl ?_
  refine x_aload_n (pc' := 36) rfl rfl rfl rfl rfl ?_
  refine x_gI (pc' := 39) (x := 0) rfl rfl rfl (Eq.trans (rdI_F rfl) (Eq.trans rdIL (z_I_801_0 e))) ?_
  refine x_icmp (a' := 120) (pc' := 42) (z := true) rfl rfl rfl (by decide) (fun _ => ?_) (fun h => by cases h)
  refine x_iload_n (pc' := 121) rfl rfl rfl ?_
  refine x_reti rfl rfl ?_
  refine sK_i (pc' := 2536) rfl ?_
  refine x_istore (pc' := 2538) (ls' := [_, _, _, _, _, _, _]) rfl rfl rfl rfl ?_
  refine x_aload_n (pc' := 2539) rfl rfl rfl rfl rfl ?_
  refine x_cv (ls0 := [_]) (rest := []) rfl rfl rfl rfl rfl ?_
  refine x_aload_n (pc' := 1) rfl rfl rfl rfl rfl ?_
  refine x_gI (pc' := 4) (x := 0) rfl rfl rfl sI_s ?_
  refine x_reti rfl rfl ?_
  refine sK_i (pc' := 2542) rfl ?_
  refine x_iload (pc' := 2544) rfl rfl rfl ?_
  refine x_icmp (a' := 2549) (pc' := 2547) (z := true) rfl rfl rfl (by decide) (fun _ => ?_) (fun h => by cases h)
  refine x_iload (pc' := 2551) rfl rfl rfl ?_
  refine x_if (a' := 2566) (pc' := 2554) (z := false) rfl rfl rfl (by decide) (fun h => by cases h) (fun _ => ?_)
  refine x_aload_n (pc' := 2555) rfl rfl rfl rfl rfl ?_
  refine x_iconst (pc' := 2556) rfl rfl ?_
  refine x_lald (pc' := 2557) (N := 1) (x := (0 : Int64)) rfl rfl (Eq.trans rdNI (Eq.trans rdNL (z_N_23_0 e))) (io_in (p := 0) (N := 1) (by decide) (by decide)) (Eq.trans (congrArg (sL (sIw (sLw t 23 0 0 (0 : Int64)) 768 0 0) 23 0) (nn_io (p := 0) (by decide))) (Eq.trans rdLI sL_s)) ?_
  refine x_iload (pc' := 2559) rfl rfl rfl ?_
  refine x_i2l (pc' := 2560) (z := (0 : Int64)) rfl rfl (by decide) ?_
  refine x_lcmp (pc' := 2561) (z := 0) rfl rfl (sLcmp_s _) ?_
  refine x_if (a' := 2566) (pc' := 2564) (z := true) rfl rfl rfl (by decide) (fun _ => ?_) (fun h => by cases h)
  refine x_goto (pc' := 2938) rfl rfl ?_
  refine x_iinc (pc' := 2941) (y := 7) (ls' := [_, _, _, _, _, _, _]) rfl rfl rfl rfl rfl ?_
  refine x_goto (pc' := 23) rfl rfl ?_
  refine x_iload (pc' := 25) rfl rfl rfl ?_
  refine x_aload_n (pc' := 26) rfl rfl rfl rfl rfl ?_
  refine x_alen (pc' := 27) (N := 7) rfl rfl rfl (Eq.trans rdNI (Eq.trans rdNL (z_N_29_0 e))) (?_ : X _ _ _ (.inl 7 :: _) _ _)
  refine x_bipush (pc' := 29) rfl rfl ?_
  refine x_isub (pc' := 30) (z := 0) rfl rfl (by decide) ?_
  refine x_icmp (a' := 2944) (pc' := 33) (z := true) rfl rfl rfl (by decide) (fun _ => ?_) (fun h => by cases h)
  refine x_iconst (pc' := 2945) rfl rfl ?_
  refine x_retz (z := true) rfl rfl ?_
  exact Qp_ok e (p := 0) (q := 0) rfl rfl rfl rfl
set_option maxHeartbeats 4000000 in
set_option maxRecDepth 10000 in
theorem v_33_v_A {t : sT} {xs : Nat → Int32} {m : Nat}
    (e : t = T16 7 xs)
    (hk : ((xs 0) &&& 63) = 33)
    (hm : m < 6)
    (e0 : xs 1 = io m)
    (e1 : (xs 2) < 0) :
    X 297 23 [.inr (.inr (29, (some 0))), .inr (.inr (11, (some 0))), .inr (.inr (12, (some 0))), .inr (.inr (23, (some 0))), .inl 0, sJk, sJk] [] t Qp := by
  refine x_iload (pc' := 25) rfl rfl rfl ?_
  refine x_aload_n (pc' := 26) rfl rfl rfl rfl rfl ?_
  refine x_alen (pc' := 27) (N := 7) rfl rfl rfl (z_N_29_0 e) (?_ : X _ _ _ (.inl 7 :: _) _ _)
  refine x_bipush (pc' := 29) rfl rfl ?_
  refine x_isub (pc' := 30) (z := 0) rfl rfl (by decide) ?_
  refine x_icmp (a' := 2944) (pc' := 33) (z := false) rfl rfl rfl (by decide) (fun h => by cases h) (fun _ => ?_)
  refine x_aload_n (pc' := 34) rfl rfl rfl rfl rfl ?_
  refine x_iload (pc' := 36) rfl rfl rfl ?_
  refine x_iald (pc' := 37) (N := 7) (x := (xs 0)) rfl rfl rfl (z_N_29_0 e) (io_in (p := 0) (N := 7) (by decide) (by decide)) (Eq.trans (congrArg (sA t 29 0) (nn_io (p := 0) (by decide))) (z_A_29_0_0 e)) ?_
  refine x_bipush (pc' := 39) rfl rfl ?_
  refine x_iand (pc' := 40) (z := ((xs 0) &&& 63)) rfl rfl rfl ?_
  refine x_switch (pc' := 2501) rfl (by rw [hk]; decide) ?_
  refine x_aload_n (pc' := 2502) rfl rfl rfl rfl rfl ?_
  refine x_aload_n (pc' := 2503) rfl rfl rfl rfl rfl ?_
  refine x_iload (pc' := 2505) rfl rfl rfl ?_
  refine x_iconst (pc' := 2506) rfl rfl ?_
  refine x_iadd (pc' := 2507) (z := 1) rfl rfl (by decide) ?_
  refine x_iald (pc' := 2508) (N := 7) (x := (io m)) rfl rfl rfl (z_N_29_0 e) (io_in (p := 1) (N := 7) (by decide) (by decide)) (Eq.trans (congrArg (sA t 29 0) (nn_io (p := 1) (by decide))) (Eq.trans (z_A_29_0_1 e) e0)) ?_
  refine x_aload_n (pc' := 2509) rfl rfl rfl rfl rfl ?_
  refine x_iload (pc' := 2511) rfl rfl rfl ?_
  refine x_iconst (pc' := 2512) rfl rfl ?_
  refine x_iadd (pc' := 2513) (z := 2) rfl rfl (by decide) ?_
  refine x_iald (pc' := 2514) (N := 7) (x := (xs 2)) rfl rfl rfl (z_N_29_0 e) (io_in (p := 2) (N := 7) (by decide) (by decide)) (Eq.trans (congrArg (sA t 29 0) (nn_io (p := 2) (by decide))) (z_A_29_0_2 e)) ?_
  refine x_aload_n (pc' := 2515) rfl rfl rfl rfl rfl ?_
  refine x_cs (ls0 := [_, _, _, _, sJk]) (rest := []) rfl rfl rfl rfl ?_
  refine x_aload_n (pc' := 1) rfl rfl rfl rfl rfl ?_
  refine x_iconst (pc' := 2) rfl rfl ?_
  refine x_aload_n (pc' := 3) rfl rfl rfl rfl rfl ?_
  refine x_iload_n (pc' := 4) rfl rfl rfl ?_
  refine x_iload_n (pc' := 5) rfl rfl rfl ?_
  refine x_cv (ls0 := [_, _, _, sJk]) (rest := [_, _]) rfl rfl rfl rfl rfl ?_
  refine x_aload_n (pc' := 1) rfl rfl rfl rfl rfl ?_
  refine x_iload_n (pc' := 2) rfl rfl rfl ?_
  refine x_cv (ls0 := [_, _]) (rest := []) rfl rfl rfl rfl rfl ?_
  refine x_iload_n (pc' := 1) rfl rfl rfl ?_
  refine x_if (a' := 16) (pc' := 4) (z := decide (m < 0)) rfl rfl rfl (ic_lt (p := m) (q := 0) (Nat.lt_trans hm (by decide)) (by decide)) (fun h => absurd (of_decide_eq_true h) (by first | decide | omega | simp)) (fun _ => ?_)
  refine x_iload_n (pc' := 5) rfl rfl rfl ?_
  refine x_aload_n (pc' := 6) rfl rfl rfl rfl rfl ?_
  refine x_gR (pc' := 9) (r := (some 0)) rfl rfl rfl (z_R_704_0 e) ?_
  refine x_gR (pc' := 12) (r := (some 0)) rfl rfl rfl (z_R_321_0 e) ?_
  refine x_alen (pc' := 13) (N := 6) rfl rfl rfl (z_N_26_0 e) (?_ : X _ _ _ (.inl 6 :: _) _ _)
  refine x_icmp (a' := 27) (pc' := 16) (z := decide (m < 6)) rfl rfl rfl (ic_lt (p := m) (q := 6) (Nat.lt_trans hm (by decide)) (by decide)) (fun _ => ?_) (fun h => absurd (Nat.lt_of_lt_of_le hm (by decide)) (of_decide_eq_false h))
  refine x_aload_n (pc' := 28) rfl rfl rfl rfl rfl ?_
  refine x_gR (pc' := 31) (r := (some 0)) rfl rfl rfl (z_R_704_0 e) ?_
  refine x_gR (pc' := 34) (r := (some 0)) rfl rfl rfl (z_R_321_0 e) ?_
  refine x_iload_n (pc' := 35) rfl rfl rfl ?_
  refine x_aald (pc' := 36) (N := 6) (k' := 7) (r := (some m)) rfl rfl rfl (z_N_26_0 e) (io_in (p := m) (N := 6) hm (by decide)) (Eq.trans (congrArg (sE t 26 0) (nn_io (p := m) (Nat.lt_trans hm (by decide)))) (kM (Cn_e e) hm)) ?_
  refine x_reta rfl rfl ?_
  refine sK_i (pc' := 5) rfl ?_
  refine x_astore_n (pc' := 6) (ls' := [_, _, _, _]) rfl rfl rfl rfl rfl ?_
  refine x_aload_n (pc' := 7) rfl rfl rfl rfl rfl ?_
  refine x_gR (pc' := 10) (r := (some 0)) rfl rfl rfl (z_R_704_0 e) ?_
  refine x_aload_n (pc' := 11) rfl rfl rfl rfl rfl ?_
  refine x_aload_n (pc' := 12) rfl rfl rfl rfl rfl ?_
  refine x_iload_n (pc' := 13) rfl rfl rfl ?_
  refine x_cv (ls0 := [_, _]) (rest := [_, _]) rfl rfl rfl rfl rfl ?_
  refine x_iload_n (pc' := 1) rfl rfl rfl ?_
  refine x_if (a' := 16) (pc' := 4) (z := decide ((xs 2) < 0)) rfl rfl rfl rfl (fun _ => ?_) (fun h => absurd e1 (of_decide_eq_false h))
  refine x_throw rfl rfl ?_
  refine sK_n (by decide +kernel) rfl ?_
  refine sK_h (h := 13) (by decide +kernel) rfl ?_
  refine x_catch (pc' := 15) (ls' := [_, _, _, _, _]) rfl rfl rfl rfl ?_
  refine x_iconst (pc' := 16) rfl rfl ?_
  refine x_reti rfl rfl ?_
  refine sK_i (pc' := 2518) rfl ?_
  refine x_istore (pc' := 2520) (ls' := [_, _, _, _, _, _, _]) rfl rfl rfl rfl ?_
  refine x_aload_n (pc' := 2521) rfl rfl rfl rfl rfl ?_
  refine x_aload_n (pc' := 2522) rfl rfl rfl rfl rfl ?_
  refine x_iload (pc' := 2524) rfl rfl rfl ?_
  refine x_iconst (pc' := 2525) rfl rfl ?_
  refine x_iadd (pc' := 2526) (z := 1) rfl rfl (by decide) ?_
  refine x_iald (pc' := 2527) (N := 7) (x := (io m)) rfl rfl rfl (Eq.trans rdNthr (z_N_29_0 e)) (io_in (p := 1) (N := 7) (by decide) (by decide)) (Eq.trans (congrArg (sA (sThr t) 29 0) (nn_io (p := 1) (by decide))) (Eq.trans rdAthr (Eq.trans (z_A_29_0_1 e) e0))) ?_
  refine x_aload_n (pc' := 2528) rfl rfl rfl rfl rfl ?_
  refine x_iload (pc' := 2530) rfl rfl rfl ?_
  refine x_iconst (pc' := 2531) rfl rfl ?_
  refine x_iadd (pc' := 2532) (z := 2) rfl rfl (by decide) ?_
  refine x_iald (pc' := 2533) (N := 7) (x := (xs 2)) rfl rfl rfl (Eq.trans rdNthr (z_N_29_0 e)) (io_in (p := 2) (N := 7) (by decide) (by decide)) (Eq.trans (congrArg (sA (sThr t) 29 0) (nn_io (p := 2) (by decide))) (Eq.trans rdAthr (z_A_29_0_2 e))) ?_
  refine x_cv (ls0 := [_, _, _, sJk, sJk, sJk]) (rest := []) rfl rfl rfl rfl rfl ?_
  refine x_aload_n (pc' := 1) rfl rfl rfl rfl rfl ?_
  refine x_iload_n (pc' := 2) rfl rfl rfl ?_
  refine x_cs (ls0 := [_]) (rest := [_]) rfl rfl rfl rfl ?_
  refine x_iload_n (pc' := 1) rfl rfl rfl ?_
  refine x_iconst (pc' := 2) rfl rfl ?_
  refine x_iconst (pc' := 3) rfl rfl ?_
  refine x_cs (ls0 := [_, _, _]) (rest := []) rfl rfl rfl rfl ?_
  refine x_iload_n (pc' := 1) rfl rfl rfl ?_
  refine x_iload_n (pc' := 2) rfl rfl rfl ?_
  refine x_icmp (a' := 14) (pc' := 5) (z := decide (m < 0)) rfl rfl rfl (ic_lt (p := m) (q := 0) (Nat.lt_trans hm (by decide)) (by decide)) (fun h => absurd (of_decide_eq_true h) (by first | decide | omega | simp)) (fun _ => ?_)
  refine x_iload_n (pc' := 6) rfl rfl rfl ?_
  refine x_iload_n (pc' := 7) rfl rfl rfl ?_
  refine x_icmp (a' := 14) (pc' := 10) (z := decide (5 < m)) rfl rfl rfl (ic_gt (p := m) (q := 5) (Nat.lt_trans hm (by decide)) (by decide)) (fun h => absurd (of_decide_eq_true h) (fun z => absurd hm (Nat.not_lt.mpr z))) (fun _ => ?_)
  refine x_iconst (pc' := 11) rfl rfl ?_
  refine x_goto (pc' := 15) rfl rfl ?_
  refine x_retz (z := true) rfl rfl ?_
  refine sK_i (pc' := 6) rfl ?_
  refine x_retz (z := true) rfl rfl ?_
  refine sK_i (pc' := 5) rfl ?_
  refine x_if (a' := 19) (pc' := 8) (z := false) rfl rfl rfl (by decide) (fun h => by cases h) (fun _ => ?_)
  refine x_iload_n (pc' := 9) rfl rfl rfl ?_
  refine x_cs (ls0 := [_]) (rest := [_]) rfl rfl rfl rfl ?_
  refine x_iload_n (pc' := 1) rfl rfl rfl ?_
  refine x_iconst (pc' := 2) rfl rfl ?_
  refine x_iconst (pc' := 3) rfl rfl ?_
  refine x_cs (ls0 := [_, _, _]) (rest := []) rfl rfl rfl rfl ?_
  refine x_iload_n (pc' := 1) rfl rfl rfl ?_
  refine x_iload_n (pc' := 2) rfl rfl rfl ?_
  refine x_icmp (a' := 14) (pc' := 5) (z := decide ((xs 2) < 0)) rfl rfl rfl rfl (fun _ => ?_) (fun h => absurd e1 (of_decide_eq_false h))
  refine x_iconst (pc' := 15) rfl rfl ?_
  refine x_retz (z := false) rfl rfl ?_
  refine sK_i (pc' := 6) rfl ?_
  refine x_retz (z := false) rfl rfl ?_
  refine sK_i (pc' := 12) rfl ?_
  refine x_if (a' := 19) (pc' := 15) (z := true) rfl rfl rfl (by decide) (fun _ => ?_) (fun h => by cases h)
  refine x_iconst (pc' := 20) rfl rfl ?_
  refine x_cv (ls0 := [_, _]) (rest := []) rfl rfl rfl rfl rfl ?_
  refine x_aload_n (pc' := 1) rfl rfl rfl rfl rfl ?_
  refine x_iload_n (pc' := 2) rfl rfl rfl ?_
  refine x_pI (pc' := 5) rfl rfl rfl ?_
  refine x_iload_n (pc' := 6) rfl rfl rfl ?_
  refine x_if (a' := 13) (pc' := 9) (z := true) rfl rfl rfl (by decide) (fun _ => ?_) (fun h => by cases h)
  refine x_iconst (pc' := 14) rfl rfl ?_
  refine x_retz (z := false) rfl rfl ?_
  refine sK_i (pc' := 23) rfl ?_
  refine x_if (a' := 28) (pc' := 26) (z := false) rfl rfl rfl (by decide) (fun h => by cases h) (fun _ => ?_)
  refine x_iconst (pc' := 27) rfl rfl ?_
  refine x_reti rfl rfl ?_
  refine sK_i (pc' := 2536) rfl ?_
  refine x_istore (pc' := 2538) (ls' := [_, _, _, _, _, _, _]) rfl rfl rfl rfl ?_
  refine x_aload_n (pc' := 2539) rfl rfl rfl rfl rfl ?_
  refine x_cv (ls0 := [_]) (rest := []) rfl rfl rfl rfl rfl ?_
  refine x_aload_n (pc' := 1) rfl rfl rfl rfl rfl ?_
  refine x_gI (pc' := 4) (x := 1) rfl rfl rfl sI_s ?_
  refine x_reti rfl rfl ?_
  refine sK_i (pc' := 2542) rfl ?_
  refine x_iload (pc' := 2544) rfl rfl rfl ?_
  refine x_icmp (a' := 2549) (pc' := 2547) (z := true) rfl rfl rfl (by decide) (fun _ => ?_) (fun h => by cases h)
  refine x_iload (pc' := 2551) rfl rfl rfl ?_
  refine x_if (a' := 2566) (pc' := 2554) (z := true) rfl rfl rfl (by decide) (fun _ => ?_) (fun h => by cases h)
  refine x_goto (pc' := 2938) rfl rfl ?_
  refine x_iinc (pc' := 2941) (y := 7) (ls' := [_, _, _, _, _, _, _]) rfl rfl rfl rfl rfl ?_
  refine x_goto (pc' := 23) rfl rfl ?_
  refine x_iload (pc' := 25) rfl rfl rfl ?_
  refine x_aload_n (pc' := 26) rfl rfl rfl rfl rfl ?_
  refine x_alen (pc' := 27) (N := 7) rfl rfl rfl (Eq.trans rdNI (Eq.trans rdNthr (z_N_29_0 e))) (?_ : X _ _ _ (.inl 7 :: _) _ _)
  refine x_bipush (pc' := 29) rfl rfl ?_
  refine x_isub (pc' := 30) (z := 0) rfl rfl (by decide) ?_
  refine x_icmp (a' := 2944) (pc' := 33) (z := true) rfl rfl rfl (by decide) (fun _ => ?_) (fun h => by cases h)
  refine x_iconst (pc' := 2945) rfl rfl ?_
  refine x_retz (z := true) rfl rfl ?_
  exact Qp_ok e (p := 1) (q := 6) rfl rfl rfl rfl
set_option maxHeartbeats 4000000 in
set_option maxRecDepth 10000 in
theorem v_33_v_B {t : sT} {xs : Nat → Int32} {m : Nat}
    (e : t = T16 7 xs)
    (hk : ((xs 0) &&& 63) = 33)
    (hm : m < 6)
    (e0 : xs 1 = io m)
    (e1 : ¬ (xs 2) < 0)
    (f1 : ¬ (xs 2) < 3) :
    X 297 23 [.inr (.inr (29, (some 0))), .inr (.inr (11, (some 0))), .inr (.inr (12, (some 0))), .inr (.inr (23, (some 0))), .inl 0, sJk, sJk] [] t Qp := by
  refine x_iload (pc' := 25) rfl rfl rfl ?_
  refine x_aload_n (pc' := 26) rfl rfl rfl rfl rfl ?_
  refine x_alen (pc' := 27) (N := 7) rfl rfl rfl (z_N_29_0 e) (?_ : X _ _ _ (.inl 7 :: _) _ _)
  refine x_bipush (pc' := 29) rfl rfl ?_
  refine x_isub (pc' := 30) (z := 0) rfl rfl (by decide) ?_
  refine x_icmp (a' := 2944) (pc' := 33) (z := false) rfl rfl rfl (by decide) (fun h => by cases h) (fun _ => ?_)
  refine x_aload_n (pc' := 34) rfl rfl rfl rfl rfl ?_
  refine x_iload (pc' := 36) rfl rfl rfl ?_
  refine x_iald (pc' := 37) (N := 7) (x := (xs 0)) rfl rfl rfl (z_N_29_0 e) (io_in (p := 0) (N := 7) (by decide) (by decide)) (Eq.trans (congrArg (sA t 29 0) (nn_io (p := 0) (by decide))) (z_A_29_0_0 e)) ?_
  refine x_bipush (pc' := 39) rfl rfl ?_
  refine x_iand (pc' := 40) (z := ((xs 0) &&& 63)) rfl rfl rfl ?_
  refine x_switch (pc' := 2501) rfl (by rw [hk]; decide) ?_
  refine x_aload_n (pc' := 2502) rfl rfl rfl rfl rfl ?_
  refine x_aload_n (pc' := 2503) rfl rfl rfl rfl rfl ?_
  refine x_iload (pc' := 2505) rfl rfl rfl ?_
  refine x_iconst (pc' := 2506) rfl rfl ?_
  refine x_iadd (pc' := 2507) (z := 1) rfl rfl (by decide) ?_
  refine x_iald (pc' := 2508) (N := 7) (x := (io m)) rfl rfl rfl (z_N_29_0 e) (io_in (p := 1) (N := 7) (by decide) (by decide)) (Eq.trans (congrArg (sA t 29 0) (nn_io (p := 1) (by decide))) (Eq.trans (z_A_29_0_1 e) e0)) ?_
  refine x_aload_n (pc' := 2509) rfl rfl rfl rfl rfl ?_
  refine x_iload (pc' := 2511) rfl rfl rfl ?_
  refine x_iconst (pc' := 2512) rfl rfl ?_
  refine x_iadd (pc' := 2513) (z := 2) rfl rfl (by decide) ?_
  refine x_iald (pc' := 2514) (N := 7) (x := (xs 2)) rfl rfl rfl (z_N_29_0 e) (io_in (p := 2) (N := 7) (by decide) (by decide)) (Eq.trans (congrArg (sA t 29 0) (nn_io (p := 2) (by decide))) (z_A_29_0_2 e)) ?_
  refine x_aload_n (pc' := 2515) rfl rfl rfl rfl rfl ?_
  refine x_cs (ls0 := [_, _, _, _, sJk]) (rest := []) rfl rfl rfl rfl ?_
  refine x_aload_n (pc' := 1) rfl rfl rfl rfl rfl ?_
  refine x_iconst (pc' := 2) rfl rfl ?_
  refine x_aload_n (pc' := 3) rfl rfl rfl rfl rfl ?_
  refine x_iload_n (pc' := 4) rfl rfl rfl ?_
  refine x_iload_n (pc' := 5) rfl rfl rfl ?_
  refine x_cv (ls0 := [_, _, _, sJk]) (rest := [_, _]) rfl rfl rfl rfl rfl ?_
  refine x_aload_n (pc' := 1) rfl rfl rfl rfl rfl ?_
  refine x_iload_n (pc' := 2) rfl rfl rfl ?_
  refine x_cv (ls0 := [_, _]) (rest := []) rfl rfl rfl rfl rfl ?_
  refine x_iload_n (pc' := 1) rfl rfl rfl ?_
  refine x_if (a' := 16) (pc' := 4) (z := decide (m < 0)) rfl rfl rfl (ic_lt (p := m) (q := 0) (Nat.lt_trans hm (by decide)) (by decide)) (fun h => absurd (of_decide_eq_true h) (by first | decide | omega | simp)) (fun _ => ?_)
  refine x_iload_n (pc' := 5) rfl rfl rfl ?_
  refine x_aload_n (pc' := 6) rfl rfl rfl rfl rfl ?_
  refine x_gR (pc' := 9) (r := (some 0)) rfl rfl rfl (z_R_704_0 e) ?_
  refine x_gR (pc' := 12) (r := (some 0)) rfl rfl rfl (z_R_321_0 e) ?_
  refine x_alen (pc' := 13) (N := 6) rfl rfl rfl (z_N_26_0 e) (?_ : X _ _ _ (.inl 6 :: _) _ _)
  refine x_icmp (a' := 27) (pc' := 16) (z := decide (m < 6)) rfl rfl rfl (ic_lt (p := m) (q := 6) (Nat.lt_trans hm (by decide)) (by decide)) (fun _ => ?_) (fun h => absurd (Nat.lt_of_lt_of_le hm (by decide)) (of_decide_eq_false h))
  refine x_aload_n (pc' := 28) rfl rfl rfl rfl rfl ?_
  refine x_gR (pc' := 31) (r := (some 0)) rfl rfl rfl (z_R_704_0 e) ?_
  refine x_gR (pc' := 34) (r := (some 0)) rfl rfl rfl (z_R_321_0 e) ?_
  refine x_iload_n (pc' := 35) rfl rfl rfl ?_
  refine x_aald (pc' := 36) (N := 6) (k' := 7) (r := (some m)) rfl rfl rfl (z_N_26_0 e) (io_in (p := m) (N := 6) hm (by decide)) (Eq.trans (congrArg (sE t 26 0) (nn_io (p := m) (Nat.lt_trans hm (by decide)))) (kM (Cn_e e) hm)) ?_
  refine x_reta rfl rfl ?_
  refine sK_i (pc' := 5) rfl ?_
  refine x_astore_n (pc' := 6) (ls' := [_, _, _, _]) rfl rfl rfl rfl rfl ?_
  refine x_aload_n (pc' := 7) rfl rfl rfl rfl rfl ?_
  refine x_gR (pc' := 10) (r := (some 0)) rfl rfl rfl (z_R_704_0 e) ?_
  refine x_aload_n (pc' := 11) rfl rfl rfl rfl rfl ?_
  refine x_aload_n (pc' := 12) rfl rfl rfl rfl rfl ?_
  refine x_iload_n (pc' := 13) rfl rfl rfl ?_
  refine x_cv (ls0 := [_, _]) (rest := [_, _]) rfl rfl rfl rfl rfl ?_
  refine x_iload_n (pc' := 1) rfl rfl rfl ?_
  refine x_if (a' := 16) (pc' := 4) (z := decide ((xs 2) < 0)) rfl rfl rfl rfl (fun h => absurd (of_decide_eq_true h) e1) (fun _ => ?_)
  refine x_iload_n (pc' := 5) rfl rfl rfl ?_
  refine x_aload_n (pc' := 6) rfl rfl rfl rfl rfl ?_
  refine x_gR (pc' := 9) (r := (some 0)) rfl rfl rfl (z_R_704_0 e) ?_
  refine x_gR (pc' := 12) (r := (some 0)) rfl rfl rfl (z_R_320_0 e) ?_
  refine x_alen (pc' := 13) (N := 3) rfl rfl rfl (z_N_25_0 e) (?_ : X _ _ _ (.inl 3 :: _) _ _)
  refine x_icmp (a' := 27) (pc' := 16) (z := decide ((xs 2) < 3)) rfl rfl rfl rfl (fun h => absurd (of_decide_eq_true h) f1) (fun _ => ?_)
  refine x_throw rfl rfl ?_
  refine sK_n (by decide +kernel) rfl ?_
  refine sK_h (h := 13) (by decide +kernel) rfl ?_
  refine x_catch (pc' := 15) (ls' := [_, _, _, _, _]) rfl rfl rfl rfl ?_
  refine x_iconst (pc' := 16) rfl rfl ?_
  refine x_reti rfl rfl ?_
  refine sK_i (pc' := 2518) rfl ?_
  refine x_istore (pc' := 2520) (ls' := [_, _, _, _, _, _, _]) rfl rfl rfl rfl ?_
  refine x_aload_n (pc' := 2521) rfl rfl rfl rfl rfl ?_
  refine x_aload_n (pc' := 2522) rfl rfl rfl rfl rfl ?_
  refine x_iload (pc' := 2524) rfl rfl rfl ?_
  refine x_iconst (pc' := 2525) rfl rfl ?_
  refine x_iadd (pc' := 2526) (z := 1) rfl rfl (by decide) ?_
  refine x_iald (pc' := 2527) (N := 7) (x := (io m)) rfl rfl rfl (Eq.trans rdNthr (z_N_29_0 e)) (io_in (p := 1) (N := 7) (by decide) (by decide)) (Eq.trans (congrArg (sA (sThr t) 29 0) (nn_io (p := 1) (by decide))) (Eq.trans rdAthr (Eq.trans (z_A_29_0_1 e) e0))) ?_
  refine x_aload_n (pc' := 2528) rfl rfl rfl rfl rfl ?_
  refine x_iload (pc' := 2530) rfl rfl rfl ?_
  refine x_iconst (pc' := 2531) rfl rfl ?_
  refine x_iadd (pc' := 2532) (z := 2) rfl rfl (by decide) ?_
  refine x_iald (pc' := 2533) (N := 7) (x := (xs 2)) rfl rfl rfl (Eq.trans rdNthr (z_N_29_0 e)) (io_in (p := 2) (N := 7) (by decide) (by decide)) (Eq.trans (congrArg (sA (sThr t) 29 0) (nn_io (p := 2) (by decide))) (Eq.trans rdAthr (z_A_29_0_2 e))) ?_
  refine x_cv (ls0 := [_, _, _, sJk, sJk, sJk]) (rest := []) rfl rfl rfl rfl rfl ?_
  refine x_aload_n (pc' := 1) rfl rfl rfl rfl rfl ?_
  refine x_iload_n (pc' := 2) rfl rfl rfl ?_
  refine x_cs (ls0 := [_]) (rest := [_]) rfl rfl rfl rfl ?_
  refine x_iload_n (pc' := 1) rfl rfl rfl ?_
  refine x_iconst (pc' := 2) rfl rfl ?_
  refine x_iconst (pc' := 3) rfl rfl ?_
  refine x_cs (ls0 := [_, _, _]) (rest := []) rfl rfl rfl rfl ?_
  refine x_iload_n (pc' := 1) rfl rfl rfl ?_
  refine x_iload_n (pc' := 2) rfl rfl rfl ?_
  refine x_icmp (a' := 14) (pc' := 5) (z := decide (m < 0)) rfl rfl rfl (ic_lt (p := m) (q := 0) (Nat.lt_trans hm (by decide)) (by decide)) (fun h => absurd (of_decide_eq_true h) (by first | decide | omega | simp)) (fun _ => ?_)
  refine x_iload_n (pc' := 6) rfl rfl rfl ?_
  refine x_iload_n (pc' := 7) rfl rfl rfl ?_
  refine x_icmp (a' := 14) (pc' := 10) (z := decide (5 < m)) rfl rfl rfl (ic_gt (p := m) (q := 5) (Nat.lt_trans hm (by decide)) (by decide)) (fun h => absurd (of_decide_eq_true h) (fun z => absurd hm (Nat.not_lt.mpr z))) (fun _ => ?_)
  refine x_iconst (pc' := 11) rfl rfl ?_
  refine x_goto (pc' := 15) rfl rfl ?_
  refine x_retz (z := true) rfl rfl ?_
  refine sK_i (pc' := 6) rfl ?_
  refine x_retz (z := true) rfl rfl ?_
  refine sK_i (pc' := 5) rfl ?_
  refine x_if (a' := 19) (pc' := 8) (z := false) rfl rfl rfl (by decide) (fun h => by cases h) (fun _ => ?_)
  refine x_iload_n (pc' := 9) rfl rfl rfl ?_
  refine x_cs (ls0 := [_]) (rest := [_]) rfl rfl rfl rfl ?_
  refine x_iload_n (pc' := 1) rfl rfl rfl ?_
  refine x_iconst (pc' := 2) rfl rfl ?_
  refine x_iconst (pc' := 3) rfl rfl ?_
  refine x_cs (ls0 := [_, _, _]) (rest := []) rfl rfl rfl rfl ?_
  refine x_iload_n (pc' := 1) rfl rfl rfl ?_
  refine x_iload_n (pc' := 2) rfl rfl rfl ?_
  refine x_icmp (a' := 14) (pc' := 5) (z := decide ((xs 2) < 0)) rfl rfl rfl rfl (fun h => absurd (of_decide_eq_true h) e1) (fun _ => ?_)
  refine x_iload_n (pc' := 6) rfl rfl rfl ?_
  refine x_iload_n (pc' := 7) rfl rfl rfl ?_
  refine x_icmp (a' := 14) (pc' := 10) (z := decide (2 < (xs 2))) rfl rfl rfl rfl (fun _ => ?_) (fun h => absurd (lt_of3 f1) (of_decide_eq_false h))
  refine x_iconst (pc' := 15) rfl rfl ?_
  refine x_retz (z := false) rfl rfl ?_
  refine sK_i (pc' := 6) rfl ?_
  refine x_retz (z := false) rfl rfl ?_
  refine sK_i (pc' := 12) rfl ?_
  refine x_if (a' := 19) (pc' := 15) (z := true) rfl rfl rfl (by decide) (fun _ => ?_) (fun h => by cases h)
  refine x_iconst (pc' := 20) rfl rfl ?_
  refine x_cv (ls0 := [_, _]) (rest := []) rfl rfl rfl rfl rfl ?_
  refine x_aload_n (pc' := 1) rfl rfl rfl rfl rfl ?_
  refine x_iload_n (pc' := 2) rfl rfl rfl ?_
  refine x_pI (pc' := 5) rfl rfl rfl ?_
  refine x_iload_n (pc' := 6) rfl rfl rfl ?_
  refine x_if (a' := 13) (pc' := 9) (z := true) rfl rfl rfl (by decide) (fun _ => ?_) (fun h => by cases h)
  refine x_iconst (pc' := 14) rfl rfl ?_
  refine x_retz (z := false) rfl rfl ?_
  refine sK_i (pc' := 23) rfl ?_
  refine x_if (a' := 28) (pc' := 26) (z := false) rfl rfl rfl (by decide) (fun h => by cases h) (fun _ => ?_)
  refine x_iconst (pc' := 27) rfl rfl ?_
  refine x_reti rfl rfl ?_
  refine sK_i (pc' := 2536) rfl ?_
  refine x_istore (pc' := 2538) (ls' := [_, _, _, _, _, _, _]) rfl rfl rfl rfl ?_
  refine x_aload_n (pc' := 2539) rfl rfl rfl rfl rfl ?_
  refine x_cv (ls0 := [_]) (rest := []) rfl rfl rfl rfl rfl ?_
  refine x_aload_n (pc' := 1) rfl rfl rfl rfl rfl ?_
  refine x_gI (pc' := 4) (x := 1) rfl rfl rfl sI_s ?_
  refine x_reti rfl rfl ?_
  refine sK_i (pc' := 2542) rfl ?_
  refine x_iload (pc' := 2544) rfl rfl rfl ?_
  refine x_icmp (a' := 2549) (pc' := 2547) (z := true) rfl rfl rfl (by decide) (fun _ => ?_) (fun h => by cases h)
  refine x_iload (pc' := 2551) rfl rfl rfl ?_
  refine x_if (a' := 2566) (pc' := 2554) (z := true) rfl rfl rfl (by decide) (fun _ => ?_) (fun h => by cases h)
  refine x_goto (pc' := 2938) rfl rfl ?_
  refine x_iinc (pc' := 2941) (y := 7) (ls' := [_, _, _, _, _, _, _]) rfl rfl rfl rfl rfl ?_
  refine x_goto (pc' := 23) rfl rfl ?_
  refine x_iload (pc' := 25) rfl rfl rfl ?_
  refine x_aload_n (pc' := 26) rfl rfl rfl rfl rfl ?_
  refine x_alen (pc' := 27) (N := 7) rfl rfl rfl (Eq.trans rdNI (Eq.trans rdNthr (z_N_29_0 e))) (?_ : X _ _ _ (.inl 7 :: _) _ _)
  refine x_bipush (pc' := 29) rfl rfl ?_
  refine x_isub (pc' := 30) (z := 0) rfl rfl (by decide) ?_
  refine x_icmp (a' := 2944) (pc' := 33) (z := true) rfl rfl rfl (by decide) (fun _ => ?_) (fun h => by cases h)
  refine x_iconst (pc' := 2945) rfl rfl ?_
  refine x_retz (z := true) rfl rfl ?_
  exact Qp_ok e (p := 1) (q := 6) rfl rfl rfl rfl
set_option maxHeartbeats 4000000 in
set_option maxRecDepth 10000 in
theorem v_33_A_0 {t : sT} {xs : Nat → Int32}
    (e : t = T16 7 xs)
    (hk : ((xs 0) &&& 63) = 33)
    (e0 : (xs 1) < 0)
    (e1 : xs 2 = 0) :
    X 297 23 [.inr (.inr (29, (some 0))), .inr (.inr (11, (some 0))), .inr (.inr (12, (some 0))), .inr (.inr (23, (some 0))), .inl 0, sJk, sJk] [] t Qp := by
  refine x_iload (pc' := 25) rfl rfl rfl ?_
  refine x_aload_n (pc' := 26) rfl rfl rfl rfl rfl ?_
  refine x_alen (pc' := 27) (N := 7) rfl rfl rfl (z_N_29_0 e) (?_ : X _ _ _ (.inl 7 :: _) _ _)
  refine x_bipush (pc' := 29) rfl rfl ?_
  refine x_isub (pc' := 30) (z := 0) rfl rfl (by decide) ?_
  refine x_icmp (a' := 2944) (pc' := 33) (z := false) rfl rfl rfl (by decide) (fun h => by cases h) (fun _ => ?_)
  refine x_aload_n (pc' := 34) rfl rfl rfl rfl rfl ?_
  refine x_iload (pc' := 36) rfl rfl rfl ?_
  refine x_iald (pc' := 37) (N := 7) (x := (xs 0)) rfl rfl rfl (z_N_29_0 e) (io_in (p := 0) (N := 7) (by decide) (by decide)) (Eq.trans (congrArg (sA t 29 0) (nn_io (p := 0) (by decide))) (z_A_29_0_0 e)) ?_
  refine x_bipush (pc' := 39) rfl rfl ?_
  refine x_iand (pc' := 40) (z := ((xs 0) &&& 63)) rfl rfl rfl ?_
  refine x_switch (pc' := 2501) rfl (by rw [hk]; decide) ?_
  refine x_aload_n (pc' := 2502) rfl rfl rfl rfl rfl ?_
  refine x_aload_n (pc' := 2503) rfl rfl rfl rfl rfl ?_
  refine x_iload (pc' := 2505) rfl rfl rfl ?_
  refine x_iconst (pc' := 2506) rfl rfl ?_
  refine x_iadd (pc' := 2507) (z := 1) rfl rfl (by decide) ?_
  refine x_iald (pc' := 2508) (N := 7) (x := (xs 1)) rfl rfl rfl (z_N_29_0 e) (io_in (p := 1) (N := 7) (by decide) (by decide)) (Eq.trans (congrArg (sA t 29 0) (nn_io (p := 1) (by decide))) (z_A_29_0_1 e)) ?_
  refine x_aload_n (pc' := 2509) rfl rfl rfl rfl rfl ?_
  refine x_iload (pc' := 2511) rfl rfl rfl ?_
  refine x_iconst (pc' := 2512) rfl rfl ?_
  refine x_iadd (pc' := 2513) (z := 2) rfl rfl (by decide) ?_
  refine x_iald (pc' := 2514) (N := 7) (x := 0) rfl rfl rfl (z_N_29_0 e) (io_in (p := 2) (N := 7) (by decide) (by decide)) (Eq.trans (congrArg (sA t 29 0) (nn_io (p := 2) (by decide))) (Eq.trans (z_A_29_0_2 e) e1)) ?_
  refine x_aload_n (pc' := 2515) rfl rfl rfl rfl rfl ?_
  refine x_cs (ls0 := [_, _, _, _, sJk]) (rest := []) rfl rfl rfl rfl ?_
  refine x_aload_n (pc' := 1) rfl rfl rfl rfl rfl ?_
  refine x_iconst (pc' := 2) rfl rfl ?_
  refine x_aload_n (pc' := 3) rfl rfl rfl rfl rfl ?_
  refine x_iload_n (pc' := 4) rfl rfl rfl ?_
  refine x_iload_n (pc' := 5) rfl rfl rfl ?_
  refine x_cv (ls0 := [_, _, _, sJk]) (rest := [_, _]) rfl rfl rfl rfl rfl ?_
  refine x_aload_n (pc' := 1) rfl rfl rfl rfl rfl ?_
  refine x_iload_n (pc' := 2) rfl rfl rfl ?_
  refine x_cv (ls0 := [_, _]) (rest := []) rfl rfl rfl rfl rfl ?_
  refine x_iload_n (pc' := 1) rfl rfl rfl ?_
  refine x_if (a' := 16) (pc' := 4) (z := decide ((xs 1) < 0)) rfl rfl rfl rfl (fun _ => ?_) (fun h => absurd e0 (of_decide_eq_false h))
  refine x_throw rfl rfl ?_
  refine sK_n (by decide +kernel) rfl ?_
  refine sK_h (h := 13) (by decide +kernel) rfl ?_
  refine x_catch (pc' := 15) (ls' := [_, _, _, _, _]) rfl rfl rfl rfl ?_
  refine x_iconst (pc' := 16) rfl rfl ?_
  refine x_reti rfl rfl ?_
  refine sK_i (pc' := 2518) rfl ?_
  refine x_istore (pc' := 2520) (ls' := [_, _, _, _, _, _, _]) rfl rfl rfl rfl ?_
  refine x_aload_n (pc' := 2521) rfl rfl rfl rfl rfl ?_
  refine x_aload_n (pc' := 2522) rfl rfl rfl rfl rfl ?_
  refine x_iload (pc' := 2524) rfl rfl rfl ?_
  refine x_iconst (pc' := 2525) rfl rfl ?_
  refine x_iadd (pc' := 2526) (z := 1) rfl rfl (by decide) ?_
  refine x_iald (pc' := 2527) (N := 7) (x := (xs 1)) rfl rfl rfl (Eq.trans rdNthr (z_N_29_0 e)) (io_in (p := 1) (N := 7) (by decide) (by decide)) (Eq.trans (congrArg (sA (sThr t) 29 0) (nn_io (p := 1) (by decide))) (Eq.trans rdAthr (z_A_29_0_1 e))) ?_
  refine x_aload_n (pc' := 2528) rfl rfl rfl rfl rfl ?_
  refine x_iload (pc' := 2530) rfl rfl rfl ?_
  refine x_iconst (pc' := 2531) rfl rfl ?_
  refine x_iadd (pc' := 2532) (z := 2) rfl rfl (by decide) ?_
  refine x_iald (pc' := 2533) (N := 7) (x := 0) rfl rfl rfl (Eq.trans rdNthr (z_N_29_0 e)) (io_in (p := 2) (N := 7) (by decide) (by decide)) (Eq.trans (congrArg (sA (sThr t) 29 0) (nn_io (p := 2) (by decide))) (Eq.trans rdAthr (Eq.trans (z_A_29_0_2 e) e1))) ?_
  refine x_cv (ls0 := [_, _, _, sJk, sJk, sJk]) (rest := []) rfl rfl rfl rfl rfl ?_
  refine x_aload_n (pc' := 1) rfl rfl rfl rfl rfl ?_
  refine x_iload_n (pc' := 2) rfl rfl rfl ?_
  refine x_cs (ls0 := [_]) (rest := [_]) rfl rfl rfl rfl ?_
  refine x_iload_n (pc' := 1) rfl rfl rfl ?_
  refine x_iconst (pc' := 2) rfl rfl ?_
  refine x_iconst (pc' := 3) rfl rfl ?_
  refine x_cs (ls0 := [_, _, _]) (rest := []) rfl rfl rfl rfl ?_
  refine x_iload_n (pc' := 1) rfl rfl rfl ?_
  refine x_iload_n (pc' := 2) rfl rfl rfl ?_
  refine x_icmp (a' := 14) (pc' := 5) (z := decide ((xs 1) < 0)) rfl rfl rfl rfl (fun _ => ?_) (fun h => absurd e0 (of_decide_eq_false h))
  refine x_iconst (pc' := 15) rfl rfl ?_
  refine x_retz (z := false) rfl rfl ?_
  refine sK_i (pc' := 6) rfl ?_
  refine x_retz (z := false) rfl rfl ?_
  refine sK_i (pc' := 5) rfl ?_
  refine x_if (a' := 19) (pc' := 8) (z := true) rfl rfl rfl (by decide) (fun _ => ?_) (fun h => by cases h)
  refine x_iconst (pc' := 20) rfl rfl ?_
  refine x_cv (ls0 := [_, _]) (rest := []) rfl rfl rfl rfl rfl ?_
  refine x_aload_n (pc' := 1) rfl rfl rfl rfl rfl ?_
  refine x_iload_n (pc' := 2) rfl rfl rfl ?_
  refine x_pI (pc' := 5) rfl rfl rfl ?_
  refine x_iload_n (pc' := 6) rfl rfl rfl ?_
  refine x_if (a' := 13) (pc' := 9) (z := true) rfl rfl rfl (by decide) (fun _ => ?_) (fun h => by cases h)
  refine x_iconst (pc' := 14) rfl rfl ?_
  refine x_retz (z := false) rfl rfl ?_
  refine sK_i (pc' := 23) rfl ?_
  refine x_if (a' := 28) (pc' := 26) (z := false) rfl rfl rfl (by decide) (fun h => by cases h) (fun _ => ?_)
  refine x_iconst (pc' := 27) rfl rfl ?_
  refine x_reti rfl rfl ?_
  refine sK_i (pc' := 2536) rfl ?_
  refine x_istore (pc' := 2538) (ls' := [_, _, _, _, _, _, _]) rfl rfl rfl rfl ?_
  refine x_aload_n (pc' := 2539) rfl rfl rfl rfl rfl ?_
  refine x_cv (ls0 := [_]) (rest := []) rfl rfl rfl rfl rfl ?_
  refine x_aload_n (pc' := 1) rfl rfl rfl rfl rfl ?_
  refine x_gI (pc' := 4) (x := 1) rfl rfl rfl sI_s ?_
  refine x_reti rfl rfl ?_
  refine sK_i (pc' := 2542) rfl ?_
  refine x_iload (pc' := 2544) rfl rfl rfl ?_
  refine x_icmp (a' := 2549) (pc' := 2547) (z := true) rfl rfl rfl (by decide) (fun _ => ?_) (fun h => by cases h)
  refine x_iload (pc' := 2551) rfl rfl rfl ?_
  refine x_if (a' := 2566) (pc' := 2554) (z := true) rfl rfl rfl (by decide) (fun _ => ?_) (fun h => by cases h)
  refine x_goto (pc' := 2938) rfl rfl ?_
  refine x_iinc (pc' := 2941) (y := 7) (ls' := [_, _, _, _, _, _, _]) rfl rfl rfl rfl rfl ?_
  refine x_goto (pc' := 23) rfl rfl ?_
  refine x_iload (pc' := 25) rfl rfl rfl ?_
  refine x_aload_n (pc' := 26) rfl rfl rfl rfl rfl ?_
  refine x_alen (pc' := 27) (N := 7) rfl rfl rfl (Eq.trans rdNI (Eq.trans rdNthr (z_N_29_0 e))) (?_ : X _ _ _ (.inl 7 :: _) _ _)
  refine x_bipush (pc' := 29) rfl rfl ?_
  refine x_isub (pc' := 30) (z := 0) rfl rfl (by decide) ?_
  refine x_icmp (a' := 2944) (pc' := 33) (z := true) rfl rfl rfl (by decide) (fun _ => ?_) (fun h => by cases h)
  refine x_iconst (pc' := 2945) rfl rfl ?_
  refine x_retz (z := true) rfl rfl ?_
  exact Qp_ok e (p := 1) (q := 6) rfl rfl rfl rfl
set_option maxHeartbeats 4000000 in
set_option maxRecDepth 10000 in
theorem v_33_A_1 {t : sT} {xs : Nat → Int32}
    (e : t = T16 7 xs)
    (hk : ((xs 0) &&& 63) = 33)
    (e0 : (xs 1) < 0)
    (e1 : xs 2 = 1) :
    X 297 23 [.inr (.inr (29, (some 0))), .inr (.inr (11, (some 0))), .inr (.inr (12, (some 0))), .inr (.inr (23, (some 0))), .inl 0, sJk, sJk] [] t Qp := by
  refine x_iload (pc' := 25) rfl rfl rfl ?_
  refine x_aload_n (pc' := 26) rfl rfl rfl rfl rfl ?_
  refine x_alen (pc' := 27) (N := 7) rfl rfl rfl (z_N_29_0 e) (?_ : X _ _ _ (.inl 7 :: _) _ _)
  refine x_bipush (pc' := 29) rfl rfl ?_
  refine x_isub (pc' := 30) (z := 0) rfl rfl (by decide) ?_
  refine x_icmp (a' := 2944) (pc' := 33) (z := false) rfl rfl rfl (by decide) (fun h => by cases h) (fun _ => ?_)
  refine x_aload_n (pc' := 34) rfl rfl rfl rfl rfl ?_
  refine x_iload (pc' := 36) rfl rfl rfl ?_
  refine x_iald (pc' := 37) (N := 7) (x := (xs 0)) rfl rfl rfl (z_N_29_0 e) (io_in (p := 0) (N := 7) (by decide) (by decide)) (Eq.trans (congrArg (sA t 29 0) (nn_io (p := 0) (by decide))) (z_A_29_0_0 e)) ?_
  refine x_bipush (pc' := 39) rfl rfl ?_
  refine x_iand (pc' := 40) (z := ((xs 0) &&& 63)) rfl rfl rfl ?_
  refine x_switch (pc' := 2501) rfl (by rw [hk]; decide) ?_
  refine x_aload_n (pc' := 2502) rfl rfl rfl rfl rfl ?_
  refine x_aload_n (pc' := 2503) rfl rfl rfl rfl rfl ?_
  refine x_iload (pc' := 2505) rfl rfl rfl ?_
  refine x_iconst (pc' := 2506) rfl rfl ?_
  refine x_iadd (pc' := 2507) (z := 1) rfl rfl (by decide) ?_
  refine x_iald (pc' := 2508) (N := 7) (x := (xs 1)) rfl rfl rfl (z_N_29_0 e) (io_in (p := 1) (N := 7) (by decide) (by decide)) (Eq.trans (congrArg (sA t 29 0) (nn_io (p := 1) (by decide))) (z_A_29_0_1 e)) ?_
  refine x_aload_n (pc' := 2509) rfl rfl rfl rfl rfl ?_
  refine x_iload (pc' := 2511) rfl rfl rfl ?_
  refine x_iconst (pc' := 2512) rfl rfl ?_
  refine x_iadd (pc' := 2513) (z := 2) rfl rfl (by decide) ?_
  refine x_iald (pc' := 2514) (N := 7) (x := 1) rfl rfl rfl (z_N_29_0 e) (io_in (p := 2) (N := 7) (by decide) (by decide)) (Eq.trans (congrArg (sA t 29 0) (nn_io (p := 2) (by decide))) (Eq.trans (z_A_29_0_2 e) e1)) ?_
  refine x_aload_n (pc' := 2515) rfl rfl rfl rfl rfl ?_
  refine x_cs (ls0 := [_, _, _, _, sJk]) (rest := []) rfl rfl rfl rfl ?_
  refine x_aload_n (pc' := 1) rfl rfl rfl rfl rfl ?_
  refine x_iconst (pc' := 2) rfl rfl ?_
  refine x_aload_n (pc' := 3) rfl rfl rfl rfl rfl ?_
  refine x_iload_n (pc' := 4) rfl rfl rfl ?_
  refine x_iload_n (pc' := 5) rfl rfl rfl ?_
  refine x_cv (ls0 := [_, _, _, sJk]) (rest := [_, _]) rfl rfl rfl rfl rfl ?_
  refine x_aload_n (pc' := 1) rfl rfl rfl rfl rfl ?_
  refine x_iload_n (pc' := 2) rfl rfl rfl ?_
  refine x_cv (ls0 := [_, _]) (rest := []) rfl rfl rfl rfl rfl ?_
  refine x_iload_n (pc' := 1) rfl rfl rfl ?_
  refine x_if (a' := 16) (pc' := 4) (z := decide ((xs 1) < 0)) rfl rfl rfl rfl (fun _ => ?_) (fun h => absurd e0 (of_decide_eq_false h))
  refine x_throw rfl rfl ?_
  refine sK_n (by decide +kernel) rfl ?_
  refine sK_h (h := 13) (by decide +kernel) rfl ?_
  refine x_catch (pc' := 15) (ls' := [_, _, _, _, _]) rfl rfl rfl rfl ?_
  refine x_iconst (pc' := 16) rfl rfl ?_
  refine x_reti rfl rfl ?_
  refine sK_i (pc' := 2518) rfl ?_
  refine x_istore (pc' := 2520) (ls' := [_, _, _, _, _, _, _]) rfl rfl rfl rfl ?_
  refine x_aload_n (pc' := 2521) rfl rfl rfl rfl rfl ?_
  refine x_aload_n (pc' := 2522) rfl rfl rfl rfl rfl ?_
  refine x_iload (pc' := 2524) rfl rfl rfl ?_
  refine x_iconst (pc' := 2525) rfl rfl ?_
  refine x_iadd (pc' := 2526) (z := 1) rfl rfl (by decide) ?_
  refine x_iald (pc' := 2527) (N := 7) (x := (xs 1)) rfl rfl rfl (Eq.trans rdNthr (z_N_29_0 e)) (io_in (p := 1) (N := 7) (by decide) (by decide)) (Eq.trans (congrArg (sA (sThr t) 29 0) (nn_io (p := 1) (by decide))) (Eq.trans rdAthr (z_A_29_0_1 e))) ?_
  refine x_aload_n (pc' := 2528) rfl rfl rfl rfl rfl ?_
  refine x_iload (pc' := 2530) rfl rfl rfl ?_
  refine x_iconst (pc' := 2531) rfl rfl ?_
  refine x_iadd (pc' := 2532) (z := 2) rfl rfl (by decide) ?_
  refine x_iald (pc' := 2533) (N := 7) (x := 1) rfl rfl rfl (Eq.trans rdNthr (z_N_29_0 e)) (io_in (p := 2) (N := 7) (by decide) (by decide)) (Eq.trans (congrArg (sA (sThr t) 29 0) (nn_io (p := 2) (by decide))) (Eq.trans rdAthr (Eq.trans (z_A_29_0_2 e) e1))) ?_
  refine x_cv (ls0 := [_, _, _, sJk, sJk, sJk]) (rest := []) rfl rfl rfl rfl rfl ?_
  refine x_aload_n (pc' := 1) rfl rfl rfl rfl rfl ?_
  refine x_iload_n (pc' := 2) rfl rfl rfl ?_
  refine x_cs (ls0 := [_]) (rest := [_]) rfl rfl rfl rfl ?_
  refine x_iload_n (pc' := 1) rfl rfl rfl ?_
  refine x_iconst (pc' := 2) rfl rfl ?_
  refine x_iconst (pc' := 3) rfl rfl ?_
  refine x_cs (ls0 := [_, _, _]) (rest := []) rfl rfl rfl rfl ?_
  refine x_iload_n (pc' := 1) rfl rfl rfl ?_
  refine x_iload_n (pc' := 2) rfl rfl rfl ?_
  refine x_icmp (a' := 14) (pc' := 5) (z := decide ((xs 1) < 0)) rfl rfl rfl rfl (fun _ => ?_) (fun h => absurd e0 (of_decide_eq_false h))
  refine x_iconst (pc' := 15) rfl rfl ?_
  refine x_retz (z := false) rfl rfl ?_
  refine sK_i (pc' := 6) rfl ?_
  refine x_retz (z := false) rfl rfl ?_
  refine sK_i (pc' := 5) rfl ?_
  refine x_if (a' := 19) (pc' := 8) (z := true) rfl rfl rfl (by decide) (fun _ => ?_) (fun h => by cases h)
  refine x_iconst (pc' := 20) rfl rfl ?_
  refine x_cv (ls0 := [_, _]) (rest := []) rfl rfl rfl rfl rfl ?_
  refine x_aload_n (pc' := 1) rfl rfl rfl rfl rfl ?_
  refine x_iload_n (pc' := 2) rfl rfl rfl ?_
  refine x_pI (pc' := 5) rfl rfl rfl ?_
  refine x_iload_n (pc' := 6) rfl rfl rfl ?_
  refine x_if (a' := 13) (pc' := 9) (z := true) rfl rfl rfl (by decide) (fun _ => ?_) (fun h => by cases h)
  refine x_iconst (pc' := 14) rfl rfl ?_
  refine x_retz (z := false) rfl rfl ?_
  refine sK_i (pc' := 23) rfl ?_
  refine x_if (a' := 28) (pc' := 26) (z := false) rfl rfl rfl (by decide) (fun h => by cases h) (fun _ => ?_)
  refine x_iconst (pc' := 27) rfl rfl ?_
  refine x_reti rfl rfl ?_
  refine sK_i (pc' := 2536) rfl ?_
  refine x_istore (pc' := 2538) (ls' := [_, _, _, _, _, _, _]) rfl rfl rfl rfl ?_
  refine x_aload_n (pc' := 2539) rfl rfl rfl rfl rfl ?_
  refine x_cv (ls0 := [_]) (rest := []) rfl rfl rfl rfl rfl ?_
  refine x_aload_n (pc' := 1) rfl rfl rfl rfl rfl ?_
  refine x_gI (pc' := 4) (x := 1) rfl rfl rfl sI_s ?_
  refine x_reti rfl rfl ?_
  refine sK_i (pc' := 2542) rfl ?_
  refine x_iload (pc' := 2544) rfl rfl rfl ?_
  refine x_icmp (a' := 2549) (pc' := 2547) (z := true) rfl rfl rfl (by decide) (fun _ => ?_) (fun h => by cases h)
  refine x_iload (pc' := 2551) rfl rfl rfl ?_
  refine x_if (a' := 2566) (pc' := 2554) (z := true) rfl rfl rfl (by decide) (fun _ => ?_) (fun h => by cases h)
  refine x_goto (pc' := 2938) rfl rfl ?_
  refine x_iinc (pc' := 2941) (y := 7) (ls' := [_, _, _, _, _, _, _]) rfl rfl rfl rfl rfl ?_
  refine x_goto (pc' := 23) rfl rfl ?_
  refine x_iload (pc' := 25) rfl rfl rfl ?_
  refine x_aload_n (pc' := 26) rfl rfl rfl rfl rfl ?_
  refine x_alen (pc' := 27) (N := 7) rfl rfl rfl (Eq.trans rdNI (Eq.trans rdNthr (z_N_29_0 e))) (?_ : X _ _ _ (.inl 7 :: _) _ _)
  refine x_bipush (pc' := 29) rfl rfl ?_
  refine x_isub (pc' := 30) (z := 0) rfl rfl (by decide) ?_
  refine x_icmp (a' := 2944) (pc' := 33) (z := true) rfl rfl rfl (by decide) (fun _ => ?_) (fun h => by cases h)
  refine x_iconst (pc' := 2945) rfl rfl ?_
  refine x_retz (z := true) rfl rfl ?_
  exact Qp_ok e (p := 1) (q := 6) rfl rfl rfl rfl
set_option maxHeartbeats 4000000 in
set_option maxRecDepth 10000 in
theorem v_33_A_2 {t : sT} {xs : Nat → Int32}
    (e : t = T16 7 xs)
    (hk : ((xs 0) &&& 63) = 33)
    (e0 : (xs 1) < 0)
    (e1 : xs 2 = 2) :
    X 297 23 [.inr (.inr (29, (some 0))), .inr (.inr (11, (some 0))), .inr (.inr (12, (some 0))), .inr (.inr (23, (some 0))), .inl 0, sJk, sJk] [] t Qp := by
  refine x_iload (pc' := 25) rfl rfl rfl ?_
  refine x_aload_n (pc' := 26) rfl rfl rfl rfl rfl ?_
  refine x_alen (pc' := 27) (N := 7) rfl rfl rfl (z_N_29_0 e) (?_ : X _ _ _ (.inl 7 :: _) _ _)
  refine x_bipush (pc' := 29) rfl rfl ?_
  refine x_isub (pc' := 30) (z := 0) rfl rfl (by decide) ?_
  refine x_icmp (a' := 2944) (pc' := 33) (z := false) rfl rfl rfl (by decide) (fun h => by cases h) (fun _ => ?_)
  refine x_aload_n (pc' := 34) rfl rfl rfl rfl rfl ?_
  refine x_iload (pc' := 36) rfl rfl rfl ?_
  refine x_iald (pc' := 37) (N := 7) (x := (xs 0)) rfl rfl rfl (z_N_29_0 e) (io_in (p := 0) (N := 7) (by decide) (by decide)) (Eq.trans (congrArg (sA t 29 0) (nn_io (p := 0) (by decide))) (z_A_29_0_0 e)) ?_
  refine x_bipush (pc' := 39) rfl rfl ?_
  refine x_iand (pc' := 40) (z := ((xs 0) &&& 63)) rfl rfl rfl ?_
  refine x_switch (pc' := 2501) rfl (by rw [hk]; decide) ?_
  refine x_aload_n (pc' := 2502) rfl rfl rfl rfl rfl ?_
  refine x_aload_n (pc' := 2503) rfl rfl rfl rfl rfl ?_
  refine x_iload (pc' := 2505) rfl rfl rfl ?_
  refine x_iconst (pc' := 2506) rfl rfl ?_
  refine x_iadd (pc' := 2507) (z := 1) rfl rfl (by decide) ?_
  refine x_iald (pc' := 2508) (N := 7) (x := (xs 1)) rfl rfl rfl (z_N_29_0 e) (io_in (p := 1) (N := 7) (by decide) (by decide)) (Eq.trans (congrArg (sA t 29 0) (nn_io (p := 1) (by decide))) (z_A_29_0_1 e)) ?_
  refine x_aload_n (pc' := 2509) rfl rfl rfl rfl rfl ?_
  refine x_iload (pc' := 2511) rfl rfl rfl ?_
  refine x_iconst (pc' := 2512) rfl rfl ?_
  refine x_iadd (pc' := 2513) (z := 2) rfl rfl (by decide) ?_
  refine x_iald (pc' := 2514) (N := 7) (x := 2) rfl rfl rfl (z_N_29_0 e) (io_in (p := 2) (N := 7) (by decide) (by decide)) (Eq.trans (congrArg (sA t 29 0) (nn_io (p := 2) (by decide))) (Eq.trans (z_A_29_0_2 e) e1)) ?_
  refine x_aload_n (pc' := 2515) rfl rfl rfl rfl rfl ?_
  refine x_cs (ls0 := [_, _, _, _, sJk]) (rest := []) rfl rfl rfl rfl ?_
  refine x_aload_n (pc' := 1) rfl rfl rfl rfl rfl ?_
  refine x_iconst (pc' := 2) rfl rfl ?_
  refine x_aload_n (pc' := 3) rfl rfl rfl rfl rfl ?_
  refine x_iload_n (pc' := 4) rfl rfl rfl ?_
  refine x_iload_n (pc' := 5) rfl rfl rfl ?_
  refine x_cv (ls0 := [_, _, _, sJk]) (rest := [_, _]) rfl rfl rfl rfl rfl ?_
  refine x_aload_n (pc' := 1) rfl rfl rfl rfl rfl ?_
  refine x_iload_n (pc' := 2) rfl rfl rfl ?_
  refine x_cv (ls0 := [_, _]) (rest := []) rfl rfl rfl rfl rfl ?_
  refine x_iload_n (pc' := 1) rfl rfl rfl ?_
  refine x_if (a' := 16) (pc' := 4) (z := decide ((xs 1) < 0)) rfl rfl rfl rfl (fun _ => ?_) (fun h => absurd e0 (of_decide_eq_false h))
  refine x_throw rfl rfl ?_
  refine sK_n (by decide +kernel) rfl ?_
  refine sK_h (h := 13) (by decide +kernel) rfl ?_
  refine x_catch (pc' := 15) (ls' := [_, _, _, _, _]) rfl rfl rfl rfl ?_
  refine x_iconst (pc' := 16) rfl rfl ?_
  refine x_reti rfl rfl ?_
  refine sK_i (pc' := 2518) rfl ?_
  refine x_istore (pc' := 2520) (ls' := [_, _, _, _, _, _, _]) rfl rfl rfl rfl ?_
  refine x_aload_n (pc' := 2521) rfl rfl rfl rfl rfl ?_
  refine x_aload_n (pc' := 2522) rfl rfl rfl rfl rfl ?_
  refine x_iload (pc' := 2524) rfl rfl rfl ?_
  refine x_iconst (pc' := 2525) rfl rfl ?_
  refine x_iadd (pc' := 2526) (z := 1) rfl rfl (by decide) ?_
  refine x_iald (pc' := 2527) (N := 7) (x := (xs 1)) rfl rfl rfl (Eq.trans rdNthr (z_N_29_0 e)) (io_in (p := 1) (N := 7) (by decide) (by decide)) (Eq.trans (congrArg (sA (sThr t) 29 0) (nn_io (p := 1) (by decide))) (Eq.trans rdAthr (z_A_29_0_1 e))) ?_
  refine x_aload_n (pc' := 2528) rfl rfl rfl rfl rfl ?_
  refine x_iload (pc' := 2530) rfl rfl rfl ?_
  refine x_iconst (pc' := 2531) rfl rfl ?_
  refine x_iadd (pc' := 2532) (z := 2) rfl rfl (by decide) ?_
  refine x_iald (pc' := 2533) (N := 7) (x := 2) rfl rfl rfl (Eq.trans rdNthr (z_N_29_0 e)) (io_in (p := 2) (N := 7) (by decide) (by decide)) (Eq.trans (congrArg (sA (sThr t) 29 0) (nn_io (p := 2) (by decide))) (Eq.trans rdAthr (Eq.trans (z_A_29_0_2 e) e1))) ?_
  refine x_cv (ls0 := [_, _, _, sJk, sJk, sJk]) (rest := []) rfl rfl rfl rfl rfl ?_
  refine x_aload_n (pc' := 1) rfl rfl rfl rfl rfl ?_
  refine x_iload_n (pc' := 2) rfl rfl rfl ?_
  refine x_cs (ls0 := [_]) (rest := [_]) rfl rfl rfl rfl ?_
  refine x_iload_n (pc' := 1) rfl rfl rfl ?_
  refine x_iconst (pc' := 2) rfl rfl ?_
  refine x_iconst (pc' := 3) rfl rfl ?_
  refine x_cs (ls0 := [_, _, _]) (rest := []) rfl rfl rfl rfl ?_
  refine x_iload_n (pc' := 1) rfl rfl rfl ?_
  refine x_iload_n (pc' := 2) rfl rfl rfl ?_
  refine x_icmp (a' := 14) (pc' := 5) (z := decide ((xs 1) < 0)) rfl rfl rfl rfl (fun _ => ?_) (fun h => absurd e0 (of_decide_eq_false h))
  refine x_iconst (pc' := 15) rfl rfl ?_
  refine x_retz (z := false) rfl rfl ?_
  refine sK_i (pc' := 6) rfl ?_
  refine x_retz (z := false) rfl rfl ?_
  refine sK_i (pc' := 5) rfl ?_
  refine x_if (a' := 19) (pc' := 8) (z := true) rfl rfl rfl (by decide) (fun _ => ?_) (fun h => by cases h)
  refine x_iconst (pc' := 20) rfl rfl ?_
  refine x_cv (ls0 := [_, _]) (rest := []) rfl rfl rfl rfl rfl ?_
  refine x_aload_n (pc' := 1) rfl rfl rfl rfl rfl ?_
  refine x_iload_n (pc' := 2) rfl rfl rfl ?_
  refine x_pI (pc' := 5) rfl rfl rfl ?_
  refine x_iload_n (pc' := 6) rfl rfl rfl ?_
  refine x_if (a' := 13) (pc' := 9) (z := true) rfl rfl rfl (by decide) (fun _ => ?_) (fun h => by cases h)
  refine x_iconst (pc' := 14) rfl rfl ?_
  refine x_retz (z := false) rfl rfl ?_
  refine sK_i (pc' := 23) rfl ?_
  refine x_if (a' := 28) (pc' := 26) (z := false) rfl rfl rfl (by decide) (fun h => by cases h) (fun _ => ?_)
  refine x_iconst (pc' := 27) rfl rfl ?_
  refine x_reti rfl rfl ?_
  refine sK_i (pc' := 2536) rfl ?_
  refine x_istore (pc' := 2538) (ls' := [_, _, _, _, _, _, _]) rfl rfl rfl rfl ?_
  refine x_aload_n (pc' := 2539) rfl rfl rfl rfl rfl ?_
  refine x_cv (ls0 := [_]) (rest := []) rfl rfl rfl rfl rfl ?_
  refine x_aload_n (pc' := 1) rfl rfl rfl rfl rfl ?_
  refine x_gI (pc' := 4) (x := 1) rfl rfl rfl sI_s ?_
  refine x_reti rfl rfl ?_
  refine sK_i (pc' := 2542) rfl ?_
  refine x_iload (pc' := 2544) rfl rfl rfl ?_
  refine x_icmp (a' := 2549) (pc' := 2547) (z := true) rfl rfl rfl (by decide) (fun _ => ?_) (fun h => by cases h)
  refine x_iload (pc' := 2551) rfl rfl rfl ?_
  refine x_if (a' := 2566) (pc' := 2554) (z := true) rfl rfl rfl (by decide) (fun _ => ?_) (fun h => by cases h)
  refine x_goto (pc' := 2938) rfl rfl ?_
  refine x_iinc (pc' := 2941) (y := 7) (ls' := [_, _, _, _, _, _, _]) rfl rfl rfl rfl rfl ?_
  refine x_goto (pc' := 23) rfl rfl ?_
  refine x_iload (pc' := 25) rfl rfl rfl ?_
  refine x_aload_n (pc' := 26) rfl rfl rfl rfl rfl ?_
  refine x_alen (pc' := 27) (N := 7) rfl rfl rfl (Eq.trans rdNI (Eq.trans rdNthr (z_N_29_0 e))) (?_ : X _ _ _ (.inl 7 :: _) _ _)
  refine x_bipush (pc' := 29) rfl rfl ?_
  refine x_isub (pc' := 30) (z := 0) rfl rfl (by decide) ?_
  refine x_icmp (a' := 2944) (pc' := 33) (z := true) rfl rfl rfl (by decide) (fun _ => ?_) (fun h => by cases h)
  refine x_iconst (pc' := 2945) rfl rfl ?_
  refine x_retz (z := true) rfl rfl ?_
  exact Qp_ok e (p := 1) (q := 6) rfl rfl rfl rfl
set_option maxHeartbeats 4000000 in
set_option maxRecDepth 10000 in
theorem v_33_A_A {t : sT} {xs : Nat → Int32}
    (e : t = T16 7 xs)
    (hk : ((xs 0) &&& 63) = 33)
    (e0 : (xs 1) < 0)
    (e1 : (xs 2) < 0) :
    X 297 23 [.inr (.inr (29, (some 0))), .inr (.inr (11, (some 0))), .inr (.inr (12, (some 0))), .inr (.inr (23, (some 0))), .inl 0, sJk, sJk] [] t Qp := by
  refine x_iload (pc' := 25) rfl rfl rfl ?_
  refine x_aload_n (pc' := 26) rfl rfl rfl rfl rfl ?_
  refine x_alen (pc' := 27) (N := 7) rfl rfl rfl (z_N_29_0 e) (?_ : X _ _ _ (.inl 7 :: _) _ _)
  refine x_bipush (pc' := 29) rfl rfl ?_
  refine x_isub (pc' := 30) (z := 0) rfl rfl (by decide) ?_
  refine x_icmp (a' := 2944) (pc' := 33) (z := false) rfl rfl rfl (by decide) (fun h => by cases h) (fun _ => ?_)
  refine x_aload_n (pc' := 34) rfl rfl rfl rfl rfl ?_
  refine x_iload (pc' := 36) rfl rfl rfl ?_
  refine x_iald (pc' := 37) (N := 7) (x := (xs 0)) rfl rfl rfl (z_N_29_0 e) (io_in (p := 0) (N := 7) (by decide) (by decide)) (Eq.trans (congrArg (sA t 29 0) (nn_io (p := 0) (by decide))) (z_A_29_0_0 e)) ?_
  refine x_bipush (pc' := 39) rfl rfl ?_
  refine x_iand (pc' := 40) (z := ((xs 0) &&& 63)) rfl rfl rfl ?_
  refine x_switch (pc' := 2501) rfl (by rw [hk]; decide) ?_
  refine x_aload_n (pc' := 2502) rfl rfl rfl rfl rfl ?_
  refine x_aload_n (pc' := 2503) rfl rfl rfl rfl rfl ?_
  refine x_iload (pc' := 2505) rfl rfl rfl ?_
  refine x_iconst (pc' := 2506) rfl rfl ?_
  refine x_iadd (pc' := 2507) (z := 1) rfl rfl (by decide) ?_
  refine x_iald (pc' := 2508) (N := 7) (x := (xs 1)) rfl rfl rfl (z_N_29_0 e) (io_in (p := 1) (N := 7) (by decide) (by decide)) (Eq.trans (congrArg (sA t 29 0) (nn_io (p := 1) (by decide))) (z_A_29_0_1 e)) ?_
  refine x_aload_n (pc' := 2509) rfl rfl rfl rfl rfl ?_
  refine x_iload (pc' := 2511) rfl rfl rfl ?_
  refine x_iconst (pc' := 2512) rfl rfl ?_
  refine x_iadd (pc' := 2513) (z := 2) rfl rfl (by decide) ?_
  refine x_iald (pc' := 2514) (N := 7) (x := (xs 2)) rfl rfl rfl (z_N_29_0 e) (io_in (p := 2) (N := 7) (by decide) (by decide)) (Eq.trans (congrArg (sA t 29 0) (nn_io (p := 2) (by decide))) (z_A_29_0_2 e)) ?_
  refine x_aload_n (pc' := 2515) rfl rfl rfl rfl rfl ?_
  refine x_cs (ls0 := [_, _, _, _, sJk]) (rest := []) rfl rfl rfl rfl ?_
  refine x_aload_n (pc' := 1) rfl rfl rfl rfl rfl ?_
  refine x_iconst (pc' := 2) rfl rfl ?_
  refine x_aload_n (pc' := 3) rfl rfl rfl rfl rfl ?_
  refine x_iload_n (pc' := 4) rfl rfl rfl ?_
  refine x_iload_n (pc' := 5) rfl rfl rfl ?_
  refine x_cv (ls0 := [_, _, _, sJk]) (rest := [_, _]) rfl rfl rfl rfl rfl ?_
  refine x_aload_n (pc' := 1) rfl rfl rfl rfl rfl ?_
  refine x_iload_n (pc' := 2) rfl rfl rfl ?_
  refine x_cv (ls0 := [_, _]) (rest := []) rfl rfl rfl rfl rfl ?_
  refine x_iload_n (pc' := 1) rfl rfl rfl ?_
  refine x_if (a' := 16) (pc' := 4) (z := decide ((xs 1) < 0)) rfl rfl rfl rfl (fun _ => ?_) (fun h => absurd e0 (of_decide_eq_false h))
  refine x_throw rfl rfl ?_
  refine sK_n (by decide +kernel) rfl ?_
  refine sK_h (h := 13) (by decide +kernel) rfl ?_
  refine x_catch (pc' := 15) (ls' := [_, _, _, _, _]) rfl rfl rfl rfl ?_
  refine x_iconst (pc' := 16) rfl rfl ?_
  refine x_reti rfl rfl ?_
  refine sK_i (pc' := 2518) rfl ?_
  refine x_istore (pc' := 2520) (ls' := [_, _, _, _, _, _, _]) rfl rfl rfl rfl ?_
  refine x_aload_n (pc' := 2521) rfl rfl rfl rfl rfl ?_
  refine x_aload_n (pc' := 2522) rfl rfl rfl rfl rfl ?_
  refine x_iload (pc' := 2524) rfl rfl rfl ?_
  refine x_iconst (pc' := 2525) rfl rfl ?_
  refine x_iadd (pc' := 2526) (z := 1) rfl rfl (by decide) ?_
  refine x_iald (pc' := 2527) (N := 7) (x := (xs 1)) rfl rfl rfl (Eq.trans rdNthr (z_N_29_0 e)) (io_in (p := 1) (N := 7) (by decide) (by decide)) (Eq.trans (congrArg (sA (sThr t) 29 0) (nn_io (p := 1) (by decide))) (Eq.trans rdAthr (z_A_29_0_1 e))) ?_
  refine x_aload_n (pc' := 2528) rfl rfl rfl rfl rfl ?_
  refine x_iload (pc' := 2530) rfl rfl rfl ?_
  refine x_iconst (pc' := 2531) rfl rfl ?_
  refine x_iadd (pc' := 2532) (z := 2) rfl rfl (by decide) ?_
  refine x_iald (pc' := 2533) (N := 7) (x := (xs 2)) rfl rfl rfl (Eq.trans rdNthr (z_N_29_0 e)) (io_in (p := 2) (N := 7) (by decide) (by decide)) (Eq.trans (congrArg (sA (sThr t) 29 0) (nn_io (p := 2) (by decide))) (Eq.trans rdAthr (z_A_29_0_2 e))) ?_
  refine x_cv (ls0 := [_, _, _, sJk, sJk, sJk]) (rest := []) rfl rfl rfl rfl rfl ?_
  refine x_aload_n (pc' := 1) rfl rfl rfl rfl rfl ?_
  refine x_iload_n (pc' := 2) rfl rfl rfl ?_
  refine x_cs (ls0 := [_]) (rest := [_]) rfl rfl rfl rfl ?_
  refine x_iload_n (pc' := 1) rfl rfl rfl ?_
  refine x_iconst (pc' := 2) rfl rfl ?_
  refine x_iconst (pc' := 3) rfl rfl ?_
  refine x_cs (ls0 := [_, _, _]) (rest := []) rfl rfl rfl rfl ?_
  refine x_iload_n (pc' := 1) rfl rfl rfl ?_
  refine x_iload_n (pc' := 2) rfl rfl rfl ?_
  refine x_icmp (a' := 14) (pc' := 5) (z := decide ((xs 1) < 0)) rfl rfl rfl rfl (fun _ => ?_) (fun h => absurd e0 (of_decide_eq_false h))
  refine x_iconst (pc' := 15) rfl rfl ?_
  refine x_retz (z := false) rfl rfl ?_
  refine sK_i (pc' := 6) rfl ?_
  refine x_retz (z := false) rfl rfl ?_
  refine sK_i (pc' := 5) rfl ?_
  refine x_if (a' := 19) (pc' := 8) (z := true) rfl rfl rfl (by decide) (fun _ => ?_) (fun h => by cases h)
  refine x_iconst (pc' := 20) rfl rfl ?_
  refine x_cv (ls0 := [_, _]) (rest := []) rfl rfl rfl rfl rfl ?_
  refine x_aload_n (pc' := 1) rfl rfl rfl rfl rfl ?_
  refine x_iload_n (pc' := 2) rfl rfl rfl ?_
  refine x_pI (pc' := 5) rfl rfl rfl ?_
  refine x_iload_n (pc' := 6) rfl rfl rfl ?_
  refine x_if (a' := 13) (pc' := 9) (z := true) rfl rfl rfl (by decide) (fun _ => ?_) (fun h => by cases h)
  refine x_iconst (pc' := 14) rfl rfl ?_
  refine x_retz (z := false) rfl rfl ?_
  refine sK_i (pc' := 23) rfl ?_
  refine x_if (a' := 28) (pc' := 26) (z := false) rfl rfl rfl (by decide) (fun h => by cases h) (fun _ => ?_)
  refine x_iconst (pc' := 27) rfl rfl ?_
  refine x_reti rfl rfl ?_
  refine sK_i (pc' := 2536) rfl ?_
  refine x_istore (pc' := 2538) (ls' := [_, _, _, _, _, _, _]) rfl rfl rfl rfl ?_
  refine x_aload_n (pc' := 2539) rfl rfl rfl rfl rfl ?_
  refine x_cv (ls0 := [_]) (rest := []) rfl rfl rfl rfl rfl ?_
  refine x_aload_n (pc' := 1) rfl rfl rfl rfl rfl ?_
  refine x_gI (pc' := 4) (x := 1) rfl rfl rfl sI_s ?_
  refine x_reti rfl rfl ?_
  refine sK_i (pc' := 2542) rfl ?_
  refine x_iload (pc' := 2544) rfl rfl rfl ?_
  refine x_icmp (a' := 2549) (pc' := 2547) (z := true) rfl rfl rfl (by decide) (fun _ => ?_) (fun h => by cases h)
  refine x_iload (pc' := 2551) rfl rfl rfl ?_
  refine x_if (a' := 2566) (pc' := 2554) (z := true) rfl rfl rfl (by decide) (fun _ => ?_) (fun h => by cases h)
  refine x_goto (pc' := 2938) rfl rfl ?_
  refine x_iinc (pc' := 2941) (y := 7) (ls' := [_, _, _, _, _, _, _]) rfl rfl rfl rfl rfl ?_
  refine x_goto (pc' := 23) rfl rfl ?_
  refine x_iload (pc' := 25) rfl rfl rfl ?_
  refine x_aload_n (pc' := 26) rfl rfl rfl rfl rfl ?_
  refine x_alen (pc' := 27) (N := 7) rfl rfl rfl (Eq.trans rdNI (Eq.trans rdNthr (z_N_29_0 e))) (?_ : X _ _ _ (.inl 7 :: _) _ _)
  refine x_bipush (pc' := 29) rfl rfl ?_
  refine x_isub (pc' := 30) (z := 0) rfl rfl (by decide) ?_
  refine x_icmp (a' := 2944) (pc' := 33) (z := true) rfl rfl rfl (by decide) (fun _ => ?_) (fun h => by cases h)
  refine x_iconst (pc' := 2945) rfl rfl ?_
  refine x_retz (z := true) rfl rfl ?_
  exact Qp_ok e (p := 1) (q := 6) rfl rfl rfl rfl
set_option maxHeartbeats 4000000 in
set_option maxRecDepth 10000 in
theorem v_33_A_B {t : sT} {xs : Nat → Int32}
    (e : t = T16 7 xs)
    (hk : ((xs 0) &&& 63) = 33)
    (e0 : (xs 1) < 0)
    (e1 : ¬ (xs 2) < 0)
    (f1 : ¬ (xs 2) < 3) :
    X 297 23 [.inr (.inr (29, (some 0))), .inr (.inr (11, (some 0))), .inr (.inr (12, (some 0))), .inr (.inr (23, (some 0))), .inl 0, sJk, sJk] [] t Qp := by
  refine x_iload (pc' := 25) rfl rfl rfl ?_
  refine x_aload_n (pc' := 26) rfl rfl rfl rfl rfl ?_
  refine x_alen (pc' := 27) (N := 7) rfl rfl rfl (z_N_29_0 e) (?_ : X _ _ _ (.inl 7 :: _) _ _)
  refine x_bipush (pc' := 29) rfl rfl ?_
  refine x_isub (pc' := 30) (z := 0) rfl rfl (by decide) ?_
  refine x_icmp (a' := 2944) (pc' := 33) (z := false) rfl rfl rfl (by decide) (fun h => by cases h) (fun _ => ?_)
  refine x_aload_n (pc' := 34) rfl rfl rfl rfl rfl ?_
  refine x_iload (pc' := 36) rfl rfl rfl ?_
  refine x_iald (pc' := 37) (N := 7) (x := (xs 0)) rfl rfl rfl (z_N_29_0 e) (io_in (p := 0) (N := 7) (by decide) (by decide)) (Eq.trans (congrArg (sA t 29 0) (nn_io (p := 0) (by decide))) (z_A_29_0_0 e)) ?_
  refine x_bipush (pc' := 39) rfl rfl ?_
  refine x_iand (pc' := 40) (z := ((xs 0) &&& 63)) rfl rfl rfl ?_
  refine x_switch (pc' := 2501) rfl (by rw [hk]; decide) ?_
  refine x_aload_n (pc' := 2502) rfl rfl rfl rfl rfl ?_
  refine x_aload_n (pc' := 2503) rfl rfl rfl rfl rfl ?_
  refine x_iload (pc' := 2505) rfl rfl rfl ?_
  refine x_iconst (pc' := 2506) rfl rfl ?_
  refine x_iadd (pc' := 2507) (z := 1) rfl rfl (by decide) ?_
  refine x_iald (pc' := 2508) (N := 7) (x := (xs 1)) rfl rfl rfl (z_N_29_0 e) (io_in (p := 1) (N := 7) (by decide) (by decide)) (Eq.trans (congrArg (sA t 29 0) (nn_io (p := 1) (by decide))) (z_A_29_0_1 e)) ?_
  refine x_aload_n (pc' := 2509) rfl rfl rfl rfl rfl ?_
  refine x_iload (pc' := 2511) rfl rfl rfl ?_
  refine x_iconst (pc' := 2512) rfl rfl ?_
  refine x_iadd (pc' := 2513) (z := 2) rfl rfl (by decide) ?_
  refine x_iald (pc' := 2514) (N := 7) (x := (xs 2)) rfl rfl rfl (z_N_29_0 e) (io_in (p := 2) (N := 7) (by decide) (by decide)) (Eq.trans (congrArg (sA t 29 0) (nn_io (p := 2) (by decide))) (z_A_29_0_2 e)) ?_
  refine x_aload_n (pc' := 2515) rfl rfl rfl rfl rfl ?_
  refine x_cs (ls0 := [_, _, _, _, sJk]) (rest := []) rfl rfl rfl rfl ?_
  refine x_aload_n (pc' := 1) rfl rfl rfl rfl rfl ?_
  refine x_iconst (pc' := 2) rfl rfl ?_
  refine x_aload_n (pc' := 3) rfl rfl rfl rfl rfl ?_
  refine x_iload_n (pc' := 4) rfl rfl rfl ?_
  refine x_iload_n (pc' := 5) rfl rfl rfl ?_
  refine x_cv (ls0 := [_, _, _, sJk]) (rest := [_, _]) rfl rfl rfl rfl rfl ?_
  refine x_aload_n (pc' := 1) rfl rfl rfl rfl rfl ?_
  refine x_iload_n (pc' := 2) rfl rfl rfl ?_
  refine x_cv (ls0 := [_, _]) (rest := []) rfl rfl rfl rfl rfl ?_
  refine x_iload_n (pc' := 1) rfl rfl rfl ?_
  refine x_if (a' := 16) (pc' := 4) (z := decide ((xs 1) < 0)) rfl rfl rfl rfl (fun _ => ?_) (fun h => absurd e0 (of_decide_eq_false h))
  refine x_throw rfl rfl ?_
  refine sK_n (by decide +kernel) rfl ?_
  refine sK_h (h := 13) (by decide +kernel) rfl ?_
  refine x_catch (pc' := 15) (ls' := [_, _, _, _, _]) rfl rfl rfl rfl ?_
  refine x_iconst (pc' := 16) rfl rfl ?_
  refine x_reti rfl rfl ?_
  refine sK_i (pc' := 2518) rfl ?_
  refine x_istore (pc' := 2520) (ls' := [_, _, _, _, _, _, _]) rfl rfl rfl rfl ?_
  refine x_aload_n (pc' := 2521) rfl rfl rfl rfl rfl ?_
  refine x_aload_n (pc' := 2522) rfl rfl rfl rfl rfl ?_
  refine x_iload (pc' := 2524) rfl rfl rfl ?_
  refine x_iconst (pc' := 2525) rfl rfl ?_
  refine x_iadd (pc' := 2526) (z := 1) rfl rfl (by decide) ?_
  refine x_iald (pc' := 2527) (N := 7) (x := (xs 1)) rfl rfl rfl (Eq.trans rdNthr (z_N_29_0 e)) (io_in (p := 1) (N := 7) (by decide) (by decide)) (Eq.trans (congrArg (sA (sThr t) 29 0) (nn_io (p := 1) (by decide))) (Eq.trans rdAthr (z_A_29_0_1 e))) ?_
  refine x_aload_n (pc' := 2528) rfl rfl rfl rfl rfl ?_
  refine x_iload (pc' := 2530) rfl rfl rfl ?_
  refine x_iconst (pc' := 2531) rfl rfl ?_
  refine x_iadd (pc' := 2532) (z := 2) rfl rfl (by decide) ?_
  refine x_iald (pc' := 2533) (N := 7) (x := (xs 2)) rfl rfl rfl (Eq.trans rdNthr (z_N_29_0 e)) (io_in (p := 2) (N := 7) (by decide) (by decide)) (Eq.trans (congrArg (sA (sThr t) 29 0) (nn_io (p := 2) (by decide))) (Eq.trans rdAthr (z_A_29_0_2 e))) ?_
  refine x_cv (ls0 := [_, _, _, sJk, sJk, sJk]) (rest := []) rfl rfl rfl rfl rfl ?_
  refine x_aload_n (pc' := 1) rfl rfl rfl rfl rfl ?_
  refine x_iload_n (pc' := 2) rfl rfl rfl ?_
  refine x_cs (ls0 := [_]) (rest := [_]) rfl rfl rfl rfl ?_
  refine x_iload_n (pc' := 1) rfl rfl rfl ?_
  refine x_iconst (pc' := 2) rfl rfl ?_
  refine x_iconst (pc' := 3) rfl rfl ?_
  refine x_cs (ls0 := [_, _, _]) (rest := []) rfl rfl rfl rfl ?_
  refine x_iload_n (pc' := 1) rfl rfl rfl ?_
  refine x_iload_n (pc' := 2) rfl rfl rfl ?_
  refine x_icmp (a' := 14) (pc' := 5) (z := decide ((xs 1) < 0)) rfl rfl rfl rfl (fun _ => ?_) (fun h => absurd e0 (of_decide_eq_false h))
  refine x_iconst (pc' := 15) rfl rfl ?_
  refine x_retz (z := false) rfl rfl ?_
  refine sK_i (pc' := 6) rfl ?_
  refine x_retz (z := false) rfl rfl ?_
  refine sK_i (pc' := 5) rfl ?_
  refine x_if (a' := 19) (pc' := 8) (z := true) rfl rfl rfl (by decide) (fun _ => ?_) (fun h => by cases h)
  refine x_iconst (pc' := 20) rfl rfl ?_
  refine x_cv (ls0 := [_, _]) (rest := []) rfl rfl rfl rfl rfl ?_
  refine x_aload_n (pc' := 1) rfl rfl rfl rfl rfl ?_
  refine x_iload_n (pc' := 2) rfl rfl rfl ?_
  refine x_pI (pc' := 5) rfl rfl rfl ?_
  refine x_iload_n (pc' := 6) rfl rfl rfl ?_
  refine x_if (a' := 13) (pc' := 9) (z := true) rfl rfl rfl (by decide) (fun _ => ?_) (fun h => by cases h)
  refine x_iconst (pc' := 14) rfl rfl ?_
  refine x_retz (z := false) rfl rfl ?_
  refine sK_i (pc' := 23) rfl ?_
  refine x_if (a' := 28) (pc' := 26) (z := false) rfl rfl rfl (by decide) (fun h => by cases h) (fun _ => ?_)
  refine x_iconst (pc' := 27) rfl rfl ?_
  refine x_reti rfl rfl ?_
  refine sK_i (pc' := 2536) rfl ?_
  refine x_istore (pc' := 2538) (ls' := [_, _, _, _, _, _, _]) rfl rfl rfl rfl ?_
  refine x_aload_n (pc' := 2539) rfl rfl rfl rfl rfl ?_
  refine x_cv (ls0 := [_]) (rest := []) rfl rfl rfl rfl rfl ?_
  refine x_aload_n (pc' := 1) rfl rfl rfl rfl rfl ?_
  refine x_gI (pc' := 4) (x := 1) rfl rfl rfl sI_s ?_
  refine x_reti rfl rfl ?_
  refine sK_i (pc' := 2542) rfl ?_
  refine x_iload (pc' := 2544) rfl rfl rfl ?_
  refine x_icmp (a' := 2549) (pc' := 2547) (z := true) rfl rfl rfl (by decide) (fun _ => ?_) (fun h => by cases h)
  refine x_iload (pc' := 2551) rfl rfl rfl ?_
  refine x_if (a' := 2566) (pc' := 2554) (z := true) rfl rfl rfl (by decide) (fun _ => ?_) (fun h => by cases h)
  refine x_goto (pc' := 2938) rfl rfl ?_
  refine x_iinc (pc' := 2941) (y := 7) (ls' := [_, _, _, _, _, _, _]) rfl rfl rfl rfl rfl ?_
  refine x_goto (pc' := 23) rfl rfl ?_
  refine x_iload (pc' := 25) rfl rfl rfl ?_
  refine x_aload_n (pc' := 26) rfl rfl rfl rfl rfl ?_
  refine x_alen (pc' := 27) (N := 7) rfl rfl rfl (Eq.trans rdNI (Eq.trans rdNthr (z_N_29_0 e))) (?_ : X _ _ _ (.inl 7 :: _) _ _)
  refine x_bipush (pc' := 29) rfl rfl ?_
  refine x_isub (pc' := 30) (z := 0) rfl rfl (by decide) ?_
  refine x_icmp (a' := 2944) (pc' := 33) (z := true) rfl rfl rfl (by decide) (fun _ => ?_) (fun h => by cases h)
  refine x_iconst (pc' := 2945) rfl rfl ?_
  refine x_retz (z := true) rfl rfl ?_
  exact Qp_ok e (p := 1) (q := 6) rfl rfl rfl rfl
set_option maxHeartbeats 4000000 in
set_option maxRecDepth 10000 in
theorem v_33_B_0 {t : sT} {xs : Nat → Int32}
    (e : t = T16 7 xs)
    (hk : ((xs 0) &&& 63) = 33)
    (e0 : ¬ (xs 1) < 0)
    (f0 : ¬ (xs 1) < 6)
    (e1 : xs 2 = 0) :
    X 297 23 [.inr (.inr (29, (some 0))), .inr (.inr (11, (some 0))), .inr (.inr (12, (some 0))), .inr (.inr (23, (some 0))), .inl 0, sJk, sJk] [] t Qp := by
  refine x_iload (pc' := 25) rfl rfl rfl ?_
  refine x_aload_n (pc' := 26) rfl rfl rfl rfl rfl ?_
  refine x_alen (pc' := 27) (N := 7) rfl rfl rfl (z_N_29_0 e) (?_ : X _ _ _ (.inl 7 :: _) _ _)
  refine x_bipush (pc' := 29) rfl rfl ?_
  refine x_isub (pc' := 30) (z := 0) rfl rfl (by decide) ?_
  refine x_icmp (a' := 2944) (pc' := 33) (z := false) rfl rfl rfl (by decide) (fun h => by cases h) (fun _ => ?_)
  refine x_aload_n (pc' := 34) rfl rfl rfl rfl rfl ?_
  refine x_iload (pc' := 36) rfl rfl rfl ?_
  refine x_iald (pc' := 37) (N := 7) (x := (xs 0)) rfl rfl rfl (z_N_29_0 e) (io_in (p := 0) (N := 7) (by decide) (by decide)) (Eq.trans (congrArg (sA t 29 0) (nn_io (p := 0) (by decide))) (z_A_29_0_0 e)) ?_
  refine x_bipush (pc' := 39) rfl rfl ?_
  refine x_iand (pc' := 40) (z := ((xs 0) &&& 63)) rfl rfl rfl ?_
  refine x_switch (pc' := 2501) rfl (by rw [hk]; decide) ?_
  refine x_aload_n (pc' := 2502) rfl rfl rfl rfl rfl ?_
  refine x_aload_n (pc' := 2503) rfl rfl rfl rfl rfl ?_
  refine x_iload (pc' := 2505) rfl rfl rfl ?_
  refine x_iconst (pc' := 2506) rfl rfl ?_
  refine x_iadd (pc' := 2507) (z := 1) rfl rfl (by decide) ?_
  refine x_iald (pc' := 2508) (N := 7) (x := (xs 1)) rfl rfl rfl (z_N_29_0 e) (io_in (p := 1) (N := 7) (by decide) (by decide)) (Eq.trans (congrArg (sA t 29 0) (nn_io (p := 1) (by decide))) (z_A_29_0_1 e)) ?_
  refine x_aload_n (pc' := 2509) rfl rfl rfl rfl rfl ?_
  refine x_iload (pc' := 2511) rfl rfl rfl ?_
  refine x_iconst (pc' := 2512) rfl rfl ?_
  refine x_iadd (pc' := 2513) (z := 2) rfl rfl (by decide) ?_
  refine x_iald (pc' := 2514) (N := 7) (x := 0) rfl rfl rfl (z_N_29_0 e) (io_in (p := 2) (N := 7) (by decide) (by decide)) (Eq.trans (congrArg (sA t 29 0) (nn_io (p := 2) (by decide))) (Eq.trans (z_A_29_0_2 e) e1)) ?_
  refine x_aload_n (pc' := 2515) rfl rfl rfl rfl rfl ?_
  refine x_cs (ls0 := [_, _, _, _, sJk]) (rest := []) rfl rfl rfl rfl ?_
  refine x_aload_n (pc' := 1) rfl rfl rfl rfl rfl ?_
  refine x_iconst (pc' := 2) rfl rfl ?_
  refine x_aload_n (pc' := 3) rfl rfl rfl rfl rfl ?_
  refine x_iload_n (pc' := 4) rfl rfl rfl ?_
  refine x_iload_n (pc' := 5) rfl rfl rfl ?_
  refine x_cv (ls0 := [_, _, _, sJk]) (rest := [_, _]) rfl rfl rfl rfl rfl ?_
  refine x_aload_n (pc' := 1) rfl rfl rfl rfl rfl ?_
  refine x_iload_n (pc' := 2) rfl rfl rfl ?_
  refine x_cv (ls0 := [_, _]) (rest := []) rfl rfl rfl rfl rfl ?_
  refine x_iload_n (pc' := 1) rfl rfl rfl ?_
  refine x_if (a' := 16) (pc' := 4) (z := decide ((xs 1) < 0)) rfl rfl rfl rfl (fun h => absurd (of_decide_eq_true h) e0) (fun _ => ?_)
  refine x_iload_n (pc' := 5) rfl rfl rfl ?_
  refine x_aload_n (pc' := 6) rfl rfl rfl rfl rfl ?_
  refine x_gR (pc' := 9) (r := (some 0)) rfl rfl rfl (z_R_704_0 e) ?_
  refine x_gR (pc' := 12) (r := (some 0)) rfl rfl rfl (z_R_321_0 e) ?_
  refine x_alen (pc' := 13) (N := 6) rfl rfl rfl (z_N_26_0 e) (?_ : X _ _ _ (.inl 6 :: _) _ _)
  refine x_icmp (a' := 27) (pc' := 16) (z := decide ((xs 1) < 6)) rfl rfl rfl rfl (fun h => absurd (of_decide_eq_true h) f0) (fun _ => ?_)
  refine x_throw rfl rfl ?_
  refine sK_n (by decide +kernel) rfl ?_
  refine sK_h (h := 13) (by decide +kernel) rfl ?_
  refine x_catch (pc' := 15) (ls' := [_, _, _, _, _]) rfl rfl rfl rfl ?_
  refine x_iconst (pc' := 16) rfl rfl ?_
  refine x_reti rfl rfl ?_
  refine sK_i (pc' := 2518) rfl ?_
  refine x_istore (pc' := 2520) (ls' := [_, _, _, _, _, _, _]) rfl rfl rfl rfl ?_
  refine x_aload_n (pc' := 2521) rfl rfl rfl rfl rfl ?_
  refine x_aload_n (pc' := 2522) rfl rfl rfl rfl rfl ?_
  refine x_iload (pc' := 2524) rfl rfl rfl ?_
  refine x_iconst (pc' := 2525) rfl rfl ?_
  refine x_iadd (pc' := 2526) (z := 1) rfl rfl (by decide) ?_
  refine x_iald (pc' := 2527) (N := 7) (x := (xs 1)) rfl rfl rfl (Eq.trans rdNthr (z_N_29_0 e)) (io_in (p := 1) (N := 7) (by decide) (by decide)) (Eq.trans (congrArg (sA (sThr t) 29 0) (nn_io (p := 1) (by decide))) (Eq.trans rdAthr (z_A_29_0_1 e))) ?_
  refine x_aload_n (pc' := 2528) rfl rfl rfl rfl rfl ?_
  refine x_iload (pc' := 2530) rfl rfl rfl ?_
  refine x_iconst (pc' := 2531) rfl rfl ?_
  refine x_iadd (pc' := 2532) (z := 2) rfl rfl (by decide) ?_
  refine x_iald (pc' := 2533) (N := 7) (x := 0) rfl rfl rfl (Eq.trans rdNthr (z_N_29_0 e)) (io_in (p := 2) (N := 7) (by decide) (by decide)) (Eq.trans (congrArg (sA (sThr t) 29 0) (nn_io (p := 2) (by decide))) (Eq.trans rdAthr (Eq.trans (z_A_29_0_2 e) e1))) ?_
  refine x_cv (ls0 := [_, _, _, sJk, sJk, sJk]) (rest := []) rfl rfl rfl rfl rfl ?_
  refine x_aload_n (pc' := 1) rfl rfl rfl rfl rfl ?_
  refine x_iload_n (pc' := 2) rfl rfl rfl ?_
  refine x_cs (ls0 := [_]) (rest := [_]) rfl rfl rfl rfl ?_
  refine x_iload_n (pc' := 1) rfl rfl rfl ?_
  refine x_iconst (pc' := 2) rfl rfl ?_
  refine x_iconst (pc' := 3) rfl rfl ?_
  refine x_cs (ls0 := [_, _, _]) (rest := []) rfl rfl rfl rfl ?_
  refine x_iload_n (pc' := 1) rfl rfl rfl ?_
  refine x_iload_n (pc' := 2) rfl rfl rfl ?_
  refine x_icmp (a' := 14) (pc' := 5) (z := decide ((xs 1) < 0)) rfl rfl rfl rfl (fun h => absurd (of_decide_eq_true h) e0) (fun _ => ?_)
  refine x_iload_n (pc' := 6) rfl rfl rfl ?_
  refine x_iload_n (pc' := 7) rfl rfl rfl ?_
  refine x_icmp (a' := 14) (pc' := 10) (z := decide (5 < (xs 1))) rfl rfl rfl rfl (fun _ => ?_) (fun h => absurd (lt_of6 f0) (of_decide_eq_false h))
  refine x_iconst (pc' := 15) rfl rfl ?_
  refine x_retz (z := false) rfl rfl ?_
  refine sK_i (pc' := 6) rfl ?_
  refine x_retz (z := false) rfl rfl ?_
  refine sK_i (pc' := 5) rfl ?_
  refine x_if (a' := 19) (pc' := 8) (z := true) rfl rfl rfl (by decide) (fun _ => ?_) (fun h => by cases h)
  refine x_iconst (pc' := 20) rfl rfl ?_
  refine x_cv (ls0 := [_, _]) (rest := []) rfl rfl rfl rfl rfl ?_
  refine x_aload_n (pc' := 1) rfl rfl rfl rfl rfl ?_
  refine x_iload_n (pc' := 2) rfl rfl rfl ?_
  refine x_pI (pc' := 5) rfl rfl rfl ?_
  refine x_iload_n (pc' := 6) rfl rfl rfl ?_
  refine x_if (a' := 13) (pc' := 9) (z := true) rfl rfl rfl (by decide) (fun _ => ?_) (fun h => by cases h)
  refine x_iconst (pc' := 14) rfl rfl ?_
  refine x_retz (z := false) rfl rfl ?_
  refine sK_i (pc' := 23) rfl ?_
  refine x_if (a' := 28) (pc' := 26) (z := false) rfl rfl rfl (by decide) (fun h => by cases h) (fun _ => ?_)
  refine x_iconst (pc' := 27) rfl rfl ?_
  refine x_reti rfl rfl ?_
  refine sK_i (pc' := 2536) rfl ?_
  refine x_istore (pc' := 2538) (ls' := [_, _, _, _, _, _, _]) rfl rfl rfl rfl ?_
  refine x_aload_n (pc' := 2539) rfl rfl rfl rfl rfl ?_
  refine x_cv (ls0 := [_]) (rest := []) rfl rfl rfl rfl rfl ?_
  refine x_aload_n (pc' := 1) rfl rfl rfl rfl rfl ?_
  refine x_gI (pc' := 4) (x := 1) rfl rfl rfl sI_s ?_
  refine x_reti rfl rfl ?_
  refine sK_i (pc' := 2542) rfl ?_
  refine x_iload (pc' := 2544) rfl rfl rfl ?_
  refine x_icmp (a' := 2549) (pc' := 2547) (z := true) rfl rfl rfl (by decide) (fun _ => ?_) (fun h => by cases h)
  refine x_iload (pc' := 2551) rfl rfl rfl ?_
  refine x_if (a' := 2566) (pc' := 2554) (z := true) rfl rfl rfl (by decide) (fun _ => ?_) (fun h => by cases h)
  refine x_goto (pc' := 2938) rfl rfl ?_
  refine x_iinc (pc' := 2941) (y := 7) (ls' := [_, _, _, _, _, _, _]) rfl rfl rfl rfl rfl ?_
  refine x_goto (pc' := 23) rfl rfl ?_
  refine x_iload (pc' := 25) rfl rfl rfl ?_
  refine x_aload_n (pc' := 26) rfl rfl rfl rfl rfl ?_
  refine x_alen (pc' := 27) (N := 7) rfl rfl rfl (Eq.trans rdNI (Eq.trans rdNthr (z_N_29_0 e))) (?_ : X _ _ _ (.inl 7 :: _) _ _)
  refine x_bipush (pc' := 29) rfl rfl ?_
  refine x_isub (pc' := 30) (z := 0) rfl rfl (by decide) ?_
  refine x_icmp (a' := 2944) (pc' := 33) (z := true) rfl rfl rfl (by decide) (fun _ => ?_) (fun h => by cases h)
  refine x_iconst (pc' := 2945) rfl rfl ?_
  refine x_retz (z := true) rfl rfl ?_
  exact Qp_ok e (p := 1) (q := 6) rfl rfl rfl rfl
set_option maxHeartbeats 4000000 in
set_option maxRecDepth 10000 in
theorem v_33_B_1 {t : sT} {xs : Nat → Int32}
    (e : t = T16 7 xs)
    (hk : ((xs 0) &&& 63) = 33)
    (e0 : ¬ (xs 1) < 0)
    (f0 : ¬ (xs 1) < 6)
    (e1 : xs 2 = 1) :
    X 297 23 [.inr (.inr (29, (some 0))), .inr (.inr (11, (some 0))), .inr (.inr (12, (some 0))), .inr (.inr (23, (some 0))), .inl 0, sJk, sJk] [] t Qp := by
  refine x_iload (pc' := 25) rfl rfl rfl ?_
  refine x_aload_n (pc' := 26) rfl rfl rfl rfl rfl ?_
  refine x_alen (pc' := 27) (N := 7) rfl rfl rfl (z_N_29_0 e) (?_ : X _ _ _ (.inl 7 :: _) _ _)
  refine x_bipush (pc' := 29) rfl rfl ?_
  refine x_isub (pc' := 30) (z := 0) rfl rfl (by decide) ?_
  refine x_icmp (a' := 2944) (pc' := 33) (z := false) rfl rfl rfl (by decide) (fun h => by cases h) (fun _ => ?_)
  refine x_aload_n (pc' := 34) rfl rfl rfl rfl rfl ?_
  refine x_iload (pc' := 36) rfl rfl rfl ?_
  refine x_iald (pc' := 37) (N := 7) (x := (xs 0)) rfl rfl rfl (z_N_29_0 e) (io_in (p := 0) (N := 7) (by decide) (by decide)) (Eq.trans (congrArg (sA t 29 0) (nn_io (p := 0) (by decide))) (z_A_29_0_0 e)) ?_
  refine x_bipush (pc' := 39) rfl rfl ?_
  refine x_iand (pc' := 40) (z := ((xs 0) &&& 63)) rfl rfl rfl ?_
  refine x_switch (pc' := 2501) rfl (by rw [hk]; decide) ?_
  refine x_aload_n (pc' := 2502) rfl rfl rfl rfl rfl ?_
  refine x_aload_n (pc' := 2503) rfl rfl rfl rfl rfl ?_
  refine x_iload (pc' := 2505) rfl rfl rfl ?_
  refine x_iconst (pc' := 2506) rfl rfl ?_
  refine x_iadd (pc' := 2507) (z := 1) rfl rfl (by decide) ?_
  refine x_iald (pc' := 2508) (N := 7) (x := (xs 1)) rfl rfl rfl (z_N_29_0 e) (io_in (p := 1) (N := 7) (by decide) (by decide)) (Eq.trans (congrArg (sA t 29 0) (nn_io (p := 1) (by decide))) (z_A_29_0_1 e)) ?_
  refine x_aload_n (pc' := 2509) rfl rfl rfl rfl rfl ?_
  refine x_iload (pc' := 2511) rfl rfl rfl ?_
  refine x_iconst (pc' := 2512) rfl rfl ?_
  refine x_iadd (pc' := 2513) (z := 2) rfl rfl (by decide) ?_
  refine x_iald (pc' := 2514) (N := 7) (x := 1) rfl rfl rfl (z_N_29_0 e) (io_in (p := 2) (N := 7) (by decide) (by decide)) (Eq.trans (congrArg (sA t 29 0) (nn_io (p := 2) (by decide))) (Eq.trans (z_A_29_0_2 e) e1)) ?_
  refine x_aload_n (pc' := 2515) rfl rfl rfl rfl rfl ?_
  refine x_cs (ls0 := [_, _, _, _, sJk]) (rest := []) rfl rfl rfl rfl ?_
  refine x_aload_n (pc' := 1) rfl rfl rfl rfl rfl ?_
  refine x_iconst (pc' := 2) rfl rfl ?_
  refine x_aload_n (pc' := 3) rfl rfl rfl rfl rfl ?_
  refine x_iload_n (pc' := 4) rfl rfl rfl ?_
  refine x_iload_n (pc' := 5) rfl rfl rfl ?_
  refine x_cv (ls0 := [_, _, _, sJk]) (rest := [_, _]) rfl rfl rfl rfl rfl ?_
  refine x_aload_n (pc' := 1) rfl rfl rfl rfl rfl ?_
  refine x_iload_n (pc' := 2) rfl rfl rfl ?_
  refine x_cv (ls0 := [_, _]) (rest := []) rfl rfl rfl rfl rfl ?_
  refine x_iload_n (pc' := 1) rfl rfl rfl ?_
  refine x_if (a' := 16) (pc' := 4) (z := decide ((xs 1) < 0)) rfl rfl rfl rfl (fun h => absurd (of_decide_eq_true h) e0) (fun _ => ?_)
  refine x_iload_n (pc' := 5) rfl rfl rfl ?_
  refine x_aload_n (pc' := 6) rfl rfl rfl rfl rfl ?_
  refine x_gR (pc' := 9) (r := (some 0)) rfl rfl rfl (z_R_704_0 e) ?_
  refine x_gR (pc' := 12) (r := (some 0)) rfl rfl rfl (z_R_321_0 e) ?_
  refine x_alen (pc' := 13) (N := 6) rfl rfl rfl (z_N_26_0 e) (?_ : X _ _ _ (.inl 6 :: _) _ _)
  refine x_icmp (a' := 27) (pc' := 16) (z := decide ((xs 1) < 6)) rfl rfl rfl rfl (fun h => absurd (of_decide_eq_true h) f0) (fun _ => ?_)
  refine x_throw rfl rfl ?_
  refine sK_n (by decide +kernel) rfl ?_
  refine sK_h (h := 13) (by decide +kernel) rfl ?_
  refine x_catch (pc' := 15) (ls' := [_, _, _, _, _]) rfl rfl rfl rfl ?_
  refine x_iconst (pc' := 16) rfl rfl ?_
  refine x_reti rfl rfl ?_
  refine sK_i (pc' := 2518) rfl ?_
  refine x_istore (pc' := 2520) (ls' := [_, _, _, _, _, _, _]) rfl rfl rfl rfl ?_
  refine x_aload_n (pc' := 2521) rfl rfl rfl rfl rfl ?_
  refine x_aload_n (pc' := 2522) rfl rfl rfl rfl rfl ?_
  refine x_iload (pc' := 2524) rfl rfl rfl ?_
  refine x_iconst (pc' := 2525) rfl rfl ?_
  refine x_iadd (pc' := 2526) (z := 1) rfl rfl (by decide) ?_
  refine x_iald (pc' := 2527) (N := 7) (x := (xs 1)) rfl rfl rfl (Eq.trans rdNthr (z_N_29_0 e)) (io_in (p := 1) (N := 7) (by decide) (by decide)) (Eq.trans (congrArg (sA (sThr t) 29 0) (nn_io (p := 1) (by decide))) (Eq.trans rdAthr (z_A_29_0_1 e))) ?_
  refine x_aload_n (pc' := 2528) rfl rfl rfl rfl rfl ?_
  refine x_iload (pc' := 2530) rfl rfl rfl ?_
  refine x_iconst (pc' := 2531) rfl rfl ?_
  refine x_iadd (pc' := 2532) (z := 2) rfl rfl (by decide) ?_
  refine x_iald (pc' := 2533) (N := 7) (x := 1) rfl rfl rfl (Eq.trans rdNthr (z_N_29_0 e)) (io_in (p := 2) (N := 7) (by decide) (by decide)) (Eq.trans (congrArg (sA (sThr t) 29 0) (nn_io (p := 2) (by decide))) (Eq.trans rdAthr (Eq.trans (z_A_29_0_2 e) e1))) ?_
  refine x_cv (ls0 := [_, _, _, sJk, sJk, sJk]) (rest := []) rfl rfl rfl rfl rfl ?_
  refine x_aload_n (pc' := 1) rfl rfl rfl rfl rfl ?_
  refine x_iload_n (pc' := 2) rfl rfl rfl ?_
  refine x_cs (ls0 := [_]) (rest := [_]) rfl rfl rfl rfl ?_
  refine x_iload_n (pc' := 1) rfl rfl rfl ?_
  refine x_iconst (pc' := 2) rfl rfl ?_
  refine x_iconst (pc' := 3) rfl rfl ?_
  refine x_cs (ls0 := [_, _, _]) (rest := []) rfl rfl rfl rfl ?_
  refine x_iload_n (pc' := 1) rfl rfl rfl ?_
  refine x_iload_n (pc' := 2) rfl rfl rfl ?_
  refine x_icmp (a' := 14) (pc' := 5) (z := decide ((xs 1) < 0)) rfl rfl rfl rfl (fun h => absurd (of_decide_eq_true h) e0) (fun _ => ?_)
  refine x_iload_n (pc' := 6) rfl rfl rfl ?_
  refine x_iload_n (pc' := 7) rfl rfl rfl ?_
  refine x_icmp (a' := 14) (pc' := 10) (z := decide (5 < (xs 1))) rfl rfl rfl rfl (fun _ => ?_) (fun h => absurd (lt_of6 f0) (of_decide_eq_false h))
  refine x_iconst (pc' := 15) rfl rfl ?_
  refine x_retz (z := false) rfl rfl ?_
  refine sK_i (pc' := 6) rfl ?_
  refine x_retz (z := false) rfl rfl ?_
  refine sK_i (pc' := 5) rfl ?_
  refine x_if (a' := 19) (pc' := 8) (z := true) rfl rfl rfl (by decide) (fun _ => ?_) (fun h => by cases h)
  refine x_iconst (pc' := 20) rfl rfl ?_
  refine x_cv (ls0 := [_, _]) (rest := []) rfl rfl rfl rfl rfl ?_
  refine x_aload_n (pc' := 1) rfl rfl rfl rfl rfl ?_
  refine x_iload_n (pc' := 2) rfl rfl rfl ?_
  refine x_pI (pc' := 5) rfl rfl rfl ?_
  refine x_iload_n (pc' := 6) rfl rfl rfl ?_
  refine x_if (a' := 13) (pc' := 9) (z := true) rfl rfl rfl (by decide) (fun _ => ?_) (fun h => by cases h)
  refine x_iconst (pc' := 14) rfl rfl ?_
  refine x_retz (z := false) rfl rfl ?_
  refine sK_i (pc' := 23) rfl ?_
  refine x_if (a' := 28) (pc' := 26) (z := false) rfl rfl rfl (by decide) (fun h => by cases h) (fun _ => ?_)
  refine x_iconst (pc' := 27) rfl rfl ?_
  refine x_reti rfl rfl ?_
  refine sK_i (pc' := 2536) rfl ?_
  refine x_istore (pc' := 2538) (ls' := [_, _, _, _, _, _, _]) rfl rfl rfl rfl ?_
  refine x_aload_n (pc' := 2539) rfl rfl rfl rfl rfl ?_
  refine x_cv (ls0 := [_]) (rest := []) rfl rfl rfl rfl rfl ?_
  refine x_aload_n (pc' := 1) rfl rfl rfl rfl rfl ?_
  refine x_gI (pc' := 4) (x := 1) rfl rfl rfl sI_s ?_
  refine x_reti rfl rfl ?_
  refine sK_i (pc' := 2542) rfl ?_
  refine x_iload (pc' := 2544) rfl rfl rfl ?_
  refine x_icmp (a' := 2549) (pc' := 2547) (z := true) rfl rfl rfl (by decide) (fun _ => ?_) (fun h => by cases h)
  refine x_iload (pc' := 2551) rfl rfl rfl ?_
  refine x_if (a' := 2566) (pc' := 2554) (z := true) rfl rfl rfl (by decide) (fun _ => ?_) (fun h => by cases h)
  refine x_goto (pc' := 2938) rfl rfl ?_
  refine x_iinc (pc' := 2941) (y := 7) (ls' := [_, _, _, _, _, _, _]) rfl rfl rfl rfl rfl ?_
  refine x_goto (pc' := 23) rfl rfl ?_
  refine x_iload (pc' := 25) rfl rfl rfl ?_
  refine x_aload_n (pc' := 26) rfl rfl rfl rfl rfl ?_
  refine x_alen (pc' := 27) (N := 7) rfl rfl rfl (Eq.trans rdNI (Eq.trans rdNthr (z_N_29_0 e))) (?_ : X _ _ _ (.inl 7 :: _) _ _)
  refine x_bipush (pc' := 29) rfl rfl ?_
  refine x_isub (pc' := 30) (z := 0) rfl rfl (by decide) ?_
  refine x_icmp (a' := 2944) (pc' := 33) (z := true) rfl rfl rfl (by decide) (fun _ => ?_) (fun h => by cases h)
  refine x_iconst (pc' := 2945) rfl rfl ?_
  refine x_retz (z := true) rfl rfl ?_
  exact Qp_ok e (p := 1) (q := 6) rfl rfl rfl rfl
set_option maxHeartbeats 4000000 in
set_option maxRecDepth 10000 in
theorem v_33_B_2 {t : sT} {xs : Nat → Int32}
    (e : t = T16 7 xs)
    (hk : ((xs 0) &&& 63) = 33)
    (e0 : ¬ (xs 1) < 0)
    (f0 : ¬ (xs 1) < 6)
    (e1 : xs 2 = 2) :
    X 297 23 [.inr (.inr (29, (some 0))), .inr (.inr (11, (some 0))), .inr (.inr (12, (some 0))), .inr (.inr (23, (some 0))), .inl 0, sJk, sJk] [] t Qp := by
  refine x_iload (pc' := 25) rfl rfl rfl ?_
  refine x_aload_n (pc' := 26) rfl rfl rfl rfl rfl ?_
  refine x_alen (pc' := 27) (N := 7) rfl rfl rfl (z_N_29_0 e) (?_ : X _ _ _ (.inl 7 :: _) _ _)
  refine x_bipush (pc' := 29) rfl rfl ?_
  refine x_isub (pc' := 30) (z := 0) rfl rfl (by decide) ?_
  refine x_icmp (a' := 2944) (pc' := 33) (z := false) rfl rfl rfl (by decide) (fun h => by cases h) (fun _ => ?_)
  refine x_aload_n (pc' := 34) rfl rfl rfl rfl rfl ?_
  refine x_iload (pc' := 36) rfl rfl rfl ?_
  refine x_iald (pc' := 37) (N := 7) (x := (xs 0)) rfl rfl rfl (z_N_29_0 e) (io_in (p := 0) (N := 7) (by decide) (by decide)) (Eq.trans (congrArg (sA t 29 0) (nn_io (p := 0) (by decide))) (z_A_29_0_0 e)) ?_
  refine x_bipush (pc' := 39) rfl rfl ?_
  refine x_iand (pc' := 40) (z := ((xs 0) &&& 63)) rfl rfl rfl ?_
  refine x_switch (pc' := 2501) rfl (by rw [hk]; decide) ?_
  refine x_aload_n (pc' := 2502) rfl rfl rfl rfl rfl ?_
  refine x_aload_n (pc' := 2503) rfl rfl rfl rfl rfl ?_
  refine x_iload (pc' := 2505) rfl rfl rfl ?_
  refine x_iconst (pc' := 2506) rfl rfl ?_
  refine x_iadd (pc' := 2507) (z := 1) rfl rfl (by decide) ?_
  refine x_iald (pc' := 2508) (N := 7) (x := (xs 1)) rfl rfl rfl (z_N_29_0 e) (io_in (p := 1) (N := 7) (by decide) (by decide)) (Eq.trans (congrArg (sA t 29 0) (nn_io (p := 1) (by decide))) (z_A_29_0_1 e)) ?_
  refine x_aload_n (pc' := 2509) rfl rfl rfl rfl rfl ?_
  refine x_iload (pc' := 2511) rfl rfl rfl ?_
  refine x_iconst (pc' := 2512) rfl rfl ?_
  refine x_iadd (pc' := 2513) (z := 2) rfl rfl (by decide) ?_
  refine x_iald (pc' := 2514) (N := 7) (x := 2) rfl rfl rfl (z_N_29_0 e) (io_in (p := 2) (N := 7) (by decide) (by decide)) (Eq.trans (congrArg (sA t 29 0) (nn_io (p := 2) (by decide))) (Eq.trans (z_A_29_0_2 e) e1)) ?_
  refine x_aload_n (pc' := 2515) rfl rfl rfl rfl rfl ?_
  refine x_cs (ls0 := [_, _, _, _, sJk]) (rest := []) rfl rfl rfl rfl ?_
  refine x_aload_n (pc' := 1) rfl rfl rfl rfl rfl ?_
  refine x_iconst (pc' := 2) rfl rfl ?_
  refine x_aload_n (pc' := 3) rfl rfl rfl rfl rfl ?_
  refine x_iload_n (pc' := 4) rfl rfl rfl ?_
  refine x_iload_n (pc' := 5) rfl rfl rfl ?_
  refine x_cv (ls0 := [_, _, _, sJk]) (rest := [_, _]) rfl rfl rfl rfl rfl ?_
  refine x_aload_n (pc' := 1) rfl rfl rfl rfl rfl ?_
  refine x_iload_n (pc' := 2) rfl rfl rfl ?_
  refine x_cv (ls0 := [_, _]) (rest := []) rfl rfl rfl rfl rfl ?_
  refine x_iload_n (pc' := 1) rfl rfl rfl ?_
  refine x_if (a' := 16) (pc' := 4) (z := decide ((xs 1) < 0)) rfl rfl rfl rfl (fun h => absurd (of_decide_eq_true h) e0) (fun _ => ?_)
  refine x_iload_n (pc' := 5) rfl rfl rfl ?_
  refine x_aload_n (pc' := 6) rfl rfl rfl rfl rfl ?_
  refine x_gR (pc' := 9) (r := (some 0)) rfl rfl rfl (z_R_704_0 e) ?_
  refine x_gR (pc' := 12) (r := (some 0)) rfl rfl rfl (z_R_321_0 e) ?_
  refine x_alen (pc' := 13) (N := 6) rfl rfl rfl (z_N_26_0 e) (?_ : X _ _ _ (.inl 6 :: _) _ _)
  refine x_icmp (a' := 27) (pc' := 16) (z := decide ((xs 1) < 6)) rfl rfl rfl rfl (fun h => absurd (of_decide_eq_true h) f0) (fun _ => ?_)
  refine x_throw rfl rfl ?_
  refine sK_n (by decide +kernel) rfl ?_
  refine sK_h (h := 13) (by decide +kernel) rfl ?_
  refine x_catch (pc' := 15) (ls' := [_, _, _, _, _]) rfl rfl rfl rfl ?_
  refine x_iconst (pc' := 16) rfl rfl ?_
  refine x_reti rfl rfl ?_
  refine sK_i (pc' := 2518) rfl ?_
  refine x_istore (pc' := 2520) (ls' := [_, _, _, _, _, _, _]) rfl rfl rfl rfl ?_
  refine x_aload_n (pc' := 2521) rfl rfl rfl rfl rfl ?_
  refine x_aload_n (pc' := 2522) rfl rfl rfl rfl rfl ?_
  refine x_iload (pc' := 2524) rfl rfl rfl ?_
  refine x_iconst (pc' := 2525) rfl rfl ?_
  refine x_iadd (pc' := 2526) (z := 1) rfl rfl (by decide) ?_
  refine x_iald (pc' := 2527) (N := 7) (x := (xs 1)) rfl rfl rfl (Eq.trans rdNthr (z_N_29_0 e)) (io_in (p := 1) (N := 7) (by decide) (by decide)) (Eq.trans (congrArg (sA (sThr t) 29 0) (nn_io (p := 1) (by decide))) (Eq.trans rdAthr (z_A_29_0_1 e))) ?_
  refine x_aload_n (pc' := 2528) rfl rfl rfl rfl rfl ?_
  refine x_iload (pc' := 2530) rfl rfl rfl ?_
  refine x_iconst (pc' := 2531) rfl rfl ?_
  refine x_iadd (pc' := 2532) (z := 2) rfl rfl (by decide) ?_
  refine x_iald (pc' := 2533) (N := 7) (x := 2) rfl rfl rfl (Eq.trans rdNthr (z_N_29_0 e)) (io_in (p := 2) (N := 7) (by decide) (by decide)) (Eq.trans (congrArg (sA (sThr t) 29 0) (nn_io (p := 2) (by decide))) (Eq.trans rdAthr (Eq.trans (z_A_29_0_2 e) e1))) ?_
  refine x_cv (ls0 := [_, _, _, sJk, sJk, sJk]) (rest := []) rfl rfl rfl rfl rfl ?_
  refine x_aload_n (pc' := 1) rfl rfl rfl rfl rfl ?_
  refine x_iload_n (pc' := 2) rfl rfl rfl ?_
  refine x_cs (ls0 := [_]) (rest := [_]) rfl rfl rfl rfl ?_
  refine x_iload_n (pc' := 1) rfl rfl rfl ?_
  refine x_iconst (pc' := 2) rfl rfl ?_
  refine x_iconst (pc' := 3) rfl rfl ?_
  refine x_cs (ls0 := [_, _, _]) (rest := []) rfl rfl rfl rfl ?_
  refine x_iload_n (pc' := 1) rfl rfl rfl ?_
  refine x_iload_n (pc' := 2) rfl rfl rfl ?_
  refine x_icmp (a' := 14) (pc' := 5) (z := decide ((xs 1) < 0)) rfl rfl rfl rfl (fun h => absurd (of_decide_eq_true h) e0) (fun _ => ?_)
  refine x_iload_n (pc' := 6) rfl rfl rfl ?_
  refine x_iload_n (pc' := 7) rfl rfl rfl ?_
  refine x_icmp (a' := 14) (pc' := 10) (z := decide (5 < (xs 1))) rfl rfl rfl rfl (fun _ => ?_) (fun h => absurd (lt_of6 f0) (of_decide_eq_false h))
  refine x_iconst (pc' := 15) rfl rfl ?_
  refine x_retz (z := false) rfl rfl ?_
  refine sK_i (pc' := 6) rfl ?_
  refine x_retz (z := false) rfl rfl ?_
  refine sK_i (pc' := 5) rfl ?_
  refine x_if (a' := 19) (pc' := 8) (z := true) rfl rfl rfl (by decide) (fun _ => ?_) (fun h => by cases h)
  refine x_iconst (pc' := 20) rfl rfl ?_
  refine x_cv (ls0 := [_, _]) (rest := []) rfl rfl rfl rfl rfl ?_
  refine x_aload_n (pc' := 1) rfl rfl rfl rfl rfl ?_
  refine x_iload_n (pc' := 2) rfl rfl rfl ?_
  refine x_pI (pc' := 5) rfl rfl rfl ?_
  refine x_iload_n (pc' := 6) rfl rfl rfl ?_
  refine x_if (a' := 13) (pc' := 9) (z := true) rfl rfl rfl (by decide) (fun _ => ?_) (fun h => by cases h)
  refine x_iconst (pc' := 14) rfl rfl ?_
  refine x_retz (z := false) rfl rfl ?_
  refine sK_i (pc' := 23) rfl ?_
  refine x_if (a' := 28) (pc' := 26) (z := false) rfl rfl rfl (by decide) (fun h => by cases h) (fun _ => ?_)
  refine x_iconst (pc' := 27) rfl rfl ?_
  refine x_reti rfl rfl ?_
  refine sK_i (pc' := 2536) rfl ?_
  refine x_istore (pc' := 2538) (ls' := [_, _, _, _, _, _, _]) rfl rfl rfl rfl ?_
  refine x_aload_n (pc' := 2539) rfl rfl rfl rfl rfl ?_
  refine x_cv (ls0 := [_]) (rest := []) rfl rfl rfl rfl rfl ?_
  refine x_aload_n (pc' := 1) rfl rfl rfl rfl rfl ?_
  refine x_gI (pc' := 4) (x := 1) rfl rfl rfl sI_s ?_
  refine x_reti rfl rfl ?_
  refine sK_i (pc' := 2542) rfl ?_
  refine x_iload (pc' := 2544) rfl rfl rfl ?_
  refine x_icmp (a' := 2549) (pc' := 2547) (z := true) rfl rfl rfl (by decide) (fun _ => ?_) (fun h => by cases h)
  refine x_iload (pc' := 2551) rfl rfl rfl ?_
  refine x_if (a' := 2566) (pc' := 2554) (z := true) rfl rfl rfl (by decide) (fun _ => ?_) (fun h => by cases h)
  refine x_goto (pc' := 2938) rfl rfl ?_
  refine x_iinc (pc' := 2941) (y := 7) (ls' := [_, _, _, _, _, _, _]) rfl rfl rfl rfl rfl ?_
  refine x_goto (pc' := 23) rfl rfl ?_
  refine x_iload (pc' := 25) rfl rfl rfl ?_
  refine x_aload_n (pc' := 26) rfl rfl rfl rfl rfl ?_
  refine x_alen (pc' := 27) (N := 7) rfl rfl rfl (Eq.trans rdNI (Eq.trans rdNthr (z_N_29_0 e))) (?_ : X _ _ _ (.inl 7 :: _) _ _)
  refine x_bipush (pc' := 29) rfl rfl ?_
  refine x_isub (pc' := 30) (z := 0) rfl rfl (by decide) ?_
  refine x_icmp (a' := 2944) (pc' := 33) (z := true) rfl rfl rfl (by decide) (fun _ => ?_) (fun h => by cases h)
  refine x_iconst (pc' := 2945) rfl rfl ?_
  refine x_retz (z := true) rfl rfl ?_
  exact Qp_ok e (p := 1) (q := 6) rfl rfl rfl rfl
set_option maxHeartbeats 4000000 in
set_option maxRecDepth 10000 in
theorem v_33_B_A {t : sT} {xs : Nat → Int32}
    (e : t = T16 7 xs)
    (hk : ((xs 0) &&& 63) = 33)
    (e0 : ¬ (xs 1) < 0)
    (f0 : ¬ (xs 1) < 6)
    (e1 : (xs 2) < 0) :
    X 297 23 [.inr (.inr (29, (some 0))), .inr (.inr (11, (some 0))), .inr (.inr (12, (some 0))), .inr (.inr (23, (some 0))), .inl 0, sJk, sJk] [] t Qp := by
  refine x_iload (pc' := 25) rfl rfl rfl ?_
  refine x_aload_n (pc' := 26) rfl rfl rfl rfl rfl ?_
  refine x_alen (pc' := 27) (N := 7) rfl rfl rfl (z_N_29_0 e) (?_ : X _ _ _ (.inl 7 :: _) _ _)
  refine x_bipush (pc' := 29) rfl rfl ?_
  refine x_isub (pc' := 30) (z := 0) rfl rfl (by decide) ?_
  refine x_icmp (a' := 2944) (pc' := 33) (z := false) rfl rfl rfl (by decide) (fun h => by cases h) (fun _ => ?_)
  refine x_aload_n (pc' := 34) rfl rfl rfl rfl rfl ?_
  refine x_iload (pc' := 36) rfl rfl rfl ?_
  refine x_iald (pc' := 37) (N := 7) (x := (xs 0)) rfl rfl rfl (z_N_29_0 e) (io_in (p := 0) (N := 7) (by decide) (by decide)) (Eq.trans (congrArg (sA t 29 0) (nn_io (p := 0) (by decide))) (z_A_29_0_0 e)) ?_
  refine x_bipush (pc' := 39) rfl rfl ?_
  refine x_iand (pc' := 40) (z := ((xs 0) &&& 63)) rfl rfl rfl ?_
  refine x_switch (pc' := 2501) rfl (by rw [hk]; decide) ?_
  refine x_aload_n (pc' := 2502) rfl rfl rfl rfl rfl ?_
  refine x_aload_n (pc' := 2503) rfl rfl rfl rfl rfl ?_
  refine x_iload (pc' := 2505) rfl rfl rfl ?_
  refine x_iconst (pc' := 2506) rfl rfl ?_
  refine x_iadd (pc' := 2507) (z := 1) rfl rfl (by decide) ?_
  refine x_iald (pc' := 2508) (N := 7) (x := (xs 1)) rfl rfl rfl (z_N_29_0 e) (io_in (p := 1) (N := 7) (by decide) (by decide)) (Eq.trans (congrArg (sA t 29 0) (nn_io (p := 1) (by decide))) (z_A_29_0_1 e)) ?_
  refine x_aload_n (pc' := 2509) rfl rfl rfl rfl rfl ?_
  refine x_iload (pc' := 2511) rfl rfl rfl ?_
  refine x_iconst (pc' := 2512) rfl rfl ?_
  refine x_iadd (pc' := 2513) (z := 2) rfl rfl (by decide) ?_
  refine x_iald (pc' := 2514) (N := 7) (x := (xs 2)) rfl rfl rfl (z_N_29_0 e) (io_in (p := 2) (N := 7) (by decide) (by decide)) (Eq.trans (congrArg (sA t 29 0) (nn_io (p := 2) (by decide))) (z_A_29_0_2 e)) ?_
  refine x_aload_n (pc' := 2515) rfl rfl rfl rfl rfl ?_
  refine x_cs (ls0 := [_, _, _, _, sJk]) (rest := []) rfl rfl rfl rfl ?_
  refine x_aload_n (pc' := 1) rfl rfl rfl rfl rfl ?_
  refine x_iconst (pc' := 2) rfl rfl ?_
  refine x_aload_n (pc' := 3) rfl rfl rfl rfl rfl ?_
  refine x_iload_n (pc' := 4) rfl rfl rfl ?_
  refine x_iload_n (pc' := 5) rfl rfl rfl ?_
  refine x_cv (ls0 := [_, _, _, sJk]) (rest := [_, _]) rfl rfl rfl rfl rfl ?_
  refine x_aload_n (pc' := 1) rfl rfl rfl rfl rfl ?_
  refine x_iload_n (pc' := 2) rfl rfl rfl ?_
  refine x_cv (ls0 := [_, _]) (rest := []) rfl rfl rfl rfl rfl ?_
  refine x_iload_n (pc' := 1) rfl rfl rfl ?_
  refine x_if (a' := 16) (pc' := 4) (z := decide ((xs 1) < 0)) rfl rfl rfl rfl (fun h => absurd (of_decide_eq_true h) e0) (fun _ => ?_)
  refine x_iload_n (pc' := 5) rfl rfl rfl ?_
  refine x_aload_n (pc' := 6) rfl rfl rfl rfl rfl ?_
  refine x_gR (pc' := 9) (r := (some 0)) rfl rfl rfl (z_R_704_0 e) ?_
  refine x_gR (pc' := 12) (r := (some 0)) rfl rfl rfl (z_R_321_0 e) ?_
  refine x_alen (pc' := 13) (N := 6) rfl rfl rfl (z_N_26_0 e) (?_ : X _ _ _ (.inl 6 :: _) _ _)
  refine x_icmp (a' := 27) (pc' := 16) (z := decide ((xs 1) < 6)) rfl rfl rfl rfl (fun h => absurd (of_decide_eq_true h) f0) (fun _ => ?_)
  refine x_throw rfl rfl ?_
  refine sK_n (by decide +kernel) rfl ?_
  refine sK_h (h := 13) (by decide +kernel) rfl ?_
  refine x_catch (pc' := 15) (ls' := [_, _, _, _, _]) rfl rfl rfl rfl ?_
  refine x_iconst (pc' := 16) rfl rfl ?_
  refine x_reti rfl rfl ?_
  refine sK_i (pc' := 2518) rfl ?_
  refine x_istore (pc' := 2520) (ls' := [_, _, _, _, _, _, _]) rfl rfl rfl rfl ?_
  refine x_aload_n (pc' := 2521) rfl rfl rfl rfl rfl ?_
  refine x_aload_n (pc' := 2522) rfl rfl rfl rfl rfl ?_
  refine x_iload (pc' := 2524) rfl rfl rfl ?_
  refine x_iconst (pc' := 2525) rfl rfl ?_
  refine x_iadd (pc' := 2526) (z := 1) rfl rfl (by decide) ?_
  refine x_iald (pc' := 2527) (N := 7) (x := (xs 1)) rfl rfl rfl (Eq.trans rdNthr (z_N_29_0 e)) (io_in (p := 1) (N := 7) (by decide) (by decide)) (Eq.trans (congrArg (sA (sThr t) 29 0) (nn_io (p := 1) (by decide))) (Eq.trans rdAthr (z_A_29_0_1 e))) ?_
  refine x_aload_n (pc' := 2528) rfl rfl rfl rfl rfl ?_
  refine x_iload (pc' := 2530) rfl rfl rfl ?_
  refine x_iconst (pc' := 2531) rfl rfl ?_
  refine x_iadd (pc' := 2532) (z := 2) rfl rfl (by decide) ?_
  refine x_iald (pc' := 2533) (N := 7) (x := (xs 2)) rfl rfl rfl (Eq.trans rdNthr (z_N_29_0 e)) (io_in (p := 2) (N := 7) (by decide) (by decide)) (Eq.trans (congrArg (sA (sThr t) 29 0) (nn_io (p := 2) (by decide))) (Eq.trans rdAthr (z_A_29_0_2 e))) ?_
  refine x_cv (ls0 := [_, _, _, sJk, sJk, sJk]) (rest := []) rfl rfl rfl rfl rfl ?_
  refine x_aload_n (pc' := 1) rfl rfl rfl rfl rfl ?_
  refine x_iload_n (pc' := 2) rfl rfl rfl ?_
  refine x_cs (ls0 := [_]) (rest := [_]) rfl rfl rfl rfl ?_
  refine x_iload_n (pc' := 1) rfl rfl rfl ?_
  refine x_iconst (pc' := 2) rfl rfl ?_
  refine x_iconst (pc' := 3) rfl rfl ?_
  refine x_cs (ls0 := [_, _, _]) (rest := []) rfl rfl rfl rfl ?_
  refine x_iload_n (pc' := 1) rfl rfl rfl ?_
  refine x_iload_n (pc' := 2) rfl rfl rfl ?_
  refine x_icmp (a' := 14) (pc' := 5) (z := decide ((xs 1) < 0)) rfl rfl rfl rfl (fun h => absurd (of_decide_eq_true h) e0) (fun _ => ?_)
  refine x_iload_n (pc' := 6) rfl rfl rfl ?_
  refine x_iload_n (pc' := 7) rfl rfl rfl ?_
  refine x_icmp (a' := 14) (pc' := 10) (z := decide (5 < (xs 1))) rfl rfl rfl rfl (fun _ => ?_) (fun h => absurd (lt_of6 f0) (of_decide_eq_false h))
  refine x_iconst (pc' := 15) rfl rfl ?_
  refine x_retz (z := false) rfl rfl ?_
  refine sK_i (pc' := 6) rfl ?_
  refine x_retz (z := false) rfl rfl ?_
  refine sK_i (pc' := 5) rfl ?_
  refine x_if (a' := 19) (pc' := 8) (z := true) rfl rfl rfl (by decide) (fun _ => ?_) (fun h => by cases h)
  refine x_iconst (pc' := 20) rfl rfl ?_
  refine x_cv (ls0 := [_, _]) (rest := []) rfl rfl rfl rfl rfl ?_
  refine x_aload_n (pc' := 1) rfl rfl rfl rfl rfl ?_
  refine x_iload_n (pc' := 2) rfl rfl rfl ?_
  refine x_pI (pc' := 5) rfl rfl rfl ?_
  refine x_iload_n (pc' := 6) rfl rfl rfl ?_
  refine x_if (a' := 13) (pc' := 9) (z := true) rfl rfl rfl (by decide) (fun _ => ?_) (fun h => by cases h)
  refine x_iconst (pc' := 14) rfl rfl ?_
  refine x_retz (z := false) rfl rfl ?_
  refine sK_i (pc' := 23) rfl ?_
  refine x_if (a' := 28) (pc' := 26) (z := false) rfl rfl rfl (by decide) (fun h => by cases h) (fun _ => ?_)
  refine x_iconst (pc' := 27) rfl rfl ?_
  refine x_reti rfl rfl ?_
  refine sK_i (pc' := 2536) rfl ?_
  refine x_istore (pc' := 2538) (ls' := [_, _, _, _, _, _, _]) rfl rfl rfl rfl ?_
  refine x_aload_n (pc' := 2539) rfl rfl rfl rfl rfl ?_
  refine x_cv (ls0 := [_]) (rest := []) rfl rfl rfl rfl rfl ?_
  refine x_aload_n (pc' := 1) rfl rfl rfl rfl rfl ?_
  refine x_gI (pc' := 4) (x := 1) rfl rfl rfl sI_s ?_
  refine x_reti rfl rfl ?_
  refine sK_i (pc' := 2542) rfl ?_
  refine x_iload (pc' := 2544) rfl rfl rfl ?_
  refine x_icmp (a' := 2549) (pc' := 2547) (z := true) rfl rfl rfl (by decide) (fun _ => ?_) (fun h => by cases h)
  refine x_iload (pc' := 2551) rfl rfl rfl ?_
  refine x_if (a' := 2566) (pc' := 2554) (z := true) rfl rfl rfl (by decide) (fun _ => ?_) (fun h => by cases h)
  refine x_goto (pc' := 2938) rfl rfl ?_
  refine x_iinc (pc' := 2941) (y := 7) (ls' := [_, _, _, _, _, _, _]) rfl rfl rfl rfl rfl ?_
  refine x_goto (pc' := 23) rfl rfl ?_
  refine x_iload (pc' := 25) rfl rfl rfl ?_
  refine x_aload_n (pc' := 26) rfl rfl rfl rfl rfl ?_
  refine x_alen (pc' := 27) (N := 7) rfl rfl rfl (Eq.trans rdNI (Eq.trans rdNthr (z_N_29_0 e))) (?_ : X _ _ _ (.inl 7 :: _) _ _)
  refine x_bipush (pc' := 29) rfl rfl ?_
  refine x_isub (pc' := 30) (z := 0) rfl rfl (by decide) ?_
  refine x_icmp (a' := 2944) (pc' := 33) (z := true) rfl rfl rfl (by decide) (fun _ => ?_) (fun h => by cases h)
  refine x_iconst (pc' := 2945) rfl rfl ?_
  refine x_retz (z := true) rfl rfl ?_
  exact Qp_ok e (p := 1) (q := 6) rfl rfl rfl rfl
set_option maxHeartbeats 4000000 in
set_option maxRecDepth 10000 in
theorem v_33_B_B {t : sT} {xs : Nat → Int32}
    (e : t = T16 7 xs)
    (hk : ((xs 0) &&& 63) = 33)
    (e0 : ¬ (xs 1) < 0)
    (f0 : ¬ (xs 1) < 6)
    (e1 : ¬ (xs 2) < 0)
    (f1 : ¬ (xs 2) < 3) :
    X 297 23 [.inr (.inr (29, (some 0))), .inr (.inr (11, (some 0))), .inr (.inr (12, (some 0))), .inr (.inr (23, (some 0))), .inl 0, sJk, sJk] [] t Qp := by
  refine x_iload (pc' := 25) rfl rfl rfl ?_
  refine x_aload_n (pc' := 26) rfl rfl rfl rfl rfl ?_
  refine x_alen (pc' := 27) (N := 7) rfl rfl rfl (z_N_29_0 e) (?_ : X _ _ _ (.inl 7 :: _) _ _)
  refine x_bipush (pc' := 29) rfl rfl ?_
  refine x_isub (pc' := 30) (z := 0) rfl rfl (by decide) ?_
  refine x_icmp (a' := 2944) (pc' := 33) (z := false) rfl rfl rfl (by decide) (fun h => by cases h) (fun _ => ?_)
  refine x_aload_n (pc' := 34) rfl rfl rfl rfl rfl ?_
  refine x_iload (pc' := 36) rfl rfl rfl ?_
  refine x_iald (pc' := 37) (N := 7) (x := (xs 0)) rfl rfl rfl (z_N_29_0 e) (io_in (p := 0) (N := 7) (by decide) (by decide)) (Eq.trans (congrArg (sA t 29 0) (nn_io (p := 0) (by decide))) (z_A_29_0_0 e)) ?_
  refine x_bipush (pc' := 39) rfl rfl ?_
  refine x_iand (pc' := 40) (z := ((xs 0) &&& 63)) rfl rfl rfl ?_
  refine x_switch (pc' := 2501) rfl (by rw [hk]; decide) ?_
  refine x_aload_n (pc' := 2502) rfl rfl rfl rfl rfl ?_
  refine x_aload_n (pc' := 2503) rfl rfl rfl rfl rfl ?_
  refine x_iload (pc' := 2505) rfl rfl rfl ?_
  refine x_iconst (pc' := 2506) rfl rfl ?_
  refine x_iadd (pc' := 2507) (z := 1) rfl rfl (by decide) ?_
  refine x_iald (pc' := 2508) (N := 7) (x := (xs 1)) rfl rfl rfl (z_N_29_0 e) (io_in (p := 1) (N := 7) (by decide) (by decide)) (Eq.trans (congrArg (sA t 29 0) (nn_io (p := 1) (by decide))) (z_A_29_0_1 e)) ?_
  refine x_aload_n (pc' := 2509) rfl rfl rfl rfl rfl ?_
  refine x_iload (pc' := 2511) rfl rfl rfl ?_
  refine x_iconst (pc' := 2512) rfl rfl ?_
  refine x_iadd (pc' := 2513) (z := 2) rfl rfl (by decide) ?_
  refine x_iald (pc' := 2514) (N := 7) (x := (xs 2)) rfl rfl rfl (z_N_29_0 e) (io_in (p := 2) (N := 7) (by decide) (by decide)) (Eq.trans (congrArg (sA t 29 0) (nn_io (p := 2) (by decide))) (z_A_29_0_2 e)) ?_
  refine x_aload_n (pc' := 2515) rfl rfl rfl rfl rfl ?_
  refine x_cs (ls0 := [_, _, _, _, sJk]) (rest := []) rfl rfl rfl rfl ?_
  refine x_aload_n (pc' := 1) rfl rfl rfl rfl rfl ?_
  refine x_iconst (pc' := 2) rfl rfl ?_
  refine x_aload_n (pc' := 3) rfl rfl rfl rfl rfl ?_
  refine x_iload_n (pc' := 4) rfl rfl rfl ?_
  refine x_iload_n (pc' := 5) rfl rfl rfl ?_
  refine x_cv (ls0 := [_, _, _, sJk]) (rest := [_, _]) rfl rfl rfl rfl rfl ?_
  refine x_aload_n (pc' := 1) rfl rfl rfl rfl rfl ?_
  refine x_iload_n (pc' := 2) rfl rfl rfl ?_
  refine x_cv (ls0 := [_, _]) (rest := []) rfl rfl rfl rfl rfl ?_
  refine x_iload_n (pc' := 1) rfl rfl rfl ?_
  refine x_if (a' := 16) (pc' := 4) (z := decide ((xs 1) < 0)) rfl rfl rfl rfl (fun h => absurd (of_decide_eq_true h) e0) (fun _ => ?_)
  refine x_iload_n (pc' := 5) rfl rfl rfl ?_
  refine x_aload_n (pc' := 6) rfl rfl rfl rfl rfl ?_
  refine x_gR (pc' := 9) (r := (some 0)) rfl rfl rfl (z_R_704_0 e) ?_
  refine x_gR (pc' := 12) (r := (some 0)) rfl rfl rfl (z_R_321_0 e) ?_
  refine x_alen (pc' := 13) (N := 6) rfl rfl rfl (z_N_26_0 e) (?_ : X _ _ _ (.inl 6 :: _) _ _)
  refine x_icmp (a' := 27) (pc' := 16) (z := decide ((xs 1) < 6)) rfl rfl rfl rfl (fun h => absurd (of_decide_eq_true h) f0) (fun _ => ?_)
  refine x_throw rfl rfl ?_
  refine sK_n (by decide +kernel) rfl ?_
  refine sK_h (h := 13) (by decide +kernel) rfl ?_
  refine x_catch (pc' := 15) (ls' := [_, _, _, _, _]) rfl rfl rfl rfl ?_
  refine x_iconst (pc' := 16) rfl rfl ?_
  refine x_reti rfl rfl ?_
  refine sK_i (pc' := 2518) rfl ?_
  refine x_istore (pc' := 2520) (ls' := [_, _, _, _, _, _, _]) rfl rfl rfl rfl ?_
  refine x_aload_n (pc' := 2521) rfl rfl rfl rfl rfl ?_
  refine x_aload_n (pc' := 2522) rfl rfl rfl rfl rfl ?_
  refine x_iload (pc' := 2524) rfl rfl rfl ?_
  refine x_iconst (pc' := 2525) rfl rfl ?_
  refine x_iadd (pc' := 2526) (z := 1) rfl rfl (by decide) ?_
  refine x_iald (pc' := 2527) (N := 7) (x := (xs 1)) rfl rfl rfl (Eq.trans rdNthr (z_N_29_0 e)) (io_in (p := 1) (N := 7) (by decide) (by decide)) (Eq.trans (congrArg (sA (sThr t) 29 0) (nn_io (p := 1) (by decide))) (Eq.trans rdAthr (z_A_29_0_1 e))) ?_
  refine x_aload_n (pc' := 2528) rfl rfl rfl rfl rfl ?_
  refine x_iload (pc' := 2530) rfl rfl rfl ?_
  refine x_iconst (pc' := 2531) rfl rfl ?_
  refine x_iadd (pc' := 2532) (z := 2) rfl rfl (by decide) ?_
  refine x_iald (pc' := 2533) (N := 7) (x := (xs 2)) rfl rfl rfl (Eq.trans rdNthr (z_N_29_0 e)) (io_in (p := 2) (N := 7) (by decide) (by decide)) (Eq.trans (congrArg (sA (sThr t) 29 0) (nn_io (p := 2) (by decide))) (Eq.trans rdAthr (z_A_29_0_2 e))) ?_
  refine x_cv (ls0 := [_, _, _, sJk, sJk, sJk]) (rest := []) rfl rfl rfl rfl rfl ?_
  refine x_aload_n (pc' := 1) rfl rfl rfl rfl rfl ?_
  refine x_iload_n (pc' := 2) rfl rfl rfl ?_
  refine x_cs (ls0 := [_]) (rest := [_]) rfl rfl rfl rfl ?_
  refine x_iload_n (pc' := 1) rfl rfl rfl ?_
  refine x_iconst (pc' := 2) rfl rfl ?_
  refine x_iconst (pc' := 3) rfl rfl ?_
  refine x_cs (ls0 := [_, _, _]) (rest := []) rfl rfl rfl rfl ?_
  refine x_iload_n (pc' := 1) rfl rfl rfl ?_
  refine x_iload_n (pc' := 2) rfl rfl rfl ?_
  refine x_icmp (a' := 14) (pc' := 5) (z := decide ((xs 1) < 0)) rfl rfl rfl rfl (fun h => absurd (of_decide_eq_true h) e0) (fun _ => ?_)
  refine x_iload_n (pc' := 6) rfl rfl rfl ?_
  refine x_iload_n (pc' := 7) rfl rfl rfl ?_
  refine x_icmp (a' := 14) (pc' := 10) (z := decide (5 < (xs 1))) rfl rfl rfl rfl (fun _ => ?_) (fun h => absurd (lt_of6 f0) (of_decide_eq_false h))
  refine x_iconst (pc' := 15) rfl rfl ?_
  refine x_retz (z := false) rfl rfl ?_
  refine sK_i (pc' := 6) rfl ?_
  refine x_retz (z := false) rfl rfl ?_
  refine sK_i (pc' := 5) rfl ?_
  refine x_if (a' := 19) (pc' := 8) (z := true) rfl rfl rfl (by decide) (fun _ => ?_) (fun h => by cases h)
  refine x_iconst (pc' := 20) rfl rfl ?_
  refine x_cv (ls0 := [_, _]) (rest := []) rfl rfl rfl rfl rfl ?_
  refine x_aload_n (pc' := 1) rfl rfl rfl rfl rfl ?_
  refine x_iload_n (pc' := 2) rfl rfl rfl ?_
  refine x_pI (pc' := 5) rfl rfl rfl ?_
  refine x_iload_n (pc' := 6) rfl rfl rfl ?_
  refine x_if (a' := 13) (pc' := 9) (z := true) rfl rfl rfl (by decide) (fun _ => ?_) (fun h => by cases h)
  refine x_iconst (pc' := 14) rfl rfl ?_
  refine x_retz (z := false) rfl rfl ?_
  refine sK_i (pc' := 23) rfl ?_
  refine x_if (a' := 28) (pc' := 26) (z := false) rfl rfl rfl (by decide) (fun h => by cases h) (fun _ => ?_)
  refine x_iconst (pc' := 27) rfl rfl ?_
  refine x_reti rfl rfl ?_
  refine sK_i (pc' := 2536) rfl ?_
  refine x_istore (pc' := 2538) (ls' := [_, _, _, _, _, _, _]) rfl rfl rfl rfl ?_
  refine x_aload_n (pc' := 2539) rfl rfl rfl rfl rfl ?_
  refine x_cv (ls0 := [_]) (rest := []) rfl rfl rfl rfl rfl ?_
  refine x_aload_n (pc' := 1) rfl rfl rfl rfl rfl ?_
  refine x_gI (pc' := 4) (x := 1) rfl rfl rfl sI_s ?_
  refine x_reti rfl rfl ?_
  refine sK_i (pc' := 2542) rfl ?_
  refine x_iload (pc' := 2544) rfl rfl rfl ?_
  refine x_icmp (a' := 2549) (pc' := 2547) (z := true) rfl rfl rfl (by decide) (fun _ => ?_) (fun h => by cases h)
  refine x_iload (pc' := 2551) rfl rfl rfl ?_
  refine x_if (a' := 2566) (pc' := 2554) (z := true) rfl rfl rfl (by decide) (fun _ => ?_) (fun h => by cases h)
  refine x_goto (pc' := 2938) rfl rfl ?_
  refine x_iinc (pc' := 2941) (y := 7) (ls' := [_, _, _, _, _, _, _]) rfl rfl rfl rfl rfl ?_
  refine x_goto (pc' := 23) rfl rfl ?_
  refine x_iload (pc' := 25) rfl rfl rfl ?_
  refine x_aload_n (pc' := 26) rfl rfl rfl rfl rfl ?_
  refine x_alen (pc' := 27) (N := 7) rfl rfl rfl (Eq.trans rdNI (Eq.trans rdNthr (z_N_29_0 e))) (?_ : X _ _ _ (.inl 7 :: _) _ _)
  refine x_bipush (pc' := 29) rfl rfl ?_
  refine x_isub (pc' := 30) (z := 0) rfl rfl (by decide) ?_
  refine x_icmp (a' := 2944) (pc' := 33) (z := true) rfl rfl rfl (by decide) (fun _ => ?_) (fun h => by cases h)
  refine x_iconst (pc' := 2945) rfl rfl ?_
  refine x_retz (z := true) rfl rfl ?_
  exact Qp_ok e (p := 1) (q := 6) rfl rfl rfl rfl
set_option maxHeartbeats 4000000 in
set_option maxRecDepth 10000 in
theorem v_34_v {t : sT} {xs : Nat → Int32} {m : Nat}
    (e : t = T16 7 xs)
    (hk : ((xs 0) &&& 63) = 34)
    (hm : m < 6)
    (e0 : xs 1 = io m) :
    X 297 23 [.inr (.inr (29, (some 0))), .inr (.inr (11, (some 0))), .inr (.inr (12, (some 0))), .inr (.inr (23, (some 0))), .inl 0, sJk, sJk] [] t Qp := by
  refine x_iload (pc' := 25) rfl rfl rfl ?_
  refine x_aload_n (pc' := 26) rfl rfl rfl rfl rfl ?_
  refine x_alen (pc' := 27) (N := 7) rfl rfl rfl (z_N_29_0 e) (?_ : X _ _ _ (.inl 7 :: _) _ _)
  refine x_bipush (pc' := 29) rfl rfl ?_
  refine x_isub (pc' := 30) (z := 0) rfl rfl (by decide) ?_
  refine x_icmp (a' := 2944) (pc' := 33) (z := false) rfl rfl rfl (by decide) (fun h => by cases h) (fun _ => ?_)
  refine x_aload_n (pc' := 34) rfl rfl rfl rfl rfl ?_
  refine x_iload (pc' := 36) rfl rfl rfl ?_
  refine x_iald (pc' := 37) (N := 7) (x := (xs 0)) rfl rfl rfl (z_N_29_0 e) (io_in (p := 0) (N := 7) (by decide) (by decide)) (Eq.trans (congrArg (sA t 29 0) (nn_io (p := 0) (by decide))) (z_A_29_0_0 e)) ?_
  refine x_bipush (pc' := 39) rfl rfl ?_
  refine x_iand (pc' := 40) (z := ((xs 0) &&& 63)) rfl rfl rfl ?_
  refine x_switch (pc' := 2569) rfl (by rw [hk]; decide) ?_
  refine x_aload_n (pc' := 2570) rfl rfl rfl rfl rfl ?_
  refine x_aload_n (pc' := 2571) rfl rfl rfl rfl rfl ?_
  refine x_iload (pc' := 2573) rfl rfl rfl ?_
  refine x_iconst (pc' := 2574) rfl rfl ?_
  refine x_iadd (pc' := 2575) (z := 1) rfl rfl (by decide) ?_
  refine x_iald (pc' := 2576) (N := 7) (x := (io m)) rfl rfl rfl (z_N_29_0 e) (io_in (p := 1) (N := 7) (by decide) (by decide)) (Eq.trans (congrArg (sA t 29 0) (nn_io (p := 1) (by decide))) (Eq.trans (z_A_29_0_1 e) e0)) ?_
  refine x_aload_n (pc' := 2577) rfl rfl rfl rfl rfl ?_
  refine x_cs (ls0 := [_, _, _, sJk]) (rest := []) rfl rfl rfl rfl ?_
  refine x_aload_n (pc' := 1) rfl rfl rfl rfl rfl ?_
  refine x_iconst (pc' := 2) rfl rfl ?_
  refine x_aload_n (pc' := 3) rfl rfl rfl rfl rfl ?_
  refine x_iload_n (pc' := 4) rfl rfl rfl ?_
  refine x_cv (ls0 := [_, _]) (rest := [_, _]) rfl rfl rfl rfl rfl ?_
  refine x_aload_n (pc' := 1) rfl rfl rfl rfl rfl ?_
  refine x_iload_n (pc' := 2) rfl rfl rfl ?_
  refine x_cv (ls0 := [_, _]) (rest := []) rfl rfl rfl rfl rfl ?_
  refine x_iload_n (pc' := 1) rfl rfl rfl ?_
  refine x_if (a' := 16) (pc' := 4) (z := decide (m < 0)) rfl rfl rfl (ic_lt (p := m) (q := 0) (Nat.lt_trans hm (by decide)) (by decide)) (fun h => absurd (of_decide_eq_true h) (by first | decide | omega | simp)) (fun _ => ?_)
  refine x_iload_n (pc' := 5) rfl rfl rfl ?_
  refine x_aload_n (pc' := 6) rfl rfl rfl rfl rfl ?_
  refine x_gR (pc' := 9) (r := (some 0)) rfl rfl rfl (z_R_704_0 e) ?_
  refine x_gR (pc' := 12) (r := (some 0)) rfl rfl rfl (z_R_321_0 e) ?_
  refine x_alen (pc' := 13) (N := 6) rfl rfl rfl (z_N_26_0 e) (?_ : X _ _ _ (.inl 6 :: _) _ _)
  refine x_icmp (a' := 27) (pc' := 16) (z := decide (m < 6)) rfl rfl rfl (ic_lt (p := m) (q := 6) (Nat.lt_trans hm (by decide)) (by decide)) (fun _ => ?_) (fun h => absurd (Nat.lt_of_lt_of_le hm (by decide)) (of_decide_eq_false h))
  refine x_aload_n (pc' := 28) rfl rfl rfl rfl rfl ?_
  refine x_gR (pc' := 31) (r := (some 0)) rfl rfl rfl (z_R_704_0 e) ?_
  refine x_gR (pc' := 34) (r := (some 0)) rfl rfl rfl (z_R_321_0 e) ?_
  refine x_iload_n (pc' := 35) rfl rfl rfl ?_
  refine x_aald (pc' := 36) (N := 6) (k' := 7) (r := (some m)) rfl rfl rfl (z_N_26_0 e) (io_in (p := m) (N := 6) hm (by decide)) (Eq.trans (congrArg (sE t 26 0) (nn_io (p := m) (Nat.lt_trans hm (by decide)))) (kM (Cn_e e) hm)) ?_
  refine x_reta rfl rfl ?_
  refine sK_i (pc' := 5) rfl ?_
  refine x_gI (pc' := 8) (x := 0) rfl rfl rfl (z_I_451_y e _) ?_
  refine x_reti rfl rfl ?_
  refine sK_i (pc' := 7) rfl ?_
  refine x_i2l (pc' := 8) (z := (0 : Int64)) rfl rfl (by decide) ?_
  refine x_last (pc' := 9) (N := 1) (p := 0) rfl rfl (z_N_23_0 e) (io_in (p := 0) (N := 1) (by decide) (by decide)) (nn_io (p := 0) (by decide)) ?_
  refine x_goto (pc' := 15) rfl rfl ?_
  refine x_iconst (pc' := 16) rfl rfl ?_
  refine x_reti rfl rfl ?_
  refine sK_i (pc' := 2580) rfl ?_
  refine x_istore (pc' := 2582) (ls' := [_, _, _, _, _, _, _]) rfl rfl rfl rfl ?_
  refine x_aload_n (pc' := 2583) rfl rfl rfl rfl rfl ?_
  refine x_aload_n (pc' := 2584) rfl rfl rfl rfl rfl ?_
  refine x_iload (pc' := 2586) rfl rfl rfl ?_
  refine x_iconst (pc' := 2587) rfl rfl ?_
  refine x_iadd (pc' := 2588) (z := 1) rfl rfl (by decide) ?_
  refine x_iald (pc' := 2589) (N := 7) (x := (io m)) rfl rfl rfl (Eq.trans rdNL (z_N_29_0 e)) (io_in (p := 1) (N := 7) (by decide) (by decide)) (Eq.trans (congrArg (sA (sLw t 23 0 0 (0 : Int64)) 29 0) (nn_io (p := 1) (by decide))) (Eq.trans rdAL (Eq.trans (z_A_29_0_1 e) e0))) ?_
  refine x_cv (ls0 := [_, _]) (rest := []) rfl rfl rfl rfl rfl ?_
  refine x_aload_n (pc' := 1) rfl rfl rfl rfl rfl ?_
  refine x_iload_n (pc' := 2) rfl rfl rfl ?_
  refine x_cv (ls0 := [_, _]) (rest := []) rfl rfl rfl rfl rfl ?_
  refine x_aload_n (pc' := 1) rfl rfl rfl rfl rfl ?_
  refine x_iload_n (pc' := 2) rfl rfl rfl ?_
  refine x_cs (ls0 := [_]) (rest := [_]) rfl rfl rfl rfl ?_
  refine x_iload_n (pc' := 1) rfl rfl rfl ?_
  refine x_iconst (pc' := 2) rfl rfl ?_
  refine x_iconst (pc' := 3) rfl rfl ?_
  refine x_cs (ls0 := [_, _, _]) (rest := []) rfl rfl rfl rfl ?_
  refine x_iload_n (pc' := 1) rfl rfl rfl ?_
  refine x_iload_n (pc' := 2) rfl rfl rfl ?_
  refine x_icmp (a' := 14) (pc' := 5) (z := decide (m < 0)) rfl rfl rfl (ic_lt (p := m) (q := 0) (Nat.lt_trans hm (by decide)) (by decide)) (fun h => absurd (of_decide_eq_true h) (by first | decide | omega | simp)) (fun _ => ?_)
  refine x_iload_n (pc' := 6) rfl rfl rfl ?_
  refine x_iload_n (pc' := 7) rfl rfl rfl ?_
  refine x_icmp (a' := 14) (pc' := 10) (z := decide (5 < m)) rfl rfl rfl (ic_gt (p := m) (q := 5) (Nat.lt_trans hm (by decide)) (by decide)) (fun h => absurd (of_decide_eq_true h) (fun z => absurd hm (Nat.not_lt.mpr z))) (fun _ => ?_)
  refine x_iconst (pc' := 11) rfl rfl ?_
  refine x_goto (pc' := 15) rfl rfl ?_
  refine x_retz (z := true) rfl rfl ?_
  refine sK_i (pc' := 6) rfl ?_
  refine x_retz (z := true) rfl rfl ?_
  refine sK_i (pc' := 5) rfl ?_
  refine x_if (a' := 12) (pc' := 8) (z := false) rfl rfl rfl (by decide) (fun h => by cases h) (fun _ => ?_)
  refine x_iconst (pc' := 9) rfl rfl ?_
  refine x_goto (pc' := 13) rfl rfl ?_
  refine x_cv (ls0 := [_, _]) (rest := []) rfl rfl rfl rfl rfl ?_
  refine x_aload_n (pc' := 1) rfl rfl rfl rfl rfl ?_
  refine x_iload_n (pc' := 2) rfl rfl rfl ?_
  refine x_pI (pc' := 5) rfl rfl rfl ?_
  refine x_iload_n (pc' := 6) rfl rfl rfl ?_
  refine x_if (a' := 13) (pc' := 9) (z := false) rfl rfl rfl (by decide) (fun h => by cases h) (fun _ => ?_)
  refine x_iconst (pc' := 10) rfl rfl ?_
  refine x_goto (pc' := 14) rfl rfl ?_
  refine x_retz (z := true) rfl rfl ?_
  refine sK_i (pc' := 16) rfl ?_
  refine x_retz (z := true) rfl rfl ?_
  refine sK_i (pc' := 5) rfl ?_
  refine x_if (a' := 17) (pc' := 8) (z := false) rfl rfl rfl (by decide) (fun h => by cases h) (fun _ => ?_)
  refine x_aload_n (pc' := 9) rfl rfl rfl rfl rfl ?_
  refine x_gR (pc' := 12) (r := (some 5)) rfl rfl rfl (Eq.trans rdRI (Eq.trans rdRL (z_R_775_0 e))) ?_
  refine x_iload_n (pc' := 13) rfl rfl rfl ?_
  refine x_iald (pc' := 14) (N := 6) (x := 0) rfl rfl rfl (Eq.trans rdNI (Eq.trans rdNL (z_N_21_5 e))) (io_in (p := m) (N := 6) hm (by decide)) (Eq.trans (congrArg (sA (sIw (sLw t 23 0 0 (0 : Int64)) 768 0 0) 21 5) (nn_io (p := m) (Nat.lt_trans hm (by decide)))) (Eq.trans rdAI (Eq.trans rdAL (z_A_21_5_y e _)))) ?_
  refine x_goto (pc' := 18) rfl rfl ?_
  refine x_reti rfl rfl ?_
  refine sK_i (pc' := 2592) rfl ?_
  refine x_istore (pc' := 2594) (ls' := [_, _, _, _, _, _, _]) rfl rfl rfl rfl ?_
  refine x_aload_n (pc' := 2595) rfl rfl rfl rfl rfl ?_
  refine x_cv (ls0 := [_]) (rest := []) rfl rfl rfl rfl rfl ?_
  refine x_aload_n (pc' := 1) rfl rfl rfl rfl rfl ?_
  refine x_gI (pc' := 4) (x := 0) rfl rfl rfl sI_s ?_
  refine x_reti rfl rfl ?_
  refine sK_i (pc' := 2598) rfl ?_
  refine x_iload (pc' := 2600) rfl rfl rfl ?_
  refine x_icmp (a' := 2605) (pc' := 2603) (z := true) rfl rfl rfl (by decide) (fun _ => ?_) (fun h => by cases h)
  refine x_iload (pc' := 2607) rfl rfl rfl ?_
  refine x_if (a' := 2622) (pc' := 2610) (z := false) rfl rfl rfl (by decide) (fun h => by cases h) (fun _ => ?_)
  refine x_aload_n (pc' := 2611) rfl rfl rfl rfl rfl ?_
  refine x_iconst (pc' := 2612) rfl rfl ?_
  refine x_lald (pc' := 2613) (N := 1) (x := (0 : Int64)) rfl rfl (Eq.trans rdNI (Eq.trans rdNL (z_N_23_0 e))) (io_in (p := 0) (N := 1) (by decide) (by decide)) (Eq.trans (congrArg (sL (sIw (sLw t 23 0 0 (0 : Int64)) 768 0 0) 23 0) (nn_io (p := 0) (by decide))) (Eq.trans rdLI sL_s)) ?_
  refine x_iload (pc' := 2615) rfl rfl rfl ?_
  refine x_i2l (pc' := 2616) (z := (0 : Int64)) rfl rfl (by decide) ?_
  refine x_lcmp (pc' := 2617) (z := 0) rfl rfl (sLcmp_s _) ?_
  refine x_if (a' := 2622) (pc' := 2620) (z := true) rfl rfl rfl (by decide) (fun _ => ?_) (fun h => by cases h)
  refine x_goto (pc' := 2938) rfl rfl ?_
  refine x_iinc (pc' := 2941) (y := 7) (ls' := [_, _, _, _, _, _, _]) rfl rfl rfl rfl rfl ?_
  refine x_goto (pc' := 23) rfl rfl ?_
  refine x_iload (pc' := 25) rfl rfl rfl ?_
  refine x_aload_n (pc' := 26) rfl rfl rfl rfl rfl ?_
  refine x_alen (pc' := 27) (N := 7) rfl rfl rfl (Eq.trans rdNI (Eq.trans rdNL (z_N_29_0 e))) (?_ : X _ _ _ (.inl 7 :: _) _ _)
  refine x_bipush (pc' := 29) rfl rfl ?_
  refine x_isub (pc' := 30) (z := 0) rfl rfl (by decide) ?_
  refine x_icmp (a' := 2944) (pc' := 33) (z := true) rfl rfl rfl (by decide) (fun _ => ?_) (fun h => by cases h)
  refine x_iconst (pc' := 2945) rfl rfl ?_
  refine x_retz (z := true) rfl rfl ?_
  exact Qp_ok e (p := 0) (q := 0) rfl rfl rfl rfl
set_option maxHeartbeats 4000000 in
set_option maxRecDepth 10000 in
theorem v_34_A {t : sT} {xs : Nat → Int32}
    (e : t = T16 7 xs)
    (hk : ((xs 0) &&& 63) = 34)
    (e0 : (xs 1) < 0) :
    X 297 23 [.inr (.inr (29, (some 0))), .inr (.inr (11, (some 0))), .inr (.inr (12, (some 0))), .inr (.inr (23, (some 0))), .inl 0, sJk, sJk] [] t Qp := by
  refine x_iload (pc' := 25) rfl rfl rfl ?_
  refine x_aload_n (pc' := 26) rfl rfl rfl rfl rfl ?_
  refine x_alen (pc' := 27) (N := 7) rfl rfl rfl (z_N_29_0 e) (?_ : X _ _ _ (.inl 7 :: _) _ _)
  refine x_bipush (pc' := 29) rfl rfl ?_
  refine x_isub (pc' := 30) (z := 0) rfl rfl (by decide) ?_
  refine x_icmp (a' := 2944) (pc' := 33) (z := false) rfl rfl rfl (by decide) (fun h => by cases h) (fun _ => ?_)
  refine x_aload_n (pc' := 34) rfl rfl rfl rfl rfl ?_
  refine x_iload (pc' := 36) rfl rfl rfl ?_
  refine x_iald (pc' := 37) (N := 7) (x := (xs 0)) rfl rfl rfl (z_N_29_0 e) (io_in (p := 0) (N := 7) (by decide) (by decide)) (Eq.trans (congrArg (sA t 29 0) (nn_io (p := 0) (by decide))) (z_A_29_0_0 e)) ?_
  refine x_bipush (pc' := 39) rfl rfl ?_
  refine x_iand (pc' := 40) (z := ((xs 0) &&& 63)) rfl rfl rfl ?_
  refine x_switch (pc' := 2569) rfl (by rw [hk]; decide) ?_
  refine x_aload_n (pc' := 2570) rfl rfl rfl rfl rfl ?_
  refine x_aload_n (pc' := 2571) rfl rfl rfl rfl rfl ?_
  refine x_iload (pc' := 2573) rfl rfl rfl ?_
  refine x_iconst (pc' := 2574) rfl rfl ?_
  refine x_iadd (pc' := 2575) (z := 1) rfl rfl (by decide) ?_
  refine x_iald (pc' := 2576) (N := 7) (x := (xs 1)) rfl rfl rfl (z_N_29_0 e) (io_in (p := 1) (N := 7) (by decide) (by decide)) (Eq.trans (congrArg (sA t 29 0) (nn_io (p := 1) (by decide))) (z_A_29_0_1 e)) ?_
  refine x_aload_n (pc' := 2577) rfl rfl rfl rfl rfl ?_
  refine x_cs (ls0 := [_, _, _, sJk]) (rest := []) rfl rfl rfl rfl ?_
  refine x_aload_n (pc' := 1) rfl rfl rfl rfl rfl ?_
  refine x_iconst (pc' := 2) rfl rfl ?_
  refine x_aload_n (pc' := 3) rfl rfl rfl rfl rfl ?_
  refine x_iload_n (pc' := 4) rfl rfl rfl ?_
  refine x_cv (ls0 := [_, _]) (rest := [_, _]) rfl rfl rfl rfl rfl ?_
  refine x_aload_n (pc' := 1) rfl rfl rfl rfl rfl ?_
  refine x_iload_n (pc' := 2) rfl rfl rfl ?_
  refine x_cv (ls0 := [_, _]) (rest := []) rfl rfl rfl rfl rfl ?_
  refine x_iload_n (pc' := 1) rfl rfl rfl ?_
  refine x_if (a' := 16) (pc' := 4) (z := decide ((xs 1) < 0)) rfl rfl rfl rfl (fun _ => ?_) (fun h => absurd e0 (of_decide_eq_false h))
  refine x_throw rfl rfl ?_
  refine sK_n (by decide +kernel) rfl ?_
  refine sK_h (h := 12) (by decide +kernel) rfl ?_
  refine x_catch_n (pc' := 13) (ls' := [_, _, _, _]) rfl rfl rfl rfl ?_
  refine x_iconst (pc' := 14) rfl rfl ?_
  refine x_reti rfl rfl ?_
  refine sK_i (pc' := 2580) rfl ?_
  refine x_istore (pc' := 2582) (ls' := [_, _, _, _, _, _, _]) rfl rfl rfl rfl ?_
  refine x_aload_n (pc' := 2583) rfl rfl rfl rfl rfl ?_
  refine x_aload_n (pc' := 2584) rfl rfl rfl rfl rfl ?_
  refine x_iload (pc' := 2586) rfl rfl rfl ?_
  refine x_iconst (pc' := 2587) rfl rfl ?_
  refine x_iadd (pc' := 2588) (z := 1) rfl rfl (by decide) ?_
  refine x_iald (pc' := 2589) (N := 7) (x := (xs 1)) rfl rfl rfl (Eq.trans rdNthr (z_N_29_0 e)) (io_in (p := 1) (N := 7) (by decide) (by decide)) (Eq.trans (congrArg (sA (sThr t) 29 0) (nn_io (p := 1) (by decide))) (Eq.trans rdAthr (z_A_29_0_1 e))) ?_
  refine x_cv (ls0 := [_, _]) (rest := []) rfl rfl rfl rfl rfl ?_
  refine x_aload_n (pc' := 1) rfl rfl rfl rfl rfl ?_
  refine x_iload_n (pc' := 2) rfl rfl rfl ?_
  refine x_cv (ls0 := [_, _]) (rest := []) rfl rfl rfl rfl rfl ?_
  refine x_aload_n (pc' := 1) rfl rfl rfl rfl rfl ?_
  refine x_iload_n (pc' := 2) rfl rfl rfl ?_
  refine x_cs (ls0 := [_]) (rest := [_]) rfl rfl rfl rfl ?_
  refine x_iload_n (pc' := 1) rfl rfl rfl ?_
  refine x_iconst (pc' := 2) rfl rfl ?_
  refine x_iconst (pc' := 3) rfl rfl ?_
  refine x_cs (ls0 := [_, _, _]) (rest := []) rfl rfl rfl rfl ?_
  refine x_iload_n (pc' := 1) rfl rfl rfl ?_
  refine x_iload_n (pc' := 2) rfl rfl rfl ?_
  refine x_icmp (a' := 14) (pc' := 5) (z := decide ((xs 1) < 0)) rfl rfl rfl rfl (fun _ => ?_) (fun h => absurd e0 (of_decide_eq_false h))
  refine x_iconst (pc' := 15) rfl rfl ?_
  refine x_retz (z := false) rfl rfl ?_
  refine sK_i (pc' := 6) rfl ?_
  refine x_retz (z := false) rfl rfl ?_
  refine sK_i (pc' := 5) rfl ?_
  refine x_if (a' := 12) (pc' := 8) (z := true) rfl rfl rfl (by decide) (fun _ => ?_) (fun h => by cases h)
  refine x_iconst (pc' := 13) rfl rfl ?_
  refine x_cv (ls0 := [_, _]) (rest := []) rfl rfl rfl rfl rfl ?_
  refine x_aload_n (pc' := 1) rfl rfl rfl rfl rfl ?_
  refine x_iload_n (pc' := 2) rfl rfl rfl ?_
  refine x_pI (pc' := 5) rfl rfl rfl ?_
  refine x_iload_n (pc' := 6) rfl rfl rfl ?_
  refine x_if (a' := 13) (pc' := 9) (z := true) rfl rfl rfl (by decide) (fun _ => ?_) (fun h => by cases h)
  refine x_iconst (pc' := 14) rfl rfl ?_
  refine x_retz (z := false) rfl rfl ?_
  refine sK_i (pc' := 16) rfl ?_
  refine x_retz (z := false) rfl rfl ?_
  refine sK_i (pc' := 5) rfl ?_
  refine x_if (a' := 17) (pc' := 8) (z := true) rfl rfl rfl (by decide) (fun _ => ?_) (fun h => by cases h)
  refine x_iconst (pc' := 18) rfl rfl ?_
  refine x_reti rfl rfl ?_
  refine sK_i (pc' := 2592) rfl ?_
  refine x_istore (pc' := 2594) (ls' := [_, _, _, _, _, _, _]) rfl rfl rfl rfl ?_
  refine x_aload_n (pc' := 2595) rfl rfl rfl rfl rfl ?_
  refine x_cv (ls0 := [_]) (rest := []) rfl rfl rfl rfl rfl ?_
  refine x_aload_n (pc' := 1) rfl rfl rfl rfl rfl ?_
  refine x_gI (pc' := 4) (x := 1) rfl rfl rfl sI_s ?_
  refine x_reti rfl rfl ?_
  refine sK_i (pc' := 2598) rfl ?_
  refine x_iload (pc' := 2600) rfl rfl rfl ?_
  refine x_icmp (a' := 2605) (pc' := 2603) (z := true) rfl rfl rfl (by decide) (fun _ => ?_) (fun h => by cases h)
  refine x_iload (pc' := 2607) rfl rfl rfl ?_
  refine x_if (a' := 2622) (pc' := 2610) (z := true) rfl rfl rfl (by decide) (fun _ => ?_) (fun h => by cases h)
  refine x_goto (pc' := 2938) rfl rfl ?_
  refine x_iinc (pc' := 2941) (y := 7) (ls' := [_, _, _, _, _, _, _]) rfl rfl rfl rfl rfl ?_
  refine x_goto (pc' := 23) rfl rfl ?_
  refine x_iload (pc' := 25) rfl rfl rfl ?_
  refine x_aload_n (pc' := 26) rfl rfl rfl rfl rfl ?_
  refine x_alen (pc' := 27) (N := 7) rfl rfl rfl (Eq.trans rdNI (Eq.trans rdNthr (z_N_29_0 e))) (?_ : X _ _ _ (.inl 7 :: _) _ _)
  refine x_bipush (pc' := 29) rfl rfl ?_
  refine x_isub (pc' := 30) (z := 0) rfl rfl (by decide) ?_
  refine x_icmp (a' := 2944) (pc' := 33) (z := true) rfl rfl rfl (by decide) (fun _ => ?_) (fun h => by cases h)
  refine x_iconst (pc' := 2945) rfl rfl ?_
  refine x_retz (z := true) rfl rfl ?_
  exact Qp_ok e (p := 1) (q := 6) rfl rfl rfl rfl
set_option maxHeartbeats 4000000 in
set_option maxRecDepth 10000 in
theorem v_34_B {t : sT} {xs : Nat → Int32}
    (e : t = T16 7 xs)
    (hk : ((xs 0) &&& 63) = 34)
    (e0 : ¬ (xs 1) < 0)
    (f0 : ¬ (xs 1) < 6) :
    X 297 23 [.inr (.inr (29, (some 0))), .inr (.inr (11, (some 0))), .inr (.inr (12, (some 0))), .inr (.inr (23, (some 0))), .inl 0, sJk, sJk] [] t Qp := by
  refine x_iload (pc' := 25) rfl rfl rfl ?_
  refine x_aload_n (pc' := 26) rfl rfl rfl rfl rfl ?_
  refine x_alen (pc' := 27) (N := 7) rfl rfl rfl (z_N_29_0 e) (?_ : X _ _ _ (.inl 7 :: _) _ _)
  refine x_bipush (pc' := 29) rfl rfl ?_
  refine x_isub (pc' := 30) (z := 0) rfl rfl (by decide) ?_
  refine x_icmp (a' := 2944) (pc' := 33) (z := false) rfl rfl rfl (by decide) (fun h => by cases h) (fun _ => ?_)
  refine x_aload_n (pc' := 34) rfl rfl rfl rfl rfl ?_
  refine x_iload (pc' := 36) rfl rfl rfl ?_
  refine x_iald (pc' := 37) (N := 7) (x := (xs 0)) rfl rfl rfl (z_N_29_0 e) (io_in (p := 0) (N := 7) (by decide) (by decide)) (Eq.trans (congrArg (sA t 29 0) (nn_io (p := 0) (by decide))) (z_A_29_0_0 e)) ?_
  refine x_bipush (pc' := 39) rfl rfl ?_
  refine x_iand (pc' := 40) (z := ((xs 0) &&& 63)) rfl rfl rfl ?_
  refine x_switch (pc' := 2569) rfl (by rw [hk]; decide) ?_
  refine x_aload_n (pc' := 2570) rfl rfl rfl rfl rfl ?_
  refine x_aload_n (pc' := 2571) rfl rfl rfl rfl rfl ?_
  refine x_iload (pc' := 2573) rfl rfl rfl ?_
  refine x_iconst (pc' := 2574) rfl rfl ?_
  refine x_iadd (pc' := 2575) (z := 1) rfl rfl (by decide) ?_
  refine x_iald (pc' := 2576) (N := 7) (x := (xs 1)) rfl rfl rfl (z_N_29_0 e) (io_in (p := 1) (N := 7) (by decide) (by decide)) (Eq.trans (congrArg (sA t 29 0) (nn_io (p := 1) (by decide))) (z_A_29_0_1 e)) ?_
  refine x_aload_n (pc' := 2577) rfl rfl rfl rfl rfl ?_
  refine x_cs (ls0 := [_, _, _, sJk]) (rest := []) rfl rfl rfl rfl ?_
  refine x_aload_n (pc' := 1) rfl rfl rfl rfl rfl ?_
  refine x_iconst (pc' := 2) rfl rfl ?_
  refine x_aload_n (pc' := 3) rfl rfl rfl rfl rfl ?_
  refine x_iload_n (pc' := 4) rfl rfl rfl ?_
  refine x_cv (ls0 := [_, _]) (rest := [_, _]) rfl rfl rfl rfl rfl ?_
  refine x_aload_n (pc' := 1) rfl rfl rfl rfl rfl ?_
  refine x_iload_n (pc' := 2) rfl rfl rfl ?_
  refine x_cv (ls0 := [_, _]) (rest := []) rfl rfl rfl rfl rfl ?_
  refine x_iload_n (pc' := 1) rfl rfl rfl ?_
  refine x_if (a' := 16) (pc' := 4) (z := decide ((xs 1) < 0)) rfl rfl rfl rfl (fun h => absurd (of_decide_eq_true h) e0) (fun _ => ?_)
  refine x_iload_n (pc' := 5) rfl rfl rfl ?_
  refine x_aload_n (pc' := 6) rfl rfl rfl rfl rfl ?_
  refine x_gR (pc' := 9) (r := (some 0)) rfl rfl rfl (z_R_704_0 e) ?_
  refine x_gR (pc' := 12) (r := (some 0)) rfl rfl rfl (z_R_321_0 e) ?_
  refine x_alen (pc' := 13) (N := 6) rfl rfl rfl (z_N_26_0 e) (?_ : X _ _ _ (.inl 6 :: _) _ _)
  refine x_icmp (a' := 27) (pc' := 16) (z := decide ((xs 1) < 6)) rfl rfl rfl rfl (fun h => absurd (of_decide_eq_true h) f0) (fun _ => ?_)
  refine x_throw rfl rfl ?_
  refine sK_n (by decide +kernel) rfl ?_
  refine sK_h (h := 12) (by decide +kernel) rfl ?_
  refine x_catch_n (pc' := 13) (ls' := [_, _, _, _]) rfl rfl rfl rfl ?_
  refine x_iconst (pc' := 14) rfl rfl ?_
  refine x_reti rfl rfl ?_
  refine sK_i (pc' := 2580) rfl ?_
  refine x_istore (pc' := 2582) (ls' := [_, _, _, _, _, _, _]) rfl rfl rfl rfl ?_
  refine x_aload_n (pc' := 2583) rfl rfl rfl rfl rfl ?_
  refine x_aload_n (pc' := 2584) rfl rfl rfl rfl rfl ?_
  refine x_iload (pc' := 2586) rfl rfl rfl ?_
  refine x_iconst (pc' := 2587) rfl rfl ?_
  refine x_iadd (pc' := 2588) (z := 1) rfl rfl (by decide) ?_
  refine x_iald (pc' := 2589) (N := 7) (x := (xs 1)) rfl rfl rfl (Eq.trans rdNthr (z_N_29_0 e)) (io_in (p := 1) (N := 7) (by decide) (by decide)) (Eq.trans (congrArg (sA (sThr t) 29 0) (nn_io (p := 1) (by decide))) (Eq.trans rdAthr (z_A_29_0_1 e))) ?_
  refine x_cv (ls0 := [_, _]) (rest := []) rfl rfl rfl rfl rfl ?_
  refine x_aload_n (pc' := 1) rfl rfl rfl rfl rfl ?_
  refine x_iload_n (pc' := 2) rfl rfl rfl ?_
  refine x_cv (ls0 := [_, _]) (rest := []) rfl rfl rfl rfl rfl ?_
  refine x_aload_n (pc' := 1) rfl rfl rfl rfl rfl ?_
  refine x_iload_n (pc' := 2) rfl rfl rfl ?_
  refine x_cs (ls0 := [_]) (rest := [_]) rfl rfl rfl rfl ?_
  refine x_iload_n (pc' := 1) rfl rfl rfl ?_
  refine x_iconst (pc' := 2) rfl rfl ?_
  refine x_iconst (pc' := 3) rfl rfl ?_
  refine x_cs (ls0 := [_, _, _]) (rest := []) rfl rfl rfl rfl ?_
  refine x_iload_n (pc' := 1) rfl rfl rfl ?_
  refine x_iload_n (pc' := 2) rfl rfl rfl ?_
  refine x_icmp (a' := 14) (pc' := 5) (z := decide ((xs 1) < 0)) rfl rfl rfl rfl (fun h => absurd (of_decide_eq_true h) e0) (fun _ => ?_)
  refine x_iload_n (pc' := 6) rfl rfl rfl ?_
  refine x_iload_n (pc' := 7) rfl rfl rfl ?_
  refine x_icmp (a' := 14) (pc' := 10) (z := decide (5 < (xs 1))) rfl rfl rfl rfl (fun _ => ?_) (fun h => absurd (lt_of6 f0) (of_decide_eq_false h))
  refine x_iconst (pc' := 15) rfl rfl ?_
  refine x_retz (z := false) rfl rfl ?_
  refine sK_i (pc' := 6) rfl ?_
  refine x_retz (z := false) rfl rfl ?_
  refine sK_i (pc' := 5) rfl ?_
  refine x_if (a' := 12) (pc' := 8) (z := true) rfl rfl rfl (by decide) (fun _ => ?_) (fun h => by cases h)
  refine x_iconst (pc' := 13) rfl rfl ?_
  refine x_cv (ls0 := [_, _]) (rest := []) rfl rfl rfl rfl rfl ?_
  refine x_aload_n (pc' := 1) rfl rfl rfl rfl rfl ?_
  refine x_iload_n (pc' := 2) rfl rfl rfl ?_
  refine x_pI (pc' := 5) rfl rfl rfl ?_
  refine x_iload_n (pc' := 6) rfl rfl rfl ?_
  refine x_if (a' := 13) (pc' := 9) (z := true) rfl rfl rfl (by decide) (fun _ => ?_) (fun h => by cases h)
  refine x_iconst (pc' := 14) rfl rfl ?_
  refine x_retz (z := false) rfl rfl ?_
  refine sK_i (pc' := 16) rfl ?_
  refine x_retz (z := false) rfl rfl ?_
  refine sK_i (pc' := 5) rfl ?_
  refine x_if (a' := 17) (pc' := 8) (z := true) rfl rfl rfl (by decide) (fun _ => ?_) (fun h => by cases h)
  refine x_iconst (pc' := 18) rfl rfl ?_
  refine x_reti rfl rfl ?_
  refine sK_i (pc' := 2592) rfl ?_
  refine x_istore (pc' := 2594) (ls' := [_, _, _, _, _, _, _]) rfl rfl rfl rfl ?_
  refine x_aload_n (pc' := 2595) rfl rfl rfl rfl rfl ?_
  refine x_cv (ls0 := [_]) (rest := []) rfl rfl rfl rfl rfl ?_
  refine x_aload_n (pc' := 1) rfl rfl rfl rfl rfl ?_
  refine x_gI (pc' := 4) (x := 1) rfl rfl rfl sI_s ?_
  refine x_reti rfl rfl ?_
  refine sK_i (pc' := 2598) rfl ?_
  refine x_iload (pc' := 2600) rfl rfl rfl ?_
  refine x_icmp (a' := 2605) (pc' := 2603) (z := true) rfl rfl rfl (by decide) (fun _ => ?_) (fun h => by cases h)
  refine x_iload (pc' := 2607) rfl rfl rfl ?_
  refine x_if (a' := 2622) (pc' := 2610) (z := true) rfl rfl rfl (by decide) (fun _ => ?_) (fun h => by cases h)
  refine x_goto (pc' := 2938) rfl rfl ?_
  refine x_iinc (pc' := 2941) (y := 7) (ls' := [_, _, _, _, _, _, _]) rfl rfl rfl rfl rfl ?_
  refine x_goto (pc' := 23) rfl rfl ?_
  refine x_iload (pc' := 25) rfl rfl rfl ?_
  refine x_aload_n (pc' := 26) rfl rfl rfl rfl rfl ?_
  refine x_alen (pc' := 27) (N := 7) rfl rfl rfl (Eq.trans rdNI (Eq.trans rdNthr (z_N_29_0 e))) (?_ : X _ _ _ (.inl 7 :: _) _ _)
  refine x_bipush (pc' := 29) rfl rfl ?_
  refine x_isub (pc' := 30) (z := 0) rfl rfl (by decide) ?_
  refine x_icmp (a' := 2944) (pc' := 33) (z := true) rfl rfl rfl (by decide) (fun _ => ?_) (fun h => by cases h)
  refine x_iconst (pc' := 2945) rfl rfl ?_
  refine x_retz (z := true) rfl rfl ?_
  exact Qp_ok e (p := 1) (q := 6) rfl rfl rfl rfl
set_option maxHeartbeats 4000000 in
set_option maxRecDepth 10000 in
theorem v_35_v {t : sT} {xs : Nat → Int32} {m : Nat}
    (e : t = T16 7 xs)
    (hk : ((xs 0) &&& 63) = 35)
    (hm : m < 6)
    (e0 : xs 1 = io m) :
    X 297 23 [.inr (.inr (29, (some 0))), .inr (.inr (11, (some 0))), .inr (.inr (12, (some 0))), .inr (.inr (23, (some 0))), .inl 0, sJk, sJk] [] t Qp := by
  refine x_iload (pc' := 25) rfl rfl rfl ?_
  refine x_aload_n (pc' := 26) rfl rfl rfl rfl rfl ?_
  refine x_alen (pc' := 27) (N := 7) rfl rfl rfl (z_N_29_0 e) (?_ : X _ _ _ (.inl 7 :: _) _ _)
  refine x_bipush (pc' := 29) rfl rfl ?_
  refine x_isub (pc' := 30) (z := 0) rfl rfl (by decide) ?_
  refine x_icmp (a' := 2944) (pc' := 33) (z := false) rfl rfl rfl (by decide) (fun h => by cases h) (fun _ => ?_)
  refine x_aload_n (pc' := 34) rfl rfl rfl rfl rfl ?_
  refine x_iload (pc' := 36) rfl rfl rfl ?_
  refine x_iald (pc' := 37) (N := 7) (x := (xs 0)) rfl rfl rfl (z_N_29_0 e) (io_in (p := 0) (N := 7) (by decide) (by decide)) (Eq.trans (congrArg (sA t 29 0) (nn_io (p := 0) (by decide))) (z_A_29_0_0 e)) ?_
  refine x_bipush (pc' := 39) rfl rfl ?_
  refine x_iand (pc' := 40) (z := ((xs 0) &&& 63)) rfl rfl rfl ?_
  refine x_switch (pc' := 2625) rfl (by rw [hk]; decide) ?_
  refine x_aload_n (pc' := 2626) rfl rfl rfl rfl rfl ?_
  refine x_aload_n (pc' := 2627) rfl rfl rfl rfl rfl ?_
  refine x_iload (pc' := 2629) rfl rfl rfl ?_
  refine x_iconst (pc' := 2630) rfl rfl ?_
  refine x_iadd (pc' := 2631) (z := 1) rfl rfl (by decide) ?_
  refine x_iald (pc' := 2632) (N := 7) (x := (io m)) rfl rfl rfl (z_N_29_0 e) (io_in (p := 1) (N := 7) (by decide) (by decide)) (Eq.trans (congrArg (sA t 29 0) (nn_io (p := 1) (by decide))) (Eq.trans (z_A_29_0_1 e) e0)) ?_
  refine x_aload_n (pc' := 2633) rfl rfl rfl rfl rfl ?_
  refine x_cs (ls0 := [_, _, _, sJk]) (rest := []) rfl rfl rfl rfl ?_
  refine x_aload_n (pc' := 1) rfl rfl rfl rfl rfl ?_
  refine x_iconst (pc' := 2) rfl rfl ?_
  refine x_aload_n (pc' := 3) rfl rfl rfl rfl rfl ?_
  refine x_iload_n (pc' := 4) rfl rfl rfl ?_
  refine x_cv (ls0 := [_, _]) (rest := [_, _]) rfl rfl rfl rfl rfl ?_
  refine x_aload_n (pc' := 1) rfl rfl rfl rfl rfl ?_
  refine x_gR (pc' := 4) (r := (some 0)) rfl rfl rfl (z_R_704_0 e) ?_
  refine x_aload_n (pc' := 5) rfl rfl rfl rfl rfl ?_
  refine x_iload_n (pc' := 6) rfl rfl rfl ?_
  refine x_cv (ls0 := [_, _]) (rest := [_]) rfl rfl rfl rfl rfl ?_
  refine x_iload_n (pc' := 1) rfl rfl rfl ?_
  refine x_if (a' := 16) (pc' := 4) (z := decide (m < 0)) rfl rfl rfl (ic_lt (p := m) (q := 0) (Nat.lt_trans hm (by decide)) (by decide)) (fun h => absurd (of_decide_eq_true h) (by first | decide | omega | simp)) (fun _ => ?_)
  refine x_iload_n (pc' := 5) rfl rfl rfl ?_
  refine x_aload_n (pc' := 6) rfl rfl rfl rfl rfl ?_
  refine x_gR (pc' := 9) (r := (some 0)) rfl rfl rfl (z_R_704_0 e) ?_
  refine x_gR (pc' := 12) (r := (some 0)) rfl rfl rfl (z_R_321_0 e) ?_
  refine x_alen (pc' := 13) (N := 6) rfl rfl rfl (z_N_26_0 e) (?_ : X _ _ _ (.inl 6 :: _) _ _)
  refine x_icmp (a' := 27) (pc' := 16) (z := decide (m < 6)) rfl rfl rfl (ic_lt (p := m) (q := 6) (Nat.lt_trans hm (by decide)) (by decide)) (fun _ => ?_) (fun h => absurd (Nat.lt_of_lt_of_le hm (by decide)) (of_decide_eq_false h))
  refine x_aload_n (pc' := 28) rfl rfl rfl rfl rfl ?_
  refine x_gR (pc' := 31) (r := (some 0)) rfl rfl rfl (z_R_704_0 e) ?_
  refine x_gR (pc' := 34) (r := (some 0)) rfl rfl rfl (z_R_321_0 e) ?_
  refine x_iload_n (pc' := 35) rfl rfl rfl ?_
  refine x_aald (pc' := 36) (N := 6) (k' := 7) (r := (some m)) rfl rfl rfl (z_N_26_0 e) (io_in (p := m) (N := 6) hm (by decide)) (Eq.trans (congrArg (sE t 26 0) (nn_io (p := m) (Nat.lt_trans hm (by decide)))) (kM (Cn_e e) hm)) ?_
  refine x_reta rfl rfl ?_
  refine sK_i (pc' := 9) rfl ?_
  refine x_cv (ls0 := [_, _, sJk, sJk, sJk, sJk, sJk]) (rest := []) rfl rfl rfl rfl rfl ?_
  refine x_aload_n (pc' := 1) rfl rfl rfl rfl rfl ?_
  refine x_gI (pc' := 4) (x := 0) rfl rfl rfl (z_I_450_y e _) ?_
  refine x_aload_n (pc' := 5) rfl rfl rfl rfl rfl ?_
  refine x_gI (pc' := 8) (x := 0) rfl rfl rfl (z_I_451_y e _) ?_
  refine x_iadd (pc' := 9) (z := 0) rfl rfl (by decide) ?_
  refine x_istore_n (pc' := 10) (ls' := [_, _, _, _, _, _, _]) rfl rfl rfl rfl ?_
  refine x_aload_n (pc' := 11) rfl rfl rfl rfl rfl ?_
  refine x_gR (pc' := 14) (r := (some 0)) rfl rfl rfl (z_R_320_0 e) ?_
  refine x_astore_n (pc' := 15) (ls' := [_, _, _, _, _, _, _]) rfl rfl rfl rfl rfl ?_
  refine x_aload_n (pc' := 16) rfl rfl rfl rfl rfl ?_
  refine x_alen (pc' := 17) (N := 3) rfl rfl rfl (z_N_25_0 e) (?_ : X _ _ _ (.inl 3 :: _) _ _)
  refine x_istore (pc' := 19) (ls' := [_, _, _, _, _, _, _]) rfl rfl rfl rfl ?_
  refine x_iconst (pc' := 20) rfl rfl ?_
  refine x_istore (pc' := 22) (ls' := [_, _, _, _, _, _, _]) rfl rfl rfl rfl ?_
  refine x_iload (pc' := 24) rfl rfl rfl ?_
  refine x_iload (pc' := 26) rfl rfl rfl ?_
  refine x_icmp (a' := 56) (pc' := 29) (z := false) rfl rfl rfl (by decide) (fun h => by cases h) (fun _ => ?_)
  refine x_aload_n (pc' := 30) rfl rfl rfl rfl rfl ?_
  refine x_iload (pc' := 32) rfl rfl rfl ?_
  refine x_aald (pc' := 33) (N := 3) (k' := 2) (r := (some 0)) rfl rfl rfl (z_N_25_0 e) (io_in (p := 0) (N := 3) (by decide) (by decide)) (Eq.trans (congrArg (sE t 25 0) (nn_io (p := 0) (by decide))) (z_E_25_0_0 e)) ?_
  refine x_astore (pc' := 35) (ls' := [_, _, _, _, _, _, _]) rfl rfl rfl rfl rfl ?_
  refine x_iload_n (pc' := 36) rfl rfl rfl ?_
  refine x_aload_n (pc' := 37) rfl rfl rfl rfl rfl ?_
  refine x_aload (pc' := 39) rfl rfl rfl rfl rfl ?_
  refine x_cv (ls0 := [_, _, sJk]) (rest := [_]) rfl rfl rfl rfl rfl ?_
  refine x_aload_n (pc' := 1) rfl rfl rfl rfl rfl ?_
  refine x_gI (pc' := 4) (x := 0) rfl rfl rfl (z_I_128_0 e) ?_
  refine x_istore_n (pc' := 5) (ls' := [_, _, _]) rfl rfl rfl rfl ?_
  refine x_iload_n (pc' := 6) rfl rfl rfl ?_
  refine x_if (a' := 27) (pc' := 9) (z := false) rfl rfl rfl (by decide) (fun h => by cases h) (fun _ => ?_)
  refine x_iload_n (pc' := 10) rfl rfl rfl ?_
  refine x_aload_n (pc' := 11) rfl rfl rfl rfl rfl ?_
  refine x_gR (pc' := 14) (r := (some (m + 1))) rfl rfl rfl (kMp (Cn_e e) hm).1 ?_
  refine x_alen (pc' := 15) (N := 3) rfl rfl rfl (kMp (Cn_e e) hm).2.1 (?_ : X _ _ _ (.inl 3 :: _) _ _)
  refine x_icmp (a' := 27) (pc' := 18) (z := false) rfl rfl rfl (by decide) (fun h => by cases h) (fun _ => ?_)
  refine x_aload_n (pc' := 19) rfl rfl rfl rfl rfl ?_
  refine x_gR (pc' := 22) (r := (some (m + 1))) rfl rfl rfl (kMp (Cn_e e) hm).1 ?_
  refine x_iload_n (pc' := 23) rfl rfl rfl ?_
  refine x_iald (pc' := 24) (N := 3) (x := 0) rfl rfl rfl (kMp (Cn_e e) hm).2.1 (io_in (p := 0) (N := 3) (by decide) (by decide)) (Eq.trans (congrArg (sA t 20 (m + 1)) (nn_io (p := 0) (by decide))) (z_A_20_yy e _ _)) ?_
  refine x_goto (pc' := 28) rfl rfl ?_
  refine x_reti rfl rfl ?_
  refine sK_i (pc' := 42) rfl ?_
  refine x_aload (pc' := 44) rfl rfl rfl rfl rfl ?_
  refine x_gI (pc' := 47) (x := 100) rfl rfl rfl (z_I_129_0 e) ?_
  refine x_imul (pc' := 48) (z := 0) rfl rfl (by decide) ?_
  refine x_iadd (pc' := 49) (z := 0) rfl rfl (by decide) ?_
  refine x_istore_n (pc' := 50) (ls' := [_, _, _, _, _, _, _]) rfl rfl rfl rfl ?_
  refine x_iinc (pc' := 53) (y := 1) (ls' := [_, _, _, _, _, _, _]) rfl rfl rfl rfl rfl ?_
  refine x_goto (pc' := 22) rfl rfl ?_
  refine x_iload (pc' := 24) rfl rfl rfl ?_
  refine x_iload (pc' := 26) rfl rfl rfl ?_
  refine x_icmp (a' := 56) (pc' := 29) (z := false) rfl rfl rfl (by decide) (fun h => by cases h) (fun _ => ?_)
  refine x_aload_n (pc' := 30) rfl rfl rfl rfl rfl ?_
  refine x_iload (pc' := 32) rfl rfl rfl ?_
  refine x_aald (pc' := 33) (N := 3) (k' := 2) (r := (some 1)) rfl rfl rfl (z_N_25_0 e) (io_in (p := 1) (N := 3) (by decide) (by decide)) (Eq.trans (congrArg (sE t 25 0) (nn_io (p := 1) (by decide))) (z_E_25_0_1 e)) ?_
  refine x_astore (pc' := 35) (ls' := [_, _, _, _, _, _, _]) rfl rfl rfl rfl rfl ?_
  refine x_iload_n (pc' := 36) rfl rfl rfl ?_
  refine x_aload_n (pc' := 37) rfl rfl rfl rfl rfl ?_
  refine x_aload (pc' := 39) rfl rfl rfl rfl rfl ?_
  refine x_cv (ls0 := [_, _, sJk]) (rest := [_]) rfl rfl rfl rfl rfl ?_
  refine x_aload_n (pc' := 1) rfl rfl rfl rfl rfl ?_
  refine x_gI (pc' := 4) (x := 1) rfl rfl rfl (z_I_128_1 e) ?_
  refine x_istore_n (pc' := 5) (ls' := [_, _, _]) rfl rfl rfl rfl ?_
  refine x_iload_n (pc' := 6) rfl rfl rfl ?_
  refine x_if (a' := 27) (pc' := 9) (z := false) rfl rfl rfl (by decide) (fun h => by cases h) (fun _ => ?_)
  refine x_iload_n (pc' := 10) rfl rfl rfl ?_
  refine x_aload_n (pc' := 11) rfl rfl rfl rfl rfl ?_
  refine x_gR (pc' := 14) (r := (some (m + 1))) rfl rfl rfl (kMp (Cn_e e) hm).1 ?_
  refine x_alen (pc' := 15) (N := 3) rfl rfl rfl (kMp (Cn_e e) hm).2.1 (?_ : X _ _ _ (.inl 3 :: _) _ _)
  refine x_icmp (a' := 27) (pc' := 18) (z := false) rfl rfl rfl (by decide) (fun h => by cases h) (fun _ => ?_)
  refine x_aload_n (pc' := 19) rfl rfl rfl rfl rfl ?_
  refine x_gR (pc' := 22) (r := (some (m + 1))) rfl rfl rfl (kMp (Cn_e e) hm).1 ?_
  refine x_iload_n (pc' := 23) rfl rfl rfl ?_
  refine x_iald (pc' := 24) (N := 3) (x := 0) rfl rfl rfl (kMp (Cn_e e) hm).2.1 (io_in (p := 1) (N := 3) (by decide) (by decide)) (Eq.trans (congrArg (sA t 20 (m + 1)) (nn_io (p := 1) (by decide))) (z_A_20_yy e _ _)) ?_
  refine x_goto (pc' := 28) rfl rfl ?_
  refine x_reti rfl rfl ?_
  refine sK_i (pc' := 42) rfl ?_
  refine x_aload (pc' := 44) rfl rfl rfl rfl rfl ?_
  refine x_gI (pc' := 47) (x := 100) rfl rfl rfl (z_I_129_1 e) ?_
  refine x_imul (pc' := 48) (z := 0) rfl rfl (by decide) ?_
  refine x_iadd (pc' := 49) (z := 0) rfl rfl (by decide) ?_
  refine x_istore_n (pc' := 50) (ls' := [_, _, _, _, _, _, _]) rfl rfl rfl rfl ?_
  refine x_iinc (pc' := 53) (y := 2) (ls' := [_, _, _, _, _, _, _]) rfl rfl rfl rfl rfl ?_
  refine x_goto (pc' := 22) rfl rfl ?_
  refine x_iload (pc' := 24) rfl rfl rfl ?_
  refine x_iload (pc' := 26) rfl rfl rfl ?_
  refine x_icmp (a' := 56) (pc' := 29) (z := false) rfl rfl rfl (by decide) (fun h => by cases h) (fun _ => ?_)
  refine x_aload_n (pc' := 30) rfl rfl rfl rfl rfl ?_
  refine x_iload (pc' := 32) rfl rfl rfl ?_
  refine x_aald (pc' := 33) (N := 3) (k' := 2) (r := (some 2)) rfl rfl rfl (z_N_25_0 e) (io_in (p := 2) (N := 3) (by decide) (by decide)) (Eq.trans (congrArg (sE t 25 0) (nn_io (p := 2) (by decide))) (z_E_25_0_2 e)) ?_
  refine x_astore (pc' := 35) (ls' := [_, _, _, _, _, _, _]) rfl rfl rfl rfl rfl ?_
  refine x_iload_n (pc' := 36) rfl rfl rfl ?_
  refine x_aload_n (pc' := 37) rfl rfl rfl rfl rfl ?_
  refine x_aload (pc' := 39) rfl rfl rfl rfl rfl ?_
  refine x_cv (ls0 := [_, _, sJk]) (rest := [_]) rfl rfl rfl rfl rfl ?_
  refine x_aload_n (pc' := 1) rfl rfl rfl rfl rfl ?_
  refine x_gI (pc' := 4) (x := 2) rfl rfl rfl (z_I_128_2 e) ?_
  refine x_istore_n (pc' := 5) (ls' := [_, _, _]) rfl rfl rfl rfl ?_
  refine x_iload_n (pc' := 6) rfl rfl rfl ?_
  refine x_if (a' := 27) (pc' := 9) (z := false) rfl rfl rfl (by decide) (fun h => by cases h) (fun _ => ?_)
  refine x_iload_n (pc' := 10) rfl rfl rfl ?_
  refine x_aload_n (pc' := 11) rfl rfl rfl rfl rfl ?_
  refine x_gR (pc' := 14) (r := (some (m + 1))) rfl rfl rfl (kMp (Cn_e e) hm).1 ?_
  refine x_alen (pc' := 15) (N := 3) rfl rfl rfl (kMp (Cn_e e) hm).2.1 (?_ : X _ _ _ (.inl 3 :: _) _ _)
  refine x_icmp (a' := 27) (pc' := 18) (z := false) rfl rfl rfl (by decide) (fun h => by cases h) (fun _ => ?_)
  refine x_aload_n (pc' := 19) rfl rfl rfl rfl rfl ?_
  refine x_gR (pc' := 22) (r := (some (m + 1))) rfl rfl rfl (kMp (Cn_e e) hm).1 ?_
  refine x_iload_n (pc' := 23) rfl rfl rfl ?_
  refine x_iald (pc' := 24) (N := 3) (x := 0) rfl rfl rfl (kMp (Cn_e e) hm).2.1 (io_in (p := 2) (N := 3) (by decide) (by decide)) (Eq.trans (congrArg (sA t 20 (m + 1)) (nn_io (p := 2) (by decide))) (z_A_20_yy e _ _)) ?_
  refine x_goto (pc' := 28) rfl rfl ?_
  refine x_reti rfl rfl ?_
  refine sK_i (pc' := 42) rfl ?_
  refine x_aload (pc' := 44) rfl rfl rfl rfl rfl ?_
  refine x_gI (pc' := 47) (x := 100) rfl rfl rfl (z_I_129_2 e) ?_
  refine x_imul (pc' := 48) (z := 0) rfl rfl (by decide) ?_
  refine x_iadd (pc' := 49) (z := 0) rfl rfl (by decide) ?_
  refine x_istore_n (pc' := 50) (ls' := [_, _, _, _, _, _, _]) rfl rfl rfl rfl ?_
  refine x_iinc (pc' := 53) (y := 3) (ls' := [_, _, _, _, _, _, _]) rfl rfl rfl rfl rfl ?_
  refine x_goto (pc' := 22) rfl rfl ?_
  refine x_iload (pc' := 24) rfl rfl rfl ?_
  refine x_iload (pc' := 26) rfl rfl rfl ?_
  refine x_icmp (a' := 56) (pc' := 29) (z := true) rfl rfl rfl (by decide) (fun _ => ?_) (fun h => by cases h)
  refine x_iload_n (pc' := 57) rfl rfl rfl ?_
  refine x_reti rfl rfl ?_
  refine sK_i (pc' := 12) rfl ?_
  refine x_reti rfl rfl ?_
  refine sK_i (pc' := 7) rfl ?_
  refine x_i2l (pc' := 8) (z := (0 : Int64)) rfl rfl (by decide) ?_
  refine x_last (pc' := 9) (N := 1) (p := 0) rfl rfl (z_N_23_0 e) (io_in (p := 0) (N := 1) (by decide) (by decide)) (nn_io (p := 0) (by decide)) ?_
  refine x_goto (pc' := 15) rfl rfl ?_
  refine x_iconst (pc' := 16) rfl rfl ?_
  refine x_reti rfl rfl ?_
  refine sK_i (pc' := 2636) rfl ?_
  refine x_istore (pc' := 2638) (ls' := [_, _, _, _, _, _, _]) rfl rfl rfl rfl ?_
  refine x_aload_n (pc' := 2639) rfl rfl rfl rfl rfl ?_
  refine x_aload_n (pc' := 2640) rfl rfl rfl rfl rfl ?_
  refine x_iload (pc' := 2642) rfl rfl rfl ?_
  refine x_iconst (pc' := 2643) rfl rfl ?_
  refine x_iadd (pc' := 2644) (z := 1) rfl rfl (by decide) ?_
  refine x_iald (pc' := 2645) (N := 7) (x := (io m)) rfl rfl rfl (Eq.trans rdNL (z_N_29_0 e)) (io_in (p := 1) (N := 7) (by decide) (by decide)) (Eq.trans (congrArg (sA (sLw t 23 0 0 (0 : Int64)) 29 0) (nn_io (p := 1) (by decide))) (Eq.trans rdAL (Eq.trans (z_A_29_0_1 e) e0))) ?_
  refine x_cv (ls0 := [_, _]) (rest := []) rfl rfl rfl rfl rfl ?_
  refine x_aload_n (pc' := 1) rfl rfl rfl rfl rfl ?_
  refine x_iload_n (pc' := 2) rfl rfl rfl ?_
  refine x_cv (ls0 := [_, _]) (rest := []) rfl rfl rfl rfl rfl ?_
  refine x_aload_n (pc' := 1) rfl rfl rfl rfl rfl ?_
  refine x_iload_n (pc' := 2) rfl rfl rfl ?_
  refine x_cs (ls0 := [_]) (rest := [_]) rfl rfl rfl rfl ?_
  refine x_iload_n (pc' := 1) rfl rfl rfl ?_
  refine x_iconst (pc' := 2) rfl rfl ?_
  refine x_iconst (pc' := 3) rfl rfl ?_
  refine x_cs (ls0 := [_, _, _]) (rest := []) rfl rfl rfl rfl ?_
  refine x_iload_n (pc' := 1) rfl rfl rfl ?_
  refine x_iload_n (pc' := 2) rfl rfl rfl ?_
  refine x_icmp (a' := 14) (pc' := 5) (z := decide (m < 0)) rfl rfl rfl (ic_lt (p := m) (q := 0) (Nat.lt_trans hm (by decide)) (by decide)) (fun h => absurd (of_decide_eq_true h) (by first | decide | omega | simp)) (fun _ => ?_)
  refine x_iload_n (pc' := 6) rfl rfl rfl ?_
  refine x_iload_n (pc' := 7) rfl rfl rfl ?_
  refine x_icmp (a' := 14) (pc' := 10) (z := decide (5 < m)) rfl rfl rfl (ic_gt (p := m) (q := 5) (Nat.lt_trans hm (by decide)) (by decide)) (fun h => absurd (of_decide_eq_true h) (fun z => absurd hm (Nat.not_lt.mpr z))) (fun _ => ?_)
  refine x_iconst (pc' := 11) rfl rfl ?_
  refine x_goto (pc' := 15) rfl rfl ?_
  refine x_retz (z := true) rfl rfl ?_
  refine sK_i (pc' := 6) rfl ?_
  refine x_retz (z := true) rfl rfl ?_
  refine sK_i (pc' := 5) rfl ?_
  refine x_if (a' := 12) (pc' := 8) (z := false) rfl rfl rfl (by decide) (fun h => by cases h) (fun _ => ?_)
  refine x_iconst (pc' := 9) rfl rfl ?_
  refine x_goto (pc' := 13) rfl rfl ?_
  refine x_cv (ls0 := [_, _]) (rest := []) rfl rfl rfl rfl rfl ?_
  refine x_aload_n (pc' := 1) rfl rfl rfl rfl rfl ?_
  refine x_iload_n (pc' := 2) rfl rfl rfl ?_
  refine x_pI (pc' := 5) rfl rfl rfl ?_
  refine x_iload_n (pc' := 6) rfl rfl rfl ?_
  refine x_if (a' := 13) (pc' := 9) (z := false) rfl rfl rfl (by decide) (fun h => by cases h) (fun _ => ?_)
  refine x_iconst (pc' := 10) rfl rfl ?_
  refine x_goto (pc' := 14) rfl rfl ?_
  refine x_retz (z := true) rfl rfl ?_
  refine sK_i (pc' := 16) rfl ?_
  refine x_retz (z := true) rfl rfl ?_
  refine sK_i (pc' := 5) rfl ?_
  refine x_if (a' := 16) (pc' := 8) (z := false) rfl rfl rfl (by decide) (fun h => by cases h) (fun _ => ?_)
  refine x_aload_n (pc' := 9) rfl rfl rfl rfl rfl ?_
  refine x_iload_n (pc' := 10) rfl rfl rfl ?_
  refine x_cv (ls0 := [_, _, sJk, sJk]) (rest := []) rfl rfl rfl rfl rfl ?_
  refine x_aload_n (pc' := 1) rfl rfl rfl rfl rfl ?_
  refine x_gR (pc' := 4) (r := (some 4)) rfl rfl rfl (Eq.trans rdRI (Eq.trans rdRL (z_R_774_0 e))) ?_
  refine x_iload_n (pc' := 5) rfl rfl rfl ?_
  refine x_iald (pc' := 6) (N := 6) (x := 0) rfl rfl rfl (Eq.trans rdNI (Eq.trans rdNL (z_N_21_4 e))) (io_in (p := m) (N := 6) hm (by decide)) (Eq.trans (congrArg (sA (sIw (sLw t 23 0 0 (0 : Int64)) 768 0 0) 21 4) (nn_io (p := m) (Nat.lt_trans hm (by decide)))) (Eq.trans rdAI (Eq.trans rdAL (z_A_21_4_y e _)))) ?_
  refine x_aload_n (pc' := 7) rfl rfl rfl rfl rfl ?_
  refine x_gR (pc' := 10) (r := (some 5)) rfl rfl rfl (Eq.trans rdRI (Eq.trans rdRL (z_R_775_0 e))) ?_
  refine x_iload_n (pc' := 11) rfl rfl rfl ?_
  refine x_iald (pc' := 12) (N := 6) (x := 0) rfl rfl rfl (Eq.trans rdNI (Eq.trans rdNL (z_N_21_5 e))) (io_in (p := m) (N := 6) hm (by decide)) (Eq.trans (congrArg (sA (sIw (sLw t 23 0 0 (0 : Int64)) 768 0 0) 21 5) (nn_io (p := m) (Nat.lt_trans hm (by decide)))) (Eq.trans rdAI (Eq.trans rdAL (z_A_21_5_y e _)))) ?_
  refine x_iadd (pc' := 13) (z := 0) rfl rfl (by decide) ?_
  refine x_istore_n (pc' := 14) (ls' := [_, _, _, _]) rfl rfl rfl rfl ?_
  refine x_iconst (pc' := 15) rfl rfl ?_
  refine x_istore_n (pc' := 16) (ls' := [_, _, _, _]) rfl rfl rfl rfl ?_
  refine x_iload_n (pc' := 17) rfl rfl rfl ?_
  refine x_iconst (pc' := 18) rfl rfl ?_
  refine x_icmp (a' := 47) (pc' := 21) (z := false) rfl rfl rfl (by decide) (fun h => by cases h) (fun _ => ?_)
  refine x_iload_n (pc' := 22) rfl rfl rfl ?_
  refine x_aload_n (pc' := 23) rfl rfl rfl rfl rfl ?_
  refine x_gR (pc' := 26) (r := (some 6)) rfl rfl rfl (Eq.trans rdRI (Eq.trans rdRL (z_R_776_0 e))) ?_
  refine x_iconst (pc' := 27) rfl rfl ?_
  refine x_iload_n (pc' := 28) rfl rfl rfl ?_
  refine x_imul (pc' := 29) (z := (io (3 * m))) rfl rfl (io_mul 3 m) ?_
  refine x_iload_n (pc' := 30) rfl rfl rfl ?_
  refine x_iadd (pc' := 31) (z := (io ((3 * m) + 0))) rfl rfl (io_add (3 * m) 0) ?_
  refine x_iald (pc' := 32) (N := 18) (x := 0) rfl rfl rfl (Eq.trans rdNI (Eq.trans rdNL (z_N_21_6 e))) (io_in (p := ((3 * m) + 0)) (N := 18) (show ((3 * m) + 0) < 18 by omega) (by decide)) (Eq.trans (congrArg (sA (sIw (sLw t 23 0 0 (0 : Int64)) 768 0 0) 21 6) (nn_io (p := ((3 * m) + 0)) (Nat.lt_trans (show ((3 * m) + 0) < 18 by omega) (by decide)))) (Eq.trans rdAI (Eq.trans rdAL (z_A_21_6_y e _)))) ?_
  refine x_aload_n (pc' := 33) rfl rfl rfl rfl rfl ?_
  refine x_gR (pc' := 36) (r := (some 1)) rfl rfl rfl (Eq.trans rdRI (Eq.trans rdRL (z_R_771_0 e))) ?_
  refine x_iload_n (pc' := 37) rfl rfl rfl ?_
  refine x_iald (pc' := 38) (N := 3) (x := 100) rfl rfl rfl (Eq.trans rdNI (Eq.trans rdNL (z_N_21_1 e))) (io_in (p := 0) (N := 3) (by decide) (by decide)) (Eq.trans (congrArg (sA (sIw (sLw t 23 0 0 (0 : Int64)) 768 0 0) 21 1) (nn_io (p := 0) (by decide))) (Eq.trans rdAI (Eq.trans rdAL (z_A_21_1_0 e)))) ?_
  refine x_imul (pc' := 39) (z := 0) rfl rfl (by decide) ?_
  refine x_iadd (pc' := 40) (z := 0) rfl rfl (by decide) ?_
  refine x_istore_n (pc' := 41) (ls' := [_, _, _, _]) rfl rfl rfl rfl ?_
  refine x_iinc (pc' := 44) (y := 1) (ls' := [_, _, _, _]) rfl rfl rfl rfl rfl ?_
  refine x_goto (pc' := 16) rfl rfl ?_
  refine x_iload_n (pc' := 17) rfl rfl rfl ?_
  refine x_iconst (pc' := 18) rfl rfl ?_
  refine x_icmp (a' := 47) (pc' := 21) (z := false) rfl rfl rfl (by decide) (fun h => by cases h) (fun _ => ?_)
  refine x_iload_n (pc' := 22) rfl rfl rfl ?_
  refine x_aload_n (pc' := 23) rfl rfl rfl rfl rfl ?_
  refine x_gR (pc' := 26) (r := (some 6)) rfl rfl rfl (Eq.trans rdRI (Eq.trans rdRL (z_R_776_0 e))) ?_
  refine x_iconst (pc' := 27) rfl rfl ?_
  refine x_iload_n (pc' := 28) rfl rfl rfl ?_
  refine x_imul (pc' := 29) (z := (io (3 * m))) rfl rfl (io_mul 3 m) ?_
  refine x_iload_n (pc' := 30) rfl rfl rfl ?_
  refine x_iadd (pc' := 31) (z := (io ((3 * m) + 1))) rfl rfl (io_add (3 * m) 1) ?_
  refine x_iald (pc' := 32) (N := 18) (x := 0) rfl rfl rfl (Eq.trans rdNI (Eq.trans rdNL (z_N_21_6 e))) (io_in (p := ((3 * m) + 1)) (N := 18) (show ((3 * m) + 1) < 18 by omega) (by decide)) (Eq.trans (congrArg (sA (sIw (sLw t 23 0 0 (0 : Int64)) 768 0 0) 21 6) (nn_io (p := ((3 * m) + 1)) (Nat.lt_trans (show ((3 * m) + 1) < 18 by omega) (by decide)))) (Eq.trans rdAI (Eq.trans rdAL (z_A_21_6_y e _)))) ?_
  refine x_aload_n (pc' := 33) rfl rfl rfl rfl rfl ?_
  refine x_gR (pc' := 36) (r := (some 1)) rfl rfl rfl (Eq.trans rdRI (Eq.trans rdRL (z_R_771_0 e))) ?_
  refine x_iload_n (pc' := 37) rfl rfl rfl ?_
  refine x_iald (pc' := 38) (N := 3) (x := 100) rfl rfl rfl (Eq.trans rdNI (Eq.trans rdNL (z_N_21_1 e))) (io_in (p := 1) (N := 3) (by decide) (by decide)) (Eq.trans (congrArg (sA (sIw (sLw t 23 0 0 (0 : Int64)) 768 0 0) 21 1) (nn_io (p := 1) (by decide))) (Eq.trans rdAI (Eq.trans rdAL (z_A_21_1_1 e)))) ?_
  refine x_imul (pc' := 39) (z := 0) rfl rfl (by decide) ?_
  refine x_iadd (pc' := 40) (z := 0) rfl rfl (by decide) ?_
  refine x_istore_n (pc' := 41) (ls' := [_, _, _, _]) rfl rfl rfl rfl ?_
  refine x_iinc (pc' := 44) (y := 2) (ls' := [_, _, _, _]) rfl rfl rfl rfl rfl ?_
  refine x_goto (pc' := 16) rfl rfl ?_
  refine x_iload_n (pc' := 17) rfl rfl rfl ?_
  refine x_iconst (pc' := 18) rfl rfl ?_
  refine x_icmp (a' := 47) (pc' := 21) (z := false) rfl rfl rfl (by decide) (fun h => by cases h) (fun _ => ?_)
  refine x_iload_n (pc' := 22) rfl rfl rfl ?_
  refine x_aload_n (pc' := 23) rfl rfl rfl rfl rfl ?_
  refine x_gR (pc' := 26) (r := (some 6)) rfl rfl rfl (Eq.trans rdRI (Eq.trans rdRL (z_R_776_0 e))) ?_
  refine x_iconst (pc' := 27) rfl rfl ?_
  refine x_iload_n (pc' := 28) rfl rfl rfl ?_
  refine x_imul (pc' := 29) (z := (io (3 * m))) rfl rfl (io_mul 3 m) ?_
  refine x_iload_n (pc' := 30) rfl rfl rfl ?_
  refine x_iadd (pc' := 31) (z := (io ((3 * m) + 2))) rfl rfl (io_add (3 * m) 2) ?_
  refine x_iald (pc' := 32) (N := 18) (x := 0) rfl rfl rfl (Eq.trans rdNI (Eq.trans rdNL (z_N_21_6 e))) (io_in (p := ((3 * m) + 2)) (N := 18) (show ((3 * m) + 2) < 18 by omega) (by decide)) (Eq.trans (congrArg (sA (sIw (sLw t 23 0 0 (0 : Int64)) 768 0 0) 21 6) (nn_io (p := ((3 * m) + 2)) (Nat.lt_trans (show ((3 * m) + 2) < 18 by omega) (by decide)))) (Eq.trans rdAI (Eq.trans rdAL (z_A_21_6_y e _)))) ?_
  refine x_aload_n (pc' := 33) rfl rfl rfl rfl rfl ?_
  refine x_gR (pc' := 36) (r := (some 1)) rfl rfl rfl (Eq.trans rdRI (Eq.trans rdRL (z_R_771_0 e))) ?_
  refine x_iload_n (pc' := 37) rfl rfl rfl ?_
  refine x_iald (pc' := 38) (N := 3) (x := 100) rfl rfl rfl (Eq.trans rdNI (Eq.trans rdNL (z_N_21_1 e))) (io_in (p := 2) (N := 3) (by decide) (by decide)) (Eq.trans (congrArg (sA (sIw (sLw t 23 0 0 (0 : Int64)) 768 0 0) 21 1) (nn_io (p := 2) (by decide))) (Eq.trans rdAI (Eq.trans rdAL (z_A_21_1_2 e)))) ?_
  refine x_imul (pc' := 39) (z := 0) rfl rfl (by decide) ?_
  refine x_iadd (pc' := 40) (z := 0) rfl rfl (by decide) ?_
  refine x_istore_n (pc' := 41) (ls' := [_, _, _, _]) rfl rfl rfl rfl ?_
  refine x_iinc (pc' := 44) (y := 3) (ls' := [_, _, _, _]) rfl rfl rfl rfl rfl ?_
  refine x_goto (pc' := 16) rfl rfl ?_
  refine x_iload_n (pc' := 17) rfl rfl rfl ?_
  refine x_iconst (pc' := 18) rfl rfl ?_
  refine x_icmp (a' := 47) (pc' := 21) (z := true) rfl rfl rfl (by decide) (fun _ => ?_) (fun h => by cases h)
  refine x_iload_n (pc' := 48) rfl rfl rfl ?_
  refine x_reti rfl rfl ?_
  refine sK_i (pc' := 13) rfl ?_
  refine x_goto (pc' := 17) rfl rfl ?_
  refine x_reti rfl rfl ?_
  refine sK_i (pc' := 2648) rfl ?_
  refine x_istore (pc' := 2650) (ls' := [_, _, _, _, _, _, _]) rfl rfl rfl rfl ?_
  refine x_aload_n (pc' := 2651) rfl rfl rfl rfl rfl ?_
  refine x_cv (ls0 := [_]) (rest := []) rfl rfl rfl rfl rfl ?_
  refine x_aload_n (pc' := 1) rfl rfl rfl rfl rfl ?_
  refine x_gI (pc' := 4) (x := 0) rfl rfl rfl sI_s ?_
  refine x_reti rfl rfl ?_
  refine sK_i (pc' := 2654) rfl ?_
  refine x_iload (pc' := 2656) rfl rfl rfl ?_
  refine x_icmp (a' := 2661) (pc' := 2659) (z := true) rfl rfl rfl (by decide) (fun _ => ?_) (fun h => by cases h)
  refine x_iload (pc' := 2663) rfl rfl rfl ?_
  refine x_if (a' := 2678) (pc' := 2666) (z := false) rfl rfl rfl (by decide) (fun h => by cases h) (fun _ => ?_)
  refine x_aload_n (pc' := 2667) rfl rfl rfl rfl rfl ?_
  refine x_iconst (pc' := 2668) rfl rfl ?_
  refine x_lald (pc' := 2669) (N := 1) (x := (0 : Int64)) rfl rfl (Eq.trans rdNI (Eq.trans rdNL (z_N_23_0 e))) (io_in (p := 0) (N := 1) (by decide) (by decide)) (Eq.trans (congrArg (sL (sIw (sLw t 23 0 0 (0 : Int64)) 768 0 0) 23 0) (nn_io (p := 0) (by decide))) (Eq.trans rdLI sL_s)) ?_
  refine x_iload (pc' := 2671) rfl rfl rfl ?_
  refine x_i2l (pc' := 2672) (z := (0 : Int64)) rfl rfl (by decide) ?_
  refine x_lcmp (pc' := 2673) (z := 0) rfl rfl (sLcmp_s _) ?_
  refine x_if (a' := 2678) (pc' := 2676) (z := true) rfl rfl rfl (by decide) (fun _ => ?_) (fun h => by cases h)
  refine x_goto (pc' := 2938) rfl rfl ?_
  refine x_iinc (pc' := 2941) (y := 7) (ls' := [_, _, _, _, _, _, _]) rfl rfl rfl rfl rfl ?_
  refine x_goto (pc' := 23) rfl rfl ?_
  refine x_iload (pc' := 25) rfl rfl rfl ?_
  refine x_aload_n (pc' := 26) rfl rfl rfl rfl rfl ?_
  refine x_alen (pc' := 27) (N := 7) rfl rfl rfl (Eq.trans rdNI (Eq.trans rdNL (z_N_29_0 e))) (?_ : X _ _ _ (.inl 7 :: _) _ _)
  refine x_bipush (pc' := 29) rfl rfl ?_
  refine x_isub (pc' := 30) (z := 0) rfl rfl (by decide) ?_
  refine x_icmp (a' := 2944) (pc' := 33) (z := true) rfl rfl rfl (by decide) (fun _ => ?_) (fun h => by cases h)
  refine x_iconst (pc' := 2945) rfl rfl ?_
  refine x_retz (z := true) rfl rfl ?_
  exact Qp_ok e (p := 0) (q := 0) rfl rfl rfl rfl
set_option maxHeartbeats 4000000 in
set_option maxRecDepth 10000 in
theorem v_35_A {t : sT} {xs : Nat → Int32}
    (e : t = T16 7 xs)
    (hk : ((xs 0) &&& 63) = 35)
    (e0 : (xs 1) < 0) :
    X 297 23 [.inr (.inr (29, (some 0))), .inr (.inr (11, (some 0))), .inr (.inr (12, (some 0))), .inr (.inr (23, (some 0))), .inl 0, sJk, sJk] [] t Qp := by
  refine x_iload (pc' := 25) rfl rfl rfl ?_
  refine x_aload_n (pc' := 26) rfl rfl rfl rfl rfl ?_
  refine x_alen (pc' := 27) (N := 7) rfl rfl rfl (z_N_29_0 e) (?_ : X _ _ _ (.inl 7 :: _) _ _)
  refine x_bipush (pc' := 29) rfl rfl ?_
  refine x_isub (pc' := 30) (z := 0) rfl rfl (by decide) ?_
  refine x_icmp (a' := 2944) (pc' := 33) (z := false) rfl rfl rfl (by decide) (fun h => by cases h) (fun _ => ?_)
  refine x_aload_n (pc' := 34) rfl rfl rfl rfl rfl ?_
  refine x_iload (pc' := 36) rfl rfl rfl ?_
  refine x_iald (pc' := 37) (N := 7) (x := (xs 0)) rfl rfl rfl (z_N_29_0 e) (io_in (p := 0) (N := 7) (by decide) (by decide)) (Eq.trans (congrArg (sA t 29 0) (nn_io (p := 0) (by decide))) (z_A_29_0_0 e)) ?_
  refine x_bipush (pc' := 39) rfl rfl ?_
  refine x_iand (pc' := 40) (z := ((xs 0) &&& 63)) rfl rfl rfl ?_
  refine x_switch (pc' := 2625) rfl (by rw [hk]; decide) ?_
  refine x_aload_n (pc' := 2626) rfl rfl rfl rfl rfl ?_
  refine x_aload_n (pc' := 2627) rfl rfl rfl rfl rfl ?_
  refine x_iload (pc' := 2629) rfl rfl rfl ?_
  refine x_iconst (pc' := 2630) rfl rfl ?_
  refine x_iadd (pc' := 2631) (z := 1) rfl rfl (by decide) ?_
  refine x_iald (pc' := 2632) (N := 7) (x := (xs 1)) rfl rfl rfl (z_N_29_0 e) (io_in (p := 1) (N := 7) (by decide) (by decide)) (Eq.trans (congrArg (sA t 29 0) (nn_io (p := 1) (by decide))) (z_A_29_0_1 e)) ?_
  refine x_aload_n (pc' := 2633) rfl rfl rfl rfl rfl ?_
  refine x_cs (ls0 := [_, _, _, sJk]) (rest := []) rfl rfl rfl rfl ?_
  refine x_aload_n (pc' := 1) rfl rfl rfl rfl rfl ?_
  refine x_iconst (pc' := 2) rfl rfl ?_
  refine x_aload_n (pc' := 3) rfl rfl rfl rfl rfl ?_
  refine x_iload_n (pc' := 4) rfl rfl rfl ?_
  refine x_cv (ls0 := [_, _]) (rest := [_, _]) rfl rfl rfl rfl rfl ?_
  refine x_aload_n (pc' := 1) rfl rfl rfl rfl rfl ?_
  refine x_gR (pc' := 4) (r := (some 0)) rfl rfl rfl (z_R_704_0 e) ?_
  refine x_aload_n (pc' := 5) rfl rfl rfl rfl rfl ?_
  refine x_iload_n (pc' := 6) rfl rfl rfl ?_
  refine x_cv (ls0 := [_, _]) (rest := [_]) rfl rfl rfl rfl rfl ?_
  refine x_iload_n (pc' := 1) rfl rfl rfl ?_
  refine x_if (a' := 16) (pc' := 4) (z := decide ((xs 1) < 0)) rfl rfl rfl rfl (fun _ => ?_) (fun h => absurd e0 (of_decide_eq_false h))
  refine x_throw rfl rfl ?_
  refine sK_n (by decide +kernel) rfl ?_
  refine sK_h (h := 12) (by decide +kernel) rfl ?_
  refine x_catch_n (pc' := 13) (ls' := [_, _, _, _]) rfl rfl rfl rfl ?_
  refine x_iconst (pc' := 14) rfl rfl ?_
  refine x_reti rfl rfl ?_
  refine sK_i (pc' := 2636) rfl ?_
  refine x_istore (pc' := 2638) (ls' := [_, _, _, _, _, _, _]) rfl rfl rfl rfl ?_
  refine x_aload_n (pc' := 2639) rfl rfl rfl rfl rfl ?_
  refine x_aload_n (pc' := 2640) rfl rfl rfl rfl rfl ?_
  refine x_iload (pc' := 2642) rfl rfl rfl ?_
  refine x_iconst (pc' := 2643) rfl rfl ?_
  refine x_iadd (pc' := 2644) (z := 1) rfl rfl (by decide) ?_
  refine x_iald (pc' := 2645) (N := 7) (x := (xs 1)) rfl rfl rfl (Eq.trans rdNthr (z_N_29_0 e)) (io_in (p := 1) (N := 7) (by decide) (by decide)) (Eq.trans (congrArg (sA (sThr t) 29 0) (nn_io (p := 1) (by decide))) (Eq.trans rdAthr (z_A_29_0_1 e))) ?_
  refine x_cv (ls0 := [_, _]) (rest := []) rfl rfl rfl rfl rfl ?_
  refine x_aload_n (pc' := 1) rfl rfl rfl rfl rfl ?_
  refine x_iload_n (pc' := 2) rfl rfl rfl ?_
  refine x_cv (ls0 := [_, _]) (rest := []) rfl rfl rfl rfl rfl ?_
  refine x_aload_n (pc' := 1) rfl rfl rfl rfl rfl ?_
  refine x_iload_n (pc' := 2) rfl rfl rfl ?_
  refine x_cs (ls0 := [_]) (rest := [_]) rfl rfl rfl rfl ?_
  refine x_iload_n (pc' := 1) rfl rfl rfl ?_
  refine x_iconst (pc' := 2) rfl rfl ?_
  refine x_iconst (pc' := 3) rfl rfl ?_
  refine x_cs (ls0 := [_, _, _]) (rest := []) rfl rfl rfl rfl ?_
  refine x_iload_n (pc' := 1) rfl rfl rfl ?_
  refine x_iload_n (pc' := 2) rfl rfl rfl ?_
  refine x_icmp (a' := 14) (pc' := 5) (z := decide ((xs 1) < 0)) rfl rfl rfl rfl (fun _ => ?_) (fun h => absurd e0 (of_decide_eq_false h))
  refine x_iconst (pc' := 15) rfl rfl ?_
  refine x_retz (z := false) rfl rfl ?_
  refine sK_i (pc' := 6) rfl ?_
  refine x_retz (z := false) rfl rfl ?_
  refine sK_i (pc' := 5) rfl ?_
  refine x_if (a' := 12) (pc' := 8) (z := true) rfl rfl rfl (by decide) (fun _ => ?_) (fun h => by cases h)
  refine x_iconst (pc' := 13) rfl rfl ?_
  refine x_cv (ls0 := [_, _]) (rest := []) rfl rfl rfl rfl rfl ?_
  refine x_aload_n (pc' := 1) rfl rfl rfl rfl rfl ?_
  refine x_iload_n (pc' := 2) rfl rfl rfl ?_
  refine x_pI (pc' := 5) rfl rfl rfl ?_
  refine x_iload_n (pc' := 6) rfl rfl rfl ?_
  refine x_if (a' := 13) (pc' := 9) (z := true) rfl rfl rfl (by decide) (fun _ => ?_) (fun h => by cases h)
  refine x_iconst (pc' := 14) rfl rfl ?_
  refine x_retz (z := false) rfl rfl ?_
  refine sK_i (pc' := 16) rfl ?_
  refine x_retz (z := false) rfl rfl ?_
  refine sK_i (pc' := 5) rfl ?_
  refine x_if (a' := 16) (pc' := 8) (z := true) rfl rfl rfl (by decide) (fun _ => ?_) (fun h => by cases h)
  refine x_iconst (pc' := 17) rfl rfl ?_
  refine x_reti rfl rfl ?_
  refine sK_i (pc' := 2648) rfl ?_
  refine x_istore (pc' := 2650) (ls' := [_, _, _, _, _, _, _]) rfl rfl rfl rfl ?_
  refine x_aload_n (pc' := 2651) rfl rfl rfl rfl rfl ?_
  refine x_cv (ls0 := [_]) (rest := []) rfl rfl rfl rfl rfl ?_
  refine x_aload_n (pc' := 1) rfl rfl rfl rfl rfl ?_
  refine x_gI (pc' := 4) (x := 1) rfl rfl rfl sI_s ?_
  refine x_reti rfl rfl ?_
  refine sK_i (pc' := 2654) rfl ?_
  refine x_iload (pc' := 2656) rfl rfl rfl ?_
  refine x_icmp (a' := 2661) (pc' := 2659) (z := true) rfl rfl rfl (by decide) (fun _ => ?_) (fun h => by cases h)
  refine x_iload (pc' := 2663) rfl rfl rfl ?_
  refine x_if (a' := 2678) (pc' := 2666) (z := true) rfl rfl rfl (by decide) (fun _ => ?_) (fun h => by cases h)
  refine x_goto (pc' := 2938) rfl rfl ?_
  refine x_iinc (pc' := 2941) (y := 7) (ls' := [_, _, _, _, _, _, _]) rfl rfl rfl rfl rfl ?_
  refine x_goto (pc' := 23) rfl rfl ?_
  refine x_iload (pc' := 25) rfl rfl rfl ?_
  refine x_aload_n (pc' := 26) rfl rfl rfl rfl rfl ?_
  refine x_alen (pc' := 27) (N := 7) rfl rfl rfl (Eq.trans rdNI (Eq.trans rdNthr (z_N_29_0 e))) (?_ : X _ _ _ (.inl 7 :: _) _ _)
  refine x_bipush (pc' := 29) rfl rfl ?_
  refine x_isub (pc' := 30) (z := 0) rfl rfl (by decide) ?_
  refine x_icmp (a' := 2944) (pc' := 33) (z := true) rfl rfl rfl (by decide) (fun _ => ?_) (fun h => by cases h)
  refine x_iconst (pc' := 2945) rfl rfl ?_
  refine x_retz (z := true) rfl rfl ?_
  exact Qp_ok e (p := 1) (q := 6) rfl rfl rfl rfl
set_option maxHeartbeats 4000000 in
set_option maxRecDepth 10000 in
theorem v_35_B {t : sT} {xs : Nat → Int32}
    (e : t = T16 7 xs)
    (hk : ((xs 0) &&& 63) = 35)
    (e0 : ¬ (xs 1) < 0)
    (f0 : ¬ (xs 1) < 6) :
    X 297 23 [.inr (.inr (29, (some 0))), .inr (.inr (11, (some 0))), .inr (.inr (12, (some 0))), .inr (.inr (23, (some 0))), .inl 0, sJk, sJk] [] t Qp := by
  refine x_iload (pc' := 25) rfl rfl rfl ?_
  refine x_aload_n (pc' := 26) rfl rfl rfl rfl rfl ?_
  refine x_alen (pc' := 27) (N := 7) rfl rfl rfl (z_N_29_0 e) (?_ : X _ _ _ (.inl 7 :: _) _ _)
  refine x_bipush (pc' := 29) rfl rfl ?_
  refine x_isub (pc' := 30) (z := 0) rfl rfl (by decide) ?_
  refine x_icmp (a' := 2944) (pc' := 33) (z := false) rfl rfl rfl (by decide) (fun h => by cases h) (fun _ => ?_)
  refine x_aload_n (pc' := 34) rfl rfl rfl rfl rfl ?_
  refine x_iload (pc' := 36) rfl rfl rfl ?_
  refine x_iald (pc' := 37) (N := 7) (x := (xs 0)) rfl rfl rfl (z_N_29_0 e) (io_in (p := 0) (N := 7) (by decide) (by decide)) (Eq.trans (congrArg (sA t 29 0) (nn_io (p := 0) (by decide))) (z_A_29_0_0 e)) ?_
  refine x_bipush (pc' := 39) rfl rfl ?_
  refine x_iand (pc' := 40) (z := ((xs 0) &&& 63)) rfl rfl rfl ?_
  refine x_switch (pc' := 2625) rfl (by rw [hk]; decide) ?_
  refine x_aload_n (pc' := 2626) rfl rfl rfl rfl rfl ?_
  refine x_aload_n (pc' := 2627) rfl rfl rfl rfl rfl ?_
  refine x_iload (pc' := 2629) rfl rfl rfl ?_
  refine x_iconst (pc' := 2630) rfl rfl ?_
  refine x_iadd (pc' := 2631) (z := 1) rfl rfl (by decide) ?_
  refine x_iald (pc' := 2632) (N := 7) (x := (xs 1)) rfl rfl rfl (z_N_29_0 e) (io_in (p := 1) (N := 7) (by decide) (by decide)) (Eq.trans (congrArg (sA t 29 0) (nn_io (p := 1) (by decide))) (z_A_29_0_1 e)) ?_
  refine x_aload_n (pc' := 2633) rfl rfl rfl rfl rfl ?_
  refine x_cs (ls0 := [_, _, _, sJk]) (rest := []) rfl rfl rfl rfl ?_
  refine x_aload_n (pc' := 1) rfl rfl rfl rfl rfl ?_
  refine x_iconst (pc' := 2) rfl rfl ?_
  refine x_aload_n (pc' := 3) rfl rfl rfl rfl rfl ?_
  refine x_iload_n (pc' := 4) rfl rfl rfl ?_
  refine x_cv (ls0 := [_, _]) (rest := [_, _]) rfl rfl rfl rfl rfl ?_
  refine x_aload_n (pc' := 1) rfl rfl rfl rfl rfl ?_
  refine x_gR (pc' := 4) (r := (some 0)) rfl rfl rfl (z_R_704_0 e) ?_
  refine x_aload_n (pc' := 5) rfl rfl rfl rfl rfl ?_
  refine x_iload_n (pc' := 6) rfl rfl rfl ?_
  refine x_cv (ls0 := [_, _]) (rest := [_]) rfl rfl rfl rfl rfl ?_
  refine x_iload_n (pc' := 1) rfl rfl rfl ?_
  refine x_if (a' := 16) (pc' := 4) (z := decide ((xs 1) < 0)) rfl rfl rfl rfl (fun h => absurd (of_decide_eq_true h) e0) (fun _ => ?_)
  refine x_iload_n (pc' := 5) rfl rfl rfl ?_
  refine x_aload_n (pc' := 6) rfl rfl rfl rfl rfl ?_
  refine x_gR (pc' := 9) (r := (some 0)) rfl rfl rfl (z_R_704_0 e) ?_
  refine x_gR (pc' := 12) (r := (some 0)) rfl rfl rfl (z_R_321_0 e) ?_
  refine x_alen (pc' := 13) (N := 6) rfl rfl rfl (z_N_26_0 e) (?_ : X _ _ _ (.inl 6 :: _) _ _)
  refine x_icmp (a' := 27) (pc' := 16) (z := decide ((xs 1) < 6)) rfl rfl rfl rfl (fun h => absurd (of_decide_eq_true h) f0) (fun _ => ?_)
  refine x_throw rfl rfl ?_
  refine sK_n (by decide +kernel) rfl ?_
  refine sK_h (h := 12) (by decide +kernel) rfl ?_
  refine x_catch_n (pc' := 13) (ls' := [_, _, _, _]) rfl rfl rfl rfl ?_
  refine x_iconst (pc' := 14) rfl rfl ?_
  refine x_reti rfl rfl ?_
  refine sK_i (pc' := 2636) rfl ?_
  refine x_istore (pc' := 2638) (ls' := [_, _, _, _, _, _, _]) rfl rfl rfl rfl ?_
  refine x_aload_n (pc' := 2639) rfl rfl rfl rfl rfl ?_
  refine x_aload_n (pc' := 2640) rfl rfl rfl rfl rfl ?_
  refine x_iload (pc' := 2642) rfl rfl rfl ?_
  refine x_iconst (pc' := 2643) rfl rfl ?_
  refine x_iadd (pc' := 2644) (z := 1) rfl rfl (by decide) ?_
  refine x_iald (pc' := 2645) (N := 7) (x := (xs 1)) rfl rfl rfl (Eq.trans rdNthr (z_N_29_0 e)) (io_in (p := 1) (N := 7) (by decide) (by decide)) (Eq.trans (congrArg (sA (sThr t) 29 0) (nn_io (p := 1) (by decide))) (Eq.trans rdAthr (z_A_29_0_1 e))) ?_
  refine x_cv (ls0 := [_, _]) (rest := []) rfl rfl rfl rfl rfl ?_
  refine x_aload_n (pc' := 1) rfl rfl rfl rfl rfl ?_
  refine x_iload_n (pc' := 2) rfl rfl rfl ?_
  refine x_cv (ls0 := [_, _]) (rest := []) rfl rfl rfl rfl rfl ?_
  refine x_aload_n (pc' := 1) rfl rfl rfl rfl rfl ?_
  refine x_iload_n (pc' := 2) rfl rfl rfl ?_
  refine x_cs (ls0 := [_]) (rest := [_]) rfl rfl rfl rfl ?_
  refine x_iload_n (pc' := 1) rfl rfl rfl ?_
  refine x_iconst (pc' := 2) rfl rfl ?_
  refine x_iconst (pc' := 3) rfl rfl ?_
  refine x_cs (ls0 := [_, _, _]) (rest := []) rfl rfl rfl rfl ?_
  refine x_iload_n (pc' := 1) rfl rfl rfl ?_
  refine x_iload_n (pc' := 2) rfl rfl rfl ?_
  refine x_icmp (a' := 14) (pc' := 5) (z := decide ((xs 1) < 0)) rfl rfl rfl rfl (fun h => absurd (of_decide_eq_true h) e0) (fun _ => ?_)
  refine x_iload_n (pc' := 6) rfl rfl rfl ?_
  refine x_iload_n (pc' := 7) rfl rfl rfl ?_
  refine x_icmp (a' := 14) (pc' := 10) (z := decide (5 < (xs 1))) rfl rfl rfl rfl (fun _ => ?_) (fun h => absurd (lt_of6 f0) (of_decide_eq_false h))
  refine x_iconst (pc' := 15) rfl rfl ?_
  refine x_retz (z := false) rfl rfl ?_
  refine sK_i (pc' := 6) rfl ?_
  refine x_retz (z := false) rfl rfl ?_
  refine sK_i (pc' := 5) rfl ?_
  refine x_if (a' := 12) (pc' := 8) (z := true) rfl rfl rfl (by decide) (fun _ => ?_) (fun h => by cases h)
  refine x_iconst (pc' := 13) rfl rfl ?_
  refine x_cv (ls0 := [_, _]) (rest := []) rfl rfl rfl rfl rfl ?_
  refine x_aload_n (pc' := 1) rfl rfl rfl rfl rfl ?_
  refine x_iload_n (pc' := 2) rfl rfl rfl ?_
  refine x_pI (pc' := 5) rfl rfl rfl ?_
  refine x_iload_n (pc' := 6) rfl rfl rfl ?_
  refine x_if (a' := 13) (pc' := 9) (z := true) rfl rfl rfl (by decide) (fun _ => ?_) (fun h => by cases h)
  refine x_iconst (pc' := 14) rfl rfl ?_
  refine x_retz (z := false) rfl rfl ?_
  refine sK_i (pc' := 16) rfl ?_
  refine x_retz (z := false) rfl rfl ?_
  refine sK_i (pc' := 5) rfl ?_
  refine x_if (a' := 16) (pc' := 8) (z := true) rfl rfl rfl (by decide) (fun _ => ?_) (fun h => by cases h)
  refine x_iconst (pc' := 17) rfl rfl ?_
  refine x_reti rfl rfl ?_
  refine sK_i (pc' := 2648) rfl ?_
  refine x_istore (pc' := 2650) (ls' := [_, _, _, _, _, _, _]) rfl rfl rfl rfl ?_
  refine x_aload_n (pc' := 2651) rfl rfl rfl rfl rfl ?_
  refine x_cv (ls0 := [_]) (rest := []) rfl rfl rfl rfl rfl ?_
  refine x_aload_n (pc' := 1) rfl rfl rfl rfl rfl ?_
  refine x_gI (pc' := 4) (x := 1) rfl rfl rfl sI_s ?_
  refine x_reti rfl rfl ?_
  refine sK_i (pc' := 2654) rfl ?_
  refine x_iload (pc' := 2656) rfl rfl rfl ?_
  refine x_icmp (a' := 2661) (pc' := 2659) (z := true) rfl rfl rfl (by decide) (fun _ => ?_) (fun h => by cases h)
  refine x_iload (pc' := 2663) rfl rfl rfl ?_
  refine x_if (a' := 2678) (pc' := 2666) (z := true) rfl rfl rfl (by decide) (fun _ => ?_) (fun h => by cases h)
  refine x_goto (pc' := 2938) rfl rfl ?_
  refine x_iinc (pc' := 2941) (y := 7) (ls' := [_, _, _, _, _, _, _]) rfl rfl rfl rfl rfl ?_
  refine x_goto (pc' := 23) rfl rfl ?_
  refine x_iload (pc' := 25) rfl rfl rfl ?_
  refine x_aload_n (pc' := 26) rfl rfl rfl rfl rfl ?_
  refine x_alen (pc' := 27) (N := 7) rfl rfl rfl (Eq.trans rdNI (Eq.trans rdNthr (z_N_29_0 e))) (?_ : X _ _ _ (.inl 7 :: _) _ _)
  refine x_bipush (pc' := 29) rfl rfl ?_
  refine x_isub (pc' := 30) (z := 0) rfl rfl (by decide) ?_
  refine x_icmp (a' := 2944) (pc' := 33) (z := true) rfl rfl rfl (by decide) (fun _ => ?_) (fun h => by cases h)
  refine x_iconst (pc' := 2945) rfl rfl ?_
  refine x_retz (z := true) rfl rfl ?_
  exact Qp_ok e (p := 1) (q := 6) rfl rfl rfl rfl
set_option maxHeartbeats 4000000 in
set_option maxRecDepth 10000 in
theorem v_36_v {t : sT} {xs : Nat → Int32} {m : Nat}
    (e : t = T16 7 xs)
    (hk : ((xs 0) &&& 63) = 36)
    (hm : m < 6)
    (e0 : xs 1 = io m) :
    X 297 23 [.inr (.inr (29, (some 0))), .inr (.inr (11, (some 0))), .inr (.inr (12, (some 0))), .inr (.inr (23, (some 0))), .inl 0, sJk, sJk] [] t Qp := by
  refine x_iload (pc' := 25) rfl rfl rfl ?_
  refine x_aload_n (pc' := 26) rfl rfl rfl rfl rfl ?_
  refine x_alen (pc' := 27) (N := 7) rfl rfl rfl (z_N_29_0 e) (?_ : X _ _ _ (.inl 7 :: _) _ _)
  refine x_bipush (pc' := 29) rfl rfl ?_
  refine x_isub (pc' := 30) (z := 0) rfl rfl (by decide) ?_
  refine x_icmp (a' := 2944) (pc' := 33) (z := false) rfl rfl rfl (by decide) (fun h => by cases h) (fun _ => ?_)
  refine x_aload_n (pc' := 34) rfl rfl rfl rfl rfl ?_
  refine x_iload (pc' := 36) rfl rfl rfl ?_
  refine x_iald (pc' := 37) (N := 7) (x := (xs 0)) rfl rfl rfl (z_N_29_0 e) (io_in (p := 0) (N := 7) (by decide) (by decide)) (Eq.trans (congrArg (sA t 29 0) (nn_io (p := 0) (by decide))) (z_A_29_0_0 e)) ?_
  refine x_bipush (pc' := 39) rfl rfl ?_
  refine x_iand (pc' := 40) (z := ((xs 0) &&& 63)) rfl rfl rfl ?_
  refine x_switch (pc' := 2681) rfl (by rw [hk]; decide) ?_
  refine x_aload_n (pc' := 2682) rfl rfl rfl rfl rfl ?_
  refine x_aload_n (pc' := 2683) rfl rfl rfl rfl rfl ?_
  refine x_iload (pc' := 2685) rfl rfl rfl ?_
  refine x_iconst (pc' := 2686) rfl rfl ?_
  refine x_iadd (pc' := 2687) (z := 1) rfl rfl (by decide) ?_
  refine x_iald (pc' := 2688) (N := 7) (x := (io m)) rfl rfl rfl (z_N_29_0 e) (io_in (p := 1) (N := 7) (by decide) (by decide)) (Eq.trans (congrArg (sA t 29 0) (nn_io (p := 1) (by decide))) (Eq.trans (z_A_29_0_1 e) e0)) ?_
  refine x_aload_n (pc' := 2689) rfl rfl rfl rfl rfl ?_
  refine x_cs (ls0 := [_, _, _, sJk]) (rest := []) rfl rfl rfl rfl ?_
  refine x_aload_n (pc' := 1) rfl rfl rfl rfl rfl ?_
  refine x_iconst (pc' := 2) rfl rfl ?_
  refine x_aload_n (pc' := 3) rfl rfl rfl rfl rfl ?_
  refine x_iload_n (pc' := 4) rfl rfl rfl ?_
  refine x_cv (ls0 := [_, _]) (rest := [_, _]) rfl rfl rfl rfl rfl ?_
  refine x_aload_n (pc' := 1) rfl rfl rfl rfl rfl ?_
  refine x_gR (pc' := 4) (r := (some 0)) rfl rfl rfl (z_R_704_0 e) ?_
  refine x_aload_n (pc' := 5) rfl rfl rfl rfl rfl ?_
  refine x_iload_n (pc' := 6) rfl rfl rfl ?_
  refine x_cv (ls0 := [_, _]) (rest := [_]) rfl rfl rfl rfl rfl ?_
  refine x_iload_n (pc' := 1) rfl rfl rfl ?_
  refine x_if (a' := 16) (pc' := 4) (z := decide (m < 0)) rfl rfl rfl (ic_lt (p := m) (q := 0) (Nat.lt_trans hm (by decide)) (by decide)) (fun h => absurd (of_decide_eq_true h) (by first | decide | omega | simp)) (fun _ => ?_)
  refine x_iload_n (pc' := 5) rfl rfl rfl ?_
  refine x_aload_n (pc' := 6) rfl rfl rfl rfl rfl ?_
  refine x_gR (pc' := 9) (r := (some 0)) rfl rfl rfl (z_R_704_0 e) ?_
  refine x_gR (pc' := 12) (r := (some 0)) rfl rfl rfl (z_R_321_0 e) ?_
  refine x_alen (pc' := 13) (N := 6) rfl rfl rfl (z_N_26_0 e) (?_ : X _ _ _ (.inl 6 :: _) _ _)
  refine x_icmp (a' := 27) (pc' := 16) (z := decide (m < 6)) rfl rfl rfl (ic_lt (p := m) (q := 6) (Nat.lt_trans hm (by decide)) (by decide)) (fun _ => ?_) (fun h => absurd (Nat.lt_of_lt_of_le hm (by decide)) (of_decide_eq_false h))
  refine x_aload_n (pc' := 28) rfl rfl rfl rfl rfl ?_
  refine x_gR (pc' := 31) (r := (some 0)) rfl rfl rfl (z_R_704_0 e) ?_
  refine x_gR (pc' := 34) (r := (some 0)) rfl rfl rfl (z_R_321_0 e) ?_
  refine x_iload_n (pc' := 35) rfl rfl rfl ?_
  refine x_aald (pc' := 36) (N := 6) (k' := 7) (r := (some m)) rfl rfl rfl (z_N_26_0 e) (io_in (p := m) (N := 6) hm (by decide)) (Eq.trans (congrArg (sE t 26 0) (nn_io (p := m) (Nat.lt_trans hm (by decide)))) (kM (Cn_e e) hm)) ?_
  refine x_reta rfl rfl ?_
  refine sK_i (pc' := 9) rfl ?_
  refine x_null (pc' := 10) rfl rfl rfl ?_
  refine x_cv (ls0 := [_, _, _, sJk, sJk, sJk, sJk, sJk, sJk, sJk, sJk]) (rest := []) rfl rfl rfl rfl rfl ?_
  refine x_iconst (pc' := 1) rfl rfl ?_
  refine x_istore_n (pc' := 2) (ls' := [_, _, _, _, _, _, _, _, _, _, _]) rfl rfl rfl rfl ?_
  refine x_iconst (pc' := 3) rfl rfl ?_
  refine x_istore (pc' := 5) (ls' := [_, _, _, _, _, _, _, _, _, _, _]) rfl rfl rfl rfl ?_
  refine x_iload (pc' := 7) rfl rfl rfl ?_
  refine x_bipush (pc' := 9) rfl rfl ?_
  refine x_icmp (a' := 108) (pc' := 12) (z := false) rfl rfl rfl (by decide) (fun h => by cases h) (fun _ => ?_)
  refine x_iconst (pc' := 13) rfl rfl ?_
  refine x_istore (pc' := 15) (ls' := [_, _, _, _, _, _, _, _, _, _, _]) rfl rfl rfl rfl ?_
  refine x_aload_n (pc' := 16) rfl rfl rfl rfl rfl ?_
  refine x_gR (pc' := 19) (r := (some 0)) rfl rfl rfl (z_R_320_0 e) ?_
  refine x_astore (pc' := 21) (ls' := [_, _, _, _, _, _, _, _, _, _, _]) rfl rfl rfl rfl rfl ?_
  refine x_aload (pc' := 23) rfl rfl rfl rfl rfl ?_
  refine x_alen (pc' := 24) (N := 3) rfl rfl rfl (z_N_25_0 e) (?_ : X _ _ _ (.inl 3 :: _) _ _)
  refine x_istore (pc' := 26) (ls' := [_, _, _, _, _, _, _, _, _, _, _]) rfl rfl rfl rfl ?_
  refine x_iconst (pc' := 27) rfl rfl ?_
  refine x_istore (pc' := 29) (ls' := [_, _, _, _, _, _, _, _, _, _, _]) rfl rfl rfl rfl ?_
  refine x_iload (pc' := 31) rfl rfl rfl ?_
  refine x_iload (pc' := 33) rfl rfl rfl ?_
  refine x_icmp (a' := 95) (pc' := 36) (z := false) rfl rfl rfl (by decide) (fun h => by cases h) (fun _ => ?_)
  refine x_aload (pc' := 38) rfl rfl rfl rfl rfl ?_
  refine x_iload (pc' := 40) rfl rfl rfl ?_
  refine x_aald (pc' := 41) (N := 3) (k' := 2) (r := (some 0)) rfl rfl rfl (z_N_25_0 e) (io_in (p := 0) (N := 3) (by decide) (by decide)) (Eq.trans (congrArg (sE t 25 0) (nn_io (p := 0) (by decide))) (z_E_25_0_0 e)) ?_
  refine x_astore (pc' := 43) (ls' := [_, _, _, _, _, _, _, _, _, _, _]) rfl rfl rfl rfl rfl ?_
  refine x_aload_n (pc' := 44) rfl rfl rfl rfl rfl ?_
  refine x_aload (pc' := 46) rfl rfl rfl rfl rfl ?_
  refine x_cv (ls0 := [_, _, sJk]) (rest := []) rfl rfl rfl rfl rfl ?_
  refine x_aload_n (pc' := 1) rfl rfl rfl rfl rfl ?_
  refine x_gI (pc' := 4) (x := 0) rfl rfl rfl (z_I_128_0 e) ?_
  refine x_istore_n (pc' := 5) (ls' := [_, _, _]) rfl rfl rfl rfl ?_
  refine x_iload_n (pc' := 6) rfl rfl rfl ?_
  refine x_if (a' := 27) (pc' := 9) (z := false) rfl rfl rfl (by decide) (fun h => by cases h) (fun _ => ?_)
  refine x_iload_n (pc' := 10) rfl rfl rfl ?_
  refine x_aload_n (pc' := 11) rfl rfl rfl rfl rfl ?_
  refine x_gR (pc' := 14) (r := (some (m + 1))) rfl rfl rfl (kMp (Cn_e e) hm).1 ?_
  refine x_alen (pc' := 15) (N := 3) rfl rfl rfl (kMp (Cn_e e) hm).2.1 (?_ : X _ _ _ (.inl 3 :: _) _ _)
  refine x_icmp (a' := 27) (pc' := 18) (z := false) rfl rfl rfl (by decide) (fun h => by cases h) (fun _ => ?_)
  refine x_aload_n (pc' := 19) rfl rfl rfl rfl rfl ?_
  refine x_gR (pc' := 22) (r := (some (m + 1))) rfl rfl rfl (kMp (Cn_e e) hm).1 ?_
  refine x_iload_n (pc' := 23) rfl rfl rfl ?_
  refine x_iald (pc' := 24) (N := 3) (x := 0) rfl rfl rfl (kMp (Cn_e e) hm).2.1 (io_in (p := 0) (N := 3) (by decide) (by decide)) (Eq.trans (congrArg (sA t 20 (m + 1)) (nn_io (p := 0) (by decide))) (z_A_20_yy e _ _)) ?_
  refine x_goto (pc' := 28) rfl rfl ?_
  refine x_reti rfl rfl ?_
  refine sK_i (pc' := 49) rfl ?_
  refine x_istore (pc' := 51) (ls' := [_, _, _, _, _, _, _, _, _, _, _]) rfl rfl rfl rfl ?_
  refine x_iload (pc' := 53) rfl rfl rfl ?_
  refine x_aload_n (pc' := 54) rfl rfl rfl rfl rfl ?_
  refine x_ifnonnull (a' := 61) (pc' := 57) rfl rfl rfl rfl (fun i h => by cases h) (fun _ => ?_)
  refine x_iconst (pc' := 58) rfl rfl ?_
  refine x_goto (pc' := 67) rfl rfl ?_
  refine x_iadd (pc' := 68) (z := 0) rfl rfl (by decide) ?_
  refine x_istore (pc' := 70) (ls' := [_, _, _, _, _, _, _, _, _, _, _]) rfl rfl rfl rfl ?_
  refine x_iload (pc' := 72) rfl rfl rfl ?_
  refine x_iload (pc' := 74) rfl rfl rfl ?_
  refine x_aload_n (pc' := 75) rfl rfl rfl rfl rfl ?_
  refine x_iload (pc' := 77) rfl rfl rfl ?_
  refine x_aload (pc' := 79) rfl rfl rfl rfl rfl ?_
  refine x_gI (pc' := 82) (x := 0) rfl rfl rfl (z_I_128_0 e) ?_
  refine x_cv (ls0 := [_, _, _, sJk]) (rest := [_, _]) rfl rfl rfl rfl rfl ?_
  refine x_iload_n (pc' := 1) rfl rfl rfl ?_
  refine x_iconst (pc' := 2) rfl rfl ?_
  refine x_imul (pc' := 3) (z := 0) rfl rfl (by decide) ?_
  refine x_iload_n (pc' := 4) rfl rfl rfl ?_
  refine x_iadd (pc' := 5) (z := 0) rfl rfl (by decide) ?_
  refine x_istore_n (pc' := 6) (ls' := [_, _, _, _]) rfl rfl rfl rfl ?_
  refine x_iload_n (pc' := 7) rfl rfl rfl ?_
  refine x_if (a' := 28) (pc' := 10) (z := false) rfl rfl rfl (by decide) (fun h => by cases h) (fun _ => ?_)
  refine x_iload_n (pc' := 11) rfl rfl rfl ?_
  refine x_aload_n (pc' := 12) rfl rfl rfl rfl rfl ?_
  refine x_gR (pc' := 15) (r := (some 0)) rfl rfl rfl (z_R_323_0 e) ?_
  refine x_alen (pc' := 16) (N := 18) rfl rfl rfl (z_N_20_0 e) (?_ : X _ _ _ (.inl 18 :: _) _ _)
  refine x_icmp (a' := 28) (pc' := 19) (z := false) rfl rfl rfl (by decide) (fun h => by cases h) (fun _ => ?_)
  refine x_aload_n (pc' := 20) rfl rfl rfl rfl rfl ?_
  refine x_gR (pc' := 23) (r := (some 0)) rfl rfl rfl (z_R_323_0 e) ?_
  refine x_iload_n (pc' := 24) rfl rfl rfl ?_
  refine x_iald (pc' := 25) (N := 18) (x := 0) rfl rfl rfl (z_N_20_0 e) (io_in (p := 0) (N := 18) (by decide) (by decide)) (Eq.trans (congrArg (sA t 20 0) (nn_io (p := 0) (by decide))) (z_A_20_0_0 e)) ?_
  refine x_goto (pc' := 29) rfl rfl ?_
  refine x_reti rfl rfl ?_
  refine sK_i (pc' := 85) rfl ?_
  refine x_imul (pc' := 86) (z := 0) rfl rfl (by decide) ?_
  refine x_isub (pc' := 87) (z := 0) rfl rfl (by decide) ?_
  refine x_istore (pc' := 89) (ls' := [_, _, _, _, _, _, _, _, _, _, _]) rfl rfl rfl rfl ?_
  refine x_iinc (pc' := 92) (y := 1) (ls' := [_, _, _, _, _, _, _, _, _, _, _]) rfl rfl rfl rfl rfl ?_
  refine x_goto (pc' := 29) rfl rfl ?_
  refine x_iload (pc' := 31) rfl rfl rfl ?_
  refine x_iload (pc' := 33) rfl rfl rfl ?_
  refine x_icmp (a' := 95) (pc' := 36) (z := false) rfl rfl rfl (by decide) (fun h => by cases h) (fun _ => ?_)
  refine x_aload (pc' := 38) rfl rfl rfl rfl rfl ?_
  refine x_iload (pc' := 40) rfl rfl rfl ?_
  refine x_aald (pc' := 41) (N := 3) (k' := 2) (r := (some 1)) rfl rfl rfl (z_N_25_0 e) (io_in (p := 1) (N := 3) (by decide) (by decide)) (Eq.trans (congrArg (sE t 25 0) (nn_io (p := 1) (by decide))) (z_E_25_0_1 e)) ?_
  refine x_astore (pc' := 43) (ls' := [_, _, _, _, _, _, _, _, _, _, _]) rfl rfl rfl rfl rfl ?_
  refine x_aload_n (pc' := 44) rfl rfl rfl rfl rfl ?_
  refine x_aload (pc' := 46) rfl rfl rfl rfl rfl ?_
  refine x_cv (ls0 := [_, _, sJk]) (rest := []) rfl rfl rfl rfl rfl ?_
  refine x_aload_n (pc' := 1) rfl rfl rfl rfl rfl ?_
  refine x_gI (pc' := 4) (x := 1) rfl rfl rfl (z_I_128_1 e) ?_
  refine x_istore_n (pc' := 5) (ls' := [_, _, _]) rfl rfl rfl rfl ?_
  refine x_iload_n (pc' := 6) rfl rfl rfl ?_
  refine x_if (a' := 27) (pc' := 9) (z := false) rfl rfl rfl (by decide) (fun h => by cases h) (fun _ => ?_)
  refine x_iload_n (pc' := 10) rfl rfl rfl ?_
  refine x_aload_n (pc' := 11) rfl rfl rfl rfl rfl ?_
  refine x_gR (pc' := 14) (r := (some (m + 1))) rfl rfl rfl (kMp (Cn_e e) hm).1 ?_
  refine x_alen (pc' := 15) (N := 3) rfl rfl rfl (kMp (Cn_e e) hm).2.1 (?_ : X _ _ _ (.inl 3 :: _) _ _)
  refine x_icmp (a' := 27) (pc' := 18) (z := false) rfl rfl rfl (by decide) (fun h => by cases h) (fun _ => ?_)
  refine x_aload_n (pc' := 19) rfl rfl rfl rfl rfl ?_
  refine x_gR (pc' := 22) (r := (some (m + 1))) rfl rfl rfl (kMp (Cn_e e) hm).1 ?_
  refine x_iload_n (pc' := 23) rfl rfl rfl ?_
  refine x_iald (pc' := 24) (N := 3) (x := 0) rfl rfl rfl (kMp (Cn_e e) hm).2.1 (io_in (p := 1) (N := 3) (by decide) (by decide)) (Eq.trans (congrArg (sA t 20 (m + 1)) (nn_io (p := 1) (by decide))) (z_A_20_yy e _ _)) ?_
  refine x_goto (pc' := 28) rfl rfl ?_
  refine x_reti rfl rfl ?_
  refine sK_i (pc' := 49) rfl ?_
  refine x_istore (pc' := 51) (ls' := [_, _, _, _, _, _, _, _, _, _, _]) rfl rfl rfl rfl ?_
  refine x_iload (pc' := 53) rfl rfl rfl ?_
  refine x_aload_n (pc' := 54) rfl rfl rfl rfl rfl ?_
  refine x_ifnonnull (a' := 61) (pc' := 57) rfl rfl rfl rfl (fun i h => by cases h) (fun _ => ?_)
  refine x_iconst (pc' := 58) rfl rfl ?_
  refine x_goto (pc' := 67) rfl rfl ?_
  refine x_iadd (pc' := 68) (z := 0) rfl rfl (by decide) ?_
  refine x_istore (pc' := 70) (ls' := [_, _, _, _, _, _, _, _, _, _, _]) rfl rfl rfl rfl ?_
  refine x_iload (pc' := 72) rfl rfl rfl ?_
  refine x_iload (pc' := 74) rfl rfl rfl ?_
  refine x_aload_n (pc' := 75) rfl rfl rfl rfl rfl ?_
  refine x_iload (pc' := 77) rfl rfl rfl ?_
  refine x_aload (pc' := 79) rfl rfl rfl rfl rfl ?_
  refine x_gI (pc' := 82) (x := 1) rfl rfl rfl (z_I_128_1 e) ?_
  refine x_cv (ls0 := [_, _, _, sJk]) (rest := [_, _]) rfl rfl rfl rfl rfl ?_
  refine x_iload_n (pc' := 1) rfl rfl rfl ?_
  refine x_iconst (pc' := 2) rfl rfl ?_
  refine x_imul (pc' := 3) (z := 0) rfl rfl (by decide) ?_
  refine x_iload_n (pc' := 4) rfl rfl rfl ?_
  refine x_iadd (pc' := 5) (z := 1) rfl rfl (by decide) ?_
  refine x_istore_n (pc' := 6) (ls' := [_, _, _, _]) rfl rfl rfl rfl ?_
  refine x_iload_n (pc' := 7) rfl rfl rfl ?_
  refine x_if (a' := 28) (pc' := 10) (z := false) rfl rfl rfl (by decide) (fun h => by cases h) (fun _ => ?_)
  refine x_iload_n (pc' := 11) rfl rfl rfl ?_
  refine x_aload_n (pc' := 12) rfl rfl rfl rfl rfl ?_
  refine x_gR (pc' := 15) (r := (some 0)) rfl rfl rfl (z_R_323_0 e) ?_
  refine x_alen (pc' := 16) (N := 18) rfl rfl rfl (z_N_20_0 e) (?_ : X _ _ _ (.inl 18 :: _) _ _)
  refine x_icmp (a' := 28) (pc' := 19) (z := false) rfl rfl rfl (by decide) (fun h => by cases h) (fun _ => ?_)
  refine x_aload_n (pc' := 20) rfl rfl rfl rfl rfl ?_
  refine x_gR (pc' := 23) (r := (some 0)) rfl rfl rfl (z_R_323_0 e) ?_
  refine x_iload_n (pc' := 24) rfl rfl rfl ?_
  refine x_iald (pc' := 25) (N := 18) (x := 0) rfl rfl rfl (z_N_20_0 e) (io_in (p := 1) (N := 18) (by decide) (by decide)) (Eq.trans (congrArg (sA t 20 0) (nn_io (p := 1) (by decide))) (z_A_20_0_1 e)) ?_
  refine x_goto (pc' := 29) rfl rfl ?_
  refine x_reti rfl rfl ?_
  refine sK_i (pc' := 85) rfl ?_
  refine x_imul (pc' := 86) (z := 0) rfl rfl (by decide) ?_
  refine x_isub (pc' := 87) (z := 0) rfl rfl (by decide) ?_
  refine x_istore (pc' := 89) (ls' := [_, _, _, _, _, _, _, _, _, _, _]) rfl rfl rfl rfl ?_
  refine x_iinc (pc' := 92) (y := 2) (ls' := [_, _, _, _, _, _, _, _, _, _, _]) rfl rfl rfl rfl rfl ?_
  refine x_goto (pc' := 29) rfl rfl ?_
  refine x_iload (pc' := 31) rfl rfl rfl ?_
  refine x_iload (pc' := 33) rfl rfl rfl ?_
  refine x_icmp (a' := 95) (pc' := 36) (z := false) rfl rfl rfl (by decide) (fun h => by cases h) (fun _ => ?_)
  refine x_aload (pc' := 38) rfl rfl rfl rfl rfl ?_
  refine x_iload (pc' := 40) rfl rfl rfl ?_
  refine x_aald (pc' := 41) (N := 3) (k' := 2) (r := (some 2)) rfl rfl rfl (z_N_25_0 e) (io_in (p := 2) (N := 3) (by decide) (by decide)) (Eq.trans (congrArg (sE t 25 0) (nn_io (p := 2) (by decide))) (z_E_25_0_2 e)) ?_
  refine x_astore (pc' := 43) (ls' := [_, _, _, _, _, _, _, _, _, _, _]) rfl rfl rfl rfl rfl ?_
  refine x_aload_n (pc' := 44) rfl rfl rfl rfl rfl ?_
  refine x_aload (pc' := 46) rfl rfl rfl rfl rfl ?_
  refine x_cv (ls0 := [_, _, sJk]) (rest := []) rfl rfl rfl rfl rfl ?_
  refine x_aload_n (pc' := 1) rfl rfl rfl rfl rfl ?_
  refine x_gI (pc' := 4) (x := 2) rfl rfl rfl (z_I_128_2 e) ?_
  refine x_istore_n (pc' := 5) (ls' := [_, _, _]) rfl rfl rfl rfl ?_
  refine x_iload_n (pc' := 6) rfl rfl rfl ?_
  refine x_if (a' := 27) (pc' := 9) (z := false) rfl rfl rfl (by decide) (fun h => by cases h) (fun _ => ?_)
  refine x_iload_n (pc' := 10) rfl rfl rfl ?_
  refine x_aload_n (pc' := 11) rfl rfl rfl rfl rfl ?_
  refine x_gR (pc' := 14) (r := (some (m + 1))) rfl rfl rfl (kMp (Cn_e e) hm).1 ?_
  refine x_alen (pc' := 15) (N := 3) rfl rfl rfl (kMp (Cn_e e) hm).2.1 (?_ : X _ _ _ (.inl 3 :: _) _ _)
  refine x_icmp (a' := 27) (pc' := 18) (z := false) rfl rfl rfl (by decide) (fun h => by cases h) (fun _ => ?_)
  refine x_aload_n (pc' := 19) rfl rfl rfl rfl rfl ?_
  refine x_gR (pc' := 22) (r := (some (m + 1))) rfl rfl rfl (kMp (Cn_e e) hm).1 ?_
  refine x_iload_n (pc' := 23) rfl rfl rfl ?_
  refine x_iald (pc' := 24) (N := 3) (x := 0) rfl rfl rfl (kMp (Cn_e e) hm).2.1 (io_in (p := 2) (N := 3) (by decide) (by decide)) (Eq.trans (congrArg (sA t 20 (m + 1)) (nn_io (p := 2) (by decide))) (z_A_20_yy e _ _)) ?_
  refine x_goto (pc' := 28) rfl rfl ?_
  refine x_reti rfl rfl ?_
  refine sK_i (pc' := 49) rfl ?_
  refine x_istore (pc' := 51) (ls' := [_, _, _, _, _, _, _, _, _, _, _]) rfl rfl rfl rfl ?_
  refine x_iload (pc' := 53) rfl rfl rfl ?_
  refine x_aload_n (pc' := 54) rfl rfl rfl rfl rfl ?_
  refine x_ifnonnull (a' := 61) (pc' := 57) rfl rfl rfl rfl (fun i h => by cases h) (fun _ => ?_)
  refine x_iconst (pc' := 58) rfl rfl ?_
  refine x_goto (pc' := 67) rfl rfl ?_
  refine x_iadd (pc' := 68) (z := 0) rfl rfl (by decide) ?_
  refine x_istore (pc' := 70) (ls' := [_, _, _, _, _, _, _, _, _, _, _]) rfl rfl rfl rfl ?_
  refine x_iload (pc' := 72) rfl rfl rfl ?_
  refine x_iload (pc' := 74) rfl rfl rfl ?_
  refine x_aload_n (pc' := 75) rfl rfl rfl rfl rfl ?_
  refine x_iload (pc' := 77) rfl rfl rfl ?_
  refine x_aload (pc' := 79) rfl rfl rfl rfl rfl ?_
  refine x_gI (pc' := 82) (x := 2) rfl rfl rfl (z_I_128_2 e) ?_
  refine x_cv (ls0 := [_, _, _, sJk]) (rest := [_, _]) rfl rfl rfl rfl rfl ?_
  refine x_iload_n (pc' := 1) rfl rfl rfl ?_
  refine x_iconst (pc' := 2) rfl rfl ?_
  refine x_imul (pc' := 3) (z := 0) rfl rfl (by decide) ?_
  refine x_iload_n (pc' := 4) rfl rfl rfl ?_
  refine x_iadd (pc' := 5) (z := 2) rfl rfl (by decide) ?_
  refine x_istore_n (pc' := 6) (ls' := [_, _, _, _]) rfl rfl rfl rfl ?_
  refine x_iload_n (pc' := 7) rfl rfl rfl ?_
  refine x_if (a' := 28) (pc' := 10) (z := false) rfl rfl rfl (by decide) (fun h => by cases h) (fun _ => ?_)
  refine x_iload_n (pc' := 11) rfl rfl rfl ?_
  refine x_aload_n (pc' := 12) rfl rfl rfl rfl rfl ?_
  refine x_gR (pc' := 15) (r := (some 0)) rfl rfl rfl (z_R_323_0 e) ?_
  refine x_alen (pc' := 16) (N := 18) rfl rfl rfl (z_N_20_0 e) (?_ : X _ _ _ (.inl 18 :: _) _ _)
  refine x_icmp (a' := 28) (pc' := 19) (z := false) rfl rfl rfl (by decide) (fun h => by cases h) (fun _ => ?_)
  refine x_aload_n (pc' := 20) rfl rfl rfl rfl rfl ?_
  refine x_gR (pc' := 23) (r := (some 0)) rfl rfl rfl (z_R_323_0 e) ?_
  refine x_iload_n (pc' := 24) rfl rfl rfl ?_
  refine x_iald (pc' := 25) (N := 18) (x := 0) rfl rfl rfl (z_N_20_0 e) (io_in (p := 2) (N := 18) (by decide) (by decide)) (Eq.trans (congrArg (sA t 20 0) (nn_io (p := 2) (by decide))) (z_A_20_0_2 e)) ?_
  refine x_goto (pc' := 29) rfl rfl ?_
  refine x_reti rfl rfl ?_
  refine sK_i (pc' := 85) rfl ?_
  refine x_imul (pc' := 86) (z := 0) rfl rfl (by decide) ?_
  refine x_isub (pc' := 87) (z := 0) rfl rfl (by decide) ?_
  refine x_istore (pc' := 89) (ls' := [_, _, _, _, _, _, _, _, _, _, _]) rfl rfl rfl rfl ?_
  refine x_iinc (pc' := 92) (y := 3) (ls' := [_, _, _, _, _, _, _, _, _, _, _]) rfl rfl rfl rfl rfl ?_
  refine x_goto (pc' := 29) rfl rfl ?_
  refine x_iload (pc' := 31) rfl rfl rfl ?_
  refine x_iload (pc' := 33) rfl rfl rfl ?_
  refine x_icmp (a' := 95) (pc' := 36) (z := true) rfl rfl rfl (by decide) (fun _ => ?_) (fun h => by cases h)
  refine x_iload_n (pc' := 96) rfl rfl rfl ?_
  refine x_iload (pc' := 98) rfl rfl rfl ?_
  refine x_max (pc' := 101) (z := 0) rfl rfl rfl (by decide) ?_
  refine x_istore_n (pc' := 102) (ls' := [_, _, _, _, _, _, _, _, _, _, _]) rfl rfl rfl rfl ?_
  refine x_iinc (pc' := 105) (y := 1) (ls' := [_, _, _, _, _, _, _, _, _, _, _]) rfl rfl rfl rfl rfl ?_
  refine x_goto (pc' := 5) rfl rfl ?_
  refine x_iload (pc' := 7) rfl rfl rfl ?_
  refine x_bipush (pc' := 9) rfl rfl ?_
  refine x_icmp (a' := 108) (pc' := 12) (z := false) rfl rfl rfl (by decide) (fun h => by cases h) (fun _ => ?_)
  refine x_iconst (pc' := 13) rfl rfl ?_
  refine x_istore (pc' := 15) (ls' := [_, _, _, _, _, _, _, _, _, _, _]) rfl rfl rfl rfl ?_
  refine x_aload_n (pc' := 16) rfl rfl rfl rfl rfl ?_
  refine x_gR (pc' := 19) (r := (some 0)) rfl rfl rfl (z_R_320_0 e) ?_
  refine x_astore (pc' := 21) (ls' := [_, _, _, _, _, _, _, _, _, _, _]) rfl rfl rfl rfl rfl ?_
  refine x_aload (pc' := 23) rfl rfl rfl rfl rfl ?_
  refine x_alen (pc' := 24) (N := 3) rfl rfl rfl (z_N_25_0 e) (?_ : X _ _ _ (.inl 3 :: _) _ _)
  refine x_istore (pc' := 26) (ls' := [_, _, _, _, _, _, _, _, _, _, _]) rfl rfl rfl rfl ?_
  refine x_iconst (pc' := 27) rfl rfl ?_
  refine x_istore (pc' := 29) (ls' := [_, _, _, _, _, _, _, _, _, _, _]) rfl rfl rfl rfl ?_
  refine x_iload (pc' := 31) rfl rfl rfl ?_
  refine x_iload (pc' := 33) rfl rfl rfl ?_
  refine x_icmp (a' := 95) (pc' := 36) (z := false) rfl rfl rfl (by decide) (fun h => by cases h) (fun _ => ?_)
  refine x_aload (pc' := 38) rfl rfl rfl rfl rfl ?_
  refine x_iload (pc' := 40) rfl rfl rfl ?_
  refine x_aald (pc' := 41) (N := 3) (k' := 2) (r := (some 0)) rfl rfl rfl (z_N_25_0 e) (io_in (p := 0) (N := 3) (by decide) (by decide)) (Eq.trans (congrArg (sE t 25 0) (nn_io (p := 0) (by decide))) (z_E_25_0_0 e)) ?_
  refine x_astore (pc' := 43) (ls' := [_, _, _, _, _, _, _, _, _, _, _]) rfl rfl rfl rfl rfl ?_
  refine x_aload_n (pc' := 44) rfl rfl rfl rfl rfl ?_
  refine x_aload (pc' := 46) rfl rfl rfl rfl rfl ?_
  refine x_cv (ls0 := [_, _, sJk]) (rest := []) rfl rfl rfl rfl rfl ?_
  refine x_aload_n (pc' := 1) rfl rfl rfl rfl rfl ?_
  refine x_gI (pc' := 4) (x := 0) rfl rfl rfl (z_I_128_0 e) ?_
  refine x_istore_n (pc' := 5) (ls' := [_, _, _]) rfl rfl rfl rfl ?_
  refine x_iload_n (pc' := 6) rfl rfl rfl ?_
  refine x_if (a' := 27) (pc' := 9) (z := false) rfl rfl rfl (by decide) (fun h => by cases h) (fun _ => ?_)
  refine x_iload_n (pc' := 10) rfl rfl rfl ?_
  refine x_aload_n (pc' := 11) rfl rfl rfl rfl rfl ?_
  refine x_gR (pc' := 14) (r := (some (m + 1))) rfl rfl rfl (kMp (Cn_e e) hm).1 ?_
  refine x_alen (pc' := 15) (N := 3) rfl rfl rfl (kMp (Cn_e e) hm).2.1 (?_ : X _ _ _ (.inl 3 :: _) _ _)
  refine x_icmp (a' := 27) (pc' := 18) (z := false) rfl rfl rfl (by decide) (fun h => by cases h) (fun _ => ?_)
  refine x_aload_n (pc' := 19) rfl rfl rfl rfl rfl ?_
  refine x_gR (pc' := 22) (r := (some (m + 1))) rfl rfl rfl (kMp (Cn_e e) hm).1 ?_
  refine x_iload_n (pc' := 23) rfl rfl rfl ?_
  refine x_iald (pc' := 24) (N := 3) (x := 0) rfl rfl rfl (kMp (Cn_e e) hm).2.1 (io_in (p := 0) (N := 3) (by decide) (by decide)) (Eq.trans (congrArg (sA t 20 (m + 1)) (nn_io (p := 0) (by decide))) (z_A_20_yy e _ _)) ?_
  refine x_goto (pc' := 28) rfl rfl ?_
  refine x_reti rfl rfl ?_
  refine sK_i (pc' := 49) rfl ?_
  refine x_istore (pc' := 51) (ls' := [_, _, _, _, _, _, _, _, _, _, _]) rfl rfl rfl rfl ?_
  refine x_iload (pc' := 53) rfl rfl rfl ?_
  refine x_aload_n (pc' := 54) rfl rfl rfl rfl rfl ?_
  refine x_ifnonnull (a' := 61) (pc' := 57) rfl rfl rfl rfl (fun i h => by cases h) (fun _ => ?_)
  refine x_iconst (pc' := 58) rfl rfl ?_
  refine x_goto (pc' := 67) rfl rfl ?_
  refine x_iadd (pc' := 68) (z := 0) rfl rfl (by decide) ?_
  refine x_istore (pc' := 70) (ls' := [_, _, _, _, _, _, _, _, _, _, _]) rfl rfl rfl rfl ?_
  refine x_iload (pc' := 72) rfl rfl rfl ?_
  refine x_iload (pc' := 74) rfl rfl rfl ?_
  refine x_aload_n (pc' := 75) rfl rfl rfl rfl rfl ?_
  refine x_iload (pc' := 77) rfl rfl rfl ?_
  refine x_aload (pc' := 79) rfl rfl rfl rfl rfl ?_
  refine x_gI (pc' := 82) (x := 0) rfl rfl rfl (z_I_128_0 e) ?_
  refine x_cv (ls0 := [_, _, _, sJk]) (rest := [_, _]) rfl rfl rfl rfl rfl ?_
  refine x_iload_n (pc' := 1) rfl rfl rfl ?_
  refine x_iconst (pc' := 2) rfl rfl ?_
  refine x_imul (pc' := 3) (z := 3) rfl rfl (by decide) ?_
  refine x_iload_n (pc' := 4) rfl rfl rfl ?_
  refine x_iadd (pc' := 5) (z := 3) rfl rfl (by decide) ?_
  refine x_istore_n (pc' := 6) (ls' := [_, _, _, _]) rfl rfl rfl rfl ?_
  refine x_iload_n (pc' := 7) rfl rfl rfl ?_
  refine x_if (a' := 28) (pc' := 10) (z := false) rfl rfl rfl (by decide) (fun h => by cases h) (fun _ => ?_)
  refine x_iload_n (pc' := 11) rfl rfl rfl ?_
  refine x_aload_n (pc' := 12) rfl rfl rfl rfl rfl ?_
  refine x_gR (pc' := 15) (r := (some 0)) rfl rfl rfl (z_R_323_0 e) ?_
  refine x_alen (pc' := 16) (N := 18) rfl rfl rfl (z_N_20_0 e) (?_ : X _ _ _ (.inl 18 :: _) _ _)
  refine x_icmp (a' := 28) (pc' := 19) (z := false) rfl rfl rfl (by decide) (fun h => by cases h) (fun _ => ?_)
  refine x_aload_n (pc' := 20) rfl rfl rfl rfl rfl ?_
  refine x_gR (pc' := 23) (r := (some 0)) rfl rfl rfl (z_R_323_0 e) ?_
  refine x_iload_n (pc' := 24) rfl rfl rfl ?_
  refine x_iald (pc' := 25) (N := 18) (x := 0) rfl rfl rfl (z_N_20_0 e) (io_in (p := 3) (N := 18) (by decide) (by decide)) (Eq.trans (congrArg (sA t 20 0) (nn_io (p := 3) (by decide))) (z_A_20_0_3 e)) ?_
  refine x_goto (pc' := 29) rfl rfl ?_
  refine x_reti rfl rfl ?_
  refine sK_i (pc' := 85) rfl ?_
  refine x_imul (pc' := 86) (z := 0) rfl rfl (by decide) ?_
  refine x_isub (pc' := 87) (z := 0) rfl rfl (by decide) ?_
  refine x_istore (pc' := 89) (ls' := [_, _, _, _, _, _, _, _, _, _, _]) rfl rfl rfl rfl ?_
  refine x_iinc (pc' := 92) (y := 1) (ls' := [_, _, _, _, _, _, _, _, _, _, _]) rfl rfl rfl rfl rfl ?_
  refine x_goto (pc' := 29) rfl rfl ?_
  refine x_iload (pc' := 31) rfl rfl rfl ?_
  refine x_iload (pc' := 33) rfl rfl rfl ?_
  refine x_icmp (a' := 95) (pc' := 36) (z := false) rfl rfl rfl (by decide) (fun h => by cases h) (fun _ => ?_)
  refine x_aload (pc' := 38) rfl rfl rfl rfl rfl ?_
  refine x_iload (pc' := 40) rfl rfl rfl ?_
  refine x_aald (pc' := 41) (N := 3) (k' := 2) (r := (some 1)) rfl rfl rfl (z_N_25_0 e) (io_in (p := 1) (N := 3) (by decide) (by decide)) (Eq.trans (congrArg (sE t 25 0) (nn_io (p := 1) (by decide))) (z_E_25_0_1 e)) ?_
  refine x_astore (pc' := 43) (ls' := [_, _, _, _, _, _, _, _, _, _, _]) rfl rfl rfl rfl rfl ?_
  refine x_aload_n (pc' := 44) rfl rfl rfl rfl rfl ?_
  refine x_aload (pc' := 46) rfl rfl rfl rfl rfl ?_
  refine x_cv (ls0 := [_, _, sJk]) (rest := []) rfl rfl rfl rfl rfl ?_
  refine x_aload_n (pc' := 1) rfl rfl rfl rfl rfl ?_
  refine x_gI (pc' := 4) (x := 1) rfl rfl rfl (z_I_128_1 e) ?_
  refine x_istore_n (pc' := 5) (ls' := [_, _, _]) rfl rfl rfl rfl ?_
  refine x_iload_n (pc' := 6) rfl rfl rfl ?_
  refine x_if (a' := 27) (pc' := 9) (z := false) rfl rfl rfl (by decide) (fun h => by cases h) (fun _ => ?_)
  refine x_iload_n (pc' := 10) rfl rfl rfl ?_
  refine x_aload_n (pc' := 11) rfl rfl rfl rfl rfl ?_
  refine x_gR (pc' := 14) (r := (some (m + 1))) rfl rfl rfl (kMp (Cn_e e) hm).1 ?_
  refine x_alen (pc' := 15) (N := 3) rfl rfl rfl (kMp (Cn_e e) hm).2.1 (?_ : X _ _ _ (.inl 3 :: _) _ _)
  refine x_icmp (a' := 27) (pc' := 18) (z := false) rfl rfl rfl (by decide) (fun h => by cases h) (fun _ => ?_)
  refine x_aload_n (pc' := 19) rfl rfl rfl rfl rfl ?_
  refine x_gR (pc' := 22) (r := (some (m + 1))) rfl rfl rfl (kMp (Cn_e e) hm).1 ?_
  refine x_iload_n (pc' := 23) rfl rfl rfl ?_
  refine x_iald (pc' := 24) (N := 3) (x := 0) rfl rfl rfl (kMp (Cn_e e) hm).2.1 (io_in (p := 1) (N := 3) (by decide) (by decide)) (Eq.trans (congrArg (sA t 20 (m + 1)) (nn_io (p := 1) (by decide))) (z_A_20_yy e _ _)) ?_
  refine x_goto (pc' := 28) rfl rfl ?_
  refine x_reti rfl rfl ?_
  refine sK_i (pc' := 49) rfl ?_
  refine x_istore (pc' := 51) (ls' := [_, _, _, _, _, _, _, _, _, _, _]) rfl rfl rfl rfl ?_
  refine x_iload (pc' := 53) rfl rfl rfl ?_
  refine x_aload_n (pc' := 54) rfl rfl rfl rfl rfl ?_
  refine x_ifnonnull (a' := 61) (pc' := 57) rfl rfl rfl rfl (fun i h => by cases h) (fun _ => ?_)
  refine x_iconst (pc' := 58) rfl rfl ?_
  refine x_goto (pc' := 67) rfl rfl ?_
  refine x_iadd (pc' := 68) (z := 0) rfl rfl (by decide) ?_
  refine x_istore (pc' := 70) (ls' := [_, _, _, _, _, _, _, _, _, _, _]) rfl rfl rfl rfl ?_
  refine x_iload (pc' := 72) rfl rfl rfl ?_
  refine x_iload (pc' := 74) rfl rfl rfl ?_
  refine x_aload_n (pc' := 75) rfl rfl rfl rfl rfl ?_
  refine x_iload (pc' := 77) rfl rfl rfl ?_
  refine x_aload (pc' := 79) rfl rfl rfl rfl rfl ?_
  refine x_gI (pc' := 82) (x := 1) rfl rfl rfl (z_I_128_1 e) ?_
  refine x_cv (ls0 := [_, _, _, sJk]) (rest := [_, _]) rfl rfl rfl rfl rfl ?_
  refine x_iload_n (pc' := 1) rfl rfl rfl ?_
  refine x_iconst (pc' := 2) rfl rfl ?_
  refine x_imul (pc' := 3) (z := 3) rfl rfl (by decide) ?_
  refine x_iload_n (pc' := 4) rfl rfl rfl ?_
  refine x_iadd (pc' := 5) (z := 4) rfl rfl (by decide) ?_
  refine x_istore_n (pc' := 6) (ls' := [_, _, _, _]) rfl rfl rfl rfl ?_
  refine x_iload_n (pc' := 7) rfl rfl rfl ?_
  refine x_if (a' := 28) (pc' := 10) (z := false) rfl rfl rfl (by decide) (fun h => by cases h) (fun _ => ?_)
  refine x_iload_n (pc' := 11) rfl rfl rfl ?_
  refine x_aload_n (pc' := 12) rfl rfl rfl rfl rfl ?_
  refine x_gR (pc' := 15) (r := (some 0)) rfl rfl rfl (z_R_323_0 e) ?_
  refine x_alen (pc' := 16) (N := 18) rfl rfl rfl (z_N_20_0 e) (?_ : X _ _ _ (.inl 18 :: _) _ _)
  refine x_icmp (a' := 28) (pc' := 19) (z := false) rfl rfl rfl (by decide) (fun h => by cases h) (fun _ => ?_)
  refine x_aload_n (pc' := 20) rfl rfl rfl rfl rfl ?_
  refine x_gR (pc' := 23) (r := (some 0)) rfl rfl rfl (z_R_323_0 e) ?_
  refine x_iload_n (pc' := 24) rfl rfl rfl ?_
  refine x_iald (pc' := 25) (N := 18) (x := 0) rfl rfl rfl (z_N_20_0 e) (io_in (p := 4) (N := 18) (by decide) (by decide)) (Eq.trans (congrArg (sA t 20 0) (nn_io (p := 4) (by decide))) (z_A_20_0_4 e)) ?_
  refine x_goto (pc' := 29) rfl rfl ?_
  refine x_reti rfl rfl ?_
  refine sK_i (pc' := 85) rfl ?_
  refine x_imul (pc' := 86) (z := 0) rfl rfl (by decide) ?_
  refine x_isub (pc' := 87) (z := 0) rfl rfl (by decide) ?_
  refine x_istore (pc' := 89) (ls' := [_, _, _, _, _, _, _, _, _, _, _]) rfl rfl rfl rfl ?_
  refine x_iinc (pc' := 92) (y := 2) (ls' := [_, _, _, _, _, _, _, _, _, _, _]) rfl rfl rfl rfl rfl ?_
  refine x_goto (pc' := 29) rfl rfl ?_
  refine x_iload (pc' := 31) rfl rfl rfl ?_
  refine x_iload (pc' := 33) rfl rfl rfl ?_
  refine x_icmp (a' := 95) (pc' := 36) (z := false) rfl rfl rfl (by decide) (fun h => by cases h) (fun _ => ?_)
  refine x_aload (pc' := 38) rfl rfl rfl rfl rfl ?_
  refine x_iload (pc' := 40) rfl rfl rfl ?_
  refine x_aald (pc' := 41) (N := 3) (k' := 2) (r := (some 2)) rfl rfl rfl (z_N_25_0 e) (io_in (p := 2) (N := 3) (by decide) (by decide)) (Eq.trans (congrArg (sE t 25 0) (nn_io (p := 2) (by decide))) (z_E_25_0_2 e)) ?_
  refine x_astore (pc' := 43) (ls' := [_, _, _, _, _, _, _, _, _, _, _]) rfl rfl rfl rfl rfl ?_
  refine x_aload_n (pc' := 44) rfl rfl rfl rfl rfl ?_
  refine x_aload (pc' := 46) rfl rfl rfl rfl rfl ?_
  refine x_cv (ls0 := [_, _, sJk]) (rest := []) rfl rfl rfl rfl rfl ?_
  refine x_aload_n (pc' := 1) rfl rfl rfl rfl rfl ?_
  refine x_gI (pc' := 4) (x := 2) rfl rfl rfl (z_I_128_2 e) ?_
  refine x_istore_n (pc' := 5) (ls' := [_, _, _]) rfl rfl rfl rfl ?_
  refine x_iload_n (pc' := 6) rfl rfl rfl ?_
  refine x_if (a' := 27) (pc' := 9) (z := false) rfl rfl rfl (by decide) (fun h => by cases h) (fun _ => ?_)
  refine x_iload_n (pc' := 10) rfl rfl rfl ?_
  refine x_aload_n (pc' := 11) rfl rfl rfl rfl rfl ?_
  refine x_gR (pc' := 14) (r := (some (m + 1))) rfl rfl rfl (kMp (Cn_e e) hm).1 ?_
  refine x_alen (pc' := 15) (N := 3) rfl rfl rfl (kMp (Cn_e e) hm).2.1 (?_ : X _ _ _ (.inl 3 :: _) _ _)
  refine x_icmp (a' := 27) (pc' := 18) (z := false) rfl rfl rfl (by decide) (fun h => by cases h) (fun _ => ?_)
  refine x_aload_n (pc' := 19) rfl rfl rfl rfl rfl ?_
  refine x_gR (pc' := 22) (r := (some (m + 1))) rfl rfl rfl (kMp (Cn_e e) hm).1 ?_
  refine x_iload_n (pc' := 23) rfl rfl rfl ?_
  refine x_iald (pc' := 24) (N := 3) (x := 0) rfl rfl rfl (kMp (Cn_e e) hm).2.1 (io_in (p := 2) (N := 3) (by decide) (by decide)) (Eq.trans (congrArg (sA t 20 (m + 1)) (nn_io (p := 2) (by decide))) (z_A_20_yy e _ _)) ?_
  refine x_goto (pc' := 28) rfl rfl ?_
  refine x_reti rfl rfl ?_
  refine sK_i (pc' := 49) rfl ?_
  refine x_istore (pc' := 51) (ls' := [_, _, _, _, _, _, _, _, _, _, _]) rfl rfl rfl rfl ?_
  refine x_iload (pc' := 53) rfl rfl rfl ?_
  refine x_aload_n (pc' := 54) rfl rfl rfl rfl rfl ?_
  refine x_ifnonnull (a' := 61) (pc' := 57) rfl rfl rfl rfl (fun i h => by cases h) (fun _ => ?_)
  refine x_iconst (pc' := 58) rfl rfl ?_
  refine x_goto (pc' := 67) rfl rfl ?_
  refine x_iadd (pc' := 68) (z := 0) rfl rfl (by decide) ?_
  refine x_istore (pc' := 70) (ls' := [_, _, _, _, _, _, _, _, _, _, _]) rfl rfl rfl rfl ?_
  refine x_iload (pc' := 72) rfl rfl rfl ?_
  refine x_iload (pc' := 74) rfl rfl rfl ?_
  refine x_aload_n (pc' := 75) rfl rfl rfl rfl rfl ?_
  refine x_iload (pc' := 77) rfl rfl rfl ?_
  refine x_aload (pc' := 79) rfl rfl rfl rfl rfl ?_
  refine x_gI (pc' := 82) (x := 2) rfl rfl rfl (z_I_128_2 e) ?_
  refine x_cv (ls0 := [_, _, _, sJk]) (rest := [_, _]) rfl rfl rfl rfl rfl ?_
  refine x_iload_n (pc' := 1) rfl rfl rfl ?_
  refine x_iconst (pc' := 2) rfl rfl ?_
  refine x_imul (pc' := 3) (z := 3) rfl rfl (by decide) ?_
  refine x_iload_n (pc' := 4) rfl rfl rfl ?_
  refine x_iadd (pc' := 5) (z := 5) rfl rfl (by decide) ?_
  refine x_istore_n (pc' := 6) (ls' := [_, _, _, _]) rfl rfl rfl rfl ?_
  refine x_iload_n (pc' := 7) rfl rfl rfl ?_
  refine x_if (a' := 28) (pc' := 10) (z := false) rfl rfl rfl (by decide) (fun h => by cases h) (fun _ => ?_)
  refine x_iload_n (pc' := 11) rfl rfl rfl ?_
  refine x_aload_n (pc' := 12) rfl rfl rfl rfl rfl ?_
  refine x_gR (pc' := 15) (r := (some 0)) rfl rfl rfl (z_R_323_0 e) ?_
  refine x_alen (pc' := 16) (N := 18) rfl rfl rfl (z_N_20_0 e) (?_ : X _ _ _ (.inl 18 :: _) _ _)
  refine x_icmp (a' := 28) (pc' := 19) (z := false) rfl rfl rfl (by decide) (fun h => by cases h) (fun _ => ?_)
  refine x_aload_n (pc' := 20) rfl rfl rfl rfl rfl ?_
  refine x_gR (pc' := 23) (r := (some 0)) rfl rfl rfl (z_R_323_0 e) ?_
  refine x_iload_n (pc' := 24) rfl rfl rfl ?_
  refine x_iald (pc' := 25) (N := 18) (x := 0) rfl rfl rfl (z_N_20_0 e) (io_in (p := 5) (N := 18) (by decide) (by decide)) (Eq.trans (congrArg (sA t 20 0) (nn_io (p := 5) (by decide))) (z_A_20_0_5 e)) ?_
  refine x_goto (pc' := 29) rfl rfl ?_
  refine x_reti rfl rfl ?_
  refine sK_i (pc' := 85) rfl ?_
  refine x_imul (pc' := 86) (z := 0) rfl rfl (by decide) ?_
  refine x_isub (pc' := 87) (z := 0) rfl rfl (by decide) ?_
  refine x_istore (pc' := 89) (ls' := [_, _, _, _, _, _, _, _, _, _, _]) rfl rfl rfl rfl ?_
  refine x_iinc (pc' := 92) (y := 3) (ls' := [_, _, _, _, _, _, _, _, _, _, _]) rfl rfl rfl rfl rfl ?_
  refine x_goto (pc' := 29) rfl rfl ?_
  refine x_iload (pc' := 31) rfl rfl rfl ?_
  refine x_iload (pc' := 33) rfl rfl rfl ?_
  refine x_icmp (a' := 95) (pc' := 36) (z := true) rfl rfl rfl (by decide) (fun _ => ?_) (fun h => by cases h)
  refine x_iload_n (pc' := 96) rfl rfl rfl ?_
  refine x_iload (pc' := 98) rfl rfl rfl ?_
  refine x_max (pc' := 101) (z := 0) rfl rfl rfl (by decide) ?_
  refine x_istore_n (pc' := 102) (ls' := [_, _, _, _, _, _, _, _, _, _, _]) rfl rfl rfl rfl ?_
  refine x_iinc (pc' := 105) (y := 2) (ls' := [_, _, _, _, _, _, _, _, _, _, _]) rfl rfl rfl rfl rfl ?_
  refine x_goto (pc' := 5) rfl rfl ?_
  refine x_iload (pc' := 7) rfl rfl rfl ?_
  refine x_bipush (pc' := 9) rfl rfl ?_
  refine x_icmp (a' := 108) (pc' := 12) (z := false) rfl rfl rfl (by decide) (fun h => by cases h) (fun _ => ?_)
  refine x_iconst (pc' := 13) rfl rfl ?_
  refine x_istore (pc' := 15) (ls' := [_, _, _, _, _, _, _, _, _, _, _]) rfl rfl rfl rfl ?_
  refine x_aload_n (pc' := 16) rfl rfl rfl rfl rfl ?_
  refine x_gR (pc' := 19) (r := (some 0)) rfl rfl rfl (z_R_320_0 e) ?_
  refine x_astore (pc' := 21) (ls' := [_, _, _, _, _, _, _, _, _, _, _]) rfl rfl rfl rfl rfl ?_
  refine x_aload (pc' := 23) rfl rfl rfl rfl rfl ?_
  refine x_alen (pc' := 24) (N := 3) rfl rfl rfl (z_N_25_0 e) (?_ : X _ _ _ (.inl 3 :: _) _ _)
  refine x_istore (pc' := 26) (ls' := [_, _, _, _, _, _, _, _, _, _, _]) rfl rfl rfl rfl ?_
  refine x_iconst (pc' := 27) rfl rfl ?_
  refine x_istore (pc' := 29) (ls' := [_, _, _, _, _, _, _, _, _, _, _]) rfl rfl rfl rfl ?_
  refine x_iload (pc' := 31) rfl rfl rfl ?_
  refine x_iload (pc' := 33) rfl rfl rfl ?_
  refine x_icmp (a' := 95) (pc' := 36) (z := false) rfl rfl rfl (by decide) (fun h => by cases h) (fun _ => ?_)
  refine x_aload (pc' := 38) rfl rfl rfl rfl rfl ?_
  refine x_iload (pc' := 40) rfl rfl rfl ?_
  refine x_aald (pc' := 41) (N := 3) (k' := 2) (r := (some 0)) rfl rfl rfl (z_N_25_0 e) (io_in (p := 0) (N := 3) (by decide) (by decide)) (Eq.trans (congrArg (sE t 25 0) (nn_io (p := 0) (by decide))) (z_E_25_0_0 e)) ?_
  refine x_astore (pc' := 43) (ls' := [_, _, _, _, _, _, _, _, _, _, _]) rfl rfl rfl rfl rfl ?_
  refine x_aload_n (pc' := 44) rfl rfl rfl rfl rfl ?_
  refine x_aload (pc' := 46) rfl rfl rfl rfl rfl ?_
  refine x_cv (ls0 := [_, _, sJk]) (rest := []) rfl rfl rfl rfl rfl ?_
  refine x_aload_n (pc' := 1) rfl rfl rfl rfl rfl ?_
  refine x_gI (pc' := 4) (x := 0) rfl rfl rfl (z_I_128_0 e) ?_
  refine x_istore_n (pc' := 5) (ls' := [_, _, _]) rfl rfl rfl rfl ?_
  refine x_iload_n (pc' := 6) rfl rfl rfl ?_
  refine x_if (a' := 27) (pc' := 9) (z := false) rfl rfl rfl (by decide) (fun h => by cases h) (fun _ => ?_)
  refine x_iload_n (pc' := 10) rfl rfl rfl ?_
  refine x_aload_n (pc' := 11) rfl rfl rfl rfl rfl ?_
  refine x_gR (pc' := 14) (r := (some (m + 1))) rfl rfl rfl (kMp (Cn_e e) hm).1 ?_
  refine x_alen (pc' := 15) (N := 3) rfl rfl rfl (kMp (Cn_e e) hm).2.1 (?_ : X _ _ _ (.inl 3 :: _) _ _)
  refine x_icmp (a' := 27) (pc' := 18) (z := false) rfl rfl rfl (by decide) (fun h => by cases h) (fun _ => ?_)
  refine x_aload_n (pc' := 19) rfl rfl rfl rfl rfl ?_
  refine x_gR (pc' := 22) (r := (some (m + 1))) rfl rfl rfl (kMp (Cn_e e) hm).1 ?_
  refine x_iload_n (pc' := 23) rfl rfl rfl ?_
  refine x_iald (pc' := 24) (N := 3) (x := 0) rfl rfl rfl (kMp (Cn_e e) hm).2.1 (io_in (p := 0) (N := 3) (by decide) (by decide)) (Eq.trans (congrArg (sA t 20 (m + 1)) (nn_io (p := 0) (by decide))) (z_A_20_yy e _ _)) ?_
  refine x_goto (pc' := 28) rfl rfl ?_
  refine x_reti rfl rfl ?_
  refine sK_i (pc' := 49) rfl ?_
  refine x_istore (pc' := 51) (ls' := [_, _, _, _, _, _, _, _, _, _, _]) rfl rfl rfl rfl ?_
  refine x_iload (pc' := 53) rfl rfl rfl ?_
  refine x_aload_n (pc' := 54) rfl rfl rfl rfl rfl ?_
  refine x_ifnonnull (a' := 61) (pc' := 57) rfl rfl rfl rfl (fun i h => by cases h) (fun _ => ?_)
  refine x_iconst (pc' := 58) rfl rfl ?_
  refine x_goto (pc' := 67) rfl rfl ?_
  refine x_iadd (pc' := 68) (z := 0) rfl rfl (by decide) ?_
  refine x_istore (pc' := 70) (ls' := [_, _, _, _, _, _, _, _, _, _, _]) rfl rfl rfl rfl ?_
  refine x_iload (pc' := 72) rfl rfl rfl ?_
  refine x_iload (pc' := 74) rfl rfl rfl ?_
  refine x_aload_n (pc' := 75) rfl rfl rfl rfl rfl ?_
  refine x_iload (pc' := 77) rfl rfl rfl ?_
  refine x_aload (pc' := 79) rfl rfl rfl rfl rfl ?_
  refine x_gI (pc' := 82) (x := 0) rfl rfl rfl (z_I_128_0 e) ?_
  refine x_cv (ls0 := [_, _, _, sJk]) (rest := [_, _]) rfl rfl rfl rfl rfl ?_
  refine x_iload_n (pc' := 1) rfl rfl rfl ?_
  refine x_iconst (pc' := 2) rfl rfl ?_
  refine x_imul (pc' := 3) (z := 6) rfl rfl (by decide) ?_
  refine x_iload_n (pc' := 4) rfl rfl rfl ?_
  refine x_iadd (pc' := 5) (z := 6) rfl rfl (by decide) ?_
  refine x_istore_n (pc' := 6) (ls' := [_, _, _, _]) rfl rfl rfl rfl ?_
  refine x_iload_n (pc' := 7) rfl rfl rfl ?_
  refine x_if (a' := 28) (pc' := 10) (z := false) rfl rfl rfl (by decide) (fun h => by cases h) (fun _ => ?_)
  refine x_iload_n (pc' := 11) rfl rfl rfl ?_
  refine x_aload_n (pc' := 12) rfl rfl rfl rfl rfl ?_
  refine x_gR (pc' := 15) (r := (some 0)) rfl rfl rfl (z_R_323_0 e) ?_
  refine x_alen (pc' := 16) (N := 18) rfl rfl rfl (z_N_20_0 e) (?_ : X _ _ _ (.inl 18 :: _) _ _)
  refine x_icmp (a' := 28) (pc' := 19) (z := false) rfl rfl rfl (by decide) (fun h => by cases h) (fun _ => ?_)
  refine x_aload_n (pc' := 20) rfl rfl rfl rfl rfl ?_
  refine x_gR (pc' := 23) (r := (some 0)) rfl rfl rfl (z_R_323_0 e) ?_
  refine x_iload_n (pc' := 24) rfl rfl rfl ?_
  refine x_iald (pc' := 25) (N := 18) (x := 0) rfl rfl rfl (z_N_20_0 e) (io_in (p := 6) (N := 18) (by decide) (by decide)) (Eq.trans (congrArg (sA t 20 0) (nn_io (p := 6) (by decide))) (z_A_20_0_6 e)) ?_
  refine x_goto (pc' := 29) rfl rfl ?_
  refine x_reti rfl rfl ?_
  refine sK_i (pc' := 85) rfl ?_
  refine x_imul (pc' := 86) (z := 0) rfl rfl (by decide) ?_
  refine x_isub (pc' := 87) (z := 0) rfl rfl (by decide) ?_
  refine x_istore (pc' := 89) (ls' := [_, _, _, _, _, _, _, _, _, _, _]) rfl rfl rfl rfl ?_
  refine x_iinc (pc' := 92) (y := 1) (ls' := [_, _, _, _, _, _, _, _, _, _, _]) rfl rfl rfl rfl rfl ?_
  refine x_goto (pc' := 29) rfl rfl ?_
  refine x_iload (pc' := 31) rfl rfl rfl ?_
  refine x_iload (pc' := 33) rfl rfl rfl ?_
  refine x_icmp (a' := 95) (pc' := 36) (z := false) rfl rfl rfl (by decide) (fun h => by cases h) (fun _ => ?_)
  refine x_aload (pc' := 38) rfl rfl rfl rfl rfl ?_
  refine x_iload (pc' := 40) rfl rfl rfl ?_
  refine x_aald (pc' := 41) (N := 3) (k' := 2) (r := (some 1)) rfl rfl rfl (z_N_25_0 e) (io_in (p := 1) (N := 3) (by decide) (by decide)) (Eq.trans (congrArg (sE t 25 0) (nn_io (p := 1) (by decide))) (z_E_25_0_1 e)) ?_
  refine x_astore (pc' := 43) (ls' := [_, _, _, _, _, _, _, _, _, _, _]) rfl rfl rfl rfl rfl ?_
  refine x_aload_n (pc' := 44) rfl rfl rfl rfl rfl ?_
  refine x_aload (pc' := 46) rfl rfl rfl rfl rfl ?_
  refine x_cv (ls0 := [_, _, sJk]) (rest := []) rfl rfl rfl rfl rfl ?_
  refine x_aload_n (pc' := 1) rfl rfl rfl rfl rfl ?_
  refine x_gI (pc' := 4) (x := 1) rfl rfl rfl (z_I_128_1 e) ?_
  refine x_istore_n (pc' := 5) (ls' := [_, _, _]) rfl rfl rfl rfl ?_
  refine x_iload_n (pc' := 6) rfl rfl rfl ?_
  refine x_if (a' := 27) (pc' := 9) (z := false) rfl rfl rfl (by decide) (fun h => by cases h) (fun _ => ?_)
  refine x_iload_n (pc' := 10) rfl rfl rfl ?_
  refine x_aload_n (pc' := 11) rfl rfl rfl rfl rfl ?_
  refine x_gR (pc' := 14) (r := (some (m + 1))) rfl rfl rfl (kMp (Cn_e e) hm).1 ?_
  refine x_alen (pc' := 15) (N := 3) rfl rfl rfl (kMp (Cn_e e) hm).2.1 (?_ : X _ _ _ (.inl 3 :: _) _ _)
  refine x_icmp (a' := 27) (pc' := 18) (z := false) rfl rfl rfl (by decide) (fun h => by cases h) (fun _ => ?_)
  refine x_aload_n (pc' := 19) rfl rfl rfl rfl rfl ?_
  refine x_gR (pc' := 22) (r := (some (m + 1))) rfl rfl rfl (kMp (Cn_e e) hm).1 ?_
  refine x_iload_n (pc' := 23) rfl rfl rfl ?_
  refine x_iald (pc' := 24) (N := 3) (x := 0) rfl rfl rfl (kMp (Cn_e e) hm).2.1 (io_in (p := 1) (N := 3) (by decide) (by decide)) (Eq.trans (congrArg (sA t 20 (m + 1)) (nn_io (p := 1) (by decide))) (z_A_20_yy e _ _)) ?_
  refine x_goto (pc' := 28) rfl rfl ?_
  refine x_reti rfl rfl ?_
  refine sK_i (pc' := 49) rfl ?_
  refine x_istore (pc' := 51) (ls' := [_, _, _, _, _, _, _, _, _, _, _]) rfl rfl rfl rfl ?_
  refine x_iload (pc' := 53) rfl rfl rfl ?_
  refine x_aload_n (pc' := 54) rfl rfl rfl rfl rfl ?_
  refine x_ifnonnull (a' := 61) (pc' := 57) rfl rfl rfl rfl (fun i h => by cases h) (fun _ => ?_)
  refine x_iconst (pc' := 58) rfl rfl ?_
  refine x_goto (pc' := 67) rfl rfl ?_
  refine x_iadd (pc' := 68) (z := 0) rfl rfl (by decide) ?_
  refine x_istore (pc' := 70) (ls' := [_, _, _, _, _, _, _, _, _, _, _]) rfl rfl rfl rfl ?_
  refine x_iload (pc' := 72) rfl rfl rfl ?_
  refine x_iload (pc' := 74) rfl rfl rfl ?_
  refine x_aload_n (pc' := 75) rfl rfl rfl rfl rfl ?_
  refine x_iload (pc' := 77) rfl rfl rfl ?_
  refine x_aload (pc' := 79) rfl rfl rfl rfl rfl ?_
  refine x_gI (pc' := 82) (x := 1) rfl rfl rfl (z_I_128_1 e) ?_
  refine x_cv (ls0 := [_, _, _, sJk]) (rest := [_, _]) rfl rfl rfl rfl rfl ?_
  refine x_iload_n (pc' := 1) rfl rfl rfl ?_
  refine x_iconst (pc' := 2) rfl rfl ?_
  refine x_imul (pc' := 3) (z := 6) rfl rfl (by decide) ?_
  refine x_iload_n (pc' := 4) rfl rfl rfl ?_
  refine x_iadd (pc' := 5) (z := 7) rfl rfl (by decide) ?_
  refine x_istore_n (pc' := 6) (ls' := [_, _, _, _]) rfl rfl rfl rfl ?_
  refine x_iload_n (pc' := 7) rfl rfl rfl ?_
  refine x_if (a' := 28) (pc' := 10) (z := false) rfl rfl rfl (by decide) (fun h => by cases h) (fun _ => ?_)
  refine x_iload_n (pc' := 11) rfl rfl rfl ?_
  refine x_aload_n (pc' := 12) rfl rfl rfl rfl rfl ?_
  refine x_gR (pc' := 15) (r := (some 0)) rfl rfl rfl (z_R_323_0 e) ?_
  refine x_alen (pc' := 16) (N := 18) rfl rfl rfl (z_N_20_0 e) (?_ : X _ _ _ (.inl 18 :: _) _ _)
  refine x_icmp (a' := 28) (pc' := 19) (z := false) rfl rfl rfl (by decide) (fun h => by cases h) (fun _ => ?_)
  refine x_aload_n (pc' := 20) rfl rfl rfl rfl rfl ?_
  refine x_gR (pc' := 23) (r := (some 0)) rfl rfl rfl (z_R_323_0 e) ?_
  refine x_iload_n (pc' := 24) rfl rfl rfl ?_
  refine x_iald (pc' := 25) (N := 18) (x := 0) rfl rfl rfl (z_N_20_0 e) (io_in (p := 7) (N := 18) (by decide) (by decide)) (Eq.trans (congrArg (sA t 20 0) (nn_io (p := 7) (by decide))) (z_A_20_0_7 e)) ?_
  refine x_goto (pc' := 29) rfl rfl ?_
  refine x_reti rfl rfl ?_
  refine sK_i (pc' := 85) rfl ?_
  refine x_imul (pc' := 86) (z := 0) rfl rfl (by decide) ?_
  refine x_isub (pc' := 87) (z := 0) rfl rfl (by decide) ?_
  refine x_istore (pc' := 89) (ls' := [_, _, _, _, _, _, _, _, _, _, _]) rfl rfl rfl rfl ?_
  refine x_iinc (pc' := 92) (y := 2) (ls' := [_, _, _, _, _, _, _, _, _, _, _]) rfl rfl rfl rfl rfl ?_
  refine x_goto (pc' := 29) rfl rfl ?_
  refine x_iload (pc' := 31) rfl rfl rfl ?_
  refine x_iload (pc' := 33) rfl rfl rfl ?_
  refine x_icmp (a' := 95) (pc' := 36) (z := false) rfl rfl rfl (by decide) (fun h => by cases h) (fun _ => ?_)
  refine x_aload (pc' := 38) rfl rfl rfl rfl rfl ?_
  refine x_iload (pc' := 40) rfl rfl rfl ?_
  refine x_aald (pc' := 41) (N := 3) (k' := 2) (r := (some 2)) rfl rfl rfl (z_N_25_0 e) (io_in (p := 2) (N := 3) (by decide) (by decide)) (Eq.trans (congrArg (sE t 25 0) (nn_io (p := 2) (by decide))) (z_E_25_0_2 e)) ?_
  refine x_astore (pc' := 43) (ls' := [_, _, _, _, _, _, _, _, _, _, _]) rfl rfl rfl rfl rfl ?_
  refine x_aload_n (pc' := 44) rfl rfl rfl rfl rfl ?_
  refine x_aload (pc' := 46) rfl rfl rfl rfl rfl ?_
  refine x_cv (ls0 := [_, _, sJk]) (rest := []) rfl rfl rfl rfl rfl ?_
  refine x_aload_n (pc' := 1) rfl rfl rfl rfl rfl ?_
  refine x_gI (pc' := 4) (x := 2) rfl rfl rfl (z_I_128_2 e) ?_
  refine x_istore_n (pc' := 5) (ls' := [_, _, _]) rfl rfl rfl rfl ?_
  refine x_iload_n (pc' := 6) rfl rfl rfl ?_
  refine x_if (a' := 27) (pc' := 9) (z := false) rfl rfl rfl (by decide) (fun h => by cases h) (fun _ => ?_)
  refine x_iload_n (pc' := 10) rfl rfl rfl ?_
  refine x_aload_n (pc' := 11) rfl rfl rfl rfl rfl ?_
  refine x_gR (pc' := 14) (r := (some (m + 1))) rfl rfl rfl (kMp (Cn_e e) hm).1 ?_
  refine x_alen (pc' := 15) (N := 3) rfl rfl rfl (kMp (Cn_e e) hm).2.1 (?_ : X _ _ _ (.inl 3 :: _) _ _)
  refine x_icmp (a' := 27) (pc' := 18) (z := false) rfl rfl rfl (by decide) (fun h => by cases h) (fun _ => ?_)
  refine x_aload_n (pc' := 19) rfl rfl rfl rfl rfl ?_
  refine x_gR (pc' := 22) (r := (some (m + 1))) rfl rfl rfl (kMp (Cn_e e) hm).1 ?_
  refine x_iload_n (pc' := 23) rfl rfl rfl ?_
  refine x_iald (pc' := 24) (N := 3) (x := 0) rfl rfl rfl (kMp (Cn_e e) hm).2.1 (io_in (p := 2) (N := 3) (by decide) (by decide)) (Eq.trans (congrArg (sA t 20 (m + 1)) (nn_io (p := 2) (by decide))) (z_A_20_yy e _ _)) ?_
  refine x_goto (pc' := 28) rfl rfl ?_
  refine x_reti rfl rfl ?_
  refine sK_i (pc' := 49) rfl ?_
  refine x_istore (pc' := 51) (ls' := [_, _, _, _, _, _, _, _, _, _, _]) rfl rfl rfl rfl ?_
  refine x_iload (pc' := 53) rfl rfl rfl ?_
  refine x_aload_n (pc' := 54) rfl rfl rfl rfl rfl ?_
  refine x_ifnonnull (a' := 61) (pc' := 57) rfl rfl rfl rfl (fun i h => by cases h) (fun _ => ?_)
  refine x_iconst (pc' := 58) rfl rfl ?_
  refine x_goto (pc' := 67) rfl rfl ?_
  refine x_iadd (pc' := 68) (z := 0) rfl rfl (by decide) ?_
  refine x_istore (pc' := 70) (ls' := [_, _, _, _, _, _, _, _, _, _, _]) rfl rfl rfl rfl ?_
  refine x_iload (pc' := 72) rfl rfl rfl ?_
  refine x_iload (pc' := 74) rfl rfl rfl ?_
  refine x_aload_n (pc' := 75) rfl rfl rfl rfl rfl ?_
  refine x_iload (pc' := 77) rfl rfl rfl ?_
  refine x_aload (pc' := 79) rfl rfl rfl rfl rfl ?_
  refine x_gI (pc' := 82) (x := 2) rfl rfl rfl (z_I_128_2 e) ?_
  refine x_cv (ls0 := [_, _, _, sJk]) (rest := [_, _]) rfl rfl rfl rfl rfl ?_
  refine x_iload_n (pc' := 1) rfl rfl rfl ?_
  refine x_iconst (pc' := 2) rfl rfl ?_
  refine x_imul (pc' := 3) (z := 6) rfl rfl (by decide) ?_
  refine x_iload_n (pc' := 4) rfl rfl rfl ?_
  refine x_iadd (pc' := 5) (z := 8) rfl rfl (by decide) ?_
  refine x_istore_n (pc' := 6) (ls' := [_, _, _, _]) rfl rfl rfl rfl ?_
  refine x_iload_n (pc' := 7) rfl rfl rfl ?_
  refine x_if (a' := 28) (pc' := 10) (z := false) rfl rfl rfl (by decide) (fun h => by cases h) (fun _ => ?_)
  refine x_iload_n (pc' := 11) rfl rfl rfl ?_
  refine x_aload_n (pc' := 12) rfl rfl rfl rfl rfl ?_
  refine x_gR (pc' := 15) (r := (some 0)) rfl rfl rfl (z_R_323_0 e) ?_
  refine x_alen (pc' := 16) (N := 18) rfl rfl rfl (z_N_20_0 e) (?_ : X _ _ _ (.inl 18 :: _) _ _)
  refine x_icmp (a' := 28) (pc' := 19) (z := false) rfl rfl rfl (by decide) (fun h => by cases h) (fun _ => ?_)
  refine x_aload_n (pc' := 20) rfl rfl rfl rfl rfl ?_
  refine x_gR (pc' := 23) (r := (some 0)) rfl rfl rfl (z_R_323_0 e) ?_
  refine x_iload_n (pc' := 24) rfl rfl rfl ?_
  refine x_iald (pc' := 25) (N := 18) (x := 0) rfl rfl rfl (z_N_20_0 e) (io_in (p := 8) (N := 18) (by decide) (by decide)) (Eq.trans (congrArg (sA t 20 0) (nn_io (p := 8) (by decide))) (z_A_20_0_8 e)) ?_
  refine x_goto (pc' := 29) rfl rfl ?_
  refine x_reti rfl rfl ?_
  refine sK_i (pc' := 85) rfl ?_
  refine x_imul (pc' := 86) (z := 0) rfl rfl (by decide) ?_
  refine x_isub (pc' := 87) (z := 0) rfl rfl (by decide) ?_
  refine x_istore (pc' := 89) (ls' := [_, _, _, _, _, _, _, _, _, _, _]) rfl rfl rfl rfl ?_
  refine x_iinc (pc' := 92) (y := 3) (ls' := [_, _, _, _, _, _, _, _, _, _, _]) rfl rfl rfl rfl rfl ?_
  refine x_goto (pc' := 29) rfl rfl ?_
  refine x_iload (pc' := 31) rfl rfl rfl ?_
  refine x_iload (pc' := 33) rfl rfl rfl ?_
  refine x_icmp (a' := 95) (pc' := 36) (z := true) rfl rfl rfl (by decide) (fun _ => ?_) (fun h => by cases h)
  refine x_iload_n (pc' := 96) rfl rfl rfl ?_
  refine x_iload (pc' := 98) rfl rfl rfl ?_
  refine x_max (pc' := 101) (z := 0) rfl rfl rfl (by decide) ?_
  refine x_istore_n (pc' := 102) (ls' := [_, _, _, _, _, _, _, _, _, _, _]) rfl rfl rfl rfl ?_
  refine x_iinc (pc' := 105) (y := 3) (ls' := [_, _, _, _, _, _, _, _, _, _, _]) rfl rfl rfl rfl rfl ?_
  refine x_goto (pc' := 5) rfl rfl ?_
  refine x_iload (pc' := 7) rfl rfl rfl ?_
  refine x_bipush (pc' := 9) rfl rfl ?_
  refine x_icmp (a' := 108) (pc' := 12) (z := false) rfl rfl rfl (by decide) (fun h => by cases h) (fun _ => ?_)
  refine x_iconst (pc' := 13) rfl rfl ?_
  refine x_istore (pc' := 15) (ls' := [_, _, _, _, _, _, _, _, _, _, _]) rfl rfl rfl rfl ?_
  refine x_aload_n (pc' := 16) rfl rfl rfl rfl rfl ?_
  refine x_gR (pc' := 19) (r := (some 0)) rfl rfl rfl (z_R_320_0 e) ?_
  refine x_astore (pc' := 21) (ls' := [_, _, _, _, _, _, _, _, _, _, _]) rfl rfl rfl rfl rfl ?_
  refine x_aload (pc' := 23) rfl rfl rfl rfl rfl ?_
  refine x_alen (pc' := 24) (N := 3) rfl rfl rfl (z_N_25_0 e) (?_ : X _ _ _ (.inl 3 :: _) _ _)
  refine x_istore (pc' := 26) (ls' := [_, _, _, _, _, _, _, _, _, _, _]) rfl rfl rfl rfl ?_
  refine x_iconst (pc' := 27) rfl rfl ?_
  refine x_istore (pc' := 29) (ls' := [_, _, _, _, _, _, _, _, _, _, _]) rfl rfl rfl rfl ?_
  refine x_iload (pc' := 31) rfl rfl rfl ?_
  refine x_iload (pc' := 33) rfl rfl rfl ?_
  refine x_icmp (a' := 95) (pc' := 36) (z := false) rfl rfl rfl (by decide) (fun h => by cases h) (fun _ => ?_)
  refine x_aload (pc' := 38) rfl rfl rfl rfl rfl ?_
  refine x_iload (pc' := 40) rfl rfl rfl ?_
  refine x_aald (pc' := 41) (N := 3) (k' := 2) (r := (some 0)) rfl rfl rfl (z_N_25_0 e) (io_in (p := 0) (N := 3) (by decide) (by decide)) (Eq.trans (congrArg (sE t 25 0) (nn_io (p := 0) (by decide))) (z_E_25_0_0 e)) ?_
  refine x_astore (pc' := 43) (ls' := [_, _, _, _, _, _, _, _, _, _, _]) rfl rfl rfl rfl rfl ?_
  refine x_aload_n (pc' := 44) rfl rfl rfl rfl rfl ?_
  refine x_aload (pc' := 46) rfl rfl rfl rfl rfl ?_
  refine x_cv (ls0 := [_, _, sJk]) (rest := []) rfl rfl rfl rfl rfl ?_
  refine x_aload_n (pc' := 1) rfl rfl rfl rfl rfl ?_
  refine x_gI (pc' := 4) (x := 0) rfl rfl rfl (z_I_128_0 e) ?_
  refine x_istore_n (pc' := 5) (ls' := [_, _, _]) rfl rfl rfl rfl ?_
  refine x_iload_n (pc' := 6) rfl rfl rfl ?_
  refine x_if (a' := 27) (pc' := 9) (z := false) rfl rfl rfl (by decide) (fun h => by cases h) (fun _ => ?_)
  refine x_iload_n (pc' := 10) rfl rfl rfl ?_
  refine x_aload_n (pc' := 11) rfl rfl rfl rfl rfl ?_
  refine x_gR (pc' := 14) (r := (some (m + 1))) rfl rfl rfl (kMp (Cn_e e) hm).1 ?_
  refine x_alen (pc' := 15) (N := 3) rfl rfl rfl (kMp (Cn_e e) hm).2.1 (?_ : X _ _ _ (.inl 3 :: _) _ _)
  refine x_icmp (a' := 27) (pc' := 18) (z := false) rfl rfl rfl (by decide) (fun h => by cases h) (fun _ => ?_)
  refine x_aload_n (pc' := 19) rfl rfl rfl rfl rfl ?_
  refine x_gR (pc' := 22) (r := (some (m + 1))) rfl rfl rfl (kMp (Cn_e e) hm).1 ?_
  refine x_iload_n (pc' := 23) rfl rfl rfl ?_
  refine x_iald (pc' := 24) (N := 3) (x := 0) rfl rfl rfl (kMp (Cn_e e) hm).2.1 (io_in (p := 0) (N := 3) (by decide) (by decide)) (Eq.trans (congrArg (sA t 20 (m + 1)) (nn_io (p := 0) (by decide))) (z_A_20_yy e _ _)) ?_
  refine x_goto (pc' := 28) rfl rfl ?_
  refine x_reti rfl rfl ?_
  refine sK_i (pc' := 49) rfl ?_
  refine x_istore (pc' := 51) (ls' := [_, _, _, _, _, _, _, _, _, _, _]) rfl rfl rfl rfl ?_
  refine x_iload (pc' := 53) rfl rfl rfl ?_
  refine x_aload_n (pc' := 54) rfl rfl rfl rfl rfl ?_
  refine x_ifnonnull (a' := 61) (pc' := 57) rfl rfl rfl rfl (fun i h => by cases h) (fun _ => ?_)
  refine x_iconst (pc' := 58) rfl rfl ?_
  refine x_goto (pc' := 67) rfl rfl ?_
  refine x_iadd (pc' := 68) (z := 0) rfl rfl (by decide) ?_
  refine x_istore (pc' := 70) (ls' := [_, _, _, _, _, _, _, _, _, _, _]) rfl rfl rfl rfl ?_
  refine x_iload (pc' := 72) rfl rfl rfl ?_
  refine x_iload (pc' := 74) rfl rfl rfl ?_
  refine x_aload_n (pc' := 75) rfl rfl rfl rfl rfl ?_
  refine x_iload (pc' := 77) rfl rfl rfl ?_
  refine x_aload (pc' := 79) rfl rfl rfl rfl rfl ?_
  refine x_gI (pc' := 82) (x := 0) rfl rfl rfl (z_I_128_0 e) ?_
  refine x_cv (ls0 := [_, _, _, sJk]) (rest := [_, _]) rfl rfl rfl rfl rfl ?_
  refine x_iload_n (pc' := 1) rfl rfl rfl ?_
  refine x_iconst (pc' := 2) rfl rfl ?_
  refine x_imul (pc' := 3) (z := 9) rfl rfl (by decide) ?_
  refine x_iload_n (pc' := 4) rfl rfl rfl ?_
  refine x_iadd (pc' := 5) (z := 9) rfl rfl (by decide) ?_
  refine x_istore_n (pc' := 6) (ls' := [_, _, _, _]) rfl rfl rfl rfl ?_
  refine x_iload_n (pc' := 7) rfl rfl rfl ?_
  refine x_if (a' := 28) (pc' := 10) (z := false) rfl rfl rfl (by decide) (fun h => by cases h) (fun _ => ?_)
  refine x_iload_n (pc' := 11) rfl rfl rfl ?_
  refine x_aload_n (pc' := 12) rfl rfl rfl rfl rfl ?_
  refine x_gR (pc' := 15) (r := (some 0)) rfl rfl rfl (z_R_323_0 e) ?_
  refine x_alen (pc' := 16) (N := 18) rfl rfl rfl (z_N_20_0 e) (?_ : X _ _ _ (.inl 18 :: _) _ _)
  refine x_icmp (a' := 28) (pc' := 19) (z := false) rfl rfl rfl (by decide) (fun h => by cases h) (fun _ => ?_)
  refine x_aload_n (pc' := 20) rfl rfl rfl rfl rfl ?_
  refine x_gR (pc' := 23) (r := (some 0)) rfl rfl rfl (z_R_323_0 e) ?_
  refine x_iload_n (pc' := 24) rfl rfl rfl ?_
  refine x_iald (pc' := 25) (N := 18) (x := 0) rfl rfl rfl (z_N_20_0 e) (io_in (p := 9) (N := 18) (by decide) (by decide)) (Eq.trans (congrArg (sA t 20 0) (nn_io (p := 9) (by decide))) (z_A_20_0_9 e)) ?_
  refine x_goto (pc' := 29) rfl rfl ?_
  refine x_reti rfl rfl ?_
  refine sK_i (pc' := 85) rfl ?_
  refine x_imul (pc' := 86) (z := 0) rfl rfl (by decide) ?_
  refine x_isub (pc' := 87) (z := 0) rfl rfl (by decide) ?_
  refine x_istore (pc' := 89) (ls' := [_, _, _, _, _, _, _, _, _, _, _]) rfl rfl rfl rfl ?_
  refine x_iinc (pc' := 92) (y := 1) (ls' := [_, _, _, _, _, _, _, _, _, _, _]) rfl rfl rfl rfl rfl ?_
  refine x_goto (pc' := 29) rfl rfl ?_
  refine x_iload (pc' := 31) rfl rfl rfl ?_
  refine x_iload (pc' := 33) rfl rfl rfl ?_
  refine x_icmp (a' := 95) (pc' := 36) (z := false) rfl rfl rfl (by decide) (fun h => by cases h) (fun _ => ?_)
  refine x_aload (pc' := 38) rfl rfl rfl rfl rfl ?_
  refine x_iload (pc' := 40) rfl rfl rfl ?_
  refine x_aald (pc' := 41) (N := 3) (k' := 2) (r := (some 1)) rfl rfl rfl (z_N_25_0 e) (io_in (p := 1) (N := 3) (by decide) (by decide)) (Eq.trans (congrArg (sE t 25 0) (nn_io (p := 1) (by decide))) (z_E_25_0_1 e)) ?_
  refine x_astore (pc' := 43) (ls' := [_, _, _, _, _, _, _, _, _, _, _]) rfl rfl rfl rfl rfl ?_
  refine x_aload_n (pc' := 44) rfl rfl rfl rfl rfl ?_
  refine x_aload (pc' := 46) rfl rfl rfl rfl rfl ?_
  refine x_cv (ls0 := [_, _, sJk]) (rest := []) rfl rfl rfl rfl rfl ?_
  refine x_aload_n (pc' := 1) rfl rfl rfl rfl rfl ?_
  refine x_gI (pc' := 4) (x := 1) rfl rfl rfl (z_I_128_1 e) ?_
  refine x_istore_n (pc' := 5) (ls' := [_, _, _]) rfl rfl rfl rfl ?_
  refine x_iload_n (pc' := 6) rfl rfl rfl ?_
  refine x_if (a' := 27) (pc' := 9) (z := false) rfl rfl rfl (by decide) (fun h => by cases h) (fun _ => ?_)
  refine x_iload_n (pc' := 10) rfl rfl rfl ?_
  refine x_aload_n (pc' := 11) rfl rfl rfl rfl rfl ?_
  refine x_gR (pc' := 14) (r := (some (m + 1))) rfl rfl rfl (kMp (Cn_e e) hm).1 ?_
  refine x_alen (pc' := 15) (N := 3) rfl rfl rfl (kMp (Cn_e e) hm).2.1 (?_ : X _ _ _ (.inl 3 :: _) _ _)
  refine x_icmp (a' := 27) (pc' := 18) (z := false) rfl rfl rfl (by decide) (fun h => by cases h) (fun _ => ?_)
  refine x_aload_n (pc' := 19) rfl rfl rfl rfl rfl ?_
  refine x_gR (pc' := 22) (r := (some (m + 1))) rfl rfl rfl (kMp (Cn_e e) hm).1 ?_
  refine x_iload_n (pc' := 23) rfl rfl rfl ?_
  refine x_iald (pc' := 24) (N := 3) (x := 0) rfl rfl rfl (kMp (Cn_e e) hm).2.1 (io_in (p := 1) (N := 3) (by decide) (by decide)) (Eq.trans (congrArg (sA t 20 (m + 1)) (nn_io (p := 1) (by decide))) (z_A_20_yy e _ _)) ?_
  refine x_goto (pc' := 28) rfl rfl ?_
  refine x_reti rfl rfl ?_
  refine sK_i (pc' := 49) rfl ?_
  refine x_istore (pc' := 51) (ls' := [_, _, _, _, _, _, _, _, _, _, _]) rfl rfl rfl rfl ?_
  refine x_iload (pc' := 53) rfl rfl rfl ?_
  refine x_aload_n (pc' := 54) rfl rfl rfl rfl rfl ?_
  refine x_ifnonnull (a' := 61) (pc' := 57) rfl rfl rfl rfl (fun i h => by cases h) (fun _ => ?_)
  refine x_iconst (pc' := 58) rfl rfl ?_
  refine x_goto (pc' := 67) rfl rfl ?_
  refine x_iadd (pc' := 68) (z := 0) rfl rfl (by decide) ?_
  refine x_istore (pc' := 70) (ls' := [_, _, _, _, _, _, _, _, _, _, _]) rfl rfl rfl rfl ?_
  refine x_iload (pc' := 72) rfl rfl rfl ?_
  refine x_iload (pc' := 74) rfl rfl rfl ?_
  refine x_aload_n (pc' := 75) rfl rfl rfl rfl rfl ?_
  refine x_iload (pc' := 77) rfl rfl rfl ?_
  refine x_aload (pc' := 79) rfl rfl rfl rfl rfl ?_
  refine x_gI (pc' := 82) (x := 1) rfl rfl rfl (z_I_128_1 e) ?_
  refine x_cv (ls0 := [_, _, _, sJk]) (rest := [_, _]) rfl rfl rfl rfl rfl ?_
  refine x_iload_n (pc' := 1) rfl rfl rfl ?_
  refine x_iconst (pc' := 2) rfl rfl ?_
  refine x_imul (pc' := 3) (z := 9) rfl rfl (by decide) ?_
  refine x_iload_n (pc' := 4) rfl rfl rfl ?_
  refine x_iadd (pc' := 5) (z := 10) rfl rfl (by decide) ?_
  refine x_istore_n (pc' := 6) (ls' := [_, _, _, _]) rfl rfl rfl rfl ?_
  refine x_iload_n (pc' := 7) rfl rfl rfl ?_
  refine x_if (a' := 28) (pc' := 10) (z := false) rfl rfl rfl (by decide) (fun h => by cases h) (fun _ => ?_)
  refine x_iload_n (pc' := 11) rfl rfl rfl ?_
  refine x_aload_n (pc' := 12) rfl rfl rfl rfl rfl ?_
  refine x_gR (pc' := 15) (r := (some 0)) rfl rfl rfl (z_R_323_0 e) ?_
  refine x_alen (pc' := 16) (N := 18) rfl rfl rfl (z_N_20_0 e) (?_ : X _ _ _ (.inl 18 :: _) _ _)
  refine x_icmp (a' := 28) (pc' := 19) (z := false) rfl rfl rfl (by decide) (fun h => by cases h) (fun _ => ?_)
  refine x_aload_n (pc' := 20) rfl rfl rfl rfl rfl ?_
  refine x_gR (pc' := 23) (r := (some 0)) rfl rfl rfl (z_R_323_0 e) ?_
  refine x_iload_n (pc' := 24) rfl rfl rfl ?_
  refine x_iald (pc' := 25) (N := 18) (x := 0) rfl rfl rfl (z_N_20_0 e) (io_in (p := 10) (N := 18) (by decide) (by decide)) (Eq.trans (congrArg (sA t 20 0) (nn_io (p := 10) (by decide))) (z_A_20_0_10 e)) ?_
  refine x_goto (pc' := 29) rfl rfl ?_
  refine x_reti rfl rfl ?_
  refine sK_i (pc' := 85) rfl ?_
  refine x_imul (pc' := 86) (z := 0) rfl rfl (by decide) ?_
  refine x_isub (pc' := 87) (z := 0) rfl rfl (by decide) ?_
  refine x_istore (pc' := 89) (ls' := [_, _, _, _, _, _, _, _, _, _, _]) rfl rfl rfl rfl ?_
  refine x_iinc (pc' := 92) (y := 2) (ls' := [_, _, _, _, _, _, _, _, _, _, _]) rfl rfl rfl rfl rfl ?_
  refine x_goto (pc' := 29) rfl rfl ?_
  refine x_iload (pc' := 31) rfl rfl rfl ?_
  refine x_iload (pc' := 33) rfl rfl rfl ?_
  refine x_icmp (a' := 95) (pc' := 36) (z := false) rfl rfl rfl (by decide) (fun h => by cases h) (fun _ => ?_)
  refine x_aload (pc' := 38) rfl rfl rfl rfl rfl ?_
  refine x_iload (pc' := 40) rfl rfl rfl ?_
  refine x_aald (pc' := 41) (N := 3) (k' := 2) (r := (some 2)) rfl rfl rfl (z_N_25_0 e) (io_in (p := 2) (N := 3) (by decide) (by decide)) (Eq.trans (congrArg (sE t 25 0) (nn_io (p := 2) (by decide))) (z_E_25_0_2 e)) ?_
  refine x_astore (pc' := 43) (ls' := [_, _, _, _, _, _, _, _, _, _, _]) rfl rfl rfl rfl rfl ?_
  refine x_aload_n (pc' := 44) rfl rfl rfl rfl rfl ?_
  refine x_aload (pc' := 46) rfl rfl rfl rfl rfl ?_
  refine x_cv (ls0 := [_, _, sJk]) (rest := []) rfl rfl rfl rfl rfl ?_
  refine x_aload_n (pc' := 1) rfl rfl rfl rfl rfl ?_
  refine x_gI (pc' := 4) (x := 2) rfl rfl rfl (z_I_128_2 e) ?_
  refine x_istore_n (pc' := 5) (ls' := [_, _, _]) rfl rfl rfl rfl ?_
  refine x_iload_n (pc' := 6) rfl rfl rfl ?_
  refine x_if (a' := 27) (pc' := 9) (z := false) rfl rfl rfl (by decide) (fun h => by cases h) (fun _ => ?_)
  refine x_iload_n (pc' := 10) rfl rfl rfl ?_
  refine x_aload_n (pc' := 11) rfl rfl rfl rfl rfl ?_
  refine x_gR (pc' := 14) (r := (some (m + 1))) rfl rfl rfl (kMp (Cn_e e) hm).1 ?_
  refine x_alen (pc' := 15) (N := 3) rfl rfl rfl (kMp (Cn_e e) hm).2.1 (?_ : X _ _ _ (.inl 3 :: _) _ _)
  refine x_icmp (a' := 27) (pc' := 18) (z := false) rfl rfl rfl (by decide) (fun h => by cases h) (fun _ => ?_)
  refine x_aload_n (pc' := 19) rfl rfl rfl rfl rfl ?_
  refine x_gR (pc' := 22) (r := (some (m + 1))) rfl rfl rfl (kMp (Cn_e e) hm).1 ?_
  refine x_iload_n (pc' := 23) rfl rfl rfl ?_
  refine x_iald (pc' := 24) (N := 3) (x := 0) rfl rfl rfl (kMp (Cn_e e) hm).2.1 (io_in (p := 2) (N := 3) (by decide) (by decide)) (Eq.trans (congrArg (sA t 20 (m + 1)) (nn_io (p := 2) (by decide))) (z_A_20_yy e _ _)) ?_
  refine x_goto (pc' := 28) rfl rfl ?_
  refine x_reti rfl rfl ?_
  refine sK_i (pc' := 49) rfl ?_
  refine x_istore (pc' := 51) (ls' := [_, _, _, _, _, _, _, _, _, _, _]) rfl rfl rfl rfl ?_
  refine x_iload (pc' := 53) rfl rfl rfl ?_
  refine x_aload_n (pc' := 54) rfl rfl rfl rfl rfl ?_
  refine x_ifnonnull (a' := 61) (pc' := 57) rfl rfl rfl rfl (fun i h => by cases h) (fun _ => ?_)
  refine x_iconst (pc' := 58) rfl rfl ?_
  refine x_goto (pc' := 67) rfl rfl ?_
  refine x_iadd (pc' := 68) (z := 0) rfl rfl (by decide) ?_
  refine x_istore (pc' := 70) (ls' := [_, _, _, _, _, _, _, _, _, _, _]) rfl rfl rfl rfl ?_
  refine x_iload (pc' := 72) rfl rfl rfl ?_
  refine x_iload (pc' := 74) rfl rfl rfl ?_
  refine x_aload_n (pc' := 75) rfl rfl rfl rfl rfl ?_
  refine x_iload (pc' := 77) rfl rfl rfl ?_
  refine x_aload (pc' := 79) rfl rfl rfl rfl rfl ?_
  refine x_gI (pc' := 82) (x := 2) rfl rfl rfl (z_I_128_2 e) ?_
  refine x_cv (ls0 := [_, _, _, sJk]) (rest := [_, _]) rfl rfl rfl rfl rfl ?_
  refine x_iload_n (pc' := 1) rfl rfl rfl ?_
  refine x_iconst (pc' := 2) rfl rfl ?_
  refine x_imul (pc' := 3) (z := 9) rfl rfl (by decide) ?_
  refine x_iload_n (pc' := 4) rfl rfl rfl ?_
  refine x_iadd (pc' := 5) (z := 11) rfl rfl (by decide) ?_
  refine x_istore_n (pc' := 6) (ls' := [_, _, _, _]) rfl rfl rfl rfl ?_
  refine x_iload_n (pc' := 7) rfl rfl rfl ?_
  refine x_if (a' := 28) (pc' := 10) (z := false) rfl rfl rfl (by decide) (fun h => by cases h) (fun _ => ?_)
  refine x_iload_n (pc' := 11) rfl rfl rfl ?_
  refine x_aload_n (pc' := 12) rfl rfl rfl rfl rfl ?_
  refine x_gR (pc' := 15) (r := (some 0)) rfl rfl rfl (z_R_323_0 e) ?_
  refine x_alen (pc' := 16) (N := 18) rfl rfl rfl (z_N_20_0 e) (?_ : X _ _ _ (.inl 18 :: _) _ _)
  refine x_icmp (a' := 28) (pc' := 19) (z := false) rfl rfl rfl (by decide) (fun h => by cases h) (fun _ => ?_)
  refine x_aload_n (pc' := 20) rfl rfl rfl rfl rfl ?_
  refine x_gR (pc' := 23) (r := (some 0)) rfl rfl rfl (z_R_323_0 e) ?_
  refine x_iload_n (pc' := 24) rfl rfl rfl ?_
  refine x_iald (pc' := 25) (N := 18) (x := 0) rfl rfl rfl (z_N_20_0 e) (io_in (p := 11) (N := 18) (by decide) (by decide)) (Eq.trans (congrArg (sA t 20 0) (nn_io (p := 11) (by decide))) (z_A_20_0_11 e)) ?_
  refine x_goto (pc' := 29) rfl rfl ?_
  refine x_reti rfl rfl ?_
  refine sK_i (pc' := 85) rfl ?_
  refine x_imul (pc' := 86) (z := 0) rfl rfl (by decide) ?_
  refine x_isub (pc' := 87) (z := 0) rfl rfl (by decide) ?_
  refine x_istore (pc' := 89) (ls' := [_, _, _, _, _, _, _, _, _, _, _]) rfl rfl rfl rfl ?_
  refine x_iinc (pc' := 92) (y := 3) (ls' := [_, _, _, _, _, _, _, _, _, _, _]) rfl rfl rfl rfl rfl ?_
  refine x_goto (pc' := 29) rfl rfl ?_
  refine x_iload (pc' := 31) rfl rfl rfl ?_
  refine x_iload (pc' := 33) rfl rfl rfl ?_
  refine x_icmp (a' := 95) (pc' := 36) (z := true) rfl rfl rfl (by decide) (fun _ => ?_) (fun h => by cases h)
  refine x_iload_n (pc' := 96) rfl rfl rfl ?_
  refine x_iload (pc' := 98) rfl rfl rfl ?_
  refine x_max (pc' := 101) (z := 0) rfl rfl rfl (by decide) ?_
  refine x_istore_n (pc' := 102) (ls' := [_, _, _, _, _, _, _, _, _, _, _]) rfl rfl rfl rfl ?_
  refine x_iinc (pc' := 105) (y := 4) (ls' := [_, _, _, _, _, _, _, _, _, _, _]) rfl rfl rfl rfl rfl ?_
  refine x_goto (pc' := 5) rfl rfl ?_
  refine x_iload (pc' := 7) rfl rfl rfl ?_
  refine x_bipush (pc' := 9) rfl rfl ?_
  refine x_icmp (a' := 108) (pc' := 12) (z := false) rfl rfl rfl (by decide) (fun h => by cases h) (fun _ => ?_)
  refine x_iconst (pc' := 13) rfl rfl ?_
  refine x_istore (pc' := 15) (ls' := [_, _, _, _, _, _, _, _, _, _, _]) rfl rfl rfl rfl ?_
  refine x_aload_n (pc' := 16) rfl rfl rfl rfl rfl ?_
  refine x_gR (pc' := 19) (r := (some 0)) rfl rfl rfl (z_R_320_0 e) ?_
  refine x_astore (pc' := 21) (ls' := [_, _, _, _, _, _, _, _, _, _, _]) rfl rfl rfl rfl rfl ?_
  refine x_aload (pc' := 23) rfl rfl rfl rfl rfl ?_
  refine x_alen (pc' := 24) (N := 3) rfl rfl rfl (z_N_25_0 e) (?_ : X _ _ _ (.inl 3 :: _) _ _)
  refine x_istore (pc' := 26) (ls' := [_, _, _, _, _, _, _, _, _, _, _]) rfl rfl rfl rfl ?_
  refine x_iconst (pc' := 27) rfl rfl ?_
  refine x_istore (pc' := 29) (ls' := [_, _, _, _, _, _, _, _, _, _, _]) rfl rfl rfl rfl ?_
  refine x_iload (pc' := 31) rfl rfl rfl ?_
  refine x_iload (pc' := 33) rfl rfl rfl ?_
  refine x_icmp (a' := 95) (pc' := 36) (z := false) rfl rfl rfl (by decide) (fun h => by cases h) (fun _ => ?_)
  refine x_aload (pc' := 38) rfl rfl rfl rfl rfl ?_
  refine x_iload (pc' := 40) rfl rfl rfl ?_
  refine x_aald (pc' := 41) (N := 3) (k' := 2) (r := (some 0)) rfl rfl rfl (z_N_25_0 e) (io_in (p := 0) (N := 3) (by decide) (by decide)) (Eq.trans (congrArg (sE t 25 0) (nn_io (p := 0) (by decide))) (z_E_25_0_0 e)) ?_
  refine x_astore (pc' := 43) (ls' := [_, _, _, _, _, _, _, _, _, _, _]) rfl rfl rfl rfl rfl ?_
  refine x_aload_n (pc' := 44) rfl rfl rfl rfl rfl ?_
  refine x_aload (pc' := 46) rfl rfl rfl rfl rfl ?_
  refine x_cv (ls0 := [_, _, sJk]) (rest := []) rfl rfl rfl rfl rfl ?_
  refine x_aload_n (pc' := 1) rfl rfl rfl rfl rfl ?_
  refine x_gI (pc' := 4) (x := 0) rfl rfl rfl (z_I_128_0 e) ?_
  refine x_istore_n (pc' := 5) (ls' := [_, _, _]) rfl rfl rfl rfl ?_
  refine x_iload_n (pc' := 6) rfl rfl rfl ?_
  refine x_if (a' := 27) (pc' := 9) (z := false) rfl rfl rfl (by decide) (fun h => by cases h) (fun _ => ?_)
  refine x_iload_n (pc' := 10) rfl rfl rfl ?_
  refine x_aload_n (pc' := 11) rfl rfl rfl rfl rfl ?_
  refine x_gR (pc' := 14) (r := (some (m + 1))) rfl rfl rfl (kMp (Cn_e e) hm).1 ?_
  refine x_alen (pc' := 15) (N := 3) rfl rfl rfl (kMp (Cn_e e) hm).2.1 (?_ : X _ _ _ (.inl 3 :: _) _ _)
  refine x_icmp (a' := 27) (pc' := 18) (z := false) rfl rfl rfl (by decide) (fun h => by cases h) (fun _ => ?_)
  refine x_aload_n (pc' := 19) rfl rfl rfl rfl rfl ?_
  refine x_gR (pc' := 22) (r := (some (m + 1))) rfl rfl rfl (kMp (Cn_e e) hm).1 ?_
  refine x_iload_n (pc' := 23) rfl rfl rfl ?_
  refine x_iald (pc' := 24) (N := 3) (x := 0) rfl rfl rfl (kMp (Cn_e e) hm).2.1 (io_in (p := 0) (N := 3) (by decide) (by decide)) (Eq.trans (congrArg (sA t 20 (m + 1)) (nn_io (p := 0) (by decide))) (z_A_20_yy e _ _)) ?_
  refine x_goto (pc' := 28) rfl rfl ?_
  refine x_reti rfl rfl ?_
  refine sK_i (pc' := 49) rfl ?_
  refine x_istore (pc' := 51) (ls' := [_, _, _, _, _, _, _, _, _, _, _]) rfl rfl rfl rfl ?_
  refine x_iload (pc' := 53) rfl rfl rfl ?_
  refine x_aload_n (pc' := 54) rfl rfl rfl rfl rfl ?_
  refine x_ifnonnull (a' := 61) (pc' := 57) rfl rfl rfl rfl (fun i h => by cases h) (fun _ => ?_)
  refine x_iconst (pc' := 58) rfl rfl ?_
  refine x_goto (pc' := 67) rfl rfl ?_
  refine x_iadd (pc' := 68) (z := 0) rfl rfl (by decide) ?_
  refine x_istore (pc' := 70) (ls' := [_, _, _, _, _, _, _, _, _, _, _]) rfl rfl rfl rfl ?_
  refine x_iload (pc' := 72) rfl rfl rfl ?_
  refine x_iload (pc' := 74) rfl rfl rfl ?_
  refine x_aload_n (pc' := 75) rfl rfl rfl rfl rfl ?_
  refine x_iload (pc' := 77) rfl rfl rfl ?_
  refine x_aload (pc' := 79) rfl rfl rfl rfl rfl ?_
  refine x_gI (pc' := 82) (x := 0) rfl rfl rfl (z_I_128_0 e) ?_
  refine x_cv (ls0 := [_, _, _, sJk]) (rest := [_, _]) rfl rfl rfl rfl rfl ?_
  refine x_iload_n (pc' := 1) rfl rfl rfl ?_
  refine x_iconst (pc' := 2) rfl rfl ?_
  refine x_imul (pc' := 3) (z := 12) rfl rfl (by decide) ?_
  refine x_iload_n (pc' := 4) rfl rfl rfl ?_
  refine x_iadd (pc' := 5) (z := 12) rfl rfl (by decide) ?_
  refine x_istore_n (pc' := 6) (ls' := [_, _, _, _]) rfl rfl rfl rfl ?_
  refine x_iload_n (pc' := 7) rfl rfl rfl ?_
  refine x_if (a' := 28) (pc' := 10) (z := false) rfl rfl rfl (by decide) (fun h => by cases h) (fun _ => ?_)
  refine x_iload_n (pc' := 11) rfl rfl rfl ?_
  refine x_aload_n (pc' := 12) rfl rfl rfl rfl rfl ?_
  refine x_gR (pc' := 15) (r := (some 0)) rfl rfl rfl (z_R_323_0 e) ?_
  refine x_alen (pc' := 16) (N := 18) rfl rfl rfl (z_N_20_0 e) (?_ : X _ _ _ (.inl 18 :: _) _ _)
  refine x_icmp (a' := 28) (pc' := 19) (z := false) rfl rfl rfl (by decide) (fun h => by cases h) (fun _ => ?_)
  refine x_aload_n (pc' := 20) rfl rfl rfl rfl rfl ?_
  refine x_gR (pc' := 23) (r := (some 0)) rfl rfl rfl (z_R_323_0 e) ?_
  refine x_iload_n (pc' := 24) rfl rfl rfl ?_
  refine x_iald (pc' := 25) (N := 18) (x := 0) rfl rfl rfl (z_N_20_0 e) (io_in (p := 12) (N := 18) (by decide) (by decide)) (Eq.trans (congrArg (sA t 20 0) (nn_io (p := 12) (by decide))) (z_A_20_0_12 e)) ?_
  refine x_goto (pc' := 29) rfl rfl ?_
  refine x_reti rfl rfl ?_
  refine sK_i (pc' := 85) rfl ?_
  refine x_imul (pc' := 86) (z := 0) rfl rfl (by decide) ?_
  refine x_isub (pc' := 87) (z := 0) rfl rfl (by decide) ?_
  refine x_istore (pc' := 89) (ls' := [_, _, _, _, _, _, _, _, _, _, _]) rfl rfl rfl rfl ?_
  refine x_iinc (pc' := 92) (y := 1) (ls' := [_, _, _, _, _, _, _, _, _, _, _]) rfl rfl rfl rfl rfl ?_
  refine x_goto (pc' := 29) rfl rfl ?_
  refine x_iload (pc' := 31) rfl rfl rfl ?_
  refine x_iload (pc' := 33) rfl rfl rfl ?_
  refine x_icmp (a' := 95) (pc' := 36) (z := false) rfl rfl rfl (by decide) (fun h => by cases h) (fun _ => ?_)
  refine x_aload (pc' := 38) rfl rfl rfl rfl rfl ?_
  refine x_iload (pc' := 40) rfl rfl rfl ?_
  refine x_aald (pc' := 41) (N := 3) (k' := 2) (r := (some 1)) rfl rfl rfl (z_N_25_0 e) (io_in (p := 1) (N := 3) (by decide) (by decide)) (Eq.trans (congrArg (sE t 25 0) (nn_io (p := 1) (by decide))) (z_E_25_0_1 e)) ?_
  refine x_astore (pc' := 43) (ls' := [_, _, _, _, _, _, _, _, _, _, _]) rfl rfl rfl rfl rfl ?_
  refine x_aload_n (pc' := 44) rfl rfl rfl rfl rfl ?_
  refine x_aload (pc' := 46) rfl rfl rfl rfl rfl ?_
  refine x_cv (ls0 := [_, _, sJk]) (rest := []) rfl rfl rfl rfl rfl ?_
  refine x_aload_n (pc' := 1) rfl rfl rfl rfl rfl ?_
  refine x_gI (pc' := 4) (x := 1) rfl rfl rfl (z_I_128_1 e) ?_
  refine x_istore_n (pc' := 5) (ls' := [_, _, _]) rfl rfl rfl rfl ?_
  refine x_iload_n (pc' := 6) rfl rfl rfl ?_
  refine x_if (a' := 27) (pc' := 9) (z := false) rfl rfl rfl (by decide) (fun h => by cases h) (fun _ => ?_)
  refine x_iload_n (pc' := 10) rfl rfl rfl ?_
  refine x_aload_n (pc' := 11) rfl rfl rfl rfl rfl ?_
  refine x_gR (pc' := 14) (r := (some (m + 1))) rfl rfl rfl (kMp (Cn_e e) hm).1 ?_
  refine x_alen (pc' := 15) (N := 3) rfl rfl rfl (kMp (Cn_e e) hm).2.1 (?_ : X _ _ _ (.inl 3 :: _) _ _)
  refine x_icmp (a' := 27) (pc' := 18) (z := false) rfl rfl rfl (by decide) (fun h => by cases h) (fun _ => ?_)
  refine x_aload_n (pc' := 19) rfl rfl rfl rfl rfl ?_
  refine x_gR (pc' := 22) (r := (some (m + 1))) rfl rfl rfl (kMp (Cn_e e) hm).1 ?_
  refine x_iload_n (pc' := 23) rfl rfl rfl ?_
  refine x_iald (pc' := 24) (N := 3) (x := 0) rfl rfl rfl (kMp (Cn_e e) hm).2.1 (io_in (p := 1) (N := 3) (by decide) (by decide)) (Eq.trans (congrArg (sA t 20 (m + 1)) (nn_io (p := 1) (by decide))) (z_A_20_yy e _ _)) ?_
  refine x_goto (pc' := 28) rfl rfl ?_
  refine x_reti rfl rfl ?_
  refine sK_i (pc' := 49) rfl ?_
  refine x_istore (pc' := 51) (ls' := [_, _, _, _, _, _, _, _, _, _, _]) rfl rfl rfl rfl ?_
  refine x_iload (pc' := 53) rfl rfl rfl ?_
  refine x_aload_n (pc' := 54) rfl rfl rfl rfl rfl ?_
  refine x_ifnonnull (a' := 61) (pc' := 57) rfl rfl rfl rfl (fun i h => by cases h) (fun _ => ?_)
  refine x_iconst (pc' := 58) rfl rfl ?_
  refine x_goto (pc' := 67) rfl rfl ?_
  refine x_iadd (pc' := 68) (z := 0) rfl rfl (by decide) ?_
  refine x_istore (pc' := 70) (ls' := [_, _, _, _, _, _, _, _, _, _, _]) rfl rfl rfl rfl ?_
  refine x_iload (pc' := 72) rfl rfl rfl ?_
  refine x_iload (pc' := 74) rfl rfl rfl ?_
  refine x_aload_n (pc' := 75) rfl rfl rfl rfl rfl ?_
  refine x_iload (pc' := 77) rfl rfl rfl ?_
  refine x_aload (pc' := 79) rfl rfl rfl rfl rfl ?_
  refine x_gI (pc' := 82) (x := 1) rfl rfl rfl (z_I_128_1 e) ?_
  refine x_cv (ls0 := [_, _, _, sJk]) (rest := [_, _]) rfl rfl rfl rfl rfl ?_
  refine x_iload_n (pc' := 1) rfl rfl rfl ?_
  refine x_iconst (pc' := 2) rfl rfl ?_
  refine x_imul (pc' := 3) (z := 12) rfl rfl (by decide) ?_
  refine x_iload_n (pc' := 4) rfl rfl rfl ?_
  refine x_iadd (pc' := 5) (z := 13) rfl rfl (by decide) ?_
  refine x_istore_n (pc' := 6) (ls' := [_, _, _, _]) rfl rfl rfl rfl ?_
  refine x_iload_n (pc' := 7) rfl rfl rfl ?_
  refine x_if (a' := 28) (pc' := 10) (z := false) rfl rfl rfl (by decide) (fun h => by cases h) (fun _ => ?_)
  refine x_iload_n (pc' := 11) rfl rfl rfl ?_
  refine x_aload_n (pc' := 12) rfl rfl rfl rfl rfl ?_
  refine x_gR (pc' := 15) (r := (some 0)) rfl rfl rfl (z_R_323_0 e) ?_
  refine x_alen (pc' := 16) (N := 18) rfl rfl rfl (z_N_20_0 e) (?_ : X _ _ _ (.inl 18 :: _) _ _)
  refine x_icmp (a' := 28) (pc' := 19) (z := false) rfl rfl rfl (by decide) (fun h => by cases h) (fun _ => ?_)
  refine x_aload_n (pc' := 20) rfl rfl rfl rfl rfl ?_
  refine x_gR (pc' := 23) (r := (some 0)) rfl rfl rfl (z_R_323_0 e) ?_
  refine x_iload_n (pc' := 24) rfl rfl rfl ?_
  refine x_iald (pc' := 25) (N := 18) (x := 0) rfl rfl rfl (z_N_20_0 e) (io_in (p := 13) (N := 18) (by decide) (by decide)) (Eq.trans (congrArg (sA t 20 0) (nn_io (p := 13) (by decide))) (z_A_20_0_13 e)) ?_
  refine x_goto (pc' := 29) rfl rfl ?_
  refine x_reti rfl rfl ?_
  refine sK_i (pc' := 85) rfl ?_
  refine x_imul (pc' := 86) (z := 0) rfl rfl (by decide) ?_
  refine x_isub (pc' := 87) (z := 0) rfl rfl (by decide) ?_
  refine x_istore (pc' := 89) (ls' := [_, _, _, _, _, _, _, _, _, _, _]) rfl rfl rfl rfl ?_
  refine x_iinc (pc' := 92) (y := 2) (ls' := [_, _, _, _, _, _, _, _, _, _, _]) rfl rfl rfl rfl rfl ?_
  refine x_goto (pc' := 29) rfl rfl ?_
  refine x_iload (pc' := 31) rfl rfl rfl ?_
  refine x_iload (pc' := 33) rfl rfl rfl ?_
  refine x_icmp (a' := 95) (pc' := 36) (z := false) rfl rfl rfl (by decide) (fun h => by cases h) (fun _ => ?_)
  refine x_aload (pc' := 38) rfl rfl rfl rfl rfl ?_
  refine x_iload (pc' := 40) rfl rfl rfl ?_
  refine x_aald (pc' := 41) (N := 3) (k' := 2) (r := (some 2)) rfl rfl rfl (z_N_25_0 e) (io_in (p := 2) (N := 3) (by decide) (by decide)) (Eq.trans (congrArg (sE t 25 0) (nn_io (p := 2) (by decide))) (z_E_25_0_2 e)) ?_
  refine x_astore (pc' := 43) (ls' := [_, _, _, _, _, _, _, _, _, _, _]) rfl rfl rfl rfl rfl ?_
  refine x_aload_n (pc' := 44) rfl rfl rfl rfl rfl ?_
  refine x_aload (pc' := 46) rfl rfl rfl rfl rfl ?_
  refine x_cv (ls0 := [_, _, sJk]) (rest := []) rfl rfl rfl rfl rfl ?_
  refine x_aload_n (pc' := 1) rfl rfl rfl rfl rfl ?_
  refine x_gI (pc' := 4) (x := 2) rfl rfl rfl (z_I_128_2 e) ?_
  refine x_istore_n (pc' := 5) (ls' := [_, _, _]) rfl rfl rfl rfl ?_
  refine x_iload_n (pc' := 6) rfl rfl rfl ?_
  refine x_if (a' := 27) (pc' := 9) (z := false) rfl rfl rfl (by decide) (fun h => by cases h) (fun _ => ?_)
  refine x_iload_n (pc' := 10) rfl rfl rfl ?_
  refine x_aload_n (pc' := 11) rfl rfl rfl rfl rfl ?_
  refine x_gR (pc' := 14) (r := (some (m + 1))) rfl rfl rfl (kMp (Cn_e e) hm).1 ?_
  refine x_alen (pc' := 15) (N := 3) rfl rfl rfl (kMp (Cn_e e) hm).2.1 (?_ : X _ _ _ (.inl 3 :: _) _ _)
  refine x_icmp (a' := 27) (pc' := 18) (z := false) rfl rfl rfl (by decide) (fun h => by cases h) (fun _ => ?_)
  refine x_aload_n (pc' := 19) rfl rfl rfl rfl rfl ?_
  refine x_gR (pc' := 22) (r := (some (m + 1))) rfl rfl rfl (kMp (Cn_e e) hm).1 ?_
  refine x_iload_n (pc' := 23) rfl rfl rfl ?_
  refine x_iald (pc' := 24) (N := 3) (x := 0) rfl rfl rfl (kMp (Cn_e e) hm).2.1 (io_in (p := 2) (N := 3) (by decide) (by decide)) (Eq.trans (congrArg (sA t 20 (m + 1)) (nn_io (p := 2) (by decide))) (z_A_20_yy e _ _)) ?_
  refine x_goto (pc' := 28) rfl rfl ?_
  refine x_reti rfl rfl ?_
  refine sK_i (pc' := 49) rfl ?_
  refine x_istore (pc' := 51) (ls' := [_, _, _, _, _, _, _, _, _, _, _]) rfl rfl rfl rfl ?_
  refine x_iload (pc' := 53) rfl rfl rfl ?_
  refine x_aload_n (pc' := 54) rfl rfl rfl rfl rfl ?_
  refine x_ifnonnull (a' := 61) (pc' := 57) rfl rfl rfl rfl (fun i h => by cases h) (fun _ => ?_)
  refine x_iconst (pc' := 58) rfl rfl ?_
  refine x_goto (pc' := 67) rfl rfl ?_
  refine x_iadd (pc' := 68) (z := 0) rfl rfl (by decide) ?_
  refine x_istore (pc' := 70) (ls' := [_, _, _, _, _, _, _, _, _, _, _]) rfl rfl rfl rfl ?_
  refine x_iload (pc' := 72) rfl rfl rfl ?_
  refine x_iload (pc' := 74) rfl rfl rfl ?_
  refine x_aload_n (pc' := 75) rfl rfl rfl rfl rfl ?_
  refine x_iload (pc' := 77) rfl rfl rfl ?_
  refine x_aload (pc' := 79) rfl rfl rfl rfl rfl ?_
  refine x_gI (pc' := 82) (x := 2) rfl rfl rfl (z_I_128_2 e) ?_
  refine x_cv (ls0 := [_, _, _, sJk]) (rest := [_, _]) rfl rfl rfl rfl rfl ?_
  refine x_iload_n (pc' := 1) rfl rfl rfl ?_
  refine x_iconst (pc' := 2) rfl rfl ?_
  refine x_imul (pc' := 3) (z := 12) rfl rfl (by decide) ?_
  refine x_iload_n (pc' := 4) rfl rfl rfl ?_
  refine x_iadd (pc' := 5) (z := 14) rfl rfl (by decide) ?_
  refine x_istore_n (pc' := 6) (ls' := [_, _, _, _]) rfl rfl rfl rfl ?_
  refine x_iload_n (pc' := 7) rfl rfl rfl ?_
  refine x_if (a' := 28) (pc' := 10) (z := false) rfl rfl rfl (by decide) (fun h => by cases h) (fun _ => ?_)
  refine x_iload_n (pc' := 11) rfl rfl rfl ?_
  refine x_aload_n (pc' := 12) rfl rfl rfl rfl rfl ?_
  refine x_gR (pc' := 15) (r := (some 0)) rfl rfl rfl (z_R_323_0 e) ?_
  refine x_alen (pc' := 16) (N := 18) rfl rfl rfl (z_N_20_0 e) (?_ : X _ _ _ (.inl 18 :: _) _ _)
  refine x_icmp (a' := 28) (pc' := 19) (z := false) rfl rfl rfl (by decide) (fun h => by cases h) (fun _ => ?_)
  refine x_aload_n (pc' := 20) rfl rfl rfl rfl rfl ?_
  refine x_gR (pc' := 23) (r := (some 0)) rfl rfl rfl (z_R_323_0 e) ?_
  refine x_iload_n (pc' := 24) rfl rfl rfl ?_
  refine x_iald (pc' := 25) (N := 18) (x := 0) rfl rfl rfl (z_N_20_0 e) (io_in (p := 14) (N := 18) (by decide) (by decide)) (Eq.trans (congrArg (sA t 20 0) (nn_io (p := 14) (by decide))) (z_A_20_0_14 e)) ?_
  refine x_goto (pc' := 29) rfl rfl ?_
  refine x_reti rfl rfl ?_
  refine sK_i (pc' := 85) rfl ?_
  refine x_imul (pc' := 86) (z := 0) rfl rfl (by decide) ?_
  refine x_isub (pc' := 87) (z := 0) rfl rfl (by decide) ?_
  refine x_istore (pc' := 89) (ls' := [_, _, _, _, _, _, _, _, _, _, _]) rfl rfl rfl rfl ?_
  refine x_iinc (pc' := 92) (y := 3) (ls' := [_, _, _, _, _, _, _, _, _, _, _]) rfl rfl rfl rfl rfl ?_
  refine x_goto (pc' := 29) rfl rfl ?_
  refine x_iload (pc' := 31) rfl rfl rfl ?_
  refine x_iload (pc' := 33) rfl rfl rfl ?_
  refine x_icmp (a' := 95) (pc' := 36) (z := true) rfl rfl rfl (by decide) (fun _ => ?_) (fun h => by cases h)
  refine x_iload_n (pc' := 96) rfl rfl rfl ?_
  refine x_iload (pc' := 98) rfl rfl rfl ?_
  refine x_max (pc' := 101) (z := 0) rfl rfl rfl (by decide) ?_
  refine x_istore_n (pc' := 102) (ls' := [_, _, _, _, _, _, _, _, _, _, _]) rfl rfl rfl rfl ?_
  refine x_iinc (pc' := 105) (y := 5) (ls' := [_, _, _, _, _, _, _, _, _, _, _]) rfl rfl rfl rfl rfl ?_
  refine x_goto (pc' := 5) rfl rfl ?_
  refine x_iload (pc' := 7) rfl rfl rfl ?_
  refine x_bipush (pc' := 9) rfl rfl ?_
  refine x_icmp (a' := 108) (pc' := 12) (z := false) rfl rfl rfl (by decide) (fun h => by cases h) (fun _ => ?_)
  refine x_iconst (pc' := 13) rfl rfl ?_
  refine x_istore (pc' := 15) (ls' := [_, _, _, _, _, _, _, _, _, _, _]) rfl rfl rfl rfl ?_
  refine x_aload_n (pc' := 16) rfl rfl rfl rfl rfl ?_
  refine x_gR (pc' := 19) (r := (some 0)) rfl rfl rfl (z_R_320_0 e) ?_
  refine x_astore (pc' := 21) (ls' := [_, _, _, _, _, _, _, _, _, _, _]) rfl rfl rfl rfl rfl ?_
  refine x_aload (pc' := 23) rfl rfl rfl rfl rfl ?_
  refine x_alen (pc' := 24) (N := 3) rfl rfl rfl (z_N_25_0 e) (?_ : X _ _ _ (.inl 3 :: _) _ _)
  refine x_istore (pc' := 26) (ls' := [_, _, _, _, _, _, _, _, _, _, _]) rfl rfl rfl rfl ?_
  refine x_iconst (pc' := 27) rfl rfl ?_
  refine x_istore (pc' := 29) (ls' := [_, _, _, _, _, _, _, _, _, _, _]) rfl rfl rfl rfl ?_
  refine x_iload (pc' := 31) rfl rfl rfl ?_
  refine x_iload (pc' := 33) rfl rfl rfl ?_
  refine x_icmp (a' := 95) (pc' := 36) (z := false) rfl rfl rfl (by decide) (fun h => by cases h) (fun _ => ?_)
  refine x_aload (pc' := 38) rfl rfl rfl rfl rfl ?_
  refine x_iload (pc' := 40) rfl rfl rfl ?_
  refine x_aald (pc' := 41) (N := 3) (k' := 2) (r := (some 0)) rfl rfl rfl (z_N_25_0 e) (io_in (p := 0) (N := 3) (by decide) (by decide)) (Eq.trans (congrArg (sE t 25 0) (nn_io (p := 0) (by decide))) (z_E_25_0_0 e)) ?_
  refine x_astore (pc' := 43) (ls' := [_, _, _, _, _, _, _, _, _, _, _]) rfl rfl rfl rfl rfl ?_
  refine x_aload_n (pc' := 44) rfl rfl rfl rfl rfl ?_
  refine x_aload (pc' := 46) rfl rfl rfl rfl rfl ?_
  refine x_cv (ls0 := [_, _, sJk]) (rest := []) rfl rfl rfl rfl rfl ?_
  refine x_aload_n (pc' := 1) rfl rfl rfl rfl rfl ?_
  refine x_gI (pc' := 4) (x := 0) rfl rfl rfl (z_I_128_0 e) ?_
  refine x_istore_n (pc' := 5) (ls' := [_, _, _]) rfl rfl rfl rfl ?_
  refine x_iload_n (pc' := 6) rfl rfl rfl ?_
  refine x_if (a' := 27) (pc' := 9) (z := false) rfl rfl rfl (by decide) (fun h => by cases h) (fun _ => ?_)
  refine x_iload_n (pc' := 10) rfl rfl rfl ?_
  refine x_aload_n (pc' := 11) rfl rfl rfl rfl rfl ?_
  refine x_gR (pc' := 14) (r := (some (m + 1))) rfl rfl rfl (kMp (Cn_e e) hm).1 ?_
  refine x_alen (pc' := 15) (N := 3) rfl rfl rfl (kMp (Cn_e e) hm).2.1 (?_ : X _ _ _ (.inl 3 :: _) _ _)
  refine x_icmp (a' := 27) (pc' := 18) (z := false) rfl rfl rfl (by decide) (fun h => by cases h) (fun _ => ?_)
  refine x_aload_n (pc' := 19) rfl rfl rfl rfl rfl ?_
  refine x_gR (pc' := 22) (r := (some (m + 1))) rfl rfl rfl (kMp (Cn_e e) hm).1 ?_
  refine x_iload_n (pc' := 23) rfl rfl rfl ?_
  refine x_iald (pc' := 24) (N := 3) (x := 0) rfl rfl rfl (kMp (Cn_e e) hm).2.1 (io_in (p := 0) (N := 3) (by decide) (by decide)) (Eq.trans (congrArg (sA t 20 (m + 1)) (nn_io (p := 0) (by decide))) (z_A_20_yy e _ _)) ?_
  refine x_goto (pc' := 28) rfl rfl ?_
  refine x_reti rfl rfl ?_
  refine sK_i (pc' := 49) rfl ?_
  refine x_istore (pc' := 51) (ls' := [_, _, _, _, _, _, _, _, _, _, _]) rfl rfl rfl rfl ?_
  refine x_iload (pc' := 53) rfl rfl rfl ?_
  refine x_aload_n (pc' := 54) rfl rfl rfl rfl rfl ?_
  refine x_ifnonnull (a' := 61) (pc' := 57) rfl rfl rfl rfl (fun i h => by cases h) (fun _ => ?_)
  refine x_iconst (pc' := 58) rfl rfl ?_
  refine x_goto (pc' := 67) rfl rfl ?_
  refine x_iadd (pc' := 68) (z := 0) rfl rfl (by decide) ?_
  refine x_istore (pc' := 70) (ls' := [_, _, _, _, _, _, _, _, _, _, _]) rfl rfl rfl rfl ?_
  refine x_iload (pc' := 72) rfl rfl rfl ?_
  refine x_iload (pc' := 74) rfl rfl rfl ?_
  refine x_aload_n (pc' := 75) rfl rfl rfl rfl rfl ?_
  refine x_iload (pc' := 77) rfl rfl rfl ?_
  refine x_aload (pc' := 79) rfl rfl rfl rfl rfl ?_
  refine x_gI (pc' := 82) (x := 0) rfl rfl rfl (z_I_128_0 e) ?_
  refine x_cv (ls0 := [_, _, _, sJk]) (rest := [_, _]) rfl rfl rfl rfl rfl ?_
  refine x_iload_n (pc' := 1) rfl rfl rfl ?_
  refine x_iconst (pc' := 2) rfl rfl ?_
  refine x_imul (pc' := 3) (z := 15) rfl rfl (by decide) ?_
  refine x_iload_n (pc' := 4) rfl rfl rfl ?_
  refine x_iadd (pc' := 5) (z := 15) rfl rfl (by decide) ?_
  refine x_istore_n (pc' := 6) (ls' := [_, _, _, _]) rfl rfl rfl rfl ?_
  refine x_iload_n (pc' := 7) rfl rfl rfl ?_
  refine x_if (a' := 28) (pc' := 10) (z := false) rfl rfl rfl (by decide) (fun h => by cases h) (fun _ => ?_)
  refine x_iload_n (pc' := 11) rfl rfl rfl ?_
  refine x_aload_n (pc' := 12) rfl rfl rfl rfl rfl ?_
  refine x_gR (pc' := 15) (r := (some 0)) rfl rfl rfl (z_R_323_0 e) ?_
  refine x_alen (pc' := 16) (N := 18) rfl rfl rfl (z_N_20_0 e) (?_ : X _ _ _ (.inl 18 :: _) _ _)
  refine x_icmp (a' := 28) (pc' := 19) (z := false) rfl rfl rfl (by decide) (fun h => by cases h) (fun _ => ?_)
  refine x_aload_n (pc' := 20) rfl rfl rfl rfl rfl ?_
  refine x_gR (pc' := 23) (r := (some 0)) rfl rfl rfl (z_R_323_0 e) ?_
  refine x_iload_n (pc' := 24) rfl rfl rfl ?_
  refine x_iald (pc' := 25) (N := 18) (x := 0) rfl rfl rfl (z_N_20_0 e) (io_in (p := 15) (N := 18) (by decide) (by decide)) (Eq.trans (congrArg (sA t 20 0) (nn_io (p := 15) (by decide))) (z_A_20_0_15 e)) ?_
  refine x_goto (pc' := 29) rfl rfl ?_
  refine x_reti rfl rfl ?_
  refine sK_i (pc' := 85) rfl ?_
  refine x_imul (pc' := 86) (z := 0) rfl rfl (by decide) ?_
  refine x_isub (pc' := 87) (z := 0) rfl rfl (by decide) ?_
  refine x_istore (pc' := 89) (ls' := [_, _, _, _, _, _, _, _, _, _, _]) rfl rfl rfl rfl ?_
  refine x_iinc (pc' := 92) (y := 1) (ls' := [_, _, _, _, _, _, _, _, _, _, _]) rfl rfl rfl rfl rfl ?_
  refine x_goto (pc' := 29) rfl rfl ?_
  refine x_iload (pc' := 31) rfl rfl rfl ?_
  refine x_iload (pc' := 33) rfl rfl rfl ?_
  refine x_icmp (a' := 95) (pc' := 36) (z := false) rfl rfl rfl (by decide) (fun h => by cases h) (fun _ => ?_)
  refine x_aload (pc' := 38) rfl rfl rfl rfl rfl ?_
  refine x_iload (pc' := 40) rfl rfl rfl ?_
  refine x_aald (pc' := 41) (N := 3) (k' := 2) (r := (some 1)) rfl rfl rfl (z_N_25_0 e) (io_in (p := 1) (N := 3) (by decide) (by decide)) (Eq.trans (congrArg (sE t 25 0) (nn_io (p := 1) (by decide))) (z_E_25_0_1 e)) ?_
  refine x_astore (pc' := 43) (ls' := [_, _, _, _, _, _, _, _, _, _, _]) rfl rfl rfl rfl rfl ?_
  refine x_aload_n (pc' := 44) rfl rfl rfl rfl rfl ?_
  refine x_aload (pc' := 46) rfl rfl rfl rfl rfl ?_
  refine x_cv (ls0 := [_, _, sJk]) (rest := []) rfl rfl rfl rfl rfl ?_
  refine x_aload_n (pc' := 1) rfl rfl rfl rfl rfl ?_
  refine x_gI (pc' := 4) (x := 1) rfl rfl rfl (z_I_128_1 e) ?_
  refine x_istore_n (pc' := 5) (ls' := [_, _, _]) rfl rfl rfl rfl ?_
  refine x_iload_n (pc' := 6) rfl rfl rfl ?_
  refine x_if (a' := 27) (pc' := 9) (z := false) rfl rfl rfl (by decide) (fun h => by cases h) (fun _ => ?_)
  refine x_iload_n (pc' := 10) rfl rfl rfl ?_
  refine x_aload_n (pc' := 11) rfl rfl rfl rfl rfl ?_
  refine x_gR (pc' := 14) (r := (some (m + 1))) rfl rfl rfl (kMp (Cn_e e) hm).1 ?_
  refine x_alen (pc' := 15) (N := 3) rfl rfl rfl (kMp (Cn_e e) hm).2.1 (?_ : X _ _ _ (.inl 3 :: _) _ _)
  refine x_icmp (a' := 27) (pc' := 18) (z := false) rfl rfl rfl (by decide) (fun h => by cases h) (fun _ => ?_)
  refine x_aload_n (pc' := 19) rfl rfl rfl rfl rfl ?_
  refine x_gR (pc' := 22) (r := (some (m + 1))) rfl rfl rfl (kMp (Cn_e e) hm).1 ?_
  refine x_iload_n (pc' := 23) rfl rfl rfl ?_
  refine x_iald (pc' := 24) (N := 3) (x := 0) rfl rfl rfl (kMp (Cn_e e) hm).2.1 (io_in (p := 1) (N := 3) (by decide) (by decide)) (Eq.trans (congrArg (sA t 20 (m + 1)) (nn_io (p := 1) (by decide))) (z_A_20_yy e _ _)) ?_
  refine x_goto (pc' := 28) rfl rfl ?_
  refine x_reti rfl rfl ?_
  refine sK_i (pc' := 49) rfl ?_
  refine x_istore (pc' := 51) (ls' := [_, _, _, _, _, _, _, _, _, _, _]) rfl rfl rfl rfl ?_
  refine x_iload (pc' := 53) rfl rfl rfl ?_
  refine x_aload_n (pc' := 54) rfl rfl rfl rfl rfl ?_
  refine x_ifnonnull (a' := 61) (pc' := 57) rfl rfl rfl rfl (fun i h => by cases h) (fun _ => ?_)
  refine x_iconst (pc' := 58) rfl rfl ?_
  refine x_goto (pc' := 67) rfl rfl ?_
  refine x_iadd (pc' := 68) (z := 0) rfl rfl (by decide) ?_
  refine x_istore (pc' := 70) (ls' := [_, _, _, _, _, _, _, _, _, _, _]) rfl rfl rfl rfl ?_
  refine x_iload (pc' := 72) rfl rfl rfl ?_
  refine x_iload (pc' := 74) rfl rfl rfl ?_
  refine x_aload_n (pc' := 75) rfl rfl rfl rfl rfl ?_
  refine x_iload (pc' := 77) rfl rfl rfl ?_
  refine x_aload (pc' := 79) rfl rfl rfl rfl rfl ?_
  refine x_gI (pc' := 82) (x := 1) rfl rfl rfl (z_I_128_1 e) ?_
  refine x_cv (ls0 := [_, _, _, sJk]) (rest := [_, _]) rfl rfl rfl rfl rfl ?_
  refine x_iload_n (pc' := 1) rfl rfl rfl ?_
  refine x_iconst (pc' := 2) rfl rfl ?_
  refine x_imul (pc' := 3) (z := 15) rfl rfl (by decide) ?_
  refine x_iload_n (pc' := 4) rfl rfl rfl ?_
  refine x_iadd (pc' := 5) (z := 16) rfl rfl (by decide) ?_
  refine x_istore_n (pc' := 6) (ls' := [_, _, _, _]) rfl rfl rfl rfl ?_
  refine x_iload_n (pc' := 7) rfl rfl rfl ?_
  refine x_if (a' := 28) (pc' := 10) (z := false) rfl rfl rfl (by decide) (fun h => by cases h) (fun _ => ?_)
  refine x_iload_n (pc' := 11) rfl rfl rfl ?_
  refine x_aload_n (pc' := 12) rfl rfl rfl rfl rfl ?_
  refine x_gR (pc' := 15) (r := (some 0)) rfl rfl rfl (z_R_323_0 e) ?_
  refine x_alen (pc' := 16) (N := 18) rfl rfl rfl (z_N_20_0 e) (?_ : X _ _ _ (.inl 18 :: _) _ _)
  refine x_icmp (a' := 28) (pc' := 19) (z := false) rfl rfl rfl (by decide) (fun h => by cases h) (fun _ => ?_)
  refine x_aload_n (pc' := 20) rfl rfl rfl rfl rfl ?_
  refine x_gR (pc' := 23) (r := (some 0)) rfl rfl rfl (z_R_323_0 e) ?_
  refine x_iload_n (pc' := 24) rfl rfl rfl ?_
  refine x_iald (pc' := 25) (N := 18) (x := 0) rfl rfl rfl (z_N_20_0 e) (io_in (p := 16) (N := 18) (by decide) (by decide)) (Eq.trans (congrArg (sA t 20 0) (nn_io (p := 16) (by decide))) (z_A_20_0_16 e)) ?_
  refine x_goto (pc' := 29) rfl rfl ?_
  refine x_reti rfl rfl ?_
  refine sK_i (pc' := 85) rfl ?_
  refine x_imul (pc' := 86) (z := 0) rfl rfl (by decide) ?_
  refine x_isub (pc' := 87) (z := 0) rfl rfl (by decide) ?_
  refine x_istore (pc' := 89) (ls' := [_, _, _, _, _, _, _, _, _, _, _]) rfl rfl rfl rfl ?_
  refine x_iinc (pc' := 92) (y := 2) (ls' := [_, _, _, _, _, _, _, _, _, _, _]) rfl rfl rfl rfl rfl ?_
  refine x_goto (pc' := 29) rfl rfl ?_
  refine x_iload (pc' := 31) rfl rfl rfl ?_
  refine x_iload (pc' := 33) rfl rfl rfl ?_
  refine x_icmp (a' := 95) (pc' := 36) (z := false) rfl rfl rfl (by decide) (fun h => by cases h) (fun _ => ?_)
  refine x_aload (pc' := 38) rfl rfl rfl rfl rfl ?_
  refine x_iload (pc' := 40) rfl rfl rfl ?_
  refine x_aald (pc' := 41) (N := 3) (k' := 2) (r := (some 2)) rfl rfl rfl (z_N_25_0 e) (io_in (p := 2) (N := 3) (by decide) (by decide)) (Eq.trans (congrArg (sE t 25 0) (nn_io (p := 2) (by decide))) (z_E_25_0_2 e)) ?_
  refine x_astore (pc' := 43) (ls' := [_, _, _, _, _, _, _, _, _, _, _]) rfl rfl rfl rfl rfl ?_
  refine x_aload_n (pc' := 44) rfl rfl rfl rfl rfl ?_
  refine x_aload (pc' := 46) rfl rfl rfl rfl rfl ?_
  refine x_cv (ls0 := [_, _, sJk]) (rest := []) rfl rfl rfl rfl rfl ?_
  refine x_aload_n (pc' := 1) rfl rfl rfl rfl rfl ?_
  refine x_gI (pc' := 4) (x := 2) rfl rfl rfl (z_I_128_2 e) ?_
  refine x_istore_n (pc' := 5) (ls' := [_, _, _]) rfl rfl rfl rfl ?_
  refine x_iload_n (pc' := 6) rfl rfl rfl ?_
  refine x_if (a' := 27) (pc' := 9) (z := false) rfl rfl rfl (by decide) (fun h => by cases h) (fun _ => ?_)
  refine x_iload_n (pc' := 10) rfl rfl rfl ?_
  refine x_aload_n (pc' := 11) rfl rfl rfl rfl rfl ?_
  refine x_gR (pc' := 14) (r := (some (m + 1))) rfl rfl rfl (kMp (Cn_e e) hm).1 ?_
  refine x_alen (pc' := 15) (N := 3) rfl rfl rfl (kMp (Cn_e e) hm).2.1 (?_ : X _ _ _ (.inl 3 :: _) _ _)
  refine x_icmp (a' := 27) (pc' := 18) (z := false) rfl rfl rfl (by decide) (fun h => by cases h) (fun _ => ?_)
  refine x_aload_n (pc' := 19) rfl rfl rfl rfl rfl ?_
  refine x_gR (pc' := 22) (r := (some (m + 1))) rfl rfl rfl (kMp (Cn_e e) hm).1 ?_
  refine x_iload_n (pc' := 23) rfl rfl rfl ?_
  refine x_iald (pc' := 24) (N := 3) (x := 0) rfl rfl rfl (kMp (Cn_e e) hm).2.1 (io_in (p := 2) (N := 3) (by decide) (by decide)) (Eq.trans (congrArg (sA t 20 (m + 1)) (nn_io (p := 2) (by decide))) (z_A_20_yy e _ _)) ?_
  refine x_goto (pc' := 28) rfl rfl ?_
  refine x_reti rfl rfl ?_
  refine sK_i (pc' := 49) rfl ?_
  refine x_istore (pc' := 51) (ls' := [_, _, _, _, _, _, _, _, _, _, _]) rfl rfl rfl rfl ?_
  refine x_iload (pc' := 53) rfl rfl rfl ?_
  refine x_aload_n (pc' := 54) rfl rfl rfl rfl rfl ?_
  refine x_ifnonnull (a' := 61) (pc' := 57) rfl rfl rfl rfl (fun i h => by cases h) (fun _ => ?_)
  refine x_iconst (pc' := 58) rfl rfl ?_
  refine x_goto (pc' := 67) rfl rfl ?_
  refine x_iadd (pc' := 68) (z := 0) rfl rfl (by decide) ?_
  refine x_istore (pc' := 70) (ls' := [_, _, _, _, _, _, _, _, _, _, _]) rfl rfl rfl rfl ?_
  refine x_iload (pc' := 72) rfl rfl rfl ?_
  refine x_iload (pc' := 74) rfl rfl rfl ?_
  refine x_aload_n (pc' := 75) rfl rfl rfl rfl rfl ?_
  refine x_iload (pc' := 77) rfl rfl rfl ?_
  refine x_aload (pc' := 79) rfl rfl rfl rfl rfl ?_
  refine x_gI (pc' := 82) (x := 2) rfl rfl rfl (z_I_128_2 e) ?_
  refine x_cv (ls0 := [_, _, _, sJk]) (rest := [_, _]) rfl rfl rfl rfl rfl ?_
  refine x_iload_n (pc' := 1) rfl rfl rfl ?_
  refine x_iconst (pc' := 2) rfl rfl ?_
  refine x_imul (pc' := 3) (z := 15) rfl rfl (by decide) ?_
  refine x_iload_n (pc' := 4) rfl rfl rfl ?_
  refine x_iadd (pc' := 5) (z := 17) rfl rfl (by decide) ?_
  refine x_istore_n (pc' := 6) (ls' := [_, _, _, _]) rfl rfl rfl rfl ?_
  refine x_iload_n (pc' := 7) rfl rfl rfl ?_
  refine x_if (a' := 28) (pc' := 10) (z := false) rfl rfl rfl (by decide) (fun h => by cases h) (fun _ => ?_)
  refine x_iload_n (pc' := 11) rfl rfl rfl ?_
  refine x_aload_n (pc' := 12) rfl rfl rfl rfl rfl ?_
  refine x_gR (pc' := 15) (r := (some 0)) rfl rfl rfl (z_R_323_0 e) ?_
  refine x_alen (pc' := 16) (N := 18) rfl rfl rfl (z_N_20_0 e) (?_ : X _ _ _ (.inl 18 :: _) _ _)
  refine x_icmp (a' := 28) (pc' := 19) (z := false) rfl rfl rfl (by decide) (fun h => by cases h) (fun _ => ?_)
  refine x_aload_n (pc' := 20) rfl rfl rfl rfl rfl ?_
  refine x_gR (pc' := 23) (r := (some 0)) rfl rfl rfl (z_R_323_0 e) ?_
  refine x_iload_n (pc' := 24) rfl rfl rfl ?_
  refine x_iald (pc' := 25) (N := 18) (x := 0) rfl rfl rfl (z_N_20_0 e) (io_in (p := 17) (N := 18) (by decide) (by decide)) (Eq.trans (congrArg (sA t 20 0) (nn_io (p := 17) (by decide))) (z_A_20_0_17 e)) ?_
  refine x_goto (pc' := 29) rfl rfl ?_
  refine x_reti rfl rfl ?_
  refine sK_i (pc' := 85) rfl ?_
  refine x_imul (pc' := 86) (z := 0) rfl rfl (by decide) ?_
  refine x_isub (pc' := 87) (z := 0) rfl rfl (by decide) ?_
  refine x_istore (pc' := 89) (ls' := [_, _, _, _, _, _, _, _, _, _, _]) rfl rfl rfl rfl ?_
  refine x_iinc (pc' := 92) (y := 3) (ls' := [_, _, _, _, _, _, _, _, _, _, _]) rfl rfl rfl rfl rfl ?_
  refine x_goto (pc' := 29) rfl rfl ?_
  refine x_iload (pc' := 31) rfl rfl rfl ?_
  refine x_iload (pc' := 33) rfl rfl rfl ?_
  refine x_icmp (a' := 95) (pc' := 36) (z := true) rfl rfl rfl (by decide) (fun _ => ?_) (fun h => by cases h)
  refine x_iload_n (pc' := 96) rfl rfl rfl ?_
  refine x_iload (pc' := 98) rfl rfl rfl ?_
  refine x_max (pc' := 101) (z := 0) rfl rfl rfl (by decide) ?_
  refine x_istore_n (pc' := 102) (ls' := [_, _, _, _, _, _, _, _, _, _, _]) rfl rfl rfl rfl ?_
  refine x_iinc (pc' := 105) (y := 6) (ls' := [_, _, _, _, _, _, _, _, _, _, _]) rfl rfl rfl rfl rfl ?_
  refine x_goto (pc' := 5) rfl rfl ?_
  refine x_iload (pc' := 7) rfl rfl rfl ?_
  refine x_bipush (pc' := 9) rfl rfl ?_
  refine x_icmp (a' := 108) (pc' := 12) (z := true) rfl rfl rfl (by decide) (fun _ => ?_) (fun h => by cases h)
  refine x_iload_n (pc' := 109) rfl rfl rfl ?_
  refine x_reti rfl rfl ?_
  refine sK_i (pc' := 13) rfl ?_
  refine x_reti rfl rfl ?_
  refine sK_i (pc' := 7) rfl ?_
  refine x_i2l (pc' := 8) (z := (0 : Int64)) rfl rfl (by decide) ?_
  refine x_last (pc' := 9) (N := 1) (p := 0) rfl rfl (z_N_23_0 e) (io_in (p := 0) (N := 1) (by decide) (by decide)) (nn_io (p := 0) (by decide)) ?_
  refine x_goto (pc' := 15) rfl rfl ?_
  refine x_iconst (pc' := 16) rfl rfl ?_
  refine x_reti rfl rfl ?_
  refine sK_i (pc' := 2692) rfl ?_
  refine x_istore (pc' := 2694) (ls' := [_, _, _, _, _, _, _]) rfl rfl rfl rfl ?_
  refine x_aload_n (pc' := 2695) rfl rfl rfl rfl rfl ?_
  refine x_aload_n (pc' := 2696) rfl rfl rfl rfl rfl ?_
  refine x_iload (pc' := 2698) rfl rfl rfl ?_
  refine x_iconst (pc' := 2699) rfl rfl ?_
  refine x_iadd (pc' := 2700) (z := 1) rfl rfl (by decide) ?_
  refine x_iald (pc' := 2701) (N := 7) (x := (io m)) rfl rfl rfl (Eq.trans rdNL (z_N_29_0 e)) (io_in (p := 1) (N := 7) (by decide) (by decide)) (Eq.trans (congrArg (sA (sLw t 23 0 0 (0 : Int64)) 29 0) (nn_io (p := 1) (by decide))) (Eq.trans rdAL (Eq.trans (z_A_29_0_1 e) e0))) ?_
  refine x_cv (ls0 := [_, _]) (rest := []) rfl rfl rfl rfl rfl ?_
  refine x_aload_n (pc' := 1) rfl rfl rfl rfl rfl ?_
  refine x_iload_n (pc' := 2) rfl rfl rfl ?_
  refine x_cv (ls0 := [_, _]) (rest := []) rfl rfl rfl rfl rfl ?_
  refine x_aload_n (pc' := 1) rfl rfl rfl rfl rfl ?_
  refine x_iload_n (pc' := 2) rfl rfl rfl ?_
  refine x_cs (ls0 := [_]) (rest := [_]) rfl rfl rfl rfl ?_
  refine x_iload_n (pc' := 1) rfl rfl rfl ?_
  refine x_iconst (pc' := 2) rfl rfl ?_
  refine x_iconst (pc' := 3) rfl rfl ?_
  refine x_cs (ls0 := [_, _, _]) (rest := []) rfl rfl rfl rfl ?_
  refine x_iload_n (pc' := 1) rfl rfl rfl ?_
  refine x_iload_n (pc' := 2) rfl rfl rfl ?_
  refine x_icmp (a' := 14) (pc' := 5) (z := decide (m < 0)) rfl rfl rfl (ic_lt (p := m) (q := 0) (Nat.lt_trans hm (by decide)) (by decide)) (fun h => absurd (of_decide_eq_true h) (by first | decide | omega | simp)) (fun _ => ?_)
  refine x_iload_n (pc' := 6) rfl rfl rfl ?_
  refine x_iload_n (pc' := 7) rfl rfl rfl ?_
  refine x_icmp (a' := 14) (pc' := 10) (z := decide (5 < m)) rfl rfl rfl (ic_gt (p := m) (q := 5) (Nat.lt_trans hm (by decide)) (by decide)) (fun h => absurd (of_decide_eq_true h) (fun z => absurd hm (Nat.not_lt.mpr z))) (fun _ => ?_)
  refine x_iconst (pc' := 11) rfl rfl ?_
  refine x_goto (pc' := 15) rfl rfl ?_
  refine x_retz (z := true) rfl rfl ?_
  refine sK_i (pc' := 6) rfl ?_
  refine x_retz (z := true) rfl rfl ?_
  refine sK_i (pc' := 5) rfl ?_
  refine x_if (a' := 12) (pc' := 8) (z := false) rfl rfl rfl (by decide) (fun h => by cases h) (fun _ => ?_)
  refine x_iconst (pc' := 9) rfl rfl ?_
  refine x_goto (pc' := 13) rfl rfl ?_
  refine x_cv (ls0 := [_, _]) (rest := []) rfl rfl rfl rfl rfl ?_
  refine x_aload_n (pc' := 1) rfl rfl rfl rfl rfl ?_
  refine x_iload_n (pc' := 2) rfl rfl rfl ?_
  refine x_pI (pc' := 5) rfl rfl rfl ?_
  refine x_iload_n (pc' := 6) rfl rfl rfl ?_
  refine x_if (a' := 13) (pc' := 9) (z := false) rfl rfl rfl (by decide) (fun h => by cases h) (fun _ => ?_)
  refine x_iconst (pc' := 10) rfl rfl ?_
  refine x_goto (pc' := 14) rfl rfl ?_
  refine x_retz (z := true) rfl rfl ?_
  refine sK_i (pc' := 16) rfl ?_
  refine x_retz (z := true) rfl rfl ?_
  refine sK_i (pc' := 5) rfl ?_
  refine x_if (a' := 16) (pc' := 8) (z := false) rfl rfl rfl (by decide) (fun h => by cases h) (fun _ => ?_)
  refine x_aload_n (pc' := 9) rfl rfl rfl rfl rfl ?_
  refine x_iload_n (pc' := 10) rfl rfl rfl ?_
  refine x_cv (ls0 := [_, _]) (rest := []) rfl rfl rfl rfl rfl ?_
  refine x_aload_n (pc' := 1) rfl rfl rfl rfl rfl ?_
  refine x_aload_n (pc' := 2) rfl rfl rfl rfl rfl ?_
  refine x_gR (pc' := 5) (r := (some 6)) rfl rfl rfl (Eq.trans rdRI (Eq.trans rdRL (z_R_776_0 e))) ?_
  refine x_iconst (pc' := 6) rfl rfl ?_
  refine x_iload_n (pc' := 7) rfl rfl rfl ?_
  refine x_imul (pc' := 8) (z := (io (3 * m))) rfl rfl (io_mul 3 m) ?_
  refine x_iald (pc' := 9) (N := 18) (x := 0) rfl rfl rfl (Eq.trans rdNI (Eq.trans rdNL (z_N_21_6 e))) (io_in (p := (3 * m)) (N := 18) (show (3 * m) < 18 by omega) (by decide)) (Eq.trans (congrArg (sA (sIw (sLw t 23 0 0 (0 : Int64)) 768 0 0) 21 6) (nn_io (p := (3 * m)) (Nat.lt_trans (show (3 * m) < 18 by omega) (by decide)))) (Eq.trans rdAI (Eq.trans rdAL (z_A_21_6_y e _)))) ?_
  refine x_aload_n (pc' := 10) rfl rfl rfl rfl rfl ?_
  refine x_gR (pc' := 13) (r := (some 6)) rfl rfl rfl (Eq.trans rdRI (Eq.trans rdRL (z_R_776_0 e))) ?_
  refine x_iconst (pc' := 14) rfl rfl ?_
  refine x_iload_n (pc' := 15) rfl rfl rfl ?_
  refine x_imul (pc' := 16) (z := (io (3 * m))) rfl rfl (io_mul 3 m) ?_
  refine x_iconst (pc' := 17) rfl rfl ?_
  refine x_iadd (pc' := 18) (z := (io ((3 * m) + 1))) rfl rfl (io_add (3 * m) 1) ?_
  refine x_iald (pc' := 19) (N := 18) (x := 0) rfl rfl rfl (Eq.trans rdNI (Eq.trans rdNL (z_N_21_6 e))) (io_in (p := ((3 * m) + 1)) (N := 18) (show ((3 * m) + 1) < 18 by omega) (by decide)) (Eq.trans (congrArg (sA (sIw (sLw t 23 0 0 (0 : Int64)) 768 0 0) 21 6) (nn_io (p := ((3 * m) + 1)) (Nat.lt_trans (show ((3 * m) + 1) < 18 by omega) (by decide)))) (Eq.trans rdAI (Eq.trans rdAL (z_A_21_6_y e _)))) ?_
  refine x_aload_n (pc' := 20) rfl rfl rfl rfl rfl ?_
  refine x_gR (pc' := 23) (r := (some 6)) rfl rfl rfl (Eq.trans rdRI (Eq.trans rdRL (z_R_776_0 e))) ?_
  refine x_iconst (pc' := 24) rfl rfl ?_
  refine x_iload_n (pc' := 25) rfl rfl rfl ?_
  refine x_imul (pc' := 26) (z := (io (3 * m))) rfl rfl (io_mul 3 m) ?_
  refine x_iconst (pc' := 27) rfl rfl ?_
  refine x_iadd (pc' := 28) (z := (io ((3 * m) + 2))) rfl rfl (io_add (3 * m) 2) ?_
  refine x_iald (pc' := 29) (N := 18) (x := 0) rfl rfl rfl (Eq.trans rdNI (Eq.trans rdNL (z_N_21_6 e))) (io_in (p := ((3 * m) + 2)) (N := 18) (show ((3 * m) + 2) < 18 by omega) (by decide)) (Eq.trans (congrArg (sA (sIw (sLw t 23 0 0 (0 : Int64)) 768 0 0) 21 6) (nn_io (p := ((3 * m) + 2)) (Nat.lt_trans (show ((3 * m) + 2) < 18 by omega) (by decide)))) (Eq.trans rdAI (Eq.trans rdAL (z_A_21_6_y e _)))) ?_
  refine x_cv (ls0 := [_, _, _, _, sJk, sJk, sJk]) (rest := []) rfl rfl rfl rfl rfl ?_
  refine x_iconst (pc' := 1) rfl rfl ?_
  refine x_istore (pc' := 3) (ls' := [_, _, _, _, _, _, _]) rfl rfl rfl rfl ?_
  refine x_iconst (pc' := 4) rfl rfl ?_
  refine x_istore (pc' := 6) (ls' := [_, _, _, _, _, _, _]) rfl rfl rfl rfl ?_
  refine x_iload (pc' := 8) rfl rfl rfl ?_
  refine x_bipush (pc' := 10) rfl rfl ?_
  refine x_icmp (a' := 77) (pc' := 13) (z := false) rfl rfl rfl (by decide) (fun h => by cases h) (fun _ => ?_)
  refine x_iload_n (pc' := 14) rfl rfl rfl ?_
  refine x_aload_n (pc' := 15) rfl rfl rfl rfl rfl ?_
  refine x_gR (pc' := 18) (r := (some 11)) rfl rfl rfl (Eq.trans rdRI (Eq.trans rdRL (z_R_783_0 e))) ?_
  refine x_iconst (pc' := 19) rfl rfl ?_
  refine x_iload (pc' := 21) rfl rfl rfl ?_
  refine x_imul (pc' := 22) (z := 0) rfl rfl (by decide) ?_
  refine x_iald (pc' := 23) (N := 18) (x := 0) rfl rfl rfl (Eq.trans rdNI (Eq.trans rdNL (z_N_21_11 e))) (io_in (p := 0) (N := 18) (by decide) (by decide)) (Eq.trans (congrArg (sA (sIw (sLw t 23 0 0 (0 : Int64)) 768 0 0) 21 11) (nn_io (p := 0) (by decide))) (Eq.trans rdAI (Eq.trans rdAL (z_A_21_11_0 e)))) ?_
  refine x_imul (pc' := 24) (z := 0) rfl rfl (by decide) ?_
  refine x_iload_n (pc' := 25) rfl rfl rfl ?_
  refine x_aload_n (pc' := 26) rfl rfl rfl rfl rfl ?_
  refine x_gR (pc' := 29) (r := (some 11)) rfl rfl rfl (Eq.trans rdRI (Eq.trans rdRL (z_R_783_0 e))) ?_
  refine x_iconst (pc' := 30) rfl rfl ?_
  refine x_iload (pc' := 32) rfl rfl rfl ?_
  refine x_imul (pc' := 33) (z := 0) rfl rfl (by decide) ?_
  refine x_iconst (pc' := 34) rfl rfl ?_
  refine x_iadd (pc' := 35) (z := 1) rfl rfl (by decide) ?_
  refine x_iald (pc' := 36) (N := 18) (x := 0) rfl rfl rfl (Eq.trans rdNI (Eq.trans rdNL (z_N_21_11 e))) (io_in (p := 1) (N := 18) (by decide) (by decide)) (Eq.trans (congrArg (sA (sIw (sLw t 23 0 0 (0 : Int64)) 768 0 0) 21 11) (nn_io (p := 1) (by decide))) (Eq.trans rdAI (Eq.trans rdAL (z_A_21_11_1 e)))) ?_
  refine x_imul (pc' := 37) (z := 0) rfl rfl (by decide) ?_
  refine x_iadd (pc' := 38) (z := 0) rfl rfl (by decide) ?_
  refine x_iload_n (pc' := 39) rfl rfl rfl ?_
  refine x_aload_n (pc' := 40) rfl rfl rfl rfl rfl ?_
  refine x_gR (pc' := 43) (r := (some 11)) rfl rfl rfl (Eq.trans rdRI (Eq.trans rdRL (z_R_783_0 e))) ?_
  refine x_iconst (pc' := 44) rfl rfl ?_
  refine x_iload (pc' := 46) rfl rfl rfl ?_
  refine x_imul (pc' := 47) (z := 0) rfl rfl (by decide) ?_
  refine x_iconst (pc' := 48) rfl rfl ?_
  refine x_iadd (pc' := 49) (z := 2) rfl rfl (by decide) ?_
  refine x_iald (pc' := 50) (N := 18) (x := 0) rfl rfl rfl (Eq.trans rdNI (Eq.trans rdNL (z_N_21_11 e))) (io_in (p := 2) (N := 18) (by decide) (by decide)) (Eq.trans (congrArg (sA (sIw (sLw t 23 0 0 (0 : Int64)) 768 0 0) 21 11) (nn_io (p := 2) (by decide))) (Eq.trans rdAI (Eq.trans rdAL (z_A_21_11_2 e)))) ?_
  refine x_imul (pc' := 51) (z := 0) rfl rfl (by decide) ?_
  refine x_iadd (pc' := 52) (z := 0) rfl rfl (by decide) ?_
  refine x_ineg (pc' := 53) (z := 0) rfl rfl (by decide) ?_
  refine x_istore (pc' := 55) (ls' := [_, _, _, _, _, _, _]) rfl rfl rfl rfl ?_
  refine x_iload (pc' := 57) rfl rfl rfl ?_
  refine x_iload (pc' := 59) rfl rfl rfl ?_
  refine x_icmp (a' := 67) (pc' := 62) (z := true) rfl rfl rfl (by decide) (fun _ => ?_) (fun h => by cases h)
  refine x_iload (pc' := 69) rfl rfl rfl ?_
  refine x_istore (pc' := 71) (ls' := [_, _, _, _, _, _, _]) rfl rfl rfl rfl ?_
  refine x_iinc (pc' := 74) (y := 1) (ls' := [_, _, _, _, _, _, _]) rfl rfl rfl rfl rfl ?_
  refine x_goto (pc' := 6) rfl rfl ?_
  refine x_iload (pc' := 8) rfl rfl rfl ?_
  refine x_bipush (pc' := 10) rfl rfl ?_
  refine x_icmp (a' := 77) (pc' := 13) (z := false) rfl rfl rfl (by decide) (fun h => by cases h) (fun _ => ?_)
  refine x_iload_n (pc' := 14) rfl rfl rfl ?_
  refine x_aload_n (pc' := 15) rfl rfl rfl rfl rfl ?_
  refine x_gR (pc' := 18) (r := (some 11)) rfl rfl rfl (Eq.trans rdRI (Eq.trans rdRL (z_R_783_0 e))) ?_
  refine x_iconst (pc' := 19) rfl rfl ?_
  refine x_iload (pc' := 21) rfl rfl rfl ?_
  refine x_imul (pc' := 22) (z := 3) rfl rfl (by decide) ?_
  refine x_iald (pc' := 23) (N := 18) (x := 0) rfl rfl rfl (Eq.trans rdNI (Eq.trans rdNL (z_N_21_11 e))) (io_in (p := 3) (N := 18) (by decide) (by decide)) (Eq.trans (congrArg (sA (sIw (sLw t 23 0 0 (0 : Int64)) 768 0 0) 21 11) (nn_io (p := 3) (by decide))) (Eq.trans rdAI (Eq.trans rdAL (z_A_21_11_3 e)))) ?_
  refine x_imul (pc' := 24) (z := 0) rfl rfl (by decide) ?_
  refine x_iload_n (pc' := 25) rfl rfl rfl ?_
  refine x_aload_n (pc' := 26) rfl rfl rfl rfl rfl ?_
  refine x_gR (pc' := 29) (r := (some 11)) rfl rfl rfl (Eq.trans rdRI (Eq.trans rdRL (z_R_783_0 e))) ?_
  refine x_iconst (pc' := 30) rfl rfl ?_
  refine x_iload (pc' := 32) rfl rfl rfl ?_
  refine x_imul (pc' := 33) (z := 3) rfl rfl (by decide) ?_
  refine x_iconst (pc' := 34) rfl rfl ?_
  refine x_iadd (pc' := 35) (z := 4) rfl rfl (by decide) ?_
  refine x_iald (pc' := 36) (N := 18) (x := 0) rfl rfl rfl (Eq.trans rdNI (Eq.trans rdNL (z_N_21_11 e))) (io_in (p := 4) (N := 18) (by decide) (by decide)) (Eq.trans (congrArg (sA (sIw (sLw t 23 0 0 (0 : Int64)) 768 0 0) 21 11) (nn_io (p := 4) (by decide))) (Eq.trans rdAI (Eq.trans rdAL (z_A_21_11_4 e)))) ?_
  refine x_imul (pc' := 37) (z := 0) rfl rfl (by decide) ?_
  refine x_iadd (pc' := 38) (z := 0) rfl rfl (by decide) ?_
  refine x_iload_n (pc' := 39) rfl rfl rfl ?_
  refine x_aload_n (pc' := 40) rfl rfl rfl rfl rfl ?_
  refine x_gR (pc' := 43) (r := (some 11)) rfl rfl rfl (Eq.trans rdRI (Eq.trans rdRL (z_R_783_0 e))) ?_
  refine x_iconst (pc' := 44) rfl rfl ?_
  refine x_iload (pc' := 46) rfl rfl rfl ?_
  refine x_imul (pc' := 47) (z := 3) rfl rfl (by decide) ?_
  refine x_iconst (pc' := 48) rfl rfl ?_
  refine x_iadd (pc' := 49) (z := 5) rfl rfl (by decide) ?_
  refine x_iald (pc' := 50) (N := 18) (x := 0) rfl rfl rfl (Eq.trans rdNI (Eq.trans rdNL (z_N_21_11 e))) (io_in (p := 5) (N := 18) (by decide) (by decide)) (Eq.trans (congrArg (sA (sIw (sLw t 23 0 0 (0 : Int64)) 768 0 0) 21 11) (nn_io (p := 5) (by decide))) (Eq.trans rdAI (Eq.trans rdAL (z_A_21_11_5 e)))) ?_
  refine x_imul (pc' := 51) (z := 0) rfl rfl (by decide) ?_
  refine x_iadd (pc' := 52) (z := 0) rfl rfl (by decide) ?_
  refine x_ineg (pc' := 53) (z := 0) rfl rfl (by decide) ?_
  refine x_istore (pc' := 55) (ls' := [_, _, _, _, _, _, _]) rfl rfl rfl rfl ?_
  refine x_iload (pc' := 57) rfl rfl rfl ?_
  refine x_iload (pc' := 59) rfl rfl rfl ?_
  refine x_icmp (a' := 67) (pc' := 62) (z := true) rfl rfl rfl (by decide) (fun _ => ?_) (fun h => by cases h)
  refine x_iload (pc' := 69) rfl rfl rfl ?_
  refine x_istore (pc' := 71) (ls' := [_, _, _, _, _, _, _]) rfl rfl rfl rfl ?_
  refine x_iinc (pc' := 74) (y := 2) (ls' := [_, _, _, _, _, _, _]) rfl rfl rfl rfl rfl ?_
  refine x_goto (pc' := 6) rfl rfl ?_
  refine x_iload (pc' := 8) rfl rfl rfl ?_
  refine x_bipush (pc' := 10) rfl rfl ?_
  refine x_icmp (a' := 77) (pc' := 13) (z := false) rfl rfl rfl (by decide) (fun h => by cases h) (fun _ => ?_)
  refine x_iload_n (pc' := 14) rfl rfl rfl ?_
  refine x_aload_n (pc' := 15) rfl rfl rfl rfl rfl ?_
  refine x_gR (pc' := 18) (r := (some 11)) rfl rfl rfl (Eq.trans rdRI (Eq.trans rdRL (z_R_783_0 e))) ?_
  refine x_iconst (pc' := 19) rfl rfl ?_
  refine x_iload (pc' := 21) rfl rfl rfl ?_
  refine x_imul (pc' := 22) (z := 6) rfl rfl (by decide) ?_
  refine x_iald (pc' := 23) (N := 18) (x := 0) rfl rfl rfl (Eq.trans rdNI (Eq.trans rdNL (z_N_21_11 e))) (io_in (p := 6) (N := 18) (by decide) (by decide)) (Eq.trans (congrArg (sA (sIw (sLw t 23 0 0 (0 : Int64)) 768 0 0) 21 11) (nn_io (p := 6) (by decide))) (Eq.trans rdAI (Eq.trans rdAL (z_A_21_11_6 e)))) ?_
  refine x_imul (pc' := 24) (z := 0) rfl rfl (by decide) ?_
  refine x_iload_n (pc' := 25) rfl rfl rfl ?_
  refine x_aload_n (pc' := 26) rfl rfl rfl rfl rfl ?_
  refine x_gR (pc' := 29) (r := (some 11)) rfl rfl rfl (Eq.trans rdRI (Eq.trans rdRL (z_R_783_0 e))) ?_
  refine x_iconst (pc' := 30) rfl rfl ?_
  refine x_iload (pc' := 32) rfl rfl rfl ?_
  refine x_imul (pc' := 33) (z := 6) rfl rfl (by decide) ?_
  refine x_iconst (pc' := 34) rfl rfl ?_
  refine x_iadd (pc' := 35) (z := 7) rfl rfl (by decide) ?_
  refine x_iald (pc' := 36) (N := 18) (x := 0) rfl rfl rfl (Eq.trans rdNI (Eq.trans rdNL (z_N_21_11 e))) (io_in (p := 7) (N := 18) (by decide) (by decide)) (Eq.trans (congrArg (sA (sIw (sLw t 23 0 0 (0 : Int64)) 768 0 0) 21 11) (nn_io (p := 7) (by decide))) (Eq.trans rdAI (Eq.trans rdAL (z_A_21_11_7 e)))) ?_
  refine x_imul (pc' := 37) (z := 0) rfl rfl (by decide) ?_
  refine x_iadd (pc' := 38) (z := 0) rfl rfl (by decide) ?_
  refine x_iload_n (pc' := 39) rfl rfl rfl ?_
  refine x_aload_n (pc' := 40) rfl rfl rfl rfl rfl ?_
  refine x_gR (pc' := 43) (r := (some 11)) rfl rfl rfl (Eq.trans rdRI (Eq.trans rdRL (z_R_783_0 e))) ?_
  refine x_iconst (pc' := 44) rfl rfl ?_
  refine x_iload (pc' := 46) rfl rfl rfl ?_
  refine x_imul (pc' := 47) (z := 6) rfl rfl (by decide) ?_
  refine x_iconst (pc' := 48) rfl rfl ?_
  refine x_iadd (pc' := 49) (z := 8) rfl rfl (by decide) ?_
  refine x_iald (pc' := 50) (N := 18) (x := 0) rfl rfl rfl (Eq.trans rdNI (Eq.trans rdNL (z_N_21_11 e))) (io_in (p := 8) (N := 18) (by decide) (by decide)) (Eq.trans (congrArg (sA (sIw (sLw t 23 0 0 (0 : Int64)) 768 0 0) 21 11) (nn_io (p := 8) (by decide))) (Eq.trans rdAI (Eq.trans rdAL (z_A_21_11_8 e)))) ?_
  refine x_imul (pc' := 51) (z := 0) rfl rfl (by decide) ?_
  refine x_iadd (pc' := 52) (z := 0) rfl rfl (by decide) ?_
  refine x_ineg (pc' := 53) (z := 0) rfl rfl (by decide) ?_
  refine x_istore (pc' := 55) (ls' := [_, _, _, _, _, _, _]) rfl rfl rfl rfl ?_
  refine x_iload (pc' := 57) rfl rfl rfl ?_
  refine x_iload (pc' := 59) rfl rfl rfl ?_
  refine x_icmp (a' := 67) (pc' := 62) (z := true) rfl rfl rfl (by decide) (fun _ => ?_) (fun h => by cases h)
  refine x_iload (pc' := 69) rfl rfl rfl ?_
  refine x_istore (pc' := 71) (ls' := [_, _, _, _, _, _, _]) rfl rfl rfl rfl ?_
  refine x_iinc (pc' := 74) (y := 3) (ls' := [_, _, _, _, _, _, _]) rfl rfl rfl rfl rfl ?_
  refine x_goto (pc' := 6) rfl rfl ?_
  refine x_iload (pc' := 8) rfl rfl rfl ?_
  refine x_bipush (pc' := 10) rfl rfl ?_
  refine x_icmp (a' := 77) (pc' := 13) (z := false) rfl rfl rfl (by decide) (fun h => by cases h) (fun _ => ?_)
  refine x_iload_n (pc' := 14) rfl rfl rfl ?_
  refine x_aload_n (pc' := 15) rfl rfl rfl rfl rfl ?_
  refine x_gR (pc' := 18) (r := (some 11)) rfl rfl rfl (Eq.trans rdRI (Eq.trans rdRL (z_R_783_0 e))) ?_
  refine x_iconst (pc' := 19) rfl rfl ?_
  refine x_iload (pc' := 21) rfl rfl rfl ?_
  refine x_imul (pc' := 22) (z := 9) rfl rfl (by decide) ?_
  refine x_iald (pc' := 23) (N := 18) (x := 0) rfl rfl rfl (Eq.trans rdNI (Eq.trans rdNL (z_N_21_11 e))) (io_in (p := 9) (N := 18) (by decide) (by decide)) (Eq.trans (congrArg (sA (sIw (sLw t 23 0 0 (0 : Int64)) 768 0 0) 21 11) (nn_io (p := 9) (by decide))) (Eq.trans rdAI (Eq.trans rdAL (z_A_21_11_9 e)))) ?_
  refine x_imul (pc' := 24) (z := 0) rfl rfl (by decide) ?_
  refine x_iload_n (pc' := 25) rfl rfl rfl ?_
  refine x_aload_n (pc' := 26) rfl rfl rfl rfl rfl ?_
  refine x_gR (pc' := 29) (r := (some 11)) rfl rfl rfl (Eq.trans rdRI (Eq.trans rdRL (z_R_783_0 e))) ?_
  refine x_iconst (pc' := 30) rfl rfl ?_
  refine x_iload (pc' := 32) rfl rfl rfl ?_
  refine x_imul (pc' := 33) (z := 9) rfl rfl (by decide) ?_
  refine x_iconst (pc' := 34) rfl rfl ?_
  refine x_iadd (pc' := 35) (z := 10) rfl rfl (by decide) ?_
  refine x_iald (pc' := 36) (N := 18) (x := 0) rfl rfl rfl (Eq.trans rdNI (Eq.trans rdNL (z_N_21_11 e))) (io_in (p := 10) (N := 18) (by decide) (by decide)) (Eq.trans (congrArg (sA (sIw (sLw t 23 0 0 (0 : Int64)) 768 0 0) 21 11) (nn_io (p := 10) (by decide))) (Eq.trans rdAI (Eq.trans rdAL (z_A_21_11_10 e)))) ?_
  refine x_imul (pc' := 37) (z := 0) rfl rfl (by decide) ?_
  refine x_iadd (pc' := 38) (z := 0) rfl rfl (by decide) ?_
  refine x_iload_n (pc' := 39) rfl rfl rfl ?_
  refine x_aload_n (pc' := 40) rfl rfl rfl rfl rfl ?_
  refine x_gR (pc' := 43) (r := (some 11)) rfl rfl rfl (Eq.trans rdRI (Eq.trans rdRL (z_R_783_0 e))) ?_
  refine x_iconst (pc' := 44) rfl rfl ?_
  refine x_iload (pc' := 46) rfl rfl rfl ?_
  refine x_imul (pc' := 47) (z := 9) rfl rfl (by decide) ?_
  refine x_iconst (pc' := 48) rfl rfl ?_
  refine x_iadd (pc' := 49) (z := 11) rfl rfl (by decide) ?_
  refine x_iald (pc' := 50) (N := 18) (x := 0) rfl rfl rfl (Eq.trans rdNI (Eq.trans rdNL (z_N_21_11 e))) (io_in (p := 11) (N := 18) (by decide) (by decide)) (Eq.trans (congrArg (sA (sIw (sLw t 23 0 0 (0 : Int64)) 768 0 0) 21 11) (nn_io (p := 11) (by decide))) (Eq.trans rdAI (Eq.trans rdAL (z_A_21_11_11 e)))) ?_
  refine x_imul (pc' := 51) (z := 0) rfl rfl (by decide) ?_
  refine x_iadd (pc' := 52) (z := 0) rfl rfl (by decide) ?_
  refine x_ineg (pc' := 53) (z := 0) rfl rfl (by decide) ?_
  refine x_istore (pc' := 55) (ls' := [_, _, _, _, _, _, _]) rfl rfl rfl rfl ?_
  refine x_iload (pc' := 57) rfl rfl rfl ?_
  refine x_iload (pc' := 59) rfl rfl rfl ?_
  refine x_icmp (a' := 67) (pc' := 62) (z := true) rfl rfl rfl (by decide) (fun _ => ?_) (fun h => by cases h)
  refine x_iload (pc' := 69) rfl rfl rfl ?_
  refine x_istore (pc' := 71) (ls' := [_, _, _, _, _, _, _]) rfl rfl rfl rfl ?_
  refine x_iinc (pc' := 74) (y := 4) (ls' := [_, _, _, _, _, _, _]) rfl rfl rfl rfl rfl ?_
  refine x_goto (pc' := 6) rfl rfl ?_
  refine x_iload (pc' := 8) rfl rfl rfl ?_
  refine x_bipush (pc' := 10) rfl rfl ?_
  refine x_icmp (a' := 77) (pc' := 13) (z := false) rfl rfl rfl (by decide) (fun h => by cases h) (fun _ => ?_)
  refine x_iload_n (pc' := 14) rfl rfl rfl ?_
  refine x_aload_n (pc' := 15) rfl rfl rfl rfl rfl ?_
  refine x_gR (pc' := 18) (r := (some 11)) rfl rfl rfl (Eq.trans rdRI (Eq.trans rdRL (z_R_783_0 e))) ?_
  refine x_iconst (pc' := 19) rfl rfl ?_
  refine x_iload (pc' := 21) rfl rfl rfl ?_
  refine x_imul (pc' := 22) (z := 12) rfl rfl (by decide) ?_
  refine x_iald (pc' := 23) (N := 18) (x := 0) rfl rfl rfl (Eq.trans rdNI (Eq.trans rdNL (z_N_21_11 e))) (io_in (p := 12) (N := 18) (by decide) (by decide)) (Eq.trans (congrArg (sA (sIw (sLw t 23 0 0 (0 : Int64)) 768 0 0) 21 11) (nn_io (p := 12) (by decide))) (Eq.trans rdAI (Eq.trans rdAL (z_A_21_11_12 e)))) ?_
  refine x_imul (pc' := 24) (z := 0) rfl rfl (by decide) ?_
  refine x_iload_n (pc' := 25) rfl rfl rfl ?_
  refine x_aload_n (pc' := 26) rfl rfl rfl rfl rfl ?_
  refine x_gR (pc' := 29) (r := (some 11)) rfl rfl rfl (Eq.trans rdRI (Eq.trans rdRL (z_R_783_0 e))) ?_
  refine x_iconst (pc' := 30) rfl rfl ?_
  refine x_iload (pc' := 32) rfl rfl rfl ?_
  refine x_imul (pc' := 33) (z := 12) rfl rfl (by decide) ?_
  refine x_iconst (pc' := 34) rfl rfl ?_
  refine x_iadd (pc' := 35) (z := 13) rfl rfl (by decide) ?_
  refine x_iald (pc' := 36) (N := 18) (x := 0) rfl rfl rfl (Eq.trans rdNI (Eq.trans rdNL (z_N_21_11 e))) (io_in (p := 13) (N := 18) (by decide) (by decide)) (Eq.trans (congrArg (sA (sIw (sLw t 23 0 0 (0 : Int64)) 768 0 0) 21 11) (nn_io (p := 13) (by decide))) (Eq.trans rdAI (Eq.trans rdAL (z_A_21_11_13 e)))) ?_
  refine x_imul (pc' := 37) (z := 0) rfl rfl (by decide) ?_
  refine x_iadd (pc' := 38) (z := 0) rfl rfl (by decide) ?_
  refine x_iload_n (pc' := 39) rfl rfl rfl ?_
  refine x_aload_n (pc' := 40) rfl rfl rfl rfl rfl ?_
  refine x_gR (pc' := 43) (r := (some 11)) rfl rfl rfl (Eq.trans rdRI (Eq.trans rdRL (z_R_783_0 e))) ?_
  refine x_iconst (pc' := 44) rfl rfl ?_
  refine x_iload (pc' := 46) rfl rfl rfl ?_
  refine x_imul (pc' := 47) (z := 12) rfl rfl (by decide) ?_
  refine x_iconst (pc' := 48) rfl rfl ?_
  refine x_iadd (pc' := 49) (z := 14) rfl rfl (by decide) ?_
  refine x_iald (pc' := 50) (N := 18) (x := 0) rfl rfl rfl (Eq.trans rdNI (Eq.trans rdNL (z_N_21_11 e))) (io_in (p := 14) (N := 18) (by decide) (by decide)) (Eq.trans (congrArg (sA (sIw (sLw t 23 0 0 (0 : Int64)) 768 0 0) 21 11) (nn_io (p := 14) (by decide))) (Eq.trans rdAI (Eq.trans rdAL (z_A_21_11_14 e)))) ?_
  refine x_imul (pc' := 51) (z := 0) rfl rfl (by decide) ?_
  refine x_iadd (pc' := 52) (z := 0) rfl rfl (by decide) ?_
  refine x_ineg (pc' := 53) (z := 0) rfl rfl (by decide) ?_
  refine x_istore (pc' := 55) (ls' := [_, _, _, _, _, _, _]) rfl rfl rfl rfl ?_
  refine x_iload (pc' := 57) rfl rfl rfl ?_
  refine x_iload (pc' := 59) rfl rfl rfl ?_
  refine x_icmp (a' := 67) (pc' := 62) (z := true) rfl rfl rfl (by decide) (fun _ => ?_) (fun h => by cases h)
  refine x_iload (pc' := 69) rfl rfl rfl ?_
  refine x_istore (pc' := 71) (ls' := [_, _, _, _, _, _, _]) rfl rfl rfl rfl ?_
  refine x_iinc (pc' := 74) (y := 5) (ls' := [_, _, _, _, _, _, _]) rfl rfl rfl rfl rfl ?_
  refine x_goto (pc' := 6) rfl rfl ?_
  refine x_iload (pc' := 8) rfl rfl rfl ?_
  refine x_bipush (pc' := 10) rfl rfl ?_
  refine x_icmp (a' := 77) (pc' := 13) (z := false) rfl rfl rfl (by decide) (fun h => by cases h) (fun _ => ?_)
  refine x_iload_n (pc' := 14) rfl rfl rfl ?_
  refine x_aload_n (pc' := 15) rfl rfl rfl rfl rfl ?_
  refine x_gR (pc' := 18) (r := (some 11)) rfl rfl rfl (Eq.trans rdRI (Eq.trans rdRL (z_R_783_0 e))) ?_
  refine x_iconst (pc' := 19) rfl rfl ?_
  refine x_iload (pc' := 21) rfl rfl rfl ?_
  refine x_imul (pc' := 22) (z := 15) rfl rfl (by decide) ?_
  refine x_iald (pc' := 23) (N := 18) (x := 0) rfl rfl rfl (Eq.trans rdNI (Eq.trans rdNL (z_N_21_11 e))) (io_in (p := 15) (N := 18) (by decide) (by decide)) (Eq.trans (congrArg (sA (sIw (sLw t 23 0 0 (0 : Int64)) 768 0 0) 21 11) (nn_io (p := 15) (by decide))) (Eq.trans rdAI (Eq.trans rdAL (z_A_21_11_15 e)))) ?_
  refine x_imul (pc' := 24) (z := 0) rfl rfl (by decide) ?_
  refine x_iload_n (pc' := 25) rfl rfl rfl ?_
  refine x_aload_n (pc' := 26) rfl rfl rfl rfl rfl ?_
  refine x_gR (pc' := 29) (r := (some 11)) rfl rfl rfl (Eq.trans rdRI (Eq.trans rdRL (z_R_783_0 e))) ?_
  refine x_iconst (pc' := 30) rfl rfl ?_
  refine x_iload (pc' := 32) rfl rfl rfl ?_
  refine x_imul (pc' := 33) (z := 15) rfl rfl (by decide) ?_
  refine x_iconst (pc' := 34) rfl rfl ?_
  refine x_iadd (pc' := 35) (z := 16) rfl rfl (by decide) ?_
  refine x_iald (pc' := 36) (N := 18) (x := 0) rfl rfl rfl (Eq.trans rdNI (Eq.trans rdNL (z_N_21_11 e))) (io_in (p := 16) (N := 18) (by decide) (by decide)) (Eq.trans (congrArg (sA (sIw (sLw t 23 0 0 (0 : Int64)) 768 0 0) 21 11) (nn_io (p := 16) (by decide))) (Eq.trans rdAI (Eq.trans rdAL (z_A_21_11_16 e)))) ?_
  refine x_imul (pc' := 37) (z := 0) rfl rfl (by decide) ?_
  refine x_iadd (pc' := 38) (z := 0) rfl rfl (by decide) ?_
  refine x_iload_n (pc' := 39) rfl rfl rfl ?_
  refine x_aload_n (pc' := 40) rfl rfl rfl rfl rfl ?_
  refine x_gR (pc' := 43) (r := (some 11)) rfl rfl rfl (Eq.trans rdRI (Eq.trans rdRL (z_R_783_0 e))) ?_
  refine x_iconst (pc' := 44) rfl rfl ?_
  refine x_iload (pc' := 46) rfl rfl rfl ?_
  refine x_imul (pc' := 47) (z := 15) rfl rfl (by decide) ?_
  refine x_iconst (pc' := 48) rfl rfl ?_
  refine x_iadd (pc' := 49) (z := 17) rfl rfl (by decide) ?_
  refine x_iald (pc' := 50) (N := 18) (x := 0) rfl rfl rfl (Eq.trans rdNI (Eq.trans rdNL (z_N_21_11 e))) (io_in (p := 17) (N := 18) (by decide) (by decide)) (Eq.trans (congrArg (sA (sIw (sLw t 23 0 0 (0 : Int64)) 768 0 0) 21 11) (nn_io (p := 17) (by decide))) (Eq.trans rdAI (Eq.trans rdAL (z_A_21_11_17 e)))) ?_
  refine x_imul (pc' := 51) (z := 0) rfl rfl (by decide) ?_
  refine x_iadd (pc' := 52) (z := 0) rfl rfl (by decide) ?_
  refine x_ineg (pc' := 53) (z := 0) rfl rfl (by decide) ?_
  refine x_istore (pc' := 55) (ls' := [_, _, _, _, _, _, _]) rfl rfl rfl rfl ?_
  refine x_iload (pc' := 57) rfl rfl rfl ?_
  refine x_iload (pc' := 59) rfl rfl rfl ?_
  refine x_icmp (a' := 67) (pc' := 62) (z := true) rfl rfl rfl (by decide) (fun _ => ?_) (fun h => by cases h)
  refine x_iload (pc' := 69) rfl rfl rfl ?_
  refine x_istore (pc' := 71) (ls' := [_, _, _, _, _, _, _]) rfl rfl rfl rfl ?_
  refine x_iinc (pc' := 74) (y := 6) (ls' := [_, _, _, _, _, _, _]) rfl rfl rfl rfl rfl ?_
  refine x_goto (pc' := 6) rfl rfl ?_
  refine x_iload (pc' := 8) rfl rfl rfl ?_
  refine x_bipush (pc' := 10) rfl rfl ?_
  refine x_icmp (a' := 77) (pc' := 13) (z := true) rfl rfl rfl (by decide) (fun _ => ?_) (fun h => by cases h)
  refine x_iload (pc' := 79) rfl rfl rfl ?_
  refine x_reti rfl rfl ?_
  refine sK_i (pc' := 32) rfl ?_
  refine x_reti rfl rfl ?_
  refine sK_i (pc' := 13) rfl ?_
  refine x_goto (pc' := 17) rfl rfl ?_
  refine x_reti rfl rfl ?_
  refine sK_i (pc' := 2704) rfl ?_
  refine x_istore (pc' := 2706) (ls' := [_, _, _, _, _, _, _]) rfl rfl rfl rfl ?_
  refine x_aload_n (pc' := 2707) rfl rfl rfl rfl rfl ?_
  refine x_cv (ls0 := [_]) (rest := []) rfl rfl rfl rfl rfl ?_
  refine x_aload_n (pc' := 1) rfl rfl rfl rfl rfl ?_
  refine x_gI (pc' := 4) (x := 0) rfl rfl rfl sI_s ?_
  refine x_reti rfl rfl ?_
  refine sK_i (pc' := 2710) rfl ?_
  refine x_iload (pc' := 2712) rfl rfl rfl ?_
  refine x_icmp (a' := 2717) (pc' := 2715) (z := true) rfl rfl rfl (by decide) (fun _ => ?_) (fun h => by cases h)
  refine x_iload (pc' := 2719) rfl rfl rfl ?_
  refine x_if (a' := 2734) (pc' := 2722) (z := false) rfl rfl rfl (by decide) (fun h => by cases h) (fun _ => ?_)
  refine x_aload_n (pc' := 2723) rfl rfl rfl rfl rfl ?_
  refine x_iconst (pc' := 2724) rfl rfl ?_
  refine x_lald (pc' := 2725) (N := 1) (x := (0 : Int64)) rfl rfl (Eq.trans rdNI (Eq.trans rdNL (z_N_23_0 e))) (io_in (p := 0) (N := 1) (by decide) (by decide)) (Eq.trans (congrArg (sL (sIw (sLw t 23 0 0 (0 : Int64)) 768 0 0) 23 0) (nn_io (p := 0) (by decide))) (Eq.trans rdLI sL_s)) ?_
  refine x_iload (pc' := 2727) rfl rfl rfl ?_
  refine x_i2l (pc' := 2728) (z := (0 : Int64)) rfl rfl (by decide) ?_
  refine x_lcmp (pc' := 2729) (z := 0) rfl rfl (sLcmp_s _) ?_
  refine x_if (a' := 2734) (pc' := 2732) (z := true) rfl rfl rfl (by decide) (fun _ => ?_) (fun h => by cases h)
  refine x_goto (pc' := 2938) rfl rfl ?_
  refine x_iinc (pc' := 2941) (y := 7) (ls' := [_, _, _, _, _, _, _]) rfl rfl rfl rfl rfl ?_
  refine x_goto (pc' := 23) rfl rfl ?_
  refine x_iload (pc' := 25) rfl rfl rfl ?_
  refine x_aload_n (pc' := 26) rfl rfl rfl rfl rfl ?_
  refine x_alen (pc' := 27) (N := 7) rfl rfl rfl (Eq.trans rdNI (Eq.trans rdNL (z_N_29_0 e))) (?_ : X _ _ _ (.inl 7 :: _) _ _)
  refine x_bipush (pc' := 29) rfl rfl ?_
  refine x_isub (pc' := 30) (z := 0) rfl rfl (by decide) ?_
  refine x_icmp (a' := 2944) (pc' := 33) (z := true) rfl rfl rfl (by decide) (fun _ => ?_) (fun h => by cases h)
  refine x_iconst (pc' := 2945) rfl rfl ?_
  refine x_retz (z := true) rfl rfl ?_
  exact Qp_ok e (p := 0) (q := 0) rfl rfl rfl rfl
set_option maxHeartbeats 4000000 in
set_option maxRecDepth 10000 in
theorem v_36_A {t : sT} {xs : Nat → Int32}
    (e : t = T16 7 xs)
    (hk : ((xs 0) &&& 63) = 36)
    (e0 : (xs 1) < 0) :
    X 297 23 [.inr (.inr (29, (some 0))), .inr (.inr (11, (some 0))), .inr (.inr (12, (some 0))), .inr (.inr (23, (some 0))), .inl 0, sJk, sJk] [] t Qp := by
  refine x_iload (pc' := 25) rfl rfl rfl ?_
  refine x_aload_n (pc' := 26) rfl rfl rfl rfl rfl ?_
  refine x_alen (pc' := 27) (N := 7) rfl rfl rfl (z_N_29_0 e) (?_ : X _ _ _ (.inl 7 :: _) _ _)
  refine x_bipush (pc' := 29) rfl rfl ?_
  refine x_isub (pc' := 30) (z := 0) rfl rfl (by decide) ?_
  refine x_icmp (a' := 2944) (pc' := 33) (z := false) rfl rfl rfl (by decide) (fun h => by cases h) (fun _ => ?_)
  refine x_aload_n (pc' := 34) rfl rfl rfl rfl rfl ?_
  refine x_iload (pc' := 36) rfl rfl rfl ?_
  refine x_iald (pc' := 37) (N := 7) (x := (xs 0)) rfl rfl rfl (z_N_29_0 e) (io_in (p := 0) (N := 7) (by decide) (by decide)) (Eq.trans (congrArg (sA t 29 0) (nn_io (p := 0) (by decide))) (z_A_29_0_0 e)) ?_
  refine x_bipush (pc' := 39) rfl rfl ?_
  refine x_iand (pc' := 40) (z := ((xs 0) &&& 63)) rfl rfl rfl ?_
  refine x_switch (pc' := 2681) rfl (by rw [hk]; decide) ?_
  refine x_aload_n (pc' := 2682) rfl rfl rfl rfl rfl ?_
  refine x_aload_n (pc' := 2683) rfl rfl rfl rfl rfl ?_
  refine x_iload (pc' := 2685) rfl rfl rfl ?_
  refine x_iconst (pc' := 2686) rfl rfl ?_
  refine x_iadd (pc' := 2687) (z := 1) rfl rfl (by decide) ?_
  refine x_iald (pc' := 2688) (N := 7) (x := (xs 1)) rfl rfl rfl (z_N_29_0 e) (io_in (p := 1) (N := 7) (by decide) (by decide)) (Eq.trans (congrArg (sA t 29 0) (nn_io (p := 1) (by decide))) (z_A_29_0_1 e)) ?_
  refine x_aload_n (pc' := 2689) rfl rfl rfl rfl rfl ?_
  refine x_cs (ls0 := [_, _, _, sJk]) (rest := []) rfl rfl rfl rfl ?_
  refine x_aload_n (pc' := 1) rfl rfl rfl rfl rfl ?_
  refine x_iconst (pc' := 2) rfl rfl ?_
  refine x_aload_n (pc' := 3) rfl rfl rfl rfl rfl ?_
  refine x_iload_n (pc' := 4) rfl rfl rfl ?_
  refine x_cv (ls0 := [_, _]) (rest := [_, _]) rfl rfl rfl rfl rfl ?_
  refine x_aload_n (pc' := 1) rfl rfl rfl rfl rfl ?_
  refine x_gR (pc' := 4) (r := (some 0)) rfl rfl rfl (z_R_704_0 e) ?_
  refine x_aload_n (pc' := 5) rfl rfl rfl rfl rfl ?_
  refine x_iload_n (pc' := 6) rfl rfl rfl ?_
  refine x_cv (ls0 := [_, _]) (rest := [_]) rfl rfl rfl rfl rfl ?_
  refine x_iload_n (pc' := 1) rfl rfl rfl ?_
  refine x_if (a' := 16) (pc' := 4) (z := decide ((xs 1) < 0)) rfl rfl rfl rfl (fun _ => ?_) (fun h => absurd e0 (of_decide_eq_false h))
  refine x_throw rfl rfl ?_
  refine sK_n (by decide +kernel) rfl ?_
  refine sK_h (h := 12) (by decide +kernel) rfl ?_
  refine x_catch_n (pc' := 13) (ls' := [_, _, _, _]) rfl rfl rfl rfl ?_
  refine x_iconst (pc' := 14) rfl rfl ?_
  refine x_reti rfl rfl ?_
  refine sK_i (pc' := 2692) rfl ?_
  refine x_istore (pc' := 2694) (ls' := [_, _, _, _, _, _, _]) rfl rfl rfl rfl ?_
  refine x_aload_n (pc' := 2695) rfl rfl rfl rfl rfl ?_
  refine x_aload_n (pc' := 2696) rfl rfl rfl rfl rfl ?_
  refine x_iload (pc' := 2698) rfl rfl rfl ?_
  refine x_iconst (pc' := 2699) rfl rfl ?_
  refine x_iadd (pc' := 2700) (z := 1) rfl rfl (by decide) ?_
  refine x_iald (pc' := 2701) (N := 7) (x := (xs 1)) rfl rfl rfl (Eq.trans rdNthr (z_N_29_0 e)) (io_in (p := 1) (N := 7) (by decide) (by decide)) (Eq.trans (congrArg (sA (sThr t) 29 0) (nn_io (p := 1) (by decide))) (Eq.trans rdAthr (z_A_29_0_1 e))) ?_
  refine x_cv (ls0 := [_, _]) (rest := []) rfl rfl rfl rfl rfl ?_
  refine x_aload_n (pc' := 1) rfl rfl rfl rfl rfl ?_
  refine x_iload_n (pc' := 2) rfl rfl rfl ?_
  refine x_cv (ls0 := [_, _]) (rest := []) rfl rfl rfl rfl rfl ?_
  refine x_aload_n (pc' := 1) rfl rfl rfl rfl rfl ?_
  refine x_iload_n (pc' := 2) rfl rfl rfl ?_
  refine x_cs (ls0 := [_]) (rest := [_]) rfl rfl rfl rfl ?_
  refine x_iload_n (pc' := 1) rfl rfl rfl ?_
  refine x_iconst (pc' := 2) rfl rfl ?_
  refine x_iconst (pc' := 3) rfl rfl ?_
  refine x_cs (ls0 := [_, _, _]) (rest := []) rfl rfl rfl rfl ?_
  refine x_iload_n (pc' := 1) rfl rfl rfl ?_
  refine x_iload_n (pc' := 2) rfl rfl rfl ?_
  refine x_icmp (a' := 14) (pc' := 5) (z := decide ((xs 1) < 0)) rfl rfl rfl rfl (fun _ => ?_) (fun h => absurd e0 (of_decide_eq_false h))
  refine x_iconst (pc' := 15) rfl rfl ?_
  refine x_retz (z := false) rfl rfl ?_
  refine sK_i (pc' := 6) rfl ?_
  refine x_retz (z := false) rfl rfl ?_
  refine sK_i (pc' := 5) rfl ?_
  refine x_if (a' := 12) (pc' := 8) (z := true) rfl rfl rfl (by decide) (fun _ => ?_) (fun h => by cases h)
  refine x_iconst (pc' := 13) rfl rfl ?_
  refine x_cv (ls0 := [_, _]) (rest := []) rfl rfl rfl rfl rfl ?_
  refine x_aload_n (pc' := 1) rfl rfl rfl rfl rfl ?_
  refine x_iload_n (pc' := 2) rfl rfl rfl ?_
  refine x_pI (pc' := 5) rfl rfl rfl ?_
  refine x_iload_n (pc' := 6) rfl rfl rfl ?_
  refine x_if (a' := 13) (pc' := 9) (z := true) rfl rfl rfl (by decide) (fun _ => ?_) (fun h => by cases h)
  refine x_iconst (pc' := 14) rfl rfl ?_
  refine x_retz (z := false) rfl rfl ?_
  refine sK_i (pc' := 16) rfl ?_
  refine x_retz (z := false) rfl rfl ?_
  refine sK_i (pc' := 5) rfl ?_
  refine x_if (a' := 16) (pc' := 8) (z := true) rfl rfl rfl (by decide) (fun _ => ?_) (fun h => by cases h)
  refine x_iconst (pc' := 17) rfl rfl ?_
  refine x_reti rfl rfl ?_
  refine sK_i (pc' := 2704) rfl ?_
  refine x_istore (pc' := 2706) (ls' := [_, _, _, _, _, _, _]) rfl rfl rfl rfl ?_
  refine x_aload_n (pc' := 2707) rfl rfl rfl rfl rfl ?_
  refine x_cv (ls0 := [_]) (rest := []) rfl rfl rfl rfl rfl ?_
  refine x_aload_n (pc' := 1) rfl rfl rfl rfl rfl ?_
  refine x_gI (pc' := 4) (x := 1) rfl rfl rfl sI_s ?_
  refine x_reti rfl rfl ?_
  refine sK_i (pc' := 2710) rfl ?_
  refine x_iload (pc' := 2712) rfl rfl rfl ?_
  refine x_icmp (a' := 2717) (pc' := 2715) (z := true) rfl rfl rfl (by decide) (fun _ => ?_) (fun h => by cases h)
  refine x_iload (pc' := 2719) rfl rfl rfl ?_
  refine x_if (a' := 2734) (pc' := 2722) (z := true) rfl rfl rfl (by decide) (fun _ => ?_) (fun h => by cases h)
  refine x_goto (pc' := 2938) rfl rfl ?_
  refine x_iinc (pc' := 2941) (y := 7) (ls' := [_, _, _, _, _, _, _]) rfl rfl rfl rfl rfl ?_
  refine x_goto (pc' := 23) rfl rfl ?_
  refine x_iload (pc' := 25) rfl rfl rfl ?_
  refine x_aload_n (pc' := 26) rfl rfl rfl rfl rfl ?_
  refine x_alen (pc' := 27) (N := 7) rfl rfl rfl (Eq.trans rdNI (Eq.trans rdNthr (z_N_29_0 e))) (?_ : X _ _ _ (.inl 7 :: _) _ _)
  refine x_bipush (pc' := 29) rfl rfl ?_
  refine x_isub (pc' := 30) (z := 0) rfl rfl (by decide) ?_
  refine x_icmp (a' := 2944) (pc' := 33) (z := true) rfl rfl rfl (by decide) (fun _ => ?_) (fun h => by cases h)
  refine x_iconst (pc' := 2945) rfl rfl ?_
  refine x_retz (z := true) rfl rfl ?_
  exact Qp_ok e (p := 1) (q := 6) rfl rfl rfl rfl
set_option maxHeartbeats 4000000 in
set_option maxRecDepth 10000 in
theorem v_36_B {t : sT} {xs : Nat → Int32}
    (e : t = T16 7 xs)
    (hk : ((xs 0) &&& 63) = 36)
    (e0 : ¬ (xs 1) < 0)
    (f0 : ¬ (xs 1) < 6) :
    X 297 23 [.inr (.inr (29, (some 0))), .inr (.inr (11, (some 0))), .inr (.inr (12, (some 0))), .inr (.inr (23, (some 0))), .inl 0, sJk, sJk] [] t Qp := by
  refine x_iload (pc' := 25) rfl rfl rfl ?_
  refine x_aload_n (pc' := 26) rfl rfl rfl rfl rfl ?_
  refine x_alen (pc' := 27) (N := 7) rfl rfl rfl (z_N_29_0 e) (?_ : X _ _ _ (.inl 7 :: _) _ _)
  refine x_bipush (pc' := 29) rfl rfl ?_
  refine x_isub (pc' := 30) (z := 0) rfl rfl (by decide) ?_
  refine x_icmp (a' := 2944) (pc' := 33) (z := false) rfl rfl rfl (by decide) (fun h => by cases h) (fun _ => ?_)
  refine x_aload_n (pc' := 34) rfl rfl rfl rfl rfl ?_
  refine x_iload (pc' := 36) rfl rfl rfl ?_
  refine x_iald (pc' := 37) (N := 7) (x := (xs 0)) rfl rfl rfl (z_N_29_0 e) (io_in (p := 0) (N := 7) (by decide) (by decide)) (Eq.trans (congrArg (sA t 29 0) (nn_io (p := 0) (by decide))) (z_A_29_0_0 e)) ?_
  refine x_bipush (pc' := 39) rfl rfl ?_
  refine x_iand (pc' := 40) (z := ((xs 0) &&& 63)) rfl rfl rfl ?_
  refine x_switch (pc' := 2681) rfl (by rw [hk]; decide) ?_
  refine x_aload_n (pc' := 2682) rfl rfl rfl rfl rfl ?_
  refine x_aload_n (pc' := 2683) rfl rfl rfl rfl rfl ?_
  refine x_iload (pc' := 2685) rfl rfl rfl ?_
  refine x_iconst (pc' := 2686) rfl rfl ?_
  refine x_iadd (pc' := 2687) (z := 1) rfl rfl (by decide) ?_
  refine x_iald (pc' := 2688) (N := 7) (x := (xs 1)) rfl rfl rfl (z_N_29_0 e) (io_in (p := 1) (N := 7) (by decide) (by decide)) (Eq.trans (congrArg (sA t 29 0) (nn_io (p := 1) (by decide))) (z_A_29_0_1 e)) ?_
  refine x_aload_n (pc' := 2689) rfl rfl rfl rfl rfl ?_
  refine x_cs (ls0 := [_, _, _, sJk]) (rest := []) rfl rfl rfl rfl ?_
  refine x_aload_n (pc' := 1) rfl rfl rfl rfl rfl ?_
  refine x_iconst (pc' := 2) rfl rfl ?_
  refine x_aload_n (pc' := 3) rfl rfl rfl rfl rfl ?_
  refine x_iload_n (pc' := 4) rfl rfl rfl ?_
  refine x_cv (ls0 := [_, _]) (rest := [_, _]) rfl rfl rfl rfl rfl ?_
  refine x_aload_n (pc' := 1) rfl rfl rfl rfl rfl ?_
  refine x_gR (pc' := 4) (r := (some 0)) rfl rfl rfl (z_R_704_0 e) ?_
  refine x_aload_n (pc' := 5) rfl rfl rfl rfl rfl ?_
  refine x_iload_n (pc' := 6) rfl rfl rfl ?_
  refine x_cv (ls0 := [_, _]) (rest := [_]) rfl rfl rfl rfl rfl ?_
  refine x_iload_n (pc' := 1) rfl rfl rfl ?_
  refine x_if (a' := 16) (pc' := 4) (z := decide ((xs 1) < 0)) rfl rfl rfl rfl (fun h => absurd (of_decide_eq_true h) e0) (fun _ => ?_)
  refine x_iload_n (pc' := 5) rfl rfl rfl ?_
  refine x_aload_n (pc' := 6) rfl rfl rfl rfl rfl ?_
  refine x_gR (pc' := 9) (r := (some 0)) rfl rfl rfl (z_R_704_0 e) ?_
  refine x_gR (pc' := 12) (r := (some 0)) rfl rfl rfl (z_R_321_0 e) ?_
  refine x_alen (pc' := 13) (N := 6) rfl rfl rfl (z_N_26_0 e) (?_ : X _ _ _ (.inl 6 :: _) _ _)
  refine x_icmp (a' := 27) (pc' := 16) (z := decide ((xs 1) < 6)) rfl rfl rfl rfl (fun h => absurd (of_decide_eq_true h) f0) (fun _ => ?_)
  refine x_throw rfl rfl ?_
  refine sK_n (by decide +kernel) rfl ?_
  refine sK_h (h := 12) (by decide +kernel) rfl ?_
  refine x_catch_n (pc' := 13) (ls' := [_, _, _, _]) rfl rfl rfl rfl ?_
  refine x_iconst (pc' := 14) rfl rfl ?_
  refine x_reti rfl rfl ?_
  refine sK_i (pc' := 2692) rfl ?_
  refine x_istore (pc' := 2694) (ls' := [_, _, _, _, _, _, _]) rfl rfl rfl rfl ?_
  refine x_aload_n (pc' := 2695) rfl rfl rfl rfl rfl ?_
  refine x_aload_n (pc' := 2696) rfl rfl rfl rfl rfl ?_
  refine x_iload (pc' := 2698) rfl rfl rfl ?_
  refine x_iconst (pc' := 2699) rfl rfl ?_
  refine x_iadd (pc' := 2700) (z := 1) rfl rfl (by decide) ?_
  refine x_iald (pc' := 2701) (N := 7) (x := (xs 1)) rfl rfl rfl (Eq.trans rdNthr (z_N_29_0 e)) (io_in (p := 1) (N := 7) (by decide) (by decide)) (Eq.trans (congrArg (sA (sThr t) 29 0) (nn_io (p := 1) (by decide))) (Eq.trans rdAthr (z_A_29_0_1 e))) ?_
  refine x_cv (ls0 := [_, _]) (rest := []) rfl rfl rfl rfl rfl ?_
  refine x_aload_n (pc' := 1) rfl rfl rfl rfl rfl ?_
  refine x_iload_n (pc' := 2) rfl rfl rfl ?_
  refine x_cv (ls0 := [_, _]) (rest := []) rfl rfl rfl rfl rfl ?_
  refine x_aload_n (pc' := 1) rfl rfl rfl rfl rfl ?_
  refine x_iload_n (pc' := 2) rfl rfl rfl ?_
  refine x_cs (ls0 := [_]) (rest := [_]) rfl rfl rfl rfl ?_
  refine x_iload_n (pc' := 1) rfl rfl rfl ?_
  refine x_iconst (pc' := 2) rfl rfl ?_
  refine x_iconst (pc' := 3) rfl rfl ?_
  refine x_cs (ls0 := [_, _, _]) (rest := []) rfl rfl rfl rfl ?_
  refine x_iload_n (pc' := 1) rfl rfl rfl ?_
  refine x_iload_n (pc' := 2) rfl rfl rfl ?_
  refine x_icmp (a' := 14) (pc' := 5) (z := decide ((xs 1) < 0)) rfl rfl rfl rfl (fun h => absurd (of_decide_eq_true h) e0) (fun _ => ?_)
  refine x_iload_n (pc' := 6) rfl rfl rfl ?_
  refine x_iload_n (pc' := 7) rfl rfl rfl ?_
  refine x_icmp (a' := 14) (pc' := 10) (z := decide (5 < (xs 1))) rfl rfl rfl rfl (fun _ => ?_) (fun h => absurd (lt_of6 f0) (of_decide_eq_false h))
  refine x_iconst (pc' := 15) rfl rfl ?_
  refine x_retz (z := false) rfl rfl ?_
  refine sK_i (pc' := 6) rfl ?_
  refine x_retz (z := false) rfl rfl ?_
  refine sK_i (pc' := 5) rfl ?_
  refine x_if (a' := 12) (pc' := 8) (z := true) rfl rfl rfl (by decide) (fun _ => ?_) (fun h => by cases h)
  refine x_iconst (pc' := 13) rfl rfl ?_
  refine x_cv (ls0 := [_, _]) (rest := []) rfl rfl rfl rfl rfl ?_
  refine x_aload_n (pc' := 1) rfl rfl rfl rfl rfl ?_
  refine x_iload_n (pc' := 2) rfl rfl rfl ?_
  refine x_pI (pc' := 5) rfl rfl rfl ?_
  refine x_iload_n (pc' := 6) rfl rfl rfl ?_
  refine x_if (a' := 13) (pc' := 9) (z := true) rfl rfl rfl (by decide) (fun _ => ?_) (fun h => by cases h)
  refine x_iconst (pc' := 14) rfl rfl ?_
  refine x_retz (z := false) rfl rfl ?_
  refine sK_i (pc' := 16) rfl ?_
  refine x_retz (z := false) rfl rfl ?_
  refine sK_i (pc' := 5) rfl ?_
  refine x_if (a' := 16) (pc' := 8) (z := true) rfl rfl rfl (by decide) (fun _ => ?_) (fun h => by cases h)
  refine x_iconst (pc' := 17) rfl rfl ?_
  refine x_reti rfl rfl ?_
  refine sK_i (pc' := 2704) rfl ?_
  refine x_istore (pc' := 2706) (ls' := [_, _, _, _, _, _, _]) rfl rfl rfl rfl ?_
  refine x_aload_n (pc' := 2707) rfl rfl rfl rfl rfl ?_
  refine x_cv (ls0 := [_]) (rest := []) rfl rfl rfl rfl rfl ?_
  refine x_aload_n (pc' := 1) rfl rfl rfl rfl rfl ?_
  refine x_gI (pc' := 4) (x := 1) rfl rfl rfl sI_s ?_
  refine x_reti rfl rfl ?_
  refine sK_i (pc' := 2710) rfl ?_
  refine x_iload (pc' := 2712) rfl rfl rfl ?_
  refine x_icmp (a' := 2717) (pc' := 2715) (z := true) rfl rfl rfl (by decide) (fun _ => ?_) (fun h => by cases h)
  refine x_iload (pc' := 2719) rfl rfl rfl ?_
  refine x_if (a' := 2734) (pc' := 2722) (z := true) rfl rfl rfl (by decide) (fun _ => ?_) (fun h => by cases h)
  refine x_goto (pc' := 2938) rfl rfl ?_
  refine x_iinc (pc' := 2941) (y := 7) (ls' := [_, _, _, _, _, _, _]) rfl rfl rfl rfl rfl ?_
  refine x_goto (pc' := 23) rfl rfl ?_
  refine x_iload (pc' := 25) rfl rfl rfl ?_
  refine x_aload_n (pc' := 26) rfl rfl rfl rfl rfl ?_
  refine x_alen (pc' := 27) (N := 7) rfl rfl rfl (Eq.trans rdNI (Eq.trans rdNthr (z_N_29_0 e))) (?_ : X _ _ _ (.inl 7 :: _) _ _)
  refine x_bipush (pc' := 29) rfl rfl ?_
  refine x_isub (pc' := 30) (z := 0) rfl rfl (by decide) ?_
  refine x_icmp (a' := 2944) (pc' := 33) (z := true) rfl rfl rfl (by decide) (fun _ => ?_) (fun h => by cases h)
  refine x_iconst (pc' := 2945) rfl rfl ?_
  refine x_retz (z := true) rfl rfl ?_
  exact Qp_ok e (p := 1) (q := 6) rfl rfl rfl rfl
set_option maxHeartbeats 4000000 in
set_option maxRecDepth 10000 in
theorem v_38_v {t : sT} {xs : Nat → Int32} {m : Nat}
    (e : t = T16 7 xs)
    (hk : ((xs 0) &&& 63) = 38)
    (hm : m < 6)
    (e0 : xs 1 = io m) :
    X 297 23 [.inr (.inr (29, (some 0))), .inr (.inr (11, (some 0))), .inr (.inr (12, (some 0))), .inr (.inr (23, (some 0))), .inl 0, sJk, sJk] [] t Qp := by
  refine x_iload (pc' := 25) rfl rfl rfl ?_
  refine x_aload_n (pc' := 26) rfl rfl rfl rfl rfl ?_
  refine x_alen (pc' := 27) (N := 7) rfl rfl rfl (z_N_29_0 e) (?_ : X _ _ _ (.inl 7 :: _) _ _)
  refine x_bipush (pc' := 29) rfl rfl ?_
  refine x_isub (pc' := 30) (z := 0) rfl rfl (by decide) ?_
  refine x_icmp (a' := 2944) (pc' := 33) (z := false) rfl rfl rfl (by decide) (fun h => by cases h) (fun _ => ?_)
  refine x_aload_n (pc' := 34) rfl rfl rfl rfl rfl ?_
  refine x_iload (pc' := 36) rfl rfl rfl ?_
  refine x_iald (pc' := 37) (N := 7) (x := (xs 0)) rfl rfl rfl (z_N_29_0 e) (io_in (p := 0) (N := 7) (by decide) (by decide)) (Eq.trans (congrArg (sA t 29 0) (nn_io (p := 0) (by decide))) (z_A_29_0_0 e)) ?_
  refine x_bipush (pc' := 39) rfl rfl ?_
  refine x_iand (pc' := 40) (z := ((xs 0) &&& 63)) rfl rfl rfl ?_
  refine x_switch (pc' := 2793) rfl (by rw [hk]; decide) ?_
  refine x_aload_n (pc' := 2794) rfl rfl rfl rfl rfl ?_
  refine x_aload_n (pc' := 2795) rfl rfl rfl rfl rfl ?_
  refine x_iload (pc' := 2797) rfl rfl rfl ?_
  refine x_iconst (pc' := 2798) rfl rfl ?_
  refine x_iadd (pc' := 2799) (z := 1) rfl rfl (by decide) ?_
  refine x_iald (pc' := 2800) (N := 7) (x := (io m)) rfl rfl rfl (z_N_29_0 e) (io_in (p := 1) (N := 7) (by decide) (by decide)) (Eq.trans (congrArg (sA t 29 0) (nn_io (p := 1) (by decide))) (Eq.trans (z_A_29_0_1 e) e0)) ?_
  refine x_aload_n (pc' := 2801) rfl rfl rfl rfl rfl ?_
  refine x_cs (ls0 := [_, _, _, sJk]) (rest := []) rfl rfl rfl rfl ?_
  refine x_aload_n (pc' := 1) rfl rfl rfl rfl rfl ?_
  refine x_iconst (pc' := 2) rfl rfl ?_
  refine x_aload_n (pc' := 3) rfl rfl rfl rfl rfl ?_
  refine x_iload_n (pc' := 4) rfl rfl rfl ?_
  refine x_cv (ls0 := [_, _]) (rest := [_, _]) rfl rfl rfl rfl rfl ?_
  refine x_aload_n (pc' := 1) rfl rfl rfl rfl rfl ?_
  refine x_iload_n (pc' := 2) rfl rfl rfl ?_
  refine x_cv (ls0 := [_, _]) (rest := []) rfl rfl rfl rfl rfl ?_
  refine x_iload_n (pc' := 1) rfl rfl rfl ?_
  refine x_if (a' := 16) (pc' := 4) (z := decide (m < 0)) rfl rfl rfl (ic_lt (p := m) (q := 0) (Nat.lt_trans hm (by decide)) (by decide)) (fun h => absurd (of_decide_eq_true h) (by first | decide | omega | simp)) (fun _ => ?_)
  refine x_iload_n (pc' := 5) rfl rfl rfl ?_
  refine x_aload_n (pc' := 6) rfl rfl rfl rfl rfl ?_
  refine x_gR (pc' := 9) (r := (some 0)) rfl rfl rfl (z_R_704_0 e) ?_
  refine x_gR (pc' := 12) (r := (some 0)) rfl rfl rfl (z_R_321_0 e) ?_
  refine x_alen (pc' := 13) (N := 6) rfl rfl rfl (z_N_26_0 e) (?_ : X _ _ _ (.inl 6 :: _) _ _)
  refine x_icmp (a' := 27) (pc' := 16) (z := decide (m < 6)) rfl rfl rfl (ic_lt (p := m) (q := 6) (Nat.lt_trans hm (by decide)) (by decide)) (fun _ => ?_) (fun h => absurd (Nat.lt_of_lt_of_le hm (by decide)) (of_decide_eq_false h))
  refine x_aload_n (pc' := 28) rfl rfl rfl rfl rfl ?_
  refine x_gR (pc' := 31) (r := (some 0)) rfl rfl rfl (z_R_704_0 e) ?_
  refine x_gR (pc' := 34) (r := (some 0)) rfl rfl rfl (z_R_321_0 e) ?_
  refine x_iload_n (pc' := 35) rfl rfl rfl ?_
  refine x_aald (pc' := 36) (N := 6) (k' := 7) (r := (some m)) rfl rfl rfl (z_N_26_0 e) (io_in (p := m) (N := 6) hm (by decide)) (Eq.trans (congrArg (sE t 26 0) (nn_io (p := m) (Nat.lt_trans hm (by decide)))) (kM (Cn_e e) hm)) ?_
  refine x_reta rfl rfl ?_
  refine sK_i (pc' := 5) rfl ?_
  refine x_gI (pc' := 8) (x := 0) rfl rfl rfl (z_I_452_y e _) ?_
  refine x_reti rfl rfl ?_
  refine sK_i (pc' := 7) rfl ?_
  refine x_i2l (pc' := 8) (z := (0 : Int64)) rfl rfl (by decide) ?_
  refine x_last (pc' := 9) (N := 1) (p := 0) rfl rfl (z_N_23_0 e) (io_in (p := 0) (N := 1) (by decide) (by decide)) (nn_io (p := 0) (by decide)) ?_
  refine x_goto (pc' := 15) rfl rfl ?_
  refine x_iconst (pc' := 16) rfl rfl ?_
  refine x_reti rfl rfl ?_
  refine sK_i (pc' := 2804) rfl ?_
  refine x_istore (pc' := 2806) (ls' := [_, _, _, _, _, _, _]) rfl rfl rfl rfl ?_
  refine x_aload_n (pc' := 2807) rfl rfl rfl rfl rfl ?_
  refine x_aload_n (pc' := 2808) rfl rfl rfl rfl rfl ?_
  refine x_iload (pc' := 2810) rfl rfl rfl ?_
  refine x_iconst (pc' := 2811) rfl rfl ?_
  refine x_iadd (pc' := 2812) (z := 1) rfl rfl (by decide) ?_
  refine x_iald (pc' := 2813) (N := 7) (x := (io m)) rfl rfl rfl (Eq.trans rdNL (z_N_29_0 e)) (io_in (p := 1) (N := 7) (by decide) (by decide)) (Eq.trans (congrArg (sA (sLw t 23 0 0 (0 : Int64)) 29 0) (nn_io (p := 1) (by decide))) (Eq.trans rdAL (Eq.trans (z_A_29_0_1 e) e0))) ?_
  refine x_cv (ls0 := [_, _]) (rest := []) rfl rfl rfl rfl rfl ?_
  refine x_aload_n (pc' := 1) rfl rfl rfl rfl rfl ?_
  refine x_iload_n (pc' := 2) rfl rfl rfl ?_
  refine x_cv (ls0 := [_, _]) (rest := []) rfl rfl rfl rfl rfl ?_
  refine x_aload_n (pc' := 1) rfl rfl rfl rfl rfl ?_
  refine x_iload_n (pc' := 2) rfl rfl rfl ?_
  refine x_cs (ls0 := [_]) (rest := [_]) rfl rfl rfl rfl ?_
  refine x_iload_n (pc' := 1) rfl rfl rfl ?_
  refine x_iconst (pc' := 2) rfl rfl ?_
  refine x_iconst (pc' := 3) rfl rfl ?_
  refine x_cs (ls0 := [_, _, _]) (rest := []) rfl rfl rfl rfl ?_
  refine x_iload_n (pc' := 1) rfl rfl rfl ?_
  refine x_iload_n (pc' := 2) rfl rfl rfl ?_
  refine x_icmp (a' := 14) (pc' := 5) (z := decide (m < 0)) rfl rfl rfl (ic_lt (p := m) (q := 0) (Nat.lt_trans hm (by decide)) (by decide)) (fun h => absurd (of_decide_eq_true h) (by first | decide | omega | simp)) (fun _ => ?_)
  refine x_iload_n (pc' := 6) rfl rfl rfl ?_
  refine x_iload_n (pc' := 7) rfl rfl rfl ?_
  refine x_icmp (a' := 14) (pc' := 10) (z := decide (5 < m)) rfl rfl rfl (ic_gt (p := m) (q := 5) (Nat.lt_trans hm (by decide)) (by decide)) (fun h => absurd (of_decide_eq_true h) (fun z => absurd hm (Nat.not_lt.mpr z))) (fun _ => ?_)
  refine x_iconst (pc' := 11) rfl rfl ?_
  refine x_goto (pc' := 15) rfl rfl ?_
  refine x_retz (z := true) rfl rfl ?_
  refine sK_i (pc' := 6) rfl ?_
  refine x_retz (z := true) rfl rfl ?_
  refine sK_i (pc' := 5) rfl ?_
  refine x_if (a' := 12) (pc' := 8) (z := false) rfl rfl rfl (by decide) (fun h => by cases h) (fun _ => ?_)
  refine x_iconst (pc' := 9) rfl rfl ?_
  refine x_goto (pc' := 13) rfl rfl ?_
  refine x_cv (ls0 := [_, _]) (rest := []) rfl rfl rfl rfl rfl ?_
  refine x_aload_n (pc' := 1) rfl rfl rfl rfl rfl ?_
  refine x_iload_n (pc' := 2) rfl rfl rfl ?_
  refine x_pI (pc' := 5) rfl rfl rfl ?_
  refine x_iload_n (pc' := 6) rfl rfl rfl ?_
  refine x_if (a' := 13) (pc' := 9) (z := false) rfl rfl rfl (by decide) (fun h => by cases h) (fun _ => ?_)
  refine x_iconst (pc' := 10) rfl rfl ?_
  refine x_goto (pc' := 14) rfl rfl ?_
  refine x_retz (z := true) rfl rfl ?_
  refine sK_i (pc' := 16) rfl ?_
  refine x_retz (z := true) rfl rfl ?_
  refine sK_i (pc' := 5) rfl ?_
  refine x_if (a' := 17) (pc' := 8) (z := false) rfl rfl rfl (by decide) (fun h => by cases h) (fun _ => ?_)
  refine x_aload_n (pc' := 9) rfl rfl rfl rfl rfl ?_
  refine x_gR (pc' := 12) (r := (some 7)) rfl rfl rfl (Eq.trans rdRI (Eq.trans rdRL (z_R_777_0 e))) ?_
  refine x_iload_n (pc' := 13) rfl rfl rfl ?_
  refine x_iald (pc' := 14) (N := 6) (x := 0) rfl rfl rfl (Eq.trans rdNI (Eq.trans rdNL (z_N_21_7 e))) (io_in (p := m) (N := 6) hm (by decide)) (Eq.trans (congrArg (sA (sIw (sLw t 23 0 0 (0 : Int64)) 768 0 0) 21 7) (nn_io (p := m) (Nat.lt_trans hm (by decide)))) (Eq.trans rdAI (Eq.trans rdAL (z_A_21_7_y e _)))) ?_
  refine x_goto (pc' := 18) rfl rfl ?_
  refine x_reti rfl rfl ?_
  refine sK_i (pc' := 2816) rfl ?_
  refine x_istore (pc' := 2818) (ls' := [_, _, _, _, _, _, _]) rfl rfl rfl rfl ?_
  refine x_aload_n (pc' := 2819) rfl rfl rfl rfl rfl ?_
  refine x_cv (ls0 := [_]) (rest := []) rfl rfl rfl rfl rfl ?_
  refine x_aload_n (pc' := 1) rfl rfl rfl rfl rfl ?_
  refine x_gI (pc' := 4) (x := 0) rfl rfl rfl sI_s ?_
  refine x_reti rfl rfl ?_
  refine sK_i (pc' := 2822) rfl ?_
  refine x_iload (pc' := 2824) rfl rfl rfl ?_
  refine x_icmp (a' := 2829) (pc' := 2827) (z := true) rfl rfl rfl (by decide) (fun _ => ?_) (fun h => by cases h)
  refine x_iload (pc' := 2831) rfl rfl rfl ?_
  refine x_if (a' := 2846) (pc' := 2834) (z := false) rfl rfl rfl (by decide) (fun h => by cases h) (fun _ => ?_)
  refine x_aload_n (pc' := 2835) rfl rfl rfl rfl rfl ?_
  refine x_iconst (pc' := 2836) rfl rfl ?_
  refine x_lald (pc' := 2837) (N := 1) (x := (0 : Int64)) rfl rfl (Eq.trans rdNI (Eq.trans rdNL (z_N_23_0 e))) (io_in (p := 0) (N := 1) (by decide) (by decide)) (Eq.trans (congrArg (sL (sIw (sLw t 23 0 0 (0 : Int64)) 768 0 0) 23 0) (nn_io (p := 0) (by decide))) (Eq.trans rdLI sL_s)) ?_
  refine x_iload (pc' := 2839) rfl rfl rfl ?_
  refine x_i2l (pc' := 2840) (z := (0 : Int64)) rfl rfl (by decide) ?_
  refine x_lcmp (pc' := 2841) (z := 0) rfl rfl (sLcmp_s _) ?_
  refine x_if (a' := 2846) (pc' := 2844) (z := true) rfl rfl rfl (by decide) (fun _ => ?_) (fun h => by cases h)
  refine x_goto (pc' := 2938) rfl rfl ?_
  refine x_iinc (pc' := 2941) (y := 7) (ls' := [_, _, _, _, _, _, _]) rfl rfl rfl rfl rfl ?_
  refine x_goto (pc' := 23) rfl rfl ?_
  refine x_iload (pc' := 25) rfl rfl rfl ?_
  refine x_aload_n (pc' := 26) rfl rfl rfl rfl rfl ?_
  refine x_alen (pc' := 27) (N := 7) rfl rfl rfl (Eq.trans rdNI (Eq.trans rdNL (z_N_29_0 e))) (?_ : X _ _ _ (.inl 7 :: _) _ _)
  refine x_bipush (pc' := 29) rfl rfl ?_
  refine x_isub (pc' := 30) (z := 0) rfl rfl (by decide) ?_
  refine x_icmp (a' := 2944) (pc' := 33) (z := true) rfl rfl rfl (by decide) (fun _ => ?_) (fun h => by cases h)
  refine x_iconst (pc' := 2945) rfl rfl ?_
  refine x_retz (z := true) rfl rfl ?_
  exact Qp_ok e (p := 0) (q := 0) rfl rfl rfl rfl
set_option maxHeartbeats 4000000 in
set_option maxRecDepth 10000 in
theorem v_38_A {t : sT} {xs : Nat → Int32}
    (e : t = T16 7 xs)
    (hk : ((xs 0) &&& 63) = 38)
    (e0 : (xs 1) < 0) :
    X 297 23 [.inr (.inr (29, (some 0))), .inr (.inr (11, (some 0))), .inr (.inr (12, (some 0))), .inr (.inr (23, (some 0))), .inl 0, sJk, sJk] [] t Qp := by
  refine x_iload (pc' := 25) rfl rfl rfl ?_
  refine x_aload_n (pc' := 26) rfl rfl rfl rfl rfl ?_
  refine x_alen (pc' := 27) (N := 7) rfl rfl rfl (z_N_29_0 e) (?_ : X _ _ _ (.inl 7 :: _) _ _)
  refine x_bipush (pc' := 29) rfl rfl ?_
  refine x_isub (pc' := 30) (z := 0) rfl rfl (by decide) ?_
  refine x_icmp (a' := 2944) (pc' := 33) (z := false) rfl rfl rfl (by decide) (fun h => by cases h) (fun _ => ?_)
  refine x_aload_n (pc' := 34) rfl rfl rfl rfl rfl ?_
  refine x_iload (pc' := 36) rfl rfl rfl ?_
  refine x_iald (pc' := 37) (N := 7) (x := (xs 0)) rfl rfl rfl (z_N_29_0 e) (io_in (p := 0) (N := 7) (by decide) (by decide)) (Eq.trans (congrArg (sA t 29 0) (nn_io (p := 0) (by decide))) (z_A_29_0_0 e)) ?_
  refine x_bipush (pc' := 39) rfl rfl ?_
  refine x_iand (pc' := 40) (z := ((xs 0) &&& 63)) rfl rfl rfl ?_
  refine x_switch (pc' := 2793) rfl (by rw [hk]; decide) ?_
  refine x_aload_n (pc' := 2794) rfl rfl rfl rfl rfl ?_
  refine x_aload_n (pc' := 2795) rfl rfl rfl rfl rfl ?_
  refine x_iload (pc' := 2797) rfl rfl rfl ?_
  refine x_iconst (pc' := 2798) rfl rfl ?_
  refine x_iadd (pc' := 2799) (z := 1) rfl rfl (by decide) ?_
  refine x_iald (pc' := 2800) (N := 7) (x := (xs 1)) rfl rfl rfl (z_N_29_0 e) (io_in (p := 1) (N := 7) (by decide) (by decide)) (Eq.trans (congrArg (sA t 29 0) (nn_io (p := 1) (by decide))) (z_A_29_0_1 e)) ?_
  refine x_aload_n (pc' := 2801) rfl rfl rfl rfl rfl ?_
  refine x_cs (ls0 := [_, _, _, sJk]) (rest := []) rfl rfl rfl rfl ?_
  refine x_aload_n (pc' := 1) rfl rfl rfl rfl rfl ?_
  refine x_iconst (pc' := 2) rfl rfl ?_
  refine x_aload_n (pc' := 3) rfl rfl rfl rfl rfl ?_
  refine x_iload_n (pc' := 4) rfl rfl rfl ?_
  refine x_cv (ls0 := [_, _]) (rest := [_, _]) rfl rfl rfl rfl rfl ?_
  refine x_aload_n (pc' := 1) rfl rfl rfl rfl rfl ?_
  refine x_iload_n (pc' := 2) rfl rfl rfl ?_
  refine x_cv (ls0 := [_, _]) (rest := []) rfl rfl rfl rfl rfl ?_
  refine x_iload_n (pc' := 1) rfl rfl rfl ?_
  refine x_if (a' := 16) (pc' := 4) (z := decide ((xs 1) < 0)) rfl rfl rfl rfl (fun _ => ?_) (fun h => absurd e0 (of_decide_eq_false h))
  refine x_throw rfl rfl ?_
  refine sK_n (by decide +kernel) rfl ?_
  refine sK_h (h := 12) (by decide +kernel) rfl ?_
  refine x_catch_n (pc' := 13) (ls' := [_, _, _, _]) rfl rfl rfl rfl ?_
  refine x_iconst (pc' := 14) rfl rfl ?_
  refine x_reti rfl rfl ?_
  refine sK_i (pc' := 2804) rfl ?_
  refine x_istore (pc' := 2806) (ls' := [_, _, _, _, _, _, _]) rfl rfl rfl rfl ?_
  refine x_aload_n (pc' := 2807) rfl rfl rfl rfl rfl ?_
  refine x_aload_n (pc' := 2808) rfl rfl rfl rfl rfl ?_
  refine x_iload (pc' := 2810) rfl rfl rfl ?_
  refine x_iconst (pc' := 2811) rfl rfl ?_
  refine x_iadd (pc' := 2812) (z := 1) rfl rfl (by decide) ?_
  refine x_iald (pc' := 2813) (N := 7) (x := (xs 1)) rfl rfl rfl (Eq.trans rdNthr (z_N_29_0 e)) (io_in (p := 1) (N := 7) (by decide) (by decide)) (Eq.trans (congrArg (sA (sThr t) 29 0) (nn_io (p := 1) (by decide))) (Eq.trans rdAthr (z_A_29_0_1 e))) ?_
  refine x_cv (ls0 := [_, _]) (rest := []) rfl rfl rfl rfl rfl ?_
  refine x_aload_n (pc' := 1) rfl rfl rfl rfl rfl ?_
  refine x_iload_n (pc' := 2) rfl rfl rfl ?_
  refine x_cv (ls0 := [_, _]) (rest := []) rfl rfl rfl rfl rfl ?_
  refine x_aload_n (pc' := 1) rfl rfl rfl rfl rfl ?_
  refine x_iload_n (pc' := 2) rfl rfl rfl ?_
  refine x_cs (ls0 := [_]) (rest := [_]) rfl rfl rfl rfl ?_
  refine x_iload_n (pc' := 1) rfl rfl rfl ?_
  refine x_iconst (pc' := 2) rfl rfl ?_
  refine x_iconst (pc' := 3) rfl rfl ?_
  refine x_cs (ls0 := [_, _, _]) (rest := []) rfl rfl rfl rfl ?_
  refine x_iload_n (pc' := 1) rfl rfl rfl ?_
  refine x_iload_n (pc' := 2) rfl rfl rfl ?_
  refine x_icmp (a' := 14) (pc' := 5) (z := decide ((xs 1) < 0)) rfl rfl rfl rfl (fun _ => ?_) (fun h => absurd e0 (of_decide_eq_false h))
  refine x_iconst (pc' := 15) rfl rfl ?_
  refine x_retz (z := false) rfl rfl ?_
  refine sK_i (pc' := 6) rfl ?_
  refine x_retz (z := false) rfl rfl ?_
  refine sK_i (pc' := 5) rfl ?_
  refine x_if (a' := 12) (pc' := 8) (z := true) rfl rfl rfl (by decide) (fun _ => ?_) (fun h => by cases h)
  refine x_iconst (pc' := 13) rfl rfl ?_
  refine x_cv (ls0 := [_, _]) (rest := []) rfl rfl rfl rfl rfl ?_
  refine x_aload_n (pc' := 1) rfl rfl rfl rfl rfl ?_
  refine x_iload_n (pc' := 2) rfl rfl rfl ?_
  refine x_pI (pc' := 5) rfl rfl rfl ?_
  refine x_iload_n (pc' := 6) rfl rfl rfl ?_
  refine x_if (a' := 13) (pc' := 9) (z := true) rfl rfl rfl (by decide) (fun _ => ?_) (fun h => by cases h)
  refine x_iconst (pc' := 14) rfl rfl ?_
  refine x_retz (z := false) rfl rfl ?_
  refine sK_i (pc' := 16) rfl ?_
  refine x_retz (z := false) rfl rfl ?_
  refine sK_i (pc' := 5) rfl ?_
  refine x_if (a' := 17) (pc' := 8) (z := true) rfl rfl rfl (by decide) (fun _ => ?_) (fun h => by cases h)
  refine x_iconst (pc' := 18) rfl rfl ?_
  refine x_reti rfl rfl ?_
  refine sK_i (pc' := 2816) rfl ?_
  refine x_istore (pc' := 2818) (ls' := [_, _, _, _, _, _, _]) rfl rfl rfl rfl ?_
  refine x_aload_n (pc' := 2819) rfl rfl rfl rfl rfl ?_
  refine x_cv (ls0 := [_]) (rest := []) rfl rfl rfl rfl rfl ?_
  refine x_aload_n (pc' := 1) rfl rfl rfl rfl rfl ?_
  refine x_gI (pc' := 4) (x := 1) rfl rfl rfl sI_s ?_
  refine x_reti rfl rfl ?_
  refine sK_i (pc' := 2822) rfl ?_
  refine x_iload (pc' := 2824) rfl rfl rfl ?_
  refine x_icmp (a' := 2829) (pc' := 2827) (z := true) rfl rfl rfl (by decide) (fun _ => ?_) (fun h => by cases h)
  refine x_iload (pc' := 2831) rfl rfl rfl ?_
  refine x_if (a' := 2846) (pc' := 2834) (z := true) rfl rfl rfl (by decide) (fun _ => ?_) (fun h => by cases h)
  refine x_goto (pc' := 2938) rfl rfl ?_
  refine x_iinc (pc' := 2941) (y := 7) (ls' := [_, _, _, _, _, _, _]) rfl rfl rfl rfl rfl ?_
  refine x_goto (pc' := 23) rfl rfl ?_
  refine x_iload (pc' := 25) rfl rfl rfl ?_
  refine x_aload_n (pc' := 26) rfl rfl rfl rfl rfl ?_
  refine x_alen (pc' := 27) (N := 7) rfl rfl rfl (Eq.trans rdNI (Eq.trans rdNthr (z_N_29_0 e))) (?_ : X _ _ _ (.inl 7 :: _) _ _)
  refine x_bipush (pc' := 29) rfl rfl ?_
  refine x_isub (pc' := 30) (z := 0) rfl rfl (by decide) ?_
  refine x_icmp (a' := 2944) (pc' := 33) (z := true) rfl rfl rfl (by decide) (fun _ => ?_) (fun h => by cases h)
  refine x_iconst (pc' := 2945) rfl rfl ?_
  refine x_retz (z := true) rfl rfl ?_
  exact Qp_ok e (p := 1) (q := 6) rfl rfl rfl rfl
set_option maxHeartbeats 4000000 in
set_option maxRecDepth 10000 in
theorem v_38_B {t : sT} {xs : Nat → Int32}
    (e : t = T16 7 xs)
    (hk : ((xs 0) &&& 63) = 38)
    (e0 : ¬ (xs 1) < 0)
    (f0 : ¬ (xs 1) < 6) :
    X 297 23 [.inr (.inr (29, (some 0))), .inr (.inr (11, (some 0))), .inr (.inr (12, (some 0))), .inr (.inr (23, (some 0))), .inl 0, sJk, sJk] [] t Qp := by
  refine x_iload (pc' := 25) rfl rfl rfl ?_
  refine x_aload_n (pc' := 26) rfl rfl rfl rfl rfl ?_
  refine x_alen (pc' := 27) (N := 7) rfl rfl rfl (z_N_29_0 e) (?_ : X _ _ _ (.inl 7 :: _) _ _)
  refine x_bipush (pc' := 29) rfl rfl ?_
  refine x_isub (pc' := 30) (z := 0) rfl rfl (by decide) ?_
  refine x_icmp (a' := 2944) (pc' := 33) (z := false) rfl rfl rfl (by decide) (fun h => by cases h) (fun _ => ?_)
  refine x_aload_n (pc' := 34) rfl rfl rfl rfl rfl ?_
  refine x_iload (pc' := 36) rfl rfl rfl ?_
  refine x_iald (pc' := 37) (N := 7) (x := (xs 0)) rfl rfl rfl (z_N_29_0 e) (io_in (p := 0) (N := 7) (by decide) (by decide)) (Eq.trans (congrArg (sA t 29 0) (nn_io (p := 0) (by decide))) (z_A_29_0_0 e)) ?_
  refine x_bipush (pc' := 39) rfl rfl ?_
  refine x_iand (pc' := 40) (z := ((xs 0) &&& 63)) rfl rfl rfl ?_
  refine x_switch (pc' := 2793) rfl (by rw [hk]; decide) ?_
  refine x_aload_n (pc' := 2794) rfl rfl rfl rfl rfl ?_
  refine x_aload_n (pc' := 2795) rfl rfl rfl rfl rfl ?_
  refine x_iload (pc' := 2797) rfl rfl rfl ?_
  refine x_iconst (pc' := 2798) rfl rfl ?_
  refine x_iadd (pc' := 2799) (z := 1) rfl rfl (by decide) ?_
  refine x_iald (pc' := 2800) (N := 7) (x := (xs 1)) rfl rfl rfl (z_N_29_0 e) (io_in (p := 1) (N := 7) (by decide) (by decide)) (Eq.trans (congrArg (sA t 29 0) (nn_io (p := 1) (by decide))) (z_A_29_0_1 e)) ?_
  refine x_aload_n (pc' := 2801) rfl rfl rfl rfl rfl ?_
  refine x_cs (ls0 := [_, _, _, sJk]) (rest := []) rfl rfl rfl rfl ?_
  refine x_aload_n (pc' := 1) rfl rfl rfl rfl rfl ?_
  refine x_iconst (pc' := 2) rfl rfl ?_
  refine x_aload_n (pc' := 3) rfl rfl rfl rfl rfl ?_
  refine x_iload_n (pc' := 4) rfl rfl rfl ?_
  refine x_cv (ls0 := [_, _]) (rest := [_, _]) rfl rfl rfl rfl rfl ?_
  refine x_aload_n (pc' := 1) rfl rfl rfl rfl rfl ?_
  refine x_iload_n (pc' := 2) rfl rfl rfl ?_
  refine x_cv (ls0 := [_, _]) (rest := []) rfl rfl rfl rfl rfl ?_
  refine x_iload_n (pc' := 1) rfl rfl rfl ?_
  refine x_if (a' := 16) (pc' := 4) (z := decide ((xs 1) < 0)) rfl rfl rfl rfl (fun h => absurd (of_decide_eq_true h) e0) (fun _ => ?_)
  refine x_iload_n (pc' := 5) rfl rfl rfl ?_
  refine x_aload_n (pc' := 6) rfl rfl rfl rfl rfl ?_
  refine x_gR (pc' := 9) (r := (some 0)) rfl rfl rfl (z_R_704_0 e) ?_
  refine x_gR (pc' := 12) (r := (some 0)) rfl rfl rfl (z_R_321_0 e) ?_
  refine x_alen (pc' := 13) (N := 6) rfl rfl rfl (z_N_26_0 e) (?_ : X _ _ _ (.inl 6 :: _) _ _)
  refine x_icmp (a' := 27) (pc' := 16) (z := decide ((xs 1) < 6)) rfl rfl rfl rfl (fun h => absurd (of_decide_eq_true h) f0) (fun _ => ?_)
  refine x_throw rfl rfl ?_
  refine sK_n (by decide +kernel) rfl ?_
  refine sK_h (h := 12) (by decide +kernel) rfl ?_
  refine x_catch_n (pc' := 13) (ls' := [_, _, _, _]) rfl rfl rfl rfl ?_
  refine x_iconst (pc' := 14) rfl rfl ?_
  refine x_reti rfl rfl ?_
  refine sK_i (pc' := 2804) rfl ?_
  refine x_istore (pc' := 2806) (ls' := [_, _, _, _, _, _, _]) rfl rfl rfl rfl ?_
  refine x_aload_n (pc' := 2807) rfl rfl rfl rfl rfl ?_
  refine x_aload_n (pc' := 2808) rfl rfl rfl rfl rfl ?_
  refine x_iload (pc' := 2810) rfl rfl rfl ?_
  refine x_iconst (pc' := 2811) rfl rfl ?_
  refine x_iadd (pc' := 2812) (z := 1) rfl rfl (by decide) ?_
  refine x_iald (pc' := 2813) (N := 7) (x := (xs 1)) rfl rfl rfl (Eq.trans rdNthr (z_N_29_0 e)) (io_in (p := 1) (N := 7) (by decide) (by decide)) (Eq.trans (congrArg (sA (sThr t) 29 0) (nn_io (p := 1) (by decide))) (Eq.trans rdAthr (z_A_29_0_1 e))) ?_
  refine x_cv (ls0 := [_, _]) (rest := []) rfl rfl rfl rfl rfl ?_
  refine x_aload_n (pc' := 1) rfl rfl rfl rfl rfl ?_
  refine x_iload_n (pc' := 2) rfl rfl rfl ?_
  refine x_cv (ls0 := [_, _]) (rest := []) rfl rfl rfl rfl rfl ?_
  refine x_aload_n (pc' := 1) rfl rfl rfl rfl rfl ?_
  refine x_iload_n (pc' := 2) rfl rfl rfl ?_
  refine x_cs (ls0 := [_]) (rest := [_]) rfl rfl rfl rfl ?_
  refine x_iload_n (pc' := 1) rfl rfl rfl ?_
  refine x_iconst (pc' := 2) rfl rfl ?_
  refine x_iconst (pc' := 3) rfl rfl ?_
  refine x_cs (ls0 := [_, _, _]) (rest := []) rfl rfl rfl rfl ?_
  refine x_iload_n (pc' := 1) rfl rfl rfl ?_
  refine x_iload_n (pc' := 2) rfl rfl rfl ?_
  refine x_icmp (a' := 14) (pc' := 5) (z := decide ((xs 1) < 0)) rfl rfl rfl rfl (fun h => absurd (of_decide_eq_true h) e0) (fun _ => ?_)
  refine x_iload_n (pc' := 6) rfl rfl rfl ?_
  refine x_iload_n (pc' := 7) rfl rfl rfl ?_
  refine x_icmp (a' := 14) (pc' := 10) (z := decide (5 < (xs 1))) rfl rfl rfl rfl (fun _ => ?_) (fun h => absurd (lt_of6 f0) (of_decide_eq_false h))
  refine x_iconst (pc' := 15) rfl rfl ?_
  refine x_retz (z := false) rfl rfl ?_
  refine sK_i (pc' := 6) rfl ?_
  refine x_retz (z := false) rfl rfl ?_
  refine sK_i (pc' := 5) rfl ?_
  refine x_if (a' := 12) (pc' := 8) (z := true) rfl rfl rfl (by decide) (fun _ => ?_) (fun h => by cases h)
  refine x_iconst (pc' := 13) rfl rfl ?_
  refine x_cv (ls0 := [_, _]) (rest := []) rfl rfl rfl rfl rfl ?_
  refine x_aload_n (pc' := 1) rfl rfl rfl rfl rfl ?_
  refine x_iload_n (pc' := 2) rfl rfl rfl ?_
  refine x_pI (pc' := 5) rfl rfl rfl ?_
  refine x_iload_n (pc' := 6) rfl rfl rfl ?_
  refine x_if (a' := 13) (pc' := 9) (z := true) rfl rfl rfl (by decide) (fun _ => ?_) (fun h => by cases h)
  refine x_iconst (pc' := 14) rfl rfl ?_
  refine x_retz (z := false) rfl rfl ?_
  refine sK_i (pc' := 16) rfl ?_
  refine x_retz (z := false) rfl rfl ?_
  refine sK_i (pc' := 5) rfl ?_
  refine x_if (a' := 17) (pc' := 8) (z := true) rfl rfl rfl (by decide) (fun _ => ?_) (fun h => by cases h)
  refine x_iconst (pc' := 18) rfl rfl ?_
  refine x_reti rfl rfl ?_
  refine sK_i (pc' := 2816) rfl ?_
  refine x_istore (pc' := 2818) (ls' := [_, _, _, _, _, _, _]) rfl rfl rfl rfl ?_
  refine x_aload_n (pc' := 2819) rfl rfl rfl rfl rfl ?_
  refine x_cv (ls0 := [_]) (rest := []) rfl rfl rfl rfl rfl ?_
  refine x_aload_n (pc' := 1) rfl rfl rfl rfl rfl ?_
  refine x_gI (pc' := 4) (x := 1) rfl rfl rfl sI_s ?_
  refine x_reti rfl rfl ?_
  refine sK_i (pc' := 2822) rfl ?_
  refine x_iload (pc' := 2824) rfl rfl rfl ?_
  refine x_icmp (a' := 2829) (pc' := 2827) (z := true) rfl rfl rfl (by decide) (fun _ => ?_) (fun h => by cases h)
  refine x_iload (pc' := 2831) rfl rfl rfl ?_
  refine x_if (a' := 2846) (pc' := 2834) (z := true) rfl rfl rfl (by decide) (fun _ => ?_) (fun h => by cases h)
  refine x_goto (pc' := 2938) rfl rfl ?_
  refine x_iinc (pc' := 2941) (y := 7) (ls' := [_, _, _, _, _, _, _]) rfl rfl rfl rfl rfl ?_
  refine x_goto (pc' := 23) rfl rfl ?_
  refine x_iload (pc' := 25) rfl rfl rfl ?_
  refine x_aload_n (pc' := 26) rfl rfl rfl rfl rfl ?_
  refine x_alen (pc' := 27) (N := 7) rfl rfl rfl (Eq.trans rdNI (Eq.trans rdNthr (z_N_29_0 e))) (?_ : X _ _ _ (.inl 7 :: _) _ _)
  refine x_bipush (pc' := 29) rfl rfl ?_
  refine x_isub (pc' := 30) (z := 0) rfl rfl (by decide) ?_
  refine x_icmp (a' := 2944) (pc' := 33) (z := true) rfl rfl rfl (by decide) (fun _ => ?_) (fun h => by cases h)
  refine x_iconst (pc' := 2945) rfl rfl ?_
  refine x_retz (z := true) rfl rfl ?_
  exact Qp_ok e (p := 1) (q := 6) rfl rfl rfl rfl
set_option maxHeartbeats 4000000 in
set_option maxRecDepth 10000 in
theorem v_39_v {t : sT} {xs : Nat → Int32} {m : Nat}
    (e : t = T16 7 xs)
    (hk : ((xs 0) &&& 63) = 39)
    (hm : m < 6)
    (e0 : xs 1 = io m) :
    X 297 23 [.inr (.inr (29, (some 0))), .inr (.inr (11, (some 0))), .inr (.inr (12, (some 0))), .inr (.inr (23, (some 0))), .inl 0, sJk, sJk] [] t Qp := by
  refine x_iload (pc' := 25) rfl rfl rfl ?_
  refine x_aload_n (pc' := 26) rfl rfl rfl rfl rfl ?_
  refine x_alen (pc' := 27) (N := 7) rfl rfl rfl (z_N_29_0 e) (?_ : X _ _ _ (.inl 7 :: _) _ _)
  refine x_bipush (pc' := 29) rfl rfl ?_
  refine x_isub (pc' := 30) (z := 0) rfl rfl (by decide) ?_
  refine x_icmp (a' := 2944) (pc' := 33) (z := false) rfl rfl rfl (by decide) (fun h => by cases h) (fun _ => ?_)
  refine x_aload_n (pc' := 34) rfl rfl rfl rfl rfl ?_
  refine x_iload (pc' := 36) rfl rfl rfl ?_
  refine x_iald (pc' := 37) (N := 7) (x := (xs 0)) rfl rfl rfl (z_N_29_0 e) (io_in (p := 0) (N := 7) (by decide) (by decide)) (Eq.trans (congrArg (sA t 29 0) (nn_io (p := 0) (by decide))) (z_A_29_0_0 e)) ?_
  refine x_bipush (pc' := 39) rfl rfl ?_
  refine x_iand (pc' := 40) (z := ((xs 0) &&& 63)) rfl rfl rfl ?_
  refine x_switch (pc' := 2849) rfl (by rw [hk]; decide) ?_
  refine x_aload_n (pc' := 2850) rfl rfl rfl rfl rfl ?_
  refine x_aload_n (pc' := 2851) rfl rfl rfl rfl rfl ?_
  refine x_iload (pc' := 2853) rfl rfl rfl ?_
  refine x_iconst (pc' := 2854) rfl rfl ?_
  refine x_iadd (pc' := 2855) (z := 1) rfl rfl (by decide) ?_
  refine x_iald (pc' := 2856) (N := 7) (x := (io m)) rfl rfl rfl (z_N_29_0 e) (io_in (p := 1) (N := 7) (by decide) (by decide)) (Eq.trans (congrArg (sA t 29 0) (nn_io (p := 1) (by decide))) (Eq.trans (z_A_29_0_1 e) e0)) ?_
  refine x_aload_n (pc' := 2857) rfl rfl rfl rfl rfl ?_
  refine x_cs (ls0 := [_, _, _, sJk]) (rest := []) rfl rfl rfl rfl ?_
  refine x_aload_n (pc' := 1) rfl rfl rfl rfl rfl ?_
  refine x_iconst (pc' := 2) rfl rfl ?_
  refine x_aload_n (pc' := 3) rfl rfl rfl rfl rfl ?_
  refine x_iload_n (pc' := 4) rfl rfl rfl ?_
  refine x_cv (ls0 := [_, _]) (rest := [_, _]) rfl rfl rfl rfl rfl ?_
  refine x_aload_n (pc' := 1) rfl rfl rfl rfl rfl ?_
  refine x_iload_n (pc' := 2) rfl rfl rfl ?_
  refine x_cv (ls0 := [_, _]) (rest := []) rfl rfl rfl rfl rfl ?_
  refine x_iload_n (pc' := 1) rfl rfl rfl ?_
  refine x_if (a' := 16) (pc' := 4) (z := decide (m < 0)) rfl rfl rfl (ic_lt (p := m) (q := 0) (Nat.lt_trans hm (by decide)) (by decide)) (fun h => absurd (of_decide_eq_true h) (by first | decide | omega | simp)) (fun _ => ?_)
  refine x_iload_n (pc' := 5) rfl rfl rfl ?_
  refine x_aload_n (pc' := 6) rfl rfl rfl rfl rfl ?_
  refine x_gR (pc' := 9) (r := (some 0)) rfl rfl rfl (z_R_704_0 e) ?_
  refine x_gR (pc' := 12) (r := (some 0)) rfl rfl rfl (z_R_321_0 e) ?_
  refine x_alen (pc' := 13) (N := 6) rfl rfl rfl (z_N_26_0 e) (?_ : X _ _ _ (.inl 6 :: _) _ _)
  refine x_icmp (a' := 27) (pc' := 16) (z := decide (m < 6)) rfl rfl rfl (ic_lt (p := m) (q := 6) (Nat.lt_trans hm (by decide)) (by decide)) (fun _ => ?_) (fun h => absurd (Nat.lt_of_lt_of_le hm (by decide)) (of_decide_eq_false h))
  refine x_aload_n (pc' := 28) rfl rfl rfl rfl rfl ?_
  refine x_gR (pc' := 31) (r := (some 0)) rfl rfl rfl (z_R_704_0 e) ?_
  refine x_gR (pc' := 34) (r := (some 0)) rfl rfl rfl (z_R_321_0 e) ?_
  refine x_iload_n (pc' := 35) rfl rfl rfl ?_
  refine x_aald (pc' := 36) (N := 6) (k' := 7) (r := (some m)) rfl rfl rfl (z_N_26_0 e) (io_in (p := m) (N := 6) hm (by decide)) (Eq.trans (congrArg (sE t 26 0) (nn_io (p := m) (Nat.lt_trans hm (by decide)))) (kM (Cn_e e) hm)) ?_
  refine x_reta rfl rfl ?_
  refine sK_i (pc' := 5) rfl ?_
  refine x_gZ (pc' := 8) (z := false) rfl rfl rfl (z_Z_458_y e _) ?_
  refine x_retz (z := false) rfl rfl ?_
  refine sK_i (pc' := 7) rfl ?_
  refine x_if (a' := 14) (pc' := 10) (z := true) rfl rfl rfl (by decide) (fun _ => ?_) (fun h => by cases h)
  refine x_lconst (pc' := 15) rfl rfl rfl ?_
  refine x_last (pc' := 16) (N := 1) (p := 0) rfl rfl (z_N_23_0 e) (io_in (p := 0) (N := 1) (by decide) (by decide)) (nn_io (p := 0) (by decide)) ?_
  refine x_goto (pc' := 22) rfl rfl ?_
  refine x_iconst (pc' := 23) rfl rfl ?_
  refine x_reti rfl rfl ?_
  refine sK_i (pc' := 2860) rfl ?_
  refine x_istore (pc' := 2862) (ls' := [_, _, _, _, _, _, _]) rfl rfl rfl rfl ?_
  refine x_aload_n (pc' := 2863) rfl rfl rfl rfl rfl ?_
  refine x_aload_n (pc' := 2864) rfl rfl rfl rfl rfl ?_
  refine x_iload (pc' := 2866) rfl rfl rfl ?_
  refine x_iconst (pc' := 2867) rfl rfl ?_
  refine x_iadd (pc' := 2868) (z := 1) rfl rfl (by decide) ?_
  refine x_iald (pc' := 2869) (N := 7) (x := (io m)) rfl rfl rfl (Eq.trans rdNL (z_N_29_0 e)) (io_in (p := 1) (N := 7) (by decide) (by decide)) (Eq.trans (congrArg (sA (sLw t 23 0 0 (0 : Int64)) 29 0) (nn_io (p := 1) (by decide))) (Eq.trans rdAL (Eq.trans (z_A_29_0_1 e) e0))) ?_
  refine x_cv (ls0 := [_, _]) (rest := []) rfl rfl rfl rfl rfl ?_
  refine x_aload_n (pc' := 1) rfl rfl rfl rfl rfl ?_
  refine x_iload_n (pc' := 2) rfl rfl rfl ?_
  refine x_cv (ls0 := [_, _]) (rest := []) rfl rfl rfl rfl rfl ?_
  refine x_aload_n (pc' := 1) rfl rfl rfl rfl rfl ?_
  refine x_iload_n (pc' := 2) rfl rfl rfl ?_
  refine x_cs (ls0 := [_]) (rest := [_]) rfl rfl rfl rfl ?_
  refine x_iload_n (pc' := 1) rfl rfl rfl ?_
  refine x_iconst (pc' := 2) rfl rfl ?_
  refine x_iconst (pc' := 3) rfl rfl ?_
  refine x_cs (ls0 := [_, _, _]) (rest := []) rfl rfl rfl rfl ?_
  refine x_iload_n (pc' := 1) rfl rfl rfl ?_
  refine x_iload_n (pc' := 2) rfl rfl rfl ?_
  refine x_icmp (a' := 14) (pc' := 5) (z := decide (m < 0)) rfl rfl rfl (ic_lt (p := m) (q := 0) (Nat.lt_trans hm (by decide)) (by decide)) (fun h => absurd (of_decide_eq_true h) (by first | decide | omega | simp)) (fun _ => ?_)
  refine x_iload_n (pc' := 6) rfl rfl rfl ?_
  refine x_iload_n (pc' := 7) rfl rfl rfl ?_
  refine x_icmp (a' := 14) (pc' := 10) (z := decide (5 < m)) rfl rfl rfl (ic_gt (p := m) (q := 5) (Nat.lt_trans hm (by decide)) (by decide)) (fun h => absurd (of_decide_eq_true h) (fun z => absurd hm (Nat.not_lt.mpr z))) (fun _ => ?_)
  refine x_iconst (pc' := 11) rfl rfl ?_
  refine x_goto (pc' := 15) rfl rfl ?_
  refine x_retz (z := true) rfl rfl ?_
  refine sK_i (pc' := 6) rfl ?_
  refine x_retz (z := true) rfl rfl ?_
  refine sK_i (pc' := 5) rfl ?_
  refine x_if (a' := 12) (pc' := 8) (z := false) rfl rfl rfl (by decide) (fun h => by cases h) (fun _ => ?_)
  refine x_iconst (pc' := 9) rfl rfl ?_
  refine x_goto (pc' := 13) rfl rfl ?_
  refine x_cv (ls0 := [_, _]) (rest := []) rfl rfl rfl rfl rfl ?_
  refine x_aload_n (pc' := 1) rfl rfl rfl rfl rfl ?_
  refine x_iload_n (pc' := 2) rfl rfl rfl ?_
  refine x_pI (pc' := 5) rfl rfl rfl ?_
  refine x_iload_n (pc' := 6) rfl rfl rfl ?_
  refine x_if (a' := 13) (pc' := 9) (z := false) rfl rfl rfl (by decide) (fun h => by cases h) (fun _ => ?_)
  refine x_iconst (pc' := 10) rfl rfl ?_
  refine x_goto (pc' := 14) rfl rfl ?_
  refine x_retz (z := true) rfl rfl ?_
  refine sK_i (pc' := 16) rfl ?_
  refine x_retz (z := true) rfl rfl ?_
  refine sK_i (pc' := 5) rfl ?_
  refine x_if (a' := 21) (pc' := 8) (z := false) rfl rfl rfl (by decide) (fun h => by cases h) (fun _ => ?_)
  refine x_aload_n (pc' := 9) rfl rfl rfl rfl rfl ?_
  refine x_gR (pc' := 12) (r := (some 2)) rfl rfl rfl (Eq.trans rdRI (Eq.trans rdRL (z_R_781_0 e))) ?_
  refine x_iload_n (pc' := 13) rfl rfl rfl ?_
  refine x_bald (pc' := 14) (N := 6) (z := false) rfl rfl (Eq.trans rdNI (Eq.trans rdNL (z_N_22_2 e))) (io_in (p := m) (N := 6) hm (by decide)) (Eq.trans (congrArg (sB (sIw (sLw t 23 0 0 (0 : Int64)) 768 0 0) 22 2) (nn_io (p := m) (Nat.lt_trans hm (by decide)))) (Eq.trans rdBI (Eq.trans rdBL (z_B_22_2_y e _)))) ?_
  refine x_if (a' := 21) (pc' := 17) (z := true) rfl rfl rfl (by decide) (fun _ => ?_) (fun h => by cases h)
  refine x_iconst (pc' := 22) rfl rfl ?_
  refine x_retz (z := false) rfl rfl ?_
  refine sK_i (pc' := 2872) rfl ?_
  refine x_istore (pc' := 2874) (ls' := [_, _, _, _, _, _, _]) rfl rfl rfl rfl ?_
  refine x_aload_n (pc' := 2875) rfl rfl rfl rfl rfl ?_
  refine x_cv (ls0 := [_]) (rest := []) rfl rfl rfl rfl rfl ?_
  refine x_aload_n (pc' := 1) rfl rfl rfl rfl rfl ?_
  refine x_gI (pc' := 4) (x := 0) rfl rfl rfl sI_s ?_
  refine x_reti rfl rfl ?_
  refine sK_i (pc' := 2878) rfl ?_
  refine x_iload (pc' := 2880) rfl rfl rfl ?_
  refine x_icmp (a' := 2885) (pc' := 2883) (z := true) rfl rfl rfl (by decide) (fun _ => ?_) (fun h => by cases h)
  refine x_iload (pc' := 2887) rfl rfl rfl ?_
  refine x_if (a' := 2909) (pc' := 2890) (z := false) rfl rfl rfl (by decide) (fun h => by cases h) (fun _ => ?_)
  refine x_aload_n (pc' := 2891) rfl rfl rfl rfl rfl ?_
  refine x_iconst (pc' := 2892) rfl rfl ?_
  refine x_lald (pc' := 2893) (N := 1) (x := (0 : Int64)) rfl rfl (Eq.trans rdNI (Eq.trans rdNL (z_N_23_0 e))) (io_in (p := 0) (N := 1) (by decide) (by decide)) (Eq.trans (congrArg (sL (sIw (sLw t 23 0 0 (0 : Int64)) 768 0 0) 23 0) (nn_io (p := 0) (by decide))) (Eq.trans rdLI sL_s)) ?_
  refine x_iload (pc' := 2895) rfl rfl rfl ?_
  refine x_if (a' := 2902) (pc' := 2898) (z := true) rfl rfl rfl (by decide) (fun _ => ?_) (fun h => by cases h)
  refine x_lconst (pc' := 2903) rfl rfl rfl ?_
  refine x_lcmp (pc' := 2904) (z := 0) rfl rfl (sLcmp_s _) ?_
  refine x_if (a' := 2909) (pc' := 2907) (z := true) rfl rfl rfl (by decide) (fun _ => ?_) (fun h => by cases h)
  refine x_goto (pc' := 2938) rfl rfl ?_
  refine x_iinc (pc' := 2941) (y := 7) (ls' := [_, _, _, _, _, _, _]) rfl rfl rfl rfl rfl ?_
  refine x_goto (pc' := 23) rfl rfl ?_
  refine x_iload (pc' := 25) rfl rfl rfl ?_
  refine x_aload_n (pc' := 26) rfl rfl rfl rfl rfl ?_
  refine x_alen (pc' := 27) (N := 7) rfl rfl rfl (Eq.trans rdNI (Eq.trans rdNL (z_N_29_0 e))) (?_ : X _ _ _ (.inl 7 :: _) _ _)
  refine x_bipush (pc' := 29) rfl rfl ?_
  refine x_isub (pc' := 30) (z := 0) rfl rfl (by decide) ?_
  refine x_icmp (a' := 2944) (pc' := 33) (z := true) rfl rfl rfl (by decide) (fun _ => ?_) (fun h => by cases h)
  refine x_iconst (pc' := 2945) rfl rfl ?_
  refine x_retz (z := true) rfl rfl ?_
  exact Qp_ok e (p := 0) (q := 0) rfl rfl rfl rfl
set_option maxHeartbeats 4000000 in
set_option maxRecDepth 10000 in
theorem v_39_A {t : sT} {xs : Nat → Int32}
    (e : t = T16 7 xs)
    (hk : ((xs 0) &&& 63) = 39)
    (e0 : (xs 1) < 0) :
    X 297 23 [.inr (.inr (29, (some 0))), .inr (.inr (11, (some 0))), .inr (.inr (12, (some 0))), .inr (.inr (23, (some 0))), .inl 0, sJk, sJk] [] t Qp := by
  refine x_iload (pc' := 25) rfl rfl rfl ?_
  refine x_aload_n (pc' := 26) rfl rfl rfl rfl rfl ?_
  refine x_alen (pc' := 27) (N := 7) rfl rfl rfl (z_N_29_0 e) (?_ : X _ _ _ (.inl 7 :: _) _ _)
  refine x_bipush (pc' := 29) rfl rfl ?_
  refine x_isub (pc' := 30) (z := 0) rfl rfl (by decide) ?_
  refine x_icmp (a' := 2944) (pc' := 33) (z := false) rfl rfl rfl (by decide) (fun h => by cases h) (fun _ => ?_)
  refine x_aload_n (pc' := 34) rfl rfl rfl rfl rfl ?_
  refine x_iload (pc' := 36) rfl rfl rfl ?_
  refine x_iald (pc' := 37) (N := 7) (x := (xs 0)) rfl rfl rfl (z_N_29_0 e) (io_in (p := 0) (N := 7) (by decide) (by decide)) (Eq.trans (congrArg (sA t 29 0) (nn_io (p := 0) (by decide))) (z_A_29_0_0 e)) ?_
  refine x_bipush (pc' := 39) rfl rfl ?_
  refine x_iand (pc' := 40) (z := ((xs 0) &&& 63)) rfl rfl rfl ?_
  refine x_switch (pc' := 2849) rfl (by rw [hk]; decide) ?_
  refine x_aload_n (pc' := 2850) rfl rfl rfl rfl rfl ?_
  refine x_aload_n (pc' := 2851) rfl rfl rfl rfl rfl ?_
  refine x_iload (pc' := 2853) rfl rfl rfl ?_
  refine x_iconst (pc' := 2854) rfl rfl ?_
  refine x_iadd (pc' := 2855) (z := 1) rfl rfl (by decide) ?_
  refine x_iald (pc' := 2856) (N := 7) (x := (xs 1)) rfl rfl rfl (z_N_29_0 e) (io_in (p := 1) (N := 7) (by decide) (by decide)) (Eq.trans (congrArg (sA t 29 0) (nn_io (p := 1) (by decide))) (z_A_29_0_1 e)) ?_
  refine x_aload_n (pc' := 2857) rfl rfl rfl rfl rfl ?_
  refine x_cs (ls0 := [_, _, _, sJk]) (rest := []) rfl rfl rfl rfl ?_
  refine x_aload_n (pc' := 1) rfl rfl rfl rfl rfl ?_
  refine x_iconst (pc' := 2) rfl rfl ?_
  refine x_aload_n (pc' := 3) rfl rfl rfl rfl rfl ?_
  refine x_iload_n (pc' := 4) rfl rfl rfl ?_
  refine x_cv (ls0 := [_, _]) (rest := [_, _]) rfl rfl rfl rfl rfl ?_
  refine x_aload_n (pc' := 1) rfl rfl rfl rfl rfl ?_
  refine x_iload_n (pc' := 2) rfl rfl rfl ?_
  refine x_cv (ls0 := [_, _]) (rest := []) rfl rfl rfl rfl rfl ?_
  refine x_iload_n (pc' := 1) rfl rfl rfl ?_
  refine x_if (a' := 16) (pc' := 4) (z := decide ((xs 1) < 0)) rfl rfl rfl rfl (fun _ => ?_) (fun h => absurd e0 (of_decide_eq_false h))
  refine x_throw rfl rfl ?_
  refine sK_n (by decide +kernel) rfl ?_
  refine sK_h (h := 19) (by decide +kernel) rfl ?_
  refine x_catch_n (pc' := 20) (ls' := [_, _, _, _]) rfl rfl rfl rfl ?_
  refine x_iconst (pc' := 21) rfl rfl ?_
  refine x_reti rfl rfl ?_
  refine sK_i (pc' := 2860) rfl ?_
  refine x_istore (pc' := 2862) (ls' := [_, _, _, _, _, _, _]) rfl rfl rfl rfl ?_
  refine x_aload_n (pc' := 2863) rfl rfl rfl rfl rfl ?_
  refine x_aload_n (pc' := 2864) rfl rfl rfl rfl rfl ?_
  refine x_iload (pc' := 2866) rfl rfl rfl ?_
  refine x_iconst (pc' := 2867) rfl rfl ?_
  refine x_iadd (pc' := 2868) (z := 1) rfl rfl (by decide) ?_
  refine x_iald (pc' := 2869) (N := 7) (x := (xs 1)) rfl rfl rfl (Eq.trans rdNthr (z_N_29_0 e)) (io_in (p := 1) (N := 7) (by decide) (by decide)) (Eq.trans (congrArg (sA (sThr t) 29 0) (nn_io (p := 1) (by decide))) (Eq.trans rdAthr (z_A_29_0_1 e))) ?_
  refine x_cv (ls0 := [_, _]) (rest := []) rfl rfl rfl rfl rfl ?_
  refine x_aload_n (pc' := 1) rfl rfl rfl rfl rfl ?_
  refine x_iload_n (pc' := 2) rfl rfl rfl ?_
  refine x_cv (ls0 := [_, _]) (rest := []) rfl rfl rfl rfl rfl ?_
  refine x_aload_n (pc' := 1) rfl rfl rfl rfl rfl ?_
  refine x_iload_n (pc' := 2) rfl rfl rfl ?_
  refine x_cs (ls0 := [_]) (rest := [_]) rfl rfl rfl rfl ?_
  refine x_iload_n (pc' := 1) rfl rfl rfl ?_
  refine x_iconst (pc' := 2) rfl rfl ?_
  refine x_iconst (pc' := 3) rfl rfl ?_
  refine x_cs (ls0 := [_, _, _]) (rest := []) rfl rfl rfl rfl ?_
  refine x_iload_n (pc' := 1) rfl rfl rfl ?_
  refine x_iload_n (pc' := 2) rfl rfl rfl ?_
  refine x_icmp (a' := 14) (pc' := 5) (z := decide ((xs 1) < 0)) rfl rfl rfl rfl (fun _ => ?_) (fun h => absurd e0 (of_decide_eq_false h))
  refine x_iconst (pc' := 15) rfl rfl ?_
  refine x_retz (z := false) rfl rfl ?_
  refine sK_i (pc' := 6) rfl ?_
  refine x_retz (z := false) rfl rfl ?_
  refine sK_i (pc' := 5) rfl ?_
  refine x_if (a' := 12) (pc' := 8) (z := true) rfl rfl rfl (by decide) (fun _ => ?_) (fun h => by cases h)
  refine x_iconst (pc' := 13) rfl rfl ?_
  refine x_cv (ls0 := [_, _]) (rest := []) rfl rfl rfl rfl rfl ?_
  refine x_aload_n (pc' := 1) rfl rfl rfl rfl rfl ?_
  refine x_iload_n (pc' := 2) rfl rfl rfl ?_
  refine x_pI (pc' := 5) rfl rfl rfl ?_
  refine x_iload_n (pc' := 6) rfl rfl rfl ?_
  refine x_if (a' := 13) (pc' := 9) (z := true) rfl rfl rfl (by decide) (fun _ => ?_) (fun h => by cases h)
  refine x_iconst (pc' := 14) rfl rfl ?_
  refine x_retz (z := false) rfl rfl ?_
  refine sK_i (pc' := 16) rfl ?_
  refine x_retz (z := false) rfl rfl ?_
  refine sK_i (pc' := 5) rfl ?_
  refine x_if (a' := 21) (pc' := 8) (z := true) rfl rfl rfl (by decide) (fun _ => ?_) (fun h => by cases h)
  refine x_iconst (pc' := 22) rfl rfl ?_
  refine x_retz (z := false) rfl rfl ?_
  refine sK_i (pc' := 2872) rfl ?_
  refine x_istore (pc' := 2874) (ls' := [_, _, _, _, _, _, _]) rfl rfl rfl rfl ?_
  refine x_aload_n (pc' := 2875) rfl rfl rfl rfl rfl ?_
  refine x_cv (ls0 := [_]) (rest := []) rfl rfl rfl rfl rfl ?_
  refine x_aload_n (pc' := 1) rfl rfl rfl rfl rfl ?_
  refine x_gI (pc' := 4) (x := 1) rfl rfl rfl sI_s ?_
  refine x_reti rfl rfl ?_
  refine sK_i (pc' := 2878) rfl ?_
  refine x_iload (pc' := 2880) rfl rfl rfl ?_
  refine x_icmp (a' := 2885) (pc' := 2883) (z := true) rfl rfl rfl (by decide) (fun _ => ?_) (fun h => by cases h)
  refine x_iload (pc' := 2887) rfl rfl rfl ?_
  refine x_if (a' := 2909) (pc' := 2890) (z := true) rfl rfl rfl (by decide) (fun _ => ?_) (fun h => by cases h)
  refine x_goto (pc' := 2938) rfl rfl ?_
  refine x_iinc (pc' := 2941) (y := 7) (ls' := [_, _, _, _, _, _, _]) rfl rfl rfl rfl rfl ?_
  refine x_goto (pc' := 23) rfl rfl ?_
  refine x_iload (pc' := 25) rfl rfl rfl ?_
  refine x_aload_n (pc' := 26) rfl rfl rfl rfl rfl ?_
  refine x_alen (pc' := 27) (N := 7) rfl rfl rfl (Eq.trans rdNI (Eq.trans rdNthr (z_N_29_0 e))) (?_ : X _ _ _ (.inl 7 :: _) _ _)
  refine x_bipush (pc' := 29) rfl rfl ?_
  refine x_isub (pc' := 30) (z := 0) rfl rfl (by decide) ?_
  refine x_icmp (a' := 2944) (pc' := 33) (z := true) rfl rfl rfl (by decide) (fun _ => ?_) (fun h => by cases h)
  refine x_iconst (pc' := 2945) rfl rfl ?_
  refine x_retz (z := true) rfl rfl ?_
  exact Qp_ok e (p := 1) (q := 6) rfl rfl rfl rfl
set_option maxHeartbeats 4000000 in
set_option maxRecDepth 10000 in
theorem v_39_B {t : sT} {xs : Nat → Int32}
    (e : t = T16 7 xs)
    (hk : ((xs 0) &&& 63) = 39)
    (e0 : ¬ (xs 1) < 0)
    (f0 : ¬ (xs 1) < 6) :
    X 297 23 [.inr (.inr (29, (some 0))), .inr (.inr (11, (some 0))), .inr (.inr (12, (some 0))), .inr (.inr (23, (some 0))), .inl 0, sJk, sJk] [] t Qp := by
  refine x_iload (pc' := 25) rfl rfl rfl ?_
  refine x_aload_n (pc' := 26) rfl rfl rfl rfl rfl ?_
  refine x_alen (pc' := 27) (N := 7) rfl rfl rfl (z_N_29_0 e) (?_ : X _ _ _ (.inl 7 :: _) _ _)
  refine x_bipush (pc' := 29) rfl rfl ?_
  refine x_isub (pc' := 30) (z := 0) rfl rfl (by decide) ?_
  refine x_icmp (a' := 2944) (pc' := 33) (z := false) rfl rfl rfl (by decide) (fun h => by cases h) (fun _ => ?_)
  refine x_aload_n (pc' := 34) rfl rfl rfl rfl rfl ?_
  refine x_iload (pc' := 36) rfl rfl rfl ?_
  refine x_iald (pc' := 37) (N := 7) (x := (xs 0)) rfl rfl rfl (z_N_29_0 e) (io_in (p := 0) (N := 7) (by decide) (by decide)) (Eq.trans (congrArg (sA t 29 0) (nn_io (p := 0) (by decide))) (z_A_29_0_0 e)) ?_
  refine x_bipush (pc' := 39) rfl rfl ?_
  refine x_iand (pc' := 40) (z := ((xs 0) &&& 63)) rfl rfl rfl ?_
  refine x_switch (pc' := 2849) rfl (by rw [hk]; decide) ?_
  refine x_aload_n (pc' := 2850) rfl rfl rfl rfl rfl ?_
  refine x_aload_n (pc' := 2851) rfl rfl rfl rfl rfl ?_
  refine x_iload (pc' := 2853) rfl rfl rfl ?_
  refine x_iconst (pc' := 2854) rfl rfl ?_
  refine x_iadd (pc' := 2855) (z := 1) rfl rfl (by decide) ?_
  refine x_iald (pc' := 2856) (N := 7) (x := (xs 1)) rfl rfl rfl (z_N_29_0 e) (io_in (p := 1) (N := 7) (by decide) (by decide)) (Eq.trans (congrArg (sA t 29 0) (nn_io (p := 1) (by decide))) (z_A_29_0_1 e)) ?_
  refine x_aload_n (pc' := 2857) rfl rfl rfl rfl rfl ?_
  refine x_cs (ls0 := [_, _, _, sJk]) (rest := []) rfl rfl rfl rfl ?_
  refine x_aload_n (pc' := 1) rfl rfl rfl rfl rfl ?_
  refine x_iconst (pc' := 2) rfl rfl ?_
  refine x_aload_n (pc' := 3) rfl rfl rfl rfl rfl ?_
  refine x_iload_n (pc' := 4) rfl rfl rfl ?_
  refine x_cv (ls0 := [_, _]) (rest := [_, _]) rfl rfl rfl rfl rfl ?_
  refine x_aload_n (pc' := 1) rfl rfl rfl rfl rfl ?_
  refine x_iload_n (pc' := 2) rfl rfl rfl ?_
  refine x_cv (ls0 := [_, _]) (rest := []) rfl rfl rfl rfl rfl ?_
  refine x_iload_n (pc' := 1) rfl rfl rfl ?_
  refine x_if (a' := 16) (pc' := 4) (z := decide ((xs 1) < 0)) rfl rfl rfl rfl (fun h => absurd (of_decide_eq_true h) e0) (fun _ => ?_)
  refine x_iload_n (pc' := 5) rfl rfl rfl ?_
  refine x_aload_n (pc' := 6) rfl rfl rfl rfl rfl ?_
  refine x_gR (pc' := 9) (r := (some 0)) rfl rfl rfl (z_R_704_0 e) ?_
  refine x_gR (pc' := 12) (r := (some 0)) rfl rfl rfl (z_R_321_0 e) ?_
  refine x_alen (pc' := 13) (N := 6) rfl rfl rfl (z_N_26_0 e) (?_ : X _ _ _ (.inl 6 :: _) _ _)
  refine x_icmp (a' := 27) (pc' := 16) (z := decide ((xs 1) < 6)) rfl rfl rfl rfl (fun h => absurd (of_decide_eq_true h) f0) (fun _ => ?_)
  refine x_throw rfl rfl ?_
  refine sK_n (by decide +kernel) rfl ?_
  refine sK_h (h := 19) (by decide +kernel) rfl ?_
  refine x_catch_n (pc' := 20) (ls' := [_, _, _, _]) rfl rfl rfl rfl ?_
  refine x_iconst (pc' := 21) rfl rfl ?_
  refine x_reti rfl rfl ?_
  refine sK_i (pc' := 2860) rfl ?_
  refine x_istore (pc' := 2862) (ls' := [_, _, _, _, _, _, _]) rfl rfl rfl rfl ?_
  refine x_aload_n (pc' := 2863) rfl rfl rfl rfl rfl ?_
  refine x_aload_n (pc' := 2864) rfl rfl rfl rfl rfl ?_
  refine x_iload (pc' := 2866) rfl rfl rfl ?_
  refine x_iconst (pc' := 2867) rfl rfl ?_
  refine x_iadd (pc' := 2868) (z := 1) rfl rfl (by decide) ?_
  refine x_iald (pc' := 2869) (N := 7) (x := (xs 1)) rfl rfl rfl (Eq.trans rdNthr (z_N_29_0 e)) (io_in (p := 1) (N := 7) (by decide) (by decide)) (Eq.trans (congrArg (sA (sThr t) 29 0) (nn_io (p := 1) (by decide))) (Eq.trans rdAthr (z_A_29_0_1 e))) ?_
  refine x_cv (ls0 := [_, _]) (rest := []) rfl rfl rfl rfl rfl ?_
  refine x_aload_n (pc' := 1) rfl rfl rfl rfl rfl ?_
  refine x_iload_n (pc' := 2) rfl rfl rfl ?_
  refine x_cv (ls0 := [_, _]) (rest := []) rfl rfl rfl rfl rfl ?_
  refine x_aload_n (pc' := 1) rfl rfl rfl rfl rfl ?_
  refine x_iload_n (pc' := 2) rfl rfl rfl ?_
  refine x_cs (ls0 := [_]) (rest := [_]) rfl rfl rfl rfl ?_
  refine x_iload_n (pc' := 1) rfl rfl rfl ?_
  refine x_iconst (pc' := 2) rfl rfl ?_
  refine x_iconst (pc' := 3) rfl rfl ?_
  refine x_cs (ls0 := [_, _, _]) (rest := []) rfl rfl rfl rfl ?_
  refine x_iload_n (pc' := 1) rfl rfl rfl ?_
  refine x_iload_n (pc' := 2) rfl rfl rfl ?_
  refine x_icmp (a' := 14) (pc' := 5) (z := decide ((xs 1) < 0)) rfl rfl rfl rfl (fun h => absurd (of_decide_eq_true h) e0) (fun _ => ?_)
  refine x_iload_n (pc' := 6) rfl rfl rfl ?_
  refine x_iload_n (pc' := 7) rfl rfl rfl ?_
  refine x_icmp (a' := 14) (pc' := 10) (z := decide (5 < (xs 1))) rfl rfl rfl rfl (fun _ => ?_) (fun h => absurd (lt_of6 f0) (of_decide_eq_false h))
  refine x_iconst (pc' := 15) rfl rfl ?_
  refine x_retz (z := false) rfl rfl ?_
  refine sK_i (pc' := 6) rfl ?_
  refine x_retz (z := false) rfl rfl ?_
  refine sK_i (pc' := 5) rfl ?_
  refine x_if (a' := 12) (pc' := 8) (z := true) rfl rfl rfl (by decide) (fun _ => ?_) (fun h => by cases h)
  refine x_iconst (pc' := 13) rfl rfl ?_
  refine x_cv (ls0 := [_, _]) (rest := []) rfl rfl rfl rfl rfl ?_
  refine x_aload_n (pc' := 1) rfl rfl rfl rfl rfl ?_
  refine x_iload_n (pc' := 2) rfl rfl rfl ?_
  refine x_pI (pc' := 5) rfl rfl rfl ?_
  refine x_iload_n (pc' := 6) rfl rfl rfl ?_
  refine x_if (a' := 13) (pc' := 9) (z := true) rfl rfl rfl (by decide) (fun _ => ?_) (fun h => by cases h)
  refine x_iconst (pc' := 14) rfl rfl ?_
  refine x_retz (z := false) rfl rfl ?_
  refine sK_i (pc' := 16) rfl ?_
  refine x_retz (z := false) rfl rfl ?_
  refine sK_i (pc' := 5) rfl ?_
  refine x_if (a' := 21) (pc' := 8) (z := true) rfl rfl rfl (by decide) (fun _ => ?_) (fun h => by cases h)
  refine x_iconst (pc' := 22) rfl rfl ?_
  refine x_retz (z := false) rfl rfl ?_
  refine sK_i (pc' := 2872) rfl ?_
  refine x_istore (pc' := 2874) (ls' := [_, _, _, _, _, _, _]) rfl rfl rfl rfl ?_
  refine x_aload_n (pc' := 2875) rfl rfl rfl rfl rfl ?_
  refine x_cv (ls0 := [_]) (rest := []) rfl rfl rfl rfl rfl ?_
  refine x_aload_n (pc' := 1) rfl rfl rfl rfl rfl ?_
  refine x_gI (pc' := 4) (x := 1) rfl rfl rfl sI_s ?_
  refine x_reti rfl rfl ?_
  refine sK_i (pc' := 2878) rfl ?_
  refine x_iload (pc' := 2880) rfl rfl rfl ?_
  refine x_icmp (a' := 2885) (pc' := 2883) (z := true) rfl rfl rfl (by decide) (fun _ => ?_) (fun h => by cases h)
  refine x_iload (pc' := 2887) rfl rfl rfl ?_
  refine x_if (a' := 2909) (pc' := 2890) (z := true) rfl rfl rfl (by decide) (fun _ => ?_) (fun h => by cases h)
  refine x_goto (pc' := 2938) rfl rfl ?_
  refine x_iinc (pc' := 2941) (y := 7) (ls' := [_, _, _, _, _, _, _]) rfl rfl rfl rfl rfl ?_
  refine x_goto (pc' := 23) rfl rfl ?_
  refine x_iload (pc' := 25) rfl rfl rfl ?_
  refine x_aload_n (pc' := 26) rfl rfl rfl rfl rfl ?_
  refine x_alen (pc' := 27) (N := 7) rfl rfl rfl (Eq.trans rdNI (Eq.trans rdNthr (z_N_29_0 e))) (?_ : X _ _ _ (.inl 7 :: _) _ _)
  refine x_bipush (pc' := 29) rfl rfl ?_
  refine x_isub (pc' := 30) (z := 0) rfl rfl (by decide) ?_
  refine x_icmp (a' := 2944) (pc' := 33) (z := true) rfl rfl rfl (by decide) (fun _ => ?_) (fun h => by cases h)
  refine x_iconst (pc' := 2945) rfl rfl ?_
  refine x_retz (z := true) rfl rfl ?_
  exact Qp_ok e (p := 1) (q := 6) rfl rfl rfl rfl
set_option maxHeartbeats 4000000 in
set_option maxRecDepth 10000 in
theorem v_40 {t : sT} {xs : Nat → Int32}
    (e : t = T16 7 xs)
    (hk : ((xs 0) &&& 63) = 40) :
    X 297 23 [.inr (.inr (29, (some 0))), .inr (.inr (11, (some 0))), .inr (.inr (12, (some 0))), .inr (.inr (23, (some 0))), .inl 0, sJk, sJk] [] t Qp := by
  refine x_iload (pc' := 25) rfl rfl rfl ?_
  refine x_aload_n (pc' := 26) rfl rfl rfl rfl rfl ?_
  refine x_alen (pc' := 27) (N := 7) rfl rfl rfl (z_N_29_0 e) (?_ : X _ _ _ (.inl 7 :: _) _ _)
  refine x_bipush (pc' := 29) rfl rfl ?_
  refine x_isub (pc' := 30) (z := 0) rfl rfl (by decide) ?_
  refine x_icmp (a' := 2944) (pc' := 33) (z := false) rfl rfl rfl (by decide) (fun h => by cases h) (fun _ => ?_)
  refine x_aload_n (pc' := 34) rfl rfl rfl rfl rfl ?_
  refine x_iload (pc' := 36) rfl rfl rfl ?_
  refine x_iald (pc' := 37) (N := 7) (x := (xs 0)) rfl rfl rfl (z_N_29_0 e) (io_in (p := 0) (N := 7) (by decide) (by decide)) (Eq.trans (congrArg (sA t 29 0) (nn_io (p := 0) (by decide))) (z_A_29_0_0 e)) ?_
  refine x_bipush (pc' := 39) rfl rfl ?_
  refine x_iand (pc' := 40) (z := ((xs 0) &&& 63)) rfl rfl rfl ?_
  refine x_switch (pc' := 2912) rfl (by rw [hk]; decide) ?_
  refine x_aload_n (pc' := 2913) rfl rfl rfl rfl rfl ?_
  refine x_cv (ls0 := [_]) (rest := []) rfl rfl rfl rfl rfl ?_
  refine x_aload_n (pc' := 1) rfl rfl rfl rfl rfl ?_
  refine x_gR (pc' := 4) (r := (some 0)) rfl rfl rfl (z_R_704_0 e) ?_
  refine x_gI (pc' := 7) (x := 0) rfl rfl rfl (z_I_324_0 e) ?_
  refine x_reti rfl rfl ?_
  refine sK_i (pc' := 2916) rfl ?_
  refine x_aload_n (pc' := 2917) rfl rfl rfl rfl rfl ?_
  refine x_cv (ls0 := [_]) (rest := [_]) rfl rfl rfl rfl rfl ?_
  refine x_aload_n (pc' := 1) rfl rfl rfl rfl rfl ?_
  refine x_iconst (pc' := 2) rfl rfl ?_
  refine x_pI (pc' := 5) rfl rfl rfl ?_
  refine x_aload_n (pc' := 6) rfl rfl rfl rfl rfl ?_
  refine x_gI (pc' := 9) (x := 0) rfl rfl rfl (Eq.trans (rdI_F rfl) (z_I_784_0 e)) ?_
  refine x_reti rfl rfl ?_
  refine sK_i (pc' := 2920) rfl ?_
  refine x_icmp (a' := 2938) (pc' := 2923) (z := true) rfl rfl rfl (by decide) (fun _ => ?_) (fun h => by cases h)
  refine x_iinc (pc' := 2941) (y := 7) (ls' := [_, _, _, _, _, _, _]) rfl rfl rfl rfl rfl ?_
  refine x_goto (pc' := 23) rfl rfl ?_
  refine x_iload (pc' := 25) rfl rfl rfl ?_
  refine x_aload_n (pc' := 26) rfl rfl rfl rfl rfl ?_
  refine x_alen (pc' := 27) (N := 7) rfl rfl rfl (Eq.trans rdNI (z_N_29_0 e)) (?_ : X _ _ _ (.inl 7 :: _) _ _)
  refine x_bipush (pc' := 29) rfl rfl ?_
  refine x_isub (pc' := 30) (z := 0) rfl rfl (by decide) ?_
  refine x_icmp (a' := 2944) (pc' := 33) (z := true) rfl rfl rfl (by decide) (fun _ => ?_) (fun h => by cases h)
  refine x_iconst (pc' := 2945) rfl rfl ?_
  refine x_retz (z := true) rfl rfl ?_
  exact Qp_ok e (p := 0) (q := 0) rfl rfl rfl rfl
set_option maxHeartbeats 4000000 in
set_option maxRecDepth 10000 in
theorem v_41 {t : sT} {xs : Nat → Int32}
    (e : t = T16 7 xs)
    (hk : ((xs 0) &&& 63) = 41) :
    X 297 23 [.inr (.inr (29, (some 0))), .inr (.inr (11, (some 0))), .inr (.inr (12, (some 0))), .inr (.inr (23, (some 0))), .inl 0, sJk, sJk] [] t Qp := by
  refine x_iload (pc' := 25) rfl rfl rfl ?_
  refine x_aload_n (pc' := 26) rfl rfl rfl rfl rfl ?_
  refine x_alen (pc' := 27) (N := 7) rfl rfl rfl (z_N_29_0 e) (?_ : X _ _ _ (.inl 7 :: _) _ _)
  refine x_bipush (pc' := 29) rfl rfl ?_
  refine x_isub (pc' := 30) (z := 0) rfl rfl (by decide) ?_
  refine x_icmp (a' := 2944) (pc' := 33) (z := false) rfl rfl rfl (by decide) (fun h => by cases h) (fun _ => ?_)
  refine x_aload_n (pc' := 34) rfl rfl rfl rfl rfl ?_
  refine x_iload (pc' := 36) rfl rfl rfl ?_
  refine x_iald (pc' := 37) (N := 7) (x := (xs 0)) rfl rfl rfl (z_N_29_0 e) (io_in (p := 0) (N := 7) (by decide) (by decide)) (Eq.trans (congrArg (sA t 29 0) (nn_io (p := 0) (by decide))) (z_A_29_0_0 e)) ?_
  refine x_bipush (pc' := 39) rfl rfl ?_
  refine x_iand (pc' := 40) (z := ((xs 0) &&& 63)) rfl rfl rfl ?_
  refine x_switch (pc' := 2925) rfl (by rw [hk]; decide) ?_
  refine x_aload_n (pc' := 2926) rfl rfl rfl rfl rfl ?_
  refine x_cv (ls0 := [_]) (rest := []) rfl rfl rfl rfl rfl ?_
  refine x_aload_n (pc' := 1) rfl rfl rfl rfl rfl ?_
  refine x_gR (pc' := 4) (r := (some 0)) rfl rfl rfl (z_R_704_0 e) ?_
  refine x_gI (pc' := 7) (x := 0) rfl rfl rfl (z_I_325_0 e) ?_
  refine x_reti rfl rfl ?_
  refine sK_i (pc' := 2929) rfl ?_
  refine x_aload_n (pc' := 2930) rfl rfl rfl rfl rfl ?_
  refine x_cv (ls0 := [_]) (rest := [_]) rfl rfl rfl rfl rfl ?_
  refine x_aload_n (pc' := 1) rfl rfl rfl rfl rfl ?_
  refine x_iconst (pc' := 2) rfl rfl ?_
  refine x_pI (pc' := 5) rfl rfl rfl ?_
  refine x_aload_n (pc' := 6) rfl rfl rfl rfl rfl ?_
  refine x_gI (pc' := 9) (x := 0) rfl rfl rfl (Eq.trans (rdI_F rfl) (z_I_785_0 e)) ?_
  refine x_reti rfl rfl ?_
  refine sK_i (pc' := 2933) rfl ?_
  refine x_icmp (a' := 2938) (pc' := 2936) (z := true) rfl rfl rfl (by decide) (fun _ => ?_) (fun h => by cases h)
  refine x_iinc (pc' := 2941) (y := 7) (ls' := [_, _, _, _, _, _, _]) rfl rfl rfl rfl rfl ?_
  refine x_goto (pc' := 23) rfl rfl ?_
  refine x_iload (pc' := 25) rfl rfl rfl ?_
  refine x_aload_n (pc' := 26) rfl rfl rfl rfl rfl ?_
  refine x_alen (pc' := 27) (N := 7) rfl rfl rfl (Eq.trans rdNI (z_N_29_0 e)) (?_ : X _ _ _ (.inl 7 :: _) _ _)
  refine x_bipush (pc' := 29) rfl rfl ?_
  refine x_isub (pc' := 30) (z := 0) rfl rfl (by decide) ?_
  refine x_icmp (a' := 2944) (pc' := 33) (z := true) rfl rfl rfl (by decide) (fun _ => ?_) (fun h => by cases h)
  refine x_iconst (pc' := 2945) rfl rfl ?_
  refine x_retz (z := true) rfl rfl ?_
  exact Qp_ok e (p := 0) (q := 0) rfl rfl rfl rfl
set_option maxHeartbeats 4000000 in
set_option maxRecDepth 10000 in
theorem v_37_v {t : sT} {xs : Nat → Int32} {m : Nat}
    (e : t = T16 7 xs)
    (hk : ((xs 0) &&& 63) = 37)
    (hm : m < 6)
    (e0 : xs 1 = io m) :
    X 297 23 [.inr (.inr (29, (some 0))), .inr (.inr (11, (some 0))), .inr (.inr (12, (some 0))), .inr (.inr (23, (some 0))), .inl 0, sJk, sJk] [] t Qp := by
  refine x_iload (pc' := 25) rfl rfl rfl ?_
  refine x_aload_n (pc' := 26) rfl rfl rfl rfl rfl ?_
  refine x_alen (pc' := 27) (N := 7) rfl rfl rfl (z_N_29_0 e) (?_ : X _ _ _ (.inl 7 :: _) _ _)
  refine x_bipush (pc' := 29) rfl rfl ?_
  refine x_isub (pc' := 30) (z := 0) rfl rfl (by decide) ?_
  refine x_icmp (a' := 2944) (pc' := 33) (z := false) rfl rfl rfl (by decide) (fun h => by cases h) (fun _ => ?_)
  refine x_aload_n (pc' := 34) rfl rfl rfl rfl rfl ?_
  refine x_iload (pc' := 36) rfl rfl rfl ?_
  refine x_iald (pc' := 37) (N := 7) (x := (xs 0)) rfl rfl rfl (z_N_29_0 e) (io_in (p := 0) (N := 7) (by decide) (by decide)) (Eq.trans (congrArg (sA t 29 0) (nn_io (p := 0) (by decide))) (z_A_29_0_0 e)) ?_
  refine x_bipush (pc' := 39) rfl rfl ?_
  refine x_iand (pc' := 40) (z := ((xs 0) &&& 63)) rfl rfl rfl ?_
  refine x_switch (pc' := 2737) rfl (by rw [hk]; decide) ?_
  refine x_aload_n (pc' := 2738) rfl rfl rfl rfl rfl ?_
  refine x_aload_n (pc' := 2739) rfl rfl rfl rfl rfl ?_
  refine x_iload (pc' := 2741) rfl rfl rfl ?_
  refine x_iconst (pc' := 2742) rfl rfl ?_
  refine x_iadd (pc' := 2743) (z := 1) rfl rfl (by decide) ?_
  refine x_iald (pc' := 2744) (N := 7) (x := (io m)) rfl rfl rfl (z_N_29_0 e) (io_in (p := 1) (N := 7) (by decide) (by decide)) (Eq.trans (congrArg (sA t 29 0) (nn_io (p := 1) (by decide))) (Eq.trans (z_A_29_0_1 e) e0)) ?_
  refine x_aload_n (pc' := 2745) rfl rfl rfl rfl rfl ?_
  refine x_cs (ls0 := [_, _, _, sJk]) (rest := []) rfl rfl rfl rfl ?_
  refine x_aload_n (pc' := 1) rfl rfl rfl rfl rfl ?_
  refine x_iconst (pc' := 2) rfl rfl ?_
  refine x_aload_n (pc' := 3) rfl rfl rfl rfl rfl ?_
  refine x_iload_n (pc' := 4) rfl rfl rfl ?_
  refine x_cv (ls0 := [_, _]) (rest := [_, _]) rfl rfl rfl rfl rfl ?_
  refine x_aload_n (pc' := 1) rfl rfl rfl rfl rfl ?_
  refine x_aload_n (pc' := 2) rfl rfl rfl rfl rfl ?_
  refine x_iload_n (pc' := 3) rfl rfl rfl ?_
  refine x_cv (ls0 := [_, _]) (rest := [_]) rfl rfl rfl rfl rfl ?_
  refine x_iload_n (pc' := 1) rfl rfl rfl ?_
  refine x_if (a' := 16) (pc' := 4) (z := decide (m < 0)) rfl rfl rfl (ic_lt (p := m) (q := 0) (Nat.lt_trans hm (by decide)) (by decide)) (fun h => absurd (of_decide_eq_true h) (by first | decide | omega | simp)) (fun _ => ?_)
  refine x_iload_n (pc' := 5) rfl rfl rfl ?_
  refine x_aload_n (pc' := 6) rfl rfl rfl rfl rfl ?_
  refine x_gR (pc' := 9) (r := (some 0)) rfl rfl rfl (z_R_704_0 e) ?_
  refine x_gR (pc' := 12) (r := (some 0)) rfl rfl rfl (z_R_321_0 e) ?_
  refine x_alen (pc' := 13) (N := 6) rfl rfl rfl (z_N_26_0 e) (?_ : X _ _ _ (.inl 6 :: _) _ _)
  refine x_icmp (a' := 27) (pc' := 16) (z := decide (m < 6)) rfl rfl rfl (ic_lt (p := m) (q := 6) (Nat.lt_trans hm (by decide)) (by decide)) (fun _ => ?_) (fun h => absurd (Nat.lt_of_lt_of_le hm (by decide)) (of_decide_eq_false h))
  refine x_aload_n (pc' := 28) rfl rfl rfl rfl rfl ?_
  refine x_gR (pc' := 31) (r := (some 0)) rfl rfl rfl (z_R_704_0 e) ?_
  refine x_gR (pc' := 34) (r := (some 0)) rfl rfl rfl (z_R_321_0 e) ?_
  refine x_iload_n (pc' := 35) rfl rfl rfl ?_
  refine x_aald (pc' := 36) (N := 6) (k' := 7) (r := (some m)) rfl rfl rfl (z_N_26_0 e) (io_in (p := m) (N := 6) hm (by decide)) (Eq.trans (congrArg (sE t 26 0) (nn_io (p := m) (Nat.lt_trans hm (by decide)))) (kM (Cn_e e) hm)) ?_
  refine x_reta rfl rfl ?_
  refine sK_i (pc' := 6) rfl ?_
  refine x_cv (ls0 := [_, _]) (rest := []) rfl rfl rfl rfl rfl ?_
  refine x_aload_n (pc' := 1) rfl rfl rfl rfl rfl ?_
  refine x_gR (pc' := 4) (r := (some 0)) rfl rfl rfl (z_R_704_0 e) ?_
  refine x_aload_n (pc' := 5) rfl rfl rfl rfl rfl ?_
  refine x_aload_n (pc' := 6) rfl rfl rfl rfl rfl ?_
  refine x_gR (pc' := 9) (r := (some 0)) rfl rfl rfl (z_R_705_0 e) ?_
  refine x_aload_n (pc' := 10) rfl rfl rfl rfl rfl ?_
  refine x_null (pc' := 11) rfl rfl rfl ?_
  refine x_cv (ls0 := [_, _, _, sJk, sJk, sJk, sJk]) (rest := [_, _]) rfl rfl rfl rfl rfl ?_
  refine x_bipush (pc' := 2) rfl rfl ?_
  refine x_newarray (pc' := 4) (N := 6) (i := 7) rfl rfl rfl rfl (z_C_20 e) ?_
  refine x_astore_n (pc' := 5) (ls' := [_, _, _, _, _, _, _]) rfl rfl rfl rfl rfl ?_
  refine x_iconst (pc' := 6) rfl rfl ?_
  refine x_istore (pc' := 8) (ls' := [_, _, _, _, _, _, _]) rfl rfl rfl rfl ?_
  refine x_iload (pc' := 10) rfl rfl rfl ?_
  refine x_aload_n (pc' := 11) rfl rfl rfl rfl rfl ?_
  refine x_gR (pc' := 14) (r := (some 1)) rfl rfl rfl (Eq.trans rdRnwa (z_R_257_0 e)) ?_
  refine x_cv (ls0 := [_]) (rest := [_]) rfl rfl rfl rfl rfl ?_
  refine x_aload_n (pc' := 1) rfl rfl rfl rfl rfl ?_
  refine x_gI (pc' := 4) (x := 0) rfl rfl rfl (Eq.trans rdInwa (z_I_834_1 e)) ?_
  refine x_reti rfl rfl ?_
  refine sK_i (pc' := 17) rfl ?_
  refine x_icmp (a' := 105) (pc' := 20) (z := true) rfl rfl rfl (by decide) (fun _ => ?_) (fun h => by cases h)
  refine x_aload_n (pc' := 106) rfl rfl rfl rfl rfl ?_
  refine x_reta rfl rfl ?_
  refine sK_i (pc' := 14) rfl ?_
  refine x_cv (ls0 := [_, _, _, sJk, sJk, sJk, sJk, sJk, sJk]) (rest := []) rfl rfl rfl rfl rfl ?_
  refine x_iconst (pc' := 1) rfl rfl ?_
  refine x_istore_n (pc' := 2) (ls' := [_, _, _, _, _, _, _, _, _]) rfl rfl rfl rfl ?_
  refine x_iconst (pc' := 3) rfl rfl ?_
  refine x_istore (pc' := 5) (ls' := [_, _, _, _, _, _, _, _, _]) rfl rfl rfl rfl ?_
  refine x_iload (pc' := 7) rfl rfl rfl ?_
  refine x_bipush (pc' := 9) rfl rfl ?_
  refine x_icmp (a' := 111) (pc' := 12) (z := false) rfl rfl rfl (by decide) (fun h => by cases h) (fun _ => ?_)
  refine x_iconst (pc' := 13) rfl rfl ?_
  refine x_istore (pc' := 15) (ls' := [_, _, _, _, _, _, _, _, _]) rfl rfl rfl rfl ?_
  refine x_iconst (pc' := 16) rfl rfl ?_
  refine x_istore (pc' := 18) (ls' := [_, _, _, _, _, _, _, _, _]) rfl rfl rfl rfl ?_
  refine x_iload (pc' := 20) rfl rfl rfl ?_
  refine x_aload_n (pc' := 21) rfl rfl rfl rfl rfl ?_
  refine x_gR (pc' := 24) (r := (some 0)) rfl rfl rfl (Eq.trans rdRnwa (z_R_320_0 e)) ?_
  refine x_alen (pc' := 25) (N := 3) rfl rfl rfl (Eq.trans (b := sN t _ _) rfl (z_N_25_0 e)) (?_ : X _ _ _ (.inl 3 :: _) _ _)
  refine x_icmp (a' := 98) (pc' := 28) (z := false) rfl rfl rfl (by decide) (fun h => by cases h) (fun _ => ?_)
  refine x_iload (pc' := 30) rfl rfl rfl ?_
  refine x_iconst (pc' := 31) rfl rfl ?_
  refine x_iadd (pc' := 32) (z := 3) rfl rfl (by decide) ?_
  refine x_aload_n (pc' := 33) rfl rfl rfl rfl rfl ?_
  refine x_alen (pc' := 34) (N := 6) rfl rfl rfl (sN_new (z_C_20 e)) (?_ : X _ _ _ (.inl 6 :: _) _ _)
  refine x_icmp (a' := 98) (pc' := 37) (z := false) rfl rfl rfl (by decide) (fun h => by cases h) (fun _ => ?_)
  refine x_aload_n (pc' := 38) rfl rfl rfl rfl rfl ?_
  refine x_aload_n (pc' := 39) rfl rfl rfl rfl rfl ?_
  refine x_gR (pc' := 42) (r := (some 0)) rfl rfl rfl (Eq.trans rdRnwa (z_R_320_0 e)) ?_
  refine x_iload (pc' := 44) rfl rfl rfl ?_
  refine x_aald (pc' := 45) (N := 3) (k' := 2) (r := (some 0)) rfl rfl rfl (Eq.trans (b := sN t _ _) rfl (z_N_25_0 e)) (io_in (p := 0) (N := 3) (by decide) (by decide)) (Eq.trans (congrArg (sE (sNwA t 20 6) 25 0) (nn_io (p := 0) (by decide))) (Eq.trans rdEnwa (z_E_25_0_0 e))) ?_
  refine x_cv (ls0 := [_, _, sJk]) (rest := []) rfl rfl rfl rfl rfl ?_
  refine x_aload_n (pc' := 1) rfl rfl rfl rfl rfl ?_
  refine x_gI (pc' := 4) (x := 0) rfl rfl rfl (Eq.trans rdInwa (z_I_128_0 e)) ?_
  refine x_istore_n (pc' := 5) (ls' := [_, _, _]) rfl rfl rfl rfl ?_
  refine x_iload_n (pc' := 6) rfl rfl rfl ?_
  refine x_if (a' := 27) (pc' := 9) (z := false) rfl rfl rfl (by decide) (fun h => by cases h) (fun _ => ?_)
  refine x_iload_n (pc' := 10) rfl rfl rfl ?_
  refine x_aload_n (pc' := 11) rfl rfl rfl rfl rfl ?_
  refine x_gR (pc' := 14) (r := (some (m + 1))) rfl rfl rfl (kMp (Cn_e e) hm).1 ?_
  refine x_alen (pc' := 15) (N := 3) rfl rfl rfl (kMp (Cn.nwa (Cn_e e)) hm).2.1 (?_ : X _ _ _ (.inl 3 :: _) _ _)
  refine x_icmp (a' := 27) (pc' := 18) (z := false) rfl rfl rfl (by decide) (fun h => by cases h) (fun _ => ?_)
  refine x_aload_n (pc' := 19) rfl rfl rfl rfl rfl ?_
  refine x_gR (pc' := 22) (r := (some (m + 1))) rfl rfl rfl (kMp (Cn_e e) hm).1 ?_
  refine x_iload_n (pc' := 23) rfl rfl rfl ?_
  refine x_iald (pc' := 24) (N := 3) (x := 0) rfl rfl rfl (kMp (Cn.nwa (Cn_e e)) hm).2.1 (io_in (p := 0) (N := 3) (by decide) (by decide)) (Eq.trans (congrArg (sA (sNwA t 20 6) 20 (m + 1)) (nn_io (p := 0) (by decide))) (Eq.trans rdAnwa (z_A_20_yy e _ _))) ?_
  refine x_goto (pc' := 28) rfl rfl ?_
  refine x_reti rfl rfl ?_
  refine sK_i (pc' := 48) rfl ?_
  refine x_istore (pc' := 50) (ls' := [_, _, _, _, _, _, _, _, _]) rfl rfl rfl rfl ?_
  refine x_aload_n (pc' := 51) rfl rfl rfl rfl rfl ?_
  refine x_iload (pc' := 53) rfl rfl rfl ?_
  refine x_iload (pc' := 55) rfl rfl rfl ?_
  refine x_cv (ls0 := [_, _, _, sJk]) (rest := []) rfl rfl rfl rfl rfl ?_
  refine x_iload_n (pc' := 1) rfl rfl rfl ?_
  refine x_iconst (pc' := 2) rfl rfl ?_
  refine x_imul (pc' := 3) (z := 0) rfl rfl (by decide) ?_
  refine x_iload_n (pc' := 4) rfl rfl rfl ?_
  refine x_iadd (pc' := 5) (z := 0) rfl rfl (by decide) ?_
  refine x_istore_n (pc' := 6) (ls' := [_, _, _, _]) rfl rfl rfl rfl ?_
  refine x_iload_n (pc' := 7) rfl rfl rfl ?_
  refine x_if (a' := 28) (pc' := 10) (z := false) rfl rfl rfl (by decide) (fun h => by cases h) (fun _ => ?_)
  refine x_iload_n (pc' := 11) rfl rfl rfl ?_
  refine x_aload_n (pc' := 12) rfl rfl rfl rfl rfl ?_
  refine x_gR (pc' := 15) (r := (some 0)) rfl rfl rfl (Eq.trans rdRnwa (z_R_323_0 e)) ?_
  refine x_alen (pc' := 16) (N := 18) rfl rfl rfl (kN_20_0 (Cn.nwa (Cn_e e))) (?_ : X _ _ _ (.inl 18 :: _) _ _)
  refine x_icmp (a' := 28) (pc' := 19) (z := false) rfl rfl rfl (by decide) (fun h => by cases h) (fun _ => ?_)
  refine x_aload_n (pc' := 20) rfl rfl rfl rfl rfl ?_
  refine x_gR (pc' := 23) (r := (some 0)) rfl rfl rfl (Eq.trans rdRnwa (z_R_323_0 e)) ?_
  refine x_iload_n (pc' := 24) rfl rfl rfl ?_
  refine x_iald (pc' := 25) (N := 18) (x := 0) rfl rfl rfl (kN_20_0 (Cn.nwa (Cn_e e))) (io_in (p := 0) (N := 18) (by decide) (by decide)) (Eq.trans (congrArg (sA (sNwA t 20 6) 20 0) (nn_io (p := 0) (by decide))) (Eq.trans rdAnwa (z_A_20_0_0 e))) ?_
  refine x_goto (pc' := 29) rfl rfl ?_
  refine x_reti rfl rfl ?_
  refine sK_i (pc' := 58) rfl ?_
  refine x_istore (pc' := 60) (ls' := [_, _, _, _, _, _, _, _, _]) rfl rfl rfl rfl ?_
  refine x_iload (pc' := 62) rfl rfl rfl ?_
  refine x_iload (pc' := 64) rfl rfl rfl ?_
  refine x_aload_n (pc' := 65) rfl rfl rfl rfl rfl ?_
  refine x_iload (pc' := 67) rfl rfl rfl ?_
  refine x_iald (pc' := 68) (N := 6) (x := 0) rfl rfl rfl (sN_new (z_C_20 e)) (io_in (p := 0) (N := 6) (by decide) (by decide)) (Eq.trans (congrArg (sA (sNwA t 20 6) 20 7) (nn_io (p := 0) (by decide))) (Eq.trans rdAnwa (z_A_20_7_0 e))) ?_
  refine x_iadd (pc' := 69) (z := 0) rfl rfl (by decide) ?_
  refine x_ineg (pc' := 70) (z := 0) rfl rfl (by decide) ?_
  refine x_iload (pc' := 72) rfl rfl rfl ?_
  refine x_imul (pc' := 73) (z := 0) rfl rfl (by decide) ?_
  refine x_iload (pc' := 75) rfl rfl rfl ?_
  refine x_aload_n (pc' := 76) rfl rfl rfl rfl rfl ?_
  refine x_iload (pc' := 78) rfl rfl rfl ?_
  refine x_iconst (pc' := 79) rfl rfl ?_
  refine x_iadd (pc' := 80) (z := 3) rfl rfl (by decide) ?_
  refine x_iald (pc' := 81) (N := 6) (x := 0) rfl rfl rfl (sN_new (z_C_20 e)) (io_in (p := 3) (N := 6) (by decide) (by decide)) (Eq.trans (congrArg (sA (sNwA t 20 6) 20 7) (nn_io (p := 3) (by decide))) (Eq.trans rdAnwa (z_A_20_7_3 e))) ?_
  refine x_isub (pc' := 82) (z := 0) rfl rfl (by decide) ?_
  refine x_ineg (pc' := 83) (z := 0) rfl rfl (by decide) ?_
  refine x_iload (pc' := 85) rfl rfl rfl ?_
  refine x_imul (pc' := 86) (z := 0) rfl rfl (by decide) ?_
  refine x_max (pc' := 89) (z := 0) rfl rfl rfl (by decide) ?_
  refine x_iadd (pc' := 90) (z := 0) rfl rfl (by decide) ?_
  refine x_istore (pc' := 92) (ls' := [_, _, _, _, _, _, _, _, _]) rfl rfl rfl rfl ?_
  refine x_iinc (pc' := 95) (y := 1) (ls' := [_, _, _, _, _, _, _, _, _]) rfl rfl rfl rfl rfl ?_
  refine x_goto (pc' := 18) rfl rfl ?_
  refine x_iload (pc' := 20) rfl rfl rfl ?_
  refine x_aload_n (pc' := 21) rfl rfl rfl rfl rfl ?_
  refine x_gR (pc' := 24) (r := (some 0)) rfl rfl rfl (Eq.trans rdRnwa (z_R_320_0 e)) ?_
  refine x_alen (pc' := 25) (N := 3) rfl rfl rfl (Eq.trans (b := sN t _ _) rfl (z_N_25_0 e)) (?_ : X _ _ _ (.inl 3 :: _) _ _)
  refine x_icmp (a' := 98) (pc' := 28) (z := false) rfl rfl rfl (by decide) (fun h => by cases h) (fun _ => ?_)
  refine x_iload (pc' := 30) rfl rfl rfl ?_
  refine x_iconst (pc' := 31) rfl rfl ?_
  refine x_iadd (pc' := 32) (z := 4) rfl rfl (by decide) ?_
  refine x_aload_n (pc' := 33) rfl rfl rfl rfl rfl ?_
  refine x_alen (pc' := 34) (N := 6) rfl rfl rfl (sN_new (z_C_20 e)) (?_ : X _ _ _ (.inl 6 :: _) _ _)
  refine x_icmp (a' := 98) (pc' := 37) (z := false) rfl rfl rfl (by decide) (fun h => by cases h) (fun _ => ?_)
  refine x_aload_n (pc' := 38) rfl rfl rfl rfl rfl ?_
  refine x_aload_n (pc' := 39) rfl rfl rfl rfl rfl ?_
  refine x_gR (pc' := 42) (r := (some 0)) rfl rfl rfl (Eq.trans rdRnwa (z_R_320_0 e)) ?_
  refine x_iload (pc' := 44) rfl rfl rfl ?_
  refine x_aald (pc' := 45) (N := 3) (k' := 2) (r := (some 1)) rfl rfl rfl (Eq.trans (b := sN t _ _) rfl (z_N_25_0 e)) (io_in (p := 1) (N := 3) (by decide) (by decide)) (Eq.trans (congrArg (sE (sNwA t 20 6) 25 0) (nn_io (p := 1) (by decide))) (Eq.trans rdEnwa (z_E_25_0_1 e))) ?_
  refine x_cv (ls0 := [_, _, sJk]) (rest := []) rfl rfl rfl rfl rfl ?_
  refine x_aload_n (pc' := 1) rfl rfl rfl rfl rfl ?_
  refine x_gI (pc' := 4) (x := 1) rfl rfl rfl (Eq.trans rdInwa (z_I_128_1 e)) ?_
  refine x_istore_n (pc' := 5) (ls' := [_, _, _]) rfl rfl rfl rfl ?_
  refine x_iload_n (pc' := 6) rfl rfl rfl ?_
  refine x_if (a' := 27) (pc' := 9) (z := false) rfl rfl rfl (by decide) (fun h => by cases h) (fun _ => ?_)
  refine x_iload_n (pc' := 10) rfl rfl rfl ?_
  refine x_aload_n (pc' := 11) rfl rfl rfl rfl rfl ?_
  refine x_gR (pc' := 14) (r := (some (m + 1))) rfl rfl rfl (kMp (Cn_e e) hm).1 ?_
  refine x_alen (pc' := 15) (N := 3) rfl rfl rfl (kMp (Cn.nwa (Cn_e e)) hm).2.1 (?_ : X _ _ _ (.inl 3 :: _) _ _)
  refine x_icmp (a' := 27) (pc' := 18) (z := false) rfl rfl rfl (by decide) (fun h => by cases h) (fun _ => ?_)
  refine x_aload_n (pc' := 19) rfl rfl rfl rfl rfl ?_
  refine x_gR (pc' := 22) (r := (some (m + 1))) rfl rfl rfl (kMp (Cn_e e) hm).1 ?_
  refine x_iload_n (pc' := 23) rfl rfl rfl ?_
  refine x_iald (pc' := 24) (N := 3) (x := 0) rfl rfl rfl (kMp (Cn.nwa (Cn_e e)) hm).2.1 (io_in (p := 1) (N := 3) (by decide) (by decide)) (Eq.trans (congrArg (sA (sNwA t 20 6) 20 (m + 1)) (nn_io (p := 1) (by decide))) (Eq.trans rdAnwa (z_A_20_yy e _ _))) ?_
  refine x_goto (pc' := 28) rfl rfl ?_
  refine x_reti rfl rfl ?_
  refine sK_i (pc' := 48) rfl ?_
  refine x_istore (pc' := 50) (ls' := [_, _, _, _, _, _, _, _, _]) rfl rfl rfl rfl ?_
  refine x_aload_n (pc' := 51) rfl rfl rfl rfl rfl ?_
  refine x_iload (pc' := 53) rfl rfl rfl ?_
  refine x_iload (pc' := 55) rfl rfl rfl ?_
  refine x_cv (ls0 := [_, _, _, sJk]) (rest := []) rfl rfl rfl rfl rfl ?_
  refine x_iload_n (pc' := 1) rfl rfl rfl ?_
  refine x_iconst (pc' := 2) rfl rfl ?_
  refine x_imul (pc' := 3) (z := 0) rfl rfl (by decide) ?_
  refine x_iload_n (pc' := 4) rfl rfl rfl ?_
  refine x_iadd (pc' := 5) (z := 1) rfl rfl (by decide) ?_
  refine x_istore_n (pc' := 6) (ls' := [_, _, _, _]) rfl rfl rfl rfl ?_
  refine x_iload_n (pc' := 7) rfl rfl rfl ?_
  refine x_if (a' := 28) (pc' := 10) (z := false) rfl rfl rfl (by decide) (fun h => by cases h) (fun _ => ?_)
  refine x_iload_n (pc' := 11) rfl rfl rfl ?_
  refine x_aload_n (pc' := 12) rfl rfl rfl rfl rfl ?_
  refine x_gR (pc' := 15) (r := (some 0)) rfl rfl rfl (Eq.trans rdRnwa (z_R_323_0 e)) ?_
  refine x_alen (pc' := 16) (N := 18) rfl rfl rfl (kN_20_0 (Cn.nwa (Cn_e e))) (?_ : X _ _ _ (.inl 18 :: _) _ _)
  refine x_icmp (a' := 28) (pc' := 19) (z := false) rfl rfl rfl (by decide) (fun h => by cases h) (fun _ => ?_)
  refine x_aload_n (pc' := 20) rfl rfl rfl rfl rfl ?_
  refine x_gR (pc' := 23) (r := (some 0)) rfl rfl rfl (Eq.trans rdRnwa (z_R_323_0 e)) ?_
  refine x_iload_n (pc' := 24) rfl rfl rfl ?_
  refine x_iald (pc' := 25) (N := 18) (x := 0) rfl rfl rfl (kN_20_0 (Cn.nwa (Cn_e e))) (io_in (p := 1) (N := 18) (by decide) (by decide)) (Eq.trans (congrArg (sA (sNwA t 20 6) 20 0) (nn_io (p := 1) (by decide))) (Eq.trans rdAnwa (z_A_20_0_1 e))) ?_
  refine x_goto (pc' := 29) rfl rfl ?_
  refine x_reti rfl rfl ?_
  refine sK_i (pc' := 58) rfl ?_
  refine x_istore (pc' := 60) (ls' := [_, _, _, _, _, _, _, _, _]) rfl rfl rfl rfl ?_
  refine x_iload (pc' := 62) rfl rfl rfl ?_
  refine x_iload (pc' := 64) rfl rfl rfl ?_
  refine x_aload_n (pc' := 65) rfl rfl rfl rfl rfl ?_
  refine x_iload (pc' := 67) rfl rfl rfl ?_
  refine x_iald (pc' := 68) (N := 6) (x := 0) rfl rfl rfl (sN_new (z_C_20 e)) (io_in (p := 1) (N := 6) (by decide) (by decide)) (Eq.trans (congrArg (sA (sNwA t 20 6) 20 7) (nn_io (p := 1) (by decide))) (Eq.trans rdAnwa (z_A_20_7_1 e))) ?_
  refine x_iadd (pc' := 69) (z := 0) rfl rfl (by decide) ?_
  refine x_ineg (pc' := 70) (z := 0) rfl rfl (by decide) ?_
  refine x_iload (pc' := 72) rfl rfl rfl ?_
  refine x_imul (pc' := 73) (z := 0) rfl rfl (by decide) ?_
  refine x_iload (pc' := 75) rfl rfl rfl ?_
  refine x_aload_n (pc' := 76) rfl rfl rfl rfl rfl ?_
  refine x_iload (pc' := 78) rfl rfl rfl ?_
  refine x_iconst (pc' := 79) rfl rfl ?_
  refine x_iadd (pc' := 80) (z := 4) rfl rfl (by decide) ?_
  refine x_iald (pc' := 81) (N := 6) (x := 0) rfl rfl rfl (sN_new (z_C_20 e)) (io_in (p := 4) (N := 6) (by decide) (by decide)) (Eq.trans (congrArg (sA (sNwA t 20 6) 20 7) (nn_io (p := 4) (by decide))) (Eq.trans rdAnwa (z_A_20_7_4 e))) ?_
  refine x_isub (pc' := 82) (z := 0) rfl rfl (by decide) ?_
  refine x_ineg (pc' := 83) (z := 0) rfl rfl (by decide) ?_
  refine x_iload (pc' := 85) rfl rfl rfl ?_
  refine x_imul (pc' := 86) (z := 0) rfl rfl (by decide) ?_
  refine x_max (pc' := 89) (z := 0) rfl rfl rfl (by decide) ?_
  refine x_iadd (pc' := 90) (z := 0) rfl rfl (by decide) ?_
  refine x_istore (pc' := 92) (ls' := [_, _, _, _, _, _, _, _, _]) rfl rfl rfl rfl ?_
  refine x_iinc (pc' := 95) (y := 2) (ls' := [_, _, _, _, _, _, _, _, _]) rfl rfl rfl rfl rfl ?_
  refine x_goto (pc' := 18) rfl rfl ?_
  refine x_iload (pc' := 20) rfl rfl rfl ?_
  refine x_aload_n (pc' := 21) rfl rfl rfl rfl rfl ?_
  refine x_gR (pc' := 24) (r := (some 0)) rfl rfl rfl (Eq.trans rdRnwa (z_R_320_0 e)) ?_
  refine x_alen (pc' := 25) (N := 3) rfl rfl rfl (Eq.trans (b := sN t _ _) rfl (z_N_25_0 e)) (?_ : X _ _ _ (.inl 3 :: _) _ _)
  refine x_icmp (a' := 98) (pc' := 28) (z := false) rfl rfl rfl (by decide) (fun h => by cases h) (fun _ => ?_)
  refine x_iload (pc' := 30) rfl rfl rfl ?_
  refine x_iconst (pc' := 31) rfl rfl ?_
  refine x_iadd (pc' := 32) (z := 5) rfl rfl (by decide) ?_
  refine x_aload_n (pc' := 33) rfl rfl rfl rfl rfl ?_
  refine x_alen (pc' := 34) (N := 6) rfl rfl rfl (sN_new (z_C_20 e)) (?_ : X _ _ _ (.inl 6 :: _) _ _)
  refine x_icmp (a' := 98) (pc' := 37) (z := false) rfl rfl rfl (by decide) (fun h => by cases h) (fun _ => ?_)
  refine x_aload_n (pc' := 38) rfl rfl rfl rfl rfl ?_
  refine x_aload_n (pc' := 39) rfl rfl rfl rfl rfl ?_
  refine x_gR (pc' := 42) (r := (some 0)) rfl rfl rfl (Eq.trans rdRnwa (z_R_320_0 e)) ?_
  refine x_iload (pc' := 44) rfl rfl rfl ?_
  refine x_aald (pc' := 45) (N := 3) (k' := 2) (r := (some 2)) rfl rfl rfl (Eq.trans (b := sN t _ _) rfl (z_N_25_0 e)) (io_in (p := 2) (N := 3) (by decide) (by decide)) (Eq.trans (congrArg (sE (sNwA t 20 6) 25 0) (nn_io (p := 2) (by decide))) (Eq.trans rdEnwa (z_E_25_0_2 e))) ?_
  refine x_cv (ls0 := [_, _, sJk]) (rest := []) rfl rfl rfl rfl rfl ?_
  refine x_aload_n (pc' := 1) rfl rfl rfl rfl rfl ?_
  refine x_gI (pc' := 4) (x := 2) rfl rfl rfl (Eq.trans rdInwa (z_I_128_2 e)) ?_
  refine x_istore_n (pc' := 5) (ls' := [_, _, _]) rfl rfl rfl rfl ?_
  refine x_iload_n (pc' := 6) rfl rfl rfl ?_
  refine x_if (a' := 27) (pc' := 9) (z := false) rfl rfl rfl (by decide) (fun h => by cases h) (fun _ => ?_)
  refine x_iload_n (pc' := 10) rfl rfl rfl ?_
  refine x_aload_n (pc' := 11) rfl rfl rfl rfl rfl ?_
  refine x_gR (pc' := 14) (r := (some (m + 1))) rfl rfl rfl (kMp (Cn_e e) hm).1 ?_
  refine x_alen (pc' := 15) (N := 3) rfl rfl rfl (kMp (Cn.nwa (Cn_e e)) hm).2.1 (?_ : X _ _ _ (.inl 3 :: _) _ _)
  refine x_icmp (a' := 27) (pc' := 18) (z := false) rfl rfl rfl (by decide) (fun h => by cases h) (fun _ => ?_)
  refine x_aload_n (pc' := 19) rfl rfl rfl rfl rfl ?_
  refine x_gR (pc' := 22) (r := (some (m + 1))) rfl rfl rfl (kMp (Cn_e e) hm).1 ?_
  refine x_iload_n (pc' := 23) rfl rfl rfl ?_
  refine x_iald (pc' := 24) (N := 3) (x := 0) rfl rfl rfl (kMp (Cn.nwa (Cn_e e)) hm).2.1 (io_in (p := 2) (N := 3) (by decide) (by decide)) (Eq.trans (congrArg (sA (sNwA t 20 6) 20 (m + 1)) (nn_io (p := 2) (by decide))) (Eq.trans rdAnwa (z_A_20_yy e _ _))) ?_
  refine x_goto (pc' := 28) rfl rfl ?_
  refine x_reti rfl rfl ?_
  refine sK_i (pc' := 48) rfl ?_
  refine x_istore (pc' := 50) (ls' := [_, _, _, _, _, _, _, _, _]) rfl rfl rfl rfl ?_
  refine x_aload_n (pc' := 51) rfl rfl rfl rfl rfl ?_
  refine x_iload (pc' := 53) rfl rfl rfl ?_
  refine x_iload (pc' := 55) rfl rfl rfl ?_
  refine x_cv (ls0 := [_, _, _, sJk]) (rest := []) rfl rfl rfl rfl rfl ?_
  refine x_iload_n (pc' := 1) rfl rfl rfl ?_
  refine x_iconst (pc' := 2) rfl rfl ?_
  refine x_imul (pc' := 3) (z := 0) rfl rfl (by decide) ?_
  refine x_iload_n (pc' := 4) rfl rfl rfl ?_
  refine x_iadd (pc' := 5) (z := 2) rfl rfl (by decide) ?_
  refine x_istore_n (pc' := 6) (ls' := [_, _, _, _]) rfl rfl rfl rfl ?_
  refine x_iload_n (pc' := 7) rfl rfl rfl ?_
  refine x_if (a' := 28) (pc' := 10) (z := false) rfl rfl rfl (by decide) (fun h => by cases h) (fun _ => ?_)
  refine x_iload_n (pc' := 11) rfl rfl rfl ?_
  refine x_aload_n (pc' := 12) rfl rfl rfl rfl rfl ?_
  refine x_gR (pc' := 15) (r := (some 0)) rfl rfl rfl (Eq.trans rdRnwa (z_R_323_0 e)) ?_
  refine x_alen (pc' := 16) (N := 18) rfl rfl rfl (kN_20_0 (Cn.nwa (Cn_e e))) (?_ : X _ _ _ (.inl 18 :: _) _ _)
  refine x_icmp (a' := 28) (pc' := 19) (z := false) rfl rfl rfl (by decide) (fun h => by cases h) (fun _ => ?_)
  refine x_aload_n (pc' := 20) rfl rfl rfl rfl rfl ?_
  refine x_gR (pc' := 23) (r := (some 0)) rfl rfl rfl (Eq.trans rdRnwa (z_R_323_0 e)) ?_
  refine x_iload_n (pc' := 24) rfl rfl rfl ?_
  refine x_iald (pc' := 25) (N := 18) (x := 0) rfl rfl rfl (kN_20_0 (Cn.nwa (Cn_e e))) (io_in (p := 2) (N := 18) (by decide) (by decide)) (Eq.trans (congrArg (sA (sNwA t 20 6) 20 0) (nn_io (p := 2) (by decide))) (Eq.trans rdAnwa (z_A_20_0_2 e))) ?_
  refine x_goto (pc' := 29) rfl rfl ?_
  refine x_reti rfl rfl ?_
  refine sK_i (pc' := 58) rfl ?_
  refine x_istore (pc' := 60) (ls' := [_, _, _, _, _, _, _, _, _]) rfl rfl rfl rfl ?_
  refine x_iload (pc' := 62) rfl rfl rfl ?_
  refine x_iload (pc' := 64) rfl rfl rfl ?_
  refine x_aload_n (pc' := 65) rfl rfl rfl rfl rfl ?_
  refine x_iload (pc' := 67) rfl rfl rfl ?_
  refine x_iald (pc' := 68) (N := 6) (x := 0) rfl rfl rfl (sN_new (z_C_20 e)) (io_in (p := 2) (N := 6) (by decide) (by decide)) (Eq.trans (congrArg (sA (sNwA t 20 6) 20 7) (nn_io (p := 2) (by decide))) (Eq.trans rdAnwa (z_A_20_7_2 e))) ?_
  refine x_iadd (pc' := 69) (z := 0) rfl rfl (by decide) ?_
  refine x_ineg (pc' := 70) (z := 0) rfl rfl (by decide) ?_
  refine x_iload (pc' := 72) rfl rfl rfl ?_
  refine x_imul (pc' := 73) (z := 0) rfl rfl (by decide) ?_
  refine x_iload (pc' := 75) rfl rfl rfl ?_
  refine x_aload_n (pc' := 76) rfl rfl rfl rfl rfl ?_
  refine x_iload (pc' := 78) rfl rfl rfl ?_
  refine x_iconst (pc' := 79) rfl rfl ?_
  refine x_iadd (pc' := 80) (z := 5) rfl rfl (by decide) ?_
  refine x_iald (pc' := 81) (N := 6) (x := 0) rfl rfl rfl (sN_new (z_C_20 e)) (io_in (p := 5) (N := 6) (by decide) (by decide)) (Eq.trans (congrArg (sA (sNwA t 20 6) 20 7) (nn_io (p := 5) (by decide))) (Eq.trans rdAnwa (z_A_20_7_5 e))) ?_
  refine x_isub (pc' := 82) (z := 0) rfl rfl (by decide) ?_
  refine x_ineg (pc' := 83) (z := 0) rfl rfl (by decide) ?_
  refine x_iload (pc' := 85) rfl rfl rfl ?_
  refine x_imul (pc' := 86) (z := 0) rfl rfl (by decide) ?_
  refine x_max (pc' := 89) (z := 0) rfl rfl rfl (by decide) ?_
  refine x_iadd (pc' := 90) (z := 0) rfl rfl (by decide) ?_
  refine x_istore (pc' := 92) (ls' := [_, _, _, _, _, _, _, _, _]) rfl rfl rfl rfl ?_
  refine x_iinc (pc' := 95) (y := 3) (ls' := [_, _, _, _, _, _, _, _, _]) rfl rfl rfl rfl rfl ?_
  refine x_goto (pc' := 18) rfl rfl ?_
  refine x_iload (pc' := 20) rfl rfl rfl ?_
  refine x_aload_n (pc' := 21) rfl rfl rfl rfl rfl ?_
  refine x_gR (pc' := 24) (r := (some 0)) rfl rfl rfl (Eq.trans rdRnwa (z_R_320_0 e)) ?_
  refine x_alen (pc' := 25) (N := 3) rfl rfl rfl (Eq.trans (b := sN t _ _) rfl (z_N_25_0 e)) (?_ : X _ _ _ (.inl 3 :: _) _ _)
  refine x_icmp (a' := 98) (pc' := 28) (z := true) rfl rfl rfl (by decide) (fun _ => ?_) (fun h => by cases h)
  refine x_iload_n (pc' := 99) rfl rfl rfl ?_
  refine x_iload (pc' := 101) rfl rfl rfl ?_
  refine x_max (pc' := 104) (z := 0) rfl rfl rfl (by decide) ?_
  refine x_istore_n (pc' := 105) (ls' := [_, _, _, _, _, _, _, _, _]) rfl rfl rfl rfl ?_
  refine x_iinc (pc' := 108) (y := 1) (ls' := [_, _, _, _, _, _, _, _, _]) rfl rfl rfl rfl rfl ?_
  refine x_goto (pc' := 5) rfl rfl ?_
  refine x_iload (pc' := 7) rfl rfl rfl ?_
  refine x_bipush (pc' := 9) rfl rfl ?_
  refine x_icmp (a' := 111) (pc' := 12) (z := false) rfl rfl rfl (by decide) (fun h => by cases h) (fun _ => ?_)
  refine x_iconst (pc' := 13) rfl rfl ?_
  refine x_istore (pc' := 15) (ls' := [_, _, _, _, _, _, _, _, _]) rfl rfl rfl rfl ?_
  refine x_iconst (pc' := 16) rfl rfl ?_
  refine x_istore (pc' := 18) (ls' := [_, _, _, _, _, _, _, _, _]) rfl rfl rfl rfl ?_
  refine x_iload (pc' := 20) rfl rfl rfl ?_
  refine x_aload_n (pc' := 21) rfl rfl rfl rfl rfl ?_
  refine x_gR (pc' := 24) (r := (some 0)) rfl rfl rfl (Eq.trans rdRnwa (z_R_320_0 e)) ?_
  refine x_alen (pc' := 25) (N := 3) rfl rfl rfl (Eq.trans (b := sN t _ _) rfl (z_N_25_0 e)) (?_ : X _ _ _ (.inl 3 :: _) _ _)
  refine x_icmp (a' := 98) (pc' := 28) (z := false) rfl rfl rfl (by decide) (fun h => by cases h) (fun _ => ?_)
  refine x_iload (pc' := 30) rfl rfl rfl ?_
  refine x_iconst (pc' := 31) rfl rfl ?_
  refine x_iadd (pc' := 32) (z := 3) rfl rfl (by decide) ?_
  refine x_aload_n (pc' := 33) rfl rfl rfl rfl rfl ?_
  refine x_alen (pc' := 34) (N := 6) rfl rfl rfl (sN_new (z_C_20 e)) (?_ : X _ _ _ (.inl 6 :: _) _ _)
  refine x_icmp (a' := 98) (pc' := 37) (z := false) rfl rfl rfl (by decide) (fun h => by cases h) (fun _ => ?_)
  refine x_aload_n (pc' := 38) rfl rfl rfl rfl rfl ?_
  refine x_aload_n (pc' := 39) rfl rfl rfl rfl rfl ?_
  refine x_gR (pc' := 42) (r := (some 0)) rfl rfl rfl (Eq.trans rdRnwa (z_R_320_0 e)) ?_
  refine x_iload (pc' := 44) rfl rfl rfl ?_
  refine x_aald (pc' := 45) (N := 3) (k' := 2) (r := (some 0)) rfl rfl rfl (Eq.trans (b := sN t _ _) rfl (z_N_25_0 e)) (io_in (p := 0) (N := 3) (by decide) (by decide)) (Eq.trans (congrArg (sE (sNwA t 20 6) 25 0) (nn_io (p := 0) (by decide))) (Eq.trans rdEnwa (z_E_25_0_0 e))) ?_
  refine x_cv (ls0 := [_, _, sJk]) (rest := []) rfl rfl rfl rfl rfl ?_
  refine x_aload_n (pc' := 1) rfl rfl rfl rfl rfl ?_
  refine x_gI (pc' := 4) (x := 0) rfl rfl rfl (Eq.trans rdInwa (z_I_128_0 e)) ?_
  refine x_istore_n (pc' := 5) (ls' := [_, _, _]) rfl rfl rfl rfl ?_
  refine x_iload_n (pc' := 6) rfl rfl rfl ?_
  refine x_if (a' := 27) (pc' := 9) (z := false) rfl rfl rfl (by decide) (fun h => by cases h) (fun _ => ?_)
  refine x_iload_n (pc' := 10) rfl rfl rfl ?_
  refine x_aload_n (pc' := 11) rfl rfl rfl rfl rfl ?_
  refine x_gR (pc' := 14) (r := (some (m + 1))) rfl rfl rfl (kMp (Cn_e e) hm).1 ?_
  refine x_alen (pc' := 15) (N := 3) rfl rfl rfl (kMp (Cn.nwa (Cn_e e)) hm).2.1 (?_ : X _ _ _ (.inl 3 :: _) _ _)
  refine x_icmp (a' := 27) (pc' := 18) (z := false) rfl rfl rfl (by decide) (fun h => by cases h) (fun _ => ?_)
  refine x_aload_n (pc' := 19) rfl rfl rfl rfl rfl ?_
  refine x_gR (pc' := 22) (r := (some (m + 1))) rfl rfl rfl (kMp (Cn_e e) hm).1 ?_
  refine x_iload_n (pc' := 23) rfl rfl rfl ?_
  refine x_iald (pc' := 24) (N := 3) (x := 0) rfl rfl rfl (kMp (Cn.nwa (Cn_e e)) hm).2.1 (io_in (p := 0) (N := 3) (by decide) (by decide)) (Eq.trans (congrArg (sA (sNwA t 20 6) 20 (m + 1)) (nn_io (p := 0) (by decide))) (Eq.trans rdAnwa (z_A_20_yy e _ _))) ?_
  refine x_goto (pc' := 28) rfl rfl ?_
  refine x_reti rfl rfl ?_
  refine sK_i (pc' := 48) rfl ?_
  refine x_istore (pc' := 50) (ls' := [_, _, _, _, _, _, _, _, _]) rfl rfl rfl rfl ?_
  refine x_aload_n (pc' := 51) rfl rfl rfl rfl rfl ?_
  refine x_iload (pc' := 53) rfl rfl rfl ?_
  refine x_iload (pc' := 55) rfl rfl rfl ?_
  refine x_cv (ls0 := [_, _, _, sJk]) (rest := []) rfl rfl rfl rfl rfl ?_
  refine x_iload_n (pc' := 1) rfl rfl rfl ?_
  refine x_iconst (pc' := 2) rfl rfl ?_
  refine x_imul (pc' := 3) (z := 3) rfl rfl (by decide) ?_
  refine x_iload_n (pc' := 4) rfl rfl rfl ?_
  refine x_iadd (pc' := 5) (z := 3) rfl rfl (by decide) ?_
  refine x_istore_n (pc' := 6) (ls' := [_, _, _, _]) rfl rfl rfl rfl ?_
  refine x_iload_n (pc' := 7) rfl rfl rfl ?_
  refine x_if (a' := 28) (pc' := 10) (z := false) rfl rfl rfl (by decide) (fun h => by cases h) (fun _ => ?_)
  refine x_iload_n (pc' := 11) rfl rfl rfl ?_
  refine x_aload_n (pc' := 12) rfl rfl rfl rfl rfl ?_
  refine x_gR (pc' := 15) (r := (some 0)) rfl rfl rfl (Eq.trans rdRnwa (z_R_323_0 e)) ?_
  refine x_alen (pc' := 16) (N := 18) rfl rfl rfl (kN_20_0 (Cn.nwa (Cn_e e))) (?_ : X _ _ _ (.inl 18 :: _) _ _)
  refine x_icmp (a' := 28) (pc' := 19) (z := false) rfl rfl rfl (by decide) (fun h => by cases h) (fun _ => ?_)
  refine x_aload_n (pc' := 20) rfl rfl rfl rfl rfl ?_
  refine x_gR (pc' := 23) (r := (some 0)) rfl rfl rfl (Eq.trans rdRnwa (z_R_323_0 e)) ?_
  refine x_iload_n (pc' := 24) rfl rfl rfl ?_
  refine x_iald (pc' := 25) (N := 18) (x := 0) rfl rfl rfl (kN_20_0 (Cn.nwa (Cn_e e))) (io_in (p := 3) (N := 18) (by decide) (by decide)) (Eq.trans (congrArg (sA (sNwA t 20 6) 20 0) (nn_io (p := 3) (by decide))) (Eq.trans rdAnwa (z_A_20_0_3 e))) ?_
  refine x_goto (pc' := 29) rfl rfl ?_
  refine x_reti rfl rfl ?_
  refine sK_i (pc' := 58) rfl ?_
  refine x_istore (pc' := 60) (ls' := [_, _, _, _, _, _, _, _, _]) rfl rfl rfl rfl ?_
  refine x_iload (pc' := 62) rfl rfl rfl ?_
  refine x_iload (pc' := 64) rfl rfl rfl ?_
  refine x_aload_n (pc' := 65) rfl rfl rfl rfl rfl ?_
  refine x_iload (pc' := 67) rfl rfl rfl ?_
  refine x_iald (pc' := 68) (N := 6) (x := 0) rfl rfl rfl (sN_new (z_C_20 e)) (io_in (p := 0) (N := 6) (by decide) (by decide)) (Eq.trans (congrArg (sA (sNwA t 20 6) 20 7) (nn_io (p := 0) (by decide))) (Eq.trans rdAnwa (z_A_20_7_0 e))) ?_
  refine x_iadd (pc' := 69) (z := 0) rfl rfl (by decide) ?_
  refine x_ineg (pc' := 70) (z := 0) rfl rfl (by decide) ?_
  refine x_iload (pc' := 72) rfl rfl rfl ?_
  refine x_imul (pc' := 73) (z := 0) rfl rfl (by decide) ?_
  refine x_iload (pc' := 75) rfl rfl rfl ?_
  refine x_aload_n (pc' := 76) rfl rfl rfl rfl rfl ?_
  refine x_iload (pc' := 78) rfl rfl rfl ?_
  refine x_iconst (pc' := 79) rfl rfl ?_
  refine x_iadd (pc' := 80) (z := 3) rfl rfl (by decide) ?_
  refine x_iald (pc' := 81) (N := 6) (x := 0) rfl rfl rfl (sN_new (z_C_20 e)) (io_in (p := 3) (N := 6) (by decide) (by decide)) (Eq.trans (congrArg (sA (sNwA t 20 6) 20 7) (nn_io (p := 3) (by decide))) (Eq.trans rdAnwa (z_A_20_7_3 e))) ?_
  refine x_isub (pc' := 82) (z := 0) rfl rfl (by decide) ?_
  refine x_ineg (pc' := 83) (z := 0) rfl rfl (by decide) ?_
  refine x_iload (pc' := 85) rfl rfl rfl ?_
  refine x_imul (pc' := 86) (z := 0) rfl rfl (by decide) ?_
  refine x_max (pc' := 89) (z := 0) rfl rfl rfl (by decide) ?_
  refine x_iadd (pc' := 90) (z := 0) rfl rfl (by decide) ?_
  refine x_istore (pc' := 92) (ls' := [_, _, _, _, _, _, _, _, _]) rfl rfl rfl rfl ?_
  refine x_iinc (pc' := 95) (y := 1) (ls' := [_, _, _, _, _, _, _, _, _]) rfl rfl rfl rfl rfl ?_
  refine x_goto (pc' := 18) rfl rfl ?_
  refine x_iload (pc' := 20) rfl rfl rfl ?_
  refine x_aload_n (pc' := 21) rfl rfl rfl rfl rfl ?_
  refine x_gR (pc' := 24) (r := (some 0)) rfl rfl rfl (Eq.trans rdRnwa (z_R_320_0 e)) ?_
  refine x_alen (pc' := 25) (N := 3) rfl rfl rfl (Eq.trans (b := sN t _ _) rfl (z_N_25_0 e)) (?_ : X _ _ _ (.inl 3 :: _) _ _)
  refine x_icmp (a' := 98) (pc' := 28) (z := false) rfl rfl rfl (by decide) (fun h => by cases h) (fun _ => ?_)
  refine x_iload (pc' := 30) rfl rfl rfl ?_
  refine x_iconst (pc' := 31) rfl rfl ?_
  refine x_iadd (pc' := 32) (z := 4) rfl rfl (by decide) ?_
  refine x_aload_n (pc' := 33) rfl rfl rfl rfl rfl ?_
  refine x_alen (pc' := 34) (N := 6) rfl rfl rfl (sN_new (z_C_20 e)) (?_ : X _ _ _ (.inl 6 :: _) _ _)
  refine x_icmp (a' := 98) (pc' := 37) (z := false) rfl rfl rfl (by decide) (fun h => by cases h) (fun _ => ?_)
  refine x_aload_n (pc' := 38) rfl rfl rfl rfl rfl ?_
  refine x_aload_n (pc' := 39) rfl rfl rfl rfl rfl ?_
  refine x_gR (pc' := 42) (r := (some 0)) rfl rfl rfl (Eq.trans rdRnwa (z_R_320_0 e)) ?_
  refine x_iload (pc' := 44) rfl rfl rfl ?_
  refine x_aald (pc' := 45) (N := 3) (k' := 2) (r := (some 1)) rfl rfl rfl (Eq.trans (b := sN t _ _) rfl (z_N_25_0 e)) (io_in (p := 1) (N := 3) (by decide) (by decide)) (Eq.trans (congrArg (sE (sNwA t 20 6) 25 0) (nn_io (p := 1) (by decide))) (Eq.trans rdEnwa (z_E_25_0_1 e))) ?_
  refine x_cv (ls0 := [_, _, sJk]) (rest := []) rfl rfl rfl rfl rfl ?_
  refine x_aload_n (pc' := 1) rfl rfl rfl rfl rfl ?_
  refine x_gI (pc' := 4) (x := 1) rfl rfl rfl (Eq.trans rdInwa (z_I_128_1 e)) ?_
  refine x_istore_n (pc' := 5) (ls' := [_, _, _]) rfl rfl rfl rfl ?_
  refine x_iload_n (pc' := 6) rfl rfl rfl ?_
  refine x_if (a' := 27) (pc' := 9) (z := false) rfl rfl rfl (by decide) (fun h => by cases h) (fun _ => ?_)
  refine x_iload_n (pc' := 10) rfl rfl rfl ?_
  refine x_aload_n (pc' := 11) rfl rfl rfl rfl rfl ?_
  refine x_gR (pc' := 14) (r := (some (m + 1))) rfl rfl rfl (kMp (Cn_e e) hm).1 ?_
  refine x_alen (pc' := 15) (N := 3) rfl rfl rfl (kMp (Cn.nwa (Cn_e e)) hm).2.1 (?_ : X _ _ _ (.inl 3 :: _) _ _)
  refine x_icmp (a' := 27) (pc' := 18) (z := false) rfl rfl rfl (by decide) (fun h => by cases h) (fun _ => ?_)
  refine x_aload_n (pc' := 19) rfl rfl rfl rfl rfl ?_
  refine x_gR (pc' := 22) (r := (some (m + 1))) rfl rfl rfl (kMp (Cn_e e) hm).1 ?_
  refine x_iload_n (pc' := 23) rfl rfl rfl ?_
  refine x_iald (pc' := 24) (N := 3) (x := 0) rfl rfl rfl (kMp (Cn.nwa (Cn_e e)) hm).2.1 (io_in (p := 1) (N := 3) (by decide) (by decide)) (Eq.trans (congrArg (sA (sNwA t 20 6) 20 (m + 1)) (nn_io (p := 1) (by decide))) (Eq.trans rdAnwa (z_A_20_yy e _ _))) ?_
  refine x_goto (pc' := 28) rfl rfl ?_
  refine x_reti rfl rfl ?_
  refine sK_i (pc' := 48) rfl ?_
  refine x_istore (pc' := 50) (ls' := [_, _, _, _, _, _, _, _, _]) rfl rfl rfl rfl ?_
  refine x_aload_n (pc' := 51) rfl rfl rfl rfl rfl ?_
  refine x_iload (pc' := 53) rfl rfl rfl ?_
  refine x_iload (pc' := 55) rfl rfl rfl ?_
  refine x_cv (ls0 := [_, _, _, sJk]) (rest := []) rfl rfl rfl rfl rfl ?_
  refine x_iload_n (pc' := 1) rfl rfl rfl ?_
  refine x_iconst (pc' := 2) rfl rfl ?_
  refine x_imul (pc' := 3) (z := 3) rfl rfl (by decide) ?_
  refine x_iload_n (pc' := 4) rfl rfl rfl ?_
  refine x_iadd (pc' := 5) (z := 4) rfl rfl (by decide) ?_
  refine x_istore_n (pc' := 6) (ls' := [_, _, _, _]) rfl rfl rfl rfl ?_
  refine x_iload_n (pc' := 7) rfl rfl rfl ?_
  refine x_if (a' := 28) (pc' := 10) (z := false) rfl rfl rfl (by decide) (fun h => by cases h) (fun _ => ?_)
  refine x_iload_n (pc' := 11) rfl rfl rfl ?_
  refine x_aload_n (pc' := 12) rfl rfl rfl rfl rfl ?_
  refine x_gR (pc' := 15) (r := (some 0)) rfl rfl rfl (Eq.trans rdRnwa (z_R_323_0 e)) ?_
  refine x_alen (pc' := 16) (N := 18) rfl rfl rfl (kN_20_0 (Cn.nwa (Cn_e e))) (?_ : X _ _ _ (.inl 18 :: _) _ _)
  refine x_icmp (a' := 28) (pc' := 19) (z := false) rfl rfl rfl (by decide) (fun h => by cases h) (fun _ => ?_)
  refine x_aload_n (pc' := 20) rfl rfl rfl rfl rfl ?_
  refine x_gR (pc' := 23) (r := (some 0)) rfl rfl rfl (Eq.trans rdRnwa (z_R_323_0 e)) ?_
  refine x_iload_n (pc' := 24) rfl rfl rfl ?_
  refine x_iald (pc' := 25) (N := 18) (x := 0) rfl rfl rfl (kN_20_0 (Cn.nwa (Cn_e e))) (io_in (p := 4) (N := 18) (by decide) (by decide)) (Eq.trans (congrArg (sA (sNwA t 20 6) 20 0) (nn_io (p := 4) (by decide))) (Eq.trans rdAnwa (z_A_20_0_4 e))) ?_
  refine x_goto (pc' := 29) rfl rfl ?_
  refine x_reti rfl rfl ?_
  refine sK_i (pc' := 58) rfl ?_
  refine x_istore (pc' := 60) (ls' := [_, _, _, _, _, _, _, _, _]) rfl rfl rfl rfl ?_
  refine x_iload (pc' := 62) rfl rfl rfl ?_
  refine x_iload (pc' := 64) rfl rfl rfl ?_
  refine x_aload_n (pc' := 65) rfl rfl rfl rfl rfl ?_
  refine x_iload (pc' := 67) rfl rfl rfl ?_
  refine x_iald (pc' := 68) (N := 6) (x := 0) rfl rfl rfl (sN_new (z_C_20 e)) (io_in (p := 1) (N := 6) (by decide) (by decide)) (Eq.trans (congrArg (sA (sNwA t 20 6) 20 7) (nn_io (p := 1) (by decide))) (Eq.trans rdAnwa (z_A_20_7_1 e))) ?_
  refine x_iadd (pc' := 69) (z := 0) rfl rfl (by decide) ?_
  refine x_ineg (pc' := 70) (z := 0) rfl rfl (by decide) ?_
  refine x_iload (pc' := 72) rfl rfl rfl ?_
  refine x_imul (pc' := 73) (z := 0) rfl rfl (by decide) ?_
  refine x_iload (pc' := 75) rfl rfl rfl ?_
  refine x_aload_n (pc' := 76) rfl rfl rfl rfl rfl ?_
  refine x_iload (pc' := 78) rfl rfl rfl ?_
  refine x_iconst (pc' := 79) rfl rfl ?_
  refine x_iadd (pc' := 80) (z := 4) rfl rfl (by decide) ?_
  refine x_iald (pc' := 81) (N := 6) (x := 0) rfl rfl rfl (sN_new (z_C_20 e)) (io_in (p := 4) (N := 6) (by decide) (by decide)) (Eq.trans (congrArg (sA (sNwA t 20 6) 20 7) (nn_io (p := 4) (by decide))) (Eq.trans rdAnwa (z_A_20_7_4 e))) ?_
  refine x_isub (pc' := 82) (z := 0) rfl rfl (by decide) ?_
  refine x_ineg (pc' := 83) (z := 0) rfl rfl (by decide) ?_
  refine x_iload (pc' := 85) rfl rfl rfl ?_
  refine x_imul (pc' := 86) (z := 0) rfl rfl (by decide) ?_
  refine x_max (pc' := 89) (z := 0) rfl rfl rfl (by decide) ?_
  refine x_iadd (pc' := 90) (z := 0) rfl rfl (by decide) ?_
  refine x_istore (pc' := 92) (ls' := [_, _, _, _, _, _, _, _, _]) rfl rfl rfl rfl ?_
  refine x_iinc (pc' := 95) (y := 2) (ls' := [_, _, _, _, _, _, _, _, _]) rfl rfl rfl rfl rfl ?_
  refine x_goto (pc' := 18) rfl rfl ?_
  refine x_iload (pc' := 20) rfl rfl rfl ?_
  refine x_aload_n (pc' := 21) rfl rfl rfl rfl rfl ?_
  refine x_gR (pc' := 24) (r := (some 0)) rfl rfl rfl (Eq.trans rdRnwa (z_R_320_0 e)) ?_
  refine x_alen (pc' := 25) (N := 3) rfl rfl rfl (Eq.trans (b := sN t _ _) rfl (z_N_25_0 e)) (?_ : X _ _ _ (.inl 3 :: _) _ _)
  refine x_icmp (a' := 98) (pc' := 28) (z := false) rfl rfl rfl (by decide) (fun h => by cases h) (fun _ => ?_)
  refine x_iload (pc' := 30) rfl rfl rfl ?_
  refine x_iconst (pc' := 31) rfl rfl ?_
  refine x_iadd (pc' := 32) (z := 5) rfl rfl (by decide) ?_
  refine x_aload_n (pc' := 33) rfl rfl rfl rfl rfl ?_
  refine x_alen (pc' := 34) (N := 6) rfl rfl rfl (sN_new (z_C_20 e)) (?_ : X _ _ _ (.inl 6 :: _) _ _)
  refine x_icmp (a' := 98) (pc' := 37) (z := false) rfl rfl rfl (by decide) (fun h => by cases h) (fun _ => ?_)
  refine x_aload_n (pc' := 38) rfl rfl rfl rfl rfl ?_
  refine x_aload_n (pc' := 39) rfl rfl rfl rfl rfl ?_
  refine x_gR (pc' := 42) (r := (some 0)) rfl rfl rfl (Eq.trans rdRnwa (z_R_320_0 e)) ?_
  refine x_iload (pc' := 44) rfl rfl rfl ?_
  refine x_aald (pc' := 45) (N := 3) (k' := 2) (r := (some 2)) rfl rfl rfl (Eq.trans (b := sN t _ _) rfl (z_N_25_0 e)) (io_in (p := 2) (N := 3) (by decide) (by decide)) (Eq.trans (congrArg (sE (sNwA t 20 6) 25 0) (nn_io (p := 2) (by decide))) (Eq.trans rdEnwa (z_E_25_0_2 e))) ?_
  refine x_cv (ls0 := [_, _, sJk]) (rest := []) rfl rfl rfl rfl rfl ?_
  refine x_aload_n (pc' := 1) rfl rfl rfl rfl rfl ?_
  refine x_gI (pc' := 4) (x := 2) rfl rfl rfl (Eq.trans rdInwa (z_I_128_2 e)) ?_
  refine x_istore_n (pc' := 5) (ls' := [_, _, _]) rfl rfl rfl rfl ?_
  refine x_iload_n (pc' := 6) rfl rfl rfl ?_
  refine x_if (a' := 27) (pc' := 9) (z := false) rfl rfl rfl (by decide) (fun h => by cases h) (fun _ => ?_)
  refine x_iload_n (pc' := 10) rfl rfl rfl ?_
  refine x_aload_n (pc' := 11) rfl rfl rfl rfl rfl ?_
  refine x_gR (pc' := 14) (r := (some (m + 1))) rfl rfl rfl (kMp (Cn_e e) hm).1 ?_
  refine x_alen (pc' := 15) (N := 3) rfl rfl rfl (kMp (Cn.nwa (Cn_e e)) hm).2.1 (?_ : X _ _ _ (.inl 3 :: _) _ _)
  refine x_icmp (a' := 27) (pc' := 18) (z := false) rfl rfl rfl (by decide) (fun h => by cases h) (fun _ => ?_)
  refine x_aload_n (pc' := 19) rfl rfl rfl rfl rfl ?_
  refine x_gR (pc' := 22) (r := (some (m + 1))) rfl rfl rfl (kMp (Cn_e e) hm).1 ?_
  refine x_iload_n (pc' := 23) rfl rfl rfl ?_
  refine x_iald (pc' := 24) (N := 3) (x := 0) rfl rfl rfl (kMp (Cn.nwa (Cn_e e)) hm).2.1 (io_in (p := 2) (N := 3) (by decide) (by decide)) (Eq.trans (congrArg (sA (sNwA t 20 6) 20 (m + 1)) (nn_io (p := 2) (by decide))) (Eq.trans rdAnwa (z_A_20_yy e _ _))) ?_
  refine x_goto (pc' := 28) rfl rfl ?_
  refine x_reti rfl rfl ?_
  refine sK_i (pc' := 48) rfl ?_
  refine x_istore (pc' := 50) (ls' := [_, _, _, _, _, _, _, _, _]) rfl rfl rfl rfl ?_
  refine x_aload_n (pc' := 51) rfl rfl rfl rfl rfl ?_
  refine x_iload (pc' := 53) rfl rfl rfl ?_
  refine x_iload (pc' := 55) rfl rfl rfl ?_
  refine x_cv (ls0 := [_, _, _, sJk]) (rest := []) rfl rfl rfl rfl rfl ?_
  refine x_iload_n (pc' := 1) rfl rfl rfl ?_
  refine x_iconst (pc' := 2) rfl rfl ?_
  refine x_imul (pc' := 3) (z := 3) rfl rfl (by decide) ?_
  refine x_iload_n (pc' := 4) rfl rfl rfl ?_
  refine x_iadd (pc' := 5) (z := 5) rfl rfl (by decide) ?_
  refine x_istore_n (pc' := 6) (ls' := [_, _, _, _]) rfl rfl rfl rfl ?_
  refine x_iload_n (pc' := 7) rfl rfl rfl ?_
  refine x_if (a' := 28) (pc' := 10) (z := false) rfl rfl rfl (by decide) (fun h => by cases h) (fun _ => ?_)
  refine x_iload_n (pc' := 11) rfl rfl rfl ?_
  refine x_aload_n (pc' := 12) rfl rfl rfl rfl rfl ?_
  refine x_gR (pc' := 15) (r := (some 0)) rfl rfl rfl (Eq.trans rdRnwa (z_R_323_0 e)) ?_
  refine x_alen (pc' := 16) (N := 18) rfl rfl rfl (kN_20_0 (Cn.nwa (Cn_e e))) (?_ : X _ _ _ (.inl 18 :: _) _ _)
  refine x_icmp (a' := 28) (pc' := 19) (z := false) rfl rfl rfl (by decide) (fun h => by cases h) (fun _ => ?_)
  refine x_aload_n (pc' := 20) rfl rfl rfl rfl rfl ?_
  refine x_gR (pc' := 23) (r := (some 0)) rfl rfl rfl (Eq.trans rdRnwa (z_R_323_0 e)) ?_
  refine x_iload_n (pc' := 24) rfl rfl rfl ?_
  refine x_iald (pc' := 25) (N := 18) (x := 0) rfl rfl rfl (kN_20_0 (Cn.nwa (Cn_e e))) (io_in (p := 5) (N := 18) (by decide) (by decide)) (Eq.trans (congrArg (sA (sNwA t 20 6) 20 0) (nn_io (p := 5) (by decide))) (Eq.trans rdAnwa (z_A_20_0_5 e))) ?_
  refine x_goto (pc' := 29) rfl rfl ?_
  refine x_reti rfl rfl ?_
  refine sK_i (pc' := 58) rfl ?_
  refine x_istore (pc' := 60) (ls' := [_, _, _, _, _, _, _, _, _]) rfl rfl rfl rfl ?_
  refine x_iload (pc' := 62) rfl rfl rfl ?_
  refine x_iload (pc' := 64) rfl rfl rfl ?_
  refine x_aload_n (pc' := 65) rfl rfl rfl rfl rfl ?_
  refine x_iload (pc' := 67) rfl rfl rfl ?_
  refine x_iald (pc' := 68) (N := 6) (x := 0) rfl rfl rfl (sN_new (z_C_20 e)) (io_in (p := 2) (N := 6) (by decide) (by decide)) (Eq.trans (congrArg (sA (sNwA t 20 6) 20 7) (nn_io (p := 2) (by decide))) (Eq.trans rdAnwa (z_A_20_7_2 e))) ?_
  refine x_iadd (pc' := 69) (z := 0) rfl rfl (by decide) ?_
  refine x_ineg (pc' := 70) (z := 0) rfl rfl (by decide) ?_
  refine x_iload (pc' := 72) rfl rfl rfl ?_
  refine x_imul (pc' := 73) (z := 0) rfl rfl (by decide) ?_
  refine x_iload (pc' := 75) rfl rfl rfl ?_
  refine x_aload_n (pc' := 76) rfl rfl rfl rfl rfl ?_
  refine x_iload (pc' := 78) rfl rfl rfl ?_
  refine x_iconst (pc' := 79) rfl rfl ?_
  refine x_iadd (pc' := 80) (z := 5) rfl rfl (by decide) ?_
  refine x_iald (pc' := 81) (N := 6) (x := 0) rfl rfl rfl (sN_new (z_C_20 e)) (io_in (p := 5) (N := 6) (by decide) (by decide)) (Eq.trans (congrArg (sA (sNwA t 20 6) 20 7) (nn_io (p := 5) (by decide))) (Eq.trans rdAnwa (z_A_20_7_5 e))) ?_
  refine x_isub (pc' := 82) (z := 0) rfl rfl (by decide) ?_
  refine x_ineg (pc' := 83) (z := 0) rfl rfl (by decide) ?_
  refine x_iload (pc' := 85) rfl rfl rfl ?_
  refine x_imul (pc' := 86) (z := 0) rfl rfl (by decide) ?_
  refine x_max (pc' := 89) (z := 0) rfl rfl rfl (by decide) ?_
  refine x_iadd (pc' := 90) (z := 0) rfl rfl (by decide) ?_
  refine x_istore (pc' := 92) (ls' := [_, _, _, _, _, _, _, _, _]) rfl rfl rfl rfl ?_
  refine x_iinc (pc' := 95) (y := 3) (ls' := [_, _, _, _, _, _, _, _, _]) rfl rfl rfl rfl rfl ?_
  refine x_goto (pc' := 18) rfl rfl ?_
  refine x_iload (pc' := 20) rfl rfl rfl ?_
  refine x_aload_n (pc' := 21) rfl rfl rfl rfl rfl ?_
  refine x_gR (pc' := 24) (r := (some 0)) rfl rfl rfl (Eq.trans rdRnwa (z_R_320_0 e)) ?_
  refine x_alen (pc' := 25) (N := 3) rfl rfl rfl (Eq.trans (b := sN t _ _) rfl (z_N_25_0 e)) (?_ : X _ _ _ (.inl 3 :: _) _ _)
  refine x_icmp (a' := 98) (pc' := 28) (z := true) rfl rfl rfl (by decide) (fun _ => ?_) (fun h => by cases h)
  refine x_iload_n (pc' := 99) rfl rfl rfl ?_
  refine x_iload (pc' := 101) rfl rfl rfl ?_
  refine x_max (pc' := 104) (z := 0) rfl rfl rfl (by decide) ?_
  refine x_istore_n (pc' := 105) (ls' := [_, _, _, _, _, _, _, _, _]) rfl rfl rfl rfl ?_
  refine x_iinc (pc' := 108) (y := 2) (ls' := [_, _, _, _, _, _, _, _, _]) rfl rfl rfl rfl rfl ?_
  refine x_goto (pc' := 5) rfl rfl ?_
  refine x_iload (pc' := 7) rfl rfl rfl ?_
  refine x_bipush (pc' := 9) rfl rfl ?_
  refine x_icmp (a' := 111) (pc' := 12) (z := false) rfl rfl rfl (by decide) (fun h => by cases h) (fun _ => ?_)
  refine x_iconst (pc' := 13) rfl rfl ?_
  refine x_istore (pc' := 15) (ls' := [_, _, _, _, _, _, _, _, _]) rfl rfl rfl rfl ?_
  refine x_iconst (pc' := 16) rfl rfl ?_
  refine x_istore (pc' := 18) (ls' := [_, _, _, _, _, _, _, _, _]) rfl rfl rfl rfl ?_
  refine x_iload (pc' := 20) rfl rfl rfl ?_
  refine x_aload_n (pc' := 21) rfl rfl rfl rfl rfl ?_
  refine x_gR (pc' := 24) (r := (some 0)) rfl rfl rfl (Eq.trans rdRnwa (z_R_320_0 e)) ?_
  refine x_alen (pc' := 25) (N := 3) rfl rfl rfl (Eq.trans (b := sN t _ _) rfl (z_N_25_0 e)) (?_ : X _ _ _ (.inl 3 :: _) _ _)
  refine x_icmp (a' := 98) (pc' := 28) (z := false) rfl rfl rfl (by decide) (fun h => by cases h) (fun _ => ?_)
  refine x_iload (pc' := 30) rfl rfl rfl ?_
  refine x_iconst (pc' := 31) rfl rfl ?_
  refine x_iadd (pc' := 32) (z := 3) rfl rfl (by decide) ?_
  refine x_aload_n (pc' := 33) rfl rfl rfl rfl rfl ?_
  refine x_alen (pc' := 34) (N := 6) rfl rfl rfl (sN_new (z_C_20 e)) (?_ : X _ _ _ (.inl 6 :: _) _ _)
  refine x_icmp (a' := 98) (pc' := 37) (z := false) rfl rfl rfl (by decide) (fun h => by cases h) (fun _ => ?_)
  refine x_aload_n (pc' := 38) rfl rfl rfl rfl rfl ?_
  refine x_aload_n (pc' := 39) rfl rfl rfl rfl rfl ?_
  refine x_gR (pc' := 42) (r := (some 0)) rfl rfl rfl (Eq.trans rdRnwa (z_R_320_0 e)) ?_
  refine x_iload (pc' := 44) rfl rfl rfl ?_
  refine x_aald (pc' := 45) (N := 3) (k' := 2) (r := (some 0)) rfl rfl rfl (Eq.trans (b := sN t _ _) rfl (z_N_25_0 e)) (io_in (p := 0) (N := 3) (by decide) (by decide)) (Eq.trans (congrArg (sE (sNwA t 20 6) 25 0) (nn_io (p := 0) (by decide))) (Eq.trans rdEnwa (z_E_25_0_0 e))) ?_
  refine x_cv (ls0 := [_, _, sJk]) (rest := []) rfl rfl rfl rfl rfl ?_
  refine x_aload_n (pc' := 1) rfl rfl rfl rfl rfl ?_
  refine x_gI (pc' := 4) (x := 0) rfl rfl rfl (Eq.trans rdInwa (z_I_128_0 e)) ?_
  refine x_istore_n (pc' := 5) (ls' := [_, _, _]) rfl rfl rfl rfl ?_
  refine x_iload_n (pc' := 6) rfl rfl rfl ?_
  refine x_if (a' := 27) (pc' := 9) (z := false) rfl rfl rfl (by decide) (fun h => by cases h) (fun _ => ?_)
  refine x_iload_n (pc' := 10) rfl rfl rfl ?_
  refine x_aload_n (pc' := 11) rfl rfl rfl rfl rfl ?_
  refine x_gR (pc' := 14) (r := (some (m + 1))) rfl rfl rfl (kMp (Cn_e e) hm).1 ?_
  refine x_alen (pc' := 15) (N := 3) rfl rfl rfl (kMp (Cn.nwa (Cn_e e)) hm).2.1 (?_ : X _ _ _ (.inl 3 :: _) _ _)
  refine x_icmp (a' := 27) (pc' := 18) (z := false) rfl rfl rfl (by decide) (fun h => by cases h) (fun _ => ?_)
  refine x_aload_n (pc' := 19) rfl rfl rfl rfl rfl ?_
  refine x_gR (pc' := 22) (r := (some (m + 1))) rfl rfl rfl (kMp (Cn_e e) hm).1 ?_
  refine x_iload_n (pc' := 23) rfl rfl rfl ?_
  refine x_iald (pc' := 24) (N := 3) (x := 0) rfl rfl rfl (kMp (Cn.nwa (Cn_e e)) hm).2.1 (io_in (p := 0) (N := 3) (by decide) (by decide)) (Eq.trans (congrArg (sA (sNwA t 20 6) 20 (m + 1)) (nn_io (p := 0) (by decide))) (Eq.trans rdAnwa (z_A_20_yy e _ _))) ?_
  refine x_goto (pc' := 28) rfl rfl ?_
  refine x_reti rfl rfl ?_
  refine sK_i (pc' := 48) rfl ?_
  refine x_istore (pc' := 50) (ls' := [_, _, _, _, _, _, _, _, _]) rfl rfl rfl rfl ?_
  refine x_aload_n (pc' := 51) rfl rfl rfl rfl rfl ?_
  refine x_iload (pc' := 53) rfl rfl rfl ?_
  refine x_iload (pc' := 55) rfl rfl rfl ?_
  refine x_cv (ls0 := [_, _, _, sJk]) (rest := []) rfl rfl rfl rfl rfl ?_
  refine x_iload_n (pc' := 1) rfl rfl rfl ?_
  refine x_iconst (pc' := 2) rfl rfl ?_
  refine x_imul (pc' := 3) (z := 6) rfl rfl (by decide) ?_
  refine x_iload_n (pc' := 4) rfl rfl rfl ?_
  refine x_iadd (pc' := 5) (z := 6) rfl rfl (by decide) ?_
  refine x_istore_n (pc' := 6) (ls' := [_, _, _, _]) rfl rfl rfl rfl ?_
  refine x_iload_n (pc' := 7) rfl rfl rfl ?_
  refine x_if (a' := 28) (pc' := 10) (z := false) rfl rfl rfl (by decide) (fun h => by cases h) (fun _ => ?_)
  refine x_iload_n (pc' := 11) rfl rfl rfl ?_
  refine x_aload_n (pc' := 12) rfl rfl rfl rfl rfl ?_
  refine x_gR (pc' := 15) (r := (some 0)) rfl rfl rfl (Eq.trans rdRnwa (z_R_323_0 e)) ?_
  refine x_alen (pc' := 16) (N := 18) rfl rfl rfl (kN_20_0 (Cn.nwa (Cn_e e))) (?_ : X _ _ _ (.inl 18 :: _) _ _)
  refine x_icmp (a' := 28) (pc' := 19) (z := false) rfl rfl rfl (by decide) (fun h => by cases h) (fun _ => ?_)
  refine x_aload_n (pc' := 20) rfl rfl rfl rfl rfl ?_
  refine x_gR (pc' := 23) (r := (some 0)) rfl rfl rfl (Eq.trans rdRnwa (z_R_323_0 e)) ?_
  refine x_iload_n (pc' := 24) rfl rfl rfl ?_
  refine x_iald (pc' := 25) (N := 18) (x := 0) rfl rfl rfl (kN_20_0 (Cn.nwa (Cn_e e))) (io_in (p := 6) (N := 18) (by decide) (by decide)) (Eq.trans (congrArg (sA (sNwA t 20 6) 20 0) (nn_io (p := 6) (by decide))) (Eq.trans rdAnwa (z_A_20_0_6 e))) ?_
  refine x_goto (pc' := 29) rfl rfl ?_
  refine x_reti rfl rfl ?_
  refine sK_i (pc' := 58) rfl ?_
  refine x_istore (pc' := 60) (ls' := [_, _, _, _, _, _, _, _, _]) rfl rfl rfl rfl ?_
  refine x_iload (pc' := 62) rfl rfl rfl ?_
  refine x_iload (pc' := 64) rfl rfl rfl ?_
  refine x_aload_n (pc' := 65) rfl rfl rfl rfl rfl ?_
  refine x_iload (pc' := 67) rfl rfl rfl ?_
  refine x_iald (pc' := 68) (N := 6) (x := 0) rfl rfl rfl (sN_new (z_C_20 e)) (io_in (p := 0) (N := 6) (by decide) (by decide)) (Eq.trans (congrArg (sA (sNwA t 20 6) 20 7) (nn_io (p := 0) (by decide))) (Eq.trans rdAnwa (z_A_20_7_0 e))) ?_
  refine x_iadd (pc' := 69) (z := 0) rfl rfl (by decide) ?_
  refine x_ineg (pc' := 70) (z := 0) rfl rfl (by decide) ?_
  refine x_iload (pc' := 72) rfl rfl rfl ?_
  refine x_imul (pc' := 73) (z := 0) rfl rfl (by decide) ?_
  refine x_iload (pc' := 75) rfl rfl rfl ?_
  refine x_aload_n (pc' := 76) rfl rfl rfl rfl rfl ?_
  refine x_iload (pc' := 78) rfl rfl rfl ?_
  refine x_iconst (pc' := 79) rfl rfl ?_
  refine x_iadd (pc' := 80) (z := 3) rfl rfl (by decide) ?_
  refine x_iald (pc' := 81) (N := 6) (x := 0) rfl rfl rfl (sN_new (z_C_20 e)) (io_in (p := 3) (N := 6) (by decide) (by decide)) (Eq.trans (congrArg (sA (sNwA t 20 6) 20 7) (nn_io (p := 3) (by decide))) (Eq.trans rdAnwa (z_A_20_7_3 e))) ?_
  refine x_isub (pc' := 82) (z := 0) rfl rfl (by decide) ?_
  refine x_ineg (pc' := 83) (z := 0) rfl rfl (by decide) ?_
  refine x_iload (pc' := 85) rfl rfl rfl ?_
  refine x_imul (pc' := 86) (z := 0) rfl rfl (by decide) ?_
  refine x_max (pc' := 89) (z := 0) rfl rfl rfl (by decide) ?_
  refine x_iadd (pc' := 90) (z := 0) rfl rfl (by decide) ?_
  refine x_istore (pc' := 92) (ls' := [_, _, _, _, _, _, _, _, _]) rfl rfl rfl rfl ?_
  refine x_iinc (pc' := 95) (y := 1) (ls' := [_, _, _, _, _, _, _, _, _]) rfl rfl rfl rfl rfl ?_
  refine x_goto (pc' := 18) rfl rfl ?_
  refine x_iload (pc' := 20) rfl rfl rfl ?_
  refine x_aload_n (pc' := 21) rfl rfl rfl rfl rfl ?_
  refine x_gR (pc' := 24) (r := (some 0)) rfl rfl rfl (Eq.trans rdRnwa (z_R_320_0 e)) ?_
  refine x_alen (pc' := 25) (N := 3) rfl rfl rfl (Eq.trans (b := sN t _ _) rfl (z_N_25_0 e)) (?_ : X _ _ _ (.inl 3 :: _) _ _)
  refine x_icmp (a' := 98) (pc' := 28) (z := false) rfl rfl rfl (by decide) (fun h => by cases h) (fun _ => ?_)
  refine x_iload (pc' := 30) rfl rfl rfl ?_
  refine x_iconst (pc' := 31) rfl rfl ?_
  refine x_iadd (pc' := 32) (z := 4) rfl rfl (by decide) ?_
  refine x_aload_n (pc' := 33) rfl rfl rfl rfl rfl ?_
  refine x_alen (pc' := 34) (N := 6) rfl rfl rfl (sN_new (z_C_20 e)) (?_ : X _ _ _ (.inl 6 :: _) _ _)
  refine x_icmp (a' := 98) (pc' := 37) (z := false) rfl rfl rfl (by decide) (fun h => by cases h) (fun _ => ?_)
  refine x_aload_n (pc' := 38) rfl rfl rfl rfl rfl ?_
  refine x_aload_n (pc' := 39) rfl rfl rfl rfl rfl ?_
  refine x_gR (pc' := 42) (r := (some 0)) rfl rfl rfl (Eq.trans rdRnwa (z_R_320_0 e)) ?_
  refine x_iload (pc' := 44) rfl rfl rfl ?_
  refine x_aald (pc' := 45) (N := 3) (k' := 2) (r := (some 1)) rfl rfl rfl (Eq.trans (b := sN t _ _) rfl (z_N_25_0 e)) (io_in (p := 1) (N := 3) (by decide) (by decide)) (Eq.trans (congrArg (sE (sNwA t 20 6) 25 0) (nn_io (p := 1) (by decide))) (Eq.trans rdEnwa (z_E_25_0_1 e))) ?_
  refine x_cv (ls0 := [_, _, sJk]) (rest := []) rfl rfl rfl rfl rfl ?_
  refine x_aload_n (pc' := 1) rfl rfl rfl rfl rfl ?_
  refine x_gI (pc' := 4) (x := 1) rfl rfl rfl (Eq.trans rdInwa (z_I_128_1 e)) ?_
  refine x_istore_n (pc' := 5) (ls' := [_, _, _]) rfl rfl rfl rfl ?_
  refine x_iload_n (pc' := 6) rfl rfl rfl ?_
  refine x_if (a' := 27) (pc' := 9) (z := false) rfl rfl rfl (by decide) (fun h => by cases h) (fun _ => ?_)
  refine x_iload_n (pc' := 10) rfl rfl rfl ?_
  refine x_aload_n (pc' := 11) rfl rfl rfl rfl rfl ?_
  refine x_gR (pc' := 14) (r := (some (m + 1))) rfl rfl rfl (kMp (Cn_e e) hm).1 ?_
  refine x_alen (pc' := 15) (N := 3) rfl rfl rfl (kMp (Cn.nwa (Cn_e e)) hm).2.1 (?_ : X _ _ _ (.inl 3 :: _) _ _)
  refine x_icmp (a' := 27) (pc' := 18) (z := false) rfl rfl rfl (by decide) (fun h => by cases h) (fun _ => ?_)
  refine x_aload_n (pc' := 19) rfl rfl rfl rfl rfl ?_
  refine x_gR (pc' := 22) (r := (some (m + 1))) rfl rfl rfl (kMp (Cn_e e) hm).1 ?_
  refine x_iload_n (pc' := 23) rfl rfl rfl ?_
  refine x_iald (pc' := 24) (N := 3) (x := 0) rfl rfl rfl (kMp (Cn.nwa (Cn_e e)) hm).2.1 (io_in (p := 1) (N := 3) (by decide) (by decide)) (Eq.trans (congrArg (sA (sNwA t 20 6) 20 (m + 1)) (nn_io (p := 1) (by decide))) (Eq.trans rdAnwa (z_A_20_yy e _ _))) ?_
  refine x_goto (pc' := 28) rfl rfl ?_
  refine x_reti rfl rfl ?_
  refine sK_i (pc' := 48) rfl ?_
  refine x_istore (pc' := 50) (ls' := [_, _, _, _, _, _, _, _, _]) rfl rfl rfl rfl ?_
  refine x_aload_n (pc' := 51) rfl rfl rfl rfl rfl ?_
  refine x_iload (pc' := 53) rfl rfl rfl ?_
  refine x_iload (pc' := 55) rfl rfl rfl ?_
  refine x_cv (ls0 := [_, _, _, sJk]) (rest := []) rfl rfl rfl rfl rfl ?_
  refine x_iload_n (pc' := 1) rfl rfl rfl ?_
  refine x_iconst (pc' := 2) rfl rfl ?_
  refine x_imul (pc' := 3) (z := 6) rfl rfl (by decide) ?_
  refine x_iload_n (pc' := 4) rfl rfl rfl ?_
  refine x_iadd (pc' := 5) (z := 7) rfl rfl (by decide) ?_
  refine x_istore_n (pc' := 6) (ls' := [_, _, _, _]) rfl rfl rfl rfl ?_
  refine x_iload_n (pc' := 7) rfl rfl rfl ?_
  refine x_if (a' := 28) (pc' := 10) (z := false) rfl rfl rfl (by decide) (fun h => by cases h) (fun _ => ?_)
  refine x_iload_n (pc' := 11) rfl rfl rfl ?_
  refine x_aload_n (pc' := 12) rfl rfl rfl rfl rfl ?_
  refine x_gR (pc' := 15) (r := (some 0)) rfl rfl rfl (Eq.trans rdRnwa (z_R_323_0 e)) ?_
  refine x_alen (pc' := 16) (N := 18) rfl rfl rfl (kN_20_0 (Cn.nwa (Cn_e e))) (?_ : X _ _ _ (.inl 18 :: _) _ _)
  refine x_icmp (a' := 28) (pc' := 19) (z := false) rfl rfl rfl (by decide) (fun h => by cases h) (fun _ => ?_)
  refine x_aload_n (pc' := 20) rfl rfl rfl rfl rfl ?_
  refine x_gR (pc' := 23) (r := (some 0)) rfl rfl rfl (Eq.trans rdRnwa (z_R_323_0 e)) ?_
  refine x_iload_n (pc' := 24) rfl rfl rfl ?_
  refine x_iald (pc' := 25) (N := 18) (x := 0) rfl rfl rfl (kN_20_0 (Cn.nwa (Cn_e e))) (io_in (p := 7) (N := 18) (by decide) (by decide)) (Eq.trans (congrArg (sA (sNwA t 20 6) 20 0) (nn_io (p := 7) (by decide))) (Eq.trans rdAnwa (z_A_20_0_7 e))) ?_
  refine x_goto (pc' := 29) rfl rfl ?_
  refine x_reti rfl rfl ?_
  refine sK_i (pc' := 58) rfl ?_
  refine x_istore (pc' := 60) (ls' := [_, _, _, _, _, _, _, _, _]) rfl rfl rfl rfl ?_
  refine x_iload (pc' := 62) rfl rfl rfl ?_
  refine x_iload (pc' := 64) rfl rfl rfl ?_
  refine x_aload_n (pc' := 65) rfl rfl rfl rfl rfl ?_
  refine x_iload (pc' := 67) rfl rfl rfl ?_
  refine x_iald (pc' := 68) (N := 6) (x := 0) rfl rfl rfl (sN_new (z_C_20 e)) (io_in (p := 1) (N := 6) (by decide) (by decide)) (Eq.trans (congrArg (sA (sNwA t 20 6) 20 7) (nn_io (p := 1) (by decide))) (Eq.trans rdAnwa (z_A_20_7_1 e))) ?_
  refine x_iadd (pc' := 69) (z := 0) rfl rfl (by decide) ?_
  refine x_ineg (pc' := 70) (z := 0) rfl rfl (by decide) ?_
  refine x_iload (pc' := 72) rfl rfl rfl ?_
  refine x_imul (pc' := 73) (z := 0) rfl rfl (by decide) ?_
  refine x_iload (pc' := 75) rfl rfl rfl ?_
  refine x_aload_n (pc' := 76) rfl rfl rfl rfl rfl ?_
  refine x_iload (pc' := 78) rfl rfl rfl ?_
  refine x_iconst (pc' := 79) rfl rfl ?_
  refine x_iadd (pc' := 80) (z := 4) rfl rfl (by decide) ?_
  refine x_iald (pc' := 81) (N := 6) (x := 0) rfl rfl rfl (sN_new (z_C_20 e)) (io_in (p := 4) (N := 6) (by decide) (by decide)) (Eq.trans (congrArg (sA (sNwA t 20 6) 20 7) (nn_io (p := 4) (by decide))) (Eq.trans rdAnwa (z_A_20_7_4 e))) ?_
  refine x_isub (pc' := 82) (z := 0) rfl rfl (by decide) ?_
  refine x_ineg (pc' := 83) (z := 0) rfl rfl (by decide) ?_
  refine x_iload (pc' := 85) rfl rfl rfl ?_
  refine x_imul (pc' := 86) (z := 0) rfl rfl (by decide) ?_
  refine x_max (pc' := 89) (z := 0) rfl rfl rfl (by decide) ?_
  refine x_iadd (pc' := 90) (z := 0) rfl rfl (by decide) ?_
  refine x_istore (pc' := 92) (ls' := [_, _, _, _, _, _, _, _, _]) rfl rfl rfl rfl ?_
  refine x_iinc (pc' := 95) (y := 2) (ls' := [_, _, _, _, _, _, _, _, _]) rfl rfl rfl rfl rfl ?_
  refine x_goto (pc' := 18) rfl rfl ?_
  refine x_iload (pc' := 20) rfl rfl rfl ?_
  refine x_aload_n (pc' := 21) rfl rfl rfl rfl rfl ?_
  refine x_gR (pc' := 24) (r := (some 0)) rfl rfl rfl (Eq.trans rdRnwa (z_R_320_0 e)) ?_
  refine x_alen (pc' := 25) (N := 3) rfl rfl rfl (Eq.trans (b := sN t _ _) rfl (z_N_25_0 e)) (?_ : X _ _ _ (.inl 3 :: _) _ _)
  refine x_icmp (a' := 98) (pc' := 28) (z := false) rfl rfl rfl (by decide) (fun h => by cases h) (fun _ => ?_)
  refine x_iload (pc' := 30) rfl rfl rfl ?_
  refine x_iconst (pc' := 31) rfl rfl ?_
  refine x_iadd (pc' := 32) (z := 5) rfl rfl (by decide) ?_
  refine x_aload_n (pc' := 33) rfl rfl rfl rfl rfl ?_
  refine x_alen (pc' := 34) (N := 6) rfl rfl rfl (sN_new (z_C_20 e)) (?_ : X _ _ _ (.inl 6 :: _) _ _)
  refine x_icmp (a' := 98) (pc' := 37) (z := false) rfl rfl rfl (by decide) (fun h => by cases h) (fun _ => ?_)
  refine x_aload_n (pc' := 38) rfl rfl rfl rfl rfl ?_
  refine x_aload_n (pc' := 39) rfl rfl rfl rfl rfl ?_
  refine x_gR (pc' := 42) (r := (some 0)) rfl rfl rfl (Eq.trans rdRnwa (z_R_320_0 e)) ?_
  refine x_iload (pc' := 44) rfl rfl rfl ?_
  refine x_aald (pc' := 45) (N := 3) (k' := 2) (r := (some 2)) rfl rfl rfl (Eq.trans (b := sN t _ _) rfl (z_N_25_0 e)) (io_in (p := 2) (N := 3) (by decide) (by decide)) (Eq.trans (congrArg (sE (sNwA t 20 6) 25 0) (nn_io (p := 2) (by decide))) (Eq.trans rdEnwa (z_E_25_0_2 e))) ?_
  refine x_cv (ls0 := [_, _, sJk]) (rest := []) rfl rfl rfl rfl rfl ?_
  refine x_aload_n (pc' := 1) rfl rfl rfl rfl rfl ?_
  refine x_gI (pc' := 4) (x := 2) rfl rfl rfl (Eq.trans rdInwa (z_I_128_2 e)) ?_
  refine x_istore_n (pc' := 5) (ls' := [_, _, _]) rfl rfl rfl rfl ?_
  refine x_iload_n (pc' := 6) rfl rfl rfl ?_
  refine x_if (a' := 27) (pc' := 9) (z := false) rfl rfl rfl (by decide) (fun h => by cases h) (fun _ => ?_)
  refine x_iload_n (pc' := 10) rfl rfl rfl ?_
  refine x_aload_n (pc' := 11) rfl rfl rfl rfl rfl ?_
  refine x_gR (pc' := 14) (r := (some (m + 1))) rfl rfl rfl (kMp (Cn_e e) hm).1 ?_
  refine x_alen (pc' := 15) (N := 3) rfl rfl rfl (kMp (Cn.nwa (Cn_e e)) hm).2.1 (?_ : X _ _ _ (.inl 3 :: _) _ _)
  refine x_icmp (a' := 27) (pc' := 18) (z := false) rfl rfl rfl (by decide) (fun h => by cases h) (fun _ => ?_)
  refine x_aload_n (pc' := 19) rfl rfl rfl rfl rfl ?_
  refine x_gR (pc' := 22) (r := (some (m + 1))) rfl rfl rfl (kMp (Cn_e e) hm).1 ?_
  refine x_iload_n (pc' := 23) rfl rfl rfl ?_
  refine x_iald (pc' := 24) (N := 3) (x := 0) rfl rfl rfl (kMp (Cn.nwa (Cn_e e)) hm).2.1 (io_in (p := 2) (N := 3) (by decide) (by decide)) (Eq.trans (congrArg (sA (sNwA t 20 6) 20 (m + 1)) (nn_io (p := 2) (by decide))) (Eq.trans rdAnwa (z_A_20_yy e _ _))) ?_
  refine x_goto (pc' := 28) rfl rfl ?_
  refine x_reti rfl rfl ?_
  refine sK_i (pc' := 48) rfl ?_
  refine x_istore (pc' := 50) (ls' := [_, _, _, _, _, _, _, _, _]) rfl rfl rfl rfl ?_
  refine x_aload_n (pc' := 51) rfl rfl rfl rfl rfl ?_
  refine x_iload (pc' := 53) rfl rfl rfl ?_
  refine x_iload (pc' := 55) rfl rfl rfl ?_
  refine x_cv (ls0 := [_, _, _, sJk]) (rest := []) rfl rfl rfl rfl rfl ?_
  refine x_iload_n (pc' := 1) rfl rfl rfl ?_
  refine x_iconst (pc' := 2) rfl rfl ?_
  refine x_imul (pc' := 3) (z := 6) rfl rfl (by decide) ?_
  refine x_iload_n (pc' := 4) rfl rfl rfl ?_
  refine x_iadd (pc' := 5) (z := 8) rfl rfl (by decide) ?_
  refine x_istore_n (pc' := 6) (ls' := [_, _, _, _]) rfl rfl rfl rfl ?_
  refine x_iload_n (pc' := 7) rfl rfl rfl ?_
  refine x_if (a' := 28) (pc' := 10) (z := false) rfl rfl rfl (by decide) (fun h => by cases h) (fun _ => ?_)
  refine x_iload_n (pc' := 11) rfl rfl rfl ?_
  refine x_aload_n (pc' := 12) rfl rfl rfl rfl rfl ?_
  refine x_gR (pc' := 15) (r := (some 0)) rfl rfl rfl (Eq.trans rdRnwa (z_R_323_0 e)) ?_
  refine x_alen (pc' := 16) (N := 18) rfl rfl rfl (kN_20_0 (Cn.nwa (Cn_e e))) (?_ : X _ _ _ (.inl 18 :: _) _ _)
  refine x_icmp (a' := 28) (pc' := 19) (z := false) rfl rfl rfl (by decide) (fun h => by cases h) (fun _ => ?_)
  refine x_aload_n (pc' := 20) rfl rfl rfl rfl rfl ?_
  refine x_gR (pc' := 23) (r := (some 0)) rfl rfl rfl (Eq.trans rdRnwa (z_R_323_0 e)) ?_
  refine x_iload_n (pc' := 24) rfl rfl rfl ?_
  refine x_iald (pc' := 25) (N := 18) (x := 0) rfl rfl rfl (kN_20_0 (Cn.nwa (Cn_e e))) (io_in (p := 8) (N := 18) (by decide) (by decide)) (Eq.trans (congrArg (sA (sNwA t 20 6) 20 0) (nn_io (p := 8) (by decide))) (Eq.trans rdAnwa (z_A_20_0_8 e))) ?_
  refine x_goto (pc' := 29) rfl rfl ?_
  refine x_reti rfl rfl ?_
  refine sK_i (pc' := 58) rfl ?_
  refine x_istore (pc' := 60) (ls' := [_, _, _, _, _, _, _, _, _]) rfl rfl rfl rfl ?_
  refine x_iload (pc' := 62) rfl rfl rfl ?_
  refine x_iload (pc' := 64) rfl rfl rfl ?_
  refine x_aload_n (pc' := 65) rfl rfl rfl rfl rfl ?_
  refine x_iload (pc' := 67) rfl rfl rfl ?_
  refine x_iald (pc' := 68) (N := 6) (x := 0) rfl rfl rfl (sN_new (z_C_20 e)) (io_in (p := 2) (N := 6) (by decide) (by decide)) (Eq.trans (congrArg (sA (sNwA t 20 6) 20 7) (nn_io (p := 2) (by decide))) (Eq.trans rdAnwa (z_A_20_7_2 e))) ?_
  refine x_iadd (pc' := 69) (z := 0) rfl rfl (by decide) ?_
  refine x_ineg (pc' := 70) (z := 0) rfl rfl (by decide) ?_
  refine x_iload (pc' := 72) rfl rfl rfl ?_
  refine x_imul (pc' := 73) (z := 0) rfl rfl (by decide) ?_
  refine x_iload (pc' := 75) rfl rfl rfl ?_
  refine x_aload_n (pc' := 76) rfl rfl rfl rfl rfl ?_
  refine x_iload (pc' := 78) rfl rfl rfl ?_
  refine x_iconst (pc' := 79) rfl rfl ?_
  refine x_iadd (pc' := 80) (z := 5) rfl rfl (by decide) ?_
  refine x_iald (pc' := 81) (N := 6) (x := 0) rfl rfl rfl (sN_new (z_C_20 e)) (io_in (p := 5) (N := 6) (by decide) (by decide)) (Eq.trans (congrArg (sA (sNwA t 20 6) 20 7) (nn_io (p := 5) (by decide))) (Eq.trans rdAnwa (z_A_20_7_5 e))) ?_
  refine x_isub (pc' := 82) (z := 0) rfl rfl (by decide) ?_
  refine x_ineg (pc' := 83) (z := 0) rfl rfl (by decide) ?_
  refine x_iload (pc' := 85) rfl rfl rfl ?_
  refine x_imul (pc' := 86) (z := 0) rfl rfl (by decide) ?_
  refine x_max (pc' := 89) (z := 0) rfl rfl rfl (by decide) ?_
  refine x_iadd (pc' := 90) (z := 0) rfl rfl (by decide) ?_
  refine x_istore (pc' := 92) (ls' := [_, _, _, _, _, _, _, _, _]) rfl rfl rfl rfl ?_
  refine x_iinc (pc' := 95) (y := 3) (ls' := [_, _, _, _, _, _, _, _, _]) rfl rfl rfl rfl rfl ?_
  refine x_goto (pc' := 18) rfl rfl ?_
  refine x_iload (pc' := 20) rfl rfl rfl ?_
  refine x_aload_n (pc' := 21) rfl rfl rfl rfl rfl ?_
  refine x_gR (pc' := 24) (r := (some 0)) rfl rfl rfl (Eq.trans rdRnwa (z_R_320_0 e)) ?_
  refine x_alen (pc' := 25) (N := 3) rfl rfl rfl (Eq.trans (b := sN t _ _) rfl (z_N_25_0 e)) (?_ : X _ _ _ (.inl 3 :: _) _ _)
  refine x_icmp (a' := 98) (pc' := 28) (z := true) rfl rfl rfl (by decide) (fun _ => ?_) (fun h => by cases h)
  refine x_iload_n (pc' := 99) rfl rfl rfl ?_
  refine x_iload (pc' := 101) rfl rfl rfl ?_
  refine x_max (pc' := 104) (z := 0) rfl rfl rfl (by decide) ?_
  refine x_istore_n (pc' := 105) (ls' := [_, _, _, _, _, _, _, _, _]) rfl rfl rfl rfl ?_
  refine x_iinc (pc' := 108) (y := 3) (ls' := [_, _, _, _, _, _, _, _, _]) rfl rfl rfl rfl rfl ?_
  refine x_goto (pc' := 5) rfl rfl ?_
  refine x_iload (pc' := 7) rfl rfl rfl ?_
  refine x_bipush (pc' := 9) rfl rfl ?_
  refine x_icmp (a' := 111) (pc' := 12) (z := false) rfl rfl rfl (by decide) (fun h => by cases h) (fun _ => ?_)
  refine x_iconst (pc' := 13) rfl rfl ?_
  refine x_istore (pc' := 15) (ls' := [_, _, _, _, _, _, _, _, _]) rfl rfl rfl rfl ?_
  refine x_iconst (pc' := 16) rfl rfl ?_
  refine x_istore (pc' := 18) (ls' := [_, _, _, _, _, _, _, _, _]) rfl rfl rfl rfl ?_
  refine x_iload (pc' := 20) rfl rfl rfl ?_
  refine x_aload_n (pc' := 21) rfl rfl rfl rfl rfl ?_
  refine x_gR (pc' := 24) (r := (some 0)) rfl rfl rfl (Eq.trans rdRnwa (z_R_320_0 e)) ?_
  refine x_alen (pc' := 25) (N := 3) rfl rfl rfl (Eq.trans (b := sN t _ _) rfl (z_N_25_0 e)) (?_ : X _ _ _ (.inl 3 :: _) _ _)
  refine x_icmp (a' := 98) (pc' := 28) (z := false) rfl rfl rfl (by decide) (fun h => by cases h) (fun _ => ?_)
  refine x_iload (pc' := 30) rfl rfl rfl ?_
  refine x_iconst (pc' := 31) rfl rfl ?_
  refine x_iadd (pc' := 32) (z := 3) rfl rfl (by decide) ?_
  refine x_aload_n (pc' := 33) rfl rfl rfl rfl rfl ?_
  refine x_alen (pc' := 34) (N := 6) rfl rfl rfl (sN_new (z_C_20 e)) (?_ : X _ _ _ (.inl 6 :: _) _ _)
  refine x_icmp (a' := 98) (pc' := 37) (z := false) rfl rfl rfl (by decide) (fun h => by cases h) (fun _ => ?_)
  refine x_aload_n (pc' := 38) rfl rfl rfl rfl rfl ?_
  refine x_aload_n (pc' := 39) rfl rfl rfl rfl rfl ?_
  refine x_gR (pc' := 42) (r := (some 0)) rfl rfl rfl (Eq.trans rdRnwa (z_R_320_0 e)) ?_
  refine x_iload (pc' := 44) rfl rfl rfl ?_
  refine x_aald (pc' := 45) (N := 3) (k' := 2) (r := (some 0)) rfl rfl rfl (Eq.trans (b := sN t _ _) rfl (z_N_25_0 e)) (io_in (p := 0) (N := 3) (by decide) (by decide)) (Eq.trans (congrArg (sE (sNwA t 20 6) 25 0) (nn_io (p := 0) (by decide))) (Eq.trans rdEnwa (z_E_25_0_0 e))) ?_
  refine x_cv (ls0 := [_, _, sJk]) (rest := []) rfl rfl rfl rfl rfl ?_
  refine x_aload_n (pc' := 1) rfl rfl rfl rfl rfl ?_
  refine x_gI (pc' := 4) (x := 0) rfl rfl rfl (Eq.trans rdInwa (z_I_128_0 e)) ?_
  refine x_istore_n (pc' := 5) (ls' := [_, _, _]) rfl rfl rfl rfl ?_
  refine x_iload_n (pc' := 6) rfl rfl rfl ?_
  refine x_if (a' := 27) (pc' := 9) (z := false) rfl rfl rfl (by decide) (fun h => by cases h) (fun _ => ?_)
  refine x_iload_n (pc' := 10) rfl rfl rfl ?_
  refine x_aload_n (pc' := 11) rfl rfl rfl rfl rfl ?_
  refine x_gR (pc' := 14) (r := (some (m + 1))) rfl rfl rfl (kMp (Cn_e e) hm).1 ?_
  refine x_alen (pc' := 15) (N := 3) rfl rfl rfl (kMp (Cn.nwa (Cn_e e)) hm).2.1 (?_ : X _ _ _ (.inl 3 :: _) _ _)
  refine x_icmp (a' := 27) (pc' := 18) (z := false) rfl rfl rfl (by decide) (fun h => by cases h) (fun _ => ?_)
  refine x_aload_n (pc' := 19) rfl rfl rfl rfl rfl ?_
  refine x_gR (pc' := 22) (r := (some (m + 1))) rfl rfl rfl (kMp (Cn_e e) hm).1 ?_
  refine x_iload_n (pc' := 23) rfl rfl rfl ?_
  refine x_iald (pc' := 24) (N := 3) (x := 0) rfl rfl rfl (kMp (Cn.nwa (Cn_e e)) hm).2.1 (io_in (p := 0) (N := 3) (by decide) (by decide)) (Eq.trans (congrArg (sA (sNwA t 20 6) 20 (m + 1)) (nn_io (p := 0) (by decide))) (Eq.trans rdAnwa (z_A_20_yy e _ _))) ?_
  refine x_goto (pc' := 28) rfl rfl ?_
  refine x_reti rfl rfl ?_
  refine sK_i (pc' := 48) rfl ?_
  refine x_istore (pc' := 50) (ls' := [_, _, _, _, _, _, _, _, _]) rfl rfl rfl rfl ?_
  refine x_aload_n (pc' := 51) rfl rfl rfl rfl rfl ?_
  refine x_iload (pc' := 53) rfl rfl rfl ?_
  refine x_iload (pc' := 55) rfl rfl rfl ?_
  refine x_cv (ls0 := [_, _, _, sJk]) (rest := []) rfl rfl rfl rfl rfl ?_
  refine x_iload_n (pc' := 1) rfl rfl rfl ?_
  refine x_iconst (pc' := 2) rfl rfl ?_
  refine x_imul (pc' := 3) (z := 9) rfl rfl (by decide) ?_
  refine x_iload_n (pc' := 4) rfl rfl rfl ?_
  refine x_iadd (pc' := 5) (z := 9) rfl rfl (by decide) ?_
  refine x_istore_n (pc' := 6) (ls' := [_, _, _, _]) rfl rfl rfl rfl ?_
  refine x_iload_n (pc' := 7) rfl rfl rfl ?_
  refine x_if (a' := 28) (pc' := 10) (z := false) rfl rfl rfl (by decide) (fun h => by cases h) (fun _ => ?_)
  refine x_iload_n (pc' := 11) rfl rfl rfl ?_
  refine x_aload_n (pc' := 12) rfl rfl rfl rfl rfl ?_
  refine x_gR (pc' := 15) (r := (some 0)) rfl rfl rfl (Eq.trans rdRnwa (z_R_323_0 e)) ?_
  refine x_alen (pc' := 16) (N := 18) rfl rfl rfl (kN_20_0 (Cn.nwa (Cn_e e))) (?_ : X _ _ _ (.inl 18 :: _) _ _)
  refine x_icmp (a' := 28) (pc' := 19) (z := false) rfl rfl rfl (by decide) (fun h => by cases h) (fun _ => ?_)
  refine x_aload_n (pc' := 20) rfl rfl rfl rfl rfl ?_
  refine x_gR (pc' := 23) (r := (some 0)) rfl rfl rfl (Eq.trans rdRnwa (z_R_323_0 e)) ?_
  refine x_iload_n (pc' := 24) rfl rfl rfl ?_
  refine x_iald (pc' := 25) (N := 18) (x := 0) rfl rfl rfl (kN_20_0 (Cn.nwa (Cn_e e))) (io_in (p := 9) (N := 18) (by decide) (by decide)) (Eq.trans (congrArg (sA (sNwA t 20 6) 20 0) (nn_io (p := 9) (by decide))) (Eq.trans rdAnwa (z_A_20_0_9 e))) ?_
  refine x_goto (pc' := 29) rfl rfl ?_
  refine x_reti rfl rfl ?_
  refine sK_i (pc' := 58) rfl ?_
  refine x_istore (pc' := 60) (ls' := [_, _, _, _, _, _, _, _, _]) rfl rfl rfl rfl ?_
  refine x_iload (pc' := 62) rfl rfl rfl ?_
  refine x_iload (pc' := 64) rfl rfl rfl ?_
  refine x_aload_n (pc' := 65) rfl rfl rfl rfl rfl ?_
  refine x_iload (pc' := 67) rfl rfl rfl ?_
  refine x_iald (pc' := 68) (N := 6) (x := 0) rfl rfl rfl (sN_new (z_C_20 e)) (io_in (p := 0) (N := 6) (by decide) (by decide)) (Eq.trans (congrArg (sA (sNwA t 20 6) 20 7) (nn_io (p := 0) (by decide))) (Eq.trans rdAnwa (z_A_20_7_0 e))) ?_
  refine x_iadd (pc' := 69) (z := 0) rfl rfl (by decide) ?_
  refine x_ineg (pc' := 70) (z := 0) rfl rfl (by decide) ?_
  refine x_iload (pc' := 72) rfl rfl rfl ?_
  refine x_imul (pc' := 73) (z := 0) rfl rfl (by decide) ?_
  refine x_iload (pc' := 75) rfl rfl rfl ?_
  refine x_aload_n (pc' := 76) rfl rfl rfl rfl rfl ?_
  refine x_iload (pc' := 78) rfl rfl rfl ?_
  refine x_iconst (pc' := 79) rfl rfl ?_
  refine x_iadd (pc' := 80) (z := 3) rfl rfl (by decide) ?_
  refine x_iald (pc' := 81) (N := 6) (x := 0) rfl rfl rfl (sN_new (z_C_20 e)) (io_in (p := 3) (N := 6) (by decide) (by decide)) (Eq.trans (congrArg (sA (sNwA t 20 6) 20 7) (nn_io (p := 3) (by decide))) (Eq.trans rdAnwa (z_A_20_7_3 e))) ?_
  refine x_isub (pc' := 82) (z := 0) rfl rfl (by decide) ?_
  refine x_ineg (pc' := 83) (z := 0) rfl rfl (by decide) ?_
  refine x_iload (pc' := 85) rfl rfl rfl ?_
  refine x_imul (pc' := 86) (z := 0) rfl rfl (by decide) ?_
  refine x_max (pc' := 89) (z := 0) rfl rfl rfl (by decide) ?_
  refine x_iadd (pc' := 90) (z := 0) rfl rfl (by decide) ?_
  refine x_istore (pc' := 92) (ls' := [_, _, _, _, _, _, _, _, _]) rfl rfl rfl rfl ?_
  refine x_iinc (pc' := 95) (y := 1) (ls' := [_, _, _, _, _, _, _, _, _]) rfl rfl rfl rfl rfl ?_
  refine x_goto (pc' := 18) rfl rfl ?_
  refine x_iload (pc' := 20) rfl rfl rfl ?_
  refine x_aload_n (pc' := 21) rfl rfl rfl rfl rfl ?_
  refine x_gR (pc' := 24) (r := (some 0)) rfl rfl rfl (Eq.trans rdRnwa (z_R_320_0 e)) ?_
  refine x_alen (pc' := 25) (N := 3) rfl rfl rfl (Eq.trans (b := sN t _ _) rfl (z_N_25_0 e)) (?_ : X _ _ _ (.inl 3 :: _) _ _)
  refine x_icmp (a' := 98) (pc' := 28) (z := false) rfl rfl rfl (by decide) (fun h => by cases h) (fun _ => ?_)
  refine x_iload (pc' := 30) rfl rfl rfl ?_
  refine x_iconst (pc' := 31) rfl rfl ?_
  refine x_iadd (pc' := 32) (z := 4) rfl rfl (by decide) ?_
  refine x_aload_n (pc' := 33) rfl rfl rfl rfl rfl ?_
  refine x_alen (pc' := 34) (N := 6) rfl rfl rfl (sN_new (z_C_20 e)) (?_ : X _ _ _ (.inl 6 :: _) _ _)
  refine x_icmp (a' := 98) (pc' := 37) (z := false) rfl rfl rfl (by decide) (fun h => by cases h) (fun _ => ?_)
  refine x_aload_n (pc' := 38) rfl rfl rfl rfl rfl ?_
  refine x_aload_n (pc' := 39) rfl rfl rfl rfl rfl ?_
  refine x_gR (pc' := 42) (r := (some 0)) rfl rfl rfl (Eq.trans rdRnwa (z_R_320_0 e)) ?_
  refine x_iload (pc' := 44) rfl rfl rfl ?_
  refine x_aald (pc' := 45) (N := 3) (k' := 2) (r := (some 1)) rfl rfl rfl (Eq.trans (b := sN t _ _) rfl (z_N_25_0 e)) (io_in (p := 1) (N := 3) (by decide) (by decide)) (Eq.trans (congrArg (sE (sNwA t 20 6) 25 0) (nn_io (p := 1) (by decide))) (Eq.trans rdEnwa (z_E_25_0_1 e))) ?_
  refine x_cv (ls0 := [_, _, sJk]) (rest := []) rfl rfl rfl rfl rfl ?_
  refine x_aload_n (pc' := 1) rfl rfl rfl rfl rfl ?_
  refine x_gI (pc' := 4) (x := 1) rfl rfl rfl (Eq.trans rdInwa (z_I_128_1 e)) ?_
  refine x_istore_n (pc' := 5) (ls' := [_, _, _]) rfl rfl rfl rfl ?_
  refine x_iload_n (pc' := 6) rfl rfl rfl ?_
  refine x_if (a' := 27) (pc' := 9) (z := false) rfl rfl rfl (by decide) (fun h => by cases h) (fun _ => ?_)
  refine x_iload_n (pc' := 10) rfl rfl rfl ?_
  refine x_aload_n (pc' := 11) rfl rfl rfl rfl rfl ?_
  refine x_gR (pc' := 14) (r := (some (m + 1))) rfl rfl rfl (kMp (Cn_e e) hm).1 ?_
  refine x_alen (pc' := 15) (N := 3) rfl rfl rfl (kMp (Cn.nwa (Cn_e e)) hm).2.1 (?_ : X _ _ _ (.inl 3 :: _) _ _)
  refine x_icmp (a' := 27) (pc' := 18) (z := false) rfl rfl rfl (by decide) (fun h => by cases h) (fun _ => ?_)
  refine x_aload_n (pc' := 19) rfl rfl rfl rfl rfl ?_
  refine x_gR (pc' := 22) (r := (some (m + 1))) rfl rfl rfl (kMp (Cn_e e) hm).1 ?_
  refine x_iload_n (pc' := 23) rfl rfl rfl ?_
  refine x_iald (pc' := 24) (N := 3) (x := 0) rfl rfl rfl (kMp (Cn.nwa (Cn_e e)) hm).2.1 (io_in (p := 1) (N := 3) (by decide) (by decide)) (Eq.trans (congrArg (sA (sNwA t 20 6) 20 (m + 1)) (nn_io (p := 1) (by decide))) (Eq.trans rdAnwa (z_A_20_yy e _ _))) ?_
  refine x_goto (pc' := 28) rfl rfl ?_
  refine x_reti rfl rfl ?_
  refine sK_i (pc' := 48) rfl ?_
  refine x_istore (pc' := 50) (ls' := [_, _, _, _, _, _, _, _, _]) rfl rfl rfl rfl ?_
  refine x_aload_n (pc' := 51) rfl rfl rfl rfl rfl ?_
  refine x_iload (pc' := 53) rfl rfl rfl ?_
  refine x_iload (pc' := 55) rfl rfl rfl ?_
  refine x_cv (ls0 := [_, _, _, sJk]) (rest := []) rfl rfl rfl rfl rfl ?_
  refine x_iload_n (pc' := 1) rfl rfl rfl ?_
  refine x_iconst (pc' := 2) rfl rfl ?_
  refine x_imul (pc' := 3) (z := 9) rfl rfl (by decide) ?_
  refine x_iload_n (pc' := 4) rfl rfl rfl ?_
  refine x_iadd (pc' := 5) (z := 10) rfl rfl (by decide) ?_
  refine x_istore_n (pc' := 6) (ls' := [_, _, _, _]) rfl rfl rfl rfl ?_
  refine x_iload_n (pc' := 7) rfl rfl rfl ?_
  refine x_if (a' := 28) (pc' := 10) (z := false) rfl rfl rfl (by decide) (fun h => by cases h) (fun _ => ?_)
  refine x_iload_n (pc' := 11) rfl rfl rfl ?_
  refine x_aload_n (pc' := 12) rfl rfl rfl rfl rfl ?_
  refine x_gR (pc' := 15) (r := (some 0)) rfl rfl rfl (Eq.trans rdRnwa (z_R_323_0 e)) ?_
  refine x_alen (pc' := 16) (N := 18) rfl rfl rfl (kN_20_0 (Cn.nwa (Cn_e e))) (?_ : X _ _ _ (.inl 18 :: _) _ _)
  refine x_icmp (a' := 28) (pc' := 19) (z := false) rfl rfl rfl (by decide) (fun h => by cases h) (fun _ => ?_)
  refine x_aload_n (pc' := 20) rfl rfl rfl rfl rfl ?_
  refine x_gR (pc' := 23) (r := (some 0)) rfl rfl rfl (Eq.trans rdRnwa (z_R_323_0 e)) ?_
  refine x_iload_n (pc' := 24) rfl rfl rfl ?_
  refine x_iald (pc' := 25) (N := 18) (x := 0) rfl rfl rfl (kN_20_0 (Cn.nwa (Cn_e e))) (io_in (p := 10) (N := 18) (by decide) (by decide)) (Eq.trans (congrArg (sA (sNwA t 20 6) 20 0) (nn_io (p := 10) (by decide))) (Eq.trans rdAnwa (z_A_20_0_10 e))) ?_
  refine x_goto (pc' := 29) rfl rfl ?_
  refine x_reti rfl rfl ?_
  refine sK_i (pc' := 58) rfl ?_
  refine x_istore (pc' := 60) (ls' := [_, _, _, _, _, _, _, _, _]) rfl rfl rfl rfl ?_
  refine x_iload (pc' := 62) rfl rfl rfl ?_
  refine x_iload (pc' := 64) rfl rfl rfl ?_
  refine x_aload_n (pc' := 65) rfl rfl rfl rfl rfl ?_
  refine x_iload (pc' := 67) rfl rfl rfl ?_
  refine x_iald (pc' := 68) (N := 6) (x := 0) rfl rfl rfl (sN_new (z_C_20 e)) (io_in (p := 1) (N := 6) (by decide) (by decide)) (Eq.trans (congrArg (sA (sNwA t 20 6) 20 7) (nn_io (p := 1) (by decide))) (Eq.trans rdAnwa (z_A_20_7_1 e))) ?_
  refine x_iadd (pc' := 69) (z := 0) rfl rfl (by decide) ?_
  refine x_ineg (pc' := 70) (z := 0) rfl rfl (by decide) ?_
  refine x_iload (pc' := 72) rfl rfl rfl ?_
  refine x_imul (pc' := 73) (z := 0) rfl rfl (by decide) ?_
  refine x_iload (pc' := 75) rfl rfl rfl ?_
  refine x_aload_n (pc' := 76) rfl rfl rfl rfl rfl ?_
  refine x_iload (pc' := 78) rfl rfl rfl ?_
  refine x_iconst (pc' := 79) rfl rfl ?_
  refine x_iadd (pc' := 80) (z := 4) rfl rfl (by decide) ?_
  refine x_iald (pc' := 81) (N := 6) (x := 0) rfl rfl rfl (sN_new (z_C_20 e)) (io_in (p := 4) (N := 6) (by decide) (by decide)) (Eq.trans (congrArg (sA (sNwA t 20 6) 20 7) (nn_io (p := 4) (by decide))) (Eq.trans rdAnwa (z_A_20_7_4 e))) ?_
  refine x_isub (pc' := 82) (z := 0) rfl rfl (by decide) ?_
  refine x_ineg (pc' := 83) (z := 0) rfl rfl (by decide) ?_
  refine x_iload (pc' := 85) rfl rfl rfl ?_
  refine x_imul (pc' := 86) (z := 0) rfl rfl (by decide) ?_
  refine x_max (pc' := 89) (z := 0) rfl rfl rfl (by decide) ?_
  refine x_iadd (pc' := 90) (z := 0) rfl rfl (by decide) ?_
  refine x_istore (pc' := 92) (ls' := [_, _, _, _, _, _, _, _, _]) rfl rfl rfl rfl ?_
  refine x_iinc (pc' := 95) (y := 2) (ls' := [_, _, _, _, _, _, _, _, _]) rfl rfl rfl rfl rfl ?_
  refine x_goto (pc' := 18) rfl rfl ?_
  refine x_iload (pc' := 20) rfl rfl rfl ?_
  refine x_aload_n (pc' := 21) rfl rfl rfl rfl rfl ?_
  refine x_gR (pc' := 24) (r := (some 0)) rfl rfl rfl (Eq.trans rdRnwa (z_R_320_0 e)) ?_
  refine x_alen (pc' := 25) (N := 3) rfl rfl rfl (Eq.trans (b := sN t _ _) rfl (z_N_25_0 e)) (?_ : X _ _ _ (.inl 3 :: _) _ _)
  refine x_icmp (a' := 98) (pc' := 28) (z := false) rfl rfl rfl (by decide) (fun h => by cases h) (fun _ => ?_)
  refine x_iload (pc' := 30) rfl rfl rfl ?_
  refine x_iconst (pc' := 31) rfl rfl ?_
  refine x_iadd (pc' := 32) (z := 5) rfl rfl (by decide) ?_
  refine x_aload_n (pc' := 33) rfl rfl rfl rfl rfl ?_
  refine x_alen (pc' := 34) (N := 6) rfl rfl rfl (sN_new (z_C_20 e)) (?_ : X _ _ _ (.inl 6 :: _) _ _)
  refine x_icmp (a' := 98) (pc' := 37) (z := false) rfl rfl rfl (by decide) (fun h => by cases h) (fun _ => ?_)
  refine x_aload_n (pc' := 38) rfl rfl rfl rfl rfl ?_
  refine x_aload_n (pc' := 39) rfl rfl rfl rfl rfl ?_
  refine x_gR (pc' := 42) (r := (some 0)) rfl rfl rfl (Eq.trans rdRnwa (z_R_320_0 e)) ?_
  refine x_iload (pc' := 44) rfl rfl rfl ?_
  refine x_aald (pc' := 45) (N := 3) (k' := 2) (r := (some 2)) rfl rfl rfl (Eq.trans (b := sN t _ _) rfl (z_N_25_0 e)) (io_in (p := 2) (N := 3) (by decide) (by decide)) (Eq.trans (congrArg (sE (sNwA t 20 6) 25 0) (nn_io (p := 2) (by decide))) (Eq.trans rdEnwa (z_E_25_0_2 e))) ?_
  refine x_cv (ls0 := [_, _, sJk]) (rest := []) rfl rfl rfl rfl rfl ?_
  refine x_aload_n (pc' := 1) rfl rfl rfl rfl rfl ?_
  refine x_gI (pc' := 4) (x := 2) rfl rfl rfl (Eq.trans rdInwa (z_I_128_2 e)) ?_
  refine x_istore_n (pc' := 5) (ls' := [_, _, _]) rfl rfl rfl rfl ?_
  refine x_iload_n (pc' := 6) rfl rfl rfl ?_
  refine x_if (a' := 27) (pc' := 9) (z := false) rfl rfl rfl (by decide) (fun h => by cases h) (fun _ => ?_)
  refine x_iload_n (pc' := 10) rfl rfl rfl ?_
  refine x_aload_n (pc' := 11) rfl rfl rfl rfl rfl ?_
  refine x_gR (pc' := 14) (r := (some (m + 1))) rfl rfl rfl (kMp (Cn_e e) hm).1 ?_
  refine x_alen (pc' := 15) (N := 3) rfl rfl rfl (kMp (Cn.nwa (Cn_e e)) hm).2.1 (?_ : X _ _ _ (.inl 3 :: _) _ _)
  refine x_icmp (a' := 27) (pc' := 18) (z := false) rfl rfl rfl (by decide) (fun h => by cases h) (fun _ => ?_)
  refine x_aload_n (pc' := 19) rfl rfl rfl rfl rfl ?_
  refine x_gR (pc' := 22) (r := (some (m + 1))) rfl rfl rfl (kMp (Cn_e e) hm).1 ?_
  refine x_iload_n (pc' := 23) rfl rfl rfl ?_
  refine x_iald (pc' := 24) (N := 3) (x := 0) rfl rfl rfl (kMp (Cn.nwa (Cn_e e)) hm).2.1 (io_in (p := 2) (N := 3) (by decide) (by decide)) (Eq.trans (congrArg (sA (sNwA t 20 6) 20 (m + 1)) (nn_io (p := 2) (by decide))) (Eq.trans rdAnwa (z_A_20_yy e _ _))) ?_
  refine x_goto (pc' := 28) rfl rfl ?_
  refine x_reti rfl rfl ?_
  refine sK_i (pc' := 48) rfl ?_
  refine x_istore (pc' := 50) (ls' := [_, _, _, _, _, _, _, _, _]) rfl rfl rfl rfl ?_
  refine x_aload_n (pc' := 51) rfl rfl rfl rfl rfl ?_
  refine x_iload (pc' := 53) rfl rfl rfl ?_
  refine x_iload (pc' := 55) rfl rfl rfl ?_
  refine x_cv (ls0 := [_, _, _, sJk]) (rest := []) rfl rfl rfl rfl rfl ?_
  refine x_iload_n (pc' := 1) rfl rfl rfl ?_
  refine x_iconst (pc' := 2) rfl rfl ?_
  refine x_imul (pc' := 3) (z := 9) rfl rfl (by decide) ?_
  refine x_iload_n (pc' := 4) rfl rfl rfl ?_
  refine x_iadd (pc' := 5) (z := 11) rfl rfl (by decide) ?_
  refine x_istore_n (pc' := 6) (ls' := [_, _, _, _]) rfl rfl rfl rfl ?_
  refine x_iload_n (pc' := 7) rfl rfl rfl ?_
  refine x_if (a' := 28) (pc' := 10) (z := false) rfl rfl rfl (by decide) (fun h => by cases h) (fun _ => ?_)
  refine x_iload_n (pc' := 11) rfl rfl rfl ?_
  refine x_aload_n (pc' := 12) rfl rfl rfl rfl rfl ?_
  refine x_gR (pc' := 15) (r := (some 0)) rfl rfl rfl (Eq.trans rdRnwa (z_R_323_0 e)) ?_
  refine x_alen (pc' := 16) (N := 18) rfl rfl rfl (kN_20_0 (Cn.nwa (Cn_e e))) (?_ : X _ _ _ (.inl 18 :: _) _ _)
  refine x_icmp (a' := 28) (pc' := 19) (z := false) rfl rfl rfl (by decide) (fun h => by cases h) (fun _ => ?_)
  refine x_aload_n (pc' := 20) rfl rfl rfl rfl rfl ?_
  refine x_gR (pc' := 23) (r := (some 0)) rfl rfl rfl (Eq.trans rdRnwa (z_R_323_0 e)) ?_
  refine x_iload_n (pc' := 24) rfl rfl rfl ?_
  refine x_iald (pc' := 25) (N := 18) (x := 0) rfl rfl rfl (kN_20_0 (Cn.nwa (Cn_e e))) (io_in (p := 11) (N := 18) (by decide) (by decide)) (Eq.trans (congrArg (sA (sNwA t 20 6) 20 0) (nn_io (p := 11) (by decide))) (Eq.trans rdAnwa (z_A_20_0_11 e))) ?_
  refine x_goto (pc' := 29) rfl rfl ?_
  refine x_reti rfl rfl ?_
  refine sK_i (pc' := 58) rfl ?_
  refine x_istore (pc' := 60) (ls' := [_, _, _, _, _, _, _, _, _]) rfl rfl rfl rfl ?_
  refine x_iload (pc' := 62) rfl rfl rfl ?_
  refine x_iload (pc' := 64) rfl rfl rfl ?_
  refine x_aload_n (pc' := 65) rfl rfl rfl rfl rfl ?_
  refine x_iload (pc' := 67) rfl rfl rfl ?_
  refine x_iald (pc' := 68) (N := 6) (x := 0) rfl rfl rfl (sN_new (z_C_20 e)) (io_in (p := 2) (N := 6) (by decide) (by decide)) (Eq.trans (congrArg (sA (sNwA t 20 6) 20 7) (nn_io (p := 2) (by decide))) (Eq.trans rdAnwa (z_A_20_7_2 e))) ?_
  refine x_iadd (pc' := 69) (z := 0) rfl rfl (by decide) ?_
  refine x_ineg (pc' := 70) (z := 0) rfl rfl (by decide) ?_
  refine x_iload (pc' := 72) rfl rfl rfl ?_
  refine x_imul (pc' := 73) (z := 0) rfl rfl (by decide) ?_
  refine x_iload (pc' := 75) rfl rfl rfl ?_
  refine x_aload_n (pc' := 76) rfl rfl rfl rfl rfl ?_
  refine x_iload (pc' := 78) rfl rfl rfl ?_
  refine x_iconst (pc' := 79) rfl rfl ?_
  refine x_iadd (pc' := 80) (z := 5) rfl rfl (by decide) ?_
  refine x_iald (pc' := 81) (N := 6) (x := 0) rfl rfl rfl (sN_new (z_C_20 e)) (io_in (p := 5) (N := 6) (by decide) (by decide)) (Eq.trans (congrArg (sA (sNwA t 20 6) 20 7) (nn_io (p := 5) (by decide))) (Eq.trans rdAnwa (z_A_20_7_5 e))) ?_
  refine x_isub (pc' := 82) (z := 0) rfl rfl (by decide) ?_
  refine x_ineg (pc' := 83) (z := 0) rfl rfl (by decide) ?_
  refine x_iload (pc' := 85) rfl rfl rfl ?_
  refine x_imul (pc' := 86) (z := 0) rfl rfl (by decide) ?_
  refine x_max (pc' := 89) (z := 0) rfl rfl rfl (by decide) ?_
  refine x_iadd (pc' := 90) (z := 0) rfl rfl (by decide) ?_
  refine x_istore (pc' := 92) (ls' := [_, _, _, _, _, _, _, _, _]) rfl rfl rfl rfl ?_
  refine x_iinc (pc' := 95) (y := 3) (ls' := [_, _, _, _, _, _, _, _, _]) rfl rfl rfl rfl rfl ?_
  refine x_goto (pc' := 18) rfl rfl ?_
  refine x_iload (pc' := 20) rfl rfl rfl ?_
  refine x_aload_n (pc' := 21) rfl rfl rfl rfl rfl ?_
  refine x_gR (pc' := 24) (r := (some 0)) rfl rfl rfl (Eq.trans rdRnwa (z_R_320_0 e)) ?_
  refine x_alen (pc' := 25) (N := 3) rfl rfl rfl (Eq.trans (b := sN t _ _) rfl (z_N_25_0 e)) (?_ : X _ _ _ (.inl 3 :: _) _ _)
  refine x_icmp (a' := 98) (pc' := 28) (z := true) rfl rfl rfl (by decide) (fun _ => ?_) (fun h => by cases h)
  refine x_iload_n (pc' := 99) rfl rfl rfl ?_
  refine x_iload (pc' := 101) rfl rfl rfl ?_
  refine x_max (pc' := 104) (z := 0) rfl rfl rfl (by decide) ?_
  refine x_istore_n (pc' := 105) (ls' := [_, _, _, _, _, _, _, _, _]) rfl rfl rfl rfl ?_
  refine x_iinc (pc' := 108) (y := 4) (ls' := [_, _, _, _, _, _, _, _, _]) rfl rfl rfl rfl rfl ?_
  refine x_goto (pc' := 5) rfl rfl ?_
  refine x_iload (pc' := 7) rfl rfl rfl ?_
  refine x_bipush (pc' := 9) rfl rfl ?_
  refine x_icmp (a' := 111) (pc' := 12) (z := false) rfl rfl rfl (by decide) (fun h => by cases h) (fun _ => ?_)
  refine x_iconst (pc' := 13) rfl rfl ?_
  refine x_istore (pc' := 15) (ls' := [_, _, _, _, _, _, _, _, _]) rfl rfl rfl rfl ?_
  refine x_iconst (pc' := 16) rfl rfl ?_
  refine x_istore (pc' := 18) (ls' := [_, _, _, _, _, _, _, _, _]) rfl rfl rfl rfl ?_
  refine x_iload (pc' := 20) rfl rfl rfl ?_
  refine x_aload_n (pc' := 21) rfl rfl rfl rfl rfl ?_
  refine x_gR (pc' := 24) (r := (some 0)) rfl rfl rfl (Eq.trans rdRnwa (z_R_320_0 e)) ?_
  refine x_alen (pc' := 25) (N := 3) rfl rfl rfl (Eq.trans (b := sN t _ _) rfl (z_N_25_0 e)) (?_ : X _ _ _ (.inl 3 :: _) _ _)
  refine x_icmp (a' := 98) (pc' := 28) (z := false) rfl rfl rfl (by decide) (fun h => by cases h) (fun _ => ?_)
  refine x_iload (pc' := 30) rfl rfl rfl ?_
  refine x_iconst (pc' := 31) rfl rfl ?_
  refine x_iadd (pc' := 32) (z := 3) rfl rfl (by decide) ?_
  refine x_aload_n (pc' := 33) rfl rfl rfl rfl rfl ?_
  refine x_alen (pc' := 34) (N := 6) rfl rfl rfl (sN_new (z_C_20 e)) (?_ : X _ _ _ (.inl 6 :: _) _ _)
  refine x_icmp (a' := 98) (pc' := 37) (z := false) rfl rfl rfl (by decide) (fun h => by cases h) (fun _ => ?_)
  refine x_aload_n (pc' := 38) rfl rfl rfl rfl rfl ?_
  refine x_aload_n (pc' := 39) rfl rfl rfl rfl rfl ?_
  refine x_gR (pc' := 42) (r := (some 0)) rfl rfl rfl (Eq.trans rdRnwa (z_R_320_0 e)) ?_
  refine x_iload (pc' := 44) rfl rfl rfl ?_
  refine x_aald (pc' := 45) (N := 3) (k' := 2) (r := (some 0)) rfl rfl rfl (Eq.trans (b := sN t _ _) rfl (z_N_25_0 e)) (io_in (p := 0) (N := 3) (by decide) (by decide)) (Eq.trans (congrArg (sE (sNwA t 20 6) 25 0) (nn_io (p := 0) (by decide))) (Eq.trans rdEnwa (z_E_25_0_0 e))) ?_
  refine x_cv (ls0 := [_, _, sJk]) (rest := []) rfl rfl rfl rfl rfl ?_
  refine x_aload_n (pc' := 1) rfl rfl rfl rfl rfl ?_
  refine x_gI (pc' := 4) (x := 0) rfl rfl rfl (Eq.trans rdInwa (z_I_128_0 e)) ?_
  refine x_istore_n (pc' := 5) (ls' := [_, _, _]) rfl rfl rfl rfl ?_
  refine x_iload_n (pc' := 6) rfl rfl rfl ?_
  refine x_if (a' := 27) (pc' := 9) (z := false) rfl rfl rfl (by decide) (fun h => by cases h) (fun _ => ?_)
  refine x_iload_n (pc' := 10) rfl rfl rfl ?_
  refine x_aload_n (pc' := 11) rfl rfl rfl rfl rfl ?_
  refine x_gR (pc' := 14) (r := (some (m + 1))) rfl rfl rfl (kMp (Cn_e e) hm).1 ?_
  refine x_alen (pc' := 15) (N := 3) rfl rfl rfl (kMp (Cn.nwa (Cn_e e)) hm).2.1 (?_ : X _ _ _ (.inl 3 :: _) _ _)
  refine x_icmp (a' := 27) (pc' := 18) (z := false) rfl rfl rfl (by decide) (fun h => by cases h) (fun _ => ?_)
  refine x_aload_n (pc' := 19) rfl rfl rfl rfl rfl ?_
  refine x_gR (pc' := 22) (r := (some (m + 1))) rfl rfl rfl (kMp (Cn_e e) hm).1 ?_
  refine x_iload_n (pc' := 23) rfl rfl rfl ?_
  refine x_iald (pc' := 24) (N := 3) (x := 0) rfl rfl rfl (kMp (Cn.nwa (Cn_e e)) hm).2.1 (io_in (p := 0) (N := 3) (by decide) (by decide)) (Eq.trans (congrArg (sA (sNwA t 20 6) 20 (m + 1)) (nn_io (p := 0) (by decide))) (Eq.trans rdAnwa (z_A_20_yy e _ _))) ?_
  refine x_goto (pc' := 28) rfl rfl ?_
  refine x_reti rfl rfl ?_
  refine sK_i (pc' := 48) rfl ?_
  refine x_istore (pc' := 50) (ls' := [_, _, _, _, _, _, _, _, _]) rfl rfl rfl rfl ?_
  refine x_aload_n (pc' := 51) rfl rfl rfl rfl rfl ?_
  refine x_iload (pc' := 53) rfl rfl rfl ?_
  refine x_iload (pc' := 55) rfl rfl rfl ?_
  refine x_cv (ls0 := [_, _, _, sJk]) (rest := []) rfl rfl rfl rfl rfl ?_
  refine x_iload_n (pc' := 1) rfl rfl rfl ?_
  refine x_iconst (pc' := 2) rfl rfl ?_
  refine x_imul (pc' := 3) (z := 12) rfl rfl (by decide) ?_
  refine x_iload_n (pc' := 4) rfl rfl rfl ?_
  refine x_iadd (pc' := 5) (z := 12) rfl rfl (by decide) ?_
  refine x_istore_n (pc' := 6) (ls' := [_, _, _, _]) rfl rfl rfl rfl ?_
  refine x_iload_n (pc' := 7) rfl rfl rfl ?_
  refine x_if (a' := 28) (pc' := 10) (z := false) rfl rfl rfl (by decide) (fun h => by cases h) (fun _ => ?_)
  refine x_iload_n (pc' := 11) rfl rfl rfl ?_
  refine x_aload_n (pc' := 12) rfl rfl rfl rfl rfl ?_
  refine x_gR (pc' := 15) (r := (some 0)) rfl rfl rfl (Eq.trans rdRnwa (z_R_323_0 e)) ?_
  refine x_alen (pc' := 16) (N := 18) rfl rfl rfl (kN_20_0 (Cn.nwa (Cn_e e))) (?_ : X _ _ _ (.inl 18 :: _) _ _)
  refine x_icmp (a' := 28) (pc' := 19) (z := false) rfl rfl rfl (by decide) (fun h => by cases h) (fun _ => ?_)
  refine x_aload_n (pc' := 20) rfl rfl rfl rfl rfl ?_
  refine x_gR (pc' := 23) (r := (some 0)) rfl rfl rfl (Eq.trans rdRnwa (z_R_323_0 e)) ?_
  refine x_iload_n (pc' := 24) rfl rfl rfl ?_
  refine x_iald (pc' := 25) (N := 18) (x := 0) rfl rfl rfl (kN_20_0 (Cn.nwa (Cn_e e))) (io_in (p := 12) (N := 18) (by decide) (by decide)) (Eq.trans (congrArg (sA (sNwA t 20 6) 20 0) (nn_io (p := 12) (by decide))) (Eq.trans rdAnwa (z_A_20_0_12 e))) ?_
  refine x_goto (pc' := 29) rfl rfl ?_
  refine x_reti rfl rfl ?_
  refine sK_i (pc' := 58) rfl ?_
  refine x_istore (pc' := 60) (ls' := [_, _, _, _, _, _, _, _, _]) rfl rfl rfl rfl ?_
  refine x_iload (pc' := 62) rfl rfl rfl ?_
  refine x_iload (pc' := 64) rfl rfl rfl ?_
  refine x_aload_n (pc' := 65) rfl rfl rfl rfl rfl ?_
  refine x_iload (pc' := 67) rfl rfl rfl ?_
  refine x_iald (pc' := 68) (N := 6) (x := 0) rfl rfl rfl (sN_new (z_C_20 e)) (io_in (p := 0) (N := 6) (by decide) (by decide)) (Eq.trans (congrArg (sA (sNwA t 20 6) 20 7) (nn_io (p := 0) (by decide))) (Eq.trans rdAnwa (z_A_20_7_0 e))) ?_
  refine x_iadd (pc' := 69) (z := 0) rfl rfl (by decide) ?_
  refine x_ineg (pc' := 70) (z := 0) rfl rfl (by decide) ?_
  refine x_iload (pc' := 72) rfl rfl rfl ?_
  refine x_imul (pc' := 73) (z := 0) rfl rfl (by decide) ?_
  refine x_iload (pc' := 75) rfl rfl rfl ?_
  refine x_aload_n (pc' := 76) rfl rfl rfl rfl rfl ?_
  refine x_iload (pc' := 78) rfl rfl rfl ?_
  refine x_iconst (pc' := 79) rfl rfl ?_
  refine x_iadd (pc' := 80) (z := 3) rfl rfl (by decide) ?_
  refine x_iald (pc' := 81) (N := 6) (x := 0) rfl rfl rfl (sN_new (z_C_20 e)) (io_in (p := 3) (N := 6) (by decide) (by decide)) (Eq.trans (congrArg (sA (sNwA t 20 6) 20 7) (nn_io (p := 3) (by decide))) (Eq.trans rdAnwa (z_A_20_7_3 e))) ?_
  refine x_isub (pc' := 82) (z := 0) rfl rfl (by decide) ?_
  refine x_ineg (pc' := 83) (z := 0) rfl rfl (by decide) ?_
  refine x_iload (pc' := 85) rfl rfl rfl ?_
  refine x_imul (pc' := 86) (z := 0) rfl rfl (by decide) ?_
  refine x_max (pc' := 89) (z := 0) rfl rfl rfl (by decide) ?_
  refine x_iadd (pc' := 90) (z := 0) rfl rfl (by decide) ?_
  refine x_istore (pc' := 92) (ls' := [_, _, _, _, _, _, _, _, _]) rfl rfl rfl rfl ?_
  refine x_iinc (pc' := 95) (y := 1) (ls' := [_, _, _, _, _, _, _, _, _]) rfl rfl rfl rfl rfl ?_
  refine x_goto (pc' := 18) rfl rfl ?_
  refine x_iload (pc' := 20) rfl rfl rfl ?_
  refine x_aload_n (pc' := 21) rfl rfl rfl rfl rfl ?_
  refine x_gR (pc' := 24) (r := (some 0)) rfl rfl rfl (Eq.trans rdRnwa (z_R_320_0 e)) ?_
  refine x_alen (pc' := 25) (N := 3) rfl rfl rfl (Eq.trans (b := sN t _ _) rfl (z_N_25_0 e)) (?_ : X _ _ _ (.inl 3 :: _) _ _)
  refine x_icmp (a' := 98) (pc' := 28) (z := false) rfl rfl rfl (by decide) (fun h => by cases h) (fun _ => ?_)
  refine x_iload (pc' := 30) rfl rfl rfl ?_
  refine x_iconst (pc' := 31) rfl rfl ?_
  refine x_iadd (pc' := 32) (z := 4) rfl rfl (by decide) ?_
  refine x_aload_n (pc' := 33) rfl rfl rfl rfl rfl ?_
  refine x_alen (pc' := 34) (N := 6) rfl rfl rfl (sN_new (z_C_20 e)) (?_ : X _ _ _ (.inl 6 :: _) _ _)
  refine x_icmp (a' := 98) (pc' := 37) (z := false) rfl rfl rfl (by decide) (fun h => by cases h) (fun _ => ?_)
  refine x_aload_n (pc' := 38) rfl rfl rfl rfl rfl ?_
  refine x_aload_n (pc' := 39) rfl rfl rfl rfl rfl ?_
  refine x_gR (pc' := 42) (r := (some 0)) rfl rfl rfl (Eq.trans rdRnwa (z_R_320_0 e)) ?_
  refine x_iload (pc' := 44) rfl rfl rfl ?_
  refine x_aald (pc' := 45) (N := 3) (k' := 2) (r := (some 1)) rfl rfl rfl (Eq.trans (b := sN t _ _) rfl (z_N_25_0 e)) (io_in (p := 1) (N := 3) (by decide) (by decide)) (Eq.trans (congrArg (sE (sNwA t 20 6) 25 0) (nn_io (p := 1) (by decide))) (Eq.trans rdEnwa (z_E_25_0_1 e))) ?_
  refine x_cv (ls0 := [_, _, sJk]) (rest := []) rfl rfl rfl rfl rfl ?_
  refine x_aload_n (pc' := 1) rfl rfl rfl rfl rfl ?_
  refine x_gI (pc' := 4) (x := 1) rfl rfl rfl (Eq.trans rdInwa (z_I_128_1 e)) ?_
  refine x_istore_n (pc' := 5) (ls' := [_, _, _]) rfl rfl rfl rfl ?_
  refine x_iload_n (pc' := 6) rfl rfl rfl ?_
  refine x_if (a' := 27) (pc' := 9) (z := false) rfl rfl rfl (by decide) (fun h => by cases h) (fun _ => ?_)
  refine x_iload_n (pc' := 10) rfl rfl rfl ?_
  refine x_aload_n (pc' := 11) rfl rfl rfl rfl rfl ?_
  refine x_gR (pc' := 14) (r := (some (m + 1))) rfl rfl rfl (kMp (Cn_e e) hm).1 ?_
  refine x_alen (pc' := 15) (N := 3) rfl rfl rfl (kMp (Cn.nwa (Cn_e e)) hm).2.1 (?_ : X _ _ _ (.inl 3 :: _) _ _)
  refine x_icmp (a' := 27) (pc' := 18) (z := false) rfl rfl rfl (by decide) (fun h => by cases h) (fun _ => ?_)
  refine x_aload_n (pc' := 19) rfl rfl rfl rfl rfl ?_
  refine x_gR (pc' := 22) (r := (some (m + 1))) rfl rfl rfl (kMp (Cn_e e) hm).1 ?_
  refine x_iload_n (pc' := 23) rfl rfl rfl ?_
  refine x_iald (pc' := 24) (N := 3) (x := 0) rfl rfl rfl (kMp (Cn.nwa (Cn_e e)) hm).2.1 (io_in (p := 1) (N := 3) (by decide) (by decide)) (Eq.trans (congrArg (sA (sNwA t 20 6) 20 (m + 1)) (nn_io (p := 1) (by decide))) (Eq.trans rdAnwa (z_A_20_yy e _ _))) ?_
  refine x_goto (pc' := 28) rfl rfl ?_
  refine x_reti rfl rfl ?_
  refine sK_i (pc' := 48) rfl ?_
  refine x_istore (pc' := 50) (ls' := [_, _, _, _, _, _, _, _, _]) rfl rfl rfl rfl ?_
  refine x_aload_n (pc' := 51) rfl rfl rfl rfl rfl ?_
  refine x_iload (pc' := 53) rfl rfl rfl ?_
  refine x_iload (pc' := 55) rfl rfl rfl ?_
  refine x_cv (ls0 := [_, _, _, sJk]) (rest := []) rfl rfl rfl rfl rfl ?_
  refine x_iload_n (pc' := 1) rfl rfl rfl ?_
  refine x_iconst (pc' := 2) rfl rfl ?_
  refine x_imul (pc' := 3) (z := 12) rfl rfl (by decide) ?_
  refine x_iload_n (pc' := 4) rfl rfl rfl ?_
  refine x_iadd (pc' := 5) (z := 13) rfl rfl (by decide) ?_
  refine x_istore_n (pc' := 6) (ls' := [_, _, _, _]) rfl rfl rfl rfl ?_
  refine x_iload_n (pc' := 7) rfl rfl rfl ?_
  refine x_if (a' := 28) (pc' := 10) (z := false) rfl rfl rfl (by decide) (fun h => by cases h) (fun _ => ?_)
  refine x_iload_n (pc' := 11) rfl rfl rfl ?_
  refine x_aload_n (pc' := 12) rfl rfl rfl rfl rfl ?_
  refine x_gR (pc' := 15) (r := (some 0)) rfl rfl rfl (Eq.trans rdRnwa (z_R_323_0 e)) ?_
  refine x_alen (pc' := 16) (N := 18) rfl rfl rfl (kN_20_0 (Cn.nwa (Cn_e e))) (?_ : X _ _ _ (.inl 18 :: _) _ _)
  refine x_icmp (a' := 28) (pc' := 19) (z := false) rfl rfl rfl (by decide) (fun h => by cases h) (fun _ => ?_)
  refine x_aload_n (pc' := 20) rfl rfl rfl rfl rfl ?_
  refine x_gR (pc' := 23) (r := (some 0)) rfl rfl rfl (Eq.trans rdRnwa (z_R_323_0 e)) ?_
  refine x_iload_n (pc' := 24) rfl rfl rfl ?_
  refine x_iald (pc' := 25) (N := 18) (x := 0) rfl rfl rfl (kN_20_0 (Cn.nwa (Cn_e e))) (io_in (p := 13) (N := 18) (by decide) (by decide)) (Eq.trans (congrArg (sA (sNwA t 20 6) 20 0) (nn_io (p := 13) (by decide))) (Eq.trans rdAnwa (z_A_20_0_13 e))) ?_
  refine x_goto (pc' := 29) rfl rfl ?_
  refine x_reti rfl rfl ?_
  refine sK_i (pc' := 58) rfl ?_
  refine x_istore (pc' := 60) (ls' := [_, _, _, _, _, _, _, _, _]) rfl rfl rfl rfl ?_
  refine x_iload (pc' := 62) rfl rfl rfl ?_
  refine x_iload (pc' := 64) rfl rfl rfl ?_
  refine x_aload_n (pc' := 65) rfl rfl rfl rfl rfl ?_
  refine x_iload (pc' := 67) rfl rfl rfl ?_
  refine x_iald (pc' := 68) (N := 6) (x := 0) rfl rfl rfl (sN_new (z_C_20 e)) (io_in (p := 1) (N := 6) (by decide) (by decide)) (Eq.trans (congrArg (sA (sNwA t 20 6) 20 7) (nn_io (p := 1) (by decide))) (Eq.trans rdAnwa (z_A_20_7_1 e))) ?_
  refine x_iadd (pc' := 69) (z := 0) rfl rfl (by decide) ?_
  refine x_ineg (pc' := 70) (z := 0) rfl rfl (by decide) ?_
  refine x_iload (pc' := 72) rfl rfl rfl ?_
  refine x_imul (pc' := 73) (z := 0) rfl rfl (by decide) ?_
  refine x_iload (pc' := 75) rfl rfl rfl ?_
  refine x_aload_n (pc' := 76) rfl rfl rfl rfl rfl ?_
  refine x_iload (pc' := 78) rfl rfl rfl ?_
  refine x_iconst (pc' := 79) rfl rfl ?_
  refine x_iadd (pc' := 80) (z := 4) rfl rfl (by decide) ?_
  refine x_iald (pc' := 81) (N := 6) (x := 0) rfl rfl rfl (sN_new (z_C_20 e)) (io_in (p := 4) (N := 6) (by decide) (by decide)) (Eq.trans (congrArg (sA (sNwA t 20 6) 20 7) (nn_io (p := 4) (by decide))) (Eq.trans rdAnwa (z_A_20_7_4 e))) ?_
  refine x_isub (pc' := 82) (z := 0) rfl rfl (by decide) ?_
  refine x_ineg (pc' := 83) (z := 0) rfl rfl (by decide) ?_
  refine x_iload (pc' := 85) rfl rfl rfl ?_
  refine x_imul (pc' := 86) (z := 0) rfl rfl (by decide) ?_
  refine x_max (pc' := 89) (z := 0) rfl rfl rfl (by decide) ?_
  refine x_iadd (pc' := 90) (z := 0) rfl rfl (by decide) ?_
  refine x_istore (pc' := 92) (ls' := [_, _, _, _, _, _, _, _, _]) rfl rfl rfl rfl ?_
  refine x_iinc (pc' := 95) (y := 2) (ls' := [_, _, _, _, _, _, _, _, _]) rfl rfl rfl rfl rfl ?_
  refine x_goto (pc' := 18) rfl rfl ?_
  refine x_iload (pc' := 20) rfl rfl rfl ?_
  refine x_aload_n (pc' := 21) rfl rfl rfl rfl rfl ?_
  refine x_gR (pc' := 24) (r := (some 0)) rfl rfl rfl (Eq.trans rdRnwa (z_R_320_0 e)) ?_
  refine x_alen (pc' := 25) (N := 3) rfl rfl rfl (Eq.trans (b := sN t _ _) rfl (z_N_25_0 e)) (?_ : X _ _ _ (.inl 3 :: _) _ _)
  refine x_icmp (a' := 98) (pc' := 28) (z := false) rfl rfl rfl (by decide) (fun h => by cases h) (fun _ => ?_)
  refine x_iload (pc' := 30) rfl rfl rfl ?_
  refine x_iconst (pc' := 31) rfl rfl ?_
  refine x_iadd (pc' := 32) (z := 5) rfl rfl (by decide) ?_
  refine x_aload_n (pc' := 33) rfl rfl rfl rfl rfl ?_
  refine x_alen (pc' := 34) (N := 6) rfl rfl rfl (sN_new (z_C_20 e)) (?_ : X _ _ _ (.inl 6 :: _) _ _)
  refine x_icmp (a' := 98) (pc' := 37) (z := false) rfl rfl rfl (by decide) (fun h => by cases h) (fun _ => ?_)
  refine x_aload_n (pc' := 38) rfl rfl rfl rfl rfl ?_
  refine x_aload_n (pc' := 39) rfl rfl rfl rfl rfl ?_
  refine x_gR (pc' := 42) (r := (some 0)) rfl rfl rfl (Eq.trans rdRnwa (z_R_320_0 e)) ?_
  refine x_iload (pc' := 44) rfl rfl rfl ?_
  refine x_aald (pc' := 45) (N := 3) (k' := 2) (r := (some 2)) rfl rfl rfl (Eq.trans (b := sN t _ _) rfl (z_N_25_0 e)) (io_in (p := 2) (N := 3) (by decide) (by decide)) (Eq.trans (congrArg (sE (sNwA t 20 6) 25 0) (nn_io (p := 2) (by decide))) (Eq.trans rdEnwa (z_E_25_0_2 e))) ?_
  refine x_cv (ls0 := [_, _, sJk]) (rest := []) rfl rfl rfl rfl rfl ?_
  refine x_aload_n (pc' := 1) rfl rfl rfl rfl rfl ?_
  refine x_gI (pc' := 4) (x := 2) rfl rfl rfl (Eq.trans rdInwa (z_I_128_2 e)) ?_
  refine x_istore_n (pc' := 5) (ls' := [_, _, _]) rfl rfl rfl rfl ?_
  refine x_iload_n (pc' := 6) rfl rfl rfl ?_
  refine x_if (a' := 27) (pc' := 9) (z := false) rfl rfl rfl (by decide) (fun h => by cases h) (fun _ => ?_)
  refine x_iload_n (pc' := 10) rfl rfl rfl ?_
  refine x_aload_n (pc' := 11) rfl rfl rfl rfl rfl ?_
  refine x_gR (pc' := 14) (r := (some (m + 1))) rfl rfl rfl (kMp (Cn_e e) hm).1 ?_
  refine x_alen (pc' := 15) (N := 3) rfl rfl rfl (kMp (Cn.nwa (Cn_e e)) hm).2.1 (?_ : X _ _ _ (.inl 3 :: _) _ _)
  refine x_icmp (a' := 27) (pc' := 18) (z := false) rfl rfl rfl (by decide) (fun h => by cases h) (fun _ => ?_)
  refine x_aload_n (pc' := 19) rfl rfl rfl rfl rfl ?_
  refine x_gR (pc' := 22) (r := (some (m + 1))) rfl rfl rfl (kMp (Cn_e e) hm).1 ?_
  refine x_iload_n (pc' := 23) rfl rfl rfl ?_
  refine x_iald (pc' := 24) (N := 3) (x := 0) rfl rfl rfl (kMp (Cn.nwa (Cn_e e)) hm).2.1 (io_in (p := 2) (N := 3) (by decide) (by decide)) (Eq.trans (congrArg (sA (sNwA t 20 6) 20 (m + 1)) (nn_io (p := 2) (by decide))) (Eq.trans rdAnwa (z_A_20_yy e _ _))) ?_
  refine x_goto (pc' := 28) rfl rfl ?_
  refine x_reti rfl rfl ?_
  refine sK_i (pc' := 48) rfl ?_
  refine x_istore (pc' := 50) (ls' := [_, _, _, _, _, _, _, _, _]) rfl rfl rfl rfl ?_
  refine x_aload_n (pc' := 51) rfl rfl rfl rfl rfl ?_
  refine x_iload (pc' := 53) rfl rfl rfl ?_
  refine x_iload (pc' := 55) rfl rfl rfl ?_
  refine x_cv (ls0 := [_, _, _, sJk]) (rest := []) rfl rfl rfl rfl rfl ?_
  refine x_iload_n (pc' := 1) rfl rfl rfl ?_
  refine x_iconst (pc' := 2) rfl rfl ?_
  refine x_imul (pc' := 3) (z := 12) rfl rfl (by decide) ?_
  refine x_iload_n (pc' := 4) rfl rfl rfl ?_
  refine x_iadd (pc' := 5) (z := 14) rfl rfl (by decide) ?_
  refine x_istore_n (pc' := 6) (ls' := [_, _, _, _]) rfl rfl rfl rfl ?_
  refine x_iload_n (pc' := 7) rfl rfl rfl ?_
  refine x_if (a' := 28) (pc' := 10) (z := false) rfl rfl rfl (by decide) (fun h => by cases h) (fun _ => ?_)
  refine x_iload_n (pc' := 11) rfl rfl rfl ?_
  refine x_aload_n (pc' := 12) rfl rfl rfl rfl rfl ?_
  refine x_gR (pc' := 15) (r := (some 0)) rfl rfl rfl (Eq.trans rdRnwa (z_R_323_0 e)) ?_
  refine x_alen (pc' := 16) (N := 18) rfl rfl rfl (kN_20_0 (Cn.nwa (Cn_e e))) (?_ : X _ _ _ (.inl 18 :: _) _ _)
  refine x_icmp (a' := 28) (pc' := 19) (z := false) rfl rfl rfl (by decide) (fun h => by cases h) (fun _ => ?_)
  refine x_aload_n (pc' := 20) rfl rfl rfl rfl rfl ?_
  refine x_gR (pc' := 23) (r := (some 0)) rfl rfl rfl (Eq.trans rdRnwa (z_R_323_0 e)) ?_
  refine x_iload_n (pc' := 24) rfl rfl rfl ?_
  refine x_iald (pc' := 25) (N := 18) (x := 0) rfl rfl rfl (kN_20_0 (Cn.nwa (Cn_e e))) (io_in (p := 14) (N := 18) (by decide) (by decide)) (Eq.trans (congrArg (sA (sNwA t 20 6) 20 0) (nn_io (p := 14) (by decide))) (Eq.trans rdAnwa (z_A_20_0_14 e))) ?_
  refine x_goto (pc' := 29) rfl rfl ?_
  refine x_reti rfl rfl ?_
  refine sK_i (pc' := 58) rfl ?_
  refine x_istore (pc' := 60) (ls' := [_, _, _, _, _, _, _, _, _]) rfl rfl rfl rfl ?_
  refine x_iload (pc' := 62) rfl rfl rfl ?_
  refine x_iload (pc' := 64) rfl rfl rfl ?_
  refine x_aload_n (pc' := 65) rfl rfl rfl rfl rfl ?_
  refine x_iload (pc' := 67) rfl rfl rfl ?_
  refine x_iald (pc' := 68) (N := 6) (x := 0) rfl rfl rfl (sN_new (z_C_20 e)) (io_in (p := 2) (N := 6) (by decide) (by decide)) (Eq.trans (congrArg (sA (sNwA t 20 6) 20 7) (nn_io (p := 2) (by decide))) (Eq.trans rdAnwa (z_A_20_7_2 e))) ?_
  refine x_iadd (pc' := 69) (z := 0) rfl rfl (by decide) ?_
  refine x_ineg (pc' := 70) (z := 0) rfl rfl (by decide) ?_
  refine x_iload (pc' := 72) rfl rfl rfl ?_
  refine x_imul (pc' := 73) (z := 0) rfl rfl (by decide) ?_
  refine x_iload (pc' := 75) rfl rfl rfl ?_
  refine x_aload_n (pc' := 76) rfl rfl rfl rfl rfl ?_
  refine x_iload (pc' := 78) rfl rfl rfl ?_
  refine x_iconst (pc' := 79) rfl rfl ?_
  refine x_iadd (pc' := 80) (z := 5) rfl rfl (by decide) ?_
  refine x_iald (pc' := 81) (N := 6) (x := 0) rfl rfl rfl (sN_new (z_C_20 e)) (io_in (p := 5) (N := 6) (by decide) (by decide)) (Eq.trans (congrArg (sA (sNwA t 20 6) 20 7) (nn_io (p := 5) (by decide))) (Eq.trans rdAnwa (z_A_20_7_5 e))) ?_
  refine x_isub (pc' := 82) (z := 0) rfl rfl (by decide) ?_
  refine x_ineg (pc' := 83) (z := 0) rfl rfl (by decide) ?_
  refine x_iload (pc' := 85) rfl rfl rfl ?_
  refine x_imul (pc' := 86) (z := 0) rfl rfl (by decide) ?_
  refine x_max (pc' := 89) (z := 0) rfl rfl rfl (by decide) ?_
  refine x_iadd (pc' := 90) (z := 0) rfl rfl (by decide) ?_
  refine x_istore (pc' := 92) (ls' := [_, _, _, _, _, _, _, _, _]) rfl rfl rfl rfl ?_
  refine x_iinc (pc' := 95) (y := 3) (ls' := [_, _, _, _, _, _, _, _, _]) rfl rfl rfl rfl rfl ?_
  refine x_goto (pc' := 18) rfl rfl ?_
  refine x_iload (pc' := 20) rfl rfl rfl ?_
  refine x_aload_n (pc' := 21) rfl rfl rfl rfl rfl ?_
  refine x_gR (pc' := 24) (r := (some 0)) rfl rfl rfl (Eq.trans rdRnwa (z_R_320_0 e)) ?_
  refine x_alen (pc' := 25) (N := 3) rfl rfl rfl (Eq.trans (b := sN t _ _) rfl (z_N_25_0 e)) (?_ : X _ _ _ (.inl 3 :: _) _ _)
  refine x_icmp (a' := 98) (pc' := 28) (z := true) rfl rfl rfl (by decide) (fun _ => ?_) (fun h => by cases h)
  refine x_iload_n (pc' := 99) rfl rfl rfl ?_
  refine x_iload (pc' := 101) rfl rfl rfl ?_
  refine x_max (pc' := 104) (z := 0) rfl rfl rfl (by decide) ?_
  refine x_istore_n (pc' := 105) (ls' := [_, _, _, _, _, _, _, _, _]) rfl rfl rfl rfl ?_
  refine x_iinc (pc' := 108) (y := 5) (ls' := [_, _, _, _, _, _, _, _, _]) rfl rfl rfl rfl rfl ?_
  refine x_goto (pc' := 5) rfl rfl ?_
  refine x_iload (pc' := 7) rfl rfl rfl ?_
  refine x_bipush (pc' := 9) rfl rfl ?_
  refine x_icmp (a' := 111) (pc' := 12) (z := false) rfl rfl rfl (by decide) (fun h => by cases h) (fun _ => ?_)
  refine x_iconst (pc' := 13) rfl rfl ?_
  refine x_istore (pc' := 15) (ls' := [_, _, _, _, _, _, _, _, _]) rfl rfl rfl rfl ?_
  refine x_iconst (pc' := 16) rfl rfl ?_
  refine x_istore (pc' := 18) (ls' := [_, _, _, _, _, _, _, _, _]) rfl rfl rfl rfl ?_
  refine x_iload (pc' := 20) rfl rfl rfl ?_
  refine x_aload_n (pc' := 21) rfl rfl rfl rfl rfl ?_
  refine x_gR (pc' := 24) (r := (some 0)) rfl rfl rfl (Eq.trans rdRnwa (z_R_320_0 e)) ?_
  refine x_alen (pc' := 25) (N := 3) rfl rfl rfl (Eq.trans (b := sN t _ _) rfl (z_N_25_0 e)) (?_ : X _ _ _ (.inl 3 :: _) _ _)
  refine x_icmp (a' := 98) (pc' := 28) (z := false) rfl rfl rfl (by decide) (fun h => by cases h) (fun _ => ?_)
  refine x_iload (pc' := 30) rfl rfl rfl ?_
  refine x_iconst (pc' := 31) rfl rfl ?_
  refine x_iadd (pc' := 32) (z := 3) rfl rfl (by decide) ?_
  refine x_aload_n (pc' := 33) rfl rfl rfl rfl rfl ?_
  refine x_alen (pc' := 34) (N := 6) rfl rfl rfl (sN_new (z_C_20 e)) (?_ : X _ _ _ (.inl 6 :: _) _ _)
  refine x_icmp (a' := 98) (pc' := 37) (z := false) rfl rfl rfl (by decide) (fun h => by cases h) (fun _ => ?_)
  refine x_aload_n (pc' := 38) rfl rfl rfl rfl rfl ?_
  refine x_aload_n (pc' := 39) rfl rfl rfl rfl rfl ?_
  refine x_gR (pc' := 42) (r := (some 0)) rfl rfl rfl (Eq.trans rdRnwa (z_R_320_0 e)) ?_
  refine x_iload (pc' := 44) rfl rfl rfl ?_
  refine x_aald (pc' := 45) (N := 3) (k' := 2) (r := (some 0)) rfl rfl rfl (Eq.trans (b := sN t _ _) rfl (z_N_25_0 e)) (io_in (p := 0) (N := 3) (by decide) (by decide)) (Eq.trans (congrArg (sE (sNwA t 20 6) 25 0) (nn_io (p := 0) (by decide))) (Eq.trans rdEnwa (z_E_25_0_0 e))) ?_
  refine x_cv (ls0 := [_, _, sJk]) (rest := []) rfl rfl rfl rfl rfl ?_
  refine x_aload_n (pc' := 1) rfl rfl rfl rfl rfl ?_
  refine x_gI (pc' := 4) (x := 0) rfl rfl rfl (Eq.trans rdInwa (z_I_128_0 e)) ?_
  refine x_istore_n (pc' := 5) (ls' := [_, _, _]) rfl rfl rfl rfl ?_
  refine x_iload_n (pc' := 6) rfl rfl rfl ?_
  refine x_if (a' := 27) (pc' := 9) (z := false) rfl rfl rfl (by decide) (fun h => by cases h) (fun _ => ?_)
  refine x_iload_n (pc' := 10) rfl rfl rfl ?_
  refine x_aload_n (pc' := 11) rfl rfl rfl rfl rfl ?_
  refine x_gR (pc' := 14) (r := (some (m + 1))) rfl rfl rfl (kMp (Cn_e e) hm).1 ?_
  refine x_alen (pc' := 15) (N := 3) rfl rfl rfl (kMp (Cn.nwa (Cn_e e)) hm).2.1 (?_ : X _ _ _ (.inl 3 :: _) _ _)
  refine x_icmp (a' := 27) (pc' := 18) (z := false) rfl rfl rfl (by decide) (fun h => by cases h) (fun _ => ?_)
  refine x_aload_n (pc' := 19) rfl rfl rfl rfl rfl ?_
  refine x_gR (pc' := 22) (r := (some (m + 1))) rfl rfl rfl (kMp (Cn_e e) hm).1 ?_
  refine x_iload_n (pc' := 23) rfl rfl rfl ?_
  refine x_iald (pc' := 24) (N := 3) (x := 0) rfl rfl rfl (kMp (Cn.nwa (Cn_e e)) hm).2.1 (io_in (p := 0) (N := 3) (by decide) (by decide)) (Eq.trans (congrArg (sA (sNwA t 20 6) 20 (m + 1)) (nn_io (p := 0) (by decide))) (Eq.trans rdAnwa (z_A_20_yy e _ _))) ?_
  refine x_goto (pc' := 28) rfl rfl ?_
  refine x_reti rfl rfl ?_
  refine sK_i (pc' := 48) rfl ?_
  refine x_istore (pc' := 50) (ls' := [_, _, _, _, _, _, _, _, _]) rfl rfl rfl rfl ?_
  refine x_aload_n (pc' := 51) rfl rfl rfl rfl rfl ?_
  refine x_iload (pc' := 53) rfl rfl rfl ?_
  refine x_iload (pc' := 55) rfl rfl rfl ?_
  refine x_cv (ls0 := [_, _, _, sJk]) (rest := []) rfl rfl rfl rfl rfl ?_
  refine x_iload_n (pc' := 1) rfl rfl rfl ?_
  refine x_iconst (pc' := 2) rfl rfl ?_
  refine x_imul (pc' := 3) (z := 15) rfl rfl (by decide) ?_
  refine x_iload_n (pc' := 4) rfl rfl rfl ?_
  refine x_iadd (pc' := 5) (z := 15) rfl rfl (by decide) ?_
  refine x_istore_n (pc' := 6) (ls' := [_, _, _, _]) rfl rfl rfl rfl ?_
  refine x_iload_n (pc' := 7) rfl rfl rfl ?_
  refine x_if (a' := 28) (pc' := 10) (z := false) rfl rfl rfl (by decide) (fun h => by cases h) (fun _ => ?_)
  refine x_iload_n (pc' := 11) rfl rfl rfl ?_
  refine x_aload_n (pc' := 12) rfl rfl rfl rfl rfl ?_
  refine x_gR (pc' := 15) (r := (some 0)) rfl rfl rfl (Eq.trans rdRnwa (z_R_323_0 e)) ?_
  refine x_alen (pc' := 16) (N := 18) rfl rfl rfl (kN_20_0 (Cn.nwa (Cn_e e))) (?_ : X _ _ _ (.inl 18 :: _) _ _)
  refine x_icmp (a' := 28) (pc' := 19) (z := false) rfl rfl rfl (by decide) (fun h => by cases h) (fun _ => ?_)
  refine x_aload_n (pc' := 20) rfl rfl rfl rfl rfl ?_
  refine x_gR (pc' := 23) (r := (some 0)) rfl rfl rfl (Eq.trans rdRnwa (z_R_323_0 e)) ?_
  refine x_iload_n (pc' := 24) rfl rfl rfl ?_
  refine x_iald (pc' := 25) (N := 18) (x := 0) rfl rfl rfl (kN_20_0 (Cn.nwa (Cn_e e))) (io_in (p := 15) (N := 18) (by decide) (by decide)) (Eq.trans (congrArg (sA (sNwA t 20 6) 20 0) (nn_io (p := 15) (by decide))) (Eq.trans rdAnwa (z_A_20_0_15 e))) ?_
  refine x_goto (pc' := 29) rfl rfl ?_
  refine x_reti rfl rfl ?_
  refine sK_i (pc' := 58) rfl ?_
  refine x_istore (pc' := 60) (ls' := [_, _, _, _, _, _, _, _, _]) rfl rfl rfl rfl ?_
  refine x_iload (pc' := 62) rfl rfl rfl ?_
  refine x_iload (pc' := 64) rfl rfl rfl ?_
  refine x_aload_n (pc' := 65) rfl rfl rfl rfl rfl ?_
  refine x_iload (pc' := 67) rfl rfl rfl ?_
  refine x_iald (pc' := 68) (N := 6) (x := 0) rfl rfl rfl (sN_new (z_C_20 e)) (io_in (p := 0) (N := 6) (by decide) (by decide)) (Eq.trans (congrArg (sA (sNwA t 20 6) 20 7) (nn_io (p := 0) (by decide))) (Eq.trans rdAnwa (z_A_20_7_0 e))) ?_
  refine x_iadd (pc' := 69) (z := 0) rfl rfl (by decide) ?_
  refine x_ineg (pc' := 70) (z := 0) rfl rfl (by decide) ?_
  refine x_iload (pc' := 72) rfl rfl rfl ?_
  refine x_imul (pc' := 73) (z := 0) rfl rfl (by decide) ?_
  refine x_iload (pc' := 75) rfl rfl rfl ?_
  refine x_aload_n (pc' := 76) rfl rfl rfl rfl rfl ?_
  refine x_iload (pc' := 78) rfl rfl rfl ?_
  refine x_iconst (pc' := 79) rfl rfl ?_
  refine x_iadd (pc' := 80) (z := 3) rfl rfl (by decide) ?_
  refine x_iald (pc' := 81) (N := 6) (x := 0) rfl rfl rfl (sN_new (z_C_20 e)) (io_in (p := 3) (N := 6) (by decide) (by decide)) (Eq.trans (congrArg (sA (sNwA t 20 6) 20 7) (nn_io (p := 3) (by decide))) (Eq.trans rdAnwa (z_A_20_7_3 e))) ?_
  refine x_isub (pc' := 82) (z := 0) rfl rfl (by decide) ?_
  refine x_ineg (pc' := 83) (z := 0) rfl rfl (by decide) ?_
  refine x_iload (pc' := 85) rfl rfl rfl ?_
  refine x_imul (pc' := 86) (z := 0) rfl rfl (by decide) ?_
  refine x_max (pc' := 89) (z := 0) rfl rfl rfl (by decide) ?_
  refine x_iadd (pc' := 90) (z := 0) rfl rfl (by decide) ?_
  refine x_istore (pc' := 92) (ls' := [_, _, _, _, _, _, _, _, _]) rfl rfl rfl rfl ?_
  refine x_iinc (pc' := 95) (y := 1) (ls' := [_, _, _, _, _, _, _, _, _]) rfl rfl rfl rfl rfl ?_
  refine x_goto (pc' := 18) rfl rfl ?_
  refine x_iload (pc' := 20) rfl rfl rfl ?_
  refine x_aload_n (pc' := 21) rfl rfl rfl rfl rfl ?_
  refine x_gR (pc' := 24) (r := (some 0)) rfl rfl rfl (Eq.trans rdRnwa (z_R_320_0 e)) ?_
  refine x_alen (pc' := 25) (N := 3) rfl rfl rfl (Eq.trans (b := sN t _ _) rfl (z_N_25_0 e)) (?_ : X _ _ _ (.inl 3 :: _) _ _)
  refine x_icmp (a' := 98) (pc' := 28) (z := false) rfl rfl rfl (by decide) (fun h => by cases h) (fun _ => ?_)
  refine x_iload (pc' := 30) rfl rfl rfl ?_
  refine x_iconst (pc' := 31) rfl rfl ?_
  refine x_iadd (pc' := 32) (z := 4) rfl rfl (by decide) ?_
  refine x_aload_n (pc' := 33) rfl rfl rfl rfl rfl ?_
  refine x_alen (pc' := 34) (N := 6) rfl rfl rfl (sN_new (z_C_20 e)) (?_ : X _ _ _ (.inl 6 :: _) _ _)
  refine x_icmp (a' := 98) (pc' := 37) (z := false) rfl rfl rfl (by decide) (fun h => by cases h) (fun _ => ?_)
  refine x_aload_n (pc' := 38) rfl rfl rfl rfl rfl ?_
  refine x_aload_n (pc' := 39) rfl rfl rfl rfl rfl ?_
  refine x_gR (pc' := 42) (r := (some 0)) rfl rfl rfl (Eq.trans rdRnwa (z_R_320_0 e)) ?_
  refine x_iload (pc' := 44) rfl rfl rfl ?_
  refine x_aald (pc' := 45) (N := 3) (k' := 2) (r := (some 1)) rfl rfl rfl (Eq.trans (b := sN t _ _) rfl (z_N_25_0 e)) (io_in (p := 1) (N := 3) (by decide) (by decide)) (Eq.trans (congrArg (sE (sNwA t 20 6) 25 0) (nn_io (p := 1) (by decide))) (Eq.trans rdEnwa (z_E_25_0_1 e))) ?_
  refine x_cv (ls0 := [_, _, sJk]) (rest := []) rfl rfl rfl rfl rfl ?_
  refine x_aload_n (pc' := 1) rfl rfl rfl rfl rfl ?_
  refine x_gI (pc' := 4) (x := 1) rfl rfl rfl (Eq.trans rdInwa (z_I_128_1 e)) ?_
  refine x_istore_n (pc' := 5) (ls' := [_, _, _]) rfl rfl rfl rfl ?_
  refine x_iload_n (pc' := 6) rfl rfl rfl ?_
  refine x_if (a' := 27) (pc' := 9) (z := false) rfl rfl rfl (by decide) (fun h => by cases h) (fun _ => ?_)
  refine x_iload_n (pc' := 10) rfl rfl rfl ?_
  refine x_aload_n (pc' := 11) rfl rfl rfl rfl rfl ?_
  refine x_gR (pc' := 14) (r := (some (m + 1))) rfl rfl rfl (kMp (Cn_e e) hm).1 ?_
  refine x_alen (pc' := 15) (N := 3) rfl rfl rfl (kMp (Cn.nwa (Cn_e e)) hm).2.1 (?_ : X _ _ _ (.inl 3 :: _) _ _)
  refine x_icmp (a' := 27) (pc' := 18) (z := false) rfl rfl rfl (by decide) (fun h => by cases h) (fun _ => ?_)
  refine x_aload_n (pc' := 19) rfl rfl rfl rfl rfl ?_
  refine x_gR (pc' := 22) (r := (some (m + 1))) rfl rfl rfl (kMp (Cn_e e) hm).1 ?_
  refine x_iload_n (pc' := 23) rfl rfl rfl ?_
  refine x_iald (pc' := 24) (N := 3) (x := 0) rfl rfl rfl (kMp (Cn.nwa (Cn_e e)) hm).2.1 (io_in (p := 1) (N := 3) (by decide) (by decide)) (Eq.trans (congrArg (sA (sNwA t 20 6) 20 (m + 1)) (nn_io (p := 1) (by decide))) (Eq.trans rdAnwa (z_A_20_yy e _ _))) ?_
  refine x_goto (pc' := 28) rfl rfl ?_
  refine x_reti rfl rfl ?_
  refine sK_i (pc' := 48) rfl ?_
  refine x_istore (pc' := 50) (ls' := [_, _, _, _, _, _, _, _, _]) rfl rfl rfl rfl ?_
  refine x_aload_n (pc' := 51) rfl rfl rfl rfl rfl ?_
  refine x_iload (pc' := 53) rfl rfl rfl ?_
  refine x_iload (pc' := 55) rfl rfl rfl ?_
  refine x_cv (ls0 := [_, _, _, sJk]) (rest := []) rfl rfl rfl rfl rfl ?_
  refine x_iload_n (pc' := 1) rfl rfl rfl ?_
  refine x_iconst (pc' := 2) rfl rfl ?_
  refine x_imul (pc' := 3) (z := 15) rfl rfl (by decide) ?_
  refine x_iload_n (pc' := 4) rfl rfl rfl ?_
  refine x_iadd (pc' := 5) (z := 16) rfl rfl (by decide) ?_
  refine x_istore_n (pc' := 6) (ls' := [_, _, _, _]) rfl rfl rfl rfl ?_
  refine x_iload_n (pc' := 7) rfl rfl rfl ?_
  refine x_if (a' := 28) (pc' := 10) (z := false) rfl rfl rfl (by decide) (fun h => by cases h) (fun _ => ?_)
  refine x_iload_n (pc' := 11) rfl rfl rfl ?_
  refine x_aload_n (pc' := 12) rfl rfl rfl rfl rfl ?_
  refine x_gR (pc' := 15) (r := (some 0)) rfl rfl rfl (Eq.trans rdRnwa (z_R_323_0 e)) ?_
  refine x_alen (pc' := 16) (N := 18) rfl rfl rfl (kN_20_0 (Cn.nwa (Cn_e e))) (?_ : X _ _ _ (.inl 18 :: _) _ _)
  refine x_icmp (a' := 28) (pc' := 19) (z := false) rfl rfl rfl (by decide) (fun h => by cases h) (fun _ => ?_)
  refine x_aload_n (pc' := 20) rfl rfl rfl rfl rfl ?_
  refine x_gR (pc' := 23) (r := (some 0)) rfl rfl rfl (Eq.trans rdRnwa (z_R_323_0 e)) ?_
  refine x_iload_n (pc' := 24) rfl rfl rfl ?_
  refine x_iald (pc' := 25) (N := 18) (x := 0) rfl rfl rfl (kN_20_0 (Cn.nwa (Cn_e e))) (io_in (p := 16) (N := 18) (by decide) (by decide)) (Eq.trans (congrArg (sA (sNwA t 20 6) 20 0) (nn_io (p := 16) (by decide))) (Eq.trans rdAnwa (z_A_20_0_16 e))) ?_
  refine x_goto (pc' := 29) rfl rfl ?_
  refine x_reti rfl rfl ?_
  refine sK_i (pc' := 58) rfl ?_
  refine x_istore (pc' := 60) (ls' := [_, _, _, _, _, _, _, _, _]) rfl rfl rfl rfl ?_
  refine x_iload (pc' := 62) rfl rfl rfl ?_
  refine x_iload (pc' := 64) rfl rfl rfl ?_
  refine x_aload_n (pc' := 65) rfl rfl rfl rfl rfl ?_
  refine x_iload (pc' := 67) rfl rfl rfl ?_
  refine x_iald (pc' := 68) (N := 6) (x := 0) rfl rfl rfl (sN_new (z_C_20 e)) (io_in (p := 1) (N := 6) (by decide) (by decide)) (Eq.trans (congrArg (sA (sNwA t 20 6) 20 7) (nn_io (p := 1) (by decide))) (Eq.trans rdAnwa (z_A_20_7_1 e))) ?_
  refine x_iadd (pc' := 69) (z := 0) rfl rfl (by decide) ?_
  refine x_ineg (pc' := 70) (z := 0) rfl rfl (by decide) ?_
  refine x_iload (pc' := 72) rfl rfl rfl ?_
  refine x_imul (pc' := 73) (z := 0) rfl rfl (by decide) ?_
  refine x_iload (pc' := 75) rfl rfl rfl ?_
  refine x_aload_n (pc' := 76) rfl rfl rfl rfl rfl ?_
  refine x_iload (pc' := 78) rfl rfl rfl ?_
  refine x_iconst (pc' := 79) rfl rfl ?_
  refine x_iadd (pc' := 80) (z := 4) rfl rfl (by decide) ?_
  refine x_iald (pc' := 81) (N := 6) (x := 0) rfl rfl rfl (sN_new (z_C_20 e)) (io_in (p := 4) (N := 6) (by decide) (by decide)) (Eq.trans (congrArg (sA (sNwA t 20 6) 20 7) (nn_io (p := 4) (by decide))) (Eq.trans rdAnwa (z_A_20_7_4 e))) ?_
  refine x_isub (pc' := 82) (z := 0) rfl rfl (by decide) ?_
  refine x_ineg (pc' := 83) (z := 0) rfl rfl (by decide) ?_
  refine x_iload (pc' := 85) rfl rfl rfl ?_
  refine x_imul (pc' := 86) (z := 0) rfl rfl (by decide) ?_
  refine x_max (pc' := 89) (z := 0) rfl rfl rfl (by decide) ?_
  refine x_iadd (pc' := 90) (z := 0) rfl rfl (by decide) ?_
  refine x_istore (pc' := 92) (ls' := [_, _, _, _, _, _, _, _, _]) rfl rfl rfl rfl ?_
  refine x_iinc (pc' := 95) (y := 2) (ls' := [_, _, _, _, _, _, _, _, _]) rfl rfl rfl rfl rfl ?_
  refine x_goto (pc' := 18) rfl rfl ?_
  refine x_iload (pc' := 20) rfl rfl rfl ?_
  refine x_aload_n (pc' := 21) rfl rfl rfl rfl rfl ?_
  refine x_gR (pc' := 24) (r := (some 0)) rfl rfl rfl (Eq.trans rdRnwa (z_R_320_0 e)) ?_
  refine x_alen (pc' := 25) (N := 3) rfl rfl rfl (Eq.trans (b := sN t _ _) rfl (z_N_25_0 e)) (?_ : X _ _ _ (.inl 3 :: _) _ _)
  refine x_icmp (a' := 98) (pc' := 28) (z := false) rfl rfl rfl (by decide) (fun h => by cases h) (fun _ => ?_)
  refine x_iload (pc' := 30) rfl rfl rfl ?_
  refine x_iconst (pc' := 31) rfl rfl ?_
  refine x_iadd (pc' := 32) (z := 5) rfl rfl (by decide) ?_
  refine x_aload_n (pc' := 33) rfl rfl rfl rfl rfl ?_
  refine x_alen (pc' := 34) (N := 6) rfl rfl rfl (sN_new (z_C_20 e)) (?_ : X _ _ _ (.inl 6 :: _) _ _)
  refine x_icmp (a' := 98) (pc' := 37) (z := false) rfl rfl rfl (by decide) (fun h => by cases h) (fun _ => ?_)
  refine x_aload_n (pc' := 38) rfl rfl rfl rfl rfl ?_
  refine x_aload_n (pc' := 39) rfl rfl rfl rfl rfl ?_
  refine x_gR (pc' := 42) (r := (some 0)) rfl rfl rfl (Eq.trans rdRnwa (z_R_320_0 e)) ?_
  refine x_iload (pc' := 44) rfl rfl rfl ?_
  refine x_aald (pc' := 45) (N := 3) (k' := 2) (r := (some 2)) rfl rfl rfl (Eq.trans (b := sN t _ _) rfl (z_N_25_0 e)) (io_in (p := 2) (N := 3) (by decide) (by decide)) (Eq.trans (congrArg (sE (sNwA t 20 6) 25 0) (nn_io (p := 2) (by decide))) (Eq.trans rdEnwa (z_E_25_0_2 e))) ?_
  refine x_cv (ls0 := [_, _, sJk]) (rest := []) rfl rfl rfl rfl rfl ?_
  refine x_aload_n (pc' := 1) rfl rfl rfl rfl rfl ?_
  refine x_gI (pc' := 4) (x := 2) rfl rfl rfl (Eq.trans rdInwa (z_I_128_2 e)) ?_
  refine x_istore_n (pc' := 5) (ls' := [_, _, _]) rfl rfl rfl rfl ?_
  refine x_iload_n (pc' := 6) rfl rfl rfl ?_
  refine x_if (a' := 27) (pc' := 9) (z := false) rfl rfl rfl (by decide) (fun h => by cases h) (fun _ => ?_)
  refine x_iload_n (pc' := 10) rfl rfl rfl ?_
  refine x_aload_n (pc' := 11) rfl rfl rfl rfl rfl ?_
  refine x_gR (pc' := 14) (r := (some (m + 1))) rfl rfl rfl (kMp (Cn_e e) hm).1 ?_
  refine x_alen (pc' := 15) (N := 3) rfl rfl rfl (kMp (Cn.nwa (Cn_e e)) hm).2.1 (?_ : X _ _ _ (.inl 3 :: _) _ _)
  refine x_icmp (a' := 27) (pc' := 18) (z := false) rfl rfl rfl (by decide) (fun h => by cases h) (fun _ => ?_)
  refine x_aload_n (pc' := 19) rfl rfl rfl rfl rfl ?_
  refine x_gR (pc' := 22) (r := (some (m + 1))) rfl rfl rfl (kMp (Cn_e e) hm).1 ?_
  refine x_iload_n (pc' := 23) rfl rfl rfl ?_
  refine x_iald (pc' := 24) (N := 3) (x := 0) rfl rfl rfl (kMp (Cn.nwa (Cn_e e)) hm).2.1 (io_in (p := 2) (N := 3) (by decide) (by decide)) (Eq.trans (congrArg (sA (sNwA t 20 6) 20 (m + 1)) (nn_io (p := 2) (by decide))) (Eq.trans rdAnwa (z_A_20_yy e _ _))) ?_
  refine x_goto (pc' := 28) rfl rfl ?_
  refine x_reti rfl rfl ?_
  refine sK_i (pc' := 48) rfl ?_
  refine x_istore (pc' := 50) (ls' := [_, _, _, _, _, _, _, _, _]) rfl rfl rfl rfl ?_
  refine x_aload_n (pc' := 51) rfl rfl rfl rfl rfl ?_
  refine x_iload (pc' := 53) rfl rfl rfl ?_
  refine x_iload (pc' := 55) rfl rfl rfl ?_
  refine x_cv (ls0 := [_, _, _, sJk]) (rest := []) rfl rfl rfl rfl rfl ?_
  refine x_iload_n (pc' := 1) rfl rfl rfl ?_
  refine x_iconst (pc' := 2) rfl rfl ?_
  refine x_imul (pc' := 3) (z := 15) rfl rfl (by decide) ?_
  refine x_iload_n (pc' := 4) rfl rfl rfl ?_
  refine x_iadd (pc' := 5) (z := 17) rfl rfl (by decide) ?_
  refine x_istore_n (pc' := 6) (ls' := [_, _, _, _]) rfl rfl rfl rfl ?_
  refine x_iload_n (pc' := 7) rfl rfl rfl ?_
  refine x_if (a' := 28) (pc' := 10) (z := false) rfl rfl rfl (by decide) (fun h => by cases h) (fun _ => ?_)
  refine x_iload_n (pc' := 11) rfl rfl rfl ?_
  refine x_aload_n (pc' := 12) rfl rfl rfl rfl rfl ?_
  refine x_gR (pc' := 15) (r := (some 0)) rfl rfl rfl (Eq.trans rdRnwa (z_R_323_0 e)) ?_
  refine x_alen (pc' := 16) (N := 18) rfl rfl rfl (kN_20_0 (Cn.nwa (Cn_e e))) (?_ : X _ _ _ (.inl 18 :: _) _ _)
  refine x_icmp (a' := 28) (pc' := 19) (z := false) rfl rfl rfl (by decide) (fun h => by cases h) (fun _ => ?_)
  refine x_aload_n (pc' := 20) rfl rfl rfl rfl rfl ?_
  refine x_gR (pc' := 23) (r := (some 0)) rfl rfl rfl (Eq.trans rdRnwa (z_R_323_0 e)) ?_
  refine x_iload_n (pc' := 24) rfl rfl rfl ?_
  refine x_iald (pc' := 25) (N := 18) (x := 0) rfl rfl rfl (kN_20_0 (Cn.nwa (Cn_e e))) (io_in (p := 17) (N := 18) (by decide) (by decide)) (Eq.trans (congrArg (sA (sNwA t 20 6) 20 0) (nn_io (p := 17) (by decide))) (Eq.trans rdAnwa (z_A_20_0_17 e))) ?_
  refine x_goto (pc' := 29) rfl rfl ?_
  refine x_reti rfl rfl ?_
  refine sK_i (pc' := 58) rfl ?_
  refine x_istore (pc' := 60) (ls' := [_, _, _, _, _, _, _, _, _]) rfl rfl rfl rfl ?_
  refine x_iload (pc' := 62) rfl rfl rfl ?_
  refine x_iload (pc' := 64) rfl rfl rfl ?_
  refine x_aload_n (pc' := 65) rfl rfl rfl rfl rfl ?_
  refine x_iload (pc' := 67) rfl rfl rfl ?_
  refine x_iald (pc' := 68) (N := 6) (x := 0) rfl rfl rfl (sN_new (z_C_20 e)) (io_in (p := 2) (N := 6) (by decide) (by decide)) (Eq.trans (congrArg (sA (sNwA t 20 6) 20 7) (nn_io (p := 2) (by decide))) (Eq.trans rdAnwa (z_A_20_7_2 e))) ?_
  refine x_iadd (pc' := 69) (z := 0) rfl rfl (by decide) ?_
  refine x_ineg (pc' := 70) (z := 0) rfl rfl (by decide) ?_
  refine x_iload (pc' := 72) rfl rfl rfl ?_
  refine x_imul (pc' := 73) (z := 0) rfl rfl (by decide) ?_
  refine x_iload (pc' := 75) rfl rfl rfl ?_
  refine x_aload_n (pc' := 76) rfl rfl rfl rfl rfl ?_
  refine x_iload (pc' := 78) rfl rfl rfl ?_
  refine x_iconst (pc' := 79) rfl rfl ?_
  refine x_iadd (pc' := 80) (z := 5) rfl rfl (by decide) ?_
  refine x_iald (pc' := 81) (N := 6) (x := 0) rfl rfl rfl (sN_new (z_C_20 e)) (io_in (p := 5) (N := 6) (by decide) (by decide)) (Eq.trans (congrArg (sA (sNwA t 20 6) 20 7) (nn_io (p := 5) (by decide))) (Eq.trans rdAnwa (z_A_20_7_5 e))) ?_
  refine x_isub (pc' := 82) (z := 0) rfl rfl (by decide) ?_
  refine x_ineg (pc' := 83) (z := 0) rfl rfl (by decide) ?_
  refine x_iload (pc' := 85) rfl rfl rfl ?_
  refine x_imul (pc' := 86) (z := 0) rfl rfl (by decide) ?_
  refine x_max (pc' := 89) (z := 0) rfl rfl rfl (by decide) ?_
  refine x_iadd (pc' := 90) (z := 0) rfl rfl (by decide) ?_
  refine x_istore (pc' := 92) (ls' := [_, _, _, _, _, _, _, _, _]) rfl rfl rfl rfl ?_
  refine x_iinc (pc' := 95) (y := 3) (ls' := [_, _, _, _, _, _, _, _, _]) rfl rfl rfl rfl rfl ?_
  refine x_goto (pc' := 18) rfl rfl ?_
  refine x_iload (pc' := 20) rfl rfl rfl ?_
  refine x_aload_n (pc' := 21) rfl rfl rfl rfl rfl ?_
  refine x_gR (pc' := 24) (r := (some 0)) rfl rfl rfl (Eq.trans rdRnwa (z_R_320_0 e)) ?_
  refine x_alen (pc' := 25) (N := 3) rfl rfl rfl (Eq.trans (b := sN t _ _) rfl (z_N_25_0 e)) (?_ : X _ _ _ (.inl 3 :: _) _ _)
  refine x_icmp (a' := 98) (pc' := 28) (z := true) rfl rfl rfl (by decide) (fun _ => ?_) (fun h => by cases h)
  refine x_iload_n (pc' := 99) rfl rfl rfl ?_
  refine x_iload (pc' := 101) rfl rfl rfl ?_
  refine x_max (pc' := 104) (z := 0) rfl rfl rfl (by decide) ?_
  refine x_istore_n (pc' := 105) (ls' := [_, _, _, _, _, _, _, _, _]) rfl rfl rfl rfl ?_
  refine x_iinc (pc' := 108) (y := 6) (ls' := [_, _, _, _, _, _, _, _, _]) rfl rfl rfl rfl rfl ?_
  refine x_goto (pc' := 5) rfl rfl ?_
  refine x_iload (pc' := 7) rfl rfl rfl ?_
  refine x_bipush (pc' := 9) rfl rfl ?_
  refine x_icmp (a' := 111) (pc' := 12) (z := true) rfl rfl rfl (by decide) (fun _ => ?_) (fun h => by cases h)
  refine x_iload_n (pc' := 112) rfl rfl rfl ?_
  refine x_reti rfl rfl ?_
  refine sK_i (pc' := 17) rfl ?_
  refine x_reti rfl rfl ?_
  refine sK_i (pc' := 9) rfl ?_
  refine x_reti rfl rfl ?_
  refine sK_i (pc' := 7) rfl ?_
  refine x_i2l (pc' := 8) (z := (0 : Int64)) rfl rfl (by decide) ?_
  refine x_last (pc' := 9) (N := 1) (p := 0) rfl rfl (Eq.trans (b := sN t _ _) rfl (z_N_23_0 e)) (io_in (p := 0) (N := 1) (by decide) (by decide)) (nn_io (p := 0) (by decide)) ?_
  refine x_goto (pc' := 15) rfl rfl ?_
  refine x_iconst (pc' := 16) rfl rfl ?_
  refine x_reti rfl rfl ?_
  refine sK_i (pc' := 2748) rfl ?_
  refine x_istore (pc' := 2750) (ls' := [_, _, _, _, _, _, _]) rfl rfl rfl rfl ?_
  refine x_aload_n (pc' := 2751) rfl rfl rfl rfl rfl ?_
  refine x_aload_n (pc' := 2752) rfl rfl rfl rfl rfl ?_
  refine x_iload (pc' := 2754) rfl rfl rfl ?_
  refine x_iconst (pc' := 2755) rfl rfl ?_
  refine x_iadd (pc' := 2756) (z := 1) rfl rfl (by decide) ?_
  refine x_iald (pc' := 2757) (N := 7) (x := (io m)) rfl rfl rfl (Eq.trans (b := sN t _ _) rfl (z_N_29_0 e)) (io_in (p := 1) (N := 7) (by decide) (by decide)) (Eq.trans (congrArg (sA (sLw (sNwA t 20 6) 23 0 0 (0 : Int64)) 29 0) (nn_io (p := 1) (by decide))) (Eq.trans rdAL (Eq.trans rdAnwa (Eq.trans (z_A_29_0_1 e) e0)))) ?_
  refine x_cv (ls0 := [_, _]) (rest := []) rfl rfl rfl rfl rfl ?_
  refine x_aload_n (pc' := 1) rfl rfl rfl rfl rfl ?_
  refine x_iload_n (pc' := 2) rfl rfl rfl ?_
  refine x_cv (ls0 := [_, _]) (rest := []) rfl rfl rfl rfl rfl ?_
  refine x_aload_n (pc' := 1) rfl rfl rfl rfl rfl ?_
  refine x_iload_n (pc' := 2) rfl rfl rfl ?_
  refine x_cs (ls0 := [_]) (rest := [_]) rfl rfl rfl rfl ?_
  refine x_iload_n (pc' := 1) rfl rfl rfl ?_
  refine x_iconst (pc' := 2) rfl rfl ?_
  refine x_iconst (pc' := 3) rfl rfl ?_
  refine x_cs (ls0 := [_, _, _]) (rest := []) rfl rfl rfl rfl ?_
  refine x_iload_n (pc' := 1) rfl rfl rfl ?_
  refine x_iload_n (pc' := 2) rfl rfl rfl ?_
  refine x_icmp (a' := 14) (pc' := 5) (z := decide (m < 0)) rfl rfl rfl (ic_lt (p := m) (q := 0) (Nat.lt_trans hm (by decide)) (by decide)) (fun h => absurd (of_decide_eq_true h) (by first | decide | omega | simp)) (fun _ => ?_)
  refine x_iload_n (pc' := 6) rfl rfl rfl ?_
  refine x_iload_n (pc' := 7) rfl rfl rfl ?_
  refine x_icmp (a' := 14) (pc' := 10) (z := decide (5 < m)) rfl rfl rfl (ic_gt (p := m) (q := 5) (Nat.lt_trans hm (by decide)) (by decide)) (fun h => absurd (of_decide_eq_true h) (fun z => absurd hm (Nat.not_lt.mpr z))) (fun _ => ?_)
  refine x_iconst (pc' := 11) rfl rfl ?_
  refine x_goto (pc' := 15) rfl rfl ?_
  refine x_retz (z := true) rfl rfl ?_
  refine sK_i (pc' := 6) rfl ?_
  refine x_retz (z := true) rfl rfl ?_
  refine sK_i (pc' := 5) rfl ?_
  refine x_if (a' := 12) (pc' := 8) (z := false) rfl rfl rfl (by decide) (fun h => by cases h) (fun _ => ?_)
  refine x_iconst (pc' := 9) rfl rfl ?_
  refine x_goto (pc' := 13) rfl rfl ?_
  refine x_cv (ls0 := [_, _]) (rest := []) rfl rfl rfl rfl rfl ?_
  refine x_aload_n (pc' := 1) rfl rfl rfl rfl rfl ?_
  refine x_iload_n (pc' := 2) rfl rfl rfl ?_
  refine x_pI (pc' := 5) rfl rfl rfl ?_
  refine x_iload_n (pc' := 6) rfl rfl rfl ?_
  refine x_if (a' := 13) (pc' := 9) (z := false) rfl rfl rfl (by decide) (fun h => by cases h) (fun _ => ?_)
  refine x_iconst (pc' := 10) rfl rfl ?_
  refine x_goto (pc' := 14) rfl rfl ?_
  refine x_retz (z := true) rfl rfl ?_
  refine sK_i (pc' := 16) rfl ?_
  refine x_retz (z := true) rfl rfl ?_
  refine sK_i (pc' := 5) rfl ?_
  refine x_if (a' := 16) (pc' := 8) (z := false) rfl rfl rfl (by decide) (fun h => by cases h) (fun _ => ?_)
  refine x_aload_n (pc' := 9) rfl rfl rfl rfl rfl ?_
  refine x_iload_n (pc' := 10) rfl rfl rfl ?_
  refine x_cv (ls0 := [_, _, sJk, sJk, sJk]) (rest := []) rfl rfl rfl rfl rfl ?_
  refine x_iconst (pc' := 1) rfl rfl ?_
  refine x_istore_n (pc' := 2) (ls' := [_, _, _, _, _]) rfl rfl rfl rfl ?_
  refine x_iconst (pc' := 3) rfl rfl ?_
  refine x_istore_n (pc' := 4) (ls' := [_, _, _, _, _]) rfl rfl rfl rfl ?_
  refine x_iload_n (pc' := 5) rfl rfl rfl ?_
  refine x_bipush (pc' := 7) rfl rfl ?_
  refine x_icmp (a' := 56) (pc' := 10) (z := false) rfl rfl rfl (by decide) (fun h => by cases h) (fun _ => ?_)
  refine x_aload_n (pc' := 11) rfl rfl rfl rfl rfl ?_
  refine x_aload_n (pc' := 12) rfl rfl rfl rfl rfl ?_
  refine x_iload_n (pc' := 13) rfl rfl rfl ?_
  refine x_iconst (pc' := 14) rfl rfl ?_
  refine x_iload_n (pc' := 15) rfl rfl rfl ?_
  refine x_cv (ls0 := [_, _, _, _, sJk, sJk]) (rest := [_]) rfl rfl rfl rfl rfl ?_
  refine x_iload_n (pc' := 1) rfl rfl rfl ?_
  refine x_iload_n (pc' := 2) rfl rfl rfl ?_
  refine x_ishr (pc' := 3) (z := 0) rfl rfl (by decide) ?_
  refine x_iconst (pc' := 4) rfl rfl ?_
  refine x_iand (pc' := 5) (z := 0) rfl rfl (by decide) ?_
  refine x_iconst (pc' := 6) rfl rfl ?_
  refine x_icmp (a' := 13) (pc' := 9) (z := true) rfl rfl rfl (by decide) (fun _ => ?_) (fun h => by cases h)
  refine x_iconst (pc' := 14) rfl rfl ?_
  refine x_istore (pc' := 16) (ls' := [_, _, _, _, _, _]) rfl rfl rfl rfl ?_
  refine x_aload_n (pc' := 17) rfl rfl rfl rfl rfl ?_
  refine x_iload_n (pc' := 18) rfl rfl rfl ?_
  refine x_iload_n (pc' := 19) rfl rfl rfl ?_
  refine x_iload (pc' := 21) rfl rfl rfl ?_
  refine x_cv (ls0 := [_, _, _, _, sJk, sJk, sJk, sJk, sJk]) (rest := []) rfl rfl rfl rfl rfl ?_
  refine x_iconst (pc' := 1) rfl rfl ?_
  refine x_istore (pc' := 3) (ls' := [_, _, _, _, _, _, _, _, _]) rfl rfl rfl rfl ?_
  refine x_iconst (pc' := 4) rfl rfl ?_
  refine x_istore (pc' := 6) (ls' := [_, _, _, _, _, _, _, _, _]) rfl rfl rfl rfl ?_
  refine x_iload (pc' := 8) rfl rfl rfl ?_
  refine x_aload_n (pc' := 9) rfl rfl rfl rfl rfl ?_
  refine x_gI (pc' := 12) (x := 0) rfl rfl rfl (Eq.trans (rdI_F rfl) (Eq.trans rdIL (Eq.trans rdInwa (z_I_786_0 e)))) ?_
  refine x_icmp (a' := 190) (pc' := 15) (z := true) rfl rfl rfl (by decide) (fun _ => ?_) (fun h => by cases h)
  refine x_iload (pc' := 192) rfl rfl rfl ?_
  refine x_reti rfl rfl ?_
  refine sK_i (pc' := 24) rfl ?_
  refine x_istore (pc' := 26) (ls' := [_, _, _, _, _, _]) rfl rfl rfl rfl ?_
  refine x_aload_n (pc' := 27) rfl rfl rfl rfl rfl ?_
  refine x_gR (pc' := 30) (r := (some 6)) rfl rfl rfl (Eq.trans rdRI (Eq.trans rdRL (Eq.trans rdRnwa (z_R_776_0 e)))) ?_
  refine x_iconst (pc' := 31) rfl rfl ?_
  refine x_iload_n (pc' := 32) rfl rfl rfl ?_
  refine x_imul (pc' := 33) (z := (io (3 * m))) rfl rfl (io_mul 3 m) ?_
  refine x_iload_n (pc' := 34) rfl rfl rfl ?_
  refine x_iadd (pc' := 35) (z := (io ((3 * m) + 0))) rfl rfl (io_add (3 * m) 0) ?_
  refine x_iald (pc' := 36) (N := 18) (x := 0) rfl rfl rfl (Eq.trans (b := sN t _ _) rfl (z_N_21_6 e)) (io_in (p := ((3 * m) + 0)) (N := 18) (show ((3 * m) + 0) < 18 by omega) (by decide)) (Eq.trans (congrArg (sA (sIw (sLw (sNwA t 20 6) 23 0 0 (0 : Int64)) 768 0 0) 21 6) (nn_io (p := ((3 * m) + 0)) (Nat.lt_trans (show ((3 * m) + 0) < 18 by omega) (by decide)))) (Eq.trans rdAI (Eq.trans rdAL (Eq.trans rdAnwa (z_A_21_6_y e _))))) ?_
  refine x_iload (pc' := 38) rfl rfl rfl ?_
  refine x_if (a' := 46) (pc' := 41) (z := true) rfl rfl rfl (by decide) (fun _ => ?_) (fun h => by cases h)
  refine x_iload (pc' := 48) rfl rfl rfl ?_
  refine x_ineg (pc' := 49) (z := 0) rfl rfl (by decide) ?_
  refine x_iadd (pc' := 50) (z := 0) rfl rfl (by decide) ?_
  refine x_reti rfl rfl ?_
  refine sK_i (pc' := 18) rfl ?_
  refine x_aload_n (pc' := 19) rfl rfl rfl rfl rfl ?_
  refine x_iload_n (pc' := 20) rfl rfl rfl ?_
  refine x_iconst (pc' := 21) rfl rfl ?_
  refine x_iload_n (pc' := 22) rfl rfl rfl ?_
  refine x_cv (ls0 := [_, _, _, _, sJk, sJk]) (rest := [_, _]) rfl rfl rfl rfl rfl ?_
  refine x_iload_n (pc' := 1) rfl rfl rfl ?_
  refine x_iload_n (pc' := 2) rfl rfl rfl ?_
  refine x_ishr (pc' := 3) (z := 0) rfl rfl (by decide) ?_
  refine x_iconst (pc' := 4) rfl rfl ?_
  refine x_iand (pc' := 5) (z := 0) rfl rfl (by decide) ?_
  refine x_iconst (pc' := 6) rfl rfl ?_
  refine x_icmp (a' := 13) (pc' := 9) (z := true) rfl rfl rfl (by decide) (fun _ => ?_) (fun h => by cases h)
  refine x_iconst (pc' := 14) rfl rfl ?_
  refine x_istore (pc' := 16) (ls' := [_, _, _, _, _, _]) rfl rfl rfl rfl ?_
  refine x_aload_n (pc' := 17) rfl rfl rfl rfl rfl ?_
  refine x_iload_n (pc' := 18) rfl rfl rfl ?_
  refine x_iload_n (pc' := 19) rfl rfl rfl ?_
  refine x_iload (pc' := 21) rfl rfl rfl ?_
  refine x_cv (ls0 := [_, _, _, _, sJk, sJk, sJk, sJk, sJk]) (rest := []) rfl rfl rfl rfl rfl ?_
  refine x_iconst (pc' := 1) rfl rfl ?_
  refine x_istore (pc' := 3) (ls' := [_, _, _, _, _, _, _, _, _]) rfl rfl rfl rfl ?_
  refine x_iconst (pc' := 4) rfl rfl ?_
  refine x_istore (pc' := 6) (ls' := [_, _, _, _, _, _, _, _, _]) rfl rfl rfl rfl ?_
  refine x_iload (pc' := 8) rfl rfl rfl ?_
  refine x_aload_n (pc' := 9) rfl rfl rfl rfl rfl ?_
  refine x_gI (pc' := 12) (x := 0) rfl rfl rfl (Eq.trans (rdI_F rfl) (Eq.trans rdIL (Eq.trans rdInwa (z_I_786_0 e)))) ?_
  refine x_icmp (a' := 190) (pc' := 15) (z := true) rfl rfl rfl (by decide) (fun _ => ?_) (fun h => by cases h)
  refine x_iload (pc' := 192) rfl rfl rfl ?_
  refine x_reti rfl rfl ?_
  refine sK_i (pc' := 24) rfl ?_
  refine x_istore (pc' := 26) (ls' := [_, _, _, _, _, _]) rfl rfl rfl rfl ?_
  refine x_aload_n (pc' := 27) rfl rfl rfl rfl rfl ?_
  refine x_gR (pc' := 30) (r := (some 6)) rfl rfl rfl (Eq.trans rdRI (Eq.trans rdRL (Eq.trans rdRnwa (z_R_776_0 e)))) ?_
  refine x_iconst (pc' := 31) rfl rfl ?_
  refine x_iload_n (pc' := 32) rfl rfl rfl ?_
  refine x_imul (pc' := 33) (z := (io (3 * m))) rfl rfl (io_mul 3 m) ?_
  refine x_iload_n (pc' := 34) rfl rfl rfl ?_
  refine x_iadd (pc' := 35) (z := (io ((3 * m) + 1))) rfl rfl (io_add (3 * m) 1) ?_
  refine x_iald (pc' := 36) (N := 18) (x := 0) rfl rfl rfl (Eq.trans (b := sN t _ _) rfl (z_N_21_6 e)) (io_in (p := ((3 * m) + 1)) (N := 18) (show ((3 * m) + 1) < 18 by omega) (by decide)) (Eq.trans (congrArg (sA (sIw (sLw (sNwA t 20 6) 23 0 0 (0 : Int64)) 768 0 0) 21 6) (nn_io (p := ((3 * m) + 1)) (Nat.lt_trans (show ((3 * m) + 1) < 18 by omega) (by decide)))) (Eq.trans rdAI (Eq.trans rdAL (Eq.trans rdAnwa (z_A_21_6_y e _))))) ?_
  refine x_iload (pc' := 38) rfl rfl rfl ?_
  refine x_if (a' := 46) (pc' := 41) (z := true) rfl rfl rfl (by decide) (fun _ => ?_) (fun h => by cases h)
  refine x_iload (pc' := 48) rfl rfl rfl ?_
  refine x_ineg (pc' := 49) (z := 0) rfl rfl (by decide) ?_
  refine x_iadd (pc' := 50) (z := 0) rfl rfl (by decide) ?_
  refine x_reti rfl rfl ?_
  refine sK_i (pc' := 25) rfl ?_
  refine x_aload_n (pc' := 26) rfl rfl rfl rfl rfl ?_
  refine x_iload_n (pc' := 27) rfl rfl rfl ?_
  refine x_iconst (pc' := 28) rfl rfl ?_
  refine x_iload_n (pc' := 29) rfl rfl rfl ?_
  refine x_cv (ls0 := [_, _, _, _, sJk, sJk]) (rest := [_, _, _]) rfl rfl rfl rfl rfl ?_
  refine x_iload_n (pc' := 1) rfl rfl rfl ?_
  refine x_iload_n (pc' := 2) rfl rfl rfl ?_
  refine x_ishr (pc' := 3) (z := 0) rfl rfl (by decide) ?_
  refine x_iconst (pc' := 4) rfl rfl ?_
  refine x_iand (pc' := 5) (z := 0) rfl rfl (by decide) ?_
  refine x_iconst (pc' := 6) rfl rfl ?_
  refine x_icmp (a' := 13) (pc' := 9) (z := true) rfl rfl rfl (by decide) (fun _ => ?_) (fun h => by cases h)
  refine x_iconst (pc' := 14) rfl rfl ?_
  refine x_istore (pc' := 16) (ls' := [_, _, _, _, _, _]) rfl rfl rfl rfl ?_
  refine x_aload_n (pc' := 17) rfl rfl rfl rfl rfl ?_
  refine x_iload_n (pc' := 18) rfl rfl rfl ?_
  refine x_iload_n (pc' := 19) rfl rfl rfl ?_
  refine x_iload (pc' := 21) rfl rfl rfl ?_
  refine x_cv (ls0 := [_, _, _, _, sJk, sJk, sJk, sJk, sJk]) (rest := []) rfl rfl rfl rfl rfl ?_
  refine x_iconst (pc' := 1) rfl rfl ?_
  refine x_istore (pc' := 3) (ls' := [_, _, _, _, _, _, _, _, _]) rfl rfl rfl rfl ?_
  refine x_iconst (pc' := 4) rfl rfl ?_
  refine x_istore (pc' := 6) (ls' := [_, _, _, _, _, _, _, _, _]) rfl rfl rfl rfl ?_
  refine x_iload (pc' := 8) rfl rfl rfl ?_
  refine x_aload_n (pc' := 9) rfl rfl rfl rfl rfl ?_
  refine x_gI (pc' := 12) (x := 0) rfl rfl rfl (Eq.trans (rdI_F rfl) (Eq.trans rdIL (Eq.trans rdInwa (z_I_786_0 e)))) ?_
  refine x_icmp (a' := 190) (pc' := 15) (z := true) rfl rfl rfl (by decide) (fun _ => ?_) (fun h => by cases h)
  refine x_iload (pc' := 192) rfl rfl rfl ?_
  refine x_reti rfl rfl ?_
  refine sK_i (pc' := 24) rfl ?_
  refine x_istore (pc' := 26) (ls' := [_, _, _, _, _, _]) rfl rfl rfl rfl ?_
  refine x_aload_n (pc' := 27) rfl rfl rfl rfl rfl ?_
  refine x_gR (pc' := 30) (r := (some 6)) rfl rfl rfl (Eq.trans rdRI (Eq.trans rdRL (Eq.trans rdRnwa (z_R_776_0 e)))) ?_
  refine x_iconst (pc' := 31) rfl rfl ?_
  refine x_iload_n (pc' := 32) rfl rfl rfl ?_
  refine x_imul (pc' := 33) (z := (io (3 * m))) rfl rfl (io_mul 3 m) ?_
  refine x_iload_n (pc' := 34) rfl rfl rfl ?_
  refine x_iadd (pc' := 35) (z := (io ((3 * m) + 2))) rfl rfl (io_add (3 * m) 2) ?_
  refine x_iald (pc' := 36) (N := 18) (x := 0) rfl rfl rfl (Eq.trans (b := sN t _ _) rfl (z_N_21_6 e)) (io_in (p := ((3 * m) + 2)) (N := 18) (show ((3 * m) + 2) < 18 by omega) (by decide)) (Eq.trans (congrArg (sA (sIw (sLw (sNwA t 20 6) 23 0 0 (0 : Int64)) 768 0 0) 21 6) (nn_io (p := ((3 * m) + 2)) (Nat.lt_trans (show ((3 * m) + 2) < 18 by omega) (by decide)))) (Eq.trans rdAI (Eq.trans rdAL (Eq.trans rdAnwa (z_A_21_6_y e _))))) ?_
  refine x_iload (pc' := 38) rfl rfl rfl ?_
  refine x_if (a' := 46) (pc' := 41) (z := true) rfl rfl rfl (by decide) (fun _ => ?_) (fun h => by cases h)
  refine x_iload (pc' := 48) rfl rfl rfl ?_
  refine x_ineg (pc' := 49) (z := 0) rfl rfl (by decide) ?_
  refine x_iadd (pc' := 50) (z := 0) rfl rfl (by decide) ?_
  refine x_reti rfl rfl ?_
  refine sK_i (pc' := 32) rfl ?_
  refine x_cv (ls0 := [_, _, _, _, sJk, sJk, sJk]) (rest := []) rfl rfl rfl rfl rfl ?_
  refine x_iconst (pc' := 1) rfl rfl ?_
  refine x_istore (pc' := 3) (ls' := [_, _, _, _, _, _, _]) rfl rfl rfl rfl ?_
  refine x_iconst (pc' := 4) rfl rfl ?_
  refine x_istore (pc' := 6) (ls' := [_, _, _, _, _, _, _]) rfl rfl rfl rfl ?_
  refine x_iload (pc' := 8) rfl rfl rfl ?_
  refine x_bipush (pc' := 10) rfl rfl ?_
  refine x_icmp (a' := 77) (pc' := 13) (z := false) rfl rfl rfl (by decide) (fun h => by cases h) (fun _ => ?_)
  refine x_iload_n (pc' := 14) rfl rfl rfl ?_
  refine x_aload_n (pc' := 15) rfl rfl rfl rfl rfl ?_
  refine x_gR (pc' := 18) (r := (some 11)) rfl rfl rfl (Eq.trans rdRI (Eq.trans rdRL (Eq.trans rdRnwa (z_R_783_0 e)))) ?_
  refine x_iconst (pc' := 19) rfl rfl ?_
  refine x_iload (pc' := 21) rfl rfl rfl ?_
  refine x_imul (pc' := 22) (z := 0) rfl rfl (by decide) ?_
  refine x_iald (pc' := 23) (N := 18) (x := 0) rfl rfl rfl (Eq.trans (b := sN t _ _) rfl (z_N_21_11 e)) (io_in (p := 0) (N := 18) (by decide) (by decide)) (Eq.trans (congrArg (sA (sIw (sLw (sNwA t 20 6) 23 0 0 (0 : Int64)) 768 0 0) 21 11) (nn_io (p := 0) (by decide))) (Eq.trans rdAI (Eq.trans rdAL (Eq.trans rdAnwa (z_A_21_11_0 e))))) ?_
  refine x_imul (pc' := 24) (z := 0) rfl rfl (by decide) ?_
  refine x_iload_n (pc' := 25) rfl rfl rfl ?_
  refine x_aload_n (pc' := 26) rfl rfl rfl rfl rfl ?_
  refine x_gR (pc' := 29) (r := (some 11)) rfl rfl rfl (Eq.trans rdRI (Eq.trans rdRL (Eq.trans rdRnwa (z_R_783_0 e)))) ?_
  refine x_iconst (pc' := 30) rfl rfl ?_
  refine x_iload (pc' := 32) rfl rfl rfl ?_
  refine x_imul (pc' := 33) (z := 0) rfl rfl (by decide) ?_
  refine x_iconst (pc' := 34) rfl rfl ?_
  refine x_iadd (pc' := 35) (z := 1) rfl rfl (by decide) ?_
  refine x_iald (pc' := 36) (N := 18) (x := 0) rfl rfl rfl (Eq.trans (b := sN t _ _) rfl (z_N_21_11 e)) (io_in (p := 1) (N := 18) (by decide) (by decide)) (Eq.trans (congrArg (sA (sIw (sLw (sNwA t 20 6) 23 0 0 (0 : Int64)) 768 0 0) 21 11) (nn_io (p := 1) (by decide))) (Eq.trans rdAI (Eq.trans rdAL (Eq.trans rdAnwa (z_A_21_11_1 e))))) ?_
  refine x_imul (pc' := 37) (z := 0) rfl rfl (by decide) ?_
  refine x_iadd (pc' := 38) (z := 0) rfl rfl (by decide) ?_
  refine x_iload_n (pc' := 39) rfl rfl rfl ?_
  refine x_aload_n (pc' := 40) rfl rfl rfl rfl rfl ?_
  refine x_gR (pc' := 43) (r := (some 11)) rfl rfl rfl (Eq.trans rdRI (Eq.trans rdRL (Eq.trans rdRnwa (z_R_783_0 e)))) ?_
  refine x_iconst (pc' := 44) rfl rfl ?_
  refine x_iload (pc' := 46) rfl rfl rfl ?_
  refine x_imul (pc' := 47) (z := 0) rfl rfl (by decide) ?_
  refine x_iconst (pc' := 48) rfl rfl ?_
  refine x_iadd (pc' := 49) (z := 2) rfl rfl (by decide) ?_
  refine x_iald (pc' := 50) (N := 18) (x := 0) rfl rfl rfl (Eq.trans (b := sN t _ _) rfl (z_N_21_11 e)) (io_in (p := 2) (N := 18) (by decide) (by decide)) (Eq.trans (congrArg (sA (sIw (sLw (sNwA t 20 6) 23 0 0 (0 : Int64)) 768 0 0) 21 11) (nn_io (p := 2) (by decide))) (Eq.trans rdAI (Eq.trans rdAL (Eq.trans rdAnwa (z_A_21_11_2 e))))) ?_
  refine x_imul (pc' := 51) (z := 0) rfl rfl (by decide) ?_
  refine x_iadd (pc' := 52) (z := 0) rfl rfl (by decide) ?_
  refine x_ineg (pc' := 53) (z := 0) rfl rfl (by decide) ?_
  refine x_istore (pc' := 55) (ls' := [_, _, _, _, _, _, _]) rfl rfl rfl rfl ?_
  refine x_iload (pc' := 57) rfl rfl rfl ?_
  refine x_iload (pc' := 59) rfl rfl rfl ?_
  refine x_icmp (a' := 67) (pc' := 62) (z := true) rfl rfl rfl (by decide) (fun _ => ?_) (fun h => by cases h)
  refine x_iload (pc' := 69) rfl rfl rfl ?_
  refine x_istore (pc' := 71) (ls' := [_, _, _, _, _, _, _]) rfl rfl rfl rfl ?_
  refine x_iinc (pc' := 74) (y := 1) (ls' := [_, _, _, _, _, _, _]) rfl rfl rfl rfl rfl ?_
  refine x_goto (pc' := 6) rfl rfl ?_
  refine x_iload (pc' := 8) rfl rfl rfl ?_
  refine x_bipush (pc' := 10) rfl rfl ?_
  refine x_icmp (a' := 77) (pc' := 13) (z := false) rfl rfl rfl (by decide) (fun h => by cases h) (fun _ => ?_)
  refine x_iload_n (pc' := 14) rfl rfl rfl ?_
  refine x_aload_n (pc' := 15) rfl rfl rfl rfl rfl ?_
  refine x_gR (pc' := 18) (r := (some 11)) rfl rfl rfl (Eq.trans rdRI (Eq.trans rdRL (Eq.trans rdRnwa (z_R_783_0 e)))) ?_
  refine x_iconst (pc' := 19) rfl rfl ?_
  refine x_iload (pc' := 21) rfl rfl rfl ?_
  refine x_imul (pc' := 22) (z := 3) rfl rfl (by decide) ?_
  refine x_iald (pc' := 23) (N := 18) (x := 0) rfl rfl rfl (Eq.trans (b := sN t _ _) rfl (z_N_21_11 e)) (io_in (p := 3) (N := 18) (by decide) (by decide)) (Eq.trans (congrArg (sA (sIw (sLw (sNwA t 20 6) 23 0 0 (0 : Int64)) 768 0 0) 21 11) (nn_io (p := 3) (by decide))) (Eq.trans rdAI (Eq.trans rdAL (Eq.trans rdAnwa (z_A_21_11_3 e))))) ?_
  refine x_imul (pc' := 24) (z := 0) rfl rfl (by decide) ?_
  refine x_iload_n (pc' := 25) rfl rfl rfl ?_
  refine x_aload_n (pc' := 26) rfl rfl rfl rfl rfl ?_
  refine x_gR (pc' := 29) (r := (some 11)) rfl rfl rfl (Eq.trans rdRI (Eq.trans rdRL (Eq.trans rdRnwa (z_R_783_0 e)))) ?_
  refine x_iconst (pc' := 30) rfl rfl ?_
  refine x_iload (pc' := 32) rfl rfl rfl ?_
  refine x_imul (pc' := 33) (z := 3) rfl rfl (by decide) ?_
  refine x_iconst (pc' := 34) rfl rfl ?_
  refine x_iadd (pc' := 35) (z := 4) rfl rfl (by decide) ?_
  refine x_iald (pc' := 36) (N := 18) (x := 0) rfl rfl rfl (Eq.trans (b := sN t _ _) rfl (z_N_21_11 e)) (io_in (p := 4) (N := 18) (by decide) (by decide)) (Eq.trans (congrArg (sA (sIw (sLw (sNwA t 20 6) 23 0 0 (0 : Int64)) 768 0 0) 21 11) (nn_io (p := 4) (by decide))) (Eq.trans rdAI (Eq.trans rdAL (Eq.trans rdAnwa (z_A_21_11_4 e))))) ?_
  refine x_imul (pc' := 37) (z := 0) rfl rfl (by decide) ?_
  refine x_iadd (pc' := 38) (z := 0) rfl rfl (by decide) ?_
  refine x_iload_n (pc' := 39) rfl rfl rfl ?_
  refine x_aload_n (pc' := 40) rfl rfl rfl rfl rfl ?_
  refine x_gR (pc' := 43) (r := (some 11)) rfl rfl rfl (Eq.trans rdRI (Eq.trans rdRL (Eq.trans rdRnwa (z_R_783_0 e)))) ?_
  refine x_iconst (pc' := 44) rfl rfl ?_
  refine x_iload (pc' := 46) rfl rfl rfl ?_
  refine x_imul (pc' := 47) (z := 3) rfl rfl (by decide) ?_
  refine x_iconst (pc' := 48) rfl rfl ?_
  refine x_iadd (pc' := 49) (z := 5) rfl rfl (by decide) ?_
  refine x_iald (pc' := 50) (N := 18) (x := 0) rfl rfl rfl (Eq.trans (b := sN t _ _) rfl (z_N_21_11 e)) (io_in (p := 5) (N := 18) (by decide) (by decide)) (Eq.trans (congrArg (sA (sIw (sLw (sNwA t 20 6) 23 0 0 (0 : Int64)) 768 0 0) 21 11) (nn_io (p := 5) (by decide))) (Eq.trans rdAI (Eq.trans rdAL (Eq.trans rdAnwa (z_A_21_11_5 e))))) ?_
  refine x_imul (pc' := 51) (z := 0) rfl rfl (by decide) ?_
  refine x_iadd (pc' := 52) (z := 0) rfl rfl (by decide) ?_
  refine x_ineg (pc' := 53) (z := 0) rfl rfl (by decide) ?_
  refine x_istore (pc' := 55) (ls' := [_, _, _, _, _, _, _]) rfl rfl rfl rfl ?_
  refine x_iload (pc' := 57) rfl rfl rfl ?_
  refine x_iload (pc' := 59) rfl rfl rfl ?_
  refine x_icmp (a' := 67) (pc' := 62) (z := true) rfl rfl rfl (by decide) (fun _ => ?_) (fun h => by cases h)
  refine x_iload (pc' := 69) rfl rfl rfl ?_
  refine x_istore (pc' := 71) (ls' := [_, _, _, _, _, _, _]) rfl rfl rfl rfl ?_
  refine x_iinc (pc' := 74) (y := 2) (ls' := [_, _, _, _, _, _, _]) rfl rfl rfl rfl rfl ?_
  refine x_goto (pc' := 6) rfl rfl ?_
  refine x_iload (pc' := 8) rfl rfl rfl ?_
  refine x_bipush (pc' := 10) rfl rfl ?_
  refine x_icmp (a' := 77) (pc' := 13) (z := false) rfl rfl rfl (by decide) (fun h => by cases h) (fun _ => ?_)
  refine x_iload_n (pc' := 14) rfl rfl rfl ?_
  refine x_aload_n (pc' := 15) rfl rfl rfl rfl rfl ?_
  refine x_gR (pc' := 18) (r := (some 11)) rfl rfl rfl (Eq.trans rdRI (Eq.trans rdRL (Eq.trans rdRnwa (z_R_783_0 e)))) ?_
  refine x_iconst (pc' := 19) rfl rfl ?_
  refine x_iload (pc' := 21) rfl rfl rfl ?_
  refine x_imul (pc' := 22) (z := 6) rfl rfl (by decide) ?_
  refine x_iald (pc' := 23) (N := 18) (x := 0) rfl rfl rfl (Eq.trans (b := sN t _ _) rfl (z_N_21_11 e)) (io_in (p := 6) (N := 18) (by decide) (by decide)) (Eq.trans (congrArg (sA (sIw (sLw (sNwA t 20 6) 23 0 0 (0 : Int64)) 768 0 0) 21 11) (nn_io (p := 6) (by decide))) (Eq.trans rdAI (Eq.trans rdAL (Eq.trans rdAnwa (z_A_21_11_6 e))))) ?_
  refine x_imul (pc' := 24) (z := 0) rfl rfl (by decide) ?_
  refine x_iload_n (pc' := 25) rfl rfl rfl ?_
  refine x_aload_n (pc' := 26) rfl rfl rfl rfl rfl ?_
  refine x_gR (pc' := 29) (r := (some 11)) rfl rfl rfl (Eq.trans rdRI (Eq.trans rdRL (Eq.trans rdRnwa (z_R_783_0 e)))) ?_
  refine x_iconst (pc' := 30) rfl rfl ?_
  refine x_iload (pc' := 32) rfl rfl rfl ?_
  refine x_imul (pc' := 33) (z := 6) rfl rfl (by decide) ?_
  refine x_iconst (pc' := 34) rfl rfl ?_
  refine x_iadd (pc' := 35) (z := 7) rfl rfl (by decide) ?_
  refine x_iald (pc' := 36) (N := 18) (x := 0) rfl rfl rfl (Eq.trans (b := sN t _ _) rfl (z_N_21_11 e)) (io_in (p := 7) (N := 18) (by decide) (by decide)) (Eq.trans (congrArg (sA (sIw (sLw (sNwA t 20 6) 23 0 0 (0 : Int64)) 768 0 0) 21 11) (nn_io (p := 7) (by decide))) (Eq.trans rdAI (Eq.trans rdAL (Eq.trans rdAnwa (z_A_21_11_7 e))))) ?_
  refine x_imul (pc' := 37) (z := 0) rfl rfl (by decide) ?_
  refine x_iadd (pc' := 38) (z := 0) rfl rfl (by decide) ?_
  refine x_iload_n (pc' := 39) rfl rfl rfl ?_
  refine x_aload_n (pc' := 40) rfl rfl rfl rfl rfl ?_
  refine x_gR (pc' := 43) (r := (some 11)) rfl rfl rfl (Eq.trans rdRI (Eq.trans rdRL (Eq.trans rdRnwa (z_R_783_0 e)))) ?_
  refine x_iconst (pc' := 44) rfl rfl ?_
  refine x_iload (pc' := 46) rfl rfl rfl ?_
  refine x_imul (pc' := 47) (z := 6) rfl rfl (by decide) ?_
  refine x_iconst (pc' := 48) rfl rfl ?_
  refine x_iadd (pc' := 49) (z := 8) rfl rfl (by decide) ?_
  refine x_iald (pc' := 50) (N := 18) (x := 0) rfl rfl rfl (Eq.trans (b := sN t _ _) rfl (z_N_21_11 e)) (io_in (p := 8) (N := 18) (by decide) (by decide)) (Eq.trans (congrArg (sA (sIw (sLw (sNwA t 20 6) 23 0 0 (0 : Int64)) 768 0 0) 21 11) (nn_io (p := 8) (by decide))) (Eq.trans rdAI (Eq.trans rdAL (Eq.trans rdAnwa (z_A_21_11_8 e))))) ?_
  refine x_imul (pc' := 51) (z := 0) rfl rfl (by decide) ?_
  refine x_iadd (pc' := 52) (z := 0) rfl rfl (by decide) ?_
  refine x_ineg (pc' := 53) (z := 0) rfl rfl (by decide) ?_
  refine x_istore (pc' := 55) (ls' := [_, _, _, _, _, _, _]) rfl rfl rfl rfl ?_
  refine x_iload (pc' := 57) rfl rfl rfl ?_
  refine x_iload (pc' := 59) rfl rfl rfl ?_
  refine x_icmp (a' := 67) (pc' := 62) (z := true) rfl rfl rfl (by decide) (fun _ => ?_) (fun h => by cases h)
  refine x_iload (pc' := 69) rfl rfl rfl ?_
  refine x_istore (pc' := 71) (ls' := [_, _, _, _, _, _, _]) rfl rfl rfl rfl ?_
  refine x_iinc (pc' := 74) (y := 3) (ls' := [_, _, _, _, _, _, _]) rfl rfl rfl rfl rfl ?_
  refine x_goto (pc' := 6) rfl rfl ?_
  refine x_iload (pc' := 8) rfl rfl rfl ?_
  refine x_bipush (pc' := 10) rfl rfl ?_
  refine x_icmp (a' := 77) (pc' := 13) (z := false) rfl rfl rfl (by decide) (fun h => by cases h) (fun _ => ?_)
  refine x_iload_n (pc' := 14) rfl rfl rfl ?_
  refine x_aload_n (pc' := 15) rfl rfl rfl rfl rfl ?_
  refine x_gR (pc' := 18) (r := (some 11)) rfl rfl rfl (Eq.trans rdRI (Eq.trans rdRL (Eq.trans rdRnwa (z_R_783_0 e)))) ?_
  refine x_iconst (pc' := 19) rfl rfl ?_
  refine x_iload (pc' := 21) rfl rfl rfl ?_
  refine x_imul (pc' := 22) (z := 9) rfl rfl (by decide) ?_
  refine x_iald (pc' := 23) (N := 18) (x := 0) rfl rfl rfl (Eq.trans (b := sN t _ _) rfl (z_N_21_11 e)) (io_in (p := 9) (N := 18) (by decide) (by decide)) (Eq.trans (congrArg (sA (sIw (sLw (sNwA t 20 6) 23 0 0 (0 : Int64)) 768 0 0) 21 11) (nn_io (p := 9) (by decide))) (Eq.trans rdAI (Eq.trans rdAL (Eq.trans rdAnwa (z_A_21_11_9 e))))) ?_
  refine x_imul (pc' := 24) (z := 0) rfl rfl (by decide) ?_
  refine x_iload_n (pc' := 25) rfl rfl rfl ?_
  refine x_aload_n (pc' := 26) rfl rfl rfl rfl rfl ?_
  refine x_gR (pc' := 29) (r := (some 11)) rfl rfl rfl (Eq.trans rdRI (Eq.trans rdRL (Eq.trans rdRnwa (z_R_783_0 e)))) ?_
  refine x_iconst (pc' := 30) rfl rfl ?_
  refine x_iload (pc' := 32) rfl rfl rfl ?_
  refine x_imul (pc' := 33) (z := 9) rfl rfl (by decide) ?_
  refine x_iconst (pc' := 34) rfl rfl ?_
  refine x_iadd (pc' := 35) (z := 10) rfl rfl (by decide) ?_
  refine x_iald (pc' := 36) (N := 18) (x := 0) rfl rfl rfl (Eq.trans (b := sN t _ _) rfl (z_N_21_11 e)) (io_in (p := 10) (N := 18) (by decide) (by decide)) (Eq.trans (congrArg (sA (sIw (sLw (sNwA t 20 6) 23 0 0 (0 : Int64)) 768 0 0) 21 11) (nn_io (p := 10) (by decide))) (Eq.trans rdAI (Eq.trans rdAL (Eq.trans rdAnwa (z_A_21_11_10 e))))) ?_
  refine x_imul (pc' := 37) (z := 0) rfl rfl (by decide) ?_
  refine x_iadd (pc' := 38) (z := 0) rfl rfl (by decide) ?_
  refine x_iload_n (pc' := 39) rfl rfl rfl ?_
  refine x_aload_n (pc' := 40) rfl rfl rfl rfl rfl ?_
  refine x_gR (pc' := 43) (r := (some 11)) rfl rfl rfl (Eq.trans rdRI (Eq.trans rdRL (Eq.trans rdRnwa (z_R_783_0 e)))) ?_
  refine x_iconst (pc' := 44) rfl rfl ?_
  refine x_iload (pc' := 46) rfl rfl rfl ?_
  refine x_imul (pc' := 47) (z := 9) rfl rfl (by decide) ?_
  refine x_iconst (pc' := 48) rfl rfl ?_
  refine x_iadd (pc' := 49) (z := 11) rfl rfl (by decide) ?_
  refine x_iald (pc' := 50) (N := 18) (x := 0) rfl rfl rfl (Eq.trans (b := sN t _ _) rfl (z_N_21_11 e)) (io_in (p := 11) (N := 18) (by decide) (by decide)) (Eq.trans (congrArg (sA (sIw (sLw (sNwA t 20 6) 23 0 0 (0 : Int64)) 768 0 0) 21 11) (nn_io (p := 11) (by decide))) (Eq.trans rdAI (Eq.trans rdAL (Eq.trans rdAnwa (z_A_21_11_11 e))))) ?_
  refine x_imul (pc' := 51) (z := 0) rfl rfl (by decide) ?_
  refine x_iadd (pc' := 52) (z := 0) rfl rfl (by decide) ?_
  refine x_ineg (pc' := 53) (z := 0) rfl rfl (by decide) ?_
  refine x_istore (pc' := 55) (ls' := [_, _, _, _, _, _, _]) rfl rfl rfl rfl ?_
  refine x_iload (pc' := 57) rfl rfl rfl ?_
  refine x_iload (pc' := 59) rfl rfl rfl ?_
  refine x_icmp (a' := 67) (pc' := 62) (z := true) rfl rfl rfl (by decide) (fun _ => ?_) (fun h => by cases h)
  refine x_iload (pc' := 69) rfl rfl rfl ?_
  refine x_istore (pc' := 71) (ls' := [_, _, _, _, _, _, _]) rfl rfl rfl rfl ?_
  refine x_iinc (pc' := 74) (y := 4) (ls' := [_, _, _, _, _, _, _]) rfl rfl rfl rfl rfl ?_
  refine x_goto (pc' := 6) rfl rfl ?_
  refine x_iload (pc' := 8) rfl rfl rfl ?_
  refine x_bipush (pc' := 10) rfl rfl ?_
  refine x_icmp (a' := 77) (pc' := 13) (z := false) rfl rfl rfl (by decide) (fun h => by cases h) (fun _ => ?_)
  refine x_iload_n (pc' := 14) rfl rfl rfl ?_
  refine x_aload_n (pc' := 15) rfl rfl rfl rfl rfl ?_
  refine x_gR (pc' := 18) (r := (some 11)) rfl rfl rfl (Eq.trans rdRI (Eq.trans rdRL (Eq.trans rdRnwa (z_R_783_0 e)))) ?_
  refine x_iconst (pc' := 19) rfl rfl ?_
  refine x_iload (pc' := 21) rfl rfl rfl ?_
  refine x_imul (pc' := 22) (z := 12) rfl rfl (by decide) ?_
  refine x_iald (pc' := 23) (N := 18) (x := 0) rfl rfl rfl (Eq.trans (b := sN t _ _) rfl (z_N_21_11 e)) (io_in (p := 12) (N := 18) (by decide) (by decide)) (Eq.trans (congrArg (sA (sIw (sLw (sNwA t 20 6) 23 0 0 (0 : Int64)) 768 0 0) 21 11) (nn_io (p := 12) (by decide))) (Eq.trans rdAI (Eq.trans rdAL (Eq.trans rdAnwa (z_A_21_11_12 e))))) ?_
  refine x_imul (pc' := 24) (z := 0) rfl rfl (by decide) ?_
  refine x_iload_n (pc' := 25) rfl rfl rfl ?_
  refine x_aload_n (pc' := 26) rfl rfl rfl rfl rfl ?_
  refine x_gR (pc' := 29) (r := (some 11)) rfl rfl rfl (Eq.trans rdRI (Eq.trans rdRL (Eq.trans rdRnwa (z_R_783_0 e)))) ?_
  refine x_iconst (pc' := 30) rfl rfl ?_
  refine x_iload (pc' := 32) rfl rfl rfl ?_
  refine x_imul (pc' := 33) (z := 12) rfl rfl (by decide) ?_
  refine x_iconst (pc' := 34) rfl rfl ?_
  refine x_iadd (pc' := 35) (z := 13) rfl rfl (by decide) ?_
  refine x_iald (pc' := 36) (N := 18) (x := 0) rfl rfl rfl (Eq.trans (b := sN t _ _) rfl (z_N_21_11 e)) (io_in (p := 13) (N := 18) (by decide) (by decide)) (Eq.trans (congrArg (sA (sIw (sLw (sNwA t 20 6) 23 0 0 (0 : Int64)) 768 0 0) 21 11) (nn_io (p := 13) (by decide))) (Eq.trans rdAI (Eq.trans rdAL (Eq.trans rdAnwa (z_A_21_11_13 e))))) ?_
  refine x_imul (pc' := 37) (z := 0) rfl rfl (by decide) ?_
  refine x_iadd (pc' := 38) (z := 0) rfl rfl (by decide) ?_
  refine x_iload_n (pc' := 39) rfl rfl rfl ?_
  refine x_aload_n (pc' := 40) rfl rfl rfl rfl rfl ?_
  refine x_gR (pc' := 43) (r := (some 11)) rfl rfl rfl (Eq.trans rdRI (Eq.trans rdRL (Eq.trans rdRnwa (z_R_783_0 e)))) ?_
  refine x_iconst (pc' := 44) rfl rfl ?_
  refine x_iload (pc' := 46) rfl rfl rfl ?_
  refine x_imul (pc' := 47) (z := 12) rfl rfl (by decide) ?_
  refine x_iconst (pc' := 48) rfl rfl ?_
  refine x_iadd (pc' := 49) (z := 14) rfl rfl (by decide) ?_
  refine x_iald (pc' := 50) (N := 18) (x := 0) rfl rfl rfl (Eq.trans (b := sN t _ _) rfl (z_N_21_11 e)) (io_in (p := 14) (N := 18) (by decide) (by decide)) (Eq.trans (congrArg (sA (sIw (sLw (sNwA t 20 6) 23 0 0 (0 : Int64)) 768 0 0) 21 11) (nn_io (p := 14) (by decide))) (Eq.trans rdAI (Eq.trans rdAL (Eq.trans rdAnwa (z_A_21_11_14 e))))) ?_
  refine x_imul (pc' := 51) (z := 0) rfl rfl (by decide) ?_
  refine x_iadd (pc' := 52) (z := 0) rfl rfl (by decide) ?_
  refine x_ineg (pc' := 53) (z := 0) rfl rfl (by decide) ?_
  refine x_istore (pc' := 55) (ls' := [_, _, _, _, _, _, _]) rfl rfl rfl rfl ?_
  refine x_iload (pc' := 57) rfl rfl rfl ?_
  refine x_iload (pc' := 59) rfl rfl rfl ?_
  refine x_icmp (a' := 67) (pc' := 62) (z := true) rfl rfl rfl (by decide) (fun _ => ?_) (fun h => by cases h)
  refine x_iload (pc' := 69) rfl rfl rfl ?_
  refine x_istore (pc' := 71) (ls' := [_, _, _, _, _, _, _]) rfl rfl rfl rfl ?_
  refine x_iinc (pc' := 74) (y := 5) (ls' := [_, _, _, _, _, _, _]) rfl rfl rfl rfl rfl ?_
  refine x_goto (pc' := 6) rfl rfl ?_
  refine x_iload (pc' := 8) rfl rfl rfl ?_
  refine x_bipush (pc' := 10) rfl rfl ?_
  refine x_icmp (a' := 77) (pc' := 13) (z := false) rfl rfl rfl (by decide) (fun h => by cases h) (fun _ => ?_)
  refine x_iload_n (pc' := 14) rfl rfl rfl ?_
  refine x_aload_n (pc' := 15) rfl rfl rfl rfl rfl ?_
  refine x_gR (pc' := 18) (r := (some 11)) rfl rfl rfl (Eq.trans rdRI (Eq.trans rdRL (Eq.trans rdRnwa (z_R_783_0 e)))) ?_
  refine x_iconst (pc' := 19) rfl rfl ?_
  refine x_iload (pc' := 21) rfl rfl rfl ?_
  refine x_imul (pc' := 22) (z := 15) rfl rfl (by decide) ?_
  refine x_iald (pc' := 23) (N := 18) (x := 0) rfl rfl rfl (Eq.trans (b := sN t _ _) rfl (z_N_21_11 e)) (io_in (p := 15) (N := 18) (by decide) (by decide)) (Eq.trans (congrArg (sA (sIw (sLw (sNwA t 20 6) 23 0 0 (0 : Int64)) 768 0 0) 21 11) (nn_io (p := 15) (by decide))) (Eq.trans rdAI (Eq.trans rdAL (Eq.trans rdAnwa (z_A_21_11_15 e))))) ?_
  refine x_imul (pc' := 24) (z := 0) rfl rfl (by decide) ?_
  refine x_iload_n (pc' := 25) rfl rfl rfl ?_
  refine x_aload_n (pc' := 26) rfl rfl rfl rfl rfl ?_
  refine x_gR (pc' := 29) (r := (some 11)) rfl rfl rfl (Eq.trans rdRI (Eq.trans rdRL (Eq.trans rdRnwa (z_R_783_0 e)))) ?_
  refine x_iconst (pc' := 30) rfl rfl ?_
  refine x_iload (pc' := 32) rfl rfl rfl ?_
  refine x_imul (pc' := 33) (z := 15) rfl rfl (by decide) ?_
  refine x_iconst (pc' := 34) rfl rfl ?_
  refine x_iadd (pc' := 35) (z := 16) rfl rfl (by decide) ?_
  refine x_iald (pc' := 36) (N := 18) (x := 0) rfl rfl rfl (Eq.trans (b := sN t _ _) rfl (z_N_21_11 e)) (io_in (p := 16) (N := 18) (by decide) (by decide)) (Eq.trans (congrArg (sA (sIw (sLw (sNwA t 20 6) 23 0 0 (0 : Int64)) 768 0 0) 21 11) (nn_io (p := 16) (by decide))) (Eq.trans rdAI (Eq.trans rdAL (Eq.trans rdAnwa (z_A_21_11_16 e))))) ?_
  refine x_imul (pc' := 37) (z := 0) rfl rfl (by decide) ?_
  refine x_iadd (pc' := 38) (z := 0) rfl rfl (by decide) ?_
  refine x_iload_n (pc' := 39) rfl rfl rfl ?_
  refine x_aload_n (pc' := 40) rfl rfl rfl rfl rfl ?_
  refine x_gR (pc' := 43) (r := (some 11)) rfl rfl rfl (Eq.trans rdRI (Eq.trans rdRL (Eq.trans rdRnwa (z_R_783_0 e)))) ?_
  refine x_iconst (pc' := 44) rfl rfl ?_
  refine x_iload (pc' := 46) rfl rfl rfl ?_
  refine x_imul (pc' := 47) (z := 15) rfl rfl (by decide) ?_
  refine x_iconst (pc' := 48) rfl rfl ?_
  refine x_iadd (pc' := 49) (z := 17) rfl rfl (by decide) ?_
  refine x_iald (pc' := 50) (N := 18) (x := 0) rfl rfl rfl (Eq.trans (b := sN t _ _) rfl (z_N_21_11 e)) (io_in (p := 17) (N := 18) (by decide) (by decide)) (Eq.trans (congrArg (sA (sIw (sLw (sNwA t 20 6) 23 0 0 (0 : Int64)) 768 0 0) 21 11) (nn_io (p := 17) (by decide))) (Eq.trans rdAI (Eq.trans rdAL (Eq.trans rdAnwa (z_A_21_11_17 e))))) ?_
  refine x_imul (pc' := 51) (z := 0) rfl rfl (by decide) ?_
  refine x_iadd (pc' := 52) (z := 0) rfl rfl (by decide) ?_
  refine x_ineg (pc' := 53) (z := 0) rfl rfl (by decide) ?_
  refine x_istore (pc' := 55) (ls' := [_, _, _, _, _, _, _]) rfl rfl rfl rfl ?_
  refine x_iload (pc' := 57) rfl rfl rfl ?_
  refine x_iload (pc' := 59) rfl rfl rfl ?_
  refine x_icmp (a' := 67) (pc' := 62) (z := true) rfl rfl rfl (by decide) (fun _ => ?_) (fun h => by cases h)
  refine x_iload (pc' := 69) rfl rfl rfl ?_
  refine x_istore (pc' := 71) (ls' := [_, _, _, _, _, _, _]) rfl rfl rfl rfl ?_
  refine x_iinc (pc' := 74) (y := 6) (ls' := [_, _, _, _, _, _, _]) rfl rfl rfl rfl rfl ?_
  refine x_goto (pc' := 6) rfl rfl ?_
  refine x_iload (pc' := 8) rfl rfl rfl ?_
  refine x_bipush (pc' := 10) rfl rfl ?_
  refine x_icmp (a' := 77) (pc' := 13) (z := true) rfl rfl rfl (by decide) (fun _ => ?_) (fun h => by cases h)
  refine x_iload (pc' := 79) rfl rfl rfl ?_
  refine x_reti rfl rfl ?_
  refine sK_i (pc' := 35) rfl ?_
  refine x_istore (pc' := 37) (ls' := [_, _, _, _, _]) rfl rfl rfl rfl ?_
  refine x_iload (pc' := 39) rfl rfl rfl ?_
  refine x_iload_n (pc' := 40) rfl rfl rfl ?_
  refine x_icmp (a' := 48) (pc' := 43) (z := true) rfl rfl rfl (by decide) (fun _ => ?_) (fun h => by cases h)
  refine x_iload_n (pc' := 49) rfl rfl rfl ?_
  refine x_istore_n (pc' := 50) (ls' := [_, _, _, _, _]) rfl rfl rfl rfl ?_
  refine x_iinc (pc' := 53) (y := 1) (ls' := [_, _, _, _, _]) rfl rfl rfl rfl rfl ?_
  refine x_goto (pc' := 4) rfl rfl ?_
  refine x_iload_n (pc' := 5) rfl rfl rfl ?_
  refine x_bipush (pc' := 7) rfl rfl ?_
  refine x_icmp (a' := 56) (pc' := 10) (z := false) rfl rfl rfl (by decide) (fun h => by cases h) (fun _ => ?_)
  refine x_aload_n (pc' := 11) rfl rfl rfl rfl rfl ?_
  refine x_aload_n (pc' := 12) rfl rfl rfl rfl rfl ?_
  refine x_iload_n (pc' := 13) rfl rfl rfl ?_
  refine x_iconst (pc' := 14) rfl rfl ?_
  refine x_iload_n (pc' := 15) rfl rfl rfl ?_
  refine x_cv (ls0 := [_, _, _, _, sJk, sJk]) (rest := [_]) rfl rfl rfl rfl rfl ?_
  refine x_iload_n (pc' := 1) rfl rfl rfl ?_
  refine x_iload_n (pc' := 2) rfl rfl rfl ?_
  refine x_ishr (pc' := 3) (z := 1) rfl rfl (by decide) ?_
  refine x_iconst (pc' := 4) rfl rfl ?_
  refine x_iand (pc' := 5) (z := 1) rfl rfl (by decide) ?_
  refine x_iconst (pc' := 6) rfl rfl ?_
  refine x_icmp (a' := 13) (pc' := 9) (z := false) rfl rfl rfl (by decide) (fun h => by cases h) (fun _ => ?_)
  refine x_iconst (pc' := 10) rfl rfl ?_
  refine x_goto (pc' := 14) rfl rfl ?_
  refine x_istore (pc' := 16) (ls' := [_, _, _, _, _, _]) rfl rfl rfl rfl ?_
  refine x_aload_n (pc' := 17) rfl rfl rfl rfl rfl ?_
  refine x_iload_n (pc' := 18) rfl rfl rfl ?_
  refine x_iload_n (pc' := 19) rfl rfl rfl ?_
  refine x_iload (pc' := 21) rfl rfl rfl ?_
  refine x_cv (ls0 := [_, _, _, _, sJk, sJk, sJk, sJk, sJk]) (rest := []) rfl rfl rfl rfl rfl ?_
  refine x_iconst (pc' := 1) rfl rfl ?_
  refine x_istore (pc' := 3) (ls' := [_, _, _, _, _, _, _, _, _]) rfl rfl rfl rfl ?_
  refine x_iconst (pc' := 4) rfl rfl ?_
  refine x_istore (pc' := 6) (ls' := [_, _, _, _, _, _, _, _, _]) rfl rfl rfl rfl ?_
  refine x_iload (pc' := 8) rfl rfl rfl ?_
  refine x_aload_n (pc' := 9) rfl rfl rfl rfl rfl ?_
  refine x_gI (pc' := 12) (x := 0) rfl rfl rfl (Eq.trans (rdI_F rfl) (Eq.trans rdIL (Eq.trans rdInwa (z_I_786_0 e)))) ?_
  refine x_icmp (a' := 190) (pc' := 15) (z := true) rfl rfl rfl (by decide) (fun _ => ?_) (fun h => by cases h)
  refine x_iload (pc' := 192) rfl rfl rfl ?_
  refine x_reti rfl rfl ?_
  refine sK_i (pc' := 24) rfl ?_
  refine x_istore (pc' := 26) (ls' := [_, _, _, _, _, _]) rfl rfl rfl rfl ?_
  refine x_aload_n (pc' := 27) rfl rfl rfl rfl rfl ?_
  refine x_gR (pc' := 30) (r := (some 6)) rfl rfl rfl (Eq.trans rdRI (Eq.trans rdRL (Eq.trans rdRnwa (z_R_776_0 e)))) ?_
  refine x_iconst (pc' := 31) rfl rfl ?_
  refine x_iload_n (pc' := 32) rfl rfl rfl ?_
  refine x_imul (pc' := 33) (z := (io (3 * m))) rfl rfl (io_mul 3 m) ?_
  refine x_iload_n (pc' := 34) rfl rfl rfl ?_
  refine x_iadd (pc' := 35) (z := (io ((3 * m) + 0))) rfl rfl (io_add (3 * m) 0) ?_
  refine x_iald (pc' := 36) (N := 18) (x := 0) rfl rfl rfl (Eq.trans (b := sN t _ _) rfl (z_N_21_6 e)) (io_in (p := ((3 * m) + 0)) (N := 18) (show ((3 * m) + 0) < 18 by omega) (by decide)) (Eq.trans (congrArg (sA (sIw (sLw (sNwA t 20 6) 23 0 0 (0 : Int64)) 768 0 0) 21 6) (nn_io (p := ((3 * m) + 0)) (Nat.lt_trans (show ((3 * m) + 0) < 18 by omega) (by decide)))) (Eq.trans rdAI (Eq.trans rdAL (Eq.trans rdAnwa (z_A_21_6_y e _))))) ?_
  refine x_iload (pc' := 38) rfl rfl rfl ?_
  refine x_if (a' := 46) (pc' := 41) (z := false) rfl rfl rfl (by decide) (fun h => by cases h) (fun _ => ?_)
  refine x_iload (pc' := 43) rfl rfl rfl ?_
  refine x_goto (pc' := 49) rfl rfl ?_
  refine x_iadd (pc' := 50) (z := 0) rfl rfl (by decide) ?_
  refine x_reti rfl rfl ?_
  refine sK_i (pc' := 18) rfl ?_
  refine x_aload_n (pc' := 19) rfl rfl rfl rfl rfl ?_
  refine x_iload_n (pc' := 20) rfl rfl rfl ?_
  refine x_iconst (pc' := 21) rfl rfl ?_
  refine x_iload_n (pc' := 22) rfl rfl rfl ?_
  refine x_cv (ls0 := [_, _, _, _, sJk, sJk]) (rest := [_, _]) rfl rfl rfl rfl rfl ?_
  refine x_iload_n (pc' := 1) rfl rfl rfl ?_
  refine x_iload_n (pc' := 2) rfl rfl rfl ?_
  refine x_ishr (pc' := 3) (z := 0) rfl rfl (by decide) ?_
  refine x_iconst (pc' := 4) rfl rfl ?_
  refine x_iand (pc' := 5) (z := 0) rfl rfl (by decide) ?_
  refine x_iconst (pc' := 6) rfl rfl ?_
  refine x_icmp (a' := 13) (pc' := 9) (z := true) rfl rfl rfl (by decide) (fun _ => ?_) (fun h => by cases h)
  refine x_iconst (pc' := 14) rfl rfl ?_
  refine x_istore (pc' := 16) (ls' := [_, _, _, _, _, _]) rfl rfl rfl rfl ?_
  refine x_aload_n (pc' := 17) rfl rfl rfl rfl rfl ?_
  refine x_iload_n (pc' := 18) rfl rfl rfl ?_
  refine x_iload_n (pc' := 19) rfl rfl rfl ?_
  refine x_iload (pc' := 21) rfl rfl rfl ?_
  refine x_cv (ls0 := [_, _, _, _, sJk, sJk, sJk, sJk, sJk]) (rest := []) rfl rfl rfl rfl rfl ?_
  refine x_iconst (pc' := 1) rfl rfl ?_
  refine x_istore (pc' := 3) (ls' := [_, _, _, _, _, _, _, _, _]) rfl rfl rfl rfl ?_
  refine x_iconst (pc' := 4) rfl rfl ?_
  refine x_istore (pc' := 6) (ls' := [_, _, _, _, _, _, _, _, _]) rfl rfl rfl rfl ?_
  refine x_iload (pc' := 8) rfl rfl rfl ?_
  refine x_aload_n (pc' := 9) rfl rfl rfl rfl rfl ?_
  refine x_gI (pc' := 12) (x := 0) rfl rfl rfl (Eq.trans (rdI_F rfl) (Eq.trans rdIL (Eq.trans rdInwa (z_I_786_0 e)))) ?_
  refine x_icmp (a' := 190) (pc' := 15) (z := true) rfl rfl rfl (by decide) (fun _ => ?_) (fun h => by cases h)
  refine x_iload (pc' := 192) rfl rfl rfl ?_
  refine x_reti rfl rfl ?_
  refine sK_i (pc' := 24) rfl ?_
  refine x_istore (pc' := 26) (ls' := [_, _, _, _, _, _]) rfl rfl rfl rfl ?_
  refine x_aload_n (pc' := 27) rfl rfl rfl rfl rfl ?_
  refine x_gR (pc' := 30) (r := (some 6)) rfl rfl rfl (Eq.trans rdRI (Eq.trans rdRL (Eq.trans rdRnwa (z_R_776_0 e)))) ?_
  refine x_iconst (pc' := 31) rfl rfl ?_
  refine x_iload_n (pc' := 32) rfl rfl rfl ?_
  refine x_imul (pc' := 33) (z := (io (3 * m))) rfl rfl (io_mul 3 m) ?_
  refine x_iload_n (pc' := 34) rfl rfl rfl ?_
  refine x_iadd (pc' := 35) (z := (io ((3 * m) + 1))) rfl rfl (io_add (3 * m) 1) ?_
  refine x_iald (pc' := 36) (N := 18) (x := 0) rfl rfl rfl (Eq.trans (b := sN t _ _) rfl (z_N_21_6 e)) (io_in (p := ((3 * m) + 1)) (N := 18) (show ((3 * m) + 1) < 18 by omega) (by decide)) (Eq.trans (congrArg (sA (sIw (sLw (sNwA t 20 6) 23 0 0 (0 : Int64)) 768 0 0) 21 6) (nn_io (p := ((3 * m) + 1)) (Nat.lt_trans (show ((3 * m) + 1) < 18 by omega) (by decide)))) (Eq.trans rdAI (Eq.trans rdAL (Eq.trans rdAnwa (z_A_21_6_y e _))))) ?_
  refine x_iload (pc' := 38) rfl rfl rfl ?_
  refine x_if (a' := 46) (pc' := 41) (z := true) rfl rfl rfl (by decide) (fun _ => ?_) (fun h => by cases h)
  refine x_iload (pc' := 48) rfl rfl rfl ?_
  refine x_ineg (pc' := 49) (z := 0) rfl rfl (by decide) ?_
  refine x_iadd (pc' := 50) (z := 0) rfl rfl (by decide) ?_
  refine x_reti rfl rfl ?_
  refine sK_i (pc' := 25) rfl ?_
  refine x_aload_n (pc' := 26) rfl rfl rfl rfl rfl ?_
  refine x_iload_n (pc' := 27) rfl rfl rfl ?_
  refine x_iconst (pc' := 28) rfl rfl ?_
  refine x_iload_n (pc' := 29) rfl rfl rfl ?_
  refine x_cv (ls0 := [_, _, _, _, sJk, sJk]) (rest := [_, _, _]) rfl rfl rfl rfl rfl ?_
  refine x_iload_n (pc' := 1) rfl rfl rfl ?_
  refine x_iload_n (pc' := 2) rfl rfl rfl ?_
  refine x_ishr (pc' := 3) (z := 0) rfl rfl (by decide) ?_
  refine x_iconst (pc' := 4) rfl rfl ?_
  refine x_iand (pc' := 5) (z := 0) rfl rfl (by decide) ?_
  refine x_iconst (pc' := 6) rfl rfl ?_
  refine x_icmp (a' := 13) (pc' := 9) (z := true) rfl rfl rfl (by decide) (fun _ => ?_) (fun h => by cases h)
  refine x_iconst (pc' := 14) rfl rfl ?_
  refine x_istore (pc' := 16) (ls' := [_, _, _, _, _, _]) rfl rfl rfl rfl ?_
  refine x_aload_n (pc' := 17) rfl rfl rfl rfl rfl ?_
  refine x_iload_n (pc' := 18) rfl rfl rfl ?_
  refine x_iload_n (pc' := 19) rfl rfl rfl ?_
  refine x_iload (pc' := 21) rfl rfl rfl ?_
  refine x_cv (ls0 := [_, _, _, _, sJk, sJk, sJk, sJk, sJk]) (rest := []) rfl rfl rfl rfl rfl ?_
  refine x_iconst (pc' := 1) rfl rfl ?_
  refine x_istore (pc' := 3) (ls' := [_, _, _, _, _, _, _, _, _]) rfl rfl rfl rfl ?_
  refine x_iconst (pc' := 4) rfl rfl ?_
  refine x_istore (pc' := 6) (ls' := [_, _, _, _, _, _, _, _, _]) rfl rfl rfl rfl ?_
  refine x_iload (pc' := 8) rfl rfl rfl ?_
  refine x_aload_n (pc' := 9) rfl rfl rfl rfl rfl ?_
  refine x_gI (pc' := 12) (x := 0) rfl rfl rfl (Eq.trans (rdI_F rfl) (Eq.trans rdIL (Eq.trans rdInwa (z_I_786_0 e)))) ?_
  refine x_icmp (a' := 190) (pc' := 15) (z := true) rfl rfl rfl (by decide) (fun _ => ?_) (fun h => by cases h)
  refine x_iload (pc' := 192) rfl rfl rfl ?_
  refine x_reti rfl rfl ?_
  refine sK_i (pc' := 24) rfl ?_
  refine x_istore (pc' := 26) (ls' := [_, _, _, _, _, _]) rfl rfl rfl rfl ?_
  refine x_aload_n (pc' := 27) rfl rfl rfl rfl rfl ?_
  refine x_gR (pc' := 30) (r := (some 6)) rfl rfl rfl (Eq.trans rdRI (Eq.trans rdRL (Eq.trans rdRnwa (z_R_776_0 e)))) ?_
  refine x_iconst (pc' := 31) rfl rfl ?_
  refine x_iload_n (pc' := 32) rfl rfl rfl ?_
  refine x_imul (pc' := 33) (z := (io (3 * m))) rfl rfl (io_mul 3 m) ?_
  refine x_iload_n (pc' := 34) rfl rfl rfl ?_
  refine x_iadd (pc' := 35) (z := (io ((3 * m) + 2))) rfl rfl (io_add (3 * m) 2) ?_
  refine x_iald (pc' := 36) (N := 18) (x := 0) rfl rfl rfl (Eq.trans (b := sN t _ _) rfl (z_N_21_6 e)) (io_in (p := ((3 * m) + 2)) (N := 18) (show ((3 * m) + 2) < 18 by omega) (by decide)) (Eq.trans (congrArg (sA (sIw (sLw (sNwA t 20 6) 23 0 0 (0 : Int64)) 768 0 0) 21 6) (nn_io (p := ((3 * m) + 2)) (Nat.lt_trans (show ((3 * m) + 2) < 18 by omega) (by decide)))) (Eq.trans rdAI (Eq.trans rdAL (Eq.trans rdAnwa (z_A_21_6_y e _))))) ?_
  refine x_iload (pc' := 38) rfl rfl rfl ?_
  refine x_if (a' := 46) (pc' := 41) (z := true) rfl rfl rfl (by decide) (fun _ => ?_) (fun h => by cases h)
  refine x_iload (pc' := 48) rfl rfl rfl ?_
  refine x_ineg (pc' := 49) (z := 0) rfl rfl (by decide) ?_
  refine x_iadd (pc' := 50) (z := 0) rfl rfl (by decide) ?_
  refine x_reti rfl rfl ?_
  refine sK_i (pc' := 32) rfl ?_
  refine x_cv (ls0 := [_, _, _, _, sJk, sJk, sJk]) (rest := []) rfl rfl rfl rfl rfl ?_
  refine x_iconst (pc' := 1) rfl rfl ?_
  refine x_istore (pc' := 3) (ls' := [_, _, _, _, _, _, _]) rfl rfl rfl rfl ?_
  refine x_iconst (pc' := 4) rfl rfl ?_
  refine x_istore (pc' := 6) (ls' := [_, _, _, _, _, _, _]) rfl rfl rfl rfl ?_
  refine x_iload (pc' := 8) rfl rfl rfl ?_
  refine x_bipush (pc' := 10) rfl rfl ?_
  refine x_icmp (a' := 77) (pc' := 13) (z := false) rfl rfl rfl (by decide) (fun h => by cases h) (fun _ => ?_)
  refine x_iload_n (pc' := 14) rfl rfl rfl ?_
  refine x_aload_n (pc' := 15) rfl rfl rfl rfl rfl ?_
  refine x_gR (pc' := 18) (r := (some 11)) rfl rfl rfl (Eq.trans rdRI (Eq.trans rdRL (Eq.trans rdRnwa (z_R_783_0 e)))) ?_
  refine x_iconst (pc' := 19) rfl rfl ?_
  refine x_iload (pc' := 21) rfl rfl rfl ?_
  refine x_imul (pc' := 22) (z := 0) rfl rfl (by decide) ?_
  refine x_iald (pc' := 23) (N := 18) (x := 0) rfl rfl rfl (Eq.trans (b := sN t _ _) rfl (z_N_21_11 e)) (io_in (p := 0) (N := 18) (by decide) (by decide)) (Eq.trans (congrArg (sA (sIw (sLw (sNwA t 20 6) 23 0 0 (0 : Int64)) 768 0 0) 21 11) (nn_io (p := 0) (by decide))) (Eq.trans rdAI (Eq.trans rdAL (Eq.trans rdAnwa (z_A_21_11_0 e))))) ?_
  refine x_imul (pc' := 24) (z := 0) rfl rfl (by decide) ?_
  refine x_iload_n (pc' := 25) rfl rfl rfl ?_
  refine x_aload_n (pc' := 26) rfl rfl rfl rfl rfl ?_
  refine x_gR (pc' := 29) (r := (some 11)) rfl rfl rfl (Eq.trans rdRI (Eq.trans rdRL (Eq.trans rdRnwa (z_R_783_0 e)))) ?_
  refine x_iconst (pc' := 30) rfl rfl ?_
  refine x_iload (pc' := 32) rfl rfl rfl ?_
  refine x_imul (pc' := 33) (z := 0) rfl rfl (by decide) ?_
  refine x_iconst (pc' := 34) rfl rfl ?_
  refine x_iadd (pc' := 35) (z := 1) rfl rfl (by decide) ?_
  refine x_iald (pc' := 36) (N := 18) (x := 0) rfl rfl rfl (Eq.trans (b := sN t _ _) rfl (z_N_21_11 e)) (io_in (p := 1) (N := 18) (by decide) (by decide)) (Eq.trans (congrArg (sA (sIw (sLw (sNwA t 20 6) 23 0 0 (0 : Int64)) 768 0 0) 21 11) (nn_io (p := 1) (by decide))) (Eq.trans rdAI (Eq.trans rdAL (Eq.trans rdAnwa (z_A_21_11_1 e))))) ?_
  refine x_imul (pc' := 37) (z := 0) rfl rfl (by decide) ?_
  refine x_iadd (pc' := 38) (z := 0) rfl rfl (by decide) ?_
  refine x_iload_n (pc' := 39) rfl rfl rfl ?_
  refine x_aload_n (pc' := 40) rfl rfl rfl rfl rfl ?_
  refine x_gR (pc' := 43) (r := (some 11)) rfl rfl rfl (Eq.trans rdRI (Eq.trans rdRL (Eq.trans rdRnwa (z_R_783_0 e)))) ?_
  refine x_iconst (pc' := 44) rfl rfl ?_
  refine x_iload (pc' := 46) rfl rfl rfl ?_
  refine x_imul (pc' := 47) (z := 0) rfl rfl (by decide) ?_
  refine x_iconst (pc' := 48) rfl rfl ?_
  refine x_iadd (pc' := 49) (z := 2) rfl rfl (by decide) ?_
  refine x_iald (pc' := 50) (N := 18) (x := 0) rfl rfl rfl (Eq.trans (b := sN t _ _) rfl (z_N_21_11 e)) (io_in (p := 2) (N := 18) (by decide) (by decide)) (Eq.trans (congrArg (sA (sIw (sLw (sNwA t 20 6) 23 0 0 (0 : Int64)) 768 0 0) 21 11) (nn_io (p := 2) (by decide))) (Eq.trans rdAI (Eq.trans rdAL (Eq.trans rdAnwa (z_A_21_11_2 e))))) ?_
  refine x_imul (pc' := 51) (z := 0) rfl rfl (by decide) ?_
  refine x_iadd (pc' := 52) (z := 0) rfl rfl (by decide) ?_
  refine x_ineg (pc' := 53) (z := 0) rfl rfl (by decide) ?_
  refine x_istore (pc' := 55) (ls' := [_, _, _, _, _, _, _]) rfl rfl rfl rfl ?_
  refine x_iload (pc' := 57) rfl rfl rfl ?_
  refine x_iload (pc' := 59) rfl rfl rfl ?_
  refine x_icmp (a' := 67) (pc' := 62) (z := true) rfl rfl rfl (by decide) (fun _ => ?_) (fun h => by cases h)
  refine x_iload (pc' := 69) rfl rfl rfl ?_
  refine x_istore (pc' := 71) (ls' := [_, _, _, _, _, _, _]) rfl rfl rfl rfl ?_
  refine x_iinc (pc' := 74) (y := 1) (ls' := [_, _, _, _, _, _, _]) rfl rfl rfl rfl rfl ?_
  refine x_goto (pc' := 6) rfl rfl ?_
  refine x_iload (pc' := 8) rfl rfl rfl ?_
  refine x_bipush (pc' := 10) rfl rfl ?_
  refine x_icmp (a' := 77) (pc' := 13) (z := false) rfl rfl rfl (by decide) (fun h => by cases h) (fun _ => ?_)
  refine x_iload_n (pc' := 14) rfl rfl rfl ?_
  refine x_aload_n (pc' := 15) rfl rfl rfl rfl rfl ?_
  refine x_gR (pc' := 18) (r := (some 11)) rfl rfl rfl (Eq.trans rdRI (Eq.trans rdRL (Eq.trans rdRnwa (z_R_783_0 e)))) ?_
  refine x_iconst (pc' := 19) rfl rfl ?_
  refine x_iload (pc' := 21) rfl rfl rfl ?_
  refine x_imul (pc' := 22) (z := 3) rfl rfl (by decide) ?_
  refine x_iald (pc' := 23) (N := 18) (x := 0) rfl rfl rfl (Eq.trans (b := sN t _ _) rfl (z_N_21_11 e)) (io_in (p := 3) (N := 18) (by decide) (by decide)) (Eq.trans (congrArg (sA (sIw (sLw (sNwA t 20 6) 23 0 0 (0 : Int64)) 768 0 0) 21 11) (nn_io (p := 3) (by decide))) (Eq.trans rdAI (Eq.trans rdAL (Eq.trans rdAnwa (z_A_21_11_3 e))))) ?_
  refine x_imul (pc' := 24) (z := 0) rfl rfl (by decide) ?_
  refine x_iload_n (pc' := 25) rfl rfl rfl ?_
  refine x_aload_n (pc' := 26) rfl rfl rfl rfl rfl ?_
  refine x_gR (pc' := 29) (r := (some 11)) rfl rfl rfl (Eq.trans rdRI (Eq.trans rdRL (Eq.trans rdRnwa (z_R_783_0 e)))) ?_
  refine x_iconst (pc' := 30) rfl rfl ?_
  refine x_iload (pc' := 32) rfl rfl rfl ?_
  refine x_imul (pc' := 33) (z := 3) rfl rfl (by decide) ?_
  refine x_iconst (pc' := 34) rfl rfl ?_
  refine x_iadd (pc' := 35) (z := 4) rfl rfl (by decide) ?_
  refine x_iald (pc' := 36) (N := 18) (x := 0) rfl rfl rfl (Eq.trans (b := sN t _ _) rfl (z_N_21_11 e)) (io_in (p := 4) (N := 18) (by decide) (by decide)) (Eq.trans (congrArg (sA (sIw (sLw (sNwA t 20 6) 23 0 0 (0 : Int64)) 768 0 0) 21 11) (nn_io (p := 4) (by decide))) (Eq.trans rdAI (Eq.trans rdAL (Eq.trans rdAnwa (z_A_21_11_4 e))))) ?_
  refine x_imul (pc' := 37) (z := 0) rfl rfl (by decide) ?_
  refine x_iadd (pc' := 38) (z := 0) rfl rfl (by decide) ?_
  refine x_iload_n (pc' := 39) rfl rfl rfl ?_
  refine x_aload_n (pc' := 40) rfl rfl rfl rfl rfl ?_
  refine x_gR (pc' := 43) (r := (some 11)) rfl rfl rfl (Eq.trans rdRI (Eq.trans rdRL (Eq.trans rdRnwa (z_R_783_0 e)))) ?_
  refine x_iconst (pc' := 44) rfl rfl ?_
  refine x_iload (pc' := 46) rfl rfl rfl ?_
  refine x_imul (pc' := 47) (z := 3) rfl rfl (by decide) ?_
  refine x_iconst (pc' := 48) rfl rfl ?_
  refine x_iadd (pc' := 49) (z := 5) rfl rfl (by decide) ?_
  refine x_iald (pc' := 50) (N := 18) (x := 0) rfl rfl rfl (Eq.trans (b := sN t _ _) rfl (z_N_21_11 e)) (io_in (p := 5) (N := 18) (by decide) (by decide)) (Eq.trans (congrArg (sA (sIw (sLw (sNwA t 20 6) 23 0 0 (0 : Int64)) 768 0 0) 21 11) (nn_io (p := 5) (by decide))) (Eq.trans rdAI (Eq.trans rdAL (Eq.trans rdAnwa (z_A_21_11_5 e))))) ?_
  refine x_imul (pc' := 51) (z := 0) rfl rfl (by decide) ?_
  refine x_iadd (pc' := 52) (z := 0) rfl rfl (by decide) ?_
  refine x_ineg (pc' := 53) (z := 0) rfl rfl (by decide) ?_
  refine x_istore (pc' := 55) (ls' := [_, _, _, _, _, _, _]) rfl rfl rfl rfl ?_
  refine x_iload (pc' := 57) rfl rfl rfl ?_
  refine x_iload (pc' := 59) rfl rfl rfl ?_
  refine x_icmp (a' := 67) (pc' := 62) (z := true) rfl rfl rfl (by decide) (fun _ => ?_) (fun h => by cases h)
  refine x_iload (pc' := 69) rfl rfl rfl ?_
  refine x_istore (pc' := 71) (ls' := [_, _, _, _, _, _, _]) rfl rfl rfl rfl ?_
  refine x_iinc (pc' := 74) (y := 2) (ls' := [_, _, _, _, _, _, _]) rfl rfl rfl rfl rfl ?_
  refine x_goto (pc' := 6) rfl rfl ?_
  refine x_iload (pc' := 8) rfl rfl rfl ?_
  refine x_bipush (pc' := 10) rfl rfl ?_
  refine x_icmp (a' := 77) (pc' := 13) (z := false) rfl rfl rfl (by decide) (fun h => by cases h) (fun _ => ?_)
  refine x_iload_n (pc' := 14) rfl rfl rfl ?_
  refine x_aload_n (pc' := 15) rfl rfl rfl rfl rfl ?_
  refine x_gR (pc' := 18) (r := (some 11)) rfl rfl rfl (Eq.trans rdRI (Eq.trans rdRL (Eq.trans rdRnwa (z_R_783_0 e)))) ?_
  refine x_iconst (pc' := 19) rfl rfl ?_
  refine x_iload (pc' := 21) rfl rfl rfl ?_
  refine x_imul (pc' := 22) (z := 6) rfl rfl (by decide) ?_
  refine x_iald (pc' := 23) (N := 18) (x := 0) rfl rfl rfl (Eq.trans (b := sN t _ _) rfl (z_N_21_11 e)) (io_in (p := 6) (N := 18) (by decide) (by decide)) (Eq.trans (congrArg (sA (sIw (sLw (sNwA t 20 6) 23 0 0 (0 : Int64)) 768 0 0) 21 11) (nn_io (p := 6) (by decide))) (Eq.trans rdAI (Eq.trans rdAL (Eq.trans rdAnwa (z_A_21_11_6 e))))) ?_
  refine x_imul (pc' := 24) (z := 0) rfl rfl (by decide) ?_
  refine x_iload_n (pc' := 25) rfl rfl rfl ?_
  refine x_aload_n (pc' := 26) rfl rfl rfl rfl rfl ?_
  refine x_gR (pc' := 29) (r := (some 11)) rfl rfl rfl (Eq.trans rdRI (Eq.trans rdRL (Eq.trans rdRnwa (z_R_783_0 e)))) ?_
  refine x_iconst (pc' := 30) rfl rfl ?_
  refine x_iload (pc' := 32) rfl rfl rfl ?_
  refine x_imul (pc' := 33) (z := 6) rfl rfl (by decide) ?_
  refine x_iconst (pc' := 34) rfl rfl ?_
  refine x_iadd (pc' := 35) (z := 7) rfl rfl (by decide) ?_
  refine x_iald (pc' := 36) (N := 18) (x := 0) rfl rfl rfl (Eq.trans (b := sN t _ _) rfl (z_N_21_11 e)) (io_in (p := 7) (N := 18) (by decide) (by decide)) (Eq.trans (congrArg (sA (sIw (sLw (sNwA t 20 6) 23 0 0 (0 : Int64)) 768 0 0) 21 11) (nn_io (p := 7) (by decide))) (Eq.trans rdAI (Eq.trans rdAL (Eq.trans rdAnwa (z_A_21_11_7 e))))) ?_
  refine x_imul (pc' := 37) (z := 0) rfl rfl (by decide) ?_
  refine x_iadd (pc' := 38) (z := 0) rfl rfl (by decide) ?_
  refine x_iload_n (pc' := 39) rfl rfl rfl ?_
  refine x_aload_n (pc' := 40) rfl rfl rfl rfl rfl ?_
  refine x_gR (pc' := 43) (r := (some 11)) rfl rfl rfl (Eq.trans rdRI (Eq.trans rdRL (Eq.trans rdRnwa (z_R_783_0 e)))) ?_
  refine x_iconst (pc' := 44) rfl rfl ?_
  refine x_iload (pc' := 46) rfl rfl rfl ?_
  refine x_imul (pc' := 47) (z := 6) rfl rfl (by decide) ?_
  refine x_iconst (pc' := 48) rfl rfl ?_
  refine x_iadd (pc' := 49) (z := 8) rfl rfl (by decide) ?_
  refine x_iald (pc' := 50) (N := 18) (x := 0) rfl rfl rfl (Eq.trans (b := sN t _ _) rfl (z_N_21_11 e)) (io_in (p := 8) (N := 18) (by decide) (by decide)) (Eq.trans (congrArg (sA (sIw (sLw (sNwA t 20 6) 23 0 0 (0 : Int64)) 768 0 0) 21 11) (nn_io (p := 8) (by decide))) (Eq.trans rdAI (Eq.trans rdAL (Eq.trans rdAnwa (z_A_21_11_8 e))))) ?_
  refine x_imul (pc' := 51) (z := 0) rfl rfl (by decide) ?_
  refine x_iadd (pc' := 52) (z := 0) rfl rfl (by decide) ?_
  refine x_ineg (pc' := 53) (z := 0) rfl rfl (by decide) ?_
  refine x_istore (pc' := 55) (ls' := [_, _, _, _, _, _, _]) rfl rfl rfl rfl ?_
  refine x_iload (pc' := 57) rfl rfl rfl ?_
  refine x_iload (pc' := 59) rfl rfl rfl ?_
  refine x_icmp (a' := 67) (pc' := 62) (z := true) rfl rfl rfl (by decide) (fun _ => ?_) (fun h => by cases h)
  refine x_iload (pc' := 69) rfl rfl rfl ?_
  refine x_istore (pc' := 71) (ls' := [_, _, _, _, _, _, _]) rfl rfl rfl rfl ?_
  refine x_iinc (pc' := 74) (y := 3) (ls' := [_, _, _, _, _, _, _]) rfl rfl rfl rfl rfl ?_
  refine x_goto (pc' := 6) rfl rfl ?_
  refine x_iload (pc' := 8) rfl rfl rfl ?_
  refine x_bipush (pc' := 10) rfl rfl ?_
  refine x_icmp (a' := 77) (pc' := 13) (z := false) rfl rfl rfl (by decide) (fun h => by cases h) (fun _ => ?_)
  refine x_iload_n (pc' := 14) rfl rfl rfl ?_
  refine x_aload_n (pc' := 15) rfl rfl rfl rfl rfl ?_
  refine x_gR (pc' := 18) (r := (some 11)) rfl rfl rfl (Eq.trans rdRI (Eq.trans rdRL (Eq.trans rdRnwa (z_R_783_0 e)))) ?_
  refine x_iconst (pc' := 19) rfl rfl ?_
  refine x_iload (pc' := 21) rfl rfl rfl ?_
  refine x_imul (pc' := 22) (z := 9) rfl rfl (by decide) ?_
  refine x_iald (pc' := 23) (N := 18) (x := 0) rfl rfl rfl (Eq.trans (b := sN t _ _) rfl (z_N_21_11 e)) (io_in (p := 9) (N := 18) (by decide) (by decide)) (Eq.trans (congrArg (sA (sIw (sLw (sNwA t 20 6) 23 0 0 (0 : Int64)) 768 0 0) 21 11) (nn_io (p := 9) (by decide))) (Eq.trans rdAI (Eq.trans rdAL (Eq.trans rdAnwa (z_A_21_11_9 e))))) ?_
  refine x_imul (pc' := 24) (z := 0) rfl rfl (by decide) ?_
  refine x_iload_n (pc' := 25) rfl rfl rfl ?_
  refine x_aload_n (pc' := 26) rfl rfl rfl rfl rfl ?_
  refine x_gR (pc' := 29) (r := (some 11)) rfl rfl rfl (Eq.trans rdRI (Eq.trans rdRL (Eq.trans rdRnwa (z_R_783_0 e)))) ?_
  refine x_iconst (pc' := 30) rfl rfl ?_
  refine x_iload (pc' := 32) rfl rfl rfl ?_
  refine x_imul (pc' := 33) (z := 9) rfl rfl (by decide) ?_
  refine x_iconst (pc' := 34) rfl rfl ?_
  refine x_iadd (pc' := 35) (z := 10) rfl rfl (by decide) ?_
  refine x_iald (pc' := 36) (N := 18) (x := 0) rfl rfl rfl (Eq.trans (b := sN t _ _) rfl (z_N_21_11 e)) (io_in (p := 10) (N := 18) (by decide) (by decide)) (Eq.trans (congrArg (sA (sIw (sLw (sNwA t 20 6) 23 0 0 (0 : Int64)) 768 0 0) 21 11) (nn_io (p := 10) (by decide))) (Eq.trans rdAI (Eq.trans rdAL (Eq.trans rdAnwa (z_A_21_11_10 e))))) ?_
  refine x_imul (pc' := 37) (z := 0) rfl rfl (by decide) ?_
  refine x_iadd (pc' := 38) (z := 0) rfl rfl (by decide) ?_
  refine x_iload_n (pc' := 39) rfl rfl rfl ?_
  refine x_aload_n (pc' := 40) rfl rfl rfl rfl rfl ?_
  refine x_gR (pc' := 43) (r := (some 11)) rfl rfl rfl (Eq.trans rdRI (Eq.trans rdRL (Eq.trans rdRnwa (z_R_783_0 e)))) ?_
  refine x_iconst (pc' := 44) rfl rfl ?_
  refine x_iload (pc' := 46) rfl rfl rfl ?_
  refine x_imul (pc' := 47) (z := 9) rfl rfl (by decide) ?_
  refine x_iconst (pc' := 48) rfl rfl ?_
  refine x_iadd (pc' := 49) (z := 11) rfl rfl (by decide) ?_
  refine x_iald (pc' := 50) (N := 18) (x := 0) rfl rfl rfl (Eq.trans (b := sN t _ _) rfl (z_N_21_11 e)) (io_in (p := 11) (N := 18) (by decide) (by decide)) (Eq.trans (congrArg (sA (sIw (sLw (sNwA t 20 6) 23 0 0 (0 : Int64)) 768 0 0) 21 11) (nn_io (p := 11) (by decide))) (Eq.trans rdAI (Eq.trans rdAL (Eq.trans rdAnwa (z_A_21_11_11 e))))) ?_
  refine x_imul (pc' := 51) (z := 0) rfl rfl (by decide) ?_
  refine x_iadd (pc' := 52) (z := 0) rfl rfl (by decide) ?_
  refine x_ineg (pc' := 53) (z := 0) rfl rfl (by decide) ?_
  refine x_istore (pc' := 55) (ls' := [_, _, _, _, _, _, _]) rfl rfl rfl rfl ?_
  refine x_iload (pc' := 57) rfl rfl rfl ?_
  refine x_iload (pc' := 59) rfl rfl rfl ?_
  refine x_icmp (a' := 67) (pc' := 62) (z := true) rfl rfl rfl (by decide) (fun _ => ?_) (fun h => by cases h)
  refine x_iload (pc' := 69) rfl rfl rfl ?_
  refine x_istore (pc' := 71) (ls' := [_, _, _, _, _, _, _]) rfl rfl rfl rfl ?_
  refine x_iinc (pc' := 74) (y := 4) (ls' := [_, _, _, _, _, _, _]) rfl rfl rfl rfl rfl ?_
  refine x_goto (pc' := 6) rfl rfl ?_
  refine x_iload (pc' := 8) rfl rfl rfl ?_
  refine x_bipush (pc' := 10) rfl rfl ?_
  refine x_icmp (a' := 77) (pc' := 13) (z := false) rfl rfl rfl (by decide) (fun h => by cases h) (fun _ => ?_)
  refine x_iload_n (pc' := 14) rfl rfl rfl ?_
  refine x_aload_n (pc' := 15) rfl rfl rfl rfl rfl ?_
  refine x_gR (pc' := 18) (r := (some 11)) rfl rfl rfl (Eq.trans rdRI (Eq.trans rdRL (Eq.trans rdRnwa (z_R_783_0 e)))) ?_
  refine x_iconst (pc' := 19) rfl rfl ?_
  refine x_iload (pc' := 21) rfl rfl rfl ?_
  refine x_imul (pc' := 22) (z := 12) rfl rfl (by decide) ?_
  refine x_iald (pc' := 23) (N := 18) (x := 0) rfl rfl rfl (Eq.trans (b := sN t _ _) rfl (z_N_21_11 e)) (io_in (p := 12) (N := 18) (by decide) (by decide)) (Eq.trans (congrArg (sA (sIw (sLw (sNwA t 20 6) 23 0 0 (0 : Int64)) 768 0 0) 21 11) (nn_io (p := 12) (by decide))) (Eq.trans rdAI (Eq.trans rdAL (Eq.trans rdAnwa (z_A_21_11_12 e))))) ?_
  refine x_imul (pc' := 24) (z := 0) rfl rfl (by decide) ?_
  refine x_iload_n (pc' := 25) rfl rfl rfl ?_
  refine x_aload_n (pc' := 26) rfl rfl rfl rfl rfl ?_
  refine x_gR (pc' := 29) (r := (some 11)) rfl rfl rfl (Eq.trans rdRI (Eq.trans rdRL (Eq.trans rdRnwa (z_R_783_0 e)))) ?_
  refine x_iconst (pc' := 30) rfl rfl ?_
  refine x_iload (pc' := 32) rfl rfl rfl ?_
  refine x_imul (pc' := 33) (z := 12) rfl rfl (by decide) ?_
  refine x_iconst (pc' := 34) rfl rfl ?_
  refine x_iadd (pc' := 35) (z := 13) rfl rfl (by decide) ?_
  refine x_iald (pc' := 36) (N := 18) (x := 0) rfl rfl rfl (Eq.trans (b := sN t _ _) rfl (z_N_21_11 e)) (io_in (p := 13) (N := 18) (by decide) (by decide)) (Eq.trans (congrArg (sA (sIw (sLw (sNwA t 20 6) 23 0 0 (0 : Int64)) 768 0 0) 21 11) (nn_io (p := 13) (by decide))) (Eq.trans rdAI (Eq.trans rdAL (Eq.trans rdAnwa (z_A_21_11_13 e))))) ?_
  refine x_imul (pc' := 37) (z := 0) rfl rfl (by decide) ?_
  refine x_iadd (pc' := 38) (z := 0) rfl rfl (by decide) ?_
  refine x_iload_n (pc' := 39) rfl rfl rfl ?_
  refine x_aload_n (pc' := 40) rfl rfl rfl rfl rfl ?_
  refine x_gR (pc' := 43) (r := (some 11)) rfl rfl rfl (Eq.trans rdRI (Eq.trans rdRL (Eq.trans rdRnwa (z_R_783_0 e)))) ?_
  refine x_iconst (pc' := 44) rfl rfl ?_
  refine x_iload (pc' := 46) rfl rfl rfl ?_
  refine x_imul (pc' := 47) (z := 12) rfl rfl (by decide) ?_
  refine x_iconst (pc' := 48) rfl rfl ?_
  refine x_iadd (pc' := 49) (z := 14) rfl rfl (by decide) ?_
  refine x_iald (pc' := 50) (N := 18) (x := 0) rfl rfl rfl (Eq.trans (b := sN t _ _) rfl (z_N_21_11 e)) (io_in (p := 14) (N := 18) (by decide) (by decide)) (Eq.trans (congrArg (sA (sIw (sLw (sNwA t 20 6) 23 0 0 (0 : Int64)) 768 0 0) 21 11) (nn_io (p := 14) (by decide))) (Eq.trans rdAI (Eq.trans rdAL (Eq.trans rdAnwa (z_A_21_11_14 e))))) ?_
  refine x_imul (pc' := 51) (z := 0) rfl rfl (by decide) ?_
  refine x_iadd (pc' := 52) (z := 0) rfl rfl (by decide) ?_
  refine x_ineg (pc' := 53) (z := 0) rfl rfl (by decide) ?_
  refine x_istore (pc' := 55) (ls' := [_, _, _, _, _, _, _]) rfl rfl rfl rfl ?_
  refine x_iload (pc' := 57) rfl rfl rfl ?_
  refine x_iload (pc' := 59) rfl rfl rfl ?_
  refine x_icmp (a' := 67) (pc' := 62) (z := true) rfl rfl rfl (by decide) (fun _ => ?_) (fun h => by cases h)
  refine x_iload (pc' := 69) rfl rfl rfl ?_
  refine x_istore (pc' := 71) (ls' := [_, _, _, _, _, _, _]) rfl rfl rfl rfl ?_
  refine x_iinc (pc' := 74) (y := 5) (ls' := [_, _, _, _, _, _, _]) rfl rfl rfl rfl rfl ?_
  refine x_goto (pc' := 6) rfl rfl ?_
  refine x_iload (pc' := 8) rfl rfl rfl ?_
  refine x_bipush (pc' := 10) rfl rfl ?_
  refine x_icmp (a' := 77) (pc' := 13) (z := false) rfl rfl rfl (by decide) (fun h => by cases h) (fun _ => ?_)
  refine x_iload_n (pc' := 14) rfl rfl rfl ?_
  refine x_aload_n (pc' := 15) rfl rfl rfl rfl rfl ?_
  refine x_gR (pc' := 18) (r := (some 11)) rfl rfl rfl (Eq.trans rdRI (Eq.trans rdRL (Eq.trans rdRnwa (z_R_783_0 e)))) ?_
  refine x_iconst (pc' := 19) rfl rfl ?_
  refine x_iload (pc' := 21) rfl rfl rfl ?_
  refine x_imul (pc' := 22) (z := 15) rfl rfl (by decide) ?_
  refine x_iald (pc' := 23) (N := 18) (x := 0) rfl rfl rfl (Eq.trans (b := sN t _ _) rfl (z_N_21_11 e)) (io_in (p := 15) (N := 18) (by decide) (by decide)) (Eq.trans (congrArg (sA (sIw (sLw (sNwA t 20 6) 23 0 0 (0 : Int64)) 768 0 0) 21 11) (nn_io (p := 15) (by decide))) (Eq.trans rdAI (Eq.trans rdAL (Eq.trans rdAnwa (z_A_21_11_15 e))))) ?_
  refine x_imul (pc' := 24) (z := 0) rfl rfl (by decide) ?_
  refine x_iload_n (pc' := 25) rfl rfl rfl ?_
  refine x_aload_n (pc' := 26) rfl rfl rfl rfl rfl ?_
  refine x_gR (pc' := 29) (r := (some 11)) rfl rfl rfl (Eq.trans rdRI (Eq.trans rdRL (Eq.trans rdRnwa (z_R_783_0 e)))) ?_
  refine x_iconst (pc' := 30) rfl rfl ?_
  refine x_iload (pc' := 32) rfl rfl rfl ?_
  refine x_imul (pc' := 33) (z := 15) rfl rfl (by decide) ?_
  refine x_iconst (pc' := 34) rfl rfl ?_
  refine x_iadd (pc' := 35) (z := 16) rfl rfl (by decide) ?_
  refine x_iald (pc' := 36) (N := 18) (x := 0) rfl rfl rfl (Eq.trans (b := sN t _ _) rfl (z_N_21_11 e)) (io_in (p := 16) (N := 18) (by decide) (by decide)) (Eq.trans (congrArg (sA (sIw (sLw (sNwA t 20 6) 23 0 0 (0 : Int64)) 768 0 0) 21 11) (nn_io (p := 16) (by decide))) (Eq.trans rdAI (Eq.trans rdAL (Eq.trans rdAnwa (z_A_21_11_16 e))))) ?_
  refine x_imul (pc' := 37) (z := 0) rfl rfl (by decide) ?_
  refine x_iadd (pc' := 38) (z := 0) rfl rfl (by decide) ?_
  refine x_iload_n (pc' := 39) rfl rfl rfl ?_
  refine x_aload_n (pc' := 40) rfl rfl rfl rfl rfl ?_
  refine x_gR (pc' := 43) (r := (some 11)) rfl rfl rfl (Eq.trans rdRI (Eq.trans rdRL (Eq.trans rdRnwa (z_R_783_0 e)))) ?_
  refine x_iconst (pc' := 44) rfl rfl ?_
  refine x_iload (pc' := 46) rfl rfl rfl ?_
  refine x_imul (pc' := 47) (z := 15) rfl rfl (by decide) ?_
  refine x_iconst (pc' := 48) rfl rfl ?_
  refine x_iadd (pc' := 49) (z := 17) rfl rfl (by decide) ?_
  refine x_iald (pc' := 50) (N := 18) (x := 0) rfl rfl rfl (Eq.trans (b := sN t _ _) rfl (z_N_21_11 e)) (io_in (p := 17) (N := 18) (by decide) (by decide)) (Eq.trans (congrArg (sA (sIw (sLw (sNwA t 20 6) 23 0 0 (0 : Int64)) 768 0 0) 21 11) (nn_io (p := 17) (by decide))) (Eq.trans rdAI (Eq.trans rdAL (Eq.trans rdAnwa (z_A_21_11_17 e))))) ?_
  refine x_imul (pc' := 51) (z := 0) rfl rfl (by decide) ?_
  refine x_iadd (pc' := 52) (z := 0) rfl rfl (by decide) ?_
  refine x_ineg (pc' := 53) (z := 0) rfl rfl (by decide) ?_
  refine x_istore (pc' := 55) (ls' := [_, _, _, _, _, _, _]) rfl rfl rfl rfl ?_
  refine x_iload (pc' := 57) rfl rfl rfl ?_
  refine x_iload (pc' := 59) rfl rfl rfl ?_
  refine x_icmp (a' := 67) (pc' := 62) (z := true) rfl rfl rfl (by decide) (fun _ => ?_) (fun h => by cases h)
  refine x_iload (pc' := 69) rfl rfl rfl ?_
  refine x_istore (pc' := 71) (ls' := [_, _, _, _, _, _, _]) rfl rfl rfl rfl ?_
  refine x_iinc (pc' := 74) (y := 6) (ls' := [_, _, _, _, _, _, _]) rfl rfl rfl rfl rfl ?_
  refine x_goto (pc' := 6) rfl rfl ?_
  refine x_iload (pc' := 8) rfl rfl rfl ?_
  refine x_bipush (pc' := 10) rfl rfl ?_
  refine x_icmp (a' := 77) (pc' := 13) (z := true) rfl rfl rfl (by decide) (fun _ => ?_) (fun h => by cases h)
  refine x_iload (pc' := 79) rfl rfl rfl ?_
  refine x_reti rfl rfl ?_
  refine sK_i (pc' := 35) rfl ?_
  refine x_istore (pc' := 37) (ls' := [_, _, _, _, _]) rfl rfl rfl rfl ?_
  refine x_iload (pc' := 39) rfl rfl rfl ?_
  refine x_iload_n (pc' := 40) rfl rfl rfl ?_
  refine x_icmp (a' := 48) (pc' := 43) (z := true) rfl rfl rfl (by decide) (fun _ => ?_) (fun h => by cases h)
  refine x_iload_n (pc' := 49) rfl rfl rfl ?_
  refine x_istore_n (pc' := 50) (ls' := [_, _, _, _, _]) rfl rfl rfl rfl ?_
  refine x_iinc (pc' := 53) (y := 2) (ls' := [_, _, _, _, _]) rfl rfl rfl rfl rfl ?_
  refine x_goto (pc' := 4) rfl rfl ?_
  refine x_iload_n (pc' := 5) rfl rfl rfl ?_
  refine x_bipush (pc' := 7) rfl rfl ?_
  refine x_icmp (a' := 56) (pc' := 10) (z := false) rfl rfl rfl (by decide) (fun h => by cases h) (fun _ => ?_)
  refine x_aload_n (pc' := 11) rfl rfl rfl rfl rfl ?_
  refine x_aload_n (pc' := 12) rfl rfl rfl rfl rfl ?_
  refine x_iload_n (pc' := 13) rfl rfl rfl ?_
  refine x_iconst (pc' := 14) rfl rfl ?_
  refine x_iload_n (pc' := 15) rfl rfl rfl ?_
  refine x_cv (ls0 := [_, _, _, _, sJk, sJk]) (rest := [_]) rfl rfl rfl rfl rfl ?_
  refine x_iload_n (pc' := 1) rfl rfl rfl ?_
  refine x_iload_n (pc' := 2) rfl rfl rfl ?_
  refine x_ishr (pc' := 3) (z := 2) rfl rfl (by decide) ?_
  refine x_iconst (pc' := 4) rfl rfl ?_
  refine x_iand (pc' := 5) (z := 0) rfl rfl (by decide) ?_
  refine x_iconst (pc' := 6) rfl rfl ?_
  refine x_icmp (a' := 13) (pc' := 9) (z := true) rfl rfl rfl (by decide) (fun _ => ?_) (fun h => by cases h)
  refine x_iconst (pc' := 14) rfl rfl ?_
  refine x_istore (pc' := 16) (ls' := [_, _, _, _, _, _]) rfl rfl rfl rfl ?_
  refine x_aload_n (pc' := 17) rfl rfl rfl rfl rfl ?_
  refine x_iload_n (pc' := 18) rfl rfl rfl ?_
  refine x_iload_n (pc' := 19) rfl rfl rfl ?_
  refine x_iload (pc' := 21) rfl rfl rfl ?_
  refine x_cv (ls0 := [_, _, _, _, sJk, sJk, sJk, sJk, sJk]) (rest := []) rfl rfl rfl rfl rfl ?_
  refine x_iconst (pc' := 1) rfl rfl ?_
  refine x_istore (pc' := 3) (ls' := [_, _, _, _, _, _, _, _, _]) rfl rfl rfl rfl ?_
  refine x_iconst (pc' := 4) rfl rfl ?_
  refine x_istore (pc' := 6) (ls' := [_, _, _, _, _, _, _, _, _]) rfl rfl rfl rfl ?_
  refine x_iload (pc' := 8) rfl rfl rfl ?_
  refine x_aload_n (pc' := 9) rfl rfl rfl rfl rfl ?_
  refine x_gI (pc' := 12) (x := 0) rfl rfl rfl (Eq.trans (rdI_F rfl) (Eq.trans rdIL (Eq.trans rdInwa (z_I_786_0 e)))) ?_
  refine x_icmp (a' := 190) (pc' := 15) (z := true) rfl rfl rfl (by decide) (fun _ => ?_) (fun h => by cases h)
  refine x_iload (pc' := 192) rfl rfl rfl ?_
  refine x_reti rfl rfl ?_
  refine sK_i (pc' := 24) rfl ?_
  refine x_istore (pc' := 26) (ls' := [_, _, _, _, _, _]) rfl rfl rfl rfl ?_
  refine x_aload_n (pc' := 27) rfl rfl rfl rfl rfl ?_
  refine x_gR (pc' := 30) (r := (some 6)) rfl rfl rfl (Eq.trans rdRI (Eq.trans rdRL (Eq.trans rdRnwa (z_R_776_0 e)))) ?_
  refine x_iconst (pc' := 31) rfl rfl ?_
  refine x_iload_n (pc' := 32) rfl rfl rfl ?_
  refine x_imul (pc' := 33) (z := (io (3 * m))) rfl rfl (io_mul 3 m) ?_
  refine x_iload_n (pc' := 34) rfl rfl rfl ?_
  refine x_iadd (pc' := 35) (z := (io ((3 * m) + 0))) rfl rfl (io_add (3 * m) 0) ?_
  refine x_iald (pc' := 36) (N := 18) (x := 0) rfl rfl rfl (Eq.trans (b := sN t _ _) rfl (z_N_21_6 e)) (io_in (p := ((3 * m) + 0)) (N := 18) (show ((3 * m) + 0) < 18 by omega) (by decide)) (Eq.trans (congrArg (sA (sIw (sLw (sNwA t 20 6) 23 0 0 (0 : Int64)) 768 0 0) 21 6) (nn_io (p := ((3 * m) + 0)) (Nat.lt_trans (show ((3 * m) + 0) < 18 by omega) (by decide)))) (Eq.trans rdAI (Eq.trans rdAL (Eq.trans rdAnwa (z_A_21_6_y e _))))) ?_
  refine x_iload (pc' := 38) rfl rfl rfl ?_
  refine x_if (a' := 46) (pc' := 41) (z := true) rfl rfl rfl (by decide) (fun _ => ?_) (fun h => by cases h)
  refine x_iload (pc' := 48) rfl rfl rfl ?_
  refine x_ineg (pc' := 49) (z := 0) rfl rfl (by decide) ?_
  refine x_iadd (pc' := 50) (z := 0) rfl rfl (by decide) ?_
  refine x_reti rfl rfl ?_
  refine sK_i (pc' := 18) rfl ?_
  refine x_aload_n (pc' := 19) rfl rfl rfl rfl rfl ?_
  refine x_iload_n (pc' := 20) rfl rfl rfl ?_
  refine x_iconst (pc' := 21) rfl rfl ?_
  refine x_iload_n (pc' := 22) rfl rfl rfl ?_
  refine x_cv (ls0 := [_, _, _, _, sJk, sJk]) (rest := [_, _]) rfl rfl rfl rfl rfl ?_
  refine x_iload_n (pc' := 1) rfl rfl rfl ?_
  refine x_iload_n (pc' := 2) rfl rfl rfl ?_
  refine x_ishr (pc' := 3) (z := 1) rfl rfl (by decide) ?_
  refine x_iconst (pc' := 4) rfl rfl ?_
  refine x_iand (pc' := 5) (z := 1) rfl rfl (by decide) ?_
  refine x_iconst (pc' := 6) rfl rfl ?_
  refine x_icmp (a' := 13) (pc' := 9) (z := false) rfl rfl rfl (by decide) (fun h => by cases h) (fun _ => ?_)
  refine x_iconst (pc' := 10) rfl rfl ?_
  refine x_goto (pc' := 14) rfl rfl ?_
  refine x_istore (pc' := 16) (ls' := [_, _, _, _, _, _]) rfl rfl rfl rfl ?_
  refine x_aload_n (pc' := 17) rfl rfl rfl rfl rfl ?_
  refine x_iload_n (pc' := 18) rfl rfl rfl ?_
  refine x_iload_n (pc' := 19) rfl rfl rfl ?_
  refine x_iload (pc' := 21) rfl rfl rfl ?_
  refine x_cv (ls0 := [_, _, _, _, sJk, sJk, sJk, sJk, sJk]) (rest := []) rfl rfl rfl rfl rfl ?_
  refine x_iconst (pc' := 1) rfl rfl ?_
  refine x_istore (pc' := 3) (ls' := [_, _, _, _, _, _, _, _, _]) rfl rfl rfl rfl ?_
  refine x_iconst (pc' := 4) rfl rfl ?_
  refine x_istore (pc' := 6) (ls' := [_, _, _, _, _, _, _, _, _]) rfl rfl rfl rfl ?_
  refine x_iload (pc' := 8) rfl rfl rfl ?_
  refine x_aload_n (pc' := 9) rfl rfl rfl rfl rfl ?_
  refine x_gI (pc' := 12) (x := 0) rfl rfl rfl (Eq.trans (rdI_F rfl) (Eq.trans rdIL (Eq.trans rdInwa (z_I_786_0 e)))) ?_
  refine x_icmp (a' := 190) (pc' := 15) (z := true) rfl rfl rfl (by decide) (fun _ => ?_) (fun h => by cases h)
  refine x_iload (pc' := 192) rfl rfl rfl ?_
  refine x_reti rfl rfl ?_
  refine sK_i (pc' := 24) rfl ?_
  refine x_istore (pc' := 26) (ls' := [_, _, _, _, _, _]) rfl rfl rfl rfl ?_
  refine x_aload_n (pc' := 27) rfl rfl rfl rfl rfl ?_
  refine x_gR (pc' := 30) (r := (some 6)) rfl rfl rfl (Eq.trans rdRI (Eq.trans rdRL (Eq.trans rdRnwa (z_R_776_0 e)))) ?_
  refine x_iconst (pc' := 31) rfl rfl ?_
  refine x_iload_n (pc' := 32) rfl rfl rfl ?_
  refine x_imul (pc' := 33) (z := (io (3 * m))) rfl rfl (io_mul 3 m) ?_
  refine x_iload_n (pc' := 34) rfl rfl rfl ?_
  refine x_iadd (pc' := 35) (z := (io ((3 * m) + 1))) rfl rfl (io_add (3 * m) 1) ?_
  refine x_iald (pc' := 36) (N := 18) (x := 0) rfl rfl rfl (Eq.trans (b := sN t _ _) rfl (z_N_21_6 e)) (io_in (p := ((3 * m) + 1)) (N := 18) (show ((3 * m) + 1) < 18 by omega) (by decide)) (Eq.trans (congrArg (sA (sIw (sLw (sNwA t 20 6) 23 0 0 (0 : Int64)) 768 0 0) 21 6) (nn_io (p := ((3 * m) + 1)) (Nat.lt_trans (show ((3 * m) + 1) < 18 by omega) (by decide)))) (Eq.trans rdAI (Eq.trans rdAL (Eq.trans rdAnwa (z_A_21_6_y e _))))) ?_
  refine x_iload (pc' := 38) rfl rfl rfl ?_
  refine x_if (a' := 46) (pc' := 41) (z := false) rfl rfl rfl (by decide) (fun h => by cases h) (fun _ => ?_)
  refine x_iload (pc' := 43) rfl rfl rfl ?_
  refine x_goto (pc' := 49) rfl rfl ?_
  refine x_iadd (pc' := 50) (z := 0) rfl rfl (by decide) ?_
  refine x_reti rfl rfl ?_
  refine sK_i (pc' := 25) rfl ?_
  refine x_aload_n (pc' := 26) rfl rfl rfl rfl rfl ?_
  refine x_iload_n (pc' := 27) rfl rfl rfl ?_
  refine x_iconst (pc' := 28) rfl rfl ?_
  refine x_iload_n (pc' := 29) rfl rfl rfl ?_
  refine x_cv (ls0 := [_, _, _, _, sJk, sJk]) (rest := [_, _, _]) rfl rfl rfl rfl rfl ?_
  refine x_iload_n (pc' := 1) rfl rfl rfl ?_
  refine x_iload_n (pc' := 2) rfl rfl rfl ?_
  refine x_ishr (pc' := 3) (z := 0) rfl rfl (by decide) ?_
  refine x_iconst (pc' := 4) rfl rfl ?_
  refine x_iand (pc' := 5) (z := 0) rfl rfl (by decide) ?_
  refine x_iconst (pc' := 6) rfl rfl ?_
  refine x_icmp (a' := 13) (pc' := 9) (z := true) rfl rfl rfl (by decide) (fun _ => ?_) (fun h => by cases h)
  refine x_iconst (pc' := 14) rfl rfl ?_
  refine x_istore (pc' := 16) (ls' := [_, _, _, _, _, _]) rfl rfl rfl rfl ?_
  refine x_aload_n (pc' := 17) rfl rfl rfl rfl rfl ?_
  refine x_iload_n (pc' := 18) rfl rfl rfl ?_
  refine x_iload_n (pc' := 19) rfl rfl rfl ?_
  refine x_iload (pc' := 21) rfl rfl rfl ?_
  refine x_cv (ls0 := [_, _, _, _, sJk, sJk, sJk, sJk, sJk]) (rest := []) rfl rfl rfl rfl rfl ?_
  refine x_iconst (pc' := 1) rfl rfl ?_
  refine x_istore (pc' := 3) (ls' := [_, _, _, _, _, _, _, _, _]) rfl rfl rfl rfl ?_
  refine x_iconst (pc' := 4) rfl rfl ?_
  refine x_istore (pc' := 6) (ls' := [_, _, _, _, _, _, _, _, _]) rfl rfl rfl rfl ?_
  refine x_iload (pc' := 8) rfl rfl rfl ?_
  refine x_aload_n (pc' := 9) rfl rfl rfl rfl rfl ?_
  refine x_gI (pc' := 12) (x := 0) rfl rfl rfl (Eq.trans (rdI_F rfl) (Eq.trans rdIL (Eq.trans rdInwa (z_I_786_0 e)))) ?_
  refine x_icmp (a' := 190) (pc' := 15) (z := true) rfl rfl rfl (by decide) (fun _ => ?_) (fun h => by cases h)
  refine x_iload (pc' := 192) rfl rfl rfl ?_
  refine x_reti rfl rfl ?_
  refine sK_i (pc' := 24) rfl ?_
  refine x_istore (pc' := 26) (ls' := [_, _, _, _, _, _]) rfl rfl rfl rfl ?_
  refine x_aload_n (pc' := 27) rfl rfl rfl rfl rfl ?_
  refine x_gR (pc' := 30) (r := (some 6)) rfl rfl rfl (Eq.trans rdRI (Eq.trans rdRL (Eq.trans rdRnwa (z_R_776_0 e)))) ?_
  refine x_iconst (pc' := 31) rfl rfl ?_
  refine x_iload_n (pc' := 32) rfl rfl rfl ?_
  refine x_imul (pc' := 33) (z := (io (3 * m))) rfl rfl (io_mul 3 m) ?_
  refine x_iload_n (pc' := 34) rfl rfl rfl ?_
  refine x_iadd (pc' := 35) (z := (io ((3 * m) + 2))) rfl rfl (io_add (3 * m) 2) ?_
  refine x_iald (pc' := 36) (N := 18) (x := 0) rfl rfl rfl (Eq.trans (b := sN t _ _) rfl (z_N_21_6 e)) (io_in (p := ((3 * m) + 2)) (N := 18) (show ((3 * m) + 2) < 18 by omega) (by decide)) (Eq.trans (congrArg (sA (sIw (sLw (sNwA t 20 6) 23 0 0 (0 : Int64)) 768 0 0) 21 6) (nn_io (p := ((3 * m) + 2)) (Nat.lt_trans (show ((3 * m) + 2) < 18 by omega) (by decide)))) (Eq.trans rdAI (Eq.trans rdAL (Eq.trans rdAnwa (z_A_21_6_y e _))))) ?_
  refine x_iload (pc' := 38) rfl rfl rfl ?_
  refine x_if (a' := 46) (pc' := 41) (z := true) rfl rfl rfl (by decide) (fun _ => ?_) (fun h => by cases h)
  refine x_iload (pc' := 48) rfl rfl rfl ?_
  refine x_ineg (pc' := 49) (z := 0) rfl rfl (by decide) ?_
  refine x_iadd (pc' := 50) (z := 0) rfl rfl (by decide) ?_
  refine x_reti rfl rfl ?_
  refine sK_i (pc' := 32) rfl ?_
  refine x_cv (ls0 := [_, _, _, _, sJk, sJk, sJk]) (rest := []) rfl rfl rfl rfl rfl ?_
  refine x_iconst (pc' := 1) rfl rfl ?_
  refine x_istore (pc' := 3) (ls' := [_, _, _, _, _, _, _]) rfl rfl rfl rfl ?_
  refine x_iconst (pc' := 4) rfl rfl ?_
  refine x_istore (pc' := 6) (ls' := [_, _, _, _, _, _, _]) rfl rfl rfl rfl ?_
  refine x_iload (pc' := 8) rfl rfl rfl ?_
  refine x_bipush (pc' := 10) rfl rfl ?_
  refine x_icmp (a' := 77) (pc' := 13) (z := false) rfl rfl rfl (by decide) (fun h => by cases h) (fun _ => ?_)
  refine x_iload_n (pc' := 14) rfl rfl rfl ?_
  refine x_aload_n (pc' := 15) rfl rfl rfl rfl rfl ?_
  refine x_gR (pc' := 18) (r := (some 11)) rfl rfl rfl (Eq.trans rdRI (Eq.trans rdRL (Eq.trans rdRnwa (z_R_783_0 e)))) ?_
  refine x_iconst (pc' := 19) rfl rfl ?_
  refine x_iload (pc' := 21) rfl rfl rfl ?_
  refine x_imul (pc' := 22) (z := 0) rfl rfl (by decide) ?_
  refine x_iald (pc' := 23) (N := 18) (x := 0) rfl rfl rfl (Eq.trans (b := sN t _ _) rfl (z_N_21_11 e)) (io_in (p := 0) (N := 18) (by decide) (by decide)) (Eq.trans (congrArg (sA (sIw (sLw (sNwA t 20 6) 23 0 0 (0 : Int64)) 768 0 0) 21 11) (nn_io (p := 0) (by decide))) (Eq.trans rdAI (Eq.trans rdAL (Eq.trans rdAnwa (z_A_21_11_0 e))))) ?_
  refine x_imul (pc' := 24) (z := 0) rfl rfl (by decide) ?_
  refine x_iload_n (pc' := 25) rfl rfl rfl ?_
  refine x_aload_n (pc' := 26) rfl rfl rfl rfl rfl ?_
  refine x_gR (pc' := 29) (r := (some 11)) rfl rfl rfl (Eq.trans rdRI (Eq.trans rdRL (Eq.trans rdRnwa (z_R_783_0 e)))) ?_
  refine x_iconst (pc' := 30) rfl rfl ?_
  refine x_iload (pc' := 32) rfl rfl rfl ?_
  refine x_imul (pc' := 33) (z := 0) rfl rfl (by decide) ?_
  refine x_iconst (pc' := 34) rfl rfl ?_
  refine x_iadd (pc' := 35) (z := 1) rfl rfl (by decide) ?_
  refine x_iald (pc' := 36) (N := 18) (x := 0) rfl rfl rfl (Eq.trans (b := sN t _ _) rfl (z_N_21_11 e)) (io_in (p := 1) (N := 18) (by decide) (by decide)) (Eq.trans (congrArg (sA (sIw (sLw (sNwA t 20 6) 23 0 0 (0 : Int64)) 768 0 0) 21 11) (nn_io (p := 1) (by decide))) (Eq.trans rdAI (Eq.trans rdAL (Eq.trans rdAnwa (z_A_21_11_1 e))))) ?_
  refine x_imul (pc' := 37) (z := 0) rfl rfl (by decide) ?_
  refine x_iadd (pc' := 38) (z := 0) rfl rfl (by decide) ?_
  refine x_iload_n (pc' := 39) rfl rfl rfl ?_
  refine x_aload_n (pc' := 40) rfl rfl rfl rfl rfl ?_
  refine x_gR (pc' := 43) (r := (some 11)) rfl rfl rfl (Eq.trans rdRI (Eq.trans rdRL (Eq.trans rdRnwa (z_R_783_0 e)))) ?_
  refine x_iconst (pc' := 44) rfl rfl ?_
  refine x_iload (pc' := 46) rfl rfl rfl ?_
  refine x_imul (pc' := 47) (z := 0) rfl rfl (by decide) ?_
  refine x_iconst (pc' := 48) rfl rfl ?_
  refine x_iadd (pc' := 49) (z := 2) rfl rfl (by decide) ?_
  refine x_iald (pc' := 50) (N := 18) (x := 0) rfl rfl rfl (Eq.trans (b := sN t _ _) rfl (z_N_21_11 e)) (io_in (p := 2) (N := 18) (by decide) (by decide)) (Eq.trans (congrArg (sA (sIw (sLw (sNwA t 20 6) 23 0 0 (0 : Int64)) 768 0 0) 21 11) (nn_io (p := 2) (by decide))) (Eq.trans rdAI (Eq.trans rdAL (Eq.trans rdAnwa (z_A_21_11_2 e))))) ?_
  refine x_imul (pc' := 51) (z := 0) rfl rfl (by decide) ?_
  refine x_iadd (pc' := 52) (z := 0) rfl rfl (by decide) ?_
  refine x_ineg (pc' := 53) (z := 0) rfl rfl (by decide) ?_
  refine x_istore (pc' := 55) (ls' := [_, _, _, _, _, _, _]) rfl rfl rfl rfl ?_
  refine x_iload (pc' := 57) rfl rfl rfl ?_
  refine x_iload (pc' := 59) rfl rfl rfl ?_
  refine x_icmp (a' := 67) (pc' := 62) (z := true) rfl rfl rfl (by decide) (fun _ => ?_) (fun h => by cases h)
  refine x_iload (pc' := 69) rfl rfl rfl ?_
  refine x_istore (pc' := 71) (ls' := [_, _, _, _, _, _, _]) rfl rfl rfl rfl ?_
  refine x_iinc (pc' := 74) (y := 1) (ls' := [_, _, _, _, _, _, _]) rfl rfl rfl rfl rfl ?_
  refine x_goto (pc' := 6) rfl rfl ?_
  refine x_iload (pc' := 8) rfl rfl rfl ?_
  refine x_bipush (pc' := 10) rfl rfl ?_
  refine x_icmp (a' := 77) (pc' := 13) (z := false) rfl rfl rfl (by decide) (fun h => by cases h) (fun _ => ?_)
  refine x_iload_n (pc' := 14) rfl rfl rfl ?_
  refine x_aload_n (pc' := 15) rfl rfl rfl rfl rfl ?_
  refine x_gR (pc' := 18) (r := (some 11)) rfl rfl rfl (Eq.trans rdRI (Eq.trans rdRL (Eq.trans rdRnwa (z_R_783_0 e)))) ?_
  refine x_iconst (pc' := 19) rfl rfl ?_
  refine x_iload (pc' := 21) rfl rfl rfl ?_
  refine x_imul (pc' := 22) (z := 3) rfl rfl (by decide) ?_
  refine x_iald (pc' := 23) (N := 18) (x := 0) rfl rfl rfl (Eq.trans (b := sN t _ _) rfl (z_N_21_11 e)) (io_in (p := 3) (N := 18) (by decide) (by decide)) (Eq.trans (congrArg (sA (sIw (sLw (sNwA t 20 6) 23 0 0 (0 : Int64)) 768 0 0) 21 11) (nn_io (p := 3) (by decide))) (Eq.trans rdAI (Eq.trans rdAL (Eq.trans rdAnwa (z_A_21_11_3 e))))) ?_
  refine x_imul (pc' := 24) (z := 0) rfl rfl (by decide) ?_
  refine x_iload_n (pc' := 25) rfl rfl rfl ?_
  refine x_aload_n (pc' := 26) rfl rfl rfl rfl rfl ?_
  refine x_gR (pc' := 29) (r := (some 11)) rfl rfl rfl (Eq.trans rdRI (Eq.trans rdRL (Eq.trans rdRnwa (z_R_783_0 e)))) ?_
  refine x_iconst (pc' := 30) rfl rfl ?_
  refine x_iload (pc' := 32) rfl rfl rfl ?_
  refine x_imul (pc' := 33) (z := 3) rfl rfl (by decide) ?_
  refine x_iconst (pc' := 34) rfl rfl ?_
  refine x_iadd (pc' := 35) (z := 4) rfl rfl (by decide) ?_
  refine x_iald (pc' := 36) (N := 18) (x := 0) rfl rfl rfl (Eq.trans (b := sN t _ _) rfl (z_N_21_11 e)) (io_in (p := 4) (N := 18) (by decide) (by decide)) (Eq.trans (congrArg (sA (sIw (sLw (sNwA t 20 6) 23 0 0 (0 : Int64)) 768 0 0) 21 11) (nn_io (p := 4) (by decide))) (Eq.trans rdAI (Eq.trans rdAL (Eq.trans rdAnwa (z_A_21_11_4 e))))) ?_
  refine x_imul (pc' := 37) (z := 0) rfl rfl (by decide) ?_
  refine x_iadd (pc' := 38) (z := 0) rfl rfl (by decide) ?_
  refine x_iload_n (pc' := 39) rfl rfl rfl ?_
  refine x_aload_n (pc' := 40) rfl rfl rfl rfl rfl ?_
  refine x_gR (pc' := 43) (r := (some 11)) rfl rfl rfl (Eq.trans rdRI (Eq.trans rdRL (Eq.trans rdRnwa (z_R_783_0 e)))) ?_
  refine x_iconst (pc' := 44) rfl rfl ?_
  refine x_iload (pc' := 46) rfl rfl rfl ?_
  refine x_imul (pc' := 47) (z := 3) rfl rfl (by decide) ?_
  refine x_iconst (pc' := 48) rfl rfl ?_
  refine x_iadd (pc' := 49) (z := 5) rfl rfl (by decide) ?_
  refine x_iald (pc' := 50) (N := 18) (x := 0) rfl rfl rfl (Eq.trans (b := sN t _ _) rfl (z_N_21_11 e)) (io_in (p := 5) (N := 18) (by decide) (by decide)) (Eq.trans (congrArg (sA (sIw (sLw (sNwA t 20 6) 23 0 0 (0 : Int64)) 768 0 0) 21 11) (nn_io (p := 5) (by decide))) (Eq.trans rdAI (Eq.trans rdAL (Eq.trans rdAnwa (z_A_21_11_5 e))))) ?_
  refine x_imul (pc' := 51) (z := 0) rfl rfl (by decide) ?_
  refine x_iadd (pc' := 52) (z := 0) rfl rfl (by decide) ?_
  refine x_ineg (pc' := 53) (z := 0) rfl rfl (by decide) ?_
  refine x_istore (pc' := 55) (ls' := [_, _, _, _, _, _, _]) rfl rfl rfl rfl ?_
  refine x_iload (pc' := 57) rfl rfl rfl ?_
  refine x_iload (pc' := 59) rfl rfl rfl ?_
  refine x_icmp (a' := 67) (pc' := 62) (z := true) rfl rfl rfl (by decide) (fun _ => ?_) (fun h => by cases h)
  refine x_iload (pc' := 69) rfl rfl rfl ?_
  refine x_istore (pc' := 71) (ls' := [_, _, _, _, _, _, _]) rfl rfl rfl rfl ?_
  refine x_iinc (pc' := 74) (y := 2) (ls' := [_, _, _, _, _, _, _]) rfl rfl rfl rfl rfl ?_
  refine x_goto (pc' := 6) rfl rfl ?_
  refine x_iload (pc' := 8) rfl rfl rfl ?_
  refine x_bipush (pc' := 10) rfl rfl ?_
  refine x_icmp (a' := 77) (pc' := 13) (z := false) rfl rfl rfl (by decide) (fun h => by cases h) (fun _ => ?_)
  refine x_iload_n (pc' := 14) rfl rfl rfl ?_
  refine x_aload_n (pc' := 15) rfl rfl rfl rfl rfl ?_
  refine x_gR (pc' := 18) (r := (some 11)) rfl rfl rfl (Eq.trans rdRI (Eq.trans rdRL (Eq.trans rdRnwa (z_R_783_0 e)))) ?_
  refine x_iconst (pc' := 19) rfl rfl ?_
  refine x_iload (pc' := 21) rfl rfl rfl ?_
  refine x_imul (pc' := 22) (z := 6) rfl rfl (by decide) ?_
  refine x_iald (pc' := 23) (N := 18) (x := 0) rfl rfl rfl (Eq.trans (b := sN t _ _) rfl (z_N_21_11 e)) (io_in (p := 6) (N := 18) (by decide) (by decide)) (Eq.trans (congrArg (sA (sIw (sLw (sNwA t 20 6) 23 0 0 (0 : Int64)) 768 0 0) 21 11) (nn_io (p := 6) (by decide))) (Eq.trans rdAI (Eq.trans rdAL (Eq.trans rdAnwa (z_A_21_11_6 e))))) ?_
  refine x_imul (pc' := 24) (z := 0) rfl rfl (by decide) ?_
  refine x_iload_n (pc' := 25) rfl rfl rfl ?_
  refine x_aload_n (pc' := 26) rfl rfl rfl rfl rfl ?_
  refine x_gR (pc' := 29) (r := (some 11)) rfl rfl rfl (Eq.trans rdRI (Eq.trans rdRL (Eq.trans rdRnwa (z_R_783_0 e)))) ?_
  refine x_iconst (pc' := 30) rfl rfl ?_
  refine x_iload (pc' := 32) rfl rfl rfl ?_
  refine x_imul (pc' := 33) (z := 6) rfl rfl (by decide) ?_
  refine x_iconst (pc' := 34) rfl rfl ?_
  refine x_iadd (pc' := 35) (z := 7) rfl rfl (by decide) ?_
  refine x_iald (pc' := 36) (N := 18) (x := 0) rfl rfl rfl (Eq.trans (b := sN t _ _) rfl (z_N_21_11 e)) (io_in (p := 7) (N := 18) (by decide) (by decide)) (Eq.trans (congrArg (sA (sIw (sLw (sNwA t 20 6) 23 0 0 (0 : Int64)) 768 0 0) 21 11) (nn_io (p := 7) (by decide))) (Eq.trans rdAI (Eq.trans rdAL (Eq.trans rdAnwa (z_A_21_11_7 e))))) ?_
  refine x_imul (pc' := 37) (z := 0) rfl rfl (by decide) ?_
  refine x_iadd (pc' := 38) (z := 0) rfl rfl (by decide) ?_
  refine x_iload_n (pc' := 39) rfl rfl rfl ?_
  refine x_aload_n (pc' := 40) rfl rfl rfl rfl rfl ?_
  refine x_gR (pc' := 43) (r := (some 11)) rfl rfl rfl (Eq.trans rdRI (Eq.trans rdRL (Eq.trans rdRnwa (z_R_783_0 e)))) ?_
  refine x_iconst (pc' := 44) rfl rfl ?_
  refine x_iload (pc' := 46) rfl rfl rfl ?_
  refine x_imul (pc' := 47) (z := 6) rfl rfl (by decide) ?_
  refine x_iconst (pc' := 48) rfl rfl ?_
  refine x_iadd (pc' := 49) (z := 8) rfl rfl (by decide) ?_
  refine x_iald (pc' := 50) (N := 18) (x := 0) rfl rfl rfl (Eq.trans (b := sN t _ _) rfl (z_N_21_11 e)) (io_in (p := 8) (N := 18) (by decide) (by decide)) (Eq.trans (congrArg (sA (sIw (sLw (sNwA t 20 6) 23 0 0 (0 : Int64)) 768 0 0) 21 11) (nn_io (p := 8) (by decide))) (Eq.trans rdAI (Eq.trans rdAL (Eq.trans rdAnwa (z_A_21_11_8 e))))) ?_
  refine x_imul (pc' := 51) (z := 0) rfl rfl (by decide) ?_
  refine x_iadd (pc' := 52) (z := 0) rfl rfl (by decide) ?_
  refine x_ineg (pc' := 53) (z := 0) rfl rfl (by decide) ?_
  refine x_istore (pc' := 55) (ls' := [_, _, _, _, _, _, _]) rfl rfl rfl rfl ?_
  refine x_iload (pc' := 57) rfl rfl rfl ?_
  refine x_iload (pc' := 59) rfl rfl rfl ?_
  refine x_icmp (a' := 67) (pc' := 62) (z := true) rfl rfl rfl (by decide) (fun _ => ?_) (fun h => by cases h)
  refine x_iload (pc' := 69) rfl rfl rfl ?_
  refine x_istore (pc' := 71) (ls' := [_, _, _, _, _, _, _]) rfl rfl rfl rfl ?_
  refine x_iinc (pc' := 74) (y := 3) (ls' := [_, _, _, _, _, _, _]) rfl rfl rfl rfl rfl ?_
  refine x_goto (pc' := 6) rfl rfl ?_
  refine x_iload (pc' := 8) rfl rfl rfl ?_
  refine x_bipush (pc' := 10) rfl rfl ?_
  refine x_icmp (a' := 77) (pc' := 13) (z := false) rfl rfl rfl (by decide) (fun h => by cases h) (fun _ => ?_)
  refine x_iload_n (pc' := 14) rfl rfl rfl ?_
  refine x_aload_n (pc' := 15) rfl rfl rfl rfl rfl ?_
  refine x_gR (pc' := 18) (r := (some 11)) rfl rfl rfl (Eq.trans rdRI (Eq.trans rdRL (Eq.trans rdRnwa (z_R_783_0 e)))) ?_
  refine x_iconst (pc' := 19) rfl rfl ?_
  refine x_iload (pc' := 21) rfl rfl rfl ?_
  refine x_imul (pc' := 22) (z := 9) rfl rfl (by decide) ?_
  refine x_iald (pc' := 23) (N := 18) (x := 0) rfl rfl rfl (Eq.trans (b := sN t _ _) rfl (z_N_21_11 e)) (io_in (p := 9) (N := 18) (by decide) (by decide)) (Eq.trans (congrArg (sA (sIw (sLw (sNwA t 20 6) 23 0 0 (0 : Int64)) 768 0 0) 21 11) (nn_io (p := 9) (by decide))) (Eq.trans rdAI (Eq.trans rdAL (Eq.trans rdAnwa (z_A_21_11_9 e))))) ?_
  refine x_imul (pc' := 24) (z := 0) rfl rfl (by decide) ?_
  refine x_iload_n (pc' := 25) rfl rfl rfl ?_
  refine x_aload_n (pc' := 26) rfl rfl rfl rfl rfl ?_
  refine x_gR (pc' := 29) (r := (some 11)) rfl rfl rfl (Eq.trans rdRI (Eq.trans rdRL (Eq.trans rdRnwa (z_R_783_0 e)))) ?_
  refine x_iconst (pc' := 30) rfl rfl ?_
  refine x_iload (pc' := 32) rfl rfl rfl ?_
  refine x_imul (pc' := 33) (z := 9) rfl rfl (by decide) ?_
  refine x_iconst (pc' := 34) rfl rfl ?_
  refine x_iadd (pc' := 35) (z := 10) rfl rfl (by decide) ?_
  refine x_iald (pc' := 36) (N := 18) (x := 0) rfl rfl rfl (Eq.trans (b := sN t _ _) rfl (z_N_21_11 e)) (io_in (p := 10) (N := 18) (by decide) (by decide)) (Eq.trans (congrArg (sA (sIw (sLw (sNwA t 20 6) 23 0 0 (0 : Int64)) 768 0 0) 21 11) (nn_io (p := 10) (by decide))) (Eq.trans rdAI (Eq.trans rdAL (Eq.trans rdAnwa (z_A_21_11_10 e))))) ?_
  refine x_imul (pc' := 37) (z := 0) rfl rfl (by decide) ?_
  refine x_iadd (pc' := 38) (z := 0) rfl rfl (by decide) ?_
  refine x_iload_n (pc' := 39) rfl rfl rfl ?_
  refine x_aload_n (pc' := 40) rfl rfl rfl rfl rfl ?_
  refine x_gR (pc' := 43) (r := (some 11)) rfl rfl rfl (Eq.trans rdRI (Eq.trans rdRL (Eq.trans rdRnwa (z_R_783_0 e)))) ?_
  refine x_iconst (pc' := 44) rfl rfl ?_
  refine x_iload (pc' := 46) rfl rfl rfl ?_
  refine x_imul (pc' := 47) (z := 9) rfl rfl (by decide) ?_
  refine x_iconst (pc' := 48) rfl rfl ?_
  refine x_iadd (pc' := 49) (z := 11) rfl rfl (by decide) ?_
  refine x_iald (pc' := 50) (N := 18) (x := 0) rfl rfl rfl (Eq.trans (b := sN t _ _) rfl (z_N_21_11 e)) (io_in (p := 11) (N := 18) (by decide) (by decide)) (Eq.trans (congrArg (sA (sIw (sLw (sNwA t 20 6) 23 0 0 (0 : Int64)) 768 0 0) 21 11) (nn_io (p := 11) (by decide))) (Eq.trans rdAI (Eq.trans rdAL (Eq.trans rdAnwa (z_A_21_11_11 e))))) ?_
  refine x_imul (pc' := 51) (z := 0) rfl rfl (by decide) ?_
  refine x_iadd (pc' := 52) (z := 0) rfl rfl (by decide) ?_
  refine x_ineg (pc' := 53) (z := 0) rfl rfl (by decide) ?_
  refine x_istore (pc' := 55) (ls' := [_, _, _, _, _, _, _]) rfl rfl rfl rfl ?_
  refine x_iload (pc' := 57) rfl rfl rfl ?_
  refine x_iload (pc' := 59) rfl rfl rfl ?_
  refine x_icmp (a' := 67) (pc' := 62) (z := true) rfl rfl rfl (by decide) (fun _ => ?_) (fun h => by cases h)
  refine x_iload (pc' := 69) rfl rfl rfl ?_
  refine x_istore (pc' := 71) (ls' := [_, _, _, _, _, _, _]) rfl rfl rfl rfl ?_
  refine x_iinc (pc' := 74) (y := 4) (ls' := [_, _, _, _, _, _, _]) rfl rfl rfl rfl rfl ?_
  refine x_goto (pc' := 6) rfl rfl ?_
  refine x_iload (pc' := 8) rfl rfl rfl ?_
  refine x_bipush (pc' := 10) rfl rfl ?_
  refine x_icmp (a' := 77) (pc' := 13) (z := false) rfl rfl rfl (by decide) (fun h => by cases h) (fun _ => ?_)
  refine x_iload_n (pc' := 14) rfl rfl rfl ?_
  refine x_aload_n (pc' := 15) rfl rfl rfl rfl rfl ?_
  refine x_gR (pc' := 18) (r := (some 11)) rfl rfl rfl (Eq.trans rdRI (Eq.trans rdRL (Eq.trans rdRnwa (z_R_783_0 e)))) ?_
  refine x_iconst (pc' := 19) rfl rfl ?_
  refine x_iload (pc' := 21) rfl rfl rfl ?_
  refine x_imul (pc' := 22) (z := 12) rfl rfl (by decide) ?_
  refine x_iald (pc' := 23) (N := 18) (x := 0) rfl rfl rfl (Eq.trans (b := sN t _ _) rfl (z_N_21_11 e)) (io_in (p := 12) (N := 18) (by decide) (by decide)) (Eq.trans (congrArg (sA (sIw (sLw (sNwA t 20 6) 23 0 0 (0 : Int64)) 768 0 0) 21 11) (nn_io (p := 12) (by decide))) (Eq.trans rdAI (Eq.trans rdAL (Eq.trans rdAnwa (z_A_21_11_12 e))))) ?_
  refine x_imul (pc' := 24) (z := 0) rfl rfl (by decide) ?_
  refine x_iload_n (pc' := 25) rfl rfl rfl ?_
  refine x_aload_n (pc' := 26) rfl rfl rfl rfl rfl ?_
  refine x_gR (pc' := 29) (r := (some 11)) rfl rfl rfl (Eq.trans rdRI (Eq.trans rdRL (Eq.trans rdRnwa (z_R_783_0 e)))) ?_
  refine x_iconst (pc' := 30) rfl rfl ?_
  refine x_iload (pc' := 32) rfl rfl rfl ?_
  refine x_imul (pc' := 33) (z := 12) rfl rfl (by decide) ?_
  refine x_iconst (pc' := 34) rfl rfl ?_
  refine x_iadd (pc' := 35) (z := 13) rfl rfl (by decide) ?_
  refine x_iald (pc' := 36) (N := 18) (x := 0) rfl rfl rfl (Eq.trans (b := sN t _ _) rfl (z_N_21_11 e)) (io_in (p := 13) (N := 18) (by decide) (by decide)) (Eq.trans (congrArg (sA (sIw (sLw (sNwA t 20 6) 23 0 0 (0 : Int64)) 768 0 0) 21 11) (nn_io (p := 13) (by decide))) (Eq.trans rdAI (Eq.trans rdAL (Eq.trans rdAnwa (z_A_21_11_13 e))))) ?_
  refine x_imul (pc' := 37) (z := 0) rfl rfl (by decide) ?_
  refine x_iadd (pc' := 38) (z := 0) rfl rfl (by decide) ?_
  refine x_iload_n (pc' := 39) rfl rfl rfl ?_
  refine x_aload_n (pc' := 40) rfl rfl rfl rfl rfl ?_
  refine x_gR (pc' := 43) (r := (some 11)) rfl rfl rfl (Eq.trans rdRI (Eq.trans rdRL (Eq.trans rdRnwa (z_R_783_0 e)))) ?_
  refine x_iconst (pc' := 44) rfl rfl ?_
  refine x_iload (pc' := 46) rfl rfl rfl ?_
  refine x_imul (pc' := 47) (z := 12) rfl rfl (by decide) ?_
  refine x_iconst (pc' := 48) rfl rfl ?_
  refine x_iadd (pc' := 49) (z := 14) rfl rfl (by decide) ?_
  refine x_iald (pc' := 50) (N := 18) (x := 0) rfl rfl rfl (Eq.trans (b := sN t _ _) rfl (z_N_21_11 e)) (io_in (p := 14) (N := 18) (by decide) (by decide)) (Eq.trans (congrArg (sA (sIw (sLw (sNwA t 20 6) 23 0 0 (0 : Int64)) 768 0 0) 21 11) (nn_io (p := 14) (by decide))) (Eq.trans rdAI (Eq.trans rdAL (Eq.trans rdAnwa (z_A_21_11_14 e))))) ?_
  refine x_imul (pc' := 51) (z := 0) rfl rfl (by decide) ?_
  refine x_iadd (pc' := 52) (z := 0) rfl rfl (by decide) ?_
  refine x_ineg (pc' := 53) (z := 0) rfl rfl (by decide) ?_
  refine x_istore (pc' := 55) (ls' := [_, _, _, _, _, _, _]) rfl rfl rfl rfl ?_
  refine x_iload (pc' := 57) rfl rfl rfl ?_
  refine x_iload (pc' := 59) rfl rfl rfl ?_
  refine x_icmp (a' := 67) (pc' := 62) (z := true) rfl rfl rfl (by decide) (fun _ => ?_) (fun h => by cases h)
  refine x_iload (pc' := 69) rfl rfl rfl ?_
  refine x_istore (pc' := 71) (ls' := [_, _, _, _, _, _, _]) rfl rfl rfl rfl ?_
  refine x_iinc (pc' := 74) (y := 5) (ls' := [_, _, _, _, _, _, _]) rfl rfl rfl rfl rfl ?_
  refine x_goto (pc' := 6) rfl rfl ?_
  refine x_iload (pc' := 8) rfl rfl rfl ?_
  refine x_bipush (pc' := 10) rfl rfl ?_
  refine x_icmp (a' := 77) (pc' := 13) (z := false) rfl rfl rfl (by decide) (fun h => by cases h) (fun _ => ?_)
  refine x_iload_n (pc' := 14) rfl rfl rfl ?_
  refine x_aload_n (pc' := 15) rfl rfl rfl rfl rfl ?_
  refine x_gR (pc' := 18) (r := (some 11)) rfl rfl rfl (Eq.trans rdRI (Eq.trans rdRL (Eq.trans rdRnwa (z_R_783_0 e)))) ?_
  refine x_iconst (pc' := 19) rfl rfl ?_
  refine x_iload (pc' := 21) rfl rfl rfl ?_
  refine x_imul (pc' := 22) (z := 15) rfl rfl (by decide) ?_
  refine x_iald (pc' := 23) (N := 18) (x := 0) rfl rfl rfl (Eq.trans (b := sN t _ _) rfl (z_N_21_11 e)) (io_in (p := 15) (N := 18) (by decide) (by decide)) (Eq.trans (congrArg (sA (sIw (sLw (sNwA t 20 6) 23 0 0 (0 : Int64)) 768 0 0) 21 11) (nn_io (p := 15) (by decide))) (Eq.trans rdAI (Eq.trans rdAL (Eq.trans rdAnwa (z_A_21_11_15 e))))) ?_
  refine x_imul (pc' := 24) (z := 0) rfl rfl (by decide) ?_
  refine x_iload_n (pc' := 25) rfl rfl rfl ?_
  refine x_aload_n (pc' := 26) rfl rfl rfl rfl rfl ?_
  refine x_gR (pc' := 29) (r := (some 11)) rfl rfl rfl (Eq.trans rdRI (Eq.trans rdRL (Eq.trans rdRnwa (z_R_783_0 e)))) ?_
  refine x_iconst (pc' := 30) rfl rfl ?_
  refine x_iload (pc' := 32) rfl rfl rfl ?_
  refine x_imul (pc' := 33) (z := 15) rfl rfl (by decide) ?_
  refine x_iconst (pc' := 34) rfl rfl ?_
  refine x_iadd (pc' := 35) (z := 16) rfl rfl (by decide) ?_
  refine x_iald (pc' := 36) (N := 18) (x := 0) rfl rfl rfl (Eq.trans (b := sN t _ _) rfl (z_N_21_11 e)) (io_in (p := 16) (N := 18) (by decide) (by decide)) (Eq.trans (congrArg (sA (sIw (sLw (sNwA t 20 6) 23 0 0 (0 : Int64)) 768 0 0) 21 11) (nn_io (p := 16) (by decide))) (Eq.trans rdAI (Eq.trans rdAL (Eq.trans rdAnwa (z_A_21_11_16 e))))) ?_
  refine x_imul (pc' := 37) (z := 0) rfl rfl (by decide) ?_
  refine x_iadd (pc' := 38) (z := 0) rfl rfl (by decide) ?_
  refine x_iload_n (pc' := 39) rfl rfl rfl ?_
  refine x_aload_n (pc' := 40) rfl rfl rfl rfl rfl ?_
  refine x_gR (pc' := 43) (r := (some 11)) rfl rfl rfl (Eq.trans rdRI (Eq.trans rdRL (Eq.trans rdRnwa (z_R_783_0 e)))) ?_
  refine x_iconst (pc' := 44) rfl rfl ?_
  refine x_iload (pc' := 46) rfl rfl rfl ?_
  refine x_imul (pc' := 47) (z := 15) rfl rfl (by decide) ?_
  refine x_iconst (pc' := 48) rfl rfl ?_
  refine x_iadd (pc' := 49) (z := 17) rfl rfl (by decide) ?_
  refine x_iald (pc' := 50) (N := 18) (x := 0) rfl rfl rfl (Eq.trans (b := sN t _ _) rfl (z_N_21_11 e)) (io_in (p := 17) (N := 18) (by decide) (by decide)) (Eq.trans (congrArg (sA (sIw (sLw (sNwA t 20 6) 23 0 0 (0 : Int64)) 768 0 0) 21 11) (nn_io (p := 17) (by decide))) (Eq.trans rdAI (Eq.trans rdAL (Eq.trans rdAnwa (z_A_21_11_17 e))))) ?_
  refine x_imul (pc' := 51) (z := 0) rfl rfl (by decide) ?_
  refine x_iadd (pc' := 52) (z := 0) rfl rfl (by decide) ?_
  refine x_ineg (pc' := 53) (z := 0) rfl rfl (by decide) ?_
  refine x_istore (pc' := 55) (ls' := [_, _, _, _, _, _, _]) rfl rfl rfl rfl ?_
  refine x_iload (pc' := 57) rfl rfl rfl ?_
  refine x_iload (pc' := 59) rfl rfl rfl ?_
  refine x_icmp (a' := 67) (pc' := 62) (z := true) rfl rfl rfl (by decide) (fun _ => ?_) (fun h => by cases h)
  refine x_iload (pc' := 69) rfl rfl rfl ?_
  refine x_istore (pc' := 71) (ls' := [_, _, _, _, _, _, _]) rfl rfl rfl rfl ?_
  refine x_iinc (pc' := 74) (y := 6) (ls' := [_, _, _, _, _, _, _]) rfl rfl rfl rfl rfl ?_
  refine x_goto (pc' := 6) rfl rfl ?_
  refine x_iload (pc' := 8) rfl rfl rfl ?_
  refine x_bipush (pc' := 10) rfl rfl ?_
  refine x_icmp (a' := 77) (pc' := 13) (z := true) rfl rfl rfl (by decide) (fun _ => ?_) (fun h => by cases h)
  refine x_iload (pc' := 79) rfl rfl rfl ?_
  refine x_reti rfl rfl ?_
  refine sK_i (pc' := 35) rfl ?_
  refine x_istore (pc' := 37) (ls' := [_, _, _, _, _]) rfl rfl rfl rfl ?_
  refine x_iload (pc' := 39) rfl rfl rfl ?_
  refine x_iload_n (pc' := 40) rfl rfl rfl ?_
  refine x_icmp (a' := 48) (pc' := 43) (z := true) rfl rfl rfl (by decide) (fun _ => ?_) (fun h => by cases h)
  refine x_iload_n (pc' := 49) rfl rfl rfl ?_
  refine x_istore_n (pc' := 50) (ls' := [_, _, _, _, _]) rfl rfl rfl rfl ?_
  refine x_iinc (pc' := 53) (y := 3) (ls' := [_, _, _, _, _]) rfl rfl rfl rfl rfl ?_
  refine x_goto (pc' := 4) rfl rfl ?_
  refine x_iload_n (pc' := 5) rfl rfl rfl ?_
  refine x_bipush (pc' := 7) rfl rfl ?_
  refine x_icmp (a' := 56) (pc' := 10) (z := false) rfl rfl rfl (by decide) (fun h => by cases h) (fun _ => ?_)
  refine x_aload_n (pc' := 11) rfl rfl rfl rfl rfl ?_
  refine x_aload_n (pc' := 12) rfl rfl rfl rfl rfl ?_
  refine x_iload_n (pc' := 13) rfl rfl rfl ?_
  refine x_iconst (pc' := 14) rfl rfl ?_
  refine x_iload_n (pc' := 15) rfl rfl rfl ?_
  refine x_cv (ls0 := [_, _, _, _, sJk, sJk]) (rest := [_]) rfl rfl rfl rfl rfl ?_
  refine x_iload_n (pc' := 1) rfl rfl rfl ?_
  refine x_iload_n (pc' := 2) rfl rfl rfl ?_
  refine x_ishr (pc' := 3) (z := 3) rfl rfl (by decide) ?_
  refine x_iconst (pc' := 4) rfl rfl ?_
  refine x_iand (pc' := 5) (z := 1) rfl rfl (by decide) ?_
  refine x_iconst (pc' := 6) rfl rfl ?_
  refine x_icmp (a' := 13) (pc' := 9) (z := false) rfl rfl rfl (by decide) (fun h => by cases h) (fun _ => ?_)
  refine x_iconst (pc' := 10) rfl rfl ?_
  refine x_goto (pc' := 14) rfl rfl ?_
  refine x_istore (pc' := 16) (ls' := [_, _, _, _, _, _]) rfl rfl rfl rfl ?_
  refine x_aload_n (pc' := 17) rfl rfl rfl rfl rfl ?_
  refine x_iload_n (pc' := 18) rfl rfl rfl ?_
  refine x_iload_n (pc' := 19) rfl rfl rfl ?_
  refine x_iload (pc' := 21) rfl rfl rfl ?_
  refine x_cv (ls0 := [_, _, _, _, sJk, sJk, sJk, sJk, sJk]) (rest := []) rfl rfl rfl rfl rfl ?_
  refine x_iconst (pc' := 1) rfl rfl ?_
  refine x_istore (pc' := 3) (ls' := [_, _, _, _, _, _, _, _, _]) rfl rfl rfl rfl ?_
  refine x_iconst (pc' := 4) rfl rfl ?_
  refine x_istore (pc' := 6) (ls' := [_, _, _, _, _, _, _, _, _]) rfl rfl rfl rfl ?_
  refine x_iload (pc' := 8) rfl rfl rfl ?_
  refine x_aload_n (pc' := 9) rfl rfl rfl rfl rfl ?_
  refine x_gI (pc' := 12) (x := 0) rfl rfl rfl (Eq.trans (rdI_F rfl) (Eq.trans rdIL (Eq.trans rdInwa (z_I_786_0 e)))) ?_
  refine x_icmp (a' := 190) (pc' := 15) (z := true) rfl rfl rfl (by decide) (fun _ => ?_) (fun h => by cases h)
  refine x_iload (pc' := 192) rfl rfl rfl ?_
  refine x_reti rfl rfl ?_
  refine sK_i (pc' := 24) rfl ?_
  refine x_istore (pc' := 26) (ls' := [_, _, _, _, _, _]) rfl rfl rfl rfl ?_
  refine x_aload_n (pc' := 27) rfl rfl rfl rfl rfl ?_
  refine x_gR (pc' := 30) (r := (some 6)) rfl rfl rfl (Eq.trans rdRI (Eq.trans rdRL (Eq.trans rdRnwa (z_R_776_0 e)))) ?_
  refine x_iconst (pc' := 31) rfl rfl ?_
  refine x_iload_n (pc' := 32) rfl rfl rfl ?_
  refine x_imul (pc' := 33) (z := (io (3 * m))) rfl rfl (io_mul 3 m) ?_
  refine x_iload_n (pc' := 34) rfl rfl rfl ?_
  refine x_iadd (pc' := 35) (z := (io ((3 * m) + 0))) rfl rfl (io_add (3 * m) 0) ?_
  refine x_iald (pc' := 36) (N := 18) (x := 0) rfl rfl rfl (Eq.trans (b := sN t _ _) rfl (z_N_21_6 e)) (io_in (p := ((3 * m) + 0)) (N := 18) (show ((3 * m) + 0) < 18 by omega) (by decide)) (Eq.trans (congrArg (sA (sIw (sLw (sNwA t 20 6) 23 0 0 (0 : Int64)) 768 0 0) 21 6) (nn_io (p := ((3 * m) + 0)) (Nat.lt_trans (show ((3 * m) + 0) < 18 by omega) (by decide)))) (Eq.trans rdAI (Eq.trans rdAL (Eq.trans rdAnwa (z_A_21_6_y e _))))) ?_
  refine x_iload (pc' := 38) rfl rfl rfl ?_
  refine x_if (a' := 46) (pc' := 41) (z := false) rfl rfl rfl (by decide) (fun h => by cases h) (fun _ => ?_)
  refine x_iload (pc' := 43) rfl rfl rfl ?_
  refine x_goto (pc' := 49) rfl rfl ?_
  refine x_iadd (pc' := 50) (z := 0) rfl rfl (by decide) ?_
  refine x_reti rfl rfl ?_
  refine sK_i (pc' := 18) rfl ?_
  refine x_aload_n (pc' := 19) rfl rfl rfl rfl rfl ?_
  refine x_iload_n (pc' := 20) rfl rfl rfl ?_
  refine x_iconst (pc' := 21) rfl rfl ?_
  refine x_iload_n (pc' := 22) rfl rfl rfl ?_
  refine x_cv (ls0 := [_, _, _, _, sJk, sJk]) (rest := [_, _]) rfl rfl rfl rfl rfl ?_
  refine x_iload_n (pc' := 1) rfl rfl rfl ?_
  refine x_iload_n (pc' := 2) rfl rfl rfl ?_
  refine x_ishr (pc' := 3) (z := 1) rfl rfl (by decide) ?_
  refine x_iconst (pc' := 4) rfl rfl ?_
  refine x_iand (pc' := 5) (z := 1) rfl rfl (by decide) ?_
  refine x_iconst (pc' := 6) rfl rfl ?_
  refine x_icmp (a' := 13) (pc' := 9) (z := false) rfl rfl rfl (by decide) (fun h => by cases h) (fun _ => ?_)
  refine x_iconst (pc' := 10) rfl rfl ?_
  refine x_goto (pc' := 14) rfl rfl ?_
  refine x_istore (pc' := 16) (ls' := [_, _, _, _, _, _]) rfl rfl rfl rfl ?_
  refine x_aload_n (pc' := 17) rfl rfl rfl rfl rfl ?_
  refine x_iload_n (pc' := 18) rfl rfl rfl ?_
  refine x_iload_n (pc' := 19) rfl rfl rfl ?_
  refine x_iload (pc' := 21) rfl rfl rfl ?_
  refine x_cv (ls0 := [_, _, _, _, sJk, sJk, sJk, sJk, sJk]) (rest := []) rfl rfl rfl rfl rfl ?_
  refine x_iconst (pc' := 1) rfl rfl ?_
  refine x_istore (pc' := 3) (ls' := [_, _, _, _, _, _, _, _, _]) rfl rfl rfl rfl ?_
  refine x_iconst (pc' := 4) rfl rfl ?_
  refine x_istore (pc' := 6) (ls' := [_, _, _, _, _, _, _, _, _]) rfl rfl rfl rfl ?_
  refine x_iload (pc' := 8) rfl rfl rfl ?_
  refine x_aload_n (pc' := 9) rfl rfl rfl rfl rfl ?_
  refine x_gI (pc' := 12) (x := 0) rfl rfl rfl (Eq.trans (rdI_F rfl) (Eq.trans rdIL (Eq.trans rdInwa (z_I_786_0 e)))) ?_
  refine x_icmp (a' := 190) (pc' := 15) (z := true) rfl rfl rfl (by decide) (fun _ => ?_) (fun h => by cases h)
  refine x_iload (pc' := 192) rfl rfl rfl ?_
  refine x_reti rfl rfl ?_
  refine sK_i (pc' := 24) rfl ?_
  refine x_istore (pc' := 26) (ls' := [_, _, _, _, _, _]) rfl rfl rfl rfl ?_
  refine x_aload_n (pc' := 27) rfl rfl rfl rfl rfl ?_
  refine x_gR (pc' := 30) (r := (some 6)) rfl rfl rfl (Eq.trans rdRI (Eq.trans rdRL (Eq.trans rdRnwa (z_R_776_0 e)))) ?_
  refine x_iconst (pc' := 31) rfl rfl ?_
  refine x_iload_n (pc' := 32) rfl rfl rfl ?_
  refine x_imul (pc' := 33) (z := (io (3 * m))) rfl rfl (io_mul 3 m) ?_
  refine x_iload_n (pc' := 34) rfl rfl rfl ?_
  refine x_iadd (pc' := 35) (z := (io ((3 * m) + 1))) rfl rfl (io_add (3 * m) 1) ?_
  refine x_iald (pc' := 36) (N := 18) (x := 0) rfl rfl rfl (Eq.trans (b := sN t _ _) rfl (z_N_21_6 e)) (io_in (p := ((3 * m) + 1)) (N := 18) (show ((3 * m) + 1) < 18 by omega) (by decide)) (Eq.trans (congrArg (sA (sIw (sLw (sNwA t 20 6) 23 0 0 (0 : Int64)) 768 0 0) 21 6) (nn_io (p := ((3 * m) + 1)) (Nat.lt_trans (show ((3 * m) + 1) < 18 by omega) (by decide)))) (Eq.trans rdAI (Eq.trans rdAL (Eq.trans rdAnwa (z_A_21_6_y e _))))) ?_
  refine x_iload (pc' := 38) rfl rfl rfl ?_
  refine x_if (a' := 46) (pc' := 41) (z := false) rfl rfl rfl (by decide) (fun h => by cases h) (fun _ => ?_)
  refine x_iload (pc' := 43) rfl rfl rfl ?_
  refine x_goto (pc' := 49) rfl rfl ?_
  refine x_iadd (pc' := 50) (z := 0) rfl rfl (by decide) ?_
  refine x_reti rfl rfl ?_
  refine sK_i (pc' := 25) rfl ?_
  refine x_aload_n (pc' := 26) rfl rfl rfl rfl rfl ?_
  refine x_iload_n (pc' := 27) rfl rfl rfl ?_
  refine x_iconst (pc' := 28) rfl rfl ?_
  refine x_iload_n (pc' := 29) rfl rfl rfl ?_
  refine x_cv (ls0 := [_, _, _, _, sJk, sJk]) (rest := [_, _, _]) rfl rfl rfl rfl rfl ?_
  refine x_iload_n (pc' := 1) rfl rfl rfl ?_
  refine x_iload_n (pc' := 2) rfl rfl rfl ?_
  refine x_ishr (pc' := 3) (z := 0) rfl rfl (by decide) ?_
  refine x_iconst (pc' := 4) rfl rfl ?_
  refine x_iand (pc' := 5) (z := 0) rfl rfl (by decide) ?_
  refine x_iconst (pc' := 6) rfl rfl ?_
  refine x_icmp (a' := 13) (pc' := 9) (z := true) rfl rfl rfl (by decide) (fun _ => ?_) (fun h => by cases h)
  refine x_iconst (pc' := 14) rfl rfl ?_
  refine x_istore (pc' := 16) (ls' := [_, _, _, _, _, _]) rfl rfl rfl rfl ?_
  refine x_aload_n (pc' := 17) rfl rfl rfl rfl rfl ?_
  refine x_iload_n (pc' := 18) rfl rfl rfl ?_
  refine x_iload_n (pc' := 19) rfl rfl rfl ?_
  refine x_iload (pc' := 21) rfl rfl rfl ?_
  refine x_cv (ls0 := [_, _, _, _, sJk, sJk, sJk, sJk, sJk]) (rest := []) rfl rfl rfl rfl rfl ?_
  refine x_iconst (pc' := 1) rfl rfl ?_
  refine x_istore (pc' := 3) (ls' := [_, _, _, _, _, _, _, _, _]) rfl rfl rfl rfl ?_
  refine x_iconst (pc' := 4) rfl rfl ?_
  refine x_istore (pc' := 6) (ls' := [_, _, _, _, _, _, _, _, _]) rfl rfl rfl rfl ?_
  refine x_iload (pc' := 8) rfl rfl rfl ?_
  refine x_aload_n (pc' := 9) rfl rfl rfl rfl rfl ?_
  refine x_gI (pc' := 12) (x := 0) rfl rfl rfl (Eq.trans (rdI_F rfl) (Eq.trans rdIL (Eq.trans rdInwa (z_I_786_0 e)))) ?_
  refine x_icmp (a' := 190) (pc' := 15) (z := true) rfl rfl rfl (by decide) (fun _ => ?_) (fun h => by cases h)
  refine x_iload (pc' := 192) rfl rfl rfl ?_
  refine x_reti rfl rfl ?_
  refine sK_i (pc' := 24) rfl ?_
  refine x_istore (pc' := 26) (ls' := [_, _, _, _, _, _]) rfl rfl rfl rfl ?_
  refine x_aload_n (pc' := 27) rfl rfl rfl rfl rfl ?_
  refine x_gR (pc' := 30) (r := (some 6)) rfl rfl rfl (Eq.trans rdRI (Eq.trans rdRL (Eq.trans rdRnwa (z_R_776_0 e)))) ?_
  refine x_iconst (pc' := 31) rfl rfl ?_
  refine x_iload_n (pc' := 32) rfl rfl rfl ?_
  refine x_imul (pc' := 33) (z := (io (3 * m))) rfl rfl (io_mul 3 m) ?_
  refine x_iload_n (pc' := 34) rfl rfl rfl ?_
  refine x_iadd (pc' := 35) (z := (io ((3 * m) + 2))) rfl rfl (io_add (3 * m) 2) ?_
  refine x_iald (pc' := 36) (N := 18) (x := 0) rfl rfl rfl (Eq.trans (b := sN t _ _) rfl (z_N_21_6 e)) (io_in (p := ((3 * m) + 2)) (N := 18) (show ((3 * m) + 2) < 18 by omega) (by decide)) (Eq.trans (congrArg (sA (sIw (sLw (sNwA t 20 6) 23 0 0 (0 : Int64)) 768 0 0) 21 6) (nn_io (p := ((3 * m) + 2)) (Nat.lt_trans (show ((3 * m) + 2) < 18 by omega) (by decide)))) (Eq.trans rdAI (Eq.trans rdAL (Eq.trans rdAnwa (z_A_21_6_y e _))))) ?_
  refine x_iload (pc' := 38) rfl rfl rfl ?_
  refine x_if (a' := 46) (pc' := 41) (z := true) rfl rfl rfl (by decide) (fun _ => ?_) (fun h => by cases h)
  refine x_iload (pc' := 48) rfl rfl rfl ?_
  refine x_ineg (pc' := 49) (z := 0) rfl rfl (by decide) ?_
  refine x_iadd (pc' := 50) (z := 0) rfl rfl (by decide) ?_
  refine x_reti rfl rfl ?_
  refine sK_i (pc' := 32) rfl ?_
  refine x_cv (ls0 := [_, _, _, _, sJk, sJk, sJk]) (rest := []) rfl rfl rfl rfl rfl ?_
  refine x_iconst (pc' := 1) rfl rfl ?_
  refine x_istore (pc' := 3) (ls' := [_, _, _, _, _, _, _]) rfl rfl rfl rfl ?_
  refine x_iconst (pc' := 4) rfl rfl ?_
  refine x_istore (pc' := 6) (ls' := [_, _, _, _, _, _, _]) rfl rfl rfl rfl ?_
  refine x_iload (pc' := 8) rfl rfl rfl ?_
  refine x_bipush (pc' := 10) rfl rfl ?_
  refine x_icmp (a' := 77) (pc' := 13) (z := false) rfl rfl rfl (by decide) (fun h => by cases h) (fun _ => ?_)
  refine x_iload_n (pc' := 14) rfl rfl rfl ?_
  refine x_aload_n (pc' := 15) rfl rfl rfl rfl rfl ?_
  refine x_gR (pc' := 18) (r := (some 11)) rfl rfl rfl (Eq.trans rdRI (Eq.trans rdRL (Eq.trans rdRnwa (z_R_783_0 e)))) ?_
  refine x_iconst (pc' := 19) rfl rfl ?_
  refine x_iload (pc' := 21) rfl rfl rfl ?_
  refine x_imul (pc' := 22) (z := 0) rfl rfl (by decide) ?_
  refine x_iald (pc' := 23) (N := 18) (x := 0) rfl rfl rfl (Eq.trans (b := sN t _ _) rfl (z_N_21_11 e)) (io_in (p := 0) (N := 18) (by decide) (by decide)) (Eq.trans (congrArg (sA (sIw (sLw (sNwA t 20 6) 23 0 0 (0 : Int64)) 768 0 0) 21 11) (nn_io (p := 0) (by decide))) (Eq.trans rdAI (Eq.trans rdAL (Eq.trans rdAnwa (z_A_21_11_0 e))))) ?_
  refine x_imul (pc' := 24) (z := 0) rfl rfl (by decide) ?_
  refine x_iload_n (pc' := 25) rfl rfl rfl ?_
  refine x_aload_n (pc' := 26) rfl rfl rfl rfl rfl ?_
  refine x_gR (pc' := 29) (r := (some 11)) rfl rfl rfl (Eq.trans rdRI (Eq.trans rdRL (Eq.trans rdRnwa (z_R_783_0 e)))) ?_
  refine x_iconst (pc' := 30) rfl rfl ?_
  refine x_iload (pc' := 32) rfl rfl rfl ?_
  refine x_imul (pc' := 33) (z := 0) rfl rfl (by decide) ?_
  refine x_iconst (pc' := 34) rfl rfl ?_
  refine x_iadd (pc' := 35) (z := 1) rfl rfl (by decide) ?_
  refine x_iald (pc' := 36) (N := 18) (x := 0) rfl rfl rfl (Eq.trans (b := sN t _ _) rfl (z_N_21_11 e)) (io_in (p := 1) (N := 18) (by decide) (by decide)) (Eq.trans (congrArg (sA (sIw (sLw (sNwA t 20 6) 23 0 0 (0 : Int64)) 768 0 0) 21 11) (nn_io (p := 1) (by decide))) (Eq.trans rdAI (Eq.trans rdAL (Eq.trans rdAnwa (z_A_21_11_1 e))))) ?_
  refine x_imul (pc' := 37) (z := 0) rfl rfl (by decide) ?_
  refine x_iadd (pc' := 38) (z := 0) rfl rfl (by decide) ?_
  refine x_iload_n (pc' := 39) rfl rfl rfl ?_
  refine x_aload_n (pc' := 40) rfl rfl rfl rfl rfl ?_
  refine x_gR (pc' := 43) (r := (some 11)) rfl rfl rfl (Eq.trans rdRI (Eq.trans rdRL (Eq.trans rdRnwa (z_R_783_0 e)))) ?_
  refine x_iconst (pc' := 44) rfl rfl ?_
  refine x_iload (pc' := 46) rfl rfl rfl ?_
  refine x_imul (pc' := 47) (z := 0) rfl rfl (by decide) ?_
  refine x_iconst (pc' := 48) rfl rfl ?_
  refine x_iadd (pc' := 49) (z := 2) rfl rfl (by decide) ?_
  refine x_iald (pc' := 50) (N := 18) (x := 0) rfl rfl rfl (Eq.trans (b := sN t _ _) rfl (z_N_21_11 e)) (io_in (p := 2) (N := 18) (by decide) (by decide)) (Eq.trans (congrArg (sA (sIw (sLw (sNwA t 20 6) 23 0 0 (0 : Int64)) 768 0 0) 21 11) (nn_io (p := 2) (by decide))) (Eq.trans rdAI (Eq.trans rdAL (Eq.trans rdAnwa (z_A_21_11_2 e))))) ?_
  refine x_imul (pc' := 51) (z := 0) rfl rfl (by decide) ?_
  refine x_iadd (pc' := 52) (z := 0) rfl rfl (by decide) ?_
  refine x_ineg (pc' := 53) (z := 0) rfl rfl (by decide) ?_
  refine x_istore (pc' := 55) (ls' := [_, _, _, _, _, _, _]) rfl rfl rfl rfl ?_
  refine x_iload (pc' := 57) rfl rfl rfl ?_
  refine x_iload (pc' := 59) rfl rfl rfl ?_
  refine x_icmp (a' := 67) (pc' := 62) (z := true) rfl rfl rfl (by decide) (fun _ => ?_) (fun h => by cases h)
  refine x_iload (pc' := 69) rfl rfl rfl ?_
  refine x_istore (pc' := 71) (ls' := [_, _, _, _, _, _, _]) rfl rfl rfl rfl ?_
  refine x_iinc (pc' := 74) (y := 1) (ls' := [_, _, _, _, _, _, _]) rfl rfl rfl rfl rfl ?_
  refine x_goto (pc' := 6) rfl rfl ?_
  refine x_iload (pc' := 8) rfl rfl rfl ?_
  refine x_bipush (pc' := 10) rfl rfl ?_
  refine x_icmp (a' := 77) (pc' := 13) (z := false) rfl rfl rfl (by decide) (fun h => by cases h) (fun _ => ?_)
  refine x_iload_n (pc' := 14) rfl rfl rfl ?_
  refine x_aload_n (pc' := 15) rfl rfl rfl rfl rfl ?_
  refine x_gR (pc' := 18) (r := (some 11)) rfl rfl rfl (Eq.trans rdRI (Eq.trans rdRL (Eq.trans rdRnwa (z_R_783_0 e)))) ?_
  refine x_iconst (pc' := 19) rfl rfl ?_
  refine x_iload (pc' := 21) rfl rfl rfl ?_
  refine x_imul (pc' := 22) (z := 3) rfl rfl (by decide) ?_
  refine x_iald (pc' := 23) (N := 18) (x := 0) rfl rfl rfl (Eq.trans (b := sN t _ _) rfl (z_N_21_11 e)) (io_in (p := 3) (N := 18) (by decide) (by decide)) (Eq.trans (congrArg (sA (sIw (sLw (sNwA t 20 6) 23 0 0 (0 : Int64)) 768 0 0) 21 11) (nn_io (p := 3) (by decide))) (Eq.trans rdAI (Eq.trans rdAL (Eq.trans rdAnwa (z_A_21_11_3 e))))) ?_
  refine x_imul (pc' := 24) (z := 0) rfl rfl (by decide) ?_
  refine x_iload_n (pc' := 25) rfl rfl rfl ?_
  refine x_aload_n (pc' := 26) rfl rfl rfl rfl rfl ?_
  refine x_gR (pc' := 29) (r := (some 11)) rfl rfl rfl (Eq.trans rdRI (Eq.trans rdRL (Eq.trans rdRnwa (z_R_783_0 e)))) ?_
  refine x_iconst (pc' := 30) rfl rfl ?_
  refine x_iload (pc' := 32) rfl rfl rfl ?_
  refine x_imul (pc' := 33) (z := 3) rfl rfl (by decide) ?_
  refine x_iconst (pc' := 34) rfl rfl ?_
  refine x_iadd (pc' := 35) (z := 4) rfl rfl (by decide) ?_
  refine x_iald (pc' := 36) (N := 18) (x := 0) rfl rfl rfl (Eq.trans (b := sN t _ _) rfl (z_N_21_11 e)) (io_in (p := 4) (N := 18) (by decide) (by decide)) (Eq.trans (congrArg (sA (sIw (sLw (sNwA t 20 6) 23 0 0 (0 : Int64)) 768 0 0) 21 11) (nn_io (p := 4) (by decide))) (Eq.trans rdAI (Eq.trans rdAL (Eq.trans rdAnwa (z_A_21_11_4 e))))) ?_
  refine x_imul (pc' := 37) (z := 0) rfl rfl (by decide) ?_
  refine x_iadd (pc' := 38) (z := 0) rfl rfl (by decide) ?_
  refine x_iload_n (pc' := 39) rfl rfl rfl ?_
  refine x_aload_n (pc' := 40) rfl rfl rfl rfl rfl ?_
  refine x_gR (pc' := 43) (r := (some 11)) rfl rfl rfl (Eq.trans rdRI (Eq.trans rdRL (Eq.trans rdRnwa (z_R_783_0 e)))) ?_
  refine x_iconst (pc' := 44) rfl rfl ?_
  refine x_iload (pc' := 46) rfl rfl rfl ?_
  refine x_imul (pc' := 47) (z := 3) rfl rfl (by decide) ?_
  refine x_iconst (pc' := 48) rfl rfl ?_
  refine x_iadd (pc' := 49) (z := 5) rfl rfl (by decide) ?_
  refine x_iald (pc' := 50) (N := 18) (x := 0) rfl rfl rfl (Eq.trans (b := sN t _ _) rfl (z_N_21_11 e)) (io_in (p := 5) (N := 18) (by decide) (by decide)) (Eq.trans (congrArg (sA (sIw (sLw (sNwA t 20 6) 23 0 0 (0 : Int64)) 768 0 0) 21 11) (nn_io (p := 5) (by decide))) (Eq.trans rdAI (Eq.trans rdAL (Eq.trans rdAnwa (z_A_21_11_5 e))))) ?_
  refine x_imul (pc' := 51) (z := 0) rfl rfl (by decide) ?_
  refine x_iadd (pc' := 52) (z := 0) rfl rfl (by decide) ?_
  refine x_ineg (pc' := 53) (z := 0) rfl rfl (by decide) ?_
  refine x_istore (pc' := 55) (ls' := [_, _, _, _, _, _, _]) rfl rfl rfl rfl ?_
  refine x_iload (pc' := 57) rfl rfl rfl ?_
  refine x_iload (pc' := 59) rfl rfl rfl ?_
  refine x_icmp (a' := 67) (pc' := 62) (z := true) rfl rfl rfl (by decide) (fun _ => ?_) (fun h => by cases h)
  refine x_iload (pc' := 69) rfl rfl rfl ?_
  refine x_istore (pc' := 71) (ls' := [_, _, _, _, _, _, _]) rfl rfl rfl rfl ?_
  refine x_iinc (pc' := 74) (y := 2) (ls' := [_, _, _, _, _, _, _]) rfl rfl rfl rfl rfl ?_
  refine x_goto (pc' := 6) rfl rfl ?_
  refine x_iload (pc' := 8) rfl rfl rfl ?_
  refine x_bipush (pc' := 10) rfl rfl ?_
  refine x_icmp (a' := 77) (pc' := 13) (z := false) rfl rfl rfl (by decide) (fun h => by cases h) (fun _ => ?_)
  refine x_iload_n (pc' := 14) rfl rfl rfl ?_
  refine x_aload_n (pc' := 15) rfl rfl rfl rfl rfl ?_
  refine x_gR (pc' := 18) (r := (some 11)) rfl rfl rfl (Eq.trans rdRI (Eq.trans rdRL (Eq.trans rdRnwa (z_R_783_0 e)))) ?_
  refine x_iconst (pc' := 19) rfl rfl ?_
  refine x_iload (pc' := 21) rfl rfl rfl ?_
  refine x_imul (pc' := 22) (z := 6) rfl rfl (by decide) ?_
  refine x_iald (pc' := 23) (N := 18) (x := 0) rfl rfl rfl (Eq.trans (b := sN t _ _) rfl (z_N_21_11 e)) (io_in (p := 6) (N := 18) (by decide) (by decide)) (Eq.trans (congrArg (sA (sIw (sLw (sNwA t 20 6) 23 0 0 (0 : Int64)) 768 0 0) 21 11) (nn_io (p := 6) (by decide))) (Eq.trans rdAI (Eq.trans rdAL (Eq.trans rdAnwa (z_A_21_11_6 e))))) ?_
  refine x_imul (pc' := 24) (z := 0) rfl rfl (by decide) ?_
  refine x_iload_n (pc' := 25) rfl rfl rfl ?_
  refine x_aload_n (pc' := 26) rfl rfl rfl rfl rfl ?_
  refine x_gR (pc' := 29) (r := (some 11)) rfl rfl rfl (Eq.trans rdRI (Eq.trans rdRL (Eq.trans rdRnwa (z_R_783_0 e)))) ?_
  refine x_iconst (pc' := 30) rfl rfl ?_
  refine x_iload (pc' := 32) rfl rfl rfl ?_
  refine x_imul (pc' := 33) (z := 6) rfl rfl (by decide) ?_
  refine x_iconst (pc' := 34) rfl rfl ?_
  refine x_iadd (pc' := 35) (z := 7) rfl rfl (by decide) ?_
  refine x_iald (pc' := 36) (N := 18) (x := 0) rfl rfl rfl (Eq.trans (b := sN t _ _) rfl (z_N_21_11 e)) (io_in (p := 7) (N := 18) (by decide) (by decide)) (Eq.trans (congrArg (sA (sIw (sLw (sNwA t 20 6) 23 0 0 (0 : Int64)) 768 0 0) 21 11) (nn_io (p := 7) (by decide))) (Eq.trans rdAI (Eq.trans rdAL (Eq.trans rdAnwa (z_A_21_11_7 e))))) ?_
  refine x_imul (pc' := 37) (z := 0) rfl rfl (by decide) ?_
  refine x_iadd (pc' := 38) (z := 0) rfl rfl (by decide) ?_
  refine x_iload_n (pc' := 39) rfl rfl rfl ?_
  refine x_aload_n (pc' := 40) rfl rfl rfl rfl rfl ?_
  refine x_gR (pc' := 43) (r := (some 11)) rfl rfl rfl (Eq.trans rdRI (Eq.trans rdRL (Eq.trans rdRnwa (z_R_783_0 e)))) ?_
  refine x_iconst (pc' := 44) rfl rfl ?_
  refine x_iload (pc' := 46) rfl rfl rfl ?_
  refine x_imul (pc' := 47) (z := 6) rfl rfl (by decide) ?_
  refine x_iconst (pc' := 48) rfl rfl ?_
  refine x_iadd (pc' := 49) (z := 8) rfl rfl (by decide) ?_
  refine x_iald (pc' := 50) (N := 18) (x := 0) rfl rfl rfl (Eq.trans (b := sN t _ _) rfl (z_N_21_11 e)) (io_in (p := 8) (N := 18) (by decide) (by decide)) (Eq.trans (congrArg (sA (sIw (sLw (sNwA t 20 6) 23 0 0 (0 : Int64)) 768 0 0) 21 11) (nn_io (p := 8) (by decide))) (Eq.trans rdAI (Eq.trans rdAL (Eq.trans rdAnwa (z_A_21_11_8 e))))) ?_
  refine x_imul (pc' := 51) (z := 0) rfl rfl (by decide) ?_
  refine x_iadd (pc' := 52) (z := 0) rfl rfl (by decide) ?_
  refine x_ineg (pc' := 53) (z := 0) rfl rfl (by decide) ?_
  refine x_istore (pc' := 55) (ls' := [_, _, _, _, _, _, _]) rfl rfl rfl rfl ?_
  refine x_iload (pc' := 57) rfl rfl rfl ?_
  refine x_iload (pc' := 59) rfl rfl rfl ?_
  refine x_icmp (a' := 67) (pc' := 62) (z := true) rfl rfl rfl (by decide) (fun _ => ?_) (fun h => by cases h)
  refine x_iload (pc' := 69) rfl rfl rfl ?_
  refine x_istore (pc' := 71) (ls' := [_, _, _, _, _, _, _]) rfl rfl rfl rfl ?_
  refine x_iinc (pc' := 74) (y := 3) (ls' := [_, _, _, _, _, _, _]) rfl rfl rfl rfl rfl ?_
  refine x_goto (pc' := 6) rfl rfl ?_
  refine x_iload (pc' := 8) rfl rfl rfl ?_
  refine x_bipush (pc' := 10) rfl rfl ?_
  refine x_icmp (a' := 77) (pc' := 13) (z := false) rfl rfl rfl (by decide) (fun h => by cases h) (fun _ => ?_)
  refine x_iload_n (pc' := 14) rfl rfl rfl ?_
  refine x_aload_n (pc' := 15) rfl rfl rfl rfl rfl ?_
  refine x_gR (pc' := 18) (r := (some 11)) rfl rfl rfl (Eq.trans rdRI (Eq.trans rdRL (Eq.trans rdRnwa (z_R_783_0 e)))) ?_
  refine x_iconst (pc' := 19) rfl rfl ?_
  refine x_iload (pc' := 21) rfl rfl rfl ?_
  refine x_imul (pc' := 22) (z := 9) rfl rfl (by decide) ?_
  refine x_iald (pc' := 23) (N := 18) (x := 0) rfl rfl rfl (Eq.trans (b := sN t _ _) rfl (z_N_21_11 e)) (io_in (p := 9) (N := 18) (by decide) (by decide)) (Eq.trans (congrArg (sA (sIw (sLw (sNwA t 20 6) 23 0 0 (0 : Int64)) 768 0 0) 21 11) (nn_io (p := 9) (by decide))) (Eq.trans rdAI (Eq.trans rdAL (Eq.trans rdAnwa (z_A_21_11_9 e))))) ?_
  refine x_imul (pc' := 24) (z := 0) rfl rfl (by decide) ?_
  refine x_iload_n (pc' := 25) rfl rfl rfl ?_
  refine x_aload_n (pc' := 26) rfl rfl rfl rfl rfl ?_
  refine x_gR (pc' := 29) (r := (some 11)) rfl rfl rfl (Eq.trans rdRI (Eq.trans rdRL (Eq.trans rdRnwa (z_R_783_0 e)))) ?_
  refine x_iconst (pc' := 30) rfl rfl ?_
  refine x_iload (pc' := 32) rfl rfl rfl ?_
  refine x_imul (pc' := 33) (z := 9) rfl rfl (by decide) ?_
  refine x_iconst (pc' := 34) rfl rfl ?_
  refine x_iadd (pc' := 35) (z := 10) rfl rfl (by decide) ?_
  refine x_iald (pc' := 36) (N := 18) (x := 0) rfl rfl rfl (Eq.trans (b := sN t _ _) rfl (z_N_21_11 e)) (io_in (p := 10) (N := 18) (by decide) (by decide)) (Eq.trans (congrArg (sA (sIw (sLw (sNwA t 20 6) 23 0 0 (0 : Int64)) 768 0 0) 21 11) (nn_io (p := 10) (by decide))) (Eq.trans rdAI (Eq.trans rdAL (Eq.trans rdAnwa (z_A_21_11_10 e))))) ?_
  refine x_imul (pc' := 37) (z := 0) rfl rfl (by decide) ?_
  refine x_iadd (pc' := 38) (z := 0) rfl rfl (by decide) ?_
  refine x_iload_n (pc' := 39) rfl rfl rfl ?_
  refine x_aload_n (pc' := 40) rfl rfl rfl rfl rfl ?_
  refine x_gR (pc' := 43) (r := (some 11)) rfl rfl rfl (Eq.trans rdRI (Eq.trans rdRL (Eq.trans rdRnwa (z_R_783_0 e)))) ?_
  refine x_iconst (pc' := 44) rfl rfl ?_
  refine x_iload (pc' := 46) rfl rfl rfl ?_
  refine x_imul (pc' := 47) (z := 9) rfl rfl (by decide) ?_
  refine x_iconst (pc' := 48) rfl rfl ?_
  refine x_iadd (pc' := 49) (z := 11) rfl rfl (by decide) ?_
  refine x_iald (pc' := 50) (N := 18) (x := 0) rfl rfl rfl (Eq.trans (b := sN t _ _) rfl (z_N_21_11 e)) (io_in (p := 11) (N := 18) (by decide) (by decide)) (Eq.trans (congrArg (sA (sIw (sLw (sNwA t 20 6) 23 0 0 (0 : Int64)) 768 0 0) 21 11) (nn_io (p := 11) (by decide))) (Eq.trans rdAI (Eq.trans rdAL (Eq.trans rdAnwa (z_A_21_11_11 e))))) ?_
  refine x_imul (pc' := 51) (z := 0) rfl rfl (by decide) ?_
  refine x_iadd (pc' := 52) (z := 0) rfl rfl (by decide) ?_
  refine x_ineg (pc' := 53) (z := 0) rfl rfl (by decide) ?_
  refine x_istore (pc' := 55) (ls' := [_, _, _, _, _, _, _]) rfl rfl rfl rfl ?_
  refine x_iload (pc' := 57) rfl rfl rfl ?_
  refine x_iload (pc' := 59) rfl rfl rfl ?_
  refine x_icmp (a' := 67) (pc' := 62) (z := true) rfl rfl rfl (by decide) (fun _ => ?_) (fun h => by cases h)
  refine x_iload (pc' := 69) rfl rfl rfl ?_
  refine x_istore (pc' := 71) (ls' := [_, _, _, _, _, _, _]) rfl rfl rfl rfl ?_
  refine x_iinc (pc' := 74) (y := 4) (ls' := [_, _, _, _, _, _, _]) rfl rfl rfl rfl rfl ?_
  refine x_goto (pc' := 6) rfl rfl ?_
  refine x_iload (pc' := 8) rfl rfl rfl ?_
  refine x_bipush (pc' := 10) rfl rfl ?_
  refine x_icmp (a' := 77) (pc' := 13) (z := false) rfl rfl rfl (by decide) (fun h => by cases h) (fun _ => ?_)
  refine x_iload_n (pc' := 14) rfl rfl rfl ?_
  refine x_aload_n (pc' := 15) rfl rfl rfl rfl rfl ?_
  refine x_gR (pc' := 18) (r := (some 11)) rfl rfl rfl (Eq.trans rdRI (Eq.trans rdRL (Eq.trans rdRnwa (z_R_783_0 e)))) ?_
  refine x_iconst (pc' := 19) rfl rfl ?_
  refine x_iload (pc' := 21) rfl rfl rfl ?_
  refine x_imul (pc' := 22) (z := 12) rfl rfl (by decide) ?_
  refine x_iald (pc' := 23) (N := 18) (x := 0) rfl rfl rfl (Eq.trans (b := sN t _ _) rfl (z_N_21_11 e)) (io_in (p := 12) (N := 18) (by decide) (by decide)) (Eq.trans (congrArg (sA (sIw (sLw (sNwA t 20 6) 23 0 0 (0 : Int64)) 768 0 0) 21 11) (nn_io (p := 12) (by decide))) (Eq.trans rdAI (Eq.trans rdAL (Eq.trans rdAnwa (z_A_21_11_12 e))))) ?_
  refine x_imul (pc' := 24) (z := 0) rfl rfl (by decide) ?_
  refine x_iload_n (pc' := 25) rfl rfl rfl ?_
  refine x_aload_n (pc' := 26) rfl rfl rfl rfl rfl ?_
  refine x_gR (pc' := 29) (r := (some 11)) rfl rfl rfl (Eq.trans rdRI (Eq.trans rdRL (Eq.trans rdRnwa (z_R_783_0 e)))) ?_
  refine x_iconst (pc' := 30) rfl rfl ?_
  refine x_iload (pc' := 32) rfl rfl rfl ?_
  refine x_imul (pc' := 33) (z := 12) rfl rfl (by decide) ?_
  refine x_iconst (pc' := 34) rfl rfl ?_
  refine x_iadd (pc' := 35) (z := 13) rfl rfl (by decide) ?_
  refine x_iald (pc' := 36) (N := 18) (x := 0) rfl rfl rfl (Eq.trans (b := sN t _ _) rfl (z_N_21_11 e)) (io_in (p := 13) (N := 18) (by decide) (by decide)) (Eq.trans (congrArg (sA (sIw (sLw (sNwA t 20 6) 23 0 0 (0 : Int64)) 768 0 0) 21 11) (nn_io (p := 13) (by decide))) (Eq.trans rdAI (Eq.trans rdAL (Eq.trans rdAnwa (z_A_21_11_13 e))))) ?_
  refine x_imul (pc' := 37) (z := 0) rfl rfl (by decide) ?_
  refine x_iadd (pc' := 38) (z := 0) rfl rfl (by decide) ?_
  refine x_iload_n (pc' := 39) rfl rfl rfl ?_
  refine x_aload_n (pc' := 40) rfl rfl rfl rfl rfl ?_
  refine x_gR (pc' := 43) (r := (some 11)) rfl rfl rfl (Eq.trans rdRI (Eq.trans rdRL (Eq.trans rdRnwa (z_R_783_0 e)))) ?_
  refine x_iconst (pc' := 44) rfl rfl ?_
  refine x_iload (pc' := 46) rfl rfl rfl ?_
  refine x_imul (pc' := 47) (z := 12) rfl rfl (by decide) ?_
  refine x_iconst (pc' := 48) rfl rfl ?_
  refine x_iadd (pc' := 49) (z := 14) rfl rfl (by decide) ?_
  refine x_iald (pc' := 50) (N := 18) (x := 0) rfl rfl rfl (Eq.trans (b := sN t _ _) rfl (z_N_21_11 e)) (io_in (p := 14) (N := 18) (by decide) (by decide)) (Eq.trans (congrArg (sA (sIw (sLw (sNwA t 20 6) 23 0 0 (0 : Int64)) 768 0 0) 21 11) (nn_io (p := 14) (by decide))) (Eq.trans rdAI (Eq.trans rdAL (Eq.trans rdAnwa (z_A_21_11_14 e))))) ?_
  refine x_imul (pc' := 51) (z := 0) rfl rfl (by decide) ?_
  refine x_iadd (pc' := 52) (z := 0) rfl rfl (by decide) ?_
  refine x_ineg (pc' := 53) (z := 0) rfl rfl (by decide) ?_
  refine x_istore (pc' := 55) (ls' := [_, _, _, _, _, _, _]) rfl rfl rfl rfl ?_
  refine x_iload (pc' := 57) rfl rfl rfl ?_
  refine x_iload (pc' := 59) rfl rfl rfl ?_
  refine x_icmp (a' := 67) (pc' := 62) (z := true) rfl rfl rfl (by decide) (fun _ => ?_) (fun h => by cases h)
  refine x_iload (pc' := 69) rfl rfl rfl ?_
  refine x_istore (pc' := 71) (ls' := [_, _, _, _, _, _, _]) rfl rfl rfl rfl ?_
  refine x_iinc (pc' := 74) (y := 5) (ls' := [_, _, _, _, _, _, _]) rfl rfl rfl rfl rfl ?_
  refine x_goto (pc' := 6) rfl rfl ?_
  refine x_iload (pc' := 8) rfl rfl rfl ?_
  refine x_bipush (pc' := 10) rfl rfl ?_
  refine x_icmp (a' := 77) (pc' := 13) (z := false) rfl rfl rfl (by decide) (fun h => by cases h) (fun _ => ?_)
  refine x_iload_n (pc' := 14) rfl rfl rfl ?_
  refine x_aload_n (pc' := 15) rfl rfl rfl rfl rfl ?_
  refine x_gR (pc' := 18) (r := (some 11)) rfl rfl rfl (Eq.trans rdRI (Eq.trans rdRL (Eq.trans rdRnwa (z_R_783_0 e)))) ?_
  refine x_iconst (pc' := 19) rfl rfl ?_
  refine x_iload (pc' := 21) rfl rfl rfl ?_
  refine x_imul (pc' := 22) (z := 15) rfl rfl (by decide) ?_
  refine x_iald (pc' := 23) (N := 18) (x := 0) rfl rfl rfl (Eq.trans (b := sN t _ _) rfl (z_N_21_11 e)) (io_in (p := 15) (N := 18) (by decide) (by decide)) (Eq.trans (congrArg (sA (sIw (sLw (sNwA t 20 6) 23 0 0 (0 : Int64)) 768 0 0) 21 11) (nn_io (p := 15) (by decide))) (Eq.trans rdAI (Eq.trans rdAL (Eq.trans rdAnwa (z_A_21_11_15 e))))) ?_
  refine x_imul (pc' := 24) (z := 0) rfl rfl (by decide) ?_
  refine x_iload_n (pc' := 25) rfl rfl rfl ?_
  refine x_aload_n (pc' := 26) rfl rfl rfl rfl rfl ?_
  refine x_gR (pc' := 29) (r := (some 11)) rfl rfl rfl (Eq.trans rdRI (Eq.trans rdRL (Eq.trans rdRnwa (z_R_783_0 e)))) ?_
  refine x_iconst (pc' := 30) rfl rfl ?_
  refine x_iload (pc' := 32) rfl rfl rfl ?_
  refine x_imul (pc' := 33) (z := 15) rfl rfl (by decide) ?_
  refine x_iconst (pc' := 34) rfl rfl ?_
  refine x_iadd (pc' := 35) (z := 16) rfl rfl (by decide) ?_
  refine x_iald (pc' := 36) (N := 18) (x := 0) rfl rfl rfl (Eq.trans (b := sN t _ _) rfl (z_N_21_11 e)) (io_in (p := 16) (N := 18) (by decide) (by decide)) (Eq.trans (congrArg (sA (sIw (sLw (sNwA t 20 6) 23 0 0 (0 : Int64)) 768 0 0) 21 11) (nn_io (p := 16) (by decide))) (Eq.trans rdAI (Eq.trans rdAL (Eq.trans rdAnwa (z_A_21_11_16 e))))) ?_
  refine x_imul (pc' := 37) (z := 0) rfl rfl (by decide) ?_
  refine x_iadd (pc' := 38) (z := 0) rfl rfl (by decide) ?_
  refine x_iload_n (pc' := 39) rfl rfl rfl ?_
  refine x_aload_n (pc' := 40) rfl rfl rfl rfl rfl ?_
  refine x_gR (pc' := 43) (r := (some 11)) rfl rfl rfl (Eq.trans rdRI (Eq.trans rdRL (Eq.trans rdRnwa (z_R_783_0 e)))) ?_
  refine x_iconst (pc' := 44) rfl rfl ?_
  refine x_iload (pc' := 46) rfl rfl rfl ?_
  refine x_imul (pc' := 47) (z := 15) rfl rfl (by decide) ?_
  refine x_iconst (pc' := 48) rfl rfl ?_
  refine x_iadd (pc' := 49) (z := 17) rfl rfl (by decide) ?_
  refine x_iald (pc' := 50) (N := 18) (x := 0) rfl rfl rfl (Eq.trans (b := sN t _ _) rfl (z_N_21_11 e)) (io_in (p := 17) (N := 18) (by decide) (by decide)) (Eq.trans (congrArg (sA (sIw (sLw (sNwA t 20 6) 23 0 0 (0 : Int64)) 768 0 0) 21 11) (nn_io (p := 17) (by decide))) (Eq.trans rdAI (Eq.trans rdAL (Eq.trans rdAnwa (z_A_21_11_17 e))))) ?_
  refine x_imul (pc' := 51) (z := 0) rfl rfl (by decide) ?_
  refine x_iadd (pc' := 52) (z := 0) rfl rfl (by decide) ?_
  refine x_ineg (pc' := 53) (z := 0) rfl rfl (by decide) ?_
  refine x_istore (pc' := 55) (ls' := [_, _, _, _, _, _, _]) rfl rfl rfl rfl ?_
  refine x_iload (pc' := 57) rfl rfl rfl ?_
  refine x_iload (pc' := 59) rfl rfl rfl ?_
  refine x_icmp (a' := 67) (pc' := 62) (z := true) rfl rfl rfl (by decide) (fun _ => ?_) (fun h => by cases h)
  refine x_iload (pc' := 69) rfl rfl rfl ?_
  refine x_istore (pc' := 71) (ls' := [_, _, _, _, _, _, _]) rfl rfl rfl rfl ?_
  refine x_iinc (pc' := 74) (y := 6) (ls' := [_, _, _, _, _, _, _]) rfl rfl rfl rfl rfl ?_
  refine x_goto (pc' := 6) rfl rfl ?_
  refine x_iload (pc' := 8) rfl rfl rfl ?_
  refine x_bipush (pc' := 10) rfl rfl ?_
  refine x_icmp (a' := 77) (pc' := 13) (z := true) rfl rfl rfl (by decide) (fun _ => ?_) (fun h => by cases h)
  refine x_iload (pc' := 79) rfl rfl rfl ?_
  refine x_reti rfl rfl ?_
  refine sK_i (pc' := 35) rfl ?_
  refine x_istore (pc' := 37) (ls' := [_, _, _, _, _]) rfl rfl rfl rfl ?_
  refine x_iload (pc' := 39) rfl rfl rfl ?_
  refine x_iload_n (pc' := 40) rfl rfl rfl ?_
  refine x_icmp (a' := 48) (pc' := 43) (z := true) rfl rfl rfl (by decide) (fun _ => ?_) (fun h => by cases h)
  refine x_iload_n (pc' := 49) rfl rfl rfl ?_
  refine x_istore_n (pc' := 50) (ls' := [_, _, _, _, _]) rfl rfl rfl rfl ?_
  refine x_iinc (pc' := 53) (y := 4) (ls' := [_, _, _, _, _]) rfl rfl rfl rfl rfl ?_
  refine x_goto (pc' := 4) rfl rfl ?_
  refine x_iload_n (pc' := 5) rfl rfl rfl ?_
  refine x_bipush (pc' := 7) rfl rfl ?_
  refine x_icmp (a' := 56) (pc' := 10) (z := false) rfl rfl rfl (by decide) (fun h => by cases h) (fun _ => ?_)
  refine x_aload_n (pc' := 11) rfl rfl rfl rfl rfl ?_
  refine x_aload_n (pc' := 12) rfl rfl rfl rfl rfl ?_
  refine x_iload_n (pc' := 13) rfl rfl rfl ?_
  refine x_iconst (pc' := 14) rfl rfl ?_
  refine x_iload_n (pc' := 15) rfl rfl rfl ?_
  refine x_cv (ls0 := [_, _, _, _, sJk, sJk]) (rest := [_]) rfl rfl rfl rfl rfl ?_
  refine x_iload_n (pc' := 1) rfl rfl rfl ?_
  refine x_iload_n (pc' := 2) rfl rfl rfl ?_
  refine x_ishr (pc' := 3) (z := 4) rfl rfl (by decide) ?_
  refine x_iconst (pc' := 4) rfl rfl ?_
  refine x_iand (pc' := 5) (z := 0) rfl rfl (by decide) ?_
  refine x_iconst (pc' := 6) rfl rfl ?_
  refine x_icmp (a' := 13) (pc' := 9) (z := true) rfl rfl rfl (by decide) (fun _ => ?_) (fun h => by cases h)
  refine x_iconst (pc' := 14) rfl rfl ?_
  refine x_istore (pc' := 16) (ls' := [_, _, _, _, _, _]) rfl rfl rfl rfl ?_
  refine x_aload_n (pc' := 17) rfl rfl rfl rfl rfl ?_
  refine x_iload_n (pc' := 18) rfl rfl rfl ?_
  refine x_iload_n (pc' := 19) rfl rfl rfl ?_
  refine x_iload (pc' := 21) rfl rfl rfl ?_
  refine x_cv (ls0 := [_, _, _, _, sJk, sJk, sJk, sJk, sJk]) (rest := []) rfl rfl rfl rfl rfl ?_
  refine x_iconst (pc' := 1) rfl rfl ?_
  refine x_istore (pc' := 3) (ls' := [_, _, _, _, _, _, _, _, _]) rfl rfl rfl rfl ?_
  refine x_iconst (pc' := 4) rfl rfl ?_
  refine x_istore (pc' := 6) (ls' := [_, _, _, _, _, _, _, _, _]) rfl rfl rfl rfl ?_
  refine x_iload (pc' := 8) rfl rfl rfl ?_
  refine x_aload_n (pc' := 9) rfl rfl rfl rfl rfl ?_
  refine x_gI (pc' := 12) (x := 0) rfl rfl rfl (Eq.trans (rdI_F rfl) (Eq.trans rdIL (Eq.trans rdInwa (z_I_786_0 e)))) ?_
  refine x_icmp (a' := 190) (pc' := 15) (z := true) rfl rfl rfl (by decide) (fun _ => ?_) (fun h => by cases h)
  refine x_iload (pc' := 192) rfl rfl rfl ?_
  refine x_reti rfl rfl ?_
  refine sK_i (pc' := 24) rfl ?_
  refine x_istore (pc' := 26) (ls' := [_, _, _, _, _, _]) rfl rfl rfl rfl ?_
  refine x_aload_n (pc' := 27) rfl rfl rfl rfl rfl ?_
  refine x_gR (pc' := 30) (r := (some 6)) rfl rfl rfl (Eq.trans rdRI (Eq.trans rdRL (Eq.trans rdRnwa (z_R_776_0 e)))) ?_
  refine x_iconst (pc' := 31) rfl rfl ?_
  refine x_iload_n (pc' := 32) rfl rfl rfl ?_
  refine x_imul (pc' := 33) (z := (io (3 * m))) rfl rfl (io_mul 3 m) ?_
  refine x_iload_n (pc' := 34) rfl rfl rfl ?_
  refine x_iadd (pc' := 35) (z := (io ((3 * m) + 0))) rfl rfl (io_add (3 * m) 0) ?_
  refine x_iald (pc' := 36) (N := 18) (x := 0) rfl rfl rfl (Eq.trans (b := sN t _ _) rfl (z_N_21_6 e)) (io_in (p := ((3 * m) + 0)) (N := 18) (show ((3 * m) + 0) < 18 by omega) (by decide)) (Eq.trans (congrArg (sA (sIw (sLw (sNwA t 20 6) 23 0 0 (0 : Int64)) 768 0 0) 21 6) (nn_io (p := ((3 * m) + 0)) (Nat.lt_trans (show ((3 * m) + 0) < 18 by omega) (by decide)))) (Eq.trans rdAI (Eq.trans rdAL (Eq.trans rdAnwa (z_A_21_6_y e _))))) ?_
  refine x_iload (pc' := 38) rfl rfl rfl ?_
  refine x_if (a' := 46) (pc' := 41) (z := true) rfl rfl rfl (by decide) (fun _ => ?_) (fun h => by cases h)
  refine x_iload (pc' := 48) rfl rfl rfl ?_
  refine x_ineg (pc' := 49) (z := 0) rfl rfl (by decide) ?_
  refine x_iadd (pc' := 50) (z := 0) rfl rfl (by decide) ?_
  refine x_reti rfl rfl ?_
  refine sK_i (pc' := 18) rfl ?_
  refine x_aload_n (pc' := 19) rfl rfl rfl rfl rfl ?_
  refine x_iload_n (pc' := 20) rfl rfl rfl ?_
  refine x_iconst (pc' := 21) rfl rfl ?_
  refine x_iload_n (pc' := 22) rfl rfl rfl ?_
  refine x_cv (ls0 := [_, _, _, _, sJk, sJk]) (rest := [_, _]) rfl rfl rfl rfl rfl ?_
  refine x_iload_n (pc' := 1) rfl rfl rfl ?_
  refine x_iload_n (pc' := 2) rfl rfl rfl ?_
  refine x_ishr (pc' := 3) (z := 2) rfl rfl (by decide) ?_
  refine x_iconst (pc' := 4) rfl rfl ?_
  refine x_iand (pc' := 5) (z := 0) rfl rfl (by decide) ?_
  refine x_iconst (pc' := 6) rfl rfl ?_
  refine x_icmp (a' := 13) (pc' := 9) (z := true) rfl rfl rfl (by decide) (fun _ => ?_) (fun h => by cases h)
  refine x_iconst (pc' := 14) rfl rfl ?_
  refine x_istore (pc' := 16) (ls' := [_, _, _, _, _, _]) rfl rfl rfl rfl ?_
  refine x_aload_n (pc' := 17) rfl rfl rfl rfl rfl ?_
  refine x_iload_n (pc' := 18) rfl rfl rfl ?_
  refine x_iload_n (pc' := 19) rfl rfl rfl ?_
  refine x_iload (pc' := 21) rfl rfl rfl ?_
  refine x_cv (ls0 := [_, _, _, _, sJk, sJk, sJk, sJk, sJk]) (rest := []) rfl rfl rfl rfl rfl ?_
  refine x_iconst (pc' := 1) rfl rfl ?_
  refine x_istore (pc' := 3) (ls' := [_, _, _, _, _, _, _, _, _]) rfl rfl rfl rfl ?_
  refine x_iconst (pc' := 4) rfl rfl ?_
  refine x_istore (pc' := 6) (ls' := [_, _, _, _, _, _, _, _, _]) rfl rfl rfl rfl ?_
  refine x_iload (pc' := 8) rfl rfl rfl ?_
  refine x_aload_n (pc' := 9) rfl rfl rfl rfl rfl ?_
  refine x_gI (pc' := 12) (x := 0) rfl rfl rfl (Eq.trans (rdI_F rfl) (Eq.trans rdIL (Eq.trans rdInwa (z_I_786_0 e)))) ?_
  refine x_icmp (a' := 190) (pc' := 15) (z := true) rfl rfl rfl (by decide) (fun _ => ?_) (fun h => by cases h)
  refine x_iload (pc' := 192) rfl rfl rfl ?_
  refine x_reti rfl rfl ?_
  refine sK_i (pc' := 24) rfl ?_
  refine x_istore (pc' := 26) (ls' := [_, _, _, _, _, _]) rfl rfl rfl rfl ?_
  refine x_aload_n (pc' := 27) rfl rfl rfl rfl rfl ?_
  refine x_gR (pc' := 30) (r := (some 6)) rfl rfl rfl (Eq.trans rdRI (Eq.trans rdRL (Eq.trans rdRnwa (z_R_776_0 e)))) ?_
  refine x_iconst (pc' := 31) rfl rfl ?_
  refine x_iload_n (pc' := 32) rfl rfl rfl ?_
  refine x_imul (pc' := 33) (z := (io (3 * m))) rfl rfl (io_mul 3 m) ?_
  refine x_iload_n (pc' := 34) rfl rfl rfl ?_
  refine x_iadd (pc' := 35) (z := (io ((3 * m) + 1))) rfl rfl (io_add (3 * m) 1) ?_
  refine x_iald (pc' := 36) (N := 18) (x := 0) rfl rfl rfl (Eq.trans (b := sN t _ _) rfl (z_N_21_6 e)) (io_in (p := ((3 * m) + 1)) (N := 18) (show ((3 * m) + 1) < 18 by omega) (by decide)) (Eq.trans (congrArg (sA (sIw (sLw (sNwA t 20 6) 23 0 0 (0 : Int64)) 768 0 0) 21 6) (nn_io (p := ((3 * m) + 1)) (Nat.lt_trans (show ((3 * m) + 1) < 18 by omega) (by decide)))) (Eq.trans rdAI (Eq.trans rdAL (Eq.trans rdAnwa (z_A_21_6_y e _))))) ?_
  refine x_iload (pc' := 38) rfl rfl rfl ?_
  refine x_if (a' := 46) (pc' := 41) (z := true) rfl rfl rfl (by decide) (fun _ => ?_) (fun h => by cases h)
  refine x_iload (pc' := 48) rfl rfl rfl ?_
  refine x_ineg (pc' := 49) (z := 0) rfl rfl (by decide) ?_
  refine x_iadd (pc' := 50) (z := 0) rfl rfl (by decide) ?_
  refine x_reti rfl rfl ?_
  refine sK_i (pc' := 25) rfl ?_
  refine x_aload_n (pc' := 26) rfl rfl rfl rfl rfl ?_
  refine x_iload_n (pc' := 27) rfl rfl rfl ?_
  refine x_iconst (pc' := 28) rfl rfl ?_
  refine x_iload_n (pc' := 29) rfl rfl rfl ?_
  refine x_cv (ls0 := [_, _, _, _, sJk, sJk]) (rest := [_, _, _]) rfl rfl rfl rfl rfl ?_
  refine x_iload_n (pc' := 1) rfl rfl rfl ?_
  refine x_iload_n (pc' := 2) rfl rfl rfl ?_
  refine x_ishr (pc' := 3) (z := 1) rfl rfl (by decide) ?_
  refine x_iconst (pc' := 4) rfl rfl ?_
  refine x_iand (pc' := 5) (z := 1) rfl rfl (by decide) ?_
  refine x_iconst (pc' := 6) rfl rfl ?_
  refine x_icmp (a' := 13) (pc' := 9) (z := false) rfl rfl rfl (by decide) (fun h => by cases h) (fun _ => ?_)
  refine x_iconst (pc' := 10) rfl rfl ?_
  refine x_goto (pc' := 14) rfl rfl ?_
  refine x_istore (pc' := 16) (ls' := [_, _, _, _, _, _]) rfl rfl rfl rfl ?_
  refine x_aload_n (pc' := 17) rfl rfl rfl rfl rfl ?_
  refine x_iload_n (pc' := 18) rfl rfl rfl ?_
  refine x_iload_n (pc' := 19) rfl rfl rfl ?_
  refine x_iload (pc' := 21) rfl rfl rfl ?_
  refine x_cv (ls0 := [_, _, _, _, sJk, sJk, sJk, sJk, sJk]) (rest := []) rfl rfl rfl rfl rfl ?_
  refine x_iconst (pc' := 1) rfl rfl ?_
  refine x_istore (pc' := 3) (ls' := [_, _, _, _, _, _, _, _, _]) rfl rfl rfl rfl ?_
  refine x_iconst (pc' := 4) rfl rfl ?_
  refine x_istore (pc' := 6) (ls' := [_, _, _, _, _, _, _, _, _]) rfl rfl rfl rfl ?_
  refine x_iload (pc' := 8) rfl rfl rfl ?_
  refine x_aload_n (pc' := 9) rfl rfl rfl rfl rfl ?_
  refine x_gI (pc' := 12) (x := 0) rfl rfl rfl (Eq.trans (rdI_F rfl) (Eq.trans rdIL (Eq.trans rdInwa (z_I_786_0 e)))) ?_
  refine x_icmp (a' := 190) (pc' := 15) (z := true) rfl rfl rfl (by decide) (fun _ => ?_) (fun h => by cases h)
  refine x_iload (pc' := 192) rfl rfl rfl ?_
  refine x_reti rfl rfl ?_
  refine sK_i (pc' := 24) rfl ?_
  refine x_istore (pc' := 26) (ls' := [_, _, _, _, _, _]) rfl rfl rfl rfl ?_
  refine x_aload_n (pc' := 27) rfl rfl rfl rfl rfl ?_
  refine x_gR (pc' := 30) (r := (some 6)) rfl rfl rfl (Eq.trans rdRI (Eq.trans rdRL (Eq.trans rdRnwa (z_R_776_0 e)))) ?_
  refine x_iconst (pc' := 31) rfl rfl ?_
  refine x_iload_n (pc' := 32) rfl rfl rfl ?_
  refine x_imul (pc' := 33) (z := (io (3 * m))) rfl rfl (io_mul 3 m) ?_
  refine x_iload_n (pc' := 34) rfl rfl rfl ?_
  refine x_iadd (pc' := 35) (z := (io ((3 * m) + 2))) rfl rfl (io_add (3 * m) 2) ?_
  refine x_iald (pc' := 36) (N := 18) (x := 0) rfl rfl rfl (Eq.trans (b := sN t _ _) rfl (z_N_21_6 e)) (io_in (p := ((3 * m) + 2)) (N := 18) (show ((3 * m) + 2) < 18 by omega) (by decide)) (Eq.trans (congrArg (sA (sIw (sLw (sNwA t 20 6) 23 0 0 (0 : Int64)) 768 0 0) 21 6) (nn_io (p := ((3 * m) + 2)) (Nat.lt_trans (show ((3 * m) + 2) < 18 by omega) (by decide)))) (Eq.trans rdAI (Eq.trans rdAL (Eq.trans rdAnwa (z_A_21_6_y e _))))) ?_
  refine x_iload (pc' := 38) rfl rfl rfl ?_
  refine x_if (a' := 46) (pc' := 41) (z := false) rfl rfl rfl (by decide) (fun h => by cases h) (fun _ => ?_)
  refine x_iload (pc' := 43) rfl rfl rfl ?_
  refine x_goto (pc' := 49) rfl rfl ?_
  refine x_iadd (pc' := 50) (z := 0) rfl rfl (by decide) ?_
  refine x_reti rfl rfl ?_
  refine sK_i (pc' := 32) rfl ?_
  refine x_cv (ls0 := [_, _, _, _, sJk, sJk, sJk]) (rest := []) rfl rfl rfl rfl rfl ?_
  refine x_iconst (pc' := 1) rfl rfl ?_
  refine x_istore (pc' := 3) (ls' := [_, _, _, _, _, _, _]) rfl rfl rfl rfl ?_
  refine x_iconst (pc' := 4) rfl rfl ?_
  refine x_istore (pc' := 6) (ls' := [_, _, _, _, _, _, _]) rfl rfl rfl rfl ?_
  refine x_iload (pc' := 8) rfl rfl rfl ?_
  refine x_bipush (pc' := 10) rfl rfl ?_
  refine x_icmp (a' := 77) (pc' := 13) (z := false) rfl rfl rfl (by decide) (fun h => by cases h) (fun _ => ?_)
  refine x_iload_n (pc' := 14) rfl rfl rfl ?_
  refine x_aload_n (pc' := 15) rfl rfl rfl rfl rfl ?_
  refine x_gR (pc' := 18) (r := (some 11)) rfl rfl rfl (Eq.trans rdRI (Eq.trans rdRL (Eq.trans rdRnwa (z_R_783_0 e)))) ?_
  refine x_iconst (pc' := 19) rfl rfl ?_
  refine x_iload (pc' := 21) rfl rfl rfl ?_
  refine x_imul (pc' := 22) (z := 0) rfl rfl (by decide) ?_
  refine x_iald (pc' := 23) (N := 18) (x := 0) rfl rfl rfl (Eq.trans (b := sN t _ _) rfl (z_N_21_11 e)) (io_in (p := 0) (N := 18) (by decide) (by decide)) (Eq.trans (congrArg (sA (sIw (sLw (sNwA t 20 6) 23 0 0 (0 : Int64)) 768 0 0) 21 11) (nn_io (p := 0) (by decide))) (Eq.trans rdAI (Eq.trans rdAL (Eq.trans rdAnwa (z_A_21_11_0 e))))) ?_
  refine x_imul (pc' := 24) (z := 0) rfl rfl (by decide) ?_
  refine x_iload_n (pc' := 25) rfl rfl rfl ?_
  refine x_aload_n (pc' := 26) rfl rfl rfl rfl rfl ?_
  refine x_gR (pc' := 29) (r := (some 11)) rfl rfl rfl (Eq.trans rdRI (Eq.trans rdRL (Eq.trans rdRnwa (z_R_783_0 e)))) ?_
  refine x_iconst (pc' := 30) rfl rfl ?_
  refine x_iload (pc' := 32) rfl rfl rfl ?_
  refine x_imul (pc' := 33) (z := 0) rfl rfl (by decide) ?_
  refine x_iconst (pc' := 34) rfl rfl ?_
  refine x_iadd (pc' := 35) (z := 1) rfl rfl (by decide) ?_
  refine x_iald (pc' := 36) (N := 18) (x := 0) rfl rfl rfl (Eq.trans (b := sN t _ _) rfl (z_N_21_11 e)) (io_in (p := 1) (N := 18) (by decide) (by decide)) (Eq.trans (congrArg (sA (sIw (sLw (sNwA t 20 6) 23 0 0 (0 : Int64)) 768 0 0) 21 11) (nn_io (p := 1) (by decide))) (Eq.trans rdAI (Eq.trans rdAL (Eq.trans rdAnwa (z_A_21_11_1 e))))) ?_
  refine x_imul (pc' := 37) (z := 0) rfl rfl (by decide) ?_
  refine x_iadd (pc' := 38) (z := 0) rfl rfl (by decide) ?_
  refine x_iload_n (pc' := 39) rfl rfl rfl ?_
  refine x_aload_n (pc' := 40) rfl rfl rfl rfl rfl ?_
  refine x_gR (pc' := 43) (r := (some 11)) rfl rfl rfl (Eq.trans rdRI (Eq.trans rdRL (Eq.trans rdRnwa (z_R_783_0 e)))) ?_
  refine x_iconst (pc' := 44) rfl rfl ?_
  refine x_iload (pc' := 46) rfl rfl rfl ?_
  refine x_imul (pc' := 47) (z := 0) rfl rfl (by decide) ?_
  refine x_iconst (pc' := 48) rfl rfl ?_
  refine x_iadd (pc' := 49) (z := 2) rfl rfl (by decide) ?_
  refine x_iald (pc' := 50) (N := 18) (x := 0) rfl rfl rfl (Eq.trans (b := sN t _ _) rfl (z_N_21_11 e)) (io_in (p := 2) (N := 18) (by decide) (by decide)) (Eq.trans (congrArg (sA (sIw (sLw (sNwA t 20 6) 23 0 0 (0 : Int64)) 768 0 0) 21 11) (nn_io (p := 2) (by decide))) (Eq.trans rdAI (Eq.trans rdAL (Eq.trans rdAnwa (z_A_21_11_2 e))))) ?_
  refine x_imul (pc' := 51) (z := 0) rfl rfl (by decide) ?_
  refine x_iadd (pc' := 52) (z := 0) rfl rfl (by decide) ?_
  refine x_ineg (pc' := 53) (z := 0) rfl rfl (by decide) ?_
  refine x_istore (pc' := 55) (ls' := [_, _, _, _, _, _, _]) rfl rfl rfl rfl ?_
  refine x_iload (pc' := 57) rfl rfl rfl ?_
  refine x_iload (pc' := 59) rfl rfl rfl ?_
  refine x_icmp (a' := 67) (pc' := 62) (z := true) rfl rfl rfl (by decide) (fun _ => ?_) (fun h => by cases h)
  refine x_iload (pc' := 69) rfl rfl rfl ?_
  refine x_istore (pc' := 71) (ls' := [_, _, _, _, _, _, _]) rfl rfl rfl rfl ?_
  refine x_iinc (pc' := 74) (y := 1) (ls' := [_, _, _, _, _, _, _]) rfl rfl rfl rfl rfl ?_
  refine x_goto (pc' := 6) rfl rfl ?_
  refine x_iload (pc' := 8) rfl rfl rfl ?_
  refine x_bipush (pc' := 10) rfl rfl ?_
  refine x_icmp (a' := 77) (pc' := 13) (z := false) rfl rfl rfl (by decide) (fun h => by cases h) (fun _ => ?_)
  refine x_iload_n (pc' := 14) rfl rfl rfl ?_
  refine x_aload_n (pc' := 15) rfl rfl rfl rfl rfl ?_
  refine x_gR (pc' := 18) (r := (some 11)) rfl rfl rfl (Eq.trans rdRI (Eq.trans rdRL (Eq.trans rdRnwa (z_R_783_0 e)))) ?_
  refine x_iconst (pc' := 19) rfl rfl ?_
  refine x_iload (pc' := 21) rfl rfl rfl ?_
  refine x_imul (pc' := 22) (z := 3) rfl rfl (by decide) ?_
  refine x_iald (pc' := 23) (N := 18) (x := 0) rfl rfl rfl (Eq.trans (b := sN t _ _) rfl (z_N_21_11 e)) (io_in (p := 3) (N := 18) (by decide) (by decide)) (Eq.trans (congrArg (sA (sIw (sLw (sNwA t 20 6) 23 0 0 (0 : Int64)) 768 0 0) 21 11) (nn_io (p := 3) (by decide))) (Eq.trans rdAI (Eq.trans rdAL (Eq.trans rdAnwa (z_A_21_11_3 e))))) ?_
  refine x_imul (pc' := 24) (z := 0) rfl rfl (by decide) ?_
  refine x_iload_n (pc' := 25) rfl rfl rfl ?_
  refine x_aload_n (pc' := 26) rfl rfl rfl rfl rfl ?_
  refine x_gR (pc' := 29) (r := (some 11)) rfl rfl rfl (Eq.trans rdRI (Eq.trans rdRL (Eq.trans rdRnwa (z_R_783_0 e)))) ?_
  refine x_iconst (pc' := 30) rfl rfl ?_
  refine x_iload (pc' := 32) rfl rfl rfl ?_
  refine x_imul (pc' := 33) (z := 3) rfl rfl (by decide) ?_
  refine x_iconst (pc' := 34) rfl rfl ?_
  refine x_iadd (pc' := 35) (z := 4) rfl rfl (by decide) ?_
  refine x_iald (pc' := 36) (N := 18) (x := 0) rfl rfl rfl (Eq.trans (b := sN t _ _) rfl (z_N_21_11 e)) (io_in (p := 4) (N := 18) (by decide) (by decide)) (Eq.trans (congrArg (sA (sIw (sLw (sNwA t 20 6) 23 0 0 (0 : Int64)) 768 0 0) 21 11) (nn_io (p := 4) (by decide))) (Eq.trans rdAI (Eq.trans rdAL (Eq.trans rdAnwa (z_A_21_11_4 e))))) ?_
  refine x_imul (pc' := 37) (z := 0) rfl rfl (by decide) ?_
  refine x_iadd (pc' := 38) (z := 0) rfl rfl (by decide) ?_
  refine x_iload_n (pc' := 39) rfl rfl rfl ?_
  refine x_aload_n (pc' := 40) rfl rfl rfl rfl rfl ?_
  refine x_gR (pc' := 43) (r := (some 11)) rfl rfl rfl (Eq.trans rdRI (Eq.trans rdRL (Eq.trans rdRnwa (z_R_783_0 e)))) ?_
  refine x_iconst (pc' := 44) rfl rfl ?_
  refine x_iload (pc' := 46) rfl rfl rfl ?_
  refine x_imul (pc' := 47) (z := 3) rfl rfl (by decide) ?_
  refine x_iconst (pc' := 48) rfl rfl ?_
  refine x_iadd (pc' := 49) (z := 5) rfl rfl (by decide) ?_
  refine x_iald (pc' := 50) (N := 18) (x := 0) rfl rfl rfl (Eq.trans (b := sN t _ _) rfl (z_N_21_11 e)) (io_in (p := 5) (N := 18) (by decide) (by decide)) (Eq.trans (congrArg (sA (sIw (sLw (sNwA t 20 6) 23 0 0 (0 : Int64)) 768 0 0) 21 11) (nn_io (p := 5) (by decide))) (Eq.trans rdAI (Eq.trans rdAL (Eq.trans rdAnwa (z_A_21_11_5 e))))) ?_
  refine x_imul (pc' := 51) (z := 0) rfl rfl (by decide) ?_
  refine x_iadd (pc' := 52) (z := 0) rfl rfl (by decide) ?_
  refine x_ineg (pc' := 53) (z := 0) rfl rfl (by decide) ?_
  refine x_istore (pc' := 55) (ls' := [_, _, _, _, _, _, _]) rfl rfl rfl rfl ?_
  refine x_iload (pc' := 57) rfl rfl rfl ?_
  refine x_iload (pc' := 59) rfl rfl rfl ?_
  refine x_icmp (a' := 67) (pc' := 62) (z := true) rfl rfl rfl (by decide) (fun _ => ?_) (fun h => by cases h)
  refine x_iload (pc' := 69) rfl rfl rfl ?_
  refine x_istore (pc' := 71) (ls' := [_, _, _, _, _, _, _]) rfl rfl rfl rfl ?_
  refine x_iinc (pc' := 74) (y := 2) (ls' := [_, _, _, _, _, _, _]) rfl rfl rfl rfl rfl ?_
  refine x_goto (pc' := 6) rfl rfl ?_
  refine x_iload (pc' := 8) rfl rfl rfl ?_
  refine x_bipush (pc' := 10) rfl rfl ?_
  refine x_icmp (a' := 77) (pc' := 13) (z := false) rfl rfl rfl (by decide) (fun h => by cases h) (fun _ => ?_)
  refine x_iload_n (pc' := 14) rfl rfl rfl ?_
  refine x_aload_n (pc' := 15) rfl rfl rfl rfl rfl ?_
  refine x_gR (pc' := 18) (r := (some 11)) rfl rfl rfl (Eq.trans rdRI (Eq.trans rdRL (Eq.trans rdRnwa (z_R_783_0 e)))) ?_
  refine x_iconst (pc' := 19) rfl rfl ?_
  refine x_iload (pc' := 21) rfl rfl rfl ?_
  refine x_imul (pc' := 22) (z := 6) rfl rfl (by decide) ?_
  refine x_iald (pc' := 23) (N := 18) (x := 0) rfl rfl rfl (Eq.trans (b := sN t _ _) rfl (z_N_21_11 e)) (io_in (p := 6) (N := 18) (by decide) (by decide)) (Eq.trans (congrArg (sA (sIw (sLw (sNwA t 20 6) 23 0 0 (0 : Int64)) 768 0 0) 21 11) (nn_io (p := 6) (by decide))) (Eq.trans rdAI (Eq.trans rdAL (Eq.trans rdAnwa (z_A_21_11_6 e))))) ?_
  refine x_imul (pc' := 24) (z := 0) rfl rfl (by decide) ?_
  refine x_iload_n (pc' := 25) rfl rfl rfl ?_
  refine x_aload_n (pc' := 26) rfl rfl rfl rfl rfl ?_
  refine x_gR (pc' := 29) (r := (some 11)) rfl rfl rfl (Eq.trans rdRI (Eq.trans rdRL (Eq.trans rdRnwa (z_R_783_0 e)))) ?_
  refine x_iconst (pc' := 30) rfl rfl ?_
  refine x_iload (pc' := 32) rfl rfl rfl ?_
  refine x_imul (pc' := 33) (z := 6) rfl rfl (by decide) ?_
  refine x_iconst (pc' := 34) rfl rfl ?_
  refine x_iadd (pc' := 35) (z := 7) rfl rfl (by decide) ?_
  refine x_iald (pc' := 36) (N := 18) (x := 0) rfl rfl rfl (Eq.trans (b := sN t _ _) rfl (z_N_21_11 e)) (io_in (p := 7) (N := 18) (by decide) (by decide)) (Eq.trans (congrArg (sA (sIw (sLw (sNwA t 20 6) 23 0 0 (0 : Int64)) 768 0 0) 21 11) (nn_io (p := 7) (by decide))) (Eq.trans rdAI (Eq.trans rdAL (Eq.trans rdAnwa (z_A_21_11_7 e))))) ?_
  refine x_imul (pc' := 37) (z := 0) rfl rfl (by decide) ?_
  refine x_iadd (pc' := 38) (z := 0) rfl rfl (by decide) ?_
  refine x_iload_n (pc' := 39) rfl rfl rfl ?_
  refine x_aload_n (pc' := 40) rfl rfl rfl rfl rfl ?_
  refine x_gR (pc' := 43) (r := (some 11)) rfl rfl rfl (Eq.trans rdRI (Eq.trans rdRL (Eq.trans rdRnwa (z_R_783_0 e)))) ?_
  refine x_iconst (pc' := 44) rfl rfl ?_
  refine x_iload (pc' := 46) rfl rfl rfl ?_
  refine x_imul (pc' := 47) (z := 6) rfl rfl (by decide) ?_
  refine x_iconst (pc' := 48) rfl rfl ?_
  refine x_iadd (pc' := 49) (z := 8) rfl rfl (by decide) ?_
  refine x_iald (pc' := 50) (N := 18) (x := 0) rfl rfl rfl (Eq.trans (b := sN t _ _) rfl (z_N_21_11 e)) (io_in (p := 8) (N := 18) (by decide) (by decide)) (Eq.trans (congrArg (sA (sIw (sLw (sNwA t 20 6) 23 0 0 (0 : Int64)) 768 0 0) 21 11) (nn_io (p := 8) (by decide))) (Eq.trans rdAI (Eq.trans rdAL (Eq.trans rdAnwa (z_A_21_11_8 e))))) ?_
  refine x_imul (pc' := 51) (z := 0) rfl rfl (by decide) ?_
  refine x_iadd (pc' := 52) (z := 0) rfl rfl (by decide) ?_
  refine x_ineg (pc' := 53) (z := 0) rfl rfl (by decide) ?_
  refine x_istore (pc' := 55) (ls' := [_, _, _, _, _, _, _]) rfl rfl rfl rfl ?_
  refine x_iload (pc' := 57) rfl rfl rfl ?_
  refine x_iload (pc' := 59) rfl rfl rfl ?_
  refine x_icmp (a' := 67) (pc' := 62) (z := true) rfl rfl rfl (by decide) (fun _ => ?_) (fun h => by cases h)
  refine x_iload (pc' := 69) rfl rfl rfl ?_
  refine x_istore (pc' := 71) (ls' := [_, _, _, _, _, _, _]) rfl rfl rfl rfl ?_
  refine x_iinc (pc' := 74) (y := 3) (ls' := [_, _, _, _, _, _, _]) rfl rfl rfl rfl rfl ?_
  refine x_goto (pc' := 6) rfl rfl ?_
  refine x_iload (pc' := 8) rfl rfl rfl ?_
  refine x_bipush (pc' := 10) rfl rfl ?_
  refine x_icmp (a' := 77) (pc' := 13) (z := false) rfl rfl rfl (by decide) (fun h => by cases h) (fun _ => ?_)
  refine x_iload_n (pc' := 14) rfl rfl rfl ?_
  refine x_aload_n (pc' := 15) rfl rfl rfl rfl rfl ?_
  refine x_gR (pc' := 18) (r := (some 11)) rfl rfl rfl (Eq.trans rdRI (Eq.trans rdRL (Eq.trans rdRnwa (z_R_783_0 e)))) ?_
  refine x_iconst (pc' := 19) rfl rfl ?_
  refine x_iload (pc' := 21) rfl rfl rfl ?_
  refine x_imul (pc' := 22) (z := 9) rfl rfl (by decide) ?_
  refine x_iald (pc' := 23) (N := 18) (x := 0) rfl rfl rfl (Eq.trans (b := sN t _ _) rfl (z_N_21_11 e)) (io_in (p := 9) (N := 18) (by decide) (by decide)) (Eq.trans (congrArg (sA (sIw (sLw (sNwA t 20 6) 23 0 0 (0 : Int64)) 768 0 0) 21 11) (nn_io (p := 9) (by decide))) (Eq.trans rdAI (Eq.trans rdAL (Eq.trans rdAnwa (z_A_21_11_9 e))))) ?_
  refine x_imul (pc' := 24) (z := 0) rfl rfl (by decide) ?_
  refine x_iload_n (pc' := 25) rfl rfl rfl ?_
  refine x_aload_n (pc' := 26) rfl rfl rfl rfl rfl ?_
  refine x_gR (pc' := 29) (r := (some 11)) rfl rfl rfl (Eq.trans rdRI (Eq.trans rdRL (Eq.trans rdRnwa (z_R_783_0 e)))) ?_
  refine x_iconst (pc' := 30) rfl rfl ?_
  refine x_iload (pc' := 32) rfl rfl rfl ?_
  refine x_imul (pc' := 33) (z := 9) rfl rfl (by decide) ?_
  refine x_iconst (pc' := 34) rfl rfl ?_
  refine x_iadd (pc' := 35) (z := 10) rfl rfl (by decide) ?_
  refine x_iald (pc' := 36) (N := 18) (x := 0) rfl rfl rfl (Eq.trans (b := sN t _ _) rfl (z_N_21_11 e)) (io_in (p := 10) (N := 18) (by decide) (by decide)) (Eq.trans (congrArg (sA (sIw (sLw (sNwA t 20 6) 23 0 0 (0 : Int64)) 768 0 0) 21 11) (nn_io (p := 10) (by decide))) (Eq.trans rdAI (Eq.trans rdAL (Eq.trans rdAnwa (z_A_21_11_10 e))))) ?_
  refine x_imul (pc' := 37) (z := 0) rfl rfl (by decide) ?_
  refine x_iadd (pc' := 38) (z := 0) rfl rfl (by decide) ?_
  refine x_iload_n (pc' := 39) rfl rfl rfl ?_
  refine x_aload_n (pc' := 40) rfl rfl rfl rfl rfl ?_
  refine x_gR (pc' := 43) (r := (some 11)) rfl rfl rfl (Eq.trans rdRI (Eq.trans rdRL (Eq.trans rdRnwa (z_R_783_0 e)))) ?_
  refine x_iconst (pc' := 44) rfl rfl ?_
  refine x_iload (pc' := 46) rfl rfl rfl ?_
  refine x_imul (pc' := 47) (z := 9) rfl rfl (by decide) ?_
  refine x_iconst (pc' := 48) rfl rfl ?_
  refine x_iadd (pc' := 49) (z := 11) rfl rfl (by decide) ?_
  refine x_iald (pc' := 50) (N := 18) (x := 0) rfl rfl rfl (Eq.trans (b := sN t _ _) rfl (z_N_21_11 e)) (io_in (p := 11) (N := 18) (by decide) (by decide)) (Eq.trans (congrArg (sA (sIw (sLw (sNwA t 20 6) 23 0 0 (0 : Int64)) 768 0 0) 21 11) (nn_io (p := 11) (by decide))) (Eq.trans rdAI (Eq.trans rdAL (Eq.trans rdAnwa (z_A_21_11_11 e))))) ?_
  refine x_imul (pc' := 51) (z := 0) rfl rfl (by decide) ?_
  refine x_iadd (pc' := 52) (z := 0) rfl rfl (by decide) ?_
  refine x_ineg (pc' := 53) (z := 0) rfl rfl (by decide) ?_
  refine x_istore (pc' := 55) (ls' := [_, _, _, _, _, _, _]) rfl rfl rfl rfl ?_
  refine x_iload (pc' := 57) rfl rfl rfl ?_
  refine x_iload (pc' := 59) rfl rfl rfl ?_
  refine x_icmp (a' := 67) (pc' := 62) (z := true) rfl rfl rfl (by decide) (fun _ => ?_) (fun h => by cases h)
  refine x_iload (pc' := 69) rfl rfl rfl ?_
  refine x_istore (pc' := 71) (ls' := [_, _, _, _, _, _, _]) rfl rfl rfl rfl ?_
  refine x_iinc (pc' := 74) (y := 4) (ls' := [_, _, _, _, _, _, _]) rfl rfl rfl rfl rfl ?_
  refine x_goto (pc' := 6) rfl rfl ?_
  refine x_iload (pc' := 8) rfl rfl rfl ?_
  refine x_bipush (pc' := 10) rfl rfl ?_
  refine x_icmp (a' := 77) (pc' := 13) (z := false) rfl rfl rfl (by decide) (fun h => by cases h) (fun _ => ?_)
  refine x_iload_n (pc' := 14) rfl rfl rfl ?_
  refine x_aload_n (pc' := 15) rfl rfl rfl rfl rfl ?_
  refine x_gR (pc' := 18) (r := (some 11)) rfl rfl rfl (Eq.trans rdRI (Eq.trans rdRL (Eq.trans rdRnwa (z_R_783_0 e)))) ?_
  refine x_iconst (pc' := 19) rfl rfl ?_
  refine x_iload (pc' := 21) rfl rfl rfl ?_
  refine x_imul (pc' := 22) (z := 12) rfl rfl (by decide) ?_
  refine x_iald (pc' := 23) (N := 18) (x := 0) rfl rfl rfl (Eq.trans (b := sN t _ _) rfl (z_N_21_11 e)) (io_in (p := 12) (N := 18) (by decide) (by decide)) (Eq.trans (congrArg (sA (sIw (sLw (sNwA t 20 6) 23 0 0 (0 : Int64)) 768 0 0) 21 11) (nn_io (p := 12) (by decide))) (Eq.trans rdAI (Eq.trans rdAL (Eq.trans rdAnwa (z_A_21_11_12 e))))) ?_
  refine x_imul (pc' := 24) (z := 0) rfl rfl (by decide) ?_
  refine x_iload_n (pc' := 25) rfl rfl rfl ?_
  refine x_aload_n (pc' := 26) rfl rfl rfl rfl rfl ?_
  refine x_gR (pc' := 29) (r := (some 11)) rfl rfl rfl (Eq.trans rdRI (Eq.trans rdRL (Eq.trans rdRnwa (z_R_783_0 e)))) ?_
  refine x_iconst (pc' := 30) rfl rfl ?_
  refine x_iload (pc' := 32) rfl rfl rfl ?_
  refine x_imul (pc' := 33) (z := 12) rfl rfl (by decide) ?_
  refine x_iconst (pc' := 34) rfl rfl ?_
  refine x_iadd (pc' := 35) (z := 13) rfl rfl (by decide) ?_
  refine x_iald (pc' := 36) (N := 18) (x := 0) rfl rfl rfl (Eq.trans (b := sN t _ _) rfl (z_N_21_11 e)) (io_in (p := 13) (N := 18) (by decide) (by decide)) (Eq.trans (congrArg (sA (sIw (sLw (sNwA t 20 6) 23 0 0 (0 : Int64)) 768 0 0) 21 11) (nn_io (p := 13) (by decide))) (Eq.trans rdAI (Eq.trans rdAL (Eq.trans rdAnwa (z_A_21_11_13 e))))) ?_
  refine x_imul (pc' := 37) (z := 0) rfl rfl (by decide) ?_
  refine x_iadd (pc' := 38) (z := 0) rfl rfl (by decide) ?_
  refine x_iload_n (pc' := 39) rfl rfl rfl ?_
  refine x_aload_n (pc' := 40) rfl rfl rfl rfl rfl ?_
  refine x_gR (pc' := 43) (r := (some 11)) rfl rfl rfl (Eq.trans rdRI (Eq.trans rdRL (Eq.trans rdRnwa (z_R_783_0 e)))) ?_
  refine x_iconst (pc' := 44) rfl rfl ?_
  refine x_iload (pc' := 46) rfl rfl rfl ?_
  refine x_imul (pc' := 47) (z := 12) rfl rfl (by decide) ?_
  refine x_iconst (pc' := 48) rfl rfl ?_
  refine x_iadd (pc' := 49) (z := 14) rfl rfl (by decide) ?_
  refine x_iald (pc' := 50) (N := 18) (x := 0) rfl rfl rfl (Eq.trans (b := sN t _ _) rfl (z_N_21_11 e)) (io_in (p := 14) (N := 18) (by decide) (by decide)) (Eq.trans (congrArg (sA (sIw (sLw (sNwA t 20 6) 23 0 0 (0 : Int64)) 768 0 0) 21 11) (nn_io (p := 14) (by decide))) (Eq.trans rdAI (Eq.trans rdAL (Eq.trans rdAnwa (z_A_21_11_14 e))))) ?_
  refine x_imul (pc' := 51) (z := 0) rfl rfl (by decide) ?_
  refine x_iadd (pc' := 52) (z := 0) rfl rfl (by decide) ?_
  refine x_ineg (pc' := 53) (z := 0) rfl rfl (by decide) ?_
  refine x_istore (pc' := 55) (ls' := [_, _, _, _, _, _, _]) rfl rfl rfl rfl ?_
  refine x_iload (pc' := 57) rfl rfl rfl ?_
  refine x_iload (pc' := 59) rfl rfl rfl ?_
  refine x_icmp (a' := 67) (pc' := 62) (z := true) rfl rfl rfl (by decide) (fun _ => ?_) (fun h => by cases h)
  refine x_iload (pc' := 69) rfl rfl rfl ?_
  refine x_istore (pc' := 71) (ls' := [_, _, _, _, _, _, _]) rfl rfl rfl rfl ?_
  refine x_iinc (pc' := 74) (y := 5) (ls' := [_, _, _, _, _, _, _]) rfl rfl rfl rfl rfl ?_
  refine x_goto (pc' := 6) rfl rfl ?_
  refine x_iload (pc' := 8) rfl rfl rfl ?_
  refine x_bipush (pc' := 10) rfl rfl ?_
  refine x_icmp (a' := 77) (pc' := 13) (z := false) rfl rfl rfl (by decide) (fun h => by cases h) (fun _ => ?_)
  refine x_iload_n (pc' := 14) rfl rfl rfl ?_
  refine x_aload_n (pc' := 15) rfl rfl rfl rfl rfl ?_
  refine x_gR (pc' := 18) (r := (some 11)) rfl rfl rfl (Eq.trans rdRI (Eq.trans rdRL (Eq.trans rdRnwa (z_R_783_0 e)))) ?_
  refine x_iconst (pc' := 19) rfl rfl ?_
  refine x_iload (pc' := 21) rfl rfl rfl ?_
  refine x_imul (pc' := 22) (z := 15) rfl rfl (by decide) ?_
  refine x_iald (pc' := 23) (N := 18) (x := 0) rfl rfl rfl (Eq.trans (b := sN t _ _) rfl (z_N_21_11 e)) (io_in (p := 15) (N := 18) (by decide) (by decide)) (Eq.trans (congrArg (sA (sIw (sLw (sNwA t 20 6) 23 0 0 (0 : Int64)) 768 0 0) 21 11) (nn_io (p := 15) (by decide))) (Eq.trans rdAI (Eq.trans rdAL (Eq.trans rdAnwa (z_A_21_11_15 e))))) ?_
  refine x_imul (pc' := 24) (z := 0) rfl rfl (by decide) ?_
  refine x_iload_n (pc' := 25) rfl rfl rfl ?_
  refine x_aload_n (pc' := 26) rfl rfl rfl rfl rfl ?_
  refine x_gR (pc' := 29) (r := (some 11)) rfl rfl rfl (Eq.trans rdRI (Eq.trans rdRL (Eq.trans rdRnwa (z_R_783_0 e)))) ?_
  refine x_iconst (pc' := 30) rfl rfl ?_
  refine x_iload (pc' := 32) rfl rfl rfl ?_
  refine x_imul (pc' := 33) (z := 15) rfl rfl (by decide) ?_
  refine x_iconst (pc' := 34) rfl rfl ?_
  refine x_iadd (pc' := 35) (z := 16) rfl rfl (by decide) ?_
  refine x_iald (pc' := 36) (N := 18) (x := 0) rfl rfl rfl (Eq.trans (b := sN t _ _) rfl (z_N_21_11 e)) (io_in (p := 16) (N := 18) (by decide) (by decide)) (Eq.trans (congrArg (sA (sIw (sLw (sNwA t 20 6) 23 0 0 (0 : Int64)) 768 0 0) 21 11) (nn_io (p := 16) (by decide))) (Eq.trans rdAI (Eq.trans rdAL (Eq.trans rdAnwa (z_A_21_11_16 e))))) ?_
  refine x_imul (pc' := 37) (z := 0) rfl rfl (by decide) ?_
  refine x_iadd (pc' := 38) (z := 0) rfl rfl (by decide) ?_
  refine x_iload_n (pc' := 39) rfl rfl rfl ?_
  refine x_aload_n (pc' := 40) rfl rfl rfl rfl rfl ?_
  refine x_gR (pc' := 43) (r := (some 11)) rfl rfl rfl (Eq.trans rdRI (Eq.trans rdRL (Eq.trans rdRnwa (z_R_783_0 e)))) ?_
  refine x_iconst (pc' := 44) rfl rfl ?_
  refine x_iload (pc' := 46) rfl rfl rfl ?_
  refine x_imul (pc' := 47) (z := 15) rfl rfl (by decide) ?_
  refine x_iconst (pc' := 48) rfl rfl ?_
  refine x_iadd (pc' := 49) (z := 17) rfl rfl (by decide) ?_
  refine x_iald (pc' := 50) (N := 18) (x := 0) rfl rfl rfl (Eq.trans (b := sN t _ _) rfl (z_N_21_11 e)) (io_in (p := 17) (N := 18) (by decide) (by decide)) (Eq.trans (congrArg (sA (sIw (sLw (sNwA t 20 6) 23 0 0 (0 : Int64)) 768 0 0) 21 11) (nn_io (p := 17) (by decide))) (Eq.trans rdAI (Eq.trans rdAL (Eq.trans rdAnwa (z_A_21_11_17 e))))) ?_
  refine x_imul (pc' := 51) (z := 0) rfl rfl (by decide) ?_
  refine x_iadd (pc' := 52) (z := 0) rfl rfl (by decide) ?_
  refine x_ineg (pc' := 53) (z := 0) rfl rfl (by decide) ?_
  refine x_istore (pc' := 55) (ls' := [_, _, _, _, _, _, _]) rfl rfl rfl rfl ?_
  refine x_iload (pc' := 57) rfl rfl rfl ?_
  refine x_iload (pc' := 59) rfl rfl rfl ?_
  refine x_icmp (a' := 67) (pc' := 62) (z := true) rfl rfl rfl (by decide) (fun _ => ?_) (fun h => by cases h)
  refine x_iload (pc' := 69) rfl rfl rfl ?_
  refine x_istore (pc' := 71) (ls' := [_, _, _, _, _, _, _]) rfl rfl rfl rfl ?_
  refine x_iinc (pc' := 74) (y := 6) (ls' := [_, _, _, _, _, _, _]) rfl rfl rfl rfl rfl ?_
  refine x_goto (pc' := 6) rfl rfl ?_
  refine x_iload (pc' := 8) rfl rfl rfl ?_
  refine x_bipush (pc' := 10) rfl rfl ?_
  refine x_icmp (a' := 77) (pc' := 13) (z := true) rfl rfl rfl (by decide) (fun _ => ?_) (fun h => by cases h)
  refine x_iload (pc' := 79) rfl rfl rfl ?_
  refine x_reti rfl rfl ?_
  refine sK_i (pc' := 35) rfl ?_
  refine x_istore (pc' := 37) (ls' := [_, _, _, _, _]) rfl rfl rfl rfl ?_
  refine x_iload (pc' := 39) rfl rfl rfl ?_
  refine x_iload_n (pc' := 40) rfl rfl rfl ?_
  refine x_icmp (a' := 48) (pc' := 43) (z := true) rfl rfl rfl (by decide) (fun _ => ?_) (fun h => by cases h)
  refine x_iload_n (pc' := 49) rfl rfl rfl ?_
  refine x_istore_n (pc' := 50) (ls' := [_, _, _, _, _]) rfl rfl rfl rfl ?_
  refine x_iinc (pc' := 53) (y := 5) (ls' := [_, _, _, _, _]) rfl rfl rfl rfl rfl ?_
  refine x_goto (pc' := 4) rfl rfl ?_
  refine x_iload_n (pc' := 5) rfl rfl rfl ?_
  refine x_bipush (pc' := 7) rfl rfl ?_
  refine x_icmp (a' := 56) (pc' := 10) (z := false) rfl rfl rfl (by decide) (fun h => by cases h) (fun _ => ?_)
  refine x_aload_n (pc' := 11) rfl rfl rfl rfl rfl ?_
  refine x_aload_n (pc' := 12) rfl rfl rfl rfl rfl ?_
  refine x_iload_n (pc' := 13) rfl rfl rfl ?_
  refine x_iconst (pc' := 14) rfl rfl ?_
  refine x_iload_n (pc' := 15) rfl rfl rfl ?_
  refine x_cv (ls0 := [_, _, _, _, sJk, sJk]) (rest := [_]) rfl rfl rfl rfl rfl ?_
  refine x_iload_n (pc' := 1) rfl rfl rfl ?_
  refine x_iload_n (pc' := 2) rfl rfl rfl ?_
  refine x_ishr (pc' := 3) (z := 5) rfl rfl (by decide) ?_
  refine x_iconst (pc' := 4) rfl rfl ?_
  refine x_iand (pc' := 5) (z := 1) rfl rfl (by decide) ?_
  refine x_iconst (pc' := 6) rfl rfl ?_
  refine x_icmp (a' := 13) (pc' := 9) (z := false) rfl rfl rfl (by decide) (fun h => by cases h) (fun _ => ?_)
  refine x_iconst (pc' := 10) rfl rfl ?_
  refine x_goto (pc' := 14) rfl rfl ?_
  refine x_istore (pc' := 16) (ls' := [_, _, _, _, _, _]) rfl rfl rfl rfl ?_
  refine x_aload_n (pc' := 17) rfl rfl rfl rfl rfl ?_
  refine x_iload_n (pc' := 18) rfl rfl rfl ?_
  refine x_iload_n (pc' := 19) rfl rfl rfl ?_
  refine x_iload (pc' := 21) rfl rfl rfl ?_
  refine x_cv (ls0 := [_, _, _, _, sJk, sJk, sJk, sJk, sJk]) (rest := []) rfl rfl rfl rfl rfl ?_
  refine x_iconst (pc' := 1) rfl rfl ?_
  refine x_istore (pc' := 3) (ls' := [_, _, _, _, _, _, _, _, _]) rfl rfl rfl rfl ?_
  refine x_iconst (pc' := 4) rfl rfl ?_
  refine x_istore (pc' := 6) (ls' := [_, _, _, _, _, _, _, _, _]) rfl rfl rfl rfl ?_
  refine x_iload (pc' := 8) rfl rfl rfl ?_
  refine x_aload_n (pc' := 9) rfl rfl rfl rfl rfl ?_
  refine x_gI (pc' := 12) (x := 0) rfl rfl rfl (Eq.trans (rdI_F rfl) (Eq.trans rdIL (Eq.trans rdInwa (z_I_786_0 e)))) ?_
  refine x_icmp (a' := 190) (pc' := 15) (z := true) rfl rfl rfl (by decide) (fun _ => ?_) (fun h => by cases h)
  refine x_iload (pc' := 192) rfl rfl rfl ?_
  refine x_reti rfl rfl ?_
  refine sK_i (pc' := 24) rfl ?_
  refine x_istore (pc' := 26) (ls' := [_, _, _, _, _, _]) rfl rfl rfl rfl ?_
  refine x_aload_n (pc' := 27) rfl rfl rfl rfl rfl ?_
  refine x_gR (pc' := 30) (r := (some 6)) rfl rfl rfl (Eq.trans rdRI (Eq.trans rdRL (Eq.trans rdRnwa (z_R_776_0 e)))) ?_
  refine x_iconst (pc' := 31) rfl rfl ?_
  refine x_iload_n (pc' := 32) rfl rfl rfl ?_
  refine x_imul (pc' := 33) (z := (io (3 * m))) rfl rfl (io_mul 3 m) ?_
  refine x_iload_n (pc' := 34) rfl rfl rfl ?_
  refine x_iadd (pc' := 35) (z := (io ((3 * m) + 0))) rfl rfl (io_add (3 * m) 0) ?_
  refine x_iald (pc' := 36) (N := 18) (x := 0) rfl rfl rfl (Eq.trans (b := sN t _ _) rfl (z_N_21_6 e)) (io_in (p := ((3 * m) + 0)) (N := 18) (show ((3 * m) + 0) < 18 by omega) (by decide)) (Eq.trans (congrArg (sA (sIw (sLw (sNwA t 20 6) 23 0 0 (0 : Int64)) 768 0 0) 21 6) (nn_io (p := ((3 * m) + 0)) (Nat.lt_trans (show ((3 * m) + 0) < 18 by omega) (by decide)))) (Eq.trans rdAI (Eq.trans rdAL (Eq.trans rdAnwa (z_A_21_6_y e _))))) ?_
  refine x_iload (pc' := 38) rfl rfl rfl ?_
  refine x_if (a' := 46) (pc' := 41) (z := false) rfl rfl rfl (by decide) (fun h => by cases h) (fun _ => ?_)
  refine x_iload (pc' := 43) rfl rfl rfl ?_
  refine x_goto (pc' := 49) rfl rfl ?_
  refine x_iadd (pc' := 50) (z := 0) rfl rfl (by decide) ?_
  refine x_reti rfl rfl ?_
  refine sK_i (pc' := 18) rfl ?_
  refine x_aload_n (pc' := 19) rfl rfl rfl rfl rfl ?_
  refine x_iload_n (pc' := 20) rfl rfl rfl ?_
  refine x_iconst (pc' := 21) rfl rfl ?_
  refine x_iload_n (pc' := 22) rfl rfl rfl ?_
  refine x_cv (ls0 := [_, _, _, _, sJk, sJk]) (rest := [_, _]) rfl rfl rfl rfl rfl ?_
  refine x_iload_n (pc' := 1) rfl rfl rfl ?_
  refine x_iload_n (pc' := 2) rfl rfl rfl ?_
  refine x_ishr (pc' := 3) (z := 2) rfl rfl (by decide) ?_
  refine x_iconst (pc' := 4) rfl rfl ?_
  refine x_iand (pc' := 5) (z := 0) rfl rfl (by decide) ?_
  refine x_iconst (pc' := 6) rfl rfl ?_
  refine x_icmp (a' := 13) (pc' := 9) (z := true) rfl rfl rfl (by decide) (fun _ => ?_) (fun h => by cases h)
  refine x_iconst (pc' := 14) rfl rfl ?_
  refine x_istore (pc' := 16) (ls' := [_, _, _, _, _, _]) rfl rfl rfl rfl ?_
  refine x_aload_n (pc' := 17) rfl rfl rfl rfl rfl ?_
  refine x_iload_n (pc' := 18) rfl rfl rfl ?_
  refine x_iload_n (pc' := 19) rfl rfl rfl ?_
  refine x_iload (pc' := 21) rfl rfl rfl ?_
  refine x_cv (ls0 := [_, _, _, _, sJk, sJk, sJk, sJk, sJk]) (rest := []) rfl rfl rfl rfl rfl ?_
  refine x_iconst (pc' := 1) rfl rfl ?_
  refine x_istore (pc' := 3) (ls' := [_, _, _, _, _, _, _, _, _]) rfl rfl rfl rfl ?_
  refine x_iconst (pc' := 4) rfl rfl ?_
  refine x_istore (pc' := 6) (ls' := [_, _, _, _, _, _, _, _, _]) rfl rfl rfl rfl ?_
  refine x_iload (pc' := 8) rfl rfl rfl ?_
  refine x_aload_n (pc' := 9) rfl rfl rfl rfl rfl ?_
  refine x_gI (pc' := 12) (x := 0) rfl rfl rfl (Eq.trans (rdI_F rfl) (Eq.trans rdIL (Eq.trans rdInwa (z_I_786_0 e)))) ?_
  refine x_icmp (a' := 190) (pc' := 15) (z := true) rfl rfl rfl (by decide) (fun _ => ?_) (fun h => by cases h)
  refine x_iload (pc' := 192) rfl rfl rfl ?_
  refine x_reti rfl rfl ?_
  refine sK_i (pc' := 24) rfl ?_
  refine x_istore (pc' := 26) (ls' := [_, _, _, _, _, _]) rfl rfl rfl rfl ?_
  refine x_aload_n (pc' := 27) rfl rfl rfl rfl rfl ?_
  refine x_gR (pc' := 30) (r := (some 6)) rfl rfl rfl (Eq.trans rdRI (Eq.trans rdRL (Eq.trans rdRnwa (z_R_776_0 e)))) ?_
  refine x_iconst (pc' := 31) rfl rfl ?_
  refine x_iload_n (pc' := 32) rfl rfl rfl ?_
  refine x_imul (pc' := 33) (z := (io (3 * m))) rfl rfl (io_mul 3 m) ?_
  refine x_iload_n (pc' := 34) rfl rfl rfl ?_
  refine x_iadd (pc' := 35) (z := (io ((3 * m) + 1))) rfl rfl (io_add (3 * m) 1) ?_
  refine x_iald (pc' := 36) (N := 18) (x := 0) rfl rfl rfl (Eq.trans (b := sN t _ _) rfl (z_N_21_6 e)) (io_in (p := ((3 * m) + 1)) (N := 18) (show ((3 * m) + 1) < 18 by omega) (by decide)) (Eq.trans (congrArg (sA (sIw (sLw (sNwA t 20 6) 23 0 0 (0 : Int64)) 768 0 0) 21 6) (nn_io (p := ((3 * m) + 1)) (Nat.lt_trans (show ((3 * m) + 1) < 18 by omega) (by decide)))) (Eq.trans rdAI (Eq.trans rdAL (Eq.trans rdAnwa (z_A_21_6_y e _))))) ?_
  refine x_iload (pc' := 38) rfl rfl rfl ?_
  refine x_if (a' := 46) (pc' := 41) (z := true) rfl rfl rfl (by decide) (fun _ => ?_) (fun h => by cases h)
  refine x_iload (pc' := 48) rfl rfl rfl ?_
  refine x_ineg (pc' := 49) (z := 0) rfl rfl (by decide) ?_
  refine x_iadd (pc' := 50) (z := 0) rfl rfl (by decide) ?_
  refine x_reti rfl rfl ?_
  refine sK_i (pc' := 25) rfl ?_
  refine x_aload_n (pc' := 26) rfl rfl rfl rfl rfl ?_
  refine x_iload_n (pc' := 27) rfl rfl rfl ?_
  refine x_iconst (pc' := 28) rfl rfl ?_
  refine x_iload_n (pc' := 29) rfl rfl rfl ?_
  refine x_cv (ls0 := [_, _, _, _, sJk, sJk]) (rest := [_, _, _]) rfl rfl rfl rfl rfl ?_
  refine x_iload_n (pc' := 1) rfl rfl rfl ?_
  refine x_iload_n (pc' := 2) rfl rfl rfl ?_
  refine x_ishr (pc' := 3) (z := 1) rfl rfl (by decide) ?_
  refine x_iconst (pc' := 4) rfl rfl ?_
  refine x_iand (pc' := 5) (z := 1) rfl rfl (by decide) ?_
  refine x_iconst (pc' := 6) rfl rfl ?_
  refine x_icmp (a' := 13) (pc' := 9) (z := false) rfl rfl rfl (by decide) (fun h => by cases h) (fun _ => ?_)
  refine x_iconst (pc' := 10) rfl rfl ?_
  refine x_goto (pc' := 14) rfl rfl ?_
  refine x_istore (pc' := 16) (ls' := [_, _, _, _, _, _]) rfl rfl rfl rfl ?_
  refine x_aload_n (pc' := 17) rfl rfl rfl rfl rfl ?_
  refine x_iload_n (pc' := 18) rfl rfl rfl ?_
  refine x_iload_n (pc' := 19) rfl rfl rfl ?_
  refine x_iload (pc' := 21) rfl rfl rfl ?_
  refine x_cv (ls0 := [_, _, _, _, sJk, sJk, sJk, sJk, sJk]) (rest := []) rfl rfl rfl rfl rfl ?_
  refine x_iconst (pc' := 1) rfl rfl ?_
  refine x_istore (pc' := 3) (ls' := [_, _, _, _, _, _, _, _, _]) rfl rfl rfl rfl ?_
  refine x_iconst (pc' := 4) rfl rfl ?_
  refine x_istore (pc' := 6) (ls' := [_, _, _, _, _, _, _, _, _]) rfl rfl rfl rfl ?_
  refine x_iload (pc' := 8) rfl rfl rfl ?_
  refine x_aload_n (pc' := 9) rfl rfl rfl rfl rfl ?_
  refine x_gI (pc' := 12) (x := 0) rfl rfl rfl (Eq.trans (rdI_F rfl) (Eq.trans rdIL (Eq.trans rdInwa (z_I_786_0 e)))) ?_
  refine x_icmp (a' := 190) (pc' := 15) (z := true) rfl rfl rfl (by decide) (fun _ => ?_) (fun h => by cases h)
  refine x_iload (pc' := 192) rfl rfl rfl ?_
  refine x_reti rfl rfl ?_
  refine sK_i (pc' := 24) rfl ?_
  refine x_istore (pc' := 26) (ls' := [_, _, _, _, _, _]) rfl rfl rfl rfl ?_
  refine x_aload_n (pc' := 27) rfl rfl rfl rfl rfl ?_
  refine x_gR (pc' := 30) (r := (some 6)) rfl rfl rfl (Eq.trans rdRI (Eq.trans rdRL (Eq.trans rdRnwa (z_R_776_0 e)))) ?_
  refine x_iconst (pc' := 31) rfl rfl ?_
  refine x_iload_n (pc' := 32) rfl rfl rfl ?_
  refine x_imul (pc' := 33) (z := (io (3 * m))) rfl rfl (io_mul 3 m) ?_
  refine x_iload_n (pc' := 34) rfl rfl rfl ?_
  refine x_iadd (pc' := 35) (z := (io ((3 * m) + 2))) rfl rfl (io_add (3 * m) 2) ?_
  refine x_iald (pc' := 36) (N := 18) (x := 0) rfl rfl rfl (Eq.trans (b := sN t _ _) rfl (z_N_21_6 e)) (io_in (p := ((3 * m) + 2)) (N := 18) (show ((3 * m) + 2) < 18 by omega) (by decide)) (Eq.trans (congrArg (sA (sIw (sLw (sNwA t 20 6) 23 0 0 (0 : Int64)) 768 0 0) 21 6) (nn_io (p := ((3 * m) + 2)) (Nat.lt_trans (show ((3 * m) + 2) < 18 by omega) (by decide)))) (Eq.trans rdAI (Eq.trans rdAL (Eq.trans rdAnwa (z_A_21_6_y e _))))) ?_
  refine x_iload (pc' := 38) rfl rfl rfl ?_
  refine x_if (a' := 46) (pc' := 41) (z := false) rfl rfl rfl (by decide) (fun h => by cases h) (fun _ => ?_)
  refine x_iload (pc' := 43) rfl rfl rfl ?_
  refine x_goto (pc' := 49) rfl rfl ?_
  refine x_iadd (pc' := 50) (z := 0) rfl rfl (by decide) ?_
  refine x_reti rfl rfl ?_
  refine sK_i (pc' := 32) rfl ?_
  refine x_cv (ls0 := [_, _, _, _, sJk, sJk, sJk]) (rest := []) rfl rfl rfl rfl rfl ?_
  refine x_iconst (pc' := 1) rfl rfl ?_
  refine x_istore (pc' := 3) (ls' := [_, _, _, _, _, _, _]) rfl rfl rfl rfl ?_
  refine x_iconst (pc' := 4) rfl rfl ?_
  refine x_istore (pc' := 6) (ls' := [_, _, _, _, _, _, _]) rfl rfl rfl rfl ?_
  refine x_iload (pc' := 8) rfl rfl rfl ?_
  refine x_bipush (pc' := 10) rfl rfl ?_
  refine x_icmp (a' := 77) (pc' := 13) (z := false) rfl rfl rfl (by decide) (fun h => by cases h) (fun _ => ?_)
  refine x_iload_n (pc' := 14) rfl rfl rfl ?_
  refine x_aload_n (pc' := 15) rfl rfl rfl rfl rfl ?_
  refine x_gR (pc' := 18) (r := (some 11)) rfl rfl rfl (Eq.trans rdRI (Eq.trans rdRL (Eq.trans rdRnwa (z_R_783_0 e)))) ?_
  refine x_iconst (pc' := 19) rfl rfl ?_
  refine x_iload (pc' := 21) rfl rfl rfl ?_
  refine x_imul (pc' := 22) (z := 0) rfl rfl (by decide) ?_
  refine x_iald (pc' := 23) (N := 18) (x := 0) rfl rfl rfl (Eq.trans (b := sN t _ _) rfl (z_N_21_11 e)) (io_in (p := 0) (N := 18) (by decide) (by decide)) (Eq.trans (congrArg (sA (sIw (sLw (sNwA t 20 6) 23 0 0 (0 : Int64)) 768 0 0) 21 11) (nn_io (p := 0) (by decide))) (Eq.trans rdAI (Eq.trans rdAL (Eq.trans rdAnwa (z_A_21_11_0 e))))) ?_
  refine x_imul (pc' := 24) (z := 0) rfl rfl (by decide) ?_
  refine x_iload_n (pc' := 25) rfl rfl rfl ?_
  refine x_aload_n (pc' := 26) rfl rfl rfl rfl rfl ?_
  refine x_gR (pc' := 29) (r := (some 11)) rfl rfl rfl (Eq.trans rdRI (Eq.trans rdRL (Eq.trans rdRnwa (z_R_783_0 e)))) ?_
  refine x_iconst (pc' := 30) rfl rfl ?_
  refine x_iload (pc' := 32) rfl rfl rfl ?_
  refine x_imul (pc' := 33) (z := 0) rfl rfl (by decide) ?_
  refine x_iconst (pc' := 34) rfl rfl ?_
  refine x_iadd (pc' := 35) (z := 1) rfl rfl (by decide) ?_
  refine x_iald (pc' := 36) (N := 18) (x := 0) rfl rfl rfl (Eq.trans (b := sN t _ _) rfl (z_N_21_11 e)) (io_in (p := 1) (N := 18) (by decide) (by decide)) (Eq.trans (congrArg (sA (sIw (sLw (sNwA t 20 6) 23 0 0 (0 : Int64)) 768 0 0) 21 11) (nn_io (p := 1) (by decide))) (Eq.trans rdAI (Eq.trans rdAL (Eq.trans rdAnwa (z_A_21_11_1 e))))) ?_
  refine x_imul (pc' := 37) (z := 0) rfl rfl (by decide) ?_
  refine x_iadd (pc' := 38) (z := 0) rfl rfl (by decide) ?_
  refine x_iload_n (pc' := 39) rfl rfl rfl ?_
  refine x_aload_n (pc' := 40) rfl rfl rfl rfl rfl ?_
  refine x_gR (pc' := 43) (r := (some 11)) rfl rfl rfl (Eq.trans rdRI (Eq.trans rdRL (Eq.trans rdRnwa (z_R_783_0 e)))) ?_
  refine x_iconst (pc' := 44) rfl rfl ?_
  refine x_iload (pc' := 46) rfl rfl rfl ?_
  refine x_imul (pc' := 47) (z := 0) rfl rfl (by decide) ?_
  refine x_iconst (pc' := 48) rfl rfl ?_
  refine x_iadd (pc' := 49) (z := 2) rfl rfl (by decide) ?_
  refine x_iald (pc' := 50) (N := 18) (x := 0) rfl rfl rfl (Eq.trans (b := sN t _ _) rfl (z_N_21_11 e)) (io_in (p := 2) (N := 18) (by decide) (by decide)) (Eq.trans (congrArg (sA (sIw (sLw (sNwA t 20 6) 23 0 0 (0 : Int64)) 768 0 0) 21 11) (nn_io (p := 2) (by decide))) (Eq.trans rdAI (Eq.trans rdAL (Eq.trans rdAnwa (z_A_21_11_2 e))))) ?_
  refine x_imul (pc' := 51) (z := 0) rfl rfl (by decide) ?_
  refine x_iadd (pc' := 52) (z := 0) rfl rfl (by decide) ?_
  refine x_ineg (pc' := 53) (z := 0) rfl rfl (by decide) ?_
  refine x_istore (pc' := 55) (ls' := [_, _, _, _, _, _, _]) rfl rfl rfl rfl ?_
  refine x_iload (pc' := 57) rfl rfl rfl ?_
  refine x_iload (pc' := 59) rfl rfl rfl ?_
  refine x_icmp (a' := 67) (pc' := 62) (z := true) rfl rfl rfl (by decide) (fun _ => ?_) (fun h => by cases h)
  refine x_iload (pc' := 69) rfl rfl rfl ?_
  refine x_istore (pc' := 71) (ls' := [_, _, _, _, _, _, _]) rfl rfl rfl rfl ?_
  refine x_iinc (pc' := 74) (y := 1) (ls' := [_, _, _, _, _, _, _]) rfl rfl rfl rfl rfl ?_
  refine x_goto (pc' := 6) rfl rfl ?_
  refine x_iload (pc' := 8) rfl rfl rfl ?_
  refine x_bipush (pc' := 10) rfl rfl ?_
  refine x_icmp (a' := 77) (pc' := 13) (z := false) rfl rfl rfl (by decide) (fun h => by cases h) (fun _ => ?_)
  refine x_iload_n (pc' := 14) rfl rfl rfl ?_
  refine x_aload_n (pc' := 15) rfl rfl rfl rfl rfl ?_
  refine x_gR (pc' := 18) (r := (some 11)) rfl rfl rfl (Eq.trans rdRI (Eq.trans rdRL (Eq.trans rdRnwa (z_R_783_0 e)))) ?_
  refine x_iconst (pc' := 19) rfl rfl ?_
  refine x_iload (pc' := 21) rfl rfl rfl ?_
  refine x_imul (pc' := 22) (z := 3) rfl rfl (by decide) ?_
  refine x_iald (pc' := 23) (N := 18) (x := 0) rfl rfl rfl (Eq.trans (b := sN t _ _) rfl (z_N_21_11 e)) (io_in (p := 3) (N := 18) (by decide) (by decide)) (Eq.trans (congrArg (sA (sIw (sLw (sNwA t 20 6) 23 0 0 (0 : Int64)) 768 0 0) 21 11) (nn_io (p := 3) (by decide))) (Eq.trans rdAI (Eq.trans rdAL (Eq.trans rdAnwa (z_A_21_11_3 e))))) ?_
  refine x_imul (pc' := 24) (z := 0) rfl rfl (by decide) ?_
  refine x_iload_n (pc' := 25) rfl rfl rfl ?_
  refine x_aload_n (pc' := 26) rfl rfl rfl rfl rfl ?_
  refine x_gR (pc' := 29) (r := (some 11)) rfl rfl rfl (Eq.trans rdRI (Eq.trans rdRL (Eq.trans rdRnwa (z_R_783_0 e)))) ?_
  refine x_iconst (pc' := 30) rfl rfl ?_
  refine x_iload (pc' := 32) rfl rfl rfl ?_
  refine x_imul (pc' := 33) (z := 3) rfl rfl (by decide) ?_
  refine x_iconst (pc' := 34) rfl rfl ?_
  refine x_iadd (pc' := 35) (z := 4) rfl rfl (by decide) ?_
  refine x_iald (pc' := 36) (N := 18) (x := 0) rfl rfl rfl (Eq.trans (b := sN t _ _) rfl (z_N_21_11 e)) (io_in (p := 4) (N := 18) (by decide) (by decide)) (Eq.trans (congrArg (sA (sIw (sLw (sNwA t 20 6) 23 0 0 (0 : Int64)) 768 0 0) 21 11) (nn_io (p := 4) (by decide))) (Eq.trans rdAI (Eq.trans rdAL (Eq.trans rdAnwa (z_A_21_11_4 e))))) ?_
  refine x_imul (pc' := 37) (z := 0) rfl rfl (by decide) ?_
  refine x_iadd (pc' := 38) (z := 0) rfl rfl (by decide) ?_
  refine x_iload_n (pc' := 39) rfl rfl rfl ?_
  refine x_aload_n (pc' := 40) rfl rfl rfl rfl rfl ?_
  refine x_gR (pc' := 43) (r := (some 11)) rfl rfl rfl (Eq.trans rdRI (Eq.trans rdRL (Eq.trans rdRnwa (z_R_783_0 e)))) ?_
  refine x_iconst (pc' := 44) rfl rfl ?_
  refine x_iload (pc' := 46) rfl rfl rfl ?_
  refine x_imul (pc' := 47) (z := 3) rfl rfl (by decide) ?_
  refine x_iconst (pc' := 48) rfl rfl ?_
  refine x_iadd (pc' := 49) (z := 5) rfl rfl (by decide) ?_
  refine x_iald (pc' := 50) (N := 18) (x := 0) rfl rfl rfl (Eq.trans (b := sN t _ _) rfl (z_N_21_11 e)) (io_in (p := 5) (N := 18) (by decide) (by decide)) (Eq.trans (congrArg (sA (sIw (sLw (sNwA t 20 6) 23 0 0 (0 : Int64)) 768 0 0) 21 11) (nn_io (p := 5) (by decide))) (Eq.trans rdAI (Eq.trans rdAL (Eq.trans rdAnwa (z_A_21_11_5 e))))) ?_
  refine x_imul (pc' := 51) (z := 0) rfl rfl (by decide) ?_
  refine x_iadd (pc' := 52) (z := 0) rfl rfl (by decide) ?_
  refine x_ineg (pc' := 53) (z := 0) rfl rfl (by decide) ?_
  refine x_istore (pc' := 55) (ls' := [_, _, _, _, _, _, _]) rfl rfl rfl rfl ?_
  refine x_iload (pc' := 57) rfl rfl rfl ?_
  refine x_iload (pc' := 59) rfl rfl rfl ?_
  refine x_icmp (a' := 67) (pc' := 62) (z := true) rfl rfl rfl (by decide) (fun _ => ?_) (fun h => by cases h)
  refine x_iload (pc' := 69) rfl rfl rfl ?_
  refine x_istore (pc' := 71) (ls' := [_, _, _, _, _, _, _]) rfl rfl rfl rfl ?_
  refine x_iinc (pc' := 74) (y := 2) (ls' := [_, _, _, _, _, _, _]) rfl rfl rfl rfl rfl ?_
  refine x_goto (pc' := 6) rfl rfl ?_
  refine x_iload (pc' := 8) rfl rfl rfl ?_
  refine x_bipush (pc' := 10) rfl rfl ?_
  refine x_icmp (a' := 77) (pc' := 13) (z := false) rfl rfl rfl (by decide) (fun h => by cases h) (fun _ => ?_)
  refine x_iload_n (pc' := 14) rfl rfl rfl ?_
  refine x_aload_n (pc' := 15) rfl rfl rfl rfl rfl ?_
  refine x_gR (pc' := 18) (r := (some 11)) rfl rfl rfl (Eq.trans rdRI (Eq.trans rdRL (Eq.trans rdRnwa (z_R_783_0 e)))) ?_
  refine x_iconst (pc' := 19) rfl rfl ?_
  refine x_iload (pc' := 21) rfl rfl rfl ?_
  refine x_imul (pc' := 22) (z := 6) rfl rfl (by decide) ?_
  refine x_iald (pc' := 23) (N := 18) (x := 0) rfl rfl rfl (Eq.trans (b := sN t _ _) rfl (z_N_21_11 e)) (io_in (p := 6) (N := 18) (by decide) (by decide)) (Eq.trans (congrArg (sA (sIw (sLw (sNwA t 20 6) 23 0 0 (0 : Int64)) 768 0 0) 21 11) (nn_io (p := 6) (by decide))) (Eq.trans rdAI (Eq.trans rdAL (Eq.trans rdAnwa (z_A_21_11_6 e))))) ?_
  refine x_imul (pc' := 24) (z := 0) rfl rfl (by decide) ?_
  refine x_iload_n (pc' := 25) rfl rfl rfl ?_
  refine x_aload_n (pc' := 26) rfl rfl rfl rfl rfl ?_
  refine x_gR (pc' := 29) (r := (some 11)) rfl rfl rfl (Eq.trans rdRI (Eq.trans rdRL (Eq.trans rdRnwa (z_R_783_0 e)))) ?_
  refine x_iconst (pc' := 30) rfl rfl ?_
  refine x_iload (pc' := 32) rfl rfl rfl ?_
  refine x_imul (pc' := 33) (z := 6) rfl rfl (by decide) ?_
  refine x_iconst (pc' := 34) rfl rfl ?_
  refine x_iadd (pc' := 35) (z := 7) rfl rfl (by decide) ?_
  refine x_iald (pc' := 36) (N := 18) (x := 0) rfl rfl rfl (Eq.trans (b := sN t _ _) rfl (z_N_21_11 e)) (io_in (p := 7) (N := 18) (by decide) (by decide)) (Eq.trans (congrArg (sA (sIw (sLw (sNwA t 20 6) 23 0 0 (0 : Int64)) 768 0 0) 21 11) (nn_io (p := 7) (by decide))) (Eq.trans rdAI (Eq.trans rdAL (Eq.trans rdAnwa (z_A_21_11_7 e))))) ?_
  refine x_imul (pc' := 37) (z := 0) rfl rfl (by decide) ?_
  refine x_iadd (pc' := 38) (z := 0) rfl rfl (by decide) ?_
  refine x_iload_n (pc' := 39) rfl rfl rfl ?_
  refine x_aload_n (pc' := 40) rfl rfl rfl rfl rfl ?_
  refine x_gR (pc' := 43) (r := (some 11)) rfl rfl rfl (Eq.trans rdRI (Eq.trans rdRL (Eq.trans rdRnwa (z_R_783_0 e)))) ?_
  refine x_iconst (pc' := 44) rfl rfl ?_
  refine x_iload (pc' := 46) rfl rfl rfl ?_
  refine x_imul (pc' := 47) (z := 6) rfl rfl (by decide) ?_
  refine x_iconst (pc' := 48) rfl rfl ?_
  refine x_iadd (pc' := 49) (z := 8) rfl rfl (by decide) ?_
  refine x_iald (pc' := 50) (N := 18) (x := 0) rfl rfl rfl (Eq.trans (b := sN t _ _) rfl (z_N_21_11 e)) (io_in (p := 8) (N := 18) (by decide) (by decide)) (Eq.trans (congrArg (sA (sIw (sLw (sNwA t 20 6) 23 0 0 (0 : Int64)) 768 0 0) 21 11) (nn_io (p := 8) (by decide))) (Eq.trans rdAI (Eq.trans rdAL (Eq.trans rdAnwa (z_A_21_11_8 e))))) ?_
  refine x_imul (pc' := 51) (z := 0) rfl rfl (by decide) ?_
  refine x_iadd (pc' := 52) (z := 0) rfl rfl (by decide) ?_
  refine x_ineg (pc' := 53) (z := 0) rfl rfl (by decide) ?_
  refine x_istore (pc' := 55) (ls' := [_, _, _, _, _, _, _]) rfl rfl rfl rfl ?_
  refine x_iload (pc' := 57) rfl rfl rfl ?_
  refine x_iload (pc' := 59) rfl rfl rfl ?_
  refine x_icmp (a' := 67) (pc' := 62) (z := true) rfl rfl rfl (by decide) (fun _ => ?_) (fun h => by cases h)
  refine x_iload (pc' := 69) rfl rfl rfl ?_
  refine x_istore (pc' := 71) (ls' := [_, _, _, _, _, _, _]) rfl rfl rfl rfl ?_
  refine x_iinc (pc' := 74) (y := 3) (ls' := [_, _, _, _, _, _, _]) rfl rfl rfl rfl rfl ?_
  refine x_goto (pc' := 6) rfl rfl ?_
  refine x_iload (pc' := 8) rfl rfl rfl ?_
  refine x_bipush (pc' := 10) rfl rfl ?_
  refine x_icmp (a' := 77) (pc' := 13) (z := false) rfl rfl rfl (by decide) (fun h => by cases h) (fun _ => ?_)
  refine x_iload_n (pc' := 14) rfl rfl rfl ?_
  refine x_aload_n (pc' := 15) rfl rfl rfl rfl rfl ?_
  refine x_gR (pc' := 18) (r := (some 11)) rfl rfl rfl (Eq.trans rdRI (Eq.trans rdRL (Eq.trans rdRnwa (z_R_783_0 e)))) ?_
  refine x_iconst (pc' := 19) rfl rfl ?_
  refine x_iload (pc' := 21) rfl rfl rfl ?_
  refine x_imul (pc' := 22) (z := 9) rfl rfl (by decide) ?_
  refine x_iald (pc' := 23) (N := 18) (x := 0) rfl rfl rfl (Eq.trans (b := sN t _ _) rfl (z_N_21_11 e)) (io_in (p := 9) (N := 18) (by decide) (by decide)) (Eq.trans (congrArg (sA (sIw (sLw (sNwA t 20 6) 23 0 0 (0 : Int64)) 768 0 0) 21 11) (nn_io (p := 9) (by decide))) (Eq.trans rdAI (Eq.trans rdAL (Eq.trans rdAnwa (z_A_21_11_9 e))))) ?_
  refine x_imul (pc' := 24) (z := 0) rfl rfl (by decide) ?_
  refine x_iload_n (pc' := 25) rfl rfl rfl ?_
  refine x_aload_n (pc' := 26) rfl rfl rfl rfl rfl ?_
  refine x_gR (pc' := 29) (r := (some 11)) rfl rfl rfl (Eq.trans rdRI (Eq.trans rdRL (Eq.trans rdRnwa (z_R_783_0 e)))) ?_
  refine x_iconst (pc' := 30) rfl rfl ?_
  refine x_iload (pc' := 32) rfl rfl rfl ?_
  refine x_imul (pc' := 33) (z := 9) rfl rfl (by decide) ?_
  refine x_iconst (pc' := 34) rfl rfl ?_
  refine x_iadd (pc' := 35) (z := 10) rfl rfl (by decide) ?_
  refine x_iald (pc' := 36) (N := 18) (x := 0) rfl rfl rfl (Eq.trans (b := sN t _ _) rfl (z_N_21_11 e)) (io_in (p := 10) (N := 18) (by decide) (by decide)) (Eq.trans (congrArg (sA (sIw (sLw (sNwA t 20 6) 23 0 0 (0 : Int64)) 768 0 0) 21 11) (nn_io (p := 10) (by decide))) (Eq.trans rdAI (Eq.trans rdAL (Eq.trans rdAnwa (z_A_21_11_10 e))))) ?_
  refine x_imul (pc' := 37) (z := 0) rfl rfl (by decide) ?_
  refine x_iadd (pc' := 38) (z := 0) rfl rfl (by decide) ?_
  refine x_iload_n (pc' := 39) rfl rfl rfl ?_
  refine x_aload_n (pc' := 40) rfl rfl rfl rfl rfl ?_
  refine x_gR (pc' := 43) (r := (some 11)) rfl rfl rfl (Eq.trans rdRI (Eq.trans rdRL (Eq.trans rdRnwa (z_R_783_0 e)))) ?_
  refine x_iconst (pc' := 44) rfl rfl ?_
  refine x_iload (pc' := 46) rfl rfl rfl ?_
  refine x_imul (pc' := 47) (z := 9) rfl rfl (by decide) ?_
  refine x_iconst (pc' := 48) rfl rfl ?_
  refine x_iadd (pc' := 49) (z := 11) rfl rfl (by decide) ?_
  refine x_iald (pc' := 50) (N := 18) (x := 0) rfl rfl rfl (Eq.trans (b := sN t _ _) rfl (z_N_21_11 e)) (io_in (p := 11) (N := 18) (by decide) (by decide)) (Eq.trans (congrArg (sA (sIw (sLw (sNwA t 20 6) 23 0 0 (0 : Int64)) 768 0 0) 21 11) (nn_io (p := 11) (by decide))) (Eq.trans rdAI (Eq.trans rdAL (Eq.trans rdAnwa (z_A_21_11_11 e))))) ?_
  refine x_imul (pc' := 51) (z := 0) rfl rfl (by decide) ?_
  refine x_iadd (pc' := 52) (z := 0) rfl rfl (by decide) ?_
  refine x_ineg (pc' := 53) (z := 0) rfl rfl (by decide) ?_
  refine x_istore (pc' := 55) (ls' := [_, _, _, _, _, _, _]) rfl rfl rfl rfl ?_
  refine x_iload (pc' := 57) rfl rfl rfl ?_
  refine x_iload (pc' := 59) rfl rfl rfl ?_
  refine x_icmp (a' := 67) (pc' := 62) (z := true) rfl rfl rfl (by decide) (fun _ => ?_) (fun h => by cases h)
  refine x_iload (pc' := 69) rfl rfl rfl ?_
  refine x_istore (pc' := 71) (ls' := [_, _, _, _, _, _, _]) rfl rfl rfl rfl ?_
  refine x_iinc (pc' := 74) (y := 4) (ls' := [_, _, _, _, _, _, _]) rfl rfl rfl rfl rfl ?_
  refine x_goto (pc' := 6) rfl rfl ?_
  refine x_iload (pc' := 8) rfl rfl rfl ?_
  refine x_bipush (pc' := 10) rfl rfl ?_
  refine x_icmp (a' := 77) (pc' := 13) (z := false) rfl rfl rfl (by decide) (fun h => by cases h) (fun _ => ?_)
  refine x_iload_n (pc' := 14) rfl rfl rfl ?_
  refine x_aload_n (pc' := 15) rfl rfl rfl rfl rfl ?_
  refine x_gR (pc' := 18) (r := (some 11)) rfl rfl rfl (Eq.trans rdRI (Eq.trans rdRL (Eq.trans rdRnwa (z_R_783_0 e)))) ?_
  refine x_iconst (pc' := 19) rfl rfl ?_
  refine x_iload (pc' := 21) rfl rfl rfl ?_
  refine x_imul (pc' := 22) (z := 12) rfl rfl (by decide) ?_
  refine x_iald (pc' := 23) (N := 18) (x := 0) rfl rfl rfl (Eq.trans (b := sN t _ _) rfl (z_N_21_11 e)) (io_in (p := 12) (N := 18) (by decide) (by decide)) (Eq.trans (congrArg (sA (sIw (sLw (sNwA t 20 6) 23 0 0 (0 : Int64)) 768 0 0) 21 11) (nn_io (p := 12) (by decide))) (Eq.trans rdAI (Eq.trans rdAL (Eq.trans rdAnwa (z_A_21_11_12 e))))) ?_
  refine x_imul (pc' := 24) (z := 0) rfl rfl (by decide) ?_
  refine x_iload_n (pc' := 25) rfl rfl rfl ?_
  refine x_aload_n (pc' := 26) rfl rfl rfl rfl rfl ?_
  refine x_gR (pc' := 29) (r := (some 11)) rfl rfl rfl (Eq.trans rdRI (Eq.trans rdRL (Eq.trans rdRnwa (z_R_783_0 e)))) ?_
  refine x_iconst (pc' := 30) rfl rfl ?_
  refine x_iload (pc' := 32) rfl rfl rfl ?_
  refine x_imul (pc' := 33) (z := 12) rfl rfl (by decide) ?_
  refine x_iconst (pc' := 34) rfl rfl ?_
  refine x_iadd (pc' := 35) (z := 13) rfl rfl (by decide) ?_
  refine x_iald (pc' := 36) (N := 18) (x := 0) rfl rfl rfl (Eq.trans (b := sN t _ _) rfl (z_N_21_11 e)) (io_in (p := 13) (N := 18) (by decide) (by decide)) (Eq.trans (congrArg (sA (sIw (sLw (sNwA t 20 6) 23 0 0 (0 : Int64)) 768 0 0) 21 11) (nn_io (p := 13) (by decide))) (Eq.trans rdAI (Eq.trans rdAL (Eq.trans rdAnwa (z_A_21_11_13 e))))) ?_
  refine x_imul (pc' := 37) (z := 0) rfl rfl (by decide) ?_
  refine x_iadd (pc' := 38) (z := 0) rfl rfl (by decide) ?_
  refine x_iload_n (pc' := 39) rfl rfl rfl ?_
  refine x_aload_n (pc' := 40) rfl rfl rfl rfl rfl ?_
  refine x_gR (pc' := 43) (r := (some 11)) rfl rfl rfl (Eq.trans rdRI (Eq.trans rdRL (Eq.trans rdRnwa (z_R_783_0 e)))) ?_
  refine x_iconst (pc' := 44) rfl rfl ?_
  refine x_iload (pc' := 46) rfl rfl rfl ?_
  refine x_imul (pc' := 47) (z := 12) rfl rfl (by decide) ?_
  refine x_iconst (pc' := 48) rfl rfl ?_
  refine x_iadd (pc' := 49) (z := 14) rfl rfl (by decide) ?_
  refine x_iald (pc' := 50) (N := 18) (x := 0) rfl rfl rfl (Eq.trans (b := sN t _ _) rfl (z_N_21_11 e)) (io_in (p := 14) (N := 18) (by decide) (by decide)) (Eq.trans (congrArg (sA (sIw (sLw (sNwA t 20 6) 23 0 0 (0 : Int64)) 768 0 0) 21 11) (nn_io (p := 14) (by decide))) (Eq.trans rdAI (Eq.trans rdAL (Eq.trans rdAnwa (z_A_21_11_14 e))))) ?_
  refine x_imul (pc' := 51) (z := 0) rfl rfl (by decide) ?_
  refine x_iadd (pc' := 52) (z := 0) rfl rfl (by decide) ?_
  refine x_ineg (pc' := 53) (z := 0) rfl rfl (by decide) ?_
  refine x_istore (pc' := 55) (ls' := [_, _, _, _, _, _, _]) rfl rfl rfl rfl ?_
  refine x_iload (pc' := 57) rfl rfl rfl ?_
  refine x_iload (pc' := 59) rfl rfl rfl ?_
  refine x_icmp (a' := 67) (pc' := 62) (z := true) rfl rfl rfl (by decide) (fun _ => ?_) (fun h => by cases h)
  refine x_iload (pc' := 69) rfl rfl rfl ?_
  refine x_istore (pc' := 71) (ls' := [_, _, _, _, _, _, _]) rfl rfl rfl rfl ?_
  refine x_iinc (pc' := 74) (y := 5) (ls' := [_, _, _, _, _, _, _]) rfl rfl rfl rfl rfl ?_
  refine x_goto (pc' := 6) rfl rfl ?_
  refine x_iload (pc' := 8) rfl rfl rfl ?_
  refine x_bipush (pc' := 10) rfl rfl ?_
  refine x_icmp (a' := 77) (pc' := 13) (z := false) rfl rfl rfl (by decide) (fun h => by cases h) (fun _ => ?_)
  refine x_iload_n (pc' := 14) rfl rfl rfl ?_
  refine x_aload_n (pc' := 15) rfl rfl rfl rfl rfl ?_
  refine x_gR (pc' := 18) (r := (some 11)) rfl rfl rfl (Eq.trans rdRI (Eq.trans rdRL (Eq.trans rdRnwa (z_R_783_0 e)))) ?_
  refine x_iconst (pc' := 19) rfl rfl ?_
  refine x_iload (pc' := 21) rfl rfl rfl ?_
  refine x_imul (pc' := 22) (z := 15) rfl rfl (by decide) ?_
  refine x_iald (pc' := 23) (N := 18) (x := 0) rfl rfl rfl (Eq.trans (b := sN t _ _) rfl (z_N_21_11 e)) (io_in (p := 15) (N := 18) (by decide) (by decide)) (Eq.trans (congrArg (sA (sIw (sLw (sNwA t 20 6) 23 0 0 (0 : Int64)) 768 0 0) 21 11) (nn_io (p := 15) (by decide))) (Eq.trans rdAI (Eq.trans rdAL (Eq.trans rdAnwa (z_A_21_11_15 e))))) ?_
  refine x_imul (pc' := 24) (z := 0) rfl rfl (by decide) ?_
  refine x_iload_n (pc' := 25) rfl rfl rfl ?_
  refine x_aload_n (pc' := 26) rfl rfl rfl rfl rfl ?_
  refine x_gR (pc' := 29) (r := (some 11)) rfl rfl rfl (Eq.trans rdRI (Eq.trans rdRL (Eq.trans rdRnwa (z_R_783_0 e)))) ?_
  refine x_iconst (pc' := 30) rfl rfl ?_
  refine x_iload (pc' := 32) rfl rfl rfl ?_
  refine x_imul (pc' := 33) (z := 15) rfl rfl (by decide) ?_
  refine x_iconst (pc' := 34) rfl rfl ?_
  refine x_iadd (pc' := 35) (z := 16) rfl rfl (by decide) ?_
  refine x_iald (pc' := 36) (N := 18) (x := 0) rfl rfl rfl (Eq.trans (b := sN t _ _) rfl (z_N_21_11 e)) (io_in (p := 16) (N := 18) (by decide) (by decide)) (Eq.trans (congrArg (sA (sIw (sLw (sNwA t 20 6) 23 0 0 (0 : Int64)) 768 0 0) 21 11) (nn_io (p := 16) (by decide))) (Eq.trans rdAI (Eq.trans rdAL (Eq.trans rdAnwa (z_A_21_11_16 e))))) ?_
  refine x_imul (pc' := 37) (z := 0) rfl rfl (by decide) ?_
  refine x_iadd (pc' := 38) (z := 0) rfl rfl (by decide) ?_
  refine x_iload_n (pc' := 39) rfl rfl rfl ?_
  refine x_aload_n (pc' := 40) rfl rfl rfl rfl rfl ?_
  refine x_gR (pc' := 43) (r := (some 11)) rfl rfl rfl (Eq.trans rdRI (Eq.trans rdRL (Eq.trans rdRnwa (z_R_783_0 e)))) ?_
  refine x_iconst (pc' := 44) rfl rfl ?_
  refine x_iload (pc' := 46) rfl rfl rfl ?_
  refine x_imul (pc' := 47) (z := 15) rfl rfl (by decide) ?_
  refine x_iconst (pc' := 48) rfl rfl ?_
  refine x_iadd (pc' := 49) (z := 17) rfl rfl (by decide) ?_
  refine x_iald (pc' := 50) (N := 18) (x := 0) rfl rfl rfl (Eq.trans (b := sN t _ _) rfl (z_N_21_11 e)) (io_in (p := 17) (N := 18) (by decide) (by decide)) (Eq.trans (congrArg (sA (sIw (sLw (sNwA t 20 6) 23 0 0 (0 : Int64)) 768 0 0) 21 11) (nn_io (p := 17) (by decide))) (Eq.trans rdAI (Eq.trans rdAL (Eq.trans rdAnwa (z_A_21_11_17 e))))) ?_
  refine x_imul (pc' := 51) (z := 0) rfl rfl (by decide) ?_
  refine x_iadd (pc' := 52) (z := 0) rfl rfl (by decide) ?_
  refine x_ineg (pc' := 53) (z := 0) rfl rfl (by decide) ?_
  refine x_istore (pc' := 55) (ls' := [_, _, _, _, _, _, _]) rfl rfl rfl rfl ?_
  refine x_iload (pc' := 57) rfl rfl rfl ?_
  refine x_iload (pc' := 59) rfl rfl rfl ?_
  refine x_icmp (a' := 67) (pc' := 62) (z := true) rfl rfl rfl (by decide) (fun _ => ?_) (fun h => by cases h)
  refine x_iload (pc' := 69) rfl rfl rfl ?_
  refine x_istore (pc' := 71) (ls' := [_, _, _, _, _, _, _]) rfl rfl rfl rfl ?_
  refine x_iinc (pc' := 74) (y := 6) (ls' := [_, _, _, _, _, _, _]) rfl rfl rfl rfl rfl ?_
  refine x_goto (pc' := 6) rfl rfl ?_
  refine x_iload (pc' := 8) rfl rfl rfl ?_
  refine x_bipush (pc' := 10) rfl rfl ?_
  refine x_icmp (a' := 77) (pc' := 13) (z := true) rfl rfl rfl (by decide) (fun _ => ?_) (fun h => by cases h)
  refine x_iload (pc' := 79) rfl rfl rfl ?_
  refine x_reti rfl rfl ?_
  refine sK_i (pc' := 35) rfl ?_
  refine x_istore (pc' := 37) (ls' := [_, _, _, _, _]) rfl rfl rfl rfl ?_
  refine x_iload (pc' := 39) rfl rfl rfl ?_
  refine x_iload_n (pc' := 40) rfl rfl rfl ?_
  refine x_icmp (a' := 48) (pc' := 43) (z := true) rfl rfl rfl (by decide) (fun _ => ?_) (fun h => by cases h)
  refine x_iload_n (pc' := 49) rfl rfl rfl ?_
  refine x_istore_n (pc' := 50) (ls' := [_, _, _, _, _]) rfl rfl rfl rfl ?_
  refine x_iinc (pc' := 53) (y := 6) (ls' := [_, _, _, _, _]) rfl rfl rfl rfl rfl ?_
  refine x_goto (pc' := 4) rfl rfl ?_
  refine x_iload_n (pc' := 5) rfl rfl rfl ?_
  refine x_bipush (pc' := 7) rfl rfl ?_
  refine x_icmp (a' := 56) (pc' := 10) (z := false) rfl rfl rfl (by decide) (fun h => by cases h) (fun _ => ?_)
  refine x_aload_n (pc' := 11) rfl rfl rfl rfl rfl ?_
  refine x_aload_n (pc' := 12) rfl rfl rfl rfl rfl ?_
  refine x_iload_n (pc' := 13) rfl rfl rfl ?_
  refine x_iconst (pc' := 14) rfl rfl ?_
  refine x_iload_n (pc' := 15) rfl rfl rfl ?_
  refine x_cv (ls0 := [_, _, _, _, sJk, sJk]) (rest := [_]) rfl rfl rfl rfl rfl ?_
  refine x_iload_n (pc' := 1) rfl rfl rfl ?_
  refine x_iload_n (pc' := 2) rfl rfl rfl ?_
  refine x_ishr (pc' := 3) (z := 6) rfl rfl (by decide) ?_
  refine x_iconst (pc' := 4) rfl rfl ?_
  refine x_iand (pc' := 5) (z := 0) rfl rfl (by decide) ?_
  refine x_iconst (pc' := 6) rfl rfl ?_
  refine x_icmp (a' := 13) (pc' := 9) (z := true) rfl rfl rfl (by decide) (fun _ => ?_) (fun h => by cases h)
  refine x_iconst (pc' := 14) rfl rfl ?_
  refine x_istore (pc' := 16) (ls' := [_, _, _, _, _, _]) rfl rfl rfl rfl ?_
  refine x_aload_n (pc' := 17) rfl rfl rfl rfl rfl ?_
  refine x_iload_n (pc' := 18) rfl rfl rfl ?_
  refine x_iload_n (pc' := 19) rfl rfl rfl ?_
  refine x_iload (pc' := 21) rfl rfl rfl ?_
  refine x_cv (ls0 := [_, _, _, _, sJk, sJk, sJk, sJk, sJk]) (rest := []) rfl rfl rfl rfl rfl ?_
  refine x_iconst (pc' := 1) rfl rfl ?_
  refine x_istore (pc' := 3) (ls' := [_, _, _, _, _, _, _, _, _]) rfl rfl rfl rfl ?_
  refine x_iconst (pc' := 4) rfl rfl ?_
  refine x_istore (pc' := 6) (ls' := [_, _, _, _, _, _, _, _, _]) rfl rfl rfl rfl ?_
  refine x_iload (pc' := 8) rfl rfl rfl ?_
  refine x_aload_n (pc' := 9) rfl rfl rfl rfl rfl ?_
  refine x_gI (pc' := 12) (x := 0) rfl rfl rfl (Eq.trans (rdI_F rfl) (Eq.trans rdIL (Eq.trans rdInwa (z_I_786_0 e)))) ?_
  refine x_icmp (a' := 190) (pc' := 15) (z := true) rfl rfl rfl (by decide) (fun _ => ?_) (fun h => by cases h)
  refine x_iload (pc' := 192) rfl rfl rfl ?_
  refine x_reti rfl rfl ?_
  refine sK_i (pc' := 24) rfl ?_
  refine x_istore (pc' := 26) (ls' := [_, _, _, _, _, _]) rfl rfl rfl rfl ?_
  refine x_aload_n (pc' := 27) rfl rfl rfl rfl rfl ?_
  refine x_gR (pc' := 30) (r := (some 6)) rfl rfl rfl (Eq.trans rdRI (Eq.trans rdRL (Eq.trans rdRnwa (z_R_776_0 e)))) ?_
  refine x_iconst (pc' := 31) rfl rfl ?_
  refine x_iload_n (pc' := 32) rfl rfl rfl ?_
  refine x_imul (pc' := 33) (z := (io (3 * m))) rfl rfl (io_mul 3 m) ?_
  refine x_iload_n (pc' := 34) rfl rfl rfl ?_
  refine x_iadd (pc' := 35) (z := (io ((3 * m) + 0))) rfl rfl (io_add (3 * m) 0) ?_
  refine x_iald (pc' := 36) (N := 18) (x := 0) rfl rfl rfl (Eq.trans (b := sN t _ _) rfl (z_N_21_6 e)) (io_in (p := ((3 * m) + 0)) (N := 18) (show ((3 * m) + 0) < 18 by omega) (by decide)) (Eq.trans (congrArg (sA (sIw (sLw (sNwA t 20 6) 23 0 0 (0 : Int64)) 768 0 0) 21 6) (nn_io (p := ((3 * m) + 0)) (Nat.lt_trans (show ((3 * m) + 0) < 18 by omega) (by decide)))) (Eq.trans rdAI (Eq.trans rdAL (Eq.trans rdAnwa (z_A_21_6_y e _))))) ?_
  refine x_iload (pc' := 38) rfl rfl rfl ?_
  refine x_if (a' := 46) (pc' := 41) (z := true) rfl rfl rfl (by decide) (fun _ => ?_) (fun h => by cases h)
  refine x_iload (pc' := 48) rfl rfl rfl ?_
  refine x_ineg (pc' := 49) (z := 0) rfl rfl (by decide) ?_
  refine x_iadd (pc' := 50) (z := 0) rfl rfl (by decide) ?_
  refine x_reti rfl rfl ?_
  refine sK_i (pc' := 18) rfl ?_
  refine x_aload_n (pc' := 19) rfl rfl rfl rfl rfl ?_
  refine x_iload_n (pc' := 20) rfl rfl rfl ?_
  refine x_iconst (pc' := 21) rfl rfl ?_
  refine x_iload_n (pc' := 22) rfl rfl rfl ?_
  refine x_cv (ls0 := [_, _, _, _, sJk, sJk]) (rest := [_, _]) rfl rfl rfl rfl rfl ?_
  refine x_iload_n (pc' := 1) rfl rfl rfl ?_
  refine x_iload_n (pc' := 2) rfl rfl rfl ?_
  refine x_ishr (pc' := 3) (z := 3) rfl rfl (by decide) ?_
  refine x_iconst (pc' := 4) rfl rfl ?_
  refine x_iand (pc' := 5) (z := 1) rfl rfl (by decide) ?_
  refine x_iconst (pc' := 6) rfl rfl ?_
  refine x_icmp (a' := 13) (pc' := 9) (z := false) rfl rfl rfl (by decide) (fun h => by cases h) (fun _ => ?_)
  refine x_iconst (pc' := 10) rfl rfl ?_
  refine x_goto (pc' := 14) rfl rfl ?_
  refine x_istore (pc' := 16) (ls' := [_, _, _, _, _, _]) rfl rfl rfl rfl ?_
  refine x_aload_n (pc' := 17) rfl rfl rfl rfl rfl ?_
  refine x_iload_n (pc' := 18) rfl rfl rfl ?_
  refine x_iload_n (pc' := 19) rfl rfl rfl ?_
  refine x_iload (pc' := 21) rfl rfl rfl ?_
  refine x_cv (ls0 := [_, _, _, _, sJk, sJk, sJk, sJk, sJk]) (rest := []) rfl rfl rfl rfl rfl ?_
  refine x_iconst (pc' := 1) rfl rfl ?_
  refine x_istore (pc' := 3) (ls' := [_, _, _, _, _, _, _, _, _]) rfl rfl rfl rfl ?_
  refine x_iconst (pc' := 4) rfl rfl ?_
  refine x_istore (pc' := 6) (ls' := [_, _, _, _, _, _, _, _, _]) rfl rfl rfl rfl ?_
  refine x_iload (pc' := 8) rfl rfl rfl ?_
  refine x_aload_n (pc' := 9) rfl rfl rfl rfl rfl ?_
  refine x_gI (pc' := 12) (x := 0) rfl rfl rfl (Eq.trans (rdI_F rfl) (Eq.trans rdIL (Eq.trans rdInwa (z_I_786_0 e)))) ?_
  refine x_icmp (a' := 190) (pc' := 15) (z := true) rfl rfl rfl (by decide) (fun _ => ?_) (fun h => by cases h)
  refine x_iload (pc' := 192) rfl rfl rfl ?_
  refine x_reti rfl rfl ?_
  refine sK_i (pc' := 24) rfl ?_
  refine x_istore (pc' := 26) (ls' := [_, _, _, _, _, _]) rfl rfl rfl rfl ?_
  refine x_aload_n (pc' := 27) rfl rfl rfl rfl rfl ?_
  refine x_gR (pc' := 30) (r := (some 6)) rfl rfl rfl (Eq.trans rdRI (Eq.trans rdRL (Eq.trans rdRnwa (z_R_776_0 e)))) ?_
  refine x_iconst (pc' := 31) rfl rfl ?_
  refine x_iload_n (pc' := 32) rfl rfl rfl ?_
  refine x_imul (pc' := 33) (z := (io (3 * m))) rfl rfl (io_mul 3 m) ?_
  refine x_iload_n (pc' := 34) rfl rfl rfl ?_
  refine x_iadd (pc' := 35) (z := (io ((3 * m) + 1))) rfl rfl (io_add (3 * m) 1) ?_
  refine x_iald (pc' := 36) (N := 18) (x := 0) rfl rfl rfl (Eq.trans (b := sN t _ _) rfl (z_N_21_6 e)) (io_in (p := ((3 * m) + 1)) (N := 18) (show ((3 * m) + 1) < 18 by omega) (by decide)) (Eq.trans (congrArg (sA (sIw (sLw (sNwA t 20 6) 23 0 0 (0 : Int64)) 768 0 0) 21 6) (nn_io (p := ((3 * m) + 1)) (Nat.lt_trans (show ((3 * m) + 1) < 18 by omega) (by decide)))) (Eq.trans rdAI (Eq.trans rdAL (Eq.trans rdAnwa (z_A_21_6_y e _))))) ?_
  refine x_iload (pc' := 38) rfl rfl rfl ?_
  refine x_if (a' := 46) (pc' := 41) (z := false) rfl rfl rfl (by decide) (fun h => by cases h) (fun _ => ?_)
  refine x_iload (pc' := 43) rfl rfl rfl ?_
  refine x_goto (pc' := 49) rfl rfl ?_
  refine x_iadd (pc' := 50) (z := 0) rfl rfl (by decide) ?_
  refine x_reti rfl rfl ?_
  refine sK_i (pc' := 25) rfl ?_
  refine x_aload_n (pc' := 26) rfl rfl rfl rfl rfl ?_
  refine x_iload_n (pc' := 27) rfl rfl rfl ?_
  refine x_iconst (pc' := 28) rfl rfl ?_
  refine x_iload_n (pc' := 29) rfl rfl rfl ?_
  refine x_cv (ls0 := [_, _, _, _, sJk, sJk]) (rest := [_, _, _]) rfl rfl rfl rfl rfl ?_
  refine x_iload_n (pc' := 1) rfl rfl rfl ?_
  refine x_iload_n (pc' := 2) rfl rfl rfl ?_
  refine x_ishr (pc' := 3) (z := 1) rfl rfl (by decide) ?_
  refine x_iconst (pc' := 4) rfl rfl ?_
  refine x_iand (pc' := 5) (z := 1) rfl rfl (by decide) ?_
  refine x_iconst (pc' := 6) rfl rfl ?_
  refine x_icmp (a' := 13) (pc' := 9) (z := false) rfl rfl rfl (by decide) (fun h => by cases h) (fun _ => ?_)
  refine x_iconst (pc' := 10) rfl rfl ?_
  refine x_goto (pc' := 14) rfl rfl ?_
  refine x_istore (pc' := 16) (ls' := [_, _, _, _, _, _]) rfl rfl rfl rfl ?_
  refine x_aload_n (pc' := 17) rfl rfl rfl rfl rfl ?_
  refine x_iload_n (pc' := 18) rfl rfl rfl ?_
  refine x_iload_n (pc' := 19) rfl rfl rfl ?_
  refine x_iload (pc' := 21) rfl rfl rfl ?_
  refine x_cv (ls0 := [_, _, _, _, sJk, sJk, sJk, sJk, sJk]) (rest := []) rfl rfl rfl rfl rfl ?_
  refine x_iconst (pc' := 1) rfl rfl ?_
  refine x_istore (pc' := 3) (ls' := [_, _, _, _, _, _, _, _, _]) rfl rfl rfl rfl ?_
  refine x_iconst (pc' := 4) rfl rfl ?_
  refine x_istore (pc' := 6) (ls' := [_, _, _, _, _, _, _, _, _]) rfl rfl rfl rfl ?_
  refine x_iload (pc' := 8) rfl rfl rfl ?_
  refine x_aload_n (pc' := 9) rfl rfl rfl rfl rfl ?_
  refine x_gI (pc' := 12) (x := 0) rfl rfl rfl (Eq.trans (rdI_F rfl) (Eq.trans rdIL (Eq.trans rdInwa (z_I_786_0 e)))) ?_
  refine x_icmp (a' := 190) (pc' := 15) (z := true) rfl rfl rfl (by decide) (fun _ => ?_) (fun h => by cases h)
  refine x_iload (pc' := 192) rfl rfl rfl ?_
  refine x_reti rfl rfl ?_
  refine sK_i (pc' := 24) rfl ?_
  refine x_istore (pc' := 26) (ls' := [_, _, _, _, _, _]) rfl rfl rfl rfl ?_
  refine x_aload_n (pc' := 27) rfl rfl rfl rfl rfl ?_
  refine x_gR (pc' := 30) (r := (some 6)) rfl rfl rfl (Eq.trans rdRI (Eq.trans rdRL (Eq.trans rdRnwa (z_R_776_0 e)))) ?_
  refine x_iconst (pc' := 31) rfl rfl ?_
  refine x_iload_n (pc' := 32) rfl rfl rfl ?_
  refine x_imul (pc' := 33) (z := (io (3 * m))) rfl rfl (io_mul 3 m) ?_
  refine x_iload_n (pc' := 34) rfl rfl rfl ?_
  refine x_iadd (pc' := 35) (z := (io ((3 * m) + 2))) rfl rfl (io_add (3 * m) 2) ?_
  refine x_iald (pc' := 36) (N := 18) (x := 0) rfl rfl rfl (Eq.trans (b := sN t _ _) rfl (z_N_21_6 e)) (io_in (p := ((3 * m) + 2)) (N := 18) (show ((3 * m) + 2) < 18 by omega) (by decide)) (Eq.trans (congrArg (sA (sIw (sLw (sNwA t 20 6) 23 0 0 (0 : Int64)) 768 0 0) 21 6) (nn_io (p := ((3 * m) + 2)) (Nat.lt_trans (show ((3 * m) + 2) < 18 by omega) (by decide)))) (Eq.trans rdAI (Eq.trans rdAL (Eq.trans rdAnwa (z_A_21_6_y e _))))) ?_
  refine x_iload (pc' := 38) rfl rfl rfl ?_
  refine x_if (a' := 46) (pc' := 41) (z := false) rfl rfl rfl (by decide) (fun h => by cases h) (fun _ => ?_)
  refine x_iload (pc' := 43) rfl rfl rfl ?_
  refine x_goto (pc' := 49) rfl rfl ?_
  refine x_iadd (pc' := 50) (z := 0) rfl rfl (by decide) ?_
  refine x_reti rfl rfl ?_
  refine sK_i (pc' := 32) rfl ?_
  refine x_cv (ls0 := [_, _, _, _, sJk, sJk, sJk]) (rest := []) rfl rfl rfl rfl rfl ?_
  refine x_iconst (pc' := 1) rfl rfl ?_
  refine x_istore (pc' := 3) (ls' := [_, _, _, _, _, _, _]) rfl rfl rfl rfl ?_
  refine x_iconst (pc' := 4) rfl rfl ?_
  refine x_istore (pc' := 6) (ls' := [_, _, _, _, _, _, _]) rfl rfl rfl rfl ?_
  refine x_iload (pc' := 8) rfl rfl rfl ?_
  refine x_bipush (pc' := 10) rfl rfl ?_
  refine x_icmp (a' := 77) (pc' := 13) (z := false) rfl rfl rfl (by decide) (fun h => by cases h) (fun _ => ?_)
  refine x_iload_n (pc' := 14) rfl rfl rfl ?_
  refine x_aload_n (pc' := 15) rfl rfl rfl rfl rfl ?_
  refine x_gR (pc' := 18) (r := (some 11)) rfl rfl rfl (Eq.trans rdRI (Eq.trans rdRL (Eq.trans rdRnwa (z_R_783_0 e)))) ?_
  refine x_iconst (pc' := 19) rfl rfl ?_
  refine x_iload (pc' := 21) rfl rfl rfl ?_
  refine x_imul (pc' := 22) (z := 0) rfl rfl (by decide) ?_
  refine x_iald (pc' := 23) (N := 18) (x := 0) rfl rfl rfl (Eq.trans (b := sN t _ _) rfl (z_N_21_11 e)) (io_in (p := 0) (N := 18) (by decide) (by decide)) (Eq.trans (congrArg (sA (sIw (sLw (sNwA t 20 6) 23 0 0 (0 : Int64)) 768 0 0) 21 11) (nn_io (p := 0) (by decide))) (Eq.trans rdAI (Eq.trans rdAL (Eq.trans rdAnwa (z_A_21_11_0 e))))) ?_
  refine x_imul (pc' := 24) (z := 0) rfl rfl (by decide) ?_
  refine x_iload_n (pc' := 25) rfl rfl rfl ?_
  refine x_aload_n (pc' := 26) rfl rfl rfl rfl rfl ?_
  refine x_gR (pc' := 29) (r := (some 11)) rfl rfl rfl (Eq.trans rdRI (Eq.trans rdRL (Eq.trans rdRnwa (z_R_783_0 e)))) ?_
  refine x_iconst (pc' := 30) rfl rfl ?_
  refine x_iload (pc' := 32) rfl rfl rfl ?_
  refine x_imul (pc' := 33) (z := 0) rfl rfl (by decide) ?_
  refine x_iconst (pc' := 34) rfl rfl ?_
  refine x_iadd (pc' := 35) (z := 1) rfl rfl (by decide) ?_
  refine x_iald (pc' := 36) (N := 18) (x := 0) rfl rfl rfl (Eq.trans (b := sN t _ _) rfl (z_N_21_11 e)) (io_in (p := 1) (N := 18) (by decide) (by decide)) (Eq.trans (congrArg (sA (sIw (sLw (sNwA t 20 6) 23 0 0 (0 : Int64)) 768 0 0) 21 11) (nn_io (p := 1) (by decide))) (Eq.trans rdAI (Eq.trans rdAL (Eq.trans rdAnwa (z_A_21_11_1 e))))) ?_
  refine x_imul (pc' := 37) (z := 0) rfl rfl (by decide) ?_
  refine x_iadd (pc' := 38) (z := 0) rfl rfl (by decide) ?_
  refine x_iload_n (pc' := 39) rfl rfl rfl ?_
  refine x_aload_n (pc' := 40) rfl rfl rfl rfl rfl ?_
  refine x_gR (pc' := 43) (r := (some 11)) rfl rfl rfl (Eq.trans rdRI (Eq.trans rdRL (Eq.trans rdRnwa (z_R_783_0 e)))) ?_
  refine x_iconst (pc' := 44) rfl rfl ?_
  refine x_iload (pc' := 46) rfl rfl rfl ?_
  refine x_imul (pc' := 47) (z := 0) rfl rfl (by decide) ?_
  refine x_iconst (pc' := 48) rfl rfl ?_
  refine x_iadd (pc' := 49) (z := 2) rfl rfl (by decide) ?_
  refine x_iald (pc' := 50) (N := 18) (x := 0) rfl rfl rfl (Eq.trans (b := sN t _ _) rfl (z_N_21_11 e)) (io_in (p := 2) (N := 18) (by decide) (by decide)) (Eq.trans (congrArg (sA (sIw (sLw (sNwA t 20 6) 23 0 0 (0 : Int64)) 768 0 0) 21 11) (nn_io (p := 2) (by decide))) (Eq.trans rdAI (Eq.trans rdAL (Eq.trans rdAnwa (z_A_21_11_2 e))))) ?_
  refine x_imul (pc' := 51) (z := 0) rfl rfl (by decide) ?_
  refine x_iadd (pc' := 52) (z := 0) rfl rfl (by decide) ?_
  refine x_ineg (pc' := 53) (z := 0) rfl rfl (by decide) ?_
  refine x_istore (pc' := 55) (ls' := [_, _, _, _, _, _, _]) rfl rfl rfl rfl ?_
  refine x_iload (pc' := 57) rfl rfl rfl ?_
  refine x_iload (pc' := 59) rfl rfl rfl ?_
  refine x_icmp (a' := 67) (pc' := 62) (z := true) rfl rfl rfl (by decide) (fun _ => ?_) (fun h => by cases h)
  refine x_iload (pc' := 69) rfl rfl rfl ?_
  refine x_istore (pc' := 71) (ls' := [_, _, _, _, _, _, _]) rfl rfl rfl rfl ?_
  refine x_iinc (pc' := 74) (y := 1) (ls' := [_, _, _, _, _, _, _]) rfl rfl rfl rfl rfl ?_
  refine x_goto (pc' := 6) rfl rfl ?_
  refine x_iload (pc' := 8) rfl rfl rfl ?_
  refine x_bipush (pc' := 10) rfl rfl ?_
  refine x_icmp (a' := 77) (pc' := 13) (z := false) rfl rfl rfl (by decide) (fun h => by cases h) (fun _ => ?_)
  refine x_iload_n (pc' := 14) rfl rfl rfl ?_
  refine x_aload_n (pc' := 15) rfl rfl rfl rfl rfl ?_
  refine x_gR (pc' := 18) (r := (some 11)) rfl rfl rfl (Eq.trans rdRI (Eq.trans rdRL (Eq.trans rdRnwa (z_R_783_0 e)))) ?_
  refine x_iconst (pc' := 19) rfl rfl ?_
  refine x_iload (pc' := 21) rfl rfl rfl ?_
  refine x_imul (pc' := 22) (z := 3) rfl rfl (by decide) ?_
  refine x_iald (pc' := 23) (N := 18) (x := 0) rfl rfl rfl (Eq.trans (b := sN t _ _) rfl (z_N_21_11 e)) (io_in (p := 3) (N := 18) (by decide) (by decide)) (Eq.trans (congrArg (sA (sIw (sLw (sNwA t 20 6) 23 0 0 (0 : Int64)) 768 0 0) 21 11) (nn_io (p := 3) (by decide))) (Eq.trans rdAI (Eq.trans rdAL (Eq.trans rdAnwa (z_A_21_11_3 e))))) ?_
  refine x_imul (pc' := 24) (z := 0) rfl rfl (by decide) ?_
  refine x_iload_n (pc' := 25) rfl rfl rfl ?_
  refine x_aload_n (pc' := 26) rfl rfl rfl rfl rfl ?_
  refine x_gR (pc' := 29) (r := (some 11)) rfl rfl rfl (Eq.trans rdRI (Eq.trans rdRL (Eq.trans rdRnwa (z_R_783_0 e)))) ?_
  refine x_iconst (pc' := 30) rfl rfl ?_
  refine x_iload (pc' := 32) rfl rfl rfl ?_
  refine x_imul (pc' := 33) (z := 3) rfl rfl (by decide) ?_
  refine x_iconst (pc' := 34) rfl rfl ?_
  refine x_iadd (pc' := 35) (z := 4) rfl rfl (by decide) ?_
  refine x_iald (pc' := 36) (N := 18) (x := 0) rfl rfl rfl (Eq.trans (b := sN t _ _) rfl (z_N_21_11 e)) (io_in (p := 4) (N := 18) (by decide) (by decide)) (Eq.trans (congrArg (sA (sIw (sLw (sNwA t 20 6) 23 0 0 (0 : Int64)) 768 0 0) 21 11) (nn_io (p := 4) (by decide))) (Eq.trans rdAI (Eq.trans rdAL (Eq.trans rdAnwa (z_A_21_11_4 e))))) ?_
  refine x_imul (pc' := 37) (z := 0) rfl rfl (by decide) ?_
  refine x_iadd (pc' := 38) (z := 0) rfl rfl (by decide) ?_
  refine x_iload_n (pc' := 39) rfl rfl rfl ?_
  refine x_aload_n (pc' := 40) rfl rfl rfl rfl rfl ?_
  refine x_gR (pc' := 43) (r := (some 11)) rfl rfl rfl (Eq.trans rdRI (Eq.trans rdRL (Eq.trans rdRnwa (z_R_783_0 e)))) ?_
  refine x_iconst (pc' := 44) rfl rfl ?_
  refine x_iload (pc' := 46) rfl rfl rfl ?_
  refine x_imul (pc' := 47) (z := 3) rfl rfl (by decide) ?_
  refine x_iconst (pc' := 48) rfl rfl ?_
  refine x_iadd (pc' := 49) (z := 5) rfl rfl (by decide) ?_
  refine x_iald (pc' := 50) (N := 18) (x := 0) rfl rfl rfl (Eq.trans (b := sN t _ _) rfl (z_N_21_11 e)) (io_in (p := 5) (N := 18) (by decide) (by decide)) (Eq.trans (congrArg (sA (sIw (sLw (sNwA t 20 6) 23 0 0 (0 : Int64)) 768 0 0) 21 11) (nn_io (p := 5) (by decide))) (Eq.trans rdAI (Eq.trans rdAL (Eq.trans rdAnwa (z_A_21_11_5 e))))) ?_
  refine x_imul (pc' := 51) (z := 0) rfl rfl (by decide) ?_
  refine x_iadd (pc' := 52) (z := 0) rfl rfl (by decide) ?_
  refine x_ineg (pc' := 53) (z := 0) rfl rfl (by decide) ?_
  refine x_istore (pc' := 55) (ls' := [_, _, _, _, _, _, _]) rfl rfl rfl rfl ?_
  refine x_iload (pc' := 57) rfl rfl rfl ?_
  refine x_iload (pc' := 59) rfl rfl rfl ?_
  refine x_icmp (a' := 67) (pc' := 62) (z := true) rfl rfl rfl (by decide) (fun _ => ?_) (fun h => by cases h)
  refine x_iload (pc' := 69) rfl rfl rfl ?_
  refine x_istore (pc' := 71) (ls' := [_, _, _, _, _, _, _]) rfl rfl rfl rfl ?_
  refine x_iinc (pc' := 74) (y := 2) (ls' := [_, _, _, _, _, _, _]) rfl rfl rfl rfl rfl ?_
  refine x_goto (pc' := 6) rfl rfl ?_
  refine x_iload (pc' := 8) rfl rfl rfl ?_
  refine x_bipush (pc' := 10) rfl rfl ?_
  refine x_icmp (a' := 77) (pc' := 13) (z := false) rfl rfl rfl (by decide) (fun h => by cases h) (fun _ => ?_)
  refine x_iload_n (pc' := 14) rfl rfl rfl ?_
  refine x_aload_n (pc' := 15) rfl rfl rfl rfl rfl ?_
  refine x_gR (pc' := 18) (r := (some 11)) rfl rfl rfl (Eq.trans rdRI (Eq.trans rdRL (Eq.trans rdRnwa (z_R_783_0 e)))) ?_
  refine x_iconst (pc' := 19) rfl rfl ?_
  refine x_iload (pc' := 21) rfl rfl rfl ?_
  refine x_imul (pc' := 22) (z := 6) rfl rfl (by decide) ?_
  refine x_iald (pc' := 23) (N := 18) (x := 0) rfl rfl rfl (Eq.trans (b := sN t _ _) rfl (z_N_21_11 e)) (io_in (p := 6) (N := 18) (by decide) (by decide)) (Eq.trans (congrArg (sA (sIw (sLw (sNwA t 20 6) 23 0 0 (0 : Int64)) 768 0 0) 21 11) (nn_io (p := 6) (by decide))) (Eq.trans rdAI (Eq.trans rdAL (Eq.trans rdAnwa (z_A_21_11_6 e))))) ?_
  refine x_imul (pc' := 24) (z := 0) rfl rfl (by decide) ?_
  refine x_iload_n (pc' := 25) rfl rfl rfl ?_
  refine x_aload_n (pc' := 26) rfl rfl rfl rfl rfl ?_
  refine x_gR (pc' := 29) (r := (some 11)) rfl rfl rfl (Eq.trans rdRI (Eq.trans rdRL (Eq.trans rdRnwa (z_R_783_0 e)))) ?_
  refine x_iconst (pc' := 30) rfl rfl ?_
  refine x_iload (pc' := 32) rfl rfl rfl ?_
  refine x_imul (pc' := 33) (z := 6) rfl rfl (by decide) ?_
  refine x_iconst (pc' := 34) rfl rfl ?_
  refine x_iadd (pc' := 35) (z := 7) rfl rfl (by decide) ?_
  refine x_iald (pc' := 36) (N := 18) (x := 0) rfl rfl rfl (Eq.trans (b := sN t _ _) rfl (z_N_21_11 e)) (io_in (p := 7) (N := 18) (by decide) (by decide)) (Eq.trans (congrArg (sA (sIw (sLw (sNwA t 20 6) 23 0 0 (0 : Int64)) 768 0 0) 21 11) (nn_io (p := 7) (by decide))) (Eq.trans rdAI (Eq.trans rdAL (Eq.trans rdAnwa (z_A_21_11_7 e))))) ?_
  refine x_imul (pc' := 37) (z := 0) rfl rfl (by decide) ?_
  refine x_iadd (pc' := 38) (z := 0) rfl rfl (by decide) ?_
  refine x_iload_n (pc' := 39) rfl rfl rfl ?_
  refine x_aload_n (pc' := 40) rfl rfl rfl rfl rfl ?_
  refine x_gR (pc' := 43) (r := (some 11)) rfl rfl rfl (Eq.trans rdRI (Eq.trans rdRL (Eq.trans rdRnwa (z_R_783_0 e)))) ?_
  refine x_iconst (pc' := 44) rfl rfl ?_
  refine x_iload (pc' := 46) rfl rfl rfl ?_
  refine x_imul (pc' := 47) (z := 6) rfl rfl (by decide) ?_
  refine x_iconst (pc' := 48) rfl rfl ?_
  refine x_iadd (pc' := 49) (z := 8) rfl rfl (by decide) ?_
  refine x_iald (pc' := 50) (N := 18) (x := 0) rfl rfl rfl (Eq.trans (b := sN t _ _) rfl (z_N_21_11 e)) (io_in (p := 8) (N := 18) (by decide) (by decide)) (Eq.trans (congrArg (sA (sIw (sLw (sNwA t 20 6) 23 0 0 (0 : Int64)) 768 0 0) 21 11) (nn_io (p := 8) (by decide))) (Eq.trans rdAI (Eq.trans rdAL (Eq.trans rdAnwa (z_A_21_11_8 e))))) ?_
  refine x_imul (pc' := 51) (z := 0) rfl rfl (by decide) ?_
  refine x_iadd (pc' := 52) (z := 0) rfl rfl (by decide) ?_
  refine x_ineg (pc' := 53) (z := 0) rfl rfl (by decide) ?_
  refine x_istore (pc' := 55) (ls' := [_, _, _, _, _, _, _]) rfl rfl rfl rfl ?_
  refine x_iload (pc' := 57) rfl rfl rfl ?_
  refine x_iload (pc' := 59) rfl rfl rfl ?_
  refine x_icmp (a' := 67) (pc' := 62) (z := true) rfl rfl rfl (by decide) (fun _ => ?_) (fun h => by cases h)
  refine x_iload (pc' := 69) rfl rfl rfl ?_
  refine x_istore (pc' := 71) (ls' := [_, _, _, _, _, _, _]) rfl rfl rfl rfl ?_
  refine x_iinc (pc' := 74) (y := 3) (ls' := [_, _, _, _, _, _, _]) rfl rfl rfl rfl rfl ?_
  refine x_goto (pc' := 6) rfl rfl ?_
  refine x_iload (pc' := 8) rfl rfl rfl ?_
  refine x_bipush (pc' := 10) rfl rfl ?_
  refine x_icmp (a' := 77) (pc' := 13) (z := false) rfl rfl rfl (by decide) (fun h => by cases h) (fun _ => ?_)
  refine x_iload_n (pc' := 14) rfl rfl rfl ?_
  refine x_aload_n (pc' := 15) rfl rfl rfl rfl rfl ?_
  refine x_gR (pc' := 18) (r := (some 11)) rfl rfl rfl (Eq.trans rdRI (Eq.trans rdRL (Eq.trans rdRnwa (z_R_783_0 e)))) ?_
  refine x_iconst (pc' := 19) rfl rfl ?_
  refine x_iload (pc' := 21) rfl rfl rfl ?_
  refine x_imul (pc' := 22) (z := 9) rfl rfl (by decide) ?_
  refine x_iald (pc' := 23) (N := 18) (x := 0) rfl rfl rfl (Eq.trans (b := sN t _ _) rfl (z_N_21_11 e)) (io_in (p := 9) (N := 18) (by decide) (by decide)) (Eq.trans (congrArg (sA (sIw (sLw (sNwA t 20 6) 23 0 0 (0 : Int64)) 768 0 0) 21 11) (nn_io (p := 9) (by decide))) (Eq.trans rdAI (Eq.trans rdAL (Eq.trans rdAnwa (z_A_21_11_9 e))))) ?_
  refine x_imul (pc' := 24) (z := 0) rfl rfl (by decide) ?_
  refine x_iload_n (pc' := 25) rfl rfl rfl ?_
  refine x_aload_n (pc' := 26) rfl rfl rfl rfl rfl ?_
  refine x_gR (pc' := 29) (r := (some 11)) rfl rfl rfl (Eq.trans rdRI (Eq.trans rdRL (Eq.trans rdRnwa (z_R_783_0 e)))) ?_
  refine x_iconst (pc' := 30) rfl rfl ?_
  refine x_iload (pc' := 32) rfl rfl rfl ?_
  refine x_imul (pc' := 33) (z := 9) rfl rfl (by decide) ?_
  refine x_iconst (pc' := 34) rfl rfl ?_
  refine x_iadd (pc' := 35) (z := 10) rfl rfl (by decide) ?_
  refine x_iald (pc' := 36) (N := 18) (x := 0) rfl rfl rfl (Eq.trans (b := sN t _ _) rfl (z_N_21_11 e)) (io_in (p := 10) (N := 18) (by decide) (by decide)) (Eq.trans (congrArg (sA (sIw (sLw (sNwA t 20 6) 23 0 0 (0 : Int64)) 768 0 0) 21 11) (nn_io (p := 10) (by decide))) (Eq.trans rdAI (Eq.trans rdAL (Eq.trans rdAnwa (z_A_21_11_10 e))))) ?_
  refine x_imul (pc' := 37) (z := 0) rfl rfl (by decide) ?_
  refine x_iadd (pc' := 38) (z := 0) rfl rfl (by decide) ?_
  refine x_iload_n (pc' := 39) rfl rfl rfl ?_
  refine x_aload_n (pc' := 40) rfl rfl rfl rfl rfl ?_
  refine x_gR (pc' := 43) (r := (some 11)) rfl rfl rfl (Eq.trans rdRI (Eq.trans rdRL (Eq.trans rdRnwa (z_R_783_0 e)))) ?_
  refine x_iconst (pc' := 44) rfl rfl ?_
  refine x_iload (pc' := 46) rfl rfl rfl ?_
  refine x_imul (pc' := 47) (z := 9) rfl rfl (by decide) ?_
  refine x_iconst (pc' := 48) rfl rfl ?_
  refine x_iadd (pc' := 49) (z := 11) rfl rfl (by decide) ?_
  refine x_iald (pc' := 50) (N := 18) (x := 0) rfl rfl rfl (Eq.trans (b := sN t _ _) rfl (z_N_21_11 e)) (io_in (p := 11) (N := 18) (by decide) (by decide)) (Eq.trans (congrArg (sA (sIw (sLw (sNwA t 20 6) 23 0 0 (0 : Int64)) 768 0 0) 21 11) (nn_io (p := 11) (by decide))) (Eq.trans rdAI (Eq.trans rdAL (Eq.trans rdAnwa (z_A_21_11_11 e))))) ?_
  refine x_imul (pc' := 51) (z := 0) rfl rfl (by decide) ?_
  refine x_iadd (pc' := 52) (z := 0) rfl rfl (by decide) ?_
  refine x_ineg (pc' := 53) (z := 0) rfl rfl (by decide) ?_
  refine x_istore (pc' := 55) (ls' := [_, _, _, _, _, _, _]) rfl rfl rfl rfl ?_
  refine x_iload (pc' := 57) rfl rfl rfl ?_
  refine x_iload (pc' := 59) rfl rfl rfl ?_
  refine x_icmp (a' := 67) (pc' := 62) (z := true) rfl rfl rfl (by decide) (fun _ => ?_) (fun h => by cases h)
  refine x_iload (pc' := 69) rfl rfl rfl ?_
  refine x_istore (pc' := 71) (ls' := [_, _, _, _, _, _, _]) rfl rfl rfl rfl ?_
  refine x_iinc (pc' := 74) (y := 4) (ls' := [_, _, _, _, _, _, _]) rfl rfl rfl rfl rfl ?_
  refine x_goto (pc' := 6) rfl rfl ?_
  refine x_iload (pc' := 8) rfl rfl rfl ?_
  refine x_bipush (pc' := 10) rfl rfl ?_
  refine x_icmp (a' := 77) (pc' := 13) (z := false) rfl rfl rfl (by decide) (fun h => by cases h) (fun _ => ?_)
  refine x_iload_n (pc' := 14) rfl rfl rfl ?_
  refine x_aload_n (pc' := 15) rfl rfl rfl rfl rfl ?_
  refine x_gR (pc' := 18) (r := (some 11)) rfl rfl rfl (Eq.trans rdRI (Eq.trans rdRL (Eq.trans rdRnwa (z_R_783_0 e)))) ?_
  refine x_iconst (pc' := 19) rfl rfl ?_
  refine x_iload (pc' := 21) rfl rfl rfl ?_
  refine x_imul (pc' := 22) (z := 12) rfl rfl (by decide) ?_
  refine x_iald (pc' := 23) (N := 18) (x := 0) rfl rfl rfl (Eq.trans (b := sN t _ _) rfl (z_N_21_11 e)) (io_in (p := 12) (N := 18) (by decide) (by decide)) (Eq.trans (congrArg (sA (sIw (sLw (sNwA t 20 6) 23 0 0 (0 : Int64)) 768 0 0) 21 11) (nn_io (p := 12) (by decide))) (Eq.trans rdAI (Eq.trans rdAL (Eq.trans rdAnwa (z_A_21_11_12 e))))) ?_
  refine x_imul (pc' := 24) (z := 0) rfl rfl (by decide) ?_
  refine x_iload_n (pc' := 25) rfl rfl rfl ?_
  refine x_aload_n (pc' := 26) rfl rfl rfl rfl rfl ?_
  refine x_gR (pc' := 29) (r := (some 11)) rfl rfl rfl (Eq.trans rdRI (Eq.trans rdRL (Eq.trans rdRnwa (z_R_783_0 e)))) ?_
  refine x_iconst (pc' := 30) rfl rfl ?_
  refine x_iload (pc' := 32) rfl rfl rfl ?_
  refine x_imul (pc' := 33) (z := 12) rfl rfl (by decide) ?_
  refine x_iconst (pc' := 34) rfl rfl ?_
  refine x_iadd (pc' := 35) (z := 13) rfl rfl (by decide) ?_
  refine x_iald (pc' := 36) (N := 18) (x := 0) rfl rfl rfl (Eq.trans (b := sN t _ _) rfl (z_N_21_11 e)) (io_in (p := 13) (N := 18) (by decide) (by decide)) (Eq.trans (congrArg (sA (sIw (sLw (sNwA t 20 6) 23 0 0 (0 : Int64)) 768 0 0) 21 11) (nn_io (p := 13) (by decide))) (Eq.trans rdAI (Eq.trans rdAL (Eq.trans rdAnwa (z_A_21_11_13 e))))) ?_
  refine x_imul (pc' := 37) (z := 0) rfl rfl (by decide) ?_
  refine x_iadd (pc' := 38) (z := 0) rfl rfl (by decide) ?_
  refine x_iload_n (pc' := 39) rfl rfl rfl ?_
  refine x_aload_n (pc' := 40) rfl rfl rfl rfl rfl ?_
  refine x_gR (pc' := 43) (r := (some 11)) rfl rfl rfl (Eq.trans rdRI (Eq.trans rdRL (Eq.trans rdRnwa (z_R_783_0 e)))) ?_
  refine x_iconst (pc' := 44) rfl rfl ?_
  refine x_iload (pc' := 46) rfl rfl rfl ?_
  refine x_imul (pc' := 47) (z := 12) rfl rfl (by decide) ?_
  refine x_iconst (pc' := 48) rfl rfl ?_
  refine x_iadd (pc' := 49) (z := 14) rfl rfl (by decide) ?_
  refine x_iald (pc' := 50) (N := 18) (x := 0) rfl rfl rfl (Eq.trans (b := sN t _ _) rfl (z_N_21_11 e)) (io_in (p := 14) (N := 18) (by decide) (by decide)) (Eq.trans (congrArg (sA (sIw (sLw (sNwA t 20 6) 23 0 0 (0 : Int64)) 768 0 0) 21 11) (nn_io (p := 14) (by decide))) (Eq.trans rdAI (Eq.trans rdAL (Eq.trans rdAnwa (z_A_21_11_14 e))))) ?_
  refine x_imul (pc' := 51) (z := 0) rfl rfl (by decide) ?_
  refine x_iadd (pc' := 52) (z := 0) rfl rfl (by decide) ?_
  refine x_ineg (pc' := 53) (z := 0) rfl rfl (by decide) ?_
  refine x_istore (pc' := 55) (ls' := [_, _, _, _, _, _, _]) rfl rfl rfl rfl ?_
  refine x_iload (pc' := 57) rfl rfl rfl ?_
  refine x_iload (pc' := 59) rfl rfl rfl ?_
  refine x_icmp (a' := 67) (pc' := 62) (z := true) rfl rfl rfl (by decide) (fun _ => ?_) (fun h => by cases h)
  refine x_iload (pc' := 69) rfl rfl rfl ?_
  refine x_istore (pc' := 71) (ls' := [_, _, _, _, _, _, _]) rfl rfl rfl rfl ?_
  refine x_iinc (pc' := 74) (y := 5) (ls' := [_, _, _, _, _, _, _]) rfl rfl rfl rfl rfl ?_
  refine x_goto (pc' := 6) rfl rfl ?_
  refine x_iload (pc' := 8) rfl rfl rfl ?_
  refine x_bipush (pc' := 10) rfl rfl ?_
  refine x_icmp (a' := 77) (pc' := 13) (z := false) rfl rfl rfl (by decide) (fun h => by cases h) (fun _ => ?_)
  refine x_iload_n (pc' := 14) rfl rfl rfl ?_
  refine x_aload_n (pc' := 15) rfl rfl rfl rfl rfl ?_
  refine x_gR (pc' := 18) (r := (some 11)) rfl rfl rfl (Eq.trans rdRI (Eq.trans rdRL (Eq.trans rdRnwa (z_R_783_0 e)))) ?_
  refine x_iconst (pc' := 19) rfl rfl ?_
  refine x_iload (pc' := 21) rfl rfl rfl ?_
  refine x_imul (pc' := 22) (z := 15) rfl rfl (by decide) ?_
  refine x_iald (pc' := 23) (N := 18) (x := 0) rfl rfl rfl (Eq.trans (b := sN t _ _) rfl (z_N_21_11 e)) (io_in (p := 15) (N := 18) (by decide) (by decide)) (Eq.trans (congrArg (sA (sIw (sLw (sNwA t 20 6) 23 0 0 (0 : Int64)) 768 0 0) 21 11) (nn_io (p := 15) (by decide))) (Eq.trans rdAI (Eq.trans rdAL (Eq.trans rdAnwa (z_A_21_11_15 e))))) ?_
  refine x_imul (pc' := 24) (z := 0) rfl rfl (by decide) ?_
  refine x_iload_n (pc' := 25) rfl rfl rfl ?_
  refine x_aload_n (pc' := 26) rfl rfl rfl rfl rfl ?_
  refine x_gR (pc' := 29) (r := (some 11)) rfl rfl rfl (Eq.trans rdRI (Eq.trans rdRL (Eq.trans rdRnwa (z_R_783_0 e)))) ?_
  refine x_iconst (pc' := 30) rfl rfl ?_
  refine x_iload (pc' := 32) rfl rfl rfl ?_
  refine x_imul (pc' := 33) (z := 15) rfl rfl (by decide) ?_
  refine x_iconst (pc' := 34) rfl rfl ?_
  refine x_iadd (pc' := 35) (z := 16) rfl rfl (by decide) ?_
  refine x_iald (pc' := 36) (N := 18) (x := 0) rfl rfl rfl (Eq.trans (b := sN t _ _) rfl (z_N_21_11 e)) (io_in (p := 16) (N := 18) (by decide) (by decide)) (Eq.trans (congrArg (sA (sIw (sLw (sNwA t 20 6) 23 0 0 (0 : Int64)) 768 0 0) 21 11) (nn_io (p := 16) (by decide))) (Eq.trans rdAI (Eq.trans rdAL (Eq.trans rdAnwa (z_A_21_11_16 e))))) ?_
  refine x_imul (pc' := 37) (z := 0) rfl rfl (by decide) ?_
  refine x_iadd (pc' := 38) (z := 0) rfl rfl (by decide) ?_
  refine x_iload_n (pc' := 39) rfl rfl rfl ?_
  refine x_aload_n (pc' := 40) rfl rfl rfl rfl rfl ?_
  refine x_gR (pc' := 43) (r := (some 11)) rfl rfl rfl (Eq.trans rdRI (Eq.trans rdRL (Eq.trans rdRnwa (z_R_783_0 e)))) ?_
  refine x_iconst (pc' := 44) rfl rfl ?_
  refine x_iload (pc' := 46) rfl rfl rfl ?_
  refine x_imul (pc' := 47) (z := 15) rfl rfl (by decide) ?_
  refine x_iconst (pc' := 48) rfl rfl ?_
  refine x_iadd (pc' := 49) (z := 17) rfl rfl (by decide) ?_
  refine x_iald (pc' := 50) (N := 18) (x := 0) rfl rfl rfl (Eq.trans (b := sN t _ _) rfl (z_N_21_11 e)) (io_in (p := 17) (N := 18) (by decide) (by decide)) (Eq.trans (congrArg (sA (sIw (sLw (sNwA t 20 6) 23 0 0 (0 : Int64)) 768 0 0) 21 11) (nn_io (p := 17) (by decide))) (Eq.trans rdAI (Eq.trans rdAL (Eq.trans rdAnwa (z_A_21_11_17 e))))) ?_
  refine x_imul (pc' := 51) (z := 0) rfl rfl (by decide) ?_
  refine x_iadd (pc' := 52) (z := 0) rfl rfl (by decide) ?_
  refine x_ineg (pc' := 53) (z := 0) rfl rfl (by decide) ?_
  refine x_istore (pc' := 55) (ls' := [_, _, _, _, _, _, _]) rfl rfl rfl rfl ?_
  refine x_iload (pc' := 57) rfl rfl rfl ?_
  refine x_iload (pc' := 59) rfl rfl rfl ?_
  refine x_icmp (a' := 67) (pc' := 62) (z := true) rfl rfl rfl (by decide) (fun _ => ?_) (fun h => by cases h)
  refine x_iload (pc' := 69) rfl rfl rfl ?_
  refine x_istore (pc' := 71) (ls' := [_, _, _, _, _, _, _]) rfl rfl rfl rfl ?_
  refine x_iinc (pc' := 74) (y := 6) (ls' := [_, _, _, _, _, _, _]) rfl rfl rfl rfl rfl ?_
  refine x_goto (pc' := 6) rfl rfl ?_
  refine x_iload (pc' := 8) rfl rfl rfl ?_
  refine x_bipush (pc' := 10) rfl rfl ?_
  refine x_icmp (a' := 77) (pc' := 13) (z := true) rfl rfl rfl (by decide) (fun _ => ?_) (fun h => by cases h)
  refine x_iload (pc' := 79) rfl rfl rfl ?_
  refine x_reti rfl rfl ?_
  refine sK_i (pc' := 35) rfl ?_
  refine x_istore (pc' := 37) (ls' := [_, _, _, _, _]) rfl rfl rfl rfl ?_
  refine x_iload (pc' := 39) rfl rfl rfl ?_
  refine x_iload_n (pc' := 40) rfl rfl rfl ?_
  refine x_icmp (a' := 48) (pc' := 43) (z := true) rfl rfl rfl (by decide) (fun _ => ?_) (fun h => by cases h)
  refine x_iload_n (pc' := 49) rfl rfl rfl ?_
  refine x_istore_n (pc' := 50) (ls' := [_, _, _, _, _]) rfl rfl rfl rfl ?_
  refine x_iinc (pc' := 53) (y := 7) (ls' := [_, _, _, _, _]) rfl rfl rfl rfl rfl ?_
  refine x_goto (pc' := 4) rfl rfl ?_
  refine x_iload_n (pc' := 5) rfl rfl rfl ?_
  refine x_bipush (pc' := 7) rfl rfl ?_
  refine x_icmp (a' := 56) (pc' := 10) (z := false) rfl rfl rfl (by decide) (fun h => by cases h) (fun _ => ?_)
  refine x_aload_n (pc' := 11) rfl rfl rfl rfl rfl ?_
  refine x_aload_n (pc' := 12) rfl rfl rfl rfl rfl ?_
  refine x_iload_n (pc' := 13) rfl rfl rfl ?_
  refine x_iconst (pc' := 14) rfl rfl ?_
  refine x_iload_n (pc' := 15) rfl rfl rfl ?_
  refine x_cv (ls0 := [_, _, _, _, sJk, sJk]) (rest := [_]) rfl rfl rfl rfl rfl ?_
  refine x_iload_n (pc' := 1) rfl rfl rfl ?_
  refine x_iload_n (pc' := 2) rfl rfl rfl ?_
  refine x_ishr (pc' := 3) (z := 7) rfl rfl (by decide) ?_
  refine x_iconst (pc' := 4) rfl rfl ?_
  refine x_iand (pc' := 5) (z := 1) rfl rfl (by decide) ?_
  refine x_iconst (pc' := 6) rfl rfl ?_
  refine x_icmp (a' := 13) (pc' := 9) (z := false) rfl rfl rfl (by decide) (fun h => by cases h) (fun _ => ?_)
  refine x_iconst (pc' := 10) rfl rfl ?_
  refine x_goto (pc' := 14) rfl rfl ?_
  refine x_istore (pc' := 16) (ls' := [_, _, _, _, _, _]) rfl rfl rfl rfl ?_
  refine x_aload_n (pc' := 17) rfl rfl rfl rfl rfl ?_
  refine x_iload_n (pc' := 18) rfl rfl rfl ?_
  refine x_iload_n (pc' := 19) rfl rfl rfl ?_
  refine x_iload (pc' := 21) rfl rfl rfl ?_
  refine x_cv (ls0 := [_, _, _, _, sJk, sJk, sJk, sJk, sJk]) (rest := []) rfl rfl rfl rfl rfl ?_
  refine x_iconst (pc' := 1) rfl rfl ?_
  refine x_istore (pc' := 3) (ls' := [_, _, _, _, _, _, _, _, _]) rfl rfl rfl rfl ?_
  refine x_iconst (pc' := 4) rfl rfl ?_
  refine x_istore (pc' := 6) (ls' := [_, _, _, _, _, _, _, _, _]) rfl rfl rfl rfl ?_
  refine x_iload (pc' := 8) rfl rfl rfl ?_
  refine x_aload_n (pc' := 9) rfl rfl rfl rfl rfl ?_
  refine x_gI (pc' := 12) (x := 0) rfl rfl rfl (Eq.trans (rdI_F rfl) (Eq.trans rdIL (Eq.trans rdInwa (z_I_786_0 e)))) ?_
  refine x_icmp (a' := 190) (pc' := 15) (z := true) rfl rfl rfl (by decide) (fun _ => ?_) (fun h => by cases h)
  refine x_iload (pc' := 192) rfl rfl rfl ?_
  refine x_reti rfl rfl ?_
  refine sK_i (pc' := 24) rfl ?_
  refine x_istore (pc' := 26) (ls' := [_, _, _, _, _, _]) rfl rfl rfl rfl ?_
  refine x_aload_n (pc' := 27) rfl rfl rfl rfl rfl ?_
  refine x_gR (pc' := 30) (r := (some 6)) rfl rfl rfl (Eq.trans rdRI (Eq.trans rdRL (Eq.trans rdRnwa (z_R_776_0 e)))) ?_
  refine x_iconst (pc' := 31) rfl rfl ?_
  refine x_iload_n (pc' := 32) rfl rfl rfl ?_
  refine x_imul (pc' := 33) (z := (io (3 * m))) rfl rfl (io_mul 3 m) ?_
  refine x_iload_n (pc' := 34) rfl rfl rfl ?_
  refine x_iadd (pc' := 35) (z := (io ((3 * m) + 0))) rfl rfl (io_add (3 * m) 0) ?_
  refine x_iald (pc' := 36) (N := 18) (x := 0) rfl rfl rfl (Eq.trans (b := sN t _ _) rfl (z_N_21_6 e)) (io_in (p := ((3 * m) + 0)) (N := 18) (show ((3 * m) + 0) < 18 by omega) (by decide)) (Eq.trans (congrArg (sA (sIw (sLw (sNwA t 20 6) 23 0 0 (0 : Int64)) 768 0 0) 21 6) (nn_io (p := ((3 * m) + 0)) (Nat.lt_trans (show ((3 * m) + 0) < 18 by omega) (by decide)))) (Eq.trans rdAI (Eq.trans rdAL (Eq.trans rdAnwa (z_A_21_6_y e _))))) ?_
  refine x_iload (pc' := 38) rfl rfl rfl ?_
  refine x_if (a' := 46) (pc' := 41) (z := false) rfl rfl rfl (by decide) (fun h => by cases h) (fun _ => ?_)
  refine x_iload (pc' := 43) rfl rfl rfl ?_
  refine x_goto (pc' := 49) rfl rfl ?_
  refine x_iadd (pc' := 50) (z := 0) rfl rfl (by decide) ?_
  refine x_reti rfl rfl ?_
  refine sK_i (pc' := 18) rfl ?_
  refine x_aload_n (pc' := 19) rfl rfl rfl rfl rfl ?_
  refine x_iload_n (pc' := 20) rfl rfl rfl ?_
  refine x_iconst (pc' := 21) rfl rfl ?_
  refine x_iload_n (pc' := 22) rfl rfl rfl ?_
  refine x_cv (ls0 := [_, _, _, _, sJk, sJk]) (rest := [_, _]) rfl rfl rfl rfl rfl ?_
  refine x_iload_n (pc' := 1) rfl rfl rfl ?_
  refine x_iload_n (pc' := 2) rfl rfl rfl ?_
  refine x_ishr (pc' := 3) (z := 3) rfl rfl (by decide) ?_
  refine x_iconst (pc' := 4) rfl rfl ?_
  refine x_iand (pc' := 5) (z := 1) rfl rfl (by decide) ?_
  refine x_iconst (pc' := 6) rfl rfl ?_
  refine x_icmp (a' := 13) (pc' := 9) (z := false) rfl rfl rfl (by decide) (fun h => by cases h) (fun _ => ?_)
  refine x_iconst (pc' := 10) rfl rfl ?_
  refine x_goto (pc' := 14) rfl rfl ?_
  refine x_istore (pc' := 16) (ls' := [_, _, _, _, _, _]) rfl rfl rfl rfl ?_
  refine x_aload_n (pc' := 17) rfl rfl rfl rfl rfl ?_
  refine x_iload_n (pc' := 18) rfl rfl rfl ?_
  refine x_iload_n (pc' := 19) rfl rfl rfl ?_
  refine x_iload (pc' := 21) rfl rfl rfl ?_
  refine x_cv (ls0 := [_, _, _, _, sJk, sJk, sJk, sJk, sJk]) (rest := []) rfl rfl rfl rfl rfl ?_
  refine x_iconst (pc' := 1) rfl rfl ?_
  refine x_istore (pc' := 3) (ls' := [_, _, _, _, _, _, _, _, _]) rfl rfl rfl rfl ?_
  refine x_iconst (pc' := 4) rfl rfl ?_
  refine x_istore (pc' := 6) (ls' := [_, _, _, _, _, _, _, _, _]) rfl rfl rfl rfl ?_
  refine x_iload (pc' := 8) rfl rfl rfl ?_
  refine x_aload_n (pc' := 9) rfl rfl rfl rfl rfl ?_
  refine x_gI (pc' := 12) (x := 0) rfl rfl rfl (Eq.trans (rdI_F rfl) (Eq.trans rdIL (Eq.trans rdInwa (z_I_786_0 e)))) ?_
  refine x_icmp (a' := 190) (pc' := 15) (z := true) rfl rfl rfl (by decide) (fun _ => ?_) (fun h => by cases h)
  refine x_iload (pc' := 192) rfl rfl rfl ?_
  refine x_reti rfl rfl ?_
  refine sK_i (pc' := 24) rfl ?_
  refine x_istore (pc' := 26) (ls' := [_, _, _, _, _, _]) rfl rfl rfl rfl ?_
  refine x_aload_n (pc' := 27) rfl rfl rfl rfl rfl ?_
  refine x_gR (pc' := 30) (r := (some 6)) rfl rfl rfl (Eq.trans rdRI (Eq.trans rdRL (Eq.trans rdRnwa (z_R_776_0 e)))) ?_
  refine x_iconst (pc' := 31) rfl rfl ?_
  refine x_iload_n (pc' := 32) rfl rfl rfl ?_
  refine x_imul (pc' := 33) (z := (io (3 * m))) rfl rfl (io_mul 3 m) ?_
  refine x_iload_n (pc' := 34) rfl rfl rfl ?_
  refine x_iadd (pc' := 35) (z := (io ((3 * m) + 1))) rfl rfl (io_add (3 * m) 1) ?_
  refine x_iald (pc' := 36) (N := 18) (x := 0) rfl rfl rfl (Eq.trans (b := sN t _ _) rfl (z_N_21_6 e)) (io_in (p := ((3 * m) + 1)) (N := 18) (show ((3 * m) + 1) < 18 by omega) (by decide)) (Eq.trans (congrArg (sA (sIw (sLw (sNwA t 20 6) 23 0 0 (0 : Int64)) 768 0 0) 21 6) (nn_io (p := ((3 * m) + 1)) (Nat.lt_trans (show ((3 * m) + 1) < 18 by omega) (by decide)))) (Eq.trans rdAI (Eq.trans rdAL (Eq.trans rdAnwa (z_A_21_6_y e _))))) ?_
  refine x_iload (pc' := 38) rfl rfl rfl ?_
  refine x_if (a' := 46) (pc' := 41) (z := false) rfl rfl rfl (by decide) (fun h => by cases h) (fun _ => ?_)
  refine x_iload (pc' := 43) rfl rfl rfl ?_
  refine x_goto (pc' := 49) rfl rfl ?_
  refine x_iadd (pc' := 50) (z := 0) rfl rfl (by decide) ?_
  refine x_reti rfl rfl ?_
  refine sK_i (pc' := 25) rfl ?_
  refine x_aload_n (pc' := 26) rfl rfl rfl rfl rfl ?_
  refine x_iload_n (pc' := 27) rfl rfl rfl ?_
  refine x_iconst (pc' := 28) rfl rfl ?_
  refine x_iload_n (pc' := 29) rfl rfl rfl ?_
  refine x_cv (ls0 := [_, _, _, _, sJk, sJk]) (rest := [_, _, _]) rfl rfl rfl rfl rfl ?_
  refine x_iload_n (pc' := 1) rfl rfl rfl ?_
  refine x_iload_n (pc' := 2) rfl rfl rfl ?_
  refine x_ishr (pc' := 3) (z := 1) rfl rfl (by decide) ?_
  refine x_iconst (pc' := 4) rfl rfl ?_
  refine x_iand (pc' := 5) (z := 1) rfl rfl (by decide) ?_
  refine x_iconst (pc' := 6) rfl rfl ?_
  refine x_icmp (a' := 13) (pc' := 9) (z := false) rfl rfl rfl (by decide) (fun h => by cases h) (fun _ => ?_)
  refine x_iconst (pc' := 10) rfl rfl ?_
  refine x_goto (pc' := 14) rfl rfl ?_
  refine x_istore (pc' := 16) (ls' := [_, _, _, _, _, _]) rfl rfl rfl rfl ?_
  refine x_aload_n (pc' := 17) rfl rfl rfl rfl rfl ?_
  refine x_iload_n (pc' := 18) rfl rfl rfl ?_
  refine x_iload_n (pc' := 19) rfl rfl rfl ?_
  refine x_iload (pc' := 21) rfl rfl rfl ?_
  refine x_cv (ls0 := [_, _, _, _, sJk, sJk, sJk, sJk, sJk]) (rest := []) rfl rfl rfl rfl rfl ?_
  refine x_iconst (pc' := 1) rfl rfl ?_
  refine x_istore (pc' := 3) (ls' := [_, _, _, _, _, _, _, _, _]) rfl rfl rfl rfl ?_
  refine x_iconst (pc' := 4) rfl rfl ?_
  refine x_istore (pc' := 6) (ls' := [_, _, _, _, _, _, _, _, _]) rfl rfl rfl rfl ?_
  refine x_iload (pc' := 8) rfl rfl rfl ?_
  refine x_aload_n (pc' := 9) rfl rfl rfl rfl rfl ?_
  refine x_gI (pc' := 12) (x := 0) rfl rfl rfl (Eq.trans (rdI_F rfl) (Eq.trans rdIL (Eq.trans rdInwa (z_I_786_0 e)))) ?_
  refine x_icmp (a' := 190) (pc' := 15) (z := true) rfl rfl rfl (by decide) (fun _ => ?_) (fun h => by cases h)
  refine x_iload (pc' := 192) rfl rfl rfl ?_
  refine x_reti rfl rfl ?_
  refine sK_i (pc' := 24) rfl ?_
  refine x_istore (pc' := 26) (ls' := [_, _, _, _, _, _]) rfl rfl rfl rfl ?_
  refine x_aload_n (pc' := 27) rfl rfl rfl rfl rfl ?_
  refine x_gR (pc' := 30) (r := (some 6)) rfl rfl rfl (Eq.trans rdRI (Eq.trans rdRL (Eq.trans rdRnwa (z_R_776_0 e)))) ?_
  refine x_iconst (pc' := 31) rfl rfl ?_
  refine x_iload_n (pc' := 32) rfl rfl rfl ?_
  refine x_imul (pc' := 33) (z := (io (3 * m))) rfl rfl (io_mul 3 m) ?_
  refine x_iload_n (pc' := 34) rfl rfl rfl ?_
  refine x_iadd (pc' := 35) (z := (io ((3 * m) + 2))) rfl rfl (io_add (3 * m) 2) ?_
  refine x_iald (pc' := 36) (N := 18) (x := 0) rfl rfl rfl (Eq.trans (b := sN t _ _) rfl (z_N_21_6 e)) (io_in (p := ((3 * m) + 2)) (N := 18) (show ((3 * m) + 2) < 18 by omega) (by decide)) (Eq.trans (congrArg (sA (sIw (sLw (sNwA t 20 6) 23 0 0 (0 : Int64)) 768 0 0) 21 6) (nn_io (p := ((3 * m) + 2)) (Nat.lt_trans (show ((3 * m) + 2) < 18 by omega) (by decide)))) (Eq.trans rdAI (Eq.trans rdAL (Eq.trans rdAnwa (z_A_21_6_y e _))))) ?_
  refine x_iload (pc' := 38) rfl rfl rfl ?_
  refine x_if (a' := 46) (pc' := 41) (z := false) rfl rfl rfl (by decide) (fun h => by cases h) (fun _ => ?_)
  refine x_iload (pc' := 43) rfl rfl rfl ?_
  refine x_goto (pc' := 49) rfl rfl ?_
  refine x_iadd (pc' := 50) (z := 0) rfl rfl (by decide) ?_
  refine x_reti rfl rfl ?_
  refine sK_i (pc' := 32) rfl ?_
  refine x_cv (ls0 := [_, _, _, _, sJk, sJk, sJk]) (rest := []) rfl rfl rfl rfl rfl ?_
  refine x_iconst (pc' := 1) rfl rfl ?_
  refine x_istore (pc' := 3) (ls' := [_, _, _, _, _, _, _]) rfl rfl rfl rfl ?_
  refine x_iconst (pc' := 4) rfl rfl ?_
  refine x_istore (pc' := 6) (ls' := [_, _, _, _, _, _, _]) rfl rfl rfl rfl ?_
  refine x_iload (pc' := 8) rfl rfl rfl ?_
  refine x_bipush (pc' := 10) rfl rfl ?_
  refine x_icmp (a' := 77) (pc' := 13) (z := false) rfl rfl rfl (by decide) (fun h => by cases h) (fun _ => ?_)
  refine x_iload_n (pc' := 14) rfl rfl rfl ?_
  refine x_aload_n (pc' := 15) rfl rfl rfl rfl rfl ?_
  refine x_gR (pc' := 18) (r := (some 11)) rfl rfl rfl (Eq.trans rdRI (Eq.trans rdRL (Eq.trans rdRnwa (z_R_783_0 e)))) ?_
  refine x_iconst (pc' := 19) rfl rfl ?_
  refine x_iload (pc' := 21) rfl rfl rfl ?_
  refine x_imul (pc' := 22) (z := 0) rfl rfl (by decide) ?_
  refine x_iald (pc' := 23) (N := 18) (x := 0) rfl rfl rfl (Eq.trans (b := sN t _ _) rfl (z_N_21_11 e)) (io_in (p := 0) (N := 18) (by decide) (by decide)) (Eq.trans (congrArg (sA (sIw (sLw (sNwA t 20 6) 23 0 0 (0 : Int64)) 768 0 0) 21 11) (nn_io (p := 0) (by decide))) (Eq.trans rdAI (Eq.trans rdAL (Eq.trans rdAnwa (z_A_21_11_0 e))))) ?_
  refine x_imul (pc' := 24) (z := 0) rfl rfl (by decide) ?_
  refine x_iload_n (pc' := 25) rfl rfl rfl ?_
  refine x_aload_n (pc' := 26) rfl rfl rfl rfl rfl ?_
  refine x_gR (pc' := 29) (r := (some 11)) rfl rfl rfl (Eq.trans rdRI (Eq.trans rdRL (Eq.trans rdRnwa (z_R_783_0 e)))) ?_
  refine x_iconst (pc' := 30) rfl rfl ?_
  refine x_iload (pc' := 32) rfl rfl rfl ?_
  refine x_imul (pc' := 33) (z := 0) rfl rfl (by decide) ?_
  refine x_iconst (pc' := 34) rfl rfl ?_
  refine x_iadd (pc' := 35) (z := 1) rfl rfl (by decide) ?_
  refine x_iald (pc' := 36) (N := 18) (x := 0) rfl rfl rfl (Eq.trans (b := sN t _ _) rfl (z_N_21_11 e)) (io_in (p := 1) (N := 18) (by decide) (by decide)) (Eq.trans (congrArg (sA (sIw (sLw (sNwA t 20 6) 23 0 0 (0 : Int64)) 768 0 0) 21 11) (nn_io (p := 1) (by decide))) (Eq.trans rdAI (Eq.trans rdAL (Eq.trans rdAnwa (z_A_21_11_1 e))))) ?_
  refine x_imul (pc' := 37) (z := 0) rfl rfl (by decide) ?_
  refine x_iadd (pc' := 38) (z := 0) rfl rfl (by decide) ?_
  refine x_iload_n (pc' := 39) rfl rfl rfl ?_
  refine x_aload_n (pc' := 40) rfl rfl rfl rfl rfl ?_
  refine x_gR (pc' := 43) (r := (some 11)) rfl rfl rfl (Eq.trans rdRI (Eq.trans rdRL (Eq.trans rdRnwa (z_R_783_0 e)))) ?_
  refine x_iconst (pc' := 44) rfl rfl ?_
  refine x_iload (pc' := 46) rfl rfl rfl ?_
  refine x_imul (pc' := 47) (z := 0) rfl rfl (by decide) ?_
  refine x_iconst (pc' := 48) rfl rfl ?_
  refine x_iadd (pc' := 49) (z := 2) rfl rfl (by decide) ?_
  refine x_iald (pc' := 50) (N := 18) (x := 0) rfl rfl rfl (Eq.trans (b := sN t _ _) rfl (z_N_21_11 e)) (io_in (p := 2) (N := 18) (by decide) (by decide)) (Eq.trans (congrArg (sA (sIw (sLw (sNwA t 20 6) 23 0 0 (0 : Int64)) 768 0 0) 21 11) (nn_io (p := 2) (by decide))) (Eq.trans rdAI (Eq.trans rdAL (Eq.trans rdAnwa (z_A_21_11_2 e))))) ?_
  refine x_imul (pc' := 51) (z := 0) rfl rfl (by decide) ?_
  refine x_iadd (pc' := 52) (z := 0) rfl rfl (by decide) ?_
  refine x_ineg (pc' := 53) (z := 0) rfl rfl (by decide) ?_
  refine x_istore (pc' := 55) (ls' := [_, _, _, _, _, _, _]) rfl rfl rfl rfl ?_
  refine x_iload (pc' := 57) rfl rfl rfl ?_
  refine x_iload (pc' := 59) rfl rfl rfl ?_
  refine x_icmp (a' := 67) (pc' := 62) (z := true) rfl rfl rfl (by decide) (fun _ => ?_) (fun h => by cases h)
  refine x_iload (pc' := 69) rfl rfl rfl ?_
  refine x_istore (pc' := 71) (ls' := [_, _, _, _, _, _, _]) rfl rfl rfl rfl ?_
  refine x_iinc (pc' := 74) (y := 1) (ls' := [_, _, _, _, _, _, _]) rfl rfl rfl rfl rfl ?_
  refine x_goto (pc' := 6) rfl rfl ?_
  refine x_iload (pc' := 8) rfl rfl rfl ?_
  refine x_bipush (pc' := 10) rfl rfl ?_
  refine x_icmp (a' := 77) (pc' := 13) (z := false) rfl rfl rfl (by decide) (fun h => by cases h) (fun _ => ?_)
  refine x_iload_n (pc' := 14) rfl rfl rfl ?_
  refine x_aload_n (pc' := 15) rfl rfl rfl rfl rfl ?_
  refine x_gR (pc' := 18) (r := (some 11)) rfl rfl rfl (Eq.trans rdRI (Eq.trans rdRL (Eq.trans rdRnwa (z_R_783_0 e)))) ?_
  refine x_iconst (pc' := 19) rfl rfl ?_
  refine x_iload (pc' := 21) rfl rfl rfl ?_
  refine x_imul (pc' := 22) (z := 3) rfl rfl (by decide) ?_
  refine x_iald (pc' := 23) (N := 18) (x := 0) rfl rfl rfl (Eq.trans (b := sN t _ _) rfl (z_N_21_11 e)) (io_in (p := 3) (N := 18) (by decide) (by decide)) (Eq.trans (congrArg (sA (sIw (sLw (sNwA t 20 6) 23 0 0 (0 : Int64)) 768 0 0) 21 11) (nn_io (p := 3) (by decide))) (Eq.trans rdAI (Eq.trans rdAL (Eq.trans rdAnwa (z_A_21_11_3 e))))) ?_
  refine x_imul (pc' := 24) (z := 0) rfl rfl (by decide) ?_
  refine x_iload_n (pc' := 25) rfl rfl rfl ?_
  refine x_aload_n (pc' := 26) rfl rfl rfl rfl rfl ?_
  refine x_gR (pc' := 29) (r := (some 11)) rfl rfl rfl (Eq.trans rdRI (Eq.trans rdRL (Eq.trans rdRnwa (z_R_783_0 e)))) ?_
  refine x_iconst (pc' := 30) rfl rfl ?_
  refine x_iload (pc' := 32) rfl rfl rfl ?_
  refine x_imul (pc' := 33) (z := 3) rfl rfl (by decide) ?_
  refine x_iconst (pc' := 34) rfl rfl ?_
  refine x_iadd (pc' := 35) (z := 4) rfl rfl (by decide) ?_
  refine x_iald (pc' := 36) (N := 18) (x := 0) rfl rfl rfl (Eq.trans (b := sN t _ _) rfl (z_N_21_11 e)) (io_in (p := 4) (N := 18) (by decide) (by decide)) (Eq.trans (congrArg (sA (sIw (sLw (sNwA t 20 6) 23 0 0 (0 : Int64)) 768 0 0) 21 11) (nn_io (p := 4) (by decide))) (Eq.trans rdAI (Eq.trans rdAL (Eq.trans rdAnwa (z_A_21_11_4 e))))) ?_
  refine x_imul (pc' := 37) (z := 0) rfl rfl (by decide) ?_
  refine x_iadd (pc' := 38) (z := 0) rfl rfl (by decide) ?_
  refine x_iload_n (pc' := 39) rfl rfl rfl ?_
  refine x_aload_n (pc' := 40) rfl rfl rfl rfl rfl ?_
  refine x_gR (pc' := 43) (r := (some 11)) rfl rfl rfl (Eq.trans rdRI (Eq.trans rdRL (Eq.trans rdRnwa (z_R_783_0 e)))) ?_
  refine x_iconst (pc' := 44) rfl rfl ?_
  refine x_iload (pc' := 46) rfl rfl rfl ?_
  refine x_imul (pc' := 47) (z := 3) rfl rfl (by decide) ?_
  refine x_iconst (pc' := 48) rfl rfl ?_
  refine x_iadd (pc' := 49) (z := 5) rfl rfl (by decide) ?_
  refine x_iald (pc' := 50) (N := 18) (x := 0) rfl rfl rfl (Eq.trans (b := sN t _ _) rfl (z_N_21_11 e)) (io_in (p := 5) (N := 18) (by decide) (by decide)) (Eq.trans (congrArg (sA (sIw (sLw (sNwA t 20 6) 23 0 0 (0 : Int64)) 768 0 0) 21 11) (nn_io (p := 5) (by decide))) (Eq.trans rdAI (Eq.trans rdAL (Eq.trans rdAnwa (z_A_21_11_5 e))))) ?_
  refine x_imul (pc' := 51) (z := 0) rfl rfl (by decide) ?_
  refine x_iadd (pc' := 52) (z := 0) rfl rfl (by decide) ?_
  refine x_ineg (pc' := 53) (z := 0) rfl rfl (by decide) ?_
  refine x_istore (pc' := 55) (ls' := [_, _, _, _, _, _, _]) rfl rfl rfl rfl ?_
  refine x_iload (pc' := 57) rfl rfl rfl ?_
  refine x_iload (pc' := 59) rfl rfl rfl ?_
  refine x_icmp (a' := 67) (pc' := 62) (z := true) rfl rfl rfl (by decide) (fun _ => ?_) (fun h => by cases h)
  refine x_iload (pc' := 69) rfl rfl rfl ?_
  refine x_istore (pc' := 71) (ls' := [_, _, _, _, _, _, _]) rfl rfl rfl rfl ?_
  refine x_iinc (pc' := 74) (y := 2) (ls' := [_, _, _, _, _, _, _]) rfl rfl rfl rfl rfl ?_
  refine x_goto (pc' := 6) rfl rfl ?_
  refine x_iload (pc' := 8) rfl rfl rfl ?_
  refine x_bipush (pc' := 10) rfl rfl ?_
  refine x_icmp (a' := 77) (pc' := 13) (z := false) rfl rfl rfl (by decide) (fun h => by cases h) (fun _ => ?_)
  refine x_iload_n (pc' := 14) rfl rfl rfl ?_
  refine x_aload_n (pc' := 15) rfl rfl rfl rfl rfl ?_
  refine x_gR (pc' := 18) (r := (some 11)) rfl rfl rfl (Eq.trans rdRI (Eq.trans rdRL (Eq.trans rdRnwa (z_R_783_0 e)))) ?_
  refine x_iconst (pc' := 19) rfl rfl ?_
  refine x_iload (pc' := 21) rfl rfl rfl ?_
  refine x_imul (pc' := 22) (z := 6) rfl rfl (by decide) ?_
  refine x_iald (pc' := 23) (N := 18) (x := 0) rfl rfl rfl (Eq.trans (b := sN t _ _) rfl (z_N_21_11 e)) (io_in (p := 6) (N := 18) (by decide) (by decide)) (Eq.trans (congrArg (sA (sIw (sLw (sNwA t 20 6) 23 0 0 (0 : Int64)) 768 0 0) 21 11) (nn_io (p := 6) (by decide))) (Eq.trans rdAI (Eq.trans rdAL (Eq.trans rdAnwa (z_A_21_11_6 e))))) ?_
  refine x_imul (pc' := 24) (z := 0) rfl rfl (by decide) ?_
  refine x_iload_n (pc' := 25) rfl rfl rfl ?_
  refine x_aload_n (pc' := 26) rfl rfl rfl rfl rfl ?_
  refine x_gR (pc' := 29) (r := (some 11)) rfl rfl rfl (Eq.trans rdRI (Eq.trans rdRL (Eq.trans rdRnwa (z_R_783_0 e)))) ?_
  refine x_iconst (pc' := 30) rfl rfl ?_
  refine x_iload (pc' := 32) rfl rfl rfl ?_
  refine x_imul (pc' := 33) (z := 6) rfl rfl (by decide) ?_
  refine x_iconst (pc' := 34) rfl rfl ?_
  refine x_iadd (pc' := 35) (z := 7) rfl rfl (by decide) ?_
  refine x_iald (pc' := 36) (N := 18) (x := 0) rfl rfl rfl (Eq.trans (b := sN t _ _) rfl (z_N_21_11 e)) (io_in (p := 7) (N := 18) (by decide) (by decide)) (Eq.trans (congrArg (sA (sIw (sLw (sNwA t 20 6) 23 0 0 (0 : Int64)) 768 0 0) 21 11) (nn_io (p := 7) (by decide))) (Eq.trans rdAI (Eq.trans rdAL (Eq.trans rdAnwa (z_A_21_11_7 e))))) ?_
  refine x_imul (pc' := 37) (z := 0) rfl rfl (by decide) ?_
  refine x_iadd (pc' := 38) (z := 0) rfl rfl (by decide) ?_
  refine x_iload_n (pc' := 39) rfl rfl rfl ?_
  refine x_aload_n (pc' := 40) rfl rfl rfl rfl rfl ?_
  refine x_gR (pc' := 43) (r := (some 11)) rfl rfl rfl (Eq.trans rdRI (Eq.trans rdRL (Eq.trans rdRnwa (z_R_783_0 e)))) ?_
  refine x_iconst (pc' := 44) rfl rfl ?_
  refine x_iload (pc' := 46) rfl rfl rfl ?_
  refine x_imul (pc' := 47) (z := 6) rfl rfl (by decide) ?_
  refine x_iconst (pc' := 48) rfl rfl ?_
  refine x_iadd (pc' := 49) (z := 8) rfl rfl (by decide) ?_
  refine x_iald (pc' := 50) (N := 18) (x := 0) rfl rfl rfl (Eq.trans (b := sN t _ _) rfl (z_N_21_11 e)) (io_in (p := 8) (N := 18) (by decide) (by decide)) (Eq.trans (congrArg (sA (sIw (sLw (sNwA t 20 6) 23 0 0 (0 : Int64)) 768 0 0) 21 11) (nn_io (p := 8) (by decide))) (Eq.trans rdAI (Eq.trans rdAL (Eq.trans rdAnwa (z_A_21_11_8 e))))) ?_
  refine x_imul (pc' := 51) (z := 0) rfl rfl (by decide) ?_
  refine x_iadd (pc' := 52) (z := 0) rfl rfl (by decide) ?_
  refine x_ineg (pc' := 53) (z := 0) rfl rfl (by decide) ?_
  refine x_istore (pc' := 55) (ls' := [_, _, _, _, _, _, _]) rfl rfl rfl rfl ?_
  refine x_iload (pc' := 57) rfl rfl rfl ?_
  refine x_iload (pc' := 59) rfl rfl rfl ?_
  refine x_icmp (a' := 67) (pc' := 62) (z := true) rfl rfl rfl (by decide) (fun _ => ?_) (fun h => by cases h)
  refine x_iload (pc' := 69) rfl rfl rfl ?_
  refine x_istore (pc' := 71) (ls' := [_, _, _, _, _, _, _]) rfl rfl rfl rfl ?_
  refine x_iinc (pc' := 74) (y := 3) (ls' := [_, _, _, _, _, _, _]) rfl rfl rfl rfl rfl ?_
  refine x_goto (pc' := 6) rfl rfl ?_
  refine x_iload (pc' := 8) rfl rfl rfl ?_
  refine x_bipush (pc' := 10) rfl rfl ?_
  refine x_icmp (a' := 77) (pc' := 13) (z := false) rfl rfl rfl (by decide) (fun h => by cases h) (fun _ => ?_)
  refine x_iload_n (pc' := 14) rfl rfl rfl ?_
  refine x_aload_n (pc' := 15) rfl rfl rfl rfl rfl ?_
  refine x_gR (pc' := 18) (r := (some 11)) rfl rfl rfl (Eq.trans rdRI (Eq.trans rdRL (Eq.trans rdRnwa (z_R_783_0 e)))) ?_
  refine x_iconst (pc' := 19) rfl rfl ?_
  refine x_iload (pc' := 21) rfl rfl rfl ?_
  refine x_imul (pc' := 22) (z := 9) rfl rfl (by decide) ?_
  refine x_iald (pc' := 23) (N := 18) (x := 0) rfl rfl rfl (Eq.trans (b := sN t _ _) rfl (z_N_21_11 e)) (io_in (p := 9) (N := 18) (by decide) (by decide)) (Eq.trans (congrArg (sA (sIw (sLw (sNwA t 20 6) 23 0 0 (0 : Int64)) 768 0 0) 21 11) (nn_io (p := 9) (by decide))) (Eq.trans rdAI (Eq.trans rdAL (Eq.trans rdAnwa (z_A_21_11_9 e))))) ?_
  refine x_imul (pc' := 24) (z := 0) rfl rfl (by decide) ?_
  refine x_iload_n (pc' := 25) rfl rfl rfl ?_
  refine x_aload_n (pc' := 26) rfl rfl rfl rfl rfl ?_
  refine x_gR (pc' := 29) (r := (some 11)) rfl rfl rfl (Eq.trans rdRI (Eq.trans rdRL (Eq.trans rdRnwa (z_R_783_0 e)))) ?_
  refine x_iconst (pc' := 30) rfl rfl ?_
  refine x_iload (pc' := 32) rfl rfl rfl ?_
  refine x_imul (pc' := 33) (z := 9) rfl rfl (by decide) ?_
  refine x_iconst (pc' := 34) rfl rfl ?_
  refine x_iadd (pc' := 35) (z := 10) rfl rfl (by decide) ?_
  refine x_iald (pc' := 36) (N := 18) (x := 0) rfl rfl rfl (Eq.trans (b := sN t _ _) rfl (z_N_21_11 e)) (io_in (p := 10) (N := 18) (by decide) (by decide)) (Eq.trans (congrArg (sA (sIw (sLw (sNwA t 20 6) 23 0 0 (0 : Int64)) 768 0 0) 21 11) (nn_io (p := 10) (by decide))) (Eq.trans rdAI (Eq.trans rdAL (Eq.trans rdAnwa (z_A_21_11_10 e))))) ?_
  refine x_imul (pc' := 37) (z := 0) rfl rfl (by decide) ?_
  refine x_iadd (pc' := 38) (z := 0) rfl rfl (by decide) ?_
  refine x_iload_n (pc' := 39) rfl rfl rfl ?_
  refine x_aload_n (pc' := 40) rfl rfl rfl rfl rfl ?_
  refine x_gR (pc' := 43) (r := (some 11)) rfl rfl rfl (Eq.trans rdRI (Eq.trans rdRL (Eq.trans rdRnwa (z_R_783_0 e)))) ?_
  refine x_iconst (pc' := 44) rfl rfl ?_
  refine x_iload (pc' := 46) rfl rfl rfl ?_
  refine x_imul (pc' := 47) (z := 9) rfl rfl (by decide) ?_
  refine x_iconst (pc' := 48) rfl rfl ?_
  refine x_iadd (pc' := 49) (z := 11) rfl rfl (by decide) ?_
  refine x_iald (pc' := 50) (N := 18) (x := 0) rfl rfl rfl (Eq.trans (b := sN t _ _) rfl (z_N_21_11 e)) (io_in (p := 11) (N := 18) (by decide) (by decide)) (Eq.trans (congrArg (sA (sIw (sLw (sNwA t 20 6) 23 0 0 (0 : Int64)) 768 0 0) 21 11) (nn_io (p := 11) (by decide))) (Eq.trans rdAI (Eq.trans rdAL (Eq.trans rdAnwa (z_A_21_11_11 e))))) ?_
  refine x_imul (pc' := 51) (z := 0) rfl rfl (by decide) ?_
  refine x_iadd (pc' := 52) (z := 0) rfl rfl (by decide) ?_
  refine x_ineg (pc' := 53) (z := 0) rfl rfl (by decide) ?_
  refine x_istore (pc' := 55) (ls' := [_, _, _, _, _, _, _]) rfl rfl rfl rfl ?_
  refine x_iload (pc' := 57) rfl rfl rfl ?_
  refine x_iload (pc' := 59) rfl rfl rfl ?_
  refine x_icmp (a' := 67) (pc' := 62) (z := true) rfl rfl rfl (by decide) (fun _ => ?_) (fun h => by cases h)
  refine x_iload (pc' := 69) rfl rfl rfl ?_
  refine x_istore (pc' := 71) (ls' := [_, _, _, _, _, _, _]) rfl rfl rfl rfl ?_
  refine x_iinc (pc' := 74) (y := 4) (ls' := [_, _, _, _, _, _, _]) rfl rfl rfl rfl rfl ?_
  refine x_goto (pc' := 6) rfl rfl ?_
  refine x_iload (pc' := 8) rfl rfl rfl ?_
  refine x_bipush (pc' := 10) rfl rfl ?_
  refine x_icmp (a' := 77) (pc' := 13) (z := false) rfl rfl rfl (by decide) (fun h => by cases h) (fun _ => ?_)
  refine x_iload_n (pc' := 14) rfl rfl rfl ?_
  refine x_aload_n (pc' := 15) rfl rfl rfl rfl rfl ?_
  refine x_gR (pc' := 18) (r := (some 11)) rfl rfl rfl (Eq.trans rdRI (Eq.trans rdRL (Eq.trans rdRnwa (z_R_783_0 e)))) ?_
  refine x_iconst (pc' := 19) rfl rfl ?_
  refine x_iload (pc' := 21) rfl rfl rfl ?_
  refine x_imul (pc' := 22) (z := 12) rfl rfl (by decide) ?_
  refine x_iald (pc' := 23) (N := 18) (x := 0) rfl rfl rfl (Eq.trans (b := sN t _ _) rfl (z_N_21_11 e)) (io_in (p := 12) (N := 18) (by decide) (by decide)) (Eq.trans (congrArg (sA (sIw (sLw (sNwA t 20 6) 23 0 0 (0 : Int64)) 768 0 0) 21 11) (nn_io (p := 12) (by decide))) (Eq.trans rdAI (Eq.trans rdAL (Eq.trans rdAnwa (z_A_21_11_12 e))))) ?_
  refine x_imul (pc' := 24) (z := 0) rfl rfl (by decide) ?_
  refine x_iload_n (pc' := 25) rfl rfl rfl ?_
  refine x_aload_n (pc' := 26) rfl rfl rfl rfl rfl ?_
  refine x_gR (pc' := 29) (r := (some 11)) rfl rfl rfl (Eq.trans rdRI (Eq.trans rdRL (Eq.trans rdRnwa (z_R_783_0 e)))) ?_
  refine x_iconst (pc' := 30) rfl rfl ?_
  refine x_iload (pc' := 32) rfl rfl rfl ?_
  refine x_imul (pc' := 33) (z := 12) rfl rfl (by decide) ?_
  refine x_iconst (pc' := 34) rfl rfl ?_
  refine x_iadd (pc' := 35) (z := 13) rfl rfl (by decide) ?_
  refine x_iald (pc' := 36) (N := 18) (x := 0) rfl rfl rfl (Eq.trans (b := sN t _ _) rfl (z_N_21_11 e)) (io_in (p := 13) (N := 18) (by decide) (by decide)) (Eq.trans (congrArg (sA (sIw (sLw (sNwA t 20 6) 23 0 0 (0 : Int64)) 768 0 0) 21 11) (nn_io (p := 13) (by decide))) (Eq.trans rdAI (Eq.trans rdAL (Eq.trans rdAnwa (z_A_21_11_13 e))))) ?_
  refine x_imul (pc' := 37) (z := 0) rfl rfl (by decide) ?_
  refine x_iadd (pc' := 38) (z := 0) rfl rfl (by decide) ?_
  refine x_iload_n (pc' := 39) rfl rfl rfl ?_
  refine x_aload_n (pc' := 40) rfl rfl rfl rfl rfl ?_
  refine x_gR (pc' := 43) (r := (some 11)) rfl rfl rfl (Eq.trans rdRI (Eq.trans rdRL (Eq.trans rdRnwa (z_R_783_0 e)))) ?_
  refine x_iconst (pc' := 44) rfl rfl ?_
  refine x_iload (pc' := 46) rfl rfl rfl ?_
  refine x_imul (pc' := 47) (z := 12) rfl rfl (by decide) ?_
  refine x_iconst (pc' := 48) rfl rfl ?_
  refine x_iadd (pc' := 49) (z := 14) rfl rfl (by decide) ?_
  refine x_iald (pc' := 50) (N := 18) (x := 0) rfl rfl rfl (Eq.trans (b := sN t _ _) rfl (z_N_21_11 e)) (io_in (p := 14) (N := 18) (by decide) (by decide)) (Eq.trans (congrArg (sA (sIw (sLw (sNwA t 20 6) 23 0 0 (0 : Int64)) 768 0 0) 21 11) (nn_io (p := 14) (by decide))) (Eq.trans rdAI (Eq.trans rdAL (Eq.trans rdAnwa (z_A_21_11_14 e))))) ?_
  refine x_imul (pc' := 51) (z := 0) rfl rfl (by decide) ?_
  refine x_iadd (pc' := 52) (z := 0) rfl rfl (by decide) ?_
  refine x_ineg (pc' := 53) (z := 0) rfl rfl (by decide) ?_
  refine x_istore (pc' := 55) (ls' := [_, _, _, _, _, _, _]) rfl rfl rfl rfl ?_
  refine x_iload (pc' := 57) rfl rfl rfl ?_
  refine x_iload (pc' := 59) rfl rfl rfl ?_
  refine x_icmp (a' := 67) (pc' := 62) (z := true) rfl rfl rfl (by decide) (fun _ => ?_) (fun h => by cases h)
  refine x_iload (pc' := 69) rfl rfl rfl ?_
  refine x_istore (pc' := 71) (ls' := [_, _, _, _, _, _, _]) rfl rfl rfl rfl ?_
  refine x_iinc (pc' := 74) (y := 5) (ls' := [_, _, _, _, _, _, _]) rfl rfl rfl rfl rfl ?_
  refine x_goto (pc' := 6) rfl rfl ?_
  refine x_iload (pc' := 8) rfl rfl rfl ?_
  refine x_bipush (pc' := 10) rfl rfl ?_
  refine x_icmp (a' := 77) (pc' := 13) (z := false) rfl rfl rfl (by decide) (fun h => by cases h) (fun _ => ?_)
  refine x_iload_n (pc' := 14) rfl rfl rfl ?_
  refine x_aload_n (pc' := 15) rfl rfl rfl rfl rfl ?_
  refine x_gR (pc' := 18) (r := (some 11)) rfl rfl rfl (Eq.trans rdRI (Eq.trans rdRL (Eq.trans rdRnwa (z_R_783_0 e)))) ?_
  refine x_iconst (pc' := 19) rfl rfl ?_
  refine x_iload (pc' := 21) rfl rfl rfl ?_
  refine x_imul (pc' := 22) (z := 15) rfl rfl (by decide) ?_
  refine x_iald (pc' := 23) (N := 18) (x := 0) rfl rfl rfl (Eq.trans (b := sN t _ _) rfl (z_N_21_11 e)) (io_in (p := 15) (N := 18) (by decide) (by decide)) (Eq.trans (congrArg (sA (sIw (sLw (sNwA t 20 6) 23 0 0 (0 : Int64)) 768 0 0) 21 11) (nn_io (p := 15) (by decide))) (Eq.trans rdAI (Eq.trans rdAL (Eq.trans rdAnwa (z_A_21_11_15 e))))) ?_
  refine x_imul (pc' := 24) (z := 0) rfl rfl (by decide) ?_
  refine x_iload_n (pc' := 25) rfl rfl rfl ?_
  refine x_aload_n (pc' := 26) rfl rfl rfl rfl rfl ?_
  refine x_gR (pc' := 29) (r := (some 11)) rfl rfl rfl (Eq.trans rdRI (Eq.trans rdRL (Eq.trans rdRnwa (z_R_783_0 e)))) ?_
  refine x_iconst (pc' := 30) rfl rfl ?_
  refine x_iload (pc' := 32) rfl rfl rfl ?_
  refine x_imul (pc' := 33) (z := 15) rfl rfl (by decide) ?_
  refine x_iconst (pc' := 34) rfl rfl ?_
  refine x_iadd (pc' := 35) (z := 16) rfl rfl (by decide) ?_
  refine x_iald (pc' := 36) (N := 18) (x := 0) rfl rfl rfl (Eq.trans (b := sN t _ _) rfl (z_N_21_11 e)) (io_in (p := 16) (N := 18) (by decide) (by decide)) (Eq.trans (congrArg (sA (sIw (sLw (sNwA t 20 6) 23 0 0 (0 : Int64)) 768 0 0) 21 11) (nn_io (p := 16) (by decide))) (Eq.trans rdAI (Eq.trans rdAL (Eq.trans rdAnwa (z_A_21_11_16 e))))) ?_
  refine x_imul (pc' := 37) (z := 0) rfl rfl (by decide) ?_
  refine x_iadd (pc' := 38) (z := 0) rfl rfl (by decide) ?_
  refine x_iload_n (pc' := 39) rfl rfl rfl ?_
  refine x_aload_n (pc' := 40) rfl rfl rfl rfl rfl ?_
  refine x_gR (pc' := 43) (r := (some 11)) rfl rfl rfl (Eq.trans rdRI (Eq.trans rdRL (Eq.trans rdRnwa (z_R_783_0 e)))) ?_
  refine x_iconst (pc' := 44) rfl rfl ?_
  refine x_iload (pc' := 46) rfl rfl rfl ?_
  refine x_imul (pc' := 47) (z := 15) rfl rfl (by decide) ?_
  refine x_iconst (pc' := 48) rfl rfl ?_
  refine x_iadd (pc' := 49) (z := 17) rfl rfl (by decide) ?_
  refine x_iald (pc' := 50) (N := 18) (x := 0) rfl rfl rfl (Eq.trans (b := sN t _ _) rfl (z_N_21_11 e)) (io_in (p := 17) (N := 18) (by decide) (by decide)) (Eq.trans (congrArg (sA (sIw (sLw (sNwA t 20 6) 23 0 0 (0 : Int64)) 768 0 0) 21 11) (nn_io (p := 17) (by decide))) (Eq.trans rdAI (Eq.trans rdAL (Eq.trans rdAnwa (z_A_21_11_17 e))))) ?_
  refine x_imul (pc' := 51) (z := 0) rfl rfl (by decide) ?_
  refine x_iadd (pc' := 52) (z := 0) rfl rfl (by decide) ?_
  refine x_ineg (pc' := 53) (z := 0) rfl rfl (by decide) ?_
  refine x_istore (pc' := 55) (ls' := [_, _, _, _, _, _, _]) rfl rfl rfl rfl ?_
  refine x_iload (pc' := 57) rfl rfl rfl ?_
  refine x_iload (pc' := 59) rfl rfl rfl ?_
  refine x_icmp (a' := 67) (pc' := 62) (z := true) rfl rfl rfl (by decide) (fun _ => ?_) (fun h => by cases h)
  refine x_iload (pc' := 69) rfl rfl rfl ?_
  refine x_istore (pc' := 71) (ls' := [_, _, _, _, _, _, _]) rfl rfl rfl rfl ?_
  refine x_iinc (pc' := 74) (y := 6) (ls' := [_, _, _, _, _, _, _]) rfl rfl rfl rfl rfl ?_
  refine x_goto (pc' := 6) rfl rfl ?_
  refine x_iload (pc' := 8) rfl rfl rfl ?_
  refine x_bipush (pc' := 10) rfl rfl ?_
  refine x_icmp (a' := 77) (pc' := 13) (z := true) rfl rfl rfl (by decide) (fun _ => ?_) (fun h => by cases h)
  refine x_iload (pc' := 79) rfl rfl rfl ?_
  refine x_reti rfl rfl ?_
  refine sK_i (pc' := 35) rfl ?_
  refine x_istore (pc' := 37) (ls' := [_, _, _, _, _]) rfl rfl rfl rfl ?_
  refine x_iload (pc' := 39) rfl rfl rfl ?_
  refine x_iload_n (pc' := 40) rfl rfl rfl ?_
  refine x_icmp (a' := 48) (pc' := 43) (z := true) rfl rfl rfl (by decide) (fun _ => ?_) (fun h => by cases h)
  refine x_iload_n (pc' := 49) rfl rfl rfl ?_
  refine x_istore_n (pc' := 50) (ls' := [_, _, _, _, _]) rfl rfl rfl rfl ?_
  refine x_iinc (pc' := 53) (y := 8) (ls' := [_, _, _, _, _]) rfl rfl rfl rfl rfl ?_
  refine x_goto (pc' := 4) rfl rfl ?_
  refine x_iload_n (pc' := 5) rfl rfl rfl ?_
  refine x_bipush (pc' := 7) rfl rfl ?_
  refine x_icmp (a' := 56) (pc' := 10) (z := true) rfl rfl rfl (by decide) (fun _ => ?_) (fun h => by cases h)
  refine x_iload_n (pc' := 57) rfl rfl rfl ?_
  refine x_reti rfl rfl ?_
  refine sK_i (pc' := 13) rfl ?_
  refine x_goto (pc' := 17) rfl rfl ?_
  refine x_reti rfl rfl ?_
  refine sK_i (pc' := 2760) rfl ?_
  refine x_istore (pc' := 2762) (ls' := [_, _, _, _, _, _, _]) rfl rfl rfl rfl ?_
  refine x_aload_n (pc' := 2763) rfl rfl rfl rfl rfl ?_
  refine x_cv (ls0 := [_]) (rest := []) rfl rfl rfl rfl rfl ?_
  refine x_aload_n (pc' := 1) rfl rfl rfl rfl rfl ?_
  refine x_gI (pc' := 4) (x := 0) rfl rfl rfl sI_s ?_
  refine x_reti rfl rfl ?_
  refine sK_i (pc' := 2766) rfl ?_
  refine x_iload (pc' := 2768) rfl rfl rfl ?_
  refine x_icmp (a' := 2773) (pc' := 2771) (z := true) rfl rfl rfl (by decide) (fun _ => ?_) (fun h => by cases h)
  refine x_iload (pc' := 2775) rfl rfl rfl ?_
  refine x_if (a' := 2790) (pc' := 2778) (z := false) rfl rfl rfl (by decide) (fun h => by cases h) (fun _ => ?_)
  refine x_aload_n (pc' := 2779) rfl rfl rfl rfl rfl ?_
  refine x_iconst (pc' := 2780) rfl rfl ?_
  refine x_lald (pc' := 2781) (N := 1) (x := (0 : Int64)) rfl rfl (Eq.trans (b := sN t _ _) rfl (z_N_23_0 e)) (io_in (p := 0) (N := 1) (by decide) (by decide)) (Eq.trans (congrArg (sL (sIw (sLw (sNwA t 20 6) 23 0 0 (0 : Int64)) 768 0 0) 23 0) (nn_io (p := 0) (by decide))) (Eq.trans rdLI sL_s)) ?_
  refine x_iload (pc' := 2783) rfl rfl rfl ?_
  refine x_i2l (pc' := 2784) (z := (0 : Int64)) rfl rfl (by decide) ?_
  refine x_lcmp (pc' := 2785) (z := 0) rfl rfl (sLcmp_s _) ?_
  refine x_if (a' := 2790) (pc' := 2788) (z := true) rfl rfl rfl (by decide) (fun _ => ?_) (fun h => by cases h)
  refine x_goto (pc' := 2938) rfl rfl ?_
  refine x_iinc (pc' := 2941) (y := 7) (ls' := [_, _, _, _, _, _, _]) rfl rfl rfl rfl rfl ?_
  refine x_goto (pc' := 23) rfl rfl ?_
  refine x_iload (pc' := 25) rfl rfl rfl ?_
  refine x_aload_n (pc' := 26) rfl rfl rfl rfl rfl ?_
  refine x_alen (pc' := 27) (N := 7) rfl rfl rfl (Eq.trans (b := sN t _ _) rfl (z_N_29_0 e)) (?_ : X _ _ _ (.inl 7 :: _) _ _)
  refine x_bipush (pc' := 29) rfl rfl ?_
  refine x_isub (pc' := 30) (z := 0) rfl rfl (by decide) ?_
  refine x_icmp (a' := 2944) (pc' := 33) (z := true) rfl rfl rfl (by decide) (fun _ => ?_) (fun h => by cases h)
  refine x_iconst (pc' := 2945) rfl rfl ?_
  refine x_retz (z := true) rfl rfl ?_
  exact Qp_ok e (p := 1) (q := 6) rfl rfl rfl rfl
set_option maxHeartbeats 4000000 in
set_option maxRecDepth 10000 in
theorem v_37_A {t : sT} {xs : Nat → Int32}
    (e : t = T16 7 xs)
    (hk : ((xs 0) &&& 63) = 37)
    (e0 : (xs 1) < 0) :
    X 297 23 [.inr (.inr (29, (some 0))), .inr (.inr (11, (some 0))), .inr (.inr (12, (some 0))), .inr (.inr (23, (some 0))), .inl 0, sJk, sJk] [] t Qp := by
  refine x_iload (pc' := 25) rfl rfl rfl ?_
  refine x_aload_n (pc' := 26) rfl rfl rfl rfl rfl ?_
  refine x_alen (pc' := 27) (N := 7) rfl rfl rfl (z_N_29_0 e) (?_ : X _ _ _ (.inl 7 :: _) _ _)
  refine x_bipush (pc' := 29) rfl rfl ?_
  refine x_isub (pc' := 30) (z := 0) rfl rfl (by decide) ?_
  refine x_icmp (a' := 2944) (pc' := 33) (z := false) rfl rfl rfl (by decide) (fun h => by cases h) (fun _ => ?_)
  refine x_aload_n (pc' := 34) rfl rfl rfl rfl rfl ?_
  refine x_iload (pc' := 36) rfl rfl rfl ?_
  refine x_iald (pc' := 37) (N := 7) (x := (xs 0)) rfl rfl rfl (z_N_29_0 e) (io_in (p := 0) (N := 7) (by decide) (by decide)) (Eq.trans (congrArg (sA t 29 0) (nn_io (p := 0) (by decide))) (z_A_29_0_0 e)) ?_
  refine x_bipush (pc' := 39) rfl rfl ?_
  refine x_iand (pc' := 40) (z := ((xs 0) &&& 63)) rfl rfl rfl ?_
  refine x_switch (pc' := 2737) rfl (by rw [hk]; decide) ?_
  refine x_aload_n (pc' := 2738) rfl rfl rfl rfl rfl ?_
  refine x_aload_n (pc' := 2739) rfl rfl rfl rfl rfl ?_
  refine x_iload (pc' := 2741) rfl rfl rfl ?_
  refine x_iconst (pc' := 2742) rfl rfl ?_
  refine x_iadd (pc' := 2743) (z := 1) rfl rfl (by decide) ?_
  refine x_iald (pc' := 2744) (N := 7) (x := (xs 1)) rfl rfl rfl (z_N_29_0 e) (io_in (p := 1) (N := 7) (by decide) (by decide)) (Eq.trans (congrArg (sA t 29 0) (nn_io (p := 1) (by decide))) (z_A_29_0_1 e)) ?_
  refine x_aload_n (pc' := 2745) rfl rfl rfl rfl rfl ?_
  refine x_cs (ls0 := [_, _, _, sJk]) (rest := []) rfl rfl rfl rfl ?_
  refine x_aload_n (pc' := 1) rfl rfl rfl rfl rfl ?_
  refine x_iconst (pc' := 2) rfl rfl ?_
  refine x_aload_n (pc' := 3) rfl rfl rfl rfl rfl ?_
  refine x_iload_n (pc' := 4) rfl rfl rfl ?_
  refine x_cv (ls0 := [_, _]) (rest := [_, _]) rfl rfl rfl rfl rfl ?_
  refine x_aload_n (pc' := 1) rfl rfl rfl rfl rfl ?_
  refine x_aload_n (pc' := 2) rfl rfl rfl rfl rfl ?_
  refine x_iload_n (pc' := 3) rfl rfl rfl ?_
  refine x_cv (ls0 := [_, _]) (rest := [_]) rfl rfl rfl rfl rfl ?_
  refine x_iload_n (pc' := 1) rfl rfl rfl ?_
  refine x_if (a' := 16) (pc' := 4) (z := decide ((xs 1) < 0)) rfl rfl rfl rfl (fun _ => ?_) (fun h => absurd e0 (of_decide_eq_false h))
  refine x_throw rfl rfl ?_
  refine sK_n (by decide +kernel) rfl ?_
  refine sK_h (h := 12) (by decide +kernel) rfl ?_
  refine x_catch_n (pc' := 13) (ls' := [_, _, _, _]) rfl rfl rfl rfl ?_
  refine x_iconst (pc' := 14) rfl rfl ?_
  refine x_reti rfl rfl ?_
  refine sK_i (pc' := 2748) rfl ?_
  refine x_istore (pc' := 2750) (ls' := [_, _, _, _, _, _, _]) rfl rfl rfl rfl ?_
  refine x_aload_n (pc' := 2751) rfl rfl rfl rfl rfl ?_
  refine x_aload_n (pc' := 2752) rfl rfl rfl rfl rfl ?_
  refine x_iload (pc' := 2754) rfl rfl rfl ?_
  refine x_iconst (pc' := 2755) rfl rfl ?_
  refine x_iadd (pc' := 2756) (z := 1) rfl rfl (by decide) ?_
  refine x_iald (pc' := 2757) (N := 7) (x := (xs 1)) rfl rfl rfl (Eq.trans rdNthr (z_N_29_0 e)) (io_in (p := 1) (N := 7) (by decide) (by decide)) (Eq.trans (congrArg (sA (sThr t) 29 0) (nn_io (p := 1) (by decide))) (Eq.trans rdAthr (z_A_29_0_1 e))) ?_
  refine x_cv (ls0 := [_, _]) (rest := []) rfl rfl rfl rfl rfl ?_
  refine x_aload_n (pc' := 1) rfl rfl rfl rfl rfl ?_
  refine x_iload_n (pc' := 2) rfl rfl rfl ?_
  refine x_cv (ls0 := [_, _]) (rest := []) rfl rfl rfl rfl rfl ?_
  refine x_aload_n (pc' := 1) rfl rfl rfl rfl rfl ?_
  refine x_iload_n (pc' := 2) rfl rfl rfl ?_
  refine x_cs (ls0 := [_]) (rest := [_]) rfl rfl rfl rfl ?_
  refine x_iload_n (pc' := 1) rfl rfl rfl ?_
  refine x_iconst (pc' := 2) rfl rfl ?_
  refine x_iconst (pc' := 3) rfl rfl ?_
  refine x_cs (ls0 := [_, _, _]) (rest := []) rfl rfl rfl rfl ?_
  refine x_iload_n (pc' := 1) rfl rfl rfl ?_
  refine x_iload_n (pc' := 2) rfl rfl rfl ?_
  refine x_icmp (a' := 14) (pc' := 5) (z := decide ((xs 1) < 0)) rfl rfl rfl rfl (fun _ => ?_) (fun h => absurd e0 (of_decide_eq_false h))
  refine x_iconst (pc' := 15) rfl rfl ?_
  refine x_retz (z := false) rfl rfl ?_
  refine sK_i (pc' := 6) rfl ?_
  refine x_retz (z := false) rfl rfl ?_
  refine sK_i (pc' := 5) rfl ?_
  refine x_if (a' := 12) (pc' := 8) (z := true) rfl rfl rfl (by decide) (fun _ => ?_) (fun h => by cases h)
  refine x_iconst (pc' := 13) rfl rfl ?_
  refine x_cv (ls0 := [_, _]) (rest := []) rfl rfl rfl rfl rfl ?_
  refine x_aload_n (pc' := 1) rfl rfl rfl rfl rfl ?_
  refine x_iload_n (pc' := 2) rfl rfl rfl ?_
  refine x_pI (pc' := 5) rfl rfl rfl ?_
  refine x_iload_n (pc' := 6) rfl rfl rfl ?_
  refine x_if (a' := 13) (pc' := 9) (z := true) rfl rfl rfl (by decide) (fun _ => ?_) (fun h => by cases h)
  refine x_iconst (pc' := 14) rfl rfl ?_
  refine x_retz (z := false) rfl rfl ?_
  refine sK_i (pc' := 16) rfl ?_
  refine x_retz (z := false) rfl rfl ?_
  refine sK_i (pc' := 5) rfl ?_
  refine x_if (a' := 16) (pc' := 8) (z := true) rfl rfl rfl (by decide) (fun _ => ?_) (fun h => by cases h)
  refine x_iconst (pc' := 17) rfl rfl ?_
  refine x_reti rfl rfl ?_
  refine sK_i (pc' := 2760) rfl ?_
  refine x_istore (pc' := 2762) (ls' := [_, _, _, _, _, _, _]) rfl rfl rfl rfl ?_
  refine x_aload_n (pc' := 2763) rfl rfl rfl rfl rfl ?_
  refine x_cv (ls0 := [_]) (rest := []) rfl rfl rfl rfl rfl ?_
  refine x_aload_n (pc' := 1) rfl rfl rfl rfl rfl ?_
  refine x_gI (pc' := 4) (x := 1) rfl rfl rfl sI_s ?_
  refine x_reti rfl rfl ?_
  refine sK_i (pc' := 2766) rfl ?_
  refine x_iload (pc' := 2768) rfl rfl rfl ?_
  refine x_icmp (a' := 2773) (pc' := 2771) (z := true) rfl rfl rfl (by decide) (fun _ => ?_) (fun h => by cases h)
  refine x_iload (pc' := 2775) rfl rfl rfl ?_
  refine x_if (a' := 2790) (pc' := 2778) (z := true) rfl rfl rfl (by decide) (fun _ => ?_) (fun h => by cases h)
  refine x_goto (pc' := 2938) rfl rfl ?_
  refine x_iinc (pc' := 2941) (y := 7) (ls' := [_, _, _, _, _, _, _]) rfl rfl rfl rfl rfl ?_
  refine x_goto (pc' := 23) rfl rfl ?_
  refine x_iload (pc' := 25) rfl rfl rfl ?_
  refine x_aload_n (pc' := 26) rfl rfl rfl rfl rfl ?_
  refine x_alen (pc' := 27) (N := 7) rfl rfl rfl (Eq.trans rdNI (Eq.trans rdNthr (z_N_29_0 e))) (?_ : X _ _ _ (.inl 7 :: _) _ _)
  refine x_bipush (pc' := 29) rfl rfl ?_
  refine x_isub (pc' := 30) (z := 0) rfl rfl (by decide) ?_
  refine x_icmp (a' := 2944) (pc' := 33) (z := true) rfl rfl rfl (by decide) (fun _ => ?_) (fun h => by cases h)
  refine x_iconst (pc' := 2945) rfl rfl ?_
  refine x_retz (z := true) rfl rfl ?_
  exact Qp_ok e (p := 1) (q := 6) rfl rfl rfl rfl
set_option maxHeartbeats 4000000 in
set_option maxRecDepth 10000 in
theorem v_37_B {t : sT} {xs : Nat → Int32}
    (e : t = T16 7 xs)
    (hk : ((xs 0) &&& 63) = 37)
    (e0 : ¬ (xs 1) < 0)
    (f0 : ¬ (xs 1) < 6) :
    X 297 23 [.inr (.inr (29, (some 0))), .inr (.inr (11, (some 0))), .inr (.inr (12, (some 0))), .inr (.inr (23, (some 0))), .inl 0, sJk, sJk] [] t Qp := by
  refine x_iload (pc' := 25) rfl rfl rfl ?_
  refine x_aload_n (pc' := 26) rfl rfl rfl rfl rfl ?_
  refine x_alen (pc' := 27) (N := 7) rfl rfl rfl (z_N_29_0 e) (?_ : X _ _ _ (.inl 7 :: _) _ _)
  refine x_bipush (pc' := 29) rfl rfl ?_
  refine x_isub (pc' := 30) (z := 0) rfl rfl (by decide) ?_
  refine x_icmp (a' := 2944) (pc' := 33) (z := false) rfl rfl rfl (by decide) (fun h => by cases h) (fun _ => ?_)
  refine x_aload_n (pc' := 34) rfl rfl rfl rfl rfl ?_
  refine x_iload (pc' := 36) rfl rfl rfl ?_
  refine x_iald (pc' := 37) (N := 7) (x := (xs 0)) rfl rfl rfl (z_N_29_0 e) (io_in (p := 0) (N := 7) (by decide) (by decide)) (Eq.trans (congrArg (sA t 29 0) (nn_io (p := 0) (by decide))) (z_A_29_0_0 e)) ?_
  refine x_bipush (pc' := 39) rfl rfl ?_
  refine x_iand (pc' := 40) (z := ((xs 0) &&& 63)) rfl rfl rfl ?_
  refine x_switch (pc' := 2737) rfl (by rw [hk]; decide) ?_
  refine x_aload_n (pc' := 2738) rfl rfl rfl rfl rfl ?_
  refine x_aload_n (pc' := 2739) rfl rfl rfl rfl rfl ?_
  refine x_iload (pc' := 2741) rfl rfl rfl ?_
  refine x_iconst (pc' := 2742) rfl rfl ?_
  refine x_iadd (pc' := 2743) (z := 1) rfl rfl (by decide) ?_
  refine x_iald (pc' := 2744) (N := 7) (x := (xs 1)) rfl rfl rfl (z_N_29_0 e) (io_in (p := 1) (N := 7) (by decide) (by decide)) (Eq.trans (congrArg (sA t 29 0) (nn_io (p := 1) (by decide))) (z_A_29_0_1 e)) ?_
  refine x_aload_n (pc' := 2745) rfl rfl rfl rfl rfl ?_
  refine x_cs (ls0 := [_, _, _, sJk]) (rest := []) rfl rfl rfl rfl ?_
  refine x_aload_n (pc' := 1) rfl rfl rfl rfl rfl ?_
  refine x_iconst (pc' := 2) rfl rfl ?_
  refine x_aload_n (pc' := 3) rfl rfl rfl rfl rfl ?_
  refine x_iload_n (pc' := 4) rfl rfl rfl ?_
  refine x_cv (ls0 := [_, _]) (rest := [_, _]) rfl rfl rfl rfl rfl ?_
  refine x_aload_n (pc' := 1) rfl rfl rfl rfl rfl ?_
  refine x_aload_n (pc' := 2) rfl rfl rfl rfl rfl ?_
  refine x_iload_n (pc' := 3) rfl rfl rfl ?_
  refine x_cv (ls0 := [_, _]) (rest := [_]) rfl rfl rfl rfl rfl ?_
  refine x_iload_n (pc' := 1) rfl rfl rfl ?_
  refine x_if (a' := 16) (pc' := 4) (z := decide ((xs 1) < 0)) rfl rfl rfl rfl (fun h => absurd (of_decide_eq_true h) e0) (fun _ => ?_)
  refine x_iload_n (pc' := 5) rfl rfl rfl ?_
  refine x_aload_n (pc' := 6) rfl rfl rfl rfl rfl ?_
  refine x_gR (pc' := 9) (r := (some 0)) rfl rfl rfl (z_R_704_0 e) ?_
  refine x_gR (pc' := 12) (r := (some 0)) rfl rfl rfl (z_R_321_0 e) ?_
  refine x_alen (pc' := 13) (N := 6) rfl rfl rfl (z_N_26_0 e) (?_ : X _ _ _ (.inl 6 :: _) _ _)
  refine x_icmp (a' := 27) (pc' := 16) (z := decide ((xs 1) < 6)) rfl rfl rfl rfl (fun h => absurd (of_decide_eq_true h) f0) (fun _ => ?_)
  refine x_throw rfl rfl ?_
  refine sK_n (by decide +kernel) rfl ?_
  refine sK_h (h := 12) (by decide +kernel) rfl ?_
  refine x_catch_n (pc' := 13) (ls' := [_, _, _, _]) rfl rfl rfl rfl ?_
  refine x_iconst (pc' := 14) rfl rfl ?_
  refine x_reti rfl rfl ?_
  refine sK_i (pc' := 2748) rfl ?_
  refine x_istore (pc' := 2750) (ls' := [_, _, _, _, _, _, _]) rfl rfl rfl rfl ?_
  refine x_aload_n (pc' := 2751) rfl rfl rfl rfl rfl ?_
  refine x_aload_n (pc' := 2752) rfl rfl rfl rfl rfl ?_
  refine x_iload (pc' := 2754) rfl rfl rfl ?_
  refine x_iconst (pc' := 2755) rfl rfl ?_
  refine x_iadd (pc' := 2756) (z := 1) rfl rfl (by decide) ?_
  refine x_iald (pc' := 2757) (N := 7) (x := (xs 1)) rfl rfl rfl (Eq.trans rdNthr (z_N_29_0 e)) (io_in (p := 1) (N := 7) (by decide) (by decide)) (Eq.trans (congrArg (sA (sThr t) 29 0) (nn_io (p := 1) (by decide))) (Eq.trans rdAthr (z_A_29_0_1 e))) ?_
  refine x_cv (ls0 := [_, _]) (rest := []) rfl rfl rfl rfl rfl ?_
  refine x_aload_n (pc' := 1) rfl rfl rfl rfl rfl ?_
  refine x_iload_n (pc' := 2) rfl rfl rfl ?_
  refine x_cv (ls0 := [_, _]) (rest := []) rfl rfl rfl rfl rfl ?_
  refine x_aload_n (pc' := 1) rfl rfl rfl rfl rfl ?_
  refine x_iload_n (pc' := 2) rfl rfl rfl ?_
  refine x_cs (ls0 := [_]) (rest := [_]) rfl rfl rfl rfl ?_
  refine x_iload_n (pc' := 1) rfl rfl rfl ?_
  refine x_iconst (pc' := 2) rfl rfl ?_
  refine x_iconst (pc' := 3) rfl rfl ?_
  refine x_cs (ls0 := [_, _, _]) (rest := []) rfl rfl rfl rfl ?_
  refine x_iload_n (pc' := 1) rfl rfl rfl ?_
  refine x_iload_n (pc' := 2) rfl rfl rfl ?_
  refine x_icmp (a' := 14) (pc' := 5) (z := decide ((xs 1) < 0)) rfl rfl rfl rfl (fun h => absurd (of_decide_eq_true h) e0) (fun _ => ?_)
  refine x_iload_n (pc' := 6) rfl rfl rfl ?_
  refine x_iload_n (pc' := 7) rfl rfl rfl ?_
  refine x_icmp (a' := 14) (pc' := 10) (z := decide (5 < (xs 1))) rfl rfl rfl rfl (fun _ => ?_) (fun h => absurd (lt_of6 f0) (of_decide_eq_false h))
  refine x_iconst (pc' := 15) rfl rfl ?_
  refine x_retz (z := false) rfl rfl ?_
  refine sK_i (pc' := 6) rfl ?_
  refine x_retz (z := false) rfl rfl ?_
  refine sK_i (pc' := 5) rfl ?_
  refine x_if (a' := 12) (pc' := 8) (z := true) rfl rfl rfl (by decide) (fun _ => ?_) (fun h => by cases h)
  refine x_iconst (pc' := 13) rfl rfl ?_
  refine x_cv (ls0 := [_, _]) (rest := []) rfl rfl rfl rfl rfl ?_
  refine x_aload_n (pc' := 1) rfl rfl rfl rfl rfl ?_
  refine x_iload_n (pc' := 2) rfl rfl rfl ?_
  refine x_pI (pc' := 5) rfl rfl rfl ?_
  refine x_iload_n (pc' := 6) rfl rfl rfl ?_
  refine x_if (a' := 13) (pc' := 9) (z := true) rfl rfl rfl (by decide) (fun _ => ?_) (fun h => by cases h)
  refine x_iconst (pc' := 14) rfl rfl ?_
  refine x_retz (z := false) rfl rfl ?_
  refine sK_i (pc' := 16) rfl ?_
  refine x_retz (z := false) rfl rfl ?_
  refine sK_i (pc' := 5) rfl ?_
  refine x_if (a' := 16) (pc' := 8) (z := true) rfl rfl rfl (by decide) (fun _ => ?_) (fun h => by cases h)
  refine x_iconst (pc' := 17) rfl rfl ?_
  refine x_reti rfl rfl ?_
  refine sK_i (pc' := 2760) rfl ?_
  refine x_istore (pc' := 2762) (ls' := [_, _, _, _, _, _, _]) rfl rfl rfl rfl ?_
  refine x_aload_n (pc' := 2763) rfl rfl rfl rfl rfl ?_
  refine x_cv (ls0 := [_]) (rest := []) rfl rfl rfl rfl rfl ?_
  refine x_aload_n (pc' := 1) rfl rfl rfl rfl rfl ?_
  refine x_gI (pc' := 4) (x := 1) rfl rfl rfl sI_s ?_
  refine x_reti rfl rfl ?_
  refine sK_i (pc' := 2766) rfl ?_
  refine x_iload (pc' := 2768) rfl rfl rfl ?_
  refine x_icmp (a' := 2773) (pc' := 2771) (z := true) rfl rfl rfl (by decide) (fun _ => ?_) (fun h => by cases h)
  refine x_iload (pc' := 2775) rfl rfl rfl ?_
  refine x_if (a' := 2790) (pc' := 2778) (z := true) rfl rfl rfl (by decide) (fun _ => ?_) (fun h => by cases h)
  refine x_goto (pc' := 2938) rfl rfl ?_
  refine x_iinc (pc' := 2941) (y := 7) (ls' := [_, _, _, _, _, _, _]) rfl rfl rfl rfl rfl ?_
  refine x_goto (pc' := 23) rfl rfl ?_
  refine x_iload (pc' := 25) rfl rfl rfl ?_
  refine x_aload_n (pc' := 26) rfl rfl rfl rfl rfl ?_
  refine x_alen (pc' := 27) (N := 7) rfl rfl rfl (Eq.trans rdNI (Eq.trans rdNthr (z_N_29_0 e))) (?_ : X _ _ _ (.inl 7 :: _) _ _)
  refine x_bipush (pc' := 29) rfl rfl ?_
  refine x_isub (pc' := 30) (z := 0) rfl rfl (by decide) ?_
  refine x_icmp (a' := 2944) (pc' := 33) (z := true) rfl rfl rfl (by decide) (fun _ => ?_) (fun h => by cases h)
  refine x_iconst (pc' := 2945) rfl rfl ?_
  refine x_retz (z := true) rfl rfl ?_
  exact Qp_ok e (p := 1) (q := 6) rfl rfl rfl rfl
