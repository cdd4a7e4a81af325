set_option maxHeartbeats 4000000 in
set_option maxRecDepth 10000 in
theorem v_14_i {t : sT} {xs : Nat → Int32}
    (e : t = T16 7 xs)
    (hk : ((xs 0) &&& 63) = 14) :
    X 297 23 [.inr (.inr (29, (some 0))), .inr (.inr (11, (some 0))), .inr (.inr (12, (some 0))), .inr (.inr (23, (some 0))), .inl 0, sJk, sJk] [] t Qp := by
  refine x_iload (pc' := 25) rfl rfl rfl ?_
  refine x_aload_n (pc' := 26) rfl rfl rfl rfl rfl ?_
  refine x_alen (pc' := 27) (N := 7) rfl rfl rfl (z_N_29_0 e) (?_ : X _ _ _ (.inl 7 :: _) _ _)
  refine x_bipush (pc' := 29) rfl rfl ?_
  refine x_isub (pc' := 30) (z := 0) rfl rfl (by decide) ?_
  refine x_icmp (a' := 2944) (pc' := 33) (z := false) rfl rfl rfl (by decide) (fun h => by cases h) (fun _ => ?_)
  refine x_aload_n (pc' := 34) rfl rfl rfl rfl rfl ?_
  refine x_iload (pc' := 36) rfl rfl rfl ?_
  refine x_iald (pc' := 37) (N := 7) (x := (xs 0)) rfl rfl rfl (z_N_29_0 e) (io_in (p := 0) (N := 7) (by decide) (by decide)) (Eq.trans (congrArg (sA t 29 0) (nn_io (p := 0) (by decide))) (z_A_29_0_0 e)) ?_
  refine x_bipush (pc' := 39) rfl rfl ?_
  refine x_iand (pc' := 40) (z := ((xs 0) &&& 63)) rfl rfl rfl ?_
  refine x_switch (pc' := 1375) rfl (by rw [hk]; decide) ?_
  refine x_aload_n (pc' := 1376) rfl rfl rfl rfl rfl ?_
  refine x_aload_n (pc' := 1377) rfl rfl rfl rfl rfl ?_
  refine x_iload (pc' := 1379) rfl rfl rfl ?_
  refine x_iconst (pc' := 1380) rfl rfl ?_
  refine x_iadd (pc' := 1381) (z := 1) rfl rfl (by decide) ?_
  refine x_iald (pc' := 1382) (N := 7) (x := (xs 1)) rfl rfl rfl (z_N_29_0 e) (io_in (p := 1) (N := 7) (by decide) (by decide)) (Eq.trans (congrArg (sA t 29 0) (nn_io (p := 1) (by decide))) (z_A_29_0_1 e)) ?_
  refine x_aload_n (pc' := 1383) rfl rfl rfl rfl rfl ?_
  refine x_cs (ls0 := [_, _, _, sJk]) (rest := []) rfl rfl rfl rfl ?_
  refine x_aload_n (pc' := 1) rfl rfl rfl rfl rfl ?_
  refine x_iconst (pc' := 2) rfl rfl ?_
  refine x_aload_n (pc' := 3) rfl rfl rfl rfl rfl ?_
  refine x_iload_n (pc' := 4) rfl rfl rfl ?_
  refine x_cv (ls0 := [_, _, sJk]) (rest := [_, _]) rfl rfl rfl rfl rfl ?_
  refine x_aload_n (pc' := 1) rfl rfl rfl rfl rfl ?_
  refine x_iload_n (pc' := 2) rfl rfl rfl ?_
  refine x_cv (ls0 := [_, _]) (rest := []) rfl rfl rfl rfl rfl ?_
  refine x_iload_n (pc' := 1) rfl rfl rfl ?_
  refine x_if (a' := 18) (pc' := 4) (z := decide ((xs 1) < 0)) rfl rfl rfl rfl (fun q3 => ?_) (fun q3 => ?_)
  · refine x_throw rfl rfl ?_
    refine sK_n (by decide +kernel) rfl ?_
    refine sK_h (h := 12) (by decide +kernel) rfl ?_
    refine x_catch_n (pc' := 13) (ls' := [_, _, _, _]) rfl rfl rfl rfl ?_
    refine x_iconst (pc' := 14) rfl rfl ?_
    refine x_reti rfl rfl ?_
    refine sK_i (pc' := 1386) rfl ?_
    refine x_istore (pc' := 1388) (ls' := [_, _, _, _, _, _, _]) rfl rfl rfl rfl ?_
    refine x_aload_n (pc' := 1389) rfl rfl rfl rfl rfl ?_
    refine x_aload_n (pc' := 1390) rfl rfl rfl rfl rfl ?_
    refine x_iload (pc' := 1392) rfl rfl rfl ?_
    refine x_iconst (pc' := 1393) rfl rfl ?_
    refine x_iadd (pc' := 1394) (z := 1) rfl rfl (by decide) ?_
    refine x_iald (pc' := 1395) (N := 7) (x := (xs 1)) rfl rfl rfl (Eq.trans rdNthr (z_N_29_0 e)) (io_in (p := 1) (N := 7) (by decide) (by decide)) (Eq.trans (congrArg (sA (sThr t) 29 0) (nn_io (p := 1) (by decide))) (Eq.trans rdAthr (z_A_29_0_1 e))) ?_
    refine x_cv (ls0 := [_, _, sJk]) (rest := []) rfl rfl rfl rfl rfl ?_
    refine x_aload_n (pc' := 1) rfl rfl rfl rfl rfl ?_
    refine x_iload_n (pc' := 2) rfl rfl rfl ?_
    refine x_cv (ls0 := [_, _]) (rest := []) rfl rfl rfl rfl rfl ?_
    refine x_iload_n (pc' := 1) rfl rfl rfl ?_
    refine x_iconst (pc' := 2) rfl rfl ?_
    refine x_aload_n (pc' := 3) rfl rfl rfl rfl rfl ?_
    refine x_gI (pc' := 6) (x := 0) rfl rfl rfl (Eq.trans rdIthr (z_I_786_0 e)) ?_
    refine x_iconst (pc' := 7) rfl rfl ?_
    refine x_isub (pc' := 8) (z := (-1)) rfl rfl (by decide) ?_
    refine x_cs (ls0 := [_, _, _]) (rest := []) rfl rfl rfl rfl ?_
    refine x_iload_n (pc' := 1) rfl rfl rfl ?_
    refine x_iload_n (pc' := 2) rfl rfl rfl ?_
    refine x_icmp (a' := 14) (pc' := 5) (z := decide ((xs 1) < 0)) rfl rfl rfl rfl (fun _ => ?_) (fun h => absurd (of_decide_eq_true q3) (of_decide_eq_false h))
    refine x_iconst (pc' := 15) rfl rfl ?_
    refine x_retz (z := false) rfl rfl ?_
    refine sK_i (pc' := 11) rfl ?_
    refine x_retz (z := false) rfl rfl ?_
    refine sK_i (pc' := 5) rfl ?_
    refine x_istore_n (pc' := 6) (ls' := [_, _, _]) rfl rfl rfl rfl ?_
    refine x_aload_n (pc' := 7) rfl rfl rfl rfl rfl ?_
    refine x_iload_n (pc' := 8) rfl rfl rfl ?_
    refine x_if (a' := 15) (pc' := 11) (z := false) rfl rfl rfl (by decide) (fun h => by cases h) (fun _ => ?_)
    refine x_iconst (pc' := 12) rfl rfl ?_
    refine x_goto (pc' := 28) rfl rfl ?_
    refine x_cv (ls0 := [_, _]) (rest := []) rfl rfl rfl rfl rfl ?_
    refine x_aload_n (pc' := 1) rfl rfl rfl rfl rfl ?_
    refine x_iload_n (pc' := 2) rfl rfl rfl ?_
    refine x_pI (pc' := 5) rfl rfl rfl ?_
    refine x_iload_n (pc' := 6) rfl rfl rfl ?_
    refine x_if (a' := 13) (pc' := 9) (z := true) rfl rfl rfl (by decide) (fun _ => ?_) (fun h => by cases h)
    refine x_iconst (pc' := 14) rfl rfl ?_
    refine x_retz (z := false) rfl rfl ?_
    refine sK_i (pc' := 31) rfl ?_
    refine x_if (a' := 36) (pc' := 34) (z := false) rfl rfl rfl (by decide) (fun h => by cases h) (fun _ => ?_)
    refine x_iconst (pc' := 35) rfl rfl ?_
    refine x_reti rfl rfl ?_
    refine sK_i (pc' := 1398) rfl ?_
    refine x_istore (pc' := 1400) (ls' := [_, _, _, _, _, _, _]) rfl rfl rfl rfl ?_
    refine x_aload_n (pc' := 1401) rfl rfl rfl rfl rfl ?_
    refine x_cv (ls0 := [_]) (rest := []) rfl rfl rfl rfl rfl ?_
    refine x_aload_n (pc' := 1) rfl rfl rfl rfl rfl ?_
    refine x_gI (pc' := 4) (x := 1) rfl rfl rfl sI_s ?_
    refine x_reti rfl rfl ?_
    refine sK_i (pc' := 1404) rfl ?_
    refine x_iload (pc' := 1406) rfl rfl rfl ?_
    refine x_icmp (a' := 1411) (pc' := 1409) (z := true) rfl rfl rfl (by decide) (fun _ => ?_) (fun h => by cases h)
    refine x_iload (pc' := 1413) rfl rfl rfl ?_
    refine x_if (a' := 1428) (pc' := 1416) (z := true) rfl rfl rfl (by decide) (fun _ => ?_) (fun h => by cases h)
    refine x_goto (pc' := 2938) rfl rfl ?_
    refine x_iinc (pc' := 2941) (y := 7) (ls' := [_, _, _, _, _, _, _]) rfl rfl rfl rfl rfl ?_
    refine x_goto (pc' := 23) rfl rfl ?_
    refine x_iload (pc' := 25) rfl rfl rfl ?_
    refine x_aload_n (pc' := 26) rfl rfl rfl rfl rfl ?_
    refine x_alen (pc' := 27) (N := 7) rfl rfl rfl (Eq.trans rdNI (Eq.trans rdNthr (z_N_29_0 e))) (?_ : X _ _ _ (.inl 7 :: _) _ _)
    refine x_bipush (pc' := 29) rfl rfl ?_
    refine x_isub (pc' := 30) (z := 0) rfl rfl (by decide) ?_
    refine x_icmp (a' := 2944) (pc' := 33) (z := true) rfl rfl rfl (by decide) (fun _ => ?_) (fun h => by cases h)
    refine x_iconst (pc' := 2945) rfl rfl ?_
    refine x_retz (z := true) rfl rfl ?_
    exact Qp_ok e (p := 1) (q := 6) rfl rfl rfl rfl
  · refine x_iload_n (pc' := 5) rfl rfl rfl ?_
    refine x_aload_n (pc' := 6) rfl rfl rfl rfl rfl ?_
    refine x_gR (pc' := 9) (r := (some 0)) rfl rfl rfl (z_R_705_0 e) ?_
    refine x_gR (pc' := 12) (r := (some 1)) rfl rfl rfl (z_R_257_0 e) ?_
    refine x_cv (ls0 := [_]) (rest := [_]) rfl rfl rfl rfl rfl ?_
    refine x_aload_n (pc' := 1) rfl rfl rfl rfl rfl ?_
    refine x_gI (pc' := 4) (x := 0) rfl rfl rfl (z_I_834_1 e) ?_
    refine x_reti rfl rfl ?_
    refine sK_i (pc' := 15) rfl ?_
    refine x_icmp (a' := 29) (pc' := 18) (z := decide ((xs 1) < 0)) rfl rfl rfl rfl (fun h => absurd (of_decide_eq_true h) (of_decide_eq_false q3)) (fun _ => ?_)
    refine x_throw rfl rfl ?_
    refine sK_n (by decide +kernel) rfl ?_
    refine sK_h (h := 12) (by decide +kernel) rfl ?_
    refine x_catch_n (pc' := 13) (ls' := [_, _, _, _]) rfl rfl rfl rfl ?_
    refine x_iconst (pc' := 14) rfl rfl ?_
    refine x_reti rfl rfl ?_
    refine sK_i (pc' := 1386) rfl ?_
    refine x_istore (pc' := 1388) (ls' := [_, _, _, _, _, _, _]) rfl rfl rfl rfl ?_
    refine x_aload_n (pc' := 1389) rfl rfl rfl rfl rfl ?_
    refine x_aload_n (pc' := 1390) rfl rfl rfl rfl rfl ?_
    refine x_iload (pc' := 1392) rfl rfl rfl ?_
    refine x_iconst (pc' := 1393) rfl rfl ?_
    refine x_iadd (pc' := 1394) (z := 1) rfl rfl (by decide) ?_
    refine x_iald (pc' := 1395) (N := 7) (x := (xs 1)) rfl rfl rfl (Eq.trans rdNthr (z_N_29_0 e)) (io_in (p := 1) (N := 7) (by decide) (by decide)) (Eq.trans (congrArg (sA (sThr t) 29 0) (nn_io (p := 1) (by decide))) (Eq.trans rdAthr (z_A_29_0_1 e))) ?_
    refine x_cv (ls0 := [_, _, sJk]) (rest := []) rfl rfl rfl rfl rfl ?_
    refine x_aload_n (pc' := 1) rfl rfl rfl rfl rfl ?_
    refine x_iload_n (pc' := 2) rfl rfl rfl ?_
    refine x_cv (ls0 := [_, _]) (rest := []) rfl rfl rfl rfl rfl ?_
    refine x_iload_n (pc' := 1) rfl rfl rfl ?_
    refine x_iconst (pc' := 2) rfl rfl ?_
    refine x_aload_n (pc' := 3) rfl rfl rfl rfl rfl ?_
    refine x_gI (pc' := 6) (x := 0) rfl rfl rfl (Eq.trans rdIthr (z_I_786_0 e)) ?_
    refine x_iconst (pc' := 7) rfl rfl ?_
    refine x_isub (pc' := 8) (z := (-1)) rfl rfl (by decide) ?_
    refine x_cs (ls0 := [_, _, _]) (rest := []) rfl rfl rfl rfl ?_
    refine x_iload_n (pc' := 1) rfl rfl rfl ?_
    refine x_iload_n (pc' := 2) rfl rfl rfl ?_
    refine x_icmp (a' := 14) (pc' := 5) (z := decide ((xs 1) < 0)) rfl rfl rfl rfl (fun h => absurd (of_decide_eq_true h) (of_decide_eq_false q3)) (fun _ => ?_)
    refine x_iload_n (pc' := 6) rfl rfl rfl ?_
    refine x_iload_n (pc' := 7) rfl rfl rfl ?_
    refine x_icmp (a' := 14) (pc' := 10) (z := decide ((-1) < (xs 1))) rfl rfl rfl rfl (fun _ => ?_) (fun h => absurd (m1_lt (of_decide_eq_false q3)) (of_decide_eq_false h))
    refine x_iconst (pc' := 15) rfl rfl ?_
    refine x_retz (z := false) rfl rfl ?_
    refine sK_i (pc' := 11) rfl ?_
    refine x_retz (z := false) rfl rfl ?_
    refine sK_i (pc' := 5) rfl ?_
    refine x_istore_n (pc' := 6) (ls' := [_, _, _]) rfl rfl rfl rfl ?_
    refine x_aload_n (pc' := 7) rfl rfl rfl rfl rfl ?_
    refine x_iload_n (pc' := 8) rfl rfl rfl ?_
    refine x_if (a' := 15) (pc' := 11) (z := false) rfl rfl rfl (by decide) (fun h => by cases h) (fun _ => ?_)
    refine x_iconst (pc' := 12) rfl rfl ?_
    refine x_goto (pc' := 28) rfl rfl ?_
    refine x_cv (ls0 := [_, _]) (rest := []) rfl rfl rfl rfl rfl ?_
    refine x_aload_n (pc' := 1) rfl rfl rfl rfl rfl ?_
    refine x_iload_n (pc' := 2) rfl rfl rfl ?_
    refine x_pI (pc' := 5) rfl rfl rfl ?_
    refine x_iload_n (pc' := 6) rfl rfl rfl ?_
    refine x_if (a' := 13) (pc' := 9) (z := true) rfl rfl rfl (by decide) (fun _ => ?_) (fun h => by cases h)
    refine x_iconst (pc' := 14) rfl rfl ?_
    refine x_retz (z := false) rfl rfl ?_
    refine sK_i (pc' := 31) rfl ?_
    refine x_if (a' := 36) (pc' := 34) (z := false) rfl rfl rfl (by decide) (fun h => by cases h) (fun _ => ?_)
    refine x_iconst (pc' := 35) rfl rfl ?_
    refine x_reti rfl rfl ?_
    refine sK_i (pc' := 1398) rfl ?_
    refine x_istore (pc' := 1400) (ls' := [_, _, _, _, _, _, _]) rfl rfl rfl rfl ?_
    refine x_aload_n (pc' := 1401) rfl rfl rfl rfl rfl ?_
    refine x_cv (ls0 := [_]) (rest := []) rfl rfl rfl rfl rfl ?_
    refine x_aload_n (pc' := 1) rfl rfl rfl rfl rfl ?_
    refine x_gI (pc' := 4) (x := 1) rfl rfl rfl sI_s ?_
    refine x_reti rfl rfl ?_
    refine sK_i (pc' := 1404) rfl ?_
    refine x_iload (pc' := 1406) rfl rfl rfl ?_
    refine x_icmp (a' := 1411) (pc' := 1409) (z := true) rfl rfl rfl (by decide) (fun _ => ?_) (fun h => by cases h)
    refine x_iload (pc' := 1413) rfl rfl rfl ?_
    refine x_if (a' := 1428) (pc' := 1416) (z := true) rfl rfl rfl (by decide) (fun _ => ?_) (fun h => by cases h)
    refine x_goto (pc' := 2938) rfl rfl ?_
    refine x_iinc (pc' := 2941) (y := 7) (ls' := [_, _, _, _, _, _, _]) rfl rfl rfl rfl rfl ?_
    refine x_goto (pc' := 23) rfl rfl ?_
    refine x_iload (pc' := 25) rfl rfl rfl ?_
    refine x_aload_n (pc' := 26) rfl rfl rfl rfl rfl ?_
    refine x_alen (pc' := 27) (N := 7) rfl rfl rfl (Eq.trans rdNI (Eq.trans rdNthr (z_N_29_0 e))) (?_ : X _ _ _ (.inl 7 :: _) _ _)
    refine x_bipush (pc' := 29) rfl rfl ?_
    refine x_isub (pc' := 30) (z := 0) rfl rfl (by decide) ?_
    refine x_icmp (a' := 2944) (pc' := 33) (z := true) rfl rfl rfl (by decide) (fun _ => ?_) (fun h => by cases h)
    refine x_iconst (pc' := 2945) rfl rfl ?_
    refine x_retz (z := true) rfl rfl ?_
    exact Qp_ok e (p := 1) (q := 6) rfl rfl rfl rfl
set_option maxHeartbeats 4000000 in
set_option maxRecDepth 10000 in
theorem v_15_i {t : sT} {xs : Nat → Int32}
    (e : t = T16 7 xs)
    (hk : ((xs 0) &&& 63) = 15) :
    X 297 23 [.inr (.inr (29, (some 0))), .inr (.inr (11, (some 0))), .inr (.inr (12, (some 0))), .inr (.inr (23, (some 0))), .inl 0, sJk, sJk] [] t Qp := by
  refine x_iload (pc' := 25) rfl rfl rfl ?_
  refine x_aload_n (pc' := 26) rfl rfl rfl rfl rfl ?_
  refine x_alen (pc' := 27) (N := 7) rfl rfl rfl (z_N_29_0 e) (?_ : X _ _ _ (.inl 7 :: _) _ _)
  refine x_bipush (pc' := 29) rfl rfl ?_
  refine x_isub (pc' := 30) (z := 0) rfl rfl (by decide) ?_
  refine x_icmp (a' := 2944) (pc' := 33) (z := false) rfl rfl rfl (by decide) (fun h => by cases h) (fun _ => ?_)
  refine x_aload_n (pc' := 34) rfl rfl rfl rfl rfl ?_
  refine x_iload (pc' := 36) rfl rfl rfl ?_
  refine x_iald (pc' := 37) (N := 7) (x := (xs 0)) rfl rfl rfl (z_N_29_0 e) (io_in (p := 0) (N := 7) (by decide) (by decide)) (Eq.trans (congrArg (sA t 29 0) (nn_io (p := 0) (by decide))) (z_A_29_0_0 e)) ?_
  refine x_bipush (pc' := 39) rfl rfl ?_
  refine x_iand (pc' := 40) (z := ((xs 0) &&& 63)) rfl rfl rfl ?_
  refine x_switch (pc' := 1431) rfl (by rw [hk]; decide) ?_
  refine x_aload_n (pc' := 1432) rfl rfl rfl rfl rfl ?_
  refine x_aload_n (pc' := 1433) rfl rfl rfl rfl rfl ?_
  refine x_iload (pc' := 1435) rfl rfl rfl ?_
  refine x_iconst (pc' := 1436) rfl rfl ?_
  refine x_iadd (pc' := 1437) (z := 1) rfl rfl (by decide) ?_
  refine x_iald (pc' := 1438) (N := 7) (x := (xs 1)) rfl rfl rfl (z_N_29_0 e) (io_in (p := 1) (N := 7) (by decide) (by decide)) (Eq.trans (congrArg (sA t 29 0) (nn_io (p := 1) (by decide))) (z_A_29_0_1 e)) ?_
  refine x_aload_n (pc' := 1439) rfl rfl rfl rfl rfl ?_
  refine x_cs (ls0 := [_, _, _, sJk]) (rest := []) rfl rfl rfl rfl ?_
  refine x_aload_n (pc' := 1) rfl rfl rfl rfl rfl ?_
  refine x_iconst (pc' := 2) rfl rfl ?_
  refine x_aload_n (pc' := 3) rfl rfl rfl rfl rfl ?_
  refine x_iload_n (pc' := 4) rfl rfl rfl ?_
  refine x_cv (ls0 := [_, _, sJk]) (rest := [_, _]) rfl rfl rfl rfl rfl ?_
  refine x_aload_n (pc' := 1) rfl rfl rfl rfl rfl ?_
  refine x_iload_n (pc' := 2) rfl rfl rfl ?_
  refine x_cv (ls0 := [_, _]) (rest := []) rfl rfl rfl rfl rfl ?_
  refine x_iload_n (pc' := 1) rfl rfl rfl ?_
  refine x_if (a' := 18) (pc' := 4) (z := decide ((xs 1) < 0)) rfl rfl rfl rfl (fun q3 => ?_) (fun q3 => ?_)
  · refine x_throw rfl rfl ?_
    refine sK_n (by decide +kernel) rfl ?_
    refine sK_h (h := 12) (by decide +kernel) rfl ?_
    refine x_catch_n (pc' := 13) (ls' := [_, _, _, _]) rfl rfl rfl rfl ?_
    refine x_iconst (pc' := 14) rfl rfl ?_
    refine x_reti rfl rfl ?_
    refine sK_i (pc' := 1442) rfl ?_
    refine x_istore (pc' := 1444) (ls' := [_, _, _, _, _, _, _]) rfl rfl rfl rfl ?_
    refine x_aload_n (pc' := 1445) rfl rfl rfl rfl rfl ?_
    refine x_aload_n (pc' := 1446) rfl rfl rfl rfl rfl ?_
    refine x_iload (pc' := 1448) rfl rfl rfl ?_
    refine x_iconst (pc' := 1449) rfl rfl ?_
    refine x_iadd (pc' := 1450) (z := 1) rfl rfl (by decide) ?_
    refine x_iald (pc' := 1451) (N := 7) (x := (xs 1)) rfl rfl rfl (Eq.trans rdNthr (z_N_29_0 e)) (io_in (p := 1) (N := 7) (by decide) (by decide)) (Eq.trans (congrArg (sA (sThr t) 29 0) (nn_io (p := 1) (by decide))) (Eq.trans rdAthr (z_A_29_0_1 e))) ?_
    refine x_cv (ls0 := [_, _, sJk, sJk]) (rest := []) rfl rfl rfl rfl rfl ?_
    refine x_aload_n (pc' := 1) rfl rfl rfl rfl rfl ?_
    refine x_iload_n (pc' := 2) rfl rfl rfl ?_
    refine x_cv (ls0 := [_, _]) (rest := []) rfl rfl rfl rfl rfl ?_
    refine x_iload_n (pc' := 1) rfl rfl rfl ?_
    refine x_iconst (pc' := 2) rfl rfl ?_
    refine x_aload_n (pc' := 3) rfl rfl rfl rfl rfl ?_
    refine x_gI (pc' := 6) (x := 0) rfl rfl rfl (Eq.trans rdIthr (z_I_801_0 e)) ?_
    refine x_iconst (pc' := 7) rfl rfl ?_
    refine x_isub (pc' := 8) (z := (-1)) rfl rfl (by decide) ?_
    refine x_cs (ls0 := [_, _, _]) (rest := []) rfl rfl rfl rfl ?_
    refine x_iload_n (pc' := 1) rfl rfl rfl ?_
    refine x_iload_n (pc' := 2) rfl rfl rfl ?_
    refine x_icmp (a' := 14) (pc' := 5) (z := decide ((xs 1) < 0)) rfl rfl rfl rfl (fun _ => ?_) (fun h => absurd (of_decide_eq_true q3) (of_decide_eq_false h))
    refine x_iconst (pc' := 15) rfl rfl ?_
    refine x_retz (z := false) rfl rfl ?_
    refine sK_i (pc' := 11) rfl ?_
    refine x_retz (z := false) rfl rfl ?_
    refine sK_i (pc' := 5) rfl ?_
    refine x_istore_n (pc' := 6) (ls' := [_, _, _, _]) rfl rfl rfl rfl ?_
    refine x_iload_n (pc' := 7) rfl rfl rfl ?_
    refine x_if (a' := 51) (pc' := 10) (z := true) rfl rfl rfl (by decide) (fun _ => ?_) (fun h => by cases h)
    refine x_iconst (pc' := 52) rfl rfl ?_
    refine x_istore_n (pc' := 53) (ls' := [_, _, _, _]) rfl rfl rfl rfl ?_
    refine x_aload_n (pc' := 54) rfl rfl rfl rfl rfl ?_
    refine x_iload_n (pc' := 55) rfl rfl rfl ?_
    refine x_if (a' := 62) (pc' := 58) (z := false) rfl rfl rfl (by decide) (fun h => by cases h) (fun _ => ?_)
    refine x_iconst (pc' := 59) rfl rfl ?_
    refine x_goto (pc' := 71) rfl rfl ?_
    refine x_cv (ls0 := [_, _]) (rest := []) rfl rfl rfl rfl rfl ?_
    refine x_aload_n (pc' := 1) rfl rfl rfl rfl rfl ?_
    refine x_iload_n (pc' := 2) rfl rfl rfl ?_
    refine x_pI (pc' := 5) rfl rfl rfl ?_
    refine x_iload_n (pc' := 6) rfl rfl rfl ?_
    refine x_if (a' := 13) (pc' := 9) (z := true) rfl rfl rfl (by decide) (fun _ => ?_) (fun h => by cases h)
    refine x_iconst (pc' := 14) rfl rfl ?_
    refine x_retz (z := false) rfl rfl ?_
    refine sK_i (pc' := 74) rfl ?_
    refine x_if (a' := 79) (pc' := 77) (z := false) rfl rfl rfl (by decide) (fun h => by cases h) (fun _ => ?_)
    refine x_iconst (pc' := 78) rfl rfl ?_
    refine x_reti rfl rfl ?_
    refine sK_i (pc' := 1454) rfl ?_
    refine x_istore (pc' := 1456) (ls' := [_, _, _, _, _, _, _]) rfl rfl rfl rfl ?_
    refine x_aload_n (pc' := 1457) rfl rfl rfl rfl rfl ?_
    refine x_cv (ls0 := [_]) (rest := []) rfl rfl rfl rfl rfl ?_
    refine x_aload_n (pc' := 1) rfl rfl rfl rfl rfl ?_
    refine x_gI (pc' := 4) (x := 1) rfl rfl rfl sI_s ?_
    refine x_reti rfl rfl ?_
    refine sK_i (pc' := 1460) rfl ?_
    refine x_iload (pc' := 1462) rfl rfl rfl ?_
    refine x_icmp (a' := 1467) (pc' := 1465) (z := true) rfl rfl rfl (by decide) (fun _ => ?_) (fun h => by cases h)
    refine x_iload (pc' := 1469) rfl rfl rfl ?_
    refine x_if (a' := 1484) (pc' := 1472) (z := true) rfl rfl rfl (by decide) (fun _ => ?_) (fun h => by cases h)
    refine x_goto (pc' := 2938) rfl rfl ?_
    refine x_iinc (pc' := 2941) (y := 7) (ls' := [_, _, _, _, _, _, _]) rfl rfl rfl rfl rfl ?_
    refine x_goto (pc' := 23) rfl rfl ?_
    refine x_iload (pc' := 25) rfl rfl rfl ?_
    refine x_aload_n (pc' := 26) rfl rfl rfl rfl rfl ?_
    refine x_alen (pc' := 27) (N := 7) rfl rfl rfl (Eq.trans rdNI (Eq.trans rdNthr (z_N_29_0 e))) (?_ : X _ _ _ (.inl 7 :: _) _ _)
    refine x_bipush (pc' := 29) rfl rfl ?_
    refine x_isub (pc' := 30) (z := 0) rfl rfl (by decide) ?_
    refine x_icmp (a' := 2944) (pc' := 33) (z := true) rfl rfl rfl (by decide) (fun _ => ?_) (fun h => by cases h)
    refine x_iconst (pc' := 2945) rfl rfl ?_
    refine x_retz (z := true) rfl rfl ?_
    exact Qp_ok e (p := 1) (q := 6) rfl rfl rfl rfl
  · refine x_iload_n (pc' := 5) rfl rfl rfl ?_
    refine x_aload_n (pc' := 6) rfl rfl rfl rfl rfl ?_
    refine x_gR (pc' := 9) (r := (some 0)) rfl rfl rfl (z_R_704_0 e) ?_
    refine x_gR (pc' := 12) (r := (some 0)) rfl rfl rfl (z_R_322_0 e) ?_
    refine x_cv (ls0 := [_]) (rest := [_]) rfl rfl rfl rfl rfl ?_
    refine x_aload_n (pc' := 1) rfl rfl rfl rfl rfl ?_
    refine x_gI (pc' := 4) (x := 0) rfl rfl rfl (z_I_834_0 e) ?_
    refine x_reti rfl rfl ?_
    refine sK_i (pc' := 15) rfl ?_
    refine x_icmp (a' := 29) (pc' := 18) (z := decide ((xs 1) < 0)) rfl rfl rfl rfl (fun h => absurd (of_decide_eq_true h) (of_decide_eq_false q3)) (fun _ => ?_)
    refine x_throw rfl rfl ?_
    refine sK_n (by decide +kernel) rfl ?_
    refine sK_h (h := 12) (by decide +kernel) rfl ?_
    refine x_catch_n (pc' := 13) (ls' := [_, _, _, _]) rfl rfl rfl rfl ?_
    refine x_iconst (pc' := 14) rfl rfl ?_
    refine x_reti rfl rfl ?_
    refine sK_i (pc' := 1442) rfl ?_
    refine x_istore (pc' := 1444) (ls' := [_, _, _, _, _, _, _]) rfl rfl rfl rfl ?_
    refine x_aload_n (pc' := 1445) rfl rfl rfl rfl rfl ?_
    refine x_aload_n (pc' := 1446) rfl rfl rfl rfl rfl ?_
    refine x_iload (pc' := 1448) rfl rfl rfl ?_
    refine x_iconst (pc' := 1449) rfl rfl ?_
    refine x_iadd (pc' := 1450) (z := 1) rfl rfl (by decide) ?_
    refine x_iald (pc' := 1451) (N := 7) (x := (xs 1)) rfl rfl rfl (Eq.trans rdNthr (z_N_29_0 e)) (io_in (p := 1) (N := 7) (by decide) (by decide)) (Eq.trans (congrArg (sA (sThr t) 29 0) (nn_io (p := 1) (by decide))) (Eq.trans rdAthr (z_A_29_0_1 e))) ?_
    refine x_cv (ls0 := [_, _, sJk, sJk]) (rest := []) rfl rfl rfl rfl rfl ?_
    refine x_aload_n (pc' := 1) rfl rfl rfl rfl rfl ?_
    refine x_iload_n (pc' := 2) rfl rfl rfl ?_
    refine x_cv (ls0 := [_, _]) (rest := []) rfl rfl rfl rfl rfl ?_
    refine x_iload_n (pc' := 1) rfl rfl rfl ?_
    refine x_iconst (pc' := 2) rfl rfl ?_
    refine x_aload_n (pc' := 3) rfl rfl rfl rfl rfl ?_
    refine x_gI (pc' := 6) (x := 0) rfl rfl rfl (Eq.trans rdIthr (z_I_801_0 e)) ?_
    refine x_iconst (pc' := 7) rfl rfl ?_
    refine x_isub (pc' := 8) (z := (-1)) rfl rfl (by decide) ?_
    refine x_cs (ls0 := [_, _, _]) (rest := []) rfl rfl rfl rfl ?_
    refine x_iload_n (pc' := 1) rfl rfl rfl ?_
    refine x_iload_n (pc' := 2) rfl rfl rfl ?_
    refine x_icmp (a' := 14) (pc' := 5) (z := decide ((xs 1) < 0)) rfl rfl rfl rfl (fun h => absurd (of_decide_eq_true h) (of_decide_eq_false q3)) (fun _ => ?_)
    refine x_iload_n (pc' := 6) rfl rfl rfl ?_
    refine x_iload_n (pc' := 7) rfl rfl rfl ?_
    refine x_icmp (a' := 14) (pc' := 10) (z := decide ((-1) < (xs 1))) rfl rfl rfl rfl (fun _ => ?_) (fun h => absurd (m1_lt (of_decide_eq_false q3)) (of_decide_eq_false h))
    refine x_iconst (pc' := 15) rfl rfl ?_
    refine x_retz (z := false) rfl rfl ?_
    refine sK_i (pc' := 11) rfl ?_
    refine x_retz (z := false) rfl rfl ?_
    refine sK_i (pc' := 5) rfl ?_
    refine x_istore_n (pc' := 6) (ls' := [_, _, _, _]) rfl rfl rfl rfl ?_
    refine x_iload_n (pc' := 7) rfl rfl rfl ?_
    refine x_if (a' := 51) (pc' := 10) (z := true) rfl rfl rfl (by decide) (fun _ => ?_) (fun h => by cases h)
    refine x_iconst (pc' := 52) rfl rfl ?_
    refine x_istore_n (pc' := 53) (ls' := [_, _, _, _]) rfl rfl rfl rfl ?_
    refine x_aload_n (pc' := 54) rfl rfl rfl rfl rfl ?_
    refine x_iload_n (pc' := 55) rfl rfl rfl ?_
    refine x_if (a' := 62) (pc' := 58) (z := false) rfl rfl rfl (by decide) (fun h => by cases h) (fun _ => ?_)
    refine x_iconst (pc' := 59) rfl rfl ?_
    refine x_goto (pc' := 71) rfl rfl ?_
    refine x_cv (ls0 := [_, _]) (rest := []) rfl rfl rfl rfl rfl ?_
    refine x_aload_n (pc' := 1) rfl rfl rfl rfl rfl ?_
    refine x_iload_n (pc' := 2) rfl rfl rfl ?_
    refine x_pI (pc' := 5) rfl rfl rfl ?_
    refine x_iload_n (pc' := 6) rfl rfl rfl ?_
    refine x_if (a' := 13) (pc' := 9) (z := true) rfl rfl rfl (by decide) (fun _ => ?_) (fun h => by cases h)
    refine x_iconst (pc' := 14) rfl rfl ?_
    refine x_retz (z := false) rfl rfl ?_
    refine sK_i (pc' := 74) rfl ?_
    refine x_if (a' := 79) (pc' := 77) (z := false) rfl rfl rfl (by decide) (fun h => by cases h) (fun _ => ?_)
    refine x_iconst (pc' := 78) rfl rfl ?_
    refine x_reti rfl rfl ?_
    refine sK_i (pc' := 1454) rfl ?_
    refine x_istore (pc' := 1456) (ls' := [_, _, _, _, _, _, _]) rfl rfl rfl rfl ?_
    refine x_aload_n (pc' := 1457) rfl rfl rfl rfl rfl ?_
    refine x_cv (ls0 := [_]) (rest := []) rfl rfl rfl rfl rfl ?_
    refine x_aload_n (pc' := 1) rfl rfl rfl rfl rfl ?_
    refine x_gI (pc' := 4) (x := 1) rfl rfl rfl sI_s ?_
    refine x_reti rfl rfl ?_
    refine sK_i (pc' := 1460) rfl ?_
    refine x_iload (pc' := 1462) rfl rfl rfl ?_
    refine x_icmp (a' := 1467) (pc' := 1465) (z := true) rfl rfl rfl (by decide) (fun _ => ?_) (fun h => by cases h)
    refine x_iload (pc' := 1469) rfl rfl rfl ?_
    refine x_if (a' := 1484) (pc' := 1472) (z := true) rfl rfl rfl (by decide) (fun _ => ?_) (fun h => by cases h)
    refine x_goto (pc' := 2938) rfl rfl ?_
    refine x_iinc (pc' := 2941) (y := 7) (ls' := [_, _, _, _, _, _, _]) rfl rfl rfl rfl rfl ?_
    refine x_goto (pc' := 23) rfl rfl ?_
    refine x_iload (pc' := 25) rfl rfl rfl ?_
    refine x_aload_n (pc' := 26) rfl rfl rfl rfl rfl ?_
    refine x_alen (pc' := 27) (N := 7) rfl rfl rfl (Eq.trans rdNI (Eq.trans rdNthr (z_N_29_0 e))) (?_ : X _ _ _ (.inl 7 :: _) _ _)
    refine x_bipush (pc' := 29) rfl rfl ?_
    refine x_isub (pc' := 30) (z := 0) rfl rfl (by decide) ?_
    refine x_icmp (a' := 2944) (pc' := 33) (z := true) rfl rfl rfl (by decide) (fun _ => ?_) (fun h => by cases h)
    refine x_iconst (pc' := 2945) rfl rfl ?_
    refine x_retz (z := true) rfl rfl ?_
    exact Qp_ok e (p := 1) (q := 6) rfl rfl rfl rfl
set_option maxHeartbeats 4000000 in
set_option maxRecDepth 10000 in
theorem v_16_0_i {t : sT} {xs : Nat → Int32}
    (e : t = T16 7 xs)
    (hk : ((xs 0) &&& 63) = 16)
    (e0 : xs 1 = 0) :
    X 297 23 [.inr (.inr (29, (some 0))), .inr (.inr (11, (some 0))), .inr (.inr (12, (some 0))), .inr (.inr (23, (some 0))), .inl 0, sJk, sJk] [] t Qp := by
  refine x_iload (pc' := 25) rfl rfl rfl ?_
  refine x_aload_n (pc' := 26) rfl rfl rfl rfl rfl ?_
  refine x_alen (pc' := 27) (N := 7) rfl rfl rfl (z_N_29_0 e) (?_ : X _ _ _ (.inl 7 :: _) _ _)
  refine x_bipush (pc' := 29) rfl rfl ?_
  refine x_isub (pc' := 30) (z := 0) rfl rfl (by decide) ?_
  refine x_icmp (a' := 2944) (pc' := 33) (z := false) rfl rfl rfl (by decide) (fun h => by cases h) (fun _ => ?_)
  refine x_aload_n (pc' := 34) rfl rfl rfl rfl rfl ?_
  refine x_iload (pc' := 36) rfl rfl rfl ?_
  refine x_iald (pc' := 37) (N := 7) (x := (xs 0)) rfl rfl rfl (z_N_29_0 e) (io_in (p := 0) (N := 7) (by decide) (by decide)) (Eq.trans (congrArg (sA t 29 0) (nn_io (p := 0) (by decide))) (z_A_29_0_0 e)) ?_
  refine x_bipush (pc' := 39) rfl rfl ?_
  refine x_iand (pc' := 40) (z := ((xs 0) &&& 63)) rfl rfl rfl ?_
  refine x_switch (pc' := 1487) rfl (by rw [hk]; decide) ?_
  refine x_aload_n (pc' := 1488) rfl rfl rfl rfl rfl ?_
  refine x_aload_n (pc' := 1489) rfl rfl rfl rfl rfl ?_
  refine x_iload (pc' := 1491) rfl rfl rfl ?_
  refine x_iconst (pc' := 1492) rfl rfl ?_
  refine x_iadd (pc' := 1493) (z := 1) rfl rfl (by decide) ?_
  refine x_iald (pc' := 1494) (N := 7) (x := 0) rfl rfl rfl (z_N_29_0 e) (io_in (p := 1) (N := 7) (by decide) (by decide)) (Eq.trans (congrArg (sA t 29 0) (nn_io (p := 1) (by decide))) (Eq.trans (z_A_29_0_1 e) e0)) ?_
  refine x_aload_n (pc' := 1495) rfl rfl rfl rfl rfl ?_
  refine x_iload (pc' := 1497) rfl rfl rfl ?_
  refine x_iconst (pc' := 1498) rfl rfl ?_
  refine x_iadd (pc' := 1499) (z := 2) rfl rfl (by decide) ?_
  refine x_iald (pc' := 1500) (N := 7) (x := (xs 2)) rfl rfl rfl (z_N_29_0 e) (io_in (p := 2) (N := 7) (by decide) (by decide)) (Eq.trans (congrArg (sA t 29 0) (nn_io (p := 2) (by decide))) (z_A_29_0_2 e)) ?_
  refine x_aload_n (pc' := 1501) rfl rfl rfl rfl rfl ?_
  refine x_cs (ls0 := [_, _, _, _, sJk]) (rest := []) rfl rfl rfl rfl ?_
  refine x_aload_n (pc' := 1) rfl rfl rfl rfl rfl ?_
  refine x_iconst (pc' := 2) rfl rfl ?_
  refine x_aload_n (pc' := 3) rfl rfl rfl rfl rfl ?_
  refine x_iload_n (pc' := 4) rfl rfl rfl ?_
  refine x_iload_n (pc' := 5) rfl rfl rfl ?_
  refine x_cv (ls0 := [_, _, _, sJk]) (rest := [_, _]) rfl rfl rfl rfl rfl ?_
  refine x_aload_n (pc' := 1) rfl rfl rfl rfl rfl ?_
  refine x_iload_n (pc' := 2) rfl rfl rfl ?_
  refine x_cv (ls0 := [_, _]) (rest := []) rfl rfl rfl rfl rfl ?_
  refine x_iload_n (pc' := 1) rfl rfl rfl ?_
  refine x_if (a' := 16) (pc' := 4) (z := false) rfl rfl rfl (by decide) (fun h => by cases h) (fun _ => ?_)
  refine x_iload_n (pc' := 5) rfl rfl rfl ?_
  refine x_aload_n (pc' := 6) rfl rfl rfl rfl rfl ?_
  refine x_gR (pc' := 9) (r := (some 0)) rfl rfl rfl (z_R_704_0 e) ?_
  refine x_gR (pc' := 12) (r := (some 0)) rfl rfl rfl (z_R_321_0 e) ?_
  refine x_alen (pc' := 13) (N := 6) rfl rfl rfl (z_N_26_0 e) (?_ : X _ _ _ (.inl 6 :: _) _ _)
  refine x_icmp (a' := 27) (pc' := 16) (z := true) rfl rfl rfl (by decide) (fun _ => ?_) (fun h => by cases h)
  refine x_aload_n (pc' := 28) rfl rfl rfl rfl rfl ?_
  refine x_gR (pc' := 31) (r := (some 0)) rfl rfl rfl (z_R_704_0 e) ?_
  refine x_gR (pc' := 34) (r := (some 0)) rfl rfl rfl (z_R_321_0 e) ?_
  refine x_iload_n (pc' := 35) rfl rfl rfl ?_
  refine x_aald (pc' := 36) (N := 6) (k' := 7) (r := (some 0)) rfl rfl rfl (z_N_26_0 e) (io_in (p := 0) (N := 6) (by decide) (by decide)) (Eq.trans (congrArg (sE t 26 0) (nn_io (p := 0) (by decide))) (z_E_26_0_0 e)) ?_
  refine x_reta rfl rfl ?_
  refine sK_i (pc' := 5) rfl ?_
  refine x_astore_n (pc' := 6) (ls' := [_, _, _, _]) rfl rfl rfl rfl rfl ?_
  refine x_iload_n (pc' := 7) rfl rfl rfl ?_
  refine x_ldc (pc' := 9) rfl rfl ?_
  refine x_ldc (pc' := 11) rfl rfl ?_
  refine x_cs (ls0 := [_, _, _]) (rest := []) rfl rfl rfl rfl ?_
  refine x_iload_n (pc' := 1) rfl rfl rfl ?_
  refine x_iload_n (pc' := 2) rfl rfl rfl ?_
  refine x_icmp (a' := 10) (pc' := 5) (z := decide ((xs 2) < (-1000000))) rfl rfl rfl rfl (fun q5 => ?_) (fun q5 => ?_)
  · refine x_throw rfl rfl ?_
    refine sK_n (by decide +kernel) rfl ?_
    refine sK_h (h := 17) (by decide +kernel) rfl ?_
    refine x_catch (pc' := 19) (ls' := [_, _, _, _, _]) rfl rfl rfl rfl ?_
    refine x_iconst (pc' := 20) rfl rfl ?_
    refine x_reti rfl rfl ?_
    refine sK_i (pc' := 1504) rfl ?_
    refine x_istore (pc' := 1506) (ls' := [_, _, _, _, _, _, _]) rfl rfl rfl rfl ?_
    refine x_aload_n (pc' := 1507) rfl rfl rfl rfl rfl ?_
    refine x_aload_n (pc' := 1508) rfl rfl rfl rfl rfl ?_
    refine x_iload (pc' := 1510) rfl rfl rfl ?_
    refine x_iconst (pc' := 1511) rfl rfl ?_
    refine x_iadd (pc' := 1512) (z := 1) rfl rfl (by decide) ?_
    refine x_iald (pc' := 1513) (N := 7) (x := 0) rfl rfl rfl (Eq.trans rdNthr (z_N_29_0 e)) (io_in (p := 1) (N := 7) (by decide) (by decide)) (Eq.trans (congrArg (sA (sThr t) 29 0) (nn_io (p := 1) (by decide))) (Eq.trans rdAthr (Eq.trans (z_A_29_0_1 e) e0))) ?_
    refine x_aload_n (pc' := 1514) rfl rfl rfl rfl rfl ?_
    refine x_iload (pc' := 1516) rfl rfl rfl ?_
    refine x_iconst (pc' := 1517) rfl rfl ?_
    refine x_iadd (pc' := 1518) (z := 2) rfl rfl (by decide) ?_
    refine x_iald (pc' := 1519) (N := 7) (x := (xs 2)) rfl rfl rfl (Eq.trans rdNthr (z_N_29_0 e)) (io_in (p := 2) (N := 7) (by decide) (by decide)) (Eq.trans (congrArg (sA (sThr t) 29 0) (nn_io (p := 2) (by decide))) (Eq.trans rdAthr (z_A_29_0_2 e))) ?_
    refine x_cv (ls0 := [_, _, _, sJk, sJk, sJk]) (rest := []) rfl rfl rfl rfl rfl ?_
    refine x_iload_n (pc' := 1) rfl rfl rfl ?_
    refine x_cs (ls0 := [_]) (rest := []) rfl rfl rfl rfl ?_
    refine x_iload_n (pc' := 1) rfl rfl rfl ?_
    refine x_iconst (pc' := 2) rfl rfl ?_
    refine x_iconst (pc' := 3) rfl rfl ?_
    refine x_cs (ls0 := [_, _, _]) (rest := []) rfl rfl rfl rfl ?_
    refine x_iload_n (pc' := 1) rfl rfl rfl ?_
    refine x_iload_n (pc' := 2) rfl rfl rfl ?_
    refine x_icmp (a' := 14) (pc' := 5) (z := false) rfl rfl rfl (by decide) (fun h => by cases h) (fun _ => ?_)
    refine x_iload_n (pc' := 6) rfl rfl rfl ?_
    refine x_iload_n (pc' := 7) rfl rfl rfl ?_
    refine x_icmp (a' := 14) (pc' := 10) (z := false) rfl rfl rfl (by decide) (fun h => by cases h) (fun _ => ?_)
    refine x_iconst (pc' := 11) rfl rfl ?_
    refine x_goto (pc' := 15) rfl rfl ?_
    refine x_retz (z := true) rfl rfl ?_
    refine sK_i (pc' := 6) rfl ?_
    refine x_retz (z := true) rfl rfl ?_
    refine sK_i (pc' := 4) rfl ?_
    refine x_istore_n (pc' := 5) (ls' := [_, _, _, _, _, _]) rfl rfl rfl rfl ?_
    refine x_aload_n (pc' := 6) rfl rfl rfl rfl rfl ?_
    refine x_iload_n (pc' := 7) rfl rfl rfl ?_
    refine x_if (a' := 14) (pc' := 10) (z := true) rfl rfl rfl (by decide) (fun _ => ?_) (fun h => by cases h)
    refine x_iload_n (pc' := 15) rfl rfl rfl ?_
    refine x_ldc_w (pc' := 18) rfl rfl ?_
    refine x_ldc_w (pc' := 21) rfl rfl ?_
    refine x_cs (ls0 := [_, _, _]) (rest := [_]) rfl rfl rfl rfl ?_
    refine x_iload_n (pc' := 1) rfl rfl rfl ?_
    refine x_iload_n (pc' := 2) rfl rfl rfl ?_
    refine x_icmp (a' := 14) (pc' := 5) (z := decide ((xs 2) < (-1000000))) rfl rfl rfl rfl (fun _ => ?_) (fun h => absurd (of_decide_eq_true q5) (of_decide_eq_false h))
    refine x_iconst (pc' := 15) rfl rfl ?_
    refine x_retz (z := false) rfl rfl ?_
    refine sK_i (pc' := 24) rfl ?_
    refine x_if (a' := 31) (pc' := 27) (z := false) rfl rfl rfl (by decide) (fun h => by cases h) (fun _ => ?_)
    refine x_iconst (pc' := 28) rfl rfl ?_
    refine x_goto (pc' := 45) rfl rfl ?_
    refine x_cv (ls0 := [_, _]) (rest := []) rfl rfl rfl rfl rfl ?_
    refine x_aload_n (pc' := 1) rfl rfl rfl rfl rfl ?_
    refine x_iload_n (pc' := 2) rfl rfl rfl ?_
    refine x_pI (pc' := 5) rfl rfl rfl ?_
    refine x_iload_n (pc' := 6) rfl rfl rfl ?_
    refine x_if (a' := 13) (pc' := 9) (z := true) rfl rfl rfl (by decide) (fun _ => ?_) (fun h => by cases h)
    refine x_iconst (pc' := 14) rfl rfl ?_
    refine x_retz (z := false) rfl rfl ?_
    refine sK_i (pc' := 48) rfl ?_
    refine x_if (a' := 53) (pc' := 51) (z := false) rfl rfl rfl (by decide) (fun h => by cases h) (fun _ => ?_)
    refine x_iconst (pc' := 52) rfl rfl ?_
    refine x_reti rfl rfl ?_
    refine sK_i (pc' := 1522) rfl ?_
    refine x_istore (pc' := 1524) (ls' := [_, _, _, _, _, _, _]) rfl rfl rfl rfl ?_
    refine x_aload_n (pc' := 1525) rfl rfl rfl rfl rfl ?_
    refine x_cv (ls0 := [_]) (rest := []) rfl rfl rfl rfl rfl ?_
    refine x_aload_n (pc' := 1) rfl rfl rfl rfl rfl ?_
    refine x_gI (pc' := 4) (x := 2) rfl rfl rfl sI_s ?_
    refine x_reti rfl rfl ?_
    refine sK_i (pc' := 1528) rfl ?_
    refine x_iload (pc' := 1530) rfl rfl rfl ?_
    refine x_icmp (a' := 1535) (pc' := 1533) (z := true) rfl rfl rfl (by decide) (fun _ => ?_) (fun h => by cases h)
    refine x_iload (pc' := 1537) rfl rfl rfl ?_
    refine x_if (a' := 1552) (pc' := 1540) (z := true) rfl rfl rfl (by decide) (fun _ => ?_) (fun h => by cases h)
    refine x_goto (pc' := 2938) rfl rfl ?_
    refine x_iinc (pc' := 2941) (y := 7) (ls' := [_, _, _, _, _, _, _]) rfl rfl rfl rfl rfl ?_
    refine x_goto (pc' := 23) rfl rfl ?_
    refine x_iload (pc' := 25) rfl rfl rfl ?_
    refine x_aload_n (pc' := 26) rfl rfl rfl rfl rfl ?_
    refine x_alen (pc' := 27) (N := 7) rfl rfl rfl (Eq.trans rdNI (Eq.trans rdNthr (z_N_29_0 e))) (?_ : X _ _ _ (.inl 7 :: _) _ _)
    refine x_bipush (pc' := 29) rfl rfl ?_
    refine x_isub (pc' := 30) (z := 0) rfl rfl (by decide) ?_
    refine x_icmp (a' := 2944) (pc' := 33) (z := true) rfl rfl rfl (by decide) (fun _ => ?_) (fun h => by cases h)
    refine x_iconst (pc' := 2945) rfl rfl ?_
    refine x_retz (z := true) rfl rfl ?_
    exact Qp_ok e (p := 1) (q := 6) rfl rfl rfl rfl
  · refine x_iload_n (pc' := 6) rfl rfl rfl ?_
    refine x_iload_n (pc' := 7) rfl rfl rfl ?_
    refine x_icmp_n (a' := 21) (pc' := 10) (z := decide (1000000 < (xs 2))) rfl rfl rfl (ik_le _ _) (fun q16 => ?_) (fun q16 => ?_)
    · refine x_ret rfl ?_
      refine sK_v (pc' := 14) rfl ?_
      refine x_aload_n (pc' := 15) rfl rfl rfl rfl rfl ?_
      refine x_gZ (pc' := 18) (z := false) rfl rfl rfl (z_Z_458_0 e) ?_
      refine x_if (a' := 25) (pc' := 21) (z := false) rfl rfl rfl (by decide) (fun h => by cases h) (fun _ => ?_)
      refine x_iconst (pc' := 22) rfl rfl ?_
      refine x_goto (pc' := 26) rfl rfl ?_
      refine x_cs (ls0 := [_]) (rest := []) rfl rfl rfl rfl ?_
      refine x_iload_n (pc' := 1) rfl rfl rfl ?_
      refine x_if (a' := 15) (pc' := 4) (z := true) rfl rfl rfl (by decide) (fun _ => ?_) (fun h => by cases h)
      refine x_ret rfl ?_
      refine sK_v (pc' := 29) rfl ?_
      refine x_aload_n (pc' := 30) rfl rfl rfl rfl rfl ?_
      refine x_iconst (pc' := 31) rfl rfl ?_
      refine x_pZ (pc' := 34) (z := true) rfl rfl rfl rfl ?_
      refine x_aload_n (pc' := 35) rfl rfl rfl rfl rfl ?_
      refine x_iload_n (pc' := 36) rfl rfl rfl ?_
      refine x_pI (pc' := 39) rfl rfl rfl ?_
      refine x_aload_n (pc' := 40) rfl rfl rfl rfl rfl ?_
      refine x_gR (pc' := 43) (r := (some 0)) rfl rfl rfl (Eq.trans rdRI (Eq.trans rdRZ (z_R_704_0 e))) ?_
      refine x_cv (ls0 := [_, sJk, sJk, sJk, sJk, sJk]) (rest := []) rfl rfl rfl rfl rfl ?_
      refine x_iconst (pc' := 1) rfl rfl ?_
      refine x_istore_n (pc' := 2) (ls' := [_, _, _, _, _, _]) rfl rfl rfl rfl ?_
      refine x_aload_n (pc' := 3) rfl rfl rfl rfl rfl ?_
      refine x_gR (pc' := 6) (r := (some 0)) rfl rfl rfl (Eq.trans rdRI (Eq.trans rdRZ (z_R_321_0 e))) ?_
      refine x_astore_n (pc' := 7) (ls' := [_, _, _, _, _, _]) rfl rfl rfl rfl rfl ?_
      refine x_aload_n (pc' := 8) rfl rfl rfl rfl rfl ?_
      refine x_alen (pc' := 9) (N := 6) rfl rfl rfl (Eq.trans rdNI (Eq.trans rdNZ (z_N_26_0 e))) (?_ : X _ _ _ (.inl 6 :: _) _ _)
      refine x_istore_n (pc' := 10) (ls' := [_, _, _, _, _, _]) rfl rfl rfl rfl ?_
      refine x_iconst (pc' := 11) rfl rfl ?_
      refine x_istore (pc' := 13) (ls' := [_, _, _, _, _, _]) rfl rfl rfl rfl ?_
      refine x_iload (pc' := 15) rfl rfl rfl ?_
      refine x_iload_n (pc' := 16) rfl rfl rfl ?_
      refine x_icmp (a' := 47) (pc' := 19) (z := false) rfl rfl rfl (by decide) (fun h => by cases h) (fun _ => ?_)
      refine x_aload_n (pc' := 20) rfl rfl rfl rfl rfl ?_
      refine x_iload (pc' := 22) rfl rfl rfl ?_
      refine x_aald (pc' := 23) (N := 6) (k' := 7) (r := (some 0)) rfl rfl rfl (Eq.trans rdNI (Eq.trans rdNZ (z_N_26_0 e))) (io_in (p := 0) (N := 6) (by decide) (by decide)) (Eq.trans (congrArg (sE (sIw (sZw t 457 0 true) 456 0 (xs 2)) 26 0) (nn_io (p := 0) (by decide))) (Eq.trans rdEI (Eq.trans rdEZ (z_E_26_0_0 e)))) ?_
      refine x_astore (pc' := 25) (ls' := [_, _, _, _, _, _]) rfl rfl rfl rfl rfl ?_
      refine x_iload_n (pc' := 26) rfl rfl rfl ?_
      refine x_aload (pc' := 28) rfl rfl rfl rfl rfl ?_
      refine x_gZ (pc' := 31) (z := true) rfl rfl rfl (Eq.trans rdZI sZ_s) ?_
      refine x_if (a' := 38) (pc' := 34) (z := false) rfl rfl rfl (by decide) (fun h => by cases h) (fun _ => ?_)
      refine x_iconst (pc' := 35) rfl rfl ?_
      refine x_goto (pc' := 39) rfl rfl ?_
      refine x_iadd (pc' := 40) (z := 1) rfl rfl (by decide) ?_
      refine x_istore_n (pc' := 41) (ls' := [_, _, _, _, _, _]) rfl rfl rfl rfl ?_
      refine x_iinc (pc' := 44) (y := 1) (ls' := [_, _, _, _, _, _]) rfl rfl rfl rfl rfl ?_
      refine x_goto (pc' := 13) rfl rfl ?_
      refine x_iload (pc' := 15) rfl rfl rfl ?_
      refine x_iload_n (pc' := 16) rfl rfl rfl ?_
      refine x_icmp (a' := 47) (pc' := 19) (z := false) rfl rfl rfl (by decide) (fun h => by cases h) (fun _ => ?_)
      refine x_aload_n (pc' := 20) rfl rfl rfl rfl rfl ?_
      refine x_iload (pc' := 22) rfl rfl rfl ?_
      refine x_aald (pc' := 23) (N := 6) (k' := 7) (r := (some 1)) rfl rfl rfl (Eq.trans rdNI (Eq.trans rdNZ (z_N_26_0 e))) (io_in (p := 1) (N := 6) (by decide) (by decide)) (Eq.trans (congrArg (sE (sIw (sZw t 457 0 true) 456 0 (xs 2)) 26 0) (nn_io (p := 1) (by decide))) (Eq.trans rdEI (Eq.trans rdEZ (z_E_26_0_1 e)))) ?_
      refine x_astore (pc' := 25) (ls' := [_, _, _, _, _, _]) rfl rfl rfl rfl rfl ?_
      refine x_iload_n (pc' := 26) rfl rfl rfl ?_
      refine x_aload (pc' := 28) rfl rfl rfl rfl rfl ?_
      refine x_gZ (pc' := 31) (z := false) rfl rfl rfl (Eq.trans rdZI (Eq.trans (rdZ_o rfl) (z_Z_457_1 e))) ?_
      refine x_if (a' := 38) (pc' := 34) (z := true) rfl rfl rfl (by decide) (fun _ => ?_) (fun h => by cases h)
      refine x_iconst (pc' := 39) rfl rfl ?_
      refine x_iadd (pc' := 40) (z := 1) rfl rfl (by decide) ?_
      refine x_istore_n (pc' := 41) (ls' := [_, _, _, _, _, _]) rfl rfl rfl rfl ?_
      refine x_iinc (pc' := 44) (y := 2) (ls' := [_, _, _, _, _, _]) rfl rfl rfl rfl rfl ?_
      refine x_goto (pc' := 13) rfl rfl ?_
      refine x_iload (pc' := 15) rfl rfl rfl ?_
      refine x_iload_n (pc' := 16) rfl rfl rfl ?_
      refine x_icmp (a' := 47) (pc' := 19) (z := false) rfl rfl rfl (by decide) (fun h => by cases h) (fun _ => ?_)
      refine x_aload_n (pc' := 20) rfl rfl rfl rfl rfl ?_
      refine x_iload (pc' := 22) rfl rfl rfl ?_
      refine x_aald (pc' := 23) (N := 6) (k' := 7) (r := (some 2)) rfl rfl rfl (Eq.trans rdNI (Eq.trans rdNZ (z_N_26_0 e))) (io_in (p := 2) (N := 6) (by decide) (by decide)) (Eq.trans (congrArg (sE (sIw (sZw t 457 0 true) 456 0 (xs 2)) 26 0) (nn_io (p := 2) (by decide))) (Eq.trans rdEI (Eq.trans rdEZ (z_E_26_0_2 e)))) ?_
      refine x_astore (pc' := 25) (ls' := [_, _, _, _, _, _]) rfl rfl rfl rfl rfl ?_
      refine x_iload_n (pc' := 26) rfl rfl rfl ?_
      refine x_aload (pc' := 28) rfl rfl rfl rfl rfl ?_
      refine x_gZ (pc' := 31) (z := false) rfl rfl rfl (Eq.trans rdZI (Eq.trans (rdZ_o rfl) (z_Z_457_2 e))) ?_
      refine x_if (a' := 38) (pc' := 34) (z := true) rfl rfl rfl (by decide) (fun _ => ?_) (fun h => by cases h)
      refine x_iconst (pc' := 39) rfl rfl ?_
      refine x_iadd (pc' := 40) (z := 1) rfl rfl (by decide) ?_
      refine x_istore_n (pc' := 41) (ls' := [_, _, _, _, _, _]) rfl rfl rfl rfl ?_
      refine x_iinc (pc' := 44) (y := 3) (ls' := [_, _, _, _, _, _]) rfl rfl rfl rfl rfl ?_
      refine x_goto (pc' := 13) rfl rfl ?_
      refine x_iload (pc' := 15) rfl rfl rfl ?_
      refine x_iload_n (pc' := 16) rfl rfl rfl ?_
      refine x_icmp (a' := 47) (pc' := 19) (z := false) rfl rfl rfl (by decide) (fun h => by cases h) (fun _ => ?_)
      refine x_aload_n (pc' := 20) rfl rfl rfl rfl rfl ?_
      refine x_iload (pc' := 22) rfl rfl rfl ?_
      refine x_aald (pc' := 23) (N := 6) (k' := 7) (r := (some 3)) rfl rfl rfl (Eq.trans rdNI (Eq.trans rdNZ (z_N_26_0 e))) (io_in (p := 3) (N := 6) (by decide) (by decide)) (Eq.trans (congrArg (sE (sIw (sZw t 457 0 true) 456 0 (xs 2)) 26 0) (nn_io (p := 3) (by decide))) (Eq.trans rdEI (Eq.trans rdEZ (z_E_26_0_3 e)))) ?_
      refine x_astore (pc' := 25) (ls' := [_, _, _, _, _, _]) rfl rfl rfl rfl rfl ?_
      refine x_iload_n (pc' := 26) rfl rfl rfl ?_
      refine x_aload (pc' := 28) rfl rfl rfl rfl rfl ?_
      refine x_gZ (pc' := 31) (z := false) rfl rfl rfl (Eq.trans rdZI (Eq.trans (rdZ_o rfl) (z_Z_457_3 e))) ?_
      refine x_if (a' := 38) (pc' := 34) (z := true) rfl rfl rfl (by decide) (fun _ => ?_) (fun h => by cases h)
      refine x_iconst (pc' := 39) rfl rfl ?_
      refine x_iadd (pc' := 40) (z := 1) rfl rfl (by decide) ?_
      refine x_istore_n (pc' := 41) (ls' := [_, _, _, _, _, _]) rfl rfl rfl rfl ?_
      refine x_iinc (pc' := 44) (y := 4) (ls' := [_, _, _, _, _, _]) rfl rfl rfl rfl rfl ?_
      refine x_goto (pc' := 13) rfl rfl ?_
      refine x_iload (pc' := 15) rfl rfl rfl ?_
      refine x_iload_n (pc' := 16) rfl rfl rfl ?_
      refine x_icmp (a' := 47) (pc' := 19) (z := false) rfl rfl rfl (by decide) (fun h => by cases h) (fun _ => ?_)
      refine x_aload_n (pc' := 20) rfl rfl rfl rfl rfl ?_
      refine x_iload (pc' := 22) rfl rfl rfl ?_
      refine x_aald (pc' := 23) (N := 6) (k' := 7) (r := (some 4)) rfl rfl rfl (Eq.trans rdNI (Eq.trans rdNZ (z_N_26_0 e))) (io_in (p := 4) (N := 6) (by decide) (by decide)) (Eq.trans (congrArg (sE (sIw (sZw t 457 0 true) 456 0 (xs 2)) 26 0) (nn_io (p := 4) (by decide))) (Eq.trans rdEI (Eq.trans rdEZ (z_E_26_0_4 e)))) ?_
      refine x_astore (pc' := 25) (ls' := [_, _, _, _, _, _]) rfl rfl rfl rfl rfl ?_
      refine x_iload_n (pc' := 26) rfl rfl rfl ?_
      refine x_aload (pc' := 28) rfl rfl rfl rfl rfl ?_
      refine x_gZ (pc' := 31) (z := false) rfl rfl rfl (Eq.trans rdZI (Eq.trans (rdZ_o rfl) (z_Z_457_4 e))) ?_
      refine x_if (a' := 38) (pc' := 34) (z := true) rfl rfl rfl (by decide) (fun _ => ?_) (fun h => by cases h)
      refine x_iconst (pc' := 39) rfl rfl ?_
      refine x_iadd (pc' := 40) (z := 1) rfl rfl (by decide) ?_
      refine x_istore_n (pc' := 41) (ls' := [_, _, _, _, _, _]) rfl rfl rfl rfl ?_
      refine x_iinc (pc' := 44) (y := 5) (ls' := [_, _, _, _, _, _]) rfl rfl rfl rfl rfl ?_
      refine x_goto (pc' := 13) rfl rfl ?_
      refine x_iload (pc' := 15) rfl rfl rfl ?_
      refine x_iload_n (pc' := 16) rfl rfl rfl ?_
      refine x_icmp (a' := 47) (pc' := 19) (z := false) rfl rfl rfl (by decide) (fun h => by cases h) (fun _ => ?_)
      refine x_aload_n (pc' := 20) rfl rfl rfl rfl rfl ?_
      refine x_iload (pc' := 22) rfl rfl rfl ?_
      refine x_aald (pc' := 23) (N := 6) (k' := 7) (r := (some 5)) rfl rfl rfl (Eq.trans rdNI (Eq.trans rdNZ (z_N_26_0 e))) (io_in (p := 5) (N := 6) (by decide) (by decide)) (Eq.trans (congrArg (sE (sIw (sZw t 457 0 true) 456 0 (xs 2)) 26 0) (nn_io (p := 5) (by decide))) (Eq.trans rdEI (Eq.trans rdEZ (z_E_26_0_5 e)))) ?_
      refine x_astore (pc' := 25) (ls' := [_, _, _, _, _, _]) rfl rfl rfl rfl rfl ?_
      refine x_iload_n (pc' := 26) rfl rfl rfl ?_
      refine x_aload (pc' := 28) rfl rfl rfl rfl rfl ?_
      refine x_gZ (pc' := 31) (z := false) rfl rfl rfl (Eq.trans rdZI (Eq.trans (rdZ_o rfl) (z_Z_457_5 e))) ?_
      refine x_if (a' := 38) (pc' := 34) (z := true) rfl rfl rfl (by decide) (fun _ => ?_) (fun h => by cases h)
      refine x_iconst (pc' := 39) rfl rfl ?_
      refine x_iadd (pc' := 40) (z := 1) rfl rfl (by decide) ?_
      refine x_istore_n (pc' := 41) (ls' := [_, _, _, _, _, _]) rfl rfl rfl rfl ?_
      refine x_iinc (pc' := 44) (y := 6) (ls' := [_, _, _, _, _, _]) rfl rfl rfl rfl rfl ?_
      refine x_goto (pc' := 13) rfl rfl ?_
      refine x_iload (pc' := 15) rfl rfl rfl ?_
      refine x_iload_n (pc' := 16) rfl rfl rfl ?_
      refine x_icmp (a' := 47) (pc' := 19) (z := true) rfl rfl rfl (by decide) (fun _ => ?_) (fun h => by cases h)
      refine x_iload_n (pc' := 48) rfl rfl rfl ?_
      refine x_reti rfl rfl ?_
      refine sK_i (pc' := 46) rfl ?_
      refine x_reti rfl rfl ?_
      refine sK_i (pc' := 8) rfl ?_
      refine x_i2l (pc' := 9) (z := (1 : Int64)) rfl rfl (by decide) ?_
      refine x_last (pc' := 10) (N := 1) (p := 0) rfl rfl (Eq.trans rdNI (Eq.trans rdNZ (z_N_23_0 e))) (io_in (p := 0) (N := 1) (by decide) (by decide)) (nn_io (p := 0) (by decide)) ?_
      refine x_goto (pc' := 25) rfl rfl ?_
      refine x_iconst (pc' := 26) rfl rfl ?_
      refine x_reti rfl rfl ?_
      refine sK_i (pc' := 1504) rfl ?_
      refine x_istore (pc' := 1506) (ls' := [_, _, _, _, _, _, _]) rfl rfl rfl rfl ?_
      refine x_aload_n (pc' := 1507) rfl rfl rfl rfl rfl ?_
      refine x_aload_n (pc' := 1508) rfl rfl rfl rfl rfl ?_
      refine x_iload (pc' := 1510) rfl rfl rfl ?_
      refine x_iconst (pc' := 1511) rfl rfl ?_
      refine x_iadd (pc' := 1512) (z := 1) rfl rfl (by decide) ?_
      refine x_iald (pc' := 1513) (N := 7) (x := 0) rfl rfl rfl (Eq.trans rdNL (Eq.trans rdNI (Eq.trans rdNZ (z_N_29_0 e)))) (io_in (p := 1) (N := 7) (by decide) (by decide)) (Eq.trans (congrArg (sA (sLw (sIw (sZw t 457 0 true) 456 0 (xs 2)) 23 0 0 (1 : Int64)) 29 0) (nn_io (p := 1) (by decide))) (Eq.trans rdAL (Eq.trans rdAI (Eq.trans rdAZ (Eq.trans (z_A_29_0_1 e) e0))))) ?_
      refine x_aload_n (pc' := 1514) rfl rfl rfl rfl rfl ?_
      refine x_iload (pc' := 1516) rfl rfl rfl ?_
      refine x_iconst (pc' := 1517) rfl rfl ?_
      refine x_iadd (pc' := 1518) (z := 2) rfl rfl (by decide) ?_
      refine x_iald (pc' := 1519) (N := 7) (x := (xs 2)) rfl rfl rfl (Eq.trans rdNL (Eq.trans rdNI (Eq.trans rdNZ (z_N_29_0 e)))) (io_in (p := 2) (N := 7) (by decide) (by decide)) (Eq.trans (congrArg (sA (sLw (sIw (sZw t 457 0 true) 456 0 (xs 2)) 23 0 0 (1 : Int64)) 29 0) (nn_io (p := 2) (by decide))) (Eq.trans rdAL (Eq.trans rdAI (Eq.trans rdAZ (z_A_29_0_2 e))))) ?_
      refine x_cv (ls0 := [_, _, _, sJk, sJk, sJk]) (rest := []) rfl rfl rfl rfl rfl ?_
      refine x_iload_n (pc' := 1) rfl rfl rfl ?_
      refine x_cs (ls0 := [_]) (rest := []) rfl rfl rfl rfl ?_
      refine x_iload_n (pc' := 1) rfl rfl rfl ?_
      refine x_iconst (pc' := 2) rfl rfl ?_
      refine x_iconst (pc' := 3) rfl rfl ?_
      refine x_cs (ls0 := [_, _, _]) (rest := []) rfl rfl rfl rfl ?_
      refine x_iload_n (pc' := 1) rfl rfl rfl ?_
      refine x_iload_n (pc' := 2) rfl rfl rfl ?_
      refine x_icmp (a' := 14) (pc' := 5) (z := false) rfl rfl rfl (by decide) (fun h => by cases h) (fun _ => ?_)
      refine x_iload_n (pc' := 6) rfl rfl rfl ?_
      refine x_iload_n (pc' := 7) rfl rfl rfl ?_
      refine x_icmp (a' := 14) (pc' := 10) (z := false) rfl rfl rfl (by decide) (fun h => by cases h) (fun _ => ?_)
      refine x_iconst (pc' := 11) rfl rfl ?_
      refine x_goto (pc' := 15) rfl rfl ?_
      refine x_retz (z := true) rfl rfl ?_
      refine sK_i (pc' := 6) rfl ?_
      refine x_retz (z := true) rfl rfl ?_
      refine sK_i (pc' := 4) rfl ?_
      refine x_istore_n (pc' := 5) (ls' := [_, _, _, _, _, _]) rfl rfl rfl rfl ?_
      refine x_aload_n (pc' := 6) rfl rfl rfl rfl rfl ?_
      refine x_iload_n (pc' := 7) rfl rfl rfl ?_
      refine x_if (a' := 14) (pc' := 10) (z := true) rfl rfl rfl (by decide) (fun _ => ?_) (fun h => by cases h)
      refine x_iload_n (pc' := 15) rfl rfl rfl ?_
      refine x_ldc_w (pc' := 18) rfl rfl ?_
      refine x_ldc_w (pc' := 21) rfl rfl ?_
      refine x_cs (ls0 := [_, _, _]) (rest := [_]) rfl rfl rfl rfl ?_
      refine x_iload_n (pc' := 1) rfl rfl rfl ?_
      refine x_iload_n (pc' := 2) rfl rfl rfl ?_
      refine x_icmp (a' := 14) (pc' := 5) (z := decide ((xs 2) < (-1000000))) rfl rfl rfl rfl (fun h => absurd (of_decide_eq_true h) (of_decide_eq_false q5)) (fun _ => ?_)
      refine x_iload_n (pc' := 6) rfl rfl rfl ?_
      refine x_iload_n (pc' := 7) rfl rfl rfl ?_
      refine x_icmp (a' := 14) (pc' := 10) (z := decide (1000000 < (xs 2))) rfl rfl rfl rfl (fun h => absurd (of_decide_eq_true h) (of_decide_eq_false q16)) (fun _ => ?_)
      refine x_iconst (pc' := 11) rfl rfl ?_
      refine x_goto (pc' := 15) rfl rfl ?_
      refine x_retz (z := true) rfl rfl ?_
      refine sK_i (pc' := 24) rfl ?_
      refine x_if (a' := 31) (pc' := 27) (z := true) rfl rfl rfl (by decide) (fun _ => ?_) (fun h => by cases h)
      refine x_aload_n (pc' := 32) rfl rfl rfl rfl rfl ?_
      refine x_gR (pc' := 35) (r := (some 2)) rfl rfl rfl (Eq.trans rdRL (Eq.trans rdRI (Eq.trans rdRZ (z_R_781_0 e)))) ?_
      refine x_iload_n (pc' := 36) rfl rfl rfl ?_
      refine x_bald (pc' := 37) (N := 6) (z := false) rfl rfl (Eq.trans rdNL (Eq.trans rdNI (Eq.trans rdNZ (z_N_22_2 e)))) (io_in (p := 0) (N := 6) (by decide) (by decide)) (Eq.trans (congrArg (sB (sLw (sIw (sZw t 457 0 true) 456 0 (xs 2)) 23 0 0 (1 : Int64)) 22 2) (nn_io (p := 0) (by decide))) (Eq.trans rdBL (Eq.trans rdBI (Eq.trans rdBZ (z_B_22_2_0 e))))) ?_
      refine x_if (a' := 44) (pc' := 40) (z := true) rfl rfl rfl (by decide) (fun _ => ?_) (fun h => by cases h)
      refine x_iconst (pc' := 45) rfl rfl ?_
      refine x_cv (ls0 := [_, _]) (rest := []) rfl rfl rfl rfl rfl ?_
      refine x_aload_n (pc' := 1) rfl rfl rfl rfl rfl ?_
      refine x_iload_n (pc' := 2) rfl rfl rfl ?_
      refine x_pI (pc' := 5) rfl rfl rfl ?_
      refine x_iload_n (pc' := 6) rfl rfl rfl ?_
      refine x_if (a' := 13) (pc' := 9) (z := false) rfl rfl rfl (by decide) (fun h => by cases h) (fun _ => ?_)
      refine x_iconst (pc' := 10) rfl rfl ?_
      refine x_goto (pc' := 14) rfl rfl ?_
      refine x_retz (z := true) rfl rfl ?_
      refine sK_i (pc' := 48) rfl ?_
      refine x_if (a' := 53) (pc' := 51) (z := true) rfl rfl rfl (by decide) (fun _ => ?_) (fun h => by cases h)
      refine x_aload_n (pc' := 54) rfl rfl rfl rfl rfl ?_
      refine x_gR (pc' := 57) (r := (some 9)) rfl rfl rfl (Eq.trans rdRI (Eq.trans rdRL (Eq.trans rdRI (Eq.trans rdRZ (z_R_779_0 e))))) ?_
      refine x_iload_n (pc' := 58) rfl rfl rfl ?_
      refine x_iload_n (pc' := 59) rfl rfl rfl ?_
      refine x_iast (pc' := 60) (N := 6) (p := 0) rfl rfl rfl (Eq.trans rdNI (Eq.trans rdNL (Eq.trans rdNI (Eq.trans rdNZ (z_N_21_9 e))))) (io_in (p := 0) (N := 6) (by decide) (by decide)) (nn_io (p := 0) (by decide)) ?_
      refine x_aload_n (pc' := 61) rfl rfl rfl rfl rfl ?_
      refine x_gR (pc' := 64) (r := (some 1)) rfl rfl rfl (Eq.trans rdRA (Eq.trans rdRI (Eq.trans rdRL (Eq.trans rdRI (Eq.trans rdRZ (z_R_780_0 e)))))) ?_
      refine x_iload_n (pc' := 65) rfl rfl rfl ?_
      refine x_iconst (pc' := 66) rfl rfl ?_
      refine x_bast (pc' := 67) (N := 6) (p := 0) (z := true) rfl rfl (Eq.trans rdNA (Eq.trans rdNI (Eq.trans rdNL (Eq.trans rdNI (Eq.trans rdNZ (z_N_22_1 e)))))) (io_in (p := 0) (N := 6) (by decide) (by decide)) (nn_io (p := 0) (by decide)) rfl ?_
      refine x_iconst (pc' := 68) rfl rfl ?_
      refine x_istore (pc' := 70) (ls' := [_, _, _, _, _, _]) rfl rfl rfl rfl ?_
      refine x_iconst (pc' := 71) rfl rfl ?_
      refine x_istore (pc' := 73) (ls' := [_, _, _, _, _, _]) rfl rfl rfl rfl ?_
      refine x_iload (pc' := 75) rfl rfl rfl ?_
      refine x_bipush (pc' := 77) rfl rfl ?_
      refine x_icmp (a' := 106) (pc' := 80) (z := false) rfl rfl rfl (by decide) (fun h => by cases h) (fun _ => ?_)
      refine x_iload (pc' := 82) rfl rfl rfl ?_
      refine x_aload_n (pc' := 83) rfl rfl rfl rfl rfl ?_
      refine x_gR (pc' := 86) (r := (some 1)) rfl rfl rfl (Eq.trans rdRB (Eq.trans rdRA (Eq.trans rdRI (Eq.trans rdRL (Eq.trans rdRI (Eq.trans rdRZ (z_R_780_0 e))))))) ?_
      refine x_iload (pc' := 88) rfl rfl rfl ?_
      refine x_bald (pc' := 89) (N := 6) (z := true) rfl rfl (Eq.trans rdNB (Eq.trans rdNA (Eq.trans rdNI (Eq.trans rdNL (Eq.trans rdNI (Eq.trans rdNZ (z_N_22_1 e))))))) (io_in (p := 0) (N := 6) (by decide) (by decide)) (Eq.trans (congrArg (sB (sBw (sAw (sIw (sLw (sIw (sZw t 457 0 true) 456 0 (xs 2)) 23 0 0 (1 : Int64)) 768 0 0) 21 9 0 (xs 2)) 22 1 0 true) 22 1) (nn_io (p := 0) (by decide))) sB_s) ?_
      refine x_if (a' := 96) (pc' := 92) (z := false) rfl rfl rfl (by decide) (fun h => by cases h) (fun _ => ?_)
      refine x_iconst (pc' := 93) rfl rfl ?_
      refine x_goto (pc' := 97) rfl rfl ?_
      refine x_iadd (pc' := 98) (z := 1) rfl rfl (by decide) ?_
      refine x_istore (pc' := 100) (ls' := [_, _, _, _, _, _]) rfl rfl rfl rfl ?_
      refine x_iinc (pc' := 103) (y := 1) (ls' := [_, _, _, _, _, _]) rfl rfl rfl rfl rfl ?_
      refine x_goto (pc' := 73) rfl rfl ?_
      refine x_iload (pc' := 75) rfl rfl rfl ?_
      refine x_bipush (pc' := 77) rfl rfl ?_
      refine x_icmp (a' := 106) (pc' := 80) (z := false) rfl rfl rfl (by decide) (fun h => by cases h) (fun _ => ?_)
      refine x_iload (pc' := 82) rfl rfl rfl ?_
      refine x_aload_n (pc' := 83) rfl rfl rfl rfl rfl ?_
      refine x_gR (pc' := 86) (r := (some 1)) rfl rfl rfl (Eq.trans rdRB (Eq.trans rdRA (Eq.trans rdRI (Eq.trans rdRL (Eq.trans rdRI (Eq.trans rdRZ (z_R_780_0 e))))))) ?_
      refine x_iload (pc' := 88) rfl rfl rfl ?_
      refine x_bald (pc' := 89) (N := 6) (z := false) rfl rfl (Eq.trans rdNB (Eq.trans rdNA (Eq.trans rdNI (Eq.trans rdNL (Eq.trans rdNI (Eq.trans rdNZ (z_N_22_1 e))))))) (io_in (p := 1) (N := 6) (by decide) (by decide)) (Eq.trans (congrArg (sB (sBw (sAw (sIw (sLw (sIw (sZw t 457 0 true) 456 0 (xs 2)) 23 0 0 (1 : Int64)) 768 0 0) 21 9 0 (xs 2)) 22 1 0 true) 22 1) (nn_io (p := 1) (by decide))) (Eq.trans (rdB_p rfl) (Eq.trans rdBA (Eq.trans rdBI (Eq.trans rdBL (Eq.trans rdBI (Eq.trans rdBZ (z_B_22_1_1 e)))))))) ?_
      refine x_if (a' := 96) (pc' := 92) (z := true) rfl rfl rfl (by decide) (fun _ => ?_) (fun h => by cases h)
      refine x_iconst (pc' := 97) rfl rfl ?_
      refine x_iadd (pc' := 98) (z := 1) rfl rfl (by decide) ?_
      refine x_istore (pc' := 100) (ls' := [_, _, _, _, _, _]) rfl rfl rfl rfl ?_
      refine x_iinc (pc' := 103) (y := 2) (ls' := [_, _, _, _, _, _]) rfl rfl rfl rfl rfl ?_
      refine x_goto (pc' := 73) rfl rfl ?_
      refine x_iload (pc' := 75) rfl rfl rfl ?_
      refine x_bipush (pc' := 77) rfl rfl ?_
      refine x_icmp (a' := 106) (pc' := 80) (z := false) rfl rfl rfl (by decide) (fun h => by cases h) (fun _ => ?_)
      refine x_iload (pc' := 82) rfl rfl rfl ?_
      refine x_aload_n (pc' := 83) rfl rfl rfl rfl rfl ?_
      refine x_gR (pc' := 86) (r := (some 1)) rfl rfl rfl (Eq.trans rdRB (Eq.trans rdRA (Eq.trans rdRI (Eq.trans rdRL (Eq.trans rdRI (Eq.trans rdRZ (z_R_780_0 e))))))) ?_
      refine x_iload (pc' := 88) rfl rfl rfl ?_
      refine x_bald (pc' := 89) (N := 6) (z := false) rfl rfl (Eq.trans rdNB (Eq.trans rdNA (Eq.trans rdNI (Eq.trans rdNL (Eq.trans rdNI (Eq.trans rdNZ (z_N_22_1 e))))))) (io_in (p := 2) (N := 6) (by decide) (by decide)) (Eq.trans (congrArg (sB (sBw (sAw (sIw (sLw (sIw (sZw t 457 0 true) 456 0 (xs 2)) 23 0 0 (1 : Int64)) 768 0 0) 21 9 0 (xs 2)) 22 1 0 true) 22 1) (nn_io (p := 2) (by decide))) (Eq.trans (rdB_p rfl) (Eq.trans rdBA (Eq.trans rdBI (Eq.trans rdBL (Eq.trans rdBI (Eq.trans rdBZ (z_B_22_1_2 e)))))))) ?_
      refine x_if (a' := 96) (pc' := 92) (z := true) rfl rfl rfl (by decide) (fun _ => ?_) (fun h => by cases h)
      refine x_iconst (pc' := 97) rfl rfl ?_
      refine x_iadd (pc' := 98) (z := 1) rfl rfl (by decide) ?_
      refine x_istore (pc' := 100) (ls' := [_, _, _, _, _, _]) rfl rfl rfl rfl ?_
      refine x_iinc (pc' := 103) (y := 3) (ls' := [_, _, _, _, _, _]) rfl rfl rfl rfl rfl ?_
      refine x_goto (pc' := 73) rfl rfl ?_
      refine x_iload (pc' := 75) rfl rfl rfl ?_
      refine x_bipush (pc' := 77) rfl rfl ?_
      refine x_icmp (a' := 106) (pc' := 80) (z := false) rfl rfl rfl (by decide) (fun h => by cases h) (fun _ => ?_)
      refine x_iload (pc' := 82) rfl rfl rfl ?_
      refine x_aload_n (pc' := 83) rfl rfl rfl rfl rfl ?_
      refine x_gR (pc' := 86) (r := (some 1)) rfl rfl rfl (Eq.trans rdRB (Eq.trans rdRA (Eq.trans rdRI (Eq.trans rdRL (Eq.trans rdRI (Eq.trans rdRZ (z_R_780_0 e))))))) ?_
      refine x_iload (pc' := 88) rfl rfl rfl ?_
      refine x_bald (pc' := 89) (N := 6) (z := false) rfl rfl (Eq.trans rdNB (Eq.trans rdNA (Eq.trans rdNI (Eq.trans rdNL (Eq.trans rdNI (Eq.trans rdNZ (z_N_22_1 e))))))) (io_in (p := 3) (N := 6) (by decide) (by decide)) (Eq.trans (congrArg (sB (sBw (sAw (sIw (sLw (sIw (sZw t 457 0 true) 456 0 (xs 2)) 23 0 0 (1 : Int64)) 768 0 0) 21 9 0 (xs 2)) 22 1 0 true) 22 1) (nn_io (p := 3) (by decide))) (Eq.trans (rdB_p rfl) (Eq.trans rdBA (Eq.trans rdBI (Eq.trans rdBL (Eq.trans rdBI (Eq.trans rdBZ (z_B_22_1_3 e)))))))) ?_
      refine x_if (a' := 96) (pc' := 92) (z := true) rfl rfl rfl (by decide) (fun _ => ?_) (fun h => by cases h)
      refine x_iconst (pc' := 97) rfl rfl ?_
      refine x_iadd (pc' := 98) (z := 1) rfl rfl (by decide) ?_
      refine x_istore (pc' := 100) (ls' := [_, _, _, _, _, _]) rfl rfl rfl rfl ?_
      refine x_iinc (pc' := 103) (y := 4) (ls' := [_, _, _, _, _, _]) rfl rfl rfl rfl rfl ?_
      refine x_goto (pc' := 73) rfl rfl ?_
      refine x_iload (pc' := 75) rfl rfl rfl ?_
      refine x_bipush (pc' := 77) rfl rfl ?_
      refine x_icmp (a' := 106) (pc' := 80) (z := false) rfl rfl rfl (by decide) (fun h => by cases h) (fun _ => ?_)
      refine x_iload (pc' := 82) rfl rfl rfl ?_
      refine x_aload_n (pc' := 83) rfl rfl rfl rfl rfl ?_
      refine x_gR (pc' := 86) (r := (some 1)) rfl rfl rfl (Eq.trans rdRB (Eq.trans rdRA (Eq.trans rdRI (Eq.trans rdRL (Eq.trans rdRI (Eq.trans rdRZ (z_R_780_0 e))))))) ?_
      refine x_iload (pc' := 88) rfl rfl rfl ?_
      refine x_bald (pc' := 89) (N := 6) (z := false) rfl rfl (Eq.trans rdNB (Eq.trans rdNA (Eq.trans rdNI (Eq.trans rdNL (Eq.trans rdNI (Eq.trans rdNZ (z_N_22_1 e))))))) (io_in (p := 4) (N := 6) (by decide) (by decide)) (Eq.trans (congrArg (sB (sBw (sAw (sIw (sLw (sIw (sZw t 457 0 true) 456 0 (xs 2)) 23 0 0 (1 : Int64)) 768 0 0) 21 9 0 (xs 2)) 22 1 0 true) 22 1) (nn_io (p := 4) (by decide))) (Eq.trans (rdB_p rfl) (Eq.trans rdBA (Eq.trans rdBI (Eq.trans rdBL (Eq.trans rdBI (Eq.trans rdBZ (z_B_22_1_4 e)))))))) ?_
      refine x_if (a' := 96) (pc' := 92) (z := true) rfl rfl rfl (by decide) (fun _ => ?_) (fun h => by cases h)
      refine x_iconst (pc' := 97) rfl rfl ?_
      refine x_iadd (pc' := 98) (z := 1) rfl rfl (by decide) ?_
      refine x_istore (pc' := 100) (ls' := [_, _, _, _, _, _]) rfl rfl rfl rfl ?_
      refine x_iinc (pc' := 103) (y := 5) (ls' := [_, _, _, _, _, _]) rfl rfl rfl rfl rfl ?_
      refine x_goto (pc' := 73) rfl rfl ?_
      refine x_iload (pc' := 75) rfl rfl rfl ?_
      refine x_bipush (pc' := 77) rfl rfl ?_
      refine x_icmp (a' := 106) (pc' := 80) (z := false) rfl rfl rfl (by decide) (fun h => by cases h) (fun _ => ?_)
      refine x_iload (pc' := 82) rfl rfl rfl ?_
      refine x_aload_n (pc' := 83) rfl rfl rfl rfl rfl ?_
      refine x_gR (pc' := 86) (r := (some 1)) rfl rfl rfl (Eq.trans rdRB (Eq.trans rdRA (Eq.trans rdRI (Eq.trans rdRL (Eq.trans rdRI (Eq.trans rdRZ (z_R_780_0 e))))))) ?_
      refine x_iload (pc' := 88) rfl rfl rfl ?_
      refine x_bald (pc' := 89) (N := 6) (z := false) rfl rfl (Eq.trans rdNB (Eq.trans rdNA (Eq.trans rdNI (Eq.trans rdNL (Eq.trans rdNI (Eq.trans rdNZ (z_N_22_1 e))))))) (io_in (p := 5) (N := 6) (by decide) (by decide)) (Eq.trans (congrArg (sB (sBw (sAw (sIw (sLw (sIw (sZw t 457 0 true) 456 0 (xs 2)) 23 0 0 (1 : Int64)) 768 0 0) 21 9 0 (xs 2)) 22 1 0 true) 22 1) (nn_io (p := 5) (by decide))) (Eq.trans (rdB_p rfl) (Eq.trans rdBA (Eq.trans rdBI (Eq.trans rdBL (Eq.trans rdBI (Eq.trans rdBZ (z_B_22_1_5 e)))))))) ?_
      refine x_if (a' := 96) (pc' := 92) (z := true) rfl rfl rfl (by decide) (fun _ => ?_) (fun h => by cases h)
      refine x_iconst (pc' := 97) rfl rfl ?_
      refine x_iadd (pc' := 98) (z := 1) rfl rfl (by decide) ?_
      refine x_istore (pc' := 100) (ls' := [_, _, _, _, _, _]) rfl rfl rfl rfl ?_
      refine x_iinc (pc' := 103) (y := 6) (ls' := [_, _, _, _, _, _]) rfl rfl rfl rfl rfl ?_
      refine x_goto (pc' := 73) rfl rfl ?_
      refine x_iload (pc' := 75) rfl rfl rfl ?_
      refine x_bipush (pc' := 77) rfl rfl ?_
      refine x_icmp (a' := 106) (pc' := 80) (z := true) rfl rfl rfl (by decide) (fun _ => ?_) (fun h => by cases h)
      refine x_iload (pc' := 108) rfl rfl rfl ?_
      refine x_reti rfl rfl ?_
      refine sK_i (pc' := 1522) rfl ?_
      refine x_istore (pc' := 1524) (ls' := [_, _, _, _, _, _, _]) rfl rfl rfl rfl ?_
      refine x_aload_n (pc' := 1525) rfl rfl rfl rfl rfl ?_
      refine x_cv (ls0 := [_]) (rest := []) rfl rfl rfl rfl rfl ?_
      refine x_aload_n (pc' := 1) rfl rfl rfl rfl rfl ?_
      refine x_gI (pc' := 4) (x := 0) rfl rfl rfl (Eq.trans rdIB (Eq.trans rdIA sI_s)) ?_
      refine x_reti rfl rfl ?_
      refine sK_i (pc' := 1528) rfl ?_
      refine x_iload (pc' := 1530) rfl rfl rfl ?_
      refine x_icmp (a' := 1535) (pc' := 1533) (z := true) rfl rfl rfl (by decide) (fun _ => ?_) (fun h => by cases h)
      refine x_iload (pc' := 1537) rfl rfl rfl ?_
      refine x_if (a' := 1552) (pc' := 1540) (z := false) rfl rfl rfl (by decide) (fun h => by cases h) (fun _ => ?_)
      refine x_aload_n (pc' := 1541) rfl rfl rfl rfl rfl ?_
      refine x_iconst (pc' := 1542) rfl rfl ?_
      refine x_lald (pc' := 1543) (N := 1) (x := (1 : Int64)) rfl rfl (Eq.trans rdNB (Eq.trans rdNA (Eq.trans rdNI (Eq.trans rdNL (Eq.trans rdNI (Eq.trans rdNZ (z_N_23_0 e))))))) (io_in (p := 0) (N := 1) (by decide) (by decide)) (Eq.trans (congrArg (sL (sBw (sAw (sIw (sLw (sIw (sZw t 457 0 true) 456 0 (xs 2)) 23 0 0 (1 : Int64)) 768 0 0) 21 9 0 (xs 2)) 22 1 0 true) 23 0) (nn_io (p := 0) (by decide))) (Eq.trans rdLB (Eq.trans rdLA (Eq.trans rdLI sL_s)))) ?_
      refine x_iload (pc' := 1545) rfl rfl rfl ?_
      refine x_i2l (pc' := 1546) (z := (1 : Int64)) rfl rfl (by decide) ?_
      refine x_lcmp (pc' := 1547) (z := 0) rfl rfl (sLcmp_s _) ?_
      refine x_if (a' := 1552) (pc' := 1550) (z := true) rfl rfl rfl (by decide) (fun _ => ?_) (fun h => by cases h)
      refine x_goto (pc' := 2938) rfl rfl ?_
      refine x_iinc (pc' := 2941) (y := 7) (ls' := [_, _, _, _, _, _, _]) rfl rfl rfl rfl rfl ?_
      refine x_goto (pc' := 23) rfl rfl ?_
      refine x_iload (pc' := 25) rfl rfl rfl ?_
      refine x_aload_n (pc' := 26) rfl rfl rfl rfl rfl ?_
      refine x_alen (pc' := 27) (N := 7) rfl rfl rfl (Eq.trans rdNB (Eq.trans rdNA (Eq.trans rdNI (Eq.trans rdNL (Eq.trans rdNI (Eq.trans rdNZ (z_N_29_0 e))))))) (?_ : X _ _ _ (.inl 7 :: _) _ _)
      refine x_bipush (pc' := 29) rfl rfl ?_
      refine x_isub (pc' := 30) (z := 0) rfl rfl (by decide) ?_
      refine x_icmp (a' := 2944) (pc' := 33) (z := true) rfl rfl rfl (by decide) (fun _ => ?_) (fun h => by cases h)
      refine x_iconst (pc' := 2945) rfl rfl ?_
      refine x_retz (z := true) rfl rfl ?_
      exact Qp_ok e (p := 0) (q := 0) rfl rfl rfl rfl
    · refine x_throw rfl rfl ?_
      refine sK_n (by decide +kernel) rfl ?_
      refine sK_h (h := 17) (by decide +kernel) rfl ?_
      refine x_catch (pc' := 19) (ls' := [_, _, _, _, _]) rfl rfl rfl rfl ?_
      refine x_iconst (pc' := 20) rfl rfl ?_
      refine x_reti rfl rfl ?_
      refine sK_i (pc' := 1504) rfl ?_
      refine x_istore (pc' := 1506) (ls' := [_, _, _, _, _, _, _]) rfl rfl rfl rfl ?_
      refine x_aload_n (pc' := 1507) rfl rfl rfl rfl rfl ?_
      refine x_aload_n (pc' := 1508) rfl rfl rfl rfl rfl ?_
      refine x_iload (pc' := 1510) rfl rfl rfl ?_
      refine x_iconst (pc' := 1511) rfl rfl ?_
      refine x_iadd (pc' := 1512) (z := 1) rfl rfl (by decide) ?_
      refine x_iald (pc' := 1513) (N := 7) (x := 0) rfl rfl rfl (Eq.trans rdNthr (z_N_29_0 e)) (io_in (p := 1) (N := 7) (by decide) (by decide)) (Eq.trans (congrArg (sA (sThr t) 29 0) (nn_io (p := 1) (by decide))) (Eq.trans rdAthr (Eq.trans (z_A_29_0_1 e) e0))) ?_
      refine x_aload_n (pc' := 1514) rfl rfl rfl rfl rfl ?_
      refine x_iload (pc' := 1516) rfl rfl rfl ?_
      refine x_iconst (pc' := 1517) rfl rfl ?_
      refine x_iadd (pc' := 1518) (z := 2) rfl rfl (by decide) ?_
      refine x_iald (pc' := 1519) (N := 7) (x := (xs 2)) rfl rfl rfl (Eq.trans rdNthr (z_N_29_0 e)) (io_in (p := 2) (N := 7) (by decide) (by decide)) (Eq.trans (congrArg (sA (sThr t) 29 0) (nn_io (p := 2) (by decide))) (Eq.trans rdAthr (z_A_29_0_2 e))) ?_
      refine x_cv (ls0 := [_, _, _, sJk, sJk, sJk]) (rest := []) rfl rfl rfl rfl rfl ?_
      refine x_iload_n (pc' := 1) rfl rfl rfl ?_
      refine x_cs (ls0 := [_]) (rest := []) rfl rfl rfl rfl ?_
      refine x_iload_n (pc' := 1) rfl rfl rfl ?_
      refine x_iconst (pc' := 2) rfl rfl ?_
      refine x_iconst (pc' := 3) rfl rfl ?_
      refine x_cs (ls0 := [_, _, _]) (rest := []) rfl rfl rfl rfl ?_
      refine x_iload_n (pc' := 1) rfl rfl rfl ?_
      refine x_iload_n (pc' := 2) rfl rfl rfl ?_
      refine x_icmp (a' := 14) (pc' := 5) (z := false) rfl rfl rfl (by decide) (fun h => by cases h) (fun _ => ?_)
      refine x_iload_n (pc' := 6) rfl rfl rfl ?_
      refine x_iload_n (pc' := 7) rfl rfl rfl ?_
      refine x_icmp (a' := 14) (pc' := 10) (z := false) rfl rfl rfl (by decide) (fun h => by cases h) (fun _ => ?_)
      refine x_iconst (pc' := 11) rfl rfl ?_
      refine x_goto (pc' := 15) rfl rfl ?_
      refine x_retz (z := true) rfl rfl ?_
      refine sK_i (pc' := 6) rfl ?_
      refine x_retz (z := true) rfl rfl ?_
      refine sK_i (pc' := 4) rfl ?_
      refine x_istore_n (pc' := 5) (ls' := [_, _, _, _, _, _]) rfl rfl rfl rfl ?_
      refine x_aload_n (pc' := 6) rfl rfl rfl rfl rfl ?_
      refine x_iload_n (pc' := 7) rfl rfl rfl ?_
      refine x_if (a' := 14) (pc' := 10) (z := true) rfl rfl rfl (by decide) (fun _ => ?_) (fun h => by cases h)
      refine x_iload_n (pc' := 15) rfl rfl rfl ?_
      refine x_ldc_w (pc' := 18) rfl rfl ?_
      refine x_ldc_w (pc' := 21) rfl rfl ?_
      refine x_cs (ls0 := [_, _, _]) (rest := [_]) rfl rfl rfl rfl ?_
      refine x_iload_n (pc' := 1) rfl rfl rfl ?_
      refine x_iload_n (pc' := 2) rfl rfl rfl ?_
      refine x_icmp (a' := 14) (pc' := 5) (z := decide ((xs 2) < (-1000000))) rfl rfl rfl rfl (fun h => absurd (of_decide_eq_true h) (of_decide_eq_false q5)) (fun _ => ?_)
      refine x_iload_n (pc' := 6) rfl rfl rfl ?_
      refine x_iload_n (pc' := 7) rfl rfl rfl ?_
      refine x_icmp (a' := 14) (pc' := 10) (z := decide (1000000 < (xs 2))) rfl rfl rfl rfl (fun _ => ?_) (fun h => absurd (of_decide_eq_true q16) (of_decide_eq_false h))
      refine x_iconst (pc' := 15) rfl rfl ?_
      refine x_retz (z := false) rfl rfl ?_
      refine sK_i (pc' := 24) rfl ?_
      refine x_if (a' := 31) (pc' := 27) (z := false) rfl rfl rfl (by decide) (fun h => by cases h) (fun _ => ?_)
      refine x_iconst (pc' := 28) rfl rfl ?_
      refine x_goto (pc' := 45) rfl rfl ?_
      refine x_cv (ls0 := [_, _]) (rest := []) rfl rfl rfl rfl rfl ?_
      refine x_aload_n (pc' := 1) rfl rfl rfl rfl rfl ?_
      refine x_iload_n (pc' := 2) rfl rfl rfl ?_
      refine x_pI (pc' := 5) rfl rfl rfl ?_
      refine x_iload_n (pc' := 6) rfl rfl rfl ?_
      refine x_if (a' := 13) (pc' := 9) (z := true) rfl rfl rfl (by decide) (fun _ => ?_) (fun h => by cases h)
      refine x_iconst (pc' := 14) rfl rfl ?_
      refine x_retz (z := false) rfl rfl ?_
      refine sK_i (pc' := 48) rfl ?_
      refine x_if (a' := 53) (pc' := 51) (z := false) rfl rfl rfl (by decide) (fun h => by cases h) (fun _ => ?_)
      refine x_iconst (pc' := 52) rfl rfl ?_
      refine x_reti rfl rfl ?_
      refine sK_i (pc' := 1522) rfl ?_
      refine x_istore (pc' := 1524) (ls' := [_, _, _, _, _, _, _]) rfl rfl rfl rfl ?_
      refine x_aload_n (pc' := 1525) rfl rfl rfl rfl rfl ?_
      refine x_cv (ls0 := [_]) (rest := []) rfl rfl rfl rfl rfl ?_
      refine x_aload_n (pc' := 1) rfl rfl rfl rfl rfl ?_
      refine x_gI (pc' := 4) (x := 2) rfl rfl rfl sI_s ?_
      refine x_reti rfl rfl ?_
      refine sK_i (pc' := 1528) rfl ?_
      refine x_iload (pc' := 1530) rfl rfl rfl ?_
      refine x_icmp (a' := 1535) (pc' := 1533) (z := true) rfl rfl rfl (by decide) (fun _ => ?_) (fun h => by cases h)
      refine x_iload (pc' := 1537) rfl rfl rfl ?_
      refine x_if (a' := 1552) (pc' := 1540) (z := true) rfl rfl rfl (by decide) (fun _ => ?_) (fun h => by cases h)
      refine x_goto (pc' := 2938) rfl rfl ?_
      refine x_iinc (pc' := 2941) (y := 7) (ls' := [_, _, _, _, _, _, _]) rfl rfl rfl rfl rfl ?_
      refine x_goto (pc' := 23) rfl rfl ?_
      refine x_iload (pc' := 25) rfl rfl rfl ?_
      refine x_aload_n (pc' := 26) rfl rfl rfl rfl rfl ?_
      refine x_alen (pc' := 27) (N := 7) rfl rfl rfl (Eq.trans rdNI (Eq.trans rdNthr (z_N_29_0 e))) (?_ : X _ _ _ (.inl 7 :: _) _ _)
      refine x_bipush (pc' := 29) rfl rfl ?_
      refine x_isub (pc' := 30) (z := 0) rfl rfl (by decide) ?_
      refine x_icmp (a' := 2944) (pc' := 33) (z := true) rfl rfl rfl (by decide) (fun _ => ?_) (fun h => by cases h)
      refine x_iconst (pc' := 2945) rfl rfl ?_
      refine x_retz (z := true) rfl rfl ?_
      exact Qp_ok e (p := 1) (q := 6) rfl rfl rfl rfl
set_option maxHeartbeats 4000000 in
set_option maxRecDepth 10000 in
theorem v_16_1_i {t : sT} {xs : Nat → Int32}
    (e : t = T16 7 xs)
    (hk : ((xs 0) &&& 63) = 16)
    (e0 : xs 1 = 1) :
    X 297 23 [.inr (.inr (29, (some 0))), .inr (.inr (11, (some 0))), .inr (.inr (12, (some 0))), .inr (.inr (23, (some 0))), .inl 0, sJk, sJk] [] t Qp := by
  refine x_iload (pc' := 25) rfl rfl rfl ?_
  refine x_aload_n (pc' := 26) rfl rfl rfl rfl rfl ?_
  refine x_alen (pc' := 27) (N := 7) rfl rfl rfl (z_N_29_0 e) (?_ : X _ _ _ (.inl 7 :: _) _ _)
  refine x_bipush (pc' := 29) rfl rfl ?_
  refine x_isub (pc' := 30) (z := 0) rfl rfl (by decide) ?_
  refine x_icmp (a' := 2944) (pc' := 33) (z := false) rfl rfl rfl (by decide) (fun h => by cases h) (fun _ => ?_)
  refine x_aload_n (pc' := 34) rfl rfl rfl rfl rfl ?_
  refine x_iload (pc' := 36) rfl rfl rfl ?_
  refine x_iald (pc' := 37) (N := 7) (x := (xs 0)) rfl rfl rfl (z_N_29_0 e) (io_in (p := 0) (N := 7) (by decide) (by decide)) (Eq.trans (congrArg (sA t 29 0) (nn_io (p := 0) (by decide))) (z_A_29_0_0 e)) ?_
  refine x_bipush (pc' := 39) rfl rfl ?_
  refine x_iand (pc' := 40) (z := ((xs 0) &&& 63)) rfl rfl rfl ?_
  refine x_switch (pc' := 1487) rfl (by rw [hk]; decide) ?_
  refine x_aload_n (pc' := 1488) rfl rfl rfl rfl rfl ?_
  refine x_aload_n (pc' := 1489) rfl rfl rfl rfl rfl ?_
  refine x_iload (pc' := 1491) rfl rfl rfl ?_
  refine x_iconst (pc' := 1492) rfl rfl ?_
  refine x_iadd (pc' := 1493) (z := 1) rfl rfl (by decide) ?_
  refine x_iald (pc' := 1494) (N := 7) (x := 1) rfl rfl rfl (z_N_29_0 e) (io_in (p := 1) (N := 7) (by decide) (by decide)) (Eq.trans (congrArg (sA t 29 0) (nn_io (p := 1) (by decide))) (Eq.trans (z_A_29_0_1 e) e0)) ?_
  refine x_aload_n (pc' := 1495) rfl rfl rfl rfl rfl ?_
  refine x_iload (pc' := 1497) rfl rfl rfl ?_
  refine x_iconst (pc' := 1498) rfl rfl ?_
  refine x_iadd (pc' := 1499) (z := 2) rfl rfl (by decide) ?_
  refine x_iald (pc' := 1500) (N := 7) (x := (xs 2)) rfl rfl rfl (z_N_29_0 e) (io_in (p := 2) (N := 7) (by decide) (by decide)) (Eq.trans (congrArg (sA t 29 0) (nn_io (p := 2) (by decide))) (z_A_29_0_2 e)) ?_
  refine x_aload_n (pc' := 1501) rfl rfl rfl rfl rfl ?_
  refine x_cs (ls0 := [_, _, _, _, sJk]) (rest := []) rfl rfl rfl rfl ?_
  refine x_aload_n (pc' := 1) rfl rfl rfl rfl rfl ?_
  refine x_iconst (pc' := 2) rfl rfl ?_
  refine x_aload_n (pc' := 3) rfl rfl rfl rfl rfl ?_
  refine x_iload_n (pc' := 4) rfl rfl rfl ?_
  refine x_iload_n (pc' := 5) rfl rfl rfl ?_
  refine x_cv (ls0 := [_, _, _, sJk]) (rest := [_, _]) rfl rfl rfl rfl rfl ?_
  refine x_aload_n (pc' := 1) rfl rfl rfl rfl rfl ?_
  refine x_iload_n (pc' := 2) rfl rfl rfl ?_
  refine x_cv (ls0 := [_, _]) (rest := []) rfl rfl rfl rfl rfl ?_
  refine x_iload_n (pc' := 1) rfl rfl rfl ?_
  refine x_if (a' := 16) (pc' := 4) (z := false) rfl rfl rfl (by decide) (fun h => by cases h) (fun _ => ?_)
  refine x_iload_n (pc' := 5) rfl rfl rfl ?_
  refine x_aload_n (pc' := 6) rfl rfl rfl rfl rfl ?_
  refine x_gR (pc' := 9) (r := (some 0)) rfl rfl rfl (z_R_704_0 e) ?_
  refine x_gR (pc' := 12) (r := (some 0)) rfl rfl rfl (z_R_321_0 e) ?_
  refine x_alen (pc' := 13) (N := 6) rfl rfl rfl (z_N_26_0 e) (?_ : X _ _ _ (.inl 6 :: _) _ _)
  refine x_icmp (a' := 27) (pc' := 16) (z := true) rfl rfl rfl (by decide) (fun _ => ?_) (fun h => by cases h)
  refine x_aload_n (pc' := 28) rfl rfl rfl rfl rfl ?_
  refine x_gR (pc' := 31) (r := (some 0)) rfl rfl rfl (z_R_704_0 e) ?_
  refine x_gR (pc' := 34) (r := (some 0)) rfl rfl rfl (z_R_321_0 e) ?_
  refine x_iload_n (pc' := 35) rfl rfl rfl ?_
  refine x_aald (pc' := 36) (N := 6) (k' := 7) (r := (some 1)) rfl rfl rfl (z_N_26_0 e) (io_in (p := 1) (N := 6) (by decide) (by decide)) (Eq.trans (congrArg (sE t 26 0) (nn_io (p := 1) (by decide))) (z_E_26_0_1 e)) ?_
  refine x_reta rfl rfl ?_
  refine sK_i (pc' := 5) rfl ?_
  refine x_astore_n (pc' := 6) (ls' := [_, _, _, _]) rfl rfl rfl rfl rfl ?_
  refine x_iload_n (pc' := 7) rfl rfl rfl ?_
  refine x_ldc (pc' := 9) rfl rfl ?_
  refine x_ldc (pc' := 11) rfl rfl ?_
  refine x_cs (ls0 := [_, _, _]) (rest := []) rfl rfl rfl rfl ?_
  refine x_iload_n (pc' := 1) rfl rfl rfl ?_
  refine x_iload_n (pc' := 2) rfl rfl rfl ?_
  refine x_icmp (a' := 10) (pc' := 5) (z := decide ((xs 2) < (-1000000))) rfl rfl rfl rfl (fun q5 => ?_) (fun q5 => ?_)
  · refine x_throw rfl rfl ?_
    refine sK_n (by decide +kernel) rfl ?_
    refine sK_h (h := 17) (by decide +kernel) rfl ?_
    refine x_catch (pc' := 19) (ls' := [_, _, _, _, _]) rfl rfl rfl rfl ?_
    refine x_iconst (pc' := 20) rfl rfl ?_
    refine x_reti rfl rfl ?_
    refine sK_i (pc' := 1504) rfl ?_
    refine x_istore (pc' := 1506) (ls' := [_, _, _, _, _, _, _]) rfl rfl rfl rfl ?_
    refine x_aload_n (pc' := 1507) rfl rfl rfl rfl rfl ?_
    refine x_aload_n (pc' := 1508) rfl rfl rfl rfl rfl ?_
    refine x_iload (pc' := 1510) rfl rfl rfl ?_
    refine x_iconst (pc' := 1511) rfl rfl ?_
    refine x_iadd (pc' := 1512) (z := 1) rfl rfl (by decide) ?_
    refine x_iald (pc' := 1513) (N := 7) (x := 1) rfl rfl rfl (Eq.trans rdNthr (z_N_29_0 e)) (io_in (p := 1) (N := 7) (by decide) (by decide)) (Eq.trans (congrArg (sA (sThr t) 29 0) (nn_io (p := 1) (by decide))) (Eq.trans rdAthr (Eq.trans (z_A_29_0_1 e) e0))) ?_
    refine x_aload_n (pc' := 1514) rfl rfl rfl rfl rfl ?_
    refine x_iload (pc' := 1516) rfl rfl rfl ?_
    refine x_iconst (pc' := 1517) rfl rfl ?_
    refine x_iadd (pc' := 1518) (z := 2) rfl rfl (by decide) ?_
    refine x_iald (pc' := 1519) (N := 7) (x := (xs 2)) rfl rfl rfl (Eq.trans rdNthr (z_N_29_0 e)) (io_in (p := 2) (N := 7) (by decide) (by decide)) (Eq.trans (congrArg (sA (sThr t) 29 0) (nn_io (p := 2) (by decide))) (Eq.trans rdAthr (z_A_29_0_2 e))) ?_
    refine x_cv (ls0 := [_, _, _, sJk, sJk, sJk]) (rest := []) rfl rfl rfl rfl rfl ?_
    refine x_iload_n (pc' := 1) rfl rfl rfl ?_
    refine x_cs (ls0 := [_]) (rest := []) rfl rfl rfl rfl ?_
    refine x_iload_n (pc' := 1) rfl rfl rfl ?_
    refine x_iconst (pc' := 2) rfl rfl ?_
    refine x_iconst (pc' := 3) rfl rfl ?_
    refine x_cs (ls0 := [_, _, _]) (rest := []) rfl rfl rfl rfl ?_
    refine x_iload_n (pc' := 1) rfl rfl rfl ?_
    refine x_iload_n (pc' := 2) rfl rfl rfl ?_
    refine x_icmp (a' := 14) (pc' := 5) (z := false) rfl rfl rfl (by decide) (fun h => by cases h) (fun _ => ?_)
    refine x_iload_n (pc' := 6) rfl rfl rfl ?_
    refine x_iload_n (pc' := 7) rfl rfl rfl ?_
    refine x_icmp (a' := 14) (pc' := 10) (z := false) rfl rfl rfl (by decide) (fun h => by cases h) (fun _ => ?_)
    refine x_iconst (pc' := 11) rfl rfl ?_
    refine x_goto (pc' := 15) rfl rfl ?_
    refine x_retz (z := true) rfl rfl ?_
    refine sK_i (pc' := 6) rfl ?_
    refine x_retz (z := true) rfl rfl ?_
    refine sK_i (pc' := 4) rfl ?_
    refine x_istore_n (pc' := 5) (ls' := [_, _, _, _, _, _]) rfl rfl rfl rfl ?_
    refine x_aload_n (pc' := 6) rfl rfl rfl rfl rfl ?_
    refine x_iload_n (pc' := 7) rfl rfl rfl ?_
    refine x_if (a' := 14) (pc' := 10) (z := true) rfl rfl rfl (by decide) (fun _ => ?_) (fun h => by cases h)
    refine x_iload_n (pc' := 15) rfl rfl rfl ?_
    refine x_ldc_w (pc' := 18) rfl rfl ?_
    refine x_ldc_w (pc' := 21) rfl rfl ?_
    refine x_cs (ls0 := [_, _, _]) (rest := [_]) rfl rfl rfl rfl ?_
    refine x_iload_n (pc' := 1) rfl rfl rfl ?_
    refine x_iload_n (pc' := 2) rfl rfl rfl ?_
    refine x_icmp (a' := 14) (pc' := 5) (z := decide ((xs 2) < (-1000000))) rfl rfl rfl rfl (fun _ => ?_) (fun h => absurd (of_decide_eq_true q5) (of_decide_eq_false h))
    refine x_iconst (pc' := 15) rfl rfl ?_
    refine x_retz (z := false) rfl rfl ?_
    refine sK_i (pc' := 24) rfl ?_
    refine x_if (a' := 31) (pc' := 27) (z := false) rfl rfl rfl (by decide) (fun h => by cases h) (fun _ => ?_)
    refine x_iconst (pc' := 28) rfl rfl ?_
    refine x_goto (pc' := 45) rfl rfl ?_
    refine x_cv (ls0 := [_, _]) (rest := []) rfl rfl rfl rfl rfl ?_
    refine x_aload_n (pc' := 1) rfl rfl rfl rfl rfl ?_
    refine x_iload_n (pc' := 2) rfl rfl rfl ?_
    refine x_pI (pc' := 5) rfl rfl rfl ?_
    refine x_iload_n (pc' := 6) rfl rfl rfl ?_
    refine x_if (a' := 13) (pc' := 9) (z := true) rfl rfl rfl (by decide) (fun _ => ?_) (fun h => by cases h)
    refine x_iconst (pc' := 14) rfl rfl ?_
    refine x_retz (z := false) rfl rfl ?_
    refine sK_i (pc' := 48) rfl ?_
    refine x_if (a' := 53) (pc' := 51) (z := false) rfl rfl rfl (by decide) (fun h => by cases h) (fun _ => ?_)
    refine x_iconst (pc' := 52) rfl rfl ?_
    refine x_reti rfl rfl ?_
    refine sK_i (pc' := 1522) rfl ?_
    refine x_istore (pc' := 1524) (ls' := [_, _, _, _, _, _, _]) rfl rfl rfl rfl ?_
    refine x_aload_n (pc' := 1525) rfl rfl rfl rfl rfl ?_
    refine x_cv (ls0 := [_]) (rest := []) rfl rfl rfl rfl rfl ?_
    refine x_aload_n (pc' := 1) rfl rfl rfl rfl rfl ?_
    refine x_gI (pc' := 4) (x := 2) rfl rfl rfl sI_s ?_
    refine x_reti rfl rfl ?_
    refine sK_i (pc' := 1528) rfl ?_
    refine x_iload (pc' := 1530) rfl rfl rfl ?_
    refine x_icmp (a' := 1535) (pc' := 1533) (z := true) rfl rfl rfl (by decide) (fun _ => ?_) (fun h => by cases h)
    refine x_iload (pc' := 1537) rfl rfl rfl ?_
    refine x_if (a' := 1552) (pc' := 1540) (z := true) rfl rfl rfl (by decide) (fun _ => ?_) (fun h => by cases h)
    refine x_goto (pc' := 2938) rfl rfl ?_
    refine x_iinc (pc' := 2941) (y := 7) (ls' := [_, _, _, _, _, _, _]) rfl rfl rfl rfl rfl ?_
    refine x_goto (pc' := 23) rfl rfl ?_
    refine x_iload (pc' := 25) rfl rfl rfl ?_
    refine x_aload_n (pc' := 26) rfl rfl rfl rfl rfl ?_
    refine x_alen (pc' := 27) (N := 7) rfl rfl rfl (Eq.trans rdNI (Eq.trans rdNthr (z_N_29_0 e))) (?_ : X _ _ _ (.inl 7 :: _) _ _)
    refine x_bipush (pc' := 29) rfl rfl ?_
    refine x_isub (pc' := 30) (z := 0) rfl rfl (by decide) ?_
    refine x_icmp (a' := 2944) (pc' := 33) (z := true) rfl rfl rfl (by decide) (fun _ => ?_) (fun h => by cases h)
    refine x_iconst (pc' := 2945) rfl rfl ?_
    refine x_retz (z := true) rfl rfl ?_
    exact Qp_ok e (p := 1) (q := 6) rfl rfl rfl rfl
  · refine x_iload_n (pc' := 6) rfl rfl rfl ?_
    refine x_iload_n (pc' := 7) rfl rfl rfl ?_
    refine x_icmp_n (a' := 21) (pc' := 10) (z := decide (1000000 < (xs 2))) rfl rfl rfl (ik_le _ _) (fun q16 => ?_) (fun q16 => ?_)
    · refine x_ret rfl ?_
      refine sK_v (pc' := 14) rfl ?_
      refine x_aload_n (pc' := 15) rfl rfl rfl rfl rfl ?_
      refine x_gZ (pc' := 18) (z := false) rfl rfl rfl (z_Z_458_1 e) ?_
      refine x_if (a' := 25) (pc' := 21) (z := false) rfl rfl rfl (by decide) (fun h => by cases h) (fun _ => ?_)
      refine x_iconst (pc' := 22) rfl rfl ?_
      refine x_goto (pc' := 26) rfl rfl ?_
      refine x_cs (ls0 := [_]) (rest := []) rfl rfl rfl rfl ?_
      refine x_iload_n (pc' := 1) rfl rfl rfl ?_
      refine x_if (a' := 15) (pc' := 4) (z := true) rfl rfl rfl (by decide) (fun _ => ?_) (fun h => by cases h)
      refine x_ret rfl ?_
      refine sK_v (pc' := 29) rfl ?_
      refine x_aload_n (pc' := 30) rfl rfl rfl rfl rfl ?_
      refine x_iconst (pc' := 31) rfl rfl ?_
      refine x_pZ (pc' := 34) (z := true) rfl rfl rfl rfl ?_
      refine x_aload_n (pc' := 35) rfl rfl rfl rfl rfl ?_
      refine x_iload_n (pc' := 36) rfl rfl rfl ?_
      refine x_pI (pc' := 39) rfl rfl rfl ?_
      refine x_aload_n (pc' := 40) rfl rfl rfl rfl rfl ?_
      refine x_gR (pc' := 43) (r := (some 0)) rfl rfl rfl (Eq.trans rdRI (Eq.trans rdRZ (z_R_704_0 e))) ?_
      refine x_cv (ls0 := [_, sJk, sJk, sJk, sJk, sJk]) (rest := []) rfl rfl rfl rfl rfl ?_
      refine x_iconst (pc' := 1) rfl rfl ?_
      refine x_istore_n (pc' := 2) (ls' := [_, _, _, _, _, _]) rfl rfl rfl rfl ?_
      refine x_aload_n (pc' := 3) rfl rfl rfl rfl rfl ?_
      refine x_gR (pc' := 6) (r := (some 0)) rfl rfl rfl (Eq.trans rdRI (Eq.trans rdRZ (z_R_321_0 e))) ?_
      refine x_astore_n (pc' := 7) (ls' := [_, _, _, _, _, _]) rfl rfl rfl rfl rfl ?_
      refine x_aload_n (pc' := 8) rfl rfl rfl rfl rfl ?_
      refine x_alen (pc' := 9) (N := 6) rfl rfl rfl (Eq.trans rdNI (Eq.trans rdNZ (z_N_26_0 e))) (?_ : X _ _ _ (.inl 6 :: _) _ _)
      refine x_istore_n (pc' := 10) (ls' := [_, _, _, _, _, _]) rfl rfl rfl rfl ?_
      refine x_iconst (pc' := 11) rfl rfl ?_
      refine x_istore (pc' := 13) (ls' := [_, _, _, _, _, _]) rfl rfl rfl rfl ?_
      refine x_iload (pc' := 15) rfl rfl rfl ?_
      refine x_iload_n (pc' := 16) rfl rfl rfl ?_
      refine x_icmp (a' := 47) (pc' := 19) (z := false) rfl rfl rfl (by decide) (fun h => by cases h) (fun _ => ?_)
      refine x_aload_n (pc' := 20) rfl rfl rfl rfl rfl ?_
      refine x_iload (pc' := 22) rfl rfl rfl ?_
      refine x_aald (pc' := 23) (N := 6) (k' := 7) (r := (some 0)) rfl rfl rfl (Eq.trans rdNI (Eq.trans rdNZ (z_N_26_0 e))) (io_in (p := 0) (N := 6) (by decide) (by decide)) (Eq.trans (congrArg (sE (sIw (sZw t 457 1 true) 456 1 (xs 2)) 26 0) (nn_io (p := 0) (by decide))) (Eq.trans rdEI (Eq.trans rdEZ (z_E_26_0_0 e)))) ?_
      refine x_astore (pc' := 25) (ls' := [_, _, _, _, _, _]) rfl rfl rfl rfl rfl ?_
      refine x_iload_n (pc' := 26) rfl rfl rfl ?_
      refine x_aload (pc' := 28) rfl rfl rfl rfl rfl ?_
      refine x_gZ (pc' := 31) (z := false) rfl rfl rfl (Eq.trans rdZI (Eq.trans (rdZ_o rfl) (z_Z_457_0 e))) ?_
      refine x_if (a' := 38) (pc' := 34) (z := true) rfl rfl rfl (by decide) (fun _ => ?_) (fun h => by cases h)
      refine x_iconst (pc' := 39) rfl rfl ?_
      refine x_iadd (pc' := 40) (z := 0) rfl rfl (by decide) ?_
      refine x_istore_n (pc' := 41) (ls' := [_, _, _, _, _, _]) rfl rfl rfl rfl ?_
      refine x_iinc (pc' := 44) (y := 1) (ls' := [_, _, _, _, _, _]) rfl rfl rfl rfl rfl ?_
      refine x_goto (pc' := 13) rfl rfl ?_
      refine x_iload (pc' := 15) rfl rfl rfl ?_
      refine x_iload_n (pc' := 16) rfl rfl rfl ?_
      refine x_icmp (a' := 47) (pc' := 19) (z := false) rfl rfl rfl (by decide) (fun h => by cases h) (fun _ => ?_)
      refine x_aload_n (pc' := 20) rfl rfl rfl rfl rfl ?_
      refine x_iload (pc' := 22) rfl rfl rfl ?_
      refine x_aald (pc' := 23) (N := 6) (k' := 7) (r := (some 1)) rfl rfl rfl (Eq.trans rdNI (Eq.trans rdNZ (z_N_26_0 e))) (io_in (p := 1) (N := 6) (by decide) (by decide)) (Eq.trans (congrArg (sE (sIw (sZw t 457 1 true) 456 1 (xs 2)) 26 0) (nn_io (p := 1) (by decide))) (Eq.trans rdEI (Eq.trans rdEZ (z_E_26_0_1 e)))) ?_
      refine x_astore (pc' := 25) (ls' := [_, _, _, _, _, _]) rfl rfl rfl rfl rfl ?_
      refine x_iload_n (pc' := 26) rfl rfl rfl ?_
      refine x_aload (pc' := 28) rfl rfl rfl rfl rfl ?_
      refine x_gZ (pc' := 31) (z := true) rfl rfl rfl (Eq.trans rdZI sZ_s) ?_
      refine x_if (a' := 38) (pc' := 34) (z := false) rfl rfl rfl (by decide) (fun h => by cases h) (fun _ => ?_)
      refine x_iconst (pc' := 35) rfl rfl ?_
      refine x_goto (pc' := 39) rfl rfl ?_
      refine x_iadd (pc' := 40) (z := 1) rfl rfl (by decide) ?_
      refine x_istore_n (pc' := 41) (ls' := [_, _, _, _, _, _]) rfl rfl rfl rfl ?_
      refine x_iinc (pc' := 44) (y := 2) (ls' := [_, _, _, _, _, _]) rfl rfl rfl rfl rfl ?_
      refine x_goto (pc' := 13) rfl rfl ?_
      refine x_iload (pc' := 15) rfl rfl rfl ?_
      refine x_iload_n (pc' := 16) rfl rfl rfl ?_
      refine x_icmp (a' := 47) (pc' := 19) (z := false) rfl rfl rfl (by decide) (fun h => by cases h) (fun _ => ?_)
      refine x_aload_n (pc' := 20) rfl rfl rfl rfl rfl ?_
      refine x_iload (pc' := 22) rfl rfl rfl ?_
      refine x_aald (pc' := 23) (N := 6) (k' := 7) (r := (some 2)) rfl rfl rfl (Eq.trans rdNI (Eq.trans rdNZ (z_N_26_0 e))) (io_in (p := 2) (N := 6) (by decide) (by decide)) (Eq.trans (congrArg (sE (sIw (sZw t 457 1 true) 456 1 (xs 2)) 26 0) (nn_io (p := 2) (by decide))) (Eq.trans rdEI (Eq.trans rdEZ (z_E_26_0_2 e)))) ?_
      refine x_astore (pc' := 25) (ls' := [_, _, _, _, _, _]) rfl rfl rfl rfl rfl ?_
      refine x_iload_n (pc' := 26) rfl rfl rfl ?_
      refine x_aload (pc' := 28) rfl rfl rfl rfl rfl ?_
      refine x_gZ (pc' := 31) (z := false) rfl rfl rfl (Eq.trans rdZI (Eq.trans (rdZ_o rfl) (z_Z_457_2 e))) ?_
      refine x_if (a' := 38) (pc' := 34) (z := true) rfl rfl rfl (by decide) (fun _ => ?_) (fun h => by cases h)
      refine x_iconst (pc' := 39) rfl rfl ?_
      refine x_iadd (pc' := 40) (z := 1) rfl rfl (by decide) ?_
      refine x_istore_n (pc' := 41) (ls' := [_, _, _, _, _, _]) rfl rfl rfl rfl ?_
      refine x_iinc (pc' := 44) (y := 3) (ls' := [_, _, _, _, _, _]) rfl rfl rfl rfl rfl ?_
      refine x_goto (pc' := 13) rfl rfl ?_
      refine x_iload (pc' := 15) rfl rfl rfl ?_
      refine x_iload_n (pc' := 16) rfl rfl rfl ?_
      refine x_icmp (a' := 47) (pc' := 19) (z := false) rfl rfl rfl (by decide) (fun h => by cases h) (fun _ => ?_)
      refine x_aload_n (pc' := 20) rfl rfl rfl rfl rfl ?_
      refine x_iload (pc' := 22) rfl rfl rfl ?_
      refine x_aald (pc' := 23) (N := 6) (k' := 7) (r := (some 3)) rfl rfl rfl (Eq.trans rdNI (Eq.trans rdNZ (z_N_26_0 e))) (io_in (p := 3) (N := 6) (by decide) (by decide)) (Eq.trans (congrArg (sE (sIw (sZw t 457 1 true) 456 1 (xs 2)) 26 0) (nn_io (p := 3) (by decide))) (Eq.trans rdEI (Eq.trans rdEZ (z_E_26_0_3 e)))) ?_
      refine x_astore (pc' := 25) (ls' := [_, _, _, _, _, _]) rfl rfl rfl rfl rfl ?_
      refine x_iload_n (pc' := 26) rfl rfl rfl ?_
      refine x_aload (pc' := 28) rfl rfl rfl rfl rfl ?_
      refine x_gZ (pc' := 31) (z := false) rfl rfl rfl (Eq.trans rdZI (Eq.trans (rdZ_o rfl) (z_Z_457_3 e))) ?_
      refine x_if (a' := 38) (pc' := 34) (z := true) rfl rfl rfl (by decide) (fun _ => ?_) (fun h => by cases h)
      refine x_iconst (pc' := 39) rfl rfl ?_
      refine x_iadd (pc' := 40) (z := 1) rfl rfl (by decide) ?_
      refine x_istore_n (pc' := 41) (ls' := [_, _, _, _, _, _]) rfl rfl rfl rfl ?_
      refine x_iinc (pc' := 44) (y := 4) (ls' := [_, _, _, _, _, _]) rfl rfl rfl rfl rfl ?_
      refine x_goto (pc' := 13) rfl rfl ?_
      refine x_iload (pc' := 15) rfl rfl rfl ?_
      refine x_iload_n (pc' := 16) rfl rfl rfl ?_
      refine x_icmp (a' := 47) (pc' := 19) (z := false) rfl rfl rfl (by decide) (fun h => by cases h) (fun _ => ?_)
      refine x_aload_n (pc' := 20) rfl rfl rfl rfl rfl ?_
      refine x_iload (pc' := 22) rfl rfl rfl ?_
      refine x_aald (pc' := 23) (N := 6) (k' := 7) (r := (some 4)) rfl rfl rfl (Eq.trans rdNI (Eq.trans rdNZ (z_N_26_0 e))) (io_in (p := 4) (N := 6) (by decide) (by decide)) (Eq.trans (congrArg (sE (sIw (sZw t 457 1 true) 456 1 (xs 2)) 26 0) (nn_io (p := 4) (by decide))) (Eq.trans rdEI (Eq.trans rdEZ (z_E_26_0_4 e)))) ?_
      refine x_astore (pc' := 25) (ls' := [_, _, _, _, _, _]) rfl rfl rfl rfl rfl ?_
      refine x_iload_n (pc' := 26) rfl rfl rfl ?_
      refine x_aload (pc' := 28) rfl rfl rfl rfl rfl ?_
      refine x_gZ (pc' := 31) (z := false) rfl rfl rfl (Eq.trans rdZI (Eq.trans (rdZ_o rfl) (z_Z_457_4 e))) ?_
      refine x_if (a' := 38) (pc' := 34) (z := true) rfl rfl rfl (by decide) (fun _ => ?_) (fun h => by cases h)
      refine x_iconst (pc' := 39) rfl rfl ?_
      refine x_iadd (pc' := 40) (z := 1) rfl rfl (by decide) ?_
      refine x_istore_n (pc' := 41) (ls' := [_, _, _, _, _, _]) rfl rfl rfl rfl ?_
      refine x_iinc (pc' := 44) (y := 5) (ls' := [_, _, _, _, _, _]) rfl rfl rfl rfl rfl ?_
      refine x_goto (pc' := 13) rfl rfl ?_
      refine x_iload (pc' := 15) rfl rfl rfl ?_
      refine x_iload_n (pc' := 16) rfl rfl rfl ?_
      refine x_icmp (a' := 47) (pc' := 19) (z := false) rfl rfl rfl (by decide) (fun h => by cases h) (fun _ => ?_)
      refine x_aload_n (pc' := 20) rfl rfl rfl rfl rfl ?_
      refine x_iload (pc' := 22) rfl rfl rfl ?_
      refine x_aald (pc' := 23) (N := 6) (k' := 7) (r := (some 5)) rfl rfl rfl (Eq.trans rdNI (Eq.trans rdNZ (z_N_26_0 e))) (io_in (p := 5) (N := 6) (by decide) (by decide)) (Eq.trans (congrArg (sE (sIw (sZw t 457 1 true) 456 1 (xs 2)) 26 0) (nn_io (p := 5) (by decide))) (Eq.trans rdEI (Eq.trans rdEZ (z_E_26_0_5 e)))) ?_
      refine x_astore (pc' := 25) (ls' := [_, _, _, _, _, _]) rfl rfl rfl rfl rfl ?_
      refine x_iload_n (pc' := 26) rfl rfl rfl ?_
      refine x_aload (pc' := 28) rfl rfl rfl rfl rfl ?_
      refine x_gZ (pc' := 31) (z := false) rfl rfl rfl (Eq.trans rdZI (Eq.trans (rdZ_o rfl) (z_Z_457_5 e))) ?_
      refine x_if (a' := 38) (pc' := 34) (z := true) rfl rfl rfl (by decide) (fun _ => ?_) (fun h => by cases h)
      refine x_iconst (pc' := 39) rfl rfl ?_
      refine x_iadd (pc' := 40) (z := 1) rfl rfl (by decide) ?_
      refine x_istore_n (pc' := 41) (ls' := [_, _, _, _, _, _]) rfl rfl rfl rfl ?_
      refine x_iinc (pc' := 44) (y := 6) (ls' := [_, _, _, _, _, _]) rfl rfl rfl rfl rfl ?_
      refine x_goto (pc' := 13) rfl rfl ?_
      refine x_iload (pc' := 15) rfl rfl rfl ?_
      refine x_iload_n (pc' := 16) rfl rfl rfl ?_
      refine x_icmp (a' := 47) (pc' := 19) (z := true) rfl rfl rfl (by decide) (fun _ => ?_) (fun h => by cases h)
      refine x_iload_n (pc' := 48) rfl rfl rfl ?_
      refine x_reti rfl rfl ?_
      refine sK_i (pc' := 46) rfl ?_
      refine x_reti rfl rfl ?_
      refine sK_i (pc' := 8) rfl ?_
      refine x_i2l (pc' := 9) (z := (1 : Int64)) rfl rfl (by decide) ?_
      refine x_last (pc' := 10) (N := 1) (p := 0) rfl rfl (Eq.trans rdNI (Eq.trans rdNZ (z_N_23_0 e))) (io_in (p := 0) (N := 1) (by decide) (by decide)) (nn_io (p := 0) (by decide)) ?_
      refine x_goto (pc' := 25) rfl rfl ?_
      refine x_iconst (pc' := 26) rfl rfl ?_
      refine x_reti rfl rfl ?_
      refine sK_i (pc' := 1504) rfl ?_
      refine x_istore (pc' := 1506) (ls' := [_, _, _, _, _, _, _]) rfl rfl rfl rfl ?_
      refine x_aload_n (pc' := 1507) rfl rfl rfl rfl rfl ?_
      refine x_aload_n (pc' := 1508) rfl rfl rfl rfl rfl ?_
      refine x_iload (pc' := 1510) rfl rfl rfl ?_
      refine x_iconst (pc' := 1511) rfl rfl ?_
      refine x_iadd (pc' := 1512) (z := 1) rfl rfl (by decide) ?_
      refine x_iald (pc' := 1513) (N := 7) (x := 1) rfl rfl rfl (Eq.trans rdNL (Eq.trans rdNI (Eq.trans rdNZ (z_N_29_0 e)))) (io_in (p := 1) (N := 7) (by decide) (by decide)) (Eq.trans (congrArg (sA (sLw (sIw (sZw t 457 1 true) 456 1 (xs 2)) 23 0 0 (1 : Int64)) 29 0) (nn_io (p := 1) (by decide))) (Eq.trans rdAL (Eq.trans rdAI (Eq.trans rdAZ (Eq.trans (z_A_29_0_1 e) e0))))) ?_
      refine x_aload_n (pc' := 1514) rfl rfl rfl rfl rfl ?_
      refine x_iload (pc' := 1516) rfl rfl rfl ?_
      refine x_iconst (pc' := 1517) rfl rfl ?_
      refine x_iadd (pc' := 1518) (z := 2) rfl rfl (by decide) ?_
      refine x_iald (pc' := 1519) (N := 7) (x := (xs 2)) rfl rfl rfl (Eq.trans rdNL (Eq.trans rdNI (Eq.trans rdNZ (z_N_29_0 e)))) (io_in (p := 2) (N := 7) (by decide) (by decide)) (Eq.trans (congrArg (sA (sLw (sIw (sZw t 457 1 true) 456 1 (xs 2)) 23 0 0 (1 : Int64)) 29 0) (nn_io (p := 2) (by decide))) (Eq.trans rdAL (Eq.trans rdAI (Eq.trans rdAZ (z_A_29_0_2 e))))) ?_
      refine x_cv (ls0 := [_, _, _, sJk, sJk, sJk]) (rest := []) rfl rfl rfl rfl rfl ?_
      refine x_iload_n (pc' := 1) rfl rfl rfl ?_
      refine x_cs (ls0 := [_]) (rest := []) rfl rfl rfl rfl ?_
      refine x_iload_n (pc' := 1) rfl rfl rfl ?_
      refine x_iconst (pc' := 2) rfl rfl ?_
      refine x_iconst (pc' := 3) rfl rfl ?_
      refine x_cs (ls0 := [_, _, _]) (rest := []) rfl rfl rfl rfl ?_
      refine x_iload_n (pc' := 1) rfl rfl rfl ?_
      refine x_iload_n (pc' := 2) rfl rfl rfl ?_
      refine x_icmp (a' := 14) (pc' := 5) (z := false) rfl rfl rfl (by decide) (fun h => by cases h) (fun _ => ?_)
      refine x_iload_n (pc' := 6) rfl rfl rfl ?_
      refine x_iload_n (pc' := 7) rfl rfl rfl ?_
      refine x_icmp (a' := 14) (pc' := 10) (z := false) rfl rfl rfl (by decide) (fun h => by cases h) (fun _ => ?_)
      refine x_iconst (pc' := 11) rfl rfl ?_
      refine x_goto (pc' := 15) rfl rfl ?_
      refine x_retz (z := true) rfl rfl ?_
      refine sK_i (pc' := 6) rfl ?_
      refine x_retz (z := true) rfl rfl ?_
      refine sK_i (pc' := 4) rfl ?_
      refine x_istore_n (pc' := 5) (ls' := [_, _, _, _, _, _]) rfl rfl rfl rfl ?_
      refine x_aload_n (pc' := 6) rfl rfl rfl rfl rfl ?_
      refine x_iload_n (pc' := 7) rfl rfl rfl ?_
      refine x_if (a' := 14) (pc' := 10) (z := true) rfl rfl rfl (by decide) (fun _ => ?_) (fun h => by cases h)
      refine x_iload_n (pc' := 15) rfl rfl rfl ?_
      refine x_ldc_w (pc' := 18) rfl rfl ?_
      refine x_ldc_w (pc' := 21) rfl rfl ?_
      refine x_cs (ls0 := [_, _, _]) (rest := [_]) rfl rfl rfl rfl ?_
      refine x_iload_n (pc' := 1) rfl rfl rfl ?_
      refine x_iload_n (pc' := 2) rfl rfl rfl ?_
      refine x_icmp (a' := 14) (pc' := 5) (z := decide ((xs 2) < (-1000000))) rfl rfl rfl rfl (fun h => absurd (of_decide_eq_true h) (of_decide_eq_false q5)) (fun _ => ?_)
      refine x_iload_n (pc' := 6) rfl rfl rfl ?_
      refine x_iload_n (pc' := 7) rfl rfl rfl ?_
      refine x_icmp (a' := 14) (pc' := 10) (z := decide (1000000 < (xs 2))) rfl rfl rfl rfl (fun h => absurd (of_decide_eq_true h) (of_decide_eq_false q16)) (fun _ => ?_)
      refine x_iconst (pc' := 11) rfl rfl ?_
      refine x_goto (pc' := 15) rfl rfl ?_
      refine x_retz (z := true) rfl rfl ?_
      refine sK_i (pc' := 24) rfl ?_
      refine x_if (a' := 31) (pc' := 27) (z := true) rfl rfl rfl (by decide) (fun _ => ?_) (fun h => by cases h)
      refine x_aload_n (pc' := 32) rfl rfl rfl rfl rfl ?_
      refine x_gR (pc' := 35) (r := (some 2)) rfl rfl rfl (Eq.trans rdRL (Eq.trans rdRI (Eq.trans rdRZ (z_R_781_0 e)))) ?_
      refine x_iload_n (pc' := 36) rfl rfl rfl ?_
      refine x_bald (pc' := 37) (N := 6) (z := false) rfl rfl (Eq.trans rdNL (Eq.trans rdNI (Eq.trans rdNZ (z_N_22_2 e)))) (io_in (p := 1) (N := 6) (by decide) (by decide)) (Eq.trans (congrArg (sB (sLw (sIw (sZw t 457 1 true) 456 1 (xs 2)) 23 0 0 (1 : Int64)) 22 2) (nn_io (p := 1) (by decide))) (Eq.trans rdBL (Eq.trans rdBI (Eq.trans rdBZ (z_B_22_2_1 e))))) ?_
      refine x_if (a' := 44) (pc' := 40) (z := true) rfl rfl rfl (by decide) (fun _ => ?_) (fun h => by cases h)
      refine x_iconst (pc' := 45) rfl rfl ?_
      refine x_cv (ls0 := [_, _]) (rest := []) rfl rfl rfl rfl rfl ?_
      refine x_aload_n (pc' := 1) rfl rfl rfl rfl rfl ?_
      refine x_iload_n (pc' := 2) rfl rfl rfl ?_
      refine x_pI (pc' := 5) rfl rfl rfl ?_
      refine x_iload_n (pc' := 6) rfl rfl rfl ?_
      refine x_if (a' := 13) (pc' := 9) (z := false) rfl rfl rfl (by decide) (fun h => by cases h) (fun _ => ?_)
      refine x_iconst (pc' := 10) rfl rfl ?_
      refine x_goto (pc' := 14) rfl rfl ?_
      refine x_retz (z := true) rfl rfl ?_
      refine sK_i (pc' := 48) rfl ?_
      refine x_if (a' := 53) (pc' := 51) (z := true) rfl rfl rfl (by decide) (fun _ => ?_) (fun h => by cases h)
      refine x_aload_n (pc' := 54) rfl rfl rfl rfl rfl ?_
      refine x_gR (pc' := 57) (r := (some 9)) rfl rfl rfl (Eq.trans rdRI (Eq.trans rdRL (Eq.trans rdRI (Eq.trans rdRZ (z_R_779_0 e))))) ?_
      refine x_iload_n (pc' := 58) rfl rfl rfl ?_
      refine x_iload_n (pc' := 59) rfl rfl rfl ?_
      refine x_iast (pc' := 60) (N := 6) (p := 1) rfl rfl rfl (Eq.trans rdNI (Eq.trans rdNL (Eq.trans rdNI (Eq.trans rdNZ (z_N_21_9 e))))) (io_in (p := 1) (N := 6) (by decide) (by decide)) (nn_io (p := 1) (by decide)) ?_
      refine x_aload_n (pc' := 61) rfl rfl rfl rfl rfl ?_
      refine x_gR (pc' := 64) (r := (some 1)) rfl rfl rfl (Eq.trans rdRA (Eq.trans rdRI (Eq.trans rdRL (Eq.trans rdRI (Eq.trans rdRZ (z_R_780_0 e)))))) ?_
      refine x_iload_n (pc' := 65) rfl rfl rfl ?_
      refine x_iconst (pc' := 66) rfl rfl ?_
      refine x_bast (pc' := 67) (N := 6) (p := 1) (z := true) rfl rfl (Eq.trans rdNA (Eq.trans rdNI (Eq.trans rdNL (Eq.trans rdNI (Eq.trans rdNZ (z_N_22_1 e)))))) (io_in (p := 1) (N := 6) (by decide) (by decide)) (nn_io (p := 1) (by decide)) rfl ?_
      refine x_iconst (pc' := 68) rfl rfl ?_
      refine x_istore (pc' := 70) (ls' := [_, _, _, _, _, _]) rfl rfl rfl rfl ?_
      refine x_iconst (pc' := 71) rfl rfl ?_
      refine x_istore (pc' := 73) (ls' := [_, _, _, _, _, _]) rfl rfl rfl rfl ?_
      refine x_iload (pc' := 75) rfl rfl rfl ?_
      refine x_bipush (pc' := 77) rfl rfl ?_
      refine x_icmp (a' := 106) (pc' := 80) (z := false) rfl rfl rfl (by decide) (fun h => by cases h) (fun _ => ?_)
      refine x_iload (pc' := 82) rfl rfl rfl ?_
      refine x_aload_n (pc' := 83) rfl rfl rfl rfl rfl ?_
      refine x_gR (pc' := 86) (r := (some 1)) rfl rfl rfl (Eq.trans rdRB (Eq.trans rdRA (Eq.trans rdRI (Eq.trans rdRL (Eq.trans rdRI (Eq.trans rdRZ (z_R_780_0 e))))))) ?_
      refine x_iload (pc' := 88) rfl rfl rfl ?_
      refine x_bald (pc' := 89) (N := 6) (z := false) rfl rfl (Eq.trans rdNB (Eq.trans rdNA (Eq.trans rdNI (Eq.trans rdNL (Eq.trans rdNI (Eq.trans rdNZ (z_N_22_1 e))))))) (io_in (p := 0) (N := 6) (by decide) (by decide)) (Eq.trans (congrArg (sB (sBw (sAw (sIw (sLw (sIw (sZw t 457 1 true) 456 1 (xs 2)) 23 0 0 (1 : Int64)) 768 0 0) 21 9 1 (xs 2)) 22 1 1 true) 22 1) (nn_io (p := 0) (by decide))) (Eq.trans (rdB_p rfl) (Eq.trans rdBA (Eq.trans rdBI (Eq.trans rdBL (Eq.trans rdBI (Eq.trans rdBZ (z_B_22_1_0 e)))))))) ?_
      refine x_if (a' := 96) (pc' := 92) (z := true) rfl rfl rfl (by decide) (fun _ => ?_) (fun h => by cases h)
      refine x_iconst (pc' := 97) rfl rfl ?_
      refine x_iadd (pc' := 98) (z := 0) rfl rfl (by decide) ?_
      refine x_istore (pc' := 100) (ls' := [_, _, _, _, _, _]) rfl rfl rfl rfl ?_
      refine x_iinc (pc' := 103) (y := 1) (ls' := [_, _, _, _, _, _]) rfl rfl rfl rfl rfl ?_
      refine x_goto (pc' := 73) rfl rfl ?_
      refine x_iload (pc' := 75) rfl rfl rfl ?_
      refine x_bipush (pc' := 77) rfl rfl ?_
      refine x_icmp (a' := 106) (pc' := 80) (z := false) rfl rfl rfl (by decide) (fun h => by cases h) (fun _ => ?_)
      refine x_iload (pc' := 82) rfl rfl rfl ?_
      refine x_aload_n (pc' := 83) rfl rfl rfl rfl rfl ?_
      refine x_gR (pc' := 86) (r := (some 1)) rfl rfl rfl (Eq.trans rdRB (Eq.trans rdRA (Eq.trans rdRI (Eq.trans rdRL (Eq.trans rdRI (Eq.trans rdRZ (z_R_780_0 e))))))) ?_
      refine x_iload (pc' := 88) rfl rfl rfl ?_
      refine x_bald (pc' := 89) (N := 6) (z := true) rfl rfl (Eq.trans rdNB (Eq.trans rdNA (Eq.trans rdNI (Eq.trans rdNL (Eq.trans rdNI (Eq.trans rdNZ (z_N_22_1 e))))))) (io_in (p := 1) (N := 6) (by decide) (by decide)) (Eq.trans (congrArg (sB (sBw (sAw (sIw (sLw (sIw (sZw t 457 1 true) 456 1 (xs 2)) 23 0 0 (1 : Int64)) 768 0 0) 21 9 1 (xs 2)) 22 1 1 true) 22 1) (nn_io (p := 1) (by decide))) sB_s) ?_
      refine x_if (a' := 96) (pc' := 92) (z := false) rfl rfl rfl (by decide) (fun h => by cases h) (fun _ => ?_)
      refine x_iconst (pc' := 93) rfl rfl ?_
      refine x_goto (pc' := 97) rfl rfl ?_
      refine x_iadd (pc' := 98) (z := 1) rfl rfl (by decide) ?_
      refine x_istore (pc' := 100) (ls' := [_, _, _, _, _, _]) rfl rfl rfl rfl ?_
      refine x_iinc (pc' := 103) (y := 2) (ls' := [_, _, _, _, _, _]) rfl rfl rfl rfl rfl ?_
      refine x_goto (pc' := 73) rfl rfl ?_
      refine x_iload (pc' := 75) rfl rfl rfl ?_
      refine x_bipush (pc' := 77) rfl rfl ?_
      refine x_icmp (a' := 106) (pc' := 80) (z := false) rfl rfl rfl (by decide) (fun h => by cases h) (fun _ => ?_)
      refine x_iload (pc' := 82) rfl rfl rfl ?_
      refine x_aload_n (pc' := 83) rfl rfl rfl rfl rfl ?_
      refine x_gR (pc' := 86) (r := (some 1)) rfl rfl rfl (Eq.trans rdRB (Eq.trans rdRA (Eq.trans rdRI (Eq.trans rdRL (Eq.trans rdRI (Eq.trans rdRZ (z_R_780_0 e))))))) ?_
      refine x_iload (pc' := 88) rfl rfl rfl ?_
      refine x_bald (pc' := 89) (N := 6) (z := false) rfl rfl (Eq.trans rdNB (Eq.trans rdNA (Eq.trans rdNI (Eq.trans rdNL (Eq.trans rdNI (Eq.trans rdNZ (z_N_22_1 e))))))) (io_in (p := 2) (N := 6) (by decide) (by decide)) (Eq.trans (congrArg (sB (sBw (sAw (sIw (sLw (sIw (sZw t 457 1 true) 456 1 (xs 2)) 23 0 0 (1 : Int64)) 768 0 0) 21 9 1 (xs 2)) 22 1 1 true) 22 1) (nn_io (p := 2) (by decide))) (Eq.trans (rdB_p rfl) (Eq.trans rdBA (Eq.trans rdBI (Eq.trans rdBL (Eq.trans rdBI (Eq.trans rdBZ (z_B_22_1_2 e)))))))) ?_
      refine x_if (a' := 96) (pc' := 92) (z := true) rfl rfl rfl (by decide) (fun _ => ?_) (fun h => by cases h)
      refine x_iconst (pc' := 97) rfl rfl ?_
      refine x_iadd (pc' := 98) (z := 1) rfl rfl (by decide) ?_
      refine x_istore (pc' := 100) (ls' := [_, _, _, _, _, _]) rfl rfl rfl rfl ?_
      refine x_iinc (pc' := 103) (y := 3) (ls' := [_, _, _, _, _, _]) rfl rfl rfl rfl rfl ?_
      refine x_goto (pc' := 73) rfl rfl ?_
      refine x_iload (pc' := 75) rfl rfl rfl ?_
      refine x_bipush (pc' := 77) rfl rfl ?_
      refine x_icmp (a' := 106) (pc' := 80) (z := false) rfl rfl rfl (by decide) (fun h => by cases h) (fun _ => ?_)
      refine x_iload (pc' := 82) rfl rfl rfl ?_
      refine x_aload_n (pc' := 83) rfl rfl rfl rfl rfl ?_
      refine x_gR (pc' := 86) (r := (some 1)) rfl rfl rfl (Eq.trans rdRB (Eq.trans rdRA (Eq.trans rdRI (Eq.trans rdRL (Eq.trans rdRI (Eq.trans rdRZ (z_R_780_0 e))))))) ?_
      refine x_iload (pc' := 88) rfl rfl rfl ?_
      refine x_bald (pc' := 89) (N := 6) (z := false) rfl rfl (Eq.trans rdNB (Eq.trans rdNA (Eq.trans rdNI (Eq.trans rdNL (Eq.trans rdNI (Eq.trans rdNZ (z_N_22_1 e))))))) (io_in (p := 3) (N := 6) (by decide) (by decide)) (Eq.trans (congrArg (sB (sBw (sAw (sIw (sLw (sIw (sZw t 457 1 true) 456 1 (xs 2)) 23 0 0 (1 : Int64)) 768 0 0) 21 9 1 (xs 2)) 22 1 1 true) 22 1) (nn_io (p := 3) (by decide))) (Eq.trans (rdB_p rfl) (Eq.trans rdBA (Eq.trans rdBI (Eq.trans rdBL (Eq.trans rdBI (Eq.trans rdBZ (z_B_22_1_3 e)))))))) ?_
      refine x_if (a' := 96) (pc' := 92) (z := true) rfl rfl rfl (by decide) (fun _ => ?_) (fun h => by cases h)
      refine x_iconst (pc' := 97) rfl rfl ?_
      refine x_iadd (pc' := 98) (z := 1) rfl rfl (by decide) ?_
      refine x_istore (pc' := 100) (ls' := [_, _, _, _, _, _]) rfl rfl rfl rfl ?_
      refine x_iinc (pc' := 103) (y := 4) (ls' := [_, _, _, _, _, _]) rfl rfl rfl rfl rfl ?_
      refine x_goto (pc' := 73) rfl rfl ?_
      refine x_iload (pc' := 75) rfl rfl rfl ?_
      refine x_bipush (pc' := 77) rfl rfl ?_
      refine x_icmp (a' := 106) (pc' := 80) (z := false) rfl rfl rfl (by decide) (fun h => by cases h) (fun _ => ?_)
      refine x_iload (pc' := 82) rfl rfl rfl ?_
      refine x_aload_n (pc' := 83) rfl rfl rfl rfl rfl ?_
      refine x_gR (pc' := 86) (r := (some 1)) rfl rfl rfl (Eq.trans rdRB (Eq.trans rdRA (Eq.trans rdRI (Eq.trans rdRL (Eq.trans rdRI (Eq.trans rdRZ (z_R_780_0 e))))))) ?_
      refine x_iload (pc' := 88) rfl rfl rfl ?_
      refine x_bald (pc' := 89) (N := 6) (z := false) rfl rfl (Eq.trans rdNB (Eq.trans rdNA (Eq.trans rdNI (Eq.trans rdNL (Eq.trans rdNI (Eq.trans rdNZ (z_N_22_1 e))))))) (io_in (p := 4) (N := 6) (by decide) (by decide)) (Eq.trans (congrArg (sB (sBw (sAw (sIw (sLw (sIw (sZw t 457 1 true) 456 1 (xs 2)) 23 0 0 (1 : Int64)) 768 0 0) 21 9 1 (xs 2)) 22 1 1 true) 22 1) (nn_io (p := 4) (by decide))) (Eq.trans (rdB_p rfl) (Eq.trans rdBA (Eq.trans rdBI (Eq.trans rdBL (Eq.trans rdBI (Eq.trans rdBZ (z_B_22_1_4 e)))))))) ?_
      refine x_if (a' := 96) (pc' := 92) (z := true) rfl rfl rfl (by decide) (fun _ => ?_) (fun h => by cases h)
      refine x_iconst (pc' := 97) rfl rfl ?_
      refine x_iadd (pc' := 98) (z := 1) rfl rfl (by decide) ?_
      refine x_istore (pc' := 100) (ls' := [_, _, _, _, _, _]) rfl rfl rfl rfl ?_
      refine x_iinc (pc' := 103) (y := 5) (ls' := [_, _, _, _, _, _]) rfl rfl rfl rfl rfl ?_
      refine x_goto (pc' := 73) rfl rfl ?_
      refine x_iload (pc' := 75) rfl rfl rfl ?_
      refine x_bipush (pc' := 77) rfl rfl ?_
      refine x_icmp (a' := 106) (pc' := 80) (z := false) rfl rfl rfl (by decide) (fun h => by cases h) (fun _ => ?_)
      refine x_iload (pc' := 82) rfl rfl rfl ?_
      refine x_aload_n (pc' := 83) rfl rfl rfl rfl rfl ?_
      refine x_gR (pc' := 86) (r := (some 1)) rfl rfl rfl (Eq.trans rdRB (Eq.trans rdRA (Eq.trans rdRI (Eq.trans rdRL (Eq.trans rdRI (Eq.trans rdRZ (z_R_780_0 e))))))) ?_
      refine x_iload (pc' := 88) rfl rfl rfl ?_
      refine x_bald (pc' := 89) (N := 6) (z := false) rfl rfl (Eq.trans rdNB (Eq.trans rdNA (Eq.trans rdNI (Eq.trans rdNL (Eq.trans rdNI (Eq.trans rdNZ (z_N_22_1 e))))))) (io_in (p := 5) (N := 6) (by decide) (by decide)) (Eq.trans (congrArg (sB (sBw (sAw (sIw (sLw (sIw (sZw t 457 1 true) 456 1 (xs 2)) 23 0 0 (1 : Int64)) 768 0 0) 21 9 1 (xs 2)) 22 1 1 true) 22 1) (nn_io (p := 5) (by decide))) (Eq.trans (rdB_p rfl) (Eq.trans rdBA (Eq.trans rdBI (Eq.trans rdBL (Eq.trans rdBI (Eq.trans rdBZ (z_B_22_1_5 e)))))))) ?_
      refine x_if (a' := 96) (pc' := 92) (z := true) rfl rfl rfl (by decide) (fun _ => ?_) (fun h => by cases h)
      refine x_iconst (pc' := 97) rfl rfl ?_
      refine x_iadd (pc' := 98) (z := 1) rfl rfl (by decide) ?_
      refine x_istore (pc' := 100) (ls' := [_, _, _, _, _, _]) rfl rfl rfl rfl ?_
      refine x_iinc (pc' := 103) (y := 6) (ls' := [_, _, _, _, _, _]) rfl rfl rfl rfl rfl ?_
      refine x_goto (pc' := 73) rfl rfl ?_
      refine x_iload (pc' := 75) rfl rfl rfl ?_
      refine x_bipush (pc' := 77) rfl rfl ?_
      refine x_icmp (a' := 106) (pc' := 80) (z := true) rfl rfl rfl (by decide) (fun _ => ?_) (fun h => by cases h)
      refine x_iload (pc' := 108) rfl rfl rfl ?_
      refine x_reti rfl rfl ?_
      refine sK_i (pc' := 1522) rfl ?_
      refine x_istore (pc' := 1524) (ls' := [_, _, _, _, _, _, _]) rfl rfl rfl rfl ?_
      refine x_aload_n (pc' := 1525) rfl rfl rfl rfl rfl ?_
      refine x_cv (ls0 := [_]) (rest := []) rfl rfl rfl rfl rfl ?_
      refine x_aload_n (pc' := 1) rfl rfl rfl rfl rfl ?_
      refine x_gI (pc' := 4) (x := 0) rfl rfl rfl (Eq.trans rdIB (Eq.trans rdIA sI_s)) ?_
      refine x_reti rfl rfl ?_
      refine sK_i (pc' := 1528) rfl ?_
      refine x_iload (pc' := 1530) rfl rfl rfl ?_
      refine x_icmp (a' := 1535) (pc' := 1533) (z := true) rfl rfl rfl (by decide) (fun _ => ?_) (fun h => by cases h)
      refine x_iload (pc' := 1537) rfl rfl rfl ?_
      refine x_if (a' := 1552) (pc' := 1540) (z := false) rfl rfl rfl (by decide) (fun h => by cases h) (fun _ => ?_)
      refine x_aload_n (pc' := 1541) rfl rfl rfl rfl rfl ?_
      refine x_iconst (pc' := 1542) rfl rfl ?_
      refine x_lald (pc' := 1543) (N := 1) (x := (1 : Int64)) rfl rfl (Eq.trans rdNB (Eq.trans rdNA (Eq.trans rdNI (Eq.trans rdNL (Eq.trans rdNI (Eq.trans rdNZ (z_N_23_0 e))))))) (io_in (p := 0) (N := 1) (by decide) (by decide)) (Eq.trans (congrArg (sL (sBw (sAw (sIw (sLw (sIw (sZw t 457 1 true) 456 1 (xs 2)) 23 0 0 (1 : Int64)) 768 0 0) 21 9 1 (xs 2)) 22 1 1 true) 23 0) (nn_io (p := 0) (by decide))) (Eq.trans rdLB (Eq.trans rdLA (Eq.trans rdLI sL_s)))) ?_
      refine x_iload (pc' := 1545) rfl rfl rfl ?_
      refine x_i2l (pc' := 1546) (z := (1 : Int64)) rfl rfl (by decide) ?_
      refine x_lcmp (pc' := 1547) (z := 0) rfl rfl (sLcmp_s _) ?_
      refine x_if (a' := 1552) (pc' := 1550) (z := true) rfl rfl rfl (by decide) (fun _ => ?_) (fun h => by cases h)
      refine x_goto (pc' := 2938) rfl rfl ?_
      refine x_iinc (pc' := 2941) (y := 7) (ls' := [_, _, _, _, _, _, _]) rfl rfl rfl rfl rfl ?_
      refine x_goto (pc' := 23) rfl rfl ?_
      refine x_iload (pc' := 25) rfl rfl rfl ?_
      refine x_aload_n (pc' := 26) rfl rfl rfl rfl rfl ?_
      refine x_alen (pc' := 27) (N := 7) rfl rfl rfl (Eq.trans rdNB (Eq.trans rdNA (Eq.trans rdNI (Eq.trans rdNL (Eq.trans rdNI (Eq.trans rdNZ (z_N_29_0 e))))))) (?_ : X _ _ _ (.inl 7 :: _) _ _)
      refine x_bipush (pc' := 29) rfl rfl ?_
      refine x_isub (pc' := 30) (z := 0) rfl rfl (by decide) ?_
      refine x_icmp (a' := 2944) (pc' := 33) (z := true) rfl rfl rfl (by decide) (fun _ => ?_) (fun h => by cases h)
      refine x_iconst (pc' := 2945) rfl rfl ?_
      refine x_retz (z := true) rfl rfl ?_
      exact Qp_ok e (p := 0) (q := 0) rfl rfl rfl rfl
    · refine x_throw rfl rfl ?_
      refine sK_n (by decide +kernel) rfl ?_
      refine sK_h (h := 17) (by decide +kernel) rfl ?_
      refine x_catch (pc' := 19) (ls' := [_, _, _, _, _]) rfl rfl rfl rfl ?_
      refine x_iconst (pc' := 20) rfl rfl ?_
      refine x_reti rfl rfl ?_
      refine sK_i (pc' := 1504) rfl ?_
      refine x_istore (pc' := 1506) (ls' := [_, _, _, _, _, _, _]) rfl rfl rfl rfl ?_
      refine x_aload_n (pc' := 1507) rfl rfl rfl rfl rfl ?_
      refine x_aload_n (pc' := 1508) rfl rfl rfl rfl rfl ?_
      refine x_iload (pc' := 1510) rfl rfl rfl ?_
      refine x_iconst (pc' := 1511) rfl rfl ?_
      refine x_iadd (pc' := 1512) (z := 1) rfl rfl (by decide) ?_
      refine x_iald (pc' := 1513) (N := 7) (x := 1) rfl rfl rfl (Eq.trans rdNthr (z_N_29_0 e)) (io_in (p := 1) (N := 7) (by decide) (by decide)) (Eq.trans (congrArg (sA (sThr t) 29 0) (nn_io (p := 1) (by decide))) (Eq.trans rdAthr (Eq.trans (z_A_29_0_1 e) e0))) ?_
      refine x_aload_n (pc' := 1514) rfl rfl rfl rfl rfl ?_
      refine x_iload (pc' := 1516) rfl rfl rfl ?_
      refine x_iconst (pc' := 1517) rfl rfl ?_
      refine x_iadd (pc' := 1518) (z := 2) rfl rfl (by decide) ?_
      refine x_iald (pc' := 1519) (N := 7) (x := (xs 2)) rfl rfl rfl (Eq.trans rdNthr (z_N_29_0 e)) (io_in (p := 2) (N := 7) (by decide) (by decide)) (Eq.trans (congrArg (sA (sThr t) 29 0) (nn_io (p := 2) (by decide))) (Eq.trans rdAthr (z_A_29_0_2 e))) ?_
      refine x_cv (ls0 := [_, _, _, sJk, sJk, sJk]) (rest := []) rfl rfl rfl rfl rfl ?_
      refine x_iload_n (pc' := 1) rfl rfl rfl ?_
      refine x_cs (ls0 := [_]) (rest := []) rfl rfl rfl rfl ?_
      refine x_iload_n (pc' := 1) rfl rfl rfl ?_
      refine x_iconst (pc' := 2) rfl rfl ?_
      refine x_iconst (pc' := 3) rfl rfl ?_
      refine x_cs (ls0 := [_, _, _]) (rest := []) rfl rfl rfl rfl ?_
      refine x_iload_n (pc' := 1) rfl rfl rfl ?_
      refine x_iload_n (pc' := 2) rfl rfl rfl ?_
      refine x_icmp (a' := 14) (pc' := 5) (z := false) rfl rfl rfl (by decide) (fun h => by cases h) (fun _ => ?_)
      refine x_iload_n (pc' := 6) rfl rfl rfl ?_
      refine x_iload_n (pc' := 7) rfl rfl rfl ?_
      refine x_icmp (a' := 14) (pc' := 10) (z := false) rfl rfl rfl (by decide) (fun h => by cases h) (fun _ => ?_)
      refine x_iconst (pc' := 11) rfl rfl ?_
      refine x_goto (pc' := 15) rfl rfl ?_
      refine x_retz (z := true) rfl rfl ?_
      refine sK_i (pc' := 6) rfl ?_
      refine x_retz (z := true) rfl rfl ?_
      refine sK_i (pc' := 4) rfl ?_
      refine x_istore_n (pc' := 5) (ls' := [_, _, _, _, _, _]) rfl rfl rfl rfl ?_
      refine x_aload_n (pc' := 6) rfl rfl rfl rfl rfl ?_
      refine x_iload_n (pc' := 7) rfl rfl rfl ?_
      refine x_if (a' := 14) (pc' := 10) (z := true) rfl rfl rfl (by decide) (fun _ => ?_) (fun h => by cases h)
      refine x_iload_n (pc' := 15) rfl rfl rfl ?_
      refine x_ldc_w (pc' := 18) rfl rfl ?_
      refine x_ldc_w (pc' := 21) rfl rfl ?_
      refine x_cs (ls0 := [_, _, _]) (rest := [_]) rfl rfl rfl rfl ?_
      refine x_iload_n (pc' := 1) rfl rfl rfl ?_
      refine x_iload_n (pc' := 2) rfl rfl rfl ?_
      refine x_icmp (a' := 14) (pc' := 5) (z := decide ((xs 2) < (-1000000))) rfl rfl rfl rfl (fun h => absurd (of_decide_eq_true h) (of_decide_eq_false q5)) (fun _ => ?_)
      refine x_iload_n (pc' := 6) rfl rfl rfl ?_
      refine x_iload_n (pc' := 7) rfl rfl rfl ?_
      refine x_icmp (a' := 14) (pc' := 10) (z := decide (1000000 < (xs 2))) rfl rfl rfl rfl (fun _ => ?_) (fun h => absurd (of_decide_eq_true q16) (of_decide_eq_false h))
      refine x_iconst (pc' := 15) rfl rfl ?_
      refine x_retz (z := false) rfl rfl ?_
      refine sK_i (pc' := 24) rfl ?_
      refine x_if (a' := 31) (pc' := 27) (z := false) rfl rfl rfl (by decide) (fun h => by cases h) (fun _ => ?_)
      refine x_iconst (pc' := 28) rfl rfl ?_
      refine x_goto (pc' := 45) rfl rfl ?_
      refine x_cv (ls0 := [_, _]) (rest := []) rfl rfl rfl rfl rfl ?_
      refine x_aload_n (pc' := 1) rfl rfl rfl rfl rfl ?_
      refine x_iload_n (pc' := 2) rfl rfl rfl ?_
      refine x_pI (pc' := 5) rfl rfl rfl ?_
      refine x_iload_n (pc' := 6) rfl rfl rfl ?_
      refine x_if (a' := 13) (pc' := 9) (z := true) rfl rfl rfl (by decide) (fun _ => ?_) (fun h => by cases h)
      refine x_iconst (pc' := 14) rfl rfl ?_
      refine x_retz (z := false) rfl rfl ?_
      refine sK_i (pc' := 48) rfl ?_
      refine x_if (a' := 53) (pc' := 51) (z := false) rfl rfl rfl (by decide) (fun h => by cases h) (fun _ => ?_)
      refine x_iconst (pc' := 52) rfl rfl ?_
      refine x_reti rfl rfl ?_
      refine sK_i (pc' := 1522) rfl ?_
      refine x_istore (pc' := 1524) (ls' := [_, _, _, _, _, _, _]) rfl rfl rfl rfl ?_
      refine x_aload_n (pc' := 1525) rfl rfl rfl rfl rfl ?_
      refine x_cv (ls0 := [_]) (rest := []) rfl rfl rfl rfl rfl ?_
      refine x_aload_n (pc' := 1) rfl rfl rfl rfl rfl ?_
      refine x_gI (pc' := 4) (x := 2) rfl rfl rfl sI_s ?_
      refine x_reti rfl rfl ?_
      refine sK_i (pc' := 1528) rfl ?_
      refine x_iload (pc' := 1530) rfl rfl rfl ?_
      refine x_icmp (a' := 1535) (pc' := 1533) (z := true) rfl rfl rfl (by decide) (fun _ => ?_) (fun h => by cases h)
      refine x_iload (pc' := 1537) rfl rfl rfl ?_
      refine x_if (a' := 1552) (pc' := 1540) (z := true) rfl rfl rfl (by decide) (fun _ => ?_) (fun h => by cases h)
      refine x_goto (pc' := 2938) rfl rfl ?_
      refine x_iinc (pc' := 2941) (y := 7) (ls' := [_, _, _, _, _, _, _]) rfl rfl rfl rfl rfl ?_
      refine x_goto (pc' := 23) rfl rfl ?_
      refine x_iload (pc' := 25) rfl rfl rfl ?_
      refine x_aload_n (pc' := 26) rfl rfl rfl rfl rfl ?_
      refine x_alen (pc' := 27) (N := 7) rfl rfl rfl (Eq.trans rdNI (Eq.trans rdNthr (z_N_29_0 e))) (?_ : X _ _ _ (.inl 7 :: _) _ _)
      refine x_bipush (pc' := 29) rfl rfl ?_
      refine x_isub (pc' := 30) (z := 0) rfl rfl (by decide) ?_
      refine x_icmp (a' := 2944) (pc' := 33) (z := true) rfl rfl rfl (by decide) (fun _ => ?_) (fun h => by cases h)
      refine x_iconst (pc' := 2945) rfl rfl ?_
      refine x_retz (z := true) rfl rfl ?_
      exact Qp_ok e (p := 1) (q := 6) rfl rfl rfl rfl
set_option maxHeartbeats 4000000 in
set_option maxRecDepth 10000 in
theorem v_16_2_i {t : sT} {xs : Nat → Int32}
    (e : t = T16 7 xs)
    (hk : ((xs 0) &&& 63) = 16)
    (e0 : xs 1 = 2) :
    X 297 23 [.inr (.inr (29, (some 0))), .inr (.inr (11, (some 0))), .inr (.inr (12, (some 0))), .inr (.inr (23, (some 0))), .inl 0, sJk, sJk] [] t Qp := by
  refine x_iload (pc' := 25) rfl rfl rfl ?_
  refine x_aload_n (pc' := 26) rfl rfl rfl rfl rfl ?_
  refine x_alen (pc' := 27) (N := 7) rfl rfl rfl (z_N_29_0 e) (?_ : X _ _ _ (.inl 7 :: _) _ _)
  refine x_bipush (pc' := 29) rfl rfl ?_
  refine x_isub (pc' := 30) (z := 0) rfl rfl (by decide) ?_
  refine x_icmp (a' := 2944) (pc' := 33) (z := false) rfl rfl rfl (by decide) (fun h => by cases h) (fun _ => ?_)
  refine x_aload_n (pc' := 34) rfl rfl rfl rfl rfl ?_
  refine x_iload (pc' := 36) rfl rfl rfl ?_
  refine x_iald (pc' := 37) (N := 7) (x := (xs 0)) rfl rfl rfl (z_N_29_0 e) (io_in (p := 0) (N := 7) (by decide) (by decide)) (Eq.trans (congrArg (sA t 29 0) (nn_io (p := 0) (by decide))) (z_A_29_0_0 e)) ?_
  refine x_bipush (pc' := 39) rfl rfl ?_
  refine x_iand (pc' := 40) (z := ((xs 0) &&& 63)) rfl rfl rfl ?_
  refine x_switch (pc' := 1487) rfl (by rw [hk]; decide) ?_
  refine x_aload_n (pc' := 1488) rfl rfl rfl rfl rfl ?_
  refine x_aload_n (pc' := 1489) rfl rfl rfl rfl rfl ?_
  refine x_iload (pc' := 1491) rfl rfl rfl ?_
  refine x_iconst (pc' := 1492) rfl rfl ?_
  refine x_iadd (pc' := 1493) (z := 1) rfl rfl (by decide) ?_
  refine x_iald (pc' := 1494) (N := 7) (x := 2) rfl rfl rfl (z_N_29_0 e) (io_in (p := 1) (N := 7) (by decide) (by decide)) (Eq.trans (congrArg (sA t 29 0) (nn_io (p := 1) (by decide))) (Eq.trans (z_A_29_0_1 e) e0)) ?_
  refine x_aload_n (pc' := 1495) rfl rfl rfl rfl rfl ?_
  refine x_iload (pc' := 1497) rfl rfl rfl ?_
  refine x_iconst (pc' := 1498) rfl rfl ?_
  refine x_iadd (pc' := 1499) (z := 2) rfl rfl (by decide) ?_
  refine x_iald (pc' := 1500) (N := 7) (x := (xs 2)) rfl rfl rfl (z_N_29_0 e) (io_in (p := 2) (N := 7) (by decide) (by decide)) (Eq.trans (congrArg (sA t 29 0) (nn_io (p := 2) (by decide))) (z_A_29_0_2 e)) ?_
  refine x_aload_n (pc' := 1501) rfl rfl rfl rfl rfl ?_
  refine x_cs (ls0 := [_, _, _, _, sJk]) (rest := []) rfl rfl rfl rfl ?_
  refine x_aload_n (pc' := 1) rfl rfl rfl rfl rfl ?_
  refine x_iconst (pc' := 2) rfl rfl ?_
  refine x_aload_n (pc' := 3) rfl rfl rfl rfl rfl ?_
  refine x_iload_n (pc' := 4) rfl rfl rfl ?_
  refine x_iload_n (pc' := 5) rfl rfl rfl ?_
  refine x_cv (ls0 := [_, _, _, sJk]) (rest := [_, _]) rfl rfl rfl rfl rfl ?_
  refine x_aload_n (pc' := 1) rfl rfl rfl rfl rfl ?_
  refine x_iload_n (pc' := 2) rfl rfl rfl ?_
  refine x_cv (ls0 := [_, _]) (rest := []) rfl rfl rfl rfl rfl ?_
  refine x_iload_n (pc' := 1) rfl rfl rfl ?_
  refine x_if (a' := 16) (pc' := 4) (z := false) rfl rfl rfl (by decide) (fun h => by cases h) (fun _ => ?_)
  refine x_iload_n (pc' := 5) rfl rfl rfl ?_
  refine x_aload_n (pc' := 6) rfl rfl rfl rfl rfl ?_
  refine x_gR (pc' := 9) (r := (some 0)) rfl rfl rfl (z_R_704_0 e) ?_
  refine x_gR (pc' := 12) (r := (some 0)) rfl rfl rfl (z_R_321_0 e) ?_
  refine x_alen (pc' := 13) (N := 6) rfl rfl rfl (z_N_26_0 e) (?_ : X _ _ _ (.inl 6 :: _) _ _)
  refine x_icmp (a' := 27) (pc' := 16) (z := true) rfl rfl rfl (by decide) (fun _ => ?_) (fun h => by cases h)
  refine x_aload_n (pc' := 28) rfl rfl rfl rfl rfl ?_
  refine x_gR (pc' := 31) (r := (some 0)) rfl rfl rfl (z_R_704_0 e) ?_
  refine x_gR (pc' := 34) (r := (some 0)) rfl rfl rfl (z_R_321_0 e) ?_
  refine x_iload_n (pc' := 35) rfl rfl rfl ?_
  refine x_aald (pc' := 36) (N := 6) (k' := 7) (r := (some 2)) rfl rfl rfl (z_N_26_0 e) (io_in (p := 2) (N := 6) (by decide) (by decide)) (Eq.trans (congrArg (sE t 26 0) (nn_io (p := 2) (by decide))) (z_E_26_0_2 e)) ?_
  refine x_reta rfl rfl ?_
  refine sK_i (pc' := 5) rfl ?_
  refine x_astore_n (pc' := 6) (ls' := [_, _, _, _]) rfl rfl rfl rfl rfl ?_
  refine x_iload_n (pc' := 7) rfl rfl rfl ?_
  refine x_ldc (pc' := 9) rfl rfl ?_
  refine x_ldc (pc' := 11) rfl rfl ?_
  refine x_cs (ls0 := [_, _, _]) (rest := []) rfl rfl rfl rfl ?_
  refine x_iload_n (pc' := 1) rfl rfl rfl ?_
  refine x_iload_n (pc' := 2) rfl rfl rfl ?_
  refine x_icmp (a' := 10) (pc' := 5) (z := decide ((xs 2) < (-1000000))) rfl rfl rfl rfl (fun q5 => ?_) (fun q5 => ?_)
  · refine x_throw rfl rfl ?_
    refine sK_n (by decide +kernel) rfl ?_
    refine sK_h (h := 17) (by decide +kernel) rfl ?_
    refine x_catch (pc' := 19) (ls' := [_, _, _, _, _]) rfl rfl rfl rfl ?_
    refine x_iconst (pc' := 20) rfl rfl ?_
    refine x_reti rfl rfl ?_
    refine sK_i (pc' := 1504) rfl ?_
    refine x_istore (pc' := 1506) (ls' := [_, _, _, _, _, _, _]) rfl rfl rfl rfl ?_
    refine x_aload_n (pc' := 1507) rfl rfl rfl rfl rfl ?_
    refine x_aload_n (pc' := 1508) rfl rfl rfl rfl rfl ?_
    refine x_iload (pc' := 1510) rfl rfl rfl ?_
    refine x_iconst (pc' := 1511) rfl rfl ?_
    refine x_iadd (pc' := 1512) (z := 1) rfl rfl (by decide) ?_
    refine x_iald (pc' := 1513) (N := 7) (x := 2) rfl rfl rfl (Eq.trans rdNthr (z_N_29_0 e)) (io_in (p := 1) (N := 7) (by decide) (by decide)) (Eq.trans (congrArg (sA (sThr t) 29 0) (nn_io (p := 1) (by decide))) (Eq.trans rdAthr (Eq.trans (z_A_29_0_1 e) e0))) ?_
    refine x_aload_n (pc' := 1514) rfl rfl rfl rfl rfl ?_
    refine x_iload (pc' := 1516) rfl rfl rfl ?_
    refine x_iconst (pc' := 1517) rfl rfl ?_
    refine x_iadd (pc' := 1518) (z := 2) rfl rfl (by decide) ?_
    refine x_iald (pc' := 1519) (N := 7) (x := (xs 2)) rfl rfl rfl (Eq.trans rdNthr (z_N_29_0 e)) (io_in (p := 2) (N := 7) (by decide) (by decide)) (Eq.trans (congrArg (sA (sThr t) 29 0) (nn_io (p := 2) (by decide))) (Eq.trans rdAthr (z_A_29_0_2 e))) ?_
    refine x_cv (ls0 := [_, _, _, sJk, sJk, sJk]) (rest := []) rfl rfl rfl rfl rfl ?_
    refine x_iload_n (pc' := 1) rfl rfl rfl ?_
    refine x_cs (ls0 := [_]) (rest := []) rfl rfl rfl rfl ?_
    refine x_iload_n (pc' := 1) rfl rfl rfl ?_
    refine x_iconst (pc' := 2) rfl rfl ?_
    refine x_iconst (pc' := 3) rfl rfl ?_
    refine x_cs (ls0 := [_, _, _]) (rest := []) rfl rfl rfl rfl ?_
    refine x_iload_n (pc' := 1) rfl rfl rfl ?_
    refine x_iload_n (pc' := 2) rfl rfl rfl ?_
    refine x_icmp (a' := 14) (pc' := 5) (z := false) rfl rfl rfl (by decide) (fun h => by cases h) (fun _ => ?_)
    refine x_iload_n (pc' := 6) rfl rfl rfl ?_
    refine x_iload_n (pc' := 7) rfl rfl rfl ?_
    refine x_icmp (a' := 14) (pc' := 10) (z := false) rfl rfl rfl (by decide) (fun h => by cases h) (fun _ => ?_)
    refine x_iconst (pc' := 11) rfl rfl ?_
    refine x_goto (pc' := 15) rfl rfl ?_
    refine x_retz (z := true) rfl rfl ?_
    refine sK_i (pc' := 6) rfl ?_
    refine x_retz (z := true) rfl rfl ?_
    refine sK_i (pc' := 4) rfl ?_
    refine x_istore_n (pc' := 5) (ls' := [_, _, _, _, _, _]) rfl rfl rfl rfl ?_
    refine x_aload_n (pc' := 6) rfl rfl rfl rfl rfl ?_
    refine x_iload_n (pc' := 7) rfl rfl rfl ?_
    refine x_if (a' := 14) (pc' := 10) (z := true) rfl rfl rfl (by decide) (fun _ => ?_) (fun h => by cases h)
    refine x_iload_n (pc' := 15) rfl rfl rfl ?_
    refine x_ldc_w (pc' := 18) rfl rfl ?_
    refine x_ldc_w (pc' := 21) rfl rfl ?_
    refine x_cs (ls0 := [_, _, _]) (rest := [_]) rfl rfl rfl rfl ?_
    refine x_iload_n (pc' := 1) rfl rfl rfl ?_
    refine x_iload_n (pc' := 2) rfl rfl rfl ?_
    refine x_icmp (a' := 14) (pc' := 5) (z := decide ((xs 2) < (-1000000))) rfl rfl rfl rfl (fun _ => ?_) (fun h => absurd (of_decide_eq_true q5) (of_decide_eq_false h))
    refine x_iconst (pc' := 15) rfl rfl ?_
    refine x_retz (z := false) rfl rfl ?_
    refine sK_i (pc' := 24) rfl ?_
    refine x_if (a' := 31) (pc' := 27) (z := false) rfl rfl rfl (by decide) (fun h => by cases h) (fun _ => ?_)
    refine x_iconst (pc' := 28) rfl rfl ?_
    refine x_goto (pc' := 45) rfl rfl ?_
    refine x_cv (ls0 := [_, _]) (rest := []) rfl rfl rfl rfl rfl ?_
    refine x_aload_n (pc' := 1) rfl rfl rfl rfl rfl ?_
    refine x_iload_n (pc' := 2) rfl rfl rfl ?_
    refine x_pI (pc' := 5) rfl rfl rfl ?_
    refine x_iload_n (pc' := 6) rfl rfl rfl ?_
    refine x_if (a' := 13) (pc' := 9) (z := true) rfl rfl rfl (by decide) (fun _ => ?_) (fun h => by cases h)
    refine x_iconst (pc' := 14) rfl rfl ?_
    refine x_retz (z := false) rfl rfl ?_
    refine sK_i (pc' := 48) rfl ?_
    refine x_if (a' := 53) (pc' := 51) (z := false) rfl rfl rfl (by decide) (fun h => by cases h) (fun _ => ?_)
    refine x_iconst (pc' := 52) rfl rfl ?_
    refine x_reti rfl rfl ?_
    refine sK_i (pc' := 1522) rfl ?_
    refine x_istore (pc' := 1524) (ls' := [_, _, _, _, _, _, _]) rfl rfl rfl rfl ?_
    refine x_aload_n (pc' := 1525) rfl rfl rfl rfl rfl ?_
    refine x_cv (ls0 := [_]) (rest := []) rfl rfl rfl rfl rfl ?_
    refine x_aload_n (pc' := 1) rfl rfl rfl rfl rfl ?_
    refine x_gI (pc' := 4) (x := 2) rfl rfl rfl sI_s ?_
    refine x_reti rfl rfl ?_
    refine sK_i (pc' := 1528) rfl ?_
    refine x_iload (pc' := 1530) rfl rfl rfl ?_
    refine x_icmp (a' := 1535) (pc' := 1533) (z := true) rfl rfl rfl (by decide) (fun _ => ?_) (fun h => by cases h)
    refine x_iload (pc' := 1537) rfl rfl rfl ?_
    refine x_if (a' := 1552) (pc' := 1540) (z := true) rfl rfl rfl (by decide) (fun _ => ?_) (fun h => by cases h)
    refine x_goto (pc' := 2938) rfl rfl ?_
    refine x_iinc (pc' := 2941) (y := 7) (ls' := [_, _, _, _, _, _, _]) rfl rfl rfl rfl rfl ?_
    refine x_goto (pc' := 23) rfl rfl ?_
    refine x_iload (pc' := 25) rfl rfl rfl ?_
    refine x_aload_n (pc' := 26) rfl rfl rfl rfl rfl ?_
    refine x_alen (pc' := 27) (N := 7) rfl rfl rfl (Eq.trans rdNI (Eq.trans rdNthr (z_N_29_0 e))) (?_ : X _ _ _ (.inl 7 :: _) _ _)
    refine x_bipush (pc' := 29) rfl rfl ?_
    refine x_isub (pc' := 30) (z := 0) rfl rfl (by decide) ?_
    refine x_icmp (a' := 2944) (pc' := 33) (z := true) rfl rfl rfl (by decide) (fun _ => ?_) (fun h => by cases h)
    refine x_iconst (pc' := 2945) rfl rfl ?_
    refine x_retz (z := true) rfl rfl ?_
    exact Qp_ok e (p := 1) (q := 6) rfl rfl rfl rfl
  · refine x_iload_n (pc' := 6) rfl rfl rfl ?_
    refine x_iload_n (pc' := 7) rfl rfl rfl ?_
    refine x_icmp_n (a' := 21) (pc' := 10) (z := decide (1000000 < (xs 2))) rfl rfl rfl (ik_le _ _) (fun q16 => ?_) (fun q16 => ?_)
    · refine x_ret rfl ?_
      refine sK_v (pc' := 14) rfl ?_
      refine x_aload_n (pc' := 15) rfl rfl rfl rfl rfl ?_
      refine x_gZ (pc' := 18) (z := false) rfl rfl rfl (z_Z_458_2 e) ?_
      refine x_if (a' := 25) (pc' := 21) (z := false) rfl rfl rfl (by decide) (fun h => by cases h) (fun _ => ?_)
      refine x_iconst (pc' := 22) rfl rfl ?_
      refine x_goto (pc' := 26) rfl rfl ?_
      refine x_cs (ls0 := [_]) (rest := []) rfl rfl rfl rfl ?_
      refine x_iload_n (pc' := 1) rfl rfl rfl ?_
      refine x_if (a' := 15) (pc' := 4) (z := true) rfl rfl rfl (by decide) (fun _ => ?_) (fun h => by cases h)
      refine x_ret rfl ?_
      refine sK_v (pc' := 29) rfl ?_
      refine x_aload_n (pc' := 30) rfl rfl rfl rfl rfl ?_
      refine x_iconst (pc' := 31) rfl rfl ?_
      refine x_pZ (pc' := 34) (z := true) rfl rfl rfl rfl ?_
      refine x_aload_n (pc' := 35) rfl rfl rfl rfl rfl ?_
      refine x_iload_n (pc' := 36) rfl rfl rfl ?_
      refine x_pI (pc' := 39) rfl rfl rfl ?_
      refine x_aload_n (pc' := 40) rfl rfl rfl rfl rfl ?_
      refine x_gR (pc' := 43) (r := (some 0)) rfl rfl rfl (Eq.trans rdRI (Eq.trans rdRZ (z_R_704_0 e))) ?_
      refine x_cv (ls0 := [_, sJk, sJk, sJk, sJk, sJk]) (rest := []) rfl rfl rfl rfl rfl ?_
      refine x_iconst (pc' := 1) rfl rfl ?_
      refine x_istore_n (pc' := 2) (ls' := [_, _, _, _, _, _]) rfl rfl rfl rfl ?_
      refine x_aload_n (pc' := 3) rfl rfl rfl rfl rfl ?_
      refine x_gR (pc' := 6) (r := (some 0)) rfl rfl rfl (Eq.trans rdRI (Eq.trans rdRZ (z_R_321_0 e))) ?_
      refine x_astore_n (pc' := 7) (ls' := [_, _, _, _, _, _]) rfl rfl rfl rfl rfl ?_
      refine x_aload_n (pc' := 8) rfl rfl rfl rfl rfl ?_
      refine x_alen (pc' := 9) (N := 6) rfl rfl rfl (Eq.trans rdNI (Eq.trans rdNZ (z_N_26_0 e))) (?_ : X _ _ _ (.inl 6 :: _) _ _)
      refine x_istore_n (pc' := 10) (ls' := [_, _, _, _, _, _]) rfl rfl rfl rfl ?_
      refine x_iconst (pc' := 11) rfl rfl ?_
      refine x_istore (pc' := 13) (ls' := [_, _, _, _, _, _]) rfl rfl rfl rfl ?_
      refine x_iload (pc' := 15) rfl rfl rfl ?_
      refine x_iload_n (pc' := 16) rfl rfl rfl ?_
      refine x_icmp (a' := 47) (pc' := 19) (z := false) rfl rfl rfl (by decide) (fun h => by cases h) (fun _ => ?_)
      refine x_aload_n (pc' := 20) rfl rfl rfl rfl rfl ?_
      refine x_iload (pc' := 22) rfl rfl rfl ?_
      refine x_aald (pc' := 23) (N := 6) (k' := 7) (r := (some 0)) rfl rfl rfl (Eq.trans rdNI (Eq.trans rdNZ (z_N_26_0 e))) (io_in (p := 0) (N := 6) (by decide) (by decide)) (Eq.trans (congrArg (sE (sIw (sZw t 457 2 true) 456 2 (xs 2)) 26 0) (nn_io (p := 0) (by decide))) (Eq.trans rdEI (Eq.trans rdEZ (z_E_26_0_0 e)))) ?_
      refine x_astore (pc' := 25) (ls' := [_, _, _, _, _, _]) rfl rfl rfl rfl rfl ?_
      refine x_iload_n (pc' := 26) rfl rfl rfl ?_
      refine x_aload (pc' := 28) rfl rfl rfl rfl rfl ?_
      refine x_gZ (pc' := 31) (z := false) rfl rfl rfl (Eq.trans rdZI (Eq.trans (rdZ_o rfl) (z_Z_457_0 e))) ?_
      refine x_if (a' := 38) (pc' := 34) (z := true) rfl rfl rfl (by decide) (fun _ => ?_) (fun h => by cases h)
      refine x_iconst (pc' := 39) rfl rfl ?_
      refine x_iadd (pc' := 40) (z := 0) rfl rfl (by decide) ?_
      refine x_istore_n (pc' := 41) (ls' := [_, _, _, _, _, _]) rfl rfl rfl rfl ?_
      refine x_iinc (pc' := 44) (y := 1) (ls' := [_, _, _, _, _, _]) rfl rfl rfl rfl rfl ?_
      refine x_goto (pc' := 13) rfl rfl ?_
      refine x_iload (pc' := 15) rfl rfl rfl ?_
      refine x_iload_n (pc' := 16) rfl rfl rfl ?_
      refine x_icmp (a' := 47) (pc' := 19) (z := false) rfl rfl rfl (by decide) (fun h => by cases h) (fun _ => ?_)
      refine x_aload_n (pc' := 20) rfl rfl rfl rfl rfl ?_
      refine x_iload (pc' := 22) rfl rfl rfl ?_
      refine x_aald (pc' := 23) (N := 6) (k' := 7) (r := (some 1)) rfl rfl rfl (Eq.trans rdNI (Eq.trans rdNZ (z_N_26_0 e))) (io_in (p := 1) (N := 6) (by decide) (by decide)) (Eq.trans (congrArg (sE (sIw (sZw t 457 2 true) 456 2 (xs 2)) 26 0) (nn_io (p := 1) (by decide))) (Eq.trans rdEI (Eq.trans rdEZ (z_E_26_0_1 e)))) ?_
      refine x_astore (pc' := 25) (ls' := [_, _, _, _, _, _]) rfl rfl rfl rfl rfl ?_
      refine x_iload_n (pc' := 26) rfl rfl rfl ?_
      refine x_aload (pc' := 28) rfl rfl rfl rfl rfl ?_
      refine x_gZ (pc' := 31) (z := false) rfl rfl rfl (Eq.trans rdZI (Eq.trans (rdZ_o rfl) (z_Z_457_1 e))) ?_
      refine x_if (a' := 38) (pc' := 34) (z := true) rfl rfl rfl (by decide) (fun _ => ?_) (fun h => by cases h)
      refine x_iconst (pc' := 39) rfl rfl ?_
      refine x_iadd (pc' := 40) (z := 0) rfl rfl (by decide) ?_
      refine x_istore_n (pc' := 41) (ls' := [_, _, _, _, _, _]) rfl rfl rfl rfl ?_
      refine x_iinc (pc' := 44) (y := 2) (ls' := [_, _, _, _, _, _]) rfl rfl rfl rfl rfl ?_
      refine x_goto (pc' := 13) rfl rfl ?_
      refine x_iload (pc' := 15) rfl rfl rfl ?_
      refine x_iload_n (pc' := 16) rfl rfl rfl ?_
      refine x_icmp (a' := 47) (pc' := 19) (z := false) rfl rfl rfl (by decide) (fun h => by cases h) (fun _ => ?_)
      refine x_aload_n (pc' := 20) rfl rfl rfl rfl rfl ?_
      refine x_iload (pc' := 22) rfl rfl rfl ?_
      refine x_aald (pc' := 23) (N := 6) (k' := 7) (r := (some 2)) rfl rfl rfl (Eq.trans rdNI (Eq.trans rdNZ (z_N_26_0 e))) (io_in (p := 2) (N := 6) (by decide) (by decide)) (Eq.trans (congrArg (sE (sIw (sZw t 457 2 true) 456 2 (xs 2)) 26 0) (nn_io (p := 2) (by decide))) (Eq.trans rdEI (Eq.trans rdEZ (z_E_26_0_2 e)))) ?_
      refine x_astore (pc' := 25) (ls' := [_, _, _, _, _, _]) rfl rfl rfl rfl rfl ?_
      refine x_iload_n (pc' := 26) rfl rfl rfl ?_
      refine x_aload (pc' := 28) rfl rfl rfl rfl rfl ?_
      refine x_gZ (pc' := 31) (z := true) rfl rfl rfl (Eq.trans rdZI sZ_s) ?_
      refine x_if (a' := 38) (pc' := 34) (z := false) rfl rfl rfl (by decide) (fun h => by cases h) (fun _ => ?_)
      refine x_iconst (pc' := 35) rfl rfl ?_
      refine x_goto (pc' := 39) rfl rfl ?_
      refine x_iadd (pc' := 40) (z := 1) rfl rfl (by decide) ?_
      refine x_istore_n (pc' := 41) (ls' := [_, _, _, _, _, _]) rfl rfl rfl rfl ?_
      refine x_iinc (pc' := 44) (y := 3) (ls' := [_, _, _, _, _, _]) rfl rfl rfl rfl rfl ?_
      refine x_goto (pc' := 13) rfl rfl ?_
      refine x_iload (pc' := 15) rfl rfl rfl ?_
      refine x_iload_n (pc' := 16) rfl rfl rfl ?_
      refine x_icmp (a' := 47) (pc' := 19) (z := false) rfl rfl rfl (by decide) (fun h => by cases h) (fun _ => ?_)
      refine x_aload_n (pc' := 20) rfl rfl rfl rfl rfl ?_
      refine x_iload (pc' := 22) rfl rfl rfl ?_
      refine x_aald (pc' := 23) (N := 6) (k' := 7) (r := (some 3)) rfl rfl rfl (Eq.trans rdNI (Eq.trans rdNZ (z_N_26_0 e))) (io_in (p := 3) (N := 6) (by decide) (by decide)) (Eq.trans (congrArg (sE (sIw (sZw t 457 2 true) 456 2 (xs 2)) 26 0) (nn_io (p := 3) (by decide))) (Eq.trans rdEI (Eq.trans rdEZ (z_E_26_0_3 e)))) ?_
      refine x_astore (pc' := 25) (ls' := [_, _, _, _, _, _]) rfl rfl rfl rfl rfl ?_
      refine x_iload_n (pc' := 26) rfl rfl rfl ?_
      refine x_aload (pc' := 28) rfl rfl rfl rfl rfl ?_
      refine x_gZ (pc' := 31) (z := false) rfl rfl rfl (Eq.trans rdZI (Eq.trans (rdZ_o rfl) (z_Z_457_3 e))) ?_
      refine x_if (a' := 38) (pc' := 34) (z := true) rfl rfl rfl (by decide) (fun _ => ?_) (fun h => by cases h)
      refine x_iconst (pc' := 39) rfl rfl ?_
      refine x_iadd (pc' := 40) (z := 1) rfl rfl (by decide) ?_
      refine x_istore_n (pc' := 41) (ls' := [_, _, _, _, _, _]) rfl rfl rfl rfl ?_
      refine x_iinc (pc' := 44) (y := 4) (ls' := [_, _, _, _, _, _]) rfl rfl rfl rfl rfl ?_
      refine x_goto (pc' := 13) rfl rfl ?_
      refine x_iload (pc' := 15) rfl rfl rfl ?_
      refine x_iload_n (pc' := 16) rfl rfl rfl ?_
      refine x_icmp (a' := 47) (pc' := 19) (z := false) rfl rfl rfl (by decide) (fun h => by cases h) (fun _ => ?_)
      refine x_aload_n (pc' := 20) rfl rfl rfl rfl rfl ?_
      refine x_iload (pc' := 22) rfl rfl rfl ?_
      refine x_aald (pc' := 23) (N := 6) (k' := 7) (r := (some 4)) rfl rfl rfl (Eq.trans rdNI (Eq.trans rdNZ (z_N_26_0 e))) (io_in (p := 4) (N := 6) (by decide) (by decide)) (Eq.trans (congrArg (sE (sIw (sZw t 457 2 true) 456 2 (xs 2)) 26 0) (nn_io (p := 4) (by decide))) (Eq.trans rdEI (Eq.trans rdEZ (z_E_26_0_4 e)))) ?_
      refine x_astore (pc' := 25) (ls' := [_, _, _, _, _, _]) rfl rfl rfl rfl rfl ?_
      refine x_iload_n (pc' := 26) rfl rfl rfl ?_
      refine x_aload (pc' := 28) rfl rfl rfl rfl rfl ?_
      refine x_gZ (pc' := 31) (z := false) rfl rfl rfl (Eq.trans rdZI (Eq.trans (rdZ_o rfl) (z_Z_457_4 e))) ?_
      refine x_if (a' := 38) (pc' := 34) (z := true) rfl rfl rfl (by decide) (fun _ => ?_) (fun h => by cases h)
      refine x_iconst (pc' := 39) rfl rfl ?_
      refine x_iadd (pc' := 40) (z := 1) rfl rfl (by decide) ?_
      refine x_istore_n (pc' := 41) (ls' := [_, _, _, _, _, _]) rfl rfl rfl rfl ?_
      refine x_iinc (pc' := 44) (y := 5) (ls' := [_, _, _, _, _, _]) rfl rfl rfl rfl rfl ?_
      refine x_goto (pc' := 13) rfl rfl ?_
      refine x_iload (pc' := 15) rfl rfl rfl ?_
      refine x_iload_n (pc' := 16) rfl rfl rfl ?_
      refine x_icmp (a' := 47) (pc' := 19) (z := false) rfl rfl rfl (by decide) (fun h => by cases h) (fun _ => ?_)
      refine x_aload_n (pc' := 20) rfl rfl rfl rfl rfl ?_
      refine x_iload (pc' := 22) rfl rfl rfl ?_
      refine x_aald (pc' := 23) (N := 6) (k' := 7) (r := (some 5)) rfl rfl rfl (Eq.trans rdNI (Eq.trans rdNZ (z_N_26_0 e))) (io_in (p := 5) (N := 6) (by decide) (by decide)) (Eq.trans (congrArg (sE (sIw (sZw t 457 2 true) 456 2 (xs 2)) 26 0) (nn_io (p := 5) (by decide))) (Eq.trans rdEI (Eq.trans rdEZ (z_E_26_0_5 e)))) ?_
      refine x_astore (pc' := 25) (ls' := [_, _, _, _, _, _]) rfl rfl rfl rfl rfl ?_
      refine x_iload_n (pc' := 26) rfl rfl rfl ?_
      refine x_aload (pc' := 28) rfl rfl rfl rfl rfl ?_
      refine x_gZ (pc' := 31) (z := false) rfl rfl rfl (Eq.trans rdZI (Eq.trans (rdZ_o rfl) (z_Z_457_5 e))) ?_
      refine x_if (a' := 38) (pc' := 34) (z := true) rfl rfl rfl (by decide) (fun _ => ?_) (fun h => by cases h)
      refine x_iconst (pc' := 39) rfl rfl ?_
      refine x_iadd (pc' := 40) (z := 1) rfl rfl (by decide) ?_
      refine x_istore_n (pc' := 41) (ls' := [_, _, _, _, _, _]) rfl rfl rfl rfl ?_
      refine x_iinc (pc' := 44) (y := 6) (ls' := [_, _, _, _, _, _]) rfl rfl rfl rfl rfl ?_
      refine x_goto (pc' := 13) rfl rfl ?_
      refine x_iload (pc' := 15) rfl rfl rfl ?_
      refine x_iload_n (pc' := 16) rfl rfl rfl ?_
      refine x_icmp (a' := 47) (pc' := 19) (z := true) rfl rfl rfl (by decide) (fun _ => ?_) (fun h => by cases h)
      refine x_iload_n (pc' := 48) rfl rfl rfl ?_
      refine x_reti rfl rfl ?_
      refine sK_i (pc' := 46) rfl ?_
      refine x_reti rfl rfl ?_
      refine sK_i (pc' := 8) rfl ?_
      refine x_i2l (pc' := 9) (z := (1 : Int64)) rfl rfl (by decide) ?_
      refine x_last (pc' := 10) (N := 1) (p := 0) rfl rfl (Eq.trans rdNI (Eq.trans rdNZ (z_N_23_0 e))) (io_in (p := 0) (N := 1) (by decide) (by decide)) (nn_io (p := 0) (by decide)) ?_
      refine x_goto (pc' := 25) rfl rfl ?_
      refine x_iconst (pc' := 26) rfl rfl ?_
      refine x_reti rfl rfl ?_
      refine sK_i (pc' := 1504) rfl ?_
      refine x_istore (pc' := 1506) (ls' := [_, _, _, _, _, _, _]) rfl rfl rfl rfl ?_
      refine x_aload_n (pc' := 1507) rfl rfl rfl rfl rfl ?_
      refine x_aload_n (pc' := 1508) rfl rfl rfl rfl rfl ?_
      refine x_iload (pc' := 1510) rfl rfl rfl ?_
      refine x_iconst (pc' := 1511) rfl rfl ?_
      refine x_iadd (pc' := 1512) (z := 1) rfl rfl (by decide) ?_
      refine x_iald (pc' := 1513) (N := 7) (x := 2) rfl rfl rfl (Eq.trans rdNL (Eq.trans rdNI (Eq.trans rdNZ (z_N_29_0 e)))) (io_in (p := 1) (N := 7) (by decide) (by decide)) (Eq.trans (congrArg (sA (sLw (sIw (sZw t 457 2 true) 456 2 (xs 2)) 23 0 0 (1 : Int64)) 29 0) (nn_io (p := 1) (by decide))) (Eq.trans rdAL (Eq.trans rdAI (Eq.trans rdAZ (Eq.trans (z_A_29_0_1 e) e0))))) ?_
      refine x_aload_n (pc' := 1514) rfl rfl rfl rfl rfl ?_
      refine x_iload (pc' := 1516) rfl rfl rfl ?_
      refine x_iconst (pc' := 1517) rfl rfl ?_
      refine x_iadd (pc' := 1518) (z := 2) rfl rfl (by decide) ?_
      refine x_iald (pc' := 1519) (N := 7) (x := (xs 2)) rfl rfl rfl (Eq.trans rdNL (Eq.trans rdNI (Eq.trans rdNZ (z_N_29_0 e)))) (io_in (p := 2) (N := 7) (by decide) (by decide)) (Eq.trans (congrArg (sA (sLw (sIw (sZw t 457 2 true) 456 2 (xs 2)) 23 0 0 (1 : Int64)) 29 0) (nn_io (p := 2) (by decide))) (Eq.trans rdAL (Eq.trans rdAI (Eq.trans rdAZ (z_A_29_0_2 e))))) ?_
      refine x_cv (ls0 := [_, _, _, sJk, sJk, sJk]) (rest := []) rfl rfl rfl rfl rfl ?_
      refine x_iload_n (pc' := 1) rfl rfl rfl ?_
      refine x_cs (ls0 := [_]) (rest := []) rfl rfl rfl rfl ?_
      refine x_iload_n (pc' := 1) rfl rfl rfl ?_
      refine x_iconst (pc' := 2) rfl rfl ?_
      refine x_iconst (pc' := 3) rfl rfl ?_
      refine x_cs (ls0 := [_, _, _]) (rest := []) rfl rfl rfl rfl ?_
      refine x_iload_n (pc' := 1) rfl rfl rfl ?_
      refine x_iload_n (pc' := 2) rfl rfl rfl ?_
      refine x_icmp (a' := 14) (pc' := 5) (z := false) rfl rfl rfl (by decide) (fun h => by cases h) (fun _ => ?_)
      refine x_iload_n (pc' := 6) rfl rfl rfl ?_
      refine x_iload_n (pc' := 7) rfl rfl rfl ?_
      refine x_icmp (a' := 14) (pc' := 10) (z := false) rfl rfl rfl (by decide) (fun h => by cases h) (fun _ => ?_)
      refine x_iconst (pc' := 11) rfl rfl ?_
      refine x_goto (pc' := 15) rfl rfl ?_
      refine x_retz (z := true) rfl rfl ?_
      refine sK_i (pc' := 6) rfl ?_
      refine x_retz (z := true) rfl rfl ?_
      refine sK_i (pc' := 4) rfl ?_
      refine x_istore_n (pc' := 5) (ls' := [_, _, _, _, _, _]) rfl rfl rfl rfl ?_
      refine x_aload_n (pc' := 6) rfl rfl rfl rfl rfl ?_
      refine x_iload_n (pc' := 7) rfl rfl rfl ?_
      refine x_if (a' := 14) (pc' := 10) (z := true) rfl rfl rfl (by decide) (fun _ => ?_) (fun h => by cases h)
      refine x_iload_n (pc' := 15) rfl rfl rfl ?_
      refine x_ldc_w (pc' := 18) rfl rfl ?_
      refine x_ldc_w (pc' := 21) rfl rfl ?_
      refine x_cs (ls0 := [_, _, _]) (rest := [_]) rfl rfl rfl rfl ?_
      refine x_iload_n (pc' := 1) rfl rfl rfl ?_
      refine x_iload_n (pc' := 2) rfl rfl rfl ?_
      refine x_icmp (a' := 14) (pc' := 5) (z := decide ((xs 2) < (-1000000))) rfl rfl rfl rfl (fun h => absurd (of_decide_eq_true h) (of_decide_eq_false q5)) (fun _ => ?_)
      refine x_iload_n (pc' := 6) rfl rfl rfl ?_
      refine x_iload_n (pc' := 7) rfl rfl rfl ?_
      refine x_icmp (a' := 14) (pc' := 10) (z := decide (1000000 < (xs 2))) rfl rfl rfl rfl (fun h => absurd (of_decide_eq_true h) (of_decide_eq_false q16)) (fun _ => ?_)
      refine x_iconst (pc' := 11) rfl rfl ?_
      refine x_goto (pc' := 15) rfl rfl ?_
      refine x_retz (z := true) rfl rfl ?_
      refine sK_i (pc' := 24) rfl ?_
      refine x_if (a' := 31) (pc' := 27) (z := true) rfl rfl rfl (by decide) (fun _ => ?_) (fun h => by cases h)
      refine x_aload_n (pc' := 32) rfl rfl rfl rfl rfl ?_
      refine x_gR (pc' := 35) (r := (some 2)) rfl rfl rfl (Eq.trans rdRL (Eq.trans rdRI (Eq.trans rdRZ (z_R_781_0 e)))) ?_
      refine x_iload_n (pc' := 36) rfl rfl rfl ?_
      refine x_bald (pc' := 37) (N := 6) (z := false) rfl rfl (Eq.trans rdNL (Eq.trans rdNI (Eq.trans rdNZ (z_N_22_2 e)))) (io_in (p := 2) (N := 6) (by decide) (by decide)) (Eq.trans (congrArg (sB (sLw (sIw (sZw t 457 2 true) 456 2 (xs 2)) 23 0 0 (1 : Int64)) 22 2) (nn_io (p := 2) (by decide))) (Eq.trans rdBL (Eq.trans rdBI (Eq.trans rdBZ (z_B_22_2_2 e))))) ?_
      refine x_if (a' := 44) (pc' := 40) (z := true) rfl rfl rfl (by decide) (fun _ => ?_) (fun h => by cases h)
      refine x_iconst (pc' := 45) rfl rfl ?_
      refine x_cv (ls0 := [_, _]) (rest := []) rfl rfl rfl rfl rfl ?_
      refine x_aload_n (pc' := 1) rfl rfl rfl rfl rfl ?_
      refine x_iload_n (pc' := 2) rfl rfl rfl ?_
      refine x_pI (pc' := 5) rfl rfl rfl ?_
      refine x_iload_n (pc' := 6) rfl rfl rfl ?_
      refine x_if (a' := 13) (pc' := 9) (z := false) rfl rfl rfl (by decide) (fun h => by cases h) (fun _ => ?_)
      refine x_iconst (pc' := 10) rfl rfl ?_
      refine x_goto (pc' := 14) rfl rfl ?_
      refine x_retz (z := true) rfl rfl ?_
      refine sK_i (pc' := 48) rfl ?_
      refine x_if (a' := 53) (pc' := 51) (z := true) rfl rfl rfl (by decide) (fun _ => ?_) (fun h => by cases h)
      refine x_aload_n (pc' := 54) rfl rfl rfl rfl rfl ?_
      refine x_gR (pc' := 57) (r := (some 9)) rfl rfl rfl (Eq.trans rdRI (Eq.trans rdRL (Eq.trans rdRI (Eq.trans rdRZ (z_R_779_0 e))))) ?_
      refine x_iload_n (pc' := 58) rfl rfl rfl ?_
      refine x_iload_n (pc' := 59) rfl rfl rfl ?_
      refine x_iast (pc' := 60) (N := 6) (p := 2) rfl rfl rfl (Eq.trans rdNI (Eq.trans rdNL (Eq.trans rdNI (Eq.trans rdNZ (z_N_21_9 e))))) (io_in (p := 2) (N := 6) (by decide) (by decide)) (nn_io (p := 2) (by decide)) ?_
      refine x_aload_n (pc' := 61) rfl rfl rfl rfl rfl ?_
      refine x_gR (pc' := 64) (r := (some 1)) rfl rfl rfl (Eq.trans rdRA (Eq.trans rdRI (Eq.trans rdRL (Eq.trans rdRI (Eq.trans rdRZ (z_R_780_0 e)))))) ?_
      refine x_iload_n (pc' := 65) rfl rfl rfl ?_
      refine x_iconst (pc' := 66) rfl rfl ?_
      refine x_bast (pc' := 67) (N := 6) (p := 2) (z := true) rfl rfl (Eq.trans rdNA (Eq.trans rdNI (Eq.trans rdNL (Eq.trans rdNI (Eq.trans rdNZ (z_N_22_1 e)))))) (io_in (p := 2) (N := 6) (by decide) (by decide)) (nn_io (p := 2) (by decide)) rfl ?_
      refine x_iconst (pc' := 68) rfl rfl ?_
      refine x_istore (pc' := 70) (ls' := [_, _, _, _, _, _]) rfl rfl rfl rfl ?_
      refine x_iconst (pc' := 71) rfl rfl ?_
      refine x_istore (pc' := 73) (ls' := [_, _, _, _, _, _]) rfl rfl rfl rfl ?_
      refine x_iload (pc' := 75) rfl rfl rfl ?_
      refine x_bipush (pc' := 77) rfl rfl ?_
      refine x_icmp (a' := 106) (pc' := 80) (z := false) rfl rfl rfl (by decide) (fun h => by cases h) (fun _ => ?_)
      refine x_iload (pc' := 82) rfl rfl rfl ?_
      refine x_aload_n (pc' := 83) rfl rfl rfl rfl rfl ?_
      refine x_gR (pc' := 86) (r := (some 1)) rfl rfl rfl (Eq.trans rdRB (Eq.trans rdRA (Eq.trans rdRI (Eq.trans rdRL (Eq.trans rdRI (Eq.trans rdRZ (z_R_780_0 e))))))) ?_
      refine x_iload (pc' := 88) rfl rfl rfl ?_
      refine x_bald (pc' := 89) (N := 6) (z := false) rfl rfl (Eq.trans rdNB (Eq.trans rdNA (Eq.trans rdNI (Eq.trans rdNL (Eq.trans rdNI (Eq.trans rdNZ (z_N_22_1 e))))))) (io_in (p := 0) (N := 6) (by decide) (by decide)) (Eq.trans (congrArg (sB (sBw (sAw (sIw (sLw (sIw (sZw t 457 2 true) 456 2 (xs 2)) 23 0 0 (1 : Int64)) 768 0 0) 21 9 2 (xs 2)) 22 1 2 true) 22 1) (nn_io (p := 0) (by decide))) (Eq.trans (rdB_p rfl) (Eq.trans rdBA (Eq.trans rdBI (Eq.trans rdBL (Eq.trans rdBI (Eq.trans rdBZ (z_B_22_1_0 e)))))))) ?_
      refine x_if (a' := 96) (pc' := 92) (z := true) rfl rfl rfl (by decide) (fun _ => ?_) (fun h => by cases h)
      refine x_iconst (pc' := 97) rfl rfl ?_
      refine x_iadd (pc' := 98) (z := 0) rfl rfl (by decide) ?_
      refine x_istore (pc' := 100) (ls' := [_, _, _, _, _, _]) rfl rfl rfl rfl ?_
      refine x_iinc (pc' := 103) (y := 1) (ls' := [_, _, _, _, _, _]) rfl rfl rfl rfl rfl ?_
      refine x_goto (pc' := 73) rfl rfl ?_
      refine x_iload (pc' := 75) rfl rfl rfl ?_
      refine x_bipush (pc' := 77) rfl rfl ?_
      refine x_icmp (a' := 106) (pc' := 80) (z := false) rfl rfl rfl (by decide) (fun h => by cases h) (fun _ => ?_)
      refine x_iload (pc' := 82) rfl rfl rfl ?_
      refine x_aload_n (pc' := 83) rfl rfl rfl rfl rfl ?_
      refine x_gR (pc' := 86) (r := (some 1)) rfl rfl rfl (Eq.trans rdRB (Eq.trans rdRA (Eq.trans rdRI (Eq.trans rdRL (Eq.trans rdRI (Eq.trans rdRZ (z_R_780_0 e))))))) ?_
      refine x_iload (pc' := 88) rfl rfl rfl ?_
      refine x_bald (pc' := 89) (N := 6) (z := false) rfl rfl (Eq.trans rdNB (Eq.trans rdNA (Eq.trans rdNI (Eq.trans rdNL (Eq.trans rdNI (Eq.trans rdNZ (z_N_22_1 e))))))) (io_in (p := 1) (N := 6) (by decide) (by decide)) (Eq.trans (congrArg (sB (sBw (sAw (sIw (sLw (sIw (sZw t 457 2 true) 456 2 (xs 2)) 23 0 0 (1 : Int64)) 768 0 0) 21 9 2 (xs 2)) 22 1 2 true) 22 1) (nn_io (p := 1) (by decide))) (Eq.trans (rdB_p rfl) (Eq.trans rdBA (Eq.trans rdBI (Eq.trans rdBL (Eq.trans rdBI (Eq.trans rdBZ (z_B_22_1_1 e)))))))) ?_
      refine x_if (a' := 96) (pc' := 92) (z := true) rfl rfl rfl (by decide) (fun _ => ?_) (fun h => by cases h)
      refine x_iconst (pc' := 97) rfl rfl ?_
      refine x_iadd (pc' := 98) (z := 0) rfl rfl (by decide) ?_
      refine x_istore (pc' := 100) (ls' := [_, _, _, _, _, _]) rfl rfl rfl rfl ?_
      refine x_iinc (pc' := 103) (y := 2) (ls' := [_, _, _, _, _, _]) rfl rfl rfl rfl rfl ?_
      refine x_goto (pc' := 73) rfl rfl ?_
      refine x_iload (pc' := 75) rfl rfl rfl ?_
      refine x_bipush (pc' := 77) rfl rfl ?_
      refine x_icmp (a' := 106) (pc' := 80) (z := false) rfl rfl rfl (by decide) (fun h => by cases h) (fun _ => ?_)
      refine x_iload (pc' := 82) rfl rfl rfl ?_
      refine x_aload_n (pc' := 83) rfl rfl rfl rfl rfl ?_
      refine x_gR (pc' := 86) (r := (some 1)) rfl rfl rfl (Eq.trans rdRB (Eq.trans rdRA (Eq.trans rdRI (Eq.trans rdRL (Eq.trans rdRI (Eq.trans rdRZ (z_R_780_0 e))))))) ?_
      refine x_iload (pc' := 88) rfl rfl rfl ?_
      refine x_bald (pc' := 89) (N := 6) (z := true) rfl rfl (Eq.trans rdNB (Eq.trans rdNA (Eq.trans rdNI (Eq.trans rdNL (Eq.trans rdNI (Eq.trans rdNZ (z_N_22_1 e))))))) (io_in (p := 2) (N := 6) (by decide) (by decide)) (Eq.trans (congrArg (sB (sBw (sAw (sIw (sLw (sIw (sZw t 457 2 true) 456 2 (xs 2)) 23 0 0 (1 : Int64)) 768 0 0) 21 9 2 (xs 2)) 22 1 2 true) 22 1) (nn_io (p := 2) (by decide))) sB_s) ?_
      refine x_if (a' := 96) (pc' := 92) (z := false) rfl rfl rfl (by decide) (fun h => by cases h) (fun _ => ?_)
      refine x_iconst (pc' := 93) rfl rfl ?_
      refine x_goto (pc' := 97) rfl rfl ?_
      refine x_iadd (pc' := 98) (z := 1) rfl rfl (by decide) ?_
      refine x_istore (pc' := 100) (ls' := [_, _, _, _, _, _]) rfl rfl rfl rfl ?_
      refine x_iinc (pc' := 103) (y := 3) (ls' := [_, _, _, _, _, _]) rfl rfl rfl rfl rfl ?_
      refine x_goto (pc' := 73) rfl rfl ?_
      refine x_iload (pc' := 75) rfl rfl rfl ?_
      refine x_bipush (pc' := 77) rfl rfl ?_
      refine x_icmp (a' := 106) (pc' := 80) (z := false) rfl rfl rfl (by decide) (fun h => by cases h) (fun _ => ?_)
      refine x_iload (pc' := 82) rfl rfl rfl ?_
      refine x_aload_n (pc' := 83) rfl rfl rfl rfl rfl ?_
      refine x_gR (pc' := 86) (r := (some 1)) rfl rfl rfl (Eq.trans rdRB (Eq.trans rdRA (Eq.trans rdRI (Eq.trans rdRL (Eq.trans rdRI (Eq.trans rdRZ (z_R_780_0 e))))))) ?_
      refine x_iload (pc' := 88) rfl rfl rfl ?_
      refine x_bald (pc' := 89) (N := 6) (z := false) rfl rfl (Eq.trans rdNB (Eq.trans rdNA (Eq.trans rdNI (Eq.trans rdNL (Eq.trans rdNI (Eq.trans rdNZ (z_N_22_1 e))))))) (io_in (p := 3) (N := 6) (by decide) (by decide)) (Eq.trans (congrArg (sB (sBw (sAw (sIw (sLw (sIw (sZw t 457 2 true) 456 2 (xs 2)) 23 0 0 (1 : Int64)) 768 0 0) 21 9 2 (xs 2)) 22 1 2 true) 22 1) (nn_io (p := 3) (by decide))) (Eq.trans (rdB_p rfl) (Eq.trans rdBA (Eq.trans rdBI (Eq.trans rdBL (Eq.trans rdBI (Eq.trans rdBZ (z_B_22_1_3 e)))))))) ?_
      refine x_if (a' := 96) (pc' := 92) (z := true) rfl rfl rfl (by decide) (fun _ => ?_) (fun h => by cases h)
      refine x_iconst (pc' := 97) rfl rfl ?_
      refine x_iadd (pc' := 98) (z := 1) rfl rfl (by decide) ?_
      refine x_istore (pc' := 100) (ls' := [_, _, _, _, _, _]) rfl rfl rfl rfl ?_
      refine x_iinc (pc' := 103) (y := 4) (ls' := [_, _, _, _, _, _]) rfl rfl rfl rfl rfl ?_
      refine x_goto (pc' := 73) rfl rfl ?_
      refine x_iload (pc' := 75) rfl rfl rfl ?_
      refine x_bipush (pc' := 77) rfl rfl ?_
      refine x_icmp (a' := 106) (pc' := 80) (z := false) rfl rfl rfl (by decide) (fun h => by cases h) (fun _ => ?_)
      refine x_iload (pc' := 82) rfl rfl rfl ?_
      refine x_aload_n (pc' := 83) rfl rfl rfl rfl rfl ?_
      refine x_gR (pc' := 86) (r := (some 1)) rfl rfl rfl (Eq.trans rdRB (Eq.trans rdRA (Eq.trans rdRI (Eq.trans rdRL (Eq.trans rdRI (Eq.trans rdRZ (z_R_780_0 e))))))) ?_
      refine x_iload (pc' := 88) rfl rfl rfl ?_
      refine x_bald (pc' := 89) (N := 6) (z := false) rfl rfl (Eq.trans rdNB (Eq.trans rdNA (Eq.trans rdNI (Eq.trans rdNL (Eq.trans rdNI (Eq.trans rdNZ (z_N_22_1 e))))))) (io_in (p := 4) (N := 6) (by decide) (by decide)) (Eq.trans (congrArg (sB (sBw (sAw (sIw (sLw (sIw (sZw t 457 2 true) 456 2 (xs 2)) 23 0 0 (1 : Int64)) 768 0 0) 21 9 2 (xs 2)) 22 1 2 true) 22 1) (nn_io (p := 4) (by decide))) (Eq.trans (rdB_p rfl) (Eq.trans rdBA (Eq.trans rdBI (Eq.trans rdBL (Eq.trans rdBI (Eq.trans rdBZ (z_B_22_1_4 e)))))))) ?_
      refine x_if (a' := 96) (pc' := 92) (z := true) rfl rfl rfl (by decide) (fun _ => ?_) (fun h => by cases h)
      refine x_iconst (pc' := 97) rfl rfl ?_
      refine x_iadd (pc' := 98) (z := 1) rfl rfl (by decide) ?_
      refine x_istore (pc' := 100) (ls' := [_, _, _, _, _, _]) rfl rfl rfl rfl ?_
      refine x_iinc (pc' := 103) (y := 5) (ls' := [_, _, _, _, _, _]) rfl rfl rfl rfl rfl ?_
      refine x_goto (pc' := 73) rfl rfl ?_
      refine x_iload (pc' := 75) rfl rfl rfl ?_
      refine x_bipush (pc' := 77) rfl rfl ?_
      refine x_icmp (a' := 106) (pc' := 80) (z := false) rfl rfl rfl (by decide) (fun h => by cases h) (fun _ => ?_)
      refine x_iload (pc' := 82) rfl rfl rfl ?_
      refine x_aload_n (pc' := 83) rfl rfl rfl rfl rfl ?_
      refine x_gR (pc' := 86) (r := (some 1)) rfl rfl rfl (Eq.trans rdRB (Eq.trans rdRA (Eq.trans rdRI (Eq.trans rdRL (Eq.trans rdRI (Eq.trans rdRZ (z_R_780_0 e))))))) ?_
      refine x_iload (pc' := 88) rfl rfl rfl ?_
      refine x_bald (pc' := 89) (N := 6) (z := false) rfl rfl (Eq.trans rdNB (Eq.trans rdNA (Eq.trans rdNI (Eq.trans rdNL (Eq.trans rdNI (Eq.trans rdNZ (z_N_22_1 e))))))) (io_in (p := 5) (N := 6) (by decide) (by decide)) (Eq.trans (congrArg (sB (sBw (sAw (sIw (sLw (sIw (sZw t 457 2 true) 456 2 (xs 2)) 23 0 0 (1 : Int64)) 768 0 0) 21 9 2 (xs 2)) 22 1 2 true) 22 1) (nn_io (p := 5) (by decide))) (Eq.trans (rdB_p rfl) (Eq.trans rdBA (Eq.trans rdBI (Eq.trans rdBL (Eq.trans rdBI (Eq.trans rdBZ (z_B_22_1_5 e)))))))) ?_
      refine x_if (a' := 96) (pc' := 92) (z := true) rfl rfl rfl (by decide) (fun _ => ?_) (fun h => by cases h)
      refine x_iconst (pc' := 97) rfl rfl ?_
      refine x_iadd (pc' := 98) (z := 1) rfl rfl (by decide) ?_
      refine x_istore (pc' := 100) (ls' := [_, _, _, _, _, _]) rfl rfl rfl rfl ?_
      refine x_iinc (pc' := 103) (y := 6) (ls' := [_, _, _, _, _, _]) rfl rfl rfl rfl rfl ?_
      refine x_goto (pc' := 73) rfl rfl ?_
      refine x_iload (pc' := 75) rfl rfl rfl ?_
      refine x_bipush (pc' := 77) rfl rfl ?_
      refine x_icmp (a' := 106) (pc' := 80) (z := true) rfl rfl rfl (by decide) (fun _ => ?_) (fun h => by cases h)
      refine x_iload (pc' := 108) rfl rfl rfl ?_
      refine x_reti rfl rfl ?_
      refine sK_i (pc' := 1522) rfl ?_
      refine x_istore (pc' := 1524) (ls' := [_, _, _, _, _, _, _]) rfl rfl rfl rfl ?_
      refine x_aload_n (pc' := 1525) rfl rfl rfl rfl rfl ?_
      refine x_cv (ls0 := [_]) (rest := []) rfl rfl rfl rfl rfl ?_
      refine x_aload_n (pc' := 1) rfl rfl rfl rfl rfl ?_
      refine x_gI (pc' := 4) (x := 0) rfl rfl rfl (Eq.trans rdIB (Eq.trans rdIA sI_s)) ?_
      refine x_reti rfl rfl ?_
      refine sK_i (pc' := 1528) rfl ?_
      refine x_iload (pc' := 1530) rfl rfl rfl ?_
      refine x_icmp (a' := 1535) (pc' := 1533) (z := true) rfl rfl rfl (by decide) (fun _ => ?_) (fun h => by cases h)
      refine x_iload (pc' := 1537) rfl rfl rfl ?_
      refine x_if (a' := 1552) (pc' := 1540) (z := false) rfl rfl rfl (by decide) (fun h => by cases h) (fun _ => ?_)
      refine x_aload_n (pc' := 1541) rfl rfl rfl rfl rfl ?_
      refine x_iconst (pc' := 1542) rfl rfl ?_
      refine x_lald (pc' := 1543) (N := 1) (x := (1 : Int64)) rfl rfl (Eq.trans rdNB (Eq.trans rdNA (Eq.trans rdNI (Eq.trans rdNL (Eq.trans rdNI (Eq.trans rdNZ (z_N_23_0 e))))))) (io_in (p := 0) (N := 1) (by decide) (by decide)) (Eq.trans (congrArg (sL (sBw (sAw (sIw (sLw (sIw (sZw t 457 2 true) 456 2 (xs 2)) 23 0 0 (1 : Int64)) 768 0 0) 21 9 2 (xs 2)) 22 1 2 true) 23 0) (nn_io (p := 0) (by decide))) (Eq.trans rdLB (Eq.trans rdLA (Eq.trans rdLI sL_s)))) ?_
      refine x_iload (pc' := 1545) rfl rfl rfl ?_
      refine x_i2l (pc' := 1546) (z := (1 : Int64)) rfl rfl (by decide) ?_
      refine x_lcmp (pc' := 1547) (z := 0) rfl rfl (sLcmp_s _) ?_
      refine x_if (a' := 1552) (pc' := 1550) (z := true) rfl rfl rfl (by decide) (fun _ => ?_) (fun h => by cases h)
      refine x_goto (pc' := 2938) rfl rfl ?_
      refine x_iinc (pc' := 2941) (y := 7) (ls' := [_, _, _, _, _, _, _]) rfl rfl rfl rfl rfl ?_
      refine x_goto (pc' := 23) rfl rfl ?_
      refine x_iload (pc' := 25) rfl rfl rfl ?_
      refine x_aload_n (pc' := 26) rfl rfl rfl rfl rfl ?_
      refine x_alen (pc' := 27) (N := 7) rfl rfl rfl (Eq.trans rdNB (Eq.trans rdNA (Eq.trans rdNI (Eq.trans rdNL (Eq.trans rdNI (Eq.trans rdNZ (z_N_29_0 e))))))) (?_ : X _ _ _ (.inl 7 :: _) _ _)
      refine x_bipush (pc' := 29) rfl rfl ?_
      refine x_isub (pc' := 30) (z := 0) rfl rfl (by decide) ?_
      refine x_icmp (a' := 2944) (pc' := 33) (z := true) rfl rfl rfl (by decide) (fun _ => ?_) (fun h => by cases h)
      refine x_iconst (pc' := 2945) rfl rfl ?_
      refine x_retz (z := true) rfl rfl ?_
      exact Qp_ok e (p := 0) (q := 0) rfl rfl rfl rfl
    · refine x_throw rfl rfl ?_
      refine sK_n (by decide +kernel) rfl ?_
      refine sK_h (h := 17) (by decide +kernel) rfl ?_
      refine x_catch (pc' := 19) (ls' := [_, _, _, _, _]) rfl rfl rfl rfl ?_
      refine x_iconst (pc' := 20) rfl rfl ?_
      refine x_reti rfl rfl ?_
      refine sK_i (pc' := 1504) rfl ?_
      refine x_istore (pc' := 1506) (ls' := [_, _, _, _, _, _, _]) rfl rfl rfl rfl ?_
      refine x_aload_n (pc' := 1507) rfl rfl rfl rfl rfl ?_
      refine x_aload_n (pc' := 1508) rfl rfl rfl rfl rfl ?_
      refine x_iload (pc' := 1510) rfl rfl rfl ?_
      refine x_iconst (pc' := 1511) rfl rfl ?_
      refine x_iadd (pc' := 1512) (z := 1) rfl rfl (by decide) ?_
      refine x_iald (pc' := 1513) (N := 7) (x := 2) rfl rfl rfl (Eq.trans rdNthr (z_N_29_0 e)) (io_in (p := 1) (N := 7) (by decide) (by decide)) (Eq.trans (congrArg (sA (sThr t) 29 0) (nn_io (p := 1) (by decide))) (Eq.trans rdAthr (Eq.trans (z_A_29_0_1 e) e0))) ?_
      refine x_aload_n (pc' := 1514) rfl rfl rfl rfl rfl ?_
      refine x_iload (pc' := 1516) rfl rfl rfl ?_
      refine x_iconst (pc' := 1517) rfl rfl ?_
      refine x_iadd (pc' := 1518) (z := 2) rfl rfl (by decide) ?_
      refine x_iald (pc' := 1519) (N := 7) (x := (xs 2)) rfl rfl rfl (Eq.trans rdNthr (z_N_29_0 e)) (io_in (p := 2) (N := 7) (by decide) (by decide)) (Eq.trans (congrArg (sA (sThr t) 29 0) (nn_io (p := 2) (by decide))) (Eq.trans rdAthr (z_A_29_0_2 e))) ?_
      refine x_cv (ls0 := [_, _, _, sJk, sJk, sJk]) (rest := []) rfl rfl rfl rfl rfl ?_
      refine x_iload_n (pc' := 1) rfl rfl rfl ?_
      refine x_cs (ls0 := [_]) (rest := []) rfl rfl rfl rfl ?_
      refine x_iload_n (pc' := 1) rfl rfl rfl ?_
      refine x_iconst (pc' := 2) rfl rfl ?_
      refine x_iconst (pc' := 3) rfl rfl ?_
      refine x_cs (ls0 := [_, _, _]) (rest := []) rfl rfl rfl rfl ?_
      refine x_iload_n (pc' := 1) rfl rfl rfl ?_
      refine x_iload_n (pc' := 2) rfl rfl rfl ?_
      refine x_icmp (a' := 14) (pc' := 5) (z := false) rfl rfl rfl (by decide) (fun h => by cases h) (fun _ => ?_)
      refine x_iload_n (pc' := 6) rfl rfl rfl ?_
      refine x_iload_n (pc' := 7) rfl rfl rfl ?_
      refine x_icmp (a' := 14) (pc' := 10) (z := false) rfl rfl rfl (by decide) (fun h => by cases h) (fun _ => ?_)
      refine x_iconst (pc' := 11) rfl rfl ?_
      refine x_goto (pc' := 15) rfl rfl ?_
      refine x_retz (z := true) rfl rfl ?_
      refine sK_i (pc' := 6) rfl ?_
      refine x_retz (z := true) rfl rfl ?_
      refine sK_i (pc' := 4) rfl ?_
      refine x_istore_n (pc' := 5) (ls' := [_, _, _, _, _, _]) rfl rfl rfl rfl ?_
      refine x_aload_n (pc' := 6) rfl rfl rfl rfl rfl ?_
      refine x_iload_n (pc' := 7) rfl rfl rfl ?_
      refine x_if (a' := 14) (pc' := 10) (z := true) rfl rfl rfl (by decide) (fun _ => ?_) (fun h => by cases h)
      refine x_iload_n (pc' := 15) rfl rfl rfl ?_
      refine x_ldc_w (pc' := 18) rfl rfl ?_
      refine x_ldc_w (pc' := 21) rfl rfl ?_
      refine x_cs (ls0 := [_, _, _]) (rest := [_]) rfl rfl rfl rfl ?_
      refine x_iload_n (pc' := 1) rfl rfl rfl ?_
      refine x_iload_n (pc' := 2) rfl rfl rfl ?_
      refine x_icmp (a' := 14) (pc' := 5) (z := decide ((xs 2) < (-1000000))) rfl rfl rfl rfl (fun h => absurd (of_decide_eq_true h) (of_decide_eq_false q5)) (fun _ => ?_)
      refine x_iload_n (pc' := 6) rfl rfl rfl ?_
      refine x_iload_n (pc' := 7) rfl rfl rfl ?_
      refine x_icmp (a' := 14) (pc' := 10) (z := decide (1000000 < (xs 2))) rfl rfl rfl rfl (fun _ => ?_) (fun h => absurd (of_decide_eq_true q16) (of_decide_eq_false h))
      refine x_iconst (pc' := 15) rfl rfl ?_
      refine x_retz (z := false) rfl rfl ?_
      refine sK_i (pc' := 24) rfl ?_
      refine x_if (a' := 31) (pc' := 27) (z := false) rfl rfl rfl (by decide) (fun h => by cases h) (fun _ => ?_)
      refine x_iconst (pc' := 28) rfl rfl ?_
      refine x_goto (pc' := 45) rfl rfl ?_
      refine x_cv (ls0 := [_, _]) (rest := []) rfl rfl rfl rfl rfl ?_
      refine x_aload_n (pc' := 1) rfl rfl rfl rfl rfl ?_
      refine x_iload_n (pc' := 2) rfl rfl rfl ?_
      refine x_pI (pc' := 5) rfl rfl rfl ?_
      refine x_iload_n (pc' := 6) rfl rfl rfl ?_
      refine x_if (a' := 13) (pc' := 9) (z := true) rfl rfl rfl (by decide) (fun _ => ?_) (fun h => by cases h)
      refine x_iconst (pc' := 14) rfl rfl ?_
      refine x_retz (z := false) rfl rfl ?_
      refine sK_i (pc' := 48) rfl ?_
      refine x_if (a' := 53) (pc' := 51) (z := false) rfl rfl rfl (by decide) (fun h => by cases h) (fun _ => ?_)
      refine x_iconst (pc' := 52) rfl rfl ?_
      refine x_reti rfl rfl ?_
      refine sK_i (pc' := 1522) rfl ?_
      refine x_istore (pc' := 1524) (ls' := [_, _, _, _, _, _, _]) rfl rfl rfl rfl ?_
      refine x_aload_n (pc' := 1525) rfl rfl rfl rfl rfl ?_
      refine x_cv (ls0 := [_]) (rest := []) rfl rfl rfl rfl rfl ?_
      refine x_aload_n (pc' := 1) rfl rfl rfl rfl rfl ?_
      refine x_gI (pc' := 4) (x := 2) rfl rfl rfl sI_s ?_
      refine x_reti rfl rfl ?_
      refine sK_i (pc' := 1528) rfl ?_
      refine x_iload (pc' := 1530) rfl rfl rfl ?_
      refine x_icmp (a' := 1535) (pc' := 1533) (z := true) rfl rfl rfl (by decide) (fun _ => ?_) (fun h => by cases h)
      refine x_iload (pc' := 1537) rfl rfl rfl ?_
      refine x_if (a' := 1552) (pc' := 1540) (z := true) rfl rfl rfl (by decide) (fun _ => ?_) (fun h => by cases h)
      refine x_goto (pc' := 2938) rfl rfl ?_
      refine x_iinc (pc' := 2941) (y := 7) (ls' := [_, _, _, _, _, _, _]) rfl rfl rfl rfl rfl ?_
      refine x_goto (pc' := 23) rfl rfl ?_
      refine x_iload (pc' := 25) rfl rfl rfl ?_
      refine x_aload_n (pc' := 26) rfl rfl rfl rfl rfl ?_
      refine x_alen (pc' := 27) (N := 7) rfl rfl rfl (Eq.trans rdNI (Eq.trans rdNthr (z_N_29_0 e))) (?_ : X _ _ _ (.inl 7 :: _) _ _)
      refine x_bipush (pc' := 29) rfl rfl ?_
      refine x_isub (pc' := 30) (z := 0) rfl rfl (by decide) ?_
      refine x_icmp (a' := 2944) (pc' := 33) (z := true) rfl rfl rfl (by decide) (fun _ => ?_) (fun h => by cases h)
      refine x_iconst (pc' := 2945) rfl rfl ?_
      refine x_retz (z := true) rfl rfl ?_
      exact Qp_ok e (p := 1) (q := 6) rfl rfl rfl rfl
set_option maxHeartbeats 4000000 in
set_option maxRecDepth 10000 in
theorem v_16_3_i {t : sT} {xs : Nat → Int32}
    (e : t = T16 7 xs)
    (hk : ((xs 0) &&& 63) = 16)
    (e0 : xs 1 = 3) :
    X 297 23 [.inr (.inr (29, (some 0))), .inr (.inr (11, (some 0))), .inr (.inr (12, (some 0))), .inr (.inr (23, (some 0))), .inl 0, sJk, sJk] [] t Qp := by
  refine x_iload (pc' := 25) rfl rfl rfl ?_
  refine x_aload_n (pc' := 26) rfl rfl rfl rfl rfl ?_
  refine x_alen (pc' := 27) (N := 7) rfl rfl rfl (z_N_29_0 e) (?_ : X _ _ _ (.inl 7 :: _) _ _)
  refine x_bipush (pc' := 29) rfl rfl ?_
  refine x_isub (pc' := 30) (z := 0) rfl rfl (by decide) ?_
  refine x_icmp (a' := 2944) (pc' := 33) (z := false) rfl rfl rfl (by decide) (fun h => by cases h) (fun _ => ?_)
  refine x_aload_n (pc' := 34) rfl rfl rfl rfl rfl ?_
  refine x_iload (pc' := 36) rfl rfl rfl ?_
  refine x_iald (pc' := 37) (N := 7) (x := (xs 0)) rfl rfl rfl (z_N_29_0 e) (io_in (p := 0) (N := 7) (by decide) (by decide)) (Eq.trans (congrArg (sA t 29 0) (nn_io (p := 0) (by decide))) (z_A_29_0_0 e)) ?_
  refine x_bipush (pc' := 39) rfl rfl ?_
  refine x_iand (pc' := 40) (z := ((xs 0) &&& 63)) rfl rfl rfl ?_
  refine x_switch (pc' := 1487) rfl (by rw [hk]; decide) ?_
  refine x_aload_n (pc' := 1488) rfl rfl rfl rfl rfl ?_
  refine x_aload_n (pc' := 1489) rfl rfl rfl rfl rfl ?_
  refine x_iload (pc' := 1491) rfl rfl rfl ?_
  refine x_iconst (pc' := 1492) rfl rfl ?_
  refine x_iadd (pc' := 1493) (z := 1) rfl rfl (by decide) ?_
  refine x_iald (pc' := 1494) (N := 7) (x := 3) rfl rfl rfl (z_N_29_0 e) (io_in (p := 1) (N := 7) (by decide) (by decide)) (Eq.trans (congrArg (sA t 29 0) (nn_io (p := 1) (by decide))) (Eq.trans (z_A_29_0_1 e) e0)) ?_
  refine x_aload_n (pc' := 1495) rfl rfl rfl rfl rfl ?_
  refine x_iload (pc' := 1497) rfl rfl rfl ?_
  refine x_iconst (pc' := 1498) rfl rfl ?_
  refine x_iadd (pc' := 1499) (z := 2) rfl rfl (by decide) ?_
  refine x_iald (pc' := 1500) (N := 7) (x := (xs 2)) rfl rfl rfl (z_N_29_0 e) (io_in (p := 2) (N := 7) (by decide) (by decide)) (Eq.trans (congrArg (sA t 29 0) (nn_io (p := 2) (by decide))) (z_A_29_0_2 e)) ?_
  refine x_aload_n (pc' := 1501) rfl rfl rfl rfl rfl ?_
  refine x_cs (ls0 := [_, _, _, _, sJk]) (rest := []) rfl rfl rfl rfl ?_
  refine x_aload_n (pc' := 1) rfl rfl rfl rfl rfl ?_
  refine x_iconst (pc' := 2) rfl rfl ?_
  refine x_aload_n (pc' := 3) rfl rfl rfl rfl rfl ?_
  refine x_iload_n (pc' := 4) rfl rfl rfl ?_
  refine x_iload_n (pc' := 5) rfl rfl rfl ?_
  refine x_cv (ls0 := [_, _, _, sJk]) (rest := [_, _]) rfl rfl rfl rfl rfl ?_
  refine x_aload_n (pc' := 1) rfl rfl rfl rfl rfl ?_
  refine x_iload_n (pc' := 2) rfl rfl rfl ?_
  refine x_cv (ls0 := [_, _]) (rest := []) rfl rfl rfl rfl rfl ?_
  refine x_iload_n (pc' := 1) rfl rfl rfl ?_
  refine x_if (a' := 16) (pc' := 4) (z := false) rfl rfl rfl (by decide) (fun h => by cases h) (fun _ => ?_)
  refine x_iload_n (pc' := 5) rfl rfl rfl ?_
  refine x_aload_n (pc' := 6) rfl rfl rfl rfl rfl ?_
  refine x_gR (pc' := 9) (r := (some 0)) rfl rfl rfl (z_R_704_0 e) ?_
  refine x_gR (pc' := 12) (r := (some 0)) rfl rfl rfl (z_R_321_0 e) ?_
  refine x_alen (pc' := 13) (N := 6) rfl rfl rfl (z_N_26_0 e) (?_ : X _ _ _ (.inl 6 :: _) _ _)
  refine x_icmp (a' := 27) (pc' := 16) (z := true) rfl rfl rfl (by decide) (fun _ => ?_) (fun h => by cases h)
  refine x_aload_n (pc' := 28) rfl rfl rfl rfl rfl ?_
  refine x_gR (pc' := 31) (r := (some 0)) rfl rfl rfl (z_R_704_0 e) ?_
  refine x_gR (pc' := 34) (r := (some 0)) rfl rfl rfl (z_R_321_0 e) ?_
  refine x_iload_n (pc' := 35) rfl rfl rfl ?_
  refine x_aald (pc' := 36) (N := 6) (k' := 7) (r := (some 3)) rfl rfl rfl (z_N_26_0 e) (io_in (p := 3) (N := 6) (by decide) (by decide)) (Eq.trans (congrArg (sE t 26 0) (nn_io (p := 3) (by decide))) (z_E_26_0_3 e)) ?_
  refine x_reta rfl rfl ?_
  refine sK_i (pc' := 5) rfl ?_
  refine x_astore_n (pc' := 6) (ls' := [_, _, _, _]) rfl rfl rfl rfl rfl ?_
  refine x_iload_n (pc' := 7) rfl rfl rfl ?_
  refine x_ldc (pc' := 9) rfl rfl ?_
  refine x_ldc (pc' := 11) rfl rfl ?_
  refine x_cs (ls0 := [_, _, _]) (rest := []) rfl rfl rfl rfl ?_
  refine x_iload_n (pc' := 1) rfl rfl rfl ?_
  refine x_iload_n (pc' := 2) rfl rfl rfl ?_
  refine x_icmp (a' := 10) (pc' := 5) (z := decide ((xs 2) < (-1000000))) rfl rfl rfl rfl (fun q5 => ?_) (fun q5 => ?_)
  · refine x_throw rfl rfl ?_
    refine sK_n (by decide +kernel) rfl ?_
    refine sK_h (h := 17) (by decide +kernel) rfl ?_
    refine x_catch (pc' := 19) (ls' := [_, _, _, _, _]) rfl rfl rfl rfl ?_
    refine x_iconst (pc' := 20) rfl rfl ?_
    refine x_reti rfl rfl ?_
    refine sK_i (pc' := 1504) rfl ?_
    refine x_istore (pc' := 1506) (ls' := [_, _, _, _, _, _, _]) rfl rfl rfl rfl ?_
    refine x_aload_n (pc' := 1507) rfl rfl rfl rfl rfl ?_
    refine x_aload_n (pc' := 1508) rfl rfl rfl rfl rfl ?_
    refine x_iload (pc' := 1510) rfl rfl rfl ?_
    refine x_iconst (pc' := 1511) rfl rfl ?_
    refine x_iadd (pc' := 1512) (z := 1) rfl rfl (by decide) ?_
    refine x_iald (pc' := 1513) (N := 7) (x := 3) rfl rfl rfl (Eq.trans rdNthr (z_N_29_0 e)) (io_in (p := 1) (N := 7) (by decide) (by decide)) (Eq.trans (congrArg (sA (sThr t) 29 0) (nn_io (p := 1) (by decide))) (Eq.trans rdAthr (Eq.trans (z_A_29_0_1 e) e0))) ?_
    refine x_aload_n (pc' := 1514) rfl rfl rfl rfl rfl ?_
    refine x_iload (pc' := 1516) rfl rfl rfl ?_
    refine x_iconst (pc' := 1517) rfl rfl ?_
    refine x_iadd (pc' := 1518) (z := 2) rfl rfl (by decide) ?_
    refine x_iald (pc' := 1519) (N := 7) (x := (xs 2)) rfl rfl rfl (Eq.trans rdNthr (z_N_29_0 e)) (io_in (p := 2) (N := 7) (by decide) (by decide)) (Eq.trans (congrArg (sA (sThr t) 29 0) (nn_io (p := 2) (by decide))) (Eq.trans rdAthr (z_A_29_0_2 e))) ?_
    refine x_cv (ls0 := [_, _, _, sJk, sJk, sJk]) (rest := []) rfl rfl rfl rfl rfl ?_
    refine x_iload_n (pc' := 1) rfl rfl rfl ?_
    refine x_cs (ls0 := [_]) (rest := []) rfl rfl rfl rfl ?_
    refine x_iload_n (pc' := 1) rfl rfl rfl ?_
    refine x_iconst (pc' := 2) rfl rfl ?_
    refine x_iconst (pc' := 3) rfl rfl ?_
    refine x_cs (ls0 := [_, _, _]) (rest := []) rfl rfl rfl rfl ?_
    refine x_iload_n (pc' := 1) rfl rfl rfl ?_
    refine x_iload_n (pc' := 2) rfl rfl rfl ?_
    refine x_icmp (a' := 14) (pc' := 5) (z := false) rfl rfl rfl (by decide) (fun h => by cases h) (fun _ => ?_)
    refine x_iload_n (pc' := 6) rfl rfl rfl ?_
    refine x_iload_n (pc' := 7) rfl rfl rfl ?_
    refine x_icmp (a' := 14) (pc' := 10) (z := false) rfl rfl rfl (by decide) (fun h => by cases h) (fun _ => ?_)
    refine x_iconst (pc' := 11) rfl rfl ?_
    refine x_goto (pc' := 15) rfl rfl ?_
    refine x_retz (z := true) rfl rfl ?_
    refine sK_i (pc' := 6) rfl ?_
    refine x_retz (z := true) rfl rfl ?_
    refine sK_i (pc' := 4) rfl ?_
    refine x_istore_n (pc' := 5) (ls' := [_, _, _, _, _, _]) rfl rfl rfl rfl ?_
    refine x_aload_n (pc' := 6) rfl rfl rfl rfl rfl ?_
    refine x_iload_n (pc' := 7) rfl rfl rfl ?_
    refine x_if (a' := 14) (pc' := 10) (z := true) rfl rfl rfl (by decide) (fun _ => ?_) (fun h => by cases h)
    refine x_iload_n (pc' := 15) rfl rfl rfl ?_
    refine x_ldc_w (pc' := 18) rfl rfl ?_
    refine x_ldc_w (pc' := 21) rfl rfl ?_
    refine x_cs (ls0 := [_, _, _]) (rest := [_]) rfl rfl rfl rfl ?_
    refine x_iload_n (pc' := 1) rfl rfl rfl ?_
    refine x_iload_n (pc' := 2) rfl rfl rfl ?_
    refine x_icmp (a' := 14) (pc' := 5) (z := decide ((xs 2) < (-1000000))) rfl rfl rfl rfl (fun _ => ?_) (fun h => absurd (of_decide_eq_true q5) (of_decide_eq_false h))
    refine x_iconst (pc' := 15) rfl rfl ?_
    refine x_retz (z := false) rfl rfl ?_
    refine sK_i (pc' := 24) rfl ?_
    refine x_if (a' := 31) (pc' := 27) (z := false) rfl rfl rfl (by decide) (fun h => by cases h) (fun _ => ?_)
    refine x_iconst (pc' := 28) rfl rfl ?_
    refine x_goto (pc' := 45) rfl rfl ?_
    refine x_cv (ls0 := [_, _]) (rest := []) rfl rfl rfl rfl rfl ?_
    refine x_aload_n (pc' := 1) rfl rfl rfl rfl rfl ?_
    refine x_iload_n (pc' := 2) rfl rfl rfl ?_
    refine x_pI (pc' := 5) rfl rfl rfl ?_
    refine x_iload_n (pc' := 6) rfl rfl rfl ?_
    refine x_if (a' := 13) (pc' := 9) (z := true) rfl rfl rfl (by decide) (fun _ => ?_) (fun h => by cases h)
    refine x_iconst (pc' := 14) rfl rfl ?_
    refine x_retz (z := false) rfl rfl ?_
    refine sK_i (pc' := 48) rfl ?_
    refine x_if (a' := 53) (pc' := 51) (z := false) rfl rfl rfl (by decide) (fun h => by cases h) (fun _ => ?_)
    refine x_iconst (pc' := 52) rfl rfl ?_
    refine x_reti rfl rfl ?_
    refine sK_i (pc' := 1522) rfl ?_
    refine x_istore (pc' := 1524) (ls' := [_, _, _, _, _, _, _]) rfl rfl rfl rfl ?_
    refine x_aload_n (pc' := 1525) rfl rfl rfl rfl rfl ?_
    refine x_cv (ls0 := [_]) (rest := []) rfl rfl rfl rfl rfl ?_
    refine x_aload_n (pc' := 1) rfl rfl rfl rfl rfl ?_
    refine x_gI (pc' := 4) (x := 2) rfl rfl rfl sI_s ?_
    refine x_reti rfl rfl ?_
    refine sK_i (pc' := 1528) rfl ?_
    refine x_iload (pc' := 1530) rfl rfl rfl ?_
    refine x_icmp (a' := 1535) (pc' := 1533) (z := true) rfl rfl rfl (by decide) (fun _ => ?_) (fun h => by cases h)
    refine x_iload (pc' := 1537) rfl rfl rfl ?_
    refine x_if (a' := 1552) (pc' := 1540) (z := true) rfl rfl rfl (by decide) (fun _ => ?_) (fun h => by cases h)
    refine x_goto (pc' := 2938) rfl rfl ?_
    refine x_iinc (pc' := 2941) (y := 7) (ls' := [_, _, _, _, _, _, _]) rfl rfl rfl rfl rfl ?_
    refine x_goto (pc' := 23) rfl rfl ?_
    refine x_iload (pc' := 25) rfl rfl rfl ?_
    refine x_aload_n (pc' := 26) rfl rfl rfl rfl rfl ?_
    refine x_alen (pc' := 27) (N := 7) rfl rfl rfl (Eq.trans rdNI (Eq.trans rdNthr (z_N_29_0 e))) (?_ : X _ _ _ (.inl 7 :: _) _ _)
    refine x_bipush (pc' := 29) rfl rfl ?_
    refine x_isub (pc' := 30) (z := 0) rfl rfl (by decide) ?_
    refine x_icmp (a' := 2944) (pc' := 33) (z := true) rfl rfl rfl (by decide) (fun _ => ?_) (fun h => by cases h)
    refine x_iconst (pc' := 2945) rfl rfl ?_
    refine x_retz (z := true) rfl rfl ?_
    exact Qp_ok e (p := 1) (q := 6) rfl rfl rfl rfl
  · refine x_iload_n (pc' := 6) rfl rfl rfl ?_
    refine x_iload_n (pc' := 7) rfl rfl rfl ?_
    refine x_icmp_n (a' := 21) (pc' := 10) (z := decide (1000000 < (xs 2))) rfl rfl rfl (ik_le _ _) (fun q16 => ?_) (fun q16 => ?_)
    · refine x_ret rfl ?_
      refine sK_v (pc' := 14) rfl ?_
      refine x_aload_n (pc' := 15) rfl rfl rfl rfl rfl ?_
      refine x_gZ (pc' := 18) (z := false) rfl rfl rfl (z_Z_458_3 e) ?_
      refine x_if (a' := 25) (pc' := 21) (z := false) rfl rfl rfl (by decide) (fun h => by cases h) (fun _ => ?_)
      refine x_iconst (pc' := 22) rfl rfl ?_
      refine x_goto (pc' := 26) rfl rfl ?_
      refine x_cs (ls0 := [_]) (rest := []) rfl rfl rfl rfl ?_
      refine x_iload_n (pc' := 1) rfl rfl rfl ?_
      refine x_if (a' := 15) (pc' := 4) (z := true) rfl rfl rfl (by decide) (fun _ => ?_) (fun h => by cases h)
      refine x_ret rfl ?_
      refine sK_v (pc' := 29) rfl ?_
      refine x_aload_n (pc' := 30) rfl rfl rfl rfl rfl ?_
      refine x_iconst (pc' := 31) rfl rfl ?_
      refine x_pZ (pc' := 34) (z := true) rfl rfl rfl rfl ?_
      refine x_aload_n (pc' := 35) rfl rfl rfl rfl rfl ?_
      refine x_iload_n (pc' := 36) rfl rfl rfl ?_
      refine x_pI (pc' := 39) rfl rfl rfl ?_
      refine x_aload_n (pc' := 40) rfl rfl rfl rfl rfl ?_
      refine x_gR (pc' := 43) (r := (some 0)) rfl rfl rfl (Eq.trans rdRI (Eq.trans rdRZ (z_R_704_0 e))) ?_
      refine x_cv (ls0 := [_, sJk, sJk, sJk, sJk, sJk]) (rest := []) rfl rfl rfl rfl rfl ?_
      refine x_iconst (pc' := 1) rfl rfl ?_
      refine x_istore_n (pc' := 2) (ls' := [_, _, _, _, _, _]) rfl rfl rfl rfl ?_
      refine x_aload_n (pc' := 3) rfl rfl rfl rfl rfl ?_
      refine x_gR (pc' := 6) (r := (some 0)) rfl rfl rfl (Eq.trans rdRI (Eq.trans rdRZ (z_R_321_0 e))) ?_
      refine x_astore_n (pc' := 7) (ls' := [_, _, _, _, _, _]) rfl rfl rfl rfl rfl ?_
      refine x_aload_n (pc' := 8) rfl rfl rfl rfl rfl ?_
      refine x_alen (pc' := 9) (N := 6) rfl rfl rfl (Eq.trans rdNI (Eq.trans rdNZ (z_N_26_0 e))) (?_ : X _ _ _ (.inl 6 :: _) _ _)
      refine x_istore_n (pc' := 10) (ls' := [_, _, _, _, _, _]) rfl rfl rfl rfl ?_
      refine x_iconst (pc' := 11) rfl rfl ?_
      refine x_istore (pc' := 13) (ls' := [_, _, _, _, _, _]) rfl rfl rfl rfl ?_
      refine x_iload (pc' := 15) rfl rfl rfl ?_
      refine x_iload_n (pc' := 16) rfl rfl rfl ?_
      refine x_icmp (a' := 47) (pc' := 19) (z := false) rfl rfl rfl (by decide) (fun h => by cases h) (fun _ => ?_)
      refine x_aload_n (pc' := 20) rfl rfl rfl rfl rfl ?_
      refine x_iload (pc' := 22) rfl rfl rfl ?_
      refine x_aald (pc' := 23) (N := 6) (k' := 7) (r := (some 0)) rfl rfl rfl (Eq.trans rdNI (Eq.trans rdNZ (z_N_26_0 e))) (io_in (p := 0) (N := 6) (by decide) (by decide)) (Eq.trans (congrArg (sE (sIw (sZw t 457 3 true) 456 3 (xs 2)) 26 0) (nn_io (p := 0) (by decide))) (Eq.trans rdEI (Eq.trans rdEZ (z_E_26_0_0 e)))) ?_
      refine x_astore (pc' := 25) (ls' := [_, _, _, _, _, _]) rfl rfl rfl rfl rfl ?_
      refine x_iload_n (pc' := 26) rfl rfl rfl ?_
      refine x_aload (pc' := 28) rfl rfl rfl rfl rfl ?_
      refine x_gZ (pc' := 31) (z := false) rfl rfl rfl (Eq.trans rdZI (Eq.trans (rdZ_o rfl) (z_Z_457_0 e))) ?_
      refine x_if (a' := 38) (pc' := 34) (z := true) rfl rfl rfl (by decide) (fun _ => ?_) (fun h => by cases h)
      refine x_iconst (pc' := 39) rfl rfl ?_
      refine x_iadd (pc' := 40) (z := 0) rfl rfl (by decide) ?_
      refine x_istore_n (pc' := 41) (ls' := [_, _, _, _, _, _]) rfl rfl rfl rfl ?_
      refine x_iinc (pc' := 44) (y := 1) (ls' := [_, _, _, _, _, _]) rfl rfl rfl rfl rfl ?_
      refine x_goto (pc' := 13) rfl rfl ?_
      refine x_iload (pc' := 15) rfl rfl rfl ?_
      refine x_iload_n (pc' := 16) rfl rfl rfl ?_
      refine x_icmp (a' := 47) (pc' := 19) (z := false) rfl rfl rfl (by decide) (fun h => by cases h) (fun _ => ?_)
      refine x_aload_n (pc' := 20) rfl rfl rfl rfl rfl ?_
      refine x_iload (pc' := 22) rfl rfl rfl ?_
      refine x_aald (pc' := 23) (N := 6) (k' := 7) (r := (some 1)) rfl rfl rfl (Eq.trans rdNI (Eq.trans rdNZ (z_N_26_0 e))) (io_in (p := 1) (N := 6) (by decide) (by decide)) (Eq.trans (congrArg (sE (sIw (sZw t 457 3 true) 456 3 (xs 2)) 26 0) (nn_io (p := 1) (by decide))) (Eq.trans rdEI (Eq.trans rdEZ (z_E_26_0_1 e)))) ?_
      refine x_astore (pc' := 25) (ls' := [_, _, _, _, _, _]) rfl rfl rfl rfl rfl ?_
      refine x_iload_n (pc' := 26) rfl rfl rfl ?_
      refine x_aload (pc' := 28) rfl rfl rfl rfl rfl ?_
      refine x_gZ (pc' := 31) (z := false) rfl rfl rfl (Eq.trans rdZI (Eq.trans (rdZ_o rfl) (z_Z_457_1 e))) ?_
      refine x_if (a' := 38) (pc' := 34) (z := true) rfl rfl rfl (by decide) (fun _ => ?_) (fun h => by cases h)
      refine x_iconst (pc' := 39) rfl rfl ?_
      refine x_iadd (pc' := 40) (z := 0) rfl rfl (by decide) ?_
      refine x_istore_n (pc' := 41) (ls' := [_, _, _, _, _, _]) rfl rfl rfl rfl ?_
      refine x_iinc (pc' := 44) (y := 2) (ls' := [_, _, _, _, _, _]) rfl rfl rfl rfl rfl ?_
      refine x_goto (pc' := 13) rfl rfl ?_
      refine x_iload (pc' := 15) rfl rfl rfl ?_
      refine x_iload_n (pc' := 16) rfl rfl rfl ?_
      refine x_icmp (a' := 47) (pc' := 19) (z := false) rfl rfl rfl (by decide) (fun h => by cases h) (fun _ => ?_)
      refine x_aload_n (pc' := 20) rfl rfl rfl rfl rfl ?_
      refine x_iload (pc' := 22) rfl rfl rfl ?_
      refine x_aald (pc' := 23) (N := 6) (k' := 7) (r := (some 2)) rfl rfl rfl (Eq.trans rdNI (Eq.trans rdNZ (z_N_26_0 e))) (io_in (p := 2) (N := 6) (by decide) (by decide)) (Eq.trans (congrArg (sE (sIw (sZw t 457 3 true) 456 3 (xs 2)) 26 0) (nn_io (p := 2) (by decide))) (Eq.trans rdEI (Eq.trans rdEZ (z_E_26_0_2 e)))) ?_
      refine x_astore (pc' := 25) (ls' := [_, _, _, _, _, _]) rfl rfl rfl rfl rfl ?_
      refine x_iload_n (pc' := 26) rfl rfl rfl ?_
      refine x_aload (pc' := 28) rfl rfl rfl rfl rfl ?_
      refine x_gZ (pc' := 31) (z := false) rfl rfl rfl (Eq.trans rdZI (Eq.trans (rdZ_o rfl) (z_Z_457_2 e))) ?_
      refine x_if (a' := 38) (pc' := 34) (z := true) rfl rfl rfl (by decide) (fun _ => ?_) (fun h => by cases h)
      refine x_iconst (pc' := 39) rfl rfl ?_
      refine x_iadd (pc' := 40) (z := 0) rfl rfl (by decide) ?_
      refine x_istore_n (pc' := 41) (ls' := [_, _, _, _, _, _]) rfl rfl rfl rfl ?_
      refine x_iinc (pc' := 44) (y := 3) (ls' := [_, _, _, _, _, _]) rfl rfl rfl rfl rfl ?_
      refine x_goto (pc' := 13) rfl rfl ?_
      refine x_iload (pc' := 15) rfl rfl rfl ?_
      refine x_iload_n (pc' := 16) rfl rfl rfl ?_
      refine x_icmp (a' := 47) (pc' := 19) (z := false) rfl rfl rfl (by decide) (fun h => by cases h) (fun _ => ?_)
      refine x_aload_n (pc' := 20) rfl rfl rfl rfl rfl ?_
      refine x_iload (pc' := 22) rfl rfl rfl ?_
      refine x_aald (pc' := 23) (N := 6) (k' := 7) (r := (some 3)) rfl rfl rfl (Eq.trans rdNI (Eq.trans rdNZ (z_N_26_0 e))) (io_in (p := 3) (N := 6) (by decide) (by decide)) (Eq.trans (congrArg (sE (sIw (sZw t 457 3 true) 456 3 (xs 2)) 26 0) (nn_io (p := 3) (by decide))) (Eq.trans rdEI (Eq.trans rdEZ (z_E_26_0_3 e)))) ?_
      refine x_astore (pc' := 25) (ls' := [_, _, _, _, _, _]) rfl rfl rfl rfl rfl ?_
      refine x_iload_n (pc' := 26) rfl rfl rfl ?_
      refine x_aload (pc' := 28) rfl rfl rfl rfl rfl ?_
      refine x_gZ (pc' := 31) (z := true) rfl rfl rfl (Eq.trans rdZI sZ_s) ?_
      refine x_if (a' := 38) (pc' := 34) (z := false) rfl rfl rfl (by decide) (fun h => by cases h) (fun _ => ?_)
      refine x_iconst (pc' := 35) rfl rfl ?_
      refine x_goto (pc' := 39) rfl rfl ?_
      refine x_iadd (pc' := 40) (z := 1) rfl rfl (by decide) ?_
      refine x_istore_n (pc' := 41) (ls' := [_, _, _, _, _, _]) rfl rfl rfl rfl ?_
      refine x_iinc (pc' := 44) (y := 4) (ls' := [_, _, _, _, _, _]) rfl rfl rfl rfl rfl ?_
      refine x_goto (pc' := 13) rfl rfl ?_
      refine x_iload (pc' := 15) rfl rfl rfl ?_
      refine x_iload_n (pc' := 16) rfl rfl rfl ?_
      refine x_icmp (a' := 47) (pc' := 19) (z := false) rfl rfl rfl (by decide) (fun h => by cases h) (fun _ => ?_)
      refine x_aload_n (pc' := 20) rfl rfl rfl rfl rfl ?_
      refine x_iload (pc' := 22) rfl rfl rfl ?_
      refine x_aald (pc' := 23) (N := 6) (k' := 7) (r := (some 4)) rfl rfl rfl (Eq.trans rdNI (Eq.trans rdNZ (z_N_26_0 e))) (io_in (p := 4) (N := 6) (by decide) (by decide)) (Eq.trans (congrArg (sE (sIw (sZw t 457 3 true) 456 3 (xs 2)) 26 0) (nn_io (p := 4) (by decide))) (Eq.trans rdEI (Eq.trans rdEZ (z_E_26_0_4 e)))) ?_
      refine x_astore (pc' := 25) (ls' := [_, _, _, _, _, _]) rfl rfl rfl rfl rfl ?_
      refine x_iload_n (pc' := 26) rfl rfl rfl ?_
      refine x_aload (pc' := 28) rfl rfl rfl rfl rfl ?_
      refine x_gZ (pc' := 31) (z := false) rfl rfl rfl (Eq.trans rdZI (Eq.trans (rdZ_o rfl) (z_Z_457_4 e))) ?_
      refine x_if (a' := 38) (pc' := 34) (z := true) rfl rfl rfl (by decide) (fun _ => ?_) (fun h => by cases h)
      refine x_iconst (pc' := 39) rfl rfl ?_
      refine x_iadd (pc' := 40) (z := 1) rfl rfl (by decide) ?_
      refine x_istore_n (pc' := 41) (ls' := [_, _, _, _, _, _]) rfl rfl rfl rfl ?_
      refine x_iinc (pc' := 44) (y := 5) (ls' := [_, _, _, _, _, _]) rfl rfl rfl rfl rfl ?_
      refine x_goto (pc' := 13) rfl rfl ?_
      refine x_iload (pc' := 15) rfl rfl rfl ?_
      refine x_iload_n (pc' := 16) rfl rfl rfl ?_
      refine x_icmp (a' := 47) (pc' := 19) (z := false) rfl rfl rfl (by decide) (fun h => by cases h) (fun _ => ?_)
      refine x_aload_n (pc' := 20) rfl rfl rfl rfl rfl ?_
      refine x_iload (pc' := 22) rfl rfl rfl ?_
      refine x_aald (pc' := 23) (N := 6) (k' := 7) (r := (some 5)) rfl rfl rfl (Eq.trans rdNI (Eq.trans rdNZ (z_N_26_0 e))) (io_in (p := 5) (N := 6) (by decide) (by decide)) (Eq.trans (congrArg (sE (sIw (sZw t 457 3 true) 456 3 (xs 2)) 26 0) (nn_io (p := 5) (by decide))) (Eq.trans rdEI (Eq.trans rdEZ (z_E_26_0_5 e)))) ?_
      refine x_astore (pc' := 25) (ls' := [_, _, _, _, _, _]) rfl rfl rfl rfl rfl ?_
      refine x_iload_n (pc' := 26) rfl rfl rfl ?_
      refine x_aload (pc' := 28) rfl rfl rfl rfl rfl ?_
      refine x_gZ (pc' := 31) (z := false) rfl rfl rfl (Eq.trans rdZI (Eq.trans (rdZ_o rfl) (z_Z_457_5 e))) ?_
      refine x_if (a' := 38) (pc' := 34) (z := true) rfl rfl rfl (by decide) (fun _ => ?_) (fun h => by cases h)
      refine x_iconst (pc' := 39) rfl rfl ?_
      refine x_iadd (pc' := 40) (z := 1) rfl rfl (by decide) ?_
      refine x_istore_n (pc' := 41) (ls' := [_, _, _, _, _, _]) rfl rfl rfl rfl ?_
      refine x_iinc (pc' := 44) (y := 6) (ls' := [_, _, _, _, _, _]) rfl rfl rfl rfl rfl ?_
      refine x_goto (pc' := 13) rfl rfl ?_
      refine x_iload (pc' := 15) rfl rfl rfl ?_
      refine x_iload_n (pc' := 16) rfl rfl rfl ?_
      refine x_icmp (a' := 47) (pc' := 19) (z := true) rfl rfl rfl (by decide) (fun _ => ?_) (fun h => by cases h)
      refine x_iload_n (pc' := 48) rfl rfl rfl ?_
      refine x_reti rfl rfl ?_
      refine sK_i (pc' := 46) rfl ?_
      refine x_reti rfl rfl ?_
      refine sK_i (pc' := 8) rfl ?_
      refine x_i2l (pc' := 9) (z := (1 : Int64)) rfl rfl (by decide) ?_
      refine x_last (pc' := 10) (N := 1) (p := 0) rfl rfl (Eq.trans rdNI (Eq.trans rdNZ (z_N_23_0 e))) (io_in (p := 0) (N := 1) (by decide) (by decide)) (nn_io (p := 0) (by decide)) ?_
      refine x_goto (pc' := 25) rfl rfl ?_
      refine x_iconst (pc' := 26) rfl rfl ?_
      refine x_reti rfl rfl ?_
      refine sK_i (pc' := 1504) rfl ?_
      refine x_istore (pc' := 1506) (ls' := [_, _, _, _, _, _, _]) rfl rfl rfl rfl ?_
      refine x_aload_n (pc' := 1507) rfl rfl rfl rfl rfl ?_
      refine x_aload_n (pc' := 1508) rfl rfl rfl rfl rfl ?_
      refine x_iload (pc' := 1510) rfl rfl rfl ?_
      refine x_iconst (pc' := 1511) rfl rfl ?_
      refine x_iadd (pc' := 1512) (z := 1) rfl rfl (by decide) ?_
      refine x_iald (pc' := 1513) (N := 7) (x := 3) rfl rfl rfl (Eq.trans rdNL (Eq.trans rdNI (Eq.trans rdNZ (z_N_29_0 e)))) (io_in (p := 1) (N := 7) (by decide) (by decide)) (Eq.trans (congrArg (sA (sLw (sIw (sZw t 457 3 true) 456 3 (xs 2)) 23 0 0 (1 : Int64)) 29 0) (nn_io (p := 1) (by decide))) (Eq.trans rdAL (Eq.trans rdAI (Eq.trans rdAZ (Eq.trans (z_A_29_0_1 e) e0))))) ?_
      refine x_aload_n (pc' := 1514) rfl rfl rfl rfl rfl ?_
      refine x_iload (pc' := 1516) rfl rfl rfl ?_
      refine x_iconst (pc' := 1517) rfl rfl ?_
      refine x_iadd (pc' := 1518) (z := 2) rfl rfl (by decide) ?_
      refine x_iald (pc' := 1519) (N := 7) (x := (xs 2)) rfl rfl rfl (Eq.trans rdNL (Eq.trans rdNI (Eq.trans rdNZ (z_N_29_0 e)))) (io_in (p := 2) (N := 7) (by decide) (by decide)) (Eq.trans (congrArg (sA (sLw (sIw (sZw t 457 3 true) 456 3 (xs 2)) 23 0 0 (1 : Int64)) 29 0) (nn_io (p := 2) (by decide))) (Eq.trans rdAL (Eq.trans rdAI (Eq.trans rdAZ (z_A_29_0_2 e))))) ?_
      refine x_cv (ls0 := [_, _, _, sJk, sJk, sJk]) (rest := []) rfl rfl rfl rfl rfl ?_
      refine x_iload_n (pc' := 1) rfl rfl rfl ?_
      refine x_cs (ls0 := [_]) (rest := []) rfl rfl rfl rfl ?_
      refine x_iload_n (pc' := 1) rfl rfl rfl ?_
      refine x_iconst (pc' := 2) rfl rfl ?_
      refine x_iconst (pc' := 3) rfl rfl ?_
      refine x_cs (ls0 := [_, _, _]) (rest := []) rfl rfl rfl rfl ?_
      refine x_iload_n (pc' := 1) rfl rfl rfl ?_
      refine x_iload_n (pc' := 2) rfl rfl rfl ?_
      refine x_icmp (a' := 14) (pc' := 5) (z := false) rfl rfl rfl (by decide) (fun h => by cases h) (fun _ => ?_)
      refine x_iload_n (pc' := 6) rfl rfl rfl ?_
      refine x_iload_n (pc' := 7) rfl rfl rfl ?_
      refine x_icmp (a' := 14) (pc' := 10) (z := false) rfl rfl rfl (by decide) (fun h => by cases h) (fun _ => ?_)
      refine x_iconst (pc' := 11) rfl rfl ?_
      refine x_goto (pc' := 15) rfl rfl ?_
      refine x_retz (z := true) rfl rfl ?_
      refine sK_i (pc' := 6) rfl ?_
      refine x_retz (z := true) rfl rfl ?_
      refine sK_i (pc' := 4) rfl ?_
      refine x_istore_n (pc' := 5) (ls' := [_, _, _, _, _, _]) rfl rfl rfl rfl ?_
      refine x_aload_n (pc' := 6) rfl rfl rfl rfl rfl ?_
      refine x_iload_n (pc' := 7) rfl rfl rfl ?_
      refine x_if (a' := 14) (pc' := 10) (z := true) rfl rfl rfl (by decide) (fun _ => ?_) (fun h => by cases h)
      refine x_iload_n (pc' := 15) rfl rfl rfl ?_
      refine x_ldc_w (pc' := 18) rfl rfl ?_
      refine x_ldc_w (pc' := 21) rfl rfl ?_
      refine x_cs (ls0 := [_, _, _]) (rest := [_]) rfl rfl rfl rfl ?_
      refine x_iload_n (pc' := 1) rfl rfl rfl ?_
      refine x_iload_n (pc' := 2) rfl rfl rfl ?_
      refine x_icmp (a' := 14) (pc' := 5) (z := decide ((xs 2) < (-1000000))) rfl rfl rfl rfl (fun h => absurd (of_decide_eq_true h) (of_decide_eq_false q5)) (fun _ => ?_)
      refine x_iload_n (pc' := 6) rfl rfl rfl ?_
      refine x_iload_n (pc' := 7) rfl rfl rfl ?_
      refine x_icmp (a' := 14) (pc' := 10) (z := decide (1000000 < (xs 2))) rfl rfl rfl rfl (fun h => absurd (of_decide_eq_true h) (of_decide_eq_false q16)) (fun _ => ?_)
      refine x_iconst (pc' := 11) rfl rfl ?_
      refine x_goto (pc' := 15) rfl rfl ?_
      refine x_retz (z := true) rfl rfl ?_
      refine sK_i (pc' := 24) rfl ?_
      refine x_if (a' := 31) (pc' := 27) (z := true) rfl rfl rfl (by decide) (fun _ => ?_) (fun h => by cases h)
      refine x_aload_n (pc' := 32) rfl rfl rfl rfl rfl ?_
      refine x_gR (pc' := 35) (r := (some 2)) rfl rfl rfl (Eq.trans rdRL (Eq.trans rdRI (Eq.trans rdRZ (z_R_781_0 e)))) ?_
      refine x_iload_n (pc' := 36) rfl rfl rfl ?_
      refine x_bald (pc' := 37) (N := 6) (z := false) rfl rfl (Eq.trans rdNL (Eq.trans rdNI (Eq.trans rdNZ (z_N_22_2 e)))) (io_in (p := 3) (N := 6) (by decide) (by decide)) (Eq.trans (congrArg (sB (sLw (sIw (sZw t 457 3 true) 456 3 (xs 2)) 23 0 0 (1 : Int64)) 22 2) (nn_io (p := 3) (by decide))) (Eq.trans rdBL (Eq.trans rdBI (Eq.trans rdBZ (z_B_22_2_3 e))))) ?_
      refine x_if (a' := 44) (pc' := 40) (z := true) rfl rfl rfl (by decide) (fun _ => ?_) (fun h => by cases h)
      refine x_iconst (pc' := 45) rfl rfl ?_
      refine x_cv (ls0 := [_, _]) (rest := []) rfl rfl rfl rfl rfl ?_
      refine x_aload_n (pc' := 1) rfl rfl rfl rfl rfl ?_
      refine x_iload_n (pc' := 2) rfl rfl rfl ?_
      refine x_pI (pc' := 5) rfl rfl rfl ?_
      refine x_iload_n (pc' := 6) rfl rfl rfl ?_
      refine x_if (a' := 13) (pc' := 9) (z := false) rfl rfl rfl (by decide) (fun h => by cases h) (fun _ => ?_)
      refine x_iconst (pc' := 10) rfl rfl ?_
      refine x_goto (pc' := 14) rfl rfl ?_
      refine x_retz (z := true) rfl rfl ?_
      refine sK_i (pc' := 48) rfl ?_
      refine x_if (a' := 53) (pc' := 51) (z := true) rfl rfl rfl (by decide) (fun _ => ?_) (fun h => by cases h)
      refine x_aload_n (pc' := 54) rfl rfl rfl rfl rfl ?_
      refine x_gR (pc' := 57) (r := (some 9)) rfl rfl rfl (Eq.trans rdRI (Eq.trans rdRL (Eq.trans rdRI (Eq.trans rdRZ (z_R_779_0 e))))) ?_
      refine x_iload_n (pc' := 58) rfl rfl rfl ?_
      refine x_iload_n (pc' := 59) rfl rfl rfl ?_
      refine x_iast (pc' := 60) (N := 6) (p := 3) rfl rfl rfl (Eq.trans rdNI (Eq.trans rdNL (Eq.trans rdNI (Eq.trans rdNZ (z_N_21_9 e))))) (io_in (p := 3) (N := 6) (by decide) (by decide)) (nn_io (p := 3) (by decide)) ?_
      refine x_aload_n (pc' := 61) rfl rfl rfl rfl rfl ?_
      refine x_gR (pc' := 64) (r := (some 1)) rfl rfl rfl (Eq.trans rdRA (Eq.trans rdRI (Eq.trans rdRL (Eq.trans rdRI (Eq.trans rdRZ (z_R_780_0 e)))))) ?_
      refine x_iload_n (pc' := 65) rfl rfl rfl ?_
      refine x_iconst (pc' := 66) rfl rfl ?_
      refine x_bast (pc' := 67) (N := 6) (p := 3) (z := true) rfl rfl (Eq.trans rdNA (Eq.trans rdNI (Eq.trans rdNL (Eq.trans rdNI (Eq.trans rdNZ (z_N_22_1 e)))))) (io_in (p := 3) (N := 6) (by decide) (by decide)) (nn_io (p := 3) (by decide)) rfl ?_
      refine x_iconst (pc' := 68) rfl rfl ?_
      refine x_istore (pc' := 70) (ls' := [_, _, _, _, _, _]) rfl rfl rfl rfl ?_
      refine x_iconst (pc' := 71) rfl rfl ?_
      refine x_istore (pc' := 73) (ls' := [_, _, _, _, _, _]) rfl rfl rfl rfl ?_
      refine x_iload (pc' := 75) rfl rfl rfl ?_
      refine x_bipush (pc' := 77) rfl rfl ?_
      refine x_icmp (a' := 106) (pc' := 80) (z := false) rfl rfl rfl (by decide) (fun h => by cases h) (fun _ => ?_)
      refine x_iload (pc' := 82) rfl rfl rfl ?_
      refine x_aload_n (pc' := 83) rfl rfl rfl rfl rfl ?_
      refine x_gR (pc' := 86) (r := (some 1)) rfl rfl rfl (Eq.trans rdRB (Eq.trans rdRA (Eq.trans rdRI (Eq.trans rdRL (Eq.trans rdRI (Eq.trans rdRZ (z_R_780_0 e))))))) ?_
      refine x_iload (pc' := 88) rfl rfl rfl ?_
      refine x_bald (pc' := 89) (N := 6) (z := false) rfl rfl (Eq.trans rdNB (Eq.trans rdNA (Eq.trans rdNI (Eq.trans rdNL (Eq.trans rdNI (Eq.trans rdNZ (z_N_22_1 e))))))) (io_in (p := 0) (N := 6) (by decide) (by decide)) (Eq.trans (congrArg (sB (sBw (sAw (sIw (sLw (sIw (sZw t 457 3 true) 456 3 (xs 2)) 23 0 0 (1 : Int64)) 768 0 0) 21 9 3 (xs 2)) 22 1 3 true) 22 1) (nn_io (p := 0) (by decide))) (Eq.trans (rdB_p rfl) (Eq.trans rdBA (Eq.trans rdBI (Eq.trans rdBL (Eq.trans rdBI (Eq.trans rdBZ (z_B_22_1_0 e)))))))) ?_
      refine x_if (a' := 96) (pc' := 92) (z := true) rfl rfl rfl (by decide) (fun _ => ?_) (fun h => by cases h)
      refine x_iconst (pc' := 97) rfl rfl ?_
      refine x_iadd (pc' := 98) (z := 0) rfl rfl (by decide) ?_
      refine x_istore (pc' := 100) (ls' := [_, _, _, _, _, _]) rfl rfl rfl rfl ?_
      refine x_iinc (pc' := 103) (y := 1) (ls' := [_, _, _, _, _, _]) rfl rfl rfl rfl rfl ?_
      refine x_goto (pc' := 73) rfl rfl ?_
      refine x_iload (pc' := 75) rfl rfl rfl ?_
      refine x_bipush (pc' := 77) rfl rfl ?_
      refine x_icmp (a' := 106) (pc' := 80) (z := false) rfl rfl rfl (by decide) (fun h => by cases h) (fun _ => ?_)
      refine x_iload (pc' := 82) rfl rfl rfl ?_
      refine x_aload_n (pc' := 83) rfl rfl rfl rfl rfl ?_
      refine x_gR (pc' := 86) (r := (some 1)) rfl rfl rfl (Eq.trans rdRB (Eq.trans rdRA (Eq.trans rdRI (Eq.trans rdRL (Eq.trans rdRI (Eq.trans rdRZ (z_R_780_0 e))))))) ?_
      refine x_iload (pc' := 88) rfl rfl rfl ?_
      refine x_bald (pc' := 89) (N := 6) (z := false) rfl rfl (Eq.trans rdNB (Eq.trans rdNA (Eq.trans rdNI (Eq.trans rdNL (Eq.trans rdNI (Eq.trans rdNZ (z_N_22_1 e))))))) (io_in (p := 1) (N := 6) (by decide) (by decide)) (Eq.trans (congrArg (sB (sBw (sAw (sIw (sLw (sIw (sZw t 457 3 true) 456 3 (xs 2)) 23 0 0 (1 : Int64)) 768 0 0) 21 9 3 (xs 2)) 22 1 3 true) 22 1) (nn_io (p := 1) (by decide))) (Eq.trans (rdB_p rfl) (Eq.trans rdBA (Eq.trans rdBI (Eq.trans rdBL (Eq.trans rdBI (Eq.trans rdBZ (z_B_22_1_1 e)))))))) ?_
      refine x_if (a' := 96) (pc' := 92) (z := true) rfl rfl rfl (by decide) (fun _ => ?_) (fun h => by cases h)
      refine x_iconst (pc' := 97) rfl rfl ?_
      refine x_iadd (pc' := 98) (z := 0) rfl rfl (by decide) ?_
      refine x_istore (pc' := 100) (ls' := [_, _, _, _, _, _]) rfl rfl rfl rfl ?_
      refine x_iinc (pc' := 103) (y := 2) (ls' := [_, _, _, _, _, _]) rfl rfl rfl rfl rfl ?_
      refine x_goto (pc' := 73) rfl rfl ?_
      refine x_iload (pc' := 75) rfl rfl rfl ?_
      refine x_bipush (pc' := 77) rfl rfl ?_
      refine x_icmp (a' := 106) (pc' := 80) (z := false) rfl rfl rfl (by decide) (fun h => by cases h) (fun _ => ?_)
      refine x_iload (pc' := 82) rfl rfl rfl ?_
      refine x_aload_n (pc' := 83) rfl rfl rfl rfl rfl ?_
      refine x_gR (pc' := 86) (r := (some 1)) rfl rfl rfl (Eq.trans rdRB (Eq.trans rdRA (Eq.trans rdRI (Eq.trans rdRL (Eq.trans rdRI (Eq.trans rdRZ (z_R_780_0 e))))))) ?_
      refine x_iload (pc' := 88) rfl rfl rfl ?_
      refine x_bald (pc' := 89) (N := 6) (z := false) rfl rfl (Eq.trans rdNB (Eq.trans rdNA (Eq.trans rdNI (Eq.trans rdNL (Eq.trans rdNI (Eq.trans rdNZ (z_N_22_1 e))))))) (io_in (p := 2) (N := 6) (by decide) (by decide)) (Eq.trans (congrArg (sB (sBw (sAw (sIw (sLw (sIw (sZw t 457 3 true) 456 3 (xs 2)) 23 0 0 (1 : Int64)) 768 0 0) 21 9 3 (xs 2)) 22 1 3 true) 22 1) (nn_io (p := 2) (by decide))) (Eq.trans (rdB_p rfl) (Eq.trans rdBA (Eq.trans rdBI (Eq.trans rdBL (Eq.trans rdBI (Eq.trans rdBZ (z_B_22_1_2 e)))))))) ?_
      refine x_if (a' := 96) (pc' := 92) (z := true) rfl rfl rfl (by decide) (fun _ => ?_) (fun h => by cases h)
      refine x_iconst (pc' := 97) rfl rfl ?_
      refine x_iadd (pc' := 98) (z := 0) rfl rfl (by decide) ?_
      refine x_istore (pc' := 100) (ls' := [_, _, _, _, _, _]) rfl rfl rfl rfl ?_
      refine x_iinc (pc' := 103) (y := 3) (ls' := [_, _, _, _, _, _]) rfl rfl rfl rfl rfl ?_
      refine x_goto (pc' := 73) rfl rfl ?_
      refine x_iload (pc' := 75) rfl rfl rfl ?_
      refine x_bipush (pc' := 77) rfl rfl ?_
      refine x_icmp (a' := 106) (pc' := 80) (z := false) rfl rfl rfl (by decide) (fun h => by cases h) (fun _ => ?_)
      refine x_iload (pc' := 82) rfl rfl rfl ?_
      refine x_aload_n (pc' := 83) rfl rfl rfl rfl rfl ?_
      refine x_gR (pc' := 86) (r := (some 1)) rfl rfl rfl (Eq.trans rdRB (Eq.trans rdRA (Eq.trans rdRI (Eq.trans rdRL (Eq.trans rdRI (Eq.trans rdRZ (z_R_780_0 e))))))) ?_
      refine x_iload (pc' := 88) rfl rfl rfl ?_
      refine x_bald (pc' := 89) (N := 6) (z := true) rfl rfl (Eq.trans rdNB (Eq.trans rdNA (Eq.trans rdNI (Eq.trans rdNL (Eq.trans rdNI (Eq.trans rdNZ (z_N_22_1 e))))))) (io_in (p := 3) (N := 6) (by decide) (by decide)) (Eq.trans (congrArg (sB (sBw (sAw (sIw (sLw (sIw (sZw t 457 3 true) 456 3 (xs 2)) 23 0 0 (1 : Int64)) 768 0 0) 21 9 3 (xs 2)) 22 1 3 true) 22 1) (nn_io (p := 3) (by decide))) sB_s) ?_
      refine x_if (a' := 96) (pc' := 92) (z := false) rfl rfl rfl (by decide) (fun h => by cases h) (fun _ => ?_)
      refine x_iconst (pc' := 93) rfl rfl ?_
      refine x_goto (pc' := 97) rfl rfl ?_
      refine x_iadd (pc' := 98) (z := 1) rfl rfl (by decide) ?_
      refine x_istore (pc' := 100) (ls' := [_, _, _, _, _, _]) rfl rfl rfl rfl ?_
      refine x_iinc (pc' := 103) (y := 4) (ls' := [_, _, _, _, _, _]) rfl rfl rfl rfl rfl ?_
      refine x_goto (pc' := 73) rfl rfl ?_
      refine x_iload (pc' := 75) rfl rfl rfl ?_
      refine x_bipush (pc' := 77) rfl rfl ?_
      refine x_icmp (a' := 106) (pc' := 80) (z := false) rfl rfl rfl (by decide) (fun h => by cases h) (fun _ => ?_)
      refine x_iload (pc' := 82) rfl rfl rfl ?_
      refine x_aload_n (pc' := 83) rfl rfl rfl rfl rfl ?_
      refine x_gR (pc' := 86) (r := (some 1)) rfl rfl rfl (Eq.trans rdRB (Eq.trans rdRA (Eq.trans rdRI (Eq.trans rdRL (Eq.trans rdRI (Eq.trans rdRZ (z_R_780_0 e))))))) ?_
      refine x_iload (pc' := 88) rfl rfl rfl ?_
      refine x_bald (pc' := 89) (N := 6) (z := false) rfl rfl (Eq.trans rdNB (Eq.trans rdNA (Eq.trans rdNI (Eq.trans rdNL (Eq.trans rdNI (Eq.trans rdNZ (z_N_22_1 e))))))) (io_in (p := 4) (N := 6) (by decide) (by decide)) (Eq.trans (congrArg (sB (sBw (sAw (sIw (sLw (sIw (sZw t 457 3 true) 456 3 (xs 2)) 23 0 0 (1 : Int64)) 768 0 0) 21 9 3 (xs 2)) 22 1 3 true) 22 1) (nn_io (p := 4) (by decide))) (Eq.trans (rdB_p rfl) (Eq.trans rdBA (Eq.trans rdBI (Eq.trans rdBL (Eq.trans rdBI (Eq.trans rdBZ (z_B_22_1_4 e)))))))) ?_
      refine x_if (a' := 96) (pc' := 92) (z := true) rfl rfl rfl (by decide) (fun _ => ?_) (fun h => by cases h)
      refine x_iconst (pc' := 97) rfl rfl ?_
      refine x_iadd (pc' := 98) (z := 1) rfl rfl (by decide) ?_
      refine x_istore (pc' := 100) (ls' := [_, _, _, _, _, _]) rfl rfl rfl rfl ?_
      refine x_iinc (pc' := 103) (y := 5) (ls' := [_, _, _, _, _, _]) rfl rfl rfl rfl rfl ?_
      refine x_goto (pc' := 73) rfl rfl ?_
      refine x_iload (pc' := 75) rfl rfl rfl ?_
      refine x_bipush (pc' := 77) rfl rfl ?_
      refine x_icmp (a' := 106) (pc' := 80) (z := false) rfl rfl rfl (by decide) (fun h => by cases h) (fun _ => ?_)
      refine x_iload (pc' := 82) rfl rfl rfl ?_
      refine x_aload_n (pc' := 83) rfl rfl rfl rfl rfl ?_
      refine x_gR (pc' := 86) (r := (some 1)) rfl rfl rfl (Eq.trans rdRB (Eq.trans rdRA (Eq.trans rdRI (Eq.trans rdRL (Eq.trans rdRI (Eq.trans rdRZ (z_R_780_0 e))))))) ?_
      refine x_iload (pc' := 88) rfl rfl rfl ?_
      refine x_bald (pc' := 89) (N := 6) (z := false) rfl rfl (Eq.trans rdNB (Eq.trans rdNA (Eq.trans rdNI (Eq.trans rdNL (Eq.trans rdNI (Eq.trans rdNZ (z_N_22_1 e))))))) (io_in (p := 5) (N := 6) (by decide) (by decide)) (Eq.trans (congrArg (sB (sBw (sAw (sIw (sLw (sIw (sZw t 457 3 true) 456 3 (xs 2)) 23 0 0 (1 : Int64)) 768 0 0) 21 9 3 (xs 2)) 22 1 3 true) 22 1) (nn_io (p := 5) (by decide))) (Eq.trans (rdB_p rfl) (Eq.trans rdBA (Eq.trans rdBI (Eq.trans rdBL (Eq.trans rdBI (Eq.trans rdBZ (z_B_22_1_5 e)))))))) ?_
      refine x_if (a' := 96) (pc' := 92) (z := true) rfl rfl rfl (by decide) (fun _ => ?_) (fun h => by cases h)
      refine x_iconst (pc' := 97) rfl rfl ?_
      refine x_iadd (pc' := 98) (z := 1) rfl rfl (by decide) ?_
      refine x_istore (pc' := 100) (ls' := [_, _, _, _, _, _]) rfl rfl rfl rfl ?_
      refine x_iinc (pc' := 103) (y := 6) (ls' := [_, _, _, _, _, _]) rfl rfl rfl rfl rfl ?_
      refine x_goto (pc' := 73) rfl rfl ?_
      refine x_iload (pc' := 75) rfl rfl rfl ?_
      refine x_bipush (pc' := 77) rfl rfl ?_
      refine x_icmp (a' := 106) (pc' := 80) (z := true) rfl rfl rfl (by decide) (fun _ => ?_) (fun h => by cases h)
      refine x_iload (pc' := 108) rfl rfl rfl ?_
      refine x_reti rfl rfl ?_
      refine sK_i (pc' := 1522) rfl ?_
      refine x_istore (pc' := 1524) (ls' := [_, _, _, _, _, _, _]) rfl rfl rfl rfl ?_
      refine x_aload_n (pc' := 1525) rfl rfl rfl rfl rfl ?_
      refine x_cv (ls0 := [_]) (rest := []) rfl rfl rfl rfl rfl ?_
      refine x_aload_n (pc' := 1) rfl rfl rfl rfl rfl ?_
      refine x_gI (pc' := 4) (x := 0) rfl rfl rfl (Eq.trans rdIB (Eq.trans rdIA sI_s)) ?_
      refine x_reti rfl rfl ?_
      refine sK_i (pc' := 1528) rfl ?_
      refine x_iload (pc' := 1530) rfl rfl rfl ?_
      refine x_icmp (a' := 1535) (pc' := 1533) (z := true) rfl rfl rfl (by decide) (fun _ => ?_) (fun h => by cases h)
      refine x_iload (pc' := 1537) rfl rfl rfl ?_
      refine x_if (a' := 1552) (pc' := 1540) (z := false) rfl rfl rfl (by decide) (fun h => by cases h) (fun _ => ?_)
      refine x_aload_n (pc' := 1541) rfl rfl rfl rfl rfl ?_
      refine x_iconst (pc' := 1542) rfl rfl ?_
      refine x_lald (pc' := 1543) (N := 1) (x := (1 : Int64)) rfl rfl (Eq.trans rdNB (Eq.trans rdNA (Eq.trans rdNI (Eq.trans rdNL (Eq.trans rdNI (Eq.trans rdNZ (z_N_23_0 e))))))) (io_in (p := 0) (N := 1) (by decide) (by decide)) (Eq.trans (congrArg (sL (sBw (sAw (sIw (sLw (sIw (sZw t 457 3 true) 456 3 (xs 2)) 23 0 0 (1 : Int64)) 768 0 0) 21 9 3 (xs 2)) 22 1 3 true) 23 0) (nn_io (p := 0) (by decide))) (Eq.trans rdLB (Eq.trans rdLA (Eq.trans rdLI sL_s)))) ?_
      refine x_iload (pc' := 1545) rfl rfl rfl ?_
      refine x_i2l (pc' := 1546) (z := (1 : Int64)) rfl rfl (by decide) ?_
      refine x_lcmp (pc' := 1547) (z := 0) rfl rfl (sLcmp_s _) ?_
      refine x_if (a' := 1552) (pc' := 1550) (z := true) rfl rfl rfl (by decide) (fun _ => ?_) (fun h => by cases h)
      refine x_goto (pc' := 2938) rfl rfl ?_
      refine x_iinc (pc' := 2941) (y := 7) (ls' := [_, _, _, _, _, _, _]) rfl rfl rfl rfl rfl ?_
      refine x_goto (pc' := 23) rfl rfl ?_
      refine x_iload (pc' := 25) rfl rfl rfl ?_
      refine x_aload_n (pc' := 26) rfl rfl rfl rfl rfl ?_
      refine x_alen (pc' := 27) (N := 7) rfl rfl rfl (Eq.trans rdNB (Eq.trans rdNA (Eq.trans rdNI (Eq.trans rdNL (Eq.trans rdNI (Eq.trans rdNZ (z_N_29_0 e))))))) (?_ : X _ _ _ (.inl 7 :: _) _ _)
      refine x_bipush (pc' := 29) rfl rfl ?_
      refine x_isub (pc' := 30) (z := 0) rfl rfl (by decide) ?_
      refine x_icmp (a' := 2944) (pc' := 33) (z := true) rfl rfl rfl (by decide) (fun _ => ?_) (fun h => by cases h)
      refine x_iconst (pc' := 2945) rfl rfl ?_
      refine x_retz (z := true) rfl rfl ?_
      exact Qp_ok e (p := 0) (q := 0) rfl rfl rfl rfl
    · refine x_throw rfl rfl ?_
      refine sK_n (by decide +kernel) rfl ?_
      refine sK_h (h := 17) (by decide +kernel) rfl ?_
      refine x_catch (pc' := 19) (ls' := [_, _, _, _, _]) rfl rfl rfl rfl ?_
      refine x_iconst (pc' := 20) rfl rfl ?_
      refine x_reti rfl rfl ?_
      refine sK_i (pc' := 1504) rfl ?_
      refine x_istore (pc' := 1506) (ls' := [_, _, _, _, _, _, _]) rfl rfl rfl rfl ?_
      refine x_aload_n (pc' := 1507) rfl rfl rfl rfl rfl ?_
      refine x_aload_n (pc' := 1508) rfl rfl rfl rfl rfl ?_
      refine x_iload (pc' := 1510) rfl rfl rfl ?_
      refine x_iconst (pc' := 1511) rfl rfl ?_
      refine x_iadd (pc' := 1512) (z := 1) rfl rfl (by decide) ?_
      refine x_iald (pc' := 1513) (N := 7) (x := 3) rfl rfl rfl (Eq.trans rdNthr (z_N_29_0 e)) (io_in (p := 1) (N := 7) (by decide) (by decide)) (Eq.trans (congrArg (sA (sThr t) 29 0) (nn_io (p := 1) (by decide))) (Eq.trans rdAthr (Eq.trans (z_A_29_0_1 e) e0))) ?_
      refine x_aload_n (pc' := 1514) rfl rfl rfl rfl rfl ?_
      refine x_iload (pc' := 1516) rfl rfl rfl ?_
      refine x_iconst (pc' := 1517) rfl rfl ?_
      refine x_iadd (pc' := 1518) (z := 2) rfl rfl (by decide) ?_
      refine x_iald (pc' := 1519) (N := 7) (x := (xs 2)) rfl rfl rfl (Eq.trans rdNthr (z_N_29_0 e)) (io_in (p := 2) (N := 7) (by decide) (by decide)) (Eq.trans (congrArg (sA (sThr t) 29 0) (nn_io (p := 2) (by decide))) (Eq.trans rdAthr (z_A_29_0_2 e))) ?_
      refine x_cv (ls0 := [_, _, _, sJk, sJk, sJk]) (rest := []) rfl rfl rfl rfl rfl ?_
      refine x_iload_n (pc' := 1) rfl rfl rfl ?_
      refine x_cs (ls0 := [_]) (rest := []) rfl rfl rfl rfl ?_
      refine x_iload_n (pc' := 1) rfl rfl rfl ?_
      refine x_iconst (pc' := 2) rfl rfl ?_
      refine x_iconst (pc' := 3) rfl rfl ?_
      refine x_cs (ls0 := [_, _, _]) (rest := []) rfl rfl rfl rfl ?_
      refine x_iload_n (pc' := 1) rfl rfl rfl ?_
      refine x_iload_n (pc' := 2) rfl rfl rfl ?_
      refine x_icmp (a' := 14) (pc' := 5) (z := false) rfl rfl rfl (by decide) (fun h => by cases h) (fun _ => ?_)
      refine x_iload_n (pc' := 6) rfl rfl rfl ?_
      refine x_iload_n (pc' := 7) rfl rfl rfl ?_
      refine x_icmp (a' := 14) (pc' := 10) (z := false) rfl rfl rfl (by decide) (fun h => by cases h) (fun _ => ?_)
      refine x_iconst (pc' := 11) rfl rfl ?_
      refine x_goto (pc' := 15) rfl rfl ?_
      refine x_retz (z := true) rfl rfl ?_
      refine sK_i (pc' := 6) rfl ?_
      refine x_retz (z := true) rfl rfl ?_
      refine sK_i (pc' := 4) rfl ?_
      refine x_istore_n (pc' := 5) (ls' := [_, _, _, _, _, _]) rfl rfl rfl rfl ?_
      refine x_aload_n (pc' := 6) rfl rfl rfl rfl rfl ?_
      refine x_iload_n (pc' := 7) rfl rfl rfl ?_
      refine x_if (a' := 14) (pc' := 10) (z := true) rfl rfl rfl (by decide) (fun _ => ?_) (fun h => by cases h)
      refine x_iload_n (pc' := 15) rfl rfl rfl ?_
      refine x_ldc_w (pc' := 18) rfl rfl ?_
      refine x_ldc_w (pc' := 21) rfl rfl ?_
      refine x_cs (ls0 := [_, _, _]) (rest := [_]) rfl rfl rfl rfl ?_
      refine x_iload_n (pc' := 1) rfl rfl rfl ?_
      refine x_iload_n (pc' := 2) rfl rfl rfl ?_
      refine x_icmp (a' := 14) (pc' := 5) (z := decide ((xs 2) < (-1000000))) rfl rfl rfl rfl (fun h => absurd (of_decide_eq_true h) (of_decide_eq_false q5)) (fun _ => ?_)
      refine x_iload_n (pc' := 6) rfl rfl rfl ?_
      refine x_iload_n (pc' := 7) rfl rfl rfl ?_
      refine x_icmp (a' := 14) (pc' := 10) (z := decide (1000000 < (xs 2))) rfl rfl rfl rfl (fun _ => ?_) (fun h => absurd (of_decide_eq_true q16) (of_decide_eq_false h))
      refine x_iconst (pc' := 15) rfl rfl ?_
      refine x_retz (z := false) rfl rfl ?_
      refine sK_i (pc' := 24) rfl ?_
      refine x_if (a' := 31) (pc' := 27) (z := false) rfl rfl rfl (by decide) (fun h => by cases h) (fun _ => ?_)
      refine x_iconst (pc' := 28) rfl rfl ?_
      refine x_goto (pc' := 45) rfl rfl ?_
      refine x_cv (ls0 := [_, _]) (rest := []) rfl rfl rfl rfl rfl ?_
      refine x_aload_n (pc' := 1) rfl rfl rfl rfl rfl ?_
      refine x_iload_n (pc' := 2) rfl rfl rfl ?_
      refine x_pI (pc' := 5) rfl rfl rfl ?_
      refine x_iload_n (pc' := 6) rfl rfl rfl ?_
      refine x_if (a' := 13) (pc' := 9) (z := true) rfl rfl rfl (by decide) (fun _ => ?_) (fun h => by cases h)
      refine x_iconst (pc' := 14) rfl rfl ?_
      refine x_retz (z := false) rfl rfl ?_
      refine sK_i (pc' := 48) rfl ?_
      refine x_if (a' := 53) (pc' := 51) (z := false) rfl rfl rfl (by decide) (fun h => by cases h) (fun _ => ?_)
      refine x_iconst (pc' := 52) rfl rfl ?_
      refine x_reti rfl rfl ?_
      refine sK_i (pc' := 1522) rfl ?_
      refine x_istore (pc' := 1524) (ls' := [_, _, _, _, _, _, _]) rfl rfl rfl rfl ?_
      refine x_aload_n (pc' := 1525) rfl rfl rfl rfl rfl ?_
      refine x_cv (ls0 := [_]) (rest := []) rfl rfl rfl rfl rfl ?_
      refine x_aload_n (pc' := 1) rfl rfl rfl rfl rfl ?_
      refine x_gI (pc' := 4) (x := 2) rfl rfl rfl sI_s ?_
      refine x_reti rfl rfl ?_
      refine sK_i (pc' := 1528) rfl ?_
      refine x_iload (pc' := 1530) rfl rfl rfl ?_
      refine x_icmp (a' := 1535) (pc' := 1533) (z := true) rfl rfl rfl (by decide) (fun _ => ?_) (fun h => by cases h)
      refine x_iload (pc' := 1537) rfl rfl rfl ?_
      refine x_if (a' := 1552) (pc' := 1540) (z := true) rfl rfl rfl (by decide) (fun _ => ?_) (fun h => by cases h)
      refine x_goto (pc' := 2938) rfl rfl ?_
      refine x_iinc (pc' := 2941) (y := 7) (ls' := [_, _, _, _, _, _, _]) rfl rfl rfl rfl rfl ?_
      refine x_goto (pc' := 23) rfl rfl ?_
      refine x_iload (pc' := 25) rfl rfl rfl ?_
      refine x_aload_n (pc' := 26) rfl rfl rfl rfl rfl ?_
      refine x_alen (pc' := 27) (N := 7) rfl rfl rfl (Eq.trans rdNI (Eq.trans rdNthr (z_N_29_0 e))) (?_ : X _ _ _ (.inl 7 :: _) _ _)
      refine x_bipush (pc' := 29) rfl rfl ?_
      refine x_isub (pc' := 30) (z := 0) rfl rfl (by decide) ?_
      refine x_icmp (a' := 2944) (pc' := 33) (z := true) rfl rfl rfl (by decide) (fun _ => ?_) (fun h => by cases h)
      refine x_iconst (pc' := 2945) rfl rfl ?_
      refine x_retz (z := true) rfl rfl ?_
      exact Qp_ok e (p := 1) (q := 6) rfl rfl rfl rfl
set_option maxHeartbeats 4000000 in
set_option maxRecDepth 10000 in
theorem v_16_4_i {t : sT} {xs : Nat → Int32}
    (e : t = T16 7 xs)
    (hk : ((xs 0) &&& 63) = 16)
    (e0 : xs 1 = 4) :
    X 297 23 [.inr (.inr (29, (some 0))), .inr (.inr (11, (some 0))), .inr (.inr (12, (some 0))), .inr (.inr (23, (some 0))), .inl 0, sJk, sJk] [] t Qp := by
  refine x_iload (pc' := 25) rfl rfl rfl ?_
  refine x_aload_n (pc' := 26) rfl rfl rfl rfl rfl ?_
  refine x_alen (pc' := 27) (N := 7) rfl rfl rfl (z_N_29_0 e) (?_ : X _ _ _ (.inl 7 :: _) _ _)
  refine x_bipush (pc' := 29) rfl rfl ?_
  refine x_isub (pc' := 30) (z := 0) rfl rfl (by decide) ?_
  refine x_icmp (a' := 2944) (pc' := 33) (z := false) rfl rfl rfl (by decide) (fun h => by cases h) (fun _ => ?_)
  refine x_aload_n (pc' := 34) rfl rfl rfl rfl rfl ?_
  refine x_iload (pc' := 36) rfl rfl rfl ?_
  refine x_iald (pc' := 37) (N := 7) (x := (xs 0)) rfl rfl rfl (z_N_29_0 e) (io_in (p := 0) (N := 7) (by decide) (by decide)) (Eq.trans (congrArg (sA t 29 0) (nn_io (p := 0) (by decide))) (z_A_29_0_0 e)) ?_
  refine x_bipush (pc' := 39) rfl rfl ?_
  refine x_iand (pc' := 40) (z := ((xs 0) &&& 63)) rfl rfl rfl ?_
  refine x_switch (pc' := 1487) rfl (by rw [hk]; decide) ?_
  refine x_aload_n (pc' := 1488) rfl rfl rfl rfl rfl ?_
  refine x_aload_n (pc' := 1489) rfl rfl rfl rfl rfl ?_
  refine x_iload (pc' := 1491) rfl rfl rfl ?_
  refine x_iconst (pc' := 1492) rfl rfl ?_
  refine x_iadd (pc' := 1493) (z := 1) rfl rfl (by decide) ?_
  refine x_iald (pc' := 1494) (N := 7) (x := 4) rfl rfl rfl (z_N_29_0 e) (io_in (p := 1) (N := 7) (by decide) (by decide)) (Eq.trans (congrArg (sA t 29 0) (nn_io (p := 1) (by decide))) (Eq.trans (z_A_29_0_1 e) e0)) ?_
  refine x_aload_n (pc' := 1495) rfl rfl rfl rfl rfl ?_
  refine x_iload (pc' := 1497) rfl rfl rfl ?_
  refine x_iconst (pc' := 1498) rfl rfl ?_
  refine x_iadd (pc' := 1499) (z := 2) rfl rfl (by decide) ?_
  refine x_iald (pc' := 1500) (N := 7) (x := (xs 2)) rfl rfl rfl (z_N_29_0 e) (io_in (p := 2) (N := 7) (by decide) (by decide)) (Eq.trans (congrArg (sA t 29 0) (nn_io (p := 2) (by decide))) (z_A_29_0_2 e)) ?_
  refine x_aload_n (pc' := 1501) rfl rfl rfl rfl rfl ?_
  refine x_cs (ls0 := [_, _, _, _, sJk]) (rest := []) rfl rfl rfl rfl ?_
  refine x_aload_n (pc' := 1) rfl rfl rfl rfl rfl ?_
  refine x_iconst (pc' := 2) rfl rfl ?_
  refine x_aload_n (pc' := 3) rfl rfl rfl rfl rfl ?_
  refine x_iload_n (pc' := 4) rfl rfl rfl ?_
  refine x_iload_n (pc' := 5) rfl rfl rfl ?_
  refine x_cv (ls0 := [_, _, _, sJk]) (rest := [_, _]) rfl rfl rfl rfl rfl ?_
  refine x_aload_n (pc' := 1) rfl rfl rfl rfl rfl ?_
  refine x_iload_n (pc' := 2) rfl rfl rfl ?_
  refine x_cv (ls0 := [_, _]) (rest := []) rfl rfl rfl rfl rfl ?_
  refine x_iload_n (pc' := 1) rfl rfl rfl ?_
  refine x_if (a' := 16) (pc' := 4) (z := false) rfl rfl rfl (by decide) (fun h => by cases h) (fun _ => ?_)
  refine x_iload_n (pc' := 5) rfl rfl rfl ?_
  refine x_aload_n (pc' := 6) rfl rfl rfl rfl rfl ?_
  refine x_gR (pc' := 9) (r := (some 0)) rfl rfl rfl (z_R_704_0 e) ?_
  refine x_gR (pc' := 12) (r := (some 0)) rfl rfl rfl (z_R_321_0 e) ?_
  refine x_alen (pc' := 13) (N := 6) rfl rfl rfl (z_N_26_0 e) (?_ : X _ _ _ (.inl 6 :: _) _ _)
  refine x_icmp (a' := 27) (pc' := 16) (z := true) rfl rfl rfl (by decide) (fun _ => ?_) (fun h => by cases h)
  refine x_aload_n (pc' := 28) rfl rfl rfl rfl rfl ?_
  refine x_gR (pc' := 31) (r := (some 0)) rfl rfl rfl (z_R_704_0 e) ?_
  refine x_gR (pc' := 34) (r := (some 0)) rfl rfl rfl (z_R_321_0 e) ?_
  refine x_iload_n (pc' := 35) rfl rfl rfl ?_
  refine x_aald (pc' := 36) (N := 6) (k' := 7) (r := (some 4)) rfl rfl rfl (z_N_26_0 e) (io_in (p := 4) (N := 6) (by decide) (by decide)) (Eq.trans (congrArg (sE t 26 0) (nn_io (p := 4) (by decide))) (z_E_26_0_4 e)) ?_
  refine x_reta rfl rfl ?_
  refine sK_i (pc' := 5) rfl ?_
  refine x_astore_n (pc' := 6) (ls' := [_, _, _, _]) rfl rfl rfl rfl rfl ?_
  refine x_iload_n (pc' := 7) rfl rfl rfl ?_
  refine x_ldc (pc' := 9) rfl rfl ?_
  refine x_ldc (pc' := 11) rfl rfl ?_
  refine x_cs (ls0 := [_, _, _]) (rest := []) rfl rfl rfl rfl ?_
  refine x_iload_n (pc' := 1) rfl rfl rfl ?_
  refine x_iload_n (pc' := 2) rfl rfl rfl ?_
  refine x_icmp (a' := 10) (pc' := 5) (z := decide ((xs 2) < (-1000000))) rfl rfl rfl rfl (fun q5 => ?_) (fun q5 => ?_)
  · refine x_throw rfl rfl ?_
    refine sK_n (by decide +kernel) rfl ?_
    refine sK_h (h := 17) (by decide +kernel) rfl ?_
    refine x_catch (pc' := 19) (ls' := [_, _, _, _, _]) rfl rfl rfl rfl ?_
    refine x_iconst (pc' := 20) rfl rfl ?_
    refine x_reti rfl rfl ?_
    refine sK_i (pc' := 1504) rfl ?_
    refine x_istore (pc' := 1506) (ls' := [_, _, _, _, _, _, _]) rfl rfl rfl rfl ?_
    refine x_aload_n (pc' := 1507) rfl rfl rfl rfl rfl ?_
    refine x_aload_n (pc' := 1508) rfl rfl rfl rfl rfl ?_
    refine x_iload (pc' := 1510) rfl rfl rfl ?_
    refine x_iconst (pc' := 1511) rfl rfl ?_
    refine x_iadd (pc' := 1512) (z := 1) rfl rfl (by decide) ?_
    refine x_iald (pc' := 1513) (N := 7) (x := 4) rfl rfl rfl (Eq.trans rdNthr (z_N_29_0 e)) (io_in (p := 1) (N := 7) (by decide) (by decide)) (Eq.trans (congrArg (sA (sThr t) 29 0) (nn_io (p := 1) (by decide))) (Eq.trans rdAthr (Eq.trans (z_A_29_0_1 e) e0))) ?_
    refine x_aload_n (pc' := 1514) rfl rfl rfl rfl rfl ?_
    refine x_iload (pc' := 1516) rfl rfl rfl ?_
    refine x_iconst (pc' := 1517) rfl rfl ?_
    refine x_iadd (pc' := 1518) (z := 2) rfl rfl (by decide) ?_
    refine x_iald (pc' := 1519) (N := 7) (x := (xs 2)) rfl rfl rfl (Eq.trans rdNthr (z_N_29_0 e)) (io_in (p := 2) (N := 7) (by decide) (by decide)) (Eq.trans (congrArg (sA (sThr t) 29 0) (nn_io (p := 2) (by decide))) (Eq.trans rdAthr (z_A_29_0_2 e))) ?_
    refine x_cv (ls0 := [_, _, _, sJk, sJk, sJk]) (rest := []) rfl rfl rfl rfl rfl ?_
    refine x_iload_n (pc' := 1) rfl rfl rfl ?_
    refine x_cs (ls0 := [_]) (rest := []) rfl rfl rfl rfl ?_
    refine x_iload_n (pc' := 1) rfl rfl rfl ?_
    refine x_iconst (pc' := 2) rfl rfl ?_
    refine x_iconst (pc' := 3) rfl rfl ?_
    refine x_cs (ls0 := [_, _, _]) (rest := []) rfl rfl rfl rfl ?_
    refine x_iload_n (pc' := 1) rfl rfl rfl ?_
    refine x_iload_n (pc' := 2) rfl rfl rfl ?_
    refine x_icmp (a' := 14) (pc' := 5) (z := false) rfl rfl rfl (by decide) (fun h => by cases h) (fun _ => ?_)
    refine x_iload_n (pc' := 6) rfl rfl rfl ?_
    refine x_iload_n (pc' := 7) rfl rfl rfl ?_
    refine x_icmp (a' := 14) (pc' := 10) (z := false) rfl rfl rfl (by decide) (fun h => by cases h) (fun _ => ?_)
    refine x_iconst (pc' := 11) rfl rfl ?_
    refine x_goto (pc' := 15) rfl rfl ?_
    refine x_retz (z := true) rfl rfl ?_
    refine sK_i (pc' := 6) rfl ?_
    refine x_retz (z := true) rfl rfl ?_
    refine sK_i (pc' := 4) rfl ?_
    refine x_istore_n (pc' := 5) (ls' := [_, _, _, _, _, _]) rfl rfl rfl rfl ?_
    refine x_aload_n (pc' := 6) rfl rfl rfl rfl rfl ?_
    refine x_iload_n (pc' := 7) rfl rfl rfl ?_
    refine x_if (a' := 14) (pc' := 10) (z := true) rfl rfl rfl (by decide) (fun _ => ?_) (fun h => by cases h)
    refine x_iload_n (pc' := 15) rfl rfl rfl ?_
    refine x_ldc_w (pc' := 18) rfl rfl ?_
    refine x_ldc_w (pc' := 21) rfl rfl ?_
    refine x_cs (ls0 := [_, _, _]) (rest := [_]) rfl rfl rfl rfl ?_
    refine x_iload_n (pc' := 1) rfl rfl rfl ?_
    refine x_iload_n (pc' := 2) rfl rfl rfl ?_
    refine x_icmp (a' := 14) (pc' := 5) (z := decide ((xs 2) < (-1000000))) rfl rfl rfl rfl (fun _ => ?_) (fun h => absurd (of_decide_eq_true q5) (of_decide_eq_false h))
    refine x_iconst (pc' := 15) rfl rfl ?_
    refine x_retz (z := false) rfl rfl ?_
    refine sK_i (pc' := 24) rfl ?_
    refine x_if (a' := 31) (pc' := 27) (z := false) rfl rfl rfl (by decide) (fun h => by cases h) (fun _ => ?_)
    refine x_iconst (pc' := 28) rfl rfl ?_
    refine x_goto (pc' := 45) rfl rfl ?_
    refine x_cv (ls0 := [_, _]) (rest := []) rfl rfl rfl rfl rfl ?_
    refine x_aload_n (pc' := 1) rfl rfl rfl rfl rfl ?_
    refine x_iload_n (pc' := 2) rfl rfl rfl ?_
    refine x_pI (pc' := 5) rfl rfl rfl ?_
    refine x_iload_n (pc' := 6) rfl rfl rfl ?_
    refine x_if (a' := 13) (pc' := 9) (z := true) rfl rfl rfl (by decide) (fun _ => ?_) (fun h => by cases h)
    refine x_iconst (pc' := 14) rfl rfl ?_
    refine x_retz (z := false) rfl rfl ?_
    refine sK_i (pc' := 48) rfl ?_
    refine x_if (a' := 53) (pc' := 51) (z := false) rfl rfl rfl (by decide) (fun h => by cases h) (fun _ => ?_)
    refine x_iconst (pc' := 52) rfl rfl ?_
    refine x_reti rfl rfl ?_
    refine sK_i (pc' := 1522) rfl ?_
    refine x_istore (pc' := 1524) (ls' := [_, _, _, _, _, _, _]) rfl rfl rfl rfl ?_
    refine x_aload_n (pc' := 1525) rfl rfl rfl rfl rfl ?_
    refine x_cv (ls0 := [_]) (rest := []) rfl rfl rfl rfl rfl ?_
    refine x_aload_n (pc' := 1) rfl rfl rfl rfl rfl ?_
    refine x_gI (pc' := 4) (x := 2) rfl rfl rfl sI_s ?_
    refine x_reti rfl rfl ?_
    refine sK_i (pc' := 1528) rfl ?_
    refine x_iload (pc' := 1530) rfl rfl rfl ?_
    refine x_icmp (a' := 1535) (pc' := 1533) (z := true) rfl rfl rfl (by decide) (fun _ => ?_) (fun h => by cases h)
    refine x_iload (pc' := 1537) rfl rfl rfl ?_
    refine x_if (a' := 1552) (pc' := 1540) (z := true) rfl rfl rfl (by decide) (fun _ => ?_) (fun h => by cases h)
    refine x_goto (pc' := 2938) rfl rfl ?_
    refine x_iinc (pc' := 2941) (y := 7) (ls' := [_, _, _, _, _, _, _]) rfl rfl rfl rfl rfl ?_
    refine x_goto (pc' := 23) rfl rfl ?_
    refine x_iload (pc' := 25) rfl rfl rfl ?_
    refine x_aload_n (pc' := 26) rfl rfl rfl rfl rfl ?_
    refine x_alen (pc' := 27) (N := 7) rfl rfl rfl (Eq.trans rdNI (Eq.trans rdNthr (z_N_29_0 e))) (?_ : X _ _ _ (.inl 7 :: _) _ _)
    refine x_bipush (pc' := 29) rfl rfl ?_
    refine x_isub (pc' := 30) (z := 0) rfl rfl (by decide) ?_
    refine x_icmp (a' := 2944) (pc' := 33) (z := true) rfl rfl rfl (by decide) (fun _ => ?_) (fun h => by cases h)
    refine x_iconst (pc' := 2945) rfl rfl ?_
    refine x_retz (z := true) rfl rfl ?_
    exact Qp_ok e (p := 1) (q := 6) rfl rfl rfl rfl
  · refine x_iload_n (pc' := 6) rfl rfl rfl ?_
    refine x_iload_n (pc' := 7) rfl rfl rfl ?_
    refine x_icmp_n (a' := 21) (pc' := 10) (z := decide (1000000 < (xs 2))) rfl rfl rfl (ik_le _ _) (fun q16 => ?_) (fun q16 => ?_)
    · refine x_ret rfl ?_
      refine sK_v (pc' := 14) rfl ?_
      refine x_aload_n (pc' := 15) rfl rfl rfl rfl rfl ?_
      refine x_gZ (pc' := 18) (z := false) rfl rfl rfl (z_Z_458_4 e) ?_
      refine x_if (a' := 25) (pc' := 21) (z := false) rfl rfl rfl (by decide) (fun h => by cases h) (fun _ => ?_)
      refine x_iconst (pc' := 22) rfl rfl ?_
      refine x_goto (pc' := 26) rfl rfl ?_
      refine x_cs (ls0 := [_]) (rest := []) rfl rfl rfl rfl ?_
      refine x_iload_n (pc' := 1) rfl rfl rfl ?_
      refine x_if (a' := 15) (pc' := 4) (z := true) rfl rfl rfl (by decide) (fun _ => ?_) (fun h => by cases h)
      refine x_ret rfl ?_
      refine sK_v (pc' := 29) rfl ?_
      refine x_aload_n (pc' := 30) rfl rfl rfl rfl rfl ?_
      refine x_iconst (pc' := 31) rfl rfl ?_
      refine x_pZ (pc' := 34) (z := true) rfl rfl rfl rfl ?_
      refine x_aload_n (pc' := 35) rfl rfl rfl rfl rfl ?_
      refine x_iload_n (pc' := 36) rfl rfl rfl ?_
      refine x_pI (pc' := 39) rfl rfl rfl ?_
      refine x_aload_n (pc' := 40) rfl rfl rfl rfl rfl ?_
      refine x_gR (pc' := 43) (r := (some 0)) rfl rfl rfl (Eq.trans rdRI (Eq.trans rdRZ (z_R_704_0 e))) ?_
      refine x_cv (ls0 := [_, sJk, sJk, sJk, sJk, sJk]) (rest := []) rfl rfl rfl rfl rfl ?_
      refine x_iconst (pc' := 1) rfl rfl ?_
      refine x_istore_n (pc' := 2) (ls' := [_, _, _, _, _, _]) rfl rfl rfl rfl ?_
      refine x_aload_n (pc' := 3) rfl rfl rfl rfl rfl ?_
      refine x_gR (pc' := 6) (r := (some 0)) rfl rfl rfl (Eq.trans rdRI (Eq.trans rdRZ (z_R_321_0 e))) ?_
      refine x_astore_n (pc' := 7) (ls' := [_, _, _, _, _, _]) rfl rfl rfl rfl rfl ?_
      refine x_aload_n (pc' := 8) rfl rfl rfl rfl rfl ?_
      refine x_alen (pc' := 9) (N := 6) rfl rfl rfl (Eq.trans rdNI (Eq.trans rdNZ (z_N_26_0 e))) (?_ : X _ _ _ (.inl 6 :: _) _ _)
      refine x_istore_n (pc' := 10) (ls' := [_, _, _, _, _, _]) rfl rfl rfl rfl ?_
      refine x_iconst (pc' := 11) rfl rfl ?_
      refine x_istore (pc' := 13) (ls' := [_, _, _, _, _, _]) rfl rfl rfl rfl ?_
      refine x_iload (pc' := 15) rfl rfl rfl ?_
      refine x_iload_n (pc' := 16) rfl rfl rfl ?_
      refine x_icmp (a' := 47) (pc' := 19) (z := false) rfl rfl rfl (by decide) (fun h => by cases h) (fun _ => ?_)
      refine x_aload_n (pc' := 20) rfl rfl rfl rfl rfl ?_
      refine x_iload (pc' := 22) rfl rfl rfl ?_
      refine x_aald (pc' := 23) (N := 6) (k' := 7) (r := (some 0)) rfl rfl rfl (Eq.trans rdNI (Eq.trans rdNZ (z_N_26_0 e))) (io_in (p := 0) (N := 6) (by decide) (by decide)) (Eq.trans (congrArg (sE (sIw (sZw t 457 4 true) 456 4 (xs 2)) 26 0) (nn_io (p := 0) (by decide))) (Eq.trans rdEI (Eq.trans rdEZ (z_E_26_0_0 e)))) ?_
      refine x_astore (pc' := 25) (ls' := [_, _, _, _, _, _]) rfl rfl rfl rfl rfl ?_
      refine x_iload_n (pc' := 26) rfl rfl rfl ?_
      refine x_aload (pc' := 28) rfl rfl rfl rfl rfl ?_
      refine x_gZ (pc' := 31) (z := false) rfl rfl rfl (Eq.trans rdZI (Eq.trans (rdZ_o rfl) (z_Z_457_0 e))) ?_
      refine x_if (a' := 38) (pc' := 34) (z := true) rfl rfl rfl (by decide) (fun _ => ?_) (fun h => by cases h)
      refine x_iconst (pc' := 39) rfl rfl ?_
      refine x_iadd (pc' := 40) (z := 0) rfl rfl (by decide) ?_
      refine x_istore_n (pc' := 41) (ls' := [_, _, _, _, _, _]) rfl rfl rfl rfl ?_
      refine x_iinc (pc' := 44) (y := 1) (ls' := [_, _, _, _, _, _]) rfl rfl rfl rfl rfl ?_
      refine x_goto (pc' := 13) rfl rfl ?_
      refine x_iload (pc' := 15) rfl rfl rfl ?_
      refine x_iload_n (pc' := 16) rfl rfl rfl ?_
      refine x_icmp (a' := 47) (pc' := 19) (z := false) rfl rfl rfl (by decide) (fun h => by cases h) (fun _ => ?_)
      refine x_aload_n (pc' := 20) rfl rfl rfl rfl rfl ?_
      refine x_iload (pc' := 22) rfl rfl rfl ?_
      refine x_aald (pc' := 23) (N := 6) (k' := 7) (r := (some 1)) rfl rfl rfl (Eq.trans rdNI (Eq.trans rdNZ (z_N_26_0 e))) (io_in (p := 1) (N := 6) (by decide) (by decide)) (Eq.trans (congrArg (sE (sIw (sZw t 457 4 true) 456 4 (xs 2)) 26 0) (nn_io (p := 1) (by decide))) (Eq.trans rdEI (Eq.trans rdEZ (z_E_26_0_1 e)))) ?_
      refine x_astore (pc' := 25) (ls' := [_, _, _, _, _, _]) rfl rfl rfl rfl rfl ?_
      refine x_iload_n (pc' := 26) rfl rfl rfl ?_
      refine x_aload (pc' := 28) rfl rfl rfl rfl rfl ?_
      refine x_gZ (pc' := 31) (z := false) rfl rfl rfl (Eq.trans rdZI (Eq.trans (rdZ_o rfl) (z_Z_457_1 e))) ?_
      refine x_if (a' := 38) (pc' := 34) (z := true) rfl rfl rfl (by decide) (fun _ => ?_) (fun h => by cases h)
      refine x_iconst (pc' := 39) rfl rfl ?_
      refine x_iadd (pc' := 40) (z := 0) rfl rfl (by decide) ?_
      refine x_istore_n (pc' := 41) (ls' := [_, _, _, _, _, _]) rfl rfl rfl rfl ?_
      refine x_iinc (pc' := 44) (y := 2) (ls' := [_, _, _, _, _, _]) rfl rfl rfl rfl rfl ?_
      refine x_goto (pc' := 13) rfl rfl ?_
      refine x_iload (pc' := 15) rfl rfl rfl ?_
      refine x_iload_n (pc' := 16) rfl rfl rfl ?_
      refine x_icmp (a' := 47) (pc' := 19) (z := false) rfl rfl rfl (by decide) (fun h => by cases h) (fun _ => ?_)
      refine x_aload_n (pc' := 20) rfl rfl rfl rfl rfl ?_
      refine x_iload (pc' := 22) rfl rfl rfl ?_
      refine x_aald (pc' := 23) (N := 6) (k' := 7) (r := (some 2)) rfl rfl rfl (Eq.trans rdNI (Eq.trans rdNZ (z_N_26_0 e))) (io_in (p := 2) (N := 6) (by decide) (by decide)) (Eq.trans (congrArg (sE (sIw (sZw t 457 4 true) 456 4 (xs 2)) 26 0) (nn_io (p := 2) (by decide))) (Eq.trans rdEI (Eq.trans rdEZ (z_E_26_0_2 e)))) ?_
      refine x_astore (pc' := 25) (ls' := [_, _, _, _, _, _]) rfl rfl rfl rfl rfl ?_
      refine x_iload_n (pc' := 26) rfl rfl rfl ?_
      refine x_aload (pc' := 28) rfl rfl rfl rfl rfl ?_
      refine x_gZ (pc' := 31) (z := false) rfl rfl rfl (Eq.trans rdZI (Eq.trans (rdZ_o rfl) (z_Z_457_2 e))) ?_
      refine x_if (a' := 38) (pc' := 34) (z := true) rfl rfl rfl (by decide) (fun _ => ?_) (fun h => by cases h)
      refine x_iconst (pc' := 39) rfl rfl ?_
      refine x_iadd (pc' := 40) (z := 0) rfl rfl (by decide) ?_
      refine x_istore_n (pc' := 41) (ls' := [_, _, _, _, _, _]) rfl rfl rfl rfl ?_
      refine x_iinc (pc' := 44) (y := 3) (ls' := [_, _, _, _, _, _]) rfl rfl rfl rfl rfl ?_
      refine x_goto (pc' := 13) rfl rfl ?_
      refine x_iload (pc' := 15) rfl rfl rfl ?_
      refine x_iload_n (pc' := 16) rfl rfl rfl ?_
      refine x_icmp (a' := 47) (pc' := 19) (z := false) rfl rfl rfl (by decide) (fun h => by cases h) (fun _ => ?_)
      refine x_aload_n (pc' := 20) rfl rfl rfl rfl rfl ?_
      refine x_iload (pc' := 22) rfl rfl rfl ?_
      refine x_aald (pc' := 23) (N := 6) (k' := 7) (r := (some 3)) rfl rfl rfl (Eq.trans rdNI (Eq.trans rdNZ (z_N_26_0 e))) (io_in (p := 3) (N := 6) (by decide) (by decide)) (Eq.trans (congrArg (sE (sIw (sZw t 457 4 true) 456 4 (xs 2)) 26 0) (nn_io (p := 3) (by decide))) (Eq.trans rdEI (Eq.trans rdEZ (z_E_26_0_3 e)))) ?_
      refine x_astore (pc' := 25) (ls' := [_, _, _, _, _, _]) rfl rfl rfl rfl rfl ?_
      refine x_iload_n (pc' := 26) rfl rfl rfl ?_
      refine x_aload (pc' := 28) rfl rfl rfl rfl rfl ?_
      refine x_gZ (pc' := 31) (z := false) rfl rfl rfl (Eq.trans rdZI (Eq.trans (rdZ_o rfl) (z_Z_457_3 e))) ?_
      refine x_if (a' := 38) (pc' := 34) (z := true) rfl rfl rfl (by decide) (fun _ => ?_) (fun h => by cases h)
      refine x_iconst (pc' := 39) rfl rfl ?_
      refine x_iadd (pc' := 40) (z := 0) rfl rfl (by decide) ?_
      refine x_istore_n (pc' := 41) (ls' := [_, _, _, _, _, _]) rfl rfl rfl rfl ?_
      refine x_iinc (pc' := 44) (y := 4) (ls' := [_, _, _, _, _, _]) rfl rfl rfl rfl rfl ?_
      refine x_goto (pc' := 13) rfl rfl ?_
      refine x_iload (pc' := 15) rfl rfl rfl ?_
      refine x_iload_n (pc' := 16) rfl rfl rfl ?_
      refine x_icmp (a' := 47) (pc' := 19) (z := false) rfl rfl rfl (by decide) (fun h => by cases h) (fun _ => ?_)
      refine x_aload_n (pc' := 20) rfl rfl rfl rfl rfl ?_
      refine x_iload (pc' := 22) rfl rfl rfl ?_
      refine x_aald (pc' := 23) (N := 6) (k' := 7) (r := (some 4)) rfl rfl rfl (Eq.trans rdNI (Eq.trans rdNZ (z_N_26_0 e))) (io_in (p := 4) (N := 6) (by decide) (by decide)) (Eq.trans (congrArg (sE (sIw (sZw t 457 4 true) 456 4 (xs 2)) 26 0) (nn_io (p := 4) (by decide))) (Eq.trans rdEI (Eq.trans rdEZ (z_E_26_0_4 e)))) ?_
      refine x_astore (pc' := 25) (ls' := [_, _, _, _, _, _]) rfl rfl rfl rfl rfl ?_
      refine x_iload_n (pc' := 26) rfl rfl rfl ?_
      refine x_aload (pc' := 28) rfl rfl rfl rfl rfl ?_
      refine x_gZ (pc' := 31) (z := true) rfl rfl rfl (Eq.trans rdZI sZ_s) ?_
      refine x_if (a' := 38) (pc' := 34) (z := false) rfl rfl rfl (by decide) (fun h => by cases h) (fun _ => ?_)
      refine x_iconst (pc' := 35) rfl rfl ?_
      refine x_goto (pc' := 39) rfl rfl ?_
      refine x_iadd (pc' := 40) (z := 1) rfl rfl (by decide) ?_
      refine x_istore_n (pc' := 41) (ls' := [_, _, _, _, _, _]) rfl rfl rfl rfl ?_
      refine x_iinc (pc' := 44) (y := 5) (ls' := [_, _, _, _, _, _]) rfl rfl rfl rfl rfl ?_
      refine x_goto (pc' := 13) rfl rfl ?_
      refine x_iload (pc' := 15) rfl rfl rfl ?_
      refine x_iload_n (pc' := 16) rfl rfl rfl ?_
      refine x_icmp (a' := 47) (pc' := 19) (z := false) rfl rfl rfl (by decide) (fun h => by cases h) (fun _ => ?_)
      refine x_aload_n (pc' := 20) rfl rfl rfl rfl rfl ?_
      refine x_iload (pc' := 22) rfl rfl rfl ?_
      refine x_aald (pc' := 23) (N := 6) (k' := 7) (r := (some 5)) rfl rfl rfl (Eq.trans rdNI (Eq.trans rdNZ (z_N_26_0 e))) (io_in (p := 5) (N := 6) (by decide) (by decide)) (Eq.trans (congrArg (sE (sIw (sZw t 457 4 true) 456 4 (xs 2)) 26 0) (nn_io (p := 5) (by decide))) (Eq.trans rdEI (Eq.trans rdEZ (z_E_26_0_5 e)))) ?_
      refine x_astore (pc' := 25) (ls' := [_, _, _, _, _, _]) rfl rfl rfl rfl rfl ?_
      refine x_iload_n (pc' := 26) rfl rfl rfl ?_
      refine x_aload (pc' := 28) rfl rfl rfl rfl rfl ?_
      refine x_gZ (pc' := 31) (z := false) rfl rfl rfl (Eq.trans rdZI (Eq.trans (rdZ_o rfl) (z_Z_457_5 e))) ?_
      refine x_if (a' := 38) (pc' := 34) (z := true) rfl rfl rfl (by decide) (fun _ => ?_) (fun h => by cases h)
      refine x_iconst (pc' := 39) rfl rfl ?_
      refine x_iadd (pc' := 40) (z := 1) rfl rfl (by decide) ?_
      refine x_istore_n (pc' := 41) (ls' := [_, _, _, _, _, _]) rfl rfl rfl rfl ?_
      refine x_iinc (pc' := 44) (y := 6) (ls' := [_, _, _, _, _, _]) rfl rfl rfl rfl rfl ?_
      refine x_goto (pc' := 13) rfl rfl ?_
      refine x_iload (pc' := 15) rfl rfl rfl ?_
      refine x_iload_n (pc' := 16) rfl rfl rfl ?_
      refine x_icmp (a' := 47) (pc' := 19) (z := true) rfl rfl rfl (by decide) (fun _ => ?_) (fun h => by cases h)
      refine x_iload_n (pc' := 48) rfl rfl rfl ?_
      refine x_reti rfl rfl ?_
      refine sK_i (pc' := 46) rfl ?_
      refine x_reti rfl rfl ?_
      refine sK_i (pc' := 8) rfl ?_
      refine x_i2l (pc' := 9) (z := (1 : Int64)) rfl rfl (by decide) ?_
      refine x_last (pc' := 10) (N := 1) (p := 0) rfl rfl (Eq.trans rdNI (Eq.trans rdNZ (z_N_23_0 e))) (io_in (p := 0) (N := 1) (by decide) (by decide)) (nn_io (p := 0) (by decide)) ?_
      refine x_goto (pc' := 25) rfl rfl ?_
      refine x_iconst (pc' := 26) rfl rfl ?_
      refine x_reti rfl rfl ?_
      refine sK_i (pc' := 1504) rfl ?_
      refine x_istore (pc' := 1506) (ls' := [_, _, _, _, _, _, _]) rfl rfl rfl rfl ?_
      refine x_aload_n (pc' := 1507) rfl rfl rfl rfl rfl ?_
      refine x_aload_n (pc' := 1508) rfl rfl rfl rfl rfl ?_
      refine x_iload (pc' := 1510) rfl rfl rfl ?_
      refine x_iconst (pc' := 1511) rfl rfl ?_
      refine x_iadd (pc' := 1512) (z := 1) rfl rfl (by decide) ?_
      refine x_iald (pc' := 1513) (N := 7) (x := 4) rfl rfl rfl (Eq.trans rdNL (Eq.trans rdNI (Eq.trans rdNZ (z_N_29_0 e)))) (io_in (p := 1) (N := 7) (by decide) (by decide)) (Eq.trans (congrArg (sA (sLw (sIw (sZw t 457 4 true) 456 4 (xs 2)) 23 0 0 (1 : Int64)) 29 0) (nn_io (p := 1) (by decide))) (Eq.trans rdAL (Eq.trans rdAI (Eq.trans rdAZ (Eq.trans (z_A_29_0_1 e) e0))))) ?_
      refine x_aload_n (pc' := 1514) rfl rfl rfl rfl rfl ?_
      refine x_iload (pc' := 1516) rfl rfl rfl ?_
      refine x_iconst (pc' := 1517) rfl rfl ?_
      refine x_iadd (pc' := 1518) (z := 2) rfl rfl (by decide) ?_
      refine x_iald (pc' := 1519) (N := 7) (x := (xs 2)) rfl rfl rfl (Eq.trans rdNL (Eq.trans rdNI (Eq.trans rdNZ (z_N_29_0 e)))) (io_in (p := 2) (N := 7) (by decide) (by decide)) (Eq.trans (congrArg (sA (sLw (sIw (sZw t 457 4 true) 456 4 (xs 2)) 23 0 0 (1 : Int64)) 29 0) (nn_io (p := 2) (by decide))) (Eq.trans rdAL (Eq.trans rdAI (Eq.trans rdAZ (z_A_29_0_2 e))))) ?_
      refine x_cv (ls0 := [_, _, _, sJk, sJk, sJk]) (rest := []) rfl rfl rfl rfl rfl ?_
      refine x_iload_n (pc' := 1) rfl rfl rfl ?_
      refine x_cs (ls0 := [_]) (rest := []) rfl rfl rfl rfl ?_
      refine x_iload_n (pc' := 1) rfl rfl rfl ?_
      refine x_iconst (pc' := 2) rfl rfl ?_
      refine x_iconst (pc' := 3) rfl rfl ?_
      refine x_cs (ls0 := [_, _, _]) (rest := []) rfl rfl rfl rfl ?_
      refine x_iload_n (pc' := 1) rfl rfl rfl ?_
      refine x_iload_n (pc' := 2) rfl rfl rfl ?_
      refine x_icmp (a' := 14) (pc' := 5) (z := false) rfl rfl rfl (by decide) (fun h => by cases h) (fun _ => ?_)
      refine x_iload_n (pc' := 6) rfl rfl rfl ?_
      refine x_iload_n (pc' := 7) rfl rfl rfl ?_
      refine x_icmp (a' := 14) (pc' := 10) (z := false) rfl rfl rfl (by decide) (fun h => by cases h) (fun _ => ?_)
      refine x_iconst (pc' := 11) rfl rfl ?_
      refine x_goto (pc' := 15) rfl rfl ?_
      refine x_retz (z := true) rfl rfl ?_
      refine sK_i (pc' := 6) rfl ?_
      refine x_retz (z := true) rfl rfl ?_
      refine sK_i (pc' := 4) rfl ?_
      refine x_istore_n (pc' := 5) (ls' := [_, _, _, _, _, _]) rfl rfl rfl rfl ?_
      refine x_aload_n (pc' := 6) rfl rfl rfl rfl rfl ?_
      refine x_iload_n (pc' := 7) rfl rfl rfl ?_
      refine x_if (a' := 14) (pc' := 10) (z := true) rfl rfl rfl (by decide) (fun _ => ?_) (fun h => by cases h)
      refine x_iload_n (pc' := 15) rfl rfl rfl ?_
      refine x_ldc_w (pc' := 18) rfl rfl ?_
      refine x_ldc_w (pc' := 21) rfl rfl ?_
      refine x_cs (ls0 := [_, _, _]) (rest := [_]) rfl rfl rfl rfl ?_
      refine x_iload_n (pc' := 1) rfl rfl rfl ?_
      refine x_iload_n (pc' := 2) rfl rfl rfl ?_
      refine x_icmp (a' := 14) (pc' := 5) (z := decide ((xs 2) < (-1000000))) rfl rfl rfl rfl (fun h => absurd (of_decide_eq_true h) (of_decide_eq_false q5)) (fun _ => ?_)
      refine x_iload_n (pc' := 6) rfl rfl rfl ?_
      refine x_iload_n (pc' := 7) rfl rfl rfl ?_
      refine x_icmp (a' := 14) (pc' := 10) (z := decide (1000000 < (xs 2))) rfl rfl rfl rfl (fun h => absurd (of_decide_eq_true h) (of_decide_eq_false q16)) (fun _ => ?_)
      refine x_iconst (pc' := 11) rfl rfl ?_
      refine x_goto (pc' := 15) rfl rfl ?_
      refine x_retz (z := true) rfl rfl ?_
      refine sK_i (pc' := 24) rfl ?_
      refine x_if (a' := 31) (pc' := 27) (z := true) rfl rfl rfl (by decide) (fun _ => ?_) (fun h => by cases h)
      refine x_aload_n (pc' := 32) rfl rfl rfl rfl rfl ?_
      refine x_gR (pc' := 35) (r := (some 2)) rfl rfl rfl (Eq.trans rdRL (Eq.trans rdRI (Eq.trans rdRZ (z_R_781_0 e)))) ?_
      refine x_iload_n (pc' := 36) rfl rfl rfl ?_
      refine x_bald (pc' := 37) (N := 6) (z := false) rfl rfl (Eq.trans rdNL (Eq.trans rdNI (Eq.trans rdNZ (z_N_22_2 e)))) (io_in (p := 4) (N := 6) (by decide) (by decide)) (Eq.trans (congrArg (sB (sLw (sIw (sZw t 457 4 true) 456 4 (xs 2)) 23 0 0 (1 : Int64)) 22 2) (nn_io (p := 4) (by decide))) (Eq.trans rdBL (Eq.trans rdBI (Eq.trans rdBZ (z_B_22_2_4 e))))) ?_
      refine x_if (a' := 44) (pc' := 40) (z := true) rfl rfl rfl (by decide) (fun _ => ?_) (fun h => by cases h)
      refine x_iconst (pc' := 45) rfl rfl ?_
      refine x_cv (ls0 := [_, _]) (rest := []) rfl rfl rfl rfl rfl ?_
      refine x_aload_n (pc' := 1) rfl rfl rfl rfl rfl ?_
      refine x_iload_n (pc' := 2) rfl rfl rfl ?_
      refine x_pI (pc' := 5) rfl rfl rfl ?_
      refine x_iload_n (pc' := 6) rfl rfl rfl ?_
      refine x_if (a' := 13) (pc' := 9) (z := false) rfl rfl rfl (by decide) (fun h => by cases h) (fun _ => ?_)
      refine x_iconst (pc' := 10) rfl rfl ?_
      refine x_goto (pc' := 14) rfl rfl ?_
      refine x_retz (z := true) rfl rfl ?_
      refine sK_i (pc' := 48) rfl ?_
      refine x_if (a' := 53) (pc' := 51) (z := true) rfl rfl rfl (by decide) (fun _ => ?_) (fun h => by cases h)
      refine x_aload_n (pc' := 54) rfl rfl rfl rfl rfl ?_
      refine x_gR (pc' := 57) (r := (some 9)) rfl rfl rfl (Eq.trans rdRI (Eq.trans rdRL (Eq.trans rdRI (Eq.trans rdRZ (z_R_779_0 e))))) ?_
      refine x_iload_n (pc' := 58) rfl rfl rfl ?_
      refine x_iload_n (pc' := 59) rfl rfl rfl ?_
      refine x_iast (pc' := 60) (N := 6) (p := 4) rfl rfl rfl (Eq.trans rdNI (Eq.trans rdNL (Eq.trans rdNI (Eq.trans rdNZ (z_N_21_9 e))))) (io_in (p := 4) (N := 6) (by decide) (by decide)) (nn_io (p := 4) (by decide)) ?_
      refine x_aload_n (pc' := 61) rfl rfl rfl rfl rfl ?_
      refine x_gR (pc' := 64) (r := (some 1)) rfl rfl rfl (Eq.trans rdRA (Eq.trans rdRI (Eq.trans rdRL (Eq.trans rdRI (Eq.trans rdRZ (z_R_780_0 e)))))) ?_
      refine x_iload_n (pc' := 65) rfl rfl rfl ?_
      refine x_iconst (pc' := 66) rfl rfl ?_
      refine x_bast (pc' := 67) (N := 6) (p := 4) (z := true) rfl rfl (Eq.trans rdNA (Eq.trans rdNI (Eq.trans rdNL (Eq.trans rdNI (Eq.trans rdNZ (z_N_22_1 e)))))) (io_in (p := 4) (N := 6) (by decide) (by decide)) (nn_io (p := 4) (by decide)) rfl ?_
      refine x_iconst (pc' := 68) rfl rfl ?_
      refine x_istore (pc' := 70) (ls' := [_, _, _, _, _, _]) rfl rfl rfl rfl ?_
      refine x_iconst (pc' := 71) rfl rfl ?_
      refine x_istore (pc' := 73) (ls' := [_, _, _, _, _, _]) rfl rfl rfl rfl ?_
      refine x_iload (pc' := 75) rfl rfl rfl ?_
      refine x_bipush (pc' := 77) rfl rfl ?_
      refine x_icmp (a' := 106) (pc' := 80) (z := false) rfl rfl rfl (by decide) (fun h => by cases h) (fun _ => ?_)
      refine x_iload (pc' := 82) rfl rfl rfl ?_
      refine x_aload_n (pc' := 83) rfl rfl rfl rfl rfl ?_
      refine x_gR (pc' := 86) (r := (some 1)) rfl rfl rfl (Eq.trans rdRB (Eq.trans rdRA (Eq.trans rdRI (Eq.trans rdRL (Eq.trans rdRI (Eq.trans rdRZ (z_R_780_0 e))))))) ?_
      refine x_iload (pc' := 88) rfl rfl rfl ?_
      refine x_bald (pc' := 89) (N := 6) (z := false) rfl rfl (Eq.trans rdNB (Eq.trans rdNA (Eq.trans rdNI (Eq.trans rdNL (Eq.trans rdNI (Eq.trans rdNZ (z_N_22_1 e))))))) (io_in (p := 0) (N := 6) (by decide) (by decide)) (Eq.trans (congrArg (sB (sBw (sAw (sIw (sLw (sIw (sZw t 457 4 true) 456 4 (xs 2)) 23 0 0 (1 : Int64)) 768 0 0) 21 9 4 (xs 2)) 22 1 4 true) 22 1) (nn_io (p := 0) (by decide))) (Eq.trans (rdB_p rfl) (Eq.trans rdBA (Eq.trans rdBI (Eq.trans rdBL (Eq.trans rdBI (Eq.trans rdBZ (z_B_22_1_0 e)))))))) ?_
      refine x_if (a' := 96) (pc' := 92) (z := true) rfl rfl rfl (by decide) (fun _ => ?_) (fun h => by cases h)
      refine x_iconst (pc' := 97) rfl rfl ?_
      refine x_iadd (pc' := 98) (z := 0) rfl rfl (by decide) ?_
      refine x_istore (pc' := 100) (ls' := [_, _, _, _, _, _]) rfl rfl rfl rfl ?_
      refine x_iinc (pc' := 103) (y := 1) (ls' := [_, _, _, _, _, _]) rfl rfl rfl rfl rfl ?_
      refine x_goto (pc' := 73) rfl rfl ?_
      refine x_iload (pc' := 75) rfl rfl rfl ?_
      refine x_bipush (pc' := 77) rfl rfl ?_
      refine x_icmp (a' := 106) (pc' := 80) (z := false) rfl rfl rfl (by decide) (fun h => by cases h) (fun _ => ?_)
      refine x_iload (pc' := 82) rfl rfl rfl ?_
      refine x_aload_n (pc' := 83) rfl rfl rfl rfl rfl ?_
      refine x_gR (pc' := 86) (r := (some 1)) rfl rfl rfl (Eq.trans rdRB (Eq.trans rdRA (Eq.trans rdRI (Eq.trans rdRL (Eq.trans rdRI (Eq.trans rdRZ (z_R_780_0 e))))))) ?_
      refine x_iload (pc' := 88) rfl rfl rfl ?_
      refine x_bald (pc' := 89) (N := 6) (z := false) rfl rfl (Eq.trans rdNB (Eq.trans rdNA (Eq.trans rdNI (Eq.trans rdNL (Eq.trans rdNI (Eq.trans rdNZ (z_N_22_1 e))))))) (io_in (p := 1) (N := 6) (by decide) (by decide)) (Eq.trans (congrArg (sB (sBw (sAw (sIw (sLw (sIw (sZw t 457 4 true) 456 4 (xs 2)) 23 0 0 (1 : Int64)) 768 0 0) 21 9 4 (xs 2)) 22 1 4 true) 22 1) (nn_io (p := 1) (by decide))) (Eq.trans (rdB_p rfl) (Eq.trans rdBA (Eq.trans rdBI (Eq.trans rdBL (Eq.trans rdBI (Eq.trans rdBZ (z_B_22_1_1 e)))))))) ?_
      refine x_if (a' := 96) (pc' := 92) (z := true) rfl rfl rfl (by decide) (fun _ => ?_) (fun h => by cases h)
      refine x_iconst (pc' := 97) rfl rfl ?_
      refine x_iadd (pc' := 98) (z := 0) rfl rfl (by decide) ?_
      refine x_istore (pc' := 100) (ls' := [_, _, _, _, _, _]) rfl rfl rfl rfl ?_
      refine x_iinc (pc' := 103) (y := 2) (ls' := [_, _, _, _, _, _]) rfl rfl rfl rfl rfl ?_
      refine x_goto (pc' := 73) rfl rfl ?_
      refine x_iload (pc' := 75) rfl rfl rfl ?_
      refine x_bipush (pc' := 77) rfl rfl ?_
      refine x_icmp (a' := 106) (pc' := 80) (z := false) rfl rfl rfl (by decide) (fun h => by cases h) (fun _ => ?_)
      refine x_iload (pc' := 82) rfl rfl rfl ?_
      refine x_aload_n (pc' := 83) rfl rfl rfl rfl rfl ?_
      refine x_gR (pc' := 86) (r := (some 1)) rfl rfl rfl (Eq.trans rdRB (Eq.trans rdRA (Eq.trans rdRI (Eq.trans rdRL (Eq.trans rdRI (Eq.trans rdRZ (z_R_780_0 e))))))) ?_
      refine x_iload (pc' := 88) rfl rfl rfl ?_
      refine x_bald (pc' := 89) (N := 6) (z := false) rfl rfl (Eq.trans rdNB (Eq.trans rdNA (Eq.trans rdNI (Eq.trans rdNL (Eq.trans rdNI (Eq.trans rdNZ (z_N_22_1 e))))))) (io_in (p := 2) (N := 6) (by decide) (by decide)) (Eq.trans (congrArg (sB (sBw (sAw (sIw (sLw (sIw (sZw t 457 4 true) 456 4 (xs 2)) 23 0 0 (1 : Int64)) 768 0 0) 21 9 4 (xs 2)) 22 1 4 true) 22 1) (nn_io (p := 2) (by decide))) (Eq.trans (rdB_p rfl) (Eq.trans rdBA (Eq.trans rdBI (Eq.trans rdBL (Eq.trans rdBI (Eq.trans rdBZ (z_B_22_1_2 e)))))))) ?_
      refine x_if (a' := 96) (pc' := 92) (z := true) rfl rfl rfl (by decide) (fun _ => ?_) (fun h => by cases h)
      refine x_iconst (pc' := 97) rfl rfl ?_
      refine x_iadd (pc' := 98) (z := 0) rfl rfl (by decide) ?_
      refine x_istore (pc' := 100) (ls' := [_, _, _, _, _, _]) rfl rfl rfl rfl ?_
      refine x_iinc (pc' := 103) (y := 3) (ls' := [_, _, _, _, _, _]) rfl rfl rfl rfl rfl ?_
      refine x_goto (pc' := 73) rfl rfl ?_
      refine x_iload (pc' := 75) rfl rfl rfl ?_
      refine x_bipush (pc' := 77) rfl rfl ?_
      refine x_icmp (a' := 106) (pc' := 80) (z := false) rfl rfl rfl (by decide) (fun h => by cases h) (fun _ => ?_)
      refine x_iload (pc' := 82) rfl rfl rfl ?_
      refine x_aload_n (pc' := 83) rfl rfl rfl rfl rfl ?_
      refine x_gR (pc' := 86) (r := (some 1)) rfl rfl rfl (Eq.trans rdRB (Eq.trans rdRA (Eq.trans rdRI (Eq.trans rdRL (Eq.trans rdRI (Eq.trans rdRZ (z_R_780_0 e))))))) ?_
      refine x_iload (pc' := 88) rfl rfl rfl ?_
      refine x_bald (pc' := 89) (N := 6) (z := false) rfl rfl (Eq.trans rdNB (Eq.trans rdNA (Eq.trans rdNI (Eq.trans rdNL (Eq.trans rdNI (Eq.trans rdNZ (z_N_22_1 e))))))) (io_in (p := 3) (N := 6) (by decide) (by decide)) (Eq.trans (congrArg (sB (sBw (sAw (sIw (sLw (sIw (sZw t 457 4 true) 456 4 (xs 2)) 23 0 0 (1 : Int64)) 768 0 0) 21 9 4 (xs 2)) 22 1 4 true) 22 1) (nn_io (p := 3) (by decide))) (Eq.trans (rdB_p rfl) (Eq.trans rdBA (Eq.trans rdBI (Eq.trans rdBL (Eq.trans rdBI (Eq.trans rdBZ (z_B_22_1_3 e)))))))) ?_
      refine x_if (a' := 96) (pc' := 92) (z := true) rfl rfl rfl (by decide) (fun _ => ?_) (fun h => by cases h)
      refine x_iconst (pc' := 97) rfl rfl ?_
      refine x_iadd (pc' := 98) (z := 0) rfl rfl (by decide) ?_
      refine x_istore (pc' := 100) (ls' := [_, _, _, _, _, _]) rfl rfl rfl rfl ?_
      refine x_iinc (pc' := 103) (y := 4) (ls' := [_, _, _, _, _, _]) rfl rfl rfl rfl rfl ?_
      refine x_goto (pc' := 73) rfl rfl ?_
      refine x_iload (pc' := 75) rfl rfl rfl ?_
      refine x_bipush (pc' := 77) rfl rfl ?_
      refine x_icmp (a' := 106) (pc' := 80) (z := false) rfl rfl rfl (by decide) (fun h => by cases h) (fun _ => ?_)
      refine x_iload (pc' := 82) rfl rfl rfl ?_
      refine x_aload_n (pc' := 83) rfl rfl rfl rfl rfl ?_
      refine x_gR (pc' := 86) (r := (some 1)) rfl rfl rfl (Eq.trans rdRB (Eq.trans rdRA (Eq.trans rdRI (Eq.trans rdRL (Eq.trans rdRI (Eq.trans rdRZ (z_R_780_0 e))))))) ?_
      refine x_iload (pc' := 88) rfl rfl rfl ?_
      refine x_bald (pc' := 89) (N := 6) (z := true) rfl rfl (Eq.trans rdNB (Eq.trans rdNA (Eq.trans rdNI (Eq.trans rdNL (Eq.trans rdNI (Eq.trans rdNZ (z_N_22_1 e))))))) (io_in (p := 4) (N := 6) (by decide) (by decide)) (Eq.trans (congrArg (sB (sBw (sAw (sIw (sLw (sIw (sZw t 457 4 true) 456 4 (xs 2)) 23 0 0 (1 : Int64)) 768 0 0) 21 9 4 (xs 2)) 22 1 4 true) 22 1) (nn_io (p := 4) (by decide))) sB_s) ?_
      refine x_if (a' := 96) (pc' := 92) (z := false) rfl rfl rfl (by decide) (fun h => by cases h) (fun _ => ?_)
      refine x_iconst (pc' := 93) rfl rfl ?_
      refine x_goto (pc' := 97) rfl rfl ?_
      refine x_iadd (pc' := 98) (z := 1) rfl rfl (by decide) ?_
      refine x_istore (pc' := 100) (ls' := [_, _, _, _, _, _]) rfl rfl rfl rfl ?_
      refine x_iinc (pc' := 103) (y := 5) (ls' := [_, _, _, _, _, _]) rfl rfl rfl rfl rfl ?_
      refine x_goto (pc' := 73) rfl rfl ?_
      refine x_iload (pc' := 75) rfl rfl rfl ?_
      refine x_bipush (pc' := 77) rfl rfl ?_
      refine x_icmp (a' := 106) (pc' := 80) (z := false) rfl rfl rfl (by decide) (fun h => by cases h) (fun _ => ?_)
      refine x_iload (pc' := 82) rfl rfl rfl ?_
      refine x_aload_n (pc' := 83) rfl rfl rfl rfl rfl ?_
      refine x_gR (pc' := 86) (r := (some 1)) rfl rfl rfl (Eq.trans rdRB (Eq.trans rdRA (Eq.trans rdRI (Eq.trans rdRL (Eq.trans rdRI (Eq.trans rdRZ (z_R_780_0 e))))))) ?_
      refine x_iload (pc' := 88) rfl rfl rfl ?_
      refine x_bald (pc' := 89) (N := 6) (z := false) rfl rfl (Eq.trans rdNB (Eq.trans rdNA (Eq.trans rdNI (Eq.trans rdNL (Eq.trans rdNI (Eq.trans rdNZ (z_N_22_1 e))))))) (io_in (p := 5) (N := 6) (by decide) (by decide)) (Eq.trans (congrArg (sB (sBw (sAw (sIw (sLw (sIw (sZw t 457 4 true) 456 4 (xs 2)) 23 0 0 (1 : Int64)) 768 0 0) 21 9 4 (xs 2)) 22 1 4 true) 22 1) (nn_io (p := 5) (by decide))) (Eq.trans (rdB_p rfl) (Eq.trans rdBA (Eq.trans rdBI (Eq.trans rdBL (Eq.trans rdBI (Eq.trans rdBZ (z_B_22_1_5 e)))))))) ?_
      refine x_if (a' := 96) (pc' := 92) (z := true) rfl rfl rfl (by decide) (fun _ => ?_) (fun h => by cases h)
      refine x_iconst (pc' := 97) rfl rfl ?_
      refine x_iadd (pc' := 98) (z := 1) rfl rfl (by decide) ?_
      refine x_istore (pc' := 100) (ls' := [_, _, _, _, _, _]) rfl rfl rfl rfl ?_
      refine x_iinc (pc' := 103) (y := 6) (ls' := [_, _, _, _, _, _]) rfl rfl rfl rfl rfl ?_
      refine x_goto (pc' := 73) rfl rfl ?_
      refine x_iload (pc' := 75) rfl rfl rfl ?_
      refine x_bipush (pc' := 77) rfl rfl ?_
      refine x_icmp (a' := 106) (pc' := 80) (z := true) rfl rfl rfl (by decide) (fun _ => ?_) (fun h => by cases h)
      refine x_iload (pc' := 108) rfl rfl rfl ?_
      refine x_reti rfl rfl ?_
      refine sK_i (pc' := 1522) rfl ?_
      refine x_istore (pc' := 1524) (ls' := [_, _, _, _, _, _, _]) rfl rfl rfl rfl ?_
      refine x_aload_n (pc' := 1525) rfl rfl rfl rfl rfl ?_
      refine x_cv (ls0 := [_]) (rest := []) rfl rfl rfl rfl rfl ?_
      refine x_aload_n (pc' := 1) rfl rfl rfl rfl rfl ?_
      refine x_gI (pc' := 4) (x := 0) rfl rfl rfl (Eq.trans rdIB (Eq.trans rdIA sI_s)) ?_
      refine x_reti rfl rfl ?_
      refine sK_i (pc' := 1528) rfl ?_
      refine x_iload (pc' := 1530) rfl rfl rfl ?_
      refine x_icmp (a' := 1535) (pc' := 1533) (z := true) rfl rfl rfl (by decide) (fun _ => ?_) (fun h => by cases h)
      refine x_iload (pc' := 1537) rfl rfl rfl ?_
      refine x_if (a' := 1552) (pc' := 1540) (z := false) rfl rfl rfl (by decide) (fun h => by cases h) (fun _ => ?_)
      refine x_aload_n (pc' := 1541) rfl rfl rfl rfl rfl ?_
      refine x_iconst (pc' := 1542) rfl rfl ?_
      refine x_lald (pc' := 1543) (N := 1) (x := (1 : Int64)) rfl rfl (Eq.trans rdNB (Eq.trans rdNA (Eq.trans rdNI (Eq.trans rdNL (Eq.trans rdNI (Eq.trans rdNZ (z_N_23_0 e))))))) (io_in (p := 0) (N := 1) (by decide) (by decide)) (Eq.trans (congrArg (sL (sBw (sAw (sIw (sLw (sIw (sZw t 457 4 true) 456 4 (xs 2)) 23 0 0 (1 : Int64)) 768 0 0) 21 9 4 (xs 2)) 22 1 4 true) 23 0) (nn_io (p := 0) (by decide))) (Eq.trans rdLB (Eq.trans rdLA (Eq.trans rdLI sL_s)))) ?_
      refine x_iload (pc' := 1545) rfl rfl rfl ?_
      refine x_i2l (pc' := 1546) (z := (1 : Int64)) rfl rfl (by decide) ?_
      refine x_lcmp (pc' := 1547) (z := 0) rfl rfl (sLcmp_s _) ?_
      refine x_if (a' := 1552) (pc' := 1550) (z := true) rfl rfl rfl (by decide) (fun _ => ?_) (fun h => by cases h)
      refine x_goto (pc' := 2938) rfl rfl ?_
      refine x_iinc (pc' := 2941) (y := 7) (ls' := [_, _, _, _, _, _, _]) rfl rfl rfl rfl rfl ?_
      refine x_goto (pc' := 23) rfl rfl ?_
      refine x_iload (pc' := 25) rfl rfl rfl ?_
      refine x_aload_n (pc' := 26) rfl rfl rfl rfl rfl ?_
      refine x_alen (pc' := 27) (N := 7) rfl rfl rfl (Eq.trans rdNB (Eq.trans rdNA (Eq.trans rdNI (Eq.trans rdNL (Eq.trans rdNI (Eq.trans rdNZ (z_N_29_0 e))))))) (?_ : X _ _ _ (.inl 7 :: _) _ _)
      refine x_bipush (pc' := 29) rfl rfl ?_
      refine x_isub (pc' := 30) (z := 0) rfl rfl (by decide) ?_
      refine x_icmp (a' := 2944) (pc' := 33) (z := true) rfl rfl rfl (by decide) (fun _ => ?_) (fun h => by cases h)
      refine x_iconst (pc' := 2945) rfl rfl ?_
      refine x_retz (z := true) rfl rfl ?_
      exact Qp_ok e (p := 0) (q := 0) rfl rfl rfl rfl
    · refine x_throw rfl rfl ?_
      refine sK_n (by decide +kernel) rfl ?_
      refine sK_h (h := 17) (by decide +kernel) rfl ?_
      refine x_catch (pc' := 19) (ls' := [_, _, _, _, _]) rfl rfl rfl rfl ?_
      refine x_iconst (pc' := 20) rfl rfl ?_
      refine x_reti rfl rfl ?_
      refine sK_i (pc' := 1504) rfl ?_
      refine x_istore (pc' := 1506) (ls' := [_, _, _, _, _, _, _]) rfl rfl rfl rfl ?_
      refine x_aload_n (pc' := 1507) rfl rfl rfl rfl rfl ?_
      refine x_aload_n (pc' := 1508) rfl rfl rfl rfl rfl ?_
      refine x_iload (pc' := 1510) rfl rfl rfl ?_
      refine x_iconst (pc' := 1511) rfl rfl ?_
      refine x_iadd (pc' := 1512) (z := 1) rfl rfl (by decide) ?_
      refine x_iald (pc' := 1513) (N := 7) (x := 4) rfl rfl rfl (Eq.trans rdNthr (z_N_29_0 e)) (io_in (p := 1) (N := 7) (by decide) (by decide)) (Eq.trans (congrArg (sA (sThr t) 29 0) (nn_io (p := 1) (by decide))) (Eq.trans rdAthr (Eq.trans (z_A_29_0_1 e) e0))) ?_
      refine x_aload_n (pc' := 1514) rfl rfl rfl rfl rfl ?_
      refine x_iload (pc' := 1516) rfl rfl rfl ?_
      refine x_iconst (pc' := 1517) rfl rfl ?_
      refine x_iadd (pc' := 1518) (z := 2) rfl rfl (by decide) ?_
      refine x_iald (pc' := 1519) (N := 7) (x := (xs 2)) rfl rfl rfl (Eq.trans rdNthr (z_N_29_0 e)) (io_in (p := 2) (N := 7) (by decide) (by decide)) (Eq.trans (congrArg (sA (sThr t) 29 0) (nn_io (p := 2) (by decide))) (Eq.trans rdAthr (z_A_29_0_2 e))) ?_
      refine x_cv (ls0 := [_, _, _, sJk, sJk, sJk]) (rest := []) rfl rfl rfl rfl rfl ?_
      refine x_iload_n (pc' := 1) rfl rfl rfl ?_
      refine x_cs (ls0 := [_]) (rest := []) rfl rfl rfl rfl ?_
      refine x_iload_n (pc' := 1) rfl rfl rfl ?_
      refine x_iconst (pc' := 2) rfl rfl ?_
      refine x_iconst (pc' := 3) rfl rfl ?_
      refine x_cs (ls0 := [_, _, _]) (rest := []) rfl rfl rfl rfl ?_
      refine x_iload_n (pc' := 1) rfl rfl rfl ?_
      refine x_iload_n (pc' := 2) rfl rfl rfl ?_
      refine x_icmp (a' := 14) (pc' := 5) (z := false) rfl rfl rfl (by decide) (fun h => by cases h) (fun _ => ?_)
      refine x_iload_n (pc' := 6) rfl rfl rfl ?_
      refine x_iload_n (pc' := 7) rfl rfl rfl ?_
      refine x_icmp (a' := 14) (pc' := 10) (z := false) rfl rfl rfl (by decide) (fun h => by cases h) (fun _ => ?_)
      refine x_iconst (pc' := 11) rfl rfl ?_
      refine x_goto (pc' := 15) rfl rfl ?_
      refine x_retz (z := true) rfl rfl ?_
      refine sK_i (pc' := 6) rfl ?_
      refine x_retz (z := true) rfl rfl ?_
      refine sK_i (pc' := 4) rfl ?_
      refine x_istore_n (pc' := 5) (ls' := [_, _, _, _, _, _]) rfl rfl rfl rfl ?_
      refine x_aload_n (pc' := 6) rfl rfl rfl rfl rfl ?_
      refine x_iload_n (pc' := 7) rfl rfl rfl ?_
      refine x_if (a' := 14) (pc' := 10) (z := true) rfl rfl rfl (by decide) (fun _ => ?_) (fun h => by cases h)
      refine x_iload_n (pc' := 15) rfl rfl rfl ?_
      refine x_ldc_w (pc' := 18) rfl rfl ?_
      refine x_ldc_w (pc' := 21) rfl rfl ?_
      refine x_cs (ls0 := [_, _, _]) (rest := [_]) rfl rfl rfl rfl ?_
      refine x_iload_n (pc' := 1) rfl rfl rfl ?_
      refine x_iload_n (pc' := 2) rfl rfl rfl ?_
      refine x_icmp (a' := 14) (pc' := 5) (z := decide ((xs 2) < (-1000000))) rfl rfl rfl rfl (fun h => absurd (of_decide_eq_true h) (of_decide_eq_false q5)) (fun _ => ?_)
      refine x_iload_n (pc' := 6) rfl rfl rfl ?_
      refine x_iload_n (pc' := 7) rfl rfl rfl ?_
      refine x_icmp (a' := 14) (pc' := 10) (z := decide (1000000 < (xs 2))) rfl rfl rfl rfl (fun _ => ?_) (fun h => absurd (of_decide_eq_true q16) (of_decide_eq_false h))
      refine x_iconst (pc' := 15) rfl rfl ?_
      refine x_retz (z := false) rfl rfl ?_
      refine sK_i (pc' := 24) rfl ?_
      refine x_if (a' := 31) (pc' := 27) (z := false) rfl rfl rfl (by decide) (fun h => by cases h) (fun _ => ?_)
      refine x_iconst (pc' := 28) rfl rfl ?_
      refine x_goto (pc' := 45) rfl rfl ?_
      refine x_cv (ls0 := [_, _]) (rest := []) rfl rfl rfl rfl rfl ?_
      refine x_aload_n (pc' := 1) rfl rfl rfl rfl rfl ?_
      refine x_iload_n (pc' := 2) rfl rfl rfl ?_
      refine x_pI (pc' := 5) rfl rfl rfl ?_
      refine x_iload_n (pc' := 6) rfl rfl rfl ?_
      refine x_if (a' := 13) (pc' := 9) (z := true) rfl rfl rfl (by decide) (fun _ => ?_) (fun h => by cases h)
      refine x_iconst (pc' := 14) rfl rfl ?_
      refine x_retz (z := false) rfl rfl ?_
      refine sK_i (pc' := 48) rfl ?_
      refine x_if (a' := 53) (pc' := 51) (z := false) rfl rfl rfl (by decide) (fun h => by cases h) (fun _ => ?_)
      refine x_iconst (pc' := 52) rfl rfl ?_
      refine x_reti rfl rfl ?_
      refine sK_i (pc' := 1522) rfl ?_
      refine x_istore (pc' := 1524) (ls' := [_, _, _, _, _, _, _]) rfl rfl rfl rfl ?_
      refine x_aload_n (pc' := 1525) rfl rfl rfl rfl rfl ?_
      refine x_cv (ls0 := [_]) (rest := []) rfl rfl rfl rfl rfl ?_
      refine x_aload_n (pc' := 1) rfl rfl rfl rfl rfl ?_
      refine x_gI (pc' := 4) (x := 2) rfl rfl rfl sI_s ?_
      refine x_reti rfl rfl ?_
      refine sK_i (pc' := 1528) rfl ?_
      refine x_iload (pc' := 1530) rfl rfl rfl ?_
      refine x_icmp (a' := 1535) (pc' := 1533) (z := true) rfl rfl rfl (by decide) (fun _ => ?_) (fun h => by cases h)
      refine x_iload (pc' := 1537) rfl rfl rfl ?_
      refine x_if (a' := 1552) (pc' := 1540) (z := true) rfl rfl rfl (by decide) (fun _ => ?_) (fun h => by cases h)
      refine x_goto (pc' := 2938) rfl rfl ?_
      refine x_iinc (pc' := 2941) (y := 7) (ls' := [_, _, _, _, _, _, _]) rfl rfl rfl rfl rfl ?_
      refine x_goto (pc' := 23) rfl rfl ?_
      refine x_iload (pc' := 25) rfl rfl rfl ?_
      refine x_aload_n (pc' := 26) rfl rfl rfl rfl rfl ?_
      refine x_alen (pc' := 27) (N := 7) rfl rfl rfl (Eq.trans rdNI (Eq.trans rdNthr (z_N_29_0 e))) (?_ : X _ _ _ (.inl 7 :: _) _ _)
      refine x_bipush (pc' := 29) rfl rfl ?_
      refine x_isub (pc' := 30) (z := 0) rfl rfl (by decide) ?_
      refine x_icmp (a' := 2944) (pc' := 33) (z := true) rfl rfl rfl (by decide) (fun _ => ?_) (fun h => by cases h)
      refine x_iconst (pc' := 2945) rfl rfl ?_
      refine x_retz (z := true) rfl rfl ?_
      exact Qp_ok e (p := 1) (q := 6) rfl rfl rfl rfl
set_option maxHeartbeats 4000000 in
set_option maxRecDepth 10000 in
theorem v_16_5_i {t : sT} {xs : Nat → Int32}
    (e : t = T16 7 xs)
    (hk : ((xs 0) &&& 63) = 16)
    (e0 : xs 1 = 5) :
    X 297 23 [.inr (.inr (29, (some 0))), .inr (.inr (11, (some 0))), .inr (.inr (12, (some 0))), .inr (.inr (23, (some 0))), .inl 0, sJk, sJk] [] t Qp := by
  refine x_iload (pc' := 25) rfl rfl rfl ?_
  refine x_aload_n (pc' := 26) rfl rfl rfl rfl rfl ?_
  refine x_alen (pc' := 27) (N := 7) rfl rfl rfl (z_N_29_0 e) (?_ : X _ _ _ (.inl 7 :: _) _ _)
  refine x_bipush (pc' := 29) rfl rfl ?_
  refine x_isub (pc' := 30) (z := 0) rfl rfl (by decide) ?_
  refine x_icmp (a' := 2944) (pc' := 33) (z := false) rfl rfl rfl (by decide) (fun h => by cases h) (fun _ => ?_)
  refine x_aload_n (pc' := 34) rfl rfl rfl rfl rfl ?_
  refine x_iload (pc' := 36) rfl rfl rfl ?_
  refine x_iald (pc' := 37) (N := 7) (x := (xs 0)) rfl rfl rfl (z_N_29_0 e) (io_in (p := 0) (N := 7) (by decide) (by decide)) (Eq.trans (congrArg (sA t 29 0) (nn_io (p := 0) (by decide))) (z_A_29_0_0 e)) ?_
  refine x_bipush (pc' := 39) rfl rfl ?_
  refine x_iand (pc' := 40) (z := ((xs 0) &&& 63)) rfl rfl rfl ?_
  refine x_switch (pc' := 1487) rfl (by rw [hk]; decide) ?_
  refine x_aload_n (pc' := 1488) rfl rfl rfl rfl rfl ?_
  refine x_aload_n (pc' := 1489) rfl rfl rfl rfl rfl ?_
  refine x_iload (pc' := 1491) rfl rfl rfl ?_
  refine x_iconst (pc' := 1492) rfl rfl ?_
  refine x_iadd (pc' := 1493) (z := 1) rfl rfl (by decide) ?_
  refine x_iald (pc' := 1494) (N := 7) (x := 5) rfl rfl rfl (z_N_29_0 e) (io_in (p := 1) (N := 7) (by decide) (by decide)) (Eq.trans (congrArg (sA t 29 0) (nn_io (p := 1) (by decide))) (Eq.trans (z_A_29_0_1 e) e0)) ?_
  refine x_aload_n (pc' := 1495) rfl rfl rfl rfl rfl ?_
  refine x_iload (pc' := 1497) rfl rfl rfl ?_
  refine x_iconst (pc' := 1498) rfl rfl ?_
  refine x_iadd (pc' := 1499) (z := 2) rfl rfl (by decide) ?_
  refine x_iald (pc' := 1500) (N := 7) (x := (xs 2)) rfl rfl rfl (z_N_29_0 e) (io_in (p := 2) (N := 7) (by decide) (by decide)) (Eq.trans (congrArg (sA t 29 0) (nn_io (p := 2) (by decide))) (z_A_29_0_2 e)) ?_
  refine x_aload_n (pc' := 1501) rfl rfl rfl rfl rfl ?_
  refine x_cs (ls0 := [_, _, _, _, sJk]) (rest := []) rfl rfl rfl rfl ?_
  refine x_aload_n (pc' := 1) rfl rfl rfl rfl rfl ?_
  refine x_iconst (pc' := 2) rfl rfl ?_
  refine x_aload_n (pc' := 3) rfl rfl rfl rfl rfl ?_
  refine x_iload_n (pc' := 4) rfl rfl rfl ?_
  refine x_iload_n (pc' := 5) rfl rfl rfl ?_
  refine x_cv (ls0 := [_, _, _, sJk]) (rest := [_, _]) rfl rfl rfl rfl rfl ?_
  refine x_aload_n (pc' := 1) rfl rfl rfl rfl rfl ?_
  refine x_iload_n (pc' := 2) rfl rfl rfl ?_
  refine x_cv (ls0 := [_, _]) (rest := []) rfl rfl rfl rfl rfl ?_
  refine x_iload_n (pc' := 1) rfl rfl rfl ?_
  refine x_if (a' := 16) (pc' := 4) (z := false) rfl rfl rfl (by decide) (fun h => by cases h) (fun _ => ?_)
  refine x_iload_n (pc' := 5) rfl rfl rfl ?_
  refine x_aload_n (pc' := 6) rfl rfl rfl rfl rfl ?_
  refine x_gR (pc' := 9) (r := (some 0)) rfl rfl rfl (z_R_704_0 e) ?_
  refine x_gR (pc' := 12) (r := (some 0)) rfl rfl rfl (z_R_321_0 e) ?_
  refine x_alen (pc' := 13) (N := 6) rfl rfl rfl (z_N_26_0 e) (?_ : X _ _ _ (.inl 6 :: _) _ _)
  refine x_icmp (a' := 27) (pc' := 16) (z := true) rfl rfl rfl (by decide) (fun _ => ?_) (fun h => by cases h)
  refine x_aload_n (pc' := 28) rfl rfl rfl rfl rfl ?_
  refine x_gR (pc' := 31) (r := (some 0)) rfl rfl rfl (z_R_704_0 e) ?_
  refine x_gR (pc' := 34) (r := (some 0)) rfl rfl rfl (z_R_321_0 e) ?_
  refine x_iload_n (pc' := 35) rfl rfl rfl ?_
  refine x_aald (pc' := 36) (N := 6) (k' := 7) (r := (some 5)) rfl rfl rfl (z_N_26_0 e) (io_in (p := 5) (N := 6) (by decide) (by decide)) (Eq.trans (congrArg (sE t 26 0) (nn_io (p := 5) (by decide))) (z_E_26_0_5 e)) ?_
  refine x_reta rfl rfl ?_
  refine sK_i (pc' := 5) rfl ?_
  refine x_astore_n (pc' := 6) (ls' := [_, _, _, _]) rfl rfl rfl rfl rfl ?_
  refine x_iload_n (pc' := 7) rfl rfl rfl ?_
  refine x_ldc (pc' := 9) rfl rfl ?_
  refine x_ldc (pc' := 11) rfl rfl ?_
  refine x_cs (ls0 := [_, _, _]) (rest := []) rfl rfl rfl rfl ?_
  refine x_iload_n (pc' := 1) rfl rfl rfl ?_
  refine x_iload_n (pc' := 2) rfl rfl rfl ?_
  refine x_icmp (a' := 10) (pc' := 5) (z := decide ((xs 2) < (-1000000))) rfl rfl rfl rfl (fun q5 => ?_) (fun q5 => ?_)
  · refine x_throw rfl rfl ?_
    refine sK_n (by decide +kernel) rfl ?_
    refine sK_h (h := 17) (by decide +kernel) rfl ?_
    refine x_catch (pc' := 19) (ls' := [_, _, _, _, _]) rfl rfl rfl rfl ?_
    refine x_iconst (pc' := 20) rfl rfl ?_
    refine x_reti rfl rfl ?_
    refine sK_i (pc' := 1504) rfl ?_
    refine x_istore (pc' := 1506) (ls' := [_, _, _, _, _, _, _]) rfl rfl rfl rfl ?_
    refine x_aload_n (pc' := 1507) rfl rfl rfl rfl rfl ?_
    refine x_aload_n (pc' := 1508) rfl rfl rfl rfl rfl ?_
    refine x_iload (pc' := 1510) rfl rfl rfl ?_
    refine x_iconst (pc' := 1511) rfl rfl ?_
    refine x_iadd (pc' := 1512) (z := 1) rfl rfl (by decide) ?_
    refine x_iald (pc' := 1513) (N := 7) (x := 5) rfl rfl rfl (Eq.trans rdNthr (z_N_29_0 e)) (io_in (p := 1) (N := 7) (by decide) (by decide)) (Eq.trans (congrArg (sA (sThr t) 29 0) (nn_io (p := 1) (by decide))) (Eq.trans rdAthr (Eq.trans (z_A_29_0_1 e) e0))) ?_
    refine x_aload_n (pc' := 1514) rfl rfl rfl rfl rfl ?_
    refine x_iload (pc' := 1516) rfl rfl rfl ?_
    refine x_iconst (pc' := 1517) rfl rfl ?_
    refine x_iadd (pc' := 1518) (z := 2) rfl rfl (by decide) ?_
    refine x_iald (pc' := 1519) (N := 7) (x := (xs 2)) rfl rfl rfl (Eq.trans rdNthr (z_N_29_0 e)) (io_in (p := 2) (N := 7) (by decide) (by decide)) (Eq.trans (congrArg (sA (sThr t) 29 0) (nn_io (p := 2) (by decide))) (Eq.trans rdAthr (z_A_29_0_2 e))) ?_
    refine x_cv (ls0 := [_, _, _, sJk, sJk, sJk]) (rest := []) rfl rfl rfl rfl rfl ?_
    refine x_iload_n (pc' := 1) rfl rfl rfl ?_
    refine x_cs (ls0 := [_]) (rest := []) rfl rfl rfl rfl ?_
    refine x_iload_n (pc' := 1) rfl rfl rfl ?_
    refine x_iconst (pc' := 2) rfl rfl ?_
    refine x_iconst (pc' := 3) rfl rfl ?_
    refine x_cs (ls0 := [_, _, _]) (rest := []) rfl rfl rfl rfl ?_
    refine x_iload_n (pc' := 1) rfl rfl rfl ?_
    refine x_iload_n (pc' := 2) rfl rfl rfl ?_
    refine x_icmp (a' := 14) (pc' := 5) (z := false) rfl rfl rfl (by decide) (fun h => by cases h) (fun _ => ?_)
    refine x_iload_n (pc' := 6) rfl rfl rfl ?_
    refine x_iload_n (pc' := 7) rfl rfl rfl ?_
    refine x_icmp (a' := 14) (pc' := 10) (z := false) rfl rfl rfl (by decide) (fun h => by cases h) (fun _ => ?_)
    refine x_iconst (pc' := 11) rfl rfl ?_
    refine x_goto (pc' := 15) rfl rfl ?_
    refine x_retz (z := true) rfl rfl ?_
    refine sK_i (pc' := 6) rfl ?_
    refine x_retz (z := true) rfl rfl ?_
    refine sK_i (pc' := 4) rfl ?_
    refine x_istore_n (pc' := 5) (ls' := [_, _, _, _, _, _]) rfl rfl rfl rfl ?_
    refine x_aload_n (pc' := 6) rfl rfl rfl rfl rfl ?_
    refine x_iload_n (pc' := 7) rfl rfl rfl ?_
    refine x_if (a' := 14) (pc' := 10) (z := true) rfl rfl rfl (by decide) (fun _ => ?_) (fun h => by cases h)
    refine x_iload_n (pc' := 15) rfl rfl rfl ?_
    refine x_ldc_w (pc' := 18) rfl rfl ?_
    refine x_ldc_w (pc' := 21) rfl rfl ?_
    refine x_cs (ls0 := [_, _, _]) (rest := [_]) rfl rfl rfl rfl ?_
    refine x_iload_n (pc' := 1) rfl rfl rfl ?_
    refine x_iload_n (pc' := 2) rfl rfl rfl ?_
    refine x_icmp (a' := 14) (pc' := 5) (z := decide ((xs 2) < (-1000000))) rfl rfl rfl rfl (fun _ => ?_) (fun h => absurd (of_decide_eq_true q5) (of_decide_eq_false h))
    refine x_iconst (pc' := 15) rfl rfl ?_
    refine x_retz (z := false) rfl rfl ?_
    refine sK_i (pc' := 24) rfl ?_
    refine x_if (a' := 31) (pc' := 27) (z := false) rfl rfl rfl (by decide) (fun h => by cases h) (fun _ => ?_)
    refine x_iconst (pc' := 28) rfl rfl ?_
    refine x_goto (pc' := 45) rfl rfl ?_
    refine x_cv (ls0 := [_, _]) (rest := []) rfl rfl rfl rfl rfl ?_
    refine x_aload_n (pc' := 1) rfl rfl rfl rfl rfl ?_
    refine x_iload_n (pc' := 2) rfl rfl rfl ?_
    refine x_pI (pc' := 5) rfl rfl rfl ?_
    refine x_iload_n (pc' := 6) rfl rfl rfl ?_
    refine x_if (a' := 13) (pc' := 9) (z := true) rfl rfl rfl (by decide) (fun _ => ?_) (fun h => by cases h)
    refine x_iconst (pc' := 14) rfl rfl ?_
    refine x_retz (z := false) rfl rfl ?_
    refine sK_i (pc' := 48) rfl ?_
    refine x_if (a' := 53) (pc' := 51) (z := false) rfl rfl rfl (by decide) (fun h => by cases h) (fun _ => ?_)
    refine x_iconst (pc' := 52) rfl rfl ?_
    refine x_reti rfl rfl ?_
    refine sK_i (pc' := 1522) rfl ?_
    refine x_istore (pc' := 1524) (ls' := [_, _, _, _, _, _, _]) rfl rfl rfl rfl ?_
    refine x_aload_n (pc' := 1525) rfl rfl rfl rfl rfl ?_
    refine x_cv (ls0 := [_]) (rest := []) rfl rfl rfl rfl rfl ?_
    refine x_aload_n (pc' := 1) rfl rfl rfl rfl rfl ?_
    refine x_gI (pc' := 4) (x := 2) rfl rfl rfl sI_s ?_
    refine x_reti rfl rfl ?_
    refine sK_i (pc' := 1528) rfl ?_
    refine x_iload (pc' := 1530) rfl rfl rfl ?_
    refine x_icmp (a' := 1535) (pc' := 1533) (z := true) rfl rfl rfl (by decide) (fun _ => ?_) (fun h => by cases h)
    refine x_iload (pc' := 1537) rfl rfl rfl ?_
    refine x_if (a' := 1552) (pc' := 1540) (z := true) rfl rfl rfl (by decide) (fun _ => ?_) (fun h => by cases h)
    refine x_goto (pc' := 2938) rfl rfl ?_
    refine x_iinc (pc' := 2941) (y := 7) (ls' := [_, _, _, _, _, _, _]) rfl rfl rfl rfl rfl ?_
    refine x_goto (pc' := 23) rfl rfl ?_
    refine x_iload (pc' := 25) rfl rfl rfl ?_
    refine x_aload_n (pc' := 26) rfl rfl rfl rfl rfl ?_
    refine x_alen (pc' := 27) (N := 7) rfl rfl rfl (Eq.trans rdNI (Eq.trans rdNthr (z_N_29_0 e))) (?_ : X _ _ _ (.inl 7 :: _) _ _)
    refine x_bipush (pc' := 29) rfl rfl ?_
    refine x_isub (pc' := 30) (z := 0) rfl rfl (by decide) ?_
    refine x_icmp (a' := 2944) (pc' := 33) (z := true) rfl rfl rfl (by decide) (fun _ => ?_) (fun h => by cases h)
    refine x_iconst (pc' := 2945) rfl rfl ?_
    refine x_retz (z := true) rfl rfl ?_
    exact Qp_ok e (p := 1) (q := 6) rfl rfl rfl rfl
  · refine x_iload_n (pc' := 6) rfl rfl rfl ?_
    refine x_iload_n (pc' := 7) rfl rfl rfl ?_
    refine x_icmp_n (a' := 21) (pc' := 10) (z := decide (1000000 < (xs 2))) rfl rfl rfl (ik_le _ _) (fun q16 => ?_) (fun q16 => ?_)
    · refine x_ret rfl ?_
      refine sK_v (pc' := 14) rfl ?_
      refine x_aload_n (pc' := 15) rfl rfl rfl rfl rfl ?_
      refine x_gZ (pc' := 18) (z := false) rfl rfl rfl (z_Z_458_5 e) ?_
      refine x_if (a' := 25) (pc' := 21) (z := false) rfl rfl rfl (by decide) (fun h => by cases h) (fun _ => ?_)
      refine x_iconst (pc' := 22) rfl rfl ?_
      refine x_goto (pc' := 26) rfl rfl ?_
      refine x_cs (ls0 := [_]) (rest := []) rfl rfl rfl rfl ?_
      refine x_iload_n (pc' := 1) rfl rfl rfl ?_
      refine x_if (a' := 15) (pc' := 4) (z := true) rfl rfl rfl (by decide) (fun _ => ?_) (fun h => by cases h)
      refine x_ret rfl ?_
      refine sK_v (pc' := 29) rfl ?_
      refine x_aload_n (pc' := 30) rfl rfl rfl rfl rfl ?_
      refine x_iconst (pc' := 31) rfl rfl ?_
      refine x_pZ (pc' := 34) (z := true) rfl rfl rfl rfl ?_
      refine x_aload_n (pc' := 35) rfl rfl rfl rfl rfl ?_
      refine x_iload_n (pc' := 36) rfl rfl rfl ?_
      refine x_pI (pc' := 39) rfl rfl rfl ?_
      refine x_aload_n (pc' := 40) rfl rfl rfl rfl rfl ?_
      refine x_gR (pc' := 43) (r := (some 0)) rfl rfl rfl (Eq.trans rdRI (Eq.trans rdRZ (z_R_704_0 e))) ?_
      refine x_cv (ls0 := [_, sJk, sJk, sJk, sJk, sJk]) (rest := []) rfl rfl rfl rfl rfl ?_
      refine x_iconst (pc' := 1) rfl rfl ?_
      refine x_istore_n (pc' := 2) (ls' := [_, _, _, _, _, _]) rfl rfl rfl rfl ?_
      refine x_aload_n (pc' := 3) rfl rfl rfl rfl rfl ?_
      refine x_gR (pc' := 6) (r := (some 0)) rfl rfl rfl (Eq.trans rdRI (Eq.trans rdRZ (z_R_321_0 e))) ?_
      refine x_astore_n (pc' := 7) (ls' := [_, _, _, _, _, _]) rfl rfl rfl rfl rfl ?_
      refine x_aload_n (pc' := 8) rfl rfl rfl rfl rfl ?_
      refine x_alen (pc' := 9) (N := 6) rfl rfl rfl (Eq.trans rdNI (Eq.trans rdNZ (z_N_26_0 e))) (?_ : X _ _ _ (.inl 6 :: _) _ _)
      refine x_istore_n (pc' := 10) (ls' := [_, _, _, _, _, _]) rfl rfl rfl rfl ?_
      refine x_iconst (pc' := 11) rfl rfl ?_
      refine x_istore (pc' := 13) (ls' := [_, _, _, _, _, _]) rfl rfl rfl rfl ?_
      refine x_iload (pc' := 15) rfl rfl rfl ?_
      refine x_iload_n (pc' := 16) rfl rfl rfl ?_
      refine x_icmp (a' := 47) (pc' := 19) (z := false) rfl rfl rfl (by decide) (fun h => by cases h) (fun _ => ?_)
      refine x_aload_n (pc' := 20) rfl rfl rfl rfl rfl ?_
      refine x_iload (pc' := 22) rfl rfl rfl ?_
      refine x_aald (pc' := 23) (N := 6) (k' := 7) (r := (some 0)) rfl rfl rfl (Eq.trans rdNI (Eq.trans rdNZ (z_N_26_0 e))) (io_in (p := 0) (N := 6) (by decide) (by decide)) (Eq.trans (congrArg (sE (sIw (sZw t 457 5 true) 456 5 (xs 2)) 26 0) (nn_io (p := 0) (by decide))) (Eq.trans rdEI (Eq.trans rdEZ (z_E_26_0_0 e)))) ?_
      refine x_astore (pc' := 25) (ls' := [_, _, _, _, _, _]) rfl rfl rfl rfl rfl ?_
      refine x_iload_n (pc' := 26) rfl rfl rfl ?_
      refine x_aload (pc' := 28) rfl rfl rfl rfl rfl ?_
      refine x_gZ (pc' := 31) (z := false) rfl rfl rfl (Eq.trans rdZI (Eq.trans (rdZ_o rfl) (z_Z_457_0 e))) ?_
      refine x_if (a' := 38) (pc' := 34) (z := true) rfl rfl rfl (by decide) (fun _ => ?_) (fun h => by cases h)
      refine x_iconst (pc' := 39) rfl rfl ?_
      refine x_iadd (pc' := 40) (z := 0) rfl rfl (by decide) ?_
      refine x_istore_n (pc' := 41) (ls' := [_, _, _, _, _, _]) rfl rfl rfl rfl ?_
      refine x_iinc (pc' := 44) (y := 1) (ls' := [_, _, _, _, _, _]) rfl rfl rfl rfl rfl ?_
      refine x_goto (pc' := 13) rfl rfl ?_
      refine x_iload (pc' := 15) rfl rfl rfl ?_
      refine x_iload_n (pc' := 16) rfl rfl rfl ?_
      refine x_icmp (a' := 47) (pc' := 19) (z := false) rfl rfl rfl (by decide) (fun h => by cases h) (fun _ => ?_)
      refine x_aload_n (pc' := 20) rfl rfl rfl rfl rfl ?_
      refine x_iload (pc' := 22) rfl rfl rfl ?_
      refine x_aald (pc' := 23) (N := 6) (k' := 7) (r := (some 1)) rfl rfl rfl (Eq.trans rdNI (Eq.trans rdNZ (z_N_26_0 e))) (io_in (p := 1) (N := 6) (by decide) (by decide)) (Eq.trans (congrArg (sE (sIw (sZw t 457 5 true) 456 5 (xs 2)) 26 0) (nn_io (p := 1) (by decide))) (Eq.trans rdEI (Eq.trans rdEZ (z_E_26_0_1 e)))) ?_
      refine x_astore (pc' := 25) (ls' := [_, _, _, _, _, _]) rfl rfl rfl rfl rfl ?_
      refine x_iload_n (pc' := 26) rfl rfl rfl ?_
      refine x_aload (pc' := 28) rfl rfl rfl rfl rfl ?_
      refine x_gZ (pc' := 31) (z := false) rfl rfl rfl (Eq.trans rdZI (Eq.trans (rdZ_o rfl) (z_Z_457_1 e))) ?_
      refine x_if (a' := 38) (pc' := 34) (z := true) rfl rfl rfl (by decide) (fun _ => ?_) (fun h => by cases h)
      refine x_iconst (pc' := 39) rfl rfl ?_
      refine x_iadd (pc' := 40) (z := 0) rfl rfl (by decide) ?_
      refine x_istore_n (pc' := 41) (ls' := [_, _, _, _, _, _]) rfl rfl rfl rfl ?_
      refine x_iinc (pc' := 44) (y := 2) (ls' := [_, _, _, _, _, _]) rfl rfl rfl rfl rfl ?_
      refine x_goto (pc' := 13) rfl rfl ?_
      refine x_iload (pc' := 15) rfl rfl rfl ?_
      refine x_iload_n (pc' := 16) rfl rfl rfl ?_
      refine x_icmp (a' := 47) (pc' := 19) (z := false) rfl rfl rfl (by decide) (fun h => by cases h) (fun _ => ?_)
      refine x_aload_n (pc' := 20) rfl rfl rfl rfl rfl ?_
      refine x_iload (pc' := 22) rfl rfl rfl ?_
      refine x_aald (pc' := 23) (N := 6) (k' := 7) (r := (some 2)) rfl rfl rfl (Eq.trans rdNI (Eq.trans rdNZ (z_N_26_0 e))) (io_in (p := 2) (N := 6) (by decide) (by decide)) (Eq.trans (congrArg (sE (sIw (sZw t 457 5 true) 456 5 (xs 2)) 26 0) (nn_io (p := 2) (by decide))) (Eq.trans rdEI (Eq.trans rdEZ (z_E_26_0_2 e)))) ?_
      refine x_astore (pc' := 25) (ls' := [_, _, _, _, _, _]) rfl rfl rfl rfl rfl ?_
      refine x_iload_n (pc' := 26) rfl rfl rfl ?_
      refine x_aload (pc' := 28) rfl rfl rfl rfl rfl ?_
      refine x_gZ (pc' := 31) (z := false) rfl rfl rfl (Eq.trans rdZI (Eq.trans (rdZ_o rfl) (z_Z_457_2 e))) ?_
      refine x_if (a' := 38) (pc' := 34) (z := true) rfl rfl rfl (by decide) (fun _ => ?_) (fun h => by cases h)
      refine x_iconst (pc' := 39) rfl rfl ?_
      refine x_iadd (pc' := 40) (z := 0) rfl rfl (by decide) ?_
      refine x_istore_n (pc' := 41) (ls' := [_, _, _, _, _, _]) rfl rfl rfl rfl ?_
      refine x_iinc (pc' := 44) (y := 3) (ls' := [_, _, _, _, _, _]) rfl rfl rfl rfl rfl ?_
      refine x_goto (pc' := 13) rfl rfl ?_
      refine x_iload (pc' := 15) rfl rfl rfl ?_
      refine x_iload_n (pc' := 16) rfl rfl rfl ?_
      refine x_icmp (a' := 47) (pc' := 19) (z := false) rfl rfl rfl (by decide) (fun h => by cases h) (fun _ => ?_)
      refine x_aload_n (pc' := 20) rfl rfl rfl rfl rfl ?_
      refine x_iload (pc' := 22) rfl rfl rfl ?_
      refine x_aald (pc' := 23) (N := 6) (k' := 7) (r := (some 3)) rfl rfl rfl (Eq.trans rdNI (Eq.trans rdNZ (z_N_26_0 e))) (io_in (p := 3) (N := 6) (by decide) (by decide)) (Eq.trans (congrArg (sE (sIw (sZw t 457 5 true) 456 5 (xs 2)) 26 0) (nn_io (p := 3) (by decide))) (Eq.trans rdEI (Eq.trans rdEZ (z_E_26_0_3 e)))) ?_
      refine x_astore (pc' := 25) (ls' := [_, _, _, _, _, _]) rfl rfl rfl rfl rfl ?_
      refine x_iload_n (pc' := 26) rfl rfl rfl ?_
      refine x_aload (pc' := 28) rfl rfl rfl rfl rfl ?_
      refine x_gZ (pc' := 31) (z := false) rfl rfl rfl (Eq.trans rdZI (Eq.trans (rdZ_o rfl) (z_Z_457_3 e))) ?_
      refine x_if (a' := 38) (pc' := 34) (z := true) rfl rfl rfl (by decide) (fun _ => ?_) (fun h => by cases h)
      refine x_iconst (pc' := 39) rfl rfl ?_
      refine x_iadd (pc' := 40) (z := 0) rfl rfl (by decide) ?_
      refine x_istore_n (pc' := 41) (ls' := [_, _, _, _, _, _]) rfl rfl rfl rfl ?_
      refine x_iinc (pc' := 44) (y := 4) (ls' := [_, _, _, _, _, _]) rfl rfl rfl rfl rfl ?_
      refine x_goto (pc' := 13) rfl rfl ?_
      refine x_iload (pc' := 15) rfl rfl rfl ?_
      refine x_iload_n (pc' := 16) rfl rfl rfl ?_
      refine x_icmp (a' := 47) (pc' := 19) (z := false) rfl rfl rfl (by decide) (fun h => by cases h) (fun _ => ?_)
      refine x_aload_n (pc' := 20) rfl rfl rfl rfl rfl ?_
      refine x_iload (pc' := 22) rfl rfl rfl ?_
      refine x_aald (pc' := 23) (N := 6) (k' := 7) (r := (some 4)) rfl rfl rfl (Eq.trans rdNI (Eq.trans rdNZ (z_N_26_0 e))) (io_in (p := 4) (N := 6) (by decide) (by decide)) (Eq.trans (congrArg (sE (sIw (sZw t 457 5 true) 456 5 (xs 2)) 26 0) (nn_io (p := 4) (by decide))) (Eq.trans rdEI (Eq.trans rdEZ (z_E_26_0_4 e)))) ?_
      refine x_astore (pc' := 25) (ls' := [_, _, _, _, _, _]) rfl rfl rfl rfl rfl ?_
      refine x_iload_n (pc' := 26) rfl rfl rfl ?_
      refine x_aload (pc' := 28) rfl rfl rfl rfl rfl ?_
      refine x_gZ (pc' := 31) (z := false) rfl rfl rfl (Eq.trans rdZI (Eq.trans (rdZ_o rfl) (z_Z_457_4 e))) ?_
      refine x_if (a' := 38) (pc' := 34) (z := true) rfl rfl rfl (by decide) (fun _ => ?_) (fun h => by cases h)
      refine x_iconst (pc' := 39) rfl rfl ?_
      refine x_iadd (pc' := 40) (z := 0) rfl rfl (by decide) ?_
      refine x_istore_n (pc' := 41) (ls' := [_, _, _, _, _, _]) rfl rfl rfl rfl ?_
      refine x_iinc (pc' := 44) (y := 5) (ls' := [_, _, _, _, _, _]) rfl rfl rfl rfl rfl ?_
      refine x_goto (pc' := 13) rfl rfl ?_
      refine x_iload (pc' := 15) rfl rfl rfl ?_
      refine x_iload_n (pc' := 16) rfl rfl rfl ?_
      refine x_icmp (a' := 47) (pc' := 19) (z := false) rfl rfl rfl (by decide) (fun h => by cases h) (fun _ => ?_)
      refine x_aload_n (pc' := 20) rfl rfl rfl rfl rfl ?_
      refine x_iload (pc' := 22) rfl rfl rfl ?_
      refine x_aald (pc' := 23) (N := 6) (k' := 7) (r := (some 5)) rfl rfl rfl (Eq.trans rdNI (Eq.trans rdNZ (z_N_26_0 e))) (io_in (p := 5) (N := 6) (by decide) (by decide)) (Eq.trans (congrArg (sE (sIw (sZw t 457 5 true) 456 5 (xs 2)) 26 0) (nn_io (p := 5) (by decide))) (Eq.trans rdEI (Eq.trans rdEZ (z_E_26_0_5 e)))) ?_
      refine x_astore (pc' := 25) (ls' := [_, _, _, _, _, _]) rfl rfl rfl rfl rfl ?_
      refine x_iload_n (pc' := 26) rfl rfl rfl ?_
      refine x_aload (pc' := 28) rfl rfl rfl rfl rfl ?_
      refine x_gZ (pc' := 31) (z := true) rfl rfl rfl (Eq.trans rdZI sZ_s) ?_
      refine x_if (a' := 38) (pc' := 34) (z := false) rfl rfl rfl (by decide) (fun h => by cases h) (fun _ => ?_)
      refine x_iconst (pc' := 35) rfl rfl ?_
      refine x_goto (pc' := 39) rfl rfl ?_
      refine x_iadd (pc' := 40) (z := 1) rfl rfl (by decide) ?_
      refine x_istore_n (pc' := 41) (ls' := [_, _, _, _, _, _]) rfl rfl rfl rfl ?_
      refine x_iinc (pc' := 44) (y := 6) (ls' := [_, _, _, _, _, _]) rfl rfl rfl rfl rfl ?_
      refine x_goto (pc' := 13) rfl rfl ?_
      refine x_iload (pc' := 15) rfl rfl rfl ?_
      refine x_iload_n (pc' := 16) rfl rfl rfl ?_
      refine x_icmp (a' := 47) (pc' := 19) (z := true) rfl rfl rfl (by decide) (fun _ => ?_) (fun h => by cases h)
      refine x_iload_n (pc' := 48) rfl rfl rfl ?_
      refine x_reti rfl rfl ?_
      refine sK_i (pc' := 46) rfl ?_
      refine x_reti rfl rfl ?_
      refine sK_i (pc' := 8) rfl ?_
      refine x_i2l (pc' := 9) (z := (1 : Int64)) rfl rfl (by decide) ?_
      refine x_last (pc' := 10) (N := 1) (p := 0) rfl rfl (Eq.trans rdNI (Eq.trans rdNZ (z_N_23_0 e))) (io_in (p := 0) (N := 1) (by decide) (by decide)) (nn_io (p := 0) (by decide)) ?_
      refine x_goto (pc' := 25) rfl rfl ?_
      refine x_iconst (pc' := 26) rfl rfl ?_
      refine x_reti rfl rfl ?_
      refine sK_i (pc' := 1504) rfl ?_
      refine x_istore (pc' := 1506) (ls' := [_, _, _, _, _, _, _]) rfl rfl rfl rfl ?_
      refine x_aload_n (pc' := 1507) rfl rfl rfl rfl rfl ?_
      refine x_aload_n (pc' := 1508) rfl rfl rfl rfl rfl ?_
      refine x_iload (pc' := 1510) rfl rfl rfl ?_
      refine x_iconst (pc' := 1511) rfl rfl ?_
      refine x_iadd (pc' := 1512) (z := 1) rfl rfl (by decide) ?_
      refine x_iald (pc' := 1513) (N := 7) (x := 5) rfl rfl rfl (Eq.trans rdNL (Eq.trans rdNI (Eq.trans rdNZ (z_N_29_0 e)))) (io_in (p := 1) (N := 7) (by decide) (by decide)) (Eq.trans (congrArg (sA (sLw (sIw (sZw t 457 5 true) 456 5 (xs 2)) 23 0 0 (1 : Int64)) 29 0) (nn_io (p := 1) (by decide))) (Eq.trans rdAL (Eq.trans rdAI (Eq.trans rdAZ (Eq.trans (z_A_29_0_1 e) e0))))) ?_
      refine x_aload_n (pc' := 1514) rfl rfl rfl rfl rfl ?_
      refine x_iload (pc' := 1516) rfl rfl rfl ?_
      refine x_iconst (pc' := 1517) rfl rfl ?_
      refine x_iadd (pc' := 1518) (z := 2) rfl rfl (by decide) ?_
      refine x_iald (pc' := 1519) (N := 7) (x := (xs 2)) rfl rfl rfl (Eq.trans rdNL (Eq.trans rdNI (Eq.trans rdNZ (z_N_29_0 e)))) (io_in (p := 2) (N := 7) (by decide) (by decide)) (Eq.trans (congrArg (sA (sLw (sIw (sZw t 457 5 true) 456 5 (xs 2)) 23 0 0 (1 : Int64)) 29 0) (nn_io (p := 2) (by decide))) (Eq.trans rdAL (Eq.trans rdAI (Eq.trans rdAZ (z_A_29_0_2 e))))) ?_
      refine x_cv (ls0 := [_, _, _, sJk, sJk, sJk]) (rest := []) rfl rfl rfl rfl rfl ?_
      refine x_iload_n (pc' := 1) rfl rfl rfl ?_
      refine x_cs (ls0 := [_]) (rest := []) rfl rfl rfl rfl ?_
      refine x_iload_n (pc' := 1) rfl rfl rfl ?_
      refine x_iconst (pc' := 2) rfl rfl ?_
      refine x_iconst (pc' := 3) rfl rfl ?_
      refine x_cs (ls0 := [_, _, _]) (rest := []) rfl rfl rfl rfl ?_
      refine x_iload_n (pc' := 1) rfl rfl rfl ?_
      refine x_iload_n (pc' := 2) rfl rfl rfl ?_
      refine x_icmp (a' := 14) (pc' := 5) (z := false) rfl rfl rfl (by decide) (fun h => by cases h) (fun _ => ?_)
      refine x_iload_n (pc' := 6) rfl rfl rfl ?_
      refine x_iload_n (pc' := 7) rfl rfl rfl ?_
      refine x_icmp (a' := 14) (pc' := 10) (z := false) rfl rfl rfl (by decide) (fun h => by cases h) (fun _ => ?_)
      refine x_iconst (pc' := 11) rfl rfl ?_
      refine x_goto (pc' := 15) rfl rfl ?_
      refine x_retz (z := true) rfl rfl ?_
      refine sK_i (pc' := 6) rfl ?_
      refine x_retz (z := true) rfl rfl ?_
      refine sK_i (pc' := 4) rfl ?_
      refine x_istore_n (pc' := 5) (ls' := [_, _, _, _, _, _]) rfl rfl rfl rfl ?_
      refine x_aload_n (pc' := 6) rfl rfl rfl rfl rfl ?_
      refine x_iload_n (pc' := 7) rfl rfl rfl ?_
      refine x_if (a' := 14) (pc' := 10) (z := true) rfl rfl rfl (by decide) (fun _ => ?_) (fun h => by cases h)
      refine x_iload_n (pc' := 15) rfl rfl rfl ?_
      refine x_ldc_w (pc' := 18) rfl rfl ?_
      refine x_ldc_w (pc' := 21) rfl rfl ?_
      refine x_cs (ls0 := [_, _, _]) (rest := [_]) rfl rfl rfl rfl ?_
      refine x_iload_n (pc' := 1) rfl rfl rfl ?_
      refine x_iload_n (pc' := 2) rfl rfl rfl ?_
      refine x_icmp (a' := 14) (pc' := 5) (z := decide ((xs 2) < (-1000000))) rfl rfl rfl rfl (fun h => absurd (of_decide_eq_true h) (of_decide_eq_false q5)) (fun _ => ?_)
      refine x_iload_n (pc' := 6) rfl rfl rfl ?_
      refine x_iload_n (pc' := 7) rfl rfl rfl ?_
      refine x_icmp (a' := 14) (pc' := 10) (z := decide (1000000 < (xs 2))) rfl rfl rfl rfl (fun h => absurd (of_decide_eq_true h) (of_decide_eq_false q16)) (fun _ => ?_)
      refine x_iconst (pc' := 11) rfl rfl ?_
      refine x_goto (pc' := 15) rfl rfl ?_
      refine x_retz (z := true) rfl rfl ?_
      refine sK_i (pc' := 24) rfl ?_
      refine x_if (a' := 31) (pc' := 27) (z := true) rfl rfl rfl (by decide) (fun _ => ?_) (fun h => by cases h)
      refine x_aload_n (pc' := 32) rfl rfl rfl rfl rfl ?_
      refine x_gR (pc' := 35) (r := (some 2)) rfl rfl rfl (Eq.trans rdRL (Eq.trans rdRI (Eq.trans rdRZ (z_R_781_0 e)))) ?_
      refine x_iload_n (pc' := 36) rfl rfl rfl ?_
      refine x_bald (pc' := 37) (N := 6) (z := false) rfl rfl (Eq.trans rdNL (Eq.trans rdNI (Eq.trans rdNZ (z_N_22_2 e)))) (io_in (p := 5) (N := 6) (by decide) (by decide)) (Eq.trans (congrArg (sB (sLw (sIw (sZw t 457 5 true) 456 5 (xs 2)) 23 0 0 (1 : Int64)) 22 2) (nn_io (p := 5) (by decide))) (Eq.trans rdBL (Eq.trans rdBI (Eq.trans rdBZ (z_B_22_2_5 e))))) ?_
      refine x_if (a' := 44) (pc' := 40) (z := true) rfl rfl rfl (by decide) (fun _ => ?_) (fun h => by cases h)
      refine x_iconst (pc' := 45) rfl rfl ?_
      refine x_cv (ls0 := [_, _]) (rest := []) rfl rfl rfl rfl rfl ?_
      refine x_aload_n (pc' := 1) rfl rfl rfl rfl rfl ?_
      refine x_iload_n (pc' := 2) rfl rfl rfl ?_
      refine x_pI (pc' := 5) rfl rfl rfl ?_
      refine x_iload_n (pc' := 6) rfl rfl rfl ?_
      refine x_if (a' := 13) (pc' := 9) (z := false) rfl rfl rfl (by decide) (fun h => by cases h) (fun _ => ?_)
      refine x_iconst (pc' := 10) rfl rfl ?_
      refine x_goto (pc' := 14) rfl rfl ?_
      refine x_retz (z := true) rfl rfl ?_
      refine sK_i (pc' := 48) rfl ?_
      refine x_if (a' := 53) (pc' := 51) (z := true) rfl rfl rfl (by decide) (fun _ => ?_) (fun h => by cases h)
      refine x_aload_n (pc' := 54) rfl rfl rfl rfl rfl ?_
      refine x_gR (pc' := 57) (r := (some 9)) rfl rfl rfl (Eq.trans rdRI (Eq.trans rdRL (Eq.trans rdRI (Eq.trans rdRZ (z_R_779_0 e))))) ?_
      refine x_iload_n (pc' := 58) rfl rfl rfl ?_
      refine x_iload_n (pc' := 59) rfl rfl rfl ?_
      refine x_iast (pc' := 60) (N := 6) (p := 5) rfl rfl rfl (Eq.trans rdNI (Eq.trans rdNL (Eq.trans rdNI (Eq.trans rdNZ (z_N_21_9 e))))) (io_in (p := 5) (N := 6) (by decide) (by decide)) (nn_io (p := 5) (by decide)) ?_
      refine x_aload_n (pc' := 61) rfl rfl rfl rfl rfl ?_
      refine x_gR (pc' := 64) (r := (some 1)) rfl rfl rfl (Eq.trans rdRA (Eq.trans rdRI (Eq.trans rdRL (Eq.trans rdRI (Eq.trans rdRZ (z_R_780_0 e)))))) ?_
      refine x_iload_n (pc' := 65) rfl rfl rfl ?_
      refine x_iconst (pc' := 66) rfl rfl ?_
      refine x_bast (pc' := 67) (N := 6) (p := 5) (z := true) rfl rfl (Eq.trans rdNA (Eq.trans rdNI (Eq.trans rdNL (Eq.trans rdNI (Eq.trans rdNZ (z_N_22_1 e)))))) (io_in (p := 5) (N := 6) (by decide) (by decide)) (nn_io (p := 5) (by decide)) rfl ?_
      refine x_iconst (pc' := 68) rfl rfl ?_
      refine x_istore (pc' := 70) (ls' := [_, _, _, _, _, _]) rfl rfl rfl rfl ?_
      refine x_iconst (pc' := 71) rfl rfl ?_
      refine x_istore (pc' := 73) (ls' := [_, _, _, _, _, _]) rfl rfl rfl rfl ?_
      refine x_iload (pc' := 75) rfl rfl rfl ?_
      refine x_bipush (pc' := 77) rfl rfl ?_
      refine x_icmp (a' := 106) (pc' := 80) (z := false) rfl rfl rfl (by decide) (fun h => by cases h) (fun _ => ?_)
      refine x_iload (pc' := 82) rfl rfl rfl ?_
      refine x_aload_n (pc' := 83) rfl rfl rfl rfl rfl ?_
      refine x_gR (pc' := 86) (r := (some 1)) rfl rfl rfl (Eq.trans rdRB (Eq.trans rdRA (Eq.trans rdRI (Eq.trans rdRL (Eq.trans rdRI (Eq.trans rdRZ (z_R_780_0 e))))))) ?_
      refine x_iload (pc' := 88) rfl rfl rfl ?_
      refine x_bald (pc' := 89) (N := 6) (z := false) rfl rfl (Eq.trans rdNB (Eq.trans rdNA (Eq.trans rdNI (Eq.trans rdNL (Eq.trans rdNI (Eq.trans rdNZ (z_N_22_1 e))))))) (io_in (p := 0) (N := 6) (by decide) (by decide)) (Eq.trans (congrArg (sB (sBw (sAw (sIw (sLw (sIw (sZw t 457 5 true) 456 5 (xs 2)) 23 0 0 (1 : Int64)) 768 0 0) 21 9 5 (xs 2)) 22 1 5 true) 22 1) (nn_io (p := 0) (by decide))) (Eq.trans (rdB_p rfl) (Eq.trans rdBA (Eq.trans rdBI (Eq.trans rdBL (Eq.trans rdBI (Eq.trans rdBZ (z_B_22_1_0 e)))))))) ?_
      refine x_if (a' := 96) (pc' := 92) (z := true) rfl rfl rfl (by decide) (fun _ => ?_) (fun h => by cases h)
      refine x_iconst (pc' := 97) rfl rfl ?_
      refine x_iadd (pc' := 98) (z := 0) rfl rfl (by decide) ?_
      refine x_istore (pc' := 100) (ls' := [_, _, _, _, _, _]) rfl rfl rfl rfl ?_
      refine x_iinc (pc' := 103) (y := 1) (ls' := [_, _, _, _, _, _]) rfl rfl rfl rfl rfl ?_
      refine x_goto (pc' := 73) rfl rfl ?_
      refine x_iload (pc' := 75) rfl rfl rfl ?_
      refine x_bipush (pc' := 77) rfl rfl ?_
      refine x_icmp (a' := 106) (pc' := 80) (z := false) rfl rfl rfl (by decide) (fun h => by cases h) (fun _ => ?_)
      refine x_iload (pc' := 82) rfl rfl rfl ?_
      refine x_aload_n (pc' := 83) rfl rfl rfl rfl rfl ?_
      refine x_gR (pc' := 86) (r := (some 1)) rfl rfl rfl (Eq.trans rdRB (Eq.trans rdRA (Eq.trans rdRI (Eq.trans rdRL (Eq.trans rdRI (Eq.trans rdRZ (z_R_780_0 e))))))) ?_
      refine x_iload (pc' := 88) rfl rfl rfl ?_
      refine x_bald (pc' := 89) (N := 6) (z := false) rfl rfl (Eq.trans rdNB (Eq.trans rdNA (Eq.trans rdNI (Eq.trans rdNL (Eq.trans rdNI (Eq.trans rdNZ (z_N_22_1 e))))))) (io_in (p := 1) (N := 6) (by decide) (by decide)) (Eq.trans (congrArg (sB (sBw (sAw (sIw (sLw (sIw (sZw t 457 5 true) 456 5 (xs 2)) 23 0 0 (1 : Int64)) 768 0 0) 21 9 5 (xs 2)) 22 1 5 true) 22 1) (nn_io (p := 1) (by decide))) (Eq.trans (rdB_p rfl) (Eq.trans rdBA (Eq.trans rdBI (Eq.trans rdBL (Eq.trans rdBI (Eq.trans rdBZ (z_B_22_1_1 e)))))))) ?_
      refine x_if (a' := 96) (pc' := 92) (z := true) rfl rfl rfl (by decide) (fun _ => ?_) (fun h => by cases h)
      refine x_iconst (pc' := 97) rfl rfl ?_
      refine x_iadd (pc' := 98) (z := 0) rfl rfl (by decide) ?_
      refine x_istore (pc' := 100) (ls' := [_, _, _, _, _, _]) rfl rfl rfl rfl ?_
      refine x_iinc (pc' := 103) (y := 2) (ls' := [_, _, _, _, _, _]) rfl rfl rfl rfl rfl ?_
      refine x_goto (pc' := 73) rfl rfl ?_
      refine x_iload (pc' := 75) rfl rfl rfl ?_
      refine x_bipush (pc' := 77) rfl rfl ?_
      refine x_icmp (a' := 106) (pc' := 80) (z := false) rfl rfl rfl (by decide) (fun h => by cases h) (fun _ => ?_)
      refine x_iload (pc' := 82) rfl rfl rfl ?_
      refine x_aload_n (pc' := 83) rfl rfl rfl rfl rfl ?_
      refine x_gR (pc' := 86) (r := (some 1)) rfl rfl rfl (Eq.trans rdRB (Eq.trans rdRA (Eq.trans rdRI (Eq.trans rdRL (Eq.trans rdRI (Eq.trans rdRZ (z_R_780_0 e))))))) ?_
      refine x_iload (pc' := 88) rfl rfl rfl ?_
      refine x_bald (pc' := 89) (N := 6) (z := false) rfl rfl (Eq.trans rdNB (Eq.trans rdNA (Eq.trans rdNI (Eq.trans rdNL (Eq.trans rdNI (Eq.trans rdNZ (z_N_22_1 e))))))) (io_in (p := 2) (N := 6) (by decide) (by decide)) (Eq.trans (congrArg (sB (sBw (sAw (sIw (sLw (sIw (sZw t 457 5 true) 456 5 (xs 2)) 23 0 0 (1 : Int64)) 768 0 0) 21 9 5 (xs 2)) 22 1 5 true) 22 1) (nn_io (p := 2) (by decide))) (Eq.trans (rdB_p rfl) (Eq.trans rdBA (Eq.trans rdBI (Eq.trans rdBL (Eq.trans rdBI (Eq.trans rdBZ (z_B_22_1_2 e)))))))) ?_
      refine x_if (a' := 96) (pc' := 92) (z := true) rfl rfl rfl (by decide) (fun _ => ?_) (fun h => by cases h)
      refine x_iconst (pc' := 97) rfl rfl ?_
      refine x_iadd (pc' := 98) (z := 0) rfl rfl (by decide) ?_
      refine x_istore (pc' := 100) (ls' := [_, _, _, _, _, _]) rfl rfl rfl rfl ?_
      refine x_iinc (pc' := 103) (y := 3) (ls' := [_, _, _, _, _, _]) rfl rfl rfl rfl rfl ?_
      refine x_goto (pc' := 73) rfl rfl ?_
      refine x_iload (pc' := 75) rfl rfl rfl ?_
      refine x_bipush (pc' := 77) rfl rfl ?_
      refine x_icmp (a' := 106) (pc' := 80) (z := false) rfl rfl rfl (by decide) (fun h => by cases h) (fun _ => ?_)
      refine x_iload (pc' := 82) rfl rfl rfl ?_
      refine x_aload_n (pc' := 83) rfl rfl rfl rfl rfl ?_
      refine x_gR (pc' := 86) (r := (some 1)) rfl rfl rfl (Eq.trans rdRB (Eq.trans rdRA (Eq.trans rdRI (Eq.trans rdRL (Eq.trans rdRI (Eq.trans rdRZ (z_R_780_0 e))))))) ?_
      refine x_iload (pc' := 88) rfl rfl rfl ?_
      refine x_bald (pc' := 89) (N := 6) (z := false) rfl rfl (Eq.trans rdNB (Eq.trans rdNA (Eq.trans rdNI (Eq.trans rdNL (Eq.trans rdNI (Eq.trans rdNZ (z_N_22_1 e))))))) (io_in (p := 3) (N := 6) (by decide) (by decide)) (Eq.trans (congrArg (sB (sBw (sAw (sIw (sLw (sIw (sZw t 457 5 true) 456 5 (xs 2)) 23 0 0 (1 : Int64)) 768 0 0) 21 9 5 (xs 2)) 22 1 5 true) 22 1) (nn_io (p := 3) (by decide))) (Eq.trans (rdB_p rfl) (Eq.trans rdBA (Eq.trans rdBI (Eq.trans rdBL (Eq.trans rdBI (Eq.trans rdBZ (z_B_22_1_3 e)))))))) ?_
      refine x_if (a' := 96) (pc' := 92) (z := true) rfl rfl rfl (by decide) (fun _ => ?_) (fun h => by cases h)
      refine x_iconst (pc' := 97) rfl rfl ?_
      refine x_iadd (pc' := 98) (z := 0) rfl rfl (by decide) ?_
      refine x_istore (pc' := 100) (ls' := [_, _, _, _, _, _]) rfl rfl rfl rfl ?_
      refine x_iinc (pc' := 103) (y := 4) (ls' := [_, _, _, _, _, _]) rfl rfl rfl rfl rfl ?_
      refine x_goto (pc' := 73) rfl rfl ?_
      refine x_iload (pc' := 75) rfl rfl rfl ?_
      refine x_bipush (pc' := 77) rfl rfl ?_
      refine x_icmp (a' := 106) (pc' := 80) (z := false) rfl rfl rfl (by decide) (fun h => by cases h) (fun _ => ?_)
      refine x_iload (pc' := 82) rfl rfl rfl ?_
      refine x_aload_n (pc' := 83) rfl rfl rfl rfl rfl ?_
      refine x_gR (pc' := 86) (r := (some 1)) rfl rfl rfl (Eq.trans rdRB (Eq.trans rdRA (Eq.trans rdRI (Eq.trans rdRL (Eq.trans rdRI (Eq.trans rdRZ (z_R_780_0 e))))))) ?_
      refine x_iload (pc' := 88) rfl rfl rfl ?_
      refine x_bald (pc' := 89) (N := 6) (z := false) rfl rfl (Eq.trans rdNB (Eq.trans rdNA (Eq.trans rdNI (Eq.trans rdNL (Eq.trans rdNI (Eq.trans rdNZ (z_N_22_1 e))))))) (io_in (p := 4) (N := 6) (by decide) (by decide)) (Eq.trans (congrArg (sB (sBw (sAw (sIw (sLw (sIw (sZw t 457 5 true) 456 5 (xs 2)) 23 0 0 (1 : Int64)) 768 0 0) 21 9 5 (xs 2)) 22 1 5 true) 22 1) (nn_io (p := 4) (by decide))) (Eq.trans (rdB_p rfl) (Eq.trans rdBA (Eq.trans rdBI (Eq.trans rdBL (Eq.trans rdBI (Eq.trans rdBZ (z_B_22_1_4 e)))))))) ?_
      refine x_if (a' := 96) (pc' := 92) (z := true) rfl rfl rfl (by decide) (fun _ => ?_) (fun h => by cases h)
      refine x_iconst (pc' := 97) rfl rfl ?_
      refine x_iadd (pc' := 98) (z := 0) rfl rfl (by decide) ?_
      refine x_istore (pc' := 100) (ls' := [_, _, _, _, _, _]) rfl rfl rfl rfl ?_
      refine x_iinc (pc' := 103) (y := 5) (ls' := [_, _, _, _, _, _]) rfl rfl rfl rfl rfl ?_
      refine x_goto (pc' := 73) rfl rfl ?_
      refine x_iload (pc' := 75) rfl rfl rfl ?_
      refine x_bipush (pc' := 77) rfl rfl ?_
      refine x_icmp (a' := 106) (pc' := 80) (z := false) rfl rfl rfl (by decide) (fun h => by cases h) (fun _ => ?_)
      refine x_iload (pc' := 82) rfl rfl rfl ?_
      refine x_aload_n (pc' := 83) rfl rfl rfl rfl rfl ?_
      refine x_gR (pc' := 86) (r := (some 1)) rfl rfl rfl (Eq.trans rdRB (Eq.trans rdRA (Eq.trans rdRI (Eq.trans rdRL (Eq.trans rdRI (Eq.trans rdRZ (z_R_780_0 e))))))) ?_
      refine x_iload (pc' := 88) rfl rfl rfl ?_
      refine x_bald (pc' := 89) (N := 6) (z := true) rfl rfl (Eq.trans rdNB (Eq.trans rdNA (Eq.trans rdNI (Eq.trans rdNL (Eq.trans rdNI (Eq.trans rdNZ (z_N_22_1 e))))))) (io_in (p := 5) (N := 6) (by decide) (by decide)) (Eq.trans (congrArg (sB (sBw (sAw (sIw (sLw (sIw (sZw t 457 5 true) 456 5 (xs 2)) 23 0 0 (1 : Int64)) 768 0 0) 21 9 5 (xs 2)) 22 1 5 true) 22 1) (nn_io (p := 5) (by decide))) sB_s) ?_
      refine x_if (a' := 96) (pc' := 92) (z := false) rfl rfl rfl (by decide) (fun h => by cases h) (fun _ => ?_)
      refine x_iconst (pc' := 93) rfl rfl ?_
      refine x_goto (pc' := 97) rfl rfl ?_
      refine x_iadd (pc' := 98) (z := 1) rfl rfl (by decide) ?_
      refine x_istore (pc' := 100) (ls' := [_, _, _, _, _, _]) rfl rfl rfl rfl ?_
      refine x_iinc (pc' := 103) (y := 6) (ls' := [_, _, _, _, _, _]) rfl rfl rfl rfl rfl ?_
      refine x_goto (pc' := 73) rfl rfl ?_
      refine x_iload (pc' := 75) rfl rfl rfl ?_
      refine x_bipush (pc' := 77) rfl rfl ?_
      refine x_icmp (a' := 106) (pc' := 80) (z := true) rfl rfl rfl (by decide) (fun _ => ?_) (fun h => by cases h)
      refine x_iload (pc' := 108) rfl rfl rfl ?_
      refine x_reti rfl rfl ?_
      refine sK_i (pc' := 1522) rfl ?_
      refine x_istore (pc' := 1524) (ls' := [_, _, _, _, _, _, _]) rfl rfl rfl rfl ?_
      refine x_aload_n (pc' := 1525) rfl rfl rfl rfl rfl ?_
      refine x_cv (ls0 := [_]) (rest := []) rfl rfl rfl rfl rfl ?_
      refine x_aload_n (pc' := 1) rfl rfl rfl rfl rfl ?_
      refine x_gI (pc' := 4) (x := 0) rfl rfl rfl (Eq.trans rdIB (Eq.trans rdIA sI_s)) ?_
      refine x_reti rfl rfl ?_
      refine sK_i (pc' := 1528) rfl ?_
      refine x_iload (pc' := 1530) rfl rfl rfl ?_
      refine x_icmp (a' := 1535) (pc' := 1533) (z := true) rfl rfl rfl (by decide) (fun _ => ?_) (fun h => by cases h)
      refine x_iload (pc' := 1537) rfl rfl rfl ?_
      refine x_if (a' := 1552) (pc' := 1540) (z := false) rfl rfl rfl (by decide) (fun h => by cases h) (fun _ => ?_)
      refine x_aload_n (pc' := 1541) rfl rfl rfl rfl rfl ?_
      refine x_iconst (pc' := 1542) rfl rfl ?_
      refine x_lald (pc' := 1543) (N := 1) (x := (1 : Int64)) rfl rfl (Eq.trans rdNB (Eq.trans rdNA (Eq.trans rdNI (Eq.trans rdNL (Eq.trans rdNI (Eq.trans rdNZ (z_N_23_0 e))))))) (io_in (p := 0) (N := 1) (by decide) (by decide)) (Eq.trans (congrArg (sL (sBw (sAw (sIw (sLw (sIw (sZw t 457 5 true) 456 5 (xs 2)) 23 0 0 (1 : Int64)) 768 0 0) 21 9 5 (xs 2)) 22 1 5 true) 23 0) (nn_io (p := 0) (by decide))) (Eq.trans rdLB (Eq.trans rdLA (Eq.trans rdLI sL_s)))) ?_
      refine x_iload (pc' := 1545) rfl rfl rfl ?_
      refine x_i2l (pc' := 1546) (z := (1 : Int64)) rfl rfl (by decide) ?_
      refine x_lcmp (pc' := 1547) (z := 0) rfl rfl (sLcmp_s _) ?_
      refine x_if (a' := 1552) (pc' := 1550) (z := true) rfl rfl rfl (by decide) (fun _ => ?_) (fun h => by cases h)
      refine x_goto (pc' := 2938) rfl rfl ?_
      refine x_iinc (pc' := 2941) (y := 7) (ls' := [_, _, _, _, _, _, _]) rfl rfl rfl rfl rfl ?_
      refine x_goto (pc' := 23) rfl rfl ?_
      refine x_iload (pc' := 25) rfl rfl rfl ?_
      refine x_aload_n (pc' := 26) rfl rfl rfl rfl rfl ?_
      refine x_alen (pc' := 27) (N := 7) rfl rfl rfl (Eq.trans rdNB (Eq.trans rdNA (Eq.trans rdNI (Eq.trans rdNL (Eq.trans rdNI (Eq.trans rdNZ (z_N_29_0 e))))))) (?_ : X _ _ _ (.inl 7 :: _) _ _)
      refine x_bipush (pc' := 29) rfl rfl ?_
      refine x_isub (pc' := 30) (z := 0) rfl rfl (by decide) ?_
      refine x_icmp (a' := 2944) (pc' := 33) (z := true) rfl rfl rfl (by decide) (fun _ => ?_) (fun h => by cases h)
      refine x_iconst (pc' := 2945) rfl rfl ?_
      refine x_retz (z := true) rfl rfl ?_
      exact Qp_ok e (p := 0) (q := 0) rfl rfl rfl rfl
    · refine x_throw rfl rfl ?_
      refine sK_n (by decide +kernel) rfl ?_
      refine sK_h (h := 17) (by decide +kernel) rfl ?_
      refine x_catch (pc' := 19) (ls' := [_, _, _, _, _]) rfl rfl rfl rfl ?_
      refine x_iconst (pc' := 20) rfl rfl ?_
      refine x_reti rfl rfl ?_
      refine sK_i (pc' := 1504) rfl ?_
      refine x_istore (pc' := 1506) (ls' := [_, _, _, _, _, _, _]) rfl rfl rfl rfl ?_
      refine x_aload_n (pc' := 1507) rfl rfl rfl rfl rfl ?_
      refine x_aload_n (pc' := 1508) rfl rfl rfl rfl rfl ?_
      refine x_iload (pc' := 1510) rfl rfl rfl ?_
      refine x_iconst (pc' := 1511) rfl rfl ?_
      refine x_iadd (pc' := 1512) (z := 1) rfl rfl (by decide) ?_
      refine x_iald (pc' := 1513) (N := 7) (x := 5) rfl rfl rfl (Eq.trans rdNthr (z_N_29_0 e)) (io_in (p := 1) (N := 7) (by decide) (by decide)) (Eq.trans (congrArg (sA (sThr t) 29 0) (nn_io (p := 1) (by decide))) (Eq.trans rdAthr (Eq.trans (z_A_29_0_1 e) e0))) ?_
      refine x_aload_n (pc' := 1514) rfl rfl rfl rfl rfl ?_
      refine x_iload (pc' := 1516) rfl rfl rfl ?_
      refine x_iconst (pc' := 1517) rfl rfl ?_
      refine x_iadd (pc' := 1518) (z := 2) rfl rfl (by decide) ?_
      refine x_iald (pc' := 1519) (N := 7) (x := (xs 2)) rfl rfl rfl (Eq.trans rdNthr (z_N_29_0 e)) (io_in (p := 2) (N := 7) (by decide) (by decide)) (Eq.trans (congrArg (sA (sThr t) 29 0) (nn_io (p := 2) (by decide))) (Eq.trans rdAthr (z_A_29_0_2 e))) ?_
      refine x_cv (ls0 := [_, _, _, sJk, sJk, sJk]) (rest := []) rfl rfl rfl rfl rfl ?_
      refine x_iload_n (pc' := 1) rfl rfl rfl ?_
      refine x_cs (ls0 := [_]) (rest := []) rfl rfl rfl rfl ?_
      refine x_iload_n (pc' := 1) rfl rfl rfl ?_
      refine x_iconst (pc' := 2) rfl rfl ?_
      refine x_iconst (pc' := 3) rfl rfl ?_
      refine x_cs (ls0 := [_, _, _]) (rest := []) rfl rfl rfl rfl ?_
      refine x_iload_n (pc' := 1) rfl rfl rfl ?_
      refine x_iload_n (pc' := 2) rfl rfl rfl ?_
      refine x_icmp (a' := 14) (pc' := 5) (z := false) rfl rfl rfl (by decide) (fun h => by cases h) (fun _ => ?_)
      refine x_iload_n (pc' := 6) rfl rfl rfl ?_
      refine x_iload_n (pc' := 7) rfl rfl rfl ?_
      refine x_icmp (a' := 14) (pc' := 10) (z := false) rfl rfl rfl (by decide) (fun h => by cases h) (fun _ => ?_)
      refine x_iconst (pc' := 11) rfl rfl ?_
      refine x_goto (pc' := 15) rfl rfl ?_
      refine x_retz (z := true) rfl rfl ?_
      refine sK_i (pc' := 6) rfl ?_
      refine x_retz (z := true) rfl rfl ?_
      refine sK_i (pc' := 4) rfl ?_
      refine x_istore_n (pc' := 5) (ls' := [_, _, _, _, _, _]) rfl rfl rfl rfl ?_
      refine x_aload_n (pc' := 6) rfl rfl rfl rfl rfl ?_
      refine x_iload_n (pc' := 7) rfl rfl rfl ?_
      refine x_if (a' := 14) (pc' := 10) (z := true) rfl rfl rfl (by decide) (fun _ => ?_) (fun h => by cases h)
      refine x_iload_n (pc' := 15) rfl rfl rfl ?_
      refine x_ldc_w (pc' := 18) rfl rfl ?_
      refine x_ldc_w (pc' := 21) rfl rfl ?_
      refine x_cs (ls0 := [_, _, _]) (rest := [_]) rfl rfl rfl rfl ?_
      refine x_iload_n (pc' := 1) rfl rfl rfl ?_
      refine x_iload_n (pc' := 2) rfl rfl rfl ?_
      refine x_icmp (a' := 14) (pc' := 5) (z := decide ((xs 2) < (-1000000))) rfl rfl rfl rfl (fun h => absurd (of_decide_eq_true h) (of_decide_eq_false q5)) (fun _ => ?_)
      refine x_iload_n (pc' := 6) rfl rfl rfl ?_
      refine x_iload_n (pc' := 7) rfl rfl rfl ?_
      refine x_icmp (a' := 14) (pc' := 10) (z := decide (1000000 < (xs 2))) rfl rfl rfl rfl (fun _ => ?_) (fun h => absurd (of_decide_eq_true q16) (of_decide_eq_false h))
      refine x_iconst (pc' := 15) rfl rfl ?_
      refine x_retz (z := false) rfl rfl ?_
      refine sK_i (pc' := 24) rfl ?_
      refine x_if (a' := 31) (pc' := 27) (z := false) rfl rfl rfl (by decide) (fun h => by cases h) (fun _ => ?_)
      refine x_iconst (pc' := 28) rfl rfl ?_
      refine x_goto (pc' := 45) rfl rfl ?_
      refine x_cv (ls0 := [_, _]) (rest := []) rfl rfl rfl rfl rfl ?_
      refine x_aload_n (pc' := 1) rfl rfl rfl rfl rfl ?_
      refine x_iload_n (pc' := 2) rfl rfl rfl ?_
      refine x_pI (pc' := 5) rfl rfl rfl ?_
      refine x_iload_n (pc' := 6) rfl rfl rfl ?_
      refine x_if (a' := 13) (pc' := 9) (z := true) rfl rfl rfl (by decide) (fun _ => ?_) (fun h => by cases h)
      refine x_iconst (pc' := 14) rfl rfl ?_
      refine x_retz (z := false) rfl rfl ?_
      refine sK_i (pc' := 48) rfl ?_
      refine x_if (a' := 53) (pc' := 51) (z := false) rfl rfl rfl (by decide) (fun h => by cases h) (fun _ => ?_)
      refine x_iconst (pc' := 52) rfl rfl ?_
      refine x_reti rfl rfl ?_
      refine sK_i (pc' := 1522) rfl ?_
      refine x_istore (pc' := 1524) (ls' := [_, _, _, _, _, _, _]) rfl rfl rfl rfl ?_
      refine x_aload_n (pc' := 1525) rfl rfl rfl rfl rfl ?_
      refine x_cv (ls0 := [_]) (rest := []) rfl rfl rfl rfl rfl ?_
      refine x_aload_n (pc' := 1) rfl rfl rfl rfl rfl ?_
      refine x_gI (pc' := 4) (x := 2) rfl rfl rfl sI_s ?_
      refine x_reti rfl rfl ?_
      refine sK_i (pc' := 1528) rfl ?_
      refine x_iload (pc' := 1530) rfl rfl rfl ?_
      refine x_icmp (a' := 1535) (pc' := 1533) (z := true) rfl rfl rfl (by decide) (fun _ => ?_) (fun h => by cases h)
      refine x_iload (pc' := 1537) rfl rfl rfl ?_
      refine x_if (a' := 1552) (pc' := 1540) (z := true) rfl rfl rfl (by decide) (fun _ => ?_) (fun h => by cases h)
      refine x_goto (pc' := 2938) rfl rfl ?_
      refine x_iinc (pc' := 2941) (y := 7) (ls' := [_, _, _, _, _, _, _]) rfl rfl rfl rfl rfl ?_
      refine x_goto (pc' := 23) rfl rfl ?_
      refine x_iload (pc' := 25) rfl rfl rfl ?_
      refine x_aload_n (pc' := 26) rfl rfl rfl rfl rfl ?_
      refine x_alen (pc' := 27) (N := 7) rfl rfl rfl (Eq.trans rdNI (Eq.trans rdNthr (z_N_29_0 e))) (?_ : X _ _ _ (.inl 7 :: _) _ _)
      refine x_bipush (pc' := 29) rfl rfl ?_
      refine x_isub (pc' := 30) (z := 0) rfl rfl (by decide) ?_
      refine x_icmp (a' := 2944) (pc' := 33) (z := true) rfl rfl rfl (by decide) (fun _ => ?_) (fun h => by cases h)
      refine x_iconst (pc' := 2945) rfl rfl ?_
      refine x_retz (z := true) rfl rfl ?_
      exact Qp_ok e (p := 1) (q := 6) rfl rfl rfl rfl
set_option maxHeartbeats 4000000 in
set_option maxRecDepth 10000 in
theorem v_16_A_i {t : sT} {xs : Nat → Int32}
    (e : t = T16 7 xs)
    (hk : ((xs 0) &&& 63) = 16)
    (e0 : (xs 1) < 0) :
    X 297 23 [.inr (.inr (29, (some 0))), .inr (.inr (11, (some 0))), .inr (.inr (12, (some 0))), .inr (.inr (23, (some 0))), .inl 0, sJk, sJk] [] t Qp := by
  refine x_iload (pc' := 25) rfl rfl rfl ?_
  refine x_aload_n (pc' := 26) rfl rfl rfl rfl rfl ?_
  refine x_alen (pc' := 27) (N := 7) rfl rfl rfl (z_N_29_0 e) (?_ : X _ _ _ (.inl 7 :: _) _ _)
  refine x_bipush (pc' := 29) rfl rfl ?_
  refine x_isub (pc' := 30) (z := 0) rfl rfl (by decide) ?_
  refine x_icmp (a' := 2944) (pc' := 33) (z := false) rfl rfl rfl (by decide) (fun h => by cases h) (fun _ => ?_)
  refine x_aload_n (pc' := 34) rfl rfl rfl rfl rfl ?_
  refine x_iload (pc' := 36) rfl rfl rfl ?_
  refine x_iald (pc' := 37) (N := 7) (x := (xs 0)) rfl rfl rfl (z_N_29_0 e) (io_in (p := 0) (N := 7) (by decide) (by decide)) (Eq.trans (congrArg (sA t 29 0) (nn_io (p := 0) (by decide))) (z_A_29_0_0 e)) ?_
  refine x_bipush (pc' := 39) rfl rfl ?_
  refine x_iand (pc' := 40) (z := ((xs 0) &&& 63)) rfl rfl rfl ?_
  refine x_switch (pc' := 1487) rfl (by rw [hk]; decide) ?_
  refine x_aload_n (pc' := 1488) rfl rfl rfl rfl rfl ?_
  refine x_aload_n (pc' := 1489) rfl rfl rfl rfl rfl ?_
  refine x_iload (pc' := 1491) rfl rfl rfl ?_
  refine x_iconst (pc' := 1492) rfl rfl ?_
  refine x_iadd (pc' := 1493) (z := 1) rfl rfl (by decide) ?_
  refine x_iald (pc' := 1494) (N := 7) (x := (xs 1)) rfl rfl rfl (z_N_29_0 e) (io_in (p := 1) (N := 7) (by decide) (by decide)) (Eq.trans (congrArg (sA t 29 0) (nn_io (p := 1) (by decide))) (z_A_29_0_1 e)) ?_
  refine x_aload_n (pc' := 1495) rfl rfl rfl rfl rfl ?_
  refine x_iload (pc' := 1497) rfl rfl rfl ?_
  refine x_iconst (pc' := 1498) rfl rfl ?_
  refine x_iadd (pc' := 1499) (z := 2) rfl rfl (by decide) ?_
  refine x_iald (pc' := 1500) (N := 7) (x := (xs 2)) rfl rfl rfl (z_N_29_0 e) (io_in (p := 2) (N := 7) (by decide) (by decide)) (Eq.trans (congrArg (sA t 29 0) (nn_io (p := 2) (by decide))) (z_A_29_0_2 e)) ?_
  refine x_aload_n (pc' := 1501) rfl rfl rfl rfl rfl ?_
  refine x_cs (ls0 := [_, _, _, _, sJk]) (rest := []) rfl rfl rfl rfl ?_
  refine x_aload_n (pc' := 1) rfl rfl rfl rfl rfl ?_
  refine x_iconst (pc' := 2) rfl rfl ?_
  refine x_aload_n (pc' := 3) rfl rfl rfl rfl rfl ?_
  refine x_iload_n (pc' := 4) rfl rfl rfl ?_
  refine x_iload_n (pc' := 5) rfl rfl rfl ?_
  refine x_cv (ls0 := [_, _, _, sJk]) (rest := [_, _]) rfl rfl rfl rfl rfl ?_
  refine x_aload_n (pc' := 1) rfl rfl rfl rfl rfl ?_
  refine x_iload_n (pc' := 2) rfl rfl rfl ?_
  refine x_cv (ls0 := [_, _]) (rest := []) rfl rfl rfl rfl rfl ?_
  refine x_iload_n (pc' := 1) rfl rfl rfl ?_
  refine x_if (a' := 16) (pc' := 4) (z := decide ((xs 1) < 0)) rfl rfl rfl rfl (fun _ => ?_) (fun h => absurd e0 (of_decide_eq_false h))
  refine x_throw rfl rfl ?_
  refine sK_n (by decide +kernel) rfl ?_
  refine sK_h (h := 13) (by decide +kernel) rfl ?_
  refine x_catch (pc' := 15) (ls' := [_, _, _, _, _]) rfl rfl rfl rfl ?_
  refine x_iconst (pc' := 16) rfl rfl ?_
  refine x_reti rfl rfl ?_
  refine sK_i (pc' := 1504) rfl ?_
  refine x_istore (pc' := 1506) (ls' := [_, _, _, _, _, _, _]) rfl rfl rfl rfl ?_
  refine x_aload_n (pc' := 1507) rfl rfl rfl rfl rfl ?_
  refine x_aload_n (pc' := 1508) rfl rfl rfl rfl rfl ?_
  refine x_iload (pc' := 1510) rfl rfl rfl ?_
  refine x_iconst (pc' := 1511) rfl rfl ?_
  refine x_iadd (pc' := 1512) (z := 1) rfl rfl (by decide) ?_
  refine x_iald (pc' := 1513) (N := 7) (x := (xs 1)) rfl rfl rfl (Eq.trans rdNthr (z_N_29_0 e)) (io_in (p := 1) (N := 7) (by decide) (by decide)) (Eq.trans (congrArg (sA (sThr t) 29 0) (nn_io (p := 1) (by decide))) (Eq.trans rdAthr (z_A_29_0_1 e))) ?_
  refine x_aload_n (pc' := 1514) rfl rfl rfl rfl rfl ?_
  refine x_iload (pc' := 1516) rfl rfl rfl ?_
  refine x_iconst (pc' := 1517) rfl rfl ?_
  refine x_iadd (pc' := 1518) (z := 2) rfl rfl (by decide) ?_
  refine x_iald (pc' := 1519) (N := 7) (x := (xs 2)) rfl rfl rfl (Eq.trans rdNthr (z_N_29_0 e)) (io_in (p := 2) (N := 7) (by decide) (by decide)) (Eq.trans (congrArg (sA (sThr t) 29 0) (nn_io (p := 2) (by decide))) (Eq.trans rdAthr (z_A_29_0_2 e))) ?_
  refine x_cv (ls0 := [_, _, _, sJk, sJk, sJk]) (rest := []) rfl rfl rfl rfl rfl ?_
  refine x_iload_n (pc' := 1) rfl rfl rfl ?_
  refine x_cs (ls0 := [_]) (rest := []) rfl rfl rfl rfl ?_
  refine x_iload_n (pc' := 1) rfl rfl rfl ?_
  refine x_iconst (pc' := 2) rfl rfl ?_
  refine x_iconst (pc' := 3) rfl rfl ?_
  refine x_cs (ls0 := [_, _, _]) (rest := []) rfl rfl rfl rfl ?_
  refine x_iload_n (pc' := 1) rfl rfl rfl ?_
  refine x_iload_n (pc' := 2) rfl rfl rfl ?_
  refine x_icmp (a' := 14) (pc' := 5) (z := decide ((xs 1) < 0)) rfl rfl rfl rfl (fun _ => ?_) (fun h => absurd e0 (of_decide_eq_false h))
  refine x_iconst (pc' := 15) rfl rfl ?_
  refine x_retz (z := false) rfl rfl ?_
  refine sK_i (pc' := 6) rfl ?_
  refine x_retz (z := false) rfl rfl ?_
  refine sK_i (pc' := 4) rfl ?_
  refine x_istore_n (pc' := 5) (ls' := [_, _, _, _, _, _]) rfl rfl rfl rfl ?_
  refine x_aload_n (pc' := 6) rfl rfl rfl rfl rfl ?_
  refine x_iload_n (pc' := 7) rfl rfl rfl ?_
  refine x_if (a' := 14) (pc' := 10) (z := false) rfl rfl rfl (by decide) (fun h => by cases h) (fun _ => ?_)
  refine x_iconst (pc' := 11) rfl rfl ?_
  refine x_goto (pc' := 45) rfl rfl ?_
  refine x_cv (ls0 := [_, _]) (rest := []) rfl rfl rfl rfl rfl ?_
  refine x_aload_n (pc' := 1) rfl rfl rfl rfl rfl ?_
  refine x_iload_n (pc' := 2) rfl rfl rfl ?_
  refine x_pI (pc' := 5) rfl rfl rfl ?_
  refine x_iload_n (pc' := 6) rfl rfl rfl ?_
  refine x_if (a' := 13) (pc' := 9) (z := true) rfl rfl rfl (by decide) (fun _ => ?_) (fun h => by cases h)
  refine x_iconst (pc' := 14) rfl rfl ?_
  refine x_retz (z := false) rfl rfl ?_
  refine sK_i (pc' := 48) rfl ?_
  refine x_if (a' := 53) (pc' := 51) (z := false) rfl rfl rfl (by decide) (fun h => by cases h) (fun _ => ?_)
  refine x_iconst (pc' := 52) rfl rfl ?_
  refine x_reti rfl rfl ?_
  refine sK_i (pc' := 1522) rfl ?_
  refine x_istore (pc' := 1524) (ls' := [_, _, _, _, _, _, _]) rfl rfl rfl rfl ?_
  refine x_aload_n (pc' := 1525) rfl rfl rfl rfl rfl ?_
  refine x_cv (ls0 := [_]) (rest := []) rfl rfl rfl rfl rfl ?_
  refine x_aload_n (pc' := 1) rfl rfl rfl rfl rfl ?_
  refine x_gI (pc' := 4) (x := 1) rfl rfl rfl sI_s ?_
  refine x_reti rfl rfl ?_
  refine sK_i (pc' := 1528) rfl ?_
  refine x_iload (pc' := 1530) rfl rfl rfl ?_
  refine x_icmp (a' := 1535) (pc' := 1533) (z := true) rfl rfl rfl (by decide) (fun _ => ?_) (fun h => by cases h)
  refine x_iload (pc' := 1537) rfl rfl rfl ?_
  refine x_if (a' := 1552) (pc' := 1540) (z := true) rfl rfl rfl (by decide) (fun _ => ?_) (fun h => by cases h)
  refine x_goto (pc' := 2938) rfl rfl ?_
  refine x_iinc (pc' := 2941) (y := 7) (ls' := [_, _, _, _, _, _, _]) rfl rfl rfl rfl rfl ?_
  refine x_goto (pc' := 23) rfl rfl ?_
  refine x_iload (pc' := 25) rfl rfl rfl ?_
  refine x_aload_n (pc' := 26) rfl rfl rfl rfl rfl ?_
  refine x_alen (pc' := 27) (N := 7) rfl rfl rfl (Eq.trans rdNI (Eq.trans rdNthr (z_N_29_0 e))) (?_ : X _ _ _ (.inl 7 :: _) _ _)
  refine x_bipush (pc' := 29) rfl rfl ?_
  refine x_isub (pc' := 30) (z := 0) rfl rfl (by decide) ?_
  refine x_icmp (a' := 2944) (pc' := 33) (z := true) rfl rfl rfl (by decide) (fun _ => ?_) (fun h => by cases h)
  refine x_iconst (pc' := 2945) rfl rfl ?_
  refine x_retz (z := true) rfl rfl ?_
  exact Qp_ok e (p := 1) (q := 6) rfl rfl rfl rfl
set_option maxHeartbeats 4000000 in
set_option maxRecDepth 10000 in
theorem v_16_B_i {t : sT} {xs : Nat → Int32}
    (e : t = T16 7 xs)
    (hk : ((xs 0) &&& 63) = 16)
    (e0 : ¬ (xs 1) < 0)
    (f0 : ¬ (xs 1) < 6) :
    X 297 23 [.inr (.inr (29, (some 0))), .inr (.inr (11, (some 0))), .inr (.inr (12, (some 0))), .inr (.inr (23, (some 0))), .inl 0, sJk, sJk] [] t Qp := by
  refine x_iload (pc' := 25) rfl rfl rfl ?_
  refine x_aload_n (pc' := 26) rfl rfl rfl rfl rfl ?_
  refine x_alen (pc' := 27) (N := 7) rfl rfl rfl (z_N_29_0 e) (?_ : X _ _ _ (.inl 7 :: _) _ _)
  refine x_bipush (pc' := 29) rfl rfl ?_
  refine x_isub (pc' := 30) (z := 0) rfl rfl (by decide) ?_
  refine x_icmp (a' := 2944) (pc' := 33) (z := false) rfl rfl rfl (by decide) (fun h => by cases h) (fun _ => ?_)
  refine x_aload_n (pc' := 34) rfl rfl rfl rfl rfl ?_
  refine x_iload (pc' := 36) rfl rfl rfl ?_
  refine x_iald (pc' := 37) (N := 7) (x := (xs 0)) rfl rfl rfl (z_N_29_0 e) (io_in (p := 0) (N := 7) (by decide) (by decide)) (Eq.trans (congrArg (sA t 29 0) (nn_io (p := 0) (by decide))) (z_A_29_0_0 e)) ?_
  refine x_bipush (pc' := 39) rfl rfl ?_
  refine x_iand (pc' := 40) (z := ((xs 0) &&& 63)) rfl rfl rfl ?_
  refine x_switch (pc' := 1487) rfl (by rw [hk]; decide) ?_
  refine x_aload_n (pc' := 1488) rfl rfl rfl rfl rfl ?_
  refine x_aload_n (pc' := 1489) rfl rfl rfl rfl rfl ?_
  refine x_iload (pc' := 1491) rfl rfl rfl ?_
  refine x_iconst (pc' := 1492) rfl rfl ?_
  refine x_iadd (pc' := 1493) (z := 1) rfl rfl (by decide) ?_
  refine x_iald (pc' := 1494) (N := 7) (x := (xs 1)) rfl rfl rfl (z_N_29_0 e) (io_in (p := 1) (N := 7) (by decide) (by decide)) (Eq.trans (congrArg (sA t 29 0) (nn_io (p := 1) (by decide))) (z_A_29_0_1 e)) ?_
  refine x_aload_n (pc' := 1495) rfl rfl rfl rfl rfl ?_
  refine x_iload (pc' := 1497) rfl rfl rfl ?_
  refine x_iconst (pc' := 1498) rfl rfl ?_
  refine x_iadd (pc' := 1499) (z := 2) rfl rfl (by decide) ?_
  refine x_iald (pc' := 1500) (N := 7) (x := (xs 2)) rfl rfl rfl (z_N_29_0 e) (io_in (p := 2) (N := 7) (by decide) (by decide)) (Eq.trans (congrArg (sA t 29 0) (nn_io (p := 2) (by decide))) (z_A_29_0_2 e)) ?_
  refine x_aload_n (pc' := 1501) rfl rfl rfl rfl rfl ?_
  refine x_cs (ls0 := [_, _, _, _, sJk]) (rest := []) rfl rfl rfl rfl ?_
  refine x_aload_n (pc' := 1) rfl rfl rfl rfl rfl ?_
  refine x_iconst (pc' := 2) rfl rfl ?_
  refine x_aload_n (pc' := 3) rfl rfl rfl rfl rfl ?_
  refine x_iload_n (pc' := 4) rfl rfl rfl ?_
  refine x_iload_n (pc' := 5) rfl rfl rfl ?_
  refine x_cv (ls0 := [_, _, _, sJk]) (rest := [_, _]) rfl rfl rfl rfl rfl ?_
  refine x_aload_n (pc' := 1) rfl rfl rfl rfl rfl ?_
  refine x_iload_n (pc' := 2) rfl rfl rfl ?_
  refine x_cv (ls0 := [_, _]) (rest := []) rfl rfl rfl rfl rfl ?_
  refine x_iload_n (pc' := 1) rfl rfl rfl ?_
  refine x_if (a' := 16) (pc' := 4) (z := decide ((xs 1) < 0)) rfl rfl rfl rfl (fun h => absurd (of_decide_eq_true h) e0) (fun _ => ?_)
  refine x_iload_n (pc' := 5) rfl rfl rfl ?_
  refine x_aload_n (pc' := 6) rfl rfl rfl rfl rfl ?_
  refine x_gR (pc' := 9) (r := (some 0)) rfl rfl rfl (z_R_704_0 e) ?_
  refine x_gR (pc' := 12) (r := (some 0)) rfl rfl rfl (z_R_321_0 e) ?_
  refine x_alen (pc' := 13) (N := 6) rfl rfl rfl (z_N_26_0 e) (?_ : X _ _ _ (.inl 6 :: _) _ _)
  refine x_icmp (a' := 27) (pc' := 16) (z := decide ((xs 1) < 6)) rfl rfl rfl rfl (fun h => absurd (of_decide_eq_true h) f0) (fun _ => ?_)
  refine x_throw rfl rfl ?_
  refine sK_n (by decide +kernel) rfl ?_
  refine sK_h (h := 13) (by decide +kernel) rfl ?_
  refine x_catch (pc' := 15) (ls' := [_, _, _, _, _]) rfl rfl rfl rfl ?_
  refine x_iconst (pc' := 16) rfl rfl ?_
  refine x_reti rfl rfl ?_
  refine sK_i (pc' := 1504) rfl ?_
  refine x_istore (pc' := 1506) (ls' := [_, _, _, _, _, _, _]) rfl rfl rfl rfl ?_
  refine x_aload_n (pc' := 1507) rfl rfl rfl rfl rfl ?_
  refine x_aload_n (pc' := 1508) rfl rfl rfl rfl rfl ?_
  refine x_iload (pc' := 1510) rfl rfl rfl ?_
  refine x_iconst (pc' := 1511) rfl rfl ?_
  refine x_iadd (pc' := 1512) (z := 1) rfl rfl (by decide) ?_
  refine x_iald (pc' := 1513) (N := 7) (x := (xs 1)) rfl rfl rfl (Eq.trans rdNthr (z_N_29_0 e)) (io_in (p := 1) (N := 7) (by decide) (by decide)) (Eq.trans (congrArg (sA (sThr t) 29 0) (nn_io (p := 1) (by decide))) (Eq.trans rdAthr (z_A_29_0_1 e))) ?_
  refine x_aload_n (pc' := 1514) rfl rfl rfl rfl rfl ?_
  refine x_iload (pc' := 1516) rfl rfl rfl ?_
  refine x_iconst (pc' := 1517) rfl rfl ?_
  refine x_iadd (pc' := 1518) (z := 2) rfl rfl (by decide) ?_
  refine x_iald (pc' := 1519) (N := 7) (x := (xs 2)) rfl rfl rfl (Eq.trans rdNthr (z_N_29_0 e)) (io_in (p := 2) (N := 7) (by decide) (by decide)) (Eq.trans (congrArg (sA (sThr t) 29 0) (nn_io (p := 2) (by decide))) (Eq.trans rdAthr (z_A_29_0_2 e))) ?_
  refine x_cv (ls0 := [_, _, _, sJk, sJk, sJk]) (rest := []) rfl rfl rfl rfl rfl ?_
  refine x_iload_n (pc' := 1) rfl rfl rfl ?_
  refine x_cs (ls0 := [_]) (rest := []) rfl rfl rfl rfl ?_
  refine x_iload_n (pc' := 1) rfl rfl rfl ?_
  refine x_iconst (pc' := 2) rfl rfl ?_
  refine x_iconst (pc' := 3) rfl rfl ?_
  refine x_cs (ls0 := [_, _, _]) (rest := []) rfl rfl rfl rfl ?_
  refine x_iload_n (pc' := 1) rfl rfl rfl ?_
  refine x_iload_n (pc' := 2) rfl rfl rfl ?_
  refine x_icmp (a' := 14) (pc' := 5) (z := decide ((xs 1) < 0)) rfl rfl rfl rfl (fun h => absurd (of_decide_eq_true h) e0) (fun _ => ?_)
  refine x_iload_n (pc' := 6) rfl rfl rfl ?_
  refine x_iload_n (pc' := 7) rfl rfl rfl ?_
  refine x_icmp (a' := 14) (pc' := 10) (z := decide (5 < (xs 1))) rfl rfl rfl rfl (fun _ => ?_) (fun h => absurd (lt_of6 f0) (of_decide_eq_false h))
  refine x_iconst (pc' := 15) rfl rfl ?_
  refine x_retz (z := false) rfl rfl ?_
  refine sK_i (pc' := 6) rfl ?_
  refine x_retz (z := false) rfl rfl ?_
  refine sK_i (pc' := 4) rfl ?_
  refine x_istore_n (pc' := 5) (ls' := [_, _, _, _, _, _]) rfl rfl rfl rfl ?_
  refine x_aload_n (pc' := 6) rfl rfl rfl rfl rfl ?_
  refine x_iload_n (pc' := 7) rfl rfl rfl ?_
  refine x_if (a' := 14) (pc' := 10) (z := false) rfl rfl rfl (by decide) (fun h => by cases h) (fun _ => ?_)
  refine x_iconst (pc' := 11) rfl rfl ?_
  refine x_goto (pc' := 45) rfl rfl ?_
  refine x_cv (ls0 := [_, _]) (rest := []) rfl rfl rfl rfl rfl ?_
  refine x_aload_n (pc' := 1) rfl rfl rfl rfl rfl ?_
  refine x_iload_n (pc' := 2) rfl rfl rfl ?_
  refine x_pI (pc' := 5) rfl rfl rfl ?_
  refine x_iload_n (pc' := 6) rfl rfl rfl ?_
  refine x_if (a' := 13) (pc' := 9) (z := true) rfl rfl rfl (by decide) (fun _ => ?_) (fun h => by cases h)
  refine x_iconst (pc' := 14) rfl rfl ?_
  refine x_retz (z := false) rfl rfl ?_
  refine sK_i (pc' := 48) rfl ?_
  refine x_if (a' := 53) (pc' := 51) (z := false) rfl rfl rfl (by decide) (fun h => by cases h) (fun _ => ?_)
  refine x_iconst (pc' := 52) rfl rfl ?_
  refine x_reti rfl rfl ?_
  refine sK_i (pc' := 1522) rfl ?_
  refine x_istore (pc' := 1524) (ls' := [_, _, _, _, _, _, _]) rfl rfl rfl rfl ?_
  refine x_aload_n (pc' := 1525) rfl rfl rfl rfl rfl ?_
  refine x_cv (ls0 := [_]) (rest := []) rfl rfl rfl rfl rfl ?_
  refine x_aload_n (pc' := 1) rfl rfl rfl rfl rfl ?_
  refine x_gI (pc' := 4) (x := 1) rfl rfl rfl sI_s ?_
  refine x_reti rfl rfl ?_
  refine sK_i (pc' := 1528) rfl ?_
  refine x_iload (pc' := 1530) rfl rfl rfl ?_
  refine x_icmp (a' := 1535) (pc' := 1533) (z := true) rfl rfl rfl (by decide) (fun _ => ?_) (fun h => by cases h)
  refine x_iload (pc' := 1537) rfl rfl rfl ?_
  refine x_if (a' := 1552) (pc' := 1540) (z := true) rfl rfl rfl (by decide) (fun _ => ?_) (fun h => by cases h)
  refine x_goto (pc' := 2938) rfl rfl ?_
  refine x_iinc (pc' := 2941) (y := 7) (ls' := [_, _, _, _, _, _, _]) rfl rfl rfl rfl rfl ?_
  refine x_goto (pc' := 23) rfl rfl ?_
  refine x_iload (pc' := 25) rfl rfl rfl ?_
  refine x_aload_n (pc' := 26) rfl rfl rfl rfl rfl ?_
  refine x_alen (pc' := 27) (N := 7) rfl rfl rfl (Eq.trans rdNI (Eq.trans rdNthr (z_N_29_0 e))) (?_ : X _ _ _ (.inl 7 :: _) _ _)
  refine x_bipush (pc' := 29) rfl rfl ?_
  refine x_isub (pc' := 30) (z := 0) rfl rfl (by decide) ?_
  refine x_icmp (a' := 2944) (pc' := 33) (z := true) rfl rfl rfl (by decide) (fun _ => ?_) (fun h => by cases h)
  refine x_iconst (pc' := 2945) rfl rfl ?_
  refine x_retz (z := true) rfl rfl ?_
  exact Qp_ok e (p := 1) (q := 6) rfl rfl rfl rfl
set_option maxHeartbeats 4000000 in
set_option maxRecDepth 10000 in
theorem v_17_v {t : sT} {xs : Nat → Int32} {m : Nat}
    (e : t = T16 7 xs)
    (hk : ((xs 0) &&& 63) = 17)
    (hm : m < 6)
    (e0 : xs 1 = io m) :
    X 297 23 [.inr (.inr (29, (some 0))), .inr (.inr (11, (some 0))), .inr (.inr (12, (some 0))), .inr (.inr (23, (some 0))), .inl 0, sJk, sJk] [] t Qp := by
  refine x_iload (pc' := 25) rfl rfl rfl ?_
  refine x_aload_n (pc' := 26) rfl rfl rfl rfl rfl ?_
  refine x_alen (pc' := 27) (N := 7) rfl rfl rfl (z_N_29_0 e) (?_ : X _ _ _ (.inl 7 :: _) _ _)
  refine x_bipush (pc' := 29) rfl rfl ?_
  refine x_isub (pc' := 30) (z := 0) rfl rfl (by decide) ?_
  refine x_icmp (a' := 2944) (pc' := 33) (z := false) rfl rfl rfl (by decide) (fun h => by cases h) (fun _ => ?_)
  refine x_aload_n (pc' := 34) rfl rfl rfl rfl rfl ?_
  refine x_iload (pc' := 36) rfl rfl rfl ?_
  refine x_iald (pc' := 37) (N := 7) (x := (xs 0)) rfl rfl rfl (z_N_29_0 e) (io_in (p := 0) (N := 7) (by decide) (by decide)) (Eq.trans (congrArg (sA t 29 0) (nn_io (p := 0) (by decide))) (z_A_29_0_0 e)) ?_
  refine x_bipush (pc' := 39) rfl rfl ?_
  refine x_iand (pc' := 40) (z := ((xs 0) &&& 63)) rfl rfl rfl ?_
  refine x_switch (pc' := 1555) rfl (by rw [hk]; decide) ?_
  refine x_aload_n (pc' := 1556) rfl rfl rfl rfl rfl ?_
  refine x_aload_n (pc' := 1557) rfl rfl rfl rfl rfl ?_
  refine x_iload (pc' := 1559) rfl rfl rfl ?_
  refine x_iconst (pc' := 1560) rfl rfl ?_
  refine x_iadd (pc' := 1561) (z := 1) rfl rfl (by decide) ?_
  refine x_iald (pc' := 1562) (N := 7) (x := (io m)) rfl rfl rfl (z_N_29_0 e) (io_in (p := 1) (N := 7) (by decide) (by decide)) (Eq.trans (congrArg (sA t 29 0) (nn_io (p := 1) (by decide))) (Eq.trans (z_A_29_0_1 e) e0)) ?_
  refine x_aload_n (pc' := 1563) rfl rfl rfl rfl rfl ?_
  refine x_cs (ls0 := [_, _, _, sJk]) (rest := []) rfl rfl rfl rfl ?_
  refine x_aload_n (pc' := 1) rfl rfl rfl rfl rfl ?_
  refine x_iconst (pc' := 2) rfl rfl ?_
  refine x_aload_n (pc' := 3) rfl rfl rfl rfl rfl ?_
  refine x_iload_n (pc' := 4) rfl rfl rfl ?_
  refine x_cv (ls0 := [_, _, sJk, sJk]) (rest := [_, _]) rfl rfl rfl rfl rfl ?_
  refine x_aload_n (pc' := 1) rfl rfl rfl rfl rfl ?_
  refine x_iload_n (pc' := 2) rfl rfl rfl ?_
  refine x_cv (ls0 := [_, _]) (rest := []) rfl rfl rfl rfl rfl ?_
  refine x_iload_n (pc' := 1) rfl rfl rfl ?_
  refine x_if (a' := 16) (pc' := 4) (z := decide (m < 0)) rfl rfl rfl (ic_lt (p := m) (q := 0) (Nat.lt_trans hm (by decide)) (by decide)) (fun h => absurd (of_decide_eq_true h) (by first | decide | omega | simp)) (fun _ => ?_)
  refine x_iload_n (pc' := 5) rfl rfl rfl ?_
  refine x_aload_n (pc' := 6) rfl rfl rfl rfl rfl ?_
  refine x_gR (pc' := 9) (r := (some 0)) rfl rfl rfl (z_R_704_0 e) ?_
  refine x_gR (pc' := 12) (r := (some 0)) rfl rfl rfl (z_R_321_0 e) ?_
  refine x_alen (pc' := 13) (N := 6) rfl rfl rfl (z_N_26_0 e) (?_ : X _ _ _ (.inl 6 :: _) _ _)
  refine x_icmp (a' := 27) (pc' := 16) (z := decide (m < 6)) rfl rfl rfl (ic_lt (p := m) (q := 6) (Nat.lt_trans hm (by decide)) (by decide)) (fun _ => ?_) (fun h => absurd (Nat.lt_of_lt_of_le hm (by decide)) (of_decide_eq_false h))
  refine x_aload_n (pc' := 28) rfl rfl rfl rfl rfl ?_
  refine x_gR (pc' := 31) (r := (some 0)) rfl rfl rfl (z_R_704_0 e) ?_
  refine x_gR (pc' := 34) (r := (some 0)) rfl rfl rfl (z_R_321_0 e) ?_
  refine x_iload_n (pc' := 35) rfl rfl rfl ?_
  refine x_aald (pc' := 36) (N := 6) (k' := 7) (r := (some m)) rfl rfl rfl (z_N_26_0 e) (io_in (p := m) (N := 6) hm (by decide)) (Eq.trans (congrArg (sE t 26 0) (nn_io (p := m) (Nat.lt_trans hm (by decide)))) (kM (Cn_e e) hm)) ?_
  refine x_reta rfl rfl ?_
  refine sK_i (pc' := 5) rfl ?_
  refine x_astore_n (pc' := 6) (ls' := [_, _, _, _]) rfl rfl rfl rfl rfl ?_
  refine x_aload_n (pc' := 7) rfl rfl rfl rfl rfl ?_
  refine x_gZ (pc' := 10) (z := false) rfl rfl rfl (z_Z_458_y e _) ?_
  refine x_if (a' := 37) (pc' := 13) (z := false) rfl rfl rfl (by decide) (fun h => by cases h) (fun _ => ?_)
  refine x_aload_n (pc' := 14) rfl rfl rfl rfl rfl ?_
  refine x_gR (pc' := 17) (r := (some 0)) rfl rfl rfl (z_R_704_0 e) ?_
  refine x_aload_n (pc' := 18) rfl rfl rfl rfl rfl ?_
  refine x_cv (ls0 := [_, _, sJk, sJk, sJk, sJk, sJk]) (rest := []) rfl rfl rfl rfl rfl ?_
  refine x_aload_n (pc' := 1) rfl rfl rfl rfl rfl ?_
  refine x_gI (pc' := 4) (x := 0) rfl rfl rfl (z_I_450_y e _) ?_
  refine x_aload_n (pc' := 5) rfl rfl rfl rfl rfl ?_
  refine x_gI (pc' := 8) (x := 0) rfl rfl rfl (z_I_451_y e _) ?_
  refine x_iadd (pc' := 9) (z := 0) rfl rfl (by decide) ?_
  refine x_istore_n (pc' := 10) (ls' := [_, _, _, _, _, _, _]) rfl rfl rfl rfl ?_
  refine x_aload_n (pc' := 11) rfl rfl rfl rfl rfl ?_
  refine x_gR (pc' := 14) (r := (some 0)) rfl rfl rfl (z_R_320_0 e) ?_
  refine x_astore_n (pc' := 15) (ls' := [_, _, _, _, _, _, _]) rfl rfl rfl rfl rfl ?_
  refine x_aload_n (pc' := 16) rfl rfl rfl rfl rfl ?_
  refine x_alen (pc' := 17) (N := 3) rfl rfl rfl (z_N_25_0 e) (?_ : X _ _ _ (.inl 3 :: _) _ _)
  refine x_istore (pc' := 19) (ls' := [_, _, _, _, _, _, _]) rfl rfl rfl rfl ?_
  refine x_iconst (pc' := 20) rfl rfl ?_
  refine x_istore (pc' := 22) (ls' := [_, _, _, _, _, _, _]) rfl rfl rfl rfl ?_
  refine x_iload (pc' := 24) rfl rfl rfl ?_
  refine x_iload (pc' := 26) rfl rfl rfl ?_
  refine x_icmp (a' := 56) (pc' := 29) (z := false) rfl rfl rfl (by decide) (fun h => by cases h) (fun _ => ?_)
  refine x_aload_n (pc' := 30) rfl rfl rfl rfl rfl ?_
  refine x_iload (pc' := 32) rfl rfl rfl ?_
  refine x_aald (pc' := 33) (N := 3) (k' := 2) (r := (some 0)) rfl rfl rfl (z_N_25_0 e) (io_in (p := 0) (N := 3) (by decide) (by decide)) (Eq.trans (congrArg (sE t 25 0) (nn_io (p := 0) (by decide))) (z_E_25_0_0 e)) ?_
  refine x_astore (pc' := 35) (ls' := [_, _, _, _, _, _, _]) rfl rfl rfl rfl rfl ?_
  refine x_iload_n (pc' := 36) rfl rfl rfl ?_
  refine x_aload_n (pc' := 37) rfl rfl rfl rfl rfl ?_
  refine x_aload (pc' := 39) rfl rfl rfl rfl rfl ?_
  refine x_cv (ls0 := [_, _, sJk]) (rest := [_]) rfl rfl rfl rfl rfl ?_
  refine x_aload_n (pc' := 1) rfl rfl rfl rfl rfl ?_
  refine x_gI (pc' := 4) (x := 0) rfl rfl rfl (z_I_128_0 e) ?_
  refine x_istore_n (pc' := 5) (ls' := [_, _, _]) rfl rfl rfl rfl ?_
  refine x_iload_n (pc' := 6) rfl rfl rfl ?_
  refine x_if (a' := 27) (pc' := 9) (z := false) rfl rfl rfl (by decide) (fun h => by cases h) (fun _ => ?_)
  refine x_iload_n (pc' := 10) rfl rfl rfl ?_
  refine x_aload_n (pc' := 11) rfl rfl rfl rfl rfl ?_
  refine x_gR (pc' := 14) (r := (some (m + 1))) rfl rfl rfl (kMp (Cn_e e) hm).1 ?_
  refine x_alen (pc' := 15) (N := 3) rfl rfl rfl (kMp (Cn_e e) hm).2.1 (?_ : X _ _ _ (.inl 3 :: _) _ _)
  refine x_icmp (a' := 27) (pc' := 18) (z := false) rfl rfl rfl (by decide) (fun h => by cases h) (fun _ => ?_)
  refine x_aload_n (pc' := 19) rfl rfl rfl rfl rfl ?_
  refine x_gR (pc' := 22) (r := (some (m + 1))) rfl rfl rfl (kMp (Cn_e e) hm).1 ?_
  refine x_iload_n (pc' := 23) rfl rfl rfl ?_
  refine x_iald (pc' := 24) (N := 3) (x := 0) rfl rfl rfl (kMp (Cn_e e) hm).2.1 (io_in (p := 0) (N := 3) (by decide) (by decide)) (Eq.trans (congrArg (sA t 20 (m + 1)) (nn_io (p := 0) (by decide))) (z_A_20_yy e _ _)) ?_
  refine x_goto (pc' := 28) rfl rfl ?_
  refine x_reti rfl rfl ?_
  refine sK_i (pc' := 42) rfl ?_
  refine x_aload (pc' := 44) rfl rfl rfl rfl rfl ?_
  refine x_gI (pc' := 47) (x := 100) rfl rfl rfl (z_I_129_0 e) ?_
  refine x_imul (pc' := 48) (z := 0) rfl rfl (by decide) ?_
  refine x_iadd (pc' := 49) (z := 0) rfl rfl (by decide) ?_
  refine x_istore_n (pc' := 50) (ls' := [_, _, _, _, _, _, _]) rfl rfl rfl rfl ?_
  refine x_iinc (pc' := 53) (y := 1) (ls' := [_, _, _, _, _, _, _]) rfl rfl rfl rfl rfl ?_
  refine x_goto (pc' := 22) rfl rfl ?_
  refine x_iload (pc' := 24) rfl rfl rfl ?_
  refine x_iload (pc' := 26) rfl rfl rfl ?_
  refine x_icmp (a' := 56) (pc' := 29) (z := false) rfl rfl rfl (by decide) (fun h => by cases h) (fun _ => ?_)
  refine x_aload_n (pc' := 30) rfl rfl rfl rfl rfl ?_
  refine x_iload (pc' := 32) rfl rfl rfl ?_
  refine x_aald (pc' := 33) (N := 3) (k' := 2) (r := (some 1)) rfl rfl rfl (z_N_25_0 e) (io_in (p := 1) (N := 3) (by decide) (by decide)) (Eq.trans (congrArg (sE t 25 0) (nn_io (p := 1) (by decide))) (z_E_25_0_1 e)) ?_
  refine x_astore (pc' := 35) (ls' := [_, _, _, _, _, _, _]) rfl rfl rfl rfl rfl ?_
  refine x_iload_n (pc' := 36) rfl rfl rfl ?_
  refine x_aload_n (pc' := 37) rfl rfl rfl rfl rfl ?_
  refine x_aload (pc' := 39) rfl rfl rfl rfl rfl ?_
  refine x_cv (ls0 := [_, _, sJk]) (rest := [_]) rfl rfl rfl rfl rfl ?_
  refine x_aload_n (pc' := 1) rfl rfl rfl rfl rfl ?_
  refine x_gI (pc' := 4) (x := 1) rfl rfl rfl (z_I_128_1 e) ?_
  refine x_istore_n (pc' := 5) (ls' := [_, _, _]) rfl rfl rfl rfl ?_
  refine x_iload_n (pc' := 6) rfl rfl rfl ?_
  refine x_if (a' := 27) (pc' := 9) (z := false) rfl rfl rfl (by decide) (fun h => by cases h) (fun _ => ?_)
  refine x_iload_n (pc' := 10) rfl rfl rfl ?_
  refine x_aload_n (pc' := 11) rfl rfl rfl rfl rfl ?_
  refine x_gR (pc' := 14) (r := (some (m + 1))) rfl rfl rfl (kMp (Cn_e e) hm).1 ?_
  refine x_alen (pc' := 15) (N := 3) rfl rfl rfl (kMp (Cn_e e) hm).2.1 (?_ : X _ _ _ (.inl 3 :: _) _ _)
  refine x_icmp (a' := 27) (pc' := 18) (z := false) rfl rfl rfl (by decide) (fun h => by cases h) (fun _ => ?_)
  refine x_aload_n (pc' := 19) rfl rfl rfl rfl rfl ?_
  refine x_gR (pc' := 22) (r := (some (m + 1))) rfl rfl rfl (kMp (Cn_e e) hm).1 ?_
  refine x_iload_n (pc' := 23) rfl rfl rfl ?_
  refine x_iald (pc' := 24) (N := 3) (x := 0) rfl rfl rfl (kMp (Cn_e e) hm).2.1 (io_in (p := 1) (N := 3) (by decide) (by decide)) (Eq.trans (congrArg (sA t 20 (m + 1)) (nn_io (p := 1) (by decide))) (z_A_20_yy e _ _)) ?_
  refine x_goto (pc' := 28) rfl rfl ?_
  refine x_reti rfl rfl ?_
  refine sK_i (pc' := 42) rfl ?_
  refine x_aload (pc' := 44) rfl rfl rfl rfl rfl ?_
  refine x_gI (pc' := 47) (x := 100) rfl rfl rfl (z_I_129_1 e) ?_
  refine x_imul (pc' := 48) (z := 0) rfl rfl (by decide) ?_
  refine x_iadd (pc' := 49) (z := 0) rfl rfl (by decide) ?_
  refine x_istore_n (pc' := 50) (ls' := [_, _, _, _, _, _, _]) rfl rfl rfl rfl ?_
  refine x_iinc (pc' := 53) (y := 2) (ls' := [_, _, _, _, _, _, _]) rfl rfl rfl rfl rfl ?_
  refine x_goto (pc' := 22) rfl rfl ?_
  refine x_iload (pc' := 24) rfl rfl rfl ?_
  refine x_iload (pc' := 26) rfl rfl rfl ?_
  refine x_icmp (a' := 56) (pc' := 29) (z := false) rfl rfl rfl (by decide) (fun h => by cases h) (fun _ => ?_)
  refine x_aload_n (pc' := 30) rfl rfl rfl rfl rfl ?_
  refine x_iload (pc' := 32) rfl rfl rfl ?_
  refine x_aald (pc' := 33) (N := 3) (k' := 2) (r := (some 2)) rfl rfl rfl (z_N_25_0 e) (io_in (p := 2) (N := 3) (by decide) (by decide)) (Eq.trans (congrArg (sE t 25 0) (nn_io (p := 2) (by decide))) (z_E_25_0_2 e)) ?_
  refine x_astore (pc' := 35) (ls' := [_, _, _, _, _, _, _]) rfl rfl rfl rfl rfl ?_
  refine x_iload_n (pc' := 36) rfl rfl rfl ?_
  refine x_aload_n (pc' := 37) rfl rfl rfl rfl rfl ?_
  refine x_aload (pc' := 39) rfl rfl rfl rfl rfl ?_
  refine x_cv (ls0 := [_, _, sJk]) (rest := [_]) rfl rfl rfl rfl rfl ?_
  refine x_aload_n (pc' := 1) rfl rfl rfl rfl rfl ?_
  refine x_gI (pc' := 4) (x := 2) rfl rfl rfl (z_I_128_2 e) ?_
  refine x_istore_n (pc' := 5) (ls' := [_, _, _]) rfl rfl rfl rfl ?_
  refine x_iload_n (pc' := 6) rfl rfl rfl ?_
  refine x_if (a' := 27) (pc' := 9) (z := false) rfl rfl rfl (by decide) (fun h => by cases h) (fun _ => ?_)
  refine x_iload_n (pc' := 10) rfl rfl rfl ?_
  refine x_aload_n (pc' := 11) rfl rfl rfl rfl rfl ?_
  refine x_gR (pc' := 14) (r := (some (m + 1))) rfl rfl rfl (kMp (Cn_e e) hm).1 ?_
  refine x_alen (pc' := 15) (N := 3) rfl rfl rfl (kMp (Cn_e e) hm).2.1 (?_ : X _ _ _ (.inl 3 :: _) _ _)
  refine x_icmp (a' := 27) (pc' := 18) (z := false) rfl rfl rfl (by decide) (fun h => by cases h) (fun _ => ?_)
  refine x_aload_n (pc' := 19) rfl rfl rfl rfl rfl ?_
  refine x_gR (pc' := 22) (r := (some (m + 1))) rfl rfl rfl (kMp (Cn_e e) hm).1 ?_
  refine x_iload_n (pc' := 23) rfl rfl rfl ?_
  refine x_iald (pc' := 24) (N := 3) (x := 0) rfl rfl rfl (kMp (Cn_e e) hm).2.1 (io_in (p := 2) (N := 3) (by decide) (by decide)) (Eq.trans (congrArg (sA t 20 (m + 1)) (nn_io (p := 2) (by decide))) (z_A_20_yy e _ _)) ?_
  refine x_goto (pc' := 28) rfl rfl ?_
  refine x_reti rfl rfl ?_
  refine sK_i (pc' := 42) rfl ?_
  refine x_aload (pc' := 44) rfl rfl rfl rfl rfl ?_
  refine x_gI (pc' := 47) (x := 100) rfl rfl rfl (z_I_129_2 e) ?_
  refine x_imul (pc' := 48) (z := 0) rfl rfl (by decide) ?_
  refine x_iadd (pc' := 49) (z := 0) rfl rfl (by decide) ?_
  refine x_istore_n (pc' := 50) (ls' := [_, _, _, _, _, _, _]) rfl rfl rfl rfl ?_
  refine x_iinc (pc' := 53) (y := 3) (ls' := [_, _, _, _, _, _, _]) rfl rfl rfl rfl rfl ?_
  refine x_goto (pc' := 22) rfl rfl ?_
  refine x_iload (pc' := 24) rfl rfl rfl ?_
  refine x_iload (pc' := 26) rfl rfl rfl ?_
  refine x_icmp (a' := 56) (pc' := 29) (z := true) rfl rfl rfl (by decide) (fun _ => ?_) (fun h => by cases h)
  refine x_iload_n (pc' := 57) rfl rfl rfl ?_
  refine x_reti rfl rfl ?_
  refine sK_i (pc' := 21) rfl ?_
  refine x_aload_n (pc' := 22) rfl rfl rfl rfl rfl ?_
  refine x_gR (pc' := 25) (r := (some 0)) rfl rfl rfl (z_R_704_0 e) ?_
  refine x_aload_n (pc' := 26) rfl rfl rfl rfl rfl ?_
  refine x_null (pc' := 27) rfl rfl rfl ?_
  refine x_cv (ls0 := [_, _, _, sJk, sJk, sJk, sJk, sJk, sJk, sJk, sJk]) (rest := [_]) rfl rfl rfl rfl rfl ?_
  refine x_iconst (pc' := 1) rfl rfl ?_
  refine x_istore_n (pc' := 2) (ls' := [_, _, _, _, _, _, _, _, _, _, _]) rfl rfl rfl rfl ?_
  refine x_iconst (pc' := 3) rfl rfl ?_
  refine x_istore (pc' := 5) (ls' := [_, _, _, _, _, _, _, _, _, _, _]) rfl rfl rfl rfl ?_
  refine x_iload (pc' := 7) rfl rfl rfl ?_
  refine x_bipush (pc' := 9) rfl rfl ?_
  refine x_icmp (a' := 108) (pc' := 12) (z := false) rfl rfl rfl (by decide) (fun h => by cases h) (fun _ => ?_)
  refine x_iconst (pc' := 13) rfl rfl ?_
  refine x_istore (pc' := 15) (ls' := [_, _, _, _, _, _, _, _, _, _, _]) rfl rfl rfl rfl ?_
  refine x_aload_n (pc' := 16) rfl rfl rfl rfl rfl ?_
  refine x_gR (pc' := 19) (r := (some 0)) rfl rfl rfl (z_R_320_0 e) ?_
  refine x_astore (pc' := 21) (ls' := [_, _, _, _, _, _, _, _, _, _, _]) rfl rfl rfl rfl rfl ?_
  refine x_aload (pc' := 23) rfl rfl rfl rfl rfl ?_
  refine x_alen (pc' := 24) (N := 3) rfl rfl rfl (z_N_25_0 e) (?_ : X _ _ _ (.inl 3 :: _) _ _)
  refine x_istore (pc' := 26) (ls' := [_, _, _, _, _, _, _, _, _, _, _]) rfl rfl rfl rfl ?_
  refine x_iconst (pc' := 27) rfl rfl ?_
  refine x_istore (pc' := 29) (ls' := [_, _, _, _, _, _, _, _, _, _, _]) rfl rfl rfl rfl ?_
  refine x_iload (pc' := 31) rfl rfl rfl ?_
  refine x_iload (pc' := 33) rfl rfl rfl ?_
  refine x_icmp (a' := 95) (pc' := 36) (z := false) rfl rfl rfl (by decide) (fun h => by cases h) (fun _ => ?_)
  refine x_aload (pc' := 38) rfl rfl rfl rfl rfl ?_
  refine x_iload (pc' := 40) rfl rfl rfl ?_
  refine x_aald (pc' := 41) (N := 3) (k' := 2) (r := (some 0)) rfl rfl rfl (z_N_25_0 e) (io_in (p := 0) (N := 3) (by decide) (by decide)) (Eq.trans (congrArg (sE t 25 0) (nn_io (p := 0) (by decide))) (z_E_25_0_0 e)) ?_
  refine x_astore (pc' := 43) (ls' := [_, _, _, _, _, _, _, _, _, _, _]) rfl rfl rfl rfl rfl ?_
  refine x_aload_n (pc' := 44) rfl rfl rfl rfl rfl ?_
  refine x_aload (pc' := 46) rfl rfl rfl rfl rfl ?_
  refine x_cv (ls0 := [_, _, sJk]) (rest := []) rfl rfl rfl rfl rfl ?_
  refine x_aload_n (pc' := 1) rfl rfl rfl rfl rfl ?_
  refine x_gI (pc' := 4) (x := 0) rfl rfl rfl (z_I_128_0 e) ?_
  refine x_istore_n (pc' := 5) (ls' := [_, _, _]) rfl rfl rfl rfl ?_
  refine x_iload_n (pc' := 6) rfl rfl rfl ?_
  refine x_if (a' := 27) (pc' := 9) (z := false) rfl rfl rfl (by decide) (fun h => by cases h) (fun _ => ?_)
  refine x_iload_n (pc' := 10) rfl rfl rfl ?_
  refine x_aload_n (pc' := 11) rfl rfl rfl rfl rfl ?_
  refine x_gR (pc' := 14) (r := (some (m + 1))) rfl rfl rfl (kMp (Cn_e e) hm).1 ?_
  refine x_alen (pc' := 15) (N := 3) rfl rfl rfl (kMp (Cn_e e) hm).2.1 (?_ : X _ _ _ (.inl 3 :: _) _ _)
  refine x_icmp (a' := 27) (pc' := 18) (z := false) rfl rfl rfl (by decide) (fun h => by cases h) (fun _ => ?_)
  refine x_aload_n (pc' := 19) rfl rfl rfl rfl rfl ?_
  refine x_gR (pc' := 22) (r := (some (m + 1))) rfl rfl rfl (kMp (Cn_e e) hm).1 ?_
  refine x_iload_n (pc' := 23) rfl rfl rfl ?_
  refine x_iald (pc' := 24) (N := 3) (x := 0) rfl rfl rfl (kMp (Cn_e e) hm).2.1 (io_in (p := 0) (N := 3) (by decide) (by decide)) (Eq.trans (congrArg (sA t 20 (m + 1)) (nn_io (p := 0) (by decide))) (z_A_20_yy e _ _)) ?_
  refine x_goto (pc' := 28) rfl rfl ?_
  refine x_reti rfl rfl ?_
  refine sK_i (pc' := 49) rfl ?_
  refine x_istore (pc' := 51) (ls' := [_, _, _, _, _, _, _, _, _, _, _]) rfl rfl rfl rfl ?_
  refine x_iload (pc' := 53) rfl rfl rfl ?_
  refine x_aload_n (pc' := 54) rfl rfl rfl rfl rfl ?_
  refine x_ifnonnull (a' := 61) (pc' := 57) rfl rfl rfl rfl (fun i h => by cases h) (fun _ => ?_)
  refine x_iconst (pc' := 58) rfl rfl ?_
  refine x_goto (pc' := 67) rfl rfl ?_
  refine x_iadd (pc' := 68) (z := 0) rfl rfl (by decide) ?_
  refine x_istore (pc' := 70) (ls' := [_, _, _, _, _, _, _, _, _, _, _]) rfl rfl rfl rfl ?_
  refine x_iload (pc' := 72) rfl rfl rfl ?_
  refine x_iload (pc' := 74) rfl rfl rfl ?_
  refine x_aload_n (pc' := 75) rfl rfl rfl rfl rfl ?_
  refine x_iload (pc' := 77) rfl rfl rfl ?_
  refine x_aload (pc' := 79) rfl rfl rfl rfl rfl ?_
  refine x_gI (pc' := 82) (x := 0) rfl rfl rfl (z_I_128_0 e) ?_
  refine x_cv (ls0 := [_, _, _, sJk]) (rest := [_, _]) rfl rfl rfl rfl rfl ?_
  refine x_iload_n (pc' := 1) rfl rfl rfl ?_
  refine x_iconst (pc' := 2) rfl rfl ?_
  refine x_imul (pc' := 3) (z := 0) rfl rfl (by decide) ?_
  refine x_iload_n (pc' := 4) rfl rfl rfl ?_
  refine x_iadd (pc' := 5) (z := 0) rfl rfl (by decide) ?_
  refine x_istore_n (pc' := 6) (ls' := [_, _, _, _]) rfl rfl rfl rfl ?_
  refine x_iload_n (pc' := 7) rfl rfl rfl ?_
  refine x_if (a' := 28) (pc' := 10) (z := false) rfl rfl rfl (by decide) (fun h => by cases h) (fun _ => ?_)
  refine x_iload_n (pc' := 11) rfl rfl rfl ?_
  refine x_aload_n (pc' := 12) rfl rfl rfl rfl rfl ?_
  refine x_gR (pc' := 15) (r := (some 0)) rfl rfl rfl (z_R_323_0 e) ?_
  refine x_alen (pc' := 16) (N := 18) rfl rfl rfl (z_N_20_0 e) (?_ : X _ _ _ (.inl 18 :: _) _ _)
  refine x_icmp (a' := 28) (pc' := 19) (z := false) rfl rfl rfl (by decide) (fun h => by cases h) (fun _ => ?_)
  refine x_aload_n (pc' := 20) rfl rfl rfl rfl rfl ?_
  refine x_gR (pc' := 23) (r := (some 0)) rfl rfl rfl (z_R_323_0 e) ?_
  refine x_iload_n (pc' := 24) rfl rfl rfl ?_
  refine x_iald (pc' := 25) (N := 18) (x := 0) rfl rfl rfl (z_N_20_0 e) (io_in (p := 0) (N := 18) (by decide) (by decide)) (Eq.trans (congrArg (sA t 20 0) (nn_io (p := 0) (by decide))) (z_A_20_0_0 e)) ?_
  refine x_goto (pc' := 29) rfl rfl ?_
  refine x_reti rfl rfl ?_
  refine sK_i (pc' := 85) rfl ?_
  refine x_imul (pc' := 86) (z := 0) rfl rfl (by decide) ?_
  refine x_isub (pc' := 87) (z := 0) rfl rfl (by decide) ?_
  refine x_istore (pc' := 89) (ls' := [_, _, _, _, _, _, _, _, _, _, _]) rfl rfl rfl rfl ?_
  refine x_iinc (pc' := 92) (y := 1) (ls' := [_, _, _, _, _, _, _, _, _, _, _]) rfl rfl rfl rfl rfl ?_
  refine x_goto (pc' := 29) rfl rfl ?_
  refine x_iload (pc' := 31) rfl rfl rfl ?_
  refine x_iload (pc' := 33) rfl rfl rfl ?_
  refine x_icmp (a' := 95) (pc' := 36) (z := false) rfl rfl rfl (by decide) (fun h => by cases h) (fun _ => ?_)
  refine x_aload (pc' := 38) rfl rfl rfl rfl rfl ?_
  refine x_iload (pc' := 40) rfl rfl rfl ?_
  refine x_aald (pc' := 41) (N := 3) (k' := 2) (r := (some 1)) rfl rfl rfl (z_N_25_0 e) (io_in (p := 1) (N := 3) (by decide) (by decide)) (Eq.trans (congrArg (sE t 25 0) (nn_io (p := 1) (by decide))) (z_E_25_0_1 e)) ?_
  refine x_astore (pc' := 43) (ls' := [_, _, _, _, _, _, _, _, _, _, _]) rfl rfl rfl rfl rfl ?_
  refine x_aload_n (pc' := 44) rfl rfl rfl rfl rfl ?_
  refine x_aload (pc' := 46) rfl rfl rfl rfl rfl ?_
  refine x_cv (ls0 := [_, _, sJk]) (rest := []) rfl rfl rfl rfl rfl ?_
  refine x_aload_n (pc' := 1) rfl rfl rfl rfl rfl ?_
  refine x_gI (pc' := 4) (x := 1) rfl rfl rfl (z_I_128_1 e) ?_
  refine x_istore_n (pc' := 5) (ls' := [_, _, _]) rfl rfl rfl rfl ?_
  refine x_iload_n (pc' := 6) rfl rfl rfl ?_
  refine x_if (a' := 27) (pc' := 9) (z := false) rfl rfl rfl (by decide) (fun h => by cases h) (fun _ => ?_)
  refine x_iload_n (pc' := 10) rfl rfl rfl ?_
  refine x_aload_n (pc' := 11) rfl rfl rfl rfl rfl ?_
  refine x_gR (pc' := 14) (r := (some (m + 1))) rfl rfl rfl (kMp (Cn_e e) hm).1 ?_
  refine x_alen (pc' := 15) (N := 3) rfl rfl rfl (kMp (Cn_e e) hm).2.1 (?_ : X _ _ _ (.inl 3 :: _) _ _)
  refine x_icmp (a' := 27) (pc' := 18) (z := false) rfl rfl rfl (by decide) (fun h => by cases h) (fun _ => ?_)
  refine x_aload_n (pc' := 19) rfl rfl rfl rfl rfl ?_
  refine x_gR (pc' := 22) (r := (some (m + 1))) rfl rfl rfl (kMp (Cn_e e) hm).1 ?_
  refine x_iload_n (pc' := 23) rfl rfl rfl ?_
  refine x_iald (pc' := 24) (N := 3) (x := 0) rfl rfl rfl (kMp (Cn_e e) hm).2.1 (io_in (p := 1) (N := 3) (by decide) (by decide)) (Eq.trans (congrArg (sA t 20 (m + 1)) (nn_io (p := 1) (by decide))) (z_A_20_yy e _ _)) ?_
  refine x_goto (pc' := 28) rfl rfl ?_
  refine x_reti rfl rfl ?_
  refine sK_i (pc' := 49) rfl ?_
  refine x_istore (pc' := 51) (ls' := [_, _, _, _, _, _, _, _, _, _, _]) rfl rfl rfl rfl ?_
  refine x_iload (pc' := 53) rfl rfl rfl ?_
  refine x_aload_n (pc' := 54) rfl rfl rfl rfl rfl ?_
  refine x_ifnonnull (a' := 61) (pc' := 57) rfl rfl rfl rfl (fun i h => by cases h) (fun _ => ?_)
  refine x_iconst (pc' := 58) rfl rfl ?_
  refine x_goto (pc' := 67) rfl rfl ?_
  refine x_iadd (pc' := 68) (z := 0) rfl rfl (by decide) ?_
  refine x_istore (pc' := 70) (ls' := [_, _, _, _, _, _, _, _, _, _, _]) rfl rfl rfl rfl ?_
  refine x_iload (pc' := 72) rfl rfl rfl ?_
  refine x_iload (pc' := 74) rfl rfl rfl ?_
  refine x_aload_n (pc' := 75) rfl rfl rfl rfl rfl ?_
  refine x_iload (pc' := 77) rfl rfl rfl ?_
  refine x_aload (pc' := 79) rfl rfl rfl rfl rfl ?_
  refine x_gI (pc' := 82) (x := 1) rfl rfl rfl (z_I_128_1 e) ?_
  refine x_cv (ls0 := [_, _, _, sJk]) (rest := [_, _]) rfl rfl rfl rfl rfl ?_
  refine x_iload_n (pc' := 1) rfl rfl rfl ?_
  refine x_iconst (pc' := 2) rfl rfl ?_
  refine x_imul (pc' := 3) (z := 0) rfl rfl (by decide) ?_
  refine x_iload_n (pc' := 4) rfl rfl rfl ?_
  refine x_iadd (pc' := 5) (z := 1) rfl rfl (by decide) ?_
  refine x_istore_n (pc' := 6) (ls' := [_, _, _, _]) rfl rfl rfl rfl ?_
  refine x_iload_n (pc' := 7) rfl rfl rfl ?_
  refine x_if (a' := 28) (pc' := 10) (z := false) rfl rfl rfl (by decide) (fun h => by cases h) (fun _ => ?_)
  refine x_iload_n (pc' := 11) rfl rfl rfl ?_
  refine x_aload_n (pc' := 12) rfl rfl rfl rfl rfl ?_
  refine x_gR (pc' := 15) (r := (some 0)) rfl rfl rfl (z_R_323_0 e) ?_
  refine x_alen (pc' := 16) (N := 18) rfl rfl rfl (z_N_20_0 e) (?_ : X _ _ _ (.inl 18 :: _) _ _)
  refine x_icmp (a' := 28) (pc' := 19) (z := false) rfl rfl rfl (by decide) (fun h => by cases h) (fun _ => ?_)
  refine x_aload_n (pc' := 20) rfl rfl rfl rfl rfl ?_
  refine x_gR (pc' := 23) (r := (some 0)) rfl rfl rfl (z_R_323_0 e) ?_
  refine x_iload_n (pc' := 24) rfl rfl rfl ?_
  refine x_iald (pc' := 25) (N := 18) (x := 0) rfl rfl rfl (z_N_20_0 e) (io_in (p := 1) (N := 18) (by decide) (by decide)) (Eq.trans (congrArg (sA t 20 0) (nn_io (p := 1) (by decide))) (z_A_20_0_1 e)) ?_
  refine x_goto (pc' := 29) rfl rfl ?_
  refine x_reti rfl rfl ?_
  refine sK_i (pc' := 85) rfl ?_
  refine x_imul (pc' := 86) (z := 0) rfl rfl (by decide) ?_
  refine x_isub (pc' := 87) (z := 0) rfl rfl (by decide) ?_
  refine x_istore (pc' := 89) (ls' := [_, _, _, _, _, _, _, _, _, _, _]) rfl rfl rfl rfl ?_
  refine x_iinc (pc' := 92) (y := 2) (ls' := [_, _, _, _, _, _, _, _, _, _, _]) rfl rfl rfl rfl rfl ?_
  refine x_goto (pc' := 29) rfl rfl ?_
  refine x_iload (pc' := 31) rfl rfl rfl ?_
  refine x_iload (pc' := 33) rfl rfl rfl ?_
  refine x_icmp (a' := 95) (pc' := 36) (z := false) rfl rfl rfl (by decide) (fun h => by cases h) (fun _ => ?_)
  refine x_aload (pc' := 38) rfl rfl rfl rfl rfl ?_
  refine x_iload (pc' := 40) rfl rfl rfl ?_
  refine x_aald (pc' := 41) (N := 3) (k' := 2) (r := (some 2)) rfl rfl rfl (z_N_25_0 e) (io_in (p := 2) (N := 3) (by decide) (by decide)) (Eq.trans (congrArg (sE t 25 0) (nn_io (p := 2) (by decide))) (z_E_25_0_2 e)) ?_
  refine x_astore (pc' := 43) (ls' := [_, _, _, _, _, _, _, _, _, _, _]) rfl rfl rfl rfl rfl ?_
  refine x_aload_n (pc' := 44) rfl rfl rfl rfl rfl ?_
  refine x_aload (pc' := 46) rfl rfl rfl rfl rfl ?_
  refine x_cv (ls0 := [_, _, sJk]) (rest := []) rfl rfl rfl rfl rfl ?_
  refine x_aload_n (pc' := 1) rfl rfl rfl rfl rfl ?_
  refine x_gI (pc' := 4) (x := 2) rfl rfl rfl (z_I_128_2 e) ?_
  refine x_istore_n (pc' := 5) (ls' := [_, _, _]) rfl rfl rfl rfl ?_
  refine x_iload_n (pc' := 6) rfl rfl rfl ?_
  refine x_if (a' := 27) (pc' := 9) (z := false) rfl rfl rfl (by decide) (fun h => by cases h) (fun _ => ?_)
  refine x_iload_n (pc' := 10) rfl rfl rfl ?_
  refine x_aload_n (pc' := 11) rfl rfl rfl rfl rfl ?_
  refine x_gR (pc' := 14) (r := (some (m + 1))) rfl rfl rfl (kMp (Cn_e e) hm).1 ?_
  refine x_alen (pc' := 15) (N := 3) rfl rfl rfl (kMp (Cn_e e) hm).2.1 (?_ : X _ _ _ (.inl 3 :: _) _ _)
  refine x_icmp (a' := 27) (pc' := 18) (z := false) rfl rfl rfl (by decide) (fun h => by cases h) (fun _ => ?_)
  refine x_aload_n (pc' := 19) rfl rfl rfl rfl rfl ?_
  refine x_gR (pc' := 22) (r := (some (m + 1))) rfl rfl rfl (kMp (Cn_e e) hm).1 ?_
  refine x_iload_n (pc' := 23) rfl rfl rfl ?_
  refine x_iald (pc' := 24) (N := 3) (x := 0) rfl rfl rfl (kMp (Cn_e e) hm).2.1 (io_in (p := 2) (N := 3) (by decide) (by decide)) (Eq.trans (congrArg (sA t 20 (m + 1)) (nn_io (p := 2) (by decide))) (z_A_20_yy e _ _)) ?_
  refine x_goto (pc' := 28) rfl rfl ?_
  refine x_reti rfl rfl ?_
  refine sK_i (pc' := 49) rfl ?_
  refine x_istore (pc' := 51) (ls' := [_, _, _, _, _, _, _, _, _, _, _]) rfl rfl rfl rfl ?_
  refine x_iload (pc' := 53) rfl rfl rfl ?_
  refine x_aload_n (pc' := 54) rfl rfl rfl rfl rfl ?_
  refine x_ifnonnull (a' := 61) (pc' := 57) rfl rfl rfl rfl (fun i h => by cases h) (fun _ => ?_)
  refine x_iconst (pc' := 58) rfl rfl ?_
  refine x_goto (pc' := 67) rfl rfl ?_
  refine x_iadd (pc' := 68) (z := 0) rfl rfl (by decide) ?_
  refine x_istore (pc' := 70) (ls' := [_, _, _, _, _, _, _, _, _, _, _]) rfl rfl rfl rfl ?_
  refine x_iload (pc' := 72) rfl rfl rfl ?_
  refine x_iload (pc' := 74) rfl rfl rfl ?_
  refine x_aload_n (pc' := 75) rfl rfl rfl rfl rfl ?_
  refine x_iload (pc' := 77) rfl rfl rfl ?_
  refine x_aload (pc' := 79) rfl rfl rfl rfl rfl ?_
  refine x_gI (pc' := 82) (x := 2) rfl rfl rfl (z_I_128_2 e) ?_
  refine x_cv (ls0 := [_, _, _, sJk]) (rest := [_, _]) rfl rfl rfl rfl rfl ?_
  refine x_iload_n (pc' := 1) rfl rfl rfl ?_
  refine x_iconst (pc' := 2) rfl rfl ?_
  refine x_imul (pc' := 3) (z := 0) rfl rfl (by decide) ?_
  refine x_iload_n (pc' := 4) rfl rfl rfl ?_
  refine x_iadd (pc' := 5) (z := 2) rfl rfl (by decide) ?_
  refine x_istore_n (pc' := 6) (ls' := [_, _, _, _]) rfl rfl rfl rfl ?_
  refine x_iload_n (pc' := 7) rfl rfl rfl ?_
  refine x_if (a' := 28) (pc' := 10) (z := false) rfl rfl rfl (by decide) (fun h => by cases h) (fun _ => ?_)
  refine x_iload_n (pc' := 11) rfl rfl rfl ?_
  refine x_aload_n (pc' := 12) rfl rfl rfl rfl rfl ?_
  refine x_gR (pc' := 15) (r := (some 0)) rfl rfl rfl (z_R_323_0 e) ?_
  refine x_alen (pc' := 16) (N := 18) rfl rfl rfl (z_N_20_0 e) (?_ : X _ _ _ (.inl 18 :: _) _ _)
  refine x_icmp (a' := 28) (pc' := 19) (z := false) rfl rfl rfl (by decide) (fun h => by cases h) (fun _ => ?_)
  refine x_aload_n (pc' := 20) rfl rfl rfl rfl rfl ?_
  refine x_gR (pc' := 23) (r := (some 0)) rfl rfl rfl (z_R_323_0 e) ?_
  refine x_iload_n (pc' := 24) rfl rfl rfl ?_
  refine x_iald (pc' := 25) (N := 18) (x := 0) rfl rfl rfl (z_N_20_0 e) (io_in (p := 2) (N := 18) (by decide) (by decide)) (Eq.trans (congrArg (sA t 20 0) (nn_io (p := 2) (by decide))) (z_A_20_0_2 e)) ?_
  refine x_goto (pc' := 29) rfl rfl ?_
  refine x_reti rfl rfl ?_
  refine sK_i (pc' := 85) rfl ?_
  refine x_imul (pc' := 86) (z := 0) rfl rfl (by decide) ?_
  refine x_isub (pc' := 87) (z := 0) rfl rfl (by decide) ?_
  refine x_istore (pc' := 89) (ls' := [_, _, _, _, _, _, _, _, _, _, _]) rfl rfl rfl rfl ?_
  refine x_iinc (pc' := 92) (y := 3) (ls' := [_, _, _, _, _, _, _, _, _, _, _]) rfl rfl rfl rfl rfl ?_
  refine x_goto (pc' := 29) rfl rfl ?_
  refine x_iload (pc' := 31) rfl rfl rfl ?_
  refine x_iload (pc' := 33) rfl rfl rfl ?_
  refine x_icmp (a' := 95) (pc' := 36) (z := true) rfl rfl rfl (by decide) (fun _ => ?_) (fun h => by cases h)
  refine x_iload_n (pc' := 96) rfl rfl rfl ?_
  refine x_iload (pc' := 98) rfl rfl rfl ?_
  refine x_max (pc' := 101) (z := 0) rfl rfl rfl (by decide) ?_
  refine x_istore_n (pc' := 102) (ls' := [_, _, _, _, _, _, _, _, _, _, _]) rfl rfl rfl rfl ?_
  refine x_iinc (pc' := 105) (y := 1) (ls' := [_, _, _, _, _, _, _, _, _, _, _]) rfl rfl rfl rfl rfl ?_
  refine x_goto (pc' := 5) rfl rfl ?_
  refine x_iload (pc' := 7) rfl rfl rfl ?_
  refine x_bipush (pc' := 9) rfl rfl ?_
  refine x_icmp (a' := 108) (pc' := 12) (z := false) rfl rfl rfl (by decide) (fun h => by cases h) (fun _ => ?_)
  refine x_iconst (pc' := 13) rfl rfl ?_
  refine x_istore (pc' := 15) (ls' := [_, _, _, _, _, _, _, _, _, _, _]) rfl rfl rfl rfl ?_
  refine x_aload_n (pc' := 16) rfl rfl rfl rfl rfl ?_
  refine x_gR (pc' := 19) (r := (some 0)) rfl rfl rfl (z_R_320_0 e) ?_
  refine x_astore (pc' := 21) (ls' := [_, _, _, _, _, _, _, _, _, _, _]) rfl rfl rfl rfl rfl ?_
  refine x_aload (pc' := 23) rfl rfl rfl rfl rfl ?_
  refine x_alen (pc' := 24) (N := 3) rfl rfl rfl (z_N_25_0 e) (?_ : X _ _ _ (.inl 3 :: _) _ _)
  refine x_istore (pc' := 26) (ls' := [_, _, _, _, _, _, _, _, _, _, _]) rfl rfl rfl rfl ?_
  refine x_iconst (pc' := 27) rfl rfl ?_
  refine x_istore (pc' := 29) (ls' := [_, _, _, _, _, _, _, _, _, _, _]) rfl rfl rfl rfl ?_
  refine x_iload (pc' := 31) rfl rfl rfl ?_
  refine x_iload (pc' := 33) rfl rfl rfl ?_
  refine x_icmp (a' := 95) (pc' := 36) (z := false) rfl rfl rfl (by decide) (fun h => by cases h) (fun _ => ?_)
  refine x_aload (pc' := 38) rfl rfl rfl rfl rfl ?_
  refine x_iload (pc' := 40) rfl rfl rfl ?_
  refine x_aald (pc' := 41) (N := 3) (k' := 2) (r := (some 0)) rfl rfl rfl (z_N_25_0 e) (io_in (p := 0) (N := 3) (by decide) (by decide)) (Eq.trans (congrArg (sE t 25 0) (nn_io (p := 0) (by decide))) (z_E_25_0_0 e)) ?_
  refine x_astore (pc' := 43) (ls' := [_, _, _, _, _, _, _, _, _, _, _]) rfl rfl rfl rfl rfl ?_
  refine x_aload_n (pc' := 44) rfl rfl rfl rfl rfl ?_
  refine x_aload (pc' := 46) rfl rfl rfl rfl rfl ?_
  refine x_cv (ls0 := [_, _, sJk]) (rest := []) rfl rfl rfl rfl rfl ?_
  refine x_aload_n (pc' := 1) rfl rfl rfl rfl rfl ?_
  refine x_gI (pc' := 4) (x := 0) rfl rfl rfl (z_I_128_0 e) ?_
  refine x_istore_n (pc' := 5) (ls' := [_, _, _]) rfl rfl rfl rfl ?_
  refine x_iload_n (pc' := 6) rfl rfl rfl ?_
  refine x_if (a' := 27) (pc' := 9) (z := false) rfl rfl rfl (by decide) (fun h => by cases h) (fun _ => ?_)
  refine x_iload_n (pc' := 10) rfl rfl rfl ?_
  refine x_aload_n (pc' := 11) rfl rfl rfl rfl rfl ?_
  refine x_gR (pc' := 14) (r := (some (m + 1))) rfl rfl rfl (kMp (Cn_e e) hm).1 ?_
  refine x_alen (pc' := 15) (N := 3) rfl rfl rfl (kMp (Cn_e e) hm).2.1 (?_ : X _ _ _ (.inl 3 :: _) _ _)
  refine x_icmp (a' := 27) (pc' := 18) (z := false) rfl rfl rfl (by decide) (fun h => by cases h) (fun _ => ?_)
  refine x_aload_n (pc' := 19) rfl rfl rfl rfl rfl ?_
  refine x_gR (pc' := 22) (r := (some (m + 1))) rfl rfl rfl (kMp (Cn_e e) hm).1 ?_
  refine x_iload_n (pc' := 23) rfl rfl rfl ?_
  refine x_iald (pc' := 24) (N := 3) (x := 0) rfl rfl rfl (kMp (Cn_e e) hm).2.1 (io_in (p := 0) (N := 3) (by decide) (by decide)) (Eq.trans (congrArg (sA t 20 (m + 1)) (nn_io (p := 0) (by decide))) (z_A_20_yy e _ _)) ?_
  refine x_goto (pc' := 28) rfl rfl ?_
  refine x_reti rfl rfl ?_
  refine sK_i (pc' := 49) rfl ?_
  refine x_istore (pc' := 51) (ls' := [_, _, _, _, _, _, _, _, _, _, _]) rfl rfl rfl rfl ?_
  refine x_iload (pc' := 53) rfl rfl rfl ?_
  refine x_aload_n (pc' := 54) rfl rfl rfl rfl rfl ?_
  refine x_ifnonnull (a' := 61) (pc' := 57) rfl rfl rfl rfl (fun i h => by cases h) (fun _ => ?_)
  refine x_iconst (pc' := 58) rfl rfl ?_
  refine x_goto (pc' := 67) rfl rfl ?_
  refine x_iadd (pc' := 68) (z := 0) rfl rfl (by decide) ?_
  refine x_istore (pc' := 70) (ls' := [_, _, _, _, _, _, _, _, _, _, _]) rfl rfl rfl rfl ?_
  refine x_iload (pc' := 72) rfl rfl rfl ?_
  refine x_iload (pc' := 74) rfl rfl rfl ?_
  refine x_aload_n (pc' := 75) rfl rfl rfl rfl rfl ?_
  refine x_iload (pc' := 77) rfl rfl rfl ?_
  refine x_aload (pc' := 79) rfl rfl rfl rfl rfl ?_
  refine x_gI (pc' := 82) (x := 0) rfl rfl rfl (z_I_128_0 e) ?_
  refine x_cv (ls0 := [_, _, _, sJk]) (rest := [_, _]) rfl rfl rfl rfl rfl ?_
  refine x_iload_n (pc' := 1) rfl rfl rfl ?_
  refine x_iconst (pc' := 2) rfl rfl ?_
  refine x_imul (pc' := 3) (z := 3) rfl rfl (by decide) ?_
  refine x_iload_n (pc' := 4) rfl rfl rfl ?_
  refine x_iadd (pc' := 5) (z := 3) rfl rfl (by decide) ?_
  refine x_istore_n (pc' := 6) (ls' := [_, _, _, _]) rfl rfl rfl rfl ?_
  refine x_iload_n (pc' := 7) rfl rfl rfl ?_
  refine x_if (a' := 28) (pc' := 10) (z := false) rfl rfl rfl (by decide) (fun h => by cases h) (fun _ => ?_)
  refine x_iload_n (pc' := 11) rfl rfl rfl ?_
  refine x_aload_n (pc' := 12) rfl rfl rfl rfl rfl ?_
  refine x_gR (pc' := 15) (r := (some 0)) rfl rfl rfl (z_R_323_0 e) ?_
  refine x_alen (pc' := 16) (N := 18) rfl rfl rfl (z_N_20_0 e) (?_ : X _ _ _ (.inl 18 :: _) _ _)
  refine x_icmp (a' := 28) (pc' := 19) (z := false) rfl rfl rfl (by decide) (fun h => by cases h) (fun _ => ?_)
  refine x_aload_n (pc' := 20) rfl rfl rfl rfl rfl ?_
  refine x_gR (pc' := 23) (r := (some 0)) rfl rfl rfl (z_R_323_0 e) ?_
  refine x_iload_n (pc' := 24) rfl rfl rfl ?_
  refine x_iald (pc' := 25) (N := 18) (x := 0) rfl rfl rfl (z_N_20_0 e) (io_in (p := 3) (N := 18) (by decide) (by decide)) (Eq.trans (congrArg (sA t 20 0) (nn_io (p := 3) (by decide))) (z_A_20_0_3 e)) ?_
  refine x_goto (pc' := 29) rfl rfl ?_
  refine x_reti rfl rfl ?_
  refine sK_i (pc' := 85) rfl ?_
  refine x_imul (pc' := 86) (z := 0) rfl rfl (by decide) ?_
  refine x_isub (pc' := 87) (z := 0) rfl rfl (by decide) ?_
  refine x_istore (pc' := 89) (ls' := [_, _, _, _, _, _, _, _, _, _, _]) rfl rfl rfl rfl ?_
  refine x_iinc (pc' := 92) (y := 1) (ls' := [_, _, _, _, _, _, _, _, _, _, _]) rfl rfl rfl rfl rfl ?_
  refine x_goto (pc' := 29) rfl rfl ?_
  refine x_iload (pc' := 31) rfl rfl rfl ?_
  refine x_iload (pc' := 33) rfl rfl rfl ?_
  refine x_icmp (a' := 95) (pc' := 36) (z := false) rfl rfl rfl (by decide) (fun h => by cases h) (fun _ => ?_)
  refine x_aload (pc' := 38) rfl rfl rfl rfl rfl ?_
  refine x_iload (pc' := 40) rfl rfl rfl ?_
  refine x_aald (pc' := 41) (N := 3) (k' := 2) (r := (some 1)) rfl rfl rfl (z_N_25_0 e) (io_in (p := 1) (N := 3) (by decide) (by decide)) (Eq.trans (congrArg (sE t 25 0) (nn_io (p := 1) (by decide))) (z_E_25_0_1 e)) ?_
  refine x_astore (pc' := 43) (ls' := [_, _, _, _, _, _, _, _, _, _, _]) rfl rfl rfl rfl rfl ?_
  refine x_aload_n (pc' := 44) rfl rfl rfl rfl rfl ?_
  refine x_aload (pc' := 46) rfl rfl rfl rfl rfl ?_
  refine x_cv (ls0 := [_, _, sJk]) (rest := []) rfl rfl rfl rfl rfl ?_
  refine x_aload_n (pc' := 1) rfl rfl rfl rfl rfl ?_
  refine x_gI (pc' := 4) (x := 1) rfl rfl rfl (z_I_128_1 e) ?_
  refine x_istore_n (pc' := 5) (ls' := [_, _, _]) rfl rfl rfl rfl ?_
  refine x_iload_n (pc' := 6) rfl rfl rfl ?_
  refine x_if (a' := 27) (pc' := 9) (z := false) rfl rfl rfl (by decide) (fun h => by cases h) (fun _ => ?_)
  refine x_iload_n (pc' := 10) rfl rfl rfl ?_
  refine x_aload_n (pc' := 11) rfl rfl rfl rfl rfl ?_
  refine x_gR (pc' := 14) (r := (some (m + 1))) rfl rfl rfl (kMp (Cn_e e) hm).1 ?_
  refine x_alen (pc' := 15) (N := 3) rfl rfl rfl (kMp (Cn_e e) hm).2.1 (?_ : X _ _ _ (.inl 3 :: _) _ _)
  refine x_icmp (a' := 27) (pc' := 18) (z := false) rfl rfl rfl (by decide) (fun h => by cases h) (fun _ => ?_)
  refine x_aload_n (pc' := 19) rfl rfl rfl rfl rfl ?_
  refine x_gR (pc' := 22) (r := (some (m + 1))) rfl rfl rfl (kMp (Cn_e e) hm).1 ?_
  refine x_iload_n (pc' := 23) rfl rfl rfl ?_
  refine x_iald (pc' := 24) (N := 3) (x := 0) rfl rfl rfl (kMp (Cn_e e) hm).2.1 (io_in (p := 1) (N := 3) (by decide) (by decide)) (Eq.trans (congrArg (sA t 20 (m + 1)) (nn_io (p := 1) (by decide))) (z_A_20_yy e _ _)) ?_
  refine x_goto (pc' := 28) rfl rfl ?_
  refine x_reti rfl rfl ?_
  refine sK_i (pc' := 49) rfl ?_
  refine x_istore (pc' := 51) (ls' := [_, _, _, _, _, _, _, _, _, _, _]) rfl rfl rfl rfl ?_
  refine x_iload (pc' := 53) rfl rfl rfl ?_
  refine x_aload_n (pc' := 54) rfl rfl rfl rfl rfl ?_
  refine x_ifnonnull (a' := 61) (pc' := 57) rfl rfl rfl rfl (fun i h => by cases h) (fun _ => ?_)
  refine x_iconst (pc' := 58) rfl rfl ?_
  refine x_goto (pc' := 67) rfl rfl ?_
  refine x_iadd (pc' := 68) (z := 0) rfl rfl (by decide) ?_
  refine x_istore (pc' := 70) (ls' := [_, _, _, _, _, _, _, _, _, _, _]) rfl rfl rfl rfl ?_
  refine x_iload (pc' := 72) rfl rfl rfl ?_
  refine x_iload (pc' := 74) rfl rfl rfl ?_
  refine x_aload_n (pc' := 75) rfl rfl rfl rfl rfl ?_
  refine x_iload (pc' := 77) rfl rfl rfl ?_
  refine x_aload (pc' := 79) rfl rfl rfl rfl rfl ?_
  refine x_gI (pc' := 82) (x := 1) rfl rfl rfl (z_I_128_1 e) ?_
  refine x_cv (ls0 := [_, _, _, sJk]) (rest := [_, _]) rfl rfl rfl rfl rfl ?_
  refine x_iload_n (pc' := 1) rfl rfl rfl ?_
  refine x_iconst (pc' := 2) rfl rfl ?_
  refine x_imul (pc' := 3) (z := 3) rfl rfl (by decide) ?_
  refine x_iload_n (pc' := 4) rfl rfl rfl ?_
  refine x_iadd (pc' := 5) (z := 4) rfl rfl (by decide) ?_
  refine x_istore_n (pc' := 6) (ls' := [_, _, _, _]) rfl rfl rfl rfl ?_
  refine x_iload_n (pc' := 7) rfl rfl rfl ?_
  refine x_if (a' := 28) (pc' := 10) (z := false) rfl rfl rfl (by decide) (fun h => by cases h) (fun _ => ?_)
  refine x_iload_n (pc' := 11) rfl rfl rfl ?_
  refine x_aload_n (pc' := 12) rfl rfl rfl rfl rfl ?_
  refine x_gR (pc' := 15) (r := (some 0)) rfl rfl rfl (z_R_323_0 e) ?_
  refine x_alen (pc' := 16) (N := 18) rfl rfl rfl (z_N_20_0 e) (?_ : X _ _ _ (.inl 18 :: _) _ _)
  refine x_icmp (a' := 28) (pc' := 19) (z := false) rfl rfl rfl (by decide) (fun h => by cases h) (fun _ => ?_)
  refine x_aload_n (pc' := 20) rfl rfl rfl rfl rfl ?_
  refine x_gR (pc' := 23) (r := (some 0)) rfl rfl rfl (z_R_323_0 e) ?_
  refine x_iload_n (pc' := 24) rfl rfl rfl ?_
  refine x_iald (pc' := 25) (N := 18) (x := 0) rfl rfl rfl (z_N_20_0 e) (io_in (p := 4) (N := 18) (by decide) (by decide)) (Eq.trans (congrArg (sA t 20 0) (nn_io (p := 4) (by decide))) (z_A_20_0_4 e)) ?_
  refine x_goto (pc' := 29) rfl rfl ?_
  refine x_reti rfl rfl ?_
  refine sK_i (pc' := 85) rfl ?_
  refine x_imul (pc' := 86) (z := 0) rfl rfl (by decide) ?_
  refine x_isub (pc' := 87) (z := 0) rfl rfl (by decide) ?_
  refine x_istore (pc' := 89) (ls' := [_, _, _, _, _, _, _, _, _, _, _]) rfl rfl rfl rfl ?_
  refine x_iinc (pc' := 92) (y := 2) (ls' := [_, _, _, _, _, _, _, _, _, _, _]) rfl rfl rfl rfl rfl ?_
  refine x_goto (pc' := 29) rfl rfl ?_
  refine x_iload (pc' := 31) rfl rfl rfl ?_
  refine x_iload (pc' := 33) rfl rfl rfl ?_
  refine x_icmp (a' := 95) (pc' := 36) (z := false) rfl rfl rfl (by decide) (fun h => by cases h) (fun _ => ?_)
  refine x_aload (pc' := 38) rfl rfl rfl rfl rfl ?_
  refine x_iload (pc' := 40) rfl rfl rfl ?_
  refine x_aald (pc' := 41) (N := 3) (k' := 2) (r := (some 2)) rfl rfl rfl (z_N_25_0 e) (io_in (p := 2) (N := 3) (by decide) (by decide)) (Eq.trans (congrArg (sE t 25 0) (nn_io (p := 2) (by decide))) (z_E_25_0_2 e)) ?_
  refine x_astore (pc' := 43) (ls' := [_, _, _, _, _, _, _, _, _, _, _]) rfl rfl rfl rfl rfl ?_
  refine x_aload_n (pc' := 44) rfl rfl rfl rfl rfl ?_
  refine x_aload (pc' := 46) rfl rfl rfl rfl rfl ?_
  refine x_cv (ls0 := [_, _, sJk]) (rest := []) rfl rfl rfl rfl rfl ?_
  refine x_aload_n (pc' := 1) rfl rfl rfl rfl rfl ?_
  refine x_gI (pc' := 4) (x := 2) rfl rfl rfl (z_I_128_2 e) ?_
  refine x_istore_n (pc' := 5) (ls' := [_, _, _]) rfl rfl rfl rfl ?_
  refine x_iload_n (pc' := 6) rfl rfl rfl ?_
  refine x_if (a' := 27) (pc' := 9) (z := false) rfl rfl rfl (by decide) (fun h => by cases h) (fun _ => ?_)
  refine x_iload_n (pc' := 10) rfl rfl rfl ?_
  refine x_aload_n (pc' := 11) rfl rfl rfl rfl rfl ?_
  refine x_gR (pc' := 14) (r := (some (m + 1))) rfl rfl rfl (kMp (Cn_e e) hm).1 ?_
  refine x_alen (pc' := 15) (N := 3) rfl rfl rfl (kMp (Cn_e e) hm).2.1 (?_ : X _ _ _ (.inl 3 :: _) _ _)
  refine x_icmp (a' := 27) (pc' := 18) (z := false) rfl rfl rfl (by decide) (fun h => by cases h) (fun _ => ?_)
  refine x_aload_n (pc' := 19) rfl rfl rfl rfl rfl ?_
  refine x_gR (pc' := 22) (r := (some (m + 1))) rfl rfl rfl (kMp (Cn_e e) hm).1 ?_
  refine x_iload_n (pc' := 23) rfl rfl rfl ?_
  refine x_iald (pc' := 24) (N := 3) (x := 0) rfl rfl rfl (kMp (Cn_e e) hm).2.1 (io_in (p := 2) (N := 3) (by decide) (by decide)) (Eq.trans (congrArg (sA t 20 (m + 1)) (nn_io (p := 2) (by decide))) (z_A_20_yy e _ _)) ?_
  refine x_goto (pc' := 28) rfl rfl ?_
  refine x_reti rfl rfl ?_
  refine sK_i (pc' := 49) rfl ?_
  refine x_istore (pc' := 51) (ls' := [_, _, _, _, _, _, _, _, _, _, _]) rfl rfl rfl rfl ?_
  refine x_iload (pc' := 53) rfl rfl rfl ?_
  refine x_aload_n (pc' := 54) rfl rfl rfl rfl rfl ?_
  refine x_ifnonnull (a' := 61) (pc' := 57) rfl rfl rfl rfl (fun i h => by cases h) (fun _ => ?_)
  refine x_iconst (pc' := 58) rfl rfl ?_
  refine x_goto (pc' := 67) rfl rfl ?_
  refine x_iadd (pc' := 68) (z := 0) rfl rfl (by decide) ?_
  refine x_istore (pc' := 70) (ls' := [_, _, _, _, _, _, _, _, _, _, _]) rfl rfl rfl rfl ?_
  refine x_iload (pc' := 72) rfl rfl rfl ?_
  refine x_iload (pc' := 74) rfl rfl rfl ?_
  refine x_aload_n (pc' := 75) rfl rfl rfl rfl rfl ?_
  refine x_iload (pc' := 77) rfl rfl rfl ?_
  refine x_aload (pc' := 79) rfl rfl rfl rfl rfl ?_
  refine x_gI (pc' := 82) (x := 2) rfl rfl rfl (z_I_128_2 e) ?_
  refine x_cv (ls0 := [_, _, _, sJk]) (rest := [_, _]) rfl rfl rfl rfl rfl ?_
  refine x_iload_n (pc' := 1) rfl rfl rfl ?_
  refine x_iconst (pc' := 2) rfl rfl ?_
  refine x_imul (pc' := 3) (z := 3) rfl rfl (by decide) ?_
  refine x_iload_n (pc' := 4) rfl rfl rfl ?_
  refine x_iadd (pc' := 5) (z := 5) rfl rfl (by decide) ?_
  refine x_istore_n (pc' := 6) (ls' := [_, _, _, _]) rfl rfl rfl rfl ?_
  refine x_iload_n (pc' := 7) rfl rfl rfl ?_
  refine x_if (a' := 28) (pc' := 10) (z := false) rfl rfl rfl (by decide) (fun h => by cases h) (fun _ => ?_)
  refine x_iload_n (pc' := 11) rfl rfl rfl ?_
  refine x_aload_n (pc' := 12) rfl rfl rfl rfl rfl ?_
  refine x_gR (pc' := 15) (r := (some 0)) rfl rfl rfl (z_R_323_0 e) ?_
  refine x_alen (pc' := 16) (N := 18) rfl rfl rfl (z_N_20_0 e) (?_ : X _ _ _ (.inl 18 :: _) _ _)
  refine x_icmp (a' := 28) (pc' := 19) (z := false) rfl rfl rfl (by decide) (fun h => by cases h) (fun _ => ?_)
  refine x_aload_n (pc' := 20) rfl rfl rfl rfl rfl ?_
  refine x_gR (pc' := 23) (r := (some 0)) rfl rfl rfl (z_R_323_0 e) ?_
  refine x_iload_n (pc' := 24) rfl rfl rfl ?_
  refine x_iald (pc' := 25) (N := 18) (x := 0) rfl rfl rfl (z_N_20_0 e) (io_in (p := 5) (N := 18) (by decide) (by decide)) (Eq.trans (congrArg (sA t 20 0) (nn_io (p := 5) (by decide))) (z_A_20_0_5 e)) ?_
  refine x_goto (pc' := 29) rfl rfl ?_
  refine x_reti rfl rfl ?_
  refine sK_i (pc' := 85) rfl ?_
  refine x_imul (pc' := 86) (z := 0) rfl rfl (by decide) ?_
  refine x_isub (pc' := 87) (z := 0) rfl rfl (by decide) ?_
  refine x_istore (pc' := 89) (ls' := [_, _, _, _, _, _, _, _, _, _, _]) rfl rfl rfl rfl ?_
  refine x_iinc (pc' := 92) (y := 3) (ls' := [_, _, _, _, _, _, _, _, _, _, _]) rfl rfl rfl rfl rfl ?_
  refine x_goto (pc' := 29) rfl rfl ?_
  refine x_iload (pc' := 31) rfl rfl rfl ?_
  refine x_iload (pc' := 33) rfl rfl rfl ?_
  refine x_icmp (a' := 95) (pc' := 36) (z := true) rfl rfl rfl (by decide) (fun _ => ?_) (fun h => by cases h)
  refine x_iload_n (pc' := 96) rfl rfl rfl ?_
  refine x_iload (pc' := 98) rfl rfl rfl ?_
  refine x_max (pc' := 101) (z := 0) rfl rfl rfl (by decide) ?_
  refine x_istore_n (pc' := 102) (ls' := [_, _, _, _, _, _, _, _, _, _, _]) rfl rfl rfl rfl ?_
  refine x_iinc (pc' := 105) (y := 2) (ls' := [_, _, _, _, _, _, _, _, _, _, _]) rfl rfl rfl rfl rfl ?_
  refine x_goto (pc' := 5) rfl rfl ?_
  refine x_iload (pc' := 7) rfl rfl rfl ?_
  refine x_bipush (pc' := 9) rfl rfl ?_
  refine x_icmp (a' := 108) (pc' := 12) (z := false) rfl rfl rfl (by decide) (fun h => by cases h) (fun _ => ?_)
  refine x_iconst (pc' := 13) rfl rfl ?_
  refine x_istore (pc' := 15) (ls' := [_, _, _, _, _, _, _, _, _, _, _]) rfl rfl rfl rfl ?_
  refine x_aload_n (pc' := 16) rfl rfl rfl rfl rfl ?_
  refine x_gR (pc' := 19) (r := (some 0)) rfl rfl rfl (z_R_320_0 e) ?_
  refine x_astore (pc' := 21) (ls' := [_, _, _, _, _, _, _, _, _, _, _]) rfl rfl rfl rfl rfl ?_
  refine x_aload (pc' := 23) rfl rfl rfl rfl rfl ?_
  refine x_alen (pc' := 24) (N := 3) rfl rfl rfl (z_N_25_0 e) (?_ : X _ _ _ (.inl 3 :: _) _ _)
  refine x_istore (pc' := 26) (ls' := [_, _, _, _, _, _, _, _, _, _, _]) rfl rfl rfl rfl ?_
  refine x_iconst (pc' := 27) rfl rfl ?_
  refine x_istore (pc' := 29) (ls' := [_, _, _, _, _, _, _, _, _, _, _]) rfl rfl rfl rfl ?_
  refine x_iload (pc' := 31) rfl rfl rfl ?_
  refine x_iload (pc' := 33) rfl rfl rfl ?_
  refine x_icmp (a' := 95) (pc' := 36) (z := false) rfl rfl rfl (by decide) (fun h => by cases h) (fun _ => ?_)
  refine x_aload (pc' := 38) rfl rfl rfl rfl rfl ?_
  refine x_iload (pc' := 40) rfl rfl rfl ?_
  refine x_aald (pc' := 41) (N := 3) (k' := 2) (r := (some 0)) rfl rfl rfl (z_N_25_0 e) (io_in (p := 0) (N := 3) (by decide) (by decide)) (Eq.trans (congrArg (sE t 25 0) (nn_io (p := 0) (by decide))) (z_E_25_0_0 e)) ?_
  refine x_astore (pc' := 43) (ls' := [_, _, _, _, _, _, _, _, _, _, _]) rfl rfl rfl rfl rfl ?_
  refine x_aload_n (pc' := 44) rfl rfl rfl rfl rfl ?_
  refine x_aload (pc' := 46) rfl rfl rfl rfl rfl ?_
  refine x_cv (ls0 := [_, _, sJk]) (rest := []) rfl rfl rfl rfl rfl ?_
  refine x_aload_n (pc' := 1) rfl rfl rfl rfl rfl ?_
  refine x_gI (pc' := 4) (x := 0) rfl rfl rfl (z_I_128_0 e) ?_
  refine x_istore_n (pc' := 5) (ls' := [_, _, _]) rfl rfl rfl rfl ?_
  refine x_iload_n (pc' := 6) rfl rfl rfl ?_
  refine x_if (a' := 27) (pc' := 9) (z := false) rfl rfl rfl (by decide) (fun h => by cases h) (fun _ => ?_)
  refine x_iload_n (pc' := 10) rfl rfl rfl ?_
  refine x_aload_n (pc' := 11) rfl rfl rfl rfl rfl ?_
  refine x_gR (pc' := 14) (r := (some (m + 1))) rfl rfl rfl (kMp (Cn_e e) hm).1 ?_
  refine x_alen (pc' := 15) (N := 3) rfl rfl rfl (kMp (Cn_e e) hm).2.1 (?_ : X _ _ _ (.inl 3 :: _) _ _)
  refine x_icmp (a' := 27) (pc' := 18) (z := false) rfl rfl rfl (by decide) (fun h => by cases h) (fun _ => ?_)
  refine x_aload_n (pc' := 19) rfl rfl rfl rfl rfl ?_
  refine x_gR (pc' := 22) (r := (some (m + 1))) rfl rfl rfl (kMp (Cn_e e) hm).1 ?_
  refine x_iload_n (pc' := 23) rfl rfl rfl ?_
  refine x_iald (pc' := 24) (N := 3) (x := 0) rfl rfl rfl (kMp (Cn_e e) hm).2.1 (io_in (p := 0) (N := 3) (by decide) (by decide)) (Eq.trans (congrArg (sA t 20 (m + 1)) (nn_io (p := 0) (by decide))) (z_A_20_yy e _ _)) ?_
  refine x_goto (pc' := 28) rfl rfl ?_
  refine x_reti rfl rfl ?_
  refine sK_i (pc' := 49) rfl ?_
  refine x_istore (pc' := 51) (ls' := [_, _, _, _, _, _, _, _, _, _, _]) rfl rfl rfl rfl ?_
  refine x_iload (pc' := 53) rfl rfl rfl ?_
  refine x_aload_n (pc' := 54) rfl rfl rfl rfl rfl ?_
  refine x_ifnonnull (a' := 61) (pc' := 57) rfl rfl rfl rfl (fun i h => by cases h) (fun _ => ?_)
  refine x_iconst (pc' := 58) rfl rfl ?_
  refine x_goto (pc' := 67) rfl rfl ?_
  refine x_iadd (pc' := 68) (z := 0) rfl rfl (by decide) ?_
  refine x_istore (pc' := 70) (ls' := [_, _, _, _, _, _, _, _, _, _, _]) rfl rfl rfl rfl ?_
  refine x_iload (pc' := 72) rfl rfl rfl ?_
  refine x_iload (pc' := 74) rfl rfl rfl ?_
  refine x_aload_n (pc' := 75) rfl rfl rfl rfl rfl ?_
  refine x_iload (pc' := 77) rfl rfl rfl ?_
  refine x_aload (pc' := 79) rfl rfl rfl rfl rfl ?_
  refine x_gI (pc' := 82) (x := 0) rfl rfl rfl (z_I_128_0 e) ?_
  refine x_cv (ls0 := [_, _, _, sJk]) (rest := [_, _]) rfl rfl rfl rfl rfl ?_
  refine x_iload_n (pc' := 1) rfl rfl rfl ?_
  refine x_iconst (pc' := 2) rfl rfl ?_
  refine x_imul (pc' := 3) (z := 6) rfl rfl (by decide) ?_
  refine x_iload_n (pc' := 4) rfl rfl rfl ?_
  refine x_iadd (pc' := 5) (z := 6) rfl rfl (by decide) ?_
  refine x_istore_n (pc' := 6) (ls' := [_, _, _, _]) rfl rfl rfl rfl ?_
  refine x_iload_n (pc' := 7) rfl rfl rfl ?_
  refine x_if (a' := 28) (pc' := 10) (z := false) rfl rfl rfl (by decide) (fun h => by cases h) (fun _ => ?_)
  refine x_iload_n (pc' := 11) rfl rfl rfl ?_
  refine x_aload_n (pc' := 12) rfl rfl rfl rfl rfl ?_
  refine x_gR (pc' := 15) (r := (some 0)) rfl rfl rfl (z_R_323_0 e) ?_
  refine x_alen (pc' := 16) (N := 18) rfl rfl rfl (z_N_20_0 e) (?_ : X _ _ _ (.inl 18 :: _) _ _)
  refine x_icmp (a' := 28) (pc' := 19) (z := false) rfl rfl rfl (by decide) (fun h => by cases h) (fun _ => ?_)
  refine x_aload_n (pc' := 20) rfl rfl rfl rfl rfl ?_
  refine x_gR (pc' := 23) (r := (some 0)) rfl rfl rfl (z_R_323_0 e) ?_
  refine x_iload_n (pc' := 24) rfl rfl rfl ?_
  refine x_iald (pc' := 25) (N := 18) (x := 0) rfl rfl rfl (z_N_20_0 e) (io_in (p := 6) (N := 18) (by decide) (by decide)) (Eq.trans (congrArg (sA t 20 0) (nn_io (p := 6) (by decide))) (z_A_20_0_6 e)) ?_
  refine x_goto (pc' := 29) rfl rfl ?_
  refine x_reti rfl rfl ?_
  refine sK_i (pc' := 85) rfl ?_
  refine x_imul (pc' := 86) (z := 0) rfl rfl (by decide) ?_
  refine x_isub (pc' := 87) (z := 0) rfl rfl (by decide) ?_
  refine x_istore (pc' := 89) (ls' := [_, _, _, _, _, _, _, _, _, _, _]) rfl rfl rfl rfl ?_
  refine x_iinc (pc' := 92) (y := 1) (ls' := [_, _, _, _, _, _, _, _, _, _, _]) rfl rfl rfl rfl rfl ?_
  refine x_goto (pc' := 29) rfl rfl ?_
  refine x_iload (pc' := 31) rfl rfl rfl ?_
  refine x_iload (pc' := 33) rfl rfl rfl ?_
  refine x_icmp (a' := 95) (pc' := 36) (z := false) rfl rfl rfl (by decide) (fun h => by cases h) (fun _ => ?_)
  refine x_aload (pc' := 38) rfl rfl rfl rfl rfl ?_
  refine x_iload (pc' := 40) rfl rfl rfl ?_
  refine x_aald (pc' := 41) (N := 3) (k' := 2) (r := (some 1)) rfl rfl rfl (z_N_25_0 e) (io_in (p := 1) (N := 3) (by decide) (by decide)) (Eq.trans (congrArg (sE t 25 0) (nn_io (p := 1) (by decide))) (z_E_25_0_1 e)) ?_
  refine x_astore (pc' := 43) (ls' := [_, _, _, _, _, _, _, _, _, _, _]) rfl rfl rfl rfl rfl ?_
  refine x_aload_n (pc' := 44) rfl rfl rfl rfl rfl ?_
  refine x_aload (pc' := 46) rfl rfl rfl rfl rfl ?_
  refine x_cv (ls0 := [_, _, sJk]) (rest := []) rfl rfl rfl rfl rfl ?_
  refine x_aload_n (pc' := 1) rfl rfl rfl rfl rfl ?_
  refine x_gI (pc' := 4) (x := 1) rfl rfl rfl (z_I_128_1 e) ?_
  refine x_istore_n (pc' := 5) (ls' := [_, _, _]) rfl rfl rfl rfl ?_
  refine x_iload_n (pc' := 6) rfl rfl rfl ?_
  refine x_if (a' := 27) (pc' := 9) (z := false) rfl rfl rfl (by decide) (fun h => by cases h) (fun _ => ?_)
  refine x_iload_n (pc' := 10) rfl rfl rfl ?_
  refine x_aload_n (pc' := 11) rfl rfl rfl rfl rfl ?_
  refine x_gR (pc' := 14) (r := (some (m + 1))) rfl rfl rfl (kMp (Cn_e e) hm).1 ?_
  refine x_alen (pc' := 15) (N := 3) rfl rfl rfl (kMp (Cn_e e) hm).2.1 (?_ : X _ _ _ (.inl 3 :: _) _ _)
  refine x_icmp (a' := 27) (pc' := 18) (z := false) rfl rfl rfl (by decide) (fun h => by cases h) (fun _ => ?_)
  refine x_aload_n (pc' := 19) rfl rfl rfl rfl rfl ?_
  refine x_gR (pc' := 22) (r := (some (m + 1))) rfl rfl rfl (kMp (Cn_e e) hm).1 ?_
  refine x_iload_n (pc' := 23) rfl rfl rfl ?_
  refine x_iald (pc' := 24) (N := 3) (x := 0) rfl rfl rfl (kMp (Cn_e e) hm).2.1 (io_in (p := 1) (N := 3) (by decide) (by decide)) (Eq.trans (congrArg (sA t 20 (m + 1)) (nn_io (p := 1) (by decide))) (z_A_20_yy e _ _)) ?_
  refine x_goto (pc' := 28) rfl rfl ?_
  refine x_reti rfl rfl ?_
  refine sK_i (pc' := 49) rfl ?_
  refine x_istore (pc' := 51) (ls' := [_, _, _, _, _, _, _, _, _, _, _]) rfl rfl rfl rfl ?_
  refine x_iload (pc' := 53) rfl rfl rfl ?_
  refine x_aload_n (pc' := 54) rfl rfl rfl rfl rfl ?_
  refine x_ifnonnull (a' := 61) (pc' := 57) rfl rfl rfl rfl (fun i h => by cases h) (fun _ => ?_)
  refine x_iconst (pc' := 58) rfl rfl ?_
  refine x_goto (pc' := 67) rfl rfl ?_
  refine x_iadd (pc' := 68) (z := 0) rfl rfl (by decide) ?_
  refine x_istore (pc' := 70) (ls' := [_, _, _, _, _, _, _, _, _, _, _]) rfl rfl rfl rfl ?_
  refine x_iload (pc' := 72) rfl rfl rfl ?_
  refine x_iload (pc' := 74) rfl rfl rfl ?_
  refine x_aload_n (pc' := 75) rfl rfl rfl rfl rfl ?_
  refine x_iload (pc' := 77) rfl rfl rfl ?_
  refine x_aload (pc' := 79) rfl rfl rfl rfl rfl ?_
  refine x_gI (pc' := 82) (x := 1) rfl rfl rfl (z_I_128_1 e) ?_
  refine x_cv (ls0 := [_, _, _, sJk]) (rest := [_, _]) rfl rfl rfl rfl rfl ?_
  refine x_iload_n (pc' := 1) rfl rfl rfl ?_
  refine x_iconst (pc' := 2) rfl rfl ?_
  refine x_imul (pc' := 3) (z := 6) rfl rfl (by decide) ?_
  refine x_iload_n (pc' := 4) rfl rfl rfl ?_
  refine x_iadd (pc' := 5) (z := 7) rfl rfl (by decide) ?_
  refine x_istore_n (pc' := 6) (ls' := [_, _, _, _]) rfl rfl rfl rfl ?_
  refine x_iload_n (pc' := 7) rfl rfl rfl ?_
  refine x_if (a' := 28) (pc' := 10) (z := false) rfl rfl rfl (by decide) (fun h => by cases h) (fun _ => ?_)
  refine x_iload_n (pc' := 11) rfl rfl rfl ?_
  refine x_aload_n (pc' := 12) rfl rfl rfl rfl rfl ?_
  refine x_gR (pc' := 15) (r := (some 0)) rfl rfl rfl (z_R_323_0 e) ?_
  refine x_alen (pc' := 16) (N := 18) rfl rfl rfl (z_N_20_0 e) (?_ : X _ _ _ (.inl 18 :: _) _ _)
  refine x_icmp (a' := 28) (pc' := 19) (z := false) rfl rfl rfl (by decide) (fun h => by cases h) (fun _ => ?_)
  refine x_aload_n (pc' := 20) rfl rfl rfl rfl rfl ?_
  refine x_gR (pc' := 23) (r := (some 0)) rfl rfl rfl (z_R_323_0 e) ?_
  refine x_iload_n (pc' := 24) rfl rfl rfl ?_
  refine x_iald (pc' := 25) (N := 18) (x := 0) rfl rfl rfl (z_N_20_0 e) (io_in (p := 7) (N := 18) (by decide) (by decide)) (Eq.trans (congrArg (sA t 20 0) (nn_io (p := 7) (by decide))) (z_A_20_0_7 e)) ?_
  refine x_goto (pc' := 29) rfl rfl ?_
  refine x_reti rfl rfl ?_
  refine sK_i (pc' := 85) rfl ?_
  refine x_imul (pc' := 86) (z := 0) rfl rfl (by decide) ?_
  refine x_isub (pc' := 87) (z := 0) rfl rfl (by decide) ?_
  refine x_istore (pc' := 89) (ls' := [_, _, _, _, _, _, _, _, _, _, _]) rfl rfl rfl rfl ?_
  refine x_iinc (pc' := 92) (y := 2) (ls' := [_, _, _, _, _, _, _, _, _, _, _]) rfl rfl rfl rfl rfl ?_
  refine x_goto (pc' := 29) rfl rfl ?_
  refine x_iload (pc' := 31) rfl rfl rfl ?_
  refine x_iload (pc' := 33) rfl rfl rfl ?_
  refine x_icmp (a' := 95) (pc' := 36) (z := false) rfl rfl rfl (by decide) (fun h => by cases h) (fun _ => ?_)
  refine x_aload (pc' := 38) rfl rfl rfl rfl rfl ?_
  refine x_iload (pc' := 40) rfl rfl rfl ?_
  refine x_aald (pc' := 41) (N := 3) (k' := 2) (r := (some 2)) rfl rfl rfl (z_N_25_0 e) (io_in (p := 2) (N := 3) (by decide) (by decide)) (Eq.trans (congrArg (sE t 25 0) (nn_io (p := 2) (by decide))) (z_E_25_0_2 e)) ?_
  refine x_astore (pc' := 43) (ls' := [_, _, _, _, _, _, _, _, _, _, _]) rfl rfl rfl rfl rfl ?_
  refine x_aload_n (pc' := 44) rfl rfl rfl rfl rfl ?_
  refine x_aload (pc' := 46) rfl rfl rfl rfl rfl ?_
  refine x_cv (ls0 := [_, _, sJk]) (rest := []) rfl rfl rfl rfl rfl ?_
  refine x_aload_n (pc' := 1) rfl rfl rfl rfl rfl ?_
  refine x_gI (pc' := 4) (x := 2) rfl rfl rfl (z_I_128_2 e) ?_
  refine x_istore_n (pc' := 5) (ls' := [_, _, _]) rfl rfl rfl rfl ?_
  refine x_iload_n (pc' := 6) rfl rfl rfl ?_
  refine x_if (a' := 27) (pc' := 9) (z := false) rfl rfl rfl (by decide) (fun h => by cases h) (fun _ => ?_)
  refine x_iload_n (pc' := 10) rfl rfl rfl ?_
  refine x_aload_n (pc' := 11) rfl rfl rfl rfl rfl ?_
  refine x_gR (pc' := 14) (r := (some (m + 1))) rfl rfl rfl (kMp (Cn_e e) hm).1 ?_
  refine x_alen (pc' := 15) (N := 3) rfl rfl rfl (kMp (Cn_e e) hm).2.1 (?_ : X _ _ _ (.inl 3 :: _) _ _)
  refine x_icmp (a' := 27) (pc' := 18) (z := false) rfl rfl rfl (by decide) (fun h => by cases h) (fun _ => ?_)
  refine x_aload_n (pc' := 19) rfl rfl rfl rfl rfl ?_
  refine x_gR (pc' := 22) (r := (some (m + 1))) rfl rfl rfl (kMp (Cn_e e) hm).1 ?_
  refine x_iload_n (pc' := 23) rfl rfl rfl ?_
  refine x_iald (pc' := 24) (N := 3) (x := 0) rfl rfl rfl (kMp (Cn_e e) hm).2.1 (io_in (p := 2) (N := 3) (by decide) (by decide)) (Eq.trans (congrArg (sA t 20 (m + 1)) (nn_io (p := 2) (by decide))) (z_A_20_yy e _ _)) ?_
  refine x_goto (pc' := 28) rfl rfl ?_
  refine x_reti rfl rfl ?_
  refine sK_i (pc' := 49) rfl ?_
  refine x_istore (pc' := 51) (ls' := [_, _, _, _, _, _, _, _, _, _, _]) rfl rfl rfl rfl ?_
  refine x_iload (pc' := 53) rfl rfl rfl ?_
  refine x_aload_n (pc' := 54) rfl rfl rfl rfl rfl ?_
  refine x_ifnonnull (a' := 61) (pc' := 57) rfl rfl rfl rfl (fun i h => by cases h) (fun _ => ?_)
  refine x_iconst (pc' := 58) rfl rfl ?_
  refine x_goto (pc' := 67) rfl rfl ?_
  refine x_iadd (pc' := 68) (z := 0) rfl rfl (by decide) ?_
  refine x_istore (pc' := 70) (ls' := [_, _, _, _, _, _, _, _, _, _, _]) rfl rfl rfl rfl ?_
  refine x_iload (pc' := 72) rfl rfl rfl ?_
  refine x_iload (pc' := 74) rfl rfl rfl ?_
  refine x_aload_n (pc' := 75) rfl rfl rfl rfl rfl ?_
  refine x_iload (pc' := 77) rfl rfl rfl ?_
  refine x_aload (pc' := 79) rfl rfl rfl rfl rfl ?_
  refine x_gI (pc' := 82) (x := 2) rfl rfl rfl (z_I_128_2 e) ?_
  refine x_cv (ls0 := [_, _, _, sJk]) (rest := [_, _]) rfl rfl rfl rfl rfl ?_
  refine x_iload_n (pc' := 1) rfl rfl rfl ?_
  refine x_iconst (pc' := 2) rfl rfl ?_
  refine x_imul (pc' := 3) (z := 6) rfl rfl (by decide) ?_
  refine x_iload_n (pc' := 4) rfl rfl rfl ?_
  refine x_iadd (pc' := 5) (z := 8) rfl rfl (by decide) ?_
  refine x_istore_n (pc' := 6) (ls' := [_, _, _, _]) rfl rfl rfl rfl ?_
  refine x_iload_n (pc' := 7) rfl rfl rfl ?_
  refine x_if (a' := 28) (pc' := 10) (z := false) rfl rfl rfl (by decide) (fun h => by cases h) (fun _ => ?_)
  refine x_iload_n (pc' := 11) rfl rfl rfl ?_
  refine x_aload_n (pc' := 12) rfl rfl rfl rfl rfl ?_
  refine x_gR (pc' := 15) (r := (some 0)) rfl rfl rfl (z_R_323_0 e) ?_
  refine x_alen (pc' := 16) (N := 18) rfl rfl rfl (z_N_20_0 e) (?_ : X _ _ _ (.inl 18 :: _) _ _)
  refine x_icmp (a' := 28) (pc' := 19) (z := false) rfl rfl rfl (by decide) (fun h => by cases h) (fun _ => ?_)
  refine x_aload_n (pc' := 20) rfl rfl rfl rfl rfl ?_
  refine x_gR (pc' := 23) (r := (some 0)) rfl rfl rfl (z_R_323_0 e) ?_
  refine x_iload_n (pc' := 24) rfl rfl rfl ?_
  refine x_iald (pc' := 25) (N := 18) (x := 0) rfl rfl rfl (z_N_20_0 e) (io_in (p := 8) (N := 18) (by decide) (by decide)) (Eq.trans (congrArg (sA t 20 0) (nn_io (p := 8) (by decide))) (z_A_20_0_8 e)) ?_
  refine x_goto (pc' := 29) rfl rfl ?_
  refine x_reti rfl rfl ?_
  refine sK_i (pc' := 85) rfl ?_
  refine x_imul (pc' := 86) (z := 0) rfl rfl (by decide) ?_
  refine x_isub (pc' := 87) (z := 0) rfl rfl (by decide) ?_
  refine x_istore (pc' := 89) (ls' := [_, _, _, _, _, _, _, _, _, _, _]) rfl rfl rfl rfl ?_
  refine x_iinc (pc' := 92) (y := 3) (ls' := [_, _, _, _, _, _, _, _, _, _, _]) rfl rfl rfl rfl rfl ?_
  refine x_goto (pc' := 29) rfl rfl ?_
  refine x_iload (pc' := 31) rfl rfl rfl ?_
  refine x_iload (pc' := 33) rfl rfl rfl ?_
  refine x_icmp (a' := 95) (pc' := 36) (z := true) rfl rfl rfl (by decide) (fun _ => ?_) (fun h => by cases h)
  refine x_iload_n (pc' := 96) rfl rfl rfl ?_
  refine x_iload (pc' := 98) rfl rfl rfl ?_
  refine x_max (pc' := 101) (z := 0) rfl rfl rfl (by decide) ?_
  refine x_istore_n (pc' := 102) (ls' := [_, _, _, _, _, _, _, _, _, _, _]) rfl rfl rfl rfl ?_
  refine x_iinc (pc' := 105) (y := 3) (ls' := [_, _, _, _, _, _, _, _, _, _, _]) rfl rfl rfl rfl rfl ?_
  refine x_goto (pc' := 5) rfl rfl ?_
  refine x_iload (pc' := 7) rfl rfl rfl ?_
  refine x_bipush (pc' := 9) rfl rfl ?_
  refine x_icmp (a' := 108) (pc' := 12) (z := false) rfl rfl rfl (by decide) (fun h => by cases h) (fun _ => ?_)
  refine x_iconst (pc' := 13) rfl rfl ?_
  refine x_istore (pc' := 15) (ls' := [_, _, _, _, _, _, _, _, _, _, _]) rfl rfl rfl rfl ?_
  refine x_aload_n (pc' := 16) rfl rfl rfl rfl rfl ?_
  refine x_gR (pc' := 19) (r := (some 0)) rfl rfl rfl (z_R_320_0 e) ?_
  refine x_astore (pc' := 21) (ls' := [_, _, _, _, _, _, _, _, _, _, _]) rfl rfl rfl rfl rfl ?_
  refine x_aload (pc' := 23) rfl rfl rfl rfl rfl ?_
  refine x_alen (pc' := 24) (N := 3) rfl rfl rfl (z_N_25_0 e) (?_ : X _ _ _ (.inl 3 :: _) _ _)
  refine x_istore (pc' := 26) (ls' := [_, _, _, _, _, _, _, _, _, _, _]) rfl rfl rfl rfl ?_
  refine x_iconst (pc' := 27) rfl rfl ?_
  refine x_istore (pc' := 29) (ls' := [_, _, _, _, _, _, _, _, _, _, _]) rfl rfl rfl rfl ?_
  refine x_iload (pc' := 31) rfl rfl rfl ?_
  refine x_iload (pc' := 33) rfl rfl rfl ?_
  refine x_icmp (a' := 95) (pc' := 36) (z := false) rfl rfl rfl (by decide) (fun h => by cases h) (fun _ => ?_)
  refine x_aload (pc' := 38) rfl rfl rfl rfl rfl ?_
  refine x_iload (pc' := 40) rfl rfl rfl ?_
  refine x_aald (pc' := 41) (N := 3) (k' := 2) (r := (some 0)) rfl rfl rfl (z_N_25_0 e) (io_in (p := 0) (N := 3) (by decide) (by decide)) (Eq.trans (congrArg (sE t 25 0) (nn_io (p := 0) (by decide))) (z_E_25_0_0 e)) ?_
  refine x_astore (pc' := 43) (ls' := [_, _, _, _, _, _, _, _, _, _, _]) rfl rfl rfl rfl rfl ?_
  refine x_aload_n (pc' := 44) rfl rfl rfl rfl rfl ?_
  refine x_aload (pc' := 46) rfl rfl rfl rfl rfl ?_
  refine x_cv (ls0 := [_, _, sJk]) (rest := []) rfl rfl rfl rfl rfl ?_
  refine x_aload_n (pc' := 1) rfl rfl rfl rfl rfl ?_
  refine x_gI (pc' := 4) (x := 0) rfl rfl rfl (z_I_128_0 e) ?_
  refine x_istore_n (pc' := 5) (ls' := [_, _, _]) rfl rfl rfl rfl ?_
  refine x_iload_n (pc' := 6) rfl rfl rfl ?_
  refine x_if (a' := 27) (pc' := 9) (z := false) rfl rfl rfl (by decide) (fun h => by cases h) (fun _ => ?_)
  refine x_iload_n (pc' := 10) rfl rfl rfl ?_
  refine x_aload_n (pc' := 11) rfl rfl rfl rfl rfl ?_
  refine x_gR (pc' := 14) (r := (some (m + 1))) rfl rfl rfl (kMp (Cn_e e) hm).1 ?_
  refine x_alen (pc' := 15) (N := 3) rfl rfl rfl (kMp (Cn_e e) hm).2.1 (?_ : X _ _ _ (.inl 3 :: _) _ _)
  refine x_icmp (a' := 27) (pc' := 18) (z := false) rfl rfl rfl (by decide) (fun h => by cases h) (fun _ => ?_)
  refine x_aload_n (pc' := 19) rfl rfl rfl rfl rfl ?_
  refine x_gR (pc' := 22) (r := (some (m + 1))) rfl rfl rfl (kMp (Cn_e e) hm).1 ?_
  refine x_iload_n (pc' := 23) rfl rfl rfl ?_
  refine x_iald (pc' := 24) (N := 3) (x := 0) rfl rfl rfl (kMp (Cn_e e) hm).2.1 (io_in (p := 0) (N := 3) (by decide) (by decide)) (Eq.trans (congrArg (sA t 20 (m + 1)) (nn_io (p := 0) (by decide))) (z_A_20_yy e _ _)) ?_
  refine x_goto (pc' := 28) rfl rfl ?_
  refine x_reti rfl rfl ?_
  refine sK_i (pc' := 49) rfl ?_
  refine x_istore (pc' := 51) (ls' := [_, _, _, _, _, _, _, _, _, _, _]) rfl rfl rfl rfl ?_
  refine x_iload (pc' := 53) rfl rfl rfl ?_
  refine x_aload_n (pc' := 54) rfl rfl rfl rfl rfl ?_
  refine x_ifnonnull (a' := 61) (pc' := 57) rfl rfl rfl rfl (fun i h => by cases h) (fun _ => ?_)
  refine x_iconst (pc' := 58) rfl rfl ?_
  refine x_goto (pc' := 67) rfl rfl ?_
  refine x_iadd (pc' := 68) (z := 0) rfl rfl (by decide) ?_
  refine x_istore (pc' := 70) (ls' := [_, _, _, _, _, _, _, _, _, _, _]) rfl rfl rfl rfl ?_
  refine x_iload (pc' := 72) rfl rfl rfl ?_
  refine x_iload (pc' := 74) rfl rfl rfl ?_
  refine x_aload_n (pc' := 75) rfl rfl rfl rfl rfl ?_
  refine x_iload (pc' := 77) rfl rfl rfl ?_
  refine x_aload (pc' := 79) rfl rfl rfl rfl rfl ?_
  refine x_gI (pc' := 82) (x := 0) rfl rfl rfl (z_I_128_0 e) ?_
  refine x_cv (ls0 := [_, _, _, sJk]) (rest := [_, _]) rfl rfl rfl rfl rfl ?_
  refine x_iload_n (pc' := 1) rfl rfl rfl ?_
  refine x_iconst (pc' := 2) rfl rfl ?_
  refine x_imul (pc' := 3) (z := 9) rfl rfl (by decide) ?_
  refine x_iload_n (pc' := 4) rfl rfl rfl ?_
  refine x_iadd (pc' := 5) (z := 9) rfl rfl (by decide) ?_
  refine x_istore_n (pc' := 6) (ls' := [_, _, _, _]) rfl rfl rfl rfl ?_
  refine x_iload_n (pc' := 7) rfl rfl rfl ?_
  refine x_if (a' := 28) (pc' := 10) (z := false) rfl rfl rfl (by decide) (fun h => by cases h) (fun _ => ?_)
  refine x_iload_n (pc' := 11) rfl rfl rfl ?_
  refine x_aload_n (pc' := 12) rfl rfl rfl rfl rfl ?_
  refine x_gR (pc' := 15) (r := (some 0)) rfl rfl rfl (z_R_323_0 e) ?_
  refine x_alen (pc' := 16) (N := 18) rfl rfl rfl (z_N_20_0 e) (?_ : X _ _ _ (.inl 18 :: _) _ _)
  refine x_icmp (a' := 28) (pc' := 19) (z := false) rfl rfl rfl (by decide) (fun h => by cases h) (fun _ => ?_)
  refine x_aload_n (pc' := 20) rfl rfl rfl rfl rfl ?_
  refine x_gR (pc' := 23) (r := (some 0)) rfl rfl rfl (z_R_323_0 e) ?_
  refine x_iload_n (pc' := 24) rfl rfl rfl ?_
  refine x_iald (pc' := 25) (N := 18) (x := 0) rfl rfl rfl (z_N_20_0 e) (io_in (p := 9) (N := 18) (by decide) (by decide)) (Eq.trans (congrArg (sA t 20 0) (nn_io (p := 9) (by decide))) (z_A_20_0_9 e)) ?_
  refine x_goto (pc' := 29) rfl rfl ?_
  refine x_reti rfl rfl ?_
  refine sK_i (pc' := 85) rfl ?_
  refine x_imul (pc' := 86) (z := 0) rfl rfl (by decide) ?_
  refine x_isub (pc' := 87) (z := 0) rfl rfl (by decide) ?_
  refine x_istore (pc' := 89) (ls' := [_, _, _, _, _, _, _, _, _, _, _]) rfl rfl rfl rfl ?_
  refine x_iinc (pc' := 92) (y := 1) (ls' := [_, _, _, _, _, _, _, _, _, _, _]) rfl rfl rfl rfl rfl ?_
  refine x_goto (pc' := 29) rfl rfl ?_
  refine x_iload (pc' := 31) rfl rfl rfl ?_
  refine x_iload (pc' := 33) rfl rfl rfl ?_
  refine x_icmp (a' := 95) (pc' := 36) (z := false) rfl rfl rfl (by decide) (fun h => by cases h) (fun _ => ?_)
  refine x_aload (pc' := 38) rfl rfl rfl rfl rfl ?_
  refine x_iload (pc' := 40) rfl rfl rfl ?_
  refine x_aald (pc' := 41) (N := 3) (k' := 2) (r := (some 1)) rfl rfl rfl (z_N_25_0 e) (io_in (p := 1) (N := 3) (by decide) (by decide)) (Eq.trans (congrArg (sE t 25 0) (nn_io (p := 1) (by decide))) (z_E_25_0_1 e)) ?_
  refine x_astore (pc' := 43) (ls' := [_, _, _, _, _, _, _, _, _, _, _]) rfl rfl rfl rfl rfl ?_
  refine x_aload_n (pc' := 44) rfl rfl rfl rfl rfl ?_
  refine x_aload (pc' := 46) rfl rfl rfl rfl rfl ?_
  refine x_cv (ls0 := [_, _, sJk]) (rest := []) rfl rfl rfl rfl rfl ?_
  refine x_aload_n (pc' := 1) rfl rfl rfl rfl rfl ?_
  refine x_gI (pc' := 4) (x := 1) rfl rfl rfl (z_I_128_1 e) ?_
  refine x_istore_n (pc' := 5) (ls' := [_, _, _]) rfl rfl rfl rfl ?_
  refine x_iload_n (pc' := 6) rfl rfl rfl ?_
  refine x_if (a' := 27) (pc' := 9) (z := false) rfl rfl rfl (by decide) (fun h => by cases h) (fun _ => ?_)
  refine x_iload_n (pc' := 10) rfl rfl rfl ?_
  refine x_aload_n (pc' := 11) rfl rfl rfl rfl rfl ?_
  refine x_gR (pc' := 14) (r := (some (m + 1))) rfl rfl rfl (kMp (Cn_e e) hm).1 ?_
  refine x_alen (pc' := 15) (N := 3) rfl rfl rfl (kMp (Cn_e e) hm).2.1 (?_ : X _ _ _ (.inl 3 :: _) _ _)
  refine x_icmp (a' := 27) (pc' := 18) (z := false) rfl rfl rfl (by decide) (fun h => by cases h) (fun _ => ?_)
  refine x_aload_n (pc' := 19) rfl rfl rfl rfl rfl ?_
  refine x_gR (pc' := 22) (r := (some (m + 1))) rfl rfl rfl (kMp (Cn_e e) hm).1 ?_
  refine x_iload_n (pc' := 23) rfl rfl rfl ?_
  refine x_iald (pc' := 24) (N := 3) (x := 0) rfl rfl rfl (kMp (Cn_e e) hm).2.1 (io_in (p := 1) (N := 3) (by decide) (by decide)) (Eq.trans (congrArg (sA t 20 (m + 1)) (nn_io (p := 1) (by decide))) (z_A_20_yy e _ _)) ?_
  refine x_goto (pc' := 28) rfl rfl ?_
  refine x_reti rfl rfl ?_
  refine sK_i (pc' := 49) rfl ?_
  refine x_istore (pc' := 51) (ls' := [_, _, _, _, _, _, _, _, _, _, _]) rfl rfl rfl rfl ?_
  refine x_iload (pc' := 53) rfl rfl rfl ?_
  refine x_aload_n (pc' := 54) rfl rfl rfl rfl rfl ?_
  refine x_ifnonnull (a' := 61) (pc' := 57) rfl rfl rfl rfl (fun i h => by cases h) (fun _ => ?_)
  refine x_iconst (pc' := 58) rfl rfl ?_
  refine x_goto (pc' := 67) rfl rfl ?_
  refine x_iadd (pc' := 68) (z := 0) rfl rfl (by decide) ?_
  refine x_istore (pc' := 70) (ls' := [_, _, _, _, _, _, _, _, _, _, _]) rfl rfl rfl rfl ?_
  refine x_iload (pc' := 72) rfl rfl rfl ?_
  refine x_iload (pc' := 74) rfl rfl rfl ?_
  refine x_aload_n (pc' := 75) rfl rfl rfl rfl rfl ?_
  refine x_iload (pc' := 77) rfl rfl rfl ?_
  refine x_aload (pc' := 79) rfl rfl rfl rfl rfl ?_
  refine x_gI (pc' := 82) (x := 1) rfl rfl rfl (z_I_128_1 e) ?_
  refine x_cv (ls0 := [_, _, _, sJk]) (rest := [_, _]) rfl rfl rfl rfl rfl ?_
  refine x_iload_n (pc' := 1) rfl rfl rfl ?_
  refine x_iconst (pc' := 2) rfl rfl ?_
  refine x_imul (pc' := 3) (z := 9) rfl rfl (by decide) ?_
  refine x_iload_n (pc' := 4) rfl rfl rfl ?_
  refine x_iadd (pc' := 5) (z := 10) rfl rfl (by decide) ?_
  refine x_istore_n (pc' := 6) (ls' := [_, _, _, _]) rfl rfl rfl rfl ?_
  refine x_iload_n (pc' := 7) rfl rfl rfl ?_
  refine x_if (a' := 28) (pc' := 10) (z := false) rfl rfl rfl (by decide) (fun h => by cases h) (fun _ => ?_)
  refine x_iload_n (pc' := 11) rfl rfl rfl ?_
  refine x_aload_n (pc' := 12) rfl rfl rfl rfl rfl ?_
  refine x_gR (pc' := 15) (r := (some 0)) rfl rfl rfl (z_R_323_0 e) ?_
  refine x_alen (pc' := 16) (N := 18) rfl rfl rfl (z_N_20_0 e) (?_ : X _ _ _ (.inl 18 :: _) _ _)
  refine x_icmp (a' := 28) (pc' := 19) (z := false) rfl rfl rfl (by decide) (fun h => by cases h) (fun _ => ?_)
  refine x_aload_n (pc' := 20) rfl rfl rfl rfl rfl ?_
  refine x_gR (pc' := 23) (r := (some 0)) rfl rfl rfl (z_R_323_0 e) ?_
  refine x_iload_n (pc' := 24) rfl rfl rfl ?_
  refine x_iald (pc' := 25) (N := 18) (x := 0) rfl rfl rfl (z_N_20_0 e) (io_in (p := 10) (N := 18) (by decide) (by decide)) (Eq.trans (congrArg (sA t 20 0) (nn_io (p := 10) (by decide))) (z_A_20_0_10 e)) ?_
  refine x_goto (pc' := 29) rfl rfl ?_
  refine x_reti rfl rfl ?_
  refine sK_i (pc' := 85) rfl ?_
  refine x_imul (pc' := 86) (z := 0) rfl rfl (by decide) ?_
  refine x_isub (pc' := 87) (z := 0) rfl rfl (by decide) ?_
  refine x_istore (pc' := 89) (ls' := [_, _, _, _, _, _, _, _, _, _, _]) rfl rfl rfl rfl ?_
  refine x_iinc (pc' := 92) (y := 2) (ls' := [_, _, _, _, _, _, _, _, _, _, _]) rfl rfl rfl rfl rfl ?_
  refine x_goto (pc' := 29) rfl rfl ?_
  refine x_iload (pc' := 31) rfl rfl rfl ?_
  refine x_iload (pc' := 33) rfl rfl rfl ?_
  refine x_icmp (a' := 95) (pc' := 36) (z := false) rfl rfl rfl (by decide) (fun h => by cases h) (fun _ => ?_)
  refine x_aload (pc' := 38) rfl rfl rfl rfl rfl ?_
  refine x_iload (pc' := 40) rfl rfl rfl ?_
  refine x_aald (pc' := 41) (N := 3) (k' := 2) (r := (some 2)) rfl rfl rfl (z_N_25_0 e) (io_in (p := 2) (N := 3) (by decide) (by decide)) (Eq.trans (congrArg (sE t 25 0) (nn_io (p := 2) (by decide))) (z_E_25_0_2 e)) ?_
  refine x_astore (pc' := 43) (ls' := [_, _, _, _, _, _, _, _, _, _, _]) rfl rfl rfl rfl rfl ?_
  refine x_aload_n (pc' := 44) rfl rfl rfl rfl rfl ?_
  refine x_aload (pc' := 46) rfl rfl rfl rfl rfl ?_
  refine x_cv (ls0 := [_, _, sJk]) (rest := []) rfl rfl rfl rfl rfl ?_
  refine x_aload_n (pc' := 1) rfl rfl rfl rfl rfl ?_
  refine x_gI (pc' := 4) (x := 2) rfl rfl rfl (z_I_128_2 e) ?_
  refine x_istore_n (pc' := 5) (ls' := [_, _, _]) rfl rfl rfl rfl ?_
  refine x_iload_n (pc' := 6) rfl rfl rfl ?_
  refine x_if (a' := 27) (pc' := 9) (z := false) rfl rfl rfl (by decide) (fun h => by cases h) (fun _ => ?_)
  refine x_iload_n (pc' := 10) rfl rfl rfl ?_
  refine x_aload_n (pc' := 11) rfl rfl rfl rfl rfl ?_
  refine x_gR (pc' := 14) (r := (some (m + 1))) rfl rfl rfl (kMp (Cn_e e) hm).1 ?_
  refine x_alen (pc' := 15) (N := 3) rfl rfl rfl (kMp (Cn_e e) hm).2.1 (?_ : X _ _ _ (.inl 3 :: _) _ _)
  refine x_icmp (a' := 27) (pc' := 18) (z := false) rfl rfl rfl (by decide) (fun h => by cases h) (fun _ => ?_)
  refine x_aload_n (pc' := 19) rfl rfl rfl rfl rfl ?_
  refine x_gR (pc' := 22) (r := (some (m + 1))) rfl rfl rfl (kMp (Cn_e e) hm).1 ?_
  refine x_iload_n (pc' := 23) rfl rfl rfl ?_
  refine x_iald (pc' := 24) (N := 3) (x := 0) rfl rfl rfl (kMp (Cn_e e) hm).2.1 (io_in (p := 2) (N := 3) (by decide) (by decide)) (Eq.trans (congrArg (sA t 20 (m + 1)) (nn_io (p := 2) (by decide))) (z_A_20_yy e _ _)) ?_
  refine x_goto (pc' := 28) rfl rfl ?_
  refine x_reti rfl rfl ?_
  refine sK_i (pc' := 49) rfl ?_
  refine x_istore (pc' := 51) (ls' := [_, _, _, _, _, _, _, _, _, _, _]) rfl rfl rfl rfl ?_
  refine x_iload (pc' := 53) rfl rfl rfl ?_
  refine x_aload_n (pc' := 54) rfl rfl rfl rfl rfl ?_
  refine x_ifnonnull (a' := 61) (pc' := 57) rfl rfl rfl rfl (fun i h => by cases h) (fun _ => ?_)
  refine x_iconst (pc' := 58) rfl rfl ?_
  refine x_goto (pc' := 67) rfl rfl ?_
  refine x_iadd (pc' := 68) (z := 0) rfl rfl (by decide) ?_
  refine x_istore (pc' := 70) (ls' := [_, _, _, _, _, _, _, _, _, _, _]) rfl rfl rfl rfl ?_
  refine x_iload (pc' := 72) rfl rfl rfl ?_
  refine x_iload (pc' := 74) rfl rfl rfl ?_
  refine x_aload_n (pc' := 75) rfl rfl rfl rfl rfl ?_
  refine x_iload (pc' := 77) rfl rfl rfl ?_
  refine x_aload (pc' := 79) rfl rfl rfl rfl rfl ?_
  refine x_gI (pc' := 82) (x := 2) rfl rfl rfl (z_I_128_2 e) ?_
  refine x_cv (ls0 := [_, _, _, sJk]) (rest := [_, _]) rfl rfl rfl rfl rfl ?_
  refine x_iload_n (pc' := 1) rfl rfl rfl ?_
  refine x_iconst (pc' := 2) rfl rfl ?_
  refine x_imul (pc' := 3) (z := 9) rfl rfl (by decide) ?_
  refine x_iload_n (pc' := 4) rfl rfl rfl ?_
  refine x_iadd (pc' := 5) (z := 11) rfl rfl (by decide) ?_
  refine x_istore_n (pc' := 6) (ls' := [_, _, _, _]) rfl rfl rfl rfl ?_
  refine x_iload_n (pc' := 7) rfl rfl rfl ?_
  refine x_if (a' := 28) (pc' := 10) (z := false) rfl rfl rfl (by decide) (fun h => by cases h) (fun _ => ?_)
  refine x_iload_n (pc' := 11) rfl rfl rfl ?_
  refine x_aload_n (pc' := 12) rfl rfl rfl rfl rfl ?_
  refine x_gR (pc' := 15) (r := (some 0)) rfl rfl rfl (z_R_323_0 e) ?_
  refine x_alen (pc' := 16) (N := 18) rfl rfl rfl (z_N_20_0 e) (?_ : X _ _ _ (.inl 18 :: _) _ _)
  refine x_icmp (a' := 28) (pc' := 19) (z := false) rfl rfl rfl (by decide) (fun h => by cases h) (fun _ => ?_)
  refine x_aload_n (pc' := 20) rfl rfl rfl rfl rfl ?_
  refine x_gR (pc' := 23) (r := (some 0)) rfl rfl rfl (z_R_323_0 e) ?_
  refine x_iload_n (pc' := 24) rfl rfl rfl ?_
  refine x_iald (pc' := 25) (N := 18) (x := 0) rfl rfl rfl (z_N_20_0 e) (io_in (p := 11) (N := 18) (by decide) (by decide)) (Eq.trans (congrArg (sA t 20 0) (nn_io (p := 11) (by decide))) (z_A_20_0_11 e)) ?_
  refine x_goto (pc' := 29) rfl rfl ?_
  refine x_reti rfl rfl ?_
  refine sK_i (pc' := 85) rfl ?_
  refine x_imul (pc' := 86) (z := 0) rfl rfl (by decide) ?_
  refine x_isub (pc' := 87) (z := 0) rfl rfl (by decide) ?_
  refine x_istore (pc' := 89) (ls' := [_, _, _, _, _, _, _, _, _, _, _]) rfl rfl rfl rfl ?_
  refine x_iinc (pc' := 92) (y := 3) (ls' := [_, _, _, _, _, _, _, _, _, _, _]) rfl rfl rfl rfl rfl ?_
  refine x_goto (pc' := 29) rfl rfl ?_
  refine x_iload (pc' := 31) rfl rfl rfl ?_
  refine x_iload (pc' := 33) rfl rfl rfl ?_
  refine x_icmp (a' := 95) (pc' := 36) (z := true) rfl rfl rfl (by decide) (fun _ => ?_) (fun h => by cases h)
  refine x_iload_n (pc' := 96) rfl rfl rfl ?_
  refine x_iload (pc' := 98) rfl rfl rfl ?_
  refine x_max (pc' := 101) (z := 0) rfl rfl rfl (by decide) ?_
  refine x_istore_n (pc' := 102) (ls' := [_, _, _, _, _, _, _, _, _, _, _]) rfl rfl rfl rfl ?_
  refine x_iinc (pc' := 105) (y := 4) (ls' := [_, _, _, _, _, _, _, _, _, _, _]) rfl rfl rfl rfl rfl ?_
  refine x_goto (pc' := 5) rfl rfl ?_
  refine x_iload (pc' := 7) rfl rfl rfl ?_
  refine x_bipush (pc' := 9) rfl rfl ?_
  refine x_icmp (a' := 108) (pc' := 12) (z := false) rfl rfl rfl (by decide) (fun h => by cases h) (fun _ => ?_)
  refine x_iconst (pc' := 13) rfl rfl ?_
  refine x_istore (pc' := 15) (ls' := [_, _, _, _, _, _, _, _, _, _, _]) rfl rfl rfl rfl ?_
  refine x_aload_n (pc' := 16) rfl rfl rfl rfl rfl ?_
  refine x_gR (pc' := 19) (r := (some 0)) rfl rfl rfl (z_R_320_0 e) ?_
  refine x_astore (pc' := 21) (ls' := [_, _, _, _, _, _, _, _, _, _, _]) rfl rfl rfl rfl rfl ?_
  refine x_aload (pc' := 23) rfl rfl rfl rfl rfl ?_
  refine x_alen (pc' := 24) (N := 3) rfl rfl rfl (z_N_25_0 e) (?_ : X _ _ _ (.inl 3 :: _) _ _)
  refine x_istore (pc' := 26) (ls' := [_, _, _, _, _, _, _, _, _, _, _]) rfl rfl rfl rfl ?_
  refine x_iconst (pc' := 27) rfl rfl ?_
  refine x_istore (pc' := 29) (ls' := [_, _, _, _, _, _, _, _, _, _, _]) rfl rfl rfl rfl ?_
  refine x_iload (pc' := 31) rfl rfl rfl ?_
  refine x_iload (pc' := 33) rfl rfl rfl ?_
  refine x_icmp (a' := 95) (pc' := 36) (z := false) rfl rfl rfl (by decide) (fun h => by cases h) (fun _ => ?_)
  refine x_aload (pc' := 38) rfl rfl rfl rfl rfl ?_
  refine x_iload (pc' := 40) rfl rfl rfl ?_
  refine x_aald (pc' := 41) (N := 3) (k' := 2) (r := (some 0)) rfl rfl rfl (z_N_25_0 e) (io_in (p := 0) (N := 3) (by decide) (by decide)) (Eq.trans (congrArg (sE t 25 0) (nn_io (p := 0) (by decide))) (z_E_25_0_0 e)) ?_
  refine x_astore (pc' := 43) (ls' := [_, _, _, _, _, _, _, _, _, _, _]) rfl rfl rfl rfl rfl ?_
  refine x_aload_n (pc' := 44) rfl rfl rfl rfl rfl ?_
  refine x_aload (pc' := 46) rfl rfl rfl rfl rfl ?_
  refine x_cv (ls0 := [_, _, sJk]) (rest := []) rfl rfl rfl rfl rfl ?_
  refine x_aload_n (pc' := 1) rfl rfl rfl rfl rfl ?_
  refine x_gI (pc' := 4) (x := 0) rfl rfl rfl (z_I_128_0 e) ?_
  refine x_istore_n (pc' := 5) (ls' := [_, _, _]) rfl rfl rfl rfl ?_
  refine x_iload_n (pc' := 6) rfl rfl rfl ?_
  refine x_if (a' := 27) (pc' := 9) (z := false) rfl rfl rfl (by decide) (fun h => by cases h) (fun _ => ?_)
  refine x_iload_n (pc' := 10) rfl rfl rfl ?_
  refine x_aload_n (pc' := 11) rfl rfl rfl rfl rfl ?_
  refine x_gR (pc' := 14) (r := (some (m + 1))) rfl rfl rfl (kMp (Cn_e e) hm).1 ?_
  refine x_alen (pc' := 15) (N := 3) rfl rfl rfl (kMp (Cn_e e) hm).2.1 (?_ : X _ _ _ (.inl 3 :: _) _ _)
  refine x_icmp (a' := 27) (pc' := 18) (z := false) rfl rfl rfl (by decide) (fun h => by cases h) (fun _ => ?_)
  refine x_aload_n (pc' := 19) rfl rfl rfl rfl rfl ?_
  refine x_gR (pc' := 22) (r := (some (m + 1))) rfl rfl rfl (kMp (Cn_e e) hm).1 ?_
  refine x_iload_n (pc' := 23) rfl rfl rfl ?_
  refine x_iald (pc' := 24) (N := 3) (x := 0) rfl rfl rfl (kMp (Cn_e e) hm).2.1 (io_in (p := 0) (N := 3) (by decide) (by decide)) (Eq.trans (congrArg (sA t 20 (m + 1)) (nn_io (p := 0) (by decide))) (z_A_20_yy e _ _)) ?_
  refine x_goto (pc' := 28) rfl rfl ?_
  refine x_reti rfl rfl ?_
  refine sK_i (pc' := 49) rfl ?_
  refine x_istore (pc' := 51) (ls' := [_, _, _, _, _, _, _, _, _, _, _]) rfl rfl rfl rfl ?_
  refine x_iload (pc' := 53) rfl rfl rfl ?_
  refine x_aload_n (pc' := 54) rfl rfl rfl rfl rfl ?_
  refine x_ifnonnull (a' := 61) (pc' := 57) rfl rfl rfl rfl (fun i h => by cases h) (fun _ => ?_)
  refine x_iconst (pc' := 58) rfl rfl ?_
  refine x_goto (pc' := 67) rfl rfl ?_
  refine x_iadd (pc' := 68) (z := 0) rfl rfl (by decide) ?_
  refine x_istore (pc' := 70) (ls' := [_, _, _, _, _, _, _, _, _, _, _]) rfl rfl rfl rfl ?_
  refine x_iload (pc' := 72) rfl rfl rfl ?_
  refine x_iload (pc' := 74) rfl rfl rfl ?_
  refine x_aload_n (pc' := 75) rfl rfl rfl rfl rfl ?_
  refine x_iload (pc' := 77) rfl rfl rfl ?_
  refine x_aload (pc' := 79) rfl rfl rfl rfl rfl ?_
  refine x_gI (pc' := 82) (x := 0) rfl rfl rfl (z_I_128_0 e) ?_
  refine x_cv (ls0 := [_, _, _, sJk]) (rest := [_, _]) rfl rfl rfl rfl rfl ?_
  refine x_iload_n (pc' := 1) rfl rfl rfl ?_
  refine x_iconst (pc' := 2) rfl rfl ?_
  refine x_imul (pc' := 3) (z := 12) rfl rfl (by decide) ?_
  refine x_iload_n (pc' := 4) rfl rfl rfl ?_
  refine x_iadd (pc' := 5) (z := 12) rfl rfl (by decide) ?_
  refine x_istore_n (pc' := 6) (ls' := [_, _, _, _]) rfl rfl rfl rfl ?_
  refine x_iload_n (pc' := 7) rfl rfl rfl ?_
  refine x_if (a' := 28) (pc' := 10) (z := false) rfl rfl rfl (by decide) (fun h => by cases h) (fun _ => ?_)
  refine x_iload_n (pc' := 11) rfl rfl rfl ?_
  refine x_aload_n (pc' := 12) rfl rfl rfl rfl rfl ?_
  refine x_gR (pc' := 15) (r := (some 0)) rfl rfl rfl (z_R_323_0 e) ?_
  refine x_alen (pc' := 16) (N := 18) rfl rfl rfl (z_N_20_0 e) (?_ : X _ _ _ (.inl 18 :: _) _ _)
  refine x_icmp (a' := 28) (pc' := 19) (z := false) rfl rfl rfl (by decide) (fun h => by cases h) (fun _ => ?_)
  refine x_aload_n (pc' := 20) rfl rfl rfl rfl rfl ?_
  refine x_gR (pc' := 23) (r := (some 0)) rfl rfl rfl (z_R_323_0 e) ?_
  refine x_iload_n (pc' := 24) rfl rfl rfl ?_
  refine x_iald (pc' := 25) (N := 18) (x := 0) rfl rfl rfl (z_N_20_0 e) (io_in (p := 12) (N := 18) (by decide) (by decide)) (Eq.trans (congrArg (sA t 20 0) (nn_io (p := 12) (by decide))) (z_A_20_0_12 e)) ?_
  refine x_goto (pc' := 29) rfl rfl ?_
  refine x_reti rfl rfl ?_
  refine sK_i (pc' := 85) rfl ?_
  refine x_imul (pc' := 86) (z := 0) rfl rfl (by decide) ?_
  refine x_isub (pc' := 87) (z := 0) rfl rfl (by decide) ?_
  refine x_istore (pc' := 89) (ls' := [_, _, _, _, _, _, _, _, _, _, _]) rfl rfl rfl rfl ?_
  refine x_iinc (pc' := 92) (y := 1) (ls' := [_, _, _, _, _, _, _, _, _, _, _]) rfl rfl rfl rfl rfl ?_
  refine x_goto (pc' := 29) rfl rfl ?_
  refine x_iload (pc' := 31) rfl rfl rfl ?_
  refine x_iload (pc' := 33) rfl rfl rfl ?_
  refine x_icmp (a' := 95) (pc' := 36) (z := false) rfl rfl rfl (by decide) (fun h => by cases h) (fun _ => ?_)
  refine x_aload (pc' := 38) rfl rfl rfl rfl rfl ?_
  refine x_iload (pc' := 40) rfl rfl rfl ?_
  refine x_aald (pc' := 41) (N := 3) (k' := 2) (r := (some 1)) rfl rfl rfl (z_N_25_0 e) (io_in (p := 1) (N := 3) (by decide) (by decide)) (Eq.trans (congrArg (sE t 25 0) (nn_io (p := 1) (by decide))) (z_E_25_0_1 e)) ?_
  refine x_astore (pc' := 43) (ls' := [_, _, _, _, _, _, _, _, _, _, _]) rfl rfl rfl rfl rfl ?_
  refine x_aload_n (pc' := 44) rfl rfl rfl rfl rfl ?_
  refine x_aload (pc' := 46) rfl rfl rfl rfl rfl ?_
  refine x_cv (ls0 := [_, _, sJk]) (rest := []) rfl rfl rfl rfl rfl ?_
  refine x_aload_n (pc' := 1) rfl rfl rfl rfl rfl ?_
  refine x_gI (pc' := 4) (x := 1) rfl rfl rfl (z_I_128_1 e) ?_
  refine x_istore_n (pc' := 5) (ls' := [_, _, _]) rfl rfl rfl rfl ?_
  refine x_iload_n (pc' := 6) rfl rfl rfl ?_
  refine x_if (a' := 27) (pc' := 9) (z := false) rfl rfl rfl (by decide) (fun h => by cases h) (fun _ => ?_)
  refine x_iload_n (pc' := 10) rfl rfl rfl ?_
  refine x_aload_n (pc' := 11) rfl rfl rfl rfl rfl ?_
  refine x_gR (pc' := 14) (r := (some (m + 1))) rfl rfl rfl (kMp (Cn_e e) hm).1 ?_
  refine x_alen (pc' := 15) (N := 3) rfl rfl rfl (kMp (Cn_e e) hm).2.1 (?_ : X _ _ _ (.inl 3 :: _) _ _)
  refine x_icmp (a' := 27) (pc' := 18) (z := false) rfl rfl rfl (by decide) (fun h => by cases h) (fun _ => ?_)
  refine x_aload_n (pc' := 19) rfl rfl rfl rfl rfl ?_
  refine x_gR (pc' := 22) (r := (some (m + 1))) rfl rfl rfl (kMp (Cn_e e) hm).1 ?_
  refine x_iload_n (pc' := 23) rfl rfl rfl ?_
  refine x_iald (pc' := 24) (N := 3) (x := 0) rfl rfl rfl (kMp (Cn_e e) hm).2.1 (io_in (p := 1) (N := 3) (by decide) (by decide)) (Eq.trans (congrArg (sA t 20 (m + 1)) (nn_io (p := 1) (by decide))) (z_A_20_yy e _ _)) ?_
  refine x_goto (pc' := 28) rfl rfl ?_
  refine x_reti rfl rfl ?_
  refine sK_i (pc' := 49) rfl ?_
  refine x_istore (pc' := 51) (ls' := [_, _, _, _, _, _, _, _, _, _, _]) rfl rfl rfl rfl ?_
  refine x_iload (pc' := 53) rfl rfl rfl ?_
  refine x_aload_n (pc' := 54) rfl rfl rfl rfl rfl ?_
  refine x_ifnonnull (a' := 61) (pc' := 57) rfl rfl rfl rfl (fun i h => by cases h) (fun _ => ?_)
  refine x_iconst (pc' := 58) rfl rfl ?_
  refine x_goto (pc' := 67) rfl rfl ?_
  refine x_iadd (pc' := 68) (z := 0) rfl rfl (by decide) ?_
  refine x_istore (pc' := 70) (ls' := [_, _, _, _, _, _, _, _, _, _, _]) rfl rfl rfl rfl ?_
  refine x_iload (pc' := 72) rfl rfl rfl ?_
  refine x_iload (pc' := 74) rfl rfl rfl ?_
  refine x_aload_n (pc' := 75) rfl rfl rfl rfl rfl ?_
  refine x_iload (pc' := 77) rfl rfl rfl ?_
  refine x_aload (pc' := 79) rfl rfl rfl rfl rfl ?_
  refine x_gI (pc' := 82) (x := 1) rfl rfl rfl (z_I_128_1 e) ?_
  refine x_cv (ls0 := [_, _, _, sJk]) (rest := [_, _]) rfl rfl rfl rfl rfl ?_
  refine x_iload_n (pc' := 1) rfl rfl rfl ?_
  refine x_iconst (pc' := 2) rfl rfl ?_
  refine x_imul (pc' := 3) (z := 12) rfl rfl (by decide) ?_
  refine x_iload_n (pc' := 4) rfl rfl rfl ?_
  refine x_iadd (pc' := 5) (z := 13) rfl rfl (by decide) ?_
  refine x_istore_n (pc' := 6) (ls' := [_, _, _, _]) rfl rfl rfl rfl ?_
  refine x_iload_n (pc' := 7) rfl rfl rfl ?_
  refine x_if (a' := 28) (pc' := 10) (z := false) rfl rfl rfl (by decide) (fun h => by cases h) (fun _ => ?_)
  refine x_iload_n (pc' := 11) rfl rfl rfl ?_
  refine x_aload_n (pc' := 12) rfl rfl rfl rfl rfl ?_
  refine x_gR (pc' := 15) (r := (some 0)) rfl rfl rfl (z_R_323_0 e) ?_
  refine x_alen (pc' := 16) (N := 18) rfl rfl rfl (z_N_20_0 e) (?_ : X _ _ _ (.inl 18 :: _) _ _)
  refine x_icmp (a' := 28) (pc' := 19) (z := false) rfl rfl rfl (by decide) (fun h => by cases h) (fun _ => ?_)
  refine x_aload_n (pc' := 20) rfl rfl rfl rfl rfl ?_
  refine x_gR (pc' := 23) (r := (some 0)) rfl rfl rfl (z_R_323_0 e) ?_
  refine x_iload_n (pc' := 24) rfl rfl rfl ?_
  refine x_iald (pc' := 25) (N := 18) (x := 0) rfl rfl rfl (z_N_20_0 e) (io_in (p := 13) (N := 18) (by decide) (by decide)) (Eq.trans (congrArg (sA t 20 0) (nn_io (p := 13) (by decide))) (z_A_20_0_13 e)) ?_
  refine x_goto (pc' := 29) rfl rfl ?_
  refine x_reti rfl rfl ?_
  refine sK_i (pc' := 85) rfl ?_
  refine x_imul (pc' := 86) (z := 0) rfl rfl (by decide) ?_
  refine x_isub (pc' := 87) (z := 0) rfl rfl (by decide) ?_
  refine x_istore (pc' := 89) (ls' := [_, _, _, _, _, _, _, _, _, _, _]) rfl rfl rfl rfl ?_
  refine x_iinc (pc' := 92) (y := 2) (ls' := [_, _, _, _, _, _, _, _, _, _, _]) rfl rfl rfl rfl rfl ?_
  refine x_goto (pc' := 29) rfl rfl ?_
  refine x_iload (pc' := 31) rfl rfl rfl ?_
  refine x_iload (pc' := 33) rfl rfl rfl ?_
  refine x_icmp (a' := 95) (pc' := 36) (z := false) rfl rfl rfl (by decide) (fun h => by cases h) (fun _ => ?_)
  refine x_aload (pc' := 38) rfl rfl rfl rfl rfl ?_
  refine x_iload (pc' := 40) rfl rfl rfl ?_
  refine x_aald (pc' := 41) (N := 3) (k' := 2) (r := (some 2)) rfl rfl rfl (z_N_25_0 e) (io_in (p := 2) (N := 3) (by decide) (by decide)) (Eq.trans (congrArg (sE t 25 0) (nn_io (p := 2) (by decide))) (z_E_25_0_2 e)) ?_
  refine x_astore (pc' := 43) (ls' := [_, _, _, _, _, _, _, _, _, _, _]) rfl rfl rfl rfl rfl ?_
  refine x_aload_n (pc' := 44) rfl rfl rfl rfl rfl ?_
  refine x_aload (pc' := 46) rfl rfl rfl rfl rfl ?_
  refine x_cv (ls0 := [_, _, sJk]) (rest := []) rfl rfl rfl rfl rfl ?_
  refine x_aload_n (pc' := 1) rfl rfl rfl rfl rfl ?_
  refine x_gI (pc' := 4) (x := 2) rfl rfl rfl (z_I_128_2 e) ?_
  refine x_istore_n (pc' := 5) (ls' := [_, _, _]) rfl rfl rfl rfl ?_
  refine x_iload_n (pc' := 6) rfl rfl rfl ?_
  refine x_if (a' := 27) (pc' := 9) (z := false) rfl rfl rfl (by decide) (fun h => by cases h) (fun _ => ?_)
  refine x_iload_n (pc' := 10) rfl rfl rfl ?_
  refine x_aload_n (pc' := 11) rfl rfl rfl rfl rfl ?_
  refine x_gR (pc' := 14) (r := (some (m + 1))) rfl rfl rfl (kMp (Cn_e e) hm).1 ?_
  refine x_alen (pc' := 15) (N := 3) rfl rfl rfl (kMp (Cn_e e) hm).2.1 (?_ : X _ _ _ (.inl 3 :: _) _ _)
  refine x_icmp (a' := 27) (pc' := 18) (z := false) rfl rfl rfl (by decide) (fun h => by cases h) (fun _ => ?_)
  refine x_aload_n (pc' := 19) rfl rfl rfl rfl rfl ?_
  refine x_gR (pc' := 22) (r := (some (m + 1))) rfl rfl rfl (kMp (Cn_e e) hm).1 ?_
  refine x_iload_n (pc' := 23) rfl rfl rfl ?_
  refine x_iald (pc' := 24) (N := 3) (x := 0) rfl rfl rfl (kMp (Cn_e e) hm).2.1 (io_in (p := 2) (N := 3) (by decide) (by decide)) (Eq.trans (congrArg (sA t 20 (m + 1)) (nn_io (p := 2) (by decide))) (z_A_20_yy e _ _)) ?_
  refine x_goto (pc' := 28) rfl rfl ?_
  refine x_reti rfl rfl ?_
  refine sK_i (pc' := 49) rfl ?_
  refine x_istore (pc' := 51) (ls' := [_, _, _, _, _, _, _, _, _, _, _]) rfl rfl rfl rfl ?_
  refine x_iload (pc' := 53) rfl rfl rfl ?_
  refine x_aload_n (pc' := 54) rfl rfl rfl rfl rfl ?_
  refine x_ifnonnull (a' := 61) (pc' := 57) rfl rfl rfl rfl (fun i h => by cases h) (fun _ => ?_)
  refine x_iconst (pc' := 58) rfl rfl ?_
  refine x_goto (pc' := 67) rfl rfl ?_
  refine x_iadd (pc' := 68) (z := 0) rfl rfl (by decide) ?_
  refine x_istore (pc' := 70) (ls' := [_, _, _, _, _, _, _, _, _, _, _]) rfl rfl rfl rfl ?_
  refine x_iload (pc' := 72) rfl rfl rfl ?_
  refine x_iload (pc' := 74) rfl rfl rfl ?_
  refine x_aload_n (pc' := 75) rfl rfl rfl rfl rfl ?_
  refine x_iload (pc' := 77) rfl rfl rfl ?_
  refine x_aload (pc' := 79) rfl rfl rfl rfl rfl ?_
  refine x_gI (pc' := 82) (x := 2) rfl rfl rfl (z_I_128_2 e) ?_
  refine x_cv (ls0 := [_, _, _, sJk]) (rest := [_, _]) rfl rfl rfl rfl rfl ?_
  refine x_iload_n (pc' := 1) rfl rfl rfl ?_
  refine x_iconst (pc' := 2) rfl rfl ?_
  refine x_imul (pc' := 3) (z := 12) rfl rfl (by decide) ?_
  refine x_iload_n (pc' := 4) rfl rfl rfl ?_
  refine x_iadd (pc' := 5) (z := 14) rfl rfl (by decide) ?_
  refine x_istore_n (pc' := 6) (ls' := [_, _, _, _]) rfl rfl rfl rfl ?_
  refine x_iload_n (pc' := 7) rfl rfl rfl ?_
  refine x_if (a' := 28) (pc' := 10) (z := false) rfl rfl rfl (by decide) (fun h => by cases h) (fun _ => ?_)
  refine x_iload_n (pc' := 11) rfl rfl rfl ?_
  refine x_aload_n (pc' := 12) rfl rfl rfl rfl rfl ?_
  refine x_gR (pc' := 15) (r := (some 0)) rfl rfl rfl (z_R_323_0 e) ?_
  refine x_alen (pc' := 16) (N := 18) rfl rfl rfl (z_N_20_0 e) (?_ : X _ _ _ (.inl 18 :: _) _ _)
  refine x_icmp (a' := 28) (pc' := 19) (z := false) rfl rfl rfl (by decide) (fun h => by cases h) (fun _ => ?_)
  refine x_aload_n (pc' := 20) rfl rfl rfl rfl rfl ?_
  refine x_gR (pc' := 23) (r := (some 0)) rfl rfl rfl (z_R_323_0 e) ?_
  refine x_iload_n (pc' := 24) rfl rfl rfl ?_
  refine x_iald (pc' := 25) (N := 18) (x := 0) rfl rfl rfl (z_N_20_0 e) (io_in (p := 14) (N := 18) (by decide) (by decide)) (Eq.trans (congrArg (sA t 20 0) (nn_io (p := 14) (by decide))) (z_A_20_0_14 e)) ?_
  refine x_goto (pc' := 29) rfl rfl ?_
  refine x_reti rfl rfl ?_
  refine sK_i (pc' := 85) rfl ?_
  refine x_imul (pc' := 86) (z := 0) rfl rfl (by decide) ?_
  refine x_isub (pc' := 87) (z := 0) rfl rfl (by decide) ?_
  refine x_istore (pc' := 89) (ls' := [_, _, _, _, _, _, _, _, _, _, _]) rfl rfl rfl rfl ?_
  refine x_iinc (pc' := 92) (y := 3) (ls' := [_, _, _, _, _, _, _, _, _, _, _]) rfl rfl rfl rfl rfl ?_
  refine x_goto (pc' := 29) rfl rfl ?_
  refine x_iload (pc' := 31) rfl rfl rfl ?_
  refine x_iload (pc' := 33) rfl rfl rfl ?_
  refine x_icmp (a' := 95) (pc' := 36) (z := true) rfl rfl rfl (by decide) (fun _ => ?_) (fun h => by cases h)
  refine x_iload_n (pc' := 96) rfl rfl rfl ?_
  refine x_iload (pc' := 98) rfl rfl rfl ?_
  refine x_max (pc' := 101) (z := 0) rfl rfl rfl (by decide) ?_
  refine x_istore_n (pc' := 102) (ls' := [_, _, _, _, _, _, _, _, _, _, _]) rfl rfl rfl rfl ?_
  refine x_iinc (pc' := 105) (y := 5) (ls' := [_, _, _, _, _, _, _, _, _, _, _]) rfl rfl rfl rfl rfl ?_
  refine x_goto (pc' := 5) rfl rfl ?_
  refine x_iload (pc' := 7) rfl rfl rfl ?_
  refine x_bipush (pc' := 9) rfl rfl ?_
  refine x_icmp (a' := 108) (pc' := 12) (z := false) rfl rfl rfl (by decide) (fun h => by cases h) (fun _ => ?_)
  refine x_iconst (pc' := 13) rfl rfl ?_
  refine x_istore (pc' := 15) (ls' := [_, _, _, _, _, _, _, _, _, _, _]) rfl rfl rfl rfl ?_
  refine x_aload_n (pc' := 16) rfl rfl rfl rfl rfl ?_
  refine x_gR (pc' := 19) (r := (some 0)) rfl rfl rfl (z_R_320_0 e) ?_
  refine x_astore (pc' := 21) (ls' := [_, _, _, _, _, _, _, _, _, _, _]) rfl rfl rfl rfl rfl ?_
  refine x_aload (pc' := 23) rfl rfl rfl rfl rfl ?_
  refine x_alen (pc' := 24) (N := 3) rfl rfl rfl (z_N_25_0 e) (?_ : X _ _ _ (.inl 3 :: _) _ _)
  refine x_istore (pc' := 26) (ls' := [_, _, _, _, _, _, _, _, _, _, _]) rfl rfl rfl rfl ?_
  refine x_iconst (pc' := 27) rfl rfl ?_
  refine x_istore (pc' := 29) (ls' := [_, _, _, _, _, _, _, _, _, _, _]) rfl rfl rfl rfl ?_
  refine x_iload (pc' := 31) rfl rfl rfl ?_
  refine x_iload (pc' := 33) rfl rfl rfl ?_
  refine x_icmp (a' := 95) (pc' := 36) (z := false) rfl rfl rfl (by decide) (fun h => by cases h) (fun _ => ?_)
  refine x_aload (pc' := 38) rfl rfl rfl rfl rfl ?_
  refine x_iload (pc' := 40) rfl rfl rfl ?_
  refine x_aald (pc' := 41) (N := 3) (k' := 2) (r := (some 0)) rfl rfl rfl (z_N_25_0 e) (io_in (p := 0) (N := 3) (by decide) (by decide)) (Eq.trans (congrArg (sE t 25 0) (nn_io (p := 0) (by decide))) (z_E_25_0_0 e)) ?_
  refine x_astore (pc' := 43) (ls' := [_, _, _, _, _, _, _, _, _, _, _]) rfl rfl rfl rfl rfl ?_
  refine x_aload_n (pc' := 44) rfl rfl rfl rfl rfl ?_
  refine x_aload (pc' := 46) rfl rfl rfl rfl rfl ?_
  refine x_cv (ls0 := [_, _, sJk]) (rest := []) rfl rfl rfl rfl rfl ?_
  refine x_aload_n (pc' := 1) rfl rfl rfl rfl rfl ?_
  refine x_gI (pc' := 4) (x := 0) rfl rfl rfl (z_I_128_0 e) ?_
  refine x_istore_n (pc' := 5) (ls' := [_, _, _]) rfl rfl rfl rfl ?_
  refine x_iload_n (pc' := 6) rfl rfl rfl ?_
  refine x_if (a' := 27) (pc' := 9) (z := false) rfl rfl rfl (by decide) (fun h => by cases h) (fun _ => ?_)
  refine x_iload_n (pc' := 10) rfl rfl rfl ?_
  refine x_aload_n (pc' := 11) rfl rfl rfl rfl rfl ?_
  refine x_gR (pc' := 14) (r := (some (m + 1))) rfl rfl rfl (kMp (Cn_e e) hm).1 ?_
  refine x_alen (pc' := 15) (N := 3) rfl rfl rfl (kMp (Cn_e e) hm).2.1 (?_ : X _ _ _ (.inl 3 :: _) _ _)
  refine x_icmp (a' := 27) (pc' := 18) (z := false) rfl rfl rfl (by decide) (fun h => by cases h) (fun _ => ?_)
  refine x_aload_n (pc' := 19) rfl rfl rfl rfl rfl ?_
  refine x_gR (pc' := 22) (r := (some (m + 1))) rfl rfl rfl (kMp (Cn_e e) hm).1 ?_
  refine x_iload_n (pc' := 23) rfl rfl rfl ?_
  refine x_iald (pc' := 24) (N := 3) (x := 0) rfl rfl rfl (kMp (Cn_e e) hm).2.1 (io_in (p := 0) (N := 3) (by decide) (by decide)) (Eq.trans (congrArg (sA t 20 (m + 1)) (nn_io (p := 0) (by decide))) (z_A_20_yy e _ _)) ?_
  refine x_goto (pc' := 28) rfl rfl ?_
  refine x_reti rfl rfl ?_
  refine sK_i (pc' := 49) rfl ?_
  refine x_istore (pc' := 51) (ls' := [_, _, _, _, _, _, _, _, _, _, _]) rfl rfl rfl rfl ?_
  refine x_iload (pc' := 53) rfl rfl rfl ?_
  refine x_aload_n (pc' := 54) rfl rfl rfl rfl rfl ?_
  refine x_ifnonnull (a' := 61) (pc' := 57) rfl rfl rfl rfl (fun i h => by cases h) (fun _ => ?_)
  refine x_iconst (pc' := 58) rfl rfl ?_
  refine x_goto (pc' := 67) rfl rfl ?_
  refine x_iadd (pc' := 68) (z := 0) rfl rfl (by decide) ?_
  refine x_istore (pc' := 70) (ls' := [_, _, _, _, _, _, _, _, _, _, _]) rfl rfl rfl rfl ?_
  refine x_iload (pc' := 72) rfl rfl rfl ?_
  refine x_iload (pc' := 74) rfl rfl rfl ?_
  refine x_aload_n (pc' := 75) rfl rfl rfl rfl rfl ?_
  refine x_iload (pc' := 77) rfl rfl rfl ?_
  refine x_aload (pc' := 79) rfl rfl rfl rfl rfl ?_
  refine x_gI (pc' := 82) (x := 0) rfl rfl rfl (z_I_128_0 e) ?_
  refine x_cv (ls0 := [_, _, _, sJk]) (rest := [_, _]) rfl rfl rfl rfl rfl ?_
  refine x_iload_n (pc' := 1) rfl rfl rfl ?_
  refine x_iconst (pc' := 2) rfl rfl ?_
  refine x_imul (pc' := 3) (z := 15) rfl rfl (by decide) ?_
  refine x_iload_n (pc' := 4) rfl rfl rfl ?_
  refine x_iadd (pc' := 5) (z := 15) rfl rfl (by decide) ?_
  refine x_istore_n (pc' := 6) (ls' := [_, _, _, _]) rfl rfl rfl rfl ?_
  refine x_iload_n (pc' := 7) rfl rfl rfl ?_
  refine x_if (a' := 28) (pc' := 10) (z := false) rfl rfl rfl (by decide) (fun h => by cases h) (fun _ => ?_)
  refine x_iload_n (pc' := 11) rfl rfl rfl ?_
  refine x_aload_n (pc' := 12) rfl rfl rfl rfl rfl ?_
  refine x_gR (pc' := 15) (r := (some 0)) rfl rfl rfl (z_R_323_0 e) ?_
  refine x_alen (pc' := 16) (N := 18) rfl rfl rfl (z_N_20_0 e) (?_ : X _ _ _ (.inl 18 :: _) _ _)
  refine x_icmp (a' := 28) (pc' := 19) (z := false) rfl rfl rfl (by decide) (fun h => by cases h) (fun _ => ?_)
  refine x_aload_n (pc' := 20) rfl rfl rfl rfl rfl ?_
  refine x_gR (pc' := 23) (r := (some 0)) rfl rfl rfl (z_R_323_0 e) ?_
  refine x_iload_n (pc' := 24) rfl rfl rfl ?_
  refine x_iald (pc' := 25) (N := 18) (x := 0) rfl rfl rfl (z_N_20_0 e) (io_in (p := 15) (N := 18) (by decide) (by decide)) (Eq.trans (congrArg (sA t 20 0) (nn_io (p := 15) (by decide))) (z_A_20_0_15 e)) ?_
  refine x_goto (pc' := 29) rfl rfl ?_
  refine x_reti rfl rfl ?_
  refine sK_i (pc' := 85) rfl ?_
  refine x_imul (pc' := 86) (z := 0) rfl rfl (by decide) ?_
  refine x_isub (pc' := 87) (z := 0) rfl rfl (by decide) ?_
  refine x_istore (pc' := 89) (ls' := [_, _, _, _, _, _, _, _, _, _, _]) rfl rfl rfl rfl ?_
  refine x_iinc (pc' := 92) (y := 1) (ls' := [_, _, _, _, _, _, _, _, _, _, _]) rfl rfl rfl rfl rfl ?_
  refine x_goto (pc' := 29) rfl rfl ?_
  refine x_iload (pc' := 31) rfl rfl rfl ?_
  refine x_iload (pc' := 33) rfl rfl rfl ?_
  refine x_icmp (a' := 95) (pc' := 36) (z := false) rfl rfl rfl (by decide) (fun h => by cases h) (fun _ => ?_)
  refine x_aload (pc' := 38) rfl rfl rfl rfl rfl ?_
  refine x_iload (pc' := 40) rfl rfl rfl ?_
  refine x_aald (pc' := 41) (N := 3) (k' := 2) (r := (some 1)) rfl rfl rfl (z_N_25_0 e) (io_in (p := 1) (N := 3) (by decide) (by decide)) (Eq.trans (congrArg (sE t 25 0) (nn_io (p := 1) (by decide))) (z_E_25_0_1 e)) ?_
  refine x_astore (pc' := 43) (ls' := [_, _, _, _, _, _, _, _, _, _, _]) rfl rfl rfl rfl rfl ?_
  refine x_aload_n (pc' := 44) rfl rfl rfl rfl rfl ?_
  refine x_aload (pc' := 46) rfl rfl rfl rfl rfl ?_
  refine x_cv (ls0 := [_, _, sJk]) (rest := []) rfl rfl rfl rfl rfl ?_
  refine x_aload_n (pc' := 1) rfl rfl rfl rfl rfl ?_
  refine x_gI (pc' := 4) (x := 1) rfl rfl rfl (z_I_128_1 e) ?_
  refine x_istore_n (pc' := 5) (ls' := [_, _, _]) rfl rfl rfl rfl ?_
  refine x_iload_n (pc' := 6) rfl rfl rfl ?_
  refine x_if (a' := 27) (pc' := 9) (z := false) rfl rfl rfl (by decide) (fun h => by cases h) (fun _ => ?_)
  refine x_iload_n (pc' := 10) rfl rfl rfl ?_
  refine x_aload_n (pc' := 11) rfl rfl rfl rfl rfl ?_
  refine x_gR (pc' := 14) (r := (some (m + 1))) rfl rfl rfl (kMp (Cn_e e) hm).1 ?_
  refine x_alen (pc' := 15) (N := 3) rfl rfl rfl (kMp (Cn_e e) hm).2.1 (?_ : X _ _ _ (.inl 3 :: _) _ _)
  refine x_icmp (a' := 27) (pc' := 18) (z := false) rfl rfl rfl (by decide) (fun h => by cases h) (fun _ => ?_)
  refine x_aload_n (pc' := 19) rfl rfl rfl rfl rfl ?_
  refine x_gR (pc' := 22) (r := (some (m + 1))) rfl rfl rfl (kMp (Cn_e e) hm).1 ?_
  refine x_iload_n (pc' := 23) rfl rfl rfl ?_
  refine x_iald (pc' := 24) (N := 3) (x := 0) rfl rfl rfl (kMp (Cn_e e) hm).2.1 (io_in (p := 1) (N := 3) (by decide) (by decide)) (Eq.trans (congrArg (sA t 20 (m + 1)) (nn_io (p := 1) (by decide))) (z_A_20_yy e _ _)) ?_
  refine x_goto (pc' := 28) rfl rfl ?_
  refine x_reti rfl rfl ?_
  refine sK_i (pc' := 49) rfl ?_
  refine x_istore (pc' := 51) (ls' := [_, _, _, _, _, _, _, _, _, _, _]) rfl rfl rfl rfl ?_
  refine x_iload (pc' := 53) rfl rfl rfl ?_
  refine x_aload_n (pc' := 54) rfl rfl rfl rfl rfl ?_
  refine x_ifnonnull (a' := 61) (pc' := 57) rfl rfl rfl rfl (fun i h => by cases h) (fun _ => ?_)
  refine x_iconst (pc' := 58) rfl rfl ?_
  refine x_goto (pc' := 67) rfl rfl ?_
  refine x_iadd (pc' := 68) (z := 0) rfl rfl (by decide) ?_
  refine x_istore (pc' := 70) (ls' := [_, _, _, _, _, _, _, _, _, _, _]) rfl rfl rfl rfl ?_
  refine x_iload (pc' := 72) rfl rfl rfl ?_
  refine x_iload (pc' := 74) rfl rfl rfl ?_
  refine x_aload_n (pc' := 75) rfl rfl rfl rfl rfl ?_
  refine x_iload (pc' := 77) rfl rfl rfl ?_
  refine x_aload (pc' := 79) rfl rfl rfl rfl rfl ?_
  refine x_gI (pc' := 82) (x := 1) rfl rfl rfl (z_I_128_1 e) ?_
  refine x_cv (ls0 := [_, _, _, sJk]) (rest := [_, _]) rfl rfl rfl rfl rfl ?_
  refine x_iload_n (pc' := 1) rfl rfl rfl ?_
  refine x_iconst (pc' := 2) rfl rfl ?_
  refine x_imul (pc' := 3) (z := 15) rfl rfl (by decide) ?_
  refine x_iload_n (pc' := 4) rfl rfl rfl ?_
  refine x_iadd (pc' := 5) (z := 16) rfl rfl (by decide) ?_
  refine x_istore_n (pc' := 6) (ls' := [_, _, _, _]) rfl rfl rfl rfl ?_
  refine x_iload_n (pc' := 7) rfl rfl rfl ?_
  refine x_if (a' := 28) (pc' := 10) (z := false) rfl rfl rfl (by decide) (fun h => by cases h) (fun _ => ?_)
  refine x_iload_n (pc' := 11) rfl rfl rfl ?_
  refine x_aload_n (pc' := 12) rfl rfl rfl rfl rfl ?_
  refine x_gR (pc' := 15) (r := (some 0)) rfl rfl rfl (z_R_323_0 e) ?_
  refine x_alen (pc' := 16) (N := 18) rfl rfl rfl (z_N_20_0 e) (?_ : X _ _ _ (.inl 18 :: _) _ _)
  refine x_icmp (a' := 28) (pc' := 19) (z := false) rfl rfl rfl (by decide) (fun h => by cases h) (fun _ => ?_)
  refine x_aload_n (pc' := 20) rfl rfl rfl rfl rfl ?_
  refine x_gR (pc' := 23) (r := (some 0)) rfl rfl rfl (z_R_323_0 e) ?_
  refine x_iload_n (pc' := 24) rfl rfl rfl ?_
  refine x_iald (pc' := 25) (N := 18) (x := 0) rfl rfl rfl (z_N_20_0 e) (io_in (p := 16) (N := 18) (by decide) (by decide)) (Eq.trans (congrArg (sA t 20 0) (nn_io (p := 16) (by decide))) (z_A_20_0_16 e)) ?_
  refine x_goto (pc' := 29) rfl rfl ?_
  refine x_reti rfl rfl ?_
  refine sK_i (pc' := 85) rfl ?_
  refine x_imul (pc' := 86) (z := 0) rfl rfl (by decide) ?_
  refine x_isub (pc' := 87) (z := 0) rfl rfl (by decide) ?_
  refine x_istore (pc' := 89) (ls' := [_, _, _, _, _, _, _, _, _, _, _]) rfl rfl rfl rfl ?_
  refine x_iinc (pc' := 92) (y := 2) (ls' := [_, _, _, _, _, _, _, _, _, _, _]) rfl rfl rfl rfl rfl ?_
  refine x_goto (pc' := 29) rfl rfl ?_
  refine x_iload (pc' := 31) rfl rfl rfl ?_
  refine x_iload (pc' := 33) rfl rfl rfl ?_
  refine x_icmp (a' := 95) (pc' := 36) (z := false) rfl rfl rfl (by decide) (fun h => by cases h) (fun _ => ?_)
  refine x_aload (pc' := 38) rfl rfl rfl rfl rfl ?_
  refine x_iload (pc' := 40) rfl rfl rfl ?_
  refine x_aald (pc' := 41) (N := 3) (k' := 2) (r := (some 2)) rfl rfl rfl (z_N_25_0 e) (io_in (p := 2) (N := 3) (by decide) (by decide)) (Eq.trans (congrArg (sE t 25 0) (nn_io (p := 2) (by decide))) (z_E_25_0_2 e)) ?_
  refine x_astore (pc' := 43) (ls' := [_, _, _, _, _, _, _, _, _, _, _]) rfl rfl rfl rfl rfl ?_
  refine x_aload_n (pc' := 44) rfl rfl rfl rfl rfl ?_
  refine x_aload (pc' := 46) rfl rfl rfl rfl rfl ?_
  refine x_cv (ls0 := [_, _, sJk]) (rest := []) rfl rfl rfl rfl rfl ?_
  refine x_aload_n (pc' := 1) rfl rfl rfl rfl rfl ?_
  refine x_gI (pc' := 4) (x := 2) rfl rfl rfl (z_I_128_2 e) ?_
  refine x_istore_n (pc' := 5) (ls' := [_, _, _]) rfl rfl rfl rfl ?_
  refine x_iload_n (pc' := 6) rfl rfl rfl ?_
  refine x_if (a' := 27) (pc' := 9) (z := false) rfl rfl rfl (by decide) (fun h => by cases h) (fun _ => ?_)
  refine x_iload_n (pc' := 10) rfl rfl rfl ?_
  refine x_aload_n (pc' := 11) rfl rfl rfl rfl rfl ?_
  refine x_gR (pc' := 14) (r := (some (m + 1))) rfl rfl rfl (kMp (Cn_e e) hm).1 ?_
  refine x_alen (pc' := 15) (N := 3) rfl rfl rfl (kMp (Cn_e e) hm).2.1 (?_ : X _ _ _ (.inl 3 :: _) _ _)
  refine x_icmp (a' := 27) (pc' := 18) (z := false) rfl rfl rfl (by decide) (fun h => by cases h) (fun _ => ?_)
  refine x_aload_n (pc' := 19) rfl rfl rfl rfl rfl ?_
  refine x_gR (pc' := 22) (r := (some (m + 1))) rfl rfl rfl (kMp (Cn_e e) hm).1 ?_
  refine x_iload_n (pc' := 23) rfl rfl rfl ?_
  refine x_iald (pc' := 24) (N := 3) (x := 0) rfl rfl rfl (kMp (Cn_e e) hm).2.1 (io_in (p := 2) (N := 3) (by decide) (by decide)) (Eq.trans (congrArg (sA t 20 (m + 1)) (nn_io (p := 2) (by decide))) (z_A_20_yy e _ _)) ?_
  refine x_goto (pc' := 28) rfl rfl ?_
  refine x_reti rfl rfl ?_
  refine sK_i (pc' := 49) rfl ?_
  refine x_istore (pc' := 51) (ls' := [_, _, _, _, _, _, _, _, _, _, _]) rfl rfl rfl rfl ?_
  refine x_iload (pc' := 53) rfl rfl rfl ?_
  refine x_aload_n (pc' := 54) rfl rfl rfl rfl rfl ?_
  refine x_ifnonnull (a' := 61) (pc' := 57) rfl rfl rfl rfl (fun i h => by cases h) (fun _ => ?_)
  refine x_iconst (pc' := 58) rfl rfl ?_
  refine x_goto (pc' := 67) rfl rfl ?_
  refine x_iadd (pc' := 68) (z := 0) rfl rfl (by decide) ?_
  refine x_istore (pc' := 70) (ls' := [_, _, _, _, _, _, _, _, _, _, _]) rfl rfl rfl rfl ?_
  refine x_iload (pc' := 72) rfl rfl rfl ?_
  refine x_iload (pc' := 74) rfl rfl rfl ?_
  refine x_aload_n (pc' := 75) rfl rfl rfl rfl rfl ?_
  refine x_iload (pc' := 77) rfl rfl rfl ?_
  refine x_aload (pc' := 79) rfl rfl rfl rfl rfl ?_
  refine x_gI (pc' := 82) (x := 2) rfl rfl rfl (z_I_128_2 e) ?_
  refine x_cv (ls0 := [_, _, _, sJk]) (rest := [_, _]) rfl rfl rfl rfl rfl ?_
  refine x_iload_n (pc' := 1) rfl rfl rfl ?_
  refine x_iconst (pc' := 2) rfl rfl ?_
  refine x_imul (pc' := 3) (z := 15) rfl rfl (by decide) ?_
  refine x_iload_n (pc' := 4) rfl rfl rfl ?_
  refine x_iadd (pc' := 5) (z := 17) rfl rfl (by decide) ?_
  refine x_istore_n (pc' := 6) (ls' := [_, _, _, _]) rfl rfl rfl rfl ?_
  refine x_iload_n (pc' := 7) rfl rfl rfl ?_
  refine x_if (a' := 28) (pc' := 10) (z := false) rfl rfl rfl (by decide) (fun h => by cases h) (fun _ => ?_)
  refine x_iload_n (pc' := 11) rfl rfl rfl ?_
  refine x_aload_n (pc' := 12) rfl rfl rfl rfl rfl ?_
  refine x_gR (pc' := 15) (r := (some 0)) rfl rfl rfl (z_R_323_0 e) ?_
  refine x_alen (pc' := 16) (N := 18) rfl rfl rfl (z_N_20_0 e) (?_ : X _ _ _ (.inl 18 :: _) _ _)
  refine x_icmp (a' := 28) (pc' := 19) (z := false) rfl rfl rfl (by decide) (fun h => by cases h) (fun _ => ?_)
  refine x_aload_n (pc' := 20) rfl rfl rfl rfl rfl ?_
  refine x_gR (pc' := 23) (r := (some 0)) rfl rfl rfl (z_R_323_0 e) ?_
  refine x_iload_n (pc' := 24) rfl rfl rfl ?_
  refine x_iald (pc' := 25) (N := 18) (x := 0) rfl rfl rfl (z_N_20_0 e) (io_in (p := 17) (N := 18) (by decide) (by decide)) (Eq.trans (congrArg (sA t 20 0) (nn_io (p := 17) (by decide))) (z_A_20_0_17 e)) ?_
  refine x_goto (pc' := 29) rfl rfl ?_
  refine x_reti rfl rfl ?_
  refine sK_i (pc' := 85) rfl ?_
  refine x_imul (pc' := 86) (z := 0) rfl rfl (by decide) ?_
  refine x_isub (pc' := 87) (z := 0) rfl rfl (by decide) ?_
  refine x_istore (pc' := 89) (ls' := [_, _, _, _, _, _, _, _, _, _, _]) rfl rfl rfl rfl ?_
  refine x_iinc (pc' := 92) (y := 3) (ls' := [_, _, _, _, _, _, _, _, _, _, _]) rfl rfl rfl rfl rfl ?_
  refine x_goto (pc' := 29) rfl rfl ?_
  refine x_iload (pc' := 31) rfl rfl rfl ?_
  refine x_iload (pc' := 33) rfl rfl rfl ?_
  refine x_icmp (a' := 95) (pc' := 36) (z := true) rfl rfl rfl (by decide) (fun _ => ?_) (fun h => by cases h)
  refine x_iload_n (pc' := 96) rfl rfl rfl ?_
  refine x_iload (pc' := 98) rfl rfl rfl ?_
  refine x_max (pc' := 101) (z := 0) rfl rfl rfl (by decide) ?_
  refine x_istore_n (pc' := 102) (ls' := [_, _, _, _, _, _, _, _, _, _, _]) rfl rfl rfl rfl ?_
  refine x_iinc (pc' := 105) (y := 6) (ls' := [_, _, _, _, _, _, _, _, _, _, _]) rfl rfl rfl rfl rfl ?_
  refine x_goto (pc' := 5) rfl rfl ?_
  refine x_iload (pc' := 7) rfl rfl rfl ?_
  refine x_bipush (pc' := 9) rfl rfl ?_
  refine x_icmp (a' := 108) (pc' := 12) (z := true) rfl rfl rfl (by decide) (fun _ => ?_) (fun h => by cases h)
  refine x_iload_n (pc' := 109) rfl rfl rfl ?_
  refine x_reti rfl rfl ?_
  refine sK_i (pc' := 30) rfl ?_
  refine x_icmp (a' := 37) (pc' := 33) (z := true) rfl rfl rfl (by decide) (fun _ => ?_) (fun h => by cases h)
  refine x_iconst (pc' := 38) rfl rfl ?_
  refine x_cs (ls0 := [_]) (rest := []) rfl rfl rfl rfl ?_
  refine x_iload_n (pc' := 1) rfl rfl rfl ?_
  refine x_if (a' := 15) (pc' := 4) (z := false) rfl rfl rfl (by decide) (fun h => by cases h) (fun _ => ?_)
  refine x_throw rfl rfl ?_
  refine sK_n (by decide +kernel) rfl ?_
  refine sK_h (h := 15) (by decide +kernel) rfl ?_
  refine x_catch_n (pc' := 16) (ls' := [_, _, _, _]) rfl rfl rfl rfl ?_
  refine x_iconst (pc' := 17) rfl rfl ?_
  refine x_reti rfl rfl ?_
  refine sK_i (pc' := 1566) rfl ?_
  refine x_istore (pc' := 1568) (ls' := [_, _, _, _, _, _, _]) rfl rfl rfl rfl ?_
  refine x_aload_n (pc' := 1569) rfl rfl rfl rfl rfl ?_
  refine x_aload_n (pc' := 1570) rfl rfl rfl rfl rfl ?_
  refine x_iload (pc' := 1572) rfl rfl rfl ?_
  refine x_iconst (pc' := 1573) rfl rfl ?_
  refine x_iadd (pc' := 1574) (z := 1) rfl rfl (by decide) ?_
  refine x_iald (pc' := 1575) (N := 7) (x := (io m)) rfl rfl rfl (Eq.trans rdNthr (z_N_29_0 e)) (io_in (p := 1) (N := 7) (by decide) (by decide)) (Eq.trans (congrArg (sA (sThr t) 29 0) (nn_io (p := 1) (by decide))) (Eq.trans rdAthr (Eq.trans (z_A_29_0_1 e) e0))) ?_
  refine x_cv (ls0 := [_, _, sJk, sJk, sJk, sJk]) (rest := []) rfl rfl rfl rfl rfl ?_
  refine x_iload_n (pc' := 1) rfl rfl rfl ?_
  refine x_cs (ls0 := [_]) (rest := []) rfl rfl rfl rfl ?_
  refine x_iload_n (pc' := 1) rfl rfl rfl ?_
  refine x_iconst (pc' := 2) rfl rfl ?_
  refine x_iconst (pc' := 3) rfl rfl ?_
  refine x_cs (ls0 := [_, _, _]) (rest := []) rfl rfl rfl rfl ?_
  refine x_iload_n (pc' := 1) rfl rfl rfl ?_
  refine x_iload_n (pc' := 2) rfl rfl rfl ?_
  refine x_icmp (a' := 14) (pc' := 5) (z := decide (m < 0)) rfl rfl rfl (ic_lt (p := m) (q := 0) (Nat.lt_trans hm (by decide)) (by decide)) (fun h => absurd (of_decide_eq_true h) (by first | decide | omega | simp)) (fun _ => ?_)
  refine x_iload_n (pc' := 6) rfl rfl rfl ?_
  refine x_iload_n (pc' := 7) rfl rfl rfl ?_
  refine x_icmp (a' := 14) (pc' := 10) (z := decide (5 < m)) rfl rfl rfl (ic_gt (p := m) (q := 5) (Nat.lt_trans hm (by decide)) (by decide)) (fun h => absurd (of_decide_eq_true h) (fun z => absurd hm (Nat.not_lt.mpr z))) (fun _ => ?_)
  refine x_iconst (pc' := 11) rfl rfl ?_
  refine x_goto (pc' := 15) rfl rfl ?_
  refine x_retz (z := true) rfl rfl ?_
  refine sK_i (pc' := 6) rfl ?_
  refine x_retz (z := true) rfl rfl ?_
  refine sK_i (pc' := 4) rfl ?_
  refine x_istore_n (pc' := 5) (ls' := [_, _, _, _, _, _]) rfl rfl rfl rfl ?_
  refine x_aload_n (pc' := 6) rfl rfl rfl rfl rfl ?_
  refine x_iload_n (pc' := 7) rfl rfl rfl ?_
  refine x_if (a' := 14) (pc' := 10) (z := true) rfl rfl rfl (by decide) (fun _ => ?_) (fun h => by cases h)
  refine x_aload_n (pc' := 15) rfl rfl rfl rfl rfl ?_
  refine x_gR (pc' := 18) (r := (some 2)) rfl rfl rfl (Eq.trans rdRthr (z_R_781_0 e)) ?_
  refine x_iload_n (pc' := 19) rfl rfl rfl ?_
  refine x_bald (pc' := 20) (N := 6) (z := false) rfl rfl (Eq.trans rdNthr (z_N_22_2 e)) (io_in (p := m) (N := 6) hm (by decide)) (Eq.trans (congrArg (sB (sThr t) 22 2) (nn_io (p := m) (Nat.lt_trans hm (by decide)))) (Eq.trans rdBthr (z_B_22_2_y e _))) ?_
  refine x_if (a' := 36) (pc' := 23) (z := false) rfl rfl rfl (by decide) (fun h => by cases h) (fun _ => ?_)
  refine x_aload_n (pc' := 24) rfl rfl rfl rfl rfl ?_
  refine x_iload_n (pc' := 25) rfl rfl rfl ?_
  refine x_cv (ls0 := [_, _, sJk, sJk]) (rest := [_]) rfl rfl rfl rfl rfl ?_
  refine x_aload_n (pc' := 1) rfl rfl rfl rfl rfl ?_
  refine x_gR (pc' := 4) (r := (some 4)) rfl rfl rfl (Eq.trans rdRthr (z_R_774_0 e)) ?_
  refine x_iload_n (pc' := 5) rfl rfl rfl ?_
  refine x_iald (pc' := 6) (N := 6) (x := 0) rfl rfl rfl (Eq.trans rdNthr (z_N_21_4 e)) (io_in (p := m) (N := 6) hm (by decide)) (Eq.trans (congrArg (sA (sThr t) 21 4) (nn_io (p := m) (Nat.lt_trans hm (by decide)))) (Eq.trans rdAthr (z_A_21_4_y e _))) ?_
  refine x_aload_n (pc' := 7) rfl rfl rfl rfl rfl ?_
  refine x_gR (pc' := 10) (r := (some 5)) rfl rfl rfl (Eq.trans rdRthr (z_R_775_0 e)) ?_
  refine x_iload_n (pc' := 11) rfl rfl rfl ?_
  refine x_iald (pc' := 12) (N := 6) (x := 0) rfl rfl rfl (Eq.trans rdNthr (z_N_21_5 e)) (io_in (p := m) (N := 6) hm (by decide)) (Eq.trans (congrArg (sA (sThr t) 21 5) (nn_io (p := m) (Nat.lt_trans hm (by decide)))) (Eq.trans rdAthr (z_A_21_5_y e _))) ?_
  refine x_iadd (pc' := 13) (z := 0) rfl rfl (by decide) ?_
  refine x_istore_n (pc' := 14) (ls' := [_, _, _, _]) rfl rfl rfl rfl ?_
  refine x_iconst (pc' := 15) rfl rfl ?_
  refine x_istore_n (pc' := 16) (ls' := [_, _, _, _]) rfl rfl rfl rfl ?_
  refine x_iload_n (pc' := 17) rfl rfl rfl ?_
  refine x_iconst (pc' := 18) rfl rfl ?_
  refine x_icmp (a' := 47) (pc' := 21) (z := false) rfl rfl rfl (by decide) (fun h => by cases h) (fun _ => ?_)
  refine x_iload_n (pc' := 22) rfl rfl rfl ?_
  refine x_aload_n (pc' := 23) rfl rfl rfl rfl rfl ?_
  refine x_gR (pc' := 26) (r := (some 6)) rfl rfl rfl (Eq.trans rdRthr (z_R_776_0 e)) ?_
  refine x_iconst (pc' := 27) rfl rfl ?_
  refine x_iload_n (pc' := 28) rfl rfl rfl ?_
  refine x_imul (pc' := 29) (z := (io (3 * m))) rfl rfl (io_mul 3 m) ?_
  refine x_iload_n (pc' := 30) rfl rfl rfl ?_
  refine x_iadd (pc' := 31) (z := (io ((3 * m) + 0))) rfl rfl (io_add (3 * m) 0) ?_
  refine x_iald (pc' := 32) (N := 18) (x := 0) rfl rfl rfl (Eq.trans rdNthr (z_N_21_6 e)) (io_in (p := ((3 * m) + 0)) (N := 18) (show ((3 * m) + 0) < 18 by omega) (by decide)) (Eq.trans (congrArg (sA (sThr t) 21 6) (nn_io (p := ((3 * m) + 0)) (Nat.lt_trans (show ((3 * m) + 0) < 18 by omega) (by decide)))) (Eq.trans rdAthr (z_A_21_6_y e _))) ?_
  refine x_aload_n (pc' := 33) rfl rfl rfl rfl rfl ?_
  refine x_gR (pc' := 36) (r := (some 1)) rfl rfl rfl (Eq.trans rdRthr (z_R_771_0 e)) ?_
  refine x_iload_n (pc' := 37) rfl rfl rfl ?_
  refine x_iald (pc' := 38) (N := 3) (x := 100) rfl rfl rfl (Eq.trans rdNthr (z_N_21_1 e)) (io_in (p := 0) (N := 3) (by decide) (by decide)) (Eq.trans (congrArg (sA (sThr t) 21 1) (nn_io (p := 0) (by decide))) (Eq.trans rdAthr (z_A_21_1_0 e))) ?_
  refine x_imul (pc' := 39) (z := 0) rfl rfl (by decide) ?_
  refine x_iadd (pc' := 40) (z := 0) rfl rfl (by decide) ?_
  refine x_istore_n (pc' := 41) (ls' := [_, _, _, _]) rfl rfl rfl rfl ?_
  refine x_iinc (pc' := 44) (y := 1) (ls' := [_, _, _, _]) rfl rfl rfl rfl rfl ?_
  refine x_goto (pc' := 16) rfl rfl ?_
  refine x_iload_n (pc' := 17) rfl rfl rfl ?_
  refine x_iconst (pc' := 18) rfl rfl ?_
  refine x_icmp (a' := 47) (pc' := 21) (z := false) rfl rfl rfl (by decide) (fun h => by cases h) (fun _ => ?_)
  refine x_iload_n (pc' := 22) rfl rfl rfl ?_
  refine x_aload_n (pc' := 23) rfl rfl rfl rfl rfl ?_
  refine x_gR (pc' := 26) (r := (some 6)) rfl rfl rfl (Eq.trans rdRthr (z_R_776_0 e)) ?_
  refine x_iconst (pc' := 27) rfl rfl ?_
  refine x_iload_n (pc' := 28) rfl rfl rfl ?_
  refine x_imul (pc' := 29) (z := (io (3 * m))) rfl rfl (io_mul 3 m) ?_
  refine x_iload_n (pc' := 30) rfl rfl rfl ?_
  refine x_iadd (pc' := 31) (z := (io ((3 * m) + 1))) rfl rfl (io_add (3 * m) 1) ?_
  refine x_iald (pc' := 32) (N := 18) (x := 0) rfl rfl rfl (Eq.trans rdNthr (z_N_21_6 e)) (io_in (p := ((3 * m) + 1)) (N := 18) (show ((3 * m) + 1) < 18 by omega) (by decide)) (Eq.trans (congrArg (sA (sThr t) 21 6) (nn_io (p := ((3 * m) + 1)) (Nat.lt_trans (show ((3 * m) + 1) < 18 by omega) (by decide)))) (Eq.trans rdAthr (z_A_21_6_y e _))) ?_
  refine x_aload_n (pc' := 33) rfl rfl rfl rfl rfl ?_
  refine x_gR (pc' := 36) (r := (some 1)) rfl rfl rfl (Eq.trans rdRthr (z_R_771_0 e)) ?_
  refine x_iload_n (pc' := 37) rfl rfl rfl ?_
  refine x_iald (pc' := 38) (N := 3) (x := 100) rfl rfl rfl (Eq.trans rdNthr (z_N_21_1 e)) (io_in (p := 1) (N := 3) (by decide) (by decide)) (Eq.trans (congrArg (sA (sThr t) 21 1) (nn_io (p := 1) (by decide))) (Eq.trans rdAthr (z_A_21_1_1 e))) ?_
  refine x_imul (pc' := 39) (z := 0) rfl rfl (by decide) ?_
  refine x_iadd (pc' := 40) (z := 0) rfl rfl (by decide) ?_
  refine x_istore_n (pc' := 41) (ls' := [_, _, _, _]) rfl rfl rfl rfl ?_
  refine x_iinc (pc' := 44) (y := 2) (ls' := [_, _, _, _]) rfl rfl rfl rfl rfl ?_
  refine x_goto (pc' := 16) rfl rfl ?_
  refine x_iload_n (pc' := 17) rfl rfl rfl ?_
  refine x_iconst (pc' := 18) rfl rfl ?_
  refine x_icmp (a' := 47) (pc' := 21) (z := false) rfl rfl rfl (by decide) (fun h => by cases h) (fun _ => ?_)
  refine x_iload_n (pc' := 22) rfl rfl rfl ?_
  refine x_aload_n (pc' := 23) rfl rfl rfl rfl rfl ?_
  refine x_gR (pc' := 26) (r := (some 6)) rfl rfl rfl (Eq.trans rdRthr (z_R_776_0 e)) ?_
  refine x_iconst (pc' := 27) rfl rfl ?_
  refine x_iload_n (pc' := 28) rfl rfl rfl ?_
  refine x_imul (pc' := 29) (z := (io (3 * m))) rfl rfl (io_mul 3 m) ?_
  refine x_iload_n (pc' := 30) rfl rfl rfl ?_
  refine x_iadd (pc' := 31) (z := (io ((3 * m) + 2))) rfl rfl (io_add (3 * m) 2) ?_
  refine x_iald (pc' := 32) (N := 18) (x := 0) rfl rfl rfl (Eq.trans rdNthr (z_N_21_6 e)) (io_in (p := ((3 * m) + 2)) (N := 18) (show ((3 * m) + 2) < 18 by omega) (by decide)) (Eq.trans (congrArg (sA (sThr t) 21 6) (nn_io (p := ((3 * m) + 2)) (Nat.lt_trans (show ((3 * m) + 2) < 18 by omega) (by decide)))) (Eq.trans rdAthr (z_A_21_6_y e _))) ?_
  refine x_aload_n (pc' := 33) rfl rfl rfl rfl rfl ?_
  refine x_gR (pc' := 36) (r := (some 1)) rfl rfl rfl (Eq.trans rdRthr (z_R_771_0 e)) ?_
  refine x_iload_n (pc' := 37) rfl rfl rfl ?_
  refine x_iald (pc' := 38) (N := 3) (x := 100) rfl rfl rfl (Eq.trans rdNthr (z_N_21_1 e)) (io_in (p := 2) (N := 3) (by decide) (by decide)) (Eq.trans (congrArg (sA (sThr t) 21 1) (nn_io (p := 2) (by decide))) (Eq.trans rdAthr (z_A_21_1_2 e))) ?_
  refine x_imul (pc' := 39) (z := 0) rfl rfl (by decide) ?_
  refine x_iadd (pc' := 40) (z := 0) rfl rfl (by decide) ?_
  refine x_istore_n (pc' := 41) (ls' := [_, _, _, _]) rfl rfl rfl rfl ?_
  refine x_iinc (pc' := 44) (y := 3) (ls' := [_, _, _, _]) rfl rfl rfl rfl rfl ?_
  refine x_goto (pc' := 16) rfl rfl ?_
  refine x_iload_n (pc' := 17) rfl rfl rfl ?_
  refine x_iconst (pc' := 18) rfl rfl ?_
  refine x_icmp (a' := 47) (pc' := 21) (z := true) rfl rfl rfl (by decide) (fun _ => ?_) (fun h => by cases h)
  refine x_iload_n (pc' := 48) rfl rfl rfl ?_
  refine x_reti rfl rfl ?_
  refine sK_i (pc' := 28) rfl ?_
  refine x_aload_n (pc' := 29) rfl rfl rfl rfl rfl ?_
  refine x_iload_n (pc' := 30) rfl rfl rfl ?_
  refine x_cv (ls0 := [_, _]) (rest := [_, _]) rfl rfl rfl rfl rfl ?_
  refine x_aload_n (pc' := 1) rfl rfl rfl rfl rfl ?_
  refine x_aload_n (pc' := 2) rfl rfl rfl rfl rfl ?_
  refine x_gR (pc' := 5) (r := (some 6)) rfl rfl rfl (Eq.trans rdRthr (z_R_776_0 e)) ?_
  refine x_iconst (pc' := 6) rfl rfl ?_
  refine x_iload_n (pc' := 7) rfl rfl rfl ?_
  refine x_imul (pc' := 8) (z := (io (3 * m))) rfl rfl (io_mul 3 m) ?_
  refine x_iald (pc' := 9) (N := 18) (x := 0) rfl rfl rfl (Eq.trans rdNthr (z_N_21_6 e)) (io_in (p := (3 * m)) (N := 18) (show (3 * m) < 18 by omega) (by decide)) (Eq.trans (congrArg (sA (sThr t) 21 6) (nn_io (p := (3 * m)) (Nat.lt_trans (show (3 * m) < 18 by omega) (by decide)))) (Eq.trans rdAthr (z_A_21_6_y e _))) ?_
  refine x_aload_n (pc' := 10) rfl rfl rfl rfl rfl ?_
  refine x_gR (pc' := 13) (r := (some 6)) rfl rfl rfl (Eq.trans rdRthr (z_R_776_0 e)) ?_
  refine x_iconst (pc' := 14) rfl rfl ?_
  refine x_iload_n (pc' := 15) rfl rfl rfl ?_
  refine x_imul (pc' := 16) (z := (io (3 * m))) rfl rfl (io_mul 3 m) ?_
  refine x_iconst (pc' := 17) rfl rfl ?_
  refine x_iadd (pc' := 18) (z := (io ((3 * m) + 1))) rfl rfl (io_add (3 * m) 1) ?_
  refine x_iald (pc' := 19) (N := 18) (x := 0) rfl rfl rfl (Eq.trans rdNthr (z_N_21_6 e)) (io_in (p := ((3 * m) + 1)) (N := 18) (show ((3 * m) + 1) < 18 by omega) (by decide)) (Eq.trans (congrArg (sA (sThr t) 21 6) (nn_io (p := ((3 * m) + 1)) (Nat.lt_trans (show ((3 * m) + 1) < 18 by omega) (by decide)))) (Eq.trans rdAthr (z_A_21_6_y e _))) ?_
  refine x_aload_n (pc' := 20) rfl rfl rfl rfl rfl ?_
  refine x_gR (pc' := 23) (r := (some 6)) rfl rfl rfl (Eq.trans rdRthr (z_R_776_0 e)) ?_
  refine x_iconst (pc' := 24) rfl rfl ?_
  refine x_iload_n (pc' := 25) rfl rfl rfl ?_
  refine x_imul (pc' := 26) (z := (io (3 * m))) rfl rfl (io_mul 3 m) ?_
  refine x_iconst (pc' := 27) rfl rfl ?_
  refine x_iadd (pc' := 28) (z := (io ((3 * m) + 2))) rfl rfl (io_add (3 * m) 2) ?_
  refine x_iald (pc' := 29) (N := 18) (x := 0) rfl rfl rfl (Eq.trans rdNthr (z_N_21_6 e)) (io_in (p := ((3 * m) + 2)) (N := 18) (show ((3 * m) + 2) < 18 by omega) (by decide)) (Eq.trans (congrArg (sA (sThr t) 21 6) (nn_io (p := ((3 * m) + 2)) (Nat.lt_trans (show ((3 * m) + 2) < 18 by omega) (by decide)))) (Eq.trans rdAthr (z_A_21_6_y e _))) ?_
  refine x_cv (ls0 := [_, _, _, _, sJk, sJk, sJk]) (rest := []) rfl rfl rfl rfl rfl ?_
  refine x_iconst (pc' := 1) rfl rfl ?_
  refine x_istore (pc' := 3) (ls' := [_, _, _, _, _, _, _]) rfl rfl rfl rfl ?_
  refine x_iconst (pc' := 4) rfl rfl ?_
  refine x_istore (pc' := 6) (ls' := [_, _, _, _, _, _, _]) rfl rfl rfl rfl ?_
  refine x_iload (pc' := 8) rfl rfl rfl ?_
  refine x_bipush (pc' := 10) rfl rfl ?_
  refine x_icmp (a' := 77) (pc' := 13) (z := false) rfl rfl rfl (by decide) (fun h => by cases h) (fun _ => ?_)
  refine x_iload_n (pc' := 14) rfl rfl rfl ?_
  refine x_aload_n (pc' := 15) rfl rfl rfl rfl rfl ?_
  refine x_gR (pc' := 18) (r := (some 11)) rfl rfl rfl (Eq.trans rdRthr (z_R_783_0 e)) ?_
  refine x_iconst (pc' := 19) rfl rfl ?_
  refine x_iload (pc' := 21) rfl rfl rfl ?_
  refine x_imul (pc' := 22) (z := 0) rfl rfl (by decide) ?_
  refine x_iald (pc' := 23) (N := 18) (x := 0) rfl rfl rfl (Eq.trans rdNthr (z_N_21_11 e)) (io_in (p := 0) (N := 18) (by decide) (by decide)) (Eq.trans (congrArg (sA (sThr t) 21 11) (nn_io (p := 0) (by decide))) (Eq.trans rdAthr (z_A_21_11_0 e))) ?_
  refine x_imul (pc' := 24) (z := 0) rfl rfl (by decide) ?_
  refine x_iload_n (pc' := 25) rfl rfl rfl ?_
  refine x_aload_n (pc' := 26) rfl rfl rfl rfl rfl ?_
  refine x_gR (pc' := 29) (r := (some 11)) rfl rfl rfl (Eq.trans rdRthr (z_R_783_0 e)) ?_
  refine x_iconst (pc' := 30) rfl rfl ?_
  refine x_iload (pc' := 32) rfl rfl rfl ?_
  refine x_imul (pc' := 33) (z := 0) rfl rfl (by decide) ?_
  refine x_iconst (pc' := 34) rfl rfl ?_
  refine x_iadd (pc' := 35) (z := 1) rfl rfl (by decide) ?_
  refine x_iald (pc' := 36) (N := 18) (x := 0) rfl rfl rfl (Eq.trans rdNthr (z_N_21_11 e)) (io_in (p := 1) (N := 18) (by decide) (by decide)) (Eq.trans (congrArg (sA (sThr t) 21 11) (nn_io (p := 1) (by decide))) (Eq.trans rdAthr (z_A_21_11_1 e))) ?_
  refine x_imul (pc' := 37) (z := 0) rfl rfl (by decide) ?_
  refine x_iadd (pc' := 38) (z := 0) rfl rfl (by decide) ?_
  refine x_iload_n (pc' := 39) rfl rfl rfl ?_
  refine x_aload_n (pc' := 40) rfl rfl rfl rfl rfl ?_
  refine x_gR (pc' := 43) (r := (some 11)) rfl rfl rfl (Eq.trans rdRthr (z_R_783_0 e)) ?_
  refine x_iconst (pc' := 44) rfl rfl ?_
  refine x_iload (pc' := 46) rfl rfl rfl ?_
  refine x_imul (pc' := 47) (z := 0) rfl rfl (by decide) ?_
  refine x_iconst (pc' := 48) rfl rfl ?_
  refine x_iadd (pc' := 49) (z := 2) rfl rfl (by decide) ?_
  refine x_iald (pc' := 50) (N := 18) (x := 0) rfl rfl rfl (Eq.trans rdNthr (z_N_21_11 e)) (io_in (p := 2) (N := 18) (by decide) (by decide)) (Eq.trans (congrArg (sA (sThr t) 21 11) (nn_io (p := 2) (by decide))) (Eq.trans rdAthr (z_A_21_11_2 e))) ?_
  refine x_imul (pc' := 51) (z := 0) rfl rfl (by decide) ?_
  refine x_iadd (pc' := 52) (z := 0) rfl rfl (by decide) ?_
  refine x_ineg (pc' := 53) (z := 0) rfl rfl (by decide) ?_
  refine x_istore (pc' := 55) (ls' := [_, _, _, _, _, _, _]) rfl rfl rfl rfl ?_
  refine x_iload (pc' := 57) rfl rfl rfl ?_
  refine x_iload (pc' := 59) rfl rfl rfl ?_
  refine x_icmp (a' := 67) (pc' := 62) (z := true) rfl rfl rfl (by decide) (fun _ => ?_) (fun h => by cases h)
  refine x_iload (pc' := 69) rfl rfl rfl ?_
  refine x_istore (pc' := 71) (ls' := [_, _, _, _, _, _, _]) rfl rfl rfl rfl ?_
  refine x_iinc (pc' := 74) (y := 1) (ls' := [_, _, _, _, _, _, _]) rfl rfl rfl rfl rfl ?_
  refine x_goto (pc' := 6) rfl rfl ?_
  refine x_iload (pc' := 8) rfl rfl rfl ?_
  refine x_bipush (pc' := 10) rfl rfl ?_
  refine x_icmp (a' := 77) (pc' := 13) (z := false) rfl rfl rfl (by decide) (fun h => by cases h) (fun _ => ?_)
  refine x_iload_n (pc' := 14) rfl rfl rfl ?_
  refine x_aload_n (pc' := 15) rfl rfl rfl rfl rfl ?_
  refine x_gR (pc' := 18) (r := (some 11)) rfl rfl rfl (Eq.trans rdRthr (z_R_783_0 e)) ?_
  refine x_iconst (pc' := 19) rfl rfl ?_
  refine x_iload (pc' := 21) rfl rfl rfl ?_
  refine x_imul (pc' := 22) (z := 3) rfl rfl (by decide) ?_
  refine x_iald (pc' := 23) (N := 18) (x := 0) rfl rfl rfl (Eq.trans rdNthr (z_N_21_11 e)) (io_in (p := 3) (N := 18) (by decide) (by decide)) (Eq.trans (congrArg (sA (sThr t) 21 11) (nn_io (p := 3) (by decide))) (Eq.trans rdAthr (z_A_21_11_3 e))) ?_
  refine x_imul (pc' := 24) (z := 0) rfl rfl (by decide) ?_
  refine x_iload_n (pc' := 25) rfl rfl rfl ?_
  refine x_aload_n (pc' := 26) rfl rfl rfl rfl rfl ?_
  refine x_gR (pc' := 29) (r := (some 11)) rfl rfl rfl (Eq.trans rdRthr (z_R_783_0 e)) ?_
  refine x_iconst (pc' := 30) rfl rfl ?_
  refine x_iload (pc' := 32) rfl rfl rfl ?_
  refine x_imul (pc' := 33) (z := 3) rfl rfl (by decide) ?_
  refine x_iconst (pc' := 34) rfl rfl ?_
  refine x_iadd (pc' := 35) (z := 4) rfl rfl (by decide) ?_
  refine x_iald (pc' := 36) (N := 18) (x := 0) rfl rfl rfl (Eq.trans rdNthr (z_N_21_11 e)) (io_in (p := 4) (N := 18) (by decide) (by decide)) (Eq.trans (congrArg (sA (sThr t) 21 11) (nn_io (p := 4) (by decide))) (Eq.trans rdAthr (z_A_21_11_4 e))) ?_
  refine x_imul (pc' := 37) (z := 0) rfl rfl (by decide) ?_
  refine x_iadd (pc' := 38) (z := 0) rfl rfl (by decide) ?_
  refine x_iload_n (pc' := 39) rfl rfl rfl ?_
  refine x_aload_n (pc' := 40) rfl rfl rfl rfl rfl ?_
  refine x_gR (pc' := 43) (r := (some 11)) rfl rfl rfl (Eq.trans rdRthr (z_R_783_0 e)) ?_
  refine x_iconst (pc' := 44) rfl rfl ?_
  refine x_iload (pc' := 46) rfl rfl rfl ?_
  refine x_imul (pc' := 47) (z := 3) rfl rfl (by decide) ?_
  refine x_iconst (pc' := 48) rfl rfl ?_
  refine x_iadd (pc' := 49) (z := 5) rfl rfl (by decide) ?_
  refine x_iald (pc' := 50) (N := 18) (x := 0) rfl rfl rfl (Eq.trans rdNthr (z_N_21_11 e)) (io_in (p := 5) (N := 18) (by decide) (by decide)) (Eq.trans (congrArg (sA (sThr t) 21 11) (nn_io (p := 5) (by decide))) (Eq.trans rdAthr (z_A_21_11_5 e))) ?_
  refine x_imul (pc' := 51) (z := 0) rfl rfl (by decide) ?_
  refine x_iadd (pc' := 52) (z := 0) rfl rfl (by decide) ?_
  refine x_ineg (pc' := 53) (z := 0) rfl rfl (by decide) ?_
  refine x_istore (pc' := 55) (ls' := [_, _, _, _, _, _, _]) rfl rfl rfl rfl ?_
  refine x_iload (pc' := 57) rfl rfl rfl ?_
  refine x_iload (pc' := 59) rfl rfl rfl ?_
  refine x_icmp (a' := 67) (pc' := 62) (z := true) rfl rfl rfl (by decide) (fun _ => ?_) (fun h => by cases h)
  refine x_iload (pc' := 69) rfl rfl rfl ?_
  refine x_istore (pc' := 71) (ls' := [_, _, _, _, _, _, _]) rfl rfl rfl rfl ?_
  refine x_iinc (pc' := 74) (y := 2) (ls' := [_, _, _, _, _, _, _]) rfl rfl rfl rfl rfl ?_
  refine x_goto (pc' := 6) rfl rfl ?_
  refine x_iload (pc' := 8) rfl rfl rfl ?_
  refine x_bipush (pc' := 10) rfl rfl ?_
  refine x_icmp (a' := 77) (pc' := 13) (z := false) rfl rfl rfl (by decide) (fun h => by cases h) (fun _ => ?_)
  refine x_iload_n (pc' := 14) rfl rfl rfl ?_
  refine x_aload_n (pc' := 15) rfl rfl rfl rfl rfl ?_
  refine x_gR (pc' := 18) (r := (some 11)) rfl rfl rfl (Eq.trans rdRthr (z_R_783_0 e)) ?_
  refine x_iconst (pc' := 19) rfl rfl ?_
  refine x_iload (pc' := 21) rfl rfl rfl ?_
  refine x_imul (pc' := 22) (z := 6) rfl rfl (by decide) ?_
  refine x_iald (pc' := 23) (N := 18) (x := 0) rfl rfl rfl (Eq.trans rdNthr (z_N_21_11 e)) (io_in (p := 6) (N := 18) (by decide) (by decide)) (Eq.trans (congrArg (sA (sThr t) 21 11) (nn_io (p := 6) (by decide))) (Eq.trans rdAthr (z_A_21_11_6 e))) ?_
  refine x_imul (pc' := 24) (z := 0) rfl rfl (by decide) ?_
  refine x_iload_n (pc' := 25) rfl rfl rfl ?_
  refine x_aload_n (pc' := 26) rfl rfl rfl rfl rfl ?_
  refine x_gR (pc' := 29) (r := (some 11)) rfl rfl rfl (Eq.trans rdRthr (z_R_783_0 e)) ?_
  refine x_iconst (pc' := 30) rfl rfl ?_
  refine x_iload (pc' := 32) rfl rfl rfl ?_
  refine x_imul (pc' := 33) (z := 6) rfl rfl (by decide) ?_
  refine x_iconst (pc' := 34) rfl rfl ?_
  refine x_iadd (pc' := 35) (z := 7) rfl rfl (by decide) ?_
  refine x_iald (pc' := 36) (N := 18) (x := 0) rfl rfl rfl (Eq.trans rdNthr (z_N_21_11 e)) (io_in (p := 7) (N := 18) (by decide) (by decide)) (Eq.trans (congrArg (sA (sThr t) 21 11) (nn_io (p := 7) (by decide))) (Eq.trans rdAthr (z_A_21_11_7 e))) ?_
  refine x_imul (pc' := 37) (z := 0) rfl rfl (by decide) ?_
  refine x_iadd (pc' := 38) (z := 0) rfl rfl (by decide) ?_
  refine x_iload_n (pc' := 39) rfl rfl rfl ?_
  refine x_aload_n (pc' := 40) rfl rfl rfl rfl rfl ?_
  refine x_gR (pc' := 43) (r := (some 11)) rfl rfl rfl (Eq.trans rdRthr (z_R_783_0 e)) ?_
  refine x_iconst (pc' := 44) rfl rfl ?_
  refine x_iload (pc' := 46) rfl rfl rfl ?_
  refine x_imul (pc' := 47) (z := 6) rfl rfl (by decide) ?_
  refine x_iconst (pc' := 48) rfl rfl ?_
  refine x_iadd (pc' := 49) (z := 8) rfl rfl (by decide) ?_
  refine x_iald (pc' := 50) (N := 18) (x := 0) rfl rfl rfl (Eq.trans rdNthr (z_N_21_11 e)) (io_in (p := 8) (N := 18) (by decide) (by decide)) (Eq.trans (congrArg (sA (sThr t) 21 11) (nn_io (p := 8) (by decide))) (Eq.trans rdAthr (z_A_21_11_8 e))) ?_
  refine x_imul (pc' := 51) (z := 0) rfl rfl (by decide) ?_
  refine x_iadd (pc' := 52) (z := 0) rfl rfl (by decide) ?_
  refine x_ineg (pc' := 53) (z := 0) rfl rfl (by decide) ?_
  refine x_istore (pc' := 55) (ls' := [_, _, _, _, _, _, _]) rfl rfl rfl rfl ?_
  refine x_iload (pc' := 57) rfl rfl rfl ?_
  refine x_iload (pc' := 59) rfl rfl rfl ?_
  refine x_icmp (a' := 67) (pc' := 62) (z := true) rfl rfl rfl (by decide) (fun _ => ?_) (fun h => by cases h)
  refine x_iload (pc' := 69) rfl rfl rfl ?_
  refine x_istore (pc' := 71) (ls' := [_, _, _, _, _, _, _]) rfl rfl rfl rfl ?_
  refine x_iinc (pc' := 74) (y := 3) (ls' := [_, _, _, _, _, _, _]) rfl rfl rfl rfl rfl ?_
  refine x_goto (pc' := 6) rfl rfl ?_
  refine x_iload (pc' := 8) rfl rfl rfl ?_
  refine x_bipush (pc' := 10) rfl rfl ?_
  refine x_icmp (a' := 77) (pc' := 13) (z := false) rfl rfl rfl (by decide) (fun h => by cases h) (fun _ => ?_)
  refine x_iload_n (pc' := 14) rfl rfl rfl ?_
  refine x_aload_n (pc' := 15) rfl rfl rfl rfl rfl ?_
  refine x_gR (pc' := 18) (r := (some 11)) rfl rfl rfl (Eq.trans rdRthr (z_R_783_0 e)) ?_
  refine x_iconst (pc' := 19) rfl rfl ?_
  refine x_iload (pc' := 21) rfl rfl rfl ?_
  refine x_imul (pc' := 22) (z := 9) rfl rfl (by decide) ?_
  refine x_iald (pc' := 23) (N := 18) (x := 0) rfl rfl rfl (Eq.trans rdNthr (z_N_21_11 e)) (io_in (p := 9) (N := 18) (by decide) (by decide)) (Eq.trans (congrArg (sA (sThr t) 21 11) (nn_io (p := 9) (by decide))) (Eq.trans rdAthr (z_A_21_11_9 e))) ?_
  refine x_imul (pc' := 24) (z := 0) rfl rfl (by decide) ?_
  refine x_iload_n (pc' := 25) rfl rfl rfl ?_
  refine x_aload_n (pc' := 26) rfl rfl rfl rfl rfl ?_
  refine x_gR (pc' := 29) (r := (some 11)) rfl rfl rfl (Eq.trans rdRthr (z_R_783_0 e)) ?_
  refine x_iconst (pc' := 30) rfl rfl ?_
  refine x_iload (pc' := 32) rfl rfl rfl ?_
  refine x_imul (pc' := 33) (z := 9) rfl rfl (by decide) ?_
  refine x_iconst (pc' := 34) rfl rfl ?_
  refine x_iadd (pc' := 35) (z := 10) rfl rfl (by decide) ?_
  refine x_iald (pc' := 36) (N := 18) (x := 0) rfl rfl rfl (Eq.trans rdNthr (z_N_21_11 e)) (io_in (p := 10) (N := 18) (by decide) (by decide)) (Eq.trans (congrArg (sA (sThr t) 21 11) (nn_io (p := 10) (by decide))) (Eq.trans rdAthr (z_A_21_11_10 e))) ?_
  refine x_imul (pc' := 37) (z := 0) rfl rfl (by decide) ?_
  refine x_iadd (pc' := 38) (z := 0) rfl rfl (by decide) ?_
  refine x_iload_n (pc' := 39) rfl rfl rfl ?_
  refine x_aload_n (pc' := 40) rfl rfl rfl rfl rfl ?_
  refine x_gR (pc' := 43) (r := (some 11)) rfl rfl rfl (Eq.trans rdRthr (z_R_783_0 e)) ?_
  refine x_iconst (pc' := 44) rfl rfl ?_
  refine x_iload (pc' := 46) rfl rfl rfl ?_
  refine x_imul (pc' := 47) (z := 9) rfl rfl (by decide) ?_
  refine x_iconst (pc' := 48) rfl rfl ?_
  refine x_iadd (pc' := 49) (z := 11) rfl rfl (by decide) ?_
  refine x_iald (pc' := 50) (N := 18) (x := 0) rfl rfl rfl (Eq.trans rdNthr (z_N_21_11 e)) (io_in (p := 11) (N := 18) (by decide) (by decide)) (Eq.trans (congrArg (sA (sThr t) 21 11) (nn_io (p := 11) (by decide))) (Eq.trans rdAthr (z_A_21_11_11 e))) ?_
  refine x_imul (pc' := 51) (z := 0) rfl rfl (by decide) ?_
  refine x_iadd (pc' := 52) (z := 0) rfl rfl (by decide) ?_
  refine x_ineg (pc' := 53) (z := 0) rfl rfl (by decide) ?_
  refine x_istore (pc' := 55) (ls' := [_, _, _, _, _, _, _]) rfl rfl rfl rfl ?_
  refine x_iload (pc' := 57) rfl rfl rfl ?_
  refine x_iload (pc' := 59) rfl rfl rfl ?_
  refine x_icmp (a' := 67) (pc' := 62) (z := true) rfl rfl rfl (by decide) (fun _ => ?_) (fun h => by cases h)
  refine x_iload (pc' := 69) rfl rfl rfl ?_
  refine x_istore (pc' := 71) (ls' := [_, _, _, _, _, _, _]) rfl rfl rfl rfl ?_
  refine x_iinc (pc' := 74) (y := 4) (ls' := [_, _, _, _, _, _, _]) rfl rfl rfl rfl rfl ?_
  refine x_goto (pc' := 6) rfl rfl ?_
  refine x_iload (pc' := 8) rfl rfl rfl ?_
  refine x_bipush (pc' := 10) rfl rfl ?_
  refine x_icmp (a' := 77) (pc' := 13) (z := false) rfl rfl rfl (by decide) (fun h => by cases h) (fun _ => ?_)
  refine x_iload_n (pc' := 14) rfl rfl rfl ?_
  refine x_aload_n (pc' := 15) rfl rfl rfl rfl rfl ?_
  refine x_gR (pc' := 18) (r := (some 11)) rfl rfl rfl (Eq.trans rdRthr (z_R_783_0 e)) ?_
  refine x_iconst (pc' := 19) rfl rfl ?_
  refine x_iload (pc' := 21) rfl rfl rfl ?_
  refine x_imul (pc' := 22) (z := 12) rfl rfl (by decide) ?_
  refine x_iald (pc' := 23) (N := 18) (x := 0) rfl rfl rfl (Eq.trans rdNthr (z_N_21_11 e)) (io_in (p := 12) (N := 18) (by decide) (by decide)) (Eq.trans (congrArg (sA (sThr t) 21 11) (nn_io (p := 12) (by decide))) (Eq.trans rdAthr (z_A_21_11_12 e))) ?_
  refine x_imul (pc' := 24) (z := 0) rfl rfl (by decide) ?_
  refine x_iload_n (pc' := 25) rfl rfl rfl ?_
  refine x_aload_n (pc' := 26) rfl rfl rfl rfl rfl ?_
  refine x_gR (pc' := 29) (r := (some 11)) rfl rfl rfl (Eq.trans rdRthr (z_R_783_0 e)) ?_
  refine x_iconst (pc' := 30) rfl rfl ?_
  refine x_iload (pc' := 32) rfl rfl rfl ?_
  refine x_imul (pc' := 33) (z := 12) rfl rfl (by decide) ?_
  refine x_iconst (pc' := 34) rfl rfl ?_
  refine x_iadd (pc' := 35) (z := 13) rfl rfl (by decide) ?_
  refine x_iald (pc' := 36) (N := 18) (x := 0) rfl rfl rfl (Eq.trans rdNthr (z_N_21_11 e)) (io_in (p := 13) (N := 18) (by decide) (by decide)) (Eq.trans (congrArg (sA (sThr t) 21 11) (nn_io (p := 13) (by decide))) (Eq.trans rdAthr (z_A_21_11_13 e))) ?_
  refine x_imul (pc' := 37) (z := 0) rfl rfl (by decide) ?_
  refine x_iadd (pc' := 38) (z := 0) rfl rfl (by decide) ?_
  refine x_iload_n (pc' := 39) rfl rfl rfl ?_
  refine x_aload_n (pc' := 40) rfl rfl rfl rfl rfl ?_
  refine x_gR (pc' := 43) (r := (some 11)) rfl rfl rfl (Eq.trans rdRthr (z_R_783_0 e)) ?_
  refine x_iconst (pc' := 44) rfl rfl ?_
  refine x_iload (pc' := 46) rfl rfl rfl ?_
  refine x_imul (pc' := 47) (z := 12) rfl rfl (by decide) ?_
  refine x_iconst (pc' := 48) rfl rfl ?_
  refine x_iadd (pc' := 49) (z := 14) rfl rfl (by decide) ?_
  refine x_iald (pc' := 50) (N := 18) (x := 0) rfl rfl rfl (Eq.trans rdNthr (z_N_21_11 e)) (io_in (p := 14) (N := 18) (by decide) (by decide)) (Eq.trans (congrArg (sA (sThr t) 21 11) (nn_io (p := 14) (by decide))) (Eq.trans rdAthr (z_A_21_11_14 e))) ?_
  refine x_imul (pc' := 51) (z := 0) rfl rfl (by decide) ?_
  refine x_iadd (pc' := 52) (z := 0) rfl rfl (by decide) ?_
  refine x_ineg (pc' := 53) (z := 0) rfl rfl (by decide) ?_
  refine x_istore (pc' := 55) (ls' := [_, _, _, _, _, _, _]) rfl rfl rfl rfl ?_
  refine x_iload (pc' := 57) rfl rfl rfl ?_
  refine x_iload (pc' := 59) rfl rfl rfl ?_
  refine x_icmp (a' := 67) (pc' := 62) (z := true) rfl rfl rfl (by decide) (fun _ => ?_) (fun h => by cases h)
  refine x_iload (pc' := 69) rfl rfl rfl ?_
  refine x_istore (pc' := 71) (ls' := [_, _, _, _, _, _, _]) rfl rfl rfl rfl ?_
  refine x_iinc (pc' := 74) (y := 5) (ls' := [_, _, _, _, _, _, _]) rfl rfl rfl rfl rfl ?_
  refine x_goto (pc' := 6) rfl rfl ?_
  refine x_iload (pc' := 8) rfl rfl rfl ?_
  refine x_bipush (pc' := 10) rfl rfl ?_
  refine x_icmp (a' := 77) (pc' := 13) (z := false) rfl rfl rfl (by decide) (fun h => by cases h) (fun _ => ?_)
  refine x_iload_n (pc' := 14) rfl rfl rfl ?_
  refine x_aload_n (pc' := 15) rfl rfl rfl rfl rfl ?_
  refine x_gR (pc' := 18) (r := (some 11)) rfl rfl rfl (Eq.trans rdRthr (z_R_783_0 e)) ?_
  refine x_iconst (pc' := 19) rfl rfl ?_
  refine x_iload (pc' := 21) rfl rfl rfl ?_
  refine x_imul (pc' := 22) (z := 15) rfl rfl (by decide) ?_
  refine x_iald (pc' := 23) (N := 18) (x := 0) rfl rfl rfl (Eq.trans rdNthr (z_N_21_11 e)) (io_in (p := 15) (N := 18) (by decide) (by decide)) (Eq.trans (congrArg (sA (sThr t) 21 11) (nn_io (p := 15) (by decide))) (Eq.trans rdAthr (z_A_21_11_15 e))) ?_
  refine x_imul (pc' := 24) (z := 0) rfl rfl (by decide) ?_
  refine x_iload_n (pc' := 25) rfl rfl rfl ?_
  refine x_aload_n (pc' := 26) rfl rfl rfl rfl rfl ?_
  refine x_gR (pc' := 29) (r := (some 11)) rfl rfl rfl (Eq.trans rdRthr (z_R_783_0 e)) ?_
  refine x_iconst (pc' := 30) rfl rfl ?_
  refine x_iload (pc' := 32) rfl rfl rfl ?_
  refine x_imul (pc' := 33) (z := 15) rfl rfl (by decide) ?_
  refine x_iconst (pc' := 34) rfl rfl ?_
  refine x_iadd (pc' := 35) (z := 16) rfl rfl (by decide) ?_
  refine x_iald (pc' := 36) (N := 18) (x := 0) rfl rfl rfl (Eq.trans rdNthr (z_N_21_11 e)) (io_in (p := 16) (N := 18) (by decide) (by decide)) (Eq.trans (congrArg (sA (sThr t) 21 11) (nn_io (p := 16) (by decide))) (Eq.trans rdAthr (z_A_21_11_16 e))) ?_
  refine x_imul (pc' := 37) (z := 0) rfl rfl (by decide) ?_
  refine x_iadd (pc' := 38) (z := 0) rfl rfl (by decide) ?_
  refine x_iload_n (pc' := 39) rfl rfl rfl ?_
  refine x_aload_n (pc' := 40) rfl rfl rfl rfl rfl ?_
  refine x_gR (pc' := 43) (r := (some 11)) rfl rfl rfl (Eq.trans rdRthr (z_R_783_0 e)) ?_
  refine x_iconst (pc' := 44) rfl rfl ?_
  refine x_iload (pc' := 46) rfl rfl rfl ?_
  refine x_imul (pc' := 47) (z := 15) rfl rfl (by decide) ?_
  refine x_iconst (pc' := 48) rfl rfl ?_
  refine x_iadd (pc' := 49) (z := 17) rfl rfl (by decide) ?_
  refine x_iald (pc' := 50) (N := 18) (x := 0) rfl rfl rfl (Eq.trans rdNthr (z_N_21_11 e)) (io_in (p := 17) (N := 18) (by decide) (by decide)) (Eq.trans (congrArg (sA (sThr t) 21 11) (nn_io (p := 17) (by decide))) (Eq.trans rdAthr (z_A_21_11_17 e))) ?_
  refine x_imul (pc' := 51) (z := 0) rfl rfl (by decide) ?_
  refine x_iadd (pc' := 52) (z := 0) rfl rfl (by decide) ?_
  refine x_ineg (pc' := 53) (z := 0) rfl rfl (by decide) ?_
  refine x_istore (pc' := 55) (ls' := [_, _, _, _, _, _, _]) rfl rfl rfl rfl ?_
  refine x_iload (pc' := 57) rfl rfl rfl ?_
  refine x_iload (pc' := 59) rfl rfl rfl ?_
  refine x_icmp (a' := 67) (pc' := 62) (z := true) rfl rfl rfl (by decide) (fun _ => ?_) (fun h => by cases h)
  refine x_iload (pc' := 69) rfl rfl rfl ?_
  refine x_istore (pc' := 71) (ls' := [_, _, _, _, _, _, _]) rfl rfl rfl rfl ?_
  refine x_iinc (pc' := 74) (y := 6) (ls' := [_, _, _, _, _, _, _]) rfl rfl rfl rfl rfl ?_
  refine x_goto (pc' := 6) rfl rfl ?_
  refine x_iload (pc' := 8) rfl rfl rfl ?_
  refine x_bipush (pc' := 10) rfl rfl ?_
  refine x_icmp (a' := 77) (pc' := 13) (z := true) rfl rfl rfl (by decide) (fun _ => ?_) (fun h => by cases h)
  refine x_iload (pc' := 79) rfl rfl rfl ?_
  refine x_reti rfl rfl ?_
  refine sK_i (pc' := 32) rfl ?_
  refine x_reti rfl rfl ?_
  refine sK_i (pc' := 33) rfl ?_
  refine x_icmp (a' := 40) (pc' := 36) (z := false) rfl rfl rfl (by decide) (fun h => by cases h) (fun _ => ?_)
  refine x_iconst (pc' := 37) rfl rfl ?_
  refine x_goto (pc' := 41) rfl rfl ?_
  refine x_cv (ls0 := [_, _]) (rest := []) rfl rfl rfl rfl rfl ?_
  refine x_aload_n (pc' := 1) rfl rfl rfl rfl rfl ?_
  refine x_iload_n (pc' := 2) rfl rfl rfl ?_
  refine x_pI (pc' := 5) rfl rfl rfl ?_
  refine x_iload_n (pc' := 6) rfl rfl rfl ?_
  refine x_if (a' := 13) (pc' := 9) (z := true) rfl rfl rfl (by decide) (fun _ => ?_) (fun h => by cases h)
  refine x_iconst (pc' := 14) rfl rfl ?_
  refine x_retz (z := false) rfl rfl ?_
  refine sK_i (pc' := 44) rfl ?_
  refine x_if (a' := 49) (pc' := 47) (z := false) rfl rfl rfl (by decide) (fun h => by cases h) (fun _ => ?_)
  refine x_iconst (pc' := 48) rfl rfl ?_
  refine x_reti rfl rfl ?_
  refine sK_i (pc' := 1578) rfl ?_
  refine x_istore (pc' := 1580) (ls' := [_, _, _, _, _, _, _]) rfl rfl rfl rfl ?_
  refine x_aload_n (pc' := 1581) rfl rfl rfl rfl rfl ?_
  refine x_cv (ls0 := [_]) (rest := []) rfl rfl rfl rfl rfl ?_
  refine x_aload_n (pc' := 1) rfl rfl rfl rfl rfl ?_
  refine x_gI (pc' := 4) (x := 2) rfl rfl rfl sI_s ?_
  refine x_reti rfl rfl ?_
  refine sK_i (pc' := 1584) rfl ?_
  refine x_iload (pc' := 1586) rfl rfl rfl ?_
  refine x_icmp (a' := 1591) (pc' := 1589) (z := true) rfl rfl rfl (by decide) (fun _ => ?_) (fun h => by cases h)
  refine x_iload (pc' := 1593) rfl rfl rfl ?_
  refine x_if (a' := 1608) (pc' := 1596) (z := true) rfl rfl rfl (by decide) (fun _ => ?_) (fun h => by cases h)
  refine x_goto (pc' := 2938) rfl rfl ?_
  refine x_iinc (pc' := 2941) (y := 7) (ls' := [_, _, _, _, _, _, _]) rfl rfl rfl rfl rfl ?_
  refine x_goto (pc' := 23) rfl rfl ?_
  refine x_iload (pc' := 25) rfl rfl rfl ?_
  refine x_aload_n (pc' := 26) rfl rfl rfl rfl rfl ?_
  refine x_alen (pc' := 27) (N := 7) rfl rfl rfl (Eq.trans rdNI (Eq.trans rdNthr (z_N_29_0 e))) (?_ : X _ _ _ (.inl 7 :: _) _ _)
  refine x_bipush (pc' := 29) rfl rfl ?_
  refine x_isub (pc' := 30) (z := 0) rfl rfl (by decide) ?_
  refine x_icmp (a' := 2944) (pc' := 33) (z := true) rfl rfl rfl (by decide) (fun _ => ?_) (fun h => by cases h)
  refine x_iconst (pc' := 2945) rfl rfl ?_
  refine x_retz (z := true) rfl rfl ?_
  exact Qp_ok e (p := 1) (q := 6) rfl rfl rfl rfl
set_option maxHeartbeats 4000000 in
set_option maxRecDepth 10000 in
theorem v_17_A {t : sT} {xs : Nat → Int32}
    (e : t = T16 7 xs)
    (hk : ((xs 0) &&& 63) = 17)
    (e0 : (xs 1) < 0) :
    X 297 23 [.inr (.inr (29, (some 0))), .inr (.inr (11, (some 0))), .inr (.inr (12, (some 0))), .inr (.inr (23, (some 0))), .inl 0, sJk, sJk] [] t Qp := by
  refine x_iload (pc' := 25) rfl rfl rfl ?_
  refine x_aload_n (pc' := 26) rfl rfl rfl rfl rfl ?_
  refine x_alen (pc' := 27) (N := 7) rfl rfl rfl (z_N_29_0 e) (?_ : X _ _ _ (.inl 7 :: _) _ _)
  refine x_bipush (pc' := 29) rfl rfl ?_
  refine x_isub (pc' := 30) (z := 0) rfl rfl (by decide) ?_
  refine x_icmp (a' := 2944) (pc' := 33) (z := false) rfl rfl rfl (by decide) (fun h => by cases h) (fun _ => ?_)
  refine x_aload_n (pc' := 34) rfl rfl rfl rfl rfl ?_
  refine x_iload (pc' := 36) rfl rfl rfl ?_
  refine x_iald (pc' := 37) (N := 7) (x := (xs 0)) rfl rfl rfl (z_N_29_0 e) (io_in (p := 0) (N := 7) (by decide) (by decide)) (Eq.trans (congrArg (sA t 29 0) (nn_io (p := 0) (by decide))) (z_A_29_0_0 e)) ?_
  refine x_bipush (pc' := 39) rfl rfl ?_
  refine x_iand (pc' := 40) (z := ((xs 0) &&& 63)) rfl rfl rfl ?_
  refine x_switch (pc' := 1555) rfl (by rw [hk]; decide) ?_
  refine x_aload_n (pc' := 1556) rfl rfl rfl rfl rfl ?_
  refine x_aload_n (pc' := 1557) rfl rfl rfl rfl rfl ?_
  refine x_iload (pc' := 1559) rfl rfl rfl ?_
  refine x_iconst (pc' := 1560) rfl rfl ?_
  refine x_iadd (pc' := 1561) (z := 1) rfl rfl (by decide) ?_
  refine x_iald (pc' := 1562) (N := 7) (x := (xs 1)) rfl rfl rfl (z_N_29_0 e) (io_in (p := 1) (N := 7) (by decide) (by decide)) (Eq.trans (congrArg (sA t 29 0) (nn_io (p := 1) (by decide))) (z_A_29_0_1 e)) ?_
  refine x_aload_n (pc' := 1563) rfl rfl rfl rfl rfl ?_
  refine x_cs (ls0 := [_, _, _, sJk]) (rest := []) rfl rfl rfl rfl ?_
  refine x_aload_n (pc' := 1) rfl rfl rfl rfl rfl ?_
  refine x_iconst (pc' := 2) rfl rfl ?_
  refine x_aload_n (pc' := 3) rfl rfl rfl rfl rfl ?_
  refine x_iload_n (pc' := 4) rfl rfl rfl ?_
  refine x_cv (ls0 := [_, _, sJk, sJk]) (rest := [_, _]) rfl rfl rfl rfl rfl ?_
  refine x_aload_n (pc' := 1) rfl rfl rfl rfl rfl ?_
  refine x_iload_n (pc' := 2) rfl rfl rfl ?_
  refine x_cv (ls0 := [_, _]) (rest := []) rfl rfl rfl rfl rfl ?_
  refine x_iload_n (pc' := 1) rfl rfl rfl ?_
  refine x_if (a' := 16) (pc' := 4) (z := decide ((xs 1) < 0)) rfl rfl rfl rfl (fun _ => ?_) (fun h => absurd e0 (of_decide_eq_false h))
  refine x_throw rfl rfl ?_
  refine sK_n (by decide +kernel) rfl ?_
  refine sK_h (h := 12) (by decide +kernel) rfl ?_
  refine x_catch_n (pc' := 13) (ls' := [_, _, _, _]) rfl rfl rfl rfl ?_
  refine x_iconst (pc' := 14) rfl rfl ?_
  refine x_reti rfl rfl ?_
  refine sK_i (pc' := 1566) rfl ?_
  refine x_istore (pc' := 1568) (ls' := [_, _, _, _, _, _, _]) rfl rfl rfl rfl ?_
  refine x_aload_n (pc' := 1569) rfl rfl rfl rfl rfl ?_
  refine x_aload_n (pc' := 1570) rfl rfl rfl rfl rfl ?_
  refine x_iload (pc' := 1572) rfl rfl rfl ?_
  refine x_iconst (pc' := 1573) rfl rfl ?_
  refine x_iadd (pc' := 1574) (z := 1) rfl rfl (by decide) ?_
  refine x_iald (pc' := 1575) (N := 7) (x := (xs 1)) rfl rfl rfl (Eq.trans rdNthr (z_N_29_0 e)) (io_in (p := 1) (N := 7) (by decide) (by decide)) (Eq.trans (congrArg (sA (sThr t) 29 0) (nn_io (p := 1) (by decide))) (Eq.trans rdAthr (z_A_29_0_1 e))) ?_
  refine x_cv (ls0 := [_, _, sJk, sJk, sJk, sJk]) (rest := []) rfl rfl rfl rfl rfl ?_
  refine x_iload_n (pc' := 1) rfl rfl rfl ?_
  refine x_cs (ls0 := [_]) (rest := []) rfl rfl rfl rfl ?_
  refine x_iload_n (pc' := 1) rfl rfl rfl ?_
  refine x_iconst (pc' := 2) rfl rfl ?_
  refine x_iconst (pc' := 3) rfl rfl ?_
  refine x_cs (ls0 := [_, _, _]) (rest := []) rfl rfl rfl rfl ?_
  refine x_iload_n (pc' := 1) rfl rfl rfl ?_
  refine x_iload_n (pc' := 2) rfl rfl rfl ?_
  refine x_icmp (a' := 14) (pc' := 5) (z := decide ((xs 1) < 0)) rfl rfl rfl rfl (fun _ => ?_) (fun h => absurd e0 (of_decide_eq_false h))
  refine x_iconst (pc' := 15) rfl rfl ?_
  refine x_retz (z := false) rfl rfl ?_
  refine sK_i (pc' := 6) rfl ?_
  refine x_retz (z := false) rfl rfl ?_
  refine sK_i (pc' := 4) rfl ?_
  refine x_istore_n (pc' := 5) (ls' := [_, _, _, _, _, _]) rfl rfl rfl rfl ?_
  refine x_aload_n (pc' := 6) rfl rfl rfl rfl rfl ?_
  refine x_iload_n (pc' := 7) rfl rfl rfl ?_
  refine x_if (a' := 14) (pc' := 10) (z := false) rfl rfl rfl (by decide) (fun h => by cases h) (fun _ => ?_)
  refine x_iconst (pc' := 11) rfl rfl ?_
  refine x_goto (pc' := 41) rfl rfl ?_
  refine x_cv (ls0 := [_, _]) (rest := []) rfl rfl rfl rfl rfl ?_
  refine x_aload_n (pc' := 1) rfl rfl rfl rfl rfl ?_
  refine x_iload_n (pc' := 2) rfl rfl rfl ?_
  refine x_pI (pc' := 5) rfl rfl rfl ?_
  refine x_iload_n (pc' := 6) rfl rfl rfl ?_
  refine x_if (a' := 13) (pc' := 9) (z := true) rfl rfl rfl (by decide) (fun _ => ?_) (fun h => by cases h)
  refine x_iconst (pc' := 14) rfl rfl ?_
  refine x_retz (z := false) rfl rfl ?_
  refine sK_i (pc' := 44) rfl ?_
  refine x_if (a' := 49) (pc' := 47) (z := false) rfl rfl rfl (by decide) (fun h => by cases h) (fun _ => ?_)
  refine x_iconst (pc' := 48) rfl rfl ?_
  refine x_reti rfl rfl ?_
  refine sK_i (pc' := 1578) rfl ?_
  refine x_istore (pc' := 1580) (ls' := [_, _, _, _, _, _, _]) rfl rfl rfl rfl ?_
  refine x_aload_n (pc' := 1581) rfl rfl rfl rfl rfl ?_
  refine x_cv (ls0 := [_]) (rest := []) rfl rfl rfl rfl rfl ?_
  refine x_aload_n (pc' := 1) rfl rfl rfl rfl rfl ?_
  refine x_gI (pc' := 4) (x := 1) rfl rfl rfl sI_s ?_
  refine x_reti rfl rfl ?_
  refine sK_i (pc' := 1584) rfl ?_
  refine x_iload (pc' := 1586) rfl rfl rfl ?_
  refine x_icmp (a' := 1591) (pc' := 1589) (z := true) rfl rfl rfl (by decide) (fun _ => ?_) (fun h => by cases h)
  refine x_iload (pc' := 1593) rfl rfl rfl ?_
  refine x_if (a' := 1608) (pc' := 1596) (z := true) rfl rfl rfl (by decide) (fun _ => ?_) (fun h => by cases h)
  refine x_goto (pc' := 2938) rfl rfl ?_
  refine x_iinc (pc' := 2941) (y := 7) (ls' := [_, _, _, _, _, _, _]) rfl rfl rfl rfl rfl ?_
  refine x_goto (pc' := 23) rfl rfl ?_
  refine x_iload (pc' := 25) rfl rfl rfl ?_
  refine x_aload_n (pc' := 26) rfl rfl rfl rfl rfl ?_
  refine x_alen (pc' := 27) (N := 7) rfl rfl rfl (Eq.trans rdNI (Eq.trans rdNthr (z_N_29_0 e))) (?_ : X _ _ _ (.inl 7 :: _) _ _)
  refine x_bipush (pc' := 29) rfl rfl ?_
  refine x_isub (pc' := 30) (z := 0) rfl rfl (by decide) ?_
  refine x_icmp (a' := 2944) (pc' := 33) (z := true) rfl rfl rfl (by decide) (fun _ => ?_) (fun h => by cases h)
  refine x_iconst (pc' := 2945) rfl rfl ?_
  refine x_retz (z := true) rfl rfl ?_
  exact Qp_ok e (p := 1) (q := 6) rfl rfl rfl rfl
set_option maxHeartbeats 4000000 in
set_option maxRecDepth 10000 in
theorem v_17_B {t : sT} {xs : Nat → Int32}
    (e : t = T16 7 xs)
    (hk : ((xs 0) &&& 63) = 17)
    (e0 : ¬ (xs 1) < 0)
    (f0 : ¬ (xs 1) < 6) :
    X 297 23 [.inr (.inr (29, (some 0))), .inr (.inr (11, (some 0))), .inr (.inr (12, (some 0))), .inr (.inr (23, (some 0))), .inl 0, sJk, sJk] [] t Qp := by
  refine x_iload (pc' := 25) rfl rfl rfl ?_
  refine x_aload_n (pc' := 26) rfl rfl rfl rfl rfl ?_
  refine x_alen (pc' := 27) (N := 7) rfl rfl rfl (z_N_29_0 e) (?_ : X _ _ _ (.inl 7 :: _) _ _)
  refine x_bipush (pc' := 29) rfl rfl ?_
  refine x_isub (pc' := 30) (z := 0) rfl rfl (by decide) ?_
  refine x_icmp (a' := 2944) (pc' := 33) (z := false) rfl rfl rfl (by decide) (fun h => by cases h) (fun _ => ?_)
  refine x_aload_n (pc' := 34) rfl rfl rfl rfl rfl ?_
  refine x_iload (pc' := 36) rfl rfl rfl ?_
  refine x_iald (pc' := 37) (N := 7) (x := (xs 0)) rfl rfl rfl (z_N_29_0 e) (io_in (p := 0) (N := 7) (by decide) (by decide)) (Eq.trans (congrArg (sA t 29 0) (nn_io (p := 0) (by decide))) (z_A_29_0_0 e)) ?_
  refine x_bipush (pc' := 39) rfl rfl ?_
  refine x_iand (pc' := 40) (z := ((xs 0) &&& 63)) rfl rfl rfl ?_
  refine x_switch (pc' := 1555) rfl (by rw [hk]; decide) ?_
  refine x_aload_n (pc' := 1556) rfl rfl rfl rfl rfl ?_
  refine x_aload_n (pc' := 1557) rfl rfl rfl rfl rfl ?_
  refine x_iload (pc' := 1559) rfl rfl rfl ?_
  refine x_iconst (pc' := 1560) rfl rfl ?_
  refine x_iadd (pc' := 1561) (z := 1) rfl rfl (by decide) ?_
  refine x_iald (pc' := 1562) (N := 7) (x := (xs 1)) rfl rfl rfl (z_N_29_0 e) (io_in (p := 1) (N := 7) (by decide) (by decide)) (Eq.trans (congrArg (sA t 29 0) (nn_io (p := 1) (by decide))) (z_A_29_0_1 e)) ?_
  refine x_aload_n (pc' := 1563) rfl rfl rfl rfl rfl ?_
  refine x_cs (ls0 := [_, _, _, sJk]) (rest := []) rfl rfl rfl rfl ?_
  refine x_aload_n (pc' := 1) rfl rfl rfl rfl rfl ?_
  refine x_iconst (pc' := 2) rfl rfl ?_
  refine x_aload_n (pc' := 3) rfl rfl rfl rfl rfl ?_
  refine x_iload_n (pc' := 4) rfl rfl rfl ?_
  refine x_cv (ls0 := [_, _, sJk, sJk]) (rest := [_, _]) rfl rfl rfl rfl rfl ?_
  refine x_aload_n (pc' := 1) rfl rfl rfl rfl rfl ?_
  refine x_iload_n (pc' := 2) rfl rfl rfl ?_
  refine x_cv (ls0 := [_, _]) (rest := []) rfl rfl rfl rfl rfl ?_
  refine x_iload_n (pc' := 1) rfl rfl rfl ?_
  refine x_if (a' := 16) (pc' := 4) (z := decide ((xs 1) < 0)) rfl rfl rfl rfl (fun h => absurd (of_decide_eq_true h) e0) (fun _ => ?_)
  refine x_iload_n (pc' := 5) rfl rfl rfl ?_
  refine x_aload_n (pc' := 6) rfl rfl rfl rfl rfl ?_
  refine x_gR (pc' := 9) (r := (some 0)) rfl rfl rfl (z_R_704_0 e) ?_
  refine x_gR (pc' := 12) (r := (some 0)) rfl rfl rfl (z_R_321_0 e) ?_
  refine x_alen (pc' := 13) (N := 6) rfl rfl rfl (z_N_26_0 e) (?_ : X _ _ _ (.inl 6 :: _) _ _)
  refine x_icmp (a' := 27) (pc' := 16) (z := decide ((xs 1) < 6)) rfl rfl rfl rfl (fun h => absurd (of_decide_eq_true h) f0) (fun _ => ?_)
  refine x_throw rfl rfl ?_
  refine sK_n (by decide +kernel) rfl ?_
  refine sK_h (h := 12) (by decide +kernel) rfl ?_
  refine x_catch_n (pc' := 13) (ls' := [_, _, _, _]) rfl rfl rfl rfl ?_
  refine x_iconst (pc' := 14) rfl rfl ?_
  refine x_reti rfl rfl ?_
  refine sK_i (pc' := 1566) rfl ?_
  refine x_istore (pc' := 1568) (ls' := [_, _, _, _, _, _, _]) rfl rfl rfl rfl ?_
  refine x_aload_n (pc' := 1569) rfl rfl rfl rfl rfl ?_
  refine x_aload_n (pc' := 1570) rfl rfl rfl rfl rfl ?_
  refine x_iload (pc' := 1572) rfl rfl rfl ?_
  refine x_iconst (pc' := 1573) rfl rfl ?_
  refine x_iadd (pc' := 1574) (z := 1) rfl rfl (by decide) ?_
  refine x_iald (pc' := 1575) (N := 7) (x := (xs 1)) rfl rfl rfl (Eq.trans rdNthr (z_N_29_0 e)) (io_in (p := 1) (N := 7) (by decide) (by decide)) (Eq.trans (congrArg (sA (sThr t) 29 0) (nn_io (p := 1) (by decide))) (Eq.trans rdAthr (z_A_29_0_1 e))) ?_
  refine x_cv (ls0 := [_, _, sJk, sJk, sJk, sJk]) (rest := []) rfl rfl rfl rfl rfl ?_
  refine x_iload_n (pc' := 1) rfl rfl rfl ?_
  refine x_cs (ls0 := [_]) (rest := []) rfl rfl rfl rfl ?_
  refine x_iload_n (pc' := 1) rfl rfl rfl ?_
  refine x_iconst (pc' := 2) rfl rfl ?_
  refine x_iconst (pc' := 3) rfl rfl ?_
  refine x_cs (ls0 := [_, _, _]) (rest := []) rfl rfl rfl rfl ?_
  refine x_iload_n (pc' := 1) rfl rfl rfl ?_
  refine x_iload_n (pc' := 2) rfl rfl rfl ?_
  refine x_icmp (a' := 14) (pc' := 5) (z := decide ((xs 1) < 0)) rfl rfl rfl rfl (fun h => absurd (of_decide_eq_true h) e0) (fun _ => ?_)
  refine x_iload_n (pc' := 6) rfl rfl rfl ?_
  refine x_iload_n (pc' := 7) rfl rfl rfl ?_
  refine x_icmp (a' := 14) (pc' := 10) (z := decide (5 < (xs 1))) rfl rfl rfl rfl (fun _ => ?_) (fun h => absurd (lt_of6 f0) (of_decide_eq_false h))
  refine x_iconst (pc' := 15) rfl rfl ?_
  refine x_retz (z := false) rfl rfl ?_
  refine sK_i (pc' := 6) rfl ?_
  refine x_retz (z := false) rfl rfl ?_
  refine sK_i (pc' := 4) rfl ?_
  refine x_istore_n (pc' := 5) (ls' := [_, _, _, _, _, _]) rfl rfl rfl rfl ?_
  refine x_aload_n (pc' := 6) rfl rfl rfl rfl rfl ?_
  refine x_iload_n (pc' := 7) rfl rfl rfl ?_
  refine x_if (a' := 14) (pc' := 10) (z := false) rfl rfl rfl (by decide) (fun h => by cases h) (fun _ => ?_)
  refine x_iconst (pc' := 11) rfl rfl ?_
  refine x_goto (pc' := 41) rfl rfl ?_
  refine x_cv (ls0 := [_, _]) (rest := []) rfl rfl rfl rfl rfl ?_
  refine x_aload_n (pc' := 1) rfl rfl rfl rfl rfl ?_
  refine x_iload_n (pc' := 2) rfl rfl rfl ?_
  refine x_pI (pc' := 5) rfl rfl rfl ?_
  refine x_iload_n (pc' := 6) rfl rfl rfl ?_
  refine x_if (a' := 13) (pc' := 9) (z := true) rfl rfl rfl (by decide) (fun _ => ?_) (fun h => by cases h)
  refine x_iconst (pc' := 14) rfl rfl ?_
  refine x_retz (z := false) rfl rfl ?_
  refine sK_i (pc' := 44) rfl ?_
  refine x_if (a' := 49) (pc' := 47) (z := false) rfl rfl rfl (by decide) (fun h => by cases h) (fun _ => ?_)
  refine x_iconst (pc' := 48) rfl rfl ?_
  refine x_reti rfl rfl ?_
  refine sK_i (pc' := 1578) rfl ?_
  refine x_istore (pc' := 1580) (ls' := [_, _, _, _, _, _, _]) rfl rfl rfl rfl ?_
  refine x_aload_n (pc' := 1581) rfl rfl rfl rfl rfl ?_
  refine x_cv (ls0 := [_]) (rest := []) rfl rfl rfl rfl rfl ?_
  refine x_aload_n (pc' := 1) rfl rfl rfl rfl rfl ?_
  refine x_gI (pc' := 4) (x := 1) rfl rfl rfl sI_s ?_
  refine x_reti rfl rfl ?_
  refine sK_i (pc' := 1584) rfl ?_
  refine x_iload (pc' := 1586) rfl rfl rfl ?_
  refine x_icmp (a' := 1591) (pc' := 1589) (z := true) rfl rfl rfl (by decide) (fun _ => ?_) (fun h => by cases h)
  refine x_iload (pc' := 1593) rfl rfl rfl ?_
  refine x_if (a' := 1608) (pc' := 1596) (z := true) rfl rfl rfl (by decide) (fun _ => ?_) (fun h => by cases h)
  refine x_goto (pc' := 2938) rfl rfl ?_
  refine x_iinc (pc' := 2941) (y := 7) (ls' := [_, _, _, _, _, _, _]) rfl rfl rfl rfl rfl ?_
  refine x_goto (pc' := 23) rfl rfl ?_
  refine x_iload (pc' := 25) rfl rfl rfl ?_
  refine x_aload_n (pc' := 26) rfl rfl rfl rfl rfl ?_
  refine x_alen (pc' := 27) (N := 7) rfl rfl rfl (Eq.trans rdNI (Eq.trans rdNthr (z_N_29_0 e))) (?_ : X _ _ _ (.inl 7 :: _) _ _)
  refine x_bipush (pc' := 29) rfl rfl ?_
  refine x_isub (pc' := 30) (z := 0) rfl rfl (by decide) ?_
  refine x_icmp (a' := 2944) (pc' := 33) (z := true) rfl rfl rfl (by decide) (fun _ => ?_) (fun h => by cases h)
  refine x_iconst (pc' := 2945) rfl rfl ?_
  refine x_retz (z := true) rfl rfl ?_
  exact Qp_ok e (p := 1) (q := 6) rfl rfl rfl rfl
set_option maxHeartbeats 4000000 in
set_option maxRecDepth 10000 in
theorem v_18_0 {t : sT} {xs : Nat → Int32}
    (e : t = T16 7 xs)
    (hk : ((xs 0) &&& 63) = 18)
    (e0 : xs 1 = 0) :
    X 297 23 [.inr (.inr (29, (some 0))), .inr (.inr (11, (some 0))), .inr (.inr (12, (some 0))), .inr (.inr (23, (some 0))), .inl 0, sJk, sJk] [] t Qp := by
  refine x_iload (pc' := 25) rfl rfl rfl ?_
  refine x_aload_n (pc' := 26) rfl rfl rfl rfl rfl ?_
  refine x_alen (pc' := 27) (N := 7) rfl rfl rfl (z_N_29_0 e) (?_ : X _ _ _ (.inl 7 :: _) _ _)
  refine x_bipush (pc' := 29) rfl rfl ?_
  refine x_isub (pc' := 30) (z := 0) rfl rfl (by decide) ?_
  refine x_icmp (a' := 2944) (pc' := 33) (z := false) rfl rfl rfl (by decide) (fun h => by cases h) (fun _ => ?_)
  refine x_aload_n (pc' := 34) rfl rfl rfl rfl rfl ?_
  refine x_iload (pc' := 36) rfl rfl rfl ?_
  refine x_iald (pc' := 37) (N := 7) (x := (xs 0)) rfl rfl rfl (z_N_29_0 e) (io_in (p := 0) (N := 7) (by decide) (by decide)) (Eq.trans (congrArg (sA t 29 0) (nn_io (p := 0) (by decide))) (z_A_29_0_0 e)) ?_
  refine x_bipush (pc' := 39) rfl rfl ?_
  refine x_iand (pc' := 40) (z := ((xs 0) &&& 63)) rfl rfl rfl ?_
  refine x_switch (pc' := 1611) rfl (by rw [hk]; decide) ?_
  refine x_aload_n (pc' := 1612) rfl rfl rfl rfl rfl ?_
  refine x_aload_n (pc' := 1613) rfl rfl rfl rfl rfl ?_
  refine x_iload (pc' := 1615) rfl rfl rfl ?_
  refine x_iconst (pc' := 1616) rfl rfl ?_
  refine x_iadd (pc' := 1617) (z := 1) rfl rfl (by decide) ?_
  refine x_iald (pc' := 1618) (N := 7) (x := 0) rfl rfl rfl (z_N_29_0 e) (io_in (p := 1) (N := 7) (by decide) (by decide)) (Eq.trans (congrArg (sA t 29 0) (nn_io (p := 1) (by decide))) (Eq.trans (z_A_29_0_1 e) e0)) ?_
  refine x_aload_n (pc' := 1619) rfl rfl rfl rfl rfl ?_
  refine x_cs (ls0 := [_, _, _, sJk]) (rest := []) rfl rfl rfl rfl ?_
  refine x_aload_n (pc' := 1) rfl rfl rfl rfl rfl ?_
  refine x_iconst (pc' := 2) rfl rfl ?_
  refine x_aload_n (pc' := 3) rfl rfl rfl rfl rfl ?_
  refine x_iload_n (pc' := 4) rfl rfl rfl ?_
  refine x_cv (ls0 := [_, _]) (rest := [_, _]) rfl rfl rfl rfl rfl ?_
  refine x_aload_n (pc' := 1) rfl rfl rfl rfl rfl ?_
  refine x_iload_n (pc' := 2) rfl rfl rfl ?_
  refine x_cv (ls0 := [_, _]) (rest := []) rfl rfl rfl rfl rfl ?_
  refine x_iload_n (pc' := 1) rfl rfl rfl ?_
  refine x_if (a' := 16) (pc' := 4) (z := false) rfl rfl rfl (by decide) (fun h => by cases h) (fun _ => ?_)
  refine x_iload_n (pc' := 5) rfl rfl rfl ?_
  refine x_aload_n (pc' := 6) rfl rfl rfl rfl rfl ?_
  refine x_gR (pc' := 9) (r := (some 0)) rfl rfl rfl (z_R_705_0 e) ?_
  refine x_gR (pc' := 12) (r := (some 0)) rfl rfl rfl (z_R_256_0 e) ?_
  refine x_alen (pc' := 13) (N := 5) rfl rfl rfl (z_N_24_0 e) (?_ : X _ _ _ (.inl 5 :: _) _ _)
  refine x_icmp (a' := 27) (pc' := 16) (z := true) rfl rfl rfl (by decide) (fun _ => ?_) (fun h => by cases h)
  refine x_aload_n (pc' := 28) rfl rfl rfl rfl rfl ?_
  refine x_gR (pc' := 31) (r := (some 0)) rfl rfl rfl (z_R_705_0 e) ?_
  refine x_gR (pc' := 34) (r := (some 0)) rfl rfl rfl (z_R_256_0 e) ?_
  refine x_iload_n (pc' := 35) rfl rfl rfl ?_
  refine x_aald (pc' := 36) (N := 5) (k' := 1) (r := (some 0)) rfl rfl rfl (z_N_24_0 e) (io_in (p := 0) (N := 5) (by decide) (by decide)) (Eq.trans (congrArg (sE t 24 0) (nn_io (p := 0) (by decide))) (z_E_24_0_0 e)) ?_
  refine x_reta rfl rfl ?_
  refine sK_i (pc' := 5) rfl ?_
  refine x_gI (pc' := 8) (x := 0) rfl rfl rfl (z_I_67_0 e) ?_
  refine x_reti rfl rfl ?_
  refine sK_i (pc' := 7) rfl ?_
  refine x_i2l (pc' := 8) (z := (0 : Int64)) rfl rfl (by decide) ?_
  refine x_last (pc' := 9) (N := 1) (p := 0) rfl rfl (z_N_23_0 e) (io_in (p := 0) (N := 1) (by decide) (by decide)) (nn_io (p := 0) (by decide)) ?_
  refine x_goto (pc' := 15) rfl rfl ?_
  refine x_iconst (pc' := 16) rfl rfl ?_
  refine x_reti rfl rfl ?_
  refine sK_i (pc' := 1622) rfl ?_
  refine x_istore (pc' := 1624) (ls' := [_, _, _, _, _, _, _]) rfl rfl rfl rfl ?_
  refine x_aload_n (pc' := 1625) rfl rfl rfl rfl rfl ?_
  refine x_aload_n (pc' := 1626) rfl rfl rfl rfl rfl ?_
  refine x_iload (pc' := 1628) rfl rfl rfl ?_
  refine x_iconst (pc' := 1629) rfl rfl ?_
  refine x_iadd (pc' := 1630) (z := 1) rfl rfl (by decide) ?_
  refine x_iald (pc' := 1631) (N := 7) (x := 0) rfl rfl rfl (Eq.trans rdNL (z_N_29_0 e)) (io_in (p := 1) (N := 7) (by decide) (by decide)) (Eq.trans (congrArg (sA (sLw t 23 0 0 (0 : Int64)) 29 0) (nn_io (p := 1) (by decide))) (Eq.trans rdAL (Eq.trans (z_A_29_0_1 e) e0))) ?_
  refine x_cv (ls0 := [_, _]) (rest := []) rfl rfl rfl rfl rfl ?_
  refine x_aload_n (pc' := 1) rfl rfl rfl rfl rfl ?_
  refine x_iload_n (pc' := 2) rfl rfl rfl ?_
  refine x_cs (ls0 := [_]) (rest := [_]) rfl rfl rfl rfl ?_
  refine x_iload_n (pc' := 1) rfl rfl rfl ?_
  refine x_iconst (pc' := 2) rfl rfl ?_
  refine x_iconst (pc' := 3) rfl rfl ?_
  refine x_cs (ls0 := [_, _, _]) (rest := []) rfl rfl rfl rfl ?_
  refine x_iload_n (pc' := 1) rfl rfl rfl ?_
  refine x_iload_n (pc' := 2) rfl rfl rfl ?_
  refine x_icmp (a' := 14) (pc' := 5) (z := false) rfl rfl rfl (by decide) (fun h => by cases h) (fun _ => ?_)
  refine x_iload_n (pc' := 6) rfl rfl rfl ?_
  refine x_iload_n (pc' := 7) rfl rfl rfl ?_
  refine x_icmp (a' := 14) (pc' := 10) (z := false) rfl rfl rfl (by decide) (fun h => by cases h) (fun _ => ?_)
  refine x_iconst (pc' := 11) rfl rfl ?_
  refine x_goto (pc' := 15) rfl rfl ?_
  refine x_retz (z := true) rfl rfl ?_
  refine sK_i (pc' := 6) rfl ?_
  refine x_retz (z := true) rfl rfl ?_
  refine sK_i (pc' := 5) rfl ?_
  refine x_if (a' := 12) (pc' := 8) (z := false) rfl rfl rfl (by decide) (fun h => by cases h) (fun _ => ?_)
  refine x_iconst (pc' := 9) rfl rfl ?_
  refine x_goto (pc' := 13) rfl rfl ?_
  refine x_cv (ls0 := [_, _]) (rest := []) rfl rfl rfl rfl rfl ?_
  refine x_aload_n (pc' := 1) rfl rfl rfl rfl rfl ?_
  refine x_iload_n (pc' := 2) rfl rfl rfl ?_
  refine x_pI (pc' := 5) rfl rfl rfl ?_
  refine x_iload_n (pc' := 6) rfl rfl rfl ?_
  refine x_if (a' := 13) (pc' := 9) (z := false) rfl rfl rfl (by decide) (fun h => by cases h) (fun _ => ?_)
  refine x_iconst (pc' := 10) rfl rfl ?_
  refine x_goto (pc' := 14) rfl rfl ?_
  refine x_retz (z := true) rfl rfl ?_
  refine sK_i (pc' := 16) rfl ?_
  refine x_if (a' := 28) (pc' := 19) (z := false) rfl rfl rfl (by decide) (fun h => by cases h) (fun _ => ?_)
  refine x_aload_n (pc' := 20) rfl rfl rfl rfl rfl ?_
  refine x_gR (pc' := 23) (r := (some 0)) rfl rfl rfl (Eq.trans rdRI (Eq.trans rdRL (z_R_769_0 e))) ?_
  refine x_iload_n (pc' := 24) rfl rfl rfl ?_
  refine x_iald (pc' := 25) (N := 5) (x := 0) rfl rfl rfl (Eq.trans rdNI (Eq.trans rdNL (z_N_21_0 e))) (io_in (p := 0) (N := 5) (by decide) (by decide)) (Eq.trans (congrArg (sA (sIw (sLw t 23 0 0 (0 : Int64)) 768 0 0) 21 0) (nn_io (p := 0) (by decide))) (Eq.trans rdAI (Eq.trans rdAL (z_A_21_0_0 e)))) ?_
  refine x_goto (pc' := 29) rfl rfl ?_
  refine x_reti rfl rfl ?_
  refine sK_i (pc' := 1634) rfl ?_
  refine x_istore (pc' := 1636) (ls' := [_, _, _, _, _, _, _]) rfl rfl rfl rfl ?_
  refine x_aload_n (pc' := 1637) rfl rfl rfl rfl rfl ?_
  refine x_cv (ls0 := [_]) (rest := []) rfl rfl rfl rfl rfl ?_
  refine x_aload_n (pc' := 1) rfl rfl rfl rfl rfl ?_
  refine x_gI (pc' := 4) (x := 0) rfl rfl rfl sI_s ?_
  refine x_reti rfl rfl ?_
  refine sK_i (pc' := 1640) rfl ?_
  refine x_iload (pc' := 1642) rfl rfl rfl ?_
  refine x_icmp (a' := 1647) (pc' := 1645) (z := true) rfl rfl rfl (by decide) (fun _ => ?_) (fun h => by cases h)
  refine x_iload (pc' := 1649) rfl rfl rfl ?_
  refine x_if (a' := 1664) (pc' := 1652) (z := false) rfl rfl rfl (by decide) (fun h => by cases h) (fun _ => ?_)
  refine x_aload_n (pc' := 1653) rfl rfl rfl rfl rfl ?_
  refine x_iconst (pc' := 1654) rfl rfl ?_
  refine x_lald (pc' := 1655) (N := 1) (x := (0 : Int64)) rfl rfl (Eq.trans rdNI (Eq.trans rdNL (z_N_23_0 e))) (io_in (p := 0) (N := 1) (by decide) (by decide)) (Eq.trans (congrArg (sL (sIw (sLw t 23 0 0 (0 : Int64)) 768 0 0) 23 0) (nn_io (p := 0) (by decide))) (Eq.trans rdLI sL_s)) ?_
  refine x_iload (pc' := 1657) rfl rfl rfl ?_
  refine x_i2l (pc' := 1658) (z := (0 : Int64)) rfl rfl (by decide) ?_
  refine x_lcmp (pc' := 1659) (z := 0) rfl rfl (sLcmp_s _) ?_
  refine x_if (a' := 1664) (pc' := 1662) (z := true) rfl rfl rfl (by decide) (fun _ => ?_) (fun h => by cases h)
  refine x_goto (pc' := 2938) rfl rfl ?_
  refine x_iinc (pc' := 2941) (y := 7) (ls' := [_, _, _, _, _, _, _]) rfl rfl rfl rfl rfl ?_
  refine x_goto (pc' := 23) rfl rfl ?_
  refine x_iload (pc' := 25) rfl rfl rfl ?_
  refine x_aload_n (pc' := 26) rfl rfl rfl rfl rfl ?_
  refine x_alen (pc' := 27) (N := 7) rfl rfl rfl (Eq.trans rdNI (Eq.trans rdNL (z_N_29_0 e))) (?_ : X _ _ _ (.inl 7 :: _) _ _)
  refine x_bipush (pc' := 29) rfl rfl ?_
  refine x_isub (pc' := 30) (z := 0) rfl rfl (by decide) ?_
  refine x_icmp (a' := 2944) (pc' := 33) (z := true) rfl rfl rfl (by decide) (fun _ => ?_) (fun h => by cases h)
  refine x_iconst (pc' := 2945) rfl rfl ?_
  refine x_retz (z := true) rfl rfl ?_
  exact Qp_ok e (p := 0) (q := 0) rfl rfl rfl rfl
set_option maxHeartbeats 4000000 in
set_option maxRecDepth 10000 in
theorem v_18_1 {t : sT} {xs : Nat → Int32}
    (e : t = T16 7 xs)
    (hk : ((xs 0) &&& 63) = 18)
    (e0 : xs 1 = 1) :
    X 297 23 [.inr (.inr (29, (some 0))), .inr (.inr (11, (some 0))), .inr (.inr (12, (some 0))), .inr (.inr (23, (some 0))), .inl 0, sJk, sJk] [] t Qp := by
  refine x_iload (pc' := 25) rfl rfl rfl ?_
  refine x_aload_n (pc' := 26) rfl rfl rfl rfl rfl ?_
  refine x_alen (pc' := 27) (N := 7) rfl rfl rfl (z_N_29_0 e) (?_ : X _ _ _ (.inl 7 :: _) _ _)
  refine x_bipush (pc' := 29) rfl rfl ?_
  refine x_isub (pc' := 30) (z := 0) rfl rfl (by decide) ?_
  refine x_icmp (a' := 2944) (pc' := 33) (z := false) rfl rfl rfl (by decide) (fun h => by cases h) (fun _ => ?_)
  refine x_aload_n (pc' := 34) rfl rfl rfl rfl rfl ?_
  refine x_iload (pc' := 36) rfl rfl rfl ?_
  refine x_iald (pc' := 37) (N := 7) (x := (xs 0)) rfl rfl rfl (z_N_29_0 e) (io_in (p := 0) (N := 7) (by decide) (by decide)) (Eq.trans (congrArg (sA t 29 0) (nn_io (p := 0) (by decide))) (z_A_29_0_0 e)) ?_
  refine x_bipush (pc' := 39) rfl rfl ?_
  refine x_iand (pc' := 40) (z := ((xs 0) &&& 63)) rfl rfl rfl ?_
  refine x_switch (pc' := 1611) rfl (by rw [hk]; decide) ?_
  refine x_aload_n (pc' := 1612) rfl rfl rfl rfl rfl ?_
  refine x_aload_n (pc' := 1613) rfl rfl rfl rfl rfl ?_
  refine x_iload (pc' := 1615) rfl rfl rfl ?_
  refine x_iconst (pc' := 1616) rfl rfl ?_
  refine x_iadd (pc' := 1617) (z := 1) rfl rfl (by decide) ?_
  refine x_iald (pc' := 1618) (N := 7) (x := 1) rfl rfl rfl (z_N_29_0 e) (io_in (p := 1) (N := 7) (by decide) (by decide)) (Eq.trans (congrArg (sA t 29 0) (nn_io (p := 1) (by decide))) (Eq.trans (z_A_29_0_1 e) e0)) ?_
  refine x_aload_n (pc' := 1619) rfl rfl rfl rfl rfl ?_
  refine x_cs (ls0 := [_, _, _, sJk]) (rest := []) rfl rfl rfl rfl ?_
  refine x_aload_n (pc' := 1) rfl rfl rfl rfl rfl ?_
  refine x_iconst (pc' := 2) rfl rfl ?_
  refine x_aload_n (pc' := 3) rfl rfl rfl rfl rfl ?_
  refine x_iload_n (pc' := 4) rfl rfl rfl ?_
  refine x_cv (ls0 := [_, _]) (rest := [_, _]) rfl rfl rfl rfl rfl ?_
  refine x_aload_n (pc' := 1) rfl rfl rfl rfl rfl ?_
  refine x_iload_n (pc' := 2) rfl rfl rfl ?_
  refine x_cv (ls0 := [_, _]) (rest := []) rfl rfl rfl rfl rfl ?_
  refine x_iload_n (pc' := 1) rfl rfl rfl ?_
  refine x_if (a' := 16) (pc' := 4) (z := false) rfl rfl rfl (by decide) (fun h => by cases h) (fun _ => ?_)
  refine x_iload_n (pc' := 5) rfl rfl rfl ?_
  refine x_aload_n (pc' := 6) rfl rfl rfl rfl rfl ?_
  refine x_gR (pc' := 9) (r := (some 0)) rfl rfl rfl (z_R_705_0 e) ?_
  refine x_gR (pc' := 12) (r := (some 0)) rfl rfl rfl (z_R_256_0 e) ?_
  refine x_alen (pc' := 13) (N := 5) rfl rfl rfl (z_N_24_0 e) (?_ : X _ _ _ (.inl 5 :: _) _ _)
  refine x_icmp (a' := 27) (pc' := 16) (z := true) rfl rfl rfl (by decide) (fun _ => ?_) (fun h => by cases h)
  refine x_aload_n (pc' := 28) rfl rfl rfl rfl rfl ?_
  refine x_gR (pc' := 31) (r := (some 0)) rfl rfl rfl (z_R_705_0 e) ?_
  refine x_gR (pc' := 34) (r := (some 0)) rfl rfl rfl (z_R_256_0 e) ?_
  refine x_iload_n (pc' := 35) rfl rfl rfl ?_
  refine x_aald (pc' := 36) (N := 5) (k' := 1) (r := (some 1)) rfl rfl rfl (z_N_24_0 e) (io_in (p := 1) (N := 5) (by decide) (by decide)) (Eq.trans (congrArg (sE t 24 0) (nn_io (p := 1) (by decide))) (z_E_24_0_1 e)) ?_
  refine x_reta rfl rfl ?_
  refine sK_i (pc' := 5) rfl ?_
  refine x_gI (pc' := 8) (x := 0) rfl rfl rfl (z_I_67_1 e) ?_
  refine x_reti rfl rfl ?_
  refine sK_i (pc' := 7) rfl ?_
  refine x_i2l (pc' := 8) (z := (0 : Int64)) rfl rfl (by decide) ?_
  refine x_last (pc' := 9) (N := 1) (p := 0) rfl rfl (z_N_23_0 e) (io_in (p := 0) (N := 1) (by decide) (by decide)) (nn_io (p := 0) (by decide)) ?_
  refine x_goto (pc' := 15) rfl rfl ?_
  refine x_iconst (pc' := 16) rfl rfl ?_
  refine x_reti rfl rfl ?_
  refine sK_i (pc' := 1622) rfl ?_
  refine x_istore (pc' := 1624) (ls' := [_, _, _, _, _, _, _]) rfl rfl rfl rfl ?_
  refine x_aload_n (pc' := 1625) rfl rfl rfl rfl rfl ?_
  refine x_aload_n (pc' := 1626) rfl rfl rfl rfl rfl ?_
  refine x_iload (pc' := 1628) rfl rfl rfl ?_
  refine x_iconst (pc' := 1629) rfl rfl ?_
  refine x_iadd (pc' := 1630) (z := 1) rfl rfl (by decide) ?_
  refine x_iald (pc' := 1631) (N := 7) (x := 1) rfl rfl rfl (Eq.trans rdNL (z_N_29_0 e)) (io_in (p := 1) (N := 7) (by decide) (by decide)) (Eq.trans (congrArg (sA (sLw t 23 0 0 (0 : Int64)) 29 0) (nn_io (p := 1) (by decide))) (Eq.trans rdAL (Eq.trans (z_A_29_0_1 e) e0))) ?_
  refine x_cv (ls0 := [_, _]) (rest := []) rfl rfl rfl rfl rfl ?_
  refine x_aload_n (pc' := 1) rfl rfl rfl rfl rfl ?_
  refine x_iload_n (pc' := 2) rfl rfl rfl ?_
  refine x_cs (ls0 := [_]) (rest := [_]) rfl rfl rfl rfl ?_
  refine x_iload_n (pc' := 1) rfl rfl rfl ?_
  refine x_iconst (pc' := 2) rfl rfl ?_
  refine x_iconst (pc' := 3) rfl rfl ?_
  refine x_cs (ls0 := [_, _, _]) (rest := []) rfl rfl rfl rfl ?_
  refine x_iload_n (pc' := 1) rfl rfl rfl ?_
  refine x_iload_n (pc' := 2) rfl rfl rfl ?_
  refine x_icmp (a' := 14) (pc' := 5) (z := false) rfl rfl rfl (by decide) (fun h => by cases h) (fun _ => ?_)
  refine x_iload_n (pc' := 6) rfl rfl rfl ?_
  refine x_iload_n (pc' := 7) rfl rfl rfl ?_
  refine x_icmp (a' := 14) (pc' := 10) (z := false) rfl rfl rfl (by decide) (fun h => by cases h) (fun _ => ?_)
  refine x_iconst (pc' := 11) rfl rfl ?_
  refine x_goto (pc' := 15) rfl rfl ?_
  refine x_retz (z := true) rfl rfl ?_
  refine sK_i (pc' := 6) rfl ?_
  refine x_retz (z := true) rfl rfl ?_
  refine sK_i (pc' := 5) rfl ?_
  refine x_if (a' := 12) (pc' := 8) (z := false) rfl rfl rfl (by decide) (fun h => by cases h) (fun _ => ?_)
  refine x_iconst (pc' := 9) rfl rfl ?_
  refine x_goto (pc' := 13) rfl rfl ?_
  refine x_cv (ls0 := [_, _]) (rest := []) rfl rfl rfl rfl rfl ?_
  refine x_aload_n (pc' := 1) rfl rfl rfl rfl rfl ?_
  refine x_iload_n (pc' := 2) rfl rfl rfl ?_
  refine x_pI (pc' := 5) rfl rfl rfl ?_
  refine x_iload_n (pc' := 6) rfl rfl rfl ?_
  refine x_if (a' := 13) (pc' := 9) (z := false) rfl rfl rfl (by decide) (fun h => by cases h) (fun _ => ?_)
  refine x_iconst (pc' := 10) rfl rfl ?_
  refine x_goto (pc' := 14) rfl rfl ?_
  refine x_retz (z := true) rfl rfl ?_
  refine sK_i (pc' := 16) rfl ?_
  refine x_if (a' := 28) (pc' := 19) (z := false) rfl rfl rfl (by decide) (fun h => by cases h) (fun _ => ?_)
  refine x_aload_n (pc' := 20) rfl rfl rfl rfl rfl ?_
  refine x_gR (pc' := 23) (r := (some 0)) rfl rfl rfl (Eq.trans rdRI (Eq.trans rdRL (z_R_769_0 e))) ?_
  refine x_iload_n (pc' := 24) rfl rfl rfl ?_
  refine x_iald (pc' := 25) (N := 5) (x := 0) rfl rfl rfl (Eq.trans rdNI (Eq.trans rdNL (z_N_21_0 e))) (io_in (p := 1) (N := 5) (by decide) (by decide)) (Eq.trans (congrArg (sA (sIw (sLw t 23 0 0 (0 : Int64)) 768 0 0) 21 0) (nn_io (p := 1) (by decide))) (Eq.trans rdAI (Eq.trans rdAL (z_A_21_0_1 e)))) ?_
  refine x_goto (pc' := 29) rfl rfl ?_
  refine x_reti rfl rfl ?_
  refine sK_i (pc' := 1634) rfl ?_
  refine x_istore (pc' := 1636) (ls' := [_, _, _, _, _, _, _]) rfl rfl rfl rfl ?_
  refine x_aload_n (pc' := 1637) rfl rfl rfl rfl rfl ?_
  refine x_cv (ls0 := [_]) (rest := []) rfl rfl rfl rfl rfl ?_
  refine x_aload_n (pc' := 1) rfl rfl rfl rfl rfl ?_
  refine x_gI (pc' := 4) (x := 0) rfl rfl rfl sI_s ?_
  refine x_reti rfl rfl ?_
  refine sK_i (pc' := 1640) rfl ?_
  refine x_iload (pc' := 1642) rfl rfl rfl ?_
  refine x_icmp (a' := 1647) (pc' := 1645) (z := true) rfl rfl rfl (by decide) (fun _ => ?_) (fun h => by cases h)
  refine x_iload (pc' := 1649) rfl rfl rfl ?_
  refine x_if (a' := 1664) (pc' := 1652) (z := false) rfl rfl rfl (by decide) (fun h => by cases h) (fun _ => ?_)
  refine x_aload_n (pc' := 1653) rfl rfl rfl rfl rfl ?_
  refine x_iconst (pc' := 1654) rfl rfl ?_
  refine x_lald (pc' := 1655) (N := 1) (x := (0 : Int64)) rfl rfl (Eq.trans rdNI (Eq.trans rdNL (z_N_23_0 e))) (io_in (p := 0) (N := 1) (by decide) (by decide)) (Eq.trans (congrArg (sL (sIw (sLw t 23 0 0 (0 : Int64)) 768 0 0) 23 0) (nn_io (p := 0) (by decide))) (Eq.trans rdLI sL_s)) ?_
  refine x_iload (pc' := 1657) rfl rfl rfl ?_
  refine x_i2l (pc' := 1658) (z := (0 : Int64)) rfl rfl (by decide) ?_
  refine x_lcmp (pc' := 1659) (z := 0) rfl rfl (sLcmp_s _) ?_
  refine x_if (a' := 1664) (pc' := 1662) (z := true) rfl rfl rfl (by decide) (fun _ => ?_) (fun h => by cases h)
  refine x_goto (pc' := 2938) rfl rfl ?_
  refine x_iinc (pc' := 2941) (y := 7) (ls' := [_, _, _, _, _, _, _]) rfl rfl rfl rfl rfl ?_
  refine x_goto (pc' := 23) rfl rfl ?_
  refine x_iload (pc' := 25) rfl rfl rfl ?_
  refine x_aload_n (pc' := 26) rfl rfl rfl rfl rfl ?_
  refine x_alen (pc' := 27) (N := 7) rfl rfl rfl (Eq.trans rdNI (Eq.trans rdNL (z_N_29_0 e))) (?_ : X _ _ _ (.inl 7 :: _) _ _)
  refine x_bipush (pc' := 29) rfl rfl ?_
  refine x_isub (pc' := 30) (z := 0) rfl rfl (by decide) ?_
  refine x_icmp (a' := 2944) (pc' := 33) (z := true) rfl rfl rfl (by decide) (fun _ => ?_) (fun h => by cases h)
  refine x_iconst (pc' := 2945) rfl rfl ?_
  refine x_retz (z := true) rfl rfl ?_
  exact Qp_ok e (p := 0) (q := 0) rfl rfl rfl rfl
set_option maxHeartbeats 4000000 in
set_option maxRecDepth 10000 in
theorem v_18_2 {t : sT} {xs : Nat → Int32}
    (e : t = T16 7 xs)
    (hk : ((xs 0) &&& 63) = 18)
    (e0 : xs 1 = 2) :
    X 297 23 [.inr (.inr (29, (some 0))), .inr (.inr (11, (some 0))), .inr (.inr (12, (some 0))), .inr (.inr (23, (some 0))), .inl 0, sJk, sJk] [] t Qp := by
  refine x_iload (pc' := 25) rfl rfl rfl ?_
  refine x_aload_n (pc' := 26) rfl rfl rfl rfl rfl ?_
  refine x_alen (pc' := 27) (N := 7) rfl rfl rfl (z_N_29_0 e) (?_ : X _ _ _ (.inl 7 :: _) _ _)
  refine x_bipush (pc' := 29) rfl rfl ?_
  refine x_isub (pc' := 30) (z := 0) rfl rfl (by decide) ?_
  refine x_icmp (a' := 2944) (pc' := 33) (z := false) rfl rfl rfl (by decide) (fun h => by cases h) (fun _ => ?_)
  refine x_aload_n (pc' := 34) rfl rfl rfl rfl rfl ?_
  refine x_iload (pc' := 36) rfl rfl rfl ?_
  refine x_iald (pc' := 37) (N := 7) (x := (xs 0)) rfl rfl rfl (z_N_29_0 e) (io_in (p := 0) (N := 7) (by decide) (by decide)) (Eq.trans (congrArg (sA t 29 0) (nn_io (p := 0) (by decide))) (z_A_29_0_0 e)) ?_
  refine x_bipush (pc' := 39) rfl rfl ?_
  refine x_iand (pc' := 40) (z := ((xs 0) &&& 63)) rfl rfl rfl ?_
  refine x_switch (pc' := 1611) rfl (by rw [hk]; decide) ?_
  refine x_aload_n (pc' := 1612) rfl rfl rfl rfl rfl ?_
  refine x_aload_n (pc' := 1613) rfl rfl rfl rfl rfl ?_
  refine x_iload (pc' := 1615) rfl rfl rfl ?_
  refine x_iconst (pc' := 1616) rfl rfl ?_
  refine x_iadd (pc' := 1617) (z := 1) rfl rfl (by decide) ?_
  refine x_iald (pc' := 1618) (N := 7) (x := 2) rfl rfl rfl (z_N_29_0 e) (io_in (p := 1) (N := 7) (by decide) (by decide)) (Eq.trans (congrArg (sA t 29 0) (nn_io (p := 1) (by decide))) (Eq.trans (z_A_29_0_1 e) e0)) ?_
  refine x_aload_n (pc' := 1619) rfl rfl rfl rfl rfl ?_
  refine x_cs (ls0 := [_, _, _, sJk]) (rest := []) rfl rfl rfl rfl ?_
  refine x_aload_n (pc' := 1) rfl rfl rfl rfl rfl ?_
  refine x_iconst (pc' := 2) rfl rfl ?_
  refine x_aload_n (pc' := 3) rfl rfl rfl rfl rfl ?_
  refine x_iload_n (pc' := 4) rfl rfl rfl ?_
  refine x_cv (ls0 := [_, _]) (rest := [_, _]) rfl rfl rfl rfl rfl ?_
  refine x_aload_n (pc' := 1) rfl rfl rfl rfl rfl ?_
  refine x_iload_n (pc' := 2) rfl rfl rfl ?_
  refine x_cv (ls0 := [_, _]) (rest := []) rfl rfl rfl rfl rfl ?_
  refine x_iload_n (pc' := 1) rfl rfl rfl ?_
  refine x_if (a' := 16) (pc' := 4) (z := false) rfl rfl rfl (by decide) (fun h => by cases h) (fun _ => ?_)
  refine x_iload_n (pc' := 5) rfl rfl rfl ?_
  refine x_aload_n (pc' := 6) rfl rfl rfl rfl rfl ?_
  refine x_gR (pc' := 9) (r := (some 0)) rfl rfl rfl (z_R_705_0 e) ?_
  refine x_gR (pc' := 12) (r := (some 0)) rfl rfl rfl (z_R_256_0 e) ?_
  refine x_alen (pc' := 13) (N := 5) rfl rfl rfl (z_N_24_0 e) (?_ : X _ _ _ (.inl 5 :: _) _ _)
  refine x_icmp (a' := 27) (pc' := 16) (z := true) rfl rfl rfl (by decide) (fun _ => ?_) (fun h => by cases h)
  refine x_aload_n (pc' := 28) rfl rfl rfl rfl rfl ?_
  refine x_gR (pc' := 31) (r := (some 0)) rfl rfl rfl (z_R_705_0 e) ?_
  refine x_gR (pc' := 34) (r := (some 0)) rfl rfl rfl (z_R_256_0 e) ?_
  refine x_iload_n (pc' := 35) rfl rfl rfl ?_
  refine x_aald (pc' := 36) (N := 5) (k' := 1) (r := (some 2)) rfl rfl rfl (z_N_24_0 e) (io_in (p := 2) (N := 5) (by decide) (by decide)) (Eq.trans (congrArg (sE t 24 0) (nn_io (p := 2) (by decide))) (z_E_24_0_2 e)) ?_
  refine x_reta rfl rfl ?_
  refine sK_i (pc' := 5) rfl ?_
  refine x_gI (pc' := 8) (x := 0) rfl rfl rfl (z_I_67_2 e) ?_
  refine x_reti rfl rfl ?_
  refine sK_i (pc' := 7) rfl ?_
  refine x_i2l (pc' := 8) (z := (0 : Int64)) rfl rfl (by decide) ?_
  refine x_last (pc' := 9) (N := 1) (p := 0) rfl rfl (z_N_23_0 e) (io_in (p := 0) (N := 1) (by decide) (by decide)) (nn_io (p := 0) (by decide)) ?_
  refine x_goto (pc' := 15) rfl rfl ?_
  refine x_iconst (pc' := 16) rfl rfl ?_
  refine x_reti rfl rfl ?_
  refine sK_i (pc' := 1622) rfl ?_
  refine x_istore (pc' := 1624) (ls' := [_, _, _, _, _, _, _]) rfl rfl rfl rfl ?_
  refine x_aload_n (pc' := 1625) rfl rfl rfl rfl rfl ?_
  refine x_aload_n (pc' := 1626) rfl rfl rfl rfl rfl ?_
  refine x_iload (pc' := 1628) rfl rfl rfl ?_
  refine x_iconst (pc' := 1629) rfl rfl ?_
  refine x_iadd (pc' := 1630) (z := 1) rfl rfl (by decide) ?_
  refine x_iald (pc' := 1631) (N := 7) (x := 2) rfl rfl rfl (Eq.trans rdNL (z_N_29_0 e)) (io_in (p := 1) (N := 7) (by decide) (by decide)) (Eq.trans (congrArg (sA (sLw t 23 0 0 (0 : Int64)) 29 0) (nn_io (p := 1) (by decide))) (Eq.trans rdAL (Eq.trans (z_A_29_0_1 e) e0))) ?_
  refine x_cv (ls0 := [_, _]) (rest := []) rfl rfl rfl rfl rfl ?_
  refine x_aload_n (pc' := 1) rfl rfl rfl rfl rfl ?_
  refine x_iload_n (pc' := 2) rfl rfl rfl ?_
  refine x_cs (ls0 := [_]) (rest := [_]) rfl rfl rfl rfl ?_
  refine x_iload_n (pc' := 1) rfl rfl rfl ?_
  refine x_iconst (pc' := 2) rfl rfl ?_
  refine x_iconst (pc' := 3) rfl rfl ?_
  refine x_cs (ls0 := [_, _, _]) (rest := []) rfl rfl rfl rfl ?_
  refine x_iload_n (pc' := 1) rfl rfl rfl ?_
  refine x_iload_n (pc' := 2) rfl rfl rfl ?_
  refine x_icmp (a' := 14) (pc' := 5) (z := false) rfl rfl rfl (by decide) (fun h => by cases h) (fun _ => ?_)
  refine x_iload_n (pc' := 6) rfl rfl rfl ?_
  refine x_iload_n (pc' := 7) rfl rfl rfl ?_
  refine x_icmp (a' := 14) (pc' := 10) (z := false) rfl rfl rfl (by decide) (fun h => by cases h) (fun _ => ?_)
  refine x_iconst (pc' := 11) rfl rfl ?_
  refine x_goto (pc' := 15) rfl rfl ?_
  refine x_retz (z := true) rfl rfl ?_
  refine sK_i (pc' := 6) rfl ?_
  refine x_retz (z := true) rfl rfl ?_
  refine sK_i (pc' := 5) rfl ?_
  refine x_if (a' := 12) (pc' := 8) (z := false) rfl rfl rfl (by decide) (fun h => by cases h) (fun _ => ?_)
  refine x_iconst (pc' := 9) rfl rfl ?_
  refine x_goto (pc' := 13) rfl rfl ?_
  refine x_cv (ls0 := [_, _]) (rest := []) rfl rfl rfl rfl rfl ?_
  refine x_aload_n (pc' := 1) rfl rfl rfl rfl rfl ?_
  refine x_iload_n (pc' := 2) rfl rfl rfl ?_
  refine x_pI (pc' := 5) rfl rfl rfl ?_
  refine x_iload_n (pc' := 6) rfl rfl rfl ?_
  refine x_if (a' := 13) (pc' := 9) (z := false) rfl rfl rfl (by decide) (fun h => by cases h) (fun _ => ?_)
  refine x_iconst (pc' := 10) rfl rfl ?_
  refine x_goto (pc' := 14) rfl rfl ?_
  refine x_retz (z := true) rfl rfl ?_
  refine sK_i (pc' := 16) rfl ?_
  refine x_if (a' := 28) (pc' := 19) (z := false) rfl rfl rfl (by decide) (fun h => by cases h) (fun _ => ?_)
  refine x_aload_n (pc' := 20) rfl rfl rfl rfl rfl ?_
  refine x_gR (pc' := 23) (r := (some 0)) rfl rfl rfl (Eq.trans rdRI (Eq.trans rdRL (z_R_769_0 e))) ?_
  refine x_iload_n (pc' := 24) rfl rfl rfl ?_
  refine x_iald (pc' := 25) (N := 5) (x := 0) rfl rfl rfl (Eq.trans rdNI (Eq.trans rdNL (z_N_21_0 e))) (io_in (p := 2) (N := 5) (by decide) (by decide)) (Eq.trans (congrArg (sA (sIw (sLw t 23 0 0 (0 : Int64)) 768 0 0) 21 0) (nn_io (p := 2) (by decide))) (Eq.trans rdAI (Eq.trans rdAL (z_A_21_0_2 e)))) ?_
  refine x_goto (pc' := 29) rfl rfl ?_
  refine x_reti rfl rfl ?_
  refine sK_i (pc' := 1634) rfl ?_
  refine x_istore (pc' := 1636) (ls' := [_, _, _, _, _, _, _]) rfl rfl rfl rfl ?_
  refine x_aload_n (pc' := 1637) rfl rfl rfl rfl rfl ?_
  refine x_cv (ls0 := [_]) (rest := []) rfl rfl rfl rfl rfl ?_
  refine x_aload_n (pc' := 1) rfl rfl rfl rfl rfl ?_
  refine x_gI (pc' := 4) (x := 0) rfl rfl rfl sI_s ?_
  refine x_reti rfl rfl ?_
  refine sK_i (pc' := 1640) rfl ?_
  refine x_iload (pc' := 1642) rfl rfl rfl ?_
  refine x_icmp (a' := 1647) (pc' := 1645) (z := true) rfl rfl rfl (by decide) (fun _ => ?_) (fun h => by cases h)
  refine x_iload (pc' := 1649) rfl rfl rfl ?_
  refine x_if (a' := 1664) (pc' := 1652) (z := false) rfl rfl rfl (by decide) (fun h => by cases h) (fun _ => ?_)
  refine x_aload_n (pc' := 1653) rfl rfl rfl rfl rfl ?_
  refine x_iconst (pc' := 1654) rfl rfl ?_
  refine x_lald (pc' := 1655) (N := 1) (x := (0 : Int64)) rfl rfl (Eq.trans rdNI (Eq.trans rdNL (z_N_23_0 e))) (io_in (p := 0) (N := 1) (by decide) (by decide)) (Eq.trans (congrArg (sL (sIw (sLw t 23 0 0 (0 : Int64)) 768 0 0) 23 0) (nn_io (p := 0) (by decide))) (Eq.trans rdLI sL_s)) ?_
  refine x_iload (pc' := 1657) rfl rfl rfl ?_
  refine x_i2l (pc' := 1658) (z := (0 : Int64)) rfl rfl (by decide) ?_
  refine x_lcmp (pc' := 1659) (z := 0) rfl rfl (sLcmp_s _) ?_
  refine x_if (a' := 1664) (pc' := 1662) (z := true) rfl rfl rfl (by decide) (fun _ => ?_) (fun h => by cases h)
  refine x_goto (pc' := 2938) rfl rfl ?_
  refine x_iinc (pc' := 2941) (y := 7) (ls' := [_, _, _, _, _, _, _]) rfl rfl rfl rfl rfl ?_
  refine x_goto (pc' := 23) rfl rfl ?_
  refine x_iload (pc' := 25) rfl rfl rfl ?_
  refine x_aload_n (pc' := 26) rfl rfl rfl rfl rfl ?_
  refine x_alen (pc' := 27) (N := 7) rfl rfl rfl (Eq.trans rdNI (Eq.trans rdNL (z_N_29_0 e))) (?_ : X _ _ _ (.inl 7 :: _) _ _)
  refine x_bipush (pc' := 29) rfl rfl ?_
  refine x_isub (pc' := 30) (z := 0) rfl rfl (by decide) ?_
  refine x_icmp (a' := 2944) (pc' := 33) (z := true) rfl rfl rfl (by decide) (fun _ => ?_) (fun h => by cases h)
  refine x_iconst (pc' := 2945) rfl rfl ?_
  refine x_retz (z := true) rfl rfl ?_
  exact Qp_ok e (p := 0) (q := 0) rfl rfl rfl rfl
set_option maxHeartbeats 4000000 in
set_option maxRecDepth 10000 in
theorem v_18_3 {t : sT} {xs : Nat → Int32}
    (e : t = T16 7 xs)
    (hk : ((xs 0) &&& 63) = 18)
    (e0 : xs 1 = 3) :
    X 297 23 [.inr (.inr (29, (some 0))), .inr (.inr (11, (some 0))), .inr (.inr (12, (some 0))), .inr (.inr (23, (some 0))), .inl 0, sJk, sJk] [] t Qp := by
  refine x_iload (pc' := 25) rfl rfl rfl ?_
  refine x_aload_n (pc' := 26) rfl rfl rfl rfl rfl ?_
  refine x_alen (pc' := 27) (N := 7) rfl rfl rfl (z_N_29_0 e) (?_ : X _ _ _ (.inl 7 :: _) _ _)
  refine x_bipush (pc' := 29) rfl rfl ?_
  refine x_isub (pc' := 30) (z := 0) rfl rfl (by decide) ?_
  refine x_icmp (a' := 2944) (pc' := 33) (z := false) rfl rfl rfl (by decide) (fun h => by cases h) (fun _ => ?_)
  refine x_aload_n (pc' := 34) rfl rfl rfl rfl rfl ?_
  refine x_iload (pc' := 36) rfl rfl rfl ?_
  refine x_iald (pc' := 37) (N := 7) (x := (xs 0)) rfl rfl rfl (z_N_29_0 e) (io_in (p := 0) (N := 7) (by decide) (by decide)) (Eq.trans (congrArg (sA t 29 0) (nn_io (p := 0) (by decide))) (z_A_29_0_0 e)) ?_
  refine x_bipush (pc' := 39) rfl rfl ?_
  refine x_iand (pc' := 40) (z := ((xs 0) &&& 63)) rfl rfl rfl ?_
  refine x_switch (pc' := 1611) rfl (by rw [hk]; decide) ?_
  refine x_aload_n (pc' := 1612) rfl rfl rfl rfl rfl ?_
  refine x_aload_n (pc' := 1613) rfl rfl rfl rfl rfl ?_
  refine x_iload (pc' := 1615) rfl rfl rfl ?_
  refine x_iconst (pc' := 1616) rfl rfl ?_
  refine x_iadd (pc' := 1617) (z := 1) rfl rfl (by decide) ?_
  refine x_iald (pc' := 1618) (N := 7) (x := 3) rfl rfl rfl (z_N_29_0 e) (io_in (p := 1) (N := 7) (by decide) (by decide)) (Eq.trans (congrArg (sA t 29 0) (nn_io (p := 1) (by decide))) (Eq.trans (z_A_29_0_1 e) e0)) ?_
  refine x_aload_n (pc' := 1619) rfl rfl rfl rfl rfl ?_
  refine x_cs (ls0 := [_, _, _, sJk]) (rest := []) rfl rfl rfl rfl ?_
  refine x_aload_n (pc' := 1) rfl rfl rfl rfl rfl ?_
  refine x_iconst (pc' := 2) rfl rfl ?_
  refine x_aload_n (pc' := 3) rfl rfl rfl rfl rfl ?_
  refine x_iload_n (pc' := 4) rfl rfl rfl ?_
  refine x_cv (ls0 := [_, _]) (rest := [_, _]) rfl rfl rfl rfl rfl ?_
  refine x_aload_n (pc' := 1) rfl rfl rfl rfl rfl ?_
  refine x_iload_n (pc' := 2) rfl rfl rfl ?_
  refine x_cv (ls0 := [_, _]) (rest := []) rfl rfl rfl rfl rfl ?_
  refine x_iload_n (pc' := 1) rfl rfl rfl ?_
  refine x_if (a' := 16) (pc' := 4) (z := false) rfl rfl rfl (by decide) (fun h => by cases h) (fun _ => ?_)
  refine x_iload_n (pc' := 5) rfl rfl rfl ?_
  refine x_aload_n (pc' := 6) rfl rfl rfl rfl rfl ?_
  refine x_gR (pc' := 9) (r := (some 0)) rfl rfl rfl (z_R_705_0 e) ?_
  refine x_gR (pc' := 12) (r := (some 0)) rfl rfl rfl (z_R_256_0 e) ?_
  refine x_alen (pc' := 13) (N := 5) rfl rfl rfl (z_N_24_0 e) (?_ : X _ _ _ (.inl 5 :: _) _ _)
  refine x_icmp (a' := 27) (pc' := 16) (z := true) rfl rfl rfl (by decide) (fun _ => ?_) (fun h => by cases h)
  refine x_aload_n (pc' := 28) rfl rfl rfl rfl rfl ?_
  refine x_gR (pc' := 31) (r := (some 0)) rfl rfl rfl (z_R_705_0 e) ?_
  refine x_gR (pc' := 34) (r := (some 0)) rfl rfl rfl (z_R_256_0 e) ?_
  refine x_iload_n (pc' := 35) rfl rfl rfl ?_
  refine x_aald (pc' := 36) (N := 5) (k' := 1) (r := (some 3)) rfl rfl rfl (z_N_24_0 e) (io_in (p := 3) (N := 5) (by decide) (by decide)) (Eq.trans (congrArg (sE t 24 0) (nn_io (p := 3) (by decide))) (z_E_24_0_3 e)) ?_
  refine x_reta rfl rfl ?_
  refine sK_i (pc' := 5) rfl ?_
  refine x_gI (pc' := 8) (x := 0) rfl rfl rfl (z_I_67_3 e) ?_
  refine x_reti rfl rfl ?_
  refine sK_i (pc' := 7) rfl ?_
  refine x_i2l (pc' := 8) (z := (0 : Int64)) rfl rfl (by decide) ?_
  refine x_last (pc' := 9) (N := 1) (p := 0) rfl rfl (z_N_23_0 e) (io_in (p := 0) (N := 1) (by decide) (by decide)) (nn_io (p := 0) (by decide)) ?_
  refine x_goto (pc' := 15) rfl rfl ?_
  refine x_iconst (pc' := 16) rfl rfl ?_
  refine x_reti rfl rfl ?_
  refine sK_i (pc' := 1622) rfl ?_
  refine x_istore (pc' := 1624) (ls' := [_, _, _, _, _, _, _]) rfl rfl rfl rfl ?_
  refine x_aload_n (pc' := 1625) rfl rfl rfl rfl rfl ?_
  refine x_aload_n (pc' := 1626) rfl rfl rfl rfl rfl ?_
  refine x_iload (pc' := 1628) rfl rfl rfl ?_
  refine x_iconst (pc' := 1629) rfl rfl ?_
  refine x_iadd (pc' := 1630) (z := 1) rfl rfl (by decide) ?_
  refine x_iald (pc' := 1631) (N := 7) (x := 3) rfl rfl rfl (Eq.trans rdNL (z_N_29_0 e)) (io_in (p := 1) (N := 7) (by decide) (by decide)) (Eq.trans (congrArg (sA (sLw t 23 0 0 (0 : Int64)) 29 0) (nn_io (p := 1) (by decide))) (Eq.trans rdAL (Eq.trans (z_A_29_0_1 e) e0))) ?_
  refine x_cv (ls0 := [_, _]) (rest := []) rfl rfl rfl rfl rfl ?_
  refine x_aload_n (pc' := 1) rfl rfl rfl rfl rfl ?_
  refine x_iload_n (pc' := 2) rfl rfl rfl ?_
  refine x_cs (ls0 := [_]) (rest := [_]) rfl rfl rfl rfl ?_
  refine x_iload_n (pc' := 1) rfl rfl rfl ?_
  refine x_iconst (pc' := 2) rfl rfl ?_
  refine x_iconst (pc' := 3) rfl rfl ?_
  refine x_cs (ls0 := [_, _, _]) (rest := []) rfl rfl rfl rfl ?_
  refine x_iload_n (pc' := 1) rfl rfl rfl ?_
  refine x_iload_n (pc' := 2) rfl rfl rfl ?_
  refine x_icmp (a' := 14) (pc' := 5) (z := false) rfl rfl rfl (by decide) (fun h => by cases h) (fun _ => ?_)
  refine x_iload_n (pc' := 6) rfl rfl rfl ?_
  refine x_iload_n (pc' := 7) rfl rfl rfl ?_
  refine x_icmp (a' := 14) (pc' := 10) (z := false) rfl rfl rfl (by decide) (fun h => by cases h) (fun _ => ?_)
  refine x_iconst (pc' := 11) rfl rfl ?_
  refine x_goto (pc' := 15) rfl rfl ?_
  refine x_retz (z := true) rfl rfl ?_
  refine sK_i (pc' := 6) rfl ?_
  refine x_retz (z := true) rfl rfl ?_
  refine sK_i (pc' := 5) rfl ?_
  refine x_if (a' := 12) (pc' := 8) (z := false) rfl rfl rfl (by decide) (fun h => by cases h) (fun _ => ?_)
  refine x_iconst (pc' := 9) rfl rfl ?_
  refine x_goto (pc' := 13) rfl rfl ?_
  refine x_cv (ls0 := [_, _]) (rest := []) rfl rfl rfl rfl rfl ?_
  refine x_aload_n (pc' := 1) rfl rfl rfl rfl rfl ?_
  refine x_iload_n (pc' := 2) rfl rfl rfl ?_
  refine x_pI (pc' := 5) rfl rfl rfl ?_
  refine x_iload_n (pc' := 6) rfl rfl rfl ?_
  refine x_if (a' := 13) (pc' := 9) (z := false) rfl rfl rfl (by decide) (fun h => by cases h) (fun _ => ?_)
  refine x_iconst (pc' := 10) rfl rfl ?_
  refine x_goto (pc' := 14) rfl rfl ?_
  refine x_retz (z := true) rfl rfl ?_
  refine sK_i (pc' := 16) rfl ?_
  refine x_if (a' := 28) (pc' := 19) (z := false) rfl rfl rfl (by decide) (fun h => by cases h) (fun _ => ?_)
  refine x_aload_n (pc' := 20) rfl rfl rfl rfl rfl ?_
  refine x_gR (pc' := 23) (r := (some 0)) rfl rfl rfl (Eq.trans rdRI (Eq.trans rdRL (z_R_769_0 e))) ?_
  refine x_iload_n (pc' := 24) rfl rfl rfl ?_
  refine x_iald (pc' := 25) (N := 5) (x := 0) rfl rfl rfl (Eq.trans rdNI (Eq.trans rdNL (z_N_21_0 e))) (io_in (p := 3) (N := 5) (by decide) (by decide)) (Eq.trans (congrArg (sA (sIw (sLw t 23 0 0 (0 : Int64)) 768 0 0) 21 0) (nn_io (p := 3) (by decide))) (Eq.trans rdAI (Eq.trans rdAL (z_A_21_0_3 e)))) ?_
  refine x_goto (pc' := 29) rfl rfl ?_
  refine x_reti rfl rfl ?_
  refine sK_i (pc' := 1634) rfl ?_
  refine x_istore (pc' := 1636) (ls' := [_, _, _, _, _, _, _]) rfl rfl rfl rfl ?_
  refine x_aload_n (pc' := 1637) rfl rfl rfl rfl rfl ?_
  refine x_cv (ls0 := [_]) (rest := []) rfl rfl rfl rfl rfl ?_
  refine x_aload_n (pc' := 1) rfl rfl rfl rfl rfl ?_
  refine x_gI (pc' := 4) (x := 0) rfl rfl rfl sI_s ?_
  refine x_reti rfl rfl ?_
  refine sK_i (pc' := 1640) rfl ?_
  refine x_iload (pc' := 1642) rfl rfl rfl ?_
  refine x_icmp (a' := 1647) (pc' := 1645) (z := true) rfl rfl rfl (by decide) (fun _ => ?_) (fun h => by cases h)
  refine x_iload (pc' := 1649) rfl rfl rfl ?_
  refine x_if (a' := 1664) (pc' := 1652) (z := false) rfl rfl rfl (by decide) (fun h => by cases h) (fun _ => ?_)
  refine x_aload_n (pc' := 1653) rfl rfl rfl rfl rfl ?_
  refine x_iconst (pc' := 1654) rfl rfl ?_
  refine x_lald (pc' := 1655) (N := 1) (x := (0 : Int64)) rfl rfl (Eq.trans rdNI (Eq.trans rdNL (z_N_23_0 e))) (io_in (p := 0) (N := 1) (by decide) (by decide)) (Eq.trans (congrArg (sL (sIw (sLw t 23 0 0 (0 : Int64)) 768 0 0) 23 0) (nn_io (p := 0) (by decide))) (Eq.trans rdLI sL_s)) ?_
  refine x_iload (pc' := 1657) rfl rfl rfl ?_
  refine x_i2l (pc' := 1658) (z := (0 : Int64)) rfl rfl (by decide) ?_
  refine x_lcmp (pc' := 1659) (z := 0) rfl rfl (sLcmp_s _) ?_
  refine x_if (a' := 1664) (pc' := 1662) (z := true) rfl rfl rfl (by decide) (fun _ => ?_) (fun h => by cases h)
  refine x_goto (pc' := 2938) rfl rfl ?_
  refine x_iinc (pc' := 2941) (y := 7) (ls' := [_, _, _, _, _, _, _]) rfl rfl rfl rfl rfl ?_
  refine x_goto (pc' := 23) rfl rfl ?_
  refine x_iload (pc' := 25) rfl rfl rfl ?_
  refine x_aload_n (pc' := 26) rfl rfl rfl rfl rfl ?_
  refine x_alen (pc' := 27) (N := 7) rfl rfl rfl (Eq.trans rdNI (Eq.trans rdNL (z_N_29_0 e))) (?_ : X _ _ _ (.inl 7 :: _) _ _)
  refine x_bipush (pc' := 29) rfl rfl ?_
  refine x_isub (pc' := 30) (z := 0) rfl rfl (by decide) ?_
  refine x_icmp (a' := 2944) (pc' := 33) (z := true) rfl rfl rfl (by decide) (fun _ => ?_) (fun h => by cases h)
  refine x_iconst (pc' := 2945) rfl rfl ?_
  refine x_retz (z := true) rfl rfl ?_
  exact Qp_ok e (p := 0) (q := 0) rfl rfl rfl rfl
set_option maxHeartbeats 4000000 in
set_option maxRecDepth 10000 in
theorem v_18_4 {t : sT} {xs : Nat → Int32}
    (e : t = T16 7 xs)
    (hk : ((xs 0) &&& 63) = 18)
    (e0 : xs 1 = 4) :
    X 297 23 [.inr (.inr (29, (some 0))), .inr (.inr (11, (some 0))), .inr (.inr (12, (some 0))), .inr (.inr (23, (some 0))), .inl 0, sJk, sJk] [] t Qp := by
  refine x_iload (pc' := 25) rfl rfl rfl ?_
  refine x_aload_n (pc' := 26) rfl rfl rfl rfl rfl ?_
  refine x_alen (pc' := 27) (N := 7) rfl rfl rfl (z_N_29_0 e) (?_ : X _ _ _ (.inl 7 :: _) _ _)
  refine x_bipush (pc' := 29) rfl rfl ?_
  refine x_isub (pc' := 30) (z := 0) rfl rfl (by decide) ?_
  refine x_icmp (a' := 2944) (pc' := 33) (z := false) rfl rfl rfl (by decide) (fun h => by cases h) (fun _ => ?_)
  refine x_aload_n (pc' := 34) rfl rfl rfl rfl rfl ?_
  refine x_iload (pc' := 36) rfl rfl rfl ?_
  refine x_iald (pc' := 37) (N := 7) (x := (xs 0)) rfl rfl rfl (z_N_29_0 e) (io_in (p := 0) (N := 7) (by decide) (by decide)) (Eq.trans (congrArg (sA t 29 0) (nn_io (p := 0) (by decide))) (z_A_29_0_0 e)) ?_
  refine x_bipush (pc' := 39) rfl rfl ?_
  refine x_iand (pc' := 40) (z := ((xs 0) &&& 63)) rfl rfl rfl ?_
  refine x_switch (pc' := 1611) rfl (by rw [hk]; decide) ?_
  refine x_aload_n (pc' := 1612) rfl rfl rfl rfl rfl ?_
  refine x_aload_n (pc' := 1613) rfl rfl rfl rfl rfl ?_
  refine x_iload (pc' := 1615) rfl rfl rfl ?_
  refine x_iconst (pc' := 1616) rfl rfl ?_
  refine x_iadd (pc' := 1617) (z := 1) rfl rfl (by decide) ?_
  refine x_iald (pc' := 1618) (N := 7) (x := 4) rfl rfl rfl (z_N_29_0 e) (io_in (p := 1) (N := 7) (by decide) (by decide)) (Eq.trans (congrArg (sA t 29 0) (nn_io (p := 1) (by decide))) (Eq.trans (z_A_29_0_1 e) e0)) ?_
  refine x_aload_n (pc' := 1619) rfl rfl rfl rfl rfl ?_
  refine x_cs (ls0 := [_, _, _, sJk]) (rest := []) rfl rfl rfl rfl ?_
  refine x_aload_n (pc' := 1) rfl rfl rfl rfl rfl ?_
  refine x_iconst (pc' := 2) rfl rfl ?_
  refine x_aload_n (pc' := 3) rfl rfl rfl rfl rfl ?_
  refine x_iload_n (pc' := 4) rfl rfl rfl ?_
  refine x_cv (ls0 := [_, _]) (rest := [_, _]) rfl rfl rfl rfl rfl ?_
  refine x_aload_n (pc' := 1) rfl rfl rfl rfl rfl ?_
  refine x_iload_n (pc' := 2) rfl rfl rfl ?_
  refine x_cv (ls0 := [_, _]) (rest := []) rfl rfl rfl rfl rfl ?_
  refine x_iload_n (pc' := 1) rfl rfl rfl ?_
  refine x_if (a' := 16) (pc' := 4) (z := false) rfl rfl rfl (by decide) (fun h => by cases h) (fun _ => ?_)
  refine x_iload_n (pc' := 5) rfl rfl rfl ?_
  refine x_aload_n (pc' := 6) rfl rfl rfl rfl rfl ?_
  refine x_gR (pc' := 9) (r := (some 0)) rfl rfl rfl (z_R_705_0 e) ?_
  refine x_gR (pc' := 12) (r := (some 0)) rfl rfl rfl (z_R_256_0 e) ?_
  refine x_alen (pc' := 13) (N := 5) rfl rfl rfl (z_N_24_0 e) (?_ : X _ _ _ (.inl 5 :: _) _ _)
  refine x_icmp (a' := 27) (pc' := 16) (z := true) rfl rfl rfl (by decide) (fun _ => ?_) (fun h => by cases h)
  refine x_aload_n (pc' := 28) rfl rfl rfl rfl rfl ?_
  refine x_gR (pc' := 31) (r := (some 0)) rfl rfl rfl (z_R_705_0 e) ?_
  refine x_gR (pc' := 34) (r := (some 0)) rfl rfl rfl (z_R_256_0 e) ?_
  refine x_iload_n (pc' := 35) rfl rfl rfl ?_
  refine x_aald (pc' := 36) (N := 5) (k' := 1) (r := (some 4)) rfl rfl rfl (z_N_24_0 e) (io_in (p := 4) (N := 5) (by decide) (by decide)) (Eq.trans (congrArg (sE t 24 0) (nn_io (p := 4) (by decide))) (z_E_24_0_4 e)) ?_
  refine x_reta rfl rfl ?_
  refine sK_i (pc' := 5) rfl ?_
  refine x_gI (pc' := 8) (x := 0) rfl rfl rfl (z_I_67_4 e) ?_
  refine x_reti rfl rfl ?_
  refine sK_i (pc' := 7) rfl ?_
  refine x_i2l (pc' := 8) (z := (0 : Int64)) rfl rfl (by decide) ?_
  refine x_last (pc' := 9) (N := 1) (p := 0) rfl rfl (z_N_23_0 e) (io_in (p := 0) (N := 1) (by decide) (by decide)) (nn_io (p := 0) (by decide)) ?_
  refine x_goto (pc' := 15) rfl rfl ?_
  refine x_iconst (pc' := 16) rfl rfl ?_
  refine x_reti rfl rfl ?_
  refine sK_i (pc' := 1622) rfl ?_
  refine x_istore (pc' := 1624) (ls' := [_, _, _, _, _, _, _]) rfl rfl rfl rfl ?_
  refine x_aload_n (pc' := 1625) rfl rfl rfl rfl rfl ?_
  refine x_aload_n (pc' := 1626) rfl rfl rfl rfl rfl ?_
  refine x_iload (pc' := 1628) rfl rfl rfl ?_
  refine x_iconst (pc' := 1629) rfl rfl ?_
  refine x_iadd (pc' := 1630) (z := 1) rfl rfl (by decide) ?_
  refine x_iald (pc' := 1631) (N := 7) (x := 4) rfl rfl rfl (Eq.trans rdNL (z_N_29_0 e)) (io_in (p := 1) (N := 7) (by decide) (by decide)) (Eq.trans (congrArg (sA (sLw t 23 0 0 (0 : Int64)) 29 0) (nn_io (p := 1) (by decide))) (Eq.trans rdAL (Eq.trans (z_A_29_0_1 e) e0))) ?_
  refine x_cv (ls0 := [_, _]) (rest := []) rfl rfl rfl rfl rfl ?_
  refine x_aload_n (pc' := 1) rfl rfl rfl rfl rfl ?_
  refine x_iload_n (pc' := 2) rfl rfl rfl ?_
  refine x_cs (ls0 := [_]) (rest := [_]) rfl rfl rfl rfl ?_
  refine x_iload_n (pc' := 1) rfl rfl rfl ?_
  refine x_iconst (pc' := 2) rfl rfl ?_
  refine x_iconst (pc' := 3) rfl rfl ?_
  refine x_cs (ls0 := [_, _, _]) (rest := []) rfl rfl rfl rfl ?_
  refine x_iload_n (pc' := 1) rfl rfl rfl ?_
  refine x_iload_n (pc' := 2) rfl rfl rfl ?_
  refine x_icmp (a' := 14) (pc' := 5) (z := false) rfl rfl rfl (by decide) (fun h => by cases h) (fun _ => ?_)
  refine x_iload_n (pc' := 6) rfl rfl rfl ?_
  refine x_iload_n (pc' := 7) rfl rfl rfl ?_
  refine x_icmp (a' := 14) (pc' := 10) (z := false) rfl rfl rfl (by decide) (fun h => by cases h) (fun _ => ?_)
  refine x_iconst (pc' := 11) rfl rfl ?_
  refine x_goto (pc' := 15) rfl rfl ?_
  refine x_retz (z := true) rfl rfl ?_
  refine sK_i (pc' := 6) rfl ?_
  refine x_retz (z := true) rfl rfl ?_
  refine sK_i (pc' := 5) rfl ?_
  refine x_if (a' := 12) (pc' := 8) (z := false) rfl rfl rfl (by decide) (fun h => by cases h) (fun _ => ?_)
  refine x_iconst (pc' := 9) rfl rfl ?_
  refine x_goto (pc' := 13) rfl rfl ?_
  refine x_cv (ls0 := [_, _]) (rest := []) rfl rfl rfl rfl rfl ?_
  refine x_aload_n (pc' := 1) rfl rfl rfl rfl rfl ?_
  refine x_iload_n (pc' := 2) rfl rfl rfl ?_
  refine x_pI (pc' := 5) rfl rfl rfl ?_
  refine x_iload_n (pc' := 6) rfl rfl rfl ?_
  refine x_if (a' := 13) (pc' := 9) (z := false) rfl rfl rfl (by decide) (fun h => by cases h) (fun _ => ?_)
  refine x_iconst (pc' := 10) rfl rfl ?_
  refine x_goto (pc' := 14) rfl rfl ?_
  refine x_retz (z := true) rfl rfl ?_
  refine sK_i (pc' := 16) rfl ?_
  refine x_if (a' := 28) (pc' := 19) (z := false) rfl rfl rfl (by decide) (fun h => by cases h) (fun _ => ?_)
  refine x_aload_n (pc' := 20) rfl rfl rfl rfl rfl ?_
  refine x_gR (pc' := 23) (r := (some 0)) rfl rfl rfl (Eq.trans rdRI (Eq.trans rdRL (z_R_769_0 e))) ?_
  refine x_iload_n (pc' := 24) rfl rfl rfl ?_
  refine x_iald (pc' := 25) (N := 5) (x := 0) rfl rfl rfl (Eq.trans rdNI (Eq.trans rdNL (z_N_21_0 e))) (io_in (p := 4) (N := 5) (by decide) (by decide)) (Eq.trans (congrArg (sA (sIw (sLw t 23 0 0 (0 : Int64)) 768 0 0) 21 0) (nn_io (p := 4) (by decide))) (Eq.trans rdAI (Eq.trans rdAL (z_A_21_0_4 e)))) ?_
  refine x_goto (pc' := 29) rfl rfl ?_
  refine x_reti rfl rfl ?_
  refine sK_i (pc' := 1634) rfl ?_
  refine x_istore (pc' := 1636) (ls' := [_, _, _, _, _, _, _]) rfl rfl rfl rfl ?_
  refine x_aload_n (pc' := 1637) rfl rfl rfl rfl rfl ?_
  refine x_cv (ls0 := [_]) (rest := []) rfl rfl rfl rfl rfl ?_
  refine x_aload_n (pc' := 1) rfl rfl rfl rfl rfl ?_
  refine x_gI (pc' := 4) (x := 0) rfl rfl rfl sI_s ?_
  refine x_reti rfl rfl ?_
  refine sK_i (pc' := 1640) rfl ?_
  refine x_iload (pc' := 1642) rfl rfl rfl ?_
  refine x_icmp (a' := 1647) (pc' := 1645) (z := true) rfl rfl rfl (by decide) (fun _ => ?_) (fun h => by cases h)
  refine x_iload (pc' := 1649) rfl rfl rfl ?_
  refine x_if (a' := 1664) (pc' := 1652) (z := false) rfl rfl rfl (by decide) (fun h => by cases h) (fun _ => ?_)
  refine x_aload_n (pc' := 1653) rfl rfl rfl rfl rfl ?_
  refine x_iconst (pc' := 1654) rfl rfl ?_
  refine x_lald (pc' := 1655) (N := 1) (x := (0 : Int64)) rfl rfl (Eq.trans rdNI (Eq.trans rdNL (z_N_23_0 e))) (io_in (p := 0) (N := 1) (by decide) (by decide)) (Eq.trans (congrArg (sL (sIw (sLw t 23 0 0 (0 : Int64)) 768 0 0) 23 0) (nn_io (p := 0) (by decide))) (Eq.trans rdLI sL_s)) ?_
  refine x_iload (pc' := 1657) rfl rfl rfl ?_
  refine x_i2l (pc' := 1658) (z := (0 : Int64)) rfl rfl (by decide) ?_
  refine x_lcmp (pc' := 1659) (z := 0) rfl rfl (sLcmp_s _) ?_
  refine x_if (a' := 1664) (pc' := 1662) (z := true) rfl rfl rfl (by decide) (fun _ => ?_) (fun h => by cases h)
  refine x_goto (pc' := 2938) rfl rfl ?_
  refine x_iinc (pc' := 2941) (y := 7) (ls' := [_, _, _, _, _, _, _]) rfl rfl rfl rfl rfl ?_
  refine x_goto (pc' := 23) rfl rfl ?_
  refine x_iload (pc' := 25) rfl rfl rfl ?_
  refine x_aload_n (pc' := 26) rfl rfl rfl rfl rfl ?_
  refine x_alen (pc' := 27) (N := 7) rfl rfl rfl (Eq.trans rdNI (Eq.trans rdNL (z_N_29_0 e))) (?_ : X _ _ _ (.inl 7 :: _) _ _)
  refine x_bipush (pc' := 29) rfl rfl ?_
  refine x_isub (pc' := 30) (z := 0) rfl rfl (by decide) ?_
  refine x_icmp (a' := 2944) (pc' := 33) (z := true) rfl rfl rfl (by decide) (fun _ => ?_) (fun h => by cases h)
  refine x_iconst (pc' := 2945) rfl rfl ?_
  refine x_retz (z := true) rfl rfl ?_
  exact Qp_ok e (p := 0) (q := 0) rfl rfl rfl rfl
set_option maxHeartbeats 4000000 in
set_option maxRecDepth 10000 in
theorem v_18_A {t : sT} {xs : Nat → Int32}
    (e : t = T16 7 xs)
    (hk : ((xs 0) &&& 63) = 18)
    (e0 : (xs 1) < 0) :
    X 297 23 [.inr (.inr (29, (some 0))), .inr (.inr (11, (some 0))), .inr (.inr (12, (some 0))), .inr (.inr (23, (some 0))), .inl 0, sJk, sJk] [] t Qp := by
  refine x_iload (pc' := 25) rfl rfl rfl ?_
  refine x_aload_n (pc' := 26) rfl rfl rfl rfl rfl ?_
  refine x_alen (pc' := 27) (N := 7) rfl rfl rfl (z_N_29_0 e) (?_ : X _ _ _ (.inl 7 :: _) _ _)
  refine x_bipush (pc' := 29) rfl rfl ?_
  refine x_isub (pc' := 30) (z := 0) rfl rfl (by decide) ?_
  refine x_icmp (a' := 2944) (pc' := 33) (z := false) rfl rfl rfl (by decide) (fun h => by cases h) (fun _ => ?_)
  refine x_aload_n (pc' := 34) rfl rfl rfl rfl rfl ?_
  refine x_iload (pc' := 36) rfl rfl rfl ?_
  refine x_iald (pc' := 37) (N := 7) (x := (xs 0)) rfl rfl rfl (z_N_29_0 e) (io_in (p := 0) (N := 7) (by decide) (by decide)) (Eq.trans (congrArg (sA t 29 0) (nn_io (p := 0) (by decide))) (z_A_29_0_0 e)) ?_
  refine x_bipush (pc' := 39) rfl rfl ?_
  refine x_iand (pc' := 40) (z := ((xs 0) &&& 63)) rfl rfl rfl ?_
  refine x_switch (pc' := 1611) rfl (by rw [hk]; decide) ?_
  refine x_aload_n (pc' := 1612) rfl rfl rfl rfl rfl ?_
  refine x_aload_n (pc' := 1613) rfl rfl rfl rfl rfl ?_
  refine x_iload (pc' := 1615) rfl rfl rfl ?_
  refine x_iconst (pc' := 1616) rfl rfl ?_
  refine x_iadd (pc' := 1617) (z := 1) rfl rfl (by decide) ?_
  refine x_iald (pc' := 1618) (N := 7) (x := (xs 1)) rfl rfl rfl (z_N_29_0 e) (io_in (p := 1) (N := 7) (by decide) (by decide)) (Eq.trans (congrArg (sA t 29 0) (nn_io (p := 1) (by decide))) (z_A_29_0_1 e)) ?_
  refine x_aload_n (pc' := 1619) rfl rfl rfl rfl rfl ?_
  refine x_cs (ls0 := [_, _, _, sJk]) (rest := []) rfl rfl rfl rfl ?_
  refine x_aload_n (pc' := 1) rfl rfl rfl rfl rfl ?_
  refine x_iconst (pc' := 2) rfl rfl ?_
  refine x_aload_n (pc' := 3) rfl rfl rfl rfl rfl ?_
  refine x_iload_n (pc' := 4) rfl rfl rfl ?_
  refine x_cv (ls0 := [_, _]) (rest := [_, _]) rfl rfl rfl rfl rfl ?_
  refine x_aload_n (pc' := 1) rfl rfl rfl rfl rfl ?_
  refine x_iload_n (pc' := 2) rfl rfl rfl ?_
  refine x_cv (ls0 := [_, _]) (rest := []) rfl rfl rfl rfl rfl ?_
  refine x_iload_n (pc' := 1) rfl rfl rfl ?_
  refine x_if (a' := 16) (pc' := 4) (z := decide ((xs 1) < 0)) rfl rfl rfl rfl (fun _ => ?_) (fun h => absurd e0 (of_decide_eq_false h))
  refine x_throw rfl rfl ?_
  refine sK_n (by decide +kernel) rfl ?_
  refine sK_h (h := 12) (by decide +kernel) rfl ?_
  refine x_catch_n (pc' := 13) (ls' := [_, _, _, _]) rfl rfl rfl rfl ?_
  refine x_iconst (pc' := 14) rfl rfl ?_
  refine x_reti rfl rfl ?_
  refine sK_i (pc' := 1622) rfl ?_
  refine x_istore (pc' := 1624) (ls' := [_, _, _, _, _, _, _]) rfl rfl rfl rfl ?_
  refine x_aload_n (pc' := 1625) rfl rfl rfl rfl rfl ?_
  refine x_aload_n (pc' := 1626) rfl rfl rfl rfl rfl ?_
  refine x_iload (pc' := 1628) rfl rfl rfl ?_
  refine x_iconst (pc' := 1629) rfl rfl ?_
  refine x_iadd (pc' := 1630) (z := 1) rfl rfl (by decide) ?_
  refine x_iald (pc' := 1631) (N := 7) (x := (xs 1)) rfl rfl rfl (Eq.trans rdNthr (z_N_29_0 e)) (io_in (p := 1) (N := 7) (by decide) (by decide)) (Eq.trans (congrArg (sA (sThr t) 29 0) (nn_io (p := 1) (by decide))) (Eq.trans rdAthr (z_A_29_0_1 e))) ?_
  refine x_cv (ls0 := [_, _]) (rest := []) rfl rfl rfl rfl rfl ?_
  refine x_aload_n (pc' := 1) rfl rfl rfl rfl rfl ?_
  refine x_iload_n (pc' := 2) rfl rfl rfl ?_
  refine x_cs (ls0 := [_]) (rest := [_]) rfl rfl rfl rfl ?_
  refine x_iload_n (pc' := 1) rfl rfl rfl ?_
  refine x_iconst (pc' := 2) rfl rfl ?_
  refine x_iconst (pc' := 3) rfl rfl ?_
  refine x_cs (ls0 := [_, _, _]) (rest := []) rfl rfl rfl rfl ?_
  refine x_iload_n (pc' := 1) rfl rfl rfl ?_
  refine x_iload_n (pc' := 2) rfl rfl rfl ?_
  refine x_icmp (a' := 14) (pc' := 5) (z := decide ((xs 1) < 0)) rfl rfl rfl rfl (fun _ => ?_) (fun h => absurd e0 (of_decide_eq_false h))
  refine x_iconst (pc' := 15) rfl rfl ?_
  refine x_retz (z := false) rfl rfl ?_
  refine sK_i (pc' := 6) rfl ?_
  refine x_retz (z := false) rfl rfl ?_
  refine sK_i (pc' := 5) rfl ?_
  refine x_if (a' := 12) (pc' := 8) (z := true) rfl rfl rfl (by decide) (fun _ => ?_) (fun h => by cases h)
  refine x_iconst (pc' := 13) rfl rfl ?_
  refine x_cv (ls0 := [_, _]) (rest := []) rfl rfl rfl rfl rfl ?_
  refine x_aload_n (pc' := 1) rfl rfl rfl rfl rfl ?_
  refine x_iload_n (pc' := 2) rfl rfl rfl ?_
  refine x_pI (pc' := 5) rfl rfl rfl ?_
  refine x_iload_n (pc' := 6) rfl rfl rfl ?_
  refine x_if (a' := 13) (pc' := 9) (z := true) rfl rfl rfl (by decide) (fun _ => ?_) (fun h => by cases h)
  refine x_iconst (pc' := 14) rfl rfl ?_
  refine x_retz (z := false) rfl rfl ?_
  refine sK_i (pc' := 16) rfl ?_
  refine x_if (a' := 28) (pc' := 19) (z := true) rfl rfl rfl (by decide) (fun _ => ?_) (fun h => by cases h)
  refine x_iconst (pc' := 29) rfl rfl ?_
  refine x_reti rfl rfl ?_
  refine sK_i (pc' := 1634) rfl ?_
  refine x_istore (pc' := 1636) (ls' := [_, _, _, _, _, _, _]) rfl rfl rfl rfl ?_
  refine x_aload_n (pc' := 1637) rfl rfl rfl rfl rfl ?_
  refine x_cv (ls0 := [_]) (rest := []) rfl rfl rfl rfl rfl ?_
  refine x_aload_n (pc' := 1) rfl rfl rfl rfl rfl ?_
  refine x_gI (pc' := 4) (x := 1) rfl rfl rfl sI_s ?_
  refine x_reti rfl rfl ?_
  refine sK_i (pc' := 1640) rfl ?_
  refine x_iload (pc' := 1642) rfl rfl rfl ?_
  refine x_icmp (a' := 1647) (pc' := 1645) (z := true) rfl rfl rfl (by decide) (fun _ => ?_) (fun h => by cases h)
  refine x_iload (pc' := 1649) rfl rfl rfl ?_
  refine x_if (a' := 1664) (pc' := 1652) (z := true) rfl rfl rfl (by decide) (fun _ => ?_) (fun h => by cases h)
  refine x_goto (pc' := 2938) rfl rfl ?_
  refine x_iinc (pc' := 2941) (y := 7) (ls' := [_, _, _, _, _, _, _]) rfl rfl rfl rfl rfl ?_
  refine x_goto (pc' := 23) rfl rfl ?_
  refine x_iload (pc' := 25) rfl rfl rfl ?_
  refine x_aload_n (pc' := 26) rfl rfl rfl rfl rfl ?_
  refine x_alen (pc' := 27) (N := 7) rfl rfl rfl (Eq.trans rdNI (Eq.trans rdNthr (z_N_29_0 e))) (?_ : X _ _ _ (.inl 7 :: _) _ _)
  refine x_bipush (pc' := 29) rfl rfl ?_
  refine x_isub (pc' := 30) (z := 0) rfl rfl (by decide) ?_
  refine x_icmp (a' := 2944) (pc' := 33) (z := true) rfl rfl rfl (by decide) (fun _ => ?_) (fun h => by cases h)
  refine x_iconst (pc' := 2945) rfl rfl ?_
  refine x_retz (z := true) rfl rfl ?_
  exact Qp_ok e (p := 1) (q := 6) rfl rfl rfl rfl
set_option maxHeartbeats 4000000 in
set_option maxRecDepth 10000 in
theorem v_18_B {t : sT} {xs : Nat → Int32}
    (e : t = T16 7 xs)
    (hk : ((xs 0) &&& 63) = 18)
    (e0 : ¬ (xs 1) < 0)
    (f0 : ¬ (xs 1) < 5) :
    X 297 23 [.inr (.inr (29, (some 0))), .inr (.inr (11, (some 0))), .inr (.inr (12, (some 0))), .inr (.inr (23, (some 0))), .inl 0, sJk, sJk] [] t Qp := by
  refine x_iload (pc' := 25) rfl rfl rfl ?_
  refine x_aload_n (pc' := 26) rfl rfl rfl rfl rfl ?_
  refine x_alen (pc' := 27) (N := 7) rfl rfl rfl (z_N_29_0 e) (?_ : X _ _ _ (.inl 7 :: _) _ _)
  refine x_bipush (pc' := 29) rfl rfl ?_
  refine x_isub (pc' := 30) (z := 0) rfl rfl (by decide) ?_
  refine x_icmp (a' := 2944) (pc' := 33) (z := false) rfl rfl rfl (by decide) (fun h => by cases h) (fun _ => ?_)
  refine x_aload_n (pc' := 34) rfl rfl rfl rfl rfl ?_
  refine x_iload (pc' := 36) rfl rfl rfl ?_
  refine x_iald (pc' := 37) (N := 7) (x := (xs 0)) rfl rfl rfl (z_N_29_0 e) (io_in (p := 0) (N := 7) (by decide) (by decide)) (Eq.trans (congrArg (sA t 29 0) (nn_io (p := 0) (by decide))) (z_A_29_0_0 e)) ?_
  refine x_bipush (pc' := 39) rfl rfl ?_
  refine x_iand (pc' := 40) (z := ((xs 0) &&& 63)) rfl rfl rfl ?_
  refine x_switch (pc' := 1611) rfl (by rw [hk]; decide) ?_
  refine x_aload_n (pc' := 1612) rfl rfl rfl rfl rfl ?_
  refine x_aload_n (pc' := 1613) rfl rfl rfl rfl rfl ?_
  refine x_iload (pc' := 1615) rfl rfl rfl ?_
  refine x_iconst (pc' := 1616) rfl rfl ?_
  refine x_iadd (pc' := 1617) (z := 1) rfl rfl (by decide) ?_
  refine x_iald (pc' := 1618) (N := 7) (x := (xs 1)) rfl rfl rfl (z_N_29_0 e) (io_in (p := 1) (N := 7) (by decide) (by decide)) (Eq.trans (congrArg (sA t 29 0) (nn_io (p := 1) (by decide))) (z_A_29_0_1 e)) ?_
  refine x_aload_n (pc' := 1619) rfl rfl rfl rfl rfl ?_
  refine x_cs (ls0 := [_, _, _, sJk]) (rest := []) rfl rfl rfl rfl ?_
  refine x_aload_n (pc' := 1) rfl rfl rfl rfl rfl ?_
  refine x_iconst (pc' := 2) rfl rfl ?_
  refine x_aload_n (pc' := 3) rfl rfl rfl rfl rfl ?_
  refine x_iload_n (pc' := 4) rfl rfl rfl ?_
  refine x_cv (ls0 := [_, _]) (rest := [_, _]) rfl rfl rfl rfl rfl ?_
  refine x_aload_n (pc' := 1) rfl rfl rfl rfl rfl ?_
  refine x_iload_n (pc' := 2) rfl rfl rfl ?_
  refine x_cv (ls0 := [_, _]) (rest := []) rfl rfl rfl rfl rfl ?_
  refine x_iload_n (pc' := 1) rfl rfl rfl ?_
  refine x_if (a' := 16) (pc' := 4) (z := decide ((xs 1) < 0)) rfl rfl rfl rfl (fun h => absurd (of_decide_eq_true h) e0) (fun _ => ?_)
  refine x_iload_n (pc' := 5) rfl rfl rfl ?_
  refine x_aload_n (pc' := 6) rfl rfl rfl rfl rfl ?_
  refine x_gR (pc' := 9) (r := (some 0)) rfl rfl rfl (z_R_705_0 e) ?_
  refine x_gR (pc' := 12) (r := (some 0)) rfl rfl rfl (z_R_256_0 e) ?_
  refine x_alen (pc' := 13) (N := 5) rfl rfl rfl (z_N_24_0 e) (?_ : X _ _ _ (.inl 5 :: _) _ _)
  refine x_icmp (a' := 27) (pc' := 16) (z := decide ((xs 1) < 5)) rfl rfl rfl rfl (fun h => absurd (of_decide_eq_true h) f0) (fun _ => ?_)
  refine x_throw rfl rfl ?_
  refine sK_n (by decide +kernel) rfl ?_
  refine sK_h (h := 12) (by decide +kernel) rfl ?_
  refine x_catch_n (pc' := 13) (ls' := [_, _, _, _]) rfl rfl rfl rfl ?_
  refine x_iconst (pc' := 14) rfl rfl ?_
  refine x_reti rfl rfl ?_
  refine sK_i (pc' := 1622) rfl ?_
  refine x_istore (pc' := 1624) (ls' := [_, _, _, _, _, _, _]) rfl rfl rfl rfl ?_
  refine x_aload_n (pc' := 1625) rfl rfl rfl rfl rfl ?_
  refine x_aload_n (pc' := 1626) rfl rfl rfl rfl rfl ?_
  refine x_iload (pc' := 1628) rfl rfl rfl ?_
  refine x_iconst (pc' := 1629) rfl rfl ?_
  refine x_iadd (pc' := 1630) (z := 1) rfl rfl (by decide) ?_
  refine x_iald (pc' := 1631) (N := 7) (x := (xs 1)) rfl rfl rfl (Eq.trans rdNthr (z_N_29_0 e)) (io_in (p := 1) (N := 7) (by decide) (by decide)) (Eq.trans (congrArg (sA (sThr t) 29 0) (nn_io (p := 1) (by decide))) (Eq.trans rdAthr (z_A_29_0_1 e))) ?_
  refine x_cv (ls0 := [_, _]) (rest := []) rfl rfl rfl rfl rfl ?_
  refine x_aload_n (pc' := 1) rfl rfl rfl rfl rfl ?_
  refine x_iload_n (pc' := 2) rfl rfl rfl ?_
  refine x_cs (ls0 := [_]) (rest := [_]) rfl rfl rfl rfl ?_
  refine x_iload_n (pc' := 1) rfl rfl rfl ?_
  refine x_iconst (pc' := 2) rfl rfl ?_
  refine x_iconst (pc' := 3) rfl rfl ?_
  refine x_cs (ls0 := [_, _, _]) (rest := []) rfl rfl rfl rfl ?_
  refine x_iload_n (pc' := 1) rfl rfl rfl ?_
  refine x_iload_n (pc' := 2) rfl rfl rfl ?_
  refine x_icmp (a' := 14) (pc' := 5) (z := decide ((xs 1) < 0)) rfl rfl rfl rfl (fun h => absurd (of_decide_eq_true h) e0) (fun _ => ?_)
  refine x_iload_n (pc' := 6) rfl rfl rfl ?_
  refine x_iload_n (pc' := 7) rfl rfl rfl ?_
  refine x_icmp (a' := 14) (pc' := 10) (z := decide (4 < (xs 1))) rfl rfl rfl rfl (fun _ => ?_) (fun h => absurd (lt_of5 f0) (of_decide_eq_false h))
  refine x_iconst (pc' := 15) rfl rfl ?_
  refine x_retz (z := false) rfl rfl ?_
  refine sK_i (pc' := 6) rfl ?_
  refine x_retz (z := false) rfl rfl ?_
  refine sK_i (pc' := 5) rfl ?_
  refine x_if (a' := 12) (pc' := 8) (z := true) rfl rfl rfl (by decide) (fun _ => ?_) (fun h => by cases h)
  refine x_iconst (pc' := 13) rfl rfl ?_
  refine x_cv (ls0 := [_, _]) (rest := []) rfl rfl rfl rfl rfl ?_
  refine x_aload_n (pc' := 1) rfl rfl rfl rfl rfl ?_
  refine x_iload_n (pc' := 2) rfl rfl rfl ?_
  refine x_pI (pc' := 5) rfl rfl rfl ?_
  refine x_iload_n (pc' := 6) rfl rfl rfl ?_
  refine x_if (a' := 13) (pc' := 9) (z := true) rfl rfl rfl (by decide) (fun _ => ?_) (fun h => by cases h)
  refine x_iconst (pc' := 14) rfl rfl ?_
  refine x_retz (z := false) rfl rfl ?_
  refine sK_i (pc' := 16) rfl ?_
  refine x_if (a' := 28) (pc' := 19) (z := true) rfl rfl rfl (by decide) (fun _ => ?_) (fun h => by cases h)
  refine x_iconst (pc' := 29) rfl rfl ?_
  refine x_reti rfl rfl ?_
  refine sK_i (pc' := 1634) rfl ?_
  refine x_istore (pc' := 1636) (ls' := [_, _, _, _, _, _, _]) rfl rfl rfl rfl ?_
  refine x_aload_n (pc' := 1637) rfl rfl rfl rfl rfl ?_
  refine x_cv (ls0 := [_]) (rest := []) rfl rfl rfl rfl rfl ?_
  refine x_aload_n (pc' := 1) rfl rfl rfl rfl rfl ?_
  refine x_gI (pc' := 4) (x := 1) rfl rfl rfl sI_s ?_
  refine x_reti rfl rfl ?_
  refine sK_i (pc' := 1640) rfl ?_
  refine x_iload (pc' := 1642) rfl rfl rfl ?_
  refine x_icmp (a' := 1647) (pc' := 1645) (z := true) rfl rfl rfl (by decide) (fun _ => ?_) (fun h => by cases h)
  refine x_iload (pc' := 1649) rfl rfl rfl ?_
  refine x_if (a' := 1664) (pc' := 1652) (z := true) rfl rfl rfl (by decide) (fun _ => ?_) (fun h => by cases h)
  refine x_goto (pc' := 2938) rfl rfl ?_
  refine x_iinc (pc' := 2941) (y := 7) (ls' := [_, _, _, _, _, _, _]) rfl rfl rfl rfl rfl ?_
  refine x_goto (pc' := 23) rfl rfl ?_
  refine x_iload (pc' := 25) rfl rfl rfl ?_
  refine x_aload_n (pc' := 26) rfl rfl rfl rfl rfl ?_
  refine x_alen (pc' := 27) (N := 7) rfl rfl rfl (Eq.trans rdNI (Eq.trans rdNthr (z_N_29_0 e))) (?_ : X _ _ _ (.inl 7 :: _) _ _)
  refine x_bipush (pc' := 29) rfl rfl ?_
  refine x_isub (pc' := 30) (z := 0) rfl rfl (by decide) ?_
  refine x_icmp (a' := 2944) (pc' := 33) (z := true) rfl rfl rfl (by decide) (fun _ => ?_) (fun h => by cases h)
  refine x_iconst (pc' := 2945) rfl rfl ?_
  refine x_retz (z := true) rfl rfl ?_
  exact Qp_ok e (p := 1) (q := 6) rfl rfl rfl rfl
set_option maxHeartbeats 4000000 in
set_option maxRecDepth 10000 in
theorem v_19 {t : sT} {xs : Nat → Int32}
    (e : t = T16 7 xs)
    (hk : ((xs 0) &&& 63) = 19) :
    X 297 23 [.inr (.inr (29, (some 0))), .inr (.inr (11, (some 0))), .inr (.inr (12, (some 0))), .inr (.inr (23, (some 0))), .inl 0, sJk, sJk] [] t Qp := by
  refine x_iload (pc' := 25) rfl rfl rfl ?_
  refine x_aload_n (pc' := 26) rfl rfl rfl rfl rfl ?_
  refine x_alen (pc' := 27) (N := 7) rfl rfl rfl (z_N_29_0 e) (?_ : X _ _ _ (.inl 7 :: _) _ _)
  refine x_bipush (pc' := 29) rfl rfl ?_
  refine x_isub (pc' := 30) (z := 0) rfl rfl (by decide) ?_
  refine x_icmp (a' := 2944) (pc' := 33) (z := false) rfl rfl rfl (by decide) (fun h => by cases h) (fun _ => ?_)
  refine x_aload_n (pc' := 34) rfl rfl rfl rfl rfl ?_
  refine x_iload (pc' := 36) rfl rfl rfl ?_
  refine x_iald (pc' := 37) (N := 7) (x := (xs 0)) rfl rfl rfl (z_N_29_0 e) (io_in (p := 0) (N := 7) (by decide) (by decide)) (Eq.trans (congrArg (sA t 29 0) (nn_io (p := 0) (by decide))) (z_A_29_0_0 e)) ?_
  refine x_bipush (pc' := 39) rfl rfl ?_
  refine x_iand (pc' := 40) (z := ((xs 0) &&& 63)) rfl rfl rfl ?_
  refine x_switch (pc' := 1667) rfl (by rw [hk]; decide) ?_
  refine x_aload_n (pc' := 1668) rfl rfl rfl rfl rfl ?_
  refine x_cv (ls0 := [_]) (rest := []) rfl rfl rfl rfl rfl ?_
  refine x_aload_n (pc' := 1) rfl rfl rfl rfl rfl ?_
  refine x_gR (pc' := 4) (r := (some 0)) rfl rfl rfl (z_R_705_0 e) ?_
  refine x_gR (pc' := 7) (r := (some 1)) rfl rfl rfl (z_R_257_0 e) ?_
  refine x_cv (ls0 := [_]) (rest := []) rfl rfl rfl rfl rfl ?_
  refine x_aload_n (pc' := 1) rfl rfl rfl rfl rfl ?_
  refine x_gI (pc' := 4) (x := 0) rfl rfl rfl (z_I_834_1 e) ?_
  refine x_reti rfl rfl ?_
  refine sK_i (pc' := 10) rfl ?_
  refine x_reti rfl rfl ?_
  refine sK_i (pc' := 1671) rfl ?_
  refine x_aload_n (pc' := 1672) rfl rfl rfl rfl rfl ?_
  refine x_cv (ls0 := [_]) (rest := [_]) rfl rfl rfl rfl rfl ?_
  refine x_aload_n (pc' := 1) rfl rfl rfl rfl rfl ?_
  refine x_iconst (pc' := 2) rfl rfl ?_
  refine x_pI (pc' := 5) rfl rfl rfl ?_
  refine x_aload_n (pc' := 6) rfl rfl rfl rfl rfl ?_
  refine x_gI (pc' := 9) (x := 0) rfl rfl rfl (Eq.trans (rdI_F rfl) (z_I_786_0 e)) ?_
  refine x_reti rfl rfl ?_
  refine sK_i (pc' := 1675) rfl ?_
  refine x_icmp (a' := 2938) (pc' := 1678) (z := true) rfl rfl rfl (by decide) (fun _ => ?_) (fun h => by cases h)
  refine x_iinc (pc' := 2941) (y := 7) (ls' := [_, _, _, _, _, _, _]) rfl rfl rfl rfl rfl ?_
  refine x_goto (pc' := 23) rfl rfl ?_
  refine x_iload (pc' := 25) rfl rfl rfl ?_
  refine x_aload_n (pc' := 26) rfl rfl rfl rfl rfl ?_
  refine x_alen (pc' := 27) (N := 7) rfl rfl rfl (Eq.trans rdNI (z_N_29_0 e)) (?_ : X _ _ _ (.inl 7 :: _) _ _)
  refine x_bipush (pc' := 29) rfl rfl ?_
  refine x_isub (pc' := 30) (z := 0) rfl rfl (by decide) ?_
  refine x_icmp (a' := 2944) (pc' := 33) (z := true) rfl rfl rfl (by decide) (fun _ => ?_) (fun h => by cases h)
  refine x_iconst (pc' := 2945) rfl rfl ?_
  refine x_retz (z := true) rfl rfl ?_
  exact Qp_ok e (p := 0) (q := 0) rfl rfl rfl rfl
set_option maxHeartbeats 4000000 in
set_option maxRecDepth 10000 in
theorem v_20_i {t : sT} {xs : Nat → Int32}
    (e : t = T16 7 xs)
    (hk : ((xs 0) &&& 63) = 20) :
    X 297 23 [.inr (.inr (29, (some 0))), .inr (.inr (11, (some 0))), .inr (.inr (12, (some 0))), .inr (.inr (23, (some 0))), .inl 0, sJk, sJk] [] t Qp := by
  refine x_iload (pc' := 25) rfl rfl rfl ?_
  refine x_aload_n (pc' := 26) rfl rfl rfl rfl rfl ?_
  refine x_alen (pc' := 27) (N := 7) rfl rfl rfl (z_N_29_0 e) (?_ : X _ _ _ (.inl 7 :: _) _ _)
  refine x_bipush (pc' := 29) rfl rfl ?_
  refine x_isub (pc' := 30) (z := 0) rfl rfl (by decide) ?_
  refine x_icmp (a' := 2944) (pc' := 33) (z := false) rfl rfl rfl (by decide) (fun h => by cases h) (fun _ => ?_)
  refine x_aload_n (pc' := 34) rfl rfl rfl rfl rfl ?_
  refine x_iload (pc' := 36) rfl rfl rfl ?_
  refine x_iald (pc' := 37) (N := 7) (x := (xs 0)) rfl rfl rfl (z_N_29_0 e) (io_in (p := 0) (N := 7) (by decide) (by decide)) (Eq.trans (congrArg (sA t 29 0) (nn_io (p := 0) (by decide))) (z_A_29_0_0 e)) ?_
  refine x_bipush (pc' := 39) rfl rfl ?_
  refine x_iand (pc' := 40) (z := ((xs 0) &&& 63)) rfl rfl rfl ?_
  refine x_switch (pc' := 1680) rfl (by rw [hk]; decide) ?_
  refine x_aload_n (pc' := 1681) rfl rfl rfl rfl rfl ?_
  refine x_aload_n (pc' := 1682) rfl rfl rfl rfl rfl ?_
  refine x_iload (pc' := 1684) rfl rfl rfl ?_
  refine x_iconst (pc' := 1685) rfl rfl ?_
  refine x_iadd (pc' := 1686) (z := 1) rfl rfl (by decide) ?_
  refine x_iald (pc' := 1687) (N := 7) (x := (xs 1)) rfl rfl rfl (z_N_29_0 e) (io_in (p := 1) (N := 7) (by decide) (by decide)) (Eq.trans (congrArg (sA t 29 0) (nn_io (p := 1) (by decide))) (z_A_29_0_1 e)) ?_
  refine x_aload_n (pc' := 1688) rfl rfl rfl rfl rfl ?_
  refine x_cs (ls0 := [_, _, _, sJk]) (rest := []) rfl rfl rfl rfl ?_
  refine x_aload_n (pc' := 1) rfl rfl rfl rfl rfl ?_
  refine x_iconst (pc' := 2) rfl rfl ?_
  refine x_aload_n (pc' := 3) rfl rfl rfl rfl rfl ?_
  refine x_iload_n (pc' := 4) rfl rfl rfl ?_
  refine x_cv (ls0 := [_, _]) (rest := [_, _]) rfl rfl rfl rfl rfl ?_
  refine x_aload_n (pc' := 1) rfl rfl rfl rfl rfl ?_
  refine x_iload_n (pc' := 2) rfl rfl rfl ?_
  refine x_cv (ls0 := [_, _]) (rest := []) rfl rfl rfl rfl rfl ?_
  refine x_iload_n (pc' := 1) rfl rfl rfl ?_
  refine x_if (a' := 18) (pc' := 4) (z := decide ((xs 1) < 0)) rfl rfl rfl rfl (fun q3 => ?_) (fun q3 => ?_)
  · refine x_throw rfl rfl ?_
    refine sK_n (by decide +kernel) rfl ?_
    refine sK_h (h := 12) (by decide +kernel) rfl ?_
    refine x_catch_n (pc' := 13) (ls' := [_, _, _, _]) rfl rfl rfl rfl ?_
    refine x_iconst (pc' := 14) rfl rfl ?_
    refine x_reti rfl rfl ?_
    refine sK_i (pc' := 1691) rfl ?_
    refine x_istore (pc' := 1693) (ls' := [_, _, _, _, _, _, _]) rfl rfl rfl rfl ?_
    refine x_aload_n (pc' := 1694) rfl rfl rfl rfl rfl ?_
    refine x_aload_n (pc' := 1695) rfl rfl rfl rfl rfl ?_
    refine x_iload (pc' := 1697) rfl rfl rfl ?_
    refine x_iconst (pc' := 1698) rfl rfl ?_
    refine x_iadd (pc' := 1699) (z := 1) rfl rfl (by decide) ?_
    refine x_iald (pc' := 1700) (N := 7) (x := (xs 1)) rfl rfl rfl (Eq.trans rdNthr (z_N_29_0 e)) (io_in (p := 1) (N := 7) (by decide) (by decide)) (Eq.trans (congrArg (sA (sThr t) 29 0) (nn_io (p := 1) (by decide))) (Eq.trans rdAthr (z_A_29_0_1 e))) ?_
    refine x_cv (ls0 := [_, _]) (rest := []) rfl rfl rfl rfl rfl ?_
    refine x_aload_n (pc' := 1) rfl rfl rfl rfl rfl ?_
    refine x_aload_n (pc' := 2) rfl rfl rfl rfl rfl ?_
    refine x_iload_n (pc' := 3) rfl rfl rfl ?_
    refine x_cv (ls0 := [_, _]) (rest := [_]) rfl rfl rfl rfl rfl ?_
    refine x_iload_n (pc' := 1) rfl rfl rfl ?_
    refine x_iconst (pc' := 2) rfl rfl ?_
    refine x_aload_n (pc' := 3) rfl rfl rfl rfl rfl ?_
    refine x_gI (pc' := 6) (x := 0) rfl rfl rfl (Eq.trans rdIthr (z_I_786_0 e)) ?_
    refine x_iconst (pc' := 7) rfl rfl ?_
    refine x_isub (pc' := 8) (z := (-1)) rfl rfl (by decide) ?_
    refine x_cs (ls0 := [_, _, _]) (rest := []) rfl rfl rfl rfl ?_
    refine x_iload_n (pc' := 1) rfl rfl rfl ?_
    refine x_iload_n (pc' := 2) rfl rfl rfl ?_
    refine x_icmp (a' := 14) (pc' := 5) (z := decide ((xs 1) < 0)) rfl rfl rfl rfl (fun _ => ?_) (fun h => absurd (of_decide_eq_true q3) (of_decide_eq_false h))
    refine x_iconst (pc' := 15) rfl rfl ?_
    refine x_retz (z := false) rfl rfl ?_
    refine sK_i (pc' := 11) rfl ?_
    refine x_retz (z := false) rfl rfl ?_
    refine sK_i (pc' := 6) rfl ?_
    refine x_if (a' := 13) (pc' := 9) (z := true) rfl rfl rfl (by decide) (fun _ => ?_) (fun h => by cases h)
    refine x_iconst (pc' := 14) rfl rfl ?_
    refine x_cv (ls0 := [_, _]) (rest := []) rfl rfl rfl rfl rfl ?_
    refine x_aload_n (pc' := 1) rfl rfl rfl rfl rfl ?_
    refine x_iload_n (pc' := 2) rfl rfl rfl ?_
    refine x_pI (pc' := 5) rfl rfl rfl ?_
    refine x_iload_n (pc' := 6) rfl rfl rfl ?_
    refine x_if (a' := 13) (pc' := 9) (z := true) rfl rfl rfl (by decide) (fun _ => ?_) (fun h => by cases h)
    refine x_iconst (pc' := 14) rfl rfl ?_
    refine x_retz (z := false) rfl rfl ?_
    refine sK_i (pc' := 17) rfl ?_
    refine x_if (a' := 29) (pc' := 20) (z := true) rfl rfl rfl (by decide) (fun _ => ?_) (fun h => by cases h)
    refine x_iconst (pc' := 30) rfl rfl ?_
    refine x_reti rfl rfl ?_
    refine sK_i (pc' := 1703) rfl ?_
    refine x_istore (pc' := 1705) (ls' := [_, _, _, _, _, _, _]) rfl rfl rfl rfl ?_
    refine x_aload_n (pc' := 1706) rfl rfl rfl rfl rfl ?_
    refine x_cv (ls0 := [_]) (rest := []) rfl rfl rfl rfl rfl ?_
    refine x_aload_n (pc' := 1) rfl rfl rfl rfl rfl ?_
    refine x_gI (pc' := 4) (x := 1) rfl rfl rfl sI_s ?_
    refine x_reti rfl rfl ?_
    refine sK_i (pc' := 1709) rfl ?_
    refine x_iload (pc' := 1711) rfl rfl rfl ?_
    refine x_icmp (a' := 1716) (pc' := 1714) (z := true) rfl rfl rfl (by decide) (fun _ => ?_) (fun h => by cases h)
    refine x_iload (pc' := 1718) rfl rfl rfl ?_
    refine x_if (a' := 1733) (pc' := 1721) (z := true) rfl rfl rfl (by decide) (fun _ => ?_) (fun h => by cases h)
    refine x_goto (pc' := 2938) rfl rfl ?_
    refine x_iinc (pc' := 2941) (y := 7) (ls' := [_, _, _, _, _, _, _]) rfl rfl rfl rfl rfl ?_
    refine x_goto (pc' := 23) rfl rfl ?_
    refine x_iload (pc' := 25) rfl rfl rfl ?_
    refine x_aload_n (pc' := 26) rfl rfl rfl rfl rfl ?_
    refine x_alen (pc' := 27) (N := 7) rfl rfl rfl (Eq.trans rdNI (Eq.trans rdNthr (z_N_29_0 e))) (?_ : X _ _ _ (.inl 7 :: _) _ _)
    refine x_bipush (pc' := 29) rfl rfl ?_
    refine x_isub (pc' := 30) (z := 0) rfl rfl (by decide) ?_
    refine x_icmp (a' := 2944) (pc' := 33) (z := true) rfl rfl rfl (by decide) (fun _ => ?_) (fun h => by cases h)
    refine x_iconst (pc' := 2945) rfl rfl ?_
    refine x_retz (z := true) rfl rfl ?_
    exact Qp_ok e (p := 1) (q := 6) rfl rfl rfl rfl
  · refine x_iload_n (pc' := 5) rfl rfl rfl ?_
    refine x_aload_n (pc' := 6) rfl rfl rfl rfl rfl ?_
    refine x_gR (pc' := 9) (r := (some 0)) rfl rfl rfl (z_R_705_0 e) ?_
    refine x_gR (pc' := 12) (r := (some 1)) rfl rfl rfl (z_R_257_0 e) ?_
    refine x_cv (ls0 := [_]) (rest := [_]) rfl rfl rfl rfl rfl ?_
    refine x_aload_n (pc' := 1) rfl rfl rfl rfl rfl ?_
    refine x_gI (pc' := 4) (x := 0) rfl rfl rfl (z_I_834_1 e) ?_
    refine x_reti rfl rfl ?_
    refine sK_i (pc' := 15) rfl ?_
    refine x_icmp (a' := 29) (pc' := 18) (z := decide ((xs 1) < 0)) rfl rfl rfl rfl (fun h => absurd (of_decide_eq_true h) (of_decide_eq_false q3)) (fun _ => ?_)
    refine x_throw rfl rfl ?_
    refine sK_n (by decide +kernel) rfl ?_
    refine sK_h (h := 12) (by decide +kernel) rfl ?_
    refine x_catch_n (pc' := 13) (ls' := [_, _, _, _]) rfl rfl rfl rfl ?_
    refine x_iconst (pc' := 14) rfl rfl ?_
    refine x_reti rfl rfl ?_
    refine sK_i (pc' := 1691) rfl ?_
    refine x_istore (pc' := 1693) (ls' := [_, _, _, _, _, _, _]) rfl rfl rfl rfl ?_
    refine x_aload_n (pc' := 1694) rfl rfl rfl rfl rfl ?_
    refine x_aload_n (pc' := 1695) rfl rfl rfl rfl rfl ?_
    refine x_iload (pc' := 1697) rfl rfl rfl ?_
    refine x_iconst (pc' := 1698) rfl rfl ?_
    refine x_iadd (pc' := 1699) (z := 1) rfl rfl (by decide) ?_
    refine x_iald (pc' := 1700) (N := 7) (x := (xs 1)) rfl rfl rfl (Eq.trans rdNthr (z_N_29_0 e)) (io_in (p := 1) (N := 7) (by decide) (by decide)) (Eq.trans (congrArg (sA (sThr t) 29 0) (nn_io (p := 1) (by decide))) (Eq.trans rdAthr (z_A_29_0_1 e))) ?_
    refine x_cv (ls0 := [_, _]) (rest := []) rfl rfl rfl rfl rfl ?_
    refine x_aload_n (pc' := 1) rfl rfl rfl rfl rfl ?_
    refine x_aload_n (pc' := 2) rfl rfl rfl rfl rfl ?_
    refine x_iload_n (pc' := 3) rfl rfl rfl ?_
    refine x_cv (ls0 := [_, _]) (rest := [_]) rfl rfl rfl rfl rfl ?_
    refine x_iload_n (pc' := 1) rfl rfl rfl ?_
    refine x_iconst (pc' := 2) rfl rfl ?_
    refine x_aload_n (pc' := 3) rfl rfl rfl rfl rfl ?_
    refine x_gI (pc' := 6) (x := 0) rfl rfl rfl (Eq.trans rdIthr (z_I_786_0 e)) ?_
    refine x_iconst (pc' := 7) rfl rfl ?_
    refine x_isub (pc' := 8) (z := (-1)) rfl rfl (by decide) ?_
    refine x_cs (ls0 := [_, _, _]) (rest := []) rfl rfl rfl rfl ?_
    refine x_iload_n (pc' := 1) rfl rfl rfl ?_
    refine x_iload_n (pc' := 2) rfl rfl rfl ?_
    refine x_icmp (a' := 14) (pc' := 5) (z := decide ((xs 1) < 0)) rfl rfl rfl rfl (fun h => absurd (of_decide_eq_true h) (of_decide_eq_false q3)) (fun _ => ?_)
    refine x_iload_n (pc' := 6) rfl rfl rfl ?_
    refine x_iload_n (pc' := 7) rfl rfl rfl ?_
    refine x_icmp (a' := 14) (pc' := 10) (z := decide ((-1) < (xs 1))) rfl rfl rfl rfl (fun _ => ?_) (fun h => absurd (m1_lt (of_decide_eq_false q3)) (of_decide_eq_false h))
    refine x_iconst (pc' := 15) rfl rfl ?_
    refine x_retz (z := false) rfl rfl ?_
    refine sK_i (pc' := 11) rfl ?_
    refine x_retz (z := false) rfl rfl ?_
    refine sK_i (pc' := 6) rfl ?_
    refine x_if (a' := 13) (pc' := 9) (z := true) rfl rfl rfl (by decide) (fun _ => ?_) (fun h => by cases h)
    refine x_iconst (pc' := 14) rfl rfl ?_
    refine x_cv (ls0 := [_, _]) (rest := []) rfl rfl rfl rfl rfl ?_
    refine x_aload_n (pc' := 1) rfl rfl rfl rfl rfl ?_
    refine x_iload_n (pc' := 2) rfl rfl rfl ?_
    refine x_pI (pc' := 5) rfl rfl rfl ?_
    refine x_iload_n (pc' := 6) rfl rfl rfl ?_
    refine x_if (a' := 13) (pc' := 9) (z := true) rfl rfl rfl (by decide) (fun _ => ?_) (fun h => by cases h)
    refine x_iconst (pc' := 14) rfl rfl ?_
    refine x_retz (z := false) rfl rfl ?_
    refine sK_i (pc' := 17) rfl ?_
    refine x_if (a' := 29) (pc' := 20) (z := true) rfl rfl rfl (by decide) (fun _ => ?_) (fun h => by cases h)
    refine x_iconst (pc' := 30) rfl rfl ?_
    refine x_reti rfl rfl ?_
    refine sK_i (pc' := 1703) rfl ?_
    refine x_istore (pc' := 1705) (ls' := [_, _, _, _, _, _, _]) rfl rfl rfl rfl ?_
    refine x_aload_n (pc' := 1706) rfl rfl rfl rfl rfl ?_
    refine x_cv (ls0 := [_]) (rest := []) rfl rfl rfl rfl rfl ?_
    refine x_aload_n (pc' := 1) rfl rfl rfl rfl rfl ?_
    refine x_gI (pc' := 4) (x := 1) rfl rfl rfl sI_s ?_
    refine x_reti rfl rfl ?_
    refine sK_i (pc' := 1709) rfl ?_
    refine x_iload (pc' := 1711) rfl rfl rfl ?_
    refine x_icmp (a' := 1716) (pc' := 1714) (z := true) rfl rfl rfl (by decide) (fun _ => ?_) (fun h => by cases h)
    refine x_iload (pc' := 1718) rfl rfl rfl ?_
    refine x_if (a' := 1733) (pc' := 1721) (z := true) rfl rfl rfl (by decide) (fun _ => ?_) (fun h => by cases h)
    refine x_goto (pc' := 2938) rfl rfl ?_
    refine x_iinc (pc' := 2941) (y := 7) (ls' := [_, _, _, _, _, _, _]) rfl rfl rfl rfl rfl ?_
    refine x_goto (pc' := 23) rfl rfl ?_
    refine x_iload (pc' := 25) rfl rfl rfl ?_
    refine x_aload_n (pc' := 26) rfl rfl rfl rfl rfl ?_
    refine x_alen (pc' := 27) (N := 7) rfl rfl rfl (Eq.trans rdNI (Eq.trans rdNthr (z_N_29_0 e))) (?_ : X _ _ _ (.inl 7 :: _) _ _)
    refine x_bipush (pc' := 29) rfl rfl ?_
    refine x_isub (pc' := 30) (z := 0) rfl rfl (by decide) ?_
    refine x_icmp (a' := 2944) (pc' := 33) (z := true) rfl rfl rfl (by decide) (fun _ => ?_) (fun h => by cases h)
    refine x_iconst (pc' := 2945) rfl rfl ?_
    refine x_retz (z := true) rfl rfl ?_
    exact Qp_ok e (p := 1) (q := 6) rfl rfl rfl rfl
set_option maxHeartbeats 4000000 in
set_option maxRecDepth 10000 in
theorem v_21_i {t : sT} {xs : Nat → Int32}
    (e : t = T16 7 xs)
    (hk : ((xs 0) &&& 63) = 21) :
    X 297 23 [.inr (.inr (29, (some 0))), .inr (.inr (11, (some 0))), .inr (.inr (12, (some 0))), .inr (.inr (23, (some 0))), .inl 0, sJk, sJk] [] t Qp := by
  refine x_iload (pc' := 25) rfl rfl rfl ?_
  refine x_aload_n (pc' := 26) rfl rfl rfl rfl rfl ?_
  refine x_alen (pc' := 27) (N := 7) rfl rfl rfl (z_N_29_0 e) (?_ : X _ _ _ (.inl 7 :: _) _ _)
  refine x_bipush (pc' := 29) rfl rfl ?_
  refine x_isub (pc' := 30) (z := 0) rfl rfl (by decide) ?_
  refine x_icmp (a' := 2944) (pc' := 33) (z := false) rfl rfl rfl (by decide) (fun h => by cases h) (fun _ => ?_)
  refine x_aload_n (pc' := 34) rfl rfl rfl rfl rfl ?_
  refine x_iload (pc' := 36) rfl rfl rfl ?_
  refine x_iald (pc' := 37) (N := 7) (x := (xs 0)) rfl rfl rfl (z_N_29_0 e) (io_in (p := 0) (N := 7) (by decide) (by decide)) (Eq.trans (congrArg (sA t 29 0) (nn_io (p := 0) (by decide))) (z_A_29_0_0 e)) ?_
  refine x_bipush (pc' := 39) rfl rfl ?_
  refine x_iand (pc' := 40) (z := ((xs 0) &&& 63)) rfl rfl rfl ?_
  refine x_switch (pc' := 1736) rfl (by rw [hk]; decide) ?_
  refine x_aload_n (pc' := 1737) rfl rfl rfl rfl rfl ?_
  refine x_aload_n (pc' := 1738) rfl rfl rfl rfl rfl ?_
  refine x_iload (pc' := 1740) rfl rfl rfl ?_
  refine x_iconst (pc' := 1741) rfl rfl ?_
  refine x_iadd (pc' := 1742) (z := 1) rfl rfl (by decide) ?_
  refine x_iald (pc' := 1743) (N := 7) (x := (xs 1)) rfl rfl rfl (z_N_29_0 e) (io_in (p := 1) (N := 7) (by decide) (by decide)) (Eq.trans (congrArg (sA t 29 0) (nn_io (p := 1) (by decide))) (z_A_29_0_1 e)) ?_
  refine x_aload_n (pc' := 1744) rfl rfl rfl rfl rfl ?_
  refine x_cs (ls0 := [_, _, _, sJk]) (rest := []) rfl rfl rfl rfl ?_
  refine x_aload_n (pc' := 1) rfl rfl rfl rfl rfl ?_
  refine x_iconst (pc' := 2) rfl rfl ?_
  refine x_aload_n (pc' := 3) rfl rfl rfl rfl rfl ?_
  refine x_iload_n (pc' := 4) rfl rfl rfl ?_
  refine x_cv (ls0 := [_, _]) (rest := [_, _]) rfl rfl rfl rfl rfl ?_
  refine x_aload_n (pc' := 1) rfl rfl rfl rfl rfl ?_
  refine x_iload_n (pc' := 2) rfl rfl rfl ?_
  refine x_cv (ls0 := [_, _]) (rest := []) rfl rfl rfl rfl rfl ?_
  refine x_iload_n (pc' := 1) rfl rfl rfl ?_
  refine x_if (a' := 18) (pc' := 4) (z := decide ((xs 1) < 0)) rfl rfl rfl rfl (fun q3 => ?_) (fun q3 => ?_)
  · refine x_throw rfl rfl ?_
    refine sK_n (by decide +kernel) rfl ?_
    refine sK_h (h := 12) (by decide +kernel) rfl ?_
    refine x_catch_n (pc' := 13) (ls' := [_, _, _, _]) rfl rfl rfl rfl ?_
    refine x_iconst (pc' := 14) rfl rfl ?_
    refine x_reti rfl rfl ?_
    refine sK_i (pc' := 1747) rfl ?_
    refine x_istore (pc' := 1749) (ls' := [_, _, _, _, _, _, _]) rfl rfl rfl rfl ?_
    refine x_aload_n (pc' := 1750) rfl rfl rfl rfl rfl ?_
    refine x_aload_n (pc' := 1751) rfl rfl rfl rfl rfl ?_
    refine x_iload (pc' := 1753) rfl rfl rfl ?_
    refine x_iconst (pc' := 1754) rfl rfl ?_
    refine x_iadd (pc' := 1755) (z := 1) rfl rfl (by decide) ?_
    refine x_iald (pc' := 1756) (N := 7) (x := (xs 1)) rfl rfl rfl (Eq.trans rdNthr (z_N_29_0 e)) (io_in (p := 1) (N := 7) (by decide) (by decide)) (Eq.trans (congrArg (sA (sThr t) 29 0) (nn_io (p := 1) (by decide))) (Eq.trans rdAthr (z_A_29_0_1 e))) ?_
    refine x_cv (ls0 := [_, _]) (rest := []) rfl rfl rfl rfl rfl ?_
    refine x_aload_n (pc' := 1) rfl rfl rfl rfl rfl ?_
    refine x_aload_n (pc' := 2) rfl rfl rfl rfl rfl ?_
    refine x_iload_n (pc' := 3) rfl rfl rfl ?_
    refine x_cv (ls0 := [_, _]) (rest := [_]) rfl rfl rfl rfl rfl ?_
    refine x_iload_n (pc' := 1) rfl rfl rfl ?_
    refine x_iconst (pc' := 2) rfl rfl ?_
    refine x_aload_n (pc' := 3) rfl rfl rfl rfl rfl ?_
    refine x_gI (pc' := 6) (x := 0) rfl rfl rfl (Eq.trans rdIthr (z_I_786_0 e)) ?_
    refine x_iconst (pc' := 7) rfl rfl ?_
    refine x_isub (pc' := 8) (z := (-1)) rfl rfl (by decide) ?_
    refine x_cs (ls0 := [_, _, _]) (rest := []) rfl rfl rfl rfl ?_
    refine x_iload_n (pc' := 1) rfl rfl rfl ?_
    refine x_iload_n (pc' := 2) rfl rfl rfl ?_
    refine x_icmp (a' := 14) (pc' := 5) (z := decide ((xs 1) < 0)) rfl rfl rfl rfl (fun _ => ?_) (fun h => absurd (of_decide_eq_true q3) (of_decide_eq_false h))
    refine x_iconst (pc' := 15) rfl rfl ?_
    refine x_retz (z := false) rfl rfl ?_
    refine sK_i (pc' := 11) rfl ?_
    refine x_retz (z := false) rfl rfl ?_
    refine sK_i (pc' := 6) rfl ?_
    refine x_if (a' := 13) (pc' := 9) (z := true) rfl rfl rfl (by decide) (fun _ => ?_) (fun h => by cases h)
    refine x_iconst (pc' := 14) rfl rfl ?_
    refine x_cv (ls0 := [_, _]) (rest := []) rfl rfl rfl rfl rfl ?_
    refine x_aload_n (pc' := 1) rfl rfl rfl rfl rfl ?_
    refine x_iload_n (pc' := 2) rfl rfl rfl ?_
    refine x_pI (pc' := 5) rfl rfl rfl ?_
    refine x_iload_n (pc' := 6) rfl rfl rfl ?_
    refine x_if (a' := 13) (pc' := 9) (z := true) rfl rfl rfl (by decide) (fun _ => ?_) (fun h => by cases h)
    refine x_iconst (pc' := 14) rfl rfl ?_
    refine x_retz (z := false) rfl rfl ?_
    refine sK_i (pc' := 17) rfl ?_
    refine x_if (a' := 29) (pc' := 20) (z := true) rfl rfl rfl (by decide) (fun _ => ?_) (fun h => by cases h)
    refine x_iconst (pc' := 30) rfl rfl ?_
    refine x_reti rfl rfl ?_
    refine sK_i (pc' := 1759) rfl ?_
    refine x_istore (pc' := 1761) (ls' := [_, _, _, _, _, _, _]) rfl rfl rfl rfl ?_
    refine x_aload_n (pc' := 1762) rfl rfl rfl rfl rfl ?_
    refine x_cv (ls0 := [_]) (rest := []) rfl rfl rfl rfl rfl ?_
    refine x_aload_n (pc' := 1) rfl rfl rfl rfl rfl ?_
    refine x_gI (pc' := 4) (x := 1) rfl rfl rfl sI_s ?_
    refine x_reti rfl rfl ?_
    refine sK_i (pc' := 1765) rfl ?_
    refine x_iload (pc' := 1767) rfl rfl rfl ?_
    refine x_icmp (a' := 1772) (pc' := 1770) (z := true) rfl rfl rfl (by decide) (fun _ => ?_) (fun h => by cases h)
    refine x_iload (pc' := 1774) rfl rfl rfl ?_
    refine x_if (a' := 1789) (pc' := 1777) (z := true) rfl rfl rfl (by decide) (fun _ => ?_) (fun h => by cases h)
    refine x_goto (pc' := 2938) rfl rfl ?_
    refine x_iinc (pc' := 2941) (y := 7) (ls' := [_, _, _, _, _, _, _]) rfl rfl rfl rfl rfl ?_
    refine x_goto (pc' := 23) rfl rfl ?_
    refine x_iload (pc' := 25) rfl rfl rfl ?_
    refine x_aload_n (pc' := 26) rfl rfl rfl rfl rfl ?_
    refine x_alen (pc' := 27) (N := 7) rfl rfl rfl (Eq.trans rdNI (Eq.trans rdNthr (z_N_29_0 e))) (?_ : X _ _ _ (.inl 7 :: _) _ _)
    refine x_bipush (pc' := 29) rfl rfl ?_
    refine x_isub (pc' := 30) (z := 0) rfl rfl (by decide) ?_
    refine x_icmp (a' := 2944) (pc' := 33) (z := true) rfl rfl rfl (by decide) (fun _ => ?_) (fun h => by cases h)
    refine x_iconst (pc' := 2945) rfl rfl ?_
    refine x_retz (z := true) rfl rfl ?_
    exact Qp_ok e (p := 1) (q := 6) rfl rfl rfl rfl
  · refine x_iload_n (pc' := 5) rfl rfl rfl ?_
    refine x_aload_n (pc' := 6) rfl rfl rfl rfl rfl ?_
    refine x_gR (pc' := 9) (r := (some 0)) rfl rfl rfl (z_R_705_0 e) ?_
    refine x_gR (pc' := 12) (r := (some 1)) rfl rfl rfl (z_R_257_0 e) ?_
    refine x_cv (ls0 := [_]) (rest := [_]) rfl rfl rfl rfl rfl ?_
    refine x_aload_n (pc' := 1) rfl rfl rfl rfl rfl ?_
    refine x_gI (pc' := 4) (x := 0) rfl rfl rfl (z_I_834_1 e) ?_
    refine x_reti rfl rfl ?_
    refine sK_i (pc' := 15) rfl ?_
    refine x_icmp (a' := 29) (pc' := 18) (z := decide ((xs 1) < 0)) rfl rfl rfl rfl (fun h => absurd (of_decide_eq_true h) (of_decide_eq_false q3)) (fun _ => ?_)
    refine x_throw rfl rfl ?_
    refine sK_n (by decide +kernel) rfl ?_
    refine sK_h (h := 12) (by decide +kernel) rfl ?_
    refine x_catch_n (pc' := 13) (ls' := [_, _, _, _]) rfl rfl rfl rfl ?_
    refine x_iconst (pc' := 14) rfl rfl ?_
    refine x_reti rfl rfl ?_
    refine sK_i (pc' := 1747) rfl ?_
    refine x_istore (pc' := 1749) (ls' := [_, _, _, _, _, _, _]) rfl rfl rfl rfl ?_
    refine x_aload_n (pc' := 1750) rfl rfl rfl rfl rfl ?_
    refine x_aload_n (pc' := 1751) rfl rfl rfl rfl rfl ?_
    refine x_iload (pc' := 1753) rfl rfl rfl ?_
    refine x_iconst (pc' := 1754) rfl rfl ?_
    refine x_iadd (pc' := 1755) (z := 1) rfl rfl (by decide) ?_
    refine x_iald (pc' := 1756) (N := 7) (x := (xs 1)) rfl rfl rfl (Eq.trans rdNthr (z_N_29_0 e)) (io_in (p := 1) (N := 7) (by decide) (by decide)) (Eq.trans (congrArg (sA (sThr t) 29 0) (nn_io (p := 1) (by decide))) (Eq.trans rdAthr (z_A_29_0_1 e))) ?_
    refine x_cv (ls0 := [_, _]) (rest := []) rfl rfl rfl rfl rfl ?_
    refine x_aload_n (pc' := 1) rfl rfl rfl rfl rfl ?_
    refine x_aload_n (pc' := 2) rfl rfl rfl rfl rfl ?_
    refine x_iload_n (pc' := 3) rfl rfl rfl ?_
    refine x_cv (ls0 := [_, _]) (rest := [_]) rfl rfl rfl rfl rfl ?_
    refine x_iload_n (pc' := 1) rfl rfl rfl ?_
    refine x_iconst (pc' := 2) rfl rfl ?_
    refine x_aload_n (pc' := 3) rfl rfl rfl rfl rfl ?_
    refine x_gI (pc' := 6) (x := 0) rfl rfl rfl (Eq.trans rdIthr (z_I_786_0 e)) ?_
    refine x_iconst (pc' := 7) rfl rfl ?_
    refine x_isub (pc' := 8) (z := (-1)) rfl rfl (by decide) ?_
    refine x_cs (ls0 := [_, _, _]) (rest := []) rfl rfl rfl rfl ?_
    refine x_iload_n (pc' := 1) rfl rfl rfl ?_
    refine x_iload_n (pc' := 2) rfl rfl rfl ?_
    refine x_icmp (a' := 14) (pc' := 5) (z := decide ((xs 1) < 0)) rfl rfl rfl rfl (fun h => absurd (of_decide_eq_true h) (of_decide_eq_false q3)) (fun _ => ?_)
    refine x_iload_n (pc' := 6) rfl rfl rfl ?_
    refine x_iload_n (pc' := 7) rfl rfl rfl ?_
    refine x_icmp (a' := 14) (pc' := 10) (z := decide ((-1) < (xs 1))) rfl rfl rfl rfl (fun _ => ?_) (fun h => absurd (m1_lt (of_decide_eq_false q3)) (of_decide_eq_false h))
    refine x_iconst (pc' := 15) rfl rfl ?_
    refine x_retz (z := false) rfl rfl ?_
    refine sK_i (pc' := 11) rfl ?_
    refine x_retz (z := false) rfl rfl ?_
    refine sK_i (pc' := 6) rfl ?_
    refine x_if (a' := 13) (pc' := 9) (z := true) rfl rfl rfl (by decide) (fun _ => ?_) (fun h => by cases h)
    refine x_iconst (pc' := 14) rfl rfl ?_
    refine x_cv (ls0 := [_, _]) (rest := []) rfl rfl rfl rfl rfl ?_
    refine x_aload_n (pc' := 1) rfl rfl rfl rfl rfl ?_
    refine x_iload_n (pc' := 2) rfl rfl rfl ?_
    refine x_pI (pc' := 5) rfl rfl rfl ?_
    refine x_iload_n (pc' := 6) rfl rfl rfl ?_
    refine x_if (a' := 13) (pc' := 9) (z := true) rfl rfl rfl (by decide) (fun _ => ?_) (fun h => by cases h)
    refine x_iconst (pc' := 14) rfl rfl ?_
    refine x_retz (z := false) rfl rfl ?_
    refine sK_i (pc' := 17) rfl ?_
    refine x_if (a' := 29) (pc' := 20) (z := true) rfl rfl rfl (by decide) (fun _ => ?_) (fun h => by cases h)
    refine x_iconst (pc' := 30) rfl rfl ?_
    refine x_reti rfl rfl ?_
    refine sK_i (pc' := 1759) rfl ?_
    refine x_istore (pc' := 1761) (ls' := [_, _, _, _, _, _, _]) rfl rfl rfl rfl ?_
    refine x_aload_n (pc' := 1762) rfl rfl rfl rfl rfl ?_
    refine x_cv (ls0 := [_]) (rest := []) rfl rfl rfl rfl rfl ?_
    refine x_aload_n (pc' := 1) rfl rfl rfl rfl rfl ?_
    refine x_gI (pc' := 4) (x := 1) rfl rfl rfl sI_s ?_
    refine x_reti rfl rfl ?_
    refine sK_i (pc' := 1765) rfl ?_
    refine x_iload (pc' := 1767) rfl rfl rfl ?_
    refine x_icmp (a' := 1772) (pc' := 1770) (z := true) rfl rfl rfl (by decide) (fun _ => ?_) (fun h => by cases h)
    refine x_iload (pc' := 1774) rfl rfl rfl ?_
    refine x_if (a' := 1789) (pc' := 1777) (z := true) rfl rfl rfl (by decide) (fun _ => ?_) (fun h => by cases h)
    refine x_goto (pc' := 2938) rfl rfl ?_
    refine x_iinc (pc' := 2941) (y := 7) (ls' := [_, _, _, _, _, _, _]) rfl rfl rfl rfl rfl ?_
    refine x_goto (pc' := 23) rfl rfl ?_
    refine x_iload (pc' := 25) rfl rfl rfl ?_
    refine x_aload_n (pc' := 26) rfl rfl rfl rfl rfl ?_
    refine x_alen (pc' := 27) (N := 7) rfl rfl rfl (Eq.trans rdNI (Eq.trans rdNthr (z_N_29_0 e))) (?_ : X _ _ _ (.inl 7 :: _) _ _)
    refine x_bipush (pc' := 29) rfl rfl ?_
    refine x_isub (pc' := 30) (z := 0) rfl rfl (by decide) ?_
    refine x_icmp (a' := 2944) (pc' := 33) (z := true) rfl rfl rfl (by decide) (fun _ => ?_) (fun h => by cases h)
    refine x_iconst (pc' := 2945) rfl rfl ?_
    refine x_retz (z := true) rfl rfl ?_
    exact Qp_ok e (p := 1) (q := 6) rfl rfl rfl rfl
set_option maxHeartbeats 4000000 in
set_option maxRecDepth 10000 in
theorem v_22_i {t : sT} {xs : Nat → Int32}
    (e : t = T16 7 xs)
    (hk : ((xs 0) &&& 63) = 22) :
    X 297 23 [.inr (.inr (29, (some 0))), .inr (.inr (11, (some 0))), .inr (.inr (12, (some 0))), .inr (.inr (23, (some 0))), .inl 0, sJk, sJk] [] t Qp := by
  refine x_iload (pc' := 25) rfl rfl rfl ?_
  refine x_aload_n (pc' := 26) rfl rfl rfl rfl rfl ?_
  refine x_alen (pc' := 27) (N := 7) rfl rfl rfl (z_N_29_0 e) (?_ : X _ _ _ (.inl 7 :: _) _ _)
  refine x_bipush (pc' := 29) rfl rfl ?_
  refine x_isub (pc' := 30) (z := 0) rfl rfl (by decide) ?_
  refine x_icmp (a' := 2944) (pc' := 33) (z := false) rfl rfl rfl (by decide) (fun h => by cases h) (fun _ => ?_)
  refine x_aload_n (pc' := 34) rfl rfl rfl rfl rfl ?_
  refine x_iload (pc' := 36) rfl rfl rfl ?_
  refine x_iald (pc' := 37) (N := 7) (x := (xs 0)) rfl rfl rfl (z_N_29_0 e) (io_in (p := 0) (N := 7) (by decide) (by decide)) (Eq.trans (congrArg (sA t 29 0) (nn_io (p := 0) (by decide))) (z_A_29_0_0 e)) ?_
  refine x_bipush (pc' := 39) rfl rfl ?_
  refine x_iand (pc' := 40) (z := ((xs 0) &&& 63)) rfl rfl rfl ?_
  refine x_switch (pc' := 1792) rfl (by rw [hk]; decide) ?_
  refine x_aload_n (pc' := 1793) rfl rfl rfl rfl rfl ?_
  refine x_aload_n (pc' := 1794) rfl rfl rfl rfl rfl ?_
  refine x_iload (pc' := 1796) rfl rfl rfl ?_
  refine x_iconst (pc' := 1797) rfl rfl ?_
  refine x_iadd (pc' := 1798) (z := 1) rfl rfl (by decide) ?_
  refine x_iald (pc' := 1799) (N := 7) (x := (xs 1)) rfl rfl rfl (z_N_29_0 e) (io_in (p := 1) (N := 7) (by decide) (by decide)) (Eq.trans (congrArg (sA t 29 0) (nn_io (p := 1) (by decide))) (z_A_29_0_1 e)) ?_
  refine x_aload_n (pc' := 1800) rfl rfl rfl rfl rfl ?_
  refine x_cs (ls0 := [_, _, _, sJk]) (rest := []) rfl rfl rfl rfl ?_
  refine x_aload_n (pc' := 1) rfl rfl rfl rfl rfl ?_
  refine x_iconst (pc' := 2) rfl rfl ?_
  refine x_aload_n (pc' := 3) rfl rfl rfl rfl rfl ?_
  refine x_iload_n (pc' := 4) rfl rfl rfl ?_
  refine x_cv (ls0 := [_, _, sJk]) (rest := [_, _]) rfl rfl rfl rfl rfl ?_
  refine x_aload_n (pc' := 1) rfl rfl rfl rfl rfl ?_
  refine x_iload_n (pc' := 2) rfl rfl rfl ?_
  refine x_cv (ls0 := [_, _]) (rest := []) rfl rfl rfl rfl rfl ?_
  refine x_iload_n (pc' := 1) rfl rfl rfl ?_
  refine x_if (a' := 18) (pc' := 4) (z := decide ((xs 1) < 0)) rfl rfl rfl rfl (fun q3 => ?_) (fun q3 => ?_)
  · refine x_throw rfl rfl ?_
    refine sK_n (by decide +kernel) rfl ?_
    refine sK_h (h := 12) (by decide +kernel) rfl ?_
    refine x_catch_n (pc' := 13) (ls' := [_, _, _, _]) rfl rfl rfl rfl ?_
    refine x_iconst (pc' := 14) rfl rfl ?_
    refine x_reti rfl rfl ?_
    refine sK_i (pc' := 1803) rfl ?_
    refine x_istore (pc' := 1805) (ls' := [_, _, _, _, _, _, _]) rfl rfl rfl rfl ?_
    refine x_aload_n (pc' := 1806) rfl rfl rfl rfl rfl ?_
    refine x_aload_n (pc' := 1807) rfl rfl rfl rfl rfl ?_
    refine x_iload (pc' := 1809) rfl rfl rfl ?_
    refine x_iconst (pc' := 1810) rfl rfl ?_
    refine x_iadd (pc' := 1811) (z := 1) rfl rfl (by decide) ?_
    refine x_iald (pc' := 1812) (N := 7) (x := (xs 1)) rfl rfl rfl (Eq.trans rdNthr (z_N_29_0 e)) (io_in (p := 1) (N := 7) (by decide) (by decide)) (Eq.trans (congrArg (sA (sThr t) 29 0) (nn_io (p := 1) (by decide))) (Eq.trans rdAthr (z_A_29_0_1 e))) ?_
    refine x_cv (ls0 := [_, _]) (rest := []) rfl rfl rfl rfl rfl ?_
    refine x_aload_n (pc' := 1) rfl rfl rfl rfl rfl ?_
    refine x_aload_n (pc' := 2) rfl rfl rfl rfl rfl ?_
    refine x_iload_n (pc' := 3) rfl rfl rfl ?_
    refine x_cv (ls0 := [_, _]) (rest := [_]) rfl rfl rfl rfl rfl ?_
    refine x_iload_n (pc' := 1) rfl rfl rfl ?_
    refine x_iconst (pc' := 2) rfl rfl ?_
    refine x_aload_n (pc' := 3) rfl rfl rfl rfl rfl ?_
    refine x_gI (pc' := 6) (x := 0) rfl rfl rfl (Eq.trans rdIthr (z_I_786_0 e)) ?_
    refine x_iconst (pc' := 7) rfl rfl ?_
    refine x_isub (pc' := 8) (z := (-1)) rfl rfl (by decide) ?_
    refine x_cs (ls0 := [_, _, _]) (rest := []) rfl rfl rfl rfl ?_
    refine x_iload_n (pc' := 1) rfl rfl rfl ?_
    refine x_iload_n (pc' := 2) rfl rfl rfl ?_
    refine x_icmp (a' := 14) (pc' := 5) (z := decide ((xs 1) < 0)) rfl rfl rfl rfl (fun _ => ?_) (fun h => absurd (of_decide_eq_true q3) (of_decide_eq_false h))
    refine x_iconst (pc' := 15) rfl rfl ?_
    refine x_retz (z := false) rfl rfl ?_
    refine sK_i (pc' := 11) rfl ?_
    refine x_retz (z := false) rfl rfl ?_
    refine sK_i (pc' := 6) rfl ?_
    refine x_if (a' := 13) (pc' := 9) (z := true) rfl rfl rfl (by decide) (fun _ => ?_) (fun h => by cases h)
    refine x_iconst (pc' := 14) rfl rfl ?_
    refine x_cv (ls0 := [_, _]) (rest := []) rfl rfl rfl rfl rfl ?_
    refine x_aload_n (pc' := 1) rfl rfl rfl rfl rfl ?_
    refine x_iload_n (pc' := 2) rfl rfl rfl ?_
    refine x_pI (pc' := 5) rfl rfl rfl ?_
    refine x_iload_n (pc' := 6) rfl rfl rfl ?_
    refine x_if (a' := 13) (pc' := 9) (z := true) rfl rfl rfl (by decide) (fun _ => ?_) (fun h => by cases h)
    refine x_iconst (pc' := 14) rfl rfl ?_
    refine x_retz (z := false) rfl rfl ?_
    refine sK_i (pc' := 17) rfl ?_
    refine x_if (a' := 29) (pc' := 20) (z := true) rfl rfl rfl (by decide) (fun _ => ?_) (fun h => by cases h)
    refine x_iconst (pc' := 30) rfl rfl ?_
    refine x_reti rfl rfl ?_
    refine sK_i (pc' := 1815) rfl ?_
    refine x_istore (pc' := 1817) (ls' := [_, _, _, _, _, _, _]) rfl rfl rfl rfl ?_
    refine x_aload_n (pc' := 1818) rfl rfl rfl rfl rfl ?_
    refine x_cv (ls0 := [_]) (rest := []) rfl rfl rfl rfl rfl ?_
    refine x_aload_n (pc' := 1) rfl rfl rfl rfl rfl ?_
    refine x_gI (pc' := 4) (x := 1) rfl rfl rfl sI_s ?_
    refine x_reti rfl rfl ?_
    refine sK_i (pc' := 1821) rfl ?_
    refine x_iload (pc' := 1823) rfl rfl rfl ?_
    refine x_icmp (a' := 1828) (pc' := 1826) (z := true) rfl rfl rfl (by decide) (fun _ => ?_) (fun h => by cases h)
    refine x_iload (pc' := 1830) rfl rfl rfl ?_
    refine x_if (a' := 1845) (pc' := 1833) (z := true) rfl rfl rfl (by decide) (fun _ => ?_) (fun h => by cases h)
    refine x_goto (pc' := 2938) rfl rfl ?_
    refine x_iinc (pc' := 2941) (y := 7) (ls' := [_, _, _, _, _, _, _]) rfl rfl rfl rfl rfl ?_
    refine x_goto (pc' := 23) rfl rfl ?_
    refine x_iload (pc' := 25) rfl rfl rfl ?_
    refine x_aload_n (pc' := 26) rfl rfl rfl rfl rfl ?_
    refine x_alen (pc' := 27) (N := 7) rfl rfl rfl (Eq.trans rdNI (Eq.trans rdNthr (z_N_29_0 e))) (?_ : X _ _ _ (.inl 7 :: _) _ _)
    refine x_bipush (pc' := 29) rfl rfl ?_
    refine x_isub (pc' := 30) (z := 0) rfl rfl (by decide) ?_
    refine x_icmp (a' := 2944) (pc' := 33) (z := true) rfl rfl rfl (by decide) (fun _ => ?_) (fun h => by cases h)
    refine x_iconst (pc' := 2945) rfl rfl ?_
    refine x_retz (z := true) rfl rfl ?_
    exact Qp_ok e (p := 1) (q := 6) rfl rfl rfl rfl
  · refine x_iload_n (pc' := 5) rfl rfl rfl ?_
    refine x_aload_n (pc' := 6) rfl rfl rfl rfl rfl ?_
    refine x_gR (pc' := 9) (r := (some 0)) rfl rfl rfl (z_R_705_0 e) ?_
    refine x_gR (pc' := 12) (r := (some 1)) rfl rfl rfl (z_R_257_0 e) ?_
    refine x_cv (ls0 := [_]) (rest := [_]) rfl rfl rfl rfl rfl ?_
    refine x_aload_n (pc' := 1) rfl rfl rfl rfl rfl ?_
    refine x_gI (pc' := 4) (x := 0) rfl rfl rfl (z_I_834_1 e) ?_
    refine x_reti rfl rfl ?_
    refine sK_i (pc' := 15) rfl ?_
    refine x_icmp (a' := 29) (pc' := 18) (z := decide ((xs 1) < 0)) rfl rfl rfl rfl (fun h => absurd (of_decide_eq_true h) (of_decide_eq_false q3)) (fun _ => ?_)
    refine x_throw rfl rfl ?_
    refine sK_n (by decide +kernel) rfl ?_
    refine sK_h (h := 12) (by decide +kernel) rfl ?_
    refine x_catch_n (pc' := 13) (ls' := [_, _, _, _]) rfl rfl rfl rfl ?_
    refine x_iconst (pc' := 14) rfl rfl ?_
    refine x_reti rfl rfl ?_
    refine sK_i (pc' := 1803) rfl ?_
    refine x_istore (pc' := 1805) (ls' := [_, _, _, _, _, _, _]) rfl rfl rfl rfl ?_
    refine x_aload_n (pc' := 1806) rfl rfl rfl rfl rfl ?_
    refine x_aload_n (pc' := 1807) rfl rfl rfl rfl rfl ?_
    refine x_iload (pc' := 1809) rfl rfl rfl ?_
    refine x_iconst (pc' := 1810) rfl rfl ?_
    refine x_iadd (pc' := 1811) (z := 1) rfl rfl (by decide) ?_
    refine x_iald (pc' := 1812) (N := 7) (x := (xs 1)) rfl rfl rfl (Eq.trans rdNthr (z_N_29_0 e)) (io_in (p := 1) (N := 7) (by decide) (by decide)) (Eq.trans (congrArg (sA (sThr t) 29 0) (nn_io (p := 1) (by decide))) (Eq.trans rdAthr (z_A_29_0_1 e))) ?_
    refine x_cv (ls0 := [_, _]) (rest := []) rfl rfl rfl rfl rfl ?_
    refine x_aload_n (pc' := 1) rfl rfl rfl rfl rfl ?_
    refine x_aload_n (pc' := 2) rfl rfl rfl rfl rfl ?_
    refine x_iload_n (pc' := 3) rfl rfl rfl ?_
    refine x_cv (ls0 := [_, _]) (rest := [_]) rfl rfl rfl rfl rfl ?_
    refine x_iload_n (pc' := 1) rfl rfl rfl ?_
    refine x_iconst (pc' := 2) rfl rfl ?_
    refine x_aload_n (pc' := 3) rfl rfl rfl rfl rfl ?_
    refine x_gI (pc' := 6) (x := 0) rfl rfl rfl (Eq.trans rdIthr (z_I_786_0 e)) ?_
    refine x_iconst (pc' := 7) rfl rfl ?_
    refine x_isub (pc' := 8) (z := (-1)) rfl rfl (by decide) ?_
    refine x_cs (ls0 := [_, _, _]) (rest := []) rfl rfl rfl rfl ?_
    refine x_iload_n (pc' := 1) rfl rfl rfl ?_
    refine x_iload_n (pc' := 2) rfl rfl rfl ?_
    refine x_icmp (a' := 14) (pc' := 5) (z := decide ((xs 1) < 0)) rfl rfl rfl rfl (fun h => absurd (of_decide_eq_true h) (of_decide_eq_false q3)) (fun _ => ?_)
    refine x_iload_n (pc' := 6) rfl rfl rfl ?_
    refine x_iload_n (pc' := 7) rfl rfl rfl ?_
    refine x_icmp (a' := 14) (pc' := 10) (z := decide ((-1) < (xs 1))) rfl rfl rfl rfl (fun _ => ?_) (fun h => absurd (m1_lt (of_decide_eq_false q3)) (of_decide_eq_false h))
    refine x_iconst (pc' := 15) rfl rfl ?_
    refine x_retz (z := false) rfl rfl ?_
    refine sK_i (pc' := 11) rfl ?_
    refine x_retz (z := false) rfl rfl ?_
    refine sK_i (pc' := 6) rfl ?_
    refine x_if (a' := 13) (pc' := 9) (z := true) rfl rfl rfl (by decide) (fun _ => ?_) (fun h => by cases h)
    refine x_iconst (pc' := 14) rfl rfl ?_
    refine x_cv (ls0 := [_, _]) (rest := []) rfl rfl rfl rfl rfl ?_
    refine x_aload_n (pc' := 1) rfl rfl rfl rfl rfl ?_
    refine x_iload_n (pc' := 2) rfl rfl rfl ?_
    refine x_pI (pc' := 5) rfl rfl rfl ?_
    refine x_iload_n (pc' := 6) rfl rfl rfl ?_
    refine x_if (a' := 13) (pc' := 9) (z := true) rfl rfl rfl (by decide) (fun _ => ?_) (fun h => by cases h)
    refine x_iconst (pc' := 14) rfl rfl ?_
    refine x_retz (z := false) rfl rfl ?_
    refine sK_i (pc' := 17) rfl ?_
    refine x_if (a' := 29) (pc' := 20) (z := true) rfl rfl rfl (by decide) (fun _ => ?_) (fun h => by cases h)
    refine x_iconst (pc' := 30) rfl rfl ?_
    refine x_reti rfl rfl ?_
    refine sK_i (pc' := 1815) rfl ?_
    refine x_istore (pc' := 1817) (ls' := [_, _, _, _, _, _, _]) rfl rfl rfl rfl ?_
    refine x_aload_n (pc' := 1818) rfl rfl rfl rfl rfl ?_
    refine x_cv (ls0 := [_]) (rest := []) rfl rfl rfl rfl rfl ?_
    refine x_aload_n (pc' := 1) rfl rfl rfl rfl rfl ?_
    refine x_gI (pc' := 4) (x := 1) rfl rfl rfl sI_s ?_
    refine x_reti rfl rfl ?_
    refine sK_i (pc' := 1821) rfl ?_
    refine x_iload (pc' := 1823) rfl rfl rfl ?_
    refine x_icmp (a' := 1828) (pc' := 1826) (z := true) rfl rfl rfl (by decide) (fun _ => ?_) (fun h => by cases h)
    refine x_iload (pc' := 1830) rfl rfl rfl ?_
    refine x_if (a' := 1845) (pc' := 1833) (z := true) rfl rfl rfl (by decide) (fun _ => ?_) (fun h => by cases h)
    refine x_goto (pc' := 2938) rfl rfl ?_
    refine x_iinc (pc' := 2941) (y := 7) (ls' := [_, _, _, _, _, _, _]) rfl rfl rfl rfl rfl ?_
    refine x_goto (pc' := 23) rfl rfl ?_
    refine x_iload (pc' := 25) rfl rfl rfl ?_
    refine x_aload_n (pc' := 26) rfl rfl rfl rfl rfl ?_
    refine x_alen (pc' := 27) (N := 7) rfl rfl rfl (Eq.trans rdNI (Eq.trans rdNthr (z_N_29_0 e))) (?_ : X _ _ _ (.inl 7 :: _) _ _)
    refine x_bipush (pc' := 29) rfl rfl ?_
    refine x_isub (pc' := 30) (z := 0) rfl rfl (by decide) ?_
    refine x_icmp (a' := 2944) (pc' := 33) (z := true) rfl rfl rfl (by decide) (fun _ => ?_) (fun h => by cases h)
    refine x_iconst (pc' := 2945) rfl rfl ?_
    refine x_retz (z := true) rfl rfl ?_
    exact Qp_ok e (p := 1) (q := 6) rfl rfl rfl rfl
set_option maxHeartbeats 4000000 in
set_option maxRecDepth 10000 in
theorem v_23_0_i {t : sT} {xs : Nat → Int32}
    (e : t = T16 7 xs)
    (hk : ((xs 0) &&& 63) = 23)
    (e0 : xs 1 = 0) :
    X 297 23 [.inr (.inr (29, (some 0))), .inr (.inr (11, (some 0))), .inr (.inr (12, (some 0))), .inr (.inr (23, (some 0))), .inl 0, sJk, sJk] [] t Qp := by
  refine x_iload (pc' := 25) rfl rfl rfl ?_
  refine x_aload_n (pc' := 26) rfl rfl rfl rfl rfl ?_
  refine x_alen (pc' := 27) (N := 7) rfl rfl rfl (z_N_29_0 e) (?_ : X _ _ _ (.inl 7 :: _) _ _)
  refine x_bipush (pc' := 29) rfl rfl ?_
  refine x_isub (pc' := 30) (z := 0) rfl rfl (by decide) ?_
  refine x_icmp (a' := 2944) (pc' := 33) (z := false) rfl rfl rfl (by decide) (fun h => by cases h) (fun _ => ?_)
  refine x_aload_n (pc' := 34) rfl rfl rfl rfl rfl ?_
  refine x_iload (pc' := 36) rfl rfl rfl ?_
  refine x_iald (pc' := 37) (N := 7) (x := (xs 0)) rfl rfl rfl (z_N_29_0 e) (io_in (p := 0) (N := 7) (by decide) (by decide)) (Eq.trans (congrArg (sA t 29 0) (nn_io (p := 0) (by decide))) (z_A_29_0_0 e)) ?_
  refine x_bipush (pc' := 39) rfl rfl ?_
  refine x_iand (pc' := 40) (z := ((xs 0) &&& 63)) rfl rfl rfl ?_
  refine x_switch (pc' := 1848) rfl (by rw [hk]; decide) ?_
  refine x_aload_n (pc' := 1849) rfl rfl rfl rfl rfl ?_
  refine x_aload_n (pc' := 1850) rfl rfl rfl rfl rfl ?_
  refine x_iload (pc' := 1852) rfl rfl rfl ?_
  refine x_iconst (pc' := 1853) rfl rfl ?_
  refine x_iadd (pc' := 1854) (z := 1) rfl rfl (by decide) ?_
  refine x_iald (pc' := 1855) (N := 7) (x := 0) rfl rfl rfl (z_N_29_0 e) (io_in (p := 1) (N := 7) (by decide) (by decide)) (Eq.trans (congrArg (sA t 29 0) (nn_io (p := 1) (by decide))) (Eq.trans (z_A_29_0_1 e) e0)) ?_
  refine x_aload_n (pc' := 1856) rfl rfl rfl rfl rfl ?_
  refine x_iload (pc' := 1858) rfl rfl rfl ?_
  refine x_iconst (pc' := 1859) rfl rfl ?_
  refine x_iadd (pc' := 1860) (z := 2) rfl rfl (by decide) ?_
  refine x_iald (pc' := 1861) (N := 7) (x := (xs 2)) rfl rfl rfl (z_N_29_0 e) (io_in (p := 2) (N := 7) (by decide) (by decide)) (Eq.trans (congrArg (sA t 29 0) (nn_io (p := 2) (by decide))) (z_A_29_0_2 e)) ?_
  have J3 : X 297 1869 [.inr (.inr (29, (some 0))), .inr (.inr (11, (some 0))), .inr (.inr (12, (some 0))), .inr (.inr (23, (some 0))), .inl 0, sJk, sJk] [.inl (bz (!(decide ((xs 2) = 0)))), .inl 0, .inr (.inr (11, (some 0)))] t Qp := by
    refine x_aload_n (pc' := 1870) rfl rfl rfl rfl rfl ?_
    refine x_cs (ls0 := [_, _, _, _, sJk]) (rest := []) rfl rfl rfl rfl ?_
    refine x_aload_n (pc' := 1) rfl rfl rfl rfl rfl ?_
    refine x_iconst (pc' := 2) rfl rfl ?_
    refine x_aload_n (pc' := 3) rfl rfl rfl rfl rfl ?_
    refine x_iload_n (pc' := 4) rfl rfl rfl ?_
    refine x_iload_n (pc' := 5) rfl rfl rfl ?_
    refine x_cv (ls0 := [_, _, _]) (rest := [_, _]) rfl rfl rfl rfl rfl ?_
    refine x_aload_n (pc' := 1) rfl rfl rfl rfl rfl ?_
    refine x_iload_n (pc' := 2) rfl rfl rfl ?_
    refine x_cv (ls0 := [_, _]) (rest := []) rfl rfl rfl rfl rfl ?_
    refine x_iload_n (pc' := 1) rfl rfl rfl ?_
    refine x_if (a' := 16) (pc' := 4) (z := false) rfl rfl rfl (by decide) (fun h => by cases h) (fun _ => ?_)
    refine x_iload_n (pc' := 5) rfl rfl rfl ?_
    refine x_aload_n (pc' := 6) rfl rfl rfl rfl rfl ?_
    refine x_gR (pc' := 9) (r := (some 0)) rfl rfl rfl (z_R_705_0 e) ?_
    refine x_gR (pc' := 12) (r := (some 0)) rfl rfl rfl (z_R_256_0 e) ?_
    refine x_alen (pc' := 13) (N := 5) rfl rfl rfl (z_N_24_0 e) (?_ : X _ _ _ (.inl 5 :: _) _ _)
    refine x_icmp (a' := 27) (pc' := 16) (z := true) rfl rfl rfl (by decide) (fun _ => ?_) (fun h => by cases h)
    refine x_aload_n (pc' := 28) rfl rfl rfl rfl rfl ?_
    refine x_gR (pc' := 31) (r := (some 0)) rfl rfl rfl (z_R_705_0 e) ?_
    refine x_gR (pc' := 34) (r := (some 0)) rfl rfl rfl (z_R_256_0 e) ?_
    refine x_iload_n (pc' := 35) rfl rfl rfl ?_
    refine x_aald (pc' := 36) (N := 5) (k' := 1) (r := (some 0)) rfl rfl rfl (z_N_24_0 e) (io_in (p := 0) (N := 5) (by decide) (by decide)) (Eq.trans (congrArg (sE t 24 0) (nn_io (p := 0) (by decide))) (z_E_24_0_0 e)) ?_
    refine x_reta rfl rfl ?_
    refine sK_i (pc' := 5) rfl ?_
    refine x_iload_n (pc' := 6) rfl rfl rfl ?_
    refine x_cv (ls0 := [_, _]) (rest := []) rfl rfl rfl rfl rfl ?_
    refine x_iload_n (pc' := 1) rfl rfl rfl ?_
    have J7 : X 9 15 [.inr (.inr (1, (some 0))), .inl (bz (!(decide ((xs 2) = 0))))] [.inr (.inr (8, none))] t (sK 9 107 6 [.inr (.inr (11, (some 0))), .inl 0, .inl (bz (!(decide ((xs 2) = 0))))] [] (sK 107 281 5 [.inr (.inr (11, (some 0))), .inl 0, .inl (bz (!(decide ((xs 2) = 0)))), .inr (.inr (23, (some 0))), sJk] [.inl 0, .inr (.inr (23, (some 0)))] (sK 281 297 1870 [.inr (.inr (29, (some 0))), .inr (.inr (11, (some 0))), .inr (.inr (12, (some 0))), .inr (.inr (23, (some 0))), .inl 0, sJk, sJk] [] Qp))) := by
      refine x_reta rfl rfl ?_
      refine sK_i (pc' := 9) rfl ?_
      refine x_cs (ls0 := [_]) (rest := []) rfl rfl rfl rfl ?_
      refine x_aload_n (pc' := 1) rfl rfl rfl rfl rfl ?_
      refine x_ifnonnull (a' := 8) (pc' := 4) rfl rfl rfl rfl (fun i h => by cases h) (fun _ => ?_)
      refine x_iconst (pc' := 5) rfl rfl ?_
      refine x_goto (pc' := 12) rfl rfl ?_
      refine x_reti rfl rfl ?_
      refine sK_i (pc' := 12) rfl ?_
      refine x_reti rfl rfl ?_
      refine sK_i (pc' := 8) rfl ?_
      refine x_i2l (pc' := 9) (z := (-1 : Int64)) rfl rfl (by decide) ?_
      refine x_last (pc' := 10) (N := 1) (p := 0) rfl rfl (z_N_23_0 e) (io_in (p := 0) (N := 1) (by decide) (by decide)) (nn_io (p := 0) (by decide)) ?_
      refine x_goto (pc' := 17) rfl rfl ?_
      refine x_iconst (pc' := 18) rfl rfl ?_
      refine x_reti rfl rfl ?_
      refine sK_i (pc' := 1873) rfl ?_
      refine x_istore (pc' := 1875) (ls' := [_, _, _, _, _, _, _]) rfl rfl rfl rfl ?_
      refine x_aload_n (pc' := 1876) rfl rfl rfl rfl rfl ?_
      refine x_aload_n (pc' := 1877) rfl rfl rfl rfl rfl ?_
      refine x_iload (pc' := 1879) rfl rfl rfl ?_
      refine x_iconst (pc' := 1880) rfl rfl ?_
      refine x_iadd (pc' := 1881) (z := 1) rfl rfl (by decide) ?_
      refine x_iald (pc' := 1882) (N := 7) (x := 0) rfl rfl rfl (Eq.trans rdNL (z_N_29_0 e)) (io_in (p := 1) (N := 7) (by decide) (by decide)) (Eq.trans (congrArg (sA (sLw t 23 0 0 (-1 : Int64)) 29 0) (nn_io (p := 1) (by decide))) (Eq.trans rdAL (Eq.trans (z_A_29_0_1 e) e0))) ?_
      refine x_aload_n (pc' := 1883) rfl rfl rfl rfl rfl ?_
      refine x_iload (pc' := 1885) rfl rfl rfl ?_
      refine x_iconst (pc' := 1886) rfl rfl ?_
      refine x_iadd (pc' := 1887) (z := 2) rfl rfl (by decide) ?_
      refine x_iald (pc' := 1888) (N := 7) (x := (xs 2)) rfl rfl rfl (Eq.trans rdNL (z_N_29_0 e)) (io_in (p := 2) (N := 7) (by decide) (by decide)) (Eq.trans (congrArg (sA (sLw t 23 0 0 (-1 : Int64)) 29 0) (nn_io (p := 2) (by decide))) (Eq.trans rdAL (z_A_29_0_2 e))) ?_
      have J10 : X 297 1896 [.inr (.inr (29, (some 0))), .inr (.inr (11, (some 0))), .inr (.inr (12, (some 0))), .inr (.inr (23, (some 0))), .inl 0, .inl 0, sJk] [.inl (bz (!(decide ((xs 2) = 0)))), .inl 0, .inr (.inr (12, (some 0)))] (sLw t 23 0 0 (-1 : Int64)) Qp := by
        refine x_cv (ls0 := [_, _, _]) (rest := []) rfl rfl rfl rfl rfl ?_
        refine x_aload_n (pc' := 1) rfl rfl rfl rfl rfl ?_
        refine x_iload_n (pc' := 2) rfl rfl rfl ?_
        refine x_cs (ls0 := [_]) (rest := [_]) rfl rfl rfl rfl ?_
        refine x_iload_n (pc' := 1) rfl rfl rfl ?_
        refine x_iconst (pc' := 2) rfl rfl ?_
        refine x_iconst (pc' := 3) rfl rfl ?_
        refine x_cs (ls0 := [_, _, _]) (rest := []) rfl rfl rfl rfl ?_
        refine x_iload_n (pc' := 1) rfl rfl rfl ?_
        refine x_iload_n (pc' := 2) rfl rfl rfl ?_
        refine x_icmp (a' := 14) (pc' := 5) (z := false) rfl rfl rfl (by decide) (fun h => by cases h) (fun _ => ?_)
        refine x_iload_n (pc' := 6) rfl rfl rfl ?_
        refine x_iload_n (pc' := 7) rfl rfl rfl ?_
        refine x_icmp (a' := 14) (pc' := 10) (z := false) rfl rfl rfl (by decide) (fun h => by cases h) (fun _ => ?_)
        refine x_iconst (pc' := 11) rfl rfl ?_
        refine x_goto (pc' := 15) rfl rfl ?_
        refine x_retz (z := true) rfl rfl ?_
        refine sK_i (pc' := 6) rfl ?_
        refine x_retz (z := true) rfl rfl ?_
        refine sK_i (pc' := 5) rfl ?_
        refine x_if (a' := 12) (pc' := 8) (z := false) rfl rfl rfl (by decide) (fun h => by cases h) (fun _ => ?_)
        refine x_iconst (pc' := 9) rfl rfl ?_
        refine x_goto (pc' := 13) rfl rfl ?_
        refine x_cv (ls0 := [_, _]) (rest := []) rfl rfl rfl rfl rfl ?_
        refine x_aload_n (pc' := 1) rfl rfl rfl rfl rfl ?_
        refine x_iload_n (pc' := 2) rfl rfl rfl ?_
        refine x_pI (pc' := 5) rfl rfl rfl ?_
        refine x_iload_n (pc' := 6) rfl rfl rfl ?_
        refine x_if (a' := 13) (pc' := 9) (z := false) rfl rfl rfl (by decide) (fun h => by cases h) (fun _ => ?_)
        refine x_iconst (pc' := 10) rfl rfl ?_
        refine x_goto (pc' := 14) rfl rfl ?_
        refine x_retz (z := true) rfl rfl ?_
        refine sK_i (pc' := 16) rfl ?_
        refine x_if (a' := 28) (pc' := 19) (z := false) rfl rfl rfl (by decide) (fun h => by cases h) (fun _ => ?_)
        refine x_aload_n (pc' := 20) rfl rfl rfl rfl rfl ?_
        refine x_iload_n (pc' := 21) rfl rfl rfl ?_
        refine x_iload_n (pc' := 22) rfl rfl rfl ?_
        refine x_cv (ls0 := [_, _, _, sJk, sJk, sJk]) (rest := []) rfl rfl rfl rfl rfl ?_
        refine x_iconst (pc' := 1) rfl rfl ?_
        refine x_istore_n (pc' := 2) (ls' := [_, _, _, _, _, _]) rfl rfl rfl rfl ?_
        refine x_iconst (pc' := 3) rfl rfl ?_
        refine x_istore (pc' := 5) (ls' := [_, _, _, _, _, _]) rfl rfl rfl rfl ?_
        refine x_iload (pc' := 7) rfl rfl rfl ?_
        refine x_aload_n (pc' := 8) rfl rfl rfl rfl rfl ?_
        refine x_gI (pc' := 11) (x := 0) rfl rfl rfl (Eq.trans (rdI_F rfl) (Eq.trans rdIL (z_I_786_0 e))) ?_
        refine x_icmp (a' := 87) (pc' := 14) (z := true) rfl rfl rfl (by decide) (fun _ => ?_) (fun h => by cases h)
        refine x_iload_n (pc' := 88) rfl rfl rfl ?_
        refine x_reti rfl rfl ?_
        refine sK_i (pc' := 25) rfl ?_
        refine x_goto (pc' := 29) rfl rfl ?_
        refine x_reti rfl rfl ?_
        refine sK_i (pc' := 1899) rfl ?_
        refine x_istore (pc' := 1901) (ls' := [_, _, _, _, _, _, _]) rfl rfl rfl rfl ?_
        refine x_aload_n (pc' := 1902) rfl rfl rfl rfl rfl ?_
        refine x_cv (ls0 := [_]) (rest := []) rfl rfl rfl rfl rfl ?_
        refine x_aload_n (pc' := 1) rfl rfl rfl rfl rfl ?_
        refine x_gI (pc' := 4) (x := 0) rfl rfl rfl sI_s ?_
        refine x_reti rfl rfl ?_
        refine sK_i (pc' := 1905) rfl ?_
        refine x_iload (pc' := 1907) rfl rfl rfl ?_
        refine x_icmp (a' := 1912) (pc' := 1910) (z := true) rfl rfl rfl (by decide) (fun _ => ?_) (fun h => by cases h)
        refine x_iload (pc' := 1914) rfl rfl rfl ?_
        refine x_if (a' := 1929) (pc' := 1917) (z := false) rfl rfl rfl (by decide) (fun h => by cases h) (fun _ => ?_)
        refine x_aload_n (pc' := 1918) rfl rfl rfl rfl rfl ?_
        refine x_iconst (pc' := 1919) rfl rfl ?_
        refine x_lald (pc' := 1920) (N := 1) (x := (-1 : Int64)) rfl rfl (Eq.trans rdNI (Eq.trans rdNL (z_N_23_0 e))) (io_in (p := 0) (N := 1) (by decide) (by decide)) (Eq.trans (congrArg (sL (sIw (sLw t 23 0 0 (-1 : Int64)) 768 0 0) 23 0) (nn_io (p := 0) (by decide))) (Eq.trans rdLI sL_s)) ?_
        refine x_iload (pc' := 1922) rfl rfl rfl ?_
        refine x_i2l (pc' := 1923) (z := (-1 : Int64)) rfl rfl (by decide) ?_
        refine x_lcmp (pc' := 1924) (z := 0) rfl rfl (sLcmp_s _) ?_
        refine x_if (a' := 1929) (pc' := 1927) (z := true) rfl rfl rfl (by decide) (fun _ => ?_) (fun h => by cases h)
        refine x_goto (pc' := 2938) rfl rfl ?_
        refine x_iinc (pc' := 2941) (y := 7) (ls' := [_, _, _, _, _, _, _]) rfl rfl rfl rfl rfl ?_
        refine x_goto (pc' := 23) rfl rfl ?_
        refine x_iload (pc' := 25) rfl rfl rfl ?_
        refine x_aload_n (pc' := 26) rfl rfl rfl rfl rfl ?_
        refine x_alen (pc' := 27) (N := 7) rfl rfl rfl (Eq.trans rdNI (Eq.trans rdNL (z_N_29_0 e))) (?_ : X _ _ _ (.inl 7 :: _) _ _)
        refine x_bipush (pc' := 29) rfl rfl ?_
        refine x_isub (pc' := 30) (z := 0) rfl rfl (by decide) ?_
        refine x_icmp (a' := 2944) (pc' := 33) (z := true) rfl rfl rfl (by decide) (fun _ => ?_) (fun h => by cases h)
        refine x_iconst (pc' := 2945) rfl rfl ?_
        refine x_retz (z := true) rfl rfl ?_
        exact Qp_ok e (p := 0) (q := 0) rfl rfl rfl rfl
      refine x_if (a' := 1895) (pc' := 1891) (z := decide ((xs 2) = 0)) rfl rfl rfl rfl (fun q10 => ?_) (fun q10 => ?_)
      · refine x_iconst (pc' := 1896) rfl rfl ?_
        ((try rw [q10] at J10); (try rw [q10]); (try simp only [cd_t, cd_f, nt_t, nt_f, an_t, an_f, or_t, or_f] at J10); (try simp only [cd_t, cd_f, nt_t, nt_f, an_t, an_f, or_t, or_f]); exact J10)
      · refine x_iconst (pc' := 1892) rfl rfl ?_
        refine x_goto (pc' := 1896) rfl rfl ?_
        ((try rw [q10] at J10); (try rw [q10]); (try simp only [cd_t, cd_f, nt_t, nt_f, an_t, an_f, or_t, or_f] at J10); (try simp only [cd_t, cd_f, nt_t, nt_f, an_t, an_f, or_t, or_f]); exact J10)
    refine x_ifeq_z (a' := 11) (pc' := 4) (z := (!(decide ((xs 2) = 0)))) rfl rfl rfl (fun q7 => ?_) (fun q7 => ?_)
    · refine x_aload_n (pc' := 12) rfl rfl rfl rfl rfl ?_
      refine x_gR (pc' := 15) (r := none) rfl rfl rfl (z_R_70_0 e) ?_
      ((try rw [q7] at J7); (try rw [q7]); (try simp only [cd_t, cd_f, nt_t, nt_f, an_t, an_f, or_t, or_f] at J7); (try simp only [cd_t, cd_f, nt_t, nt_f, an_t, an_f, or_t, or_f]); exact J7)
    · refine x_aload_n (pc' := 5) rfl rfl rfl rfl rfl ?_
      refine x_gR (pc' := 8) (r := none) rfl rfl rfl (z_R_69_0 e) ?_
      refine x_goto (pc' := 15) rfl rfl ?_
      ((try rw [q7] at J7); (try rw [q7]); (try simp only [cd_t, cd_f, nt_t, nt_f, an_t, an_f, or_t, or_f] at J7); (try simp only [cd_t, cd_f, nt_t, nt_f, an_t, an_f, or_t, or_f]); exact J7)
  refine x_if (a' := 1868) (pc' := 1864) (z := decide ((xs 2) = 0)) rfl rfl rfl rfl (fun q3 => ?_) (fun q3 => ?_)
  · refine x_iconst (pc' := 1869) rfl rfl ?_
    ((try rw [q3] at J3); (try rw [q3]); (try simp only [cd_t, cd_f, nt_t, nt_f, an_t, an_f, or_t, or_f] at J3); (try simp only [cd_t, cd_f, nt_t, nt_f, an_t, an_f, or_t, or_f]); exact J3)
  · refine x_iconst (pc' := 1865) rfl rfl ?_
    refine x_goto (pc' := 1869) rfl rfl ?_
    ((try rw [q3] at J3); (try rw [q3]); (try simp only [cd_t, cd_f, nt_t, nt_f, an_t, an_f, or_t, or_f] at J3); (try simp only [cd_t, cd_f, nt_t, nt_f, an_t, an_f, or_t, or_f]); exact J3)
set_option maxHeartbeats 4000000 in
set_option maxRecDepth 10000 in
theorem v_23_1_i {t : sT} {xs : Nat → Int32}
    (e : t = T16 7 xs)
    (hk : ((xs 0) &&& 63) = 23)
    (e0 : xs 1 = 1) :
    X 297 23 [.inr (.inr (29, (some 0))), .inr (.inr (11, (some 0))), .inr (.inr (12, (some 0))), .inr (.inr (23, (some 0))), .inl 0, sJk, sJk] [] t Qp := by
  refine x_iload (pc' := 25) rfl rfl rfl ?_
  refine x_aload_n (pc' := 26) rfl rfl rfl rfl rfl ?_
  refine x_alen (pc' := 27) (N := 7) rfl rfl rfl (z_N_29_0 e) (?_ : X _ _ _ (.inl 7 :: _) _ _)
  refine x_bipush (pc' := 29) rfl rfl ?_
  refine x_isub (pc' := 30) (z := 0) rfl rfl (by decide) ?_
  refine x_icmp (a' := 2944) (pc' := 33) (z := false) rfl rfl rfl (by decide) (fun h => by cases h) (fun _ => ?_)
  refine x_aload_n (pc' := 34) rfl rfl rfl rfl rfl ?_
  refine x_iload (pc' := 36) rfl rfl rfl ?_
  refine x_iald (pc' := 37) (N := 7) (x := (xs 0)) rfl rfl rfl (z_N_29_0 e) (io_in (p := 0) (N := 7) (by decide) (by decide)) (Eq.trans (congrArg (sA t 29 0) (nn_io (p := 0) (by decide))) (z_A_29_0_0 e)) ?_
  refine x_bipush (pc' := 39) rfl rfl ?_
  refine x_iand (pc' := 40) (z := ((xs 0) &&& 63)) rfl rfl rfl ?_
  refine x_switch (pc' := 1848) rfl (by rw [hk]; decide) ?_
  refine x_aload_n (pc' := 1849) rfl rfl rfl rfl rfl ?_
  refine x_aload_n (pc' := 1850) rfl rfl rfl rfl rfl ?_
  refine x_iload (pc' := 1852) rfl rfl rfl ?_
  refine x_iconst (pc' := 1853) rfl rfl ?_
  refine x_iadd (pc' := 1854) (z := 1) rfl rfl (by decide) ?_
  refine x_iald (pc' := 1855) (N := 7) (x := 1) rfl rfl rfl (z_N_29_0 e) (io_in (p := 1) (N := 7) (by decide) (by decide)) (Eq.trans (congrArg (sA t 29 0) (nn_io (p := 1) (by decide))) (Eq.trans (z_A_29_0_1 e) e0)) ?_
  refine x_aload_n (pc' := 1856) rfl rfl rfl rfl rfl ?_
  refine x_iload (pc' := 1858) rfl rfl rfl ?_
  refine x_iconst (pc' := 1859) rfl rfl ?_
  refine x_iadd (pc' := 1860) (z := 2) rfl rfl (by decide) ?_
  refine x_iald (pc' := 1861) (N := 7) (x := (xs 2)) rfl rfl rfl (z_N_29_0 e) (io_in (p := 2) (N := 7) (by decide) (by decide)) (Eq.trans (congrArg (sA t 29 0) (nn_io (p := 2) (by decide))) (z_A_29_0_2 e)) ?_
  have J3 : X 297 1869 [.inr (.inr (29, (some 0))), .inr (.inr (11, (some 0))), .inr (.inr (12, (some 0))), .inr (.inr (23, (some 0))), .inl 0, sJk, sJk] [.inl (bz (!(decide ((xs 2) = 0)))), .inl 1, .inr (.inr (11, (some 0)))] t Qp := by
    refine x_aload_n (pc' := 1870) rfl rfl rfl rfl rfl ?_
    refine x_cs (ls0 := [_, _, _, _, sJk]) (rest := []) rfl rfl rfl rfl ?_
    refine x_aload_n (pc' := 1) rfl rfl rfl rfl rfl ?_
    refine x_iconst (pc' := 2) rfl rfl ?_
    refine x_aload_n (pc' := 3) rfl rfl rfl rfl rfl ?_
    refine x_iload_n (pc' := 4) rfl rfl rfl ?_
    refine x_iload_n (pc' := 5) rfl rfl rfl ?_
    refine x_cv (ls0 := [_, _, _]) (rest := [_, _]) rfl rfl rfl rfl rfl ?_
    refine x_aload_n (pc' := 1) rfl rfl rfl rfl rfl ?_
    refine x_iload_n (pc' := 2) rfl rfl rfl ?_
    refine x_cv (ls0 := [_, _]) (rest := []) rfl rfl rfl rfl rfl ?_
    refine x_iload_n (pc' := 1) rfl rfl rfl ?_
    refine x_if (a' := 16) (pc' := 4) (z := false) rfl rfl rfl (by decide) (fun h => by cases h) (fun _ => ?_)
    refine x_iload_n (pc' := 5) rfl rfl rfl ?_
    refine x_aload_n (pc' := 6) rfl rfl rfl rfl rfl ?_
    refine x_gR (pc' := 9) (r := (some 0)) rfl rfl rfl (z_R_705_0 e) ?_
    refine x_gR (pc' := 12) (r := (some 0)) rfl rfl rfl (z_R_256_0 e) ?_
    refine x_alen (pc' := 13) (N := 5) rfl rfl rfl (z_N_24_0 e) (?_ : X _ _ _ (.inl 5 :: _) _ _)
    refine x_icmp (a' := 27) (pc' := 16) (z := true) rfl rfl rfl (by decide) (fun _ => ?_) (fun h => by cases h)
    refine x_aload_n (pc' := 28) rfl rfl rfl rfl rfl ?_
    refine x_gR (pc' := 31) (r := (some 0)) rfl rfl rfl (z_R_705_0 e) ?_
    refine x_gR (pc' := 34) (r := (some 0)) rfl rfl rfl (z_R_256_0 e) ?_
    refine x_iload_n (pc' := 35) rfl rfl rfl ?_
    refine x_aald (pc' := 36) (N := 5) (k' := 1) (r := (some 1)) rfl rfl rfl (z_N_24_0 e) (io_in (p := 1) (N := 5) (by decide) (by decide)) (Eq.trans (congrArg (sE t 24 0) (nn_io (p := 1) (by decide))) (z_E_24_0_1 e)) ?_
    refine x_reta rfl rfl ?_
    refine sK_i (pc' := 5) rfl ?_
    refine x_iload_n (pc' := 6) rfl rfl rfl ?_
    refine x_cv (ls0 := [_, _]) (rest := []) rfl rfl rfl rfl rfl ?_
    refine x_iload_n (pc' := 1) rfl rfl rfl ?_
    have J7 : X 9 15 [.inr (.inr (1, (some 1))), .inl (bz (!(decide ((xs 2) = 0))))] [.inr (.inr (8, none))] t (sK 9 107 6 [.inr (.inr (11, (some 0))), .inl 1, .inl (bz (!(decide ((xs 2) = 0))))] [] (sK 107 281 5 [.inr (.inr (11, (some 0))), .inl 1, .inl (bz (!(decide ((xs 2) = 0)))), .inr (.inr (23, (some 0))), sJk] [.inl 0, .inr (.inr (23, (some 0)))] (sK 281 297 1870 [.inr (.inr (29, (some 0))), .inr (.inr (11, (some 0))), .inr (.inr (12, (some 0))), .inr (.inr (23, (some 0))), .inl 0, sJk, sJk] [] Qp))) := by
      refine x_reta rfl rfl ?_
      refine sK_i (pc' := 9) rfl ?_
      refine x_cs (ls0 := [_]) (rest := []) rfl rfl rfl rfl ?_
      refine x_aload_n (pc' := 1) rfl rfl rfl rfl rfl ?_
      refine x_ifnonnull (a' := 8) (pc' := 4) rfl rfl rfl rfl (fun i h => by cases h) (fun _ => ?_)
      refine x_iconst (pc' := 5) rfl rfl ?_
      refine x_goto (pc' := 12) rfl rfl ?_
      refine x_reti rfl rfl ?_
      refine sK_i (pc' := 12) rfl ?_
      refine x_reti rfl rfl ?_
      refine sK_i (pc' := 8) rfl ?_
      refine x_i2l (pc' := 9) (z := (-1 : Int64)) rfl rfl (by decide) ?_
      refine x_last (pc' := 10) (N := 1) (p := 0) rfl rfl (z_N_23_0 e) (io_in (p := 0) (N := 1) (by decide) (by decide)) (nn_io (p := 0) (by decide)) ?_
      refine x_goto (pc' := 17) rfl rfl ?_
      refine x_iconst (pc' := 18) rfl rfl ?_
      refine x_reti rfl rfl ?_
      refine sK_i (pc' := 1873) rfl ?_
      refine x_istore (pc' := 1875) (ls' := [_, _, _, _, _, _, _]) rfl rfl rfl rfl ?_
      refine x_aload_n (pc' := 1876) rfl rfl rfl rfl rfl ?_
      refine x_aload_n (pc' := 1877) rfl rfl rfl rfl rfl ?_
      refine x_iload (pc' := 1879) rfl rfl rfl ?_
      refine x_iconst (pc' := 1880) rfl rfl ?_
      refine x_iadd (pc' := 1881) (z := 1) rfl rfl (by decide) ?_
      refine x_iald (pc' := 1882) (N := 7) (x := 1) rfl rfl rfl (Eq.trans rdNL (z_N_29_0 e)) (io_in (p := 1) (N := 7) (by decide) (by decide)) (Eq.trans (congrArg (sA (sLw t 23 0 0 (-1 : Int64)) 29 0) (nn_io (p := 1) (by decide))) (Eq.trans rdAL (Eq.trans (z_A_29_0_1 e) e0))) ?_
      refine x_aload_n (pc' := 1883) rfl rfl rfl rfl rfl ?_
      refine x_iload (pc' := 1885) rfl rfl rfl ?_
      refine x_iconst (pc' := 1886) rfl rfl ?_
      refine x_iadd (pc' := 1887) (z := 2) rfl rfl (by decide) ?_
      refine x_iald (pc' := 1888) (N := 7) (x := (xs 2)) rfl rfl rfl (Eq.trans rdNL (z_N_29_0 e)) (io_in (p := 2) (N := 7) (by decide) (by decide)) (Eq.trans (congrArg (sA (sLw t 23 0 0 (-1 : Int64)) 29 0) (nn_io (p := 2) (by decide))) (Eq.trans rdAL (z_A_29_0_2 e))) ?_
      have J10 : X 297 1896 [.inr (.inr (29, (some 0))), .inr (.inr (11, (some 0))), .inr (.inr (12, (some 0))), .inr (.inr (23, (some 0))), .inl 0, .inl 0, sJk] [.inl (bz (!(decide ((xs 2) = 0)))), .inl 1, .inr (.inr (12, (some 0)))] (sLw t 23 0 0 (-1 : Int64)) Qp := by
        refine x_cv (ls0 := [_, _, _]) (rest := []) rfl rfl rfl rfl rfl ?_
        refine x_aload_n (pc' := 1) rfl rfl rfl rfl rfl ?_
        refine x_iload_n (pc' := 2) rfl rfl rfl ?_
        refine x_cs (ls0 := [_]) (rest := [_]) rfl rfl rfl rfl ?_
        refine x_iload_n (pc' := 1) rfl rfl rfl ?_
        refine x_iconst (pc' := 2) rfl rfl ?_
        refine x_iconst (pc' := 3) rfl rfl ?_
        refine x_cs (ls0 := [_, _, _]) (rest := []) rfl rfl rfl rfl ?_
        refine x_iload_n (pc' := 1) rfl rfl rfl ?_
        refine x_iload_n (pc' := 2) rfl rfl rfl ?_
        refine x_icmp (a' := 14) (pc' := 5) (z := false) rfl rfl rfl (by decide) (fun h => by cases h) (fun _ => ?_)
        refine x_iload_n (pc' := 6) rfl rfl rfl ?_
        refine x_iload_n (pc' := 7) rfl rfl rfl ?_
        refine x_icmp (a' := 14) (pc' := 10) (z := false) rfl rfl rfl (by decide) (fun h => by cases h) (fun _ => ?_)
        refine x_iconst (pc' := 11) rfl rfl ?_
        refine x_goto (pc' := 15) rfl rfl ?_
        refine x_retz (z := true) rfl rfl ?_
        refine sK_i (pc' := 6) rfl ?_
        refine x_retz (z := true) rfl rfl ?_
        refine sK_i (pc' := 5) rfl ?_
        refine x_if (a' := 12) (pc' := 8) (z := false) rfl rfl rfl (by decide) (fun h => by cases h) (fun _ => ?_)
        refine x_iconst (pc' := 9) rfl rfl ?_
        refine x_goto (pc' := 13) rfl rfl ?_
        refine x_cv (ls0 := [_, _]) (rest := []) rfl rfl rfl rfl rfl ?_
        refine x_aload_n (pc' := 1) rfl rfl rfl rfl rfl ?_
        refine x_iload_n (pc' := 2) rfl rfl rfl ?_
        refine x_pI (pc' := 5) rfl rfl rfl ?_
        refine x_iload_n (pc' := 6) rfl rfl rfl ?_
        refine x_if (a' := 13) (pc' := 9) (z := false) rfl rfl rfl (by decide) (fun h => by cases h) (fun _ => ?_)
        refine x_iconst (pc' := 10) rfl rfl ?_
        refine x_goto (pc' := 14) rfl rfl ?_
        refine x_retz (z := true) rfl rfl ?_
        refine sK_i (pc' := 16) rfl ?_
        refine x_if (a' := 28) (pc' := 19) (z := false) rfl rfl rfl (by decide) (fun h => by cases h) (fun _ => ?_)
        refine x_aload_n (pc' := 20) rfl rfl rfl rfl rfl ?_
        refine x_iload_n (pc' := 21) rfl rfl rfl ?_
        refine x_iload_n (pc' := 22) rfl rfl rfl ?_
        refine x_cv (ls0 := [_, _, _, sJk, sJk, sJk]) (rest := []) rfl rfl rfl rfl rfl ?_
        refine x_iconst (pc' := 1) rfl rfl ?_
        refine x_istore_n (pc' := 2) (ls' := [_, _, _, _, _, _]) rfl rfl rfl rfl ?_
        refine x_iconst (pc' := 3) rfl rfl ?_
        refine x_istore (pc' := 5) (ls' := [_, _, _, _, _, _]) rfl rfl rfl rfl ?_
        refine x_iload (pc' := 7) rfl rfl rfl ?_
        refine x_aload_n (pc' := 8) rfl rfl rfl rfl rfl ?_
        refine x_gI (pc' := 11) (x := 0) rfl rfl rfl (Eq.trans (rdI_F rfl) (Eq.trans rdIL (z_I_786_0 e))) ?_
        refine x_icmp (a' := 87) (pc' := 14) (z := true) rfl rfl rfl (by decide) (fun _ => ?_) (fun h => by cases h)
        refine x_iload_n (pc' := 88) rfl rfl rfl ?_
        refine x_reti rfl rfl ?_
        refine sK_i (pc' := 25) rfl ?_
        refine x_goto (pc' := 29) rfl rfl ?_
        refine x_reti rfl rfl ?_
        refine sK_i (pc' := 1899) rfl ?_
        refine x_istore (pc' := 1901) (ls' := [_, _, _, _, _, _, _]) rfl rfl rfl rfl ?_
        refine x_aload_n (pc' := 1902) rfl rfl rfl rfl rfl ?_
        refine x_cv (ls0 := [_]) (rest := []) rfl rfl rfl rfl rfl ?_
        refine x_aload_n (pc' := 1) rfl rfl rfl rfl rfl ?_
        refine x_gI (pc' := 4) (x := 0) rfl rfl rfl sI_s ?_
        refine x_reti rfl rfl ?_
        refine sK_i (pc' := 1905) rfl ?_
        refine x_iload (pc' := 1907) rfl rfl rfl ?_
        refine x_icmp (a' := 1912) (pc' := 1910) (z := true) rfl rfl rfl (by decide) (fun _ => ?_) (fun h => by cases h)
        refine x_iload (pc' := 1914) rfl rfl rfl ?_
        refine x_if (a' := 1929) (pc' := 1917) (z := false) rfl rfl rfl (by decide) (fun h => by cases h) (fun _ => ?_)
        refine x_aload_n (pc' := 1918) rfl rfl rfl rfl rfl ?_
        refine x_iconst (pc' := 1919) rfl rfl ?_
        refine x_lald (pc' := 1920) (N := 1) (x := (-1 : Int64)) rfl rfl (Eq.trans rdNI (Eq.trans rdNL (z_N_23_0 e))) (io_in (p := 0) (N := 1) (by decide) (by decide)) (Eq.trans (congrArg (sL (sIw (sLw t 23 0 0 (-1 : Int64)) 768 0 0) 23 0) (nn_io (p := 0) (by decide))) (Eq.trans rdLI sL_s)) ?_
        refine x_iload (pc' := 1922) rfl rfl rfl ?_
        refine x_i2l (pc' := 1923) (z := (-1 : Int64)) rfl rfl (by decide) ?_
        refine x_lcmp (pc' := 1924) (z := 0) rfl rfl (sLcmp_s _) ?_
        refine x_if (a' := 1929) (pc' := 1927) (z := true) rfl rfl rfl (by decide) (fun _ => ?_) (fun h => by cases h)
        refine x_goto (pc' := 2938) rfl rfl ?_
        refine x_iinc (pc' := 2941) (y := 7) (ls' := [_, _, _, _, _, _, _]) rfl rfl rfl rfl rfl ?_
        refine x_goto (pc' := 23) rfl rfl ?_
        refine x_iload (pc' := 25) rfl rfl rfl ?_
        refine x_aload_n (pc' := 26) rfl rfl rfl rfl rfl ?_
        refine x_alen (pc' := 27) (N := 7) rfl rfl rfl (Eq.trans rdNI (Eq.trans rdNL (z_N_29_0 e))) (?_ : X _ _ _ (.inl 7 :: _) _ _)
        refine x_bipush (pc' := 29) rfl rfl ?_
        refine x_isub (pc' := 30) (z := 0) rfl rfl (by decide) ?_
        refine x_icmp (a' := 2944) (pc' := 33) (z := true) rfl rfl rfl (by decide) (fun _ => ?_) (fun h => by cases h)
        refine x_iconst (pc' := 2945) rfl rfl ?_
        refine x_retz (z := true) rfl rfl ?_
        exact Qp_ok e (p := 0) (q := 0) rfl rfl rfl rfl
      refine x_if (a' := 1895) (pc' := 1891) (z := decide ((xs 2) = 0)) rfl rfl rfl rfl (fun q10 => ?_) (fun q10 => ?_)
      · refine x_iconst (pc' := 1896) rfl rfl ?_
        ((try rw [q10] at J10); (try rw [q10]); (try simp only [cd_t, cd_f, nt_t, nt_f, an_t, an_f, or_t, or_f] at J10); (try simp only [cd_t, cd_f, nt_t, nt_f, an_t, an_f, or_t, or_f]); exact J10)
      · refine x_iconst (pc' := 1892) rfl rfl ?_
        refine x_goto (pc' := 1896) rfl rfl ?_
        ((try rw [q10] at J10); (try rw [q10]); (try simp only [cd_t, cd_f, nt_t, nt_f, an_t, an_f, or_t, or_f] at J10); (try simp only [cd_t, cd_f, nt_t, nt_f, an_t, an_f, or_t, or_f]); exact J10)
    refine x_ifeq_z (a' := 11) (pc' := 4) (z := (!(decide ((xs 2) = 0)))) rfl rfl rfl (fun q7 => ?_) (fun q7 => ?_)
    · refine x_aload_n (pc' := 12) rfl rfl rfl rfl rfl ?_
      refine x_gR (pc' := 15) (r := none) rfl rfl rfl (z_R_70_1 e) ?_
      ((try rw [q7] at J7); (try rw [q7]); (try simp only [cd_t, cd_f, nt_t, nt_f, an_t, an_f, or_t, or_f] at J7); (try simp only [cd_t, cd_f, nt_t, nt_f, an_t, an_f, or_t, or_f]); exact J7)
    · refine x_aload_n (pc' := 5) rfl rfl rfl rfl rfl ?_
      refine x_gR (pc' := 8) (r := none) rfl rfl rfl (z_R_69_1 e) ?_
      refine x_goto (pc' := 15) rfl rfl ?_
      ((try rw [q7] at J7); (try rw [q7]); (try simp only [cd_t, cd_f, nt_t, nt_f, an_t, an_f, or_t, or_f] at J7); (try simp only [cd_t, cd_f, nt_t, nt_f, an_t, an_f, or_t, or_f]); exact J7)
  refine x_if (a' := 1868) (pc' := 1864) (z := decide ((xs 2) = 0)) rfl rfl rfl rfl (fun q3 => ?_) (fun q3 => ?_)
  · refine x_iconst (pc' := 1869) rfl rfl ?_
    ((try rw [q3] at J3); (try rw [q3]); (try simp only [cd_t, cd_f, nt_t, nt_f, an_t, an_f, or_t, or_f] at J3); (try simp only [cd_t, cd_f, nt_t, nt_f, an_t, an_f, or_t, or_f]); exact J3)
  · refine x_iconst (pc' := 1865) rfl rfl ?_
    refine x_goto (pc' := 1869) rfl rfl ?_
    ((try rw [q3] at J3); (try rw [q3]); (try simp only [cd_t, cd_f, nt_t, nt_f, an_t, an_f, or_t, or_f] at J3); (try simp only [cd_t, cd_f, nt_t, nt_f, an_t, an_f, or_t, or_f]); exact J3)
set_option maxHeartbeats 4000000 in
set_option maxRecDepth 10000 in
theorem v_23_2_i {t : sT} {xs : Nat → Int32}
    (e : t = T16 7 xs)
    (hk : ((xs 0) &&& 63) = 23)
    (e0 : xs 1 = 2) :
    X 297 23 [.inr (.inr (29, (some 0))), .inr (.inr (11, (some 0))), .inr (.inr (12, (some 0))), .inr (.inr (23, (some 0))), .inl 0, sJk, sJk] [] t Qp := by
  refine x_iload (pc' := 25) rfl rfl rfl ?_
  refine x_aload_n (pc' := 26) rfl rfl rfl rfl rfl ?_
  refine x_alen (pc' := 27) (N := 7) rfl rfl rfl (z_N_29_0 e) (?_ : X _ _ _ (.inl 7 :: _) _ _)
  refine x_bipush (pc' := 29) rfl rfl ?_
  refine x_isub (pc' := 30) (z := 0) rfl rfl (by decide) ?_
  refine x_icmp (a' := 2944) (pc' := 33) (z := false) rfl rfl rfl (by decide) (fun h => by cases h) (fun _ => ?_)
  refine x_aload_n (pc' := 34) rfl rfl rfl rfl rfl ?_
  refine x_iload (pc' := 36) rfl rfl rfl ?_
  refine x_iald (pc' := 37) (N := 7) (x := (xs 0)) rfl rfl rfl (z_N_29_0 e) (io_in (p := 0) (N := 7) (by decide) (by decide)) (Eq.trans (congrArg (sA t 29 0) (nn_io (p := 0) (by decide))) (z_A_29_0_0 e)) ?_
  refine x_bipush (pc' := 39) rfl rfl ?_
  refine x_iand (pc' := 40) (z := ((xs 0) &&& 63)) rfl rfl rfl ?_
  refine x_switch (pc' := 1848) rfl (by rw [hk]; decide) ?_
  refine x_aload_n (pc' := 1849) rfl rfl rfl rfl rfl ?_
  refine x_aload_n (pc' := 1850) rfl rfl rfl rfl rfl ?_
  refine x_iload (pc' := 1852) rfl rfl rfl ?_
  refine x_iconst (pc' := 1853) rfl rfl ?_
  refine x_iadd (pc' := 1854) (z := 1) rfl rfl (by decide) ?_
  refine x_iald (pc' := 1855) (N := 7) (x := 2) rfl rfl rfl (z_N_29_0 e) (io_in (p := 1) (N := 7) (by decide) (by decide)) (Eq.trans (congrArg (sA t 29 0) (nn_io (p := 1) (by decide))) (Eq.trans (z_A_29_0_1 e) e0)) ?_
  refine x_aload_n (pc' := 1856) rfl rfl rfl rfl rfl ?_
  refine x_iload (pc' := 1858) rfl rfl rfl ?_
  refine x_iconst (pc' := 1859) rfl rfl ?_
  refine x_iadd (pc' := 1860) (z := 2) rfl rfl (by decide) ?_
  refine x_iald (pc' := 1861) (N := 7) (x := (xs 2)) rfl rfl rfl (z_N_29_0 e) (io_in (p := 2) (N := 7) (by decide) (by decide)) (Eq.trans (congrArg (sA t 29 0) (nn_io (p := 2) (by decide))) (z_A_29_0_2 e)) ?_
  have J3 : X 297 1869 [.inr (.inr (29, (some 0))), .inr (.inr (11, (some 0))), .inr (.inr (12, (some 0))), .inr (.inr (23, (some 0))), .inl 0, sJk, sJk] [.inl (bz (!(decide ((xs 2) = 0)))), .inl 2, .inr (.inr (11, (some 0)))] t Qp := by
    refine x_aload_n (pc' := 1870) rfl rfl rfl rfl rfl ?_
    refine x_cs (ls0 := [_, _, _, _, sJk]) (rest := []) rfl rfl rfl rfl ?_
    refine x_aload_n (pc' := 1) rfl rfl rfl rfl rfl ?_
    refine x_iconst (pc' := 2) rfl rfl ?_
    refine x_aload_n (pc' := 3) rfl rfl rfl rfl rfl ?_
    refine x_iload_n (pc' := 4) rfl rfl rfl ?_
    refine x_iload_n (pc' := 5) rfl rfl rfl ?_
    refine x_cv (ls0 := [_, _, _]) (rest := [_, _]) rfl rfl rfl rfl rfl ?_
    refine x_aload_n (pc' := 1) rfl rfl rfl rfl rfl ?_
    refine x_iload_n (pc' := 2) rfl rfl rfl ?_
    refine x_cv (ls0 := [_, _]) (rest := []) rfl rfl rfl rfl rfl ?_
    refine x_iload_n (pc' := 1) rfl rfl rfl ?_
    refine x_if (a' := 16) (pc' := 4) (z := false) rfl rfl rfl (by decide) (fun h => by cases h) (fun _ => ?_)
    refine x_iload_n (pc' := 5) rfl rfl rfl ?_
    refine x_aload_n (pc' := 6) rfl rfl rfl rfl rfl ?_
    refine x_gR (pc' := 9) (r := (some 0)) rfl rfl rfl (z_R_705_0 e) ?_
    refine x_gR (pc' := 12) (r := (some 0)) rfl rfl rfl (z_R_256_0 e) ?_
    refine x_alen (pc' := 13) (N := 5) rfl rfl rfl (z_N_24_0 e) (?_ : X _ _ _ (.inl 5 :: _) _ _)
    refine x_icmp (a' := 27) (pc' := 16) (z := true) rfl rfl rfl (by decide) (fun _ => ?_) (fun h => by cases h)
    refine x_aload_n (pc' := 28) rfl rfl rfl rfl rfl ?_
    refine x_gR (pc' := 31) (r := (some 0)) rfl rfl rfl (z_R_705_0 e) ?_
    refine x_gR (pc' := 34) (r := (some 0)) rfl rfl rfl (z_R_256_0 e) ?_
    refine x_iload_n (pc' := 35) rfl rfl rfl ?_
    refine x_aald (pc' := 36) (N := 5) (k' := 1) (r := (some 2)) rfl rfl rfl (z_N_24_0 e) (io_in (p := 2) (N := 5) (by decide) (by decide)) (Eq.trans (congrArg (sE t 24 0) (nn_io (p := 2) (by decide))) (z_E_24_0_2 e)) ?_
    refine x_reta rfl rfl ?_
    refine sK_i (pc' := 5) rfl ?_
    refine x_iload_n (pc' := 6) rfl rfl rfl ?_
    refine x_cv (ls0 := [_, _]) (rest := []) rfl rfl rfl rfl rfl ?_
    refine x_iload_n (pc' := 1) rfl rfl rfl ?_
    have J7 : X 9 15 [.inr (.inr (1, (some 2))), .inl (bz (!(decide ((xs 2) = 0))))] [.inr (.inr (8, none))] t (sK 9 107 6 [.inr (.inr (11, (some 0))), .inl 2, .inl (bz (!(decide ((xs 2) = 0))))] [] (sK 107 281 5 [.inr (.inr (11, (some 0))), .inl 2, .inl (bz (!(decide ((xs 2) = 0)))), .inr (.inr (23, (some 0))), sJk] [.inl 0, .inr (.inr (23, (some 0)))] (sK 281 297 1870 [.inr (.inr (29, (some 0))), .inr (.inr (11, (some 0))), .inr (.inr (12, (some 0))), .inr (.inr (23, (some 0))), .inl 0, sJk, sJk] [] Qp))) := by
      refine x_reta rfl rfl ?_
      refine sK_i (pc' := 9) rfl ?_
      refine x_cs (ls0 := [_]) (rest := []) rfl rfl rfl rfl ?_
      refine x_aload_n (pc' := 1) rfl rfl rfl rfl rfl ?_
      refine x_ifnonnull (a' := 8) (pc' := 4) rfl rfl rfl rfl (fun i h => by cases h) (fun _ => ?_)
      refine x_iconst (pc' := 5) rfl rfl ?_
      refine x_goto (pc' := 12) rfl rfl ?_
      refine x_reti rfl rfl ?_
      refine sK_i (pc' := 12) rfl ?_
      refine x_reti rfl rfl ?_
      refine sK_i (pc' := 8) rfl ?_
      refine x_i2l (pc' := 9) (z := (-1 : Int64)) rfl rfl (by decide) ?_
      refine x_last (pc' := 10) (N := 1) (p := 0) rfl rfl (z_N_23_0 e) (io_in (p := 0) (N := 1) (by decide) (by decide)) (nn_io (p := 0) (by decide)) ?_
      refine x_goto (pc' := 17) rfl rfl ?_
      refine x_iconst (pc' := 18) rfl rfl ?_
      refine x_reti rfl rfl ?_
      refine sK_i (pc' := 1873) rfl ?_
      refine x_istore (pc' := 1875) (ls' := [_, _, _, _, _, _, _]) rfl rfl rfl rfl ?_
      refine x_aload_n (pc' := 1876) rfl rfl rfl rfl rfl ?_
      refine x_aload_n (pc' := 1877) rfl rfl rfl rfl rfl ?_
      refine x_iload (pc' := 1879) rfl rfl rfl ?_
      refine x_iconst (pc' := 1880) rfl rfl ?_
      refine x_iadd (pc' := 1881) (z := 1) rfl rfl (by decide) ?_
      refine x_iald (pc' := 1882) (N := 7) (x := 2) rfl rfl rfl (Eq.trans rdNL (z_N_29_0 e)) (io_in (p := 1) (N := 7) (by decide) (by decide)) (Eq.trans (congrArg (sA (sLw t 23 0 0 (-1 : Int64)) 29 0) (nn_io (p := 1) (by decide))) (Eq.trans rdAL (Eq.trans (z_A_29_0_1 e) e0))) ?_
      refine x_aload_n (pc' := 1883) rfl rfl rfl rfl rfl ?_
      refine x_iload (pc' := 1885) rfl rfl rfl ?_
      refine x_iconst (pc' := 1886) rfl rfl ?_
      refine x_iadd (pc' := 1887) (z := 2) rfl rfl (by decide) ?_
      refine x_iald (pc' := 1888) (N := 7) (x := (xs 2)) rfl rfl rfl (Eq.trans rdNL (z_N_29_0 e)) (io_in (p := 2) (N := 7) (by decide) (by decide)) (Eq.trans (congrArg (sA (sLw t 23 0 0 (-1 : Int64)) 29 0) (nn_io (p := 2) (by decide))) (Eq.trans rdAL (z_A_29_0_2 e))) ?_
      have J10 : X 297 1896 [.inr (.inr (29, (some 0))), .inr (.inr (11, (some 0))), .inr (.inr (12, (some 0))), .inr (.inr (23, (some 0))), .inl 0, .inl 0, sJk] [.inl (bz (!(decide ((xs 2) = 0)))), .inl 2, .inr (.inr (12, (some 0)))] (sLw t 23 0 0 (-1 : Int64)) Qp := by
        refine x_cv (ls0 := [_, _, _]) (rest := []) rfl rfl rfl rfl rfl ?_
        refine x_aload_n (pc' := 1) rfl rfl rfl rfl rfl ?_
        refine x_iload_n (pc' := 2) rfl rfl rfl ?_
        refine x_cs (ls0 := [_]) (rest := [_]) rfl rfl rfl rfl ?_
        refine x_iload_n (pc' := 1) rfl rfl rfl ?_
        refine x_iconst (pc' := 2) rfl rfl ?_
        refine x_iconst (pc' := 3) rfl rfl ?_
        refine x_cs (ls0 := [_, _, _]) (rest := []) rfl rfl rfl rfl ?_
        refine x_iload_n (pc' := 1) rfl rfl rfl ?_
        refine x_iload_n (pc' := 2) rfl rfl rfl ?_
        refine x_icmp (a' := 14) (pc' := 5) (z := false) rfl rfl rfl (by decide) (fun h => by cases h) (fun _ => ?_)
        refine x_iload_n (pc' := 6) rfl rfl rfl ?_
        refine x_iload_n (pc' := 7) rfl rfl rfl ?_
        refine x_icmp (a' := 14) (pc' := 10) (z := false) rfl rfl rfl (by decide) (fun h => by cases h) (fun _ => ?_)
        refine x_iconst (pc' := 11) rfl rfl ?_
        refine x_goto (pc' := 15) rfl rfl ?_
        refine x_retz (z := true) rfl rfl ?_
        refine sK_i (pc' := 6) rfl ?_
        refine x_retz (z := true) rfl rfl ?_
        refine sK_i (pc' := 5) rfl ?_
        refine x_if (a' := 12) (pc' := 8) (z := false) rfl rfl rfl (by decide) (fun h => by cases h) (fun _ => ?_)
        refine x_iconst (pc' := 9) rfl rfl ?_
        refine x_goto (pc' := 13) rfl rfl ?_
        refine x_cv (ls0 := [_, _]) (rest := []) rfl rfl rfl rfl rfl ?_
        refine x_aload_n (pc' := 1) rfl rfl rfl rfl rfl ?_
        refine x_iload_n (pc' := 2) rfl rfl rfl ?_
        refine x_pI (pc' := 5) rfl rfl rfl ?_
        refine x_iload_n (pc' := 6) rfl rfl rfl ?_
        refine x_if (a' := 13) (pc' := 9) (z := false) rfl rfl rfl (by decide) (fun h => by cases h) (fun _ => ?_)
        refine x_iconst (pc' := 10) rfl rfl ?_
        refine x_goto (pc' := 14) rfl rfl ?_
        refine x_retz (z := true) rfl rfl ?_
        refine sK_i (pc' := 16) rfl ?_
        refine x_if (a' := 28) (pc' := 19) (z := false) rfl rfl rfl (by decide) (fun h => by cases h) (fun _ => ?_)
        refine x_aload_n (pc' := 20) rfl rfl rfl rfl rfl ?_
        refine x_iload_n (pc' := 21) rfl rfl rfl ?_
        refine x_iload_n (pc' := 22) rfl rfl rfl ?_
        refine x_cv (ls0 := [_, _, _, sJk, sJk, sJk]) (rest := []) rfl rfl rfl rfl rfl ?_
        refine x_iconst (pc' := 1) rfl rfl ?_
        refine x_istore_n (pc' := 2) (ls' := [_, _, _, _, _, _]) rfl rfl rfl rfl ?_
        refine x_iconst (pc' := 3) rfl rfl ?_
        refine x_istore (pc' := 5) (ls' := [_, _, _, _, _, _]) rfl rfl rfl rfl ?_
        refine x_iload (pc' := 7) rfl rfl rfl ?_
        refine x_aload_n (pc' := 8) rfl rfl rfl rfl rfl ?_
        refine x_gI (pc' := 11) (x := 0) rfl rfl rfl (Eq.trans (rdI_F rfl) (Eq.trans rdIL (z_I_786_0 e))) ?_
        refine x_icmp (a' := 87) (pc' := 14) (z := true) rfl rfl rfl (by decide) (fun _ => ?_) (fun h => by cases h)
        refine x_iload_n (pc' := 88) rfl rfl rfl ?_
        refine x_reti rfl rfl ?_
        refine sK_i (pc' := 25) rfl ?_
        refine x_goto (pc' := 29) rfl rfl ?_
        refine x_reti rfl rfl ?_
        refine sK_i (pc' := 1899) rfl ?_
        refine x_istore (pc' := 1901) (ls' := [_, _, _, _, _, _, _]) rfl rfl rfl rfl ?_
        refine x_aload_n (pc' := 1902) rfl rfl rfl rfl rfl ?_
        refine x_cv (ls0 := [_]) (rest := []) rfl rfl rfl rfl rfl ?_
        refine x_aload_n (pc' := 1) rfl rfl rfl rfl rfl ?_
        refine x_gI (pc' := 4) (x := 0) rfl rfl rfl sI_s ?_
        refine x_reti rfl rfl ?_
        refine sK_i (pc' := 1905) rfl ?_
        refine x_iload (pc' := 1907) rfl rfl rfl ?_
        refine x_icmp (a' := 1912) (pc' := 1910) (z := true) rfl rfl rfl (by decide) (fun _ => ?_) (fun h => by cases h)
        refine x_iload (pc' := 1914) rfl rfl rfl ?_
        refine x_if (a' := 1929) (pc' := 1917) (z := false) rfl rfl rfl (by decide) (fun h => by cases h) (fun _ => ?_)
        refine x_aload_n (pc' := 1918) rfl rfl rfl rfl rfl ?_
        refine x_iconst (pc' := 1919) rfl rfl ?_
        refine x_lald (pc' := 1920) (N := 1) (x := (-1 : Int64)) rfl rfl (Eq.trans rdNI (Eq.trans rdNL (z_N_23_0 e))) (io_in (p := 0) (N := 1) (by decide) (by decide)) (Eq.trans (congrArg (sL (sIw (sLw t 23 0 0 (-1 : Int64)) 768 0 0) 23 0) (nn_io (p := 0) (by decide))) (Eq.trans rdLI sL_s)) ?_
        refine x_iload (pc' := 1922) rfl rfl rfl ?_
        refine x_i2l (pc' := 1923) (z := (-1 : Int64)) rfl rfl (by decide) ?_
        refine x_lcmp (pc' := 1924) (z := 0) rfl rfl (sLcmp_s _) ?_
        refine x_if (a' := 1929) (pc' := 1927) (z := true) rfl rfl rfl (by decide) (fun _ => ?_) (fun h => by cases h)
        refine x_goto (pc' := 2938) rfl rfl ?_
        refine x_iinc (pc' := 2941) (y := 7) (ls' := [_, _, _, _, _, _, _]) rfl rfl rfl rfl rfl ?_
        refine x_goto (pc' := 23) rfl rfl ?_
        refine x_iload (pc' := 25) rfl rfl rfl ?_
        refine x_aload_n (pc' := 26) rfl rfl rfl rfl rfl ?_
        refine x_alen (pc' := 27) (N := 7) rfl rfl rfl (Eq.trans rdNI (Eq.trans rdNL (z_N_29_0 e))) (?_ : X _ _ _ (.inl 7 :: _) _ _)
        refine x_bipush (pc' := 29) rfl rfl ?_
        refine x_isub (pc' := 30) (z := 0) rfl rfl (by decide) ?_
        refine x_icmp (a' := 2944) (pc' := 33) (z := true) rfl rfl rfl (by decide) (fun _ => ?_) (fun h => by cases h)
        refine x_iconst (pc' := 2945) rfl rfl ?_
        refine x_retz (z := true) rfl rfl ?_
        exact Qp_ok e (p := 0) (q := 0) rfl rfl rfl rfl
      refine x_if (a' := 1895) (pc' := 1891) (z := decide ((xs 2) = 0)) rfl rfl rfl rfl (fun q10 => ?_) (fun q10 => ?_)
      · refine x_iconst (pc' := 1896) rfl rfl ?_
        ((try rw [q10] at J10); (try rw [q10]); (try simp only [cd_t, cd_f, nt_t, nt_f, an_t, an_f, or_t, or_f] at J10); (try simp only [cd_t, cd_f, nt_t, nt_f, an_t, an_f, or_t, or_f]); exact J10)
      · refine x_iconst (pc' := 1892) rfl rfl ?_
        refine x_goto (pc' := 1896) rfl rfl ?_
        ((try rw [q10] at J10); (try rw [q10]); (try simp only [cd_t, cd_f, nt_t, nt_f, an_t, an_f, or_t, or_f] at J10); (try simp only [cd_t, cd_f, nt_t, nt_f, an_t, an_f, or_t, or_f]); exact J10)
    refine x_ifeq_z (a' := 11) (pc' := 4) (z := (!(decide ((xs 2) = 0)))) rfl rfl rfl (fun q7 => ?_) (fun q7 => ?_)
    · refine x_aload_n (pc' := 12) rfl rfl rfl rfl rfl ?_
      refine x_gR (pc' := 15) (r := none) rfl rfl rfl (z_R_70_2 e) ?_
      ((try rw [q7] at J7); (try rw [q7]); (try simp only [cd_t, cd_f, nt_t, nt_f, an_t, an_f, or_t, or_f] at J7); (try simp only [cd_t, cd_f, nt_t, nt_f, an_t, an_f, or_t, or_f]); exact J7)
    · refine x_aload_n (pc' := 5) rfl rfl rfl rfl rfl ?_
      refine x_gR (pc' := 8) (r := none) rfl rfl rfl (z_R_69_2 e) ?_
      refine x_goto (pc' := 15) rfl rfl ?_
      ((try rw [q7] at J7); (try rw [q7]); (try simp only [cd_t, cd_f, nt_t, nt_f, an_t, an_f, or_t, or_f] at J7); (try simp only [cd_t, cd_f, nt_t, nt_f, an_t, an_f, or_t, or_f]); exact J7)
  refine x_if (a' := 1868) (pc' := 1864) (z := decide ((xs 2) = 0)) rfl rfl rfl rfl (fun q3 => ?_) (fun q3 => ?_)
  · refine x_iconst (pc' := 1869) rfl rfl ?_
    ((try rw [q3] at J3); (try rw [q3]); (try simp only [cd_t, cd_f, nt_t, nt_f, an_t, an_f, or_t, or_f] at J3); (try simp only [cd_t, cd_f, nt_t, nt_f, an_t, an_f, or_t, or_f]); exact J3)
  · refine x_iconst (pc' := 1865) rfl rfl ?_
    refine x_goto (pc' := 1869) rfl rfl ?_
    ((try rw [q3] at J3); (try rw [q3]); (try simp only [cd_t, cd_f, nt_t, nt_f, an_t, an_f, or_t, or_f] at J3); (try simp only [cd_t, cd_f, nt_t, nt_f, an_t, an_f, or_t, or_f]); exact J3)
set_option maxHeartbeats 4000000 in
set_option maxRecDepth 10000 in
theorem v_23_3_i {t : sT} {xs : Nat → Int32}
    (e : t = T16 7 xs)
    (hk : ((xs 0) &&& 63) = 23)
    (e0 : xs 1 = 3) :
    X 297 23 [.inr (.inr (29, (some 0))), .inr (.inr (11, (some 0))), .inr (.inr (12, (some 0))), .inr (.inr (23, (some 0))), .inl 0, sJk, sJk] [] t Qp := by
  refine x_iload (pc' := 25) rfl rfl rfl ?_
  refine x_aload_n (pc' := 26) rfl rfl rfl rfl rfl ?_
  refine x_alen (pc' := 27) (N := 7) rfl rfl rfl (z_N_29_0 e) (?_ : X _ _ _ (.inl 7 :: _) _ _)
  refine x_bipush (pc' := 29) rfl rfl ?_
  refine x_isub (pc' := 30) (z := 0) rfl rfl (by decide) ?_
  refine x_icmp (a' := 2944) (pc' := 33) (z := false) rfl rfl rfl (by decide) (fun h => by cases h) (fun _ => ?_)
  refine x_aload_n (pc' := 34) rfl rfl rfl rfl rfl ?_
  refine x_iload (pc' := 36) rfl rfl rfl ?_
  refine x_iald (pc' := 37) (N := 7) (x := (xs 0)) rfl rfl rfl (z_N_29_0 e) (io_in (p := 0) (N := 7) (by decide) (by decide)) (Eq.trans (congrArg (sA t 29 0) (nn_io (p := 0) (by decide))) (z_A_29_0_0 e)) ?_
  refine x_bipush (pc' := 39) rfl rfl ?_
  refine x_iand (pc' := 40) (z := ((xs 0) &&& 63)) rfl rfl rfl ?_
  refine x_switch (pc' := 1848) rfl (by rw [hk]; decide) ?_
  refine x_aload_n (pc' := 1849) rfl rfl rfl rfl rfl ?_
  refine x_aload_n (pc' := 1850) rfl rfl rfl rfl rfl ?_
  refine x_iload (pc' := 1852) rfl rfl rfl ?_
  refine x_iconst (pc' := 1853) rfl rfl ?_
  refine x_iadd (pc' := 1854) (z := 1) rfl rfl (by decide) ?_
  refine x_iald (pc' := 1855) (N := 7) (x := 3) rfl rfl rfl (z_N_29_0 e) (io_in (p := 1) (N := 7) (by decide) (by decide)) (Eq.trans (congrArg (sA t 29 0) (nn_io (p := 1) (by decide))) (Eq.trans (z_A_29_0_1 e) e0)) ?_
  refine x_aload_n (pc' := 1856) rfl rfl rfl rfl rfl ?_
  refine x_iload (pc' := 1858) rfl rfl rfl ?_
  refine x_iconst (pc' := 1859) rfl rfl ?_
  refine x_iadd (pc' := 1860) (z := 2) rfl rfl (by decide) ?_
  refine x_iald (pc' := 1861) (N := 7) (x := (xs 2)) rfl rfl rfl (z_N_29_0 e) (io_in (p := 2) (N := 7) (by decide) (by decide)) (Eq.trans (congrArg (sA t 29 0) (nn_io (p := 2) (by decide))) (z_A_29_0_2 e)) ?_
  have J3 : X 297 1869 [.inr (.inr (29, (some 0))), .inr (.inr (11, (some 0))), .inr (.inr (12, (some 0))), .inr (.inr (23, (some 0))), .inl 0, sJk, sJk] [.inl (bz (!(decide ((xs 2) = 0)))), .inl 3, .inr (.inr (11, (some 0)))] t Qp := by
    refine x_aload_n (pc' := 1870) rfl rfl rfl rfl rfl ?_
    refine x_cs (ls0 := [_, _, _, _, sJk]) (rest := []) rfl rfl rfl rfl ?_
    refine x_aload_n (pc' := 1) rfl rfl rfl rfl rfl ?_
    refine x_iconst (pc' := 2) rfl rfl ?_
    refine x_aload_n (pc' := 3) rfl rfl rfl rfl rfl ?_
    refine x_iload_n (pc' := 4) rfl rfl rfl ?_
    refine x_iload_n (pc' := 5) rfl rfl rfl ?_
    refine x_cv (ls0 := [_, _, _]) (rest := [_, _]) rfl rfl rfl rfl rfl ?_
    refine x_aload_n (pc' := 1) rfl rfl rfl rfl rfl ?_
    refine x_iload_n (pc' := 2) rfl rfl rfl ?_
    refine x_cv (ls0 := [_, _]) (rest := []) rfl rfl rfl rfl rfl ?_
    refine x_iload_n (pc' := 1) rfl rfl rfl ?_
    refine x_if (a' := 16) (pc' := 4) (z := false) rfl rfl rfl (by decide) (fun h => by cases h) (fun _ => ?_)
    refine x_iload_n (pc' := 5) rfl rfl rfl ?_
    refine x_aload_n (pc' := 6) rfl rfl rfl rfl rfl ?_
    refine x_gR (pc' := 9) (r := (some 0)) rfl rfl rfl (z_R_705_0 e) ?_
    refine x_gR (pc' := 12) (r := (some 0)) rfl rfl rfl (z_R_256_0 e) ?_
    refine x_alen (pc' := 13) (N := 5) rfl rfl rfl (z_N_24_0 e) (?_ : X _ _ _ (.inl 5 :: _) _ _)
    refine x_icmp (a' := 27) (pc' := 16) (z := true) rfl rfl rfl (by decide) (fun _ => ?_) (fun h => by cases h)
    refine x_aload_n (pc' := 28) rfl rfl rfl rfl rfl ?_
    refine x_gR (pc' := 31) (r := (some 0)) rfl rfl rfl (z_R_705_0 e) ?_
    refine x_gR (pc' := 34) (r := (some 0)) rfl rfl rfl (z_R_256_0 e) ?_
    refine x_iload_n (pc' := 35) rfl rfl rfl ?_
    refine x_aald (pc' := 36) (N := 5) (k' := 1) (r := (some 3)) rfl rfl rfl (z_N_24_0 e) (io_in (p := 3) (N := 5) (by decide) (by decide)) (Eq.trans (congrArg (sE t 24 0) (nn_io (p := 3) (by decide))) (z_E_24_0_3 e)) ?_
    refine x_reta rfl rfl ?_
    refine sK_i (pc' := 5) rfl ?_
    refine x_iload_n (pc' := 6) rfl rfl rfl ?_
    refine x_cv (ls0 := [_, _]) (rest := []) rfl rfl rfl rfl rfl ?_
    refine x_iload_n (pc' := 1) rfl rfl rfl ?_
    have J7 : X 9 15 [.inr (.inr (1, (some 3))), .inl (bz (!(decide ((xs 2) = 0))))] [.inr (.inr (8, none))] t (sK 9 107 6 [.inr (.inr (11, (some 0))), .inl 3, .inl (bz (!(decide ((xs 2) = 0))))] [] (sK 107 281 5 [.inr (.inr (11, (some 0))), .inl 3, .inl (bz (!(decide ((xs 2) = 0)))), .inr (.inr (23, (some 0))), sJk] [.inl 0, .inr (.inr (23, (some 0)))] (sK 281 297 1870 [.inr (.inr (29, (some 0))), .inr (.inr (11, (some 0))), .inr (.inr (12, (some 0))), .inr (.inr (23, (some 0))), .inl 0, sJk, sJk] [] Qp))) := by
      refine x_reta rfl rfl ?_
      refine sK_i (pc' := 9) rfl ?_
      refine x_cs (ls0 := [_]) (rest := []) rfl rfl rfl rfl ?_
      refine x_aload_n (pc' := 1) rfl rfl rfl rfl rfl ?_
      refine x_ifnonnull (a' := 8) (pc' := 4) rfl rfl rfl rfl (fun i h => by cases h) (fun _ => ?_)
      refine x_iconst (pc' := 5) rfl rfl ?_
      refine x_goto (pc' := 12) rfl rfl ?_
      refine x_reti rfl rfl ?_
      refine sK_i (pc' := 12) rfl ?_
      refine x_reti rfl rfl ?_
      refine sK_i (pc' := 8) rfl ?_
      refine x_i2l (pc' := 9) (z := (-1 : Int64)) rfl rfl (by decide) ?_
      refine x_last (pc' := 10) (N := 1) (p := 0) rfl rfl (z_N_23_0 e) (io_in (p := 0) (N := 1) (by decide) (by decide)) (nn_io (p := 0) (by decide)) ?_
      refine x_goto (pc' := 17) rfl rfl ?_
      refine x_iconst (pc' := 18) rfl rfl ?_
      refine x_reti rfl rfl ?_
      refine sK_i (pc' := 1873) rfl ?_
      refine x_istore (pc' := 1875) (ls' := [_, _, _, _, _, _, _]) rfl rfl rfl rfl ?_
      refine x_aload_n (pc' := 1876) rfl rfl rfl rfl rfl ?_
      refine x_aload_n (pc' := 1877) rfl rfl rfl rfl rfl ?_
      refine x_iload (pc' := 1879) rfl rfl rfl ?_
      refine x_iconst (pc' := 1880) rfl rfl ?_
      refine x_iadd (pc' := 1881) (z := 1) rfl rfl (by decide) ?_
      refine x_iald (pc' := 1882) (N := 7) (x := 3) rfl rfl rfl (Eq.trans rdNL (z_N_29_0 e)) (io_in (p := 1) (N := 7) (by decide) (by decide)) (Eq.trans (congrArg (sA (sLw t 23 0 0 (-1 : Int64)) 29 0) (nn_io (p := 1) (by decide))) (Eq.trans rdAL (Eq.trans (z_A_29_0_1 e) e0))) ?_
      refine x_aload_n (pc' := 1883) rfl rfl rfl rfl rfl ?_
      refine x_iload (pc' := 1885) rfl rfl rfl ?_
      refine x_iconst (pc' := 1886) rfl rfl ?_
      refine x_iadd (pc' := 1887) (z := 2) rfl rfl (by decide) ?_
      refine x_iald (pc' := 1888) (N := 7) (x := (xs 2)) rfl rfl rfl (Eq.trans rdNL (z_N_29_0 e)) (io_in (p := 2) (N := 7) (by decide) (by decide)) (Eq.trans (congrArg (sA (sLw t 23 0 0 (-1 : Int64)) 29 0) (nn_io (p := 2) (by decide))) (Eq.trans rdAL (z_A_29_0_2 e))) ?_
      have J10 : X 297 1896 [.inr (.inr (29, (some 0))), .inr (.inr (11, (some 0))), .inr (.inr (12, (some 0))), .inr (.inr (23, (some 0))), .inl 0, .inl 0, sJk] [.inl (bz (!(decide ((xs 2) = 0)))), .inl 3, .inr (.inr (12, (some 0)))] (sLw t 23 0 0 (-1 : Int64)) Qp := by
        refine x_cv (ls0 := [_, _, _]) (rest := []) rfl rfl rfl rfl rfl ?_
        refine x_aload_n (pc' := 1) rfl rfl rfl rfl rfl ?_
        refine x_iload_n (pc' := 2) rfl rfl rfl ?_
        refine x_cs (ls0 := [_]) (rest := [_]) rfl rfl rfl rfl ?_
        refine x_iload_n (pc' := 1) rfl rfl rfl ?_
        refine x_iconst (pc' := 2) rfl rfl ?_
        refine x_iconst (pc' := 3) rfl rfl ?_
        refine x_cs (ls0 := [_, _, _]) (rest := []) rfl rfl rfl rfl ?_
        refine x_iload_n (pc' := 1) rfl rfl rfl ?_
        refine x_iload_n (pc' := 2) rfl rfl rfl ?_
        refine x_icmp (a' := 14) (pc' := 5) (z := false) rfl rfl rfl (by decide) (fun h => by cases h) (fun _ => ?_)
        refine x_iload_n (pc' := 6) rfl rfl rfl ?_
        refine x_iload_n (pc' := 7) rfl rfl rfl ?_
        refine x_icmp (a' := 14) (pc' := 10) (z := false) rfl rfl rfl (by decide) (fun h => by cases h) (fun _ => ?_)
        refine x_iconst (pc' := 11) rfl rfl ?_
        refine x_goto (pc' := 15) rfl rfl ?_
        refine x_retz (z := true) rfl rfl ?_
        refine sK_i (pc' := 6) rfl ?_
        refine x_retz (z := true) rfl rfl ?_
        refine sK_i (pc' := 5) rfl ?_
        refine x_if (a' := 12) (pc' := 8) (z := false) rfl rfl rfl (by decide) (fun h => by cases h) (fun _ => ?_)
        refine x_iconst (pc' := 9) rfl rfl ?_
        refine x_goto (pc' := 13) rfl rfl ?_
        refine x_cv (ls0 := [_, _]) (rest := []) rfl rfl rfl rfl rfl ?_
        refine x_aload_n (pc' := 1) rfl rfl rfl rfl rfl ?_
        refine x_iload_n (pc' := 2) rfl rfl rfl ?_
        refine x_pI (pc' := 5) rfl rfl rfl ?_
        refine x_iload_n (pc' := 6) rfl rfl rfl ?_
        refine x_if (a' := 13) (pc' := 9) (z := false) rfl rfl rfl (by decide) (fun h => by cases h) (fun _ => ?_)
        refine x_iconst (pc' := 10) rfl rfl ?_
        refine x_goto (pc' := 14) rfl rfl ?_
        refine x_retz (z := true) rfl rfl ?_
        refine sK_i (pc' := 16) rfl ?_
        refine x_if (a' := 28) (pc' := 19) (z := false) rfl rfl rfl (by decide) (fun h => by cases h) (fun _ => ?_)
        refine x_aload_n (pc' := 20) rfl rfl rfl rfl rfl ?_
        refine x_iload_n (pc' := 21) rfl rfl rfl ?_
        refine x_iload_n (pc' := 22) rfl rfl rfl ?_
        refine x_cv (ls0 := [_, _, _, sJk, sJk, sJk]) (rest := []) rfl rfl rfl rfl rfl ?_
        refine x_iconst (pc' := 1) rfl rfl ?_
        refine x_istore_n (pc' := 2) (ls' := [_, _, _, _, _, _]) rfl rfl rfl rfl ?_
        refine x_iconst (pc' := 3) rfl rfl ?_
        refine x_istore (pc' := 5) (ls' := [_, _, _, _, _, _]) rfl rfl rfl rfl ?_
        refine x_iload (pc' := 7) rfl rfl rfl ?_
        refine x_aload_n (pc' := 8) rfl rfl rfl rfl rfl ?_
        refine x_gI (pc' := 11) (x := 0) rfl rfl rfl (Eq.trans (rdI_F rfl) (Eq.trans rdIL (z_I_786_0 e))) ?_
        refine x_icmp (a' := 87) (pc' := 14) (z := true) rfl rfl rfl (by decide) (fun _ => ?_) (fun h => by cases h)
        refine x_iload_n (pc' := 88) rfl rfl rfl ?_
        refine x_reti rfl rfl ?_
        refine sK_i (pc' := 25) rfl ?_
        refine x_goto (pc' := 29) rfl rfl ?_
        refine x_reti rfl rfl ?_
        refine sK_i (pc' := 1899) rfl ?_
        refine x_istore (pc' := 1901) (ls' := [_, _, _, _, _, _, _]) rfl rfl rfl rfl ?_
        refine x_aload_n (pc' := 1902) rfl rfl rfl rfl rfl ?_
        refine x_cv (ls0 := [_]) (rest := []) rfl rfl rfl rfl rfl ?_
        refine x_aload_n (pc' := 1) rfl rfl rfl rfl rfl ?_
        refine x_gI (pc' := 4) (x := 0) rfl rfl rfl sI_s ?_
        refine x_reti rfl rfl ?_
        refine sK_i (pc' := 1905) rfl ?_
        refine x_iload (pc' := 1907) rfl rfl rfl ?_
        refine x_icmp (a' := 1912) (pc' := 1910) (z := true) rfl rfl rfl (by decide) (fun _ => ?_) (fun h => by cases h)
        refine x_iload (pc' := 1914) rfl rfl rfl ?_
        refine x_if (a' := 1929) (pc' := 1917) (z := false) rfl rfl rfl (by decide) (fun h => by cases h) (fun _ => ?_)
        refine x_aload_n (pc' := 1918) rfl rfl rfl rfl rfl ?_
        refine x_iconst (pc' := 1919) rfl rfl ?_
        refine x_lald (pc' := 1920) (N := 1) (x := (-1 : Int64)) rfl rfl (Eq.trans rdNI (Eq.trans rdNL (z_N_23_0 e))) (io_in (p := 0) (N := 1) (by decide) (by decide)) (Eq.trans (congrArg (sL (sIw (sLw t 23 0 0 (-1 : Int64)) 768 0 0) 23 0) (nn_io (p := 0) (by decide))) (Eq.trans rdLI sL_s)) ?_
        refine x_iload (pc' := 1922) rfl rfl rfl ?_
        refine x_i2l (pc' := 1923) (z := (-1 : Int64)) rfl rfl (by decide) ?_
        refine x_lcmp (pc' := 1924) (z := 0) rfl rfl (sLcmp_s _) ?_
        refine x_if (a' := 1929) (pc' := 1927) (z := true) rfl rfl rfl (by decide) (fun _ => ?_) (fun h => by cases h)
        refine x_goto (pc' := 2938) rfl rfl ?_
        refine x_iinc (pc' := 2941) (y := 7) (ls' := [_, _, _, _, _, _, _]) rfl rfl rfl rfl rfl ?_
        refine x_goto (pc' := 23) rfl rfl ?_
        refine x_iload (pc' := 25) rfl rfl rfl ?_
        refine x_aload_n (pc' := 26) rfl rfl rfl rfl rfl ?_
        refine x_alen (pc' := 27) (N := 7) rfl rfl rfl (Eq.trans rdNI (Eq.trans rdNL (z_N_29_0 e))) (?_ : X _ _ _ (.inl 7 :: _) _ _)
        refine x_bipush (pc' := 29) rfl rfl ?_
        refine x_isub (pc' := 30) (z := 0) rfl rfl (by decide) ?_
        refine x_icmp (a' := 2944) (pc' := 33) (z := true) rfl rfl rfl (by decide) (fun _ => ?_) (fun h => by cases h)
        refine x_iconst (pc' := 2945) rfl rfl ?_
        refine x_retz (z := true) rfl rfl ?_
        exact Qp_ok e (p := 0) (q := 0) rfl rfl rfl rfl
      refine x_if (a' := 1895) (pc' := 1891) (z := decide ((xs 2) = 0)) rfl rfl rfl rfl (fun q10 => ?_) (fun q10 => ?_)
      · refine x_iconst (pc' := 1896) rfl rfl ?_
        ((try rw [q10] at J10); (try rw [q10]); (try simp only [cd_t, cd_f, nt_t, nt_f, an_t, an_f, or_t, or_f] at J10); (try simp only [cd_t, cd_f, nt_t, nt_f, an_t, an_f, or_t, or_f]); exact J10)
      · refine x_iconst (pc' := 1892) rfl rfl ?_
        refine x_goto (pc' := 1896) rfl rfl ?_
        ((try rw [q10] at J10); (try rw [q10]); (try simp only [cd_t, cd_f, nt_t, nt_f, an_t, an_f, or_t, or_f] at J10); (try simp only [cd_t, cd_f, nt_t, nt_f, an_t, an_f, or_t, or_f]); exact J10)
    refine x_ifeq_z (a' := 11) (pc' := 4) (z := (!(decide ((xs 2) = 0)))) rfl rfl rfl (fun q7 => ?_) (fun q7 => ?_)
    · refine x_aload_n (pc' := 12) rfl rfl rfl rfl rfl ?_
      refine x_gR (pc' := 15) (r := none) rfl rfl rfl (z_R_70_3 e) ?_
      ((try rw [q7] at J7); (try rw [q7]); (try simp only [cd_t, cd_f, nt_t, nt_f, an_t, an_f, or_t, or_f] at J7); (try simp only [cd_t, cd_f, nt_t, nt_f, an_t, an_f, or_t, or_f]); exact J7)
    · refine x_aload_n (pc' := 5) rfl rfl rfl rfl rfl ?_
      refine x_gR (pc' := 8) (r := none) rfl rfl rfl (z_R_69_3 e) ?_
      refine x_goto (pc' := 15) rfl rfl ?_
      ((try rw [q7] at J7); (try rw [q7]); (try simp only [cd_t, cd_f, nt_t, nt_f, an_t, an_f, or_t, or_f] at J7); (try simp only [cd_t, cd_f, nt_t, nt_f, an_t, an_f, or_t, or_f]); exact J7)
  refine x_if (a' := 1868) (pc' := 1864) (z := decide ((xs 2) = 0)) rfl rfl rfl rfl (fun q3 => ?_) (fun q3 => ?_)
  · refine x_iconst (pc' := 1869) rfl rfl ?_
    ((try rw [q3] at J3); (try rw [q3]); (try simp only [cd_t, cd_f, nt_t, nt_f, an_t, an_f, or_t, or_f] at J3); (try simp only [cd_t, cd_f, nt_t, nt_f, an_t, an_f, or_t, or_f]); exact J3)
  · refine x_iconst (pc' := 1865) rfl rfl ?_
    refine x_goto (pc' := 1869) rfl rfl ?_
    ((try rw [q3] at J3); (try rw [q3]); (try simp only [cd_t, cd_f, nt_t, nt_f, an_t, an_f, or_t, or_f] at J3); (try simp only [cd_t, cd_f, nt_t, nt_f, an_t, an_f, or_t, or_f]); exact J3)
set_option maxHeartbeats 4000000 in
set_option maxRecDepth 10000 in
theorem v_23_4_i {t : sT} {xs : Nat → Int32}
    (e : t = T16 7 xs)
    (hk : ((xs 0) &&& 63) = 23)
    (e0 : xs 1 = 4) :
    X 297 23 [.inr (.inr (29, (some 0))), .inr (.inr (11, (some 0))), .inr (.inr (12, (some 0))), .inr (.inr (23, (some 0))), .inl 0, sJk, sJk] [] t Qp := by
  refine x_iload (pc' := 25) rfl rfl rfl ?_
  refine x_aload_n (pc' := 26) rfl rfl rfl rfl rfl ?_
  refine x_alen (pc' := 27) (N := 7) rfl rfl rfl (z_N_29_0 e) (?_ : X _ _ _ (.inl 7 :: _) _ _)
  refine x_bipush (pc' := 29) rfl rfl ?_
  refine x_isub (pc' := 30) (z := 0) rfl rfl (by decide) ?_
  refine x_icmp (a' := 2944) (pc' := 33) (z := false) rfl rfl rfl (by decide) (fun h => by cases h) (fun _ => ?_)
  refine x_aload_n (pc' := 34) rfl rfl rfl rfl rfl ?_
  refine x_iload (pc' := 36) rfl rfl rfl ?_
  refine x_iald (pc' := 37) (N := 7) (x := (xs 0)) rfl rfl rfl (z_N_29_0 e) (io_in (p := 0) (N := 7) (by decide) (by decide)) (Eq.trans (congrArg (sA t 29 0) (nn_io (p := 0) (by decide))) (z_A_29_0_0 e)) ?_
  refine x_bipush (pc' := 39) rfl rfl ?_
  refine x_iand (pc' := 40) (z := ((xs 0) &&& 63)) rfl rfl rfl ?_
  refine x_switch (pc' := 1848) rfl (by rw [hk]; decide) ?_
  refine x_aload_n (pc' := 1849) rfl rfl rfl rfl rfl ?_
  refine x_aload_n (pc' := 1850) rfl rfl rfl rfl rfl ?_
  refine x_iload (pc' := 1852) rfl rfl rfl ?_
  refine x_iconst (pc' := 1853) rfl rfl ?_
  refine x_iadd (pc' := 1854) (z := 1) rfl rfl (by decide) ?_
  refine x_iald (pc' := 1855) (N := 7) (x := 4) rfl rfl rfl (z_N_29_0 e) (io_in (p := 1) (N := 7) (by decide) (by decide)) (Eq.trans (congrArg (sA t 29 0) (nn_io (p := 1) (by decide))) (Eq.trans (z_A_29_0_1 e) e0)) ?_
  refine x_aload_n (pc' := 1856) rfl rfl rfl rfl rfl ?_
  refine x_iload (pc' := 1858) rfl rfl rfl ?_
  refine x_iconst (pc' := 1859) rfl rfl ?_
  refine x_iadd (pc' := 1860) (z := 2) rfl rfl (by decide) ?_
  refine x_iald (pc' := 1861) (N := 7) (x := (xs 2)) rfl rfl rfl (z_N_29_0 e) (io_in (p := 2) (N := 7) (by decide) (by decide)) (Eq.trans (congrArg (sA t 29 0) (nn_io (p := 2) (by decide))) (z_A_29_0_2 e)) ?_
  have J3 : X 297 1869 [.inr (.inr (29, (some 0))), .inr (.inr (11, (some 0))), .inr (.inr (12, (some 0))), .inr (.inr (23, (some 0))), .inl 0, sJk, sJk] [.inl (bz (!(decide ((xs 2) = 0)))), .inl 4, .inr (.inr (11, (some 0)))] t Qp := by
    refine x_aload_n (pc' := 1870) rfl rfl rfl rfl rfl ?_
    refine x_cs (ls0 := [_, _, _, _, sJk]) (rest := []) rfl rfl rfl rfl ?_
    refine x_aload_n (pc' := 1) rfl rfl rfl rfl rfl ?_
    refine x_iconst (pc' := 2) rfl rfl ?_
    refine x_aload_n (pc' := 3) rfl rfl rfl rfl rfl ?_
    refine x_iload_n (pc' := 4) rfl rfl rfl ?_
    refine x_iload_n (pc' := 5) rfl rfl rfl ?_
    refine x_cv (ls0 := [_, _, _]) (rest := [_, _]) rfl rfl rfl rfl rfl ?_
    refine x_aload_n (pc' := 1) rfl rfl rfl rfl rfl ?_
    refine x_iload_n (pc' := 2) rfl rfl rfl ?_
    refine x_cv (ls0 := [_, _]) (rest := []) rfl rfl rfl rfl rfl ?_
    refine x_iload_n (pc' := 1) rfl rfl rfl ?_
    refine x_if (a' := 16) (pc' := 4) (z := false) rfl rfl rfl (by decide) (fun h => by cases h) (fun _ => ?_)
    refine x_iload_n (pc' := 5) rfl rfl rfl ?_
    refine x_aload_n (pc' := 6) rfl rfl rfl rfl rfl ?_
    refine x_gR (pc' := 9) (r := (some 0)) rfl rfl rfl (z_R_705_0 e) ?_
    refine x_gR (pc' := 12) (r := (some 0)) rfl rfl rfl (z_R_256_0 e) ?_
    refine x_alen (pc' := 13) (N := 5) rfl rfl rfl (z_N_24_0 e) (?_ : X _ _ _ (.inl 5 :: _) _ _)
    refine x_icmp (a' := 27) (pc' := 16) (z := true) rfl rfl rfl (by decide) (fun _ => ?_) (fun h => by cases h)
    refine x_aload_n (pc' := 28) rfl rfl rfl rfl rfl ?_
    refine x_gR (pc' := 31) (r := (some 0)) rfl rfl rfl (z_R_705_0 e) ?_
    refine x_gR (pc' := 34) (r := (some 0)) rfl rfl rfl (z_R_256_0 e) ?_
    refine x_iload_n (pc' := 35) rfl rfl rfl ?_
    refine x_aald (pc' := 36) (N := 5) (k' := 1) (r := (some 4)) rfl rfl rfl (z_N_24_0 e) (io_in (p := 4) (N := 5) (by decide) (by decide)) (Eq.trans (congrArg (sE t 24 0) (nn_io (p := 4) (by decide))) (z_E_24_0_4 e)) ?_
    refine x_reta rfl rfl ?_
    refine sK_i (pc' := 5) rfl ?_
    refine x_iload_n (pc' := 6) rfl rfl rfl ?_
    refine x_cv (ls0 := [_, _]) (rest := []) rfl rfl rfl rfl rfl ?_
    refine x_iload_n (pc' := 1) rfl rfl rfl ?_
    have J7 : X 9 15 [.inr (.inr (1, (some 4))), .inl (bz (!(decide ((xs 2) = 0))))] [.inr (.inr (8, none))] t (sK 9 107 6 [.inr (.inr (11, (some 0))), .inl 4, .inl (bz (!(decide ((xs 2) = 0))))] [] (sK 107 281 5 [.inr (.inr (11, (some 0))), .inl 4, .inl (bz (!(decide ((xs 2) = 0)))), .inr (.inr (23, (some 0))), sJk] [.inl 0, .inr (.inr (23, (some 0)))] (sK 281 297 1870 [.inr (.inr (29, (some 0))), .inr (.inr (11, (some 0))), .inr (.inr (12, (some 0))), .inr (.inr (23, (some 0))), .inl 0, sJk, sJk] [] Qp))) := by
      refine x_reta rfl rfl ?_
      refine sK_i (pc' := 9) rfl ?_
      refine x_cs (ls0 := [_]) (rest := []) rfl rfl rfl rfl ?_
      refine x_aload_n (pc' := 1) rfl rfl rfl rfl rfl ?_
      refine x_ifnonnull (a' := 8) (pc' := 4) rfl rfl rfl rfl (fun i h => by cases h) (fun _ => ?_)
      refine x_iconst (pc' := 5) rfl rfl ?_
      refine x_goto (pc' := 12) rfl rfl ?_
      refine x_reti rfl rfl ?_
      refine sK_i (pc' := 12) rfl ?_
      refine x_reti rfl rfl ?_
      refine sK_i (pc' := 8) rfl ?_
      refine x_i2l (pc' := 9) (z := (-1 : Int64)) rfl rfl (by decide) ?_
      refine x_last (pc' := 10) (N := 1) (p := 0) rfl rfl (z_N_23_0 e) (io_in (p := 0) (N := 1) (by decide) (by decide)) (nn_io (p := 0) (by decide)) ?_
      refine x_goto (pc' := 17) rfl rfl ?_
      refine x_iconst (pc' := 18) rfl rfl ?_
      refine x_reti rfl rfl ?_
      refine sK_i (pc' := 1873) rfl ?_
      refine x_istore (pc' := 1875) (ls' := [_, _, _, _, _, _, _]) rfl rfl rfl rfl ?_
      refine x_aload_n (pc' := 1876) rfl rfl rfl rfl rfl ?_
      refine x_aload_n (pc' := 1877) rfl rfl rfl rfl rfl ?_
      refine x_iload (pc' := 1879) rfl rfl rfl ?_
      refine x_iconst (pc' := 1880) rfl rfl ?_
      refine x_iadd (pc' := 1881) (z := 1) rfl rfl (by decide) ?_
      refine x_iald (pc' := 1882) (N := 7) (x := 4) rfl rfl rfl (Eq.trans rdNL (z_N_29_0 e)) (io_in (p := 1) (N := 7) (by decide) (by decide)) (Eq.trans (congrArg (sA (sLw t 23 0 0 (-1 : Int64)) 29 0) (nn_io (p := 1) (by decide))) (Eq.trans rdAL (Eq.trans (z_A_29_0_1 e) e0))) ?_
      refine x_aload_n (pc' := 1883) rfl rfl rfl rfl rfl ?_
      refine x_iload (pc' := 1885) rfl rfl rfl ?_
      refine x_iconst (pc' := 1886) rfl rfl ?_
      refine x_iadd (pc' := 1887) (z := 2) rfl rfl (by decide) ?_
      refine x_iald (pc' := 1888) (N := 7) (x := (xs 2)) rfl rfl rfl (Eq.trans rdNL (z_N_29_0 e)) (io_in (p := 2) (N := 7) (by decide) (by decide)) (Eq.trans (congrArg (sA (sLw t 23 0 0 (-1 : Int64)) 29 0) (nn_io (p := 2) (by decide))) (Eq.trans rdAL (z_A_29_0_2 e))) ?_
      have J10 : X 297 1896 [.inr (.inr (29, (some 0))), .inr (.inr (11, (some 0))), .inr (.inr (12, (some 0))), .inr (.inr (23, (some 0))), .inl 0, .inl 0, sJk] [.inl (bz (!(decide ((xs 2) = 0)))), .inl 4, .inr (.inr (12, (some 0)))] (sLw t 23 0 0 (-1 : Int64)) Qp := by
        refine x_cv (ls0 := [_, _, _]) (rest := []) rfl rfl rfl rfl rfl ?_
        refine x_aload_n (pc' := 1) rfl rfl rfl rfl rfl ?_
        refine x_iload_n (pc' := 2) rfl rfl rfl ?_
        refine x_cs (ls0 := [_]) (rest := [_]) rfl rfl rfl rfl ?_
        refine x_iload_n (pc' := 1) rfl rfl rfl ?_
        refine x_iconst (pc' := 2) rfl rfl ?_
        refine x_iconst (pc' := 3) rfl rfl ?_
        refine x_cs (ls0 := [_, _, _]) (rest := []) rfl rfl rfl rfl ?_
        refine x_iload_n (pc' := 1) rfl rfl rfl ?_
        refine x_iload_n (pc' := 2) rfl rfl rfl ?_
        refine x_icmp (a' := 14) (pc' := 5) (z := false) rfl rfl rfl (by decide) (fun h => by cases h) (fun _ => ?_)
        refine x_iload_n (pc' := 6) rfl rfl rfl ?_
        refine x_iload_n (pc' := 7) rfl rfl rfl ?_
        refine x_icmp (a' := 14) (pc' := 10) (z := false) rfl rfl rfl (by decide) (fun h => by cases h) (fun _ => ?_)
        refine x_iconst (pc' := 11) rfl rfl ?_
        refine x_goto (pc' := 15) rfl rfl ?_
        refine x_retz (z := true) rfl rfl ?_
        refine sK_i (pc' := 6) rfl ?_
        refine x_retz (z := true) rfl rfl ?_
        refine sK_i (pc' := 5) rfl ?_
        refine x_if (a' := 12) (pc' := 8) (z := false) rfl rfl rfl (by decide) (fun h => by cases h) (fun _ => ?_)
        refine x_iconst (pc' := 9) rfl rfl ?_
        refine x_goto (pc' := 13) rfl rfl ?_
        refine x_cv (ls0 := [_, _]) (rest := []) rfl rfl rfl rfl rfl ?_
        refine x_aload_n (pc' := 1) rfl rfl rfl rfl rfl ?_
        refine x_iload_n (pc' := 2) rfl rfl rfl ?_
        refine x_pI (pc' := 5) rfl rfl rfl ?_
        refine x_iload_n (pc' := 6) rfl rfl rfl ?_
        refine x_if (a' := 13) (pc' := 9) (z := false) rfl rfl rfl (by decide) (fun h => by cases h) (fun _ => ?_)
        refine x_iconst (pc' := 10) rfl rfl ?_
        refine x_goto (pc' := 14) rfl rfl ?_
        refine x_retz (z := true) rfl rfl ?_
        refine sK_i (pc' := 16) rfl ?_
        refine x_if (a' := 28) (pc' := 19) (z := false) rfl rfl rfl (by decide) (fun h => by cases h) (fun _ => ?_)
        refine x_aload_n (pc' := 20) rfl rfl rfl rfl rfl ?_
        refine x_iload_n (pc' := 21) rfl rfl rfl ?_
        refine x_iload_n (pc' := 22) rfl rfl rfl ?_
        refine x_cv (ls0 := [_, _, _, sJk, sJk, sJk]) (rest := []) rfl rfl rfl rfl rfl ?_
        refine x_iconst (pc' := 1) rfl rfl ?_
        refine x_istore_n (pc' := 2) (ls' := [_, _, _, _, _, _]) rfl rfl rfl rfl ?_
        refine x_iconst (pc' := 3) rfl rfl ?_
        refine x_istore (pc' := 5) (ls' := [_, _, _, _, _, _]) rfl rfl rfl rfl ?_
        refine x_iload (pc' := 7) rfl rfl rfl ?_
        refine x_aload_n (pc' := 8) rfl rfl rfl rfl rfl ?_
        refine x_gI (pc' := 11) (x := 0) rfl rfl rfl (Eq.trans (rdI_F rfl) (Eq.trans rdIL (z_I_786_0 e))) ?_
        refine x_icmp (a' := 87) (pc' := 14) (z := true) rfl rfl rfl (by decide) (fun _ => ?_) (fun h => by cases h)
        refine x_iload_n (pc' := 88) rfl rfl rfl ?_
        refine x_reti rfl rfl ?_
        refine sK_i (pc' := 25) rfl ?_
        refine x_goto (pc' := 29) rfl rfl ?_
        refine x_reti rfl rfl ?_
        refine sK_i (pc' := 1899) rfl ?_
        refine x_istore (pc' := 1901) (ls' := [_, _, _, _, _, _, _]) rfl rfl rfl rfl ?_
        refine x_aload_n (pc' := 1902) rfl rfl rfl rfl rfl ?_
        refine x_cv (ls0 := [_]) (rest := []) rfl rfl rfl rfl rfl ?_
        refine x_aload_n (pc' := 1) rfl rfl rfl rfl rfl ?_
        refine x_gI (pc' := 4) (x := 0) rfl rfl rfl sI_s ?_
        refine x_reti rfl rfl ?_
        refine sK_i (pc' := 1905) rfl ?_
        refine x_iload (pc' := 1907) rfl rfl rfl ?_
        refine x_icmp (a' := 1912) (pc' := 1910) (z := true) rfl rfl rfl (by decide) (fun _ => ?_) (fun h => by cases h)
        refine x_iload (pc' := 1914) rfl rfl rfl ?_
        refine x_if (a' := 1929) (pc' := 1917) (z := false) rfl rfl rfl (by decide) (fun h => by cases h) (fun _ => ?_)
        refine x_aload_n (pc' := 1918) rfl rfl rfl rfl rfl ?_
        refine x_iconst (pc' := 1919) rfl rfl ?_
        refine x_lald (pc' := 1920) (N := 1) (x := (-1 : Int64)) rfl rfl (Eq.trans rdNI (Eq.trans rdNL (z_N_23_0 e))) (io_in (p := 0) (N := 1) (by decide) (by decide)) (Eq.trans (congrArg (sL (sIw (sLw t 23 0 0 (-1 : Int64)) 768 0 0) 23 0) (nn_io (p := 0) (by decide))) (Eq.trans rdLI sL_s)) ?_
        refine x_iload (pc' := 1922) rfl rfl rfl ?_
        refine x_i2l (pc' := 1923) (z := (-1 : Int64)) rfl rfl (by decide) ?_
        refine x_lcmp (pc' := 1924) (z := 0) rfl rfl (sLcmp_s _) ?_
        refine x_if (a' := 1929) (pc' := 1927) (z := true) rfl rfl rfl (by decide) (fun _ => ?_) (fun h => by cases h)
        refine x_goto (pc' := 2938) rfl rfl ?_
        refine x_iinc (pc' := 2941) (y := 7) (ls' := [_, _, _, _, _, _, _]) rfl rfl rfl rfl rfl ?_
        refine x_goto (pc' := 23) rfl rfl ?_
        refine x_iload (pc' := 25) rfl rfl rfl ?_
        refine x_aload_n (pc' := 26) rfl rfl rfl rfl rfl ?_
        refine x_alen (pc' := 27) (N := 7) rfl rfl rfl (Eq.trans rdNI (Eq.trans rdNL (z_N_29_0 e))) (?_ : X _ _ _ (.inl 7 :: _) _ _)
        refine x_bipush (pc' := 29) rfl rfl ?_
        refine x_isub (pc' := 30) (z := 0) rfl rfl (by decide) ?_
        refine x_icmp (a' := 2944) (pc' := 33) (z := true) rfl rfl rfl (by decide) (fun _ => ?_) (fun h => by cases h)
        refine x_iconst (pc' := 2945) rfl rfl ?_
        refine x_retz (z := true) rfl rfl ?_
        exact Qp_ok e (p := 0) (q := 0) rfl rfl rfl rfl
      refine x_if (a' := 1895) (pc' := 1891) (z := decide ((xs 2) = 0)) rfl rfl rfl rfl (fun q10 => ?_) (fun q10 => ?_)
      · refine x_iconst (pc' := 1896) rfl rfl ?_
        ((try rw [q10] at J10); (try rw [q10]); (try simp only [cd_t, cd_f, nt_t, nt_f, an_t, an_f, or_t, or_f] at J10); (try simp only [cd_t, cd_f, nt_t, nt_f, an_t, an_f, or_t, or_f]); exact J10)
      · refine x_iconst (pc' := 1892) rfl rfl ?_
        refine x_goto (pc' := 1896) rfl rfl ?_
        ((try rw [q10] at J10); (try rw [q10]); (try simp only [cd_t, cd_f, nt_t, nt_f, an_t, an_f, or_t, or_f] at J10); (try simp only [cd_t, cd_f, nt_t, nt_f, an_t, an_f, or_t, or_f]); exact J10)
    refine x_ifeq_z (a' := 11) (pc' := 4) (z := (!(decide ((xs 2) = 0)))) rfl rfl rfl (fun q7 => ?_) (fun q7 => ?_)
    · refine x_aload_n (pc' := 12) rfl rfl rfl rfl rfl ?_
      refine x_gR (pc' := 15) (r := none) rfl rfl rfl (z_R_70_4 e) ?_
      ((try rw [q7] at J7); (try rw [q7]); (try simp only [cd_t, cd_f, nt_t, nt_f, an_t, an_f, or_t, or_f] at J7); (try simp only [cd_t, cd_f, nt_t, nt_f, an_t, an_f, or_t, or_f]); exact J7)
    · refine x_aload_n (pc' := 5) rfl rfl rfl rfl rfl ?_
      refine x_gR (pc' := 8) (r := none) rfl rfl rfl (z_R_69_4 e) ?_
      refine x_goto (pc' := 15) rfl rfl ?_
      ((try rw [q7] at J7); (try rw [q7]); (try simp only [cd_t, cd_f, nt_t, nt_f, an_t, an_f, or_t, or_f] at J7); (try simp only [cd_t, cd_f, nt_t, nt_f, an_t, an_f, or_t, or_f]); exact J7)
  refine x_if (a' := 1868) (pc' := 1864) (z := decide ((xs 2) = 0)) rfl rfl rfl rfl (fun q3 => ?_) (fun q3 => ?_)
  · refine x_iconst (pc' := 1869) rfl rfl ?_
    ((try rw [q3] at J3); (try rw [q3]); (try simp only [cd_t, cd_f, nt_t, nt_f, an_t, an_f, or_t, or_f] at J3); (try simp only [cd_t, cd_f, nt_t, nt_f, an_t, an_f, or_t, or_f]); exact J3)
  · refine x_iconst (pc' := 1865) rfl rfl ?_
    refine x_goto (pc' := 1869) rfl rfl ?_
    ((try rw [q3] at J3); (try rw [q3]); (try simp only [cd_t, cd_f, nt_t, nt_f, an_t, an_f, or_t, or_f] at J3); (try simp only [cd_t, cd_f, nt_t, nt_f, an_t, an_f, or_t, or_f]); exact J3)
set_option maxHeartbeats 4000000 in
set_option maxRecDepth 10000 in
theorem v_23_A_i {t : sT} {xs : Nat → Int32}
    (e : t = T16 7 xs)
    (hk : ((xs 0) &&& 63) = 23)
    (e0 : (xs 1) < 0) :
    X 297 23 [.inr (.inr (29, (some 0))), .inr (.inr (11, (some 0))), .inr (.inr (12, (some 0))), .inr (.inr (23, (some 0))), .inl 0, sJk, sJk] [] t Qp := by
  refine x_iload (pc' := 25) rfl rfl rfl ?_
  refine x_aload_n (pc' := 26) rfl rfl rfl rfl rfl ?_
  refine x_alen (pc' := 27) (N := 7) rfl rfl rfl (z_N_29_0 e) (?_ : X _ _ _ (.inl 7 :: _) _ _)
  refine x_bipush (pc' := 29) rfl rfl ?_
  refine x_isub (pc' := 30) (z := 0) rfl rfl (by decide) ?_
  refine x_icmp (a' := 2944) (pc' := 33) (z := false) rfl rfl rfl (by decide) (fun h => by cases h) (fun _ => ?_)
  refine x_aload_n (pc' := 34) rfl rfl rfl rfl rfl ?_
  refine x_iload (pc' := 36) rfl rfl rfl ?_
  refine x_iald (pc' := 37) (N := 7) (x := (xs 0)) rfl rfl rfl (z_N_29_0 e) (io_in (p := 0) (N := 7) (by decide) (by decide)) (Eq.trans (congrArg (sA t 29 0) (nn_io (p := 0) (by decide))) (z_A_29_0_0 e)) ?_
  refine x_bipush (pc' := 39) rfl rfl ?_
  refine x_iand (pc' := 40) (z := ((xs 0) &&& 63)) rfl rfl rfl ?_
  refine x_switch (pc' := 1848) rfl (by rw [hk]; decide) ?_
  refine x_aload_n (pc' := 1849) rfl rfl rfl rfl rfl ?_
  refine x_aload_n (pc' := 1850) rfl rfl rfl rfl rfl ?_
  refine x_iload (pc' := 1852) rfl rfl rfl ?_
  refine x_iconst (pc' := 1853) rfl rfl ?_
  refine x_iadd (pc' := 1854) (z := 1) rfl rfl (by decide) ?_
  refine x_iald (pc' := 1855) (N := 7) (x := (xs 1)) rfl rfl rfl (z_N_29_0 e) (io_in (p := 1) (N := 7) (by decide) (by decide)) (Eq.trans (congrArg (sA t 29 0) (nn_io (p := 1) (by decide))) (z_A_29_0_1 e)) ?_
  refine x_aload_n (pc' := 1856) rfl rfl rfl rfl rfl ?_
  refine x_iload (pc' := 1858) rfl rfl rfl ?_
  refine x_iconst (pc' := 1859) rfl rfl ?_
  refine x_iadd (pc' := 1860) (z := 2) rfl rfl (by decide) ?_
  refine x_iald (pc' := 1861) (N := 7) (x := (xs 2)) rfl rfl rfl (z_N_29_0 e) (io_in (p := 2) (N := 7) (by decide) (by decide)) (Eq.trans (congrArg (sA t 29 0) (nn_io (p := 2) (by decide))) (z_A_29_0_2 e)) ?_
  have J3 : X 297 1869 [.inr (.inr (29, (some 0))), .inr (.inr (11, (some 0))), .inr (.inr (12, (some 0))), .inr (.inr (23, (some 0))), .inl 0, sJk, sJk] [.inl (bz (!(decide ((xs 2) = 0)))), .inl (xs 1), .inr (.inr (11, (some 0)))] t Qp := by
    refine x_aload_n (pc' := 1870) rfl rfl rfl rfl rfl ?_
    refine x_cs (ls0 := [_, _, _, _, sJk]) (rest := []) rfl rfl rfl rfl ?_
    refine x_aload_n (pc' := 1) rfl rfl rfl rfl rfl ?_
    refine x_iconst (pc' := 2) rfl rfl ?_
    refine x_aload_n (pc' := 3) rfl rfl rfl rfl rfl ?_
    refine x_iload_n (pc' := 4) rfl rfl rfl ?_
    refine x_iload_n (pc' := 5) rfl rfl rfl ?_
    refine x_cv (ls0 := [_, _, _]) (rest := [_, _]) rfl rfl rfl rfl rfl ?_
    refine x_aload_n (pc' := 1) rfl rfl rfl rfl rfl ?_
    refine x_iload_n (pc' := 2) rfl rfl rfl ?_
    refine x_cv (ls0 := [_, _]) (rest := []) rfl rfl rfl rfl rfl ?_
    refine x_iload_n (pc' := 1) rfl rfl rfl ?_
    refine x_if (a' := 16) (pc' := 4) (z := decide ((xs 1) < 0)) rfl rfl rfl rfl (fun _ => ?_) (fun h => absurd e0 (of_decide_eq_false h))
    refine x_throw rfl rfl ?_
    refine sK_n (by decide +kernel) rfl ?_
    refine sK_h (h := 13) (by decide +kernel) rfl ?_
    refine x_catch (pc' := 15) (ls' := [_, _, _, _, _]) rfl rfl rfl rfl ?_
    refine x_iconst (pc' := 16) rfl rfl ?_
    refine x_reti rfl rfl ?_
    refine sK_i (pc' := 1873) rfl ?_
    refine x_istore (pc' := 1875) (ls' := [_, _, _, _, _, _, _]) rfl rfl rfl rfl ?_
    refine x_aload_n (pc' := 1876) rfl rfl rfl rfl rfl ?_
    refine x_aload_n (pc' := 1877) rfl rfl rfl rfl rfl ?_
    refine x_iload (pc' := 1879) rfl rfl rfl ?_
    refine x_iconst (pc' := 1880) rfl rfl ?_
    refine x_iadd (pc' := 1881) (z := 1) rfl rfl (by decide) ?_
    refine x_iald (pc' := 1882) (N := 7) (x := (xs 1)) rfl rfl rfl (Eq.trans rdNthr (z_N_29_0 e)) (io_in (p := 1) (N := 7) (by decide) (by decide)) (Eq.trans (congrArg (sA (sThr t) 29 0) (nn_io (p := 1) (by decide))) (Eq.trans rdAthr (z_A_29_0_1 e))) ?_
    refine x_aload_n (pc' := 1883) rfl rfl rfl rfl rfl ?_
    refine x_iload (pc' := 1885) rfl rfl rfl ?_
    refine x_iconst (pc' := 1886) rfl rfl ?_
    refine x_iadd (pc' := 1887) (z := 2) rfl rfl (by decide) ?_
    refine x_iald (pc' := 1888) (N := 7) (x := (xs 2)) rfl rfl rfl (Eq.trans rdNthr (z_N_29_0 e)) (io_in (p := 2) (N := 7) (by decide) (by decide)) (Eq.trans (congrArg (sA (sThr t) 29 0) (nn_io (p := 2) (by decide))) (Eq.trans rdAthr (z_A_29_0_2 e))) ?_
    have J6 : X 297 1896 [.inr (.inr (29, (some 0))), .inr (.inr (11, (some 0))), .inr (.inr (12, (some 0))), .inr (.inr (23, (some 0))), .inl 0, .inl 1, sJk] [.inl (bz (!(decide ((xs 2) = 0)))), .inl (xs 1), .inr (.inr (12, (some 0)))] (sThr t) Qp := by
      refine x_cv (ls0 := [_, _, _]) (rest := []) rfl rfl rfl rfl rfl ?_
      refine x_aload_n (pc' := 1) rfl rfl rfl rfl rfl ?_
      refine x_iload_n (pc' := 2) rfl rfl rfl ?_
      refine x_cs (ls0 := [_]) (rest := [_]) rfl rfl rfl rfl ?_
      refine x_iload_n (pc' := 1) rfl rfl rfl ?_
      refine x_iconst (pc' := 2) rfl rfl ?_
      refine x_iconst (pc' := 3) rfl rfl ?_
      refine x_cs (ls0 := [_, _, _]) (rest := []) rfl rfl rfl rfl ?_
      refine x_iload_n (pc' := 1) rfl rfl rfl ?_
      refine x_iload_n (pc' := 2) rfl rfl rfl ?_
      refine x_icmp (a' := 14) (pc' := 5) (z := decide ((xs 1) < 0)) rfl rfl rfl rfl (fun _ => ?_) (fun h => absurd e0 (of_decide_eq_false h))
      refine x_iconst (pc' := 15) rfl rfl ?_
      refine x_retz (z := false) rfl rfl ?_
      refine sK_i (pc' := 6) rfl ?_
      refine x_retz (z := false) rfl rfl ?_
      refine sK_i (pc' := 5) rfl ?_
      refine x_if (a' := 12) (pc' := 8) (z := true) rfl rfl rfl (by decide) (fun _ => ?_) (fun h => by cases h)
      refine x_iconst (pc' := 13) rfl rfl ?_
      refine x_cv (ls0 := [_, _]) (rest := []) rfl rfl rfl rfl rfl ?_
      refine x_aload_n (pc' := 1) rfl rfl rfl rfl rfl ?_
      refine x_iload_n (pc' := 2) rfl rfl rfl ?_
      refine x_pI (pc' := 5) rfl rfl rfl ?_
      refine x_iload_n (pc' := 6) rfl rfl rfl ?_
      refine x_if (a' := 13) (pc' := 9) (z := true) rfl rfl rfl (by decide) (fun _ => ?_) (fun h => by cases h)
      refine x_iconst (pc' := 14) rfl rfl ?_
      refine x_retz (z := false) rfl rfl ?_
      refine sK_i (pc' := 16) rfl ?_
      refine x_if (a' := 28) (pc' := 19) (z := true) rfl rfl rfl (by decide) (fun _ => ?_) (fun h => by cases h)
      refine x_iconst (pc' := 29) rfl rfl ?_
      refine x_reti rfl rfl ?_
      refine sK_i (pc' := 1899) rfl ?_
      refine x_istore (pc' := 1901) (ls' := [_, _, _, _, _, _, _]) rfl rfl rfl rfl ?_
      refine x_aload_n (pc' := 1902) rfl rfl rfl rfl rfl ?_
      refine x_cv (ls0 := [_]) (rest := []) rfl rfl rfl rfl rfl ?_
      refine x_aload_n (pc' := 1) rfl rfl rfl rfl rfl ?_
      refine x_gI (pc' := 4) (x := 1) rfl rfl rfl sI_s ?_
      refine x_reti rfl rfl ?_
      refine sK_i (pc' := 1905) rfl ?_
      refine x_iload (pc' := 1907) rfl rfl rfl ?_
      refine x_icmp (a' := 1912) (pc' := 1910) (z := true) rfl rfl rfl (by decide) (fun _ => ?_) (fun h => by cases h)
      refine x_iload (pc' := 1914) rfl rfl rfl ?_
      refine x_if (a' := 1929) (pc' := 1917) (z := true) rfl rfl rfl (by decide) (fun _ => ?_) (fun h => by cases h)
      refine x_goto (pc' := 2938) rfl rfl ?_
      refine x_iinc (pc' := 2941) (y := 7) (ls' := [_, _, _, _, _, _, _]) rfl rfl rfl rfl rfl ?_
      refine x_goto (pc' := 23) rfl rfl ?_
      refine x_iload (pc' := 25) rfl rfl rfl ?_
      refine x_aload_n (pc' := 26) rfl rfl rfl rfl rfl ?_
      refine x_alen (pc' := 27) (N := 7) rfl rfl rfl (Eq.trans rdNI (Eq.trans rdNthr (z_N_29_0 e))) (?_ : X _ _ _ (.inl 7 :: _) _ _)
      refine x_bipush (pc' := 29) rfl rfl ?_
      refine x_isub (pc' := 30) (z := 0) rfl rfl (by decide) ?_
      refine x_icmp (a' := 2944) (pc' := 33) (z := true) rfl rfl rfl (by decide) (fun _ => ?_) (fun h => by cases h)
      refine x_iconst (pc' := 2945) rfl rfl ?_
      refine x_retz (z := true) rfl rfl ?_
      exact Qp_ok e (p := 1) (q := 6) rfl rfl rfl rfl
    refine x_if (a' := 1895) (pc' := 1891) (z := decide ((xs 2) = 0)) rfl rfl rfl rfl (fun q6 => ?_) (fun q6 => ?_)
    · refine x_iconst (pc' := 1896) rfl rfl ?_
      ((try rw [q6] at J6); (try rw [q6]); (try simp only [cd_t, cd_f, nt_t, nt_f, an_t, an_f, or_t, or_f] at J6); (try simp only [cd_t, cd_f, nt_t, nt_f, an_t, an_f, or_t, or_f]); exact J6)
    · refine x_iconst (pc' := 1892) rfl rfl ?_
      refine x_goto (pc' := 1896) rfl rfl ?_
      ((try rw [q6] at J6); (try rw [q6]); (try simp only [cd_t, cd_f, nt_t, nt_f, an_t, an_f, or_t, or_f] at J6); (try simp only [cd_t, cd_f, nt_t, nt_f, an_t, an_f, or_t, or_f]); exact J6)
  refine x_if (a' := 1868) (pc' := 1864) (z := decide ((xs 2) = 0)) rfl rfl rfl rfl (fun q3 => ?_) (fun q3 => ?_)
  · refine x_iconst (pc' := 1869) rfl rfl ?_
    ((try rw [q3] at J3); (try rw [q3]); (try simp only [cd_t, cd_f, nt_t, nt_f, an_t, an_f, or_t, or_f] at J3); (try simp only [cd_t, cd_f, nt_t, nt_f, an_t, an_f, or_t, or_f]); exact J3)
  · refine x_iconst (pc' := 1865) rfl rfl ?_
    refine x_goto (pc' := 1869) rfl rfl ?_
    ((try rw [q3] at J3); (try rw [q3]); (try simp only [cd_t, cd_f, nt_t, nt_f, an_t, an_f, or_t, or_f] at J3); (try simp only [cd_t, cd_f, nt_t, nt_f, an_t, an_f, or_t, or_f]); exact J3)
set_option maxHeartbeats 4000000 in
set_option maxRecDepth 10000 in
theorem v_23_B_i {t : sT} {xs : Nat → Int32}
    (e : t = T16 7 xs)
    (hk : ((xs 0) &&& 63) = 23)
    (e0 : ¬ (xs 1) < 0)
    (f0 : ¬ (xs 1) < 5) :
    X 297 23 [.inr (.inr (29, (some 0))), .inr (.inr (11, (some 0))), .inr (.inr (12, (some 0))), .inr (.inr (23, (some 0))), .inl 0, sJk, sJk] [] t Qp := by
  refine x_iload (pc' := 25) rfl rfl rfl ?_
  refine x_aload_n (pc' := 26) rfl rfl rfl rfl rfl ?_
  refine x_alen (pc' := 27) (N := 7) rfl rfl rfl (z_N_29_0 e) (?_ : X _ _ _ (.inl 7 :: _) _ _)
  refine x_bipush (pc' := 29) rfl rfl ?_
  refine x_isub (pc' := 30) (z := 0) rfl rfl (by decide) ?_
  refine x_icmp (a' := 2944) (pc' := 33) (z := false) rfl rfl rfl (by decide) (fun h => by cases h) (fun _ => ?_)
  refine x_aload_n (pc' := 34) rfl rfl rfl rfl rfl ?_
  refine x_iload (pc' := 36) rfl rfl rfl ?_
  refine x_iald (pc' := 37) (N := 7) (x := (xs 0)) rfl rfl rfl (z_N_29_0 e) (io_in (p := 0) (N := 7) (by decide) (by decide)) (Eq.trans (congrArg (sA t 29 0) (nn_io (p := 0) (by decide))) (z_A_29_0_0 e)) ?_
  refine x_bipush (pc' := 39) rfl rfl ?_
  refine x_iand (pc' := 40) (z := ((xs 0) &&& 63)) rfl rfl rfl ?_
  refine x_switch (pc' := 1848) rfl (by rw [hk]; decide) ?_
  refine x_aload_n (pc' := 1849) rfl rfl rfl rfl rfl ?_
  refine x_aload_n (pc' := 1850) rfl rfl rfl rfl rfl ?_
  refine x_iload (pc' := 1852) rfl rfl rfl ?_
  refine x_iconst (pc' := 1853) rfl rfl ?_
  refine x_iadd (pc' := 1854) (z := 1) rfl rfl (by decide) ?_
  refine x_iald (pc' := 1855) (N := 7) (x := (xs 1)) rfl rfl rfl (z_N_29_0 e) (io_in (p := 1) (N := 7) (by decide) (by decide)) (Eq.trans (congrArg (sA t 29 0) (nn_io (p := 1) (by decide))) (z_A_29_0_1 e)) ?_
  refine x_aload_n (pc' := 1856) rfl rfl rfl rfl rfl ?_
  refine x_iload (pc' := 1858) rfl rfl rfl ?_
  refine x_iconst (pc' := 1859) rfl rfl ?_
  refine x_iadd (pc' := 1860) (z := 2) rfl rfl (by decide) ?_
  refine x_iald (pc' := 1861) (N := 7) (x := (xs 2)) rfl rfl rfl (z_N_29_0 e) (io_in (p := 2) (N := 7) (by decide) (by decide)) (Eq.trans (congrArg (sA t 29 0) (nn_io (p := 2) (by decide))) (z_A_29_0_2 e)) ?_
  have J3 : X 297 1869 [.inr (.inr (29, (some 0))), .inr (.inr (11, (some 0))), .inr (.inr (12, (some 0))), .inr (.inr (23, (some 0))), .inl 0, sJk, sJk] [.inl (bz (!(decide ((xs 2) = 0)))), .inl (xs 1), .inr (.inr (11, (some 0)))] t Qp := by
    refine x_aload_n (pc' := 1870) rfl rfl rfl rfl rfl ?_
    refine x_cs (ls0 := [_, _, _, _, sJk]) (rest := []) rfl rfl rfl rfl ?_
    refine x_aload_n (pc' := 1) rfl rfl rfl rfl rfl ?_
    refine x_iconst (pc' := 2) rfl rfl ?_
    refine x_aload_n (pc' := 3) rfl rfl rfl rfl rfl ?_
    refine x_iload_n (pc' := 4) rfl rfl rfl ?_
    refine x_iload_n (pc' := 5) rfl rfl rfl ?_
    refine x_cv (ls0 := [_, _, _]) (rest := [_, _]) rfl rfl rfl rfl rfl ?_
    refine x_aload_n (pc' := 1) rfl rfl rfl rfl rfl ?_
    refine x_iload_n (pc' := 2) rfl rfl rfl ?_
    refine x_cv (ls0 := [_, _]) (rest := []) rfl rfl rfl rfl rfl ?_
    refine x_iload_n (pc' := 1) rfl rfl rfl ?_
    refine x_if (a' := 16) (pc' := 4) (z := decide ((xs 1) < 0)) rfl rfl rfl rfl (fun h => absurd (of_decide_eq_true h) e0) (fun _ => ?_)
    refine x_iload_n (pc' := 5) rfl rfl rfl ?_
    refine x_aload_n (pc' := 6) rfl rfl rfl rfl rfl ?_
    refine x_gR (pc' := 9) (r := (some 0)) rfl rfl rfl (z_R_705_0 e) ?_
    refine x_gR (pc' := 12) (r := (some 0)) rfl rfl rfl (z_R_256_0 e) ?_
    refine x_alen (pc' := 13) (N := 5) rfl rfl rfl (z_N_24_0 e) (?_ : X _ _ _ (.inl 5 :: _) _ _)
    refine x_icmp (a' := 27) (pc' := 16) (z := decide ((xs 1) < 5)) rfl rfl rfl rfl (fun h => absurd (of_decide_eq_true h) f0) (fun _ => ?_)
    refine x_throw rfl rfl ?_
    refine sK_n (by decide +kernel) rfl ?_
    refine sK_h (h := 13) (by decide +kernel) rfl ?_
    refine x_catch (pc' := 15) (ls' := [_, _, _, _, _]) rfl rfl rfl rfl ?_
    refine x_iconst (pc' := 16) rfl rfl ?_
    refine x_reti rfl rfl ?_
    refine sK_i (pc' := 1873) rfl ?_
    refine x_istore (pc' := 1875) (ls' := [_, _, _, _, _, _, _]) rfl rfl rfl rfl ?_
    refine x_aload_n (pc' := 1876) rfl rfl rfl rfl rfl ?_
    refine x_aload_n (pc' := 1877) rfl rfl rfl rfl rfl ?_
    refine x_iload (pc' := 1879) rfl rfl rfl ?_
    refine x_iconst (pc' := 1880) rfl rfl ?_
    refine x_iadd (pc' := 1881) (z := 1) rfl rfl (by decide) ?_
    refine x_iald (pc' := 1882) (N := 7) (x := (xs 1)) rfl rfl rfl (Eq.trans rdNthr (z_N_29_0 e)) (io_in (p := 1) (N := 7) (by decide) (by decide)) (Eq.trans (congrArg (sA (sThr t) 29 0) (nn_io (p := 1) (by decide))) (Eq.trans rdAthr (z_A_29_0_1 e))) ?_
    refine x_aload_n (pc' := 1883) rfl rfl rfl rfl rfl ?_
    refine x_iload (pc' := 1885) rfl rfl rfl ?_
    refine x_iconst (pc' := 1886) rfl rfl ?_
    refine x_iadd (pc' := 1887) (z := 2) rfl rfl (by decide) ?_
    refine x_iald (pc' := 1888) (N := 7) (x := (xs 2)) rfl rfl rfl (Eq.trans rdNthr (z_N_29_0 e)) (io_in (p := 2) (N := 7) (by decide) (by decide)) (Eq.trans (congrArg (sA (sThr t) 29 0) (nn_io (p := 2) (by decide))) (Eq.trans rdAthr (z_A_29_0_2 e))) ?_
    have J7 : X 297 1896 [.inr (.inr (29, (some 0))), .inr (.inr (11, (some 0))), .inr (.inr (12, (some 0))), .inr (.inr (23, (some 0))), .inl 0, .inl 1, sJk] [.inl (bz (!(decide ((xs 2) = 0)))), .inl (xs 1), .inr (.inr (12, (some 0)))] (sThr t) Qp := by
      refine x_cv (ls0 := [_, _, _]) (rest := []) rfl rfl rfl rfl rfl ?_
      refine x_aload_n (pc' := 1) rfl rfl rfl rfl rfl ?_
      refine x_iload_n (pc' := 2) rfl rfl rfl ?_
      refine x_cs (ls0 := [_]) (rest := [_]) rfl rfl rfl rfl ?_
      refine x_iload_n (pc' := 1) rfl rfl rfl ?_
      refine x_iconst (pc' := 2) rfl rfl ?_
      refine x_iconst (pc' := 3) rfl rfl ?_
      refine x_cs (ls0 := [_, _, _]) (rest := []) rfl rfl rfl rfl ?_
      refine x_iload_n (pc' := 1) rfl rfl rfl ?_
      refine x_iload_n (pc' := 2) rfl rfl rfl ?_
      refine x_icmp (a' := 14) (pc' := 5) (z := decide ((xs 1) < 0)) rfl rfl rfl rfl (fun h => absurd (of_decide_eq_true h) e0) (fun _ => ?_)
      refine x_iload_n (pc' := 6) rfl rfl rfl ?_
      refine x_iload_n (pc' := 7) rfl rfl rfl ?_
      refine x_icmp (a' := 14) (pc' := 10) (z := decide (4 < (xs 1))) rfl rfl rfl rfl (fun _ => ?_) (fun h => absurd (lt_of5 f0) (of_decide_eq_false h))
      refine x_iconst (pc' := 15) rfl rfl ?_
      refine x_retz (z := false) rfl rfl ?_
      refine sK_i (pc' := 6) rfl ?_
      refine x_retz (z := false) rfl rfl ?_
      refine sK_i (pc' := 5) rfl ?_
      refine x_if (a' := 12) (pc' := 8) (z := true) rfl rfl rfl (by decide) (fun _ => ?_) (fun h => by cases h)
      refine x_iconst (pc' := 13) rfl rfl ?_
      refine x_cv (ls0 := [_, _]) (rest := []) rfl rfl rfl rfl rfl ?_
      refine x_aload_n (pc' := 1) rfl rfl rfl rfl rfl ?_
      refine x_iload_n (pc' := 2) rfl rfl rfl ?_
      refine x_pI (pc' := 5) rfl rfl rfl ?_
      refine x_iload_n (pc' := 6) rfl rfl rfl ?_
      refine x_if (a' := 13) (pc' := 9) (z := true) rfl rfl rfl (by decide) (fun _ => ?_) (fun h => by cases h)
      refine x_iconst (pc' := 14) rfl rfl ?_
      refine x_retz (z := false) rfl rfl ?_
      refine sK_i (pc' := 16) rfl ?_
      refine x_if (a' := 28) (pc' := 19) (z := true) rfl rfl rfl (by decide) (fun _ => ?_) (fun h => by cases h)
      refine x_iconst (pc' := 29) rfl rfl ?_
      refine x_reti rfl rfl ?_
      refine sK_i (pc' := 1899) rfl ?_
      refine x_istore (pc' := 1901) (ls' := [_, _, _, _, _, _, _]) rfl rfl rfl rfl ?_
      refine x_aload_n (pc' := 1902) rfl rfl rfl rfl rfl ?_
      refine x_cv (ls0 := [_]) (rest := []) rfl rfl rfl rfl rfl ?_
      refine x_aload_n (pc' := 1) rfl rfl rfl rfl rfl ?_
      refine x_gI (pc' := 4) (x := 1) rfl rfl rfl sI_s ?_
      refine x_reti rfl rfl ?_
      refine sK_i (pc' := 1905) rfl ?_
      refine x_iload (pc' := 1907) rfl rfl rfl ?_
      refine x_icmp (a' := 1912) (pc' := 1910) (z := true) rfl rfl rfl (by decide) (fun _ => ?_) (fun h => by cases h)
      refine x_iload (pc' := 1914) rfl rfl rfl ?_
      refine x_if (a' := 1929) (pc' := 1917) (z := true) rfl rfl rfl (by decide) (fun _ => ?_) (fun h => by cases h)
      refine x_goto (pc' := 2938) rfl rfl ?_
      refine x_iinc (pc' := 2941) (y := 7) (ls' := [_, _, _, _, _, _, _]) rfl rfl rfl rfl rfl ?_
      refine x_goto (pc' := 23) rfl rfl ?_
      refine x_iload (pc' := 25) rfl rfl rfl ?_
      refine x_aload_n (pc' := 26) rfl rfl rfl rfl rfl ?_
      refine x_alen (pc' := 27) (N := 7) rfl rfl rfl (Eq.trans rdNI (Eq.trans rdNthr (z_N_29_0 e))) (?_ : X _ _ _ (.inl 7 :: _) _ _)
      refine x_bipush (pc' := 29) rfl rfl ?_
      refine x_isub (pc' := 30) (z := 0) rfl rfl (by decide) ?_
      refine x_icmp (a' := 2944) (pc' := 33) (z := true) rfl rfl rfl (by decide) (fun _ => ?_) (fun h => by cases h)
      refine x_iconst (pc' := 2945) rfl rfl ?_
      refine x_retz (z := true) rfl rfl ?_
      exact Qp_ok e (p := 1) (q := 6) rfl rfl rfl rfl
    refine x_if (a' := 1895) (pc' := 1891) (z := decide ((xs 2) = 0)) rfl rfl rfl rfl (fun q7 => ?_) (fun q7 => ?_)
    · refine x_iconst (pc' := 1896) rfl rfl ?_
      ((try rw [q7] at J7); (try rw [q7]); (try simp only [cd_t, cd_f, nt_t, nt_f, an_t, an_f, or_t, or_f] at J7); (try simp only [cd_t, cd_f, nt_t, nt_f, an_t, an_f, or_t, or_f]); exact J7)
    · refine x_iconst (pc' := 1892) rfl rfl ?_
      refine x_goto (pc' := 1896) rfl rfl ?_
      ((try rw [q7] at J7); (try rw [q7]); (try simp only [cd_t, cd_f, nt_t, nt_f, an_t, an_f, or_t, or_f] at J7); (try simp only [cd_t, cd_f, nt_t, nt_f, an_t, an_f, or_t, or_f]); exact J7)
  refine x_if (a' := 1868) (pc' := 1864) (z := decide ((xs 2) = 0)) rfl rfl rfl rfl (fun q3 => ?_) (fun q3 => ?_)
  · refine x_iconst (pc' := 1869) rfl rfl ?_
    ((try rw [q3] at J3); (try rw [q3]); (try simp only [cd_t, cd_f, nt_t, nt_f, an_t, an_f, or_t, or_f] at J3); (try simp only [cd_t, cd_f, nt_t, nt_f, an_t, an_f, or_t, or_f]); exact J3)
  · refine x_iconst (pc' := 1865) rfl rfl ?_
    refine x_goto (pc' := 1869) rfl rfl ?_
    ((try rw [q3] at J3); (try rw [q3]); (try simp only [cd_t, cd_f, nt_t, nt_f, an_t, an_f, or_t, or_f] at J3); (try simp only [cd_t, cd_f, nt_t, nt_f, an_t, an_f, or_t, or_f]); exact J3)
set_option maxHeartbeats 4000000 in
set_option maxRecDepth 10000 in
theorem v_24_0_i {t : sT} {xs : Nat → Int32}
    (e : t = T16 7 xs)
    (hk : ((xs 0) &&& 63) = 24)
    (e0 : xs 1 = 0) :
    X 297 23 [.inr (.inr (29, (some 0))), .inr (.inr (11, (some 0))), .inr (.inr (12, (some 0))), .inr (.inr (23, (some 0))), .inl 0, sJk, sJk] [] t Qp := by
  refine x_iload (pc' := 25) rfl rfl rfl ?_
  refine x_aload_n (pc' := 26) rfl rfl rfl rfl rfl ?_
  refine x_alen (pc' := 27) (N := 7) rfl rfl rfl (z_N_29_0 e) (?_ : X _ _ _ (.inl 7 :: _) _ _)
  refine x_bipush (pc' := 29) rfl rfl ?_
  refine x_isub (pc' := 30) (z := 0) rfl rfl (by decide) ?_
  refine x_icmp (a' := 2944) (pc' := 33) (z := false) rfl rfl rfl (by decide) (fun h => by cases h) (fun _ => ?_)
  refine x_aload_n (pc' := 34) rfl rfl rfl rfl rfl ?_
  refine x_iload (pc' := 36) rfl rfl rfl ?_
  refine x_iald (pc' := 37) (N := 7) (x := (xs 0)) rfl rfl rfl (z_N_29_0 e) (io_in (p := 0) (N := 7) (by decide) (by decide)) (Eq.trans (congrArg (sA t 29 0) (nn_io (p := 0) (by decide))) (z_A_29_0_0 e)) ?_
  refine x_bipush (pc' := 39) rfl rfl ?_
  refine x_iand (pc' := 40) (z := ((xs 0) &&& 63)) rfl rfl rfl ?_
  refine x_switch (pc' := 1932) rfl (by rw [hk]; decide) ?_
  refine x_aload_n (pc' := 1933) rfl rfl rfl rfl rfl ?_
  refine x_aload_n (pc' := 1934) rfl rfl rfl rfl rfl ?_
  refine x_iload (pc' := 1936) rfl rfl rfl ?_
  refine x_iconst (pc' := 1937) rfl rfl ?_
  refine x_iadd (pc' := 1938) (z := 1) rfl rfl (by decide) ?_
  refine x_iald (pc' := 1939) (N := 7) (x := 0) rfl rfl rfl (z_N_29_0 e) (io_in (p := 1) (N := 7) (by decide) (by decide)) (Eq.trans (congrArg (sA t 29 0) (nn_io (p := 1) (by decide))) (Eq.trans (z_A_29_0_1 e) e0)) ?_
  refine x_aload_n (pc' := 1940) rfl rfl rfl rfl rfl ?_
  refine x_iload (pc' := 1942) rfl rfl rfl ?_
  refine x_iconst (pc' := 1943) rfl rfl ?_
  refine x_iadd (pc' := 1944) (z := 2) rfl rfl (by decide) ?_
  refine x_iald (pc' := 1945) (N := 7) (x := (xs 2)) rfl rfl rfl (z_N_29_0 e) (io_in (p := 2) (N := 7) (by decide) (by decide)) (Eq.trans (congrArg (sA t 29 0) (nn_io (p := 2) (by decide))) (z_A_29_0_2 e)) ?_
  have J3 : X 297 1953 [.inr (.inr (29, (some 0))), .inr (.inr (11, (some 0))), .inr (.inr (12, (some 0))), .inr (.inr (23, (some 0))), .inl 0, sJk, sJk] [.inl (bz (!(decide ((xs 2) = 0)))), .inl 0, .inr (.inr (11, (some 0)))] t Qp := by
    refine x_aload_n (pc' := 1954) rfl rfl rfl rfl rfl ?_
    refine x_cs (ls0 := [_, _, _, _, sJk]) (rest := []) rfl rfl rfl rfl ?_
    refine x_aload_n (pc' := 1) rfl rfl rfl rfl rfl ?_
    refine x_iconst (pc' := 2) rfl rfl ?_
    refine x_aload_n (pc' := 3) rfl rfl rfl rfl rfl ?_
    refine x_iload_n (pc' := 4) rfl rfl rfl ?_
    refine x_iload_n (pc' := 5) rfl rfl rfl ?_
    refine x_cv (ls0 := [_, _, _]) (rest := [_, _]) rfl rfl rfl rfl rfl ?_
    refine x_aload_n (pc' := 1) rfl rfl rfl rfl rfl ?_
    refine x_gR (pc' := 4) (r := (some 0)) rfl rfl rfl (z_R_705_0 e) ?_
    refine x_aload_n (pc' := 5) rfl rfl rfl rfl rfl ?_
    refine x_iload_n (pc' := 6) rfl rfl rfl ?_
    refine x_cv (ls0 := [_, _]) (rest := [_]) rfl rfl rfl rfl rfl ?_
    refine x_iload_n (pc' := 1) rfl rfl rfl ?_
    refine x_if (a' := 16) (pc' := 4) (z := false) rfl rfl rfl (by decide) (fun h => by cases h) (fun _ => ?_)
    refine x_iload_n (pc' := 5) rfl rfl rfl ?_
    refine x_aload_n (pc' := 6) rfl rfl rfl rfl rfl ?_
    refine x_gR (pc' := 9) (r := (some 0)) rfl rfl rfl (z_R_705_0 e) ?_
    refine x_gR (pc' := 12) (r := (some 0)) rfl rfl rfl (z_R_256_0 e) ?_
    refine x_alen (pc' := 13) (N := 5) rfl rfl rfl (z_N_24_0 e) (?_ : X _ _ _ (.inl 5 :: _) _ _)
    refine x_icmp (a' := 27) (pc' := 16) (z := true) rfl rfl rfl (by decide) (fun _ => ?_) (fun h => by cases h)
    refine x_aload_n (pc' := 28) rfl rfl rfl rfl rfl ?_
    refine x_gR (pc' := 31) (r := (some 0)) rfl rfl rfl (z_R_705_0 e) ?_
    refine x_gR (pc' := 34) (r := (some 0)) rfl rfl rfl (z_R_256_0 e) ?_
    refine x_iload_n (pc' := 35) rfl rfl rfl ?_
    refine x_aald (pc' := 36) (N := 5) (k' := 1) (r := (some 0)) rfl rfl rfl (z_N_24_0 e) (io_in (p := 0) (N := 5) (by decide) (by decide)) (Eq.trans (congrArg (sE t 24 0) (nn_io (p := 0) (by decide))) (z_E_24_0_0 e)) ?_
    refine x_reta rfl rfl ?_
    refine sK_i (pc' := 9) rfl ?_
    refine x_iload_n (pc' := 10) rfl rfl rfl ?_
    refine x_cv (ls0 := [_, _, _, sJk, sJk, sJk, sJk]) (rest := []) rfl rfl rfl rfl rfl ?_
    refine x_null (pc' := 1) rfl rfl rfl ?_
    refine x_astore_n (pc' := 2) (ls' := [_, _, _, _, _, _, _]) rfl rfl rfl rfl rfl ?_
    refine x_iconst (pc' := 3) rfl rfl ?_
    refine x_istore (pc' := 5) (ls' := [_, _, _, _, _, _, _]) rfl rfl rfl rfl ?_
    refine x_iload (pc' := 7) rfl rfl rfl ?_
    refine x_aload_n (pc' := 8) rfl rfl rfl rfl rfl ?_
    refine x_gR (pc' := 11) (r := (some 1)) rfl rfl rfl (z_R_257_0 e) ?_
    refine x_cv (ls0 := [_]) (rest := [_]) rfl rfl rfl rfl rfl ?_
    refine x_aload_n (pc' := 1) rfl rfl rfl rfl rfl ?_
    refine x_gI (pc' := 4) (x := 0) rfl rfl rfl (z_I_834_1 e) ?_
    refine x_reti rfl rfl ?_
    refine sK_i (pc' := 14) rfl ?_
    refine x_icmp (a' := 92) (pc' := 17) (z := true) rfl rfl rfl (by decide) (fun _ => ?_) (fun h => by cases h)
    refine x_aload_n (pc' := 93) rfl rfl rfl rfl rfl ?_
    refine x_reta rfl rfl ?_
    refine sK_i (pc' := 13) rfl ?_
    refine x_cs (ls0 := [_]) (rest := []) rfl rfl rfl rfl ?_
    refine x_aload_n (pc' := 1) rfl rfl rfl rfl rfl ?_
    refine x_ifnonnull (a' := 8) (pc' := 4) rfl rfl rfl rfl (fun i h => by cases h) (fun _ => ?_)
    refine x_iconst (pc' := 5) rfl rfl ?_
    refine x_goto (pc' := 12) rfl rfl ?_
    refine x_reti rfl rfl ?_
    refine sK_i (pc' := 16) rfl ?_
    refine x_reti rfl rfl ?_
    refine sK_i (pc' := 8) rfl ?_
    refine x_i2l (pc' := 9) (z := (-1 : Int64)) rfl rfl (by decide) ?_
    refine x_last (pc' := 10) (N := 1) (p := 0) rfl rfl (z_N_23_0 e) (io_in (p := 0) (N := 1) (by decide) (by decide)) (nn_io (p := 0) (by decide)) ?_
    refine x_goto (pc' := 17) rfl rfl ?_
    refine x_iconst (pc' := 18) rfl rfl ?_
    refine x_reti rfl rfl ?_
    refine sK_i (pc' := 1957) rfl ?_
    refine x_istore (pc' := 1959) (ls' := [_, _, _, _, _, _, _]) rfl rfl rfl rfl ?_
    refine x_aload_n (pc' := 1960) rfl rfl rfl rfl rfl ?_
    refine x_aload_n (pc' := 1961) rfl rfl rfl rfl rfl ?_
    refine x_iload (pc' := 1963) rfl rfl rfl ?_
    refine x_iconst (pc' := 1964) rfl rfl ?_
    refine x_iadd (pc' := 1965) (z := 1) rfl rfl (by decide) ?_
    refine x_iald (pc' := 1966) (N := 7) (x := 0) rfl rfl rfl (Eq.trans rdNL (z_N_29_0 e)) (io_in (p := 1) (N := 7) (by decide) (by decide)) (Eq.trans (congrArg (sA (sLw t 23 0 0 (-1 : Int64)) 29 0) (nn_io (p := 1) (by decide))) (Eq.trans rdAL (Eq.trans (z_A_29_0_1 e) e0))) ?_
    refine x_aload_n (pc' := 1967) rfl rfl rfl rfl rfl ?_
    refine x_iload (pc' := 1969) rfl rfl rfl ?_
    refine x_iconst (pc' := 1970) rfl rfl ?_
    refine x_iadd (pc' := 1971) (z := 2) rfl rfl (by decide) ?_
    refine x_iald (pc' := 1972) (N := 7) (x := (xs 2)) rfl rfl rfl (Eq.trans rdNL (z_N_29_0 e)) (io_in (p := 2) (N := 7) (by decide) (by decide)) (Eq.trans (congrArg (sA (sLw t 23 0 0 (-1 : Int64)) 29 0) (nn_io (p := 2) (by decide))) (Eq.trans rdAL (z_A_29_0_2 e))) ?_
    have J9 : X 297 1980 [.inr (.inr (29, (some 0))), .inr (.inr (11, (some 0))), .inr (.inr (12, (some 0))), .inr (.inr (23, (some 0))), .inl 0, .inl 0, sJk] [.inl (bz (!(decide ((xs 2) = 0)))), .inl 0, .inr (.inr (12, (some 0)))] (sLw t 23 0 0 (-1 : Int64)) Qp := by
      refine x_cv (ls0 := [_, _, _]) (rest := []) rfl rfl rfl rfl rfl ?_
      refine x_aload_n (pc' := 1) rfl rfl rfl rfl rfl ?_
      refine x_iload_n (pc' := 2) rfl rfl rfl ?_
      refine x_cs (ls0 := [_]) (rest := [_]) rfl rfl rfl rfl ?_
      refine x_iload_n (pc' := 1) rfl rfl rfl ?_
      refine x_iconst (pc' := 2) rfl rfl ?_
      refine x_iconst (pc' := 3) rfl rfl ?_
      refine x_cs (ls0 := [_, _, _]) (rest := []) rfl rfl rfl rfl ?_
      refine x_iload_n (pc' := 1) rfl rfl rfl ?_
      refine x_iload_n (pc' := 2) rfl rfl rfl ?_
      refine x_icmp (a' := 14) (pc' := 5) (z := false) rfl rfl rfl (by decide) (fun h => by cases h) (fun _ => ?_)
      refine x_iload_n (pc' := 6) rfl rfl rfl ?_
      refine x_iload_n (pc' := 7) rfl rfl rfl ?_
      refine x_icmp (a' := 14) (pc' := 10) (z := false) rfl rfl rfl (by decide) (fun h => by cases h) (fun _ => ?_)
      refine x_iconst (pc' := 11) rfl rfl ?_
      refine x_goto (pc' := 15) rfl rfl ?_
      refine x_retz (z := true) rfl rfl ?_
      refine sK_i (pc' := 6) rfl ?_
      refine x_retz (z := true) rfl rfl ?_
      refine sK_i (pc' := 5) rfl ?_
      refine x_if (a' := 12) (pc' := 8) (z := false) rfl rfl rfl (by decide) (fun h => by cases h) (fun _ => ?_)
      refine x_iconst (pc' := 9) rfl rfl ?_
      refine x_goto (pc' := 13) rfl rfl ?_
      refine x_cv (ls0 := [_, _]) (rest := []) rfl rfl rfl rfl rfl ?_
      refine x_aload_n (pc' := 1) rfl rfl rfl rfl rfl ?_
      refine x_iload_n (pc' := 2) rfl rfl rfl ?_
      refine x_pI (pc' := 5) rfl rfl rfl ?_
      refine x_iload_n (pc' := 6) rfl rfl rfl ?_
      refine x_if (a' := 13) (pc' := 9) (z := false) rfl rfl rfl (by decide) (fun h => by cases h) (fun _ => ?_)
      refine x_iconst (pc' := 10) rfl rfl ?_
      refine x_goto (pc' := 14) rfl rfl ?_
      refine x_retz (z := true) rfl rfl ?_
      refine sK_i (pc' := 16) rfl ?_
      refine x_if (a' := 28) (pc' := 19) (z := false) rfl rfl rfl (by decide) (fun h => by cases h) (fun _ => ?_)
      refine x_aload_n (pc' := 20) rfl rfl rfl rfl rfl ?_
      refine x_iload_n (pc' := 21) rfl rfl rfl ?_
      refine x_iload_n (pc' := 22) rfl rfl rfl ?_
      refine x_cv (ls0 := [_, _, _, sJk, sJk, sJk]) (rest := []) rfl rfl rfl rfl rfl ?_
      refine x_iconst (pc' := 1) rfl rfl ?_
      refine x_istore_n (pc' := 2) (ls' := [_, _, _, _, _, _]) rfl rfl rfl rfl ?_
      refine x_iconst (pc' := 3) rfl rfl ?_
      refine x_istore (pc' := 5) (ls' := [_, _, _, _, _, _]) rfl rfl rfl rfl ?_
      refine x_iload (pc' := 7) rfl rfl rfl ?_
      refine x_aload_n (pc' := 8) rfl rfl rfl rfl rfl ?_
      refine x_gI (pc' := 11) (x := 0) rfl rfl rfl (Eq.trans (rdI_F rfl) (Eq.trans rdIL (z_I_786_0 e))) ?_
      refine x_icmp (a' := 87) (pc' := 14) (z := true) rfl rfl rfl (by decide) (fun _ => ?_) (fun h => by cases h)
      refine x_iload_n (pc' := 88) rfl rfl rfl ?_
      refine x_reti rfl rfl ?_
      refine sK_i (pc' := 25) rfl ?_
      refine x_goto (pc' := 29) rfl rfl ?_
      refine x_reti rfl rfl ?_
      refine sK_i (pc' := 1983) rfl ?_
      refine x_istore (pc' := 1985) (ls' := [_, _, _, _, _, _, _]) rfl rfl rfl rfl ?_
      refine x_aload_n (pc' := 1986) rfl rfl rfl rfl rfl ?_
      refine x_cv (ls0 := [_]) (rest := []) rfl rfl rfl rfl rfl ?_
      refine x_aload_n (pc' := 1) rfl rfl rfl rfl rfl ?_
      refine x_gI (pc' := 4) (x := 0) rfl rfl rfl sI_s ?_
      refine x_reti rfl rfl ?_
      refine sK_i (pc' := 1989) rfl ?_
      refine x_iload (pc' := 1991) rfl rfl rfl ?_
      refine x_icmp (a' := 1996) (pc' := 1994) (z := true) rfl rfl rfl (by decide) (fun _ => ?_) (fun h => by cases h)
      refine x_iload (pc' := 1998) rfl rfl rfl ?_
      refine x_if (a' := 2013) (pc' := 2001) (z := false) rfl rfl rfl (by decide) (fun h => by cases h) (fun _ => ?_)
      refine x_aload_n (pc' := 2002) rfl rfl rfl rfl rfl ?_
      refine x_iconst (pc' := 2003) rfl rfl ?_
      refine x_lald (pc' := 2004) (N := 1) (x := (-1 : Int64)) rfl rfl (Eq.trans rdNI (Eq.trans rdNL (z_N_23_0 e))) (io_in (p := 0) (N := 1) (by decide) (by decide)) (Eq.trans (congrArg (sL (sIw (sLw t 23 0 0 (-1 : Int64)) 768 0 0) 23 0) (nn_io (p := 0) (by decide))) (Eq.trans rdLI sL_s)) ?_
      refine x_iload (pc' := 2006) rfl rfl rfl ?_
      refine x_i2l (pc' := 2007) (z := (-1 : Int64)) rfl rfl (by decide) ?_
      refine x_lcmp (pc' := 2008) (z := 0) rfl rfl (sLcmp_s _) ?_
      refine x_if (a' := 2013) (pc' := 2011) (z := true) rfl rfl rfl (by decide) (fun _ => ?_) (fun h => by cases h)
      refine x_goto (pc' := 2938) rfl rfl ?_
      refine x_iinc (pc' := 2941) (y := 7) (ls' := [_, _, _, _, _, _, _]) rfl rfl rfl rfl rfl ?_
      refine x_goto (pc' := 23) rfl rfl ?_
      refine x_iload (pc' := 25) rfl rfl rfl ?_
      refine x_aload_n (pc' := 26) rfl rfl rfl rfl rfl ?_
      refine x_alen (pc' := 27) (N := 7) rfl rfl rfl (Eq.trans rdNI (Eq.trans rdNL (z_N_29_0 e))) (?_ : X _ _ _ (.inl 7 :: _) _ _)
      refine x_bipush (pc' := 29) rfl rfl ?_
      refine x_isub (pc' := 30) (z := 0) rfl rfl (by decide) ?_
      refine x_icmp (a' := 2944) (pc' := 33) (z := true) rfl rfl rfl (by decide) (fun _ => ?_) (fun h => by cases h)
      refine x_iconst (pc' := 2945) rfl rfl ?_
      refine x_retz (z := true) rfl rfl ?_
      exact Qp_ok e (p := 0) (q := 0) rfl rfl rfl rfl
    refine x_if (a' := 1979) (pc' := 1975) (z := decide ((xs 2) = 0)) rfl rfl rfl rfl (fun q9 => ?_) (fun q9 => ?_)
    · refine x_iconst (pc' := 1980) rfl rfl ?_
      ((try rw [q9] at J9); (try rw [q9]); (try simp only [cd_t, cd_f, nt_t, nt_f, an_t, an_f, or_t, or_f] at J9); (try simp only [cd_t, cd_f, nt_t, nt_f, an_t, an_f, or_t, or_f]); exact J9)
    · refine x_iconst (pc' := 1976) rfl rfl ?_
      refine x_goto (pc' := 1980) rfl rfl ?_
      ((try rw [q9] at J9); (try rw [q9]); (try simp only [cd_t, cd_f, nt_t, nt_f, an_t, an_f, or_t, or_f] at J9); (try simp only [cd_t, cd_f, nt_t, nt_f, an_t, an_f, or_t, or_f]); exact J9)
  refine x_if (a' := 1952) (pc' := 1948) (z := decide ((xs 2) = 0)) rfl rfl rfl rfl (fun q3 => ?_) (fun q3 => ?_)
  · refine x_iconst (pc' := 1953) rfl rfl ?_
    ((try rw [q3] at J3); (try rw [q3]); (try simp only [cd_t, cd_f, nt_t, nt_f, an_t, an_f, or_t, or_f] at J3); (try simp only [cd_t, cd_f, nt_t, nt_f, an_t, an_f, or_t, or_f]); exact J3)
  · refine x_iconst (pc' := 1949) rfl rfl ?_
    refine x_goto (pc' := 1953) rfl rfl ?_
    ((try rw [q3] at J3); (try rw [q3]); (try simp only [cd_t, cd_f, nt_t, nt_f, an_t, an_f, or_t, or_f] at J3); (try simp only [cd_t, cd_f, nt_t, nt_f, an_t, an_f, or_t, or_f]); exact J3)
set_option maxHeartbeats 4000000 in
set_option maxRecDepth 10000 in
theorem v_24_1_i {t : sT} {xs : Nat → Int32}
    (e : t = T16 7 xs)
    (hk : ((xs 0) &&& 63) = 24)
    (e0 : xs 1 = 1) :
    X 297 23 [.inr (.inr (29, (some 0))), .inr (.inr (11, (some 0))), .inr (.inr (12, (some 0))), .inr (.inr (23, (some 0))), .inl 0, sJk, sJk] [] t Qp := by
  refine x_iload (pc' := 25) rfl rfl rfl ?_
  refine x_aload_n (pc' := 26) rfl rfl rfl rfl rfl ?_
  refine x_alen (pc' := 27) (N := 7) rfl rfl rfl (z_N_29_0 e) (?_ : X _ _ _ (.inl 7 :: _) _ _)
  refine x_bipush (pc' := 29) rfl rfl ?_
  refine x_isub (pc' := 30) (z := 0) rfl rfl (by decide) ?_
  refine x_icmp (a' := 2944) (pc' := 33) (z := false) rfl rfl rfl (by decide) (fun h => by cases h) (fun _ => ?_)
  refine x_aload_n (pc' := 34) rfl rfl rfl rfl rfl ?_
  refine x_iload (pc' := 36) rfl rfl rfl ?_
  refine x_iald (pc' := 37) (N := 7) (x := (xs 0)) rfl rfl rfl (z_N_29_0 e) (io_in (p := 0) (N := 7) (by decide) (by decide)) (Eq.trans (congrArg (sA t 29 0) (nn_io (p := 0) (by decide))) (z_A_29_0_0 e)) ?_
  refine x_bipush (pc' := 39) rfl rfl ?_
  refine x_iand (pc' := 40) (z := ((xs 0) &&& 63)) rfl rfl rfl ?_
  refine x_switch (pc' := 1932) rfl (by rw [hk]; decide) ?_
  refine x_aload_n (pc' := 1933) rfl rfl rfl rfl rfl ?_
  refine x_aload_n (pc' := 1934) rfl rfl rfl rfl rfl ?_
  refine x_iload (pc' := 1936) rfl rfl rfl ?_
  refine x_iconst (pc' := 1937) rfl rfl ?_
  refine x_iadd (pc' := 1938) (z := 1) rfl rfl (by decide) ?_
  refine x_iald (pc' := 1939) (N := 7) (x := 1) rfl rfl rfl (z_N_29_0 e) (io_in (p := 1) (N := 7) (by decide) (by decide)) (Eq.trans (congrArg (sA t 29 0) (nn_io (p := 1) (by decide))) (Eq.trans (z_A_29_0_1 e) e0)) ?_
  refine x_aload_n (pc' := 1940) rfl rfl rfl rfl rfl ?_
  refine x_iload (pc' := 1942) rfl rfl rfl ?_
  refine x_iconst (pc' := 1943) rfl rfl ?_
  refine x_iadd (pc' := 1944) (z := 2) rfl rfl (by decide) ?_
  refine x_iald (pc' := 1945) (N := 7) (x := (xs 2)) rfl rfl rfl (z_N_29_0 e) (io_in (p := 2) (N := 7) (by decide) (by decide)) (Eq.trans (congrArg (sA t 29 0) (nn_io (p := 2) (by decide))) (z_A_29_0_2 e)) ?_
  have J3 : X 297 1953 [.inr (.inr (29, (some 0))), .inr (.inr (11, (some 0))), .inr (.inr (12, (some 0))), .inr (.inr (23, (some 0))), .inl 0, sJk, sJk] [.inl (bz (!(decide ((xs 2) = 0)))), .inl 1, .inr (.inr (11, (some 0)))] t Qp := by
    refine x_aload_n (pc' := 1954) rfl rfl rfl rfl rfl ?_
    refine x_cs (ls0 := [_, _, _, _, sJk]) (rest := []) rfl rfl rfl rfl ?_
    refine x_aload_n (pc' := 1) rfl rfl rfl rfl rfl ?_
    refine x_iconst (pc' := 2) rfl rfl ?_
    refine x_aload_n (pc' := 3) rfl rfl rfl rfl rfl ?_
    refine x_iload_n (pc' := 4) rfl rfl rfl ?_
    refine x_iload_n (pc' := 5) rfl rfl rfl ?_
    refine x_cv (ls0 := [_, _, _]) (rest := [_, _]) rfl rfl rfl rfl rfl ?_
    refine x_aload_n (pc' := 1) rfl rfl rfl rfl rfl ?_
    refine x_gR (pc' := 4) (r := (some 0)) rfl rfl rfl (z_R_705_0 e) ?_
    refine x_aload_n (pc' := 5) rfl rfl rfl rfl rfl ?_
    refine x_iload_n (pc' := 6) rfl rfl rfl ?_
    refine x_cv (ls0 := [_, _]) (rest := [_]) rfl rfl rfl rfl rfl ?_
    refine x_iload_n (pc' := 1) rfl rfl rfl ?_
    refine x_if (a' := 16) (pc' := 4) (z := false) rfl rfl rfl (by decide) (fun h => by cases h) (fun _ => ?_)
    refine x_iload_n (pc' := 5) rfl rfl rfl ?_
    refine x_aload_n (pc' := 6) rfl rfl rfl rfl rfl ?_
    refine x_gR (pc' := 9) (r := (some 0)) rfl rfl rfl (z_R_705_0 e) ?_
    refine x_gR (pc' := 12) (r := (some 0)) rfl rfl rfl (z_R_256_0 e) ?_
    refine x_alen (pc' := 13) (N := 5) rfl rfl rfl (z_N_24_0 e) (?_ : X _ _ _ (.inl 5 :: _) _ _)
    refine x_icmp (a' := 27) (pc' := 16) (z := true) rfl rfl rfl (by decide) (fun _ => ?_) (fun h => by cases h)
    refine x_aload_n (pc' := 28) rfl rfl rfl rfl rfl ?_
    refine x_gR (pc' := 31) (r := (some 0)) rfl rfl rfl (z_R_705_0 e) ?_
    refine x_gR (pc' := 34) (r := (some 0)) rfl rfl rfl (z_R_256_0 e) ?_
    refine x_iload_n (pc' := 35) rfl rfl rfl ?_
    refine x_aald (pc' := 36) (N := 5) (k' := 1) (r := (some 1)) rfl rfl rfl (z_N_24_0 e) (io_in (p := 1) (N := 5) (by decide) (by decide)) (Eq.trans (congrArg (sE t 24 0) (nn_io (p := 1) (by decide))) (z_E_24_0_1 e)) ?_
    refine x_reta rfl rfl ?_
    refine sK_i (pc' := 9) rfl ?_
    refine x_iload_n (pc' := 10) rfl rfl rfl ?_
    refine x_cv (ls0 := [_, _, _, sJk, sJk, sJk, sJk]) (rest := []) rfl rfl rfl rfl rfl ?_
    refine x_null (pc' := 1) rfl rfl rfl ?_
    refine x_astore_n (pc' := 2) (ls' := [_, _, _, _, _, _, _]) rfl rfl rfl rfl rfl ?_
    refine x_iconst (pc' := 3) rfl rfl ?_
    refine x_istore (pc' := 5) (ls' := [_, _, _, _, _, _, _]) rfl rfl rfl rfl ?_
    refine x_iload (pc' := 7) rfl rfl rfl ?_
    refine x_aload_n (pc' := 8) rfl rfl rfl rfl rfl ?_
    refine x_gR (pc' := 11) (r := (some 1)) rfl rfl rfl (z_R_257_0 e) ?_
    refine x_cv (ls0 := [_]) (rest := [_]) rfl rfl rfl rfl rfl ?_
    refine x_aload_n (pc' := 1) rfl rfl rfl rfl rfl ?_
    refine x_gI (pc' := 4) (x := 0) rfl rfl rfl (z_I_834_1 e) ?_
    refine x_reti rfl rfl ?_
    refine sK_i (pc' := 14) rfl ?_
    refine x_icmp (a' := 92) (pc' := 17) (z := true) rfl rfl rfl (by decide) (fun _ => ?_) (fun h => by cases h)
    refine x_aload_n (pc' := 93) rfl rfl rfl rfl rfl ?_
    refine x_reta rfl rfl ?_
    refine sK_i (pc' := 13) rfl ?_
    refine x_cs (ls0 := [_]) (rest := []) rfl rfl rfl rfl ?_
    refine x_aload_n (pc' := 1) rfl rfl rfl rfl rfl ?_
    refine x_ifnonnull (a' := 8) (pc' := 4) rfl rfl rfl rfl (fun i h => by cases h) (fun _ => ?_)
    refine x_iconst (pc' := 5) rfl rfl ?_
    refine x_goto (pc' := 12) rfl rfl ?_
    refine x_reti rfl rfl ?_
    refine sK_i (pc' := 16) rfl ?_
    refine x_reti rfl rfl ?_
    refine sK_i (pc' := 8) rfl ?_
    refine x_i2l (pc' := 9) (z := (-1 : Int64)) rfl rfl (by decide) ?_
    refine x_last (pc' := 10) (N := 1) (p := 0) rfl rfl (z_N_23_0 e) (io_in (p := 0) (N := 1) (by decide) (by decide)) (nn_io (p := 0) (by decide)) ?_
    refine x_goto (pc' := 17) rfl rfl ?_
    refine x_iconst (pc' := 18) rfl rfl ?_
    refine x_reti rfl rfl ?_
    refine sK_i (pc' := 1957) rfl ?_
    refine x_istore (pc' := 1959) (ls' := [_, _, _, _, _, _, _]) rfl rfl rfl rfl ?_
    refine x_aload_n (pc' := 1960) rfl rfl rfl rfl rfl ?_
    refine x_aload_n (pc' := 1961) rfl rfl rfl rfl rfl ?_
    refine x_iload (pc' := 1963) rfl rfl rfl ?_
    refine x_iconst (pc' := 1964) rfl rfl ?_
    refine x_iadd (pc' := 1965) (z := 1) rfl rfl (by decide) ?_
    refine x_iald (pc' := 1966) (N := 7) (x := 1) rfl rfl rfl (Eq.trans rdNL (z_N_29_0 e)) (io_in (p := 1) (N := 7) (by decide) (by decide)) (Eq.trans (congrArg (sA (sLw t 23 0 0 (-1 : Int64)) 29 0) (nn_io (p := 1) (by decide))) (Eq.trans rdAL (Eq.trans (z_A_29_0_1 e) e0))) ?_
    refine x_aload_n (pc' := 1967) rfl rfl rfl rfl rfl ?_
    refine x_iload (pc' := 1969) rfl rfl rfl ?_
    refine x_iconst (pc' := 1970) rfl rfl ?_
    refine x_iadd (pc' := 1971) (z := 2) rfl rfl (by decide) ?_
    refine x_iald (pc' := 1972) (N := 7) (x := (xs 2)) rfl rfl rfl (Eq.trans rdNL (z_N_29_0 e)) (io_in (p := 2) (N := 7) (by decide) (by decide)) (Eq.trans (congrArg (sA (sLw t 23 0 0 (-1 : Int64)) 29 0) (nn_io (p := 2) (by decide))) (Eq.trans rdAL (z_A_29_0_2 e))) ?_
    have J9 : X 297 1980 [.inr (.inr (29, (some 0))), .inr (.inr (11, (some 0))), .inr (.inr (12, (some 0))), .inr (.inr (23, (some 0))), .inl 0, .inl 0, sJk] [.inl (bz (!(decide ((xs 2) = 0)))), .inl 1, .inr (.inr (12, (some 0)))] (sLw t 23 0 0 (-1 : Int64)) Qp := by
      refine x_cv (ls0 := [_, _, _]) (rest := []) rfl rfl rfl rfl rfl ?_
      refine x_aload_n (pc' := 1) rfl rfl rfl rfl rfl ?_
      refine x_iload_n (pc' := 2) rfl rfl rfl ?_
      refine x_cs (ls0 := [_]) (rest := [_]) rfl rfl rfl rfl ?_
      refine x_iload_n (pc' := 1) rfl rfl rfl ?_
      refine x_iconst (pc' := 2) rfl rfl ?_
      refine x_iconst (pc' := 3) rfl rfl ?_
      refine x_cs (ls0 := [_, _, _]) (rest := []) rfl rfl rfl rfl ?_
      refine x_iload_n (pc' := 1) rfl rfl rfl ?_
      refine x_iload_n (pc' := 2) rfl rfl rfl ?_
      refine x_icmp (a' := 14) (pc' := 5) (z := false) rfl rfl rfl (by decide) (fun h => by cases h) (fun _ => ?_)
      refine x_iload_n (pc' := 6) rfl rfl rfl ?_
      refine x_iload_n (pc' := 7) rfl rfl rfl ?_
      refine x_icmp (a' := 14) (pc' := 10) (z := false) rfl rfl rfl (by decide) (fun h => by cases h) (fun _ => ?_)
      refine x_iconst (pc' := 11) rfl rfl ?_
      refine x_goto (pc' := 15) rfl rfl ?_
      refine x_retz (z := true) rfl rfl ?_
      refine sK_i (pc' := 6) rfl ?_
      refine x_retz (z := true) rfl rfl ?_
      refine sK_i (pc' := 5) rfl ?_
      refine x_if (a' := 12) (pc' := 8) (z := false) rfl rfl rfl (by decide) (fun h => by cases h) (fun _ => ?_)
      refine x_iconst (pc' := 9) rfl rfl ?_
      refine x_goto (pc' := 13) rfl rfl ?_
      refine x_cv (ls0 := [_, _]) (rest := []) rfl rfl rfl rfl rfl ?_
      refine x_aload_n (pc' := 1) rfl rfl rfl rfl rfl ?_
      refine x_iload_n (pc' := 2) rfl rfl rfl ?_
      refine x_pI (pc' := 5) rfl rfl rfl ?_
      refine x_iload_n (pc' := 6) rfl rfl rfl ?_
      refine x_if (a' := 13) (pc' := 9) (z := false) rfl rfl rfl (by decide) (fun h => by cases h) (fun _ => ?_)
      refine x_iconst (pc' := 10) rfl rfl ?_
      refine x_goto (pc' := 14) rfl rfl ?_
      refine x_retz (z := true) rfl rfl ?_
      refine sK_i (pc' := 16) rfl ?_
      refine x_if (a' := 28) (pc' := 19) (z := false) rfl rfl rfl (by decide) (fun h => by cases h) (fun _ => ?_)
      refine x_aload_n (pc' := 20) rfl rfl rfl rfl rfl ?_
      refine x_iload_n (pc' := 21) rfl rfl rfl ?_
      refine x_iload_n (pc' := 22) rfl rfl rfl ?_
      refine x_cv (ls0 := [_, _, _, sJk, sJk, sJk]) (rest := []) rfl rfl rfl rfl rfl ?_
      refine x_iconst (pc' := 1) rfl rfl ?_
      refine x_istore_n (pc' := 2) (ls' := [_, _, _, _, _, _]) rfl rfl rfl rfl ?_
      refine x_iconst (pc' := 3) rfl rfl ?_
      refine x_istore (pc' := 5) (ls' := [_, _, _, _, _, _]) rfl rfl rfl rfl ?_
      refine x_iload (pc' := 7) rfl rfl rfl ?_
      refine x_aload_n (pc' := 8) rfl rfl rfl rfl rfl ?_
      refine x_gI (pc' := 11) (x := 0) rfl rfl rfl (Eq.trans (rdI_F rfl) (Eq.trans rdIL (z_I_786_0 e))) ?_
      refine x_icmp (a' := 87) (pc' := 14) (z := true) rfl rfl rfl (by decide) (fun _ => ?_) (fun h => by cases h)
      refine x_iload_n (pc' := 88) rfl rfl rfl ?_
      refine x_reti rfl rfl ?_
      refine sK_i (pc' := 25) rfl ?_
      refine x_goto (pc' := 29) rfl rfl ?_
      refine x_reti rfl rfl ?_
      refine sK_i (pc' := 1983) rfl ?_
      refine x_istore (pc' := 1985) (ls' := [_, _, _, _, _, _, _]) rfl rfl rfl rfl ?_
      refine x_aload_n (pc' := 1986) rfl rfl rfl rfl rfl ?_
      refine x_cv (ls0 := [_]) (rest := []) rfl rfl rfl rfl rfl ?_
      refine x_aload_n (pc' := 1) rfl rfl rfl rfl rfl ?_
      refine x_gI (pc' := 4) (x := 0) rfl rfl rfl sI_s ?_
      refine x_reti rfl rfl ?_
      refine sK_i (pc' := 1989) rfl ?_
      refine x_iload (pc' := 1991) rfl rfl rfl ?_
      refine x_icmp (a' := 1996) (pc' := 1994) (z := true) rfl rfl rfl (by decide) (fun _ => ?_) (fun h => by cases h)
      refine x_iload (pc' := 1998) rfl rfl rfl ?_
      refine x_if (a' := 2013) (pc' := 2001) (z := false) rfl rfl rfl (by decide) (fun h => by cases h) (fun _ => ?_)
      refine x_aload_n (pc' := 2002) rfl rfl rfl rfl rfl ?_
      refine x_iconst (pc' := 2003) rfl rfl ?_
      refine x_lald (pc' := 2004) (N := 1) (x := (-1 : Int64)) rfl rfl (Eq.trans rdNI (Eq.trans rdNL (z_N_23_0 e))) (io_in (p := 0) (N := 1) (by decide) (by decide)) (Eq.trans (congrArg (sL (sIw (sLw t 23 0 0 (-1 : Int64)) 768 0 0) 23 0) (nn_io (p := 0) (by decide))) (Eq.trans rdLI sL_s)) ?_
      refine x_iload (pc' := 2006) rfl rfl rfl ?_
      refine x_i2l (pc' := 2007) (z := (-1 : Int64)) rfl rfl (by decide) ?_
      refine x_lcmp (pc' := 2008) (z := 0) rfl rfl (sLcmp_s _) ?_
      refine x_if (a' := 2013) (pc' := 2011) (z := true) rfl rfl rfl (by decide) (fun _ => ?_) (fun h => by cases h)
      refine x_goto (pc' := 2938) rfl rfl ?_
      refine x_iinc (pc' := 2941) (y := 7) (ls' := [_, _, _, _, _, _, _]) rfl rfl rfl rfl rfl ?_
      refine x_goto (pc' := 23) rfl rfl ?_
      refine x_iload (pc' := 25) rfl rfl rfl ?_
      refine x_aload_n (pc' := 26) rfl rfl rfl rfl rfl ?_
      refine x_alen (pc' := 27) (N := 7) rfl rfl rfl (Eq.trans rdNI (Eq.trans rdNL (z_N_29_0 e))) (?_ : X _ _ _ (.inl 7 :: _) _ _)
      refine x_bipush (pc' := 29) rfl rfl ?_
      refine x_isub (pc' := 30) (z := 0) rfl rfl (by decide) ?_
      refine x_icmp (a' := 2944) (pc' := 33) (z := true) rfl rfl rfl (by decide) (fun _ => ?_) (fun h => by cases h)
      refine x_iconst (pc' := 2945) rfl rfl ?_
      refine x_retz (z := true) rfl rfl ?_
      exact Qp_ok e (p := 0) (q := 0) rfl rfl rfl rfl
    refine x_if (a' := 1979) (pc' := 1975) (z := decide ((xs 2) = 0)) rfl rfl rfl rfl (fun q9 => ?_) (fun q9 => ?_)
    · refine x_iconst (pc' := 1980) rfl rfl ?_
      ((try rw [q9] at J9); (try rw [q9]); (try simp only [cd_t, cd_f, nt_t, nt_f, an_t, an_f, or_t, or_f] at J9); (try simp only [cd_t, cd_f, nt_t, nt_f, an_t, an_f, or_t, or_f]); exact J9)
    · refine x_iconst (pc' := 1976) rfl rfl ?_
      refine x_goto (pc' := 1980) rfl rfl ?_
      ((try rw [q9] at J9); (try rw [q9]); (try simp only [cd_t, cd_f, nt_t, nt_f, an_t, an_f, or_t, or_f] at J9); (try simp only [cd_t, cd_f, nt_t, nt_f, an_t, an_f, or_t, or_f]); exact J9)
  refine x_if (a' := 1952) (pc' := 1948) (z := decide ((xs 2) = 0)) rfl rfl rfl rfl (fun q3 => ?_) (fun q3 => ?_)
  · refine x_iconst (pc' := 1953) rfl rfl ?_
    ((try rw [q3] at J3); (try rw [q3]); (try simp only [cd_t, cd_f, nt_t, nt_f, an_t, an_f, or_t, or_f] at J3); (try simp only [cd_t, cd_f, nt_t, nt_f, an_t, an_f, or_t, or_f]); exact J3)
  · refine x_iconst (pc' := 1949) rfl rfl ?_
    refine x_goto (pc' := 1953) rfl rfl ?_
    ((try rw [q3] at J3); (try rw [q3]); (try simp only [cd_t, cd_f, nt_t, nt_f, an_t, an_f, or_t, or_f] at J3); (try simp only [cd_t, cd_f, nt_t, nt_f, an_t, an_f, or_t, or_f]); exact J3)
set_option maxHeartbeats 4000000 in
set_option maxRecDepth 10000 in
theorem v_24_2_i {t : sT} {xs : Nat → Int32}
    (e : t = T16 7 xs)
    (hk : ((xs 0) &&& 63) = 24)
    (e0 : xs 1 = 2) :
    X 297 23 [.inr (.inr (29, (some 0))), .inr (.inr (11, (some 0))), .inr (.inr (12, (some 0))), .inr (.inr (23, (some 0))), .inl 0, sJk, sJk] [] t Qp := by
  refine x_iload (pc' := 25) rfl rfl rfl ?_
  refine x_aload_n (pc' := 26) rfl rfl rfl rfl rfl ?_
  refine x_alen (pc' := 27) (N := 7) rfl rfl rfl (z_N_29_0 e) (?_ : X _ _ _ (.inl 7 :: _) _ _)
  refine x_bipush (pc' := 29) rfl rfl ?_
  refine x_isub (pc' := 30) (z := 0) rfl rfl (by decide) ?_
  refine x_icmp (a' := 2944) (pc' := 33) (z := false) rfl rfl rfl (by decide) (fun h => by cases h) (fun _ => ?_)
  refine x_aload_n (pc' := 34) rfl rfl rfl rfl rfl ?_
  refine x_iload (pc' := 36) rfl rfl rfl ?_
  refine x_iald (pc' := 37) (N := 7) (x := (xs 0)) rfl rfl rfl (z_N_29_0 e) (io_in (p := 0) (N := 7) (by decide) (by decide)) (Eq.trans (congrArg (sA t 29 0) (nn_io (p := 0) (by decide))) (z_A_29_0_0 e)) ?_
  refine x_bipush (pc' := 39) rfl rfl ?_
  refine x_iand (pc' := 40) (z := ((xs 0) &&& 63)) rfl rfl rfl ?_
  refine x_switch (pc' := 1932) rfl (by rw [hk]; decide) ?_
  refine x_aload_n (pc' := 1933) rfl rfl rfl rfl rfl ?_
  refine x_aload_n (pc' := 1934) rfl rfl rfl rfl rfl ?_
  refine x_iload (pc' := 1936) rfl rfl rfl ?_
  refine x_iconst (pc' := 1937) rfl rfl ?_
  refine x_iadd (pc' := 1938) (z := 1) rfl rfl (by decide) ?_
  refine x_iald (pc' := 1939) (N := 7) (x := 2) rfl rfl rfl (z_N_29_0 e) (io_in (p := 1) (N := 7) (by decide) (by decide)) (Eq.trans (congrArg (sA t 29 0) (nn_io (p := 1) (by decide))) (Eq.trans (z_A_29_0_1 e) e0)) ?_
  refine x_aload_n (pc' := 1940) rfl rfl rfl rfl rfl ?_
  refine x_iload (pc' := 1942) rfl rfl rfl ?_
  refine x_iconst (pc' := 1943) rfl rfl ?_
  refine x_iadd (pc' := 1944) (z := 2) rfl rfl (by decide) ?_
  refine x_iald (pc' := 1945) (N := 7) (x := (xs 2)) rfl rfl rfl (z_N_29_0 e) (io_in (p := 2) (N := 7) (by decide) (by decide)) (Eq.trans (congrArg (sA t 29 0) (nn_io (p := 2) (by decide))) (z_A_29_0_2 e)) ?_
  have J3 : X 297 1953 [.inr (.inr (29, (some 0))), .inr (.inr (11, (some 0))), .inr (.inr (12, (some 0))), .inr (.inr (23, (some 0))), .inl 0, sJk, sJk] [.inl (bz (!(decide ((xs 2) = 0)))), .inl 2, .inr (.inr (11, (some 0)))] t Qp := by
    refine x_aload_n (pc' := 1954) rfl rfl rfl rfl rfl ?_
    refine x_cs (ls0 := [_, _, _, _, sJk]) (rest := []) rfl rfl rfl rfl ?_
    refine x_aload_n (pc' := 1) rfl rfl rfl rfl rfl ?_
    refine x_iconst (pc' := 2) rfl rfl ?_
    refine x_aload_n (pc' := 3) rfl rfl rfl rfl rfl ?_
    refine x_iload_n (pc' := 4) rfl rfl rfl ?_
    refine x_iload_n (pc' := 5) rfl rfl rfl ?_
    refine x_cv (ls0 := [_, _, _]) (rest := [_, _]) rfl rfl rfl rfl rfl ?_
    refine x_aload_n (pc' := 1) rfl rfl rfl rfl rfl ?_
    refine x_gR (pc' := 4) (r := (some 0)) rfl rfl rfl (z_R_705_0 e) ?_
    refine x_aload_n (pc' := 5) rfl rfl rfl rfl rfl ?_
    refine x_iload_n (pc' := 6) rfl rfl rfl ?_
    refine x_cv (ls0 := [_, _]) (rest := [_]) rfl rfl rfl rfl rfl ?_
    refine x_iload_n (pc' := 1) rfl rfl rfl ?_
    refine x_if (a' := 16) (pc' := 4) (z := false) rfl rfl rfl (by decide) (fun h => by cases h) (fun _ => ?_)
    refine x_iload_n (pc' := 5) rfl rfl rfl ?_
    refine x_aload_n (pc' := 6) rfl rfl rfl rfl rfl ?_
    refine x_gR (pc' := 9) (r := (some 0)) rfl rfl rfl (z_R_705_0 e) ?_
    refine x_gR (pc' := 12) (r := (some 0)) rfl rfl rfl (z_R_256_0 e) ?_
    refine x_alen (pc' := 13) (N := 5) rfl rfl rfl (z_N_24_0 e) (?_ : X _ _ _ (.inl 5 :: _) _ _)
    refine x_icmp (a' := 27) (pc' := 16) (z := true) rfl rfl rfl (by decide) (fun _ => ?_) (fun h => by cases h)
    refine x_aload_n (pc' := 28) rfl rfl rfl rfl rfl ?_
    refine x_gR (pc' := 31) (r := (some 0)) rfl rfl rfl (z_R_705_0 e) ?_
    refine x_gR (pc' := 34) (r := (some 0)) rfl rfl rfl (z_R_256_0 e) ?_
    refine x_iload_n (pc' := 35) rfl rfl rfl ?_
    refine x_aald (pc' := 36) (N := 5) (k' := 1) (r := (some 2)) rfl rfl rfl (z_N_24_0 e) (io_in (p := 2) (N := 5) (by decide) (by decide)) (Eq.trans (congrArg (sE t 24 0) (nn_io (p := 2) (by decide))) (z_E_24_0_2 e)) ?_
    refine x_reta rfl rfl ?_
    refine sK_i (pc' := 9) rfl ?_
    refine x_iload_n (pc' := 10) rfl rfl rfl ?_
    refine x_cv (ls0 := [_, _, _, sJk, sJk, sJk, sJk]) (rest := []) rfl rfl rfl rfl rfl ?_
    refine x_null (pc' := 1) rfl rfl rfl ?_
    refine x_astore_n (pc' := 2) (ls' := [_, _, _, _, _, _, _]) rfl rfl rfl rfl rfl ?_
    refine x_iconst (pc' := 3) rfl rfl ?_
    refine x_istore (pc' := 5) (ls' := [_, _, _, _, _, _, _]) rfl rfl rfl rfl ?_
    refine x_iload (pc' := 7) rfl rfl rfl ?_
    refine x_aload_n (pc' := 8) rfl rfl rfl rfl rfl ?_
    refine x_gR (pc' := 11) (r := (some 1)) rfl rfl rfl (z_R_257_0 e) ?_
    refine x_cv (ls0 := [_]) (rest := [_]) rfl rfl rfl rfl rfl ?_
    refine x_aload_n (pc' := 1) rfl rfl rfl rfl rfl ?_
    refine x_gI (pc' := 4) (x := 0) rfl rfl rfl (z_I_834_1 e) ?_
    refine x_reti rfl rfl ?_
    refine sK_i (pc' := 14) rfl ?_
    refine x_icmp (a' := 92) (pc' := 17) (z := true) rfl rfl rfl (by decide) (fun _ => ?_) (fun h => by cases h)
    refine x_aload_n (pc' := 93) rfl rfl rfl rfl rfl ?_
    refine x_reta rfl rfl ?_
    refine sK_i (pc' := 13) rfl ?_
    refine x_cs (ls0 := [_]) (rest := []) rfl rfl rfl rfl ?_
    refine x_aload_n (pc' := 1) rfl rfl rfl rfl rfl ?_
    refine x_ifnonnull (a' := 8) (pc' := 4) rfl rfl rfl rfl (fun i h => by cases h) (fun _ => ?_)
    refine x_iconst (pc' := 5) rfl rfl ?_
    refine x_goto (pc' := 12) rfl rfl ?_
    refine x_reti rfl rfl ?_
    refine sK_i (pc' := 16) rfl ?_
    refine x_reti rfl rfl ?_
    refine sK_i (pc' := 8) rfl ?_
    refine x_i2l (pc' := 9) (z := (-1 : Int64)) rfl rfl (by decide) ?_
    refine x_last (pc' := 10) (N := 1) (p := 0) rfl rfl (z_N_23_0 e) (io_in (p := 0) (N := 1) (by decide) (by decide)) (nn_io (p := 0) (by decide)) ?_
    refine x_goto (pc' := 17) rfl rfl ?_
    refine x_iconst (pc' := 18) rfl rfl ?_
    refine x_reti rfl rfl ?_
    refine sK_i (pc' := 1957) rfl ?_
    refine x_istore (pc' := 1959) (ls' := [_, _, _, _, _, _, _]) rfl rfl rfl rfl ?_
    refine x_aload_n (pc' := 1960) rfl rfl rfl rfl rfl ?_
    refine x_aload_n (pc' := 1961) rfl rfl rfl rfl rfl ?_
    refine x_iload (pc' := 1963) rfl rfl rfl ?_
    refine x_iconst (pc' := 1964) rfl rfl ?_
    refine x_iadd (pc' := 1965) (z := 1) rfl rfl (by decide) ?_
    refine x_iald (pc' := 1966) (N := 7) (x := 2) rfl rfl rfl (Eq.trans rdNL (z_N_29_0 e)) (io_in (p := 1) (N := 7) (by decide) (by decide)) (Eq.trans (congrArg (sA (sLw t 23 0 0 (-1 : Int64)) 29 0) (nn_io (p := 1) (by decide))) (Eq.trans rdAL (Eq.trans (z_A_29_0_1 e) e0))) ?_
    refine x_aload_n (pc' := 1967) rfl rfl rfl rfl rfl ?_
    refine x_iload (pc' := 1969) rfl rfl rfl ?_
    refine x_iconst (pc' := 1970) rfl rfl ?_
    refine x_iadd (pc' := 1971) (z := 2) rfl rfl (by decide) ?_
    refine x_iald (pc' := 1972) (N := 7) (x := (xs 2)) rfl rfl rfl (Eq.trans rdNL (z_N_29_0 e)) (io_in (p := 2) (N := 7) (by decide) (by decide)) (Eq.trans (congrArg (sA (sLw t 23 0 0 (-1 : Int64)) 29 0) (nn_io (p := 2) (by decide))) (Eq.trans rdAL (z_A_29_0_2 e))) ?_
    have J9 : X 297 1980 [.inr (.inr (29, (some 0))), .inr (.inr (11, (some 0))), .inr (.inr (12, (some 0))), .inr (.inr (23, (some 0))), .inl 0, .inl 0, sJk] [.inl (bz (!(decide ((xs 2) = 0)))), .inl 2, .inr (.inr (12, (some 0)))] (sLw t 23 0 0 (-1 : Int64)) Qp := by
      refine x_cv (ls0 := [_, _, _]) (rest := []) rfl rfl rfl rfl rfl ?_
      refine x_aload_n (pc' := 1) rfl rfl rfl rfl rfl ?_
      refine x_iload_n (pc' := 2) rfl rfl rfl ?_
      refine x_cs (ls0 := [_]) (rest := [_]) rfl rfl rfl rfl ?_
      refine x_iload_n (pc' := 1) rfl rfl rfl ?_
      refine x_iconst (pc' := 2) rfl rfl ?_
      refine x_iconst (pc' := 3) rfl rfl ?_
      refine x_cs (ls0 := [_, _, _]) (rest := []) rfl rfl rfl rfl ?_
      refine x_iload_n (pc' := 1) rfl rfl rfl ?_
      refine x_iload_n (pc' := 2) rfl rfl rfl ?_
      refine x_icmp (a' := 14) (pc' := 5) (z := false) rfl rfl rfl (by decide) (fun h => by cases h) (fun _ => ?_)
      refine x_iload_n (pc' := 6) rfl rfl rfl ?_
      refine x_iload_n (pc' := 7) rfl rfl rfl ?_
      refine x_icmp (a' := 14) (pc' := 10) (z := false) rfl rfl rfl (by decide) (fun h => by cases h) (fun _ => ?_)
      refine x_iconst (pc' := 11) rfl rfl ?_
      refine x_goto (pc' := 15) rfl rfl ?_
      refine x_retz (z := true) rfl rfl ?_
      refine sK_i (pc' := 6) rfl ?_
      refine x_retz (z := true) rfl rfl ?_
      refine sK_i (pc' := 5) rfl ?_
      refine x_if (a' := 12) (pc' := 8) (z := false) rfl rfl rfl (by decide) (fun h => by cases h) (fun _ => ?_)
      refine x_iconst (pc' := 9) rfl rfl ?_
      refine x_goto (pc' := 13) rfl rfl ?_
      refine x_cv (ls0 := [_, _]) (rest := []) rfl rfl rfl rfl rfl ?_
      refine x_aload_n (pc' := 1) rfl rfl rfl rfl rfl ?_
      refine x_iload_n (pc' := 2) rfl rfl rfl ?_
      refine x_pI (pc' := 5) rfl rfl rfl ?_
      refine x_iload_n (pc' := 6) rfl rfl rfl ?_
      refine x_if (a' := 13) (pc' := 9) (z := false) rfl rfl rfl (by decide) (fun h => by cases h) (fun _ => ?_)
      refine x_iconst (pc' := 10) rfl rfl ?_
      refine x_goto (pc' := 14) rfl rfl ?_
      refine x_retz (z := true) rfl rfl ?_
      refine sK_i (pc' := 16) rfl ?_
      refine x_if (a' := 28) (pc' := 19) (z := false) rfl rfl rfl (by decide) (fun h => by cases h) (fun _ => ?_)
      refine x_aload_n (pc' := 20) rfl rfl rfl rfl rfl ?_
      refine x_iload_n (pc' := 21) rfl rfl rfl ?_
      refine x_iload_n (pc' := 22) rfl rfl rfl ?_
      refine x_cv (ls0 := [_, _, _, sJk, sJk, sJk]) (rest := []) rfl rfl rfl rfl rfl ?_
      refine x_iconst (pc' := 1) rfl rfl ?_
      refine x_istore_n (pc' := 2) (ls' := [_, _, _, _, _, _]) rfl rfl rfl rfl ?_
      refine x_iconst (pc' := 3) rfl rfl ?_
      refine x_istore (pc' := 5) (ls' := [_, _, _, _, _, _]) rfl rfl rfl rfl ?_
      refine x_iload (pc' := 7) rfl rfl rfl ?_
      refine x_aload_n (pc' := 8) rfl rfl rfl rfl rfl ?_
      refine x_gI (pc' := 11) (x := 0) rfl rfl rfl (Eq.trans (rdI_F rfl) (Eq.trans rdIL (z_I_786_0 e))) ?_
      refine x_icmp (a' := 87) (pc' := 14) (z := true) rfl rfl rfl (by decide) (fun _ => ?_) (fun h => by cases h)
      refine x_iload_n (pc' := 88) rfl rfl rfl ?_
      refine x_reti rfl rfl ?_
      refine sK_i (pc' := 25) rfl ?_
      refine x_goto (pc' := 29) rfl rfl ?_
      refine x_reti rfl rfl ?_
      refine sK_i (pc' := 1983) rfl ?_
      refine x_istore (pc' := 1985) (ls' := [_, _, _, _, _, _, _]) rfl rfl rfl rfl ?_
      refine x_aload_n (pc' := 1986) rfl rfl rfl rfl rfl ?_
      refine x_cv (ls0 := [_]) (rest := []) rfl rfl rfl rfl rfl ?_
      refine x_aload_n (pc' := 1) rfl rfl rfl rfl rfl ?_
      refine x_gI (pc' := 4) (x := 0) rfl rfl rfl sI_s ?_
      refine x_reti rfl rfl ?_
      refine sK_i (pc' := 1989) rfl ?_
      refine x_iload (pc' := 1991) rfl rfl rfl ?_
      refine x_icmp (a' := 1996) (pc' := 1994) (z := true) rfl rfl rfl (by decide) (fun _ => ?_) (fun h => by cases h)
      refine x_iload (pc' := 1998) rfl rfl rfl ?_
      refine x_if (a' := 2013) (pc' := 2001) (z := false) rfl rfl rfl (by decide) (fun h => by cases h) (fun _ => ?_)
      refine x_aload_n (pc' := 2002) rfl rfl rfl rfl rfl ?_
      refine x_iconst (pc' := 2003) rfl rfl ?_
      refine x_lald (pc' := 2004) (N := 1) (x := (-1 : Int64)) rfl rfl (Eq.trans rdNI (Eq.trans rdNL (z_N_23_0 e))) (io_in (p := 0) (N := 1) (by decide) (by decide)) (Eq.trans (congrArg (sL (sIw (sLw t 23 0 0 (-1 : Int64)) 768 0 0) 23 0) (nn_io (p := 0) (by decide))) (Eq.trans rdLI sL_s)) ?_
      refine x_iload (pc' := 2006) rfl rfl rfl ?_
      refine x_i2l (pc' := 2007) (z := (-1 : Int64)) rfl rfl (by decide) ?_
      refine x_lcmp (pc' := 2008) (z := 0) rfl rfl (sLcmp_s _) ?_
      refine x_if (a' := 2013) (pc' := 2011) (z := true) rfl rfl rfl (by decide) (fun _ => ?_) (fun h => by cases h)
      refine x_goto (pc' := 2938) rfl rfl ?_
      refine x_iinc (pc' := 2941) (y := 7) (ls' := [_, _, _, _, _, _, _]) rfl rfl rfl rfl rfl ?_
      refine x_goto (pc' := 23) rfl rfl ?_
      refine x_iload (pc' := 25) rfl rfl rfl ?_
      refine x_aload_n (pc' := 26) rfl rfl rfl rfl rfl ?_
      refine x_alen (pc' := 27) (N := 7) rfl rfl rfl (Eq.trans rdNI (Eq.trans rdNL (z_N_29_0 e))) (?_ : X _ _ _ (.inl 7 :: _) _ _)
      refine x_bipush (pc' := 29) rfl rfl ?_
      refine x_isub (pc' := 30) (z := 0) rfl rfl (by decide) ?_
      refine x_icmp (a' := 2944) (pc' := 33) (z := true) rfl rfl rfl (by decide) (fun _ => ?_) (fun h => by cases h)
      refine x_iconst (pc' := 2945) rfl rfl ?_
      refine x_retz (z := true) rfl rfl ?_
      exact Qp_ok e (p := 0) (q := 0) rfl rfl rfl rfl
    refine x_if (a' := 1979) (pc' := 1975) (z := decide ((xs 2) = 0)) rfl rfl rfl rfl (fun q9 => ?_) (fun q9 => ?_)
    · refine x_iconst (pc' := 1980) rfl rfl ?_
      ((try rw [q9] at J9); (try rw [q9]); (try simp only [cd_t, cd_f, nt_t, nt_f, an_t, an_f, or_t, or_f] at J9); (try simp only [cd_t, cd_f, nt_t, nt_f, an_t, an_f, or_t, or_f]); exact J9)
    · refine x_iconst (pc' := 1976) rfl rfl ?_
      refine x_goto (pc' := 1980) rfl rfl ?_
      ((try rw [q9] at J9); (try rw [q9]); (try simp only [cd_t, cd_f, nt_t, nt_f, an_t, an_f, or_t, or_f] at J9); (try simp only [cd_t, cd_f, nt_t, nt_f, an_t, an_f, or_t, or_f]); exact J9)
  refine x_if (a' := 1952) (pc' := 1948) (z := decide ((xs 2) = 0)) rfl rfl rfl rfl (fun q3 => ?_) (fun q3 => ?_)
  · refine x_iconst (pc' := 1953) rfl rfl ?_
    ((try rw [q3] at J3); (try rw [q3]); (try simp only [cd_t, cd_f, nt_t, nt_f, an_t, an_f, or_t, or_f] at J3); (try simp only [cd_t, cd_f, nt_t, nt_f, an_t, an_f, or_t, or_f]); exact J3)
  · refine x_iconst (pc' := 1949) rfl rfl ?_
    refine x_goto (pc' := 1953) rfl rfl ?_
    ((try rw [q3] at J3); (try rw [q3]); (try simp only [cd_t, cd_f, nt_t, nt_f, an_t, an_f, or_t, or_f] at J3); (try simp only [cd_t, cd_f, nt_t, nt_f, an_t, an_f, or_t, or_f]); exact J3)
set_option maxHeartbeats 4000000 in
set_option maxRecDepth 10000 in
theorem v_24_3_i {t : sT} {xs : Nat → Int32}
    (e : t = T16 7 xs)
    (hk : ((xs 0) &&& 63) = 24)
    (e0 : xs 1 = 3) :
    X 297 23 [.inr (.inr (29, (some 0))), .inr (.inr (11, (some 0))), .inr (.inr (12, (some 0))), .inr (.inr (23, (some 0))), .inl 0, sJk, sJk] [] t Qp := by
  refine x_iload (pc' := 25) rfl rfl rfl ?_
  refine x_aload_n (pc' := 26) rfl rfl rfl rfl rfl ?_
  refine x_alen (pc' := 27) (N := 7) rfl rfl rfl (z_N_29_0 e) (?_ : X _ _ _ (.inl 7 :: _) _ _)
  refine x_bipush (pc' := 29) rfl rfl ?_
  refine x_isub (pc' := 30) (z := 0) rfl rfl (by decide) ?_
  refine x_icmp (a' := 2944) (pc' := 33) (z := false) rfl rfl rfl (by decide) (fun h => by cases h) (fun _ => ?_)
  refine x_aload_n (pc' := 34) rfl rfl rfl rfl rfl ?_
  refine x_iload (pc' := 36) rfl rfl rfl ?_
  refine x_iald (pc' := 37) (N := 7) (x := (xs 0)) rfl rfl rfl (z_N_29_0 e) (io_in (p := 0) (N := 7) (by decide) (by decide)) (Eq.trans (congrArg (sA t 29 0) (nn_io (p := 0) (by decide))) (z_A_29_0_0 e)) ?_
  refine x_bipush (pc' := 39) rfl rfl ?_
  refine x_iand (pc' := 40) (z := ((xs 0) &&& 63)) rfl rfl rfl ?_
  refine x_switch (pc' := 1932) rfl (by rw [hk]; decide) ?_
  refine x_aload_n (pc' := 1933) rfl rfl rfl rfl rfl ?_
  refine x_aload_n (pc' := 1934) rfl rfl rfl rfl rfl ?_
  refine x_iload (pc' := 1936) rfl rfl rfl ?_
  refine x_iconst (pc' := 1937) rfl rfl ?_
  refine x_iadd (pc' := 1938) (z := 1) rfl rfl (by decide) ?_
  refine x_iald (pc' := 1939) (N := 7) (x := 3) rfl rfl rfl (z_N_29_0 e) (io_in (p := 1) (N := 7) (by decide) (by decide)) (Eq.trans (congrArg (sA t 29 0) (nn_io (p := 1) (by decide))) (Eq.trans (z_A_29_0_1 e) e0)) ?_
  refine x_aload_n (pc' := 1940) rfl rfl rfl rfl rfl ?_
  refine x_iload (pc' := 1942) rfl rfl rfl ?_
  refine x_iconst (pc' := 1943) rfl rfl ?_
  refine x_iadd (pc' := 1944) (z := 2) rfl rfl (by decide) ?_
  refine x_iald (pc' := 1945) (N := 7) (x := (xs 2)) rfl rfl rfl (z_N_29_0 e) (io_in (p := 2) (N := 7) (by decide) (by decide)) (Eq.trans (congrArg (sA t 29 0) (nn_io (p := 2) (by decide))) (z_A_29_0_2 e)) ?_
  have J3 : X 297 1953 [.inr (.inr (29, (some 0))), .inr (.inr (11, (some 0))), .inr (.inr (12, (some 0))), .inr (.inr (23, (some 0))), .inl 0, sJk, sJk] [.inl (bz (!(decide ((xs 2) = 0)))), .inl 3, .inr (.inr (11, (some 0)))] t Qp := by
    refine x_aload_n (pc' := 1954) rfl rfl rfl rfl rfl ?_
    refine x_cs (ls0 := [_, _, _, _, sJk]) (rest := []) rfl rfl rfl rfl ?_
    refine x_aload_n (pc' := 1) rfl rfl rfl rfl rfl ?_
    refine x_iconst (pc' := 2) rfl rfl ?_
    refine x_aload_n (pc' := 3) rfl rfl rfl rfl rfl ?_
    refine x_iload_n (pc' := 4) rfl rfl rfl ?_
    refine x_iload_n (pc' := 5) rfl rfl rfl ?_
    refine x_cv (ls0 := [_, _, _]) (rest := [_, _]) rfl rfl rfl rfl rfl ?_
    refine x_aload_n (pc' := 1) rfl rfl rfl rfl rfl ?_
    refine x_gR (pc' := 4) (r := (some 0)) rfl rfl rfl (z_R_705_0 e) ?_
    refine x_aload_n (pc' := 5) rfl rfl rfl rfl rfl ?_
    refine x_iload_n (pc' := 6) rfl rfl rfl ?_
    refine x_cv (ls0 := [_, _]) (rest := [_]) rfl rfl rfl rfl rfl ?_
    refine x_iload_n (pc' := 1) rfl rfl rfl ?_
    refine x_if (a' := 16) (pc' := 4) (z := false) rfl rfl rfl (by decide) (fun h => by cases h) (fun _ => ?_)
    refine x_iload_n (pc' := 5) rfl rfl rfl ?_
    refine x_aload_n (pc' := 6) rfl rfl rfl rfl rfl ?_
    refine x_gR (pc' := 9) (r := (some 0)) rfl rfl rfl (z_R_705_0 e) ?_
    refine x_gR (pc' := 12) (r := (some 0)) rfl rfl rfl (z_R_256_0 e) ?_
    refine x_alen (pc' := 13) (N := 5) rfl rfl rfl (z_N_24_0 e) (?_ : X _ _ _ (.inl 5 :: _) _ _)
    refine x_icmp (a' := 27) (pc' := 16) (z := true) rfl rfl rfl (by decide) (fun _ => ?_) (fun h => by cases h)
    refine x_aload_n (pc' := 28) rfl rfl rfl rfl rfl ?_
    refine x_gR (pc' := 31) (r := (some 0)) rfl rfl rfl (z_R_705_0 e) ?_
    refine x_gR (pc' := 34) (r := (some 0)) rfl rfl rfl (z_R_256_0 e) ?_
    refine x_iload_n (pc' := 35) rfl rfl rfl ?_
    refine x_aald (pc' := 36) (N := 5) (k' := 1) (r := (some 3)) rfl rfl rfl (z_N_24_0 e) (io_in (p := 3) (N := 5) (by decide) (by decide)) (Eq.trans (congrArg (sE t 24 0) (nn_io (p := 3) (by decide))) (z_E_24_0_3 e)) ?_
    refine x_reta rfl rfl ?_
    refine sK_i (pc' := 9) rfl ?_
    refine x_iload_n (pc' := 10) rfl rfl rfl ?_
    refine x_cv (ls0 := [_, _, _, sJk, sJk, sJk, sJk]) (rest := []) rfl rfl rfl rfl rfl ?_
    refine x_null (pc' := 1) rfl rfl rfl ?_
    refine x_astore_n (pc' := 2) (ls' := [_, _, _, _, _, _, _]) rfl rfl rfl rfl rfl ?_
    refine x_iconst (pc' := 3) rfl rfl ?_
    refine x_istore (pc' := 5) (ls' := [_, _, _, _, _, _, _]) rfl rfl rfl rfl ?_
    refine x_iload (pc' := 7) rfl rfl rfl ?_
    refine x_aload_n (pc' := 8) rfl rfl rfl rfl rfl ?_
    refine x_gR (pc' := 11) (r := (some 1)) rfl rfl rfl (z_R_257_0 e) ?_
    refine x_cv (ls0 := [_]) (rest := [_]) rfl rfl rfl rfl rfl ?_
    refine x_aload_n (pc' := 1) rfl rfl rfl rfl rfl ?_
    refine x_gI (pc' := 4) (x := 0) rfl rfl rfl (z_I_834_1 e) ?_
    refine x_reti rfl rfl ?_
    refine sK_i (pc' := 14) rfl ?_
    refine x_icmp (a' := 92) (pc' := 17) (z := true) rfl rfl rfl (by decide) (fun _ => ?_) (fun h => by cases h)
    refine x_aload_n (pc' := 93) rfl rfl rfl rfl rfl ?_
    refine x_reta rfl rfl ?_
    refine sK_i (pc' := 13) rfl ?_
    refine x_cs (ls0 := [_]) (rest := []) rfl rfl rfl rfl ?_
    refine x_aload_n (pc' := 1) rfl rfl rfl rfl rfl ?_
    refine x_ifnonnull (a' := 8) (pc' := 4) rfl rfl rfl rfl (fun i h => by cases h) (fun _ => ?_)
    refine x_iconst (pc' := 5) rfl rfl ?_
    refine x_goto (pc' := 12) rfl rfl ?_
    refine x_reti rfl rfl ?_
    refine sK_i (pc' := 16) rfl ?_
    refine x_reti rfl rfl ?_
    refine sK_i (pc' := 8) rfl ?_
    refine x_i2l (pc' := 9) (z := (-1 : Int64)) rfl rfl (by decide) ?_
    refine x_last (pc' := 10) (N := 1) (p := 0) rfl rfl (z_N_23_0 e) (io_in (p := 0) (N := 1) (by decide) (by decide)) (nn_io (p := 0) (by decide)) ?_
    refine x_goto (pc' := 17) rfl rfl ?_
    refine x_iconst (pc' := 18) rfl rfl ?_
    refine x_reti rfl rfl ?_
    refine sK_i (pc' := 1957) rfl ?_
    refine x_istore (pc' := 1959) (ls' := [_, _, _, _, _, _, _]) rfl rfl rfl rfl ?_
    refine x_aload_n (pc' := 1960) rfl rfl rfl rfl rfl ?_
    refine x_aload_n (pc' := 1961) rfl rfl rfl rfl rfl ?_
    refine x_iload (pc' := 1963) rfl rfl rfl ?_
    refine x_iconst (pc' := 1964) rfl rfl ?_
    refine x_iadd (pc' := 1965) (z := 1) rfl rfl (by decide) ?_
    refine x_iald (pc' := 1966) (N := 7) (x := 3) rfl rfl rfl (Eq.trans rdNL (z_N_29_0 e)) (io_in (p := 1) (N := 7) (by decide) (by decide)) (Eq.trans (congrArg (sA (sLw t 23 0 0 (-1 : Int64)) 29 0) (nn_io (p := 1) (by decide))) (Eq.trans rdAL (Eq.trans (z_A_29_0_1 e) e0))) ?_
    refine x_aload_n (pc' := 1967) rfl rfl rfl rfl rfl ?_
    refine x_iload (pc' := 1969) rfl rfl rfl ?_
    refine x_iconst (pc' := 1970) rfl rfl ?_
    refine x_iadd (pc' := 1971) (z := 2) rfl rfl (by decide) ?_
    refine x_iald (pc' := 1972) (N := 7) (x := (xs 2)) rfl rfl rfl (Eq.trans rdNL (z_N_29_0 e)) (io_in (p := 2) (N := 7) (by decide) (by decide)) (Eq.trans (congrArg (sA (sLw t 23 0 0 (-1 : Int64)) 29 0) (nn_io (p := 2) (by decide))) (Eq.trans rdAL (z_A_29_0_2 e))) ?_
    have J9 : X 297 1980 [.inr (.inr (29, (some 0))), .inr (.inr (11, (some 0))), .inr (.inr (12, (some 0))), .inr (.inr (23, (some 0))), .inl 0, .inl 0, sJk] [.inl (bz (!(decide ((xs 2) = 0)))), .inl 3, .inr (.inr (12, (some 0)))] (sLw t 23 0 0 (-1 : Int64)) Qp := by
      refine x_cv (ls0 := [_, _, _]) (rest := []) rfl rfl rfl rfl rfl ?_
      refine x_aload_n (pc' := 1) rfl rfl rfl rfl rfl ?_
      refine x_iload_n (pc' := 2) rfl rfl rfl ?_
      refine x_cs (ls0 := [_]) (rest := [_]) rfl rfl rfl rfl ?_
      refine x_iload_n (pc' := 1) rfl rfl rfl ?_
      refine x_iconst (pc' := 2) rfl rfl ?_
      refine x_iconst (pc' := 3) rfl rfl ?_
      refine x_cs (ls0 := [_, _, _]) (rest := []) rfl rfl rfl rfl ?_
      refine x_iload_n (pc' := 1) rfl rfl rfl ?_
      refine x_iload_n (pc' := 2) rfl rfl rfl ?_
      refine x_icmp (a' := 14) (pc' := 5) (z := false) rfl rfl rfl (by decide) (fun h => by cases h) (fun _ => ?_)
      refine x_iload_n (pc' := 6) rfl rfl rfl ?_
      refine x_iload_n (pc' := 7) rfl rfl rfl ?_
      refine x_icmp (a' := 14) (pc' := 10) (z := false) rfl rfl rfl (by decide) (fun h => by cases h) (fun _ => ?_)
      refine x_iconst (pc' := 11) rfl rfl ?_
      refine x_goto (pc' := 15) rfl rfl ?_
      refine x_retz (z := true) rfl rfl ?_
      refine sK_i (pc' := 6) rfl ?_
      refine x_retz (z := true) rfl rfl ?_
      refine sK_i (pc' := 5) rfl ?_
      refine x_if (a' := 12) (pc' := 8) (z := false) rfl rfl rfl (by decide) (fun h => by cases h) (fun _ => ?_)
      refine x_iconst (pc' := 9) rfl rfl ?_
      refine x_goto (pc' := 13) rfl rfl ?_
      refine x_cv (ls0 := [_, _]) (rest := []) rfl rfl rfl rfl rfl ?_
      refine x_aload_n (pc' := 1) rfl rfl rfl rfl rfl ?_
      refine x_iload_n (pc' := 2) rfl rfl rfl ?_
      refine x_pI (pc' := 5) rfl rfl rfl ?_
      refine x_iload_n (pc' := 6) rfl rfl rfl ?_
      refine x_if (a' := 13) (pc' := 9) (z := false) rfl rfl rfl (by decide) (fun h => by cases h) (fun _ => ?_)
      refine x_iconst (pc' := 10) rfl rfl ?_
      refine x_goto (pc' := 14) rfl rfl ?_
      refine x_retz (z := true) rfl rfl ?_
      refine sK_i (pc' := 16) rfl ?_
      refine x_if (a' := 28) (pc' := 19) (z := false) rfl rfl rfl (by decide) (fun h => by cases h) (fun _ => ?_)
      refine x_aload_n (pc' := 20) rfl rfl rfl rfl rfl ?_
      refine x_iload_n (pc' := 21) rfl rfl rfl ?_
      refine x_iload_n (pc' := 22) rfl rfl rfl ?_
      refine x_cv (ls0 := [_, _, _, sJk, sJk, sJk]) (rest := []) rfl rfl rfl rfl rfl ?_
      refine x_iconst (pc' := 1) rfl rfl ?_
      refine x_istore_n (pc' := 2) (ls' := [_, _, _, _, _, _]) rfl rfl rfl rfl ?_
      refine x_iconst (pc' := 3) rfl rfl ?_
      refine x_istore (pc' := 5) (ls' := [_, _, _, _, _, _]) rfl rfl rfl rfl ?_
      refine x_iload (pc' := 7) rfl rfl rfl ?_
      refine x_aload_n (pc' := 8) rfl rfl rfl rfl rfl ?_
      refine x_gI (pc' := 11) (x := 0) rfl rfl rfl (Eq.trans (rdI_F rfl) (Eq.trans rdIL (z_I_786_0 e))) ?_
      refine x_icmp (a' := 87) (pc' := 14) (z := true) rfl rfl rfl (by decide) (fun _ => ?_) (fun h => by cases h)
      refine x_iload_n (pc' := 88) rfl rfl rfl ?_
      refine x_reti rfl rfl ?_
      refine sK_i (pc' := 25) rfl ?_
      refine x_goto (pc' := 29) rfl rfl ?_
      refine x_reti rfl rfl ?_
      refine sK_i (pc' := 1983) rfl ?_
      refine x_istore (pc' := 1985) (ls' := [_, _, _, _, _, _, _]) rfl rfl rfl rfl ?_
      refine x_aload_n (pc' := 1986) rfl rfl rfl rfl rfl ?_
      refine x_cv (ls0 := [_]) (rest := []) rfl rfl rfl rfl rfl ?_
      refine x_aload_n (pc' := 1) rfl rfl rfl rfl rfl ?_
      refine x_gI (pc' := 4) (x := 0) rfl rfl rfl sI_s ?_
      refine x_reti rfl rfl ?_
      refine sK_i (pc' := 1989) rfl ?_
      refine x_iload (pc' := 1991) rfl rfl rfl ?_
      refine x_icmp (a' := 1996) (pc' := 1994) (z := true) rfl rfl rfl (by decide) (fun _ => ?_) (fun h => by cases h)
      refine x_iload (pc' := 1998) rfl rfl rfl ?_
      refine x_if (a' := 2013) (pc' := 2001) (z := false) rfl rfl rfl (by decide) (fun h => by cases h) (fun _ => ?_)
      refine x_aload_n (pc' := 2002) rfl rfl rfl rfl rfl ?_
      refine x_iconst (pc' := 2003) rfl rfl ?_
      refine x_lald (pc' := 2004) (N := 1) (x := (-1 : Int64)) rfl rfl (Eq.trans rdNI (Eq.trans rdNL (z_N_23_0 e))) (io_in (p := 0) (N := 1) (by decide) (by decide)) (Eq.trans (congrArg (sL (sIw (sLw t 23 0 0 (-1 : Int64)) 768 0 0) 23 0) (nn_io (p := 0) (by decide))) (Eq.trans rdLI sL_s)) ?_
      refine x_iload (pc' := 2006) rfl rfl rfl ?_
      refine x_i2l (pc' := 2007) (z := (-1 : Int64)) rfl rfl (by decide) ?_
      refine x_lcmp (pc' := 2008) (z := 0) rfl rfl (sLcmp_s _) ?_
      refine x_if (a' := 2013) (pc' := 2011) (z := true) rfl rfl rfl (by decide) (fun _ => ?_) (fun h => by cases h)
      refine x_goto (pc' := 2938) rfl rfl ?_
      refine x_iinc (pc' := 2941) (y := 7) (ls' := [_, _, _, _, _, _, _]) rfl rfl rfl rfl rfl ?_
      refine x_goto (pc' := 23) rfl rfl ?_
      refine x_iload (pc' := 25) rfl rfl rfl ?_
      refine x_aload_n (pc' := 26) rfl rfl rfl rfl rfl ?_
      refine x_alen (pc' := 27) (N := 7) rfl rfl rfl (Eq.trans rdNI (Eq.trans rdNL (z_N_29_0 e))) (?_ : X _ _ _ (.inl 7 :: _) _ _)
      refine x_bipush (pc' := 29) rfl rfl ?_
      refine x_isub (pc' := 30) (z := 0) rfl rfl (by decide) ?_
      refine x_icmp (a' := 2944) (pc' := 33) (z := true) rfl rfl rfl (by decide) (fun _ => ?_) (fun h => by cases h)
      refine x_iconst (pc' := 2945) rfl rfl ?_
      refine x_retz (z := true) rfl rfl ?_
      exact Qp_ok e (p := 0) (q := 0) rfl rfl rfl rfl
    refine x_if (a' := 1979) (pc' := 1975) (z := decide ((xs 2) = 0)) rfl rfl rfl rfl (fun q9 => ?_) (fun q9 => ?_)
    · refine x_iconst (pc' := 1980) rfl rfl ?_
      ((try rw [q9] at J9); (try rw [q9]); (try simp only [cd_t, cd_f, nt_t, nt_f, an_t, an_f, or_t, or_f] at J9); (try simp only [cd_t, cd_f, nt_t, nt_f, an_t, an_f, or_t, or_f]); exact J9)
    · refine x_iconst (pc' := 1976) rfl rfl ?_
      refine x_goto (pc' := 1980) rfl rfl ?_
      ((try rw [q9] at J9); (try rw [q9]); (try simp only [cd_t, cd_f, nt_t, nt_f, an_t, an_f, or_t, or_f] at J9); (try simp only [cd_t, cd_f, nt_t, nt_f, an_t, an_f, or_t, or_f]); exact J9)
  refine x_if (a' := 1952) (pc' := 1948) (z := decide ((xs 2) = 0)) rfl rfl rfl rfl (fun q3 => ?_) (fun q3 => ?_)
  · refine x_iconst (pc' := 1953) rfl rfl ?_
    ((try rw [q3] at J3); (try rw [q3]); (try simp only [cd_t, cd_f, nt_t, nt_f, an_t, an_f, or_t, or_f] at J3); (try simp only [cd_t, cd_f, nt_t, nt_f, an_t, an_f, or_t, or_f]); exact J3)
  · refine x_iconst (pc' := 1949) rfl rfl ?_
    refine x_goto (pc' := 1953) rfl rfl ?_
    ((try rw [q3] at J3); (try rw [q3]); (try simp only [cd_t, cd_f, nt_t, nt_f, an_t, an_f, or_t, or_f] at J3); (try simp only [cd_t, cd_f, nt_t, nt_f, an_t, an_f, or_t, or_f]); exact J3)
set_option maxHeartbeats 4000000 in
set_option maxRecDepth 10000 in
theorem v_24_4_i {t : sT} {xs : Nat → Int32}
    (e : t = T16 7 xs)
    (hk : ((xs 0) &&& 63) = 24)
    (e0 : xs 1 = 4) :
    X 297 23 [.inr (.inr (29, (some 0))), .inr (.inr (11, (some 0))), .inr (.inr (12, (some 0))), .inr (.inr (23, (some 0))), .inl 0, sJk, sJk] [] t Qp := by
  refine x_iload (pc' := 25) rfl rfl rfl ?_
  refine x_aload_n (pc' := 26) rfl rfl rfl rfl rfl ?_
  refine x_alen (pc' := 27) (N := 7) rfl rfl rfl (z_N_29_0 e) (?_ : X _ _ _ (.inl 7 :: _) _ _)
  refine x_bipush (pc' := 29) rfl rfl ?_
  refine x_isub (pc' := 30) (z := 0) rfl rfl (by decide) ?_
  refine x_icmp (a' := 2944) (pc' := 33) (z := false) rfl rfl rfl (by decide) (fun h => by cases h) (fun _ => ?_)
  refine x_aload_n (pc' := 34) rfl rfl rfl rfl rfl ?_
  refine x_iload (pc' := 36) rfl rfl rfl ?_
  refine x_iald (pc' := 37) (N := 7) (x := (xs 0)) rfl rfl rfl (z_N_29_0 e) (io_in (p := 0) (N := 7) (by decide) (by decide)) (Eq.trans (congrArg (sA t 29 0) (nn_io (p := 0) (by decide))) (z_A_29_0_0 e)) ?_
  refine x_bipush (pc' := 39) rfl rfl ?_
  refine x_iand (pc' := 40) (z := ((xs 0) &&& 63)) rfl rfl rfl ?_
  refine x_switch (pc' := 1932) rfl (by rw [hk]; decide) ?_
  refine x_aload_n (pc' := 1933) rfl rfl rfl rfl rfl ?_
  refine x_aload_n (pc' := 1934) rfl rfl rfl rfl rfl ?_
  refine x_iload (pc' := 1936) rfl rfl rfl ?_
  refine x_iconst (pc' := 1937) rfl rfl ?_
  refine x_iadd (pc' := 1938) (z := 1) rfl rfl (by decide) ?_
  refine x_iald (pc' := 1939) (N := 7) (x := 4) rfl rfl rfl (z_N_29_0 e) (io_in (p := 1) (N := 7) (by decide) (by decide)) (Eq.trans (congrArg (sA t 29 0) (nn_io (p := 1) (by decide))) (Eq.trans (z_A_29_0_1 e) e0)) ?_
  refine x_aload_n (pc' := 1940) rfl rfl rfl rfl rfl ?_
  refine x_iload (pc' := 1942) rfl rfl rfl ?_
  refine x_iconst (pc' := 1943) rfl rfl ?_
  refine x_iadd (pc' := 1944) (z := 2) rfl rfl (by decide) ?_
  refine x_iald (pc' := 1945) (N := 7) (x := (xs 2)) rfl rfl rfl (z_N_29_0 e) (io_in (p := 2) (N := 7) (by decide) (by decide)) (Eq.trans (congrArg (sA t 29 0) (nn_io (p := 2) (by decide))) (z_A_29_0_2 e)) ?_
  have J3 : X 297 1953 [.inr (.inr (29, (some 0))), .inr (.inr (11, (some 0))), .inr (.inr (12, (some 0))), .inr (.inr (23, (some 0))), .inl 0, sJk, sJk] [.inl (bz (!(decide ((xs 2) = 0)))), .inl 4, .inr (.inr (11, (some 0)))] t Qp := by
    refine x_aload_n (pc' := 1954) rfl rfl rfl rfl rfl ?_
    refine x_cs (ls0 := [_, _, _, _, sJk]) (rest := []) rfl rfl rfl rfl ?_
    refine x_aload_n (pc' := 1) rfl rfl rfl rfl rfl ?_
    refine x_iconst (pc' := 2) rfl rfl ?_
    refine x_aload_n (pc' := 3) rfl rfl rfl rfl rfl ?_
    refine x_iload_n (pc' := 4) rfl rfl rfl ?_
    refine x_iload_n (pc' := 5) rfl rfl rfl ?_
    refine x_cv (ls0 := [_, _, _]) (rest := [_, _]) rfl rfl rfl rfl rfl ?_
    refine x_aload_n (pc' := 1) rfl rfl rfl rfl rfl ?_
    refine x_gR (pc' := 4) (r := (some 0)) rfl rfl rfl (z_R_705_0 e) ?_
    refine x_aload_n (pc' := 5) rfl rfl rfl rfl rfl ?_
    refine x_iload_n (pc' := 6) rfl rfl rfl ?_
    refine x_cv (ls0 := [_, _]) (rest := [_]) rfl rfl rfl rfl rfl ?_
    refine x_iload_n (pc' := 1) rfl rfl rfl ?_
    refine x_if (a' := 16) (pc' := 4) (z := false) rfl rfl rfl (by decide) (fun h => by cases h) (fun _ => ?_)
    refine x_iload_n (pc' := 5) rfl rfl rfl ?_
    refine x_aload_n (pc' := 6) rfl rfl rfl rfl rfl ?_
    refine x_gR (pc' := 9) (r := (some 0)) rfl rfl rfl (z_R_705_0 e) ?_
    refine x_gR (pc' := 12) (r := (some 0)) rfl rfl rfl (z_R_256_0 e) ?_
    refine x_alen (pc' := 13) (N := 5) rfl rfl rfl (z_N_24_0 e) (?_ : X _ _ _ (.inl 5 :: _) _ _)
    refine x_icmp (a' := 27) (pc' := 16) (z := true) rfl rfl rfl (by decide) (fun _ => ?_) (fun h => by cases h)
    refine x_aload_n (pc' := 28) rfl rfl rfl rfl rfl ?_
    refine x_gR (pc' := 31) (r := (some 0)) rfl rfl rfl (z_R_705_0 e) ?_
    refine x_gR (pc' := 34) (r := (some 0)) rfl rfl rfl (z_R_256_0 e) ?_
    refine x_iload_n (pc' := 35) rfl rfl rfl ?_
    refine x_aald (pc' := 36) (N := 5) (k' := 1) (r := (some 4)) rfl rfl rfl (z_N_24_0 e) (io_in (p := 4) (N := 5) (by decide) (by decide)) (Eq.trans (congrArg (sE t 24 0) (nn_io (p := 4) (by decide))) (z_E_24_0_4 e)) ?_
    refine x_reta rfl rfl ?_
    refine sK_i (pc' := 9) rfl ?_
    refine x_iload_n (pc' := 10) rfl rfl rfl ?_
    refine x_cv (ls0 := [_, _, _, sJk, sJk, sJk, sJk]) (rest := []) rfl rfl rfl rfl rfl ?_
    refine x_null (pc' := 1) rfl rfl rfl ?_
    refine x_astore_n (pc' := 2) (ls' := [_, _, _, _, _, _, _]) rfl rfl rfl rfl rfl ?_
    refine x_iconst (pc' := 3) rfl rfl ?_
    refine x_istore (pc' := 5) (ls' := [_, _, _, _, _, _, _]) rfl rfl rfl rfl ?_
    refine x_iload (pc' := 7) rfl rfl rfl ?_
    refine x_aload_n (pc' := 8) rfl rfl rfl rfl rfl ?_
    refine x_gR (pc' := 11) (r := (some 1)) rfl rfl rfl (z_R_257_0 e) ?_
    refine x_cv (ls0 := [_]) (rest := [_]) rfl rfl rfl rfl rfl ?_
    refine x_aload_n (pc' := 1) rfl rfl rfl rfl rfl ?_
    refine x_gI (pc' := 4) (x := 0) rfl rfl rfl (z_I_834_1 e) ?_
    refine x_reti rfl rfl ?_
    refine sK_i (pc' := 14) rfl ?_
    refine x_icmp (a' := 92) (pc' := 17) (z := true) rfl rfl rfl (by decide) (fun _ => ?_) (fun h => by cases h)
    refine x_aload_n (pc' := 93) rfl rfl rfl rfl rfl ?_
    refine x_reta rfl rfl ?_
    refine sK_i (pc' := 13) rfl ?_
    refine x_cs (ls0 := [_]) (rest := []) rfl rfl rfl rfl ?_
    refine x_aload_n (pc' := 1) rfl rfl rfl rfl rfl ?_
    refine x_ifnonnull (a' := 8) (pc' := 4) rfl rfl rfl rfl (fun i h => by cases h) (fun _ => ?_)
    refine x_iconst (pc' := 5) rfl rfl ?_
    refine x_goto (pc' := 12) rfl rfl ?_
    refine x_reti rfl rfl ?_
    refine sK_i (pc' := 16) rfl ?_
    refine x_reti rfl rfl ?_
    refine sK_i (pc' := 8) rfl ?_
    refine x_i2l (pc' := 9) (z := (-1 : Int64)) rfl rfl (by decide) ?_
    refine x_last (pc' := 10) (N := 1) (p := 0) rfl rfl (z_N_23_0 e) (io_in (p := 0) (N := 1) (by decide) (by decide)) (nn_io (p := 0) (by decide)) ?_
    refine x_goto (pc' := 17) rfl rfl ?_
    refine x_iconst (pc' := 18) rfl rfl ?_
    refine x_reti rfl rfl ?_
    refine sK_i (pc' := 1957) rfl ?_
    refine x_istore (pc' := 1959) (ls' := [_, _, _, _, _, _, _]) rfl rfl rfl rfl ?_
    refine x_aload_n (pc' := 1960) rfl rfl rfl rfl rfl ?_
    refine x_aload_n (pc' := 1961) rfl rfl rfl rfl rfl ?_
    refine x_iload (pc' := 1963) rfl rfl rfl ?_
    refine x_iconst (pc' := 1964) rfl rfl ?_
    refine x_iadd (pc' := 1965) (z := 1) rfl rfl (by decide) ?_
    refine x_iald (pc' := 1966) (N := 7) (x := 4) rfl rfl rfl (Eq.trans rdNL (z_N_29_0 e)) (io_in (p := 1) (N := 7) (by decide) (by decide)) (Eq.trans (congrArg (sA (sLw t 23 0 0 (-1 : Int64)) 29 0) (nn_io (p := 1) (by decide))) (Eq.trans rdAL (Eq.trans (z_A_29_0_1 e) e0))) ?_
    refine x_aload_n (pc' := 1967) rfl rfl rfl rfl rfl ?_
    refine x_iload (pc' := 1969) rfl rfl rfl ?_
    refine x_iconst (pc' := 1970) rfl rfl ?_
    refine x_iadd (pc' := 1971) (z := 2) rfl rfl (by decide) ?_
    refine x_iald (pc' := 1972) (N := 7) (x := (xs 2)) rfl rfl rfl (Eq.trans rdNL (z_N_29_0 e)) (io_in (p := 2) (N := 7) (by decide) (by decide)) (Eq.trans (congrArg (sA (sLw t 23 0 0 (-1 : Int64)) 29 0) (nn_io (p := 2) (by decide))) (Eq.trans rdAL (z_A_29_0_2 e))) ?_
    have J9 : X 297 1980 [.inr (.inr (29, (some 0))), .inr (.inr (11, (some 0))), .inr (.inr (12, (some 0))), .inr (.inr (23, (some 0))), .inl 0, .inl 0, sJk] [.inl (bz (!(decide ((xs 2) = 0)))), .inl 4, .inr (.inr (12, (some 0)))] (sLw t 23 0 0 (-1 : Int64)) Qp := by
      refine x_cv (ls0 := [_, _, _]) (rest := []) rfl rfl rfl rfl rfl ?_
      refine x_aload_n (pc' := 1) rfl rfl rfl rfl rfl ?_
      refine x_iload_n (pc' := 2) rfl rfl rfl ?_
      refine x_cs (ls0 := [_]) (rest := [_]) rfl rfl rfl rfl ?_
      refine x_iload_n (pc' := 1) rfl rfl rfl ?_
      refine x_iconst (pc' := 2) rfl rfl ?_
      refine x_iconst (pc' := 3) rfl rfl ?_
      refine x_cs (ls0 := [_, _, _]) (rest := []) rfl rfl rfl rfl ?_
      refine x_iload_n (pc' := 1) rfl rfl rfl ?_
      refine x_iload_n (pc' := 2) rfl rfl rfl ?_
      refine x_icmp (a' := 14) (pc' := 5) (z := false) rfl rfl rfl (by decide) (fun h => by cases h) (fun _ => ?_)
      refine x_iload_n (pc' := 6) rfl rfl rfl ?_
      refine x_iload_n (pc' := 7) rfl rfl rfl ?_
      refine x_icmp (a' := 14) (pc' := 10) (z := false) rfl rfl rfl (by decide) (fun h => by cases h) (fun _ => ?_)
      refine x_iconst (pc' := 11) rfl rfl ?_
      refine x_goto (pc' := 15) rfl rfl ?_
      refine x_retz (z := true) rfl rfl ?_
      refine sK_i (pc' := 6) rfl ?_
      refine x_retz (z := true) rfl rfl ?_
      refine sK_i (pc' := 5) rfl ?_
      refine x_if (a' := 12) (pc' := 8) (z := false) rfl rfl rfl (by decide) (fun h => by cases h) (fun _ => ?_)
      refine x_iconst (pc' := 9) rfl rfl ?_
      refine x_goto (pc' := 13) rfl rfl ?_
      refine x_cv (ls0 := [_, _]) (rest := []) rfl rfl rfl rfl rfl ?_
      refine x_aload_n (pc' := 1) rfl rfl rfl rfl rfl ?_
      refine x_iload_n (pc' := 2) rfl rfl rfl ?_
      refine x_pI (pc' := 5) rfl rfl rfl ?_
      refine x_iload_n (pc' := 6) rfl rfl rfl ?_
      refine x_if (a' := 13) (pc' := 9) (z := false) rfl rfl rfl (by decide) (fun h => by cases h) (fun _ => ?_)
      refine x_iconst (pc' := 10) rfl rfl ?_
      refine x_goto (pc' := 14) rfl rfl ?_
      refine x_retz (z := true) rfl rfl ?_
      refine sK_i (pc' := 16) rfl ?_
      refine x_if (a' := 28) (pc' := 19) (z := false) rfl rfl rfl (by decide) (fun h => by cases h) (fun _ => ?_)
      refine x_aload_n (pc' := 20) rfl rfl rfl rfl rfl ?_
      refine x_iload_n (pc' := 21) rfl rfl rfl ?_
      refine x_iload_n (pc' := 22) rfl rfl rfl ?_
      refine x_cv (ls0 := [_, _, _, sJk, sJk, sJk]) (rest := []) rfl rfl rfl rfl rfl ?_
      refine x_iconst (pc' := 1) rfl rfl ?_
      refine x_istore_n (pc' := 2) (ls' := [_, _, _, _, _, _]) rfl rfl rfl rfl ?_
      refine x_iconst (pc' := 3) rfl rfl ?_
      refine x_istore (pc' := 5) (ls' := [_, _, _, _, _, _]) rfl rfl rfl rfl ?_
      refine x_iload (pc' := 7) rfl rfl rfl ?_
      refine x_aload_n (pc' := 8) rfl rfl rfl rfl rfl ?_
      refine x_gI (pc' := 11) (x := 0) rfl rfl rfl (Eq.trans (rdI_F rfl) (Eq.trans rdIL (z_I_786_0 e))) ?_
      refine x_icmp (a' := 87) (pc' := 14) (z := true) rfl rfl rfl (by decide) (fun _ => ?_) (fun h => by cases h)
      refine x_iload_n (pc' := 88) rfl rfl rfl ?_
      refine x_reti rfl rfl ?_
      refine sK_i (pc' := 25) rfl ?_
      refine x_goto (pc' := 29) rfl rfl ?_
      refine x_reti rfl rfl ?_
      refine sK_i (pc' := 1983) rfl ?_
      refine x_istore (pc' := 1985) (ls' := [_, _, _, _, _, _, _]) rfl rfl rfl rfl ?_
      refine x_aload_n (pc' := 1986) rfl rfl rfl rfl rfl ?_
      refine x_cv (ls0 := [_]) (rest := []) rfl rfl rfl rfl rfl ?_
      refine x_aload_n (pc' := 1) rfl rfl rfl rfl rfl ?_
      refine x_gI (pc' := 4) (x := 0) rfl rfl rfl sI_s ?_
      refine x_reti rfl rfl ?_
      refine sK_i (pc' := 1989) rfl ?_
      refine x_iload (pc' := 1991) rfl rfl rfl ?_
      refine x_icmp (a' := 1996) (pc' := 1994) (z := true) rfl rfl rfl (by decide) (fun _ => ?_) (fun h => by cases h)
      refine x_iload (pc' := 1998) rfl rfl rfl ?_
      refine x_if (a' := 2013) (pc' := 2001) (z := false) rfl rfl rfl (by decide) (fun h => by cases h) (fun _ => ?_)
      refine x_aload_n (pc' := 2002) rfl rfl rfl rfl rfl ?_
      refine x_iconst (pc' := 2003) rfl rfl ?_
      refine x_lald (pc' := 2004) (N := 1) (x := (-1 : Int64)) rfl rfl (Eq.trans rdNI (Eq.trans rdNL (z_N_23_0 e))) (io_in (p := 0) (N := 1) (by decide) (by decide)) (Eq.trans (congrArg (sL (sIw (sLw t 23 0 0 (-1 : Int64)) 768 0 0) 23 0) (nn_io (p := 0) (by decide))) (Eq.trans rdLI sL_s)) ?_
      refine x_iload (pc' := 2006) rfl rfl rfl ?_
      refine x_i2l (pc' := 2007) (z := (-1 : Int64)) rfl rfl (by decide) ?_
      refine x_lcmp (pc' := 2008) (z := 0) rfl rfl (sLcmp_s _) ?_
      refine x_if (a' := 2013) (pc' := 2011) (z := true) rfl rfl rfl (by decide) (fun _ => ?_) (fun h => by cases h)
      refine x_goto (pc' := 2938) rfl rfl ?_
      refine x_iinc (pc' := 2941) (y := 7) (ls' := [_, _, _, _, _, _, _]) rfl rfl rfl rfl rfl ?_
      refine x_goto (pc' := 23) rfl rfl ?_
      refine x_iload (pc' := 25) rfl rfl rfl ?_
      refine x_aload_n (pc' := 26) rfl rfl rfl rfl rfl ?_
      refine x_alen (pc' := 27) (N := 7) rfl rfl rfl (Eq.trans rdNI (Eq.trans rdNL (z_N_29_0 e))) (?_ : X _ _ _ (.inl 7 :: _) _ _)
      refine x_bipush (pc' := 29) rfl rfl ?_
      refine x_isub (pc' := 30) (z := 0) rfl rfl (by decide) ?_
      refine x_icmp (a' := 2944) (pc' := 33) (z := true) rfl rfl rfl (by decide) (fun _ => ?_) (fun h => by cases h)
      refine x_iconst (pc' := 2945) rfl rfl ?_
      refine x_retz (z := true) rfl rfl ?_
      exact Qp_ok e (p := 0) (q := 0) rfl rfl rfl rfl
    refine x_if (a' := 1979) (pc' := 1975) (z := decide ((xs 2) = 0)) rfl rfl rfl rfl (fun q9 => ?_) (fun q9 => ?_)
    · refine x_iconst (pc' := 1980) rfl rfl ?_
      ((try rw [q9] at J9); (try rw [q9]); (try simp only [cd_t, cd_f, nt_t, nt_f, an_t, an_f, or_t, or_f] at J9); (try simp only [cd_t, cd_f, nt_t, nt_f, an_t, an_f, or_t, or_f]); exact J9)
    · refine x_iconst (pc' := 1976) rfl rfl ?_
      refine x_goto (pc' := 1980) rfl rfl ?_
      ((try rw [q9] at J9); (try rw [q9]); (try simp only [cd_t, cd_f, nt_t, nt_f, an_t, an_f, or_t, or_f] at J9); (try simp only [cd_t, cd_f, nt_t, nt_f, an_t, an_f, or_t, or_f]); exact J9)
  refine x_if (a' := 1952) (pc' := 1948) (z := decide ((xs 2) = 0)) rfl rfl rfl rfl (fun q3 => ?_) (fun q3 => ?_)
  · refine x_iconst (pc' := 1953) rfl rfl ?_
    ((try rw [q3] at J3); (try rw [q3]); (try simp only [cd_t, cd_f, nt_t, nt_f, an_t, an_f, or_t, or_f] at J3); (try simp only [cd_t, cd_f, nt_t, nt_f, an_t, an_f, or_t, or_f]); exact J3)
  · refine x_iconst (pc' := 1949) rfl rfl ?_
    refine x_goto (pc' := 1953) rfl rfl ?_
    ((try rw [q3] at J3); (try rw [q3]); (try simp only [cd_t, cd_f, nt_t, nt_f, an_t, an_f, or_t, or_f] at J3); (try simp only [cd_t, cd_f, nt_t, nt_f, an_t, an_f, or_t, or_f]); exact J3)
set_option maxHeartbeats 4000000 in
set_option maxRecDepth 10000 in
theorem v_24_A_i {t : sT} {xs : Nat → Int32}
    (e : t = T16 7 xs)
    (hk : ((xs 0) &&& 63) = 24)
    (e0 : (xs 1) < 0) :
    X 297 23 [.inr (.inr (29, (some 0))), .inr (.inr (11, (some 0))), .inr (.inr (12, (some 0))), .inr (.inr (23, (some 0))), .inl 0, sJk, sJk] [] t Qp := by
  refine x_iload (pc' := 25) rfl rfl rfl ?_
  refine x_aload_n (pc' := 26) rfl rfl rfl rfl rfl ?_
  refine x_alen (pc' := 27) (N := 7) rfl rfl rfl (z_N_29_0 e) (?_ : X _ _ _ (.inl 7 :: _) _ _)
  refine x_bipush (pc' := 29) rfl rfl ?_
  refine x_isub (pc' := 30) (z := 0) rfl rfl (by decide) ?_
  refine x_icmp (a' := 2944) (pc' := 33) (z := false) rfl rfl rfl (by decide) (fun h => by cases h) (fun _ => ?_)
  refine x_aload_n (pc' := 34) rfl rfl rfl rfl rfl ?_
  refine x_iload (pc' := 36) rfl rfl rfl ?_
  refine x_iald (pc' := 37) (N := 7) (x := (xs 0)) rfl rfl rfl (z_N_29_0 e) (io_in (p := 0) (N := 7) (by decide) (by decide)) (Eq.trans (congrArg (sA t 29 0) (nn_io (p := 0) (by decide))) (z_A_29_0_0 e)) ?_
  refine x_bipush (pc' := 39) rfl rfl ?_
  refine x_iand (pc' := 40) (z := ((xs 0) &&& 63)) rfl rfl rfl ?_
  refine x_switch (pc' := 1932) rfl (by rw [hk]; decide) ?_
  refine x_aload_n (pc' := 1933) rfl rfl rfl rfl rfl ?_
  refine x_aload_n (pc' := 1934) rfl rfl rfl rfl rfl ?_
  refine x_iload (pc' := 1936) rfl rfl rfl ?_
  refine x_iconst (pc' := 1937) rfl rfl ?_
  refine x_iadd (pc' := 1938) (z := 1) rfl rfl (by decide) ?_
  refine x_iald (pc' := 1939) (N := 7) (x := (xs 1)) rfl rfl rfl (z_N_29_0 e) (io_in (p := 1) (N := 7) (by decide) (by decide)) (Eq.trans (congrArg (sA t 29 0) (nn_io (p := 1) (by decide))) (z_A_29_0_1 e)) ?_
  refine x_aload_n (pc' := 1940) rfl rfl rfl rfl rfl ?_
  refine x_iload (pc' := 1942) rfl rfl rfl ?_
  refine x_iconst (pc' := 1943) rfl rfl ?_
  refine x_iadd (pc' := 1944) (z := 2) rfl rfl (by decide) ?_
  refine x_iald (pc' := 1945) (N := 7) (x := (xs 2)) rfl rfl rfl (z_N_29_0 e) (io_in (p := 2) (N := 7) (by decide) (by decide)) (Eq.trans (congrArg (sA t 29 0) (nn_io (p := 2) (by decide))) (z_A_29_0_2 e)) ?_
  have J3 : X 297 1953 [.inr (.inr (29, (some 0))), .inr (.inr (11, (some 0))), .inr (.inr (12, (some 0))), .inr (.inr (23, (some 0))), .inl 0, sJk, sJk] [.inl (bz (!(decide ((xs 2) = 0)))), .inl (xs 1), .inr (.inr (11, (some 0)))] t Qp := by
    refine x_aload_n (pc' := 1954) rfl rfl rfl rfl rfl ?_
    refine x_cs (ls0 := [_, _, _, _, sJk]) (rest := []) rfl rfl rfl rfl ?_
    refine x_aload_n (pc' := 1) rfl rfl rfl rfl rfl ?_
    refine x_iconst (pc' := 2) rfl rfl ?_
    refine x_aload_n (pc' := 3) rfl rfl rfl rfl rfl ?_
    refine x_iload_n (pc' := 4) rfl rfl rfl ?_
    refine x_iload_n (pc' := 5) rfl rfl rfl ?_
    refine x_cv (ls0 := [_, _, _]) (rest := [_, _]) rfl rfl rfl rfl rfl ?_
    refine x_aload_n (pc' := 1) rfl rfl rfl rfl rfl ?_
    refine x_gR (pc' := 4) (r := (some 0)) rfl rfl rfl (z_R_705_0 e) ?_
    refine x_aload_n (pc' := 5) rfl rfl rfl rfl rfl ?_
    refine x_iload_n (pc' := 6) rfl rfl rfl ?_
    refine x_cv (ls0 := [_, _]) (rest := [_]) rfl rfl rfl rfl rfl ?_
    refine x_iload_n (pc' := 1) rfl rfl rfl ?_
    refine x_if (a' := 16) (pc' := 4) (z := decide ((xs 1) < 0)) rfl rfl rfl rfl (fun _ => ?_) (fun h => absurd e0 (of_decide_eq_false h))
    refine x_throw rfl rfl ?_
    refine sK_n (by decide +kernel) rfl ?_
    refine sK_h (h := 13) (by decide +kernel) rfl ?_
    refine x_catch (pc' := 15) (ls' := [_, _, _, _, _]) rfl rfl rfl rfl ?_
    refine x_iconst (pc' := 16) rfl rfl ?_
    refine x_reti rfl rfl ?_
    refine sK_i (pc' := 1957) rfl ?_
    refine x_istore (pc' := 1959) (ls' := [_, _, _, _, _, _, _]) rfl rfl rfl rfl ?_
    refine x_aload_n (pc' := 1960) rfl rfl rfl rfl rfl ?_
    refine x_aload_n (pc' := 1961) rfl rfl rfl rfl rfl ?_
    refine x_iload (pc' := 1963) rfl rfl rfl ?_
    refine x_iconst (pc' := 1964) rfl rfl ?_
    refine x_iadd (pc' := 1965) (z := 1) rfl rfl (by decide) ?_
    refine x_iald (pc' := 1966) (N := 7) (x := (xs 1)) rfl rfl rfl (Eq.trans rdNthr (z_N_29_0 e)) (io_in (p := 1) (N := 7) (by decide) (by decide)) (Eq.trans (congrArg (sA (sThr t) 29 0) (nn_io (p := 1) (by decide))) (Eq.trans rdAthr (z_A_29_0_1 e))) ?_
    refine x_aload_n (pc' := 1967) rfl rfl rfl rfl rfl ?_
    refine x_iload (pc' := 1969) rfl rfl rfl ?_
    refine x_iconst (pc' := 1970) rfl rfl ?_
    refine x_iadd (pc' := 1971) (z := 2) rfl rfl (by decide) ?_
    refine x_iald (pc' := 1972) (N := 7) (x := (xs 2)) rfl rfl rfl (Eq.trans rdNthr (z_N_29_0 e)) (io_in (p := 2) (N := 7) (by decide) (by decide)) (Eq.trans (congrArg (sA (sThr t) 29 0) (nn_io (p := 2) (by decide))) (Eq.trans rdAthr (z_A_29_0_2 e))) ?_
    have J6 : X 297 1980 [.inr (.inr (29, (some 0))), .inr (.inr (11, (some 0))), .inr (.inr (12, (some 0))), .inr (.inr (23, (some 0))), .inl 0, .inl 1, sJk] [.inl (bz (!(decide ((xs 2) = 0)))), .inl (xs 1), .inr (.inr (12, (some 0)))] (sThr t) Qp := by
      refine x_cv (ls0 := [_, _, _]) (rest := []) rfl rfl rfl rfl rfl ?_
      refine x_aload_n (pc' := 1) rfl rfl rfl rfl rfl ?_
      refine x_iload_n (pc' := 2) rfl rfl rfl ?_
      refine x_cs (ls0 := [_]) (rest := [_]) rfl rfl rfl rfl ?_
      refine x_iload_n (pc' := 1) rfl rfl rfl ?_
      refine x_iconst (pc' := 2) rfl rfl ?_
      refine x_iconst (pc' := 3) rfl rfl ?_
      refine x_cs (ls0 := [_, _, _]) (rest := []) rfl rfl rfl rfl ?_
      refine x_iload_n (pc' := 1) rfl rfl rfl ?_
      refine x_iload_n (pc' := 2) rfl rfl rfl ?_
      refine x_icmp (a' := 14) (pc' := 5) (z := decide ((xs 1) < 0)) rfl rfl rfl rfl (fun _ => ?_) (fun h => absurd e0 (of_decide_eq_false h))
      refine x_iconst (pc' := 15) rfl rfl ?_
      refine x_retz (z := false) rfl rfl ?_
      refine sK_i (pc' := 6) rfl ?_
      refine x_retz (z := false) rfl rfl ?_
      refine sK_i (pc' := 5) rfl ?_
      refine x_if (a' := 12) (pc' := 8) (z := true) rfl rfl rfl (by decide) (fun _ => ?_) (fun h => by cases h)
      refine x_iconst (pc' := 13) rfl rfl ?_
      refine x_cv (ls0 := [_, _]) (rest := []) rfl rfl rfl rfl rfl ?_
      refine x_aload_n (pc' := 1) rfl rfl rfl rfl rfl ?_
      refine x_iload_n (pc' := 2) rfl rfl rfl ?_
      refine x_pI (pc' := 5) rfl rfl rfl ?_
      refine x_iload_n (pc' := 6) rfl rfl rfl ?_
      refine x_if (a' := 13) (pc' := 9) (z := true) rfl rfl rfl (by decide) (fun _ => ?_) (fun h => by cases h)
      refine x_iconst (pc' := 14) rfl rfl ?_
      refine x_retz (z := false) rfl rfl ?_
      refine sK_i (pc' := 16) rfl ?_
      refine x_if (a' := 28) (pc' := 19) (z := true) rfl rfl rfl (by decide) (fun _ => ?_) (fun h => by cases h)
      refine x_iconst (pc' := 29) rfl rfl ?_
      refine x_reti rfl rfl ?_
      refine sK_i (pc' := 1983) rfl ?_
      refine x_istore (pc' := 1985) (ls' := [_, _, _, _, _, _, _]) rfl rfl rfl rfl ?_
      refine x_aload_n (pc' := 1986) rfl rfl rfl rfl rfl ?_
      refine x_cv (ls0 := [_]) (rest := []) rfl rfl rfl rfl rfl ?_
      refine x_aload_n (pc' := 1) rfl rfl rfl rfl rfl ?_
      refine x_gI (pc' := 4) (x := 1) rfl rfl rfl sI_s ?_
      refine x_reti rfl rfl ?_
      refine sK_i (pc' := 1989) rfl ?_
      refine x_iload (pc' := 1991) rfl rfl rfl ?_
      refine x_icmp (a' := 1996) (pc' := 1994) (z := true) rfl rfl rfl (by decide) (fun _ => ?_) (fun h => by cases h)
      refine x_iload (pc' := 1998) rfl rfl rfl ?_
      refine x_if (a' := 2013) (pc' := 2001) (z := true) rfl rfl rfl (by decide) (fun _ => ?_) (fun h => by cases h)
      refine x_goto (pc' := 2938) rfl rfl ?_
      refine x_iinc (pc' := 2941) (y := 7) (ls' := [_, _, _, _, _, _, _]) rfl rfl rfl rfl rfl ?_
      refine x_goto (pc' := 23) rfl rfl ?_
      refine x_iload (pc' := 25) rfl rfl rfl ?_
      refine x_aload_n (pc' := 26) rfl rfl rfl rfl rfl ?_
      refine x_alen (pc' := 27) (N := 7) rfl rfl rfl (Eq.trans rdNI (Eq.trans rdNthr (z_N_29_0 e))) (?_ : X _ _ _ (.inl 7 :: _) _ _)
      refine x_bipush (pc' := 29) rfl rfl ?_
      refine x_isub (pc' := 30) (z := 0) rfl rfl (by decide) ?_
      refine x_icmp (a' := 2944) (pc' := 33) (z := true) rfl rfl rfl (by decide) (fun _ => ?_) (fun h => by cases h)
      refine x_iconst (pc' := 2945) rfl rfl ?_
      refine x_retz (z := true) rfl rfl ?_
      exact Qp_ok e (p := 1) (q := 6) rfl rfl rfl rfl
    refine x_if (a' := 1979) (pc' := 1975) (z := decide ((xs 2) = 0)) rfl rfl rfl rfl (fun q6 => ?_) (fun q6 => ?_)
    · refine x_iconst (pc' := 1980) rfl rfl ?_
      ((try rw [q6] at J6); (try rw [q6]); (try simp only [cd_t, cd_f, nt_t, nt_f, an_t, an_f, or_t, or_f] at J6); (try simp only [cd_t, cd_f, nt_t, nt_f, an_t, an_f, or_t, or_f]); exact J6)
    · refine x_iconst (pc' := 1976) rfl rfl ?_
      refine x_goto (pc' := 1980) rfl rfl ?_
      ((try rw [q6] at J6); (try rw [q6]); (try simp only [cd_t, cd_f, nt_t, nt_f, an_t, an_f, or_t, or_f] at J6); (try simp only [cd_t, cd_f, nt_t, nt_f, an_t, an_f, or_t, or_f]); exact J6)
  refine x_if (a' := 1952) (pc' := 1948) (z := decide ((xs 2) = 0)) rfl rfl rfl rfl (fun q3 => ?_) (fun q3 => ?_)
  · refine x_iconst (pc' := 1953) rfl rfl ?_
    ((try rw [q3] at J3); (try rw [q3]); (try simp only [cd_t, cd_f, nt_t, nt_f, an_t, an_f, or_t, or_f] at J3); (try simp only [cd_t, cd_f, nt_t, nt_f, an_t, an_f, or_t, or_f]); exact J3)
  · refine x_iconst (pc' := 1949) rfl rfl ?_
    refine x_goto (pc' := 1953) rfl rfl ?_
    ((try rw [q3] at J3); (try rw [q3]); (try simp only [cd_t, cd_f, nt_t, nt_f, an_t, an_f, or_t, or_f] at J3); (try simp only [cd_t, cd_f, nt_t, nt_f, an_t, an_f, or_t, or_f]); exact J3)
set_option maxHeartbeats 4000000 in
set_option maxRecDepth 10000 in
theorem v_24_B_i {t : sT} {xs : Nat → Int32}
    (e : t = T16 7 xs)
    (hk : ((xs 0) &&& 63) = 24)
    (e0 : ¬ (xs 1) < 0)
    (f0 : ¬ (xs 1) < 5) :
    X 297 23 [.inr (.inr (29, (some 0))), .inr (.inr (11, (some 0))), .inr (.inr (12, (some 0))), .inr (.inr (23, (some 0))), .inl 0, sJk, sJk] [] t Qp := by
  refine x_iload (pc' := 25) rfl rfl rfl ?_
  refine x_aload_n (pc' := 26) rfl rfl rfl rfl rfl ?_
  refine x_alen (pc' := 27) (N := 7) rfl rfl rfl (z_N_29_0 e) (?_ : X _ _ _ (.inl 7 :: _) _ _)
  refine x_bipush (pc' := 29) rfl rfl ?_
  refine x_isub (pc' := 30) (z := 0) rfl rfl (by decide) ?_
  refine x_icmp (a' := 2944) (pc' := 33) (z := false) rfl rfl rfl (by decide) (fun h => by cases h) (fun _ => ?_)
  refine x_aload_n (pc' := 34) rfl rfl rfl rfl rfl ?_
  refine x_iload (pc' := 36) rfl rfl rfl ?_
  refine x_iald (pc' := 37) (N := 7) (x := (xs 0)) rfl rfl rfl (z_N_29_0 e) (io_in (p := 0) (N := 7) (by decide) (by decide)) (Eq.trans (congrArg (sA t 29 0) (nn_io (p := 0) (by decide))) (z_A_29_0_0 e)) ?_
  refine x_bipush (pc' := 39) rfl rfl ?_
  refine x_iand (pc' := 40) (z := ((xs 0) &&& 63)) rfl rfl rfl ?_
  refine x_switch (pc' := 1932) rfl (by rw [hk]; decide) ?_
  refine x_aload_n (pc' := 1933) rfl rfl rfl rfl rfl ?_
  refine x_aload_n (pc' := 1934) rfl rfl rfl rfl rfl ?_
  refine x_iload (pc' := 1936) rfl rfl rfl ?_
  refine x_iconst (pc' := 1937) rfl rfl ?_
  refine x_iadd (pc' := 1938) (z := 1) rfl rfl (by decide) ?_
  refine x_iald (pc' := 1939) (N := 7) (x := (xs 1)) rfl rfl rfl (z_N_29_0 e) (io_in (p := 1) (N := 7) (by decide) (by decide)) (Eq.trans (congrArg (sA t 29 0) (nn_io (p := 1) (by decide))) (z_A_29_0_1 e)) ?_
  refine x_aload_n (pc' := 1940) rfl rfl rfl rfl rfl ?_
  refine x_iload (pc' := 1942) rfl rfl rfl ?_
  refine x_iconst (pc' := 1943) rfl rfl ?_
  refine x_iadd (pc' := 1944) (z := 2) rfl rfl (by decide) ?_
  refine x_iald (pc' := 1945) (N := 7) (x := (xs 2)) rfl rfl rfl (z_N_29_0 e) (io_in (p := 2) (N := 7) (by decide) (by decide)) (Eq.trans (congrArg (sA t 29 0) (nn_io (p := 2) (by decide))) (z_A_29_0_2 e)) ?_
  have J3 : X 297 1953 [.inr (.inr (29, (some 0))), .inr (.inr (11, (some 0))), .inr (.inr (12, (some 0))), .inr (.inr (23, (some 0))), .inl 0, sJk, sJk] [.inl (bz (!(decide ((xs 2) = 0)))), .inl (xs 1), .inr (.inr (11, (some 0)))] t Qp := by
    refine x_aload_n (pc' := 1954) rfl rfl rfl rfl rfl ?_
    refine x_cs (ls0 := [_, _, _, _, sJk]) (rest := []) rfl rfl rfl rfl ?_
    refine x_aload_n (pc' := 1) rfl rfl rfl rfl rfl ?_
    refine x_iconst (pc' := 2) rfl rfl ?_
    refine x_aload_n (pc' := 3) rfl rfl rfl rfl rfl ?_
    refine x_iload_n (pc' := 4) rfl rfl rfl ?_
    refine x_iload_n (pc' := 5) rfl rfl rfl ?_
    refine x_cv (ls0 := [_, _, _]) (rest := [_, _]) rfl rfl rfl rfl rfl ?_
    refine x_aload_n (pc' := 1) rfl rfl rfl rfl rfl ?_
    refine x_gR (pc' := 4) (r := (some 0)) rfl rfl rfl (z_R_705_0 e) ?_
    refine x_aload_n (pc' := 5) rfl rfl rfl rfl rfl ?_
    refine x_iload_n (pc' := 6) rfl rfl rfl ?_
    refine x_cv (ls0 := [_, _]) (rest := [_]) rfl rfl rfl rfl rfl ?_
    refine x_iload_n (pc' := 1) rfl rfl rfl ?_
    refine x_if (a' := 16) (pc' := 4) (z := decide ((xs 1) < 0)) rfl rfl rfl rfl (fun h => absurd (of_decide_eq_true h) e0) (fun _ => ?_)
    refine x_iload_n (pc' := 5) rfl rfl rfl ?_
    refine x_aload_n (pc' := 6) rfl rfl rfl rfl rfl ?_
    refine x_gR (pc' := 9) (r := (some 0)) rfl rfl rfl (z_R_705_0 e) ?_
    refine x_gR (pc' := 12) (r := (some 0)) rfl rfl rfl (z_R_256_0 e) ?_
    refine x_alen (pc' := 13) (N := 5) rfl rfl rfl (z_N_24_0 e) (?_ : X _ _ _ (.inl 5 :: _) _ _)
    refine x_icmp (a' := 27) (pc' := 16) (z := decide ((xs 1) < 5)) rfl rfl rfl rfl (fun h => absurd (of_decide_eq_true h) f0) (fun _ => ?_)
    refine x_throw rfl rfl ?_
    refine sK_n (by decide +kernel) rfl ?_
    refine sK_h (h := 13) (by decide +kernel) rfl ?_
    refine x_catch (pc' := 15) (ls' := [_, _, _, _, _]) rfl rfl rfl rfl ?_
    refine x_iconst (pc' := 16) rfl rfl ?_
    refine x_reti rfl rfl ?_
    refine sK_i (pc' := 1957) rfl ?_
    refine x_istore (pc' := 1959) (ls' := [_, _, _, _, _, _, _]) rfl rfl rfl rfl ?_
    refine x_aload_n (pc' := 1960) rfl rfl rfl rfl rfl ?_
    refine x_aload_n (pc' := 1961) rfl rfl rfl rfl rfl ?_
    refine x_iload (pc' := 1963) rfl rfl rfl ?_
    refine x_iconst (pc' := 1964) rfl rfl ?_
    refine x_iadd (pc' := 1965) (z := 1) rfl rfl (by decide) ?_
    refine x_iald (pc' := 1966) (N := 7) (x := (xs 1)) rfl rfl rfl (Eq.trans rdNthr (z_N_29_0 e)) (io_in (p := 1) (N := 7) (by decide) (by decide)) (Eq.trans (congrArg (sA (sThr t) 29 0) (nn_io (p := 1) (by decide))) (Eq.trans rdAthr (z_A_29_0_1 e))) ?_
    refine x_aload_n (pc' := 1967) rfl rfl rfl rfl rfl ?_
    refine x_iload (pc' := 1969) rfl rfl rfl ?_
    refine x_iconst (pc' := 1970) rfl rfl ?_
    refine x_iadd (pc' := 1971) (z := 2) rfl rfl (by decide) ?_
    refine x_iald (pc' := 1972) (N := 7) (x := (xs 2)) rfl rfl rfl (Eq.trans rdNthr (z_N_29_0 e)) (io_in (p := 2) (N := 7) (by decide) (by decide)) (Eq.trans (congrArg (sA (sThr t) 29 0) (nn_io (p := 2) (by decide))) (Eq.trans rdAthr (z_A_29_0_2 e))) ?_
    have J7 : X 297 1980 [.inr (.inr (29, (some 0))), .inr (.inr (11, (some 0))), .inr (.inr (12, (some 0))), .inr (.inr (23, (some 0))), .inl 0, .inl 1, sJk] [.inl (bz (!(decide ((xs 2) = 0)))), .inl (xs 1), .inr (.inr (12, (some 0)))] (sThr t) Qp := by
      refine x_cv (ls0 := [_, _, _]) (rest := []) rfl rfl rfl rfl rfl ?_
      refine x_aload_n (pc' := 1) rfl rfl rfl rfl rfl ?_
      refine x_iload_n (pc' := 2) rfl rfl rfl ?_
      refine x_cs (ls0 := [_]) (rest := [_]) rfl rfl rfl rfl ?_
      refine x_iload_n (pc' := 1) rfl rfl rfl ?_
      refine x_iconst (pc' := 2) rfl rfl ?_
      refine x_iconst (pc' := 3) rfl rfl ?_
      refine x_cs (ls0 := [_, _, _]) (rest := []) rfl rfl rfl rfl ?_
      refine x_iload_n (pc' := 1) rfl rfl rfl ?_
      refine x_iload_n (pc' := 2) rfl rfl rfl ?_
      refine x_icmp (a' := 14) (pc' := 5) (z := decide ((xs 1) < 0)) rfl rfl rfl rfl (fun h => absurd (of_decide_eq_true h) e0) (fun _ => ?_)
      refine x_iload_n (pc' := 6) rfl rfl rfl ?_
      refine x_iload_n (pc' := 7) rfl rfl rfl ?_
      refine x_icmp (a' := 14) (pc' := 10) (z := decide (4 < (xs 1))) rfl rfl rfl rfl (fun _ => ?_) (fun h => absurd (lt_of5 f0) (of_decide_eq_false h))
      refine x_iconst (pc' := 15) rfl rfl ?_
      refine x_retz (z := false) rfl rfl ?_
      refine sK_i (pc' := 6) rfl ?_
      refine x_retz (z := false) rfl rfl ?_
      refine sK_i (pc' := 5) rfl ?_
      refine x_if (a' := 12) (pc' := 8) (z := true) rfl rfl rfl (by decide) (fun _ => ?_) (fun h => by cases h)
      refine x_iconst (pc' := 13) rfl rfl ?_
      refine x_cv (ls0 := [_, _]) (rest := []) rfl rfl rfl rfl rfl ?_
      refine x_aload_n (pc' := 1) rfl rfl rfl rfl rfl ?_
      refine x_iload_n (pc' := 2) rfl rfl rfl ?_
      refine x_pI (pc' := 5) rfl rfl rfl ?_
      refine x_iload_n (pc' := 6) rfl rfl rfl ?_
      refine x_if (a' := 13) (pc' := 9) (z := true) rfl rfl rfl (by decide) (fun _ => ?_) (fun h => by cases h)
      refine x_iconst (pc' := 14) rfl rfl ?_
      refine x_retz (z := false) rfl rfl ?_
      refine sK_i (pc' := 16) rfl ?_
      refine x_if (a' := 28) (pc' := 19) (z := true) rfl rfl rfl (by decide) (fun _ => ?_) (fun h => by cases h)
      refine x_iconst (pc' := 29) rfl rfl ?_
      refine x_reti rfl rfl ?_
      refine sK_i (pc' := 1983) rfl ?_
      refine x_istore (pc' := 1985) (ls' := [_, _, _, _, _, _, _]) rfl rfl rfl rfl ?_
      refine x_aload_n (pc' := 1986) rfl rfl rfl rfl rfl ?_
      refine x_cv (ls0 := [_]) (rest := []) rfl rfl rfl rfl rfl ?_
      refine x_aload_n (pc' := 1) rfl rfl rfl rfl rfl ?_
      refine x_gI (pc' := 4) (x := 1) rfl rfl rfl sI_s ?_
      refine x_reti rfl rfl ?_
      refine sK_i (pc' := 1989) rfl ?_
      refine x_iload (pc' := 1991) rfl rfl rfl ?_
      refine x_icmp (a' := 1996) (pc' := 1994) (z := true) rfl rfl rfl (by decide) (fun _ => ?_) (fun h => by cases h)
      refine x_iload (pc' := 1998) rfl rfl rfl ?_
      refine x_if (a' := 2013) (pc' := 2001) (z := true) rfl rfl rfl (by decide) (fun _ => ?_) (fun h => by cases h)
      refine x_goto (pc' := 2938) rfl rfl ?_
      refine x_iinc (pc' := 2941) (y := 7) (ls' := [_, _, _, _, _, _, _]) rfl rfl rfl rfl rfl ?_
      refine x_goto (pc' := 23) rfl rfl ?_
      refine x_iload (pc' := 25) rfl rfl rfl ?_
      refine x_aload_n (pc' := 26) rfl rfl rfl rfl rfl ?_
      refine x_alen (pc' := 27) (N := 7) rfl rfl rfl (Eq.trans rdNI (Eq.trans rdNthr (z_N_29_0 e))) (?_ : X _ _ _ (.inl 7 :: _) _ _)
      refine x_bipush (pc' := 29) rfl rfl ?_
      refine x_isub (pc' := 30) (z := 0) rfl rfl (by decide) ?_
      refine x_icmp (a' := 2944) (pc' := 33) (z := true) rfl rfl rfl (by decide) (fun _ => ?_) (fun h => by cases h)
      refine x_iconst (pc' := 2945) rfl rfl ?_
      refine x_retz (z := true) rfl rfl ?_
      exact Qp_ok e (p := 1) (q := 6) rfl rfl rfl rfl
    refine x_if (a' := 1979) (pc' := 1975) (z := decide ((xs 2) = 0)) rfl rfl rfl rfl (fun q7 => ?_) (fun q7 => ?_)
    · refine x_iconst (pc' := 1980) rfl rfl ?_
      ((try rw [q7] at J7); (try rw [q7]); (try simp only [cd_t, cd_f, nt_t, nt_f, an_t, an_f, or_t, or_f] at J7); (try simp only [cd_t, cd_f, nt_t, nt_f, an_t, an_f, or_t, or_f]); exact J7)
    · refine x_iconst (pc' := 1976) rfl rfl ?_
      refine x_goto (pc' := 1980) rfl rfl ?_
      ((try rw [q7] at J7); (try rw [q7]); (try simp only [cd_t, cd_f, nt_t, nt_f, an_t, an_f, or_t, or_f] at J7); (try simp only [cd_t, cd_f, nt_t, nt_f, an_t, an_f, or_t, or_f]); exact J7)
  refine x_if (a' := 1952) (pc' := 1948) (z := decide ((xs 2) = 0)) rfl rfl rfl rfl (fun q3 => ?_) (fun q3 => ?_)
  · refine x_iconst (pc' := 1953) rfl rfl ?_
    ((try rw [q3] at J3); (try rw [q3]); (try simp only [cd_t, cd_f, nt_t, nt_f, an_t, an_f, or_t, or_f] at J3); (try simp only [cd_t, cd_f, nt_t, nt_f, an_t, an_f, or_t, or_f]); exact J3)
  · refine x_iconst (pc' := 1949) rfl rfl ?_
    refine x_goto (pc' := 1953) rfl rfl ?_
    ((try rw [q3] at J3); (try rw [q3]); (try simp only [cd_t, cd_f, nt_t, nt_f, an_t, an_f, or_t, or_f] at J3); (try simp only [cd_t, cd_f, nt_t, nt_f, an_t, an_f, or_t, or_f]); exact J3)
set_option maxHeartbeats 4000000 in
set_option maxRecDepth 10000 in
theorem v_27_0 {t : sT} {xs : Nat → Int32}
    (e : t = T16 7 xs)
    (hk : ((xs 0) &&& 63) = 27)
    (e0 : xs 1 = 0) :
    X 297 23 [.inr (.inr (29, (some 0))), .inr (.inr (11, (some 0))), .inr (.inr (12, (some 0))), .inr (.inr (23, (some 0))), .inl 0, sJk, sJk] [] t Qp := by
  refine x_iload (pc' := 25) rfl rfl rfl ?_
  refine x_aload_n (pc' := 26) rfl rfl rfl rfl rfl ?_
  refine x_alen (pc' := 27) (N := 7) rfl rfl rfl (z_N_29_0 e) (?_ : X _ _ _ (.inl 7 :: _) _ _)
  refine x_bipush (pc' := 29) rfl rfl ?_
  refine x_isub (pc' := 30) (z := 0) rfl rfl (by decide) ?_
  refine x_icmp (a' := 2944) (pc' := 33) (z := false) rfl rfl rfl (by decide) (fun h => by cases h) (fun _ => ?_)
  refine x_aload_n (pc' := 34) rfl rfl rfl rfl rfl ?_
  refine x_iload (pc' := 36) rfl rfl rfl ?_
  refine x_iald (pc' := 37) (N := 7) (x := (xs 0)) rfl rfl rfl (z_N_29_0 e) (io_in (p := 0) (N := 7) (by decide) (by decide)) (Eq.trans (congrArg (sA t 29 0) (nn_io (p := 0) (by decide))) (z_A_29_0_0 e)) ?_
  refine x_bipush (pc' := 39) rfl rfl ?_
  refine x_iand (pc' := 40) (z := ((xs 0) &&& 63)) rfl rfl rfl ?_
  refine x_switch (pc' := 2184) rfl (by rw [hk]; decide) ?_
  refine x_aload_n (pc' := 2185) rfl rfl rfl rfl rfl ?_
  refine x_aload_n (pc' := 2186) rfl rfl rfl rfl rfl ?_
  refine x_iload (pc' := 2188) rfl rfl rfl ?_
  refine x_iconst (pc' := 2189) rfl rfl ?_
  refine x_iadd (pc' := 2190) (z := 1) rfl rfl (by decide) ?_
  refine x_iald (pc' := 2191) (N := 7) (x := 0) rfl rfl rfl (z_N_29_0 e) (io_in (p := 1) (N := 7) (by decide) (by decide)) (Eq.trans (congrArg (sA t 29 0) (nn_io (p := 1) (by decide))) (Eq.trans (z_A_29_0_1 e) e0)) ?_
  refine x_aload_n (pc' := 2192) rfl rfl rfl rfl rfl ?_
  refine x_cs (ls0 := [_, _, _, sJk]) (rest := []) rfl rfl rfl rfl ?_
  refine x_aload_n (pc' := 1) rfl rfl rfl rfl rfl ?_
  refine x_iconst (pc' := 2) rfl rfl ?_
  refine x_aload_n (pc' := 3) rfl rfl rfl rfl rfl ?_
  refine x_iload_n (pc' := 4) rfl rfl rfl ?_
  refine x_cv (ls0 := [_, _]) (rest := [_, _]) rfl rfl rfl rfl rfl ?_
  refine x_aload_n (pc' := 1) rfl rfl rfl rfl rfl ?_
  refine x_gR (pc' := 4) (r := (some 0)) rfl rfl rfl (z_R_708_0 e) ?_
  refine x_aload_n (pc' := 5) rfl rfl rfl rfl rfl ?_
  refine x_iload_n (pc' := 6) rfl rfl rfl ?_
  refine x_cv (ls0 := [_, _]) (rest := [_]) rfl rfl rfl rfl rfl ?_
  refine x_iload_n (pc' := 1) rfl rfl rfl ?_
  refine x_if (a' := 16) (pc' := 4) (z := false) rfl rfl rfl (by decide) (fun h => by cases h) (fun _ => ?_)
  refine x_iload_n (pc' := 5) rfl rfl rfl ?_
  refine x_aload_n (pc' := 6) rfl rfl rfl rfl rfl ?_
  refine x_gR (pc' := 9) (r := (some 0)) rfl rfl rfl (z_R_705_0 e) ?_
  refine x_gR (pc' := 12) (r := (some 0)) rfl rfl rfl (z_R_256_0 e) ?_
  refine x_alen (pc' := 13) (N := 5) rfl rfl rfl (z_N_24_0 e) (?_ : X _ _ _ (.inl 5 :: _) _ _)
  refine x_icmp (a' := 27) (pc' := 16) (z := true) rfl rfl rfl (by decide) (fun _ => ?_) (fun h => by cases h)
  refine x_aload_n (pc' := 28) rfl rfl rfl rfl rfl ?_
  refine x_gR (pc' := 31) (r := (some 0)) rfl rfl rfl (z_R_705_0 e) ?_
  refine x_gR (pc' := 34) (r := (some 0)) rfl rfl rfl (z_R_256_0 e) ?_
  refine x_iload_n (pc' := 35) rfl rfl rfl ?_
  refine x_aald (pc' := 36) (N := 5) (k' := 1) (r := (some 0)) rfl rfl rfl (z_N_24_0 e) (io_in (p := 0) (N := 5) (by decide) (by decide)) (Eq.trans (congrArg (sE t 24 0) (nn_io (p := 0) (by decide))) (z_E_24_0_0 e)) ?_
  refine x_reta rfl rfl ?_
  refine sK_i (pc' := 9) rfl ?_
  refine x_cv (ls0 := [_, _, sJk, sJk, sJk, sJk, sJk, sJk, sJk, sJk, sJk, sJk, sJk, sJk]) (rest := []) rfl rfl rfl rfl rfl ?_
  refine x_aload_n (pc' := 1) rfl rfl rfl rfl rfl ?_
  refine x_cv (ls0 := [_]) (rest := []) rfl rfl rfl rfl rfl ?_
  refine x_aload_n (pc' := 1) rfl rfl rfl rfl rfl ?_
  refine x_gR (pc' := 4) (r := none) rfl rfl rfl (z_R_66_0 e) ?_
  refine x_ifnull (a' := 11) (pc' := 7) rfl rfl rfl rfl (fun _ => ?_) (fun i h => by cases h)
  refine x_iconst (pc' := 12) rfl rfl ?_
  refine x_retz (z := false) rfl rfl ?_
  refine sK_i (pc' := 4) rfl ?_
  refine x_if (a' := 11) (pc' := 7) (z := true) rfl rfl rfl (by decide) (fun _ => ?_) (fun h => by cases h)
  refine x_aload_n (pc' := 12) rfl rfl rfl rfl rfl ?_
  refine x_gR (pc' := 15) (r := (some 0)) rfl rfl rfl (z_R_65_0 e) ?_
  refine x_gI (pc' := 18) (x := 100) rfl rfl rfl (z_I_129_0 e) ?_
  refine x_istore_n (pc' := 19) (ls' := [_, _, _, _, _, _, _, _, _, _, _, _, _, _]) rfl rfl rfl rfl ?_
  refine x_sipush (pc' := 22) rfl rfl ?_
  refine x_istore_n (pc' := 23) (ls' := [_, _, _, _, _, _, _, _, _, _, _, _, _, _]) rfl rfl rfl rfl ?_
  refine x_iconst (pc' := 24) rfl rfl ?_
  refine x_istore (pc' := 26) (ls' := [_, _, _, _, _, _, _, _, _, _, _, _, _, _]) rfl rfl rfl rfl ?_
  refine x_iconst (pc' := 27) rfl rfl ?_
  refine x_istore (pc' := 29) (ls' := [_, _, _, _, _, _, _, _, _, _, _, _, _, _]) rfl rfl rfl rfl ?_
  refine x_iconst (pc' := 30) rfl rfl ?_
  refine x_istore (pc' := 32) (ls' := [_, _, _, _, _, _, _, _, _, _, _, _, _, _]) rfl rfl rfl rfl ?_
  refine x_iload (pc' := 34) rfl rfl rfl ?_
  refine x_iconst (pc' := 35) rfl rfl ?_
  refine x_icmp (a' := 202) (pc' := 38) (z := false) rfl rfl rfl (by decide) (fun h => by cases h) (fun _ => ?_)
  refine x_aload_n (pc' := 39) rfl rfl rfl rfl rfl ?_
  refine x_iload (pc' := 41) rfl rfl rfl ?_
  refine x_if (a' := 48) (pc' := 44) (z := false) rfl rfl rfl (by decide) (fun h => by cases h) (fun _ => ?_)
  refine x_iconst (pc' := 45) rfl rfl ?_
  refine x_goto (pc' := 49) rfl rfl ?_
  refine x_cv (ls0 := [_, _]) (rest := []) rfl rfl rfl rfl rfl ?_
  refine x_iload_n (pc' := 1) rfl rfl rfl ?_
  refine x_if (a' := 11) (pc' := 4) (z := false) rfl rfl rfl (by decide) (fun h => by cases h) (fun _ => ?_)
  refine x_aload_n (pc' := 5) rfl rfl rfl rfl rfl ?_
  refine x_gR (pc' := 8) (r := none) rfl rfl rfl (z_R_69_0 e) ?_
  refine x_goto (pc' := 15) rfl rfl ?_
  refine x_reta rfl rfl ?_
  refine sK_i (pc' := 52) rfl ?_
  refine x_astore (pc' := 54) (ls' := [_, _, _, _, _, _, _, _, _, _, _, _, _, _]) rfl rfl rfl rfl rfl ?_
  refine x_aload (pc' := 56) rfl rfl rfl rfl rfl ?_
  refine x_ifnull (a' := 196) (pc' := 59) rfl rfl rfl rfl (fun _ => ?_) (fun i h => by cases h)
  refine x_iinc (pc' := 199) (y := 1) (ls' := [_, _, _, _, _, _, _, _, _, _, _, _, _, _]) rfl rfl rfl rfl rfl ?_
  refine x_goto (pc' := 32) rfl rfl ?_
  refine x_iload (pc' := 34) rfl rfl rfl ?_
  refine x_iconst (pc' := 35) rfl rfl ?_
  refine x_icmp (a' := 202) (pc' := 38) (z := false) rfl rfl rfl (by decide) (fun h => by cases h) (fun _ => ?_)
  refine x_aload_n (pc' := 39) rfl rfl rfl rfl rfl ?_
  refine x_iload (pc' := 41) rfl rfl rfl ?_
  refine x_if (a' := 48) (pc' := 44) (z := true) rfl rfl rfl (by decide) (fun _ => ?_) (fun h => by cases h)
  refine x_iconst (pc' := 49) rfl rfl ?_
  refine x_cv (ls0 := [_, _]) (rest := []) rfl rfl rfl rfl rfl ?_
  refine x_iload_n (pc' := 1) rfl rfl rfl ?_
  refine x_if (a' := 11) (pc' := 4) (z := true) rfl rfl rfl (by decide) (fun _ => ?_) (fun h => by cases h)
  refine x_aload_n (pc' := 12) rfl rfl rfl rfl rfl ?_
  refine x_gR (pc' := 15) (r := none) rfl rfl rfl (z_R_70_0 e) ?_
  refine x_reta rfl rfl ?_
  refine sK_i (pc' := 52) rfl ?_
  refine x_astore (pc' := 54) (ls' := [_, _, _, _, _, _, _, _, _, _, _, _, _, _]) rfl rfl rfl rfl rfl ?_
  refine x_aload (pc' := 56) rfl rfl rfl rfl rfl ?_
  refine x_ifnull (a' := 196) (pc' := 59) rfl rfl rfl rfl (fun _ => ?_) (fun i h => by cases h)
  refine x_iinc (pc' := 199) (y := 2) (ls' := [_, _, _, _, _, _, _, _, _, _, _, _, _, _]) rfl rfl rfl rfl rfl ?_
  refine x_goto (pc' := 32) rfl rfl ?_
  refine x_iload (pc' := 34) rfl rfl rfl ?_
  refine x_iconst (pc' := 35) rfl rfl ?_
  refine x_icmp (a' := 202) (pc' := 38) (z := true) rfl rfl rfl (by decide) (fun _ => ?_) (fun h => by cases h)
  refine x_iload_n (pc' := 203) rfl rfl rfl ?_
  refine x_reti rfl rfl ?_
  refine sK_i (pc' := 12) rfl ?_
  refine x_reti rfl rfl ?_
  refine sK_i (pc' := 7) rfl ?_
  refine x_i2l (pc' := 8) (z := (-10000 : Int64)) rfl rfl (by decide) ?_
  refine x_last (pc' := 9) (N := 1) (p := 0) rfl rfl (z_N_23_0 e) (io_in (p := 0) (N := 1) (by decide) (by decide)) (nn_io (p := 0) (by decide)) ?_
  refine x_goto (pc' := 15) rfl rfl ?_
  refine x_iconst (pc' := 16) rfl rfl ?_
  refine x_reti rfl rfl ?_
  refine sK_i (pc' := 2195) rfl ?_
  refine x_istore (pc' := 2197) (ls' := [_, _, _, _, _, _, _]) rfl rfl rfl rfl ?_
  refine x_aload_n (pc' := 2198) rfl rfl rfl rfl rfl ?_
  refine x_aload_n (pc' := 2199) rfl rfl rfl rfl rfl ?_
  refine x_iload (pc' := 2201) rfl rfl rfl ?_
  refine x_iconst (pc' := 2202) rfl rfl ?_
  refine x_iadd (pc' := 2203) (z := 1) rfl rfl (by decide) ?_
  refine x_iald (pc' := 2204) (N := 7) (x := 0) rfl rfl rfl (Eq.trans rdNL (z_N_29_0 e)) (io_in (p := 1) (N := 7) (by decide) (by decide)) (Eq.trans (congrArg (sA (sLw t 23 0 0 (-10000 : Int64)) 29 0) (nn_io (p := 1) (by decide))) (Eq.trans rdAL (Eq.trans (z_A_29_0_1 e) e0))) ?_
  refine x_cv (ls0 := [_, _]) (rest := []) rfl rfl rfl rfl rfl ?_
  refine x_aload_n (pc' := 1) rfl rfl rfl rfl rfl ?_
  refine x_iload_n (pc' := 2) rfl rfl rfl ?_
  refine x_cs (ls0 := [_]) (rest := [_]) rfl rfl rfl rfl ?_
  refine x_iload_n (pc' := 1) rfl rfl rfl ?_
  refine x_iconst (pc' := 2) rfl rfl ?_
  refine x_iconst (pc' := 3) rfl rfl ?_
  refine x_cs (ls0 := [_, _, _]) (rest := []) rfl rfl rfl rfl ?_
  refine x_iload_n (pc' := 1) rfl rfl rfl ?_
  refine x_iload_n (pc' := 2) rfl rfl rfl ?_
  refine x_icmp (a' := 14) (pc' := 5) (z := false) rfl rfl rfl (by decide) (fun h => by cases h) (fun _ => ?_)
  refine x_iload_n (pc' := 6) rfl rfl rfl ?_
  refine x_iload_n (pc' := 7) rfl rfl rfl ?_
  refine x_icmp (a' := 14) (pc' := 10) (z := false) rfl rfl rfl (by decide) (fun h => by cases h) (fun _ => ?_)
  refine x_iconst (pc' := 11) rfl rfl ?_
  refine x_goto (pc' := 15) rfl rfl ?_
  refine x_retz (z := true) rfl rfl ?_
  refine sK_i (pc' := 6) rfl ?_
  refine x_retz (z := true) rfl rfl ?_
  refine sK_i (pc' := 5) rfl ?_
  refine x_if (a' := 12) (pc' := 8) (z := false) rfl rfl rfl (by decide) (fun h => by cases h) (fun _ => ?_)
  refine x_iconst (pc' := 9) rfl rfl ?_
  refine x_goto (pc' := 13) rfl rfl ?_
  refine x_cv (ls0 := [_, _]) (rest := []) rfl rfl rfl rfl rfl ?_
  refine x_aload_n (pc' := 1) rfl rfl rfl rfl rfl ?_
  refine x_iload_n (pc' := 2) rfl rfl rfl ?_
  refine x_pI (pc' := 5) rfl rfl rfl ?_
  refine x_iload_n (pc' := 6) rfl rfl rfl ?_
  refine x_if (a' := 13) (pc' := 9) (z := false) rfl rfl rfl (by decide) (fun h => by cases h) (fun _ => ?_)
  refine x_iconst (pc' := 10) rfl rfl ?_
  refine x_goto (pc' := 14) rfl rfl ?_
  refine x_retz (z := true) rfl rfl ?_
  refine sK_i (pc' := 16) rfl ?_
  refine x_if (a' := 27) (pc' := 19) (z := false) rfl rfl rfl (by decide) (fun h => by cases h) (fun _ => ?_)
  refine x_aload_n (pc' := 20) rfl rfl rfl rfl rfl ?_
  refine x_iload_n (pc' := 21) rfl rfl rfl ?_
  refine x_cv (ls0 := [_, _, sJk, sJk, sJk, sJk, sJk, sJk, sJk, sJk, sJk, sJk, sJk, sJk]) (rest := []) rfl rfl rfl rfl rfl ?_
  refine x_sipush (pc' := 3) rfl rfl ?_
  refine x_istore_n (pc' := 4) (ls' := [_, _, _, _, _, _, _, _, _, _, _, _, _, _]) rfl rfl rfl rfl ?_
  refine x_iconst (pc' := 5) rfl rfl ?_
  refine x_istore_n (pc' := 6) (ls' := [_, _, _, _, _, _, _, _, _, _, _, _, _, _]) rfl rfl rfl rfl ?_
  refine x_iconst (pc' := 7) rfl rfl ?_
  refine x_istore (pc' := 9) (ls' := [_, _, _, _, _, _, _, _, _, _, _, _, _, _]) rfl rfl rfl rfl ?_
  refine x_iconst (pc' := 10) rfl rfl ?_
  refine x_istore (pc' := 12) (ls' := [_, _, _, _, _, _, _, _, _, _, _, _, _, _]) rfl rfl rfl rfl ?_
  refine x_iconst (pc' := 13) rfl rfl ?_
  refine x_istore (pc' := 15) (ls' := [_, _, _, _, _, _, _, _, _, _, _, _, _, _]) rfl rfl rfl rfl ?_
  refine x_iload (pc' := 17) rfl rfl rfl ?_
  refine x_aload_n (pc' := 18) rfl rfl rfl rfl rfl ?_
  refine x_gI (pc' := 21) (x := 0) rfl rfl rfl (Eq.trans (rdI_F rfl) (Eq.trans rdIL (z_I_786_0 e))) ?_
  refine x_icmp (a' := 263) (pc' := 24) (z := true) rfl rfl rfl (by decide) (fun _ => ?_) (fun h => by cases h)
  refine x_iload_n (pc' := 264) rfl rfl rfl ?_
  refine x_reti rfl rfl ?_
  refine sK_i (pc' := 24) rfl ?_
  refine x_goto (pc' := 28) rfl rfl ?_
  refine x_reti rfl rfl ?_
  refine sK_i (pc' := 2207) rfl ?_
  refine x_istore (pc' := 2209) (ls' := [_, _, _, _, _, _, _]) rfl rfl rfl rfl ?_
  refine x_aload_n (pc' := 2210) rfl rfl rfl rfl rfl ?_
  refine x_cv (ls0 := [_]) (rest := []) rfl rfl rfl rfl rfl ?_
  refine x_aload_n (pc' := 1) rfl rfl rfl rfl rfl ?_
  refine x_gI (pc' := 4) (x := 0) rfl rfl rfl sI_s ?_
  refine x_reti rfl rfl ?_
  refine sK_i (pc' := 2213) rfl ?_
  refine x_iload (pc' := 2215) rfl rfl rfl ?_
  refine x_icmp (a' := 2220) (pc' := 2218) (z := true) rfl rfl rfl (by decide) (fun _ => ?_) (fun h => by cases h)
  refine x_iload (pc' := 2222) rfl rfl rfl ?_
  refine x_if (a' := 2237) (pc' := 2225) (z := false) rfl rfl rfl (by decide) (fun h => by cases h) (fun _ => ?_)
  refine x_aload_n (pc' := 2226) rfl rfl rfl rfl rfl ?_
  refine x_iconst (pc' := 2227) rfl rfl ?_
  refine x_lald (pc' := 2228) (N := 1) (x := (-10000 : Int64)) rfl rfl (Eq.trans rdNI (Eq.trans rdNL (z_N_23_0 e))) (io_in (p := 0) (N := 1) (by decide) (by decide)) (Eq.trans (congrArg (sL (sIw (sLw t 23 0 0 (-10000 : Int64)) 768 0 0) 23 0) (nn_io (p := 0) (by decide))) (Eq.trans rdLI sL_s)) ?_
  refine x_iload (pc' := 2230) rfl rfl rfl ?_
  refine x_i2l (pc' := 2231) (z := (-10000 : Int64)) rfl rfl (by decide) ?_
  refine x_lcmp (pc' := 2232) (z := 0) rfl rfl (sLcmp_s _) ?_
  refine x_if (a' := 2237) (pc' := 2235) (z := true) rfl rfl rfl (by decide) (fun _ => ?_) (fun h => by cases h)
  refine x_goto (pc' := 2938) rfl rfl ?_
  refine x_iinc (pc' := 2941) (y := 7) (ls' := [_, _, _, _, _, _, _]) rfl rfl rfl rfl rfl ?_
  refine x_goto (pc' := 23) rfl rfl ?_
  refine x_iload (pc' := 25) rfl rfl rfl ?_
  refine x_aload_n (pc' := 26) rfl rfl rfl rfl rfl ?_
  refine x_alen (pc' := 27) (N := 7) rfl rfl rfl (Eq.trans rdNI (Eq.trans rdNL (z_N_29_0 e))) (?_ : X _ _ _ (.inl 7 :: _) _ _)
  refine x_bipush (pc' := 29) rfl rfl ?_
  refine x_isub (pc' := 30) (z := 0) rfl rfl (by decide) ?_
  refine x_icmp (a' := 2944) (pc' := 33) (z := true) rfl rfl rfl (by decide) (fun _ => ?_) (fun h => by cases h)
  refine x_iconst (pc' := 2945) rfl rfl ?_
  refine x_retz (z := true) rfl rfl ?_
  exact Qp_ok e (p := 0) (q := 0) rfl rfl rfl rfl
set_option maxHeartbeats 4000000 in
set_option maxRecDepth 10000 in
theorem v_27_1 {t : sT} {xs : Nat → Int32}
    (e : t = T16 7 xs)
    (hk : ((xs 0) &&& 63) = 27)
    (e0 : xs 1 = 1) :
    X 297 23 [.inr (.inr (29, (some 0))), .inr (.inr (11, (some 0))), .inr (.inr (12, (some 0))), .inr (.inr (23, (some 0))), .inl 0, sJk, sJk] [] t Qp := by
  refine x_iload (pc' := 25) rfl rfl rfl ?_
  refine x_aload_n (pc' := 26) rfl rfl rfl rfl rfl ?_
  refine x_alen (pc' := 27) (N := 7) rfl rfl rfl (z_N_29_0 e) (?_ : X _ _ _ (.inl 7 :: _) _ _)
  refine x_bipush (pc' := 29) rfl rfl ?_
  refine x_isub (pc' := 30) (z := 0) rfl rfl (by decide) ?_
  refine x_icmp (a' := 2944) (pc' := 33) (z := false) rfl rfl rfl (by decide) (fun h => by cases h) (fun _ => ?_)
  refine x_aload_n (pc' := 34) rfl rfl rfl rfl rfl ?_
  refine x_iload (pc' := 36) rfl rfl rfl ?_
  refine x_iald (pc' := 37) (N := 7) (x := (xs 0)) rfl rfl rfl (z_N_29_0 e) (io_in (p := 0) (N := 7) (by decide) (by decide)) (Eq.trans (congrArg (sA t 29 0) (nn_io (p := 0) (by decide))) (z_A_29_0_0 e)) ?_
  refine x_bipush (pc' := 39) rfl rfl ?_
  refine x_iand (pc' := 40) (z := ((xs 0) &&& 63)) rfl rfl rfl ?_
  refine x_switch (pc' := 2184) rfl (by rw [hk]; decide) ?_
  refine x_aload_n (pc' := 2185) rfl rfl rfl rfl rfl ?_
  refine x_aload_n (pc' := 2186) rfl rfl rfl rfl rfl ?_
  refine x_iload (pc' := 2188) rfl rfl rfl ?_
  refine x_iconst (pc' := 2189) rfl rfl ?_
  refine x_iadd (pc' := 2190) (z := 1) rfl rfl (by decide) ?_
  refine x_iald (pc' := 2191) (N := 7) (x := 1) rfl rfl rfl (z_N_29_0 e) (io_in (p := 1) (N := 7) (by decide) (by decide)) (Eq.trans (congrArg (sA t 29 0) (nn_io (p := 1) (by decide))) (Eq.trans (z_A_29_0_1 e) e0)) ?_
  refine x_aload_n (pc' := 2192) rfl rfl rfl rfl rfl ?_
  refine x_cs (ls0 := [_, _, _, sJk]) (rest := []) rfl rfl rfl rfl ?_
  refine x_aload_n (pc' := 1) rfl rfl rfl rfl rfl ?_
  refine x_iconst (pc' := 2) rfl rfl ?_
  refine x_aload_n (pc' := 3) rfl rfl rfl rfl rfl ?_
  refine x_iload_n (pc' := 4) rfl rfl rfl ?_
  refine x_cv (ls0 := [_, _]) (rest := [_, _]) rfl rfl rfl rfl rfl ?_
  refine x_aload_n (pc' := 1) rfl rfl rfl rfl rfl ?_
  refine x_gR (pc' := 4) (r := (some 0)) rfl rfl rfl (z_R_708_0 e) ?_
  refine x_aload_n (pc' := 5) rfl rfl rfl rfl rfl ?_
  refine x_iload_n (pc' := 6) rfl rfl rfl ?_
  refine x_cv (ls0 := [_, _]) (rest := [_]) rfl rfl rfl rfl rfl ?_
  refine x_iload_n (pc' := 1) rfl rfl rfl ?_
  refine x_if (a' := 16) (pc' := 4) (z := false) rfl rfl rfl (by decide) (fun h => by cases h) (fun _ => ?_)
  refine x_iload_n (pc' := 5) rfl rfl rfl ?_
  refine x_aload_n (pc' := 6) rfl rfl rfl rfl rfl ?_
  refine x_gR (pc' := 9) (r := (some 0)) rfl rfl rfl (z_R_705_0 e) ?_
  refine x_gR (pc' := 12) (r := (some 0)) rfl rfl rfl (z_R_256_0 e) ?_
  refine x_alen (pc' := 13) (N := 5) rfl rfl rfl (z_N_24_0 e) (?_ : X _ _ _ (.inl 5 :: _) _ _)
  refine x_icmp (a' := 27) (pc' := 16) (z := true) rfl rfl rfl (by decide) (fun _ => ?_) (fun h => by cases h)
  refine x_aload_n (pc' := 28) rfl rfl rfl rfl rfl ?_
  refine x_gR (pc' := 31) (r := (some 0)) rfl rfl rfl (z_R_705_0 e) ?_
  refine x_gR (pc' := 34) (r := (some 0)) rfl rfl rfl (z_R_256_0 e) ?_
  refine x_iload_n (pc' := 35) rfl rfl rfl ?_
  refine x_aald (pc' := 36) (N := 5) (k' := 1) (r := (some 1)) rfl rfl rfl (z_N_24_0 e) (io_in (p := 1) (N := 5) (by decide) (by decide)) (Eq.trans (congrArg (sE t 24 0) (nn_io (p := 1) (by decide))) (z_E_24_0_1 e)) ?_
  refine x_reta rfl rfl ?_
  refine sK_i (pc' := 9) rfl ?_
  refine x_cv (ls0 := [_, _, sJk, sJk, sJk, sJk, sJk, sJk, sJk, sJk, sJk, sJk, sJk, sJk]) (rest := []) rfl rfl rfl rfl rfl ?_
  refine x_aload_n (pc' := 1) rfl rfl rfl rfl rfl ?_
  refine x_cv (ls0 := [_]) (rest := []) rfl rfl rfl rfl rfl ?_
  refine x_aload_n (pc' := 1) rfl rfl rfl rfl rfl ?_
  refine x_gR (pc' := 4) (r := none) rfl rfl rfl (z_R_66_1 e) ?_
  refine x_ifnull (a' := 11) (pc' := 7) rfl rfl rfl rfl (fun _ => ?_) (fun i h => by cases h)
  refine x_iconst (pc' := 12) rfl rfl ?_
  refine x_retz (z := false) rfl rfl ?_
  refine sK_i (pc' := 4) rfl ?_
  refine x_if (a' := 11) (pc' := 7) (z := true) rfl rfl rfl (by decide) (fun _ => ?_) (fun h => by cases h)
  refine x_aload_n (pc' := 12) rfl rfl rfl rfl rfl ?_
  refine x_gR (pc' := 15) (r := (some 1)) rfl rfl rfl (z_R_65_1 e) ?_
  refine x_gI (pc' := 18) (x := 100) rfl rfl rfl (z_I_129_1 e) ?_
  refine x_istore_n (pc' := 19) (ls' := [_, _, _, _, _, _, _, _, _, _, _, _, _, _]) rfl rfl rfl rfl ?_
  refine x_sipush (pc' := 22) rfl rfl ?_
  refine x_istore_n (pc' := 23) (ls' := [_, _, _, _, _, _, _, _, _, _, _, _, _, _]) rfl rfl rfl rfl ?_
  refine x_iconst (pc' := 24) rfl rfl ?_
  refine x_istore (pc' := 26) (ls' := [_, _, _, _, _, _, _, _, _, _, _, _, _, _]) rfl rfl rfl rfl ?_
  refine x_iconst (pc' := 27) rfl rfl ?_
  refine x_istore (pc' := 29) (ls' := [_, _, _, _, _, _, _, _, _, _, _, _, _, _]) rfl rfl rfl rfl ?_
  refine x_iconst (pc' := 30) rfl rfl ?_
  refine x_istore (pc' := 32) (ls' := [_, _, _, _, _, _, _, _, _, _, _, _, _, _]) rfl rfl rfl rfl ?_
  refine x_iload (pc' := 34) rfl rfl rfl ?_
  refine x_iconst (pc' := 35) rfl rfl ?_
  refine x_icmp (a' := 202) (pc' := 38) (z := false) rfl rfl rfl (by decide) (fun h => by cases h) (fun _ => ?_)
  refine x_aload_n (pc' := 39) rfl rfl rfl rfl rfl ?_
  refine x_iload (pc' := 41) rfl rfl rfl ?_
  refine x_if (a' := 48) (pc' := 44) (z := false) rfl rfl rfl (by decide) (fun h => by cases h) (fun _ => ?_)
  refine x_iconst (pc' := 45) rfl rfl ?_
  refine x_goto (pc' := 49) rfl rfl ?_
  refine x_cv (ls0 := [_, _]) (rest := []) rfl rfl rfl rfl rfl ?_
  refine x_iload_n (pc' := 1) rfl rfl rfl ?_
  refine x_if (a' := 11) (pc' := 4) (z := false) rfl rfl rfl (by decide) (fun h => by cases h) (fun _ => ?_)
  refine x_aload_n (pc' := 5) rfl rfl rfl rfl rfl ?_
  refine x_gR (pc' := 8) (r := none) rfl rfl rfl (z_R_69_1 e) ?_
  refine x_goto (pc' := 15) rfl rfl ?_
  refine x_reta rfl rfl ?_
  refine sK_i (pc' := 52) rfl ?_
  refine x_astore (pc' := 54) (ls' := [_, _, _, _, _, _, _, _, _, _, _, _, _, _]) rfl rfl rfl rfl rfl ?_
  refine x_aload (pc' := 56) rfl rfl rfl rfl rfl ?_
  refine x_ifnull (a' := 196) (pc' := 59) rfl rfl rfl rfl (fun _ => ?_) (fun i h => by cases h)
  refine x_iinc (pc' := 199) (y := 1) (ls' := [_, _, _, _, _, _, _, _, _, _, _, _, _, _]) rfl rfl rfl rfl rfl ?_
  refine x_goto (pc' := 32) rfl rfl ?_
  refine x_iload (pc' := 34) rfl rfl rfl ?_
  refine x_iconst (pc' := 35) rfl rfl ?_
  refine x_icmp (a' := 202) (pc' := 38) (z := false) rfl rfl rfl (by decide) (fun h => by cases h) (fun _ => ?_)
  refine x_aload_n (pc' := 39) rfl rfl rfl rfl rfl ?_
  refine x_iload (pc' := 41) rfl rfl rfl ?_
  refine x_if (a' := 48) (pc' := 44) (z := true) rfl rfl rfl (by decide) (fun _ => ?_) (fun h => by cases h)
  refine x_iconst (pc' := 49) rfl rfl ?_
  refine x_cv (ls0 := [_, _]) (rest := []) rfl rfl rfl rfl rfl ?_
  refine x_iload_n (pc' := 1) rfl rfl rfl ?_
  refine x_if (a' := 11) (pc' := 4) (z := true) rfl rfl rfl (by decide) (fun _ => ?_) (fun h => by cases h)
  refine x_aload_n (pc' := 12) rfl rfl rfl rfl rfl ?_
  refine x_gR (pc' := 15) (r := none) rfl rfl rfl (z_R_70_1 e) ?_
  refine x_reta rfl rfl ?_
  refine sK_i (pc' := 52) rfl ?_
  refine x_astore (pc' := 54) (ls' := [_, _, _, _, _, _, _, _, _, _, _, _, _, _]) rfl rfl rfl rfl rfl ?_
  refine x_aload (pc' := 56) rfl rfl rfl rfl rfl ?_
  refine x_ifnull (a' := 196) (pc' := 59) rfl rfl rfl rfl (fun _ => ?_) (fun i h => by cases h)
  refine x_iinc (pc' := 199) (y := 2) (ls' := [_, _, _, _, _, _, _, _, _, _, _, _, _, _]) rfl rfl rfl rfl rfl ?_
  refine x_goto (pc' := 32) rfl rfl ?_
  refine x_iload (pc' := 34) rfl rfl rfl ?_
  refine x_iconst (pc' := 35) rfl rfl ?_
  refine x_icmp (a' := 202) (pc' := 38) (z := true) rfl rfl rfl (by decide) (fun _ => ?_) (fun h => by cases h)
  refine x_iload_n (pc' := 203) rfl rfl rfl ?_
  refine x_reti rfl rfl ?_
  refine sK_i (pc' := 12) rfl ?_
  refine x_reti rfl rfl ?_
  refine sK_i (pc' := 7) rfl ?_
  refine x_i2l (pc' := 8) (z := (-10000 : Int64)) rfl rfl (by decide) ?_
  refine x_last (pc' := 9) (N := 1) (p := 0) rfl rfl (z_N_23_0 e) (io_in (p := 0) (N := 1) (by decide) (by decide)) (nn_io (p := 0) (by decide)) ?_
  refine x_goto (pc' := 15) rfl rfl ?_
  refine x_iconst (pc' := 16) rfl rfl ?_
  refine x_reti rfl rfl ?_
  refine sK_i (pc' := 2195) rfl ?_
  refine x_istore (pc' := 2197) (ls' := [_, _, _, _, _, _, _]) rfl rfl rfl rfl ?_
  refine x_aload_n (pc' := 2198) rfl rfl rfl rfl rfl ?_
  refine x_aload_n (pc' := 2199) rfl rfl rfl rfl rfl ?_
  refine x_iload (pc' := 2201) rfl rfl rfl ?_
  refine x_iconst (pc' := 2202) rfl rfl ?_
  refine x_iadd (pc' := 2203) (z := 1) rfl rfl (by decide) ?_
  refine x_iald (pc' := 2204) (N := 7) (x := 1) rfl rfl rfl (Eq.trans rdNL (z_N_29_0 e)) (io_in (p := 1) (N := 7) (by decide) (by decide)) (Eq.trans (congrArg (sA (sLw t 23 0 0 (-10000 : Int64)) 29 0) (nn_io (p := 1) (by decide))) (Eq.trans rdAL (Eq.trans (z_A_29_0_1 e) e0))) ?_
  refine x_cv (ls0 := [_, _]) (rest := []) rfl rfl rfl rfl rfl ?_
  refine x_aload_n (pc' := 1) rfl rfl rfl rfl rfl ?_
  refine x_iload_n (pc' := 2) rfl rfl rfl ?_
  refine x_cs (ls0 := [_]) (rest := [_]) rfl rfl rfl rfl ?_
  refine x_iload_n (pc' := 1) rfl rfl rfl ?_
  refine x_iconst (pc' := 2) rfl rfl ?_
  refine x_iconst (pc' := 3) rfl rfl ?_
  refine x_cs (ls0 := [_, _, _]) (rest := []) rfl rfl rfl rfl ?_
  refine x_iload_n (pc' := 1) rfl rfl rfl ?_
  refine x_iload_n (pc' := 2) rfl rfl rfl ?_
  refine x_icmp (a' := 14) (pc' := 5) (z := false) rfl rfl rfl (by decide) (fun h => by cases h) (fun _ => ?_)
  refine x_iload_n (pc' := 6) rfl rfl rfl ?_
  refine x_iload_n (pc' := 7) rfl rfl rfl ?_
  refine x_icmp (a' := 14) (pc' := 10) (z := false) rfl rfl rfl (by decide) (fun h => by cases h) (fun _ => ?_)
  refine x_iconst (pc' := 11) rfl rfl ?_
  refine x_goto (pc' := 15) rfl rfl ?_
  refine x_retz (z := true) rfl rfl ?_
  refine sK_i (pc' := 6) rfl ?_
  refine x_retz (z := true) rfl rfl ?_
  refine sK_i (pc' := 5) rfl ?_
  refine x_if (a' := 12) (pc' := 8) (z := false) rfl rfl rfl (by decide) (fun h => by cases h) (fun _ => ?_)
  refine x_iconst (pc' := 9) rfl rfl ?_
  refine x_goto (pc' := 13) rfl rfl ?_
  refine x_cv (ls0 := [_, _]) (rest := []) rfl rfl rfl rfl rfl ?_
  refine x_aload_n (pc' := 1) rfl rfl rfl rfl rfl ?_
  refine x_iload_n (pc' := 2) rfl rfl rfl ?_
  refine x_pI (pc' := 5) rfl rfl rfl ?_
  refine x_iload_n (pc' := 6) rfl rfl rfl ?_
  refine x_if (a' := 13) (pc' := 9) (z := false) rfl rfl rfl (by decide) (fun h => by cases h) (fun _ => ?_)
  refine x_iconst (pc' := 10) rfl rfl ?_
  refine x_goto (pc' := 14) rfl rfl ?_
  refine x_retz (z := true) rfl rfl ?_
  refine sK_i (pc' := 16) rfl ?_
  refine x_if (a' := 27) (pc' := 19) (z := false) rfl rfl rfl (by decide) (fun h => by cases h) (fun _ => ?_)
  refine x_aload_n (pc' := 20) rfl rfl rfl rfl rfl ?_
  refine x_iload_n (pc' := 21) rfl rfl rfl ?_
  refine x_cv (ls0 := [_, _, sJk, sJk, sJk, sJk, sJk, sJk, sJk, sJk, sJk, sJk, sJk, sJk]) (rest := []) rfl rfl rfl rfl rfl ?_
  refine x_sipush (pc' := 3) rfl rfl ?_
  refine x_istore_n (pc' := 4) (ls' := [_, _, _, _, _, _, _, _, _, _, _, _, _, _]) rfl rfl rfl rfl ?_
  refine x_iconst (pc' := 5) rfl rfl ?_
  refine x_istore_n (pc' := 6) (ls' := [_, _, _, _, _, _, _, _, _, _, _, _, _, _]) rfl rfl rfl rfl ?_
  refine x_iconst (pc' := 7) rfl rfl ?_
  refine x_istore (pc' := 9) (ls' := [_, _, _, _, _, _, _, _, _, _, _, _, _, _]) rfl rfl rfl rfl ?_
  refine x_iconst (pc' := 10) rfl rfl ?_
  refine x_istore (pc' := 12) (ls' := [_, _, _, _, _, _, _, _, _, _, _, _, _, _]) rfl rfl rfl rfl ?_
  refine x_iconst (pc' := 13) rfl rfl ?_
  refine x_istore (pc' := 15) (ls' := [_, _, _, _, _, _, _, _, _, _, _, _, _, _]) rfl rfl rfl rfl ?_
  refine x_iload (pc' := 17) rfl rfl rfl ?_
  refine x_aload_n (pc' := 18) rfl rfl rfl rfl rfl ?_
  refine x_gI (pc' := 21) (x := 0) rfl rfl rfl (Eq.trans (rdI_F rfl) (Eq.trans rdIL (z_I_786_0 e))) ?_
  refine x_icmp (a' := 263) (pc' := 24) (z := true) rfl rfl rfl (by decide) (fun _ => ?_) (fun h => by cases h)
  refine x_iload_n (pc' := 264) rfl rfl rfl ?_
  refine x_reti rfl rfl ?_
  refine sK_i (pc' := 24) rfl ?_
  refine x_goto (pc' := 28) rfl rfl ?_
  refine x_reti rfl rfl ?_
  refine sK_i (pc' := 2207) rfl ?_
  refine x_istore (pc' := 2209) (ls' := [_, _, _, _, _, _, _]) rfl rfl rfl rfl ?_
  refine x_aload_n (pc' := 2210) rfl rfl rfl rfl rfl ?_
  refine x_cv (ls0 := [_]) (rest := []) rfl rfl rfl rfl rfl ?_
  refine x_aload_n (pc' := 1) rfl rfl rfl rfl rfl ?_
  refine x_gI (pc' := 4) (x := 0) rfl rfl rfl sI_s ?_
  refine x_reti rfl rfl ?_
  refine sK_i (pc' := 2213) rfl ?_
  refine x_iload (pc' := 2215) rfl rfl rfl ?_
  refine x_icmp (a' := 2220) (pc' := 2218) (z := true) rfl rfl rfl (by decide) (fun _ => ?_) (fun h => by cases h)
  refine x_iload (pc' := 2222) rfl rfl rfl ?_
  refine x_if (a' := 2237) (pc' := 2225) (z := false) rfl rfl rfl (by decide) (fun h => by cases h) (fun _ => ?_)
  refine x_aload_n (pc' := 2226) rfl rfl rfl rfl rfl ?_
  refine x_iconst (pc' := 2227) rfl rfl ?_
  refine x_lald (pc' := 2228) (N := 1) (x := (-10000 : Int64)) rfl rfl (Eq.trans rdNI (Eq.trans rdNL (z_N_23_0 e))) (io_in (p := 0) (N := 1) (by decide) (by decide)) (Eq.trans (congrArg (sL (sIw (sLw t 23 0 0 (-10000 : Int64)) 768 0 0) 23 0) (nn_io (p := 0) (by decide))) (Eq.trans rdLI sL_s)) ?_
  refine x_iload (pc' := 2230) rfl rfl rfl ?_
  refine x_i2l (pc' := 2231) (z := (-10000 : Int64)) rfl rfl (by decide) ?_
  refine x_lcmp (pc' := 2232) (z := 0) rfl rfl (sLcmp_s _) ?_
  refine x_if (a' := 2237) (pc' := 2235) (z := true) rfl rfl rfl (by decide) (fun _ => ?_) (fun h => by cases h)
  refine x_goto (pc' := 2938) rfl rfl ?_
  refine x_iinc (pc' := 2941) (y := 7) (ls' := [_, _, _, _, _, _, _]) rfl rfl rfl rfl rfl ?_
  refine x_goto (pc' := 23) rfl rfl ?_
  refine x_iload (pc' := 25) rfl rfl rfl ?_
  refine x_aload_n (pc' := 26) rfl rfl rfl rfl rfl ?_
  refine x_alen (pc' := 27) (N := 7) rfl rfl rfl (Eq.trans rdNI (Eq.trans rdNL (z_N_29_0 e))) (?_ : X _ _ _ (.inl 7 :: _) _ _)
  refine x_bipush (pc' := 29) rfl rfl ?_
  refine x_isub (pc' := 30) (z := 0) rfl rfl (by decide) ?_
  refine x_icmp (a' := 2944) (pc' := 33) (z := true) rfl rfl rfl (by decide) (fun _ => ?_) (fun h => by cases h)
  refine x_iconst (pc' := 2945) rfl rfl ?_
  refine x_retz (z := true) rfl rfl ?_
  exact Qp_ok e (p := 0) (q := 0) rfl rfl rfl rfl
set_option maxHeartbeats 4000000 in
set_option maxRecDepth 10000 in
theorem v_27_2 {t : sT} {xs : Nat → Int32}
    (e : t = T16 7 xs)
    (hk : ((xs 0) &&& 63) = 27)
    (e0 : xs 1 = 2) :
    X 297 23 [.inr (.inr (29, (some 0))), .inr (.inr (11, (some 0))), .inr (.inr (12, (some 0))), .inr (.inr (23, (some 0))), .inl 0, sJk, sJk] [] t Qp := by
  refine x_iload (pc' := 25) rfl rfl rfl ?_
  refine x_aload_n (pc' := 26) rfl rfl rfl rfl rfl ?_
  refine x_alen (pc' := 27) (N := 7) rfl rfl rfl (z_N_29_0 e) (?_ : X _ _ _ (.inl 7 :: _) _ _)
  refine x_bipush (pc' := 29) rfl rfl ?_
  refine x_isub (pc' := 30) (z := 0) rfl rfl (by decide) ?_
  refine x_icmp (a' := 2944) (pc' := 33) (z := false) rfl rfl rfl (by decide) (fun h => by cases h) (fun _ => ?_)
  refine x_aload_n (pc' := 34) rfl rfl rfl rfl rfl ?_
  refine x_iload (pc' := 36) rfl rfl rfl ?_
  refine x_iald (pc' := 37) (N := 7) (x := (xs 0)) rfl rfl rfl (z_N_29_0 e) (io_in (p := 0) (N := 7) (by decide) (by decide)) (Eq.trans (congrArg (sA t 29 0) (nn_io (p := 0) (by decide))) (z_A_29_0_0 e)) ?_
  refine x_bipush (pc' := 39) rfl rfl ?_
  refine x_iand (pc' := 40) (z := ((xs 0) &&& 63)) rfl rfl rfl ?_
  refine x_switch (pc' := 2184) rfl (by rw [hk]; decide) ?_
  refine x_aload_n (pc' := 2185) rfl rfl rfl rfl rfl ?_
  refine x_aload_n (pc' := 2186) rfl rfl rfl rfl rfl ?_
  refine x_iload (pc' := 2188) rfl rfl rfl ?_
  refine x_iconst (pc' := 2189) rfl rfl ?_
  refine x_iadd (pc' := 2190) (z := 1) rfl rfl (by decide) ?_
  refine x_iald (pc' := 2191) (N := 7) (x := 2) rfl rfl rfl (z_N_29_0 e) (io_in (p := 1) (N := 7) (by decide) (by decide)) (Eq.trans (congrArg (sA t 29 0) (nn_io (p := 1) (by decide))) (Eq.trans (z_A_29_0_1 e) e0)) ?_
  refine x_aload_n (pc' := 2192) rfl rfl rfl rfl rfl ?_
  refine x_cs (ls0 := [_, _, _, sJk]) (rest := []) rfl rfl rfl rfl ?_
  refine x_aload_n (pc' := 1) rfl rfl rfl rfl rfl ?_
  refine x_iconst (pc' := 2) rfl rfl ?_
  refine x_aload_n (pc' := 3) rfl rfl rfl rfl rfl ?_
  refine x_iload_n (pc' := 4) rfl rfl rfl ?_
  refine x_cv (ls0 := [_, _]) (rest := [_, _]) rfl rfl rfl rfl rfl ?_
  refine x_aload_n (pc' := 1) rfl rfl rfl rfl rfl ?_
  refine x_gR (pc' := 4) (r := (some 0)) rfl rfl rfl (z_R_708_0 e) ?_
  refine x_aload_n (pc' := 5) rfl rfl rfl rfl rfl ?_
  refine x_iload_n (pc' := 6) rfl rfl rfl ?_
  refine x_cv (ls0 := [_, _]) (rest := [_]) rfl rfl rfl rfl rfl ?_
  refine x_iload_n (pc' := 1) rfl rfl rfl ?_
  refine x_if (a' := 16) (pc' := 4) (z := false) rfl rfl rfl (by decide) (fun h => by cases h) (fun _ => ?_)
  refine x_iload_n (pc' := 5) rfl rfl rfl ?_
  refine x_aload_n (pc' := 6) rfl rfl rfl rfl rfl ?_
  refine x_gR (pc' := 9) (r := (some 0)) rfl rfl rfl (z_R_705_0 e) ?_
  refine x_gR (pc' := 12) (r := (some 0)) rfl rfl rfl (z_R_256_0 e) ?_
  refine x_alen (pc' := 13) (N := 5) rfl rfl rfl (z_N_24_0 e) (?_ : X _ _ _ (.inl 5 :: _) _ _)
  refine x_icmp (a' := 27) (pc' := 16) (z := true) rfl rfl rfl (by decide) (fun _ => ?_) (fun h => by cases h)
  refine x_aload_n (pc' := 28) rfl rfl rfl rfl rfl ?_
  refine x_gR (pc' := 31) (r := (some 0)) rfl rfl rfl (z_R_705_0 e) ?_
  refine x_gR (pc' := 34) (r := (some 0)) rfl rfl rfl (z_R_256_0 e) ?_
  refine x_iload_n (pc' := 35) rfl rfl rfl ?_
  refine x_aald (pc' := 36) (N := 5) (k' := 1) (r := (some 2)) rfl rfl rfl (z_N_24_0 e) (io_in (p := 2) (N := 5) (by decide) (by decide)) (Eq.trans (congrArg (sE t 24 0) (nn_io (p := 2) (by decide))) (z_E_24_0_2 e)) ?_
  refine x_reta rfl rfl ?_
  refine sK_i (pc' := 9) rfl ?_
  refine x_cv (ls0 := [_, _, sJk, sJk, sJk, sJk, sJk, sJk, sJk, sJk, sJk, sJk, sJk, sJk]) (rest := []) rfl rfl rfl rfl rfl ?_
  refine x_aload_n (pc' := 1) rfl rfl rfl rfl rfl ?_
  refine x_cv (ls0 := [_]) (rest := []) rfl rfl rfl rfl rfl ?_
  refine x_aload_n (pc' := 1) rfl rfl rfl rfl rfl ?_
  refine x_gR (pc' := 4) (r := none) rfl rfl rfl (z_R_66_2 e) ?_
  refine x_ifnull (a' := 11) (pc' := 7) rfl rfl rfl rfl (fun _ => ?_) (fun i h => by cases h)
  refine x_iconst (pc' := 12) rfl rfl ?_
  refine x_retz (z := false) rfl rfl ?_
  refine sK_i (pc' := 4) rfl ?_
  refine x_if (a' := 11) (pc' := 7) (z := true) rfl rfl rfl (by decide) (fun _ => ?_) (fun h => by cases h)
  refine x_aload_n (pc' := 12) rfl rfl rfl rfl rfl ?_
  refine x_gR (pc' := 15) (r := (some 2)) rfl rfl rfl (z_R_65_2 e) ?_
  refine x_gI (pc' := 18) (x := 100) rfl rfl rfl (z_I_129_2 e) ?_
  refine x_istore_n (pc' := 19) (ls' := [_, _, _, _, _, _, _, _, _, _, _, _, _, _]) rfl rfl rfl rfl ?_
  refine x_sipush (pc' := 22) rfl rfl ?_
  refine x_istore_n (pc' := 23) (ls' := [_, _, _, _, _, _, _, _, _, _, _, _, _, _]) rfl rfl rfl rfl ?_
  refine x_iconst (pc' := 24) rfl rfl ?_
  refine x_istore (pc' := 26) (ls' := [_, _, _, _, _, _, _, _, _, _, _, _, _, _]) rfl rfl rfl rfl ?_
  refine x_iconst (pc' := 27) rfl rfl ?_
  refine x_istore (pc' := 29) (ls' := [_, _, _, _, _, _, _, _, _, _, _, _, _, _]) rfl rfl rfl rfl ?_
  refine x_iconst (pc' := 30) rfl rfl ?_
  refine x_istore (pc' := 32) (ls' := [_, _, _, _, _, _, _, _, _, _, _, _, _, _]) rfl rfl rfl rfl ?_
  refine x_iload (pc' := 34) rfl rfl rfl ?_
  refine x_iconst (pc' := 35) rfl rfl ?_
  refine x_icmp (a' := 202) (pc' := 38) (z := false) rfl rfl rfl (by decide) (fun h => by cases h) (fun _ => ?_)
  refine x_aload_n (pc' := 39) rfl rfl rfl rfl rfl ?_
  refine x_iload (pc' := 41) rfl rfl rfl ?_
  refine x_if (a' := 48) (pc' := 44) (z := false) rfl rfl rfl (by decide) (fun h => by cases h) (fun _ => ?_)
  refine x_iconst (pc' := 45) rfl rfl ?_
  refine x_goto (pc' := 49) rfl rfl ?_
  refine x_cv (ls0 := [_, _]) (rest := []) rfl rfl rfl rfl rfl ?_
  refine x_iload_n (pc' := 1) rfl rfl rfl ?_
  refine x_if (a' := 11) (pc' := 4) (z := false) rfl rfl rfl (by decide) (fun h => by cases h) (fun _ => ?_)
  refine x_aload_n (pc' := 5) rfl rfl rfl rfl rfl ?_
  refine x_gR (pc' := 8) (r := none) rfl rfl rfl (z_R_69_2 e) ?_
  refine x_goto (pc' := 15) rfl rfl ?_
  refine x_reta rfl rfl ?_
  refine sK_i (pc' := 52) rfl ?_
  refine x_astore (pc' := 54) (ls' := [_, _, _, _, _, _, _, _, _, _, _, _, _, _]) rfl rfl rfl rfl rfl ?_
  refine x_aload (pc' := 56) rfl rfl rfl rfl rfl ?_
  refine x_ifnull (a' := 196) (pc' := 59) rfl rfl rfl rfl (fun _ => ?_) (fun i h => by cases h)
  refine x_iinc (pc' := 199) (y := 1) (ls' := [_, _, _, _, _, _, _, _, _, _, _, _, _, _]) rfl rfl rfl rfl rfl ?_
  refine x_goto (pc' := 32) rfl rfl ?_
  refine x_iload (pc' := 34) rfl rfl rfl ?_
  refine x_iconst (pc' := 35) rfl rfl ?_
  refine x_icmp (a' := 202) (pc' := 38) (z := false) rfl rfl rfl (by decide) (fun h => by cases h) (fun _ => ?_)
  refine x_aload_n (pc' := 39) rfl rfl rfl rfl rfl ?_
  refine x_iload (pc' := 41) rfl rfl rfl ?_
  refine x_if (a' := 48) (pc' := 44) (z := true) rfl rfl rfl (by decide) (fun _ => ?_) (fun h => by cases h)
  refine x_iconst (pc' := 49) rfl rfl ?_
  refine x_cv (ls0 := [_, _]) (rest := []) rfl rfl rfl rfl rfl ?_
  refine x_iload_n (pc' := 1) rfl rfl rfl ?_
  refine x_if (a' := 11) (pc' := 4) (z := true) rfl rfl rfl (by decide) (fun _ => ?_) (fun h => by cases h)
  refine x_aload_n (pc' := 12) rfl rfl rfl rfl rfl ?_
  refine x_gR (pc' := 15) (r := none) rfl rfl rfl (z_R_70_2 e) ?_
  refine x_reta rfl rfl ?_
  refine sK_i (pc' := 52) rfl ?_
  refine x_astore (pc' := 54) (ls' := [_, _, _, _, _, _, _, _, _, _, _, _, _, _]) rfl rfl rfl rfl rfl ?_
  refine x_aload (pc' := 56) rfl rfl rfl rfl rfl ?_
  refine x_ifnull (a' := 196) (pc' := 59) rfl rfl rfl rfl (fun _ => ?_) (fun i h => by cases h)
  refine x_iinc (pc' := 199) (y := 2) (ls' := [_, _, _, _, _, _, _, _, _, _, _, _, _, _]) rfl rfl rfl rfl rfl ?_
  refine x_goto (pc' := 32) rfl rfl ?_
  refine x_iload (pc' := 34) rfl rfl rfl ?_
  refine x_iconst (pc' := 35) rfl rfl ?_
  refine x_icmp (a' := 202) (pc' := 38) (z := true) rfl rfl rfl (by decide) (fun _ => ?_) (fun h => by cases h)
  refine x_iload_n (pc' := 203) rfl rfl rfl ?_
  refine x_reti rfl rfl ?_
  refine sK_i (pc' := 12) rfl ?_
  refine x_reti rfl rfl ?_
  refine sK_i (pc' := 7) rfl ?_
  refine x_i2l (pc' := 8) (z := (-10000 : Int64)) rfl rfl (by decide) ?_
  refine x_last (pc' := 9) (N := 1) (p := 0) rfl rfl (z_N_23_0 e) (io_in (p := 0) (N := 1) (by decide) (by decide)) (nn_io (p := 0) (by decide)) ?_
  refine x_goto (pc' := 15) rfl rfl ?_
  refine x_iconst (pc' := 16) rfl rfl ?_
  refine x_reti rfl rfl ?_
  refine sK_i (pc' := 2195) rfl ?_
  refine x_istore (pc' := 2197) (ls' := [_, _, _, _, _, _, _]) rfl rfl rfl rfl ?_
  refine x_aload_n (pc' := 2198) rfl rfl rfl rfl rfl ?_
  refine x_aload_n (pc' := 2199) rfl rfl rfl rfl rfl ?_
  refine x_iload (pc' := 2201) rfl rfl rfl ?_
  refine x_iconst (pc' := 2202) rfl rfl ?_
  refine x_iadd (pc' := 2203) (z := 1) rfl rfl (by decide) ?_
  refine x_iald (pc' := 2204) (N := 7) (x := 2) rfl rfl rfl (Eq.trans rdNL (z_N_29_0 e)) (io_in (p := 1) (N := 7) (by decide) (by decide)) (Eq.trans (congrArg (sA (sLw t 23 0 0 (-10000 : Int64)) 29 0) (nn_io (p := 1) (by decide))) (Eq.trans rdAL (Eq.trans (z_A_29_0_1 e) e0))) ?_
  refine x_cv (ls0 := [_, _]) (rest := []) rfl rfl rfl rfl rfl ?_
  refine x_aload_n (pc' := 1) rfl rfl rfl rfl rfl ?_
  refine x_iload_n (pc' := 2) rfl rfl rfl ?_
  refine x_cs (ls0 := [_]) (rest := [_]) rfl rfl rfl rfl ?_
  refine x_iload_n (pc' := 1) rfl rfl rfl ?_
  refine x_iconst (pc' := 2) rfl rfl ?_
  refine x_iconst (pc' := 3) rfl rfl ?_
  refine x_cs (ls0 := [_, _, _]) (rest := []) rfl rfl rfl rfl ?_
  refine x_iload_n (pc' := 1) rfl rfl rfl ?_
  refine x_iload_n (pc' := 2) rfl rfl rfl ?_
  refine x_icmp (a' := 14) (pc' := 5) (z := false) rfl rfl rfl (by decide) (fun h => by cases h) (fun _ => ?_)
  refine x_iload_n (pc' := 6) rfl rfl rfl ?_
  refine x_iload_n (pc' := 7) rfl rfl rfl ?_
  refine x_icmp (a' := 14) (pc' := 10) (z := false) rfl rfl rfl (by decide) (fun h => by cases h) (fun _ => ?_)
  refine x_iconst (pc' := 11) rfl rfl ?_
  refine x_goto (pc' := 15) rfl rfl ?_
  refine x_retz (z := true) rfl rfl ?_
  refine sK_i (pc' := 6) rfl ?_
  refine x_retz (z := true) rfl rfl ?_
  refine sK_i (pc' := 5) rfl ?_
  refine x_if (a' := 12) (pc' := 8) (z := false) rfl rfl rfl (by decide) (fun h => by cases h) (fun _ => ?_)
  refine x_iconst (pc' := 9) rfl rfl ?_
  refine x_goto (pc' := 13) rfl rfl ?_
  refine x_cv (ls0 := [_, _]) (rest := []) rfl rfl rfl rfl rfl ?_
  refine x_aload_n (pc' := 1) rfl rfl rfl rfl rfl ?_
  refine x_iload_n (pc' := 2) rfl rfl rfl ?_
  refine x_pI (pc' := 5) rfl rfl rfl ?_
  refine x_iload_n (pc' := 6) rfl rfl rfl ?_
  refine x_if (a' := 13) (pc' := 9) (z := false) rfl rfl rfl (by decide) (fun h => by cases h) (fun _ => ?_)
  refine x_iconst (pc' := 10) rfl rfl ?_
  refine x_goto (pc' := 14) rfl rfl ?_
  refine x_retz (z := true) rfl rfl ?_
  refine sK_i (pc' := 16) rfl ?_
  refine x_if (a' := 27) (pc' := 19) (z := false) rfl rfl rfl (by decide) (fun h => by cases h) (fun _ => ?_)
  refine x_aload_n (pc' := 20) rfl rfl rfl rfl rfl ?_
  refine x_iload_n (pc' := 21) rfl rfl rfl ?_
  refine x_cv (ls0 := [_, _, sJk, sJk, sJk, sJk, sJk, sJk, sJk, sJk, sJk, sJk, sJk, sJk]) (rest := []) rfl rfl rfl rfl rfl ?_
  refine x_sipush (pc' := 3) rfl rfl ?_
  refine x_istore_n (pc' := 4) (ls' := [_, _, _, _, _, _, _, _, _, _, _, _, _, _]) rfl rfl rfl rfl ?_
  refine x_iconst (pc' := 5) rfl rfl ?_
  refine x_istore_n (pc' := 6) (ls' := [_, _, _, _, _, _, _, _, _, _, _, _, _, _]) rfl rfl rfl rfl ?_
  refine x_iconst (pc' := 7) rfl rfl ?_
  refine x_istore (pc' := 9) (ls' := [_, _, _, _, _, _, _, _, _, _, _, _, _, _]) rfl rfl rfl rfl ?_
  refine x_iconst (pc' := 10) rfl rfl ?_
  refine x_istore (pc' := 12) (ls' := [_, _, _, _, _, _, _, _, _, _, _, _, _, _]) rfl rfl rfl rfl ?_
  refine x_iconst (pc' := 13) rfl rfl ?_
  refine x_istore (pc' := 15) (ls' := [_, _, _, _, _, _, _, _, _, _, _, _, _, _]) rfl rfl rfl rfl ?_
  refine x_iload (pc' := 17) rfl rfl rfl ?_
  refine x_aload_n (pc' := 18) rfl rfl rfl rfl rfl ?_
  refine x_gI (pc' := 21) (x := 0) rfl rfl rfl (Eq.trans (rdI_F rfl) (Eq.trans rdIL (z_I_786_0 e))) ?_
  refine x_icmp (a' := 263) (pc' := 24) (z := true) rfl rfl rfl (by decide) (fun _ => ?_) (fun h => by cases h)
  refine x_iload_n (pc' := 264) rfl rfl rfl ?_
  refine x_reti rfl rfl ?_
  refine sK_i (pc' := 24) rfl ?_
  refine x_goto (pc' := 28) rfl rfl ?_
  refine x_reti rfl rfl ?_
  refine sK_i (pc' := 2207) rfl ?_
  refine x_istore (pc' := 2209) (ls' := [_, _, _, _, _, _, _]) rfl rfl rfl rfl ?_
  refine x_aload_n (pc' := 2210) rfl rfl rfl rfl rfl ?_
  refine x_cv (ls0 := [_]) (rest := []) rfl rfl rfl rfl rfl ?_
  refine x_aload_n (pc' := 1) rfl rfl rfl rfl rfl ?_
  refine x_gI (pc' := 4) (x := 0) rfl rfl rfl sI_s ?_
  refine x_reti rfl rfl ?_
  refine sK_i (pc' := 2213) rfl ?_
  refine x_iload (pc' := 2215) rfl rfl rfl ?_
  refine x_icmp (a' := 2220) (pc' := 2218) (z := true) rfl rfl rfl (by decide) (fun _ => ?_) (fun h => by cases h)
  refine x_iload (pc' := 2222) rfl rfl rfl ?_
  refine x_if (a' := 2237) (pc' := 2225) (z := false) rfl rfl rfl (by decide) (fun h => by cases h) (fun _ => ?_)
  refine x_aload_n (pc' := 2226) rfl rfl rfl rfl rfl ?_
  refine x_iconst (pc' := 2227) rfl rfl ?_
  refine x_lald (pc' := 2228) (N := 1) (x := (-10000 : Int64)) rfl rfl (Eq.trans rdNI (Eq.trans rdNL (z_N_23_0 e))) (io_in (p := 0) (N := 1) (by decide) (by decide)) (Eq.trans (congrArg (sL (sIw (sLw t 23 0 0 (-10000 : Int64)) 768 0 0) 23 0) (nn_io (p := 0) (by decide))) (Eq.trans rdLI sL_s)) ?_
  refine x_iload (pc' := 2230) rfl rfl rfl ?_
  refine x_i2l (pc' := 2231) (z := (-10000 : Int64)) rfl rfl (by decide) ?_
  refine x_lcmp (pc' := 2232) (z := 0) rfl rfl (sLcmp_s _) ?_
  refine x_if (a' := 2237) (pc' := 2235) (z := true) rfl rfl rfl (by decide) (fun _ => ?_) (fun h => by cases h)
  refine x_goto (pc' := 2938) rfl rfl ?_
  refine x_iinc (pc' := 2941) (y := 7) (ls' := [_, _, _, _, _, _, _]) rfl rfl rfl rfl rfl ?_
  refine x_goto (pc' := 23) rfl rfl ?_
  refine x_iload (pc' := 25) rfl rfl rfl ?_
  refine x_aload_n (pc' := 26) rfl rfl rfl rfl rfl ?_
  refine x_alen (pc' := 27) (N := 7) rfl rfl rfl (Eq.trans rdNI (Eq.trans rdNL (z_N_29_0 e))) (?_ : X _ _ _ (.inl 7 :: _) _ _)
  refine x_bipush (pc' := 29) rfl rfl ?_
  refine x_isub (pc' := 30) (z := 0) rfl rfl (by decide) ?_
  refine x_icmp (a' := 2944) (pc' := 33) (z := true) rfl rfl rfl (by decide) (fun _ => ?_) (fun h => by cases h)
  refine x_iconst (pc' := 2945) rfl rfl ?_
  refine x_retz (z := true) rfl rfl ?_
  exact Qp_ok e (p := 0) (q := 0) rfl rfl rfl rfl
set_option maxHeartbeats 4000000 in
set_option maxRecDepth 10000 in
theorem v_27_3 {t : sT} {xs : Nat → Int32}
    (e : t = T16 7 xs)
    (hk : ((xs 0) &&& 63) = 27)
    (e0 : xs 1 = 3) :
    X 297 23 [.inr (.inr (29, (some 0))), .inr (.inr (11, (some 0))), .inr (.inr (12, (some 0))), .inr (.inr (23, (some 0))), .inl 0, sJk, sJk] [] t Qp := by
  refine x_iload (pc' := 25) rfl rfl rfl ?_
  refine x_aload_n (pc' := 26) rfl rfl rfl rfl rfl ?_
  refine x_alen (pc' := 27) (N := 7) rfl rfl rfl (z_N_29_0 e) (?_ : X _ _ _ (.inl 7 :: _) _ _)
  refine x_bipush (pc' := 29) rfl rfl ?_
  refine x_isub (pc' := 30) (z := 0) rfl rfl (by decide) ?_
  refine x_icmp (a' := 2944) (pc' := 33) (z := false) rfl rfl rfl (by decide) (fun h => by cases h) (fun _ => ?_)
  refine x_aload_n (pc' := 34) rfl rfl rfl rfl rfl ?_
  refine x_iload (pc' := 36) rfl rfl rfl ?_
  refine x_iald (pc' := 37) (N := 7) (x := (xs 0)) rfl rfl rfl (z_N_29_0 e) (io_in (p := 0) (N := 7) (by decide) (by decide)) (Eq.trans (congrArg (sA t 29 0) (nn_io (p := 0) (by decide))) (z_A_29_0_0 e)) ?_
  refine x_bipush (pc' := 39) rfl rfl ?_
  refine x_iand (pc' := 40) (z := ((xs 0) &&& 63)) rfl rfl rfl ?_
  refine x_switch (pc' := 2184) rfl (by rw [hk]; decide) ?_
  refine x_aload_n (pc' := 2185) rfl rfl rfl rfl rfl ?_
  refine x_aload_n (pc' := 2186) rfl rfl rfl rfl rfl ?_
  refine x_iload (pc' := 2188) rfl rfl rfl ?_
  refine x_iconst (pc' := 2189) rfl rfl ?_
  refine x_iadd (pc' := 2190) (z := 1) rfl rfl (by decide) ?_
  refine x_iald (pc' := 2191) (N := 7) (x := 3) rfl rfl rfl (z_N_29_0 e) (io_in (p := 1) (N := 7) (by decide) (by decide)) (Eq.trans (congrArg (sA t 29 0) (nn_io (p := 1) (by decide))) (Eq.trans (z_A_29_0_1 e) e0)) ?_
  refine x_aload_n (pc' := 2192) rfl rfl rfl rfl rfl ?_
  refine x_cs (ls0 := [_, _, _, sJk]) (rest := []) rfl rfl rfl rfl ?_
  refine x_aload_n (pc' := 1) rfl rfl rfl rfl rfl ?_
  refine x_iconst (pc' := 2) rfl rfl ?_
  refine x_aload_n (pc' := 3) rfl rfl rfl rfl rfl ?_
  refine x_iload_n (pc' := 4) rfl rfl rfl ?_
  refine x_cv (ls0 := [_, _]) (rest := [_, _]) rfl rfl rfl rfl rfl ?_
  refine x_aload_n (pc' := 1) rfl rfl rfl rfl rfl ?_
  refine x_gR (pc' := 4) (r := (some 0)) rfl rfl rfl (z_R_708_0 e) ?_
  refine x_aload_n (pc' := 5) rfl rfl rfl rfl rfl ?_
  refine x_iload_n (pc' := 6) rfl rfl rfl ?_
  refine x_cv (ls0 := [_, _]) (rest := [_]) rfl rfl rfl rfl rfl ?_
  refine x_iload_n (pc' := 1) rfl rfl rfl ?_
  refine x_if (a' := 16) (pc' := 4) (z := false) rfl rfl rfl (by decide) (fun h => by cases h) (fun _ => ?_)
  refine x_iload_n (pc' := 5) rfl rfl rfl ?_
  refine x_aload_n (pc' := 6) rfl rfl rfl rfl rfl ?_
  refine x_gR (pc' := 9) (r := (some 0)) rfl rfl rfl (z_R_705_0 e) ?_
  refine x_gR (pc' := 12) (r := (some 0)) rfl rfl rfl (z_R_256_0 e) ?_
  refine x_alen (pc' := 13) (N := 5) rfl rfl rfl (z_N_24_0 e) (?_ : X _ _ _ (.inl 5 :: _) _ _)
  refine x_icmp (a' := 27) (pc' := 16) (z := true) rfl rfl rfl (by decide) (fun _ => ?_) (fun h => by cases h)
  refine x_aload_n (pc' := 28) rfl rfl rfl rfl rfl ?_
  refine x_gR (pc' := 31) (r := (some 0)) rfl rfl rfl (z_R_705_0 e) ?_
  refine x_gR (pc' := 34) (r := (some 0)) rfl rfl rfl (z_R_256_0 e) ?_
  refine x_iload_n (pc' := 35) rfl rfl rfl ?_
  refine x_aald (pc' := 36) (N := 5) (k' := 1) (r := (some 3)) rfl rfl rfl (z_N_24_0 e) (io_in (p := 3) (N := 5) (by decide) (by decide)) (Eq.trans (congrArg (sE t 24 0) (nn_io (p := 3) (by decide))) (z_E_24_0_3 e)) ?_
  refine x_reta rfl rfl ?_
  refine sK_i (pc' := 9) rfl ?_
  refine x_cv (ls0 := [_, _, sJk, sJk, sJk, sJk, sJk, sJk, sJk, sJk, sJk, sJk, sJk, sJk]) (rest := []) rfl rfl rfl rfl rfl ?_
  refine x_aload_n (pc' := 1) rfl rfl rfl rfl rfl ?_
  refine x_cv (ls0 := [_]) (rest := []) rfl rfl rfl rfl rfl ?_
  refine x_aload_n (pc' := 1) rfl rfl rfl rfl rfl ?_
  refine x_gR (pc' := 4) (r := (some 1)) rfl rfl rfl (z_R_66_3 e) ?_
  refine x_ifnull (a' := 11) (pc' := 7) rfl rfl rfl rfl (fun h => by cases h) (fun _ _ => ?_)
  refine x_iconst (pc' := 8) rfl rfl ?_
  refine x_goto (pc' := 12) rfl rfl ?_
  refine x_retz (z := true) rfl rfl ?_
  refine sK_i (pc' := 4) rfl ?_
  refine x_if (a' := 11) (pc' := 7) (z := false) rfl rfl rfl (by decide) (fun h => by cases h) (fun _ => ?_)
  refine x_iconst (pc' := 8) rfl rfl ?_
  refine x_goto (pc' := 18) rfl rfl ?_
  refine x_istore_n (pc' := 19) (ls' := [_, _, _, _, _, _, _, _, _, _, _, _, _, _]) rfl rfl rfl rfl ?_
  refine x_sipush (pc' := 22) rfl rfl ?_
  refine x_istore_n (pc' := 23) (ls' := [_, _, _, _, _, _, _, _, _, _, _, _, _, _]) rfl rfl rfl rfl ?_
  refine x_iconst (pc' := 24) rfl rfl ?_
  refine x_istore (pc' := 26) (ls' := [_, _, _, _, _, _, _, _, _, _, _, _, _, _]) rfl rfl rfl rfl ?_
  refine x_iconst (pc' := 27) rfl rfl ?_
  refine x_istore (pc' := 29) (ls' := [_, _, _, _, _, _, _, _, _, _, _, _, _, _]) rfl rfl rfl rfl ?_
  refine x_iconst (pc' := 30) rfl rfl ?_
  refine x_istore (pc' := 32) (ls' := [_, _, _, _, _, _, _, _, _, _, _, _, _, _]) rfl rfl rfl rfl ?_
  refine x_iload (pc' := 34) rfl rfl rfl ?_
  refine x_iconst (pc' := 35) rfl rfl ?_
  refine x_icmp (a' := 202) (pc' := 38) (z := false) rfl rfl rfl (by decide) (fun h => by cases h) (fun _ => ?_)
  refine x_aload_n (pc' := 39) rfl rfl rfl rfl rfl ?_
  refine x_iload (pc' := 41) rfl rfl rfl ?_
  refine x_if (a' := 48) (pc' := 44) (z := false) rfl rfl rfl (by decide) (fun h => by cases h) (fun _ => ?_)
  refine x_iconst (pc' := 45) rfl rfl ?_
  refine x_goto (pc' := 49) rfl rfl ?_
  refine x_cv (ls0 := [_, _]) (rest := []) rfl rfl rfl rfl rfl ?_
  refine x_iload_n (pc' := 1) rfl rfl rfl ?_
  refine x_if (a' := 11) (pc' := 4) (z := false) rfl rfl rfl (by decide) (fun h => by cases h) (fun _ => ?_)
  refine x_aload_n (pc' := 5) rfl rfl rfl rfl rfl ?_
  refine x_gR (pc' := 8) (r := none) rfl rfl rfl (z_R_69_3 e) ?_
  refine x_goto (pc' := 15) rfl rfl ?_
  refine x_reta rfl rfl ?_
  refine sK_i (pc' := 52) rfl ?_
  refine x_astore (pc' := 54) (ls' := [_, _, _, _, _, _, _, _, _, _, _, _, _, _]) rfl rfl rfl rfl rfl ?_
  refine x_aload (pc' := 56) rfl rfl rfl rfl rfl ?_
  refine x_ifnull (a' := 196) (pc' := 59) rfl rfl rfl rfl (fun _ => ?_) (fun i h => by cases h)
  refine x_iinc (pc' := 199) (y := 1) (ls' := [_, _, _, _, _, _, _, _, _, _, _, _, _, _]) rfl rfl rfl rfl rfl ?_
  refine x_goto (pc' := 32) rfl rfl ?_
  refine x_iload (pc' := 34) rfl rfl rfl ?_
  refine x_iconst (pc' := 35) rfl rfl ?_
  refine x_icmp (a' := 202) (pc' := 38) (z := false) rfl rfl rfl (by decide) (fun h => by cases h) (fun _ => ?_)
  refine x_aload_n (pc' := 39) rfl rfl rfl rfl rfl ?_
  refine x_iload (pc' := 41) rfl rfl rfl ?_
  refine x_if (a' := 48) (pc' := 44) (z := true) rfl rfl rfl (by decide) (fun _ => ?_) (fun h => by cases h)
  refine x_iconst (pc' := 49) rfl rfl ?_
  refine x_cv (ls0 := [_, _]) (rest := []) rfl rfl rfl rfl rfl ?_
  refine x_iload_n (pc' := 1) rfl rfl rfl ?_
  refine x_if (a' := 11) (pc' := 4) (z := true) rfl rfl rfl (by decide) (fun _ => ?_) (fun h => by cases h)
  refine x_aload_n (pc' := 12) rfl rfl rfl rfl rfl ?_
  refine x_gR (pc' := 15) (r := none) rfl rfl rfl (z_R_70_3 e) ?_
  refine x_reta rfl rfl ?_
  refine sK_i (pc' := 52) rfl ?_
  refine x_astore (pc' := 54) (ls' := [_, _, _, _, _, _, _, _, _, _, _, _, _, _]) rfl rfl rfl rfl rfl ?_
  refine x_aload (pc' := 56) rfl rfl rfl rfl rfl ?_
  refine x_ifnull (a' := 196) (pc' := 59) rfl rfl rfl rfl (fun _ => ?_) (fun i h => by cases h)
  refine x_iinc (pc' := 199) (y := 2) (ls' := [_, _, _, _, _, _, _, _, _, _, _, _, _, _]) rfl rfl rfl rfl rfl ?_
  refine x_goto (pc' := 32) rfl rfl ?_
  refine x_iload (pc' := 34) rfl rfl rfl ?_
  refine x_iconst (pc' := 35) rfl rfl ?_
  refine x_icmp (a' := 202) (pc' := 38) (z := true) rfl rfl rfl (by decide) (fun _ => ?_) (fun h => by cases h)
  refine x_iload_n (pc' := 203) rfl rfl rfl ?_
  refine x_reti rfl rfl ?_
  refine sK_i (pc' := 12) rfl ?_
  refine x_reti rfl rfl ?_
  refine sK_i (pc' := 7) rfl ?_
  refine x_i2l (pc' := 8) (z := (-10000 : Int64)) rfl rfl (by decide) ?_
  refine x_last (pc' := 9) (N := 1) (p := 0) rfl rfl (z_N_23_0 e) (io_in (p := 0) (N := 1) (by decide) (by decide)) (nn_io (p := 0) (by decide)) ?_
  refine x_goto (pc' := 15) rfl rfl ?_
  refine x_iconst (pc' := 16) rfl rfl ?_
  refine x_reti rfl rfl ?_
  refine sK_i (pc' := 2195) rfl ?_
  refine x_istore (pc' := 2197) (ls' := [_, _, _, _, _, _, _]) rfl rfl rfl rfl ?_
  refine x_aload_n (pc' := 2198) rfl rfl rfl rfl rfl ?_
  refine x_aload_n (pc' := 2199) rfl rfl rfl rfl rfl ?_
  refine x_iload (pc' := 2201) rfl rfl rfl ?_
  refine x_iconst (pc' := 2202) rfl rfl ?_
  refine x_iadd (pc' := 2203) (z := 1) rfl rfl (by decide) ?_
  refine x_iald (pc' := 2204) (N := 7) (x := 3) rfl rfl rfl (Eq.trans rdNL (z_N_29_0 e)) (io_in (p := 1) (N := 7) (by decide) (by decide)) (Eq.trans (congrArg (sA (sLw t 23 0 0 (-10000 : Int64)) 29 0) (nn_io (p := 1) (by decide))) (Eq.trans rdAL (Eq.trans (z_A_29_0_1 e) e0))) ?_
  refine x_cv (ls0 := [_, _]) (rest := []) rfl rfl rfl rfl rfl ?_
  refine x_aload_n (pc' := 1) rfl rfl rfl rfl rfl ?_
  refine x_iload_n (pc' := 2) rfl rfl rfl ?_
  refine x_cs (ls0 := [_]) (rest := [_]) rfl rfl rfl rfl ?_
  refine x_iload_n (pc' := 1) rfl rfl rfl ?_
  refine x_iconst (pc' := 2) rfl rfl ?_
  refine x_iconst (pc' := 3) rfl rfl ?_
  refine x_cs (ls0 := [_, _, _]) (rest := []) rfl rfl rfl rfl ?_
  refine x_iload_n (pc' := 1) rfl rfl rfl ?_
  refine x_iload_n (pc' := 2) rfl rfl rfl ?_
  refine x_icmp (a' := 14) (pc' := 5) (z := false) rfl rfl rfl (by decide) (fun h => by cases h) (fun _ => ?_)
  refine x_iload_n (pc' := 6) rfl rfl rfl ?_
  refine x_iload_n (pc' := 7) rfl rfl rfl ?_
  refine x_icmp (a' := 14) (pc' := 10) (z := false) rfl rfl rfl (by decide) (fun h => by cases h) (fun _ => ?_)
  refine x_iconst (pc' := 11) rfl rfl ?_
  refine x_goto (pc' := 15) rfl rfl ?_
  refine x_retz (z := true) rfl rfl ?_
  refine sK_i (pc' := 6) rfl ?_
  refine x_retz (z := true) rfl rfl ?_
  refine sK_i (pc' := 5) rfl ?_
  refine x_if (a' := 12) (pc' := 8) (z := false) rfl rfl rfl (by decide) (fun h => by cases h) (fun _ => ?_)
  refine x_iconst (pc' := 9) rfl rfl ?_
  refine x_goto (pc' := 13) rfl rfl ?_
  refine x_cv (ls0 := [_, _]) (rest := []) rfl rfl rfl rfl rfl ?_
  refine x_aload_n (pc' := 1) rfl rfl rfl rfl rfl ?_
  refine x_iload_n (pc' := 2) rfl rfl rfl ?_
  refine x_pI (pc' := 5) rfl rfl rfl ?_
  refine x_iload_n (pc' := 6) rfl rfl rfl ?_
  refine x_if (a' := 13) (pc' := 9) (z := false) rfl rfl rfl (by decide) (fun h => by cases h) (fun _ => ?_)
  refine x_iconst (pc' := 10) rfl rfl ?_
  refine x_goto (pc' := 14) rfl rfl ?_
  refine x_retz (z := true) rfl rfl ?_
  refine sK_i (pc' := 16) rfl ?_
  refine x_if (a' := 27) (pc' := 19) (z := false) rfl rfl rfl (by decide) (fun h => by cases h) (fun _ => ?_)
  refine x_aload_n (pc' := 20) rfl rfl rfl rfl rfl ?_
  refine x_iload_n (pc' := 21) rfl rfl rfl ?_
  refine x_cv (ls0 := [_, _, sJk, sJk, sJk, sJk, sJk, sJk, sJk, sJk, sJk, sJk, sJk, sJk]) (rest := []) rfl rfl rfl rfl rfl ?_
  refine x_sipush (pc' := 3) rfl rfl ?_
  refine x_istore_n (pc' := 4) (ls' := [_, _, _, _, _, _, _, _, _, _, _, _, _, _]) rfl rfl rfl rfl ?_
  refine x_iconst (pc' := 5) rfl rfl ?_
  refine x_istore_n (pc' := 6) (ls' := [_, _, _, _, _, _, _, _, _, _, _, _, _, _]) rfl rfl rfl rfl ?_
  refine x_iconst (pc' := 7) rfl rfl ?_
  refine x_istore (pc' := 9) (ls' := [_, _, _, _, _, _, _, _, _, _, _, _, _, _]) rfl rfl rfl rfl ?_
  refine x_iconst (pc' := 10) rfl rfl ?_
  refine x_istore (pc' := 12) (ls' := [_, _, _, _, _, _, _, _, _, _, _, _, _, _]) rfl rfl rfl rfl ?_
  refine x_iconst (pc' := 13) rfl rfl ?_
  refine x_istore (pc' := 15) (ls' := [_, _, _, _, _, _, _, _, _, _, _, _, _, _]) rfl rfl rfl rfl ?_
  refine x_iload (pc' := 17) rfl rfl rfl ?_
  refine x_aload_n (pc' := 18) rfl rfl rfl rfl rfl ?_
  refine x_gI (pc' := 21) (x := 0) rfl rfl rfl (Eq.trans (rdI_F rfl) (Eq.trans rdIL (z_I_786_0 e))) ?_
  refine x_icmp (a' := 263) (pc' := 24) (z := true) rfl rfl rfl (by decide) (fun _ => ?_) (fun h => by cases h)
  refine x_iload_n (pc' := 264) rfl rfl rfl ?_
  refine x_reti rfl rfl ?_
  refine sK_i (pc' := 24) rfl ?_
  refine x_goto (pc' := 28) rfl rfl ?_
  refine x_reti rfl rfl ?_
  refine sK_i (pc' := 2207) rfl ?_
  refine x_istore (pc' := 2209) (ls' := [_, _, _, _, _, _, _]) rfl rfl rfl rfl ?_
  refine x_aload_n (pc' := 2210) rfl rfl rfl rfl rfl ?_
  refine x_cv (ls0 := [_]) (rest := []) rfl rfl rfl rfl rfl ?_
  refine x_aload_n (pc' := 1) rfl rfl rfl rfl rfl ?_
  refine x_gI (pc' := 4) (x := 0) rfl rfl rfl sI_s ?_
  refine x_reti rfl rfl ?_
  refine sK_i (pc' := 2213) rfl ?_
  refine x_iload (pc' := 2215) rfl rfl rfl ?_
  refine x_icmp (a' := 2220) (pc' := 2218) (z := true) rfl rfl rfl (by decide) (fun _ => ?_) (fun h => by cases h)
  refine x_iload (pc' := 2222) rfl rfl rfl ?_
  refine x_if (a' := 2237) (pc' := 2225) (z := false) rfl rfl rfl (by decide) (fun h => by cases h) (fun _ => ?_)
  refine x_aload_n (pc' := 2226) rfl rfl rfl rfl rfl ?_
  refine x_iconst (pc' := 2227) rfl rfl ?_
  refine x_lald (pc' := 2228) (N := 1) (x := (-10000 : Int64)) rfl rfl (Eq.trans rdNI (Eq.trans rdNL (z_N_23_0 e))) (io_in (p := 0) (N := 1) (by decide) (by decide)) (Eq.trans (congrArg (sL (sIw (sLw t 23 0 0 (-10000 : Int64)) 768 0 0) 23 0) (nn_io (p := 0) (by decide))) (Eq.trans rdLI sL_s)) ?_
  refine x_iload (pc' := 2230) rfl rfl rfl ?_
  refine x_i2l (pc' := 2231) (z := (-10000 : Int64)) rfl rfl (by decide) ?_
  refine x_lcmp (pc' := 2232) (z := 0) rfl rfl (sLcmp_s _) ?_
  refine x_if (a' := 2237) (pc' := 2235) (z := true) rfl rfl rfl (by decide) (fun _ => ?_) (fun h => by cases h)
  refine x_goto (pc' := 2938) rfl rfl ?_
  refine x_iinc (pc' := 2941) (y := 7) (ls' := [_, _, _, _, _, _, _]) rfl rfl rfl rfl rfl ?_
  refine x_goto (pc' := 23) rfl rfl ?_
  refine x_iload (pc' := 25) rfl rfl rfl ?_
  refine x_aload_n (pc' := 26) rfl rfl rfl rfl rfl ?_
  refine x_alen (pc' := 27) (N := 7) rfl rfl rfl (Eq.trans rdNI (Eq.trans rdNL (z_N_29_0 e))) (?_ : X _ _ _ (.inl 7 :: _) _ _)
  refine x_bipush (pc' := 29) rfl rfl ?_
  refine x_isub (pc' := 30) (z := 0) rfl rfl (by decide) ?_
  refine x_icmp (a' := 2944) (pc' := 33) (z := true) rfl rfl rfl (by decide) (fun _ => ?_) (fun h => by cases h)
  refine x_iconst (pc' := 2945) rfl rfl ?_
  refine x_retz (z := true) rfl rfl ?_
  exact Qp_ok e (p := 0) (q := 0) rfl rfl rfl rfl
set_option maxHeartbeats 4000000 in
set_option maxRecDepth 10000 in
theorem v_27_4 {t : sT} {xs : Nat → Int32}
    (e : t = T16 7 xs)
    (hk : ((xs 0) &&& 63) = 27)
    (e0 : xs 1 = 4) :
    X 297 23 [.inr (.inr (29, (some 0))), .inr (.inr (11, (some 0))), .inr (.inr (12, (some 0))), .inr (.inr (23, (some 0))), .inl 0, sJk, sJk] [] t Qp := by
  refine x_iload (pc' := 25) rfl rfl rfl ?_
  refine x_aload_n (pc' := 26) rfl rfl rfl rfl rfl ?_
  refine x_alen (pc' := 27) (N := 7) rfl rfl rfl (z_N_29_0 e) (?_ : X _ _ _ (.inl 7 :: _) _ _)
  refine x_bipush (pc' := 29) rfl rfl ?_
  refine x_isub (pc' := 30) (z := 0) rfl rfl (by decide) ?_
  refine x_icmp (a' := 2944) (pc' := 33) (z := false) rfl rfl rfl (by decide) (fun h => by cases h) (fun _ => ?_)
  refine x_aload_n (pc' := 34) rfl rfl rfl rfl rfl ?_
  refine x_iload (pc' := 36) rfl rfl rfl ?_
  refine x_iald (pc' := 37) (N := 7) (x := (xs 0)) rfl rfl rfl (z_N_29_0 e) (io_in (p := 0) (N := 7) (by decide) (by decide)) (Eq.trans (congrArg (sA t 29 0) (nn_io (p := 0) (by decide))) (z_A_29_0_0 e)) ?_
  refine x_bipush (pc' := 39) rfl rfl ?_
  refine x_iand (pc' := 40) (z := ((xs 0) &&& 63)) rfl rfl rfl ?_
  refine x_switch (pc' := 2184) rfl (by rw [hk]; decide) ?_
  refine x_aload_n (pc' := 2185) rfl rfl rfl rfl rfl ?_
  refine x_aload_n (pc' := 2186) rfl rfl rfl rfl rfl ?_
  refine x_iload (pc' := 2188) rfl rfl rfl ?_
  refine x_iconst (pc' := 2189) rfl rfl ?_
  refine x_iadd (pc' := 2190) (z := 1) rfl rfl (by decide) ?_
  refine x_iald (pc' := 2191) (N := 7) (x := 4) rfl rfl rfl (z_N_29_0 e) (io_in (p := 1) (N := 7) (by decide) (by decide)) (Eq.trans (congrArg (sA t 29 0) (nn_io (p := 1) (by decide))) (Eq.trans (z_A_29_0_1 e) e0)) ?_
  refine x_aload_n (pc' := 2192) rfl rfl rfl rfl rfl ?_
  refine x_cs (ls0 := [_, _, _, sJk]) (rest := []) rfl rfl rfl rfl ?_
  refine x_aload_n (pc' := 1) rfl rfl rfl rfl rfl ?_
  refine x_iconst (pc' := 2) rfl rfl ?_
  refine x_aload_n (pc' := 3) rfl rfl rfl rfl rfl ?_
  refine x_iload_n (pc' := 4) rfl rfl rfl ?_
  refine x_cv (ls0 := [_, _]) (rest := [_, _]) rfl rfl rfl rfl rfl ?_
  refine x_aload_n (pc' := 1) rfl rfl rfl rfl rfl ?_
  refine x_gR (pc' := 4) (r := (some 0)) rfl rfl rfl (z_R_708_0 e) ?_
  refine x_aload_n (pc' := 5) rfl rfl rfl rfl rfl ?_
  refine x_iload_n (pc' := 6) rfl rfl rfl ?_
  refine x_cv (ls0 := [_, _]) (rest := [_]) rfl rfl rfl rfl rfl ?_
  refine x_iload_n (pc' := 1) rfl rfl rfl ?_
  refine x_if (a' := 16) (pc' := 4) (z := false) rfl rfl rfl (by decide) (fun h => by cases h) (fun _ => ?_)
  refine x_iload_n (pc' := 5) rfl rfl rfl ?_
  refine x_aload_n (pc' := 6) rfl rfl rfl rfl rfl ?_
  refine x_gR (pc' := 9) (r := (some 0)) rfl rfl rfl (z_R_705_0 e) ?_
  refine x_gR (pc' := 12) (r := (some 0)) rfl rfl rfl (z_R_256_0 e) ?_
  refine x_alen (pc' := 13) (N := 5) rfl rfl rfl (z_N_24_0 e) (?_ : X _ _ _ (.inl 5 :: _) _ _)
  refine x_icmp (a' := 27) (pc' := 16) (z := true) rfl rfl rfl (by decide) (fun _ => ?_) (fun h => by cases h)
  refine x_aload_n (pc' := 28) rfl rfl rfl rfl rfl ?_
  refine x_gR (pc' := 31) (r := (some 0)) rfl rfl rfl (z_R_705_0 e) ?_
  refine x_gR (pc' := 34) (r := (some 0)) rfl rfl rfl (z_R_256_0 e) ?_
  refine x_iload_n (pc' := 35) rfl rfl rfl ?_
  refine x_aald (pc' := 36) (N := 5) (k' := 1) (r := (some 4)) rfl rfl rfl (z_N_24_0 e) (io_in (p := 4) (N := 5) (by decide) (by decide)) (Eq.trans (congrArg (sE t 24 0) (nn_io (p := 4) (by decide))) (z_E_24_0_4 e)) ?_
  refine x_reta rfl rfl ?_
  refine sK_i (pc' := 9) rfl ?_
  refine x_cv (ls0 := [_, _, sJk, sJk, sJk, sJk, sJk, sJk, sJk, sJk, sJk, sJk, sJk, sJk]) (rest := []) rfl rfl rfl rfl rfl ?_
  refine x_aload_n (pc' := 1) rfl rfl rfl rfl rfl ?_
  refine x_cv (ls0 := [_]) (rest := []) rfl rfl rfl rfl rfl ?_
  refine x_aload_n (pc' := 1) rfl rfl rfl rfl rfl ?_
  refine x_gR (pc' := 4) (r := (some 2)) rfl rfl rfl (z_R_66_4 e) ?_
  refine x_ifnull (a' := 11) (pc' := 7) rfl rfl rfl rfl (fun h => by cases h) (fun _ _ => ?_)
  refine x_iconst (pc' := 8) rfl rfl ?_
  refine x_goto (pc' := 12) rfl rfl ?_
  refine x_retz (z := true) rfl rfl ?_
  refine sK_i (pc' := 4) rfl ?_
  refine x_if (a' := 11) (pc' := 7) (z := false) rfl rfl rfl (by decide) (fun h => by cases h) (fun _ => ?_)
  refine x_iconst (pc' := 8) rfl rfl ?_
  refine x_goto (pc' := 18) rfl rfl ?_
  refine x_istore_n (pc' := 19) (ls' := [_, _, _, _, _, _, _, _, _, _, _, _, _, _]) rfl rfl rfl rfl ?_
  refine x_sipush (pc' := 22) rfl rfl ?_
  refine x_istore_n (pc' := 23) (ls' := [_, _, _, _, _, _, _, _, _, _, _, _, _, _]) rfl rfl rfl rfl ?_
  refine x_iconst (pc' := 24) rfl rfl ?_
  refine x_istore (pc' := 26) (ls' := [_, _, _, _, _, _, _, _, _, _, _, _, _, _]) rfl rfl rfl rfl ?_
  refine x_iconst (pc' := 27) rfl rfl ?_
  refine x_istore (pc' := 29) (ls' := [_, _, _, _, _, _, _, _, _, _, _, _, _, _]) rfl rfl rfl rfl ?_
  refine x_iconst (pc' := 30) rfl rfl ?_
  refine x_istore (pc' := 32) (ls' := [_, _, _, _, _, _, _, _, _, _, _, _, _, _]) rfl rfl rfl rfl ?_
  refine x_iload (pc' := 34) rfl rfl rfl ?_
  refine x_iconst (pc' := 35) rfl rfl ?_
  refine x_icmp (a' := 202) (pc' := 38) (z := false) rfl rfl rfl (by decide) (fun h => by cases h) (fun _ => ?_)
  refine x_aload_n (pc' := 39) rfl rfl rfl rfl rfl ?_
  refine x_iload (pc' := 41) rfl rfl rfl ?_
  refine x_if (a' := 48) (pc' := 44) (z := false) rfl rfl rfl (by decide) (fun h => by cases h) (fun _ => ?_)
  refine x_iconst (pc' := 45) rfl rfl ?_
  refine x_goto (pc' := 49) rfl rfl ?_
  refine x_cv (ls0 := [_, _]) (rest := []) rfl rfl rfl rfl rfl ?_
  refine x_iload_n (pc' := 1) rfl rfl rfl ?_
  refine x_if (a' := 11) (pc' := 4) (z := false) rfl rfl rfl (by decide) (fun h => by cases h) (fun _ => ?_)
  refine x_aload_n (pc' := 5) rfl rfl rfl rfl rfl ?_
  refine x_gR (pc' := 8) (r := none) rfl rfl rfl (z_R_69_4 e) ?_
  refine x_goto (pc' := 15) rfl rfl ?_
  refine x_reta rfl rfl ?_
  refine sK_i (pc' := 52) rfl ?_
  refine x_astore (pc' := 54) (ls' := [_, _, _, _, _, _, _, _, _, _, _, _, _, _]) rfl rfl rfl rfl rfl ?_
  refine x_aload (pc' := 56) rfl rfl rfl rfl rfl ?_
  refine x_ifnull (a' := 196) (pc' := 59) rfl rfl rfl rfl (fun _ => ?_) (fun i h => by cases h)
  refine x_iinc (pc' := 199) (y := 1) (ls' := [_, _, _, _, _, _, _, _, _, _, _, _, _, _]) rfl rfl rfl rfl rfl ?_
  refine x_goto (pc' := 32) rfl rfl ?_
  refine x_iload (pc' := 34) rfl rfl rfl ?_
  refine x_iconst (pc' := 35) rfl rfl ?_
  refine x_icmp (a' := 202) (pc' := 38) (z := false) rfl rfl rfl (by decide) (fun h => by cases h) (fun _ => ?_)
  refine x_aload_n (pc' := 39) rfl rfl rfl rfl rfl ?_
  refine x_iload (pc' := 41) rfl rfl rfl ?_
  refine x_if (a' := 48) (pc' := 44) (z := true) rfl rfl rfl (by decide) (fun _ => ?_) (fun h => by cases h)
  refine x_iconst (pc' := 49) rfl rfl ?_
  refine x_cv (ls0 := [_, _]) (rest := []) rfl rfl rfl rfl rfl ?_
  refine x_iload_n (pc' := 1) rfl rfl rfl ?_
  refine x_if (a' := 11) (pc' := 4) (z := true) rfl rfl rfl (by decide) (fun _ => ?_) (fun h => by cases h)
  refine x_aload_n (pc' := 12) rfl rfl rfl rfl rfl ?_
  refine x_gR (pc' := 15) (r := none) rfl rfl rfl (z_R_70_4 e) ?_
  refine x_reta rfl rfl ?_
  refine sK_i (pc' := 52) rfl ?_
  refine x_astore (pc' := 54) (ls' := [_, _, _, _, _, _, _, _, _, _, _, _, _, _]) rfl rfl rfl rfl rfl ?_
  refine x_aload (pc' := 56) rfl rfl rfl rfl rfl ?_
  refine x_ifnull (a' := 196) (pc' := 59) rfl rfl rfl rfl (fun _ => ?_) (fun i h => by cases h)
  refine x_iinc (pc' := 199) (y := 2) (ls' := [_, _, _, _, _, _, _, _, _, _, _, _, _, _]) rfl rfl rfl rfl rfl ?_
  refine x_goto (pc' := 32) rfl rfl ?_
  refine x_iload (pc' := 34) rfl rfl rfl ?_
  refine x_iconst (pc' := 35) rfl rfl ?_
  refine x_icmp (a' := 202) (pc' := 38) (z := true) rfl rfl rfl (by decide) (fun _ => ?_) (fun h => by cases h)
  refine x_iload_n (pc' := 203) rfl rfl rfl ?_
  refine x_reti rfl rfl ?_
  refine sK_i (pc' := 12) rfl ?_
  refine x_reti rfl rfl ?_
  refine sK_i (pc' := 7) rfl ?_
  refine x_i2l (pc' := 8) (z := (-10000 : Int64)) rfl rfl (by decide) ?_
  refine x_last (pc' := 9) (N := 1) (p := 0) rfl rfl (z_N_23_0 e) (io_in (p := 0) (N := 1) (by decide) (by decide)) (nn_io (p := 0) (by decide)) ?_
  refine x_goto (pc' := 15) rfl rfl ?_
  refine x_iconst (pc' := 16) rfl rfl ?_
  refine x_reti rfl rfl ?_
  refine sK_i (pc' := 2195) rfl ?_
  refine x_istore (pc' := 2197) (ls' := [_, _, _, _, _, _, _]) rfl rfl rfl rfl ?_
  refine x_aload_n (pc' := 2198) rfl rfl rfl rfl rfl ?_
  refine x_aload_n (pc' := 2199) rfl rfl rfl rfl rfl ?_
  refine x_iload (pc' := 2201) rfl rfl rfl ?_
  refine x_iconst (pc' := 2202) rfl rfl ?_
  refine x_iadd (pc' := 2203) (z := 1) rfl rfl (by decide) ?_
  refine x_iald (pc' := 2204) (N := 7) (x := 4) rfl rfl rfl (Eq.trans rdNL (z_N_29_0 e)) (io_in (p := 1) (N := 7) (by decide) (by decide)) (Eq.trans (congrArg (sA (sLw t 23 0 0 (-10000 : Int64)) 29 0) (nn_io (p := 1) (by decide))) (Eq.trans rdAL (Eq.trans (z_A_29_0_1 e) e0))) ?_
  refine x_cv (ls0 := [_, _]) (rest := []) rfl rfl rfl rfl rfl ?_
  refine x_aload_n (pc' := 1) rfl rfl rfl rfl rfl ?_
  refine x_iload_n (pc' := 2) rfl rfl rfl ?_
  refine x_cs (ls0 := [_]) (rest := [_]) rfl rfl rfl rfl ?_
  refine x_iload_n (pc' := 1) rfl rfl rfl ?_
  refine x_iconst (pc' := 2) rfl rfl ?_
  refine x_iconst (pc' := 3) rfl rfl ?_
  refine x_cs (ls0 := [_, _, _]) (rest := []) rfl rfl rfl rfl ?_
  refine x_iload_n (pc' := 1) rfl rfl rfl ?_
  refine x_iload_n (pc' := 2) rfl rfl rfl ?_
  refine x_icmp (a' := 14) (pc' := 5) (z := false) rfl rfl rfl (by decide) (fun h => by cases h) (fun _ => ?_)
  refine x_iload_n (pc' := 6) rfl rfl rfl ?_
  refine x_iload_n (pc' := 7) rfl rfl rfl ?_
  refine x_icmp (a' := 14) (pc' := 10) (z := false) rfl rfl rfl (by decide) (fun h => by cases h) (fun _ => ?_)
  refine x_iconst (pc' := 11) rfl rfl ?_
  refine x_goto (pc' := 15) rfl rfl ?_
  refine x_retz (z := true) rfl rfl ?_
  refine sK_i (pc' := 6) rfl ?_
  refine x_retz (z := true) rfl rfl ?_
  refine sK_i (pc' := 5) rfl ?_
  refine x_if (a' := 12) (pc' := 8) (z := false) rfl rfl rfl (by decide) (fun h => by cases h) (fun _ => ?_)
  refine x_iconst (pc' := 9) rfl rfl ?_
  refine x_goto (pc' := 13) rfl rfl ?_
  refine x_cv (ls0 := [_, _]) (rest := []) rfl rfl rfl rfl rfl ?_
  refine x_aload_n (pc' := 1) rfl rfl rfl rfl rfl ?_
  refine x_iload_n (pc' := 2) rfl rfl rfl ?_
  refine x_pI (pc' := 5) rfl rfl rfl ?_
  refine x_iload_n (pc' := 6) rfl rfl rfl ?_
  refine x_if (a' := 13) (pc' := 9) (z := false) rfl rfl rfl (by decide) (fun h => by cases h) (fun _ => ?_)
  refine x_iconst (pc' := 10) rfl rfl ?_
  refine x_goto (pc' := 14) rfl rfl ?_
  refine x_retz (z := true) rfl rfl ?_
  refine sK_i (pc' := 16) rfl ?_
  refine x_if (a' := 27) (pc' := 19) (z := false) rfl rfl rfl (by decide) (fun h => by cases h) (fun _ => ?_)
  refine x_aload_n (pc' := 20) rfl rfl rfl rfl rfl ?_
  refine x_iload_n (pc' := 21) rfl rfl rfl ?_
  refine x_cv (ls0 := [_, _, sJk, sJk, sJk, sJk, sJk, sJk, sJk, sJk, sJk, sJk, sJk, sJk]) (rest := []) rfl rfl rfl rfl rfl ?_
  refine x_sipush (pc' := 3) rfl rfl ?_
  refine x_istore_n (pc' := 4) (ls' := [_, _, _, _, _, _, _, _, _, _, _, _, _, _]) rfl rfl rfl rfl ?_
  refine x_iconst (pc' := 5) rfl rfl ?_
  refine x_istore_n (pc' := 6) (ls' := [_, _, _, _, _, _, _, _, _, _, _, _, _, _]) rfl rfl rfl rfl ?_
  refine x_iconst (pc' := 7) rfl rfl ?_
  refine x_istore (pc' := 9) (ls' := [_, _, _, _, _, _, _, _, _, _, _, _, _, _]) rfl rfl rfl rfl ?_
  refine x_iconst (pc' := 10) rfl rfl ?_
  refine x_istore (pc' := 12) (ls' := [_, _, _, _, _, _, _, _, _, _, _, _, _, _]) rfl rfl rfl rfl ?_
  refine x_iconst (pc' := 13) rfl rfl ?_
  refine x_istore (pc' := 15) (ls' := [_, _, _, _, _, _, _, _, _, _, _, _, _, _]) rfl rfl rfl rfl ?_
  refine x_iload (pc' := 17) rfl rfl rfl ?_
  refine x_aload_n (pc' := 18) rfl rfl rfl rfl rfl ?_
  refine x_gI (pc' := 21) (x := 0) rfl rfl rfl (Eq.trans (rdI_F rfl) (Eq.trans rdIL (z_I_786_0 e))) ?_
  refine x_icmp (a' := 263) (pc' := 24) (z := true) rfl rfl rfl (by decide) (fun _ => ?_) (fun h => by cases h)
  refine x_iload_n (pc' := 264) rfl rfl rfl ?_
  refine x_reti rfl rfl ?_
  refine sK_i (pc' := 24) rfl ?_
  refine x_goto (pc' := 28) rfl rfl ?_
  refine x_reti rfl rfl ?_
  refine sK_i (pc' := 2207) rfl ?_
  refine x_istore (pc' := 2209) (ls' := [_, _, _, _, _, _, _]) rfl rfl rfl rfl ?_
  refine x_aload_n (pc' := 2210) rfl rfl rfl rfl rfl ?_
  refine x_cv (ls0 := [_]) (rest := []) rfl rfl rfl rfl rfl ?_
  refine x_aload_n (pc' := 1) rfl rfl rfl rfl rfl ?_
  refine x_gI (pc' := 4) (x := 0) rfl rfl rfl sI_s ?_
  refine x_reti rfl rfl ?_
  refine sK_i (pc' := 2213) rfl ?_
  refine x_iload (pc' := 2215) rfl rfl rfl ?_
  refine x_icmp (a' := 2220) (pc' := 2218) (z := true) rfl rfl rfl (by decide) (fun _ => ?_) (fun h => by cases h)
  refine x_iload (pc' := 2222) rfl rfl rfl ?_
  refine x_if (a' := 2237) (pc' := 2225) (z := false) rfl rfl rfl (by decide) (fun h => by cases h) (fun _ => ?_)
  refine x_aload_n (pc' := 2226) rfl rfl rfl rfl rfl ?_
  refine x_iconst (pc' := 2227) rfl rfl ?_
  refine x_lald (pc' := 2228) (N := 1) (x := (-10000 : Int64)) rfl rfl (Eq.trans rdNI (Eq.trans rdNL (z_N_23_0 e))) (io_in (p := 0) (N := 1) (by decide) (by decide)) (Eq.trans (congrArg (sL (sIw (sLw t 23 0 0 (-10000 : Int64)) 768 0 0) 23 0) (nn_io (p := 0) (by decide))) (Eq.trans rdLI sL_s)) ?_
  refine x_iload (pc' := 2230) rfl rfl rfl ?_
  refine x_i2l (pc' := 2231) (z := (-10000 : Int64)) rfl rfl (by decide) ?_
  refine x_lcmp (pc' := 2232) (z := 0) rfl rfl (sLcmp_s _) ?_
  refine x_if (a' := 2237) (pc' := 2235) (z := true) rfl rfl rfl (by decide) (fun _ => ?_) (fun h => by cases h)
  refine x_goto (pc' := 2938) rfl rfl ?_
  refine x_iinc (pc' := 2941) (y := 7) (ls' := [_, _, _, _, _, _, _]) rfl rfl rfl rfl rfl ?_
  refine x_goto (pc' := 23) rfl rfl ?_
  refine x_iload (pc' := 25) rfl rfl rfl ?_
  refine x_aload_n (pc' := 26) rfl rfl rfl rfl rfl ?_
  refine x_alen (pc' := 27) (N := 7) rfl rfl rfl (Eq.trans rdNI (Eq.trans rdNL (z_N_29_0 e))) (?_ : X _ _ _ (.inl 7 :: _) _ _)
  refine x_bipush (pc' := 29) rfl rfl ?_
  refine x_isub (pc' := 30) (z := 0) rfl rfl (by decide) ?_
  refine x_icmp (a' := 2944) (pc' := 33) (z := true) rfl rfl rfl (by decide) (fun _ => ?_) (fun h => by cases h)
  refine x_iconst (pc' := 2945) rfl rfl ?_
  refine x_retz (z := true) rfl rfl ?_
  exact Qp_ok e (p := 0) (q := 0) rfl rfl rfl rfl
set_option maxHeartbeats 4000000 in
set_option maxRecDepth 10000 in
theorem v_27_A {t : sT} {xs : Nat → Int32}
    (e : t = T16 7 xs)
    (hk : ((xs 0) &&& 63) = 27)
    (e0 : (xs 1) < 0) :
    X 297 23 [.inr (.inr (29, (some 0))), .inr (.inr (11, (some 0))), .inr (.inr (12, (some 0))), .inr (.inr (23, (some 0))), .inl 0, sJk, sJk] [] t Qp := by
  refine x_iload (pc' := 25) rfl rfl rfl ?_
  refine x_aload_n (pc' := 26) rfl rfl rfl rfl rfl ?_
  refine x_alen (pc' := 27) (N := 7) rfl rfl rfl (z_N_29_0 e) (?_ : X _ _ _ (.inl 7 :: _) _ _)
  refine x_bipush (pc' := 29) rfl rfl ?_
  refine x_isub (pc' := 30) (z := 0) rfl rfl (by decide) ?_
  refine x_icmp (a' := 2944) (pc' := 33) (z := false) rfl rfl rfl (by decide) (fun h => by cases h) (fun _ => ?_)
  refine x_aload_n (pc' := 34) rfl rfl rfl rfl rfl ?_
  refine x_iload (pc' := 36) rfl rfl rfl ?_
  refine x_iald (pc' := 37) (N := 7) (x := (xs 0)) rfl rfl rfl (z_N_29_0 e) (io_in (p := 0) (N := 7) (by decide) (by decide)) (Eq.trans (congrArg (sA t 29 0) (nn_io (p := 0) (by decide))) (z_A_29_0_0 e)) ?_
  refine x_bipush (pc' := 39) rfl rfl ?_
  refine x_iand (pc' := 40) (z := ((xs 0) &&& 63)) rfl rfl rfl ?_
  refine x_switch (pc' := 2184) rfl (by rw [hk]; decide) ?_
  refine x_aload_n (pc' := 2185) rfl rfl rfl rfl rfl ?_
  refine x_aload_n (pc' := 2186) rfl rfl rfl rfl rfl ?_
  refine x_iload (pc' := 2188) rfl rfl rfl ?_
  refine x_iconst (pc' := 2189) rfl rfl ?_
  refine x_iadd (pc' := 2190) (z := 1) rfl rfl (by decide) ?_
  refine x_iald (pc' := 2191) (N := 7) (x := (xs 1)) rfl rfl rfl (z_N_29_0 e) (io_in (p := 1) (N := 7) (by decide) (by decide)) (Eq.trans (congrArg (sA t 29 0) (nn_io (p := 1) (by decide))) (z_A_29_0_1 e)) ?_
  refine x_aload_n (pc' := 2192) rfl rfl rfl rfl rfl ?_
  refine x_cs (ls0 := [_, _, _, sJk]) (rest := []) rfl rfl rfl rfl ?_
  refine x_aload_n (pc' := 1) rfl rfl rfl rfl rfl ?_
  refine x_iconst (pc' := 2) rfl rfl ?_
  refine x_aload_n (pc' := 3) rfl rfl rfl rfl rfl ?_
  refine x_iload_n (pc' := 4) rfl rfl rfl ?_
  refine x_cv (ls0 := [_, _]) (rest := [_, _]) rfl rfl rfl rfl rfl ?_
  refine x_aload_n (pc' := 1) rfl rfl rfl rfl rfl ?_
  refine x_gR (pc' := 4) (r := (some 0)) rfl rfl rfl (z_R_708_0 e) ?_
  refine x_aload_n (pc' := 5) rfl rfl rfl rfl rfl ?_
  refine x_iload_n (pc' := 6) rfl rfl rfl ?_
  refine x_cv (ls0 := [_, _]) (rest := [_]) rfl rfl rfl rfl rfl ?_
  refine x_iload_n (pc' := 1) rfl rfl rfl ?_
  refine x_if (a' := 16) (pc' := 4) (z := decide ((xs 1) < 0)) rfl rfl rfl rfl (fun _ => ?_) (fun h => absurd e0 (of_decide_eq_false h))
  refine x_throw rfl rfl ?_
  refine sK_n (by decide +kernel) rfl ?_
  refine sK_h (h := 12) (by decide +kernel) rfl ?_
  refine x_catch_n (pc' := 13) (ls' := [_, _, _, _]) rfl rfl rfl rfl ?_
  refine x_iconst (pc' := 14) rfl rfl ?_
  refine x_reti rfl rfl ?_
  refine sK_i (pc' := 2195) rfl ?_
  refine x_istore (pc' := 2197) (ls' := [_, _, _, _, _, _, _]) rfl rfl rfl rfl ?_
  refine x_aload_n (pc' := 2198) rfl rfl rfl rfl rfl ?_
  refine x_aload_n (pc' := 2199) rfl rfl rfl rfl rfl ?_
  refine x_iload (pc' := 2201) rfl rfl rfl ?_
  refine x_iconst (pc' := 2202) rfl rfl ?_
  refine x_iadd (pc' := 2203) (z := 1) rfl rfl (by decide) ?_
  refine x_iald (pc' := 2204) (N := 7) (x := (xs 1)) rfl rfl rfl (Eq.trans rdNthr (z_N_29_0 e)) (io_in (p := 1) (N := 7) (by decide) (by decide)) (Eq.trans (congrArg (sA (sThr t) 29 0) (nn_io (p := 1) (by decide))) (Eq.trans rdAthr (z_A_29_0_1 e))) ?_
  refine x_cv (ls0 := [_, _]) (rest := []) rfl rfl rfl rfl rfl ?_
  refine x_aload_n (pc' := 1) rfl rfl rfl rfl rfl ?_
  refine x_iload_n (pc' := 2) rfl rfl rfl ?_
  refine x_cs (ls0 := [_]) (rest := [_]) rfl rfl rfl rfl ?_
  refine x_iload_n (pc' := 1) rfl rfl rfl ?_
  refine x_iconst (pc' := 2) rfl rfl ?_
  refine x_iconst (pc' := 3) rfl rfl ?_
  refine x_cs (ls0 := [_, _, _]) (rest := []) rfl rfl rfl rfl ?_
  refine x_iload_n (pc' := 1) rfl rfl rfl ?_
  refine x_iload_n (pc' := 2) rfl rfl rfl ?_
  refine x_icmp (a' := 14) (pc' := 5) (z := decide ((xs 1) < 0)) rfl rfl rfl rfl (fun _ => ?_) (fun h => absurd e0 (of_decide_eq_false h))
  refine x_iconst (pc' := 15) rfl rfl ?_
  refine x_retz (z := false) rfl rfl ?_
  refine sK_i (pc' := 6) rfl ?_
  refine x_retz (z := false) rfl rfl ?_
  refine sK_i (pc' := 5) rfl ?_
  refine x_if (a' := 12) (pc' := 8) (z := true) rfl rfl rfl (by decide) (fun _ => ?_) (fun h => by cases h)
  refine x_iconst (pc' := 13) rfl rfl ?_
  refine x_cv (ls0 := [_, _]) (rest := []) rfl rfl rfl rfl rfl ?_
  refine x_aload_n (pc' := 1) rfl rfl rfl rfl rfl ?_
  refine x_iload_n (pc' := 2) rfl rfl rfl ?_
  refine x_pI (pc' := 5) rfl rfl rfl ?_
  refine x_iload_n (pc' := 6) rfl rfl rfl ?_
  refine x_if (a' := 13) (pc' := 9) (z := true) rfl rfl rfl (by decide) (fun _ => ?_) (fun h => by cases h)
  refine x_iconst (pc' := 14) rfl rfl ?_
  refine x_retz (z := false) rfl rfl ?_
  refine sK_i (pc' := 16) rfl ?_
  refine x_if (a' := 27) (pc' := 19) (z := true) rfl rfl rfl (by decide) (fun _ => ?_) (fun h => by cases h)
  refine x_iconst (pc' := 28) rfl rfl ?_
  refine x_reti rfl rfl ?_
  refine sK_i (pc' := 2207) rfl ?_
  refine x_istore (pc' := 2209) (ls' := [_, _, _, _, _, _, _]) rfl rfl rfl rfl ?_
  refine x_aload_n (pc' := 2210) rfl rfl rfl rfl rfl ?_
  refine x_cv (ls0 := [_]) (rest := []) rfl rfl rfl rfl rfl ?_
  refine x_aload_n (pc' := 1) rfl rfl rfl rfl rfl ?_
  refine x_gI (pc' := 4) (x := 1) rfl rfl rfl sI_s ?_
  refine x_reti rfl rfl ?_
  refine sK_i (pc' := 2213) rfl ?_
  refine x_iload (pc' := 2215) rfl rfl rfl ?_
  refine x_icmp (a' := 2220) (pc' := 2218) (z := true) rfl rfl rfl (by decide) (fun _ => ?_) (fun h => by cases h)
  refine x_iload (pc' := 2222) rfl rfl rfl ?_
  refine x_if (a' := 2237) (pc' := 2225) (z := true) rfl rfl rfl (by decide) (fun _ => ?_) (fun h => by cases h)
  refine x_goto (pc' := 2938) rfl rfl ?_
  refine x_iinc (pc' := 2941) (y := 7) (ls' := [_, _, _, _, _, _, _]) rfl rfl rfl rfl rfl ?_
  refine x_goto (pc' := 23) rfl rfl ?_
  refine x_iload (pc' := 25) rfl rfl rfl ?_
  refine x_aload_n (pc' := 26) rfl rfl rfl rfl rfl ?_
  refine x_alen (pc' := 27) (N := 7) rfl rfl rfl (Eq.trans rdNI (Eq.trans rdNthr (z_N_29_0 e))) (?_ : X _ _ _ (.inl 7 :: _) _ _)
  refine x_bipush (pc' := 29) rfl rfl ?_
  refine x_isub (pc' := 30) (z := 0) rfl rfl (by decide) ?_
  refine x_icmp (a' := 2944) (pc' := 33) (z := true) rfl rfl rfl (by decide) (fun _ => ?_) (fun h => by cases h)
  refine x_iconst (pc' := 2945) rfl rfl ?_
  refine x_retz (z := true) rfl rfl ?_
  exact Qp_ok e (p := 1) (q := 6) rfl rfl rfl rfl
set_option maxHeartbeats 4000000 in
set_option maxRecDepth 10000 in
theorem v_27_B {t : sT} {xs : Nat → Int32}
    (e : t = T16 7 xs)
    (hk : ((xs 0) &&& 63) = 27)
    (e0 : ¬ (xs 1) < 0)
    (f0 : ¬ (xs 1) < 5) :
    X 297 23 [.inr (.inr (29, (some 0))), .inr (.inr (11, (some 0))), .inr (.inr (12, (some 0))), .inr (.inr (23, (some 0))), .inl 0, sJk, sJk] [] t Qp := by
  refine x_iload (pc' := 25) rfl rfl rfl ?_
  refine x_aload_n (pc' := 26) rfl rfl rfl rfl rfl ?_
  refine x_alen (pc' := 27) (N := 7) rfl rfl rfl (z_N_29_0 e) (?_ : X _ _ _ (.inl 7 :: _) _ _)
  refine x_bipush (pc' := 29) rfl rfl ?_
  refine x_isub (pc' := 30) (z := 0) rfl rfl (by decide) ?_
  refine x_icmp (a' := 2944) (pc' := 33) (z := false) rfl rfl rfl (by decide) (fun h => by cases h) (fun _ => ?_)
  refine x_aload_n (pc' := 34) rfl rfl rfl rfl rfl ?_
  refine x_iload (pc' := 36) rfl rfl rfl ?_
  refine x_iald (pc' := 37) (N := 7) (x := (xs 0)) rfl rfl rfl (z_N_29_0 e) (io_in (p := 0) (N := 7) (by decide) (by decide)) (Eq.trans (congrArg (sA t 29 0) (nn_io (p := 0) (by decide))) (z_A_29_0_0 e)) ?_
  refine x_bipush (pc' := 39) rfl rfl ?_
  refine x_iand (pc' := 40) (z := ((xs 0) &&& 63)) rfl rfl rfl ?_
  refine x_switch (pc' := 2184) rfl (by rw [hk]; decide) ?_
  refine x_aload_n (pc' := 2185) rfl rfl rfl rfl rfl ?_
  refine x_aload_n (pc' := 2186) rfl rfl rfl rfl rfl ?_
  refine x_iload (pc' := 2188) rfl rfl rfl ?_
  refine x_iconst (pc' := 2189) rfl rfl ?_
  refine x_iadd (pc' := 2190) (z := 1) rfl rfl (by decide) ?_
  refine x_iald (pc' := 2191) (N := 7) (x := (xs 1)) rfl rfl rfl (z_N_29_0 e) (io_in (p := 1) (N := 7) (by decide) (by decide)) (Eq.trans (congrArg (sA t 29 0) (nn_io (p := 1) (by decide))) (z_A_29_0_1 e)) ?_
  refine x_aload_n (pc' := 2192) rfl rfl rfl rfl rfl ?_
  refine x_cs (ls0 := [_, _, _, sJk]) (rest := []) rfl rfl rfl rfl ?_
  refine x_aload_n (pc' := 1) rfl rfl rfl rfl rfl ?_
  refine x_iconst (pc' := 2) rfl rfl ?_
  refine x_aload_n (pc' := 3) rfl rfl rfl rfl rfl ?_
  refine x_iload_n (pc' := 4) rfl rfl rfl ?_
  refine x_cv (ls0 := [_, _]) (rest := [_, _]) rfl rfl rfl rfl rfl ?_
  refine x_aload_n (pc' := 1) rfl rfl rfl rfl rfl ?_
  refine x_gR (pc' := 4) (r := (some 0)) rfl rfl rfl (z_R_708_0 e) ?_
  refine x_aload_n (pc' := 5) rfl rfl rfl rfl rfl ?_
  refine x_iload_n (pc' := 6) rfl rfl rfl ?_
  refine x_cv (ls0 := [_, _]) (rest := [_]) rfl rfl rfl rfl rfl ?_
  refine x_iload_n (pc' := 1) rfl rfl rfl ?_
  refine x_if (a' := 16) (pc' := 4) (z := decide ((xs 1) < 0)) rfl rfl rfl rfl (fun h => absurd (of_decide_eq_true h) e0) (fun _ => ?_)
  refine x_iload_n (pc' := 5) rfl rfl rfl ?_
  refine x_aload_n (pc' := 6) rfl rfl rfl rfl rfl ?_
  refine x_gR (pc' := 9) (r := (some 0)) rfl rfl rfl (z_R_705_0 e) ?_
  refine x_gR (pc' := 12) (r := (some 0)) rfl rfl rfl (z_R_256_0 e) ?_
  refine x_alen (pc' := 13) (N := 5) rfl rfl rfl (z_N_24_0 e) (?_ : X _ _ _ (.inl 5 :: _) _ _)
  refine x_icmp (a' := 27) (pc' := 16) (z := decide ((xs 1) < 5)) rfl rfl rfl rfl (fun h => absurd (of_decide_eq_true h) f0) (fun _ => ?_)
  refine x_throw rfl rfl ?_
  refine sK_n (by decide +kernel) rfl ?_
  refine sK_h (h := 12) (by decide +kernel) rfl ?_
  refine x_catch_n (pc' := 13) (ls' := [_, _, _, _]) rfl rfl rfl rfl ?_
  refine x_iconst (pc' := 14) rfl rfl ?_
  refine x_reti rfl rfl ?_
  refine sK_i (pc' := 2195) rfl ?_
  refine x_istore (pc' := 2197) (ls' := [_, _, _, _, _, _, _]) rfl rfl rfl rfl ?_
  refine x_aload_n (pc' := 2198) rfl rfl rfl rfl rfl ?_
  refine x_aload_n (pc' := 2199) rfl rfl rfl rfl rfl ?_
  refine x_iload (pc' := 2201) rfl rfl rfl ?_
  refine x_iconst (pc' := 2202) rfl rfl ?_
  refine x_iadd (pc' := 2203) (z := 1) rfl rfl (by decide) ?_
  refine x_iald (pc' := 2204) (N := 7) (x := (xs 1)) rfl rfl rfl (Eq.trans rdNthr (z_N_29_0 e)) (io_in (p := 1) (N := 7) (by decide) (by decide)) (Eq.trans (congrArg (sA (sThr t) 29 0) (nn_io (p := 1) (by decide))) (Eq.trans rdAthr (z_A_29_0_1 e))) ?_
  refine x_cv (ls0 := [_, _]) (rest := []) rfl rfl rfl rfl rfl ?_
  refine x_aload_n (pc' := 1) rfl rfl rfl rfl rfl ?_
  refine x_iload_n (pc' := 2) rfl rfl rfl ?_
  refine x_cs (ls0 := [_]) (rest := [_]) rfl rfl rfl rfl ?_
  refine x_iload_n (pc' := 1) rfl rfl rfl ?_
  refine x_iconst (pc' := 2) rfl rfl ?_
  refine x_iconst (pc' := 3) rfl rfl ?_
  refine x_cs (ls0 := [_, _, _]) (rest := []) rfl rfl rfl rfl ?_
  refine x_iload_n (pc' := 1) rfl rfl rfl ?_
  refine x_iload_n (pc' := 2) rfl rfl rfl ?_
  refine x_icmp (a' := 14) (pc' := 5) (z := decide ((xs 1) < 0)) rfl rfl rfl rfl (fun h => absurd (of_decide_eq_true h) e0) (fun _ => ?_)
  refine x_iload_n (pc' := 6) rfl rfl rfl ?_
  refine x_iload_n (pc' := 7) rfl rfl rfl ?_
  refine x_icmp (a' := 14) (pc' := 10) (z := decide (4 < (xs 1))) rfl rfl rfl rfl (fun _ => ?_) (fun h => absurd (lt_of5 f0) (of_decide_eq_false h))
  refine x_iconst (pc' := 15) rfl rfl ?_
  refine x_retz (z := false) rfl rfl ?_
  refine sK_i (pc' := 6) rfl ?_
  refine x_retz (z := false) rfl rfl ?_
  refine sK_i (pc' := 5) rfl ?_
  refine x_if (a' := 12) (pc' := 8) (z := true) rfl rfl rfl (by decide) (fun _ => ?_) (fun h => by cases h)
  refine x_iconst (pc' := 13) rfl rfl ?_
  refine x_cv (ls0 := [_, _]) (rest := []) rfl rfl rfl rfl rfl ?_
  refine x_aload_n (pc' := 1) rfl rfl rfl rfl rfl ?_
  refine x_iload_n (pc' := 2) rfl rfl rfl ?_
  refine x_pI (pc' := 5) rfl rfl rfl ?_
  refine x_iload_n (pc' := 6) rfl rfl rfl ?_
  refine x_if (a' := 13) (pc' := 9) (z := true) rfl rfl rfl (by decide) (fun _ => ?_) (fun h => by cases h)
  refine x_iconst (pc' := 14) rfl rfl ?_
  refine x_retz (z := false) rfl rfl ?_
  refine sK_i (pc' := 16) rfl ?_
  refine x_if (a' := 27) (pc' := 19) (z := true) rfl rfl rfl (by decide) (fun _ => ?_) (fun h => by cases h)
  refine x_iconst (pc' := 28) rfl rfl ?_
  refine x_reti rfl rfl ?_
  refine sK_i (pc' := 2207) rfl ?_
  refine x_istore (pc' := 2209) (ls' := [_, _, _, _, _, _, _]) rfl rfl rfl rfl ?_
  refine x_aload_n (pc' := 2210) rfl rfl rfl rfl rfl ?_
  refine x_cv (ls0 := [_]) (rest := []) rfl rfl rfl rfl rfl ?_
  refine x_aload_n (pc' := 1) rfl rfl rfl rfl rfl ?_
  refine x_gI (pc' := 4) (x := 1) rfl rfl rfl sI_s ?_
  refine x_reti rfl rfl ?_
  refine sK_i (pc' := 2213) rfl ?_
  refine x_iload (pc' := 2215) rfl rfl rfl ?_
  refine x_icmp (a' := 2220) (pc' := 2218) (z := true) rfl rfl rfl (by decide) (fun _ => ?_) (fun h => by cases h)
  refine x_iload (pc' := 2222) rfl rfl rfl ?_
  refine x_if (a' := 2237) (pc' := 2225) (z := true) rfl rfl rfl (by decide) (fun _ => ?_) (fun h => by cases h)
  refine x_goto (pc' := 2938) rfl rfl ?_
  refine x_iinc (pc' := 2941) (y := 7) (ls' := [_, _, _, _, _, _, _]) rfl rfl rfl rfl rfl ?_
  refine x_goto (pc' := 23) rfl rfl ?_
  refine x_iload (pc' := 25) rfl rfl rfl ?_
  refine x_aload_n (pc' := 26) rfl rfl rfl rfl rfl ?_
  refine x_alen (pc' := 27) (N := 7) rfl rfl rfl (Eq.trans rdNI (Eq.trans rdNthr (z_N_29_0 e))) (?_ : X _ _ _ (.inl 7 :: _) _ _)
  refine x_bipush (pc' := 29) rfl rfl ?_
  refine x_isub (pc' := 30) (z := 0) rfl rfl (by decide) ?_
  refine x_icmp (a' := 2944) (pc' := 33) (z := true) rfl rfl rfl (by decide) (fun _ => ?_) (fun h => by cases h)
  refine x_iconst (pc' := 2945) rfl rfl ?_
  refine x_retz (z := true) rfl rfl ?_
  exact Qp_ok e (p := 1) (q := 6) rfl rfl rfl rfl
set_option maxHeartbeats 4000000 in
set_option maxRecDepth 10000 in
theorem v_28_0 {t : sT} {xs : Nat → Int32}
    (e : t = T16 7 xs)
    (hk : ((xs 0) &&& 63) = 28)
    (e0 : xs 1 = 0) :
    X 297 23 [.inr (.inr (29, (some 0))), .inr (.inr (11, (some 0))), .inr (.inr (12, (some 0))), .inr (.inr (23, (some 0))), .inl 0, sJk, sJk] [] t Qp := by
  refine x_iload (pc' := 25) rfl rfl rfl ?_
  refine x_aload_n (pc' := 26) rfl rfl rfl rfl rfl ?_
  refine x_alen (pc' := 27) (N := 7) rfl rfl rfl (z_N_29_0 e) (?_ : X _ _ _ (.inl 7 :: _) _ _)
  refine x_bipush (pc' := 29) rfl rfl ?_
  refine x_isub (pc' := 30) (z := 0) rfl rfl (by decide) ?_
  refine x_icmp (a' := 2944) (pc' := 33) (z := false) rfl rfl rfl (by decide) (fun h => by cases h) (fun _ => ?_)
  refine x_aload_n (pc' := 34) rfl rfl rfl rfl rfl ?_
  refine x_iload (pc' := 36) rfl rfl rfl ?_
  refine x_iald (pc' := 37) (N := 7) (x := (xs 0)) rfl rfl rfl (z_N_29_0 e) (io_in (p := 0) (N := 7) (by decide) (by decide)) (Eq.trans (congrArg (sA t 29 0) (nn_io (p := 0) (by decide))) (z_A_29_0_0 e)) ?_
  refine x_bipush (pc' := 39) rfl rfl ?_
  refine x_iand (pc' := 40) (z := ((xs 0) &&& 63)) rfl rfl rfl ?_
  refine x_switch (pc' := 2240) rfl (by rw [hk]; decide) ?_
  refine x_aload_n (pc' := 2241) rfl rfl rfl rfl rfl ?_
  refine x_aload_n (pc' := 2242) rfl rfl rfl rfl rfl ?_
  refine x_iload (pc' := 2244) rfl rfl rfl ?_
  refine x_iconst (pc' := 2245) rfl rfl ?_
  refine x_iadd (pc' := 2246) (z := 1) rfl rfl (by decide) ?_
  refine x_iald (pc' := 2247) (N := 7) (x := 0) rfl rfl rfl (z_N_29_0 e) (io_in (p := 1) (N := 7) (by decide) (by decide)) (Eq.trans (congrArg (sA t 29 0) (nn_io (p := 1) (by decide))) (Eq.trans (z_A_29_0_1 e) e0)) ?_
  refine x_aload_n (pc' := 2248) rfl rfl rfl rfl rfl ?_
  refine x_cs (ls0 := [_, _, _, sJk]) (rest := []) rfl rfl rfl rfl ?_
  refine x_aload_n (pc' := 1) rfl rfl rfl rfl rfl ?_
  refine x_iconst (pc' := 2) rfl rfl ?_
  refine x_aload_n (pc' := 3) rfl rfl rfl rfl rfl ?_
  refine x_iload_n (pc' := 4) rfl rfl rfl ?_
  refine x_cv (ls0 := [_, _]) (rest := [_, _]) rfl rfl rfl rfl rfl ?_
  refine x_aload_n (pc' := 1) rfl rfl rfl rfl rfl ?_
  refine x_iload_n (pc' := 2) rfl rfl rfl ?_
  refine x_cv (ls0 := [_, _]) (rest := []) rfl rfl rfl rfl rfl ?_
  refine x_iload_n (pc' := 1) rfl rfl rfl ?_
  refine x_if (a' := 16) (pc' := 4) (z := false) rfl rfl rfl (by decide) (fun h => by cases h) (fun _ => ?_)
  refine x_iload_n (pc' := 5) rfl rfl rfl ?_
  refine x_aload_n (pc' := 6) rfl rfl rfl rfl rfl ?_
  refine x_gR (pc' := 9) (r := (some 0)) rfl rfl rfl (z_R_704_0 e) ?_
  refine x_gR (pc' := 12) (r := (some 0)) rfl rfl rfl (z_R_320_0 e) ?_
  refine x_alen (pc' := 13) (N := 3) rfl rfl rfl (z_N_25_0 e) (?_ : X _ _ _ (.inl 3 :: _) _ _)
  refine x_icmp (a' := 27) (pc' := 16) (z := true) rfl rfl rfl (by decide) (fun _ => ?_) (fun h => by cases h)
  refine x_aload_n (pc' := 28) rfl rfl rfl rfl rfl ?_
  refine x_gR (pc' := 31) (r := (some 0)) rfl rfl rfl (z_R_704_0 e) ?_
  refine x_gR (pc' := 34) (r := (some 0)) rfl rfl rfl (z_R_320_0 e) ?_
  refine x_iload_n (pc' := 35) rfl rfl rfl ?_
  refine x_aald (pc' := 36) (N := 3) (k' := 2) (r := (some 0)) rfl rfl rfl (z_N_25_0 e) (io_in (p := 0) (N := 3) (by decide) (by decide)) (Eq.trans (congrArg (sE t 25 0) (nn_io (p := 0) (by decide))) (z_E_25_0_0 e)) ?_
  refine x_reta rfl rfl ?_
  refine sK_i (pc' := 5) rfl ?_
  refine x_gI (pc' := 8) (x := 100) rfl rfl rfl (z_I_129_0 e) ?_
  refine x_reti rfl rfl ?_
  refine sK_i (pc' := 7) rfl ?_
  refine x_i2l (pc' := 8) (z := (100 : Int64)) rfl rfl (by decide) ?_
  refine x_last (pc' := 9) (N := 1) (p := 0) rfl rfl (z_N_23_0 e) (io_in (p := 0) (N := 1) (by decide) (by decide)) (nn_io (p := 0) (by decide)) ?_
  refine x_goto (pc' := 15) rfl rfl ?_
  refine x_iconst (pc' := 16) rfl rfl ?_
  refine x_reti rfl rfl ?_
  refine sK_i (pc' := 2251) rfl ?_
  refine x_istore (pc' := 2253) (ls' := [_, _, _, _, _, _, _]) rfl rfl rfl rfl ?_
  refine x_aload_n (pc' := 2254) rfl rfl rfl rfl rfl ?_
  refine x_aload_n (pc' := 2255) rfl rfl rfl rfl rfl ?_
  refine x_iload (pc' := 2257) rfl rfl rfl ?_
  refine x_iconst (pc' := 2258) rfl rfl ?_
  refine x_iadd (pc' := 2259) (z := 1) rfl rfl (by decide) ?_
  refine x_iald (pc' := 2260) (N := 7) (x := 0) rfl rfl rfl (Eq.trans rdNL (z_N_29_0 e)) (io_in (p := 1) (N := 7) (by decide) (by decide)) (Eq.trans (congrArg (sA (sLw t 23 0 0 (100 : Int64)) 29 0) (nn_io (p := 1) (by decide))) (Eq.trans rdAL (Eq.trans (z_A_29_0_1 e) e0))) ?_
  refine x_cv (ls0 := [_, _]) (rest := []) rfl rfl rfl rfl rfl ?_
  refine x_aload_n (pc' := 1) rfl rfl rfl rfl rfl ?_
  refine x_iload_n (pc' := 2) rfl rfl rfl ?_
  refine x_cs (ls0 := [_]) (rest := [_]) rfl rfl rfl rfl ?_
  refine x_iload_n (pc' := 1) rfl rfl rfl ?_
  refine x_iconst (pc' := 2) rfl rfl ?_
  refine x_iconst (pc' := 3) rfl rfl ?_
  refine x_cs (ls0 := [_, _, _]) (rest := []) rfl rfl rfl rfl ?_
  refine x_iload_n (pc' := 1) rfl rfl rfl ?_
  refine x_iload_n (pc' := 2) rfl rfl rfl ?_
  refine x_icmp (a' := 14) (pc' := 5) (z := false) rfl rfl rfl (by decide) (fun h => by cases h) (fun _ => ?_)
  refine x_iload_n (pc' := 6) rfl rfl rfl ?_
  refine x_iload_n (pc' := 7) rfl rfl rfl ?_
  refine x_icmp (a' := 14) (pc' := 10) (z := false) rfl rfl rfl (by decide) (fun h => by cases h) (fun _ => ?_)
  refine x_iconst (pc' := 11) rfl rfl ?_
  refine x_goto (pc' := 15) rfl rfl ?_
  refine x_retz (z := true) rfl rfl ?_
  refine sK_i (pc' := 6) rfl ?_
  refine x_retz (z := true) rfl rfl ?_
  refine sK_i (pc' := 5) rfl ?_
  refine x_if (a' := 12) (pc' := 8) (z := false) rfl rfl rfl (by decide) (fun h => by cases h) (fun _ => ?_)
  refine x_iconst (pc' := 9) rfl rfl ?_
  refine x_goto (pc' := 13) rfl rfl ?_
  refine x_cv (ls0 := [_, _]) (rest := []) rfl rfl rfl rfl rfl ?_
  refine x_aload_n (pc' := 1) rfl rfl rfl rfl rfl ?_
  refine x_iload_n (pc' := 2) rfl rfl rfl ?_
  refine x_pI (pc' := 5) rfl rfl rfl ?_
  refine x_iload_n (pc' := 6) rfl rfl rfl ?_
  refine x_if (a' := 13) (pc' := 9) (z := false) rfl rfl rfl (by decide) (fun h => by cases h) (fun _ => ?_)
  refine x_iconst (pc' := 10) rfl rfl ?_
  refine x_goto (pc' := 14) rfl rfl ?_
  refine x_retz (z := true) rfl rfl ?_
  refine sK_i (pc' := 16) rfl ?_
  refine x_if (a' := 28) (pc' := 19) (z := false) rfl rfl rfl (by decide) (fun h => by cases h) (fun _ => ?_)
  refine x_aload_n (pc' := 20) rfl rfl rfl rfl rfl ?_
  refine x_gR (pc' := 23) (r := (some 1)) rfl rfl rfl (Eq.trans rdRI (Eq.trans rdRL (z_R_771_0 e))) ?_
  refine x_iload_n (pc' := 24) rfl rfl rfl ?_
  refine x_iald (pc' := 25) (N := 3) (x := 100) rfl rfl rfl (Eq.trans rdNI (Eq.trans rdNL (z_N_21_1 e))) (io_in (p := 0) (N := 3) (by decide) (by decide)) (Eq.trans (congrArg (sA (sIw (sLw t 23 0 0 (100 : Int64)) 768 0 0) 21 1) (nn_io (p := 0) (by decide))) (Eq.trans rdAI (Eq.trans rdAL (z_A_21_1_0 e)))) ?_
  refine x_goto (pc' := 29) rfl rfl ?_
  refine x_reti rfl rfl ?_
  refine sK_i (pc' := 2263) rfl ?_
  refine x_istore (pc' := 2265) (ls' := [_, _, _, _, _, _, _]) rfl rfl rfl rfl ?_
  refine x_aload_n (pc' := 2266) rfl rfl rfl rfl rfl ?_
  refine x_cv (ls0 := [_]) (rest := []) rfl rfl rfl rfl rfl ?_
  refine x_aload_n (pc' := 1) rfl rfl rfl rfl rfl ?_
  refine x_gI (pc' := 4) (x := 0) rfl rfl rfl sI_s ?_
  refine x_reti rfl rfl ?_
  refine sK_i (pc' := 2269) rfl ?_
  refine x_iload (pc' := 2271) rfl rfl rfl ?_
  refine x_icmp (a' := 2276) (pc' := 2274) (z := true) rfl rfl rfl (by decide) (fun _ => ?_) (fun h => by cases h)
  refine x_iload (pc' := 2278) rfl rfl rfl ?_
  refine x_if (a' := 2293) (pc' := 2281) (z := false) rfl rfl rfl (by decide) (fun h => by cases h) (fun _ => ?_)
  refine x_aload_n (pc' := 2282) rfl rfl rfl rfl rfl ?_
  refine x_iconst (pc' := 2283) rfl rfl ?_
  refine x_lald (pc' := 2284) (N := 1) (x := (100 : Int64)) rfl rfl (Eq.trans rdNI (Eq.trans rdNL (z_N_23_0 e))) (io_in (p := 0) (N := 1) (by decide) (by decide)) (Eq.trans (congrArg (sL (sIw (sLw t 23 0 0 (100 : Int64)) 768 0 0) 23 0) (nn_io (p := 0) (by decide))) (Eq.trans rdLI sL_s)) ?_
  refine x_iload (pc' := 2286) rfl rfl rfl ?_
  refine x_i2l (pc' := 2287) (z := (100 : Int64)) rfl rfl (by decide) ?_
  refine x_lcmp (pc' := 2288) (z := 0) rfl rfl (sLcmp_s _) ?_
  refine x_if (a' := 2293) (pc' := 2291) (z := true) rfl rfl rfl (by decide) (fun _ => ?_) (fun h => by cases h)
  refine x_goto (pc' := 2938) rfl rfl ?_
  refine x_iinc (pc' := 2941) (y := 7) (ls' := [_, _, _, _, _, _, _]) rfl rfl rfl rfl rfl ?_
  refine x_goto (pc' := 23) rfl rfl ?_
  refine x_iload (pc' := 25) rfl rfl rfl ?_
  refine x_aload_n (pc' := 26) rfl rfl rfl rfl rfl ?_
  refine x_alen (pc' := 27) (N := 7) rfl rfl rfl (Eq.trans rdNI (Eq.trans rdNL (z_N_29_0 e))) (?_ : X _ _ _ (.inl 7 :: _) _ _)
  refine x_bipush (pc' := 29) rfl rfl ?_
  refine x_isub (pc' := 30) (z := 0) rfl rfl (by decide) ?_
  refine x_icmp (a' := 2944) (pc' := 33) (z := true) rfl rfl rfl (by decide) (fun _ => ?_) (fun h => by cases h)
  refine x_iconst (pc' := 2945) rfl rfl ?_
  refine x_retz (z := true) rfl rfl ?_
  exact Qp_ok e (p := 0) (q := 0) rfl rfl rfl rfl
set_option maxHeartbeats 4000000 in
set_option maxRecDepth 10000 in
theorem v_28_1 {t : sT} {xs : Nat → Int32}
    (e : t = T16 7 xs)
    (hk : ((xs 0) &&& 63) = 28)
    (e0 : xs 1 = 1) :
    X 297 23 [.inr (.inr (29, (some 0))), .inr (.inr (11, (some 0))), .inr (.inr (12, (some 0))), .inr (.inr (23, (some 0))), .inl 0, sJk, sJk] [] t Qp := by
  refine x_iload (pc' := 25) rfl rfl rfl ?_
  refine x_aload_n (pc' := 26) rfl rfl rfl rfl rfl ?_
  refine x_alen (pc' := 27) (N := 7) rfl rfl rfl (z_N_29_0 e) (?_ : X _ _ _ (.inl 7 :: _) _ _)
  refine x_bipush (pc' := 29) rfl rfl ?_
  refine x_isub (pc' := 30) (z := 0) rfl rfl (by decide) ?_
  refine x_icmp (a' := 2944) (pc' := 33) (z := false) rfl rfl rfl (by decide) (fun h => by cases h) (fun _ => ?_)
  refine x_aload_n (pc' := 34) rfl rfl rfl rfl rfl ?_
  refine x_iload (pc' := 36) rfl rfl rfl ?_
  refine x_iald (pc' := 37) (N := 7) (x := (xs 0)) rfl rfl rfl (z_N_29_0 e) (io_in (p := 0) (N := 7) (by decide) (by decide)) (Eq.trans (congrArg (sA t 29 0) (nn_io (p := 0) (by decide))) (z_A_29_0_0 e)) ?_
  refine x_bipush (pc' := 39) rfl rfl ?_
  refine x_iand (pc' := 40) (z := ((xs 0) &&& 63)) rfl rfl rfl ?_
  refine x_switch (pc' := 2240) rfl (by rw [hk]; decide) ?_
  refine x_aload_n (pc' := 2241) rfl rfl rfl rfl rfl ?_
  refine x_aload_n (pc' := 2242) rfl rfl rfl rfl rfl ?_
  refine x_iload (pc' := 2244) rfl rfl rfl ?_
  refine x_iconst (pc' := 2245) rfl rfl ?_
  refine x_iadd (pc' := 2246) (z := 1) rfl rfl (by decide) ?_
  refine x_iald (pc' := 2247) (N := 7) (x := 1) rfl rfl rfl (z_N_29_0 e) (io_in (p := 1) (N := 7) (by decide) (by decide)) (Eq.trans (congrArg (sA t 29 0) (nn_io (p := 1) (by decide))) (Eq.trans (z_A_29_0_1 e) e0)) ?_
  refine x_aload_n (pc' := 2248) rfl rfl rfl rfl rfl ?_
  refine x_cs (ls0 := [_, _, _, sJk]) (rest := []) rfl rfl rfl rfl ?_
  refine x_aload_n (pc' := 1) rfl rfl rfl rfl rfl ?_
  refine x_iconst (pc' := 2) rfl rfl ?_
  refine x_aload_n (pc' := 3) rfl rfl rfl rfl rfl ?_
  refine x_iload_n (pc' := 4) rfl rfl rfl ?_
  refine x_cv (ls0 := [_, _]) (rest := [_, _]) rfl rfl rfl rfl rfl ?_
  refine x_aload_n (pc' := 1) rfl rfl rfl rfl rfl ?_
  refine x_iload_n (pc' := 2) rfl rfl rfl ?_
  refine x_cv (ls0 := [_, _]) (rest := []) rfl rfl rfl rfl rfl ?_
  refine x_iload_n (pc' := 1) rfl rfl rfl ?_
  refine x_if (a' := 16) (pc' := 4) (z := false) rfl rfl rfl (by decide) (fun h => by cases h) (fun _ => ?_)
  refine x_iload_n (pc' := 5) rfl rfl rfl ?_
  refine x_aload_n (pc' := 6) rfl rfl rfl rfl rfl ?_
  refine x_gR (pc' := 9) (r := (some 0)) rfl rfl rfl (z_R_704_0 e) ?_
  refine x_gR (pc' := 12) (r := (some 0)) rfl rfl rfl (z_R_320_0 e) ?_
  refine x_alen (pc' := 13) (N := 3) rfl rfl rfl (z_N_25_0 e) (?_ : X _ _ _ (.inl 3 :: _) _ _)
  refine x_icmp (a' := 27) (pc' := 16) (z := true) rfl rfl rfl (by decide) (fun _ => ?_) (fun h => by cases h)
  refine x_aload_n (pc' := 28) rfl rfl rfl rfl rfl ?_
  refine x_gR (pc' := 31) (r := (some 0)) rfl rfl rfl (z_R_704_0 e) ?_
  refine x_gR (pc' := 34) (r := (some 0)) rfl rfl rfl (z_R_320_0 e) ?_
  refine x_iload_n (pc' := 35) rfl rfl rfl ?_
  refine x_aald (pc' := 36) (N := 3) (k' := 2) (r := (some 1)) rfl rfl rfl (z_N_25_0 e) (io_in (p := 1) (N := 3) (by decide) (by decide)) (Eq.trans (congrArg (sE t 25 0) (nn_io (p := 1) (by decide))) (z_E_25_0_1 e)) ?_
  refine x_reta rfl rfl ?_
  refine sK_i (pc' := 5) rfl ?_
  refine x_gI (pc' := 8) (x := 100) rfl rfl rfl (z_I_129_1 e) ?_
  refine x_reti rfl rfl ?_
  refine sK_i (pc' := 7) rfl ?_
  refine x_i2l (pc' := 8) (z := (100 : Int64)) rfl rfl (by decide) ?_
  refine x_last (pc' := 9) (N := 1) (p := 0) rfl rfl (z_N_23_0 e) (io_in (p := 0) (N := 1) (by decide) (by decide)) (nn_io (p := 0) (by decide)) ?_
  refine x_goto (pc' := 15) rfl rfl ?_
  refine x_iconst (pc' := 16) rfl rfl ?_
  refine x_reti rfl rfl ?_
  refine sK_i (pc' := 2251) rfl ?_
  refine x_istore (pc' := 2253) (ls' := [_, _, _, _, _, _, _]) rfl rfl rfl rfl ?_
  refine x_aload_n (pc' := 2254) rfl rfl rfl rfl rfl ?_
  refine x_aload_n (pc' := 2255) rfl rfl rfl rfl rfl ?_
  refine x_iload (pc' := 2257) rfl rfl rfl ?_
  refine x_iconst (pc' := 2258) rfl rfl ?_
  refine x_iadd (pc' := 2259) (z := 1) rfl rfl (by decide) ?_
  refine x_iald (pc' := 2260) (N := 7) (x := 1) rfl rfl rfl (Eq.trans rdNL (z_N_29_0 e)) (io_in (p := 1) (N := 7) (by decide) (by decide)) (Eq.trans (congrArg (sA (sLw t 23 0 0 (100 : Int64)) 29 0) (nn_io (p := 1) (by decide))) (Eq.trans rdAL (Eq.trans (z_A_29_0_1 e) e0))) ?_
  refine x_cv (ls0 := [_, _]) (rest := []) rfl rfl rfl rfl rfl ?_
  refine x_aload_n (pc' := 1) rfl rfl rfl rfl rfl ?_
  refine x_iload_n (pc' := 2) rfl rfl rfl ?_
  refine x_cs (ls0 := [_]) (rest := [_]) rfl rfl rfl rfl ?_
  refine x_iload_n (pc' := 1) rfl rfl rfl ?_
  refine x_iconst (pc' := 2) rfl rfl ?_
  refine x_iconst (pc' := 3) rfl rfl ?_
  refine x_cs (ls0 := [_, _, _]) (rest := []) rfl rfl rfl rfl ?_
  refine x_iload_n (pc' := 1) rfl rfl rfl ?_
  refine x_iload_n (pc' := 2) rfl rfl rfl ?_
  refine x_icmp (a' := 14) (pc' := 5) (z := false) rfl rfl rfl (by decide) (fun h => by cases h) (fun _ => ?_)
  refine x_iload_n (pc' := 6) rfl rfl rfl ?_
  refine x_iload_n (pc' := 7) rfl rfl rfl ?_
  refine x_icmp (a' := 14) (pc' := 10) (z := false) rfl rfl rfl (by decide) (fun h => by cases h) (fun _ => ?_)
  refine x_iconst (pc' := 11) rfl rfl ?_
  refine x_goto (pc' := 15) rfl rfl ?_
  refine x_retz (z := true) rfl rfl ?_
  refine sK_i (pc' := 6) rfl ?_
  refine x_retz (z := true) rfl rfl ?_
  refine sK_i (pc' := 5) rfl ?_
  refine x_if (a' := 12) (pc' := 8) (z := false) rfl rfl rfl (by decide) (fun h => by cases h) (fun _ => ?_)
  refine x_iconst (pc' := 9) rfl rfl ?_
  refine x_goto (pc' := 13) rfl rfl ?_
  refine x_cv (ls0 := [_, _]) (rest := []) rfl rfl rfl rfl rfl ?_
  refine x_aload_n (pc' := 1) rfl rfl rfl rfl rfl ?_
  refine x_iload_n (pc' := 2) rfl rfl rfl ?_
  refine x_pI (pc' := 5) rfl rfl rfl ?_
  refine x_iload_n (pc' := 6) rfl rfl rfl ?_
  refine x_if (a' := 13) (pc' := 9) (z := false) rfl rfl rfl (by decide) (fun h => by cases h) (fun _ => ?_)
  refine x_iconst (pc' := 10) rfl rfl ?_
  refine x_goto (pc' := 14) rfl rfl ?_
  refine x_retz (z := true) rfl rfl ?_
  refine sK_i (pc' := 16) rfl ?_
  refine x_if (a' := 28) (pc' := 19) (z := false) rfl rfl rfl (by decide) (fun h => by cases h) (fun _ => ?_)
  refine x_aload_n (pc' := 20) rfl rfl rfl rfl rfl ?_
  refine x_gR (pc' := 23) (r := (some 1)) rfl rfl rfl (Eq.trans rdRI (Eq.trans rdRL (z_R_771_0 e))) ?_
  refine x_iload_n (pc' := 24) rfl rfl rfl ?_
  refine x_iald (pc' := 25) (N := 3) (x := 100) rfl rfl rfl (Eq.trans rdNI (Eq.trans rdNL (z_N_21_1 e))) (io_in (p := 1) (N := 3) (by decide) (by decide)) (Eq.trans (congrArg (sA (sIw (sLw t 23 0 0 (100 : Int64)) 768 0 0) 21 1) (nn_io (p := 1) (by decide))) (Eq.trans rdAI (Eq.trans rdAL (z_A_21_1_1 e)))) ?_
  refine x_goto (pc' := 29) rfl rfl ?_
  refine x_reti rfl rfl ?_
  refine sK_i (pc' := 2263) rfl ?_
  refine x_istore (pc' := 2265) (ls' := [_, _, _, _, _, _, _]) rfl rfl rfl rfl ?_
  refine x_aload_n (pc' := 2266) rfl rfl rfl rfl rfl ?_
  refine x_cv (ls0 := [_]) (rest := []) rfl rfl rfl rfl rfl ?_
  refine x_aload_n (pc' := 1) rfl rfl rfl rfl rfl ?_
  refine x_gI (pc' := 4) (x := 0) rfl rfl rfl sI_s ?_
  refine x_reti rfl rfl ?_
  refine sK_i (pc' := 2269) rfl ?_
  refine x_iload (pc' := 2271) rfl rfl rfl ?_
  refine x_icmp (a' := 2276) (pc' := 2274) (z := true) rfl rfl rfl (by decide) (fun _ => ?_) (fun h => by cases h)
  refine x_iload (pc' := 2278) rfl rfl rfl ?_
  refine x_if (a' := 2293) (pc' := 2281) (z := false) rfl rfl rfl (by decide) (fun h => by cases h) (fun _ => ?_)
  refine x_aload_n (pc' := 2282) rfl rfl rfl rfl rfl ?_
  refine x_iconst (pc' := 2283) rfl rfl ?_
  refine x_lald (pc' := 2284) (N := 1) (x := (100 : Int64)) rfl rfl (Eq.trans rdNI (Eq.trans rdNL (z_N_23_0 e))) (io_in (p := 0) (N := 1) (by decide) (by decide)) (Eq.trans (congrArg (sL (sIw (sLw t 23 0 0 (100 : Int64)) 768 0 0) 23 0) (nn_io (p := 0) (by decide))) (Eq.trans rdLI sL_s)) ?_
  refine x_iload (pc' := 2286) rfl rfl rfl ?_
  refine x_i2l (pc' := 2287) (z := (100 : Int64)) rfl rfl (by decide) ?_
  refine x_lcmp (pc' := 2288) (z := 0) rfl rfl (sLcmp_s _) ?_
  refine x_if (a' := 2293) (pc' := 2291) (z := true) rfl rfl rfl (by decide) (fun _ => ?_) (fun h => by cases h)
  refine x_goto (pc' := 2938) rfl rfl ?_
  refine x_iinc (pc' := 2941) (y := 7) (ls' := [_, _, _, _, _, _, _]) rfl rfl rfl rfl rfl ?_
  refine x_goto (pc' := 23) rfl rfl ?_
  refine x_iload (pc' := 25) rfl rfl rfl ?_
  refine x_aload_n (pc' := 26) rfl rfl rfl rfl rfl ?_
  refine x_alen (pc' := 27) (N := 7) rfl rfl rfl (Eq.trans rdNI (Eq.trans rdNL (z_N_29_0 e))) (?_ : X _ _ _ (.inl 7 :: _) _ _)
  refine x_bipush (pc' := 29) rfl rfl ?_
  refine x_isub (pc' := 30) (z := 0) rfl rfl (by decide) ?_
  refine x_icmp (a' := 2944) (pc' := 33) (z := true) rfl rfl rfl (by decide) (fun _ => ?_) (fun h => by cases h)
  refine x_iconst (pc' := 2945) rfl rfl ?_
  refine x_retz (z := true) rfl rfl ?_
  exact Qp_ok e (p := 0) (q := 0) rfl rfl rfl rfl
set_option maxHeartbeats 4000000 in
set_option maxRecDepth 10000 in
theorem v_28_2 {t : sT} {xs : Nat → Int32}
    (e : t = T16 7 xs)
    (hk : ((xs 0) &&& 63) = 28)
    (e0 : xs 1 = 2) :
    X 297 23 [.inr (.inr (29, (some 0))), .inr (.inr (11, (some 0))), .inr (.inr (12, (some 0))), .inr (.inr (23, (some 0))), .inl 0, sJk, sJk] [] t Qp := by
  refine x_iload (pc' := 25) rfl rfl rfl ?_
  refine x_aload_n (pc' := 26) rfl rfl rfl rfl rfl ?_
  refine x_alen (pc' := 27) (N := 7) rfl rfl rfl (z_N_29_0 e) (?_ : X _ _ _ (.inl 7 :: _) _ _)
  refine x_bipush (pc' := 29) rfl rfl ?_
  refine x_isub (pc' := 30) (z := 0) rfl rfl (by decide) ?_
  refine x_icmp (a' := 2944) (pc' := 33) (z := false) rfl rfl rfl (by decide) (fun h => by cases h) (fun _ => ?_)
  refine x_aload_n (pc' := 34) rfl rfl rfl rfl rfl ?_
  refine x_iload (pc' := 36) rfl rfl rfl ?_
  refine x_iald (pc' := 37) (N := 7) (x := (xs 0)) rfl rfl rfl (z_N_29_0 e) (io_in (p := 0) (N := 7) (by decide) (by decide)) (Eq.trans (congrArg (sA t 29 0) (nn_io (p := 0) (by decide))) (z_A_29_0_0 e)) ?_
  refine x_bipush (pc' := 39) rfl rfl ?_
  refine x_iand (pc' := 40) (z := ((xs 0) &&& 63)) rfl rfl rfl ?_
  refine x_switch (pc' := 2240) rfl (by rw [hk]; decide) ?_
  refine x_aload_n (pc' := 2241) rfl rfl rfl rfl rfl ?_
  refine x_aload_n (pc' := 2242) rfl rfl rfl rfl rfl ?_
  refine x_iload (pc' := 2244) rfl rfl rfl ?_
  refine x_iconst (pc' := 2245) rfl rfl ?_
  refine x_iadd (pc' := 2246) (z := 1) rfl rfl (by decide) ?_
  refine x_iald (pc' := 2247) (N := 7) (x := 2) rfl rfl rfl (z_N_29_0 e) (io_in (p := 1) (N := 7) (by decide) (by decide)) (Eq.trans (congrArg (sA t 29 0) (nn_io (p := 1) (by decide))) (Eq.trans (z_A_29_0_1 e) e0)) ?_
  refine x_aload_n (pc' := 2248) rfl rfl rfl rfl rfl ?_
  refine x_cs (ls0 := [_, _, _, sJk]) (rest := []) rfl rfl rfl rfl ?_
  refine x_aload_n (pc' := 1) rfl rfl rfl rfl rfl ?_
  refine x_iconst (pc' := 2) rfl rfl ?_
  refine x_aload_n (pc' := 3) rfl rfl rfl rfl rfl ?_
  refine x_iload_n (pc' := 4) rfl rfl rfl ?_
  refine x_cv (ls0 := [_, _]) (rest := [_, _]) rfl rfl rfl rfl rfl ?_
  refine x_aload_n (pc' := 1) rfl rfl rfl rfl rfl ?_
  refine x_iload_n (pc' := 2) rfl rfl rfl ?_
  refine x_cv (ls0 := [_, _]) (rest := []) rfl rfl rfl rfl rfl ?_
  refine x_iload_n (pc' := 1) rfl rfl rfl ?_
  refine x_if (a' := 16) (pc' := 4) (z := false) rfl rfl rfl (by decide) (fun h => by cases h) (fun _ => ?_)
  refine x_iload_n (pc' := 5) rfl rfl rfl ?_
  refine x_aload_n (pc' := 6) rfl rfl rfl rfl rfl ?_
  refine x_gR (pc' := 9) (r := (some 0)) rfl rfl rfl (z_R_704_0 e) ?_
  refine x_gR (pc' := 12) (r := (some 0)) rfl rfl rfl (z_R_320_0 e) ?_
  refine x_alen (pc' := 13) (N := 3) rfl rfl rfl (z_N_25_0 e) (?_ : X _ _ _ (.inl 3 :: _) _ _)
  refine x_icmp (a' := 27) (pc' := 16) (z := true) rfl rfl rfl (by decide) (fun _ => ?_) (fun h => by cases h)
  refine x_aload_n (pc' := 28) rfl rfl rfl rfl rfl ?_
  refine x_gR (pc' := 31) (r := (some 0)) rfl rfl rfl (z_R_704_0 e) ?_
  refine x_gR (pc' := 34) (r := (some 0)) rfl rfl rfl (z_R_320_0 e) ?_
  refine x_iload_n (pc' := 35) rfl rfl rfl ?_
  refine x_aald (pc' := 36) (N := 3) (k' := 2) (r := (some 2)) rfl rfl rfl (z_N_25_0 e) (io_in (p := 2) (N := 3) (by decide) (by decide)) (Eq.trans (congrArg (sE t 25 0) (nn_io (p := 2) (by decide))) (z_E_25_0_2 e)) ?_
  refine x_reta rfl rfl ?_
  refine sK_i (pc' := 5) rfl ?_
  refine x_gI (pc' := 8) (x := 100) rfl rfl rfl (z_I_129_2 e) ?_
  refine x_reti rfl rfl ?_
  refine sK_i (pc' := 7) rfl ?_
  refine x_i2l (pc' := 8) (z := (100 : Int64)) rfl rfl (by decide) ?_
  refine x_last (pc' := 9) (N := 1) (p := 0) rfl rfl (z_N_23_0 e) (io_in (p := 0) (N := 1) (by decide) (by decide)) (nn_io (p := 0) (by decide)) ?_
  refine x_goto (pc' := 15) rfl rfl ?_
  refine x_iconst (pc' := 16) rfl rfl ?_
  refine x_reti rfl rfl ?_
  refine sK_i (pc' := 2251) rfl ?_
  refine x_istore (pc' := 2253) (ls' := [_, _, _, _, _, _, _]) rfl rfl rfl rfl ?_
  refine x_aload_n (pc' := 2254) rfl rfl rfl rfl rfl ?_
  refine x_aload_n (pc' := 2255) rfl rfl rfl rfl rfl ?_
  refine x_iload (pc' := 2257) rfl rfl rfl ?_
  refine x_iconst (pc' := 2258) rfl rfl ?_
  refine x_iadd (pc' := 2259) (z := 1) rfl rfl (by decide) ?_
  refine x_iald (pc' := 2260) (N := 7) (x := 2) rfl rfl rfl (Eq.trans rdNL (z_N_29_0 e)) (io_in (p := 1) (N := 7) (by decide) (by decide)) (Eq.trans (congrArg (sA (sLw t 23 0 0 (100 : Int64)) 29 0) (nn_io (p := 1) (by decide))) (Eq.trans rdAL (Eq.trans (z_A_29_0_1 e) e0))) ?_
  refine x_cv (ls0 := [_, _]) (rest := []) rfl rfl rfl rfl rfl ?_
  refine x_aload_n (pc' := 1) rfl rfl rfl rfl rfl ?_
  refine x_iload_n (pc' := 2) rfl rfl rfl ?_
  refine x_cs (ls0 := [_]) (rest := [_]) rfl rfl rfl rfl ?_
  refine x_iload_n (pc' := 1) rfl rfl rfl ?_
  refine x_iconst (pc' := 2) rfl rfl ?_
  refine x_iconst (pc' := 3) rfl rfl ?_
  refine x_cs (ls0 := [_, _, _]) (rest := []) rfl rfl rfl rfl ?_
  refine x_iload_n (pc' := 1) rfl rfl rfl ?_
  refine x_iload_n (pc' := 2) rfl rfl rfl ?_
  refine x_icmp (a' := 14) (pc' := 5) (z := false) rfl rfl rfl (by decide) (fun h => by cases h) (fun _ => ?_)
  refine x_iload_n (pc' := 6) rfl rfl rfl ?_
  refine x_iload_n (pc' := 7) rfl rfl rfl ?_
  refine x_icmp (a' := 14) (pc' := 10) (z := false) rfl rfl rfl (by decide) (fun h => by cases h) (fun _ => ?_)
  refine x_iconst (pc' := 11) rfl rfl ?_
  refine x_goto (pc' := 15) rfl rfl ?_
  refine x_retz (z := true) rfl rfl ?_
  refine sK_i (pc' := 6) rfl ?_
  refine x_retz (z := true) rfl rfl ?_
  refine sK_i (pc' := 5) rfl ?_
  refine x_if (a' := 12) (pc' := 8) (z := false) rfl rfl rfl (by decide) (fun h => by cases h) (fun _ => ?_)
  refine x_iconst (pc' := 9) rfl rfl ?_
  refine x_goto (pc' := 13) rfl rfl ?_
  refine x_cv (ls0 := [_, _]) (rest := []) rfl rfl rfl rfl rfl ?_
  refine x_aload_n (pc' := 1) rfl rfl rfl rfl rfl ?_
  refine x_iload_n (pc' := 2) rfl rfl rfl ?_
  refine x_pI (pc' := 5) rfl rfl rfl ?_
  refine x_iload_n (pc' := 6) rfl rfl rfl ?_
  refine x_if (a' := 13) (pc' := 9) (z := false) rfl rfl rfl (by decide) (fun h => by cases h) (fun _ => ?_)
  refine x_iconst (pc' := 10) rfl rfl ?_
  refine x_goto (pc' := 14) rfl rfl ?_
  refine x_retz (z := true) rfl rfl ?_
  refine sK_i (pc' := 16) rfl ?_
  refine x_if (a' := 28) (pc' := 19) (z := false) rfl rfl rfl (by decide) (fun h => by cases h) (fun _ => ?_)
  refine x_aload_n (pc' := 20) rfl rfl rfl rfl rfl ?_
  refine x_gR (pc' := 23) (r := (some 1)) rfl rfl rfl (Eq.trans rdRI (Eq.trans rdRL (z_R_771_0 e))) ?_
  refine x_iload_n (pc' := 24) rfl rfl rfl ?_
  refine x_iald (pc' := 25) (N := 3) (x := 100) rfl rfl rfl (Eq.trans rdNI (Eq.trans rdNL (z_N_21_1 e))) (io_in (p := 2) (N := 3) (by decide) (by decide)) (Eq.trans (congrArg (sA (sIw (sLw t 23 0 0 (100 : Int64)) 768 0 0) 21 1) (nn_io (p := 2) (by decide))) (Eq.trans rdAI (Eq.trans rdAL (z_A_21_1_2 e)))) ?_
  refine x_goto (pc' := 29) rfl rfl ?_
  refine x_reti rfl rfl ?_
  refine sK_i (pc' := 2263) rfl ?_
  refine x_istore (pc' := 2265) (ls' := [_, _, _, _, _, _, _]) rfl rfl rfl rfl ?_
  refine x_aload_n (pc' := 2266) rfl rfl rfl rfl rfl ?_
  refine x_cv (ls0 := [_]) (rest := []) rfl rfl rfl rfl rfl ?_
  refine x_aload_n (pc' := 1) rfl rfl rfl rfl rfl ?_
  refine x_gI (pc' := 4) (x := 0) rfl rfl rfl sI_s ?_
  refine x_reti rfl rfl ?_
  refine sK_i (pc' := 2269) rfl ?_
  refine x_iload (pc' := 2271) rfl rfl rfl ?_
  refine x_icmp (a' := 2276) (pc' := 2274) (z := true) rfl rfl rfl (by decide) (fun _ => ?_) (fun h => by cases h)
  refine x_iload (pc' := 2278) rfl rfl rfl ?_
  refine x_if (a' := 2293) (pc' := 2281) (z := false) rfl rfl rfl (by decide) (fun h => by cases h) (fun _ => ?_)
  refine x_aload_n (pc' := 2282) rfl rfl rfl rfl rfl ?_
  refine x_iconst (pc' := 2283) rfl rfl ?_
  refine x_lald (pc' := 2284) (N := 1) (x := (100 : Int64)) rfl rfl (Eq.trans rdNI (Eq.trans rdNL (z_N_23_0 e))) (io_in (p := 0) (N := 1) (by decide) (by decide)) (Eq.trans (congrArg (sL (sIw (sLw t 23 0 0 (100 : Int64)) 768 0 0) 23 0) (nn_io (p := 0) (by decide))) (Eq.trans rdLI sL_s)) ?_
  refine x_iload (pc' := 2286) rfl rfl rfl ?_
  refine x_i2l (pc' := 2287) (z := (100 : Int64)) rfl rfl (by decide) ?_
  refine x_lcmp (pc' := 2288) (z := 0) rfl rfl (sLcmp_s _) ?_
  refine x_if (a' := 2293) (pc' := 2291) (z := true) rfl rfl rfl (by decide) (fun _ => ?_) (fun h => by cases h)
  refine x_goto (pc' := 2938) rfl rfl ?_
  refine x_iinc (pc' := 2941) (y := 7) (ls' := [_, _, _, _, _, _, _]) rfl rfl rfl rfl rfl ?_
  refine x_goto (pc' := 23) rfl rfl ?_
  refine x_iload (pc' := 25) rfl rfl rfl ?_
  refine x_aload_n (pc' := 26) rfl rfl rfl rfl rfl ?_
  refine x_alen (pc' := 27) (N := 7) rfl rfl rfl (Eq.trans rdNI (Eq.trans rdNL (z_N_29_0 e))) (?_ : X _ _ _ (.inl 7 :: _) _ _)
  refine x_bipush (pc' := 29) rfl rfl ?_
  refine x_isub (pc' := 30) (z := 0) rfl rfl (by decide) ?_
  refine x_icmp (a' := 2944) (pc' := 33) (z := true) rfl rfl rfl (by decide) (fun _ => ?_) (fun h => by cases h)
  refine x_iconst (pc' := 2945) rfl rfl ?_
  refine x_retz (z := true) rfl rfl ?_
  exact Qp_ok e (p := 0) (q := 0) rfl rfl rfl rfl
set_option maxHeartbeats 4000000 in
set_option maxRecDepth 10000 in
theorem v_28_A {t : sT} {xs : Nat → Int32}
    (e : t = T16 7 xs)
    (hk : ((xs 0) &&& 63) = 28)
    (e0 : (xs 1) < 0) :
    X 297 23 [.inr (.inr (29, (some 0))), .inr (.inr (11, (some 0))), .inr (.inr (12, (some 0))), .inr (.inr (23, (some 0))), .inl 0, sJk, sJk] [] t Qp := by
  refine x_iload (pc' := 25) rfl rfl rfl ?_
  refine x_aload_n (pc' := 26) rfl rfl rfl rfl rfl ?_
  refine x_alen (pc' := 27) (N := 7) rfl rfl rfl (z_N_29_0 e) (?_ : X _ _ _ (.inl 7 :: _) _ _)
  refine x_bipush (pc' := 29) rfl rfl ?_
  refine x_isub (pc' := 30) (z := 0) rfl rfl (by decide) ?_
  refine x_icmp (a' := 2944) (pc' := 33) (z := false) rfl rfl rfl (by decide) (fun h => by cases h) (fun _ => ?_)
  refine x_aload_n (pc' := 34) rfl rfl rfl rfl rfl ?_
  refine x_iload (pc' := 36) rfl rfl rfl ?_
  refine x_iald (pc' := 37) (N := 7) (x := (xs 0)) rfl rfl rfl (z_N_29_0 e) (io_in (p := 0) (N := 7) (by decide) (by decide)) (Eq.trans (congrArg (sA t 29 0) (nn_io (p := 0) (by decide))) (z_A_29_0_0 e)) ?_
  refine x_bipush (pc' := 39) rfl rfl ?_
  refine x_iand (pc' := 40) (z := ((xs 0) &&& 63)) rfl rfl rfl ?_
  refine x_switch (pc' := 2240) rfl (by rw [hk]; decide) ?_
  refine x_aload_n (pc' := 2241) rfl rfl rfl rfl rfl ?_
  refine x_aload_n (pc' := 2242) rfl rfl rfl rfl rfl ?_
  refine x_iload (pc' := 2244) rfl rfl rfl ?_
  refine x_iconst (pc' := 2245) rfl rfl ?_
  refine x_iadd (pc' := 2246) (z := 1) rfl rfl (by decide) ?_
  refine x_iald (pc' := 2247) (N := 7) (x := (xs 1)) rfl rfl rfl (z_N_29_0 e) (io_in (p := 1) (N := 7) (by decide) (by decide)) (Eq.trans (congrArg (sA t 29 0) (nn_io (p := 1) (by decide))) (z_A_29_0_1 e)) ?_
  refine x_aload_n (pc' := 2248) rfl rfl rfl rfl rfl ?_
  refine x_cs (ls0 := [_, _, _, sJk]) (rest := []) rfl rfl rfl rfl ?_
  refine x_aload_n (pc' := 1) rfl rfl rfl rfl rfl ?_
  refine x_iconst (pc' := 2) rfl rfl ?_
  refine x_aload_n (pc' := 3) rfl rfl rfl rfl rfl ?_
  refine x_iload_n (pc' := 4) rfl rfl rfl ?_
  refine x_cv (ls0 := [_, _]) (rest := [_, _]) rfl rfl rfl rfl rfl ?_
  refine x_aload_n (pc' := 1) rfl rfl rfl rfl rfl ?_
  refine x_iload_n (pc' := 2) rfl rfl rfl ?_
  refine x_cv (ls0 := [_, _]) (rest := []) rfl rfl rfl rfl rfl ?_
  refine x_iload_n (pc' := 1) rfl rfl rfl ?_
  refine x_if (a' := 16) (pc' := 4) (z := decide ((xs 1) < 0)) rfl rfl rfl rfl (fun _ => ?_) (fun h => absurd e0 (of_decide_eq_false h))
  refine x_throw rfl rfl ?_
  refine sK_n (by decide +kernel) rfl ?_
  refine sK_h (h := 12) (by decide +kernel) rfl ?_
  refine x_catch_n (pc' := 13) (ls' := [_, _, _, _]) rfl rfl rfl rfl ?_
  refine x_iconst (pc' := 14) rfl rfl ?_
  refine x_reti rfl rfl ?_
  refine sK_i (pc' := 2251) rfl ?_
  refine x_istore (pc' := 2253) (ls' := [_, _, _, _, _, _, _]) rfl rfl rfl rfl ?_
  refine x_aload_n (pc' := 2254) rfl rfl rfl rfl rfl ?_
  refine x_aload_n (pc' := 2255) rfl rfl rfl rfl rfl ?_
  refine x_iload (pc' := 2257) rfl rfl rfl ?_
  refine x_iconst (pc' := 2258) rfl rfl ?_
  refine x_iadd (pc' := 2259) (z := 1) rfl rfl (by decide) ?_
  refine x_iald (pc' := 2260) (N := 7) (x := (xs 1)) rfl rfl rfl (Eq.trans rdNthr (z_N_29_0 e)) (io_in (p := 1) (N := 7) (by decide) (by decide)) (Eq.trans (congrArg (sA (sThr t) 29 0) (nn_io (p := 1) (by decide))) (Eq.trans rdAthr (z_A_29_0_1 e))) ?_
  refine x_cv (ls0 := [_, _]) (rest := []) rfl rfl rfl rfl rfl ?_
  refine x_aload_n (pc' := 1) rfl rfl rfl rfl rfl ?_
  refine x_iload_n (pc' := 2) rfl rfl rfl ?_
  refine x_cs (ls0 := [_]) (rest := [_]) rfl rfl rfl rfl ?_
  refine x_iload_n (pc' := 1) rfl rfl rfl ?_
  refine x_iconst (pc' := 2) rfl rfl ?_
  refine x_iconst (pc' := 3) rfl rfl ?_
  refine x_cs (ls0 := [_, _, _]) (rest := []) rfl rfl rfl rfl ?_
  refine x_iload_n (pc' := 1) rfl rfl rfl ?_
  refine x_iload_n (pc' := 2) rfl rfl rfl ?_
  refine x_icmp (a' := 14) (pc' := 5) (z := decide ((xs 1) < 0)) rfl rfl rfl rfl (fun _ => ?_) (fun h => absurd e0 (of_decide_eq_false h))
  refine x_iconst (pc' := 15) rfl rfl ?_
  refine x_retz (z := false) rfl rfl ?_
  refine sK_i (pc' := 6) rfl ?_
  refine x_retz (z := false) rfl rfl ?_
  refine sK_i (pc' := 5) rfl ?_
  refine x_if (a' := 12) (pc' := 8) (z := true) rfl rfl rfl (by decide) (fun _ => ?_) (fun h => by cases h)
  refine x_iconst (pc' := 13) rfl rfl ?_
  refine x_cv (ls0 := [_, _]) (rest := []) rfl rfl rfl rfl rfl ?_
  refine x_aload_n (pc' := 1) rfl rfl rfl rfl rfl ?_
  refine x_iload_n (pc' := 2) rfl rfl rfl ?_
  refine x_pI (pc' := 5) rfl rfl rfl ?_
  refine x_iload_n (pc' := 6) rfl rfl rfl ?_
  refine x_if (a' := 13) (pc' := 9) (z := true) rfl rfl rfl (by decide) (fun _ => ?_) (fun h => by cases h)
  refine x_iconst (pc' := 14) rfl rfl ?_
  refine x_retz (z := false) rfl rfl ?_
  refine sK_i (pc' := 16) rfl ?_
  refine x_if (a' := 28) (pc' := 19) (z := true) rfl rfl rfl (by decide) (fun _ => ?_) (fun h => by cases h)
  refine x_iconst (pc' := 29) rfl rfl ?_
  refine x_reti rfl rfl ?_
  refine sK_i (pc' := 2263) rfl ?_
  refine x_istore (pc' := 2265) (ls' := [_, _, _, _, _, _, _]) rfl rfl rfl rfl ?_
  refine x_aload_n (pc' := 2266) rfl rfl rfl rfl rfl ?_
  refine x_cv (ls0 := [_]) (rest := []) rfl rfl rfl rfl rfl ?_
  refine x_aload_n (pc' := 1) rfl rfl rfl rfl rfl ?_
  refine x_gI (pc' := 4) (x := 1) rfl rfl rfl sI_s ?_
  refine x_reti rfl rfl ?_
  refine sK_i (pc' := 2269) rfl ?_
  refine x_iload (pc' := 2271) rfl rfl rfl ?_
  refine x_icmp (a' := 2276) (pc' := 2274) (z := true) rfl rfl rfl (by decide) (fun _ => ?_) (fun h => by cases h)
  refine x_iload (pc' := 2278) rfl rfl rfl ?_
  refine x_if (a' := 2293) (pc' := 2281) (z := true) rfl rfl rfl (by decide) (fun _ => ?_) (fun h => by cases h)
  refine x_goto (pc' := 2938) rfl rfl ?_
  refine x_iinc (pc' := 2941) (y := 7) (ls' := [_, _, _, _, _, _, _]) rfl rfl rfl rfl rfl ?_
  refine x_goto (pc' := 23) rfl rfl ?_
  refine x_iload (pc' := 25) rfl rfl rfl ?_
  refine x_aload_n (pc' := 26) rfl rfl rfl rfl rfl ?_
  refine x_alen (pc' := 27) (N := 7) rfl rfl rfl (Eq.trans rdNI (Eq.trans rdNthr (z_N_29_0 e))) (?_ : X _ _ _ (.inl 7 :: _) _ _)
  refine x_bipush (pc' := 29) rfl rfl ?_
  refine x_isub (pc' := 30) (z := 0) rfl rfl (by decide) ?_
  refine x_icmp (a' := 2944) (pc' := 33) (z := true) rfl rfl rfl (by decide) (fun _ => ?_) (fun h => by cases h)
  refine x_iconst (pc' := 2945) rfl rfl ?_
  refine x_retz (z := true) rfl rfl ?_
  exact Qp_ok e (p := 1) (q := 6) rfl rfl rfl rfl
set_option maxHeartbeats 4000000 in
set_option maxRecDepth 10000 in
theorem v_28_B {t : sT} {xs : Nat → Int32}
    (e : t = T16 7 xs)
    (hk : ((xs 0) &&& 63) = 28)
    (e0 : ¬ (xs 1) < 0)
    (f0 : ¬ (xs 1) < 3) :
    X 297 23 [.inr (.inr (29, (some 0))), .inr (.inr (11, (some 0))), .inr (.inr (12, (some 0))), .inr (.inr (23, (some 0))), .inl 0, sJk, sJk] [] t Qp := by
  refine x_iload (pc' := 25) rfl rfl rfl ?_
  refine x_aload_n (pc' := 26) rfl rfl rfl rfl rfl ?_
  refine x_alen (pc' := 27) (N := 7) rfl rfl rfl (z_N_29_0 e) (?_ : X _ _ _ (.inl 7 :: _) _ _)
  refine x_bipush (pc' := 29) rfl rfl ?_
  refine x_isub (pc' := 30) (z := 0) rfl rfl (by decide) ?_
  refine x_icmp (a' := 2944) (pc' := 33) (z := false) rfl rfl rfl (by decide) (fun h => by cases h) (fun _ => ?_)
  refine x_aload_n (pc' := 34) rfl rfl rfl rfl rfl ?_
  refine x_iload (pc' := 36) rfl rfl rfl ?_
  refine x_iald (pc' := 37) (N := 7) (x := (xs 0)) rfl rfl rfl (z_N_29_0 e) (io_in (p := 0) (N := 7) (by decide) (by decide)) (Eq.trans (congrArg (sA t 29 0) (nn_io (p := 0) (by decide))) (z_A_29_0_0 e)) ?_
  refine x_bipush (pc' := 39) rfl rfl ?_
  refine x_iand (pc' := 40) (z := ((xs 0) &&& 63)) rfl rfl rfl ?_
  refine x_switch (pc' := 2240) rfl (by rw [hk]; decide) ?_
  refine x_aload_n (pc' := 2241) rfl rfl rfl rfl rfl ?_
  refine x_aload_n (pc' := 2242) rfl rfl rfl rfl rfl ?_
  refine x_iload (pc' := 2244) rfl rfl rfl ?_
  refine x_iconst (pc' := 2245) rfl rfl ?_
  refine x_iadd (pc' := 2246) (z := 1) rfl rfl (by decide) ?_
  refine x_iald (pc' := 2247) (N := 7) (x := (xs 1)) rfl rfl rfl (z_N_29_0 e) (io_in (p := 1) (N := 7) (by decide) (by decide)) (Eq.trans (congrArg (sA t 29 0) (nn_io (p := 1) (by decide))) (z_A_29_0_1 e)) ?_
  refine x_aload_n (pc' := 2248) rfl rfl rfl rfl rfl ?_
  refine x_cs (ls0 := [_, _, _, sJk]) (rest := []) rfl rfl rfl rfl ?_
  refine x_aload_n (pc' := 1) rfl rfl rfl rfl rfl ?_
  refine x_iconst (pc' := 2) rfl rfl ?_
  refine x_aload_n (pc' := 3) rfl rfl rfl rfl rfl ?_
  refine x_iload_n (pc' := 4) rfl rfl rfl ?_
  refine x_cv (ls0 := [_, _]) (rest := [_, _]) rfl rfl rfl rfl rfl ?_
  refine x_aload_n (pc' := 1) rfl rfl rfl rfl rfl ?_
  refine x_iload_n (pc' := 2) rfl rfl rfl ?_
  refine x_cv (ls0 := [_, _]) (rest := []) rfl rfl rfl rfl rfl ?_
  refine x_iload_n (pc' := 1) rfl rfl rfl ?_
  refine x_if (a' := 16) (pc' := 4) (z := decide ((xs 1) < 0)) rfl rfl rfl rfl (fun h => absurd (of_decide_eq_true h) e0) (fun _ => ?_)
  refine x_iload_n (pc' := 5) rfl rfl rfl ?_
  refine x_aload_n (pc' := 6) rfl rfl rfl rfl rfl ?_
  refine x_gR (pc' := 9) (r := (some 0)) rfl rfl rfl (z_R_704_0 e) ?_
  refine x_gR (pc' := 12) (r := (some 0)) rfl rfl rfl (z_R_320_0 e) ?_
  refine x_alen (pc' := 13) (N := 3) rfl rfl rfl (z_N_25_0 e) (?_ : X _ _ _ (.inl 3 :: _) _ _)
  refine x_icmp (a' := 27) (pc' := 16) (z := decide ((xs 1) < 3)) rfl rfl rfl rfl (fun h => absurd (of_decide_eq_true h) f0) (fun _ => ?_)
  refine x_throw rfl rfl ?_
  refine sK_n (by decide +kernel) rfl ?_
  refine sK_h (h := 12) (by decide +kernel) rfl ?_
  refine x_catch_n (pc' := 13) (ls' := [_, _, _, _]) rfl rfl rfl rfl ?_
  refine x_iconst (pc' := 14) rfl rfl ?_
  refine x_reti rfl rfl ?_
  refine sK_i (pc' := 2251) rfl ?_
  refine x_istore (pc' := 2253) (ls' := [_, _, _, _, _, _, _]) rfl rfl rfl rfl ?_
  refine x_aload_n (pc' := 2254) rfl rfl rfl rfl rfl ?_
  refine x_aload_n (pc' := 2255) rfl rfl rfl rfl rfl ?_
  refine x_iload (pc' := 2257) rfl rfl rfl ?_
  refine x_iconst (pc' := 2258) rfl rfl ?_
  refine x_iadd (pc' := 2259) (z := 1) rfl rfl (by decide) ?_
  refine x_iald (pc' := 2260) (N := 7) (x := (xs 1)) rfl rfl rfl (Eq.trans rdNthr (z_N_29_0 e)) (io_in (p := 1) (N := 7) (by decide) (by decide)) (Eq.trans (congrArg (sA (sThr t) 29 0) (nn_io (p := 1) (by decide))) (Eq.trans rdAthr (z_A_29_0_1 e))) ?_
  refine x_cv (ls0 := [_, _]) (rest := []) rfl rfl rfl rfl rfl ?_
  refine x_aload_n (pc' := 1) rfl rfl rfl rfl rfl ?_
  refine x_iload_n (pc' := 2) rfl rfl rfl ?_
  refine x_cs (ls0 := [_]) (rest := [_]) rfl rfl rfl rfl ?_
  refine x_iload_n (pc' := 1) rfl rfl rfl ?_
  refine x_iconst (pc' := 2) rfl rfl ?_
  refine x_iconst (pc' := 3) rfl rfl ?_
  refine x_cs (ls0 := [_, _, _]) (rest := []) rfl rfl rfl rfl ?_
  refine x_iload_n (pc' := 1) rfl rfl rfl ?_
  refine x_iload_n (pc' := 2) rfl rfl rfl ?_
  refine x_icmp (a' := 14) (pc' := 5) (z := decide ((xs 1) < 0)) rfl rfl rfl rfl (fun h => absurd (of_decide_eq_true h) e0) (fun _ => ?_)
  refine x_iload_n (pc' := 6) rfl rfl rfl ?_
  refine x_iload_n (pc' := 7) rfl rfl rfl ?_
  refine x_icmp (a' := 14) (pc' := 10) (z := decide (2 < (xs 1))) rfl rfl rfl rfl (fun _ => ?_) (fun h => absurd (lt_of3 f0) (of_decide_eq_false h))
  refine x_iconst (pc' := 15) rfl rfl ?_
  refine x_retz (z := false) rfl rfl ?_
  refine sK_i (pc' := 6) rfl ?_
  refine x_retz (z := false) rfl rfl ?_
  refine sK_i (pc' := 5) rfl ?_
  refine x_if (a' := 12) (pc' := 8) (z := true) rfl rfl rfl (by decide) (fun _ => ?_) (fun h => by cases h)
  refine x_iconst (pc' := 13) rfl rfl ?_
  refine x_cv (ls0 := [_, _]) (rest := []) rfl rfl rfl rfl rfl ?_
  refine x_aload_n (pc' := 1) rfl rfl rfl rfl rfl ?_
  refine x_iload_n (pc' := 2) rfl rfl rfl ?_
  refine x_pI (pc' := 5) rfl rfl rfl ?_
  refine x_iload_n (pc' := 6) rfl rfl rfl ?_
  refine x_if (a' := 13) (pc' := 9) (z := true) rfl rfl rfl (by decide) (fun _ => ?_) (fun h => by cases h)
  refine x_iconst (pc' := 14) rfl rfl ?_
  refine x_retz (z := false) rfl rfl ?_
  refine sK_i (pc' := 16) rfl ?_
  refine x_if (a' := 28) (pc' := 19) (z := true) rfl rfl rfl (by decide) (fun _ => ?_) (fun h => by cases h)
  refine x_iconst (pc' := 29) rfl rfl ?_
  refine x_reti rfl rfl ?_
  refine sK_i (pc' := 2263) rfl ?_
  refine x_istore (pc' := 2265) (ls' := [_, _, _, _, _, _, _]) rfl rfl rfl rfl ?_
  refine x_aload_n (pc' := 2266) rfl rfl rfl rfl rfl ?_
  refine x_cv (ls0 := [_]) (rest := []) rfl rfl rfl rfl rfl ?_
  refine x_aload_n (pc' := 1) rfl rfl rfl rfl rfl ?_
  refine x_gI (pc' := 4) (x := 1) rfl rfl rfl sI_s ?_
  refine x_reti rfl rfl ?_
  refine sK_i (pc' := 2269) rfl ?_
  refine x_iload (pc' := 2271) rfl rfl rfl ?_
  refine x_icmp (a' := 2276) (pc' := 2274) (z := true) rfl rfl rfl (by decide) (fun _ => ?_) (fun h => by cases h)
  refine x_iload (pc' := 2278) rfl rfl rfl ?_
  refine x_if (a' := 2293) (pc' := 2281) (z := true) rfl rfl rfl (by decide) (fun _ => ?_) (fun h => by cases h)
  refine x_goto (pc' := 2938) rfl rfl ?_
  refine x_iinc (pc' := 2941) (y := 7) (ls' := [_, _, _, _, _, _, _]) rfl rfl rfl rfl rfl ?_
  refine x_goto (pc' := 23) rfl rfl ?_
  refine x_iload (pc' := 25) rfl rfl rfl ?_
  refine x_aload_n (pc' := 26) rfl rfl rfl rfl rfl ?_
  refine x_alen (pc' := 27) (N := 7) rfl rfl rfl (Eq.trans rdNI (Eq.trans rdNthr (z_N_29_0 e))) (?_ : X _ _ _ (.inl 7 :: _) _ _)
  refine x_bipush (pc' := 29) rfl rfl ?_
  refine x_isub (pc' := 30) (z := 0) rfl rfl (by decide) ?_
  refine x_icmp (a' := 2944) (pc' := 33) (z := true) rfl rfl rfl (by decide) (fun _ => ?_) (fun h => by cases h)
  refine x_iconst (pc' := 2945) rfl rfl ?_
  refine x_retz (z := true) rfl rfl ?_
  exact Qp_ok e (p := 1) (q := 6) rfl rfl rfl rfl
set_option maxHeartbeats 4000000 in
set_option maxRecDepth 10000 in
theorem v_29_0 {t : sT} {xs : Nat → Int32}
    (e : t = T16 7 xs)
    (hk : ((xs 0) &&& 63) = 29)
    (e0 : xs 1 = 0) :
    X 297 23 [.inr (.inr (29, (some 0))), .inr (.inr (11, (some 0))), .inr (.inr (12, (some 0))), .inr (.inr (23, (some 0))), .inl 0, sJk, sJk] [] t Qp := by
  refine x_iload (pc' := 25) rfl rfl rfl ?_
  refine x_aload_n (pc' := 26) rfl rfl rfl rfl rfl ?_
  refine x_alen (pc' := 27) (N := 7) rfl rfl rfl (z_N_29_0 e) (?_ : X _ _ _ (.inl 7 :: _) _ _)
  refine x_bipush (pc' := 29) rfl rfl ?_
  refine x_isub (pc' := 30) (z := 0) rfl rfl (by decide) ?_
  refine x_icmp (a' := 2944) (pc' := 33) (z := false) rfl rfl rfl (by decide) (fun h => by cases h) (fun _ => ?_)
  refine x_aload_n (pc' := 34) rfl rfl rfl rfl rfl ?_
  refine x_iload (pc' := 36) rfl rfl rfl ?_
  refine x_iald (pc' := 37) (N := 7) (x := (xs 0)) rfl rfl rfl (z_N_29_0 e) (io_in (p := 0) (N := 7) (by decide) (by decide)) (Eq.trans (congrArg (sA t 29 0) (nn_io (p := 0) (by decide))) (z_A_29_0_0 e)) ?_
  refine x_bipush (pc' := 39) rfl rfl ?_
  refine x_iand (pc' := 40) (z := ((xs 0) &&& 63)) rfl rfl rfl ?_
  refine x_switch (pc' := 2296) rfl (by rw [hk]; decide) ?_
  refine x_aload_n (pc' := 2297) rfl rfl rfl rfl rfl ?_
  refine x_aload_n (pc' := 2298) rfl rfl rfl rfl rfl ?_
  refine x_iload (pc' := 2300) rfl rfl rfl ?_
  refine x_iconst (pc' := 2301) rfl rfl ?_
  refine x_iadd (pc' := 2302) (z := 1) rfl rfl (by decide) ?_
  refine x_iald (pc' := 2303) (N := 7) (x := 0) rfl rfl rfl (z_N_29_0 e) (io_in (p := 1) (N := 7) (by decide) (by decide)) (Eq.trans (congrArg (sA t 29 0) (nn_io (p := 1) (by decide))) (Eq.trans (z_A_29_0_1 e) e0)) ?_
  refine x_aload_n (pc' := 2304) rfl rfl rfl rfl rfl ?_
  refine x_cs (ls0 := [_, _, _, sJk]) (rest := []) rfl rfl rfl rfl ?_
  refine x_aload_n (pc' := 1) rfl rfl rfl rfl rfl ?_
  refine x_iconst (pc' := 2) rfl rfl ?_
  refine x_aload_n (pc' := 3) rfl rfl rfl rfl rfl ?_
  refine x_iload_n (pc' := 4) rfl rfl rfl ?_
  refine x_cv (ls0 := [_, _]) (rest := [_, _]) rfl rfl rfl rfl rfl ?_
  refine x_aload_n (pc' := 1) rfl rfl rfl rfl rfl ?_
  refine x_iload_n (pc' := 2) rfl rfl rfl ?_
  refine x_cv (ls0 := [_, _]) (rest := []) rfl rfl rfl rfl rfl ?_
  refine x_iload_n (pc' := 1) rfl rfl rfl ?_
  refine x_if (a' := 16) (pc' := 4) (z := false) rfl rfl rfl (by decide) (fun h => by cases h) (fun _ => ?_)
  refine x_iload_n (pc' := 5) rfl rfl rfl ?_
  refine x_aload_n (pc' := 6) rfl rfl rfl rfl rfl ?_
  refine x_gR (pc' := 9) (r := (some 0)) rfl rfl rfl (z_R_704_0 e) ?_
  refine x_gR (pc' := 12) (r := (some 0)) rfl rfl rfl (z_R_320_0 e) ?_
  refine x_alen (pc' := 13) (N := 3) rfl rfl rfl (z_N_25_0 e) (?_ : X _ _ _ (.inl 3 :: _) _ _)
  refine x_icmp (a' := 27) (pc' := 16) (z := true) rfl rfl rfl (by decide) (fun _ => ?_) (fun h => by cases h)
  refine x_aload_n (pc' := 28) rfl rfl rfl rfl rfl ?_
  refine x_gR (pc' := 31) (r := (some 0)) rfl rfl rfl (z_R_704_0 e) ?_
  refine x_gR (pc' := 34) (r := (some 0)) rfl rfl rfl (z_R_320_0 e) ?_
  refine x_iload_n (pc' := 35) rfl rfl rfl ?_
  refine x_aald (pc' := 36) (N := 3) (k' := 2) (r := (some 0)) rfl rfl rfl (z_N_25_0 e) (io_in (p := 0) (N := 3) (by decide) (by decide)) (Eq.trans (congrArg (sE t 25 0) (nn_io (p := 0) (by decide))) (z_E_25_0_0 e)) ?_
  refine x_reta rfl rfl ?_
  refine sK_i (pc' := 5) rfl ?_
  refine x_gI (pc' := 8) (x := 100) rfl rfl rfl (z_I_130_0 e) ?_
  refine x_reti rfl rfl ?_
  refine sK_i (pc' := 7) rfl ?_
  refine x_i2l (pc' := 8) (z := (100 : Int64)) rfl rfl (by decide) ?_
  refine x_last (pc' := 9) (N := 1) (p := 0) rfl rfl (z_N_23_0 e) (io_in (p := 0) (N := 1) (by decide) (by decide)) (nn_io (p := 0) (by decide)) ?_
  refine x_goto (pc' := 15) rfl rfl ?_
  refine x_iconst (pc' := 16) rfl rfl ?_
  refine x_reti rfl rfl ?_
  refine sK_i (pc' := 2307) rfl ?_
  refine x_istore (pc' := 2309) (ls' := [_, _, _, _, _, _, _]) rfl rfl rfl rfl ?_
  refine x_aload_n (pc' := 2310) rfl rfl rfl rfl rfl ?_
  refine x_aload_n (pc' := 2311) rfl rfl rfl rfl rfl ?_
  refine x_iload (pc' := 2313) rfl rfl rfl ?_
  refine x_iconst (pc' := 2314) rfl rfl ?_
  refine x_iadd (pc' := 2315) (z := 1) rfl rfl (by decide) ?_
  refine x_iald (pc' := 2316) (N := 7) (x := 0) rfl rfl rfl (Eq.trans rdNL (z_N_29_0 e)) (io_in (p := 1) (N := 7) (by decide) (by decide)) (Eq.trans (congrArg (sA (sLw t 23 0 0 (100 : Int64)) 29 0) (nn_io (p := 1) (by decide))) (Eq.trans rdAL (Eq.trans (z_A_29_0_1 e) e0))) ?_
  refine x_cv (ls0 := [_, _]) (rest := []) rfl rfl rfl rfl rfl ?_
  refine x_aload_n (pc' := 1) rfl rfl rfl rfl rfl ?_
  refine x_iload_n (pc' := 2) rfl rfl rfl ?_
  refine x_cs (ls0 := [_]) (rest := [_]) rfl rfl rfl rfl ?_
  refine x_iload_n (pc' := 1) rfl rfl rfl ?_
  refine x_iconst (pc' := 2) rfl rfl ?_
  refine x_iconst (pc' := 3) rfl rfl ?_
  refine x_cs (ls0 := [_, _, _]) (rest := []) rfl rfl rfl rfl ?_
  refine x_iload_n (pc' := 1) rfl rfl rfl ?_
  refine x_iload_n (pc' := 2) rfl rfl rfl ?_
  refine x_icmp (a' := 14) (pc' := 5) (z := false) rfl rfl rfl (by decide) (fun h => by cases h) (fun _ => ?_)
  refine x_iload_n (pc' := 6) rfl rfl rfl ?_
  refine x_iload_n (pc' := 7) rfl rfl rfl ?_
  refine x_icmp (a' := 14) (pc' := 10) (z := false) rfl rfl rfl (by decide) (fun h => by cases h) (fun _ => ?_)
  refine x_iconst (pc' := 11) rfl rfl ?_
  refine x_goto (pc' := 15) rfl rfl ?_
  refine x_retz (z := true) rfl rfl ?_
  refine sK_i (pc' := 6) rfl ?_
  refine x_retz (z := true) rfl rfl ?_
  refine sK_i (pc' := 5) rfl ?_
  refine x_if (a' := 12) (pc' := 8) (z := false) rfl rfl rfl (by decide) (fun h => by cases h) (fun _ => ?_)
  refine x_iconst (pc' := 9) rfl rfl ?_
  refine x_goto (pc' := 13) rfl rfl ?_
  refine x_cv (ls0 := [_, _]) (rest := []) rfl rfl rfl rfl rfl ?_
  refine x_aload_n (pc' := 1) rfl rfl rfl rfl rfl ?_
  refine x_iload_n (pc' := 2) rfl rfl rfl ?_
  refine x_pI (pc' := 5) rfl rfl rfl ?_
  refine x_iload_n (pc' := 6) rfl rfl rfl ?_
  refine x_if (a' := 13) (pc' := 9) (z := false) rfl rfl rfl (by decide) (fun h => by cases h) (fun _ => ?_)
  refine x_iconst (pc' := 10) rfl rfl ?_
  refine x_goto (pc' := 14) rfl rfl ?_
  refine x_retz (z := true) rfl rfl ?_
  refine sK_i (pc' := 16) rfl ?_
  refine x_if (a' := 28) (pc' := 19) (z := false) rfl rfl rfl (by decide) (fun h => by cases h) (fun _ => ?_)
  refine x_aload_n (pc' := 20) rfl rfl rfl rfl rfl ?_
  refine x_gR (pc' := 23) (r := (some 2)) rfl rfl rfl (Eq.trans rdRI (Eq.trans rdRL (z_R_772_0 e))) ?_
  refine x_iload_n (pc' := 24) rfl rfl rfl ?_
  refine x_iald (pc' := 25) (N := 3) (x := 100) rfl rfl rfl (Eq.trans rdNI (Eq.trans rdNL (z_N_21_2 e))) (io_in (p := 0) (N := 3) (by decide) (by decide)) (Eq.trans (congrArg (sA (sIw (sLw t 23 0 0 (100 : Int64)) 768 0 0) 21 2) (nn_io (p := 0) (by decide))) (Eq.trans rdAI (Eq.trans rdAL (z_A_21_2_0 e)))) ?_
  refine x_goto (pc' := 29) rfl rfl ?_
  refine x_reti rfl rfl ?_
  refine sK_i (pc' := 2319) rfl ?_
  refine x_istore (pc' := 2321) (ls' := [_, _, _, _, _, _, _]) rfl rfl rfl rfl ?_
  refine x_aload_n (pc' := 2322) rfl rfl rfl rfl rfl ?_
  refine x_cv (ls0 := [_]) (rest := []) rfl rfl rfl rfl rfl ?_
  refine x_aload_n (pc' := 1) rfl rfl rfl rfl rfl ?_
  refine x_gI (pc' := 4) (x := 0) rfl rfl rfl sI_s ?_
  refine x_reti rfl rfl ?_
  refine sK_i (pc' := 2325) rfl ?_
  refine x_iload (pc' := 2327) rfl rfl rfl ?_
  refine x_icmp (a' := 2332) (pc' := 2330) (z := true) rfl rfl rfl (by decide) (fun _ => ?_) (fun h => by cases h)
  refine x_iload (pc' := 2334) rfl rfl rfl ?_
  refine x_if (a' := 2349) (pc' := 2337) (z := false) rfl rfl rfl (by decide) (fun h => by cases h) (fun _ => ?_)
  refine x_aload_n (pc' := 2338) rfl rfl rfl rfl rfl ?_
  refine x_iconst (pc' := 2339) rfl rfl ?_
  refine x_lald (pc' := 2340) (N := 1) (x := (100 : Int64)) rfl rfl (Eq.trans rdNI (Eq.trans rdNL (z_N_23_0 e))) (io_in (p := 0) (N := 1) (by decide) (by decide)) (Eq.trans (congrArg (sL (sIw (sLw t 23 0 0 (100 : Int64)) 768 0 0) 23 0) (nn_io (p := 0) (by decide))) (Eq.trans rdLI sL_s)) ?_
  refine x_iload (pc' := 2342) rfl rfl rfl ?_
  refine x_i2l (pc' := 2343) (z := (100 : Int64)) rfl rfl (by decide) ?_
  refine x_lcmp (pc' := 2344) (z := 0) rfl rfl (sLcmp_s _) ?_
  refine x_if (a' := 2349) (pc' := 2347) (z := true) rfl rfl rfl (by decide) (fun _ => ?_) (fun h => by cases h)
  refine x_goto (pc' := 2938) rfl rfl ?_
  refine x_iinc (pc' := 2941) (y := 7) (ls' := [_, _, _, _, _, _, _]) rfl rfl rfl rfl rfl ?_
  refine x_goto (pc' := 23) rfl rfl ?_
  refine x_iload (pc' := 25) rfl rfl rfl ?_
  refine x_aload_n (pc' := 26) rfl rfl rfl rfl rfl ?_
  refine x_alen (pc' := 27) (N := 7) rfl rfl rfl (Eq.trans rdNI (Eq.trans rdNL (z_N_29_0 e))) (?_ : X _ _ _ (.inl 7 :: _) _ _)
  refine x_bipush (pc' := 29) rfl rfl ?_
  refine x_isub (pc' := 30) (z := 0) rfl rfl (by decide) ?_
  refine x_icmp (a' := 2944) (pc' := 33) (z := true) rfl rfl rfl (by decide) (fun _ => ?_) (fun h => by cases h)
  refine x_iconst (pc' := 2945) rfl rfl ?_
  refine x_retz (z := true) rfl rfl ?_
  exact Qp_ok e (p := 0) (q := 0) rfl rfl rfl rfl
set_option maxHeartbeats 4000000 in
set_option maxRecDepth 10000 in
theorem v_29_1 {t : sT} {xs : Nat → Int32}
    (e : t = T16 7 xs)
    (hk : ((xs 0) &&& 63) = 29)
    (e0 : xs 1 = 1) :
    X 297 23 [.inr (.inr (29, (some 0))), .inr (.inr (11, (some 0))), .inr (.inr (12, (some 0))), .inr (.inr (23, (some 0))), .inl 0, sJk, sJk] [] t Qp := by
  refine x_iload (pc' := 25) rfl rfl rfl ?_
  refine x_aload_n (pc' := 26) rfl rfl rfl rfl rfl ?_
  refine x_alen (pc' := 27) (N := 7) rfl rfl rfl (z_N_29_0 e) (?_ : X _ _ _ (.inl 7 :: _) _ _)
  refine x_bipush (pc' := 29) rfl rfl ?_
  refine x_isub (pc' := 30) (z := 0) rfl rfl (by decide) ?_
  refine x_icmp (a' := 2944) (pc' := 33) (z := false) rfl rfl rfl (by decide) (fun h => by cases h) (fun _ => ?_)
  refine x_aload_n (pc' := 34) rfl rfl rfl rfl rfl ?_
  refine x_iload (pc' := 36) rfl rfl rfl ?_
  refine x_iald (pc' := 37) (N := 7) (x := (xs 0)) rfl rfl rfl (z_N_29_0 e) (io_in (p := 0) (N := 7) (by decide) (by decide)) (Eq.trans (congrArg (sA t 29 0) (nn_io (p := 0) (by decide))) (z_A_29_0_0 e)) ?_
  refine x_bipush (pc' := 39) rfl rfl ?_
  refine x_iand (pc' := 40) (z := ((xs 0) &&& 63)) rfl rfl rfl ?_
  refine x_switch (pc' := 2296) rfl (by rw [hk]; decide) ?_
  refine x_aload_n (pc' := 2297) rfl rfl rfl rfl rfl ?_
  refine x_aload_n (pc' := 2298) rfl rfl rfl rfl rfl ?_
  refine x_iload (pc' := 2300) rfl rfl rfl ?_
  refine x_iconst (pc' := 2301) rfl rfl ?_
  refine x_iadd (pc' := 2302) (z := 1) rfl rfl (by decide) ?_
  refine x_iald (pc' := 2303) (N := 7) (x := 1) rfl rfl rfl (z_N_29_0 e) (io_in (p := 1) (N := 7) (by decide) (by decide)) (Eq.trans (congrArg (sA t 29 0) (nn_io (p := 1) (by decide))) (Eq.trans (z_A_29_0_1 e) e0)) ?_
  refine x_aload_n (pc' := 2304) rfl rfl rfl rfl rfl ?_
  refine x_cs (ls0 := [_, _, _, sJk]) (rest := []) rfl rfl rfl rfl ?_
  refine x_aload_n (pc' := 1) rfl rfl rfl rfl rfl ?_
  refine x_iconst (pc' := 2) rfl rfl ?_
  refine x_aload_n (pc' := 3) rfl rfl rfl rfl rfl ?_
  refine x_iload_n (pc' := 4) rfl rfl rfl ?_
  refine x_cv (ls0 := [_, _]) (rest := [_, _]) rfl rfl rfl rfl rfl ?_
  refine x_aload_n (pc' := 1) rfl rfl rfl rfl rfl ?_
  refine x_iload_n (pc' := 2) rfl rfl rfl ?_
  refine x_cv (ls0 := [_, _]) (rest := []) rfl rfl rfl rfl rfl ?_
  refine x_iload_n (pc' := 1) rfl rfl rfl ?_
  refine x_if (a' := 16) (pc' := 4) (z := false) rfl rfl rfl (by decide) (fun h => by cases h) (fun _ => ?_)
  refine x_iload_n (pc' := 5) rfl rfl rfl ?_
  refine x_aload_n (pc' := 6) rfl rfl rfl rfl rfl ?_
  refine x_gR (pc' := 9) (r := (some 0)) rfl rfl rfl (z_R_704_0 e) ?_
  refine x_gR (pc' := 12) (r := (some 0)) rfl rfl rfl (z_R_320_0 e) ?_
  refine x_alen (pc' := 13) (N := 3) rfl rfl rfl (z_N_25_0 e) (?_ : X _ _ _ (.inl 3 :: _) _ _)
  refine x_icmp (a' := 27) (pc' := 16) (z := true) rfl rfl rfl (by decide) (fun _ => ?_) (fun h => by cases h)
  refine x_aload_n (pc' := 28) rfl rfl rfl rfl rfl ?_
  refine x_gR (pc' := 31) (r := (some 0)) rfl rfl rfl (z_R_704_0 e) ?_
  refine x_gR (pc' := 34) (r := (some 0)) rfl rfl rfl (z_R_320_0 e) ?_
  refine x_iload_n (pc' := 35) rfl rfl rfl ?_
  refine x_aald (pc' := 36) (N := 3) (k' := 2) (r := (some 1)) rfl rfl rfl (z_N_25_0 e) (io_in (p := 1) (N := 3) (by decide) (by decide)) (Eq.trans (congrArg (sE t 25 0) (nn_io (p := 1) (by decide))) (z_E_25_0_1 e)) ?_
  refine x_reta rfl rfl ?_
  refine sK_i (pc' := 5) rfl ?_
  refine x_gI (pc' := 8) (x := 100) rfl rfl rfl (z_I_130_1 e) ?_
  refine x_reti rfl rfl ?_
  refine sK_i (pc' := 7) rfl ?_
  refine x_i2l (pc' := 8) (z := (100 : Int64)) rfl rfl (by decide) ?_
  refine x_last (pc' := 9) (N := 1) (p := 0) rfl rfl (z_N_23_0 e) (io_in (p := 0) (N := 1) (by decide) (by decide)) (nn_io (p := 0) (by decide)) ?_
  refine x_goto (pc' := 15) rfl rfl ?_
  refine x_iconst (pc' := 16) rfl rfl ?_
  refine x_reti rfl rfl ?_
  refine sK_i (pc' := 2307) rfl ?_
  refine x_istore (pc' := 2309) (ls' := [_, _, _, _, _, _, _]) rfl rfl rfl rfl ?_
  refine x_aload_n (pc' := 2310) rfl rfl rfl rfl rfl ?_
  refine x_aload_n (pc' := 2311) rfl rfl rfl rfl rfl ?_
  refine x_iload (pc' := 2313) rfl rfl rfl ?_
  refine x_iconst (pc' := 2314) rfl rfl ?_
  refine x_iadd (pc' := 2315) (z := 1) rfl rfl (by decide) ?_
  refine x_iald (pc' := 2316) (N := 7) (x := 1) rfl rfl rfl (Eq.trans rdNL (z_N_29_0 e)) (io_in (p := 1) (N := 7) (by decide) (by decide)) (Eq.trans (congrArg (sA (sLw t 23 0 0 (100 : Int64)) 29 0) (nn_io (p := 1) (by decide))) (Eq.trans rdAL (Eq.trans (z_A_29_0_1 e) e0))) ?_
  refine x_cv (ls0 := [_, _]) (rest := []) rfl rfl rfl rfl rfl ?_
  refine x_aload_n (pc' := 1) rfl rfl rfl rfl rfl ?_
  refine x_iload_n (pc' := 2) rfl rfl rfl ?_
  refine x_cs (ls0 := [_]) (rest := [_]) rfl rfl rfl rfl ?_
  refine x_iload_n (pc' := 1) rfl rfl rfl ?_
  refine x_iconst (pc' := 2) rfl rfl ?_
  refine x_iconst (pc' := 3) rfl rfl ?_
  refine x_cs (ls0 := [_, _, _]) (rest := []) rfl rfl rfl rfl ?_
  refine x_iload_n (pc' := 1) rfl rfl rfl ?_
  refine x_iload_n (pc' := 2) rfl rfl rfl ?_
  refine x_icmp (a' := 14) (pc' := 5) (z := false) rfl rfl rfl (by decide) (fun h => by cases h) (fun _ => ?_)
  refine x_iload_n (pc' := 6) rfl rfl rfl ?_
  refine x_iload_n (pc' := 7) rfl rfl rfl ?_
  refine x_icmp (a' := 14) (pc' := 10) (z := false) rfl rfl rfl (by decide) (fun h => by cases h) (fun _ => ?_)
  refine x_iconst (pc' := 11) rfl rfl ?_
  refine x_goto (pc' := 15) rfl rfl ?_
  refine x_retz (z := true) rfl rfl ?_
  refine sK_i (pc' := 6) rfl ?_
  refine x_retz (z := true) rfl rfl ?_
  refine sK_i (pc' := 5) rfl ?_
  refine x_if (a' := 12) (pc' := 8) (z := false) rfl rfl rfl (by decide) (fun h => by cases h) (fun _ => ?_)
  refine x_iconst (pc' := 9) rfl rfl ?_
  refine x_goto (pc' := 13) rfl rfl ?_
  refine x_cv (ls0 := [_, _]) (rest := []) rfl rfl rfl rfl rfl ?_
  refine x_aload_n (pc' := 1) rfl rfl rfl rfl rfl ?_
  refine x_iload_n (pc' := 2) rfl rfl rfl ?_
  refine x_pI (pc' := 5) rfl rfl rfl ?_
  refine x_iload_n (pc' := 6) rfl rfl rfl ?_
  refine x_if (a' := 13) (pc' := 9) (z := false) rfl rfl rfl (by decide) (fun h => by cases h) (fun _ => ?_)
  refine x_iconst (pc' := 10) rfl rfl ?_
  refine x_goto (pc' := 14) rfl rfl ?_
  refine x_retz (z := true) rfl rfl ?_
  refine sK_i (pc' := 16) rfl ?_
  refine x_if (a' := 28) (pc' := 19) (z := false) rfl rfl rfl (by decide) (fun h => by cases h) (fun _ => ?_)
  refine x_aload_n (pc' := 20) rfl rfl rfl rfl rfl ?_
  refine x_gR (pc' := 23) (r := (some 2)) rfl rfl rfl (Eq.trans rdRI (Eq.trans rdRL (z_R_772_0 e))) ?_
  refine x_iload_n (pc' := 24) rfl rfl rfl ?_
  refine x_iald (pc' := 25) (N := 3) (x := 100) rfl rfl rfl (Eq.trans rdNI (Eq.trans rdNL (z_N_21_2 e))) (io_in (p := 1) (N := 3) (by decide) (by decide)) (Eq.trans (congrArg (sA (sIw (sLw t 23 0 0 (100 : Int64)) 768 0 0) 21 2) (nn_io (p := 1) (by decide))) (Eq.trans rdAI (Eq.trans rdAL (z_A_21_2_1 e)))) ?_
  refine x_goto (pc' := 29) rfl rfl ?_
  refine x_reti rfl rfl ?_
  refine sK_i (pc' := 2319) rfl ?_
  refine x_istore (pc' := 2321) (ls' := [_, _, _, _, _, _, _]) rfl rfl rfl rfl ?_
  refine x_aload_n (pc' := 2322) rfl rfl rfl rfl rfl ?_
  refine x_cv (ls0 := [_]) (rest := []) rfl rfl rfl rfl rfl ?_
  refine x_aload_n (pc' := 1) rfl rfl rfl rfl rfl ?_
  refine x_gI (pc' := 4) (x := 0) rfl rfl rfl sI_s ?_
  refine x_reti rfl rfl ?_
  refine sK_i (pc' := 2325) rfl ?_
  refine x_iload (pc' := 2327) rfl rfl rfl ?_
  refine x_icmp (a' := 2332) (pc' := 2330) (z := true) rfl rfl rfl (by decide) (fun _ => ?_) (fun h => by cases h)
  refine x_iload (pc' := 2334) rfl rfl rfl ?_
  refine x_if (a' := 2349) (pc' := 2337) (z := false) rfl rfl rfl (by decide) (fun h => by cases h) (fun _ => ?_)
  refine x_aload_n (pc' := 2338) rfl rfl rfl rfl rfl ?_
  refine x_iconst (pc' := 2339) rfl rfl ?_
  refine x_lald (pc' := 2340) (N := 1) (x := (100 : Int64)) rfl rfl (Eq.trans rdNI (Eq.trans rdNL (z_N_23_0 e))) (io_in (p := 0) (N := 1) (by decide) (by decide)) (Eq.trans (congrArg (sL (sIw (sLw t 23 0 0 (100 : Int64)) 768 0 0) 23 0) (nn_io (p := 0) (by decide))) (Eq.trans rdLI sL_s)) ?_
  refine x_iload (pc' := 2342) rfl rfl rfl ?_
  refine x_i2l (pc' := 2343) (z := (100 : Int64)) rfl rfl (by decide) ?_
  refine x_lcmp (pc' := 2344) (z := 0) rfl rfl (sLcmp_s _) ?_
  refine x_if (a' := 2349) (pc' := 2347) (z := true) rfl rfl rfl (by decide) (fun _ => ?_) (fun h => by cases h)
  refine x_goto (pc' := 2938) rfl rfl ?_
  refine x_iinc (pc' := 2941) (y := 7) (ls' := [_, _, _, _, _, _, _]) rfl rfl rfl rfl rfl ?_
  refine x_goto (pc' := 23) rfl rfl ?_
  refine x_iload (pc' := 25) rfl rfl rfl ?_
  refine x_aload_n (pc' := 26) rfl rfl rfl rfl rfl ?_
  refine x_alen (pc' := 27) (N := 7) rfl rfl rfl (Eq.trans rdNI (Eq.trans rdNL (z_N_29_0 e))) (?_ : X _ _ _ (.inl 7 :: _) _ _)
  refine x_bipush (pc' := 29) rfl rfl ?_
  refine x_isub (pc' := 30) (z := 0) rfl rfl (by decide) ?_
  refine x_icmp (a' := 2944) (pc' := 33) (z := true) rfl rfl rfl (by decide) (fun _ => ?_) (fun h => by cases h)
  refine x_iconst (pc' := 2945) rfl rfl ?_
  refine x_retz (z := true) rfl rfl ?_
  exact Qp_ok e (p := 0) (q := 0) rfl rfl rfl rfl
set_option maxHeartbeats 4000000 in
set_option maxRecDepth 10000 in
theorem v_29_2 {t : sT} {xs : Nat → Int32}
    (e : t = T16 7 xs)
    (hk : ((xs 0) &&& 63) = 29)
    (e0 : xs 1 = 2) :
    X 297 23 [.inr (.inr (29, (some 0))), .inr (.inr (11, (some 0))), .inr (.inr (12, (some 0))), .inr (.inr (23, (some 0))), .inl 0, sJk, sJk] [] t Qp := by
  refine x_iload (pc' := 25) rfl rfl rfl ?_
  refine x_aload_n (pc' := 26) rfl rfl rfl rfl rfl ?_
  refine x_alen (pc' := 27) (N := 7) rfl rfl rfl (z_N_29_0 e) (?_ : X _ _ _ (.inl 7 :: _) _ _)
  refine x_bipush (pc' := 29) rfl rfl ?_
  refine x_isub (pc' := 30) (z := 0) rfl rfl (by decide) ?_
  refine x_icmp (a' := 2944) (pc' := 33) (z := false) rfl rfl rfl (by decide) (fun h => by cases h) (fun _ => ?_)
  refine x_aload_n (pc' := 34) rfl rfl rfl rfl rfl ?_
  refine x_iload (pc' := 36) rfl rfl rfl ?_
  refine x_iald (pc' := 37) (N := 7) (x := (xs 0)) rfl rfl rfl (z_N_29_0 e) (io_in (p := 0) (N := 7) (by decide) (by decide)) (Eq.trans (congrArg (sA t 29 0) (nn_io (p := 0) (by decide))) (z_A_29_0_0 e)) ?_
  refine x_bipush (pc' := 39) rfl rfl ?_
  refine x_iand (pc' := 40) (z := ((xs 0) &&& 63)) rfl rfl rfl ?_
  refine x_switch (pc' := 2296) rfl (by rw [hk]; decide) ?_
  refine x_aload_n (pc' := 2297) rfl rfl rfl rfl rfl ?_
  refine x_aload_n (pc' := 2298) rfl rfl rfl rfl rfl ?_
  refine x_iload (pc' := 2300) rfl rfl rfl ?_
  refine x_iconst (pc' := 2301) rfl rfl ?_
  refine x_iadd (pc' := 2302) (z := 1) rfl rfl (by decide) ?_
  refine x_iald (pc' := 2303) (N := 7) (x := 2) rfl rfl rfl (z_N_29_0 e) (io_in (p := 1) (N := 7) (by decide) (by decide)) (Eq.trans (congrArg (sA t 29 0) (nn_io (p := 1) (by decide))) (Eq.trans (z_A_29_0_1 e) e0)) ?_
  refine x_aload_n (pc' := 2304) rfl rfl rfl rfl rfl ?_
  refine x_cs (ls0 := [_, _, _, sJk]) (rest := []) rfl rfl rfl rfl ?_
  refine x_aload_n (pc' := 1) rfl rfl rfl rfl rfl ?_
  refine x_iconst (pc' := 2) rfl rfl ?_
  refine x_aload_n (pc' := 3) rfl rfl rfl rfl rfl ?_
  refine x_iload_n (pc' := 4) rfl rfl rfl ?_
  refine x_cv (ls0 := [_, _]) (rest := [_, _]) rfl rfl rfl rfl rfl ?_
  refine x_aload_n (pc' := 1) rfl rfl rfl rfl rfl ?_
  refine x_iload_n (pc' := 2) rfl rfl rfl ?_
  refine x_cv (ls0 := [_, _]) (rest := []) rfl rfl rfl rfl rfl ?_
  refine x_iload_n (pc' := 1) rfl rfl rfl ?_
  refine x_if (a' := 16) (pc' := 4) (z := false) rfl rfl rfl (by decide) (fun h => by cases h) (fun _ => ?_)
  refine x_iload_n (pc' := 5) rfl rfl rfl ?_
  refine x_aload_n (pc' := 6) rfl rfl rfl rfl rfl ?_
  refine x_gR (pc' := 9) (r := (some 0)) rfl rfl rfl (z_R_704_0 e) ?_
  refine x_gR (pc' := 12) (r := (some 0)) rfl rfl rfl (z_R_320_0 e) ?_
  refine x_alen (pc' := 13) (N := 3) rfl rfl rfl (z_N_25_0 e) (?_ : X _ _ _ (.inl 3 :: _) _ _)
  refine x_icmp (a' := 27) (pc' := 16) (z := true) rfl rfl rfl (by decide) (fun _ => ?_) (fun h => by cases h)
  refine x_aload_n (pc' := 28) rfl rfl rfl rfl rfl ?_
  refine x_gR (pc' := 31) (r := (some 0)) rfl rfl rfl (z_R_704_0 e) ?_
  refine x_gR (pc' := 34) (r := (some 0)) rfl rfl rfl (z_R_320_0 e) ?_
  refine x_iload_n (pc' := 35) rfl rfl rfl ?_
  refine x_aald (pc' := 36) (N := 3) (k' := 2) (r := (some 2)) rfl rfl rfl (z_N_25_0 e) (io_in (p := 2) (N := 3) (by decide) (by decide)) (Eq.trans (congrArg (sE t 25 0) (nn_io (p := 2) (by decide))) (z_E_25_0_2 e)) ?_
  refine x_reta rfl rfl ?_
  refine sK_i (pc' := 5) rfl ?_
  refine x_gI (pc' := 8) (x := 100) rfl rfl rfl (z_I_130_2 e) ?_
  refine x_reti rfl rfl ?_
  refine sK_i (pc' := 7) rfl ?_
  refine x_i2l (pc' := 8) (z := (100 : Int64)) rfl rfl (by decide) ?_
  refine x_last (pc' := 9) (N := 1) (p := 0) rfl rfl (z_N_23_0 e) (io_in (p := 0) (N := 1) (by decide) (by decide)) (nn_io (p := 0) (by decide)) ?_
  refine x_goto (pc' := 15) rfl rfl ?_
  refine x_iconst (pc' := 16) rfl rfl ?_
  refine x_reti rfl rfl ?_
  refine sK_i (pc' := 2307) rfl ?_
  refine x_istore (pc' := 2309) (ls' := [_, _, _, _, _, _, _]) rfl rfl rfl rfl ?_
  refine x_aload_n (pc' := 2310) rfl rfl rfl rfl rfl ?_
  refine x_aload_n (pc' := 2311) rfl rfl rfl rfl rfl ?_
  refine x_iload (pc' := 2313) rfl rfl rfl ?_
  refine x_iconst (pc' := 2314) rfl rfl ?_
  refine x_iadd (pc' := 2315) (z := 1) rfl rfl (by decide) ?_
  refine x_iald (pc' := 2316) (N := 7) (x := 2) rfl rfl rfl (Eq.trans rdNL (z_N_29_0 e)) (io_in (p := 1) (N := 7) (by decide) (by decide)) (Eq.trans (congrArg (sA (sLw t 23 0 0 (100 : Int64)) 29 0) (nn_io (p := 1) (by decide))) (Eq.trans rdAL (Eq.trans (z_A_29_0_1 e) e0))) ?_
  refine x_cv (ls0 := [_, _]) (rest := []) rfl rfl rfl rfl rfl ?_
  refine x_aload_n (pc' := 1) rfl rfl rfl rfl rfl ?_
  refine x_iload_n (pc' := 2) rfl rfl rfl ?_
  refine x_cs (ls0 := [_]) (rest := [_]) rfl rfl rfl rfl ?_
  refine x_iload_n (pc' := 1) rfl rfl rfl ?_
  refine x_iconst (pc' := 2) rfl rfl ?_
  refine x_iconst (pc' := 3) rfl rfl ?_
  refine x_cs (ls0 := [_, _, _]) (rest := []) rfl rfl rfl rfl ?_
  refine x_iload_n (pc' := 1) rfl rfl rfl ?_
  refine x_iload_n (pc' := 2) rfl rfl rfl ?_
  refine x_icmp (a' := 14) (pc' := 5) (z := false) rfl rfl rfl (by decide) (fun h => by cases h) (fun _ => ?_)
  refine x_iload_n (pc' := 6) rfl rfl rfl ?_
  refine x_iload_n (pc' := 7) rfl rfl rfl ?_
  refine x_icmp (a' := 14) (pc' := 10) (z := false) rfl rfl rfl (by decide) (fun h => by cases h) (fun _ => ?_)
  refine x_iconst (pc' := 11) rfl rfl ?_
  refine x_goto (pc' := 15) rfl rfl ?_
  refine x_retz (z := true) rfl rfl ?_
  refine sK_i (pc' := 6) rfl ?_
  refine x_retz (z := true) rfl rfl ?_
  refine sK_i (pc' := 5) rfl ?_
  refine x_if (a' := 12) (pc' := 8) (z := false) rfl rfl rfl (by decide) (fun h => by cases h) (fun _ => ?_)
  refine x_iconst (pc' := 9) rfl rfl ?_
  refine x_goto (pc' := 13) rfl rfl ?_
  refine x_cv (ls0 := [_, _]) (rest := []) rfl rfl rfl rfl rfl ?_
  refine x_aload_n (pc' := 1) rfl rfl rfl rfl rfl ?_
  refine x_iload_n (pc' := 2) rfl rfl rfl ?_
  refine x_pI (pc' := 5) rfl rfl rfl ?_
  refine x_iload_n (pc' := 6) rfl rfl rfl ?_
  refine x_if (a' := 13) (pc' := 9) (z := false) rfl rfl rfl (by decide) (fun h => by cases h) (fun _ => ?_)
  refine x_iconst (pc' := 10) rfl rfl ?_
  refine x_goto (pc' := 14) rfl rfl ?_
  refine x_retz (z := true) rfl rfl ?_
  refine sK_i (pc' := 16) rfl ?_
  refine x_if (a' := 28) (pc' := 19) (z := false) rfl rfl rfl (by decide) (fun h => by cases h) (fun _ => ?_)
  refine x_aload_n (pc' := 20) rfl rfl rfl rfl rfl ?_
  refine x_gR (pc' := 23) (r := (some 2)) rfl rfl rfl (Eq.trans rdRI (Eq.trans rdRL (z_R_772_0 e))) ?_
  refine x_iload_n (pc' := 24) rfl rfl rfl ?_
  refine x_iald (pc' := 25) (N := 3) (x := 100) rfl rfl rfl (Eq.trans rdNI (Eq.trans rdNL (z_N_21_2 e))) (io_in (p := 2) (N := 3) (by decide) (by decide)) (Eq.trans (congrArg (sA (sIw (sLw t 23 0 0 (100 : Int64)) 768 0 0) 21 2) (nn_io (p := 2) (by decide))) (Eq.trans rdAI (Eq.trans rdAL (z_A_21_2_2 e)))) ?_
  refine x_goto (pc' := 29) rfl rfl ?_
  refine x_reti rfl rfl ?_
  refine sK_i (pc' := 2319) rfl ?_
  refine x_istore (pc' := 2321) (ls' := [_, _, _, _, _, _, _]) rfl rfl rfl rfl ?_
  refine x_aload_n (pc' := 2322) rfl rfl rfl rfl rfl ?_
  refine x_cv (ls0 := [_]) (rest := []) rfl rfl rfl rfl rfl ?_
  refine x_aload_n (pc' := 1) rfl rfl rfl rfl rfl ?_
  refine x_gI (pc' := 4) (x := 0) rfl rfl rfl sI_s ?_
  refine x_reti rfl rfl ?_
  refine sK_i (pc' := 2325) rfl ?_
  refine x_iload (pc' := 2327) rfl rfl rfl ?_
  refine x_icmp (a' := 2332) (pc' := 2330) (z := true) rfl rfl rfl (by decide) (fun _ => ?_) (fun h => by cases h)
  refine x_iload (pc' := 2334) rfl rfl rfl ?_
  refine x_if (a' := 2349) (pc' := 2337) (z := false) rfl rfl rfl (by decide) (fun h => by cases h) (fun _ => ?_)
  refine x_aload_n (pc' := 2338) rfl rfl rfl rfl rfl ?_
  refine x_iconst (pc' := 2339) rfl rfl ?_
  refine x_lald (pc' := 2340) (N := 1) (x := (100 : Int64)) rfl rfl (Eq.trans rdNI (Eq.trans rdNL (z_N_23_0 e))) (io_in (p := 0) (N := 1) (by decide) (by decide)) (Eq.trans (congrArg (sL (sIw (sLw t 23 0 0 (100 : Int64)) 768 0 0) 23 0) (nn_io (p := 0) (by decide))) (Eq.trans rdLI sL_s)) ?_
  refine x_iload (pc' := 2342) rfl rfl rfl ?_
  refine x_i2l (pc' := 2343) (z := (100 : Int64)) rfl rfl (by decide) ?_
  refine x_lcmp (pc' := 2344) (z := 0) rfl rfl (sLcmp_s _) ?_
  refine x_if (a' := 2349) (pc' := 2347) (z := true) rfl rfl rfl (by decide) (fun _ => ?_) (fun h => by cases h)
  refine x_goto (pc' := 2938) rfl rfl ?_
  refine x_iinc (pc' := 2941) (y := 7) (ls' := [_, _, _, _, _, _, _]) rfl rfl rfl rfl rfl ?_
  refine x_goto (pc' := 23) rfl rfl ?_
  refine x_iload (pc' := 25) rfl rfl rfl ?_
  refine x_aload_n (pc' := 26) rfl rfl rfl rfl rfl ?_
  refine x_alen (pc' := 27) (N := 7) rfl rfl rfl (Eq.trans rdNI (Eq.trans rdNL (z_N_29_0 e))) (?_ : X _ _ _ (.inl 7 :: _) _ _)
  refine x_bipush (pc' := 29) rfl rfl ?_
  refine x_isub (pc' := 30) (z := 0) rfl rfl (by decide) ?_
  refine x_icmp (a' := 2944) (pc' := 33) (z := true) rfl rfl rfl (by decide) (fun _ => ?_) (fun h => by cases h)
  refine x_iconst (pc' := 2945) rfl rfl ?_
  refine x_retz (z := true) rfl rfl ?_
  exact Qp_ok e (p := 0) (q := 0) rfl rfl rfl rfl
set_option maxHeartbeats 4000000 in
set_option maxRecDepth 10000 in
theorem v_29_A {t : sT} {xs : Nat → Int32}
    (e : t = T16 7 xs)
    (hk : ((xs 0) &&& 63) = 29)
    (e0 : (xs 1) < 0) :
    X 297 23 [.inr (.inr (29, (some 0))), .inr (.inr (11, (some 0))), .inr (.inr (12, (some 0))), .inr (.inr (23, (some 0))), .inl 0, sJk, sJk] [] t Qp := by
  refine x_iload (pc' := 25) rfl rfl rfl ?_
  refine x_aload_n (pc' := 26) rfl rfl rfl rfl rfl ?_
  refine x_alen (pc' := 27) (N := 7) rfl rfl rfl (z_N_29_0 e) (?_ : X _ _ _ (.inl 7 :: _) _ _)
  refine x_bipush (pc' := 29) rfl rfl ?_
  refine x_isub (pc' := 30) (z := 0) rfl rfl (by decide) ?_
  refine x_icmp (a' := 2944) (pc' := 33) (z := false) rfl rfl rfl (by decide) (fun h => by cases h) (fun _ => ?_)
  refine x_aload_n (pc' := 34) rfl rfl rfl rfl rfl ?_
  refine x_iload (pc' := 36) rfl rfl rfl ?_
  refine x_iald (pc' := 37) (N := 7) (x := (xs 0)) rfl rfl rfl (z_N_29_0 e) (io_in (p := 0) (N := 7) (by decide) (by decide)) (Eq.trans (congrArg (sA t 29 0) (nn_io (p := 0) (by decide))) (z_A_29_0_0 e)) ?_
  refine x_bipush (pc' := 39) rfl rfl ?_
  refine x_iand (pc' := 40) (z := ((xs 0) &&& 63)) rfl rfl rfl ?_
  refine x_switch (pc' := 2296) rfl (by rw [hk]; decide) ?_
  refine x_aload_n (pc' := 2297) rfl rfl rfl rfl rfl ?_
  refine x_aload_n (pc' := 2298) rfl rfl rfl rfl rfl ?_
  refine x_iload (pc' := 2300) rfl rfl rfl ?_
  refine x_iconst (pc' := 2301) rfl rfl ?_
  refine x_iadd (pc' := 2302) (z := 1) rfl rfl (by decide) ?_
  refine x_iald (pc' := 2303) (N := 7) (x := (xs 1)) rfl rfl rfl (z_N_29_0 e) (io_in (p := 1) (N := 7) (by decide) (by decide)) (Eq.trans (congrArg (sA t 29 0) (nn_io (p := 1) (by decide))) (z_A_29_0_1 e)) ?_
  refine x_aload_n (pc' := 2304) rfl rfl rfl rfl rfl ?_
  refine x_cs (ls0 := [_, _, _, sJk]) (rest := []) rfl rfl rfl rfl ?_
  refine x_aload_n (pc' := 1) rfl rfl rfl rfl rfl ?_
  refine x_iconst (pc' := 2) rfl rfl ?_
  refine x_aload_n (pc' := 3) rfl rfl rfl rfl rfl ?_
  refine x_iload_n (pc' := 4) rfl rfl rfl ?_
  refine x_cv (ls0 := [_, _]) (rest := [_, _]) rfl rfl rfl rfl rfl ?_
  refine x_aload_n (pc' := 1) rfl rfl rfl rfl rfl ?_
  refine x_iload_n (pc' := 2) rfl rfl rfl ?_
  refine x_cv (ls0 := [_, _]) (rest := []) rfl rfl rfl rfl rfl ?_
  refine x_iload_n (pc' := 1) rfl rfl rfl ?_
  refine x_if (a' := 16) (pc' := 4) (z := decide ((xs 1) < 0)) rfl rfl rfl rfl (fun _ => ?_) (fun h => absurd e0 (of_decide_eq_false h))
  refine x_throw rfl rfl ?_
  refine sK_n (by decide +kernel) rfl ?_
  refine sK_h (h := 12) (by decide +kernel) rfl ?_
  refine x_catch_n (pc' := 13) (ls' := [_, _, _, _]) rfl rfl rfl rfl ?_
  refine x_iconst (pc' := 14) rfl rfl ?_
  refine x_reti rfl rfl ?_
  refine sK_i (pc' := 2307) rfl ?_
  refine x_istore (pc' := 2309) (ls' := [_, _, _, _, _, _, _]) rfl rfl rfl rfl ?_
  refine x_aload_n (pc' := 2310) rfl rfl rfl rfl rfl ?_
  refine x_aload_n (pc' := 2311) rfl rfl rfl rfl rfl ?_
  refine x_iload (pc' := 2313) rfl rfl rfl ?_
  refine x_iconst (pc' := 2314) rfl rfl ?_
  refine x_iadd (pc' := 2315) (z := 1) rfl rfl (by decide) ?_
  refine x_iald (pc' := 2316) (N := 7) (x := (xs 1)) rfl rfl rfl (Eq.trans rdNthr (z_N_29_0 e)) (io_in (p := 1) (N := 7) (by decide) (by decide)) (Eq.trans (congrArg (sA (sThr t) 29 0) (nn_io (p := 1) (by decide))) (Eq.trans rdAthr (z_A_29_0_1 e))) ?_
  refine x_cv (ls0 := [_, _]) (rest := []) rfl rfl rfl rfl rfl ?_
  refine x_aload_n (pc' := 1) rfl rfl rfl rfl rfl ?_
  refine x_iload_n (pc' := 2) rfl rfl rfl ?_
  refine x_cs (ls0 := [_]) (rest := [_]) rfl rfl rfl rfl ?_
  refine x_iload_n (pc' := 1) rfl rfl rfl ?_
  refine x_iconst (pc' := 2) rfl rfl ?_
  refine x_iconst (pc' := 3) rfl rfl ?_
  refine x_cs (ls0 := [_, _, _]) (rest := []) rfl rfl rfl rfl ?_
  refine x_iload_n (pc' := 1) rfl rfl rfl ?_
  refine x_iload_n (pc' := 2) rfl rfl rfl ?_
  refine x_icmp (a' := 14) (pc' := 5) (z := decide ((xs 1) < 0)) rfl rfl rfl rfl (fun _ => ?_) (fun h => absurd e0 (of_decide_eq_false h))
  refine x_iconst (pc' := 15) rfl rfl ?_
  refine x_retz (z := false) rfl rfl ?_
  refine sK_i (pc' := 6) rfl ?_
  refine x_retz (z := false) rfl rfl ?_
  refine sK_i (pc' := 5) rfl ?_
  refine x_if (a' := 12) (pc' := 8) (z := true) rfl rfl rfl (by decide) (fun _ => ?_) (fun h => by cases h)
  refine x_iconst (pc' := 13) rfl rfl ?_
  refine x_cv (ls0 := [_, _]) (rest := []) rfl rfl rfl rfl rfl ?_
  refine x_aload_n (pc' := 1) rfl rfl rfl rfl rfl ?_
  refine x_iload_n (pc' := 2) rfl rfl rfl ?_
  refine x_pI (pc' := 5) rfl rfl rfl ?_
  refine x_iload_n (pc' := 6) rfl rfl rfl ?_
  refine x_if (a' := 13) (pc' := 9) (z := true) rfl rfl rfl (by decide) (fun _ => ?_) (fun h => by cases h)
  refine x_iconst (pc' := 14) rfl rfl ?_
  refine x_retz (z := false) rfl rfl ?_
  refine sK_i (pc' := 16) rfl ?_
  refine x_if (a' := 28) (pc' := 19) (z := true) rfl rfl rfl (by decide) (fun _ => ?_) (fun h => by cases h)
  refine x_iconst (pc' := 29) rfl rfl ?_
  refine x_reti rfl rfl ?_
  refine sK_i (pc' := 2319) rfl ?_
  refine x_istore (pc' := 2321) (ls' := [_, _, _, _, _, _, _]) rfl rfl rfl rfl ?_
  refine x_aload_n (pc' := 2322) rfl rfl rfl rfl rfl ?_
  refine x_cv (ls0 := [_]) (rest := []) rfl rfl rfl rfl rfl ?_
  refine x_aload_n (pc' := 1) rfl rfl rfl rfl rfl ?_
  refine x_gI (pc' := 4) (x := 1) rfl rfl rfl sI_s ?_
  refine x_reti rfl rfl ?_
  refine sK_i (pc' := 2325) rfl ?_
  refine x_iload (pc' := 2327) rfl rfl rfl ?_
  refine x_icmp (a' := 2332) (pc' := 2330) (z := true) rfl rfl rfl (by decide) (fun _ => ?_) (fun h => by cases h)
  refine x_iload (pc' := 2334) rfl rfl rfl ?_
  refine x_if (a' := 2349) (pc' := 2337) (z := true) rfl rfl rfl (by decide) (fun _ => ?_) (fun h => by cases h)
  refine x_goto (pc' := 2938) rfl rfl ?_
  refine x_iinc (pc' := 2941) (y := 7) (ls' := [_, _, _, _, _, _, _]) rfl rfl rfl rfl rfl ?_
  refine x_goto (pc' := 23) rfl rfl ?_
  refine x_iload (pc' := 25) rfl rfl rfl ?_
  refine x_aload_n (pc' := 26) rfl rfl rfl rfl rfl ?_
  refine x_alen (pc' := 27) (N := 7) rfl rfl rfl (Eq.trans rdNI (Eq.trans rdNthr (z_N_29_0 e))) (?_ : X _ _ _ (.inl 7 :: _) _ _)
  refine x_bipush (pc' := 29) rfl rfl ?_
  refine x_isub (pc' := 30) (z := 0) rfl rfl (by decide) ?_
  refine x_icmp (a' := 2944) (pc' := 33) (z := true) rfl rfl rfl (by decide) (fun _ => ?_) (fun h => by cases h)
  refine x_iconst (pc' := 2945) rfl rfl ?_
  refine x_retz (z := true) rfl rfl ?_
  exact Qp_ok e (p := 1) (q := 6) rfl rfl rfl rfl
set_option maxHeartbeats 4000000 in
set_option maxRecDepth 10000 in
theorem v_29_B {t : sT} {xs : Nat → Int32}
    (e : t = T16 7 xs)
    (hk : ((xs 0) &&& 63) = 29)
    (e0 : ¬ (xs 1) < 0)
    (f0 : ¬ (xs 1) < 3) :
    X 297 23 [.inr (.inr (29, (some 0))), .inr (.inr (11, (some 0))), .inr (.inr (12, (some 0))), .inr (.inr (23, (some 0))), .inl 0, sJk, sJk] [] t Qp := by
  refine x_iload (pc' := 25) rfl rfl rfl ?_
  refine x_aload_n (pc' := 26) rfl rfl rfl rfl rfl ?_
  refine x_alen (pc' := 27) (N := 7) rfl rfl rfl (z_N_29_0 e) (?_ : X _ _ _ (.inl 7 :: _) _ _)
  refine x_bipush (pc' := 29) rfl rfl ?_
  refine x_isub (pc' := 30) (z := 0) rfl rfl (by decide) ?_
  refine x_icmp (a' := 2944) (pc' := 33) (z := false) rfl rfl rfl (by decide) (fun h => by cases h) (fun _ => ?_)
  refine x_aload_n (pc' := 34) rfl rfl rfl rfl rfl ?_
  refine x_iload (pc' := 36) rfl rfl rfl ?_
  refine x_iald (pc' := 37) (N := 7) (x := (xs 0)) rfl rfl rfl (z_N_29_0 e) (io_in (p := 0) (N := 7) (by decide) (by decide)) (Eq.trans (congrArg (sA t 29 0) (nn_io (p := 0) (by decide))) (z_A_29_0_0 e)) ?_
  refine x_bipush (pc' := 39) rfl rfl ?_
  refine x_iand (pc' := 40) (z := ((xs 0) &&& 63)) rfl rfl rfl ?_
  refine x_switch (pc' := 2296) rfl (by rw [hk]; decide) ?_
  refine x_aload_n (pc' := 2297) rfl rfl rfl rfl rfl ?_
  refine x_aload_n (pc' := 2298) rfl rfl rfl rfl rfl ?_
  refine x_iload (pc' := 2300) rfl rfl rfl ?_
  refine x_iconst (pc' := 2301) rfl rfl ?_
  refine x_iadd (pc' := 2302) (z := 1) rfl rfl (by decide) ?_
  refine x_iald (pc' := 2303) (N := 7) (x := (xs 1)) rfl rfl rfl (z_N_29_0 e) (io_in (p := 1) (N := 7) (by decide) (by decide)) (Eq.trans (congrArg (sA t 29 0) (nn_io (p := 1) (by decide))) (z_A_29_0_1 e)) ?_
  refine x_aload_n (pc' := 2304) rfl rfl rfl rfl rfl ?_
  refine x_cs (ls0 := [_, _, _, sJk]) (rest := []) rfl rfl rfl rfl ?_
  refine x_aload_n (pc' := 1) rfl rfl rfl rfl rfl ?_
  refine x_iconst (pc' := 2) rfl rfl ?_
  refine x_aload_n (pc' := 3) rfl rfl rfl rfl rfl ?_
  refine x_iload_n (pc' := 4) rfl rfl rfl ?_
  refine x_cv (ls0 := [_, _]) (rest := [_, _]) rfl rfl rfl rfl rfl ?_
  refine x_aload_n (pc' := 1) rfl rfl rfl rfl rfl ?_
  refine x_iload_n (pc' := 2) rfl rfl rfl ?_
  refine x_cv (ls0 := [_, _]) (rest := []) rfl rfl rfl rfl rfl ?_
  refine x_iload_n (pc' := 1) rfl rfl rfl ?_
  refine x_if (a' := 16) (pc' := 4) (z := decide ((xs 1) < 0)) rfl rfl rfl rfl (fun h => absurd (of_decide_eq_true h) e0) (fun _ => ?_)
  refine x_iload_n (pc' := 5) rfl rfl rfl ?_
  refine x_aload_n (pc' := 6) rfl rfl rfl rfl rfl ?_
  refine x_gR (pc' := 9) (r := (some 0)) rfl rfl rfl (z_R_704_0 e) ?_
  refine x_gR (pc' := 12) (r := (some 0)) rfl rfl rfl (z_R_320_0 e) ?_
  refine x_alen (pc' := 13) (N := 3) rfl rfl rfl (z_N_25_0 e) (?_ : X _ _ _ (.inl 3 :: _) _ _)
  refine x_icmp (a' := 27) (pc' := 16) (z := decide ((xs 1) < 3)) rfl rfl rfl rfl (fun h => absurd (of_decide_eq_true h) f0) (fun _ => ?_)
  refine x_throw rfl rfl ?_
  refine sK_n (by decide +kernel) rfl ?_
  refine sK_h (h := 12) (by decide +kernel) rfl ?_
  refine x_catch_n (pc' := 13) (ls' := [_, _, _, _]) rfl rfl rfl rfl ?_
  refine x_iconst (pc' := 14) rfl rfl ?_
  refine x_reti rfl rfl ?_
  refine sK_i (pc' := 2307) rfl ?_
  refine x_istore (pc' := 2309) (ls' := [_, _, _, _, _, _, _]) rfl rfl rfl rfl ?_
  refine x_aload_n (pc' := 2310) rfl rfl rfl rfl rfl ?_
  refine x_aload_n (pc' := 2311) rfl rfl rfl rfl rfl ?_
  refine x_iload (pc' := 2313) rfl rfl rfl ?_
  refine x_iconst (pc' := 2314) rfl rfl ?_
  refine x_iadd (pc' := 2315) (z := 1) rfl rfl (by decide) ?_
  refine x_iald (pc' := 2316) (N := 7) (x := (xs 1)) rfl rfl rfl (Eq.trans rdNthr (z_N_29_0 e)) (io_in (p := 1) (N := 7) (by decide) (by decide)) (Eq.trans (congrArg (sA (sThr t) 29 0) (nn_io (p := 1) (by decide))) (Eq.trans rdAthr (z_A_29_0_1 e))) ?_
  refine x_cv (ls0 := [_, _]) (rest := []) rfl rfl rfl rfl rfl ?_
  refine x_aload_n (pc' := 1) rfl rfl rfl rfl rfl ?_
  refine x_iload_n (pc' := 2) rfl rfl rfl ?_
  refine x_cs (ls0 := [_]) (rest := [_]) rfl rfl rfl rfl ?_
  refine x_iload_n (pc' := 1) rfl rfl rfl ?_
  refine x_iconst (pc' := 2) rfl rfl ?_
  refine x_iconst (pc' := 3) rfl rfl ?_
  refine x_cs (ls0 := [_, _, _]) (rest := []) rfl rfl rfl rfl ?_
  refine x_iload_n (pc' := 1) rfl rfl rfl ?_
  refine x_iload_n (pc' := 2) rfl rfl rfl ?_
  refine x_icmp (a' := 14) (pc' := 5) (z := decide ((xs 1) < 0)) rfl rfl rfl rfl (fun h => absurd (of_decide_eq_true h) e0) (fun _ => ?_)
  refine x_iload_n (pc' := 6) rfl rfl rfl ?_
  refine x_iload_n (pc' := 7) rfl rfl rfl ?_
  refine x_icmp (a' := 14) (pc' := 10) (z := decide (2 < (xs 1))) rfl rfl rfl rfl (fun _ => ?_) (fun h => absurd (lt_of3 f0) (of_decide_eq_false h))
  refine x_iconst (pc' := 15) rfl rfl ?_
  refine x_retz (z := false) rfl rfl ?_
  refine sK_i (pc' := 6) rfl ?_
  refine x_retz (z := false) rfl rfl ?_
  refine sK_i (pc' := 5) rfl ?_
  refine x_if (a' := 12) (pc' := 8) (z := true) rfl rfl rfl (by decide) (fun _ => ?_) (fun h => by cases h)
  refine x_iconst (pc' := 13) rfl rfl ?_
  refine x_cv (ls0 := [_, _]) (rest := []) rfl rfl rfl rfl rfl ?_
  refine x_aload_n (pc' := 1) rfl rfl rfl rfl rfl ?_
  refine x_iload_n (pc' := 2) rfl rfl rfl ?_
  refine x_pI (pc' := 5) rfl rfl rfl ?_
  refine x_iload_n (pc' := 6) rfl rfl rfl ?_
  refine x_if (a' := 13) (pc' := 9) (z := true) rfl rfl rfl (by decide) (fun _ => ?_) (fun h => by cases h)
  refine x_iconst (pc' := 14) rfl rfl ?_
  refine x_retz (z := false) rfl rfl ?_
  refine sK_i (pc' := 16) rfl ?_
  refine x_if (a' := 28) (pc' := 19) (z := true) rfl rfl rfl (by decide) (fun _ => ?_) (fun h => by cases h)
  refine x_iconst (pc' := 29) rfl rfl ?_
  refine x_reti rfl rfl ?_
  refine sK_i (pc' := 2319) rfl ?_
  refine x_istore (pc' := 2321) (ls' := [_, _, _, _, _, _, _]) rfl rfl rfl rfl ?_
  refine x_aload_n (pc' := 2322) rfl rfl rfl rfl rfl ?_
  refine x_cv (ls0 := [_]) (rest := []) rfl rfl rfl rfl rfl ?_
  refine x_aload_n (pc' := 1) rfl rfl rfl rfl rfl ?_
  refine x_gI (pc' := 4) (x := 1) rfl rfl rfl sI_s ?_
  refine x_reti rfl rfl ?_
  refine sK_i (pc' := 2325) rfl ?_
  refine x_iload (pc' := 2327) rfl rfl rfl ?_
  refine x_icmp (a' := 2332) (pc' := 2330) (z := true) rfl rfl rfl (by decide) (fun _ => ?_) (fun h => by cases h)
  refine x_iload (pc' := 2334) rfl rfl rfl ?_
  refine x_if (a' := 2349) (pc' := 2337) (z := true) rfl rfl rfl (by decide) (fun _ => ?_) (fun h => by cases h)
  refine x_goto (pc' := 2938) rfl rfl ?_
  refine x_iinc (pc' := 2941) (y := 7) (ls' := [_, _, _, _, _, _, _]) rfl rfl rfl rfl rfl ?_
  refine x_goto (pc' := 23) rfl rfl ?_
  refine x_iload (pc' := 25) rfl rfl rfl ?_
  refine x_aload_n (pc' := 26) rfl rfl rfl rfl rfl ?_
  refine x_alen (pc' := 27) (N := 7) rfl rfl rfl (Eq.trans rdNI (Eq.trans rdNthr (z_N_29_0 e))) (?_ : X _ _ _ (.inl 7 :: _) _ _)
  refine x_bipush (pc' := 29) rfl rfl ?_
  refine x_isub (pc' := 30) (z := 0) rfl rfl (by decide) ?_
  refine x_icmp (a' := 2944) (pc' := 33) (z := true) rfl rfl rfl (by decide) (fun _ => ?_) (fun h => by cases h)
  refine x_iconst (pc' := 2945) rfl rfl ?_
  refine x_retz (z := true) rfl rfl ?_
  exact Qp_ok e (p := 1) (q := 6) rfl rfl rfl rfl
set_option maxHeartbeats 4000000 in
set_option maxRecDepth 10000 in
theorem v_30 {t : sT} {xs : Nat → Int32}
    (e : t = T16 7 xs)
    (hk : ((xs 0) &&& 63) = 30) :
    X 297 23 [.inr (.inr (29, (some 0))), .inr (.inr (11, (some 0))), .inr (.inr (12, (some 0))), .inr (.inr (23, (some 0))), .inl 0, sJk, sJk] [] t Qp := by
  refine x_iload (pc' := 25) rfl rfl rfl ?_
  refine x_aload_n (pc' := 26) rfl rfl rfl rfl rfl ?_
  refine x_alen (pc' := 27) (N := 7) rfl rfl rfl (z_N_29_0 e) (?_ : X _ _ _ (.inl 7 :: _) _ _)
  refine x_bipush (pc' := 29) rfl rfl ?_
  refine x_isub (pc' := 30) (z := 0) rfl rfl (by decide) ?_
  refine x_icmp (a' := 2944) (pc' := 33) (z := false) rfl rfl rfl (by decide) (fun h => by cases h) (fun _ => ?_)
  refine x_aload_n (pc' := 34) rfl rfl rfl rfl rfl ?_
  refine x_iload (pc' := 36) rfl rfl rfl ?_
  refine x_iald (pc' := 37) (N := 7) (x := (xs 0)) rfl rfl rfl (z_N_29_0 e) (io_in (p := 0) (N := 7) (by decide) (by decide)) (Eq.trans (congrArg (sA t 29 0) (nn_io (p := 0) (by decide))) (z_A_29_0_0 e)) ?_
  refine x_bipush (pc' := 39) rfl rfl ?_
  refine x_iand (pc' := 40) (z := ((xs 0) &&& 63)) rfl rfl rfl ?_
  refine x_switch (pc' := 2352) rfl (by rw [hk]; decide) ?_
  refine x_aload_n (pc' := 2353) rfl rfl rfl rfl rfl ?_
  refine x_cv (ls0 := [_]) (rest := []) rfl rfl rfl rfl rfl ?_
  refine x_aload_n (pc' := 1) rfl rfl rfl rfl rfl ?_
  refine x_gR (pc' := 4) (r := (some 0)) rfl rfl rfl (z_R_704_0 e) ?_
  refine x_gR (pc' := 7) (r := (some 0)) rfl rfl rfl (z_R_322_0 e) ?_
  refine x_cv (ls0 := [_]) (rest := []) rfl rfl rfl rfl rfl ?_
  refine x_aload_n (pc' := 1) rfl rfl rfl rfl rfl ?_
  refine x_gI (pc' := 4) (x := 0) rfl rfl rfl (z_I_834_0 e) ?_
  refine x_reti rfl rfl ?_
  refine sK_i (pc' := 10) rfl ?_
  refine x_reti rfl rfl ?_
  refine sK_i (pc' := 2356) rfl ?_
  refine x_aload_n (pc' := 2357) rfl rfl rfl rfl rfl ?_
  refine x_cv (ls0 := [_]) (rest := [_]) rfl rfl rfl rfl rfl ?_
  refine x_aload_n (pc' := 1) rfl rfl rfl rfl rfl ?_
  refine x_iconst (pc' := 2) rfl rfl ?_
  refine x_pI (pc' := 5) rfl rfl rfl ?_
  refine x_aload_n (pc' := 6) rfl rfl rfl rfl rfl ?_
  refine x_gI (pc' := 9) (x := 0) rfl rfl rfl (Eq.trans (rdI_F rfl) (z_I_801_0 e)) ?_
  refine x_reti rfl rfl ?_
  refine sK_i (pc' := 2360) rfl ?_
  refine x_icmp (a' := 2938) (pc' := 2363) (z := true) rfl rfl rfl (by decide) (fun _ => ?_) (fun h => by cases h)
  refine x_iinc (pc' := 2941) (y := 7) (ls' := [_, _, _, _, _, _, _]) rfl rfl rfl rfl rfl ?_
  refine x_goto (pc' := 23) rfl rfl ?_
  refine x_iload (pc' := 25) rfl rfl rfl ?_
  refine x_aload_n (pc' := 26) rfl rfl rfl rfl rfl ?_
  refine x_alen (pc' := 27) (N := 7) rfl rfl rfl (Eq.trans rdNI (z_N_29_0 e)) (?_ : X _ _ _ (.inl 7 :: _) _ _)
  refine x_bipush (pc' := 29) rfl rfl ?_
  refine x_isub (pc' := 30) (z := 0) rfl rfl (by decide) ?_
  refine x_icmp (a' := 2944) (pc' := 33) (z := true) rfl rfl rfl (by decide) (fun _ => ?_) (fun h => by cases h)
  refine x_iconst (pc' := 2945) rfl rfl ?_
  refine x_retz (z := true) rfl rfl ?_
  exact Qp_ok e (p := 0) (q := 0) rfl rfl rfl rfl
set_option maxHeartbeats 4000000 in
set_option maxRecDepth 10000 in
theorem v_31_i_i {t : sT} {xs : Nat → Int32}
    (e : t = T16 7 xs)
    (hk : ((xs 0) &&& 63) = 31) :
    X 297 23 [.inr (.inr (29, (some 0))), .inr (.inr (11, (some 0))), .inr (.inr (12, (some 0))), .inr (.inr (23, (some 0))), .inl 0, sJk, sJk] [] t Qp := by
  refine x_iload (pc' := 25) rfl rfl rfl ?_
  refine x_aload_n (pc' := 26) rfl rfl rfl rfl rfl ?_
  refine x_alen (pc' := 27) (N := 7) rfl rfl rfl (z_N_29_0 e) (?_ : X _ _ _ (.inl 7 :: _) _ _)
  refine x_bipush (pc' := 29) rfl rfl ?_
  refine x_isub (pc' := 30) (z := 0) rfl rfl (by decide) ?_
  refine x_icmp (a' := 2944) (pc' := 33) (z := false) rfl rfl rfl (by decide) (fun h => by cases h) (fun _ => ?_)
  refine x_aload_n (pc' := 34) rfl rfl rfl rfl rfl ?_
  refine x_iload (pc' := 36) rfl rfl rfl ?_
  refine x_iald (pc' := 37) (N := 7) (x := (xs 0)) rfl rfl rfl (z_N_29_0 e) (io_in (p := 0) (N := 7) (by decide) (by decide)) (Eq.trans (congrArg (sA t 29 0) (nn_io (p := 0) (by decide))) (z_A_29_0_0 e)) ?_
  refine x_bipush (pc' := 39) rfl rfl ?_
  refine x_iand (pc' := 40) (z := ((xs 0) &&& 63)) rfl rfl rfl ?_
  refine x_switch (pc' := 2365) rfl (by rw [hk]; decide) ?_
  refine x_aload_n (pc' := 2366) rfl rfl rfl rfl rfl ?_
  refine x_aload_n (pc' := 2367) rfl rfl rfl rfl rfl ?_
  refine x_iload (pc' := 2369) rfl rfl rfl ?_
  refine x_iconst (pc' := 2370) rfl rfl ?_
  refine x_iadd (pc' := 2371) (z := 1) rfl rfl (by decide) ?_
  refine x_iald (pc' := 2372) (N := 7) (x := (xs 1)) rfl rfl rfl (z_N_29_0 e) (io_in (p := 1) (N := 7) (by decide) (by decide)) (Eq.trans (congrArg (sA t 29 0) (nn_io (p := 1) (by decide))) (z_A_29_0_1 e)) ?_
  refine x_aload_n (pc' := 2373) rfl rfl rfl rfl rfl ?_
  refine x_iload (pc' := 2375) rfl rfl rfl ?_
  refine x_iconst (pc' := 2376) rfl rfl ?_
  refine x_iadd (pc' := 2377) (z := 2) rfl rfl (by decide) ?_
  refine x_iald (pc' := 2378) (N := 7) (x := (xs 2)) rfl rfl rfl (z_N_29_0 e) (io_in (p := 2) (N := 7) (by decide) (by decide)) (Eq.trans (congrArg (sA t 29 0) (nn_io (p := 2) (by decide))) (z_A_29_0_2 e)) ?_
  refine x_aload_n (pc' := 2379) rfl rfl rfl rfl rfl ?_
  refine x_cs (ls0 := [_, _, _, _, sJk]) (rest := []) rfl rfl rfl rfl ?_
  refine x_aload_n (pc' := 1) rfl rfl rfl rfl rfl ?_
  refine x_iconst (pc' := 2) rfl rfl ?_
  refine x_aload_n (pc' := 3) rfl rfl rfl rfl rfl ?_
  refine x_iload_n (pc' := 4) rfl rfl rfl ?_
  refine x_iload_n (pc' := 5) rfl rfl rfl ?_
  refine x_cv (ls0 := [_, _, _, sJk]) (rest := [_, _]) rfl rfl rfl rfl rfl ?_
  refine x_aload_n (pc' := 1) rfl rfl rfl rfl rfl ?_
  refine x_iload_n (pc' := 2) rfl rfl rfl ?_
  refine x_cv (ls0 := [_, _]) (rest := []) rfl rfl rfl rfl rfl ?_
  refine x_iload_n (pc' := 1) rfl rfl rfl ?_
  refine x_if (a' := 18) (pc' := 4) (z := decide ((xs 1) < 0)) rfl rfl rfl rfl (fun q3 => ?_) (fun q3 => ?_)
  · refine x_throw rfl rfl ?_
    refine sK_n (by decide +kernel) rfl ?_
    refine sK_h (h := 13) (by decide +kernel) rfl ?_
    refine x_catch (pc' := 15) (ls' := [_, _, _, _, _]) rfl rfl rfl rfl ?_
    refine x_iconst (pc' := 16) rfl rfl ?_
    refine x_reti rfl rfl ?_
    refine sK_i (pc' := 2382) rfl ?_
    refine x_istore (pc' := 2384) (ls' := [_, _, _, _, _, _, _]) rfl rfl rfl rfl ?_
    refine x_aload_n (pc' := 2385) rfl rfl rfl rfl rfl ?_
    refine x_aload_n (pc' := 2386) rfl rfl rfl rfl rfl ?_
    refine x_iload (pc' := 2388) rfl rfl rfl ?_
    refine x_iconst (pc' := 2389) rfl rfl ?_
    refine x_iadd (pc' := 2390) (z := 1) rfl rfl (by decide) ?_
    refine x_iald (pc' := 2391) (N := 7) (x := (xs 1)) rfl rfl rfl (Eq.trans rdNthr (z_N_29_0 e)) (io_in (p := 1) (N := 7) (by decide) (by decide)) (Eq.trans (congrArg (sA (sThr t) 29 0) (nn_io (p := 1) (by decide))) (Eq.trans rdAthr (z_A_29_0_1 e))) ?_
    refine x_aload_n (pc' := 2392) rfl rfl rfl rfl rfl ?_
    refine x_iload (pc' := 2394) rfl rfl rfl ?_
    refine x_iconst (pc' := 2395) rfl rfl ?_
    refine x_iadd (pc' := 2396) (z := 2) rfl rfl (by decide) ?_
    refine x_iald (pc' := 2397) (N := 7) (x := (xs 2)) rfl rfl rfl (Eq.trans rdNthr (z_N_29_0 e)) (io_in (p := 2) (N := 7) (by decide) (by decide)) (Eq.trans (congrArg (sA (sThr t) 29 0) (nn_io (p := 2) (by decide))) (Eq.trans rdAthr (z_A_29_0_2 e))) ?_
    refine x_cv (ls0 := [_, _, _, sJk]) (rest := []) rfl rfl rfl rfl rfl ?_
    refine x_aload_n (pc' := 1) rfl rfl rfl rfl rfl ?_
    refine x_iload_n (pc' := 2) rfl rfl rfl ?_
    refine x_cv (ls0 := [_, _]) (rest := []) rfl rfl rfl rfl rfl ?_
    refine x_iload_n (pc' := 1) rfl rfl rfl ?_
    refine x_iconst (pc' := 2) rfl rfl ?_
    refine x_aload_n (pc' := 3) rfl rfl rfl rfl rfl ?_
    refine x_gI (pc' := 6) (x := 0) rfl rfl rfl (Eq.trans rdIthr (z_I_801_0 e)) ?_
    refine x_iconst (pc' := 7) rfl rfl ?_
    refine x_isub (pc' := 8) (z := (-1)) rfl rfl (by decide) ?_
    refine x_cs (ls0 := [_, _, _]) (rest := []) rfl rfl rfl rfl ?_
    refine x_iload_n (pc' := 1) rfl rfl rfl ?_
    refine x_iload_n (pc' := 2) rfl rfl rfl ?_
    refine x_icmp (a' := 14) (pc' := 5) (z := decide ((xs 1) < 0)) rfl rfl rfl rfl (fun _ => ?_) (fun h => absurd (of_decide_eq_true q3) (of_decide_eq_false h))
    refine x_iconst (pc' := 15) rfl rfl ?_
    refine x_retz (z := false) rfl rfl ?_
    refine sK_i (pc' := 11) rfl ?_
    refine x_retz (z := false) rfl rfl ?_
    refine sK_i (pc' := 5) rfl ?_
    refine x_istore_n (pc' := 6) (ls' := [_, _, _, _]) rfl rfl rfl rfl ?_
    refine x_aload_n (pc' := 7) rfl rfl rfl rfl rfl ?_
    refine x_iload_n (pc' := 8) rfl rfl rfl ?_
    refine x_if (a' := 15) (pc' := 11) (z := false) rfl rfl rfl (by decide) (fun h => by cases h) (fun _ => ?_)
    refine x_iconst (pc' := 12) rfl rfl ?_
    refine x_goto (pc' := 29) rfl rfl ?_
    refine x_cv (ls0 := [_, _]) (rest := []) rfl rfl rfl rfl rfl ?_
    refine x_aload_n (pc' := 1) rfl rfl rfl rfl rfl ?_
    refine x_iload_n (pc' := 2) rfl rfl rfl ?_
    refine x_pI (pc' := 5) rfl rfl rfl ?_
    refine x_iload_n (pc' := 6) rfl rfl rfl ?_
    refine x_if (a' := 13) (pc' := 9) (z := true) rfl rfl rfl (by decide) (fun _ => ?_) (fun h => by cases h)
    refine x_iconst (pc' := 14) rfl rfl ?_
    refine x_retz (z := false) rfl rfl ?_
    refine sK_i (pc' := 32) rfl ?_
    refine x_if (a' := 37) (pc' := 35) (z := false) rfl rfl rfl (by decide) (fun h => by cases h) (fun _ => ?_)
    refine x_iconst (pc' := 36) rfl rfl ?_
    refine x_reti rfl rfl ?_
    refine sK_i (pc' := 2400) rfl ?_
    refine x_istore (pc' := 2402) (ls' := [_, _, _, _, _, _, _]) rfl rfl rfl rfl ?_
    refine x_aload_n (pc' := 2403) rfl rfl rfl rfl rfl ?_
    refine x_cv (ls0 := [_]) (rest := []) rfl rfl rfl rfl rfl ?_
    refine x_aload_n (pc' := 1) rfl rfl rfl rfl rfl ?_
    refine x_gI (pc' := 4) (x := 1) rfl rfl rfl sI_s ?_
    refine x_reti rfl rfl ?_
    refine sK_i (pc' := 2406) rfl ?_
    refine x_iload (pc' := 2408) rfl rfl rfl ?_
    refine x_icmp (a' := 2413) (pc' := 2411) (z := true) rfl rfl rfl (by decide) (fun _ => ?_) (fun h => by cases h)
    refine x_iload (pc' := 2415) rfl rfl rfl ?_
    refine x_if (a' := 2430) (pc' := 2418) (z := true) rfl rfl rfl (by decide) (fun _ => ?_) (fun h => by cases h)
    refine x_goto (pc' := 2938) rfl rfl ?_
    refine x_iinc (pc' := 2941) (y := 7) (ls' := [_, _, _, _, _, _, _]) rfl rfl rfl rfl rfl ?_
    refine x_goto (pc' := 23) rfl rfl ?_
    refine x_iload (pc' := 25) rfl rfl rfl ?_
    refine x_aload_n (pc' := 26) rfl rfl rfl rfl rfl ?_
    refine x_alen (pc' := 27) (N := 7) rfl rfl rfl (Eq.trans rdNI (Eq.trans rdNthr (z_N_29_0 e))) (?_ : X _ _ _ (.inl 7 :: _) _ _)
    refine x_bipush (pc' := 29) rfl rfl ?_
    refine x_isub (pc' := 30) (z := 0) rfl rfl (by decide) ?_
    refine x_icmp (a' := 2944) (pc' := 33) (z := true) rfl rfl rfl (by decide) (fun _ => ?_) (fun h => by cases h)
    refine x_iconst (pc' := 2945) rfl rfl ?_
    refine x_retz (z := true) rfl rfl ?_
    exact Qp_ok e (p := 1) (q := 6) rfl rfl rfl rfl
  · refine x_iload_n (pc' := 5) rfl rfl rfl ?_
    refine x_aload_n (pc' := 6) rfl rfl rfl rfl rfl ?_
    refine x_gR (pc' := 9) (r := (some 0)) rfl rfl rfl (z_R_704_0 e) ?_
    refine x_gR (pc' := 12) (r := (some 0)) rfl rfl rfl (z_R_322_0 e) ?_
    refine x_cv (ls0 := [_]) (rest := [_]) rfl rfl rfl rfl rfl ?_
    refine x_aload_n (pc' := 1) rfl rfl rfl rfl rfl ?_
    refine x_gI (pc' := 4) (x := 0) rfl rfl rfl (z_I_834_0 e) ?_
    refine x_reti rfl rfl ?_
    refine sK_i (pc' := 15) rfl ?_
    refine x_icmp (a' := 29) (pc' := 18) (z := decide ((xs 1) < 0)) rfl rfl rfl rfl (fun h => absurd (of_decide_eq_true h) (of_decide_eq_false q3)) (fun _ => ?_)
    refine x_throw rfl rfl ?_
    refine sK_n (by decide +kernel) rfl ?_
    refine sK_h (h := 13) (by decide +kernel) rfl ?_
    refine x_catch (pc' := 15) (ls' := [_, _, _, _, _]) rfl rfl rfl rfl ?_
    refine x_iconst (pc' := 16) rfl rfl ?_
    refine x_reti rfl rfl ?_
    refine sK_i (pc' := 2382) rfl ?_
    refine x_istore (pc' := 2384) (ls' := [_, _, _, _, _, _, _]) rfl rfl rfl rfl ?_
    refine x_aload_n (pc' := 2385) rfl rfl rfl rfl rfl ?_
    refine x_aload_n (pc' := 2386) rfl rfl rfl rfl rfl ?_
    refine x_iload (pc' := 2388) rfl rfl rfl ?_
    refine x_iconst (pc' := 2389) rfl rfl ?_
    refine x_iadd (pc' := 2390) (z := 1) rfl rfl (by decide) ?_
    refine x_iald (pc' := 2391) (N := 7) (x := (xs 1)) rfl rfl rfl (Eq.trans rdNthr (z_N_29_0 e)) (io_in (p := 1) (N := 7) (by decide) (by decide)) (Eq.trans (congrArg (sA (sThr t) 29 0) (nn_io (p := 1) (by decide))) (Eq.trans rdAthr (z_A_29_0_1 e))) ?_
    refine x_aload_n (pc' := 2392) rfl rfl rfl rfl rfl ?_
    refine x_iload (pc' := 2394) rfl rfl rfl ?_
    refine x_iconst (pc' := 2395) rfl rfl ?_
    refine x_iadd (pc' := 2396) (z := 2) rfl rfl (by decide) ?_
    refine x_iald (pc' := 2397) (N := 7) (x := (xs 2)) rfl rfl rfl (Eq.trans rdNthr (z_N_29_0 e)) (io_in (p := 2) (N := 7) (by decide) (by decide)) (Eq.trans (congrArg (sA (sThr t) 29 0) (nn_io (p := 2) (by decide))) (Eq.trans rdAthr (z_A_29_0_2 e))) ?_
    refine x_cv (ls0 := [_, _, _, sJk]) (rest := []) rfl rfl rfl rfl rfl ?_
    refine x_aload_n (pc' := 1) rfl rfl rfl rfl rfl ?_
    refine x_iload_n (pc' := 2) rfl rfl rfl ?_
    refine x_cv (ls0 := [_, _]) (rest := []) rfl rfl rfl rfl rfl ?_
    refine x_iload_n (pc' := 1) rfl rfl rfl ?_
    refine x_iconst (pc' := 2) rfl rfl ?_
    refine x_aload_n (pc' := 3) rfl rfl rfl rfl rfl ?_
    refine x_gI (pc' := 6) (x := 0) rfl rfl rfl (Eq.trans rdIthr (z_I_801_0 e)) ?_
    refine x_iconst (pc' := 7) rfl rfl ?_
    refine x_isub (pc' := 8) (z := (-1)) rfl rfl (by decide) ?_
    refine x_cs (ls0 := [_, _, _]) (rest := []) rfl rfl rfl rfl ?_
    refine x_iload_n (pc' := 1) rfl rfl rfl ?_
    refine x_iload_n (pc' := 2) rfl rfl rfl ?_
    refine x_icmp (a' := 14) (pc' := 5) (z := decide ((xs 1) < 0)) rfl rfl rfl rfl (fun h => absurd (of_decide_eq_true h) (of_decide_eq_false q3)) (fun _ => ?_)
    refine x_iload_n (pc' := 6) rfl rfl rfl ?_
    refine x_iload_n (pc' := 7) rfl rfl rfl ?_
    refine x_icmp (a' := 14) (pc' := 10) (z := decide ((-1) < (xs 1))) rfl rfl rfl rfl (fun _ => ?_) (fun h => absurd (m1_lt (of_decide_eq_false q3)) (of_decide_eq_false h))
    refine x_iconst (pc' := 15) rfl rfl ?_
    refine x_retz (z := false) rfl rfl ?_
    refine sK_i (pc' := 11) rfl ?_
    refine x_retz (z := false) rfl rfl ?_
    refine sK_i (pc' := 5) rfl ?_
    refine x_istore_n (pc' := 6) (ls' := [_, _, _, _]) rfl rfl rfl rfl ?_
    refine x_aload_n (pc' := 7) rfl rfl rfl rfl rfl ?_
    refine x_iload_n (pc' := 8) rfl rfl rfl ?_
    refine x_if (a' := 15) (pc' := 11) (z := false) rfl rfl rfl (by decide) (fun h => by cases h) (fun _ => ?_)
    refine x_iconst (pc' := 12) rfl rfl ?_
    refine x_goto (pc' := 29) rfl rfl ?_
    refine x_cv (ls0 := [_, _]) (rest := []) rfl rfl rfl rfl rfl ?_
    refine x_aload_n (pc' := 1) rfl rfl rfl rfl rfl ?_
    refine x_iload_n (pc' := 2) rfl rfl rfl ?_
    refine x_pI (pc' := 5) rfl rfl rfl ?_
    refine x_iload_n (pc' := 6) rfl rfl rfl ?_
    refine x_if (a' := 13) (pc' := 9) (z := true) rfl rfl rfl (by decide) (fun _ => ?_) (fun h => by cases h)
    refine x_iconst (pc' := 14) rfl rfl ?_
    refine x_retz (z := false) rfl rfl ?_
    refine sK_i (pc' := 32) rfl ?_
    refine x_if (a' := 37) (pc' := 35) (z := false) rfl rfl rfl (by decide) (fun h => by cases h) (fun _ => ?_)
    refine x_iconst (pc' := 36) rfl rfl ?_
    refine x_reti rfl rfl ?_
    refine sK_i (pc' := 2400) rfl ?_
    refine x_istore (pc' := 2402) (ls' := [_, _, _, _, _, _, _]) rfl rfl rfl rfl ?_
    refine x_aload_n (pc' := 2403) rfl rfl rfl rfl rfl ?_
    refine x_cv (ls0 := [_]) (rest := []) rfl rfl rfl rfl rfl ?_
    refine x_aload_n (pc' := 1) rfl rfl rfl rfl rfl ?_
    refine x_gI (pc' := 4) (x := 1) rfl rfl rfl sI_s ?_
    refine x_reti rfl rfl ?_
    refine sK_i (pc' := 2406) rfl ?_
    refine x_iload (pc' := 2408) rfl rfl rfl ?_
    refine x_icmp (a' := 2413) (pc' := 2411) (z := true) rfl rfl rfl (by decide) (fun _ => ?_) (fun h => by cases h)
    refine x_iload (pc' := 2415) rfl rfl rfl ?_
    refine x_if (a' := 2430) (pc' := 2418) (z := true) rfl rfl rfl (by decide) (fun _ => ?_) (fun h => by cases h)
    refine x_goto (pc' := 2938) rfl rfl ?_
    refine x_iinc (pc' := 2941) (y := 7) (ls' := [_, _, _, _, _, _, _]) rfl rfl rfl rfl rfl ?_
    refine x_goto (pc' := 23) rfl rfl ?_
    refine x_iload (pc' := 25) rfl rfl rfl ?_
    refine x_aload_n (pc' := 26) rfl rfl rfl rfl rfl ?_
    refine x_alen (pc' := 27) (N := 7) rfl rfl rfl (Eq.trans rdNI (Eq.trans rdNthr (z_N_29_0 e))) (?_ : X _ _ _ (.inl 7 :: _) _ _)
    refine x_bipush (pc' := 29) rfl rfl ?_
    refine x_isub (pc' := 30) (z := 0) rfl rfl (by decide) ?_
    refine x_icmp (a' := 2944) (pc' := 33) (z := true) rfl rfl rfl (by decide) (fun _ => ?_) (fun h => by cases h)
    refine x_iconst (pc' := 2945) rfl rfl ?_
    refine x_retz (z := true) rfl rfl ?_
    exact Qp_ok e (p := 1) (q := 6) rfl rfl rfl rfl
