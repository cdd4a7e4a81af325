theorem an_1 {a b : Bool} (h : (a && b) = true) : a = true := by cases a <;> cases b <;> first | rfl | cases h
theorem an_2 {a b : Bool} (h : (a && b) = true) : b = true := by cases a <;> cases b <;> first | rfl | cases h
set_option maxHeartbeats 4000000 in
set_option maxRecDepth 10000 in
theorem v_5_v_i {t : sT} {xs : Nat → Int32} {m : Nat}
    (e : t = T16 7 xs)
    (hk : ((xs 0) &&& 63) = 5)
    (hm : m < 6)
    (e0 : xs 1 = io m) :
    X 297 23 [.inr (.inr (29, (some 0))), .inr (.inr (11, (some 0))), .inr (.inr (12, (some 0))), .inr (.inr (23, (some 0))), .inl 0, sJk, sJk] [] t Qp := by
  refine x_iload (pc' := 25) rfl rfl rfl ?_
  refine x_aload_n (pc' := 26) rfl rfl rfl rfl rfl ?_
  refine x_alen (pc' := 27) (N := 7) rfl rfl rfl (z_N_29_0 e) (?_ : X _ _ _ (.inl 7 :: _) _ _)
  refine x_bipush (pc' := 29) rfl rfl ?_
  refine x_isub (pc' := 30) (z := 0) rfl rfl (by decide) ?_
  refine x_icmp (a' := 2944) (pc' := 33) (z := false) rfl rfl rfl (by decide) (fun h => by cases h) (fun _ => ?_)
  refine x_aload_n (pc' := 34) rfl rfl rfl rfl rfl ?_
  refine x_iload (pc' := 36) rfl rfl rfl ?_
  refine x_iald (pc' := 37) (N := 7) (x := (xs 0)) rfl rfl rfl (z_N_29_0 e) (io_in (p := 0) (N := 7) (by decide) (by decide)) (Eq.trans (congrArg (sA t 29 0) (nn_io (p := 0) (by decide))) (z_A_29_0_0 e)) ?_
  refine x_bipush (pc' := 39) rfl rfl ?_
  refine x_iand (pc' := 40) (z := ((xs 0) &&& 63)) rfl rfl rfl ?_
  refine x_switch (pc' := 543) rfl (by rw [hk]; decide) ?_
  refine x_aload_n (pc' := 544) rfl rfl rfl rfl rfl ?_
  refine x_aload_n (pc' := 545) rfl rfl rfl rfl rfl ?_
  refine x_iload (pc' := 547) rfl rfl rfl ?_
  refine x_iconst (pc' := 548) rfl rfl ?_
  refine x_iadd (pc' := 549) (z := 1) rfl rfl (by decide) ?_
  refine x_iald (pc' := 550) (N := 7) (x := (io m)) rfl rfl rfl (z_N_29_0 e) (io_in (p := 1) (N := 7) (by decide) (by decide)) (Eq.trans (congrArg (sA t 29 0) (nn_io (p := 1) (by decide))) (Eq.trans (z_A_29_0_1 e) e0)) ?_
  refine x_aload_n (pc' := 551) rfl rfl rfl rfl rfl ?_
  refine x_iload (pc' := 553) rfl rfl rfl ?_
  refine x_iconst (pc' := 554) rfl rfl ?_
  refine x_iadd (pc' := 555) (z := 2) rfl rfl (by decide) ?_
  refine x_iald (pc' := 556) (N := 7) (x := (xs 2)) rfl rfl rfl (z_N_29_0 e) (io_in (p := 2) (N := 7) (by decide) (by decide)) (Eq.trans (congrArg (sA t 29 0) (nn_io (p := 2) (by decide))) (z_A_29_0_2 e)) ?_
  refine x_aload_n (pc' := 557) rfl rfl rfl rfl rfl ?_
  refine x_cs (ls0 := [_, _, _, _, sJk]) (rest := []) rfl rfl rfl rfl ?_
  refine x_aload_n (pc' := 1) rfl rfl rfl rfl rfl ?_
  refine x_iconst (pc' := 2) rfl rfl ?_
  refine x_aload_n (pc' := 3) rfl rfl rfl rfl rfl ?_
  refine x_iload_n (pc' := 4) rfl rfl rfl ?_
  refine x_iload_n (pc' := 5) rfl rfl rfl ?_
  refine x_cv (ls0 := [_, _, _, sJk, sJk]) (rest := [_, _]) rfl rfl rfl rfl rfl ?_
  refine x_aload_n (pc' := 1) rfl rfl rfl rfl rfl ?_
  refine x_iload_n (pc' := 2) rfl rfl rfl ?_
  refine x_cv (ls0 := [_, _]) (rest := []) rfl rfl rfl rfl rfl ?_
  refine x_iload_n (pc' := 1) rfl rfl rfl ?_
  refine x_if (a' := 16) (pc' := 4) (z := decide (m < 0)) rfl rfl rfl (ic_lt (p := m) (q := 0) (Nat.lt_trans hm (by decide)) (by decide)) (fun h => absurd (of_decide_eq_true h) (by first | decide | omega | simp)) (fun _ => ?_)
  refine x_iload_n (pc' := 5) rfl rfl rfl ?_
  refine x_aload_n (pc' := 6) rfl rfl rfl rfl rfl ?_
  refine x_gR (pc' := 9) (r := (some 0)) rfl rfl rfl (z_R_704_0 e) ?_
  refine x_gR (pc' := 12) (r := (some 0)) rfl rfl rfl (z_R_321_0 e) ?_
  refine x_alen (pc' := 13) (N := 6) rfl rfl rfl (z_N_26_0 e) (?_ : X _ _ _ (.inl 6 :: _) _ _)
  refine x_icmp (a' := 27) (pc' := 16) (z := decide (m < 6)) rfl rfl rfl (ic_lt (p := m) (q := 6) (Nat.lt_trans hm (by decide)) (by decide)) (fun _ => ?_) (fun h => absurd (Nat.lt_of_lt_of_le hm (by decide)) (of_decide_eq_false h))
  refine x_aload_n (pc' := 28) rfl rfl rfl rfl rfl ?_
  refine x_gR (pc' := 31) (r := (some 0)) rfl rfl rfl (z_R_704_0 e) ?_
  refine x_gR (pc' := 34) (r := (some 0)) rfl rfl rfl (z_R_321_0 e) ?_
  refine x_iload_n (pc' := 35) rfl rfl rfl ?_
  refine x_aald (pc' := 36) (N := 6) (k' := 7) (r := (some m)) rfl rfl rfl (z_N_26_0 e) (io_in (p := m) (N := 6) hm (by decide)) (Eq.trans (congrArg (sE t 26 0) (nn_io (p := m) (Nat.lt_trans hm (by decide)))) (kM (Cn_e e) hm)) ?_
  refine x_reta rfl rfl ?_
  refine sK_i (pc' := 5) rfl ?_
  refine x_astore_n (pc' := 6) (ls' := [_, _, _, _, _]) rfl rfl rfl rfl rfl ?_
  refine x_iload_n (pc' := 7) rfl rfl rfl ?_
  refine x_ldc (pc' := 9) rfl rfl ?_
  refine x_ldc (pc' := 11) rfl rfl ?_
  refine x_cs (ls0 := [_, _, _]) (rest := []) rfl rfl rfl rfl ?_
  refine x_iload_n (pc' := 1) rfl rfl rfl ?_
  refine x_iload_n (pc' := 2) rfl rfl rfl ?_
  refine x_icmp (a' := 10) (pc' := 5) (z := decide ((xs 2) < (-1000000))) rfl rfl rfl rfl (fun q5 => ?_) (fun q5 => ?_)
  · refine x_throw rfl rfl ?_
    refine sK_n (by decide +kernel) rfl ?_
    refine sK_h (h := 17) (by decide +kernel) rfl ?_
    refine x_catch (pc' := 19) (ls' := [_, _, _, _, _]) rfl rfl rfl rfl ?_
    refine x_iconst (pc' := 20) rfl rfl ?_
    refine x_reti rfl rfl ?_
    refine sK_i (pc' := 560) rfl ?_
    refine x_istore (pc' := 562) (ls' := [_, _, _, _, _, _, _]) rfl rfl rfl rfl ?_
    refine x_aload_n (pc' := 563) rfl rfl rfl rfl rfl ?_
    refine x_aload_n (pc' := 564) rfl rfl rfl rfl rfl ?_
    refine x_iload (pc' := 566) rfl rfl rfl ?_
    refine x_iconst (pc' := 567) rfl rfl ?_
    refine x_iadd (pc' := 568) (z := 1) rfl rfl (by decide) ?_
    refine x_iald (pc' := 569) (N := 7) (x := (io m)) rfl rfl rfl (Eq.trans rdNthr (z_N_29_0 e)) (io_in (p := 1) (N := 7) (by decide) (by decide)) (Eq.trans (congrArg (sA (sThr t) 29 0) (nn_io (p := 1) (by decide))) (Eq.trans rdAthr (Eq.trans (z_A_29_0_1 e) e0))) ?_
    refine x_aload_n (pc' := 570) rfl rfl rfl rfl rfl ?_
    refine x_iload (pc' := 572) rfl rfl rfl ?_
    refine x_iconst (pc' := 573) rfl rfl ?_
    refine x_iadd (pc' := 574) (z := 2) rfl rfl (by decide) ?_
    refine x_iald (pc' := 575) (N := 7) (x := (xs 2)) rfl rfl rfl (Eq.trans rdNthr (z_N_29_0 e)) (io_in (p := 2) (N := 7) (by decide) (by decide)) (Eq.trans (congrArg (sA (sThr t) 29 0) (nn_io (p := 2) (by decide))) (Eq.trans rdAthr (z_A_29_0_2 e))) ?_
    refine x_cv (ls0 := [_, _, _, sJk, sJk, sJk]) (rest := []) rfl rfl rfl rfl rfl ?_
    refine x_iload_n (pc' := 1) rfl rfl rfl ?_
    refine x_cs (ls0 := [_]) (rest := []) rfl rfl rfl rfl ?_
    refine x_iload_n (pc' := 1) rfl rfl rfl ?_
    refine x_iconst (pc' := 2) rfl rfl ?_
    refine x_iconst (pc' := 3) rfl rfl ?_
    refine x_cs (ls0 := [_, _, _]) (rest := []) rfl rfl rfl rfl ?_
    refine x_iload_n (pc' := 1) rfl rfl rfl ?_
    refine x_iload_n (pc' := 2) rfl rfl rfl ?_
    refine x_icmp (a' := 14) (pc' := 5) (z := decide (m < 0)) rfl rfl rfl (ic_lt (p := m) (q := 0) (Nat.lt_trans hm (by decide)) (by decide)) (fun h => absurd (of_decide_eq_true h) (by first | decide | omega | simp)) (fun _ => ?_)
    refine x_iload_n (pc' := 6) rfl rfl rfl ?_
    refine x_iload_n (pc' := 7) rfl rfl rfl ?_
    refine x_icmp (a' := 14) (pc' := 10) (z := decide (5 < m)) rfl rfl rfl (ic_gt (p := m) (q := 5) (Nat.lt_trans hm (by decide)) (by decide)) (fun h => absurd (of_decide_eq_true h) (fun z => absurd hm (Nat.not_lt.mpr z))) (fun _ => ?_)
    refine x_iconst (pc' := 11) rfl rfl ?_
    refine x_goto (pc' := 15) rfl rfl ?_
    refine x_retz (z := true) rfl rfl ?_
    refine sK_i (pc' := 6) rfl ?_
    refine x_retz (z := true) rfl rfl ?_
    refine sK_i (pc' := 4) rfl ?_
    refine x_istore_n (pc' := 5) (ls' := [_, _, _, _, _, _]) rfl rfl rfl rfl ?_
    refine x_iload_n (pc' := 6) rfl rfl rfl ?_
    refine x_ldc_w (pc' := 9) rfl rfl ?_
    refine x_ldc_w (pc' := 12) rfl rfl ?_
    refine x_cs (ls0 := [_, _, _]) (rest := []) rfl rfl rfl rfl ?_
    refine x_iload_n (pc' := 1) rfl rfl rfl ?_
    refine x_iload_n (pc' := 2) rfl rfl rfl ?_
    refine x_icmp (a' := 14) (pc' := 5) (z := decide ((xs 2) < (-1000000))) rfl rfl rfl rfl (fun _ => ?_) (fun h => absurd (of_decide_eq_true q5) (of_decide_eq_false h))
    refine x_iconst (pc' := 15) rfl rfl ?_
    refine x_retz (z := false) rfl rfl ?_
    refine sK_i (pc' := 15) rfl ?_
    refine x_istore (pc' := 17) (ls' := [_, _, _, _, _, _]) rfl rfl rfl rfl ?_
    refine x_iload_n (pc' := 18) rfl rfl rfl ?_
    refine x_if (a' := 76) (pc' := 21) (z := false) rfl rfl rfl (by decide) (fun h => by cases h) (fun _ => ?_)
    refine x_iload (pc' := 23) rfl rfl rfl ?_
    refine x_if (a' := 76) (pc' := 26) (z := true) rfl rfl rfl (by decide) (fun _ => ?_) (fun h => by cases h)
    refine x_iconst (pc' := 77) rfl rfl ?_
    refine x_istore (pc' := 79) (ls' := [_, _, _, _, _, _]) rfl rfl rfl rfl ?_
    refine x_aload_n (pc' := 80) rfl rfl rfl rfl rfl ?_
    refine x_iload_n (pc' := 81) rfl rfl rfl ?_
    refine x_if (a' := 88) (pc' := 84) (z := true) rfl rfl rfl (by decide) (fun _ => ?_) (fun h => by cases h)
    refine x_iload (pc' := 90) rfl rfl rfl ?_
    refine x_if (a' := 97) (pc' := 93) (z := false) rfl rfl rfl (by decide) (fun h => by cases h) (fun _ => ?_)
    refine x_iconst (pc' := 94) rfl rfl ?_
    refine x_goto (pc' := 107) rfl rfl ?_
    refine x_cv (ls0 := [_, _]) (rest := []) rfl rfl rfl rfl rfl ?_
    refine x_aload_n (pc' := 1) rfl rfl rfl rfl rfl ?_
    refine x_iload_n (pc' := 2) rfl rfl rfl ?_
    refine x_pI (pc' := 5) rfl rfl rfl ?_
    refine x_iload_n (pc' := 6) rfl rfl rfl ?_
    refine x_if (a' := 13) (pc' := 9) (z := true) rfl rfl rfl (by decide) (fun _ => ?_) (fun h => by cases h)
    refine x_iconst (pc' := 14) rfl rfl ?_
    refine x_retz (z := false) rfl rfl ?_
    refine sK_i (pc' := 110) rfl ?_
    refine x_if (a' := 115) (pc' := 113) (z := false) rfl rfl rfl (by decide) (fun h => by cases h) (fun _ => ?_)
    refine x_iconst (pc' := 114) rfl rfl ?_
    refine x_reti rfl rfl ?_
    refine sK_i (pc' := 578) rfl ?_
    refine x_istore (pc' := 580) (ls' := [_, _, _, _, _, _, _]) rfl rfl rfl rfl ?_
    refine x_aload_n (pc' := 581) rfl rfl rfl rfl rfl ?_
    refine x_cv (ls0 := [_]) (rest := []) rfl rfl rfl rfl rfl ?_
    refine x_aload_n (pc' := 1) rfl rfl rfl rfl rfl ?_
    refine x_gI (pc' := 4) (x := 2) rfl rfl rfl sI_s ?_
    refine x_reti rfl rfl ?_
    refine sK_i (pc' := 584) rfl ?_
    refine x_iload (pc' := 586) rfl rfl rfl ?_
    refine x_icmp (a' := 591) (pc' := 589) (z := true) rfl rfl rfl (by decide) (fun _ => ?_) (fun h => by cases h)
    refine x_iload (pc' := 593) rfl rfl rfl ?_
    refine x_if (a' := 608) (pc' := 596) (z := true) rfl rfl rfl (by decide) (fun _ => ?_) (fun h => by cases h)
    refine x_goto (pc' := 2938) rfl rfl ?_
    refine x_iinc (pc' := 2941) (y := 7) (ls' := [_, _, _, _, _, _, _]) rfl rfl rfl rfl rfl ?_
    refine x_goto (pc' := 23) rfl rfl ?_
    refine x_iload (pc' := 25) rfl rfl rfl ?_
    refine x_aload_n (pc' := 26) rfl rfl rfl rfl rfl ?_
    refine x_alen (pc' := 27) (N := 7) rfl rfl rfl (Eq.trans rdNI (Eq.trans rdNthr (z_N_29_0 e))) (?_ : X _ _ _ (.inl 7 :: _) _ _)
    refine x_bipush (pc' := 29) rfl rfl ?_
    refine x_isub (pc' := 30) (z := 0) rfl rfl (by decide) ?_
    refine x_icmp (a' := 2944) (pc' := 33) (z := true) rfl rfl rfl (by decide) (fun _ => ?_) (fun h => by cases h)
    refine x_iconst (pc' := 2945) rfl rfl ?_
    refine x_retz (z := true) rfl rfl ?_
    exact Qp_ok e (p := 1) (q := 6) rfl rfl rfl rfl
  · refine x_iload_n (pc' := 6) rfl rfl rfl ?_
    refine x_iload_n (pc' := 7) rfl rfl rfl ?_
    refine x_icmp_n (a' := 21) (pc' := 10) (z := decide (1000000 < (xs 2))) rfl rfl rfl (ik_le _ _) (fun q18 => ?_) (fun q18 => ?_)
    · refine x_ret rfl ?_
      refine sK_v (pc' := 14) rfl ?_
      refine x_aload_n (pc' := 15) rfl rfl rfl rfl rfl ?_
      refine x_gI (pc' := 18) (x := 0) rfl rfl rfl (z_I_450_y e _) ?_
      refine x_iload_n (pc' := 19) rfl rfl rfl ?_
      refine x_iadd (pc' := 20) (z := (xs 2)) rfl rfl (Int32.zero_add _) ?_
      refine x_istore (pc' := 22) (ls' := [_, _, _, _, _]) rfl rfl rfl rfl ?_
      refine x_aload_n (pc' := 23) rfl rfl rfl rfl rfl ?_
      refine x_gZ (pc' := 26) (z := false) rfl rfl rfl (z_Z_458_y e _) ?_
      refine x_if (a' := 45) (pc' := 29) (z := false) rfl rfl rfl (by decide) (fun h => by cases h) (fun _ => ?_)
      refine x_iload (pc' := 31) rfl rfl rfl ?_
      have J21 : X 89 46 [.inr (.inr (11, (some 0))), .inl (io m), .inl (xs 2), .inr (.inr (7, (some m))), .inl (xs 2)] [.inl (bz (!(decide ((xs 2) < 0)) && (!(decide (100000000 < (xs 2))))))] t (sK 89 264 5 [.inr (.inr (11, (some 0))), .inl (io m), .inl (xs 2), .inr (.inr (23, (some 0))), sJk] [.inl 0, .inr (.inr (23, (some 0)))] (sK 264 297 557 [.inr (.inr (29, (some 0))), .inr (.inr (11, (some 0))), .inr (.inr (12, (some 0))), .inr (.inr (23, (some 0))), .inl 0, sJk, sJk] [] Qp)) := by
        refine x_cs (ls0 := [_]) (rest := []) rfl rfl rfl rfl ?_
        refine x_iload_n (pc' := 1) rfl rfl rfl ?_
        refine x_ifne_z (a' := 15) (pc' := 4) (z := (!(decide ((xs 2) < 0)) && (!(decide (100000000 < (xs 2)))))) rfl rfl rfl (fun q23 => ?_) (fun q23 => ?_)
        · refine x_ret rfl ?_
          refine sK_v (pc' := 49) rfl ?_
          refine x_iload_n (pc' := 50) rfl rfl rfl ?_
          refine x_if_n (a' := 71) (pc' := 53) (z := decide ((xs 2) < 0)) rfl rfl rfl (ik_ge _ _) (fun q24 => ?_) (fun q24 => ?_)
          · refine x_iconst (pc' := 72) rfl rfl ?_
            refine x_goto (pc' := 76) rfl rfl ?_
            refine x_cs (ls0 := [_]) (rest := []) rfl rfl rfl rfl ?_
            refine x_iload_n (pc' := 1) rfl rfl rfl ?_
            refine x_if (a' := 15) (pc' := 4) (z := true) rfl rfl rfl (by decide) (fun _ => ?_) (fun h => by cases h)
            refine x_ret rfl ?_
            refine sK_v (pc' := 79) rfl ?_
            refine x_aload_n (pc' := 80) rfl rfl rfl rfl rfl ?_
            refine x_iload (pc' := 82) rfl rfl rfl ?_
            refine x_pI (pc' := 85) rfl rfl rfl ?_
            refine x_iload (pc' := 87) rfl rfl rfl ?_
            refine x_reti rfl rfl ?_
            refine sK_i (pc' := 8) rfl ?_
            refine x_i2l (pc' := 9) rfl rfl rfl ?_
            refine x_last (pc' := 10) (N := 1) (p := 0) rfl rfl (Eq.trans rdNI (z_N_23_0 e)) (io_in (p := 0) (N := 1) (by decide) (by decide)) (nn_io (p := 0) (by decide)) ?_
            refine x_goto (pc' := 25) rfl rfl ?_
            refine x_iconst (pc' := 26) rfl rfl ?_
            refine x_reti rfl rfl ?_
            refine sK_i (pc' := 560) rfl ?_
            refine x_istore (pc' := 562) (ls' := [_, _, _, _, _, _, _]) rfl rfl rfl rfl ?_
            refine x_aload_n (pc' := 563) rfl rfl rfl rfl rfl ?_
            refine x_aload_n (pc' := 564) rfl rfl rfl rfl rfl ?_
            refine x_iload (pc' := 566) rfl rfl rfl ?_
            refine x_iconst (pc' := 567) rfl rfl ?_
            refine x_iadd (pc' := 568) (z := 1) rfl rfl (by decide) ?_
            refine x_iald (pc' := 569) (N := 7) (x := (io m)) rfl rfl rfl (Eq.trans rdNL (Eq.trans rdNI (z_N_29_0 e))) (io_in (p := 1) (N := 7) (by decide) (by decide)) (Eq.trans (congrArg (sA (sLw (sIw t 450 m (xs 2)) 23 0 0 ((xs 2).toInt64)) 29 0) (nn_io (p := 1) (by decide))) (Eq.trans rdAL (Eq.trans rdAI (Eq.trans (z_A_29_0_1 e) e0)))) ?_
            refine x_aload_n (pc' := 570) rfl rfl rfl rfl rfl ?_
            refine x_iload (pc' := 572) rfl rfl rfl ?_
            refine x_iconst (pc' := 573) rfl rfl ?_
            refine x_iadd (pc' := 574) (z := 2) rfl rfl (by decide) ?_
            refine x_iald (pc' := 575) (N := 7) (x := (xs 2)) rfl rfl rfl (Eq.trans rdNL (Eq.trans rdNI (z_N_29_0 e))) (io_in (p := 2) (N := 7) (by decide) (by decide)) (Eq.trans (congrArg (sA (sLw (sIw t 450 m (xs 2)) 23 0 0 ((xs 2).toInt64)) 29 0) (nn_io (p := 2) (by decide))) (Eq.trans rdAL (Eq.trans rdAI (z_A_29_0_2 e)))) ?_
            refine x_cv (ls0 := [_, _, _, sJk, sJk, sJk]) (rest := []) rfl rfl rfl rfl rfl ?_
            refine x_iload_n (pc' := 1) rfl rfl rfl ?_
            refine x_cs (ls0 := [_]) (rest := []) rfl rfl rfl rfl ?_
            refine x_iload_n (pc' := 1) rfl rfl rfl ?_
            refine x_iconst (pc' := 2) rfl rfl ?_
            refine x_iconst (pc' := 3) rfl rfl ?_
            refine x_cs (ls0 := [_, _, _]) (rest := []) rfl rfl rfl rfl ?_
            refine x_iload_n (pc' := 1) rfl rfl rfl ?_
            refine x_iload_n (pc' := 2) rfl rfl rfl ?_
            refine x_icmp (a' := 14) (pc' := 5) (z := decide (m < 0)) rfl rfl rfl (ic_lt (p := m) (q := 0) (Nat.lt_trans hm (by decide)) (by decide)) (fun h => absurd (of_decide_eq_true h) (by first | decide | omega | simp)) (fun _ => ?_)
            refine x_iload_n (pc' := 6) rfl rfl rfl ?_
            refine x_iload_n (pc' := 7) rfl rfl rfl ?_
            refine x_icmp (a' := 14) (pc' := 10) (z := decide (5 < m)) rfl rfl rfl (ic_gt (p := m) (q := 5) (Nat.lt_trans hm (by decide)) (by decide)) (fun h => absurd (of_decide_eq_true h) (fun z => absurd hm (Nat.not_lt.mpr z))) (fun _ => ?_)
            refine x_iconst (pc' := 11) rfl rfl ?_
            refine x_goto (pc' := 15) rfl rfl ?_
            refine x_retz (z := true) rfl rfl ?_
            refine sK_i (pc' := 6) rfl ?_
            refine x_retz (z := true) rfl rfl ?_
            refine sK_i (pc' := 4) rfl ?_
            refine x_istore_n (pc' := 5) (ls' := [_, _, _, _, _, _]) rfl rfl rfl rfl ?_
            refine x_iload_n (pc' := 6) rfl rfl rfl ?_
            refine x_ldc_w (pc' := 9) rfl rfl ?_
            refine x_ldc_w (pc' := 12) rfl rfl ?_
            refine x_cs (ls0 := [_, _, _]) (rest := []) rfl rfl rfl rfl ?_
            refine x_iload_n (pc' := 1) rfl rfl rfl ?_
            refine x_iload_n (pc' := 2) rfl rfl rfl ?_
            refine x_icmp (a' := 14) (pc' := 5) (z := decide ((xs 2) < (-1000000))) rfl rfl rfl rfl (fun h => absurd (of_decide_eq_true h) (of_decide_eq_false q5)) (fun _ => ?_)
            refine x_iload_n (pc' := 6) rfl rfl rfl ?_
            refine x_iload_n (pc' := 7) rfl rfl rfl ?_
            refine x_icmp (a' := 14) (pc' := 10) (z := decide (1000000 < (xs 2))) rfl rfl rfl rfl (fun h => absurd (of_decide_eq_true h) (of_decide_eq_false q18)) (fun _ => ?_)
            refine x_iconst (pc' := 11) rfl rfl ?_
            refine x_goto (pc' := 15) rfl rfl ?_
            refine x_retz (z := true) rfl rfl ?_
            refine sK_i (pc' := 15) rfl ?_
            refine x_istore (pc' := 17) (ls' := [_, _, _, _, _, _]) rfl rfl rfl rfl ?_
            refine x_iload_n (pc' := 18) rfl rfl rfl ?_
            refine x_if (a' := 76) (pc' := 21) (z := false) rfl rfl rfl (by decide) (fun h => by cases h) (fun _ => ?_)
            refine x_iload (pc' := 23) rfl rfl rfl ?_
            refine x_if (a' := 76) (pc' := 26) (z := false) rfl rfl rfl (by decide) (fun h => by cases h) (fun _ => ?_)
            refine x_aload_n (pc' := 27) rfl rfl rfl rfl rfl ?_
            refine x_gR (pc' := 30) (r := (some 2)) rfl rfl rfl (Eq.trans rdRL (Eq.trans rdRI (z_R_781_0 e))) ?_
            refine x_iload_n (pc' := 31) rfl rfl rfl ?_
            refine x_bald (pc' := 32) (N := 6) (z := false) rfl rfl (Eq.trans rdNL (Eq.trans rdNI (z_N_22_2 e))) (io_in (p := m) (N := 6) hm (by decide)) (Eq.trans (congrArg (sB (sLw (sIw t 450 m (xs 2)) 23 0 0 ((xs 2).toInt64)) 22 2) (nn_io (p := m) (Nat.lt_trans hm (by decide)))) (Eq.trans rdBL (Eq.trans rdBI (z_B_22_2_y e _)))) ?_
            refine x_if (a' := 76) (pc' := 35) (z := false) rfl rfl rfl (by decide) (fun h => by cases h) (fun _ => ?_)
            refine x_aload_n (pc' := 36) rfl rfl rfl rfl rfl ?_
            refine x_gR (pc' := 39) (r := (some 4)) rfl rfl rfl (Eq.trans rdRL (Eq.trans rdRI (z_R_774_0 e))) ?_
            refine x_iload_n (pc' := 40) rfl rfl rfl ?_
            refine x_iald (pc' := 41) (N := 6) (x := 0) rfl rfl rfl (Eq.trans rdNL (Eq.trans rdNI (z_N_21_4 e))) (io_in (p := m) (N := 6) hm (by decide)) (Eq.trans (congrArg (sA (sLw (sIw t 450 m (xs 2)) 23 0 0 ((xs 2).toInt64)) 21 4) (nn_io (p := m) (Nat.lt_trans hm (by decide)))) (Eq.trans rdAL (Eq.trans rdAI (z_A_21_4_y e _)))) ?_
            refine x_iload_n (pc' := 42) rfl rfl rfl ?_
            refine x_iadd (pc' := 43) (z := (xs 2)) rfl rfl (Int32.zero_add _) ?_
            refine x_iconst (pc' := 44) rfl rfl ?_
            refine x_ldc_w (pc' := 47) rfl rfl ?_
            refine x_cs (ls0 := [_, _, _]) (rest := []) rfl rfl rfl rfl ?_
            refine x_iload_n (pc' := 1) rfl rfl rfl ?_
            refine x_iload_n (pc' := 2) rfl rfl rfl ?_
            refine x_icmp (a' := 14) (pc' := 5) (z := decide ((xs 2) < 0)) rfl rfl rfl rfl (fun h => absurd (of_decide_eq_true h) (of_decide_eq_false q24)) (fun _ => ?_)
            refine x_iload_n (pc' := 6) rfl rfl rfl ?_
            refine x_iload_n (pc' := 7) rfl rfl rfl ?_
            have J34 : X 145 15 [.inl (xs 2), .inl 0, .inl 100000000] [.inl (bz (!(decide (100000000 < (xs 2)))))] (sLw (sIw t 450 m (xs 2)) 23 0 0 ((xs 2).toInt64)) (sK 145 195 47 [.inr (.inr (12, (some 0))), .inl (io m), .inl (xs 2), .inl (bz true), .inl (bz true), sJk] [] (sK 195 297 575 [.inr (.inr (29, (some 0))), .inr (.inr (11, (some 0))), .inr (.inr (12, (some 0))), .inr (.inr (23, (some 0))), .inl 0, .inl 0, sJk] [] Qp)) := by
              refine x_retz (z := (!(decide (100000000 < (xs 2))))) rfl rfl ?_
              refine sK_i (pc' := 50) rfl ?_
              refine x_ifeq_z (a' := 76) (pc' := 53) (z := (!(decide (100000000 < (xs 2))))) rfl rfl rfl (fun h => zz_no (an_2 q23) h) (fun _ => ?_)
              refine x_iload_n (pc' := 54) rfl rfl rfl ?_
              refine x_if_n (a' := 72) (pc' := 57) (z := decide ((xs 2) < 0)) rfl rfl rfl (ik_ge _ _) (fun _ => ?_) (fun h => absurd (of_decide_eq_true h) (of_decide_eq_false q24))
              refine x_iconst (pc' := 73) rfl rfl ?_
              refine x_goto (pc' := 77) rfl rfl ?_
              refine x_istore (pc' := 79) (ls' := [_, _, _, _, _, _]) rfl rfl rfl rfl ?_
              refine x_aload_n (pc' := 80) rfl rfl rfl rfl rfl ?_
              refine x_iload_n (pc' := 81) rfl rfl rfl ?_
              refine x_if (a' := 88) (pc' := 84) (z := true) rfl rfl rfl (by decide) (fun _ => ?_) (fun h => by cases h)
              refine x_iload (pc' := 90) rfl rfl rfl ?_
              refine x_if (a' := 97) (pc' := 93) (z := true) rfl rfl rfl (by decide) (fun _ => ?_) (fun h => by cases h)
              refine x_iload (pc' := 99) rfl rfl rfl ?_
              refine x_if (a' := 106) (pc' := 102) (z := false) rfl rfl rfl (by decide) (fun h => by cases h) (fun _ => ?_)
              refine x_iconst (pc' := 103) rfl rfl ?_
              refine x_goto (pc' := 107) rfl rfl ?_
              refine x_cv (ls0 := [_, _]) (rest := []) rfl rfl rfl rfl rfl ?_
              refine x_aload_n (pc' := 1) rfl rfl rfl rfl rfl ?_
              refine x_iload_n (pc' := 2) rfl rfl rfl ?_
              refine x_pI (pc' := 5) rfl rfl rfl ?_
              refine x_iload_n (pc' := 6) rfl rfl rfl ?_
              refine x_if (a' := 13) (pc' := 9) (z := false) rfl rfl rfl (by decide) (fun h => by cases h) (fun _ => ?_)
              refine x_iconst (pc' := 10) rfl rfl ?_
              refine x_goto (pc' := 14) rfl rfl ?_
              refine x_retz (z := true) rfl rfl ?_
              refine sK_i (pc' := 110) rfl ?_
              refine x_if (a' := 115) (pc' := 113) (z := true) rfl rfl rfl (by decide) (fun _ => ?_) (fun h => by cases h)
              refine x_aload_n (pc' := 116) rfl rfl rfl rfl rfl ?_
              refine x_gR (pc' := 119) (r := (some 4)) rfl rfl rfl (Eq.trans rdRI (Eq.trans rdRL (Eq.trans rdRI (z_R_774_0 e)))) ?_
              refine x_iload_n (pc' := 120) rfl rfl rfl ?_
              refine x_dup2 (pc' := 121) rfl rfl rfl rfl ?_
              refine x_iald (pc' := 122) (N := 6) (x := 0) rfl rfl rfl (Eq.trans rdNI (Eq.trans rdNL (Eq.trans rdNI (z_N_21_4 e)))) (io_in (p := m) (N := 6) hm (by decide)) (Eq.trans (congrArg (sA (sIw (sLw (sIw t 450 m (xs 2)) 23 0 0 ((xs 2).toInt64)) 768 0 0) 21 4) (nn_io (p := m) (Nat.lt_trans hm (by decide)))) (Eq.trans rdAI (Eq.trans rdAL (Eq.trans rdAI (z_A_21_4_y e _))))) ?_
              refine x_iload_n (pc' := 123) rfl rfl rfl ?_
              refine x_iadd (pc' := 124) (z := (xs 2)) rfl rfl (Int32.zero_add _) ?_
              refine x_iast (pc' := 125) (N := 6) (p := m) rfl rfl rfl (Eq.trans rdNI (Eq.trans rdNL (Eq.trans rdNI (z_N_21_4 e)))) (io_in (p := m) (N := 6) hm (by decide)) (nn_io (p := m) (Nat.lt_trans hm (by decide))) ?_
              refine x_aload_n (pc' := 126) rfl rfl rfl rfl rfl ?_
              refine x_gR (pc' := 129) (r := (some 4)) rfl rfl rfl (Eq.trans rdRA (Eq.trans rdRI (Eq.trans rdRL (Eq.trans rdRI (z_R_774_0 e))))) ?_
              refine x_iload_n (pc' := 130) rfl rfl rfl ?_
              refine x_iald (pc' := 131) (N := 6) (x := (xs 2)) rfl rfl rfl (Eq.trans rdNA (Eq.trans rdNI (Eq.trans rdNL (Eq.trans rdNI (z_N_21_4 e))))) (io_in (p := m) (N := 6) hm (by decide)) (Eq.trans (congrArg (sA (sAw (sIw (sLw (sIw t 450 m (xs 2)) 23 0 0 ((xs 2).toInt64)) 768 0 0) 21 4 m (xs 2)) 21 4) (nn_io (p := m) (Nat.lt_trans hm (by decide)))) sA_s) ?_
              refine x_reti rfl rfl ?_
              refine sK_i (pc' := 578) rfl ?_
              refine x_istore (pc' := 580) (ls' := [_, _, _, _, _, _, _]) rfl rfl rfl rfl ?_
              refine x_aload_n (pc' := 581) rfl rfl rfl rfl rfl ?_
              refine x_cv (ls0 := [_]) (rest := []) rfl rfl rfl rfl rfl ?_
              refine x_aload_n (pc' := 1) rfl rfl rfl rfl rfl ?_
              refine x_gI (pc' := 4) (x := 0) rfl rfl rfl (Eq.trans rdIA sI_s) ?_
              refine x_reti rfl rfl ?_
              refine sK_i (pc' := 584) rfl ?_
              refine x_iload (pc' := 586) rfl rfl rfl ?_
              refine x_icmp (a' := 591) (pc' := 589) (z := true) rfl rfl rfl (by decide) (fun _ => ?_) (fun h => by cases h)
              refine x_iload (pc' := 593) rfl rfl rfl ?_
              refine x_if (a' := 608) (pc' := 596) (z := false) rfl rfl rfl (by decide) (fun h => by cases h) (fun _ => ?_)
              refine x_aload_n (pc' := 597) rfl rfl rfl rfl rfl ?_
              refine x_iconst (pc' := 598) rfl rfl ?_
              refine x_lald (pc' := 599) (N := 1) (x := (xs 2).toInt64) rfl rfl (Eq.trans rdNA (Eq.trans rdNI (Eq.trans rdNL (Eq.trans rdNI (z_N_23_0 e))))) (io_in (p := 0) (N := 1) (by decide) (by decide)) (Eq.trans (congrArg (sL (sAw (sIw (sLw (sIw t 450 m (xs 2)) 23 0 0 ((xs 2).toInt64)) 768 0 0) 21 4 m (xs 2)) 23 0) (nn_io (p := 0) (by decide))) (Eq.trans rdLA (Eq.trans rdLI sL_s))) ?_
              refine x_iload (pc' := 601) rfl rfl rfl ?_
              refine x_i2l (pc' := 602) rfl rfl rfl ?_
              refine x_lcmp (pc' := 603) (z := 0) rfl rfl (sLcmp_s _) ?_
              refine x_if (a' := 608) (pc' := 606) (z := true) rfl rfl rfl (by decide) (fun _ => ?_) (fun h => by cases h)
              refine x_goto (pc' := 2938) rfl rfl ?_
              refine x_iinc (pc' := 2941) (y := 7) (ls' := [_, _, _, _, _, _, _]) rfl rfl rfl rfl rfl ?_
              refine x_goto (pc' := 23) rfl rfl ?_
              refine x_iload (pc' := 25) rfl rfl rfl ?_
              refine x_aload_n (pc' := 26) rfl rfl rfl rfl rfl ?_
              refine x_alen (pc' := 27) (N := 7) rfl rfl rfl (Eq.trans rdNA (Eq.trans rdNI (Eq.trans rdNL (Eq.trans rdNI (z_N_29_0 e))))) (?_ : X _ _ _ (.inl 7 :: _) _ _)
              refine x_bipush (pc' := 29) rfl rfl ?_
              refine x_isub (pc' := 30) (z := 0) rfl rfl (by decide) ?_
              refine x_icmp (a' := 2944) (pc' := 33) (z := true) rfl rfl rfl (by decide) (fun _ => ?_) (fun h => by cases h)
              refine x_iconst (pc' := 2945) rfl rfl ?_
              refine x_retz (z := true) rfl rfl ?_
              exact Qp_ok e (p := 0) (q := 0) rfl rfl rfl rfl
            refine x_icmp (a' := 14) (pc' := 10) (z := decide (100000000 < (xs 2))) rfl rfl rfl rfl (fun q34 => ?_) (fun q34 => ?_)
            · refine x_iconst (pc' := 15) rfl rfl ?_
              ((try rw [q34] at J34); (try rw [q34]); (try simp only [cd_t, cd_f, nt_t, nt_f, an_t, an_f, or_t, or_f] at J34); (try simp only [cd_t, cd_f, nt_t, nt_f, an_t, an_f, or_t, or_f]); exact J34)
            · refine x_iconst (pc' := 11) rfl rfl ?_
              refine x_goto (pc' := 15) rfl rfl ?_
              ((try rw [q34] at J34); (try rw [q34]); (try simp only [cd_t, cd_f, nt_t, nt_f, an_t, an_f, or_t, or_f] at J34); (try simp only [cd_t, cd_f, nt_t, nt_f, an_t, an_f, or_t, or_f]); exact J34)
          · refine x_aload_n (pc' := 54) rfl rfl rfl rfl rfl ?_
            refine x_aload_n (pc' := 55) rfl rfl rfl rfl rfl ?_
            refine x_cv (ls0 := [_, _]) (rest := []) rfl rfl rfl rfl rfl ?_
            refine x_aload_n (pc' := 1) rfl rfl rfl rfl rfl ?_
            refine x_gR (pc' := 4) (r := (some 0)) rfl rfl rfl (z_R_704_0 e) ?_
            refine x_aload_n (pc' := 5) rfl rfl rfl rfl rfl ?_
            refine x_aload_n (pc' := 6) rfl rfl rfl rfl rfl ?_
            refine x_gR (pc' := 9) (r := (some 0)) rfl rfl rfl (z_R_705_0 e) ?_
            refine x_aload_n (pc' := 10) rfl rfl rfl rfl rfl ?_
            refine x_null (pc' := 11) rfl rfl rfl ?_
            refine x_cv (ls0 := [_, _, _, sJk, sJk, sJk, sJk]) (rest := [_, _]) rfl rfl rfl rfl rfl ?_
            refine x_bipush (pc' := 2) rfl rfl ?_
            refine x_newarray (pc' := 4) (N := 6) (i := 7) rfl rfl rfl rfl (z_C_20 e) ?_
            refine x_astore_n (pc' := 5) (ls' := [_, _, _, _, _, _, _]) rfl rfl rfl rfl rfl ?_
            refine x_iconst (pc' := 6) rfl rfl ?_
            refine x_istore (pc' := 8) (ls' := [_, _, _, _, _, _, _]) rfl rfl rfl rfl ?_
            refine x_iload (pc' := 10) rfl rfl rfl ?_
            refine x_aload_n (pc' := 11) rfl rfl rfl rfl rfl ?_
            refine x_gR (pc' := 14) (r := (some 1)) rfl rfl rfl (Eq.trans rdRnwa (z_R_257_0 e)) ?_
            refine x_cv (ls0 := [_]) (rest := [_]) rfl rfl rfl rfl rfl ?_
            refine x_aload_n (pc' := 1) rfl rfl rfl rfl rfl ?_
            refine x_gI (pc' := 4) (x := 0) rfl rfl rfl (Eq.trans rdInwa (z_I_834_1 e)) ?_
            refine x_reti rfl rfl ?_
            refine sK_i (pc' := 17) rfl ?_
            refine x_icmp (a' := 105) (pc' := 20) (z := true) rfl rfl rfl (by decide) (fun _ => ?_) (fun h => by cases h)
            refine x_aload_n (pc' := 106) rfl rfl rfl rfl rfl ?_
            refine x_reta rfl rfl ?_
            refine sK_i (pc' := 14) rfl ?_
            refine x_cv (ls0 := [_, _, _, sJk, sJk, sJk, sJk, sJk, sJk]) (rest := []) rfl rfl rfl rfl rfl ?_
            refine x_iconst (pc' := 1) rfl rfl ?_
            refine x_istore_n (pc' := 2) (ls' := [_, _, _, _, _, _, _, _, _]) rfl rfl rfl rfl ?_
            refine x_iconst (pc' := 3) rfl rfl ?_
            refine x_istore (pc' := 5) (ls' := [_, _, _, _, _, _, _, _, _]) rfl rfl rfl rfl ?_
            refine x_iload (pc' := 7) rfl rfl rfl ?_
            refine x_bipush (pc' := 9) rfl rfl ?_
            refine x_icmp (a' := 111) (pc' := 12) (z := false) rfl rfl rfl (by decide) (fun h => by cases h) (fun _ => ?_)
            refine x_iconst (pc' := 13) rfl rfl ?_
            refine x_istore (pc' := 15) (ls' := [_, _, _, _, _, _, _, _, _]) rfl rfl rfl rfl ?_
            refine x_iconst (pc' := 16) rfl rfl ?_
            refine x_istore (pc' := 18) (ls' := [_, _, _, _, _, _, _, _, _]) rfl rfl rfl rfl ?_
            refine x_iload (pc' := 20) rfl rfl rfl ?_
            refine x_aload_n (pc' := 21) rfl rfl rfl rfl rfl ?_
            refine x_gR (pc' := 24) (r := (some 0)) rfl rfl rfl (Eq.trans rdRnwa (z_R_320_0 e)) ?_
            refine x_alen (pc' := 25) (N := 3) rfl rfl rfl (Eq.trans (b := sN t _ _) rfl (z_N_25_0 e)) (?_ : X _ _ _ (.inl 3 :: _) _ _)
            refine x_icmp (a' := 98) (pc' := 28) (z := false) rfl rfl rfl (by decide) (fun h => by cases h) (fun _ => ?_)
            refine x_iload (pc' := 30) rfl rfl rfl ?_
            refine x_iconst (pc' := 31) rfl rfl ?_
            refine x_iadd (pc' := 32) (z := 3) rfl rfl (by decide) ?_
            refine x_aload_n (pc' := 33) rfl rfl rfl rfl rfl ?_
            refine x_alen (pc' := 34) (N := 6) rfl rfl rfl (sN_new (z_C_20 e)) (?_ : X _ _ _ (.inl 6 :: _) _ _)
            refine x_icmp (a' := 98) (pc' := 37) (z := false) rfl rfl rfl (by decide) (fun h => by cases h) (fun _ => ?_)
            refine x_aload_n (pc' := 38) rfl rfl rfl rfl rfl ?_
            refine x_aload_n (pc' := 39) rfl rfl rfl rfl rfl ?_
            refine x_gR (pc' := 42) (r := (some 0)) rfl rfl rfl (Eq.trans rdRnwa (z_R_320_0 e)) ?_
            refine x_iload (pc' := 44) rfl rfl rfl ?_
            refine x_aald (pc' := 45) (N := 3) (k' := 2) (r := (some 0)) rfl rfl rfl (Eq.trans (b := sN t _ _) rfl (z_N_25_0 e)) (io_in (p := 0) (N := 3) (by decide) (by decide)) (Eq.trans (congrArg (sE (sNwA t 20 6) 25 0) (nn_io (p := 0) (by decide))) (Eq.trans rdEnwa (z_E_25_0_0 e))) ?_
            refine x_cv (ls0 := [_, _, sJk]) (rest := []) rfl rfl rfl rfl rfl ?_
            refine x_aload_n (pc' := 1) rfl rfl rfl rfl rfl ?_
            refine x_gI (pc' := 4) (x := 0) rfl rfl rfl (Eq.trans rdInwa (z_I_128_0 e)) ?_
            refine x_istore_n (pc' := 5) (ls' := [_, _, _]) rfl rfl rfl rfl ?_
            refine x_iload_n (pc' := 6) rfl rfl rfl ?_
            refine x_if (a' := 27) (pc' := 9) (z := false) rfl rfl rfl (by decide) (fun h => by cases h) (fun _ => ?_)
            refine x_iload_n (pc' := 10) rfl rfl rfl ?_
            refine x_aload_n (pc' := 11) rfl rfl rfl rfl rfl ?_
            refine x_gR (pc' := 14) (r := (some (m + 1))) rfl rfl rfl (kMp (Cn_e e) hm).1 ?_
            refine x_alen (pc' := 15) (N := 3) rfl rfl rfl (kMp (Cn.nwa (Cn_e e)) hm).2.1 (?_ : X _ _ _ (.inl 3 :: _) _ _)
            refine x_icmp (a' := 27) (pc' := 18) (z := false) rfl rfl rfl (by decide) (fun h => by cases h) (fun _ => ?_)
            refine x_aload_n (pc' := 19) rfl rfl rfl rfl rfl ?_
            refine x_gR (pc' := 22) (r := (some (m + 1))) rfl rfl rfl (kMp (Cn_e e) hm).1 ?_
            refine x_iload_n (pc' := 23) rfl rfl rfl ?_
            refine x_iald (pc' := 24) (N := 3) (x := 0) rfl rfl rfl (kMp (Cn.nwa (Cn_e e)) hm).2.1 (io_in (p := 0) (N := 3) (by decide) (by decide)) (Eq.trans (congrArg (sA (sNwA t 20 6) 20 (m + 1)) (nn_io (p := 0) (by decide))) (Eq.trans rdAnwa (z_A_20_yy e _ _))) ?_
            refine x_goto (pc' := 28) rfl rfl ?_
            refine x_reti rfl rfl ?_
            refine sK_i (pc' := 48) rfl ?_
            refine x_istore (pc' := 50) (ls' := [_, _, _, _, _, _, _, _, _]) rfl rfl rfl rfl ?_
            refine x_aload_n (pc' := 51) rfl rfl rfl rfl rfl ?_
            refine x_iload (pc' := 53) rfl rfl rfl ?_
            refine x_iload (pc' := 55) rfl rfl rfl ?_
            refine x_cv (ls0 := [_, _, _, sJk]) (rest := []) rfl rfl rfl rfl rfl ?_
            refine x_iload_n (pc' := 1) rfl rfl rfl ?_
            refine x_iconst (pc' := 2) rfl rfl ?_
            refine x_imul (pc' := 3) (z := 0) rfl rfl (by decide) ?_
            refine x_iload_n (pc' := 4) rfl rfl rfl ?_
            refine x_iadd (pc' := 5) (z := 0) rfl rfl (by decide) ?_
            refine x_istore_n (pc' := 6) (ls' := [_, _, _, _]) rfl rfl rfl rfl ?_
            refine x_iload_n (pc' := 7) rfl rfl rfl ?_
            refine x_if (a' := 28) (pc' := 10) (z := false) rfl rfl rfl (by decide) (fun h => by cases h) (fun _ => ?_)
            refine x_iload_n (pc' := 11) rfl rfl rfl ?_
            refine x_aload_n (pc' := 12) rfl rfl rfl rfl rfl ?_
            refine x_gR (pc' := 15) (r := (some 0)) rfl rfl rfl (Eq.trans rdRnwa (z_R_323_0 e)) ?_
            refine x_alen (pc' := 16) (N := 18) rfl rfl rfl (kN_20_0 (Cn.nwa (Cn_e e))) (?_ : X _ _ _ (.inl 18 :: _) _ _)
            refine x_icmp (a' := 28) (pc' := 19) (z := false) rfl rfl rfl (by decide) (fun h => by cases h) (fun _ => ?_)
            refine x_aload_n (pc' := 20) rfl rfl rfl rfl rfl ?_
            refine x_gR (pc' := 23) (r := (some 0)) rfl rfl rfl (Eq.trans rdRnwa (z_R_323_0 e)) ?_
            refine x_iload_n (pc' := 24) rfl rfl rfl ?_
            refine x_iald (pc' := 25) (N := 18) (x := 0) rfl rfl rfl (kN_20_0 (Cn.nwa (Cn_e e))) (io_in (p := 0) (N := 18) (by decide) (by decide)) (Eq.trans (congrArg (sA (sNwA t 20 6) 20 0) (nn_io (p := 0) (by decide))) (Eq.trans rdAnwa (z_A_20_0_0 e))) ?_
            refine x_goto (pc' := 29) rfl rfl ?_
            refine x_reti rfl rfl ?_
            refine sK_i (pc' := 58) rfl ?_
            refine x_istore (pc' := 60) (ls' := [_, _, _, _, _, _, _, _, _]) rfl rfl rfl rfl ?_
            refine x_iload (pc' := 62) rfl rfl rfl ?_
            refine x_iload (pc' := 64) rfl rfl rfl ?_
            refine x_aload_n (pc' := 65) rfl rfl rfl rfl rfl ?_
            refine x_iload (pc' := 67) rfl rfl rfl ?_
            refine x_iald (pc' := 68) (N := 6) (x := 0) rfl rfl rfl (sN_new (z_C_20 e)) (io_in (p := 0) (N := 6) (by decide) (by decide)) (Eq.trans (congrArg (sA (sNwA t 20 6) 20 7) (nn_io (p := 0) (by decide))) (Eq.trans rdAnwa (z_A_20_7_0 e))) ?_
            refine x_iadd (pc' := 69) (z := 0) rfl rfl (by decide) ?_
            refine x_ineg (pc' := 70) (z := 0) rfl rfl (by decide) ?_
            refine x_iload (pc' := 72) rfl rfl rfl ?_
            refine x_imul (pc' := 73) (z := 0) rfl rfl (by decide) ?_
            refine x_iload (pc' := 75) rfl rfl rfl ?_
            refine x_aload_n (pc' := 76) rfl rfl rfl rfl rfl ?_
            refine x_iload (pc' := 78) rfl rfl rfl ?_
            refine x_iconst (pc' := 79) rfl rfl ?_
            refine x_iadd (pc' := 80) (z := 3) rfl rfl (by decide) ?_
            refine x_iald (pc' := 81) (N := 6) (x := 0) rfl rfl rfl (sN_new (z_C_20 e)) (io_in (p := 3) (N := 6) (by decide) (by decide)) (Eq.trans (congrArg (sA (sNwA t 20 6) 20 7) (nn_io (p := 3) (by decide))) (Eq.trans rdAnwa (z_A_20_7_3 e))) ?_
            refine x_isub (pc' := 82) (z := 0) rfl rfl (by decide) ?_
            refine x_ineg (pc' := 83) (z := 0) rfl rfl (by decide) ?_
            refine x_iload (pc' := 85) rfl rfl rfl ?_
            refine x_imul (pc' := 86) (z := 0) rfl rfl (by decide) ?_
            refine x_max (pc' := 89) (z := 0) rfl rfl rfl (by decide) ?_
            refine x_iadd (pc' := 90) (z := 0) rfl rfl (by decide) ?_
            refine x_istore (pc' := 92) (ls' := [_, _, _, _, _, _, _, _, _]) rfl rfl rfl rfl ?_
            refine x_iinc (pc' := 95) (y := 1) (ls' := [_, _, _, _, _, _, _, _, _]) rfl rfl rfl rfl rfl ?_
            refine x_goto (pc' := 18) rfl rfl ?_
            refine x_iload (pc' := 20) rfl rfl rfl ?_
            refine x_aload_n (pc' := 21) rfl rfl rfl rfl rfl ?_
            refine x_gR (pc' := 24) (r := (some 0)) rfl rfl rfl (Eq.trans rdRnwa (z_R_320_0 e)) ?_
            refine x_alen (pc' := 25) (N := 3) rfl rfl rfl (Eq.trans (b := sN t _ _) rfl (z_N_25_0 e)) (?_ : X _ _ _ (.inl 3 :: _) _ _)
            refine x_icmp (a' := 98) (pc' := 28) (z := false) rfl rfl rfl (by decide) (fun h => by cases h) (fun _ => ?_)
            refine x_iload (pc' := 30) rfl rfl rfl ?_
            refine x_iconst (pc' := 31) rfl rfl ?_
            refine x_iadd (pc' := 32) (z := 4) rfl rfl (by decide) ?_
            refine x_aload_n (pc' := 33) rfl rfl rfl rfl rfl ?_
            refine x_alen (pc' := 34) (N := 6) rfl rfl rfl (sN_new (z_C_20 e)) (?_ : X _ _ _ (.inl 6 :: _) _ _)
            refine x_icmp (a' := 98) (pc' := 37) (z := false) rfl rfl rfl (by decide) (fun h => by cases h) (fun _ => ?_)
            refine x_aload_n (pc' := 38) rfl rfl rfl rfl rfl ?_
            refine x_aload_n (pc' := 39) rfl rfl rfl rfl rfl ?_
            refine x_gR (pc' := 42) (r := (some 0)) rfl rfl rfl (Eq.trans rdRnwa (z_R_320_0 e)) ?_
            refine x_iload (pc' := 44) rfl rfl rfl ?_
            refine x_aald (pc' := 45) (N := 3) (k' := 2) (r := (some 1)) rfl rfl rfl (Eq.trans (b := sN t _ _) rfl (z_N_25_0 e)) (io_in (p := 1) (N := 3) (by decide) (by decide)) (Eq.trans (congrArg (sE (sNwA t 20 6) 25 0) (nn_io (p := 1) (by decide))) (Eq.trans rdEnwa (z_E_25_0_1 e))) ?_
            refine x_cv (ls0 := [_, _, sJk]) (rest := []) rfl rfl rfl rfl rfl ?_
            refine x_aload_n (pc' := 1) rfl rfl rfl rfl rfl ?_
            refine x_gI (pc' := 4) (x := 1) rfl rfl rfl (Eq.trans rdInwa (z_I_128_1 e)) ?_
            refine x_istore_n (pc' := 5) (ls' := [_, _, _]) rfl rfl rfl rfl ?_
            refine x_iload_n (pc' := 6) rfl rfl rfl ?_
            refine x_if (a' := 27) (pc' := 9) (z := false) rfl rfl rfl (by decide) (fun h => by cases h) (fun _ => ?_)
            refine x_iload_n (pc' := 10) rfl rfl rfl ?_
            refine x_aload_n (pc' := 11) rfl rfl rfl rfl rfl ?_
            refine x_gR (pc' := 14) (r := (some (m + 1))) rfl rfl rfl (kMp (Cn_e e) hm).1 ?_
            refine x_alen (pc' := 15) (N := 3) rfl rfl rfl (kMp (Cn.nwa (Cn_e e)) hm).2.1 (?_ : X _ _ _ (.inl 3 :: _) _ _)
            refine x_icmp (a' := 27) (pc' := 18) (z := false) rfl rfl rfl (by decide) (fun h => by cases h) (fun _ => ?_)
            refine x_aload_n (pc' := 19) rfl rfl rfl rfl rfl ?_
            refine x_gR (pc' := 22) (r := (some (m + 1))) rfl rfl rfl (kMp (Cn_e e) hm).1 ?_
            refine x_iload_n (pc' := 23) rfl rfl rfl ?_
            refine x_iald (pc' := 24) (N := 3) (x := 0) rfl rfl rfl (kMp (Cn.nwa (Cn_e e)) hm).2.1 (io_in (p := 1) (N := 3) (by decide) (by decide)) (Eq.trans (congrArg (sA (sNwA t 20 6) 20 (m + 1)) (nn_io (p := 1) (by decide))) (Eq.trans rdAnwa (z_A_20_yy e _ _))) ?_
            refine x_goto (pc' := 28) rfl rfl ?_
            refine x_reti rfl rfl ?_
            refine sK_i (pc' := 48) rfl ?_
            refine x_istore (pc' := 50) (ls' := [_, _, _, _, _, _, _, _, _]) rfl rfl rfl rfl ?_
            refine x_aload_n (pc' := 51) rfl rfl rfl rfl rfl ?_
            refine x_iload (pc' := 53) rfl rfl rfl ?_
            refine x_iload (pc' := 55) rfl rfl rfl ?_
            refine x_cv (ls0 := [_, _, _, sJk]) (rest := []) rfl rfl rfl rfl rfl ?_
            refine x_iload_n (pc' := 1) rfl rfl rfl ?_
            refine x_iconst (pc' := 2) rfl rfl ?_
            refine x_imul (pc' := 3) (z := 0) rfl rfl (by decide) ?_
            refine x_iload_n (pc' := 4) rfl rfl rfl ?_
            refine x_iadd (pc' := 5) (z := 1) rfl rfl (by decide) ?_
            refine x_istore_n (pc' := 6) (ls' := [_, _, _, _]) rfl rfl rfl rfl ?_
            refine x_iload_n (pc' := 7) rfl rfl rfl ?_
            refine x_if (a' := 28) (pc' := 10) (z := false) rfl rfl rfl (by decide) (fun h => by cases h) (fun _ => ?_)
            refine x_iload_n (pc' := 11) rfl rfl rfl ?_
            refine x_aload_n (pc' := 12) rfl rfl rfl rfl rfl ?_
            refine x_gR (pc' := 15) (r := (some 0)) rfl rfl rfl (Eq.trans rdRnwa (z_R_323_0 e)) ?_
            refine x_alen (pc' := 16) (N := 18) rfl rfl rfl (kN_20_0 (Cn.nwa (Cn_e e))) (?_ : X _ _ _ (.inl 18 :: _) _ _)
            refine x_icmp (a' := 28) (pc' := 19) (z := false) rfl rfl rfl (by decide) (fun h => by cases h) (fun _ => ?_)
            refine x_aload_n (pc' := 20) rfl rfl rfl rfl rfl ?_
            refine x_gR (pc' := 23) (r := (some 0)) rfl rfl rfl (Eq.trans rdRnwa (z_R_323_0 e)) ?_
            refine x_iload_n (pc' := 24) rfl rfl rfl ?_
            refine x_iald (pc' := 25) (N := 18) (x := 0) rfl rfl rfl (kN_20_0 (Cn.nwa (Cn_e e))) (io_in (p := 1) (N := 18) (by decide) (by decide)) (Eq.trans (congrArg (sA (sNwA t 20 6) 20 0) (nn_io (p := 1) (by decide))) (Eq.trans rdAnwa (z_A_20_0_1 e))) ?_
            refine x_goto (pc' := 29) rfl rfl ?_
            refine x_reti rfl rfl ?_
            refine sK_i (pc' := 58) rfl ?_
            refine x_istore (pc' := 60) (ls' := [_, _, _, _, _, _, _, _, _]) rfl rfl rfl rfl ?_
            refine x_iload (pc' := 62) rfl rfl rfl ?_
            refine x_iload (pc' := 64) rfl rfl rfl ?_
            refine x_aload_n (pc' := 65) rfl rfl rfl rfl rfl ?_
            refine x_iload (pc' := 67) rfl rfl rfl ?_
            refine x_iald (pc' := 68) (N := 6) (x := 0) rfl rfl rfl (sN_new (z_C_20 e)) (io_in (p := 1) (N := 6) (by decide) (by decide)) (Eq.trans (congrArg (sA (sNwA t 20 6) 20 7) (nn_io (p := 1) (by decide))) (Eq.trans rdAnwa (z_A_20_7_1 e))) ?_
            refine x_iadd (pc' := 69) (z := 0) rfl rfl (by decide) ?_
            refine x_ineg (pc' := 70) (z := 0) rfl rfl (by decide) ?_
            refine x_iload (pc' := 72) rfl rfl rfl ?_
            refine x_imul (pc' := 73) (z := 0) rfl rfl (by decide) ?_
            refine x_iload (pc' := 75) rfl rfl rfl ?_
            refine x_aload_n (pc' := 76) rfl rfl rfl rfl rfl ?_
            refine x_iload (pc' := 78) rfl rfl rfl ?_
            refine x_iconst (pc' := 79) rfl rfl ?_
            refine x_iadd (pc' := 80) (z := 4) rfl rfl (by decide) ?_
            refine x_iald (pc' := 81) (N := 6) (x := 0) rfl rfl rfl (sN_new (z_C_20 e)) (io_in (p := 4) (N := 6) (by decide) (by decide)) (Eq.trans (congrArg (sA (sNwA t 20 6) 20 7) (nn_io (p := 4) (by decide))) (Eq.trans rdAnwa (z_A_20_7_4 e))) ?_
            refine x_isub (pc' := 82) (z := 0) rfl rfl (by decide) ?_
            refine x_ineg (pc' := 83) (z := 0) rfl rfl (by decide) ?_
            refine x_iload (pc' := 85) rfl rfl rfl ?_
            refine x_imul (pc' := 86) (z := 0) rfl rfl (by decide) ?_
            refine x_max (pc' := 89) (z := 0) rfl rfl rfl (by decide) ?_
            refine x_iadd (pc' := 90) (z := 0) rfl rfl (by decide) ?_
            refine x_istore (pc' := 92) (ls' := [_, _, _, _, _, _, _, _, _]) rfl rfl rfl rfl ?_
            refine x_iinc (pc' := 95) (y := 2) (ls' := [_, _, _, _, _, _, _, _, _]) rfl rfl rfl rfl rfl ?_
            refine x_goto (pc' := 18) rfl rfl ?_
            refine x_iload (pc' := 20) rfl rfl rfl ?_
            refine x_aload_n (pc' := 21) rfl rfl rfl rfl rfl ?_
            refine x_gR (pc' := 24) (r := (some 0)) rfl rfl rfl (Eq.trans rdRnwa (z_R_320_0 e)) ?_
            refine x_alen (pc' := 25) (N := 3) rfl rfl rfl (Eq.trans (b := sN t _ _) rfl (z_N_25_0 e)) (?_ : X _ _ _ (.inl 3 :: _) _ _)
            refine x_icmp (a' := 98) (pc' := 28) (z := false) rfl rfl rfl (by decide) (fun h => by cases h) (fun _ => ?_)
            refine x_iload (pc' := 30) rfl rfl rfl ?_
            refine x_iconst (pc' := 31) rfl rfl ?_
            refine x_iadd (pc' := 32) (z := 5) rfl rfl (by decide) ?_
            refine x_aload_n (pc' := 33) rfl rfl rfl rfl rfl ?_
            refine x_alen (pc' := 34) (N := 6) rfl rfl rfl (sN_new (z_C_20 e)) (?_ : X _ _ _ (.inl 6 :: _) _ _)
            refine x_icmp (a' := 98) (pc' := 37) (z := false) rfl rfl rfl (by decide) (fun h => by cases h) (fun _ => ?_)
            refine x_aload_n (pc' := 38) rfl rfl rfl rfl rfl ?_
            refine x_aload_n (pc' := 39) rfl rfl rfl rfl rfl ?_
            refine x_gR (pc' := 42) (r := (some 0)) rfl rfl rfl (Eq.trans rdRnwa (z_R_320_0 e)) ?_
            refine x_iload (pc' := 44) rfl rfl rfl ?_
            refine x_aald (pc' := 45) (N := 3) (k' := 2) (r := (some 2)) rfl rfl rfl (Eq.trans (b := sN t _ _) rfl (z_N_25_0 e)) (io_in (p := 2) (N := 3) (by decide) (by decide)) (Eq.trans (congrArg (sE (sNwA t 20 6) 25 0) (nn_io (p := 2) (by decide))) (Eq.trans rdEnwa (z_E_25_0_2 e))) ?_
            refine x_cv (ls0 := [_, _, sJk]) (rest := []) rfl rfl rfl rfl rfl ?_
            refine x_aload_n (pc' := 1) rfl rfl rfl rfl rfl ?_
            refine x_gI (pc' := 4) (x := 2) rfl rfl rfl (Eq.trans rdInwa (z_I_128_2 e)) ?_
            refine x_istore_n (pc' := 5) (ls' := [_, _, _]) rfl rfl rfl rfl ?_
            refine x_iload_n (pc' := 6) rfl rfl rfl ?_
            refine x_if (a' := 27) (pc' := 9) (z := false) rfl rfl rfl (by decide) (fun h => by cases h) (fun _ => ?_)
            refine x_iload_n (pc' := 10) rfl rfl rfl ?_
            refine x_aload_n (pc' := 11) rfl rfl rfl rfl rfl ?_
            refine x_gR (pc' := 14) (r := (some (m + 1))) rfl rfl rfl (kMp (Cn_e e) hm).1 ?_
            refine x_alen (pc' := 15) (N := 3) rfl rfl rfl (kMp (Cn.nwa (Cn_e e)) hm).2.1 (?_ : X _ _ _ (.inl 3 :: _) _ _)
            refine x_icmp (a' := 27) (pc' := 18) (z := false) rfl rfl rfl (by decide) (fun h => by cases h) (fun _ => ?_)
            refine x_aload_n (pc' := 19) rfl rfl rfl rfl rfl ?_
            refine x_gR (pc' := 22) (r := (some (m + 1))) rfl rfl rfl (kMp (Cn_e e) hm).1 ?_
            refine x_iload_n (pc' := 23) rfl rfl rfl ?_
            refine x_iald (pc' := 24) (N := 3) (x := 0) rfl rfl rfl (kMp (Cn.nwa (Cn_e e)) hm).2.1 (io_in (p := 2) (N := 3) (by decide) (by decide)) (Eq.trans (congrArg (sA (sNwA t 20 6) 20 (m + 1)) (nn_io (p := 2) (by decide))) (Eq.trans rdAnwa (z_A_20_yy e _ _))) ?_
            refine x_goto (pc' := 28) rfl rfl ?_
            refine x_reti rfl rfl ?_
            refine sK_i (pc' := 48) rfl ?_
            refine x_istore (pc' := 50) (ls' := [_, _, _, _, _, _, _, _, _]) rfl rfl rfl rfl ?_
            refine x_aload_n (pc' := 51) rfl rfl rfl rfl rfl ?_
            refine x_iload (pc' := 53) rfl rfl rfl ?_
            refine x_iload (pc' := 55) rfl rfl rfl ?_
            refine x_cv (ls0 := [_, _, _, sJk]) (rest := []) rfl rfl rfl rfl rfl ?_
            refine x_iload_n (pc' := 1) rfl rfl rfl ?_
            refine x_iconst (pc' := 2) rfl rfl ?_
            refine x_imul (pc' := 3) (z := 0) rfl rfl (by decide) ?_
            refine x_iload_n (pc' := 4) rfl rfl rfl ?_
            refine x_iadd (pc' := 5) (z := 2) rfl rfl (by decide) ?_
            refine x_istore_n (pc' := 6) (ls' := [_, _, _, _]) rfl rfl rfl rfl ?_
            refine x_iload_n (pc' := 7) rfl rfl rfl ?_
            refine x_if (a' := 28) (pc' := 10) (z := false) rfl rfl rfl (by decide) (fun h => by cases h) (fun _ => ?_)
            refine x_iload_n (pc' := 11) rfl rfl rfl ?_
            refine x_aload_n (pc' := 12) rfl rfl rfl rfl rfl ?_
            refine x_gR (pc' := 15) (r := (some 0)) rfl rfl rfl (Eq.trans rdRnwa (z_R_323_0 e)) ?_
            refine x_alen (pc' := 16) (N := 18) rfl rfl rfl (kN_20_0 (Cn.nwa (Cn_e e))) (?_ : X _ _ _ (.inl 18 :: _) _ _)
            refine x_icmp (a' := 28) (pc' := 19) (z := false) rfl rfl rfl (by decide) (fun h => by cases h) (fun _ => ?_)
            refine x_aload_n (pc' := 20) rfl rfl rfl rfl rfl ?_
            refine x_gR (pc' := 23) (r := (some 0)) rfl rfl rfl (Eq.trans rdRnwa (z_R_323_0 e)) ?_
            refine x_iload_n (pc' := 24) rfl rfl rfl ?_
            refine x_iald (pc' := 25) (N := 18) (x := 0) rfl rfl rfl (kN_20_0 (Cn.nwa (Cn_e e))) (io_in (p := 2) (N := 18) (by decide) (by decide)) (Eq.trans (congrArg (sA (sNwA t 20 6) 20 0) (nn_io (p := 2) (by decide))) (Eq.trans rdAnwa (z_A_20_0_2 e))) ?_
            refine x_goto (pc' := 29) rfl rfl ?_
            refine x_reti rfl rfl ?_
            refine sK_i (pc' := 58) rfl ?_
            refine x_istore (pc' := 60) (ls' := [_, _, _, _, _, _, _, _, _]) rfl rfl rfl rfl ?_
            refine x_iload (pc' := 62) rfl rfl rfl ?_
            refine x_iload (pc' := 64) rfl rfl rfl ?_
            refine x_aload_n (pc' := 65) rfl rfl rfl rfl rfl ?_
            refine x_iload (pc' := 67) rfl rfl rfl ?_
            refine x_iald (pc' := 68) (N := 6) (x := 0) rfl rfl rfl (sN_new (z_C_20 e)) (io_in (p := 2) (N := 6) (by decide) (by decide)) (Eq.trans (congrArg (sA (sNwA t 20 6) 20 7) (nn_io (p := 2) (by decide))) (Eq.trans rdAnwa (z_A_20_7_2 e))) ?_
            refine x_iadd (pc' := 69) (z := 0) rfl rfl (by decide) ?_
            refine x_ineg (pc' := 70) (z := 0) rfl rfl (by decide) ?_
            refine x_iload (pc' := 72) rfl rfl rfl ?_
            refine x_imul (pc' := 73) (z := 0) rfl rfl (by decide) ?_
            refine x_iload (pc' := 75) rfl rfl rfl ?_
            refine x_aload_n (pc' := 76) rfl rfl rfl rfl rfl ?_
            refine x_iload (pc' := 78) rfl rfl rfl ?_
            refine x_iconst (pc' := 79) rfl rfl ?_
            refine x_iadd (pc' := 80) (z := 5) rfl rfl (by decide) ?_
            refine x_iald (pc' := 81) (N := 6) (x := 0) rfl rfl rfl (sN_new (z_C_20 e)) (io_in (p := 5) (N := 6) (by decide) (by decide)) (Eq.trans (congrArg (sA (sNwA t 20 6) 20 7) (nn_io (p := 5) (by decide))) (Eq.trans rdAnwa (z_A_20_7_5 e))) ?_
            refine x_isub (pc' := 82) (z := 0) rfl rfl (by decide) ?_
            refine x_ineg (pc' := 83) (z := 0) rfl rfl (by decide) ?_
            refine x_iload (pc' := 85) rfl rfl rfl ?_
            refine x_imul (pc' := 86) (z := 0) rfl rfl (by decide) ?_
            refine x_max (pc' := 89) (z := 0) rfl rfl rfl (by decide) ?_
            refine x_iadd (pc' := 90) (z := 0) rfl rfl (by decide) ?_
            refine x_istore (pc' := 92) (ls' := [_, _, _, _, _, _, _, _, _]) rfl rfl rfl rfl ?_
            refine x_iinc (pc' := 95) (y := 3) (ls' := [_, _, _, _, _, _, _, _, _]) rfl rfl rfl rfl rfl ?_
            refine x_goto (pc' := 18) rfl rfl ?_
            refine x_iload (pc' := 20) rfl rfl rfl ?_
            refine x_aload_n (pc' := 21) rfl rfl rfl rfl rfl ?_
            refine x_gR (pc' := 24) (r := (some 0)) rfl rfl rfl (Eq.trans rdRnwa (z_R_320_0 e)) ?_
            refine x_alen (pc' := 25) (N := 3) rfl rfl rfl (Eq.trans (b := sN t _ _) rfl (z_N_25_0 e)) (?_ : X _ _ _ (.inl 3 :: _) _ _)
            refine x_icmp (a' := 98) (pc' := 28) (z := true) rfl rfl rfl (by decide) (fun _ => ?_) (fun h => by cases h)
            refine x_iload_n (pc' := 99) rfl rfl rfl ?_
            refine x_iload (pc' := 101) rfl rfl rfl ?_
            refine x_max (pc' := 104) (z := 0) rfl rfl rfl (by decide) ?_
            refine x_istore_n (pc' := 105) (ls' := [_, _, _, _, _, _, _, _, _]) rfl rfl rfl rfl ?_
            refine x_iinc (pc' := 108) (y := 1) (ls' := [_, _, _, _, _, _, _, _, _]) rfl rfl rfl rfl rfl ?_
            refine x_goto (pc' := 5) rfl rfl ?_
            refine x_iload (pc' := 7) rfl rfl rfl ?_
            refine x_bipush (pc' := 9) rfl rfl ?_
            refine x_icmp (a' := 111) (pc' := 12) (z := false) rfl rfl rfl (by decide) (fun h => by cases h) (fun _ => ?_)
            refine x_iconst (pc' := 13) rfl rfl ?_
            refine x_istore (pc' := 15) (ls' := [_, _, _, _, _, _, _, _, _]) rfl rfl rfl rfl ?_
            refine x_iconst (pc' := 16) rfl rfl ?_
            refine x_istore (pc' := 18) (ls' := [_, _, _, _, _, _, _, _, _]) rfl rfl rfl rfl ?_
            refine x_iload (pc' := 20) rfl rfl rfl ?_
            refine x_aload_n (pc' := 21) rfl rfl rfl rfl rfl ?_
            refine x_gR (pc' := 24) (r := (some 0)) rfl rfl rfl (Eq.trans rdRnwa (z_R_320_0 e)) ?_
            refine x_alen (pc' := 25) (N := 3) rfl rfl rfl (Eq.trans (b := sN t _ _) rfl (z_N_25_0 e)) (?_ : X _ _ _ (.inl 3 :: _) _ _)
            refine x_icmp (a' := 98) (pc' := 28) (z := false) rfl rfl rfl (by decide) (fun h => by cases h) (fun _ => ?_)
            refine x_iload (pc' := 30) rfl rfl rfl ?_
            refine x_iconst (pc' := 31) rfl rfl ?_
            refine x_iadd (pc' := 32) (z := 3) rfl rfl (by decide) ?_
            refine x_aload_n (pc' := 33) rfl rfl rfl rfl rfl ?_
            refine x_alen (pc' := 34) (N := 6) rfl rfl rfl (sN_new (z_C_20 e)) (?_ : X _ _ _ (.inl 6 :: _) _ _)
            refine x_icmp (a' := 98) (pc' := 37) (z := false) rfl rfl rfl (by decide) (fun h => by cases h) (fun _ => ?_)
            refine x_aload_n (pc' := 38) rfl rfl rfl rfl rfl ?_
            refine x_aload_n (pc' := 39) rfl rfl rfl rfl rfl ?_
            refine x_gR (pc' := 42) (r := (some 0)) rfl rfl rfl (Eq.trans rdRnwa (z_R_320_0 e)) ?_
            refine x_iload (pc' := 44) rfl rfl rfl ?_
            refine x_aald (pc' := 45) (N := 3) (k' := 2) (r := (some 0)) rfl rfl rfl (Eq.trans (b := sN t _ _) rfl (z_N_25_0 e)) (io_in (p := 0) (N := 3) (by decide) (by decide)) (Eq.trans (congrArg (sE (sNwA t 20 6) 25 0) (nn_io (p := 0) (by decide))) (Eq.trans rdEnwa (z_E_25_0_0 e))) ?_
            refine x_cv (ls0 := [_, _, sJk]) (rest := []) rfl rfl rfl rfl rfl ?_
            refine x_aload_n (pc' := 1) rfl rfl rfl rfl rfl ?_
            refine x_gI (pc' := 4) (x := 0) rfl rfl rfl (Eq.trans rdInwa (z_I_128_0 e)) ?_
            refine x_istore_n (pc' := 5) (ls' := [_, _, _]) rfl rfl rfl rfl ?_
            refine x_iload_n (pc' := 6) rfl rfl rfl ?_
            refine x_if (a' := 27) (pc' := 9) (z := false) rfl rfl rfl (by decide) (fun h => by cases h) (fun _ => ?_)
            refine x_iload_n (pc' := 10) rfl rfl rfl ?_
            refine x_aload_n (pc' := 11) rfl rfl rfl rfl rfl ?_
            refine x_gR (pc' := 14) (r := (some (m + 1))) rfl rfl rfl (kMp (Cn_e e) hm).1 ?_
            refine x_alen (pc' := 15) (N := 3) rfl rfl rfl (kMp (Cn.nwa (Cn_e e)) hm).2.1 (?_ : X _ _ _ (.inl 3 :: _) _ _)
            refine x_icmp (a' := 27) (pc' := 18) (z := false) rfl rfl rfl (by decide) (fun h => by cases h) (fun _ => ?_)
            refine x_aload_n (pc' := 19) rfl rfl rfl rfl rfl ?_
            refine x_gR (pc' := 22) (r := (some (m + 1))) rfl rfl rfl (kMp (Cn_e e) hm).1 ?_
            refine x_iload_n (pc' := 23) rfl rfl rfl ?_
            refine x_iald (pc' := 24) (N := 3) (x := 0) rfl rfl rfl (kMp (Cn.nwa (Cn_e e)) hm).2.1 (io_in (p := 0) (N := 3) (by decide) (by decide)) (Eq.trans (congrArg (sA (sNwA t 20 6) 20 (m + 1)) (nn_io (p := 0) (by decide))) (Eq.trans rdAnwa (z_A_20_yy e _ _))) ?_
            refine x_goto (pc' := 28) rfl rfl ?_
            refine x_reti rfl rfl ?_
            refine sK_i (pc' := 48) rfl ?_
            refine x_istore (pc' := 50) (ls' := [_, _, _, _, _, _, _, _, _]) rfl rfl rfl rfl ?_
            refine x_aload_n (pc' := 51) rfl rfl rfl rfl rfl ?_
            refine x_iload (pc' := 53) rfl rfl rfl ?_
            refine x_iload (pc' := 55) rfl rfl rfl ?_
            refine x_cv (ls0 := [_, _, _, sJk]) (rest := []) rfl rfl rfl rfl rfl ?_
            refine x_iload_n (pc' := 1) rfl rfl rfl ?_
            refine x_iconst (pc' := 2) rfl rfl ?_
            refine x_imul (pc' := 3) (z := 3) rfl rfl (by decide) ?_
            refine x_iload_n (pc' := 4) rfl rfl rfl ?_
            refine x_iadd (pc' := 5) (z := 3) rfl rfl (by decide) ?_
            refine x_istore_n (pc' := 6) (ls' := [_, _, _, _]) rfl rfl rfl rfl ?_
            refine x_iload_n (pc' := 7) rfl rfl rfl ?_
            refine x_if (a' := 28) (pc' := 10) (z := false) rfl rfl rfl (by decide) (fun h => by cases h) (fun _ => ?_)
            refine x_iload_n (pc' := 11) rfl rfl rfl ?_
            refine x_aload_n (pc' := 12) rfl rfl rfl rfl rfl ?_
            refine x_gR (pc' := 15) (r := (some 0)) rfl rfl rfl (Eq.trans rdRnwa (z_R_323_0 e)) ?_
            refine x_alen (pc' := 16) (N := 18) rfl rfl rfl (kN_20_0 (Cn.nwa (Cn_e e))) (?_ : X _ _ _ (.inl 18 :: _) _ _)
            refine x_icmp (a' := 28) (pc' := 19) (z := false) rfl rfl rfl (by decide) (fun h => by cases h) (fun _ => ?_)
            refine x_aload_n (pc' := 20) rfl rfl rfl rfl rfl ?_
            refine x_gR (pc' := 23) (r := (some 0)) rfl rfl rfl (Eq.trans rdRnwa (z_R_323_0 e)) ?_
            refine x_iload_n (pc' := 24) rfl rfl rfl ?_
            refine x_iald (pc' := 25) (N := 18) (x := 0) rfl rfl rfl (kN_20_0 (Cn.nwa (Cn_e e))) (io_in (p := 3) (N := 18) (by decide) (by decide)) (Eq.trans (congrArg (sA (sNwA t 20 6) 20 0) (nn_io (p := 3) (by decide))) (Eq.trans rdAnwa (z_A_20_0_3 e))) ?_
            refine x_goto (pc' := 29) rfl rfl ?_
            refine x_reti rfl rfl ?_
            refine sK_i (pc' := 58) rfl ?_
            refine x_istore (pc' := 60) (ls' := [_, _, _, _, _, _, _, _, _]) rfl rfl rfl rfl ?_
            refine x_iload (pc' := 62) rfl rfl rfl ?_
            refine x_iload (pc' := 64) rfl rfl rfl ?_
            refine x_aload_n (pc' := 65) rfl rfl rfl rfl rfl ?_
            refine x_iload (pc' := 67) rfl rfl rfl ?_
            refine x_iald (pc' := 68) (N := 6) (x := 0) rfl rfl rfl (sN_new (z_C_20 e)) (io_in (p := 0) (N := 6) (by decide) (by decide)) (Eq.trans (congrArg (sA (sNwA t 20 6) 20 7) (nn_io (p := 0) (by decide))) (Eq.trans rdAnwa (z_A_20_7_0 e))) ?_
            refine x_iadd (pc' := 69) (z := 0) rfl rfl (by decide) ?_
            refine x_ineg (pc' := 70) (z := 0) rfl rfl (by decide) ?_
            refine x_iload (pc' := 72) rfl rfl rfl ?_
            refine x_imul (pc' := 73) (z := 0) rfl rfl (by decide) ?_
            refine x_iload (pc' := 75) rfl rfl rfl ?_
            refine x_aload_n (pc' := 76) rfl rfl rfl rfl rfl ?_
            refine x_iload (pc' := 78) rfl rfl rfl ?_
            refine x_iconst (pc' := 79) rfl rfl ?_
            refine x_iadd (pc' := 80) (z := 3) rfl rfl (by decide) ?_
            refine x_iald (pc' := 81) (N := 6) (x := 0) rfl rfl rfl (sN_new (z_C_20 e)) (io_in (p := 3) (N := 6) (by decide) (by decide)) (Eq.trans (congrArg (sA (sNwA t 20 6) 20 7) (nn_io (p := 3) (by decide))) (Eq.trans rdAnwa (z_A_20_7_3 e))) ?_
            refine x_isub (pc' := 82) (z := 0) rfl rfl (by decide) ?_
            refine x_ineg (pc' := 83) (z := 0) rfl rfl (by decide) ?_
            refine x_iload (pc' := 85) rfl rfl rfl ?_
            refine x_imul (pc' := 86) (z := 0) rfl rfl (by decide) ?_
            refine x_max (pc' := 89) (z := 0) rfl rfl rfl (by decide) ?_
            refine x_iadd (pc' := 90) (z := 0) rfl rfl (by decide) ?_
            refine x_istore (pc' := 92) (ls' := [_, _, _, _, _, _, _, _, _]) rfl rfl rfl rfl ?_
            refine x_iinc (pc' := 95) (y := 1) (ls' := [_, _, _, _, _, _, _, _, _]) rfl rfl rfl rfl rfl ?_
            refine x_goto (pc' := 18) rfl rfl ?_
            refine x_iload (pc' := 20) rfl rfl rfl ?_
            refine x_aload_n (pc' := 21) rfl rfl rfl rfl rfl ?_
            refine x_gR (pc' := 24) (r := (some 0)) rfl rfl rfl (Eq.trans rdRnwa (z_R_320_0 e)) ?_
            refine x_alen (pc' := 25) (N := 3) rfl rfl rfl (Eq.trans (b := sN t _ _) rfl (z_N_25_0 e)) (?_ : X _ _ _ (.inl 3 :: _) _ _)
            refine x_icmp (a' := 98) (pc' := 28) (z := false) rfl rfl rfl (by decide) (fun h => by cases h) (fun _ => ?_)
            refine x_iload (pc' := 30) rfl rfl rfl ?_
            refine x_iconst (pc' := 31) rfl rfl ?_
            refine x_iadd (pc' := 32) (z := 4) rfl rfl (by decide) ?_
            refine x_aload_n (pc' := 33) rfl rfl rfl rfl rfl ?_
            refine x_alen (pc' := 34) (N := 6) rfl rfl rfl (sN_new (z_C_20 e)) (?_ : X _ _ _ (.inl 6 :: _) _ _)
            refine x_icmp (a' := 98) (pc' := 37) (z := false) rfl rfl rfl (by decide) (fun h => by cases h) (fun _ => ?_)
            refine x_aload_n (pc' := 38) rfl rfl rfl rfl rfl ?_
            refine x_aload_n (pc' := 39) rfl rfl rfl rfl rfl ?_
            refine x_gR (pc' := 42) (r := (some 0)) rfl rfl rfl (Eq.trans rdRnwa (z_R_320_0 e)) ?_
            refine x_iload (pc' := 44) rfl rfl rfl ?_
            refine x_aald (pc' := 45) (N := 3) (k' := 2) (r := (some 1)) rfl rfl rfl (Eq.trans (b := sN t _ _) rfl (z_N_25_0 e)) (io_in (p := 1) (N := 3) (by decide) (by decide)) (Eq.trans (congrArg (sE (sNwA t 20 6) 25 0) (nn_io (p := 1) (by decide))) (Eq.trans rdEnwa (z_E_25_0_1 e))) ?_
            refine x_cv (ls0 := [_, _, sJk]) (rest := []) rfl rfl rfl rfl rfl ?_
            refine x_aload_n (pc' := 1) rfl rfl rfl rfl rfl ?_
            refine x_gI (pc' := 4) (x := 1) rfl rfl rfl (Eq.trans rdInwa (z_I_128_1 e)) ?_
            refine x_istore_n (pc' := 5) (ls' := [_, _, _]) rfl rfl rfl rfl ?_
            refine x_iload_n (pc' := 6) rfl rfl rfl ?_
            refine x_if (a' := 27) (pc' := 9) (z := false) rfl rfl rfl (by decide) (fun h => by cases h) (fun _ => ?_)
            refine x_iload_n (pc' := 10) rfl rfl rfl ?_
            refine x_aload_n (pc' := 11) rfl rfl rfl rfl rfl ?_
            refine x_gR (pc' := 14) (r := (some (m + 1))) rfl rfl rfl (kMp (Cn_e e) hm).1 ?_
            refine x_alen (pc' := 15) (N := 3) rfl rfl rfl (kMp (Cn.nwa (Cn_e e)) hm).2.1 (?_ : X _ _ _ (.inl 3 :: _) _ _)
            refine x_icmp (a' := 27) (pc' := 18) (z := false) rfl rfl rfl (by decide) (fun h => by cases h) (fun _ => ?_)
            refine x_aload_n (pc' := 19) rfl rfl rfl rfl rfl ?_
            refine x_gR (pc' := 22) (r := (some (m + 1))) rfl rfl rfl (kMp (Cn_e e) hm).1 ?_
            refine x_iload_n (pc' := 23) rfl rfl rfl ?_
            refine x_iald (pc' := 24) (N := 3) (x := 0) rfl rfl rfl (kMp (Cn.nwa (Cn_e e)) hm).2.1 (io_in (p := 1) (N := 3) (by decide) (by decide)) (Eq.trans (congrArg (sA (sNwA t 20 6) 20 (m + 1)) (nn_io (p := 1) (by decide))) (Eq.trans rdAnwa (z_A_20_yy e _ _))) ?_
            refine x_goto (pc' := 28) rfl rfl ?_
            refine x_reti rfl rfl ?_
            refine sK_i (pc' := 48) rfl ?_
            refine x_istore (pc' := 50) (ls' := [_, _, _, _, _, _, _, _, _]) rfl rfl rfl rfl ?_
            refine x_aload_n (pc' := 51) rfl rfl rfl rfl rfl ?_
            refine x_iload (pc' := 53) rfl rfl rfl ?_
            refine x_iload (pc' := 55) rfl rfl rfl ?_
            refine x_cv (ls0 := [_, _, _, sJk]) (rest := []) rfl rfl rfl rfl rfl ?_
            refine x_iload_n (pc' := 1) rfl rfl rfl ?_
            refine x_iconst (pc' := 2) rfl rfl ?_
            refine x_imul (pc' := 3) (z := 3) rfl rfl (by decide) ?_
            refine x_iload_n (pc' := 4) rfl rfl rfl ?_
            refine x_iadd (pc' := 5) (z := 4) rfl rfl (by decide) ?_
            refine x_istore_n (pc' := 6) (ls' := [_, _, _, _]) rfl rfl rfl rfl ?_
            refine x_iload_n (pc' := 7) rfl rfl rfl ?_
            refine x_if (a' := 28) (pc' := 10) (z := false) rfl rfl rfl (by decide) (fun h => by cases h) (fun _ => ?_)
            refine x_iload_n (pc' := 11) rfl rfl rfl ?_
            refine x_aload_n (pc' := 12) rfl rfl rfl rfl rfl ?_
            refine x_gR (pc' := 15) (r := (some 0)) rfl rfl rfl (Eq.trans rdRnwa (z_R_323_0 e)) ?_
            refine x_alen (pc' := 16) (N := 18) rfl rfl rfl (kN_20_0 (Cn.nwa (Cn_e e))) (?_ : X _ _ _ (.inl 18 :: _) _ _)
            refine x_icmp (a' := 28) (pc' := 19) (z := false) rfl rfl rfl (by decide) (fun h => by cases h) (fun _ => ?_)
            refine x_aload_n (pc' := 20) rfl rfl rfl rfl rfl ?_
            refine x_gR (pc' := 23) (r := (some 0)) rfl rfl rfl (Eq.trans rdRnwa (z_R_323_0 e)) ?_
            refine x_iload_n (pc' := 24) rfl rfl rfl ?_
            refine x_iald (pc' := 25) (N := 18) (x := 0) rfl rfl rfl (kN_20_0 (Cn.nwa (Cn_e e))) (io_in (p := 4) (N := 18) (by decide) (by decide)) (Eq.trans (congrArg (sA (sNwA t 20 6) 20 0) (nn_io (p := 4) (by decide))) (Eq.trans rdAnwa (z_A_20_0_4 e))) ?_
            refine x_goto (pc' := 29) rfl rfl ?_
            refine x_reti rfl rfl ?_
            refine sK_i (pc' := 58) rfl ?_
            refine x_istore (pc' := 60) (ls' := [_, _, _, _, _, _, _, _, _]) rfl rfl rfl rfl ?_
            refine x_iload (pc' := 62) rfl rfl rfl ?_
            refine x_iload (pc' := 64) rfl rfl rfl ?_
            refine x_aload_n (pc' := 65) rfl rfl rfl rfl rfl ?_
            refine x_iload (pc' := 67) rfl rfl rfl ?_
            refine x_iald (pc' := 68) (N := 6) (x := 0) rfl rfl rfl (sN_new (z_C_20 e)) (io_in (p := 1) (N := 6) (by decide) (by decide)) (Eq.trans (congrArg (sA (sNwA t 20 6) 20 7) (nn_io (p := 1) (by decide))) (Eq.trans rdAnwa (z_A_20_7_1 e))) ?_
            refine x_iadd (pc' := 69) (z := 0) rfl rfl (by decide) ?_
            refine x_ineg (pc' := 70) (z := 0) rfl rfl (by decide) ?_
            refine x_iload (pc' := 72) rfl rfl rfl ?_
            refine x_imul (pc' := 73) (z := 0) rfl rfl (by decide) ?_
            refine x_iload (pc' := 75) rfl rfl rfl ?_
            refine x_aload_n (pc' := 76) rfl rfl rfl rfl rfl ?_
            refine x_iload (pc' := 78) rfl rfl rfl ?_
            refine x_iconst (pc' := 79) rfl rfl ?_
            refine x_iadd (pc' := 80) (z := 4) rfl rfl (by decide) ?_
            refine x_iald (pc' := 81) (N := 6) (x := 0) rfl rfl rfl (sN_new (z_C_20 e)) (io_in (p := 4) (N := 6) (by decide) (by decide)) (Eq.trans (congrArg (sA (sNwA t 20 6) 20 7) (nn_io (p := 4) (by decide))) (Eq.trans rdAnwa (z_A_20_7_4 e))) ?_
            refine x_isub (pc' := 82) (z := 0) rfl rfl (by decide) ?_
            refine x_ineg (pc' := 83) (z := 0) rfl rfl (by decide) ?_
            refine x_iload (pc' := 85) rfl rfl rfl ?_
            refine x_imul (pc' := 86) (z := 0) rfl rfl (by decide) ?_
            refine x_max (pc' := 89) (z := 0) rfl rfl rfl (by decide) ?_
            refine x_iadd (pc' := 90) (z := 0) rfl rfl (by decide) ?_
            refine x_istore (pc' := 92) (ls' := [_, _, _, _, _, _, _, _, _]) rfl rfl rfl rfl ?_
            refine x_iinc (pc' := 95) (y := 2) (ls' := [_, _, _, _, _, _, _, _, _]) rfl rfl rfl rfl rfl ?_
            refine x_goto (pc' := 18) rfl rfl ?_
            refine x_iload (pc' := 20) rfl rfl rfl ?_
            refine x_aload_n (pc' := 21) rfl rfl rfl rfl rfl ?_
            refine x_gR (pc' := 24) (r := (some 0)) rfl rfl rfl (Eq.trans rdRnwa (z_R_320_0 e)) ?_
            refine x_alen (pc' := 25) (N := 3) rfl rfl rfl (Eq.trans (b := sN t _ _) rfl (z_N_25_0 e)) (?_ : X _ _ _ (.inl 3 :: _) _ _)
            refine x_icmp (a' := 98) (pc' := 28) (z := false) rfl rfl rfl (by decide) (fun h => by cases h) (fun _ => ?_)
            refine x_iload (pc' := 30) rfl rfl rfl ?_
            refine x_iconst (pc' := 31) rfl rfl ?_
            refine x_iadd (pc' := 32) (z := 5) rfl rfl (by decide) ?_
            refine x_aload_n (pc' := 33) rfl rfl rfl rfl rfl ?_
            refine x_alen (pc' := 34) (N := 6) rfl rfl rfl (sN_new (z_C_20 e)) (?_ : X _ _ _ (.inl 6 :: _) _ _)
            refine x_icmp (a' := 98) (pc' := 37) (z := false) rfl rfl rfl (by decide) (fun h => by cases h) (fun _ => ?_)
            refine x_aload_n (pc' := 38) rfl rfl rfl rfl rfl ?_
            refine x_aload_n (pc' := 39) rfl rfl rfl rfl rfl ?_
            refine x_gR (pc' := 42) (r := (some 0)) rfl rfl rfl (Eq.trans rdRnwa (z_R_320_0 e)) ?_
            refine x_iload (pc' := 44) rfl rfl rfl ?_
            refine x_aald (pc' := 45) (N := 3) (k' := 2) (r := (some 2)) rfl rfl rfl (Eq.trans (b := sN t _ _) rfl (z_N_25_0 e)) (io_in (p := 2) (N := 3) (by decide) (by decide)) (Eq.trans (congrArg (sE (sNwA t 20 6) 25 0) (nn_io (p := 2) (by decide))) (Eq.trans rdEnwa (z_E_25_0_2 e))) ?_
            refine x_cv (ls0 := [_, _, sJk]) (rest := []) rfl rfl rfl rfl rfl ?_
            refine x_aload_n (pc' := 1) rfl rfl rfl rfl rfl ?_
            refine x_gI (pc' := 4) (x := 2) rfl rfl rfl (Eq.trans rdInwa (z_I_128_2 e)) ?_
            refine x_istore_n (pc' := 5) (ls' := [_, _, _]) rfl rfl rfl rfl ?_
            refine x_iload_n (pc' := 6) rfl rfl rfl ?_
            refine x_if (a' := 27) (pc' := 9) (z := false) rfl rfl rfl (by decide) (fun h => by cases h) (fun _ => ?_)
            refine x_iload_n (pc' := 10) rfl rfl rfl ?_
            refine x_aload_n (pc' := 11) rfl rfl rfl rfl rfl ?_
            refine x_gR (pc' := 14) (r := (some (m + 1))) rfl rfl rfl (kMp (Cn_e e) hm).1 ?_
            refine x_alen (pc' := 15) (N := 3) rfl rfl rfl (kMp (Cn.nwa (Cn_e e)) hm).2.1 (?_ : X _ _ _ (.inl 3 :: _) _ _)
            refine x_icmp (a' := 27) (pc' := 18) (z := false) rfl rfl rfl (by decide) (fun h => by cases h) (fun _ => ?_)
            refine x_aload_n (pc' := 19) rfl rfl rfl rfl rfl ?_
            refine x_gR (pc' := 22) (r := (some (m + 1))) rfl rfl rfl (kMp (Cn_e e) hm).1 ?_
            refine x_iload_n (pc' := 23) rfl rfl rfl ?_
            refine x_iald (pc' := 24) (N := 3) (x := 0) rfl rfl rfl (kMp (Cn.nwa (Cn_e e)) hm).2.1 (io_in (p := 2) (N := 3) (by decide) (by decide)) (Eq.trans (congrArg (sA (sNwA t 20 6) 20 (m + 1)) (nn_io (p := 2) (by decide))) (Eq.trans rdAnwa (z_A_20_yy e _ _))) ?_
            refine x_goto (pc' := 28) rfl rfl ?_
            refine x_reti rfl rfl ?_
            refine sK_i (pc' := 48) rfl ?_
            refine x_istore (pc' := 50) (ls' := [_, _, _, _, _, _, _, _, _]) rfl rfl rfl rfl ?_
            refine x_aload_n (pc' := 51) rfl rfl rfl rfl rfl ?_
            refine x_iload (pc' := 53) rfl rfl rfl ?_
            refine x_iload (pc' := 55) rfl rfl rfl ?_
            refine x_cv (ls0 := [_, _, _, sJk]) (rest := []) rfl rfl rfl rfl rfl ?_
            refine x_iload_n (pc' := 1) rfl rfl rfl ?_
            refine x_iconst (pc' := 2) rfl rfl ?_
            refine x_imul (pc' := 3) (z := 3) rfl rfl (by decide) ?_
            refine x_iload_n (pc' := 4) rfl rfl rfl ?_
            refine x_iadd (pc' := 5) (z := 5) rfl rfl (by decide) ?_
            refine x_istore_n (pc' := 6) (ls' := [_, _, _, _]) rfl rfl rfl rfl ?_
            refine x_iload_n (pc' := 7) rfl rfl rfl ?_
            refine x_if (a' := 28) (pc' := 10) (z := false) rfl rfl rfl (by decide) (fun h => by cases h) (fun _ => ?_)
            refine x_iload_n (pc' := 11) rfl rfl rfl ?_
            refine x_aload_n (pc' := 12) rfl rfl rfl rfl rfl ?_
            refine x_gR (pc' := 15) (r := (some 0)) rfl rfl rfl (Eq.trans rdRnwa (z_R_323_0 e)) ?_
            refine x_alen (pc' := 16) (N := 18) rfl rfl rfl (kN_20_0 (Cn.nwa (Cn_e e))) (?_ : X _ _ _ (.inl 18 :: _) _ _)
            refine x_icmp (a' := 28) (pc' := 19) (z := false) rfl rfl rfl (by decide) (fun h => by cases h) (fun _ => ?_)
            refine x_aload_n (pc' := 20) rfl rfl rfl rfl rfl ?_
            refine x_gR (pc' := 23) (r := (some 0)) rfl rfl rfl (Eq.trans rdRnwa (z_R_323_0 e)) ?_
            refine x_iload_n (pc' := 24) rfl rfl rfl ?_
            refine x_iald (pc' := 25) (N := 18) (x := 0) rfl rfl rfl (kN_20_0 (Cn.nwa (Cn_e e))) (io_in (p := 5) (N := 18) (by decide) (by decide)) (Eq.trans (congrArg (sA (sNwA t 20 6) 20 0) (nn_io (p := 5) (by decide))) (Eq.trans rdAnwa (z_A_20_0_5 e))) ?_
            refine x_goto (pc' := 29) rfl rfl ?_
            refine x_reti rfl rfl ?_
            refine sK_i (pc' := 58) rfl ?_
            refine x_istore (pc' := 60) (ls' := [_, _, _, _, _, _, _, _, _]) rfl rfl rfl rfl ?_
            refine x_iload (pc' := 62) rfl rfl rfl ?_
            refine x_iload (pc' := 64) rfl rfl rfl ?_
            refine x_aload_n (pc' := 65) rfl rfl rfl rfl rfl ?_
            refine x_iload (pc' := 67) rfl rfl rfl ?_
            refine x_iald (pc' := 68) (N := 6) (x := 0) rfl rfl rfl (sN_new (z_C_20 e)) (io_in (p := 2) (N := 6) (by decide) (by decide)) (Eq.trans (congrArg (sA (sNwA t 20 6) 20 7) (nn_io (p := 2) (by decide))) (Eq.trans rdAnwa (z_A_20_7_2 e))) ?_
            refine x_iadd (pc' := 69) (z := 0) rfl rfl (by decide) ?_
            refine x_ineg (pc' := 70) (z := 0) rfl rfl (by decide) ?_
            refine x_iload (pc' := 72) rfl rfl rfl ?_
            refine x_imul (pc' := 73) (z := 0) rfl rfl (by decide) ?_
            refine x_iload (pc' := 75) rfl rfl rfl ?_
            refine x_aload_n (pc' := 76) rfl rfl rfl rfl rfl ?_
            refine x_iload (pc' := 78) rfl rfl rfl ?_
            refine x_iconst (pc' := 79) rfl rfl ?_
            refine x_iadd (pc' := 80) (z := 5) rfl rfl (by decide) ?_
            refine x_iald (pc' := 81) (N := 6) (x := 0) rfl rfl rfl (sN_new (z_C_20 e)) (io_in (p := 5) (N := 6) (by decide) (by decide)) (Eq.trans (congrArg (sA (sNwA t 20 6) 20 7) (nn_io (p := 5) (by decide))) (Eq.trans rdAnwa (z_A_20_7_5 e))) ?_
            refine x_isub (pc' := 82) (z := 0) rfl rfl (by decide) ?_
            refine x_ineg (pc' := 83) (z := 0) rfl rfl (by decide) ?_
            refine x_iload (pc' := 85) rfl rfl rfl ?_
            refine x_imul (pc' := 86) (z := 0) rfl rfl (by decide) ?_
            refine x_max (pc' := 89) (z := 0) rfl rfl rfl (by decide) ?_
            refine x_iadd (pc' := 90) (z := 0) rfl rfl (by decide) ?_
            refine x_istore (pc' := 92) (ls' := [_, _, _, _, _, _, _, _, _]) rfl rfl rfl rfl ?_
            refine x_iinc (pc' := 95) (y := 3) (ls' := [_, _, _, _, _, _, _, _, _]) rfl rfl rfl rfl rfl ?_
            refine x_goto (pc' := 18) rfl rfl ?_
            refine x_iload (pc' := 20) rfl rfl rfl ?_
            refine x_aload_n (pc' := 21) rfl rfl rfl rfl rfl ?_
            refine x_gR (pc' := 24) (r := (some 0)) rfl rfl rfl (Eq.trans rdRnwa (z_R_320_0 e)) ?_
            refine x_alen (pc' := 25) (N := 3) rfl rfl rfl (Eq.trans (b := sN t _ _) rfl (z_N_25_0 e)) (?_ : X _ _ _ (.inl 3 :: _) _ _)
            refine x_icmp (a' := 98) (pc' := 28) (z := true) rfl rfl rfl (by decide) (fun _ => ?_) (fun h => by cases h)
            refine x_iload_n (pc' := 99) rfl rfl rfl ?_
            refine x_iload (pc' := 101) rfl rfl rfl ?_
            refine x_max (pc' := 104) (z := 0) rfl rfl rfl (by decide) ?_
            refine x_istore_n (pc' := 105) (ls' := [_, _, _, _, _, _, _, _, _]) rfl rfl rfl rfl ?_
            refine x_iinc (pc' := 108) (y := 2) (ls' := [_, _, _, _, _, _, _, _, _]) rfl rfl rfl rfl rfl ?_
            refine x_goto (pc' := 5) rfl rfl ?_
            refine x_iload (pc' := 7) rfl rfl rfl ?_
            refine x_bipush (pc' := 9) rfl rfl ?_
            refine x_icmp (a' := 111) (pc' := 12) (z := false) rfl rfl rfl (by decide) (fun h => by cases h) (fun _ => ?_)
            refine x_iconst (pc' := 13) rfl rfl ?_
            refine x_istore (pc' := 15) (ls' := [_, _, _, _, _, _, _, _, _]) rfl rfl rfl rfl ?_
            refine x_iconst (pc' := 16) rfl rfl ?_
            refine x_istore (pc' := 18) (ls' := [_, _, _, _, _, _, _, _, _]) rfl rfl rfl rfl ?_
            refine x_iload (pc' := 20) rfl rfl rfl ?_
            refine x_aload_n (pc' := 21) rfl rfl rfl rfl rfl ?_
            refine x_gR (pc' := 24) (r := (some 0)) rfl rfl rfl (Eq.trans rdRnwa (z_R_320_0 e)) ?_
            refine x_alen (pc' := 25) (N := 3) rfl rfl rfl (Eq.trans (b := sN t _ _) rfl (z_N_25_0 e)) (?_ : X _ _ _ (.inl 3 :: _) _ _)
            refine x_icmp (a' := 98) (pc' := 28) (z := false) rfl rfl rfl (by decide) (fun h => by cases h) (fun _ => ?_)
            refine x_iload (pc' := 30) rfl rfl rfl ?_
            refine x_iconst (pc' := 31) rfl rfl ?_
            refine x_iadd (pc' := 32) (z := 3) rfl rfl (by decide) ?_
            refine x_aload_n (pc' := 33) rfl rfl rfl rfl rfl ?_
            refine x_alen (pc' := 34) (N := 6) rfl rfl rfl (sN_new (z_C_20 e)) (?_ : X _ _ _ (.inl 6 :: _) _ _)
            refine x_icmp (a' := 98) (pc' := 37) (z := false) rfl rfl rfl (by decide) (fun h => by cases h) (fun _ => ?_)
            refine x_aload_n (pc' := 38) rfl rfl rfl rfl rfl ?_
            refine x_aload_n (pc' := 39) rfl rfl rfl rfl rfl ?_
            refine x_gR (pc' := 42) (r := (some 0)) rfl rfl rfl (Eq.trans rdRnwa (z_R_320_0 e)) ?_
            refine x_iload (pc' := 44) rfl rfl rfl ?_
            refine x_aald (pc' := 45) (N := 3) (k' := 2) (r := (some 0)) rfl rfl rfl (Eq.trans (b := sN t _ _) rfl (z_N_25_0 e)) (io_in (p := 0) (N := 3) (by decide) (by decide)) (Eq.trans (congrArg (sE (sNwA t 20 6) 25 0) (nn_io (p := 0) (by decide))) (Eq.trans rdEnwa (z_E_25_0_0 e))) ?_
            refine x_cv (ls0 := [_, _, sJk]) (rest := []) rfl rfl rfl rfl rfl ?_
            refine x_aload_n (pc' := 1) rfl rfl rfl rfl rfl ?_
            refine x_gI (pc' := 4) (x := 0) rfl rfl rfl (Eq.trans rdInwa (z_I_128_0 e)) ?_
            refine x_istore_n (pc' := 5) (ls' := [_, _, _]) rfl rfl rfl rfl ?_
            refine x_iload_n (pc' := 6) rfl rfl rfl ?_
            refine x_if (a' := 27) (pc' := 9) (z := false) rfl rfl rfl (by decide) (fun h => by cases h) (fun _ => ?_)
            refine x_iload_n (pc' := 10) rfl rfl rfl ?_
            refine x_aload_n (pc' := 11) rfl rfl rfl rfl rfl ?_
            refine x_gR (pc' := 14) (r := (some (m + 1))) rfl rfl rfl (kMp (Cn_e e) hm).1 ?_
            refine x_alen (pc' := 15) (N := 3) rfl rfl rfl (kMp (Cn.nwa (Cn_e e)) hm).2.1 (?_ : X _ _ _ (.inl 3 :: _) _ _)
            refine x_icmp (a' := 27) (pc' := 18) (z := false) rfl rfl rfl (by decide) (fun h => by cases h) (fun _ => ?_)
            refine x_aload_n (pc' := 19) rfl rfl rfl rfl rfl ?_
            refine x_gR (pc' := 22) (r := (some (m + 1))) rfl rfl rfl (kMp (Cn_e e) hm).1 ?_
            refine x_iload_n (pc' := 23) rfl rfl rfl ?_
            refine x_iald (pc' := 24) (N := 3) (x := 0) rfl rfl rfl (kMp (Cn.nwa (Cn_e e)) hm).2.1 (io_in (p := 0) (N := 3) (by decide) (by decide)) (Eq.trans (congrArg (sA (sNwA t 20 6) 20 (m + 1)) (nn_io (p := 0) (by decide))) (Eq.trans rdAnwa (z_A_20_yy e _ _))) ?_
            refine x_goto (pc' := 28) rfl rfl ?_
            refine x_reti rfl rfl ?_
            refine sK_i (pc' := 48) rfl ?_
            refine x_istore (pc' := 50) (ls' := [_, _, _, _, _, _, _, _, _]) rfl rfl rfl rfl ?_
            refine x_aload_n (pc' := 51) rfl rfl rfl rfl rfl ?_
            refine x_iload (pc' := 53) rfl rfl rfl ?_
            refine x_iload (pc' := 55) rfl rfl rfl ?_
            refine x_cv (ls0 := [_, _, _, sJk]) (rest := []) rfl rfl rfl rfl rfl ?_
            refine x_iload_n (pc' := 1) rfl rfl rfl ?_
            refine x_iconst (pc' := 2) rfl rfl ?_
            refine x_imul (pc' := 3) (z := 6) rfl rfl (by decide) ?_
            refine x_iload_n (pc' := 4) rfl rfl rfl ?_
            refine x_iadd (pc' := 5) (z := 6) rfl rfl (by decide) ?_
            refine x_istore_n (pc' := 6) (ls' := [_, _, _, _]) rfl rfl rfl rfl ?_
            refine x_iload_n (pc' := 7) rfl rfl rfl ?_
            refine x_if (a' := 28) (pc' := 10) (z := false) rfl rfl rfl (by decide) (fun h => by cases h) (fun _ => ?_)
            refine x_iload_n (pc' := 11) rfl rfl rfl ?_
            refine x_aload_n (pc' := 12) rfl rfl rfl rfl rfl ?_
            refine x_gR (pc' := 15) (r := (some 0)) rfl rfl rfl (Eq.trans rdRnwa (z_R_323_0 e)) ?_
            refine x_alen (pc' := 16) (N := 18) rfl rfl rfl (kN_20_0 (Cn.nwa (Cn_e e))) (?_ : X _ _ _ (.inl 18 :: _) _ _)
            refine x_icmp (a' := 28) (pc' := 19) (z := false) rfl rfl rfl (by decide) (fun h => by cases h) (fun _ => ?_)
            refine x_aload_n (pc' := 20) rfl rfl rfl rfl rfl ?_
            refine x_gR (pc' := 23) (r := (some 0)) rfl rfl rfl (Eq.trans rdRnwa (z_R_323_0 e)) ?_
            refine x_iload_n (pc' := 24) rfl rfl rfl ?_
            refine x_iald (pc' := 25) (N := 18) (x := 0) rfl rfl rfl (kN_20_0 (Cn.nwa (Cn_e e))) (io_in (p := 6) (N := 18) (by decide) (by decide)) (Eq.trans (congrArg (sA (sNwA t 20 6) 20 0) (nn_io (p := 6) (by decide))) (Eq.trans rdAnwa (z_A_20_0_6 e))) ?_
            refine x_goto (pc' := 29) rfl rfl ?_
            refine x_reti rfl rfl ?_
            refine sK_i (pc' := 58) rfl ?_
            refine x_istore (pc' := 60) (ls' := [_, _, _, _, _, _, _, _, _]) rfl rfl rfl rfl ?_
            refine x_iload (pc' := 62) rfl rfl rfl ?_
            refine x_iload (pc' := 64) rfl rfl rfl ?_
            refine x_aload_n (pc' := 65) rfl rfl rfl rfl rfl ?_
            refine x_iload (pc' := 67) rfl rfl rfl ?_
            refine x_iald (pc' := 68) (N := 6) (x := 0) rfl rfl rfl (sN_new (z_C_20 e)) (io_in (p := 0) (N := 6) (by decide) (by decide)) (Eq.trans (congrArg (sA (sNwA t 20 6) 20 7) (nn_io (p := 0) (by decide))) (Eq.trans rdAnwa (z_A_20_7_0 e))) ?_
            refine x_iadd (pc' := 69) (z := 0) rfl rfl (by decide) ?_
            refine x_ineg (pc' := 70) (z := 0) rfl rfl (by decide) ?_
            refine x_iload (pc' := 72) rfl rfl rfl ?_
            refine x_imul (pc' := 73) (z := 0) rfl rfl (by decide) ?_
            refine x_iload (pc' := 75) rfl rfl rfl ?_
            refine x_aload_n (pc' := 76) rfl rfl rfl rfl rfl ?_
            refine x_iload (pc' := 78) rfl rfl rfl ?_
            refine x_iconst (pc' := 79) rfl rfl ?_
            refine x_iadd (pc' := 80) (z := 3) rfl rfl (by decide) ?_
            refine x_iald (pc' := 81) (N := 6) (x := 0) rfl rfl rfl (sN_new (z_C_20 e)) (io_in (p := 3) (N := 6) (by decide) (by decide)) (Eq.trans (congrArg (sA (sNwA t 20 6) 20 7) (nn_io (p := 3) (by decide))) (Eq.trans rdAnwa (z_A_20_7_3 e))) ?_
            refine x_isub (pc' := 82) (z := 0) rfl rfl (by decide) ?_
            refine x_ineg (pc' := 83) (z := 0) rfl rfl (by decide) ?_
            refine x_iload (pc' := 85) rfl rfl rfl ?_
            refine x_imul (pc' := 86) (z := 0) rfl rfl (by decide) ?_
            refine x_max (pc' := 89) (z := 0) rfl rfl rfl (by decide) ?_
            refine x_iadd (pc' := 90) (z := 0) rfl rfl (by decide) ?_
            refine x_istore (pc' := 92) (ls' := [_, _, _, _, _, _, _, _, _]) rfl rfl rfl rfl ?_
            refine x_iinc (pc' := 95) (y := 1) (ls' := [_, _, _, _, _, _, _, _, _]) rfl rfl rfl rfl rfl ?_
            refine x_goto (pc' := 18) rfl rfl ?_
            refine x_iload (pc' := 20) rfl rfl rfl ?_
            refine x_aload_n (pc' := 21) rfl rfl rfl rfl rfl ?_
            refine x_gR (pc' := 24) (r := (some 0)) rfl rfl rfl (Eq.trans rdRnwa (z_R_320_0 e)) ?_
            refine x_alen (pc' := 25) (N := 3) rfl rfl rfl (Eq.trans (b := sN t _ _) rfl (z_N_25_0 e)) (?_ : X _ _ _ (.inl 3 :: _) _ _)
            refine x_icmp (a' := 98) (pc' := 28) (z := false) rfl rfl rfl (by decide) (fun h => by cases h) (fun _ => ?_)
            refine x_iload (pc' := 30) rfl rfl rfl ?_
            refine x_iconst (pc' := 31) rfl rfl ?_
            refine x_iadd (pc' := 32) (z := 4) rfl rfl (by decide) ?_
            refine x_aload_n (pc' := 33) rfl rfl rfl rfl rfl ?_
            refine x_alen (pc' := 34) (N := 6) rfl rfl rfl (sN_new (z_C_20 e)) (?_ : X _ _ _ (.inl 6 :: _) _ _)
            refine x_icmp (a' := 98) (pc' := 37) (z := false) rfl rfl rfl (by decide) (fun h => by cases h) (fun _ => ?_)
            refine x_aload_n (pc' := 38) rfl rfl rfl rfl rfl ?_
            refine x_aload_n (pc' := 39) rfl rfl rfl rfl rfl ?_
            refine x_gR (pc' := 42) (r := (some 0)) rfl rfl rfl (Eq.trans rdRnwa (z_R_320_0 e)) ?_
            refine x_iload (pc' := 44) rfl rfl rfl ?_
            refine x_aald (pc' := 45) (N := 3) (k' := 2) (r := (some 1)) rfl rfl rfl (Eq.trans (b := sN t _ _) rfl (z_N_25_0 e)) (io_in (p := 1) (N := 3) (by decide) (by decide)) (Eq.trans (congrArg (sE (sNwA t 20 6) 25 0) (nn_io (p := 1) (by decide))) (Eq.trans rdEnwa (z_E_25_0_1 e))) ?_
            refine x_cv (ls0 := [_, _, sJk]) (rest := []) rfl rfl rfl rfl rfl ?_
            refine x_aload_n (pc' := 1) rfl rfl rfl rfl rfl ?_
            refine x_gI (pc' := 4) (x := 1) rfl rfl rfl (Eq.trans rdInwa (z_I_128_1 e)) ?_
            refine x_istore_n (pc' := 5) (ls' := [_, _, _]) rfl rfl rfl rfl ?_
            refine x_iload_n (pc' := 6) rfl rfl rfl ?_
            refine x_if (a' := 27) (pc' := 9) (z := false) rfl rfl rfl (by decide) (fun h => by cases h) (fun _ => ?_)
            refine x_iload_n (pc' := 10) rfl rfl rfl ?_
            refine x_aload_n (pc' := 11) rfl rfl rfl rfl rfl ?_
            refine x_gR (pc' := 14) (r := (some (m + 1))) rfl rfl rfl (kMp (Cn_e e) hm).1 ?_
            refine x_alen (pc' := 15) (N := 3) rfl rfl rfl (kMp (Cn.nwa (Cn_e e)) hm).2.1 (?_ : X _ _ _ (.inl 3 :: _) _ _)
            refine x_icmp (a' := 27) (pc' := 18) (z := false) rfl rfl rfl (by decide) (fun h => by cases h) (fun _ => ?_)
            refine x_aload_n (pc' := 19) rfl rfl rfl rfl rfl ?_
            refine x_gR (pc' := 22) (r := (some (m + 1))) rfl rfl rfl (kMp (Cn_e e) hm).1 ?_
            refine x_iload_n (pc' := 23) rfl rfl rfl ?_
            refine x_iald (pc' := 24) (N := 3) (x := 0) rfl rfl rfl (kMp (Cn.nwa (Cn_e e)) hm).2.1 (io_in (p := 1) (N := 3) (by decide) (by decide)) (Eq.trans (congrArg (sA (sNwA t 20 6) 20 (m + 1)) (nn_io (p := 1) (by decide))) (Eq.trans rdAnwa (z_A_20_yy e _ _))) ?_
            refine x_goto (pc' := 28) rfl rfl ?_
            refine x_reti rfl rfl ?_
            refine sK_i (pc' := 48) rfl ?_
            refine x_istore (pc' := 50) (ls' := [_, _, _, _, _, _, _, _, _]) rfl rfl rfl rfl ?_
            refine x_aload_n (pc' := 51) rfl rfl rfl rfl rfl ?_
            refine x_iload (pc' := 53) rfl rfl rfl ?_
            refine x_iload (pc' := 55) rfl rfl rfl ?_
            refine x_cv (ls0 := [_, _, _, sJk]) (rest := []) rfl rfl rfl rfl rfl ?_
            refine x_iload_n (pc' := 1) rfl rfl rfl ?_
            refine x_iconst (pc' := 2) rfl rfl ?_
            refine x_imul (pc' := 3) (z := 6) rfl rfl (by decide) ?_
            refine x_iload_n (pc' := 4) rfl rfl rfl ?_
            refine x_iadd (pc' := 5) (z := 7) rfl rfl (by decide) ?_
            refine x_istore_n (pc' := 6) (ls' := [_, _, _, _]) rfl rfl rfl rfl ?_
            refine x_iload_n (pc' := 7) rfl rfl rfl ?_
            refine x_if (a' := 28) (pc' := 10) (z := false) rfl rfl rfl (by decide) (fun h => by cases h) (fun _ => ?_)
            refine x_iload_n (pc' := 11) rfl rfl rfl ?_
            refine x_aload_n (pc' := 12) rfl rfl rfl rfl rfl ?_
            refine x_gR (pc' := 15) (r := (some 0)) rfl rfl rfl (Eq.trans rdRnwa (z_R_323_0 e)) ?_
            refine x_alen (pc' := 16) (N := 18) rfl rfl rfl (kN_20_0 (Cn.nwa (Cn_e e))) (?_ : X _ _ _ (.inl 18 :: _) _ _)
            refine x_icmp (a' := 28) (pc' := 19) (z := false) rfl rfl rfl (by decide) (fun h => by cases h) (fun _ => ?_)
            refine x_aload_n (pc' := 20) rfl rfl rfl rfl rfl ?_
            refine x_gR (pc' := 23) (r := (some 0)) rfl rfl rfl (Eq.trans rdRnwa (z_R_323_0 e)) ?_
            refine x_iload_n (pc' := 24) rfl rfl rfl ?_
            refine x_iald (pc' := 25) (N := 18) (x := 0) rfl rfl rfl (kN_20_0 (Cn.nwa (Cn_e e))) (io_in (p := 7) (N := 18) (by decide) (by decide)) (Eq.trans (congrArg (sA (sNwA t 20 6) 20 0) (nn_io (p := 7) (by decide))) (Eq.trans rdAnwa (z_A_20_0_7 e))) ?_
            refine x_goto (pc' := 29) rfl rfl ?_
            refine x_reti rfl rfl ?_
            refine sK_i (pc' := 58) rfl ?_
            refine x_istore (pc' := 60) (ls' := [_, _, _, _, _, _, _, _, _]) rfl rfl rfl rfl ?_
            refine x_iload (pc' := 62) rfl rfl rfl ?_
            refine x_iload (pc' := 64) rfl rfl rfl ?_
            refine x_aload_n (pc' := 65) rfl rfl rfl rfl rfl ?_
            refine x_iload (pc' := 67) rfl rfl rfl ?_
            refine x_iald (pc' := 68) (N := 6) (x := 0) rfl rfl rfl (sN_new (z_C_20 e)) (io_in (p := 1) (N := 6) (by decide) (by decide)) (Eq.trans (congrArg (sA (sNwA t 20 6) 20 7) (nn_io (p := 1) (by decide))) (Eq.trans rdAnwa (z_A_20_7_1 e))) ?_
            refine x_iadd (pc' := 69) (z := 0) rfl rfl (by decide) ?_
            refine x_ineg (pc' := 70) (z := 0) rfl rfl (by decide) ?_
            refine x_iload (pc' := 72) rfl rfl rfl ?_
            refine x_imul (pc' := 73) (z := 0) rfl rfl (by decide) ?_
            refine x_iload (pc' := 75) rfl rfl rfl ?_
            refine x_aload_n (pc' := 76) rfl rfl rfl rfl rfl ?_
            refine x_iload (pc' := 78) rfl rfl rfl ?_
            refine x_iconst (pc' := 79) rfl rfl ?_
            refine x_iadd (pc' := 80) (z := 4) rfl rfl (by decide) ?_
            refine x_iald (pc' := 81) (N := 6) (x := 0) rfl rfl rfl (sN_new (z_C_20 e)) (io_in (p := 4) (N := 6) (by decide) (by decide)) (Eq.trans (congrArg (sA (sNwA t 20 6) 20 7) (nn_io (p := 4) (by decide))) (Eq.trans rdAnwa (z_A_20_7_4 e))) ?_
            refine x_isub (pc' := 82) (z := 0) rfl rfl (by decide) ?_
            refine x_ineg (pc' := 83) (z := 0) rfl rfl (by decide) ?_
            refine x_iload (pc' := 85) rfl rfl rfl ?_
            refine x_imul (pc' := 86) (z := 0) rfl rfl (by decide) ?_
            refine x_max (pc' := 89) (z := 0) rfl rfl rfl (by decide) ?_
            refine x_iadd (pc' := 90) (z := 0) rfl rfl (by decide) ?_
            refine x_istore (pc' := 92) (ls' := [_, _, _, _, _, _, _, _, _]) rfl rfl rfl rfl ?_
            refine x_iinc (pc' := 95) (y := 2) (ls' := [_, _, _, _, _, _, _, _, _]) rfl rfl rfl rfl rfl ?_
            refine x_goto (pc' := 18) rfl rfl ?_
            refine x_iload (pc' := 20) rfl rfl rfl ?_
            refine x_aload_n (pc' := 21) rfl rfl rfl rfl rfl ?_
            refine x_gR (pc' := 24) (r := (some 0)) rfl rfl rfl (Eq.trans rdRnwa (z_R_320_0 e)) ?_
            refine x_alen (pc' := 25) (N := 3) rfl rfl rfl (Eq.trans (b := sN t _ _) rfl (z_N_25_0 e)) (?_ : X _ _ _ (.inl 3 :: _) _ _)
            refine x_icmp (a' := 98) (pc' := 28) (z := false) rfl rfl rfl (by decide) (fun h => by cases h) (fun _ => ?_)
            refine x_iload (pc' := 30) rfl rfl rfl ?_
            refine x_iconst (pc' := 31) rfl rfl ?_
            refine x_iadd (pc' := 32) (z := 5) rfl rfl (by decide) ?_
            refine x_aload_n (pc' := 33) rfl rfl rfl rfl rfl ?_
            refine x_alen (pc' := 34) (N := 6) rfl rfl rfl (sN_new (z_C_20 e)) (?_ : X _ _ _ (.inl 6 :: _) _ _)
            refine x_icmp (a' := 98) (pc' := 37) (z := false) rfl rfl rfl (by decide) (fun h => by cases h) (fun _ => ?_)
            refine x_aload_n (pc' := 38) rfl rfl rfl rfl rfl ?_
            refine x_aload_n (pc' := 39) rfl rfl rfl rfl rfl ?_
            refine x_gR (pc' := 42) (r := (some 0)) rfl rfl rfl (Eq.trans rdRnwa (z_R_320_0 e)) ?_
            refine x_iload (pc' := 44) rfl rfl rfl ?_
            refine x_aald (pc' := 45) (N := 3) (k' := 2) (r := (some 2)) rfl rfl rfl (Eq.trans (b := sN t _ _) rfl (z_N_25_0 e)) (io_in (p := 2) (N := 3) (by decide) (by decide)) (Eq.trans (congrArg (sE (sNwA t 20 6) 25 0) (nn_io (p := 2) (by decide))) (Eq.trans rdEnwa (z_E_25_0_2 e))) ?_
            refine x_cv (ls0 := [_, _, sJk]) (rest := []) rfl rfl rfl rfl rfl ?_
            refine x_aload_n (pc' := 1) rfl rfl rfl rfl rfl ?_
            refine x_gI (pc' := 4) (x := 2) rfl rfl rfl (Eq.trans rdInwa (z_I_128_2 e)) ?_
            refine x_istore_n (pc' := 5) (ls' := [_, _, _]) rfl rfl rfl rfl ?_
            refine x_iload_n (pc' := 6) rfl rfl rfl ?_
            refine x_if (a' := 27) (pc' := 9) (z := false) rfl rfl rfl (by decide) (fun h => by cases h) (fun _ => ?_)
            refine x_iload_n (pc' := 10) rfl rfl rfl ?_
            refine x_aload_n (pc' := 11) rfl rfl rfl rfl rfl ?_
            refine x_gR (pc' := 14) (r := (some (m + 1))) rfl rfl rfl (kMp (Cn_e e) hm).1 ?_
            refine x_alen (pc' := 15) (N := 3) rfl rfl rfl (kMp (Cn.nwa (Cn_e e)) hm).2.1 (?_ : X _ _ _ (.inl 3 :: _) _ _)
            refine x_icmp (a' := 27) (pc' := 18) (z := false) rfl rfl rfl (by decide) (fun h => by cases h) (fun _ => ?_)
            refine x_aload_n (pc' := 19) rfl rfl rfl rfl rfl ?_
            refine x_gR (pc' := 22) (r := (some (m + 1))) rfl rfl rfl (kMp (Cn_e e) hm).1 ?_
            refine x_iload_n (pc' := 23) rfl rfl rfl ?_
            refine x_iald (pc' := 24) (N := 3) (x := 0) rfl rfl rfl (kMp (Cn.nwa (Cn_e e)) hm).2.1 (io_in (p := 2) (N := 3) (by decide) (by decide)) (Eq.trans (congrArg (sA (sNwA t 20 6) 20 (m + 1)) (nn_io (p := 2) (by decide))) (Eq.trans rdAnwa (z_A_20_yy e _ _))) ?_
            refine x_goto (pc' := 28) rfl rfl ?_
            refine x_reti rfl rfl ?_
            refine sK_i (pc' := 48) rfl ?_
            refine x_istore (pc' := 50) (ls' := [_, _, _, _, _, _, _, _, _]) rfl rfl rfl rfl ?_
            refine x_aload_n (pc' := 51) rfl rfl rfl rfl rfl ?_
            refine x_iload (pc' := 53) rfl rfl rfl ?_
            refine x_iload (pc' := 55) rfl rfl rfl ?_
            refine x_cv (ls0 := [_, _, _, sJk]) (rest := []) rfl rfl rfl rfl rfl ?_
            refine x_iload_n (pc' := 1) rfl rfl rfl ?_
            refine x_iconst (pc' := 2) rfl rfl ?_
            refine x_imul (pc' := 3) (z := 6) rfl rfl (by decide) ?_
            refine x_iload_n (pc' := 4) rfl rfl rfl ?_
            refine x_iadd (pc' := 5) (z := 8) rfl rfl (by decide) ?_
            refine x_istore_n (pc' := 6) (ls' := [_, _, _, _]) rfl rfl rfl rfl ?_
            refine x_iload_n (pc' := 7) rfl rfl rfl ?_
            refine x_if (a' := 28) (pc' := 10) (z := false) rfl rfl rfl (by decide) (fun h => by cases h) (fun _ => ?_)
            refine x_iload_n (pc' := 11) rfl rfl rfl ?_
            refine x_aload_n (pc' := 12) rfl rfl rfl rfl rfl ?_
            refine x_gR (pc' := 15) (r := (some 0)) rfl rfl rfl (Eq.trans rdRnwa (z_R_323_0 e)) ?_
            refine x_alen (pc' := 16) (N := 18) rfl rfl rfl (kN_20_0 (Cn.nwa (Cn_e e))) (?_ : X _ _ _ (.inl 18 :: _) _ _)
            refine x_icmp (a' := 28) (pc' := 19) (z := false) rfl rfl rfl (by decide) (fun h => by cases h) (fun _ => ?_)
            refine x_aload_n (pc' := 20) rfl rfl rfl rfl rfl ?_
            refine x_gR (pc' := 23) (r := (some 0)) rfl rfl rfl (Eq.trans rdRnwa (z_R_323_0 e)) ?_
            refine x_iload_n (pc' := 24) rfl rfl rfl ?_
            refine x_iald (pc' := 25) (N := 18) (x := 0) rfl rfl rfl (kN_20_0 (Cn.nwa (Cn_e e))) (io_in (p := 8) (N := 18) (by decide) (by decide)) (Eq.trans (congrArg (sA (sNwA t 20 6) 20 0) (nn_io (p := 8) (by decide))) (Eq.trans rdAnwa (z_A_20_0_8 e))) ?_
            refine x_goto (pc' := 29) rfl rfl ?_
            refine x_reti rfl rfl ?_
            refine sK_i (pc' := 58) rfl ?_
            refine x_istore (pc' := 60) (ls' := [_, _, _, _, _, _, _, _, _]) rfl rfl rfl rfl ?_
            refine x_iload (pc' := 62) rfl rfl rfl ?_
            refine x_iload (pc' := 64) rfl rfl rfl ?_
            refine x_aload_n (pc' := 65) rfl rfl rfl rfl rfl ?_
            refine x_iload (pc' := 67) rfl rfl rfl ?_
            refine x_iald (pc' := 68) (N := 6) (x := 0) rfl rfl rfl (sN_new (z_C_20 e)) (io_in (p := 2) (N := 6) (by decide) (by decide)) (Eq.trans (congrArg (sA (sNwA t 20 6) 20 7) (nn_io (p := 2) (by decide))) (Eq.trans rdAnwa (z_A_20_7_2 e))) ?_
            refine x_iadd (pc' := 69) (z := 0) rfl rfl (by decide) ?_
            refine x_ineg (pc' := 70) (z := 0) rfl rfl (by decide) ?_
            refine x_iload (pc' := 72) rfl rfl rfl ?_
            refine x_imul (pc' := 73) (z := 0) rfl rfl (by decide) ?_
            refine x_iload (pc' := 75) rfl rfl rfl ?_
            refine x_aload_n (pc' := 76) rfl rfl rfl rfl rfl ?_
            refine x_iload (pc' := 78) rfl rfl rfl ?_
            refine x_iconst (pc' := 79) rfl rfl ?_
            refine x_iadd (pc' := 80) (z := 5) rfl rfl (by decide) ?_
            refine x_iald (pc' := 81) (N := 6) (x := 0) rfl rfl rfl (sN_new (z_C_20 e)) (io_in (p := 5) (N := 6) (by decide) (by decide)) (Eq.trans (congrArg (sA (sNwA t 20 6) 20 7) (nn_io (p := 5) (by decide))) (Eq.trans rdAnwa (z_A_20_7_5 e))) ?_
            refine x_isub (pc' := 82) (z := 0) rfl rfl (by decide) ?_
            refine x_ineg (pc' := 83) (z := 0) rfl rfl (by decide) ?_
            refine x_iload (pc' := 85) rfl rfl rfl ?_
            refine x_imul (pc' := 86) (z := 0) rfl rfl (by decide) ?_
            refine x_max (pc' := 89) (z := 0) rfl rfl rfl (by decide) ?_
            refine x_iadd (pc' := 90) (z := 0) rfl rfl (by decide) ?_
            refine x_istore (pc' := 92) (ls' := [_, _, _, _, _, _, _, _, _]) rfl rfl rfl rfl ?_
            refine x_iinc (pc' := 95) (y := 3) (ls' := [_, _, _, _, _, _, _, _, _]) rfl rfl rfl rfl rfl ?_
            refine x_goto (pc' := 18) rfl rfl ?_
            refine x_iload (pc' := 20) rfl rfl rfl ?_
            refine x_aload_n (pc' := 21) rfl rfl rfl rfl rfl ?_
            refine x_gR (pc' := 24) (r := (some 0)) rfl rfl rfl (Eq.trans rdRnwa (z_R_320_0 e)) ?_
            refine x_alen (pc' := 25) (N := 3) rfl rfl rfl (Eq.trans (b := sN t _ _) rfl (z_N_25_0 e)) (?_ : X _ _ _ (.inl 3 :: _) _ _)
            refine x_icmp (a' := 98) (pc' := 28) (z := true) rfl rfl rfl (by decide) (fun _ => ?_) (fun h => by cases h)
            refine x_iload_n (pc' := 99) rfl rfl rfl ?_
            refine x_iload (pc' := 101) rfl rfl rfl ?_
            refine x_max (pc' := 104) (z := 0) rfl rfl rfl (by decide) ?_
            refine x_istore_n (pc' := 105) (ls' := [_, _, _, _, _, _, _, _, _]) rfl rfl rfl rfl ?_
            refine x_iinc (pc' := 108) (y := 3) (ls' := [_, _, _, _, _, _, _, _, _]) rfl rfl rfl rfl rfl ?_
            refine x_goto (pc' := 5) rfl rfl ?_
            refine x_iload (pc' := 7) rfl rfl rfl ?_
            refine x_bipush (pc' := 9) rfl rfl ?_
            refine x_icmp (a' := 111) (pc' := 12) (z := false) rfl rfl rfl (by decide) (fun h => by cases h) (fun _ => ?_)
            refine x_iconst (pc' := 13) rfl rfl ?_
            refine x_istore (pc' := 15) (ls' := [_, _, _, _, _, _, _, _, _]) rfl rfl rfl rfl ?_
            refine x_iconst (pc' := 16) rfl rfl ?_
            refine x_istore (pc' := 18) (ls' := [_, _, _, _, _, _, _, _, _]) rfl rfl rfl rfl ?_
            refine x_iload (pc' := 20) rfl rfl rfl ?_
            refine x_aload_n (pc' := 21) rfl rfl rfl rfl rfl ?_
            refine x_gR (pc' := 24) (r := (some 0)) rfl rfl rfl (Eq.trans rdRnwa (z_R_320_0 e)) ?_
            refine x_alen (pc' := 25) (N := 3) rfl rfl rfl (Eq.trans (b := sN t _ _) rfl (z_N_25_0 e)) (?_ : X _ _ _ (.inl 3 :: _) _ _)
            refine x_icmp (a' := 98) (pc' := 28) (z := false) rfl rfl rfl (by decide) (fun h => by cases h) (fun _ => ?_)
            refine x_iload (pc' := 30) rfl rfl rfl ?_
            refine x_iconst (pc' := 31) rfl rfl ?_
            refine x_iadd (pc' := 32) (z := 3) rfl rfl (by decide) ?_
            refine x_aload_n (pc' := 33) rfl rfl rfl rfl rfl ?_
            refine x_alen (pc' := 34) (N := 6) rfl rfl rfl (sN_new (z_C_20 e)) (?_ : X _ _ _ (.inl 6 :: _) _ _)
            refine x_icmp (a' := 98) (pc' := 37) (z := false) rfl rfl rfl (by decide) (fun h => by cases h) (fun _ => ?_)
            refine x_aload_n (pc' := 38) rfl rfl rfl rfl rfl ?_
            refine x_aload_n (pc' := 39) rfl rfl rfl rfl rfl ?_
            refine x_gR (pc' := 42) (r := (some 0)) rfl rfl rfl (Eq.trans rdRnwa (z_R_320_0 e)) ?_
            refine x_iload (pc' := 44) rfl rfl rfl ?_
            refine x_aald (pc' := 45) (N := 3) (k' := 2) (r := (some 0)) rfl rfl rfl (Eq.trans (b := sN t _ _) rfl (z_N_25_0 e)) (io_in (p := 0) (N := 3) (by decide) (by decide)) (Eq.trans (congrArg (sE (sNwA t 20 6) 25 0) (nn_io (p := 0) (by decide))) (Eq.trans rdEnwa (z_E_25_0_0 e))) ?_
            refine x_cv (ls0 := [_, _, sJk]) (rest := []) rfl rfl rfl rfl rfl ?_
            refine x_aload_n (pc' := 1) rfl rfl rfl rfl rfl ?_
            refine x_gI (pc' := 4) (x := 0) rfl rfl rfl (Eq.trans rdInwa (z_I_128_0 e)) ?_
            refine x_istore_n (pc' := 5) (ls' := [_, _, _]) rfl rfl rfl rfl ?_
            refine x_iload_n (pc' := 6) rfl rfl rfl ?_
            refine x_if (a' := 27) (pc' := 9) (z := false) rfl rfl rfl (by decide) (fun h => by cases h) (fun _ => ?_)
            refine x_iload_n (pc' := 10) rfl rfl rfl ?_
            refine x_aload_n (pc' := 11) rfl rfl rfl rfl rfl ?_
            refine x_gR (pc' := 14) (r := (some (m + 1))) rfl rfl rfl (kMp (Cn_e e) hm).1 ?_
            refine x_alen (pc' := 15) (N := 3) rfl rfl rfl (kMp (Cn.nwa (Cn_e e)) hm).2.1 (?_ : X _ _ _ (.inl 3 :: _) _ _)
            refine x_icmp (a' := 27) (pc' := 18) (z := false) rfl rfl rfl (by decide) (fun h => by cases h) (fun _ => ?_)
            refine x_aload_n (pc' := 19) rfl rfl rfl rfl rfl ?_
            refine x_gR (pc' := 22) (r := (some (m + 1))) rfl rfl rfl (kMp (Cn_e e) hm).1 ?_
            refine x_iload_n (pc' := 23) rfl rfl rfl ?_
            refine x_iald (pc' := 24) (N := 3) (x := 0) rfl rfl rfl (kMp (Cn.nwa (Cn_e e)) hm).2.1 (io_in (p := 0) (N := 3) (by decide) (by decide)) (Eq.trans (congrArg (sA (sNwA t 20 6) 20 (m + 1)) (nn_io (p := 0) (by decide))) (Eq.trans rdAnwa (z_A_20_yy e _ _))) ?_
            refine x_goto (pc' := 28) rfl rfl ?_
            refine x_reti rfl rfl ?_
            refine sK_i (pc' := 48) rfl ?_
            refine x_istore (pc' := 50) (ls' := [_, _, _, _, _, _, _, _, _]) rfl rfl rfl rfl ?_
            refine x_aload_n (pc' := 51) rfl rfl rfl rfl rfl ?_
            refine x_iload (pc' := 53) rfl rfl rfl ?_
            refine x_iload (pc' := 55) rfl rfl rfl ?_
            refine x_cv (ls0 := [_, _, _, sJk]) (rest := []) rfl rfl rfl rfl rfl ?_
            refine x_iload_n (pc' := 1) rfl rfl rfl ?_
            refine x_iconst (pc' := 2) rfl rfl ?_
            refine x_imul (pc' := 3) (z := 9) rfl rfl (by decide) ?_
            refine x_iload_n (pc' := 4) rfl rfl rfl ?_
            refine x_iadd (pc' := 5) (z := 9) rfl rfl (by decide) ?_
            refine x_istore_n (pc' := 6) (ls' := [_, _, _, _]) rfl rfl rfl rfl ?_
            refine x_iload_n (pc' := 7) rfl rfl rfl ?_
            refine x_if (a' := 28) (pc' := 10) (z := false) rfl rfl rfl (by decide) (fun h => by cases h) (fun _ => ?_)
            refine x_iload_n (pc' := 11) rfl rfl rfl ?_
            refine x_aload_n (pc' := 12) rfl rfl rfl rfl rfl ?_
            refine x_gR (pc' := 15) (r := (some 0)) rfl rfl rfl (Eq.trans rdRnwa (z_R_323_0 e)) ?_
            refine x_alen (pc' := 16) (N := 18) rfl rfl rfl (kN_20_0 (Cn.nwa (Cn_e e))) (?_ : X _ _ _ (.inl 18 :: _) _ _)
            refine x_icmp (a' := 28) (pc' := 19) (z := false) rfl rfl rfl (by decide) (fun h => by cases h) (fun _ => ?_)
            refine x_aload_n (pc' := 20) rfl rfl rfl rfl rfl ?_
            refine x_gR (pc' := 23) (r := (some 0)) rfl rfl rfl (Eq.trans rdRnwa (z_R_323_0 e)) ?_
            refine x_iload_n (pc' := 24) rfl rfl rfl ?_
            refine x_iald (pc' := 25) (N := 18) (x := 0) rfl rfl rfl (kN_20_0 (Cn.nwa (Cn_e e))) (io_in (p := 9) (N := 18) (by decide) (by decide)) (Eq.trans (congrArg (sA (sNwA t 20 6) 20 0) (nn_io (p := 9) (by decide))) (Eq.trans rdAnwa (z_A_20_0_9 e))) ?_
            refine x_goto (pc' := 29) rfl rfl ?_
            refine x_reti rfl rfl ?_
            refine sK_i (pc' := 58) rfl ?_
            refine x_istore (pc' := 60) (ls' := [_, _, _, _, _, _, _, _, _]) rfl rfl rfl rfl ?_
            refine x_iload (pc' := 62) rfl rfl rfl ?_
            refine x_iload (pc' := 64) rfl rfl rfl ?_
            refine x_aload_n (pc' := 65) rfl rfl rfl rfl rfl ?_
            refine x_iload (pc' := 67) rfl rfl rfl ?_
            refine x_iald (pc' := 68) (N := 6) (x := 0) rfl rfl rfl (sN_new (z_C_20 e)) (io_in (p := 0) (N := 6) (by decide) (by decide)) (Eq.trans (congrArg (sA (sNwA t 20 6) 20 7) (nn_io (p := 0) (by decide))) (Eq.trans rdAnwa (z_A_20_7_0 e))) ?_
            refine x_iadd (pc' := 69) (z := 0) rfl rfl (by decide) ?_
            refine x_ineg (pc' := 70) (z := 0) rfl rfl (by decide) ?_
            refine x_iload (pc' := 72) rfl rfl rfl ?_
            refine x_imul (pc' := 73) (z := 0) rfl rfl (by decide) ?_
            refine x_iload (pc' := 75) rfl rfl rfl ?_
            refine x_aload_n (pc' := 76) rfl rfl rfl rfl rfl ?_
            refine x_iload (pc' := 78) rfl rfl rfl ?_
            refine x_iconst (pc' := 79) rfl rfl ?_
            refine x_iadd (pc' := 80) (z := 3) rfl rfl (by decide) ?_
            refine x_iald (pc' := 81) (N := 6) (x := 0) rfl rfl rfl (sN_new (z_C_20 e)) (io_in (p := 3) (N := 6) (by decide) (by decide)) (Eq.trans (congrArg (sA (sNwA t 20 6) 20 7) (nn_io (p := 3) (by decide))) (Eq.trans rdAnwa (z_A_20_7_3 e))) ?_
            refine x_isub (pc' := 82) (z := 0) rfl rfl (by decide) ?_
            refine x_ineg (pc' := 83) (z := 0) rfl rfl (by decide) ?_
            refine x_iload (pc' := 85) rfl rfl rfl ?_
            refine x_imul (pc' := 86) (z := 0) rfl rfl (by decide) ?_
            refine x_max (pc' := 89) (z := 0) rfl rfl rfl (by decide) ?_
            refine x_iadd (pc' := 90) (z := 0) rfl rfl (by decide) ?_
            refine x_istore (pc' := 92) (ls' := [_, _, _, _, _, _, _, _, _]) rfl rfl rfl rfl ?_
            refine x_iinc (pc' := 95) (y := 1) (ls' := [_, _, _, _, _, _, _, _, _]) rfl rfl rfl rfl rfl ?_
            refine x_goto (pc' := 18) rfl rfl ?_
            refine x_iload (pc' := 20) rfl rfl rfl ?_
            refine x_aload_n (pc' := 21) rfl rfl rfl rfl rfl ?_
            refine x_gR (pc' := 24) (r := (some 0)) rfl rfl rfl (Eq.trans rdRnwa (z_R_320_0 e)) ?_
            refine x_alen (pc' := 25) (N := 3) rfl rfl rfl (Eq.trans (b := sN t _ _) rfl (z_N_25_0 e)) (?_ : X _ _ _ (.inl 3 :: _) _ _)
            refine x_icmp (a' := 98) (pc' := 28) (z := false) rfl rfl rfl (by decide) (fun h => by cases h) (fun _ => ?_)
            refine x_iload (pc' := 30) rfl rfl rfl ?_
            refine x_iconst (pc' := 31) rfl rfl ?_
            refine x_iadd (pc' := 32) (z := 4) rfl rfl (by decide) ?_
            refine x_aload_n (pc' := 33) rfl rfl rfl rfl rfl ?_
            refine x_alen (pc' := 34) (N := 6) rfl rfl rfl (sN_new (z_C_20 e)) (?_ : X _ _ _ (.inl 6 :: _) _ _)
            refine x_icmp (a' := 98) (pc' := 37) (z := false) rfl rfl rfl (by decide) (fun h => by cases h) (fun _ => ?_)
            refine x_aload_n (pc' := 38) rfl rfl rfl rfl rfl ?_
            refine x_aload_n (pc' := 39) rfl rfl rfl rfl rfl ?_
            refine x_gR (pc' := 42) (r := (some 0)) rfl rfl rfl (Eq.trans rdRnwa (z_R_320_0 e)) ?_
            refine x_iload (pc' := 44) rfl rfl rfl ?_
            refine x_aald (pc' := 45) (N := 3) (k' := 2) (r := (some 1)) rfl rfl rfl (Eq.trans (b := sN t _ _) rfl (z_N_25_0 e)) (io_in (p := 1) (N := 3) (by decide) (by decide)) (Eq.trans (congrArg (sE (sNwA t 20 6) 25 0) (nn_io (p := 1) (by decide))) (Eq.trans rdEnwa (z_E_25_0_1 e))) ?_
            refine x_cv (ls0 := [_, _, sJk]) (rest := []) rfl rfl rfl rfl rfl ?_
            refine x_aload_n (pc' := 1) rfl rfl rfl rfl rfl ?_
            refine x_gI (pc' := 4) (x := 1) rfl rfl rfl (Eq.trans rdInwa (z_I_128_1 e)) ?_
            refine x_istore_n (pc' := 5) (ls' := [_, _, _]) rfl rfl rfl rfl ?_
            refine x_iload_n (pc' := 6) rfl rfl rfl ?_
            refine x_if (a' := 27) (pc' := 9) (z := false) rfl rfl rfl (by decide) (fun h => by cases h) (fun _ => ?_)
            refine x_iload_n (pc' := 10) rfl rfl rfl ?_
            refine x_aload_n (pc' := 11) rfl rfl rfl rfl rfl ?_
            refine x_gR (pc' := 14) (r := (some (m + 1))) rfl rfl rfl (kMp (Cn_e e) hm).1 ?_
            refine x_alen (pc' := 15) (N := 3) rfl rfl rfl (kMp (Cn.nwa (Cn_e e)) hm).2.1 (?_ : X _ _ _ (.inl 3 :: _) _ _)
            refine x_icmp (a' := 27) (pc' := 18) (z := false) rfl rfl rfl (by decide) (fun h => by cases h) (fun _ => ?_)
            refine x_aload_n (pc' := 19) rfl rfl rfl rfl rfl ?_
            refine x_gR (pc' := 22) (r := (some (m + 1))) rfl rfl rfl (kMp (Cn_e e) hm).1 ?_
            refine x_iload_n (pc' := 23) rfl rfl rfl ?_
            refine x_iald (pc' := 24) (N := 3) (x := 0) rfl rfl rfl (kMp (Cn.nwa (Cn_e e)) hm).2.1 (io_in (p := 1) (N := 3) (by decide) (by decide)) (Eq.trans (congrArg (sA (sNwA t 20 6) 20 (m + 1)) (nn_io (p := 1) (by decide))) (Eq.trans rdAnwa (z_A_20_yy e _ _))) ?_
            refine x_goto (pc' := 28) rfl rfl ?_
            refine x_reti rfl rfl ?_
            refine sK_i (pc' := 48) rfl ?_
            refine x_istore (pc' := 50) (ls' := [_, _, _, _, _, _, _, _, _]) rfl rfl rfl rfl ?_
            refine x_aload_n (pc' := 51) rfl rfl rfl rfl rfl ?_
            refine x_iload (pc' := 53) rfl rfl rfl ?_
            refine x_iload (pc' := 55) rfl rfl rfl ?_
            refine x_cv (ls0 := [_, _, _, sJk]) (rest := []) rfl rfl rfl rfl rfl ?_
            refine x_iload_n (pc' := 1) rfl rfl rfl ?_
            refine x_iconst (pc' := 2) rfl rfl ?_
            refine x_imul (pc' := 3) (z := 9) rfl rfl (by decide) ?_
            refine x_iload_n (pc' := 4) rfl rfl rfl ?_
            refine x_iadd (pc' := 5) (z := 10) rfl rfl (by decide) ?_
            refine x_istore_n (pc' := 6) (ls' := [_, _, _, _]) rfl rfl rfl rfl ?_
            refine x_iload_n (pc' := 7) rfl rfl rfl ?_
            refine x_if (a' := 28) (pc' := 10) (z := false) rfl rfl rfl (by decide) (fun h => by cases h) (fun _ => ?_)
            refine x_iload_n (pc' := 11) rfl rfl rfl ?_
            refine x_aload_n (pc' := 12) rfl rfl rfl rfl rfl ?_
            refine x_gR (pc' := 15) (r := (some 0)) rfl rfl rfl (Eq.trans rdRnwa (z_R_323_0 e)) ?_
            refine x_alen (pc' := 16) (N := 18) rfl rfl rfl (kN_20_0 (Cn.nwa (Cn_e e))) (?_ : X _ _ _ (.inl 18 :: _) _ _)
            refine x_icmp (a' := 28) (pc' := 19) (z := false) rfl rfl rfl (by decide) (fun h => by cases h) (fun _ => ?_)
            refine x_aload_n (pc' := 20) rfl rfl rfl rfl rfl ?_
            refine x_gR (pc' := 23) (r := (some 0)) rfl rfl rfl (Eq.trans rdRnwa (z_R_323_0 e)) ?_
            refine x_iload_n (pc' := 24) rfl rfl rfl ?_
            refine x_iald (pc' := 25) (N := 18) (x := 0) rfl rfl rfl (kN_20_0 (Cn.nwa (Cn_e e))) (io_in (p := 10) (N := 18) (by decide) (by decide)) (Eq.trans (congrArg (sA (sNwA t 20 6) 20 0) (nn_io (p := 10) (by decide))) (Eq.trans rdAnwa (z_A_20_0_10 e))) ?_
            refine x_goto (pc' := 29) rfl rfl ?_
            refine x_reti rfl rfl ?_
            refine sK_i (pc' := 58) rfl ?_
            refine x_istore (pc' := 60) (ls' := [_, _, _, _, _, _, _, _, _]) rfl rfl rfl rfl ?_
            refine x_iload (pc' := 62) rfl rfl rfl ?_
            refine x_iload (pc' := 64) rfl rfl rfl ?_
            refine x_aload_n (pc' := 65) rfl rfl rfl rfl rfl ?_
            refine x_iload (pc' := 67) rfl rfl rfl ?_
            refine x_iald (pc' := 68) (N := 6) (x := 0) rfl rfl rfl (sN_new (z_C_20 e)) (io_in (p := 1) (N := 6) (by decide) (by decide)) (Eq.trans (congrArg (sA (sNwA t 20 6) 20 7) (nn_io (p := 1) (by decide))) (Eq.trans rdAnwa (z_A_20_7_1 e))) ?_
            refine x_iadd (pc' := 69) (z := 0) rfl rfl (by decide) ?_
            refine x_ineg (pc' := 70) (z := 0) rfl rfl (by decide) ?_
            refine x_iload (pc' := 72) rfl rfl rfl ?_
            refine x_imul (pc' := 73) (z := 0) rfl rfl (by decide) ?_
            refine x_iload (pc' := 75) rfl rfl rfl ?_
            refine x_aload_n (pc' := 76) rfl rfl rfl rfl rfl ?_
            refine x_iload (pc' := 78) rfl rfl rfl ?_
            refine x_iconst (pc' := 79) rfl rfl ?_
            refine x_iadd (pc' := 80) (z := 4) rfl rfl (by decide) ?_
            refine x_iald (pc' := 81) (N := 6) (x := 0) rfl rfl rfl (sN_new (z_C_20 e)) (io_in (p := 4) (N := 6) (by decide) (by decide)) (Eq.trans (congrArg (sA (sNwA t 20 6) 20 7) (nn_io (p := 4) (by decide))) (Eq.trans rdAnwa (z_A_20_7_4 e))) ?_
            refine x_isub (pc' := 82) (z := 0) rfl rfl (by decide) ?_
            refine x_ineg (pc' := 83) (z := 0) rfl rfl (by decide) ?_
            refine x_iload (pc' := 85) rfl rfl rfl ?_
            refine x_imul (pc' := 86) (z := 0) rfl rfl (by decide) ?_
            refine x_max (pc' := 89) (z := 0) rfl rfl rfl (by decide) ?_
            refine x_iadd (pc' := 90) (z := 0) rfl rfl (by decide) ?_
            refine x_istore (pc' := 92) (ls' := [_, _, _, _, _, _, _, _, _]) rfl rfl rfl rfl ?_
            refine x_iinc (pc' := 95) (y := 2) (ls' := [_, _, _, _, _, _, _, _, _]) rfl rfl rfl rfl rfl ?_
            refine x_goto (pc' := 18) rfl rfl ?_
            refine x_iload (pc' := 20) rfl rfl rfl ?_
            refine x_aload_n (pc' := 21) rfl rfl rfl rfl rfl ?_
            refine x_gR (pc' := 24) (r := (some 0)) rfl rfl rfl (Eq.trans rdRnwa (z_R_320_0 e)) ?_
            refine x_alen (pc' := 25) (N := 3) rfl rfl rfl (Eq.trans (b := sN t _ _) rfl (z_N_25_0 e)) (?_ : X _ _ _ (.inl 3 :: _) _ _)
            refine x_icmp (a' := 98) (pc' := 28) (z := false) rfl rfl rfl (by decide) (fun h => by cases h) (fun _ => ?_)
            refine x_iload (pc' := 30) rfl rfl rfl ?_
            refine x_iconst (pc' := 31) rfl rfl ?_
            refine x_iadd (pc' := 32) (z := 5) rfl rfl (by decide) ?_
            refine x_aload_n (pc' := 33) rfl rfl rfl rfl rfl ?_
            refine x_alen (pc' := 34) (N := 6) rfl rfl rfl (sN_new (z_C_20 e)) (?_ : X _ _ _ (.inl 6 :: _) _ _)
            refine x_icmp (a' := 98) (pc' := 37) (z := false) rfl rfl rfl (by decide) (fun h => by cases h) (fun _ => ?_)
            refine x_aload_n (pc' := 38) rfl rfl rfl rfl rfl ?_
            refine x_aload_n (pc' := 39) rfl rfl rfl rfl rfl ?_
            refine x_gR (pc' := 42) (r := (some 0)) rfl rfl rfl (Eq.trans rdRnwa (z_R_320_0 e)) ?_
            refine x_iload (pc' := 44) rfl rfl rfl ?_
            refine x_aald (pc' := 45) (N := 3) (k' := 2) (r := (some 2)) rfl rfl rfl (Eq.trans (b := sN t _ _) rfl (z_N_25_0 e)) (io_in (p := 2) (N := 3) (by decide) (by decide)) (Eq.trans (congrArg (sE (sNwA t 20 6) 25 0) (nn_io (p := 2) (by decide))) (Eq.trans rdEnwa (z_E_25_0_2 e))) ?_
            refine x_cv (ls0 := [_, _, sJk]) (rest := []) rfl rfl rfl rfl rfl ?_
            refine x_aload_n (pc' := 1) rfl rfl rfl rfl rfl ?_
            refine x_gI (pc' := 4) (x := 2) rfl rfl rfl (Eq.trans rdInwa (z_I_128_2 e)) ?_
            refine x_istore_n (pc' := 5) (ls' := [_, _, _]) rfl rfl rfl rfl ?_
            refine x_iload_n (pc' := 6) rfl rfl rfl ?_
            refine x_if (a' := 27) (pc' := 9) (z := false) rfl rfl rfl (by decide) (fun h => by cases h) (fun _ => ?_)
            refine x_iload_n (pc' := 10) rfl rfl rfl ?_
            refine x_aload_n (pc' := 11) rfl rfl rfl rfl rfl ?_
            refine x_gR (pc' := 14) (r := (some (m + 1))) rfl rfl rfl (kMp (Cn_e e) hm).1 ?_
            refine x_alen (pc' := 15) (N := 3) rfl rfl rfl (kMp (Cn.nwa (Cn_e e)) hm).2.1 (?_ : X _ _ _ (.inl 3 :: _) _ _)
            refine x_icmp (a' := 27) (pc' := 18) (z := false) rfl rfl rfl (by decide) (fun h => by cases h) (fun _ => ?_)
            refine x_aload_n (pc' := 19) rfl rfl rfl rfl rfl ?_
            refine x_gR (pc' := 22) (r := (some (m + 1))) rfl rfl rfl (kMp (Cn_e e) hm).1 ?_
            refine x_iload_n (pc' := 23) rfl rfl rfl ?_
            refine x_iald (pc' := 24) (N := 3) (x := 0) rfl rfl rfl (kMp (Cn.nwa (Cn_e e)) hm).2.1 (io_in (p := 2) (N := 3) (by decide) (by decide)) (Eq.trans (congrArg (sA (sNwA t 20 6) 20 (m + 1)) (nn_io (p := 2) (by decide))) (Eq.trans rdAnwa (z_A_20_yy e _ _))) ?_
            refine x_goto (pc' := 28) rfl rfl ?_
            refine x_reti rfl rfl ?_
            refine sK_i (pc' := 48) rfl ?_
            refine x_istore (pc' := 50) (ls' := [_, _, _, _, _, _, _, _, _]) rfl rfl rfl rfl ?_
            refine x_aload_n (pc' := 51) rfl rfl rfl rfl rfl ?_
            refine x_iload (pc' := 53) rfl rfl rfl ?_
            refine x_iload (pc' := 55) rfl rfl rfl ?_
            refine x_cv (ls0 := [_, _, _, sJk]) (rest := []) rfl rfl rfl rfl rfl ?_
            refine x_iload_n (pc' := 1) rfl rfl rfl ?_
            refine x_iconst (pc' := 2) rfl rfl ?_
            refine x_imul (pc' := 3) (z := 9) rfl rfl (by decide) ?_
            refine x_iload_n (pc' := 4) rfl rfl rfl ?_
            refine x_iadd (pc' := 5) (z := 11) rfl rfl (by decide) ?_
            refine x_istore_n (pc' := 6) (ls' := [_, _, _, _]) rfl rfl rfl rfl ?_
            refine x_iload_n (pc' := 7) rfl rfl rfl ?_
            refine x_if (a' := 28) (pc' := 10) (z := false) rfl rfl rfl (by decide) (fun h => by cases h) (fun _ => ?_)
            refine x_iload_n (pc' := 11) rfl rfl rfl ?_
            refine x_aload_n (pc' := 12) rfl rfl rfl rfl rfl ?_
            refine x_gR (pc' := 15) (r := (some 0)) rfl rfl rfl (Eq.trans rdRnwa (z_R_323_0 e)) ?_
            refine x_alen (pc' := 16) (N := 18) rfl rfl rfl (kN_20_0 (Cn.nwa (Cn_e e))) (?_ : X _ _ _ (.inl 18 :: _) _ _)
            refine x_icmp (a' := 28) (pc' := 19) (z := false) rfl rfl rfl (by decide) (fun h => by cases h) (fun _ => ?_)
            refine x_aload_n (pc' := 20) rfl rfl rfl rfl rfl ?_
            refine x_gR (pc' := 23) (r := (some 0)) rfl rfl rfl (Eq.trans rdRnwa (z_R_323_0 e)) ?_
            refine x_iload_n (pc' := 24) rfl rfl rfl ?_
            refine x_iald (pc' := 25) (N := 18) (x := 0) rfl rfl rfl (kN_20_0 (Cn.nwa (Cn_e e))) (io_in (p := 11) (N := 18) (by decide) (by decide)) (Eq.trans (congrArg (sA (sNwA t 20 6) 20 0) (nn_io (p := 11) (by decide))) (Eq.trans rdAnwa (z_A_20_0_11 e))) ?_
            refine x_goto (pc' := 29) rfl rfl ?_
            refine x_reti rfl rfl ?_
            refine sK_i (pc' := 58) rfl ?_
            refine x_istore (pc' := 60) (ls' := [_, _, _, _, _, _, _, _, _]) rfl rfl rfl rfl ?_
            refine x_iload (pc' := 62) rfl rfl rfl ?_
            refine x_iload (pc' := 64) rfl rfl rfl ?_
            refine x_aload_n (pc' := 65) rfl rfl rfl rfl rfl ?_
            refine x_iload (pc' := 67) rfl rfl rfl ?_
            refine x_iald (pc' := 68) (N := 6) (x := 0) rfl rfl rfl (sN_new (z_C_20 e)) (io_in (p := 2) (N := 6) (by decide) (by decide)) (Eq.trans (congrArg (sA (sNwA t 20 6) 20 7) (nn_io (p := 2) (by decide))) (Eq.trans rdAnwa (z_A_20_7_2 e))) ?_
            refine x_iadd (pc' := 69) (z := 0) rfl rfl (by decide) ?_
            refine x_ineg (pc' := 70) (z := 0) rfl rfl (by decide) ?_
            refine x_iload (pc' := 72) rfl rfl rfl ?_
            refine x_imul (pc' := 73) (z := 0) rfl rfl (by decide) ?_
            refine x_iload (pc' := 75) rfl rfl rfl ?_
            refine x_aload_n (pc' := 76) rfl rfl rfl rfl rfl ?_
            refine x_iload (pc' := 78) rfl rfl rfl ?_
            refine x_iconst (pc' := 79) rfl rfl ?_
            refine x_iadd (pc' := 80) (z := 5) rfl rfl (by decide) ?_
            refine x_iald (pc' := 81) (N := 6) (x := 0) rfl rfl rfl (sN_new (z_C_20 e)) (io_in (p := 5) (N := 6) (by decide) (by decide)) (Eq.trans (congrArg (sA (sNwA t 20 6) 20 7) (nn_io (p := 5) (by decide))) (Eq.trans rdAnwa (z_A_20_7_5 e))) ?_
            refine x_isub (pc' := 82) (z := 0) rfl rfl (by decide) ?_
            refine x_ineg (pc' := 83) (z := 0) rfl rfl (by decide) ?_
            refine x_iload (pc' := 85) rfl rfl rfl ?_
            refine x_imul (pc' := 86) (z := 0) rfl rfl (by decide) ?_
            refine x_max (pc' := 89) (z := 0) rfl rfl rfl (by decide) ?_
            refine x_iadd (pc' := 90) (z := 0) rfl rfl (by decide) ?_
            refine x_istore (pc' := 92) (ls' := [_, _, _, _, _, _, _, _, _]) rfl rfl rfl rfl ?_
            refine x_iinc (pc' := 95) (y := 3) (ls' := [_, _, _, _, _, _, _, _, _]) rfl rfl rfl rfl rfl ?_
            refine x_goto (pc' := 18) rfl rfl ?_
            refine x_iload (pc' := 20) rfl rfl rfl ?_
            refine x_aload_n (pc' := 21) rfl rfl rfl rfl rfl ?_
            refine x_gR (pc' := 24) (r := (some 0)) rfl rfl rfl (Eq.trans rdRnwa (z_R_320_0 e)) ?_
            refine x_alen (pc' := 25) (N := 3) rfl rfl rfl (Eq.trans (b := sN t _ _) rfl (z_N_25_0 e)) (?_ : X _ _ _ (.inl 3 :: _) _ _)
            refine x_icmp (a' := 98) (pc' := 28) (z := true) rfl rfl rfl (by decide) (fun _ => ?_) (fun h => by cases h)
            refine x_iload_n (pc' := 99) rfl rfl rfl ?_
            refine x_iload (pc' := 101) rfl rfl rfl ?_
            refine x_max (pc' := 104) (z := 0) rfl rfl rfl (by decide) ?_
            refine x_istore_n (pc' := 105) (ls' := [_, _, _, _, _, _, _, _, _]) rfl rfl rfl rfl ?_
            refine x_iinc (pc' := 108) (y := 4) (ls' := [_, _, _, _, _, _, _, _, _]) rfl rfl rfl rfl rfl ?_
            refine x_goto (pc' := 5) rfl rfl ?_
            refine x_iload (pc' := 7) rfl rfl rfl ?_
            refine x_bipush (pc' := 9) rfl rfl ?_
            refine x_icmp (a' := 111) (pc' := 12) (z := false) rfl rfl rfl (by decide) (fun h => by cases h) (fun _ => ?_)
            refine x_iconst (pc' := 13) rfl rfl ?_
            refine x_istore (pc' := 15) (ls' := [_, _, _, _, _, _, _, _, _]) rfl rfl rfl rfl ?_
            refine x_iconst (pc' := 16) rfl rfl ?_
            refine x_istore (pc' := 18) (ls' := [_, _, _, _, _, _, _, _, _]) rfl rfl rfl rfl ?_
            refine x_iload (pc' := 20) rfl rfl rfl ?_
            refine x_aload_n (pc' := 21) rfl rfl rfl rfl rfl ?_
            refine x_gR (pc' := 24) (r := (some 0)) rfl rfl rfl (Eq.trans rdRnwa (z_R_320_0 e)) ?_
            refine x_alen (pc' := 25) (N := 3) rfl rfl rfl (Eq.trans (b := sN t _ _) rfl (z_N_25_0 e)) (?_ : X _ _ _ (.inl 3 :: _) _ _)
            refine x_icmp (a' := 98) (pc' := 28) (z := false) rfl rfl rfl (by decide) (fun h => by cases h) (fun _ => ?_)
            refine x_iload (pc' := 30) rfl rfl rfl ?_
            refine x_iconst (pc' := 31) rfl rfl ?_
            refine x_iadd (pc' := 32) (z := 3) rfl rfl (by decide) ?_
            refine x_aload_n (pc' := 33) rfl rfl rfl rfl rfl ?_
            refine x_alen (pc' := 34) (N := 6) rfl rfl rfl (sN_new (z_C_20 e)) (?_ : X _ _ _ (.inl 6 :: _) _ _)
            refine x_icmp (a' := 98) (pc' := 37) (z := false) rfl rfl rfl (by decide) (fun h => by cases h) (fun _ => ?_)
            refine x_aload_n (pc' := 38) rfl rfl rfl rfl rfl ?_
            refine x_aload_n (pc' := 39) rfl rfl rfl rfl rfl ?_
            refine x_gR (pc' := 42) (r := (some 0)) rfl rfl rfl (Eq.trans rdRnwa (z_R_320_0 e)) ?_
            refine x_iload (pc' := 44) rfl rfl rfl ?_
            refine x_aald (pc' := 45) (N := 3) (k' := 2) (r := (some 0)) rfl rfl rfl (Eq.trans (b := sN t _ _) rfl (z_N_25_0 e)) (io_in (p := 0) (N := 3) (by decide) (by decide)) (Eq.trans (congrArg (sE (sNwA t 20 6) 25 0) (nn_io (p := 0) (by decide))) (Eq.trans rdEnwa (z_E_25_0_0 e))) ?_
            refine x_cv (ls0 := [_, _, sJk]) (rest := []) rfl rfl rfl rfl rfl ?_
            refine x_aload_n (pc' := 1) rfl rfl rfl rfl rfl ?_
            refine x_gI (pc' := 4) (x := 0) rfl rfl rfl (Eq.trans rdInwa (z_I_128_0 e)) ?_
            refine x_istore_n (pc' := 5) (ls' := [_, _, _]) rfl rfl rfl rfl ?_
            refine x_iload_n (pc' := 6) rfl rfl rfl ?_
            refine x_if (a' := 27) (pc' := 9) (z := false) rfl rfl rfl (by decide) (fun h => by cases h) (fun _ => ?_)
            refine x_iload_n (pc' := 10) rfl rfl rfl ?_
            refine x_aload_n (pc' := 11) rfl rfl rfl rfl rfl ?_
            refine x_gR (pc' := 14) (r := (some (m + 1))) rfl rfl rfl (kMp (Cn_e e) hm).1 ?_
            refine x_alen (pc' := 15) (N := 3) rfl rfl rfl (kMp (Cn.nwa (Cn_e e)) hm).2.1 (?_ : X _ _ _ (.inl 3 :: _) _ _)
            refine x_icmp (a' := 27) (pc' := 18) (z := false) rfl rfl rfl (by decide) (fun h => by cases h) (fun _ => ?_)
            refine x_aload_n (pc' := 19) rfl rfl rfl rfl rfl ?_
            refine x_gR (pc' := 22) (r := (some (m + 1))) rfl rfl rfl (kMp (Cn_e e) hm).1 ?_
            refine x_iload_n (pc' := 23) rfl rfl rfl ?_
            refine x_iald (pc' := 24) (N := 3) (x := 0) rfl rfl rfl (kMp (Cn.nwa (Cn_e e)) hm).2.1 (io_in (p := 0) (N := 3) (by decide) (by decide)) (Eq.trans (congrArg (sA (sNwA t 20 6) 20 (m + 1)) (nn_io (p := 0) (by decide))) (Eq.trans rdAnwa (z_A_20_yy e _ _))) ?_
            refine x_goto (pc' := 28) rfl rfl ?_
            refine x_reti rfl rfl ?_
            refine sK_i (pc' := 48) rfl ?_
            refine x_istore (pc' := 50) (ls' := [_, _, _, _, _, _, _, _, _]) rfl rfl rfl rfl ?_
            refine x_aload_n (pc' := 51) rfl rfl rfl rfl rfl ?_
            refine x_iload (pc' := 53) rfl rfl rfl ?_
            refine x_iload (pc' := 55) rfl rfl rfl ?_
            refine x_cv (ls0 := [_, _, _, sJk]) (rest := []) rfl rfl rfl rfl rfl ?_
            refine x_iload_n (pc' := 1) rfl rfl rfl ?_
            refine x_iconst (pc' := 2) rfl rfl ?_
            refine x_imul (pc' := 3) (z := 12) rfl rfl (by decide) ?_
            refine x_iload_n (pc' := 4) rfl rfl rfl ?_
            refine x_iadd (pc' := 5) (z := 12) rfl rfl (by decide) ?_
            refine x_istore_n (pc' := 6) (ls' := [_, _, _, _]) rfl rfl rfl rfl ?_
            refine x_iload_n (pc' := 7) rfl rfl rfl ?_
            refine x_if (a' := 28) (pc' := 10) (z := false) rfl rfl rfl (by decide) (fun h => by cases h) (fun _ => ?_)
            refine x_iload_n (pc' := 11) rfl rfl rfl ?_
            refine x_aload_n (pc' := 12) rfl rfl rfl rfl rfl ?_
            refine x_gR (pc' := 15) (r := (some 0)) rfl rfl rfl (Eq.trans rdRnwa (z_R_323_0 e)) ?_
            refine x_alen (pc' := 16) (N := 18) rfl rfl rfl (kN_20_0 (Cn.nwa (Cn_e e))) (?_ : X _ _ _ (.inl 18 :: _) _ _)
            refine x_icmp (a' := 28) (pc' := 19) (z := false) rfl rfl rfl (by decide) (fun h => by cases h) (fun _ => ?_)
            refine x_aload_n (pc' := 20) rfl rfl rfl rfl rfl ?_
            refine x_gR (pc' := 23) (r := (some 0)) rfl rfl rfl (Eq.trans rdRnwa (z_R_323_0 e)) ?_
            refine x_iload_n (pc' := 24) rfl rfl rfl ?_
            refine x_iald (pc' := 25) (N := 18) (x := 0) rfl rfl rfl (kN_20_0 (Cn.nwa (Cn_e e))) (io_in (p := 12) (N := 18) (by decide) (by decide)) (Eq.trans (congrArg (sA (sNwA t 20 6) 20 0) (nn_io (p := 12) (by decide))) (Eq.trans rdAnwa (z_A_20_0_12 e))) ?_
            refine x_goto (pc' := 29) rfl rfl ?_
            refine x_reti rfl rfl ?_
            refine sK_i (pc' := 58) rfl ?_
            refine x_istore (pc' := 60) (ls' := [_, _, _, _, _, _, _, _, _]) rfl rfl rfl rfl ?_
            refine x_iload (pc' := 62) rfl rfl rfl ?_
            refine x_iload (pc' := 64) rfl rfl rfl ?_
            refine x_aload_n (pc' := 65) rfl rfl rfl rfl rfl ?_
            refine x_iload (pc' := 67) rfl rfl rfl ?_
            refine x_iald (pc' := 68) (N := 6) (x := 0) rfl rfl rfl (sN_new (z_C_20 e)) (io_in (p := 0) (N := 6) (by decide) (by decide)) (Eq.trans (congrArg (sA (sNwA t 20 6) 20 7) (nn_io (p := 0) (by decide))) (Eq.trans rdAnwa (z_A_20_7_0 e))) ?_
            refine x_iadd (pc' := 69) (z := 0) rfl rfl (by decide) ?_
            refine x_ineg (pc' := 70) (z := 0) rfl rfl (by decide) ?_
            refine x_iload (pc' := 72) rfl rfl rfl ?_
            refine x_imul (pc' := 73) (z := 0) rfl rfl (by decide) ?_
            refine x_iload (pc' := 75) rfl rfl rfl ?_
            refine x_aload_n (pc' := 76) rfl rfl rfl rfl rfl ?_
            refine x_iload (pc' := 78) rfl rfl rfl ?_
            refine x_iconst (pc' := 79) rfl rfl ?_
            refine x_iadd (pc' := 80) (z := 3) rfl rfl (by decide) ?_
            refine x_iald (pc' := 81) (N := 6) (x := 0) rfl rfl rfl (sN_new (z_C_20 e)) (io_in (p := 3) (N := 6) (by decide) (by decide)) (Eq.trans (congrArg (sA (sNwA t 20 6) 20 7) (nn_io (p := 3) (by decide))) (Eq.trans rdAnwa (z_A_20_7_3 e))) ?_
            refine x_isub (pc' := 82) (z := 0) rfl rfl (by decide) ?_
            refine x_ineg (pc' := 83) (z := 0) rfl rfl (by decide) ?_
            refine x_iload (pc' := 85) rfl rfl rfl ?_
            refine x_imul (pc' := 86) (z := 0) rfl rfl (by decide) ?_
            refine x_max (pc' := 89) (z := 0) rfl rfl rfl (by decide) ?_
            refine x_iadd (pc' := 90) (z := 0) rfl rfl (by decide) ?_
            refine x_istore (pc' := 92) (ls' := [_, _, _, _, _, _, _, _, _]) rfl rfl rfl rfl ?_
            refine x_iinc (pc' := 95) (y := 1) (ls' := [_, _, _, _, _, _, _, _, _]) rfl rfl rfl rfl rfl ?_
            refine x_goto (pc' := 18) rfl rfl ?_
            refine x_iload (pc' := 20) rfl rfl rfl ?_
            refine x_aload_n (pc' := 21) rfl rfl rfl rfl rfl ?_
            refine x_gR (pc' := 24) (r := (some 0)) rfl rfl rfl (Eq.trans rdRnwa (z_R_320_0 e)) ?_
            refine x_alen (pc' := 25) (N := 3) rfl rfl rfl (Eq.trans (b := sN t _ _) rfl (z_N_25_0 e)) (?_ : X _ _ _ (.inl 3 :: _) _ _)
            refine x_icmp (a' := 98) (pc' := 28) (z := false) rfl rfl rfl (by decide) (fun h => by cases h) (fun _ => ?_)
            refine x_iload (pc' := 30) rfl rfl rfl ?_
            refine x_iconst (pc' := 31) rfl rfl ?_
            refine x_iadd (pc' := 32) (z := 4) rfl rfl (by decide) ?_
            refine x_aload_n (pc' := 33) rfl rfl rfl rfl rfl ?_
            refine x_alen (pc' := 34) (N := 6) rfl rfl rfl (sN_new (z_C_20 e)) (?_ : X _ _ _ (.inl 6 :: _) _ _)
            refine x_icmp (a' := 98) (pc' := 37) (z := false) rfl rfl rfl (by decide) (fun h => by cases h) (fun _ => ?_)
            refine x_aload_n (pc' := 38) rfl rfl rfl rfl rfl ?_
            refine x_aload_n (pc' := 39) rfl rfl rfl rfl rfl ?_
            refine x_gR (pc' := 42) (r := (some 0)) rfl rfl rfl (Eq.trans rdRnwa (z_R_320_0 e)) ?_
            refine x_iload (pc' := 44) rfl rfl rfl ?_
            refine x_aald (pc' := 45) (N := 3) (k' := 2) (r := (some 1)) rfl rfl rfl (Eq.trans (b := sN t _ _) rfl (z_N_25_0 e)) (io_in (p := 1) (N := 3) (by decide) (by decide)) (Eq.trans (congrArg (sE (sNwA t 20 6) 25 0) (nn_io (p := 1) (by decide))) (Eq.trans rdEnwa (z_E_25_0_1 e))) ?_
            refine x_cv (ls0 := [_, _, sJk]) (rest := []) rfl rfl rfl rfl rfl ?_
            refine x_aload_n (pc' := 1) rfl rfl rfl rfl rfl ?_
            refine x_gI (pc' := 4) (x := 1) rfl rfl rfl (Eq.trans rdInwa (z_I_128_1 e)) ?_
            refine x_istore_n (pc' := 5) (ls' := [_, _, _]) rfl rfl rfl rfl ?_
            refine x_iload_n (pc' := 6) rfl rfl rfl ?_
            refine x_if (a' := 27) (pc' := 9) (z := false) rfl rfl rfl (by decide) (fun h => by cases h) (fun _ => ?_)
            refine x_iload_n (pc' := 10) rfl rfl rfl ?_
            refine x_aload_n (pc' := 11) rfl rfl rfl rfl rfl ?_
            refine x_gR (pc' := 14) (r := (some (m + 1))) rfl rfl rfl (kMp (Cn_e e) hm).1 ?_
            refine x_alen (pc' := 15) (N := 3) rfl rfl rfl (kMp (Cn.nwa (Cn_e e)) hm).2.1 (?_ : X _ _ _ (.inl 3 :: _) _ _)
            refine x_icmp (a' := 27) (pc' := 18) (z := false) rfl rfl rfl (by decide) (fun h => by cases h) (fun _ => ?_)
            refine x_aload_n (pc' := 19) rfl rfl rfl rfl rfl ?_
            refine x_gR (pc' := 22) (r := (some (m + 1))) rfl rfl rfl (kMp (Cn_e e) hm).1 ?_
            refine x_iload_n (pc' := 23) rfl rfl rfl ?_
            refine x_iald (pc' := 24) (N := 3) (x := 0) rfl rfl rfl (kMp (Cn.nwa (Cn_e e)) hm).2.1 (io_in (p := 1) (N := 3) (by decide) (by decide)) (Eq.trans (congrArg (sA (sNwA t 20 6) 20 (m + 1)) (nn_io (p := 1) (by decide))) (Eq.trans rdAnwa (z_A_20_yy e _ _))) ?_
            refine x_goto (pc' := 28) rfl rfl ?_
            refine x_reti rfl rfl ?_
            refine sK_i (pc' := 48) rfl ?_
            refine x_istore (pc' := 50) (ls' := [_, _, _, _, _, _, _, _, _]) rfl rfl rfl rfl ?_
            refine x_aload_n (pc' := 51) rfl rfl rfl rfl rfl ?_
            refine x_iload (pc' := 53) rfl rfl rfl ?_
            refine x_iload (pc' := 55) rfl rfl rfl ?_
            refine x_cv (ls0 := [_, _, _, sJk]) (rest := []) rfl rfl rfl rfl rfl ?_
            refine x_iload_n (pc' := 1) rfl rfl rfl ?_
            refine x_iconst (pc' := 2) rfl rfl ?_
            refine x_imul (pc' := 3) (z := 12) rfl rfl (by decide) ?_
            refine x_iload_n (pc' := 4) rfl rfl rfl ?_
            refine x_iadd (pc' := 5) (z := 13) rfl rfl (by decide) ?_
            refine x_istore_n (pc' := 6) (ls' := [_, _, _, _]) rfl rfl rfl rfl ?_
            refine x_iload_n (pc' := 7) rfl rfl rfl ?_
            refine x_if (a' := 28) (pc' := 10) (z := false) rfl rfl rfl (by decide) (fun h => by cases h) (fun _ => ?_)
            refine x_iload_n (pc' := 11) rfl rfl rfl ?_
            refine x_aload_n (pc' := 12) rfl rfl rfl rfl rfl ?_
            refine x_gR (pc' := 15) (r := (some 0)) rfl rfl rfl (Eq.trans rdRnwa (z_R_323_0 e)) ?_
            refine x_alen (pc' := 16) (N := 18) rfl rfl rfl (kN_20_0 (Cn.nwa (Cn_e e))) (?_ : X _ _ _ (.inl 18 :: _) _ _)
            refine x_icmp (a' := 28) (pc' := 19) (z := false) rfl rfl rfl (by decide) (fun h => by cases h) (fun _ => ?_)
            refine x_aload_n (pc' := 20) rfl rfl rfl rfl rfl ?_
            refine x_gR (pc' := 23) (r := (some 0)) rfl rfl rfl (Eq.trans rdRnwa (z_R_323_0 e)) ?_
            refine x_iload_n (pc' := 24) rfl rfl rfl ?_
            refine x_iald (pc' := 25) (N := 18) (x := 0) rfl rfl rfl (kN_20_0 (Cn.nwa (Cn_e e))) (io_in (p := 13) (N := 18) (by decide) (by decide)) (Eq.trans (congrArg (sA (sNwA t 20 6) 20 0) (nn_io (p := 13) (by decide))) (Eq.trans rdAnwa (z_A_20_0_13 e))) ?_
            refine x_goto (pc' := 29) rfl rfl ?_
            refine x_reti rfl rfl ?_
            refine sK_i (pc' := 58) rfl ?_
            refine x_istore (pc' := 60) (ls' := [_, _, _, _, _, _, _, _, _]) rfl rfl rfl rfl ?_
            refine x_iload (pc' := 62) rfl rfl rfl ?_
            refine x_iload (pc' := 64) rfl rfl rfl ?_
            refine x_aload_n (pc' := 65) rfl rfl rfl rfl rfl ?_
            refine x_iload (pc' := 67) rfl rfl rfl ?_
            refine x_iald (pc' := 68) (N := 6) (x := 0) rfl rfl rfl (sN_new (z_C_20 e)) (io_in (p := 1) (N := 6) (by decide) (by decide)) (Eq.trans (congrArg (sA (sNwA t 20 6) 20 7) (nn_io (p := 1) (by decide))) (Eq.trans rdAnwa (z_A_20_7_1 e))) ?_
            refine x_iadd (pc' := 69) (z := 0) rfl rfl (by decide) ?_
            refine x_ineg (pc' := 70) (z := 0) rfl rfl (by decide) ?_
            refine x_iload (pc' := 72) rfl rfl rfl ?_
            refine x_imul (pc' := 73) (z := 0) rfl rfl (by decide) ?_
            refine x_iload (pc' := 75) rfl rfl rfl ?_
            refine x_aload_n (pc' := 76) rfl rfl rfl rfl rfl ?_
            refine x_iload (pc' := 78) rfl rfl rfl ?_
            refine x_iconst (pc' := 79) rfl rfl ?_
            refine x_iadd (pc' := 80) (z := 4) rfl rfl (by decide) ?_
            refine x_iald (pc' := 81) (N := 6) (x := 0) rfl rfl rfl (sN_new (z_C_20 e)) (io_in (p := 4) (N := 6) (by decide) (by decide)) (Eq.trans (congrArg (sA (sNwA t 20 6) 20 7) (nn_io (p := 4) (by decide))) (Eq.trans rdAnwa (z_A_20_7_4 e))) ?_
            refine x_isub (pc' := 82) (z := 0) rfl rfl (by decide) ?_
            refine x_ineg (pc' := 83) (z := 0) rfl rfl (by decide) ?_
            refine x_iload (pc' := 85) rfl rfl rfl ?_
            refine x_imul (pc' := 86) (z := 0) rfl rfl (by decide) ?_
            refine x_max (pc' := 89) (z := 0) rfl rfl rfl (by decide) ?_
            refine x_iadd (pc' := 90) (z := 0) rfl rfl (by decide) ?_
            refine x_istore (pc' := 92) (ls' := [_, _, _, _, _, _, _, _, _]) rfl rfl rfl rfl ?_
            refine x_iinc (pc' := 95) (y := 2) (ls' := [_, _, _, _, _, _, _, _, _]) rfl rfl rfl rfl rfl ?_
            refine x_goto (pc' := 18) rfl rfl ?_
            refine x_iload (pc' := 20) rfl rfl rfl ?_
            refine x_aload_n (pc' := 21) rfl rfl rfl rfl rfl ?_
            refine x_gR (pc' := 24) (r := (some 0)) rfl rfl rfl (Eq.trans rdRnwa (z_R_320_0 e)) ?_
            refine x_alen (pc' := 25) (N := 3) rfl rfl rfl (Eq.trans (b := sN t _ _) rfl (z_N_25_0 e)) (?_ : X _ _ _ (.inl 3 :: _) _ _)
            refine x_icmp (a' := 98) (pc' := 28) (z := false) rfl rfl rfl (by decide) (fun h => by cases h) (fun _ => ?_)
            refine x_iload (pc' := 30) rfl rfl rfl ?_
            refine x_iconst (pc' := 31) rfl rfl ?_
            refine x_iadd (pc' := 32) (z := 5) rfl rfl (by decide) ?_
            refine x_aload_n (pc' := 33) rfl rfl rfl rfl rfl ?_
            refine x_alen (pc' := 34) (N := 6) rfl rfl rfl (sN_new (z_C_20 e)) (?_ : X _ _ _ (.inl 6 :: _) _ _)
            refine x_icmp (a' := 98) (pc' := 37) (z := false) rfl rfl rfl (by decide) (fun h => by cases h) (fun _ => ?_)
            refine x_aload_n (pc' := 38) rfl rfl rfl rfl rfl ?_
            refine x_aload_n (pc' := 39) rfl rfl rfl rfl rfl ?_
            refine x_gR (pc' := 42) (r := (some 0)) rfl rfl rfl (Eq.trans rdRnwa (z_R_320_0 e)) ?_
            refine x_iload (pc' := 44) rfl rfl rfl ?_
            refine x_aald (pc' := 45) (N := 3) (k' := 2) (r := (some 2)) rfl rfl rfl (Eq.trans (b := sN t _ _) rfl (z_N_25_0 e)) (io_in (p := 2) (N := 3) (by decide) (by decide)) (Eq.trans (congrArg (sE (sNwA t 20 6) 25 0) (nn_io (p := 2) (by decide))) (Eq.trans rdEnwa (z_E_25_0_2 e))) ?_
            refine x_cv (ls0 := [_, _, sJk]) (rest := []) rfl rfl rfl rfl rfl ?_
            refine x_aload_n (pc' := 1) rfl rfl rfl rfl rfl ?_
            refine x_gI (pc' := 4) (x := 2) rfl rfl rfl (Eq.trans rdInwa (z_I_128_2 e)) ?_
            refine x_istore_n (pc' := 5) (ls' := [_, _, _]) rfl rfl rfl rfl ?_
            refine x_iload_n (pc' := 6) rfl rfl rfl ?_
            refine x_if (a' := 27) (pc' := 9) (z := false) rfl rfl rfl (by decide) (fun h => by cases h) (fun _ => ?_)
            refine x_iload_n (pc' := 10) rfl rfl rfl ?_
            refine x_aload_n (pc' := 11) rfl rfl rfl rfl rfl ?_
            refine x_gR (pc' := 14) (r := (some (m + 1))) rfl rfl rfl (kMp (Cn_e e) hm).1 ?_
            refine x_alen (pc' := 15) (N := 3) rfl rfl rfl (kMp (Cn.nwa (Cn_e e)) hm).2.1 (?_ : X _ _ _ (.inl 3 :: _) _ _)
            refine x_icmp (a' := 27) (pc' := 18) (z := false) rfl rfl rfl (by decide) (fun h => by cases h) (fun _ => ?_)
            refine x_aload_n (pc' := 19) rfl rfl rfl rfl rfl ?_
            refine x_gR (pc' := 22) (r := (some (m + 1))) rfl rfl rfl (kMp (Cn_e e) hm).1 ?_
            refine x_iload_n (pc' := 23) rfl rfl rfl ?_
            refine x_iald (pc' := 24) (N := 3) (x := 0) rfl rfl rfl (kMp (Cn.nwa (Cn_e e)) hm).2.1 (io_in (p := 2) (N := 3) (by decide) (by decide)) (Eq.trans (congrArg (sA (sNwA t 20 6) 20 (m + 1)) (nn_io (p := 2) (by decide))) (Eq.trans rdAnwa (z_A_20_yy e _ _))) ?_
            refine x_goto (pc' := 28) rfl rfl ?_
            refine x_reti rfl rfl ?_
            refine sK_i (pc' := 48) rfl ?_
            refine x_istore (pc' := 50) (ls' := [_, _, _, _, _, _, _, _, _]) rfl rfl rfl rfl ?_
            refine x_aload_n (pc' := 51) rfl rfl rfl rfl rfl ?_
            refine x_iload (pc' := 53) rfl rfl rfl ?_
            refine x_iload (pc' := 55) rfl rfl rfl ?_
            refine x_cv (ls0 := [_, _, _, sJk]) (rest := []) rfl rfl rfl rfl rfl ?_
            refine x_iload_n (pc' := 1) rfl rfl rfl ?_
            refine x_iconst (pc' := 2) rfl rfl ?_
            refine x_imul (pc' := 3) (z := 12) rfl rfl (by decide) ?_
            refine x_iload_n (pc' := 4) rfl rfl rfl ?_
            refine x_iadd (pc' := 5) (z := 14) rfl rfl (by decide) ?_
            refine x_istore_n (pc' := 6) (ls' := [_, _, _, _]) rfl rfl rfl rfl ?_
            refine x_iload_n (pc' := 7) rfl rfl rfl ?_
            refine x_if (a' := 28) (pc' := 10) (z := false) rfl rfl rfl (by decide) (fun h => by cases h) (fun _ => ?_)
            refine x_iload_n (pc' := 11) rfl rfl rfl ?_
            refine x_aload_n (pc' := 12) rfl rfl rfl rfl rfl ?_
            refine x_gR (pc' := 15) (r := (some 0)) rfl rfl rfl (Eq.trans rdRnwa (z_R_323_0 e)) ?_
            refine x_alen (pc' := 16) (N := 18) rfl rfl rfl (kN_20_0 (Cn.nwa (Cn_e e))) (?_ : X _ _ _ (.inl 18 :: _) _ _)
            refine x_icmp (a' := 28) (pc' := 19) (z := false) rfl rfl rfl (by decide) (fun h => by cases h) (fun _ => ?_)
            refine x_aload_n (pc' := 20) rfl rfl rfl rfl rfl ?_
            refine x_gR (pc' := 23) (r := (some 0)) rfl rfl rfl (Eq.trans rdRnwa (z_R_323_0 e)) ?_
            refine x_iload_n (pc' := 24) rfl rfl rfl ?_
            refine x_iald (pc' := 25) (N := 18) (x := 0) rfl rfl rfl (kN_20_0 (Cn.nwa (Cn_e e))) (io_in (p := 14) (N := 18) (by decide) (by decide)) (Eq.trans (congrArg (sA (sNwA t 20 6) 20 0) (nn_io (p := 14) (by decide))) (Eq.trans rdAnwa (z_A_20_0_14 e))) ?_
            refine x_goto (pc' := 29) rfl rfl ?_
            refine x_reti rfl rfl ?_
            refine sK_i (pc' := 58) rfl ?_
            refine x_istore (pc' := 60) (ls' := [_, _, _, _, _, _, _, _, _]) rfl rfl rfl rfl ?_
            refine x_iload (pc' := 62) rfl rfl rfl ?_
            refine x_iload (pc' := 64) rfl rfl rfl ?_
            refine x_aload_n (pc' := 65) rfl rfl rfl rfl rfl ?_
            refine x_iload (pc' := 67) rfl rfl rfl ?_
            refine x_iald (pc' := 68) (N := 6) (x := 0) rfl rfl rfl (sN_new (z_C_20 e)) (io_in (p := 2) (N := 6) (by decide) (by decide)) (Eq.trans (congrArg (sA (sNwA t 20 6) 20 7) (nn_io (p := 2) (by decide))) (Eq.trans rdAnwa (z_A_20_7_2 e))) ?_
            refine x_iadd (pc' := 69) (z := 0) rfl rfl (by decide) ?_
            refine x_ineg (pc' := 70) (z := 0) rfl rfl (by decide) ?_
            refine x_iload (pc' := 72) rfl rfl rfl ?_
            refine x_imul (pc' := 73) (z := 0) rfl rfl (by decide) ?_
            refine x_iload (pc' := 75) rfl rfl rfl ?_
            refine x_aload_n (pc' := 76) rfl rfl rfl rfl rfl ?_
            refine x_iload (pc' := 78) rfl rfl rfl ?_
            refine x_iconst (pc' := 79) rfl rfl ?_
            refine x_iadd (pc' := 80) (z := 5) rfl rfl (by decide) ?_
            refine x_iald (pc' := 81) (N := 6) (x := 0) rfl rfl rfl (sN_new (z_C_20 e)) (io_in (p := 5) (N := 6) (by decide) (by decide)) (Eq.trans (congrArg (sA (sNwA t 20 6) 20 7) (nn_io (p := 5) (by decide))) (Eq.trans rdAnwa (z_A_20_7_5 e))) ?_
            refine x_isub (pc' := 82) (z := 0) rfl rfl (by decide) ?_
            refine x_ineg (pc' := 83) (z := 0) rfl rfl (by decide) ?_
            refine x_iload (pc' := 85) rfl rfl rfl ?_
            refine x_imul (pc' := 86) (z := 0) rfl rfl (by decide) ?_
            refine x_max (pc' := 89) (z := 0) rfl rfl rfl (by decide) ?_
            refine x_iadd (pc' := 90) (z := 0) rfl rfl (by decide) ?_
            refine x_istore (pc' := 92) (ls' := [_, _, _, _, _, _, _, _, _]) rfl rfl rfl rfl ?_
            refine x_iinc (pc' := 95) (y := 3) (ls' := [_, _, _, _, _, _, _, _, _]) rfl rfl rfl rfl rfl ?_
            refine x_goto (pc' := 18) rfl rfl ?_
            refine x_iload (pc' := 20) rfl rfl rfl ?_
            refine x_aload_n (pc' := 21) rfl rfl rfl rfl rfl ?_
            refine x_gR (pc' := 24) (r := (some 0)) rfl rfl rfl (Eq.trans rdRnwa (z_R_320_0 e)) ?_
            refine x_alen (pc' := 25) (N := 3) rfl rfl rfl (Eq.trans (b := sN t _ _) rfl (z_N_25_0 e)) (?_ : X _ _ _ (.inl 3 :: _) _ _)
            refine x_icmp (a' := 98) (pc' := 28) (z := true) rfl rfl rfl (by decide) (fun _ => ?_) (fun h => by cases h)
            refine x_iload_n (pc' := 99) rfl rfl rfl ?_
            refine x_iload (pc' := 101) rfl rfl rfl ?_
            refine x_max (pc' := 104) (z := 0) rfl rfl rfl (by decide) ?_
            refine x_istore_n (pc' := 105) (ls' := [_, _, _, _, _, _, _, _, _]) rfl rfl rfl rfl ?_
            refine x_iinc (pc' := 108) (y := 5) (ls' := [_, _, _, _, _, _, _, _, _]) rfl rfl rfl rfl rfl ?_
            refine x_goto (pc' := 5) rfl rfl ?_
            refine x_iload (pc' := 7) rfl rfl rfl ?_
            refine x_bipush (pc' := 9) rfl rfl ?_
            refine x_icmp (a' := 111) (pc' := 12) (z := false) rfl rfl rfl (by decide) (fun h => by cases h) (fun _ => ?_)
            refine x_iconst (pc' := 13) rfl rfl ?_
            refine x_istore (pc' := 15) (ls' := [_, _, _, _, _, _, _, _, _]) rfl rfl rfl rfl ?_
            refine x_iconst (pc' := 16) rfl rfl ?_
            refine x_istore (pc' := 18) (ls' := [_, _, _, _, _, _, _, _, _]) rfl rfl rfl rfl ?_
            refine x_iload (pc' := 20) rfl rfl rfl ?_
            refine x_aload_n (pc' := 21) rfl rfl rfl rfl rfl ?_
            refine x_gR (pc' := 24) (r := (some 0)) rfl rfl rfl (Eq.trans rdRnwa (z_R_320_0 e)) ?_
            refine x_alen (pc' := 25) (N := 3) rfl rfl rfl (Eq.trans (b := sN t _ _) rfl (z_N_25_0 e)) (?_ : X _ _ _ (.inl 3 :: _) _ _)
            refine x_icmp (a' := 98) (pc' := 28) (z := false) rfl rfl rfl (by decide) (fun h => by cases h) (fun _ => ?_)
            refine x_iload (pc' := 30) rfl rfl rfl ?_
            refine x_iconst (pc' := 31) rfl rfl ?_
            refine x_iadd (pc' := 32) (z := 3) rfl rfl (by decide) ?_
            refine x_aload_n (pc' := 33) rfl rfl rfl rfl rfl ?_
            refine x_alen (pc' := 34) (N := 6) rfl rfl rfl (sN_new (z_C_20 e)) (?_ : X _ _ _ (.inl 6 :: _) _ _)
            refine x_icmp (a' := 98) (pc' := 37) (z := false) rfl rfl rfl (by decide) (fun h => by cases h) (fun _ => ?_)
            refine x_aload_n (pc' := 38) rfl rfl rfl rfl rfl ?_
            refine x_aload_n (pc' := 39) rfl rfl rfl rfl rfl ?_
            refine x_gR (pc' := 42) (r := (some 0)) rfl rfl rfl (Eq.trans rdRnwa (z_R_320_0 e)) ?_
            refine x_iload (pc' := 44) rfl rfl rfl ?_
            refine x_aald (pc' := 45) (N := 3) (k' := 2) (r := (some 0)) rfl rfl rfl (Eq.trans (b := sN t _ _) rfl (z_N_25_0 e)) (io_in (p := 0) (N := 3) (by decide) (by decide)) (Eq.trans (congrArg (sE (sNwA t 20 6) 25 0) (nn_io (p := 0) (by decide))) (Eq.trans rdEnwa (z_E_25_0_0 e))) ?_
            refine x_cv (ls0 := [_, _, sJk]) (rest := []) rfl rfl rfl rfl rfl ?_
            refine x_aload_n (pc' := 1) rfl rfl rfl rfl rfl ?_
            refine x_gI (pc' := 4) (x := 0) rfl rfl rfl (Eq.trans rdInwa (z_I_128_0 e)) ?_
            refine x_istore_n (pc' := 5) (ls' := [_, _, _]) rfl rfl rfl rfl ?_
            refine x_iload_n (pc' := 6) rfl rfl rfl ?_
            refine x_if (a' := 27) (pc' := 9) (z := false) rfl rfl rfl (by decide) (fun h => by cases h) (fun _ => ?_)
            refine x_iload_n (pc' := 10) rfl rfl rfl ?_
            refine x_aload_n (pc' := 11) rfl rfl rfl rfl rfl ?_
            refine x_gR (pc' := 14) (r := (some (m + 1))) rfl rfl rfl (kMp (Cn_e e) hm).1 ?_
            refine x_alen (pc' := 15) (N := 3) rfl rfl rfl (kMp (Cn.nwa (Cn_e e)) hm).2.1 (?_ : X _ _ _ (.inl 3 :: _) _ _)
            refine x_icmp (a' := 27) (pc' := 18) (z := false) rfl rfl rfl (by decide) (fun h => by cases h) (fun _ => ?_)
            refine x_aload_n (pc' := 19) rfl rfl rfl rfl rfl ?_
            refine x_gR (pc' := 22) (r := (some (m + 1))) rfl rfl rfl (kMp (Cn_e e) hm).1 ?_
            refine x_iload_n (pc' := 23) rfl rfl rfl ?_
            refine x_iald (pc' := 24) (N := 3) (x := 0) rfl rfl rfl (kMp (Cn.nwa (Cn_e e)) hm).2.1 (io_in (p := 0) (N := 3) (by decide) (by decide)) (Eq.trans (congrArg (sA (sNwA t 20 6) 20 (m + 1)) (nn_io (p := 0) (by decide))) (Eq.trans rdAnwa (z_A_20_yy e _ _))) ?_
            refine x_goto (pc' := 28) rfl rfl ?_
            refine x_reti rfl rfl ?_
            refine sK_i (pc' := 48) rfl ?_
            refine x_istore (pc' := 50) (ls' := [_, _, _, _, _, _, _, _, _]) rfl rfl rfl rfl ?_
            refine x_aload_n (pc' := 51) rfl rfl rfl rfl rfl ?_
            refine x_iload (pc' := 53) rfl rfl rfl ?_
            refine x_iload (pc' := 55) rfl rfl rfl ?_
            refine x_cv (ls0 := [_, _, _, sJk]) (rest := []) rfl rfl rfl rfl rfl ?_
            refine x_iload_n (pc' := 1) rfl rfl rfl ?_
            refine x_iconst (pc' := 2) rfl rfl ?_
            refine x_imul (pc' := 3) (z := 15) rfl rfl (by decide) ?_
            refine x_iload_n (pc' := 4) rfl rfl rfl ?_
            refine x_iadd (pc' := 5) (z := 15) rfl rfl (by decide) ?_
            refine x_istore_n (pc' := 6) (ls' := [_, _, _, _]) rfl rfl rfl rfl ?_
            refine x_iload_n (pc' := 7) rfl rfl rfl ?_
            refine x_if (a' := 28) (pc' := 10) (z := false) rfl rfl rfl (by decide) (fun h => by cases h) (fun _ => ?_)
            refine x_iload_n (pc' := 11) rfl rfl rfl ?_
            refine x_aload_n (pc' := 12) rfl rfl rfl rfl rfl ?_
            refine x_gR (pc' := 15) (r := (some 0)) rfl rfl rfl (Eq.trans rdRnwa (z_R_323_0 e)) ?_
            refine x_alen (pc' := 16) (N := 18) rfl rfl rfl (kN_20_0 (Cn.nwa (Cn_e e))) (?_ : X _ _ _ (.inl 18 :: _) _ _)
            refine x_icmp (a' := 28) (pc' := 19) (z := false) rfl rfl rfl (by decide) (fun h => by cases h) (fun _ => ?_)
            refine x_aload_n (pc' := 20) rfl rfl rfl rfl rfl ?_
            refine x_gR (pc' := 23) (r := (some 0)) rfl rfl rfl (Eq.trans rdRnwa (z_R_323_0 e)) ?_
            refine x_iload_n (pc' := 24) rfl rfl rfl ?_
            refine x_iald (pc' := 25) (N := 18) (x := 0) rfl rfl rfl (kN_20_0 (Cn.nwa (Cn_e e))) (io_in (p := 15) (N := 18) (by decide) (by decide)) (Eq.trans (congrArg (sA (sNwA t 20 6) 20 0) (nn_io (p := 15) (by decide))) (Eq.trans rdAnwa (z_A_20_0_15 e))) ?_
            refine x_goto (pc' := 29) rfl rfl ?_
            refine x_reti rfl rfl ?_
            refine sK_i (pc' := 58) rfl ?_
            refine x_istore (pc' := 60) (ls' := [_, _, _, _, _, _, _, _, _]) rfl rfl rfl rfl ?_
            refine x_iload (pc' := 62) rfl rfl rfl ?_
            refine x_iload (pc' := 64) rfl rfl rfl ?_
            refine x_aload_n (pc' := 65) rfl rfl rfl rfl rfl ?_
            refine x_iload (pc' := 67) rfl rfl rfl ?_
            refine x_iald (pc' := 68) (N := 6) (x := 0) rfl rfl rfl (sN_new (z_C_20 e)) (io_in (p := 0) (N := 6) (by decide) (by decide)) (Eq.trans (congrArg (sA (sNwA t 20 6) 20 7) (nn_io (p := 0) (by decide))) (Eq.trans rdAnwa (z_A_20_7_0 e))) ?_
            refine x_iadd (pc' := 69) (z := 0) rfl rfl (by decide) ?_
            refine x_ineg (pc' := 70) (z := 0) rfl rfl (by decide) ?_
            refine x_iload (pc' := 72) rfl rfl rfl ?_
            refine x_imul (pc' := 73) (z := 0) rfl rfl (by decide) ?_
            refine x_iload (pc' := 75) rfl rfl rfl ?_
            refine x_aload_n (pc' := 76) rfl rfl rfl rfl rfl ?_
            refine x_iload (pc' := 78) rfl rfl rfl ?_
            refine x_iconst (pc' := 79) rfl rfl ?_
            refine x_iadd (pc' := 80) (z := 3) rfl rfl (by decide) ?_
            refine x_iald (pc' := 81) (N := 6) (x := 0) rfl rfl rfl (sN_new (z_C_20 e)) (io_in (p := 3) (N := 6) (by decide) (by decide)) (Eq.trans (congrArg (sA (sNwA t 20 6) 20 7) (nn_io (p := 3) (by decide))) (Eq.trans rdAnwa (z_A_20_7_3 e))) ?_
            refine x_isub (pc' := 82) (z := 0) rfl rfl (by decide) ?_
            refine x_ineg (pc' := 83) (z := 0) rfl rfl (by decide) ?_
            refine x_iload (pc' := 85) rfl rfl rfl ?_
            refine x_imul (pc' := 86) (z := 0) rfl rfl (by decide) ?_
            refine x_max (pc' := 89) (z := 0) rfl rfl rfl (by decide) ?_
            refine x_iadd (pc' := 90) (z := 0) rfl rfl (by decide) ?_
            refine x_istore (pc' := 92) (ls' := [_, _, _, _, _, _, _, _, _]) rfl rfl rfl rfl ?_
            refine x_iinc (pc' := 95) (y := 1) (ls' := [_, _, _, _, _, _, _, _, _]) rfl rfl rfl rfl rfl ?_
            refine x_goto (pc' := 18) rfl rfl ?_
            refine x_iload (pc' := 20) rfl rfl rfl ?_
            refine x_aload_n (pc' := 21) rfl rfl rfl rfl rfl ?_
            refine x_gR (pc' := 24) (r := (some 0)) rfl rfl rfl (Eq.trans rdRnwa (z_R_320_0 e)) ?_
            refine x_alen (pc' := 25) (N := 3) rfl rfl rfl (Eq.trans (b := sN t _ _) rfl (z_N_25_0 e)) (?_ : X _ _ _ (.inl 3 :: _) _ _)
            refine x_icmp (a' := 98) (pc' := 28) (z := false) rfl rfl rfl (by decide) (fun h => by cases h) (fun _ => ?_)
            refine x_iload (pc' := 30) rfl rfl rfl ?_
            refine x_iconst (pc' := 31) rfl rfl ?_
            refine x_iadd (pc' := 32) (z := 4) rfl rfl (by decide) ?_
            refine x_aload_n (pc' := 33) rfl rfl rfl rfl rfl ?_
            refine x_alen (pc' := 34) (N := 6) rfl rfl rfl (sN_new (z_C_20 e)) (?_ : X _ _ _ (.inl 6 :: _) _ _)
            refine x_icmp (a' := 98) (pc' := 37) (z := false) rfl rfl rfl (by decide) (fun h => by cases h) (fun _ => ?_)
            refine x_aload_n (pc' := 38) rfl rfl rfl rfl rfl ?_
            refine x_aload_n (pc' := 39) rfl rfl rfl rfl rfl ?_
            refine x_gR (pc' := 42) (r := (some 0)) rfl rfl rfl (Eq.trans rdRnwa (z_R_320_0 e)) ?_
            refine x_iload (pc' := 44) rfl rfl rfl ?_
            refine x_aald (pc' := 45) (N := 3) (k' := 2) (r := (some 1)) rfl rfl rfl (Eq.trans (b := sN t _ _) rfl (z_N_25_0 e)) (io_in (p := 1) (N := 3) (by decide) (by decide)) (Eq.trans (congrArg (sE (sNwA t 20 6) 25 0) (nn_io (p := 1) (by decide))) (Eq.trans rdEnwa (z_E_25_0_1 e))) ?_
            refine x_cv (ls0 := [_, _, sJk]) (rest := []) rfl rfl rfl rfl rfl ?_
            refine x_aload_n (pc' := 1) rfl rfl rfl rfl rfl ?_
            refine x_gI (pc' := 4) (x := 1) rfl rfl rfl (Eq.trans rdInwa (z_I_128_1 e)) ?_
            refine x_istore_n (pc' := 5) (ls' := [_, _, _]) rfl rfl rfl rfl ?_
            refine x_iload_n (pc' := 6) rfl rfl rfl ?_
            refine x_if (a' := 27) (pc' := 9) (z := false) rfl rfl rfl (by decide) (fun h => by cases h) (fun _ => ?_)
            refine x_iload_n (pc' := 10) rfl rfl rfl ?_
            refine x_aload_n (pc' := 11) rfl rfl rfl rfl rfl ?_
            refine x_gR (pc' := 14) (r := (some (m + 1))) rfl rfl rfl (kMp (Cn_e e) hm).1 ?_
            refine x_alen (pc' := 15) (N := 3) rfl rfl rfl (kMp (Cn.nwa (Cn_e e)) hm).2.1 (?_ : X _ _ _ (.inl 3 :: _) _ _)
            refine x_icmp (a' := 27) (pc' := 18) (z := false) rfl rfl rfl (by decide) (fun h => by cases h) (fun _ => ?_)
            refine x_aload_n (pc' := 19) rfl rfl rfl rfl rfl ?_
            refine x_gR (pc' := 22) (r := (some (m + 1))) rfl rfl rfl (kMp (Cn_e e) hm).1 ?_
            refine x_iload_n (pc' := 23) rfl rfl rfl ?_
            refine x_iald (pc' := 24) (N := 3) (x := 0) rfl rfl rfl (kMp (Cn.nwa (Cn_e e)) hm).2.1 (io_in (p := 1) (N := 3) (by decide) (by decide)) (Eq.trans (congrArg (sA (sNwA t 20 6) 20 (m + 1)) (nn_io (p := 1) (by decide))) (Eq.trans rdAnwa (z_A_20_yy e _ _))) ?_
            refine x_goto (pc' := 28) rfl rfl ?_
            refine x_reti rfl rfl ?_
            refine sK_i (pc' := 48) rfl ?_
            refine x_istore (pc' := 50) (ls' := [_, _, _, _, _, _, _, _, _]) rfl rfl rfl rfl ?_
            refine x_aload_n (pc' := 51) rfl rfl rfl rfl rfl ?_
            refine x_iload (pc' := 53) rfl rfl rfl ?_
            refine x_iload (pc' := 55) rfl rfl rfl ?_
            refine x_cv (ls0 := [_, _, _, sJk]) (rest := []) rfl rfl rfl rfl rfl ?_
            refine x_iload_n (pc' := 1) rfl rfl rfl ?_
            refine x_iconst (pc' := 2) rfl rfl ?_
            refine x_imul (pc' := 3) (z := 15) rfl rfl (by decide) ?_
            refine x_iload_n (pc' := 4) rfl rfl rfl ?_
            refine x_iadd (pc' := 5) (z := 16) rfl rfl (by decide) ?_
            refine x_istore_n (pc' := 6) (ls' := [_, _, _, _]) rfl rfl rfl rfl ?_
            refine x_iload_n (pc' := 7) rfl rfl rfl ?_
            refine x_if (a' := 28) (pc' := 10) (z := false) rfl rfl rfl (by decide) (fun h => by cases h) (fun _ => ?_)
            refine x_iload_n (pc' := 11) rfl rfl rfl ?_
            refine x_aload_n (pc' := 12) rfl rfl rfl rfl rfl ?_
            refine x_gR (pc' := 15) (r := (some 0)) rfl rfl rfl (Eq.trans rdRnwa (z_R_323_0 e)) ?_
            refine x_alen (pc' := 16) (N := 18) rfl rfl rfl (kN_20_0 (Cn.nwa (Cn_e e))) (?_ : X _ _ _ (.inl 18 :: _) _ _)
            refine x_icmp (a' := 28) (pc' := 19) (z := false) rfl rfl rfl (by decide) (fun h => by cases h) (fun _ => ?_)
            refine x_aload_n (pc' := 20) rfl rfl rfl rfl rfl ?_
            refine x_gR (pc' := 23) (r := (some 0)) rfl rfl rfl (Eq.trans rdRnwa (z_R_323_0 e)) ?_
            refine x_iload_n (pc' := 24) rfl rfl rfl ?_
            refine x_iald (pc' := 25) (N := 18) (x := 0) rfl rfl rfl (kN_20_0 (Cn.nwa (Cn_e e))) (io_in (p := 16) (N := 18) (by decide) (by decide)) (Eq.trans (congrArg (sA (sNwA t 20 6) 20 0) (nn_io (p := 16) (by decide))) (Eq.trans rdAnwa (z_A_20_0_16 e))) ?_
            refine x_goto (pc' := 29) rfl rfl ?_
            refine x_reti rfl rfl ?_
            refine sK_i (pc' := 58) rfl ?_
            refine x_istore (pc' := 60) (ls' := [_, _, _, _, _, _, _, _, _]) rfl rfl rfl rfl ?_
            refine x_iload (pc' := 62) rfl rfl rfl ?_
            refine x_iload (pc' := 64) rfl rfl rfl ?_
            refine x_aload_n (pc' := 65) rfl rfl rfl rfl rfl ?_
            refine x_iload (pc' := 67) rfl rfl rfl ?_
            refine x_iald (pc' := 68) (N := 6) (x := 0) rfl rfl rfl (sN_new (z_C_20 e)) (io_in (p := 1) (N := 6) (by decide) (by decide)) (Eq.trans (congrArg (sA (sNwA t 20 6) 20 7) (nn_io (p := 1) (by decide))) (Eq.trans rdAnwa (z_A_20_7_1 e))) ?_
            refine x_iadd (pc' := 69) (z := 0) rfl rfl (by decide) ?_
            refine x_ineg (pc' := 70) (z := 0) rfl rfl (by decide) ?_
            refine x_iload (pc' := 72) rfl rfl rfl ?_
            refine x_imul (pc' := 73) (z := 0) rfl rfl (by decide) ?_
            refine x_iload (pc' := 75) rfl rfl rfl ?_
            refine x_aload_n (pc' := 76) rfl rfl rfl rfl rfl ?_
            refine x_iload (pc' := 78) rfl rfl rfl ?_
            refine x_iconst (pc' := 79) rfl rfl ?_
            refine x_iadd (pc' := 80) (z := 4) rfl rfl (by decide) ?_
            refine x_iald (pc' := 81) (N := 6) (x := 0) rfl rfl rfl (sN_new (z_C_20 e)) (io_in (p := 4) (N := 6) (by decide) (by decide)) (Eq.trans (congrArg (sA (sNwA t 20 6) 20 7) (nn_io (p := 4) (by decide))) (Eq.trans rdAnwa (z_A_20_7_4 e))) ?_
            refine x_isub (pc' := 82) (z := 0) rfl rfl (by decide) ?_
            refine x_ineg (pc' := 83) (z := 0) rfl rfl (by decide) ?_
            refine x_iload (pc' := 85) rfl rfl rfl ?_
            refine x_imul (pc' := 86) (z := 0) rfl rfl (by decide) ?_
            refine x_max (pc' := 89) (z := 0) rfl rfl rfl (by decide) ?_
            refine x_iadd (pc' := 90) (z := 0) rfl rfl (by decide) ?_
            refine x_istore (pc' := 92) (ls' := [_, _, _, _, _, _, _, _, _]) rfl rfl rfl rfl ?_
            refine x_iinc (pc' := 95) (y := 2) (ls' := [_, _, _, _, _, _, _, _, _]) rfl rfl rfl rfl rfl ?_
            refine x_goto (pc' := 18) rfl rfl ?_
            refine x_iload (pc' := 20) rfl rfl rfl ?_
            refine x_aload_n (pc' := 21) rfl rfl rfl rfl rfl ?_
            refine x_gR (pc' := 24) (r := (some 0)) rfl rfl rfl (Eq.trans rdRnwa (z_R_320_0 e)) ?_
            refine x_alen (pc' := 25) (N := 3) rfl rfl rfl (Eq.trans (b := sN t _ _) rfl (z_N_25_0 e)) (?_ : X _ _ _ (.inl 3 :: _) _ _)
            refine x_icmp (a' := 98) (pc' := 28) (z := false) rfl rfl rfl (by decide) (fun h => by cases h) (fun _ => ?_)
            refine x_iload (pc' := 30) rfl rfl rfl ?_
            refine x_iconst (pc' := 31) rfl rfl ?_
            refine x_iadd (pc' := 32) (z := 5) rfl rfl (by decide) ?_
            refine x_aload_n (pc' := 33) rfl rfl rfl rfl rfl ?_
            refine x_alen (pc' := 34) (N := 6) rfl rfl rfl (sN_new (z_C_20 e)) (?_ : X _ _ _ (.inl 6 :: _) _ _)
            refine x_icmp (a' := 98) (pc' := 37) (z := false) rfl rfl rfl (by decide) (fun h => by cases h) (fun _ => ?_)
            refine x_aload_n (pc' := 38) rfl rfl rfl rfl rfl ?_
            refine x_aload_n (pc' := 39) rfl rfl rfl rfl rfl ?_
            refine x_gR (pc' := 42) (r := (some 0)) rfl rfl rfl (Eq.trans rdRnwa (z_R_320_0 e)) ?_
            refine x_iload (pc' := 44) rfl rfl rfl ?_
            refine x_aald (pc' := 45) (N := 3) (k' := 2) (r := (some 2)) rfl rfl rfl (Eq.trans (b := sN t _ _) rfl (z_N_25_0 e)) (io_in (p := 2) (N := 3) (by decide) (by decide)) (Eq.trans (congrArg (sE (sNwA t 20 6) 25 0) (nn_io (p := 2) (by decide))) (Eq.trans rdEnwa (z_E_25_0_2 e))) ?_
            refine x_cv (ls0 := [_, _, sJk]) (rest := []) rfl rfl rfl rfl rfl ?_
            refine x_aload_n (pc' := 1) rfl rfl rfl rfl rfl ?_
            refine x_gI (pc' := 4) (x := 2) rfl rfl rfl (Eq.trans rdInwa (z_I_128_2 e)) ?_
            refine x_istore_n (pc' := 5) (ls' := [_, _, _]) rfl rfl rfl rfl ?_
            refine x_iload_n (pc' := 6) rfl rfl rfl ?_
            refine x_if (a' := 27) (pc' := 9) (z := false) rfl rfl rfl (by decide) (fun h => by cases h) (fun _ => ?_)
            refine x_iload_n (pc' := 10) rfl rfl rfl ?_
            refine x_aload_n (pc' := 11) rfl rfl rfl rfl rfl ?_
            refine x_gR (pc' := 14) (r := (some (m + 1))) rfl rfl rfl (kMp (Cn_e e) hm).1 ?_
            refine x_alen (pc' := 15) (N := 3) rfl rfl rfl (kMp (Cn.nwa (Cn_e e)) hm).2.1 (?_ : X _ _ _ (.inl 3 :: _) _ _)
            refine x_icmp (a' := 27) (pc' := 18) (z := false) rfl rfl rfl (by decide) (fun h => by cases h) (fun _ => ?_)
            refine x_aload_n (pc' := 19) rfl rfl rfl rfl rfl ?_
            refine x_gR (pc' := 22) (r := (some (m + 1))) rfl rfl rfl (kMp (Cn_e e) hm).1 ?_
            refine x_iload_n (pc' := 23) rfl rfl rfl ?_
            refine x_iald (pc' := 24) (N := 3) (x := 0) rfl rfl rfl (kMp (Cn.nwa (Cn_e e)) hm).2.1 (io_in (p := 2) (N := 3) (by decide) (by decide)) (Eq.trans (congrArg (sA (sNwA t 20 6) 20 (m + 1)) (nn_io (p := 2) (by decide))) (Eq.trans rdAnwa (z_A_20_yy e _ _))) ?_
            refine x_goto (pc' := 28) rfl rfl ?_
            refine x_reti rfl rfl ?_
            refine sK_i (pc' := 48) rfl ?_
            refine x_istore (pc' := 50) (ls' := [_, _, _, _, _, _, _, _, _]) rfl rfl rfl rfl ?_
            refine x_aload_n (pc' := 51) rfl rfl rfl rfl rfl ?_
            refine x_iload (pc' := 53) rfl rfl rfl ?_
            refine x_iload (pc' := 55) rfl rfl rfl ?_
            refine x_cv (ls0 := [_, _, _, sJk]) (rest := []) rfl rfl rfl rfl rfl ?_
            refine x_iload_n (pc' := 1) rfl rfl rfl ?_
            refine x_iconst (pc' := 2) rfl rfl ?_
            refine x_imul (pc' := 3) (z := 15) rfl rfl (by decide) ?_
            refine x_iload_n (pc' := 4) rfl rfl rfl ?_
            refine x_iadd (pc' := 5) (z := 17) rfl rfl (by decide) ?_
            refine x_istore_n (pc' := 6) (ls' := [_, _, _, _]) rfl rfl rfl rfl ?_
            refine x_iload_n (pc' := 7) rfl rfl rfl ?_
            refine x_if (a' := 28) (pc' := 10) (z := false) rfl rfl rfl (by decide) (fun h => by cases h) (fun _ => ?_)
            refine x_iload_n (pc' := 11) rfl rfl rfl ?_
            refine x_aload_n (pc' := 12) rfl rfl rfl rfl rfl ?_
            refine x_gR (pc' := 15) (r := (some 0)) rfl rfl rfl (Eq.trans rdRnwa (z_R_323_0 e)) ?_
            refine x_alen (pc' := 16) (N := 18) rfl rfl rfl (kN_20_0 (Cn.nwa (Cn_e e))) (?_ : X _ _ _ (.inl 18 :: _) _ _)
            refine x_icmp (a' := 28) (pc' := 19) (z := false) rfl rfl rfl (by decide) (fun h => by cases h) (fun _ => ?_)
            refine x_aload_n (pc' := 20) rfl rfl rfl rfl rfl ?_
            refine x_gR (pc' := 23) (r := (some 0)) rfl rfl rfl (Eq.trans rdRnwa (z_R_323_0 e)) ?_
            refine x_iload_n (pc' := 24) rfl rfl rfl ?_
            refine x_iald (pc' := 25) (N := 18) (x := 0) rfl rfl rfl (kN_20_0 (Cn.nwa (Cn_e e))) (io_in (p := 17) (N := 18) (by decide) (by decide)) (Eq.trans (congrArg (sA (sNwA t 20 6) 20 0) (nn_io (p := 17) (by decide))) (Eq.trans rdAnwa (z_A_20_0_17 e))) ?_
            refine x_goto (pc' := 29) rfl rfl ?_
            refine x_reti rfl rfl ?_
            refine sK_i (pc' := 58) rfl ?_
            refine x_istore (pc' := 60) (ls' := [_, _, _, _, _, _, _, _, _]) rfl rfl rfl rfl ?_
            refine x_iload (pc' := 62) rfl rfl rfl ?_
            refine x_iload (pc' := 64) rfl rfl rfl ?_
            refine x_aload_n (pc' := 65) rfl rfl rfl rfl rfl ?_
            refine x_iload (pc' := 67) rfl rfl rfl ?_
            refine x_iald (pc' := 68) (N := 6) (x := 0) rfl rfl rfl (sN_new (z_C_20 e)) (io_in (p := 2) (N := 6) (by decide) (by decide)) (Eq.trans (congrArg (sA (sNwA t 20 6) 20 7) (nn_io (p := 2) (by decide))) (Eq.trans rdAnwa (z_A_20_7_2 e))) ?_
            refine x_iadd (pc' := 69) (z := 0) rfl rfl (by decide) ?_
            refine x_ineg (pc' := 70) (z := 0) rfl rfl (by decide) ?_
            refine x_iload (pc' := 72) rfl rfl rfl ?_
            refine x_imul (pc' := 73) (z := 0) rfl rfl (by decide) ?_
            refine x_iload (pc' := 75) rfl rfl rfl ?_
            refine x_aload_n (pc' := 76) rfl rfl rfl rfl rfl ?_
            refine x_iload (pc' := 78) rfl rfl rfl ?_
            refine x_iconst (pc' := 79) rfl rfl ?_
            refine x_iadd (pc' := 80) (z := 5) rfl rfl (by decide) ?_
            refine x_iald (pc' := 81) (N := 6) (x := 0) rfl rfl rfl (sN_new (z_C_20 e)) (io_in (p := 5) (N := 6) (by decide) (by decide)) (Eq.trans (congrArg (sA (sNwA t 20 6) 20 7) (nn_io (p := 5) (by decide))) (Eq.trans rdAnwa (z_A_20_7_5 e))) ?_
            refine x_isub (pc' := 82) (z := 0) rfl rfl (by decide) ?_
            refine x_ineg (pc' := 83) (z := 0) rfl rfl (by decide) ?_
            refine x_iload (pc' := 85) rfl rfl rfl ?_
            refine x_imul (pc' := 86) (z := 0) rfl rfl (by decide) ?_
            refine x_max (pc' := 89) (z := 0) rfl rfl rfl (by decide) ?_
            refine x_iadd (pc' := 90) (z := 0) rfl rfl (by decide) ?_
            refine x_istore (pc' := 92) (ls' := [_, _, _, _, _, _, _, _, _]) rfl rfl rfl rfl ?_
            refine x_iinc (pc' := 95) (y := 3) (ls' := [_, _, _, _, _, _, _, _, _]) rfl rfl rfl rfl rfl ?_
            refine x_goto (pc' := 18) rfl rfl ?_
            refine x_iload (pc' := 20) rfl rfl rfl ?_
            refine x_aload_n (pc' := 21) rfl rfl rfl rfl rfl ?_
            refine x_gR (pc' := 24) (r := (some 0)) rfl rfl rfl (Eq.trans rdRnwa (z_R_320_0 e)) ?_
            refine x_alen (pc' := 25) (N := 3) rfl rfl rfl (Eq.trans (b := sN t _ _) rfl (z_N_25_0 e)) (?_ : X _ _ _ (.inl 3 :: _) _ _)
            refine x_icmp (a' := 98) (pc' := 28) (z := true) rfl rfl rfl (by decide) (fun _ => ?_) (fun h => by cases h)
            refine x_iload_n (pc' := 99) rfl rfl rfl ?_
            refine x_iload (pc' := 101) rfl rfl rfl ?_
            refine x_max (pc' := 104) (z := 0) rfl rfl rfl (by decide) ?_
            refine x_istore_n (pc' := 105) (ls' := [_, _, _, _, _, _, _, _, _]) rfl rfl rfl rfl ?_
            refine x_iinc (pc' := 108) (y := 6) (ls' := [_, _, _, _, _, _, _, _, _]) rfl rfl rfl rfl rfl ?_
            refine x_goto (pc' := 5) rfl rfl ?_
            refine x_iload (pc' := 7) rfl rfl rfl ?_
            refine x_bipush (pc' := 9) rfl rfl ?_
            refine x_icmp (a' := 111) (pc' := 12) (z := true) rfl rfl rfl (by decide) (fun _ => ?_) (fun h => by cases h)
            refine x_iload_n (pc' := 112) rfl rfl rfl ?_
            refine x_reti rfl rfl ?_
            refine sK_i (pc' := 17) rfl ?_
            refine x_reti rfl rfl ?_
            refine sK_i (pc' := 58) rfl ?_
            refine x_aload_n (pc' := 59) rfl rfl rfl rfl rfl ?_
            refine x_gR (pc' := 62) (r := (some 0)) rfl rfl rfl (Eq.trans rdRnwa (z_R_704_0 e)) ?_
            refine x_aload_n (pc' := 63) rfl rfl rfl rfl rfl ?_
            refine x_cv (ls0 := [_, _, sJk, sJk, sJk, sJk, sJk]) (rest := [_]) rfl rfl rfl rfl rfl ?_
            refine x_aload_n (pc' := 1) rfl rfl rfl rfl rfl ?_
            refine x_gI (pc' := 4) (x := 0) rfl rfl rfl (Eq.trans rdInwa (z_I_450_y e _)) ?_
            refine x_aload_n (pc' := 5) rfl rfl rfl rfl rfl ?_
            refine x_gI (pc' := 8) (x := 0) rfl rfl rfl (Eq.trans rdInwa (z_I_451_y e _)) ?_
            refine x_iadd (pc' := 9) (z := 0) rfl rfl (by decide) ?_
            refine x_istore_n (pc' := 10) (ls' := [_, _, _, _, _, _, _]) rfl rfl rfl rfl ?_
            refine x_aload_n (pc' := 11) rfl rfl rfl rfl rfl ?_
            refine x_gR (pc' := 14) (r := (some 0)) rfl rfl rfl (Eq.trans rdRnwa (z_R_320_0 e)) ?_
            refine x_astore_n (pc' := 15) (ls' := [_, _, _, _, _, _, _]) rfl rfl rfl rfl rfl ?_
            refine x_aload_n (pc' := 16) rfl rfl rfl rfl rfl ?_
            refine x_alen (pc' := 17) (N := 3) rfl rfl rfl (Eq.trans (b := sN t _ _) rfl (z_N_25_0 e)) (?_ : X _ _ _ (.inl 3 :: _) _ _)
            refine x_istore (pc' := 19) (ls' := [_, _, _, _, _, _, _]) rfl rfl rfl rfl ?_
            refine x_iconst (pc' := 20) rfl rfl ?_
            refine x_istore (pc' := 22) (ls' := [_, _, _, _, _, _, _]) rfl rfl rfl rfl ?_
            refine x_iload (pc' := 24) rfl rfl rfl ?_
            refine x_iload (pc' := 26) rfl rfl rfl ?_
            refine x_icmp (a' := 56) (pc' := 29) (z := false) rfl rfl rfl (by decide) (fun h => by cases h) (fun _ => ?_)
            refine x_aload_n (pc' := 30) rfl rfl rfl rfl rfl ?_
            refine x_iload (pc' := 32) rfl rfl rfl ?_
            refine x_aald (pc' := 33) (N := 3) (k' := 2) (r := (some 0)) rfl rfl rfl (Eq.trans (b := sN t _ _) rfl (z_N_25_0 e)) (io_in (p := 0) (N := 3) (by decide) (by decide)) (Eq.trans (congrArg (sE (sNwA t 20 6) 25 0) (nn_io (p := 0) (by decide))) (Eq.trans rdEnwa (z_E_25_0_0 e))) ?_
            refine x_astore (pc' := 35) (ls' := [_, _, _, _, _, _, _]) rfl rfl rfl rfl rfl ?_
            refine x_iload_n (pc' := 36) rfl rfl rfl ?_
            refine x_aload_n (pc' := 37) rfl rfl rfl rfl rfl ?_
            refine x_aload (pc' := 39) rfl rfl rfl rfl rfl ?_
            refine x_cv (ls0 := [_, _, sJk]) (rest := [_]) rfl rfl rfl rfl rfl ?_
            refine x_aload_n (pc' := 1) rfl rfl rfl rfl rfl ?_
            refine x_gI (pc' := 4) (x := 0) rfl rfl rfl (Eq.trans rdInwa (z_I_128_0 e)) ?_
            refine x_istore_n (pc' := 5) (ls' := [_, _, _]) rfl rfl rfl rfl ?_
            refine x_iload_n (pc' := 6) rfl rfl rfl ?_
            refine x_if (a' := 27) (pc' := 9) (z := false) rfl rfl rfl (by decide) (fun h => by cases h) (fun _ => ?_)
            refine x_iload_n (pc' := 10) rfl rfl rfl ?_
            refine x_aload_n (pc' := 11) rfl rfl rfl rfl rfl ?_
            refine x_gR (pc' := 14) (r := (some (m + 1))) rfl rfl rfl (kMp (Cn_e e) hm).1 ?_
            refine x_alen (pc' := 15) (N := 3) rfl rfl rfl (kMp (Cn.nwa (Cn_e e)) hm).2.1 (?_ : X _ _ _ (.inl 3 :: _) _ _)
            refine x_icmp (a' := 27) (pc' := 18) (z := false) rfl rfl rfl (by decide) (fun h => by cases h) (fun _ => ?_)
            refine x_aload_n (pc' := 19) rfl rfl rfl rfl rfl ?_
            refine x_gR (pc' := 22) (r := (some (m + 1))) rfl rfl rfl (kMp (Cn_e e) hm).1 ?_
            refine x_iload_n (pc' := 23) rfl rfl rfl ?_
            refine x_iald (pc' := 24) (N := 3) (x := 0) rfl rfl rfl (kMp (Cn.nwa (Cn_e e)) hm).2.1 (io_in (p := 0) (N := 3) (by decide) (by decide)) (Eq.trans (congrArg (sA (sNwA t 20 6) 20 (m + 1)) (nn_io (p := 0) (by decide))) (Eq.trans rdAnwa (z_A_20_yy e _ _))) ?_
            refine x_goto (pc' := 28) rfl rfl ?_
            refine x_reti rfl rfl ?_
            refine sK_i (pc' := 42) rfl ?_
            refine x_aload (pc' := 44) rfl rfl rfl rfl rfl ?_
            refine x_gI (pc' := 47) (x := 100) rfl rfl rfl (Eq.trans rdInwa (z_I_129_0 e)) ?_
            refine x_imul (pc' := 48) (z := 0) rfl rfl (by decide) ?_
            refine x_iadd (pc' := 49) (z := 0) rfl rfl (by decide) ?_
            refine x_istore_n (pc' := 50) (ls' := [_, _, _, _, _, _, _]) rfl rfl rfl rfl ?_
            refine x_iinc (pc' := 53) (y := 1) (ls' := [_, _, _, _, _, _, _]) rfl rfl rfl rfl rfl ?_
            refine x_goto (pc' := 22) rfl rfl ?_
            refine x_iload (pc' := 24) rfl rfl rfl ?_
            refine x_iload (pc' := 26) rfl rfl rfl ?_
            refine x_icmp (a' := 56) (pc' := 29) (z := false) rfl rfl rfl (by decide) (fun h => by cases h) (fun _ => ?_)
            refine x_aload_n (pc' := 30) rfl rfl rfl rfl rfl ?_
            refine x_iload (pc' := 32) rfl rfl rfl ?_
            refine x_aald (pc' := 33) (N := 3) (k' := 2) (r := (some 1)) rfl rfl rfl (Eq.trans (b := sN t _ _) rfl (z_N_25_0 e)) (io_in (p := 1) (N := 3) (by decide) (by decide)) (Eq.trans (congrArg (sE (sNwA t 20 6) 25 0) (nn_io (p := 1) (by decide))) (Eq.trans rdEnwa (z_E_25_0_1 e))) ?_
            refine x_astore (pc' := 35) (ls' := [_, _, _, _, _, _, _]) rfl rfl rfl rfl rfl ?_
            refine x_iload_n (pc' := 36) rfl rfl rfl ?_
            refine x_aload_n (pc' := 37) rfl rfl rfl rfl rfl ?_
            refine x_aload (pc' := 39) rfl rfl rfl rfl rfl ?_
            refine x_cv (ls0 := [_, _, sJk]) (rest := [_]) rfl rfl rfl rfl rfl ?_
            refine x_aload_n (pc' := 1) rfl rfl rfl rfl rfl ?_
            refine x_gI (pc' := 4) (x := 1) rfl rfl rfl (Eq.trans rdInwa (z_I_128_1 e)) ?_
            refine x_istore_n (pc' := 5) (ls' := [_, _, _]) rfl rfl rfl rfl ?_
            refine x_iload_n (pc' := 6) rfl rfl rfl ?_
            refine x_if (a' := 27) (pc' := 9) (z := false) rfl rfl rfl (by decide) (fun h => by cases h) (fun _ => ?_)
            refine x_iload_n (pc' := 10) rfl rfl rfl ?_
            refine x_aload_n (pc' := 11) rfl rfl rfl rfl rfl ?_
            refine x_gR (pc' := 14) (r := (some (m + 1))) rfl rfl rfl (kMp (Cn_e e) hm).1 ?_
            refine x_alen (pc' := 15) (N := 3) rfl rfl rfl (kMp (Cn.nwa (Cn_e e)) hm).2.1 (?_ : X _ _ _ (.inl 3 :: _) _ _)
            refine x_icmp (a' := 27) (pc' := 18) (z := false) rfl rfl rfl (by decide) (fun h => by cases h) (fun _ => ?_)
            refine x_aload_n (pc' := 19) rfl rfl rfl rfl rfl ?_
            refine x_gR (pc' := 22) (r := (some (m + 1))) rfl rfl rfl (kMp (Cn_e e) hm).1 ?_
            refine x_iload_n (pc' := 23) rfl rfl rfl ?_
            refine x_iald (pc' := 24) (N := 3) (x := 0) rfl rfl rfl (kMp (Cn.nwa (Cn_e e)) hm).2.1 (io_in (p := 1) (N := 3) (by decide) (by decide)) (Eq.trans (congrArg (sA (sNwA t 20 6) 20 (m + 1)) (nn_io (p := 1) (by decide))) (Eq.trans rdAnwa (z_A_20_yy e _ _))) ?_
            refine x_goto (pc' := 28) rfl rfl ?_
            refine x_reti rfl rfl ?_
            refine sK_i (pc' := 42) rfl ?_
            refine x_aload (pc' := 44) rfl rfl rfl rfl rfl ?_
            refine x_gI (pc' := 47) (x := 100) rfl rfl rfl (Eq.trans rdInwa (z_I_129_1 e)) ?_
            refine x_imul (pc' := 48) (z := 0) rfl rfl (by decide) ?_
            refine x_iadd (pc' := 49) (z := 0) rfl rfl (by decide) ?_
            refine x_istore_n (pc' := 50) (ls' := [_, _, _, _, _, _, _]) rfl rfl rfl rfl ?_
            refine x_iinc (pc' := 53) (y := 2) (ls' := [_, _, _, _, _, _, _]) rfl rfl rfl rfl rfl ?_
            refine x_goto (pc' := 22) rfl rfl ?_
            refine x_iload (pc' := 24) rfl rfl rfl ?_
            refine x_iload (pc' := 26) rfl rfl rfl ?_
            refine x_icmp (a' := 56) (pc' := 29) (z := false) rfl rfl rfl (by decide) (fun h => by cases h) (fun _ => ?_)
            refine x_aload_n (pc' := 30) rfl rfl rfl rfl rfl ?_
            refine x_iload (pc' := 32) rfl rfl rfl ?_
            refine x_aald (pc' := 33) (N := 3) (k' := 2) (r := (some 2)) rfl rfl rfl (Eq.trans (b := sN t _ _) rfl (z_N_25_0 e)) (io_in (p := 2) (N := 3) (by decide) (by decide)) (Eq.trans (congrArg (sE (sNwA t 20 6) 25 0) (nn_io (p := 2) (by decide))) (Eq.trans rdEnwa (z_E_25_0_2 e))) ?_
            refine x_astore (pc' := 35) (ls' := [_, _, _, _, _, _, _]) rfl rfl rfl rfl rfl ?_
            refine x_iload_n (pc' := 36) rfl rfl rfl ?_
            refine x_aload_n (pc' := 37) rfl rfl rfl rfl rfl ?_
            refine x_aload (pc' := 39) rfl rfl rfl rfl rfl ?_
            refine x_cv (ls0 := [_, _, sJk]) (rest := [_]) rfl rfl rfl rfl rfl ?_
            refine x_aload_n (pc' := 1) rfl rfl rfl rfl rfl ?_
            refine x_gI (pc' := 4) (x := 2) rfl rfl rfl (Eq.trans rdInwa (z_I_128_2 e)) ?_
            refine x_istore_n (pc' := 5) (ls' := [_, _, _]) rfl rfl rfl rfl ?_
            refine x_iload_n (pc' := 6) rfl rfl rfl ?_
            refine x_if (a' := 27) (pc' := 9) (z := false) rfl rfl rfl (by decide) (fun h => by cases h) (fun _ => ?_)
            refine x_iload_n (pc' := 10) rfl rfl rfl ?_
            refine x_aload_n (pc' := 11) rfl rfl rfl rfl rfl ?_
            refine x_gR (pc' := 14) (r := (some (m + 1))) rfl rfl rfl (kMp (Cn_e e) hm).1 ?_
            refine x_alen (pc' := 15) (N := 3) rfl rfl rfl (kMp (Cn.nwa (Cn_e e)) hm).2.1 (?_ : X _ _ _ (.inl 3 :: _) _ _)
            refine x_icmp (a' := 27) (pc' := 18) (z := false) rfl rfl rfl (by decide) (fun h => by cases h) (fun _ => ?_)
            refine x_aload_n (pc' := 19) rfl rfl rfl rfl rfl ?_
            refine x_gR (pc' := 22) (r := (some (m + 1))) rfl rfl rfl (kMp (Cn_e e) hm).1 ?_
            refine x_iload_n (pc' := 23) rfl rfl rfl ?_
            refine x_iald (pc' := 24) (N := 3) (x := 0) rfl rfl rfl (kMp (Cn.nwa (Cn_e e)) hm).2.1 (io_in (p := 2) (N := 3) (by decide) (by decide)) (Eq.trans (congrArg (sA (sNwA t 20 6) 20 (m + 1)) (nn_io (p := 2) (by decide))) (Eq.trans rdAnwa (z_A_20_yy e _ _))) ?_
            refine x_goto (pc' := 28) rfl rfl ?_
            refine x_reti rfl rfl ?_
            refine sK_i (pc' := 42) rfl ?_
            refine x_aload (pc' := 44) rfl rfl rfl rfl rfl ?_
            refine x_gI (pc' := 47) (x := 100) rfl rfl rfl (Eq.trans rdInwa (z_I_129_2 e)) ?_
            refine x_imul (pc' := 48) (z := 0) rfl rfl (by decide) ?_
            refine x_iadd (pc' := 49) (z := 0) rfl rfl (by decide) ?_
            refine x_istore_n (pc' := 50) (ls' := [_, _, _, _, _, _, _]) rfl rfl rfl rfl ?_
            refine x_iinc (pc' := 53) (y := 3) (ls' := [_, _, _, _, _, _, _]) rfl rfl rfl rfl rfl ?_
            refine x_goto (pc' := 22) rfl rfl ?_
            refine x_iload (pc' := 24) rfl rfl rfl ?_
            refine x_iload (pc' := 26) rfl rfl rfl ?_
            refine x_icmp (a' := 56) (pc' := 29) (z := true) rfl rfl rfl (by decide) (fun _ => ?_) (fun h => by cases h)
            refine x_iload_n (pc' := 57) rfl rfl rfl ?_
            refine x_reti rfl rfl ?_
            refine sK_i (pc' := 66) rfl ?_
            refine x_iload_n (pc' := 67) rfl rfl rfl ?_
            refine x_iadd (pc' := 68) (z := (xs 2)) rfl rfl (Int32.zero_add _) ?_
            refine x_icmp (a' := 75) (pc' := 71) (z := decide ((xs 2) < 0)) rfl rfl rfl rfl (fun _ => ?_) (fun h => absurd (of_decide_eq_true q24) (of_decide_eq_false h))
            refine x_iconst (pc' := 76) rfl rfl ?_
            refine x_cs (ls0 := [_]) (rest := []) rfl rfl rfl rfl ?_
            refine x_iload_n (pc' := 1) rfl rfl rfl ?_
            refine x_if (a' := 15) (pc' := 4) (z := false) rfl rfl rfl (by decide) (fun h => by cases h) (fun _ => ?_)
            refine x_throw rfl rfl ?_
            refine sK_n (by decide +kernel) rfl ?_
            refine sK_h (h := 21) (by decide +kernel) rfl ?_
            refine x_catch (pc' := 23) (ls' := [_, _, _, _, _]) rfl rfl rfl rfl ?_
            refine x_iconst (pc' := 24) rfl rfl ?_
            refine x_reti rfl rfl ?_
            refine sK_i (pc' := 560) rfl ?_
            refine x_istore (pc' := 562) (ls' := [_, _, _, _, _, _, _]) rfl rfl rfl rfl ?_
            refine x_aload_n (pc' := 563) rfl rfl rfl rfl rfl ?_
            refine x_aload_n (pc' := 564) rfl rfl rfl rfl rfl ?_
            refine x_iload (pc' := 566) rfl rfl rfl ?_
            refine x_iconst (pc' := 567) rfl rfl ?_
            refine x_iadd (pc' := 568) (z := 1) rfl rfl (by decide) ?_
            refine x_iald (pc' := 569) (N := 7) (x := (io m)) rfl rfl rfl (Eq.trans (b := sN t _ _) rfl (z_N_29_0 e)) (io_in (p := 1) (N := 7) (by decide) (by decide)) (Eq.trans (congrArg (sA (sThr (sNwA t 20 6)) 29 0) (nn_io (p := 1) (by decide))) (Eq.trans rdAthr (Eq.trans rdAnwa (Eq.trans (z_A_29_0_1 e) e0)))) ?_
            refine x_aload_n (pc' := 570) rfl rfl rfl rfl rfl ?_
            refine x_iload (pc' := 572) rfl rfl rfl ?_
            refine x_iconst (pc' := 573) rfl rfl ?_
            refine x_iadd (pc' := 574) (z := 2) rfl rfl (by decide) ?_
            refine x_iald (pc' := 575) (N := 7) (x := (xs 2)) rfl rfl rfl (Eq.trans (b := sN t _ _) rfl (z_N_29_0 e)) (io_in (p := 2) (N := 7) (by decide) (by decide)) (Eq.trans (congrArg (sA (sThr (sNwA t 20 6)) 29 0) (nn_io (p := 2) (by decide))) (Eq.trans rdAthr (Eq.trans rdAnwa (z_A_29_0_2 e)))) ?_
            refine x_cv (ls0 := [_, _, _, sJk, sJk, sJk]) (rest := []) rfl rfl rfl rfl rfl ?_
            refine x_iload_n (pc' := 1) rfl rfl rfl ?_
            refine x_cs (ls0 := [_]) (rest := []) rfl rfl rfl rfl ?_
            refine x_iload_n (pc' := 1) rfl rfl rfl ?_
            refine x_iconst (pc' := 2) rfl rfl ?_
            refine x_iconst (pc' := 3) rfl rfl ?_
            refine x_cs (ls0 := [_, _, _]) (rest := []) rfl rfl rfl rfl ?_
            refine x_iload_n (pc' := 1) rfl rfl rfl ?_
            refine x_iload_n (pc' := 2) rfl rfl rfl ?_
            refine x_icmp (a' := 14) (pc' := 5) (z := decide (m < 0)) rfl rfl rfl (ic_lt (p := m) (q := 0) (Nat.lt_trans hm (by decide)) (by decide)) (fun h => absurd (of_decide_eq_true h) (by first | decide | omega | simp)) (fun _ => ?_)
            refine x_iload_n (pc' := 6) rfl rfl rfl ?_
            refine x_iload_n (pc' := 7) rfl rfl rfl ?_
            refine x_icmp (a' := 14) (pc' := 10) (z := decide (5 < m)) rfl rfl rfl (ic_gt (p := m) (q := 5) (Nat.lt_trans hm (by decide)) (by decide)) (fun h => absurd (of_decide_eq_true h) (fun z => absurd hm (Nat.not_lt.mpr z))) (fun _ => ?_)
            refine x_iconst (pc' := 11) rfl rfl ?_
            refine x_goto (pc' := 15) rfl rfl ?_
            refine x_retz (z := true) rfl rfl ?_
            refine sK_i (pc' := 6) rfl ?_
            refine x_retz (z := true) rfl rfl ?_
            refine sK_i (pc' := 4) rfl ?_
            refine x_istore_n (pc' := 5) (ls' := [_, _, _, _, _, _]) rfl rfl rfl rfl ?_
            refine x_iload_n (pc' := 6) rfl rfl rfl ?_
            refine x_ldc_w (pc' := 9) rfl rfl ?_
            refine x_ldc_w (pc' := 12) rfl rfl ?_
            refine x_cs (ls0 := [_, _, _]) (rest := []) rfl rfl rfl rfl ?_
            refine x_iload_n (pc' := 1) rfl rfl rfl ?_
            refine x_iload_n (pc' := 2) rfl rfl rfl ?_
            refine x_icmp (a' := 14) (pc' := 5) (z := decide ((xs 2) < (-1000000))) rfl rfl rfl rfl (fun h => absurd (of_decide_eq_true h) (of_decide_eq_false q5)) (fun _ => ?_)
            refine x_iload_n (pc' := 6) rfl rfl rfl ?_
            refine x_iload_n (pc' := 7) rfl rfl rfl ?_
            refine x_icmp (a' := 14) (pc' := 10) (z := decide (1000000 < (xs 2))) rfl rfl rfl rfl (fun h => absurd (of_decide_eq_true h) (of_decide_eq_false q18)) (fun _ => ?_)
            refine x_iconst (pc' := 11) rfl rfl ?_
            refine x_goto (pc' := 15) rfl rfl ?_
            refine x_retz (z := true) rfl rfl ?_
            refine sK_i (pc' := 15) rfl ?_
            refine x_istore (pc' := 17) (ls' := [_, _, _, _, _, _]) rfl rfl rfl rfl ?_
            refine x_iload_n (pc' := 18) rfl rfl rfl ?_
            refine x_if (a' := 76) (pc' := 21) (z := false) rfl rfl rfl (by decide) (fun h => by cases h) (fun _ => ?_)
            refine x_iload (pc' := 23) rfl rfl rfl ?_
            refine x_if (a' := 76) (pc' := 26) (z := false) rfl rfl rfl (by decide) (fun h => by cases h) (fun _ => ?_)
            refine x_aload_n (pc' := 27) rfl rfl rfl rfl rfl ?_
            refine x_gR (pc' := 30) (r := (some 2)) rfl rfl rfl (Eq.trans rdRthr (Eq.trans rdRnwa (z_R_781_0 e))) ?_
            refine x_iload_n (pc' := 31) rfl rfl rfl ?_
            refine x_bald (pc' := 32) (N := 6) (z := false) rfl rfl (Eq.trans (b := sN t _ _) rfl (z_N_22_2 e)) (io_in (p := m) (N := 6) hm (by decide)) (Eq.trans (congrArg (sB (sThr (sNwA t 20 6)) 22 2) (nn_io (p := m) (Nat.lt_trans hm (by decide)))) (Eq.trans rdBthr (Eq.trans rdBnwa (z_B_22_2_y e _)))) ?_
            refine x_if (a' := 76) (pc' := 35) (z := false) rfl rfl rfl (by decide) (fun h => by cases h) (fun _ => ?_)
            refine x_aload_n (pc' := 36) rfl rfl rfl rfl rfl ?_
            refine x_gR (pc' := 39) (r := (some 4)) rfl rfl rfl (Eq.trans rdRthr (Eq.trans rdRnwa (z_R_774_0 e))) ?_
            refine x_iload_n (pc' := 40) rfl rfl rfl ?_
            refine x_iald (pc' := 41) (N := 6) (x := 0) rfl rfl rfl (Eq.trans (b := sN t _ _) rfl (z_N_21_4 e)) (io_in (p := m) (N := 6) hm (by decide)) (Eq.trans (congrArg (sA (sThr (sNwA t 20 6)) 21 4) (nn_io (p := m) (Nat.lt_trans hm (by decide)))) (Eq.trans rdAthr (Eq.trans rdAnwa (z_A_21_4_y e _)))) ?_
            refine x_iload_n (pc' := 42) rfl rfl rfl ?_
            refine x_iadd (pc' := 43) (z := (xs 2)) rfl rfl (Int32.zero_add _) ?_
            refine x_iconst (pc' := 44) rfl rfl ?_
            refine x_ldc_w (pc' := 47) rfl rfl ?_
            refine x_cs (ls0 := [_, _, _]) (rest := []) rfl rfl rfl rfl ?_
            refine x_iload_n (pc' := 1) rfl rfl rfl ?_
            refine x_iload_n (pc' := 2) rfl rfl rfl ?_
            refine x_icmp (a' := 14) (pc' := 5) (z := decide ((xs 2) < 0)) rfl rfl rfl rfl (fun _ => ?_) (fun h => absurd (of_decide_eq_true q24) (of_decide_eq_false h))
            refine x_iconst (pc' := 15) rfl rfl ?_
            refine x_retz (z := false) rfl rfl ?_
            refine sK_i (pc' := 50) rfl ?_
            refine x_if (a' := 76) (pc' := 53) (z := true) rfl rfl rfl (by decide) (fun _ => ?_) (fun h => by cases h)
            refine x_iconst (pc' := 77) rfl rfl ?_
            refine x_istore (pc' := 79) (ls' := [_, _, _, _, _, _]) rfl rfl rfl rfl ?_
            refine x_aload_n (pc' := 80) rfl rfl rfl rfl rfl ?_
            refine x_iload_n (pc' := 81) rfl rfl rfl ?_
            refine x_if (a' := 88) (pc' := 84) (z := true) rfl rfl rfl (by decide) (fun _ => ?_) (fun h => by cases h)
            refine x_iload (pc' := 90) rfl rfl rfl ?_
            refine x_if (a' := 97) (pc' := 93) (z := true) rfl rfl rfl (by decide) (fun _ => ?_) (fun h => by cases h)
            refine x_iload (pc' := 99) rfl rfl rfl ?_
            refine x_if (a' := 106) (pc' := 102) (z := true) rfl rfl rfl (by decide) (fun _ => ?_) (fun h => by cases h)
            refine x_iconst (pc' := 107) rfl rfl ?_
            refine x_cv (ls0 := [_, _]) (rest := []) rfl rfl rfl rfl rfl ?_
            refine x_aload_n (pc' := 1) rfl rfl rfl rfl rfl ?_
            refine x_iload_n (pc' := 2) rfl rfl rfl ?_
            refine x_pI (pc' := 5) rfl rfl rfl ?_
            refine x_iload_n (pc' := 6) rfl rfl rfl ?_
            refine x_if (a' := 13) (pc' := 9) (z := true) rfl rfl rfl (by decide) (fun _ => ?_) (fun h => by cases h)
            refine x_iconst (pc' := 14) rfl rfl ?_
            refine x_retz (z := false) rfl rfl ?_
            refine sK_i (pc' := 110) rfl ?_
            refine x_if (a' := 115) (pc' := 113) (z := false) rfl rfl rfl (by decide) (fun h => by cases h) (fun _ => ?_)
            refine x_iconst (pc' := 114) rfl rfl ?_
            refine x_reti rfl rfl ?_
            refine sK_i (pc' := 578) rfl ?_
            refine x_istore (pc' := 580) (ls' := [_, _, _, _, _, _, _]) rfl rfl rfl rfl ?_
            refine x_aload_n (pc' := 581) rfl rfl rfl rfl rfl ?_
            refine x_cv (ls0 := [_]) (rest := []) rfl rfl rfl rfl rfl ?_
            refine x_aload_n (pc' := 1) rfl rfl rfl rfl rfl ?_
            refine x_gI (pc' := 4) (x := 3) rfl rfl rfl sI_s ?_
            refine x_reti rfl rfl ?_
            refine sK_i (pc' := 584) rfl ?_
            refine x_iload (pc' := 586) rfl rfl rfl ?_
            refine x_icmp (a' := 591) (pc' := 589) (z := true) rfl rfl rfl (by decide) (fun _ => ?_) (fun h => by cases h)
            refine x_iload (pc' := 593) rfl rfl rfl ?_
            refine x_if (a' := 608) (pc' := 596) (z := true) rfl rfl rfl (by decide) (fun _ => ?_) (fun h => by cases h)
            refine x_goto (pc' := 2938) rfl rfl ?_
            refine x_iinc (pc' := 2941) (y := 7) (ls' := [_, _, _, _, _, _, _]) rfl rfl rfl rfl rfl ?_
            refine x_goto (pc' := 23) rfl rfl ?_
            refine x_iload (pc' := 25) rfl rfl rfl ?_
            refine x_aload_n (pc' := 26) rfl rfl rfl rfl rfl ?_
            refine x_alen (pc' := 27) (N := 7) rfl rfl rfl (Eq.trans (b := sN t _ _) rfl (z_N_29_0 e)) (?_ : X _ _ _ (.inl 7 :: _) _ _)
            refine x_bipush (pc' := 29) rfl rfl ?_
            refine x_isub (pc' := 30) (z := 0) rfl rfl (by decide) ?_
            refine x_icmp (a' := 2944) (pc' := 33) (z := true) rfl rfl rfl (by decide) (fun _ => ?_) (fun h => by cases h)
            refine x_iconst (pc' := 2945) rfl rfl ?_
            refine x_retz (z := true) rfl rfl ?_
            exact Qp_ok e (p := 2) (q := 12) rfl rfl rfl rfl
        · refine x_throw rfl rfl ?_
          refine sK_n (by decide +kernel) rfl ?_
          refine sK_h (h := 21) (by decide +kernel) rfl ?_
          refine x_catch (pc' := 23) (ls' := [_, _, _, _, _]) rfl rfl rfl rfl ?_
          refine x_iconst (pc' := 24) rfl rfl ?_
          refine x_reti rfl rfl ?_
          refine sK_i (pc' := 560) rfl ?_
          refine x_istore (pc' := 562) (ls' := [_, _, _, _, _, _, _]) rfl rfl rfl rfl ?_
          refine x_aload_n (pc' := 563) rfl rfl rfl rfl rfl ?_
          refine x_aload_n (pc' := 564) rfl rfl rfl rfl rfl ?_
          refine x_iload (pc' := 566) rfl rfl rfl ?_
          refine x_iconst (pc' := 567) rfl rfl ?_
          refine x_iadd (pc' := 568) (z := 1) rfl rfl (by decide) ?_
          refine x_iald (pc' := 569) (N := 7) (x := (io m)) rfl rfl rfl (Eq.trans rdNthr (z_N_29_0 e)) (io_in (p := 1) (N := 7) (by decide) (by decide)) (Eq.trans (congrArg (sA (sThr t) 29 0) (nn_io (p := 1) (by decide))) (Eq.trans rdAthr (Eq.trans (z_A_29_0_1 e) e0))) ?_
          refine x_aload_n (pc' := 570) rfl rfl rfl rfl rfl ?_
          refine x_iload (pc' := 572) rfl rfl rfl ?_
          refine x_iconst (pc' := 573) rfl rfl ?_
          refine x_iadd (pc' := 574) (z := 2) rfl rfl (by decide) ?_
          refine x_iald (pc' := 575) (N := 7) (x := (xs 2)) rfl rfl rfl (Eq.trans rdNthr (z_N_29_0 e)) (io_in (p := 2) (N := 7) (by decide) (by decide)) (Eq.trans (congrArg (sA (sThr t) 29 0) (nn_io (p := 2) (by decide))) (Eq.trans rdAthr (z_A_29_0_2 e))) ?_
          refine x_cv (ls0 := [_, _, _, sJk, sJk, sJk]) (rest := []) rfl rfl rfl rfl rfl ?_
          refine x_iload_n (pc' := 1) rfl rfl rfl ?_
          refine x_cs (ls0 := [_]) (rest := []) rfl rfl rfl rfl ?_
          refine x_iload_n (pc' := 1) rfl rfl rfl ?_
          refine x_iconst (pc' := 2) rfl rfl ?_
          refine x_iconst (pc' := 3) rfl rfl ?_
          refine x_cs (ls0 := [_, _, _]) (rest := []) rfl rfl rfl rfl ?_
          refine x_iload_n (pc' := 1) rfl rfl rfl ?_
          refine x_iload_n (pc' := 2) rfl rfl rfl ?_
          refine x_icmp (a' := 14) (pc' := 5) (z := decide (m < 0)) rfl rfl rfl (ic_lt (p := m) (q := 0) (Nat.lt_trans hm (by decide)) (by decide)) (fun h => absurd (of_decide_eq_true h) (by first | decide | omega | simp)) (fun _ => ?_)
          refine x_iload_n (pc' := 6) rfl rfl rfl ?_
          refine x_iload_n (pc' := 7) rfl rfl rfl ?_
          refine x_icmp (a' := 14) (pc' := 10) (z := decide (5 < m)) rfl rfl rfl (ic_gt (p := m) (q := 5) (Nat.lt_trans hm (by decide)) (by decide)) (fun h => absurd (of_decide_eq_true h) (fun z => absurd hm (Nat.not_lt.mpr z))) (fun _ => ?_)
          refine x_iconst (pc' := 11) rfl rfl ?_
          refine x_goto (pc' := 15) rfl rfl ?_
          refine x_retz (z := true) rfl rfl ?_
          refine sK_i (pc' := 6) rfl ?_
          refine x_retz (z := true) rfl rfl ?_
          refine sK_i (pc' := 4) rfl ?_
          refine x_istore_n (pc' := 5) (ls' := [_, _, _, _, _, _]) rfl rfl rfl rfl ?_
          refine x_iload_n (pc' := 6) rfl rfl rfl ?_
          refine x_ldc_w (pc' := 9) rfl rfl ?_
          refine x_ldc_w (pc' := 12) rfl rfl ?_
          refine x_cs (ls0 := [_, _, _]) (rest := []) rfl rfl rfl rfl ?_
          refine x_iload_n (pc' := 1) rfl rfl rfl ?_
          refine x_iload_n (pc' := 2) rfl rfl rfl ?_
          refine x_icmp (a' := 14) (pc' := 5) (z := decide ((xs 2) < (-1000000))) rfl rfl rfl rfl (fun h => absurd (of_decide_eq_true h) (of_decide_eq_false q5)) (fun _ => ?_)
          refine x_iload_n (pc' := 6) rfl rfl rfl ?_
          refine x_iload_n (pc' := 7) rfl rfl rfl ?_
          refine x_icmp (a' := 14) (pc' := 10) (z := decide (1000000 < (xs 2))) rfl rfl rfl rfl (fun h => absurd (of_decide_eq_true h) (of_decide_eq_false q18)) (fun _ => ?_)
          refine x_iconst (pc' := 11) rfl rfl ?_
          refine x_goto (pc' := 15) rfl rfl ?_
          refine x_retz (z := true) rfl rfl ?_
          refine sK_i (pc' := 15) rfl ?_
          refine x_istore (pc' := 17) (ls' := [_, _, _, _, _, _]) rfl rfl rfl rfl ?_
          refine x_iload_n (pc' := 18) rfl rfl rfl ?_
          refine x_if (a' := 76) (pc' := 21) (z := false) rfl rfl rfl (by decide) (fun h => by cases h) (fun _ => ?_)
          refine x_iload (pc' := 23) rfl rfl rfl ?_
          refine x_if (a' := 76) (pc' := 26) (z := false) rfl rfl rfl (by decide) (fun h => by cases h) (fun _ => ?_)
          refine x_aload_n (pc' := 27) rfl rfl rfl rfl rfl ?_
          refine x_gR (pc' := 30) (r := (some 2)) rfl rfl rfl (Eq.trans rdRthr (z_R_781_0 e)) ?_
          refine x_iload_n (pc' := 31) rfl rfl rfl ?_
          refine x_bald (pc' := 32) (N := 6) (z := false) rfl rfl (Eq.trans rdNthr (z_N_22_2 e)) (io_in (p := m) (N := 6) hm (by decide)) (Eq.trans (congrArg (sB (sThr t) 22 2) (nn_io (p := m) (Nat.lt_trans hm (by decide)))) (Eq.trans rdBthr (z_B_22_2_y e _))) ?_
          refine x_if (a' := 76) (pc' := 35) (z := false) rfl rfl rfl (by decide) (fun h => by cases h) (fun _ => ?_)
          refine x_aload_n (pc' := 36) rfl rfl rfl rfl rfl ?_
          refine x_gR (pc' := 39) (r := (some 4)) rfl rfl rfl (Eq.trans rdRthr (z_R_774_0 e)) ?_
          refine x_iload_n (pc' := 40) rfl rfl rfl ?_
          refine x_iald (pc' := 41) (N := 6) (x := 0) rfl rfl rfl (Eq.trans rdNthr (z_N_21_4 e)) (io_in (p := m) (N := 6) hm (by decide)) (Eq.trans (congrArg (sA (sThr t) 21 4) (nn_io (p := m) (Nat.lt_trans hm (by decide)))) (Eq.trans rdAthr (z_A_21_4_y e _))) ?_
          refine x_iload_n (pc' := 42) rfl rfl rfl ?_
          refine x_iadd (pc' := 43) (z := (xs 2)) rfl rfl (Int32.zero_add _) ?_
          refine x_iconst (pc' := 44) rfl rfl ?_
          refine x_ldc_w (pc' := 47) rfl rfl ?_
          refine x_cs (ls0 := [_, _, _]) (rest := []) rfl rfl rfl rfl ?_
          refine x_iload_n (pc' := 1) rfl rfl rfl ?_
          refine x_iload_n (pc' := 2) rfl rfl rfl ?_
          have J206 : X 145 15 [.inl (xs 2), .inl 0, .inl 100000000] [.inl (bz (!(decide ((xs 2) < 0)) && (!(decide (100000000 < (xs 2))))))] (sThr t) (sK 145 195 47 [.inr (.inr (12, (some 0))), .inl (io m), .inl (xs 2), .inl (bz true), .inl (bz true), sJk] [] (sK 195 297 575 [.inr (.inr (29, (some 0))), .inr (.inr (11, (some 0))), .inr (.inr (12, (some 0))), .inr (.inr (23, (some 0))), .inl 0, .inl 3, sJk] [] Qp)) := by
            refine x_retz (z := (!(decide ((xs 2) < 0)) && (!(decide (100000000 < (xs 2)))))) rfl rfl ?_
            refine sK_i (pc' := 50) rfl ?_
            refine x_ifeq_z (a' := 76) (pc' := 53) (z := (!(decide ((xs 2) < 0)) && (!(decide (100000000 < (xs 2)))))) rfl rfl rfl (fun _ => ?_) (fun h => zz_no h q23)
            refine x_iconst (pc' := 77) rfl rfl ?_
            refine x_istore (pc' := 79) (ls' := [_, _, _, _, _, _]) rfl rfl rfl rfl ?_
            refine x_aload_n (pc' := 80) rfl rfl rfl rfl rfl ?_
            refine x_iload_n (pc' := 81) rfl rfl rfl ?_
            refine x_if (a' := 88) (pc' := 84) (z := true) rfl rfl rfl (by decide) (fun _ => ?_) (fun h => by cases h)
            refine x_iload (pc' := 90) rfl rfl rfl ?_
            refine x_if (a' := 97) (pc' := 93) (z := true) rfl rfl rfl (by decide) (fun _ => ?_) (fun h => by cases h)
            refine x_iload (pc' := 99) rfl rfl rfl ?_
            refine x_if (a' := 106) (pc' := 102) (z := true) rfl rfl rfl (by decide) (fun _ => ?_) (fun h => by cases h)
            refine x_iconst (pc' := 107) rfl rfl ?_
            refine x_cv (ls0 := [_, _]) (rest := []) rfl rfl rfl rfl rfl ?_
            refine x_aload_n (pc' := 1) rfl rfl rfl rfl rfl ?_
            refine x_iload_n (pc' := 2) rfl rfl rfl ?_
            refine x_pI (pc' := 5) rfl rfl rfl ?_
            refine x_iload_n (pc' := 6) rfl rfl rfl ?_
            refine x_if (a' := 13) (pc' := 9) (z := true) rfl rfl rfl (by decide) (fun _ => ?_) (fun h => by cases h)
            refine x_iconst (pc' := 14) rfl rfl ?_
            refine x_retz (z := false) rfl rfl ?_
            refine sK_i (pc' := 110) rfl ?_
            refine x_if (a' := 115) (pc' := 113) (z := false) rfl rfl rfl (by decide) (fun h => by cases h) (fun _ => ?_)
            refine x_iconst (pc' := 114) rfl rfl ?_
            refine x_reti rfl rfl ?_
            refine sK_i (pc' := 578) rfl ?_
            refine x_istore (pc' := 580) (ls' := [_, _, _, _, _, _, _]) rfl rfl rfl rfl ?_
            refine x_aload_n (pc' := 581) rfl rfl rfl rfl rfl ?_
            refine x_cv (ls0 := [_]) (rest := []) rfl rfl rfl rfl rfl ?_
            refine x_aload_n (pc' := 1) rfl rfl rfl rfl rfl ?_
            refine x_gI (pc' := 4) (x := 3) rfl rfl rfl sI_s ?_
            refine x_reti rfl rfl ?_
            refine sK_i (pc' := 584) rfl ?_
            refine x_iload (pc' := 586) rfl rfl rfl ?_
            refine x_icmp (a' := 591) (pc' := 589) (z := true) rfl rfl rfl (by decide) (fun _ => ?_) (fun h => by cases h)
            refine x_iload (pc' := 593) rfl rfl rfl ?_
            refine x_if (a' := 608) (pc' := 596) (z := true) rfl rfl rfl (by decide) (fun _ => ?_) (fun h => by cases h)
            refine x_goto (pc' := 2938) rfl rfl ?_
            refine x_iinc (pc' := 2941) (y := 7) (ls' := [_, _, _, _, _, _, _]) rfl rfl rfl rfl rfl ?_
            refine x_goto (pc' := 23) rfl rfl ?_
            refine x_iload (pc' := 25) rfl rfl rfl ?_
            refine x_aload_n (pc' := 26) rfl rfl rfl rfl rfl ?_
            refine x_alen (pc' := 27) (N := 7) rfl rfl rfl (Eq.trans rdNI (Eq.trans rdNthr (z_N_29_0 e))) (?_ : X _ _ _ (.inl 7 :: _) _ _)
            refine x_bipush (pc' := 29) rfl rfl ?_
            refine x_isub (pc' := 30) (z := 0) rfl rfl (by decide) ?_
            refine x_icmp (a' := 2944) (pc' := 33) (z := true) rfl rfl rfl (by decide) (fun _ => ?_) (fun h => by cases h)
            refine x_iconst (pc' := 2945) rfl rfl ?_
            refine x_retz (z := true) rfl rfl ?_
            exact Qp_ok e (p := 1) (q := 6) rfl rfl rfl rfl
          refine x_icmp (a' := 14) (pc' := 5) (z := decide ((xs 2) < 0)) rfl rfl rfl rfl (fun q205 => ?_) (fun q205 => ?_)
          · refine x_iconst (pc' := 15) rfl rfl ?_
            ((try rw [q205] at J206); (try rw [q205]); (try simp only [cd_t, cd_f, nt_t, nt_f, an_t, an_f, or_t, or_f] at J206); (try simp only [cd_t, cd_f, nt_t, nt_f, an_t, an_f, or_t, or_f]); exact J206)
          · refine x_iload_n (pc' := 6) rfl rfl rfl ?_
            refine x_iload_n (pc' := 7) rfl rfl rfl ?_
            refine x_icmp (a' := 14) (pc' := 10) (z := decide (100000000 < (xs 2))) rfl rfl rfl rfl (fun q206 => ?_) (fun q206 => ?_)
            · refine x_iconst (pc' := 15) rfl rfl ?_
              ((try rw [q205] at J206); (try rw [q205]); (try rw [q206] at J206); (try rw [q206]); (try simp only [cd_t, cd_f, nt_t, nt_f, an_t, an_f, or_t, or_f] at J206); (try simp only [cd_t, cd_f, nt_t, nt_f, an_t, an_f, or_t, or_f]); exact J206)
            · refine x_iconst (pc' := 11) rfl rfl ?_
              refine x_goto (pc' := 15) rfl rfl ?_
              ((try rw [q205] at J206); (try rw [q205]); (try rw [q206] at J206); (try rw [q206]); (try simp only [cd_t, cd_f, nt_t, nt_f, an_t, an_f, or_t, or_f] at J206); (try simp only [cd_t, cd_f, nt_t, nt_f, an_t, an_f, or_t, or_f]); exact J206)
      refine x_if (a' := 45) (pc' := 34) (z := decide ((xs 2) < 0)) rfl rfl rfl rfl (fun q20 => ?_) (fun q20 => ?_)
      · refine x_iconst (pc' := 46) rfl rfl ?_
        ((try rw [q20] at J21); (try rw [q20]); (try simp only [cd_t, cd_f, nt_t, nt_f, an_t, an_f, or_t, or_f] at J21); (try simp only [cd_t, cd_f, nt_t, nt_f, an_t, an_f, or_t, or_f]); exact J21)
      · refine x_iload (pc' := 36) rfl rfl rfl ?_
        refine x_ldc (pc' := 38) rfl rfl ?_
        refine x_icmp (a' := 45) (pc' := 41) (z := decide (100000000 < (xs 2))) rfl rfl rfl rfl (fun q21 => ?_) (fun q21 => ?_)
        · refine x_iconst (pc' := 46) rfl rfl ?_
          ((try rw [q20] at J21); (try rw [q20]); (try rw [q21] at J21); (try rw [q21]); (try simp only [cd_t, cd_f, nt_t, nt_f, an_t, an_f, or_t, or_f] at J21); (try simp only [cd_t, cd_f, nt_t, nt_f, an_t, an_f, or_t, or_f]); exact J21)
        · refine x_iconst (pc' := 42) rfl rfl ?_
          refine x_goto (pc' := 46) rfl rfl ?_
          ((try rw [q20] at J21); (try rw [q20]); (try rw [q21] at J21); (try rw [q21]); (try simp only [cd_t, cd_f, nt_t, nt_f, an_t, an_f, or_t, or_f] at J21); (try simp only [cd_t, cd_f, nt_t, nt_f, an_t, an_f, or_t, or_f]); exact J21)
    · refine x_throw rfl rfl ?_
      refine sK_n (by decide +kernel) rfl ?_
      refine sK_h (h := 17) (by decide +kernel) rfl ?_
      refine x_catch (pc' := 19) (ls' := [_, _, _, _, _]) rfl rfl rfl rfl ?_
      refine x_iconst (pc' := 20) rfl rfl ?_
      refine x_reti rfl rfl ?_
      refine sK_i (pc' := 560) rfl ?_
      refine x_istore (pc' := 562) (ls' := [_, _, _, _, _, _, _]) rfl rfl rfl rfl ?_
      refine x_aload_n (pc' := 563) rfl rfl rfl rfl rfl ?_
      refine x_aload_n (pc' := 564) rfl rfl rfl rfl rfl ?_
      refine x_iload (pc' := 566) rfl rfl rfl ?_
      refine x_iconst (pc' := 567) rfl rfl ?_
      refine x_iadd (pc' := 568) (z := 1) rfl rfl (by decide) ?_
      refine x_iald (pc' := 569) (N := 7) (x := (io m)) rfl rfl rfl (Eq.trans rdNthr (z_N_29_0 e)) (io_in (p := 1) (N := 7) (by decide) (by decide)) (Eq.trans (congrArg (sA (sThr t) 29 0) (nn_io (p := 1) (by decide))) (Eq.trans rdAthr (Eq.trans (z_A_29_0_1 e) e0))) ?_
      refine x_aload_n (pc' := 570) rfl rfl rfl rfl rfl ?_
      refine x_iload (pc' := 572) rfl rfl rfl ?_
      refine x_iconst (pc' := 573) rfl rfl ?_
      refine x_iadd (pc' := 574) (z := 2) rfl rfl (by decide) ?_
      refine x_iald (pc' := 575) (N := 7) (x := (xs 2)) rfl rfl rfl (Eq.trans rdNthr (z_N_29_0 e)) (io_in (p := 2) (N := 7) (by decide) (by decide)) (Eq.trans (congrArg (sA (sThr t) 29 0) (nn_io (p := 2) (by decide))) (Eq.trans rdAthr (z_A_29_0_2 e))) ?_
      refine x_cv (ls0 := [_, _, _, sJk, sJk, sJk]) (rest := []) rfl rfl rfl rfl rfl ?_
      refine x_iload_n (pc' := 1) rfl rfl rfl ?_
      refine x_cs (ls0 := [_]) (rest := []) rfl rfl rfl rfl ?_
      refine x_iload_n (pc' := 1) rfl rfl rfl ?_
      refine x_iconst (pc' := 2) rfl rfl ?_
      refine x_iconst (pc' := 3) rfl rfl ?_
      refine x_cs (ls0 := [_, _, _]) (rest := []) rfl rfl rfl rfl ?_
      refine x_iload_n (pc' := 1) rfl rfl rfl ?_
      refine x_iload_n (pc' := 2) rfl rfl rfl ?_
      refine x_icmp (a' := 14) (pc' := 5) (z := decide (m < 0)) rfl rfl rfl (ic_lt (p := m) (q := 0) (Nat.lt_trans hm (by decide)) (by decide)) (fun h => absurd (of_decide_eq_true h) (by first | decide | omega | simp)) (fun _ => ?_)
      refine x_iload_n (pc' := 6) rfl rfl rfl ?_
      refine x_iload_n (pc' := 7) rfl rfl rfl ?_
      refine x_icmp (a' := 14) (pc' := 10) (z := decide (5 < m)) rfl rfl rfl (ic_gt (p := m) (q := 5) (Nat.lt_trans hm (by decide)) (by decide)) (fun h => absurd (of_decide_eq_true h) (fun z => absurd hm (Nat.not_lt.mpr z))) (fun _ => ?_)
      refine x_iconst (pc' := 11) rfl rfl ?_
      refine x_goto (pc' := 15) rfl rfl ?_
      refine x_retz (z := true) rfl rfl ?_
      refine sK_i (pc' := 6) rfl ?_
      refine x_retz (z := true) rfl rfl ?_
      refine sK_i (pc' := 4) rfl ?_
      refine x_istore_n (pc' := 5) (ls' := [_, _, _, _, _, _]) rfl rfl rfl rfl ?_
      refine x_iload_n (pc' := 6) rfl rfl rfl ?_
      refine x_ldc_w (pc' := 9) rfl rfl ?_
      refine x_ldc_w (pc' := 12) rfl rfl ?_
      refine x_cs (ls0 := [_, _, _]) (rest := []) rfl rfl rfl rfl ?_
      refine x_iload_n (pc' := 1) rfl rfl rfl ?_
      refine x_iload_n (pc' := 2) rfl rfl rfl ?_
      refine x_icmp (a' := 14) (pc' := 5) (z := decide ((xs 2) < (-1000000))) rfl rfl rfl rfl (fun h => absurd (of_decide_eq_true h) (of_decide_eq_false q5)) (fun _ => ?_)
      refine x_iload_n (pc' := 6) rfl rfl rfl ?_
      refine x_iload_n (pc' := 7) rfl rfl rfl ?_
      refine x_icmp (a' := 14) (pc' := 10) (z := decide (1000000 < (xs 2))) rfl rfl rfl rfl (fun _ => ?_) (fun h => absurd (of_decide_eq_true q18) (of_decide_eq_false h))
      refine x_iconst (pc' := 15) rfl rfl ?_
      refine x_retz (z := false) rfl rfl ?_
      refine sK_i (pc' := 15) rfl ?_
      refine x_istore (pc' := 17) (ls' := [_, _, _, _, _, _]) rfl rfl rfl rfl ?_
      refine x_iload_n (pc' := 18) rfl rfl rfl ?_
      refine x_if (a' := 76) (pc' := 21) (z := false) rfl rfl rfl (by decide) (fun h => by cases h) (fun _ => ?_)
      refine x_iload (pc' := 23) rfl rfl rfl ?_
      refine x_if (a' := 76) (pc' := 26) (z := true) rfl rfl rfl (by decide) (fun _ => ?_) (fun h => by cases h)
      refine x_iconst (pc' := 77) rfl rfl ?_
      refine x_istore (pc' := 79) (ls' := [_, _, _, _, _, _]) rfl rfl rfl rfl ?_
      refine x_aload_n (pc' := 80) rfl rfl rfl rfl rfl ?_
      refine x_iload_n (pc' := 81) rfl rfl rfl ?_
      refine x_if (a' := 88) (pc' := 84) (z := true) rfl rfl rfl (by decide) (fun _ => ?_) (fun h => by cases h)
      refine x_iload (pc' := 90) rfl rfl rfl ?_
      refine x_if (a' := 97) (pc' := 93) (z := false) rfl rfl rfl (by decide) (fun h => by cases h) (fun _ => ?_)
      refine x_iconst (pc' := 94) rfl rfl ?_
      refine x_goto (pc' := 107) rfl rfl ?_
      refine x_cv (ls0 := [_, _]) (rest := []) rfl rfl rfl rfl rfl ?_
      refine x_aload_n (pc' := 1) rfl rfl rfl rfl rfl ?_
      refine x_iload_n (pc' := 2) rfl rfl rfl ?_
      refine x_pI (pc' := 5) rfl rfl rfl ?_
      refine x_iload_n (pc' := 6) rfl rfl rfl ?_
      refine x_if (a' := 13) (pc' := 9) (z := true) rfl rfl rfl (by decide) (fun _ => ?_) (fun h => by cases h)
      refine x_iconst (pc' := 14) rfl rfl ?_
      refine x_retz (z := false) rfl rfl ?_
      refine sK_i (pc' := 110) rfl ?_
      refine x_if (a' := 115) (pc' := 113) (z := false) rfl rfl rfl (by decide) (fun h => by cases h) (fun _ => ?_)
      refine x_iconst (pc' := 114) rfl rfl ?_
      refine x_reti rfl rfl ?_
      refine sK_i (pc' := 578) rfl ?_
      refine x_istore (pc' := 580) (ls' := [_, _, _, _, _, _, _]) rfl rfl rfl rfl ?_
      refine x_aload_n (pc' := 581) rfl rfl rfl rfl rfl ?_
      refine x_cv (ls0 := [_]) (rest := []) rfl rfl rfl rfl rfl ?_
      refine x_aload_n (pc' := 1) rfl rfl rfl rfl rfl ?_
      refine x_gI (pc' := 4) (x := 2) rfl rfl rfl sI_s ?_
      refine x_reti rfl rfl ?_
      refine sK_i (pc' := 584) rfl ?_
      refine x_iload (pc' := 586) rfl rfl rfl ?_
      refine x_icmp (a' := 591) (pc' := 589) (z := true) rfl rfl rfl (by decide) (fun _ => ?_) (fun h => by cases h)
      refine x_iload (pc' := 593) rfl rfl rfl ?_
      refine x_if (a' := 608) (pc' := 596) (z := true) rfl rfl rfl (by decide) (fun _ => ?_) (fun h => by cases h)
      refine x_goto (pc' := 2938) rfl rfl ?_
      refine x_iinc (pc' := 2941) (y := 7) (ls' := [_, _, _, _, _, _, _]) rfl rfl rfl rfl rfl ?_
      refine x_goto (pc' := 23) rfl rfl ?_
      refine x_iload (pc' := 25) rfl rfl rfl ?_
      refine x_aload_n (pc' := 26) rfl rfl rfl rfl rfl ?_
      refine x_alen (pc' := 27) (N := 7) rfl rfl rfl (Eq.trans rdNI (Eq.trans rdNthr (z_N_29_0 e))) (?_ : X _ _ _ (.inl 7 :: _) _ _)
      refine x_bipush (pc' := 29) rfl rfl ?_
      refine x_isub (pc' := 30) (z := 0) rfl rfl (by decide) ?_
      refine x_icmp (a' := 2944) (pc' := 33) (z := true) rfl rfl rfl (by decide) (fun _ => ?_) (fun h => by cases h)
      refine x_iconst (pc' := 2945) rfl rfl ?_
      refine x_retz (z := true) rfl rfl ?_
      exact Qp_ok e (p := 1) (q := 6) rfl rfl rfl rfl
set_option maxHeartbeats 4000000 in
set_option maxRecDepth 10000 in
theorem v_5_A_i {t : sT} {xs : Nat → Int32}
    (e : t = T16 7 xs)
    (hk : ((xs 0) &&& 63) = 5)
    (e0 : (xs 1) < 0) :
    X 297 23 [.inr (.inr (29, (some 0))), .inr (.inr (11, (some 0))), .inr (.inr (12, (some 0))), .inr (.inr (23, (some 0))), .inl 0, sJk, sJk] [] t Qp := by
  refine x_iload (pc' := 25) rfl rfl rfl ?_
  refine x_aload_n (pc' := 26) rfl rfl rfl rfl rfl ?_
  refine x_alen (pc' := 27) (N := 7) rfl rfl rfl (z_N_29_0 e) (?_ : X _ _ _ (.inl 7 :: _) _ _)
  refine x_bipush (pc' := 29) rfl rfl ?_
  refine x_isub (pc' := 30) (z := 0) rfl rfl (by decide) ?_
  refine x_icmp (a' := 2944) (pc' := 33) (z := false) rfl rfl rfl (by decide) (fun h => by cases h) (fun _ => ?_)
  refine x_aload_n (pc' := 34) rfl rfl rfl rfl rfl ?_
  refine x_iload (pc' := 36) rfl rfl rfl ?_
  refine x_iald (pc' := 37) (N := 7) (x := (xs 0)) rfl rfl rfl (z_N_29_0 e) (io_in (p := 0) (N := 7) (by decide) (by decide)) (Eq.trans (congrArg (sA t 29 0) (nn_io (p := 0) (by decide))) (z_A_29_0_0 e)) ?_
  refine x_bipush (pc' := 39) rfl rfl ?_
  refine x_iand (pc' := 40) (z := ((xs 0) &&& 63)) rfl rfl rfl ?_
  refine x_switch (pc' := 543) rfl (by rw [hk]; decide) ?_
  refine x_aload_n (pc' := 544) rfl rfl rfl rfl rfl ?_
  refine x_aload_n (pc' := 545) rfl rfl rfl rfl rfl ?_
  refine x_iload (pc' := 547) rfl rfl rfl ?_
  refine x_iconst (pc' := 548) rfl rfl ?_
  refine x_iadd (pc' := 549) (z := 1) rfl rfl (by decide) ?_
  refine x_iald (pc' := 550) (N := 7) (x := (xs 1)) rfl rfl rfl (z_N_29_0 e) (io_in (p := 1) (N := 7) (by decide) (by decide)) (Eq.trans (congrArg (sA t 29 0) (nn_io (p := 1) (by decide))) (z_A_29_0_1 e)) ?_
  refine x_aload_n (pc' := 551) rfl rfl rfl rfl rfl ?_
  refine x_iload (pc' := 553) rfl rfl rfl ?_
  refine x_iconst (pc' := 554) rfl rfl ?_
  refine x_iadd (pc' := 555) (z := 2) rfl rfl (by decide) ?_
  refine x_iald (pc' := 556) (N := 7) (x := (xs 2)) rfl rfl rfl (z_N_29_0 e) (io_in (p := 2) (N := 7) (by decide) (by decide)) (Eq.trans (congrArg (sA t 29 0) (nn_io (p := 2) (by decide))) (z_A_29_0_2 e)) ?_
  refine x_aload_n (pc' := 557) rfl rfl rfl rfl rfl ?_
  refine x_cs (ls0 := [_, _, _, _, sJk]) (rest := []) rfl rfl rfl rfl ?_
  refine x_aload_n (pc' := 1) rfl rfl rfl rfl rfl ?_
  refine x_iconst (pc' := 2) rfl rfl ?_
  refine x_aload_n (pc' := 3) rfl rfl rfl rfl rfl ?_
  refine x_iload_n (pc' := 4) rfl rfl rfl ?_
  refine x_iload_n (pc' := 5) rfl rfl rfl ?_
  refine x_cv (ls0 := [_, _, _, sJk, sJk]) (rest := [_, _]) rfl rfl rfl rfl rfl ?_
  refine x_aload_n (pc' := 1) rfl rfl rfl rfl rfl ?_
  refine x_iload_n (pc' := 2) rfl rfl rfl ?_
  refine x_cv (ls0 := [_, _]) (rest := []) rfl rfl rfl rfl rfl ?_
  refine x_iload_n (pc' := 1) rfl rfl rfl ?_
  refine x_if (a' := 16) (pc' := 4) (z := decide ((xs 1) < 0)) rfl rfl rfl rfl (fun _ => ?_) (fun h => absurd e0 (of_decide_eq_false h))
  refine x_throw rfl rfl ?_
  refine sK_n (by decide +kernel) rfl ?_
  refine sK_h (h := 13) (by decide +kernel) rfl ?_
  refine x_catch (pc' := 15) (ls' := [_, _, _, _, _]) rfl rfl rfl rfl ?_
  refine x_iconst (pc' := 16) rfl rfl ?_
  refine x_reti rfl rfl ?_
  refine sK_i (pc' := 560) rfl ?_
  refine x_istore (pc' := 562) (ls' := [_, _, _, _, _, _, _]) rfl rfl rfl rfl ?_
  refine x_aload_n (pc' := 563) rfl rfl rfl rfl rfl ?_
  refine x_aload_n (pc' := 564) rfl rfl rfl rfl rfl ?_
  refine x_iload (pc' := 566) rfl rfl rfl ?_
  refine x_iconst (pc' := 567) rfl rfl ?_
  refine x_iadd (pc' := 568) (z := 1) rfl rfl (by decide) ?_
  refine x_iald (pc' := 569) (N := 7) (x := (xs 1)) rfl rfl rfl (Eq.trans rdNthr (z_N_29_0 e)) (io_in (p := 1) (N := 7) (by decide) (by decide)) (Eq.trans (congrArg (sA (sThr t) 29 0) (nn_io (p := 1) (by decide))) (Eq.trans rdAthr (z_A_29_0_1 e))) ?_
  refine x_aload_n (pc' := 570) rfl rfl rfl rfl rfl ?_
  refine x_iload (pc' := 572) rfl rfl rfl ?_
  refine x_iconst (pc' := 573) rfl rfl ?_
  refine x_iadd (pc' := 574) (z := 2) rfl rfl (by decide) ?_
  refine x_iald (pc' := 575) (N := 7) (x := (xs 2)) rfl rfl rfl (Eq.trans rdNthr (z_N_29_0 e)) (io_in (p := 2) (N := 7) (by decide) (by decide)) (Eq.trans (congrArg (sA (sThr t) 29 0) (nn_io (p := 2) (by decide))) (Eq.trans rdAthr (z_A_29_0_2 e))) ?_
  refine x_cv (ls0 := [_, _, _, sJk, sJk, sJk]) (rest := []) rfl rfl rfl rfl rfl ?_
  refine x_iload_n (pc' := 1) rfl rfl rfl ?_
  refine x_cs (ls0 := [_]) (rest := []) rfl rfl rfl rfl ?_
  refine x_iload_n (pc' := 1) rfl rfl rfl ?_
  refine x_iconst (pc' := 2) rfl rfl ?_
  refine x_iconst (pc' := 3) rfl rfl ?_
  refine x_cs (ls0 := [_, _, _]) (rest := []) rfl rfl rfl rfl ?_
  refine x_iload_n (pc' := 1) rfl rfl rfl ?_
  refine x_iload_n (pc' := 2) rfl rfl rfl ?_
  refine x_icmp (a' := 14) (pc' := 5) (z := decide ((xs 1) < 0)) rfl rfl rfl rfl (fun _ => ?_) (fun h => absurd e0 (of_decide_eq_false h))
  refine x_iconst (pc' := 15) rfl rfl ?_
  refine x_retz (z := false) rfl rfl ?_
  refine sK_i (pc' := 6) rfl ?_
  refine x_retz (z := false) rfl rfl ?_
  refine sK_i (pc' := 4) rfl ?_
  refine x_istore_n (pc' := 5) (ls' := [_, _, _, _, _, _]) rfl rfl rfl rfl ?_
  refine x_iload_n (pc' := 6) rfl rfl rfl ?_
  refine x_ldc_w (pc' := 9) rfl rfl ?_
  refine x_ldc_w (pc' := 12) rfl rfl ?_
  refine x_cs (ls0 := [_, _, _]) (rest := []) rfl rfl rfl rfl ?_
  refine x_iload_n (pc' := 1) rfl rfl rfl ?_
  refine x_iload_n (pc' := 2) rfl rfl rfl ?_
  have J6 : X 145 15 [.inl (xs 2), .inl (-1000000), .inl 1000000] [.inl (bz (!(decide ((xs 2) < (-1000000))) && (!(decide (1000000 < (xs 2))))))] (sThr t) (sK 145 195 12 [.inr (.inr (12, (some 0))), .inl (xs 1), .inl (xs 2), .inl (bz false), sJk, sJk] [] (sK 195 297 575 [.inr (.inr (29, (some 0))), .inr (.inr (11, (some 0))), .inr (.inr (12, (some 0))), .inr (.inr (23, (some 0))), .inl 0, .inl 1, sJk] [] Qp)) := by
    refine x_retz (z := (!(decide ((xs 2) < (-1000000))) && (!(decide (1000000 < (xs 2)))))) rfl rfl ?_
    refine sK_i (pc' := 15) rfl ?_
    refine x_istore (pc' := 17) (ls' := [_, _, _, _, _, _]) rfl rfl rfl rfl ?_
    refine x_iload_n (pc' := 18) rfl rfl rfl ?_
    refine x_if (a' := 76) (pc' := 21) (z := true) rfl rfl rfl (by decide) (fun _ => ?_) (fun h => by cases h)
    refine x_iconst (pc' := 77) rfl rfl ?_
    refine x_istore (pc' := 79) (ls' := [_, _, _, _, _, _]) rfl rfl rfl rfl ?_
    refine x_aload_n (pc' := 80) rfl rfl rfl rfl rfl ?_
    refine x_iload_n (pc' := 81) rfl rfl rfl ?_
    refine x_if (a' := 88) (pc' := 84) (z := false) rfl rfl rfl (by decide) (fun h => by cases h) (fun _ => ?_)
    refine x_iconst (pc' := 85) rfl rfl ?_
    refine x_goto (pc' := 107) rfl rfl ?_
    refine x_cv (ls0 := [_, _]) (rest := []) rfl rfl rfl rfl rfl ?_
    refine x_aload_n (pc' := 1) rfl rfl rfl rfl rfl ?_
    refine x_iload_n (pc' := 2) rfl rfl rfl ?_
    refine x_pI (pc' := 5) rfl rfl rfl ?_
    refine x_iload_n (pc' := 6) rfl rfl rfl ?_
    refine x_if (a' := 13) (pc' := 9) (z := true) rfl rfl rfl (by decide) (fun _ => ?_) (fun h => by cases h)
    refine x_iconst (pc' := 14) rfl rfl ?_
    refine x_retz (z := false) rfl rfl ?_
    refine sK_i (pc' := 110) rfl ?_
    refine x_if (a' := 115) (pc' := 113) (z := false) rfl rfl rfl (by decide) (fun h => by cases h) (fun _ => ?_)
    refine x_iconst (pc' := 114) rfl rfl ?_
    refine x_reti rfl rfl ?_
    refine sK_i (pc' := 578) rfl ?_
    refine x_istore (pc' := 580) (ls' := [_, _, _, _, _, _, _]) rfl rfl rfl rfl ?_
    refine x_aload_n (pc' := 581) rfl rfl rfl rfl rfl ?_
    refine x_cv (ls0 := [_]) (rest := []) rfl rfl rfl rfl rfl ?_
    refine x_aload_n (pc' := 1) rfl rfl rfl rfl rfl ?_
    refine x_gI (pc' := 4) (x := 1) rfl rfl rfl sI_s ?_
    refine x_reti rfl rfl ?_
    refine sK_i (pc' := 584) rfl ?_
    refine x_iload (pc' := 586) rfl rfl rfl ?_
    refine x_icmp (a' := 591) (pc' := 589) (z := true) rfl rfl rfl (by decide) (fun _ => ?_) (fun h => by cases h)
    refine x_iload (pc' := 593) rfl rfl rfl ?_
    refine x_if (a' := 608) (pc' := 596) (z := true) rfl rfl rfl (by decide) (fun _ => ?_) (fun h => by cases h)
    refine x_goto (pc' := 2938) rfl rfl ?_
    refine x_iinc (pc' := 2941) (y := 7) (ls' := [_, _, _, _, _, _, _]) rfl rfl rfl rfl rfl ?_
    refine x_goto (pc' := 23) rfl rfl ?_
    refine x_iload (pc' := 25) rfl rfl rfl ?_
    refine x_aload_n (pc' := 26) rfl rfl rfl rfl rfl ?_
    refine x_alen (pc' := 27) (N := 7) rfl rfl rfl (Eq.trans rdNI (Eq.trans rdNthr (z_N_29_0 e))) (?_ : X _ _ _ (.inl 7 :: _) _ _)
    refine x_bipush (pc' := 29) rfl rfl ?_
    refine x_isub (pc' := 30) (z := 0) rfl rfl (by decide) ?_
    refine x_icmp (a' := 2944) (pc' := 33) (z := true) rfl rfl rfl (by decide) (fun _ => ?_) (fun h => by cases h)
    refine x_iconst (pc' := 2945) rfl rfl ?_
    refine x_retz (z := true) rfl rfl ?_
    exact Qp_ok e (p := 1) (q := 6) rfl rfl rfl rfl
  refine x_icmp (a' := 14) (pc' := 5) (z := decide ((xs 2) < (-1000000))) rfl rfl rfl rfl (fun q5 => ?_) (fun q5 => ?_)
  · refine x_iconst (pc' := 15) rfl rfl ?_
    ((try rw [q5] at J6); (try rw [q5]); (try simp only [cd_t, cd_f, nt_t, nt_f, an_t, an_f, or_t, or_f] at J6); (try simp only [cd_t, cd_f, nt_t, nt_f, an_t, an_f, or_t, or_f]); exact J6)
  · refine x_iload_n (pc' := 6) rfl rfl rfl ?_
    refine x_iload_n (pc' := 7) rfl rfl rfl ?_
    refine x_icmp (a' := 14) (pc' := 10) (z := decide (1000000 < (xs 2))) rfl rfl rfl rfl (fun q6 => ?_) (fun q6 => ?_)
    · refine x_iconst (pc' := 15) rfl rfl ?_
      ((try rw [q5] at J6); (try rw [q5]); (try rw [q6] at J6); (try rw [q6]); (try simp only [cd_t, cd_f, nt_t, nt_f, an_t, an_f, or_t, or_f] at J6); (try simp only [cd_t, cd_f, nt_t, nt_f, an_t, an_f, or_t, or_f]); exact J6)
    · refine x_iconst (pc' := 11) rfl rfl ?_
      refine x_goto (pc' := 15) rfl rfl ?_
      ((try rw [q5] at J6); (try rw [q5]); (try rw [q6] at J6); (try rw [q6]); (try simp only [cd_t, cd_f, nt_t, nt_f, an_t, an_f, or_t, or_f] at J6); (try simp only [cd_t, cd_f, nt_t, nt_f, an_t, an_f, or_t, or_f]); exact J6)
set_option maxHeartbeats 4000000 in
set_option maxRecDepth 10000 in
theorem v_5_B_i {t : sT} {xs : Nat → Int32}
    (e : t = T16 7 xs)
    (hk : ((xs 0) &&& 63) = 5)
    (e0 : ¬ (xs 1) < 0)
    (f0 : ¬ (xs 1) < 6) :
    X 297 23 [.inr (.inr (29, (some 0))), .inr (.inr (11, (some 0))), .inr (.inr (12, (some 0))), .inr (.inr (23, (some 0))), .inl 0, sJk, sJk] [] t Qp := by
  refine x_iload (pc' := 25) rfl rfl rfl ?_
  refine x_aload_n (pc' := 26) rfl rfl rfl rfl rfl ?_
  refine x_alen (pc' := 27) (N := 7) rfl rfl rfl (z_N_29_0 e) (?_ : X _ _ _ (.inl 7 :: _) _ _)
  refine x_bipush (pc' := 29) rfl rfl ?_
  refine x_isub (pc' := 30) (z := 0) rfl rfl (by decide) ?_
  refine x_icmp (a' := 2944) (pc' := 33) (z := false) rfl rfl rfl (by decide) (fun h => by cases h) (fun _ => ?_)
  refine x_aload_n (pc' := 34) rfl rfl rfl rfl rfl ?_
  refine x_iload (pc' := 36) rfl rfl rfl ?_
  refine x_iald (pc' := 37) (N := 7) (x := (xs 0)) rfl rfl rfl (z_N_29_0 e) (io_in (p := 0) (N := 7) (by decide) (by decide)) (Eq.trans (congrArg (sA t 29 0) (nn_io (p := 0) (by decide))) (z_A_29_0_0 e)) ?_
  refine x_bipush (pc' := 39) rfl rfl ?_
  refine x_iand (pc' := 40) (z := ((xs 0) &&& 63)) rfl rfl rfl ?_
  refine x_switch (pc' := 543) rfl (by rw [hk]; decide) ?_
  refine x_aload_n (pc' := 544) rfl rfl rfl rfl rfl ?_
  refine x_aload_n (pc' := 545) rfl rfl rfl rfl rfl ?_
  refine x_iload (pc' := 547) rfl rfl rfl ?_
  refine x_iconst (pc' := 548) rfl rfl ?_
  refine x_iadd (pc' := 549) (z := 1) rfl rfl (by decide) ?_
  refine x_iald (pc' := 550) (N := 7) (x := (xs 1)) rfl rfl rfl (z_N_29_0 e) (io_in (p := 1) (N := 7) (by decide) (by decide)) (Eq.trans (congrArg (sA t 29 0) (nn_io (p := 1) (by decide))) (z_A_29_0_1 e)) ?_
  refine x_aload_n (pc' := 551) rfl rfl rfl rfl rfl ?_
  refine x_iload (pc' := 553) rfl rfl rfl ?_
  refine x_iconst (pc' := 554) rfl rfl ?_
  refine x_iadd (pc' := 555) (z := 2) rfl rfl (by decide) ?_
  refine x_iald (pc' := 556) (N := 7) (x := (xs 2)) rfl rfl rfl (z_N_29_0 e) (io_in (p := 2) (N := 7) (by decide) (by decide)) (Eq.trans (congrArg (sA t 29 0) (nn_io (p := 2) (by decide))) (z_A_29_0_2 e)) ?_
  refine x_aload_n (pc' := 557) rfl rfl rfl rfl rfl ?_
  refine x_cs (ls0 := [_, _, _, _, sJk]) (rest := []) rfl rfl rfl rfl ?_
  refine x_aload_n (pc' := 1) rfl rfl rfl rfl rfl ?_
  refine x_iconst (pc' := 2) rfl rfl ?_
  refine x_aload_n (pc' := 3) rfl rfl rfl rfl rfl ?_
  refine x_iload_n (pc' := 4) rfl rfl rfl ?_
  refine x_iload_n (pc' := 5) rfl rfl rfl ?_
  refine x_cv (ls0 := [_, _, _, sJk, sJk]) (rest := [_, _]) rfl rfl rfl rfl rfl ?_
  refine x_aload_n (pc' := 1) rfl rfl rfl rfl rfl ?_
  refine x_iload_n (pc' := 2) rfl rfl rfl ?_
  refine x_cv (ls0 := [_, _]) (rest := []) rfl rfl rfl rfl rfl ?_
  refine x_iload_n (pc' := 1) rfl rfl rfl ?_
  refine x_if (a' := 16) (pc' := 4) (z := decide ((xs 1) < 0)) rfl rfl rfl rfl (fun h => absurd (of_decide_eq_true h) e0) (fun _ => ?_)
  refine x_iload_n (pc' := 5) rfl rfl rfl ?_
  refine x_aload_n (pc' := 6) rfl rfl rfl rfl rfl ?_
  refine x_gR (pc' := 9) (r := (some 0)) rfl rfl rfl (z_R_704_0 e) ?_
  refine x_gR (pc' := 12) (r := (some 0)) rfl rfl rfl (z_R_321_0 e) ?_
  refine x_alen (pc' := 13) (N := 6) rfl rfl rfl (z_N_26_0 e) (?_ : X _ _ _ (.inl 6 :: _) _ _)
  refine x_icmp (a' := 27) (pc' := 16) (z := decide ((xs 1) < 6)) rfl rfl rfl rfl (fun h => absurd (of_decide_eq_true h) f0) (fun _ => ?_)
  refine x_throw rfl rfl ?_
  refine sK_n (by decide +kernel) rfl ?_
  refine sK_h (h := 13) (by decide +kernel) rfl ?_
  refine x_catch (pc' := 15) (ls' := [_, _, _, _, _]) rfl rfl rfl rfl ?_
  refine x_iconst (pc' := 16) rfl rfl ?_
  refine x_reti rfl rfl ?_
  refine sK_i (pc' := 560) rfl ?_
  refine x_istore (pc' := 562) (ls' := [_, _, _, _, _, _, _]) rfl rfl rfl rfl ?_
  refine x_aload_n (pc' := 563) rfl rfl rfl rfl rfl ?_
  refine x_aload_n (pc' := 564) rfl rfl rfl rfl rfl ?_
  refine x_iload (pc' := 566) rfl rfl rfl ?_
  refine x_iconst (pc' := 567) rfl rfl ?_
  refine x_iadd (pc' := 568) (z := 1) rfl rfl (by decide) ?_
  refine x_iald (pc' := 569) (N := 7) (x := (xs 1)) rfl rfl rfl (Eq.trans rdNthr (z_N_29_0 e)) (io_in (p := 1) (N := 7) (by decide) (by decide)) (Eq.trans (congrArg (sA (sThr t) 29 0) (nn_io (p := 1) (by decide))) (Eq.trans rdAthr (z_A_29_0_1 e))) ?_
  refine x_aload_n (pc' := 570) rfl rfl rfl rfl rfl ?_
  refine x_iload (pc' := 572) rfl rfl rfl ?_
  refine x_iconst (pc' := 573) rfl rfl ?_
  refine x_iadd (pc' := 574) (z := 2) rfl rfl (by decide) ?_
  refine x_iald (pc' := 575) (N := 7) (x := (xs 2)) rfl rfl rfl (Eq.trans rdNthr (z_N_29_0 e)) (io_in (p := 2) (N := 7) (by decide) (by decide)) (Eq.trans (congrArg (sA (sThr t) 29 0) (nn_io (p := 2) (by decide))) (Eq.trans rdAthr (z_A_29_0_2 e))) ?_
  refine x_cv (ls0 := [_, _, _, sJk, sJk, sJk]) (rest := []) rfl rfl rfl rfl rfl ?_
  refine x_iload_n (pc' := 1) rfl rfl rfl ?_
  refine x_cs (ls0 := [_]) (rest := []) rfl rfl rfl rfl ?_
  refine x_iload_n (pc' := 1) rfl rfl rfl ?_
  refine x_iconst (pc' := 2) rfl rfl ?_
  refine x_iconst (pc' := 3) rfl rfl ?_
  refine x_cs (ls0 := [_, _, _]) (rest := []) rfl rfl rfl rfl ?_
  refine x_iload_n (pc' := 1) rfl rfl rfl ?_
  refine x_iload_n (pc' := 2) rfl rfl rfl ?_
  refine x_icmp (a' := 14) (pc' := 5) (z := decide ((xs 1) < 0)) rfl rfl rfl rfl (fun h => absurd (of_decide_eq_true h) e0) (fun _ => ?_)
  refine x_iload_n (pc' := 6) rfl rfl rfl ?_
  refine x_iload_n (pc' := 7) rfl rfl rfl ?_
  refine x_icmp (a' := 14) (pc' := 10) (z := decide (5 < (xs 1))) rfl rfl rfl rfl (fun _ => ?_) (fun h => absurd (lt_of6 f0) (of_decide_eq_false h))
  refine x_iconst (pc' := 15) rfl rfl ?_
  refine x_retz (z := false) rfl rfl ?_
  refine sK_i (pc' := 6) rfl ?_
  refine x_retz (z := false) rfl rfl ?_
  refine sK_i (pc' := 4) rfl ?_
  refine x_istore_n (pc' := 5) (ls' := [_, _, _, _, _, _]) rfl rfl rfl rfl ?_
  refine x_iload_n (pc' := 6) rfl rfl rfl ?_
  refine x_ldc_w (pc' := 9) rfl rfl ?_
  refine x_ldc_w (pc' := 12) rfl rfl ?_
  refine x_cs (ls0 := [_, _, _]) (rest := []) rfl rfl rfl rfl ?_
  refine x_iload_n (pc' := 1) rfl rfl rfl ?_
  refine x_iload_n (pc' := 2) rfl rfl rfl ?_
  have J8 : X 145 15 [.inl (xs 2), .inl (-1000000), .inl 1000000] [.inl (bz (!(decide ((xs 2) < (-1000000))) && (!(decide (1000000 < (xs 2))))))] (sThr t) (sK 145 195 12 [.inr (.inr (12, (some 0))), .inl (xs 1), .inl (xs 2), .inl (bz false), sJk, sJk] [] (sK 195 297 575 [.inr (.inr (29, (some 0))), .inr (.inr (11, (some 0))), .inr (.inr (12, (some 0))), .inr (.inr (23, (some 0))), .inl 0, .inl 1, sJk] [] Qp)) := by
    refine x_retz (z := (!(decide ((xs 2) < (-1000000))) && (!(decide (1000000 < (xs 2)))))) rfl rfl ?_
    refine sK_i (pc' := 15) rfl ?_
    refine x_istore (pc' := 17) (ls' := [_, _, _, _, _, _]) rfl rfl rfl rfl ?_
    refine x_iload_n (pc' := 18) rfl rfl rfl ?_
    refine x_if (a' := 76) (pc' := 21) (z := true) rfl rfl rfl (by decide) (fun _ => ?_) (fun h => by cases h)
    refine x_iconst (pc' := 77) rfl rfl ?_
    refine x_istore (pc' := 79) (ls' := [_, _, _, _, _, _]) rfl rfl rfl rfl ?_
    refine x_aload_n (pc' := 80) rfl rfl rfl rfl rfl ?_
    refine x_iload_n (pc' := 81) rfl rfl rfl ?_
    refine x_if (a' := 88) (pc' := 84) (z := false) rfl rfl rfl (by decide) (fun h => by cases h) (fun _ => ?_)
    refine x_iconst (pc' := 85) rfl rfl ?_
    refine x_goto (pc' := 107) rfl rfl ?_
    refine x_cv (ls0 := [_, _]) (rest := []) rfl rfl rfl rfl rfl ?_
    refine x_aload_n (pc' := 1) rfl rfl rfl rfl rfl ?_
    refine x_iload_n (pc' := 2) rfl rfl rfl ?_
    refine x_pI (pc' := 5) rfl rfl rfl ?_
    refine x_iload_n (pc' := 6) rfl rfl rfl ?_
    refine x_if (a' := 13) (pc' := 9) (z := true) rfl rfl rfl (by decide) (fun _ => ?_) (fun h => by cases h)
    refine x_iconst (pc' := 14) rfl rfl ?_
    refine x_retz (z := false) rfl rfl ?_
    refine sK_i (pc' := 110) rfl ?_
    refine x_if (a' := 115) (pc' := 113) (z := false) rfl rfl rfl (by decide) (fun h => by cases h) (fun _ => ?_)
    refine x_iconst (pc' := 114) rfl rfl ?_
    refine x_reti rfl rfl ?_
    refine sK_i (pc' := 578) rfl ?_
    refine x_istore (pc' := 580) (ls' := [_, _, _, _, _, _, _]) rfl rfl rfl rfl ?_
    refine x_aload_n (pc' := 581) rfl rfl rfl rfl rfl ?_
    refine x_cv (ls0 := [_]) (rest := []) rfl rfl rfl rfl rfl ?_
    refine x_aload_n (pc' := 1) rfl rfl rfl rfl rfl ?_
    refine x_gI (pc' := 4) (x := 1) rfl rfl rfl sI_s ?_
    refine x_reti rfl rfl ?_
    refine sK_i (pc' := 584) rfl ?_
    refine x_iload (pc' := 586) rfl rfl rfl ?_
    refine x_icmp (a' := 591) (pc' := 589) (z := true) rfl rfl rfl (by decide) (fun _ => ?_) (fun h => by cases h)
    refine x_iload (pc' := 593) rfl rfl rfl ?_
    refine x_if (a' := 608) (pc' := 596) (z := true) rfl rfl rfl (by decide) (fun _ => ?_) (fun h => by cases h)
    refine x_goto (pc' := 2938) rfl rfl ?_
    refine x_iinc (pc' := 2941) (y := 7) (ls' := [_, _, _, _, _, _, _]) rfl rfl rfl rfl rfl ?_
    refine x_goto (pc' := 23) rfl rfl ?_
    refine x_iload (pc' := 25) rfl rfl rfl ?_
    refine x_aload_n (pc' := 26) rfl rfl rfl rfl rfl ?_
    refine x_alen (pc' := 27) (N := 7) rfl rfl rfl (Eq.trans rdNI (Eq.trans rdNthr (z_N_29_0 e))) (?_ : X _ _ _ (.inl 7 :: _) _ _)
    refine x_bipush (pc' := 29) rfl rfl ?_
    refine x_isub (pc' := 30) (z := 0) rfl rfl (by decide) ?_
    refine x_icmp (a' := 2944) (pc' := 33) (z := true) rfl rfl rfl (by decide) (fun _ => ?_) (fun h => by cases h)
    refine x_iconst (pc' := 2945) rfl rfl ?_
    refine x_retz (z := true) rfl rfl ?_
    exact Qp_ok e (p := 1) (q := 6) rfl rfl rfl rfl
  refine x_icmp (a' := 14) (pc' := 5) (z := decide ((xs 2) < (-1000000))) rfl rfl rfl rfl (fun q7 => ?_) (fun q7 => ?_)
  · refine x_iconst (pc' := 15) rfl rfl ?_
    ((try rw [q7] at J8); (try rw [q7]); (try simp only [cd_t, cd_f, nt_t, nt_f, an_t, an_f, or_t, or_f] at J8); (try simp only [cd_t, cd_f, nt_t, nt_f, an_t, an_f, or_t, or_f]); exact J8)
  · refine x_iload_n (pc' := 6) rfl rfl rfl ?_
    refine x_iload_n (pc' := 7) rfl rfl rfl ?_
    refine x_icmp (a' := 14) (pc' := 10) (z := decide (1000000 < (xs 2))) rfl rfl rfl rfl (fun q8 => ?_) (fun q8 => ?_)
    · refine x_iconst (pc' := 15) rfl rfl ?_
      ((try rw [q7] at J8); (try rw [q7]); (try rw [q8] at J8); (try rw [q8]); (try simp only [cd_t, cd_f, nt_t, nt_f, an_t, an_f, or_t, or_f] at J8); (try simp only [cd_t, cd_f, nt_t, nt_f, an_t, an_f, or_t, or_f]); exact J8)
    · refine x_iconst (pc' := 11) rfl rfl ?_
      refine x_goto (pc' := 15) rfl rfl ?_
      ((try rw [q7] at J8); (try rw [q7]); (try rw [q8] at J8); (try rw [q8]); (try simp only [cd_t, cd_f, nt_t, nt_f, an_t, an_f, or_t, or_f] at J8); (try simp only [cd_t, cd_f, nt_t, nt_f, an_t, an_f, or_t, or_f]); exact J8)
