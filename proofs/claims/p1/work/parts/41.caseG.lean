set_option maxHeartbeats 4000000 in
set_option maxRecDepth 10000 in
theorem v_11_v_0_i_i_i {t : sT} {xs : Nat → Int32} {m : Nat}
    (e : t = T16 7 xs)
    (hk : ((xs 0) &&& 63) = 11)
    (hm : m < 6)
    (e0 : xs 1 = io m)
    (e1 : xs 2 = 0) :
    X 297 23 [.inr (.inr (29, (some 0))), .inr (.inr (11, (some 0))), .inr (.inr (12, (some 0))), .inr (.inr (23, (some 0))), .inl 0, sJk, sJk] [] t Qp := by
  refine x_iload (pc' := 25) rfl rfl rfl ?_
  refine x_aload_n (pc' := 26) rfl rfl rfl rfl rfl ?_
  refine x_alen (pc' := 27) (N := 7) rfl rfl rfl (z_N_29_0 e) (?_ : X _ _ _ (.inl 7 :: _) _ _)
  refine x_bipush (pc' := 29) rfl rfl ?_
  refine x_isub (pc' := 30) (z := 0) rfl rfl (by decide) ?_
  refine x_icmp (a' := 2944) (pc' := 33) (z := false) rfl rfl rfl (by decide) (fun h => by cases h) (fun _ => ?_)
  refine x_aload_n (pc' := 34) rfl rfl rfl rfl rfl ?_
  refine x_iload (pc' := 36) rfl rfl rfl ?_
  refine x_iald (pc' := 37) (N := 7) (x := (xs 0)) rfl rfl rfl (z_N_29_0 e) (io_in (p := 0) (N := 7) (by decide) (by decide)) (Eq.trans (congrArg (sA t 29 0) (nn_io (p := 0) (by decide))) (z_A_29_0_0 e)) ?_
  refine x_bipush (pc' := 39) rfl rfl ?_
  refine x_iand (pc' := 40) (z := ((xs 0) &&& 63)) rfl rfl rfl ?_
  refine x_switch (pc' := 1017) rfl (by rw [hk]; decide) ?_
  refine x_aload_n (pc' := 1018) rfl rfl rfl rfl rfl ?_
  refine x_aload_n (pc' := 1019) rfl rfl rfl rfl rfl ?_
  refine x_iload (pc' := 1021) rfl rfl rfl ?_
  refine x_iconst (pc' := 1022) rfl rfl ?_
  refine x_iadd (pc' := 1023) (z := 1) rfl rfl (by decide) ?_
  refine x_iald (pc' := 1024) (N := 7) (x := (io m)) rfl rfl rfl (z_N_29_0 e) (io_in (p := 1) (N := 7) (by decide) (by decide)) (Eq.trans (congrArg (sA t 29 0) (nn_io (p := 1) (by decide))) (Eq.trans (z_A_29_0_1 e) e0)) ?_
  refine x_aload_n (pc' := 1025) rfl rfl rfl rfl rfl ?_
  refine x_iload (pc' := 1027) rfl rfl rfl ?_
  refine x_iconst (pc' := 1028) rfl rfl ?_
  refine x_iadd (pc' := 1029) (z := 2) rfl rfl (by decide) ?_
  refine x_iald (pc' := 1030) (N := 7) (x := 0) rfl rfl rfl (z_N_29_0 e) (io_in (p := 2) (N := 7) (by decide) (by decide)) (Eq.trans (congrArg (sA t 29 0) (nn_io (p := 2) (by decide))) (Eq.trans (z_A_29_0_2 e) e1)) ?_
  refine x_aload_n (pc' := 1031) rfl rfl rfl rfl rfl ?_
  refine x_iload (pc' := 1033) rfl rfl rfl ?_
  refine x_iconst (pc' := 1034) rfl rfl ?_
  refine x_iadd (pc' := 1035) (z := 3) rfl rfl (by decide) ?_
  refine x_iald (pc' := 1036) (N := 7) (x := (xs 3)) rfl rfl rfl (z_N_29_0 e) (io_in (p := 3) (N := 7) (by decide) (by decide)) (Eq.trans (congrArg (sA t 29 0) (nn_io (p := 3) (by decide))) (z_A_29_0_3 e)) ?_
  have J3 : X 297 1044 [.inr (.inr (29, (some 0))), .inr (.inr (11, (some 0))), .inr (.inr (12, (some 0))), .inr (.inr (23, (some 0))), .inl 0, sJk, sJk] [.inl (bz (!(decide ((xs 3) = 0)))), .inl 0, .inl (io m), .inr (.inr (11, (some 0)))] t Qp := by
    refine x_aload_n (pc' := 1045) rfl rfl rfl rfl rfl ?_
    refine x_iload (pc' := 1047) rfl rfl rfl ?_
    refine x_iconst (pc' := 1048) rfl rfl ?_
    refine x_iadd (pc' := 1049) (z := 4) rfl rfl (by decide) ?_
    refine x_iald (pc' := 1050) (N := 7) (x := (xs 4)) rfl rfl rfl (z_N_29_0 e) (io_in (p := 4) (N := 7) (by decide) (by decide)) (Eq.trans (congrArg (sA t 29 0) (nn_io (p := 4) (by decide))) (z_A_29_0_4 e)) ?_
    refine x_aload_n (pc' := 1051) rfl rfl rfl rfl rfl ?_
    refine x_iload (pc' := 1053) rfl rfl rfl ?_
    refine x_iconst (pc' := 1054) rfl rfl ?_
    refine x_iadd (pc' := 1055) (z := 5) rfl rfl (by decide) ?_
    refine x_iald (pc' := 1056) (N := 7) (x := (xs 5)) rfl rfl rfl (z_N_29_0 e) (io_in (p := 5) (N := 7) (by decide) (by decide)) (Eq.trans (congrArg (sA t 29 0) (nn_io (p := 5) (by decide))) (z_A_29_0_5 e)) ?_
    refine x_aload_n (pc' := 1057) rfl rfl rfl rfl rfl ?_
    refine x_cs (ls0 := [_, _, _, _, _, _, _, sJk]) (rest := []) rfl rfl rfl rfl ?_
    refine x_aload (pc' := 2) rfl rfl rfl rfl rfl ?_
    refine x_iconst (pc' := 3) rfl rfl ?_
    refine x_aload_n (pc' := 4) rfl rfl rfl rfl rfl ?_
    refine x_iload_n (pc' := 5) rfl rfl rfl ?_
    refine x_iload_n (pc' := 6) rfl rfl rfl ?_
    refine x_iload_n (pc' := 7) rfl rfl rfl ?_
    refine x_iload (pc' := 9) rfl rfl rfl ?_
    refine x_iload (pc' := 11) rfl rfl rfl ?_
    refine x_cv (ls0 := [_, _, _, _, _, _, sJk, sJk, sJk]) (rest := [_, _]) rfl rfl rfl rfl rfl ?_
    refine x_aload_n (pc' := 1) rfl rfl rfl rfl rfl ?_
    refine x_iload_n (pc' := 2) rfl rfl rfl ?_
    refine x_cv (ls0 := [_, _]) (rest := []) rfl rfl rfl rfl rfl ?_
    refine x_iload_n (pc' := 1) rfl rfl rfl ?_
    refine x_if (a' := 16) (pc' := 4) (z := decide (m < 0)) rfl rfl rfl (ic_lt (p := m) (q := 0) (Nat.lt_trans hm (by decide)) (by decide)) (fun h => absurd (of_decide_eq_true h) (by first | decide | omega | simp)) (fun _ => ?_)
    refine x_iload_n (pc' := 5) rfl rfl rfl ?_
    refine x_aload_n (pc' := 6) rfl rfl rfl rfl rfl ?_
    refine x_gR (pc' := 9) (r := (some 0)) rfl rfl rfl (z_R_704_0 e) ?_
    refine x_gR (pc' := 12) (r := (some 0)) rfl rfl rfl (z_R_321_0 e) ?_
    refine x_alen (pc' := 13) (N := 6) rfl rfl rfl (z_N_26_0 e) (?_ : X _ _ _ (.inl 6 :: _) _ _)
    refine x_icmp (a' := 27) (pc' := 16) (z := decide (m < 6)) rfl rfl rfl (ic_lt (p := m) (q := 6) (Nat.lt_trans hm (by decide)) (by decide)) (fun _ => ?_) (fun h => absurd (Nat.lt_of_lt_of_le hm (by decide)) (of_decide_eq_false h))
    refine x_aload_n (pc' := 28) rfl rfl rfl rfl rfl ?_
    refine x_gR (pc' := 31) (r := (some 0)) rfl rfl rfl (z_R_704_0 e) ?_
    refine x_gR (pc' := 34) (r := (some 0)) rfl rfl rfl (z_R_321_0 e) ?_
    refine x_iload_n (pc' := 35) rfl rfl rfl ?_
    refine x_aald (pc' := 36) (N := 6) (k' := 7) (r := (some m)) rfl rfl rfl (z_N_26_0 e) (io_in (p := m) (N := 6) hm (by decide)) (Eq.trans (congrArg (sE t 26 0) (nn_io (p := m) (Nat.lt_trans hm (by decide)))) (kM (Cn_e e) hm)) ?_
    refine x_reta rfl rfl ?_
    refine sK_i (pc' := 5) rfl ?_
    refine x_astore (pc' := 7) (ls' := [_, _, _, _, _, _, _, _, _]) rfl rfl rfl rfl rfl ?_
    refine x_aload_n (pc' := 8) rfl rfl rfl rfl rfl ?_
    refine x_iload_n (pc' := 9) rfl rfl rfl ?_
    refine x_cv (ls0 := [_, _]) (rest := []) rfl rfl rfl rfl rfl ?_
    refine x_iload_n (pc' := 1) rfl rfl rfl ?_
    refine x_if (a' := 16) (pc' := 4) (z := false) rfl rfl rfl (by decide) (fun h => by cases h) (fun _ => ?_)
    refine x_iload_n (pc' := 5) rfl rfl rfl ?_
    refine x_aload_n (pc' := 6) rfl rfl rfl rfl rfl ?_
    refine x_gR (pc' := 9) (r := (some 0)) rfl rfl rfl (z_R_705_0 e) ?_
    refine x_gR (pc' := 12) (r := (some 0)) rfl rfl rfl (z_R_256_0 e) ?_
    refine x_alen (pc' := 13) (N := 5) rfl rfl rfl (z_N_24_0 e) (?_ : X _ _ _ (.inl 5 :: _) _ _)
    refine x_icmp (a' := 27) (pc' := 16) (z := true) rfl rfl rfl (by decide) (fun _ => ?_) (fun h => by cases h)
    refine x_aload_n (pc' := 28) rfl rfl rfl rfl rfl ?_
    refine x_gR (pc' := 31) (r := (some 0)) rfl rfl rfl (z_R_705_0 e) ?_
    refine x_gR (pc' := 34) (r := (some 0)) rfl rfl rfl (z_R_256_0 e) ?_
    refine x_iload_n (pc' := 35) rfl rfl rfl ?_
    refine x_aald (pc' := 36) (N := 5) (k' := 1) (r := (some 0)) rfl rfl rfl (z_N_24_0 e) (io_in (p := 0) (N := 5) (by decide) (by decide)) (Eq.trans (congrArg (sE t 24 0) (nn_io (p := 0) (by decide))) (z_E_24_0_0 e)) ?_
    refine x_reta rfl rfl ?_
    refine sK_i (pc' := 12) rfl ?_
    refine x_astore (pc' := 14) (ls' := [_, _, _, _, _, _, _, _, _]) rfl rfl rfl rfl rfl ?_
    refine x_aload (pc' := 16) rfl rfl rfl rfl rfl ?_
    refine x_iload (pc' := 18) rfl rfl rfl ?_
    refine x_cs (ls0 := [_, _]) (rest := []) rfl rfl rfl rfl ?_
    refine x_aload_n (pc' := 1) rfl rfl rfl rfl rfl ?_
    refine x_cv (ls0 := [_]) (rest := []) rfl rfl rfl rfl rfl ?_
    refine x_aload_n (pc' := 1) rfl rfl rfl rfl rfl ?_
    refine x_gR (pc' := 4) (r := none) rfl rfl rfl (z_R_66_0 e) ?_
    refine x_ifnull (a' := 11) (pc' := 7) rfl rfl rfl rfl (fun _ => ?_) (fun i h => by cases h)
    refine x_iconst (pc' := 12) rfl rfl ?_
    refine x_retz (z := false) rfl rfl ?_
    refine sK_i (pc' := 4) rfl ?_
    refine x_if (a' := 20) (pc' := 7) (z := true) rfl rfl rfl (by decide) (fun _ => ?_) (fun h => by cases h)
    refine x_iload_n (pc' := 21) rfl rfl rfl ?_
    refine x_iconst (pc' := 22) rfl rfl ?_
    refine x_sipush (pc' := 25) rfl rfl ?_
    refine x_cs (ls0 := [_, _, _]) (rest := []) rfl rfl rfl rfl ?_
    refine x_iload_n (pc' := 1) rfl rfl rfl ?_
    refine x_iload_n (pc' := 2) rfl rfl rfl ?_
    refine x_icmp (a' := 10) (pc' := 5) (z := decide ((xs 4) < 1)) rfl rfl rfl rfl (fun q11 => ?_) (fun q11 => ?_)
    · refine x_throw rfl rfl ?_
      refine sK_n (by decide +kernel) rfl ?_
      refine sK_n (by decide +kernel) rfl ?_
      refine sK_h (h := 23) (by decide +kernel) rfl ?_
      refine x_catch (pc' := 25) (ls' := [_, _, _, _, _, _, _, _]) rfl rfl rfl rfl ?_
      refine x_iconst (pc' := 26) rfl rfl ?_
      refine x_reti rfl rfl ?_
      refine sK_i (pc' := 1060) rfl ?_
      refine x_istore (pc' := 1062) (ls' := [_, _, _, _, _, _, _]) rfl rfl rfl rfl ?_
      refine x_aload_n (pc' := 1063) rfl rfl rfl rfl rfl ?_
      refine x_aload_n (pc' := 1064) rfl rfl rfl rfl rfl ?_
      refine x_iload (pc' := 1066) rfl rfl rfl ?_
      refine x_iconst (pc' := 1067) rfl rfl ?_
      refine x_iadd (pc' := 1068) (z := 1) rfl rfl (by decide) ?_
      refine x_iald (pc' := 1069) (N := 7) (x := (io m)) rfl rfl rfl (Eq.trans rdNthr (z_N_29_0 e)) (io_in (p := 1) (N := 7) (by decide) (by decide)) (Eq.trans (congrArg (sA (sThr t) 29 0) (nn_io (p := 1) (by decide))) (Eq.trans rdAthr (Eq.trans (z_A_29_0_1 e) e0))) ?_
      refine x_aload_n (pc' := 1070) rfl rfl rfl rfl rfl ?_
      refine x_iload (pc' := 1072) rfl rfl rfl ?_
      refine x_iconst (pc' := 1073) rfl rfl ?_
      refine x_iadd (pc' := 1074) (z := 2) rfl rfl (by decide) ?_
      refine x_iald (pc' := 1075) (N := 7) (x := 0) rfl rfl rfl (Eq.trans rdNthr (z_N_29_0 e)) (io_in (p := 2) (N := 7) (by decide) (by decide)) (Eq.trans (congrArg (sA (sThr t) 29 0) (nn_io (p := 2) (by decide))) (Eq.trans rdAthr (Eq.trans (z_A_29_0_2 e) e1))) ?_
      refine x_aload_n (pc' := 1076) rfl rfl rfl rfl rfl ?_
      refine x_iload (pc' := 1078) rfl rfl rfl ?_
      refine x_iconst (pc' := 1079) rfl rfl ?_
      refine x_iadd (pc' := 1080) (z := 3) rfl rfl (by decide) ?_
      refine x_iald (pc' := 1081) (N := 7) (x := (xs 3)) rfl rfl rfl (Eq.trans rdNthr (z_N_29_0 e)) (io_in (p := 3) (N := 7) (by decide) (by decide)) (Eq.trans (congrArg (sA (sThr t) 29 0) (nn_io (p := 3) (by decide))) (Eq.trans rdAthr (z_A_29_0_3 e))) ?_
      have J12 : X 297 1089 [.inr (.inr (29, (some 0))), .inr (.inr (11, (some 0))), .inr (.inr (12, (some 0))), .inr (.inr (23, (some 0))), .inl 0, .inl 2, sJk] [.inl (bz (!(decide ((xs 3) = 0)))), .inl 0, .inl (io m), .inr (.inr (12, (some 0)))] (sThr t) Qp := by
        refine x_aload_n (pc' := 1090) rfl rfl rfl rfl rfl ?_
        refine x_iload (pc' := 1092) rfl rfl rfl ?_
        refine x_iconst (pc' := 1093) rfl rfl ?_
        refine x_iadd (pc' := 1094) (z := 4) rfl rfl (by decide) ?_
        refine x_iald (pc' := 1095) (N := 7) (x := (xs 4)) rfl rfl rfl (Eq.trans rdNthr (z_N_29_0 e)) (io_in (p := 4) (N := 7) (by decide) (by decide)) (Eq.trans (congrArg (sA (sThr t) 29 0) (nn_io (p := 4) (by decide))) (Eq.trans rdAthr (z_A_29_0_4 e))) ?_
        refine x_aload_n (pc' := 1096) rfl rfl rfl rfl rfl ?_
        refine x_iload (pc' := 1098) rfl rfl rfl ?_
        refine x_iconst (pc' := 1099) rfl rfl ?_
        refine x_iadd (pc' := 1100) (z := 5) rfl rfl (by decide) ?_
        refine x_iald (pc' := 1101) (N := 7) (x := (xs 5)) rfl rfl rfl (Eq.trans rdNthr (z_N_29_0 e)) (io_in (p := 5) (N := 7) (by decide) (by decide)) (Eq.trans (congrArg (sA (sThr t) 29 0) (nn_io (p := 5) (by decide))) (Eq.trans rdAthr (z_A_29_0_5 e))) ?_
        refine x_cv (ls0 := [_, _, _, _, _, _, sJk, sJk]) (rest := []) rfl rfl rfl rfl rfl ?_
        refine x_iload_n (pc' := 1) rfl rfl rfl ?_
        refine x_cs (ls0 := [_]) (rest := []) rfl rfl rfl rfl ?_
        refine x_iload_n (pc' := 1) rfl rfl rfl ?_
        refine x_iconst (pc' := 2) rfl rfl ?_
        refine x_iconst (pc' := 3) rfl rfl ?_
        refine x_cs (ls0 := [_, _, _]) (rest := []) rfl rfl rfl rfl ?_
        refine x_iload_n (pc' := 1) rfl rfl rfl ?_
        refine x_iload_n (pc' := 2) rfl rfl rfl ?_
        refine x_icmp (a' := 14) (pc' := 5) (z := false) rfl rfl rfl (by decide) (fun h => by cases h) (fun _ => ?_)
        refine x_iload_n (pc' := 6) rfl rfl rfl ?_
        refine x_iload_n (pc' := 7) rfl rfl rfl ?_
        refine x_icmp (a' := 14) (pc' := 10) (z := false) rfl rfl rfl (by decide) (fun h => by cases h) (fun _ => ?_)
        refine x_iconst (pc' := 11) rfl rfl ?_
        refine x_goto (pc' := 15) rfl rfl ?_
        refine x_retz (z := true) rfl rfl ?_
        refine sK_i (pc' := 6) rfl ?_
        refine x_retz (z := true) rfl rfl ?_
        refine sK_i (pc' := 4) rfl ?_
        refine x_if (a' := 31) (pc' := 7) (z := false) rfl rfl rfl (by decide) (fun h => by cases h) (fun _ => ?_)
        refine x_iload_n (pc' := 8) rfl rfl rfl ?_
        refine x_iload (pc' := 10) rfl rfl rfl ?_
        refine x_cs (ls0 := [_, _]) (rest := []) rfl rfl rfl rfl ?_
        refine x_iload_n (pc' := 1) rfl rfl rfl ?_
        refine x_iconst (pc' := 2) rfl rfl ?_
        refine x_icmp (a' := 16) (pc' := 5) (z := false) rfl rfl rfl (by decide) (fun h => by cases h) (fun _ => ?_)
        refine x_iload_n (pc' := 6) rfl rfl rfl ?_
        refine x_iconst (pc' := 7) rfl rfl ?_
        refine x_sipush (pc' := 10) rfl rfl ?_
        refine x_cs (ls0 := [_, _, _]) (rest := []) rfl rfl rfl rfl ?_
        refine x_iload_n (pc' := 1) rfl rfl rfl ?_
        refine x_iload_n (pc' := 2) rfl rfl rfl ?_
        refine x_icmp (a' := 14) (pc' := 5) (z := decide ((xs 4) < 1)) rfl rfl rfl rfl (fun _ => ?_) (fun h => absurd (of_decide_eq_true q11) (of_decide_eq_false h))
        refine x_iconst (pc' := 15) rfl rfl ?_
        refine x_retz (z := false) rfl rfl ?_
        refine sK_i (pc' := 13) rfl ?_
        refine x_goto (pc' := 26) rfl rfl ?_
        refine x_retz (z := false) rfl rfl ?_
        refine sK_i (pc' := 13) rfl ?_
        refine x_if (a' := 31) (pc' := 16) (z := true) rfl rfl rfl (by decide) (fun _ => ?_) (fun h => by cases h)
        refine x_iconst (pc' := 32) rfl rfl ?_
        refine x_istore (pc' := 34) (ls' := [_, _, _, _, _, _, _, _]) rfl rfl rfl rfl ?_
        refine x_iload_n (pc' := 35) rfl rfl rfl ?_
        refine x_cs (ls0 := [_]) (rest := []) rfl rfl rfl rfl ?_
        refine x_iload_n (pc' := 1) rfl rfl rfl ?_
        refine x_iconst (pc' := 2) rfl rfl ?_
        refine x_iconst (pc' := 3) rfl rfl ?_
        refine x_cs (ls0 := [_, _, _]) (rest := []) rfl rfl rfl rfl ?_
        refine x_iload_n (pc' := 1) rfl rfl rfl ?_
        refine x_iload_n (pc' := 2) rfl rfl rfl ?_
        refine x_icmp (a' := 14) (pc' := 5) (z := false) rfl rfl rfl (by decide) (fun h => by cases h) (fun _ => ?_)
        refine x_iload_n (pc' := 6) rfl rfl rfl ?_
        refine x_iload_n (pc' := 7) rfl rfl rfl ?_
        refine x_icmp (a' := 14) (pc' := 10) (z := false) rfl rfl rfl (by decide) (fun h => by cases h) (fun _ => ?_)
        refine x_iconst (pc' := 11) rfl rfl ?_
        refine x_goto (pc' := 15) rfl rfl ?_
        refine x_retz (z := true) rfl rfl ?_
        refine sK_i (pc' := 6) rfl ?_
        refine x_retz (z := true) rfl rfl ?_
        refine sK_i (pc' := 38) rfl ?_
        refine x_if (a' := 65) (pc' := 41) (z := false) rfl rfl rfl (by decide) (fun h => by cases h) (fun _ => ?_)
        refine x_aload_n (pc' := 42) rfl rfl rfl rfl rfl ?_
        refine x_gR (pc' := 45) (r := (some 0)) rfl rfl rfl (Eq.trans rdRthr (z_R_769_0 e)) ?_
        refine x_iload_n (pc' := 46) rfl rfl rfl ?_
        refine x_iald (pc' := 47) (N := 5) (x := 0) rfl rfl rfl (Eq.trans rdNthr (z_N_21_0 e)) (io_in (p := 0) (N := 5) (by decide) (by decide)) (Eq.trans (congrArg (sA (sThr t) 21 0) (nn_io (p := 0) (by decide))) (Eq.trans rdAthr (z_A_21_0_0 e))) ?_
        refine x_iconst (pc' := 48) rfl rfl ?_
        refine x_icmp (a' := 65) (pc' := 51) (z := true) rfl rfl rfl (by decide) (fun _ => ?_) (fun h => by cases h)
        refine x_iconst (pc' := 66) rfl rfl ?_
        refine x_istore (pc' := 68) (ls' := [_, _, _, _, _, _, _, _]) rfl rfl rfl rfl ?_
        refine x_aload_n (pc' := 69) rfl rfl rfl rfl rfl ?_
        refine x_aload_n (pc' := 70) rfl rfl rfl rfl rfl ?_
        refine x_iload_n (pc' := 71) rfl rfl rfl ?_
        refine x_iload_n (pc' := 72) rfl rfl rfl ?_
        refine x_iload (pc' := 74) rfl rfl rfl ?_
        refine x_iload (pc' := 76) rfl rfl rfl ?_
        refine x_cv (ls0 := [_, _, _, _, _, sJk]) (rest := [_]) rfl rfl rfl rfl rfl ?_
        refine x_iload_n (pc' := 1) rfl rfl rfl ?_
        refine x_cs (ls0 := [_]) (rest := []) rfl rfl rfl rfl ?_
        refine x_iload_n (pc' := 1) rfl rfl rfl ?_
        refine x_iconst (pc' := 2) rfl rfl ?_
        refine x_iconst (pc' := 3) rfl rfl ?_
        refine x_cs (ls0 := [_, _, _]) (rest := []) rfl rfl rfl rfl ?_
        refine x_iload_n (pc' := 1) rfl rfl rfl ?_
        refine x_iload_n (pc' := 2) rfl rfl rfl ?_
        refine x_icmp (a' := 14) (pc' := 5) (z := decide (m < 0)) rfl rfl rfl (ic_lt (p := m) (q := 0) (Nat.lt_trans hm (by decide)) (by decide)) (fun h => absurd (of_decide_eq_true h) (by first | decide | omega | simp)) (fun _ => ?_)
        refine x_iload_n (pc' := 6) rfl rfl rfl ?_
        refine x_iload_n (pc' := 7) rfl rfl rfl ?_
        refine x_icmp (a' := 14) (pc' := 10) (z := decide (5 < m)) rfl rfl rfl (ic_gt (p := m) (q := 5) (Nat.lt_trans hm (by decide)) (by decide)) (fun h => absurd (of_decide_eq_true h) (fun z => absurd hm (Nat.not_lt.mpr z))) (fun _ => ?_)
        refine x_iconst (pc' := 11) rfl rfl ?_
        refine x_goto (pc' := 15) rfl rfl ?_
        refine x_retz (z := true) rfl rfl ?_
        refine sK_i (pc' := 6) rfl ?_
        refine x_retz (z := true) rfl rfl ?_
        refine sK_i (pc' := 4) rfl ?_
        refine x_if (a' := 18) (pc' := 7) (z := false) rfl rfl rfl (by decide) (fun h => by cases h) (fun _ => ?_)
        refine x_iload_n (pc' := 8) rfl rfl rfl ?_
        refine x_cs (ls0 := [_]) (rest := []) rfl rfl rfl rfl ?_
        refine x_iload_n (pc' := 1) rfl rfl rfl ?_
        refine x_iconst (pc' := 2) rfl rfl ?_
        refine x_iconst (pc' := 3) rfl rfl ?_
        refine x_cs (ls0 := [_, _, _]) (rest := []) rfl rfl rfl rfl ?_
        refine x_iload_n (pc' := 1) rfl rfl rfl ?_
        refine x_iload_n (pc' := 2) rfl rfl rfl ?_
        refine x_icmp (a' := 14) (pc' := 5) (z := false) rfl rfl rfl (by decide) (fun h => by cases h) (fun _ => ?_)
        refine x_iload_n (pc' := 6) rfl rfl rfl ?_
        refine x_iload_n (pc' := 7) rfl rfl rfl ?_
        refine x_icmp (a' := 14) (pc' := 10) (z := false) rfl rfl rfl (by decide) (fun h => by cases h) (fun _ => ?_)
        refine x_iconst (pc' := 11) rfl rfl ?_
        refine x_goto (pc' := 15) rfl rfl ?_
        refine x_retz (z := true) rfl rfl ?_
        refine sK_i (pc' := 6) rfl ?_
        refine x_retz (z := true) rfl rfl ?_
        refine sK_i (pc' := 11) rfl ?_
        refine x_if (a' := 18) (pc' := 14) (z := false) rfl rfl rfl (by decide) (fun h => by cases h) (fun _ => ?_)
        refine x_iconst (pc' := 15) rfl rfl ?_
        refine x_goto (pc' := 19) rfl rfl ?_
        refine x_istore (pc' := 21) (ls' := [_, _, _, _, _, _]) rfl rfl rfl rfl ?_
        refine x_iload (pc' := 23) rfl rfl rfl ?_
        refine x_if (a' := 30) (pc' := 26) (z := true) rfl rfl rfl (by decide) (fun _ => ?_) (fun h => by cases h)
        refine x_iload_n (pc' := 31) rfl rfl rfl ?_
        refine x_if (a' := 38) (pc' := 34) (z := false) rfl rfl rfl (by decide) (fun h => by cases h) (fun _ => ?_)
        refine x_iconst (pc' := 35) rfl rfl ?_
        refine x_goto (pc' := 57) rfl rfl ?_
        refine x_reti rfl rfl ?_
        refine sK_i (pc' := 79) rfl ?_
        refine x_cv (ls0 := [_, _]) (rest := []) rfl rfl rfl rfl rfl ?_
        refine x_aload_n (pc' := 1) rfl rfl rfl rfl rfl ?_
        refine x_iload_n (pc' := 2) rfl rfl rfl ?_
        refine x_pI (pc' := 5) rfl rfl rfl ?_
        refine x_iload_n (pc' := 6) rfl rfl rfl ?_
        refine x_if (a' := 13) (pc' := 9) (z := true) rfl rfl rfl (by decide) (fun _ => ?_) (fun h => by cases h)
        refine x_iconst (pc' := 14) rfl rfl ?_
        refine x_retz (z := false) rfl rfl ?_
        refine sK_i (pc' := 82) rfl ?_
        refine x_if (a' := 102) (pc' := 85) (z := true) rfl rfl rfl (by decide) (fun _ => ?_) (fun h => by cases h)
        refine x_iconst (pc' := 103) rfl rfl ?_
        refine x_reti rfl rfl ?_
        refine sK_i (pc' := 1104) rfl ?_
        refine x_istore (pc' := 1106) (ls' := [_, _, _, _, _, _, _]) rfl rfl rfl rfl ?_
        refine x_aload_n (pc' := 1107) rfl rfl rfl rfl rfl ?_
        refine x_cv (ls0 := [_]) (rest := []) rfl rfl rfl rfl rfl ?_
        refine x_aload_n (pc' := 1) rfl rfl rfl rfl rfl ?_
        refine x_gI (pc' := 4) (x := 2) rfl rfl rfl sI_s ?_
        refine x_reti rfl rfl ?_
        refine sK_i (pc' := 1110) rfl ?_
        refine x_iload (pc' := 1112) rfl rfl rfl ?_
        refine x_icmp (a' := 1117) (pc' := 1115) (z := true) rfl rfl rfl (by decide) (fun _ => ?_) (fun h => by cases h)
        refine x_iload (pc' := 1119) rfl rfl rfl ?_
        refine x_if (a' := 1134) (pc' := 1122) (z := true) rfl rfl rfl (by decide) (fun _ => ?_) (fun h => by cases h)
        refine x_goto (pc' := 2938) rfl rfl ?_
        refine x_iinc (pc' := 2941) (y := 7) (ls' := [_, _, _, _, _, _, _]) rfl rfl rfl rfl rfl ?_
        refine x_goto (pc' := 23) rfl rfl ?_
        refine x_iload (pc' := 25) rfl rfl rfl ?_
        refine x_aload_n (pc' := 26) rfl rfl rfl rfl rfl ?_
        refine x_alen (pc' := 27) (N := 7) rfl rfl rfl (Eq.trans rdNI (Eq.trans rdNthr (z_N_29_0 e))) (?_ : X _ _ _ (.inl 7 :: _) _ _)
        refine x_bipush (pc' := 29) rfl rfl ?_
        refine x_isub (pc' := 30) (z := 0) rfl rfl (by decide) ?_
        refine x_icmp (a' := 2944) (pc' := 33) (z := true) rfl rfl rfl (by decide) (fun _ => ?_) (fun h => by cases h)
        refine x_iconst (pc' := 2945) rfl rfl ?_
        refine x_retz (z := true) rfl rfl ?_
        exact Qp_ok e (p := 1) (q := 6) rfl rfl rfl rfl
      refine x_if (a' := 1088) (pc' := 1084) (z := decide ((xs 3) = 0)) rfl rfl rfl rfl (fun q12 => ?_) (fun q12 => ?_)
      · refine x_iconst (pc' := 1089) rfl rfl ?_
        ((try rw [q12] at J12); (try rw [q12]); (try simp only [cd_t, cd_f, nt_t, nt_f, an_t, an_f, or_t, or_f] at J12); (try simp only [cd_t, cd_f, nt_t, nt_f, an_t, an_f, or_t, or_f]); exact J12)
      · refine x_iconst (pc' := 1085) rfl rfl ?_
        refine x_goto (pc' := 1089) rfl rfl ?_
        ((try rw [q12] at J12); (try rw [q12]); (try simp only [cd_t, cd_f, nt_t, nt_f, an_t, an_f, or_t, or_f] at J12); (try simp only [cd_t, cd_f, nt_t, nt_f, an_t, an_f, or_t, or_f]); exact J12)
    · refine x_iload_n (pc' := 6) rfl rfl rfl ?_
      refine x_iload_n (pc' := 7) rfl rfl rfl ?_
      refine x_icmp_n (a' := 21) (pc' := 10) (z := decide (999 < (xs 4))) rfl rfl rfl (ik_le _ _) (fun q37 => ?_) (fun q37 => ?_)
      · refine x_ret rfl ?_
        refine sK_v (pc' := 28) rfl ?_
        refine x_ret rfl ?_
        refine sK_v (pc' := 21) rfl ?_
        refine x_iload (pc' := 23) rfl rfl rfl ?_
        refine x_iconst (pc' := 24) rfl rfl ?_
        refine x_bipush (pc' := 26) rfl rfl ?_
        refine x_cs (ls0 := [_, _, _]) (rest := []) rfl rfl rfl rfl ?_
        refine x_iload_n (pc' := 1) rfl rfl rfl ?_
        refine x_iload_n (pc' := 2) rfl rfl rfl ?_
        refine x_icmp (a' := 10) (pc' := 5) (z := decide ((xs 5) < 1)) rfl rfl rfl rfl (fun q38 => ?_) (fun q38 => ?_)
        · refine x_throw rfl rfl ?_
          refine sK_n (by decide +kernel) rfl ?_
          refine sK_h (h := 23) (by decide +kernel) rfl ?_
          refine x_catch (pc' := 25) (ls' := [_, _, _, _, _, _, _, _]) rfl rfl rfl rfl ?_
          refine x_iconst (pc' := 26) rfl rfl ?_
          refine x_reti rfl rfl ?_
          refine sK_i (pc' := 1060) rfl ?_
          refine x_istore (pc' := 1062) (ls' := [_, _, _, _, _, _, _]) rfl rfl rfl rfl ?_
          refine x_aload_n (pc' := 1063) rfl rfl rfl rfl rfl ?_
          refine x_aload_n (pc' := 1064) rfl rfl rfl rfl rfl ?_
          refine x_iload (pc' := 1066) rfl rfl rfl ?_
          refine x_iconst (pc' := 1067) rfl rfl ?_
          refine x_iadd (pc' := 1068) (z := 1) rfl rfl (by decide) ?_
          refine x_iald (pc' := 1069) (N := 7) (x := (io m)) rfl rfl rfl (Eq.trans rdNthr (z_N_29_0 e)) (io_in (p := 1) (N := 7) (by decide) (by decide)) (Eq.trans (congrArg (sA (sThr t) 29 0) (nn_io (p := 1) (by decide))) (Eq.trans rdAthr (Eq.trans (z_A_29_0_1 e) e0))) ?_
          refine x_aload_n (pc' := 1070) rfl rfl rfl rfl rfl ?_
          refine x_iload (pc' := 1072) rfl rfl rfl ?_
          refine x_iconst (pc' := 1073) rfl rfl ?_
          refine x_iadd (pc' := 1074) (z := 2) rfl rfl (by decide) ?_
          refine x_iald (pc' := 1075) (N := 7) (x := 0) rfl rfl rfl (Eq.trans rdNthr (z_N_29_0 e)) (io_in (p := 2) (N := 7) (by decide) (by decide)) (Eq.trans (congrArg (sA (sThr t) 29 0) (nn_io (p := 2) (by decide))) (Eq.trans rdAthr (Eq.trans (z_A_29_0_2 e) e1))) ?_
          refine x_aload_n (pc' := 1076) rfl rfl rfl rfl rfl ?_
          refine x_iload (pc' := 1078) rfl rfl rfl ?_
          refine x_iconst (pc' := 1079) rfl rfl ?_
          refine x_iadd (pc' := 1080) (z := 3) rfl rfl (by decide) ?_
          refine x_iald (pc' := 1081) (N := 7) (x := (xs 3)) rfl rfl rfl (Eq.trans rdNthr (z_N_29_0 e)) (io_in (p := 3) (N := 7) (by decide) (by decide)) (Eq.trans (congrArg (sA (sThr t) 29 0) (nn_io (p := 3) (by decide))) (Eq.trans rdAthr (z_A_29_0_3 e))) ?_
          have J39 : X 297 1089 [.inr (.inr (29, (some 0))), .inr (.inr (11, (some 0))), .inr (.inr (12, (some 0))), .inr (.inr (23, (some 0))), .inl 0, .inl 2, sJk] [.inl (bz (!(decide ((xs 3) = 0)))), .inl 0, .inl (io m), .inr (.inr (12, (some 0)))] (sThr t) Qp := by
            refine x_aload_n (pc' := 1090) rfl rfl rfl rfl rfl ?_
            refine x_iload (pc' := 1092) rfl rfl rfl ?_
            refine x_iconst (pc' := 1093) rfl rfl ?_
            refine x_iadd (pc' := 1094) (z := 4) rfl rfl (by decide) ?_
            refine x_iald (pc' := 1095) (N := 7) (x := (xs 4)) rfl rfl rfl (Eq.trans rdNthr (z_N_29_0 e)) (io_in (p := 4) (N := 7) (by decide) (by decide)) (Eq.trans (congrArg (sA (sThr t) 29 0) (nn_io (p := 4) (by decide))) (Eq.trans rdAthr (z_A_29_0_4 e))) ?_
            refine x_aload_n (pc' := 1096) rfl rfl rfl rfl rfl ?_
            refine x_iload (pc' := 1098) rfl rfl rfl ?_
            refine x_iconst (pc' := 1099) rfl rfl ?_
            refine x_iadd (pc' := 1100) (z := 5) rfl rfl (by decide) ?_
            refine x_iald (pc' := 1101) (N := 7) (x := (xs 5)) rfl rfl rfl (Eq.trans rdNthr (z_N_29_0 e)) (io_in (p := 5) (N := 7) (by decide) (by decide)) (Eq.trans (congrArg (sA (sThr t) 29 0) (nn_io (p := 5) (by decide))) (Eq.trans rdAthr (z_A_29_0_5 e))) ?_
            refine x_cv (ls0 := [_, _, _, _, _, _, sJk, sJk]) (rest := []) rfl rfl rfl rfl rfl ?_
            refine x_iload_n (pc' := 1) rfl rfl rfl ?_
            refine x_cs (ls0 := [_]) (rest := []) rfl rfl rfl rfl ?_
            refine x_iload_n (pc' := 1) rfl rfl rfl ?_
            refine x_iconst (pc' := 2) rfl rfl ?_
            refine x_iconst (pc' := 3) rfl rfl ?_
            refine x_cs (ls0 := [_, _, _]) (rest := []) rfl rfl rfl rfl ?_
            refine x_iload_n (pc' := 1) rfl rfl rfl ?_
            refine x_iload_n (pc' := 2) rfl rfl rfl ?_
            refine x_icmp (a' := 14) (pc' := 5) (z := false) rfl rfl rfl (by decide) (fun h => by cases h) (fun _ => ?_)
            refine x_iload_n (pc' := 6) rfl rfl rfl ?_
            refine x_iload_n (pc' := 7) rfl rfl rfl ?_
            refine x_icmp (a' := 14) (pc' := 10) (z := false) rfl rfl rfl (by decide) (fun h => by cases h) (fun _ => ?_)
            refine x_iconst (pc' := 11) rfl rfl ?_
            refine x_goto (pc' := 15) rfl rfl ?_
            refine x_retz (z := true) rfl rfl ?_
            refine sK_i (pc' := 6) rfl ?_
            refine x_retz (z := true) rfl rfl ?_
            refine sK_i (pc' := 4) rfl ?_
            refine x_if (a' := 31) (pc' := 7) (z := false) rfl rfl rfl (by decide) (fun h => by cases h) (fun _ => ?_)
            refine x_iload_n (pc' := 8) rfl rfl rfl ?_
            refine x_iload (pc' := 10) rfl rfl rfl ?_
            refine x_cs (ls0 := [_, _]) (rest := []) rfl rfl rfl rfl ?_
            refine x_iload_n (pc' := 1) rfl rfl rfl ?_
            refine x_iconst (pc' := 2) rfl rfl ?_
            refine x_icmp (a' := 16) (pc' := 5) (z := false) rfl rfl rfl (by decide) (fun h => by cases h) (fun _ => ?_)
            refine x_iload_n (pc' := 6) rfl rfl rfl ?_
            refine x_iconst (pc' := 7) rfl rfl ?_
            refine x_sipush (pc' := 10) rfl rfl ?_
            refine x_cs (ls0 := [_, _, _]) (rest := []) rfl rfl rfl rfl ?_
            refine x_iload_n (pc' := 1) rfl rfl rfl ?_
            refine x_iload_n (pc' := 2) rfl rfl rfl ?_
            refine x_icmp (a' := 14) (pc' := 5) (z := decide ((xs 4) < 1)) rfl rfl rfl rfl (fun h => absurd (of_decide_eq_true h) (of_decide_eq_false q11)) (fun _ => ?_)
            refine x_iload_n (pc' := 6) rfl rfl rfl ?_
            refine x_iload_n (pc' := 7) rfl rfl rfl ?_
            refine x_icmp (a' := 14) (pc' := 10) (z := decide (999 < (xs 4))) rfl rfl rfl rfl (fun h => absurd (of_decide_eq_true h) (of_decide_eq_false q37)) (fun _ => ?_)
            refine x_iconst (pc' := 11) rfl rfl ?_
            refine x_goto (pc' := 15) rfl rfl ?_
            refine x_retz (z := true) rfl rfl ?_
            refine sK_i (pc' := 13) rfl ?_
            refine x_goto (pc' := 26) rfl rfl ?_
            refine x_retz (z := true) rfl rfl ?_
            refine sK_i (pc' := 13) rfl ?_
            refine x_if (a' := 31) (pc' := 16) (z := false) rfl rfl rfl (by decide) (fun h => by cases h) (fun _ => ?_)
            refine x_iload (pc' := 18) rfl rfl rfl ?_
            refine x_iconst (pc' := 19) rfl rfl ?_
            refine x_bipush (pc' := 21) rfl rfl ?_
            refine x_cs (ls0 := [_, _, _]) (rest := []) rfl rfl rfl rfl ?_
            refine x_iload_n (pc' := 1) rfl rfl rfl ?_
            refine x_iload_n (pc' := 2) rfl rfl rfl ?_
            refine x_icmp (a' := 14) (pc' := 5) (z := decide ((xs 5) < 1)) rfl rfl rfl rfl (fun _ => ?_) (fun h => absurd (of_decide_eq_true q38) (of_decide_eq_false h))
            refine x_iconst (pc' := 15) rfl rfl ?_
            refine x_retz (z := false) rfl rfl ?_
            refine sK_i (pc' := 24) rfl ?_
            refine x_if (a' := 31) (pc' := 27) (z := true) rfl rfl rfl (by decide) (fun _ => ?_) (fun h => by cases h)
            refine x_iconst (pc' := 32) rfl rfl ?_
            refine x_istore (pc' := 34) (ls' := [_, _, _, _, _, _, _, _]) rfl rfl rfl rfl ?_
            refine x_iload_n (pc' := 35) rfl rfl rfl ?_
            refine x_cs (ls0 := [_]) (rest := []) rfl rfl rfl rfl ?_
            refine x_iload_n (pc' := 1) rfl rfl rfl ?_
            refine x_iconst (pc' := 2) rfl rfl ?_
            refine x_iconst (pc' := 3) rfl rfl ?_
            refine x_cs (ls0 := [_, _, _]) (rest := []) rfl rfl rfl rfl ?_
            refine x_iload_n (pc' := 1) rfl rfl rfl ?_
            refine x_iload_n (pc' := 2) rfl rfl rfl ?_
            refine x_icmp (a' := 14) (pc' := 5) (z := false) rfl rfl rfl (by decide) (fun h => by cases h) (fun _ => ?_)
            refine x_iload_n (pc' := 6) rfl rfl rfl ?_
            refine x_iload_n (pc' := 7) rfl rfl rfl ?_
            refine x_icmp (a' := 14) (pc' := 10) (z := false) rfl rfl rfl (by decide) (fun h => by cases h) (fun _ => ?_)
            refine x_iconst (pc' := 11) rfl rfl ?_
            refine x_goto (pc' := 15) rfl rfl ?_
            refine x_retz (z := true) rfl rfl ?_
            refine sK_i (pc' := 6) rfl ?_
            refine x_retz (z := true) rfl rfl ?_
            refine sK_i (pc' := 38) rfl ?_
            refine x_if (a' := 65) (pc' := 41) (z := false) rfl rfl rfl (by decide) (fun h => by cases h) (fun _ => ?_)
            refine x_aload_n (pc' := 42) rfl rfl rfl rfl rfl ?_
            refine x_gR (pc' := 45) (r := (some 0)) rfl rfl rfl (Eq.trans rdRthr (z_R_769_0 e)) ?_
            refine x_iload_n (pc' := 46) rfl rfl rfl ?_
            refine x_iald (pc' := 47) (N := 5) (x := 0) rfl rfl rfl (Eq.trans rdNthr (z_N_21_0 e)) (io_in (p := 0) (N := 5) (by decide) (by decide)) (Eq.trans (congrArg (sA (sThr t) 21 0) (nn_io (p := 0) (by decide))) (Eq.trans rdAthr (z_A_21_0_0 e))) ?_
            refine x_iconst (pc' := 48) rfl rfl ?_
            refine x_icmp (a' := 65) (pc' := 51) (z := true) rfl rfl rfl (by decide) (fun _ => ?_) (fun h => by cases h)
            refine x_iconst (pc' := 66) rfl rfl ?_
            refine x_istore (pc' := 68) (ls' := [_, _, _, _, _, _, _, _]) rfl rfl rfl rfl ?_
            refine x_aload_n (pc' := 69) rfl rfl rfl rfl rfl ?_
            refine x_aload_n (pc' := 70) rfl rfl rfl rfl rfl ?_
            refine x_iload_n (pc' := 71) rfl rfl rfl ?_
            refine x_iload_n (pc' := 72) rfl rfl rfl ?_
            refine x_iload (pc' := 74) rfl rfl rfl ?_
            refine x_iload (pc' := 76) rfl rfl rfl ?_
            refine x_cv (ls0 := [_, _, _, _, _, sJk]) (rest := [_]) rfl rfl rfl rfl rfl ?_
            refine x_iload_n (pc' := 1) rfl rfl rfl ?_
            refine x_cs (ls0 := [_]) (rest := []) rfl rfl rfl rfl ?_
            refine x_iload_n (pc' := 1) rfl rfl rfl ?_
            refine x_iconst (pc' := 2) rfl rfl ?_
            refine x_iconst (pc' := 3) rfl rfl ?_
            refine x_cs (ls0 := [_, _, _]) (rest := []) rfl rfl rfl rfl ?_
            refine x_iload_n (pc' := 1) rfl rfl rfl ?_
            refine x_iload_n (pc' := 2) rfl rfl rfl ?_
            refine x_icmp (a' := 14) (pc' := 5) (z := decide (m < 0)) rfl rfl rfl (ic_lt (p := m) (q := 0) (Nat.lt_trans hm (by decide)) (by decide)) (fun h => absurd (of_decide_eq_true h) (by first | decide | omega | simp)) (fun _ => ?_)
            refine x_iload_n (pc' := 6) rfl rfl rfl ?_
            refine x_iload_n (pc' := 7) rfl rfl rfl ?_
            refine x_icmp (a' := 14) (pc' := 10) (z := decide (5 < m)) rfl rfl rfl (ic_gt (p := m) (q := 5) (Nat.lt_trans hm (by decide)) (by decide)) (fun h => absurd (of_decide_eq_true h) (fun z => absurd hm (Nat.not_lt.mpr z))) (fun _ => ?_)
            refine x_iconst (pc' := 11) rfl rfl ?_
            refine x_goto (pc' := 15) rfl rfl ?_
            refine x_retz (z := true) rfl rfl ?_
            refine sK_i (pc' := 6) rfl ?_
            refine x_retz (z := true) rfl rfl ?_
            refine sK_i (pc' := 4) rfl ?_
            refine x_if (a' := 18) (pc' := 7) (z := false) rfl rfl rfl (by decide) (fun h => by cases h) (fun _ => ?_)
            refine x_iload_n (pc' := 8) rfl rfl rfl ?_
            refine x_cs (ls0 := [_]) (rest := []) rfl rfl rfl rfl ?_
            refine x_iload_n (pc' := 1) rfl rfl rfl ?_
            refine x_iconst (pc' := 2) rfl rfl ?_
            refine x_iconst (pc' := 3) rfl rfl ?_
            refine x_cs (ls0 := [_, _, _]) (rest := []) rfl rfl rfl rfl ?_
            refine x_iload_n (pc' := 1) rfl rfl rfl ?_
            refine x_iload_n (pc' := 2) rfl rfl rfl ?_
            refine x_icmp (a' := 14) (pc' := 5) (z := false) rfl rfl rfl (by decide) (fun h => by cases h) (fun _ => ?_)
            refine x_iload_n (pc' := 6) rfl rfl rfl ?_
            refine x_iload_n (pc' := 7) rfl rfl rfl ?_
            refine x_icmp (a' := 14) (pc' := 10) (z := false) rfl rfl rfl (by decide) (fun h => by cases h) (fun _ => ?_)
            refine x_iconst (pc' := 11) rfl rfl ?_
            refine x_goto (pc' := 15) rfl rfl ?_
            refine x_retz (z := true) rfl rfl ?_
            refine sK_i (pc' := 6) rfl ?_
            refine x_retz (z := true) rfl rfl ?_
            refine sK_i (pc' := 11) rfl ?_
            refine x_if (a' := 18) (pc' := 14) (z := false) rfl rfl rfl (by decide) (fun h => by cases h) (fun _ => ?_)
            refine x_iconst (pc' := 15) rfl rfl ?_
            refine x_goto (pc' := 19) rfl rfl ?_
            refine x_istore (pc' := 21) (ls' := [_, _, _, _, _, _]) rfl rfl rfl rfl ?_
            refine x_iload (pc' := 23) rfl rfl rfl ?_
            refine x_if (a' := 30) (pc' := 26) (z := true) rfl rfl rfl (by decide) (fun _ => ?_) (fun h => by cases h)
            refine x_iload_n (pc' := 31) rfl rfl rfl ?_
            refine x_if (a' := 38) (pc' := 34) (z := false) rfl rfl rfl (by decide) (fun h => by cases h) (fun _ => ?_)
            refine x_iconst (pc' := 35) rfl rfl ?_
            refine x_goto (pc' := 57) rfl rfl ?_
            refine x_reti rfl rfl ?_
            refine sK_i (pc' := 79) rfl ?_
            refine x_cv (ls0 := [_, _]) (rest := []) rfl rfl rfl rfl rfl ?_
            refine x_aload_n (pc' := 1) rfl rfl rfl rfl rfl ?_
            refine x_iload_n (pc' := 2) rfl rfl rfl ?_
            refine x_pI (pc' := 5) rfl rfl rfl ?_
            refine x_iload_n (pc' := 6) rfl rfl rfl ?_
            refine x_if (a' := 13) (pc' := 9) (z := true) rfl rfl rfl (by decide) (fun _ => ?_) (fun h => by cases h)
            refine x_iconst (pc' := 14) rfl rfl ?_
            refine x_retz (z := false) rfl rfl ?_
            refine sK_i (pc' := 82) rfl ?_
            refine x_if (a' := 102) (pc' := 85) (z := true) rfl rfl rfl (by decide) (fun _ => ?_) (fun h => by cases h)
            refine x_iconst (pc' := 103) rfl rfl ?_
            refine x_reti rfl rfl ?_
            refine sK_i (pc' := 1104) rfl ?_
            refine x_istore (pc' := 1106) (ls' := [_, _, _, _, _, _, _]) rfl rfl rfl rfl ?_
            refine x_aload_n (pc' := 1107) rfl rfl rfl rfl rfl ?_
            refine x_cv (ls0 := [_]) (rest := []) rfl rfl rfl rfl rfl ?_
            refine x_aload_n (pc' := 1) rfl rfl rfl rfl rfl ?_
            refine x_gI (pc' := 4) (x := 2) rfl rfl rfl sI_s ?_
            refine x_reti rfl rfl ?_
            refine sK_i (pc' := 1110) rfl ?_
            refine x_iload (pc' := 1112) rfl rfl rfl ?_
            refine x_icmp (a' := 1117) (pc' := 1115) (z := true) rfl rfl rfl (by decide) (fun _ => ?_) (fun h => by cases h)
            refine x_iload (pc' := 1119) rfl rfl rfl ?_
            refine x_if (a' := 1134) (pc' := 1122) (z := true) rfl rfl rfl (by decide) (fun _ => ?_) (fun h => by cases h)
            refine x_goto (pc' := 2938) rfl rfl ?_
            refine x_iinc (pc' := 2941) (y := 7) (ls' := [_, _, _, _, _, _, _]) rfl rfl rfl rfl rfl ?_
            refine x_goto (pc' := 23) rfl rfl ?_
            refine x_iload (pc' := 25) rfl rfl rfl ?_
            refine x_aload_n (pc' := 26) rfl rfl rfl rfl rfl ?_
            refine x_alen (pc' := 27) (N := 7) rfl rfl rfl (Eq.trans rdNI (Eq.trans rdNthr (z_N_29_0 e))) (?_ : X _ _ _ (.inl 7 :: _) _ _)
            refine x_bipush (pc' := 29) rfl rfl ?_
            refine x_isub (pc' := 30) (z := 0) rfl rfl (by decide) ?_
            refine x_icmp (a' := 2944) (pc' := 33) (z := true) rfl rfl rfl (by decide) (fun _ => ?_) (fun h => by cases h)
            refine x_iconst (pc' := 2945) rfl rfl ?_
            refine x_retz (z := true) rfl rfl ?_
            exact Qp_ok e (p := 1) (q := 6) rfl rfl rfl rfl
          refine x_if (a' := 1088) (pc' := 1084) (z := decide ((xs 3) = 0)) rfl rfl rfl rfl (fun q39 => ?_) (fun q39 => ?_)
          · refine x_iconst (pc' := 1089) rfl rfl ?_
            ((try rw [q39] at J39); (try rw [q39]); (try simp only [cd_t, cd_f, nt_t, nt_f, an_t, an_f, or_t, or_f] at J39); (try simp only [cd_t, cd_f, nt_t, nt_f, an_t, an_f, or_t, or_f]); exact J39)
          · refine x_iconst (pc' := 1085) rfl rfl ?_
            refine x_goto (pc' := 1089) rfl rfl ?_
            ((try rw [q39] at J39); (try rw [q39]); (try simp only [cd_t, cd_f, nt_t, nt_f, an_t, an_f, or_t, or_f] at J39); (try simp only [cd_t, cd_f, nt_t, nt_f, an_t, an_f, or_t, or_f]); exact J39)
        · refine x_iload_n (pc' := 6) rfl rfl rfl ?_
          refine x_iload_n (pc' := 7) rfl rfl rfl ?_
          refine x_icmp_n (a' := 21) (pc' := 10) (z := decide (100 < (xs 5))) rfl rfl rfl (ik_le _ _) (fun q67 => ?_) (fun q67 => ?_)
          · refine x_ret rfl ?_
            refine sK_v (pc' := 29) rfl ?_
            refine x_aload (pc' := 31) rfl rfl rfl rfl rfl ?_
            refine x_gI (pc' := 34) (x := 0) rfl rfl rfl (z_I_67_0 e) ?_
            refine x_iconst (pc' := 35) rfl rfl ?_
            refine x_icmp (a' := 42) (pc' := 38) (z := true) rfl rfl rfl (by decide) (fun _ => ?_) (fun h => by cases h)
            refine x_iconst (pc' := 43) rfl rfl ?_
            refine x_cs (ls0 := [_]) (rest := []) rfl rfl rfl rfl ?_
            refine x_iload_n (pc' := 1) rfl rfl rfl ?_
            refine x_if (a' := 15) (pc' := 4) (z := false) rfl rfl rfl (by decide) (fun h => by cases h) (fun _ => ?_)
            refine x_throw rfl rfl ?_
            refine sK_n (by decide +kernel) rfl ?_
            refine sK_h (h := 27) (by decide +kernel) rfl ?_
            refine x_catch (pc' := 29) (ls' := [_, _, _, _, _, _, _, _]) rfl rfl rfl rfl ?_
            refine x_iconst (pc' := 30) rfl rfl ?_
            refine x_reti rfl rfl ?_
            refine sK_i (pc' := 1060) rfl ?_
            refine x_istore (pc' := 1062) (ls' := [_, _, _, _, _, _, _]) rfl rfl rfl rfl ?_
            refine x_aload_n (pc' := 1063) rfl rfl rfl rfl rfl ?_
            refine x_aload_n (pc' := 1064) rfl rfl rfl rfl rfl ?_
            refine x_iload (pc' := 1066) rfl rfl rfl ?_
            refine x_iconst (pc' := 1067) rfl rfl ?_
            refine x_iadd (pc' := 1068) (z := 1) rfl rfl (by decide) ?_
            refine x_iald (pc' := 1069) (N := 7) (x := (io m)) rfl rfl rfl (Eq.trans rdNthr (z_N_29_0 e)) (io_in (p := 1) (N := 7) (by decide) (by decide)) (Eq.trans (congrArg (sA (sThr t) 29 0) (nn_io (p := 1) (by decide))) (Eq.trans rdAthr (Eq.trans (z_A_29_0_1 e) e0))) ?_
            refine x_aload_n (pc' := 1070) rfl rfl rfl rfl rfl ?_
            refine x_iload (pc' := 1072) rfl rfl rfl ?_
            refine x_iconst (pc' := 1073) rfl rfl ?_
            refine x_iadd (pc' := 1074) (z := 2) rfl rfl (by decide) ?_
            refine x_iald (pc' := 1075) (N := 7) (x := 0) rfl rfl rfl (Eq.trans rdNthr (z_N_29_0 e)) (io_in (p := 2) (N := 7) (by decide) (by decide)) (Eq.trans (congrArg (sA (sThr t) 29 0) (nn_io (p := 2) (by decide))) (Eq.trans rdAthr (Eq.trans (z_A_29_0_2 e) e1))) ?_
            refine x_aload_n (pc' := 1076) rfl rfl rfl rfl rfl ?_
            refine x_iload (pc' := 1078) rfl rfl rfl ?_
            refine x_iconst (pc' := 1079) rfl rfl ?_
            refine x_iadd (pc' := 1080) (z := 3) rfl rfl (by decide) ?_
            refine x_iald (pc' := 1081) (N := 7) (x := (xs 3)) rfl rfl rfl (Eq.trans rdNthr (z_N_29_0 e)) (io_in (p := 3) (N := 7) (by decide) (by decide)) (Eq.trans (congrArg (sA (sThr t) 29 0) (nn_io (p := 3) (by decide))) (Eq.trans rdAthr (z_A_29_0_3 e))) ?_
            have J70 : X 297 1089 [.inr (.inr (29, (some 0))), .inr (.inr (11, (some 0))), .inr (.inr (12, (some 0))), .inr (.inr (23, (some 0))), .inl 0, .inl 3, sJk] [.inl (bz (!(decide ((xs 3) = 0)))), .inl 0, .inl (io m), .inr (.inr (12, (some 0)))] (sThr t) Qp := by
              refine x_aload_n (pc' := 1090) rfl rfl rfl rfl rfl ?_
              refine x_iload (pc' := 1092) rfl rfl rfl ?_
              refine x_iconst (pc' := 1093) rfl rfl ?_
              refine x_iadd (pc' := 1094) (z := 4) rfl rfl (by decide) ?_
              refine x_iald (pc' := 1095) (N := 7) (x := (xs 4)) rfl rfl rfl (Eq.trans rdNthr (z_N_29_0 e)) (io_in (p := 4) (N := 7) (by decide) (by decide)) (Eq.trans (congrArg (sA (sThr t) 29 0) (nn_io (p := 4) (by decide))) (Eq.trans rdAthr (z_A_29_0_4 e))) ?_
              refine x_aload_n (pc' := 1096) rfl rfl rfl rfl rfl ?_
              refine x_iload (pc' := 1098) rfl rfl rfl ?_
              refine x_iconst (pc' := 1099) rfl rfl ?_
              refine x_iadd (pc' := 1100) (z := 5) rfl rfl (by decide) ?_
              refine x_iald (pc' := 1101) (N := 7) (x := (xs 5)) rfl rfl rfl (Eq.trans rdNthr (z_N_29_0 e)) (io_in (p := 5) (N := 7) (by decide) (by decide)) (Eq.trans (congrArg (sA (sThr t) 29 0) (nn_io (p := 5) (by decide))) (Eq.trans rdAthr (z_A_29_0_5 e))) ?_
              refine x_cv (ls0 := [_, _, _, _, _, _, sJk, sJk]) (rest := []) rfl rfl rfl rfl rfl ?_
              refine x_iload_n (pc' := 1) rfl rfl rfl ?_
              refine x_cs (ls0 := [_]) (rest := []) rfl rfl rfl rfl ?_
              refine x_iload_n (pc' := 1) rfl rfl rfl ?_
              refine x_iconst (pc' := 2) rfl rfl ?_
              refine x_iconst (pc' := 3) rfl rfl ?_
              refine x_cs (ls0 := [_, _, _]) (rest := []) rfl rfl rfl rfl ?_
              refine x_iload_n (pc' := 1) rfl rfl rfl ?_
              refine x_iload_n (pc' := 2) rfl rfl rfl ?_
              refine x_icmp (a' := 14) (pc' := 5) (z := false) rfl rfl rfl (by decide) (fun h => by cases h) (fun _ => ?_)
              refine x_iload_n (pc' := 6) rfl rfl rfl ?_
              refine x_iload_n (pc' := 7) rfl rfl rfl ?_
              refine x_icmp (a' := 14) (pc' := 10) (z := false) rfl rfl rfl (by decide) (fun h => by cases h) (fun _ => ?_)
              refine x_iconst (pc' := 11) rfl rfl ?_
              refine x_goto (pc' := 15) rfl rfl ?_
              refine x_retz (z := true) rfl rfl ?_
              refine sK_i (pc' := 6) rfl ?_
              refine x_retz (z := true) rfl rfl ?_
              refine sK_i (pc' := 4) rfl ?_
              refine x_if (a' := 31) (pc' := 7) (z := false) rfl rfl rfl (by decide) (fun h => by cases h) (fun _ => ?_)
              refine x_iload_n (pc' := 8) rfl rfl rfl ?_
              refine x_iload (pc' := 10) rfl rfl rfl ?_
              refine x_cs (ls0 := [_, _]) (rest := []) rfl rfl rfl rfl ?_
              refine x_iload_n (pc' := 1) rfl rfl rfl ?_
              refine x_iconst (pc' := 2) rfl rfl ?_
              refine x_icmp (a' := 16) (pc' := 5) (z := false) rfl rfl rfl (by decide) (fun h => by cases h) (fun _ => ?_)
              refine x_iload_n (pc' := 6) rfl rfl rfl ?_
              refine x_iconst (pc' := 7) rfl rfl ?_
              refine x_sipush (pc' := 10) rfl rfl ?_
              refine x_cs (ls0 := [_, _, _]) (rest := []) rfl rfl rfl rfl ?_
              refine x_iload_n (pc' := 1) rfl rfl rfl ?_
              refine x_iload_n (pc' := 2) rfl rfl rfl ?_
              refine x_icmp (a' := 14) (pc' := 5) (z := decide ((xs 4) < 1)) rfl rfl rfl rfl (fun h => absurd (of_decide_eq_true h) (of_decide_eq_false q11)) (fun _ => ?_)
              refine x_iload_n (pc' := 6) rfl rfl rfl ?_
              refine x_iload_n (pc' := 7) rfl rfl rfl ?_
              refine x_icmp (a' := 14) (pc' := 10) (z := decide (999 < (xs 4))) rfl rfl rfl rfl (fun h => absurd (of_decide_eq_true h) (of_decide_eq_false q37)) (fun _ => ?_)
              refine x_iconst (pc' := 11) rfl rfl ?_
              refine x_goto (pc' := 15) rfl rfl ?_
              refine x_retz (z := true) rfl rfl ?_
              refine sK_i (pc' := 13) rfl ?_
              refine x_goto (pc' := 26) rfl rfl ?_
              refine x_retz (z := true) rfl rfl ?_
              refine sK_i (pc' := 13) rfl ?_
              refine x_if (a' := 31) (pc' := 16) (z := false) rfl rfl rfl (by decide) (fun h => by cases h) (fun _ => ?_)
              refine x_iload (pc' := 18) rfl rfl rfl ?_
              refine x_iconst (pc' := 19) rfl rfl ?_
              refine x_bipush (pc' := 21) rfl rfl ?_
              refine x_cs (ls0 := [_, _, _]) (rest := []) rfl rfl rfl rfl ?_
              refine x_iload_n (pc' := 1) rfl rfl rfl ?_
              refine x_iload_n (pc' := 2) rfl rfl rfl ?_
              refine x_icmp (a' := 14) (pc' := 5) (z := decide ((xs 5) < 1)) rfl rfl rfl rfl (fun h => absurd (of_decide_eq_true h) (of_decide_eq_false q38)) (fun _ => ?_)
              refine x_iload_n (pc' := 6) rfl rfl rfl ?_
              refine x_iload_n (pc' := 7) rfl rfl rfl ?_
              refine x_icmp (a' := 14) (pc' := 10) (z := decide (100 < (xs 5))) rfl rfl rfl rfl (fun h => absurd (of_decide_eq_true h) (of_decide_eq_false q67)) (fun _ => ?_)
              refine x_iconst (pc' := 11) rfl rfl ?_
              refine x_goto (pc' := 15) rfl rfl ?_
              refine x_retz (z := true) rfl rfl ?_
              refine sK_i (pc' := 24) rfl ?_
              refine x_if (a' := 31) (pc' := 27) (z := false) rfl rfl rfl (by decide) (fun h => by cases h) (fun _ => ?_)
              refine x_iconst (pc' := 28) rfl rfl ?_
              refine x_goto (pc' := 32) rfl rfl ?_
              refine x_istore (pc' := 34) (ls' := [_, _, _, _, _, _, _, _]) rfl rfl rfl rfl ?_
              refine x_iload_n (pc' := 35) rfl rfl rfl ?_
              refine x_cs (ls0 := [_]) (rest := []) rfl rfl rfl rfl ?_
              refine x_iload_n (pc' := 1) rfl rfl rfl ?_
              refine x_iconst (pc' := 2) rfl rfl ?_
              refine x_iconst (pc' := 3) rfl rfl ?_
              refine x_cs (ls0 := [_, _, _]) (rest := []) rfl rfl rfl rfl ?_
              refine x_iload_n (pc' := 1) rfl rfl rfl ?_
              refine x_iload_n (pc' := 2) rfl rfl rfl ?_
              refine x_icmp (a' := 14) (pc' := 5) (z := false) rfl rfl rfl (by decide) (fun h => by cases h) (fun _ => ?_)
              refine x_iload_n (pc' := 6) rfl rfl rfl ?_
              refine x_iload_n (pc' := 7) rfl rfl rfl ?_
              refine x_icmp (a' := 14) (pc' := 10) (z := false) rfl rfl rfl (by decide) (fun h => by cases h) (fun _ => ?_)
              refine x_iconst (pc' := 11) rfl rfl ?_
              refine x_goto (pc' := 15) rfl rfl ?_
              refine x_retz (z := true) rfl rfl ?_
              refine sK_i (pc' := 6) rfl ?_
              refine x_retz (z := true) rfl rfl ?_
              refine sK_i (pc' := 38) rfl ?_
              refine x_if (a' := 65) (pc' := 41) (z := false) rfl rfl rfl (by decide) (fun h => by cases h) (fun _ => ?_)
              refine x_aload_n (pc' := 42) rfl rfl rfl rfl rfl ?_
              refine x_gR (pc' := 45) (r := (some 0)) rfl rfl rfl (Eq.trans rdRthr (z_R_769_0 e)) ?_
              refine x_iload_n (pc' := 46) rfl rfl rfl ?_
              refine x_iald (pc' := 47) (N := 5) (x := 0) rfl rfl rfl (Eq.trans rdNthr (z_N_21_0 e)) (io_in (p := 0) (N := 5) (by decide) (by decide)) (Eq.trans (congrArg (sA (sThr t) 21 0) (nn_io (p := 0) (by decide))) (Eq.trans rdAthr (z_A_21_0_0 e))) ?_
              refine x_iconst (pc' := 48) rfl rfl ?_
              refine x_icmp (a' := 65) (pc' := 51) (z := true) rfl rfl rfl (by decide) (fun _ => ?_) (fun h => by cases h)
              refine x_iconst (pc' := 66) rfl rfl ?_
              refine x_istore (pc' := 68) (ls' := [_, _, _, _, _, _, _, _]) rfl rfl rfl rfl ?_
              refine x_aload_n (pc' := 69) rfl rfl rfl rfl rfl ?_
              refine x_aload_n (pc' := 70) rfl rfl rfl rfl rfl ?_
              refine x_iload_n (pc' := 71) rfl rfl rfl ?_
              refine x_iload_n (pc' := 72) rfl rfl rfl ?_
              refine x_iload (pc' := 74) rfl rfl rfl ?_
              refine x_iload (pc' := 76) rfl rfl rfl ?_
              refine x_cv (ls0 := [_, _, _, _, _, sJk]) (rest := [_]) rfl rfl rfl rfl rfl ?_
              refine x_iload_n (pc' := 1) rfl rfl rfl ?_
              refine x_cs (ls0 := [_]) (rest := []) rfl rfl rfl rfl ?_
              refine x_iload_n (pc' := 1) rfl rfl rfl ?_
              refine x_iconst (pc' := 2) rfl rfl ?_
              refine x_iconst (pc' := 3) rfl rfl ?_
              refine x_cs (ls0 := [_, _, _]) (rest := []) rfl rfl rfl rfl ?_
              refine x_iload_n (pc' := 1) rfl rfl rfl ?_
              refine x_iload_n (pc' := 2) rfl rfl rfl ?_
              refine x_icmp (a' := 14) (pc' := 5) (z := decide (m < 0)) rfl rfl rfl (ic_lt (p := m) (q := 0) (Nat.lt_trans hm (by decide)) (by decide)) (fun h => absurd (of_decide_eq_true h) (by first | decide | omega | simp)) (fun _ => ?_)
              refine x_iload_n (pc' := 6) rfl rfl rfl ?_
              refine x_iload_n (pc' := 7) rfl rfl rfl ?_
              refine x_icmp (a' := 14) (pc' := 10) (z := decide (5 < m)) rfl rfl rfl (ic_gt (p := m) (q := 5) (Nat.lt_trans hm (by decide)) (by decide)) (fun h => absurd (of_decide_eq_true h) (fun z => absurd hm (Nat.not_lt.mpr z))) (fun _ => ?_)
              refine x_iconst (pc' := 11) rfl rfl ?_
              refine x_goto (pc' := 15) rfl rfl ?_
              refine x_retz (z := true) rfl rfl ?_
              refine sK_i (pc' := 6) rfl ?_
              refine x_retz (z := true) rfl rfl ?_
              refine sK_i (pc' := 4) rfl ?_
              refine x_if (a' := 18) (pc' := 7) (z := false) rfl rfl rfl (by decide) (fun h => by cases h) (fun _ => ?_)
              refine x_iload_n (pc' := 8) rfl rfl rfl ?_
              refine x_cs (ls0 := [_]) (rest := []) rfl rfl rfl rfl ?_
              refine x_iload_n (pc' := 1) rfl rfl rfl ?_
              refine x_iconst (pc' := 2) rfl rfl ?_
              refine x_iconst (pc' := 3) rfl rfl ?_
              refine x_cs (ls0 := [_, _, _]) (rest := []) rfl rfl rfl rfl ?_
              refine x_iload_n (pc' := 1) rfl rfl rfl ?_
              refine x_iload_n (pc' := 2) rfl rfl rfl ?_
              refine x_icmp (a' := 14) (pc' := 5) (z := false) rfl rfl rfl (by decide) (fun h => by cases h) (fun _ => ?_)
              refine x_iload_n (pc' := 6) rfl rfl rfl ?_
              refine x_iload_n (pc' := 7) rfl rfl rfl ?_
              refine x_icmp (a' := 14) (pc' := 10) (z := false) rfl rfl rfl (by decide) (fun h => by cases h) (fun _ => ?_)
              refine x_iconst (pc' := 11) rfl rfl ?_
              refine x_goto (pc' := 15) rfl rfl ?_
              refine x_retz (z := true) rfl rfl ?_
              refine sK_i (pc' := 6) rfl ?_
              refine x_retz (z := true) rfl rfl ?_
              refine sK_i (pc' := 11) rfl ?_
              refine x_if (a' := 18) (pc' := 14) (z := false) rfl rfl rfl (by decide) (fun h => by cases h) (fun _ => ?_)
              refine x_iconst (pc' := 15) rfl rfl ?_
              refine x_goto (pc' := 19) rfl rfl ?_
              refine x_istore (pc' := 21) (ls' := [_, _, _, _, _, _]) rfl rfl rfl rfl ?_
              refine x_iload (pc' := 23) rfl rfl rfl ?_
              refine x_if (a' := 30) (pc' := 26) (z := true) rfl rfl rfl (by decide) (fun _ => ?_) (fun h => by cases h)
              refine x_iload_n (pc' := 31) rfl rfl rfl ?_
              refine x_if (a' := 38) (pc' := 34) (z := true) rfl rfl rfl (by decide) (fun _ => ?_) (fun h => by cases h)
              refine x_aload_n (pc' := 39) rfl rfl rfl rfl rfl ?_
              refine x_gR (pc' := 42) (r := (some 2)) rfl rfl rfl (Eq.trans rdRthr (z_R_781_0 e)) ?_
              refine x_iload_n (pc' := 43) rfl rfl rfl ?_
              refine x_bald (pc' := 44) (N := 6) (z := false) rfl rfl (Eq.trans rdNthr (z_N_22_2 e)) (io_in (p := m) (N := 6) hm (by decide)) (Eq.trans (congrArg (sB (sThr t) 22 2) (nn_io (p := m) (Nat.lt_trans hm (by decide)))) (Eq.trans rdBthr (z_B_22_2_y e _))) ?_
              refine x_if (a' := 52) (pc' := 47) (z := false) rfl rfl rfl (by decide) (fun h => by cases h) (fun _ => ?_)
              refine x_iload (pc' := 49) rfl rfl rfl ?_
              refine x_if (a' := 56) (pc' := 52) (z := false) rfl rfl rfl (by decide) (fun h => by cases h) (fun _ => ?_)
              refine x_iconst (pc' := 53) rfl rfl ?_
              refine x_goto (pc' := 57) rfl rfl ?_
              refine x_reti rfl rfl ?_
              refine sK_i (pc' := 79) rfl ?_
              refine x_cv (ls0 := [_, _]) (rest := []) rfl rfl rfl rfl rfl ?_
              refine x_aload_n (pc' := 1) rfl rfl rfl rfl rfl ?_
              refine x_iload_n (pc' := 2) rfl rfl rfl ?_
              refine x_pI (pc' := 5) rfl rfl rfl ?_
              refine x_iload_n (pc' := 6) rfl rfl rfl ?_
              refine x_if (a' := 13) (pc' := 9) (z := true) rfl rfl rfl (by decide) (fun _ => ?_) (fun h => by cases h)
              refine x_iconst (pc' := 14) rfl rfl ?_
              refine x_retz (z := false) rfl rfl ?_
              refine sK_i (pc' := 82) rfl ?_
              refine x_if (a' := 102) (pc' := 85) (z := true) rfl rfl rfl (by decide) (fun _ => ?_) (fun h => by cases h)
              refine x_iconst (pc' := 103) rfl rfl ?_
              refine x_reti rfl rfl ?_
              refine sK_i (pc' := 1104) rfl ?_
              refine x_istore (pc' := 1106) (ls' := [_, _, _, _, _, _, _]) rfl rfl rfl rfl ?_
              refine x_aload_n (pc' := 1107) rfl rfl rfl rfl rfl ?_
              refine x_cv (ls0 := [_]) (rest := []) rfl rfl rfl rfl rfl ?_
              refine x_aload_n (pc' := 1) rfl rfl rfl rfl rfl ?_
              refine x_gI (pc' := 4) (x := 3) rfl rfl rfl sI_s ?_
              refine x_reti rfl rfl ?_
              refine sK_i (pc' := 1110) rfl ?_
              refine x_iload (pc' := 1112) rfl rfl rfl ?_
              refine x_icmp (a' := 1117) (pc' := 1115) (z := true) rfl rfl rfl (by decide) (fun _ => ?_) (fun h => by cases h)
              refine x_iload (pc' := 1119) rfl rfl rfl ?_
              refine x_if (a' := 1134) (pc' := 1122) (z := true) rfl rfl rfl (by decide) (fun _ => ?_) (fun h => by cases h)
              refine x_goto (pc' := 2938) rfl rfl ?_
              refine x_iinc (pc' := 2941) (y := 7) (ls' := [_, _, _, _, _, _, _]) rfl rfl rfl rfl rfl ?_
              refine x_goto (pc' := 23) rfl rfl ?_
              refine x_iload (pc' := 25) rfl rfl rfl ?_
              refine x_aload_n (pc' := 26) rfl rfl rfl rfl rfl ?_
              refine x_alen (pc' := 27) (N := 7) rfl rfl rfl (Eq.trans rdNI (Eq.trans rdNthr (z_N_29_0 e))) (?_ : X _ _ _ (.inl 7 :: _) _ _)
              refine x_bipush (pc' := 29) rfl rfl ?_
              refine x_isub (pc' := 30) (z := 0) rfl rfl (by decide) ?_
              refine x_icmp (a' := 2944) (pc' := 33) (z := true) rfl rfl rfl (by decide) (fun _ => ?_) (fun h => by cases h)
              refine x_iconst (pc' := 2945) rfl rfl ?_
              refine x_retz (z := true) rfl rfl ?_
              exact Qp_ok e (p := 1) (q := 6) rfl rfl rfl rfl
            refine x_if (a' := 1088) (pc' := 1084) (z := decide ((xs 3) = 0)) rfl rfl rfl rfl (fun q70 => ?_) (fun q70 => ?_)
            · refine x_iconst (pc' := 1089) rfl rfl ?_
              ((try rw [q70] at J70); (try rw [q70]); (try simp only [cd_t, cd_f, nt_t, nt_f, an_t, an_f, or_t, or_f] at J70); (try simp only [cd_t, cd_f, nt_t, nt_f, an_t, an_f, or_t, or_f]); exact J70)
            · refine x_iconst (pc' := 1085) rfl rfl ?_
              refine x_goto (pc' := 1089) rfl rfl ?_
              ((try rw [q70] at J70); (try rw [q70]); (try simp only [cd_t, cd_f, nt_t, nt_f, an_t, an_f, or_t, or_f] at J70); (try simp only [cd_t, cd_f, nt_t, nt_f, an_t, an_f, or_t, or_f]); exact J70)
          · refine x_throw rfl rfl ?_
            refine sK_n (by decide +kernel) rfl ?_
            refine sK_h (h := 23) (by decide +kernel) rfl ?_
            refine x_catch (pc' := 25) (ls' := [_, _, _, _, _, _, _, _]) rfl rfl rfl rfl ?_
            refine x_iconst (pc' := 26) rfl rfl ?_
            refine x_reti rfl rfl ?_
            refine sK_i (pc' := 1060) rfl ?_
            refine x_istore (pc' := 1062) (ls' := [_, _, _, _, _, _, _]) rfl rfl rfl rfl ?_
            refine x_aload_n (pc' := 1063) rfl rfl rfl rfl rfl ?_
            refine x_aload_n (pc' := 1064) rfl rfl rfl rfl rfl ?_
            refine x_iload (pc' := 1066) rfl rfl rfl ?_
            refine x_iconst (pc' := 1067) rfl rfl ?_
            refine x_iadd (pc' := 1068) (z := 1) rfl rfl (by decide) ?_
            refine x_iald (pc' := 1069) (N := 7) (x := (io m)) rfl rfl rfl (Eq.trans rdNthr (z_N_29_0 e)) (io_in (p := 1) (N := 7) (by decide) (by decide)) (Eq.trans (congrArg (sA (sThr t) 29 0) (nn_io (p := 1) (by decide))) (Eq.trans rdAthr (Eq.trans (z_A_29_0_1 e) e0))) ?_
            refine x_aload_n (pc' := 1070) rfl rfl rfl rfl rfl ?_
            refine x_iload (pc' := 1072) rfl rfl rfl ?_
            refine x_iconst (pc' := 1073) rfl rfl ?_
            refine x_iadd (pc' := 1074) (z := 2) rfl rfl (by decide) ?_
            refine x_iald (pc' := 1075) (N := 7) (x := 0) rfl rfl rfl (Eq.trans rdNthr (z_N_29_0 e)) (io_in (p := 2) (N := 7) (by decide) (by decide)) (Eq.trans (congrArg (sA (sThr t) 29 0) (nn_io (p := 2) (by decide))) (Eq.trans rdAthr (Eq.trans (z_A_29_0_2 e) e1))) ?_
            refine x_aload_n (pc' := 1076) rfl rfl rfl rfl rfl ?_
            refine x_iload (pc' := 1078) rfl rfl rfl ?_
            refine x_iconst (pc' := 1079) rfl rfl ?_
            refine x_iadd (pc' := 1080) (z := 3) rfl rfl (by decide) ?_
            refine x_iald (pc' := 1081) (N := 7) (x := (xs 3)) rfl rfl rfl (Eq.trans rdNthr (z_N_29_0 e)) (io_in (p := 3) (N := 7) (by decide) (by decide)) (Eq.trans (congrArg (sA (sThr t) 29 0) (nn_io (p := 3) (by decide))) (Eq.trans rdAthr (z_A_29_0_3 e))) ?_
            have J101 : X 297 1089 [.inr (.inr (29, (some 0))), .inr (.inr (11, (some 0))), .inr (.inr (12, (some 0))), .inr (.inr (23, (some 0))), .inl 0, .inl 2, sJk] [.inl (bz (!(decide ((xs 3) = 0)))), .inl 0, .inl (io m), .inr (.inr (12, (some 0)))] (sThr t) Qp := by
              refine x_aload_n (pc' := 1090) rfl rfl rfl rfl rfl ?_
              refine x_iload (pc' := 1092) rfl rfl rfl ?_
              refine x_iconst (pc' := 1093) rfl rfl ?_
              refine x_iadd (pc' := 1094) (z := 4) rfl rfl (by decide) ?_
              refine x_iald (pc' := 1095) (N := 7) (x := (xs 4)) rfl rfl rfl (Eq.trans rdNthr (z_N_29_0 e)) (io_in (p := 4) (N := 7) (by decide) (by decide)) (Eq.trans (congrArg (sA (sThr t) 29 0) (nn_io (p := 4) (by decide))) (Eq.trans rdAthr (z_A_29_0_4 e))) ?_
              refine x_aload_n (pc' := 1096) rfl rfl rfl rfl rfl ?_
              refine x_iload (pc' := 1098) rfl rfl rfl ?_
              refine x_iconst (pc' := 1099) rfl rfl ?_
              refine x_iadd (pc' := 1100) (z := 5) rfl rfl (by decide) ?_
              refine x_iald (pc' := 1101) (N := 7) (x := (xs 5)) rfl rfl rfl (Eq.trans rdNthr (z_N_29_0 e)) (io_in (p := 5) (N := 7) (by decide) (by decide)) (Eq.trans (congrArg (sA (sThr t) 29 0) (nn_io (p := 5) (by decide))) (Eq.trans rdAthr (z_A_29_0_5 e))) ?_
              refine x_cv (ls0 := [_, _, _, _, _, _, sJk, sJk]) (rest := []) rfl rfl rfl rfl rfl ?_
              refine x_iload_n (pc' := 1) rfl rfl rfl ?_
              refine x_cs (ls0 := [_]) (rest := []) rfl rfl rfl rfl ?_
              refine x_iload_n (pc' := 1) rfl rfl rfl ?_
              refine x_iconst (pc' := 2) rfl rfl ?_
              refine x_iconst (pc' := 3) rfl rfl ?_
              refine x_cs (ls0 := [_, _, _]) (rest := []) rfl rfl rfl rfl ?_
              refine x_iload_n (pc' := 1) rfl rfl rfl ?_
              refine x_iload_n (pc' := 2) rfl rfl rfl ?_
              refine x_icmp (a' := 14) (pc' := 5) (z := false) rfl rfl rfl (by decide) (fun h => by cases h) (fun _ => ?_)
              refine x_iload_n (pc' := 6) rfl rfl rfl ?_
              refine x_iload_n (pc' := 7) rfl rfl rfl ?_
              refine x_icmp (a' := 14) (pc' := 10) (z := false) rfl rfl rfl (by decide) (fun h => by cases h) (fun _ => ?_)
              refine x_iconst (pc' := 11) rfl rfl ?_
              refine x_goto (pc' := 15) rfl rfl ?_
              refine x_retz (z := true) rfl rfl ?_
              refine sK_i (pc' := 6) rfl ?_
              refine x_retz (z := true) rfl rfl ?_
              refine sK_i (pc' := 4) rfl ?_
              refine x_if (a' := 31) (pc' := 7) (z := false) rfl rfl rfl (by decide) (fun h => by cases h) (fun _ => ?_)
              refine x_iload_n (pc' := 8) rfl rfl rfl ?_
              refine x_iload (pc' := 10) rfl rfl rfl ?_
              refine x_cs (ls0 := [_, _]) (rest := []) rfl rfl rfl rfl ?_
              refine x_iload_n (pc' := 1) rfl rfl rfl ?_
              refine x_iconst (pc' := 2) rfl rfl ?_
              refine x_icmp (a' := 16) (pc' := 5) (z := false) rfl rfl rfl (by decide) (fun h => by cases h) (fun _ => ?_)
              refine x_iload_n (pc' := 6) rfl rfl rfl ?_
              refine x_iconst (pc' := 7) rfl rfl ?_
              refine x_sipush (pc' := 10) rfl rfl ?_
              refine x_cs (ls0 := [_, _, _]) (rest := []) rfl rfl rfl rfl ?_
              refine x_iload_n (pc' := 1) rfl rfl rfl ?_
              refine x_iload_n (pc' := 2) rfl rfl rfl ?_
              refine x_icmp (a' := 14) (pc' := 5) (z := decide ((xs 4) < 1)) rfl rfl rfl rfl (fun h => absurd (of_decide_eq_true h) (of_decide_eq_false q11)) (fun _ => ?_)
              refine x_iload_n (pc' := 6) rfl rfl rfl ?_
              refine x_iload_n (pc' := 7) rfl rfl rfl ?_
              refine x_icmp (a' := 14) (pc' := 10) (z := decide (999 < (xs 4))) rfl rfl rfl rfl (fun h => absurd (of_decide_eq_true h) (of_decide_eq_false q37)) (fun _ => ?_)
              refine x_iconst (pc' := 11) rfl rfl ?_
              refine x_goto (pc' := 15) rfl rfl ?_
              refine x_retz (z := true) rfl rfl ?_
              refine sK_i (pc' := 13) rfl ?_
              refine x_goto (pc' := 26) rfl rfl ?_
              refine x_retz (z := true) rfl rfl ?_
              refine sK_i (pc' := 13) rfl ?_
              refine x_if (a' := 31) (pc' := 16) (z := false) rfl rfl rfl (by decide) (fun h => by cases h) (fun _ => ?_)
              refine x_iload (pc' := 18) rfl rfl rfl ?_
              refine x_iconst (pc' := 19) rfl rfl ?_
              refine x_bipush (pc' := 21) rfl rfl ?_
              refine x_cs (ls0 := [_, _, _]) (rest := []) rfl rfl rfl rfl ?_
              refine x_iload_n (pc' := 1) rfl rfl rfl ?_
              refine x_iload_n (pc' := 2) rfl rfl rfl ?_
              refine x_icmp (a' := 14) (pc' := 5) (z := decide ((xs 5) < 1)) rfl rfl rfl rfl (fun h => absurd (of_decide_eq_true h) (of_decide_eq_false q38)) (fun _ => ?_)
              refine x_iload_n (pc' := 6) rfl rfl rfl ?_
              refine x_iload_n (pc' := 7) rfl rfl rfl ?_
              refine x_icmp (a' := 14) (pc' := 10) (z := decide (100 < (xs 5))) rfl rfl rfl rfl (fun _ => ?_) (fun h => absurd (of_decide_eq_true q67) (of_decide_eq_false h))
              refine x_iconst (pc' := 15) rfl rfl ?_
              refine x_retz (z := false) rfl rfl ?_
              refine sK_i (pc' := 24) rfl ?_
              refine x_if (a' := 31) (pc' := 27) (z := true) rfl rfl rfl (by decide) (fun _ => ?_) (fun h => by cases h)
              refine x_iconst (pc' := 32) rfl rfl ?_
              refine x_istore (pc' := 34) (ls' := [_, _, _, _, _, _, _, _]) rfl rfl rfl rfl ?_
              refine x_iload_n (pc' := 35) rfl rfl rfl ?_
              refine x_cs (ls0 := [_]) (rest := []) rfl rfl rfl rfl ?_
              refine x_iload_n (pc' := 1) rfl rfl rfl ?_
              refine x_iconst (pc' := 2) rfl rfl ?_
              refine x_iconst (pc' := 3) rfl rfl ?_
              refine x_cs (ls0 := [_, _, _]) (rest := []) rfl rfl rfl rfl ?_
              refine x_iload_n (pc' := 1) rfl rfl rfl ?_
              refine x_iload_n (pc' := 2) rfl rfl rfl ?_
              refine x_icmp (a' := 14) (pc' := 5) (z := false) rfl rfl rfl (by decide) (fun h => by cases h) (fun _ => ?_)
              refine x_iload_n (pc' := 6) rfl rfl rfl ?_
              refine x_iload_n (pc' := 7) rfl rfl rfl ?_
              refine x_icmp (a' := 14) (pc' := 10) (z := false) rfl rfl rfl (by decide) (fun h => by cases h) (fun _ => ?_)
              refine x_iconst (pc' := 11) rfl rfl ?_
              refine x_goto (pc' := 15) rfl rfl ?_
              refine x_retz (z := true) rfl rfl ?_
              refine sK_i (pc' := 6) rfl ?_
              refine x_retz (z := true) rfl rfl ?_
              refine sK_i (pc' := 38) rfl ?_
              refine x_if (a' := 65) (pc' := 41) (z := false) rfl rfl rfl (by decide) (fun h => by cases h) (fun _ => ?_)
              refine x_aload_n (pc' := 42) rfl rfl rfl rfl rfl ?_
              refine x_gR (pc' := 45) (r := (some 0)) rfl rfl rfl (Eq.trans rdRthr (z_R_769_0 e)) ?_
              refine x_iload_n (pc' := 46) rfl rfl rfl ?_
              refine x_iald (pc' := 47) (N := 5) (x := 0) rfl rfl rfl (Eq.trans rdNthr (z_N_21_0 e)) (io_in (p := 0) (N := 5) (by decide) (by decide)) (Eq.trans (congrArg (sA (sThr t) 21 0) (nn_io (p := 0) (by decide))) (Eq.trans rdAthr (z_A_21_0_0 e))) ?_
              refine x_iconst (pc' := 48) rfl rfl ?_
              refine x_icmp (a' := 65) (pc' := 51) (z := true) rfl rfl rfl (by decide) (fun _ => ?_) (fun h => by cases h)
              refine x_iconst (pc' := 66) rfl rfl ?_
              refine x_istore (pc' := 68) (ls' := [_, _, _, _, _, _, _, _]) rfl rfl rfl rfl ?_
              refine x_aload_n (pc' := 69) rfl rfl rfl rfl rfl ?_
              refine x_aload_n (pc' := 70) rfl rfl rfl rfl rfl ?_
              refine x_iload_n (pc' := 71) rfl rfl rfl ?_
              refine x_iload_n (pc' := 72) rfl rfl rfl ?_
              refine x_iload (pc' := 74) rfl rfl rfl ?_
              refine x_iload (pc' := 76) rfl rfl rfl ?_
              refine x_cv (ls0 := [_, _, _, _, _, sJk]) (rest := [_]) rfl rfl rfl rfl rfl ?_
              refine x_iload_n (pc' := 1) rfl rfl rfl ?_
              refine x_cs (ls0 := [_]) (rest := []) rfl rfl rfl rfl ?_
              refine x_iload_n (pc' := 1) rfl rfl rfl ?_
              refine x_iconst (pc' := 2) rfl rfl ?_
              refine x_iconst (pc' := 3) rfl rfl ?_
              refine x_cs (ls0 := [_, _, _]) (rest := []) rfl rfl rfl rfl ?_
              refine x_iload_n (pc' := 1) rfl rfl rfl ?_
              refine x_iload_n (pc' := 2) rfl rfl rfl ?_
              refine x_icmp (a' := 14) (pc' := 5) (z := decide (m < 0)) rfl rfl rfl (ic_lt (p := m) (q := 0) (Nat.lt_trans hm (by decide)) (by decide)) (fun h => absurd (of_decide_eq_true h) (by first | decide | omega | simp)) (fun _ => ?_)
              refine x_iload_n (pc' := 6) rfl rfl rfl ?_
              refine x_iload_n (pc' := 7) rfl rfl rfl ?_
              refine x_icmp (a' := 14) (pc' := 10) (z := decide (5 < m)) rfl rfl rfl (ic_gt (p := m) (q := 5) (Nat.lt_trans hm (by decide)) (by decide)) (fun h => absurd (of_decide_eq_true h) (fun z => absurd hm (Nat.not_lt.mpr z))) (fun _ => ?_)
              refine x_iconst (pc' := 11) rfl rfl ?_
              refine x_goto (pc' := 15) rfl rfl ?_
              refine x_retz (z := true) rfl rfl ?_
              refine sK_i (pc' := 6) rfl ?_
              refine x_retz (z := true) rfl rfl ?_
              refine sK_i (pc' := 4) rfl ?_
              refine x_if (a' := 18) (pc' := 7) (z := false) rfl rfl rfl (by decide) (fun h => by cases h) (fun _ => ?_)
              refine x_iload_n (pc' := 8) rfl rfl rfl ?_
              refine x_cs (ls0 := [_]) (rest := []) rfl rfl rfl rfl ?_
              refine x_iload_n (pc' := 1) rfl rfl rfl ?_
              refine x_iconst (pc' := 2) rfl rfl ?_
              refine x_iconst (pc' := 3) rfl rfl ?_
              refine x_cs (ls0 := [_, _, _]) (rest := []) rfl rfl rfl rfl ?_
              refine x_iload_n (pc' := 1) rfl rfl rfl ?_
              refine x_iload_n (pc' := 2) rfl rfl rfl ?_
              refine x_icmp (a' := 14) (pc' := 5) (z := false) rfl rfl rfl (by decide) (fun h => by cases h) (fun _ => ?_)
              refine x_iload_n (pc' := 6) rfl rfl rfl ?_
              refine x_iload_n (pc' := 7) rfl rfl rfl ?_
              refine x_icmp (a' := 14) (pc' := 10) (z := false) rfl rfl rfl (by decide) (fun h => by cases h) (fun _ => ?_)
              refine x_iconst (pc' := 11) rfl rfl ?_
              refine x_goto (pc' := 15) rfl rfl ?_
              refine x_retz (z := true) rfl rfl ?_
              refine sK_i (pc' := 6) rfl ?_
              refine x_retz (z := true) rfl rfl ?_
              refine sK_i (pc' := 11) rfl ?_
              refine x_if (a' := 18) (pc' := 14) (z := false) rfl rfl rfl (by decide) (fun h => by cases h) (fun _ => ?_)
              refine x_iconst (pc' := 15) rfl rfl ?_
              refine x_goto (pc' := 19) rfl rfl ?_
              refine x_istore (pc' := 21) (ls' := [_, _, _, _, _, _]) rfl rfl rfl rfl ?_
              refine x_iload (pc' := 23) rfl rfl rfl ?_
              refine x_if (a' := 30) (pc' := 26) (z := true) rfl rfl rfl (by decide) (fun _ => ?_) (fun h => by cases h)
              refine x_iload_n (pc' := 31) rfl rfl rfl ?_
              refine x_if (a' := 38) (pc' := 34) (z := false) rfl rfl rfl (by decide) (fun h => by cases h) (fun _ => ?_)
              refine x_iconst (pc' := 35) rfl rfl ?_
              refine x_goto (pc' := 57) rfl rfl ?_
              refine x_reti rfl rfl ?_
              refine sK_i (pc' := 79) rfl ?_
              refine x_cv (ls0 := [_, _]) (rest := []) rfl rfl rfl rfl rfl ?_
              refine x_aload_n (pc' := 1) rfl rfl rfl rfl rfl ?_
              refine x_iload_n (pc' := 2) rfl rfl rfl ?_
              refine x_pI (pc' := 5) rfl rfl rfl ?_
              refine x_iload_n (pc' := 6) rfl rfl rfl ?_
              refine x_if (a' := 13) (pc' := 9) (z := true) rfl rfl rfl (by decide) (fun _ => ?_) (fun h => by cases h)
              refine x_iconst (pc' := 14) rfl rfl ?_
              refine x_retz (z := false) rfl rfl ?_
              refine sK_i (pc' := 82) rfl ?_
              refine x_if (a' := 102) (pc' := 85) (z := true) rfl rfl rfl (by decide) (fun _ => ?_) (fun h => by cases h)
              refine x_iconst (pc' := 103) rfl rfl ?_
              refine x_reti rfl rfl ?_
              refine sK_i (pc' := 1104) rfl ?_
              refine x_istore (pc' := 1106) (ls' := [_, _, _, _, _, _, _]) rfl rfl rfl rfl ?_
              refine x_aload_n (pc' := 1107) rfl rfl rfl rfl rfl ?_
              refine x_cv (ls0 := [_]) (rest := []) rfl rfl rfl rfl rfl ?_
              refine x_aload_n (pc' := 1) rfl rfl rfl rfl rfl ?_
              refine x_gI (pc' := 4) (x := 2) rfl rfl rfl sI_s ?_
              refine x_reti rfl rfl ?_
              refine sK_i (pc' := 1110) rfl ?_
              refine x_iload (pc' := 1112) rfl rfl rfl ?_
              refine x_icmp (a' := 1117) (pc' := 1115) (z := true) rfl rfl rfl (by decide) (fun _ => ?_) (fun h => by cases h)
              refine x_iload (pc' := 1119) rfl rfl rfl ?_
              refine x_if (a' := 1134) (pc' := 1122) (z := true) rfl rfl rfl (by decide) (fun _ => ?_) (fun h => by cases h)
              refine x_goto (pc' := 2938) rfl rfl ?_
              refine x_iinc (pc' := 2941) (y := 7) (ls' := [_, _, _, _, _, _, _]) rfl rfl rfl rfl rfl ?_
              refine x_goto (pc' := 23) rfl rfl ?_
              refine x_iload (pc' := 25) rfl rfl rfl ?_
              refine x_aload_n (pc' := 26) rfl rfl rfl rfl rfl ?_
              refine x_alen (pc' := 27) (N := 7) rfl rfl rfl (Eq.trans rdNI (Eq.trans rdNthr (z_N_29_0 e))) (?_ : X _ _ _ (.inl 7 :: _) _ _)
              refine x_bipush (pc' := 29) rfl rfl ?_
              refine x_isub (pc' := 30) (z := 0) rfl rfl (by decide) ?_
              refine x_icmp (a' := 2944) (pc' := 33) (z := true) rfl rfl rfl (by decide) (fun _ => ?_) (fun h => by cases h)
              refine x_iconst (pc' := 2945) rfl rfl ?_
              refine x_retz (z := true) rfl rfl ?_
              exact Qp_ok e (p := 1) (q := 6) rfl rfl rfl rfl
            refine x_if (a' := 1088) (pc' := 1084) (z := decide ((xs 3) = 0)) rfl rfl rfl rfl (fun q101 => ?_) (fun q101 => ?_)
            · refine x_iconst (pc' := 1089) rfl rfl ?_
              ((try rw [q101] at J101); (try rw [q101]); (try simp only [cd_t, cd_f, nt_t, nt_f, an_t, an_f, or_t, or_f] at J101); (try simp only [cd_t, cd_f, nt_t, nt_f, an_t, an_f, or_t, or_f]); exact J101)
            · refine x_iconst (pc' := 1085) rfl rfl ?_
              refine x_goto (pc' := 1089) rfl rfl ?_
              ((try rw [q101] at J101); (try rw [q101]); (try simp only [cd_t, cd_f, nt_t, nt_f, an_t, an_f, or_t, or_f] at J101); (try simp only [cd_t, cd_f, nt_t, nt_f, an_t, an_f, or_t, or_f]); exact J101)
      · refine x_throw rfl rfl ?_
        refine sK_n (by decide +kernel) rfl ?_
        refine sK_n (by decide +kernel) rfl ?_
        refine sK_h (h := 23) (by decide +kernel) rfl ?_
        refine x_catch (pc' := 25) (ls' := [_, _, _, _, _, _, _, _]) rfl rfl rfl rfl ?_
        refine x_iconst (pc' := 26) rfl rfl ?_
        refine x_reti rfl rfl ?_
        refine sK_i (pc' := 1060) rfl ?_
        refine x_istore (pc' := 1062) (ls' := [_, _, _, _, _, _, _]) rfl rfl rfl rfl ?_
        refine x_aload_n (pc' := 1063) rfl rfl rfl rfl rfl ?_
        refine x_aload_n (pc' := 1064) rfl rfl rfl rfl rfl ?_
        refine x_iload (pc' := 1066) rfl rfl rfl ?_
        refine x_iconst (pc' := 1067) rfl rfl ?_
        refine x_iadd (pc' := 1068) (z := 1) rfl rfl (by decide) ?_
        refine x_iald (pc' := 1069) (N := 7) (x := (io m)) rfl rfl rfl (Eq.trans rdNthr (z_N_29_0 e)) (io_in (p := 1) (N := 7) (by decide) (by decide)) (Eq.trans (congrArg (sA (sThr t) 29 0) (nn_io (p := 1) (by decide))) (Eq.trans rdAthr (Eq.trans (z_A_29_0_1 e) e0))) ?_
        refine x_aload_n (pc' := 1070) rfl rfl rfl rfl rfl ?_
        refine x_iload (pc' := 1072) rfl rfl rfl ?_
        refine x_iconst (pc' := 1073) rfl rfl ?_
        refine x_iadd (pc' := 1074) (z := 2) rfl rfl (by decide) ?_
        refine x_iald (pc' := 1075) (N := 7) (x := 0) rfl rfl rfl (Eq.trans rdNthr (z_N_29_0 e)) (io_in (p := 2) (N := 7) (by decide) (by decide)) (Eq.trans (congrArg (sA (sThr t) 29 0) (nn_io (p := 2) (by decide))) (Eq.trans rdAthr (Eq.trans (z_A_29_0_2 e) e1))) ?_
        refine x_aload_n (pc' := 1076) rfl rfl rfl rfl rfl ?_
        refine x_iload (pc' := 1078) rfl rfl rfl ?_
        refine x_iconst (pc' := 1079) rfl rfl ?_
        refine x_iadd (pc' := 1080) (z := 3) rfl rfl (by decide) ?_
        refine x_iald (pc' := 1081) (N := 7) (x := (xs 3)) rfl rfl rfl (Eq.trans rdNthr (z_N_29_0 e)) (io_in (p := 3) (N := 7) (by decide) (by decide)) (Eq.trans (congrArg (sA (sThr t) 29 0) (nn_io (p := 3) (by decide))) (Eq.trans rdAthr (z_A_29_0_3 e))) ?_
        have J130 : X 297 1089 [.inr (.inr (29, (some 0))), .inr (.inr (11, (some 0))), .inr (.inr (12, (some 0))), .inr (.inr (23, (some 0))), .inl 0, .inl 2, sJk] [.inl (bz (!(decide ((xs 3) = 0)))), .inl 0, .inl (io m), .inr (.inr (12, (some 0)))] (sThr t) Qp := by
          refine x_aload_n (pc' := 1090) rfl rfl rfl rfl rfl ?_
          refine x_iload (pc' := 1092) rfl rfl rfl ?_
          refine x_iconst (pc' := 1093) rfl rfl ?_
          refine x_iadd (pc' := 1094) (z := 4) rfl rfl (by decide) ?_
          refine x_iald (pc' := 1095) (N := 7) (x := (xs 4)) rfl rfl rfl (Eq.trans rdNthr (z_N_29_0 e)) (io_in (p := 4) (N := 7) (by decide) (by decide)) (Eq.trans (congrArg (sA (sThr t) 29 0) (nn_io (p := 4) (by decide))) (Eq.trans rdAthr (z_A_29_0_4 e))) ?_
          refine x_aload_n (pc' := 1096) rfl rfl rfl rfl rfl ?_
          refine x_iload (pc' := 1098) rfl rfl rfl ?_
          refine x_iconst (pc' := 1099) rfl rfl ?_
          refine x_iadd (pc' := 1100) (z := 5) rfl rfl (by decide) ?_
          refine x_iald (pc' := 1101) (N := 7) (x := (xs 5)) rfl rfl rfl (Eq.trans rdNthr (z_N_29_0 e)) (io_in (p := 5) (N := 7) (by decide) (by decide)) (Eq.trans (congrArg (sA (sThr t) 29 0) (nn_io (p := 5) (by decide))) (Eq.trans rdAthr (z_A_29_0_5 e))) ?_
          refine x_cv (ls0 := [_, _, _, _, _, _, sJk, sJk]) (rest := []) rfl rfl rfl rfl rfl ?_
          refine x_iload_n (pc' := 1) rfl rfl rfl ?_
          refine x_cs (ls0 := [_]) (rest := []) rfl rfl rfl rfl ?_
          refine x_iload_n (pc' := 1) rfl rfl rfl ?_
          refine x_iconst (pc' := 2) rfl rfl ?_
          refine x_iconst (pc' := 3) rfl rfl ?_
          refine x_cs (ls0 := [_, _, _]) (rest := []) rfl rfl rfl rfl ?_
          refine x_iload_n (pc' := 1) rfl rfl rfl ?_
          refine x_iload_n (pc' := 2) rfl rfl rfl ?_
          refine x_icmp (a' := 14) (pc' := 5) (z := false) rfl rfl rfl (by decide) (fun h => by cases h) (fun _ => ?_)
          refine x_iload_n (pc' := 6) rfl rfl rfl ?_
          refine x_iload_n (pc' := 7) rfl rfl rfl ?_
          refine x_icmp (a' := 14) (pc' := 10) (z := false) rfl rfl rfl (by decide) (fun h => by cases h) (fun _ => ?_)
          refine x_iconst (pc' := 11) rfl rfl ?_
          refine x_goto (pc' := 15) rfl rfl ?_
          refine x_retz (z := true) rfl rfl ?_
          refine sK_i (pc' := 6) rfl ?_
          refine x_retz (z := true) rfl rfl ?_
          refine sK_i (pc' := 4) rfl ?_
          refine x_if (a' := 31) (pc' := 7) (z := false) rfl rfl rfl (by decide) (fun h => by cases h) (fun _ => ?_)
          refine x_iload_n (pc' := 8) rfl rfl rfl ?_
          refine x_iload (pc' := 10) rfl rfl rfl ?_
          refine x_cs (ls0 := [_, _]) (rest := []) rfl rfl rfl rfl ?_
          refine x_iload_n (pc' := 1) rfl rfl rfl ?_
          refine x_iconst (pc' := 2) rfl rfl ?_
          refine x_icmp (a' := 16) (pc' := 5) (z := false) rfl rfl rfl (by decide) (fun h => by cases h) (fun _ => ?_)
          refine x_iload_n (pc' := 6) rfl rfl rfl ?_
          refine x_iconst (pc' := 7) rfl rfl ?_
          refine x_sipush (pc' := 10) rfl rfl ?_
          refine x_cs (ls0 := [_, _, _]) (rest := []) rfl rfl rfl rfl ?_
          refine x_iload_n (pc' := 1) rfl rfl rfl ?_
          refine x_iload_n (pc' := 2) rfl rfl rfl ?_
          refine x_icmp (a' := 14) (pc' := 5) (z := decide ((xs 4) < 1)) rfl rfl rfl rfl (fun h => absurd (of_decide_eq_true h) (of_decide_eq_false q11)) (fun _ => ?_)
          refine x_iload_n (pc' := 6) rfl rfl rfl ?_
          refine x_iload_n (pc' := 7) rfl rfl rfl ?_
          refine x_icmp (a' := 14) (pc' := 10) (z := decide (999 < (xs 4))) rfl rfl rfl rfl (fun _ => ?_) (fun h => absurd (of_decide_eq_true q37) (of_decide_eq_false h))
          refine x_iconst (pc' := 15) rfl rfl ?_
          refine x_retz (z := false) rfl rfl ?_
          refine sK_i (pc' := 13) rfl ?_
          refine x_goto (pc' := 26) rfl rfl ?_
          refine x_retz (z := false) rfl rfl ?_
          refine sK_i (pc' := 13) rfl ?_
          refine x_if (a' := 31) (pc' := 16) (z := true) rfl rfl rfl (by decide) (fun _ => ?_) (fun h => by cases h)
          refine x_iconst (pc' := 32) rfl rfl ?_
          refine x_istore (pc' := 34) (ls' := [_, _, _, _, _, _, _, _]) rfl rfl rfl rfl ?_
          refine x_iload_n (pc' := 35) rfl rfl rfl ?_
          refine x_cs (ls0 := [_]) (rest := []) rfl rfl rfl rfl ?_
          refine x_iload_n (pc' := 1) rfl rfl rfl ?_
          refine x_iconst (pc' := 2) rfl rfl ?_
          refine x_iconst (pc' := 3) rfl rfl ?_
          refine x_cs (ls0 := [_, _, _]) (rest := []) rfl rfl rfl rfl ?_
          refine x_iload_n (pc' := 1) rfl rfl rfl ?_
          refine x_iload_n (pc' := 2) rfl rfl rfl ?_
          refine x_icmp (a' := 14) (pc' := 5) (z := false) rfl rfl rfl (by decide) (fun h => by cases h) (fun _ => ?_)
          refine x_iload_n (pc' := 6) rfl rfl rfl ?_
          refine x_iload_n (pc' := 7) rfl rfl rfl ?_
          refine x_icmp (a' := 14) (pc' := 10) (z := false) rfl rfl rfl (by decide) (fun h => by cases h) (fun _ => ?_)
          refine x_iconst (pc' := 11) rfl rfl ?_
          refine x_goto (pc' := 15) rfl rfl ?_
          refine x_retz (z := true) rfl rfl ?_
          refine sK_i (pc' := 6) rfl ?_
          refine x_retz (z := true) rfl rfl ?_
          refine sK_i (pc' := 38) rfl ?_
          refine x_if (a' := 65) (pc' := 41) (z := false) rfl rfl rfl (by decide) (fun h => by cases h) (fun _ => ?_)
          refine x_aload_n (pc' := 42) rfl rfl rfl rfl rfl ?_
          refine x_gR (pc' := 45) (r := (some 0)) rfl rfl rfl (Eq.trans rdRthr (z_R_769_0 e)) ?_
          refine x_iload_n (pc' := 46) rfl rfl rfl ?_
          refine x_iald (pc' := 47) (N := 5) (x := 0) rfl rfl rfl (Eq.trans rdNthr (z_N_21_0 e)) (io_in (p := 0) (N := 5) (by decide) (by decide)) (Eq.trans (congrArg (sA (sThr t) 21 0) (nn_io (p := 0) (by decide))) (Eq.trans rdAthr (z_A_21_0_0 e))) ?_
          refine x_iconst (pc' := 48) rfl rfl ?_
          refine x_icmp (a' := 65) (pc' := 51) (z := true) rfl rfl rfl (by decide) (fun _ => ?_) (fun h => by cases h)
          refine x_iconst (pc' := 66) rfl rfl ?_
          refine x_istore (pc' := 68) (ls' := [_, _, _, _, _, _, _, _]) rfl rfl rfl rfl ?_
          refine x_aload_n (pc' := 69) rfl rfl rfl rfl rfl ?_
          refine x_aload_n (pc' := 70) rfl rfl rfl rfl rfl ?_
          refine x_iload_n (pc' := 71) rfl rfl rfl ?_
          refine x_iload_n (pc' := 72) rfl rfl rfl ?_
          refine x_iload (pc' := 74) rfl rfl rfl ?_
          refine x_iload (pc' := 76) rfl rfl rfl ?_
          refine x_cv (ls0 := [_, _, _, _, _, sJk]) (rest := [_]) rfl rfl rfl rfl rfl ?_
          refine x_iload_n (pc' := 1) rfl rfl rfl ?_
          refine x_cs (ls0 := [_]) (rest := []) rfl rfl rfl rfl ?_
          refine x_iload_n (pc' := 1) rfl rfl rfl ?_
          refine x_iconst (pc' := 2) rfl rfl ?_
          refine x_iconst (pc' := 3) rfl rfl ?_
          refine x_cs (ls0 := [_, _, _]) (rest := []) rfl rfl rfl rfl ?_
          refine x_iload_n (pc' := 1) rfl rfl rfl ?_
          refine x_iload_n (pc' := 2) rfl rfl rfl ?_
          refine x_icmp (a' := 14) (pc' := 5) (z := decide (m < 0)) rfl rfl rfl (ic_lt (p := m) (q := 0) (Nat.lt_trans hm (by decide)) (by decide)) (fun h => absurd (of_decide_eq_true h) (by first | decide | omega | simp)) (fun _ => ?_)
          refine x_iload_n (pc' := 6) rfl rfl rfl ?_
          refine x_iload_n (pc' := 7) rfl rfl rfl ?_
          refine x_icmp (a' := 14) (pc' := 10) (z := decide (5 < m)) rfl rfl rfl (ic_gt (p := m) (q := 5) (Nat.lt_trans hm (by decide)) (by decide)) (fun h => absurd (of_decide_eq_true h) (fun z => absurd hm (Nat.not_lt.mpr z))) (fun _ => ?_)
          refine x_iconst (pc' := 11) rfl rfl ?_
          refine x_goto (pc' := 15) rfl rfl ?_
          refine x_retz (z := true) rfl rfl ?_
          refine sK_i (pc' := 6) rfl ?_
          refine x_retz (z := true) rfl rfl ?_
          refine sK_i (pc' := 4) rfl ?_
          refine x_if (a' := 18) (pc' := 7) (z := false) rfl rfl rfl (by decide) (fun h => by cases h) (fun _ => ?_)
          refine x_iload_n (pc' := 8) rfl rfl rfl ?_
          refine x_cs (ls0 := [_]) (rest := []) rfl rfl rfl rfl ?_
          refine x_iload_n (pc' := 1) rfl rfl rfl ?_
          refine x_iconst (pc' := 2) rfl rfl ?_
          refine x_iconst (pc' := 3) rfl rfl ?_
          refine x_cs (ls0 := [_, _, _]) (rest := []) rfl rfl rfl rfl ?_
          refine x_iload_n (pc' := 1) rfl rfl rfl ?_
          refine x_iload_n (pc' := 2) rfl rfl rfl ?_
          refine x_icmp (a' := 14) (pc' := 5) (z := false) rfl rfl rfl (by decide) (fun h => by cases h) (fun _ => ?_)
          refine x_iload_n (pc' := 6) rfl rfl rfl ?_
          refine x_iload_n (pc' := 7) rfl rfl rfl ?_
          refine x_icmp (a' := 14) (pc' := 10) (z := false) rfl rfl rfl (by decide) (fun h => by cases h) (fun _ => ?_)
          refine x_iconst (pc' := 11) rfl rfl ?_
          refine x_goto (pc' := 15) rfl rfl ?_
          refine x_retz (z := true) rfl rfl ?_
          refine sK_i (pc' := 6) rfl ?_
          refine x_retz (z := true) rfl rfl ?_
          refine sK_i (pc' := 11) rfl ?_
          refine x_if (a' := 18) (pc' := 14) (z := false) rfl rfl rfl (by decide) (fun h => by cases h) (fun _ => ?_)
          refine x_iconst (pc' := 15) rfl rfl ?_
          refine x_goto (pc' := 19) rfl rfl ?_
          refine x_istore (pc' := 21) (ls' := [_, _, _, _, _, _]) rfl rfl rfl rfl ?_
          refine x_iload (pc' := 23) rfl rfl rfl ?_
          refine x_if (a' := 30) (pc' := 26) (z := true) rfl rfl rfl (by decide) (fun _ => ?_) (fun h => by cases h)
          refine x_iload_n (pc' := 31) rfl rfl rfl ?_
          refine x_if (a' := 38) (pc' := 34) (z := false) rfl rfl rfl (by decide) (fun h => by cases h) (fun _ => ?_)
          refine x_iconst (pc' := 35) rfl rfl ?_
          refine x_goto (pc' := 57) rfl rfl ?_
          refine x_reti rfl rfl ?_
          refine sK_i (pc' := 79) rfl ?_
          refine x_cv (ls0 := [_, _]) (rest := []) rfl rfl rfl rfl rfl ?_
          refine x_aload_n (pc' := 1) rfl rfl rfl rfl rfl ?_
          refine x_iload_n (pc' := 2) rfl rfl rfl ?_
          refine x_pI (pc' := 5) rfl rfl rfl ?_
          refine x_iload_n (pc' := 6) rfl rfl rfl ?_
          refine x_if (a' := 13) (pc' := 9) (z := true) rfl rfl rfl (by decide) (fun _ => ?_) (fun h => by cases h)
          refine x_iconst (pc' := 14) rfl rfl ?_
          refine x_retz (z := false) rfl rfl ?_
          refine sK_i (pc' := 82) rfl ?_
          refine x_if (a' := 102) (pc' := 85) (z := true) rfl rfl rfl (by decide) (fun _ => ?_) (fun h => by cases h)
          refine x_iconst (pc' := 103) rfl rfl ?_
          refine x_reti rfl rfl ?_
          refine sK_i (pc' := 1104) rfl ?_
          refine x_istore (pc' := 1106) (ls' := [_, _, _, _, _, _, _]) rfl rfl rfl rfl ?_
          refine x_aload_n (pc' := 1107) rfl rfl rfl rfl rfl ?_
          refine x_cv (ls0 := [_]) (rest := []) rfl rfl rfl rfl rfl ?_
          refine x_aload_n (pc' := 1) rfl rfl rfl rfl rfl ?_
          refine x_gI (pc' := 4) (x := 2) rfl rfl rfl sI_s ?_
          refine x_reti rfl rfl ?_
          refine sK_i (pc' := 1110) rfl ?_
          refine x_iload (pc' := 1112) rfl rfl rfl ?_
          refine x_icmp (a' := 1117) (pc' := 1115) (z := true) rfl rfl rfl (by decide) (fun _ => ?_) (fun h => by cases h)
          refine x_iload (pc' := 1119) rfl rfl rfl ?_
          refine x_if (a' := 1134) (pc' := 1122) (z := true) rfl rfl rfl (by decide) (fun _ => ?_) (fun h => by cases h)
          refine x_goto (pc' := 2938) rfl rfl ?_
          refine x_iinc (pc' := 2941) (y := 7) (ls' := [_, _, _, _, _, _, _]) rfl rfl rfl rfl rfl ?_
          refine x_goto (pc' := 23) rfl rfl ?_
          refine x_iload (pc' := 25) rfl rfl rfl ?_
          refine x_aload_n (pc' := 26) rfl rfl rfl rfl rfl ?_
          refine x_alen (pc' := 27) (N := 7) rfl rfl rfl (Eq.trans rdNI (Eq.trans rdNthr (z_N_29_0 e))) (?_ : X _ _ _ (.inl 7 :: _) _ _)
          refine x_bipush (pc' := 29) rfl rfl ?_
          refine x_isub (pc' := 30) (z := 0) rfl rfl (by decide) ?_
          refine x_icmp (a' := 2944) (pc' := 33) (z := true) rfl rfl rfl (by decide) (fun _ => ?_) (fun h => by cases h)
          refine x_iconst (pc' := 2945) rfl rfl ?_
          refine x_retz (z := true) rfl rfl ?_
          exact Qp_ok e (p := 1) (q := 6) rfl rfl rfl rfl
        refine x_if (a' := 1088) (pc' := 1084) (z := decide ((xs 3) = 0)) rfl rfl rfl rfl (fun q130 => ?_) (fun q130 => ?_)
        · refine x_iconst (pc' := 1089) rfl rfl ?_
          ((try rw [q130] at J130); (try rw [q130]); (try simp only [cd_t, cd_f, nt_t, nt_f, an_t, an_f, or_t, or_f] at J130); (try simp only [cd_t, cd_f, nt_t, nt_f, an_t, an_f, or_t, or_f]); exact J130)
        · refine x_iconst (pc' := 1085) rfl rfl ?_
          refine x_goto (pc' := 1089) rfl rfl ?_
          ((try rw [q130] at J130); (try rw [q130]); (try simp only [cd_t, cd_f, nt_t, nt_f, an_t, an_f, or_t, or_f] at J130); (try simp only [cd_t, cd_f, nt_t, nt_f, an_t, an_f, or_t, or_f]); exact J130)
  refine x_if (a' := 1043) (pc' := 1039) (z := decide ((xs 3) = 0)) rfl rfl rfl rfl (fun q3 => ?_) (fun q3 => ?_)
  · refine x_iconst (pc' := 1044) rfl rfl ?_
    ((try rw [q3] at J3); (try rw [q3]); (try simp only [cd_t, cd_f, nt_t, nt_f, an_t, an_f, or_t, or_f] at J3); (try simp only [cd_t, cd_f, nt_t, nt_f, an_t, an_f, or_t, or_f]); exact J3)
  · refine x_iconst (pc' := 1040) rfl rfl ?_
    refine x_goto (pc' := 1044) rfl rfl ?_
    ((try rw [q3] at J3); (try rw [q3]); (try simp only [cd_t, cd_f, nt_t, nt_f, an_t, an_f, or_t, or_f] at J3); (try simp only [cd_t, cd_f, nt_t, nt_f, an_t, an_f, or_t, or_f]); exact J3)
set_option maxHeartbeats 4000000 in
set_option maxRecDepth 10000 in
theorem v_11_v_1_i_i_i {t : sT} {xs : Nat → Int32} {m : Nat}
    (e : t = T16 7 xs)
    (hk : ((xs 0) &&& 63) = 11)
    (hm : m < 6)
    (e0 : xs 1 = io m)
    (e1 : xs 2 = 1) :
    X 297 23 [.inr (.inr (29, (some 0))), .inr (.inr (11, (some 0))), .inr (.inr (12, (some 0))), .inr (.inr (23, (some 0))), .inl 0, sJk, sJk] [] t Qp := by
  refine x_iload (pc' := 25) rfl rfl rfl ?_
  refine x_aload_n (pc' := 26) rfl rfl rfl rfl rfl ?_
  refine x_alen (pc' := 27) (N := 7) rfl rfl rfl (z_N_29_0 e) (?_ : X _ _ _ (.inl 7 :: _) _ _)
  refine x_bipush (pc' := 29) rfl rfl ?_
  refine x_isub (pc' := 30) (z := 0) rfl rfl (by decide) ?_
  refine x_icmp (a' := 2944) (pc' := 33) (z := false) rfl rfl rfl (by decide) (fun h => by cases h) (fun _ => ?_)
  refine x_aload_n (pc' := 34) rfl rfl rfl rfl rfl ?_
  refine x_iload (pc' := 36) rfl rfl rfl ?_
  refine x_iald (pc' := 37) (N := 7) (x := (xs 0)) rfl rfl rfl (z_N_29_0 e) (io_in (p := 0) (N := 7) (by decide) (by decide)) (Eq.trans (congrArg (sA t 29 0) (nn_io (p := 0) (by decide))) (z_A_29_0_0 e)) ?_
  refine x_bipush (pc' := 39) rfl rfl ?_
  refine x_iand (pc' := 40) (z := ((xs 0) &&& 63)) rfl rfl rfl ?_
  refine x_switch (pc' := 1017) rfl (by rw [hk]; decide) ?_
  refine x_aload_n (pc' := 1018) rfl rfl rfl rfl rfl ?_
  refine x_aload_n (pc' := 1019) rfl rfl rfl rfl rfl ?_
  refine x_iload (pc' := 1021) rfl rfl rfl ?_
  refine x_iconst (pc' := 1022) rfl rfl ?_
  refine x_iadd (pc' := 1023) (z := 1) rfl rfl (by decide) ?_
  refine x_iald (pc' := 1024) (N := 7) (x := (io m)) rfl rfl rfl (z_N_29_0 e) (io_in (p := 1) (N := 7) (by decide) (by decide)) (Eq.trans (congrArg (sA t 29 0) (nn_io (p := 1) (by decide))) (Eq.trans (z_A_29_0_1 e) e0)) ?_
  refine x_aload_n (pc' := 1025) rfl rfl rfl rfl rfl ?_
  refine x_iload (pc' := 1027) rfl rfl rfl ?_
  refine x_iconst (pc' := 1028) rfl rfl ?_
  refine x_iadd (pc' := 1029) (z := 2) rfl rfl (by decide) ?_
  refine x_iald (pc' := 1030) (N := 7) (x := 1) rfl rfl rfl (z_N_29_0 e) (io_in (p := 2) (N := 7) (by decide) (by decide)) (Eq.trans (congrArg (sA t 29 0) (nn_io (p := 2) (by decide))) (Eq.trans (z_A_29_0_2 e) e1)) ?_
  refine x_aload_n (pc' := 1031) rfl rfl rfl rfl rfl ?_
  refine x_iload (pc' := 1033) rfl rfl rfl ?_
  refine x_iconst (pc' := 1034) rfl rfl ?_
  refine x_iadd (pc' := 1035) (z := 3) rfl rfl (by decide) ?_
  refine x_iald (pc' := 1036) (N := 7) (x := (xs 3)) rfl rfl rfl (z_N_29_0 e) (io_in (p := 3) (N := 7) (by decide) (by decide)) (Eq.trans (congrArg (sA t 29 0) (nn_io (p := 3) (by decide))) (z_A_29_0_3 e)) ?_
  have J3 : X 297 1044 [.inr (.inr (29, (some 0))), .inr (.inr (11, (some 0))), .inr (.inr (12, (some 0))), .inr (.inr (23, (some 0))), .inl 0, sJk, sJk] [.inl (bz (!(decide ((xs 3) = 0)))), .inl 1, .inl (io m), .inr (.inr (11, (some 0)))] t Qp := by
    refine x_aload_n (pc' := 1045) rfl rfl rfl rfl rfl ?_
    refine x_iload (pc' := 1047) rfl rfl rfl ?_
    refine x_iconst (pc' := 1048) rfl rfl ?_
    refine x_iadd (pc' := 1049) (z := 4) rfl rfl (by decide) ?_
    refine x_iald (pc' := 1050) (N := 7) (x := (xs 4)) rfl rfl rfl (z_N_29_0 e) (io_in (p := 4) (N := 7) (by decide) (by decide)) (Eq.trans (congrArg (sA t 29 0) (nn_io (p := 4) (by decide))) (z_A_29_0_4 e)) ?_
    refine x_aload_n (pc' := 1051) rfl rfl rfl rfl rfl ?_
    refine x_iload (pc' := 1053) rfl rfl rfl ?_
    refine x_iconst (pc' := 1054) rfl rfl ?_
    refine x_iadd (pc' := 1055) (z := 5) rfl rfl (by decide) ?_
    refine x_iald (pc' := 1056) (N := 7) (x := (xs 5)) rfl rfl rfl (z_N_29_0 e) (io_in (p := 5) (N := 7) (by decide) (by decide)) (Eq.trans (congrArg (sA t 29 0) (nn_io (p := 5) (by decide))) (z_A_29_0_5 e)) ?_
    refine x_aload_n (pc' := 1057) rfl rfl rfl rfl rfl ?_
    refine x_cs (ls0 := [_, _, _, _, _, _, _, sJk]) (rest := []) rfl rfl rfl rfl ?_
    refine x_aload (pc' := 2) rfl rfl rfl rfl rfl ?_
    refine x_iconst (pc' := 3) rfl rfl ?_
    refine x_aload_n (pc' := 4) rfl rfl rfl rfl rfl ?_
    refine x_iload_n (pc' := 5) rfl rfl rfl ?_
    refine x_iload_n (pc' := 6) rfl rfl rfl ?_
    refine x_iload_n (pc' := 7) rfl rfl rfl ?_
    refine x_iload (pc' := 9) rfl rfl rfl ?_
    refine x_iload (pc' := 11) rfl rfl rfl ?_
    refine x_cv (ls0 := [_, _, _, _, _, _, sJk, sJk, sJk]) (rest := [_, _]) rfl rfl rfl rfl rfl ?_
    refine x_aload_n (pc' := 1) rfl rfl rfl rfl rfl ?_
    refine x_iload_n (pc' := 2) rfl rfl rfl ?_
    refine x_cv (ls0 := [_, _]) (rest := []) rfl rfl rfl rfl rfl ?_
    refine x_iload_n (pc' := 1) rfl rfl rfl ?_
    refine x_if (a' := 16) (pc' := 4) (z := decide (m < 0)) rfl rfl rfl (ic_lt (p := m) (q := 0) (Nat.lt_trans hm (by decide)) (by decide)) (fun h => absurd (of_decide_eq_true h) (by first | decide | omega | simp)) (fun _ => ?_)
    refine x_iload_n (pc' := 5) rfl rfl rfl ?_
    refine x_aload_n (pc' := 6) rfl rfl rfl rfl rfl ?_
    refine x_gR (pc' := 9) (r := (some 0)) rfl rfl rfl (z_R_704_0 e) ?_
    refine x_gR (pc' := 12) (r := (some 0)) rfl rfl rfl (z_R_321_0 e) ?_
    refine x_alen (pc' := 13) (N := 6) rfl rfl rfl (z_N_26_0 e) (?_ : X _ _ _ (.inl 6 :: _) _ _)
    refine x_icmp (a' := 27) (pc' := 16) (z := decide (m < 6)) rfl rfl rfl (ic_lt (p := m) (q := 6) (Nat.lt_trans hm (by decide)) (by decide)) (fun _ => ?_) (fun h => absurd (Nat.lt_of_lt_of_le hm (by decide)) (of_decide_eq_false h))
    refine x_aload_n (pc' := 28) rfl rfl rfl rfl rfl ?_
    refine x_gR (pc' := 31) (r := (some 0)) rfl rfl rfl (z_R_704_0 e) ?_
    refine x_gR (pc' := 34) (r := (some 0)) rfl rfl rfl (z_R_321_0 e) ?_
    refine x_iload_n (pc' := 35) rfl rfl rfl ?_
    refine x_aald (pc' := 36) (N := 6) (k' := 7) (r := (some m)) rfl rfl rfl (z_N_26_0 e) (io_in (p := m) (N := 6) hm (by decide)) (Eq.trans (congrArg (sE t 26 0) (nn_io (p := m) (Nat.lt_trans hm (by decide)))) (kM (Cn_e e) hm)) ?_
    refine x_reta rfl rfl ?_
    refine sK_i (pc' := 5) rfl ?_
    refine x_astore (pc' := 7) (ls' := [_, _, _, _, _, _, _, _, _]) rfl rfl rfl rfl rfl ?_
    refine x_aload_n (pc' := 8) rfl rfl rfl rfl rfl ?_
    refine x_iload_n (pc' := 9) rfl rfl rfl ?_
    refine x_cv (ls0 := [_, _]) (rest := []) rfl rfl rfl rfl rfl ?_
    refine x_iload_n (pc' := 1) rfl rfl rfl ?_
    refine x_if (a' := 16) (pc' := 4) (z := false) rfl rfl rfl (by decide) (fun h => by cases h) (fun _ => ?_)
    refine x_iload_n (pc' := 5) rfl rfl rfl ?_
    refine x_aload_n (pc' := 6) rfl rfl rfl rfl rfl ?_
    refine x_gR (pc' := 9) (r := (some 0)) rfl rfl rfl (z_R_705_0 e) ?_
    refine x_gR (pc' := 12) (r := (some 0)) rfl rfl rfl (z_R_256_0 e) ?_
    refine x_alen (pc' := 13) (N := 5) rfl rfl rfl (z_N_24_0 e) (?_ : X _ _ _ (.inl 5 :: _) _ _)
    refine x_icmp (a' := 27) (pc' := 16) (z := true) rfl rfl rfl (by decide) (fun _ => ?_) (fun h => by cases h)
    refine x_aload_n (pc' := 28) rfl rfl rfl rfl rfl ?_
    refine x_gR (pc' := 31) (r := (some 0)) rfl rfl rfl (z_R_705_0 e) ?_
    refine x_gR (pc' := 34) (r := (some 0)) rfl rfl rfl (z_R_256_0 e) ?_
    refine x_iload_n (pc' := 35) rfl rfl rfl ?_
    refine x_aald (pc' := 36) (N := 5) (k' := 1) (r := (some 1)) rfl rfl rfl (z_N_24_0 e) (io_in (p := 1) (N := 5) (by decide) (by decide)) (Eq.trans (congrArg (sE t 24 0) (nn_io (p := 1) (by decide))) (z_E_24_0_1 e)) ?_
    refine x_reta rfl rfl ?_
    refine sK_i (pc' := 12) rfl ?_
    refine x_astore (pc' := 14) (ls' := [_, _, _, _, _, _, _, _, _]) rfl rfl rfl rfl rfl ?_
    refine x_aload (pc' := 16) rfl rfl rfl rfl rfl ?_
    refine x_iload (pc' := 18) rfl rfl rfl ?_
    refine x_cs (ls0 := [_, _]) (rest := []) rfl rfl rfl rfl ?_
    refine x_aload_n (pc' := 1) rfl rfl rfl rfl rfl ?_
    refine x_cv (ls0 := [_]) (rest := []) rfl rfl rfl rfl rfl ?_
    refine x_aload_n (pc' := 1) rfl rfl rfl rfl rfl ?_
    refine x_gR (pc' := 4) (r := none) rfl rfl rfl (z_R_66_1 e) ?_
    refine x_ifnull (a' := 11) (pc' := 7) rfl rfl rfl rfl (fun _ => ?_) (fun i h => by cases h)
    refine x_iconst (pc' := 12) rfl rfl ?_
    refine x_retz (z := false) rfl rfl ?_
    refine sK_i (pc' := 4) rfl ?_
    refine x_if (a' := 20) (pc' := 7) (z := true) rfl rfl rfl (by decide) (fun _ => ?_) (fun h => by cases h)
    refine x_iload_n (pc' := 21) rfl rfl rfl ?_
    refine x_iconst (pc' := 22) rfl rfl ?_
    refine x_sipush (pc' := 25) rfl rfl ?_
    refine x_cs (ls0 := [_, _, _]) (rest := []) rfl rfl rfl rfl ?_
    refine x_iload_n (pc' := 1) rfl rfl rfl ?_
    refine x_iload_n (pc' := 2) rfl rfl rfl ?_
    refine x_icmp (a' := 10) (pc' := 5) (z := decide ((xs 4) < 1)) rfl rfl rfl rfl (fun q11 => ?_) (fun q11 => ?_)
    · refine x_throw rfl rfl ?_
      refine sK_n (by decide +kernel) rfl ?_
      refine sK_n (by decide +kernel) rfl ?_
      refine sK_h (h := 23) (by decide +kernel) rfl ?_
      refine x_catch (pc' := 25) (ls' := [_, _, _, _, _, _, _, _]) rfl rfl rfl rfl ?_
      refine x_iconst (pc' := 26) rfl rfl ?_
      refine x_reti rfl rfl ?_
      refine sK_i (pc' := 1060) rfl ?_
      refine x_istore (pc' := 1062) (ls' := [_, _, _, _, _, _, _]) rfl rfl rfl rfl ?_
      refine x_aload_n (pc' := 1063) rfl rfl rfl rfl rfl ?_
      refine x_aload_n (pc' := 1064) rfl rfl rfl rfl rfl ?_
      refine x_iload (pc' := 1066) rfl rfl rfl ?_
      refine x_iconst (pc' := 1067) rfl rfl ?_
      refine x_iadd (pc' := 1068) (z := 1) rfl rfl (by decide) ?_
      refine x_iald (pc' := 1069) (N := 7) (x := (io m)) rfl rfl rfl (Eq.trans rdNthr (z_N_29_0 e)) (io_in (p := 1) (N := 7) (by decide) (by decide)) (Eq.trans (congrArg (sA (sThr t) 29 0) (nn_io (p := 1) (by decide))) (Eq.trans rdAthr (Eq.trans (z_A_29_0_1 e) e0))) ?_
      refine x_aload_n (pc' := 1070) rfl rfl rfl rfl rfl ?_
      refine x_iload (pc' := 1072) rfl rfl rfl ?_
      refine x_iconst (pc' := 1073) rfl rfl ?_
      refine x_iadd (pc' := 1074) (z := 2) rfl rfl (by decide) ?_
      refine x_iald (pc' := 1075) (N := 7) (x := 1) rfl rfl rfl (Eq.trans rdNthr (z_N_29_0 e)) (io_in (p := 2) (N := 7) (by decide) (by decide)) (Eq.trans (congrArg (sA (sThr t) 29 0) (nn_io (p := 2) (by decide))) (Eq.trans rdAthr (Eq.trans (z_A_29_0_2 e) e1))) ?_
      refine x_aload_n (pc' := 1076) rfl rfl rfl rfl rfl ?_
      refine x_iload (pc' := 1078) rfl rfl rfl ?_
      refine x_iconst (pc' := 1079) rfl rfl ?_
      refine x_iadd (pc' := 1080) (z := 3) rfl rfl (by decide) ?_
      refine x_iald (pc' := 1081) (N := 7) (x := (xs 3)) rfl rfl rfl (Eq.trans rdNthr (z_N_29_0 e)) (io_in (p := 3) (N := 7) (by decide) (by decide)) (Eq.trans (congrArg (sA (sThr t) 29 0) (nn_io (p := 3) (by decide))) (Eq.trans rdAthr (z_A_29_0_3 e))) ?_
      have J12 : X 297 1089 [.inr (.inr (29, (some 0))), .inr (.inr (11, (some 0))), .inr (.inr (12, (some 0))), .inr (.inr (23, (some 0))), .inl 0, .inl 2, sJk] [.inl (bz (!(decide ((xs 3) = 0)))), .inl 1, .inl (io m), .inr (.inr (12, (some 0)))] (sThr t) Qp := by
        refine x_aload_n (pc' := 1090) rfl rfl rfl rfl rfl ?_
        refine x_iload (pc' := 1092) rfl rfl rfl ?_
        refine x_iconst (pc' := 1093) rfl rfl ?_
        refine x_iadd (pc' := 1094) (z := 4) rfl rfl (by decide) ?_
        refine x_iald (pc' := 1095) (N := 7) (x := (xs 4)) rfl rfl rfl (Eq.trans rdNthr (z_N_29_0 e)) (io_in (p := 4) (N := 7) (by decide) (by decide)) (Eq.trans (congrArg (sA (sThr t) 29 0) (nn_io (p := 4) (by decide))) (Eq.trans rdAthr (z_A_29_0_4 e))) ?_
        refine x_aload_n (pc' := 1096) rfl rfl rfl rfl rfl ?_
        refine x_iload (pc' := 1098) rfl rfl rfl ?_
        refine x_iconst (pc' := 1099) rfl rfl ?_
        refine x_iadd (pc' := 1100) (z := 5) rfl rfl (by decide) ?_
        refine x_iald (pc' := 1101) (N := 7) (x := (xs 5)) rfl rfl rfl (Eq.trans rdNthr (z_N_29_0 e)) (io_in (p := 5) (N := 7) (by decide) (by decide)) (Eq.trans (congrArg (sA (sThr t) 29 0) (nn_io (p := 5) (by decide))) (Eq.trans rdAthr (z_A_29_0_5 e))) ?_
        refine x_cv (ls0 := [_, _, _, _, _, _, sJk, sJk]) (rest := []) rfl rfl rfl rfl rfl ?_
        refine x_iload_n (pc' := 1) rfl rfl rfl ?_
        refine x_cs (ls0 := [_]) (rest := []) rfl rfl rfl rfl ?_
        refine x_iload_n (pc' := 1) rfl rfl rfl ?_
        refine x_iconst (pc' := 2) rfl rfl ?_
        refine x_iconst (pc' := 3) rfl rfl ?_
        refine x_cs (ls0 := [_, _, _]) (rest := []) rfl rfl rfl rfl ?_
        refine x_iload_n (pc' := 1) rfl rfl rfl ?_
        refine x_iload_n (pc' := 2) rfl rfl rfl ?_
        refine x_icmp (a' := 14) (pc' := 5) (z := false) rfl rfl rfl (by decide) (fun h => by cases h) (fun _ => ?_)
        refine x_iload_n (pc' := 6) rfl rfl rfl ?_
        refine x_iload_n (pc' := 7) rfl rfl rfl ?_
        refine x_icmp (a' := 14) (pc' := 10) (z := false) rfl rfl rfl (by decide) (fun h => by cases h) (fun _ => ?_)
        refine x_iconst (pc' := 11) rfl rfl ?_
        refine x_goto (pc' := 15) rfl rfl ?_
        refine x_retz (z := true) rfl rfl ?_
        refine sK_i (pc' := 6) rfl ?_
        refine x_retz (z := true) rfl rfl ?_
        refine sK_i (pc' := 4) rfl ?_
        refine x_if (a' := 31) (pc' := 7) (z := false) rfl rfl rfl (by decide) (fun h => by cases h) (fun _ => ?_)
        refine x_iload_n (pc' := 8) rfl rfl rfl ?_
        refine x_iload (pc' := 10) rfl rfl rfl ?_
        refine x_cs (ls0 := [_, _]) (rest := []) rfl rfl rfl rfl ?_
        refine x_iload_n (pc' := 1) rfl rfl rfl ?_
        refine x_iconst (pc' := 2) rfl rfl ?_
        refine x_icmp (a' := 16) (pc' := 5) (z := false) rfl rfl rfl (by decide) (fun h => by cases h) (fun _ => ?_)
        refine x_iload_n (pc' := 6) rfl rfl rfl ?_
        refine x_iconst (pc' := 7) rfl rfl ?_
        refine x_sipush (pc' := 10) rfl rfl ?_
        refine x_cs (ls0 := [_, _, _]) (rest := []) rfl rfl rfl rfl ?_
        refine x_iload_n (pc' := 1) rfl rfl rfl ?_
        refine x_iload_n (pc' := 2) rfl rfl rfl ?_
        refine x_icmp (a' := 14) (pc' := 5) (z := decide ((xs 4) < 1)) rfl rfl rfl rfl (fun _ => ?_) (fun h => absurd (of_decide_eq_true q11) (of_decide_eq_false h))
        refine x_iconst (pc' := 15) rfl rfl ?_
        refine x_retz (z := false) rfl rfl ?_
        refine sK_i (pc' := 13) rfl ?_
        refine x_goto (pc' := 26) rfl rfl ?_
        refine x_retz (z := false) rfl rfl ?_
        refine sK_i (pc' := 13) rfl ?_
        refine x_if (a' := 31) (pc' := 16) (z := true) rfl rfl rfl (by decide) (fun _ => ?_) (fun h => by cases h)
        refine x_iconst (pc' := 32) rfl rfl ?_
        refine x_istore (pc' := 34) (ls' := [_, _, _, _, _, _, _, _]) rfl rfl rfl rfl ?_
        refine x_iload_n (pc' := 35) rfl rfl rfl ?_
        refine x_cs (ls0 := [_]) (rest := []) rfl rfl rfl rfl ?_
        refine x_iload_n (pc' := 1) rfl rfl rfl ?_
        refine x_iconst (pc' := 2) rfl rfl ?_
        refine x_iconst (pc' := 3) rfl rfl ?_
        refine x_cs (ls0 := [_, _, _]) (rest := []) rfl rfl rfl rfl ?_
        refine x_iload_n (pc' := 1) rfl rfl rfl ?_
        refine x_iload_n (pc' := 2) rfl rfl rfl ?_
        refine x_icmp (a' := 14) (pc' := 5) (z := false) rfl rfl rfl (by decide) (fun h => by cases h) (fun _ => ?_)
        refine x_iload_n (pc' := 6) rfl rfl rfl ?_
        refine x_iload_n (pc' := 7) rfl rfl rfl ?_
        refine x_icmp (a' := 14) (pc' := 10) (z := false) rfl rfl rfl (by decide) (fun h => by cases h) (fun _ => ?_)
        refine x_iconst (pc' := 11) rfl rfl ?_
        refine x_goto (pc' := 15) rfl rfl ?_
        refine x_retz (z := true) rfl rfl ?_
        refine sK_i (pc' := 6) rfl ?_
        refine x_retz (z := true) rfl rfl ?_
        refine sK_i (pc' := 38) rfl ?_
        refine x_if (a' := 65) (pc' := 41) (z := false) rfl rfl rfl (by decide) (fun h => by cases h) (fun _ => ?_)
        refine x_aload_n (pc' := 42) rfl rfl rfl rfl rfl ?_
        refine x_gR (pc' := 45) (r := (some 0)) rfl rfl rfl (Eq.trans rdRthr (z_R_769_0 e)) ?_
        refine x_iload_n (pc' := 46) rfl rfl rfl ?_
        refine x_iald (pc' := 47) (N := 5) (x := 0) rfl rfl rfl (Eq.trans rdNthr (z_N_21_0 e)) (io_in (p := 1) (N := 5) (by decide) (by decide)) (Eq.trans (congrArg (sA (sThr t) 21 0) (nn_io (p := 1) (by decide))) (Eq.trans rdAthr (z_A_21_0_1 e))) ?_
        refine x_iconst (pc' := 48) rfl rfl ?_
        refine x_icmp (a' := 65) (pc' := 51) (z := true) rfl rfl rfl (by decide) (fun _ => ?_) (fun h => by cases h)
        refine x_iconst (pc' := 66) rfl rfl ?_
        refine x_istore (pc' := 68) (ls' := [_, _, _, _, _, _, _, _]) rfl rfl rfl rfl ?_
        refine x_aload_n (pc' := 69) rfl rfl rfl rfl rfl ?_
        refine x_aload_n (pc' := 70) rfl rfl rfl rfl rfl ?_
        refine x_iload_n (pc' := 71) rfl rfl rfl ?_
        refine x_iload_n (pc' := 72) rfl rfl rfl ?_
        refine x_iload (pc' := 74) rfl rfl rfl ?_
        refine x_iload (pc' := 76) rfl rfl rfl ?_
        refine x_cv (ls0 := [_, _, _, _, _, sJk]) (rest := [_]) rfl rfl rfl rfl rfl ?_
        refine x_iload_n (pc' := 1) rfl rfl rfl ?_
        refine x_cs (ls0 := [_]) (rest := []) rfl rfl rfl rfl ?_
        refine x_iload_n (pc' := 1) rfl rfl rfl ?_
        refine x_iconst (pc' := 2) rfl rfl ?_
        refine x_iconst (pc' := 3) rfl rfl ?_
        refine x_cs (ls0 := [_, _, _]) (rest := []) rfl rfl rfl rfl ?_
        refine x_iload_n (pc' := 1) rfl rfl rfl ?_
        refine x_iload_n (pc' := 2) rfl rfl rfl ?_
        refine x_icmp (a' := 14) (pc' := 5) (z := decide (m < 0)) rfl rfl rfl (ic_lt (p := m) (q := 0) (Nat.lt_trans hm (by decide)) (by decide)) (fun h => absurd (of_decide_eq_true h) (by first | decide | omega | simp)) (fun _ => ?_)
        refine x_iload_n (pc' := 6) rfl rfl rfl ?_
        refine x_iload_n (pc' := 7) rfl rfl rfl ?_
        refine x_icmp (a' := 14) (pc' := 10) (z := decide (5 < m)) rfl rfl rfl (ic_gt (p := m) (q := 5) (Nat.lt_trans hm (by decide)) (by decide)) (fun h => absurd (of_decide_eq_true h) (fun z => absurd hm (Nat.not_lt.mpr z))) (fun _ => ?_)
        refine x_iconst (pc' := 11) rfl rfl ?_
        refine x_goto (pc' := 15) rfl rfl ?_
        refine x_retz (z := true) rfl rfl ?_
        refine sK_i (pc' := 6) rfl ?_
        refine x_retz (z := true) rfl rfl ?_
        refine sK_i (pc' := 4) rfl ?_
        refine x_if (a' := 18) (pc' := 7) (z := false) rfl rfl rfl (by decide) (fun h => by cases h) (fun _ => ?_)
        refine x_iload_n (pc' := 8) rfl rfl rfl ?_
        refine x_cs (ls0 := [_]) (rest := []) rfl rfl rfl rfl ?_
        refine x_iload_n (pc' := 1) rfl rfl rfl ?_
        refine x_iconst (pc' := 2) rfl rfl ?_
        refine x_iconst (pc' := 3) rfl rfl ?_
        refine x_cs (ls0 := [_, _, _]) (rest := []) rfl rfl rfl rfl ?_
        refine x_iload_n (pc' := 1) rfl rfl rfl ?_
        refine x_iload_n (pc' := 2) rfl rfl rfl ?_
        refine x_icmp (a' := 14) (pc' := 5) (z := false) rfl rfl rfl (by decide) (fun h => by cases h) (fun _ => ?_)
        refine x_iload_n (pc' := 6) rfl rfl rfl ?_
        refine x_iload_n (pc' := 7) rfl rfl rfl ?_
        refine x_icmp (a' := 14) (pc' := 10) (z := false) rfl rfl rfl (by decide) (fun h => by cases h) (fun _ => ?_)
        refine x_iconst (pc' := 11) rfl rfl ?_
        refine x_goto (pc' := 15) rfl rfl ?_
        refine x_retz (z := true) rfl rfl ?_
        refine sK_i (pc' := 6) rfl ?_
        refine x_retz (z := true) rfl rfl ?_
        refine sK_i (pc' := 11) rfl ?_
        refine x_if (a' := 18) (pc' := 14) (z := false) rfl rfl rfl (by decide) (fun h => by cases h) (fun _ => ?_)
        refine x_iconst (pc' := 15) rfl rfl ?_
        refine x_goto (pc' := 19) rfl rfl ?_
        refine x_istore (pc' := 21) (ls' := [_, _, _, _, _, _]) rfl rfl rfl rfl ?_
        refine x_iload (pc' := 23) rfl rfl rfl ?_
        refine x_if (a' := 30) (pc' := 26) (z := true) rfl rfl rfl (by decide) (fun _ => ?_) (fun h => by cases h)
        refine x_iload_n (pc' := 31) rfl rfl rfl ?_
        refine x_if (a' := 38) (pc' := 34) (z := false) rfl rfl rfl (by decide) (fun h => by cases h) (fun _ => ?_)
        refine x_iconst (pc' := 35) rfl rfl ?_
        refine x_goto (pc' := 57) rfl rfl ?_
        refine x_reti rfl rfl ?_
        refine sK_i (pc' := 79) rfl ?_
        refine x_cv (ls0 := [_, _]) (rest := []) rfl rfl rfl rfl rfl ?_
        refine x_aload_n (pc' := 1) rfl rfl rfl rfl rfl ?_
        refine x_iload_n (pc' := 2) rfl rfl rfl ?_
        refine x_pI (pc' := 5) rfl rfl rfl ?_
        refine x_iload_n (pc' := 6) rfl rfl rfl ?_
        refine x_if (a' := 13) (pc' := 9) (z := true) rfl rfl rfl (by decide) (fun _ => ?_) (fun h => by cases h)
        refine x_iconst (pc' := 14) rfl rfl ?_
        refine x_retz (z := false) rfl rfl ?_
        refine sK_i (pc' := 82) rfl ?_
        refine x_if (a' := 102) (pc' := 85) (z := true) rfl rfl rfl (by decide) (fun _ => ?_) (fun h => by cases h)
        refine x_iconst (pc' := 103) rfl rfl ?_
        refine x_reti rfl rfl ?_
        refine sK_i (pc' := 1104) rfl ?_
        refine x_istore (pc' := 1106) (ls' := [_, _, _, _, _, _, _]) rfl rfl rfl rfl ?_
        refine x_aload_n (pc' := 1107) rfl rfl rfl rfl rfl ?_
        refine x_cv (ls0 := [_]) (rest := []) rfl rfl rfl rfl rfl ?_
        refine x_aload_n (pc' := 1) rfl rfl rfl rfl rfl ?_
        refine x_gI (pc' := 4) (x := 2) rfl rfl rfl sI_s ?_
        refine x_reti rfl rfl ?_
        refine sK_i (pc' := 1110) rfl ?_
        refine x_iload (pc' := 1112) rfl rfl rfl ?_
        refine x_icmp (a' := 1117) (pc' := 1115) (z := true) rfl rfl rfl (by decide) (fun _ => ?_) (fun h => by cases h)
        refine x_iload (pc' := 1119) rfl rfl rfl ?_
        refine x_if (a' := 1134) (pc' := 1122) (z := true) rfl rfl rfl (by decide) (fun _ => ?_) (fun h => by cases h)
        refine x_goto (pc' := 2938) rfl rfl ?_
        refine x_iinc (pc' := 2941) (y := 7) (ls' := [_, _, _, _, _, _, _]) rfl rfl rfl rfl rfl ?_
        refine x_goto (pc' := 23) rfl rfl ?_
        refine x_iload (pc' := 25) rfl rfl rfl ?_
        refine x_aload_n (pc' := 26) rfl rfl rfl rfl rfl ?_
        refine x_alen (pc' := 27) (N := 7) rfl rfl rfl (Eq.trans rdNI (Eq.trans rdNthr (z_N_29_0 e))) (?_ : X _ _ _ (.inl 7 :: _) _ _)
        refine x_bipush (pc' := 29) rfl rfl ?_
        refine x_isub (pc' := 30) (z := 0) rfl rfl (by decide) ?_
        refine x_icmp (a' := 2944) (pc' := 33) (z := true) rfl rfl rfl (by decide) (fun _ => ?_) (fun h => by cases h)
        refine x_iconst (pc' := 2945) rfl rfl ?_
        refine x_retz (z := true) rfl rfl ?_
        exact Qp_ok e (p := 1) (q := 6) rfl rfl rfl rfl
      refine x_if (a' := 1088) (pc' := 1084) (z := decide ((xs 3) = 0)) rfl rfl rfl rfl (fun q12 => ?_) (fun q12 => ?_)
      · refine x_iconst (pc' := 1089) rfl rfl ?_
        ((try rw [q12] at J12); (try rw [q12]); (try simp only [cd_t, cd_f, nt_t, nt_f, an_t, an_f, or_t, or_f] at J12); (try simp only [cd_t, cd_f, nt_t, nt_f, an_t, an_f, or_t, or_f]); exact J12)
      · refine x_iconst (pc' := 1085) rfl rfl ?_
        refine x_goto (pc' := 1089) rfl rfl ?_
        ((try rw [q12] at J12); (try rw [q12]); (try simp only [cd_t, cd_f, nt_t, nt_f, an_t, an_f, or_t, or_f] at J12); (try simp only [cd_t, cd_f, nt_t, nt_f, an_t, an_f, or_t, or_f]); exact J12)
    · refine x_iload_n (pc' := 6) rfl rfl rfl ?_
      refine x_iload_n (pc' := 7) rfl rfl rfl ?_
      refine x_icmp_n (a' := 21) (pc' := 10) (z := decide (999 < (xs 4))) rfl rfl rfl (ik_le _ _) (fun q37 => ?_) (fun q37 => ?_)
      · refine x_ret rfl ?_
        refine sK_v (pc' := 28) rfl ?_
        refine x_ret rfl ?_
        refine sK_v (pc' := 21) rfl ?_
        refine x_iload (pc' := 23) rfl rfl rfl ?_
        refine x_iconst (pc' := 24) rfl rfl ?_
        refine x_bipush (pc' := 26) rfl rfl ?_
        refine x_cs (ls0 := [_, _, _]) (rest := []) rfl rfl rfl rfl ?_
        refine x_iload_n (pc' := 1) rfl rfl rfl ?_
        refine x_iload_n (pc' := 2) rfl rfl rfl ?_
        refine x_icmp (a' := 10) (pc' := 5) (z := decide ((xs 5) < 1)) rfl rfl rfl rfl (fun q38 => ?_) (fun q38 => ?_)
        · refine x_throw rfl rfl ?_
          refine sK_n (by decide +kernel) rfl ?_
          refine sK_h (h := 23) (by decide +kernel) rfl ?_
          refine x_catch (pc' := 25) (ls' := [_, _, _, _, _, _, _, _]) rfl rfl rfl rfl ?_
          refine x_iconst (pc' := 26) rfl rfl ?_
          refine x_reti rfl rfl ?_
          refine sK_i (pc' := 1060) rfl ?_
          refine x_istore (pc' := 1062) (ls' := [_, _, _, _, _, _, _]) rfl rfl rfl rfl ?_
          refine x_aload_n (pc' := 1063) rfl rfl rfl rfl rfl ?_
          refine x_aload_n (pc' := 1064) rfl rfl rfl rfl rfl ?_
          refine x_iload (pc' := 1066) rfl rfl rfl ?_
          refine x_iconst (pc' := 1067) rfl rfl ?_
          refine x_iadd (pc' := 1068) (z := 1) rfl rfl (by decide) ?_
          refine x_iald (pc' := 1069) (N := 7) (x := (io m)) rfl rfl rfl (Eq.trans rdNthr (z_N_29_0 e)) (io_in (p := 1) (N := 7) (by decide) (by decide)) (Eq.trans (congrArg (sA (sThr t) 29 0) (nn_io (p := 1) (by decide))) (Eq.trans rdAthr (Eq.trans (z_A_29_0_1 e) e0))) ?_
          refine x_aload_n (pc' := 1070) rfl rfl rfl rfl rfl ?_
          refine x_iload (pc' := 1072) rfl rfl rfl ?_
          refine x_iconst (pc' := 1073) rfl rfl ?_
          refine x_iadd (pc' := 1074) (z := 2) rfl rfl (by decide) ?_
          refine x_iald (pc' := 1075) (N := 7) (x := 1) rfl rfl rfl (Eq.trans rdNthr (z_N_29_0 e)) (io_in (p := 2) (N := 7) (by decide) (by decide)) (Eq.trans (congrArg (sA (sThr t) 29 0) (nn_io (p := 2) (by decide))) (Eq.trans rdAthr (Eq.trans (z_A_29_0_2 e) e1))) ?_
          refine x_aload_n (pc' := 1076) rfl rfl rfl rfl rfl ?_
          refine x_iload (pc' := 1078) rfl rfl rfl ?_
          refine x_iconst (pc' := 1079) rfl rfl ?_
          refine x_iadd (pc' := 1080) (z := 3) rfl rfl (by decide) ?_
          refine x_iald (pc' := 1081) (N := 7) (x := (xs 3)) rfl rfl rfl (Eq.trans rdNthr (z_N_29_0 e)) (io_in (p := 3) (N := 7) (by decide) (by decide)) (Eq.trans (congrArg (sA (sThr t) 29 0) (nn_io (p := 3) (by decide))) (Eq.trans rdAthr (z_A_29_0_3 e))) ?_
          have J39 : X 297 1089 [.inr (.inr (29, (some 0))), .inr (.inr (11, (some 0))), .inr (.inr (12, (some 0))), .inr (.inr (23, (some 0))), .inl 0, .inl 2, sJk] [.inl (bz (!(decide ((xs 3) = 0)))), .inl 1, .inl (io m), .inr (.inr (12, (some 0)))] (sThr t) Qp := by
            refine x_aload_n (pc' := 1090) rfl rfl rfl rfl rfl ?_
            refine x_iload (pc' := 1092) rfl rfl rfl ?_
            refine x_iconst (pc' := 1093) rfl rfl ?_
            refine x_iadd (pc' := 1094) (z := 4) rfl rfl (by decide) ?_
            refine x_iald (pc' := 1095) (N := 7) (x := (xs 4)) rfl rfl rfl (Eq.trans rdNthr (z_N_29_0 e)) (io_in (p := 4) (N := 7) (by decide) (by decide)) (Eq.trans (congrArg (sA (sThr t) 29 0) (nn_io (p := 4) (by decide))) (Eq.trans rdAthr (z_A_29_0_4 e))) ?_
            refine x_aload_n (pc' := 1096) rfl rfl rfl rfl rfl ?_
            refine x_iload (pc' := 1098) rfl rfl rfl ?_
            refine x_iconst (pc' := 1099) rfl rfl ?_
            refine x_iadd (pc' := 1100) (z := 5) rfl rfl (by decide) ?_
            refine x_iald (pc' := 1101) (N := 7) (x := (xs 5)) rfl rfl rfl (Eq.trans rdNthr (z_N_29_0 e)) (io_in (p := 5) (N := 7) (by decide) (by decide)) (Eq.trans (congrArg (sA (sThr t) 29 0) (nn_io (p := 5) (by decide))) (Eq.trans rdAthr (z_A_29_0_5 e))) ?_
            refine x_cv (ls0 := [_, _, _, _, _, _, sJk, sJk]) (rest := []) rfl rfl rfl rfl rfl ?_
            refine x_iload_n (pc' := 1) rfl rfl rfl ?_
            refine x_cs (ls0 := [_]) (rest := []) rfl rfl rfl rfl ?_
            refine x_iload_n (pc' := 1) rfl rfl rfl ?_
            refine x_iconst (pc' := 2) rfl rfl ?_
            refine x_iconst (pc' := 3) rfl rfl ?_
            refine x_cs (ls0 := [_, _, _]) (rest := []) rfl rfl rfl rfl ?_
            refine x_iload_n (pc' := 1) rfl rfl rfl ?_
            refine x_iload_n (pc' := 2) rfl rfl rfl ?_
            refine x_icmp (a' := 14) (pc' := 5) (z := false) rfl rfl rfl (by decide) (fun h => by cases h) (fun _ => ?_)
            refine x_iload_n (pc' := 6) rfl rfl rfl ?_
            refine x_iload_n (pc' := 7) rfl rfl rfl ?_
            refine x_icmp (a' := 14) (pc' := 10) (z := false) rfl rfl rfl (by decide) (fun h => by cases h) (fun _ => ?_)
            refine x_iconst (pc' := 11) rfl rfl ?_
            refine x_goto (pc' := 15) rfl rfl ?_
            refine x_retz (z := true) rfl rfl ?_
            refine sK_i (pc' := 6) rfl ?_
            refine x_retz (z := true) rfl rfl ?_
            refine sK_i (pc' := 4) rfl ?_
            refine x_if (a' := 31) (pc' := 7) (z := false) rfl rfl rfl (by decide) (fun h => by cases h) (fun _ => ?_)
            refine x_iload_n (pc' := 8) rfl rfl rfl ?_
            refine x_iload (pc' := 10) rfl rfl rfl ?_
            refine x_cs (ls0 := [_, _]) (rest := []) rfl rfl rfl rfl ?_
            refine x_iload_n (pc' := 1) rfl rfl rfl ?_
            refine x_iconst (pc' := 2) rfl rfl ?_
            refine x_icmp (a' := 16) (pc' := 5) (z := false) rfl rfl rfl (by decide) (fun h => by cases h) (fun _ => ?_)
            refine x_iload_n (pc' := 6) rfl rfl rfl ?_
            refine x_iconst (pc' := 7) rfl rfl ?_
            refine x_sipush (pc' := 10) rfl rfl ?_
            refine x_cs (ls0 := [_, _, _]) (rest := []) rfl rfl rfl rfl ?_
            refine x_iload_n (pc' := 1) rfl rfl rfl ?_
            refine x_iload_n (pc' := 2) rfl rfl rfl ?_
            refine x_icmp (a' := 14) (pc' := 5) (z := decide ((xs 4) < 1)) rfl rfl rfl rfl (fun h => absurd (of_decide_eq_true h) (of_decide_eq_false q11)) (fun _ => ?_)
            refine x_iload_n (pc' := 6) rfl rfl rfl ?_
            refine x_iload_n (pc' := 7) rfl rfl rfl ?_
            refine x_icmp (a' := 14) (pc' := 10) (z := decide (999 < (xs 4))) rfl rfl rfl rfl (fun h => absurd (of_decide_eq_true h) (of_decide_eq_false q37)) (fun _ => ?_)
            refine x_iconst (pc' := 11) rfl rfl ?_
            refine x_goto (pc' := 15) rfl rfl ?_
            refine x_retz (z := true) rfl rfl ?_
            refine sK_i (pc' := 13) rfl ?_
            refine x_goto (pc' := 26) rfl rfl ?_
            refine x_retz (z := true) rfl rfl ?_
            refine sK_i (pc' := 13) rfl ?_
            refine x_if (a' := 31) (pc' := 16) (z := false) rfl rfl rfl (by decide) (fun h => by cases h) (fun _ => ?_)
            refine x_iload (pc' := 18) rfl rfl rfl ?_
            refine x_iconst (pc' := 19) rfl rfl ?_
            refine x_bipush (pc' := 21) rfl rfl ?_
            refine x_cs (ls0 := [_, _, _]) (rest := []) rfl rfl rfl rfl ?_
            refine x_iload_n (pc' := 1) rfl rfl rfl ?_
            refine x_iload_n (pc' := 2) rfl rfl rfl ?_
            refine x_icmp (a' := 14) (pc' := 5) (z := decide ((xs 5) < 1)) rfl rfl rfl rfl (fun _ => ?_) (fun h => absurd (of_decide_eq_true q38) (of_decide_eq_false h))
            refine x_iconst (pc' := 15) rfl rfl ?_
            refine x_retz (z := false) rfl rfl ?_
            refine sK_i (pc' := 24) rfl ?_
            refine x_if (a' := 31) (pc' := 27) (z := true) rfl rfl rfl (by decide) (fun _ => ?_) (fun h => by cases h)
            refine x_iconst (pc' := 32) rfl rfl ?_
            refine x_istore (pc' := 34) (ls' := [_, _, _, _, _, _, _, _]) rfl rfl rfl rfl ?_
            refine x_iload_n (pc' := 35) rfl rfl rfl ?_
            refine x_cs (ls0 := [_]) (rest := []) rfl rfl rfl rfl ?_
            refine x_iload_n (pc' := 1) rfl rfl rfl ?_
            refine x_iconst (pc' := 2) rfl rfl ?_
            refine x_iconst (pc' := 3) rfl rfl ?_
            refine x_cs (ls0 := [_, _, _]) (rest := []) rfl rfl rfl rfl ?_
            refine x_iload_n (pc' := 1) rfl rfl rfl ?_
            refine x_iload_n (pc' := 2) rfl rfl rfl ?_
            refine x_icmp (a' := 14) (pc' := 5) (z := false) rfl rfl rfl (by decide) (fun h => by cases h) (fun _ => ?_)
            refine x_iload_n (pc' := 6) rfl rfl rfl ?_
            refine x_iload_n (pc' := 7) rfl rfl rfl ?_
            refine x_icmp (a' := 14) (pc' := 10) (z := false) rfl rfl rfl (by decide) (fun h => by cases h) (fun _ => ?_)
            refine x_iconst (pc' := 11) rfl rfl ?_
            refine x_goto (pc' := 15) rfl rfl ?_
            refine x_retz (z := true) rfl rfl ?_
            refine sK_i (pc' := 6) rfl ?_
            refine x_retz (z := true) rfl rfl ?_
            refine sK_i (pc' := 38) rfl ?_
            refine x_if (a' := 65) (pc' := 41) (z := false) rfl rfl rfl (by decide) (fun h => by cases h) (fun _ => ?_)
            refine x_aload_n (pc' := 42) rfl rfl rfl rfl rfl ?_
            refine x_gR (pc' := 45) (r := (some 0)) rfl rfl rfl (Eq.trans rdRthr (z_R_769_0 e)) ?_
            refine x_iload_n (pc' := 46) rfl rfl rfl ?_
            refine x_iald (pc' := 47) (N := 5) (x := 0) rfl rfl rfl (Eq.trans rdNthr (z_N_21_0 e)) (io_in (p := 1) (N := 5) (by decide) (by decide)) (Eq.trans (congrArg (sA (sThr t) 21 0) (nn_io (p := 1) (by decide))) (Eq.trans rdAthr (z_A_21_0_1 e))) ?_
            refine x_iconst (pc' := 48) rfl rfl ?_
            refine x_icmp (a' := 65) (pc' := 51) (z := true) rfl rfl rfl (by decide) (fun _ => ?_) (fun h => by cases h)
            refine x_iconst (pc' := 66) rfl rfl ?_
            refine x_istore (pc' := 68) (ls' := [_, _, _, _, _, _, _, _]) rfl rfl rfl rfl ?_
            refine x_aload_n (pc' := 69) rfl rfl rfl rfl rfl ?_
            refine x_aload_n (pc' := 70) rfl rfl rfl rfl rfl ?_
            refine x_iload_n (pc' := 71) rfl rfl rfl ?_
            refine x_iload_n (pc' := 72) rfl rfl rfl ?_
            refine x_iload (pc' := 74) rfl rfl rfl ?_
            refine x_iload (pc' := 76) rfl rfl rfl ?_
            refine x_cv (ls0 := [_, _, _, _, _, sJk]) (rest := [_]) rfl rfl rfl rfl rfl ?_
            refine x_iload_n (pc' := 1) rfl rfl rfl ?_
            refine x_cs (ls0 := [_]) (rest := []) rfl rfl rfl rfl ?_
            refine x_iload_n (pc' := 1) rfl rfl rfl ?_
            refine x_iconst (pc' := 2) rfl rfl ?_
            refine x_iconst (pc' := 3) rfl rfl ?_
            refine x_cs (ls0 := [_, _, _]) (rest := []) rfl rfl rfl rfl ?_
            refine x_iload_n (pc' := 1) rfl rfl rfl ?_
            refine x_iload_n (pc' := 2) rfl rfl rfl ?_
            refine x_icmp (a' := 14) (pc' := 5) (z := decide (m < 0)) rfl rfl rfl (ic_lt (p := m) (q := 0) (Nat.lt_trans hm (by decide)) (by decide)) (fun h => absurd (of_decide_eq_true h) (by first | decide | omega | simp)) (fun _ => ?_)
            refine x_iload_n (pc' := 6) rfl rfl rfl ?_
            refine x_iload_n (pc' := 7) rfl rfl rfl ?_
            refine x_icmp (a' := 14) (pc' := 10) (z := decide (5 < m)) rfl rfl rfl (ic_gt (p := m) (q := 5) (Nat.lt_trans hm (by decide)) (by decide)) (fun h => absurd (of_decide_eq_true h) (fun z => absurd hm (Nat.not_lt.mpr z))) (fun _ => ?_)
            refine x_iconst (pc' := 11) rfl rfl ?_
            refine x_goto (pc' := 15) rfl rfl ?_
            refine x_retz (z := true) rfl rfl ?_
            refine sK_i (pc' := 6) rfl ?_
            refine x_retz (z := true) rfl rfl ?_
            refine sK_i (pc' := 4) rfl ?_
            refine x_if (a' := 18) (pc' := 7) (z := false) rfl rfl rfl (by decide) (fun h => by cases h) (fun _ => ?_)
            refine x_iload_n (pc' := 8) rfl rfl rfl ?_
            refine x_cs (ls0 := [_]) (rest := []) rfl rfl rfl rfl ?_
            refine x_iload_n (pc' := 1) rfl rfl rfl ?_
            refine x_iconst (pc' := 2) rfl rfl ?_
            refine x_iconst (pc' := 3) rfl rfl ?_
            refine x_cs (ls0 := [_, _, _]) (rest := []) rfl rfl rfl rfl ?_
            refine x_iload_n (pc' := 1) rfl rfl rfl ?_
            refine x_iload_n (pc' := 2) rfl rfl rfl ?_
            refine x_icmp (a' := 14) (pc' := 5) (z := false) rfl rfl rfl (by decide) (fun h => by cases h) (fun _ => ?_)
            refine x_iload_n (pc' := 6) rfl rfl rfl ?_
            refine x_iload_n (pc' := 7) rfl rfl rfl ?_
            refine x_icmp (a' := 14) (pc' := 10) (z := false) rfl rfl rfl (by decide) (fun h => by cases h) (fun _ => ?_)
            refine x_iconst (pc' := 11) rfl rfl ?_
            refine x_goto (pc' := 15) rfl rfl ?_
            refine x_retz (z := true) rfl rfl ?_
            refine sK_i (pc' := 6) rfl ?_
            refine x_retz (z := true) rfl rfl ?_
            refine sK_i (pc' := 11) rfl ?_
            refine x_if (a' := 18) (pc' := 14) (z := false) rfl rfl rfl (by decide) (fun h => by cases h) (fun _ => ?_)
            refine x_iconst (pc' := 15) rfl rfl ?_
            refine x_goto (pc' := 19) rfl rfl ?_
            refine x_istore (pc' := 21) (ls' := [_, _, _, _, _, _]) rfl rfl rfl rfl ?_
            refine x_iload (pc' := 23) rfl rfl rfl ?_
            refine x_if (a' := 30) (pc' := 26) (z := true) rfl rfl rfl (by decide) (fun _ => ?_) (fun h => by cases h)
            refine x_iload_n (pc' := 31) rfl rfl rfl ?_
            refine x_if (a' := 38) (pc' := 34) (z := false) rfl rfl rfl (by decide) (fun h => by cases h) (fun _ => ?_)
            refine x_iconst (pc' := 35) rfl rfl ?_
            refine x_goto (pc' := 57) rfl rfl ?_
            refine x_reti rfl rfl ?_
            refine sK_i (pc' := 79) rfl ?_
            refine x_cv (ls0 := [_, _]) (rest := []) rfl rfl rfl rfl rfl ?_
            refine x_aload_n (pc' := 1) rfl rfl rfl rfl rfl ?_
            refine x_iload_n (pc' := 2) rfl rfl rfl ?_
            refine x_pI (pc' := 5) rfl rfl rfl ?_
            refine x_iload_n (pc' := 6) rfl rfl rfl ?_
            refine x_if (a' := 13) (pc' := 9) (z := true) rfl rfl rfl (by decide) (fun _ => ?_) (fun h => by cases h)
            refine x_iconst (pc' := 14) rfl rfl ?_
            refine x_retz (z := false) rfl rfl ?_
            refine sK_i (pc' := 82) rfl ?_
            refine x_if (a' := 102) (pc' := 85) (z := true) rfl rfl rfl (by decide) (fun _ => ?_) (fun h => by cases h)
            refine x_iconst (pc' := 103) rfl rfl ?_
            refine x_reti rfl rfl ?_
            refine sK_i (pc' := 1104) rfl ?_
            refine x_istore (pc' := 1106) (ls' := [_, _, _, _, _, _, _]) rfl rfl rfl rfl ?_
            refine x_aload_n (pc' := 1107) rfl rfl rfl rfl rfl ?_
            refine x_cv (ls0 := [_]) (rest := []) rfl rfl rfl rfl rfl ?_
            refine x_aload_n (pc' := 1) rfl rfl rfl rfl rfl ?_
            refine x_gI (pc' := 4) (x := 2) rfl rfl rfl sI_s ?_
            refine x_reti rfl rfl ?_
            refine sK_i (pc' := 1110) rfl ?_
            refine x_iload (pc' := 1112) rfl rfl rfl ?_
            refine x_icmp (a' := 1117) (pc' := 1115) (z := true) rfl rfl rfl (by decide) (fun _ => ?_) (fun h => by cases h)
            refine x_iload (pc' := 1119) rfl rfl rfl ?_
            refine x_if (a' := 1134) (pc' := 1122) (z := true) rfl rfl rfl (by decide) (fun _ => ?_) (fun h => by cases h)
            refine x_goto (pc' := 2938) rfl rfl ?_
            refine x_iinc (pc' := 2941) (y := 7) (ls' := [_, _, _, _, _, _, _]) rfl rfl rfl rfl rfl ?_
            refine x_goto (pc' := 23) rfl rfl ?_
            refine x_iload (pc' := 25) rfl rfl rfl ?_
            refine x_aload_n (pc' := 26) rfl rfl rfl rfl rfl ?_
            refine x_alen (pc' := 27) (N := 7) rfl rfl rfl (Eq.trans rdNI (Eq.trans rdNthr (z_N_29_0 e))) (?_ : X _ _ _ (.inl 7 :: _) _ _)
            refine x_bipush (pc' := 29) rfl rfl ?_
            refine x_isub (pc' := 30) (z := 0) rfl rfl (by decide) ?_
            refine x_icmp (a' := 2944) (pc' := 33) (z := true) rfl rfl rfl (by decide) (fun _ => ?_) (fun h => by cases h)
            refine x_iconst (pc' := 2945) rfl rfl ?_
            refine x_retz (z := true) rfl rfl ?_
            exact Qp_ok e (p := 1) (q := 6) rfl rfl rfl rfl
          refine x_if (a' := 1088) (pc' := 1084) (z := decide ((xs 3) = 0)) rfl rfl rfl rfl (fun q39 => ?_) (fun q39 => ?_)
          · refine x_iconst (pc' := 1089) rfl rfl ?_
            ((try rw [q39] at J39); (try rw [q39]); (try simp only [cd_t, cd_f, nt_t, nt_f, an_t, an_f, or_t, or_f] at J39); (try simp only [cd_t, cd_f, nt_t, nt_f, an_t, an_f, or_t, or_f]); exact J39)
          · refine x_iconst (pc' := 1085) rfl rfl ?_
            refine x_goto (pc' := 1089) rfl rfl ?_
            ((try rw [q39] at J39); (try rw [q39]); (try simp only [cd_t, cd_f, nt_t, nt_f, an_t, an_f, or_t, or_f] at J39); (try simp only [cd_t, cd_f, nt_t, nt_f, an_t, an_f, or_t, or_f]); exact J39)
        · refine x_iload_n (pc' := 6) rfl rfl rfl ?_
          refine x_iload_n (pc' := 7) rfl rfl rfl ?_
          refine x_icmp_n (a' := 21) (pc' := 10) (z := decide (100 < (xs 5))) rfl rfl rfl (ik_le _ _) (fun q67 => ?_) (fun q67 => ?_)
          · refine x_ret rfl ?_
            refine sK_v (pc' := 29) rfl ?_
            refine x_aload (pc' := 31) rfl rfl rfl rfl rfl ?_
            refine x_gI (pc' := 34) (x := 0) rfl rfl rfl (z_I_67_1 e) ?_
            refine x_iconst (pc' := 35) rfl rfl ?_
            refine x_icmp (a' := 42) (pc' := 38) (z := true) rfl rfl rfl (by decide) (fun _ => ?_) (fun h => by cases h)
            refine x_iconst (pc' := 43) rfl rfl ?_
            refine x_cs (ls0 := [_]) (rest := []) rfl rfl rfl rfl ?_
            refine x_iload_n (pc' := 1) rfl rfl rfl ?_
            refine x_if (a' := 15) (pc' := 4) (z := false) rfl rfl rfl (by decide) (fun h => by cases h) (fun _ => ?_)
            refine x_throw rfl rfl ?_
            refine sK_n (by decide +kernel) rfl ?_
            refine sK_h (h := 27) (by decide +kernel) rfl ?_
            refine x_catch (pc' := 29) (ls' := [_, _, _, _, _, _, _, _]) rfl rfl rfl rfl ?_
            refine x_iconst (pc' := 30) rfl rfl ?_
            refine x_reti rfl rfl ?_
            refine sK_i (pc' := 1060) rfl ?_
            refine x_istore (pc' := 1062) (ls' := [_, _, _, _, _, _, _]) rfl rfl rfl rfl ?_
            refine x_aload_n (pc' := 1063) rfl rfl rfl rfl rfl ?_
            refine x_aload_n (pc' := 1064) rfl rfl rfl rfl rfl ?_
            refine x_iload (pc' := 1066) rfl rfl rfl ?_
            refine x_iconst (pc' := 1067) rfl rfl ?_
            refine x_iadd (pc' := 1068) (z := 1) rfl rfl (by decide) ?_
            refine x_iald (pc' := 1069) (N := 7) (x := (io m)) rfl rfl rfl (Eq.trans rdNthr (z_N_29_0 e)) (io_in (p := 1) (N := 7) (by decide) (by decide)) (Eq.trans (congrArg (sA (sThr t) 29 0) (nn_io (p := 1) (by decide))) (Eq.trans rdAthr (Eq.trans (z_A_29_0_1 e) e0))) ?_
            refine x_aload_n (pc' := 1070) rfl rfl rfl rfl rfl ?_
            refine x_iload (pc' := 1072) rfl rfl rfl ?_
            refine x_iconst (pc' := 1073) rfl rfl ?_
            refine x_iadd (pc' := 1074) (z := 2) rfl rfl (by decide) ?_
            refine x_iald (pc' := 1075) (N := 7) (x := 1) rfl rfl rfl (Eq.trans rdNthr (z_N_29_0 e)) (io_in (p := 2) (N := 7) (by decide) (by decide)) (Eq.trans (congrArg (sA (sThr t) 29 0) (nn_io (p := 2) (by decide))) (Eq.trans rdAthr (Eq.trans (z_A_29_0_2 e) e1))) ?_
            refine x_aload_n (pc' := 1076) rfl rfl rfl rfl rfl ?_
            refine x_iload (pc' := 1078) rfl rfl rfl ?_
            refine x_iconst (pc' := 1079) rfl rfl ?_
            refine x_iadd (pc' := 1080) (z := 3) rfl rfl (by decide) ?_
            refine x_iald (pc' := 1081) (N := 7) (x := (xs 3)) rfl rfl rfl (Eq.trans rdNthr (z_N_29_0 e)) (io_in (p := 3) (N := 7) (by decide) (by decide)) (Eq.trans (congrArg (sA (sThr t) 29 0) (nn_io (p := 3) (by decide))) (Eq.trans rdAthr (z_A_29_0_3 e))) ?_
            have J70 : X 297 1089 [.inr (.inr (29, (some 0))), .inr (.inr (11, (some 0))), .inr (.inr (12, (some 0))), .inr (.inr (23, (some 0))), .inl 0, .inl 3, sJk] [.inl (bz (!(decide ((xs 3) = 0)))), .inl 1, .inl (io m), .inr (.inr (12, (some 0)))] (sThr t) Qp := by
              refine x_aload_n (pc' := 1090) rfl rfl rfl rfl rfl ?_
              refine x_iload (pc' := 1092) rfl rfl rfl ?_
              refine x_iconst (pc' := 1093) rfl rfl ?_
              refine x_iadd (pc' := 1094) (z := 4) rfl rfl (by decide) ?_
              refine x_iald (pc' := 1095) (N := 7) (x := (xs 4)) rfl rfl rfl (Eq.trans rdNthr (z_N_29_0 e)) (io_in (p := 4) (N := 7) (by decide) (by decide)) (Eq.trans (congrArg (sA (sThr t) 29 0) (nn_io (p := 4) (by decide))) (Eq.trans rdAthr (z_A_29_0_4 e))) ?_
              refine x_aload_n (pc' := 1096) rfl rfl rfl rfl rfl ?_
              refine x_iload (pc' := 1098) rfl rfl rfl ?_
              refine x_iconst (pc' := 1099) rfl rfl ?_
              refine x_iadd (pc' := 1100) (z := 5) rfl rfl (by decide) ?_
              refine x_iald (pc' := 1101) (N := 7) (x := (xs 5)) rfl rfl rfl (Eq.trans rdNthr (z_N_29_0 e)) (io_in (p := 5) (N := 7) (by decide) (by decide)) (Eq.trans (congrArg (sA (sThr t) 29 0) (nn_io (p := 5) (by decide))) (Eq.trans rdAthr (z_A_29_0_5 e))) ?_
              refine x_cv (ls0 := [_, _, _, _, _, _, sJk, sJk]) (rest := []) rfl rfl rfl rfl rfl ?_
              refine x_iload_n (pc' := 1) rfl rfl rfl ?_
              refine x_cs (ls0 := [_]) (rest := []) rfl rfl rfl rfl ?_
              refine x_iload_n (pc' := 1) rfl rfl rfl ?_
              refine x_iconst (pc' := 2) rfl rfl ?_
              refine x_iconst (pc' := 3) rfl rfl ?_
              refine x_cs (ls0 := [_, _, _]) (rest := []) rfl rfl rfl rfl ?_
              refine x_iload_n (pc' := 1) rfl rfl rfl ?_
              refine x_iload_n (pc' := 2) rfl rfl rfl ?_
              refine x_icmp (a' := 14) (pc' := 5) (z := false) rfl rfl rfl (by decide) (fun h => by cases h) (fun _ => ?_)
              refine x_iload_n (pc' := 6) rfl rfl rfl ?_
              refine x_iload_n (pc' := 7) rfl rfl rfl ?_
              refine x_icmp (a' := 14) (pc' := 10) (z := false) rfl rfl rfl (by decide) (fun h => by cases h) (fun _ => ?_)
              refine x_iconst (pc' := 11) rfl rfl ?_
              refine x_goto (pc' := 15) rfl rfl ?_
              refine x_retz (z := true) rfl rfl ?_
              refine sK_i (pc' := 6) rfl ?_
              refine x_retz (z := true) rfl rfl ?_
              refine sK_i (pc' := 4) rfl ?_
              refine x_if (a' := 31) (pc' := 7) (z := false) rfl rfl rfl (by decide) (fun h => by cases h) (fun _ => ?_)
              refine x_iload_n (pc' := 8) rfl rfl rfl ?_
              refine x_iload (pc' := 10) rfl rfl rfl ?_
              refine x_cs (ls0 := [_, _]) (rest := []) rfl rfl rfl rfl ?_
              refine x_iload_n (pc' := 1) rfl rfl rfl ?_
              refine x_iconst (pc' := 2) rfl rfl ?_
              refine x_icmp (a' := 16) (pc' := 5) (z := false) rfl rfl rfl (by decide) (fun h => by cases h) (fun _ => ?_)
              refine x_iload_n (pc' := 6) rfl rfl rfl ?_
              refine x_iconst (pc' := 7) rfl rfl ?_
              refine x_sipush (pc' := 10) rfl rfl ?_
              refine x_cs (ls0 := [_, _, _]) (rest := []) rfl rfl rfl rfl ?_
              refine x_iload_n (pc' := 1) rfl rfl rfl ?_
              refine x_iload_n (pc' := 2) rfl rfl rfl ?_
              refine x_icmp (a' := 14) (pc' := 5) (z := decide ((xs 4) < 1)) rfl rfl rfl rfl (fun h => absurd (of_decide_eq_true h) (of_decide_eq_false q11)) (fun _ => ?_)
              refine x_iload_n (pc' := 6) rfl rfl rfl ?_
              refine x_iload_n (pc' := 7) rfl rfl rfl ?_
              refine x_icmp (a' := 14) (pc' := 10) (z := decide (999 < (xs 4))) rfl rfl rfl rfl (fun h => absurd (of_decide_eq_true h) (of_decide_eq_false q37)) (fun _ => ?_)
              refine x_iconst (pc' := 11) rfl rfl ?_
              refine x_goto (pc' := 15) rfl rfl ?_
              refine x_retz (z := true) rfl rfl ?_
              refine sK_i (pc' := 13) rfl ?_
              refine x_goto (pc' := 26) rfl rfl ?_
              refine x_retz (z := true) rfl rfl ?_
              refine sK_i (pc' := 13) rfl ?_
              refine x_if (a' := 31) (pc' := 16) (z := false) rfl rfl rfl (by decide) (fun h => by cases h) (fun _ => ?_)
              refine x_iload (pc' := 18) rfl rfl rfl ?_
              refine x_iconst (pc' := 19) rfl rfl ?_
              refine x_bipush (pc' := 21) rfl rfl ?_
              refine x_cs (ls0 := [_, _, _]) (rest := []) rfl rfl rfl rfl ?_
              refine x_iload_n (pc' := 1) rfl rfl rfl ?_
              refine x_iload_n (pc' := 2) rfl rfl rfl ?_
              refine x_icmp (a' := 14) (pc' := 5) (z := decide ((xs 5) < 1)) rfl rfl rfl rfl (fun h => absurd (of_decide_eq_true h) (of_decide_eq_false q38)) (fun _ => ?_)
              refine x_iload_n (pc' := 6) rfl rfl rfl ?_
              refine x_iload_n (pc' := 7) rfl rfl rfl ?_
              refine x_icmp (a' := 14) (pc' := 10) (z := decide (100 < (xs 5))) rfl rfl rfl rfl (fun h => absurd (of_decide_eq_true h) (of_decide_eq_false q67)) (fun _ => ?_)
              refine x_iconst (pc' := 11) rfl rfl ?_
              refine x_goto (pc' := 15) rfl rfl ?_
              refine x_retz (z := true) rfl rfl ?_
              refine sK_i (pc' := 24) rfl ?_
              refine x_if (a' := 31) (pc' := 27) (z := false) rfl rfl rfl (by decide) (fun h => by cases h) (fun _ => ?_)
              refine x_iconst (pc' := 28) rfl rfl ?_
              refine x_goto (pc' := 32) rfl rfl ?_
              refine x_istore (pc' := 34) (ls' := [_, _, _, _, _, _, _, _]) rfl rfl rfl rfl ?_
              refine x_iload_n (pc' := 35) rfl rfl rfl ?_
              refine x_cs (ls0 := [_]) (rest := []) rfl rfl rfl rfl ?_
              refine x_iload_n (pc' := 1) rfl rfl rfl ?_
              refine x_iconst (pc' := 2) rfl rfl ?_
              refine x_iconst (pc' := 3) rfl rfl ?_
              refine x_cs (ls0 := [_, _, _]) (rest := []) rfl rfl rfl rfl ?_
              refine x_iload_n (pc' := 1) rfl rfl rfl ?_
              refine x_iload_n (pc' := 2) rfl rfl rfl ?_
              refine x_icmp (a' := 14) (pc' := 5) (z := false) rfl rfl rfl (by decide) (fun h => by cases h) (fun _ => ?_)
              refine x_iload_n (pc' := 6) rfl rfl rfl ?_
              refine x_iload_n (pc' := 7) rfl rfl rfl ?_
              refine x_icmp (a' := 14) (pc' := 10) (z := false) rfl rfl rfl (by decide) (fun h => by cases h) (fun _ => ?_)
              refine x_iconst (pc' := 11) rfl rfl ?_
              refine x_goto (pc' := 15) rfl rfl ?_
              refine x_retz (z := true) rfl rfl ?_
              refine sK_i (pc' := 6) rfl ?_
              refine x_retz (z := true) rfl rfl ?_
              refine sK_i (pc' := 38) rfl ?_
              refine x_if (a' := 65) (pc' := 41) (z := false) rfl rfl rfl (by decide) (fun h => by cases h) (fun _ => ?_)
              refine x_aload_n (pc' := 42) rfl rfl rfl rfl rfl ?_
              refine x_gR (pc' := 45) (r := (some 0)) rfl rfl rfl (Eq.trans rdRthr (z_R_769_0 e)) ?_
              refine x_iload_n (pc' := 46) rfl rfl rfl ?_
              refine x_iald (pc' := 47) (N := 5) (x := 0) rfl rfl rfl (Eq.trans rdNthr (z_N_21_0 e)) (io_in (p := 1) (N := 5) (by decide) (by decide)) (Eq.trans (congrArg (sA (sThr t) 21 0) (nn_io (p := 1) (by decide))) (Eq.trans rdAthr (z_A_21_0_1 e))) ?_
              refine x_iconst (pc' := 48) rfl rfl ?_
              refine x_icmp (a' := 65) (pc' := 51) (z := true) rfl rfl rfl (by decide) (fun _ => ?_) (fun h => by cases h)
              refine x_iconst (pc' := 66) rfl rfl ?_
              refine x_istore (pc' := 68) (ls' := [_, _, _, _, _, _, _, _]) rfl rfl rfl rfl ?_
              refine x_aload_n (pc' := 69) rfl rfl rfl rfl rfl ?_
              refine x_aload_n (pc' := 70) rfl rfl rfl rfl rfl ?_
              refine x_iload_n (pc' := 71) rfl rfl rfl ?_
              refine x_iload_n (pc' := 72) rfl rfl rfl ?_
              refine x_iload (pc' := 74) rfl rfl rfl ?_
              refine x_iload (pc' := 76) rfl rfl rfl ?_
              refine x_cv (ls0 := [_, _, _, _, _, sJk]) (rest := [_]) rfl rfl rfl rfl rfl ?_
              refine x_iload_n (pc' := 1) rfl rfl rfl ?_
              refine x_cs (ls0 := [_]) (rest := []) rfl rfl rfl rfl ?_
              refine x_iload_n (pc' := 1) rfl rfl rfl ?_
              refine x_iconst (pc' := 2) rfl rfl ?_
              refine x_iconst (pc' := 3) rfl rfl ?_
              refine x_cs (ls0 := [_, _, _]) (rest := []) rfl rfl rfl rfl ?_
              refine x_iload_n (pc' := 1) rfl rfl rfl ?_
              refine x_iload_n (pc' := 2) rfl rfl rfl ?_
              refine x_icmp (a' := 14) (pc' := 5) (z := decide (m < 0)) rfl rfl rfl (ic_lt (p := m) (q := 0) (Nat.lt_trans hm (by decide)) (by decide)) (fun h => absurd (of_decide_eq_true h) (by first | decide | omega | simp)) (fun _ => ?_)
              refine x_iload_n (pc' := 6) rfl rfl rfl ?_
              refine x_iload_n (pc' := 7) rfl rfl rfl ?_
              refine x_icmp (a' := 14) (pc' := 10) (z := decide (5 < m)) rfl rfl rfl (ic_gt (p := m) (q := 5) (Nat.lt_trans hm (by decide)) (by decide)) (fun h => absurd (of_decide_eq_true h) (fun z => absurd hm (Nat.not_lt.mpr z))) (fun _ => ?_)
              refine x_iconst (pc' := 11) rfl rfl ?_
              refine x_goto (pc' := 15) rfl rfl ?_
              refine x_retz (z := true) rfl rfl ?_
              refine sK_i (pc' := 6) rfl ?_
              refine x_retz (z := true) rfl rfl ?_
              refine sK_i (pc' := 4) rfl ?_
              refine x_if (a' := 18) (pc' := 7) (z := false) rfl rfl rfl (by decide) (fun h => by cases h) (fun _ => ?_)
              refine x_iload_n (pc' := 8) rfl rfl rfl ?_
              refine x_cs (ls0 := [_]) (rest := []) rfl rfl rfl rfl ?_
              refine x_iload_n (pc' := 1) rfl rfl rfl ?_
              refine x_iconst (pc' := 2) rfl rfl ?_
              refine x_iconst (pc' := 3) rfl rfl ?_
              refine x_cs (ls0 := [_, _, _]) (rest := []) rfl rfl rfl rfl ?_
              refine x_iload_n (pc' := 1) rfl rfl rfl ?_
              refine x_iload_n (pc' := 2) rfl rfl rfl ?_
              refine x_icmp (a' := 14) (pc' := 5) (z := false) rfl rfl rfl (by decide) (fun h => by cases h) (fun _ => ?_)
              refine x_iload_n (pc' := 6) rfl rfl rfl ?_
              refine x_iload_n (pc' := 7) rfl rfl rfl ?_
              refine x_icmp (a' := 14) (pc' := 10) (z := false) rfl rfl rfl (by decide) (fun h => by cases h) (fun _ => ?_)
              refine x_iconst (pc' := 11) rfl rfl ?_
              refine x_goto (pc' := 15) rfl rfl ?_
              refine x_retz (z := true) rfl rfl ?_
              refine sK_i (pc' := 6) rfl ?_
              refine x_retz (z := true) rfl rfl ?_
              refine sK_i (pc' := 11) rfl ?_
              refine x_if (a' := 18) (pc' := 14) (z := false) rfl rfl rfl (by decide) (fun h => by cases h) (fun _ => ?_)
              refine x_iconst (pc' := 15) rfl rfl ?_
              refine x_goto (pc' := 19) rfl rfl ?_
              refine x_istore (pc' := 21) (ls' := [_, _, _, _, _, _]) rfl rfl rfl rfl ?_
              refine x_iload (pc' := 23) rfl rfl rfl ?_
              refine x_if (a' := 30) (pc' := 26) (z := true) rfl rfl rfl (by decide) (fun _ => ?_) (fun h => by cases h)
              refine x_iload_n (pc' := 31) rfl rfl rfl ?_
              refine x_if (a' := 38) (pc' := 34) (z := true) rfl rfl rfl (by decide) (fun _ => ?_) (fun h => by cases h)
              refine x_aload_n (pc' := 39) rfl rfl rfl rfl rfl ?_
              refine x_gR (pc' := 42) (r := (some 2)) rfl rfl rfl (Eq.trans rdRthr (z_R_781_0 e)) ?_
              refine x_iload_n (pc' := 43) rfl rfl rfl ?_
              refine x_bald (pc' := 44) (N := 6) (z := false) rfl rfl (Eq.trans rdNthr (z_N_22_2 e)) (io_in (p := m) (N := 6) hm (by decide)) (Eq.trans (congrArg (sB (sThr t) 22 2) (nn_io (p := m) (Nat.lt_trans hm (by decide)))) (Eq.trans rdBthr (z_B_22_2_y e _))) ?_
              refine x_if (a' := 52) (pc' := 47) (z := false) rfl rfl rfl (by decide) (fun h => by cases h) (fun _ => ?_)
              refine x_iload (pc' := 49) rfl rfl rfl ?_
              refine x_if (a' := 56) (pc' := 52) (z := false) rfl rfl rfl (by decide) (fun h => by cases h) (fun _ => ?_)
              refine x_iconst (pc' := 53) rfl rfl ?_
              refine x_goto (pc' := 57) rfl rfl ?_
              refine x_reti rfl rfl ?_
              refine sK_i (pc' := 79) rfl ?_
              refine x_cv (ls0 := [_, _]) (rest := []) rfl rfl rfl rfl rfl ?_
              refine x_aload_n (pc' := 1) rfl rfl rfl rfl rfl ?_
              refine x_iload_n (pc' := 2) rfl rfl rfl ?_
              refine x_pI (pc' := 5) rfl rfl rfl ?_
              refine x_iload_n (pc' := 6) rfl rfl rfl ?_
              refine x_if (a' := 13) (pc' := 9) (z := true) rfl rfl rfl (by decide) (fun _ => ?_) (fun h => by cases h)
              refine x_iconst (pc' := 14) rfl rfl ?_
              refine x_retz (z := false) rfl rfl ?_
              refine sK_i (pc' := 82) rfl ?_
              refine x_if (a' := 102) (pc' := 85) (z := true) rfl rfl rfl (by decide) (fun _ => ?_) (fun h => by cases h)
              refine x_iconst (pc' := 103) rfl rfl ?_
              refine x_reti rfl rfl ?_
              refine sK_i (pc' := 1104) rfl ?_
              refine x_istore (pc' := 1106) (ls' := [_, _, _, _, _, _, _]) rfl rfl rfl rfl ?_
              refine x_aload_n (pc' := 1107) rfl rfl rfl rfl rfl ?_
              refine x_cv (ls0 := [_]) (rest := []) rfl rfl rfl rfl rfl ?_
              refine x_aload_n (pc' := 1) rfl rfl rfl rfl rfl ?_
              refine x_gI (pc' := 4) (x := 3) rfl rfl rfl sI_s ?_
              refine x_reti rfl rfl ?_
              refine sK_i (pc' := 1110) rfl ?_
              refine x_iload (pc' := 1112) rfl rfl rfl ?_
              refine x_icmp (a' := 1117) (pc' := 1115) (z := true) rfl rfl rfl (by decide) (fun _ => ?_) (fun h => by cases h)
              refine x_iload (pc' := 1119) rfl rfl rfl ?_
              refine x_if (a' := 1134) (pc' := 1122) (z := true) rfl rfl rfl (by decide) (fun _ => ?_) (fun h => by cases h)
              refine x_goto (pc' := 2938) rfl rfl ?_
              refine x_iinc (pc' := 2941) (y := 7) (ls' := [_, _, _, _, _, _, _]) rfl rfl rfl rfl rfl ?_
              refine x_goto (pc' := 23) rfl rfl ?_
              refine x_iload (pc' := 25) rfl rfl rfl ?_
              refine x_aload_n (pc' := 26) rfl rfl rfl rfl rfl ?_
              refine x_alen (pc' := 27) (N := 7) rfl rfl rfl (Eq.trans rdNI (Eq.trans rdNthr (z_N_29_0 e))) (?_ : X _ _ _ (.inl 7 :: _) _ _)
              refine x_bipush (pc' := 29) rfl rfl ?_
              refine x_isub (pc' := 30) (z := 0) rfl rfl (by decide) ?_
              refine x_icmp (a' := 2944) (pc' := 33) (z := true) rfl rfl rfl (by decide) (fun _ => ?_) (fun h => by cases h)
              refine x_iconst (pc' := 2945) rfl rfl ?_
              refine x_retz (z := true) rfl rfl ?_
              exact Qp_ok e (p := 1) (q := 6) rfl rfl rfl rfl
            refine x_if (a' := 1088) (pc' := 1084) (z := decide ((xs 3) = 0)) rfl rfl rfl rfl (fun q70 => ?_) (fun q70 => ?_)
            · refine x_iconst (pc' := 1089) rfl rfl ?_
              ((try rw [q70] at J70); (try rw [q70]); (try simp only [cd_t, cd_f, nt_t, nt_f, an_t, an_f, or_t, or_f] at J70); (try simp only [cd_t, cd_f, nt_t, nt_f, an_t, an_f, or_t, or_f]); exact J70)
            · refine x_iconst (pc' := 1085) rfl rfl ?_
              refine x_goto (pc' := 1089) rfl rfl ?_
              ((try rw [q70] at J70); (try rw [q70]); (try simp only [cd_t, cd_f, nt_t, nt_f, an_t, an_f, or_t, or_f] at J70); (try simp only [cd_t, cd_f, nt_t, nt_f, an_t, an_f, or_t, or_f]); exact J70)
          · refine x_throw rfl rfl ?_
            refine sK_n (by decide +kernel) rfl ?_
            refine sK_h (h := 23) (by decide +kernel) rfl ?_
            refine x_catch (pc' := 25) (ls' := [_, _, _, _, _, _, _, _]) rfl rfl rfl rfl ?_
            refine x_iconst (pc' := 26) rfl rfl ?_
            refine x_reti rfl rfl ?_
            refine sK_i (pc' := 1060) rfl ?_
            refine x_istore (pc' := 1062) (ls' := [_, _, _, _, _, _, _]) rfl rfl rfl rfl ?_
            refine x_aload_n (pc' := 1063) rfl rfl rfl rfl rfl ?_
            refine x_aload_n (pc' := 1064) rfl rfl rfl rfl rfl ?_
            refine x_iload (pc' := 1066) rfl rfl rfl ?_
            refine x_iconst (pc' := 1067) rfl rfl ?_
            refine x_iadd (pc' := 1068) (z := 1) rfl rfl (by decide) ?_
            refine x_iald (pc' := 1069) (N := 7) (x := (io m)) rfl rfl rfl (Eq.trans rdNthr (z_N_29_0 e)) (io_in (p := 1) (N := 7) (by decide) (by decide)) (Eq.trans (congrArg (sA (sThr t) 29 0) (nn_io (p := 1) (by decide))) (Eq.trans rdAthr (Eq.trans (z_A_29_0_1 e) e0))) ?_
            refine x_aload_n (pc' := 1070) rfl rfl rfl rfl rfl ?_
            refine x_iload (pc' := 1072) rfl rfl rfl ?_
            refine x_iconst (pc' := 1073) rfl rfl ?_
            refine x_iadd (pc' := 1074) (z := 2) rfl rfl (by decide) ?_
            refine x_iald (pc' := 1075) (N := 7) (x := 1) rfl rfl rfl (Eq.trans rdNthr (z_N_29_0 e)) (io_in (p := 2) (N := 7) (by decide) (by decide)) (Eq.trans (congrArg (sA (sThr t) 29 0) (nn_io (p := 2) (by decide))) (Eq.trans rdAthr (Eq.trans (z_A_29_0_2 e) e1))) ?_
            refine x_aload_n (pc' := 1076) rfl rfl rfl rfl rfl ?_
            refine x_iload (pc' := 1078) rfl rfl rfl ?_
            refine x_iconst (pc' := 1079) rfl rfl ?_
            refine x_iadd (pc' := 1080) (z := 3) rfl rfl (by decide) ?_
            refine x_iald (pc' := 1081) (N := 7) (x := (xs 3)) rfl rfl rfl (Eq.trans rdNthr (z_N_29_0 e)) (io_in (p := 3) (N := 7) (by decide) (by decide)) (Eq.trans (congrArg (sA (sThr t) 29 0) (nn_io (p := 3) (by decide))) (Eq.trans rdAthr (z_A_29_0_3 e))) ?_
            have J101 : X 297 1089 [.inr (.inr (29, (some 0))), .inr (.inr (11, (some 0))), .inr (.inr (12, (some 0))), .inr (.inr (23, (some 0))), .inl 0, .inl 2, sJk] [.inl (bz (!(decide ((xs 3) = 0)))), .inl 1, .inl (io m), .inr (.inr (12, (some 0)))] (sThr t) Qp := by
              refine x_aload_n (pc' := 1090) rfl rfl rfl rfl rfl ?_
              refine x_iload (pc' := 1092) rfl rfl rfl ?_
              refine x_iconst (pc' := 1093) rfl rfl ?_
              refine x_iadd (pc' := 1094) (z := 4) rfl rfl (by decide) ?_
              refine x_iald (pc' := 1095) (N := 7) (x := (xs 4)) rfl rfl rfl (Eq.trans rdNthr (z_N_29_0 e)) (io_in (p := 4) (N := 7) (by decide) (by decide)) (Eq.trans (congrArg (sA (sThr t) 29 0) (nn_io (p := 4) (by decide))) (Eq.trans rdAthr (z_A_29_0_4 e))) ?_
              refine x_aload_n (pc' := 1096) rfl rfl rfl rfl rfl ?_
              refine x_iload (pc' := 1098) rfl rfl rfl ?_
              refine x_iconst (pc' := 1099) rfl rfl ?_
              refine x_iadd (pc' := 1100) (z := 5) rfl rfl (by decide) ?_
              refine x_iald (pc' := 1101) (N := 7) (x := (xs 5)) rfl rfl rfl (Eq.trans rdNthr (z_N_29_0 e)) (io_in (p := 5) (N := 7) (by decide) (by decide)) (Eq.trans (congrArg (sA (sThr t) 29 0) (nn_io (p := 5) (by decide))) (Eq.trans rdAthr (z_A_29_0_5 e))) ?_
              refine x_cv (ls0 := [_, _, _, _, _, _, sJk, sJk]) (rest := []) rfl rfl rfl rfl rfl ?_
              refine x_iload_n (pc' := 1) rfl rfl rfl ?_
              refine x_cs (ls0 := [_]) (rest := []) rfl rfl rfl rfl ?_
              refine x_iload_n (pc' := 1) rfl rfl rfl ?_
              refine x_iconst (pc' := 2) rfl rfl ?_
              refine x_iconst (pc' := 3) rfl rfl ?_
              refine x_cs (ls0 := [_, _, _]) (rest := []) rfl rfl rfl rfl ?_
              refine x_iload_n (pc' := 1) rfl rfl rfl ?_
              refine x_iload_n (pc' := 2) rfl rfl rfl ?_
              refine x_icmp (a' := 14) (pc' := 5) (z := false) rfl rfl rfl (by decide) (fun h => by cases h) (fun _ => ?_)
              refine x_iload_n (pc' := 6) rfl rfl rfl ?_
              refine x_iload_n (pc' := 7) rfl rfl rfl ?_
              refine x_icmp (a' := 14) (pc' := 10) (z := false) rfl rfl rfl (by decide) (fun h => by cases h) (fun _ => ?_)
              refine x_iconst (pc' := 11) rfl rfl ?_
              refine x_goto (pc' := 15) rfl rfl ?_
              refine x_retz (z := true) rfl rfl ?_
              refine sK_i (pc' := 6) rfl ?_
              refine x_retz (z := true) rfl rfl ?_
              refine sK_i (pc' := 4) rfl ?_
              refine x_if (a' := 31) (pc' := 7) (z := false) rfl rfl rfl (by decide) (fun h => by cases h) (fun _ => ?_)
              refine x_iload_n (pc' := 8) rfl rfl rfl ?_
              refine x_iload (pc' := 10) rfl rfl rfl ?_
              refine x_cs (ls0 := [_, _]) (rest := []) rfl rfl rfl rfl ?_
              refine x_iload_n (pc' := 1) rfl rfl rfl ?_
              refine x_iconst (pc' := 2) rfl rfl ?_
              refine x_icmp (a' := 16) (pc' := 5) (z := false) rfl rfl rfl (by decide) (fun h => by cases h) (fun _ => ?_)
              refine x_iload_n (pc' := 6) rfl rfl rfl ?_
              refine x_iconst (pc' := 7) rfl rfl ?_
              refine x_sipush (pc' := 10) rfl rfl ?_
              refine x_cs (ls0 := [_, _, _]) (rest := []) rfl rfl rfl rfl ?_
              refine x_iload_n (pc' := 1) rfl rfl rfl ?_
              refine x_iload_n (pc' := 2) rfl rfl rfl ?_
              refine x_icmp (a' := 14) (pc' := 5) (z := decide ((xs 4) < 1)) rfl rfl rfl rfl (fun h => absurd (of_decide_eq_true h) (of_decide_eq_false q11)) (fun _ => ?_)
              refine x_iload_n (pc' := 6) rfl rfl rfl ?_
              refine x_iload_n (pc' := 7) rfl rfl rfl ?_
              refine x_icmp (a' := 14) (pc' := 10) (z := decide (999 < (xs 4))) rfl rfl rfl rfl (fun h => absurd (of_decide_eq_true h) (of_decide_eq_false q37)) (fun _ => ?_)
              refine x_iconst (pc' := 11) rfl rfl ?_
              refine x_goto (pc' := 15) rfl rfl ?_
              refine x_retz (z := true) rfl rfl ?_
              refine sK_i (pc' := 13) rfl ?_
              refine x_goto (pc' := 26) rfl rfl ?_
              refine x_retz (z := true) rfl rfl ?_
              refine sK_i (pc' := 13) rfl ?_
              refine x_if (a' := 31) (pc' := 16) (z := false) rfl rfl rfl (by decide) (fun h => by cases h) (fun _ => ?_)
              refine x_iload (pc' := 18) rfl rfl rfl ?_
              refine x_iconst (pc' := 19) rfl rfl ?_
              refine x_bipush (pc' := 21) rfl rfl ?_
              refine x_cs (ls0 := [_, _, _]) (rest := []) rfl rfl rfl rfl ?_
              refine x_iload_n (pc' := 1) rfl rfl rfl ?_
              refine x_iload_n (pc' := 2) rfl rfl rfl ?_
              refine x_icmp (a' := 14) (pc' := 5) (z := decide ((xs 5) < 1)) rfl rfl rfl rfl (fun h => absurd (of_decide_eq_true h) (of_decide_eq_false q38)) (fun _ => ?_)
              refine x_iload_n (pc' := 6) rfl rfl rfl ?_
              refine x_iload_n (pc' := 7) rfl rfl rfl ?_
              refine x_icmp (a' := 14) (pc' := 10) (z := decide (100 < (xs 5))) rfl rfl rfl rfl (fun _ => ?_) (fun h => absurd (of_decide_eq_true q67) (of_decide_eq_false h))
              refine x_iconst (pc' := 15) rfl rfl ?_
              refine x_retz (z := false) rfl rfl ?_
              refine sK_i (pc' := 24) rfl ?_
              refine x_if (a' := 31) (pc' := 27) (z := true) rfl rfl rfl (by decide) (fun _ => ?_) (fun h => by cases h)
              refine x_iconst (pc' := 32) rfl rfl ?_
              refine x_istore (pc' := 34) (ls' := [_, _, _, _, _, _, _, _]) rfl rfl rfl rfl ?_
              refine x_iload_n (pc' := 35) rfl rfl rfl ?_
              refine x_cs (ls0 := [_]) (rest := []) rfl rfl rfl rfl ?_
              refine x_iload_n (pc' := 1) rfl rfl rfl ?_
              refine x_iconst (pc' := 2) rfl rfl ?_
              refine x_iconst (pc' := 3) rfl rfl ?_
              refine x_cs (ls0 := [_, _, _]) (rest := []) rfl rfl rfl rfl ?_
              refine x_iload_n (pc' := 1) rfl rfl rfl ?_
              refine x_iload_n (pc' := 2) rfl rfl rfl ?_
              refine x_icmp (a' := 14) (pc' := 5) (z := false) rfl rfl rfl (by decide) (fun h => by cases h) (fun _ => ?_)
              refine x_iload_n (pc' := 6) rfl rfl rfl ?_
              refine x_iload_n (pc' := 7) rfl rfl rfl ?_
              refine x_icmp (a' := 14) (pc' := 10) (z := false) rfl rfl rfl (by decide) (fun h => by cases h) (fun _ => ?_)
              refine x_iconst (pc' := 11) rfl rfl ?_
              refine x_goto (pc' := 15) rfl rfl ?_
              refine x_retz (z := true) rfl rfl ?_
              refine sK_i (pc' := 6) rfl ?_
              refine x_retz (z := true) rfl rfl ?_
              refine sK_i (pc' := 38) rfl ?_
              refine x_if (a' := 65) (pc' := 41) (z := false) rfl rfl rfl (by decide) (fun h => by cases h) (fun _ => ?_)
              refine x_aload_n (pc' := 42) rfl rfl rfl rfl rfl ?_
              refine x_gR (pc' := 45) (r := (some 0)) rfl rfl rfl (Eq.trans rdRthr (z_R_769_0 e)) ?_
              refine x_iload_n (pc' := 46) rfl rfl rfl ?_
              refine x_iald (pc' := 47) (N := 5) (x := 0) rfl rfl rfl (Eq.trans rdNthr (z_N_21_0 e)) (io_in (p := 1) (N := 5) (by decide) (by decide)) (Eq.trans (congrArg (sA (sThr t) 21 0) (nn_io (p := 1) (by decide))) (Eq.trans rdAthr (z_A_21_0_1 e))) ?_
              refine x_iconst (pc' := 48) rfl rfl ?_
              refine x_icmp (a' := 65) (pc' := 51) (z := true) rfl rfl rfl (by decide) (fun _ => ?_) (fun h => by cases h)
              refine x_iconst (pc' := 66) rfl rfl ?_
              refine x_istore (pc' := 68) (ls' := [_, _, _, _, _, _, _, _]) rfl rfl rfl rfl ?_
              refine x_aload_n (pc' := 69) rfl rfl rfl rfl rfl ?_
              refine x_aload_n (pc' := 70) rfl rfl rfl rfl rfl ?_
              refine x_iload_n (pc' := 71) rfl rfl rfl ?_
              refine x_iload_n (pc' := 72) rfl rfl rfl ?_
              refine x_iload (pc' := 74) rfl rfl rfl ?_
              refine x_iload (pc' := 76) rfl rfl rfl ?_
              refine x_cv (ls0 := [_, _, _, _, _, sJk]) (rest := [_]) rfl rfl rfl rfl rfl ?_
              refine x_iload_n (pc' := 1) rfl rfl rfl ?_
              refine x_cs (ls0 := [_]) (rest := []) rfl rfl rfl rfl ?_
              refine x_iload_n (pc' := 1) rfl rfl rfl ?_
              refine x_iconst (pc' := 2) rfl rfl ?_
              refine x_iconst (pc' := 3) rfl rfl ?_
              refine x_cs (ls0 := [_, _, _]) (rest := []) rfl rfl rfl rfl ?_
              refine x_iload_n (pc' := 1) rfl rfl rfl ?_
              refine x_iload_n (pc' := 2) rfl rfl rfl ?_
              refine x_icmp (a' := 14) (pc' := 5) (z := decide (m < 0)) rfl rfl rfl (ic_lt (p := m) (q := 0) (Nat.lt_trans hm (by decide)) (by decide)) (fun h => absurd (of_decide_eq_true h) (by first | decide | omega | simp)) (fun _ => ?_)
              refine x_iload_n (pc' := 6) rfl rfl rfl ?_
              refine x_iload_n (pc' := 7) rfl rfl rfl ?_
              refine x_icmp (a' := 14) (pc' := 10) (z := decide (5 < m)) rfl rfl rfl (ic_gt (p := m) (q := 5) (Nat.lt_trans hm (by decide)) (by decide)) (fun h => absurd (of_decide_eq_true h) (fun z => absurd hm (Nat.not_lt.mpr z))) (fun _ => ?_)
              refine x_iconst (pc' := 11) rfl rfl ?_
              refine x_goto (pc' := 15) rfl rfl ?_
              refine x_retz (z := true) rfl rfl ?_
              refine sK_i (pc' := 6) rfl ?_
              refine x_retz (z := true) rfl rfl ?_
              refine sK_i (pc' := 4) rfl ?_
              refine x_if (a' := 18) (pc' := 7) (z := false) rfl rfl rfl (by decide) (fun h => by cases h) (fun _ => ?_)
              refine x_iload_n (pc' := 8) rfl rfl rfl ?_
              refine x_cs (ls0 := [_]) (rest := []) rfl rfl rfl rfl ?_
              refine x_iload_n (pc' := 1) rfl rfl rfl ?_
              refine x_iconst (pc' := 2) rfl rfl ?_
              refine x_iconst (pc' := 3) rfl rfl ?_
              refine x_cs (ls0 := [_, _, _]) (rest := []) rfl rfl rfl rfl ?_
              refine x_iload_n (pc' := 1) rfl rfl rfl ?_
              refine x_iload_n (pc' := 2) rfl rfl rfl ?_
              refine x_icmp (a' := 14) (pc' := 5) (z := false) rfl rfl rfl (by decide) (fun h => by cases h) (fun _ => ?_)
              refine x_iload_n (pc' := 6) rfl rfl rfl ?_
              refine x_iload_n (pc' := 7) rfl rfl rfl ?_
              refine x_icmp (a' := 14) (pc' := 10) (z := false) rfl rfl rfl (by decide) (fun h => by cases h) (fun _ => ?_)
              refine x_iconst (pc' := 11) rfl rfl ?_
              refine x_goto (pc' := 15) rfl rfl ?_
              refine x_retz (z := true) rfl rfl ?_
              refine sK_i (pc' := 6) rfl ?_
              refine x_retz (z := true) rfl rfl ?_
              refine sK_i (pc' := 11) rfl ?_
              refine x_if (a' := 18) (pc' := 14) (z := false) rfl rfl rfl (by decide) (fun h => by cases h) (fun _ => ?_)
              refine x_iconst (pc' := 15) rfl rfl ?_
              refine x_goto (pc' := 19) rfl rfl ?_
              refine x_istore (pc' := 21) (ls' := [_, _, _, _, _, _]) rfl rfl rfl rfl ?_
              refine x_iload (pc' := 23) rfl rfl rfl ?_
              refine x_if (a' := 30) (pc' := 26) (z := true) rfl rfl rfl (by decide) (fun _ => ?_) (fun h => by cases h)
              refine x_iload_n (pc' := 31) rfl rfl rfl ?_
              refine x_if (a' := 38) (pc' := 34) (z := false) rfl rfl rfl (by decide) (fun h => by cases h) (fun _ => ?_)
              refine x_iconst (pc' := 35) rfl rfl ?_
              refine x_goto (pc' := 57) rfl rfl ?_
              refine x_reti rfl rfl ?_
              refine sK_i (pc' := 79) rfl ?_
              refine x_cv (ls0 := [_, _]) (rest := []) rfl rfl rfl rfl rfl ?_
              refine x_aload_n (pc' := 1) rfl rfl rfl rfl rfl ?_
              refine x_iload_n (pc' := 2) rfl rfl rfl ?_
              refine x_pI (pc' := 5) rfl rfl rfl ?_
              refine x_iload_n (pc' := 6) rfl rfl rfl ?_
              refine x_if (a' := 13) (pc' := 9) (z := true) rfl rfl rfl (by decide) (fun _ => ?_) (fun h => by cases h)
              refine x_iconst (pc' := 14) rfl rfl ?_
              refine x_retz (z := false) rfl rfl ?_
              refine sK_i (pc' := 82) rfl ?_
              refine x_if (a' := 102) (pc' := 85) (z := true) rfl rfl rfl (by decide) (fun _ => ?_) (fun h => by cases h)
              refine x_iconst (pc' := 103) rfl rfl ?_
              refine x_reti rfl rfl ?_
              refine sK_i (pc' := 1104) rfl ?_
              refine x_istore (pc' := 1106) (ls' := [_, _, _, _, _, _, _]) rfl rfl rfl rfl ?_
              refine x_aload_n (pc' := 1107) rfl rfl rfl rfl rfl ?_
              refine x_cv (ls0 := [_]) (rest := []) rfl rfl rfl rfl rfl ?_
              refine x_aload_n (pc' := 1) rfl rfl rfl rfl rfl ?_
              refine x_gI (pc' := 4) (x := 2) rfl rfl rfl sI_s ?_
              refine x_reti rfl rfl ?_
              refine sK_i (pc' := 1110) rfl ?_
              refine x_iload (pc' := 1112) rfl rfl rfl ?_
              refine x_icmp (a' := 1117) (pc' := 1115) (z := true) rfl rfl rfl (by decide) (fun _ => ?_) (fun h => by cases h)
              refine x_iload (pc' := 1119) rfl rfl rfl ?_
              refine x_if (a' := 1134) (pc' := 1122) (z := true) rfl rfl rfl (by decide) (fun _ => ?_) (fun h => by cases h)
              refine x_goto (pc' := 2938) rfl rfl ?_
              refine x_iinc (pc' := 2941) (y := 7) (ls' := [_, _, _, _, _, _, _]) rfl rfl rfl rfl rfl ?_
              refine x_goto (pc' := 23) rfl rfl ?_
              refine x_iload (pc' := 25) rfl rfl rfl ?_
              refine x_aload_n (pc' := 26) rfl rfl rfl rfl rfl ?_
              refine x_alen (pc' := 27) (N := 7) rfl rfl rfl (Eq.trans rdNI (Eq.trans rdNthr (z_N_29_0 e))) (?_ : X _ _ _ (.inl 7 :: _) _ _)
              refine x_bipush (pc' := 29) rfl rfl ?_
              refine x_isub (pc' := 30) (z := 0) rfl rfl (by decide) ?_
              refine x_icmp (a' := 2944) (pc' := 33) (z := true) rfl rfl rfl (by decide) (fun _ => ?_) (fun h => by cases h)
              refine x_iconst (pc' := 2945) rfl rfl ?_
              refine x_retz (z := true) rfl rfl ?_
              exact Qp_ok e (p := 1) (q := 6) rfl rfl rfl rfl
            refine x_if (a' := 1088) (pc' := 1084) (z := decide ((xs 3) = 0)) rfl rfl rfl rfl (fun q101 => ?_) (fun q101 => ?_)
            · refine x_iconst (pc' := 1089) rfl rfl ?_
              ((try rw [q101] at J101); (try rw [q101]); (try simp only [cd_t, cd_f, nt_t, nt_f, an_t, an_f, or_t, or_f] at J101); (try simp only [cd_t, cd_f, nt_t, nt_f, an_t, an_f, or_t, or_f]); exact J101)
            · refine x_iconst (pc' := 1085) rfl rfl ?_
              refine x_goto (pc' := 1089) rfl rfl ?_
              ((try rw [q101] at J101); (try rw [q101]); (try simp only [cd_t, cd_f, nt_t, nt_f, an_t, an_f, or_t, or_f] at J101); (try simp only [cd_t, cd_f, nt_t, nt_f, an_t, an_f, or_t, or_f]); exact J101)
      · refine x_throw rfl rfl ?_
        refine sK_n (by decide +kernel) rfl ?_
        refine sK_n (by decide +kernel) rfl ?_
        refine sK_h (h := 23) (by decide +kernel) rfl ?_
        refine x_catch (pc' := 25) (ls' := [_, _, _, _, _, _, _, _]) rfl rfl rfl rfl ?_
        refine x_iconst (pc' := 26) rfl rfl ?_
        refine x_reti rfl rfl ?_
        refine sK_i (pc' := 1060) rfl ?_
        refine x_istore (pc' := 1062) (ls' := [_, _, _, _, _, _, _]) rfl rfl rfl rfl ?_
        refine x_aload_n (pc' := 1063) rfl rfl rfl rfl rfl ?_
        refine x_aload_n (pc' := 1064) rfl rfl rfl rfl rfl ?_
        refine x_iload (pc' := 1066) rfl rfl rfl ?_
        refine x_iconst (pc' := 1067) rfl rfl ?_
        refine x_iadd (pc' := 1068) (z := 1) rfl rfl (by decide) ?_
        refine x_iald (pc' := 1069) (N := 7) (x := (io m)) rfl rfl rfl (Eq.trans rdNthr (z_N_29_0 e)) (io_in (p := 1) (N := 7) (by decide) (by decide)) (Eq.trans (congrArg (sA (sThr t) 29 0) (nn_io (p := 1) (by decide))) (Eq.trans rdAthr (Eq.trans (z_A_29_0_1 e) e0))) ?_
        refine x_aload_n (pc' := 1070) rfl rfl rfl rfl rfl ?_
        refine x_iload (pc' := 1072) rfl rfl rfl ?_
        refine x_iconst (pc' := 1073) rfl rfl ?_
        refine x_iadd (pc' := 1074) (z := 2) rfl rfl (by decide) ?_
        refine x_iald (pc' := 1075) (N := 7) (x := 1) rfl rfl rfl (Eq.trans rdNthr (z_N_29_0 e)) (io_in (p := 2) (N := 7) (by decide) (by decide)) (Eq.trans (congrArg (sA (sThr t) 29 0) (nn_io (p := 2) (by decide))) (Eq.trans rdAthr (Eq.trans (z_A_29_0_2 e) e1))) ?_
        refine x_aload_n (pc' := 1076) rfl rfl rfl rfl rfl ?_
        refine x_iload (pc' := 1078) rfl rfl rfl ?_
        refine x_iconst (pc' := 1079) rfl rfl ?_
        refine x_iadd (pc' := 1080) (z := 3) rfl rfl (by decide) ?_
        refine x_iald (pc' := 1081) (N := 7) (x := (xs 3)) rfl rfl rfl (Eq.trans rdNthr (z_N_29_0 e)) (io_in (p := 3) (N := 7) (by decide) (by decide)) (Eq.trans (congrArg (sA (sThr t) 29 0) (nn_io (p := 3) (by decide))) (Eq.trans rdAthr (z_A_29_0_3 e))) ?_
        have J130 : X 297 1089 [.inr (.inr (29, (some 0))), .inr (.inr (11, (some 0))), .inr (.inr (12, (some 0))), .inr (.inr (23, (some 0))), .inl 0, .inl 2, sJk] [.inl (bz (!(decide ((xs 3) = 0)))), .inl 1, .inl (io m), .inr (.inr (12, (some 0)))] (sThr t) Qp := by
          refine x_aload_n (pc' := 1090) rfl rfl rfl rfl rfl ?_
          refine x_iload (pc' := 1092) rfl rfl rfl ?_
          refine x_iconst (pc' := 1093) rfl rfl ?_
          refine x_iadd (pc' := 1094) (z := 4) rfl rfl (by decide) ?_
          refine x_iald (pc' := 1095) (N := 7) (x := (xs 4)) rfl rfl rfl (Eq.trans rdNthr (z_N_29_0 e)) (io_in (p := 4) (N := 7) (by decide) (by decide)) (Eq.trans (congrArg (sA (sThr t) 29 0) (nn_io (p := 4) (by decide))) (Eq.trans rdAthr (z_A_29_0_4 e))) ?_
          refine x_aload_n (pc' := 1096) rfl rfl rfl rfl rfl ?_
          refine x_iload (pc' := 1098) rfl rfl rfl ?_
          refine x_iconst (pc' := 1099) rfl rfl ?_
          refine x_iadd (pc' := 1100) (z := 5) rfl rfl (by decide) ?_
          refine x_iald (pc' := 1101) (N := 7) (x := (xs 5)) rfl rfl rfl (Eq.trans rdNthr (z_N_29_0 e)) (io_in (p := 5) (N := 7) (by decide) (by decide)) (Eq.trans (congrArg (sA (sThr t) 29 0) (nn_io (p := 5) (by decide))) (Eq.trans rdAthr (z_A_29_0_5 e))) ?_
          refine x_cv (ls0 := [_, _, _, _, _, _, sJk, sJk]) (rest := []) rfl rfl rfl rfl rfl ?_
          refine x_iload_n (pc' := 1) rfl rfl rfl ?_
          refine x_cs (ls0 := [_]) (rest := []) rfl rfl rfl rfl ?_
          refine x_iload_n (pc' := 1) rfl rfl rfl ?_
          refine x_iconst (pc' := 2) rfl rfl ?_
          refine x_iconst (pc' := 3) rfl rfl ?_
          refine x_cs (ls0 := [_, _, _]) (rest := []) rfl rfl rfl rfl ?_
          refine x_iload_n (pc' := 1) rfl rfl rfl ?_
          refine x_iload_n (pc' := 2) rfl rfl rfl ?_
          refine x_icmp (a' := 14) (pc' := 5) (z := false) rfl rfl rfl (by decide) (fun h => by cases h) (fun _ => ?_)
          refine x_iload_n (pc' := 6) rfl rfl rfl ?_
          refine x_iload_n (pc' := 7) rfl rfl rfl ?_
          refine x_icmp (a' := 14) (pc' := 10) (z := false) rfl rfl rfl (by decide) (fun h => by cases h) (fun _ => ?_)
          refine x_iconst (pc' := 11) rfl rfl ?_
          refine x_goto (pc' := 15) rfl rfl ?_
          refine x_retz (z := true) rfl rfl ?_
          refine sK_i (pc' := 6) rfl ?_
          refine x_retz (z := true) rfl rfl ?_
          refine sK_i (pc' := 4) rfl ?_
          refine x_if (a' := 31) (pc' := 7) (z := false) rfl rfl rfl (by decide) (fun h => by cases h) (fun _ => ?_)
          refine x_iload_n (pc' := 8) rfl rfl rfl ?_
          refine x_iload (pc' := 10) rfl rfl rfl ?_
          refine x_cs (ls0 := [_, _]) (rest := []) rfl rfl rfl rfl ?_
          refine x_iload_n (pc' := 1) rfl rfl rfl ?_
          refine x_iconst (pc' := 2) rfl rfl ?_
          refine x_icmp (a' := 16) (pc' := 5) (z := false) rfl rfl rfl (by decide) (fun h => by cases h) (fun _ => ?_)
          refine x_iload_n (pc' := 6) rfl rfl rfl ?_
          refine x_iconst (pc' := 7) rfl rfl ?_
          refine x_sipush (pc' := 10) rfl rfl ?_
          refine x_cs (ls0 := [_, _, _]) (rest := []) rfl rfl rfl rfl ?_
          refine x_iload_n (pc' := 1) rfl rfl rfl ?_
          refine x_iload_n (pc' := 2) rfl rfl rfl ?_
          refine x_icmp (a' := 14) (pc' := 5) (z := decide ((xs 4) < 1)) rfl rfl rfl rfl (fun h => absurd (of_decide_eq_true h) (of_decide_eq_false q11)) (fun _ => ?_)
          refine x_iload_n (pc' := 6) rfl rfl rfl ?_
          refine x_iload_n (pc' := 7) rfl rfl rfl ?_
          refine x_icmp (a' := 14) (pc' := 10) (z := decide (999 < (xs 4))) rfl rfl rfl rfl (fun _ => ?_) (fun h => absurd (of_decide_eq_true q37) (of_decide_eq_false h))
          refine x_iconst (pc' := 15) rfl rfl ?_
          refine x_retz (z := false) rfl rfl ?_
          refine sK_i (pc' := 13) rfl ?_
          refine x_goto (pc' := 26) rfl rfl ?_
          refine x_retz (z := false) rfl rfl ?_
          refine sK_i (pc' := 13) rfl ?_
          refine x_if (a' := 31) (pc' := 16) (z := true) rfl rfl rfl (by decide) (fun _ => ?_) (fun h => by cases h)
          refine x_iconst (pc' := 32) rfl rfl ?_
          refine x_istore (pc' := 34) (ls' := [_, _, _, _, _, _, _, _]) rfl rfl rfl rfl ?_
          refine x_iload_n (pc' := 35) rfl rfl rfl ?_
          refine x_cs (ls0 := [_]) (rest := []) rfl rfl rfl rfl ?_
          refine x_iload_n (pc' := 1) rfl rfl rfl ?_
          refine x_iconst (pc' := 2) rfl rfl ?_
          refine x_iconst (pc' := 3) rfl rfl ?_
          refine x_cs (ls0 := [_, _, _]) (rest := []) rfl rfl rfl rfl ?_
          refine x_iload_n (pc' := 1) rfl rfl rfl ?_
          refine x_iload_n (pc' := 2) rfl rfl rfl ?_
          refine x_icmp (a' := 14) (pc' := 5) (z := false) rfl rfl rfl (by decide) (fun h => by cases h) (fun _ => ?_)
          refine x_iload_n (pc' := 6) rfl rfl rfl ?_
          refine x_iload_n (pc' := 7) rfl rfl rfl ?_
          refine x_icmp (a' := 14) (pc' := 10) (z := false) rfl rfl rfl (by decide) (fun h => by cases h) (fun _ => ?_)
          refine x_iconst (pc' := 11) rfl rfl ?_
          refine x_goto (pc' := 15) rfl rfl ?_
          refine x_retz (z := true) rfl rfl ?_
          refine sK_i (pc' := 6) rfl ?_
          refine x_retz (z := true) rfl rfl ?_
          refine sK_i (pc' := 38) rfl ?_
          refine x_if (a' := 65) (pc' := 41) (z := false) rfl rfl rfl (by decide) (fun h => by cases h) (fun _ => ?_)
          refine x_aload_n (pc' := 42) rfl rfl rfl rfl rfl ?_
          refine x_gR (pc' := 45) (r := (some 0)) rfl rfl rfl (Eq.trans rdRthr (z_R_769_0 e)) ?_
          refine x_iload_n (pc' := 46) rfl rfl rfl ?_
          refine x_iald (pc' := 47) (N := 5) (x := 0) rfl rfl rfl (Eq.trans rdNthr (z_N_21_0 e)) (io_in (p := 1) (N := 5) (by decide) (by decide)) (Eq.trans (congrArg (sA (sThr t) 21 0) (nn_io (p := 1) (by decide))) (Eq.trans rdAthr (z_A_21_0_1 e))) ?_
          refine x_iconst (pc' := 48) rfl rfl ?_
          refine x_icmp (a' := 65) (pc' := 51) (z := true) rfl rfl rfl (by decide) (fun _ => ?_) (fun h => by cases h)
          refine x_iconst (pc' := 66) rfl rfl ?_
          refine x_istore (pc' := 68) (ls' := [_, _, _, _, _, _, _, _]) rfl rfl rfl rfl ?_
          refine x_aload_n (pc' := 69) rfl rfl rfl rfl rfl ?_
          refine x_aload_n (pc' := 70) rfl rfl rfl rfl rfl ?_
          refine x_iload_n (pc' := 71) rfl rfl rfl ?_
          refine x_iload_n (pc' := 72) rfl rfl rfl ?_
          refine x_iload (pc' := 74) rfl rfl rfl ?_
          refine x_iload (pc' := 76) rfl rfl rfl ?_
          refine x_cv (ls0 := [_, _, _, _, _, sJk]) (rest := [_]) rfl rfl rfl rfl rfl ?_
          refine x_iload_n (pc' := 1) rfl rfl rfl ?_
          refine x_cs (ls0 := [_]) (rest := []) rfl rfl rfl rfl ?_
          refine x_iload_n (pc' := 1) rfl rfl rfl ?_
          refine x_iconst (pc' := 2) rfl rfl ?_
          refine x_iconst (pc' := 3) rfl rfl ?_
          refine x_cs (ls0 := [_, _, _]) (rest := []) rfl rfl rfl rfl ?_
          refine x_iload_n (pc' := 1) rfl rfl rfl ?_
          refine x_iload_n (pc' := 2) rfl rfl rfl ?_
          refine x_icmp (a' := 14) (pc' := 5) (z := decide (m < 0)) rfl rfl rfl (ic_lt (p := m) (q := 0) (Nat.lt_trans hm (by decide)) (by decide)) (fun h => absurd (of_decide_eq_true h) (by first | decide | omega | simp)) (fun _ => ?_)
          refine x_iload_n (pc' := 6) rfl rfl rfl ?_
          refine x_iload_n (pc' := 7) rfl rfl rfl ?_
          refine x_icmp (a' := 14) (pc' := 10) (z := decide (5 < m)) rfl rfl rfl (ic_gt (p := m) (q := 5) (Nat.lt_trans hm (by decide)) (by decide)) (fun h => absurd (of_decide_eq_true h) (fun z => absurd hm (Nat.not_lt.mpr z))) (fun _ => ?_)
          refine x_iconst (pc' := 11) rfl rfl ?_
          refine x_goto (pc' := 15) rfl rfl ?_
          refine x_retz (z := true) rfl rfl ?_
          refine sK_i (pc' := 6) rfl ?_
          refine x_retz (z := true) rfl rfl ?_
          refine sK_i (pc' := 4) rfl ?_
          refine x_if (a' := 18) (pc' := 7) (z := false) rfl rfl rfl (by decide) (fun h => by cases h) (fun _ => ?_)
          refine x_iload_n (pc' := 8) rfl rfl rfl ?_
          refine x_cs (ls0 := [_]) (rest := []) rfl rfl rfl rfl ?_
          refine x_iload_n (pc' := 1) rfl rfl rfl ?_
          refine x_iconst (pc' := 2) rfl rfl ?_
          refine x_iconst (pc' := 3) rfl rfl ?_
          refine x_cs (ls0 := [_, _, _]) (rest := []) rfl rfl rfl rfl ?_
          refine x_iload_n (pc' := 1) rfl rfl rfl ?_
          refine x_iload_n (pc' := 2) rfl rfl rfl ?_
          refine x_icmp (a' := 14) (pc' := 5) (z := false) rfl rfl rfl (by decide) (fun h => by cases h) (fun _ => ?_)
          refine x_iload_n (pc' := 6) rfl rfl rfl ?_
          refine x_iload_n (pc' := 7) rfl rfl rfl ?_
          refine x_icmp (a' := 14) (pc' := 10) (z := false) rfl rfl rfl (by decide) (fun h => by cases h) (fun _ => ?_)
          refine x_iconst (pc' := 11) rfl rfl ?_
          refine x_goto (pc' := 15) rfl rfl ?_
          refine x_retz (z := true) rfl rfl ?_
          refine sK_i (pc' := 6) rfl ?_
          refine x_retz (z := true) rfl rfl ?_
          refine sK_i (pc' := 11) rfl ?_
          refine x_if (a' := 18) (pc' := 14) (z := false) rfl rfl rfl (by decide) (fun h => by cases h) (fun _ => ?_)
          refine x_iconst (pc' := 15) rfl rfl ?_
          refine x_goto (pc' := 19) rfl rfl ?_
          refine x_istore (pc' := 21) (ls' := [_, _, _, _, _, _]) rfl rfl rfl rfl ?_
          refine x_iload (pc' := 23) rfl rfl rfl ?_
          refine x_if (a' := 30) (pc' := 26) (z := true) rfl rfl rfl (by decide) (fun _ => ?_) (fun h => by cases h)
          refine x_iload_n (pc' := 31) rfl rfl rfl ?_
          refine x_if (a' := 38) (pc' := 34) (z := false) rfl rfl rfl (by decide) (fun h => by cases h) (fun _ => ?_)
          refine x_iconst (pc' := 35) rfl rfl ?_
          refine x_goto (pc' := 57) rfl rfl ?_
          refine x_reti rfl rfl ?_
          refine sK_i (pc' := 79) rfl ?_
          refine x_cv (ls0 := [_, _]) (rest := []) rfl rfl rfl rfl rfl ?_
          refine x_aload_n (pc' := 1) rfl rfl rfl rfl rfl ?_
          refine x_iload_n (pc' := 2) rfl rfl rfl ?_
          refine x_pI (pc' := 5) rfl rfl rfl ?_
          refine x_iload_n (pc' := 6) rfl rfl rfl ?_
          refine x_if (a' := 13) (pc' := 9) (z := true) rfl rfl rfl (by decide) (fun _ => ?_) (fun h => by cases h)
          refine x_iconst (pc' := 14) rfl rfl ?_
          refine x_retz (z := false) rfl rfl ?_
          refine sK_i (pc' := 82) rfl ?_
          refine x_if (a' := 102) (pc' := 85) (z := true) rfl rfl rfl (by decide) (fun _ => ?_) (fun h => by cases h)
          refine x_iconst (pc' := 103) rfl rfl ?_
          refine x_reti rfl rfl ?_
          refine sK_i (pc' := 1104) rfl ?_
          refine x_istore (pc' := 1106) (ls' := [_, _, _, _, _, _, _]) rfl rfl rfl rfl ?_
          refine x_aload_n (pc' := 1107) rfl rfl rfl rfl rfl ?_
          refine x_cv (ls0 := [_]) (rest := []) rfl rfl rfl rfl rfl ?_
          refine x_aload_n (pc' := 1) rfl rfl rfl rfl rfl ?_
          refine x_gI (pc' := 4) (x := 2) rfl rfl rfl sI_s ?_
          refine x_reti rfl rfl ?_
          refine sK_i (pc' := 1110) rfl ?_
          refine x_iload (pc' := 1112) rfl rfl rfl ?_
          refine x_icmp (a' := 1117) (pc' := 1115) (z := true) rfl rfl rfl (by decide) (fun _ => ?_) (fun h => by cases h)
          refine x_iload (pc' := 1119) rfl rfl rfl ?_
          refine x_if (a' := 1134) (pc' := 1122) (z := true) rfl rfl rfl (by decide) (fun _ => ?_) (fun h => by cases h)
          refine x_goto (pc' := 2938) rfl rfl ?_
          refine x_iinc (pc' := 2941) (y := 7) (ls' := [_, _, _, _, _, _, _]) rfl rfl rfl rfl rfl ?_
          refine x_goto (pc' := 23) rfl rfl ?_
          refine x_iload (pc' := 25) rfl rfl rfl ?_
          refine x_aload_n (pc' := 26) rfl rfl rfl rfl rfl ?_
          refine x_alen (pc' := 27) (N := 7) rfl rfl rfl (Eq.trans rdNI (Eq.trans rdNthr (z_N_29_0 e))) (?_ : X _ _ _ (.inl 7 :: _) _ _)
          refine x_bipush (pc' := 29) rfl rfl ?_
          refine x_isub (pc' := 30) (z := 0) rfl rfl (by decide) ?_
          refine x_icmp (a' := 2944) (pc' := 33) (z := true) rfl rfl rfl (by decide) (fun _ => ?_) (fun h => by cases h)
          refine x_iconst (pc' := 2945) rfl rfl ?_
          refine x_retz (z := true) rfl rfl ?_
          exact Qp_ok e (p := 1) (q := 6) rfl rfl rfl rfl
        refine x_if (a' := 1088) (pc' := 1084) (z := decide ((xs 3) = 0)) rfl rfl rfl rfl (fun q130 => ?_) (fun q130 => ?_)
        · refine x_iconst (pc' := 1089) rfl rfl ?_
          ((try rw [q130] at J130); (try rw [q130]); (try simp only [cd_t, cd_f, nt_t, nt_f, an_t, an_f, or_t, or_f] at J130); (try simp only [cd_t, cd_f, nt_t, nt_f, an_t, an_f, or_t, or_f]); exact J130)
        · refine x_iconst (pc' := 1085) rfl rfl ?_
          refine x_goto (pc' := 1089) rfl rfl ?_
          ((try rw [q130] at J130); (try rw [q130]); (try simp only [cd_t, cd_f, nt_t, nt_f, an_t, an_f, or_t, or_f] at J130); (try simp only [cd_t, cd_f, nt_t, nt_f, an_t, an_f, or_t, or_f]); exact J130)
  refine x_if (a' := 1043) (pc' := 1039) (z := decide ((xs 3) = 0)) rfl rfl rfl rfl (fun q3 => ?_) (fun q3 => ?_)
  · refine x_iconst (pc' := 1044) rfl rfl ?_
    ((try rw [q3] at J3); (try rw [q3]); (try simp only [cd_t, cd_f, nt_t, nt_f, an_t, an_f, or_t, or_f] at J3); (try simp only [cd_t, cd_f, nt_t, nt_f, an_t, an_f, or_t, or_f]); exact J3)
  · refine x_iconst (pc' := 1040) rfl rfl ?_
    refine x_goto (pc' := 1044) rfl rfl ?_
    ((try rw [q3] at J3); (try rw [q3]); (try simp only [cd_t, cd_f, nt_t, nt_f, an_t, an_f, or_t, or_f] at J3); (try simp only [cd_t, cd_f, nt_t, nt_f, an_t, an_f, or_t, or_f]); exact J3)
set_option maxHeartbeats 4000000 in
set_option maxRecDepth 10000 in
theorem v_11_v_2_i_i_i {t : sT} {xs : Nat → Int32} {m : Nat}
    (e : t = T16 7 xs)
    (hk : ((xs 0) &&& 63) = 11)
    (hm : m < 6)
    (e0 : xs 1 = io m)
    (e1 : xs 2 = 2) :
    X 297 23 [.inr (.inr (29, (some 0))), .inr (.inr (11, (some 0))), .inr (.inr (12, (some 0))), .inr (.inr (23, (some 0))), .inl 0, sJk, sJk] [] t Qp := by
  refine x_iload (pc' := 25) rfl rfl rfl ?_
  refine x_aload_n (pc' := 26) rfl rfl rfl rfl rfl ?_
  refine x_alen (pc' := 27) (N := 7) rfl rfl rfl (z_N_29_0 e) (?_ : X _ _ _ (.inl 7 :: _) _ _)
  refine x_bipush (pc' := 29) rfl rfl ?_
  refine x_isub (pc' := 30) (z := 0) rfl rfl (by decide) ?_
  refine x_icmp (a' := 2944) (pc' := 33) (z := false) rfl rfl rfl (by decide) (fun h => by cases h) (fun _ => ?_)
  refine x_aload_n (pc' := 34) rfl rfl rfl rfl rfl ?_
  refine x_iload (pc' := 36) rfl rfl rfl ?_
  refine x_iald (pc' := 37) (N := 7) (x := (xs 0)) rfl rfl rfl (z_N_29_0 e) (io_in (p := 0) (N := 7) (by decide) (by decide)) (Eq.trans (congrArg (sA t 29 0) (nn_io (p := 0) (by decide))) (z_A_29_0_0 e)) ?_
  refine x_bipush (pc' := 39) rfl rfl ?_
  refine x_iand (pc' := 40) (z := ((xs 0) &&& 63)) rfl rfl rfl ?_
  refine x_switch (pc' := 1017) rfl (by rw [hk]; decide) ?_
  refine x_aload_n (pc' := 1018) rfl rfl rfl rfl rfl ?_
  refine x_aload_n (pc' := 1019) rfl rfl rfl rfl rfl ?_
  refine x_iload (pc' := 1021) rfl rfl rfl ?_
  refine x_iconst (pc' := 1022) rfl rfl ?_
  refine x_iadd (pc' := 1023) (z := 1) rfl rfl (by decide) ?_
  refine x_iald (pc' := 1024) (N := 7) (x := (io m)) rfl rfl rfl (z_N_29_0 e) (io_in (p := 1) (N := 7) (by decide) (by decide)) (Eq.trans (congrArg (sA t 29 0) (nn_io (p := 1) (by decide))) (Eq.trans (z_A_29_0_1 e) e0)) ?_
  refine x_aload_n (pc' := 1025) rfl rfl rfl rfl rfl ?_
  refine x_iload (pc' := 1027) rfl rfl rfl ?_
  refine x_iconst (pc' := 1028) rfl rfl ?_
  refine x_iadd (pc' := 1029) (z := 2) rfl rfl (by decide) ?_
  refine x_iald (pc' := 1030) (N := 7) (x := 2) rfl rfl rfl (z_N_29_0 e) (io_in (p := 2) (N := 7) (by decide) (by decide)) (Eq.trans (congrArg (sA t 29 0) (nn_io (p := 2) (by decide))) (Eq.trans (z_A_29_0_2 e) e1)) ?_
  refine x_aload_n (pc' := 1031) rfl rfl rfl rfl rfl ?_
  refine x_iload (pc' := 1033) rfl rfl rfl ?_
  refine x_iconst (pc' := 1034) rfl rfl ?_
  refine x_iadd (pc' := 1035) (z := 3) rfl rfl (by decide) ?_
  refine x_iald (pc' := 1036) (N := 7) (x := (xs 3)) rfl rfl rfl (z_N_29_0 e) (io_in (p := 3) (N := 7) (by decide) (by decide)) (Eq.trans (congrArg (sA t 29 0) (nn_io (p := 3) (by decide))) (z_A_29_0_3 e)) ?_
  have J3 : X 297 1044 [.inr (.inr (29, (some 0))), .inr (.inr (11, (some 0))), .inr (.inr (12, (some 0))), .inr (.inr (23, (some 0))), .inl 0, sJk, sJk] [.inl (bz (!(decide ((xs 3) = 0)))), .inl 2, .inl (io m), .inr (.inr (11, (some 0)))] t Qp := by
    refine x_aload_n (pc' := 1045) rfl rfl rfl rfl rfl ?_
    refine x_iload (pc' := 1047) rfl rfl rfl ?_
    refine x_iconst (pc' := 1048) rfl rfl ?_
    refine x_iadd (pc' := 1049) (z := 4) rfl rfl (by decide) ?_
    refine x_iald (pc' := 1050) (N := 7) (x := (xs 4)) rfl rfl rfl (z_N_29_0 e) (io_in (p := 4) (N := 7) (by decide) (by decide)) (Eq.trans (congrArg (sA t 29 0) (nn_io (p := 4) (by decide))) (z_A_29_0_4 e)) ?_
    refine x_aload_n (pc' := 1051) rfl rfl rfl rfl rfl ?_
    refine x_iload (pc' := 1053) rfl rfl rfl ?_
    refine x_iconst (pc' := 1054) rfl rfl ?_
    refine x_iadd (pc' := 1055) (z := 5) rfl rfl (by decide) ?_
    refine x_iald (pc' := 1056) (N := 7) (x := (xs 5)) rfl rfl rfl (z_N_29_0 e) (io_in (p := 5) (N := 7) (by decide) (by decide)) (Eq.trans (congrArg (sA t 29 0) (nn_io (p := 5) (by decide))) (z_A_29_0_5 e)) ?_
    refine x_aload_n (pc' := 1057) rfl rfl rfl rfl rfl ?_
    refine x_cs (ls0 := [_, _, _, _, _, _, _, sJk]) (rest := []) rfl rfl rfl rfl ?_
    refine x_aload (pc' := 2) rfl rfl rfl rfl rfl ?_
    refine x_iconst (pc' := 3) rfl rfl ?_
    refine x_aload_n (pc' := 4) rfl rfl rfl rfl rfl ?_
    refine x_iload_n (pc' := 5) rfl rfl rfl ?_
    refine x_iload_n (pc' := 6) rfl rfl rfl ?_
    refine x_iload_n (pc' := 7) rfl rfl rfl ?_
    refine x_iload (pc' := 9) rfl rfl rfl ?_
    refine x_iload (pc' := 11) rfl rfl rfl ?_
    refine x_cv (ls0 := [_, _, _, _, _, _, sJk, sJk, sJk]) (rest := [_, _]) rfl rfl rfl rfl rfl ?_
    refine x_aload_n (pc' := 1) rfl rfl rfl rfl rfl ?_
    refine x_iload_n (pc' := 2) rfl rfl rfl ?_
    refine x_cv (ls0 := [_, _]) (rest := []) rfl rfl rfl rfl rfl ?_
    refine x_iload_n (pc' := 1) rfl rfl rfl ?_
    refine x_if (a' := 16) (pc' := 4) (z := decide (m < 0)) rfl rfl rfl (ic_lt (p := m) (q := 0) (Nat.lt_trans hm (by decide)) (by decide)) (fun h => absurd (of_decide_eq_true h) (by first | decide | omega | simp)) (fun _ => ?_)
    refine x_iload_n (pc' := 5) rfl rfl rfl ?_
    refine x_aload_n (pc' := 6) rfl rfl rfl rfl rfl ?_
    refine x_gR (pc' := 9) (r := (some 0)) rfl rfl rfl (z_R_704_0 e) ?_
    refine x_gR (pc' := 12) (r := (some 0)) rfl rfl rfl (z_R_321_0 e) ?_
    refine x_alen (pc' := 13) (N := 6) rfl rfl rfl (z_N_26_0 e) (?_ : X _ _ _ (.inl 6 :: _) _ _)
    refine x_icmp (a' := 27) (pc' := 16) (z := decide (m < 6)) rfl rfl rfl (ic_lt (p := m) (q := 6) (Nat.lt_trans hm (by decide)) (by decide)) (fun _ => ?_) (fun h => absurd (Nat.lt_of_lt_of_le hm (by decide)) (of_decide_eq_false h))
    refine x_aload_n (pc' := 28) rfl rfl rfl rfl rfl ?_
    refine x_gR (pc' := 31) (r := (some 0)) rfl rfl rfl (z_R_704_0 e) ?_
    refine x_gR (pc' := 34) (r := (some 0)) rfl rfl rfl (z_R_321_0 e) ?_
    refine x_iload_n (pc' := 35) rfl rfl rfl ?_
    refine x_aald (pc' := 36) (N := 6) (k' := 7) (r := (some m)) rfl rfl rfl (z_N_26_0 e) (io_in (p := m) (N := 6) hm (by decide)) (Eq.trans (congrArg (sE t 26 0) (nn_io (p := m) (Nat.lt_trans hm (by decide)))) (kM (Cn_e e) hm)) ?_
    refine x_reta rfl rfl ?_
    refine sK_i (pc' := 5) rfl ?_
    refine x_astore (pc' := 7) (ls' := [_, _, _, _, _, _, _, _, _]) rfl rfl rfl rfl rfl ?_
    refine x_aload_n (pc' := 8) rfl rfl rfl rfl rfl ?_
    refine x_iload_n (pc' := 9) rfl rfl rfl ?_
    refine x_cv (ls0 := [_, _]) (rest := []) rfl rfl rfl rfl rfl ?_
    refine x_iload_n (pc' := 1) rfl rfl rfl ?_
    refine x_if (a' := 16) (pc' := 4) (z := false) rfl rfl rfl (by decide) (fun h => by cases h) (fun _ => ?_)
    refine x_iload_n (pc' := 5) rfl rfl rfl ?_
    refine x_aload_n (pc' := 6) rfl rfl rfl rfl rfl ?_
    refine x_gR (pc' := 9) (r := (some 0)) rfl rfl rfl (z_R_705_0 e) ?_
    refine x_gR (pc' := 12) (r := (some 0)) rfl rfl rfl (z_R_256_0 e) ?_
    refine x_alen (pc' := 13) (N := 5) rfl rfl rfl (z_N_24_0 e) (?_ : X _ _ _ (.inl 5 :: _) _ _)
    refine x_icmp (a' := 27) (pc' := 16) (z := true) rfl rfl rfl (by decide) (fun _ => ?_) (fun h => by cases h)
    refine x_aload_n (pc' := 28) rfl rfl rfl rfl rfl ?_
    refine x_gR (pc' := 31) (r := (some 0)) rfl rfl rfl (z_R_705_0 e) ?_
    refine x_gR (pc' := 34) (r := (some 0)) rfl rfl rfl (z_R_256_0 e) ?_
    refine x_iload_n (pc' := 35) rfl rfl rfl ?_
    refine x_aald (pc' := 36) (N := 5) (k' := 1) (r := (some 2)) rfl rfl rfl (z_N_24_0 e) (io_in (p := 2) (N := 5) (by decide) (by decide)) (Eq.trans (congrArg (sE t 24 0) (nn_io (p := 2) (by decide))) (z_E_24_0_2 e)) ?_
    refine x_reta rfl rfl ?_
    refine sK_i (pc' := 12) rfl ?_
    refine x_astore (pc' := 14) (ls' := [_, _, _, _, _, _, _, _, _]) rfl rfl rfl rfl rfl ?_
    refine x_aload (pc' := 16) rfl rfl rfl rfl rfl ?_
    refine x_iload (pc' := 18) rfl rfl rfl ?_
    refine x_cs (ls0 := [_, _]) (rest := []) rfl rfl rfl rfl ?_
    refine x_aload_n (pc' := 1) rfl rfl rfl rfl rfl ?_
    refine x_cv (ls0 := [_]) (rest := []) rfl rfl rfl rfl rfl ?_
    refine x_aload_n (pc' := 1) rfl rfl rfl rfl rfl ?_
    refine x_gR (pc' := 4) (r := none) rfl rfl rfl (z_R_66_2 e) ?_
    refine x_ifnull (a' := 11) (pc' := 7) rfl rfl rfl rfl (fun _ => ?_) (fun i h => by cases h)
    refine x_iconst (pc' := 12) rfl rfl ?_
    refine x_retz (z := false) rfl rfl ?_
    refine sK_i (pc' := 4) rfl ?_
    refine x_if (a' := 20) (pc' := 7) (z := true) rfl rfl rfl (by decide) (fun _ => ?_) (fun h => by cases h)
    refine x_iload_n (pc' := 21) rfl rfl rfl ?_
    refine x_iconst (pc' := 22) rfl rfl ?_
    refine x_sipush (pc' := 25) rfl rfl ?_
    refine x_cs (ls0 := [_, _, _]) (rest := []) rfl rfl rfl rfl ?_
    refine x_iload_n (pc' := 1) rfl rfl rfl ?_
    refine x_iload_n (pc' := 2) rfl rfl rfl ?_
    refine x_icmp (a' := 10) (pc' := 5) (z := decide ((xs 4) < 1)) rfl rfl rfl rfl (fun q11 => ?_) (fun q11 => ?_)
    · refine x_throw rfl rfl ?_
      refine sK_n (by decide +kernel) rfl ?_
      refine sK_n (by decide +kernel) rfl ?_
      refine sK_h (h := 23) (by decide +kernel) rfl ?_
      refine x_catch (pc' := 25) (ls' := [_, _, _, _, _, _, _, _]) rfl rfl rfl rfl ?_
      refine x_iconst (pc' := 26) rfl rfl ?_
      refine x_reti rfl rfl ?_
      refine sK_i (pc' := 1060) rfl ?_
      refine x_istore (pc' := 1062) (ls' := [_, _, _, _, _, _, _]) rfl rfl rfl rfl ?_
      refine x_aload_n (pc' := 1063) rfl rfl rfl rfl rfl ?_
      refine x_aload_n (pc' := 1064) rfl rfl rfl rfl rfl ?_
      refine x_iload (pc' := 1066) rfl rfl rfl ?_
      refine x_iconst (pc' := 1067) rfl rfl ?_
      refine x_iadd (pc' := 1068) (z := 1) rfl rfl (by decide) ?_
      refine x_iald (pc' := 1069) (N := 7) (x := (io m)) rfl rfl rfl (Eq.trans rdNthr (z_N_29_0 e)) (io_in (p := 1) (N := 7) (by decide) (by decide)) (Eq.trans (congrArg (sA (sThr t) 29 0) (nn_io (p := 1) (by decide))) (Eq.trans rdAthr (Eq.trans (z_A_29_0_1 e) e0))) ?_
      refine x_aload_n (pc' := 1070) rfl rfl rfl rfl rfl ?_
      refine x_iload (pc' := 1072) rfl rfl rfl ?_
      refine x_iconst (pc' := 1073) rfl rfl ?_
      refine x_iadd (pc' := 1074) (z := 2) rfl rfl (by decide) ?_
      refine x_iald (pc' := 1075) (N := 7) (x := 2) rfl rfl rfl (Eq.trans rdNthr (z_N_29_0 e)) (io_in (p := 2) (N := 7) (by decide) (by decide)) (Eq.trans (congrArg (sA (sThr t) 29 0) (nn_io (p := 2) (by decide))) (Eq.trans rdAthr (Eq.trans (z_A_29_0_2 e) e1))) ?_
      refine x_aload_n (pc' := 1076) rfl rfl rfl rfl rfl ?_
      refine x_iload (pc' := 1078) rfl rfl rfl ?_
      refine x_iconst (pc' := 1079) rfl rfl ?_
      refine x_iadd (pc' := 1080) (z := 3) rfl rfl (by decide) ?_
      refine x_iald (pc' := 1081) (N := 7) (x := (xs 3)) rfl rfl rfl (Eq.trans rdNthr (z_N_29_0 e)) (io_in (p := 3) (N := 7) (by decide) (by decide)) (Eq.trans (congrArg (sA (sThr t) 29 0) (nn_io (p := 3) (by decide))) (Eq.trans rdAthr (z_A_29_0_3 e))) ?_
      have J12 : X 297 1089 [.inr (.inr (29, (some 0))), .inr (.inr (11, (some 0))), .inr (.inr (12, (some 0))), .inr (.inr (23, (some 0))), .inl 0, .inl 2, sJk] [.inl (bz (!(decide ((xs 3) = 0)))), .inl 2, .inl (io m), .inr (.inr (12, (some 0)))] (sThr t) Qp := by
        refine x_aload_n (pc' := 1090) rfl rfl rfl rfl rfl ?_
        refine x_iload (pc' := 1092) rfl rfl rfl ?_
        refine x_iconst (pc' := 1093) rfl rfl ?_
        refine x_iadd (pc' := 1094) (z := 4) rfl rfl (by decide) ?_
        refine x_iald (pc' := 1095) (N := 7) (x := (xs 4)) rfl rfl rfl (Eq.trans rdNthr (z_N_29_0 e)) (io_in (p := 4) (N := 7) (by decide) (by decide)) (Eq.trans (congrArg (sA (sThr t) 29 0) (nn_io (p := 4) (by decide))) (Eq.trans rdAthr (z_A_29_0_4 e))) ?_
        refine x_aload_n (pc' := 1096) rfl rfl rfl rfl rfl ?_
        refine x_iload (pc' := 1098) rfl rfl rfl ?_
        refine x_iconst (pc' := 1099) rfl rfl ?_
        refine x_iadd (pc' := 1100) (z := 5) rfl rfl (by decide) ?_
        refine x_iald (pc' := 1101) (N := 7) (x := (xs 5)) rfl rfl rfl (Eq.trans rdNthr (z_N_29_0 e)) (io_in (p := 5) (N := 7) (by decide) (by decide)) (Eq.trans (congrArg (sA (sThr t) 29 0) (nn_io (p := 5) (by decide))) (Eq.trans rdAthr (z_A_29_0_5 e))) ?_
        refine x_cv (ls0 := [_, _, _, _, _, _, sJk, sJk]) (rest := []) rfl rfl rfl rfl rfl ?_
        refine x_iload_n (pc' := 1) rfl rfl rfl ?_
        refine x_cs (ls0 := [_]) (rest := []) rfl rfl rfl rfl ?_
        refine x_iload_n (pc' := 1) rfl rfl rfl ?_
        refine x_iconst (pc' := 2) rfl rfl ?_
        refine x_iconst (pc' := 3) rfl rfl ?_
        refine x_cs (ls0 := [_, _, _]) (rest := []) rfl rfl rfl rfl ?_
        refine x_iload_n (pc' := 1) rfl rfl rfl ?_
        refine x_iload_n (pc' := 2) rfl rfl rfl ?_
        refine x_icmp (a' := 14) (pc' := 5) (z := false) rfl rfl rfl (by decide) (fun h => by cases h) (fun _ => ?_)
        refine x_iload_n (pc' := 6) rfl rfl rfl ?_
        refine x_iload_n (pc' := 7) rfl rfl rfl ?_
        refine x_icmp (a' := 14) (pc' := 10) (z := false) rfl rfl rfl (by decide) (fun h => by cases h) (fun _ => ?_)
        refine x_iconst (pc' := 11) rfl rfl ?_
        refine x_goto (pc' := 15) rfl rfl ?_
        refine x_retz (z := true) rfl rfl ?_
        refine sK_i (pc' := 6) rfl ?_
        refine x_retz (z := true) rfl rfl ?_
        refine sK_i (pc' := 4) rfl ?_
        refine x_if (a' := 31) (pc' := 7) (z := false) rfl rfl rfl (by decide) (fun h => by cases h) (fun _ => ?_)
        refine x_iload_n (pc' := 8) rfl rfl rfl ?_
        refine x_iload (pc' := 10) rfl rfl rfl ?_
        refine x_cs (ls0 := [_, _]) (rest := []) rfl rfl rfl rfl ?_
        refine x_iload_n (pc' := 1) rfl rfl rfl ?_
        refine x_iconst (pc' := 2) rfl rfl ?_
        refine x_icmp (a' := 16) (pc' := 5) (z := false) rfl rfl rfl (by decide) (fun h => by cases h) (fun _ => ?_)
        refine x_iload_n (pc' := 6) rfl rfl rfl ?_
        refine x_iconst (pc' := 7) rfl rfl ?_
        refine x_sipush (pc' := 10) rfl rfl ?_
        refine x_cs (ls0 := [_, _, _]) (rest := []) rfl rfl rfl rfl ?_
        refine x_iload_n (pc' := 1) rfl rfl rfl ?_
        refine x_iload_n (pc' := 2) rfl rfl rfl ?_
        refine x_icmp (a' := 14) (pc' := 5) (z := decide ((xs 4) < 1)) rfl rfl rfl rfl (fun _ => ?_) (fun h => absurd (of_decide_eq_true q11) (of_decide_eq_false h))
        refine x_iconst (pc' := 15) rfl rfl ?_
        refine x_retz (z := false) rfl rfl ?_
        refine sK_i (pc' := 13) rfl ?_
        refine x_goto (pc' := 26) rfl rfl ?_
        refine x_retz (z := false) rfl rfl ?_
        refine sK_i (pc' := 13) rfl ?_
        refine x_if (a' := 31) (pc' := 16) (z := true) rfl rfl rfl (by decide) (fun _ => ?_) (fun h => by cases h)
        refine x_iconst (pc' := 32) rfl rfl ?_
        refine x_istore (pc' := 34) (ls' := [_, _, _, _, _, _, _, _]) rfl rfl rfl rfl ?_
        refine x_iload_n (pc' := 35) rfl rfl rfl ?_
        refine x_cs (ls0 := [_]) (rest := []) rfl rfl rfl rfl ?_
        refine x_iload_n (pc' := 1) rfl rfl rfl ?_
        refine x_iconst (pc' := 2) rfl rfl ?_
        refine x_iconst (pc' := 3) rfl rfl ?_
        refine x_cs (ls0 := [_, _, _]) (rest := []) rfl rfl rfl rfl ?_
        refine x_iload_n (pc' := 1) rfl rfl rfl ?_
        refine x_iload_n (pc' := 2) rfl rfl rfl ?_
        refine x_icmp (a' := 14) (pc' := 5) (z := false) rfl rfl rfl (by decide) (fun h => by cases h) (fun _ => ?_)
        refine x_iload_n (pc' := 6) rfl rfl rfl ?_
        refine x_iload_n (pc' := 7) rfl rfl rfl ?_
        refine x_icmp (a' := 14) (pc' := 10) (z := false) rfl rfl rfl (by decide) (fun h => by cases h) (fun _ => ?_)
        refine x_iconst (pc' := 11) rfl rfl ?_
        refine x_goto (pc' := 15) rfl rfl ?_
        refine x_retz (z := true) rfl rfl ?_
        refine sK_i (pc' := 6) rfl ?_
        refine x_retz (z := true) rfl rfl ?_
        refine sK_i (pc' := 38) rfl ?_
        refine x_if (a' := 65) (pc' := 41) (z := false) rfl rfl rfl (by decide) (fun h => by cases h) (fun _ => ?_)
        refine x_aload_n (pc' := 42) rfl rfl rfl rfl rfl ?_
        refine x_gR (pc' := 45) (r := (some 0)) rfl rfl rfl (Eq.trans rdRthr (z_R_769_0 e)) ?_
        refine x_iload_n (pc' := 46) rfl rfl rfl ?_
        refine x_iald (pc' := 47) (N := 5) (x := 0) rfl rfl rfl (Eq.trans rdNthr (z_N_21_0 e)) (io_in (p := 2) (N := 5) (by decide) (by decide)) (Eq.trans (congrArg (sA (sThr t) 21 0) (nn_io (p := 2) (by decide))) (Eq.trans rdAthr (z_A_21_0_2 e))) ?_
        refine x_iconst (pc' := 48) rfl rfl ?_
        refine x_icmp (a' := 65) (pc' := 51) (z := true) rfl rfl rfl (by decide) (fun _ => ?_) (fun h => by cases h)
        refine x_iconst (pc' := 66) rfl rfl ?_
        refine x_istore (pc' := 68) (ls' := [_, _, _, _, _, _, _, _]) rfl rfl rfl rfl ?_
        refine x_aload_n (pc' := 69) rfl rfl rfl rfl rfl ?_
        refine x_aload_n (pc' := 70) rfl rfl rfl rfl rfl ?_
        refine x_iload_n (pc' := 71) rfl rfl rfl ?_
        refine x_iload_n (pc' := 72) rfl rfl rfl ?_
        refine x_iload (pc' := 74) rfl rfl rfl ?_
        refine x_iload (pc' := 76) rfl rfl rfl ?_
        refine x_cv (ls0 := [_, _, _, _, _, sJk]) (rest := [_]) rfl rfl rfl rfl rfl ?_
        refine x_iload_n (pc' := 1) rfl rfl rfl ?_
        refine x_cs (ls0 := [_]) (rest := []) rfl rfl rfl rfl ?_
        refine x_iload_n (pc' := 1) rfl rfl rfl ?_
        refine x_iconst (pc' := 2) rfl rfl ?_
        refine x_iconst (pc' := 3) rfl rfl ?_
        refine x_cs (ls0 := [_, _, _]) (rest := []) rfl rfl rfl rfl ?_
        refine x_iload_n (pc' := 1) rfl rfl rfl ?_
        refine x_iload_n (pc' := 2) rfl rfl rfl ?_
        refine x_icmp (a' := 14) (pc' := 5) (z := decide (m < 0)) rfl rfl rfl (ic_lt (p := m) (q := 0) (Nat.lt_trans hm (by decide)) (by decide)) (fun h => absurd (of_decide_eq_true h) (by first | decide | omega | simp)) (fun _ => ?_)
        refine x_iload_n (pc' := 6) rfl rfl rfl ?_
        refine x_iload_n (pc' := 7) rfl rfl rfl ?_
        refine x_icmp (a' := 14) (pc' := 10) (z := decide (5 < m)) rfl rfl rfl (ic_gt (p := m) (q := 5) (Nat.lt_trans hm (by decide)) (by decide)) (fun h => absurd (of_decide_eq_true h) (fun z => absurd hm (Nat.not_lt.mpr z))) (fun _ => ?_)
        refine x_iconst (pc' := 11) rfl rfl ?_
        refine x_goto (pc' := 15) rfl rfl ?_
        refine x_retz (z := true) rfl rfl ?_
        refine sK_i (pc' := 6) rfl ?_
        refine x_retz (z := true) rfl rfl ?_
        refine sK_i (pc' := 4) rfl ?_
        refine x_if (a' := 18) (pc' := 7) (z := false) rfl rfl rfl (by decide) (fun h => by cases h) (fun _ => ?_)
        refine x_iload_n (pc' := 8) rfl rfl rfl ?_
        refine x_cs (ls0 := [_]) (rest := []) rfl rfl rfl rfl ?_
        refine x_iload_n (pc' := 1) rfl rfl rfl ?_
        refine x_iconst (pc' := 2) rfl rfl ?_
        refine x_iconst (pc' := 3) rfl rfl ?_
        refine x_cs (ls0 := [_, _, _]) (rest := []) rfl rfl rfl rfl ?_
        refine x_iload_n (pc' := 1) rfl rfl rfl ?_
        refine x_iload_n (pc' := 2) rfl rfl rfl ?_
        refine x_icmp (a' := 14) (pc' := 5) (z := false) rfl rfl rfl (by decide) (fun h => by cases h) (fun _ => ?_)
        refine x_iload_n (pc' := 6) rfl rfl rfl ?_
        refine x_iload_n (pc' := 7) rfl rfl rfl ?_
        refine x_icmp (a' := 14) (pc' := 10) (z := false) rfl rfl rfl (by decide) (fun h => by cases h) (fun _ => ?_)
        refine x_iconst (pc' := 11) rfl rfl ?_
        refine x_goto (pc' := 15) rfl rfl ?_
        refine x_retz (z := true) rfl rfl ?_
        refine sK_i (pc' := 6) rfl ?_
        refine x_retz (z := true) rfl rfl ?_
        refine sK_i (pc' := 11) rfl ?_
        refine x_if (a' := 18) (pc' := 14) (z := false) rfl rfl rfl (by decide) (fun h => by cases h) (fun _ => ?_)
        refine x_iconst (pc' := 15) rfl rfl ?_
        refine x_goto (pc' := 19) rfl rfl ?_
        refine x_istore (pc' := 21) (ls' := [_, _, _, _, _, _]) rfl rfl rfl rfl ?_
        refine x_iload (pc' := 23) rfl rfl rfl ?_
        refine x_if (a' := 30) (pc' := 26) (z := true) rfl rfl rfl (by decide) (fun _ => ?_) (fun h => by cases h)
        refine x_iload_n (pc' := 31) rfl rfl rfl ?_
        refine x_if (a' := 38) (pc' := 34) (z := false) rfl rfl rfl (by decide) (fun h => by cases h) (fun _ => ?_)
        refine x_iconst (pc' := 35) rfl rfl ?_
        refine x_goto (pc' := 57) rfl rfl ?_
        refine x_reti rfl rfl ?_
        refine sK_i (pc' := 79) rfl ?_
        refine x_cv (ls0 := [_, _]) (rest := []) rfl rfl rfl rfl rfl ?_
        refine x_aload_n (pc' := 1) rfl rfl rfl rfl rfl ?_
        refine x_iload_n (pc' := 2) rfl rfl rfl ?_
        refine x_pI (pc' := 5) rfl rfl rfl ?_
        refine x_iload_n (pc' := 6) rfl rfl rfl ?_
        refine x_if (a' := 13) (pc' := 9) (z := true) rfl rfl rfl (by decide) (fun _ => ?_) (fun h => by cases h)
        refine x_iconst (pc' := 14) rfl rfl ?_
        refine x_retz (z := false) rfl rfl ?_
        refine sK_i (pc' := 82) rfl ?_
        refine x_if (a' := 102) (pc' := 85) (z := true) rfl rfl rfl (by decide) (fun _ => ?_) (fun h => by cases h)
        refine x_iconst (pc' := 103) rfl rfl ?_
        refine x_reti rfl rfl ?_
        refine sK_i (pc' := 1104) rfl ?_
        refine x_istore (pc' := 1106) (ls' := [_, _, _, _, _, _, _]) rfl rfl rfl rfl ?_
        refine x_aload_n (pc' := 1107) rfl rfl rfl rfl rfl ?_
        refine x_cv (ls0 := [_]) (rest := []) rfl rfl rfl rfl rfl ?_
        refine x_aload_n (pc' := 1) rfl rfl rfl rfl rfl ?_
        refine x_gI (pc' := 4) (x := 2) rfl rfl rfl sI_s ?_
        refine x_reti rfl rfl ?_
        refine sK_i (pc' := 1110) rfl ?_
        refine x_iload (pc' := 1112) rfl rfl rfl ?_
        refine x_icmp (a' := 1117) (pc' := 1115) (z := true) rfl rfl rfl (by decide) (fun _ => ?_) (fun h => by cases h)
        refine x_iload (pc' := 1119) rfl rfl rfl ?_
        refine x_if (a' := 1134) (pc' := 1122) (z := true) rfl rfl rfl (by decide) (fun _ => ?_) (fun h => by cases h)
        refine x_goto (pc' := 2938) rfl rfl ?_
        refine x_iinc (pc' := 2941) (y := 7) (ls' := [_, _, _, _, _, _, _]) rfl rfl rfl rfl rfl ?_
        refine x_goto (pc' := 23) rfl rfl ?_
        refine x_iload (pc' := 25) rfl rfl rfl ?_
        refine x_aload_n (pc' := 26) rfl rfl rfl rfl rfl ?_
        refine x_alen (pc' := 27) (N := 7) rfl rfl rfl (Eq.trans rdNI (Eq.trans rdNthr (z_N_29_0 e))) (?_ : X _ _ _ (.inl 7 :: _) _ _)
        refine x_bipush (pc' := 29) rfl rfl ?_
        refine x_isub (pc' := 30) (z := 0) rfl rfl (by decide) ?_
        refine x_icmp (a' := 2944) (pc' := 33) (z := true) rfl rfl rfl (by decide) (fun _ => ?_) (fun h => by cases h)
        refine x_iconst (pc' := 2945) rfl rfl ?_
        refine x_retz (z := true) rfl rfl ?_
        exact Qp_ok e (p := 1) (q := 6) rfl rfl rfl rfl
      refine x_if (a' := 1088) (pc' := 1084) (z := decide ((xs 3) = 0)) rfl rfl rfl rfl (fun q12 => ?_) (fun q12 => ?_)
      · refine x_iconst (pc' := 1089) rfl rfl ?_
        ((try rw [q12] at J12); (try rw [q12]); (try simp only [cd_t, cd_f, nt_t, nt_f, an_t, an_f, or_t, or_f] at J12); (try simp only [cd_t, cd_f, nt_t, nt_f, an_t, an_f, or_t, or_f]); exact J12)
      · refine x_iconst (pc' := 1085) rfl rfl ?_
        refine x_goto (pc' := 1089) rfl rfl ?_
        ((try rw [q12] at J12); (try rw [q12]); (try simp only [cd_t, cd_f, nt_t, nt_f, an_t, an_f, or_t, or_f] at J12); (try simp only [cd_t, cd_f, nt_t, nt_f, an_t, an_f, or_t, or_f]); exact J12)
    · refine x_iload_n (pc' := 6) rfl rfl rfl ?_
      refine x_iload_n (pc' := 7) rfl rfl rfl ?_
      refine x_icmp_n (a' := 21) (pc' := 10) (z := decide (999 < (xs 4))) rfl rfl rfl (ik_le _ _) (fun q37 => ?_) (fun q37 => ?_)
      · refine x_ret rfl ?_
        refine sK_v (pc' := 28) rfl ?_
        refine x_ret rfl ?_
        refine sK_v (pc' := 21) rfl ?_
        refine x_iload (pc' := 23) rfl rfl rfl ?_
        refine x_iconst (pc' := 24) rfl rfl ?_
        refine x_bipush (pc' := 26) rfl rfl ?_
        refine x_cs (ls0 := [_, _, _]) (rest := []) rfl rfl rfl rfl ?_
        refine x_iload_n (pc' := 1) rfl rfl rfl ?_
        refine x_iload_n (pc' := 2) rfl rfl rfl ?_
        refine x_icmp (a' := 10) (pc' := 5) (z := decide ((xs 5) < 1)) rfl rfl rfl rfl (fun q38 => ?_) (fun q38 => ?_)
        · refine x_throw rfl rfl ?_
          refine sK_n (by decide +kernel) rfl ?_
          refine sK_h (h := 23) (by decide +kernel) rfl ?_
          refine x_catch (pc' := 25) (ls' := [_, _, _, _, _, _, _, _]) rfl rfl rfl rfl ?_
          refine x_iconst (pc' := 26) rfl rfl ?_
          refine x_reti rfl rfl ?_
          refine sK_i (pc' := 1060) rfl ?_
          refine x_istore (pc' := 1062) (ls' := [_, _, _, _, _, _, _]) rfl rfl rfl rfl ?_
          refine x_aload_n (pc' := 1063) rfl rfl rfl rfl rfl ?_
          refine x_aload_n (pc' := 1064) rfl rfl rfl rfl rfl ?_
          refine x_iload (pc' := 1066) rfl rfl rfl ?_
          refine x_iconst (pc' := 1067) rfl rfl ?_
          refine x_iadd (pc' := 1068) (z := 1) rfl rfl (by decide) ?_
          refine x_iald (pc' := 1069) (N := 7) (x := (io m)) rfl rfl rfl (Eq.trans rdNthr (z_N_29_0 e)) (io_in (p := 1) (N := 7) (by decide) (by decide)) (Eq.trans (congrArg (sA (sThr t) 29 0) (nn_io (p := 1) (by decide))) (Eq.trans rdAthr (Eq.trans (z_A_29_0_1 e) e0))) ?_
          refine x_aload_n (pc' := 1070) rfl rfl rfl rfl rfl ?_
          refine x_iload (pc' := 1072) rfl rfl rfl ?_
          refine x_iconst (pc' := 1073) rfl rfl ?_
          refine x_iadd (pc' := 1074) (z := 2) rfl rfl (by decide) ?_
          refine x_iald (pc' := 1075) (N := 7) (x := 2) rfl rfl rfl (Eq.trans rdNthr (z_N_29_0 e)) (io_in (p := 2) (N := 7) (by decide) (by decide)) (Eq.trans (congrArg (sA (sThr t) 29 0) (nn_io (p := 2) (by decide))) (Eq.trans rdAthr (Eq.trans (z_A_29_0_2 e) e1))) ?_
          refine x_aload_n (pc' := 1076) rfl rfl rfl rfl rfl ?_
          refine x_iload (pc' := 1078) rfl rfl rfl ?_
          refine x_iconst (pc' := 1079) rfl rfl ?_
          refine x_iadd (pc' := 1080) (z := 3) rfl rfl (by decide) ?_
          refine x_iald (pc' := 1081) (N := 7) (x := (xs 3)) rfl rfl rfl (Eq.trans rdNthr (z_N_29_0 e)) (io_in (p := 3) (N := 7) (by decide) (by decide)) (Eq.trans (congrArg (sA (sThr t) 29 0) (nn_io (p := 3) (by decide))) (Eq.trans rdAthr (z_A_29_0_3 e))) ?_
          have J39 : X 297 1089 [.inr (.inr (29, (some 0))), .inr (.inr (11, (some 0))), .inr (.inr (12, (some 0))), .inr (.inr (23, (some 0))), .inl 0, .inl 2, sJk] [.inl (bz (!(decide ((xs 3) = 0)))), .inl 2, .inl (io m), .inr (.inr (12, (some 0)))] (sThr t) Qp := by
            refine x_aload_n (pc' := 1090) rfl rfl rfl rfl rfl ?_
            refine x_iload (pc' := 1092) rfl rfl rfl ?_
            refine x_iconst (pc' := 1093) rfl rfl ?_
            refine x_iadd (pc' := 1094) (z := 4) rfl rfl (by decide) ?_
            refine x_iald (pc' := 1095) (N := 7) (x := (xs 4)) rfl rfl rfl (Eq.trans rdNthr (z_N_29_0 e)) (io_in (p := 4) (N := 7) (by decide) (by decide)) (Eq.trans (congrArg (sA (sThr t) 29 0) (nn_io (p := 4) (by decide))) (Eq.trans rdAthr (z_A_29_0_4 e))) ?_
            refine x_aload_n (pc' := 1096) rfl rfl rfl rfl rfl ?_
            refine x_iload (pc' := 1098) rfl rfl rfl ?_
            refine x_iconst (pc' := 1099) rfl rfl ?_
            refine x_iadd (pc' := 1100) (z := 5) rfl rfl (by decide) ?_
            refine x_iald (pc' := 1101) (N := 7) (x := (xs 5)) rfl rfl rfl (Eq.trans rdNthr (z_N_29_0 e)) (io_in (p := 5) (N := 7) (by decide) (by decide)) (Eq.trans (congrArg (sA (sThr t) 29 0) (nn_io (p := 5) (by decide))) (Eq.trans rdAthr (z_A_29_0_5 e))) ?_
            refine x_cv (ls0 := [_, _, _, _, _, _, sJk, sJk]) (rest := []) rfl rfl rfl rfl rfl ?_
            refine x_iload_n (pc' := 1) rfl rfl rfl ?_
            refine x_cs (ls0 := [_]) (rest := []) rfl rfl rfl rfl ?_
            refine x_iload_n (pc' := 1) rfl rfl rfl ?_
            refine x_iconst (pc' := 2) rfl rfl ?_
            refine x_iconst (pc' := 3) rfl rfl ?_
            refine x_cs (ls0 := [_, _, _]) (rest := []) rfl rfl rfl rfl ?_
            refine x_iload_n (pc' := 1) rfl rfl rfl ?_
            refine x_iload_n (pc' := 2) rfl rfl rfl ?_
            refine x_icmp (a' := 14) (pc' := 5) (z := false) rfl rfl rfl (by decide) (fun h => by cases h) (fun _ => ?_)
            refine x_iload_n (pc' := 6) rfl rfl rfl ?_
            refine x_iload_n (pc' := 7) rfl rfl rfl ?_
            refine x_icmp (a' := 14) (pc' := 10) (z := false) rfl rfl rfl (by decide) (fun h => by cases h) (fun _ => ?_)
            refine x_iconst (pc' := 11) rfl rfl ?_
            refine x_goto (pc' := 15) rfl rfl ?_
            refine x_retz (z := true) rfl rfl ?_
            refine sK_i (pc' := 6) rfl ?_
            refine x_retz (z := true) rfl rfl ?_
            refine sK_i (pc' := 4) rfl ?_
            refine x_if (a' := 31) (pc' := 7) (z := false) rfl rfl rfl (by decide) (fun h => by cases h) (fun _ => ?_)
            refine x_iload_n (pc' := 8) rfl rfl rfl ?_
            refine x_iload (pc' := 10) rfl rfl rfl ?_
            refine x_cs (ls0 := [_, _]) (rest := []) rfl rfl rfl rfl ?_
            refine x_iload_n (pc' := 1) rfl rfl rfl ?_
            refine x_iconst (pc' := 2) rfl rfl ?_
            refine x_icmp (a' := 16) (pc' := 5) (z := false) rfl rfl rfl (by decide) (fun h => by cases h) (fun _ => ?_)
            refine x_iload_n (pc' := 6) rfl rfl rfl ?_
            refine x_iconst (pc' := 7) rfl rfl ?_
            refine x_sipush (pc' := 10) rfl rfl ?_
            refine x_cs (ls0 := [_, _, _]) (rest := []) rfl rfl rfl rfl ?_
            refine x_iload_n (pc' := 1) rfl rfl rfl ?_
            refine x_iload_n (pc' := 2) rfl rfl rfl ?_
            refine x_icmp (a' := 14) (pc' := 5) (z := decide ((xs 4) < 1)) rfl rfl rfl rfl (fun h => absurd (of_decide_eq_true h) (of_decide_eq_false q11)) (fun _ => ?_)
            refine x_iload_n (pc' := 6) rfl rfl rfl ?_
            refine x_iload_n (pc' := 7) rfl rfl rfl ?_
            refine x_icmp (a' := 14) (pc' := 10) (z := decide (999 < (xs 4))) rfl rfl rfl rfl (fun h => absurd (of_decide_eq_true h) (of_decide_eq_false q37)) (fun _ => ?_)
            refine x_iconst (pc' := 11) rfl rfl ?_
            refine x_goto (pc' := 15) rfl rfl ?_
            refine x_retz (z := true) rfl rfl ?_
            refine sK_i (pc' := 13) rfl ?_
            refine x_goto (pc' := 26) rfl rfl ?_
            refine x_retz (z := true) rfl rfl ?_
            refine sK_i (pc' := 13) rfl ?_
            refine x_if (a' := 31) (pc' := 16) (z := false) rfl rfl rfl (by decide) (fun h => by cases h) (fun _ => ?_)
            refine x_iload (pc' := 18) rfl rfl rfl ?_
            refine x_iconst (pc' := 19) rfl rfl ?_
            refine x_bipush (pc' := 21) rfl rfl ?_
            refine x_cs (ls0 := [_, _, _]) (rest := []) rfl rfl rfl rfl ?_
            refine x_iload_n (pc' := 1) rfl rfl rfl ?_
            refine x_iload_n (pc' := 2) rfl rfl rfl ?_
            refine x_icmp (a' := 14) (pc' := 5) (z := decide ((xs 5) < 1)) rfl rfl rfl rfl (fun _ => ?_) (fun h => absurd (of_decide_eq_true q38) (of_decide_eq_false h))
            refine x_iconst (pc' := 15) rfl rfl ?_
            refine x_retz (z := false) rfl rfl ?_
            refine sK_i (pc' := 24) rfl ?_
            refine x_if (a' := 31) (pc' := 27) (z := true) rfl rfl rfl (by decide) (fun _ => ?_) (fun h => by cases h)
            refine x_iconst (pc' := 32) rfl rfl ?_
            refine x_istore (pc' := 34) (ls' := [_, _, _, _, _, _, _, _]) rfl rfl rfl rfl ?_
            refine x_iload_n (pc' := 35) rfl rfl rfl ?_
            refine x_cs (ls0 := [_]) (rest := []) rfl rfl rfl rfl ?_
            refine x_iload_n (pc' := 1) rfl rfl rfl ?_
            refine x_iconst (pc' := 2) rfl rfl ?_
            refine x_iconst (pc' := 3) rfl rfl ?_
            refine x_cs (ls0 := [_, _, _]) (rest := []) rfl rfl rfl rfl ?_
            refine x_iload_n (pc' := 1) rfl rfl rfl ?_
            refine x_iload_n (pc' := 2) rfl rfl rfl ?_
            refine x_icmp (a' := 14) (pc' := 5) (z := false) rfl rfl rfl (by decide) (fun h => by cases h) (fun _ => ?_)
            refine x_iload_n (pc' := 6) rfl rfl rfl ?_
            refine x_iload_n (pc' := 7) rfl rfl rfl ?_
            refine x_icmp (a' := 14) (pc' := 10) (z := false) rfl rfl rfl (by decide) (fun h => by cases h) (fun _ => ?_)
            refine x_iconst (pc' := 11) rfl rfl ?_
            refine x_goto (pc' := 15) rfl rfl ?_
            refine x_retz (z := true) rfl rfl ?_
            refine sK_i (pc' := 6) rfl ?_
            refine x_retz (z := true) rfl rfl ?_
            refine sK_i (pc' := 38) rfl ?_
            refine x_if (a' := 65) (pc' := 41) (z := false) rfl rfl rfl (by decide) (fun h => by cases h) (fun _ => ?_)
            refine x_aload_n (pc' := 42) rfl rfl rfl rfl rfl ?_
            refine x_gR (pc' := 45) (r := (some 0)) rfl rfl rfl (Eq.trans rdRthr (z_R_769_0 e)) ?_
            refine x_iload_n (pc' := 46) rfl rfl rfl ?_
            refine x_iald (pc' := 47) (N := 5) (x := 0) rfl rfl rfl (Eq.trans rdNthr (z_N_21_0 e)) (io_in (p := 2) (N := 5) (by decide) (by decide)) (Eq.trans (congrArg (sA (sThr t) 21 0) (nn_io (p := 2) (by decide))) (Eq.trans rdAthr (z_A_21_0_2 e))) ?_
            refine x_iconst (pc' := 48) rfl rfl ?_
            refine x_icmp (a' := 65) (pc' := 51) (z := true) rfl rfl rfl (by decide) (fun _ => ?_) (fun h => by cases h)
            refine x_iconst (pc' := 66) rfl rfl ?_
            refine x_istore (pc' := 68) (ls' := [_, _, _, _, _, _, _, _]) rfl rfl rfl rfl ?_
            refine x_aload_n (pc' := 69) rfl rfl rfl rfl rfl ?_
            refine x_aload_n (pc' := 70) rfl rfl rfl rfl rfl ?_
            refine x_iload_n (pc' := 71) rfl rfl rfl ?_
            refine x_iload_n (pc' := 72) rfl rfl rfl ?_
            refine x_iload (pc' := 74) rfl rfl rfl ?_
            refine x_iload (pc' := 76) rfl rfl rfl ?_
            refine x_cv (ls0 := [_, _, _, _, _, sJk]) (rest := [_]) rfl rfl rfl rfl rfl ?_
            refine x_iload_n (pc' := 1) rfl rfl rfl ?_
            refine x_cs (ls0 := [_]) (rest := []) rfl rfl rfl rfl ?_
            refine x_iload_n (pc' := 1) rfl rfl rfl ?_
            refine x_iconst (pc' := 2) rfl rfl ?_
            refine x_iconst (pc' := 3) rfl rfl ?_
            refine x_cs (ls0 := [_, _, _]) (rest := []) rfl rfl rfl rfl ?_
            refine x_iload_n (pc' := 1) rfl rfl rfl ?_
            refine x_iload_n (pc' := 2) rfl rfl rfl ?_
            refine x_icmp (a' := 14) (pc' := 5) (z := decide (m < 0)) rfl rfl rfl (ic_lt (p := m) (q := 0) (Nat.lt_trans hm (by decide)) (by decide)) (fun h => absurd (of_decide_eq_true h) (by first | decide | omega | simp)) (fun _ => ?_)
            refine x_iload_n (pc' := 6) rfl rfl rfl ?_
            refine x_iload_n (pc' := 7) rfl rfl rfl ?_
            refine x_icmp (a' := 14) (pc' := 10) (z := decide (5 < m)) rfl rfl rfl (ic_gt (p := m) (q := 5) (Nat.lt_trans hm (by decide)) (by decide)) (fun h => absurd (of_decide_eq_true h) (fun z => absurd hm (Nat.not_lt.mpr z))) (fun _ => ?_)
            refine x_iconst (pc' := 11) rfl rfl ?_
            refine x_goto (pc' := 15) rfl rfl ?_
            refine x_retz (z := true) rfl rfl ?_
            refine sK_i (pc' := 6) rfl ?_
            refine x_retz (z := true) rfl rfl ?_
            refine sK_i (pc' := 4) rfl ?_
            refine x_if (a' := 18) (pc' := 7) (z := false) rfl rfl rfl (by decide) (fun h => by cases h) (fun _ => ?_)
            refine x_iload_n (pc' := 8) rfl rfl rfl ?_
            refine x_cs (ls0 := [_]) (rest := []) rfl rfl rfl rfl ?_
            refine x_iload_n (pc' := 1) rfl rfl rfl ?_
            refine x_iconst (pc' := 2) rfl rfl ?_
            refine x_iconst (pc' := 3) rfl rfl ?_
            refine x_cs (ls0 := [_, _, _]) (rest := []) rfl rfl rfl rfl ?_
            refine x_iload_n (pc' := 1) rfl rfl rfl ?_
            refine x_iload_n (pc' := 2) rfl rfl rfl ?_
            refine x_icmp (a' := 14) (pc' := 5) (z := false) rfl rfl rfl (by decide) (fun h => by cases h) (fun _ => ?_)
            refine x_iload_n (pc' := 6) rfl rfl rfl ?_
            refine x_iload_n (pc' := 7) rfl rfl rfl ?_
            refine x_icmp (a' := 14) (pc' := 10) (z := false) rfl rfl rfl (by decide) (fun h => by cases h) (fun _ => ?_)
            refine x_iconst (pc' := 11) rfl rfl ?_
            refine x_goto (pc' := 15) rfl rfl ?_
            refine x_retz (z := true) rfl rfl ?_
            refine sK_i (pc' := 6) rfl ?_
            refine x_retz (z := true) rfl rfl ?_
            refine sK_i (pc' := 11) rfl ?_
            refine x_if (a' := 18) (pc' := 14) (z := false) rfl rfl rfl (by decide) (fun h => by cases h) (fun _ => ?_)
            refine x_iconst (pc' := 15) rfl rfl ?_
            refine x_goto (pc' := 19) rfl rfl ?_
            refine x_istore (pc' := 21) (ls' := [_, _, _, _, _, _]) rfl rfl rfl rfl ?_
            refine x_iload (pc' := 23) rfl rfl rfl ?_
            refine x_if (a' := 30) (pc' := 26) (z := true) rfl rfl rfl (by decide) (fun _ => ?_) (fun h => by cases h)
            refine x_iload_n (pc' := 31) rfl rfl rfl ?_
            refine x_if (a' := 38) (pc' := 34) (z := false) rfl rfl rfl (by decide) (fun h => by cases h) (fun _ => ?_)
            refine x_iconst (pc' := 35) rfl rfl ?_
            refine x_goto (pc' := 57) rfl rfl ?_
            refine x_reti rfl rfl ?_
            refine sK_i (pc' := 79) rfl ?_
            refine x_cv (ls0 := [_, _]) (rest := []) rfl rfl rfl rfl rfl ?_
            refine x_aload_n (pc' := 1) rfl rfl rfl rfl rfl ?_
            refine x_iload_n (pc' := 2) rfl rfl rfl ?_
            refine x_pI (pc' := 5) rfl rfl rfl ?_
            refine x_iload_n (pc' := 6) rfl rfl rfl ?_
            refine x_if (a' := 13) (pc' := 9) (z := true) rfl rfl rfl (by decide) (fun _ => ?_) (fun h => by cases h)
            refine x_iconst (pc' := 14) rfl rfl ?_
            refine x_retz (z := false) rfl rfl ?_
            refine sK_i (pc' := 82) rfl ?_
            refine x_if (a' := 102) (pc' := 85) (z := true) rfl rfl rfl (by decide) (fun _ => ?_) (fun h => by cases h)
            refine x_iconst (pc' := 103) rfl rfl ?_
            refine x_reti rfl rfl ?_
            refine sK_i (pc' := 1104) rfl ?_
            refine x_istore (pc' := 1106) (ls' := [_, _, _, _, _, _, _]) rfl rfl rfl rfl ?_
            refine x_aload_n (pc' := 1107) rfl rfl rfl rfl rfl ?_
            refine x_cv (ls0 := [_]) (rest := []) rfl rfl rfl rfl rfl ?_
            refine x_aload_n (pc' := 1) rfl rfl rfl rfl rfl ?_
            refine x_gI (pc' := 4) (x := 2) rfl rfl rfl sI_s ?_
            refine x_reti rfl rfl ?_
            refine sK_i (pc' := 1110) rfl ?_
            refine x_iload (pc' := 1112) rfl rfl rfl ?_
            refine x_icmp (a' := 1117) (pc' := 1115) (z := true) rfl rfl rfl (by decide) (fun _ => ?_) (fun h => by cases h)
            refine x_iload (pc' := 1119) rfl rfl rfl ?_
            refine x_if (a' := 1134) (pc' := 1122) (z := true) rfl rfl rfl (by decide) (fun _ => ?_) (fun h => by cases h)
            refine x_goto (pc' := 2938) rfl rfl ?_
            refine x_iinc (pc' := 2941) (y := 7) (ls' := [_, _, _, _, _, _, _]) rfl rfl rfl rfl rfl ?_
            refine x_goto (pc' := 23) rfl rfl ?_
            refine x_iload (pc' := 25) rfl rfl rfl ?_
            refine x_aload_n (pc' := 26) rfl rfl rfl rfl rfl ?_
            refine x_alen (pc' := 27) (N := 7) rfl rfl rfl (Eq.trans rdNI (Eq.trans rdNthr (z_N_29_0 e))) (?_ : X _ _ _ (.inl 7 :: _) _ _)
            refine x_bipush (pc' := 29) rfl rfl ?_
            refine x_isub (pc' := 30) (z := 0) rfl rfl (by decide) ?_
            refine x_icmp (a' := 2944) (pc' := 33) (z := true) rfl rfl rfl (by decide) (fun _ => ?_) (fun h => by cases h)
            refine x_iconst (pc' := 2945) rfl rfl ?_
            refine x_retz (z := true) rfl rfl ?_
            exact Qp_ok e (p := 1) (q := 6) rfl rfl rfl rfl
          refine x_if (a' := 1088) (pc' := 1084) (z := decide ((xs 3) = 0)) rfl rfl rfl rfl (fun q39 => ?_) (fun q39 => ?_)
          · refine x_iconst (pc' := 1089) rfl rfl ?_
            ((try rw [q39] at J39); (try rw [q39]); (try simp only [cd_t, cd_f, nt_t, nt_f, an_t, an_f, or_t, or_f] at J39); (try simp only [cd_t, cd_f, nt_t, nt_f, an_t, an_f, or_t, or_f]); exact J39)
          · refine x_iconst (pc' := 1085) rfl rfl ?_
            refine x_goto (pc' := 1089) rfl rfl ?_
            ((try rw [q39] at J39); (try rw [q39]); (try simp only [cd_t, cd_f, nt_t, nt_f, an_t, an_f, or_t, or_f] at J39); (try simp only [cd_t, cd_f, nt_t, nt_f, an_t, an_f, or_t, or_f]); exact J39)
        · refine x_iload_n (pc' := 6) rfl rfl rfl ?_
          refine x_iload_n (pc' := 7) rfl rfl rfl ?_
          refine x_icmp_n (a' := 21) (pc' := 10) (z := decide (100 < (xs 5))) rfl rfl rfl (ik_le _ _) (fun q67 => ?_) (fun q67 => ?_)
          · refine x_ret rfl ?_
            refine sK_v (pc' := 29) rfl ?_
            refine x_aload (pc' := 31) rfl rfl rfl rfl rfl ?_
            refine x_gI (pc' := 34) (x := 0) rfl rfl rfl (z_I_67_2 e) ?_
            refine x_iconst (pc' := 35) rfl rfl ?_
            refine x_icmp (a' := 42) (pc' := 38) (z := true) rfl rfl rfl (by decide) (fun _ => ?_) (fun h => by cases h)
            refine x_iconst (pc' := 43) rfl rfl ?_
            refine x_cs (ls0 := [_]) (rest := []) rfl rfl rfl rfl ?_
            refine x_iload_n (pc' := 1) rfl rfl rfl ?_
            refine x_if (a' := 15) (pc' := 4) (z := false) rfl rfl rfl (by decide) (fun h => by cases h) (fun _ => ?_)
            refine x_throw rfl rfl ?_
            refine sK_n (by decide +kernel) rfl ?_
            refine sK_h (h := 27) (by decide +kernel) rfl ?_
            refine x_catch (pc' := 29) (ls' := [_, _, _, _, _, _, _, _]) rfl rfl rfl rfl ?_
            refine x_iconst (pc' := 30) rfl rfl ?_
            refine x_reti rfl rfl ?_
            refine sK_i (pc' := 1060) rfl ?_
            refine x_istore (pc' := 1062) (ls' := [_, _, _, _, _, _, _]) rfl rfl rfl rfl ?_
            refine x_aload_n (pc' := 1063) rfl rfl rfl rfl rfl ?_
            refine x_aload_n (pc' := 1064) rfl rfl rfl rfl rfl ?_
            refine x_iload (pc' := 1066) rfl rfl rfl ?_
            refine x_iconst (pc' := 1067) rfl rfl ?_
            refine x_iadd (pc' := 1068) (z := 1) rfl rfl (by decide) ?_
            refine x_iald (pc' := 1069) (N := 7) (x := (io m)) rfl rfl rfl (Eq.trans rdNthr (z_N_29_0 e)) (io_in (p := 1) (N := 7) (by decide) (by decide)) (Eq.trans (congrArg (sA (sThr t) 29 0) (nn_io (p := 1) (by decide))) (Eq.trans rdAthr (Eq.trans (z_A_29_0_1 e) e0))) ?_
            refine x_aload_n (pc' := 1070) rfl rfl rfl rfl rfl ?_
            refine x_iload (pc' := 1072) rfl rfl rfl ?_
            refine x_iconst (pc' := 1073) rfl rfl ?_
            refine x_iadd (pc' := 1074) (z := 2) rfl rfl (by decide) ?_
            refine x_iald (pc' := 1075) (N := 7) (x := 2) rfl rfl rfl (Eq.trans rdNthr (z_N_29_0 e)) (io_in (p := 2) (N := 7) (by decide) (by decide)) (Eq.trans (congrArg (sA (sThr t) 29 0) (nn_io (p := 2) (by decide))) (Eq.trans rdAthr (Eq.trans (z_A_29_0_2 e) e1))) ?_
            refine x_aload_n (pc' := 1076) rfl rfl rfl rfl rfl ?_
            refine x_iload (pc' := 1078) rfl rfl rfl ?_
            refine x_iconst (pc' := 1079) rfl rfl ?_
            refine x_iadd (pc' := 1080) (z := 3) rfl rfl (by decide) ?_
            refine x_iald (pc' := 1081) (N := 7) (x := (xs 3)) rfl rfl rfl (Eq.trans rdNthr (z_N_29_0 e)) (io_in (p := 3) (N := 7) (by decide) (by decide)) (Eq.trans (congrArg (sA (sThr t) 29 0) (nn_io (p := 3) (by decide))) (Eq.trans rdAthr (z_A_29_0_3 e))) ?_
            have J70 : X 297 1089 [.inr (.inr (29, (some 0))), .inr (.inr (11, (some 0))), .inr (.inr (12, (some 0))), .inr (.inr (23, (some 0))), .inl 0, .inl 3, sJk] [.inl (bz (!(decide ((xs 3) = 0)))), .inl 2, .inl (io m), .inr (.inr (12, (some 0)))] (sThr t) Qp := by
              refine x_aload_n (pc' := 1090) rfl rfl rfl rfl rfl ?_
              refine x_iload (pc' := 1092) rfl rfl rfl ?_
              refine x_iconst (pc' := 1093) rfl rfl ?_
              refine x_iadd (pc' := 1094) (z := 4) rfl rfl (by decide) ?_
              refine x_iald (pc' := 1095) (N := 7) (x := (xs 4)) rfl rfl rfl (Eq.trans rdNthr (z_N_29_0 e)) (io_in (p := 4) (N := 7) (by decide) (by decide)) (Eq.trans (congrArg (sA (sThr t) 29 0) (nn_io (p := 4) (by decide))) (Eq.trans rdAthr (z_A_29_0_4 e))) ?_
              refine x_aload_n (pc' := 1096) rfl rfl rfl rfl rfl ?_
              refine x_iload (pc' := 1098) rfl rfl rfl ?_
              refine x_iconst (pc' := 1099) rfl rfl ?_
              refine x_iadd (pc' := 1100) (z := 5) rfl rfl (by decide) ?_
              refine x_iald (pc' := 1101) (N := 7) (x := (xs 5)) rfl rfl rfl (Eq.trans rdNthr (z_N_29_0 e)) (io_in (p := 5) (N := 7) (by decide) (by decide)) (Eq.trans (congrArg (sA (sThr t) 29 0) (nn_io (p := 5) (by decide))) (Eq.trans rdAthr (z_A_29_0_5 e))) ?_
              refine x_cv (ls0 := [_, _, _, _, _, _, sJk, sJk]) (rest := []) rfl rfl rfl rfl rfl ?_
              refine x_iload_n (pc' := 1) rfl rfl rfl ?_
              refine x_cs (ls0 := [_]) (rest := []) rfl rfl rfl rfl ?_
              refine x_iload_n (pc' := 1) rfl rfl rfl ?_
              refine x_iconst (pc' := 2) rfl rfl ?_
              refine x_iconst (pc' := 3) rfl rfl ?_
              refine x_cs (ls0 := [_, _, _]) (rest := []) rfl rfl rfl rfl ?_
              refine x_iload_n (pc' := 1) rfl rfl rfl ?_
              refine x_iload_n (pc' := 2) rfl rfl rfl ?_
              refine x_icmp (a' := 14) (pc' := 5) (z := false) rfl rfl rfl (by decide) (fun h => by cases h) (fun _ => ?_)
              refine x_iload_n (pc' := 6) rfl rfl rfl ?_
              refine x_iload_n (pc' := 7) rfl rfl rfl ?_
              refine x_icmp (a' := 14) (pc' := 10) (z := false) rfl rfl rfl (by decide) (fun h => by cases h) (fun _ => ?_)
              refine x_iconst (pc' := 11) rfl rfl ?_
              refine x_goto (pc' := 15) rfl rfl ?_
              refine x_retz (z := true) rfl rfl ?_
              refine sK_i (pc' := 6) rfl ?_
              refine x_retz (z := true) rfl rfl ?_
              refine sK_i (pc' := 4) rfl ?_
              refine x_if (a' := 31) (pc' := 7) (z := false) rfl rfl rfl (by decide) (fun h => by cases h) (fun _ => ?_)
              refine x_iload_n (pc' := 8) rfl rfl rfl ?_
              refine x_iload (pc' := 10) rfl rfl rfl ?_
              refine x_cs (ls0 := [_, _]) (rest := []) rfl rfl rfl rfl ?_
              refine x_iload_n (pc' := 1) rfl rfl rfl ?_
              refine x_iconst (pc' := 2) rfl rfl ?_
              refine x_icmp (a' := 16) (pc' := 5) (z := false) rfl rfl rfl (by decide) (fun h => by cases h) (fun _ => ?_)
              refine x_iload_n (pc' := 6) rfl rfl rfl ?_
              refine x_iconst (pc' := 7) rfl rfl ?_
              refine x_sipush (pc' := 10) rfl rfl ?_
              refine x_cs (ls0 := [_, _, _]) (rest := []) rfl rfl rfl rfl ?_
              refine x_iload_n (pc' := 1) rfl rfl rfl ?_
              refine x_iload_n (pc' := 2) rfl rfl rfl ?_
              refine x_icmp (a' := 14) (pc' := 5) (z := decide ((xs 4) < 1)) rfl rfl rfl rfl (fun h => absurd (of_decide_eq_true h) (of_decide_eq_false q11)) (fun _ => ?_)
              refine x_iload_n (pc' := 6) rfl rfl rfl ?_
              refine x_iload_n (pc' := 7) rfl rfl rfl ?_
              refine x_icmp (a' := 14) (pc' := 10) (z := decide (999 < (xs 4))) rfl rfl rfl rfl (fun h => absurd (of_decide_eq_true h) (of_decide_eq_false q37)) (fun _ => ?_)
              refine x_iconst (pc' := 11) rfl rfl ?_
              refine x_goto (pc' := 15) rfl rfl ?_
              refine x_retz (z := true) rfl rfl ?_
              refine sK_i (pc' := 13) rfl ?_
              refine x_goto (pc' := 26) rfl rfl ?_
              refine x_retz (z := true) rfl rfl ?_
              refine sK_i (pc' := 13) rfl ?_
              refine x_if (a' := 31) (pc' := 16) (z := false) rfl rfl rfl (by decide) (fun h => by cases h) (fun _ => ?_)
              refine x_iload (pc' := 18) rfl rfl rfl ?_
              refine x_iconst (pc' := 19) rfl rfl ?_
              refine x_bipush (pc' := 21) rfl rfl ?_
              refine x_cs (ls0 := [_, _, _]) (rest := []) rfl rfl rfl rfl ?_
              refine x_iload_n (pc' := 1) rfl rfl rfl ?_
              refine x_iload_n (pc' := 2) rfl rfl rfl ?_
              refine x_icmp (a' := 14) (pc' := 5) (z := decide ((xs 5) < 1)) rfl rfl rfl rfl (fun h => absurd (of_decide_eq_true h) (of_decide_eq_false q38)) (fun _ => ?_)
              refine x_iload_n (pc' := 6) rfl rfl rfl ?_
              refine x_iload_n (pc' := 7) rfl rfl rfl ?_
              refine x_icmp (a' := 14) (pc' := 10) (z := decide (100 < (xs 5))) rfl rfl rfl rfl (fun h => absurd (of_decide_eq_true h) (of_decide_eq_false q67)) (fun _ => ?_)
              refine x_iconst (pc' := 11) rfl rfl ?_
              refine x_goto (pc' := 15) rfl rfl ?_
              refine x_retz (z := true) rfl rfl ?_
              refine sK_i (pc' := 24) rfl ?_
              refine x_if (a' := 31) (pc' := 27) (z := false) rfl rfl rfl (by decide) (fun h => by cases h) (fun _ => ?_)
              refine x_iconst (pc' := 28) rfl rfl ?_
              refine x_goto (pc' := 32) rfl rfl ?_
              refine x_istore (pc' := 34) (ls' := [_, _, _, _, _, _, _, _]) rfl rfl rfl rfl ?_
              refine x_iload_n (pc' := 35) rfl rfl rfl ?_
              refine x_cs (ls0 := [_]) (rest := []) rfl rfl rfl rfl ?_
              refine x_iload_n (pc' := 1) rfl rfl rfl ?_
              refine x_iconst (pc' := 2) rfl rfl ?_
              refine x_iconst (pc' := 3) rfl rfl ?_
              refine x_cs (ls0 := [_, _, _]) (rest := []) rfl rfl rfl rfl ?_
              refine x_iload_n (pc' := 1) rfl rfl rfl ?_
              refine x_iload_n (pc' := 2) rfl rfl rfl ?_
              refine x_icmp (a' := 14) (pc' := 5) (z := false) rfl rfl rfl (by decide) (fun h => by cases h) (fun _ => ?_)
              refine x_iload_n (pc' := 6) rfl rfl rfl ?_
              refine x_iload_n (pc' := 7) rfl rfl rfl ?_
              refine x_icmp (a' := 14) (pc' := 10) (z := false) rfl rfl rfl (by decide) (fun h => by cases h) (fun _ => ?_)
              refine x_iconst (pc' := 11) rfl rfl ?_
              refine x_goto (pc' := 15) rfl rfl ?_
              refine x_retz (z := true) rfl rfl ?_
              refine sK_i (pc' := 6) rfl ?_
              refine x_retz (z := true) rfl rfl ?_
              refine sK_i (pc' := 38) rfl ?_
              refine x_if (a' := 65) (pc' := 41) (z := false) rfl rfl rfl (by decide) (fun h => by cases h) (fun _ => ?_)
              refine x_aload_n (pc' := 42) rfl rfl rfl rfl rfl ?_
              refine x_gR (pc' := 45) (r := (some 0)) rfl rfl rfl (Eq.trans rdRthr (z_R_769_0 e)) ?_
              refine x_iload_n (pc' := 46) rfl rfl rfl ?_
              refine x_iald (pc' := 47) (N := 5) (x := 0) rfl rfl rfl (Eq.trans rdNthr (z_N_21_0 e)) (io_in (p := 2) (N := 5) (by decide) (by decide)) (Eq.trans (congrArg (sA (sThr t) 21 0) (nn_io (p := 2) (by decide))) (Eq.trans rdAthr (z_A_21_0_2 e))) ?_
              refine x_iconst (pc' := 48) rfl rfl ?_
              refine x_icmp (a' := 65) (pc' := 51) (z := true) rfl rfl rfl (by decide) (fun _ => ?_) (fun h => by cases h)
              refine x_iconst (pc' := 66) rfl rfl ?_
              refine x_istore (pc' := 68) (ls' := [_, _, _, _, _, _, _, _]) rfl rfl rfl rfl ?_
              refine x_aload_n (pc' := 69) rfl rfl rfl rfl rfl ?_
              refine x_aload_n (pc' := 70) rfl rfl rfl rfl rfl ?_
              refine x_iload_n (pc' := 71) rfl rfl rfl ?_
              refine x_iload_n (pc' := 72) rfl rfl rfl ?_
              refine x_iload (pc' := 74) rfl rfl rfl ?_
              refine x_iload (pc' := 76) rfl rfl rfl ?_
              refine x_cv (ls0 := [_, _, _, _, _, sJk]) (rest := [_]) rfl rfl rfl rfl rfl ?_
              refine x_iload_n (pc' := 1) rfl rfl rfl ?_
              refine x_cs (ls0 := [_]) (rest := []) rfl rfl rfl rfl ?_
              refine x_iload_n (pc' := 1) rfl rfl rfl ?_
              refine x_iconst (pc' := 2) rfl rfl ?_
              refine x_iconst (pc' := 3) rfl rfl ?_
              refine x_cs (ls0 := [_, _, _]) (rest := []) rfl rfl rfl rfl ?_
              refine x_iload_n (pc' := 1) rfl rfl rfl ?_
              refine x_iload_n (pc' := 2) rfl rfl rfl ?_
              refine x_icmp (a' := 14) (pc' := 5) (z := decide (m < 0)) rfl rfl rfl (ic_lt (p := m) (q := 0) (Nat.lt_trans hm (by decide)) (by decide)) (fun h => absurd (of_decide_eq_true h) (by first | decide | omega | simp)) (fun _ => ?_)
              refine x_iload_n (pc' := 6) rfl rfl rfl ?_
              refine x_iload_n (pc' := 7) rfl rfl rfl ?_
              refine x_icmp (a' := 14) (pc' := 10) (z := decide (5 < m)) rfl rfl rfl (ic_gt (p := m) (q := 5) (Nat.lt_trans hm (by decide)) (by decide)) (fun h => absurd (of_decide_eq_true h) (fun z => absurd hm (Nat.not_lt.mpr z))) (fun _ => ?_)
              refine x_iconst (pc' := 11) rfl rfl ?_
              refine x_goto (pc' := 15) rfl rfl ?_
              refine x_retz (z := true) rfl rfl ?_
              refine sK_i (pc' := 6) rfl ?_
              refine x_retz (z := true) rfl rfl ?_
              refine sK_i (pc' := 4) rfl ?_
              refine x_if (a' := 18) (pc' := 7) (z := false) rfl rfl rfl (by decide) (fun h => by cases h) (fun _ => ?_)
              refine x_iload_n (pc' := 8) rfl rfl rfl ?_
              refine x_cs (ls0 := [_]) (rest := []) rfl rfl rfl rfl ?_
              refine x_iload_n (pc' := 1) rfl rfl rfl ?_
              refine x_iconst (pc' := 2) rfl rfl ?_
              refine x_iconst (pc' := 3) rfl rfl ?_
              refine x_cs (ls0 := [_, _, _]) (rest := []) rfl rfl rfl rfl ?_
              refine x_iload_n (pc' := 1) rfl rfl rfl ?_
              refine x_iload_n (pc' := 2) rfl rfl rfl ?_
              refine x_icmp (a' := 14) (pc' := 5) (z := false) rfl rfl rfl (by decide) (fun h => by cases h) (fun _ => ?_)
              refine x_iload_n (pc' := 6) rfl rfl rfl ?_
              refine x_iload_n (pc' := 7) rfl rfl rfl ?_
              refine x_icmp (a' := 14) (pc' := 10) (z := false) rfl rfl rfl (by decide) (fun h => by cases h) (fun _ => ?_)
              refine x_iconst (pc' := 11) rfl rfl ?_
              refine x_goto (pc' := 15) rfl rfl ?_
              refine x_retz (z := true) rfl rfl ?_
              refine sK_i (pc' := 6) rfl ?_
              refine x_retz (z := true) rfl rfl ?_
              refine sK_i (pc' := 11) rfl ?_
              refine x_if (a' := 18) (pc' := 14) (z := false) rfl rfl rfl (by decide) (fun h => by cases h) (fun _ => ?_)
              refine x_iconst (pc' := 15) rfl rfl ?_
              refine x_goto (pc' := 19) rfl rfl ?_
              refine x_istore (pc' := 21) (ls' := [_, _, _, _, _, _]) rfl rfl rfl rfl ?_
              refine x_iload (pc' := 23) rfl rfl rfl ?_
              refine x_if (a' := 30) (pc' := 26) (z := true) rfl rfl rfl (by decide) (fun _ => ?_) (fun h => by cases h)
              refine x_iload_n (pc' := 31) rfl rfl rfl ?_
              refine x_if (a' := 38) (pc' := 34) (z := true) rfl rfl rfl (by decide) (fun _ => ?_) (fun h => by cases h)
              refine x_aload_n (pc' := 39) rfl rfl rfl rfl rfl ?_
              refine x_gR (pc' := 42) (r := (some 2)) rfl rfl rfl (Eq.trans rdRthr (z_R_781_0 e)) ?_
              refine x_iload_n (pc' := 43) rfl rfl rfl ?_
              refine x_bald (pc' := 44) (N := 6) (z := false) rfl rfl (Eq.trans rdNthr (z_N_22_2 e)) (io_in (p := m) (N := 6) hm (by decide)) (Eq.trans (congrArg (sB (sThr t) 22 2) (nn_io (p := m) (Nat.lt_trans hm (by decide)))) (Eq.trans rdBthr (z_B_22_2_y e _))) ?_
              refine x_if (a' := 52) (pc' := 47) (z := false) rfl rfl rfl (by decide) (fun h => by cases h) (fun _ => ?_)
              refine x_iload (pc' := 49) rfl rfl rfl ?_
              refine x_if (a' := 56) (pc' := 52) (z := false) rfl rfl rfl (by decide) (fun h => by cases h) (fun _ => ?_)
              refine x_iconst (pc' := 53) rfl rfl ?_
              refine x_goto (pc' := 57) rfl rfl ?_
              refine x_reti rfl rfl ?_
              refine sK_i (pc' := 79) rfl ?_
              refine x_cv (ls0 := [_, _]) (rest := []) rfl rfl rfl rfl rfl ?_
              refine x_aload_n (pc' := 1) rfl rfl rfl rfl rfl ?_
              refine x_iload_n (pc' := 2) rfl rfl rfl ?_
              refine x_pI (pc' := 5) rfl rfl rfl ?_
              refine x_iload_n (pc' := 6) rfl rfl rfl ?_
              refine x_if (a' := 13) (pc' := 9) (z := true) rfl rfl rfl (by decide) (fun _ => ?_) (fun h => by cases h)
              refine x_iconst (pc' := 14) rfl rfl ?_
              refine x_retz (z := false) rfl rfl ?_
              refine sK_i (pc' := 82) rfl ?_
              refine x_if (a' := 102) (pc' := 85) (z := true) rfl rfl rfl (by decide) (fun _ => ?_) (fun h => by cases h)
              refine x_iconst (pc' := 103) rfl rfl ?_
              refine x_reti rfl rfl ?_
              refine sK_i (pc' := 1104) rfl ?_
              refine x_istore (pc' := 1106) (ls' := [_, _, _, _, _, _, _]) rfl rfl rfl rfl ?_
              refine x_aload_n (pc' := 1107) rfl rfl rfl rfl rfl ?_
              refine x_cv (ls0 := [_]) (rest := []) rfl rfl rfl rfl rfl ?_
              refine x_aload_n (pc' := 1) rfl rfl rfl rfl rfl ?_
              refine x_gI (pc' := 4) (x := 3) rfl rfl rfl sI_s ?_
              refine x_reti rfl rfl ?_
              refine sK_i (pc' := 1110) rfl ?_
              refine x_iload (pc' := 1112) rfl rfl rfl ?_
              refine x_icmp (a' := 1117) (pc' := 1115) (z := true) rfl rfl rfl (by decide) (fun _ => ?_) (fun h => by cases h)
              refine x_iload (pc' := 1119) rfl rfl rfl ?_
              refine x_if (a' := 1134) (pc' := 1122) (z := true) rfl rfl rfl (by decide) (fun _ => ?_) (fun h => by cases h)
              refine x_goto (pc' := 2938) rfl rfl ?_
              refine x_iinc (pc' := 2941) (y := 7) (ls' := [_, _, _, _, _, _, _]) rfl rfl rfl rfl rfl ?_
              refine x_goto (pc' := 23) rfl rfl ?_
              refine x_iload (pc' := 25) rfl rfl rfl ?_
              refine x_aload_n (pc' := 26) rfl rfl rfl rfl rfl ?_
              refine x_alen (pc' := 27) (N := 7) rfl rfl rfl (Eq.trans rdNI (Eq.trans rdNthr (z_N_29_0 e))) (?_ : X _ _ _ (.inl 7 :: _) _ _)
              refine x_bipush (pc' := 29) rfl rfl ?_
              refine x_isub (pc' := 30) (z := 0) rfl rfl (by decide) ?_
              refine x_icmp (a' := 2944) (pc' := 33) (z := true) rfl rfl rfl (by decide) (fun _ => ?_) (fun h => by cases h)
              refine x_iconst (pc' := 2945) rfl rfl ?_
              refine x_retz (z := true) rfl rfl ?_
              exact Qp_ok e (p := 1) (q := 6) rfl rfl rfl rfl
            refine x_if (a' := 1088) (pc' := 1084) (z := decide ((xs 3) = 0)) rfl rfl rfl rfl (fun q70 => ?_) (fun q70 => ?_)
            · refine x_iconst (pc' := 1089) rfl rfl ?_
              ((try rw [q70] at J70); (try rw [q70]); (try simp only [cd_t, cd_f, nt_t, nt_f, an_t, an_f, or_t, or_f] at J70); (try simp only [cd_t, cd_f, nt_t, nt_f, an_t, an_f, or_t, or_f]); exact J70)
            · refine x_iconst (pc' := 1085) rfl rfl ?_
              refine x_goto (pc' := 1089) rfl rfl ?_
              ((try rw [q70] at J70); (try rw [q70]); (try simp only [cd_t, cd_f, nt_t, nt_f, an_t, an_f, or_t, or_f] at J70); (try simp only [cd_t, cd_f, nt_t, nt_f, an_t, an_f, or_t, or_f]); exact J70)
          · refine x_throw rfl rfl ?_
            refine sK_n (by decide +kernel) rfl ?_
            refine sK_h (h := 23) (by decide +kernel) rfl ?_
            refine x_catch (pc' := 25) (ls' := [_, _, _, _, _, _, _, _]) rfl rfl rfl rfl ?_
            refine x_iconst (pc' := 26) rfl rfl ?_
            refine x_reti rfl rfl ?_
            refine sK_i (pc' := 1060) rfl ?_
            refine x_istore (pc' := 1062) (ls' := [_, _, _, _, _, _, _]) rfl rfl rfl rfl ?_
            refine x_aload_n (pc' := 1063) rfl rfl rfl rfl rfl ?_
            refine x_aload_n (pc' := 1064) rfl rfl rfl rfl rfl ?_
            refine x_iload (pc' := 1066) rfl rfl rfl ?_
            refine x_iconst (pc' := 1067) rfl rfl ?_
            refine x_iadd (pc' := 1068) (z := 1) rfl rfl (by decide) ?_
            refine x_iald (pc' := 1069) (N := 7) (x := (io m)) rfl rfl rfl (Eq.trans rdNthr (z_N_29_0 e)) (io_in (p := 1) (N := 7) (by decide) (by decide)) (Eq.trans (congrArg (sA (sThr t) 29 0) (nn_io (p := 1) (by decide))) (Eq.trans rdAthr (Eq.trans (z_A_29_0_1 e) e0))) ?_
            refine x_aload_n (pc' := 1070) rfl rfl rfl rfl rfl ?_
            refine x_iload (pc' := 1072) rfl rfl rfl ?_
            refine x_iconst (pc' := 1073) rfl rfl ?_
            refine x_iadd (pc' := 1074) (z := 2) rfl rfl (by decide) ?_
            refine x_iald (pc' := 1075) (N := 7) (x := 2) rfl rfl rfl (Eq.trans rdNthr (z_N_29_0 e)) (io_in (p := 2) (N := 7) (by decide) (by decide)) (Eq.trans (congrArg (sA (sThr t) 29 0) (nn_io (p := 2) (by decide))) (Eq.trans rdAthr (Eq.trans (z_A_29_0_2 e) e1))) ?_
            refine x_aload_n (pc' := 1076) rfl rfl rfl rfl rfl ?_
            refine x_iload (pc' := 1078) rfl rfl rfl ?_
            refine x_iconst (pc' := 1079) rfl rfl ?_
            refine x_iadd (pc' := 1080) (z := 3) rfl rfl (by decide) ?_
            refine x_iald (pc' := 1081) (N := 7) (x := (xs 3)) rfl rfl rfl (Eq.trans rdNthr (z_N_29_0 e)) (io_in (p := 3) (N := 7) (by decide) (by decide)) (Eq.trans (congrArg (sA (sThr t) 29 0) (nn_io (p := 3) (by decide))) (Eq.trans rdAthr (z_A_29_0_3 e))) ?_
            have J101 : X 297 1089 [.inr (.inr (29, (some 0))), .inr (.inr (11, (some 0))), .inr (.inr (12, (some 0))), .inr (.inr (23, (some 0))), .inl 0, .inl 2, sJk] [.inl (bz (!(decide ((xs 3) = 0)))), .inl 2, .inl (io m), .inr (.inr (12, (some 0)))] (sThr t) Qp := by
              refine x_aload_n (pc' := 1090) rfl rfl rfl rfl rfl ?_
              refine x_iload (pc' := 1092) rfl rfl rfl ?_
              refine x_iconst (pc' := 1093) rfl rfl ?_
              refine x_iadd (pc' := 1094) (z := 4) rfl rfl (by decide) ?_
              refine x_iald (pc' := 1095) (N := 7) (x := (xs 4)) rfl rfl rfl (Eq.trans rdNthr (z_N_29_0 e)) (io_in (p := 4) (N := 7) (by decide) (by decide)) (Eq.trans (congrArg (sA (sThr t) 29 0) (nn_io (p := 4) (by decide))) (Eq.trans rdAthr (z_A_29_0_4 e))) ?_
              refine x_aload_n (pc' := 1096) rfl rfl rfl rfl rfl ?_
              refine x_iload (pc' := 1098) rfl rfl rfl ?_
              refine x_iconst (pc' := 1099) rfl rfl ?_
              refine x_iadd (pc' := 1100) (z := 5) rfl rfl (by decide) ?_
              refine x_iald (pc' := 1101) (N := 7) (x := (xs 5)) rfl rfl rfl (Eq.trans rdNthr (z_N_29_0 e)) (io_in (p := 5) (N := 7) (by decide) (by decide)) (Eq.trans (congrArg (sA (sThr t) 29 0) (nn_io (p := 5) (by decide))) (Eq.trans rdAthr (z_A_29_0_5 e))) ?_
              refine x_cv (ls0 := [_, _, _, _, _, _, sJk, sJk]) (rest := []) rfl rfl rfl rfl rfl ?_
              refine x_iload_n (pc' := 1) rfl rfl rfl ?_
              refine x_cs (ls0 := [_]) (rest := []) rfl rfl rfl rfl ?_
              refine x_iload_n (pc' := 1) rfl rfl rfl ?_
              refine x_iconst (pc' := 2) rfl rfl ?_
              refine x_iconst (pc' := 3) rfl rfl ?_
              refine x_cs (ls0 := [_, _, _]) (rest := []) rfl rfl rfl rfl ?_
              refine x_iload_n (pc' := 1) rfl rfl rfl ?_
              refine x_iload_n (pc' := 2) rfl rfl rfl ?_
              refine x_icmp (a' := 14) (pc' := 5) (z := false) rfl rfl rfl (by decide) (fun h => by cases h) (fun _ => ?_)
              refine x_iload_n (pc' := 6) rfl rfl rfl ?_
              refine x_iload_n (pc' := 7) rfl rfl rfl ?_
              refine x_icmp (a' := 14) (pc' := 10) (z := false) rfl rfl rfl (by decide) (fun h => by cases h) (fun _ => ?_)
              refine x_iconst (pc' := 11) rfl rfl ?_
              refine x_goto (pc' := 15) rfl rfl ?_
              refine x_retz (z := true) rfl rfl ?_
              refine sK_i (pc' := 6) rfl ?_
              refine x_retz (z := true) rfl rfl ?_
              refine sK_i (pc' := 4) rfl ?_
              refine x_if (a' := 31) (pc' := 7) (z := false) rfl rfl rfl (by decide) (fun h => by cases h) (fun _ => ?_)
              refine x_iload_n (pc' := 8) rfl rfl rfl ?_
              refine x_iload (pc' := 10) rfl rfl rfl ?_
              refine x_cs (ls0 := [_, _]) (rest := []) rfl rfl rfl rfl ?_
              refine x_iload_n (pc' := 1) rfl rfl rfl ?_
              refine x_iconst (pc' := 2) rfl rfl ?_
              refine x_icmp (a' := 16) (pc' := 5) (z := false) rfl rfl rfl (by decide) (fun h => by cases h) (fun _ => ?_)
              refine x_iload_n (pc' := 6) rfl rfl rfl ?_
              refine x_iconst (pc' := 7) rfl rfl ?_
              refine x_sipush (pc' := 10) rfl rfl ?_
              refine x_cs (ls0 := [_, _, _]) (rest := []) rfl rfl rfl rfl ?_
              refine x_iload_n (pc' := 1) rfl rfl rfl ?_
              refine x_iload_n (pc' := 2) rfl rfl rfl ?_
              refine x_icmp (a' := 14) (pc' := 5) (z := decide ((xs 4) < 1)) rfl rfl rfl rfl (fun h => absurd (of_decide_eq_true h) (of_decide_eq_false q11)) (fun _ => ?_)
              refine x_iload_n (pc' := 6) rfl rfl rfl ?_
              refine x_iload_n (pc' := 7) rfl rfl rfl ?_
              refine x_icmp (a' := 14) (pc' := 10) (z := decide (999 < (xs 4))) rfl rfl rfl rfl (fun h => absurd (of_decide_eq_true h) (of_decide_eq_false q37)) (fun _ => ?_)
              refine x_iconst (pc' := 11) rfl rfl ?_
              refine x_goto (pc' := 15) rfl rfl ?_
              refine x_retz (z := true) rfl rfl ?_
              refine sK_i (pc' := 13) rfl ?_
              refine x_goto (pc' := 26) rfl rfl ?_
              refine x_retz (z := true) rfl rfl ?_
              refine sK_i (pc' := 13) rfl ?_
              refine x_if (a' := 31) (pc' := 16) (z := false) rfl rfl rfl (by decide) (fun h => by cases h) (fun _ => ?_)
              refine x_iload (pc' := 18) rfl rfl rfl ?_
              refine x_iconst (pc' := 19) rfl rfl ?_
              refine x_bipush (pc' := 21) rfl rfl ?_
              refine x_cs (ls0 := [_, _, _]) (rest := []) rfl rfl rfl rfl ?_
              refine x_iload_n (pc' := 1) rfl rfl rfl ?_
              refine x_iload_n (pc' := 2) rfl rfl rfl ?_
              refine x_icmp (a' := 14) (pc' := 5) (z := decide ((xs 5) < 1)) rfl rfl rfl rfl (fun h => absurd (of_decide_eq_true h) (of_decide_eq_false q38)) (fun _ => ?_)
              refine x_iload_n (pc' := 6) rfl rfl rfl ?_
              refine x_iload_n (pc' := 7) rfl rfl rfl ?_
              refine x_icmp (a' := 14) (pc' := 10) (z := decide (100 < (xs 5))) rfl rfl rfl rfl (fun _ => ?_) (fun h => absurd (of_decide_eq_true q67) (of_decide_eq_false h))
              refine x_iconst (pc' := 15) rfl rfl ?_
              refine x_retz (z := false) rfl rfl ?_
              refine sK_i (pc' := 24) rfl ?_
              refine x_if (a' := 31) (pc' := 27) (z := true) rfl rfl rfl (by decide) (fun _ => ?_) (fun h => by cases h)
              refine x_iconst (pc' := 32) rfl rfl ?_
              refine x_istore (pc' := 34) (ls' := [_, _, _, _, _, _, _, _]) rfl rfl rfl rfl ?_
              refine x_iload_n (pc' := 35) rfl rfl rfl ?_
              refine x_cs (ls0 := [_]) (rest := []) rfl rfl rfl rfl ?_
              refine x_iload_n (pc' := 1) rfl rfl rfl ?_
              refine x_iconst (pc' := 2) rfl rfl ?_
              refine x_iconst (pc' := 3) rfl rfl ?_
              refine x_cs (ls0 := [_, _, _]) (rest := []) rfl rfl rfl rfl ?_
              refine x_iload_n (pc' := 1) rfl rfl rfl ?_
              refine x_iload_n (pc' := 2) rfl rfl rfl ?_
              refine x_icmp (a' := 14) (pc' := 5) (z := false) rfl rfl rfl (by decide) (fun h => by cases h) (fun _ => ?_)
              refine x_iload_n (pc' := 6) rfl rfl rfl ?_
              refine x_iload_n (pc' := 7) rfl rfl rfl ?_
              refine x_icmp (a' := 14) (pc' := 10) (z := false) rfl rfl rfl (by decide) (fun h => by cases h) (fun _ => ?_)
              refine x_iconst (pc' := 11) rfl rfl ?_
              refine x_goto (pc' := 15) rfl rfl ?_
              refine x_retz (z := true) rfl rfl ?_
              refine sK_i (pc' := 6) rfl ?_
              refine x_retz (z := true) rfl rfl ?_
              refine sK_i (pc' := 38) rfl ?_
              refine x_if (a' := 65) (pc' := 41) (z := false) rfl rfl rfl (by decide) (fun h => by cases h) (fun _ => ?_)
              refine x_aload_n (pc' := 42) rfl rfl rfl rfl rfl ?_
              refine x_gR (pc' := 45) (r := (some 0)) rfl rfl rfl (Eq.trans rdRthr (z_R_769_0 e)) ?_
              refine x_iload_n (pc' := 46) rfl rfl rfl ?_
              refine x_iald (pc' := 47) (N := 5) (x := 0) rfl rfl rfl (Eq.trans rdNthr (z_N_21_0 e)) (io_in (p := 2) (N := 5) (by decide) (by decide)) (Eq.trans (congrArg (sA (sThr t) 21 0) (nn_io (p := 2) (by decide))) (Eq.trans rdAthr (z_A_21_0_2 e))) ?_
              refine x_iconst (pc' := 48) rfl rfl ?_
              refine x_icmp (a' := 65) (pc' := 51) (z := true) rfl rfl rfl (by decide) (fun _ => ?_) (fun h => by cases h)
              refine x_iconst (pc' := 66) rfl rfl ?_
              refine x_istore (pc' := 68) (ls' := [_, _, _, _, _, _, _, _]) rfl rfl rfl rfl ?_
              refine x_aload_n (pc' := 69) rfl rfl rfl rfl rfl ?_
              refine x_aload_n (pc' := 70) rfl rfl rfl rfl rfl ?_
              refine x_iload_n (pc' := 71) rfl rfl rfl ?_
              refine x_iload_n (pc' := 72) rfl rfl rfl ?_
              refine x_iload (pc' := 74) rfl rfl rfl ?_
              refine x_iload (pc' := 76) rfl rfl rfl ?_
              refine x_cv (ls0 := [_, _, _, _, _, sJk]) (rest := [_]) rfl rfl rfl rfl rfl ?_
              refine x_iload_n (pc' := 1) rfl rfl rfl ?_
              refine x_cs (ls0 := [_]) (rest := []) rfl rfl rfl rfl ?_
              refine x_iload_n (pc' := 1) rfl rfl rfl ?_
              refine x_iconst (pc' := 2) rfl rfl ?_
              refine x_iconst (pc' := 3) rfl rfl ?_
              refine x_cs (ls0 := [_, _, _]) (rest := []) rfl rfl rfl rfl ?_
              refine x_iload_n (pc' := 1) rfl rfl rfl ?_
              refine x_iload_n (pc' := 2) rfl rfl rfl ?_
              refine x_icmp (a' := 14) (pc' := 5) (z := decide (m < 0)) rfl rfl rfl (ic_lt (p := m) (q := 0) (Nat.lt_trans hm (by decide)) (by decide)) (fun h => absurd (of_decide_eq_true h) (by first | decide | omega | simp)) (fun _ => ?_)
              refine x_iload_n (pc' := 6) rfl rfl rfl ?_
              refine x_iload_n (pc' := 7) rfl rfl rfl ?_
              refine x_icmp (a' := 14) (pc' := 10) (z := decide (5 < m)) rfl rfl rfl (ic_gt (p := m) (q := 5) (Nat.lt_trans hm (by decide)) (by decide)) (fun h => absurd (of_decide_eq_true h) (fun z => absurd hm (Nat.not_lt.mpr z))) (fun _ => ?_)
              refine x_iconst (pc' := 11) rfl rfl ?_
              refine x_goto (pc' := 15) rfl rfl ?_
              refine x_retz (z := true) rfl rfl ?_
              refine sK_i (pc' := 6) rfl ?_
              refine x_retz (z := true) rfl rfl ?_
              refine sK_i (pc' := 4) rfl ?_
              refine x_if (a' := 18) (pc' := 7) (z := false) rfl rfl rfl (by decide) (fun h => by cases h) (fun _ => ?_)
              refine x_iload_n (pc' := 8) rfl rfl rfl ?_
              refine x_cs (ls0 := [_]) (rest := []) rfl rfl rfl rfl ?_
              refine x_iload_n (pc' := 1) rfl rfl rfl ?_
              refine x_iconst (pc' := 2) rfl rfl ?_
              refine x_iconst (pc' := 3) rfl rfl ?_
              refine x_cs (ls0 := [_, _, _]) (rest := []) rfl rfl rfl rfl ?_
              refine x_iload_n (pc' := 1) rfl rfl rfl ?_
              refine x_iload_n (pc' := 2) rfl rfl rfl ?_
              refine x_icmp (a' := 14) (pc' := 5) (z := false) rfl rfl rfl (by decide) (fun h => by cases h) (fun _ => ?_)
              refine x_iload_n (pc' := 6) rfl rfl rfl ?_
              refine x_iload_n (pc' := 7) rfl rfl rfl ?_
              refine x_icmp (a' := 14) (pc' := 10) (z := false) rfl rfl rfl (by decide) (fun h => by cases h) (fun _ => ?_)
              refine x_iconst (pc' := 11) rfl rfl ?_
              refine x_goto (pc' := 15) rfl rfl ?_
              refine x_retz (z := true) rfl rfl ?_
              refine sK_i (pc' := 6) rfl ?_
              refine x_retz (z := true) rfl rfl ?_
              refine sK_i (pc' := 11) rfl ?_
              refine x_if (a' := 18) (pc' := 14) (z := false) rfl rfl rfl (by decide) (fun h => by cases h) (fun _ => ?_)
              refine x_iconst (pc' := 15) rfl rfl ?_
              refine x_goto (pc' := 19) rfl rfl ?_
              refine x_istore (pc' := 21) (ls' := [_, _, _, _, _, _]) rfl rfl rfl rfl ?_
              refine x_iload (pc' := 23) rfl rfl rfl ?_
              refine x_if (a' := 30) (pc' := 26) (z := true) rfl rfl rfl (by decide) (fun _ => ?_) (fun h => by cases h)
              refine x_iload_n (pc' := 31) rfl rfl rfl ?_
              refine x_if (a' := 38) (pc' := 34) (z := false) rfl rfl rfl (by decide) (fun h => by cases h) (fun _ => ?_)
              refine x_iconst (pc' := 35) rfl rfl ?_
              refine x_goto (pc' := 57) rfl rfl ?_
              refine x_reti rfl rfl ?_
              refine sK_i (pc' := 79) rfl ?_
              refine x_cv (ls0 := [_, _]) (rest := []) rfl rfl rfl rfl rfl ?_
              refine x_aload_n (pc' := 1) rfl rfl rfl rfl rfl ?_
              refine x_iload_n (pc' := 2) rfl rfl rfl ?_
              refine x_pI (pc' := 5) rfl rfl rfl ?_
              refine x_iload_n (pc' := 6) rfl rfl rfl ?_
              refine x_if (a' := 13) (pc' := 9) (z := true) rfl rfl rfl (by decide) (fun _ => ?_) (fun h => by cases h)
              refine x_iconst (pc' := 14) rfl rfl ?_
              refine x_retz (z := false) rfl rfl ?_
              refine sK_i (pc' := 82) rfl ?_
              refine x_if (a' := 102) (pc' := 85) (z := true) rfl rfl rfl (by decide) (fun _ => ?_) (fun h => by cases h)
              refine x_iconst (pc' := 103) rfl rfl ?_
              refine x_reti rfl rfl ?_
              refine sK_i (pc' := 1104) rfl ?_
              refine x_istore (pc' := 1106) (ls' := [_, _, _, _, _, _, _]) rfl rfl rfl rfl ?_
              refine x_aload_n (pc' := 1107) rfl rfl rfl rfl rfl ?_
              refine x_cv (ls0 := [_]) (rest := []) rfl rfl rfl rfl rfl ?_
              refine x_aload_n (pc' := 1) rfl rfl rfl rfl rfl ?_
              refine x_gI (pc' := 4) (x := 2) rfl rfl rfl sI_s ?_
              refine x_reti rfl rfl ?_
              refine sK_i (pc' := 1110) rfl ?_
              refine x_iload (pc' := 1112) rfl rfl rfl ?_
              refine x_icmp (a' := 1117) (pc' := 1115) (z := true) rfl rfl rfl (by decide) (fun _ => ?_) (fun h => by cases h)
              refine x_iload (pc' := 1119) rfl rfl rfl ?_
              refine x_if (a' := 1134) (pc' := 1122) (z := true) rfl rfl rfl (by decide) (fun _ => ?_) (fun h => by cases h)
              refine x_goto (pc' := 2938) rfl rfl ?_
              refine x_iinc (pc' := 2941) (y := 7) (ls' := [_, _, _, _, _, _, _]) rfl rfl rfl rfl rfl ?_
              refine x_goto (pc' := 23) rfl rfl ?_
              refine x_iload (pc' := 25) rfl rfl rfl ?_
              refine x_aload_n (pc' := 26) rfl rfl rfl rfl rfl ?_
              refine x_alen (pc' := 27) (N := 7) rfl rfl rfl (Eq.trans rdNI (Eq.trans rdNthr (z_N_29_0 e))) (?_ : X _ _ _ (.inl 7 :: _) _ _)
              refine x_bipush (pc' := 29) rfl rfl ?_
              refine x_isub (pc' := 30) (z := 0) rfl rfl (by decide) ?_
              refine x_icmp (a' := 2944) (pc' := 33) (z := true) rfl rfl rfl (by decide) (fun _ => ?_) (fun h => by cases h)
              refine x_iconst (pc' := 2945) rfl rfl ?_
              refine x_retz (z := true) rfl rfl ?_
              exact Qp_ok e (p := 1) (q := 6) rfl rfl rfl rfl
            refine x_if (a' := 1088) (pc' := 1084) (z := decide ((xs 3) = 0)) rfl rfl rfl rfl (fun q101 => ?_) (fun q101 => ?_)
            · refine x_iconst (pc' := 1089) rfl rfl ?_
              ((try rw [q101] at J101); (try rw [q101]); (try simp only [cd_t, cd_f, nt_t, nt_f, an_t, an_f, or_t, or_f] at J101); (try simp only [cd_t, cd_f, nt_t, nt_f, an_t, an_f, or_t, or_f]); exact J101)
            · refine x_iconst (pc' := 1085) rfl rfl ?_
              refine x_goto (pc' := 1089) rfl rfl ?_
              ((try rw [q101] at J101); (try rw [q101]); (try simp only [cd_t, cd_f, nt_t, nt_f, an_t, an_f, or_t, or_f] at J101); (try simp only [cd_t, cd_f, nt_t, nt_f, an_t, an_f, or_t, or_f]); exact J101)
      · refine x_throw rfl rfl ?_
        refine sK_n (by decide +kernel) rfl ?_
        refine sK_n (by decide +kernel) rfl ?_
        refine sK_h (h := 23) (by decide +kernel) rfl ?_
        refine x_catch (pc' := 25) (ls' := [_, _, _, _, _, _, _, _]) rfl rfl rfl rfl ?_
        refine x_iconst (pc' := 26) rfl rfl ?_
        refine x_reti rfl rfl ?_
        refine sK_i (pc' := 1060) rfl ?_
        refine x_istore (pc' := 1062) (ls' := [_, _, _, _, _, _, _]) rfl rfl rfl rfl ?_
        refine x_aload_n (pc' := 1063) rfl rfl rfl rfl rfl ?_
        refine x_aload_n (pc' := 1064) rfl rfl rfl rfl rfl ?_
        refine x_iload (pc' := 1066) rfl rfl rfl ?_
        refine x_iconst (pc' := 1067) rfl rfl ?_
        refine x_iadd (pc' := 1068) (z := 1) rfl rfl (by decide) ?_
        refine x_iald (pc' := 1069) (N := 7) (x := (io m)) rfl rfl rfl (Eq.trans rdNthr (z_N_29_0 e)) (io_in (p := 1) (N := 7) (by decide) (by decide)) (Eq.trans (congrArg (sA (sThr t) 29 0) (nn_io (p := 1) (by decide))) (Eq.trans rdAthr (Eq.trans (z_A_29_0_1 e) e0))) ?_
        refine x_aload_n (pc' := 1070) rfl rfl rfl rfl rfl ?_
        refine x_iload (pc' := 1072) rfl rfl rfl ?_
        refine x_iconst (pc' := 1073) rfl rfl ?_
        refine x_iadd (pc' := 1074) (z := 2) rfl rfl (by decide) ?_
        refine x_iald (pc' := 1075) (N := 7) (x := 2) rfl rfl rfl (Eq.trans rdNthr (z_N_29_0 e)) (io_in (p := 2) (N := 7) (by decide) (by decide)) (Eq.trans (congrArg (sA (sThr t) 29 0) (nn_io (p := 2) (by decide))) (Eq.trans rdAthr (Eq.trans (z_A_29_0_2 e) e1))) ?_
        refine x_aload_n (pc' := 1076) rfl rfl rfl rfl rfl ?_
        refine x_iload (pc' := 1078) rfl rfl rfl ?_
        refine x_iconst (pc' := 1079) rfl rfl ?_
        refine x_iadd (pc' := 1080) (z := 3) rfl rfl (by decide) ?_
        refine x_iald (pc' := 1081) (N := 7) (x := (xs 3)) rfl rfl rfl (Eq.trans rdNthr (z_N_29_0 e)) (io_in (p := 3) (N := 7) (by decide) (by decide)) (Eq.trans (congrArg (sA (sThr t) 29 0) (nn_io (p := 3) (by decide))) (Eq.trans rdAthr (z_A_29_0_3 e))) ?_
        have J130 : X 297 1089 [.inr (.inr (29, (some 0))), .inr (.inr (11, (some 0))), .inr (.inr (12, (some 0))), .inr (.inr (23, (some 0))), .inl 0, .inl 2, sJk] [.inl (bz (!(decide ((xs 3) = 0)))), .inl 2, .inl (io m), .inr (.inr (12, (some 0)))] (sThr t) Qp := by
          refine x_aload_n (pc' := 1090) rfl rfl rfl rfl rfl ?_
          refine x_iload (pc' := 1092) rfl rfl rfl ?_
          refine x_iconst (pc' := 1093) rfl rfl ?_
          refine x_iadd (pc' := 1094) (z := 4) rfl rfl (by decide) ?_
          refine x_iald (pc' := 1095) (N := 7) (x := (xs 4)) rfl rfl rfl (Eq.trans rdNthr (z_N_29_0 e)) (io_in (p := 4) (N := 7) (by decide) (by decide)) (Eq.trans (congrArg (sA (sThr t) 29 0) (nn_io (p := 4) (by decide))) (Eq.trans rdAthr (z_A_29_0_4 e))) ?_
          refine x_aload_n (pc' := 1096) rfl rfl rfl rfl rfl ?_
          refine x_iload (pc' := 1098) rfl rfl rfl ?_
          refine x_iconst (pc' := 1099) rfl rfl ?_
          refine x_iadd (pc' := 1100) (z := 5) rfl rfl (by decide) ?_
          refine x_iald (pc' := 1101) (N := 7) (x := (xs 5)) rfl rfl rfl (Eq.trans rdNthr (z_N_29_0 e)) (io_in (p := 5) (N := 7) (by decide) (by decide)) (Eq.trans (congrArg (sA (sThr t) 29 0) (nn_io (p := 5) (by decide))) (Eq.trans rdAthr (z_A_29_0_5 e))) ?_
          refine x_cv (ls0 := [_, _, _, _, _, _, sJk, sJk]) (rest := []) rfl rfl rfl rfl rfl ?_
          refine x_iload_n (pc' := 1) rfl rfl rfl ?_
          refine x_cs (ls0 := [_]) (rest := []) rfl rfl rfl rfl ?_
          refine x_iload_n (pc' := 1) rfl rfl rfl ?_
          refine x_iconst (pc' := 2) rfl rfl ?_
          refine x_iconst (pc' := 3) rfl rfl ?_
          refine x_cs (ls0 := [_, _, _]) (rest := []) rfl rfl rfl rfl ?_
          refine x_iload_n (pc' := 1) rfl rfl rfl ?_
          refine x_iload_n (pc' := 2) rfl rfl rfl ?_
          refine x_icmp (a' := 14) (pc' := 5) (z := false) rfl rfl rfl (by decide) (fun h => by cases h) (fun _ => ?_)
          refine x_iload_n (pc' := 6) rfl rfl rfl ?_
          refine x_iload_n (pc' := 7) rfl rfl rfl ?_
          refine x_icmp (a' := 14) (pc' := 10) (z := false) rfl rfl rfl (by decide) (fun h => by cases h) (fun _ => ?_)
          refine x_iconst (pc' := 11) rfl rfl ?_
          refine x_goto (pc' := 15) rfl rfl ?_
          refine x_retz (z := true) rfl rfl ?_
          refine sK_i (pc' := 6) rfl ?_
          refine x_retz (z := true) rfl rfl ?_
          refine sK_i (pc' := 4) rfl ?_
          refine x_if (a' := 31) (pc' := 7) (z := false) rfl rfl rfl (by decide) (fun h => by cases h) (fun _ => ?_)
          refine x_iload_n (pc' := 8) rfl rfl rfl ?_
          refine x_iload (pc' := 10) rfl rfl rfl ?_
          refine x_cs (ls0 := [_, _]) (rest := []) rfl rfl rfl rfl ?_
          refine x_iload_n (pc' := 1) rfl rfl rfl ?_
          refine x_iconst (pc' := 2) rfl rfl ?_
          refine x_icmp (a' := 16) (pc' := 5) (z := false) rfl rfl rfl (by decide) (fun h => by cases h) (fun _ => ?_)
          refine x_iload_n (pc' := 6) rfl rfl rfl ?_
          refine x_iconst (pc' := 7) rfl rfl ?_
          refine x_sipush (pc' := 10) rfl rfl ?_
          refine x_cs (ls0 := [_, _, _]) (rest := []) rfl rfl rfl rfl ?_
          refine x_iload_n (pc' := 1) rfl rfl rfl ?_
          refine x_iload_n (pc' := 2) rfl rfl rfl ?_
          refine x_icmp (a' := 14) (pc' := 5) (z := decide ((xs 4) < 1)) rfl rfl rfl rfl (fun h => absurd (of_decide_eq_true h) (of_decide_eq_false q11)) (fun _ => ?_)
          refine x_iload_n (pc' := 6) rfl rfl rfl ?_
          refine x_iload_n (pc' := 7) rfl rfl rfl ?_
          refine x_icmp (a' := 14) (pc' := 10) (z := decide (999 < (xs 4))) rfl rfl rfl rfl (fun _ => ?_) (fun h => absurd (of_decide_eq_true q37) (of_decide_eq_false h))
          refine x_iconst (pc' := 15) rfl rfl ?_
          refine x_retz (z := false) rfl rfl ?_
          refine sK_i (pc' := 13) rfl ?_
          refine x_goto (pc' := 26) rfl rfl ?_
          refine x_retz (z := false) rfl rfl ?_
          refine sK_i (pc' := 13) rfl ?_
          refine x_if (a' := 31) (pc' := 16) (z := true) rfl rfl rfl (by decide) (fun _ => ?_) (fun h => by cases h)
          refine x_iconst (pc' := 32) rfl rfl ?_
          refine x_istore (pc' := 34) (ls' := [_, _, _, _, _, _, _, _]) rfl rfl rfl rfl ?_
          refine x_iload_n (pc' := 35) rfl rfl rfl ?_
          refine x_cs (ls0 := [_]) (rest := []) rfl rfl rfl rfl ?_
          refine x_iload_n (pc' := 1) rfl rfl rfl ?_
          refine x_iconst (pc' := 2) rfl rfl ?_
          refine x_iconst (pc' := 3) rfl rfl ?_
          refine x_cs (ls0 := [_, _, _]) (rest := []) rfl rfl rfl rfl ?_
          refine x_iload_n (pc' := 1) rfl rfl rfl ?_
          refine x_iload_n (pc' := 2) rfl rfl rfl ?_
          refine x_icmp (a' := 14) (pc' := 5) (z := false) rfl rfl rfl (by decide) (fun h => by cases h) (fun _ => ?_)
          refine x_iload_n (pc' := 6) rfl rfl rfl ?_
          refine x_iload_n (pc' := 7) rfl rfl rfl ?_
          refine x_icmp (a' := 14) (pc' := 10) (z := false) rfl rfl rfl (by decide) (fun h => by cases h) (fun _ => ?_)
          refine x_iconst (pc' := 11) rfl rfl ?_
          refine x_goto (pc' := 15) rfl rfl ?_
          refine x_retz (z := true) rfl rfl ?_
          refine sK_i (pc' := 6) rfl ?_
          refine x_retz (z := true) rfl rfl ?_
          refine sK_i (pc' := 38) rfl ?_
          refine x_if (a' := 65) (pc' := 41) (z := false) rfl rfl rfl (by decide) (fun h => by cases h) (fun _ => ?_)
          refine x_aload_n (pc' := 42) rfl rfl rfl rfl rfl ?_
          refine x_gR (pc' := 45) (r := (some 0)) rfl rfl rfl (Eq.trans rdRthr (z_R_769_0 e)) ?_
          refine x_iload_n (pc' := 46) rfl rfl rfl ?_
          refine x_iald (pc' := 47) (N := 5) (x := 0) rfl rfl rfl (Eq.trans rdNthr (z_N_21_0 e)) (io_in (p := 2) (N := 5) (by decide) (by decide)) (Eq.trans (congrArg (sA (sThr t) 21 0) (nn_io (p := 2) (by decide))) (Eq.trans rdAthr (z_A_21_0_2 e))) ?_
          refine x_iconst (pc' := 48) rfl rfl ?_
          refine x_icmp (a' := 65) (pc' := 51) (z := true) rfl rfl rfl (by decide) (fun _ => ?_) (fun h => by cases h)
          refine x_iconst (pc' := 66) rfl rfl ?_
          refine x_istore (pc' := 68) (ls' := [_, _, _, _, _, _, _, _]) rfl rfl rfl rfl ?_
          refine x_aload_n (pc' := 69) rfl rfl rfl rfl rfl ?_
          refine x_aload_n (pc' := 70) rfl rfl rfl rfl rfl ?_
          refine x_iload_n (pc' := 71) rfl rfl rfl ?_
          refine x_iload_n (pc' := 72) rfl rfl rfl ?_
          refine x_iload (pc' := 74) rfl rfl rfl ?_
          refine x_iload (pc' := 76) rfl rfl rfl ?_
          refine x_cv (ls0 := [_, _, _, _, _, sJk]) (rest := [_]) rfl rfl rfl rfl rfl ?_
          refine x_iload_n (pc' := 1) rfl rfl rfl ?_
          refine x_cs (ls0 := [_]) (rest := []) rfl rfl rfl rfl ?_
          refine x_iload_n (pc' := 1) rfl rfl rfl ?_
          refine x_iconst (pc' := 2) rfl rfl ?_
          refine x_iconst (pc' := 3) rfl rfl ?_
          refine x_cs (ls0 := [_, _, _]) (rest := []) rfl rfl rfl rfl ?_
          refine x_iload_n (pc' := 1) rfl rfl rfl ?_
          refine x_iload_n (pc' := 2) rfl rfl rfl ?_
          refine x_icmp (a' := 14) (pc' := 5) (z := decide (m < 0)) rfl rfl rfl (ic_lt (p := m) (q := 0) (Nat.lt_trans hm (by decide)) (by decide)) (fun h => absurd (of_decide_eq_true h) (by first | decide | omega | simp)) (fun _ => ?_)
          refine x_iload_n (pc' := 6) rfl rfl rfl ?_
          refine x_iload_n (pc' := 7) rfl rfl rfl ?_
          refine x_icmp (a' := 14) (pc' := 10) (z := decide (5 < m)) rfl rfl rfl (ic_gt (p := m) (q := 5) (Nat.lt_trans hm (by decide)) (by decide)) (fun h => absurd (of_decide_eq_true h) (fun z => absurd hm (Nat.not_lt.mpr z))) (fun _ => ?_)
          refine x_iconst (pc' := 11) rfl rfl ?_
          refine x_goto (pc' := 15) rfl rfl ?_
          refine x_retz (z := true) rfl rfl ?_
          refine sK_i (pc' := 6) rfl ?_
          refine x_retz (z := true) rfl rfl ?_
          refine sK_i (pc' := 4) rfl ?_
          refine x_if (a' := 18) (pc' := 7) (z := false) rfl rfl rfl (by decide) (fun h => by cases h) (fun _ => ?_)
          refine x_iload_n (pc' := 8) rfl rfl rfl ?_
          refine x_cs (ls0 := [_]) (rest := []) rfl rfl rfl rfl ?_
          refine x_iload_n (pc' := 1) rfl rfl rfl ?_
          refine x_iconst (pc' := 2) rfl rfl ?_
          refine x_iconst (pc' := 3) rfl rfl ?_
          refine x_cs (ls0 := [_, _, _]) (rest := []) rfl rfl rfl rfl ?_
          refine x_iload_n (pc' := 1) rfl rfl rfl ?_
          refine x_iload_n (pc' := 2) rfl rfl rfl ?_
          refine x_icmp (a' := 14) (pc' := 5) (z := false) rfl rfl rfl (by decide) (fun h => by cases h) (fun _ => ?_)
          refine x_iload_n (pc' := 6) rfl rfl rfl ?_
          refine x_iload_n (pc' := 7) rfl rfl rfl ?_
          refine x_icmp (a' := 14) (pc' := 10) (z := false) rfl rfl rfl (by decide) (fun h => by cases h) (fun _ => ?_)
          refine x_iconst (pc' := 11) rfl rfl ?_
          refine x_goto (pc' := 15) rfl rfl ?_
          refine x_retz (z := true) rfl rfl ?_
          refine sK_i (pc' := 6) rfl ?_
          refine x_retz (z := true) rfl rfl ?_
          refine sK_i (pc' := 11) rfl ?_
          refine x_if (a' := 18) (pc' := 14) (z := false) rfl rfl rfl (by decide) (fun h => by cases h) (fun _ => ?_)
          refine x_iconst (pc' := 15) rfl rfl ?_
          refine x_goto (pc' := 19) rfl rfl ?_
          refine x_istore (pc' := 21) (ls' := [_, _, _, _, _, _]) rfl rfl rfl rfl ?_
          refine x_iload (pc' := 23) rfl rfl rfl ?_
          refine x_if (a' := 30) (pc' := 26) (z := true) rfl rfl rfl (by decide) (fun _ => ?_) (fun h => by cases h)
          refine x_iload_n (pc' := 31) rfl rfl rfl ?_
          refine x_if (a' := 38) (pc' := 34) (z := false) rfl rfl rfl (by decide) (fun h => by cases h) (fun _ => ?_)
          refine x_iconst (pc' := 35) rfl rfl ?_
          refine x_goto (pc' := 57) rfl rfl ?_
          refine x_reti rfl rfl ?_
          refine sK_i (pc' := 79) rfl ?_
          refine x_cv (ls0 := [_, _]) (rest := []) rfl rfl rfl rfl rfl ?_
          refine x_aload_n (pc' := 1) rfl rfl rfl rfl rfl ?_
          refine x_iload_n (pc' := 2) rfl rfl rfl ?_
          refine x_pI (pc' := 5) rfl rfl rfl ?_
          refine x_iload_n (pc' := 6) rfl rfl rfl ?_
          refine x_if (a' := 13) (pc' := 9) (z := true) rfl rfl rfl (by decide) (fun _ => ?_) (fun h => by cases h)
          refine x_iconst (pc' := 14) rfl rfl ?_
          refine x_retz (z := false) rfl rfl ?_
          refine sK_i (pc' := 82) rfl ?_
          refine x_if (a' := 102) (pc' := 85) (z := true) rfl rfl rfl (by decide) (fun _ => ?_) (fun h => by cases h)
          refine x_iconst (pc' := 103) rfl rfl ?_
          refine x_reti rfl rfl ?_
          refine sK_i (pc' := 1104) rfl ?_
          refine x_istore (pc' := 1106) (ls' := [_, _, _, _, _, _, _]) rfl rfl rfl rfl ?_
          refine x_aload_n (pc' := 1107) rfl rfl rfl rfl rfl ?_
          refine x_cv (ls0 := [_]) (rest := []) rfl rfl rfl rfl rfl ?_
          refine x_aload_n (pc' := 1) rfl rfl rfl rfl rfl ?_
          refine x_gI (pc' := 4) (x := 2) rfl rfl rfl sI_s ?_
          refine x_reti rfl rfl ?_
          refine sK_i (pc' := 1110) rfl ?_
          refine x_iload (pc' := 1112) rfl rfl rfl ?_
          refine x_icmp (a' := 1117) (pc' := 1115) (z := true) rfl rfl rfl (by decide) (fun _ => ?_) (fun h => by cases h)
          refine x_iload (pc' := 1119) rfl rfl rfl ?_
          refine x_if (a' := 1134) (pc' := 1122) (z := true) rfl rfl rfl (by decide) (fun _ => ?_) (fun h => by cases h)
          refine x_goto (pc' := 2938) rfl rfl ?_
          refine x_iinc (pc' := 2941) (y := 7) (ls' := [_, _, _, _, _, _, _]) rfl rfl rfl rfl rfl ?_
          refine x_goto (pc' := 23) rfl rfl ?_
          refine x_iload (pc' := 25) rfl rfl rfl ?_
          refine x_aload_n (pc' := 26) rfl rfl rfl rfl rfl ?_
          refine x_alen (pc' := 27) (N := 7) rfl rfl rfl (Eq.trans rdNI (Eq.trans rdNthr (z_N_29_0 e))) (?_ : X _ _ _ (.inl 7 :: _) _ _)
          refine x_bipush (pc' := 29) rfl rfl ?_
          refine x_isub (pc' := 30) (z := 0) rfl rfl (by decide) ?_
          refine x_icmp (a' := 2944) (pc' := 33) (z := true) rfl rfl rfl (by decide) (fun _ => ?_) (fun h => by cases h)
          refine x_iconst (pc' := 2945) rfl rfl ?_
          refine x_retz (z := true) rfl rfl ?_
          exact Qp_ok e (p := 1) (q := 6) rfl rfl rfl rfl
        refine x_if (a' := 1088) (pc' := 1084) (z := decide ((xs 3) = 0)) rfl rfl rfl rfl (fun q130 => ?_) (fun q130 => ?_)
        · refine x_iconst (pc' := 1089) rfl rfl ?_
          ((try rw [q130] at J130); (try rw [q130]); (try simp only [cd_t, cd_f, nt_t, nt_f, an_t, an_f, or_t, or_f] at J130); (try simp only [cd_t, cd_f, nt_t, nt_f, an_t, an_f, or_t, or_f]); exact J130)
        · refine x_iconst (pc' := 1085) rfl rfl ?_
          refine x_goto (pc' := 1089) rfl rfl ?_
          ((try rw [q130] at J130); (try rw [q130]); (try simp only [cd_t, cd_f, nt_t, nt_f, an_t, an_f, or_t, or_f] at J130); (try simp only [cd_t, cd_f, nt_t, nt_f, an_t, an_f, or_t, or_f]); exact J130)
  refine x_if (a' := 1043) (pc' := 1039) (z := decide ((xs 3) = 0)) rfl rfl rfl rfl (fun q3 => ?_) (fun q3 => ?_)
  · refine x_iconst (pc' := 1044) rfl rfl ?_
    ((try rw [q3] at J3); (try rw [q3]); (try simp only [cd_t, cd_f, nt_t, nt_f, an_t, an_f, or_t, or_f] at J3); (try simp only [cd_t, cd_f, nt_t, nt_f, an_t, an_f, or_t, or_f]); exact J3)
  · refine x_iconst (pc' := 1040) rfl rfl ?_
    refine x_goto (pc' := 1044) rfl rfl ?_
    ((try rw [q3] at J3); (try rw [q3]); (try simp only [cd_t, cd_f, nt_t, nt_f, an_t, an_f, or_t, or_f] at J3); (try simp only [cd_t, cd_f, nt_t, nt_f, an_t, an_f, or_t, or_f]); exact J3)
set_option maxHeartbeats 4000000 in
set_option maxRecDepth 10000 in
theorem v_11_v_3_i_i_i {t : sT} {xs : Nat → Int32} {m : Nat}
    (e : t = T16 7 xs)
    (hk : ((xs 0) &&& 63) = 11)
    (hm : m < 6)
    (e0 : xs 1 = io m)
    (e1 : xs 2 = 3) :
    X 297 23 [.inr (.inr (29, (some 0))), .inr (.inr (11, (some 0))), .inr (.inr (12, (some 0))), .inr (.inr (23, (some 0))), .inl 0, sJk, sJk] [] t Qp := by
  refine x_iload (pc' := 25) rfl rfl rfl ?_
  refine x_aload_n (pc' := 26) rfl rfl rfl rfl rfl ?_
  refine x_alen (pc' := 27) (N := 7) rfl rfl rfl (z_N_29_0 e) (?_ : X _ _ _ (.inl 7 :: _) _ _)
  refine x_bipush (pc' := 29) rfl rfl ?_
  refine x_isub (pc' := 30) (z := 0) rfl rfl (by decide) ?_
  refine x_icmp (a' := 2944) (pc' := 33) (z := false) rfl rfl rfl (by decide) (fun h => by cases h) (fun _ => ?_)
  refine x_aload_n (pc' := 34) rfl rfl rfl rfl rfl ?_
  refine x_iload (pc' := 36) rfl rfl rfl ?_
  refine x_iald (pc' := 37) (N := 7) (x := (xs 0)) rfl rfl rfl (z_N_29_0 e) (io_in (p := 0) (N := 7) (by decide) (by decide)) (Eq.trans (congrArg (sA t 29 0) (nn_io (p := 0) (by decide))) (z_A_29_0_0 e)) ?_
  refine x_bipush (pc' := 39) rfl rfl ?_
  refine x_iand (pc' := 40) (z := ((xs 0) &&& 63)) rfl rfl rfl ?_
  refine x_switch (pc' := 1017) rfl (by rw [hk]; decide) ?_
  refine x_aload_n (pc' := 1018) rfl rfl rfl rfl rfl ?_
  refine x_aload_n (pc' := 1019) rfl rfl rfl rfl rfl ?_
  refine x_iload (pc' := 1021) rfl rfl rfl ?_
  refine x_iconst (pc' := 1022) rfl rfl ?_
  refine x_iadd (pc' := 1023) (z := 1) rfl rfl (by decide) ?_
  refine x_iald (pc' := 1024) (N := 7) (x := (io m)) rfl rfl rfl (z_N_29_0 e) (io_in (p := 1) (N := 7) (by decide) (by decide)) (Eq.trans (congrArg (sA t 29 0) (nn_io (p := 1) (by decide))) (Eq.trans (z_A_29_0_1 e) e0)) ?_
  refine x_aload_n (pc' := 1025) rfl rfl rfl rfl rfl ?_
  refine x_iload (pc' := 1027) rfl rfl rfl ?_
  refine x_iconst (pc' := 1028) rfl rfl ?_
  refine x_iadd (pc' := 1029) (z := 2) rfl rfl (by decide) ?_
  refine x_iald (pc' := 1030) (N := 7) (x := 3) rfl rfl rfl (z_N_29_0 e) (io_in (p := 2) (N := 7) (by decide) (by decide)) (Eq.trans (congrArg (sA t 29 0) (nn_io (p := 2) (by decide))) (Eq.trans (z_A_29_0_2 e) e1)) ?_
  refine x_aload_n (pc' := 1031) rfl rfl rfl rfl rfl ?_
  refine x_iload (pc' := 1033) rfl rfl rfl ?_
  refine x_iconst (pc' := 1034) rfl rfl ?_
  refine x_iadd (pc' := 1035) (z := 3) rfl rfl (by decide) ?_
  refine x_iald (pc' := 1036) (N := 7) (x := (xs 3)) rfl rfl rfl (z_N_29_0 e) (io_in (p := 3) (N := 7) (by decide) (by decide)) (Eq.trans (congrArg (sA t 29 0) (nn_io (p := 3) (by decide))) (z_A_29_0_3 e)) ?_
  have J3 : X 297 1044 [.inr (.inr (29, (some 0))), .inr (.inr (11, (some 0))), .inr (.inr (12, (some 0))), .inr (.inr (23, (some 0))), .inl 0, sJk, sJk] [.inl (bz (!(decide ((xs 3) = 0)))), .inl 3, .inl (io m), .inr (.inr (11, (some 0)))] t Qp := by
    refine x_aload_n (pc' := 1045) rfl rfl rfl rfl rfl ?_
    refine x_iload (pc' := 1047) rfl rfl rfl ?_
    refine x_iconst (pc' := 1048) rfl rfl ?_
    refine x_iadd (pc' := 1049) (z := 4) rfl rfl (by decide) ?_
    refine x_iald (pc' := 1050) (N := 7) (x := (xs 4)) rfl rfl rfl (z_N_29_0 e) (io_in (p := 4) (N := 7) (by decide) (by decide)) (Eq.trans (congrArg (sA t 29 0) (nn_io (p := 4) (by decide))) (z_A_29_0_4 e)) ?_
    refine x_aload_n (pc' := 1051) rfl rfl rfl rfl rfl ?_
    refine x_iload (pc' := 1053) rfl rfl rfl ?_
    refine x_iconst (pc' := 1054) rfl rfl ?_
    refine x_iadd (pc' := 1055) (z := 5) rfl rfl (by decide) ?_
    refine x_iald (pc' := 1056) (N := 7) (x := (xs 5)) rfl rfl rfl (z_N_29_0 e) (io_in (p := 5) (N := 7) (by decide) (by decide)) (Eq.trans (congrArg (sA t 29 0) (nn_io (p := 5) (by decide))) (z_A_29_0_5 e)) ?_
    refine x_aload_n (pc' := 1057) rfl rfl rfl rfl rfl ?_
    refine x_cs (ls0 := [_, _, _, _, _, _, _, sJk]) (rest := []) rfl rfl rfl rfl ?_
    refine x_aload (pc' := 2) rfl rfl rfl rfl rfl ?_
    refine x_iconst (pc' := 3) rfl rfl ?_
    refine x_aload_n (pc' := 4) rfl rfl rfl rfl rfl ?_
    refine x_iload_n (pc' := 5) rfl rfl rfl ?_
    refine x_iload_n (pc' := 6) rfl rfl rfl ?_
    refine x_iload_n (pc' := 7) rfl rfl rfl ?_
    refine x_iload (pc' := 9) rfl rfl rfl ?_
    refine x_iload (pc' := 11) rfl rfl rfl ?_
    refine x_cv (ls0 := [_, _, _, _, _, _, sJk, sJk, sJk]) (rest := [_, _]) rfl rfl rfl rfl rfl ?_
    refine x_aload_n (pc' := 1) rfl rfl rfl rfl rfl ?_
    refine x_iload_n (pc' := 2) rfl rfl rfl ?_
    refine x_cv (ls0 := [_, _]) (rest := []) rfl rfl rfl rfl rfl ?_
    refine x_iload_n (pc' := 1) rfl rfl rfl ?_
    refine x_if (a' := 16) (pc' := 4) (z := decide (m < 0)) rfl rfl rfl (ic_lt (p := m) (q := 0) (Nat.lt_trans hm (by decide)) (by decide)) (fun h => absurd (of_decide_eq_true h) (by first | decide | omega | simp)) (fun _ => ?_)
    refine x_iload_n (pc' := 5) rfl rfl rfl ?_
    refine x_aload_n (pc' := 6) rfl rfl rfl rfl rfl ?_
    refine x_gR (pc' := 9) (r := (some 0)) rfl rfl rfl (z_R_704_0 e) ?_
    refine x_gR (pc' := 12) (r := (some 0)) rfl rfl rfl (z_R_321_0 e) ?_
    refine x_alen (pc' := 13) (N := 6) rfl rfl rfl (z_N_26_0 e) (?_ : X _ _ _ (.inl 6 :: _) _ _)
    refine x_icmp (a' := 27) (pc' := 16) (z := decide (m < 6)) rfl rfl rfl (ic_lt (p := m) (q := 6) (Nat.lt_trans hm (by decide)) (by decide)) (fun _ => ?_) (fun h => absurd (Nat.lt_of_lt_of_le hm (by decide)) (of_decide_eq_false h))
    refine x_aload_n (pc' := 28) rfl rfl rfl rfl rfl ?_
    refine x_gR (pc' := 31) (r := (some 0)) rfl rfl rfl (z_R_704_0 e) ?_
    refine x_gR (pc' := 34) (r := (some 0)) rfl rfl rfl (z_R_321_0 e) ?_
    refine x_iload_n (pc' := 35) rfl rfl rfl ?_
    refine x_aald (pc' := 36) (N := 6) (k' := 7) (r := (some m)) rfl rfl rfl (z_N_26_0 e) (io_in (p := m) (N := 6) hm (by decide)) (Eq.trans (congrArg (sE t 26 0) (nn_io (p := m) (Nat.lt_trans hm (by decide)))) (kM (Cn_e e) hm)) ?_
    refine x_reta rfl rfl ?_
    refine sK_i (pc' := 5) rfl ?_
    refine x_astore (pc' := 7) (ls' := [_, _, _, _, _, _, _, _, _]) rfl rfl rfl rfl rfl ?_
    refine x_aload_n (pc' := 8) rfl rfl rfl rfl rfl ?_
    refine x_iload_n (pc' := 9) rfl rfl rfl ?_
    refine x_cv (ls0 := [_, _]) (rest := []) rfl rfl rfl rfl rfl ?_
    refine x_iload_n (pc' := 1) rfl rfl rfl ?_
    refine x_if (a' := 16) (pc' := 4) (z := false) rfl rfl rfl (by decide) (fun h => by cases h) (fun _ => ?_)
    refine x_iload_n (pc' := 5) rfl rfl rfl ?_
    refine x_aload_n (pc' := 6) rfl rfl rfl rfl rfl ?_
    refine x_gR (pc' := 9) (r := (some 0)) rfl rfl rfl (z_R_705_0 e) ?_
    refine x_gR (pc' := 12) (r := (some 0)) rfl rfl rfl (z_R_256_0 e) ?_
    refine x_alen (pc' := 13) (N := 5) rfl rfl rfl (z_N_24_0 e) (?_ : X _ _ _ (.inl 5 :: _) _ _)
    refine x_icmp (a' := 27) (pc' := 16) (z := true) rfl rfl rfl (by decide) (fun _ => ?_) (fun h => by cases h)
    refine x_aload_n (pc' := 28) rfl rfl rfl rfl rfl ?_
    refine x_gR (pc' := 31) (r := (some 0)) rfl rfl rfl (z_R_705_0 e) ?_
    refine x_gR (pc' := 34) (r := (some 0)) rfl rfl rfl (z_R_256_0 e) ?_
    refine x_iload_n (pc' := 35) rfl rfl rfl ?_
    refine x_aald (pc' := 36) (N := 5) (k' := 1) (r := (some 3)) rfl rfl rfl (z_N_24_0 e) (io_in (p := 3) (N := 5) (by decide) (by decide)) (Eq.trans (congrArg (sE t 24 0) (nn_io (p := 3) (by decide))) (z_E_24_0_3 e)) ?_
    refine x_reta rfl rfl ?_
    refine sK_i (pc' := 12) rfl ?_
    refine x_astore (pc' := 14) (ls' := [_, _, _, _, _, _, _, _, _]) rfl rfl rfl rfl rfl ?_
    refine x_aload (pc' := 16) rfl rfl rfl rfl rfl ?_
    refine x_iload (pc' := 18) rfl rfl rfl ?_
    refine x_cs (ls0 := [_, _]) (rest := []) rfl rfl rfl rfl ?_
    refine x_aload_n (pc' := 1) rfl rfl rfl rfl rfl ?_
    refine x_cv (ls0 := [_]) (rest := []) rfl rfl rfl rfl rfl ?_
    refine x_aload_n (pc' := 1) rfl rfl rfl rfl rfl ?_
    refine x_gR (pc' := 4) (r := (some 1)) rfl rfl rfl (z_R_66_3 e) ?_
    refine x_ifnull (a' := 11) (pc' := 7) rfl rfl rfl rfl (fun h => by cases h) (fun _ _ => ?_)
    refine x_iconst (pc' := 8) rfl rfl ?_
    refine x_goto (pc' := 12) rfl rfl ?_
    refine x_retz (z := true) rfl rfl ?_
    refine sK_i (pc' := 4) rfl ?_
    refine x_if (a' := 20) (pc' := 7) (z := false) rfl rfl rfl (by decide) (fun h => by cases h) (fun _ => ?_)
    refine x_iload_n (pc' := 8) rfl rfl rfl ?_
    refine x_sipush (pc' := 11) rfl rfl ?_
    refine x_sipush (pc' := 14) rfl rfl ?_
    refine x_cs (ls0 := [_, _, _]) (rest := []) rfl rfl rfl rfl ?_
    refine x_iload_n (pc' := 1) rfl rfl rfl ?_
    refine x_iload_n (pc' := 2) rfl rfl rfl ?_
    refine x_icmp (a' := 10) (pc' := 5) (z := decide ((xs 4) < (-500))) rfl rfl rfl rfl (fun q11 => ?_) (fun q11 => ?_)
    · refine x_throw rfl rfl ?_
      refine sK_n (by decide +kernel) rfl ?_
      refine sK_n (by decide +kernel) rfl ?_
      refine sK_h (h := 23) (by decide +kernel) rfl ?_
      refine x_catch (pc' := 25) (ls' := [_, _, _, _, _, _, _, _]) rfl rfl rfl rfl ?_
      refine x_iconst (pc' := 26) rfl rfl ?_
      refine x_reti rfl rfl ?_
      refine sK_i (pc' := 1060) rfl ?_
      refine x_istore (pc' := 1062) (ls' := [_, _, _, _, _, _, _]) rfl rfl rfl rfl ?_
      refine x_aload_n (pc' := 1063) rfl rfl rfl rfl rfl ?_
      refine x_aload_n (pc' := 1064) rfl rfl rfl rfl rfl ?_
      refine x_iload (pc' := 1066) rfl rfl rfl ?_
      refine x_iconst (pc' := 1067) rfl rfl ?_
      refine x_iadd (pc' := 1068) (z := 1) rfl rfl (by decide) ?_
      refine x_iald (pc' := 1069) (N := 7) (x := (io m)) rfl rfl rfl (Eq.trans rdNthr (z_N_29_0 e)) (io_in (p := 1) (N := 7) (by decide) (by decide)) (Eq.trans (congrArg (sA (sThr t) 29 0) (nn_io (p := 1) (by decide))) (Eq.trans rdAthr (Eq.trans (z_A_29_0_1 e) e0))) ?_
      refine x_aload_n (pc' := 1070) rfl rfl rfl rfl rfl ?_
      refine x_iload (pc' := 1072) rfl rfl rfl ?_
      refine x_iconst (pc' := 1073) rfl rfl ?_
      refine x_iadd (pc' := 1074) (z := 2) rfl rfl (by decide) ?_
      refine x_iald (pc' := 1075) (N := 7) (x := 3) rfl rfl rfl (Eq.trans rdNthr (z_N_29_0 e)) (io_in (p := 2) (N := 7) (by decide) (by decide)) (Eq.trans (congrArg (sA (sThr t) 29 0) (nn_io (p := 2) (by decide))) (Eq.trans rdAthr (Eq.trans (z_A_29_0_2 e) e1))) ?_
      refine x_aload_n (pc' := 1076) rfl rfl rfl rfl rfl ?_
      refine x_iload (pc' := 1078) rfl rfl rfl ?_
      refine x_iconst (pc' := 1079) rfl rfl ?_
      refine x_iadd (pc' := 1080) (z := 3) rfl rfl (by decide) ?_
      refine x_iald (pc' := 1081) (N := 7) (x := (xs 3)) rfl rfl rfl (Eq.trans rdNthr (z_N_29_0 e)) (io_in (p := 3) (N := 7) (by decide) (by decide)) (Eq.trans (congrArg (sA (sThr t) 29 0) (nn_io (p := 3) (by decide))) (Eq.trans rdAthr (z_A_29_0_3 e))) ?_
      have J12 : X 297 1089 [.inr (.inr (29, (some 0))), .inr (.inr (11, (some 0))), .inr (.inr (12, (some 0))), .inr (.inr (23, (some 0))), .inl 0, .inl 2, sJk] [.inl (bz (!(decide ((xs 3) = 0)))), .inl 3, .inl (io m), .inr (.inr (12, (some 0)))] (sThr t) Qp := by
        refine x_aload_n (pc' := 1090) rfl rfl rfl rfl rfl ?_
        refine x_iload (pc' := 1092) rfl rfl rfl ?_
        refine x_iconst (pc' := 1093) rfl rfl ?_
        refine x_iadd (pc' := 1094) (z := 4) rfl rfl (by decide) ?_
        refine x_iald (pc' := 1095) (N := 7) (x := (xs 4)) rfl rfl rfl (Eq.trans rdNthr (z_N_29_0 e)) (io_in (p := 4) (N := 7) (by decide) (by decide)) (Eq.trans (congrArg (sA (sThr t) 29 0) (nn_io (p := 4) (by decide))) (Eq.trans rdAthr (z_A_29_0_4 e))) ?_
        refine x_aload_n (pc' := 1096) rfl rfl rfl rfl rfl ?_
        refine x_iload (pc' := 1098) rfl rfl rfl ?_
        refine x_iconst (pc' := 1099) rfl rfl ?_
        refine x_iadd (pc' := 1100) (z := 5) rfl rfl (by decide) ?_
        refine x_iald (pc' := 1101) (N := 7) (x := (xs 5)) rfl rfl rfl (Eq.trans rdNthr (z_N_29_0 e)) (io_in (p := 5) (N := 7) (by decide) (by decide)) (Eq.trans (congrArg (sA (sThr t) 29 0) (nn_io (p := 5) (by decide))) (Eq.trans rdAthr (z_A_29_0_5 e))) ?_
        refine x_cv (ls0 := [_, _, _, _, _, _, sJk, sJk]) (rest := []) rfl rfl rfl rfl rfl ?_
        refine x_iload_n (pc' := 1) rfl rfl rfl ?_
        refine x_cs (ls0 := [_]) (rest := []) rfl rfl rfl rfl ?_
        refine x_iload_n (pc' := 1) rfl rfl rfl ?_
        refine x_iconst (pc' := 2) rfl rfl ?_
        refine x_iconst (pc' := 3) rfl rfl ?_
        refine x_cs (ls0 := [_, _, _]) (rest := []) rfl rfl rfl rfl ?_
        refine x_iload_n (pc' := 1) rfl rfl rfl ?_
        refine x_iload_n (pc' := 2) rfl rfl rfl ?_
        refine x_icmp (a' := 14) (pc' := 5) (z := false) rfl rfl rfl (by decide) (fun h => by cases h) (fun _ => ?_)
        refine x_iload_n (pc' := 6) rfl rfl rfl ?_
        refine x_iload_n (pc' := 7) rfl rfl rfl ?_
        refine x_icmp (a' := 14) (pc' := 10) (z := false) rfl rfl rfl (by decide) (fun h => by cases h) (fun _ => ?_)
        refine x_iconst (pc' := 11) rfl rfl ?_
        refine x_goto (pc' := 15) rfl rfl ?_
        refine x_retz (z := true) rfl rfl ?_
        refine sK_i (pc' := 6) rfl ?_
        refine x_retz (z := true) rfl rfl ?_
        refine sK_i (pc' := 4) rfl ?_
        refine x_if (a' := 31) (pc' := 7) (z := false) rfl rfl rfl (by decide) (fun h => by cases h) (fun _ => ?_)
        refine x_iload_n (pc' := 8) rfl rfl rfl ?_
        refine x_iload (pc' := 10) rfl rfl rfl ?_
        refine x_cs (ls0 := [_, _]) (rest := []) rfl rfl rfl rfl ?_
        refine x_iload_n (pc' := 1) rfl rfl rfl ?_
        refine x_iconst (pc' := 2) rfl rfl ?_
        refine x_icmp (a' := 16) (pc' := 5) (z := true) rfl rfl rfl (by decide) (fun _ => ?_) (fun h => by cases h)
        refine x_iload_n (pc' := 17) rfl rfl rfl ?_
        refine x_sipush (pc' := 20) rfl rfl ?_
        refine x_sipush (pc' := 23) rfl rfl ?_
        refine x_cs (ls0 := [_, _, _]) (rest := []) rfl rfl rfl rfl ?_
        refine x_iload_n (pc' := 1) rfl rfl rfl ?_
        refine x_iload_n (pc' := 2) rfl rfl rfl ?_
        refine x_icmp (a' := 14) (pc' := 5) (z := decide ((xs 4) < (-500))) rfl rfl rfl rfl (fun _ => ?_) (fun h => absurd (of_decide_eq_true q11) (of_decide_eq_false h))
        refine x_iconst (pc' := 15) rfl rfl ?_
        refine x_retz (z := false) rfl rfl ?_
        refine sK_i (pc' := 26) rfl ?_
        refine x_retz (z := false) rfl rfl ?_
        refine sK_i (pc' := 13) rfl ?_
        refine x_if (a' := 31) (pc' := 16) (z := true) rfl rfl rfl (by decide) (fun _ => ?_) (fun h => by cases h)
        refine x_iconst (pc' := 32) rfl rfl ?_
        refine x_istore (pc' := 34) (ls' := [_, _, _, _, _, _, _, _]) rfl rfl rfl rfl ?_
        refine x_iload_n (pc' := 35) rfl rfl rfl ?_
        refine x_cs (ls0 := [_]) (rest := []) rfl rfl rfl rfl ?_
        refine x_iload_n (pc' := 1) rfl rfl rfl ?_
        refine x_iconst (pc' := 2) rfl rfl ?_
        refine x_iconst (pc' := 3) rfl rfl ?_
        refine x_cs (ls0 := [_, _, _]) (rest := []) rfl rfl rfl rfl ?_
        refine x_iload_n (pc' := 1) rfl rfl rfl ?_
        refine x_iload_n (pc' := 2) rfl rfl rfl ?_
        refine x_icmp (a' := 14) (pc' := 5) (z := false) rfl rfl rfl (by decide) (fun h => by cases h) (fun _ => ?_)
        refine x_iload_n (pc' := 6) rfl rfl rfl ?_
        refine x_iload_n (pc' := 7) rfl rfl rfl ?_
        refine x_icmp (a' := 14) (pc' := 10) (z := false) rfl rfl rfl (by decide) (fun h => by cases h) (fun _ => ?_)
        refine x_iconst (pc' := 11) rfl rfl ?_
        refine x_goto (pc' := 15) rfl rfl ?_
        refine x_retz (z := true) rfl rfl ?_
        refine sK_i (pc' := 6) rfl ?_
        refine x_retz (z := true) rfl rfl ?_
        refine sK_i (pc' := 38) rfl ?_
        refine x_if (a' := 65) (pc' := 41) (z := false) rfl rfl rfl (by decide) (fun h => by cases h) (fun _ => ?_)
        refine x_aload_n (pc' := 42) rfl rfl rfl rfl rfl ?_
        refine x_gR (pc' := 45) (r := (some 0)) rfl rfl rfl (Eq.trans rdRthr (z_R_769_0 e)) ?_
        refine x_iload_n (pc' := 46) rfl rfl rfl ?_
        refine x_iald (pc' := 47) (N := 5) (x := 0) rfl rfl rfl (Eq.trans rdNthr (z_N_21_0 e)) (io_in (p := 3) (N := 5) (by decide) (by decide)) (Eq.trans (congrArg (sA (sThr t) 21 0) (nn_io (p := 3) (by decide))) (Eq.trans rdAthr (z_A_21_0_3 e))) ?_
        refine x_iconst (pc' := 48) rfl rfl ?_
        refine x_icmp (a' := 65) (pc' := 51) (z := true) rfl rfl rfl (by decide) (fun _ => ?_) (fun h => by cases h)
        refine x_iconst (pc' := 66) rfl rfl ?_
        refine x_istore (pc' := 68) (ls' := [_, _, _, _, _, _, _, _]) rfl rfl rfl rfl ?_
        refine x_aload_n (pc' := 69) rfl rfl rfl rfl rfl ?_
        refine x_aload_n (pc' := 70) rfl rfl rfl rfl rfl ?_
        refine x_iload_n (pc' := 71) rfl rfl rfl ?_
        refine x_iload_n (pc' := 72) rfl rfl rfl ?_
        refine x_iload (pc' := 74) rfl rfl rfl ?_
        refine x_iload (pc' := 76) rfl rfl rfl ?_
        refine x_cv (ls0 := [_, _, _, _, _, sJk]) (rest := [_]) rfl rfl rfl rfl rfl ?_
        refine x_iload_n (pc' := 1) rfl rfl rfl ?_
        refine x_cs (ls0 := [_]) (rest := []) rfl rfl rfl rfl ?_
        refine x_iload_n (pc' := 1) rfl rfl rfl ?_
        refine x_iconst (pc' := 2) rfl rfl ?_
        refine x_iconst (pc' := 3) rfl rfl ?_
        refine x_cs (ls0 := [_, _, _]) (rest := []) rfl rfl rfl rfl ?_
        refine x_iload_n (pc' := 1) rfl rfl rfl ?_
        refine x_iload_n (pc' := 2) rfl rfl rfl ?_
        refine x_icmp (a' := 14) (pc' := 5) (z := decide (m < 0)) rfl rfl rfl (ic_lt (p := m) (q := 0) (Nat.lt_trans hm (by decide)) (by decide)) (fun h => absurd (of_decide_eq_true h) (by first | decide | omega | simp)) (fun _ => ?_)
        refine x_iload_n (pc' := 6) rfl rfl rfl ?_
        refine x_iload_n (pc' := 7) rfl rfl rfl ?_
        refine x_icmp (a' := 14) (pc' := 10) (z := decide (5 < m)) rfl rfl rfl (ic_gt (p := m) (q := 5) (Nat.lt_trans hm (by decide)) (by decide)) (fun h => absurd (of_decide_eq_true h) (fun z => absurd hm (Nat.not_lt.mpr z))) (fun _ => ?_)
        refine x_iconst (pc' := 11) rfl rfl ?_
        refine x_goto (pc' := 15) rfl rfl ?_
        refine x_retz (z := true) rfl rfl ?_
        refine sK_i (pc' := 6) rfl ?_
        refine x_retz (z := true) rfl rfl ?_
        refine sK_i (pc' := 4) rfl ?_
        refine x_if (a' := 18) (pc' := 7) (z := false) rfl rfl rfl (by decide) (fun h => by cases h) (fun _ => ?_)
        refine x_iload_n (pc' := 8) rfl rfl rfl ?_
        refine x_cs (ls0 := [_]) (rest := []) rfl rfl rfl rfl ?_
        refine x_iload_n (pc' := 1) rfl rfl rfl ?_
        refine x_iconst (pc' := 2) rfl rfl ?_
        refine x_iconst (pc' := 3) rfl rfl ?_
        refine x_cs (ls0 := [_, _, _]) (rest := []) rfl rfl rfl rfl ?_
        refine x_iload_n (pc' := 1) rfl rfl rfl ?_
        refine x_iload_n (pc' := 2) rfl rfl rfl ?_
        refine x_icmp (a' := 14) (pc' := 5) (z := false) rfl rfl rfl (by decide) (fun h => by cases h) (fun _ => ?_)
        refine x_iload_n (pc' := 6) rfl rfl rfl ?_
        refine x_iload_n (pc' := 7) rfl rfl rfl ?_
        refine x_icmp (a' := 14) (pc' := 10) (z := false) rfl rfl rfl (by decide) (fun h => by cases h) (fun _ => ?_)
        refine x_iconst (pc' := 11) rfl rfl ?_
        refine x_goto (pc' := 15) rfl rfl ?_
        refine x_retz (z := true) rfl rfl ?_
        refine sK_i (pc' := 6) rfl ?_
        refine x_retz (z := true) rfl rfl ?_
        refine sK_i (pc' := 11) rfl ?_
        refine x_if (a' := 18) (pc' := 14) (z := false) rfl rfl rfl (by decide) (fun h => by cases h) (fun _ => ?_)
        refine x_iconst (pc' := 15) rfl rfl ?_
        refine x_goto (pc' := 19) rfl rfl ?_
        refine x_istore (pc' := 21) (ls' := [_, _, _, _, _, _]) rfl rfl rfl rfl ?_
        refine x_iload (pc' := 23) rfl rfl rfl ?_
        refine x_if (a' := 30) (pc' := 26) (z := true) rfl rfl rfl (by decide) (fun _ => ?_) (fun h => by cases h)
        refine x_iload_n (pc' := 31) rfl rfl rfl ?_
        refine x_if (a' := 38) (pc' := 34) (z := false) rfl rfl rfl (by decide) (fun h => by cases h) (fun _ => ?_)
        refine x_iconst (pc' := 35) rfl rfl ?_
        refine x_goto (pc' := 57) rfl rfl ?_
        refine x_reti rfl rfl ?_
        refine sK_i (pc' := 79) rfl ?_
        refine x_cv (ls0 := [_, _]) (rest := []) rfl rfl rfl rfl rfl ?_
        refine x_aload_n (pc' := 1) rfl rfl rfl rfl rfl ?_
        refine x_iload_n (pc' := 2) rfl rfl rfl ?_
        refine x_pI (pc' := 5) rfl rfl rfl ?_
        refine x_iload_n (pc' := 6) rfl rfl rfl ?_
        refine x_if (a' := 13) (pc' := 9) (z := true) rfl rfl rfl (by decide) (fun _ => ?_) (fun h => by cases h)
        refine x_iconst (pc' := 14) rfl rfl ?_
        refine x_retz (z := false) rfl rfl ?_
        refine sK_i (pc' := 82) rfl ?_
        refine x_if (a' := 102) (pc' := 85) (z := true) rfl rfl rfl (by decide) (fun _ => ?_) (fun h => by cases h)
        refine x_iconst (pc' := 103) rfl rfl ?_
        refine x_reti rfl rfl ?_
        refine sK_i (pc' := 1104) rfl ?_
        refine x_istore (pc' := 1106) (ls' := [_, _, _, _, _, _, _]) rfl rfl rfl rfl ?_
        refine x_aload_n (pc' := 1107) rfl rfl rfl rfl rfl ?_
        refine x_cv (ls0 := [_]) (rest := []) rfl rfl rfl rfl rfl ?_
        refine x_aload_n (pc' := 1) rfl rfl rfl rfl rfl ?_
        refine x_gI (pc' := 4) (x := 2) rfl rfl rfl sI_s ?_
        refine x_reti rfl rfl ?_
        refine sK_i (pc' := 1110) rfl ?_
        refine x_iload (pc' := 1112) rfl rfl rfl ?_
        refine x_icmp (a' := 1117) (pc' := 1115) (z := true) rfl rfl rfl (by decide) (fun _ => ?_) (fun h => by cases h)
        refine x_iload (pc' := 1119) rfl rfl rfl ?_
        refine x_if (a' := 1134) (pc' := 1122) (z := true) rfl rfl rfl (by decide) (fun _ => ?_) (fun h => by cases h)
        refine x_goto (pc' := 2938) rfl rfl ?_
        refine x_iinc (pc' := 2941) (y := 7) (ls' := [_, _, _, _, _, _, _]) rfl rfl rfl rfl rfl ?_
        refine x_goto (pc' := 23) rfl rfl ?_
        refine x_iload (pc' := 25) rfl rfl rfl ?_
        refine x_aload_n (pc' := 26) rfl rfl rfl rfl rfl ?_
        refine x_alen (pc' := 27) (N := 7) rfl rfl rfl (Eq.trans rdNI (Eq.trans rdNthr (z_N_29_0 e))) (?_ : X _ _ _ (.inl 7 :: _) _ _)
        refine x_bipush (pc' := 29) rfl rfl ?_
        refine x_isub (pc' := 30) (z := 0) rfl rfl (by decide) ?_
        refine x_icmp (a' := 2944) (pc' := 33) (z := true) rfl rfl rfl (by decide) (fun _ => ?_) (fun h => by cases h)
        refine x_iconst (pc' := 2945) rfl rfl ?_
        refine x_retz (z := true) rfl rfl ?_
        exact Qp_ok e (p := 1) (q := 6) rfl rfl rfl rfl
      refine x_if (a' := 1088) (pc' := 1084) (z := decide ((xs 3) = 0)) rfl rfl rfl rfl (fun q12 => ?_) (fun q12 => ?_)
      · refine x_iconst (pc' := 1089) rfl rfl ?_
        ((try rw [q12] at J12); (try rw [q12]); (try simp only [cd_t, cd_f, nt_t, nt_f, an_t, an_f, or_t, or_f] at J12); (try simp only [cd_t, cd_f, nt_t, nt_f, an_t, an_f, or_t, or_f]); exact J12)
      · refine x_iconst (pc' := 1085) rfl rfl ?_
        refine x_goto (pc' := 1089) rfl rfl ?_
        ((try rw [q12] at J12); (try rw [q12]); (try simp only [cd_t, cd_f, nt_t, nt_f, an_t, an_f, or_t, or_f] at J12); (try simp only [cd_t, cd_f, nt_t, nt_f, an_t, an_f, or_t, or_f]); exact J12)
    · refine x_iload_n (pc' := 6) rfl rfl rfl ?_
      refine x_iload_n (pc' := 7) rfl rfl rfl ?_
      refine x_icmp_n (a' := 21) (pc' := 10) (z := decide (500 < (xs 4))) rfl rfl rfl (ik_le _ _) (fun q37 => ?_) (fun q37 => ?_)
      · refine x_ret rfl ?_
        refine sK_v (pc' := 17) rfl ?_
        refine x_goto (pc' := 28) rfl rfl ?_
        refine x_ret rfl ?_
        refine sK_v (pc' := 21) rfl ?_
        refine x_iload (pc' := 23) rfl rfl rfl ?_
        refine x_iconst (pc' := 24) rfl rfl ?_
        refine x_bipush (pc' := 26) rfl rfl ?_
        refine x_cs (ls0 := [_, _, _]) (rest := []) rfl rfl rfl rfl ?_
        refine x_iload_n (pc' := 1) rfl rfl rfl ?_
        refine x_iload_n (pc' := 2) rfl rfl rfl ?_
        refine x_icmp (a' := 10) (pc' := 5) (z := decide ((xs 5) < 1)) rfl rfl rfl rfl (fun q38 => ?_) (fun q38 => ?_)
        · refine x_throw rfl rfl ?_
          refine sK_n (by decide +kernel) rfl ?_
          refine sK_h (h := 23) (by decide +kernel) rfl ?_
          refine x_catch (pc' := 25) (ls' := [_, _, _, _, _, _, _, _]) rfl rfl rfl rfl ?_
          refine x_iconst (pc' := 26) rfl rfl ?_
          refine x_reti rfl rfl ?_
          refine sK_i (pc' := 1060) rfl ?_
          refine x_istore (pc' := 1062) (ls' := [_, _, _, _, _, _, _]) rfl rfl rfl rfl ?_
          refine x_aload_n (pc' := 1063) rfl rfl rfl rfl rfl ?_
          refine x_aload_n (pc' := 1064) rfl rfl rfl rfl rfl ?_
          refine x_iload (pc' := 1066) rfl rfl rfl ?_
          refine x_iconst (pc' := 1067) rfl rfl ?_
          refine x_iadd (pc' := 1068) (z := 1) rfl rfl (by decide) ?_
          refine x_iald (pc' := 1069) (N := 7) (x := (io m)) rfl rfl rfl (Eq.trans rdNthr (z_N_29_0 e)) (io_in (p := 1) (N := 7) (by decide) (by decide)) (Eq.trans (congrArg (sA (sThr t) 29 0) (nn_io (p := 1) (by decide))) (Eq.trans rdAthr (Eq.trans (z_A_29_0_1 e) e0))) ?_
          refine x_aload_n (pc' := 1070) rfl rfl rfl rfl rfl ?_
          refine x_iload (pc' := 1072) rfl rfl rfl ?_
          refine x_iconst (pc' := 1073) rfl rfl ?_
          refine x_iadd (pc' := 1074) (z := 2) rfl rfl (by decide) ?_
          refine x_iald (pc' := 1075) (N := 7) (x := 3) rfl rfl rfl (Eq.trans rdNthr (z_N_29_0 e)) (io_in (p := 2) (N := 7) (by decide) (by decide)) (Eq.trans (congrArg (sA (sThr t) 29 0) (nn_io (p := 2) (by decide))) (Eq.trans rdAthr (Eq.trans (z_A_29_0_2 e) e1))) ?_
          refine x_aload_n (pc' := 1076) rfl rfl rfl rfl rfl ?_
          refine x_iload (pc' := 1078) rfl rfl rfl ?_
          refine x_iconst (pc' := 1079) rfl rfl ?_
          refine x_iadd (pc' := 1080) (z := 3) rfl rfl (by decide) ?_
          refine x_iald (pc' := 1081) (N := 7) (x := (xs 3)) rfl rfl rfl (Eq.trans rdNthr (z_N_29_0 e)) (io_in (p := 3) (N := 7) (by decide) (by decide)) (Eq.trans (congrArg (sA (sThr t) 29 0) (nn_io (p := 3) (by decide))) (Eq.trans rdAthr (z_A_29_0_3 e))) ?_
          have J39 : X 297 1089 [.inr (.inr (29, (some 0))), .inr (.inr (11, (some 0))), .inr (.inr (12, (some 0))), .inr (.inr (23, (some 0))), .inl 0, .inl 2, sJk] [.inl (bz (!(decide ((xs 3) = 0)))), .inl 3, .inl (io m), .inr (.inr (12, (some 0)))] (sThr t) Qp := by
            refine x_aload_n (pc' := 1090) rfl rfl rfl rfl rfl ?_
            refine x_iload (pc' := 1092) rfl rfl rfl ?_
            refine x_iconst (pc' := 1093) rfl rfl ?_
            refine x_iadd (pc' := 1094) (z := 4) rfl rfl (by decide) ?_
            refine x_iald (pc' := 1095) (N := 7) (x := (xs 4)) rfl rfl rfl (Eq.trans rdNthr (z_N_29_0 e)) (io_in (p := 4) (N := 7) (by decide) (by decide)) (Eq.trans (congrArg (sA (sThr t) 29 0) (nn_io (p := 4) (by decide))) (Eq.trans rdAthr (z_A_29_0_4 e))) ?_
            refine x_aload_n (pc' := 1096) rfl rfl rfl rfl rfl ?_
            refine x_iload (pc' := 1098) rfl rfl rfl ?_
            refine x_iconst (pc' := 1099) rfl rfl ?_
            refine x_iadd (pc' := 1100) (z := 5) rfl rfl (by decide) ?_
            refine x_iald (pc' := 1101) (N := 7) (x := (xs 5)) rfl rfl rfl (Eq.trans rdNthr (z_N_29_0 e)) (io_in (p := 5) (N := 7) (by decide) (by decide)) (Eq.trans (congrArg (sA (sThr t) 29 0) (nn_io (p := 5) (by decide))) (Eq.trans rdAthr (z_A_29_0_5 e))) ?_
            refine x_cv (ls0 := [_, _, _, _, _, _, sJk, sJk]) (rest := []) rfl rfl rfl rfl rfl ?_
            refine x_iload_n (pc' := 1) rfl rfl rfl ?_
            refine x_cs (ls0 := [_]) (rest := []) rfl rfl rfl rfl ?_
            refine x_iload_n (pc' := 1) rfl rfl rfl ?_
            refine x_iconst (pc' := 2) rfl rfl ?_
            refine x_iconst (pc' := 3) rfl rfl ?_
            refine x_cs (ls0 := [_, _, _]) (rest := []) rfl rfl rfl rfl ?_
            refine x_iload_n (pc' := 1) rfl rfl rfl ?_
            refine x_iload_n (pc' := 2) rfl rfl rfl ?_
            refine x_icmp (a' := 14) (pc' := 5) (z := false) rfl rfl rfl (by decide) (fun h => by cases h) (fun _ => ?_)
            refine x_iload_n (pc' := 6) rfl rfl rfl ?_
            refine x_iload_n (pc' := 7) rfl rfl rfl ?_
            refine x_icmp (a' := 14) (pc' := 10) (z := false) rfl rfl rfl (by decide) (fun h => by cases h) (fun _ => ?_)
            refine x_iconst (pc' := 11) rfl rfl ?_
            refine x_goto (pc' := 15) rfl rfl ?_
            refine x_retz (z := true) rfl rfl ?_
            refine sK_i (pc' := 6) rfl ?_
            refine x_retz (z := true) rfl rfl ?_
            refine sK_i (pc' := 4) rfl ?_
            refine x_if (a' := 31) (pc' := 7) (z := false) rfl rfl rfl (by decide) (fun h => by cases h) (fun _ => ?_)
            refine x_iload_n (pc' := 8) rfl rfl rfl ?_
            refine x_iload (pc' := 10) rfl rfl rfl ?_
            refine x_cs (ls0 := [_, _]) (rest := []) rfl rfl rfl rfl ?_
            refine x_iload_n (pc' := 1) rfl rfl rfl ?_
            refine x_iconst (pc' := 2) rfl rfl ?_
            refine x_icmp (a' := 16) (pc' := 5) (z := true) rfl rfl rfl (by decide) (fun _ => ?_) (fun h => by cases h)
            refine x_iload_n (pc' := 17) rfl rfl rfl ?_
            refine x_sipush (pc' := 20) rfl rfl ?_
            refine x_sipush (pc' := 23) rfl rfl ?_
            refine x_cs (ls0 := [_, _, _]) (rest := []) rfl rfl rfl rfl ?_
            refine x_iload_n (pc' := 1) rfl rfl rfl ?_
            refine x_iload_n (pc' := 2) rfl rfl rfl ?_
            refine x_icmp (a' := 14) (pc' := 5) (z := decide ((xs 4) < (-500))) rfl rfl rfl rfl (fun h => absurd (of_decide_eq_true h) (of_decide_eq_false q11)) (fun _ => ?_)
            refine x_iload_n (pc' := 6) rfl rfl rfl ?_
            refine x_iload_n (pc' := 7) rfl rfl rfl ?_
            refine x_icmp (a' := 14) (pc' := 10) (z := decide (500 < (xs 4))) rfl rfl rfl rfl (fun h => absurd (of_decide_eq_true h) (of_decide_eq_false q37)) (fun _ => ?_)
            refine x_iconst (pc' := 11) rfl rfl ?_
            refine x_goto (pc' := 15) rfl rfl ?_
            refine x_retz (z := true) rfl rfl ?_
            refine sK_i (pc' := 26) rfl ?_
            refine x_retz (z := true) rfl rfl ?_
            refine sK_i (pc' := 13) rfl ?_
            refine x_if (a' := 31) (pc' := 16) (z := false) rfl rfl rfl (by decide) (fun h => by cases h) (fun _ => ?_)
            refine x_iload (pc' := 18) rfl rfl rfl ?_
            refine x_iconst (pc' := 19) rfl rfl ?_
            refine x_bipush (pc' := 21) rfl rfl ?_
            refine x_cs (ls0 := [_, _, _]) (rest := []) rfl rfl rfl rfl ?_
            refine x_iload_n (pc' := 1) rfl rfl rfl ?_
            refine x_iload_n (pc' := 2) rfl rfl rfl ?_
            refine x_icmp (a' := 14) (pc' := 5) (z := decide ((xs 5) < 1)) rfl rfl rfl rfl (fun _ => ?_) (fun h => absurd (of_decide_eq_true q38) (of_decide_eq_false h))
            refine x_iconst (pc' := 15) rfl rfl ?_
            refine x_retz (z := false) rfl rfl ?_
            refine sK_i (pc' := 24) rfl ?_
            refine x_if (a' := 31) (pc' := 27) (z := true) rfl rfl rfl (by decide) (fun _ => ?_) (fun h => by cases h)
            refine x_iconst (pc' := 32) rfl rfl ?_
            refine x_istore (pc' := 34) (ls' := [_, _, _, _, _, _, _, _]) rfl rfl rfl rfl ?_
            refine x_iload_n (pc' := 35) rfl rfl rfl ?_
            refine x_cs (ls0 := [_]) (rest := []) rfl rfl rfl rfl ?_
            refine x_iload_n (pc' := 1) rfl rfl rfl ?_
            refine x_iconst (pc' := 2) rfl rfl ?_
            refine x_iconst (pc' := 3) rfl rfl ?_
            refine x_cs (ls0 := [_, _, _]) (rest := []) rfl rfl rfl rfl ?_
            refine x_iload_n (pc' := 1) rfl rfl rfl ?_
            refine x_iload_n (pc' := 2) rfl rfl rfl ?_
            refine x_icmp (a' := 14) (pc' := 5) (z := false) rfl rfl rfl (by decide) (fun h => by cases h) (fun _ => ?_)
            refine x_iload_n (pc' := 6) rfl rfl rfl ?_
            refine x_iload_n (pc' := 7) rfl rfl rfl ?_
            refine x_icmp (a' := 14) (pc' := 10) (z := false) rfl rfl rfl (by decide) (fun h => by cases h) (fun _ => ?_)
            refine x_iconst (pc' := 11) rfl rfl ?_
            refine x_goto (pc' := 15) rfl rfl ?_
            refine x_retz (z := true) rfl rfl ?_
            refine sK_i (pc' := 6) rfl ?_
            refine x_retz (z := true) rfl rfl ?_
            refine sK_i (pc' := 38) rfl ?_
            refine x_if (a' := 65) (pc' := 41) (z := false) rfl rfl rfl (by decide) (fun h => by cases h) (fun _ => ?_)
            refine x_aload_n (pc' := 42) rfl rfl rfl rfl rfl ?_
            refine x_gR (pc' := 45) (r := (some 0)) rfl rfl rfl (Eq.trans rdRthr (z_R_769_0 e)) ?_
            refine x_iload_n (pc' := 46) rfl rfl rfl ?_
            refine x_iald (pc' := 47) (N := 5) (x := 0) rfl rfl rfl (Eq.trans rdNthr (z_N_21_0 e)) (io_in (p := 3) (N := 5) (by decide) (by decide)) (Eq.trans (congrArg (sA (sThr t) 21 0) (nn_io (p := 3) (by decide))) (Eq.trans rdAthr (z_A_21_0_3 e))) ?_
            refine x_iconst (pc' := 48) rfl rfl ?_
            refine x_icmp (a' := 65) (pc' := 51) (z := true) rfl rfl rfl (by decide) (fun _ => ?_) (fun h => by cases h)
            refine x_iconst (pc' := 66) rfl rfl ?_
            refine x_istore (pc' := 68) (ls' := [_, _, _, _, _, _, _, _]) rfl rfl rfl rfl ?_
            refine x_aload_n (pc' := 69) rfl rfl rfl rfl rfl ?_
            refine x_aload_n (pc' := 70) rfl rfl rfl rfl rfl ?_
            refine x_iload_n (pc' := 71) rfl rfl rfl ?_
            refine x_iload_n (pc' := 72) rfl rfl rfl ?_
            refine x_iload (pc' := 74) rfl rfl rfl ?_
            refine x_iload (pc' := 76) rfl rfl rfl ?_
            refine x_cv (ls0 := [_, _, _, _, _, sJk]) (rest := [_]) rfl rfl rfl rfl rfl ?_
            refine x_iload_n (pc' := 1) rfl rfl rfl ?_
            refine x_cs (ls0 := [_]) (rest := []) rfl rfl rfl rfl ?_
            refine x_iload_n (pc' := 1) rfl rfl rfl ?_
            refine x_iconst (pc' := 2) rfl rfl ?_
            refine x_iconst (pc' := 3) rfl rfl ?_
            refine x_cs (ls0 := [_, _, _]) (rest := []) rfl rfl rfl rfl ?_
            refine x_iload_n (pc' := 1) rfl rfl rfl ?_
            refine x_iload_n (pc' := 2) rfl rfl rfl ?_
            refine x_icmp (a' := 14) (pc' := 5) (z := decide (m < 0)) rfl rfl rfl (ic_lt (p := m) (q := 0) (Nat.lt_trans hm (by decide)) (by decide)) (fun h => absurd (of_decide_eq_true h) (by first | decide | omega | simp)) (fun _ => ?_)
            refine x_iload_n (pc' := 6) rfl rfl rfl ?_
            refine x_iload_n (pc' := 7) rfl rfl rfl ?_
            refine x_icmp (a' := 14) (pc' := 10) (z := decide (5 < m)) rfl rfl rfl (ic_gt (p := m) (q := 5) (Nat.lt_trans hm (by decide)) (by decide)) (fun h => absurd (of_decide_eq_true h) (fun z => absurd hm (Nat.not_lt.mpr z))) (fun _ => ?_)
            refine x_iconst (pc' := 11) rfl rfl ?_
            refine x_goto (pc' := 15) rfl rfl ?_
            refine x_retz (z := true) rfl rfl ?_
            refine sK_i (pc' := 6) rfl ?_
            refine x_retz (z := true) rfl rfl ?_
            refine sK_i (pc' := 4) rfl ?_
            refine x_if (a' := 18) (pc' := 7) (z := false) rfl rfl rfl (by decide) (fun h => by cases h) (fun _ => ?_)
            refine x_iload_n (pc' := 8) rfl rfl rfl ?_
            refine x_cs (ls0 := [_]) (rest := []) rfl rfl rfl rfl ?_
            refine x_iload_n (pc' := 1) rfl rfl rfl ?_
            refine x_iconst (pc' := 2) rfl rfl ?_
            refine x_iconst (pc' := 3) rfl rfl ?_
            refine x_cs (ls0 := [_, _, _]) (rest := []) rfl rfl rfl rfl ?_
            refine x_iload_n (pc' := 1) rfl rfl rfl ?_
            refine x_iload_n (pc' := 2) rfl rfl rfl ?_
            refine x_icmp (a' := 14) (pc' := 5) (z := false) rfl rfl rfl (by decide) (fun h => by cases h) (fun _ => ?_)
            refine x_iload_n (pc' := 6) rfl rfl rfl ?_
            refine x_iload_n (pc' := 7) rfl rfl rfl ?_
            refine x_icmp (a' := 14) (pc' := 10) (z := false) rfl rfl rfl (by decide) (fun h => by cases h) (fun _ => ?_)
            refine x_iconst (pc' := 11) rfl rfl ?_
            refine x_goto (pc' := 15) rfl rfl ?_
            refine x_retz (z := true) rfl rfl ?_
            refine sK_i (pc' := 6) rfl ?_
            refine x_retz (z := true) rfl rfl ?_
            refine sK_i (pc' := 11) rfl ?_
            refine x_if (a' := 18) (pc' := 14) (z := false) rfl rfl rfl (by decide) (fun h => by cases h) (fun _ => ?_)
            refine x_iconst (pc' := 15) rfl rfl ?_
            refine x_goto (pc' := 19) rfl rfl ?_
            refine x_istore (pc' := 21) (ls' := [_, _, _, _, _, _]) rfl rfl rfl rfl ?_
            refine x_iload (pc' := 23) rfl rfl rfl ?_
            refine x_if (a' := 30) (pc' := 26) (z := true) rfl rfl rfl (by decide) (fun _ => ?_) (fun h => by cases h)
            refine x_iload_n (pc' := 31) rfl rfl rfl ?_
            refine x_if (a' := 38) (pc' := 34) (z := false) rfl rfl rfl (by decide) (fun h => by cases h) (fun _ => ?_)
            refine x_iconst (pc' := 35) rfl rfl ?_
            refine x_goto (pc' := 57) rfl rfl ?_
            refine x_reti rfl rfl ?_
            refine sK_i (pc' := 79) rfl ?_
            refine x_cv (ls0 := [_, _]) (rest := []) rfl rfl rfl rfl rfl ?_
            refine x_aload_n (pc' := 1) rfl rfl rfl rfl rfl ?_
            refine x_iload_n (pc' := 2) rfl rfl rfl ?_
            refine x_pI (pc' := 5) rfl rfl rfl ?_
            refine x_iload_n (pc' := 6) rfl rfl rfl ?_
            refine x_if (a' := 13) (pc' := 9) (z := true) rfl rfl rfl (by decide) (fun _ => ?_) (fun h => by cases h)
            refine x_iconst (pc' := 14) rfl rfl ?_
            refine x_retz (z := false) rfl rfl ?_
            refine sK_i (pc' := 82) rfl ?_
            refine x_if (a' := 102) (pc' := 85) (z := true) rfl rfl rfl (by decide) (fun _ => ?_) (fun h => by cases h)
            refine x_iconst (pc' := 103) rfl rfl ?_
            refine x_reti rfl rfl ?_
            refine sK_i (pc' := 1104) rfl ?_
            refine x_istore (pc' := 1106) (ls' := [_, _, _, _, _, _, _]) rfl rfl rfl rfl ?_
            refine x_aload_n (pc' := 1107) rfl rfl rfl rfl rfl ?_
            refine x_cv (ls0 := [_]) (rest := []) rfl rfl rfl rfl rfl ?_
            refine x_aload_n (pc' := 1) rfl rfl rfl rfl rfl ?_
            refine x_gI (pc' := 4) (x := 2) rfl rfl rfl sI_s ?_
            refine x_reti rfl rfl ?_
            refine sK_i (pc' := 1110) rfl ?_
            refine x_iload (pc' := 1112) rfl rfl rfl ?_
            refine x_icmp (a' := 1117) (pc' := 1115) (z := true) rfl rfl rfl (by decide) (fun _ => ?_) (fun h => by cases h)
            refine x_iload (pc' := 1119) rfl rfl rfl ?_
            refine x_if (a' := 1134) (pc' := 1122) (z := true) rfl rfl rfl (by decide) (fun _ => ?_) (fun h => by cases h)
            refine x_goto (pc' := 2938) rfl rfl ?_
            refine x_iinc (pc' := 2941) (y := 7) (ls' := [_, _, _, _, _, _, _]) rfl rfl rfl rfl rfl ?_
            refine x_goto (pc' := 23) rfl rfl ?_
            refine x_iload (pc' := 25) rfl rfl rfl ?_
            refine x_aload_n (pc' := 26) rfl rfl rfl rfl rfl ?_
            refine x_alen (pc' := 27) (N := 7) rfl rfl rfl (Eq.trans rdNI (Eq.trans rdNthr (z_N_29_0 e))) (?_ : X _ _ _ (.inl 7 :: _) _ _)
            refine x_bipush (pc' := 29) rfl rfl ?_
            refine x_isub (pc' := 30) (z := 0) rfl rfl (by decide) ?_
            refine x_icmp (a' := 2944) (pc' := 33) (z := true) rfl rfl rfl (by decide) (fun _ => ?_) (fun h => by cases h)
            refine x_iconst (pc' := 2945) rfl rfl ?_
            refine x_retz (z := true) rfl rfl ?_
            exact Qp_ok e (p := 1) (q := 6) rfl rfl rfl rfl
          refine x_if (a' := 1088) (pc' := 1084) (z := decide ((xs 3) = 0)) rfl rfl rfl rfl (fun q39 => ?_) (fun q39 => ?_)
          · refine x_iconst (pc' := 1089) rfl rfl ?_
            ((try rw [q39] at J39); (try rw [q39]); (try simp only [cd_t, cd_f, nt_t, nt_f, an_t, an_f, or_t, or_f] at J39); (try simp only [cd_t, cd_f, nt_t, nt_f, an_t, an_f, or_t, or_f]); exact J39)
          · refine x_iconst (pc' := 1085) rfl rfl ?_
            refine x_goto (pc' := 1089) rfl rfl ?_
            ((try rw [q39] at J39); (try rw [q39]); (try simp only [cd_t, cd_f, nt_t, nt_f, an_t, an_f, or_t, or_f] at J39); (try simp only [cd_t, cd_f, nt_t, nt_f, an_t, an_f, or_t, or_f]); exact J39)
        · refine x_iload_n (pc' := 6) rfl rfl rfl ?_
          refine x_iload_n (pc' := 7) rfl rfl rfl ?_
          refine x_icmp_n (a' := 21) (pc' := 10) (z := decide (100 < (xs 5))) rfl rfl rfl (ik_le _ _) (fun q67 => ?_) (fun q67 => ?_)
          · refine x_ret rfl ?_
            refine sK_v (pc' := 29) rfl ?_
            refine x_aload (pc' := 31) rfl rfl rfl rfl rfl ?_
            refine x_gI (pc' := 34) (x := 0) rfl rfl rfl (z_I_67_3 e) ?_
            refine x_iconst (pc' := 35) rfl rfl ?_
            refine x_icmp (a' := 42) (pc' := 38) (z := true) rfl rfl rfl (by decide) (fun _ => ?_) (fun h => by cases h)
            refine x_iconst (pc' := 43) rfl rfl ?_
            refine x_cs (ls0 := [_]) (rest := []) rfl rfl rfl rfl ?_
            refine x_iload_n (pc' := 1) rfl rfl rfl ?_
            refine x_if (a' := 15) (pc' := 4) (z := false) rfl rfl rfl (by decide) (fun h => by cases h) (fun _ => ?_)
            refine x_throw rfl rfl ?_
            refine sK_n (by decide +kernel) rfl ?_
            refine sK_h (h := 27) (by decide +kernel) rfl ?_
            refine x_catch (pc' := 29) (ls' := [_, _, _, _, _, _, _, _]) rfl rfl rfl rfl ?_
            refine x_iconst (pc' := 30) rfl rfl ?_
            refine x_reti rfl rfl ?_
            refine sK_i (pc' := 1060) rfl ?_
            refine x_istore (pc' := 1062) (ls' := [_, _, _, _, _, _, _]) rfl rfl rfl rfl ?_
            refine x_aload_n (pc' := 1063) rfl rfl rfl rfl rfl ?_
            refine x_aload_n (pc' := 1064) rfl rfl rfl rfl rfl ?_
            refine x_iload (pc' := 1066) rfl rfl rfl ?_
            refine x_iconst (pc' := 1067) rfl rfl ?_
            refine x_iadd (pc' := 1068) (z := 1) rfl rfl (by decide) ?_
            refine x_iald (pc' := 1069) (N := 7) (x := (io m)) rfl rfl rfl (Eq.trans rdNthr (z_N_29_0 e)) (io_in (p := 1) (N := 7) (by decide) (by decide)) (Eq.trans (congrArg (sA (sThr t) 29 0) (nn_io (p := 1) (by decide))) (Eq.trans rdAthr (Eq.trans (z_A_29_0_1 e) e0))) ?_
            refine x_aload_n (pc' := 1070) rfl rfl rfl rfl rfl ?_
            refine x_iload (pc' := 1072) rfl rfl rfl ?_
            refine x_iconst (pc' := 1073) rfl rfl ?_
            refine x_iadd (pc' := 1074) (z := 2) rfl rfl (by decide) ?_
            refine x_iald (pc' := 1075) (N := 7) (x := 3) rfl rfl rfl (Eq.trans rdNthr (z_N_29_0 e)) (io_in (p := 2) (N := 7) (by decide) (by decide)) (Eq.trans (congrArg (sA (sThr t) 29 0) (nn_io (p := 2) (by decide))) (Eq.trans rdAthr (Eq.trans (z_A_29_0_2 e) e1))) ?_
            refine x_aload_n (pc' := 1076) rfl rfl rfl rfl rfl ?_
            refine x_iload (pc' := 1078) rfl rfl rfl ?_
            refine x_iconst (pc' := 1079) rfl rfl ?_
            refine x_iadd (pc' := 1080) (z := 3) rfl rfl (by decide) ?_
            refine x_iald (pc' := 1081) (N := 7) (x := (xs 3)) rfl rfl rfl (Eq.trans rdNthr (z_N_29_0 e)) (io_in (p := 3) (N := 7) (by decide) (by decide)) (Eq.trans (congrArg (sA (sThr t) 29 0) (nn_io (p := 3) (by decide))) (Eq.trans rdAthr (z_A_29_0_3 e))) ?_
            have J70 : X 297 1089 [.inr (.inr (29, (some 0))), .inr (.inr (11, (some 0))), .inr (.inr (12, (some 0))), .inr (.inr (23, (some 0))), .inl 0, .inl 3, sJk] [.inl (bz (!(decide ((xs 3) = 0)))), .inl 3, .inl (io m), .inr (.inr (12, (some 0)))] (sThr t) Qp := by
              refine x_aload_n (pc' := 1090) rfl rfl rfl rfl rfl ?_
              refine x_iload (pc' := 1092) rfl rfl rfl ?_
              refine x_iconst (pc' := 1093) rfl rfl ?_
              refine x_iadd (pc' := 1094) (z := 4) rfl rfl (by decide) ?_
              refine x_iald (pc' := 1095) (N := 7) (x := (xs 4)) rfl rfl rfl (Eq.trans rdNthr (z_N_29_0 e)) (io_in (p := 4) (N := 7) (by decide) (by decide)) (Eq.trans (congrArg (sA (sThr t) 29 0) (nn_io (p := 4) (by decide))) (Eq.trans rdAthr (z_A_29_0_4 e))) ?_
              refine x_aload_n (pc' := 1096) rfl rfl rfl rfl rfl ?_
              refine x_iload (pc' := 1098) rfl rfl rfl ?_
              refine x_iconst (pc' := 1099) rfl rfl ?_
              refine x_iadd (pc' := 1100) (z := 5) rfl rfl (by decide) ?_
              refine x_iald (pc' := 1101) (N := 7) (x := (xs 5)) rfl rfl rfl (Eq.trans rdNthr (z_N_29_0 e)) (io_in (p := 5) (N := 7) (by decide) (by decide)) (Eq.trans (congrArg (sA (sThr t) 29 0) (nn_io (p := 5) (by decide))) (Eq.trans rdAthr (z_A_29_0_5 e))) ?_
              refine x_cv (ls0 := [_, _, _, _, _, _, sJk, sJk]) (rest := []) rfl rfl rfl rfl rfl ?_
              refine x_iload_n (pc' := 1) rfl rfl rfl ?_
              refine x_cs (ls0 := [_]) (rest := []) rfl rfl rfl rfl ?_
              refine x_iload_n (pc' := 1) rfl rfl rfl ?_
              refine x_iconst (pc' := 2) rfl rfl ?_
              refine x_iconst (pc' := 3) rfl rfl ?_
              refine x_cs (ls0 := [_, _, _]) (rest := []) rfl rfl rfl rfl ?_
              refine x_iload_n (pc' := 1) rfl rfl rfl ?_
              refine x_iload_n (pc' := 2) rfl rfl rfl ?_
              refine x_icmp (a' := 14) (pc' := 5) (z := false) rfl rfl rfl (by decide) (fun h => by cases h) (fun _ => ?_)
              refine x_iload_n (pc' := 6) rfl rfl rfl ?_
              refine x_iload_n (pc' := 7) rfl rfl rfl ?_
              refine x_icmp (a' := 14) (pc' := 10) (z := false) rfl rfl rfl (by decide) (fun h => by cases h) (fun _ => ?_)
              refine x_iconst (pc' := 11) rfl rfl ?_
              refine x_goto (pc' := 15) rfl rfl ?_
              refine x_retz (z := true) rfl rfl ?_
              refine sK_i (pc' := 6) rfl ?_
              refine x_retz (z := true) rfl rfl ?_
              refine sK_i (pc' := 4) rfl ?_
              refine x_if (a' := 31) (pc' := 7) (z := false) rfl rfl rfl (by decide) (fun h => by cases h) (fun _ => ?_)
              refine x_iload_n (pc' := 8) rfl rfl rfl ?_
              refine x_iload (pc' := 10) rfl rfl rfl ?_
              refine x_cs (ls0 := [_, _]) (rest := []) rfl rfl rfl rfl ?_
              refine x_iload_n (pc' := 1) rfl rfl rfl ?_
              refine x_iconst (pc' := 2) rfl rfl ?_
              refine x_icmp (a' := 16) (pc' := 5) (z := true) rfl rfl rfl (by decide) (fun _ => ?_) (fun h => by cases h)
              refine x_iload_n (pc' := 17) rfl rfl rfl ?_
              refine x_sipush (pc' := 20) rfl rfl ?_
              refine x_sipush (pc' := 23) rfl rfl ?_
              refine x_cs (ls0 := [_, _, _]) (rest := []) rfl rfl rfl rfl ?_
              refine x_iload_n (pc' := 1) rfl rfl rfl ?_
              refine x_iload_n (pc' := 2) rfl rfl rfl ?_
              refine x_icmp (a' := 14) (pc' := 5) (z := decide ((xs 4) < (-500))) rfl rfl rfl rfl (fun h => absurd (of_decide_eq_true h) (of_decide_eq_false q11)) (fun _ => ?_)
              refine x_iload_n (pc' := 6) rfl rfl rfl ?_
              refine x_iload_n (pc' := 7) rfl rfl rfl ?_
              refine x_icmp (a' := 14) (pc' := 10) (z := decide (500 < (xs 4))) rfl rfl rfl rfl (fun h => absurd (of_decide_eq_true h) (of_decide_eq_false q37)) (fun _ => ?_)
              refine x_iconst (pc' := 11) rfl rfl ?_
              refine x_goto (pc' := 15) rfl rfl ?_
              refine x_retz (z := true) rfl rfl ?_
              refine sK_i (pc' := 26) rfl ?_
              refine x_retz (z := true) rfl rfl ?_
              refine sK_i (pc' := 13) rfl ?_
              refine x_if (a' := 31) (pc' := 16) (z := false) rfl rfl rfl (by decide) (fun h => by cases h) (fun _ => ?_)
              refine x_iload (pc' := 18) rfl rfl rfl ?_
              refine x_iconst (pc' := 19) rfl rfl ?_
              refine x_bipush (pc' := 21) rfl rfl ?_
              refine x_cs (ls0 := [_, _, _]) (rest := []) rfl rfl rfl rfl ?_
              refine x_iload_n (pc' := 1) rfl rfl rfl ?_
              refine x_iload_n (pc' := 2) rfl rfl rfl ?_
              refine x_icmp (a' := 14) (pc' := 5) (z := decide ((xs 5) < 1)) rfl rfl rfl rfl (fun h => absurd (of_decide_eq_true h) (of_decide_eq_false q38)) (fun _ => ?_)
              refine x_iload_n (pc' := 6) rfl rfl rfl ?_
              refine x_iload_n (pc' := 7) rfl rfl rfl ?_
              refine x_icmp (a' := 14) (pc' := 10) (z := decide (100 < (xs 5))) rfl rfl rfl rfl (fun h => absurd (of_decide_eq_true h) (of_decide_eq_false q67)) (fun _ => ?_)
              refine x_iconst (pc' := 11) rfl rfl ?_
              refine x_goto (pc' := 15) rfl rfl ?_
              refine x_retz (z := true) rfl rfl ?_
              refine sK_i (pc' := 24) rfl ?_
              refine x_if (a' := 31) (pc' := 27) (z := false) rfl rfl rfl (by decide) (fun h => by cases h) (fun _ => ?_)
              refine x_iconst (pc' := 28) rfl rfl ?_
              refine x_goto (pc' := 32) rfl rfl ?_
              refine x_istore (pc' := 34) (ls' := [_, _, _, _, _, _, _, _]) rfl rfl rfl rfl ?_
              refine x_iload_n (pc' := 35) rfl rfl rfl ?_
              refine x_cs (ls0 := [_]) (rest := []) rfl rfl rfl rfl ?_
              refine x_iload_n (pc' := 1) rfl rfl rfl ?_
              refine x_iconst (pc' := 2) rfl rfl ?_
              refine x_iconst (pc' := 3) rfl rfl ?_
              refine x_cs (ls0 := [_, _, _]) (rest := []) rfl rfl rfl rfl ?_
              refine x_iload_n (pc' := 1) rfl rfl rfl ?_
              refine x_iload_n (pc' := 2) rfl rfl rfl ?_
              refine x_icmp (a' := 14) (pc' := 5) (z := false) rfl rfl rfl (by decide) (fun h => by cases h) (fun _ => ?_)
              refine x_iload_n (pc' := 6) rfl rfl rfl ?_
              refine x_iload_n (pc' := 7) rfl rfl rfl ?_
              refine x_icmp (a' := 14) (pc' := 10) (z := false) rfl rfl rfl (by decide) (fun h => by cases h) (fun _ => ?_)
              refine x_iconst (pc' := 11) rfl rfl ?_
              refine x_goto (pc' := 15) rfl rfl ?_
              refine x_retz (z := true) rfl rfl ?_
              refine sK_i (pc' := 6) rfl ?_
              refine x_retz (z := true) rfl rfl ?_
              refine sK_i (pc' := 38) rfl ?_
              refine x_if (a' := 65) (pc' := 41) (z := false) rfl rfl rfl (by decide) (fun h => by cases h) (fun _ => ?_)
              refine x_aload_n (pc' := 42) rfl rfl rfl rfl rfl ?_
              refine x_gR (pc' := 45) (r := (some 0)) rfl rfl rfl (Eq.trans rdRthr (z_R_769_0 e)) ?_
              refine x_iload_n (pc' := 46) rfl rfl rfl ?_
              refine x_iald (pc' := 47) (N := 5) (x := 0) rfl rfl rfl (Eq.trans rdNthr (z_N_21_0 e)) (io_in (p := 3) (N := 5) (by decide) (by decide)) (Eq.trans (congrArg (sA (sThr t) 21 0) (nn_io (p := 3) (by decide))) (Eq.trans rdAthr (z_A_21_0_3 e))) ?_
              refine x_iconst (pc' := 48) rfl rfl ?_
              refine x_icmp (a' := 65) (pc' := 51) (z := true) rfl rfl rfl (by decide) (fun _ => ?_) (fun h => by cases h)
              refine x_iconst (pc' := 66) rfl rfl ?_
              refine x_istore (pc' := 68) (ls' := [_, _, _, _, _, _, _, _]) rfl rfl rfl rfl ?_
              refine x_aload_n (pc' := 69) rfl rfl rfl rfl rfl ?_
              refine x_aload_n (pc' := 70) rfl rfl rfl rfl rfl ?_
              refine x_iload_n (pc' := 71) rfl rfl rfl ?_
              refine x_iload_n (pc' := 72) rfl rfl rfl ?_
              refine x_iload (pc' := 74) rfl rfl rfl ?_
              refine x_iload (pc' := 76) rfl rfl rfl ?_
              refine x_cv (ls0 := [_, _, _, _, _, sJk]) (rest := [_]) rfl rfl rfl rfl rfl ?_
              refine x_iload_n (pc' := 1) rfl rfl rfl ?_
              refine x_cs (ls0 := [_]) (rest := []) rfl rfl rfl rfl ?_
              refine x_iload_n (pc' := 1) rfl rfl rfl ?_
              refine x_iconst (pc' := 2) rfl rfl ?_
              refine x_iconst (pc' := 3) rfl rfl ?_
              refine x_cs (ls0 := [_, _, _]) (rest := []) rfl rfl rfl rfl ?_
              refine x_iload_n (pc' := 1) rfl rfl rfl ?_
              refine x_iload_n (pc' := 2) rfl rfl rfl ?_
              refine x_icmp (a' := 14) (pc' := 5) (z := decide (m < 0)) rfl rfl rfl (ic_lt (p := m) (q := 0) (Nat.lt_trans hm (by decide)) (by decide)) (fun h => absurd (of_decide_eq_true h) (by first | decide | omega | simp)) (fun _ => ?_)
              refine x_iload_n (pc' := 6) rfl rfl rfl ?_
              refine x_iload_n (pc' := 7) rfl rfl rfl ?_
              refine x_icmp (a' := 14) (pc' := 10) (z := decide (5 < m)) rfl rfl rfl (ic_gt (p := m) (q := 5) (Nat.lt_trans hm (by decide)) (by decide)) (fun h => absurd (of_decide_eq_true h) (fun z => absurd hm (Nat.not_lt.mpr z))) (fun _ => ?_)
              refine x_iconst (pc' := 11) rfl rfl ?_
              refine x_goto (pc' := 15) rfl rfl ?_
              refine x_retz (z := true) rfl rfl ?_
              refine sK_i (pc' := 6) rfl ?_
              refine x_retz (z := true) rfl rfl ?_
              refine sK_i (pc' := 4) rfl ?_
              refine x_if (a' := 18) (pc' := 7) (z := false) rfl rfl rfl (by decide) (fun h => by cases h) (fun _ => ?_)
              refine x_iload_n (pc' := 8) rfl rfl rfl ?_
              refine x_cs (ls0 := [_]) (rest := []) rfl rfl rfl rfl ?_
              refine x_iload_n (pc' := 1) rfl rfl rfl ?_
              refine x_iconst (pc' := 2) rfl rfl ?_
              refine x_iconst (pc' := 3) rfl rfl ?_
              refine x_cs (ls0 := [_, _, _]) (rest := []) rfl rfl rfl rfl ?_
              refine x_iload_n (pc' := 1) rfl rfl rfl ?_
              refine x_iload_n (pc' := 2) rfl rfl rfl ?_
              refine x_icmp (a' := 14) (pc' := 5) (z := false) rfl rfl rfl (by decide) (fun h => by cases h) (fun _ => ?_)
              refine x_iload_n (pc' := 6) rfl rfl rfl ?_
              refine x_iload_n (pc' := 7) rfl rfl rfl ?_
              refine x_icmp (a' := 14) (pc' := 10) (z := false) rfl rfl rfl (by decide) (fun h => by cases h) (fun _ => ?_)
              refine x_iconst (pc' := 11) rfl rfl ?_
              refine x_goto (pc' := 15) rfl rfl ?_
              refine x_retz (z := true) rfl rfl ?_
              refine sK_i (pc' := 6) rfl ?_
              refine x_retz (z := true) rfl rfl ?_
              refine sK_i (pc' := 11) rfl ?_
              refine x_if (a' := 18) (pc' := 14) (z := false) rfl rfl rfl (by decide) (fun h => by cases h) (fun _ => ?_)
              refine x_iconst (pc' := 15) rfl rfl ?_
              refine x_goto (pc' := 19) rfl rfl ?_
              refine x_istore (pc' := 21) (ls' := [_, _, _, _, _, _]) rfl rfl rfl rfl ?_
              refine x_iload (pc' := 23) rfl rfl rfl ?_
              refine x_if (a' := 30) (pc' := 26) (z := true) rfl rfl rfl (by decide) (fun _ => ?_) (fun h => by cases h)
              refine x_iload_n (pc' := 31) rfl rfl rfl ?_
              refine x_if (a' := 38) (pc' := 34) (z := true) rfl rfl rfl (by decide) (fun _ => ?_) (fun h => by cases h)
              refine x_aload_n (pc' := 39) rfl rfl rfl rfl rfl ?_
              refine x_gR (pc' := 42) (r := (some 2)) rfl rfl rfl (Eq.trans rdRthr (z_R_781_0 e)) ?_
              refine x_iload_n (pc' := 43) rfl rfl rfl ?_
              refine x_bald (pc' := 44) (N := 6) (z := false) rfl rfl (Eq.trans rdNthr (z_N_22_2 e)) (io_in (p := m) (N := 6) hm (by decide)) (Eq.trans (congrArg (sB (sThr t) 22 2) (nn_io (p := m) (Nat.lt_trans hm (by decide)))) (Eq.trans rdBthr (z_B_22_2_y e _))) ?_
              refine x_if (a' := 52) (pc' := 47) (z := false) rfl rfl rfl (by decide) (fun h => by cases h) (fun _ => ?_)
              refine x_iload (pc' := 49) rfl rfl rfl ?_
              refine x_if (a' := 56) (pc' := 52) (z := false) rfl rfl rfl (by decide) (fun h => by cases h) (fun _ => ?_)
              refine x_iconst (pc' := 53) rfl rfl ?_
              refine x_goto (pc' := 57) rfl rfl ?_
              refine x_reti rfl rfl ?_
              refine sK_i (pc' := 79) rfl ?_
              refine x_cv (ls0 := [_, _]) (rest := []) rfl rfl rfl rfl rfl ?_
              refine x_aload_n (pc' := 1) rfl rfl rfl rfl rfl ?_
              refine x_iload_n (pc' := 2) rfl rfl rfl ?_
              refine x_pI (pc' := 5) rfl rfl rfl ?_
              refine x_iload_n (pc' := 6) rfl rfl rfl ?_
              refine x_if (a' := 13) (pc' := 9) (z := true) rfl rfl rfl (by decide) (fun _ => ?_) (fun h => by cases h)
              refine x_iconst (pc' := 14) rfl rfl ?_
              refine x_retz (z := false) rfl rfl ?_
              refine sK_i (pc' := 82) rfl ?_
              refine x_if (a' := 102) (pc' := 85) (z := true) rfl rfl rfl (by decide) (fun _ => ?_) (fun h => by cases h)
              refine x_iconst (pc' := 103) rfl rfl ?_
              refine x_reti rfl rfl ?_
              refine sK_i (pc' := 1104) rfl ?_
              refine x_istore (pc' := 1106) (ls' := [_, _, _, _, _, _, _]) rfl rfl rfl rfl ?_
              refine x_aload_n (pc' := 1107) rfl rfl rfl rfl rfl ?_
              refine x_cv (ls0 := [_]) (rest := []) rfl rfl rfl rfl rfl ?_
              refine x_aload_n (pc' := 1) rfl rfl rfl rfl rfl ?_
              refine x_gI (pc' := 4) (x := 3) rfl rfl rfl sI_s ?_
              refine x_reti rfl rfl ?_
              refine sK_i (pc' := 1110) rfl ?_
              refine x_iload (pc' := 1112) rfl rfl rfl ?_
              refine x_icmp (a' := 1117) (pc' := 1115) (z := true) rfl rfl rfl (by decide) (fun _ => ?_) (fun h => by cases h)
              refine x_iload (pc' := 1119) rfl rfl rfl ?_
              refine x_if (a' := 1134) (pc' := 1122) (z := true) rfl rfl rfl (by decide) (fun _ => ?_) (fun h => by cases h)
              refine x_goto (pc' := 2938) rfl rfl ?_
              refine x_iinc (pc' := 2941) (y := 7) (ls' := [_, _, _, _, _, _, _]) rfl rfl rfl rfl rfl ?_
              refine x_goto (pc' := 23) rfl rfl ?_
              refine x_iload (pc' := 25) rfl rfl rfl ?_
              refine x_aload_n (pc' := 26) rfl rfl rfl rfl rfl ?_
              refine x_alen (pc' := 27) (N := 7) rfl rfl rfl (Eq.trans rdNI (Eq.trans rdNthr (z_N_29_0 e))) (?_ : X _ _ _ (.inl 7 :: _) _ _)
              refine x_bipush (pc' := 29) rfl rfl ?_
              refine x_isub (pc' := 30) (z := 0) rfl rfl (by decide) ?_
              refine x_icmp (a' := 2944) (pc' := 33) (z := true) rfl rfl rfl (by decide) (fun _ => ?_) (fun h => by cases h)
              refine x_iconst (pc' := 2945) rfl rfl ?_
              refine x_retz (z := true) rfl rfl ?_
              exact Qp_ok e (p := 1) (q := 6) rfl rfl rfl rfl
            refine x_if (a' := 1088) (pc' := 1084) (z := decide ((xs 3) = 0)) rfl rfl rfl rfl (fun q70 => ?_) (fun q70 => ?_)
            · refine x_iconst (pc' := 1089) rfl rfl ?_
              ((try rw [q70] at J70); (try rw [q70]); (try simp only [cd_t, cd_f, nt_t, nt_f, an_t, an_f, or_t, or_f] at J70); (try simp only [cd_t, cd_f, nt_t, nt_f, an_t, an_f, or_t, or_f]); exact J70)
            · refine x_iconst (pc' := 1085) rfl rfl ?_
              refine x_goto (pc' := 1089) rfl rfl ?_
              ((try rw [q70] at J70); (try rw [q70]); (try simp only [cd_t, cd_f, nt_t, nt_f, an_t, an_f, or_t, or_f] at J70); (try simp only [cd_t, cd_f, nt_t, nt_f, an_t, an_f, or_t, or_f]); exact J70)
          · refine x_throw rfl rfl ?_
            refine sK_n (by decide +kernel) rfl ?_
            refine sK_h (h := 23) (by decide +kernel) rfl ?_
            refine x_catch (pc' := 25) (ls' := [_, _, _, _, _, _, _, _]) rfl rfl rfl rfl ?_
            refine x_iconst (pc' := 26) rfl rfl ?_
            refine x_reti rfl rfl ?_
            refine sK_i (pc' := 1060) rfl ?_
            refine x_istore (pc' := 1062) (ls' := [_, _, _, _, _, _, _]) rfl rfl rfl rfl ?_
            refine x_aload_n (pc' := 1063) rfl rfl rfl rfl rfl ?_
            refine x_aload_n (pc' := 1064) rfl rfl rfl rfl rfl ?_
            refine x_iload (pc' := 1066) rfl rfl rfl ?_
            refine x_iconst (pc' := 1067) rfl rfl ?_
            refine x_iadd (pc' := 1068) (z := 1) rfl rfl (by decide) ?_
            refine x_iald (pc' := 1069) (N := 7) (x := (io m)) rfl rfl rfl (Eq.trans rdNthr (z_N_29_0 e)) (io_in (p := 1) (N := 7) (by decide) (by decide)) (Eq.trans (congrArg (sA (sThr t) 29 0) (nn_io (p := 1) (by decide))) (Eq.trans rdAthr (Eq.trans (z_A_29_0_1 e) e0))) ?_
            refine x_aload_n (pc' := 1070) rfl rfl rfl rfl rfl ?_
            refine x_iload (pc' := 1072) rfl rfl rfl ?_
            refine x_iconst (pc' := 1073) rfl rfl ?_
            refine x_iadd (pc' := 1074) (z := 2) rfl rfl (by decide) ?_
            refine x_iald (pc' := 1075) (N := 7) (x := 3) rfl rfl rfl (Eq.trans rdNthr (z_N_29_0 e)) (io_in (p := 2) (N := 7) (by decide) (by decide)) (Eq.trans (congrArg (sA (sThr t) 29 0) (nn_io (p := 2) (by decide))) (Eq.trans rdAthr (Eq.trans (z_A_29_0_2 e) e1))) ?_
            refine x_aload_n (pc' := 1076) rfl rfl rfl rfl rfl ?_
            refine x_iload (pc' := 1078) rfl rfl rfl ?_
            refine x_iconst (pc' := 1079) rfl rfl ?_
            refine x_iadd (pc' := 1080) (z := 3) rfl rfl (by decide) ?_
            refine x_iald (pc' := 1081) (N := 7) (x := (xs 3)) rfl rfl rfl (Eq.trans rdNthr (z_N_29_0 e)) (io_in (p := 3) (N := 7) (by decide) (by decide)) (Eq.trans (congrArg (sA (sThr t) 29 0) (nn_io (p := 3) (by decide))) (Eq.trans rdAthr (z_A_29_0_3 e))) ?_
            have J101 : X 297 1089 [.inr (.inr (29, (some 0))), .inr (.inr (11, (some 0))), .inr (.inr (12, (some 0))), .inr (.inr (23, (some 0))), .inl 0, .inl 2, sJk] [.inl (bz (!(decide ((xs 3) = 0)))), .inl 3, .inl (io m), .inr (.inr (12, (some 0)))] (sThr t) Qp := by
              refine x_aload_n (pc' := 1090) rfl rfl rfl rfl rfl ?_
              refine x_iload (pc' := 1092) rfl rfl rfl ?_
              refine x_iconst (pc' := 1093) rfl rfl ?_
              refine x_iadd (pc' := 1094) (z := 4) rfl rfl (by decide) ?_
              refine x_iald (pc' := 1095) (N := 7) (x := (xs 4)) rfl rfl rfl (Eq.trans rdNthr (z_N_29_0 e)) (io_in (p := 4) (N := 7) (by decide) (by decide)) (Eq.trans (congrArg (sA (sThr t) 29 0) (nn_io (p := 4) (by decide))) (Eq.trans rdAthr (z_A_29_0_4 e))) ?_
              refine x_aload_n (pc' := 1096) rfl rfl rfl rfl rfl ?_
              refine x_iload (pc' := 1098) rfl rfl rfl ?_
              refine x_iconst (pc' := 1099) rfl rfl ?_
              refine x_iadd (pc' := 1100) (z := 5) rfl rfl (by decide) ?_
              refine x_iald (pc' := 1101) (N := 7) (x := (xs 5)) rfl rfl rfl (Eq.trans rdNthr (z_N_29_0 e)) (io_in (p := 5) (N := 7) (by decide) (by decide)) (Eq.trans (congrArg (sA (sThr t) 29 0) (nn_io (p := 5) (by decide))) (Eq.trans rdAthr (z_A_29_0_5 e))) ?_
              refine x_cv (ls0 := [_, _, _, _, _, _, sJk, sJk]) (rest := []) rfl rfl rfl rfl rfl ?_
              refine x_iload_n (pc' := 1) rfl rfl rfl ?_
              refine x_cs (ls0 := [_]) (rest := []) rfl rfl rfl rfl ?_
              refine x_iload_n (pc' := 1) rfl rfl rfl ?_
              refine x_iconst (pc' := 2) rfl rfl ?_
              refine x_iconst (pc' := 3) rfl rfl ?_
              refine x_cs (ls0 := [_, _, _]) (rest := []) rfl rfl rfl rfl ?_
              refine x_iload_n (pc' := 1) rfl rfl rfl ?_
              refine x_iload_n (pc' := 2) rfl rfl rfl ?_
              refine x_icmp (a' := 14) (pc' := 5) (z := false) rfl rfl rfl (by decide) (fun h => by cases h) (fun _ => ?_)
              refine x_iload_n (pc' := 6) rfl rfl rfl ?_
              refine x_iload_n (pc' := 7) rfl rfl rfl ?_
              refine x_icmp (a' := 14) (pc' := 10) (z := false) rfl rfl rfl (by decide) (fun h => by cases h) (fun _ => ?_)
              refine x_iconst (pc' := 11) rfl rfl ?_
              refine x_goto (pc' := 15) rfl rfl ?_
              refine x_retz (z := true) rfl rfl ?_
              refine sK_i (pc' := 6) rfl ?_
              refine x_retz (z := true) rfl rfl ?_
              refine sK_i (pc' := 4) rfl ?_
              refine x_if (a' := 31) (pc' := 7) (z := false) rfl rfl rfl (by decide) (fun h => by cases h) (fun _ => ?_)
              refine x_iload_n (pc' := 8) rfl rfl rfl ?_
              refine x_iload (pc' := 10) rfl rfl rfl ?_
              refine x_cs (ls0 := [_, _]) (rest := []) rfl rfl rfl rfl ?_
              refine x_iload_n (pc' := 1) rfl rfl rfl ?_
              refine x_iconst (pc' := 2) rfl rfl ?_
              refine x_icmp (a' := 16) (pc' := 5) (z := true) rfl rfl rfl (by decide) (fun _ => ?_) (fun h => by cases h)
              refine x_iload_n (pc' := 17) rfl rfl rfl ?_
              refine x_sipush (pc' := 20) rfl rfl ?_
              refine x_sipush (pc' := 23) rfl rfl ?_
              refine x_cs (ls0 := [_, _, _]) (rest := []) rfl rfl rfl rfl ?_
              refine x_iload_n (pc' := 1) rfl rfl rfl ?_
              refine x_iload_n (pc' := 2) rfl rfl rfl ?_
              refine x_icmp (a' := 14) (pc' := 5) (z := decide ((xs 4) < (-500))) rfl rfl rfl rfl (fun h => absurd (of_decide_eq_true h) (of_decide_eq_false q11)) (fun _ => ?_)
              refine x_iload_n (pc' := 6) rfl rfl rfl ?_
              refine x_iload_n (pc' := 7) rfl rfl rfl ?_
              refine x_icmp (a' := 14) (pc' := 10) (z := decide (500 < (xs 4))) rfl rfl rfl rfl (fun h => absurd (of_decide_eq_true h) (of_decide_eq_false q37)) (fun _ => ?_)
              refine x_iconst (pc' := 11) rfl rfl ?_
              refine x_goto (pc' := 15) rfl rfl ?_
              refine x_retz (z := true) rfl rfl ?_
              refine sK_i (pc' := 26) rfl ?_
              refine x_retz (z := true) rfl rfl ?_
              refine sK_i (pc' := 13) rfl ?_
              refine x_if (a' := 31) (pc' := 16) (z := false) rfl rfl rfl (by decide) (fun h => by cases h) (fun _ => ?_)
              refine x_iload (pc' := 18) rfl rfl rfl ?_
              refine x_iconst (pc' := 19) rfl rfl ?_
              refine x_bipush (pc' := 21) rfl rfl ?_
              refine x_cs (ls0 := [_, _, _]) (rest := []) rfl rfl rfl rfl ?_
              refine x_iload_n (pc' := 1) rfl rfl rfl ?_
              refine x_iload_n (pc' := 2) rfl rfl rfl ?_
              refine x_icmp (a' := 14) (pc' := 5) (z := decide ((xs 5) < 1)) rfl rfl rfl rfl (fun h => absurd (of_decide_eq_true h) (of_decide_eq_false q38)) (fun _ => ?_)
              refine x_iload_n (pc' := 6) rfl rfl rfl ?_
              refine x_iload_n (pc' := 7) rfl rfl rfl ?_
              refine x_icmp (a' := 14) (pc' := 10) (z := decide (100 < (xs 5))) rfl rfl rfl rfl (fun _ => ?_) (fun h => absurd (of_decide_eq_true q67) (of_decide_eq_false h))
              refine x_iconst (pc' := 15) rfl rfl ?_
              refine x_retz (z := false) rfl rfl ?_
              refine sK_i (pc' := 24) rfl ?_
              refine x_if (a' := 31) (pc' := 27) (z := true) rfl rfl rfl (by decide) (fun _ => ?_) (fun h => by cases h)
              refine x_iconst (pc' := 32) rfl rfl ?_
              refine x_istore (pc' := 34) (ls' := [_, _, _, _, _, _, _, _]) rfl rfl rfl rfl ?_
              refine x_iload_n (pc' := 35) rfl rfl rfl ?_
              refine x_cs (ls0 := [_]) (rest := []) rfl rfl rfl rfl ?_
              refine x_iload_n (pc' := 1) rfl rfl rfl ?_
              refine x_iconst (pc' := 2) rfl rfl ?_
              refine x_iconst (pc' := 3) rfl rfl ?_
              refine x_cs (ls0 := [_, _, _]) (rest := []) rfl rfl rfl rfl ?_
              refine x_iload_n (pc' := 1) rfl rfl rfl ?_
              refine x_iload_n (pc' := 2) rfl rfl rfl ?_
              refine x_icmp (a' := 14) (pc' := 5) (z := false) rfl rfl rfl (by decide) (fun h => by cases h) (fun _ => ?_)
              refine x_iload_n (pc' := 6) rfl rfl rfl ?_
              refine x_iload_n (pc' := 7) rfl rfl rfl ?_
              refine x_icmp (a' := 14) (pc' := 10) (z := false) rfl rfl rfl (by decide) (fun h => by cases h) (fun _ => ?_)
              refine x_iconst (pc' := 11) rfl rfl ?_
              refine x_goto (pc' := 15) rfl rfl ?_
              refine x_retz (z := true) rfl rfl ?_
              refine sK_i (pc' := 6) rfl ?_
              refine x_retz (z := true) rfl rfl ?_
              refine sK_i (pc' := 38) rfl ?_
              refine x_if (a' := 65) (pc' := 41) (z := false) rfl rfl rfl (by decide) (fun h => by cases h) (fun _ => ?_)
              refine x_aload_n (pc' := 42) rfl rfl rfl rfl rfl ?_
              refine x_gR (pc' := 45) (r := (some 0)) rfl rfl rfl (Eq.trans rdRthr (z_R_769_0 e)) ?_
              refine x_iload_n (pc' := 46) rfl rfl rfl ?_
              refine x_iald (pc' := 47) (N := 5) (x := 0) rfl rfl rfl (Eq.trans rdNthr (z_N_21_0 e)) (io_in (p := 3) (N := 5) (by decide) (by decide)) (Eq.trans (congrArg (sA (sThr t) 21 0) (nn_io (p := 3) (by decide))) (Eq.trans rdAthr (z_A_21_0_3 e))) ?_
              refine x_iconst (pc' := 48) rfl rfl ?_
              refine x_icmp (a' := 65) (pc' := 51) (z := true) rfl rfl rfl (by decide) (fun _ => ?_) (fun h => by cases h)
              refine x_iconst (pc' := 66) rfl rfl ?_
              refine x_istore (pc' := 68) (ls' := [_, _, _, _, _, _, _, _]) rfl rfl rfl rfl ?_
              refine x_aload_n (pc' := 69) rfl rfl rfl rfl rfl ?_
              refine x_aload_n (pc' := 70) rfl rfl rfl rfl rfl ?_
              refine x_iload_n (pc' := 71) rfl rfl rfl ?_
              refine x_iload_n (pc' := 72) rfl rfl rfl ?_
              refine x_iload (pc' := 74) rfl rfl rfl ?_
              refine x_iload (pc' := 76) rfl rfl rfl ?_
              refine x_cv (ls0 := [_, _, _, _, _, sJk]) (rest := [_]) rfl rfl rfl rfl rfl ?_
              refine x_iload_n (pc' := 1) rfl rfl rfl ?_
              refine x_cs (ls0 := [_]) (rest := []) rfl rfl rfl rfl ?_
              refine x_iload_n (pc' := 1) rfl rfl rfl ?_
              refine x_iconst (pc' := 2) rfl rfl ?_
              refine x_iconst (pc' := 3) rfl rfl ?_
              refine x_cs (ls0 := [_, _, _]) (rest := []) rfl rfl rfl rfl ?_
              refine x_iload_n (pc' := 1) rfl rfl rfl ?_
              refine x_iload_n (pc' := 2) rfl rfl rfl ?_
              refine x_icmp (a' := 14) (pc' := 5) (z := decide (m < 0)) rfl rfl rfl (ic_lt (p := m) (q := 0) (Nat.lt_trans hm (by decide)) (by decide)) (fun h => absurd (of_decide_eq_true h) (by first | decide | omega | simp)) (fun _ => ?_)
              refine x_iload_n (pc' := 6) rfl rfl rfl ?_
              refine x_iload_n (pc' := 7) rfl rfl rfl ?_
              refine x_icmp (a' := 14) (pc' := 10) (z := decide (5 < m)) rfl rfl rfl (ic_gt (p := m) (q := 5) (Nat.lt_trans hm (by decide)) (by decide)) (fun h => absurd (of_decide_eq_true h) (fun z => absurd hm (Nat.not_lt.mpr z))) (fun _ => ?_)
              refine x_iconst (pc' := 11) rfl rfl ?_
              refine x_goto (pc' := 15) rfl rfl ?_
              refine x_retz (z := true) rfl rfl ?_
              refine sK_i (pc' := 6) rfl ?_
              refine x_retz (z := true) rfl rfl ?_
              refine sK_i (pc' := 4) rfl ?_
              refine x_if (a' := 18) (pc' := 7) (z := false) rfl rfl rfl (by decide) (fun h => by cases h) (fun _ => ?_)
              refine x_iload_n (pc' := 8) rfl rfl rfl ?_
              refine x_cs (ls0 := [_]) (rest := []) rfl rfl rfl rfl ?_
              refine x_iload_n (pc' := 1) rfl rfl rfl ?_
              refine x_iconst (pc' := 2) rfl rfl ?_
              refine x_iconst (pc' := 3) rfl rfl ?_
              refine x_cs (ls0 := [_, _, _]) (rest := []) rfl rfl rfl rfl ?_
              refine x_iload_n (pc' := 1) rfl rfl rfl ?_
              refine x_iload_n (pc' := 2) rfl rfl rfl ?_
              refine x_icmp (a' := 14) (pc' := 5) (z := false) rfl rfl rfl (by decide) (fun h => by cases h) (fun _ => ?_)
              refine x_iload_n (pc' := 6) rfl rfl rfl ?_
              refine x_iload_n (pc' := 7) rfl rfl rfl ?_
              refine x_icmp (a' := 14) (pc' := 10) (z := false) rfl rfl rfl (by decide) (fun h => by cases h) (fun _ => ?_)
              refine x_iconst (pc' := 11) rfl rfl ?_
              refine x_goto (pc' := 15) rfl rfl ?_
              refine x_retz (z := true) rfl rfl ?_
              refine sK_i (pc' := 6) rfl ?_
              refine x_retz (z := true) rfl rfl ?_
              refine sK_i (pc' := 11) rfl ?_
              refine x_if (a' := 18) (pc' := 14) (z := false) rfl rfl rfl (by decide) (fun h => by cases h) (fun _ => ?_)
              refine x_iconst (pc' := 15) rfl rfl ?_
              refine x_goto (pc' := 19) rfl rfl ?_
              refine x_istore (pc' := 21) (ls' := [_, _, _, _, _, _]) rfl rfl rfl rfl ?_
              refine x_iload (pc' := 23) rfl rfl rfl ?_
              refine x_if (a' := 30) (pc' := 26) (z := true) rfl rfl rfl (by decide) (fun _ => ?_) (fun h => by cases h)
              refine x_iload_n (pc' := 31) rfl rfl rfl ?_
              refine x_if (a' := 38) (pc' := 34) (z := false) rfl rfl rfl (by decide) (fun h => by cases h) (fun _ => ?_)
              refine x_iconst (pc' := 35) rfl rfl ?_
              refine x_goto (pc' := 57) rfl rfl ?_
              refine x_reti rfl rfl ?_
              refine sK_i (pc' := 79) rfl ?_
              refine x_cv (ls0 := [_, _]) (rest := []) rfl rfl rfl rfl rfl ?_
              refine x_aload_n (pc' := 1) rfl rfl rfl rfl rfl ?_
              refine x_iload_n (pc' := 2) rfl rfl rfl ?_
              refine x_pI (pc' := 5) rfl rfl rfl ?_
              refine x_iload_n (pc' := 6) rfl rfl rfl ?_
              refine x_if (a' := 13) (pc' := 9) (z := true) rfl rfl rfl (by decide) (fun _ => ?_) (fun h => by cases h)
              refine x_iconst (pc' := 14) rfl rfl ?_
              refine x_retz (z := false) rfl rfl ?_
              refine sK_i (pc' := 82) rfl ?_
              refine x_if (a' := 102) (pc' := 85) (z := true) rfl rfl rfl (by decide) (fun _ => ?_) (fun h => by cases h)
              refine x_iconst (pc' := 103) rfl rfl ?_
              refine x_reti rfl rfl ?_
              refine sK_i (pc' := 1104) rfl ?_
              refine x_istore (pc' := 1106) (ls' := [_, _, _, _, _, _, _]) rfl rfl rfl rfl ?_
              refine x_aload_n (pc' := 1107) rfl rfl rfl rfl rfl ?_
              refine x_cv (ls0 := [_]) (rest := []) rfl rfl rfl rfl rfl ?_
              refine x_aload_n (pc' := 1) rfl rfl rfl rfl rfl ?_
              refine x_gI (pc' := 4) (x := 2) rfl rfl rfl sI_s ?_
              refine x_reti rfl rfl ?_
              refine sK_i (pc' := 1110) rfl ?_
              refine x_iload (pc' := 1112) rfl rfl rfl ?_
              refine x_icmp (a' := 1117) (pc' := 1115) (z := true) rfl rfl rfl (by decide) (fun _ => ?_) (fun h => by cases h)
              refine x_iload (pc' := 1119) rfl rfl rfl ?_
              refine x_if (a' := 1134) (pc' := 1122) (z := true) rfl rfl rfl (by decide) (fun _ => ?_) (fun h => by cases h)
              refine x_goto (pc' := 2938) rfl rfl ?_
              refine x_iinc (pc' := 2941) (y := 7) (ls' := [_, _, _, _, _, _, _]) rfl rfl rfl rfl rfl ?_
              refine x_goto (pc' := 23) rfl rfl ?_
              refine x_iload (pc' := 25) rfl rfl rfl ?_
              refine x_aload_n (pc' := 26) rfl rfl rfl rfl rfl ?_
              refine x_alen (pc' := 27) (N := 7) rfl rfl rfl (Eq.trans rdNI (Eq.trans rdNthr (z_N_29_0 e))) (?_ : X _ _ _ (.inl 7 :: _) _ _)
              refine x_bipush (pc' := 29) rfl rfl ?_
              refine x_isub (pc' := 30) (z := 0) rfl rfl (by decide) ?_
              refine x_icmp (a' := 2944) (pc' := 33) (z := true) rfl rfl rfl (by decide) (fun _ => ?_) (fun h => by cases h)
              refine x_iconst (pc' := 2945) rfl rfl ?_
              refine x_retz (z := true) rfl rfl ?_
              exact Qp_ok e (p := 1) (q := 6) rfl rfl rfl rfl
            refine x_if (a' := 1088) (pc' := 1084) (z := decide ((xs 3) = 0)) rfl rfl rfl rfl (fun q101 => ?_) (fun q101 => ?_)
            · refine x_iconst (pc' := 1089) rfl rfl ?_
              ((try rw [q101] at J101); (try rw [q101]); (try simp only [cd_t, cd_f, nt_t, nt_f, an_t, an_f, or_t, or_f] at J101); (try simp only [cd_t, cd_f, nt_t, nt_f, an_t, an_f, or_t, or_f]); exact J101)
            · refine x_iconst (pc' := 1085) rfl rfl ?_
              refine x_goto (pc' := 1089) rfl rfl ?_
              ((try rw [q101] at J101); (try rw [q101]); (try simp only [cd_t, cd_f, nt_t, nt_f, an_t, an_f, or_t, or_f] at J101); (try simp only [cd_t, cd_f, nt_t, nt_f, an_t, an_f, or_t, or_f]); exact J101)
      · refine x_throw rfl rfl ?_
        refine sK_n (by decide +kernel) rfl ?_
        refine sK_n (by decide +kernel) rfl ?_
        refine sK_h (h := 23) (by decide +kernel) rfl ?_
        refine x_catch (pc' := 25) (ls' := [_, _, _, _, _, _, _, _]) rfl rfl rfl rfl ?_
        refine x_iconst (pc' := 26) rfl rfl ?_
        refine x_reti rfl rfl ?_
        refine sK_i (pc' := 1060) rfl ?_
        refine x_istore (pc' := 1062) (ls' := [_, _, _, _, _, _, _]) rfl rfl rfl rfl ?_
        refine x_aload_n (pc' := 1063) rfl rfl rfl rfl rfl ?_
        refine x_aload_n (pc' := 1064) rfl rfl rfl rfl rfl ?_
        refine x_iload (pc' := 1066) rfl rfl rfl ?_
        refine x_iconst (pc' := 1067) rfl rfl ?_
        refine x_iadd (pc' := 1068) (z := 1) rfl rfl (by decide) ?_
        refine x_iald (pc' := 1069) (N := 7) (x := (io m)) rfl rfl rfl (Eq.trans rdNthr (z_N_29_0 e)) (io_in (p := 1) (N := 7) (by decide) (by decide)) (Eq.trans (congrArg (sA (sThr t) 29 0) (nn_io (p := 1) (by decide))) (Eq.trans rdAthr (Eq.trans (z_A_29_0_1 e) e0))) ?_
        refine x_aload_n (pc' := 1070) rfl rfl rfl rfl rfl ?_
        refine x_iload (pc' := 1072) rfl rfl rfl ?_
        refine x_iconst (pc' := 1073) rfl rfl ?_
        refine x_iadd (pc' := 1074) (z := 2) rfl rfl (by decide) ?_
        refine x_iald (pc' := 1075) (N := 7) (x := 3) rfl rfl rfl (Eq.trans rdNthr (z_N_29_0 e)) (io_in (p := 2) (N := 7) (by decide) (by decide)) (Eq.trans (congrArg (sA (sThr t) 29 0) (nn_io (p := 2) (by decide))) (Eq.trans rdAthr (Eq.trans (z_A_29_0_2 e) e1))) ?_
        refine x_aload_n (pc' := 1076) rfl rfl rfl rfl rfl ?_
        refine x_iload (pc' := 1078) rfl rfl rfl ?_
        refine x_iconst (pc' := 1079) rfl rfl ?_
        refine x_iadd (pc' := 1080) (z := 3) rfl rfl (by decide) ?_
        refine x_iald (pc' := 1081) (N := 7) (x := (xs 3)) rfl rfl rfl (Eq.trans rdNthr (z_N_29_0 e)) (io_in (p := 3) (N := 7) (by decide) (by decide)) (Eq.trans (congrArg (sA (sThr t) 29 0) (nn_io (p := 3) (by decide))) (Eq.trans rdAthr (z_A_29_0_3 e))) ?_
        have J130 : X 297 1089 [.inr (.inr (29, (some 0))), .inr (.inr (11, (some 0))), .inr (.inr (12, (some 0))), .inr (.inr (23, (some 0))), .inl 0, .inl 2, sJk] [.inl (bz (!(decide ((xs 3) = 0)))), .inl 3, .inl (io m), .inr (.inr (12, (some 0)))] (sThr t) Qp := by
          refine x_aload_n (pc' := 1090) rfl rfl rfl rfl rfl ?_
          refine x_iload (pc' := 1092) rfl rfl rfl ?_
          refine x_iconst (pc' := 1093) rfl rfl ?_
          refine x_iadd (pc' := 1094) (z := 4) rfl rfl (by decide) ?_
          refine x_iald (pc' := 1095) (N := 7) (x := (xs 4)) rfl rfl rfl (Eq.trans rdNthr (z_N_29_0 e)) (io_in (p := 4) (N := 7) (by decide) (by decide)) (Eq.trans (congrArg (sA (sThr t) 29 0) (nn_io (p := 4) (by decide))) (Eq.trans rdAthr (z_A_29_0_4 e))) ?_
          refine x_aload_n (pc' := 1096) rfl rfl rfl rfl rfl ?_
          refine x_iload (pc' := 1098) rfl rfl rfl ?_
          refine x_iconst (pc' := 1099) rfl rfl ?_
          refine x_iadd (pc' := 1100) (z := 5) rfl rfl (by decide) ?_
          refine x_iald (pc' := 1101) (N := 7) (x := (xs 5)) rfl rfl rfl (Eq.trans rdNthr (z_N_29_0 e)) (io_in (p := 5) (N := 7) (by decide) (by decide)) (Eq.trans (congrArg (sA (sThr t) 29 0) (nn_io (p := 5) (by decide))) (Eq.trans rdAthr (z_A_29_0_5 e))) ?_
          refine x_cv (ls0 := [_, _, _, _, _, _, sJk, sJk]) (rest := []) rfl rfl rfl rfl rfl ?_
          refine x_iload_n (pc' := 1) rfl rfl rfl ?_
          refine x_cs (ls0 := [_]) (rest := []) rfl rfl rfl rfl ?_
          refine x_iload_n (pc' := 1) rfl rfl rfl ?_
          refine x_iconst (pc' := 2) rfl rfl ?_
          refine x_iconst (pc' := 3) rfl rfl ?_
          refine x_cs (ls0 := [_, _, _]) (rest := []) rfl rfl rfl rfl ?_
          refine x_iload_n (pc' := 1) rfl rfl rfl ?_
          refine x_iload_n (pc' := 2) rfl rfl rfl ?_
          refine x_icmp (a' := 14) (pc' := 5) (z := false) rfl rfl rfl (by decide) (fun h => by cases h) (fun _ => ?_)
          refine x_iload_n (pc' := 6) rfl rfl rfl ?_
          refine x_iload_n (pc' := 7) rfl rfl rfl ?_
          refine x_icmp (a' := 14) (pc' := 10) (z := false) rfl rfl rfl (by decide) (fun h => by cases h) (fun _ => ?_)
          refine x_iconst (pc' := 11) rfl rfl ?_
          refine x_goto (pc' := 15) rfl rfl ?_
          refine x_retz (z := true) rfl rfl ?_
          refine sK_i (pc' := 6) rfl ?_
          refine x_retz (z := true) rfl rfl ?_
          refine sK_i (pc' := 4) rfl ?_
          refine x_if (a' := 31) (pc' := 7) (z := false) rfl rfl rfl (by decide) (fun h => by cases h) (fun _ => ?_)
          refine x_iload_n (pc' := 8) rfl rfl rfl ?_
          refine x_iload (pc' := 10) rfl rfl rfl ?_
          refine x_cs (ls0 := [_, _]) (rest := []) rfl rfl rfl rfl ?_
          refine x_iload_n (pc' := 1) rfl rfl rfl ?_
          refine x_iconst (pc' := 2) rfl rfl ?_
          refine x_icmp (a' := 16) (pc' := 5) (z := true) rfl rfl rfl (by decide) (fun _ => ?_) (fun h => by cases h)
          refine x_iload_n (pc' := 17) rfl rfl rfl ?_
          refine x_sipush (pc' := 20) rfl rfl ?_
          refine x_sipush (pc' := 23) rfl rfl ?_
          refine x_cs (ls0 := [_, _, _]) (rest := []) rfl rfl rfl rfl ?_
          refine x_iload_n (pc' := 1) rfl rfl rfl ?_
          refine x_iload_n (pc' := 2) rfl rfl rfl ?_
          refine x_icmp (a' := 14) (pc' := 5) (z := decide ((xs 4) < (-500))) rfl rfl rfl rfl (fun h => absurd (of_decide_eq_true h) (of_decide_eq_false q11)) (fun _ => ?_)
          refine x_iload_n (pc' := 6) rfl rfl rfl ?_
          refine x_iload_n (pc' := 7) rfl rfl rfl ?_
          refine x_icmp (a' := 14) (pc' := 10) (z := decide (500 < (xs 4))) rfl rfl rfl rfl (fun _ => ?_) (fun h => absurd (of_decide_eq_true q37) (of_decide_eq_false h))
          refine x_iconst (pc' := 15) rfl rfl ?_
          refine x_retz (z := false) rfl rfl ?_
          refine sK_i (pc' := 26) rfl ?_
          refine x_retz (z := false) rfl rfl ?_
          refine sK_i (pc' := 13) rfl ?_
          refine x_if (a' := 31) (pc' := 16) (z := true) rfl rfl rfl (by decide) (fun _ => ?_) (fun h => by cases h)
          refine x_iconst (pc' := 32) rfl rfl ?_
          refine x_istore (pc' := 34) (ls' := [_, _, _, _, _, _, _, _]) rfl rfl rfl rfl ?_
          refine x_iload_n (pc' := 35) rfl rfl rfl ?_
          refine x_cs (ls0 := [_]) (rest := []) rfl rfl rfl rfl ?_
          refine x_iload_n (pc' := 1) rfl rfl rfl ?_
          refine x_iconst (pc' := 2) rfl rfl ?_
          refine x_iconst (pc' := 3) rfl rfl ?_
          refine x_cs (ls0 := [_, _, _]) (rest := []) rfl rfl rfl rfl ?_
          refine x_iload_n (pc' := 1) rfl rfl rfl ?_
          refine x_iload_n (pc' := 2) rfl rfl rfl ?_
          refine x_icmp (a' := 14) (pc' := 5) (z := false) rfl rfl rfl (by decide) (fun h => by cases h) (fun _ => ?_)
          refine x_iload_n (pc' := 6) rfl rfl rfl ?_
          refine x_iload_n (pc' := 7) rfl rfl rfl ?_
          refine x_icmp (a' := 14) (pc' := 10) (z := false) rfl rfl rfl (by decide) (fun h => by cases h) (fun _ => ?_)
          refine x_iconst (pc' := 11) rfl rfl ?_
          refine x_goto (pc' := 15) rfl rfl ?_
          refine x_retz (z := true) rfl rfl ?_
          refine sK_i (pc' := 6) rfl ?_
          refine x_retz (z := true) rfl rfl ?_
          refine sK_i (pc' := 38) rfl ?_
          refine x_if (a' := 65) (pc' := 41) (z := false) rfl rfl rfl (by decide) (fun h => by cases h) (fun _ => ?_)
          refine x_aload_n (pc' := 42) rfl rfl rfl rfl rfl ?_
          refine x_gR (pc' := 45) (r := (some 0)) rfl rfl rfl (Eq.trans rdRthr (z_R_769_0 e)) ?_
          refine x_iload_n (pc' := 46) rfl rfl rfl ?_
          refine x_iald (pc' := 47) (N := 5) (x := 0) rfl rfl rfl (Eq.trans rdNthr (z_N_21_0 e)) (io_in (p := 3) (N := 5) (by decide) (by decide)) (Eq.trans (congrArg (sA (sThr t) 21 0) (nn_io (p := 3) (by decide))) (Eq.trans rdAthr (z_A_21_0_3 e))) ?_
          refine x_iconst (pc' := 48) rfl rfl ?_
          refine x_icmp (a' := 65) (pc' := 51) (z := true) rfl rfl rfl (by decide) (fun _ => ?_) (fun h => by cases h)
          refine x_iconst (pc' := 66) rfl rfl ?_
          refine x_istore (pc' := 68) (ls' := [_, _, _, _, _, _, _, _]) rfl rfl rfl rfl ?_
          refine x_aload_n (pc' := 69) rfl rfl rfl rfl rfl ?_
          refine x_aload_n (pc' := 70) rfl rfl rfl rfl rfl ?_
          refine x_iload_n (pc' := 71) rfl rfl rfl ?_
          refine x_iload_n (pc' := 72) rfl rfl rfl ?_
          refine x_iload (pc' := 74) rfl rfl rfl ?_
          refine x_iload (pc' := 76) rfl rfl rfl ?_
          refine x_cv (ls0 := [_, _, _, _, _, sJk]) (rest := [_]) rfl rfl rfl rfl rfl ?_
          refine x_iload_n (pc' := 1) rfl rfl rfl ?_
          refine x_cs (ls0 := [_]) (rest := []) rfl rfl rfl rfl ?_
          refine x_iload_n (pc' := 1) rfl rfl rfl ?_
          refine x_iconst (pc' := 2) rfl rfl ?_
          refine x_iconst (pc' := 3) rfl rfl ?_
          refine x_cs (ls0 := [_, _, _]) (rest := []) rfl rfl rfl rfl ?_
          refine x_iload_n (pc' := 1) rfl rfl rfl ?_
          refine x_iload_n (pc' := 2) rfl rfl rfl ?_
          refine x_icmp (a' := 14) (pc' := 5) (z := decide (m < 0)) rfl rfl rfl (ic_lt (p := m) (q := 0) (Nat.lt_trans hm (by decide)) (by decide)) (fun h => absurd (of_decide_eq_true h) (by first | decide | omega | simp)) (fun _ => ?_)
          refine x_iload_n (pc' := 6) rfl rfl rfl ?_
          refine x_iload_n (pc' := 7) rfl rfl rfl ?_
          refine x_icmp (a' := 14) (pc' := 10) (z := decide (5 < m)) rfl rfl rfl (ic_gt (p := m) (q := 5) (Nat.lt_trans hm (by decide)) (by decide)) (fun h => absurd (of_decide_eq_true h) (fun z => absurd hm (Nat.not_lt.mpr z))) (fun _ => ?_)
          refine x_iconst (pc' := 11) rfl rfl ?_
          refine x_goto (pc' := 15) rfl rfl ?_
          refine x_retz (z := true) rfl rfl ?_
          refine sK_i (pc' := 6) rfl ?_
          refine x_retz (z := true) rfl rfl ?_
          refine sK_i (pc' := 4) rfl ?_
          refine x_if (a' := 18) (pc' := 7) (z := false) rfl rfl rfl (by decide) (fun h => by cases h) (fun _ => ?_)
          refine x_iload_n (pc' := 8) rfl rfl rfl ?_
          refine x_cs (ls0 := [_]) (rest := []) rfl rfl rfl rfl ?_
          refine x_iload_n (pc' := 1) rfl rfl rfl ?_
          refine x_iconst (pc' := 2) rfl rfl ?_
          refine x_iconst (pc' := 3) rfl rfl ?_
          refine x_cs (ls0 := [_, _, _]) (rest := []) rfl rfl rfl rfl ?_
          refine x_iload_n (pc' := 1) rfl rfl rfl ?_
          refine x_iload_n (pc' := 2) rfl rfl rfl ?_
          refine x_icmp (a' := 14) (pc' := 5) (z := false) rfl rfl rfl (by decide) (fun h => by cases h) (fun _ => ?_)
          refine x_iload_n (pc' := 6) rfl rfl rfl ?_
          refine x_iload_n (pc' := 7) rfl rfl rfl ?_
          refine x_icmp (a' := 14) (pc' := 10) (z := false) rfl rfl rfl (by decide) (fun h => by cases h) (fun _ => ?_)
          refine x_iconst (pc' := 11) rfl rfl ?_
          refine x_goto (pc' := 15) rfl rfl ?_
          refine x_retz (z := true) rfl rfl ?_
          refine sK_i (pc' := 6) rfl ?_
          refine x_retz (z := true) rfl rfl ?_
          refine sK_i (pc' := 11) rfl ?_
          refine x_if (a' := 18) (pc' := 14) (z := false) rfl rfl rfl (by decide) (fun h => by cases h) (fun _ => ?_)
          refine x_iconst (pc' := 15) rfl rfl ?_
          refine x_goto (pc' := 19) rfl rfl ?_
          refine x_istore (pc' := 21) (ls' := [_, _, _, _, _, _]) rfl rfl rfl rfl ?_
          refine x_iload (pc' := 23) rfl rfl rfl ?_
          refine x_if (a' := 30) (pc' := 26) (z := true) rfl rfl rfl (by decide) (fun _ => ?_) (fun h => by cases h)
          refine x_iload_n (pc' := 31) rfl rfl rfl ?_
          refine x_if (a' := 38) (pc' := 34) (z := false) rfl rfl rfl (by decide) (fun h => by cases h) (fun _ => ?_)
          refine x_iconst (pc' := 35) rfl rfl ?_
          refine x_goto (pc' := 57) rfl rfl ?_
          refine x_reti rfl rfl ?_
          refine sK_i (pc' := 79) rfl ?_
          refine x_cv (ls0 := [_, _]) (rest := []) rfl rfl rfl rfl rfl ?_
          refine x_aload_n (pc' := 1) rfl rfl rfl rfl rfl ?_
          refine x_iload_n (pc' := 2) rfl rfl rfl ?_
          refine x_pI (pc' := 5) rfl rfl rfl ?_
          refine x_iload_n (pc' := 6) rfl rfl rfl ?_
          refine x_if (a' := 13) (pc' := 9) (z := true) rfl rfl rfl (by decide) (fun _ => ?_) (fun h => by cases h)
          refine x_iconst (pc' := 14) rfl rfl ?_
          refine x_retz (z := false) rfl rfl ?_
          refine sK_i (pc' := 82) rfl ?_
          refine x_if (a' := 102) (pc' := 85) (z := true) rfl rfl rfl (by decide) (fun _ => ?_) (fun h => by cases h)
          refine x_iconst (pc' := 103) rfl rfl ?_
          refine x_reti rfl rfl ?_
          refine sK_i (pc' := 1104) rfl ?_
          refine x_istore (pc' := 1106) (ls' := [_, _, _, _, _, _, _]) rfl rfl rfl rfl ?_
          refine x_aload_n (pc' := 1107) rfl rfl rfl rfl rfl ?_
          refine x_cv (ls0 := [_]) (rest := []) rfl rfl rfl rfl rfl ?_
          refine x_aload_n (pc' := 1) rfl rfl rfl rfl rfl ?_
          refine x_gI (pc' := 4) (x := 2) rfl rfl rfl sI_s ?_
          refine x_reti rfl rfl ?_
          refine sK_i (pc' := 1110) rfl ?_
          refine x_iload (pc' := 1112) rfl rfl rfl ?_
          refine x_icmp (a' := 1117) (pc' := 1115) (z := true) rfl rfl rfl (by decide) (fun _ => ?_) (fun h => by cases h)
          refine x_iload (pc' := 1119) rfl rfl rfl ?_
          refine x_if (a' := 1134) (pc' := 1122) (z := true) rfl rfl rfl (by decide) (fun _ => ?_) (fun h => by cases h)
          refine x_goto (pc' := 2938) rfl rfl ?_
          refine x_iinc (pc' := 2941) (y := 7) (ls' := [_, _, _, _, _, _, _]) rfl rfl rfl rfl rfl ?_
          refine x_goto (pc' := 23) rfl rfl ?_
          refine x_iload (pc' := 25) rfl rfl rfl ?_
          refine x_aload_n (pc' := 26) rfl rfl rfl rfl rfl ?_
          refine x_alen (pc' := 27) (N := 7) rfl rfl rfl (Eq.trans rdNI (Eq.trans rdNthr (z_N_29_0 e))) (?_ : X _ _ _ (.inl 7 :: _) _ _)
          refine x_bipush (pc' := 29) rfl rfl ?_
          refine x_isub (pc' := 30) (z := 0) rfl rfl (by decide) ?_
          refine x_icmp (a' := 2944) (pc' := 33) (z := true) rfl rfl rfl (by decide) (fun _ => ?_) (fun h => by cases h)
          refine x_iconst (pc' := 2945) rfl rfl ?_
          refine x_retz (z := true) rfl rfl ?_
          exact Qp_ok e (p := 1) (q := 6) rfl rfl rfl rfl
        refine x_if (a' := 1088) (pc' := 1084) (z := decide ((xs 3) = 0)) rfl rfl rfl rfl (fun q130 => ?_) (fun q130 => ?_)
        · refine x_iconst (pc' := 1089) rfl rfl ?_
          ((try rw [q130] at J130); (try rw [q130]); (try simp only [cd_t, cd_f, nt_t, nt_f, an_t, an_f, or_t, or_f] at J130); (try simp only [cd_t, cd_f, nt_t, nt_f, an_t, an_f, or_t, or_f]); exact J130)
        · refine x_iconst (pc' := 1085) rfl rfl ?_
          refine x_goto (pc' := 1089) rfl rfl ?_
          ((try rw [q130] at J130); (try rw [q130]); (try simp only [cd_t, cd_f, nt_t, nt_f, an_t, an_f, or_t, or_f] at J130); (try simp only [cd_t, cd_f, nt_t, nt_f, an_t, an_f, or_t, or_f]); exact J130)
  refine x_if (a' := 1043) (pc' := 1039) (z := decide ((xs 3) = 0)) rfl rfl rfl rfl (fun q3 => ?_) (fun q3 => ?_)
  · refine x_iconst (pc' := 1044) rfl rfl ?_
    ((try rw [q3] at J3); (try rw [q3]); (try simp only [cd_t, cd_f, nt_t, nt_f, an_t, an_f, or_t, or_f] at J3); (try simp only [cd_t, cd_f, nt_t, nt_f, an_t, an_f, or_t, or_f]); exact J3)
  · refine x_iconst (pc' := 1040) rfl rfl ?_
    refine x_goto (pc' := 1044) rfl rfl ?_
    ((try rw [q3] at J3); (try rw [q3]); (try simp only [cd_t, cd_f, nt_t, nt_f, an_t, an_f, or_t, or_f] at J3); (try simp only [cd_t, cd_f, nt_t, nt_f, an_t, an_f, or_t, or_f]); exact J3)
set_option maxHeartbeats 4000000 in
set_option maxRecDepth 10000 in
theorem v_11_v_4_i_i_i {t : sT} {xs : Nat → Int32} {m : Nat}
    (e : t = T16 7 xs)
    (hk : ((xs 0) &&& 63) = 11)
    (hm : m < 6)
    (e0 : xs 1 = io m)
    (e1 : xs 2 = 4) :
    X 297 23 [.inr (.inr (29, (some 0))), .inr (.inr (11, (some 0))), .inr (.inr (12, (some 0))), .inr (.inr (23, (some 0))), .inl 0, sJk, sJk] [] t Qp := by
  refine x_iload (pc' := 25) rfl rfl rfl ?_
  refine x_aload_n (pc' := 26) rfl rfl rfl rfl rfl ?_
  refine x_alen (pc' := 27) (N := 7) rfl rfl rfl (z_N_29_0 e) (?_ : X _ _ _ (.inl 7 :: _) _ _)
  refine x_bipush (pc' := 29) rfl rfl ?_
  refine x_isub (pc' := 30) (z := 0) rfl rfl (by decide) ?_
  refine x_icmp (a' := 2944) (pc' := 33) (z := false) rfl rfl rfl (by decide) (fun h => by cases h) (fun _ => ?_)
  refine x_aload_n (pc' := 34) rfl rfl rfl rfl rfl ?_
  refine x_iload (pc' := 36) rfl rfl rfl ?_
  refine x_iald (pc' := 37) (N := 7) (x := (xs 0)) rfl rfl rfl (z_N_29_0 e) (io_in (p := 0) (N := 7) (by decide) (by decide)) (Eq.trans (congrArg (sA t 29 0) (nn_io (p := 0) (by decide))) (z_A_29_0_0 e)) ?_
  refine x_bipush (pc' := 39) rfl rfl ?_
  refine x_iand (pc' := 40) (z := ((xs 0) &&& 63)) rfl rfl rfl ?_
  refine x_switch (pc' := 1017) rfl (by rw [hk]; decide) ?_
  refine x_aload_n (pc' := 1018) rfl rfl rfl rfl rfl ?_
  refine x_aload_n (pc' := 1019) rfl rfl rfl rfl rfl ?_
  refine x_iload (pc' := 1021) rfl rfl rfl ?_
  refine x_iconst (pc' := 1022) rfl rfl ?_
  refine x_iadd (pc' := 1023) (z := 1) rfl rfl (by decide) ?_
  refine x_iald (pc' := 1024) (N := 7) (x := (io m)) rfl rfl rfl (z_N_29_0 e) (io_in (p := 1) (N := 7) (by decide) (by decide)) (Eq.trans (congrArg (sA t 29 0) (nn_io (p := 1) (by decide))) (Eq.trans (z_A_29_0_1 e) e0)) ?_
  refine x_aload_n (pc' := 1025) rfl rfl rfl rfl rfl ?_
  refine x_iload (pc' := 1027) rfl rfl rfl ?_
  refine x_iconst (pc' := 1028) rfl rfl ?_
  refine x_iadd (pc' := 1029) (z := 2) rfl rfl (by decide) ?_
  refine x_iald (pc' := 1030) (N := 7) (x := 4) rfl rfl rfl (z_N_29_0 e) (io_in (p := 2) (N := 7) (by decide) (by decide)) (Eq.trans (congrArg (sA t 29 0) (nn_io (p := 2) (by decide))) (Eq.trans (z_A_29_0_2 e) e1)) ?_
  refine x_aload_n (pc' := 1031) rfl rfl rfl rfl rfl ?_
  refine x_iload (pc' := 1033) rfl rfl rfl ?_
  refine x_iconst (pc' := 1034) rfl rfl ?_
  refine x_iadd (pc' := 1035) (z := 3) rfl rfl (by decide) ?_
  refine x_iald (pc' := 1036) (N := 7) (x := (xs 3)) rfl rfl rfl (z_N_29_0 e) (io_in (p := 3) (N := 7) (by decide) (by decide)) (Eq.trans (congrArg (sA t 29 0) (nn_io (p := 3) (by decide))) (z_A_29_0_3 e)) ?_
  have J3 : X 297 1044 [.inr (.inr (29, (some 0))), .inr (.inr (11, (some 0))), .inr (.inr (12, (some 0))), .inr (.inr (23, (some 0))), .inl 0, sJk, sJk] [.inl (bz (!(decide ((xs 3) = 0)))), .inl 4, .inl (io m), .inr (.inr (11, (some 0)))] t Qp := by
    refine x_aload_n (pc' := 1045) rfl rfl rfl rfl rfl ?_
    refine x_iload (pc' := 1047) rfl rfl rfl ?_
    refine x_iconst (pc' := 1048) rfl rfl ?_
    refine x_iadd (pc' := 1049) (z := 4) rfl rfl (by decide) ?_
    refine x_iald (pc' := 1050) (N := 7) (x := (xs 4)) rfl rfl rfl (z_N_29_0 e) (io_in (p := 4) (N := 7) (by decide) (by decide)) (Eq.trans (congrArg (sA t 29 0) (nn_io (p := 4) (by decide))) (z_A_29_0_4 e)) ?_
    refine x_aload_n (pc' := 1051) rfl rfl rfl rfl rfl ?_
    refine x_iload (pc' := 1053) rfl rfl rfl ?_
    refine x_iconst (pc' := 1054) rfl rfl ?_
    refine x_iadd (pc' := 1055) (z := 5) rfl rfl (by decide) ?_
    refine x_iald (pc' := 1056) (N := 7) (x := (xs 5)) rfl rfl rfl (z_N_29_0 e) (io_in (p := 5) (N := 7) (by decide) (by decide)) (Eq.trans (congrArg (sA t 29 0) (nn_io (p := 5) (by decide))) (z_A_29_0_5 e)) ?_
    refine x_aload_n (pc' := 1057) rfl rfl rfl rfl rfl ?_
    refine x_cs (ls0 := [_, _, _, _, _, _, _, sJk]) (rest := []) rfl rfl rfl rfl ?_
    refine x_aload (pc' := 2) rfl rfl rfl rfl rfl ?_
    refine x_iconst (pc' := 3) rfl rfl ?_
    refine x_aload_n (pc' := 4) rfl rfl rfl rfl rfl ?_
    refine x_iload_n (pc' := 5) rfl rfl rfl ?_
    refine x_iload_n (pc' := 6) rfl rfl rfl ?_
    refine x_iload_n (pc' := 7) rfl rfl rfl ?_
    refine x_iload (pc' := 9) rfl rfl rfl ?_
    refine x_iload (pc' := 11) rfl rfl rfl ?_
    refine x_cv (ls0 := [_, _, _, _, _, _, sJk, sJk, sJk]) (rest := [_, _]) rfl rfl rfl rfl rfl ?_
    refine x_aload_n (pc' := 1) rfl rfl rfl rfl rfl ?_
    refine x_iload_n (pc' := 2) rfl rfl rfl ?_
    refine x_cv (ls0 := [_, _]) (rest := []) rfl rfl rfl rfl rfl ?_
    refine x_iload_n (pc' := 1) rfl rfl rfl ?_
    refine x_if (a' := 16) (pc' := 4) (z := decide (m < 0)) rfl rfl rfl (ic_lt (p := m) (q := 0) (Nat.lt_trans hm (by decide)) (by decide)) (fun h => absurd (of_decide_eq_true h) (by first | decide | omega | simp)) (fun _ => ?_)
    refine x_iload_n (pc' := 5) rfl rfl rfl ?_
    refine x_aload_n (pc' := 6) rfl rfl rfl rfl rfl ?_
    refine x_gR (pc' := 9) (r := (some 0)) rfl rfl rfl (z_R_704_0 e) ?_
    refine x_gR (pc' := 12) (r := (some 0)) rfl rfl rfl (z_R_321_0 e) ?_
    refine x_alen (pc' := 13) (N := 6) rfl rfl rfl (z_N_26_0 e) (?_ : X _ _ _ (.inl 6 :: _) _ _)
    refine x_icmp (a' := 27) (pc' := 16) (z := decide (m < 6)) rfl rfl rfl (ic_lt (p := m) (q := 6) (Nat.lt_trans hm (by decide)) (by decide)) (fun _ => ?_) (fun h => absurd (Nat.lt_of_lt_of_le hm (by decide)) (of_decide_eq_false h))
    refine x_aload_n (pc' := 28) rfl rfl rfl rfl rfl ?_
    refine x_gR (pc' := 31) (r := (some 0)) rfl rfl rfl (z_R_704_0 e) ?_
    refine x_gR (pc' := 34) (r := (some 0)) rfl rfl rfl (z_R_321_0 e) ?_
    refine x_iload_n (pc' := 35) rfl rfl rfl ?_
    refine x_aald (pc' := 36) (N := 6) (k' := 7) (r := (some m)) rfl rfl rfl (z_N_26_0 e) (io_in (p := m) (N := 6) hm (by decide)) (Eq.trans (congrArg (sE t 26 0) (nn_io (p := m) (Nat.lt_trans hm (by decide)))) (kM (Cn_e e) hm)) ?_
    refine x_reta rfl rfl ?_
    refine sK_i (pc' := 5) rfl ?_
    refine x_astore (pc' := 7) (ls' := [_, _, _, _, _, _, _, _, _]) rfl rfl rfl rfl rfl ?_
    refine x_aload_n (pc' := 8) rfl rfl rfl rfl rfl ?_
    refine x_iload_n (pc' := 9) rfl rfl rfl ?_
    refine x_cv (ls0 := [_, _]) (rest := []) rfl rfl rfl rfl rfl ?_
    refine x_iload_n (pc' := 1) rfl rfl rfl ?_
    refine x_if (a' := 16) (pc' := 4) (z := false) rfl rfl rfl (by decide) (fun h => by cases h) (fun _ => ?_)
    refine x_iload_n (pc' := 5) rfl rfl rfl ?_
    refine x_aload_n (pc' := 6) rfl rfl rfl rfl rfl ?_
    refine x_gR (pc' := 9) (r := (some 0)) rfl rfl rfl (z_R_705_0 e) ?_
    refine x_gR (pc' := 12) (r := (some 0)) rfl rfl rfl (z_R_256_0 e) ?_
    refine x_alen (pc' := 13) (N := 5) rfl rfl rfl (z_N_24_0 e) (?_ : X _ _ _ (.inl 5 :: _) _ _)
    refine x_icmp (a' := 27) (pc' := 16) (z := true) rfl rfl rfl (by decide) (fun _ => ?_) (fun h => by cases h)
    refine x_aload_n (pc' := 28) rfl rfl rfl rfl rfl ?_
    refine x_gR (pc' := 31) (r := (some 0)) rfl rfl rfl (z_R_705_0 e) ?_
    refine x_gR (pc' := 34) (r := (some 0)) rfl rfl rfl (z_R_256_0 e) ?_
    refine x_iload_n (pc' := 35) rfl rfl rfl ?_
    refine x_aald (pc' := 36) (N := 5) (k' := 1) (r := (some 4)) rfl rfl rfl (z_N_24_0 e) (io_in (p := 4) (N := 5) (by decide) (by decide)) (Eq.trans (congrArg (sE t 24 0) (nn_io (p := 4) (by decide))) (z_E_24_0_4 e)) ?_
    refine x_reta rfl rfl ?_
    refine sK_i (pc' := 12) rfl ?_
    refine x_astore (pc' := 14) (ls' := [_, _, _, _, _, _, _, _, _]) rfl rfl rfl rfl rfl ?_
    refine x_aload (pc' := 16) rfl rfl rfl rfl rfl ?_
    refine x_iload (pc' := 18) rfl rfl rfl ?_
    refine x_cs (ls0 := [_, _]) (rest := []) rfl rfl rfl rfl ?_
    refine x_aload_n (pc' := 1) rfl rfl rfl rfl rfl ?_
    refine x_cv (ls0 := [_]) (rest := []) rfl rfl rfl rfl rfl ?_
    refine x_aload_n (pc' := 1) rfl rfl rfl rfl rfl ?_
    refine x_gR (pc' := 4) (r := (some 2)) rfl rfl rfl (z_R_66_4 e) ?_
    refine x_ifnull (a' := 11) (pc' := 7) rfl rfl rfl rfl (fun h => by cases h) (fun _ _ => ?_)
    refine x_iconst (pc' := 8) rfl rfl ?_
    refine x_goto (pc' := 12) rfl rfl ?_
    refine x_retz (z := true) rfl rfl ?_
    refine sK_i (pc' := 4) rfl ?_
    refine x_if (a' := 20) (pc' := 7) (z := false) rfl rfl rfl (by decide) (fun h => by cases h) (fun _ => ?_)
    refine x_iload_n (pc' := 8) rfl rfl rfl ?_
    refine x_sipush (pc' := 11) rfl rfl ?_
    refine x_sipush (pc' := 14) rfl rfl ?_
    refine x_cs (ls0 := [_, _, _]) (rest := []) rfl rfl rfl rfl ?_
    refine x_iload_n (pc' := 1) rfl rfl rfl ?_
    refine x_iload_n (pc' := 2) rfl rfl rfl ?_
    refine x_icmp (a' := 10) (pc' := 5) (z := decide ((xs 4) < (-500))) rfl rfl rfl rfl (fun q11 => ?_) (fun q11 => ?_)
    · refine x_throw rfl rfl ?_
      refine sK_n (by decide +kernel) rfl ?_
      refine sK_n (by decide +kernel) rfl ?_
      refine sK_h (h := 23) (by decide +kernel) rfl ?_
      refine x_catch (pc' := 25) (ls' := [_, _, _, _, _, _, _, _]) rfl rfl rfl rfl ?_
      refine x_iconst (pc' := 26) rfl rfl ?_
      refine x_reti rfl rfl ?_
      refine sK_i (pc' := 1060) rfl ?_
      refine x_istore (pc' := 1062) (ls' := [_, _, _, _, _, _, _]) rfl rfl rfl rfl ?_
      refine x_aload_n (pc' := 1063) rfl rfl rfl rfl rfl ?_
      refine x_aload_n (pc' := 1064) rfl rfl rfl rfl rfl ?_
      refine x_iload (pc' := 1066) rfl rfl rfl ?_
      refine x_iconst (pc' := 1067) rfl rfl ?_
      refine x_iadd (pc' := 1068) (z := 1) rfl rfl (by decide) ?_
      refine x_iald (pc' := 1069) (N := 7) (x := (io m)) rfl rfl rfl (Eq.trans rdNthr (z_N_29_0 e)) (io_in (p := 1) (N := 7) (by decide) (by decide)) (Eq.trans (congrArg (sA (sThr t) 29 0) (nn_io (p := 1) (by decide))) (Eq.trans rdAthr (Eq.trans (z_A_29_0_1 e) e0))) ?_
      refine x_aload_n (pc' := 1070) rfl rfl rfl rfl rfl ?_
      refine x_iload (pc' := 1072) rfl rfl rfl ?_
      refine x_iconst (pc' := 1073) rfl rfl ?_
      refine x_iadd (pc' := 1074) (z := 2) rfl rfl (by decide) ?_
      refine x_iald (pc' := 1075) (N := 7) (x := 4) rfl rfl rfl (Eq.trans rdNthr (z_N_29_0 e)) (io_in (p := 2) (N := 7) (by decide) (by decide)) (Eq.trans (congrArg (sA (sThr t) 29 0) (nn_io (p := 2) (by decide))) (Eq.trans rdAthr (Eq.trans (z_A_29_0_2 e) e1))) ?_
      refine x_aload_n (pc' := 1076) rfl rfl rfl rfl rfl ?_
      refine x_iload (pc' := 1078) rfl rfl rfl ?_
      refine x_iconst (pc' := 1079) rfl rfl ?_
      refine x_iadd (pc' := 1080) (z := 3) rfl rfl (by decide) ?_
      refine x_iald (pc' := 1081) (N := 7) (x := (xs 3)) rfl rfl rfl (Eq.trans rdNthr (z_N_29_0 e)) (io_in (p := 3) (N := 7) (by decide) (by decide)) (Eq.trans (congrArg (sA (sThr t) 29 0) (nn_io (p := 3) (by decide))) (Eq.trans rdAthr (z_A_29_0_3 e))) ?_
      have J12 : X 297 1089 [.inr (.inr (29, (some 0))), .inr (.inr (11, (some 0))), .inr (.inr (12, (some 0))), .inr (.inr (23, (some 0))), .inl 0, .inl 2, sJk] [.inl (bz (!(decide ((xs 3) = 0)))), .inl 4, .inl (io m), .inr (.inr (12, (some 0)))] (sThr t) Qp := by
        refine x_aload_n (pc' := 1090) rfl rfl rfl rfl rfl ?_
        refine x_iload (pc' := 1092) rfl rfl rfl ?_
        refine x_iconst (pc' := 1093) rfl rfl ?_
        refine x_iadd (pc' := 1094) (z := 4) rfl rfl (by decide) ?_
        refine x_iald (pc' := 1095) (N := 7) (x := (xs 4)) rfl rfl rfl (Eq.trans rdNthr (z_N_29_0 e)) (io_in (p := 4) (N := 7) (by decide) (by decide)) (Eq.trans (congrArg (sA (sThr t) 29 0) (nn_io (p := 4) (by decide))) (Eq.trans rdAthr (z_A_29_0_4 e))) ?_
        refine x_aload_n (pc' := 1096) rfl rfl rfl rfl rfl ?_
        refine x_iload (pc' := 1098) rfl rfl rfl ?_
        refine x_iconst (pc' := 1099) rfl rfl ?_
        refine x_iadd (pc' := 1100) (z := 5) rfl rfl (by decide) ?_
        refine x_iald (pc' := 1101) (N := 7) (x := (xs 5)) rfl rfl rfl (Eq.trans rdNthr (z_N_29_0 e)) (io_in (p := 5) (N := 7) (by decide) (by decide)) (Eq.trans (congrArg (sA (sThr t) 29 0) (nn_io (p := 5) (by decide))) (Eq.trans rdAthr (z_A_29_0_5 e))) ?_
        refine x_cv (ls0 := [_, _, _, _, _, _, sJk, sJk]) (rest := []) rfl rfl rfl rfl rfl ?_
        refine x_iload_n (pc' := 1) rfl rfl rfl ?_
        refine x_cs (ls0 := [_]) (rest := []) rfl rfl rfl rfl ?_
        refine x_iload_n (pc' := 1) rfl rfl rfl ?_
        refine x_iconst (pc' := 2) rfl rfl ?_
        refine x_iconst (pc' := 3) rfl rfl ?_
        refine x_cs (ls0 := [_, _, _]) (rest := []) rfl rfl rfl rfl ?_
        refine x_iload_n (pc' := 1) rfl rfl rfl ?_
        refine x_iload_n (pc' := 2) rfl rfl rfl ?_
        refine x_icmp (a' := 14) (pc' := 5) (z := false) rfl rfl rfl (by decide) (fun h => by cases h) (fun _ => ?_)
        refine x_iload_n (pc' := 6) rfl rfl rfl ?_
        refine x_iload_n (pc' := 7) rfl rfl rfl ?_
        refine x_icmp (a' := 14) (pc' := 10) (z := false) rfl rfl rfl (by decide) (fun h => by cases h) (fun _ => ?_)
        refine x_iconst (pc' := 11) rfl rfl ?_
        refine x_goto (pc' := 15) rfl rfl ?_
        refine x_retz (z := true) rfl rfl ?_
        refine sK_i (pc' := 6) rfl ?_
        refine x_retz (z := true) rfl rfl ?_
        refine sK_i (pc' := 4) rfl ?_
        refine x_if (a' := 31) (pc' := 7) (z := false) rfl rfl rfl (by decide) (fun h => by cases h) (fun _ => ?_)
        refine x_iload_n (pc' := 8) rfl rfl rfl ?_
        refine x_iload (pc' := 10) rfl rfl rfl ?_
        refine x_cs (ls0 := [_, _]) (rest := []) rfl rfl rfl rfl ?_
        refine x_iload_n (pc' := 1) rfl rfl rfl ?_
        refine x_iconst (pc' := 2) rfl rfl ?_
        refine x_icmp (a' := 16) (pc' := 5) (z := true) rfl rfl rfl (by decide) (fun _ => ?_) (fun h => by cases h)
        refine x_iload_n (pc' := 17) rfl rfl rfl ?_
        refine x_sipush (pc' := 20) rfl rfl ?_
        refine x_sipush (pc' := 23) rfl rfl ?_
        refine x_cs (ls0 := [_, _, _]) (rest := []) rfl rfl rfl rfl ?_
        refine x_iload_n (pc' := 1) rfl rfl rfl ?_
        refine x_iload_n (pc' := 2) rfl rfl rfl ?_
        refine x_icmp (a' := 14) (pc' := 5) (z := decide ((xs 4) < (-500))) rfl rfl rfl rfl (fun _ => ?_) (fun h => absurd (of_decide_eq_true q11) (of_decide_eq_false h))
        refine x_iconst (pc' := 15) rfl rfl ?_
        refine x_retz (z := false) rfl rfl ?_
        refine sK_i (pc' := 26) rfl ?_
        refine x_retz (z := false) rfl rfl ?_
        refine sK_i (pc' := 13) rfl ?_
        refine x_if (a' := 31) (pc' := 16) (z := true) rfl rfl rfl (by decide) (fun _ => ?_) (fun h => by cases h)
        refine x_iconst (pc' := 32) rfl rfl ?_
        refine x_istore (pc' := 34) (ls' := [_, _, _, _, _, _, _, _]) rfl rfl rfl rfl ?_
        refine x_iload_n (pc' := 35) rfl rfl rfl ?_
        refine x_cs (ls0 := [_]) (rest := []) rfl rfl rfl rfl ?_
        refine x_iload_n (pc' := 1) rfl rfl rfl ?_
        refine x_iconst (pc' := 2) rfl rfl ?_
        refine x_iconst (pc' := 3) rfl rfl ?_
        refine x_cs (ls0 := [_, _, _]) (rest := []) rfl rfl rfl rfl ?_
        refine x_iload_n (pc' := 1) rfl rfl rfl ?_
        refine x_iload_n (pc' := 2) rfl rfl rfl ?_
        refine x_icmp (a' := 14) (pc' := 5) (z := false) rfl rfl rfl (by decide) (fun h => by cases h) (fun _ => ?_)
        refine x_iload_n (pc' := 6) rfl rfl rfl ?_
        refine x_iload_n (pc' := 7) rfl rfl rfl ?_
        refine x_icmp (a' := 14) (pc' := 10) (z := false) rfl rfl rfl (by decide) (fun h => by cases h) (fun _ => ?_)
        refine x_iconst (pc' := 11) rfl rfl ?_
        refine x_goto (pc' := 15) rfl rfl ?_
        refine x_retz (z := true) rfl rfl ?_
        refine sK_i (pc' := 6) rfl ?_
        refine x_retz (z := true) rfl rfl ?_
        refine sK_i (pc' := 38) rfl ?_
        refine x_if (a' := 65) (pc' := 41) (z := false) rfl rfl rfl (by decide) (fun h => by cases h) (fun _ => ?_)
        refine x_aload_n (pc' := 42) rfl rfl rfl rfl rfl ?_
        refine x_gR (pc' := 45) (r := (some 0)) rfl rfl rfl (Eq.trans rdRthr (z_R_769_0 e)) ?_
        refine x_iload_n (pc' := 46) rfl rfl rfl ?_
        refine x_iald (pc' := 47) (N := 5) (x := 0) rfl rfl rfl (Eq.trans rdNthr (z_N_21_0 e)) (io_in (p := 4) (N := 5) (by decide) (by decide)) (Eq.trans (congrArg (sA (sThr t) 21 0) (nn_io (p := 4) (by decide))) (Eq.trans rdAthr (z_A_21_0_4 e))) ?_
        refine x_iconst (pc' := 48) rfl rfl ?_
        refine x_icmp (a' := 65) (pc' := 51) (z := true) rfl rfl rfl (by decide) (fun _ => ?_) (fun h => by cases h)
        refine x_iconst (pc' := 66) rfl rfl ?_
        refine x_istore (pc' := 68) (ls' := [_, _, _, _, _, _, _, _]) rfl rfl rfl rfl ?_
        refine x_aload_n (pc' := 69) rfl rfl rfl rfl rfl ?_
        refine x_aload_n (pc' := 70) rfl rfl rfl rfl rfl ?_
        refine x_iload_n (pc' := 71) rfl rfl rfl ?_
        refine x_iload_n (pc' := 72) rfl rfl rfl ?_
        refine x_iload (pc' := 74) rfl rfl rfl ?_
        refine x_iload (pc' := 76) rfl rfl rfl ?_
        refine x_cv (ls0 := [_, _, _, _, _, sJk]) (rest := [_]) rfl rfl rfl rfl rfl ?_
        refine x_iload_n (pc' := 1) rfl rfl rfl ?_
        refine x_cs (ls0 := [_]) (rest := []) rfl rfl rfl rfl ?_
        refine x_iload_n (pc' := 1) rfl rfl rfl ?_
        refine x_iconst (pc' := 2) rfl rfl ?_
        refine x_iconst (pc' := 3) rfl rfl ?_
        refine x_cs (ls0 := [_, _, _]) (rest := []) rfl rfl rfl rfl ?_
        refine x_iload_n (pc' := 1) rfl rfl rfl ?_
        refine x_iload_n (pc' := 2) rfl rfl rfl ?_
        refine x_icmp (a' := 14) (pc' := 5) (z := decide (m < 0)) rfl rfl rfl (ic_lt (p := m) (q := 0) (Nat.lt_trans hm (by decide)) (by decide)) (fun h => absurd (of_decide_eq_true h) (by first | decide | omega | simp)) (fun _ => ?_)
        refine x_iload_n (pc' := 6) rfl rfl rfl ?_
        refine x_iload_n (pc' := 7) rfl rfl rfl ?_
        refine x_icmp (a' := 14) (pc' := 10) (z := decide (5 < m)) rfl rfl rfl (ic_gt (p := m) (q := 5) (Nat.lt_trans hm (by decide)) (by decide)) (fun h => absurd (of_decide_eq_true h) (fun z => absurd hm (Nat.not_lt.mpr z))) (fun _ => ?_)
        refine x_iconst (pc' := 11) rfl rfl ?_
        refine x_goto (pc' := 15) rfl rfl ?_
        refine x_retz (z := true) rfl rfl ?_
        refine sK_i (pc' := 6) rfl ?_
        refine x_retz (z := true) rfl rfl ?_
        refine sK_i (pc' := 4) rfl ?_
        refine x_if (a' := 18) (pc' := 7) (z := false) rfl rfl rfl (by decide) (fun h => by cases h) (fun _ => ?_)
        refine x_iload_n (pc' := 8) rfl rfl rfl ?_
        refine x_cs (ls0 := [_]) (rest := []) rfl rfl rfl rfl ?_
        refine x_iload_n (pc' := 1) rfl rfl rfl ?_
        refine x_iconst (pc' := 2) rfl rfl ?_
        refine x_iconst (pc' := 3) rfl rfl ?_
        refine x_cs (ls0 := [_, _, _]) (rest := []) rfl rfl rfl rfl ?_
        refine x_iload_n (pc' := 1) rfl rfl rfl ?_
        refine x_iload_n (pc' := 2) rfl rfl rfl ?_
        refine x_icmp (a' := 14) (pc' := 5) (z := false) rfl rfl rfl (by decide) (fun h => by cases h) (fun _ => ?_)
        refine x_iload_n (pc' := 6) rfl rfl rfl ?_
        refine x_iload_n (pc' := 7) rfl rfl rfl ?_
        refine x_icmp (a' := 14) (pc' := 10) (z := false) rfl rfl rfl (by decide) (fun h => by cases h) (fun _ => ?_)
        refine x_iconst (pc' := 11) rfl rfl ?_
        refine x_goto (pc' := 15) rfl rfl ?_
        refine x_retz (z := true) rfl rfl ?_
        refine sK_i (pc' := 6) rfl ?_
        refine x_retz (z := true) rfl rfl ?_
        refine sK_i (pc' := 11) rfl ?_
        refine x_if (a' := 18) (pc' := 14) (z := false) rfl rfl rfl (by decide) (fun h => by cases h) (fun _ => ?_)
        refine x_iconst (pc' := 15) rfl rfl ?_
        refine x_goto (pc' := 19) rfl rfl ?_
        refine x_istore (pc' := 21) (ls' := [_, _, _, _, _, _]) rfl rfl rfl rfl ?_
        refine x_iload (pc' := 23) rfl rfl rfl ?_
        refine x_if (a' := 30) (pc' := 26) (z := true) rfl rfl rfl (by decide) (fun _ => ?_) (fun h => by cases h)
        refine x_iload_n (pc' := 31) rfl rfl rfl ?_
        refine x_if (a' := 38) (pc' := 34) (z := false) rfl rfl rfl (by decide) (fun h => by cases h) (fun _ => ?_)
        refine x_iconst (pc' := 35) rfl rfl ?_
        refine x_goto (pc' := 57) rfl rfl ?_
        refine x_reti rfl rfl ?_
        refine sK_i (pc' := 79) rfl ?_
        refine x_cv (ls0 := [_, _]) (rest := []) rfl rfl rfl rfl rfl ?_
        refine x_aload_n (pc' := 1) rfl rfl rfl rfl rfl ?_
        refine x_iload_n (pc' := 2) rfl rfl rfl ?_
        refine x_pI (pc' := 5) rfl rfl rfl ?_
        refine x_iload_n (pc' := 6) rfl rfl rfl ?_
        refine x_if (a' := 13) (pc' := 9) (z := true) rfl rfl rfl (by decide) (fun _ => ?_) (fun h => by cases h)
        refine x_iconst (pc' := 14) rfl rfl ?_
        refine x_retz (z := false) rfl rfl ?_
        refine sK_i (pc' := 82) rfl ?_
        refine x_if (a' := 102) (pc' := 85) (z := true) rfl rfl rfl (by decide) (fun _ => ?_) (fun h => by cases h)
        refine x_iconst (pc' := 103) rfl rfl ?_
        refine x_reti rfl rfl ?_
        refine sK_i (pc' := 1104) rfl ?_
        refine x_istore (pc' := 1106) (ls' := [_, _, _, _, _, _, _]) rfl rfl rfl rfl ?_
        refine x_aload_n (pc' := 1107) rfl rfl rfl rfl rfl ?_
        refine x_cv (ls0 := [_]) (rest := []) rfl rfl rfl rfl rfl ?_
        refine x_aload_n (pc' := 1) rfl rfl rfl rfl rfl ?_
        refine x_gI (pc' := 4) (x := 2) rfl rfl rfl sI_s ?_
        refine x_reti rfl rfl ?_
        refine sK_i (pc' := 1110) rfl ?_
        refine x_iload (pc' := 1112) rfl rfl rfl ?_
        refine x_icmp (a' := 1117) (pc' := 1115) (z := true) rfl rfl rfl (by decide) (fun _ => ?_) (fun h => by cases h)
        refine x_iload (pc' := 1119) rfl rfl rfl ?_
        refine x_if (a' := 1134) (pc' := 1122) (z := true) rfl rfl rfl (by decide) (fun _ => ?_) (fun h => by cases h)
        refine x_goto (pc' := 2938) rfl rfl ?_
        refine x_iinc (pc' := 2941) (y := 7) (ls' := [_, _, _, _, _, _, _]) rfl rfl rfl rfl rfl ?_
        refine x_goto (pc' := 23) rfl rfl ?_
        refine x_iload (pc' := 25) rfl rfl rfl ?_
        refine x_aload_n (pc' := 26) rfl rfl rfl rfl rfl ?_
        refine x_alen (pc' := 27) (N := 7) rfl rfl rfl (Eq.trans rdNI (Eq.trans rdNthr (z_N_29_0 e))) (?_ : X _ _ _ (.inl 7 :: _) _ _)
        refine x_bipush (pc' := 29) rfl rfl ?_
        refine x_isub (pc' := 30) (z := 0) rfl rfl (by decide) ?_
        refine x_icmp (a' := 2944) (pc' := 33) (z := true) rfl rfl rfl (by decide) (fun _ => ?_) (fun h => by cases h)
        refine x_iconst (pc' := 2945) rfl rfl ?_
        refine x_retz (z := true) rfl rfl ?_
        exact Qp_ok e (p := 1) (q := 6) rfl rfl rfl rfl
      refine x_if (a' := 1088) (pc' := 1084) (z := decide ((xs 3) = 0)) rfl rfl rfl rfl (fun q12 => ?_) (fun q12 => ?_)
      · refine x_iconst (pc' := 1089) rfl rfl ?_
        ((try rw [q12] at J12); (try rw [q12]); (try simp only [cd_t, cd_f, nt_t, nt_f, an_t, an_f, or_t, or_f] at J12); (try simp only [cd_t, cd_f, nt_t, nt_f, an_t, an_f, or_t, or_f]); exact J12)
      · refine x_iconst (pc' := 1085) rfl rfl ?_
        refine x_goto (pc' := 1089) rfl rfl ?_
        ((try rw [q12] at J12); (try rw [q12]); (try simp only [cd_t, cd_f, nt_t, nt_f, an_t, an_f, or_t, or_f] at J12); (try simp only [cd_t, cd_f, nt_t, nt_f, an_t, an_f, or_t, or_f]); exact J12)
    · refine x_iload_n (pc' := 6) rfl rfl rfl ?_
      refine x_iload_n (pc' := 7) rfl rfl rfl ?_
      refine x_icmp_n (a' := 21) (pc' := 10) (z := decide (500 < (xs 4))) rfl rfl rfl (ik_le _ _) (fun q37 => ?_) (fun q37 => ?_)
      · refine x_ret rfl ?_
        refine sK_v (pc' := 17) rfl ?_
        refine x_goto (pc' := 28) rfl rfl ?_
        refine x_ret rfl ?_
        refine sK_v (pc' := 21) rfl ?_
        refine x_iload (pc' := 23) rfl rfl rfl ?_
        refine x_iconst (pc' := 24) rfl rfl ?_
        refine x_bipush (pc' := 26) rfl rfl ?_
        refine x_cs (ls0 := [_, _, _]) (rest := []) rfl rfl rfl rfl ?_
        refine x_iload_n (pc' := 1) rfl rfl rfl ?_
        refine x_iload_n (pc' := 2) rfl rfl rfl ?_
        refine x_icmp (a' := 10) (pc' := 5) (z := decide ((xs 5) < 1)) rfl rfl rfl rfl (fun q38 => ?_) (fun q38 => ?_)
        · refine x_throw rfl rfl ?_
          refine sK_n (by decide +kernel) rfl ?_
          refine sK_h (h := 23) (by decide +kernel) rfl ?_
          refine x_catch (pc' := 25) (ls' := [_, _, _, _, _, _, _, _]) rfl rfl rfl rfl ?_
          refine x_iconst (pc' := 26) rfl rfl ?_
          refine x_reti rfl rfl ?_
          refine sK_i (pc' := 1060) rfl ?_
          refine x_istore (pc' := 1062) (ls' := [_, _, _, _, _, _, _]) rfl rfl rfl rfl ?_
          refine x_aload_n (pc' := 1063) rfl rfl rfl rfl rfl ?_
          refine x_aload_n (pc' := 1064) rfl rfl rfl rfl rfl ?_
          refine x_iload (pc' := 1066) rfl rfl rfl ?_
          refine x_iconst (pc' := 1067) rfl rfl ?_
          refine x_iadd (pc' := 1068) (z := 1) rfl rfl (by decide) ?_
          refine x_iald (pc' := 1069) (N := 7) (x := (io m)) rfl rfl rfl (Eq.trans rdNthr (z_N_29_0 e)) (io_in (p := 1) (N := 7) (by decide) (by decide)) (Eq.trans (congrArg (sA (sThr t) 29 0) (nn_io (p := 1) (by decide))) (Eq.trans rdAthr (Eq.trans (z_A_29_0_1 e) e0))) ?_
          refine x_aload_n (pc' := 1070) rfl rfl rfl rfl rfl ?_
          refine x_iload (pc' := 1072) rfl rfl rfl ?_
          refine x_iconst (pc' := 1073) rfl rfl ?_
          refine x_iadd (pc' := 1074) (z := 2) rfl rfl (by decide) ?_
          refine x_iald (pc' := 1075) (N := 7) (x := 4) rfl rfl rfl (Eq.trans rdNthr (z_N_29_0 e)) (io_in (p := 2) (N := 7) (by decide) (by decide)) (Eq.trans (congrArg (sA (sThr t) 29 0) (nn_io (p := 2) (by decide))) (Eq.trans rdAthr (Eq.trans (z_A_29_0_2 e) e1))) ?_
          refine x_aload_n (pc' := 1076) rfl rfl rfl rfl rfl ?_
          refine x_iload (pc' := 1078) rfl rfl rfl ?_
          refine x_iconst (pc' := 1079) rfl rfl ?_
          refine x_iadd (pc' := 1080) (z := 3) rfl rfl (by decide) ?_
          refine x_iald (pc' := 1081) (N := 7) (x := (xs 3)) rfl rfl rfl (Eq.trans rdNthr (z_N_29_0 e)) (io_in (p := 3) (N := 7) (by decide) (by decide)) (Eq.trans (congrArg (sA (sThr t) 29 0) (nn_io (p := 3) (by decide))) (Eq.trans rdAthr (z_A_29_0_3 e))) ?_
          have J39 : X 297 1089 [.inr (.inr (29, (some 0))), .inr (.inr (11, (some 0))), .inr (.inr (12, (some 0))), .inr (.inr (23, (some 0))), .inl 0, .inl 2, sJk] [.inl (bz (!(decide ((xs 3) = 0)))), .inl 4, .inl (io m), .inr (.inr (12, (some 0)))] (sThr t) Qp := by
            refine x_aload_n (pc' := 1090) rfl rfl rfl rfl rfl ?_
            refine x_iload (pc' := 1092) rfl rfl rfl ?_
            refine x_iconst (pc' := 1093) rfl rfl ?_
            refine x_iadd (pc' := 1094) (z := 4) rfl rfl (by decide) ?_
            refine x_iald (pc' := 1095) (N := 7) (x := (xs 4)) rfl rfl rfl (Eq.trans rdNthr (z_N_29_0 e)) (io_in (p := 4) (N := 7) (by decide) (by decide)) (Eq.trans (congrArg (sA (sThr t) 29 0) (nn_io (p := 4) (by decide))) (Eq.trans rdAthr (z_A_29_0_4 e))) ?_
            refine x_aload_n (pc' := 1096) rfl rfl rfl rfl rfl ?_
            refine x_iload (pc' := 1098) rfl rfl rfl ?_
            refine x_iconst (pc' := 1099) rfl rfl ?_
            refine x_iadd (pc' := 1100) (z := 5) rfl rfl (by decide) ?_
            refine x_iald (pc' := 1101) (N := 7) (x := (xs 5)) rfl rfl rfl (Eq.trans rdNthr (z_N_29_0 e)) (io_in (p := 5) (N := 7) (by decide) (by decide)) (Eq.trans (congrArg (sA (sThr t) 29 0) (nn_io (p := 5) (by decide))) (Eq.trans rdAthr (z_A_29_0_5 e))) ?_
            refine x_cv (ls0 := [_, _, _, _, _, _, sJk, sJk]) (rest := []) rfl rfl rfl rfl rfl ?_
            refine x_iload_n (pc' := 1) rfl rfl rfl ?_
            refine x_cs (ls0 := [_]) (rest := []) rfl rfl rfl rfl ?_
            refine x_iload_n (pc' := 1) rfl rfl rfl ?_
            refine x_iconst (pc' := 2) rfl rfl ?_
            refine x_iconst (pc' := 3) rfl rfl ?_
            refine x_cs (ls0 := [_, _, _]) (rest := []) rfl rfl rfl rfl ?_
            refine x_iload_n (pc' := 1) rfl rfl rfl ?_
            refine x_iload_n (pc' := 2) rfl rfl rfl ?_
            refine x_icmp (a' := 14) (pc' := 5) (z := false) rfl rfl rfl (by decide) (fun h => by cases h) (fun _ => ?_)
            refine x_iload_n (pc' := 6) rfl rfl rfl ?_
            refine x_iload_n (pc' := 7) rfl rfl rfl ?_
            refine x_icmp (a' := 14) (pc' := 10) (z := false) rfl rfl rfl (by decide) (fun h => by cases h) (fun _ => ?_)
            refine x_iconst (pc' := 11) rfl rfl ?_
            refine x_goto (pc' := 15) rfl rfl ?_
            refine x_retz (z := true) rfl rfl ?_
            refine sK_i (pc' := 6) rfl ?_
            refine x_retz (z := true) rfl rfl ?_
            refine sK_i (pc' := 4) rfl ?_
            refine x_if (a' := 31) (pc' := 7) (z := false) rfl rfl rfl (by decide) (fun h => by cases h) (fun _ => ?_)
            refine x_iload_n (pc' := 8) rfl rfl rfl ?_
            refine x_iload (pc' := 10) rfl rfl rfl ?_
            refine x_cs (ls0 := [_, _]) (rest := []) rfl rfl rfl rfl ?_
            refine x_iload_n (pc' := 1) rfl rfl rfl ?_
            refine x_iconst (pc' := 2) rfl rfl ?_
            refine x_icmp (a' := 16) (pc' := 5) (z := true) rfl rfl rfl (by decide) (fun _ => ?_) (fun h => by cases h)
            refine x_iload_n (pc' := 17) rfl rfl rfl ?_
            refine x_sipush (pc' := 20) rfl rfl ?_
            refine x_sipush (pc' := 23) rfl rfl ?_
            refine x_cs (ls0 := [_, _, _]) (rest := []) rfl rfl rfl rfl ?_
            refine x_iload_n (pc' := 1) rfl rfl rfl ?_
            refine x_iload_n (pc' := 2) rfl rfl rfl ?_
            refine x_icmp (a' := 14) (pc' := 5) (z := decide ((xs 4) < (-500))) rfl rfl rfl rfl (fun h => absurd (of_decide_eq_true h) (of_decide_eq_false q11)) (fun _ => ?_)
            refine x_iload_n (pc' := 6) rfl rfl rfl ?_
            refine x_iload_n (pc' := 7) rfl rfl rfl ?_
            refine x_icmp (a' := 14) (pc' := 10) (z := decide (500 < (xs 4))) rfl rfl rfl rfl (fun h => absurd (of_decide_eq_true h) (of_decide_eq_false q37)) (fun _ => ?_)
            refine x_iconst (pc' := 11) rfl rfl ?_
            refine x_goto (pc' := 15) rfl rfl ?_
            refine x_retz (z := true) rfl rfl ?_
            refine sK_i (pc' := 26) rfl ?_
            refine x_retz (z := true) rfl rfl ?_
            refine sK_i (pc' := 13) rfl ?_
            refine x_if (a' := 31) (pc' := 16) (z := false) rfl rfl rfl (by decide) (fun h => by cases h) (fun _ => ?_)
            refine x_iload (pc' := 18) rfl rfl rfl ?_
            refine x_iconst (pc' := 19) rfl rfl ?_
            refine x_bipush (pc' := 21) rfl rfl ?_
            refine x_cs (ls0 := [_, _, _]) (rest := []) rfl rfl rfl rfl ?_
            refine x_iload_n (pc' := 1) rfl rfl rfl ?_
            refine x_iload_n (pc' := 2) rfl rfl rfl ?_
            refine x_icmp (a' := 14) (pc' := 5) (z := decide ((xs 5) < 1)) rfl rfl rfl rfl (fun _ => ?_) (fun h => absurd (of_decide_eq_true q38) (of_decide_eq_false h))
            refine x_iconst (pc' := 15) rfl rfl ?_
            refine x_retz (z := false) rfl rfl ?_
            refine sK_i (pc' := 24) rfl ?_
            refine x_if (a' := 31) (pc' := 27) (z := true) rfl rfl rfl (by decide) (fun _ => ?_) (fun h => by cases h)
            refine x_iconst (pc' := 32) rfl rfl ?_
            refine x_istore (pc' := 34) (ls' := [_, _, _, _, _, _, _, _]) rfl rfl rfl rfl ?_
            refine x_iload_n (pc' := 35) rfl rfl rfl ?_
            refine x_cs (ls0 := [_]) (rest := []) rfl rfl rfl rfl ?_
            refine x_iload_n (pc' := 1) rfl rfl rfl ?_
            refine x_iconst (pc' := 2) rfl rfl ?_
            refine x_iconst (pc' := 3) rfl rfl ?_
            refine x_cs (ls0 := [_, _, _]) (rest := []) rfl rfl rfl rfl ?_
            refine x_iload_n (pc' := 1) rfl rfl rfl ?_
            refine x_iload_n (pc' := 2) rfl rfl rfl ?_
            refine x_icmp (a' := 14) (pc' := 5) (z := false) rfl rfl rfl (by decide) (fun h => by cases h) (fun _ => ?_)
            refine x_iload_n (pc' := 6) rfl rfl rfl ?_
            refine x_iload_n (pc' := 7) rfl rfl rfl ?_
            refine x_icmp (a' := 14) (pc' := 10) (z := false) rfl rfl rfl (by decide) (fun h => by cases h) (fun _ => ?_)
            refine x_iconst (pc' := 11) rfl rfl ?_
            refine x_goto (pc' := 15) rfl rfl ?_
            refine x_retz (z := true) rfl rfl ?_
            refine sK_i (pc' := 6) rfl ?_
            refine x_retz (z := true) rfl rfl ?_
            refine sK_i (pc' := 38) rfl ?_
            refine x_if (a' := 65) (pc' := 41) (z := false) rfl rfl rfl (by decide) (fun h => by cases h) (fun _ => ?_)
            refine x_aload_n (pc' := 42) rfl rfl rfl rfl rfl ?_
            refine x_gR (pc' := 45) (r := (some 0)) rfl rfl rfl (Eq.trans rdRthr (z_R_769_0 e)) ?_
            refine x_iload_n (pc' := 46) rfl rfl rfl ?_
            refine x_iald (pc' := 47) (N := 5) (x := 0) rfl rfl rfl (Eq.trans rdNthr (z_N_21_0 e)) (io_in (p := 4) (N := 5) (by decide) (by decide)) (Eq.trans (congrArg (sA (sThr t) 21 0) (nn_io (p := 4) (by decide))) (Eq.trans rdAthr (z_A_21_0_4 e))) ?_
            refine x_iconst (pc' := 48) rfl rfl ?_
            refine x_icmp (a' := 65) (pc' := 51) (z := true) rfl rfl rfl (by decide) (fun _ => ?_) (fun h => by cases h)
            refine x_iconst (pc' := 66) rfl rfl ?_
            refine x_istore (pc' := 68) (ls' := [_, _, _, _, _, _, _, _]) rfl rfl rfl rfl ?_
            refine x_aload_n (pc' := 69) rfl rfl rfl rfl rfl ?_
            refine x_aload_n (pc' := 70) rfl rfl rfl rfl rfl ?_
            refine x_iload_n (pc' := 71) rfl rfl rfl ?_
            refine x_iload_n (pc' := 72) rfl rfl rfl ?_
            refine x_iload (pc' := 74) rfl rfl rfl ?_
            refine x_iload (pc' := 76) rfl rfl rfl ?_
            refine x_cv (ls0 := [_, _, _, _, _, sJk]) (rest := [_]) rfl rfl rfl rfl rfl ?_
            refine x_iload_n (pc' := 1) rfl rfl rfl ?_
            refine x_cs (ls0 := [_]) (rest := []) rfl rfl rfl rfl ?_
            refine x_iload_n (pc' := 1) rfl rfl rfl ?_
            refine x_iconst (pc' := 2) rfl rfl ?_
            refine x_iconst (pc' := 3) rfl rfl ?_
            refine x_cs (ls0 := [_, _, _]) (rest := []) rfl rfl rfl rfl ?_
            refine x_iload_n (pc' := 1) rfl rfl rfl ?_
            refine x_iload_n (pc' := 2) rfl rfl rfl ?_
            refine x_icmp (a' := 14) (pc' := 5) (z := decide (m < 0)) rfl rfl rfl (ic_lt (p := m) (q := 0) (Nat.lt_trans hm (by decide)) (by decide)) (fun h => absurd (of_decide_eq_true h) (by first | decide | omega | simp)) (fun _ => ?_)
            refine x_iload_n (pc' := 6) rfl rfl rfl ?_
            refine x_iload_n (pc' := 7) rfl rfl rfl ?_
            refine x_icmp (a' := 14) (pc' := 10) (z := decide (5 < m)) rfl rfl rfl (ic_gt (p := m) (q := 5) (Nat.lt_trans hm (by decide)) (by decide)) (fun h => absurd (of_decide_eq_true h) (fun z => absurd hm (Nat.not_lt.mpr z))) (fun _ => ?_)
            refine x_iconst (pc' := 11) rfl rfl ?_
            refine x_goto (pc' := 15) rfl rfl ?_
            refine x_retz (z := true) rfl rfl ?_
            refine sK_i (pc' := 6) rfl ?_
            refine x_retz (z := true) rfl rfl ?_
            refine sK_i (pc' := 4) rfl ?_
            refine x_if (a' := 18) (pc' := 7) (z := false) rfl rfl rfl (by decide) (fun h => by cases h) (fun _ => ?_)
            refine x_iload_n (pc' := 8) rfl rfl rfl ?_
            refine x_cs (ls0 := [_]) (rest := []) rfl rfl rfl rfl ?_
            refine x_iload_n (pc' := 1) rfl rfl rfl ?_
            refine x_iconst (pc' := 2) rfl rfl ?_
            refine x_iconst (pc' := 3) rfl rfl ?_
            refine x_cs (ls0 := [_, _, _]) (rest := []) rfl rfl rfl rfl ?_
            refine x_iload_n (pc' := 1) rfl rfl rfl ?_
            refine x_iload_n (pc' := 2) rfl rfl rfl ?_
            refine x_icmp (a' := 14) (pc' := 5) (z := false) rfl rfl rfl (by decide) (fun h => by cases h) (fun _ => ?_)
            refine x_iload_n (pc' := 6) rfl rfl rfl ?_
            refine x_iload_n (pc' := 7) rfl rfl rfl ?_
            refine x_icmp (a' := 14) (pc' := 10) (z := false) rfl rfl rfl (by decide) (fun h => by cases h) (fun _ => ?_)
            refine x_iconst (pc' := 11) rfl rfl ?_
            refine x_goto (pc' := 15) rfl rfl ?_
            refine x_retz (z := true) rfl rfl ?_
            refine sK_i (pc' := 6) rfl ?_
            refine x_retz (z := true) rfl rfl ?_
            refine sK_i (pc' := 11) rfl ?_
            refine x_if (a' := 18) (pc' := 14) (z := false) rfl rfl rfl (by decide) (fun h => by cases h) (fun _ => ?_)
            refine x_iconst (pc' := 15) rfl rfl ?_
            refine x_goto (pc' := 19) rfl rfl ?_
            refine x_istore (pc' := 21) (ls' := [_, _, _, _, _, _]) rfl rfl rfl rfl ?_
            refine x_iload (pc' := 23) rfl rfl rfl ?_
            refine x_if (a' := 30) (pc' := 26) (z := true) rfl rfl rfl (by decide) (fun _ => ?_) (fun h => by cases h)
            refine x_iload_n (pc' := 31) rfl rfl rfl ?_
            refine x_if (a' := 38) (pc' := 34) (z := false) rfl rfl rfl (by decide) (fun h => by cases h) (fun _ => ?_)
            refine x_iconst (pc' := 35) rfl rfl ?_
            refine x_goto (pc' := 57) rfl rfl ?_
            refine x_reti rfl rfl ?_
            refine sK_i (pc' := 79) rfl ?_
            refine x_cv (ls0 := [_, _]) (rest := []) rfl rfl rfl rfl rfl ?_
            refine x_aload_n (pc' := 1) rfl rfl rfl rfl rfl ?_
            refine x_iload_n (pc' := 2) rfl rfl rfl ?_
            refine x_pI (pc' := 5) rfl rfl rfl ?_
            refine x_iload_n (pc' := 6) rfl rfl rfl ?_
            refine x_if (a' := 13) (pc' := 9) (z := true) rfl rfl rfl (by decide) (fun _ => ?_) (fun h => by cases h)
            refine x_iconst (pc' := 14) rfl rfl ?_
            refine x_retz (z := false) rfl rfl ?_
            refine sK_i (pc' := 82) rfl ?_
            refine x_if (a' := 102) (pc' := 85) (z := true) rfl rfl rfl (by decide) (fun _ => ?_) (fun h => by cases h)
            refine x_iconst (pc' := 103) rfl rfl ?_
            refine x_reti rfl rfl ?_
            refine sK_i (pc' := 1104) rfl ?_
            refine x_istore (pc' := 1106) (ls' := [_, _, _, _, _, _, _]) rfl rfl rfl rfl ?_
            refine x_aload_n (pc' := 1107) rfl rfl rfl rfl rfl ?_
            refine x_cv (ls0 := [_]) (rest := []) rfl rfl rfl rfl rfl ?_
            refine x_aload_n (pc' := 1) rfl rfl rfl rfl rfl ?_
            refine x_gI (pc' := 4) (x := 2) rfl rfl rfl sI_s ?_
            refine x_reti rfl rfl ?_
            refine sK_i (pc' := 1110) rfl ?_
            refine x_iload (pc' := 1112) rfl rfl rfl ?_
            refine x_icmp (a' := 1117) (pc' := 1115) (z := true) rfl rfl rfl (by decide) (fun _ => ?_) (fun h => by cases h)
            refine x_iload (pc' := 1119) rfl rfl rfl ?_
            refine x_if (a' := 1134) (pc' := 1122) (z := true) rfl rfl rfl (by decide) (fun _ => ?_) (fun h => by cases h)
            refine x_goto (pc' := 2938) rfl rfl ?_
            refine x_iinc (pc' := 2941) (y := 7) (ls' := [_, _, _, _, _, _, _]) rfl rfl rfl rfl rfl ?_
            refine x_goto (pc' := 23) rfl rfl ?_
            refine x_iload (pc' := 25) rfl rfl rfl ?_
            refine x_aload_n (pc' := 26) rfl rfl rfl rfl rfl ?_
            refine x_alen (pc' := 27) (N := 7) rfl rfl rfl (Eq.trans rdNI (Eq.trans rdNthr (z_N_29_0 e))) (?_ : X _ _ _ (.inl 7 :: _) _ _)
            refine x_bipush (pc' := 29) rfl rfl ?_
            refine x_isub (pc' := 30) (z := 0) rfl rfl (by decide) ?_
            refine x_icmp (a' := 2944) (pc' := 33) (z := true) rfl rfl rfl (by decide) (fun _ => ?_) (fun h => by cases h)
            refine x_iconst (pc' := 2945) rfl rfl ?_
            refine x_retz (z := true) rfl rfl ?_
            exact Qp_ok e (p := 1) (q := 6) rfl rfl rfl rfl
          refine x_if (a' := 1088) (pc' := 1084) (z := decide ((xs 3) = 0)) rfl rfl rfl rfl (fun q39 => ?_) (fun q39 => ?_)
          · refine x_iconst (pc' := 1089) rfl rfl ?_
            ((try rw [q39] at J39); (try rw [q39]); (try simp only [cd_t, cd_f, nt_t, nt_f, an_t, an_f, or_t, or_f] at J39); (try simp only [cd_t, cd_f, nt_t, nt_f, an_t, an_f, or_t, or_f]); exact J39)
          · refine x_iconst (pc' := 1085) rfl rfl ?_
            refine x_goto (pc' := 1089) rfl rfl ?_
            ((try rw [q39] at J39); (try rw [q39]); (try simp only [cd_t, cd_f, nt_t, nt_f, an_t, an_f, or_t, or_f] at J39); (try simp only [cd_t, cd_f, nt_t, nt_f, an_t, an_f, or_t, or_f]); exact J39)
        · refine x_iload_n (pc' := 6) rfl rfl rfl ?_
          refine x_iload_n (pc' := 7) rfl rfl rfl ?_
          refine x_icmp_n (a' := 21) (pc' := 10) (z := decide (100 < (xs 5))) rfl rfl rfl (ik_le _ _) (fun q67 => ?_) (fun q67 => ?_)
          · refine x_ret rfl ?_
            refine sK_v (pc' := 29) rfl ?_
            refine x_aload (pc' := 31) rfl rfl rfl rfl rfl ?_
            refine x_gI (pc' := 34) (x := 0) rfl rfl rfl (z_I_67_4 e) ?_
            refine x_iconst (pc' := 35) rfl rfl ?_
            refine x_icmp (a' := 42) (pc' := 38) (z := true) rfl rfl rfl (by decide) (fun _ => ?_) (fun h => by cases h)
            refine x_iconst (pc' := 43) rfl rfl ?_
            refine x_cs (ls0 := [_]) (rest := []) rfl rfl rfl rfl ?_
            refine x_iload_n (pc' := 1) rfl rfl rfl ?_
            refine x_if (a' := 15) (pc' := 4) (z := false) rfl rfl rfl (by decide) (fun h => by cases h) (fun _ => ?_)
            refine x_throw rfl rfl ?_
            refine sK_n (by decide +kernel) rfl ?_
            refine sK_h (h := 27) (by decide +kernel) rfl ?_
            refine x_catch (pc' := 29) (ls' := [_, _, _, _, _, _, _, _]) rfl rfl rfl rfl ?_
            refine x_iconst (pc' := 30) rfl rfl ?_
            refine x_reti rfl rfl ?_
            refine sK_i (pc' := 1060) rfl ?_
            refine x_istore (pc' := 1062) (ls' := [_, _, _, _, _, _, _]) rfl rfl rfl rfl ?_
            refine x_aload_n (pc' := 1063) rfl rfl rfl rfl rfl ?_
            refine x_aload_n (pc' := 1064) rfl rfl rfl rfl rfl ?_
            refine x_iload (pc' := 1066) rfl rfl rfl ?_
            refine x_iconst (pc' := 1067) rfl rfl ?_
            refine x_iadd (pc' := 1068) (z := 1) rfl rfl (by decide) ?_
            refine x_iald (pc' := 1069) (N := 7) (x := (io m)) rfl rfl rfl (Eq.trans rdNthr (z_N_29_0 e)) (io_in (p := 1) (N := 7) (by decide) (by decide)) (Eq.trans (congrArg (sA (sThr t) 29 0) (nn_io (p := 1) (by decide))) (Eq.trans rdAthr (Eq.trans (z_A_29_0_1 e) e0))) ?_
            refine x_aload_n (pc' := 1070) rfl rfl rfl rfl rfl ?_
            refine x_iload (pc' := 1072) rfl rfl rfl ?_
            refine x_iconst (pc' := 1073) rfl rfl ?_
            refine x_iadd (pc' := 1074) (z := 2) rfl rfl (by decide) ?_
            refine x_iald (pc' := 1075) (N := 7) (x := 4) rfl rfl rfl (Eq.trans rdNthr (z_N_29_0 e)) (io_in (p := 2) (N := 7) (by decide) (by decide)) (Eq.trans (congrArg (sA (sThr t) 29 0) (nn_io (p := 2) (by decide))) (Eq.trans rdAthr (Eq.trans (z_A_29_0_2 e) e1))) ?_
            refine x_aload_n (pc' := 1076) rfl rfl rfl rfl rfl ?_
            refine x_iload (pc' := 1078) rfl rfl rfl ?_
            refine x_iconst (pc' := 1079) rfl rfl ?_
            refine x_iadd (pc' := 1080) (z := 3) rfl rfl (by decide) ?_
            refine x_iald (pc' := 1081) (N := 7) (x := (xs 3)) rfl rfl rfl (Eq.trans rdNthr (z_N_29_0 e)) (io_in (p := 3) (N := 7) (by decide) (by decide)) (Eq.trans (congrArg (sA (sThr t) 29 0) (nn_io (p := 3) (by decide))) (Eq.trans rdAthr (z_A_29_0_3 e))) ?_
            have J70 : X 297 1089 [.inr (.inr (29, (some 0))), .inr (.inr (11, (some 0))), .inr (.inr (12, (some 0))), .inr (.inr (23, (some 0))), .inl 0, .inl 3, sJk] [.inl (bz (!(decide ((xs 3) = 0)))), .inl 4, .inl (io m), .inr (.inr (12, (some 0)))] (sThr t) Qp := by
              refine x_aload_n (pc' := 1090) rfl rfl rfl rfl rfl ?_
              refine x_iload (pc' := 1092) rfl rfl rfl ?_
              refine x_iconst (pc' := 1093) rfl rfl ?_
              refine x_iadd (pc' := 1094) (z := 4) rfl rfl (by decide) ?_
              refine x_iald (pc' := 1095) (N := 7) (x := (xs 4)) rfl rfl rfl (Eq.trans rdNthr (z_N_29_0 e)) (io_in (p := 4) (N := 7) (by decide) (by decide)) (Eq.trans (congrArg (sA (sThr t) 29 0) (nn_io (p := 4) (by decide))) (Eq.trans rdAthr (z_A_29_0_4 e))) ?_
              refine x_aload_n (pc' := 1096) rfl rfl rfl rfl rfl ?_
              refine x_iload (pc' := 1098) rfl rfl rfl ?_
              refine x_iconst (pc' := 1099) rfl rfl ?_
              refine x_iadd (pc' := 1100) (z := 5) rfl rfl (by decide) ?_
              refine x_iald (pc' := 1101) (N := 7) (x := (xs 5)) rfl rfl rfl (Eq.trans rdNthr (z_N_29_0 e)) (io_in (p := 5) (N := 7) (by decide) (by decide)) (Eq.trans (congrArg (sA (sThr t) 29 0) (nn_io (p := 5) (by decide))) (Eq.trans rdAthr (z_A_29_0_5 e))) ?_
              refine x_cv (ls0 := [_, _, _, _, _, _, sJk, sJk]) (rest := []) rfl rfl rfl rfl rfl ?_
              refine x_iload_n (pc' := 1) rfl rfl rfl ?_
              refine x_cs (ls0 := [_]) (rest := []) rfl rfl rfl rfl ?_
              refine x_iload_n (pc' := 1) rfl rfl rfl ?_
              refine x_iconst (pc' := 2) rfl rfl ?_
              refine x_iconst (pc' := 3) rfl rfl ?_
              refine x_cs (ls0 := [_, _, _]) (rest := []) rfl rfl rfl rfl ?_
              refine x_iload_n (pc' := 1) rfl rfl rfl ?_
              refine x_iload_n (pc' := 2) rfl rfl rfl ?_
              refine x_icmp (a' := 14) (pc' := 5) (z := false) rfl rfl rfl (by decide) (fun h => by cases h) (fun _ => ?_)
              refine x_iload_n (pc' := 6) rfl rfl rfl ?_
              refine x_iload_n (pc' := 7) rfl rfl rfl ?_
              refine x_icmp (a' := 14) (pc' := 10) (z := false) rfl rfl rfl (by decide) (fun h => by cases h) (fun _ => ?_)
              refine x_iconst (pc' := 11) rfl rfl ?_
              refine x_goto (pc' := 15) rfl rfl ?_
              refine x_retz (z := true) rfl rfl ?_
              refine sK_i (pc' := 6) rfl ?_
              refine x_retz (z := true) rfl rfl ?_
              refine sK_i (pc' := 4) rfl ?_
              refine x_if (a' := 31) (pc' := 7) (z := false) rfl rfl rfl (by decide) (fun h => by cases h) (fun _ => ?_)
              refine x_iload_n (pc' := 8) rfl rfl rfl ?_
              refine x_iload (pc' := 10) rfl rfl rfl ?_
              refine x_cs (ls0 := [_, _]) (rest := []) rfl rfl rfl rfl ?_
              refine x_iload_n (pc' := 1) rfl rfl rfl ?_
              refine x_iconst (pc' := 2) rfl rfl ?_
              refine x_icmp (a' := 16) (pc' := 5) (z := true) rfl rfl rfl (by decide) (fun _ => ?_) (fun h => by cases h)
              refine x_iload_n (pc' := 17) rfl rfl rfl ?_
              refine x_sipush (pc' := 20) rfl rfl ?_
              refine x_sipush (pc' := 23) rfl rfl ?_
              refine x_cs (ls0 := [_, _, _]) (rest := []) rfl rfl rfl rfl ?_
              refine x_iload_n (pc' := 1) rfl rfl rfl ?_
              refine x_iload_n (pc' := 2) rfl rfl rfl ?_
              refine x_icmp (a' := 14) (pc' := 5) (z := decide ((xs 4) < (-500))) rfl rfl rfl rfl (fun h => absurd (of_decide_eq_true h) (of_decide_eq_false q11)) (fun _ => ?_)
              refine x_iload_n (pc' := 6) rfl rfl rfl ?_
              refine x_iload_n (pc' := 7) rfl rfl rfl ?_
              refine x_icmp (a' := 14) (pc' := 10) (z := decide (500 < (xs 4))) rfl rfl rfl rfl (fun h => absurd (of_decide_eq_true h) (of_decide_eq_false q37)) (fun _ => ?_)
              refine x_iconst (pc' := 11) rfl rfl ?_
              refine x_goto (pc' := 15) rfl rfl ?_
              refine x_retz (z := true) rfl rfl ?_
              refine sK_i (pc' := 26) rfl ?_
              refine x_retz (z := true) rfl rfl ?_
              refine sK_i (pc' := 13) rfl ?_
              refine x_if (a' := 31) (pc' := 16) (z := false) rfl rfl rfl (by decide) (fun h => by cases h) (fun _ => ?_)
              refine x_iload (pc' := 18) rfl rfl rfl ?_
              refine x_iconst (pc' := 19) rfl rfl ?_
              refine x_bipush (pc' := 21) rfl rfl ?_
              refine x_cs (ls0 := [_, _, _]) (rest := []) rfl rfl rfl rfl ?_
              refine x_iload_n (pc' := 1) rfl rfl rfl ?_
              refine x_iload_n (pc' := 2) rfl rfl rfl ?_
              refine x_icmp (a' := 14) (pc' := 5) (z := decide ((xs 5) < 1)) rfl rfl rfl rfl (fun h => absurd (of_decide_eq_true h) (of_decide_eq_false q38)) (fun _ => ?_)
              refine x_iload_n (pc' := 6) rfl rfl rfl ?_
              refine x_iload_n (pc' := 7) rfl rfl rfl ?_
              refine x_icmp (a' := 14) (pc' := 10) (z := decide (100 < (xs 5))) rfl rfl rfl rfl (fun h => absurd (of_decide_eq_true h) (of_decide_eq_false q67)) (fun _ => ?_)
              refine x_iconst (pc' := 11) rfl rfl ?_
              refine x_goto (pc' := 15) rfl rfl ?_
              refine x_retz (z := true) rfl rfl ?_
              refine sK_i (pc' := 24) rfl ?_
              refine x_if (a' := 31) (pc' := 27) (z := false) rfl rfl rfl (by decide) (fun h => by cases h) (fun _ => ?_)
              refine x_iconst (pc' := 28) rfl rfl ?_
              refine x_goto (pc' := 32) rfl rfl ?_
              refine x_istore (pc' := 34) (ls' := [_, _, _, _, _, _, _, _]) rfl rfl rfl rfl ?_
              refine x_iload_n (pc' := 35) rfl rfl rfl ?_
              refine x_cs (ls0 := [_]) (rest := []) rfl rfl rfl rfl ?_
              refine x_iload_n (pc' := 1) rfl rfl rfl ?_
              refine x_iconst (pc' := 2) rfl rfl ?_
              refine x_iconst (pc' := 3) rfl rfl ?_
              refine x_cs (ls0 := [_, _, _]) (rest := []) rfl rfl rfl rfl ?_
              refine x_iload_n (pc' := 1) rfl rfl rfl ?_
              refine x_iload_n (pc' := 2) rfl rfl rfl ?_
              refine x_icmp (a' := 14) (pc' := 5) (z := false) rfl rfl rfl (by decide) (fun h => by cases h) (fun _ => ?_)
              refine x_iload_n (pc' := 6) rfl rfl rfl ?_
              refine x_iload_n (pc' := 7) rfl rfl rfl ?_
              refine x_icmp (a' := 14) (pc' := 10) (z := false) rfl rfl rfl (by decide) (fun h => by cases h) (fun _ => ?_)
              refine x_iconst (pc' := 11) rfl rfl ?_
              refine x_goto (pc' := 15) rfl rfl ?_
              refine x_retz (z := true) rfl rfl ?_
              refine sK_i (pc' := 6) rfl ?_
              refine x_retz (z := true) rfl rfl ?_
              refine sK_i (pc' := 38) rfl ?_
              refine x_if (a' := 65) (pc' := 41) (z := false) rfl rfl rfl (by decide) (fun h => by cases h) (fun _ => ?_)
              refine x_aload_n (pc' := 42) rfl rfl rfl rfl rfl ?_
              refine x_gR (pc' := 45) (r := (some 0)) rfl rfl rfl (Eq.trans rdRthr (z_R_769_0 e)) ?_
              refine x_iload_n (pc' := 46) rfl rfl rfl ?_
              refine x_iald (pc' := 47) (N := 5) (x := 0) rfl rfl rfl (Eq.trans rdNthr (z_N_21_0 e)) (io_in (p := 4) (N := 5) (by decide) (by decide)) (Eq.trans (congrArg (sA (sThr t) 21 0) (nn_io (p := 4) (by decide))) (Eq.trans rdAthr (z_A_21_0_4 e))) ?_
              refine x_iconst (pc' := 48) rfl rfl ?_
              refine x_icmp (a' := 65) (pc' := 51) (z := true) rfl rfl rfl (by decide) (fun _ => ?_) (fun h => by cases h)
              refine x_iconst (pc' := 66) rfl rfl ?_
              refine x_istore (pc' := 68) (ls' := [_, _, _, _, _, _, _, _]) rfl rfl rfl rfl ?_
              refine x_aload_n (pc' := 69) rfl rfl rfl rfl rfl ?_
              refine x_aload_n (pc' := 70) rfl rfl rfl rfl rfl ?_
              refine x_iload_n (pc' := 71) rfl rfl rfl ?_
              refine x_iload_n (pc' := 72) rfl rfl rfl ?_
              refine x_iload (pc' := 74) rfl rfl rfl ?_
              refine x_iload (pc' := 76) rfl rfl rfl ?_
              refine x_cv (ls0 := [_, _, _, _, _, sJk]) (rest := [_]) rfl rfl rfl rfl rfl ?_
              refine x_iload_n (pc' := 1) rfl rfl rfl ?_
              refine x_cs (ls0 := [_]) (rest := []) rfl rfl rfl rfl ?_
              refine x_iload_n (pc' := 1) rfl rfl rfl ?_
              refine x_iconst (pc' := 2) rfl rfl ?_
              refine x_iconst (pc' := 3) rfl rfl ?_
              refine x_cs (ls0 := [_, _, _]) (rest := []) rfl rfl rfl rfl ?_
              refine x_iload_n (pc' := 1) rfl rfl rfl ?_
              refine x_iload_n (pc' := 2) rfl rfl rfl ?_
              refine x_icmp (a' := 14) (pc' := 5) (z := decide (m < 0)) rfl rfl rfl (ic_lt (p := m) (q := 0) (Nat.lt_trans hm (by decide)) (by decide)) (fun h => absurd (of_decide_eq_true h) (by first | decide | omega | simp)) (fun _ => ?_)
              refine x_iload_n (pc' := 6) rfl rfl rfl ?_
              refine x_iload_n (pc' := 7) rfl rfl rfl ?_
              refine x_icmp (a' := 14) (pc' := 10) (z := decide (5 < m)) rfl rfl rfl (ic_gt (p := m) (q := 5) (Nat.lt_trans hm (by decide)) (by decide)) (fun h => absurd (of_decide_eq_true h) (fun z => absurd hm (Nat.not_lt.mpr z))) (fun _ => ?_)
              refine x_iconst (pc' := 11) rfl rfl ?_
              refine x_goto (pc' := 15) rfl rfl ?_
              refine x_retz (z := true) rfl rfl ?_
              refine sK_i (pc' := 6) rfl ?_
              refine x_retz (z := true) rfl rfl ?_
              refine sK_i (pc' := 4) rfl ?_
              refine x_if (a' := 18) (pc' := 7) (z := false) rfl rfl rfl (by decide) (fun h => by cases h) (fun _ => ?_)
              refine x_iload_n (pc' := 8) rfl rfl rfl ?_
              refine x_cs (ls0 := [_]) (rest := []) rfl rfl rfl rfl ?_
              refine x_iload_n (pc' := 1) rfl rfl rfl ?_
              refine x_iconst (pc' := 2) rfl rfl ?_
              refine x_iconst (pc' := 3) rfl rfl ?_
              refine x_cs (ls0 := [_, _, _]) (rest := []) rfl rfl rfl rfl ?_
              refine x_iload_n (pc' := 1) rfl rfl rfl ?_
              refine x_iload_n (pc' := 2) rfl rfl rfl ?_
              refine x_icmp (a' := 14) (pc' := 5) (z := false) rfl rfl rfl (by decide) (fun h => by cases h) (fun _ => ?_)
              refine x_iload_n (pc' := 6) rfl rfl rfl ?_
              refine x_iload_n (pc' := 7) rfl rfl rfl ?_
              refine x_icmp (a' := 14) (pc' := 10) (z := false) rfl rfl rfl (by decide) (fun h => by cases h) (fun _ => ?_)
              refine x_iconst (pc' := 11) rfl rfl ?_
              refine x_goto (pc' := 15) rfl rfl ?_
              refine x_retz (z := true) rfl rfl ?_
              refine sK_i (pc' := 6) rfl ?_
              refine x_retz (z := true) rfl rfl ?_
              refine sK_i (pc' := 11) rfl ?_
              refine x_if (a' := 18) (pc' := 14) (z := false) rfl rfl rfl (by decide) (fun h => by cases h) (fun _ => ?_)
              refine x_iconst (pc' := 15) rfl rfl ?_
              refine x_goto (pc' := 19) rfl rfl ?_
              refine x_istore (pc' := 21) (ls' := [_, _, _, _, _, _]) rfl rfl rfl rfl ?_
              refine x_iload (pc' := 23) rfl rfl rfl ?_
              refine x_if (a' := 30) (pc' := 26) (z := true) rfl rfl rfl (by decide) (fun _ => ?_) (fun h => by cases h)
              refine x_iload_n (pc' := 31) rfl rfl rfl ?_
              refine x_if (a' := 38) (pc' := 34) (z := true) rfl rfl rfl (by decide) (fun _ => ?_) (fun h => by cases h)
              refine x_aload_n (pc' := 39) rfl rfl rfl rfl rfl ?_
              refine x_gR (pc' := 42) (r := (some 2)) rfl rfl rfl (Eq.trans rdRthr (z_R_781_0 e)) ?_
              refine x_iload_n (pc' := 43) rfl rfl rfl ?_
              refine x_bald (pc' := 44) (N := 6) (z := false) rfl rfl (Eq.trans rdNthr (z_N_22_2 e)) (io_in (p := m) (N := 6) hm (by decide)) (Eq.trans (congrArg (sB (sThr t) 22 2) (nn_io (p := m) (Nat.lt_trans hm (by decide)))) (Eq.trans rdBthr (z_B_22_2_y e _))) ?_
              refine x_if (a' := 52) (pc' := 47) (z := false) rfl rfl rfl (by decide) (fun h => by cases h) (fun _ => ?_)
              refine x_iload (pc' := 49) rfl rfl rfl ?_
              refine x_if (a' := 56) (pc' := 52) (z := false) rfl rfl rfl (by decide) (fun h => by cases h) (fun _ => ?_)
              refine x_iconst (pc' := 53) rfl rfl ?_
              refine x_goto (pc' := 57) rfl rfl ?_
              refine x_reti rfl rfl ?_
              refine sK_i (pc' := 79) rfl ?_
              refine x_cv (ls0 := [_, _]) (rest := []) rfl rfl rfl rfl rfl ?_
              refine x_aload_n (pc' := 1) rfl rfl rfl rfl rfl ?_
              refine x_iload_n (pc' := 2) rfl rfl rfl ?_
              refine x_pI (pc' := 5) rfl rfl rfl ?_
              refine x_iload_n (pc' := 6) rfl rfl rfl ?_
              refine x_if (a' := 13) (pc' := 9) (z := true) rfl rfl rfl (by decide) (fun _ => ?_) (fun h => by cases h)
              refine x_iconst (pc' := 14) rfl rfl ?_
              refine x_retz (z := false) rfl rfl ?_
              refine sK_i (pc' := 82) rfl ?_
              refine x_if (a' := 102) (pc' := 85) (z := true) rfl rfl rfl (by decide) (fun _ => ?_) (fun h => by cases h)
              refine x_iconst (pc' := 103) rfl rfl ?_
              refine x_reti rfl rfl ?_
              refine sK_i (pc' := 1104) rfl ?_
              refine x_istore (pc' := 1106) (ls' := [_, _, _, _, _, _, _]) rfl rfl rfl rfl ?_
              refine x_aload_n (pc' := 1107) rfl rfl rfl rfl rfl ?_
              refine x_cv (ls0 := [_]) (rest := []) rfl rfl rfl rfl rfl ?_
              refine x_aload_n (pc' := 1) rfl rfl rfl rfl rfl ?_
              refine x_gI (pc' := 4) (x := 3) rfl rfl rfl sI_s ?_
              refine x_reti rfl rfl ?_
              refine sK_i (pc' := 1110) rfl ?_
              refine x_iload (pc' := 1112) rfl rfl rfl ?_
              refine x_icmp (a' := 1117) (pc' := 1115) (z := true) rfl rfl rfl (by decide) (fun _ => ?_) (fun h => by cases h)
              refine x_iload (pc' := 1119) rfl rfl rfl ?_
              refine x_if (a' := 1134) (pc' := 1122) (z := true) rfl rfl rfl (by decide) (fun _ => ?_) (fun h => by cases h)
              refine x_goto (pc' := 2938) rfl rfl ?_
              refine x_iinc (pc' := 2941) (y := 7) (ls' := [_, _, _, _, _, _, _]) rfl rfl rfl rfl rfl ?_
              refine x_goto (pc' := 23) rfl rfl ?_
              refine x_iload (pc' := 25) rfl rfl rfl ?_
              refine x_aload_n (pc' := 26) rfl rfl rfl rfl rfl ?_
              refine x_alen (pc' := 27) (N := 7) rfl rfl rfl (Eq.trans rdNI (Eq.trans rdNthr (z_N_29_0 e))) (?_ : X _ _ _ (.inl 7 :: _) _ _)
              refine x_bipush (pc' := 29) rfl rfl ?_
              refine x_isub (pc' := 30) (z := 0) rfl rfl (by decide) ?_
              refine x_icmp (a' := 2944) (pc' := 33) (z := true) rfl rfl rfl (by decide) (fun _ => ?_) (fun h => by cases h)
              refine x_iconst (pc' := 2945) rfl rfl ?_
              refine x_retz (z := true) rfl rfl ?_
              exact Qp_ok e (p := 1) (q := 6) rfl rfl rfl rfl
            refine x_if (a' := 1088) (pc' := 1084) (z := decide ((xs 3) = 0)) rfl rfl rfl rfl (fun q70 => ?_) (fun q70 => ?_)
            · refine x_iconst (pc' := 1089) rfl rfl ?_
              ((try rw [q70] at J70); (try rw [q70]); (try simp only [cd_t, cd_f, nt_t, nt_f, an_t, an_f, or_t, or_f] at J70); (try simp only [cd_t, cd_f, nt_t, nt_f, an_t, an_f, or_t, or_f]); exact J70)
            · refine x_iconst (pc' := 1085) rfl rfl ?_
              refine x_goto (pc' := 1089) rfl rfl ?_
              ((try rw [q70] at J70); (try rw [q70]); (try simp only [cd_t, cd_f, nt_t, nt_f, an_t, an_f, or_t, or_f] at J70); (try simp only [cd_t, cd_f, nt_t, nt_f, an_t, an_f, or_t, or_f]); exact J70)
          · refine x_throw rfl rfl ?_
            refine sK_n (by decide +kernel) rfl ?_
            refine sK_h (h := 23) (by decide +kernel) rfl ?_
            refine x_catch (pc' := 25) (ls' := [_, _, _, _, _, _, _, _]) rfl rfl rfl rfl ?_
            refine x_iconst (pc' := 26) rfl rfl ?_
            refine x_reti rfl rfl ?_
            refine sK_i (pc' := 1060) rfl ?_
            refine x_istore (pc' := 1062) (ls' := [_, _, _, _, _, _, _]) rfl rfl rfl rfl ?_
            refine x_aload_n (pc' := 1063) rfl rfl rfl rfl rfl ?_
            refine x_aload_n (pc' := 1064) rfl rfl rfl rfl rfl ?_
            refine x_iload (pc' := 1066) rfl rfl rfl ?_
            refine x_iconst (pc' := 1067) rfl rfl ?_
            refine x_iadd (pc' := 1068) (z := 1) rfl rfl (by decide) ?_
            refine x_iald (pc' := 1069) (N := 7) (x := (io m)) rfl rfl rfl (Eq.trans rdNthr (z_N_29_0 e)) (io_in (p := 1) (N := 7) (by decide) (by decide)) (Eq.trans (congrArg (sA (sThr t) 29 0) (nn_io (p := 1) (by decide))) (Eq.trans rdAthr (Eq.trans (z_A_29_0_1 e) e0))) ?_
            refine x_aload_n (pc' := 1070) rfl rfl rfl rfl rfl ?_
            refine x_iload (pc' := 1072) rfl rfl rfl ?_
            refine x_iconst (pc' := 1073) rfl rfl ?_
            refine x_iadd (pc' := 1074) (z := 2) rfl rfl (by decide) ?_
            refine x_iald (pc' := 1075) (N := 7) (x := 4) rfl rfl rfl (Eq.trans rdNthr (z_N_29_0 e)) (io_in (p := 2) (N := 7) (by decide) (by decide)) (Eq.trans (congrArg (sA (sThr t) 29 0) (nn_io (p := 2) (by decide))) (Eq.trans rdAthr (Eq.trans (z_A_29_0_2 e) e1))) ?_
            refine x_aload_n (pc' := 1076) rfl rfl rfl rfl rfl ?_
            refine x_iload (pc' := 1078) rfl rfl rfl ?_
            refine x_iconst (pc' := 1079) rfl rfl ?_
            refine x_iadd (pc' := 1080) (z := 3) rfl rfl (by decide) ?_
            refine x_iald (pc' := 1081) (N := 7) (x := (xs 3)) rfl rfl rfl (Eq.trans rdNthr (z_N_29_0 e)) (io_in (p := 3) (N := 7) (by decide) (by decide)) (Eq.trans (congrArg (sA (sThr t) 29 0) (nn_io (p := 3) (by decide))) (Eq.trans rdAthr (z_A_29_0_3 e))) ?_
            have J101 : X 297 1089 [.inr (.inr (29, (some 0))), .inr (.inr (11, (some 0))), .inr (.inr (12, (some 0))), .inr (.inr (23, (some 0))), .inl 0, .inl 2, sJk] [.inl (bz (!(decide ((xs 3) = 0)))), .inl 4, .inl (io m), .inr (.inr (12, (some 0)))] (sThr t) Qp := by
              refine x_aload_n (pc' := 1090) rfl rfl rfl rfl rfl ?_
              refine x_iload (pc' := 1092) rfl rfl rfl ?_
              refine x_iconst (pc' := 1093) rfl rfl ?_
              refine x_iadd (pc' := 1094) (z := 4) rfl rfl (by decide) ?_
              refine x_iald (pc' := 1095) (N := 7) (x := (xs 4)) rfl rfl rfl (Eq.trans rdNthr (z_N_29_0 e)) (io_in (p := 4) (N := 7) (by decide) (by decide)) (Eq.trans (congrArg (sA (sThr t) 29 0) (nn_io (p := 4) (by decide))) (Eq.trans rdAthr (z_A_29_0_4 e))) ?_
              refine x_aload_n (pc' := 1096) rfl rfl rfl rfl rfl ?_
              refine x_iload (pc' := 1098) rfl rfl rfl ?_
              refine x_iconst (pc' := 1099) rfl rfl ?_
              refine x_iadd (pc' := 1100) (z := 5) rfl rfl (by decide) ?_
              refine x_iald (pc' := 1101) (N := 7) (x := (xs 5)) rfl rfl rfl (Eq.trans rdNthr (z_N_29_0 e)) (io_in (p := 5) (N := 7) (by decide) (by decide)) (Eq.trans (congrArg (sA (sThr t) 29 0) (nn_io (p := 5) (by decide))) (Eq.trans rdAthr (z_A_29_0_5 e))) ?_
              refine x_cv (ls0 := [_, _, _, _, _, _, sJk, sJk]) (rest := []) rfl rfl rfl rfl rfl ?_
              refine x_iload_n (pc' := 1) rfl rfl rfl ?_
              refine x_cs (ls0 := [_]) (rest := []) rfl rfl rfl rfl ?_
              refine x_iload_n (pc' := 1) rfl rfl rfl ?_
              refine x_iconst (pc' := 2) rfl rfl ?_
              refine x_iconst (pc' := 3) rfl rfl ?_
              refine x_cs (ls0 := [_, _, _]) (rest := []) rfl rfl rfl rfl ?_
              refine x_iload_n (pc' := 1) rfl rfl rfl ?_
              refine x_iload_n (pc' := 2) rfl rfl rfl ?_
              refine x_icmp (a' := 14) (pc' := 5) (z := false) rfl rfl rfl (by decide) (fun h => by cases h) (fun _ => ?_)
              refine x_iload_n (pc' := 6) rfl rfl rfl ?_
              refine x_iload_n (pc' := 7) rfl rfl rfl ?_
              refine x_icmp (a' := 14) (pc' := 10) (z := false) rfl rfl rfl (by decide) (fun h => by cases h) (fun _ => ?_)
              refine x_iconst (pc' := 11) rfl rfl ?_
              refine x_goto (pc' := 15) rfl rfl ?_
              refine x_retz (z := true) rfl rfl ?_
              refine sK_i (pc' := 6) rfl ?_
              refine x_retz (z := true) rfl rfl ?_
              refine sK_i (pc' := 4) rfl ?_
              refine x_if (a' := 31) (pc' := 7) (z := false) rfl rfl rfl (by decide) (fun h => by cases h) (fun _ => ?_)
              refine x_iload_n (pc' := 8) rfl rfl rfl ?_
              refine x_iload (pc' := 10) rfl rfl rfl ?_
              refine x_cs (ls0 := [_, _]) (rest := []) rfl rfl rfl rfl ?_
              refine x_iload_n (pc' := 1) rfl rfl rfl ?_
              refine x_iconst (pc' := 2) rfl rfl ?_
              refine x_icmp (a' := 16) (pc' := 5) (z := true) rfl rfl rfl (by decide) (fun _ => ?_) (fun h => by cases h)
              refine x_iload_n (pc' := 17) rfl rfl rfl ?_
              refine x_sipush (pc' := 20) rfl rfl ?_
              refine x_sipush (pc' := 23) rfl rfl ?_
              refine x_cs (ls0 := [_, _, _]) (rest := []) rfl rfl rfl rfl ?_
              refine x_iload_n (pc' := 1) rfl rfl rfl ?_
              refine x_iload_n (pc' := 2) rfl rfl rfl ?_
              refine x_icmp (a' := 14) (pc' := 5) (z := decide ((xs 4) < (-500))) rfl rfl rfl rfl (fun h => absurd (of_decide_eq_true h) (of_decide_eq_false q11)) (fun _ => ?_)
              refine x_iload_n (pc' := 6) rfl rfl rfl ?_
              refine x_iload_n (pc' := 7) rfl rfl rfl ?_
              refine x_icmp (a' := 14) (pc' := 10) (z := decide (500 < (xs 4))) rfl rfl rfl rfl (fun h => absurd (of_decide_eq_true h) (of_decide_eq_false q37)) (fun _ => ?_)
              refine x_iconst (pc' := 11) rfl rfl ?_
              refine x_goto (pc' := 15) rfl rfl ?_
              refine x_retz (z := true) rfl rfl ?_
              refine sK_i (pc' := 26) rfl ?_
              refine x_retz (z := true) rfl rfl ?_
              refine sK_i (pc' := 13) rfl ?_
              refine x_if (a' := 31) (pc' := 16) (z := false) rfl rfl rfl (by decide) (fun h => by cases h) (fun _ => ?_)
              refine x_iload (pc' := 18) rfl rfl rfl ?_
              refine x_iconst (pc' := 19) rfl rfl ?_
              refine x_bipush (pc' := 21) rfl rfl ?_
              refine x_cs (ls0 := [_, _, _]) (rest := []) rfl rfl rfl rfl ?_
              refine x_iload_n (pc' := 1) rfl rfl rfl ?_
              refine x_iload_n (pc' := 2) rfl rfl rfl ?_
              refine x_icmp (a' := 14) (pc' := 5) (z := decide ((xs 5) < 1)) rfl rfl rfl rfl (fun h => absurd (of_decide_eq_true h) (of_decide_eq_false q38)) (fun _ => ?_)
              refine x_iload_n (pc' := 6) rfl rfl rfl ?_
              refine x_iload_n (pc' := 7) rfl rfl rfl ?_
              refine x_icmp (a' := 14) (pc' := 10) (z := decide (100 < (xs 5))) rfl rfl rfl rfl (fun _ => ?_) (fun h => absurd (of_decide_eq_true q67) (of_decide_eq_false h))
              refine x_iconst (pc' := 15) rfl rfl ?_
              refine x_retz (z := false) rfl rfl ?_
              refine sK_i (pc' := 24) rfl ?_
              refine x_if (a' := 31) (pc' := 27) (z := true) rfl rfl rfl (by decide) (fun _ => ?_) (fun h => by cases h)
              refine x_iconst (pc' := 32) rfl rfl ?_
              refine x_istore (pc' := 34) (ls' := [_, _, _, _, _, _, _, _]) rfl rfl rfl rfl ?_
              refine x_iload_n (pc' := 35) rfl rfl rfl ?_
              refine x_cs (ls0 := [_]) (rest := []) rfl rfl rfl rfl ?_
              refine x_iload_n (pc' := 1) rfl rfl rfl ?_
              refine x_iconst (pc' := 2) rfl rfl ?_
              refine x_iconst (pc' := 3) rfl rfl ?_
              refine x_cs (ls0 := [_, _, _]) (rest := []) rfl rfl rfl rfl ?_
              refine x_iload_n (pc' := 1) rfl rfl rfl ?_
              refine x_iload_n (pc' := 2) rfl rfl rfl ?_
              refine x_icmp (a' := 14) (pc' := 5) (z := false) rfl rfl rfl (by decide) (fun h => by cases h) (fun _ => ?_)
              refine x_iload_n (pc' := 6) rfl rfl rfl ?_
              refine x_iload_n (pc' := 7) rfl rfl rfl ?_
              refine x_icmp (a' := 14) (pc' := 10) (z := false) rfl rfl rfl (by decide) (fun h => by cases h) (fun _ => ?_)
              refine x_iconst (pc' := 11) rfl rfl ?_
              refine x_goto (pc' := 15) rfl rfl ?_
              refine x_retz (z := true) rfl rfl ?_
              refine sK_i (pc' := 6) rfl ?_
              refine x_retz (z := true) rfl rfl ?_
              refine sK_i (pc' := 38) rfl ?_
              refine x_if (a' := 65) (pc' := 41) (z := false) rfl rfl rfl (by decide) (fun h => by cases h) (fun _ => ?_)
              refine x_aload_n (pc' := 42) rfl rfl rfl rfl rfl ?_
              refine x_gR (pc' := 45) (r := (some 0)) rfl rfl rfl (Eq.trans rdRthr (z_R_769_0 e)) ?_
              refine x_iload_n (pc' := 46) rfl rfl rfl ?_
              refine x_iald (pc' := 47) (N := 5) (x := 0) rfl rfl rfl (Eq.trans rdNthr (z_N_21_0 e)) (io_in (p := 4) (N := 5) (by decide) (by decide)) (Eq.trans (congrArg (sA (sThr t) 21 0) (nn_io (p := 4) (by decide))) (Eq.trans rdAthr (z_A_21_0_4 e))) ?_
              refine x_iconst (pc' := 48) rfl rfl ?_
              refine x_icmp (a' := 65) (pc' := 51) (z := true) rfl rfl rfl (by decide) (fun _ => ?_) (fun h => by cases h)
              refine x_iconst (pc' := 66) rfl rfl ?_
              refine x_istore (pc' := 68) (ls' := [_, _, _, _, _, _, _, _]) rfl rfl rfl rfl ?_
              refine x_aload_n (pc' := 69) rfl rfl rfl rfl rfl ?_
              refine x_aload_n (pc' := 70) rfl rfl rfl rfl rfl ?_
              refine x_iload_n (pc' := 71) rfl rfl rfl ?_
              refine x_iload_n (pc' := 72) rfl rfl rfl ?_
              refine x_iload (pc' := 74) rfl rfl rfl ?_
              refine x_iload (pc' := 76) rfl rfl rfl ?_
              refine x_cv (ls0 := [_, _, _, _, _, sJk]) (rest := [_]) rfl rfl rfl rfl rfl ?_
              refine x_iload_n (pc' := 1) rfl rfl rfl ?_
              refine x_cs (ls0 := [_]) (rest := []) rfl rfl rfl rfl ?_
              refine x_iload_n (pc' := 1) rfl rfl rfl ?_
              refine x_iconst (pc' := 2) rfl rfl ?_
              refine x_iconst (pc' := 3) rfl rfl ?_
              refine x_cs (ls0 := [_, _, _]) (rest := []) rfl rfl rfl rfl ?_
              refine x_iload_n (pc' := 1) rfl rfl rfl ?_
              refine x_iload_n (pc' := 2) rfl rfl rfl ?_
              refine x_icmp (a' := 14) (pc' := 5) (z := decide (m < 0)) rfl rfl rfl (ic_lt (p := m) (q := 0) (Nat.lt_trans hm (by decide)) (by decide)) (fun h => absurd (of_decide_eq_true h) (by first | decide | omega | simp)) (fun _ => ?_)
              refine x_iload_n (pc' := 6) rfl rfl rfl ?_
              refine x_iload_n (pc' := 7) rfl rfl rfl ?_
              refine x_icmp (a' := 14) (pc' := 10) (z := decide (5 < m)) rfl rfl rfl (ic_gt (p := m) (q := 5) (Nat.lt_trans hm (by decide)) (by decide)) (fun h => absurd (of_decide_eq_true h) (fun z => absurd hm (Nat.not_lt.mpr z))) (fun _ => ?_)
              refine x_iconst (pc' := 11) rfl rfl ?_
              refine x_goto (pc' := 15) rfl rfl ?_
              refine x_retz (z := true) rfl rfl ?_
              refine sK_i (pc' := 6) rfl ?_
              refine x_retz (z := true) rfl rfl ?_
              refine sK_i (pc' := 4) rfl ?_
              refine x_if (a' := 18) (pc' := 7) (z := false) rfl rfl rfl (by decide) (fun h => by cases h) (fun _ => ?_)
              refine x_iload_n (pc' := 8) rfl rfl rfl ?_
              refine x_cs (ls0 := [_]) (rest := []) rfl rfl rfl rfl ?_
              refine x_iload_n (pc' := 1) rfl rfl rfl ?_
              refine x_iconst (pc' := 2) rfl rfl ?_
              refine x_iconst (pc' := 3) rfl rfl ?_
              refine x_cs (ls0 := [_, _, _]) (rest := []) rfl rfl rfl rfl ?_
              refine x_iload_n (pc' := 1) rfl rfl rfl ?_
              refine x_iload_n (pc' := 2) rfl rfl rfl ?_
              refine x_icmp (a' := 14) (pc' := 5) (z := false) rfl rfl rfl (by decide) (fun h => by cases h) (fun _ => ?_)
              refine x_iload_n (pc' := 6) rfl rfl rfl ?_
              refine x_iload_n (pc' := 7) rfl rfl rfl ?_
              refine x_icmp (a' := 14) (pc' := 10) (z := false) rfl rfl rfl (by decide) (fun h => by cases h) (fun _ => ?_)
              refine x_iconst (pc' := 11) rfl rfl ?_
              refine x_goto (pc' := 15) rfl rfl ?_
              refine x_retz (z := true) rfl rfl ?_
              refine sK_i (pc' := 6) rfl ?_
              refine x_retz (z := true) rfl rfl ?_
              refine sK_i (pc' := 11) rfl ?_
              refine x_if (a' := 18) (pc' := 14) (z := false) rfl rfl rfl (by decide) (fun h => by cases h) (fun _ => ?_)
              refine x_iconst (pc' := 15) rfl rfl ?_
              refine x_goto (pc' := 19) rfl rfl ?_
              refine x_istore (pc' := 21) (ls' := [_, _, _, _, _, _]) rfl rfl rfl rfl ?_
              refine x_iload (pc' := 23) rfl rfl rfl ?_
              refine x_if (a' := 30) (pc' := 26) (z := true) rfl rfl rfl (by decide) (fun _ => ?_) (fun h => by cases h)
              refine x_iload_n (pc' := 31) rfl rfl rfl ?_
              refine x_if (a' := 38) (pc' := 34) (z := false) rfl rfl rfl (by decide) (fun h => by cases h) (fun _ => ?_)
              refine x_iconst (pc' := 35) rfl rfl ?_
              refine x_goto (pc' := 57) rfl rfl ?_
              refine x_reti rfl rfl ?_
              refine sK_i (pc' := 79) rfl ?_
              refine x_cv (ls0 := [_, _]) (rest := []) rfl rfl rfl rfl rfl ?_
              refine x_aload_n (pc' := 1) rfl rfl rfl rfl rfl ?_
              refine x_iload_n (pc' := 2) rfl rfl rfl ?_
              refine x_pI (pc' := 5) rfl rfl rfl ?_
              refine x_iload_n (pc' := 6) rfl rfl rfl ?_
              refine x_if (a' := 13) (pc' := 9) (z := true) rfl rfl rfl (by decide) (fun _ => ?_) (fun h => by cases h)
              refine x_iconst (pc' := 14) rfl rfl ?_
              refine x_retz (z := false) rfl rfl ?_
              refine sK_i (pc' := 82) rfl ?_
              refine x_if (a' := 102) (pc' := 85) (z := true) rfl rfl rfl (by decide) (fun _ => ?_) (fun h => by cases h)
              refine x_iconst (pc' := 103) rfl rfl ?_
              refine x_reti rfl rfl ?_
              refine sK_i (pc' := 1104) rfl ?_
              refine x_istore (pc' := 1106) (ls' := [_, _, _, _, _, _, _]) rfl rfl rfl rfl ?_
              refine x_aload_n (pc' := 1107) rfl rfl rfl rfl rfl ?_
              refine x_cv (ls0 := [_]) (rest := []) rfl rfl rfl rfl rfl ?_
              refine x_aload_n (pc' := 1) rfl rfl rfl rfl rfl ?_
              refine x_gI (pc' := 4) (x := 2) rfl rfl rfl sI_s ?_
              refine x_reti rfl rfl ?_
              refine sK_i (pc' := 1110) rfl ?_
              refine x_iload (pc' := 1112) rfl rfl rfl ?_
              refine x_icmp (a' := 1117) (pc' := 1115) (z := true) rfl rfl rfl (by decide) (fun _ => ?_) (fun h => by cases h)
              refine x_iload (pc' := 1119) rfl rfl rfl ?_
              refine x_if (a' := 1134) (pc' := 1122) (z := true) rfl rfl rfl (by decide) (fun _ => ?_) (fun h => by cases h)
              refine x_goto (pc' := 2938) rfl rfl ?_
              refine x_iinc (pc' := 2941) (y := 7) (ls' := [_, _, _, _, _, _, _]) rfl rfl rfl rfl rfl ?_
              refine x_goto (pc' := 23) rfl rfl ?_
              refine x_iload (pc' := 25) rfl rfl rfl ?_
              refine x_aload_n (pc' := 26) rfl rfl rfl rfl rfl ?_
              refine x_alen (pc' := 27) (N := 7) rfl rfl rfl (Eq.trans rdNI (Eq.trans rdNthr (z_N_29_0 e))) (?_ : X _ _ _ (.inl 7 :: _) _ _)
              refine x_bipush (pc' := 29) rfl rfl ?_
              refine x_isub (pc' := 30) (z := 0) rfl rfl (by decide) ?_
              refine x_icmp (a' := 2944) (pc' := 33) (z := true) rfl rfl rfl (by decide) (fun _ => ?_) (fun h => by cases h)
              refine x_iconst (pc' := 2945) rfl rfl ?_
              refine x_retz (z := true) rfl rfl ?_
              exact Qp_ok e (p := 1) (q := 6) rfl rfl rfl rfl
            refine x_if (a' := 1088) (pc' := 1084) (z := decide ((xs 3) = 0)) rfl rfl rfl rfl (fun q101 => ?_) (fun q101 => ?_)
            · refine x_iconst (pc' := 1089) rfl rfl ?_
              ((try rw [q101] at J101); (try rw [q101]); (try simp only [cd_t, cd_f, nt_t, nt_f, an_t, an_f, or_t, or_f] at J101); (try simp only [cd_t, cd_f, nt_t, nt_f, an_t, an_f, or_t, or_f]); exact J101)
            · refine x_iconst (pc' := 1085) rfl rfl ?_
              refine x_goto (pc' := 1089) rfl rfl ?_
              ((try rw [q101] at J101); (try rw [q101]); (try simp only [cd_t, cd_f, nt_t, nt_f, an_t, an_f, or_t, or_f] at J101); (try simp only [cd_t, cd_f, nt_t, nt_f, an_t, an_f, or_t, or_f]); exact J101)
      · refine x_throw rfl rfl ?_
        refine sK_n (by decide +kernel) rfl ?_
        refine sK_n (by decide +kernel) rfl ?_
        refine sK_h (h := 23) (by decide +kernel) rfl ?_
        refine x_catch (pc' := 25) (ls' := [_, _, _, _, _, _, _, _]) rfl rfl rfl rfl ?_
        refine x_iconst (pc' := 26) rfl rfl ?_
        refine x_reti rfl rfl ?_
        refine sK_i (pc' := 1060) rfl ?_
        refine x_istore (pc' := 1062) (ls' := [_, _, _, _, _, _, _]) rfl rfl rfl rfl ?_
        refine x_aload_n (pc' := 1063) rfl rfl rfl rfl rfl ?_
        refine x_aload_n (pc' := 1064) rfl rfl rfl rfl rfl ?_
        refine x_iload (pc' := 1066) rfl rfl rfl ?_
        refine x_iconst (pc' := 1067) rfl rfl ?_
        refine x_iadd (pc' := 1068) (z := 1) rfl rfl (by decide) ?_
        refine x_iald (pc' := 1069) (N := 7) (x := (io m)) rfl rfl rfl (Eq.trans rdNthr (z_N_29_0 e)) (io_in (p := 1) (N := 7) (by decide) (by decide)) (Eq.trans (congrArg (sA (sThr t) 29 0) (nn_io (p := 1) (by decide))) (Eq.trans rdAthr (Eq.trans (z_A_29_0_1 e) e0))) ?_
        refine x_aload_n (pc' := 1070) rfl rfl rfl rfl rfl ?_
        refine x_iload (pc' := 1072) rfl rfl rfl ?_
        refine x_iconst (pc' := 1073) rfl rfl ?_
        refine x_iadd (pc' := 1074) (z := 2) rfl rfl (by decide) ?_
        refine x_iald (pc' := 1075) (N := 7) (x := 4) rfl rfl rfl (Eq.trans rdNthr (z_N_29_0 e)) (io_in (p := 2) (N := 7) (by decide) (by decide)) (Eq.trans (congrArg (sA (sThr t) 29 0) (nn_io (p := 2) (by decide))) (Eq.trans rdAthr (Eq.trans (z_A_29_0_2 e) e1))) ?_
        refine x_aload_n (pc' := 1076) rfl rfl rfl rfl rfl ?_
        refine x_iload (pc' := 1078) rfl rfl rfl ?_
        refine x_iconst (pc' := 1079) rfl rfl ?_
        refine x_iadd (pc' := 1080) (z := 3) rfl rfl (by decide) ?_
        refine x_iald (pc' := 1081) (N := 7) (x := (xs 3)) rfl rfl rfl (Eq.trans rdNthr (z_N_29_0 e)) (io_in (p := 3) (N := 7) (by decide) (by decide)) (Eq.trans (congrArg (sA (sThr t) 29 0) (nn_io (p := 3) (by decide))) (Eq.trans rdAthr (z_A_29_0_3 e))) ?_
        have J130 : X 297 1089 [.inr (.inr (29, (some 0))), .inr (.inr (11, (some 0))), .inr (.inr (12, (some 0))), .inr (.inr (23, (some 0))), .inl 0, .inl 2, sJk] [.inl (bz (!(decide ((xs 3) = 0)))), .inl 4, .inl (io m), .inr (.inr (12, (some 0)))] (sThr t) Qp := by
          refine x_aload_n (pc' := 1090) rfl rfl rfl rfl rfl ?_
          refine x_iload (pc' := 1092) rfl rfl rfl ?_
          refine x_iconst (pc' := 1093) rfl rfl ?_
          refine x_iadd (pc' := 1094) (z := 4) rfl rfl (by decide) ?_
          refine x_iald (pc' := 1095) (N := 7) (x := (xs 4)) rfl rfl rfl (Eq.trans rdNthr (z_N_29_0 e)) (io_in (p := 4) (N := 7) (by decide) (by decide)) (Eq.trans (congrArg (sA (sThr t) 29 0) (nn_io (p := 4) (by decide))) (Eq.trans rdAthr (z_A_29_0_4 e))) ?_
          refine x_aload_n (pc' := 1096) rfl rfl rfl rfl rfl ?_
          refine x_iload (pc' := 1098) rfl rfl rfl ?_
          refine x_iconst (pc' := 1099) rfl rfl ?_
          refine x_iadd (pc' := 1100) (z := 5) rfl rfl (by decide) ?_
          refine x_iald (pc' := 1101) (N := 7) (x := (xs 5)) rfl rfl rfl (Eq.trans rdNthr (z_N_29_0 e)) (io_in (p := 5) (N := 7) (by decide) (by decide)) (Eq.trans (congrArg (sA (sThr t) 29 0) (nn_io (p := 5) (by decide))) (Eq.trans rdAthr (z_A_29_0_5 e))) ?_
          refine x_cv (ls0 := [_, _, _, _, _, _, sJk, sJk]) (rest := []) rfl rfl rfl rfl rfl ?_
          refine x_iload_n (pc' := 1) rfl rfl rfl ?_
          refine x_cs (ls0 := [_]) (rest := []) rfl rfl rfl rfl ?_
          refine x_iload_n (pc' := 1) rfl rfl rfl ?_
          refine x_iconst (pc' := 2) rfl rfl ?_
          refine x_iconst (pc' := 3) rfl rfl ?_
          refine x_cs (ls0 := [_, _, _]) (rest := []) rfl rfl rfl rfl ?_
          refine x_iload_n (pc' := 1) rfl rfl rfl ?_
          refine x_iload_n (pc' := 2) rfl rfl rfl ?_
          refine x_icmp (a' := 14) (pc' := 5) (z := false) rfl rfl rfl (by decide) (fun h => by cases h) (fun _ => ?_)
          refine x_iload_n (pc' := 6) rfl rfl rfl ?_
          refine x_iload_n (pc' := 7) rfl rfl rfl ?_
          refine x_icmp (a' := 14) (pc' := 10) (z := false) rfl rfl rfl (by decide) (fun h => by cases h) (fun _ => ?_)
          refine x_iconst (pc' := 11) rfl rfl ?_
          refine x_goto (pc' := 15) rfl rfl ?_
          refine x_retz (z := true) rfl rfl ?_
          refine sK_i (pc' := 6) rfl ?_
          refine x_retz (z := true) rfl rfl ?_
          refine sK_i (pc' := 4) rfl ?_
          refine x_if (a' := 31) (pc' := 7) (z := false) rfl rfl rfl (by decide) (fun h => by cases h) (fun _ => ?_)
          refine x_iload_n (pc' := 8) rfl rfl rfl ?_
          refine x_iload (pc' := 10) rfl rfl rfl ?_
          refine x_cs (ls0 := [_, _]) (rest := []) rfl rfl rfl rfl ?_
          refine x_iload_n (pc' := 1) rfl rfl rfl ?_
          refine x_iconst (pc' := 2) rfl rfl ?_
          refine x_icmp (a' := 16) (pc' := 5) (z := true) rfl rfl rfl (by decide) (fun _ => ?_) (fun h => by cases h)
          refine x_iload_n (pc' := 17) rfl rfl rfl ?_
          refine x_sipush (pc' := 20) rfl rfl ?_
          refine x_sipush (pc' := 23) rfl rfl ?_
          refine x_cs (ls0 := [_, _, _]) (rest := []) rfl rfl rfl rfl ?_
          refine x_iload_n (pc' := 1) rfl rfl rfl ?_
          refine x_iload_n (pc' := 2) rfl rfl rfl ?_
          refine x_icmp (a' := 14) (pc' := 5) (z := decide ((xs 4) < (-500))) rfl rfl rfl rfl (fun h => absurd (of_decide_eq_true h) (of_decide_eq_false q11)) (fun _ => ?_)
          refine x_iload_n (pc' := 6) rfl rfl rfl ?_
          refine x_iload_n (pc' := 7) rfl rfl rfl ?_
          refine x_icmp (a' := 14) (pc' := 10) (z := decide (500 < (xs 4))) rfl rfl rfl rfl (fun _ => ?_) (fun h => absurd (of_decide_eq_true q37) (of_decide_eq_false h))
          refine x_iconst (pc' := 15) rfl rfl ?_
          refine x_retz (z := false) rfl rfl ?_
          refine sK_i (pc' := 26) rfl ?_
          refine x_retz (z := false) rfl rfl ?_
          refine sK_i (pc' := 13) rfl ?_
          refine x_if (a' := 31) (pc' := 16) (z := true) rfl rfl rfl (by decide) (fun _ => ?_) (fun h => by cases h)
          refine x_iconst (pc' := 32) rfl rfl ?_
          refine x_istore (pc' := 34) (ls' := [_, _, _, _, _, _, _, _]) rfl rfl rfl rfl ?_
          refine x_iload_n (pc' := 35) rfl rfl rfl ?_
          refine x_cs (ls0 := [_]) (rest := []) rfl rfl rfl rfl ?_
          refine x_iload_n (pc' := 1) rfl rfl rfl ?_
          refine x_iconst (pc' := 2) rfl rfl ?_
          refine x_iconst (pc' := 3) rfl rfl ?_
          refine x_cs (ls0 := [_, _, _]) (rest := []) rfl rfl rfl rfl ?_
          refine x_iload_n (pc' := 1) rfl rfl rfl ?_
          refine x_iload_n (pc' := 2) rfl rfl rfl ?_
          refine x_icmp (a' := 14) (pc' := 5) (z := false) rfl rfl rfl (by decide) (fun h => by cases h) (fun _ => ?_)
          refine x_iload_n (pc' := 6) rfl rfl rfl ?_
          refine x_iload_n (pc' := 7) rfl rfl rfl ?_
          refine x_icmp (a' := 14) (pc' := 10) (z := false) rfl rfl rfl (by decide) (fun h => by cases h) (fun _ => ?_)
          refine x_iconst (pc' := 11) rfl rfl ?_
          refine x_goto (pc' := 15) rfl rfl ?_
          refine x_retz (z := true) rfl rfl ?_
          refine sK_i (pc' := 6) rfl ?_
          refine x_retz (z := true) rfl rfl ?_
          refine sK_i (pc' := 38) rfl ?_
          refine x_if (a' := 65) (pc' := 41) (z := false) rfl rfl rfl (by decide) (fun h => by cases h) (fun _ => ?_)
          refine x_aload_n (pc' := 42) rfl rfl rfl rfl rfl ?_
          refine x_gR (pc' := 45) (r := (some 0)) rfl rfl rfl (Eq.trans rdRthr (z_R_769_0 e)) ?_
          refine x_iload_n (pc' := 46) rfl rfl rfl ?_
          refine x_iald (pc' := 47) (N := 5) (x := 0) rfl rfl rfl (Eq.trans rdNthr (z_N_21_0 e)) (io_in (p := 4) (N := 5) (by decide) (by decide)) (Eq.trans (congrArg (sA (sThr t) 21 0) (nn_io (p := 4) (by decide))) (Eq.trans rdAthr (z_A_21_0_4 e))) ?_
          refine x_iconst (pc' := 48) rfl rfl ?_
          refine x_icmp (a' := 65) (pc' := 51) (z := true) rfl rfl rfl (by decide) (fun _ => ?_) (fun h => by cases h)
          refine x_iconst (pc' := 66) rfl rfl ?_
          refine x_istore (pc' := 68) (ls' := [_, _, _, _, _, _, _, _]) rfl rfl rfl rfl ?_
          refine x_aload_n (pc' := 69) rfl rfl rfl rfl rfl ?_
          refine x_aload_n (pc' := 70) rfl rfl rfl rfl rfl ?_
          refine x_iload_n (pc' := 71) rfl rfl rfl ?_
          refine x_iload_n (pc' := 72) rfl rfl rfl ?_
          refine x_iload (pc' := 74) rfl rfl rfl ?_
          refine x_iload (pc' := 76) rfl rfl rfl ?_
          refine x_cv (ls0 := [_, _, _, _, _, sJk]) (rest := [_]) rfl rfl rfl rfl rfl ?_
          refine x_iload_n (pc' := 1) rfl rfl rfl ?_
          refine x_cs (ls0 := [_]) (rest := []) rfl rfl rfl rfl ?_
          refine x_iload_n (pc' := 1) rfl rfl rfl ?_
          refine x_iconst (pc' := 2) rfl rfl ?_
          refine x_iconst (pc' := 3) rfl rfl ?_
          refine x_cs (ls0 := [_, _, _]) (rest := []) rfl rfl rfl rfl ?_
          refine x_iload_n (pc' := 1) rfl rfl rfl ?_
          refine x_iload_n (pc' := 2) rfl rfl rfl ?_
          refine x_icmp (a' := 14) (pc' := 5) (z := decide (m < 0)) rfl rfl rfl (ic_lt (p := m) (q := 0) (Nat.lt_trans hm (by decide)) (by decide)) (fun h => absurd (of_decide_eq_true h) (by first | decide | omega | simp)) (fun _ => ?_)
          refine x_iload_n (pc' := 6) rfl rfl rfl ?_
          refine x_iload_n (pc' := 7) rfl rfl rfl ?_
          refine x_icmp (a' := 14) (pc' := 10) (z := decide (5 < m)) rfl rfl rfl (ic_gt (p := m) (q := 5) (Nat.lt_trans hm (by decide)) (by decide)) (fun h => absurd (of_decide_eq_true h) (fun z => absurd hm (Nat.not_lt.mpr z))) (fun _ => ?_)
          refine x_iconst (pc' := 11) rfl rfl ?_
          refine x_goto (pc' := 15) rfl rfl ?_
          refine x_retz (z := true) rfl rfl ?_
          refine sK_i (pc' := 6) rfl ?_
          refine x_retz (z := true) rfl rfl ?_
          refine sK_i (pc' := 4) rfl ?_
          refine x_if (a' := 18) (pc' := 7) (z := false) rfl rfl rfl (by decide) (fun h => by cases h) (fun _ => ?_)
          refine x_iload_n (pc' := 8) rfl rfl rfl ?_
          refine x_cs (ls0 := [_]) (rest := []) rfl rfl rfl rfl ?_
          refine x_iload_n (pc' := 1) rfl rfl rfl ?_
          refine x_iconst (pc' := 2) rfl rfl ?_
          refine x_iconst (pc' := 3) rfl rfl ?_
          refine x_cs (ls0 := [_, _, _]) (rest := []) rfl rfl rfl rfl ?_
          refine x_iload_n (pc' := 1) rfl rfl rfl ?_
          refine x_iload_n (pc' := 2) rfl rfl rfl ?_
          refine x_icmp (a' := 14) (pc' := 5) (z := false) rfl rfl rfl (by decide) (fun h => by cases h) (fun _ => ?_)
          refine x_iload_n (pc' := 6) rfl rfl rfl ?_
          refine x_iload_n (pc' := 7) rfl rfl rfl ?_
          refine x_icmp (a' := 14) (pc' := 10) (z := false) rfl rfl rfl (by decide) (fun h => by cases h) (fun _ => ?_)
          refine x_iconst (pc' := 11) rfl rfl ?_
          refine x_goto (pc' := 15) rfl rfl ?_
          refine x_retz (z := true) rfl rfl ?_
          refine sK_i (pc' := 6) rfl ?_
          refine x_retz (z := true) rfl rfl ?_
          refine sK_i (pc' := 11) rfl ?_
          refine x_if (a' := 18) (pc' := 14) (z := false) rfl rfl rfl (by decide) (fun h => by cases h) (fun _ => ?_)
          refine x_iconst (pc' := 15) rfl rfl ?_
          refine x_goto (pc' := 19) rfl rfl ?_
          refine x_istore (pc' := 21) (ls' := [_, _, _, _, _, _]) rfl rfl rfl rfl ?_
          refine x_iload (pc' := 23) rfl rfl rfl ?_
          refine x_if (a' := 30) (pc' := 26) (z := true) rfl rfl rfl (by decide) (fun _ => ?_) (fun h => by cases h)
          refine x_iload_n (pc' := 31) rfl rfl rfl ?_
          refine x_if (a' := 38) (pc' := 34) (z := false) rfl rfl rfl (by decide) (fun h => by cases h) (fun _ => ?_)
          refine x_iconst (pc' := 35) rfl rfl ?_
          refine x_goto (pc' := 57) rfl rfl ?_
          refine x_reti rfl rfl ?_
          refine sK_i (pc' := 79) rfl ?_
          refine x_cv (ls0 := [_, _]) (rest := []) rfl rfl rfl rfl rfl ?_
          refine x_aload_n (pc' := 1) rfl rfl rfl rfl rfl ?_
          refine x_iload_n (pc' := 2) rfl rfl rfl ?_
          refine x_pI (pc' := 5) rfl rfl rfl ?_
          refine x_iload_n (pc' := 6) rfl rfl rfl ?_
          refine x_if (a' := 13) (pc' := 9) (z := true) rfl rfl rfl (by decide) (fun _ => ?_) (fun h => by cases h)
          refine x_iconst (pc' := 14) rfl rfl ?_
          refine x_retz (z := false) rfl rfl ?_
          refine sK_i (pc' := 82) rfl ?_
          refine x_if (a' := 102) (pc' := 85) (z := true) rfl rfl rfl (by decide) (fun _ => ?_) (fun h => by cases h)
          refine x_iconst (pc' := 103) rfl rfl ?_
          refine x_reti rfl rfl ?_
          refine sK_i (pc' := 1104) rfl ?_
          refine x_istore (pc' := 1106) (ls' := [_, _, _, _, _, _, _]) rfl rfl rfl rfl ?_
          refine x_aload_n (pc' := 1107) rfl rfl rfl rfl rfl ?_
          refine x_cv (ls0 := [_]) (rest := []) rfl rfl rfl rfl rfl ?_
          refine x_aload_n (pc' := 1) rfl rfl rfl rfl rfl ?_
          refine x_gI (pc' := 4) (x := 2) rfl rfl rfl sI_s ?_
          refine x_reti rfl rfl ?_
          refine sK_i (pc' := 1110) rfl ?_
          refine x_iload (pc' := 1112) rfl rfl rfl ?_
          refine x_icmp (a' := 1117) (pc' := 1115) (z := true) rfl rfl rfl (by decide) (fun _ => ?_) (fun h => by cases h)
          refine x_iload (pc' := 1119) rfl rfl rfl ?_
          refine x_if (a' := 1134) (pc' := 1122) (z := true) rfl rfl rfl (by decide) (fun _ => ?_) (fun h => by cases h)
          refine x_goto (pc' := 2938) rfl rfl ?_
          refine x_iinc (pc' := 2941) (y := 7) (ls' := [_, _, _, _, _, _, _]) rfl rfl rfl rfl rfl ?_
          refine x_goto (pc' := 23) rfl rfl ?_
          refine x_iload (pc' := 25) rfl rfl rfl ?_
          refine x_aload_n (pc' := 26) rfl rfl rfl rfl rfl ?_
          refine x_alen (pc' := 27) (N := 7) rfl rfl rfl (Eq.trans rdNI (Eq.trans rdNthr (z_N_29_0 e))) (?_ : X _ _ _ (.inl 7 :: _) _ _)
          refine x_bipush (pc' := 29) rfl rfl ?_
          refine x_isub (pc' := 30) (z := 0) rfl rfl (by decide) ?_
          refine x_icmp (a' := 2944) (pc' := 33) (z := true) rfl rfl rfl (by decide) (fun _ => ?_) (fun h => by cases h)
          refine x_iconst (pc' := 2945) rfl rfl ?_
          refine x_retz (z := true) rfl rfl ?_
          exact Qp_ok e (p := 1) (q := 6) rfl rfl rfl rfl
        refine x_if (a' := 1088) (pc' := 1084) (z := decide ((xs 3) = 0)) rfl rfl rfl rfl (fun q130 => ?_) (fun q130 => ?_)
        · refine x_iconst (pc' := 1089) rfl rfl ?_
          ((try rw [q130] at J130); (try rw [q130]); (try simp only [cd_t, cd_f, nt_t, nt_f, an_t, an_f, or_t, or_f] at J130); (try simp only [cd_t, cd_f, nt_t, nt_f, an_t, an_f, or_t, or_f]); exact J130)
        · refine x_iconst (pc' := 1085) rfl rfl ?_
          refine x_goto (pc' := 1089) rfl rfl ?_
          ((try rw [q130] at J130); (try rw [q130]); (try simp only [cd_t, cd_f, nt_t, nt_f, an_t, an_f, or_t, or_f] at J130); (try simp only [cd_t, cd_f, nt_t, nt_f, an_t, an_f, or_t, or_f]); exact J130)
  refine x_if (a' := 1043) (pc' := 1039) (z := decide ((xs 3) = 0)) rfl rfl rfl rfl (fun q3 => ?_) (fun q3 => ?_)
  · refine x_iconst (pc' := 1044) rfl rfl ?_
    ((try rw [q3] at J3); (try rw [q3]); (try simp only [cd_t, cd_f, nt_t, nt_f, an_t, an_f, or_t, or_f] at J3); (try simp only [cd_t, cd_f, nt_t, nt_f, an_t, an_f, or_t, or_f]); exact J3)
  · refine x_iconst (pc' := 1040) rfl rfl ?_
    refine x_goto (pc' := 1044) rfl rfl ?_
    ((try rw [q3] at J3); (try rw [q3]); (try simp only [cd_t, cd_f, nt_t, nt_f, an_t, an_f, or_t, or_f] at J3); (try simp only [cd_t, cd_f, nt_t, nt_f, an_t, an_f, or_t, or_f]); exact J3)
set_option maxHeartbeats 4000000 in
set_option maxRecDepth 10000 in
theorem v_11_v_A_i_i_i {t : sT} {xs : Nat → Int32} {m : Nat}
    (e : t = T16 7 xs)
    (hk : ((xs 0) &&& 63) = 11)
    (hm : m < 6)
    (e0 : xs 1 = io m)
    (e1 : (xs 2) < 0) :
    X 297 23 [.inr (.inr (29, (some 0))), .inr (.inr (11, (some 0))), .inr (.inr (12, (some 0))), .inr (.inr (23, (some 0))), .inl 0, sJk, sJk] [] t Qp := by
  refine x_iload (pc' := 25) rfl rfl rfl ?_
  refine x_aload_n (pc' := 26) rfl rfl rfl rfl rfl ?_
  refine x_alen (pc' := 27) (N := 7) rfl rfl rfl (z_N_29_0 e) (?_ : X _ _ _ (.inl 7 :: _) _ _)
  refine x_bipush (pc' := 29) rfl rfl ?_
  refine x_isub (pc' := 30) (z := 0) rfl rfl (by decide) ?_
  refine x_icmp (a' := 2944) (pc' := 33) (z := false) rfl rfl rfl (by decide) (fun h => by cases h) (fun _ => ?_)
  refine x_aload_n (pc' := 34) rfl rfl rfl rfl rfl ?_
  refine x_iload (pc' := 36) rfl rfl rfl ?_
  refine x_iald (pc' := 37) (N := 7) (x := (xs 0)) rfl rfl rfl (z_N_29_0 e) (io_in (p := 0) (N := 7) (by decide) (by decide)) (Eq.trans (congrArg (sA t 29 0) (nn_io (p := 0) (by decide))) (z_A_29_0_0 e)) ?_
  refine x_bipush (pc' := 39) rfl rfl ?_
  refine x_iand (pc' := 40) (z := ((xs 0) &&& 63)) rfl rfl rfl ?_
  refine x_switch (pc' := 1017) rfl (by rw [hk]; decide) ?_
  refine x_aload_n (pc' := 1018) rfl rfl rfl rfl rfl ?_
  refine x_aload_n (pc' := 1019) rfl rfl rfl rfl rfl ?_
  refine x_iload (pc' := 1021) rfl rfl rfl ?_
  refine x_iconst (pc' := 1022) rfl rfl ?_
  refine x_iadd (pc' := 1023) (z := 1) rfl rfl (by decide) ?_
  refine x_iald (pc' := 1024) (N := 7) (x := (io m)) rfl rfl rfl (z_N_29_0 e) (io_in (p := 1) (N := 7) (by decide) (by decide)) (Eq.trans (congrArg (sA t 29 0) (nn_io (p := 1) (by decide))) (Eq.trans (z_A_29_0_1 e) e0)) ?_
  refine x_aload_n (pc' := 1025) rfl rfl rfl rfl rfl ?_
  refine x_iload (pc' := 1027) rfl rfl rfl ?_
  refine x_iconst (pc' := 1028) rfl rfl ?_
  refine x_iadd (pc' := 1029) (z := 2) rfl rfl (by decide) ?_
  refine x_iald (pc' := 1030) (N := 7) (x := (xs 2)) rfl rfl rfl (z_N_29_0 e) (io_in (p := 2) (N := 7) (by decide) (by decide)) (Eq.trans (congrArg (sA t 29 0) (nn_io (p := 2) (by decide))) (z_A_29_0_2 e)) ?_
  refine x_aload_n (pc' := 1031) rfl rfl rfl rfl rfl ?_
  refine x_iload (pc' := 1033) rfl rfl rfl ?_
  refine x_iconst (pc' := 1034) rfl rfl ?_
  refine x_iadd (pc' := 1035) (z := 3) rfl rfl (by decide) ?_
  refine x_iald (pc' := 1036) (N := 7) (x := (xs 3)) rfl rfl rfl (z_N_29_0 e) (io_in (p := 3) (N := 7) (by decide) (by decide)) (Eq.trans (congrArg (sA t 29 0) (nn_io (p := 3) (by decide))) (z_A_29_0_3 e)) ?_
  have J3 : X 297 1044 [.inr (.inr (29, (some 0))), .inr (.inr (11, (some 0))), .inr (.inr (12, (some 0))), .inr (.inr (23, (some 0))), .inl 0, sJk, sJk] [.inl (bz (!(decide ((xs 3) = 0)))), .inl (xs 2), .inl (io m), .inr (.inr (11, (some 0)))] t Qp := by
    refine x_aload_n (pc' := 1045) rfl rfl rfl rfl rfl ?_
    refine x_iload (pc' := 1047) rfl rfl rfl ?_
    refine x_iconst (pc' := 1048) rfl rfl ?_
    refine x_iadd (pc' := 1049) (z := 4) rfl rfl (by decide) ?_
    refine x_iald (pc' := 1050) (N := 7) (x := (xs 4)) rfl rfl rfl (z_N_29_0 e) (io_in (p := 4) (N := 7) (by decide) (by decide)) (Eq.trans (congrArg (sA t 29 0) (nn_io (p := 4) (by decide))) (z_A_29_0_4 e)) ?_
    refine x_aload_n (pc' := 1051) rfl rfl rfl rfl rfl ?_
    refine x_iload (pc' := 1053) rfl rfl rfl ?_
    refine x_iconst (pc' := 1054) rfl rfl ?_
    refine x_iadd (pc' := 1055) (z := 5) rfl rfl (by decide) ?_
    refine x_iald (pc' := 1056) (N := 7) (x := (xs 5)) rfl rfl rfl (z_N_29_0 e) (io_in (p := 5) (N := 7) (by decide) (by decide)) (Eq.trans (congrArg (sA t 29 0) (nn_io (p := 5) (by decide))) (z_A_29_0_5 e)) ?_
    refine x_aload_n (pc' := 1057) rfl rfl rfl rfl rfl ?_
    refine x_cs (ls0 := [_, _, _, _, _, _, _, sJk]) (rest := []) rfl rfl rfl rfl ?_
    refine x_aload (pc' := 2) rfl rfl rfl rfl rfl ?_
    refine x_iconst (pc' := 3) rfl rfl ?_
    refine x_aload_n (pc' := 4) rfl rfl rfl rfl rfl ?_
    refine x_iload_n (pc' := 5) rfl rfl rfl ?_
    refine x_iload_n (pc' := 6) rfl rfl rfl ?_
    refine x_iload_n (pc' := 7) rfl rfl rfl ?_
    refine x_iload (pc' := 9) rfl rfl rfl ?_
    refine x_iload (pc' := 11) rfl rfl rfl ?_
    refine x_cv (ls0 := [_, _, _, _, _, _, sJk, sJk, sJk]) (rest := [_, _]) rfl rfl rfl rfl rfl ?_
    refine x_aload_n (pc' := 1) rfl rfl rfl rfl rfl ?_
    refine x_iload_n (pc' := 2) rfl rfl rfl ?_
    refine x_cv (ls0 := [_, _]) (rest := []) rfl rfl rfl rfl rfl ?_
    refine x_iload_n (pc' := 1) rfl rfl rfl ?_
    refine x_if (a' := 16) (pc' := 4) (z := decide (m < 0)) rfl rfl rfl (ic_lt (p := m) (q := 0) (Nat.lt_trans hm (by decide)) (by decide)) (fun h => absurd (of_decide_eq_true h) (by first | decide | omega | simp)) (fun _ => ?_)
    refine x_iload_n (pc' := 5) rfl rfl rfl ?_
    refine x_aload_n (pc' := 6) rfl rfl rfl rfl rfl ?_
    refine x_gR (pc' := 9) (r := (some 0)) rfl rfl rfl (z_R_704_0 e) ?_
    refine x_gR (pc' := 12) (r := (some 0)) rfl rfl rfl (z_R_321_0 e) ?_
    refine x_alen (pc' := 13) (N := 6) rfl rfl rfl (z_N_26_0 e) (?_ : X _ _ _ (.inl 6 :: _) _ _)
    refine x_icmp (a' := 27) (pc' := 16) (z := decide (m < 6)) rfl rfl rfl (ic_lt (p := m) (q := 6) (Nat.lt_trans hm (by decide)) (by decide)) (fun _ => ?_) (fun h => absurd (Nat.lt_of_lt_of_le hm (by decide)) (of_decide_eq_false h))
    refine x_aload_n (pc' := 28) rfl rfl rfl rfl rfl ?_
    refine x_gR (pc' := 31) (r := (some 0)) rfl rfl rfl (z_R_704_0 e) ?_
    refine x_gR (pc' := 34) (r := (some 0)) rfl rfl rfl (z_R_321_0 e) ?_
    refine x_iload_n (pc' := 35) rfl rfl rfl ?_
    refine x_aald (pc' := 36) (N := 6) (k' := 7) (r := (some m)) rfl rfl rfl (z_N_26_0 e) (io_in (p := m) (N := 6) hm (by decide)) (Eq.trans (congrArg (sE t 26 0) (nn_io (p := m) (Nat.lt_trans hm (by decide)))) (kM (Cn_e e) hm)) ?_
    refine x_reta rfl rfl ?_
    refine sK_i (pc' := 5) rfl ?_
    refine x_astore (pc' := 7) (ls' := [_, _, _, _, _, _, _, _, _]) rfl rfl rfl rfl rfl ?_
    refine x_aload_n (pc' := 8) rfl rfl rfl rfl rfl ?_
    refine x_iload_n (pc' := 9) rfl rfl rfl ?_
    refine x_cv (ls0 := [_, _]) (rest := []) rfl rfl rfl rfl rfl ?_
    refine x_iload_n (pc' := 1) rfl rfl rfl ?_
    refine x_if (a' := 16) (pc' := 4) (z := decide ((xs 2) < 0)) rfl rfl rfl rfl (fun _ => ?_) (fun h => absurd e1 (of_decide_eq_false h))
    refine x_throw rfl rfl ?_
    refine sK_n (by decide +kernel) rfl ?_
    refine sK_h (h := 19) (by decide +kernel) rfl ?_
    refine x_catch (pc' := 21) (ls' := [_, _, _, _, _, _, _, _]) rfl rfl rfl rfl ?_
    refine x_iconst (pc' := 22) rfl rfl ?_
    refine x_reti rfl rfl ?_
    refine sK_i (pc' := 1060) rfl ?_
    refine x_istore (pc' := 1062) (ls' := [_, _, _, _, _, _, _]) rfl rfl rfl rfl ?_
    refine x_aload_n (pc' := 1063) rfl rfl rfl rfl rfl ?_
    refine x_aload_n (pc' := 1064) rfl rfl rfl rfl rfl ?_
    refine x_iload (pc' := 1066) rfl rfl rfl ?_
    refine x_iconst (pc' := 1067) rfl rfl ?_
    refine x_iadd (pc' := 1068) (z := 1) rfl rfl (by decide) ?_
    refine x_iald (pc' := 1069) (N := 7) (x := (io m)) rfl rfl rfl (Eq.trans rdNthr (z_N_29_0 e)) (io_in (p := 1) (N := 7) (by decide) (by decide)) (Eq.trans (congrArg (sA (sThr t) 29 0) (nn_io (p := 1) (by decide))) (Eq.trans rdAthr (Eq.trans (z_A_29_0_1 e) e0))) ?_
    refine x_aload_n (pc' := 1070) rfl rfl rfl rfl rfl ?_
    refine x_iload (pc' := 1072) rfl rfl rfl ?_
    refine x_iconst (pc' := 1073) rfl rfl ?_
    refine x_iadd (pc' := 1074) (z := 2) rfl rfl (by decide) ?_
    refine x_iald (pc' := 1075) (N := 7) (x := (xs 2)) rfl rfl rfl (Eq.trans rdNthr (z_N_29_0 e)) (io_in (p := 2) (N := 7) (by decide) (by decide)) (Eq.trans (congrArg (sA (sThr t) 29 0) (nn_io (p := 2) (by decide))) (Eq.trans rdAthr (z_A_29_0_2 e))) ?_
    refine x_aload_n (pc' := 1076) rfl rfl rfl rfl rfl ?_
    refine x_iload (pc' := 1078) rfl rfl rfl ?_
    refine x_iconst (pc' := 1079) rfl rfl ?_
    refine x_iadd (pc' := 1080) (z := 3) rfl rfl (by decide) ?_
    refine x_iald (pc' := 1081) (N := 7) (x := (xs 3)) rfl rfl rfl (Eq.trans rdNthr (z_N_29_0 e)) (io_in (p := 3) (N := 7) (by decide) (by decide)) (Eq.trans (congrArg (sA (sThr t) 29 0) (nn_io (p := 3) (by decide))) (Eq.trans rdAthr (z_A_29_0_3 e))) ?_
    have J8 : X 297 1089 [.inr (.inr (29, (some 0))), .inr (.inr (11, (some 0))), .inr (.inr (12, (some 0))), .inr (.inr (23, (some 0))), .inl 0, .inl 1, sJk] [.inl (bz (!(decide ((xs 3) = 0)))), .inl (xs 2), .inl (io m), .inr (.inr (12, (some 0)))] (sThr t) Qp := by
      refine x_aload_n (pc' := 1090) rfl rfl rfl rfl rfl ?_
      refine x_iload (pc' := 1092) rfl rfl rfl ?_
      refine x_iconst (pc' := 1093) rfl rfl ?_
      refine x_iadd (pc' := 1094) (z := 4) rfl rfl (by decide) ?_
      refine x_iald (pc' := 1095) (N := 7) (x := (xs 4)) rfl rfl rfl (Eq.trans rdNthr (z_N_29_0 e)) (io_in (p := 4) (N := 7) (by decide) (by decide)) (Eq.trans (congrArg (sA (sThr t) 29 0) (nn_io (p := 4) (by decide))) (Eq.trans rdAthr (z_A_29_0_4 e))) ?_
      refine x_aload_n (pc' := 1096) rfl rfl rfl rfl rfl ?_
      refine x_iload (pc' := 1098) rfl rfl rfl ?_
      refine x_iconst (pc' := 1099) rfl rfl ?_
      refine x_iadd (pc' := 1100) (z := 5) rfl rfl (by decide) ?_
      refine x_iald (pc' := 1101) (N := 7) (x := (xs 5)) rfl rfl rfl (Eq.trans rdNthr (z_N_29_0 e)) (io_in (p := 5) (N := 7) (by decide) (by decide)) (Eq.trans (congrArg (sA (sThr t) 29 0) (nn_io (p := 5) (by decide))) (Eq.trans rdAthr (z_A_29_0_5 e))) ?_
      refine x_cv (ls0 := [_, _, _, _, _, _, sJk, sJk]) (rest := []) rfl rfl rfl rfl rfl ?_
      refine x_iload_n (pc' := 1) rfl rfl rfl ?_
      refine x_cs (ls0 := [_]) (rest := []) rfl rfl rfl rfl ?_
      refine x_iload_n (pc' := 1) rfl rfl rfl ?_
      refine x_iconst (pc' := 2) rfl rfl ?_
      refine x_iconst (pc' := 3) rfl rfl ?_
      refine x_cs (ls0 := [_, _, _]) (rest := []) rfl rfl rfl rfl ?_
      refine x_iload_n (pc' := 1) rfl rfl rfl ?_
      refine x_iload_n (pc' := 2) rfl rfl rfl ?_
      refine x_icmp (a' := 14) (pc' := 5) (z := decide ((xs 2) < 0)) rfl rfl rfl rfl (fun _ => ?_) (fun h => absurd e1 (of_decide_eq_false h))
      refine x_iconst (pc' := 15) rfl rfl ?_
      refine x_retz (z := false) rfl rfl ?_
      refine sK_i (pc' := 6) rfl ?_
      refine x_retz (z := false) rfl rfl ?_
      refine sK_i (pc' := 4) rfl ?_
      refine x_if (a' := 31) (pc' := 7) (z := true) rfl rfl rfl (by decide) (fun _ => ?_) (fun h => by cases h)
      refine x_iconst (pc' := 32) rfl rfl ?_
      refine x_istore (pc' := 34) (ls' := [_, _, _, _, _, _, _, _]) rfl rfl rfl rfl ?_
      refine x_iload_n (pc' := 35) rfl rfl rfl ?_
      refine x_cs (ls0 := [_]) (rest := []) rfl rfl rfl rfl ?_
      refine x_iload_n (pc' := 1) rfl rfl rfl ?_
      refine x_iconst (pc' := 2) rfl rfl ?_
      refine x_iconst (pc' := 3) rfl rfl ?_
      refine x_cs (ls0 := [_, _, _]) (rest := []) rfl rfl rfl rfl ?_
      refine x_iload_n (pc' := 1) rfl rfl rfl ?_
      refine x_iload_n (pc' := 2) rfl rfl rfl ?_
      refine x_icmp (a' := 14) (pc' := 5) (z := decide ((xs 2) < 0)) rfl rfl rfl rfl (fun _ => ?_) (fun h => absurd e1 (of_decide_eq_false h))
      refine x_iconst (pc' := 15) rfl rfl ?_
      refine x_retz (z := false) rfl rfl ?_
      refine sK_i (pc' := 6) rfl ?_
      refine x_retz (z := false) rfl rfl ?_
      refine sK_i (pc' := 38) rfl ?_
      refine x_if (a' := 65) (pc' := 41) (z := true) rfl rfl rfl (by decide) (fun _ => ?_) (fun h => by cases h)
      refine x_iconst (pc' := 66) rfl rfl ?_
      refine x_istore (pc' := 68) (ls' := [_, _, _, _, _, _, _, _]) rfl rfl rfl rfl ?_
      refine x_aload_n (pc' := 69) rfl rfl rfl rfl rfl ?_
      refine x_aload_n (pc' := 70) rfl rfl rfl rfl rfl ?_
      refine x_iload_n (pc' := 71) rfl rfl rfl ?_
      refine x_iload_n (pc' := 72) rfl rfl rfl ?_
      refine x_iload (pc' := 74) rfl rfl rfl ?_
      refine x_iload (pc' := 76) rfl rfl rfl ?_
      refine x_cv (ls0 := [_, _, _, _, _, sJk]) (rest := [_]) rfl rfl rfl rfl rfl ?_
      refine x_iload_n (pc' := 1) rfl rfl rfl ?_
      refine x_cs (ls0 := [_]) (rest := []) rfl rfl rfl rfl ?_
      refine x_iload_n (pc' := 1) rfl rfl rfl ?_
      refine x_iconst (pc' := 2) rfl rfl ?_
      refine x_iconst (pc' := 3) rfl rfl ?_
      refine x_cs (ls0 := [_, _, _]) (rest := []) rfl rfl rfl rfl ?_
      refine x_iload_n (pc' := 1) rfl rfl rfl ?_
      refine x_iload_n (pc' := 2) rfl rfl rfl ?_
      refine x_icmp (a' := 14) (pc' := 5) (z := decide (m < 0)) rfl rfl rfl (ic_lt (p := m) (q := 0) (Nat.lt_trans hm (by decide)) (by decide)) (fun h => absurd (of_decide_eq_true h) (by first | decide | omega | simp)) (fun _ => ?_)
      refine x_iload_n (pc' := 6) rfl rfl rfl ?_
      refine x_iload_n (pc' := 7) rfl rfl rfl ?_
      refine x_icmp (a' := 14) (pc' := 10) (z := decide (5 < m)) rfl rfl rfl (ic_gt (p := m) (q := 5) (Nat.lt_trans hm (by decide)) (by decide)) (fun h => absurd (of_decide_eq_true h) (fun z => absurd hm (Nat.not_lt.mpr z))) (fun _ => ?_)
      refine x_iconst (pc' := 11) rfl rfl ?_
      refine x_goto (pc' := 15) rfl rfl ?_
      refine x_retz (z := true) rfl rfl ?_
      refine sK_i (pc' := 6) rfl ?_
      refine x_retz (z := true) rfl rfl ?_
      refine sK_i (pc' := 4) rfl ?_
      refine x_if (a' := 18) (pc' := 7) (z := false) rfl rfl rfl (by decide) (fun h => by cases h) (fun _ => ?_)
      refine x_iload_n (pc' := 8) rfl rfl rfl ?_
      refine x_cs (ls0 := [_]) (rest := []) rfl rfl rfl rfl ?_
      refine x_iload_n (pc' := 1) rfl rfl rfl ?_
      refine x_iconst (pc' := 2) rfl rfl ?_
      refine x_iconst (pc' := 3) rfl rfl ?_
      refine x_cs (ls0 := [_, _, _]) (rest := []) rfl rfl rfl rfl ?_
      refine x_iload_n (pc' := 1) rfl rfl rfl ?_
      refine x_iload_n (pc' := 2) rfl rfl rfl ?_
      refine x_icmp (a' := 14) (pc' := 5) (z := decide ((xs 2) < 0)) rfl rfl rfl rfl (fun _ => ?_) (fun h => absurd e1 (of_decide_eq_false h))
      refine x_iconst (pc' := 15) rfl rfl ?_
      refine x_retz (z := false) rfl rfl ?_
      refine sK_i (pc' := 6) rfl ?_
      refine x_retz (z := false) rfl rfl ?_
      refine sK_i (pc' := 11) rfl ?_
      refine x_if (a' := 18) (pc' := 14) (z := true) rfl rfl rfl (by decide) (fun _ => ?_) (fun h => by cases h)
      refine x_iconst (pc' := 19) rfl rfl ?_
      refine x_istore (pc' := 21) (ls' := [_, _, _, _, _, _]) rfl rfl rfl rfl ?_
      refine x_iload (pc' := 23) rfl rfl rfl ?_
      refine x_if (a' := 30) (pc' := 26) (z := false) rfl rfl rfl (by decide) (fun h => by cases h) (fun _ => ?_)
      refine x_iconst (pc' := 27) rfl rfl ?_
      refine x_goto (pc' := 57) rfl rfl ?_
      refine x_reti rfl rfl ?_
      refine sK_i (pc' := 79) rfl ?_
      refine x_cv (ls0 := [_, _]) (rest := []) rfl rfl rfl rfl rfl ?_
      refine x_aload_n (pc' := 1) rfl rfl rfl rfl rfl ?_
      refine x_iload_n (pc' := 2) rfl rfl rfl ?_
      refine x_pI (pc' := 5) rfl rfl rfl ?_
      refine x_iload_n (pc' := 6) rfl rfl rfl ?_
      refine x_if (a' := 13) (pc' := 9) (z := true) rfl rfl rfl (by decide) (fun _ => ?_) (fun h => by cases h)
      refine x_iconst (pc' := 14) rfl rfl ?_
      refine x_retz (z := false) rfl rfl ?_
      refine sK_i (pc' := 82) rfl ?_
      refine x_if (a' := 102) (pc' := 85) (z := true) rfl rfl rfl (by decide) (fun _ => ?_) (fun h => by cases h)
      refine x_iconst (pc' := 103) rfl rfl ?_
      refine x_reti rfl rfl ?_
      refine sK_i (pc' := 1104) rfl ?_
      refine x_istore (pc' := 1106) (ls' := [_, _, _, _, _, _, _]) rfl rfl rfl rfl ?_
      refine x_aload_n (pc' := 1107) rfl rfl rfl rfl rfl ?_
      refine x_cv (ls0 := [_]) (rest := []) rfl rfl rfl rfl rfl ?_
      refine x_aload_n (pc' := 1) rfl rfl rfl rfl rfl ?_
      refine x_gI (pc' := 4) (x := 1) rfl rfl rfl sI_s ?_
      refine x_reti rfl rfl ?_
      refine sK_i (pc' := 1110) rfl ?_
      refine x_iload (pc' := 1112) rfl rfl rfl ?_
      refine x_icmp (a' := 1117) (pc' := 1115) (z := true) rfl rfl rfl (by decide) (fun _ => ?_) (fun h => by cases h)
      refine x_iload (pc' := 1119) rfl rfl rfl ?_
      refine x_if (a' := 1134) (pc' := 1122) (z := true) rfl rfl rfl (by decide) (fun _ => ?_) (fun h => by cases h)
      refine x_goto (pc' := 2938) rfl rfl ?_
      refine x_iinc (pc' := 2941) (y := 7) (ls' := [_, _, _, _, _, _, _]) rfl rfl rfl rfl rfl ?_
      refine x_goto (pc' := 23) rfl rfl ?_
      refine x_iload (pc' := 25) rfl rfl rfl ?_
      refine x_aload_n (pc' := 26) rfl rfl rfl rfl rfl ?_
      refine x_alen (pc' := 27) (N := 7) rfl rfl rfl (Eq.trans rdNI (Eq.trans rdNthr (z_N_29_0 e))) (?_ : X _ _ _ (.inl 7 :: _) _ _)
      refine x_bipush (pc' := 29) rfl rfl ?_
      refine x_isub (pc' := 30) (z := 0) rfl rfl (by decide) ?_
      refine x_icmp (a' := 2944) (pc' := 33) (z := true) rfl rfl rfl (by decide) (fun _ => ?_) (fun h => by cases h)
      refine x_iconst (pc' := 2945) rfl rfl ?_
      refine x_retz (z := true) rfl rfl ?_
      exact Qp_ok e (p := 1) (q := 6) rfl rfl rfl rfl
    refine x_if (a' := 1088) (pc' := 1084) (z := decide ((xs 3) = 0)) rfl rfl rfl rfl (fun q8 => ?_) (fun q8 => ?_)
    · refine x_iconst (pc' := 1089) rfl rfl ?_
      ((try rw [q8] at J8); (try rw [q8]); (try simp only [cd_t, cd_f, nt_t, nt_f, an_t, an_f, or_t, or_f] at J8); (try simp only [cd_t, cd_f, nt_t, nt_f, an_t, an_f, or_t, or_f]); exact J8)
    · refine x_iconst (pc' := 1085) rfl rfl ?_
      refine x_goto (pc' := 1089) rfl rfl ?_
      ((try rw [q8] at J8); (try rw [q8]); (try simp only [cd_t, cd_f, nt_t, nt_f, an_t, an_f, or_t, or_f] at J8); (try simp only [cd_t, cd_f, nt_t, nt_f, an_t, an_f, or_t, or_f]); exact J8)
  refine x_if (a' := 1043) (pc' := 1039) (z := decide ((xs 3) = 0)) rfl rfl rfl rfl (fun q3 => ?_) (fun q3 => ?_)
  · refine x_iconst (pc' := 1044) rfl rfl ?_
    ((try rw [q3] at J3); (try rw [q3]); (try simp only [cd_t, cd_f, nt_t, nt_f, an_t, an_f, or_t, or_f] at J3); (try simp only [cd_t, cd_f, nt_t, nt_f, an_t, an_f, or_t, or_f]); exact J3)
  · refine x_iconst (pc' := 1040) rfl rfl ?_
    refine x_goto (pc' := 1044) rfl rfl ?_
    ((try rw [q3] at J3); (try rw [q3]); (try simp only [cd_t, cd_f, nt_t, nt_f, an_t, an_f, or_t, or_f] at J3); (try simp only [cd_t, cd_f, nt_t, nt_f, an_t, an_f, or_t, or_f]); exact J3)
set_option maxHeartbeats 4000000 in
set_option maxRecDepth 10000 in
theorem v_11_v_B_i_i_i {t : sT} {xs : Nat → Int32} {m : Nat}
    (e : t = T16 7 xs)
    (hk : ((xs 0) &&& 63) = 11)
    (hm : m < 6)
    (e0 : xs 1 = io m)
    (e1 : ¬ (xs 2) < 0)
    (f1 : ¬ (xs 2) < 5) :
    X 297 23 [.inr (.inr (29, (some 0))), .inr (.inr (11, (some 0))), .inr (.inr (12, (some 0))), .inr (.inr (23, (some 0))), .inl 0, sJk, sJk] [] t Qp := by
  refine x_iload (pc' := 25) rfl rfl rfl ?_
  refine x_aload_n (pc' := 26) rfl rfl rfl rfl rfl ?_
  refine x_alen (pc' := 27) (N := 7) rfl rfl rfl (z_N_29_0 e) (?_ : X _ _ _ (.inl 7 :: _) _ _)
  refine x_bipush (pc' := 29) rfl rfl ?_
  refine x_isub (pc' := 30) (z := 0) rfl rfl (by decide) ?_
  refine x_icmp (a' := 2944) (pc' := 33) (z := false) rfl rfl rfl (by decide) (fun h => by cases h) (fun _ => ?_)
  refine x_aload_n (pc' := 34) rfl rfl rfl rfl rfl ?_
  refine x_iload (pc' := 36) rfl rfl rfl ?_
  refine x_iald (pc' := 37) (N := 7) (x := (xs 0)) rfl rfl rfl (z_N_29_0 e) (io_in (p := 0) (N := 7) (by decide) (by decide)) (Eq.trans (congrArg (sA t 29 0) (nn_io (p := 0) (by decide))) (z_A_29_0_0 e)) ?_
  refine x_bipush (pc' := 39) rfl rfl ?_
  refine x_iand (pc' := 40) (z := ((xs 0) &&& 63)) rfl rfl rfl ?_
  refine x_switch (pc' := 1017) rfl (by rw [hk]; decide) ?_
  refine x_aload_n (pc' := 1018) rfl rfl rfl rfl rfl ?_
  refine x_aload_n (pc' := 1019) rfl rfl rfl rfl rfl ?_
  refine x_iload (pc' := 1021) rfl rfl rfl ?_
  refine x_iconst (pc' := 1022) rfl rfl ?_
  refine x_iadd (pc' := 1023) (z := 1) rfl rfl (by decide) ?_
  refine x_iald (pc' := 1024) (N := 7) (x := (io m)) rfl rfl rfl (z_N_29_0 e) (io_in (p := 1) (N := 7) (by decide) (by decide)) (Eq.trans (congrArg (sA t 29 0) (nn_io (p := 1) (by decide))) (Eq.trans (z_A_29_0_1 e) e0)) ?_
  refine x_aload_n (pc' := 1025) rfl rfl rfl rfl rfl ?_
  refine x_iload (pc' := 1027) rfl rfl rfl ?_
  refine x_iconst (pc' := 1028) rfl rfl ?_
  refine x_iadd (pc' := 1029) (z := 2) rfl rfl (by decide) ?_
  refine x_iald (pc' := 1030) (N := 7) (x := (xs 2)) rfl rfl rfl (z_N_29_0 e) (io_in (p := 2) (N := 7) (by decide) (by decide)) (Eq.trans (congrArg (sA t 29 0) (nn_io (p := 2) (by decide))) (z_A_29_0_2 e)) ?_
  refine x_aload_n (pc' := 1031) rfl rfl rfl rfl rfl ?_
  refine x_iload (pc' := 1033) rfl rfl rfl ?_
  refine x_iconst (pc' := 1034) rfl rfl ?_
  refine x_iadd (pc' := 1035) (z := 3) rfl rfl (by decide) ?_
  refine x_iald (pc' := 1036) (N := 7) (x := (xs 3)) rfl rfl rfl (z_N_29_0 e) (io_in (p := 3) (N := 7) (by decide) (by decide)) (Eq.trans (congrArg (sA t 29 0) (nn_io (p := 3) (by decide))) (z_A_29_0_3 e)) ?_
  have J3 : X 297 1044 [.inr (.inr (29, (some 0))), .inr (.inr (11, (some 0))), .inr (.inr (12, (some 0))), .inr (.inr (23, (some 0))), .inl 0, sJk, sJk] [.inl (bz (!(decide ((xs 3) = 0)))), .inl (xs 2), .inl (io m), .inr (.inr (11, (some 0)))] t Qp := by
    refine x_aload_n (pc' := 1045) rfl rfl rfl rfl rfl ?_
    refine x_iload (pc' := 1047) rfl rfl rfl ?_
    refine x_iconst (pc' := 1048) rfl rfl ?_
    refine x_iadd (pc' := 1049) (z := 4) rfl rfl (by decide) ?_
    refine x_iald (pc' := 1050) (N := 7) (x := (xs 4)) rfl rfl rfl (z_N_29_0 e) (io_in (p := 4) (N := 7) (by decide) (by decide)) (Eq.trans (congrArg (sA t 29 0) (nn_io (p := 4) (by decide))) (z_A_29_0_4 e)) ?_
    refine x_aload_n (pc' := 1051) rfl rfl rfl rfl rfl ?_
    refine x_iload (pc' := 1053) rfl rfl rfl ?_
    refine x_iconst (pc' := 1054) rfl rfl ?_
    refine x_iadd (pc' := 1055) (z := 5) rfl rfl (by decide) ?_
    refine x_iald (pc' := 1056) (N := 7) (x := (xs 5)) rfl rfl rfl (z_N_29_0 e) (io_in (p := 5) (N := 7) (by decide) (by decide)) (Eq.trans (congrArg (sA t 29 0) (nn_io (p := 5) (by decide))) (z_A_29_0_5 e)) ?_
    refine x_aload_n (pc' := 1057) rfl rfl rfl rfl rfl ?_
    refine x_cs (ls0 := [_, _, _, _, _, _, _, sJk]) (rest := []) rfl rfl rfl rfl ?_
    refine x_aload (pc' := 2) rfl rfl rfl rfl rfl ?_
    refine x_iconst (pc' := 3) rfl rfl ?_
    refine x_aload_n (pc' := 4) rfl rfl rfl rfl rfl ?_
    refine x_iload_n (pc' := 5) rfl rfl rfl ?_
    refine x_iload_n (pc' := 6) rfl rfl rfl ?_
    refine x_iload_n (pc' := 7) rfl rfl rfl ?_
    refine x_iload (pc' := 9) rfl rfl rfl ?_
    refine x_iload (pc' := 11) rfl rfl rfl ?_
    refine x_cv (ls0 := [_, _, _, _, _, _, sJk, sJk, sJk]) (rest := [_, _]) rfl rfl rfl rfl rfl ?_
    refine x_aload_n (pc' := 1) rfl rfl rfl rfl rfl ?_
    refine x_iload_n (pc' := 2) rfl rfl rfl ?_
    refine x_cv (ls0 := [_, _]) (rest := []) rfl rfl rfl rfl rfl ?_
    refine x_iload_n (pc' := 1) rfl rfl rfl ?_
    refine x_if (a' := 16) (pc' := 4) (z := decide (m < 0)) rfl rfl rfl (ic_lt (p := m) (q := 0) (Nat.lt_trans hm (by decide)) (by decide)) (fun h => absurd (of_decide_eq_true h) (by first | decide | omega | simp)) (fun _ => ?_)
    refine x_iload_n (pc' := 5) rfl rfl rfl ?_
    refine x_aload_n (pc' := 6) rfl rfl rfl rfl rfl ?_
    refine x_gR (pc' := 9) (r := (some 0)) rfl rfl rfl (z_R_704_0 e) ?_
    refine x_gR (pc' := 12) (r := (some 0)) rfl rfl rfl (z_R_321_0 e) ?_
    refine x_alen (pc' := 13) (N := 6) rfl rfl rfl (z_N_26_0 e) (?_ : X _ _ _ (.inl 6 :: _) _ _)
    refine x_icmp (a' := 27) (pc' := 16) (z := decide (m < 6)) rfl rfl rfl (ic_lt (p := m) (q := 6) (Nat.lt_trans hm (by decide)) (by decide)) (fun _ => ?_) (fun h => absurd (Nat.lt_of_lt_of_le hm (by decide)) (of_decide_eq_false h))
    refine x_aload_n (pc' := 28) rfl rfl rfl rfl rfl ?_
    refine x_gR (pc' := 31) (r := (some 0)) rfl rfl rfl (z_R_704_0 e) ?_
    refine x_gR (pc' := 34) (r := (some 0)) rfl rfl rfl (z_R_321_0 e) ?_
    refine x_iload_n (pc' := 35) rfl rfl rfl ?_
    refine x_aald (pc' := 36) (N := 6) (k' := 7) (r := (some m)) rfl rfl rfl (z_N_26_0 e) (io_in (p := m) (N := 6) hm (by decide)) (Eq.trans (congrArg (sE t 26 0) (nn_io (p := m) (Nat.lt_trans hm (by decide)))) (kM (Cn_e e) hm)) ?_
    refine x_reta rfl rfl ?_
    refine sK_i (pc' := 5) rfl ?_
    refine x_astore (pc' := 7) (ls' := [_, _, _, _, _, _, _, _, _]) rfl rfl rfl rfl rfl ?_
    refine x_aload_n (pc' := 8) rfl rfl rfl rfl rfl ?_
    refine x_iload_n (pc' := 9) rfl rfl rfl ?_
    refine x_cv (ls0 := [_, _]) (rest := []) rfl rfl rfl rfl rfl ?_
    refine x_iload_n (pc' := 1) rfl rfl rfl ?_
    refine x_if (a' := 16) (pc' := 4) (z := decide ((xs 2) < 0)) rfl rfl rfl rfl (fun h => absurd (of_decide_eq_true h) e1) (fun _ => ?_)
    refine x_iload_n (pc' := 5) rfl rfl rfl ?_
    refine x_aload_n (pc' := 6) rfl rfl rfl rfl rfl ?_
    refine x_gR (pc' := 9) (r := (some 0)) rfl rfl rfl (z_R_705_0 e) ?_
    refine x_gR (pc' := 12) (r := (some 0)) rfl rfl rfl (z_R_256_0 e) ?_
    refine x_alen (pc' := 13) (N := 5) rfl rfl rfl (z_N_24_0 e) (?_ : X _ _ _ (.inl 5 :: _) _ _)
    refine x_icmp (a' := 27) (pc' := 16) (z := decide ((xs 2) < 5)) rfl rfl rfl rfl (fun h => absurd (of_decide_eq_true h) f1) (fun _ => ?_)
    refine x_throw rfl rfl ?_
    refine sK_n (by decide +kernel) rfl ?_
    refine sK_h (h := 19) (by decide +kernel) rfl ?_
    refine x_catch (pc' := 21) (ls' := [_, _, _, _, _, _, _, _]) rfl rfl rfl rfl ?_
    refine x_iconst (pc' := 22) rfl rfl ?_
    refine x_reti rfl rfl ?_
    refine sK_i (pc' := 1060) rfl ?_
    refine x_istore (pc' := 1062) (ls' := [_, _, _, _, _, _, _]) rfl rfl rfl rfl ?_
    refine x_aload_n (pc' := 1063) rfl rfl rfl rfl rfl ?_
    refine x_aload_n (pc' := 1064) rfl rfl rfl rfl rfl ?_
    refine x_iload (pc' := 1066) rfl rfl rfl ?_
    refine x_iconst (pc' := 1067) rfl rfl ?_
    refine x_iadd (pc' := 1068) (z := 1) rfl rfl (by decide) ?_
    refine x_iald (pc' := 1069) (N := 7) (x := (io m)) rfl rfl rfl (Eq.trans rdNthr (z_N_29_0 e)) (io_in (p := 1) (N := 7) (by decide) (by decide)) (Eq.trans (congrArg (sA (sThr t) 29 0) (nn_io (p := 1) (by decide))) (Eq.trans rdAthr (Eq.trans (z_A_29_0_1 e) e0))) ?_
    refine x_aload_n (pc' := 1070) rfl rfl rfl rfl rfl ?_
    refine x_iload (pc' := 1072) rfl rfl rfl ?_
    refine x_iconst (pc' := 1073) rfl rfl ?_
    refine x_iadd (pc' := 1074) (z := 2) rfl rfl (by decide) ?_
    refine x_iald (pc' := 1075) (N := 7) (x := (xs 2)) rfl rfl rfl (Eq.trans rdNthr (z_N_29_0 e)) (io_in (p := 2) (N := 7) (by decide) (by decide)) (Eq.trans (congrArg (sA (sThr t) 29 0) (nn_io (p := 2) (by decide))) (Eq.trans rdAthr (z_A_29_0_2 e))) ?_
    refine x_aload_n (pc' := 1076) rfl rfl rfl rfl rfl ?_
    refine x_iload (pc' := 1078) rfl rfl rfl ?_
    refine x_iconst (pc' := 1079) rfl rfl ?_
    refine x_iadd (pc' := 1080) (z := 3) rfl rfl (by decide) ?_
    refine x_iald (pc' := 1081) (N := 7) (x := (xs 3)) rfl rfl rfl (Eq.trans rdNthr (z_N_29_0 e)) (io_in (p := 3) (N := 7) (by decide) (by decide)) (Eq.trans (congrArg (sA (sThr t) 29 0) (nn_io (p := 3) (by decide))) (Eq.trans rdAthr (z_A_29_0_3 e))) ?_
    have J9 : X 297 1089 [.inr (.inr (29, (some 0))), .inr (.inr (11, (some 0))), .inr (.inr (12, (some 0))), .inr (.inr (23, (some 0))), .inl 0, .inl 1, sJk] [.inl (bz (!(decide ((xs 3) = 0)))), .inl (xs 2), .inl (io m), .inr (.inr (12, (some 0)))] (sThr t) Qp := by
      refine x_aload_n (pc' := 1090) rfl rfl rfl rfl rfl ?_
      refine x_iload (pc' := 1092) rfl rfl rfl ?_
      refine x_iconst (pc' := 1093) rfl rfl ?_
      refine x_iadd (pc' := 1094) (z := 4) rfl rfl (by decide) ?_
      refine x_iald (pc' := 1095) (N := 7) (x := (xs 4)) rfl rfl rfl (Eq.trans rdNthr (z_N_29_0 e)) (io_in (p := 4) (N := 7) (by decide) (by decide)) (Eq.trans (congrArg (sA (sThr t) 29 0) (nn_io (p := 4) (by decide))) (Eq.trans rdAthr (z_A_29_0_4 e))) ?_
      refine x_aload_n (pc' := 1096) rfl rfl rfl rfl rfl ?_
      refine x_iload (pc' := 1098) rfl rfl rfl ?_
      refine x_iconst (pc' := 1099) rfl rfl ?_
      refine x_iadd (pc' := 1100) (z := 5) rfl rfl (by decide) ?_
      refine x_iald (pc' := 1101) (N := 7) (x := (xs 5)) rfl rfl rfl (Eq.trans rdNthr (z_N_29_0 e)) (io_in (p := 5) (N := 7) (by decide) (by decide)) (Eq.trans (congrArg (sA (sThr t) 29 0) (nn_io (p := 5) (by decide))) (Eq.trans rdAthr (z_A_29_0_5 e))) ?_
      refine x_cv (ls0 := [_, _, _, _, _, _, sJk, sJk]) (rest := []) rfl rfl rfl rfl rfl ?_
      refine x_iload_n (pc' := 1) rfl rfl rfl ?_
      refine x_cs (ls0 := [_]) (rest := []) rfl rfl rfl rfl ?_
      refine x_iload_n (pc' := 1) rfl rfl rfl ?_
      refine x_iconst (pc' := 2) rfl rfl ?_
      refine x_iconst (pc' := 3) rfl rfl ?_
      refine x_cs (ls0 := [_, _, _]) (rest := []) rfl rfl rfl rfl ?_
      refine x_iload_n (pc' := 1) rfl rfl rfl ?_
      refine x_iload_n (pc' := 2) rfl rfl rfl ?_
      refine x_icmp (a' := 14) (pc' := 5) (z := decide ((xs 2) < 0)) rfl rfl rfl rfl (fun h => absurd (of_decide_eq_true h) e1) (fun _ => ?_)
      refine x_iload_n (pc' := 6) rfl rfl rfl ?_
      refine x_iload_n (pc' := 7) rfl rfl rfl ?_
      refine x_icmp (a' := 14) (pc' := 10) (z := decide (4 < (xs 2))) rfl rfl rfl rfl (fun _ => ?_) (fun h => absurd (lt_of5 f1) (of_decide_eq_false h))
      refine x_iconst (pc' := 15) rfl rfl ?_
      refine x_retz (z := false) rfl rfl ?_
      refine sK_i (pc' := 6) rfl ?_
      refine x_retz (z := false) rfl rfl ?_
      refine sK_i (pc' := 4) rfl ?_
      refine x_if (a' := 31) (pc' := 7) (z := true) rfl rfl rfl (by decide) (fun _ => ?_) (fun h => by cases h)
      refine x_iconst (pc' := 32) rfl rfl ?_
      refine x_istore (pc' := 34) (ls' := [_, _, _, _, _, _, _, _]) rfl rfl rfl rfl ?_
      refine x_iload_n (pc' := 35) rfl rfl rfl ?_
      refine x_cs (ls0 := [_]) (rest := []) rfl rfl rfl rfl ?_
      refine x_iload_n (pc' := 1) rfl rfl rfl ?_
      refine x_iconst (pc' := 2) rfl rfl ?_
      refine x_iconst (pc' := 3) rfl rfl ?_
      refine x_cs (ls0 := [_, _, _]) (rest := []) rfl rfl rfl rfl ?_
      refine x_iload_n (pc' := 1) rfl rfl rfl ?_
      refine x_iload_n (pc' := 2) rfl rfl rfl ?_
      refine x_icmp (a' := 14) (pc' := 5) (z := decide ((xs 2) < 0)) rfl rfl rfl rfl (fun h => absurd (of_decide_eq_true h) e1) (fun _ => ?_)
      refine x_iload_n (pc' := 6) rfl rfl rfl ?_
      refine x_iload_n (pc' := 7) rfl rfl rfl ?_
      refine x_icmp (a' := 14) (pc' := 10) (z := decide (4 < (xs 2))) rfl rfl rfl rfl (fun _ => ?_) (fun h => absurd (lt_of5 f1) (of_decide_eq_false h))
      refine x_iconst (pc' := 15) rfl rfl ?_
      refine x_retz (z := false) rfl rfl ?_
      refine sK_i (pc' := 6) rfl ?_
      refine x_retz (z := false) rfl rfl ?_
      refine sK_i (pc' := 38) rfl ?_
      refine x_if (a' := 65) (pc' := 41) (z := true) rfl rfl rfl (by decide) (fun _ => ?_) (fun h => by cases h)
      refine x_iconst (pc' := 66) rfl rfl ?_
      refine x_istore (pc' := 68) (ls' := [_, _, _, _, _, _, _, _]) rfl rfl rfl rfl ?_
      refine x_aload_n (pc' := 69) rfl rfl rfl rfl rfl ?_
      refine x_aload_n (pc' := 70) rfl rfl rfl rfl rfl ?_
      refine x_iload_n (pc' := 71) rfl rfl rfl ?_
      refine x_iload_n (pc' := 72) rfl rfl rfl ?_
      refine x_iload (pc' := 74) rfl rfl rfl ?_
      refine x_iload (pc' := 76) rfl rfl rfl ?_
      refine x_cv (ls0 := [_, _, _, _, _, sJk]) (rest := [_]) rfl rfl rfl rfl rfl ?_
      refine x_iload_n (pc' := 1) rfl rfl rfl ?_
      refine x_cs (ls0 := [_]) (rest := []) rfl rfl rfl rfl ?_
      refine x_iload_n (pc' := 1) rfl rfl rfl ?_
      refine x_iconst (pc' := 2) rfl rfl ?_
      refine x_iconst (pc' := 3) rfl rfl ?_
      refine x_cs (ls0 := [_, _, _]) (rest := []) rfl rfl rfl rfl ?_
      refine x_iload_n (pc' := 1) rfl rfl rfl ?_
      refine x_iload_n (pc' := 2) rfl rfl rfl ?_
      refine x_icmp (a' := 14) (pc' := 5) (z := decide (m < 0)) rfl rfl rfl (ic_lt (p := m) (q := 0) (Nat.lt_trans hm (by decide)) (by decide)) (fun h => absurd (of_decide_eq_true h) (by first | decide | omega | simp)) (fun _ => ?_)
      refine x_iload_n (pc' := 6) rfl rfl rfl ?_
      refine x_iload_n (pc' := 7) rfl rfl rfl ?_
      refine x_icmp (a' := 14) (pc' := 10) (z := decide (5 < m)) rfl rfl rfl (ic_gt (p := m) (q := 5) (Nat.lt_trans hm (by decide)) (by decide)) (fun h => absurd (of_decide_eq_true h) (fun z => absurd hm (Nat.not_lt.mpr z))) (fun _ => ?_)
      refine x_iconst (pc' := 11) rfl rfl ?_
      refine x_goto (pc' := 15) rfl rfl ?_
      refine x_retz (z := true) rfl rfl ?_
      refine sK_i (pc' := 6) rfl ?_
      refine x_retz (z := true) rfl rfl ?_
      refine sK_i (pc' := 4) rfl ?_
      refine x_if (a' := 18) (pc' := 7) (z := false) rfl rfl rfl (by decide) (fun h => by cases h) (fun _ => ?_)
      refine x_iload_n (pc' := 8) rfl rfl rfl ?_
      refine x_cs (ls0 := [_]) (rest := []) rfl rfl rfl rfl ?_
      refine x_iload_n (pc' := 1) rfl rfl rfl ?_
      refine x_iconst (pc' := 2) rfl rfl ?_
      refine x_iconst (pc' := 3) rfl rfl ?_
      refine x_cs (ls0 := [_, _, _]) (rest := []) rfl rfl rfl rfl ?_
      refine x_iload_n (pc' := 1) rfl rfl rfl ?_
      refine x_iload_n (pc' := 2) rfl rfl rfl ?_
      refine x_icmp (a' := 14) (pc' := 5) (z := decide ((xs 2) < 0)) rfl rfl rfl rfl (fun h => absurd (of_decide_eq_true h) e1) (fun _ => ?_)
      refine x_iload_n (pc' := 6) rfl rfl rfl ?_
      refine x_iload_n (pc' := 7) rfl rfl rfl ?_
      refine x_icmp (a' := 14) (pc' := 10) (z := decide (4 < (xs 2))) rfl rfl rfl rfl (fun _ => ?_) (fun h => absurd (lt_of5 f1) (of_decide_eq_false h))
      refine x_iconst (pc' := 15) rfl rfl ?_
      refine x_retz (z := false) rfl rfl ?_
      refine sK_i (pc' := 6) rfl ?_
      refine x_retz (z := false) rfl rfl ?_
      refine sK_i (pc' := 11) rfl ?_
      refine x_if (a' := 18) (pc' := 14) (z := true) rfl rfl rfl (by decide) (fun _ => ?_) (fun h => by cases h)
      refine x_iconst (pc' := 19) rfl rfl ?_
      refine x_istore (pc' := 21) (ls' := [_, _, _, _, _, _]) rfl rfl rfl rfl ?_
      refine x_iload (pc' := 23) rfl rfl rfl ?_
      refine x_if (a' := 30) (pc' := 26) (z := false) rfl rfl rfl (by decide) (fun h => by cases h) (fun _ => ?_)
      refine x_iconst (pc' := 27) rfl rfl ?_
      refine x_goto (pc' := 57) rfl rfl ?_
      refine x_reti rfl rfl ?_
      refine sK_i (pc' := 79) rfl ?_
      refine x_cv (ls0 := [_, _]) (rest := []) rfl rfl rfl rfl rfl ?_
      refine x_aload_n (pc' := 1) rfl rfl rfl rfl rfl ?_
      refine x_iload_n (pc' := 2) rfl rfl rfl ?_
      refine x_pI (pc' := 5) rfl rfl rfl ?_
      refine x_iload_n (pc' := 6) rfl rfl rfl ?_
      refine x_if (a' := 13) (pc' := 9) (z := true) rfl rfl rfl (by decide) (fun _ => ?_) (fun h => by cases h)
      refine x_iconst (pc' := 14) rfl rfl ?_
      refine x_retz (z := false) rfl rfl ?_
      refine sK_i (pc' := 82) rfl ?_
      refine x_if (a' := 102) (pc' := 85) (z := true) rfl rfl rfl (by decide) (fun _ => ?_) (fun h => by cases h)
      refine x_iconst (pc' := 103) rfl rfl ?_
      refine x_reti rfl rfl ?_
      refine sK_i (pc' := 1104) rfl ?_
      refine x_istore (pc' := 1106) (ls' := [_, _, _, _, _, _, _]) rfl rfl rfl rfl ?_
      refine x_aload_n (pc' := 1107) rfl rfl rfl rfl rfl ?_
      refine x_cv (ls0 := [_]) (rest := []) rfl rfl rfl rfl rfl ?_
      refine x_aload_n (pc' := 1) rfl rfl rfl rfl rfl ?_
      refine x_gI (pc' := 4) (x := 1) rfl rfl rfl sI_s ?_
      refine x_reti rfl rfl ?_
      refine sK_i (pc' := 1110) rfl ?_
      refine x_iload (pc' := 1112) rfl rfl rfl ?_
      refine x_icmp (a' := 1117) (pc' := 1115) (z := true) rfl rfl rfl (by decide) (fun _ => ?_) (fun h => by cases h)
      refine x_iload (pc' := 1119) rfl rfl rfl ?_
      refine x_if (a' := 1134) (pc' := 1122) (z := true) rfl rfl rfl (by decide) (fun _ => ?_) (fun h => by cases h)
      refine x_goto (pc' := 2938) rfl rfl ?_
      refine x_iinc (pc' := 2941) (y := 7) (ls' := [_, _, _, _, _, _, _]) rfl rfl rfl rfl rfl ?_
      refine x_goto (pc' := 23) rfl rfl ?_
      refine x_iload (pc' := 25) rfl rfl rfl ?_
      refine x_aload_n (pc' := 26) rfl rfl rfl rfl rfl ?_
      refine x_alen (pc' := 27) (N := 7) rfl rfl rfl (Eq.trans rdNI (Eq.trans rdNthr (z_N_29_0 e))) (?_ : X _ _ _ (.inl 7 :: _) _ _)
      refine x_bipush (pc' := 29) rfl rfl ?_
      refine x_isub (pc' := 30) (z := 0) rfl rfl (by decide) ?_
      refine x_icmp (a' := 2944) (pc' := 33) (z := true) rfl rfl rfl (by decide) (fun _ => ?_) (fun h => by cases h)
      refine x_iconst (pc' := 2945) rfl rfl ?_
      refine x_retz (z := true) rfl rfl ?_
      exact Qp_ok e (p := 1) (q := 6) rfl rfl rfl rfl
    refine x_if (a' := 1088) (pc' := 1084) (z := decide ((xs 3) = 0)) rfl rfl rfl rfl (fun q9 => ?_) (fun q9 => ?_)
    · refine x_iconst (pc' := 1089) rfl rfl ?_
      ((try rw [q9] at J9); (try rw [q9]); (try simp only [cd_t, cd_f, nt_t, nt_f, an_t, an_f, or_t, or_f] at J9); (try simp only [cd_t, cd_f, nt_t, nt_f, an_t, an_f, or_t, or_f]); exact J9)
    · refine x_iconst (pc' := 1085) rfl rfl ?_
      refine x_goto (pc' := 1089) rfl rfl ?_
      ((try rw [q9] at J9); (try rw [q9]); (try simp only [cd_t, cd_f, nt_t, nt_f, an_t, an_f, or_t, or_f] at J9); (try simp only [cd_t, cd_f, nt_t, nt_f, an_t, an_f, or_t, or_f]); exact J9)
  refine x_if (a' := 1043) (pc' := 1039) (z := decide ((xs 3) = 0)) rfl rfl rfl rfl (fun q3 => ?_) (fun q3 => ?_)
  · refine x_iconst (pc' := 1044) rfl rfl ?_
    ((try rw [q3] at J3); (try rw [q3]); (try simp only [cd_t, cd_f, nt_t, nt_f, an_t, an_f, or_t, or_f] at J3); (try simp only [cd_t, cd_f, nt_t, nt_f, an_t, an_f, or_t, or_f]); exact J3)
  · refine x_iconst (pc' := 1040) rfl rfl ?_
    refine x_goto (pc' := 1044) rfl rfl ?_
    ((try rw [q3] at J3); (try rw [q3]); (try simp only [cd_t, cd_f, nt_t, nt_f, an_t, an_f, or_t, or_f] at J3); (try simp only [cd_t, cd_f, nt_t, nt_f, an_t, an_f, or_t, or_f]); exact J3)
set_option maxHeartbeats 4000000 in
set_option maxRecDepth 10000 in
theorem v_11_A_0_i_i_i {t : sT} {xs : Nat → Int32}
    (e : t = T16 7 xs)
    (hk : ((xs 0) &&& 63) = 11)
    (e0 : (xs 1) < 0)
    (e1 : xs 2 = 0) :
    X 297 23 [.inr (.inr (29, (some 0))), .inr (.inr (11, (some 0))), .inr (.inr (12, (some 0))), .inr (.inr (23, (some 0))), .inl 0, sJk, sJk] [] t Qp := by
  refine x_iload (pc' := 25) rfl rfl rfl ?_
  refine x_aload_n (pc' := 26) rfl rfl rfl rfl rfl ?_
  refine x_alen (pc' := 27) (N := 7) rfl rfl rfl (z_N_29_0 e) (?_ : X _ _ _ (.inl 7 :: _) _ _)
  refine x_bipush (pc' := 29) rfl rfl ?_
  refine x_isub (pc' := 30) (z := 0) rfl rfl (by decide) ?_
  refine x_icmp (a' := 2944) (pc' := 33) (z := false) rfl rfl rfl (by decide) (fun h => by cases h) (fun _ => ?_)
  refine x_aload_n (pc' := 34) rfl rfl rfl rfl rfl ?_
  refine x_iload (pc' := 36) rfl rfl rfl ?_
  refine x_iald (pc' := 37) (N := 7) (x := (xs 0)) rfl rfl rfl (z_N_29_0 e) (io_in (p := 0) (N := 7) (by decide) (by decide)) (Eq.trans (congrArg (sA t 29 0) (nn_io (p := 0) (by decide))) (z_A_29_0_0 e)) ?_
  refine x_bipush (pc' := 39) rfl rfl ?_
  refine x_iand (pc' := 40) (z := ((xs 0) &&& 63)) rfl rfl rfl ?_
  refine x_switch (pc' := 1017) rfl (by rw [hk]; decide) ?_
  refine x_aload_n (pc' := 1018) rfl rfl rfl rfl rfl ?_
  refine x_aload_n (pc' := 1019) rfl rfl rfl rfl rfl ?_
  refine x_iload (pc' := 1021) rfl rfl rfl ?_
  refine x_iconst (pc' := 1022) rfl rfl ?_
  refine x_iadd (pc' := 1023) (z := 1) rfl rfl (by decide) ?_
  refine x_iald (pc' := 1024) (N := 7) (x := (xs 1)) rfl rfl rfl (z_N_29_0 e) (io_in (p := 1) (N := 7) (by decide) (by decide)) (Eq.trans (congrArg (sA t 29 0) (nn_io (p := 1) (by decide))) (z_A_29_0_1 e)) ?_
  refine x_aload_n (pc' := 1025) rfl rfl rfl rfl rfl ?_
  refine x_iload (pc' := 1027) rfl rfl rfl ?_
  refine x_iconst (pc' := 1028) rfl rfl ?_
  refine x_iadd (pc' := 1029) (z := 2) rfl rfl (by decide) ?_
  refine x_iald (pc' := 1030) (N := 7) (x := 0) rfl rfl rfl (z_N_29_0 e) (io_in (p := 2) (N := 7) (by decide) (by decide)) (Eq.trans (congrArg (sA t 29 0) (nn_io (p := 2) (by decide))) (Eq.trans (z_A_29_0_2 e) e1)) ?_
  refine x_aload_n (pc' := 1031) rfl rfl rfl rfl rfl ?_
  refine x_iload (pc' := 1033) rfl rfl rfl ?_
  refine x_iconst (pc' := 1034) rfl rfl ?_
  refine x_iadd (pc' := 1035) (z := 3) rfl rfl (by decide) ?_
  refine x_iald (pc' := 1036) (N := 7) (x := (xs 3)) rfl rfl rfl (z_N_29_0 e) (io_in (p := 3) (N := 7) (by decide) (by decide)) (Eq.trans (congrArg (sA t 29 0) (nn_io (p := 3) (by decide))) (z_A_29_0_3 e)) ?_
  have J3 : X 297 1044 [.inr (.inr (29, (some 0))), .inr (.inr (11, (some 0))), .inr (.inr (12, (some 0))), .inr (.inr (23, (some 0))), .inl 0, sJk, sJk] [.inl (bz (!(decide ((xs 3) = 0)))), .inl 0, .inl (xs 1), .inr (.inr (11, (some 0)))] t Qp := by
    refine x_aload_n (pc' := 1045) rfl rfl rfl rfl rfl ?_
    refine x_iload (pc' := 1047) rfl rfl rfl ?_
    refine x_iconst (pc' := 1048) rfl rfl ?_
    refine x_iadd (pc' := 1049) (z := 4) rfl rfl (by decide) ?_
    refine x_iald (pc' := 1050) (N := 7) (x := (xs 4)) rfl rfl rfl (z_N_29_0 e) (io_in (p := 4) (N := 7) (by decide) (by decide)) (Eq.trans (congrArg (sA t 29 0) (nn_io (p := 4) (by decide))) (z_A_29_0_4 e)) ?_
    refine x_aload_n (pc' := 1051) rfl rfl rfl rfl rfl ?_
    refine x_iload (pc' := 1053) rfl rfl rfl ?_
    refine x_iconst (pc' := 1054) rfl rfl ?_
    refine x_iadd (pc' := 1055) (z := 5) rfl rfl (by decide) ?_
    refine x_iald (pc' := 1056) (N := 7) (x := (xs 5)) rfl rfl rfl (z_N_29_0 e) (io_in (p := 5) (N := 7) (by decide) (by decide)) (Eq.trans (congrArg (sA t 29 0) (nn_io (p := 5) (by decide))) (z_A_29_0_5 e)) ?_
    refine x_aload_n (pc' := 1057) rfl rfl rfl rfl rfl ?_
    refine x_cs (ls0 := [_, _, _, _, _, _, _, sJk]) (rest := []) rfl rfl rfl rfl ?_
    refine x_aload (pc' := 2) rfl rfl rfl rfl rfl ?_
    refine x_iconst (pc' := 3) rfl rfl ?_
    refine x_aload_n (pc' := 4) rfl rfl rfl rfl rfl ?_
    refine x_iload_n (pc' := 5) rfl rfl rfl ?_
    refine x_iload_n (pc' := 6) rfl rfl rfl ?_
    refine x_iload_n (pc' := 7) rfl rfl rfl ?_
    refine x_iload (pc' := 9) rfl rfl rfl ?_
    refine x_iload (pc' := 11) rfl rfl rfl ?_
    refine x_cv (ls0 := [_, _, _, _, _, _, sJk, sJk, sJk]) (rest := [_, _]) rfl rfl rfl rfl rfl ?_
    refine x_aload_n (pc' := 1) rfl rfl rfl rfl rfl ?_
    refine x_iload_n (pc' := 2) rfl rfl rfl ?_
    refine x_cv (ls0 := [_, _]) (rest := []) rfl rfl rfl rfl rfl ?_
    refine x_iload_n (pc' := 1) rfl rfl rfl ?_
    refine x_if (a' := 16) (pc' := 4) (z := decide ((xs 1) < 0)) rfl rfl rfl rfl (fun _ => ?_) (fun h => absurd e0 (of_decide_eq_false h))
    refine x_throw rfl rfl ?_
    refine sK_n (by decide +kernel) rfl ?_
    refine sK_h (h := 19) (by decide +kernel) rfl ?_
    refine x_catch (pc' := 21) (ls' := [_, _, _, _, _, _, _, _]) rfl rfl rfl rfl ?_
    refine x_iconst (pc' := 22) rfl rfl ?_
    refine x_reti rfl rfl ?_
    refine sK_i (pc' := 1060) rfl ?_
    refine x_istore (pc' := 1062) (ls' := [_, _, _, _, _, _, _]) rfl rfl rfl rfl ?_
    refine x_aload_n (pc' := 1063) rfl rfl rfl rfl rfl ?_
    refine x_aload_n (pc' := 1064) rfl rfl rfl rfl rfl ?_
    refine x_iload (pc' := 1066) rfl rfl rfl ?_
    refine x_iconst (pc' := 1067) rfl rfl ?_
    refine x_iadd (pc' := 1068) (z := 1) rfl rfl (by decide) ?_
    refine x_iald (pc' := 1069) (N := 7) (x := (xs 1)) rfl rfl rfl (Eq.trans rdNthr (z_N_29_0 e)) (io_in (p := 1) (N := 7) (by decide) (by decide)) (Eq.trans (congrArg (sA (sThr t) 29 0) (nn_io (p := 1) (by decide))) (Eq.trans rdAthr (z_A_29_0_1 e))) ?_
    refine x_aload_n (pc' := 1070) rfl rfl rfl rfl rfl ?_
    refine x_iload (pc' := 1072) rfl rfl rfl ?_
    refine x_iconst (pc' := 1073) rfl rfl ?_
    refine x_iadd (pc' := 1074) (z := 2) rfl rfl (by decide) ?_
    refine x_iald (pc' := 1075) (N := 7) (x := 0) rfl rfl rfl (Eq.trans rdNthr (z_N_29_0 e)) (io_in (p := 2) (N := 7) (by decide) (by decide)) (Eq.trans (congrArg (sA (sThr t) 29 0) (nn_io (p := 2) (by decide))) (Eq.trans rdAthr (Eq.trans (z_A_29_0_2 e) e1))) ?_
    refine x_aload_n (pc' := 1076) rfl rfl rfl rfl rfl ?_
    refine x_iload (pc' := 1078) rfl rfl rfl ?_
    refine x_iconst (pc' := 1079) rfl rfl ?_
    refine x_iadd (pc' := 1080) (z := 3) rfl rfl (by decide) ?_
    refine x_iald (pc' := 1081) (N := 7) (x := (xs 3)) rfl rfl rfl (Eq.trans rdNthr (z_N_29_0 e)) (io_in (p := 3) (N := 7) (by decide) (by decide)) (Eq.trans (congrArg (sA (sThr t) 29 0) (nn_io (p := 3) (by decide))) (Eq.trans rdAthr (z_A_29_0_3 e))) ?_
    have J6 : X 297 1089 [.inr (.inr (29, (some 0))), .inr (.inr (11, (some 0))), .inr (.inr (12, (some 0))), .inr (.inr (23, (some 0))), .inl 0, .inl 1, sJk] [.inl (bz (!(decide ((xs 3) = 0)))), .inl 0, .inl (xs 1), .inr (.inr (12, (some 0)))] (sThr t) Qp := by
      refine x_aload_n (pc' := 1090) rfl rfl rfl rfl rfl ?_
      refine x_iload (pc' := 1092) rfl rfl rfl ?_
      refine x_iconst (pc' := 1093) rfl rfl ?_
      refine x_iadd (pc' := 1094) (z := 4) rfl rfl (by decide) ?_
      refine x_iald (pc' := 1095) (N := 7) (x := (xs 4)) rfl rfl rfl (Eq.trans rdNthr (z_N_29_0 e)) (io_in (p := 4) (N := 7) (by decide) (by decide)) (Eq.trans (congrArg (sA (sThr t) 29 0) (nn_io (p := 4) (by decide))) (Eq.trans rdAthr (z_A_29_0_4 e))) ?_
      refine x_aload_n (pc' := 1096) rfl rfl rfl rfl rfl ?_
      refine x_iload (pc' := 1098) rfl rfl rfl ?_
      refine x_iconst (pc' := 1099) rfl rfl ?_
      refine x_iadd (pc' := 1100) (z := 5) rfl rfl (by decide) ?_
      refine x_iald (pc' := 1101) (N := 7) (x := (xs 5)) rfl rfl rfl (Eq.trans rdNthr (z_N_29_0 e)) (io_in (p := 5) (N := 7) (by decide) (by decide)) (Eq.trans (congrArg (sA (sThr t) 29 0) (nn_io (p := 5) (by decide))) (Eq.trans rdAthr (z_A_29_0_5 e))) ?_
      refine x_cv (ls0 := [_, _, _, _, _, _, sJk, sJk]) (rest := []) rfl rfl rfl rfl rfl ?_
      refine x_iload_n (pc' := 1) rfl rfl rfl ?_
      refine x_cs (ls0 := [_]) (rest := []) rfl rfl rfl rfl ?_
      refine x_iload_n (pc' := 1) rfl rfl rfl ?_
      refine x_iconst (pc' := 2) rfl rfl ?_
      refine x_iconst (pc' := 3) rfl rfl ?_
      refine x_cs (ls0 := [_, _, _]) (rest := []) rfl rfl rfl rfl ?_
      refine x_iload_n (pc' := 1) rfl rfl rfl ?_
      refine x_iload_n (pc' := 2) rfl rfl rfl ?_
      refine x_icmp (a' := 14) (pc' := 5) (z := false) rfl rfl rfl (by decide) (fun h => by cases h) (fun _ => ?_)
      refine x_iload_n (pc' := 6) rfl rfl rfl ?_
      refine x_iload_n (pc' := 7) rfl rfl rfl ?_
      refine x_icmp (a' := 14) (pc' := 10) (z := false) rfl rfl rfl (by decide) (fun h => by cases h) (fun _ => ?_)
      refine x_iconst (pc' := 11) rfl rfl ?_
      refine x_goto (pc' := 15) rfl rfl ?_
      refine x_retz (z := true) rfl rfl ?_
      refine sK_i (pc' := 6) rfl ?_
      refine x_retz (z := true) rfl rfl ?_
      refine sK_i (pc' := 4) rfl ?_
      refine x_if (a' := 31) (pc' := 7) (z := false) rfl rfl rfl (by decide) (fun h => by cases h) (fun _ => ?_)
      refine x_iload_n (pc' := 8) rfl rfl rfl ?_
      refine x_iload (pc' := 10) rfl rfl rfl ?_
      refine x_cs (ls0 := [_, _]) (rest := []) rfl rfl rfl rfl ?_
      refine x_iload_n (pc' := 1) rfl rfl rfl ?_
      refine x_iconst (pc' := 2) rfl rfl ?_
      refine x_icmp (a' := 16) (pc' := 5) (z := false) rfl rfl rfl (by decide) (fun h => by cases h) (fun _ => ?_)
      refine x_iload_n (pc' := 6) rfl rfl rfl ?_
      refine x_iconst (pc' := 7) rfl rfl ?_
      refine x_sipush (pc' := 10) rfl rfl ?_
      refine x_cs (ls0 := [_, _, _]) (rest := []) rfl rfl rfl rfl ?_
      refine x_iload_n (pc' := 1) rfl rfl rfl ?_
      refine x_iload_n (pc' := 2) rfl rfl rfl ?_
      have J13 : X 145 15 [.inl (xs 4), .inl 1, .inl 999] [.inl (bz (!(decide ((xs 4) < 1)) && (!(decide (999 < (xs 4))))))] (sThr t) (sK 145 150 10 [.inl 0, .inl (xs 4)] [] (sK 150 205 10 [.inr (.inr (12, (some 0))), .inl (xs 1), .inl 0, .inl (bz (!(decide ((xs 3) = 0)))), .inl (xs 4), .inl (xs 5), sJk, sJk] [] (sK 205 297 1101 [.inr (.inr (29, (some 0))), .inr (.inr (11, (some 0))), .inr (.inr (12, (some 0))), .inr (.inr (23, (some 0))), .inl 0, .inl 1, sJk] [] Qp))) := by
        refine x_retz (z := (!(decide ((xs 4) < 1)) && (!(decide (999 < (xs 4)))))) rfl rfl ?_
        refine sK_i (pc' := 13) rfl ?_
        refine x_goto (pc' := 26) rfl rfl ?_
        refine x_retz (z := (!(decide ((xs 4) < 1)) && (!(decide (999 < (xs 4)))))) rfl rfl ?_
        refine sK_i (pc' := 13) rfl ?_
        have J19 : X 205 32 [.inr (.inr (12, (some 0))), .inl (xs 1), .inl 0, .inl (bz (!(decide ((xs 3) = 0)))), .inl (xs 4), .inl (xs 5), sJk, sJk] [.inl (bz ((!(decide ((xs 4) < 1)) && (!(decide (999 < (xs 4))))) && (!(decide ((xs 5) < 1)) && (!(decide (100 < (xs 5)))))))] (sThr t) (sK 205 297 1101 [.inr (.inr (29, (some 0))), .inr (.inr (11, (some 0))), .inr (.inr (12, (some 0))), .inr (.inr (23, (some 0))), .inl 0, .inl 1, sJk] [] Qp) := by
          refine x_istore (pc' := 34) (ls' := [_, _, _, _, _, _, _, _]) rfl rfl rfl rfl ?_
          refine x_iload_n (pc' := 35) rfl rfl rfl ?_
          refine x_cs (ls0 := [_]) (rest := []) rfl rfl rfl rfl ?_
          refine x_iload_n (pc' := 1) rfl rfl rfl ?_
          refine x_iconst (pc' := 2) rfl rfl ?_
          refine x_iconst (pc' := 3) rfl rfl ?_
          refine x_cs (ls0 := [_, _, _]) (rest := []) rfl rfl rfl rfl ?_
          refine x_iload_n (pc' := 1) rfl rfl rfl ?_
          refine x_iload_n (pc' := 2) rfl rfl rfl ?_
          refine x_icmp (a' := 14) (pc' := 5) (z := false) rfl rfl rfl (by decide) (fun h => by cases h) (fun _ => ?_)
          refine x_iload_n (pc' := 6) rfl rfl rfl ?_
          refine x_iload_n (pc' := 7) rfl rfl rfl ?_
          refine x_icmp (a' := 14) (pc' := 10) (z := false) rfl rfl rfl (by decide) (fun h => by cases h) (fun _ => ?_)
          refine x_iconst (pc' := 11) rfl rfl ?_
          refine x_goto (pc' := 15) rfl rfl ?_
          refine x_retz (z := true) rfl rfl ?_
          refine sK_i (pc' := 6) rfl ?_
          refine x_retz (z := true) rfl rfl ?_
          refine sK_i (pc' := 38) rfl ?_
          refine x_if (a' := 65) (pc' := 41) (z := false) rfl rfl rfl (by decide) (fun h => by cases h) (fun _ => ?_)
          refine x_aload_n (pc' := 42) rfl rfl rfl rfl rfl ?_
          refine x_gR (pc' := 45) (r := (some 0)) rfl rfl rfl (Eq.trans rdRthr (z_R_769_0 e)) ?_
          refine x_iload_n (pc' := 46) rfl rfl rfl ?_
          refine x_iald (pc' := 47) (N := 5) (x := 0) rfl rfl rfl (Eq.trans rdNthr (z_N_21_0 e)) (io_in (p := 0) (N := 5) (by decide) (by decide)) (Eq.trans (congrArg (sA (sThr t) 21 0) (nn_io (p := 0) (by decide))) (Eq.trans rdAthr (z_A_21_0_0 e))) ?_
          refine x_iconst (pc' := 48) rfl rfl ?_
          refine x_icmp (a' := 65) (pc' := 51) (z := true) rfl rfl rfl (by decide) (fun _ => ?_) (fun h => by cases h)
          refine x_iconst (pc' := 66) rfl rfl ?_
          refine x_istore (pc' := 68) (ls' := [_, _, _, _, _, _, _, _]) rfl rfl rfl rfl ?_
          refine x_aload_n (pc' := 69) rfl rfl rfl rfl rfl ?_
          refine x_aload_n (pc' := 70) rfl rfl rfl rfl rfl ?_
          refine x_iload_n (pc' := 71) rfl rfl rfl ?_
          refine x_iload_n (pc' := 72) rfl rfl rfl ?_
          refine x_iload (pc' := 74) rfl rfl rfl ?_
          refine x_iload (pc' := 76) rfl rfl rfl ?_
          refine x_cv (ls0 := [_, _, _, _, _, sJk]) (rest := [_]) rfl rfl rfl rfl rfl ?_
          refine x_iload_n (pc' := 1) rfl rfl rfl ?_
          refine x_cs (ls0 := [_]) (rest := []) rfl rfl rfl rfl ?_
          refine x_iload_n (pc' := 1) rfl rfl rfl ?_
          refine x_iconst (pc' := 2) rfl rfl ?_
          refine x_iconst (pc' := 3) rfl rfl ?_
          refine x_cs (ls0 := [_, _, _]) (rest := []) rfl rfl rfl rfl ?_
          refine x_iload_n (pc' := 1) rfl rfl rfl ?_
          refine x_iload_n (pc' := 2) rfl rfl rfl ?_
          refine x_icmp (a' := 14) (pc' := 5) (z := decide ((xs 1) < 0)) rfl rfl rfl rfl (fun _ => ?_) (fun h => absurd e0 (of_decide_eq_false h))
          refine x_iconst (pc' := 15) rfl rfl ?_
          refine x_retz (z := false) rfl rfl ?_
          refine sK_i (pc' := 6) rfl ?_
          refine x_retz (z := false) rfl rfl ?_
          refine sK_i (pc' := 4) rfl ?_
          refine x_if (a' := 18) (pc' := 7) (z := true) rfl rfl rfl (by decide) (fun _ => ?_) (fun h => by cases h)
          refine x_iconst (pc' := 19) rfl rfl ?_
          refine x_istore (pc' := 21) (ls' := [_, _, _, _, _, _]) rfl rfl rfl rfl ?_
          refine x_iload (pc' := 23) rfl rfl rfl ?_
          refine x_if (a' := 30) (pc' := 26) (z := false) rfl rfl rfl (by decide) (fun h => by cases h) (fun _ => ?_)
          refine x_iconst (pc' := 27) rfl rfl ?_
          refine x_goto (pc' := 57) rfl rfl ?_
          refine x_reti rfl rfl ?_
          refine sK_i (pc' := 79) rfl ?_
          refine x_cv (ls0 := [_, _]) (rest := []) rfl rfl rfl rfl rfl ?_
          refine x_aload_n (pc' := 1) rfl rfl rfl rfl rfl ?_
          refine x_iload_n (pc' := 2) rfl rfl rfl ?_
          refine x_pI (pc' := 5) rfl rfl rfl ?_
          refine x_iload_n (pc' := 6) rfl rfl rfl ?_
          refine x_if (a' := 13) (pc' := 9) (z := true) rfl rfl rfl (by decide) (fun _ => ?_) (fun h => by cases h)
          refine x_iconst (pc' := 14) rfl rfl ?_
          refine x_retz (z := false) rfl rfl ?_
          refine sK_i (pc' := 82) rfl ?_
          refine x_if (a' := 102) (pc' := 85) (z := true) rfl rfl rfl (by decide) (fun _ => ?_) (fun h => by cases h)
          refine x_iconst (pc' := 103) rfl rfl ?_
          refine x_reti rfl rfl ?_
          refine sK_i (pc' := 1104) rfl ?_
          refine x_istore (pc' := 1106) (ls' := [_, _, _, _, _, _, _]) rfl rfl rfl rfl ?_
          refine x_aload_n (pc' := 1107) rfl rfl rfl rfl rfl ?_
          refine x_cv (ls0 := [_]) (rest := []) rfl rfl rfl rfl rfl ?_
          refine x_aload_n (pc' := 1) rfl rfl rfl rfl rfl ?_
          refine x_gI (pc' := 4) (x := 1) rfl rfl rfl sI_s ?_
          refine x_reti rfl rfl ?_
          refine sK_i (pc' := 1110) rfl ?_
          refine x_iload (pc' := 1112) rfl rfl rfl ?_
          refine x_icmp (a' := 1117) (pc' := 1115) (z := true) rfl rfl rfl (by decide) (fun _ => ?_) (fun h => by cases h)
          refine x_iload (pc' := 1119) rfl rfl rfl ?_
          refine x_if (a' := 1134) (pc' := 1122) (z := true) rfl rfl rfl (by decide) (fun _ => ?_) (fun h => by cases h)
          refine x_goto (pc' := 2938) rfl rfl ?_
          refine x_iinc (pc' := 2941) (y := 7) (ls' := [_, _, _, _, _, _, _]) rfl rfl rfl rfl rfl ?_
          refine x_goto (pc' := 23) rfl rfl ?_
          refine x_iload (pc' := 25) rfl rfl rfl ?_
          refine x_aload_n (pc' := 26) rfl rfl rfl rfl rfl ?_
          refine x_alen (pc' := 27) (N := 7) rfl rfl rfl (Eq.trans rdNI (Eq.trans rdNthr (z_N_29_0 e))) (?_ : X _ _ _ (.inl 7 :: _) _ _)
          refine x_bipush (pc' := 29) rfl rfl ?_
          refine x_isub (pc' := 30) (z := 0) rfl rfl (by decide) ?_
          refine x_icmp (a' := 2944) (pc' := 33) (z := true) rfl rfl rfl (by decide) (fun _ => ?_) (fun h => by cases h)
          refine x_iconst (pc' := 2945) rfl rfl ?_
          refine x_retz (z := true) rfl rfl ?_
          exact Qp_ok e (p := 1) (q := 6) rfl rfl rfl rfl
        refine x_ifeq_z (a' := 31) (pc' := 16) (z := (!(decide ((xs 4) < 1)) && (!(decide (999 < (xs 4)))))) rfl rfl rfl (fun q15 => ?_) (fun q15 => ?_)
        · refine x_iconst (pc' := 32) rfl rfl ?_
          ((try rw [q15] at J19); (try rw [q15]); (try simp only [cd_t, cd_f, nt_t, nt_f, an_t, an_f, or_t, or_f] at J19); (try simp only [cd_t, cd_f, nt_t, nt_f, an_t, an_f, or_t, or_f]); exact J19)
        · refine x_iload (pc' := 18) rfl rfl rfl ?_
          refine x_iconst (pc' := 19) rfl rfl ?_
          refine x_bipush (pc' := 21) rfl rfl ?_
          refine x_cs (ls0 := [_, _, _]) (rest := []) rfl rfl rfl rfl ?_
          refine x_iload_n (pc' := 1) rfl rfl rfl ?_
          refine x_iload_n (pc' := 2) rfl rfl rfl ?_
          have J17 : X 145 15 [.inl (xs 5), .inl 1, .inl 100] [.inl (bz (!(decide ((xs 5) < 1)) && (!(decide (100 < (xs 5))))))] (sThr t) (sK 145 205 21 [.inr (.inr (12, (some 0))), .inl (xs 1), .inl 0, .inl (bz (!(decide ((xs 3) = 0)))), .inl (xs 4), .inl (xs 5), sJk, sJk] [] (sK 205 297 1101 [.inr (.inr (29, (some 0))), .inr (.inr (11, (some 0))), .inr (.inr (12, (some 0))), .inr (.inr (23, (some 0))), .inl 0, .inl 1, sJk] [] Qp)) := by
            refine x_retz (z := (!(decide ((xs 5) < 1)) && (!(decide (100 < (xs 5)))))) rfl rfl ?_
            refine sK_i (pc' := 24) rfl ?_
            refine x_ifeq_z (a' := 31) (pc' := 27) (z := (!(decide ((xs 5) < 1)) && (!(decide (100 < (xs 5)))))) rfl rfl rfl (fun q19 => ?_) (fun q19 => ?_)
            · refine x_iconst (pc' := 32) rfl rfl ?_
              ((try rw [q15] at J19); (try rw [q15]); (try rw [q19] at J19); (try rw [q19]); (try simp only [cd_t, cd_f, nt_t, nt_f, an_t, an_f, or_t, or_f] at J19); (try simp only [cd_t, cd_f, nt_t, nt_f, an_t, an_f, or_t, or_f]); exact J19)
            · refine x_iconst (pc' := 28) rfl rfl ?_
              refine x_goto (pc' := 32) rfl rfl ?_
              ((try rw [q15] at J19); (try rw [q15]); (try rw [q19] at J19); (try rw [q19]); (try simp only [cd_t, cd_f, nt_t, nt_f, an_t, an_f, or_t, or_f] at J19); (try simp only [cd_t, cd_f, nt_t, nt_f, an_t, an_f, or_t, or_f]); exact J19)
          refine x_icmp (a' := 14) (pc' := 5) (z := decide ((xs 5) < 1)) rfl rfl rfl rfl (fun q16 => ?_) (fun q16 => ?_)
          · refine x_iconst (pc' := 15) rfl rfl ?_
            ((try rw [q16] at J17); (try rw [q16]); (try simp only [cd_t, cd_f, nt_t, nt_f, an_t, an_f, or_t, or_f] at J17); (try simp only [cd_t, cd_f, nt_t, nt_f, an_t, an_f, or_t, or_f]); exact J17)
          · refine x_iload_n (pc' := 6) rfl rfl rfl ?_
            refine x_iload_n (pc' := 7) rfl rfl rfl ?_
            refine x_icmp (a' := 14) (pc' := 10) (z := decide (100 < (xs 5))) rfl rfl rfl rfl (fun q17 => ?_) (fun q17 => ?_)
            · refine x_iconst (pc' := 15) rfl rfl ?_
              ((try rw [q16] at J17); (try rw [q16]); (try rw [q17] at J17); (try rw [q17]); (try simp only [cd_t, cd_f, nt_t, nt_f, an_t, an_f, or_t, or_f] at J17); (try simp only [cd_t, cd_f, nt_t, nt_f, an_t, an_f, or_t, or_f]); exact J17)
            · refine x_iconst (pc' := 11) rfl rfl ?_
              refine x_goto (pc' := 15) rfl rfl ?_
              ((try rw [q16] at J17); (try rw [q16]); (try rw [q17] at J17); (try rw [q17]); (try simp only [cd_t, cd_f, nt_t, nt_f, an_t, an_f, or_t, or_f] at J17); (try simp only [cd_t, cd_f, nt_t, nt_f, an_t, an_f, or_t, or_f]); exact J17)
      refine x_icmp (a' := 14) (pc' := 5) (z := decide ((xs 4) < 1)) rfl rfl rfl rfl (fun q12 => ?_) (fun q12 => ?_)
      · refine x_iconst (pc' := 15) rfl rfl ?_
        ((try rw [q12] at J13); (try rw [q12]); (try simp only [cd_t, cd_f, nt_t, nt_f, an_t, an_f, or_t, or_f] at J13); (try simp only [cd_t, cd_f, nt_t, nt_f, an_t, an_f, or_t, or_f]); exact J13)
      · refine x_iload_n (pc' := 6) rfl rfl rfl ?_
        refine x_iload_n (pc' := 7) rfl rfl rfl ?_
        refine x_icmp (a' := 14) (pc' := 10) (z := decide (999 < (xs 4))) rfl rfl rfl rfl (fun q13 => ?_) (fun q13 => ?_)
        · refine x_iconst (pc' := 15) rfl rfl ?_
          ((try rw [q12] at J13); (try rw [q12]); (try rw [q13] at J13); (try rw [q13]); (try simp only [cd_t, cd_f, nt_t, nt_f, an_t, an_f, or_t, or_f] at J13); (try simp only [cd_t, cd_f, nt_t, nt_f, an_t, an_f, or_t, or_f]); exact J13)
        · refine x_iconst (pc' := 11) rfl rfl ?_
          refine x_goto (pc' := 15) rfl rfl ?_
          ((try rw [q12] at J13); (try rw [q12]); (try rw [q13] at J13); (try rw [q13]); (try simp only [cd_t, cd_f, nt_t, nt_f, an_t, an_f, or_t, or_f] at J13); (try simp only [cd_t, cd_f, nt_t, nt_f, an_t, an_f, or_t, or_f]); exact J13)
    refine x_if (a' := 1088) (pc' := 1084) (z := decide ((xs 3) = 0)) rfl rfl rfl rfl (fun q6 => ?_) (fun q6 => ?_)
    · refine x_iconst (pc' := 1089) rfl rfl ?_
      ((try rw [q6] at J6); (try rw [q6]); (try simp only [cd_t, cd_f, nt_t, nt_f, an_t, an_f, or_t, or_f] at J6); (try simp only [cd_t, cd_f, nt_t, nt_f, an_t, an_f, or_t, or_f]); exact J6)
    · refine x_iconst (pc' := 1085) rfl rfl ?_
      refine x_goto (pc' := 1089) rfl rfl ?_
      ((try rw [q6] at J6); (try rw [q6]); (try simp only [cd_t, cd_f, nt_t, nt_f, an_t, an_f, or_t, or_f] at J6); (try simp only [cd_t, cd_f, nt_t, nt_f, an_t, an_f, or_t, or_f]); exact J6)
  refine x_if (a' := 1043) (pc' := 1039) (z := decide ((xs 3) = 0)) rfl rfl rfl rfl (fun q3 => ?_) (fun q3 => ?_)
  · refine x_iconst (pc' := 1044) rfl rfl ?_
    ((try rw [q3] at J3); (try rw [q3]); (try simp only [cd_t, cd_f, nt_t, nt_f, an_t, an_f, or_t, or_f] at J3); (try simp only [cd_t, cd_f, nt_t, nt_f, an_t, an_f, or_t, or_f]); exact J3)
  · refine x_iconst (pc' := 1040) rfl rfl ?_
    refine x_goto (pc' := 1044) rfl rfl ?_
    ((try rw [q3] at J3); (try rw [q3]); (try simp only [cd_t, cd_f, nt_t, nt_f, an_t, an_f, or_t, or_f] at J3); (try simp only [cd_t, cd_f, nt_t, nt_f, an_t, an_f, or_t, or_f]); exact J3)
set_option maxHeartbeats 4000000 in
set_option maxRecDepth 10000 in
theorem v_11_A_1_i_i_i {t : sT} {xs : Nat → Int32}
    (e : t = T16 7 xs)
    (hk : ((xs 0) &&& 63) = 11)
    (e0 : (xs 1) < 0)
    (e1 : xs 2 = 1) :
    X 297 23 [.inr (.inr (29, (some 0))), .inr (.inr (11, (some 0))), .inr (.inr (12, (some 0))), .inr (.inr (23, (some 0))), .inl 0, sJk, sJk] [] t Qp := by
  refine x_iload (pc' := 25) rfl rfl rfl ?_
  refine x_aload_n (pc' := 26) rfl rfl rfl rfl rfl ?_
  refine x_alen (pc' := 27) (N := 7) rfl rfl rfl (z_N_29_0 e) (?_ : X _ _ _ (.inl 7 :: _) _ _)
  refine x_bipush (pc' := 29) rfl rfl ?_
  refine x_isub (pc' := 30) (z := 0) rfl rfl (by decide) ?_
  refine x_icmp (a' := 2944) (pc' := 33) (z := false) rfl rfl rfl (by decide) (fun h => by cases h) (fun _ => ?_)
  refine x_aload_n (pc' := 34) rfl rfl rfl rfl rfl ?_
  refine x_iload (pc' := 36) rfl rfl rfl ?_
  refine x_iald (pc' := 37) (N := 7) (x := (xs 0)) rfl rfl rfl (z_N_29_0 e) (io_in (p := 0) (N := 7) (by decide) (by decide)) (Eq.trans (congrArg (sA t 29 0) (nn_io (p := 0) (by decide))) (z_A_29_0_0 e)) ?_
  refine x_bipush (pc' := 39) rfl rfl ?_
  refine x_iand (pc' := 40) (z := ((xs 0) &&& 63)) rfl rfl rfl ?_
  refine x_switch (pc' := 1017) rfl (by rw [hk]; decide) ?_
  refine x_aload_n (pc' := 1018) rfl rfl rfl rfl rfl ?_
  refine x_aload_n (pc' := 1019) rfl rfl rfl rfl rfl ?_
  refine x_iload (pc' := 1021) rfl rfl rfl ?_
  refine x_iconst (pc' := 1022) rfl rfl ?_
  refine x_iadd (pc' := 1023) (z := 1) rfl rfl (by decide) ?_
  refine x_iald (pc' := 1024) (N := 7) (x := (xs 1)) rfl rfl rfl (z_N_29_0 e) (io_in (p := 1) (N := 7) (by decide) (by decide)) (Eq.trans (congrArg (sA t 29 0) (nn_io (p := 1) (by decide))) (z_A_29_0_1 e)) ?_
  refine x_aload_n (pc' := 1025) rfl rfl rfl rfl rfl ?_
  refine x_iload (pc' := 1027) rfl rfl rfl ?_
  refine x_iconst (pc' := 1028) rfl rfl ?_
  refine x_iadd (pc' := 1029) (z := 2) rfl rfl (by decide) ?_
  refine x_iald (pc' := 1030) (N := 7) (x := 1) rfl rfl rfl (z_N_29_0 e) (io_in (p := 2) (N := 7) (by decide) (by decide)) (Eq.trans (congrArg (sA t 29 0) (nn_io (p := 2) (by decide))) (Eq.trans (z_A_29_0_2 e) e1)) ?_
  refine x_aload_n (pc' := 1031) rfl rfl rfl rfl rfl ?_
  refine x_iload (pc' := 1033) rfl rfl rfl ?_
  refine x_iconst (pc' := 1034) rfl rfl ?_
  refine x_iadd (pc' := 1035) (z := 3) rfl rfl (by decide) ?_
  refine x_iald (pc' := 1036) (N := 7) (x := (xs 3)) rfl rfl rfl (z_N_29_0 e) (io_in (p := 3) (N := 7) (by decide) (by decide)) (Eq.trans (congrArg (sA t 29 0) (nn_io (p := 3) (by decide))) (z_A_29_0_3 e)) ?_
  have J3 : X 297 1044 [.inr (.inr (29, (some 0))), .inr (.inr (11, (some 0))), .inr (.inr (12, (some 0))), .inr (.inr (23, (some 0))), .inl 0, sJk, sJk] [.inl (bz (!(decide ((xs 3) = 0)))), .inl 1, .inl (xs 1), .inr (.inr (11, (some 0)))] t Qp := by
    refine x_aload_n (pc' := 1045) rfl rfl rfl rfl rfl ?_
    refine x_iload (pc' := 1047) rfl rfl rfl ?_
    refine x_iconst (pc' := 1048) rfl rfl ?_
    refine x_iadd (pc' := 1049) (z := 4) rfl rfl (by decide) ?_
    refine x_iald (pc' := 1050) (N := 7) (x := (xs 4)) rfl rfl rfl (z_N_29_0 e) (io_in (p := 4) (N := 7) (by decide) (by decide)) (Eq.trans (congrArg (sA t 29 0) (nn_io (p := 4) (by decide))) (z_A_29_0_4 e)) ?_
    refine x_aload_n (pc' := 1051) rfl rfl rfl rfl rfl ?_
    refine x_iload (pc' := 1053) rfl rfl rfl ?_
    refine x_iconst (pc' := 1054) rfl rfl ?_
    refine x_iadd (pc' := 1055) (z := 5) rfl rfl (by decide) ?_
    refine x_iald (pc' := 1056) (N := 7) (x := (xs 5)) rfl rfl rfl (z_N_29_0 e) (io_in (p := 5) (N := 7) (by decide) (by decide)) (Eq.trans (congrArg (sA t 29 0) (nn_io (p := 5) (by decide))) (z_A_29_0_5 e)) ?_
    refine x_aload_n (pc' := 1057) rfl rfl rfl rfl rfl ?_
    refine x_cs (ls0 := [_, _, _, _, _, _, _, sJk]) (rest := []) rfl rfl rfl rfl ?_
    refine x_aload (pc' := 2) rfl rfl rfl rfl rfl ?_
    refine x_iconst (pc' := 3) rfl rfl ?_
    refine x_aload_n (pc' := 4) rfl rfl rfl rfl rfl ?_
    refine x_iload_n (pc' := 5) rfl rfl rfl ?_
    refine x_iload_n (pc' := 6) rfl rfl rfl ?_
    refine x_iload_n (pc' := 7) rfl rfl rfl ?_
    refine x_iload (pc' := 9) rfl rfl rfl ?_
    refine x_iload (pc' := 11) rfl rfl rfl ?_
    refine x_cv (ls0 := [_, _, _, _, _, _, sJk, sJk, sJk]) (rest := [_, _]) rfl rfl rfl rfl rfl ?_
    refine x_aload_n (pc' := 1) rfl rfl rfl rfl rfl ?_
    refine x_iload_n (pc' := 2) rfl rfl rfl ?_
    refine x_cv (ls0 := [_, _]) (rest := []) rfl rfl rfl rfl rfl ?_
    refine x_iload_n (pc' := 1) rfl rfl rfl ?_
    refine x_if (a' := 16) (pc' := 4) (z := decide ((xs 1) < 0)) rfl rfl rfl rfl (fun _ => ?_) (fun h => absurd e0 (of_decide_eq_false h))
    refine x_throw rfl rfl ?_
    refine sK_n (by decide +kernel) rfl ?_
    refine sK_h (h := 19) (by decide +kernel) rfl ?_
    refine x_catch (pc' := 21) (ls' := [_, _, _, _, _, _, _, _]) rfl rfl rfl rfl ?_
    refine x_iconst (pc' := 22) rfl rfl ?_
    refine x_reti rfl rfl ?_
    refine sK_i (pc' := 1060) rfl ?_
    refine x_istore (pc' := 1062) (ls' := [_, _, _, _, _, _, _]) rfl rfl rfl rfl ?_
    refine x_aload_n (pc' := 1063) rfl rfl rfl rfl rfl ?_
    refine x_aload_n (pc' := 1064) rfl rfl rfl rfl rfl ?_
    refine x_iload (pc' := 1066) rfl rfl rfl ?_
    refine x_iconst (pc' := 1067) rfl rfl ?_
    refine x_iadd (pc' := 1068) (z := 1) rfl rfl (by decide) ?_
    refine x_iald (pc' := 1069) (N := 7) (x := (xs 1)) rfl rfl rfl (Eq.trans rdNthr (z_N_29_0 e)) (io_in (p := 1) (N := 7) (by decide) (by decide)) (Eq.trans (congrArg (sA (sThr t) 29 0) (nn_io (p := 1) (by decide))) (Eq.trans rdAthr (z_A_29_0_1 e))) ?_
    refine x_aload_n (pc' := 1070) rfl rfl rfl rfl rfl ?_
    refine x_iload (pc' := 1072) rfl rfl rfl ?_
    refine x_iconst (pc' := 1073) rfl rfl ?_
    refine x_iadd (pc' := 1074) (z := 2) rfl rfl (by decide) ?_
    refine x_iald (pc' := 1075) (N := 7) (x := 1) rfl rfl rfl (Eq.trans rdNthr (z_N_29_0 e)) (io_in (p := 2) (N := 7) (by decide) (by decide)) (Eq.trans (congrArg (sA (sThr t) 29 0) (nn_io (p := 2) (by decide))) (Eq.trans rdAthr (Eq.trans (z_A_29_0_2 e) e1))) ?_
    refine x_aload_n (pc' := 1076) rfl rfl rfl rfl rfl ?_
    refine x_iload (pc' := 1078) rfl rfl rfl ?_
    refine x_iconst (pc' := 1079) rfl rfl ?_
    refine x_iadd (pc' := 1080) (z := 3) rfl rfl (by decide) ?_
    refine x_iald (pc' := 1081) (N := 7) (x := (xs 3)) rfl rfl rfl (Eq.trans rdNthr (z_N_29_0 e)) (io_in (p := 3) (N := 7) (by decide) (by decide)) (Eq.trans (congrArg (sA (sThr t) 29 0) (nn_io (p := 3) (by decide))) (Eq.trans rdAthr (z_A_29_0_3 e))) ?_
    have J6 : X 297 1089 [.inr (.inr (29, (some 0))), .inr (.inr (11, (some 0))), .inr (.inr (12, (some 0))), .inr (.inr (23, (some 0))), .inl 0, .inl 1, sJk] [.inl (bz (!(decide ((xs 3) = 0)))), .inl 1, .inl (xs 1), .inr (.inr (12, (some 0)))] (sThr t) Qp := by
      refine x_aload_n (pc' := 1090) rfl rfl rfl rfl rfl ?_
      refine x_iload (pc' := 1092) rfl rfl rfl ?_
      refine x_iconst (pc' := 1093) rfl rfl ?_
      refine x_iadd (pc' := 1094) (z := 4) rfl rfl (by decide) ?_
      refine x_iald (pc' := 1095) (N := 7) (x := (xs 4)) rfl rfl rfl (Eq.trans rdNthr (z_N_29_0 e)) (io_in (p := 4) (N := 7) (by decide) (by decide)) (Eq.trans (congrArg (sA (sThr t) 29 0) (nn_io (p := 4) (by decide))) (Eq.trans rdAthr (z_A_29_0_4 e))) ?_
      refine x_aload_n (pc' := 1096) rfl rfl rfl rfl rfl ?_
      refine x_iload (pc' := 1098) rfl rfl rfl ?_
      refine x_iconst (pc' := 1099) rfl rfl ?_
      refine x_iadd (pc' := 1100) (z := 5) rfl rfl (by decide) ?_
      refine x_iald (pc' := 1101) (N := 7) (x := (xs 5)) rfl rfl rfl (Eq.trans rdNthr (z_N_29_0 e)) (io_in (p := 5) (N := 7) (by decide) (by decide)) (Eq.trans (congrArg (sA (sThr t) 29 0) (nn_io (p := 5) (by decide))) (Eq.trans rdAthr (z_A_29_0_5 e))) ?_
      refine x_cv (ls0 := [_, _, _, _, _, _, sJk, sJk]) (rest := []) rfl rfl rfl rfl rfl ?_
      refine x_iload_n (pc' := 1) rfl rfl rfl ?_
      refine x_cs (ls0 := [_]) (rest := []) rfl rfl rfl rfl ?_
      refine x_iload_n (pc' := 1) rfl rfl rfl ?_
      refine x_iconst (pc' := 2) rfl rfl ?_
      refine x_iconst (pc' := 3) rfl rfl ?_
      refine x_cs (ls0 := [_, _, _]) (rest := []) rfl rfl rfl rfl ?_
      refine x_iload_n (pc' := 1) rfl rfl rfl ?_
      refine x_iload_n (pc' := 2) rfl rfl rfl ?_
      refine x_icmp (a' := 14) (pc' := 5) (z := false) rfl rfl rfl (by decide) (fun h => by cases h) (fun _ => ?_)
      refine x_iload_n (pc' := 6) rfl rfl rfl ?_
      refine x_iload_n (pc' := 7) rfl rfl rfl ?_
      refine x_icmp (a' := 14) (pc' := 10) (z := false) rfl rfl rfl (by decide) (fun h => by cases h) (fun _ => ?_)
      refine x_iconst (pc' := 11) rfl rfl ?_
      refine x_goto (pc' := 15) rfl rfl ?_
      refine x_retz (z := true) rfl rfl ?_
      refine sK_i (pc' := 6) rfl ?_
      refine x_retz (z := true) rfl rfl ?_
      refine sK_i (pc' := 4) rfl ?_
      refine x_if (a' := 31) (pc' := 7) (z := false) rfl rfl rfl (by decide) (fun h => by cases h) (fun _ => ?_)
      refine x_iload_n (pc' := 8) rfl rfl rfl ?_
      refine x_iload (pc' := 10) rfl rfl rfl ?_
      refine x_cs (ls0 := [_, _]) (rest := []) rfl rfl rfl rfl ?_
      refine x_iload_n (pc' := 1) rfl rfl rfl ?_
      refine x_iconst (pc' := 2) rfl rfl ?_
      refine x_icmp (a' := 16) (pc' := 5) (z := false) rfl rfl rfl (by decide) (fun h => by cases h) (fun _ => ?_)
      refine x_iload_n (pc' := 6) rfl rfl rfl ?_
      refine x_iconst (pc' := 7) rfl rfl ?_
      refine x_sipush (pc' := 10) rfl rfl ?_
      refine x_cs (ls0 := [_, _, _]) (rest := []) rfl rfl rfl rfl ?_
      refine x_iload_n (pc' := 1) rfl rfl rfl ?_
      refine x_iload_n (pc' := 2) rfl rfl rfl ?_
      have J13 : X 145 15 [.inl (xs 4), .inl 1, .inl 999] [.inl (bz (!(decide ((xs 4) < 1)) && (!(decide (999 < (xs 4))))))] (sThr t) (sK 145 150 10 [.inl 1, .inl (xs 4)] [] (sK 150 205 10 [.inr (.inr (12, (some 0))), .inl (xs 1), .inl 1, .inl (bz (!(decide ((xs 3) = 0)))), .inl (xs 4), .inl (xs 5), sJk, sJk] [] (sK 205 297 1101 [.inr (.inr (29, (some 0))), .inr (.inr (11, (some 0))), .inr (.inr (12, (some 0))), .inr (.inr (23, (some 0))), .inl 0, .inl 1, sJk] [] Qp))) := by
        refine x_retz (z := (!(decide ((xs 4) < 1)) && (!(decide (999 < (xs 4)))))) rfl rfl ?_
        refine sK_i (pc' := 13) rfl ?_
        refine x_goto (pc' := 26) rfl rfl ?_
        refine x_retz (z := (!(decide ((xs 4) < 1)) && (!(decide (999 < (xs 4)))))) rfl rfl ?_
        refine sK_i (pc' := 13) rfl ?_
        have J19 : X 205 32 [.inr (.inr (12, (some 0))), .inl (xs 1), .inl 1, .inl (bz (!(decide ((xs 3) = 0)))), .inl (xs 4), .inl (xs 5), sJk, sJk] [.inl (bz ((!(decide ((xs 4) < 1)) && (!(decide (999 < (xs 4))))) && (!(decide ((xs 5) < 1)) && (!(decide (100 < (xs 5)))))))] (sThr t) (sK 205 297 1101 [.inr (.inr (29, (some 0))), .inr (.inr (11, (some 0))), .inr (.inr (12, (some 0))), .inr (.inr (23, (some 0))), .inl 0, .inl 1, sJk] [] Qp) := by
          refine x_istore (pc' := 34) (ls' := [_, _, _, _, _, _, _, _]) rfl rfl rfl rfl ?_
          refine x_iload_n (pc' := 35) rfl rfl rfl ?_
          refine x_cs (ls0 := [_]) (rest := []) rfl rfl rfl rfl ?_
          refine x_iload_n (pc' := 1) rfl rfl rfl ?_
          refine x_iconst (pc' := 2) rfl rfl ?_
          refine x_iconst (pc' := 3) rfl rfl ?_
          refine x_cs (ls0 := [_, _, _]) (rest := []) rfl rfl rfl rfl ?_
          refine x_iload_n (pc' := 1) rfl rfl rfl ?_
          refine x_iload_n (pc' := 2) rfl rfl rfl ?_
          refine x_icmp (a' := 14) (pc' := 5) (z := false) rfl rfl rfl (by decide) (fun h => by cases h) (fun _ => ?_)
          refine x_iload_n (pc' := 6) rfl rfl rfl ?_
          refine x_iload_n (pc' := 7) rfl rfl rfl ?_
          refine x_icmp (a' := 14) (pc' := 10) (z := false) rfl rfl rfl (by decide) (fun h => by cases h) (fun _ => ?_)
          refine x_iconst (pc' := 11) rfl rfl ?_
          refine x_goto (pc' := 15) rfl rfl ?_
          refine x_retz (z := true) rfl rfl ?_
          refine sK_i (pc' := 6) rfl ?_
          refine x_retz (z := true) rfl rfl ?_
          refine sK_i (pc' := 38) rfl ?_
          refine x_if (a' := 65) (pc' := 41) (z := false) rfl rfl rfl (by decide) (fun h => by cases h) (fun _ => ?_)
          refine x_aload_n (pc' := 42) rfl rfl rfl rfl rfl ?_
          refine x_gR (pc' := 45) (r := (some 0)) rfl rfl rfl (Eq.trans rdRthr (z_R_769_0 e)) ?_
          refine x_iload_n (pc' := 46) rfl rfl rfl ?_
          refine x_iald (pc' := 47) (N := 5) (x := 0) rfl rfl rfl (Eq.trans rdNthr (z_N_21_0 e)) (io_in (p := 1) (N := 5) (by decide) (by decide)) (Eq.trans (congrArg (sA (sThr t) 21 0) (nn_io (p := 1) (by decide))) (Eq.trans rdAthr (z_A_21_0_1 e))) ?_
          refine x_iconst (pc' := 48) rfl rfl ?_
          refine x_icmp (a' := 65) (pc' := 51) (z := true) rfl rfl rfl (by decide) (fun _ => ?_) (fun h => by cases h)
          refine x_iconst (pc' := 66) rfl rfl ?_
          refine x_istore (pc' := 68) (ls' := [_, _, _, _, _, _, _, _]) rfl rfl rfl rfl ?_
          refine x_aload_n (pc' := 69) rfl rfl rfl rfl rfl ?_
          refine x_aload_n (pc' := 70) rfl rfl rfl rfl rfl ?_
          refine x_iload_n (pc' := 71) rfl rfl rfl ?_
          refine x_iload_n (pc' := 72) rfl rfl rfl ?_
          refine x_iload (pc' := 74) rfl rfl rfl ?_
          refine x_iload (pc' := 76) rfl rfl rfl ?_
          refine x_cv (ls0 := [_, _, _, _, _, sJk]) (rest := [_]) rfl rfl rfl rfl rfl ?_
          refine x_iload_n (pc' := 1) rfl rfl rfl ?_
          refine x_cs (ls0 := [_]) (rest := []) rfl rfl rfl rfl ?_
          refine x_iload_n (pc' := 1) rfl rfl rfl ?_
          refine x_iconst (pc' := 2) rfl rfl ?_
          refine x_iconst (pc' := 3) rfl rfl ?_
          refine x_cs (ls0 := [_, _, _]) (rest := []) rfl rfl rfl rfl ?_
          refine x_iload_n (pc' := 1) rfl rfl rfl ?_
          refine x_iload_n (pc' := 2) rfl rfl rfl ?_
          refine x_icmp (a' := 14) (pc' := 5) (z := decide ((xs 1) < 0)) rfl rfl rfl rfl (fun _ => ?_) (fun h => absurd e0 (of_decide_eq_false h))
          refine x_iconst (pc' := 15) rfl rfl ?_
          refine x_retz (z := false) rfl rfl ?_
          refine sK_i (pc' := 6) rfl ?_
          refine x_retz (z := false) rfl rfl ?_
          refine sK_i (pc' := 4) rfl ?_
          refine x_if (a' := 18) (pc' := 7) (z := true) rfl rfl rfl (by decide) (fun _ => ?_) (fun h => by cases h)
          refine x_iconst (pc' := 19) rfl rfl ?_
          refine x_istore (pc' := 21) (ls' := [_, _, _, _, _, _]) rfl rfl rfl rfl ?_
          refine x_iload (pc' := 23) rfl rfl rfl ?_
          refine x_if (a' := 30) (pc' := 26) (z := false) rfl rfl rfl (by decide) (fun h => by cases h) (fun _ => ?_)
          refine x_iconst (pc' := 27) rfl rfl ?_
          refine x_goto (pc' := 57) rfl rfl ?_
          refine x_reti rfl rfl ?_
          refine sK_i (pc' := 79) rfl ?_
          refine x_cv (ls0 := [_, _]) (rest := []) rfl rfl rfl rfl rfl ?_
          refine x_aload_n (pc' := 1) rfl rfl rfl rfl rfl ?_
          refine x_iload_n (pc' := 2) rfl rfl rfl ?_
          refine x_pI (pc' := 5) rfl rfl rfl ?_
          refine x_iload_n (pc' := 6) rfl rfl rfl ?_
          refine x_if (a' := 13) (pc' := 9) (z := true) rfl rfl rfl (by decide) (fun _ => ?_) (fun h => by cases h)
          refine x_iconst (pc' := 14) rfl rfl ?_
          refine x_retz (z := false) rfl rfl ?_
          refine sK_i (pc' := 82) rfl ?_
          refine x_if (a' := 102) (pc' := 85) (z := true) rfl rfl rfl (by decide) (fun _ => ?_) (fun h => by cases h)
          refine x_iconst (pc' := 103) rfl rfl ?_
          refine x_reti rfl rfl ?_
          refine sK_i (pc' := 1104) rfl ?_
          refine x_istore (pc' := 1106) (ls' := [_, _, _, _, _, _, _]) rfl rfl rfl rfl ?_
          refine x_aload_n (pc' := 1107) rfl rfl rfl rfl rfl ?_
          refine x_cv (ls0 := [_]) (rest := []) rfl rfl rfl rfl rfl ?_
          refine x_aload_n (pc' := 1) rfl rfl rfl rfl rfl ?_
          refine x_gI (pc' := 4) (x := 1) rfl rfl rfl sI_s ?_
          refine x_reti rfl rfl ?_
          refine sK_i (pc' := 1110) rfl ?_
          refine x_iload (pc' := 1112) rfl rfl rfl ?_
          refine x_icmp (a' := 1117) (pc' := 1115) (z := true) rfl rfl rfl (by decide) (fun _ => ?_) (fun h => by cases h)
          refine x_iload (pc' := 1119) rfl rfl rfl ?_
          refine x_if (a' := 1134) (pc' := 1122) (z := true) rfl rfl rfl (by decide) (fun _ => ?_) (fun h => by cases h)
          refine x_goto (pc' := 2938) rfl rfl ?_
          refine x_iinc (pc' := 2941) (y := 7) (ls' := [_, _, _, _, _, _, _]) rfl rfl rfl rfl rfl ?_
          refine x_goto (pc' := 23) rfl rfl ?_
          refine x_iload (pc' := 25) rfl rfl rfl ?_
          refine x_aload_n (pc' := 26) rfl rfl rfl rfl rfl ?_
          refine x_alen (pc' := 27) (N := 7) rfl rfl rfl (Eq.trans rdNI (Eq.trans rdNthr (z_N_29_0 e))) (?_ : X _ _ _ (.inl 7 :: _) _ _)
          refine x_bipush (pc' := 29) rfl rfl ?_
          refine x_isub (pc' := 30) (z := 0) rfl rfl (by decide) ?_
          refine x_icmp (a' := 2944) (pc' := 33) (z := true) rfl rfl rfl (by decide) (fun _ => ?_) (fun h => by cases h)
          refine x_iconst (pc' := 2945) rfl rfl ?_
          refine x_retz (z := true) rfl rfl ?_
          exact Qp_ok e (p := 1) (q := 6) rfl rfl rfl rfl
        refine x_ifeq_z (a' := 31) (pc' := 16) (z := (!(decide ((xs 4) < 1)) && (!(decide (999 < (xs 4)))))) rfl rfl rfl (fun q15 => ?_) (fun q15 => ?_)
        · refine x_iconst (pc' := 32) rfl rfl ?_
          ((try rw [q15] at J19); (try rw [q15]); (try simp only [cd_t, cd_f, nt_t, nt_f, an_t, an_f, or_t, or_f] at J19); (try simp only [cd_t, cd_f, nt_t, nt_f, an_t, an_f, or_t, or_f]); exact J19)
        · refine x_iload (pc' := 18) rfl rfl rfl ?_
          refine x_iconst (pc' := 19) rfl rfl ?_
          refine x_bipush (pc' := 21) rfl rfl ?_
          refine x_cs (ls0 := [_, _, _]) (rest := []) rfl rfl rfl rfl ?_
          refine x_iload_n (pc' := 1) rfl rfl rfl ?_
          refine x_iload_n (pc' := 2) rfl rfl rfl ?_
          have J17 : X 145 15 [.inl (xs 5), .inl 1, .inl 100] [.inl (bz (!(decide ((xs 5) < 1)) && (!(decide (100 < (xs 5))))))] (sThr t) (sK 145 205 21 [.inr (.inr (12, (some 0))), .inl (xs 1), .inl 1, .inl (bz (!(decide ((xs 3) = 0)))), .inl (xs 4), .inl (xs 5), sJk, sJk] [] (sK 205 297 1101 [.inr (.inr (29, (some 0))), .inr (.inr (11, (some 0))), .inr (.inr (12, (some 0))), .inr (.inr (23, (some 0))), .inl 0, .inl 1, sJk] [] Qp)) := by
            refine x_retz (z := (!(decide ((xs 5) < 1)) && (!(decide (100 < (xs 5)))))) rfl rfl ?_
            refine sK_i (pc' := 24) rfl ?_
            refine x_ifeq_z (a' := 31) (pc' := 27) (z := (!(decide ((xs 5) < 1)) && (!(decide (100 < (xs 5)))))) rfl rfl rfl (fun q19 => ?_) (fun q19 => ?_)
            · refine x_iconst (pc' := 32) rfl rfl ?_
              ((try rw [q15] at J19); (try rw [q15]); (try rw [q19] at J19); (try rw [q19]); (try simp only [cd_t, cd_f, nt_t, nt_f, an_t, an_f, or_t, or_f] at J19); (try simp only [cd_t, cd_f, nt_t, nt_f, an_t, an_f, or_t, or_f]); exact J19)
            · refine x_iconst (pc' := 28) rfl rfl ?_
              refine x_goto (pc' := 32) rfl rfl ?_
              ((try rw [q15] at J19); (try rw [q15]); (try rw [q19] at J19); (try rw [q19]); (try simp only [cd_t, cd_f, nt_t, nt_f, an_t, an_f, or_t, or_f] at J19); (try simp only [cd_t, cd_f, nt_t, nt_f, an_t, an_f, or_t, or_f]); exact J19)
          refine x_icmp (a' := 14) (pc' := 5) (z := decide ((xs 5) < 1)) rfl rfl rfl rfl (fun q16 => ?_) (fun q16 => ?_)
          · refine x_iconst (pc' := 15) rfl rfl ?_
            ((try rw [q16] at J17); (try rw [q16]); (try simp only [cd_t, cd_f, nt_t, nt_f, an_t, an_f, or_t, or_f] at J17); (try simp only [cd_t, cd_f, nt_t, nt_f, an_t, an_f, or_t, or_f]); exact J17)
          · refine x_iload_n (pc' := 6) rfl rfl rfl ?_
            refine x_iload_n (pc' := 7) rfl rfl rfl ?_
            refine x_icmp (a' := 14) (pc' := 10) (z := decide (100 < (xs 5))) rfl rfl rfl rfl (fun q17 => ?_) (fun q17 => ?_)
            · refine x_iconst (pc' := 15) rfl rfl ?_
              ((try rw [q16] at J17); (try rw [q16]); (try rw [q17] at J17); (try rw [q17]); (try simp only [cd_t, cd_f, nt_t, nt_f, an_t, an_f, or_t, or_f] at J17); (try simp only [cd_t, cd_f, nt_t, nt_f, an_t, an_f, or_t, or_f]); exact J17)
            · refine x_iconst (pc' := 11) rfl rfl ?_
              refine x_goto (pc' := 15) rfl rfl ?_
              ((try rw [q16] at J17); (try rw [q16]); (try rw [q17] at J17); (try rw [q17]); (try simp only [cd_t, cd_f, nt_t, nt_f, an_t, an_f, or_t, or_f] at J17); (try simp only [cd_t, cd_f, nt_t, nt_f, an_t, an_f, or_t, or_f]); exact J17)
      refine x_icmp (a' := 14) (pc' := 5) (z := decide ((xs 4) < 1)) rfl rfl rfl rfl (fun q12 => ?_) (fun q12 => ?_)
      · refine x_iconst (pc' := 15) rfl rfl ?_
        ((try rw [q12] at J13); (try rw [q12]); (try simp only [cd_t, cd_f, nt_t, nt_f, an_t, an_f, or_t, or_f] at J13); (try simp only [cd_t, cd_f, nt_t, nt_f, an_t, an_f, or_t, or_f]); exact J13)
      · refine x_iload_n (pc' := 6) rfl rfl rfl ?_
        refine x_iload_n (pc' := 7) rfl rfl rfl ?_
        refine x_icmp (a' := 14) (pc' := 10) (z := decide (999 < (xs 4))) rfl rfl rfl rfl (fun q13 => ?_) (fun q13 => ?_)
        · refine x_iconst (pc' := 15) rfl rfl ?_
          ((try rw [q12] at J13); (try rw [q12]); (try rw [q13] at J13); (try rw [q13]); (try simp only [cd_t, cd_f, nt_t, nt_f, an_t, an_f, or_t, or_f] at J13); (try simp only [cd_t, cd_f, nt_t, nt_f, an_t, an_f, or_t, or_f]); exact J13)
        · refine x_iconst (pc' := 11) rfl rfl ?_
          refine x_goto (pc' := 15) rfl rfl ?_
          ((try rw [q12] at J13); (try rw [q12]); (try rw [q13] at J13); (try rw [q13]); (try simp only [cd_t, cd_f, nt_t, nt_f, an_t, an_f, or_t, or_f] at J13); (try simp only [cd_t, cd_f, nt_t, nt_f, an_t, an_f, or_t, or_f]); exact J13)
    refine x_if (a' := 1088) (pc' := 1084) (z := decide ((xs 3) = 0)) rfl rfl rfl rfl (fun q6 => ?_) (fun q6 => ?_)
    · refine x_iconst (pc' := 1089) rfl rfl ?_
      ((try rw [q6] at J6); (try rw [q6]); (try simp only [cd_t, cd_f, nt_t, nt_f, an_t, an_f, or_t, or_f] at J6); (try simp only [cd_t, cd_f, nt_t, nt_f, an_t, an_f, or_t, or_f]); exact J6)
    · refine x_iconst (pc' := 1085) rfl rfl ?_
      refine x_goto (pc' := 1089) rfl rfl ?_
      ((try rw [q6] at J6); (try rw [q6]); (try simp only [cd_t, cd_f, nt_t, nt_f, an_t, an_f, or_t, or_f] at J6); (try simp only [cd_t, cd_f, nt_t, nt_f, an_t, an_f, or_t, or_f]); exact J6)
  refine x_if (a' := 1043) (pc' := 1039) (z := decide ((xs 3) = 0)) rfl rfl rfl rfl (fun q3 => ?_) (fun q3 => ?_)
  · refine x_iconst (pc' := 1044) rfl rfl ?_
    ((try rw [q3] at J3); (try rw [q3]); (try simp only [cd_t, cd_f, nt_t, nt_f, an_t, an_f, or_t, or_f] at J3); (try simp only [cd_t, cd_f, nt_t, nt_f, an_t, an_f, or_t, or_f]); exact J3)
  · refine x_iconst (pc' := 1040) rfl rfl ?_
    refine x_goto (pc' := 1044) rfl rfl ?_
    ((try rw [q3] at J3); (try rw [q3]); (try simp only [cd_t, cd_f, nt_t, nt_f, an_t, an_f, or_t, or_f] at J3); (try simp only [cd_t, cd_f, nt_t, nt_f, an_t, an_f, or_t, or_f]); exact J3)
set_option maxHeartbeats 4000000 in
set_option maxRecDepth 10000 in
theorem v_11_A_2_i_i_i {t : sT} {xs : Nat → Int32}
    (e : t = T16 7 xs)
    (hk : ((xs 0) &&& 63) = 11)
    (e0 : (xs 1) < 0)
    (e1 : xs 2 = 2) :
    X 297 23 [.inr (.inr (29, (some 0))), .inr (.inr (11, (some 0))), .inr (.inr (12, (some 0))), .inr (.inr (23, (some 0))), .inl 0, sJk, sJk] [] t Qp := by
  refine x_iload (pc' := 25) rfl rfl rfl ?_
  refine x_aload_n (pc' := 26) rfl rfl rfl rfl rfl ?_
  refine x_alen (pc' := 27) (N := 7) rfl rfl rfl (z_N_29_0 e) (?_ : X _ _ _ (.inl 7 :: _) _ _)
  refine x_bipush (pc' := 29) rfl rfl ?_
  refine x_isub (pc' := 30) (z := 0) rfl rfl (by decide) ?_
  refine x_icmp (a' := 2944) (pc' := 33) (z := false) rfl rfl rfl (by decide) (fun h => by cases h) (fun _ => ?_)
  refine x_aload_n (pc' := 34) rfl rfl rfl rfl rfl ?_
  refine x_iload (pc' := 36) rfl rfl rfl ?_
  refine x_iald (pc' := 37) (N := 7) (x := (xs 0)) rfl rfl rfl (z_N_29_0 e) (io_in (p := 0) (N := 7) (by decide) (by decide)) (Eq.trans (congrArg (sA t 29 0) (nn_io (p := 0) (by decide))) (z_A_29_0_0 e)) ?_
  refine x_bipush (pc' := 39) rfl rfl ?_
  refine x_iand (pc' := 40) (z := ((xs 0) &&& 63)) rfl rfl rfl ?_
  refine x_switch (pc' := 1017) rfl (by rw [hk]; decide) ?_
  refine x_aload_n (pc' := 1018) rfl rfl rfl rfl rfl ?_
  refine x_aload_n (pc' := 1019) rfl rfl rfl rfl rfl ?_
  refine x_iload (pc' := 1021) rfl rfl rfl ?_
  refine x_iconst (pc' := 1022) rfl rfl ?_
  refine x_iadd (pc' := 1023) (z := 1) rfl rfl (by decide) ?_
  refine x_iald (pc' := 1024) (N := 7) (x := (xs 1)) rfl rfl rfl (z_N_29_0 e) (io_in (p := 1) (N := 7) (by decide) (by decide)) (Eq.trans (congrArg (sA t 29 0) (nn_io (p := 1) (by decide))) (z_A_29_0_1 e)) ?_
  refine x_aload_n (pc' := 1025) rfl rfl rfl rfl rfl ?_
  refine x_iload (pc' := 1027) rfl rfl rfl ?_
  refine x_iconst (pc' := 1028) rfl rfl ?_
  refine x_iadd (pc' := 1029) (z := 2) rfl rfl (by decide) ?_
  refine x_iald (pc' := 1030) (N := 7) (x := 2) rfl rfl rfl (z_N_29_0 e) (io_in (p := 2) (N := 7) (by decide) (by decide)) (Eq.trans (congrArg (sA t 29 0) (nn_io (p := 2) (by decide))) (Eq.trans (z_A_29_0_2 e) e1)) ?_
  refine x_aload_n (pc' := 1031) rfl rfl rfl rfl rfl ?_
  refine x_iload (pc' := 1033) rfl rfl rfl ?_
  refine x_iconst (pc' := 1034) rfl rfl ?_
  refine x_iadd (pc' := 1035) (z := 3) rfl rfl (by decide) ?_
  refine x_iald (pc' := 1036) (N := 7) (x := (xs 3)) rfl rfl rfl (z_N_29_0 e) (io_in (p := 3) (N := 7) (by decide) (by decide)) (Eq.trans (congrArg (sA t 29 0) (nn_io (p := 3) (by decide))) (z_A_29_0_3 e)) ?_
  have J3 : X 297 1044 [.inr (.inr (29, (some 0))), .inr (.inr (11, (some 0))), .inr (.inr (12, (some 0))), .inr (.inr (23, (some 0))), .inl 0, sJk, sJk] [.inl (bz (!(decide ((xs 3) = 0)))), .inl 2, .inl (xs 1), .inr (.inr (11, (some 0)))] t Qp := by
    refine x_aload_n (pc' := 1045) rfl rfl rfl rfl rfl ?_
    refine x_iload (pc' := 1047) rfl rfl rfl ?_
    refine x_iconst (pc' := 1048) rfl rfl ?_
    refine x_iadd (pc' := 1049) (z := 4) rfl rfl (by decide) ?_
    refine x_iald (pc' := 1050) (N := 7) (x := (xs 4)) rfl rfl rfl (z_N_29_0 e) (io_in (p := 4) (N := 7) (by decide) (by decide)) (Eq.trans (congrArg (sA t 29 0) (nn_io (p := 4) (by decide))) (z_A_29_0_4 e)) ?_
    refine x_aload_n (pc' := 1051) rfl rfl rfl rfl rfl ?_
    refine x_iload (pc' := 1053) rfl rfl rfl ?_
    refine x_iconst (pc' := 1054) rfl rfl ?_
    refine x_iadd (pc' := 1055) (z := 5) rfl rfl (by decide) ?_
    refine x_iald (pc' := 1056) (N := 7) (x := (xs 5)) rfl rfl rfl (z_N_29_0 e) (io_in (p := 5) (N := 7) (by decide) (by decide)) (Eq.trans (congrArg (sA t 29 0) (nn_io (p := 5) (by decide))) (z_A_29_0_5 e)) ?_
    refine x_aload_n (pc' := 1057) rfl rfl rfl rfl rfl ?_
    refine x_cs (ls0 := [_, _, _, _, _, _, _, sJk]) (rest := []) rfl rfl rfl rfl ?_
    refine x_aload (pc' := 2) rfl rfl rfl rfl rfl ?_
    refine x_iconst (pc' := 3) rfl rfl ?_
    refine x_aload_n (pc' := 4) rfl rfl rfl rfl rfl ?_
    refine x_iload_n (pc' := 5) rfl rfl rfl ?_
    refine x_iload_n (pc' := 6) rfl rfl rfl ?_
    refine x_iload_n (pc' := 7) rfl rfl rfl ?_
    refine x_iload (pc' := 9) rfl rfl rfl ?_
    refine x_iload (pc' := 11) rfl rfl rfl ?_
    refine x_cv (ls0 := [_, _, _, _, _, _, sJk, sJk, sJk]) (rest := [_, _]) rfl rfl rfl rfl rfl ?_
    refine x_aload_n (pc' := 1) rfl rfl rfl rfl rfl ?_
    refine x_iload_n (pc' := 2) rfl rfl rfl ?_
    refine x_cv (ls0 := [_, _]) (rest := []) rfl rfl rfl rfl rfl ?_
    refine x_iload_n (pc' := 1) rfl rfl rfl ?_
    refine x_if (a' := 16) (pc' := 4) (z := decide ((xs 1) < 0)) rfl rfl rfl rfl (fun _ => ?_) (fun h => absurd e0 (of_decide_eq_false h))
    refine x_throw rfl rfl ?_
    refine sK_n (by decide +kernel) rfl ?_
    refine sK_h (h := 19) (by decide +kernel) rfl ?_
    refine x_catch (pc' := 21) (ls' := [_, _, _, _, _, _, _, _]) rfl rfl rfl rfl ?_
    refine x_iconst (pc' := 22) rfl rfl ?_
    refine x_reti rfl rfl ?_
    refine sK_i (pc' := 1060) rfl ?_
    refine x_istore (pc' := 1062) (ls' := [_, _, _, _, _, _, _]) rfl rfl rfl rfl ?_
    refine x_aload_n (pc' := 1063) rfl rfl rfl rfl rfl ?_
    refine x_aload_n (pc' := 1064) rfl rfl rfl rfl rfl ?_
    refine x_iload (pc' := 1066) rfl rfl rfl ?_
    refine x_iconst (pc' := 1067) rfl rfl ?_
    refine x_iadd (pc' := 1068) (z := 1) rfl rfl (by decide) ?_
    refine x_iald (pc' := 1069) (N := 7) (x := (xs 1)) rfl rfl rfl (Eq.trans rdNthr (z_N_29_0 e)) (io_in (p := 1) (N := 7) (by decide) (by decide)) (Eq.trans (congrArg (sA (sThr t) 29 0) (nn_io (p := 1) (by decide))) (Eq.trans rdAthr (z_A_29_0_1 e))) ?_
    refine x_aload_n (pc' := 1070) rfl rfl rfl rfl rfl ?_
    refine x_iload (pc' := 1072) rfl rfl rfl ?_
    refine x_iconst (pc' := 1073) rfl rfl ?_
    refine x_iadd (pc' := 1074) (z := 2) rfl rfl (by decide) ?_
    refine x_iald (pc' := 1075) (N := 7) (x := 2) rfl rfl rfl (Eq.trans rdNthr (z_N_29_0 e)) (io_in (p := 2) (N := 7) (by decide) (by decide)) (Eq.trans (congrArg (sA (sThr t) 29 0) (nn_io (p := 2) (by decide))) (Eq.trans rdAthr (Eq.trans (z_A_29_0_2 e) e1))) ?_
    refine x_aload_n (pc' := 1076) rfl rfl rfl rfl rfl ?_
    refine x_iload (pc' := 1078) rfl rfl rfl ?_
    refine x_iconst (pc' := 1079) rfl rfl ?_
    refine x_iadd (pc' := 1080) (z := 3) rfl rfl (by decide) ?_
    refine x_iald (pc' := 1081) (N := 7) (x := (xs 3)) rfl rfl rfl (Eq.trans rdNthr (z_N_29_0 e)) (io_in (p := 3) (N := 7) (by decide) (by decide)) (Eq.trans (congrArg (sA (sThr t) 29 0) (nn_io (p := 3) (by decide))) (Eq.trans rdAthr (z_A_29_0_3 e))) ?_
    have J6 : X 297 1089 [.inr (.inr (29, (some 0))), .inr (.inr (11, (some 0))), .inr (.inr (12, (some 0))), .inr (.inr (23, (some 0))), .inl 0, .inl 1, sJk] [.inl (bz (!(decide ((xs 3) = 0)))), .inl 2, .inl (xs 1), .inr (.inr (12, (some 0)))] (sThr t) Qp := by
      refine x_aload_n (pc' := 1090) rfl rfl rfl rfl rfl ?_
      refine x_iload (pc' := 1092) rfl rfl rfl ?_
      refine x_iconst (pc' := 1093) rfl rfl ?_
      refine x_iadd (pc' := 1094) (z := 4) rfl rfl (by decide) ?_
      refine x_iald (pc' := 1095) (N := 7) (x := (xs 4)) rfl rfl rfl (Eq.trans rdNthr (z_N_29_0 e)) (io_in (p := 4) (N := 7) (by decide) (by decide)) (Eq.trans (congrArg (sA (sThr t) 29 0) (nn_io (p := 4) (by decide))) (Eq.trans rdAthr (z_A_29_0_4 e))) ?_
      refine x_aload_n (pc' := 1096) rfl rfl rfl rfl rfl ?_
      refine x_iload (pc' := 1098) rfl rfl rfl ?_
      refine x_iconst (pc' := 1099) rfl rfl ?_
      refine x_iadd (pc' := 1100) (z := 5) rfl rfl (by decide) ?_
      refine x_iald (pc' := 1101) (N := 7) (x := (xs 5)) rfl rfl rfl (Eq.trans rdNthr (z_N_29_0 e)) (io_in (p := 5) (N := 7) (by decide) (by decide)) (Eq.trans (congrArg (sA (sThr t) 29 0) (nn_io (p := 5) (by decide))) (Eq.trans rdAthr (z_A_29_0_5 e))) ?_
      refine x_cv (ls0 := [_, _, _, _, _, _, sJk, sJk]) (rest := []) rfl rfl rfl rfl rfl ?_
      refine x_iload_n (pc' := 1) rfl rfl rfl ?_
      refine x_cs (ls0 := [_]) (rest := []) rfl rfl rfl rfl ?_
      refine x_iload_n (pc' := 1) rfl rfl rfl ?_
      refine x_iconst (pc' := 2) rfl rfl ?_
      refine x_iconst (pc' := 3) rfl rfl ?_
      refine x_cs (ls0 := [_, _, _]) (rest := []) rfl rfl rfl rfl ?_
      refine x_iload_n (pc' := 1) rfl rfl rfl ?_
      refine x_iload_n (pc' := 2) rfl rfl rfl ?_
      refine x_icmp (a' := 14) (pc' := 5) (z := false) rfl rfl rfl (by decide) (fun h => by cases h) (fun _ => ?_)
      refine x_iload_n (pc' := 6) rfl rfl rfl ?_
      refine x_iload_n (pc' := 7) rfl rfl rfl ?_
      refine x_icmp (a' := 14) (pc' := 10) (z := false) rfl rfl rfl (by decide) (fun h => by cases h) (fun _ => ?_)
      refine x_iconst (pc' := 11) rfl rfl ?_
      refine x_goto (pc' := 15) rfl rfl ?_
      refine x_retz (z := true) rfl rfl ?_
      refine sK_i (pc' := 6) rfl ?_
      refine x_retz (z := true) rfl rfl ?_
      refine sK_i (pc' := 4) rfl ?_
      refine x_if (a' := 31) (pc' := 7) (z := false) rfl rfl rfl (by decide) (fun h => by cases h) (fun _ => ?_)
      refine x_iload_n (pc' := 8) rfl rfl rfl ?_
      refine x_iload (pc' := 10) rfl rfl rfl ?_
      refine x_cs (ls0 := [_, _]) (rest := []) rfl rfl rfl rfl ?_
      refine x_iload_n (pc' := 1) rfl rfl rfl ?_
      refine x_iconst (pc' := 2) rfl rfl ?_
      refine x_icmp (a' := 16) (pc' := 5) (z := false) rfl rfl rfl (by decide) (fun h => by cases h) (fun _ => ?_)
      refine x_iload_n (pc' := 6) rfl rfl rfl ?_
      refine x_iconst (pc' := 7) rfl rfl ?_
      refine x_sipush (pc' := 10) rfl rfl ?_
      refine x_cs (ls0 := [_, _, _]) (rest := []) rfl rfl rfl rfl ?_
      refine x_iload_n (pc' := 1) rfl rfl rfl ?_
      refine x_iload_n (pc' := 2) rfl rfl rfl ?_
      have J13 : X 145 15 [.inl (xs 4), .inl 1, .inl 999] [.inl (bz (!(decide ((xs 4) < 1)) && (!(decide (999 < (xs 4))))))] (sThr t) (sK 145 150 10 [.inl 2, .inl (xs 4)] [] (sK 150 205 10 [.inr (.inr (12, (some 0))), .inl (xs 1), .inl 2, .inl (bz (!(decide ((xs 3) = 0)))), .inl (xs 4), .inl (xs 5), sJk, sJk] [] (sK 205 297 1101 [.inr (.inr (29, (some 0))), .inr (.inr (11, (some 0))), .inr (.inr (12, (some 0))), .inr (.inr (23, (some 0))), .inl 0, .inl 1, sJk] [] Qp))) := by
        refine x_retz (z := (!(decide ((xs 4) < 1)) && (!(decide (999 < (xs 4)))))) rfl rfl ?_
        refine sK_i (pc' := 13) rfl ?_
        refine x_goto (pc' := 26) rfl rfl ?_
        refine x_retz (z := (!(decide ((xs 4) < 1)) && (!(decide (999 < (xs 4)))))) rfl rfl ?_
        refine sK_i (pc' := 13) rfl ?_
        have J19 : X 205 32 [.inr (.inr (12, (some 0))), .inl (xs 1), .inl 2, .inl (bz (!(decide ((xs 3) = 0)))), .inl (xs 4), .inl (xs 5), sJk, sJk] [.inl (bz ((!(decide ((xs 4) < 1)) && (!(decide (999 < (xs 4))))) && (!(decide ((xs 5) < 1)) && (!(decide (100 < (xs 5)))))))] (sThr t) (sK 205 297 1101 [.inr (.inr (29, (some 0))), .inr (.inr (11, (some 0))), .inr (.inr (12, (some 0))), .inr (.inr (23, (some 0))), .inl 0, .inl 1, sJk] [] Qp) := by
          refine x_istore (pc' := 34) (ls' := [_, _, _, _, _, _, _, _]) rfl rfl rfl rfl ?_
          refine x_iload_n (pc' := 35) rfl rfl rfl ?_
          refine x_cs (ls0 := [_]) (rest := []) rfl rfl rfl rfl ?_
          refine x_iload_n (pc' := 1) rfl rfl rfl ?_
          refine x_iconst (pc' := 2) rfl rfl ?_
          refine x_iconst (pc' := 3) rfl rfl ?_
          refine x_cs (ls0 := [_, _, _]) (rest := []) rfl rfl rfl rfl ?_
          refine x_iload_n (pc' := 1) rfl rfl rfl ?_
          refine x_iload_n (pc' := 2) rfl rfl rfl ?_
          refine x_icmp (a' := 14) (pc' := 5) (z := false) rfl rfl rfl (by decide) (fun h => by cases h) (fun _ => ?_)
          refine x_iload_n (pc' := 6) rfl rfl rfl ?_
          refine x_iload_n (pc' := 7) rfl rfl rfl ?_
          refine x_icmp (a' := 14) (pc' := 10) (z := false) rfl rfl rfl (by decide) (fun h => by cases h) (fun _ => ?_)
          refine x_iconst (pc' := 11) rfl rfl ?_
          refine x_goto (pc' := 15) rfl rfl ?_
          refine x_retz (z := true) rfl rfl ?_
          refine sK_i (pc' := 6) rfl ?_
          refine x_retz (z := true) rfl rfl ?_
          refine sK_i (pc' := 38) rfl ?_
          refine x_if (a' := 65) (pc' := 41) (z := false) rfl rfl rfl (by decide) (fun h => by cases h) (fun _ => ?_)
          refine x_aload_n (pc' := 42) rfl rfl rfl rfl rfl ?_
          refine x_gR (pc' := 45) (r := (some 0)) rfl rfl rfl (Eq.trans rdRthr (z_R_769_0 e)) ?_
          refine x_iload_n (pc' := 46) rfl rfl rfl ?_
          refine x_iald (pc' := 47) (N := 5) (x := 0) rfl rfl rfl (Eq.trans rdNthr (z_N_21_0 e)) (io_in (p := 2) (N := 5) (by decide) (by decide)) (Eq.trans (congrArg (sA (sThr t) 21 0) (nn_io (p := 2) (by decide))) (Eq.trans rdAthr (z_A_21_0_2 e))) ?_
          refine x_iconst (pc' := 48) rfl rfl ?_
          refine x_icmp (a' := 65) (pc' := 51) (z := true) rfl rfl rfl (by decide) (fun _ => ?_) (fun h => by cases h)
          refine x_iconst (pc' := 66) rfl rfl ?_
          refine x_istore (pc' := 68) (ls' := [_, _, _, _, _, _, _, _]) rfl rfl rfl rfl ?_
          refine x_aload_n (pc' := 69) rfl rfl rfl rfl rfl ?_
          refine x_aload_n (pc' := 70) rfl rfl rfl rfl rfl ?_
          refine x_iload_n (pc' := 71) rfl rfl rfl ?_
          refine x_iload_n (pc' := 72) rfl rfl rfl ?_
          refine x_iload (pc' := 74) rfl rfl rfl ?_
          refine x_iload (pc' := 76) rfl rfl rfl ?_
          refine x_cv (ls0 := [_, _, _, _, _, sJk]) (rest := [_]) rfl rfl rfl rfl rfl ?_
          refine x_iload_n (pc' := 1) rfl rfl rfl ?_
          refine x_cs (ls0 := [_]) (rest := []) rfl rfl rfl rfl ?_
          refine x_iload_n (pc' := 1) rfl rfl rfl ?_
          refine x_iconst (pc' := 2) rfl rfl ?_
          refine x_iconst (pc' := 3) rfl rfl ?_
          refine x_cs (ls0 := [_, _, _]) (rest := []) rfl rfl rfl rfl ?_
          refine x_iload_n (pc' := 1) rfl rfl rfl ?_
          refine x_iload_n (pc' := 2) rfl rfl rfl ?_
          refine x_icmp (a' := 14) (pc' := 5) (z := decide ((xs 1) < 0)) rfl rfl rfl rfl (fun _ => ?_) (fun h => absurd e0 (of_decide_eq_false h))
          refine x_iconst (pc' := 15) rfl rfl ?_
          refine x_retz (z := false) rfl rfl ?_
          refine sK_i (pc' := 6) rfl ?_
          refine x_retz (z := false) rfl rfl ?_
          refine sK_i (pc' := 4) rfl ?_
          refine x_if (a' := 18) (pc' := 7) (z := true) rfl rfl rfl (by decide) (fun _ => ?_) (fun h => by cases h)
          refine x_iconst (pc' := 19) rfl rfl ?_
          refine x_istore (pc' := 21) (ls' := [_, _, _, _, _, _]) rfl rfl rfl rfl ?_
          refine x_iload (pc' := 23) rfl rfl rfl ?_
          refine x_if (a' := 30) (pc' := 26) (z := false) rfl rfl rfl (by decide) (fun h => by cases h) (fun _ => ?_)
          refine x_iconst (pc' := 27) rfl rfl ?_
          refine x_goto (pc' := 57) rfl rfl ?_
          refine x_reti rfl rfl ?_
          refine sK_i (pc' := 79) rfl ?_
          refine x_cv (ls0 := [_, _]) (rest := []) rfl rfl rfl rfl rfl ?_
          refine x_aload_n (pc' := 1) rfl rfl rfl rfl rfl ?_
          refine x_iload_n (pc' := 2) rfl rfl rfl ?_
          refine x_pI (pc' := 5) rfl rfl rfl ?_
          refine x_iload_n (pc' := 6) rfl rfl rfl ?_
          refine x_if (a' := 13) (pc' := 9) (z := true) rfl rfl rfl (by decide) (fun _ => ?_) (fun h => by cases h)
          refine x_iconst (pc' := 14) rfl rfl ?_
          refine x_retz (z := false) rfl rfl ?_
          refine sK_i (pc' := 82) rfl ?_
          refine x_if (a' := 102) (pc' := 85) (z := true) rfl rfl rfl (by decide) (fun _ => ?_) (fun h => by cases h)
          refine x_iconst (pc' := 103) rfl rfl ?_
          refine x_reti rfl rfl ?_
          refine sK_i (pc' := 1104) rfl ?_
          refine x_istore (pc' := 1106) (ls' := [_, _, _, _, _, _, _]) rfl rfl rfl rfl ?_
          refine x_aload_n (pc' := 1107) rfl rfl rfl rfl rfl ?_
          refine x_cv (ls0 := [_]) (rest := []) rfl rfl rfl rfl rfl ?_
          refine x_aload_n (pc' := 1) rfl rfl rfl rfl rfl ?_
          refine x_gI (pc' := 4) (x := 1) rfl rfl rfl sI_s ?_
          refine x_reti rfl rfl ?_
          refine sK_i (pc' := 1110) rfl ?_
          refine x_iload (pc' := 1112) rfl rfl rfl ?_
          refine x_icmp (a' := 1117) (pc' := 1115) (z := true) rfl rfl rfl (by decide) (fun _ => ?_) (fun h => by cases h)
          refine x_iload (pc' := 1119) rfl rfl rfl ?_
          refine x_if (a' := 1134) (pc' := 1122) (z := true) rfl rfl rfl (by decide) (fun _ => ?_) (fun h => by cases h)
          refine x_goto (pc' := 2938) rfl rfl ?_
          refine x_iinc (pc' := 2941) (y := 7) (ls' := [_, _, _, _, _, _, _]) rfl rfl rfl rfl rfl ?_
          refine x_goto (pc' := 23) rfl rfl ?_
          refine x_iload (pc' := 25) rfl rfl rfl ?_
          refine x_aload_n (pc' := 26) rfl rfl rfl rfl rfl ?_
          refine x_alen (pc' := 27) (N := 7) rfl rfl rfl (Eq.trans rdNI (Eq.trans rdNthr (z_N_29_0 e))) (?_ : X _ _ _ (.inl 7 :: _) _ _)
          refine x_bipush (pc' := 29) rfl rfl ?_
          refine x_isub (pc' := 30) (z := 0) rfl rfl (by decide) ?_
          refine x_icmp (a' := 2944) (pc' := 33) (z := true) rfl rfl rfl (by decide) (fun _ => ?_) (fun h => by cases h)
          refine x_iconst (pc' := 2945) rfl rfl ?_
          refine x_retz (z := true) rfl rfl ?_
          exact Qp_ok e (p := 1) (q := 6) rfl rfl rfl rfl
        refine x_ifeq_z (a' := 31) (pc' := 16) (z := (!(decide ((xs 4) < 1)) && (!(decide (999 < (xs 4)))))) rfl rfl rfl (fun q15 => ?_) (fun q15 => ?_)
        · refine x_iconst (pc' := 32) rfl rfl ?_
          ((try rw [q15] at J19); (try rw [q15]); (try simp only [cd_t, cd_f, nt_t, nt_f, an_t, an_f, or_t, or_f] at J19); (try simp only [cd_t, cd_f, nt_t, nt_f, an_t, an_f, or_t, or_f]); exact J19)
        · refine x_iload (pc' := 18) rfl rfl rfl ?_
          refine x_iconst (pc' := 19) rfl rfl ?_
          refine x_bipush (pc' := 21) rfl rfl ?_
          refine x_cs (ls0 := [_, _, _]) (rest := []) rfl rfl rfl rfl ?_
          refine x_iload_n (pc' := 1) rfl rfl rfl ?_
          refine x_iload_n (pc' := 2) rfl rfl rfl ?_
          have J17 : X 145 15 [.inl (xs 5), .inl 1, .inl 100] [.inl (bz (!(decide ((xs 5) < 1)) && (!(decide (100 < (xs 5))))))] (sThr t) (sK 145 205 21 [.inr (.inr (12, (some 0))), .inl (xs 1), .inl 2, .inl (bz (!(decide ((xs 3) = 0)))), .inl (xs 4), .inl (xs 5), sJk, sJk] [] (sK 205 297 1101 [.inr (.inr (29, (some 0))), .inr (.inr (11, (some 0))), .inr (.inr (12, (some 0))), .inr (.inr (23, (some 0))), .inl 0, .inl 1, sJk] [] Qp)) := by
            refine x_retz (z := (!(decide ((xs 5) < 1)) && (!(decide (100 < (xs 5)))))) rfl rfl ?_
            refine sK_i (pc' := 24) rfl ?_
            refine x_ifeq_z (a' := 31) (pc' := 27) (z := (!(decide ((xs 5) < 1)) && (!(decide (100 < (xs 5)))))) rfl rfl rfl (fun q19 => ?_) (fun q19 => ?_)
            · refine x_iconst (pc' := 32) rfl rfl ?_
              ((try rw [q15] at J19); (try rw [q15]); (try rw [q19] at J19); (try rw [q19]); (try simp only [cd_t, cd_f, nt_t, nt_f, an_t, an_f, or_t, or_f] at J19); (try simp only [cd_t, cd_f, nt_t, nt_f, an_t, an_f, or_t, or_f]); exact J19)
            · refine x_iconst (pc' := 28) rfl rfl ?_
              refine x_goto (pc' := 32) rfl rfl ?_
              ((try rw [q15] at J19); (try rw [q15]); (try rw [q19] at J19); (try rw [q19]); (try simp only [cd_t, cd_f, nt_t, nt_f, an_t, an_f, or_t, or_f] at J19); (try simp only [cd_t, cd_f, nt_t, nt_f, an_t, an_f, or_t, or_f]); exact J19)
          refine x_icmp (a' := 14) (pc' := 5) (z := decide ((xs 5) < 1)) rfl rfl rfl rfl (fun q16 => ?_) (fun q16 => ?_)
          · refine x_iconst (pc' := 15) rfl rfl ?_
            ((try rw [q16] at J17); (try rw [q16]); (try simp only [cd_t, cd_f, nt_t, nt_f, an_t, an_f, or_t, or_f] at J17); (try simp only [cd_t, cd_f, nt_t, nt_f, an_t, an_f, or_t, or_f]); exact J17)
          · refine x_iload_n (pc' := 6) rfl rfl rfl ?_
            refine x_iload_n (pc' := 7) rfl rfl rfl ?_
            refine x_icmp (a' := 14) (pc' := 10) (z := decide (100 < (xs 5))) rfl rfl rfl rfl (fun q17 => ?_) (fun q17 => ?_)
            · refine x_iconst (pc' := 15) rfl rfl ?_
              ((try rw [q16] at J17); (try rw [q16]); (try rw [q17] at J17); (try rw [q17]); (try simp only [cd_t, cd_f, nt_t, nt_f, an_t, an_f, or_t, or_f] at J17); (try simp only [cd_t, cd_f, nt_t, nt_f, an_t, an_f, or_t, or_f]); exact J17)
            · refine x_iconst (pc' := 11) rfl rfl ?_
              refine x_goto (pc' := 15) rfl rfl ?_
              ((try rw [q16] at J17); (try rw [q16]); (try rw [q17] at J17); (try rw [q17]); (try simp only [cd_t, cd_f, nt_t, nt_f, an_t, an_f, or_t, or_f] at J17); (try simp only [cd_t, cd_f, nt_t, nt_f, an_t, an_f, or_t, or_f]); exact J17)
      refine x_icmp (a' := 14) (pc' := 5) (z := decide ((xs 4) < 1)) rfl rfl rfl rfl (fun q12 => ?_) (fun q12 => ?_)
      · refine x_iconst (pc' := 15) rfl rfl ?_
        ((try rw [q12] at J13); (try rw [q12]); (try simp only [cd_t, cd_f, nt_t, nt_f, an_t, an_f, or_t, or_f] at J13); (try simp only [cd_t, cd_f, nt_t, nt_f, an_t, an_f, or_t, or_f]); exact J13)
      · refine x_iload_n (pc' := 6) rfl rfl rfl ?_
        refine x_iload_n (pc' := 7) rfl rfl rfl ?_
        refine x_icmp (a' := 14) (pc' := 10) (z := decide (999 < (xs 4))) rfl rfl rfl rfl (fun q13 => ?_) (fun q13 => ?_)
        · refine x_iconst (pc' := 15) rfl rfl ?_
          ((try rw [q12] at J13); (try rw [q12]); (try rw [q13] at J13); (try rw [q13]); (try simp only [cd_t, cd_f, nt_t, nt_f, an_t, an_f, or_t, or_f] at J13); (try simp only [cd_t, cd_f, nt_t, nt_f, an_t, an_f, or_t, or_f]); exact J13)
        · refine x_iconst (pc' := 11) rfl rfl ?_
          refine x_goto (pc' := 15) rfl rfl ?_
          ((try rw [q12] at J13); (try rw [q12]); (try rw [q13] at J13); (try rw [q13]); (try simp only [cd_t, cd_f, nt_t, nt_f, an_t, an_f, or_t, or_f] at J13); (try simp only [cd_t, cd_f, nt_t, nt_f, an_t, an_f, or_t, or_f]); exact J13)
    refine x_if (a' := 1088) (pc' := 1084) (z := decide ((xs 3) = 0)) rfl rfl rfl rfl (fun q6 => ?_) (fun q6 => ?_)
    · refine x_iconst (pc' := 1089) rfl rfl ?_
      ((try rw [q6] at J6); (try rw [q6]); (try simp only [cd_t, cd_f, nt_t, nt_f, an_t, an_f, or_t, or_f] at J6); (try simp only [cd_t, cd_f, nt_t, nt_f, an_t, an_f, or_t, or_f]); exact J6)
    · refine x_iconst (pc' := 1085) rfl rfl ?_
      refine x_goto (pc' := 1089) rfl rfl ?_
      ((try rw [q6] at J6); (try rw [q6]); (try simp only [cd_t, cd_f, nt_t, nt_f, an_t, an_f, or_t, or_f] at J6); (try simp only [cd_t, cd_f, nt_t, nt_f, an_t, an_f, or_t, or_f]); exact J6)
  refine x_if (a' := 1043) (pc' := 1039) (z := decide ((xs 3) = 0)) rfl rfl rfl rfl (fun q3 => ?_) (fun q3 => ?_)
  · refine x_iconst (pc' := 1044) rfl rfl ?_
    ((try rw [q3] at J3); (try rw [q3]); (try simp only [cd_t, cd_f, nt_t, nt_f, an_t, an_f, or_t, or_f] at J3); (try simp only [cd_t, cd_f, nt_t, nt_f, an_t, an_f, or_t, or_f]); exact J3)
  · refine x_iconst (pc' := 1040) rfl rfl ?_
    refine x_goto (pc' := 1044) rfl rfl ?_
    ((try rw [q3] at J3); (try rw [q3]); (try simp only [cd_t, cd_f, nt_t, nt_f, an_t, an_f, or_t, or_f] at J3); (try simp only [cd_t, cd_f, nt_t, nt_f, an_t, an_f, or_t, or_f]); exact J3)
set_option maxHeartbeats 4000000 in
set_option maxRecDepth 10000 in
theorem v_11_A_3_i_i_i {t : sT} {xs : Nat → Int32}
    (e : t = T16 7 xs)
    (hk : ((xs 0) &&& 63) = 11)
    (e0 : (xs 1) < 0)
    (e1 : xs 2 = 3) :
    X 297 23 [.inr (.inr (29, (some 0))), .inr (.inr (11, (some 0))), .inr (.inr (12, (some 0))), .inr (.inr (23, (some 0))), .inl 0, sJk, sJk] [] t Qp := by
  refine x_iload (pc' := 25) rfl rfl rfl ?_
  refine x_aload_n (pc' := 26) rfl rfl rfl rfl rfl ?_
  refine x_alen (pc' := 27) (N := 7) rfl rfl rfl (z_N_29_0 e) (?_ : X _ _ _ (.inl 7 :: _) _ _)
  refine x_bipush (pc' := 29) rfl rfl ?_
  refine x_isub (pc' := 30) (z := 0) rfl rfl (by decide) ?_
  refine x_icmp (a' := 2944) (pc' := 33) (z := false) rfl rfl rfl (by decide) (fun h => by cases h) (fun _ => ?_)
  refine x_aload_n (pc' := 34) rfl rfl rfl rfl rfl ?_
  refine x_iload (pc' := 36) rfl rfl rfl ?_
  refine x_iald (pc' := 37) (N := 7) (x := (xs 0)) rfl rfl rfl (z_N_29_0 e) (io_in (p := 0) (N := 7) (by decide) (by decide)) (Eq.trans (congrArg (sA t 29 0) (nn_io (p := 0) (by decide))) (z_A_29_0_0 e)) ?_
  refine x_bipush (pc' := 39) rfl rfl ?_
  refine x_iand (pc' := 40) (z := ((xs 0) &&& 63)) rfl rfl rfl ?_
  refine x_switch (pc' := 1017) rfl (by rw [hk]; decide) ?_
  refine x_aload_n (pc' := 1018) rfl rfl rfl rfl rfl ?_
  refine x_aload_n (pc' := 1019) rfl rfl rfl rfl rfl ?_
  refine x_iload (pc' := 1021) rfl rfl rfl ?_
  refine x_iconst (pc' := 1022) rfl rfl ?_
  refine x_iadd (pc' := 1023) (z := 1) rfl rfl (by decide) ?_
  refine x_iald (pc' := 1024) (N := 7) (x := (xs 1)) rfl rfl rfl (z_N_29_0 e) (io_in (p := 1) (N := 7) (by decide) (by decide)) (Eq.trans (congrArg (sA t 29 0) (nn_io (p := 1) (by decide))) (z_A_29_0_1 e)) ?_
  refine x_aload_n (pc' := 1025) rfl rfl rfl rfl rfl ?_
  refine x_iload (pc' := 1027) rfl rfl rfl ?_
  refine x_iconst (pc' := 1028) rfl rfl ?_
  refine x_iadd (pc' := 1029) (z := 2) rfl rfl (by decide) ?_
  refine x_iald (pc' := 1030) (N := 7) (x := 3) rfl rfl rfl (z_N_29_0 e) (io_in (p := 2) (N := 7) (by decide) (by decide)) (Eq.trans (congrArg (sA t 29 0) (nn_io (p := 2) (by decide))) (Eq.trans (z_A_29_0_2 e) e1)) ?_
  refine x_aload_n (pc' := 1031) rfl rfl rfl rfl rfl ?_
  refine x_iload (pc' := 1033) rfl rfl rfl ?_
  refine x_iconst (pc' := 1034) rfl rfl ?_
  refine x_iadd (pc' := 1035) (z := 3) rfl rfl (by decide) ?_
  refine x_iald (pc' := 1036) (N := 7) (x := (xs 3)) rfl rfl rfl (z_N_29_0 e) (io_in (p := 3) (N := 7) (by decide) (by decide)) (Eq.trans (congrArg (sA t 29 0) (nn_io (p := 3) (by decide))) (z_A_29_0_3 e)) ?_
  have J3 : X 297 1044 [.inr (.inr (29, (some 0))), .inr (.inr (11, (some 0))), .inr (.inr (12, (some 0))), .inr (.inr (23, (some 0))), .inl 0, sJk, sJk] [.inl (bz (!(decide ((xs 3) = 0)))), .inl 3, .inl (xs 1), .inr (.inr (11, (some 0)))] t Qp := by
    refine x_aload_n (pc' := 1045) rfl rfl rfl rfl rfl ?_
    refine x_iload (pc' := 1047) rfl rfl rfl ?_
    refine x_iconst (pc' := 1048) rfl rfl ?_
    refine x_iadd (pc' := 1049) (z := 4) rfl rfl (by decide) ?_
    refine x_iald (pc' := 1050) (N := 7) (x := (xs 4)) rfl rfl rfl (z_N_29_0 e) (io_in (p := 4) (N := 7) (by decide) (by decide)) (Eq.trans (congrArg (sA t 29 0) (nn_io (p := 4) (by decide))) (z_A_29_0_4 e)) ?_
    refine x_aload_n (pc' := 1051) rfl rfl rfl rfl rfl ?_
    refine x_iload (pc' := 1053) rfl rfl rfl ?_
    refine x_iconst (pc' := 1054) rfl rfl ?_
    refine x_iadd (pc' := 1055) (z := 5) rfl rfl (by decide) ?_
    refine x_iald (pc' := 1056) (N := 7) (x := (xs 5)) rfl rfl rfl (z_N_29_0 e) (io_in (p := 5) (N := 7) (by decide) (by decide)) (Eq.trans (congrArg (sA t 29 0) (nn_io (p := 5) (by decide))) (z_A_29_0_5 e)) ?_
    refine x_aload_n (pc' := 1057) rfl rfl rfl rfl rfl ?_
    refine x_cs (ls0 := [_, _, _, _, _, _, _, sJk]) (rest := []) rfl rfl rfl rfl ?_
    refine x_aload (pc' := 2) rfl rfl rfl rfl rfl ?_
    refine x_iconst (pc' := 3) rfl rfl ?_
    refine x_aload_n (pc' := 4) rfl rfl rfl rfl rfl ?_
    refine x_iload_n (pc' := 5) rfl rfl rfl ?_
    refine x_iload_n (pc' := 6) rfl rfl rfl ?_
    refine x_iload_n (pc' := 7) rfl rfl rfl ?_
    refine x_iload (pc' := 9) rfl rfl rfl ?_
    refine x_iload (pc' := 11) rfl rfl rfl ?_
    refine x_cv (ls0 := [_, _, _, _, _, _, sJk, sJk, sJk]) (rest := [_, _]) rfl rfl rfl rfl rfl ?_
    refine x_aload_n (pc' := 1) rfl rfl rfl rfl rfl ?_
    refine x_iload_n (pc' := 2) rfl rfl rfl ?_
    refine x_cv (ls0 := [_, _]) (rest := []) rfl rfl rfl rfl rfl ?_
    refine x_iload_n (pc' := 1) rfl rfl rfl ?_
    refine x_if (a' := 16) (pc' := 4) (z := decide ((xs 1) < 0)) rfl rfl rfl rfl (fun _ => ?_) (fun h => absurd e0 (of_decide_eq_false h))
    refine x_throw rfl rfl ?_
    refine sK_n (by decide +kernel) rfl ?_
    refine sK_h (h := 19) (by decide +kernel) rfl ?_
    refine x_catch (pc' := 21) (ls' := [_, _, _, _, _, _, _, _]) rfl rfl rfl rfl ?_
    refine x_iconst (pc' := 22) rfl rfl ?_
    refine x_reti rfl rfl ?_
    refine sK_i (pc' := 1060) rfl ?_
    refine x_istore (pc' := 1062) (ls' := [_, _, _, _, _, _, _]) rfl rfl rfl rfl ?_
    refine x_aload_n (pc' := 1063) rfl rfl rfl rfl rfl ?_
    refine x_aload_n (pc' := 1064) rfl rfl rfl rfl rfl ?_
    refine x_iload (pc' := 1066) rfl rfl rfl ?_
    refine x_iconst (pc' := 1067) rfl rfl ?_
    refine x_iadd (pc' := 1068) (z := 1) rfl rfl (by decide) ?_
    refine x_iald (pc' := 1069) (N := 7) (x := (xs 1)) rfl rfl rfl (Eq.trans rdNthr (z_N_29_0 e)) (io_in (p := 1) (N := 7) (by decide) (by decide)) (Eq.trans (congrArg (sA (sThr t) 29 0) (nn_io (p := 1) (by decide))) (Eq.trans rdAthr (z_A_29_0_1 e))) ?_
    refine x_aload_n (pc' := 1070) rfl rfl rfl rfl rfl ?_
    refine x_iload (pc' := 1072) rfl rfl rfl ?_
    refine x_iconst (pc' := 1073) rfl rfl ?_
    refine x_iadd (pc' := 1074) (z := 2) rfl rfl (by decide) ?_
    refine x_iald (pc' := 1075) (N := 7) (x := 3) rfl rfl rfl (Eq.trans rdNthr (z_N_29_0 e)) (io_in (p := 2) (N := 7) (by decide) (by decide)) (Eq.trans (congrArg (sA (sThr t) 29 0) (nn_io (p := 2) (by decide))) (Eq.trans rdAthr (Eq.trans (z_A_29_0_2 e) e1))) ?_
    refine x_aload_n (pc' := 1076) rfl rfl rfl rfl rfl ?_
    refine x_iload (pc' := 1078) rfl rfl rfl ?_
    refine x_iconst (pc' := 1079) rfl rfl ?_
    refine x_iadd (pc' := 1080) (z := 3) rfl rfl (by decide) ?_
    refine x_iald (pc' := 1081) (N := 7) (x := (xs 3)) rfl rfl rfl (Eq.trans rdNthr (z_N_29_0 e)) (io_in (p := 3) (N := 7) (by decide) (by decide)) (Eq.trans (congrArg (sA (sThr t) 29 0) (nn_io (p := 3) (by decide))) (Eq.trans rdAthr (z_A_29_0_3 e))) ?_
    have J6 : X 297 1089 [.inr (.inr (29, (some 0))), .inr (.inr (11, (some 0))), .inr (.inr (12, (some 0))), .inr (.inr (23, (some 0))), .inl 0, .inl 1, sJk] [.inl (bz (!(decide ((xs 3) = 0)))), .inl 3, .inl (xs 1), .inr (.inr (12, (some 0)))] (sThr t) Qp := by
      refine x_aload_n (pc' := 1090) rfl rfl rfl rfl rfl ?_
      refine x_iload (pc' := 1092) rfl rfl rfl ?_
      refine x_iconst (pc' := 1093) rfl rfl ?_
      refine x_iadd (pc' := 1094) (z := 4) rfl rfl (by decide) ?_
      refine x_iald (pc' := 1095) (N := 7) (x := (xs 4)) rfl rfl rfl (Eq.trans rdNthr (z_N_29_0 e)) (io_in (p := 4) (N := 7) (by decide) (by decide)) (Eq.trans (congrArg (sA (sThr t) 29 0) (nn_io (p := 4) (by decide))) (Eq.trans rdAthr (z_A_29_0_4 e))) ?_
      refine x_aload_n (pc' := 1096) rfl rfl rfl rfl rfl ?_
      refine x_iload (pc' := 1098) rfl rfl rfl ?_
      refine x_iconst (pc' := 1099) rfl rfl ?_
      refine x_iadd (pc' := 1100) (z := 5) rfl rfl (by decide) ?_
      refine x_iald (pc' := 1101) (N := 7) (x := (xs 5)) rfl rfl rfl (Eq.trans rdNthr (z_N_29_0 e)) (io_in (p := 5) (N := 7) (by decide) (by decide)) (Eq.trans (congrArg (sA (sThr t) 29 0) (nn_io (p := 5) (by decide))) (Eq.trans rdAthr (z_A_29_0_5 e))) ?_
      refine x_cv (ls0 := [_, _, _, _, _, _, sJk, sJk]) (rest := []) rfl rfl rfl rfl rfl ?_
      refine x_iload_n (pc' := 1) rfl rfl rfl ?_
      refine x_cs (ls0 := [_]) (rest := []) rfl rfl rfl rfl ?_
      refine x_iload_n (pc' := 1) rfl rfl rfl ?_
      refine x_iconst (pc' := 2) rfl rfl ?_
      refine x_iconst (pc' := 3) rfl rfl ?_
      refine x_cs (ls0 := [_, _, _]) (rest := []) rfl rfl rfl rfl ?_
      refine x_iload_n (pc' := 1) rfl rfl rfl ?_
      refine x_iload_n (pc' := 2) rfl rfl rfl ?_
      refine x_icmp (a' := 14) (pc' := 5) (z := false) rfl rfl rfl (by decide) (fun h => by cases h) (fun _ => ?_)
      refine x_iload_n (pc' := 6) rfl rfl rfl ?_
      refine x_iload_n (pc' := 7) rfl rfl rfl ?_
      refine x_icmp (a' := 14) (pc' := 10) (z := false) rfl rfl rfl (by decide) (fun h => by cases h) (fun _ => ?_)
      refine x_iconst (pc' := 11) rfl rfl ?_
      refine x_goto (pc' := 15) rfl rfl ?_
      refine x_retz (z := true) rfl rfl ?_
      refine sK_i (pc' := 6) rfl ?_
      refine x_retz (z := true) rfl rfl ?_
      refine sK_i (pc' := 4) rfl ?_
      refine x_if (a' := 31) (pc' := 7) (z := false) rfl rfl rfl (by decide) (fun h => by cases h) (fun _ => ?_)
      refine x_iload_n (pc' := 8) rfl rfl rfl ?_
      refine x_iload (pc' := 10) rfl rfl rfl ?_
      refine x_cs (ls0 := [_, _]) (rest := []) rfl rfl rfl rfl ?_
      refine x_iload_n (pc' := 1) rfl rfl rfl ?_
      refine x_iconst (pc' := 2) rfl rfl ?_
      refine x_icmp (a' := 16) (pc' := 5) (z := true) rfl rfl rfl (by decide) (fun _ => ?_) (fun h => by cases h)
      refine x_iload_n (pc' := 17) rfl rfl rfl ?_
      refine x_sipush (pc' := 20) rfl rfl ?_
      refine x_sipush (pc' := 23) rfl rfl ?_
      refine x_cs (ls0 := [_, _, _]) (rest := []) rfl rfl rfl rfl ?_
      refine x_iload_n (pc' := 1) rfl rfl rfl ?_
      refine x_iload_n (pc' := 2) rfl rfl rfl ?_
      have J13 : X 145 15 [.inl (xs 4), .inl (-500), .inl 500] [.inl (bz (!(decide ((xs 4) < (-500))) && (!(decide (500 < (xs 4))))))] (sThr t) (sK 145 150 23 [.inl 3, .inl (xs 4)] [] (sK 150 205 10 [.inr (.inr (12, (some 0))), .inl (xs 1), .inl 3, .inl (bz (!(decide ((xs 3) = 0)))), .inl (xs 4), .inl (xs 5), sJk, sJk] [] (sK 205 297 1101 [.inr (.inr (29, (some 0))), .inr (.inr (11, (some 0))), .inr (.inr (12, (some 0))), .inr (.inr (23, (some 0))), .inl 0, .inl 1, sJk] [] Qp))) := by
        refine x_retz (z := (!(decide ((xs 4) < (-500))) && (!(decide (500 < (xs 4)))))) rfl rfl ?_
        refine sK_i (pc' := 26) rfl ?_
        refine x_retz (z := (!(decide ((xs 4) < (-500))) && (!(decide (500 < (xs 4)))))) rfl rfl ?_
        refine sK_i (pc' := 13) rfl ?_
        have J19 : X 205 32 [.inr (.inr (12, (some 0))), .inl (xs 1), .inl 3, .inl (bz (!(decide ((xs 3) = 0)))), .inl (xs 4), .inl (xs 5), sJk, sJk] [.inl (bz ((!(decide ((xs 4) < (-500))) && (!(decide (500 < (xs 4))))) && (!(decide ((xs 5) < 1)) && (!(decide (100 < (xs 5)))))))] (sThr t) (sK 205 297 1101 [.inr (.inr (29, (some 0))), .inr (.inr (11, (some 0))), .inr (.inr (12, (some 0))), .inr (.inr (23, (some 0))), .inl 0, .inl 1, sJk] [] Qp) := by
          refine x_istore (pc' := 34) (ls' := [_, _, _, _, _, _, _, _]) rfl rfl rfl rfl ?_
          refine x_iload_n (pc' := 35) rfl rfl rfl ?_
          refine x_cs (ls0 := [_]) (rest := []) rfl rfl rfl rfl ?_
          refine x_iload_n (pc' := 1) rfl rfl rfl ?_
          refine x_iconst (pc' := 2) rfl rfl ?_
          refine x_iconst (pc' := 3) rfl rfl ?_
          refine x_cs (ls0 := [_, _, _]) (rest := []) rfl rfl rfl rfl ?_
          refine x_iload_n (pc' := 1) rfl rfl rfl ?_
          refine x_iload_n (pc' := 2) rfl rfl rfl ?_
          refine x_icmp (a' := 14) (pc' := 5) (z := false) rfl rfl rfl (by decide) (fun h => by cases h) (fun _ => ?_)
          refine x_iload_n (pc' := 6) rfl rfl rfl ?_
          refine x_iload_n (pc' := 7) rfl rfl rfl ?_
          refine x_icmp (a' := 14) (pc' := 10) (z := false) rfl rfl rfl (by decide) (fun h => by cases h) (fun _ => ?_)
          refine x_iconst (pc' := 11) rfl rfl ?_
          refine x_goto (pc' := 15) rfl rfl ?_
          refine x_retz (z := true) rfl rfl ?_
          refine sK_i (pc' := 6) rfl ?_
          refine x_retz (z := true) rfl rfl ?_
          refine sK_i (pc' := 38) rfl ?_
          refine x_if (a' := 65) (pc' := 41) (z := false) rfl rfl rfl (by decide) (fun h => by cases h) (fun _ => ?_)
          refine x_aload_n (pc' := 42) rfl rfl rfl rfl rfl ?_
          refine x_gR (pc' := 45) (r := (some 0)) rfl rfl rfl (Eq.trans rdRthr (z_R_769_0 e)) ?_
          refine x_iload_n (pc' := 46) rfl rfl rfl ?_
          refine x_iald (pc' := 47) (N := 5) (x := 0) rfl rfl rfl (Eq.trans rdNthr (z_N_21_0 e)) (io_in (p := 3) (N := 5) (by decide) (by decide)) (Eq.trans (congrArg (sA (sThr t) 21 0) (nn_io (p := 3) (by decide))) (Eq.trans rdAthr (z_A_21_0_3 e))) ?_
          refine x_iconst (pc' := 48) rfl rfl ?_
          refine x_icmp (a' := 65) (pc' := 51) (z := true) rfl rfl rfl (by decide) (fun _ => ?_) (fun h => by cases h)
          refine x_iconst (pc' := 66) rfl rfl ?_
          refine x_istore (pc' := 68) (ls' := [_, _, _, _, _, _, _, _]) rfl rfl rfl rfl ?_
          refine x_aload_n (pc' := 69) rfl rfl rfl rfl rfl ?_
          refine x_aload_n (pc' := 70) rfl rfl rfl rfl rfl ?_
          refine x_iload_n (pc' := 71) rfl rfl rfl ?_
          refine x_iload_n (pc' := 72) rfl rfl rfl ?_
          refine x_iload (pc' := 74) rfl rfl rfl ?_
          refine x_iload (pc' := 76) rfl rfl rfl ?_
          refine x_cv (ls0 := [_, _, _, _, _, sJk]) (rest := [_]) rfl rfl rfl rfl rfl ?_
          refine x_iload_n (pc' := 1) rfl rfl rfl ?_
          refine x_cs (ls0 := [_]) (rest := []) rfl rfl rfl rfl ?_
          refine x_iload_n (pc' := 1) rfl rfl rfl ?_
          refine x_iconst (pc' := 2) rfl rfl ?_
          refine x_iconst (pc' := 3) rfl rfl ?_
          refine x_cs (ls0 := [_, _, _]) (rest := []) rfl rfl rfl rfl ?_
          refine x_iload_n (pc' := 1) rfl rfl rfl ?_
          refine x_iload_n (pc' := 2) rfl rfl rfl ?_
          refine x_icmp (a' := 14) (pc' := 5) (z := decide ((xs 1) < 0)) rfl rfl rfl rfl (fun _ => ?_) (fun h => absurd e0 (of_decide_eq_false h))
          refine x_iconst (pc' := 15) rfl rfl ?_
          refine x_retz (z := false) rfl rfl ?_
          refine sK_i (pc' := 6) rfl ?_
          refine x_retz (z := false) rfl rfl ?_
          refine sK_i (pc' := 4) rfl ?_
          refine x_if (a' := 18) (pc' := 7) (z := true) rfl rfl rfl (by decide) (fun _ => ?_) (fun h => by cases h)
          refine x_iconst (pc' := 19) rfl rfl ?_
          refine x_istore (pc' := 21) (ls' := [_, _, _, _, _, _]) rfl rfl rfl rfl ?_
          refine x_iload (pc' := 23) rfl rfl rfl ?_
          refine x_if (a' := 30) (pc' := 26) (z := false) rfl rfl rfl (by decide) (fun h => by cases h) (fun _ => ?_)
          refine x_iconst (pc' := 27) rfl rfl ?_
          refine x_goto (pc' := 57) rfl rfl ?_
          refine x_reti rfl rfl ?_
          refine sK_i (pc' := 79) rfl ?_
          refine x_cv (ls0 := [_, _]) (rest := []) rfl rfl rfl rfl rfl ?_
          refine x_aload_n (pc' := 1) rfl rfl rfl rfl rfl ?_
          refine x_iload_n (pc' := 2) rfl rfl rfl ?_
          refine x_pI (pc' := 5) rfl rfl rfl ?_
          refine x_iload_n (pc' := 6) rfl rfl rfl ?_
          refine x_if (a' := 13) (pc' := 9) (z := true) rfl rfl rfl (by decide) (fun _ => ?_) (fun h => by cases h)
          refine x_iconst (pc' := 14) rfl rfl ?_
          refine x_retz (z := false) rfl rfl ?_
          refine sK_i (pc' := 82) rfl ?_
          refine x_if (a' := 102) (pc' := 85) (z := true) rfl rfl rfl (by decide) (fun _ => ?_) (fun h => by cases h)
          refine x_iconst (pc' := 103) rfl rfl ?_
          refine x_reti rfl rfl ?_
          refine sK_i (pc' := 1104) rfl ?_
          refine x_istore (pc' := 1106) (ls' := [_, _, _, _, _, _, _]) rfl rfl rfl rfl ?_
          refine x_aload_n (pc' := 1107) rfl rfl rfl rfl rfl ?_
          refine x_cv (ls0 := [_]) (rest := []) rfl rfl rfl rfl rfl ?_
          refine x_aload_n (pc' := 1) rfl rfl rfl rfl rfl ?_
          refine x_gI (pc' := 4) (x := 1) rfl rfl rfl sI_s ?_
          refine x_reti rfl rfl ?_
          refine sK_i (pc' := 1110) rfl ?_
          refine x_iload (pc' := 1112) rfl rfl rfl ?_
          refine x_icmp (a' := 1117) (pc' := 1115) (z := true) rfl rfl rfl (by decide) (fun _ => ?_) (fun h => by cases h)
          refine x_iload (pc' := 1119) rfl rfl rfl ?_
          refine x_if (a' := 1134) (pc' := 1122) (z := true) rfl rfl rfl (by decide) (fun _ => ?_) (fun h => by cases h)
          refine x_goto (pc' := 2938) rfl rfl ?_
          refine x_iinc (pc' := 2941) (y := 7) (ls' := [_, _, _, _, _, _, _]) rfl rfl rfl rfl rfl ?_
          refine x_goto (pc' := 23) rfl rfl ?_
          refine x_iload (pc' := 25) rfl rfl rfl ?_
          refine x_aload_n (pc' := 26) rfl rfl rfl rfl rfl ?_
          refine x_alen (pc' := 27) (N := 7) rfl rfl rfl (Eq.trans rdNI (Eq.trans rdNthr (z_N_29_0 e))) (?_ : X _ _ _ (.inl 7 :: _) _ _)
          refine x_bipush (pc' := 29) rfl rfl ?_
          refine x_isub (pc' := 30) (z := 0) rfl rfl (by decide) ?_
          refine x_icmp (a' := 2944) (pc' := 33) (z := true) rfl rfl rfl (by decide) (fun _ => ?_) (fun h => by cases h)
          refine x_iconst (pc' := 2945) rfl rfl ?_
          refine x_retz (z := true) rfl rfl ?_
          exact Qp_ok e (p := 1) (q := 6) rfl rfl rfl rfl
        refine x_ifeq_z (a' := 31) (pc' := 16) (z := (!(decide ((xs 4) < (-500))) && (!(decide (500 < (xs 4)))))) rfl rfl rfl (fun q15 => ?_) (fun q15 => ?_)
        · refine x_iconst (pc' := 32) rfl rfl ?_
          ((try rw [q15] at J19); (try rw [q15]); (try simp only [cd_t, cd_f, nt_t, nt_f, an_t, an_f, or_t, or_f] at J19); (try simp only [cd_t, cd_f, nt_t, nt_f, an_t, an_f, or_t, or_f]); exact J19)
        · refine x_iload (pc' := 18) rfl rfl rfl ?_
          refine x_iconst (pc' := 19) rfl rfl ?_
          refine x_bipush (pc' := 21) rfl rfl ?_
          refine x_cs (ls0 := [_, _, _]) (rest := []) rfl rfl rfl rfl ?_
          refine x_iload_n (pc' := 1) rfl rfl rfl ?_
          refine x_iload_n (pc' := 2) rfl rfl rfl ?_
          have J17 : X 145 15 [.inl (xs 5), .inl 1, .inl 100] [.inl (bz (!(decide ((xs 5) < 1)) && (!(decide (100 < (xs 5))))))] (sThr t) (sK 145 205 21 [.inr (.inr (12, (some 0))), .inl (xs 1), .inl 3, .inl (bz (!(decide ((xs 3) = 0)))), .inl (xs 4), .inl (xs 5), sJk, sJk] [] (sK 205 297 1101 [.inr (.inr (29, (some 0))), .inr (.inr (11, (some 0))), .inr (.inr (12, (some 0))), .inr (.inr (23, (some 0))), .inl 0, .inl 1, sJk] [] Qp)) := by
            refine x_retz (z := (!(decide ((xs 5) < 1)) && (!(decide (100 < (xs 5)))))) rfl rfl ?_
            refine sK_i (pc' := 24) rfl ?_
            refine x_ifeq_z (a' := 31) (pc' := 27) (z := (!(decide ((xs 5) < 1)) && (!(decide (100 < (xs 5)))))) rfl rfl rfl (fun q19 => ?_) (fun q19 => ?_)
            · refine x_iconst (pc' := 32) rfl rfl ?_
              ((try rw [q15] at J19); (try rw [q15]); (try rw [q19] at J19); (try rw [q19]); (try simp only [cd_t, cd_f, nt_t, nt_f, an_t, an_f, or_t, or_f] at J19); (try simp only [cd_t, cd_f, nt_t, nt_f, an_t, an_f, or_t, or_f]); exact J19)
            · refine x_iconst (pc' := 28) rfl rfl ?_
              refine x_goto (pc' := 32) rfl rfl ?_
              ((try rw [q15] at J19); (try rw [q15]); (try rw [q19] at J19); (try rw [q19]); (try simp only [cd_t, cd_f, nt_t, nt_f, an_t, an_f, or_t, or_f] at J19); (try simp only [cd_t, cd_f, nt_t, nt_f, an_t, an_f, or_t, or_f]); exact J19)
          refine x_icmp (a' := 14) (pc' := 5) (z := decide ((xs 5) < 1)) rfl rfl rfl rfl (fun q16 => ?_) (fun q16 => ?_)
          · refine x_iconst (pc' := 15) rfl rfl ?_
            ((try rw [q16] at J17); (try rw [q16]); (try simp only [cd_t, cd_f, nt_t, nt_f, an_t, an_f, or_t, or_f] at J17); (try simp only [cd_t, cd_f, nt_t, nt_f, an_t, an_f, or_t, or_f]); exact J17)
          · refine x_iload_n (pc' := 6) rfl rfl rfl ?_
            refine x_iload_n (pc' := 7) rfl rfl rfl ?_
            refine x_icmp (a' := 14) (pc' := 10) (z := decide (100 < (xs 5))) rfl rfl rfl rfl (fun q17 => ?_) (fun q17 => ?_)
            · refine x_iconst (pc' := 15) rfl rfl ?_
              ((try rw [q16] at J17); (try rw [q16]); (try rw [q17] at J17); (try rw [q17]); (try simp only [cd_t, cd_f, nt_t, nt_f, an_t, an_f, or_t, or_f] at J17); (try simp only [cd_t, cd_f, nt_t, nt_f, an_t, an_f, or_t, or_f]); exact J17)
            · refine x_iconst (pc' := 11) rfl rfl ?_
              refine x_goto (pc' := 15) rfl rfl ?_
              ((try rw [q16] at J17); (try rw [q16]); (try rw [q17] at J17); (try rw [q17]); (try simp only [cd_t, cd_f, nt_t, nt_f, an_t, an_f, or_t, or_f] at J17); (try simp only [cd_t, cd_f, nt_t, nt_f, an_t, an_f, or_t, or_f]); exact J17)
      refine x_icmp (a' := 14) (pc' := 5) (z := decide ((xs 4) < (-500))) rfl rfl rfl rfl (fun q12 => ?_) (fun q12 => ?_)
      · refine x_iconst (pc' := 15) rfl rfl ?_
        ((try rw [q12] at J13); (try rw [q12]); (try simp only [cd_t, cd_f, nt_t, nt_f, an_t, an_f, or_t, or_f] at J13); (try simp only [cd_t, cd_f, nt_t, nt_f, an_t, an_f, or_t, or_f]); exact J13)
      · refine x_iload_n (pc' := 6) rfl rfl rfl ?_
        refine x_iload_n (pc' := 7) rfl rfl rfl ?_
        refine x_icmp (a' := 14) (pc' := 10) (z := decide (500 < (xs 4))) rfl rfl rfl rfl (fun q13 => ?_) (fun q13 => ?_)
        · refine x_iconst (pc' := 15) rfl rfl ?_
          ((try rw [q12] at J13); (try rw [q12]); (try rw [q13] at J13); (try rw [q13]); (try simp only [cd_t, cd_f, nt_t, nt_f, an_t, an_f, or_t, or_f] at J13); (try simp only [cd_t, cd_f, nt_t, nt_f, an_t, an_f, or_t, or_f]); exact J13)
        · refine x_iconst (pc' := 11) rfl rfl ?_
          refine x_goto (pc' := 15) rfl rfl ?_
          ((try rw [q12] at J13); (try rw [q12]); (try rw [q13] at J13); (try rw [q13]); (try simp only [cd_t, cd_f, nt_t, nt_f, an_t, an_f, or_t, or_f] at J13); (try simp only [cd_t, cd_f, nt_t, nt_f, an_t, an_f, or_t, or_f]); exact J13)
    refine x_if (a' := 1088) (pc' := 1084) (z := decide ((xs 3) = 0)) rfl rfl rfl rfl (fun q6 => ?_) (fun q6 => ?_)
    · refine x_iconst (pc' := 1089) rfl rfl ?_
      ((try rw [q6] at J6); (try rw [q6]); (try simp only [cd_t, cd_f, nt_t, nt_f, an_t, an_f, or_t, or_f] at J6); (try simp only [cd_t, cd_f, nt_t, nt_f, an_t, an_f, or_t, or_f]); exact J6)
    · refine x_iconst (pc' := 1085) rfl rfl ?_
      refine x_goto (pc' := 1089) rfl rfl ?_
      ((try rw [q6] at J6); (try rw [q6]); (try simp only [cd_t, cd_f, nt_t, nt_f, an_t, an_f, or_t, or_f] at J6); (try simp only [cd_t, cd_f, nt_t, nt_f, an_t, an_f, or_t, or_f]); exact J6)
  refine x_if (a' := 1043) (pc' := 1039) (z := decide ((xs 3) = 0)) rfl rfl rfl rfl (fun q3 => ?_) (fun q3 => ?_)
  · refine x_iconst (pc' := 1044) rfl rfl ?_
    ((try rw [q3] at J3); (try rw [q3]); (try simp only [cd_t, cd_f, nt_t, nt_f, an_t, an_f, or_t, or_f] at J3); (try simp only [cd_t, cd_f, nt_t, nt_f, an_t, an_f, or_t, or_f]); exact J3)
  · refine x_iconst (pc' := 1040) rfl rfl ?_
    refine x_goto (pc' := 1044) rfl rfl ?_
    ((try rw [q3] at J3); (try rw [q3]); (try simp only [cd_t, cd_f, nt_t, nt_f, an_t, an_f, or_t, or_f] at J3); (try simp only [cd_t, cd_f, nt_t, nt_f, an_t, an_f, or_t, or_f]); exact J3)
set_option maxHeartbeats 4000000 in
set_option maxRecDepth 10000 in
theorem v_11_A_4_i_i_i {t : sT} {xs : Nat → Int32}
    (e : t = T16 7 xs)
    (hk : ((xs 0) &&& 63) = 11)
    (e0 : (xs 1) < 0)
    (e1 : xs 2 = 4) :
    X 297 23 [.inr (.inr (29, (some 0))), .inr (.inr (11, (some 0))), .inr (.inr (12, (some 0))), .inr (.inr (23, (some 0))), .inl 0, sJk, sJk] [] t Qp := by
  refine x_iload (pc' := 25) rfl rfl rfl ?_
  refine x_aload_n (pc' := 26) rfl rfl rfl rfl rfl ?_
  refine x_alen (pc' := 27) (N := 7) rfl rfl rfl (z_N_29_0 e) (?_ : X _ _ _ (.inl 7 :: _) _ _)
  refine x_bipush (pc' := 29) rfl rfl ?_
  refine x_isub (pc' := 30) (z := 0) rfl rfl (by decide) ?_
  refine x_icmp (a' := 2944) (pc' := 33) (z := false) rfl rfl rfl (by decide) (fun h => by cases h) (fun _ => ?_)
  refine x_aload_n (pc' := 34) rfl rfl rfl rfl rfl ?_
  refine x_iload (pc' := 36) rfl rfl rfl ?_
  refine x_iald (pc' := 37) (N := 7) (x := (xs 0)) rfl rfl rfl (z_N_29_0 e) (io_in (p := 0) (N := 7) (by decide) (by decide)) (Eq.trans (congrArg (sA t 29 0) (nn_io (p := 0) (by decide))) (z_A_29_0_0 e)) ?_
  refine x_bipush (pc' := 39) rfl rfl ?_
  refine x_iand (pc' := 40) (z := ((xs 0) &&& 63)) rfl rfl rfl ?_
  refine x_switch (pc' := 1017) rfl (by rw [hk]; decide) ?_
  refine x_aload_n (pc' := 1018) rfl rfl rfl rfl rfl ?_
  refine x_aload_n (pc' := 1019) rfl rfl rfl rfl rfl ?_
  refine x_iload (pc' := 1021) rfl rfl rfl ?_
  refine x_iconst (pc' := 1022) rfl rfl ?_
  refine x_iadd (pc' := 1023) (z := 1) rfl rfl (by decide) ?_
  refine x_iald (pc' := 1024) (N := 7) (x := (xs 1)) rfl rfl rfl (z_N_29_0 e) (io_in (p := 1) (N := 7) (by decide) (by decide)) (Eq.trans (congrArg (sA t 29 0) (nn_io (p := 1) (by decide))) (z_A_29_0_1 e)) ?_
  refine x_aload_n (pc' := 1025) rfl rfl rfl rfl rfl ?_
  refine x_iload (pc' := 1027) rfl rfl rfl ?_
  refine x_iconst (pc' := 1028) rfl rfl ?_
  refine x_iadd (pc' := 1029) (z := 2) rfl rfl (by decide) ?_
  refine x_iald (pc' := 1030) (N := 7) (x := 4) rfl rfl rfl (z_N_29_0 e) (io_in (p := 2) (N := 7) (by decide) (by decide)) (Eq.trans (congrArg (sA t 29 0) (nn_io (p := 2) (by decide))) (Eq.trans (z_A_29_0_2 e) e1)) ?_
  refine x_aload_n (pc' := 1031) rfl rfl rfl rfl rfl ?_
  refine x_iload (pc' := 1033) rfl rfl rfl ?_
  refine x_iconst (pc' := 1034) rfl rfl ?_
  refine x_iadd (pc' := 1035) (z := 3) rfl rfl (by decide) ?_
  refine x_iald (pc' := 1036) (N := 7) (x := (xs 3)) rfl rfl rfl (z_N_29_0 e) (io_in (p := 3) (N := 7) (by decide) (by decide)) (Eq.trans (congrArg (sA t 29 0) (nn_io (p := 3) (by decide))) (z_A_29_0_3 e)) ?_
  have J3 : X 297 1044 [.inr (.inr (29, (some 0))), .inr (.inr (11, (some 0))), .inr (.inr (12, (some 0))), .inr (.inr (23, (some 0))), .inl 0, sJk, sJk] [.inl (bz (!(decide ((xs 3) = 0)))), .inl 4, .inl (xs 1), .inr (.inr (11, (some 0)))] t Qp := by
    refine x_aload_n (pc' := 1045) rfl rfl rfl rfl rfl ?_
    refine x_iload (pc' := 1047) rfl rfl rfl ?_
    refine x_iconst (pc' := 1048) rfl rfl ?_
    refine x_iadd (pc' := 1049) (z := 4) rfl rfl (by decide) ?_
    refine x_iald (pc' := 1050) (N := 7) (x := (xs 4)) rfl rfl rfl (z_N_29_0 e) (io_in (p := 4) (N := 7) (by decide) (by decide)) (Eq.trans (congrArg (sA t 29 0) (nn_io (p := 4) (by decide))) (z_A_29_0_4 e)) ?_
    refine x_aload_n (pc' := 1051) rfl rfl rfl rfl rfl ?_
    refine x_iload (pc' := 1053) rfl rfl rfl ?_
    refine x_iconst (pc' := 1054) rfl rfl ?_
    refine x_iadd (pc' := 1055) (z := 5) rfl rfl (by decide) ?_
    refine x_iald (pc' := 1056) (N := 7) (x := (xs 5)) rfl rfl rfl (z_N_29_0 e) (io_in (p := 5) (N := 7) (by decide) (by decide)) (Eq.trans (congrArg (sA t 29 0) (nn_io (p := 5) (by decide))) (z_A_29_0_5 e)) ?_
    refine x_aload_n (pc' := 1057) rfl rfl rfl rfl rfl ?_
    refine x_cs (ls0 := [_, _, _, _, _, _, _, sJk]) (rest := []) rfl rfl rfl rfl ?_
    refine x_aload (pc' := 2) rfl rfl rfl rfl rfl ?_
    refine x_iconst (pc' := 3) rfl rfl ?_
    refine x_aload_n (pc' := 4) rfl rfl rfl rfl rfl ?_
    refine x_iload_n (pc' := 5) rfl rfl rfl ?_
    refine x_iload_n (pc' := 6) rfl rfl rfl ?_
    refine x_iload_n (pc' := 7) rfl rfl rfl ?_
    refine x_iload (pc' := 9) rfl rfl rfl ?_
    refine x_iload (pc' := 11) rfl rfl rfl ?_
    refine x_cv (ls0 := [_, _, _, _, _, _, sJk, sJk, sJk]) (rest := [_, _]) rfl rfl rfl rfl rfl ?_
    refine x_aload_n (pc' := 1) rfl rfl rfl rfl rfl ?_
    refine x_iload_n (pc' := 2) rfl rfl rfl ?_
    refine x_cv (ls0 := [_, _]) (rest := []) rfl rfl rfl rfl rfl ?_
    refine x_iload_n (pc' := 1) rfl rfl rfl ?_
    refine x_if (a' := 16) (pc' := 4) (z := decide ((xs 1) < 0)) rfl rfl rfl rfl (fun _ => ?_) (fun h => absurd e0 (of_decide_eq_false h))
    refine x_throw rfl rfl ?_
    refine sK_n (by decide +kernel) rfl ?_
    refine sK_h (h := 19) (by decide +kernel) rfl ?_
    refine x_catch (pc' := 21) (ls' := [_, _, _, _, _, _, _, _]) rfl rfl rfl rfl ?_
    refine x_iconst (pc' := 22) rfl rfl ?_
    refine x_reti rfl rfl ?_
    refine sK_i (pc' := 1060) rfl ?_
    refine x_istore (pc' := 1062) (ls' := [_, _, _, _, _, _, _]) rfl rfl rfl rfl ?_
    refine x_aload_n (pc' := 1063) rfl rfl rfl rfl rfl ?_
    refine x_aload_n (pc' := 1064) rfl rfl rfl rfl rfl ?_
    refine x_iload (pc' := 1066) rfl rfl rfl ?_
    refine x_iconst (pc' := 1067) rfl rfl ?_
    refine x_iadd (pc' := 1068) (z := 1) rfl rfl (by decide) ?_
    refine x_iald (pc' := 1069) (N := 7) (x := (xs 1)) rfl rfl rfl (Eq.trans rdNthr (z_N_29_0 e)) (io_in (p := 1) (N := 7) (by decide) (by decide)) (Eq.trans (congrArg (sA (sThr t) 29 0) (nn_io (p := 1) (by decide))) (Eq.trans rdAthr (z_A_29_0_1 e))) ?_
    refine x_aload_n (pc' := 1070) rfl rfl rfl rfl rfl ?_
    refine x_iload (pc' := 1072) rfl rfl rfl ?_
    refine x_iconst (pc' := 1073) rfl rfl ?_
    refine x_iadd (pc' := 1074) (z := 2) rfl rfl (by decide) ?_
    refine x_iald (pc' := 1075) (N := 7) (x := 4) rfl rfl rfl (Eq.trans rdNthr (z_N_29_0 e)) (io_in (p := 2) (N := 7) (by decide) (by decide)) (Eq.trans (congrArg (sA (sThr t) 29 0) (nn_io (p := 2) (by decide))) (Eq.trans rdAthr (Eq.trans (z_A_29_0_2 e) e1))) ?_
    refine x_aload_n (pc' := 1076) rfl rfl rfl rfl rfl ?_
    refine x_iload (pc' := 1078) rfl rfl rfl ?_
    refine x_iconst (pc' := 1079) rfl rfl ?_
    refine x_iadd (pc' := 1080) (z := 3) rfl rfl (by decide) ?_
    refine x_iald (pc' := 1081) (N := 7) (x := (xs 3)) rfl rfl rfl (Eq.trans rdNthr (z_N_29_0 e)) (io_in (p := 3) (N := 7) (by decide) (by decide)) (Eq.trans (congrArg (sA (sThr t) 29 0) (nn_io (p := 3) (by decide))) (Eq.trans rdAthr (z_A_29_0_3 e))) ?_
    have J6 : X 297 1089 [.inr (.inr (29, (some 0))), .inr (.inr (11, (some 0))), .inr (.inr (12, (some 0))), .inr (.inr (23, (some 0))), .inl 0, .inl 1, sJk] [.inl (bz (!(decide ((xs 3) = 0)))), .inl 4, .inl (xs 1), .inr (.inr (12, (some 0)))] (sThr t) Qp := by
      refine x_aload_n (pc' := 1090) rfl rfl rfl rfl rfl ?_
      refine x_iload (pc' := 1092) rfl rfl rfl ?_
      refine x_iconst (pc' := 1093) rfl rfl ?_
      refine x_iadd (pc' := 1094) (z := 4) rfl rfl (by decide) ?_
      refine x_iald (pc' := 1095) (N := 7) (x := (xs 4)) rfl rfl rfl (Eq.trans rdNthr (z_N_29_0 e)) (io_in (p := 4) (N := 7) (by decide) (by decide)) (Eq.trans (congrArg (sA (sThr t) 29 0) (nn_io (p := 4) (by decide))) (Eq.trans rdAthr (z_A_29_0_4 e))) ?_
      refine x_aload_n (pc' := 1096) rfl rfl rfl rfl rfl ?_
      refine x_iload (pc' := 1098) rfl rfl rfl ?_
      refine x_iconst (pc' := 1099) rfl rfl ?_
      refine x_iadd (pc' := 1100) (z := 5) rfl rfl (by decide) ?_
      refine x_iald (pc' := 1101) (N := 7) (x := (xs 5)) rfl rfl rfl (Eq.trans rdNthr (z_N_29_0 e)) (io_in (p := 5) (N := 7) (by decide) (by decide)) (Eq.trans (congrArg (sA (sThr t) 29 0) (nn_io (p := 5) (by decide))) (Eq.trans rdAthr (z_A_29_0_5 e))) ?_
      refine x_cv (ls0 := [_, _, _, _, _, _, sJk, sJk]) (rest := []) rfl rfl rfl rfl rfl ?_
      refine x_iload_n (pc' := 1) rfl rfl rfl ?_
      refine x_cs (ls0 := [_]) (rest := []) rfl rfl rfl rfl ?_
      refine x_iload_n (pc' := 1) rfl rfl rfl ?_
      refine x_iconst (pc' := 2) rfl rfl ?_
      refine x_iconst (pc' := 3) rfl rfl ?_
      refine x_cs (ls0 := [_, _, _]) (rest := []) rfl rfl rfl rfl ?_
      refine x_iload_n (pc' := 1) rfl rfl rfl ?_
      refine x_iload_n (pc' := 2) rfl rfl rfl ?_
      refine x_icmp (a' := 14) (pc' := 5) (z := false) rfl rfl rfl (by decide) (fun h => by cases h) (fun _ => ?_)
      refine x_iload_n (pc' := 6) rfl rfl rfl ?_
      refine x_iload_n (pc' := 7) rfl rfl rfl ?_
      refine x_icmp (a' := 14) (pc' := 10) (z := false) rfl rfl rfl (by decide) (fun h => by cases h) (fun _ => ?_)
      refine x_iconst (pc' := 11) rfl rfl ?_
      refine x_goto (pc' := 15) rfl rfl ?_
      refine x_retz (z := true) rfl rfl ?_
      refine sK_i (pc' := 6) rfl ?_
      refine x_retz (z := true) rfl rfl ?_
      refine sK_i (pc' := 4) rfl ?_
      refine x_if (a' := 31) (pc' := 7) (z := false) rfl rfl rfl (by decide) (fun h => by cases h) (fun _ => ?_)
      refine x_iload_n (pc' := 8) rfl rfl rfl ?_
      refine x_iload (pc' := 10) rfl rfl rfl ?_
      refine x_cs (ls0 := [_, _]) (rest := []) rfl rfl rfl rfl ?_
      refine x_iload_n (pc' := 1) rfl rfl rfl ?_
      refine x_iconst (pc' := 2) rfl rfl ?_
      refine x_icmp (a' := 16) (pc' := 5) (z := true) rfl rfl rfl (by decide) (fun _ => ?_) (fun h => by cases h)
      refine x_iload_n (pc' := 17) rfl rfl rfl ?_
      refine x_sipush (pc' := 20) rfl rfl ?_
      refine x_sipush (pc' := 23) rfl rfl ?_
      refine x_cs (ls0 := [_, _, _]) (rest := []) rfl rfl rfl rfl ?_
      refine x_iload_n (pc' := 1) rfl rfl rfl ?_
      refine x_iload_n (pc' := 2) rfl rfl rfl ?_
      have J13 : X 145 15 [.inl (xs 4), .inl (-500), .inl 500] [.inl (bz (!(decide ((xs 4) < (-500))) && (!(decide (500 < (xs 4))))))] (sThr t) (sK 145 150 23 [.inl 4, .inl (xs 4)] [] (sK 150 205 10 [.inr (.inr (12, (some 0))), .inl (xs 1), .inl 4, .inl (bz (!(decide ((xs 3) = 0)))), .inl (xs 4), .inl (xs 5), sJk, sJk] [] (sK 205 297 1101 [.inr (.inr (29, (some 0))), .inr (.inr (11, (some 0))), .inr (.inr (12, (some 0))), .inr (.inr (23, (some 0))), .inl 0, .inl 1, sJk] [] Qp))) := by
        refine x_retz (z := (!(decide ((xs 4) < (-500))) && (!(decide (500 < (xs 4)))))) rfl rfl ?_
        refine sK_i (pc' := 26) rfl ?_
        refine x_retz (z := (!(decide ((xs 4) < (-500))) && (!(decide (500 < (xs 4)))))) rfl rfl ?_
        refine sK_i (pc' := 13) rfl ?_
        have J19 : X 205 32 [.inr (.inr (12, (some 0))), .inl (xs 1), .inl 4, .inl (bz (!(decide ((xs 3) = 0)))), .inl (xs 4), .inl (xs 5), sJk, sJk] [.inl (bz ((!(decide ((xs 4) < (-500))) && (!(decide (500 < (xs 4))))) && (!(decide ((xs 5) < 1)) && (!(decide (100 < (xs 5)))))))] (sThr t) (sK 205 297 1101 [.inr (.inr (29, (some 0))), .inr (.inr (11, (some 0))), .inr (.inr (12, (some 0))), .inr (.inr (23, (some 0))), .inl 0, .inl 1, sJk] [] Qp) := by
          refine x_istore (pc' := 34) (ls' := [_, _, _, _, _, _, _, _]) rfl rfl rfl rfl ?_
          refine x_iload_n (pc' := 35) rfl rfl rfl ?_
          refine x_cs (ls0 := [_]) (rest := []) rfl rfl rfl rfl ?_
          refine x_iload_n (pc' := 1) rfl rfl rfl ?_
          refine x_iconst (pc' := 2) rfl rfl ?_
          refine x_iconst (pc' := 3) rfl rfl ?_
          refine x_cs (ls0 := [_, _, _]) (rest := []) rfl rfl rfl rfl ?_
          refine x_iload_n (pc' := 1) rfl rfl rfl ?_
          refine x_iload_n (pc' := 2) rfl rfl rfl ?_
          refine x_icmp (a' := 14) (pc' := 5) (z := false) rfl rfl rfl (by decide) (fun h => by cases h) (fun _ => ?_)
          refine x_iload_n (pc' := 6) rfl rfl rfl ?_
          refine x_iload_n (pc' := 7) rfl rfl rfl ?_
          refine x_icmp (a' := 14) (pc' := 10) (z := false) rfl rfl rfl (by decide) (fun h => by cases h) (fun _ => ?_)
          refine x_iconst (pc' := 11) rfl rfl ?_
          refine x_goto (pc' := 15) rfl rfl ?_
          refine x_retz (z := true) rfl rfl ?_
          refine sK_i (pc' := 6) rfl ?_
          refine x_retz (z := true) rfl rfl ?_
          refine sK_i (pc' := 38) rfl ?_
          refine x_if (a' := 65) (pc' := 41) (z := false) rfl rfl rfl (by decide) (fun h => by cases h) (fun _ => ?_)
          refine x_aload_n (pc' := 42) rfl rfl rfl rfl rfl ?_
          refine x_gR (pc' := 45) (r := (some 0)) rfl rfl rfl (Eq.trans rdRthr (z_R_769_0 e)) ?_
          refine x_iload_n (pc' := 46) rfl rfl rfl ?_
          refine x_iald (pc' := 47) (N := 5) (x := 0) rfl rfl rfl (Eq.trans rdNthr (z_N_21_0 e)) (io_in (p := 4) (N := 5) (by decide) (by decide)) (Eq.trans (congrArg (sA (sThr t) 21 0) (nn_io (p := 4) (by decide))) (Eq.trans rdAthr (z_A_21_0_4 e))) ?_
          refine x_iconst (pc' := 48) rfl rfl ?_
          refine x_icmp (a' := 65) (pc' := 51) (z := true) rfl rfl rfl (by decide) (fun _ => ?_) (fun h => by cases h)
          refine x_iconst (pc' := 66) rfl rfl ?_
          refine x_istore (pc' := 68) (ls' := [_, _, _, _, _, _, _, _]) rfl rfl rfl rfl ?_
          refine x_aload_n (pc' := 69) rfl rfl rfl rfl rfl ?_
          refine x_aload_n (pc' := 70) rfl rfl rfl rfl rfl ?_
          refine x_iload_n (pc' := 71) rfl rfl rfl ?_
          refine x_iload_n (pc' := 72) rfl rfl rfl ?_
          refine x_iload (pc' := 74) rfl rfl rfl ?_
          refine x_iload (pc' := 76) rfl rfl rfl ?_
          refine x_cv (ls0 := [_, _, _, _, _, sJk]) (rest := [_]) rfl rfl rfl rfl rfl ?_
          refine x_iload_n (pc' := 1) rfl rfl rfl ?_
          refine x_cs (ls0 := [_]) (rest := []) rfl rfl rfl rfl ?_
          refine x_iload_n (pc' := 1) rfl rfl rfl ?_
          refine x_iconst (pc' := 2) rfl rfl ?_
          refine x_iconst (pc' := 3) rfl rfl ?_
          refine x_cs (ls0 := [_, _, _]) (rest := []) rfl rfl rfl rfl ?_
          refine x_iload_n (pc' := 1) rfl rfl rfl ?_
          refine x_iload_n (pc' := 2) rfl rfl rfl ?_
          refine x_icmp (a' := 14) (pc' := 5) (z := decide ((xs 1) < 0)) rfl rfl rfl rfl (fun _ => ?_) (fun h => absurd e0 (of_decide_eq_false h))
          refine x_iconst (pc' := 15) rfl rfl ?_
          refine x_retz (z := false) rfl rfl ?_
          refine sK_i (pc' := 6) rfl ?_
          refine x_retz (z := false) rfl rfl ?_
          refine sK_i (pc' := 4) rfl ?_
          refine x_if (a' := 18) (pc' := 7) (z := true) rfl rfl rfl (by decide) (fun _ => ?_) (fun h => by cases h)
          refine x_iconst (pc' := 19) rfl rfl ?_
          refine x_istore (pc' := 21) (ls' := [_, _, _, _, _, _]) rfl rfl rfl rfl ?_
          refine x_iload (pc' := 23) rfl rfl rfl ?_
          refine x_if (a' := 30) (pc' := 26) (z := false) rfl rfl rfl (by decide) (fun h => by cases h) (fun _ => ?_)
          refine x_iconst (pc' := 27) rfl rfl ?_
          refine x_goto (pc' := 57) rfl rfl ?_
          refine x_reti rfl rfl ?_
          refine sK_i (pc' := 79) rfl ?_
          refine x_cv (ls0 := [_, _]) (rest := []) rfl rfl rfl rfl rfl ?_
          refine x_aload_n (pc' := 1) rfl rfl rfl rfl rfl ?_
          refine x_iload_n (pc' := 2) rfl rfl rfl ?_
          refine x_pI (pc' := 5) rfl rfl rfl ?_
          refine x_iload_n (pc' := 6) rfl rfl rfl ?_
          refine x_if (a' := 13) (pc' := 9) (z := true) rfl rfl rfl (by decide) (fun _ => ?_) (fun h => by cases h)
          refine x_iconst (pc' := 14) rfl rfl ?_
          refine x_retz (z := false) rfl rfl ?_
          refine sK_i (pc' := 82) rfl ?_
          refine x_if (a' := 102) (pc' := 85) (z := true) rfl rfl rfl (by decide) (fun _ => ?_) (fun h => by cases h)
          refine x_iconst (pc' := 103) rfl rfl ?_
          refine x_reti rfl rfl ?_
          refine sK_i (pc' := 1104) rfl ?_
          refine x_istore (pc' := 1106) (ls' := [_, _, _, _, _, _, _]) rfl rfl rfl rfl ?_
          refine x_aload_n (pc' := 1107) rfl rfl rfl rfl rfl ?_
          refine x_cv (ls0 := [_]) (rest := []) rfl rfl rfl rfl rfl ?_
          refine x_aload_n (pc' := 1) rfl rfl rfl rfl rfl ?_
          refine x_gI (pc' := 4) (x := 1) rfl rfl rfl sI_s ?_
          refine x_reti rfl rfl ?_
          refine sK_i (pc' := 1110) rfl ?_
          refine x_iload (pc' := 1112) rfl rfl rfl ?_
          refine x_icmp (a' := 1117) (pc' := 1115) (z := true) rfl rfl rfl (by decide) (fun _ => ?_) (fun h => by cases h)
          refine x_iload (pc' := 1119) rfl rfl rfl ?_
          refine x_if (a' := 1134) (pc' := 1122) (z := true) rfl rfl rfl (by decide) (fun _ => ?_) (fun h => by cases h)
          refine x_goto (pc' := 2938) rfl rfl ?_
          refine x_iinc (pc' := 2941) (y := 7) (ls' := [_, _, _, _, _, _, _]) rfl rfl rfl rfl rfl ?_
          refine x_goto (pc' := 23) rfl rfl ?_
          refine x_iload (pc' := 25) rfl rfl rfl ?_
          refine x_aload_n (pc' := 26) rfl rfl rfl rfl rfl ?_
          refine x_alen (pc' := 27) (N := 7) rfl rfl rfl (Eq.trans rdNI (Eq.trans rdNthr (z_N_29_0 e))) (?_ : X _ _ _ (.inl 7 :: _) _ _)
          refine x_bipush (pc' := 29) rfl rfl ?_
          refine x_isub (pc' := 30) (z := 0) rfl rfl (by decide) ?_
          refine x_icmp (a' := 2944) (pc' := 33) (z := true) rfl rfl rfl (by decide) (fun _ => ?_) (fun h => by cases h)
          refine x_iconst (pc' := 2945) rfl rfl ?_
          refine x_retz (z := true) rfl rfl ?_
          exact Qp_ok e (p := 1) (q := 6) rfl rfl rfl rfl
        refine x_ifeq_z (a' := 31) (pc' := 16) (z := (!(decide ((xs 4) < (-500))) && (!(decide (500 < (xs 4)))))) rfl rfl rfl (fun q15 => ?_) (fun q15 => ?_)
        · refine x_iconst (pc' := 32) rfl rfl ?_
          ((try rw [q15] at J19); (try rw [q15]); (try simp only [cd_t, cd_f, nt_t, nt_f, an_t, an_f, or_t, or_f] at J19); (try simp only [cd_t, cd_f, nt_t, nt_f, an_t, an_f, or_t, or_f]); exact J19)
        · refine x_iload (pc' := 18) rfl rfl rfl ?_
          refine x_iconst (pc' := 19) rfl rfl ?_
          refine x_bipush (pc' := 21) rfl rfl ?_
          refine x_cs (ls0 := [_, _, _]) (rest := []) rfl rfl rfl rfl ?_
          refine x_iload_n (pc' := 1) rfl rfl rfl ?_
          refine x_iload_n (pc' := 2) rfl rfl rfl ?_
          have J17 : X 145 15 [.inl (xs 5), .inl 1, .inl 100] [.inl (bz (!(decide ((xs 5) < 1)) && (!(decide (100 < (xs 5))))))] (sThr t) (sK 145 205 21 [.inr (.inr (12, (some 0))), .inl (xs 1), .inl 4, .inl (bz (!(decide ((xs 3) = 0)))), .inl (xs 4), .inl (xs 5), sJk, sJk] [] (sK 205 297 1101 [.inr (.inr (29, (some 0))), .inr (.inr (11, (some 0))), .inr (.inr (12, (some 0))), .inr (.inr (23, (some 0))), .inl 0, .inl 1, sJk] [] Qp)) := by
            refine x_retz (z := (!(decide ((xs 5) < 1)) && (!(decide (100 < (xs 5)))))) rfl rfl ?_
            refine sK_i (pc' := 24) rfl ?_
            refine x_ifeq_z (a' := 31) (pc' := 27) (z := (!(decide ((xs 5) < 1)) && (!(decide (100 < (xs 5)))))) rfl rfl rfl (fun q19 => ?_) (fun q19 => ?_)
            · refine x_iconst (pc' := 32) rfl rfl ?_
              ((try rw [q15] at J19); (try rw [q15]); (try rw [q19] at J19); (try rw [q19]); (try simp only [cd_t, cd_f, nt_t, nt_f, an_t, an_f, or_t, or_f] at J19); (try simp only [cd_t, cd_f, nt_t, nt_f, an_t, an_f, or_t, or_f]); exact J19)
            · refine x_iconst (pc' := 28) rfl rfl ?_
              refine x_goto (pc' := 32) rfl rfl ?_
              ((try rw [q15] at J19); (try rw [q15]); (try rw [q19] at J19); (try rw [q19]); (try simp only [cd_t, cd_f, nt_t, nt_f, an_t, an_f, or_t, or_f] at J19); (try simp only [cd_t, cd_f, nt_t, nt_f, an_t, an_f, or_t, or_f]); exact J19)
          refine x_icmp (a' := 14) (pc' := 5) (z := decide ((xs 5) < 1)) rfl rfl rfl rfl (fun q16 => ?_) (fun q16 => ?_)
          · refine x_iconst (pc' := 15) rfl rfl ?_
            ((try rw [q16] at J17); (try rw [q16]); (try simp only [cd_t, cd_f, nt_t, nt_f, an_t, an_f, or_t, or_f] at J17); (try simp only [cd_t, cd_f, nt_t, nt_f, an_t, an_f, or_t, or_f]); exact J17)
          · refine x_iload_n (pc' := 6) rfl rfl rfl ?_
            refine x_iload_n (pc' := 7) rfl rfl rfl ?_
            refine x_icmp (a' := 14) (pc' := 10) (z := decide (100 < (xs 5))) rfl rfl rfl rfl (fun q17 => ?_) (fun q17 => ?_)
            · refine x_iconst (pc' := 15) rfl rfl ?_
              ((try rw [q16] at J17); (try rw [q16]); (try rw [q17] at J17); (try rw [q17]); (try simp only [cd_t, cd_f, nt_t, nt_f, an_t, an_f, or_t, or_f] at J17); (try simp only [cd_t, cd_f, nt_t, nt_f, an_t, an_f, or_t, or_f]); exact J17)
            · refine x_iconst (pc' := 11) rfl rfl ?_
              refine x_goto (pc' := 15) rfl rfl ?_
              ((try rw [q16] at J17); (try rw [q16]); (try rw [q17] at J17); (try rw [q17]); (try simp only [cd_t, cd_f, nt_t, nt_f, an_t, an_f, or_t, or_f] at J17); (try simp only [cd_t, cd_f, nt_t, nt_f, an_t, an_f, or_t, or_f]); exact J17)
      refine x_icmp (a' := 14) (pc' := 5) (z := decide ((xs 4) < (-500))) rfl rfl rfl rfl (fun q12 => ?_) (fun q12 => ?_)
      · refine x_iconst (pc' := 15) rfl rfl ?_
        ((try rw [q12] at J13); (try rw [q12]); (try simp only [cd_t, cd_f, nt_t, nt_f, an_t, an_f, or_t, or_f] at J13); (try simp only [cd_t, cd_f, nt_t, nt_f, an_t, an_f, or_t, or_f]); exact J13)
      · refine x_iload_n (pc' := 6) rfl rfl rfl ?_
        refine x_iload_n (pc' := 7) rfl rfl rfl ?_
        refine x_icmp (a' := 14) (pc' := 10) (z := decide (500 < (xs 4))) rfl rfl rfl rfl (fun q13 => ?_) (fun q13 => ?_)
        · refine x_iconst (pc' := 15) rfl rfl ?_
          ((try rw [q12] at J13); (try rw [q12]); (try rw [q13] at J13); (try rw [q13]); (try simp only [cd_t, cd_f, nt_t, nt_f, an_t, an_f, or_t, or_f] at J13); (try simp only [cd_t, cd_f, nt_t, nt_f, an_t, an_f, or_t, or_f]); exact J13)
        · refine x_iconst (pc' := 11) rfl rfl ?_
          refine x_goto (pc' := 15) rfl rfl ?_
          ((try rw [q12] at J13); (try rw [q12]); (try rw [q13] at J13); (try rw [q13]); (try simp only [cd_t, cd_f, nt_t, nt_f, an_t, an_f, or_t, or_f] at J13); (try simp only [cd_t, cd_f, nt_t, nt_f, an_t, an_f, or_t, or_f]); exact J13)
    refine x_if (a' := 1088) (pc' := 1084) (z := decide ((xs 3) = 0)) rfl rfl rfl rfl (fun q6 => ?_) (fun q6 => ?_)
    · refine x_iconst (pc' := 1089) rfl rfl ?_
      ((try rw [q6] at J6); (try rw [q6]); (try simp only [cd_t, cd_f, nt_t, nt_f, an_t, an_f, or_t, or_f] at J6); (try simp only [cd_t, cd_f, nt_t, nt_f, an_t, an_f, or_t, or_f]); exact J6)
    · refine x_iconst (pc' := 1085) rfl rfl ?_
      refine x_goto (pc' := 1089) rfl rfl ?_
      ((try rw [q6] at J6); (try rw [q6]); (try simp only [cd_t, cd_f, nt_t, nt_f, an_t, an_f, or_t, or_f] at J6); (try simp only [cd_t, cd_f, nt_t, nt_f, an_t, an_f, or_t, or_f]); exact J6)
  refine x_if (a' := 1043) (pc' := 1039) (z := decide ((xs 3) = 0)) rfl rfl rfl rfl (fun q3 => ?_) (fun q3 => ?_)
  · refine x_iconst (pc' := 1044) rfl rfl ?_
    ((try rw [q3] at J3); (try rw [q3]); (try simp only [cd_t, cd_f, nt_t, nt_f, an_t, an_f, or_t, or_f] at J3); (try simp only [cd_t, cd_f, nt_t, nt_f, an_t, an_f, or_t, or_f]); exact J3)
  · refine x_iconst (pc' := 1040) rfl rfl ?_
    refine x_goto (pc' := 1044) rfl rfl ?_
    ((try rw [q3] at J3); (try rw [q3]); (try simp only [cd_t, cd_f, nt_t, nt_f, an_t, an_f, or_t, or_f] at J3); (try simp only [cd_t, cd_f, nt_t, nt_f, an_t, an_f, or_t, or_f]); exact J3)
set_option maxHeartbeats 4000000 in
set_option maxRecDepth 10000 in
theorem v_11_A_A_i_i_i {t : sT} {xs : Nat → Int32}
    (e : t = T16 7 xs)
    (hk : ((xs 0) &&& 63) = 11)
    (e0 : (xs 1) < 0)
    (e1 : (xs 2) < 0) :
    X 297 23 [.inr (.inr (29, (some 0))), .inr (.inr (11, (some 0))), .inr (.inr (12, (some 0))), .inr (.inr (23, (some 0))), .inl 0, sJk, sJk] [] t Qp := by
  refine x_iload (pc' := 25) rfl rfl rfl ?_
  refine x_aload_n (pc' := 26) rfl rfl rfl rfl rfl ?_
  refine x_alen (pc' := 27) (N := 7) rfl rfl rfl (z_N_29_0 e) (?_ : X _ _ _ (.inl 7 :: _) _ _)
  refine x_bipush (pc' := 29) rfl rfl ?_
  refine x_isub (pc' := 30) (z := 0) rfl rfl (by decide) ?_
  refine x_icmp (a' := 2944) (pc' := 33) (z := false) rfl rfl rfl (by decide) (fun h => by cases h) (fun _ => ?_)
  refine x_aload_n (pc' := 34) rfl rfl rfl rfl rfl ?_
  refine x_iload (pc' := 36) rfl rfl rfl ?_
  refine x_iald (pc' := 37) (N := 7) (x := (xs 0)) rfl rfl rfl (z_N_29_0 e) (io_in (p := 0) (N := 7) (by decide) (by decide)) (Eq.trans (congrArg (sA t 29 0) (nn_io (p := 0) (by decide))) (z_A_29_0_0 e)) ?_
  refine x_bipush (pc' := 39) rfl rfl ?_
  refine x_iand (pc' := 40) (z := ((xs 0) &&& 63)) rfl rfl rfl ?_
  refine x_switch (pc' := 1017) rfl (by rw [hk]; decide) ?_
  refine x_aload_n (pc' := 1018) rfl rfl rfl rfl rfl ?_
  refine x_aload_n (pc' := 1019) rfl rfl rfl rfl rfl ?_
  refine x_iload (pc' := 1021) rfl rfl rfl ?_
  refine x_iconst (pc' := 1022) rfl rfl ?_
  refine x_iadd (pc' := 1023) (z := 1) rfl rfl (by decide) ?_
  refine x_iald (pc' := 1024) (N := 7) (x := (xs 1)) rfl rfl rfl (z_N_29_0 e) (io_in (p := 1) (N := 7) (by decide) (by decide)) (Eq.trans (congrArg (sA t 29 0) (nn_io (p := 1) (by decide))) (z_A_29_0_1 e)) ?_
  refine x_aload_n (pc' := 1025) rfl rfl rfl rfl rfl ?_
  refine x_iload (pc' := 1027) rfl rfl rfl ?_
  refine x_iconst (pc' := 1028) rfl rfl ?_
  refine x_iadd (pc' := 1029) (z := 2) rfl rfl (by decide) ?_
  refine x_iald (pc' := 1030) (N := 7) (x := (xs 2)) rfl rfl rfl (z_N_29_0 e) (io_in (p := 2) (N := 7) (by decide) (by decide)) (Eq.trans (congrArg (sA t 29 0) (nn_io (p := 2) (by decide))) (z_A_29_0_2 e)) ?_
  refine x_aload_n (pc' := 1031) rfl rfl rfl rfl rfl ?_
  refine x_iload (pc' := 1033) rfl rfl rfl ?_
  refine x_iconst (pc' := 1034) rfl rfl ?_
  refine x_iadd (pc' := 1035) (z := 3) rfl rfl (by decide) ?_
  refine x_iald (pc' := 1036) (N := 7) (x := (xs 3)) rfl rfl rfl (z_N_29_0 e) (io_in (p := 3) (N := 7) (by decide) (by decide)) (Eq.trans (congrArg (sA t 29 0) (nn_io (p := 3) (by decide))) (z_A_29_0_3 e)) ?_
  have J3 : X 297 1044 [.inr (.inr (29, (some 0))), .inr (.inr (11, (some 0))), .inr (.inr (12, (some 0))), .inr (.inr (23, (some 0))), .inl 0, sJk, sJk] [.inl (bz (!(decide ((xs 3) = 0)))), .inl (xs 2), .inl (xs 1), .inr (.inr (11, (some 0)))] t Qp := by
    refine x_aload_n (pc' := 1045) rfl rfl rfl rfl rfl ?_
    refine x_iload (pc' := 1047) rfl rfl rfl ?_
    refine x_iconst (pc' := 1048) rfl rfl ?_
    refine x_iadd (pc' := 1049) (z := 4) rfl rfl (by decide) ?_
    refine x_iald (pc' := 1050) (N := 7) (x := (xs 4)) rfl rfl rfl (z_N_29_0 e) (io_in (p := 4) (N := 7) (by decide) (by decide)) (Eq.trans (congrArg (sA t 29 0) (nn_io (p := 4) (by decide))) (z_A_29_0_4 e)) ?_
    refine x_aload_n (pc' := 1051) rfl rfl rfl rfl rfl ?_
    refine x_iload (pc' := 1053) rfl rfl rfl ?_
    refine x_iconst (pc' := 1054) rfl rfl ?_
    refine x_iadd (pc' := 1055) (z := 5) rfl rfl (by decide) ?_
    refine x_iald (pc' := 1056) (N := 7) (x := (xs 5)) rfl rfl rfl (z_N_29_0 e) (io_in (p := 5) (N := 7) (by decide) (by decide)) (Eq.trans (congrArg (sA t 29 0) (nn_io (p := 5) (by decide))) (z_A_29_0_5 e)) ?_
    refine x_aload_n (pc' := 1057) rfl rfl rfl rfl rfl ?_
    refine x_cs (ls0 := [_, _, _, _, _, _, _, sJk]) (rest := []) rfl rfl rfl rfl ?_
    refine x_aload (pc' := 2) rfl rfl rfl rfl rfl ?_
    refine x_iconst (pc' := 3) rfl rfl ?_
    refine x_aload_n (pc' := 4) rfl rfl rfl rfl rfl ?_
    refine x_iload_n (pc' := 5) rfl rfl rfl ?_
    refine x_iload_n (pc' := 6) rfl rfl rfl ?_
    refine x_iload_n (pc' := 7) rfl rfl rfl ?_
    refine x_iload (pc' := 9) rfl rfl rfl ?_
    refine x_iload (pc' := 11) rfl rfl rfl ?_
    refine x_cv (ls0 := [_, _, _, _, _, _, sJk, sJk, sJk]) (rest := [_, _]) rfl rfl rfl rfl rfl ?_
    refine x_aload_n (pc' := 1) rfl rfl rfl rfl rfl ?_
    refine x_iload_n (pc' := 2) rfl rfl rfl ?_
    refine x_cv (ls0 := [_, _]) (rest := []) rfl rfl rfl rfl rfl ?_
    refine x_iload_n (pc' := 1) rfl rfl rfl ?_
    refine x_if (a' := 16) (pc' := 4) (z := decide ((xs 1) < 0)) rfl rfl rfl rfl (fun _ => ?_) (fun h => absurd e0 (of_decide_eq_false h))
    refine x_throw rfl rfl ?_
    refine sK_n (by decide +kernel) rfl ?_
    refine sK_h (h := 19) (by decide +kernel) rfl ?_
    refine x_catch (pc' := 21) (ls' := [_, _, _, _, _, _, _, _]) rfl rfl rfl rfl ?_
    refine x_iconst (pc' := 22) rfl rfl ?_
    refine x_reti rfl rfl ?_
    refine sK_i (pc' := 1060) rfl ?_
    refine x_istore (pc' := 1062) (ls' := [_, _, _, _, _, _, _]) rfl rfl rfl rfl ?_
    refine x_aload_n (pc' := 1063) rfl rfl rfl rfl rfl ?_
    refine x_aload_n (pc' := 1064) rfl rfl rfl rfl rfl ?_
    refine x_iload (pc' := 1066) rfl rfl rfl ?_
    refine x_iconst (pc' := 1067) rfl rfl ?_
    refine x_iadd (pc' := 1068) (z := 1) rfl rfl (by decide) ?_
    refine x_iald (pc' := 1069) (N := 7) (x := (xs 1)) rfl rfl rfl (Eq.trans rdNthr (z_N_29_0 e)) (io_in (p := 1) (N := 7) (by decide) (by decide)) (Eq.trans (congrArg (sA (sThr t) 29 0) (nn_io (p := 1) (by decide))) (Eq.trans rdAthr (z_A_29_0_1 e))) ?_
    refine x_aload_n (pc' := 1070) rfl rfl rfl rfl rfl ?_
    refine x_iload (pc' := 1072) rfl rfl rfl ?_
    refine x_iconst (pc' := 1073) rfl rfl ?_
    refine x_iadd (pc' := 1074) (z := 2) rfl rfl (by decide) ?_
    refine x_iald (pc' := 1075) (N := 7) (x := (xs 2)) rfl rfl rfl (Eq.trans rdNthr (z_N_29_0 e)) (io_in (p := 2) (N := 7) (by decide) (by decide)) (Eq.trans (congrArg (sA (sThr t) 29 0) (nn_io (p := 2) (by decide))) (Eq.trans rdAthr (z_A_29_0_2 e))) ?_
    refine x_aload_n (pc' := 1076) rfl rfl rfl rfl rfl ?_
    refine x_iload (pc' := 1078) rfl rfl rfl ?_
    refine x_iconst (pc' := 1079) rfl rfl ?_
    refine x_iadd (pc' := 1080) (z := 3) rfl rfl (by decide) ?_
    refine x_iald (pc' := 1081) (N := 7) (x := (xs 3)) rfl rfl rfl (Eq.trans rdNthr (z_N_29_0 e)) (io_in (p := 3) (N := 7) (by decide) (by decide)) (Eq.trans (congrArg (sA (sThr t) 29 0) (nn_io (p := 3) (by decide))) (Eq.trans rdAthr (z_A_29_0_3 e))) ?_
    have J6 : X 297 1089 [.inr (.inr (29, (some 0))), .inr (.inr (11, (some 0))), .inr (.inr (12, (some 0))), .inr (.inr (23, (some 0))), .inl 0, .inl 1, sJk] [.inl (bz (!(decide ((xs 3) = 0)))), .inl (xs 2), .inl (xs 1), .inr (.inr (12, (some 0)))] (sThr t) Qp := by
      refine x_aload_n (pc' := 1090) rfl rfl rfl rfl rfl ?_
      refine x_iload (pc' := 1092) rfl rfl rfl ?_
      refine x_iconst (pc' := 1093) rfl rfl ?_
      refine x_iadd (pc' := 1094) (z := 4) rfl rfl (by decide) ?_
      refine x_iald (pc' := 1095) (N := 7) (x := (xs 4)) rfl rfl rfl (Eq.trans rdNthr (z_N_29_0 e)) (io_in (p := 4) (N := 7) (by decide) (by decide)) (Eq.trans (congrArg (sA (sThr t) 29 0) (nn_io (p := 4) (by decide))) (Eq.trans rdAthr (z_A_29_0_4 e))) ?_
      refine x_aload_n (pc' := 1096) rfl rfl rfl rfl rfl ?_
      refine x_iload (pc' := 1098) rfl rfl rfl ?_
      refine x_iconst (pc' := 1099) rfl rfl ?_
      refine x_iadd (pc' := 1100) (z := 5) rfl rfl (by decide) ?_
      refine x_iald (pc' := 1101) (N := 7) (x := (xs 5)) rfl rfl rfl (Eq.trans rdNthr (z_N_29_0 e)) (io_in (p := 5) (N := 7) (by decide) (by decide)) (Eq.trans (congrArg (sA (sThr t) 29 0) (nn_io (p := 5) (by decide))) (Eq.trans rdAthr (z_A_29_0_5 e))) ?_
      refine x_cv (ls0 := [_, _, _, _, _, _, sJk, sJk]) (rest := []) rfl rfl rfl rfl rfl ?_
      refine x_iload_n (pc' := 1) rfl rfl rfl ?_
      refine x_cs (ls0 := [_]) (rest := []) rfl rfl rfl rfl ?_
      refine x_iload_n (pc' := 1) rfl rfl rfl ?_
      refine x_iconst (pc' := 2) rfl rfl ?_
      refine x_iconst (pc' := 3) rfl rfl ?_
      refine x_cs (ls0 := [_, _, _]) (rest := []) rfl rfl rfl rfl ?_
      refine x_iload_n (pc' := 1) rfl rfl rfl ?_
      refine x_iload_n (pc' := 2) rfl rfl rfl ?_
      refine x_icmp (a' := 14) (pc' := 5) (z := decide ((xs 2) < 0)) rfl rfl rfl rfl (fun _ => ?_) (fun h => absurd e1 (of_decide_eq_false h))
      refine x_iconst (pc' := 15) rfl rfl ?_
      refine x_retz (z := false) rfl rfl ?_
      refine sK_i (pc' := 6) rfl ?_
      refine x_retz (z := false) rfl rfl ?_
      refine sK_i (pc' := 4) rfl ?_
      refine x_if (a' := 31) (pc' := 7) (z := true) rfl rfl rfl (by decide) (fun _ => ?_) (fun h => by cases h)
      refine x_iconst (pc' := 32) rfl rfl ?_
      refine x_istore (pc' := 34) (ls' := [_, _, _, _, _, _, _, _]) rfl rfl rfl rfl ?_
      refine x_iload_n (pc' := 35) rfl rfl rfl ?_
      refine x_cs (ls0 := [_]) (rest := []) rfl rfl rfl rfl ?_
      refine x_iload_n (pc' := 1) rfl rfl rfl ?_
      refine x_iconst (pc' := 2) rfl rfl ?_
      refine x_iconst (pc' := 3) rfl rfl ?_
      refine x_cs (ls0 := [_, _, _]) (rest := []) rfl rfl rfl rfl ?_
      refine x_iload_n (pc' := 1) rfl rfl rfl ?_
      refine x_iload_n (pc' := 2) rfl rfl rfl ?_
      refine x_icmp (a' := 14) (pc' := 5) (z := decide ((xs 2) < 0)) rfl rfl rfl rfl (fun _ => ?_) (fun h => absurd e1 (of_decide_eq_false h))
      refine x_iconst (pc' := 15) rfl rfl ?_
      refine x_retz (z := false) rfl rfl ?_
      refine sK_i (pc' := 6) rfl ?_
      refine x_retz (z := false) rfl rfl ?_
      refine sK_i (pc' := 38) rfl ?_
      refine x_if (a' := 65) (pc' := 41) (z := true) rfl rfl rfl (by decide) (fun _ => ?_) (fun h => by cases h)
      refine x_iconst (pc' := 66) rfl rfl ?_
      refine x_istore (pc' := 68) (ls' := [_, _, _, _, _, _, _, _]) rfl rfl rfl rfl ?_
      refine x_aload_n (pc' := 69) rfl rfl rfl rfl rfl ?_
      refine x_aload_n (pc' := 70) rfl rfl rfl rfl rfl ?_
      refine x_iload_n (pc' := 71) rfl rfl rfl ?_
      refine x_iload_n (pc' := 72) rfl rfl rfl ?_
      refine x_iload (pc' := 74) rfl rfl rfl ?_
      refine x_iload (pc' := 76) rfl rfl rfl ?_
      refine x_cv (ls0 := [_, _, _, _, _, sJk]) (rest := [_]) rfl rfl rfl rfl rfl ?_
      refine x_iload_n (pc' := 1) rfl rfl rfl ?_
      refine x_cs (ls0 := [_]) (rest := []) rfl rfl rfl rfl ?_
      refine x_iload_n (pc' := 1) rfl rfl rfl ?_
      refine x_iconst (pc' := 2) rfl rfl ?_
      refine x_iconst (pc' := 3) rfl rfl ?_
      refine x_cs (ls0 := [_, _, _]) (rest := []) rfl rfl rfl rfl ?_
      refine x_iload_n (pc' := 1) rfl rfl rfl ?_
      refine x_iload_n (pc' := 2) rfl rfl rfl ?_
      refine x_icmp (a' := 14) (pc' := 5) (z := decide ((xs 1) < 0)) rfl rfl rfl rfl (fun _ => ?_) (fun h => absurd e0 (of_decide_eq_false h))
      refine x_iconst (pc' := 15) rfl rfl ?_
      refine x_retz (z := false) rfl rfl ?_
      refine sK_i (pc' := 6) rfl ?_
      refine x_retz (z := false) rfl rfl ?_
      refine sK_i (pc' := 4) rfl ?_
      refine x_if (a' := 18) (pc' := 7) (z := true) rfl rfl rfl (by decide) (fun _ => ?_) (fun h => by cases h)
      refine x_iconst (pc' := 19) rfl rfl ?_
      refine x_istore (pc' := 21) (ls' := [_, _, _, _, _, _]) rfl rfl rfl rfl ?_
      refine x_iload (pc' := 23) rfl rfl rfl ?_
      refine x_if (a' := 30) (pc' := 26) (z := false) rfl rfl rfl (by decide) (fun h => by cases h) (fun _ => ?_)
      refine x_iconst (pc' := 27) rfl rfl ?_
      refine x_goto (pc' := 57) rfl rfl ?_
      refine x_reti rfl rfl ?_
      refine sK_i (pc' := 79) rfl ?_
      refine x_cv (ls0 := [_, _]) (rest := []) rfl rfl rfl rfl rfl ?_
      refine x_aload_n (pc' := 1) rfl rfl rfl rfl rfl ?_
      refine x_iload_n (pc' := 2) rfl rfl rfl ?_
      refine x_pI (pc' := 5) rfl rfl rfl ?_
      refine x_iload_n (pc' := 6) rfl rfl rfl ?_
      refine x_if (a' := 13) (pc' := 9) (z := true) rfl rfl rfl (by decide) (fun _ => ?_) (fun h => by cases h)
      refine x_iconst (pc' := 14) rfl rfl ?_
      refine x_retz (z := false) rfl rfl ?_
      refine sK_i (pc' := 82) rfl ?_
      refine x_if (a' := 102) (pc' := 85) (z := true) rfl rfl rfl (by decide) (fun _ => ?_) (fun h => by cases h)
      refine x_iconst (pc' := 103) rfl rfl ?_
      refine x_reti rfl rfl ?_
      refine sK_i (pc' := 1104) rfl ?_
      refine x_istore (pc' := 1106) (ls' := [_, _, _, _, _, _, _]) rfl rfl rfl rfl ?_
      refine x_aload_n (pc' := 1107) rfl rfl rfl rfl rfl ?_
      refine x_cv (ls0 := [_]) (rest := []) rfl rfl rfl rfl rfl ?_
      refine x_aload_n (pc' := 1) rfl rfl rfl rfl rfl ?_
      refine x_gI (pc' := 4) (x := 1) rfl rfl rfl sI_s ?_
      refine x_reti rfl rfl ?_
      refine sK_i (pc' := 1110) rfl ?_
      refine x_iload (pc' := 1112) rfl rfl rfl ?_
      refine x_icmp (a' := 1117) (pc' := 1115) (z := true) rfl rfl rfl (by decide) (fun _ => ?_) (fun h => by cases h)
      refine x_iload (pc' := 1119) rfl rfl rfl ?_
      refine x_if (a' := 1134) (pc' := 1122) (z := true) rfl rfl rfl (by decide) (fun _ => ?_) (fun h => by cases h)
      refine x_goto (pc' := 2938) rfl rfl ?_
      refine x_iinc (pc' := 2941) (y := 7) (ls' := [_, _, _, _, _, _, _]) rfl rfl rfl rfl rfl ?_
      refine x_goto (pc' := 23) rfl rfl ?_
      refine x_iload (pc' := 25) rfl rfl rfl ?_
      refine x_aload_n (pc' := 26) rfl rfl rfl rfl rfl ?_
      refine x_alen (pc' := 27) (N := 7) rfl rfl rfl (Eq.trans rdNI (Eq.trans rdNthr (z_N_29_0 e))) (?_ : X _ _ _ (.inl 7 :: _) _ _)
      refine x_bipush (pc' := 29) rfl rfl ?_
      refine x_isub (pc' := 30) (z := 0) rfl rfl (by decide) ?_
      refine x_icmp (a' := 2944) (pc' := 33) (z := true) rfl rfl rfl (by decide) (fun _ => ?_) (fun h => by cases h)
      refine x_iconst (pc' := 2945) rfl rfl ?_
      refine x_retz (z := true) rfl rfl ?_
      exact Qp_ok e (p := 1) (q := 6) rfl rfl rfl rfl
    refine x_if (a' := 1088) (pc' := 1084) (z := decide ((xs 3) = 0)) rfl rfl rfl rfl (fun q6 => ?_) (fun q6 => ?_)
    · refine x_iconst (pc' := 1089) rfl rfl ?_
      ((try rw [q6] at J6); (try rw [q6]); (try simp only [cd_t, cd_f, nt_t, nt_f, an_t, an_f, or_t, or_f] at J6); (try simp only [cd_t, cd_f, nt_t, nt_f, an_t, an_f, or_t, or_f]); exact J6)
    · refine x_iconst (pc' := 1085) rfl rfl ?_
      refine x_goto (pc' := 1089) rfl rfl ?_
      ((try rw [q6] at J6); (try rw [q6]); (try simp only [cd_t, cd_f, nt_t, nt_f, an_t, an_f, or_t, or_f] at J6); (try simp only [cd_t, cd_f, nt_t, nt_f, an_t, an_f, or_t, or_f]); exact J6)
  refine x_if (a' := 1043) (pc' := 1039) (z := decide ((xs 3) = 0)) rfl rfl rfl rfl (fun q3 => ?_) (fun q3 => ?_)
  · refine x_iconst (pc' := 1044) rfl rfl ?_
    ((try rw [q3] at J3); (try rw [q3]); (try simp only [cd_t, cd_f, nt_t, nt_f, an_t, an_f, or_t, or_f] at J3); (try simp only [cd_t, cd_f, nt_t, nt_f, an_t, an_f, or_t, or_f]); exact J3)
  · refine x_iconst (pc' := 1040) rfl rfl ?_
    refine x_goto (pc' := 1044) rfl rfl ?_
    ((try rw [q3] at J3); (try rw [q3]); (try simp only [cd_t, cd_f, nt_t, nt_f, an_t, an_f, or_t, or_f] at J3); (try simp only [cd_t, cd_f, nt_t, nt_f, an_t, an_f, or_t, or_f]); exact J3)
set_option maxHeartbeats 4000000 in
set_option maxRecDepth 10000 in
theorem v_11_A_B_i_i_i {t : sT} {xs : Nat → Int32}
    (e : t = T16 7 xs)
    (hk : ((xs 0) &&& 63) = 11)
    (e0 : (xs 1) < 0)
    (e1 : ¬ (xs 2) < 0)
    (f1 : ¬ (xs 2) < 5) :
    X 297 23 [.inr (.inr (29, (some 0))), .inr (.inr (11, (some 0))), .inr (.inr (12, (some 0))), .inr (.inr (23, (some 0))), .inl 0, sJk, sJk] [] t Qp := by
  refine x_iload (pc' := 25) rfl rfl rfl ?_
  refine x_aload_n (pc' := 26) rfl rfl rfl rfl rfl ?_
  refine x_alen (pc' := 27) (N := 7) rfl rfl rfl (z_N_29_0 e) (?_ : X _ _ _ (.inl 7 :: _) _ _)
  refine x_bipush (pc' := 29) rfl rfl ?_
  refine x_isub (pc' := 30) (z := 0) rfl rfl (by decide) ?_
  refine x_icmp (a' := 2944) (pc' := 33) (z := false) rfl rfl rfl (by decide) (fun h => by cases h) (fun _ => ?_)
  refine x_aload_n (pc' := 34) rfl rfl rfl rfl rfl ?_
  refine x_iload (pc' := 36) rfl rfl rfl ?_
  refine x_iald (pc' := 37) (N := 7) (x := (xs 0)) rfl rfl rfl (z_N_29_0 e) (io_in (p := 0) (N := 7) (by decide) (by decide)) (Eq.trans (congrArg (sA t 29 0) (nn_io (p := 0) (by decide))) (z_A_29_0_0 e)) ?_
  refine x_bipush (pc' := 39) rfl rfl ?_
  refine x_iand (pc' := 40) (z := ((xs 0) &&& 63)) rfl rfl rfl ?_
  refine x_switch (pc' := 1017) rfl (by rw [hk]; decide) ?_
  refine x_aload_n (pc' := 1018) rfl rfl rfl rfl rfl ?_
  refine x_aload_n (pc' := 1019) rfl rfl rfl rfl rfl ?_
  refine x_iload (pc' := 1021) rfl rfl rfl ?_
  refine x_iconst (pc' := 1022) rfl rfl ?_
  refine x_iadd (pc' := 1023) (z := 1) rfl rfl (by decide) ?_
  refine x_iald (pc' := 1024) (N := 7) (x := (xs 1)) rfl rfl rfl (z_N_29_0 e) (io_in (p := 1) (N := 7) (by decide) (by decide)) (Eq.trans (congrArg (sA t 29 0) (nn_io (p := 1) (by decide))) (z_A_29_0_1 e)) ?_
  refine x_aload_n (pc' := 1025) rfl rfl rfl rfl rfl ?_
  refine x_iload (pc' := 1027) rfl rfl rfl ?_
  refine x_iconst (pc' := 1028) rfl rfl ?_
  refine x_iadd (pc' := 1029) (z := 2) rfl rfl (by decide) ?_
  refine x_iald (pc' := 1030) (N := 7) (x := (xs 2)) rfl rfl rfl (z_N_29_0 e) (io_in (p := 2) (N := 7) (by decide) (by decide)) (Eq.trans (congrArg (sA t 29 0) (nn_io (p := 2) (by decide))) (z_A_29_0_2 e)) ?_
  refine x_aload_n (pc' := 1031) rfl rfl rfl rfl rfl ?_
  refine x_iload (pc' := 1033) rfl rfl rfl ?_
  refine x_iconst (pc' := 1034) rfl rfl ?_
  refine x_iadd (pc' := 1035) (z := 3) rfl rfl (by decide) ?_
  refine x_iald (pc' := 1036) (N := 7) (x := (xs 3)) rfl rfl rfl (z_N_29_0 e) (io_in (p := 3) (N := 7) (by decide) (by decide)) (Eq.trans (congrArg (sA t 29 0) (nn_io (p := 3) (by decide))) (z_A_29_0_3 e)) ?_
  have J3 : X 297 1044 [.inr (.inr (29, (some 0))), .inr (.inr (11, (some 0))), .inr (.inr (12, (some 0))), .inr (.inr (23, (some 0))), .inl 0, sJk, sJk] [.inl (bz (!(decide ((xs 3) = 0)))), .inl (xs 2), .inl (xs 1), .inr (.inr (11, (some 0)))] t Qp := by
    refine x_aload_n (pc' := 1045) rfl rfl rfl rfl rfl ?_
    refine x_iload (pc' := 1047) rfl rfl rfl ?_
    refine x_iconst (pc' := 1048) rfl rfl ?_
    refine x_iadd (pc' := 1049) (z := 4) rfl rfl (by decide) ?_
    refine x_iald (pc' := 1050) (N := 7) (x := (xs 4)) rfl rfl rfl (z_N_29_0 e) (io_in (p := 4) (N := 7) (by decide) (by decide)) (Eq.trans (congrArg (sA t 29 0) (nn_io (p := 4) (by decide))) (z_A_29_0_4 e)) ?_
    refine x_aload_n (pc' := 1051) rfl rfl rfl rfl rfl ?_
    refine x_iload (pc' := 1053) rfl rfl rfl ?_
    refine x_iconst (pc' := 1054) rfl rfl ?_
    refine x_iadd (pc' := 1055) (z := 5) rfl rfl (by decide) ?_
    refine x_iald (pc' := 1056) (N := 7) (x := (xs 5)) rfl rfl rfl (z_N_29_0 e) (io_in (p := 5) (N := 7) (by decide) (by decide)) (Eq.trans (congrArg (sA t 29 0) (nn_io (p := 5) (by decide))) (z_A_29_0_5 e)) ?_
    refine x_aload_n (pc' := 1057) rfl rfl rfl rfl rfl ?_
    refine x_cs (ls0 := [_, _, _, _, _, _, _, sJk]) (rest := []) rfl rfl rfl rfl ?_
    refine x_aload (pc' := 2) rfl rfl rfl rfl rfl ?_
    refine x_iconst (pc' := 3) rfl rfl ?_
    refine x_aload_n (pc' := 4) rfl rfl rfl rfl rfl ?_
    refine x_iload_n (pc' := 5) rfl rfl rfl ?_
    refine x_iload_n (pc' := 6) rfl rfl rfl ?_
    refine x_iload_n (pc' := 7) rfl rfl rfl ?_
    refine x_iload (pc' := 9) rfl rfl rfl ?_
    refine x_iload (pc' := 11) rfl rfl rfl ?_
    refine x_cv (ls0 := [_, _, _, _, _, _, sJk, sJk, sJk]) (rest := [_, _]) rfl rfl rfl rfl rfl ?_
    refine x_aload_n (pc' := 1) rfl rfl rfl rfl rfl ?_
    refine x_iload_n (pc' := 2) rfl rfl rfl ?_
    refine x_cv (ls0 := [_, _]) (rest := []) rfl rfl rfl rfl rfl ?_
    refine x_iload_n (pc' := 1) rfl rfl rfl ?_
    refine x_if (a' := 16) (pc' := 4) (z := decide ((xs 1) < 0)) rfl rfl rfl rfl (fun _ => ?_) (fun h => absurd e0 (of_decide_eq_false h))
    refine x_throw rfl rfl ?_
    refine sK_n (by decide +kernel) rfl ?_
    refine sK_h (h := 19) (by decide +kernel) rfl ?_
    refine x_catch (pc' := 21) (ls' := [_, _, _, _, _, _, _, _]) rfl rfl rfl rfl ?_
    refine x_iconst (pc' := 22) rfl rfl ?_
    refine x_reti rfl rfl ?_
    refine sK_i (pc' := 1060) rfl ?_
    refine x_istore (pc' := 1062) (ls' := [_, _, _, _, _, _, _]) rfl rfl rfl rfl ?_
    refine x_aload_n (pc' := 1063) rfl rfl rfl rfl rfl ?_
    refine x_aload_n (pc' := 1064) rfl rfl rfl rfl rfl ?_
    refine x_iload (pc' := 1066) rfl rfl rfl ?_
    refine x_iconst (pc' := 1067) rfl rfl ?_
    refine x_iadd (pc' := 1068) (z := 1) rfl rfl (by decide) ?_
    refine x_iald (pc' := 1069) (N := 7) (x := (xs 1)) rfl rfl rfl (Eq.trans rdNthr (z_N_29_0 e)) (io_in (p := 1) (N := 7) (by decide) (by decide)) (Eq.trans (congrArg (sA (sThr t) 29 0) (nn_io (p := 1) (by decide))) (Eq.trans rdAthr (z_A_29_0_1 e))) ?_
    refine x_aload_n (pc' := 1070) rfl rfl rfl rfl rfl ?_
    refine x_iload (pc' := 1072) rfl rfl rfl ?_
    refine x_iconst (pc' := 1073) rfl rfl ?_
    refine x_iadd (pc' := 1074) (z := 2) rfl rfl (by decide) ?_
    refine x_iald (pc' := 1075) (N := 7) (x := (xs 2)) rfl rfl rfl (Eq.trans rdNthr (z_N_29_0 e)) (io_in (p := 2) (N := 7) (by decide) (by decide)) (Eq.trans (congrArg (sA (sThr t) 29 0) (nn_io (p := 2) (by decide))) (Eq.trans rdAthr (z_A_29_0_2 e))) ?_
    refine x_aload_n (pc' := 1076) rfl rfl rfl rfl rfl ?_
    refine x_iload (pc' := 1078) rfl rfl rfl ?_
    refine x_iconst (pc' := 1079) rfl rfl ?_
    refine x_iadd (pc' := 1080) (z := 3) rfl rfl (by decide) ?_
    refine x_iald (pc' := 1081) (N := 7) (x := (xs 3)) rfl rfl rfl (Eq.trans rdNthr (z_N_29_0 e)) (io_in (p := 3) (N := 7) (by decide) (by decide)) (Eq.trans (congrArg (sA (sThr t) 29 0) (nn_io (p := 3) (by decide))) (Eq.trans rdAthr (z_A_29_0_3 e))) ?_
    have J6 : X 297 1089 [.inr (.inr (29, (some 0))), .inr (.inr (11, (some 0))), .inr (.inr (12, (some 0))), .inr (.inr (23, (some 0))), .inl 0, .inl 1, sJk] [.inl (bz (!(decide ((xs 3) = 0)))), .inl (xs 2), .inl (xs 1), .inr (.inr (12, (some 0)))] (sThr t) Qp := by
      refine x_aload_n (pc' := 1090) rfl rfl rfl rfl rfl ?_
      refine x_iload (pc' := 1092) rfl rfl rfl ?_
      refine x_iconst (pc' := 1093) rfl rfl ?_
      refine x_iadd (pc' := 1094) (z := 4) rfl rfl (by decide) ?_
      refine x_iald (pc' := 1095) (N := 7) (x := (xs 4)) rfl rfl rfl (Eq.trans rdNthr (z_N_29_0 e)) (io_in (p := 4) (N := 7) (by decide) (by decide)) (Eq.trans (congrArg (sA (sThr t) 29 0) (nn_io (p := 4) (by decide))) (Eq.trans rdAthr (z_A_29_0_4 e))) ?_
      refine x_aload_n (pc' := 1096) rfl rfl rfl rfl rfl ?_
      refine x_iload (pc' := 1098) rfl rfl rfl ?_
      refine x_iconst (pc' := 1099) rfl rfl ?_
      refine x_iadd (pc' := 1100) (z := 5) rfl rfl (by decide) ?_
      refine x_iald (pc' := 1101) (N := 7) (x := (xs 5)) rfl rfl rfl (Eq.trans rdNthr (z_N_29_0 e)) (io_in (p := 5) (N := 7) (by decide) (by decide)) (Eq.trans (congrArg (sA (sThr t) 29 0) (nn_io (p := 5) (by decide))) (Eq.trans rdAthr (z_A_29_0_5 e))) ?_
      refine x_cv (ls0 := [_, _, _, _, _, _, sJk, sJk]) (rest := []) rfl rfl rfl rfl rfl ?_
      refine x_iload_n (pc' := 1) rfl rfl rfl ?_
      refine x_cs (ls0 := [_]) (rest := []) rfl rfl rfl rfl ?_
      refine x_iload_n (pc' := 1) rfl rfl rfl ?_
      refine x_iconst (pc' := 2) rfl rfl ?_
      refine x_iconst (pc' := 3) rfl rfl ?_
      refine x_cs (ls0 := [_, _, _]) (rest := []) rfl rfl rfl rfl ?_
      refine x_iload_n (pc' := 1) rfl rfl rfl ?_
      refine x_iload_n (pc' := 2) rfl rfl rfl ?_
      refine x_icmp (a' := 14) (pc' := 5) (z := decide ((xs 2) < 0)) rfl rfl rfl rfl (fun h => absurd (of_decide_eq_true h) e1) (fun _ => ?_)
      refine x_iload_n (pc' := 6) rfl rfl rfl ?_
      refine x_iload_n (pc' := 7) rfl rfl rfl ?_
      refine x_icmp (a' := 14) (pc' := 10) (z := decide (4 < (xs 2))) rfl rfl rfl rfl (fun _ => ?_) (fun h => absurd (lt_of5 f1) (of_decide_eq_false h))
      refine x_iconst (pc' := 15) rfl rfl ?_
      refine x_retz (z := false) rfl rfl ?_
      refine sK_i (pc' := 6) rfl ?_
      refine x_retz (z := false) rfl rfl ?_
      refine sK_i (pc' := 4) rfl ?_
      refine x_if (a' := 31) (pc' := 7) (z := true) rfl rfl rfl (by decide) (fun _ => ?_) (fun h => by cases h)
      refine x_iconst (pc' := 32) rfl rfl ?_
      refine x_istore (pc' := 34) (ls' := [_, _, _, _, _, _, _, _]) rfl rfl rfl rfl ?_
      refine x_iload_n (pc' := 35) rfl rfl rfl ?_
      refine x_cs (ls0 := [_]) (rest := []) rfl rfl rfl rfl ?_
      refine x_iload_n (pc' := 1) rfl rfl rfl ?_
      refine x_iconst (pc' := 2) rfl rfl ?_
      refine x_iconst (pc' := 3) rfl rfl ?_
      refine x_cs (ls0 := [_, _, _]) (rest := []) rfl rfl rfl rfl ?_
      refine x_iload_n (pc' := 1) rfl rfl rfl ?_
      refine x_iload_n (pc' := 2) rfl rfl rfl ?_
      refine x_icmp (a' := 14) (pc' := 5) (z := decide ((xs 2) < 0)) rfl rfl rfl rfl (fun h => absurd (of_decide_eq_true h) e1) (fun _ => ?_)
      refine x_iload_n (pc' := 6) rfl rfl rfl ?_
      refine x_iload_n (pc' := 7) rfl rfl rfl ?_
      refine x_icmp (a' := 14) (pc' := 10) (z := decide (4 < (xs 2))) rfl rfl rfl rfl (fun _ => ?_) (fun h => absurd (lt_of5 f1) (of_decide_eq_false h))
      refine x_iconst (pc' := 15) rfl rfl ?_
      refine x_retz (z := false) rfl rfl ?_
      refine sK_i (pc' := 6) rfl ?_
      refine x_retz (z := false) rfl rfl ?_
      refine sK_i (pc' := 38) rfl ?_
      refine x_if (a' := 65) (pc' := 41) (z := true) rfl rfl rfl (by decide) (fun _ => ?_) (fun h => by cases h)
      refine x_iconst (pc' := 66) rfl rfl ?_
      refine x_istore (pc' := 68) (ls' := [_, _, _, _, _, _, _, _]) rfl rfl rfl rfl ?_
      refine x_aload_n (pc' := 69) rfl rfl rfl rfl rfl ?_
      refine x_aload_n (pc' := 70) rfl rfl rfl rfl rfl ?_
      refine x_iload_n (pc' := 71) rfl rfl rfl ?_
      refine x_iload_n (pc' := 72) rfl rfl rfl ?_
      refine x_iload (pc' := 74) rfl rfl rfl ?_
      refine x_iload (pc' := 76) rfl rfl rfl ?_
      refine x_cv (ls0 := [_, _, _, _, _, sJk]) (rest := [_]) rfl rfl rfl rfl rfl ?_
      refine x_iload_n (pc' := 1) rfl rfl rfl ?_
      refine x_cs (ls0 := [_]) (rest := []) rfl rfl rfl rfl ?_
      refine x_iload_n (pc' := 1) rfl rfl rfl ?_
      refine x_iconst (pc' := 2) rfl rfl ?_
      refine x_iconst (pc' := 3) rfl rfl ?_
      refine x_cs (ls0 := [_, _, _]) (rest := []) rfl rfl rfl rfl ?_
      refine x_iload_n (pc' := 1) rfl rfl rfl ?_
      refine x_iload_n (pc' := 2) rfl rfl rfl ?_
      refine x_icmp (a' := 14) (pc' := 5) (z := decide ((xs 1) < 0)) rfl rfl rfl rfl (fun _ => ?_) (fun h => absurd e0 (of_decide_eq_false h))
      refine x_iconst (pc' := 15) rfl rfl ?_
      refine x_retz (z := false) rfl rfl ?_
      refine sK_i (pc' := 6) rfl ?_
      refine x_retz (z := false) rfl rfl ?_
      refine sK_i (pc' := 4) rfl ?_
      refine x_if (a' := 18) (pc' := 7) (z := true) rfl rfl rfl (by decide) (fun _ => ?_) (fun h => by cases h)
      refine x_iconst (pc' := 19) rfl rfl ?_
      refine x_istore (pc' := 21) (ls' := [_, _, _, _, _, _]) rfl rfl rfl rfl ?_
      refine x_iload (pc' := 23) rfl rfl rfl ?_
      refine x_if (a' := 30) (pc' := 26) (z := false) rfl rfl rfl (by decide) (fun h => by cases h) (fun _ => ?_)
      refine x_iconst (pc' := 27) rfl rfl ?_
      refine x_goto (pc' := 57) rfl rfl ?_
      refine x_reti rfl rfl ?_
      refine sK_i (pc' := 79) rfl ?_
      refine x_cv (ls0 := [_, _]) (rest := []) rfl rfl rfl rfl rfl ?_
      refine x_aload_n (pc' := 1) rfl rfl rfl rfl rfl ?_
      refine x_iload_n (pc' := 2) rfl rfl rfl ?_
      refine x_pI (pc' := 5) rfl rfl rfl ?_
      refine x_iload_n (pc' := 6) rfl rfl rfl ?_
      refine x_if (a' := 13) (pc' := 9) (z := true) rfl rfl rfl (by decide) (fun _ => ?_) (fun h => by cases h)
      refine x_iconst (pc' := 14) rfl rfl ?_
      refine x_retz (z := false) rfl rfl ?_
      refine sK_i (pc' := 82) rfl ?_
      refine x_if (a' := 102) (pc' := 85) (z := true) rfl rfl rfl (by decide) (fun _ => ?_) (fun h => by cases h)
      refine x_iconst (pc' := 103) rfl rfl ?_
      refine x_reti rfl rfl ?_
      refine sK_i (pc' := 1104) rfl ?_
      refine x_istore (pc' := 1106) (ls' := [_, _, _, _, _, _, _]) rfl rfl rfl rfl ?_
      refine x_aload_n (pc' := 1107) rfl rfl rfl rfl rfl ?_
      refine x_cv (ls0 := [_]) (rest := []) rfl rfl rfl rfl rfl ?_
      refine x_aload_n (pc' := 1) rfl rfl rfl rfl rfl ?_
      refine x_gI (pc' := 4) (x := 1) rfl rfl rfl sI_s ?_
      refine x_reti rfl rfl ?_
      refine sK_i (pc' := 1110) rfl ?_
      refine x_iload (pc' := 1112) rfl rfl rfl ?_
      refine x_icmp (a' := 1117) (pc' := 1115) (z := true) rfl rfl rfl (by decide) (fun _ => ?_) (fun h => by cases h)
      refine x_iload (pc' := 1119) rfl rfl rfl ?_
      refine x_if (a' := 1134) (pc' := 1122) (z := true) rfl rfl rfl (by decide) (fun _ => ?_) (fun h => by cases h)
      refine x_goto (pc' := 2938) rfl rfl ?_
      refine x_iinc (pc' := 2941) (y := 7) (ls' := [_, _, _, _, _, _, _]) rfl rfl rfl rfl rfl ?_
      refine x_goto (pc' := 23) rfl rfl ?_
      refine x_iload (pc' := 25) rfl rfl rfl ?_
      refine x_aload_n (pc' := 26) rfl rfl rfl rfl rfl ?_
      refine x_alen (pc' := 27) (N := 7) rfl rfl rfl (Eq.trans rdNI (Eq.trans rdNthr (z_N_29_0 e))) (?_ : X _ _ _ (.inl 7 :: _) _ _)
      refine x_bipush (pc' := 29) rfl rfl ?_
      refine x_isub (pc' := 30) (z := 0) rfl rfl (by decide) ?_
      refine x_icmp (a' := 2944) (pc' := 33) (z := true) rfl rfl rfl (by decide) (fun _ => ?_) (fun h => by cases h)
      refine x_iconst (pc' := 2945) rfl rfl ?_
      refine x_retz (z := true) rfl rfl ?_
      exact Qp_ok e (p := 1) (q := 6) rfl rfl rfl rfl
    refine x_if (a' := 1088) (pc' := 1084) (z := decide ((xs 3) = 0)) rfl rfl rfl rfl (fun q6 => ?_) (fun q6 => ?_)
    · refine x_iconst (pc' := 1089) rfl rfl ?_
      ((try rw [q6] at J6); (try rw [q6]); (try simp only [cd_t, cd_f, nt_t, nt_f, an_t, an_f, or_t, or_f] at J6); (try simp only [cd_t, cd_f, nt_t, nt_f, an_t, an_f, or_t, or_f]); exact J6)
    · refine x_iconst (pc' := 1085) rfl rfl ?_
      refine x_goto (pc' := 1089) rfl rfl ?_
      ((try rw [q6] at J6); (try rw [q6]); (try simp only [cd_t, cd_f, nt_t, nt_f, an_t, an_f, or_t, or_f] at J6); (try simp only [cd_t, cd_f, nt_t, nt_f, an_t, an_f, or_t, or_f]); exact J6)
  refine x_if (a' := 1043) (pc' := 1039) (z := decide ((xs 3) = 0)) rfl rfl rfl rfl (fun q3 => ?_) (fun q3 => ?_)
  · refine x_iconst (pc' := 1044) rfl rfl ?_
    ((try rw [q3] at J3); (try rw [q3]); (try simp only [cd_t, cd_f, nt_t, nt_f, an_t, an_f, or_t, or_f] at J3); (try simp only [cd_t, cd_f, nt_t, nt_f, an_t, an_f, or_t, or_f]); exact J3)
  · refine x_iconst (pc' := 1040) rfl rfl ?_
    refine x_goto (pc' := 1044) rfl rfl ?_
    ((try rw [q3] at J3); (try rw [q3]); (try simp only [cd_t, cd_f, nt_t, nt_f, an_t, an_f, or_t, or_f] at J3); (try simp only [cd_t, cd_f, nt_t, nt_f, an_t, an_f, or_t, or_f]); exact J3)
set_option maxHeartbeats 4000000 in
set_option maxRecDepth 10000 in
theorem v_11_B_0_i_i_i {t : sT} {xs : Nat → Int32}
    (e : t = T16 7 xs)
    (hk : ((xs 0) &&& 63) = 11)
    (e0 : ¬ (xs 1) < 0)
    (f0 : ¬ (xs 1) < 6)
    (e1 : xs 2 = 0) :
    X 297 23 [.inr (.inr (29, (some 0))), .inr (.inr (11, (some 0))), .inr (.inr (12, (some 0))), .inr (.inr (23, (some 0))), .inl 0, sJk, sJk] [] t Qp := by
  refine x_iload (pc' := 25) rfl rfl rfl ?_
  refine x_aload_n (pc' := 26) rfl rfl rfl rfl rfl ?_
  refine x_alen (pc' := 27) (N := 7) rfl rfl rfl (z_N_29_0 e) (?_ : X _ _ _ (.inl 7 :: _) _ _)
  refine x_bipush (pc' := 29) rfl rfl ?_
  refine x_isub (pc' := 30) (z := 0) rfl rfl (by decide) ?_
  refine x_icmp (a' := 2944) (pc' := 33) (z := false) rfl rfl rfl (by decide) (fun h => by cases h) (fun _ => ?_)
  refine x_aload_n (pc' := 34) rfl rfl rfl rfl rfl ?_
  refine x_iload (pc' := 36) rfl rfl rfl ?_
  refine x_iald (pc' := 37) (N := 7) (x := (xs 0)) rfl rfl rfl (z_N_29_0 e) (io_in (p := 0) (N := 7) (by decide) (by decide)) (Eq.trans (congrArg (sA t 29 0) (nn_io (p := 0) (by decide))) (z_A_29_0_0 e)) ?_
  refine x_bipush (pc' := 39) rfl rfl ?_
  refine x_iand (pc' := 40) (z := ((xs 0) &&& 63)) rfl rfl rfl ?_
  refine x_switch (pc' := 1017) rfl (by rw [hk]; decide) ?_
  refine x_aload_n (pc' := 1018) rfl rfl rfl rfl rfl ?_
  refine x_aload_n (pc' := 1019) rfl rfl rfl rfl rfl ?_
  refine x_iload (pc' := 1021) rfl rfl rfl ?_
  refine x_iconst (pc' := 1022) rfl rfl ?_
  refine x_iadd (pc' := 1023) (z := 1) rfl rfl (by decide) ?_
  refine x_iald (pc' := 1024) (N := 7) (x := (xs 1)) rfl rfl rfl (z_N_29_0 e) (io_in (p := 1) (N := 7) (by decide) (by decide)) (Eq.trans (congrArg (sA t 29 0) (nn_io (p := 1) (by decide))) (z_A_29_0_1 e)) ?_
  refine x_aload_n (pc' := 1025) rfl rfl rfl rfl rfl ?_
  refine x_iload (pc' := 1027) rfl rfl rfl ?_
  refine x_iconst (pc' := 1028) rfl rfl ?_
  refine x_iadd (pc' := 1029) (z := 2) rfl rfl (by decide) ?_
  refine x_iald (pc' := 1030) (N := 7) (x := 0) rfl rfl rfl (z_N_29_0 e) (io_in (p := 2) (N := 7) (by decide) (by decide)) (Eq.trans (congrArg (sA t 29 0) (nn_io (p := 2) (by decide))) (Eq.trans (z_A_29_0_2 e) e1)) ?_
  refine x_aload_n (pc' := 1031) rfl rfl rfl rfl rfl ?_
  refine x_iload (pc' := 1033) rfl rfl rfl ?_
  refine x_iconst (pc' := 1034) rfl rfl ?_
  refine x_iadd (pc' := 1035) (z := 3) rfl rfl (by decide) ?_
  refine x_iald (pc' := 1036) (N := 7) (x := (xs 3)) rfl rfl rfl (z_N_29_0 e) (io_in (p := 3) (N := 7) (by decide) (by decide)) (Eq.trans (congrArg (sA t 29 0) (nn_io (p := 3) (by decide))) (z_A_29_0_3 e)) ?_
  have J3 : X 297 1044 [.inr (.inr (29, (some 0))), .inr (.inr (11, (some 0))), .inr (.inr (12, (some 0))), .inr (.inr (23, (some 0))), .inl 0, sJk, sJk] [.inl (bz (!(decide ((xs 3) = 0)))), .inl 0, .inl (xs 1), .inr (.inr (11, (some 0)))] t Qp := by
    refine x_aload_n (pc' := 1045) rfl rfl rfl rfl rfl ?_
    refine x_iload (pc' := 1047) rfl rfl rfl ?_
    refine x_iconst (pc' := 1048) rfl rfl ?_
    refine x_iadd (pc' := 1049) (z := 4) rfl rfl (by decide) ?_
    refine x_iald (pc' := 1050) (N := 7) (x := (xs 4)) rfl rfl rfl (z_N_29_0 e) (io_in (p := 4) (N := 7) (by decide) (by decide)) (Eq.trans (congrArg (sA t 29 0) (nn_io (p := 4) (by decide))) (z_A_29_0_4 e)) ?_
    refine x_aload_n (pc' := 1051) rfl rfl rfl rfl rfl ?_
    refine x_iload (pc' := 1053) rfl rfl rfl ?_
    refine x_iconst (pc' := 1054) rfl rfl ?_
    refine x_iadd (pc' := 1055) (z := 5) rfl rfl (by decide) ?_
    refine x_iald (pc' := 1056) (N := 7) (x := (xs 5)) rfl rfl rfl (z_N_29_0 e) (io_in (p := 5) (N := 7) (by decide) (by decide)) (Eq.trans (congrArg (sA t 29 0) (nn_io (p := 5) (by decide))) (z_A_29_0_5 e)) ?_
    refine x_aload_n (pc' := 1057) rfl rfl rfl rfl rfl ?_
    refine x_cs (ls0 := [_, _, _, _, _, _, _, sJk]) (rest := []) rfl rfl rfl rfl ?_
    refine x_aload (pc' := 2) rfl rfl rfl rfl rfl ?_
    refine x_iconst (pc' := 3) rfl rfl ?_
    refine x_aload_n (pc' := 4) rfl rfl rfl rfl rfl ?_
    refine x_iload_n (pc' := 5) rfl rfl rfl ?_
    refine x_iload_n (pc' := 6) rfl rfl rfl ?_
    refine x_iload_n (pc' := 7) rfl rfl rfl ?_
    refine x_iload (pc' := 9) rfl rfl rfl ?_
    refine x_iload (pc' := 11) rfl rfl rfl ?_
    refine x_cv (ls0 := [_, _, _, _, _, _, sJk, sJk, sJk]) (rest := [_, _]) rfl rfl rfl rfl rfl ?_
    refine x_aload_n (pc' := 1) rfl rfl rfl rfl rfl ?_
    refine x_iload_n (pc' := 2) rfl rfl rfl ?_
    refine x_cv (ls0 := [_, _]) (rest := []) rfl rfl rfl rfl rfl ?_
    refine x_iload_n (pc' := 1) rfl rfl rfl ?_
    refine x_if (a' := 16) (pc' := 4) (z := decide ((xs 1) < 0)) rfl rfl rfl rfl (fun h => absurd (of_decide_eq_true h) e0) (fun _ => ?_)
    refine x_iload_n (pc' := 5) rfl rfl rfl ?_
    refine x_aload_n (pc' := 6) rfl rfl rfl rfl rfl ?_
    refine x_gR (pc' := 9) (r := (some 0)) rfl rfl rfl (z_R_704_0 e) ?_
    refine x_gR (pc' := 12) (r := (some 0)) rfl rfl rfl (z_R_321_0 e) ?_
    refine x_alen (pc' := 13) (N := 6) rfl rfl rfl (z_N_26_0 e) (?_ : X _ _ _ (.inl 6 :: _) _ _)
    refine x_icmp (a' := 27) (pc' := 16) (z := decide ((xs 1) < 6)) rfl rfl rfl rfl (fun h => absurd (of_decide_eq_true h) f0) (fun _ => ?_)
    refine x_throw rfl rfl ?_
    refine sK_n (by decide +kernel) rfl ?_
    refine sK_h (h := 19) (by decide +kernel) rfl ?_
    refine x_catch (pc' := 21) (ls' := [_, _, _, _, _, _, _, _]) rfl rfl rfl rfl ?_
    refine x_iconst (pc' := 22) rfl rfl ?_
    refine x_reti rfl rfl ?_
    refine sK_i (pc' := 1060) rfl ?_
    refine x_istore (pc' := 1062) (ls' := [_, _, _, _, _, _, _]) rfl rfl rfl rfl ?_
    refine x_aload_n (pc' := 1063) rfl rfl rfl rfl rfl ?_
    refine x_aload_n (pc' := 1064) rfl rfl rfl rfl rfl ?_
    refine x_iload (pc' := 1066) rfl rfl rfl ?_
    refine x_iconst (pc' := 1067) rfl rfl ?_
    refine x_iadd (pc' := 1068) (z := 1) rfl rfl (by decide) ?_
    refine x_iald (pc' := 1069) (N := 7) (x := (xs 1)) rfl rfl rfl (Eq.trans rdNthr (z_N_29_0 e)) (io_in (p := 1) (N := 7) (by decide) (by decide)) (Eq.trans (congrArg (sA (sThr t) 29 0) (nn_io (p := 1) (by decide))) (Eq.trans rdAthr (z_A_29_0_1 e))) ?_
    refine x_aload_n (pc' := 1070) rfl rfl rfl rfl rfl ?_
    refine x_iload (pc' := 1072) rfl rfl rfl ?_
    refine x_iconst (pc' := 1073) rfl rfl ?_
    refine x_iadd (pc' := 1074) (z := 2) rfl rfl (by decide) ?_
    refine x_iald (pc' := 1075) (N := 7) (x := 0) rfl rfl rfl (Eq.trans rdNthr (z_N_29_0 e)) (io_in (p := 2) (N := 7) (by decide) (by decide)) (Eq.trans (congrArg (sA (sThr t) 29 0) (nn_io (p := 2) (by decide))) (Eq.trans rdAthr (Eq.trans (z_A_29_0_2 e) e1))) ?_
    refine x_aload_n (pc' := 1076) rfl rfl rfl rfl rfl ?_
    refine x_iload (pc' := 1078) rfl rfl rfl ?_
    refine x_iconst (pc' := 1079) rfl rfl ?_
    refine x_iadd (pc' := 1080) (z := 3) rfl rfl (by decide) ?_
    refine x_iald (pc' := 1081) (N := 7) (x := (xs 3)) rfl rfl rfl (Eq.trans rdNthr (z_N_29_0 e)) (io_in (p := 3) (N := 7) (by decide) (by decide)) (Eq.trans (congrArg (sA (sThr t) 29 0) (nn_io (p := 3) (by decide))) (Eq.trans rdAthr (z_A_29_0_3 e))) ?_
    have J7 : X 297 1089 [.inr (.inr (29, (some 0))), .inr (.inr (11, (some 0))), .inr (.inr (12, (some 0))), .inr (.inr (23, (some 0))), .inl 0, .inl 1, sJk] [.inl (bz (!(decide ((xs 3) = 0)))), .inl 0, .inl (xs 1), .inr (.inr (12, (some 0)))] (sThr t) Qp := by
      refine x_aload_n (pc' := 1090) rfl rfl rfl rfl rfl ?_
      refine x_iload (pc' := 1092) rfl rfl rfl ?_
      refine x_iconst (pc' := 1093) rfl rfl ?_
      refine x_iadd (pc' := 1094) (z := 4) rfl rfl (by decide) ?_
      refine x_iald (pc' := 1095) (N := 7) (x := (xs 4)) rfl rfl rfl (Eq.trans rdNthr (z_N_29_0 e)) (io_in (p := 4) (N := 7) (by decide) (by decide)) (Eq.trans (congrArg (sA (sThr t) 29 0) (nn_io (p := 4) (by decide))) (Eq.trans rdAthr (z_A_29_0_4 e))) ?_
      refine x_aload_n (pc' := 1096) rfl rfl rfl rfl rfl ?_
      refine x_iload (pc' := 1098) rfl rfl rfl ?_
      refine x_iconst (pc' := 1099) rfl rfl ?_
      refine x_iadd (pc' := 1100) (z := 5) rfl rfl (by decide) ?_
      refine x_iald (pc' := 1101) (N := 7) (x := (xs 5)) rfl rfl rfl (Eq.trans rdNthr (z_N_29_0 e)) (io_in (p := 5) (N := 7) (by decide) (by decide)) (Eq.trans (congrArg (sA (sThr t) 29 0) (nn_io (p := 5) (by decide))) (Eq.trans rdAthr (z_A_29_0_5 e))) ?_
      refine x_cv (ls0 := [_, _, _, _, _, _, sJk, sJk]) (rest := []) rfl rfl rfl rfl rfl ?_
      refine x_iload_n (pc' := 1) rfl rfl rfl ?_
      refine x_cs (ls0 := [_]) (rest := []) rfl rfl rfl rfl ?_
      refine x_iload_n (pc' := 1) rfl rfl rfl ?_
      refine x_iconst (pc' := 2) rfl rfl ?_
      refine x_iconst (pc' := 3) rfl rfl ?_
      refine x_cs (ls0 := [_, _, _]) (rest := []) rfl rfl rfl rfl ?_
      refine x_iload_n (pc' := 1) rfl rfl rfl ?_
      refine x_iload_n (pc' := 2) rfl rfl rfl ?_
      refine x_icmp (a' := 14) (pc' := 5) (z := false) rfl rfl rfl (by decide) (fun h => by cases h) (fun _ => ?_)
      refine x_iload_n (pc' := 6) rfl rfl rfl ?_
      refine x_iload_n (pc' := 7) rfl rfl rfl ?_
      refine x_icmp (a' := 14) (pc' := 10) (z := false) rfl rfl rfl (by decide) (fun h => by cases h) (fun _ => ?_)
      refine x_iconst (pc' := 11) rfl rfl ?_
      refine x_goto (pc' := 15) rfl rfl ?_
      refine x_retz (z := true) rfl rfl ?_
      refine sK_i (pc' := 6) rfl ?_
      refine x_retz (z := true) rfl rfl ?_
      refine sK_i (pc' := 4) rfl ?_
      refine x_if (a' := 31) (pc' := 7) (z := false) rfl rfl rfl (by decide) (fun h => by cases h) (fun _ => ?_)
      refine x_iload_n (pc' := 8) rfl rfl rfl ?_
      refine x_iload (pc' := 10) rfl rfl rfl ?_
      refine x_cs (ls0 := [_, _]) (rest := []) rfl rfl rfl rfl ?_
      refine x_iload_n (pc' := 1) rfl rfl rfl ?_
      refine x_iconst (pc' := 2) rfl rfl ?_
      refine x_icmp (a' := 16) (pc' := 5) (z := false) rfl rfl rfl (by decide) (fun h => by cases h) (fun _ => ?_)
      refine x_iload_n (pc' := 6) rfl rfl rfl ?_
      refine x_iconst (pc' := 7) rfl rfl ?_
      refine x_sipush (pc' := 10) rfl rfl ?_
      refine x_cs (ls0 := [_, _, _]) (rest := []) rfl rfl rfl rfl ?_
      refine x_iload_n (pc' := 1) rfl rfl rfl ?_
      refine x_iload_n (pc' := 2) rfl rfl rfl ?_
      have J14 : X 145 15 [.inl (xs 4), .inl 1, .inl 999] [.inl (bz (!(decide ((xs 4) < 1)) && (!(decide (999 < (xs 4))))))] (sThr t) (sK 145 150 10 [.inl 0, .inl (xs 4)] [] (sK 150 205 10 [.inr (.inr (12, (some 0))), .inl (xs 1), .inl 0, .inl (bz (!(decide ((xs 3) = 0)))), .inl (xs 4), .inl (xs 5), sJk, sJk] [] (sK 205 297 1101 [.inr (.inr (29, (some 0))), .inr (.inr (11, (some 0))), .inr (.inr (12, (some 0))), .inr (.inr (23, (some 0))), .inl 0, .inl 1, sJk] [] Qp))) := by
        refine x_retz (z := (!(decide ((xs 4) < 1)) && (!(decide (999 < (xs 4)))))) rfl rfl ?_
        refine sK_i (pc' := 13) rfl ?_
        refine x_goto (pc' := 26) rfl rfl ?_
        refine x_retz (z := (!(decide ((xs 4) < 1)) && (!(decide (999 < (xs 4)))))) rfl rfl ?_
        refine sK_i (pc' := 13) rfl ?_
        have J20 : X 205 32 [.inr (.inr (12, (some 0))), .inl (xs 1), .inl 0, .inl (bz (!(decide ((xs 3) = 0)))), .inl (xs 4), .inl (xs 5), sJk, sJk] [.inl (bz ((!(decide ((xs 4) < 1)) && (!(decide (999 < (xs 4))))) && (!(decide ((xs 5) < 1)) && (!(decide (100 < (xs 5)))))))] (sThr t) (sK 205 297 1101 [.inr (.inr (29, (some 0))), .inr (.inr (11, (some 0))), .inr (.inr (12, (some 0))), .inr (.inr (23, (some 0))), .inl 0, .inl 1, sJk] [] Qp) := by
          refine x_istore (pc' := 34) (ls' := [_, _, _, _, _, _, _, _]) rfl rfl rfl rfl ?_
          refine x_iload_n (pc' := 35) rfl rfl rfl ?_
          refine x_cs (ls0 := [_]) (rest := []) rfl rfl rfl rfl ?_
          refine x_iload_n (pc' := 1) rfl rfl rfl ?_
          refine x_iconst (pc' := 2) rfl rfl ?_
          refine x_iconst (pc' := 3) rfl rfl ?_
          refine x_cs (ls0 := [_, _, _]) (rest := []) rfl rfl rfl rfl ?_
          refine x_iload_n (pc' := 1) rfl rfl rfl ?_
          refine x_iload_n (pc' := 2) rfl rfl rfl ?_
          refine x_icmp (a' := 14) (pc' := 5) (z := false) rfl rfl rfl (by decide) (fun h => by cases h) (fun _ => ?_)
          refine x_iload_n (pc' := 6) rfl rfl rfl ?_
          refine x_iload_n (pc' := 7) rfl rfl rfl ?_
          refine x_icmp (a' := 14) (pc' := 10) (z := false) rfl rfl rfl (by decide) (fun h => by cases h) (fun _ => ?_)
          refine x_iconst (pc' := 11) rfl rfl ?_
          refine x_goto (pc' := 15) rfl rfl ?_
          refine x_retz (z := true) rfl rfl ?_
          refine sK_i (pc' := 6) rfl ?_
          refine x_retz (z := true) rfl rfl ?_
          refine sK_i (pc' := 38) rfl ?_
          refine x_if (a' := 65) (pc' := 41) (z := false) rfl rfl rfl (by decide) (fun h => by cases h) (fun _ => ?_)
          refine x_aload_n (pc' := 42) rfl rfl rfl rfl rfl ?_
          refine x_gR (pc' := 45) (r := (some 0)) rfl rfl rfl (Eq.trans rdRthr (z_R_769_0 e)) ?_
          refine x_iload_n (pc' := 46) rfl rfl rfl ?_
          refine x_iald (pc' := 47) (N := 5) (x := 0) rfl rfl rfl (Eq.trans rdNthr (z_N_21_0 e)) (io_in (p := 0) (N := 5) (by decide) (by decide)) (Eq.trans (congrArg (sA (sThr t) 21 0) (nn_io (p := 0) (by decide))) (Eq.trans rdAthr (z_A_21_0_0 e))) ?_
          refine x_iconst (pc' := 48) rfl rfl ?_
          refine x_icmp (a' := 65) (pc' := 51) (z := true) rfl rfl rfl (by decide) (fun _ => ?_) (fun h => by cases h)
          refine x_iconst (pc' := 66) rfl rfl ?_
          refine x_istore (pc' := 68) (ls' := [_, _, _, _, _, _, _, _]) rfl rfl rfl rfl ?_
          refine x_aload_n (pc' := 69) rfl rfl rfl rfl rfl ?_
          refine x_aload_n (pc' := 70) rfl rfl rfl rfl rfl ?_
          refine x_iload_n (pc' := 71) rfl rfl rfl ?_
          refine x_iload_n (pc' := 72) rfl rfl rfl ?_
          refine x_iload (pc' := 74) rfl rfl rfl ?_
          refine x_iload (pc' := 76) rfl rfl rfl ?_
          refine x_cv (ls0 := [_, _, _, _, _, sJk]) (rest := [_]) rfl rfl rfl rfl rfl ?_
          refine x_iload_n (pc' := 1) rfl rfl rfl ?_
          refine x_cs (ls0 := [_]) (rest := []) rfl rfl rfl rfl ?_
          refine x_iload_n (pc' := 1) rfl rfl rfl ?_
          refine x_iconst (pc' := 2) rfl rfl ?_
          refine x_iconst (pc' := 3) rfl rfl ?_
          refine x_cs (ls0 := [_, _, _]) (rest := []) rfl rfl rfl rfl ?_
          refine x_iload_n (pc' := 1) rfl rfl rfl ?_
          refine x_iload_n (pc' := 2) rfl rfl rfl ?_
          refine x_icmp (a' := 14) (pc' := 5) (z := decide ((xs 1) < 0)) rfl rfl rfl rfl (fun h => absurd (of_decide_eq_true h) e0) (fun _ => ?_)
          refine x_iload_n (pc' := 6) rfl rfl rfl ?_
          refine x_iload_n (pc' := 7) rfl rfl rfl ?_
          refine x_icmp (a' := 14) (pc' := 10) (z := decide (5 < (xs 1))) rfl rfl rfl rfl (fun _ => ?_) (fun h => absurd (lt_of6 f0) (of_decide_eq_false h))
          refine x_iconst (pc' := 15) rfl rfl ?_
          refine x_retz (z := false) rfl rfl ?_
          refine sK_i (pc' := 6) rfl ?_
          refine x_retz (z := false) rfl rfl ?_
          refine sK_i (pc' := 4) rfl ?_
          refine x_if (a' := 18) (pc' := 7) (z := true) rfl rfl rfl (by decide) (fun _ => ?_) (fun h => by cases h)
          refine x_iconst (pc' := 19) rfl rfl ?_
          refine x_istore (pc' := 21) (ls' := [_, _, _, _, _, _]) rfl rfl rfl rfl ?_
          refine x_iload (pc' := 23) rfl rfl rfl ?_
          refine x_if (a' := 30) (pc' := 26) (z := false) rfl rfl rfl (by decide) (fun h => by cases h) (fun _ => ?_)
          refine x_iconst (pc' := 27) rfl rfl ?_
          refine x_goto (pc' := 57) rfl rfl ?_
          refine x_reti rfl rfl ?_
          refine sK_i (pc' := 79) rfl ?_
          refine x_cv (ls0 := [_, _]) (rest := []) rfl rfl rfl rfl rfl ?_
          refine x_aload_n (pc' := 1) rfl rfl rfl rfl rfl ?_
          refine x_iload_n (pc' := 2) rfl rfl rfl ?_
          refine x_pI (pc' := 5) rfl rfl rfl ?_
          refine x_iload_n (pc' := 6) rfl rfl rfl ?_
          refine x_if (a' := 13) (pc' := 9) (z := true) rfl rfl rfl (by decide) (fun _ => ?_) (fun h => by cases h)
          refine x_iconst (pc' := 14) rfl rfl ?_
          refine x_retz (z := false) rfl rfl ?_
          refine sK_i (pc' := 82) rfl ?_
          refine x_if (a' := 102) (pc' := 85) (z := true) rfl rfl rfl (by decide) (fun _ => ?_) (fun h => by cases h)
          refine x_iconst (pc' := 103) rfl rfl ?_
          refine x_reti rfl rfl ?_
          refine sK_i (pc' := 1104) rfl ?_
          refine x_istore (pc' := 1106) (ls' := [_, _, _, _, _, _, _]) rfl rfl rfl rfl ?_
          refine x_aload_n (pc' := 1107) rfl rfl rfl rfl rfl ?_
          refine x_cv (ls0 := [_]) (rest := []) rfl rfl rfl rfl rfl ?_
          refine x_aload_n (pc' := 1) rfl rfl rfl rfl rfl ?_
          refine x_gI (pc' := 4) (x := 1) rfl rfl rfl sI_s ?_
          refine x_reti rfl rfl ?_
          refine sK_i (pc' := 1110) rfl ?_
          refine x_iload (pc' := 1112) rfl rfl rfl ?_
          refine x_icmp (a' := 1117) (pc' := 1115) (z := true) rfl rfl rfl (by decide) (fun _ => ?_) (fun h => by cases h)
          refine x_iload (pc' := 1119) rfl rfl rfl ?_
          refine x_if (a' := 1134) (pc' := 1122) (z := true) rfl rfl rfl (by decide) (fun _ => ?_) (fun h => by cases h)
          refine x_goto (pc' := 2938) rfl rfl ?_
          refine x_iinc (pc' := 2941) (y := 7) (ls' := [_, _, _, _, _, _, _]) rfl rfl rfl rfl rfl ?_
          refine x_goto (pc' := 23) rfl rfl ?_
          refine x_iload (pc' := 25) rfl rfl rfl ?_
          refine x_aload_n (pc' := 26) rfl rfl rfl rfl rfl ?_
          refine x_alen (pc' := 27) (N := 7) rfl rfl rfl (Eq.trans rdNI (Eq.trans rdNthr (z_N_29_0 e))) (?_ : X _ _ _ (.inl 7 :: _) _ _)
          refine x_bipush (pc' := 29) rfl rfl ?_
          refine x_isub (pc' := 30) (z := 0) rfl rfl (by decide) ?_
          refine x_icmp (a' := 2944) (pc' := 33) (z := true) rfl rfl rfl (by decide) (fun _ => ?_) (fun h => by cases h)
          refine x_iconst (pc' := 2945) rfl rfl ?_
          refine x_retz (z := true) rfl rfl ?_
          exact Qp_ok e (p := 1) (q := 6) rfl rfl rfl rfl
        refine x_ifeq_z (a' := 31) (pc' := 16) (z := (!(decide ((xs 4) < 1)) && (!(decide (999 < (xs 4)))))) rfl rfl rfl (fun q16 => ?_) (fun q16 => ?_)
        · refine x_iconst (pc' := 32) rfl rfl ?_
          ((try rw [q16] at J20); (try rw [q16]); (try simp only [cd_t, cd_f, nt_t, nt_f, an_t, an_f, or_t, or_f] at J20); (try simp only [cd_t, cd_f, nt_t, nt_f, an_t, an_f, or_t, or_f]); exact J20)
        · refine x_iload (pc' := 18) rfl rfl rfl ?_
          refine x_iconst (pc' := 19) rfl rfl ?_
          refine x_bipush (pc' := 21) rfl rfl ?_
          refine x_cs (ls0 := [_, _, _]) (rest := []) rfl rfl rfl rfl ?_
          refine x_iload_n (pc' := 1) rfl rfl rfl ?_
          refine x_iload_n (pc' := 2) rfl rfl rfl ?_
          have J18 : X 145 15 [.inl (xs 5), .inl 1, .inl 100] [.inl (bz (!(decide ((xs 5) < 1)) && (!(decide (100 < (xs 5))))))] (sThr t) (sK 145 205 21 [.inr (.inr (12, (some 0))), .inl (xs 1), .inl 0, .inl (bz (!(decide ((xs 3) = 0)))), .inl (xs 4), .inl (xs 5), sJk, sJk] [] (sK 205 297 1101 [.inr (.inr (29, (some 0))), .inr (.inr (11, (some 0))), .inr (.inr (12, (some 0))), .inr (.inr (23, (some 0))), .inl 0, .inl 1, sJk] [] Qp)) := by
            refine x_retz (z := (!(decide ((xs 5) < 1)) && (!(decide (100 < (xs 5)))))) rfl rfl ?_
            refine sK_i (pc' := 24) rfl ?_
            refine x_ifeq_z (a' := 31) (pc' := 27) (z := (!(decide ((xs 5) < 1)) && (!(decide (100 < (xs 5)))))) rfl rfl rfl (fun q20 => ?_) (fun q20 => ?_)
            · refine x_iconst (pc' := 32) rfl rfl ?_
              ((try rw [q16] at J20); (try rw [q16]); (try rw [q20] at J20); (try rw [q20]); (try simp only [cd_t, cd_f, nt_t, nt_f, an_t, an_f, or_t, or_f] at J20); (try simp only [cd_t, cd_f, nt_t, nt_f, an_t, an_f, or_t, or_f]); exact J20)
            · refine x_iconst (pc' := 28) rfl rfl ?_
              refine x_goto (pc' := 32) rfl rfl ?_
              ((try rw [q16] at J20); (try rw [q16]); (try rw [q20] at J20); (try rw [q20]); (try simp only [cd_t, cd_f, nt_t, nt_f, an_t, an_f, or_t, or_f] at J20); (try simp only [cd_t, cd_f, nt_t, nt_f, an_t, an_f, or_t, or_f]); exact J20)
          refine x_icmp (a' := 14) (pc' := 5) (z := decide ((xs 5) < 1)) rfl rfl rfl rfl (fun q17 => ?_) (fun q17 => ?_)
          · refine x_iconst (pc' := 15) rfl rfl ?_
            ((try rw [q17] at J18); (try rw [q17]); (try simp only [cd_t, cd_f, nt_t, nt_f, an_t, an_f, or_t, or_f] at J18); (try simp only [cd_t, cd_f, nt_t, nt_f, an_t, an_f, or_t, or_f]); exact J18)
          · refine x_iload_n (pc' := 6) rfl rfl rfl ?_
            refine x_iload_n (pc' := 7) rfl rfl rfl ?_
            refine x_icmp (a' := 14) (pc' := 10) (z := decide (100 < (xs 5))) rfl rfl rfl rfl (fun q18 => ?_) (fun q18 => ?_)
            · refine x_iconst (pc' := 15) rfl rfl ?_
              ((try rw [q17] at J18); (try rw [q17]); (try rw [q18] at J18); (try rw [q18]); (try simp only [cd_t, cd_f, nt_t, nt_f, an_t, an_f, or_t, or_f] at J18); (try simp only [cd_t, cd_f, nt_t, nt_f, an_t, an_f, or_t, or_f]); exact J18)
            · refine x_iconst (pc' := 11) rfl rfl ?_
              refine x_goto (pc' := 15) rfl rfl ?_
              ((try rw [q17] at J18); (try rw [q17]); (try rw [q18] at J18); (try rw [q18]); (try simp only [cd_t, cd_f, nt_t, nt_f, an_t, an_f, or_t, or_f] at J18); (try simp only [cd_t, cd_f, nt_t, nt_f, an_t, an_f, or_t, or_f]); exact J18)
      refine x_icmp (a' := 14) (pc' := 5) (z := decide ((xs 4) < 1)) rfl rfl rfl rfl (fun q13 => ?_) (fun q13 => ?_)
      · refine x_iconst (pc' := 15) rfl rfl ?_
        ((try rw [q13] at J14); (try rw [q13]); (try simp only [cd_t, cd_f, nt_t, nt_f, an_t, an_f, or_t, or_f] at J14); (try simp only [cd_t, cd_f, nt_t, nt_f, an_t, an_f, or_t, or_f]); exact J14)
      · refine x_iload_n (pc' := 6) rfl rfl rfl ?_
        refine x_iload_n (pc' := 7) rfl rfl rfl ?_
        refine x_icmp (a' := 14) (pc' := 10) (z := decide (999 < (xs 4))) rfl rfl rfl rfl (fun q14 => ?_) (fun q14 => ?_)
        · refine x_iconst (pc' := 15) rfl rfl ?_
          ((try rw [q13] at J14); (try rw [q13]); (try rw [q14] at J14); (try rw [q14]); (try simp only [cd_t, cd_f, nt_t, nt_f, an_t, an_f, or_t, or_f] at J14); (try simp only [cd_t, cd_f, nt_t, nt_f, an_t, an_f, or_t, or_f]); exact J14)
        · refine x_iconst (pc' := 11) rfl rfl ?_
          refine x_goto (pc' := 15) rfl rfl ?_
          ((try rw [q13] at J14); (try rw [q13]); (try rw [q14] at J14); (try rw [q14]); (try simp only [cd_t, cd_f, nt_t, nt_f, an_t, an_f, or_t, or_f] at J14); (try simp only [cd_t, cd_f, nt_t, nt_f, an_t, an_f, or_t, or_f]); exact J14)
    refine x_if (a' := 1088) (pc' := 1084) (z := decide ((xs 3) = 0)) rfl rfl rfl rfl (fun q7 => ?_) (fun q7 => ?_)
    · refine x_iconst (pc' := 1089) rfl rfl ?_
      ((try rw [q7] at J7); (try rw [q7]); (try simp only [cd_t, cd_f, nt_t, nt_f, an_t, an_f, or_t, or_f] at J7); (try simp only [cd_t, cd_f, nt_t, nt_f, an_t, an_f, or_t, or_f]); exact J7)
    · refine x_iconst (pc' := 1085) rfl rfl ?_
      refine x_goto (pc' := 1089) rfl rfl ?_
      ((try rw [q7] at J7); (try rw [q7]); (try simp only [cd_t, cd_f, nt_t, nt_f, an_t, an_f, or_t, or_f] at J7); (try simp only [cd_t, cd_f, nt_t, nt_f, an_t, an_f, or_t, or_f]); exact J7)
  refine x_if (a' := 1043) (pc' := 1039) (z := decide ((xs 3) = 0)) rfl rfl rfl rfl (fun q3 => ?_) (fun q3 => ?_)
  · refine x_iconst (pc' := 1044) rfl rfl ?_
    ((try rw [q3] at J3); (try rw [q3]); (try simp only [cd_t, cd_f, nt_t, nt_f, an_t, an_f, or_t, or_f] at J3); (try simp only [cd_t, cd_f, nt_t, nt_f, an_t, an_f, or_t, or_f]); exact J3)
  · refine x_iconst (pc' := 1040) rfl rfl ?_
    refine x_goto (pc' := 1044) rfl rfl ?_
    ((try rw [q3] at J3); (try rw [q3]); (try simp only [cd_t, cd_f, nt_t, nt_f, an_t, an_f, or_t, or_f] at J3); (try simp only [cd_t, cd_f, nt_t, nt_f, an_t, an_f, or_t, or_f]); exact J3)
set_option maxHeartbeats 4000000 in
set_option maxRecDepth 10000 in
theorem v_11_B_1_i_i_i {t : sT} {xs : Nat → Int32}
    (e : t = T16 7 xs)
    (hk : ((xs 0) &&& 63) = 11)
    (e0 : ¬ (xs 1) < 0)
    (f0 : ¬ (xs 1) < 6)
    (e1 : xs 2 = 1) :
    X 297 23 [.inr (.inr (29, (some 0))), .inr (.inr (11, (some 0))), .inr (.inr (12, (some 0))), .inr (.inr (23, (some 0))), .inl 0, sJk, sJk] [] t Qp := by
  refine x_iload (pc' := 25) rfl rfl rfl ?_
  refine x_aload_n (pc' := 26) rfl rfl rfl rfl rfl ?_
  refine x_alen (pc' := 27) (N := 7) rfl rfl rfl (z_N_29_0 e) (?_ : X _ _ _ (.inl 7 :: _) _ _)
  refine x_bipush (pc' := 29) rfl rfl ?_
  refine x_isub (pc' := 30) (z := 0) rfl rfl (by decide) ?_
  refine x_icmp (a' := 2944) (pc' := 33) (z := false) rfl rfl rfl (by decide) (fun h => by cases h) (fun _ => ?_)
  refine x_aload_n (pc' := 34) rfl rfl rfl rfl rfl ?_
  refine x_iload (pc' := 36) rfl rfl rfl ?_
  refine x_iald (pc' := 37) (N := 7) (x := (xs 0)) rfl rfl rfl (z_N_29_0 e) (io_in (p := 0) (N := 7) (by decide) (by decide)) (Eq.trans (congrArg (sA t 29 0) (nn_io (p := 0) (by decide))) (z_A_29_0_0 e)) ?_
  refine x_bipush (pc' := 39) rfl rfl ?_
  refine x_iand (pc' := 40) (z := ((xs 0) &&& 63)) rfl rfl rfl ?_
  refine x_switch (pc' := 1017) rfl (by rw [hk]; decide) ?_
  refine x_aload_n (pc' := 1018) rfl rfl rfl rfl rfl ?_
  refine x_aload_n (pc' := 1019) rfl rfl rfl rfl rfl ?_
  refine x_iload (pc' := 1021) rfl rfl rfl ?_
  refine x_iconst (pc' := 1022) rfl rfl ?_
  refine x_iadd (pc' := 1023) (z := 1) rfl rfl (by decide) ?_
  refine x_iald (pc' := 1024) (N := 7) (x := (xs 1)) rfl rfl rfl (z_N_29_0 e) (io_in (p := 1) (N := 7) (by decide) (by decide)) (Eq.trans (congrArg (sA t 29 0) (nn_io (p := 1) (by decide))) (z_A_29_0_1 e)) ?_
  refine x_aload_n (pc' := 1025) rfl rfl rfl rfl rfl ?_
  refine x_iload (pc' := 1027) rfl rfl rfl ?_
  refine x_iconst (pc' := 1028) rfl rfl ?_
  refine x_iadd (pc' := 1029) (z := 2) rfl rfl (by decide) ?_
  refine x_iald (pc' := 1030) (N := 7) (x := 1) rfl rfl rfl (z_N_29_0 e) (io_in (p := 2) (N := 7) (by decide) (by decide)) (Eq.trans (congrArg (sA t 29 0) (nn_io (p := 2) (by decide))) (Eq.trans (z_A_29_0_2 e) e1)) ?_
  refine x_aload_n (pc' := 1031) rfl rfl rfl rfl rfl ?_
  refine x_iload (pc' := 1033) rfl rfl rfl ?_
  refine x_iconst (pc' := 1034) rfl rfl ?_
  refine x_iadd (pc' := 1035) (z := 3) rfl rfl (by decide) ?_
  refine x_iald (pc' := 1036) (N := 7) (x := (xs 3)) rfl rfl rfl (z_N_29_0 e) (io_in (p := 3) (N := 7) (by decide) (by decide)) (Eq.trans (congrArg (sA t 29 0) (nn_io (p := 3) (by decide))) (z_A_29_0_3 e)) ?_
  have J3 : X 297 1044 [.inr (.inr (29, (some 0))), .inr (.inr (11, (some 0))), .inr (.inr (12, (some 0))), .inr (.inr (23, (some 0))), .inl 0, sJk, sJk] [.inl (bz (!(decide ((xs 3) = 0)))), .inl 1, .inl (xs 1), .inr (.inr (11, (some 0)))] t Qp := by
    refine x_aload_n (pc' := 1045) rfl rfl rfl rfl rfl ?_
    refine x_iload (pc' := 1047) rfl rfl rfl ?_
    refine x_iconst (pc' := 1048) rfl rfl ?_
    refine x_iadd (pc' := 1049) (z := 4) rfl rfl (by decide) ?_
    refine x_iald (pc' := 1050) (N := 7) (x := (xs 4)) rfl rfl rfl (z_N_29_0 e) (io_in (p := 4) (N := 7) (by decide) (by decide)) (Eq.trans (congrArg (sA t 29 0) (nn_io (p := 4) (by decide))) (z_A_29_0_4 e)) ?_
    refine x_aload_n (pc' := 1051) rfl rfl rfl rfl rfl ?_
    refine x_iload (pc' := 1053) rfl rfl rfl ?_
    refine x_iconst (pc' := 1054) rfl rfl ?_
    refine x_iadd (pc' := 1055) (z := 5) rfl rfl (by decide) ?_
    refine x_iald (pc' := 1056) (N := 7) (x := (xs 5)) rfl rfl rfl (z_N_29_0 e) (io_in (p := 5) (N := 7) (by decide) (by decide)) (Eq.trans (congrArg (sA t 29 0) (nn_io (p := 5) (by decide))) (z_A_29_0_5 e)) ?_
    refine x_aload_n (pc' := 1057) rfl rfl rfl rfl rfl ?_
    refine x_cs (ls0 := [_, _, _, _, _, _, _, sJk]) (rest := []) rfl rfl rfl rfl ?_
    refine x_aload (pc' := 2) rfl rfl rfl rfl rfl ?_
    refine x_iconst (pc' := 3) rfl rfl ?_
    refine x_aload_n (pc' := 4) rfl rfl rfl rfl rfl ?_
    refine x_iload_n (pc' := 5) rfl rfl rfl ?_
    refine x_iload_n (pc' := 6) rfl rfl rfl ?_
    refine x_iload_n (pc' := 7) rfl rfl rfl ?_
    refine x_iload (pc' := 9) rfl rfl rfl ?_
    refine x_iload (pc' := 11) rfl rfl rfl ?_
    refine x_cv (ls0 := [_, _, _, _, _, _, sJk, sJk, sJk]) (rest := [_, _]) rfl rfl rfl rfl rfl ?_
    refine x_aload_n (pc' := 1) rfl rfl rfl rfl rfl ?_
    refine x_iload_n (pc' := 2) rfl rfl rfl ?_
    refine x_cv (ls0 := [_, _]) (rest := []) rfl rfl rfl rfl rfl ?_
    refine x_iload_n (pc' := 1) rfl rfl rfl ?_
    refine x_if (a' := 16) (pc' := 4) (z := decide ((xs 1) < 0)) rfl rfl rfl rfl (fun h => absurd (of_decide_eq_true h) e0) (fun _ => ?_)
    refine x_iload_n (pc' := 5) rfl rfl rfl ?_
    refine x_aload_n (pc' := 6) rfl rfl rfl rfl rfl ?_
    refine x_gR (pc' := 9) (r := (some 0)) rfl rfl rfl (z_R_704_0 e) ?_
    refine x_gR (pc' := 12) (r := (some 0)) rfl rfl rfl (z_R_321_0 e) ?_
    refine x_alen (pc' := 13) (N := 6) rfl rfl rfl (z_N_26_0 e) (?_ : X _ _ _ (.inl 6 :: _) _ _)
    refine x_icmp (a' := 27) (pc' := 16) (z := decide ((xs 1) < 6)) rfl rfl rfl rfl (fun h => absurd (of_decide_eq_true h) f0) (fun _ => ?_)
    refine x_throw rfl rfl ?_
    refine sK_n (by decide +kernel) rfl ?_
    refine sK_h (h := 19) (by decide +kernel) rfl ?_
    refine x_catch (pc' := 21) (ls' := [_, _, _, _, _, _, _, _]) rfl rfl rfl rfl ?_
    refine x_iconst (pc' := 22) rfl rfl ?_
    refine x_reti rfl rfl ?_
    refine sK_i (pc' := 1060) rfl ?_
    refine x_istore (pc' := 1062) (ls' := [_, _, _, _, _, _, _]) rfl rfl rfl rfl ?_
    refine x_aload_n (pc' := 1063) rfl rfl rfl rfl rfl ?_
    refine x_aload_n (pc' := 1064) rfl rfl rfl rfl rfl ?_
    refine x_iload (pc' := 1066) rfl rfl rfl ?_
    refine x_iconst (pc' := 1067) rfl rfl ?_
    refine x_iadd (pc' := 1068) (z := 1) rfl rfl (by decide) ?_
    refine x_iald (pc' := 1069) (N := 7) (x := (xs 1)) rfl rfl rfl (Eq.trans rdNthr (z_N_29_0 e)) (io_in (p := 1) (N := 7) (by decide) (by decide)) (Eq.trans (congrArg (sA (sThr t) 29 0) (nn_io (p := 1) (by decide))) (Eq.trans rdAthr (z_A_29_0_1 e))) ?_
    refine x_aload_n (pc' := 1070) rfl rfl rfl rfl rfl ?_
    refine x_iload (pc' := 1072) rfl rfl rfl ?_
    refine x_iconst (pc' := 1073) rfl rfl ?_
    refine x_iadd (pc' := 1074) (z := 2) rfl rfl (by decide) ?_
    refine x_iald (pc' := 1075) (N := 7) (x := 1) rfl rfl rfl (Eq.trans rdNthr (z_N_29_0 e)) (io_in (p := 2) (N := 7) (by decide) (by decide)) (Eq.trans (congrArg (sA (sThr t) 29 0) (nn_io (p := 2) (by decide))) (Eq.trans rdAthr (Eq.trans (z_A_29_0_2 e) e1))) ?_
    refine x_aload_n (pc' := 1076) rfl rfl rfl rfl rfl ?_
    refine x_iload (pc' := 1078) rfl rfl rfl ?_
    refine x_iconst (pc' := 1079) rfl rfl ?_
    refine x_iadd (pc' := 1080) (z := 3) rfl rfl (by decide) ?_
    refine x_iald (pc' := 1081) (N := 7) (x := (xs 3)) rfl rfl rfl (Eq.trans rdNthr (z_N_29_0 e)) (io_in (p := 3) (N := 7) (by decide) (by decide)) (Eq.trans (congrArg (sA (sThr t) 29 0) (nn_io (p := 3) (by decide))) (Eq.trans rdAthr (z_A_29_0_3 e))) ?_
    have J7 : X 297 1089 [.inr (.inr (29, (some 0))), .inr (.inr (11, (some 0))), .inr (.inr (12, (some 0))), .inr (.inr (23, (some 0))), .inl 0, .inl 1, sJk] [.inl (bz (!(decide ((xs 3) = 0)))), .inl 1, .inl (xs 1), .inr (.inr (12, (some 0)))] (sThr t) Qp := by
      refine x_aload_n (pc' := 1090) rfl rfl rfl rfl rfl ?_
      refine x_iload (pc' := 1092) rfl rfl rfl ?_
      refine x_iconst (pc' := 1093) rfl rfl ?_
      refine x_iadd (pc' := 1094) (z := 4) rfl rfl (by decide) ?_
      refine x_iald (pc' := 1095) (N := 7) (x := (xs 4)) rfl rfl rfl (Eq.trans rdNthr (z_N_29_0 e)) (io_in (p := 4) (N := 7) (by decide) (by decide)) (Eq.trans (congrArg (sA (sThr t) 29 0) (nn_io (p := 4) (by decide))) (Eq.trans rdAthr (z_A_29_0_4 e))) ?_
      refine x_aload_n (pc' := 1096) rfl rfl rfl rfl rfl ?_
      refine x_iload (pc' := 1098) rfl rfl rfl ?_
      refine x_iconst (pc' := 1099) rfl rfl ?_
      refine x_iadd (pc' := 1100) (z := 5) rfl rfl (by decide) ?_
      refine x_iald (pc' := 1101) (N := 7) (x := (xs 5)) rfl rfl rfl (Eq.trans rdNthr (z_N_29_0 e)) (io_in (p := 5) (N := 7) (by decide) (by decide)) (Eq.trans (congrArg (sA (sThr t) 29 0) (nn_io (p := 5) (by decide))) (Eq.trans rdAthr (z_A_29_0_5 e))) ?_
      refine x_cv (ls0 := [_, _, _, _, _, _, sJk, sJk]) (rest := []) rfl rfl rfl rfl rfl ?_
      refine x_iload_n (pc' := 1) rfl rfl rfl ?_
      refine x_cs (ls0 := [_]) (rest := []) rfl rfl rfl rfl ?_
      refine x_iload_n (pc' := 1) rfl rfl rfl ?_
      refine x_iconst (pc' := 2) rfl rfl ?_
      refine x_iconst (pc' := 3) rfl rfl ?_
      refine x_cs (ls0 := [_, _, _]) (rest := []) rfl rfl rfl rfl ?_
      refine x_iload_n (pc' := 1) rfl rfl rfl ?_
      refine x_iload_n (pc' := 2) rfl rfl rfl ?_
      refine x_icmp (a' := 14) (pc' := 5) (z := false) rfl rfl rfl (by decide) (fun h => by cases h) (fun _ => ?_)
      refine x_iload_n (pc' := 6) rfl rfl rfl ?_
      refine x_iload_n (pc' := 7) rfl rfl rfl ?_
      refine x_icmp (a' := 14) (pc' := 10) (z := false) rfl rfl rfl (by decide) (fun h => by cases h) (fun _ => ?_)
      refine x_iconst (pc' := 11) rfl rfl ?_
      refine x_goto (pc' := 15) rfl rfl ?_
      refine x_retz (z := true) rfl rfl ?_
      refine sK_i (pc' := 6) rfl ?_
      refine x_retz (z := true) rfl rfl ?_
      refine sK_i (pc' := 4) rfl ?_
      refine x_if (a' := 31) (pc' := 7) (z := false) rfl rfl rfl (by decide) (fun h => by cases h) (fun _ => ?_)
      refine x_iload_n (pc' := 8) rfl rfl rfl ?_
      refine x_iload (pc' := 10) rfl rfl rfl ?_
      refine x_cs (ls0 := [_, _]) (rest := []) rfl rfl rfl rfl ?_
      refine x_iload_n (pc' := 1) rfl rfl rfl ?_
      refine x_iconst (pc' := 2) rfl rfl ?_
      refine x_icmp (a' := 16) (pc' := 5) (z := false) rfl rfl rfl (by decide) (fun h => by cases h) (fun _ => ?_)
      refine x_iload_n (pc' := 6) rfl rfl rfl ?_
      refine x_iconst (pc' := 7) rfl rfl ?_
      refine x_sipush (pc' := 10) rfl rfl ?_
      refine x_cs (ls0 := [_, _, _]) (rest := []) rfl rfl rfl rfl ?_
      refine x_iload_n (pc' := 1) rfl rfl rfl ?_
      refine x_iload_n (pc' := 2) rfl rfl rfl ?_
      have J14 : X 145 15 [.inl (xs 4), .inl 1, .inl 999] [.inl (bz (!(decide ((xs 4) < 1)) && (!(decide (999 < (xs 4))))))] (sThr t) (sK 145 150 10 [.inl 1, .inl (xs 4)] [] (sK 150 205 10 [.inr (.inr (12, (some 0))), .inl (xs 1), .inl 1, .inl (bz (!(decide ((xs 3) = 0)))), .inl (xs 4), .inl (xs 5), sJk, sJk] [] (sK 205 297 1101 [.inr (.inr (29, (some 0))), .inr (.inr (11, (some 0))), .inr (.inr (12, (some 0))), .inr (.inr (23, (some 0))), .inl 0, .inl 1, sJk] [] Qp))) := by
        refine x_retz (z := (!(decide ((xs 4) < 1)) && (!(decide (999 < (xs 4)))))) rfl rfl ?_
        refine sK_i (pc' := 13) rfl ?_
        refine x_goto (pc' := 26) rfl rfl ?_
        refine x_retz (z := (!(decide ((xs 4) < 1)) && (!(decide (999 < (xs 4)))))) rfl rfl ?_
        refine sK_i (pc' := 13) rfl ?_
        have J20 : X 205 32 [.inr (.inr (12, (some 0))), .inl (xs 1), .inl 1, .inl (bz (!(decide ((xs 3) = 0)))), .inl (xs 4), .inl (xs 5), sJk, sJk] [.inl (bz ((!(decide ((xs 4) < 1)) && (!(decide (999 < (xs 4))))) && (!(decide ((xs 5) < 1)) && (!(decide (100 < (xs 5)))))))] (sThr t) (sK 205 297 1101 [.inr (.inr (29, (some 0))), .inr (.inr (11, (some 0))), .inr (.inr (12, (some 0))), .inr (.inr (23, (some 0))), .inl 0, .inl 1, sJk] [] Qp) := by
          refine x_istore (pc' := 34) (ls' := [_, _, _, _, _, _, _, _]) rfl rfl rfl rfl ?_
          refine x_iload_n (pc' := 35) rfl rfl rfl ?_
          refine x_cs (ls0 := [_]) (rest := []) rfl rfl rfl rfl ?_
          refine x_iload_n (pc' := 1) rfl rfl rfl ?_
          refine x_iconst (pc' := 2) rfl rfl ?_
          refine x_iconst (pc' := 3) rfl rfl ?_
          refine x_cs (ls0 := [_, _, _]) (rest := []) rfl rfl rfl rfl ?_
          refine x_iload_n (pc' := 1) rfl rfl rfl ?_
          refine x_iload_n (pc' := 2) rfl rfl rfl ?_
          refine x_icmp (a' := 14) (pc' := 5) (z := false) rfl rfl rfl (by decide) (fun h => by cases h) (fun _ => ?_)
          refine x_iload_n (pc' := 6) rfl rfl rfl ?_
          refine x_iload_n (pc' := 7) rfl rfl rfl ?_
          refine x_icmp (a' := 14) (pc' := 10) (z := false) rfl rfl rfl (by decide) (fun h => by cases h) (fun _ => ?_)
          refine x_iconst (pc' := 11) rfl rfl ?_
          refine x_goto (pc' := 15) rfl rfl ?_
          refine x_retz (z := true) rfl rfl ?_
          refine sK_i (pc' := 6) rfl ?_
          refine x_retz (z := true) rfl rfl ?_
          refine sK_i (pc' := 38) rfl ?_
          refine x_if (a' := 65) (pc' := 41) (z := false) rfl rfl rfl (by decide) (fun h => by cases h) (fun _ => ?_)
          refine x_aload_n (pc' := 42) rfl rfl rfl rfl rfl ?_
          refine x_gR (pc' := 45) (r := (some 0)) rfl rfl rfl (Eq.trans rdRthr (z_R_769_0 e)) ?_
          refine x_iload_n (pc' := 46) rfl rfl rfl ?_
          refine x_iald (pc' := 47) (N := 5) (x := 0) rfl rfl rfl (Eq.trans rdNthr (z_N_21_0 e)) (io_in (p := 1) (N := 5) (by decide) (by decide)) (Eq.trans (congrArg (sA (sThr t) 21 0) (nn_io (p := 1) (by decide))) (Eq.trans rdAthr (z_A_21_0_1 e))) ?_
          refine x_iconst (pc' := 48) rfl rfl ?_
          refine x_icmp (a' := 65) (pc' := 51) (z := true) rfl rfl rfl (by decide) (fun _ => ?_) (fun h => by cases h)
          refine x_iconst (pc' := 66) rfl rfl ?_
          refine x_istore (pc' := 68) (ls' := [_, _, _, _, _, _, _, _]) rfl rfl rfl rfl ?_
          refine x_aload_n (pc' := 69) rfl rfl rfl rfl rfl ?_
          refine x_aload_n (pc' := 70) rfl rfl rfl rfl rfl ?_
          refine x_iload_n (pc' := 71) rfl rfl rfl ?_
          refine x_iload_n (pc' := 72) rfl rfl rfl ?_
          refine x_iload (pc' := 74) rfl rfl rfl ?_
          refine x_iload (pc' := 76) rfl rfl rfl ?_
          refine x_cv (ls0 := [_, _, _, _, _, sJk]) (rest := [_]) rfl rfl rfl rfl rfl ?_
          refine x_iload_n (pc' := 1) rfl rfl rfl ?_
          refine x_cs (ls0 := [_]) (rest := []) rfl rfl rfl rfl ?_
          refine x_iload_n (pc' := 1) rfl rfl rfl ?_
          refine x_iconst (pc' := 2) rfl rfl ?_
          refine x_iconst (pc' := 3) rfl rfl ?_
          refine x_cs (ls0 := [_, _, _]) (rest := []) rfl rfl rfl rfl ?_
          refine x_iload_n (pc' := 1) rfl rfl rfl ?_
          refine x_iload_n (pc' := 2) rfl rfl rfl ?_
          refine x_icmp (a' := 14) (pc' := 5) (z := decide ((xs 1) < 0)) rfl rfl rfl rfl (fun h => absurd (of_decide_eq_true h) e0) (fun _ => ?_)
          refine x_iload_n (pc' := 6) rfl rfl rfl ?_
          refine x_iload_n (pc' := 7) rfl rfl rfl ?_
          refine x_icmp (a' := 14) (pc' := 10) (z := decide (5 < (xs 1))) rfl rfl rfl rfl (fun _ => ?_) (fun h => absurd (lt_of6 f0) (of_decide_eq_false h))
          refine x_iconst (pc' := 15) rfl rfl ?_
          refine x_retz (z := false) rfl rfl ?_
          refine sK_i (pc' := 6) rfl ?_
          refine x_retz (z := false) rfl rfl ?_
          refine sK_i (pc' := 4) rfl ?_
          refine x_if (a' := 18) (pc' := 7) (z := true) rfl rfl rfl (by decide) (fun _ => ?_) (fun h => by cases h)
          refine x_iconst (pc' := 19) rfl rfl ?_
          refine x_istore (pc' := 21) (ls' := [_, _, _, _, _, _]) rfl rfl rfl rfl ?_
          refine x_iload (pc' := 23) rfl rfl rfl ?_
          refine x_if (a' := 30) (pc' := 26) (z := false) rfl rfl rfl (by decide) (fun h => by cases h) (fun _ => ?_)
          refine x_iconst (pc' := 27) rfl rfl ?_
          refine x_goto (pc' := 57) rfl rfl ?_
          refine x_reti rfl rfl ?_
          refine sK_i (pc' := 79) rfl ?_
          refine x_cv (ls0 := [_, _]) (rest := []) rfl rfl rfl rfl rfl ?_
          refine x_aload_n (pc' := 1) rfl rfl rfl rfl rfl ?_
          refine x_iload_n (pc' := 2) rfl rfl rfl ?_
          refine x_pI (pc' := 5) rfl rfl rfl ?_
          refine x_iload_n (pc' := 6) rfl rfl rfl ?_
          refine x_if (a' := 13) (pc' := 9) (z := true) rfl rfl rfl (by decide) (fun _ => ?_) (fun h => by cases h)
          refine x_iconst (pc' := 14) rfl rfl ?_
          refine x_retz (z := false) rfl rfl ?_
          refine sK_i (pc' := 82) rfl ?_
          refine x_if (a' := 102) (pc' := 85) (z := true) rfl rfl rfl (by decide) (fun _ => ?_) (fun h => by cases h)
          refine x_iconst (pc' := 103) rfl rfl ?_
          refine x_reti rfl rfl ?_
          refine sK_i (pc' := 1104) rfl ?_
          refine x_istore (pc' := 1106) (ls' := [_, _, _, _, _, _, _]) rfl rfl rfl rfl ?_
          refine x_aload_n (pc' := 1107) rfl rfl rfl rfl rfl ?_
          refine x_cv (ls0 := [_]) (rest := []) rfl rfl rfl rfl rfl ?_
          refine x_aload_n (pc' := 1) rfl rfl rfl rfl rfl ?_
          refine x_gI (pc' := 4) (x := 1) rfl rfl rfl sI_s ?_
          refine x_reti rfl rfl ?_
          refine sK_i (pc' := 1110) rfl ?_
          refine x_iload (pc' := 1112) rfl rfl rfl ?_
          refine x_icmp (a' := 1117) (pc' := 1115) (z := true) rfl rfl rfl (by decide) (fun _ => ?_) (fun h => by cases h)
          refine x_iload (pc' := 1119) rfl rfl rfl ?_
          refine x_if (a' := 1134) (pc' := 1122) (z := true) rfl rfl rfl (by decide) (fun _ => ?_) (fun h => by cases h)
          refine x_goto (pc' := 2938) rfl rfl ?_
          refine x_iinc (pc' := 2941) (y := 7) (ls' := [_, _, _, _, _, _, _]) rfl rfl rfl rfl rfl ?_
          refine x_goto (pc' := 23) rfl rfl ?_
          refine x_iload (pc' := 25) rfl rfl rfl ?_
          refine x_aload_n (pc' := 26) rfl rfl rfl rfl rfl ?_
          refine x_alen (pc' := 27) (N := 7) rfl rfl rfl (Eq.trans rdNI (Eq.trans rdNthr (z_N_29_0 e))) (?_ : X _ _ _ (.inl 7 :: _) _ _)
          refine x_bipush (pc' := 29) rfl rfl ?_
          refine x_isub (pc' := 30) (z := 0) rfl rfl (by decide) ?_
          refine x_icmp (a' := 2944) (pc' := 33) (z := true) rfl rfl rfl (by decide) (fun _ => ?_) (fun h => by cases h)
          refine x_iconst (pc' := 2945) rfl rfl ?_
          refine x_retz (z := true) rfl rfl ?_
          exact Qp_ok e (p := 1) (q := 6) rfl rfl rfl rfl
        refine x_ifeq_z (a' := 31) (pc' := 16) (z := (!(decide ((xs 4) < 1)) && (!(decide (999 < (xs 4)))))) rfl rfl rfl (fun q16 => ?_) (fun q16 => ?_)
        · refine x_iconst (pc' := 32) rfl rfl ?_
          ((try rw [q16] at J20); (try rw [q16]); (try simp only [cd_t, cd_f, nt_t, nt_f, an_t, an_f, or_t, or_f] at J20); (try simp only [cd_t, cd_f, nt_t, nt_f, an_t, an_f, or_t, or_f]); exact J20)
        · refine x_iload (pc' := 18) rfl rfl rfl ?_
          refine x_iconst (pc' := 19) rfl rfl ?_
          refine x_bipush (pc' := 21) rfl rfl ?_
          refine x_cs (ls0 := [_, _, _]) (rest := []) rfl rfl rfl rfl ?_
          refine x_iload_n (pc' := 1) rfl rfl rfl ?_
          refine x_iload_n (pc' := 2) rfl rfl rfl ?_
          have J18 : X 145 15 [.inl (xs 5), .inl 1, .inl 100] [.inl (bz (!(decide ((xs 5) < 1)) && (!(decide (100 < (xs 5))))))] (sThr t) (sK 145 205 21 [.inr (.inr (12, (some 0))), .inl (xs 1), .inl 1, .inl (bz (!(decide ((xs 3) = 0)))), .inl (xs 4), .inl (xs 5), sJk, sJk] [] (sK 205 297 1101 [.inr (.inr (29, (some 0))), .inr (.inr (11, (some 0))), .inr (.inr (12, (some 0))), .inr (.inr (23, (some 0))), .inl 0, .inl 1, sJk] [] Qp)) := by
            refine x_retz (z := (!(decide ((xs 5) < 1)) && (!(decide (100 < (xs 5)))))) rfl rfl ?_
            refine sK_i (pc' := 24) rfl ?_
            refine x_ifeq_z (a' := 31) (pc' := 27) (z := (!(decide ((xs 5) < 1)) && (!(decide (100 < (xs 5)))))) rfl rfl rfl (fun q20 => ?_) (fun q20 => ?_)
            · refine x_iconst (pc' := 32) rfl rfl ?_
              ((try rw [q16] at J20); (try rw [q16]); (try rw [q20] at J20); (try rw [q20]); (try simp only [cd_t, cd_f, nt_t, nt_f, an_t, an_f, or_t, or_f] at J20); (try simp only [cd_t, cd_f, nt_t, nt_f, an_t, an_f, or_t, or_f]); exact J20)
            · refine x_iconst (pc' := 28) rfl rfl ?_
              refine x_goto (pc' := 32) rfl rfl ?_
              ((try rw [q16] at J20); (try rw [q16]); (try rw [q20] at J20); (try rw [q20]); (try simp only [cd_t, cd_f, nt_t, nt_f, an_t, an_f, or_t, or_f] at J20); (try simp only [cd_t, cd_f, nt_t, nt_f, an_t, an_f, or_t, or_f]); exact J20)
          refine x_icmp (a' := 14) (pc' := 5) (z := decide ((xs 5) < 1)) rfl rfl rfl rfl (fun q17 => ?_) (fun q17 => ?_)
          · refine x_iconst (pc' := 15) rfl rfl ?_
            ((try rw [q17] at J18); (try rw [q17]); (try simp only [cd_t, cd_f, nt_t, nt_f, an_t, an_f, or_t, or_f] at J18); (try simp only [cd_t, cd_f, nt_t, nt_f, an_t, an_f, or_t, or_f]); exact J18)
          · refine x_iload_n (pc' := 6) rfl rfl rfl ?_
            refine x_iload_n (pc' := 7) rfl rfl rfl ?_
            refine x_icmp (a' := 14) (pc' := 10) (z := decide (100 < (xs 5))) rfl rfl rfl rfl (fun q18 => ?_) (fun q18 => ?_)
            · refine x_iconst (pc' := 15) rfl rfl ?_
              ((try rw [q17] at J18); (try rw [q17]); (try rw [q18] at J18); (try rw [q18]); (try simp only [cd_t, cd_f, nt_t, nt_f, an_t, an_f, or_t, or_f] at J18); (try simp only [cd_t, cd_f, nt_t, nt_f, an_t, an_f, or_t, or_f]); exact J18)
            · refine x_iconst (pc' := 11) rfl rfl ?_
              refine x_goto (pc' := 15) rfl rfl ?_
              ((try rw [q17] at J18); (try rw [q17]); (try rw [q18] at J18); (try rw [q18]); (try simp only [cd_t, cd_f, nt_t, nt_f, an_t, an_f, or_t, or_f] at J18); (try simp only [cd_t, cd_f, nt_t, nt_f, an_t, an_f, or_t, or_f]); exact J18)
      refine x_icmp (a' := 14) (pc' := 5) (z := decide ((xs 4) < 1)) rfl rfl rfl rfl (fun q13 => ?_) (fun q13 => ?_)
      · refine x_iconst (pc' := 15) rfl rfl ?_
        ((try rw [q13] at J14); (try rw [q13]); (try simp only [cd_t, cd_f, nt_t, nt_f, an_t, an_f, or_t, or_f] at J14); (try simp only [cd_t, cd_f, nt_t, nt_f, an_t, an_f, or_t, or_f]); exact J14)
      · refine x_iload_n (pc' := 6) rfl rfl rfl ?_
        refine x_iload_n (pc' := 7) rfl rfl rfl ?_
        refine x_icmp (a' := 14) (pc' := 10) (z := decide (999 < (xs 4))) rfl rfl rfl rfl (fun q14 => ?_) (fun q14 => ?_)
        · refine x_iconst (pc' := 15) rfl rfl ?_
          ((try rw [q13] at J14); (try rw [q13]); (try rw [q14] at J14); (try rw [q14]); (try simp only [cd_t, cd_f, nt_t, nt_f, an_t, an_f, or_t, or_f] at J14); (try simp only [cd_t, cd_f, nt_t, nt_f, an_t, an_f, or_t, or_f]); exact J14)
        · refine x_iconst (pc' := 11) rfl rfl ?_
          refine x_goto (pc' := 15) rfl rfl ?_
          ((try rw [q13] at J14); (try rw [q13]); (try rw [q14] at J14); (try rw [q14]); (try simp only [cd_t, cd_f, nt_t, nt_f, an_t, an_f, or_t, or_f] at J14); (try simp only [cd_t, cd_f, nt_t, nt_f, an_t, an_f, or_t, or_f]); exact J14)
    refine x_if (a' := 1088) (pc' := 1084) (z := decide ((xs 3) = 0)) rfl rfl rfl rfl (fun q7 => ?_) (fun q7 => ?_)
    · refine x_iconst (pc' := 1089) rfl rfl ?_
      ((try rw [q7] at J7); (try rw [q7]); (try simp only [cd_t, cd_f, nt_t, nt_f, an_t, an_f, or_t, or_f] at J7); (try simp only [cd_t, cd_f, nt_t, nt_f, an_t, an_f, or_t, or_f]); exact J7)
    · refine x_iconst (pc' := 1085) rfl rfl ?_
      refine x_goto (pc' := 1089) rfl rfl ?_
      ((try rw [q7] at J7); (try rw [q7]); (try simp only [cd_t, cd_f, nt_t, nt_f, an_t, an_f, or_t, or_f] at J7); (try simp only [cd_t, cd_f, nt_t, nt_f, an_t, an_f, or_t, or_f]); exact J7)
  refine x_if (a' := 1043) (pc' := 1039) (z := decide ((xs 3) = 0)) rfl rfl rfl rfl (fun q3 => ?_) (fun q3 => ?_)
  · refine x_iconst (pc' := 1044) rfl rfl ?_
    ((try rw [q3] at J3); (try rw [q3]); (try simp only [cd_t, cd_f, nt_t, nt_f, an_t, an_f, or_t, or_f] at J3); (try simp only [cd_t, cd_f, nt_t, nt_f, an_t, an_f, or_t, or_f]); exact J3)
  · refine x_iconst (pc' := 1040) rfl rfl ?_
    refine x_goto (pc' := 1044) rfl rfl ?_
    ((try rw [q3] at J3); (try rw [q3]); (try simp only [cd_t, cd_f, nt_t, nt_f, an_t, an_f, or_t, or_f] at J3); (try simp only [cd_t, cd_f, nt_t, nt_f, an_t, an_f, or_t, or_f]); exact J3)
set_option maxHeartbeats 4000000 in
set_option maxRecDepth 10000 in
theorem v_11_B_2_i_i_i {t : sT} {xs : Nat → Int32}
    (e : t = T16 7 xs)
    (hk : ((xs 0) &&& 63) = 11)
    (e0 : ¬ (xs 1) < 0)
    (f0 : ¬ (xs 1) < 6)
    (e1 : xs 2 = 2) :
    X 297 23 [.inr (.inr (29, (some 0))), .inr (.inr (11, (some 0))), .inr (.inr (12, (some 0))), .inr (.inr (23, (some 0))), .inl 0, sJk, sJk] [] t Qp := by
  refine x_iload (pc' := 25) rfl rfl rfl ?_
  refine x_aload_n (pc' := 26) rfl rfl rfl rfl rfl ?_
  refine x_alen (pc' := 27) (N := 7) rfl rfl rfl (z_N_29_0 e) (?_ : X _ _ _ (.inl 7 :: _) _ _)
  refine x_bipush (pc' := 29) rfl rfl ?_
  refine x_isub (pc' := 30) (z := 0) rfl rfl (by decide) ?_
  refine x_icmp (a' := 2944) (pc' := 33) (z := false) rfl rfl rfl (by decide) (fun h => by cases h) (fun _ => ?_)
  refine x_aload_n (pc' := 34) rfl rfl rfl rfl rfl ?_
  refine x_iload (pc' := 36) rfl rfl rfl ?_
  refine x_iald (pc' := 37) (N := 7) (x := (xs 0)) rfl rfl rfl (z_N_29_0 e) (io_in (p := 0) (N := 7) (by decide) (by decide)) (Eq.trans (congrArg (sA t 29 0) (nn_io (p := 0) (by decide))) (z_A_29_0_0 e)) ?_
  refine x_bipush (pc' := 39) rfl rfl ?_
  refine x_iand (pc' := 40) (z := ((xs 0) &&& 63)) rfl rfl rfl ?_
  refine x_switch (pc' := 1017) rfl (by rw [hk]; decide) ?_
  refine x_aload_n (pc' := 1018) rfl rfl rfl rfl rfl ?_
  refine x_aload_n (pc' := 1019) rfl rfl rfl rfl rfl ?_
  refine x_iload (pc' := 1021) rfl rfl rfl ?_
  refine x_iconst (pc' := 1022) rfl rfl ?_
  refine x_iadd (pc' := 1023) (z := 1) rfl rfl (by decide) ?_
  refine x_iald (pc' := 1024) (N := 7) (x := (xs 1)) rfl rfl rfl (z_N_29_0 e) (io_in (p := 1) (N := 7) (by decide) (by decide)) (Eq.trans (congrArg (sA t 29 0) (nn_io (p := 1) (by decide))) (z_A_29_0_1 e)) ?_
  refine x_aload_n (pc' := 1025) rfl rfl rfl rfl rfl ?_
  refine x_iload (pc' := 1027) rfl rfl rfl ?_
  refine x_iconst (pc' := 1028) rfl rfl ?_
  refine x_iadd (pc' := 1029) (z := 2) rfl rfl (by decide) ?_
  refine x_iald (pc' := 1030) (N := 7) (x := 2) rfl rfl rfl (z_N_29_0 e) (io_in (p := 2) (N := 7) (by decide) (by decide)) (Eq.trans (congrArg (sA t 29 0) (nn_io (p := 2) (by decide))) (Eq.trans (z_A_29_0_2 e) e1)) ?_
  refine x_aload_n (pc' := 1031) rfl rfl rfl rfl rfl ?_
  refine x_iload (pc' := 1033) rfl rfl rfl ?_
  refine x_iconst (pc' := 1034) rfl rfl ?_
  refine x_iadd (pc' := 1035) (z := 3) rfl rfl (by decide) ?_
  refine x_iald (pc' := 1036) (N := 7) (x := (xs 3)) rfl rfl rfl (z_N_29_0 e) (io_in (p := 3) (N := 7) (by decide) (by decide)) (Eq.trans (congrArg (sA t 29 0) (nn_io (p := 3) (by decide))) (z_A_29_0_3 e)) ?_
  have J3 : X 297 1044 [.inr (.inr (29, (some 0))), .inr (.inr (11, (some 0))), .inr (.inr (12, (some 0))), .inr (.inr (23, (some 0))), .inl 0, sJk, sJk] [.inl (bz (!(decide ((xs 3) = 0)))), .inl 2, .inl (xs 1), .inr (.inr (11, (some 0)))] t Qp := by
    refine x_aload_n (pc' := 1045) rfl rfl rfl rfl rfl ?_
    refine x_iload (pc' := 1047) rfl rfl rfl ?_
    refine x_iconst (pc' := 1048) rfl rfl ?_
    refine x_iadd (pc' := 1049) (z := 4) rfl rfl (by decide) ?_
    refine x_iald (pc' := 1050) (N := 7) (x := (xs 4)) rfl rfl rfl (z_N_29_0 e) (io_in (p := 4) (N := 7) (by decide) (by decide)) (Eq.trans (congrArg (sA t 29 0) (nn_io (p := 4) (by decide))) (z_A_29_0_4 e)) ?_
    refine x_aload_n (pc' := 1051) rfl rfl rfl rfl rfl ?_
    refine x_iload (pc' := 1053) rfl rfl rfl ?_
    refine x_iconst (pc' := 1054) rfl rfl ?_
    refine x_iadd (pc' := 1055) (z := 5) rfl rfl (by decide) ?_
    refine x_iald (pc' := 1056) (N := 7) (x := (xs 5)) rfl rfl rfl (z_N_29_0 e) (io_in (p := 5) (N := 7) (by decide) (by decide)) (Eq.trans (congrArg (sA t 29 0) (nn_io (p := 5) (by decide))) (z_A_29_0_5 e)) ?_
    refine x_aload_n (pc' := 1057) rfl rfl rfl rfl rfl ?_
    refine x_cs (ls0 := [_, _, _, _, _, _, _, sJk]) (rest := []) rfl rfl rfl rfl ?_
    refine x_aload (pc' := 2) rfl rfl rfl rfl rfl ?_
    refine x_iconst (pc' := 3) rfl rfl ?_
    refine x_aload_n (pc' := 4) rfl rfl rfl rfl rfl ?_
    refine x_iload_n (pc' := 5) rfl rfl rfl ?_
    refine x_iload_n (pc' := 6) rfl rfl rfl ?_
    refine x_iload_n (pc' := 7) rfl rfl rfl ?_
    refine x_iload (pc' := 9) rfl rfl rfl ?_
    refine x_iload (pc' := 11) rfl rfl rfl ?_
    refine x_cv (ls0 := [_, _, _, _, _, _, sJk, sJk, sJk]) (rest := [_, _]) rfl rfl rfl rfl rfl ?_
    refine x_aload_n (pc' := 1) rfl rfl rfl rfl rfl ?_
    refine x_iload_n (pc' := 2) rfl rfl rfl ?_
    refine x_cv (ls0 := [_, _]) (rest := []) rfl rfl rfl rfl rfl ?_
    refine x_iload_n (pc' := 1) rfl rfl rfl ?_
    refine x_if (a' := 16) (pc' := 4) (z := decide ((xs 1) < 0)) rfl rfl rfl rfl (fun h => absurd (of_decide_eq_true h) e0) (fun _ => ?_)
    refine x_iload_n (pc' := 5) rfl rfl rfl ?_
    refine x_aload_n (pc' := 6) rfl rfl rfl rfl rfl ?_
    refine x_gR (pc' := 9) (r := (some 0)) rfl rfl rfl (z_R_704_0 e) ?_
    refine x_gR (pc' := 12) (r := (some 0)) rfl rfl rfl (z_R_321_0 e) ?_
    refine x_alen (pc' := 13) (N := 6) rfl rfl rfl (z_N_26_0 e) (?_ : X _ _ _ (.inl 6 :: _) _ _)
    refine x_icmp (a' := 27) (pc' := 16) (z := decide ((xs 1) < 6)) rfl rfl rfl rfl (fun h => absurd (of_decide_eq_true h) f0) (fun _ => ?_)
    refine x_throw rfl rfl ?_
    refine sK_n (by decide +kernel) rfl ?_
    refine sK_h (h := 19) (by decide +kernel) rfl ?_
    refine x_catch (pc' := 21) (ls' := [_, _, _, _, _, _, _, _]) rfl rfl rfl rfl ?_
    refine x_iconst (pc' := 22) rfl rfl ?_
    refine x_reti rfl rfl ?_
    refine sK_i (pc' := 1060) rfl ?_
    refine x_istore (pc' := 1062) (ls' := [_, _, _, _, _, _, _]) rfl rfl rfl rfl ?_
    refine x_aload_n (pc' := 1063) rfl rfl rfl rfl rfl ?_
    refine x_aload_n (pc' := 1064) rfl rfl rfl rfl rfl ?_
    refine x_iload (pc' := 1066) rfl rfl rfl ?_
    refine x_iconst (pc' := 1067) rfl rfl ?_
    refine x_iadd (pc' := 1068) (z := 1) rfl rfl (by decide) ?_
    refine x_iald (pc' := 1069) (N := 7) (x := (xs 1)) rfl rfl rfl (Eq.trans rdNthr (z_N_29_0 e)) (io_in (p := 1) (N := 7) (by decide) (by decide)) (Eq.trans (congrArg (sA (sThr t) 29 0) (nn_io (p := 1) (by decide))) (Eq.trans rdAthr (z_A_29_0_1 e))) ?_
    refine x_aload_n (pc' := 1070) rfl rfl rfl rfl rfl ?_
    refine x_iload (pc' := 1072) rfl rfl rfl ?_
    refine x_iconst (pc' := 1073) rfl rfl ?_
    refine x_iadd (pc' := 1074) (z := 2) rfl rfl (by decide) ?_
    refine x_iald (pc' := 1075) (N := 7) (x := 2) rfl rfl rfl (Eq.trans rdNthr (z_N_29_0 e)) (io_in (p := 2) (N := 7) (by decide) (by decide)) (Eq.trans (congrArg (sA (sThr t) 29 0) (nn_io (p := 2) (by decide))) (Eq.trans rdAthr (Eq.trans (z_A_29_0_2 e) e1))) ?_
    refine x_aload_n (pc' := 1076) rfl rfl rfl rfl rfl ?_
    refine x_iload (pc' := 1078) rfl rfl rfl ?_
    refine x_iconst (pc' := 1079) rfl rfl ?_
    refine x_iadd (pc' := 1080) (z := 3) rfl rfl (by decide) ?_
    refine x_iald (pc' := 1081) (N := 7) (x := (xs 3)) rfl rfl rfl (Eq.trans rdNthr (z_N_29_0 e)) (io_in (p := 3) (N := 7) (by decide) (by decide)) (Eq.trans (congrArg (sA (sThr t) 29 0) (nn_io (p := 3) (by decide))) (Eq.trans rdAthr (z_A_29_0_3 e))) ?_
    have J7 : X 297 1089 [.inr (.inr (29, (some 0))), .inr (.inr (11, (some 0))), .inr (.inr (12, (some 0))), .inr (.inr (23, (some 0))), .inl 0, .inl 1, sJk] [.inl (bz (!(decide ((xs 3) = 0)))), .inl 2, .inl (xs 1), .inr (.inr (12, (some 0)))] (sThr t) Qp := by
      refine x_aload_n (pc' := 1090) rfl rfl rfl rfl rfl ?_
      refine x_iload (pc' := 1092) rfl rfl rfl ?_
      refine x_iconst (pc' := 1093) rfl rfl ?_
      refine x_iadd (pc' := 1094) (z := 4) rfl rfl (by decide) ?_
      refine x_iald (pc' := 1095) (N := 7) (x := (xs 4)) rfl rfl rfl (Eq.trans rdNthr (z_N_29_0 e)) (io_in (p := 4) (N := 7) (by decide) (by decide)) (Eq.trans (congrArg (sA (sThr t) 29 0) (nn_io (p := 4) (by decide))) (Eq.trans rdAthr (z_A_29_0_4 e))) ?_
      refine x_aload_n (pc' := 1096) rfl rfl rfl rfl rfl ?_
      refine x_iload (pc' := 1098) rfl rfl rfl ?_
      refine x_iconst (pc' := 1099) rfl rfl ?_
      refine x_iadd (pc' := 1100) (z := 5) rfl rfl (by decide) ?_
      refine x_iald (pc' := 1101) (N := 7) (x := (xs 5)) rfl rfl rfl (Eq.trans rdNthr (z_N_29_0 e)) (io_in (p := 5) (N := 7) (by decide) (by decide)) (Eq.trans (congrArg (sA (sThr t) 29 0) (nn_io (p := 5) (by decide))) (Eq.trans rdAthr (z_A_29_0_5 e))) ?_
      refine x_cv (ls0 := [_, _, _, _, _, _, sJk, sJk]) (rest := []) rfl rfl rfl rfl rfl ?_
      refine x_iload_n (pc' := 1) rfl rfl rfl ?_
      refine x_cs (ls0 := [_]) (rest := []) rfl rfl rfl rfl ?_
      refine x_iload_n (pc' := 1) rfl rfl rfl ?_
      refine x_iconst (pc' := 2) rfl rfl ?_
      refine x_iconst (pc' := 3) rfl rfl ?_
      refine x_cs (ls0 := [_, _, _]) (rest := []) rfl rfl rfl rfl ?_
      refine x_iload_n (pc' := 1) rfl rfl rfl ?_
      refine x_iload_n (pc' := 2) rfl rfl rfl ?_
      refine x_icmp (a' := 14) (pc' := 5) (z := false) rfl rfl rfl (by decide) (fun h => by cases h) (fun _ => ?_)
      refine x_iload_n (pc' := 6) rfl rfl rfl ?_
      refine x_iload_n (pc' := 7) rfl rfl rfl ?_
      refine x_icmp (a' := 14) (pc' := 10) (z := false) rfl rfl rfl (by decide) (fun h => by cases h) (fun _ => ?_)
      refine x_iconst (pc' := 11) rfl rfl ?_
      refine x_goto (pc' := 15) rfl rfl ?_
      refine x_retz (z := true) rfl rfl ?_
      refine sK_i (pc' := 6) rfl ?_
      refine x_retz (z := true) rfl rfl ?_
      refine sK_i (pc' := 4) rfl ?_
      refine x_if (a' := 31) (pc' := 7) (z := false) rfl rfl rfl (by decide) (fun h => by cases h) (fun _ => ?_)
      refine x_iload_n (pc' := 8) rfl rfl rfl ?_
      refine x_iload (pc' := 10) rfl rfl rfl ?_
      refine x_cs (ls0 := [_, _]) (rest := []) rfl rfl rfl rfl ?_
      refine x_iload_n (pc' := 1) rfl rfl rfl ?_
      refine x_iconst (pc' := 2) rfl rfl ?_
      refine x_icmp (a' := 16) (pc' := 5) (z := false) rfl rfl rfl (by decide) (fun h => by cases h) (fun _ => ?_)
      refine x_iload_n (pc' := 6) rfl rfl rfl ?_
      refine x_iconst (pc' := 7) rfl rfl ?_
      refine x_sipush (pc' := 10) rfl rfl ?_
      refine x_cs (ls0 := [_, _, _]) (rest := []) rfl rfl rfl rfl ?_
      refine x_iload_n (pc' := 1) rfl rfl rfl ?_
      refine x_iload_n (pc' := 2) rfl rfl rfl ?_
      have J14 : X 145 15 [.inl (xs 4), .inl 1, .inl 999] [.inl (bz (!(decide ((xs 4) < 1)) && (!(decide (999 < (xs 4))))))] (sThr t) (sK 145 150 10 [.inl 2, .inl (xs 4)] [] (sK 150 205 10 [.inr (.inr (12, (some 0))), .inl (xs 1), .inl 2, .inl (bz (!(decide ((xs 3) = 0)))), .inl (xs 4), .inl (xs 5), sJk, sJk] [] (sK 205 297 1101 [.inr (.inr (29, (some 0))), .inr (.inr (11, (some 0))), .inr (.inr (12, (some 0))), .inr (.inr (23, (some 0))), .inl 0, .inl 1, sJk] [] Qp))) := by
        refine x_retz (z := (!(decide ((xs 4) < 1)) && (!(decide (999 < (xs 4)))))) rfl rfl ?_
        refine sK_i (pc' := 13) rfl ?_
        refine x_goto (pc' := 26) rfl rfl ?_
        refine x_retz (z := (!(decide ((xs 4) < 1)) && (!(decide (999 < (xs 4)))))) rfl rfl ?_
        refine sK_i (pc' := 13) rfl ?_
        have J20 : X 205 32 [.inr (.inr (12, (some 0))), .inl (xs 1), .inl 2, .inl (bz (!(decide ((xs 3) = 0)))), .inl (xs 4), .inl (xs 5), sJk, sJk] [.inl (bz ((!(decide ((xs 4) < 1)) && (!(decide (999 < (xs 4))))) && (!(decide ((xs 5) < 1)) && (!(decide (100 < (xs 5)))))))] (sThr t) (sK 205 297 1101 [.inr (.inr (29, (some 0))), .inr (.inr (11, (some 0))), .inr (.inr (12, (some 0))), .inr (.inr (23, (some 0))), .inl 0, .inl 1, sJk] [] Qp) := by
          refine x_istore (pc' := 34) (ls' := [_, _, _, _, _, _, _, _]) rfl rfl rfl rfl ?_
          refine x_iload_n (pc' := 35) rfl rfl rfl ?_
          refine x_cs (ls0 := [_]) (rest := []) rfl rfl rfl rfl ?_
          refine x_iload_n (pc' := 1) rfl rfl rfl ?_
          refine x_iconst (pc' := 2) rfl rfl ?_
          refine x_iconst (pc' := 3) rfl rfl ?_
          refine x_cs (ls0 := [_, _, _]) (rest := []) rfl rfl rfl rfl ?_
          refine x_iload_n (pc' := 1) rfl rfl rfl ?_
          refine x_iload_n (pc' := 2) rfl rfl rfl ?_
          refine x_icmp (a' := 14) (pc' := 5) (z := false) rfl rfl rfl (by decide) (fun h => by cases h) (fun _ => ?_)
          refine x_iload_n (pc' := 6) rfl rfl rfl ?_
          refine x_iload_n (pc' := 7) rfl rfl rfl ?_
          refine x_icmp (a' := 14) (pc' := 10) (z := false) rfl rfl rfl (by decide) (fun h => by cases h) (fun _ => ?_)
          refine x_iconst (pc' := 11) rfl rfl ?_
          refine x_goto (pc' := 15) rfl rfl ?_
          refine x_retz (z := true) rfl rfl ?_
          refine sK_i (pc' := 6) rfl ?_
          refine x_retz (z := true) rfl rfl ?_
          refine sK_i (pc' := 38) rfl ?_
          refine x_if (a' := 65) (pc' := 41) (z := false) rfl rfl rfl (by decide) (fun h => by cases h) (fun _ => ?_)
          refine x_aload_n (pc' := 42) rfl rfl rfl rfl rfl ?_
          refine x_gR (pc' := 45) (r := (some 0)) rfl rfl rfl (Eq.trans rdRthr (z_R_769_0 e)) ?_
          refine x_iload_n (pc' := 46) rfl rfl rfl ?_
          refine x_iald (pc' := 47) (N := 5) (x := 0) rfl rfl rfl (Eq.trans rdNthr (z_N_21_0 e)) (io_in (p := 2) (N := 5) (by decide) (by decide)) (Eq.trans (congrArg (sA (sThr t) 21 0) (nn_io (p := 2) (by decide))) (Eq.trans rdAthr (z_A_21_0_2 e))) ?_
          refine x_iconst (pc' := 48) rfl rfl ?_
          refine x_icmp (a' := 65) (pc' := 51) (z := true) rfl rfl rfl (by decide) (fun _ => ?_) (fun h => by cases h)
          refine x_iconst (pc' := 66) rfl rfl ?_
          refine x_istore (pc' := 68) (ls' := [_, _, _, _, _, _, _, _]) rfl rfl rfl rfl ?_
          refine x_aload_n (pc' := 69) rfl rfl rfl rfl rfl ?_
          refine x_aload_n (pc' := 70) rfl rfl rfl rfl rfl ?_
          refine x_iload_n (pc' := 71) rfl rfl rfl ?_
          refine x_iload_n (pc' := 72) rfl rfl rfl ?_
          refine x_iload (pc' := 74) rfl rfl rfl ?_
          refine x_iload (pc' := 76) rfl rfl rfl ?_
          refine x_cv (ls0 := [_, _, _, _, _, sJk]) (rest := [_]) rfl rfl rfl rfl rfl ?_
          refine x_iload_n (pc' := 1) rfl rfl rfl ?_
          refine x_cs (ls0 := [_]) (rest := []) rfl rfl rfl rfl ?_
          refine x_iload_n (pc' := 1) rfl rfl rfl ?_
          refine x_iconst (pc' := 2) rfl rfl ?_
          refine x_iconst (pc' := 3) rfl rfl ?_
          refine x_cs (ls0 := [_, _, _]) (rest := []) rfl rfl rfl rfl ?_
          refine x_iload_n (pc' := 1) rfl rfl rfl ?_
          refine x_iload_n (pc' := 2) rfl rfl rfl ?_
          refine x_icmp (a' := 14) (pc' := 5) (z := decide ((xs 1) < 0)) rfl rfl rfl rfl (fun h => absurd (of_decide_eq_true h) e0) (fun _ => ?_)
          refine x_iload_n (pc' := 6) rfl rfl rfl ?_
          refine x_iload_n (pc' := 7) rfl rfl rfl ?_
          refine x_icmp (a' := 14) (pc' := 10) (z := decide (5 < (xs 1))) rfl rfl rfl rfl (fun _ => ?_) (fun h => absurd (lt_of6 f0) (of_decide_eq_false h))
          refine x_iconst (pc' := 15) rfl rfl ?_
          refine x_retz (z := false) rfl rfl ?_
          refine sK_i (pc' := 6) rfl ?_
          refine x_retz (z := false) rfl rfl ?_
          refine sK_i (pc' := 4) rfl ?_
          refine x_if (a' := 18) (pc' := 7) (z := true) rfl rfl rfl (by decide) (fun _ => ?_) (fun h => by cases h)
          refine x_iconst (pc' := 19) rfl rfl ?_
          refine x_istore (pc' := 21) (ls' := [_, _, _, _, _, _]) rfl rfl rfl rfl ?_
          refine x_iload (pc' := 23) rfl rfl rfl ?_
          refine x_if (a' := 30) (pc' := 26) (z := false) rfl rfl rfl (by decide) (fun h => by cases h) (fun _ => ?_)
          refine x_iconst (pc' := 27) rfl rfl ?_
          refine x_goto (pc' := 57) rfl rfl ?_
          refine x_reti rfl rfl ?_
          refine sK_i (pc' := 79) rfl ?_
          refine x_cv (ls0 := [_, _]) (rest := []) rfl rfl rfl rfl rfl ?_
          refine x_aload_n (pc' := 1) rfl rfl rfl rfl rfl ?_
          refine x_iload_n (pc' := 2) rfl rfl rfl ?_
          refine x_pI (pc' := 5) rfl rfl rfl ?_
          refine x_iload_n (pc' := 6) rfl rfl rfl ?_
          refine x_if (a' := 13) (pc' := 9) (z := true) rfl rfl rfl (by decide) (fun _ => ?_) (fun h => by cases h)
          refine x_iconst (pc' := 14) rfl rfl ?_
          refine x_retz (z := false) rfl rfl ?_
          refine sK_i (pc' := 82) rfl ?_
          refine x_if (a' := 102) (pc' := 85) (z := true) rfl rfl rfl (by decide) (fun _ => ?_) (fun h => by cases h)
          refine x_iconst (pc' := 103) rfl rfl ?_
          refine x_reti rfl rfl ?_
          refine sK_i (pc' := 1104) rfl ?_
          refine x_istore (pc' := 1106) (ls' := [_, _, _, _, _, _, _]) rfl rfl rfl rfl ?_
          refine x_aload_n (pc' := 1107) rfl rfl rfl rfl rfl ?_
          refine x_cv (ls0 := [_]) (rest := []) rfl rfl rfl rfl rfl ?_
          refine x_aload_n (pc' := 1) rfl rfl rfl rfl rfl ?_
          refine x_gI (pc' := 4) (x := 1) rfl rfl rfl sI_s ?_
          refine x_reti rfl rfl ?_
          refine sK_i (pc' := 1110) rfl ?_
          refine x_iload (pc' := 1112) rfl rfl rfl ?_
          refine x_icmp (a' := 1117) (pc' := 1115) (z := true) rfl rfl rfl (by decide) (fun _ => ?_) (fun h => by cases h)
          refine x_iload (pc' := 1119) rfl rfl rfl ?_
          refine x_if (a' := 1134) (pc' := 1122) (z := true) rfl rfl rfl (by decide) (fun _ => ?_) (fun h => by cases h)
          refine x_goto (pc' := 2938) rfl rfl ?_
          refine x_iinc (pc' := 2941) (y := 7) (ls' := [_, _, _, _, _, _, _]) rfl rfl rfl rfl rfl ?_
          refine x_goto (pc' := 23) rfl rfl ?_
          refine x_iload (pc' := 25) rfl rfl rfl ?_
          refine x_aload_n (pc' := 26) rfl rfl rfl rfl rfl ?_
          refine x_alen (pc' := 27) (N := 7) rfl rfl rfl (Eq.trans rdNI (Eq.trans rdNthr (z_N_29_0 e))) (?_ : X _ _ _ (.inl 7 :: _) _ _)
          refine x_bipush (pc' := 29) rfl rfl ?_
          refine x_isub (pc' := 30) (z := 0) rfl rfl (by decide) ?_
          refine x_icmp (a' := 2944) (pc' := 33) (z := true) rfl rfl rfl (by decide) (fun _ => ?_) (fun h => by cases h)
          refine x_iconst (pc' := 2945) rfl rfl ?_
          refine x_retz (z := true) rfl rfl ?_
          exact Qp_ok e (p := 1) (q := 6) rfl rfl rfl rfl
        refine x_ifeq_z (a' := 31) (pc' := 16) (z := (!(decide ((xs 4) < 1)) && (!(decide (999 < (xs 4)))))) rfl rfl rfl (fun q16 => ?_) (fun q16 => ?_)
        · refine x_iconst (pc' := 32) rfl rfl ?_
          ((try rw [q16] at J20); (try rw [q16]); (try simp only [cd_t, cd_f, nt_t, nt_f, an_t, an_f, or_t, or_f] at J20); (try simp only [cd_t, cd_f, nt_t, nt_f, an_t, an_f, or_t, or_f]); exact J20)
        · refine x_iload (pc' := 18) rfl rfl rfl ?_
          refine x_iconst (pc' := 19) rfl rfl ?_
          refine x_bipush (pc' := 21) rfl rfl ?_
          refine x_cs (ls0 := [_, _, _]) (rest := []) rfl rfl rfl rfl ?_
          refine x_iload_n (pc' := 1) rfl rfl rfl ?_
          refine x_iload_n (pc' := 2) rfl rfl rfl ?_
          have J18 : X 145 15 [.inl (xs 5), .inl 1, .inl 100] [.inl (bz (!(decide ((xs 5) < 1)) && (!(decide (100 < (xs 5))))))] (sThr t) (sK 145 205 21 [.inr (.inr (12, (some 0))), .inl (xs 1), .inl 2, .inl (bz (!(decide ((xs 3) = 0)))), .inl (xs 4), .inl (xs 5), sJk, sJk] [] (sK 205 297 1101 [.inr (.inr (29, (some 0))), .inr (.inr (11, (some 0))), .inr (.inr (12, (some 0))), .inr (.inr (23, (some 0))), .inl 0, .inl 1, sJk] [] Qp)) := by
            refine x_retz (z := (!(decide ((xs 5) < 1)) && (!(decide (100 < (xs 5)))))) rfl rfl ?_
            refine sK_i (pc' := 24) rfl ?_
            refine x_ifeq_z (a' := 31) (pc' := 27) (z := (!(decide ((xs 5) < 1)) && (!(decide (100 < (xs 5)))))) rfl rfl rfl (fun q20 => ?_) (fun q20 => ?_)
            · refine x_iconst (pc' := 32) rfl rfl ?_
              ((try rw [q16] at J20); (try rw [q16]); (try rw [q20] at J20); (try rw [q20]); (try simp only [cd_t, cd_f, nt_t, nt_f, an_t, an_f, or_t, or_f] at J20); (try simp only [cd_t, cd_f, nt_t, nt_f, an_t, an_f, or_t, or_f]); exact J20)
            · refine x_iconst (pc' := 28) rfl rfl ?_
              refine x_goto (pc' := 32) rfl rfl ?_
              ((try rw [q16] at J20); (try rw [q16]); (try rw [q20] at J20); (try rw [q20]); (try simp only [cd_t, cd_f, nt_t, nt_f, an_t, an_f, or_t, or_f] at J20); (try simp only [cd_t, cd_f, nt_t, nt_f, an_t, an_f, or_t, or_f]); exact J20)
          refine x_icmp (a' := 14) (pc' := 5) (z := decide ((xs 5) < 1)) rfl rfl rfl rfl (fun q17 => ?_) (fun q17 => ?_)
          · refine x_iconst (pc' := 15) rfl rfl ?_
            ((try rw [q17] at J18); (try rw [q17]); (try simp only [cd_t, cd_f, nt_t, nt_f, an_t, an_f, or_t, or_f] at J18); (try simp only [cd_t, cd_f, nt_t, nt_f, an_t, an_f, or_t, or_f]); exact J18)
          · refine x_iload_n (pc' := 6) rfl rfl rfl ?_
            refine x_iload_n (pc' := 7) rfl rfl rfl ?_
            refine x_icmp (a' := 14) (pc' := 10) (z := decide (100 < (xs 5))) rfl rfl rfl rfl (fun q18 => ?_) (fun q18 => ?_)
            · refine x_iconst (pc' := 15) rfl rfl ?_
              ((try rw [q17] at J18); (try rw [q17]); (try rw [q18] at J18); (try rw [q18]); (try simp only [cd_t, cd_f, nt_t, nt_f, an_t, an_f, or_t, or_f] at J18); (try simp only [cd_t, cd_f, nt_t, nt_f, an_t, an_f, or_t, or_f]); exact J18)
            · refine x_iconst (pc' := 11) rfl rfl ?_
              refine x_goto (pc' := 15) rfl rfl ?_
              ((try rw [q17] at J18); (try rw [q17]); (try rw [q18] at J18); (try rw [q18]); (try simp only [cd_t, cd_f, nt_t, nt_f, an_t, an_f, or_t, or_f] at J18); (try simp only [cd_t, cd_f, nt_t, nt_f, an_t, an_f, or_t, or_f]); exact J18)
      refine x_icmp (a' := 14) (pc' := 5) (z := decide ((xs 4) < 1)) rfl rfl rfl rfl (fun q13 => ?_) (fun q13 => ?_)
      · refine x_iconst (pc' := 15) rfl rfl ?_
        ((try rw [q13] at J14); (try rw [q13]); (try simp only [cd_t, cd_f, nt_t, nt_f, an_t, an_f, or_t, or_f] at J14); (try simp only [cd_t, cd_f, nt_t, nt_f, an_t, an_f, or_t, or_f]); exact J14)
      · refine x_iload_n (pc' := 6) rfl rfl rfl ?_
        refine x_iload_n (pc' := 7) rfl rfl rfl ?_
        refine x_icmp (a' := 14) (pc' := 10) (z := decide (999 < (xs 4))) rfl rfl rfl rfl (fun q14 => ?_) (fun q14 => ?_)
        · refine x_iconst (pc' := 15) rfl rfl ?_
          ((try rw [q13] at J14); (try rw [q13]); (try rw [q14] at J14); (try rw [q14]); (try simp only [cd_t, cd_f, nt_t, nt_f, an_t, an_f, or_t, or_f] at J14); (try simp only [cd_t, cd_f, nt_t, nt_f, an_t, an_f, or_t, or_f]); exact J14)
        · refine x_iconst (pc' := 11) rfl rfl ?_
          refine x_goto (pc' := 15) rfl rfl ?_
          ((try rw [q13] at J14); (try rw [q13]); (try rw [q14] at J14); (try rw [q14]); (try simp only [cd_t, cd_f, nt_t, nt_f, an_t, an_f, or_t, or_f] at J14); (try simp only [cd_t, cd_f, nt_t, nt_f, an_t, an_f, or_t, or_f]); exact J14)
    refine x_if (a' := 1088) (pc' := 1084) (z := decide ((xs 3) = 0)) rfl rfl rfl rfl (fun q7 => ?_) (fun q7 => ?_)
    · refine x_iconst (pc' := 1089) rfl rfl ?_
      ((try rw [q7] at J7); (try rw [q7]); (try simp only [cd_t, cd_f, nt_t, nt_f, an_t, an_f, or_t, or_f] at J7); (try simp only [cd_t, cd_f, nt_t, nt_f, an_t, an_f, or_t, or_f]); exact J7)
    · refine x_iconst (pc' := 1085) rfl rfl ?_
      refine x_goto (pc' := 1089) rfl rfl ?_
      ((try rw [q7] at J7); (try rw [q7]); (try simp only [cd_t, cd_f, nt_t, nt_f, an_t, an_f, or_t, or_f] at J7); (try simp only [cd_t, cd_f, nt_t, nt_f, an_t, an_f, or_t, or_f]); exact J7)
  refine x_if (a' := 1043) (pc' := 1039) (z := decide ((xs 3) = 0)) rfl rfl rfl rfl (fun q3 => ?_) (fun q3 => ?_)
  · refine x_iconst (pc' := 1044) rfl rfl ?_
    ((try rw [q3] at J3); (try rw [q3]); (try simp only [cd_t, cd_f, nt_t, nt_f, an_t, an_f, or_t, or_f] at J3); (try simp only [cd_t, cd_f, nt_t, nt_f, an_t, an_f, or_t, or_f]); exact J3)
  · refine x_iconst (pc' := 1040) rfl rfl ?_
    refine x_goto (pc' := 1044) rfl rfl ?_
    ((try rw [q3] at J3); (try rw [q3]); (try simp only [cd_t, cd_f, nt_t, nt_f, an_t, an_f, or_t, or_f] at J3); (try simp only [cd_t, cd_f, nt_t, nt_f, an_t, an_f, or_t, or_f]); exact J3)
set_option maxHeartbeats 4000000 in
set_option maxRecDepth 10000 in
theorem v_11_B_3_i_i_i {t : sT} {xs : Nat → Int32}
    (e : t = T16 7 xs)
    (hk : ((xs 0) &&& 63) = 11)
    (e0 : ¬ (xs 1) < 0)
    (f0 : ¬ (xs 1) < 6)
    (e1 : xs 2 = 3) :
    X 297 23 [.inr (.inr (29, (some 0))), .inr (.inr (11, (some 0))), .inr (.inr (12, (some 0))), .inr (.inr (23, (some 0))), .inl 0, sJk, sJk] [] t Qp := by
  refine x_iload (pc' := 25) rfl rfl rfl ?_
  refine x_aload_n (pc' := 26) rfl rfl rfl rfl rfl ?_
  refine x_alen (pc' := 27) (N := 7) rfl rfl rfl (z_N_29_0 e) (?_ : X _ _ _ (.inl 7 :: _) _ _)
  refine x_bipush (pc' := 29) rfl rfl ?_
  refine x_isub (pc' := 30) (z := 0) rfl rfl (by decide) ?_
  refine x_icmp (a' := 2944) (pc' := 33) (z := false) rfl rfl rfl (by decide) (fun h => by cases h) (fun _ => ?_)
  refine x_aload_n (pc' := 34) rfl rfl rfl rfl rfl ?_
  refine x_iload (pc' := 36) rfl rfl rfl ?_
  refine x_iald (pc' := 37) (N := 7) (x := (xs 0)) rfl rfl rfl (z_N_29_0 e) (io_in (p := 0) (N := 7) (by decide) (by decide)) (Eq.trans (congrArg (sA t 29 0) (nn_io (p := 0) (by decide))) (z_A_29_0_0 e)) ?_
  refine x_bipush (pc' := 39) rfl rfl ?_
  refine x_iand (pc' := 40) (z := ((xs 0) &&& 63)) rfl rfl rfl ?_
  refine x_switch (pc' := 1017) rfl (by rw [hk]; decide) ?_
  refine x_aload_n (pc' := 1018) rfl rfl rfl rfl rfl ?_
  refine x_aload_n (pc' := 1019) rfl rfl rfl rfl rfl ?_
  refine x_iload (pc' := 1021) rfl rfl rfl ?_
  refine x_iconst (pc' := 1022) rfl rfl ?_
  refine x_iadd (pc' := 1023) (z := 1) rfl rfl (by decide) ?_
  refine x_iald (pc' := 1024) (N := 7) (x := (xs 1)) rfl rfl rfl (z_N_29_0 e) (io_in (p := 1) (N := 7) (by decide) (by decide)) (Eq.trans (congrArg (sA t 29 0) (nn_io (p := 1) (by decide))) (z_A_29_0_1 e)) ?_
  refine x_aload_n (pc' := 1025) rfl rfl rfl rfl rfl ?_
  refine x_iload (pc' := 1027) rfl rfl rfl ?_
  refine x_iconst (pc' := 1028) rfl rfl ?_
  refine x_iadd (pc' := 1029) (z := 2) rfl rfl (by decide) ?_
  refine x_iald (pc' := 1030) (N := 7) (x := 3) rfl rfl rfl (z_N_29_0 e) (io_in (p := 2) (N := 7) (by decide) (by decide)) (Eq.trans (congrArg (sA t 29 0) (nn_io (p := 2) (by decide))) (Eq.trans (z_A_29_0_2 e) e1)) ?_
  refine x_aload_n (pc' := 1031) rfl rfl rfl rfl rfl ?_
  refine x_iload (pc' := 1033) rfl rfl rfl ?_
  refine x_iconst (pc' := 1034) rfl rfl ?_
  refine x_iadd (pc' := 1035) (z := 3) rfl rfl (by decide) ?_
  refine x_iald (pc' := 1036) (N := 7) (x := (xs 3)) rfl rfl rfl (z_N_29_0 e) (io_in (p := 3) (N := 7) (by decide) (by decide)) (Eq.trans (congrArg (sA t 29 0) (nn_io (p := 3) (by decide))) (z_A_29_0_3 e)) ?_
  have J3 : X 297 1044 [.inr (.inr (29, (some 0))), .inr (.inr (11, (some 0))), .inr (.inr (12, (some 0))), .inr (.inr (23, (some 0))), .inl 0, sJk, sJk] [.inl (bz (!(decide ((xs 3) = 0)))), .inl 3, .inl (xs 1), .inr (.inr (11, (some 0)))] t Qp := by
    refine x_aload_n (pc' := 1045) rfl rfl rfl rfl rfl ?_
    refine x_iload (pc' := 1047) rfl rfl rfl ?_
    refine x_iconst (pc' := 1048) rfl rfl ?_
    refine x_iadd (pc' := 1049) (z := 4) rfl rfl (by decide) ?_
    refine x_iald (pc' := 1050) (N := 7) (x := (xs 4)) rfl rfl rfl (z_N_29_0 e) (io_in (p := 4) (N := 7) (by decide) (by decide)) (Eq.trans (congrArg (sA t 29 0) (nn_io (p := 4) (by decide))) (z_A_29_0_4 e)) ?_
    refine x_aload_n (pc' := 1051) rfl rfl rfl rfl rfl ?_
    refine x_iload (pc' := 1053) rfl rfl rfl ?_
    refine x_iconst (pc' := 1054) rfl rfl ?_
    refine x_iadd (pc' := 1055) (z := 5) rfl rfl (by decide) ?_
    refine x_iald (pc' := 1056) (N := 7) (x := (xs 5)) rfl rfl rfl (z_N_29_0 e) (io_in (p := 5) (N := 7) (by decide) (by decide)) (Eq.trans (congrArg (sA t 29 0) (nn_io (p := 5) (by decide))) (z_A_29_0_5 e)) ?_
    refine x_aload_n (pc' := 1057) rfl rfl rfl rfl rfl ?_
    refine x_cs (ls0 := [_, _, _, _, _, _, _, sJk]) (rest := []) rfl rfl rfl rfl ?_
    refine x_aload (pc' := 2) rfl rfl rfl rfl rfl ?_
    refine x_iconst (pc' := 3) rfl rfl ?_
    refine x_aload_n (pc' := 4) rfl rfl rfl rfl rfl ?_
    refine x_iload_n (pc' := 5) rfl rfl rfl ?_
    refine x_iload_n (pc' := 6) rfl rfl rfl ?_
    refine x_iload_n (pc' := 7) rfl rfl rfl ?_
    refine x_iload (pc' := 9) rfl rfl rfl ?_
    refine x_iload (pc' := 11) rfl rfl rfl ?_
    refine x_cv (ls0 := [_, _, _, _, _, _, sJk, sJk, sJk]) (rest := [_, _]) rfl rfl rfl rfl rfl ?_
    refine x_aload_n (pc' := 1) rfl rfl rfl rfl rfl ?_
    refine x_iload_n (pc' := 2) rfl rfl rfl ?_
    refine x_cv (ls0 := [_, _]) (rest := []) rfl rfl rfl rfl rfl ?_
    refine x_iload_n (pc' := 1) rfl rfl rfl ?_
    refine x_if (a' := 16) (pc' := 4) (z := decide ((xs 1) < 0)) rfl rfl rfl rfl (fun h => absurd (of_decide_eq_true h) e0) (fun _ => ?_)
    refine x_iload_n (pc' := 5) rfl rfl rfl ?_
    refine x_aload_n (pc' := 6) rfl rfl rfl rfl rfl ?_
    refine x_gR (pc' := 9) (r := (some 0)) rfl rfl rfl (z_R_704_0 e) ?_
    refine x_gR (pc' := 12) (r := (some 0)) rfl rfl rfl (z_R_321_0 e) ?_
    refine x_alen (pc' := 13) (N := 6) rfl rfl rfl (z_N_26_0 e) (?_ : X _ _ _ (.inl 6 :: _) _ _)
    refine x_icmp (a' := 27) (pc' := 16) (z := decide ((xs 1) < 6)) rfl rfl rfl rfl (fun h => absurd (of_decide_eq_true h) f0) (fun _ => ?_)
    refine x_throw rfl rfl ?_
    refine sK_n (by decide +kernel) rfl ?_
    refine sK_h (h := 19) (by decide +kernel) rfl ?_
    refine x_catch (pc' := 21) (ls' := [_, _, _, _, _, _, _, _]) rfl rfl rfl rfl ?_
    refine x_iconst (pc' := 22) rfl rfl ?_
    refine x_reti rfl rfl ?_
    refine sK_i (pc' := 1060) rfl ?_
    refine x_istore (pc' := 1062) (ls' := [_, _, _, _, _, _, _]) rfl rfl rfl rfl ?_
    refine x_aload_n (pc' := 1063) rfl rfl rfl rfl rfl ?_
    refine x_aload_n (pc' := 1064) rfl rfl rfl rfl rfl ?_
    refine x_iload (pc' := 1066) rfl rfl rfl ?_
    refine x_iconst (pc' := 1067) rfl rfl ?_
    refine x_iadd (pc' := 1068) (z := 1) rfl rfl (by decide) ?_
    refine x_iald (pc' := 1069) (N := 7) (x := (xs 1)) rfl rfl rfl (Eq.trans rdNthr (z_N_29_0 e)) (io_in (p := 1) (N := 7) (by decide) (by decide)) (Eq.trans (congrArg (sA (sThr t) 29 0) (nn_io (p := 1) (by decide))) (Eq.trans rdAthr (z_A_29_0_1 e))) ?_
    refine x_aload_n (pc' := 1070) rfl rfl rfl rfl rfl ?_
    refine x_iload (pc' := 1072) rfl rfl rfl ?_
    refine x_iconst (pc' := 1073) rfl rfl ?_
    refine x_iadd (pc' := 1074) (z := 2) rfl rfl (by decide) ?_
    refine x_iald (pc' := 1075) (N := 7) (x := 3) rfl rfl rfl (Eq.trans rdNthr (z_N_29_0 e)) (io_in (p := 2) (N := 7) (by decide) (by decide)) (Eq.trans (congrArg (sA (sThr t) 29 0) (nn_io (p := 2) (by decide))) (Eq.trans rdAthr (Eq.trans (z_A_29_0_2 e) e1))) ?_
    refine x_aload_n (pc' := 1076) rfl rfl rfl rfl rfl ?_
    refine x_iload (pc' := 1078) rfl rfl rfl ?_
    refine x_iconst (pc' := 1079) rfl rfl ?_
    refine x_iadd (pc' := 1080) (z := 3) rfl rfl (by decide) ?_
    refine x_iald (pc' := 1081) (N := 7) (x := (xs 3)) rfl rfl rfl (Eq.trans rdNthr (z_N_29_0 e)) (io_in (p := 3) (N := 7) (by decide) (by decide)) (Eq.trans (congrArg (sA (sThr t) 29 0) (nn_io (p := 3) (by decide))) (Eq.trans rdAthr (z_A_29_0_3 e))) ?_
    have J7 : X 297 1089 [.inr (.inr (29, (some 0))), .inr (.inr (11, (some 0))), .inr (.inr (12, (some 0))), .inr (.inr (23, (some 0))), .inl 0, .inl 1, sJk] [.inl (bz (!(decide ((xs 3) = 0)))), .inl 3, .inl (xs 1), .inr (.inr (12, (some 0)))] (sThr t) Qp := by
      refine x_aload_n (pc' := 1090) rfl rfl rfl rfl rfl ?_
      refine x_iload (pc' := 1092) rfl rfl rfl ?_
      refine x_iconst (pc' := 1093) rfl rfl ?_
      refine x_iadd (pc' := 1094) (z := 4) rfl rfl (by decide) ?_
      refine x_iald (pc' := 1095) (N := 7) (x := (xs 4)) rfl rfl rfl (Eq.trans rdNthr (z_N_29_0 e)) (io_in (p := 4) (N := 7) (by decide) (by decide)) (Eq.trans (congrArg (sA (sThr t) 29 0) (nn_io (p := 4) (by decide))) (Eq.trans rdAthr (z_A_29_0_4 e))) ?_
      refine x_aload_n (pc' := 1096) rfl rfl rfl rfl rfl ?_
      refine x_iload (pc' := 1098) rfl rfl rfl ?_
      refine x_iconst (pc' := 1099) rfl rfl ?_
      refine x_iadd (pc' := 1100) (z := 5) rfl rfl (by decide) ?_
      refine x_iald (pc' := 1101) (N := 7) (x := (xs 5)) rfl rfl rfl (Eq.trans rdNthr (z_N_29_0 e)) (io_in (p := 5) (N := 7) (by decide) (by decide)) (Eq.trans (congrArg (sA (sThr t) 29 0) (nn_io (p := 5) (by decide))) (Eq.trans rdAthr (z_A_29_0_5 e))) ?_
      refine x_cv (ls0 := [_, _, _, _, _, _, sJk, sJk]) (rest := []) rfl rfl rfl rfl rfl ?_
      refine x_iload_n (pc' := 1) rfl rfl rfl ?_
      refine x_cs (ls0 := [_]) (rest := []) rfl rfl rfl rfl ?_
      refine x_iload_n (pc' := 1) rfl rfl rfl ?_
      refine x_iconst (pc' := 2) rfl rfl ?_
      refine x_iconst (pc' := 3) rfl rfl ?_
      refine x_cs (ls0 := [_, _, _]) (rest := []) rfl rfl rfl rfl ?_
      refine x_iload_n (pc' := 1) rfl rfl rfl ?_
      refine x_iload_n (pc' := 2) rfl rfl rfl ?_
      refine x_icmp (a' := 14) (pc' := 5) (z := false) rfl rfl rfl (by decide) (fun h => by cases h) (fun _ => ?_)
      refine x_iload_n (pc' := 6) rfl rfl rfl ?_
      refine x_iload_n (pc' := 7) rfl rfl rfl ?_
      refine x_icmp (a' := 14) (pc' := 10) (z := false) rfl rfl rfl (by decide) (fun h => by cases h) (fun _ => ?_)
      refine x_iconst (pc' := 11) rfl rfl ?_
      refine x_goto (pc' := 15) rfl rfl ?_
      refine x_retz (z := true) rfl rfl ?_
      refine sK_i (pc' := 6) rfl ?_
      refine x_retz (z := true) rfl rfl ?_
      refine sK_i (pc' := 4) rfl ?_
      refine x_if (a' := 31) (pc' := 7) (z := false) rfl rfl rfl (by decide) (fun h => by cases h) (fun _ => ?_)
      refine x_iload_n (pc' := 8) rfl rfl rfl ?_
      refine x_iload (pc' := 10) rfl rfl rfl ?_
      refine x_cs (ls0 := [_, _]) (rest := []) rfl rfl rfl rfl ?_
      refine x_iload_n (pc' := 1) rfl rfl rfl ?_
      refine x_iconst (pc' := 2) rfl rfl ?_
      refine x_icmp (a' := 16) (pc' := 5) (z := true) rfl rfl rfl (by decide) (fun _ => ?_) (fun h => by cases h)
      refine x_iload_n (pc' := 17) rfl rfl rfl ?_
      refine x_sipush (pc' := 20) rfl rfl ?_
      refine x_sipush (pc' := 23) rfl rfl ?_
      refine x_cs (ls0 := [_, _, _]) (rest := []) rfl rfl rfl rfl ?_
      refine x_iload_n (pc' := 1) rfl rfl rfl ?_
      refine x_iload_n (pc' := 2) rfl rfl rfl ?_
      have J14 : X 145 15 [.inl (xs 4), .inl (-500), .inl 500] [.inl (bz (!(decide ((xs 4) < (-500))) && (!(decide (500 < (xs 4))))))] (sThr t) (sK 145 150 23 [.inl 3, .inl (xs 4)] [] (sK 150 205 10 [.inr (.inr (12, (some 0))), .inl (xs 1), .inl 3, .inl (bz (!(decide ((xs 3) = 0)))), .inl (xs 4), .inl (xs 5), sJk, sJk] [] (sK 205 297 1101 [.inr (.inr (29, (some 0))), .inr (.inr (11, (some 0))), .inr (.inr (12, (some 0))), .inr (.inr (23, (some 0))), .inl 0, .inl 1, sJk] [] Qp))) := by
        refine x_retz (z := (!(decide ((xs 4) < (-500))) && (!(decide (500 < (xs 4)))))) rfl rfl ?_
        refine sK_i (pc' := 26) rfl ?_
        refine x_retz (z := (!(decide ((xs 4) < (-500))) && (!(decide (500 < (xs 4)))))) rfl rfl ?_
        refine sK_i (pc' := 13) rfl ?_
        have J20 : X 205 32 [.inr (.inr (12, (some 0))), .inl (xs 1), .inl 3, .inl (bz (!(decide ((xs 3) = 0)))), .inl (xs 4), .inl (xs 5), sJk, sJk] [.inl (bz ((!(decide ((xs 4) < (-500))) && (!(decide (500 < (xs 4))))) && (!(decide ((xs 5) < 1)) && (!(decide (100 < (xs 5)))))))] (sThr t) (sK 205 297 1101 [.inr (.inr (29, (some 0))), .inr (.inr (11, (some 0))), .inr (.inr (12, (some 0))), .inr (.inr (23, (some 0))), .inl 0, .inl 1, sJk] [] Qp) := by
          refine x_istore (pc' := 34) (ls' := [_, _, _, _, _, _, _, _]) rfl rfl rfl rfl ?_
          refine x_iload_n (pc' := 35) rfl rfl rfl ?_
          refine x_cs (ls0 := [_]) (rest := []) rfl rfl rfl rfl ?_
          refine x_iload_n (pc' := 1) rfl rfl rfl ?_
          refine x_iconst (pc' := 2) rfl rfl ?_
          refine x_iconst (pc' := 3) rfl rfl ?_
          refine x_cs (ls0 := [_, _, _]) (rest := []) rfl rfl rfl rfl ?_
          refine x_iload_n (pc' := 1) rfl rfl rfl ?_
          refine x_iload_n (pc' := 2) rfl rfl rfl ?_
          refine x_icmp (a' := 14) (pc' := 5) (z := false) rfl rfl rfl (by decide) (fun h => by cases h) (fun _ => ?_)
          refine x_iload_n (pc' := 6) rfl rfl rfl ?_
          refine x_iload_n (pc' := 7) rfl rfl rfl ?_
          refine x_icmp (a' := 14) (pc' := 10) (z := false) rfl rfl rfl (by decide) (fun h => by cases h) (fun _ => ?_)
          refine x_iconst (pc' := 11) rfl rfl ?_
          refine x_goto (pc' := 15) rfl rfl ?_
          refine x_retz (z := true) rfl rfl ?_
          refine sK_i (pc' := 6) rfl ?_
          refine x_retz (z := true) rfl rfl ?_
          refine sK_i (pc' := 38) rfl ?_
          refine x_if (a' := 65) (pc' := 41) (z := false) rfl rfl rfl (by decide) (fun h => by cases h) (fun _ => ?_)
          refine x_aload_n (pc' := 42) rfl rfl rfl rfl rfl ?_
          refine x_gR (pc' := 45) (r := (some 0)) rfl rfl rfl (Eq.trans rdRthr (z_R_769_0 e)) ?_
          refine x_iload_n (pc' := 46) rfl rfl rfl ?_
          refine x_iald (pc' := 47) (N := 5) (x := 0) rfl rfl rfl (Eq.trans rdNthr (z_N_21_0 e)) (io_in (p := 3) (N := 5) (by decide) (by decide)) (Eq.trans (congrArg (sA (sThr t) 21 0) (nn_io (p := 3) (by decide))) (Eq.trans rdAthr (z_A_21_0_3 e))) ?_
          refine x_iconst (pc' := 48) rfl rfl ?_
          refine x_icmp (a' := 65) (pc' := 51) (z := true) rfl rfl rfl (by decide) (fun _ => ?_) (fun h => by cases h)
          refine x_iconst (pc' := 66) rfl rfl ?_
          refine x_istore (pc' := 68) (ls' := [_, _, _, _, _, _, _, _]) rfl rfl rfl rfl ?_
          refine x_aload_n (pc' := 69) rfl rfl rfl rfl rfl ?_
          refine x_aload_n (pc' := 70) rfl rfl rfl rfl rfl ?_
          refine x_iload_n (pc' := 71) rfl rfl rfl ?_
          refine x_iload_n (pc' := 72) rfl rfl rfl ?_
          refine x_iload (pc' := 74) rfl rfl rfl ?_
          refine x_iload (pc' := 76) rfl rfl rfl ?_
          refine x_cv (ls0 := [_, _, _, _, _, sJk]) (rest := [_]) rfl rfl rfl rfl rfl ?_
          refine x_iload_n (pc' := 1) rfl rfl rfl ?_
          refine x_cs (ls0 := [_]) (rest := []) rfl rfl rfl rfl ?_
          refine x_iload_n (pc' := 1) rfl rfl rfl ?_
          refine x_iconst (pc' := 2) rfl rfl ?_
          refine x_iconst (pc' := 3) rfl rfl ?_
          refine x_cs (ls0 := [_, _, _]) (rest := []) rfl rfl rfl rfl ?_
          refine x_iload_n (pc' := 1) rfl rfl rfl ?_
          refine x_iload_n (pc' := 2) rfl rfl rfl ?_
          refine x_icmp (a' := 14) (pc' := 5) (z := decide ((xs 1) < 0)) rfl rfl rfl rfl (fun h => absurd (of_decide_eq_true h) e0) (fun _ => ?_)
          refine x_iload_n (pc' := 6) rfl rfl rfl ?_
          refine x_iload_n (pc' := 7) rfl rfl rfl ?_
          refine x_icmp (a' := 14) (pc' := 10) (z := decide (5 < (xs 1))) rfl rfl rfl rfl (fun _ => ?_) (fun h => absurd (lt_of6 f0) (of_decide_eq_false h))
          refine x_iconst (pc' := 15) rfl rfl ?_
          refine x_retz (z := false) rfl rfl ?_
          refine sK_i (pc' := 6) rfl ?_
          refine x_retz (z := false) rfl rfl ?_
          refine sK_i (pc' := 4) rfl ?_
          refine x_if (a' := 18) (pc' := 7) (z := true) rfl rfl rfl (by decide) (fun _ => ?_) (fun h => by cases h)
          refine x_iconst (pc' := 19) rfl rfl ?_
          refine x_istore (pc' := 21) (ls' := [_, _, _, _, _, _]) rfl rfl rfl rfl ?_
          refine x_iload (pc' := 23) rfl rfl rfl ?_
          refine x_if (a' := 30) (pc' := 26) (z := false) rfl rfl rfl (by decide) (fun h => by cases h) (fun _ => ?_)
          refine x_iconst (pc' := 27) rfl rfl ?_
          refine x_goto (pc' := 57) rfl rfl ?_
          refine x_reti rfl rfl ?_
          refine sK_i (pc' := 79) rfl ?_
          refine x_cv (ls0 := [_, _]) (rest := []) rfl rfl rfl rfl rfl ?_
          refine x_aload_n (pc' := 1) rfl rfl rfl rfl rfl ?_
          refine x_iload_n (pc' := 2) rfl rfl rfl ?_
          refine x_pI (pc' := 5) rfl rfl rfl ?_
          refine x_iload_n (pc' := 6) rfl rfl rfl ?_
          refine x_if (a' := 13) (pc' := 9) (z := true) rfl rfl rfl (by decide) (fun _ => ?_) (fun h => by cases h)
          refine x_iconst (pc' := 14) rfl rfl ?_
          refine x_retz (z := false) rfl rfl ?_
          refine sK_i (pc' := 82) rfl ?_
          refine x_if (a' := 102) (pc' := 85) (z := true) rfl rfl rfl (by decide) (fun _ => ?_) (fun h => by cases h)
          refine x_iconst (pc' := 103) rfl rfl ?_
          refine x_reti rfl rfl ?_
          refine sK_i (pc' := 1104) rfl ?_
          refine x_istore (pc' := 1106) (ls' := [_, _, _, _, _, _, _]) rfl rfl rfl rfl ?_
          refine x_aload_n (pc' := 1107) rfl rfl rfl rfl rfl ?_
          refine x_cv (ls0 := [_]) (rest := []) rfl rfl rfl rfl rfl ?_
          refine x_aload_n (pc' := 1) rfl rfl rfl rfl rfl ?_
          refine x_gI (pc' := 4) (x := 1) rfl rfl rfl sI_s ?_
          refine x_reti rfl rfl ?_
          refine sK_i (pc' := 1110) rfl ?_
          refine x_iload (pc' := 1112) rfl rfl rfl ?_
          refine x_icmp (a' := 1117) (pc' := 1115) (z := true) rfl rfl rfl (by decide) (fun _ => ?_) (fun h => by cases h)
          refine x_iload (pc' := 1119) rfl rfl rfl ?_
          refine x_if (a' := 1134) (pc' := 1122) (z := true) rfl rfl rfl (by decide) (fun _ => ?_) (fun h => by cases h)
          refine x_goto (pc' := 2938) rfl rfl ?_
          refine x_iinc (pc' := 2941) (y := 7) (ls' := [_, _, _, _, _, _, _]) rfl rfl rfl rfl rfl ?_
          refine x_goto (pc' := 23) rfl rfl ?_
          refine x_iload (pc' := 25) rfl rfl rfl ?_
          refine x_aload_n (pc' := 26) rfl rfl rfl rfl rfl ?_
          refine x_alen (pc' := 27) (N := 7) rfl rfl rfl (Eq.trans rdNI (Eq.trans rdNthr (z_N_29_0 e))) (?_ : X _ _ _ (.inl 7 :: _) _ _)
          refine x_bipush (pc' := 29) rfl rfl ?_
          refine x_isub (pc' := 30) (z := 0) rfl rfl (by decide) ?_
          refine x_icmp (a' := 2944) (pc' := 33) (z := true) rfl rfl rfl (by decide) (fun _ => ?_) (fun h => by cases h)
          refine x_iconst (pc' := 2945) rfl rfl ?_
          refine x_retz (z := true) rfl rfl ?_
          exact Qp_ok e (p := 1) (q := 6) rfl rfl rfl rfl
        refine x_ifeq_z (a' := 31) (pc' := 16) (z := (!(decide ((xs 4) < (-500))) && (!(decide (500 < (xs 4)))))) rfl rfl rfl (fun q16 => ?_) (fun q16 => ?_)
        · refine x_iconst (pc' := 32) rfl rfl ?_
          ((try rw [q16] at J20); (try rw [q16]); (try simp only [cd_t, cd_f, nt_t, nt_f, an_t, an_f, or_t, or_f] at J20); (try simp only [cd_t, cd_f, nt_t, nt_f, an_t, an_f, or_t, or_f]); exact J20)
        · refine x_iload (pc' := 18) rfl rfl rfl ?_
          refine x_iconst (pc' := 19) rfl rfl ?_
          refine x_bipush (pc' := 21) rfl rfl ?_
          refine x_cs (ls0 := [_, _, _]) (rest := []) rfl rfl rfl rfl ?_
          refine x_iload_n (pc' := 1) rfl rfl rfl ?_
          refine x_iload_n (pc' := 2) rfl rfl rfl ?_
          have J18 : X 145 15 [.inl (xs 5), .inl 1, .inl 100] [.inl (bz (!(decide ((xs 5) < 1)) && (!(decide (100 < (xs 5))))))] (sThr t) (sK 145 205 21 [.inr (.inr (12, (some 0))), .inl (xs 1), .inl 3, .inl (bz (!(decide ((xs 3) = 0)))), .inl (xs 4), .inl (xs 5), sJk, sJk] [] (sK 205 297 1101 [.inr (.inr (29, (some 0))), .inr (.inr (11, (some 0))), .inr (.inr (12, (some 0))), .inr (.inr (23, (some 0))), .inl 0, .inl 1, sJk] [] Qp)) := by
            refine x_retz (z := (!(decide ((xs 5) < 1)) && (!(decide (100 < (xs 5)))))) rfl rfl ?_
            refine sK_i (pc' := 24) rfl ?_
            refine x_ifeq_z (a' := 31) (pc' := 27) (z := (!(decide ((xs 5) < 1)) && (!(decide (100 < (xs 5)))))) rfl rfl rfl (fun q20 => ?_) (fun q20 => ?_)
            · refine x_iconst (pc' := 32) rfl rfl ?_
              ((try rw [q16] at J20); (try rw [q16]); (try rw [q20] at J20); (try rw [q20]); (try simp only [cd_t, cd_f, nt_t, nt_f, an_t, an_f, or_t, or_f] at J20); (try simp only [cd_t, cd_f, nt_t, nt_f, an_t, an_f, or_t, or_f]); exact J20)
            · refine x_iconst (pc' := 28) rfl rfl ?_
              refine x_goto (pc' := 32) rfl rfl ?_
              ((try rw [q16] at J20); (try rw [q16]); (try rw [q20] at J20); (try rw [q20]); (try simp only [cd_t, cd_f, nt_t, nt_f, an_t, an_f, or_t, or_f] at J20); (try simp only [cd_t, cd_f, nt_t, nt_f, an_t, an_f, or_t, or_f]); exact J20)
          refine x_icmp (a' := 14) (pc' := 5) (z := decide ((xs 5) < 1)) rfl rfl rfl rfl (fun q17 => ?_) (fun q17 => ?_)
          · refine x_iconst (pc' := 15) rfl rfl ?_
            ((try rw [q17] at J18); (try rw [q17]); (try simp only [cd_t, cd_f, nt_t, nt_f, an_t, an_f, or_t, or_f] at J18); (try simp only [cd_t, cd_f, nt_t, nt_f, an_t, an_f, or_t, or_f]); exact J18)
          · refine x_iload_n (pc' := 6) rfl rfl rfl ?_
            refine x_iload_n (pc' := 7) rfl rfl rfl ?_
            refine x_icmp (a' := 14) (pc' := 10) (z := decide (100 < (xs 5))) rfl rfl rfl rfl (fun q18 => ?_) (fun q18 => ?_)
            · refine x_iconst (pc' := 15) rfl rfl ?_
              ((try rw [q17] at J18); (try rw [q17]); (try rw [q18] at J18); (try rw [q18]); (try simp only [cd_t, cd_f, nt_t, nt_f, an_t, an_f, or_t, or_f] at J18); (try simp only [cd_t, cd_f, nt_t, nt_f, an_t, an_f, or_t, or_f]); exact J18)
            · refine x_iconst (pc' := 11) rfl rfl ?_
              refine x_goto (pc' := 15) rfl rfl ?_
              ((try rw [q17] at J18); (try rw [q17]); (try rw [q18] at J18); (try rw [q18]); (try simp only [cd_t, cd_f, nt_t, nt_f, an_t, an_f, or_t, or_f] at J18); (try simp only [cd_t, cd_f, nt_t, nt_f, an_t, an_f, or_t, or_f]); exact J18)
      refine x_icmp (a' := 14) (pc' := 5) (z := decide ((xs 4) < (-500))) rfl rfl rfl rfl (fun q13 => ?_) (fun q13 => ?_)
      · refine x_iconst (pc' := 15) rfl rfl ?_
        ((try rw [q13] at J14); (try rw [q13]); (try simp only [cd_t, cd_f, nt_t, nt_f, an_t, an_f, or_t, or_f] at J14); (try simp only [cd_t, cd_f, nt_t, nt_f, an_t, an_f, or_t, or_f]); exact J14)
      · refine x_iload_n (pc' := 6) rfl rfl rfl ?_
        refine x_iload_n (pc' := 7) rfl rfl rfl ?_
        refine x_icmp (a' := 14) (pc' := 10) (z := decide (500 < (xs 4))) rfl rfl rfl rfl (fun q14 => ?_) (fun q14 => ?_)
        · refine x_iconst (pc' := 15) rfl rfl ?_
          ((try rw [q13] at J14); (try rw [q13]); (try rw [q14] at J14); (try rw [q14]); (try simp only [cd_t, cd_f, nt_t, nt_f, an_t, an_f, or_t, or_f] at J14); (try simp only [cd_t, cd_f, nt_t, nt_f, an_t, an_f, or_t, or_f]); exact J14)
        · refine x_iconst (pc' := 11) rfl rfl ?_
          refine x_goto (pc' := 15) rfl rfl ?_
          ((try rw [q13] at J14); (try rw [q13]); (try rw [q14] at J14); (try rw [q14]); (try simp only [cd_t, cd_f, nt_t, nt_f, an_t, an_f, or_t, or_f] at J14); (try simp only [cd_t, cd_f, nt_t, nt_f, an_t, an_f, or_t, or_f]); exact J14)
    refine x_if (a' := 1088) (pc' := 1084) (z := decide ((xs 3) = 0)) rfl rfl rfl rfl (fun q7 => ?_) (fun q7 => ?_)
    · refine x_iconst (pc' := 1089) rfl rfl ?_
      ((try rw [q7] at J7); (try rw [q7]); (try simp only [cd_t, cd_f, nt_t, nt_f, an_t, an_f, or_t, or_f] at J7); (try simp only [cd_t, cd_f, nt_t, nt_f, an_t, an_f, or_t, or_f]); exact J7)
    · refine x_iconst (pc' := 1085) rfl rfl ?_
      refine x_goto (pc' := 1089) rfl rfl ?_
      ((try rw [q7] at J7); (try rw [q7]); (try simp only [cd_t, cd_f, nt_t, nt_f, an_t, an_f, or_t, or_f] at J7); (try simp only [cd_t, cd_f, nt_t, nt_f, an_t, an_f, or_t, or_f]); exact J7)
  refine x_if (a' := 1043) (pc' := 1039) (z := decide ((xs 3) = 0)) rfl rfl rfl rfl (fun q3 => ?_) (fun q3 => ?_)
  · refine x_iconst (pc' := 1044) rfl rfl ?_
    ((try rw [q3] at J3); (try rw [q3]); (try simp only [cd_t, cd_f, nt_t, nt_f, an_t, an_f, or_t, or_f] at J3); (try simp only [cd_t, cd_f, nt_t, nt_f, an_t, an_f, or_t, or_f]); exact J3)
  · refine x_iconst (pc' := 1040) rfl rfl ?_
    refine x_goto (pc' := 1044) rfl rfl ?_
    ((try rw [q3] at J3); (try rw [q3]); (try simp only [cd_t, cd_f, nt_t, nt_f, an_t, an_f, or_t, or_f] at J3); (try simp only [cd_t, cd_f, nt_t, nt_f, an_t, an_f, or_t, or_f]); exact J3)
set_option maxHeartbeats 4000000 in
set_option maxRecDepth 10000 in
theorem v_11_B_4_i_i_i {t : sT} {xs : Nat → Int32}
    (e : t = T16 7 xs)
    (hk : ((xs 0) &&& 63) = 11)
    (e0 : ¬ (xs 1) < 0)
    (f0 : ¬ (xs 1) < 6)
    (e1 : xs 2 = 4) :
    X 297 23 [.inr (.inr (29, (some 0))), .inr (.inr (11, (some 0))), .inr (.inr (12, (some 0))), .inr (.inr (23, (some 0))), .inl 0, sJk, sJk] [] t Qp := by
  refine x_iload (pc' := 25) rfl rfl rfl ?_
  refine x_aload_n (pc' := 26) rfl rfl rfl rfl rfl ?_
  refine x_alen (pc' := 27) (N := 7) rfl rfl rfl (z_N_29_0 e) (?_ : X _ _ _ (.inl 7 :: _) _ _)
  refine x_bipush (pc' := 29) rfl rfl ?_
  refine x_isub (pc' := 30) (z := 0) rfl rfl (by decide) ?_
  refine x_icmp (a' := 2944) (pc' := 33) (z := false) rfl rfl rfl (by decide) (fun h => by cases h) (fun _ => ?_)
  refine x_aload_n (pc' := 34) rfl rfl rfl rfl rfl ?_
  refine x_iload (pc' := 36) rfl rfl rfl ?_
  refine x_iald (pc' := 37) (N := 7) (x := (xs 0)) rfl rfl rfl (z_N_29_0 e) (io_in (p := 0) (N := 7) (by decide) (by decide)) (Eq.trans (congrArg (sA t 29 0) (nn_io (p := 0) (by decide))) (z_A_29_0_0 e)) ?_
  refine x_bipush (pc' := 39) rfl rfl ?_
  refine x_iand (pc' := 40) (z := ((xs 0) &&& 63)) rfl rfl rfl ?_
  refine x_switch (pc' := 1017) rfl (by rw [hk]; decide) ?_
  refine x_aload_n (pc' := 1018) rfl rfl rfl rfl rfl ?_
  refine x_aload_n (pc' := 1019) rfl rfl rfl rfl rfl ?_
  refine x_iload (pc' := 1021) rfl rfl rfl ?_
  refine x_iconst (pc' := 1022) rfl rfl ?_
  refine x_iadd (pc' := 1023) (z := 1) rfl rfl (by decide) ?_
  refine x_iald (pc' := 1024) (N := 7) (x := (xs 1)) rfl rfl rfl (z_N_29_0 e) (io_in (p := 1) (N := 7) (by decide) (by decide)) (Eq.trans (congrArg (sA t 29 0) (nn_io (p := 1) (by decide))) (z_A_29_0_1 e)) ?_
  refine x_aload_n (pc' := 1025) rfl rfl rfl rfl rfl ?_
  refine x_iload (pc' := 1027) rfl rfl rfl ?_
  refine x_iconst (pc' := 1028) rfl rfl ?_
  refine x_iadd (pc' := 1029) (z := 2) rfl rfl (by decide) ?_
  refine x_iald (pc' := 1030) (N := 7) (x := 4) rfl rfl rfl (z_N_29_0 e) (io_in (p := 2) (N := 7) (by decide) (by decide)) (Eq.trans (congrArg (sA t 29 0) (nn_io (p := 2) (by decide))) (Eq.trans (z_A_29_0_2 e) e1)) ?_
  refine x_aload_n (pc' := 1031) rfl rfl rfl rfl rfl ?_
  refine x_iload (pc' := 1033) rfl rfl rfl ?_
  refine x_iconst (pc' := 1034) rfl rfl ?_
  refine x_iadd (pc' := 1035) (z := 3) rfl rfl (by decide) ?_
  refine x_iald (pc' := 1036) (N := 7) (x := (xs 3)) rfl rfl rfl (z_N_29_0 e) (io_in (p := 3) (N := 7) (by decide) (by decide)) (Eq.trans (congrArg (sA t 29 0) (nn_io (p := 3) (by decide))) (z_A_29_0_3 e)) ?_
  have J3 : X 297 1044 [.inr (.inr (29, (some 0))), .inr (.inr (11, (some 0))), .inr (.inr (12, (some 0))), .inr (.inr (23, (some 0))), .inl 0, sJk, sJk] [.inl (bz (!(decide ((xs 3) = 0)))), .inl 4, .inl (xs 1), .inr (.inr (11, (some 0)))] t Qp := by
    refine x_aload_n (pc' := 1045) rfl rfl rfl rfl rfl ?_
    refine x_iload (pc' := 1047) rfl rfl rfl ?_
    refine x_iconst (pc' := 1048) rfl rfl ?_
    refine x_iadd (pc' := 1049) (z := 4) rfl rfl (by decide) ?_
    refine x_iald (pc' := 1050) (N := 7) (x := (xs 4)) rfl rfl rfl (z_N_29_0 e) (io_in (p := 4) (N := 7) (by decide) (by decide)) (Eq.trans (congrArg (sA t 29 0) (nn_io (p := 4) (by decide))) (z_A_29_0_4 e)) ?_
    refine x_aload_n (pc' := 1051) rfl rfl rfl rfl rfl ?_
    refine x_iload (pc' := 1053) rfl rfl rfl ?_
    refine x_iconst (pc' := 1054) rfl rfl ?_
    refine x_iadd (pc' := 1055) (z := 5) rfl rfl (by decide) ?_
    refine x_iald (pc' := 1056) (N := 7) (x := (xs 5)) rfl rfl rfl (z_N_29_0 e) (io_in (p := 5) (N := 7) (by decide) (by decide)) (Eq.trans (congrArg (sA t 29 0) (nn_io (p := 5) (by decide))) (z_A_29_0_5 e)) ?_
    refine x_aload_n (pc' := 1057) rfl rfl rfl rfl rfl ?_
    refine x_cs (ls0 := [_, _, _, _, _, _, _, sJk]) (rest := []) rfl rfl rfl rfl ?_
    refine x_aload (pc' := 2) rfl rfl rfl rfl rfl ?_
    refine x_iconst (pc' := 3) rfl rfl ?_
    refine x_aload_n (pc' := 4) rfl rfl rfl rfl rfl ?_
    refine x_iload_n (pc' := 5) rfl rfl rfl ?_
    refine x_iload_n (pc' := 6) rfl rfl rfl ?_
    refine x_iload_n (pc' := 7) rfl rfl rfl ?_
    refine x_iload (pc' := 9) rfl rfl rfl ?_
    refine x_iload (pc' := 11) rfl rfl rfl ?_
    refine x_cv (ls0 := [_, _, _, _, _, _, sJk, sJk, sJk]) (rest := [_, _]) rfl rfl rfl rfl rfl ?_
    refine x_aload_n (pc' := 1) rfl rfl rfl rfl rfl ?_
    refine x_iload_n (pc' := 2) rfl rfl rfl ?_
    refine x_cv (ls0 := [_, _]) (rest := []) rfl rfl rfl rfl rfl ?_
    refine x_iload_n (pc' := 1) rfl rfl rfl ?_
    refine x_if (a' := 16) (pc' := 4) (z := decide ((xs 1) < 0)) rfl rfl rfl rfl (fun h => absurd (of_decide_eq_true h) e0) (fun _ => ?_)
    refine x_iload_n (pc' := 5) rfl rfl rfl ?_
    refine x_aload_n (pc' := 6) rfl rfl rfl rfl rfl ?_
    refine x_gR (pc' := 9) (r := (some 0)) rfl rfl rfl (z_R_704_0 e) ?_
    refine x_gR (pc' := 12) (r := (some 0)) rfl rfl rfl (z_R_321_0 e) ?_
    refine x_alen (pc' := 13) (N := 6) rfl rfl rfl (z_N_26_0 e) (?_ : X _ _ _ (.inl 6 :: _) _ _)
    refine x_icmp (a' := 27) (pc' := 16) (z := decide ((xs 1) < 6)) rfl rfl rfl rfl (fun h => absurd (of_decide_eq_true h) f0) (fun _ => ?_)
    refine x_throw rfl rfl ?_
    refine sK_n (by decide +kernel) rfl ?_
    refine sK_h (h := 19) (by decide +kernel) rfl ?_
    refine x_catch (pc' := 21) (ls' := [_, _, _, _, _, _, _, _]) rfl rfl rfl rfl ?_
    refine x_iconst (pc' := 22) rfl rfl ?_
    refine x_reti rfl rfl ?_
    refine sK_i (pc' := 1060) rfl ?_
    refine x_istore (pc' := 1062) (ls' := [_, _, _, _, _, _, _]) rfl rfl rfl rfl ?_
    refine x_aload_n (pc' := 1063) rfl rfl rfl rfl rfl ?_
    refine x_aload_n (pc' := 1064) rfl rfl rfl rfl rfl ?_
    refine x_iload (pc' := 1066) rfl rfl rfl ?_
    refine x_iconst (pc' := 1067) rfl rfl ?_
    refine x_iadd (pc' := 1068) (z := 1) rfl rfl (by decide) ?_
    refine x_iald (pc' := 1069) (N := 7) (x := (xs 1)) rfl rfl rfl (Eq.trans rdNthr (z_N_29_0 e)) (io_in (p := 1) (N := 7) (by decide) (by decide)) (Eq.trans (congrArg (sA (sThr t) 29 0) (nn_io (p := 1) (by decide))) (Eq.trans rdAthr (z_A_29_0_1 e))) ?_
    refine x_aload_n (pc' := 1070) rfl rfl rfl rfl rfl ?_
    refine x_iload (pc' := 1072) rfl rfl rfl ?_
    refine x_iconst (pc' := 1073) rfl rfl ?_
    refine x_iadd (pc' := 1074) (z := 2) rfl rfl (by decide) ?_
    refine x_iald (pc' := 1075) (N := 7) (x := 4) rfl rfl rfl (Eq.trans rdNthr (z_N_29_0 e)) (io_in (p := 2) (N := 7) (by decide) (by decide)) (Eq.trans (congrArg (sA (sThr t) 29 0) (nn_io (p := 2) (by decide))) (Eq.trans rdAthr (Eq.trans (z_A_29_0_2 e) e1))) ?_
    refine x_aload_n (pc' := 1076) rfl rfl rfl rfl rfl ?_
    refine x_iload (pc' := 1078) rfl rfl rfl ?_
    refine x_iconst (pc' := 1079) rfl rfl ?_
    refine x_iadd (pc' := 1080) (z := 3) rfl rfl (by decide) ?_
    refine x_iald (pc' := 1081) (N := 7) (x := (xs 3)) rfl rfl rfl (Eq.trans rdNthr (z_N_29_0 e)) (io_in (p := 3) (N := 7) (by decide) (by decide)) (Eq.trans (congrArg (sA (sThr t) 29 0) (nn_io (p := 3) (by decide))) (Eq.trans rdAthr (z_A_29_0_3 e))) ?_
    have J7 : X 297 1089 [.inr (.inr (29, (some 0))), .inr (.inr (11, (some 0))), .inr (.inr (12, (some 0))), .inr (.inr (23, (some 0))), .inl 0, .inl 1, sJk] [.inl (bz (!(decide ((xs 3) = 0)))), .inl 4, .inl (xs 1), .inr (.inr (12, (some 0)))] (sThr t) Qp := by
      refine x_aload_n (pc' := 1090) rfl rfl rfl rfl rfl ?_
      refine x_iload (pc' := 1092) rfl rfl rfl ?_
      refine x_iconst (pc' := 1093) rfl rfl ?_
      refine x_iadd (pc' := 1094) (z := 4) rfl rfl (by decide) ?_
      refine x_iald (pc' := 1095) (N := 7) (x := (xs 4)) rfl rfl rfl (Eq.trans rdNthr (z_N_29_0 e)) (io_in (p := 4) (N := 7) (by decide) (by decide)) (Eq.trans (congrArg (sA (sThr t) 29 0) (nn_io (p := 4) (by decide))) (Eq.trans rdAthr (z_A_29_0_4 e))) ?_
      refine x_aload_n (pc' := 1096) rfl rfl rfl rfl rfl ?_
      refine x_iload (pc' := 1098) rfl rfl rfl ?_
      refine x_iconst (pc' := 1099) rfl rfl ?_
      refine x_iadd (pc' := 1100) (z := 5) rfl rfl (by decide) ?_
      refine x_iald (pc' := 1101) (N := 7) (x := (xs 5)) rfl rfl rfl (Eq.trans rdNthr (z_N_29_0 e)) (io_in (p := 5) (N := 7) (by decide) (by decide)) (Eq.trans (congrArg (sA (sThr t) 29 0) (nn_io (p := 5) (by decide))) (Eq.trans rdAthr (z_A_29_0_5 e))) ?_
      refine x_cv (ls0 := [_, _, _, _, _, _, sJk, sJk]) (rest := []) rfl rfl rfl rfl rfl ?_
      refine x_iload_n (pc' := 1) rfl rfl rfl ?_
      refine x_cs (ls0 := [_]) (rest := []) rfl rfl rfl rfl ?_
      refine x_iload_n (pc' := 1) rfl rfl rfl ?_
      refine x_iconst (pc' := 2) rfl rfl ?_
      refine x_iconst (pc' := 3) rfl rfl ?_
      refine x_cs (ls0 := [_, _, _]) (rest := []) rfl rfl rfl rfl ?_
      refine x_iload_n (pc' := 1) rfl rfl rfl ?_
      refine x_iload_n (pc' := 2) rfl rfl rfl ?_
      refine x_icmp (a' := 14) (pc' := 5) (z := false) rfl rfl rfl (by decide) (fun h => by cases h) (fun _ => ?_)
      refine x_iload_n (pc' := 6) rfl rfl rfl ?_
      refine x_iload_n (pc' := 7) rfl rfl rfl ?_
      refine x_icmp (a' := 14) (pc' := 10) (z := false) rfl rfl rfl (by decide) (fun h => by cases h) (fun _ => ?_)
      refine x_iconst (pc' := 11) rfl rfl ?_
      refine x_goto (pc' := 15) rfl rfl ?_
      refine x_retz (z := true) rfl rfl ?_
      refine sK_i (pc' := 6) rfl ?_
      refine x_retz (z := true) rfl rfl ?_
      refine sK_i (pc' := 4) rfl ?_
      refine x_if (a' := 31) (pc' := 7) (z := false) rfl rfl rfl (by decide) (fun h => by cases h) (fun _ => ?_)
      refine x_iload_n (pc' := 8) rfl rfl rfl ?_
      refine x_iload (pc' := 10) rfl rfl rfl ?_
      refine x_cs (ls0 := [_, _]) (rest := []) rfl rfl rfl rfl ?_
      refine x_iload_n (pc' := 1) rfl rfl rfl ?_
      refine x_iconst (pc' := 2) rfl rfl ?_
      refine x_icmp (a' := 16) (pc' := 5) (z := true) rfl rfl rfl (by decide) (fun _ => ?_) (fun h => by cases h)
      refine x_iload_n (pc' := 17) rfl rfl rfl ?_
      refine x_sipush (pc' := 20) rfl rfl ?_
      refine x_sipush (pc' := 23) rfl rfl ?_
      refine x_cs (ls0 := [_, _, _]) (rest := []) rfl rfl rfl rfl ?_
      refine x_iload_n (pc' := 1) rfl rfl rfl ?_
      refine x_iload_n (pc' := 2) rfl rfl rfl ?_
      have J14 : X 145 15 [.inl (xs 4), .inl (-500), .inl 500] [.inl (bz (!(decide ((xs 4) < (-500))) && (!(decide (500 < (xs 4))))))] (sThr t) (sK 145 150 23 [.inl 4, .inl (xs 4)] [] (sK 150 205 10 [.inr (.inr (12, (some 0))), .inl (xs 1), .inl 4, .inl (bz (!(decide ((xs 3) = 0)))), .inl (xs 4), .inl (xs 5), sJk, sJk] [] (sK 205 297 1101 [.inr (.inr (29, (some 0))), .inr (.inr (11, (some 0))), .inr (.inr (12, (some 0))), .inr (.inr (23, (some 0))), .inl 0, .inl 1, sJk] [] Qp))) := by
        refine x_retz (z := (!(decide ((xs 4) < (-500))) && (!(decide (500 < (xs 4)))))) rfl rfl ?_
        refine sK_i (pc' := 26) rfl ?_
        refine x_retz (z := (!(decide ((xs 4) < (-500))) && (!(decide (500 < (xs 4)))))) rfl rfl ?_
        refine sK_i (pc' := 13) rfl ?_
        have J20 : X 205 32 [.inr (.inr (12, (some 0))), .inl (xs 1), .inl 4, .inl (bz (!(decide ((xs 3) = 0)))), .inl (xs 4), .inl (xs 5), sJk, sJk] [.inl (bz ((!(decide ((xs 4) < (-500))) && (!(decide (500 < (xs 4))))) && (!(decide ((xs 5) < 1)) && (!(decide (100 < (xs 5)))))))] (sThr t) (sK 205 297 1101 [.inr (.inr (29, (some 0))), .inr (.inr (11, (some 0))), .inr (.inr (12, (some 0))), .inr (.inr (23, (some 0))), .inl 0, .inl 1, sJk] [] Qp) := by
          refine x_istore (pc' := 34) (ls' := [_, _, _, _, _, _, _, _]) rfl rfl rfl rfl ?_
          refine x_iload_n (pc' := 35) rfl rfl rfl ?_
          refine x_cs (ls0 := [_]) (rest := []) rfl rfl rfl rfl ?_
          refine x_iload_n (pc' := 1) rfl rfl rfl ?_
          refine x_iconst (pc' := 2) rfl rfl ?_
          refine x_iconst (pc' := 3) rfl rfl ?_
          refine x_cs (ls0 := [_, _, _]) (rest := []) rfl rfl rfl rfl ?_
          refine x_iload_n (pc' := 1) rfl rfl rfl ?_
          refine x_iload_n (pc' := 2) rfl rfl rfl ?_
          refine x_icmp (a' := 14) (pc' := 5) (z := false) rfl rfl rfl (by decide) (fun h => by cases h) (fun _ => ?_)
          refine x_iload_n (pc' := 6) rfl rfl rfl ?_
          refine x_iload_n (pc' := 7) rfl rfl rfl ?_
          refine x_icmp (a' := 14) (pc' := 10) (z := false) rfl rfl rfl (by decide) (fun h => by cases h) (fun _ => ?_)
          refine x_iconst (pc' := 11) rfl rfl ?_
          refine x_goto (pc' := 15) rfl rfl ?_
          refine x_retz (z := true) rfl rfl ?_
          refine sK_i (pc' := 6) rfl ?_
          refine x_retz (z := true) rfl rfl ?_
          refine sK_i (pc' := 38) rfl ?_
          refine x_if (a' := 65) (pc' := 41) (z := false) rfl rfl rfl (by decide) (fun h => by cases h) (fun _ => ?_)
          refine x_aload_n (pc' := 42) rfl rfl rfl rfl rfl ?_
          refine x_gR (pc' := 45) (r := (some 0)) rfl rfl rfl (Eq.trans rdRthr (z_R_769_0 e)) ?_
          refine x_iload_n (pc' := 46) rfl rfl rfl ?_
          refine x_iald (pc' := 47) (N := 5) (x := 0) rfl rfl rfl (Eq.trans rdNthr (z_N_21_0 e)) (io_in (p := 4) (N := 5) (by decide) (by decide)) (Eq.trans (congrArg (sA (sThr t) 21 0) (nn_io (p := 4) (by decide))) (Eq.trans rdAthr (z_A_21_0_4 e))) ?_
          refine x_iconst (pc' := 48) rfl rfl ?_
          refine x_icmp (a' := 65) (pc' := 51) (z := true) rfl rfl rfl (by decide) (fun _ => ?_) (fun h => by cases h)
          refine x_iconst (pc' := 66) rfl rfl ?_
          refine x_istore (pc' := 68) (ls' := [_, _, _, _, _, _, _, _]) rfl rfl rfl rfl ?_
          refine x_aload_n (pc' := 69) rfl rfl rfl rfl rfl ?_
          refine x_aload_n (pc' := 70) rfl rfl rfl rfl rfl ?_
          refine x_iload_n (pc' := 71) rfl rfl rfl ?_
          refine x_iload_n (pc' := 72) rfl rfl rfl ?_
          refine x_iload (pc' := 74) rfl rfl rfl ?_
          refine x_iload (pc' := 76) rfl rfl rfl ?_
          refine x_cv (ls0 := [_, _, _, _, _, sJk]) (rest := [_]) rfl rfl rfl rfl rfl ?_
          refine x_iload_n (pc' := 1) rfl rfl rfl ?_
          refine x_cs (ls0 := [_]) (rest := []) rfl rfl rfl rfl ?_
          refine x_iload_n (pc' := 1) rfl rfl rfl ?_
          refine x_iconst (pc' := 2) rfl rfl ?_
          refine x_iconst (pc' := 3) rfl rfl ?_
          refine x_cs (ls0 := [_, _, _]) (rest := []) rfl rfl rfl rfl ?_
          refine x_iload_n (pc' := 1) rfl rfl rfl ?_
          refine x_iload_n (pc' := 2) rfl rfl rfl ?_
          refine x_icmp (a' := 14) (pc' := 5) (z := decide ((xs 1) < 0)) rfl rfl rfl rfl (fun h => absurd (of_decide_eq_true h) e0) (fun _ => ?_)
          refine x_iload_n (pc' := 6) rfl rfl rfl ?_
          refine x_iload_n (pc' := 7) rfl rfl rfl ?_
          refine x_icmp (a' := 14) (pc' := 10) (z := decide (5 < (xs 1))) rfl rfl rfl rfl (fun _ => ?_) (fun h => absurd (lt_of6 f0) (of_decide_eq_false h))
          refine x_iconst (pc' := 15) rfl rfl ?_
          refine x_retz (z := false) rfl rfl ?_
          refine sK_i (pc' := 6) rfl ?_
          refine x_retz (z := false) rfl rfl ?_
          refine sK_i (pc' := 4) rfl ?_
          refine x_if (a' := 18) (pc' := 7) (z := true) rfl rfl rfl (by decide) (fun _ => ?_) (fun h => by cases h)
          refine x_iconst (pc' := 19) rfl rfl ?_
          refine x_istore (pc' := 21) (ls' := [_, _, _, _, _, _]) rfl rfl rfl rfl ?_
          refine x_iload (pc' := 23) rfl rfl rfl ?_
          refine x_if (a' := 30) (pc' := 26) (z := false) rfl rfl rfl (by decide) (fun h => by cases h) (fun _ => ?_)
          refine x_iconst (pc' := 27) rfl rfl ?_
          refine x_goto (pc' := 57) rfl rfl ?_
          refine x_reti rfl rfl ?_
          refine sK_i (pc' := 79) rfl ?_
          refine x_cv (ls0 := [_, _]) (rest := []) rfl rfl rfl rfl rfl ?_
          refine x_aload_n (pc' := 1) rfl rfl rfl rfl rfl ?_
          refine x_iload_n (pc' := 2) rfl rfl rfl ?_
          refine x_pI (pc' := 5) rfl rfl rfl ?_
          refine x_iload_n (pc' := 6) rfl rfl rfl ?_
          refine x_if (a' := 13) (pc' := 9) (z := true) rfl rfl rfl (by decide) (fun _ => ?_) (fun h => by cases h)
          refine x_iconst (pc' := 14) rfl rfl ?_
          refine x_retz (z := false) rfl rfl ?_
          refine sK_i (pc' := 82) rfl ?_
          refine x_if (a' := 102) (pc' := 85) (z := true) rfl rfl rfl (by decide) (fun _ => ?_) (fun h => by cases h)
          refine x_iconst (pc' := 103) rfl rfl ?_
          refine x_reti rfl rfl ?_
          refine sK_i (pc' := 1104) rfl ?_
          refine x_istore (pc' := 1106) (ls' := [_, _, _, _, _, _, _]) rfl rfl rfl rfl ?_
          refine x_aload_n (pc' := 1107) rfl rfl rfl rfl rfl ?_
          refine x_cv (ls0 := [_]) (rest := []) rfl rfl rfl rfl rfl ?_
          refine x_aload_n (pc' := 1) rfl rfl rfl rfl rfl ?_
          refine x_gI (pc' := 4) (x := 1) rfl rfl rfl sI_s ?_
          refine x_reti rfl rfl ?_
          refine sK_i (pc' := 1110) rfl ?_
          refine x_iload (pc' := 1112) rfl rfl rfl ?_
          refine x_icmp (a' := 1117) (pc' := 1115) (z := true) rfl rfl rfl (by decide) (fun _ => ?_) (fun h => by cases h)
          refine x_iload (pc' := 1119) rfl rfl rfl ?_
          refine x_if (a' := 1134) (pc' := 1122) (z := true) rfl rfl rfl (by decide) (fun _ => ?_) (fun h => by cases h)
          refine x_goto (pc' := 2938) rfl rfl ?_
          refine x_iinc (pc' := 2941) (y := 7) (ls' := [_, _, _, _, _, _, _]) rfl rfl rfl rfl rfl ?_
          refine x_goto (pc' := 23) rfl rfl ?_
          refine x_iload (pc' := 25) rfl rfl rfl ?_
          refine x_aload_n (pc' := 26) rfl rfl rfl rfl rfl ?_
          refine x_alen (pc' := 27) (N := 7) rfl rfl rfl (Eq.trans rdNI (Eq.trans rdNthr (z_N_29_0 e))) (?_ : X _ _ _ (.inl 7 :: _) _ _)
          refine x_bipush (pc' := 29) rfl rfl ?_
          refine x_isub (pc' := 30) (z := 0) rfl rfl (by decide) ?_
          refine x_icmp (a' := 2944) (pc' := 33) (z := true) rfl rfl rfl (by decide) (fun _ => ?_) (fun h => by cases h)
          refine x_iconst (pc' := 2945) rfl rfl ?_
          refine x_retz (z := true) rfl rfl ?_
          exact Qp_ok e (p := 1) (q := 6) rfl rfl rfl rfl
        refine x_ifeq_z (a' := 31) (pc' := 16) (z := (!(decide ((xs 4) < (-500))) && (!(decide (500 < (xs 4)))))) rfl rfl rfl (fun q16 => ?_) (fun q16 => ?_)
        · refine x_iconst (pc' := 32) rfl rfl ?_
          ((try rw [q16] at J20); (try rw [q16]); (try simp only [cd_t, cd_f, nt_t, nt_f, an_t, an_f, or_t, or_f] at J20); (try simp only [cd_t, cd_f, nt_t, nt_f, an_t, an_f, or_t, or_f]); exact J20)
        · refine x_iload (pc' := 18) rfl rfl rfl ?_
          refine x_iconst (pc' := 19) rfl rfl ?_
          refine x_bipush (pc' := 21) rfl rfl ?_
          refine x_cs (ls0 := [_, _, _]) (rest := []) rfl rfl rfl rfl ?_
          refine x_iload_n (pc' := 1) rfl rfl rfl ?_
          refine x_iload_n (pc' := 2) rfl rfl rfl ?_
          have J18 : X 145 15 [.inl (xs 5), .inl 1, .inl 100] [.inl (bz (!(decide ((xs 5) < 1)) && (!(decide (100 < (xs 5))))))] (sThr t) (sK 145 205 21 [.inr (.inr (12, (some 0))), .inl (xs 1), .inl 4, .inl (bz (!(decide ((xs 3) = 0)))), .inl (xs 4), .inl (xs 5), sJk, sJk] [] (sK 205 297 1101 [.inr (.inr (29, (some 0))), .inr (.inr (11, (some 0))), .inr (.inr (12, (some 0))), .inr (.inr (23, (some 0))), .inl 0, .inl 1, sJk] [] Qp)) := by
            refine x_retz (z := (!(decide ((xs 5) < 1)) && (!(decide (100 < (xs 5)))))) rfl rfl ?_
            refine sK_i (pc' := 24) rfl ?_
            refine x_ifeq_z (a' := 31) (pc' := 27) (z := (!(decide ((xs 5) < 1)) && (!(decide (100 < (xs 5)))))) rfl rfl rfl (fun q20 => ?_) (fun q20 => ?_)
            · refine x_iconst (pc' := 32) rfl rfl ?_
              ((try rw [q16] at J20); (try rw [q16]); (try rw [q20] at J20); (try rw [q20]); (try simp only [cd_t, cd_f, nt_t, nt_f, an_t, an_f, or_t, or_f] at J20); (try simp only [cd_t, cd_f, nt_t, nt_f, an_t, an_f, or_t, or_f]); exact J20)
            · refine x_iconst (pc' := 28) rfl rfl ?_
              refine x_goto (pc' := 32) rfl rfl ?_
              ((try rw [q16] at J20); (try rw [q16]); (try rw [q20] at J20); (try rw [q20]); (try simp only [cd_t, cd_f, nt_t, nt_f, an_t, an_f, or_t, or_f] at J20); (try simp only [cd_t, cd_f, nt_t, nt_f, an_t, an_f, or_t, or_f]); exact J20)
          refine x_icmp (a' := 14) (pc' := 5) (z := decide ((xs 5) < 1)) rfl rfl rfl rfl (fun q17 => ?_) (fun q17 => ?_)
          · refine x_iconst (pc' := 15) rfl rfl ?_
            ((try rw [q17] at J18); (try rw [q17]); (try simp only [cd_t, cd_f, nt_t, nt_f, an_t, an_f, or_t, or_f] at J18); (try simp only [cd_t, cd_f, nt_t, nt_f, an_t, an_f, or_t, or_f]); exact J18)
          · refine x_iload_n (pc' := 6) rfl rfl rfl ?_
            refine x_iload_n (pc' := 7) rfl rfl rfl ?_
            refine x_icmp (a' := 14) (pc' := 10) (z := decide (100 < (xs 5))) rfl rfl rfl rfl (fun q18 => ?_) (fun q18 => ?_)
            · refine x_iconst (pc' := 15) rfl rfl ?_
              ((try rw [q17] at J18); (try rw [q17]); (try rw [q18] at J18); (try rw [q18]); (try simp only [cd_t, cd_f, nt_t, nt_f, an_t, an_f, or_t, or_f] at J18); (try simp only [cd_t, cd_f, nt_t, nt_f, an_t, an_f, or_t, or_f]); exact J18)
            · refine x_iconst (pc' := 11) rfl rfl ?_
              refine x_goto (pc' := 15) rfl rfl ?_
              ((try rw [q17] at J18); (try rw [q17]); (try rw [q18] at J18); (try rw [q18]); (try simp only [cd_t, cd_f, nt_t, nt_f, an_t, an_f, or_t, or_f] at J18); (try simp only [cd_t, cd_f, nt_t, nt_f, an_t, an_f, or_t, or_f]); exact J18)
      refine x_icmp (a' := 14) (pc' := 5) (z := decide ((xs 4) < (-500))) rfl rfl rfl rfl (fun q13 => ?_) (fun q13 => ?_)
      · refine x_iconst (pc' := 15) rfl rfl ?_
        ((try rw [q13] at J14); (try rw [q13]); (try simp only [cd_t, cd_f, nt_t, nt_f, an_t, an_f, or_t, or_f] at J14); (try simp only [cd_t, cd_f, nt_t, nt_f, an_t, an_f, or_t, or_f]); exact J14)
      · refine x_iload_n (pc' := 6) rfl rfl rfl ?_
        refine x_iload_n (pc' := 7) rfl rfl rfl ?_
        refine x_icmp (a' := 14) (pc' := 10) (z := decide (500 < (xs 4))) rfl rfl rfl rfl (fun q14 => ?_) (fun q14 => ?_)
        · refine x_iconst (pc' := 15) rfl rfl ?_
          ((try rw [q13] at J14); (try rw [q13]); (try rw [q14] at J14); (try rw [q14]); (try simp only [cd_t, cd_f, nt_t, nt_f, an_t, an_f, or_t, or_f] at J14); (try simp only [cd_t, cd_f, nt_t, nt_f, an_t, an_f, or_t, or_f]); exact J14)
        · refine x_iconst (pc' := 11) rfl rfl ?_
          refine x_goto (pc' := 15) rfl rfl ?_
          ((try rw [q13] at J14); (try rw [q13]); (try rw [q14] at J14); (try rw [q14]); (try simp only [cd_t, cd_f, nt_t, nt_f, an_t, an_f, or_t, or_f] at J14); (try simp only [cd_t, cd_f, nt_t, nt_f, an_t, an_f, or_t, or_f]); exact J14)
    refine x_if (a' := 1088) (pc' := 1084) (z := decide ((xs 3) = 0)) rfl rfl rfl rfl (fun q7 => ?_) (fun q7 => ?_)
    · refine x_iconst (pc' := 1089) rfl rfl ?_
      ((try rw [q7] at J7); (try rw [q7]); (try simp only [cd_t, cd_f, nt_t, nt_f, an_t, an_f, or_t, or_f] at J7); (try simp only [cd_t, cd_f, nt_t, nt_f, an_t, an_f, or_t, or_f]); exact J7)
    · refine x_iconst (pc' := 1085) rfl rfl ?_
      refine x_goto (pc' := 1089) rfl rfl ?_
      ((try rw [q7] at J7); (try rw [q7]); (try simp only [cd_t, cd_f, nt_t, nt_f, an_t, an_f, or_t, or_f] at J7); (try simp only [cd_t, cd_f, nt_t, nt_f, an_t, an_f, or_t, or_f]); exact J7)
  refine x_if (a' := 1043) (pc' := 1039) (z := decide ((xs 3) = 0)) rfl rfl rfl rfl (fun q3 => ?_) (fun q3 => ?_)
  · refine x_iconst (pc' := 1044) rfl rfl ?_
    ((try rw [q3] at J3); (try rw [q3]); (try simp only [cd_t, cd_f, nt_t, nt_f, an_t, an_f, or_t, or_f] at J3); (try simp only [cd_t, cd_f, nt_t, nt_f, an_t, an_f, or_t, or_f]); exact J3)
  · refine x_iconst (pc' := 1040) rfl rfl ?_
    refine x_goto (pc' := 1044) rfl rfl ?_
    ((try rw [q3] at J3); (try rw [q3]); (try simp only [cd_t, cd_f, nt_t, nt_f, an_t, an_f, or_t, or_f] at J3); (try simp only [cd_t, cd_f, nt_t, nt_f, an_t, an_f, or_t, or_f]); exact J3)
set_option maxHeartbeats 4000000 in
set_option maxRecDepth 10000 in
theorem v_11_B_A_i_i_i {t : sT} {xs : Nat → Int32}
    (e : t = T16 7 xs)
    (hk : ((xs 0) &&& 63) = 11)
    (e0 : ¬ (xs 1) < 0)
    (f0 : ¬ (xs 1) < 6)
    (e1 : (xs 2) < 0) :
    X 297 23 [.inr (.inr (29, (some 0))), .inr (.inr (11, (some 0))), .inr (.inr (12, (some 0))), .inr (.inr (23, (some 0))), .inl 0, sJk, sJk] [] t Qp := by
  refine x_iload (pc' := 25) rfl rfl rfl ?_
  refine x_aload_n (pc' := 26) rfl rfl rfl rfl rfl ?_
  refine x_alen (pc' := 27) (N := 7) rfl rfl rfl (z_N_29_0 e) (?_ : X _ _ _ (.inl 7 :: _) _ _)
  refine x_bipush (pc' := 29) rfl rfl ?_
  refine x_isub (pc' := 30) (z := 0) rfl rfl (by decide) ?_
  refine x_icmp (a' := 2944) (pc' := 33) (z := false) rfl rfl rfl (by decide) (fun h => by cases h) (fun _ => ?_)
  refine x_aload_n (pc' := 34) rfl rfl rfl rfl rfl ?_
  refine x_iload (pc' := 36) rfl rfl rfl ?_
  refine x_iald (pc' := 37) (N := 7) (x := (xs 0)) rfl rfl rfl (z_N_29_0 e) (io_in (p := 0) (N := 7) (by decide) (by decide)) (Eq.trans (congrArg (sA t 29 0) (nn_io (p := 0) (by decide))) (z_A_29_0_0 e)) ?_
  refine x_bipush (pc' := 39) rfl rfl ?_
  refine x_iand (pc' := 40) (z := ((xs 0) &&& 63)) rfl rfl rfl ?_
  refine x_switch (pc' := 1017) rfl (by rw [hk]; decide) ?_
  refine x_aload_n (pc' := 1018) rfl rfl rfl rfl rfl ?_
  refine x_aload_n (pc' := 1019) rfl rfl rfl rfl rfl ?_
  refine x_iload (pc' := 1021) rfl rfl rfl ?_
  refine x_iconst (pc' := 1022) rfl rfl ?_
  refine x_iadd (pc' := 1023) (z := 1) rfl rfl (by decide) ?_
  refine x_iald (pc' := 1024) (N := 7) (x := (xs 1)) rfl rfl rfl (z_N_29_0 e) (io_in (p := 1) (N := 7) (by decide) (by decide)) (Eq.trans (congrArg (sA t 29 0) (nn_io (p := 1) (by decide))) (z_A_29_0_1 e)) ?_
  refine x_aload_n (pc' := 1025) rfl rfl rfl rfl rfl ?_
  refine x_iload (pc' := 1027) rfl rfl rfl ?_
  refine x_iconst (pc' := 1028) rfl rfl ?_
  refine x_iadd (pc' := 1029) (z := 2) rfl rfl (by decide) ?_
  refine x_iald (pc' := 1030) (N := 7) (x := (xs 2)) rfl rfl rfl (z_N_29_0 e) (io_in (p := 2) (N := 7) (by decide) (by decide)) (Eq.trans (congrArg (sA t 29 0) (nn_io (p := 2) (by decide))) (z_A_29_0_2 e)) ?_
  refine x_aload_n (pc' := 1031) rfl rfl rfl rfl rfl ?_
  refine x_iload (pc' := 1033) rfl rfl rfl ?_
  refine x_iconst (pc' := 1034) rfl rfl ?_
  refine x_iadd (pc' := 1035) (z := 3) rfl rfl (by decide) ?_
  refine x_iald (pc' := 1036) (N := 7) (x := (xs 3)) rfl rfl rfl (z_N_29_0 e) (io_in (p := 3) (N := 7) (by decide) (by decide)) (Eq.trans (congrArg (sA t 29 0) (nn_io (p := 3) (by decide))) (z_A_29_0_3 e)) ?_
  have J3 : X 297 1044 [.inr (.inr (29, (some 0))), .inr (.inr (11, (some 0))), .inr (.inr (12, (some 0))), .inr (.inr (23, (some 0))), .inl 0, sJk, sJk] [.inl (bz (!(decide ((xs 3) = 0)))), .inl (xs 2), .inl (xs 1), .inr (.inr (11, (some 0)))] t Qp := by
    refine x_aload_n (pc' := 1045) rfl rfl rfl rfl rfl ?_
    refine x_iload (pc' := 1047) rfl rfl rfl ?_
    refine x_iconst (pc' := 1048) rfl rfl ?_
    refine x_iadd (pc' := 1049) (z := 4) rfl rfl (by decide) ?_
    refine x_iald (pc' := 1050) (N := 7) (x := (xs 4)) rfl rfl rfl (z_N_29_0 e) (io_in (p := 4) (N := 7) (by decide) (by decide)) (Eq.trans (congrArg (sA t 29 0) (nn_io (p := 4) (by decide))) (z_A_29_0_4 e)) ?_
    refine x_aload_n (pc' := 1051) rfl rfl rfl rfl rfl ?_
    refine x_iload (pc' := 1053) rfl rfl rfl ?_
    refine x_iconst (pc' := 1054) rfl rfl ?_
    refine x_iadd (pc' := 1055) (z := 5) rfl rfl (by decide) ?_
    refine x_iald (pc' := 1056) (N := 7) (x := (xs 5)) rfl rfl rfl (z_N_29_0 e) (io_in (p := 5) (N := 7) (by decide) (by decide)) (Eq.trans (congrArg (sA t 29 0) (nn_io (p := 5) (by decide))) (z_A_29_0_5 e)) ?_
    refine x_aload_n (pc' := 1057) rfl rfl rfl rfl rfl ?_
    refine x_cs (ls0 := [_, _, _, _, _, _, _, sJk]) (rest := []) rfl rfl rfl rfl ?_
    refine x_aload (pc' := 2) rfl rfl rfl rfl rfl ?_
    refine x_iconst (pc' := 3) rfl rfl ?_
    refine x_aload_n (pc' := 4) rfl rfl rfl rfl rfl ?_
    refine x_iload_n (pc' := 5) rfl rfl rfl ?_
    refine x_iload_n (pc' := 6) rfl rfl rfl ?_
    refine x_iload_n (pc' := 7) rfl rfl rfl ?_
    refine x_iload (pc' := 9) rfl rfl rfl ?_
    refine x_iload (pc' := 11) rfl rfl rfl ?_
    refine x_cv (ls0 := [_, _, _, _, _, _, sJk, sJk, sJk]) (rest := [_, _]) rfl rfl rfl rfl rfl ?_
    refine x_aload_n (pc' := 1) rfl rfl rfl rfl rfl ?_
    refine x_iload_n (pc' := 2) rfl rfl rfl ?_
    refine x_cv (ls0 := [_, _]) (rest := []) rfl rfl rfl rfl rfl ?_
    refine x_iload_n (pc' := 1) rfl rfl rfl ?_
    refine x_if (a' := 16) (pc' := 4) (z := decide ((xs 1) < 0)) rfl rfl rfl rfl (fun h => absurd (of_decide_eq_true h) e0) (fun _ => ?_)
    refine x_iload_n (pc' := 5) rfl rfl rfl ?_
    refine x_aload_n (pc' := 6) rfl rfl rfl rfl rfl ?_
    refine x_gR (pc' := 9) (r := (some 0)) rfl rfl rfl (z_R_704_0 e) ?_
    refine x_gR (pc' := 12) (r := (some 0)) rfl rfl rfl (z_R_321_0 e) ?_
    refine x_alen (pc' := 13) (N := 6) rfl rfl rfl (z_N_26_0 e) (?_ : X _ _ _ (.inl 6 :: _) _ _)
    refine x_icmp (a' := 27) (pc' := 16) (z := decide ((xs 1) < 6)) rfl rfl rfl rfl (fun h => absurd (of_decide_eq_true h) f0) (fun _ => ?_)
    refine x_throw rfl rfl ?_
    refine sK_n (by decide +kernel) rfl ?_
    refine sK_h (h := 19) (by decide +kernel) rfl ?_
    refine x_catch (pc' := 21) (ls' := [_, _, _, _, _, _, _, _]) rfl rfl rfl rfl ?_
    refine x_iconst (pc' := 22) rfl rfl ?_
    refine x_reti rfl rfl ?_
    refine sK_i (pc' := 1060) rfl ?_
    refine x_istore (pc' := 1062) (ls' := [_, _, _, _, _, _, _]) rfl rfl rfl rfl ?_
    refine x_aload_n (pc' := 1063) rfl rfl rfl rfl rfl ?_
    refine x_aload_n (pc' := 1064) rfl rfl rfl rfl rfl ?_
    refine x_iload (pc' := 1066) rfl rfl rfl ?_
    refine x_iconst (pc' := 1067) rfl rfl ?_
    refine x_iadd (pc' := 1068) (z := 1) rfl rfl (by decide) ?_
    refine x_iald (pc' := 1069) (N := 7) (x := (xs 1)) rfl rfl rfl (Eq.trans rdNthr (z_N_29_0 e)) (io_in (p := 1) (N := 7) (by decide) (by decide)) (Eq.trans (congrArg (sA (sThr t) 29 0) (nn_io (p := 1) (by decide))) (Eq.trans rdAthr (z_A_29_0_1 e))) ?_
    refine x_aload_n (pc' := 1070) rfl rfl rfl rfl rfl ?_
    refine x_iload (pc' := 1072) rfl rfl rfl ?_
    refine x_iconst (pc' := 1073) rfl rfl ?_
    refine x_iadd (pc' := 1074) (z := 2) rfl rfl (by decide) ?_
    refine x_iald (pc' := 1075) (N := 7) (x := (xs 2)) rfl rfl rfl (Eq.trans rdNthr (z_N_29_0 e)) (io_in (p := 2) (N := 7) (by decide) (by decide)) (Eq.trans (congrArg (sA (sThr t) 29 0) (nn_io (p := 2) (by decide))) (Eq.trans rdAthr (z_A_29_0_2 e))) ?_
    refine x_aload_n (pc' := 1076) rfl rfl rfl rfl rfl ?_
    refine x_iload (pc' := 1078) rfl rfl rfl ?_
    refine x_iconst (pc' := 1079) rfl rfl ?_
    refine x_iadd (pc' := 1080) (z := 3) rfl rfl (by decide) ?_
    refine x_iald (pc' := 1081) (N := 7) (x := (xs 3)) rfl rfl rfl (Eq.trans rdNthr (z_N_29_0 e)) (io_in (p := 3) (N := 7) (by decide) (by decide)) (Eq.trans (congrArg (sA (sThr t) 29 0) (nn_io (p := 3) (by decide))) (Eq.trans rdAthr (z_A_29_0_3 e))) ?_
    have J7 : X 297 1089 [.inr (.inr (29, (some 0))), .inr (.inr (11, (some 0))), .inr (.inr (12, (some 0))), .inr (.inr (23, (some 0))), .inl 0, .inl 1, sJk] [.inl (bz (!(decide ((xs 3) = 0)))), .inl (xs 2), .inl (xs 1), .inr (.inr (12, (some 0)))] (sThr t) Qp := by
      refine x_aload_n (pc' := 1090) rfl rfl rfl rfl rfl ?_
      refine x_iload (pc' := 1092) rfl rfl rfl ?_
      refine x_iconst (pc' := 1093) rfl rfl ?_
      refine x_iadd (pc' := 1094) (z := 4) rfl rfl (by decide) ?_
      refine x_iald (pc' := 1095) (N := 7) (x := (xs 4)) rfl rfl rfl (Eq.trans rdNthr (z_N_29_0 e)) (io_in (p := 4) (N := 7) (by decide) (by decide)) (Eq.trans (congrArg (sA (sThr t) 29 0) (nn_io (p := 4) (by decide))) (Eq.trans rdAthr (z_A_29_0_4 e))) ?_
      refine x_aload_n (pc' := 1096) rfl rfl rfl rfl rfl ?_
      refine x_iload (pc' := 1098) rfl rfl rfl ?_
      refine x_iconst (pc' := 1099) rfl rfl ?_
      refine x_iadd (pc' := 1100) (z := 5) rfl rfl (by decide) ?_
      refine x_iald (pc' := 1101) (N := 7) (x := (xs 5)) rfl rfl rfl (Eq.trans rdNthr (z_N_29_0 e)) (io_in (p := 5) (N := 7) (by decide) (by decide)) (Eq.trans (congrArg (sA (sThr t) 29 0) (nn_io (p := 5) (by decide))) (Eq.trans rdAthr (z_A_29_0_5 e))) ?_
      refine x_cv (ls0 := [_, _, _, _, _, _, sJk, sJk]) (rest := []) rfl rfl rfl rfl rfl ?_
      refine x_iload_n (pc' := 1) rfl rfl rfl ?_
      refine x_cs (ls0 := [_]) (rest := []) rfl rfl rfl rfl ?_
      refine x_iload_n (pc' := 1) rfl rfl rfl ?_
      refine x_iconst (pc' := 2) rfl rfl ?_
      refine x_iconst (pc' := 3) rfl rfl ?_
      refine x_cs (ls0 := [_, _, _]) (rest := []) rfl rfl rfl rfl ?_
      refine x_iload_n (pc' := 1) rfl rfl rfl ?_
      refine x_iload_n (pc' := 2) rfl rfl rfl ?_
      refine x_icmp (a' := 14) (pc' := 5) (z := decide ((xs 2) < 0)) rfl rfl rfl rfl (fun _ => ?_) (fun h => absurd e1 (of_decide_eq_false h))
      refine x_iconst (pc' := 15) rfl rfl ?_
      refine x_retz (z := false) rfl rfl ?_
      refine sK_i (pc' := 6) rfl ?_
      refine x_retz (z := false) rfl rfl ?_
      refine sK_i (pc' := 4) rfl ?_
      refine x_if (a' := 31) (pc' := 7) (z := true) rfl rfl rfl (by decide) (fun _ => ?_) (fun h => by cases h)
      refine x_iconst (pc' := 32) rfl rfl ?_
      refine x_istore (pc' := 34) (ls' := [_, _, _, _, _, _, _, _]) rfl rfl rfl rfl ?_
      refine x_iload_n (pc' := 35) rfl rfl rfl ?_
      refine x_cs (ls0 := [_]) (rest := []) rfl rfl rfl rfl ?_
      refine x_iload_n (pc' := 1) rfl rfl rfl ?_
      refine x_iconst (pc' := 2) rfl rfl ?_
      refine x_iconst (pc' := 3) rfl rfl ?_
      refine x_cs (ls0 := [_, _, _]) (rest := []) rfl rfl rfl rfl ?_
      refine x_iload_n (pc' := 1) rfl rfl rfl ?_
      refine x_iload_n (pc' := 2) rfl rfl rfl ?_
      refine x_icmp (a' := 14) (pc' := 5) (z := decide ((xs 2) < 0)) rfl rfl rfl rfl (fun _ => ?_) (fun h => absurd e1 (of_decide_eq_false h))
      refine x_iconst (pc' := 15) rfl rfl ?_
      refine x_retz (z := false) rfl rfl ?_
      refine sK_i (pc' := 6) rfl ?_
      refine x_retz (z := false) rfl rfl ?_
      refine sK_i (pc' := 38) rfl ?_
      refine x_if (a' := 65) (pc' := 41) (z := true) rfl rfl rfl (by decide) (fun _ => ?_) (fun h => by cases h)
      refine x_iconst (pc' := 66) rfl rfl ?_
      refine x_istore (pc' := 68) (ls' := [_, _, _, _, _, _, _, _]) rfl rfl rfl rfl ?_
      refine x_aload_n (pc' := 69) rfl rfl rfl rfl rfl ?_
      refine x_aload_n (pc' := 70) rfl rfl rfl rfl rfl ?_
      refine x_iload_n (pc' := 71) rfl rfl rfl ?_
      refine x_iload_n (pc' := 72) rfl rfl rfl ?_
      refine x_iload (pc' := 74) rfl rfl rfl ?_
      refine x_iload (pc' := 76) rfl rfl rfl ?_
      refine x_cv (ls0 := [_, _, _, _, _, sJk]) (rest := [_]) rfl rfl rfl rfl rfl ?_
      refine x_iload_n (pc' := 1) rfl rfl rfl ?_
      refine x_cs (ls0 := [_]) (rest := []) rfl rfl rfl rfl ?_
      refine x_iload_n (pc' := 1) rfl rfl rfl ?_
      refine x_iconst (pc' := 2) rfl rfl ?_
      refine x_iconst (pc' := 3) rfl rfl ?_
      refine x_cs (ls0 := [_, _, _]) (rest := []) rfl rfl rfl rfl ?_
      refine x_iload_n (pc' := 1) rfl rfl rfl ?_
      refine x_iload_n (pc' := 2) rfl rfl rfl ?_
      refine x_icmp (a' := 14) (pc' := 5) (z := decide ((xs 1) < 0)) rfl rfl rfl rfl (fun h => absurd (of_decide_eq_true h) e0) (fun _ => ?_)
      refine x_iload_n (pc' := 6) rfl rfl rfl ?_
      refine x_iload_n (pc' := 7) rfl rfl rfl ?_
      refine x_icmp (a' := 14) (pc' := 10) (z := decide (5 < (xs 1))) rfl rfl rfl rfl (fun _ => ?_) (fun h => absurd (lt_of6 f0) (of_decide_eq_false h))
      refine x_iconst (pc' := 15) rfl rfl ?_
      refine x_retz (z := false) rfl rfl ?_
      refine sK_i (pc' := 6) rfl ?_
      refine x_retz (z := false) rfl rfl ?_
      refine sK_i (pc' := 4) rfl ?_
      refine x_if (a' := 18) (pc' := 7) (z := true) rfl rfl rfl (by decide) (fun _ => ?_) (fun h => by cases h)
      refine x_iconst (pc' := 19) rfl rfl ?_
      refine x_istore (pc' := 21) (ls' := [_, _, _, _, _, _]) rfl rfl rfl rfl ?_
      refine x_iload (pc' := 23) rfl rfl rfl ?_
      refine x_if (a' := 30) (pc' := 26) (z := false) rfl rfl rfl (by decide) (fun h => by cases h) (fun _ => ?_)
      refine x_iconst (pc' := 27) rfl rfl ?_
      refine x_goto (pc' := 57) rfl rfl ?_
      refine x_reti rfl rfl ?_
      refine sK_i (pc' := 79) rfl ?_
      refine x_cv (ls0 := [_, _]) (rest := []) rfl rfl rfl rfl rfl ?_
      refine x_aload_n (pc' := 1) rfl rfl rfl rfl rfl ?_
      refine x_iload_n (pc' := 2) rfl rfl rfl ?_
      refine x_pI (pc' := 5) rfl rfl rfl ?_
      refine x_iload_n (pc' := 6) rfl rfl rfl ?_
      refine x_if (a' := 13) (pc' := 9) (z := true) rfl rfl rfl (by decide) (fun _ => ?_) (fun h => by cases h)
      refine x_iconst (pc' := 14) rfl rfl ?_
      refine x_retz (z := false) rfl rfl ?_
      refine sK_i (pc' := 82) rfl ?_
      refine x_if (a' := 102) (pc' := 85) (z := true) rfl rfl rfl (by decide) (fun _ => ?_) (fun h => by cases h)
      refine x_iconst (pc' := 103) rfl rfl ?_
      refine x_reti rfl rfl ?_
      refine sK_i (pc' := 1104) rfl ?_
      refine x_istore (pc' := 1106) (ls' := [_, _, _, _, _, _, _]) rfl rfl rfl rfl ?_
      refine x_aload_n (pc' := 1107) rfl rfl rfl rfl rfl ?_
      refine x_cv (ls0 := [_]) (rest := []) rfl rfl rfl rfl rfl ?_
      refine x_aload_n (pc' := 1) rfl rfl rfl rfl rfl ?_
      refine x_gI (pc' := 4) (x := 1) rfl rfl rfl sI_s ?_
      refine x_reti rfl rfl ?_
      refine sK_i (pc' := 1110) rfl ?_
      refine x_iload (pc' := 1112) rfl rfl rfl ?_
      refine x_icmp (a' := 1117) (pc' := 1115) (z := true) rfl rfl rfl (by decide) (fun _ => ?_) (fun h => by cases h)
      refine x_iload (pc' := 1119) rfl rfl rfl ?_
      refine x_if (a' := 1134) (pc' := 1122) (z := true) rfl rfl rfl (by decide) (fun _ => ?_) (fun h => by cases h)
      refine x_goto (pc' := 2938) rfl rfl ?_
      refine x_iinc (pc' := 2941) (y := 7) (ls' := [_, _, _, _, _, _, _]) rfl rfl rfl rfl rfl ?_
      refine x_goto (pc' := 23) rfl rfl ?_
      refine x_iload (pc' := 25) rfl rfl rfl ?_
      refine x_aload_n (pc' := 26) rfl rfl rfl rfl rfl ?_
      refine x_alen (pc' := 27) (N := 7) rfl rfl rfl (Eq.trans rdNI (Eq.trans rdNthr (z_N_29_0 e))) (?_ : X _ _ _ (.inl 7 :: _) _ _)
      refine x_bipush (pc' := 29) rfl rfl ?_
      refine x_isub (pc' := 30) (z := 0) rfl rfl (by decide) ?_
      refine x_icmp (a' := 2944) (pc' := 33) (z := true) rfl rfl rfl (by decide) (fun _ => ?_) (fun h => by cases h)
      refine x_iconst (pc' := 2945) rfl rfl ?_
      refine x_retz (z := true) rfl rfl ?_
      exact Qp_ok e (p := 1) (q := 6) rfl rfl rfl rfl
    refine x_if (a' := 1088) (pc' := 1084) (z := decide ((xs 3) = 0)) rfl rfl rfl rfl (fun q7 => ?_) (fun q7 => ?_)
    · refine x_iconst (pc' := 1089) rfl rfl ?_
      ((try rw [q7] at J7); (try rw [q7]); (try simp only [cd_t, cd_f, nt_t, nt_f, an_t, an_f, or_t, or_f] at J7); (try simp only [cd_t, cd_f, nt_t, nt_f, an_t, an_f, or_t, or_f]); exact J7)
    · refine x_iconst (pc' := 1085) rfl rfl ?_
      refine x_goto (pc' := 1089) rfl rfl ?_
      ((try rw [q7] at J7); (try rw [q7]); (try simp only [cd_t, cd_f, nt_t, nt_f, an_t, an_f, or_t, or_f] at J7); (try simp only [cd_t, cd_f, nt_t, nt_f, an_t, an_f, or_t, or_f]); exact J7)
  refine x_if (a' := 1043) (pc' := 1039) (z := decide ((xs 3) = 0)) rfl rfl rfl rfl (fun q3 => ?_) (fun q3 => ?_)
  · refine x_iconst (pc' := 1044) rfl rfl ?_
    ((try rw [q3] at J3); (try rw [q3]); (try simp only [cd_t, cd_f, nt_t, nt_f, an_t, an_f, or_t, or_f] at J3); (try simp only [cd_t, cd_f, nt_t, nt_f, an_t, an_f, or_t, or_f]); exact J3)
  · refine x_iconst (pc' := 1040) rfl rfl ?_
    refine x_goto (pc' := 1044) rfl rfl ?_
    ((try rw [q3] at J3); (try rw [q3]); (try simp only [cd_t, cd_f, nt_t, nt_f, an_t, an_f, or_t, or_f] at J3); (try simp only [cd_t, cd_f, nt_t, nt_f, an_t, an_f, or_t, or_f]); exact J3)
set_option maxHeartbeats 4000000 in
set_option maxRecDepth 10000 in
theorem v_11_B_B_i_i_i {t : sT} {xs : Nat → Int32}
    (e : t = T16 7 xs)
    (hk : ((xs 0) &&& 63) = 11)
    (e0 : ¬ (xs 1) < 0)
    (f0 : ¬ (xs 1) < 6)
    (e1 : ¬ (xs 2) < 0)
    (f1 : ¬ (xs 2) < 5) :
    X 297 23 [.inr (.inr (29, (some 0))), .inr (.inr (11, (some 0))), .inr (.inr (12, (some 0))), .inr (.inr (23, (some 0))), .inl 0, sJk, sJk] [] t Qp := by
  refine x_iload (pc' := 25) rfl rfl rfl ?_
  refine x_aload_n (pc' := 26) rfl rfl rfl rfl rfl ?_
  refine x_alen (pc' := 27) (N := 7) rfl rfl rfl (z_N_29_0 e) (?_ : X _ _ _ (.inl 7 :: _) _ _)
  refine x_bipush (pc' := 29) rfl rfl ?_
  refine x_isub (pc' := 30) (z := 0) rfl rfl (by decide) ?_
  refine x_icmp (a' := 2944) (pc' := 33) (z := false) rfl rfl rfl (by decide) (fun h => by cases h) (fun _ => ?_)
  refine x_aload_n (pc' := 34) rfl rfl rfl rfl rfl ?_
  refine x_iload (pc' := 36) rfl rfl rfl ?_
  refine x_iald (pc' := 37) (N := 7) (x := (xs 0)) rfl rfl rfl (z_N_29_0 e) (io_in (p := 0) (N := 7) (by decide) (by decide)) (Eq.trans (congrArg (sA t 29 0) (nn_io (p := 0) (by decide))) (z_A_29_0_0 e)) ?_
  refine x_bipush (pc' := 39) rfl rfl ?_
  refine x_iand (pc' := 40) (z := ((xs 0) &&& 63)) rfl rfl rfl ?_
  refine x_switch (pc' := 1017) rfl (by rw [hk]; decide) ?_
  refine x_aload_n (pc' := 1018) rfl rfl rfl rfl rfl ?_
  refine x_aload_n (pc' := 1019) rfl rfl rfl rfl rfl ?_
  refine x_iload (pc' := 1021) rfl rfl rfl ?_
  refine x_iconst (pc' := 1022) rfl rfl ?_
  refine x_iadd (pc' := 1023) (z := 1) rfl rfl (by decide) ?_
  refine x_iald (pc' := 1024) (N := 7) (x := (xs 1)) rfl rfl rfl (z_N_29_0 e) (io_in (p := 1) (N := 7) (by decide) (by decide)) (Eq.trans (congrArg (sA t 29 0) (nn_io (p := 1) (by decide))) (z_A_29_0_1 e)) ?_
  refine x_aload_n (pc' := 1025) rfl rfl rfl rfl rfl ?_
  refine x_iload (pc' := 1027) rfl rfl rfl ?_
  refine x_iconst (pc' := 1028) rfl rfl ?_
  refine x_iadd (pc' := 1029) (z := 2) rfl rfl (by decide) ?_
  refine x_iald (pc' := 1030) (N := 7) (x := (xs 2)) rfl rfl rfl (z_N_29_0 e) (io_in (p := 2) (N := 7) (by decide) (by decide)) (Eq.trans (congrArg (sA t 29 0) (nn_io (p := 2) (by decide))) (z_A_29_0_2 e)) ?_
  refine x_aload_n (pc' := 1031) rfl rfl rfl rfl rfl ?_
  refine x_iload (pc' := 1033) rfl rfl rfl ?_
  refine x_iconst (pc' := 1034) rfl rfl ?_
  refine x_iadd (pc' := 1035) (z := 3) rfl rfl (by decide) ?_
  refine x_iald (pc' := 1036) (N := 7) (x := (xs 3)) rfl rfl rfl (z_N_29_0 e) (io_in (p := 3) (N := 7) (by decide) (by decide)) (Eq.trans (congrArg (sA t 29 0) (nn_io (p := 3) (by decide))) (z_A_29_0_3 e)) ?_
  have J3 : X 297 1044 [.inr (.inr (29, (some 0))), .inr (.inr (11, (some 0))), .inr (.inr (12, (some 0))), .inr (.inr (23, (some 0))), .inl 0, sJk, sJk] [.inl (bz (!(decide ((xs 3) = 0)))), .inl (xs 2), .inl (xs 1), .inr (.inr (11, (some 0)))] t Qp := by
    refine x_aload_n (pc' := 1045) rfl rfl rfl rfl rfl ?_
    refine x_iload (pc' := 1047) rfl rfl rfl ?_
    refine x_iconst (pc' := 1048) rfl rfl ?_
    refine x_iadd (pc' := 1049) (z := 4) rfl rfl (by decide) ?_
    refine x_iald (pc' := 1050) (N := 7) (x := (xs 4)) rfl rfl rfl (z_N_29_0 e) (io_in (p := 4) (N := 7) (by decide) (by decide)) (Eq.trans (congrArg (sA t 29 0) (nn_io (p := 4) (by decide))) (z_A_29_0_4 e)) ?_
    refine x_aload_n (pc' := 1051) rfl rfl rfl rfl rfl ?_
    refine x_iload (pc' := 1053) rfl rfl rfl ?_
    refine x_iconst (pc' := 1054) rfl rfl ?_
    refine x_iadd (pc' := 1055) (z := 5) rfl rfl (by decide) ?_
    refine x_iald (pc' := 1056) (N := 7) (x := (xs 5)) rfl rfl rfl (z_N_29_0 e) (io_in (p := 5) (N := 7) (by decide) (by decide)) (Eq.trans (congrArg (sA t 29 0) (nn_io (p := 5) (by decide))) (z_A_29_0_5 e)) ?_
    refine x_aload_n (pc' := 1057) rfl rfl rfl rfl rfl ?_
    refine x_cs (ls0 := [_, _, _, _, _, _, _, sJk]) (rest := []) rfl rfl rfl rfl ?_
    refine x_aload (pc' := 2) rfl rfl rfl rfl rfl ?_
    refine x_iconst (pc' := 3) rfl rfl ?_
    refine x_aload_n (pc' := 4) rfl rfl rfl rfl rfl ?_
    refine x_iload_n (pc' := 5) rfl rfl rfl ?_
    refine x_iload_n (pc' := 6) rfl rfl rfl ?_
    refine x_iload_n (pc' := 7) rfl rfl rfl ?_
    refine x_iload (pc' := 9) rfl rfl rfl ?_
    refine x_iload (pc' := 11) rfl rfl rfl ?_
    refine x_cv (ls0 := [_, _, _, _, _, _, sJk, sJk, sJk]) (rest := [_, _]) rfl rfl rfl rfl rfl ?_
    refine x_aload_n (pc' := 1) rfl rfl rfl rfl rfl ?_
    refine x_iload_n (pc' := 2) rfl rfl rfl ?_
    refine x_cv (ls0 := [_, _]) (rest := []) rfl rfl rfl rfl rfl ?_
    refine x_iload_n (pc' := 1) rfl rfl rfl ?_
    refine x_if (a' := 16) (pc' := 4) (z := decide ((xs 1) < 0)) rfl rfl rfl rfl (fun h => absurd (of_decide_eq_true h) e0) (fun _ => ?_)
    refine x_iload_n (pc' := 5) rfl rfl rfl ?_
    refine x_aload_n (pc' := 6) rfl rfl rfl rfl rfl ?_
    refine x_gR (pc' := 9) (r := (some 0)) rfl rfl rfl (z_R_704_0 e) ?_
    refine x_gR (pc' := 12) (r := (some 0)) rfl rfl rfl (z_R_321_0 e) ?_
    refine x_alen (pc' := 13) (N := 6) rfl rfl rfl (z_N_26_0 e) (?_ : X _ _ _ (.inl 6 :: _) _ _)
    refine x_icmp (a' := 27) (pc' := 16) (z := decide ((xs 1) < 6)) rfl rfl rfl rfl (fun h => absurd (of_decide_eq_true h) f0) (fun _ => ?_)
    refine x_throw rfl rfl ?_
    refine sK_n (by decide +kernel) rfl ?_
    refine sK_h (h := 19) (by decide +kernel) rfl ?_
    refine x_catch (pc' := 21) (ls' := [_, _, _, _, _, _, _, _]) rfl rfl rfl rfl ?_
    refine x_iconst (pc' := 22) rfl rfl ?_
    refine x_reti rfl rfl ?_
    refine sK_i (pc' := 1060) rfl ?_
    refine x_istore (pc' := 1062) (ls' := [_, _, _, _, _, _, _]) rfl rfl rfl rfl ?_
    refine x_aload_n (pc' := 1063) rfl rfl rfl rfl rfl ?_
    refine x_aload_n (pc' := 1064) rfl rfl rfl rfl rfl ?_
    refine x_iload (pc' := 1066) rfl rfl rfl ?_
    refine x_iconst (pc' := 1067) rfl rfl ?_
    refine x_iadd (pc' := 1068) (z := 1) rfl rfl (by decide) ?_
    refine x_iald (pc' := 1069) (N := 7) (x := (xs 1)) rfl rfl rfl (Eq.trans rdNthr (z_N_29_0 e)) (io_in (p := 1) (N := 7) (by decide) (by decide)) (Eq.trans (congrArg (sA (sThr t) 29 0) (nn_io (p := 1) (by decide))) (Eq.trans rdAthr (z_A_29_0_1 e))) ?_
    refine x_aload_n (pc' := 1070) rfl rfl rfl rfl rfl ?_
    refine x_iload (pc' := 1072) rfl rfl rfl ?_
    refine x_iconst (pc' := 1073) rfl rfl ?_
    refine x_iadd (pc' := 1074) (z := 2) rfl rfl (by decide) ?_
    refine x_iald (pc' := 1075) (N := 7) (x := (xs 2)) rfl rfl rfl (Eq.trans rdNthr (z_N_29_0 e)) (io_in (p := 2) (N := 7) (by decide) (by decide)) (Eq.trans (congrArg (sA (sThr t) 29 0) (nn_io (p := 2) (by decide))) (Eq.trans rdAthr (z_A_29_0_2 e))) ?_
    refine x_aload_n (pc' := 1076) rfl rfl rfl rfl rfl ?_
    refine x_iload (pc' := 1078) rfl rfl rfl ?_
    refine x_iconst (pc' := 1079) rfl rfl ?_
    refine x_iadd (pc' := 1080) (z := 3) rfl rfl (by decide) ?_
    refine x_iald (pc' := 1081) (N := 7) (x := (xs 3)) rfl rfl rfl (Eq.trans rdNthr (z_N_29_0 e)) (io_in (p := 3) (N := 7) (by decide) (by decide)) (Eq.trans (congrArg (sA (sThr t) 29 0) (nn_io (p := 3) (by decide))) (Eq.trans rdAthr (z_A_29_0_3 e))) ?_
    have J7 : X 297 1089 [.inr (.inr (29, (some 0))), .inr (.inr (11, (some 0))), .inr (.inr (12, (some 0))), .inr (.inr (23, (some 0))), .inl 0, .inl 1, sJk] [.inl (bz (!(decide ((xs 3) = 0)))), .inl (xs 2), .inl (xs 1), .inr (.inr (12, (some 0)))] (sThr t) Qp := by
      refine x_aload_n (pc' := 1090) rfl rfl rfl rfl rfl ?_
      refine x_iload (pc' := 1092) rfl rfl rfl ?_
      refine x_iconst (pc' := 1093) rfl rfl ?_
      refine x_iadd (pc' := 1094) (z := 4) rfl rfl (by decide) ?_
      refine x_iald (pc' := 1095) (N := 7) (x := (xs 4)) rfl rfl rfl (Eq.trans rdNthr (z_N_29_0 e)) (io_in (p := 4) (N := 7) (by decide) (by decide)) (Eq.trans (congrArg (sA (sThr t) 29 0) (nn_io (p := 4) (by decide))) (Eq.trans rdAthr (z_A_29_0_4 e))) ?_
      refine x_aload_n (pc' := 1096) rfl rfl rfl rfl rfl ?_
      refine x_iload (pc' := 1098) rfl rfl rfl ?_
      refine x_iconst (pc' := 1099) rfl rfl ?_
      refine x_iadd (pc' := 1100) (z := 5) rfl rfl (by decide) ?_
      refine x_iald (pc' := 1101) (N := 7) (x := (xs 5)) rfl rfl rfl (Eq.trans rdNthr (z_N_29_0 e)) (io_in (p := 5) (N := 7) (by decide) (by decide)) (Eq.trans (congrArg (sA (sThr t) 29 0) (nn_io (p := 5) (by decide))) (Eq.trans rdAthr (z_A_29_0_5 e))) ?_
      refine x_cv (ls0 := [_, _, _, _, _, _, sJk, sJk]) (rest := []) rfl rfl rfl rfl rfl ?_
      refine x_iload_n (pc' := 1) rfl rfl rfl ?_
      refine x_cs (ls0 := [_]) (rest := []) rfl rfl rfl rfl ?_
      refine x_iload_n (pc' := 1) rfl rfl rfl ?_
      refine x_iconst (pc' := 2) rfl rfl ?_
      refine x_iconst (pc' := 3) rfl rfl ?_
      refine x_cs (ls0 := [_, _, _]) (rest := []) rfl rfl rfl rfl ?_
      refine x_iload_n (pc' := 1) rfl rfl rfl ?_
      refine x_iload_n (pc' := 2) rfl rfl rfl ?_
      refine x_icmp (a' := 14) (pc' := 5) (z := decide ((xs 2) < 0)) rfl rfl rfl rfl (fun h => absurd (of_decide_eq_true h) e1) (fun _ => ?_)
      refine x_iload_n (pc' := 6) rfl rfl rfl ?_
      refine x_iload_n (pc' := 7) rfl rfl rfl ?_
      refine x_icmp (a' := 14) (pc' := 10) (z := decide (4 < (xs 2))) rfl rfl rfl rfl (fun _ => ?_) (fun h => absurd (lt_of5 f1) (of_decide_eq_false h))
      refine x_iconst (pc' := 15) rfl rfl ?_
      refine x_retz (z := false) rfl rfl ?_
      refine sK_i (pc' := 6) rfl ?_
      refine x_retz (z := false) rfl rfl ?_
      refine sK_i (pc' := 4) rfl ?_
      refine x_if (a' := 31) (pc' := 7) (z := true) rfl rfl rfl (by decide) (fun _ => ?_) (fun h => by cases h)
      refine x_iconst (pc' := 32) rfl rfl ?_
      refine x_istore (pc' := 34) (ls' := [_, _, _, _, _, _, _, _]) rfl rfl rfl rfl ?_
      refine x_iload_n (pc' := 35) rfl rfl rfl ?_
      refine x_cs (ls0 := [_]) (rest := []) rfl rfl rfl rfl ?_
      refine x_iload_n (pc' := 1) rfl rfl rfl ?_
      refine x_iconst (pc' := 2) rfl rfl ?_
      refine x_iconst (pc' := 3) rfl rfl ?_
      refine x_cs (ls0 := [_, _, _]) (rest := []) rfl rfl rfl rfl ?_
      refine x_iload_n (pc' := 1) rfl rfl rfl ?_
      refine x_iload_n (pc' := 2) rfl rfl rfl ?_
      refine x_icmp (a' := 14) (pc' := 5) (z := decide ((xs 2) < 0)) rfl rfl rfl rfl (fun h => absurd (of_decide_eq_true h) e1) (fun _ => ?_)
      refine x_iload_n (pc' := 6) rfl rfl rfl ?_
      refine x_iload_n (pc' := 7) rfl rfl rfl ?_
      refine x_icmp (a' := 14) (pc' := 10) (z := decide (4 < (xs 2))) rfl rfl rfl rfl (fun _ => ?_) (fun h => absurd (lt_of5 f1) (of_decide_eq_false h))
      refine x_iconst (pc' := 15) rfl rfl ?_
      refine x_retz (z := false) rfl rfl ?_
      refine sK_i (pc' := 6) rfl ?_
      refine x_retz (z := false) rfl rfl ?_
      refine sK_i (pc' := 38) rfl ?_
      refine x_if (a' := 65) (pc' := 41) (z := true) rfl rfl rfl (by decide) (fun _ => ?_) (fun h => by cases h)
      refine x_iconst (pc' := 66) rfl rfl ?_
      refine x_istore (pc' := 68) (ls' := [_, _, _, _, _, _, _, _]) rfl rfl rfl rfl ?_
      refine x_aload_n (pc' := 69) rfl rfl rfl rfl rfl ?_
      refine x_aload_n (pc' := 70) rfl rfl rfl rfl rfl ?_
      refine x_iload_n (pc' := 71) rfl rfl rfl ?_
      refine x_iload_n (pc' := 72) rfl rfl rfl ?_
      refine x_iload (pc' := 74) rfl rfl rfl ?_
      refine x_iload (pc' := 76) rfl rfl rfl ?_
      refine x_cv (ls0 := [_, _, _, _, _, sJk]) (rest := [_]) rfl rfl rfl rfl rfl ?_
      refine x_iload_n (pc' := 1) rfl rfl rfl ?_
      refine x_cs (ls0 := [_]) (rest := []) rfl rfl rfl rfl ?_
      refine x_iload_n (pc' := 1) rfl rfl rfl ?_
      refine x_iconst (pc' := 2) rfl rfl ?_
      refine x_iconst (pc' := 3) rfl rfl ?_
      refine x_cs (ls0 := [_, _, _]) (rest := []) rfl rfl rfl rfl ?_
      refine x_iload_n (pc' := 1) rfl rfl rfl ?_
      refine x_iload_n (pc' := 2) rfl rfl rfl ?_
      refine x_icmp (a' := 14) (pc' := 5) (z := decide ((xs 1) < 0)) rfl rfl rfl rfl (fun h => absurd (of_decide_eq_true h) e0) (fun _ => ?_)
      refine x_iload_n (pc' := 6) rfl rfl rfl ?_
      refine x_iload_n (pc' := 7) rfl rfl rfl ?_
      refine x_icmp (a' := 14) (pc' := 10) (z := decide (5 < (xs 1))) rfl rfl rfl rfl (fun _ => ?_) (fun h => absurd (lt_of6 f0) (of_decide_eq_false h))
      refine x_iconst (pc' := 15) rfl rfl ?_
      refine x_retz (z := false) rfl rfl ?_
      refine sK_i (pc' := 6) rfl ?_
      refine x_retz (z := false) rfl rfl ?_
      refine sK_i (pc' := 4) rfl ?_
      refine x_if (a' := 18) (pc' := 7) (z := true) rfl rfl rfl (by decide) (fun _ => ?_) (fun h => by cases h)
      refine x_iconst (pc' := 19) rfl rfl ?_
      refine x_istore (pc' := 21) (ls' := [_, _, _, _, _, _]) rfl rfl rfl rfl ?_
      refine x_iload (pc' := 23) rfl rfl rfl ?_
      refine x_if (a' := 30) (pc' := 26) (z := false) rfl rfl rfl (by decide) (fun h => by cases h) (fun _ => ?_)
      refine x_iconst (pc' := 27) rfl rfl ?_
      refine x_goto (pc' := 57) rfl rfl ?_
      refine x_reti rfl rfl ?_
      refine sK_i (pc' := 79) rfl ?_
      refine x_cv (ls0 := [_, _]) (rest := []) rfl rfl rfl rfl rfl ?_
      refine x_aload_n (pc' := 1) rfl rfl rfl rfl rfl ?_
      refine x_iload_n (pc' := 2) rfl rfl rfl ?_
      refine x_pI (pc' := 5) rfl rfl rfl ?_
      refine x_iload_n (pc' := 6) rfl rfl rfl ?_
      refine x_if (a' := 13) (pc' := 9) (z := true) rfl rfl rfl (by decide) (fun _ => ?_) (fun h => by cases h)
      refine x_iconst (pc' := 14) rfl rfl ?_
      refine x_retz (z := false) rfl rfl ?_
      refine sK_i (pc' := 82) rfl ?_
      refine x_if (a' := 102) (pc' := 85) (z := true) rfl rfl rfl (by decide) (fun _ => ?_) (fun h => by cases h)
      refine x_iconst (pc' := 103) rfl rfl ?_
      refine x_reti rfl rfl ?_
      refine sK_i (pc' := 1104) rfl ?_
      refine x_istore (pc' := 1106) (ls' := [_, _, _, _, _, _, _]) rfl rfl rfl rfl ?_
      refine x_aload_n (pc' := 1107) rfl rfl rfl rfl rfl ?_
      refine x_cv (ls0 := [_]) (rest := []) rfl rfl rfl rfl rfl ?_
      refine x_aload_n (pc' := 1) rfl rfl rfl rfl rfl ?_
      refine x_gI (pc' := 4) (x := 1) rfl rfl rfl sI_s ?_
      refine x_reti rfl rfl ?_
      refine sK_i (pc' := 1110) rfl ?_
      refine x_iload (pc' := 1112) rfl rfl rfl ?_
      refine x_icmp (a' := 1117) (pc' := 1115) (z := true) rfl rfl rfl (by decide) (fun _ => ?_) (fun h => by cases h)
      refine x_iload (pc' := 1119) rfl rfl rfl ?_
      refine x_if (a' := 1134) (pc' := 1122) (z := true) rfl rfl rfl (by decide) (fun _ => ?_) (fun h => by cases h)
      refine x_goto (pc' := 2938) rfl rfl ?_
      refine x_iinc (pc' := 2941) (y := 7) (ls' := [_, _, _, _, _, _, _]) rfl rfl rfl rfl rfl ?_
      refine x_goto (pc' := 23) rfl rfl ?_
      refine x_iload (pc' := 25) rfl rfl rfl ?_
      refine x_aload_n (pc' := 26) rfl rfl rfl rfl rfl ?_
      refine x_alen (pc' := 27) (N := 7) rfl rfl rfl (Eq.trans rdNI (Eq.trans rdNthr (z_N_29_0 e))) (?_ : X _ _ _ (.inl 7 :: _) _ _)
      refine x_bipush (pc' := 29) rfl rfl ?_
      refine x_isub (pc' := 30) (z := 0) rfl rfl (by decide) ?_
      refine x_icmp (a' := 2944) (pc' := 33) (z := true) rfl rfl rfl (by decide) (fun _ => ?_) (fun h => by cases h)
      refine x_iconst (pc' := 2945) rfl rfl ?_
      refine x_retz (z := true) rfl rfl ?_
      exact Qp_ok e (p := 1) (q := 6) rfl rfl rfl rfl
    refine x_if (a' := 1088) (pc' := 1084) (z := decide ((xs 3) = 0)) rfl rfl rfl rfl (fun q7 => ?_) (fun q7 => ?_)
    · refine x_iconst (pc' := 1089) rfl rfl ?_
      ((try rw [q7] at J7); (try rw [q7]); (try simp only [cd_t, cd_f, nt_t, nt_f, an_t, an_f, or_t, or_f] at J7); (try simp only [cd_t, cd_f, nt_t, nt_f, an_t, an_f, or_t, or_f]); exact J7)
    · refine x_iconst (pc' := 1085) rfl rfl ?_
      refine x_goto (pc' := 1089) rfl rfl ?_
      ((try rw [q7] at J7); (try rw [q7]); (try simp only [cd_t, cd_f, nt_t, nt_f, an_t, an_f, or_t, or_f] at J7); (try simp only [cd_t, cd_f, nt_t, nt_f, an_t, an_f, or_t, or_f]); exact J7)
  refine x_if (a' := 1043) (pc' := 1039) (z := decide ((xs 3) = 0)) rfl rfl rfl rfl (fun q3 => ?_) (fun q3 => ?_)
  · refine x_iconst (pc' := 1044) rfl rfl ?_
    ((try rw [q3] at J3); (try rw [q3]); (try simp only [cd_t, cd_f, nt_t, nt_f, an_t, an_f, or_t, or_f] at J3); (try simp only [cd_t, cd_f, nt_t, nt_f, an_t, an_f, or_t, or_f]); exact J3)
  · refine x_iconst (pc' := 1040) rfl rfl ?_
    refine x_goto (pc' := 1044) rfl rfl ?_
    ((try rw [q3] at J3); (try rw [q3]); (try simp only [cd_t, cd_f, nt_t, nt_f, an_t, an_f, or_t, or_f] at J3); (try simp only [cd_t, cd_f, nt_t, nt_f, an_t, an_f, or_t, or_f]); exact J3)
