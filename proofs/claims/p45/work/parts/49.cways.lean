/-! the class's methods (printed by clsgen.py) -/
def cp00fF (M : sM) (n : Nat) : Int32 := (bif (bif (decide ((mA M 0 0) = 2)) then (bsF M n 0 true) else none).isSome then (0 + (mA M 14 (ovD (bif (decide ((mA M 0 0) = 2)) then (bsF M n 0 true) else none)))) else (-10000))
set_option maxHeartbeats 4000000 in
set_option maxRecDepth 10000 in
theorem c81_00f {t : sT} {Q : sRs → sT → Prop} {M : sM} {n : Nat} {T : Nat}
    (hM : Rl t M n T)
    (hc : Sf t M n T)
    (hR : Ri M n)
    (hC : rlC t M n)
    (q : Q (.inl (some (.inl (cp00fF M n)))) t) :
    X 81 0 [.inr (.inr (10, (some 0))), .inr (.inr (1, (some 0))), .inl 0, .inl (bz false), sJk, sJk, sJk, sJk] [] t Q := by
  refine x_aload_n (pc' := 1) rfl rfl rfl rfl rfl ?_
  refine x_aload_n (pc' := 2) rfl rfl rfl rfl rfl ?_
  refine x_iload_n (pc' := 3) rfl rfl rfl ?_
  refine x_iconst (pc' := 4) rfl rfl ?_
  refine x_cv (ls0 := [_, _, _, _, sJk, sJk]) (rest := []) rfl rfl rfl rfl rfl ?_
  refine x_aload_n (pc' := 1) rfl rfl rfl rfl rfl ?_
  refine x_gI (pc' := 4) (x := 0) rfl rfl rfl (kI_64_0 hc.1) ?_
  refine x_iconst (pc' := 5) rfl rfl ?_
  refine x_imul (pc' := 6) (z := 0) rfl rfl (by decide) ?_
  refine x_iload_n (pc' := 7) rfl rfl rfl ?_
  refine x_iadd (pc' := 8) (z := 0) rfl rfl (by decide) ?_
  refine x_iconst (pc' := 9) rfl rfl ?_
  refine x_imul (pc' := 10) (z := 0) rfl rfl (by decide) ?_
  refine x_iload_n (pc' := 11) rfl rfl rfl ?_
  refine x_iadd (pc' := 12) (z := 0) rfl rfl (by decide) ?_
  refine x_istore (pc' := 14) (ls' := [_, _, _, _, _, _]) rfl rfl rfl rfl ?_
  refine x_iload_n (pc' := 15) rfl rfl rfl ?_
  refine x_if (a' := 36) (pc' := 18) (z := false) rfl rfl rfl (by decide) (fun h => by cases h) (fun _ => ?_)
  refine x_iload_n (pc' := 19) rfl rfl rfl ?_
  refine x_iconst (pc' := 20) rfl rfl ?_
  refine x_icmp (a' := 36) (pc' := 23) (z := false) rfl rfl rfl (by decide) (fun h => by cases h) (fun _ => ?_)
  refine x_iload_n (pc' := 24) rfl rfl rfl ?_
  refine x_if (a' := 36) (pc' := 27) (z := false) rfl rfl rfl (by decide) (fun h => by cases h) (fun _ => ?_)
  refine x_iload_n (pc' := 28) rfl rfl rfl ?_
  refine x_iconst (pc' := 29) rfl rfl ?_
  refine x_icmp (a' := 36) (pc' := 32) (z := false) rfl rfl rfl (by decide) (fun h => by cases h) (fun _ => ?_)
  refine x_iconst (pc' := 33) rfl rfl ?_
  refine x_goto (pc' := 37) rfl rfl ?_
  refine x_istore (pc' := 39) (ls' := [_, _, _, _, _, _]) rfl rfl rfl rfl ?_
  refine x_iload (pc' := 41) rfl rfl rfl ?_
  refine x_if (a' := 67) (pc' := 44) (z := false) rfl rfl rfl (by decide) (fun h => by cases h) (fun _ => ?_)
  refine x_iload (pc' := 46) rfl rfl rfl ?_
  refine x_if (a' := 67) (pc' := 49) (z := false) rfl rfl rfl (by decide) (fun h => by cases h) (fun _ => ?_)
  refine x_iload (pc' := 51) rfl rfl rfl ?_
  refine x_getstatic (pc' := 54) rfl rfl (show 0 < sC t 28 from gst0 hc.1) ?_
  refine x_alen (pc' := 55) (N := 45) rfl rfl rfl (kN_28_0 hc.1) (?_ : X _ _ _ (.inl 45 :: _) _ _)
  refine x_icmp (a' := 67) (pc' := 58) (z := false) rfl rfl rfl (by decide) (fun h => by cases h) (fun _ => ?_)
  refine x_getstatic (pc' := 61) rfl rfl (show 0 < sC t 28 from gst0 hc.1) ?_
  refine x_iload (pc' := 63) rfl rfl rfl ?_
  refine x_iald (pc' := 64) (N := 45) (x := 1) rfl rfl rfl (kN_28_0 hc.1) (io_in (p := 0) (N := 45) (by decide) (by decide)) (Eq.trans (congrArg (sA t 28 0) (nn_io (p := 0) (by decide))) ((hc.1.2.2.2.2.2 0).1.trans rfl)) ?_
  refine x_goto (pc' := 68) rfl rfl ?_
  refine x_reti rfl rfl ?_
  refine sK_i (pc' := 7) rfl ?_
  refine x_if (a' := 14) (pc' := 10) (z := true) rfl rfl rfl (by decide) (fun _ => ?_) (fun h => by cases h)
  refine x_iconst (pc' := 15) rfl rfl ?_
  refine x_istore (pc' := 17) (ls' := [_, _, _, _, _, _, _, _]) rfl rfl rfl rfl ?_
  refine x_iconst (pc' := 18) rfl rfl ?_
  refine x_istore (pc' := 20) (ls' := [_, _, _, _, _, _, _, _]) rfl rfl rfl rfl ?_
  refine x_iload (pc' := 22) rfl rfl rfl ?_
  refine x_iconst (pc' := 23) rfl rfl ?_
  refine x_icmp (a' := 89) (pc' := 26) (z := false) rfl rfl rfl (by decide) (fun h => by cases h) (fun _ => ?_)
  refine x_aload_n (pc' := 27) rfl rfl rfl rfl rfl ?_
  refine x_aload_n (pc' := 28) rfl rfl rfl rfl rfl ?_
  refine x_iload_n (pc' := 29) rfl rfl rfl ?_
  refine x_iload (pc' := 31) rfl rfl rfl ?_
  refine x_cv (ls0 := [_, _, _, _, sJk, sJk]) (rest := []) rfl rfl rfl rfl rfl ?_
  refine x_aload_n (pc' := 1) rfl rfl rfl rfl rfl ?_
  refine x_gI (pc' := 4) (x := 0) rfl rfl rfl (kI_64_0 hc.1) ?_
  refine x_iconst (pc' := 5) rfl rfl ?_
  refine x_imul (pc' := 6) (z := 0) rfl rfl (by decide) ?_
  refine x_iload_n (pc' := 7) rfl rfl rfl ?_
  refine x_iadd (pc' := 8) (z := 0) rfl rfl (by decide) ?_
  refine x_iconst (pc' := 9) rfl rfl ?_
  refine x_imul (pc' := 10) (z := 0) rfl rfl (by decide) ?_
  refine x_iload_n (pc' := 11) rfl rfl rfl ?_
  refine x_iadd (pc' := 12) (z := 0) rfl rfl (by decide) ?_
  refine x_istore (pc' := 14) (ls' := [_, _, _, _, _, _]) rfl rfl rfl rfl ?_
  refine x_iload_n (pc' := 15) rfl rfl rfl ?_
  refine x_if (a' := 36) (pc' := 18) (z := false) rfl rfl rfl (by decide) (fun h => by cases h) (fun _ => ?_)
  refine x_iload_n (pc' := 19) rfl rfl rfl ?_
  refine x_iconst (pc' := 20) rfl rfl ?_
  refine x_icmp (a' := 36) (pc' := 23) (z := false) rfl rfl rfl (by decide) (fun h => by cases h) (fun _ => ?_)
  refine x_iload_n (pc' := 24) rfl rfl rfl ?_
  refine x_if (a' := 36) (pc' := 27) (z := false) rfl rfl rfl (by decide) (fun h => by cases h) (fun _ => ?_)
  refine x_iload_n (pc' := 28) rfl rfl rfl ?_
  refine x_iconst (pc' := 29) rfl rfl ?_
  refine x_icmp (a' := 36) (pc' := 32) (z := false) rfl rfl rfl (by decide) (fun h => by cases h) (fun _ => ?_)
  refine x_iconst (pc' := 33) rfl rfl ?_
  refine x_goto (pc' := 37) rfl rfl ?_
  refine x_istore (pc' := 39) (ls' := [_, _, _, _, _, _]) rfl rfl rfl rfl ?_
  refine x_iload (pc' := 41) rfl rfl rfl ?_
  refine x_if (a' := 67) (pc' := 44) (z := false) rfl rfl rfl (by decide) (fun h => by cases h) (fun _ => ?_)
  refine x_iload (pc' := 46) rfl rfl rfl ?_
  refine x_if (a' := 67) (pc' := 49) (z := false) rfl rfl rfl (by decide) (fun h => by cases h) (fun _ => ?_)
  refine x_iload (pc' := 51) rfl rfl rfl ?_
  refine x_getstatic (pc' := 54) rfl rfl (show 0 < sC t 28 from gst0 hc.1) ?_
  refine x_alen (pc' := 55) (N := 45) rfl rfl rfl (kN_28_0 hc.1) (?_ : X _ _ _ (.inl 45 :: _) _ _)
  refine x_icmp (a' := 67) (pc' := 58) (z := false) rfl rfl rfl (by decide) (fun h => by cases h) (fun _ => ?_)
  refine x_getstatic (pc' := 61) rfl rfl (show 0 < sC t 28 from gst0 hc.1) ?_
  refine x_iload (pc' := 63) rfl rfl rfl ?_
  refine x_iald (pc' := 64) (N := 45) (x := 1) rfl rfl rfl (kN_28_0 hc.1) (io_in (p := 0) (N := 45) (by decide) (by decide)) (Eq.trans (congrArg (sA t 28 0) (nn_io (p := 0) (by decide))) ((hc.1.2.2.2.2.2 0).1.trans rfl)) ?_
  refine x_goto (pc' := 68) rfl rfl ?_
  refine x_reti rfl rfl ?_
  refine sK_i (pc' := 34) rfl ?_
  refine x_istore (pc' := 36) (ls' := [_, _, _, _, _, _, _, _]) rfl rfl rfl rfl ?_
  refine x_iload (pc' := 38) rfl rfl rfl ?_
  refine x_if (a' := 83) (pc' := 41) (z := false) rfl rfl rfl (by decide) (fun h => by cases h) (fun _ => ?_)
  refine x_aload_n (pc' := 42) rfl rfl rfl rfl rfl ?_
  refine x_iload (pc' := 44) rfl rfl rfl ?_
  refine x_iload_n (pc' := 45) rfl rfl rfl ?_
  refine x_cv (ls0 := [_, _, _, sJk]) (rest := []) rfl rfl rfl rfl rfl ?_
  refine x_iload_n (pc' := 1) rfl rfl rfl ?_
  refine x_abs (pc' := 4) (z := 1) rfl rfl rfl (by decide) ?_
  refine x_iconst (pc' := 5) rfl rfl ?_
  refine x_isub (pc' := 6) (z := 0) rfl rfl (by decide) ?_
  refine x_istore_n (pc' := 7) (ls' := [_, _, _, _]) rfl rfl rfl rfl ?_
  refine x_iload_n (pc' := 8) rfl rfl rfl ?_
  refine x_if (a' := 33) (pc' := 11) (z := false) rfl rfl rfl (by decide) (fun h => by cases h) (fun _ => ?_)
  refine x_iload_n (pc' := 12) rfl rfl rfl ?_
  refine x_aload_n (pc' := 13) rfl rfl rfl rfl rfl ?_
  refine x_gR (pc' := 16) (r := (some 0)) rfl rfl rfl (kR_640_0 hc.1) ?_
  refine x_alen (pc' := 17) (N := 5) rfl rfl rfl (kN_24_0 hc.1) (?_ : X _ _ _ (.inl 5 :: _) _ _)
  refine x_icmp (a' := 33) (pc' := 20) (z := false) rfl rfl rfl (by decide) (fun h => by cases h) (fun _ => ?_)
  refine x_aload_n (pc' := 21) rfl rfl rfl rfl rfl ?_
  refine x_gR (pc' := 24) (r := (some 0)) rfl rfl rfl (kR_640_0 hc.1) ?_
  refine x_iload_n (pc' := 25) rfl rfl rfl ?_
  refine x_aald (pc' := 26) (N := 5) (k' := 1) (r := (some 0)) rfl rfl rfl (kN_24_0 hc.1) (io_in (p := 0) (N := 5) (by decide) (by decide)) (Eq.trans (congrArg (sE t 24 0) (nn_io (p := 0) (by decide))) (kB hc.1 (by decide))) ?_
  refine x_gI (pc' := 29) (x := (mA M 0 0)) rfl rfl rfl (kA hM rfl (show 0 < 5 by decide)) ?_
  refine x_iconst (pc' := 30) rfl rfl ?_
  have J23 : ((sK 79 81 45 [.inr (.inr (10, (some 0))), .inr (.inr (1, (some 0))), .inl 0, .inl (bz false), .inl 0, .inl 0, .inl 1, sJk] [] Q) : sRs → sT → Prop) (.inl (some (.inr (.inr (8, (bif (decide ((mA M 0 0) = 2)) then (bsF M n 0 true) else none)))))) t := by
    refine sK_i (pc' := 48) rfl ?_
    refine x_astore (pc' := 50) (ls' := [_, _, _, _, _, _, _, _]) rfl rfl rfl rfl rfl ?_
    refine x_aload (pc' := 52) rfl rfl rfl rfl rfl ?_
    refine x_ifnonnull (a' := 59) (pc' := 55) rfl rfl rfl rfl (fun j0 q25 => ?_) (fun q25 => ?_)
    · refine x_iload (pc' := 61) rfl rfl rfl ?_
      refine x_iload (pc' := 63) rfl rfl rfl ?_
      refine x_if (a' := 74) (pc' := 66) (z := false) rfl rfl rfl (by decide) (fun h => by cases h) (fun _ => ?_)
      refine x_aload (pc' := 68) rfl rfl rfl rfl (ovD_s q25) ?_
      refine x_gI (pc' := 71) (x := (mA M 14 (ovD (bif (decide ((mA M 0 0) = 2)) then (bsF M n 0 true) else none)))) rfl rfl rfl ((kA hM rfl (ovD_lt (obd_c bsF_lt obd_n) q25)).trans (congrFun (Fc.f14 (Fc.refl _)) _)) ?_
      refine x_goto (pc' := 80) rfl rfl ?_
      refine x_iadd (pc' := 81) (z := (0 + (mA M 14 (ovD (bif (decide ((mA M 0 0) = 2)) then (bsF M n 0 true) else none))))) rfl rfl rfl ?_
      refine x_istore (pc' := 83) (ls' := [_, _, _, _, _, _, _, _]) rfl rfl rfl rfl ?_
      refine x_iinc (pc' := 86) (y := 1) (ls' := [_, _, _, _, _, _, _, _]) rfl rfl rfl rfl rfl ?_
      refine x_goto (pc' := 20) rfl rfl ?_
      refine x_iload (pc' := 22) rfl rfl rfl ?_
      refine x_iconst (pc' := 23) rfl rfl ?_
      refine x_icmp (a' := 89) (pc' := 26) (z := false) rfl rfl rfl (by decide) (fun h => by cases h) (fun _ => ?_)
      refine x_aload_n (pc' := 27) rfl rfl rfl rfl rfl ?_
      refine x_aload_n (pc' := 28) rfl rfl rfl rfl rfl ?_
      refine x_iload_n (pc' := 29) rfl rfl rfl ?_
      refine x_iload (pc' := 31) rfl rfl rfl ?_
      refine x_cv (ls0 := [_, _, _, _, sJk, sJk]) (rest := []) rfl rfl rfl rfl rfl ?_
      refine x_aload_n (pc' := 1) rfl rfl rfl rfl rfl ?_
      refine x_gI (pc' := 4) (x := 0) rfl rfl rfl (kI_64_0 hc.1) ?_
      refine x_iconst (pc' := 5) rfl rfl ?_
      refine x_imul (pc' := 6) (z := 0) rfl rfl (by decide) ?_
      refine x_iload_n (pc' := 7) rfl rfl rfl ?_
      refine x_iadd (pc' := 8) (z := 0) rfl rfl (by decide) ?_
      refine x_iconst (pc' := 9) rfl rfl ?_
      refine x_imul (pc' := 10) (z := 0) rfl rfl (by decide) ?_
      refine x_iload_n (pc' := 11) rfl rfl rfl ?_
      refine x_iadd (pc' := 12) (z := 1) rfl rfl (by decide) ?_
      refine x_istore (pc' := 14) (ls' := [_, _, _, _, _, _]) rfl rfl rfl rfl ?_
      refine x_iload_n (pc' := 15) rfl rfl rfl ?_
      refine x_if (a' := 36) (pc' := 18) (z := false) rfl rfl rfl (by decide) (fun h => by cases h) (fun _ => ?_)
      refine x_iload_n (pc' := 19) rfl rfl rfl ?_
      refine x_iconst (pc' := 20) rfl rfl ?_
      refine x_icmp (a' := 36) (pc' := 23) (z := false) rfl rfl rfl (by decide) (fun h => by cases h) (fun _ => ?_)
      refine x_iload_n (pc' := 24) rfl rfl rfl ?_
      refine x_if (a' := 36) (pc' := 27) (z := false) rfl rfl rfl (by decide) (fun h => by cases h) (fun _ => ?_)
      refine x_iload_n (pc' := 28) rfl rfl rfl ?_
      refine x_iconst (pc' := 29) rfl rfl ?_
      refine x_icmp (a' := 36) (pc' := 32) (z := false) rfl rfl rfl (by decide) (fun h => by cases h) (fun _ => ?_)
      refine x_iconst (pc' := 33) rfl rfl ?_
      refine x_goto (pc' := 37) rfl rfl ?_
      refine x_istore (pc' := 39) (ls' := [_, _, _, _, _, _]) rfl rfl rfl rfl ?_
      refine x_iload (pc' := 41) rfl rfl rfl ?_
      refine x_if (a' := 67) (pc' := 44) (z := false) rfl rfl rfl (by decide) (fun h => by cases h) (fun _ => ?_)
      refine x_iload (pc' := 46) rfl rfl rfl ?_
      refine x_if (a' := 67) (pc' := 49) (z := false) rfl rfl rfl (by decide) (fun h => by cases h) (fun _ => ?_)
      refine x_iload (pc' := 51) rfl rfl rfl ?_
      refine x_getstatic (pc' := 54) rfl rfl (show 0 < sC t 28 from gst0 hc.1) ?_
      refine x_alen (pc' := 55) (N := 45) rfl rfl rfl (kN_28_0 hc.1) (?_ : X _ _ _ (.inl 45 :: _) _ _)
      refine x_icmp (a' := 67) (pc' := 58) (z := false) rfl rfl rfl (by decide) (fun h => by cases h) (fun _ => ?_)
      refine x_getstatic (pc' := 61) rfl rfl (show 0 < sC t 28 from gst0 hc.1) ?_
      refine x_iload (pc' := 63) rfl rfl rfl ?_
      refine x_iald (pc' := 64) (N := 45) (x := 0) rfl rfl rfl (kN_28_0 hc.1) (io_in (p := 1) (N := 45) (by decide) (by decide)) (Eq.trans (congrArg (sA t 28 0) (nn_io (p := 1) (by decide))) ((hc.1.2.2.2.2.2 1).1.trans rfl)) ?_
      refine x_goto (pc' := 68) rfl rfl ?_
      refine x_reti rfl rfl ?_
      refine sK_i (pc' := 34) rfl ?_
      refine x_istore (pc' := 36) (ls' := [_, _, _, _, _, _, _, _]) rfl rfl rfl rfl ?_
      refine x_iload (pc' := 38) rfl rfl rfl ?_
      refine x_if (a' := 83) (pc' := 41) (z := true) rfl rfl rfl (by decide) (fun _ => ?_) (fun h => by cases h)
      refine x_iinc (pc' := 86) (y := 2) (ls' := [_, _, _, _, _, _, _, _]) rfl rfl rfl rfl rfl ?_
      refine x_goto (pc' := 20) rfl rfl ?_
      refine x_iload (pc' := 22) rfl rfl rfl ?_
      refine x_iconst (pc' := 23) rfl rfl ?_
      refine x_icmp (a' := 89) (pc' := 26) (z := false) rfl rfl rfl (by decide) (fun h => by cases h) (fun _ => ?_)
      refine x_aload_n (pc' := 27) rfl rfl rfl rfl rfl ?_
      refine x_aload_n (pc' := 28) rfl rfl rfl rfl rfl ?_
      refine x_iload_n (pc' := 29) rfl rfl rfl ?_
      refine x_iload (pc' := 31) rfl rfl rfl ?_
      refine x_cv (ls0 := [_, _, _, _, sJk, sJk]) (rest := []) rfl rfl rfl rfl rfl ?_
      refine x_aload_n (pc' := 1) rfl rfl rfl rfl rfl ?_
      refine x_gI (pc' := 4) (x := 0) rfl rfl rfl (kI_64_0 hc.1) ?_
      refine x_iconst (pc' := 5) rfl rfl ?_
      refine x_imul (pc' := 6) (z := 0) rfl rfl (by decide) ?_
      refine x_iload_n (pc' := 7) rfl rfl rfl ?_
      refine x_iadd (pc' := 8) (z := 0) rfl rfl (by decide) ?_
      refine x_iconst (pc' := 9) rfl rfl ?_
      refine x_imul (pc' := 10) (z := 0) rfl rfl (by decide) ?_
      refine x_iload_n (pc' := 11) rfl rfl rfl ?_
      refine x_iadd (pc' := 12) (z := 2) rfl rfl (by decide) ?_
      refine x_istore (pc' := 14) (ls' := [_, _, _, _, _, _]) rfl rfl rfl rfl ?_
      refine x_iload_n (pc' := 15) rfl rfl rfl ?_
      refine x_if (a' := 36) (pc' := 18) (z := false) rfl rfl rfl (by decide) (fun h => by cases h) (fun _ => ?_)
      refine x_iload_n (pc' := 19) rfl rfl rfl ?_
      refine x_iconst (pc' := 20) rfl rfl ?_
      refine x_icmp (a' := 36) (pc' := 23) (z := false) rfl rfl rfl (by decide) (fun h => by cases h) (fun _ => ?_)
      refine x_iload_n (pc' := 24) rfl rfl rfl ?_
      refine x_if (a' := 36) (pc' := 27) (z := false) rfl rfl rfl (by decide) (fun h => by cases h) (fun _ => ?_)
      refine x_iload_n (pc' := 28) rfl rfl rfl ?_
      refine x_iconst (pc' := 29) rfl rfl ?_
      refine x_icmp (a' := 36) (pc' := 32) (z := false) rfl rfl rfl (by decide) (fun h => by cases h) (fun _ => ?_)
      refine x_iconst (pc' := 33) rfl rfl ?_
      refine x_goto (pc' := 37) rfl rfl ?_
      refine x_istore (pc' := 39) (ls' := [_, _, _, _, _, _]) rfl rfl rfl rfl ?_
      refine x_iload (pc' := 41) rfl rfl rfl ?_
      refine x_if (a' := 67) (pc' := 44) (z := false) rfl rfl rfl (by decide) (fun h => by cases h) (fun _ => ?_)
      refine x_iload (pc' := 46) rfl rfl rfl ?_
      refine x_if (a' := 67) (pc' := 49) (z := false) rfl rfl rfl (by decide) (fun h => by cases h) (fun _ => ?_)
      refine x_iload (pc' := 51) rfl rfl rfl ?_
      refine x_getstatic (pc' := 54) rfl rfl (show 0 < sC t 28 from gst0 hc.1) ?_
      refine x_alen (pc' := 55) (N := 45) rfl rfl rfl (kN_28_0 hc.1) (?_ : X _ _ _ (.inl 45 :: _) _ _)
      refine x_icmp (a' := 67) (pc' := 58) (z := false) rfl rfl rfl (by decide) (fun h => by cases h) (fun _ => ?_)
      refine x_getstatic (pc' := 61) rfl rfl (show 0 < sC t 28 from gst0 hc.1) ?_
      refine x_iload (pc' := 63) rfl rfl rfl ?_
      refine x_iald (pc' := 64) (N := 45) (x := 0) rfl rfl rfl (kN_28_0 hc.1) (io_in (p := 2) (N := 45) (by decide) (by decide)) (Eq.trans (congrArg (sA t 28 0) (nn_io (p := 2) (by decide))) ((hc.1.2.2.2.2.2 2).1.trans rfl)) ?_
      refine x_goto (pc' := 68) rfl rfl ?_
      refine x_reti rfl rfl ?_
      refine sK_i (pc' := 34) rfl ?_
      refine x_istore (pc' := 36) (ls' := [_, _, _, _, _, _, _, _]) rfl rfl rfl rfl ?_
      refine x_iload (pc' := 38) rfl rfl rfl ?_
      refine x_if (a' := 83) (pc' := 41) (z := true) rfl rfl rfl (by decide) (fun _ => ?_) (fun h => by cases h)
      refine x_iinc (pc' := 86) (y := 3) (ls' := [_, _, _, _, _, _, _, _]) rfl rfl rfl rfl rfl ?_
      refine x_goto (pc' := 20) rfl rfl ?_
      refine x_iload (pc' := 22) rfl rfl rfl ?_
      refine x_iconst (pc' := 23) rfl rfl ?_
      refine x_icmp (a' := 89) (pc' := 26) (z := true) rfl rfl rfl (by decide) (fun _ => ?_) (fun h => by cases h)
      refine x_iload (pc' := 91) rfl rfl rfl ?_
      refine x_reti rfl rfl ?_
      exact qv (by simp only [cp00fF, (isSome_s q25), cd_t, cd_f]) (q )
    · refine x_sipush (pc' := 58) rfl rfl ?_
      refine x_reti rfl rfl ?_
      exact qv (by simp only [cp00fF, (isSome_n q25), cd_t, cd_f]) (q )
  refine x_icmp (a' := 35) (pc' := 33) (z := decide ((mA M 0 0) = 2)) rfl rfl rfl rfl (fun q20 => ?_) (fun q20 => ?_)
  · refine x_aload_n (pc' := 36) rfl rfl rfl rfl rfl ?_
    refine x_gR (pc' := 39) (r := (some 0)) rfl rfl rfl (kR_640_0 hc.1) ?_
    refine x_iload_n (pc' := 40) rfl rfl rfl ?_
    refine x_aald (pc' := 41) (N := 5) (k' := 1) (r := (some 0)) rfl rfl rfl (kN_24_0 hc.1) (io_in (p := 0) (N := 5) (by decide) (by decide)) (Eq.trans (congrArg (sE t 24 0) (nn_io (p := 0) (by decide))) (kB hc.1 (by decide))) ?_
    refine x_iload_n (pc' := 42) rfl rfl rfl ?_
    refine x_if (a' := 57) (pc' := 45) (z := false) rfl rfl rfl (by decide) (fun h => by cases h) (fun _ => ?_)
    refine x_iload_n (pc' := 46) rfl rfl rfl ?_
    refine x_if (a' := 53) (pc' := 49) (z := false) rfl rfl rfl (by decide) (fun h => by cases h) (fun _ => ?_)
    refine x_iconst (pc' := 50) rfl rfl ?_
    refine x_goto (pc' := 58) rfl rfl ?_
    refine x_cv (ls0 := [_, _]) (rest := []) rfl rfl rfl rfl rfl ?_
    refine x_iload_n (pc' := 1) rfl rfl rfl ?_
    refine x_if (a' := 11) (pc' := 4) (z := false) rfl rfl rfl (by decide) (fun h => by cases h) (fun _ => ?_)
    refine x_aload_n (pc' := 5) rfl rfl rfl rfl rfl ?_
    refine x_gR (pc' := 8) (r := (bsF M n 0 true)) rfl rfl rfl (bs_69 hC (Fc.ri (Fc.refl _) hR) hM (by decide)) ?_
    refine x_goto (pc' := 15) rfl rfl ?_
    refine x_reta rfl rfl ?_
    refine sK_i (pc' := 61) rfl ?_
    refine x_reta rfl rfl ?_
    ((try rw [q20] at J23); (try rw [q20]); (try simp only [cd_t, cd_f, nt_t, nt_f, an_t, an_f, or_t, or_f] at J23); (try simp only [cd_t, cd_f, nt_t, nt_f, an_t, an_f, or_t, or_f]); exact J23)
  · refine x_null (pc' := 34) rfl rfl rfl ?_
    refine x_reta rfl rfl ?_
    ((try rw [q20] at J23); (try rw [q20]); (try simp only [cd_t, cd_f, nt_t, nt_f, an_t, an_f, or_t, or_f] at J23); (try simp only [cd_t, cd_f, nt_t, nt_f, an_t, an_f, or_t, or_f]); exact J23)
def cp00tF (M : sM) (n : Nat) : Int32 := (bif (bif (decide ((mA M 0 0) = 2)) then (bsF M n 0 false) else none).isSome then (0 + (mA M 14 (ovD (bif (decide ((mA M 0 0) = 2)) then (bsF M n 0 false) else none)))) else (-10000))
set_option maxHeartbeats 4000000 in
set_option maxRecDepth 10000 in
theorem c81_00t {t : sT} {Q : sRs → sT → Prop} {M : sM} {n : Nat} {T : Nat}
    (hM : Rl t M n T)
    (hc : Sf t M n T)
    (hR : Ri M n)
    (hC : rlC t M n)
    (q : Q (.inl (some (.inl (cp00tF M n)))) t) :
    X 81 0 [.inr (.inr (10, (some 0))), .inr (.inr (1, (some 0))), .inl 0, .inl (bz true), sJk, sJk, sJk, sJk] [] t Q := by
  refine x_aload_n (pc' := 1) rfl rfl rfl rfl rfl ?_
  refine x_aload_n (pc' := 2) rfl rfl rfl rfl rfl ?_
  refine x_iload_n (pc' := 3) rfl rfl rfl ?_
  refine x_iconst (pc' := 4) rfl rfl ?_
  refine x_cv (ls0 := [_, _, _, _, sJk, sJk]) (rest := []) rfl rfl rfl rfl rfl ?_
  refine x_aload_n (pc' := 1) rfl rfl rfl rfl rfl ?_
  refine x_gI (pc' := 4) (x := 0) rfl rfl rfl (kI_64_0 hc.1) ?_
  refine x_iconst (pc' := 5) rfl rfl ?_
  refine x_imul (pc' := 6) (z := 0) rfl rfl (by decide) ?_
  refine x_iload_n (pc' := 7) rfl rfl rfl ?_
  refine x_iadd (pc' := 8) (z := 0) rfl rfl (by decide) ?_
  refine x_iconst (pc' := 9) rfl rfl ?_
  refine x_imul (pc' := 10) (z := 0) rfl rfl (by decide) ?_
  refine x_iload_n (pc' := 11) rfl rfl rfl ?_
  refine x_iadd (pc' := 12) (z := 0) rfl rfl (by decide) ?_
  refine x_istore (pc' := 14) (ls' := [_, _, _, _, _, _]) rfl rfl rfl rfl ?_
  refine x_iload_n (pc' := 15) rfl rfl rfl ?_
  refine x_if (a' := 36) (pc' := 18) (z := false) rfl rfl rfl (by decide) (fun h => by cases h) (fun _ => ?_)
  refine x_iload_n (pc' := 19) rfl rfl rfl ?_
  refine x_iconst (pc' := 20) rfl rfl ?_
  refine x_icmp (a' := 36) (pc' := 23) (z := false) rfl rfl rfl (by decide) (fun h => by cases h) (fun _ => ?_)
  refine x_iload_n (pc' := 24) rfl rfl rfl ?_
  refine x_if (a' := 36) (pc' := 27) (z := false) rfl rfl rfl (by decide) (fun h => by cases h) (fun _ => ?_)
  refine x_iload_n (pc' := 28) rfl rfl rfl ?_
  refine x_iconst (pc' := 29) rfl rfl ?_
  refine x_icmp (a' := 36) (pc' := 32) (z := false) rfl rfl rfl (by decide) (fun h => by cases h) (fun _ => ?_)
  refine x_iconst (pc' := 33) rfl rfl ?_
  refine x_goto (pc' := 37) rfl rfl ?_
  refine x_istore (pc' := 39) (ls' := [_, _, _, _, _, _]) rfl rfl rfl rfl ?_
  refine x_iload (pc' := 41) rfl rfl rfl ?_
  refine x_if (a' := 67) (pc' := 44) (z := false) rfl rfl rfl (by decide) (fun h => by cases h) (fun _ => ?_)
  refine x_iload (pc' := 46) rfl rfl rfl ?_
  refine x_if (a' := 67) (pc' := 49) (z := false) rfl rfl rfl (by decide) (fun h => by cases h) (fun _ => ?_)
  refine x_iload (pc' := 51) rfl rfl rfl ?_
  refine x_getstatic (pc' := 54) rfl rfl (show 0 < sC t 28 from gst0 hc.1) ?_
  refine x_alen (pc' := 55) (N := 45) rfl rfl rfl (kN_28_0 hc.1) (?_ : X _ _ _ (.inl 45 :: _) _ _)
  refine x_icmp (a' := 67) (pc' := 58) (z := false) rfl rfl rfl (by decide) (fun h => by cases h) (fun _ => ?_)
  refine x_getstatic (pc' := 61) rfl rfl (show 0 < sC t 28 from gst0 hc.1) ?_
  refine x_iload (pc' := 63) rfl rfl rfl ?_
  refine x_iald (pc' := 64) (N := 45) (x := 1) rfl rfl rfl (kN_28_0 hc.1) (io_in (p := 0) (N := 45) (by decide) (by decide)) (Eq.trans (congrArg (sA t 28 0) (nn_io (p := 0) (by decide))) ((hc.1.2.2.2.2.2 0).1.trans rfl)) ?_
  refine x_goto (pc' := 68) rfl rfl ?_
  refine x_reti rfl rfl ?_
  refine sK_i (pc' := 7) rfl ?_
  refine x_if (a' := 14) (pc' := 10) (z := true) rfl rfl rfl (by decide) (fun _ => ?_) (fun h => by cases h)
  refine x_iconst (pc' := 15) rfl rfl ?_
  refine x_istore (pc' := 17) (ls' := [_, _, _, _, _, _, _, _]) rfl rfl rfl rfl ?_
  refine x_iconst (pc' := 18) rfl rfl ?_
  refine x_istore (pc' := 20) (ls' := [_, _, _, _, _, _, _, _]) rfl rfl rfl rfl ?_
  refine x_iload (pc' := 22) rfl rfl rfl ?_
  refine x_iconst (pc' := 23) rfl rfl ?_
  refine x_icmp (a' := 89) (pc' := 26) (z := false) rfl rfl rfl (by decide) (fun h => by cases h) (fun _ => ?_)
  refine x_aload_n (pc' := 27) rfl rfl rfl rfl rfl ?_
  refine x_aload_n (pc' := 28) rfl rfl rfl rfl rfl ?_
  refine x_iload_n (pc' := 29) rfl rfl rfl ?_
  refine x_iload (pc' := 31) rfl rfl rfl ?_
  refine x_cv (ls0 := [_, _, _, _, sJk, sJk]) (rest := []) rfl rfl rfl rfl rfl ?_
  refine x_aload_n (pc' := 1) rfl rfl rfl rfl rfl ?_
  refine x_gI (pc' := 4) (x := 0) rfl rfl rfl (kI_64_0 hc.1) ?_
  refine x_iconst (pc' := 5) rfl rfl ?_
  refine x_imul (pc' := 6) (z := 0) rfl rfl (by decide) ?_
  refine x_iload_n (pc' := 7) rfl rfl rfl ?_
  refine x_iadd (pc' := 8) (z := 0) rfl rfl (by decide) ?_
  refine x_iconst (pc' := 9) rfl rfl ?_
  refine x_imul (pc' := 10) (z := 0) rfl rfl (by decide) ?_
  refine x_iload_n (pc' := 11) rfl rfl rfl ?_
  refine x_iadd (pc' := 12) (z := 0) rfl rfl (by decide) ?_
  refine x_istore (pc' := 14) (ls' := [_, _, _, _, _, _]) rfl rfl rfl rfl ?_
  refine x_iload_n (pc' := 15) rfl rfl rfl ?_
  refine x_if (a' := 36) (pc' := 18) (z := false) rfl rfl rfl (by decide) (fun h => by cases h) (fun _ => ?_)
  refine x_iload_n (pc' := 19) rfl rfl rfl ?_
  refine x_iconst (pc' := 20) rfl rfl ?_
  refine x_icmp (a' := 36) (pc' := 23) (z := false) rfl rfl rfl (by decide) (fun h => by cases h) (fun _ => ?_)
  refine x_iload_n (pc' := 24) rfl rfl rfl ?_
  refine x_if (a' := 36) (pc' := 27) (z := false) rfl rfl rfl (by decide) (fun h => by cases h) (fun _ => ?_)
  refine x_iload_n (pc' := 28) rfl rfl rfl ?_
  refine x_iconst (pc' := 29) rfl rfl ?_
  refine x_icmp (a' := 36) (pc' := 32) (z := false) rfl rfl rfl (by decide) (fun h => by cases h) (fun _ => ?_)
  refine x_iconst (pc' := 33) rfl rfl ?_
  refine x_goto (pc' := 37) rfl rfl ?_
  refine x_istore (pc' := 39) (ls' := [_, _, _, _, _, _]) rfl rfl rfl rfl ?_
  refine x_iload (pc' := 41) rfl rfl rfl ?_
  refine x_if (a' := 67) (pc' := 44) (z := false) rfl rfl rfl (by decide) (fun h => by cases h) (fun _ => ?_)
  refine x_iload (pc' := 46) rfl rfl rfl ?_
  refine x_if (a' := 67) (pc' := 49) (z := false) rfl rfl rfl (by decide) (fun h => by cases h) (fun _ => ?_)
  refine x_iload (pc' := 51) rfl rfl rfl ?_
  refine x_getstatic (pc' := 54) rfl rfl (show 0 < sC t 28 from gst0 hc.1) ?_
  refine x_alen (pc' := 55) (N := 45) rfl rfl rfl (kN_28_0 hc.1) (?_ : X _ _ _ (.inl 45 :: _) _ _)
  refine x_icmp (a' := 67) (pc' := 58) (z := false) rfl rfl rfl (by decide) (fun h => by cases h) (fun _ => ?_)
  refine x_getstatic (pc' := 61) rfl rfl (show 0 < sC t 28 from gst0 hc.1) ?_
  refine x_iload (pc' := 63) rfl rfl rfl ?_
  refine x_iald (pc' := 64) (N := 45) (x := 1) rfl rfl rfl (kN_28_0 hc.1) (io_in (p := 0) (N := 45) (by decide) (by decide)) (Eq.trans (congrArg (sA t 28 0) (nn_io (p := 0) (by decide))) ((hc.1.2.2.2.2.2 0).1.trans rfl)) ?_
  refine x_goto (pc' := 68) rfl rfl ?_
  refine x_reti rfl rfl ?_
  refine sK_i (pc' := 34) rfl ?_
  refine x_istore (pc' := 36) (ls' := [_, _, _, _, _, _, _, _]) rfl rfl rfl rfl ?_
  refine x_iload (pc' := 38) rfl rfl rfl ?_
  refine x_if (a' := 83) (pc' := 41) (z := false) rfl rfl rfl (by decide) (fun h => by cases h) (fun _ => ?_)
  refine x_aload_n (pc' := 42) rfl rfl rfl rfl rfl ?_
  refine x_iload (pc' := 44) rfl rfl rfl ?_
  refine x_iload_n (pc' := 45) rfl rfl rfl ?_
  refine x_cv (ls0 := [_, _, _, sJk]) (rest := []) rfl rfl rfl rfl rfl ?_
  refine x_iload_n (pc' := 1) rfl rfl rfl ?_
  refine x_abs (pc' := 4) (z := 1) rfl rfl rfl (by decide) ?_
  refine x_iconst (pc' := 5) rfl rfl ?_
  refine x_isub (pc' := 6) (z := 0) rfl rfl (by decide) ?_
  refine x_istore_n (pc' := 7) (ls' := [_, _, _, _]) rfl rfl rfl rfl ?_
  refine x_iload_n (pc' := 8) rfl rfl rfl ?_
  refine x_if (a' := 33) (pc' := 11) (z := false) rfl rfl rfl (by decide) (fun h => by cases h) (fun _ => ?_)
  refine x_iload_n (pc' := 12) rfl rfl rfl ?_
  refine x_aload_n (pc' := 13) rfl rfl rfl rfl rfl ?_
  refine x_gR (pc' := 16) (r := (some 0)) rfl rfl rfl (kR_640_0 hc.1) ?_
  refine x_alen (pc' := 17) (N := 5) rfl rfl rfl (kN_24_0 hc.1) (?_ : X _ _ _ (.inl 5 :: _) _ _)
  refine x_icmp (a' := 33) (pc' := 20) (z := false) rfl rfl rfl (by decide) (fun h => by cases h) (fun _ => ?_)
  refine x_aload_n (pc' := 21) rfl rfl rfl rfl rfl ?_
  refine x_gR (pc' := 24) (r := (some 0)) rfl rfl rfl (kR_640_0 hc.1) ?_
  refine x_iload_n (pc' := 25) rfl rfl rfl ?_
  refine x_aald (pc' := 26) (N := 5) (k' := 1) (r := (some 0)) rfl rfl rfl (kN_24_0 hc.1) (io_in (p := 0) (N := 5) (by decide) (by decide)) (Eq.trans (congrArg (sE t 24 0) (nn_io (p := 0) (by decide))) (kB hc.1 (by decide))) ?_
  refine x_gI (pc' := 29) (x := (mA M 0 0)) rfl rfl rfl (kA hM rfl (show 0 < 5 by decide)) ?_
  refine x_iconst (pc' := 30) rfl rfl ?_
  have J23 : ((sK 79 81 45 [.inr (.inr (10, (some 0))), .inr (.inr (1, (some 0))), .inl 0, .inl (bz true), .inl 0, .inl 0, .inl 1, sJk] [] Q) : sRs → sT → Prop) (.inl (some (.inr (.inr (8, (bif (decide ((mA M 0 0) = 2)) then (bsF M n 0 false) else none)))))) t := by
    refine sK_i (pc' := 48) rfl ?_
    refine x_astore (pc' := 50) (ls' := [_, _, _, _, _, _, _, _]) rfl rfl rfl rfl rfl ?_
    refine x_aload (pc' := 52) rfl rfl rfl rfl rfl ?_
    refine x_ifnonnull (a' := 59) (pc' := 55) rfl rfl rfl rfl (fun j0 q25 => ?_) (fun q25 => ?_)
    · refine x_iload (pc' := 61) rfl rfl rfl ?_
      refine x_iload (pc' := 63) rfl rfl rfl ?_
      refine x_if (a' := 74) (pc' := 66) (z := false) rfl rfl rfl (by decide) (fun h => by cases h) (fun _ => ?_)
      refine x_aload (pc' := 68) rfl rfl rfl rfl (ovD_s q25) ?_
      refine x_gI (pc' := 71) (x := (mA M 14 (ovD (bif (decide ((mA M 0 0) = 2)) then (bsF M n 0 false) else none)))) rfl rfl rfl ((kA hM rfl (ovD_lt (obd_c bsF_lt obd_n) q25)).trans (congrFun (Fc.f14 (Fc.refl _)) _)) ?_
      refine x_goto (pc' := 80) rfl rfl ?_
      refine x_iadd (pc' := 81) (z := (0 + (mA M 14 (ovD (bif (decide ((mA M 0 0) = 2)) then (bsF M n 0 false) else none))))) rfl rfl rfl ?_
      refine x_istore (pc' := 83) (ls' := [_, _, _, _, _, _, _, _]) rfl rfl rfl rfl ?_
      refine x_iinc (pc' := 86) (y := 1) (ls' := [_, _, _, _, _, _, _, _]) rfl rfl rfl rfl rfl ?_
      refine x_goto (pc' := 20) rfl rfl ?_
      refine x_iload (pc' := 22) rfl rfl rfl ?_
      refine x_iconst (pc' := 23) rfl rfl ?_
      refine x_icmp (a' := 89) (pc' := 26) (z := false) rfl rfl rfl (by decide) (fun h => by cases h) (fun _ => ?_)
      refine x_aload_n (pc' := 27) rfl rfl rfl rfl rfl ?_
      refine x_aload_n (pc' := 28) rfl rfl rfl rfl rfl ?_
      refine x_iload_n (pc' := 29) rfl rfl rfl ?_
      refine x_iload (pc' := 31) rfl rfl rfl ?_
      refine x_cv (ls0 := [_, _, _, _, sJk, sJk]) (rest := []) rfl rfl rfl rfl rfl ?_
      refine x_aload_n (pc' := 1) rfl rfl rfl rfl rfl ?_
      refine x_gI (pc' := 4) (x := 0) rfl rfl rfl (kI_64_0 hc.1) ?_
      refine x_iconst (pc' := 5) rfl rfl ?_
      refine x_imul (pc' := 6) (z := 0) rfl rfl (by decide) ?_
      refine x_iload_n (pc' := 7) rfl rfl rfl ?_
      refine x_iadd (pc' := 8) (z := 0) rfl rfl (by decide) ?_
      refine x_iconst (pc' := 9) rfl rfl ?_
      refine x_imul (pc' := 10) (z := 0) rfl rfl (by decide) ?_
      refine x_iload_n (pc' := 11) rfl rfl rfl ?_
      refine x_iadd (pc' := 12) (z := 1) rfl rfl (by decide) ?_
      refine x_istore (pc' := 14) (ls' := [_, _, _, _, _, _]) rfl rfl rfl rfl ?_
      refine x_iload_n (pc' := 15) rfl rfl rfl ?_
      refine x_if (a' := 36) (pc' := 18) (z := false) rfl rfl rfl (by decide) (fun h => by cases h) (fun _ => ?_)
      refine x_iload_n (pc' := 19) rfl rfl rfl ?_
      refine x_iconst (pc' := 20) rfl rfl ?_
      refine x_icmp (a' := 36) (pc' := 23) (z := false) rfl rfl rfl (by decide) (fun h => by cases h) (fun _ => ?_)
      refine x_iload_n (pc' := 24) rfl rfl rfl ?_
      refine x_if (a' := 36) (pc' := 27) (z := false) rfl rfl rfl (by decide) (fun h => by cases h) (fun _ => ?_)
      refine x_iload_n (pc' := 28) rfl rfl rfl ?_
      refine x_iconst (pc' := 29) rfl rfl ?_
      refine x_icmp (a' := 36) (pc' := 32) (z := false) rfl rfl rfl (by decide) (fun h => by cases h) (fun _ => ?_)
      refine x_iconst (pc' := 33) rfl rfl ?_
      refine x_goto (pc' := 37) rfl rfl ?_
      refine x_istore (pc' := 39) (ls' := [_, _, _, _, _, _]) rfl rfl rfl rfl ?_
      refine x_iload (pc' := 41) rfl rfl rfl ?_
      refine x_if (a' := 67) (pc' := 44) (z := false) rfl rfl rfl (by decide) (fun h => by cases h) (fun _ => ?_)
      refine x_iload (pc' := 46) rfl rfl rfl ?_
      refine x_if (a' := 67) (pc' := 49) (z := false) rfl rfl rfl (by decide) (fun h => by cases h) (fun _ => ?_)
      refine x_iload (pc' := 51) rfl rfl rfl ?_
      refine x_getstatic (pc' := 54) rfl rfl (show 0 < sC t 28 from gst0 hc.1) ?_
      refine x_alen (pc' := 55) (N := 45) rfl rfl rfl (kN_28_0 hc.1) (?_ : X _ _ _ (.inl 45 :: _) _ _)
      refine x_icmp (a' := 67) (pc' := 58) (z := false) rfl rfl rfl (by decide) (fun h => by cases h) (fun _ => ?_)
      refine x_getstatic (pc' := 61) rfl rfl (show 0 < sC t 28 from gst0 hc.1) ?_
      refine x_iload (pc' := 63) rfl rfl rfl ?_
      refine x_iald (pc' := 64) (N := 45) (x := 0) rfl rfl rfl (kN_28_0 hc.1) (io_in (p := 1) (N := 45) (by decide) (by decide)) (Eq.trans (congrArg (sA t 28 0) (nn_io (p := 1) (by decide))) ((hc.1.2.2.2.2.2 1).1.trans rfl)) ?_
      refine x_goto (pc' := 68) rfl rfl ?_
      refine x_reti rfl rfl ?_
      refine sK_i (pc' := 34) rfl ?_
      refine x_istore (pc' := 36) (ls' := [_, _, _, _, _, _, _, _]) rfl rfl rfl rfl ?_
      refine x_iload (pc' := 38) rfl rfl rfl ?_
      refine x_if (a' := 83) (pc' := 41) (z := true) rfl rfl rfl (by decide) (fun _ => ?_) (fun h => by cases h)
      refine x_iinc (pc' := 86) (y := 2) (ls' := [_, _, _, _, _, _, _, _]) rfl rfl rfl rfl rfl ?_
      refine x_goto (pc' := 20) rfl rfl ?_
      refine x_iload (pc' := 22) rfl rfl rfl ?_
      refine x_iconst (pc' := 23) rfl rfl ?_
      refine x_icmp (a' := 89) (pc' := 26) (z := false) rfl rfl rfl (by decide) (fun h => by cases h) (fun _ => ?_)
      refine x_aload_n (pc' := 27) rfl rfl rfl rfl rfl ?_
      refine x_aload_n (pc' := 28) rfl rfl rfl rfl rfl ?_
      refine x_iload_n (pc' := 29) rfl rfl rfl ?_
      refine x_iload (pc' := 31) rfl rfl rfl ?_
      refine x_cv (ls0 := [_, _, _, _, sJk, sJk]) (rest := []) rfl rfl rfl rfl rfl ?_
      refine x_aload_n (pc' := 1) rfl rfl rfl rfl rfl ?_
      refine x_gI (pc' := 4) (x := 0) rfl rfl rfl (kI_64_0 hc.1) ?_
      refine x_iconst (pc' := 5) rfl rfl ?_
      refine x_imul (pc' := 6) (z := 0) rfl rfl (by decide) ?_
      refine x_iload_n (pc' := 7) rfl rfl rfl ?_
      refine x_iadd (pc' := 8) (z := 0) rfl rfl (by decide) ?_
      refine x_iconst (pc' := 9) rfl rfl ?_
      refine x_imul (pc' := 10) (z := 0) rfl rfl (by decide) ?_
      refine x_iload_n (pc' := 11) rfl rfl rfl ?_
      refine x_iadd (pc' := 12) (z := 2) rfl rfl (by decide) ?_
      refine x_istore (pc' := 14) (ls' := [_, _, _, _, _, _]) rfl rfl rfl rfl ?_
      refine x_iload_n (pc' := 15) rfl rfl rfl ?_
      refine x_if (a' := 36) (pc' := 18) (z := false) rfl rfl rfl (by decide) (fun h => by cases h) (fun _ => ?_)
      refine x_iload_n (pc' := 19) rfl rfl rfl ?_
      refine x_iconst (pc' := 20) rfl rfl ?_
      refine x_icmp (a' := 36) (pc' := 23) (z := false) rfl rfl rfl (by decide) (fun h => by cases h) (fun _ => ?_)
      refine x_iload_n (pc' := 24) rfl rfl rfl ?_
      refine x_if (a' := 36) (pc' := 27) (z := false) rfl rfl rfl (by decide) (fun h => by cases h) (fun _ => ?_)
      refine x_iload_n (pc' := 28) rfl rfl rfl ?_
      refine x_iconst (pc' := 29) rfl rfl ?_
      refine x_icmp (a' := 36) (pc' := 32) (z := false) rfl rfl rfl (by decide) (fun h => by cases h) (fun _ => ?_)
      refine x_iconst (pc' := 33) rfl rfl ?_
      refine x_goto (pc' := 37) rfl rfl ?_
      refine x_istore (pc' := 39) (ls' := [_, _, _, _, _, _]) rfl rfl rfl rfl ?_
      refine x_iload (pc' := 41) rfl rfl rfl ?_
      refine x_if (a' := 67) (pc' := 44) (z := false) rfl rfl rfl (by decide) (fun h => by cases h) (fun _ => ?_)
      refine x_iload (pc' := 46) rfl rfl rfl ?_
      refine x_if (a' := 67) (pc' := 49) (z := false) rfl rfl rfl (by decide) (fun h => by cases h) (fun _ => ?_)
      refine x_iload (pc' := 51) rfl rfl rfl ?_
      refine x_getstatic (pc' := 54) rfl rfl (show 0 < sC t 28 from gst0 hc.1) ?_
      refine x_alen (pc' := 55) (N := 45) rfl rfl rfl (kN_28_0 hc.1) (?_ : X _ _ _ (.inl 45 :: _) _ _)
      refine x_icmp (a' := 67) (pc' := 58) (z := false) rfl rfl rfl (by decide) (fun h => by cases h) (fun _ => ?_)
      refine x_getstatic (pc' := 61) rfl rfl (show 0 < sC t 28 from gst0 hc.1) ?_
      refine x_iload (pc' := 63) rfl rfl rfl ?_
      refine x_iald (pc' := 64) (N := 45) (x := 0) rfl rfl rfl (kN_28_0 hc.1) (io_in (p := 2) (N := 45) (by decide) (by decide)) (Eq.trans (congrArg (sA t 28 0) (nn_io (p := 2) (by decide))) ((hc.1.2.2.2.2.2 2).1.trans rfl)) ?_
      refine x_goto (pc' := 68) rfl rfl ?_
      refine x_reti rfl rfl ?_
      refine sK_i (pc' := 34) rfl ?_
      refine x_istore (pc' := 36) (ls' := [_, _, _, _, _, _, _, _]) rfl rfl rfl rfl ?_
      refine x_iload (pc' := 38) rfl rfl rfl ?_
      refine x_if (a' := 83) (pc' := 41) (z := true) rfl rfl rfl (by decide) (fun _ => ?_) (fun h => by cases h)
      refine x_iinc (pc' := 86) (y := 3) (ls' := [_, _, _, _, _, _, _, _]) rfl rfl rfl rfl rfl ?_
      refine x_goto (pc' := 20) rfl rfl ?_
      refine x_iload (pc' := 22) rfl rfl rfl ?_
      refine x_iconst (pc' := 23) rfl rfl ?_
      refine x_icmp (a' := 89) (pc' := 26) (z := true) rfl rfl rfl (by decide) (fun _ => ?_) (fun h => by cases h)
      refine x_iload (pc' := 91) rfl rfl rfl ?_
      refine x_reti rfl rfl ?_
      exact qv (by simp only [cp00tF, (isSome_s q25), cd_t, cd_f]) (q )
    · refine x_sipush (pc' := 58) rfl rfl ?_
      refine x_reti rfl rfl ?_
      exact qv (by simp only [cp00tF, (isSome_n q25), cd_t, cd_f]) (q )
  refine x_icmp (a' := 35) (pc' := 33) (z := decide ((mA M 0 0) = 2)) rfl rfl rfl rfl (fun q20 => ?_) (fun q20 => ?_)
  · refine x_aload_n (pc' := 36) rfl rfl rfl rfl rfl ?_
    refine x_gR (pc' := 39) (r := (some 0)) rfl rfl rfl (kR_640_0 hc.1) ?_
    refine x_iload_n (pc' := 40) rfl rfl rfl ?_
    refine x_aald (pc' := 41) (N := 5) (k' := 1) (r := (some 0)) rfl rfl rfl (kN_24_0 hc.1) (io_in (p := 0) (N := 5) (by decide) (by decide)) (Eq.trans (congrArg (sE t 24 0) (nn_io (p := 0) (by decide))) (kB hc.1 (by decide))) ?_
    refine x_iload_n (pc' := 42) rfl rfl rfl ?_
    refine x_if (a' := 57) (pc' := 45) (z := false) rfl rfl rfl (by decide) (fun h => by cases h) (fun _ => ?_)
    refine x_iload_n (pc' := 46) rfl rfl rfl ?_
    refine x_if (a' := 53) (pc' := 49) (z := true) rfl rfl rfl (by decide) (fun _ => ?_) (fun h => by cases h)
    refine x_iconst (pc' := 54) rfl rfl ?_
    refine x_goto (pc' := 58) rfl rfl ?_
    refine x_cv (ls0 := [_, _]) (rest := []) rfl rfl rfl rfl rfl ?_
    refine x_iload_n (pc' := 1) rfl rfl rfl ?_
    refine x_if (a' := 11) (pc' := 4) (z := true) rfl rfl rfl (by decide) (fun _ => ?_) (fun h => by cases h)
    refine x_aload_n (pc' := 12) rfl rfl rfl rfl rfl ?_
    refine x_gR (pc' := 15) (r := (bsF M n 0 false)) rfl rfl rfl (bs_70 hC (Fc.ri (Fc.refl _) hR) hM (by decide)) ?_
    refine x_reta rfl rfl ?_
    refine sK_i (pc' := 61) rfl ?_
    refine x_reta rfl rfl ?_
    ((try rw [q20] at J23); (try rw [q20]); (try simp only [cd_t, cd_f, nt_t, nt_f, an_t, an_f, or_t, or_f] at J23); (try simp only [cd_t, cd_f, nt_t, nt_f, an_t, an_f, or_t, or_f]); exact J23)
  · refine x_null (pc' := 34) rfl rfl rfl ?_
    refine x_reta rfl rfl ?_
    ((try rw [q20] at J23); (try rw [q20]); (try simp only [cd_t, cd_f, nt_t, nt_f, an_t, an_f, or_t, or_f] at J23); (try simp only [cd_t, cd_f, nt_t, nt_f, an_t, an_f, or_t, or_f]); exact J23)
def cp01fF (M : sM) (n : Nat) : Int32 := (bif (bif (decide ((mA M 0 3) = 2)) then (bsF M n 3 true) else none).isSome then (bif (bif (decide ((mA M 0 1) = 2)) then (bsF M n 1 true) else none).isSome then ((0 + (mA M 14 (ovD (bif (decide ((mA M 0 3) = 2)) then (bsF M n 3 true) else none)))) + (mA M 14 (ovD (bif (decide ((mA M 0 1) = 2)) then (bsF M n 1 true) else none)))) else (-10000)) else (-10000))
set_option maxHeartbeats 4000000 in
set_option maxRecDepth 10000 in
theorem c81_01f {t : sT} {Q : sRs → sT → Prop} {M : sM} {n : Nat} {T : Nat}
    (hM : Rl t M n T)
    (hc : Sf t M n T)
    (hR : Ri M n)
    (hC : rlC t M n)
    (q : Q (.inl (some (.inl (cp01fF M n)))) t) :
    X 81 0 [.inr (.inr (10, (some 0))), .inr (.inr (1, (some 0))), .inl 1, .inl (bz false), sJk, sJk, sJk, sJk] [] t Q := by
  refine x_aload_n (pc' := 1) rfl rfl rfl rfl rfl ?_
  refine x_aload_n (pc' := 2) rfl rfl rfl rfl rfl ?_
  refine x_iload_n (pc' := 3) rfl rfl rfl ?_
  refine x_iconst (pc' := 4) rfl rfl ?_
  refine x_cv (ls0 := [_, _, _, _, sJk, sJk]) (rest := []) rfl rfl rfl rfl rfl ?_
  refine x_aload_n (pc' := 1) rfl rfl rfl rfl rfl ?_
  refine x_gI (pc' := 4) (x := 0) rfl rfl rfl (kI_64_0 hc.1) ?_
  refine x_iconst (pc' := 5) rfl rfl ?_
  refine x_imul (pc' := 6) (z := 0) rfl rfl (by decide) ?_
  refine x_iload_n (pc' := 7) rfl rfl rfl ?_
  refine x_iadd (pc' := 8) (z := 1) rfl rfl (by decide) ?_
  refine x_iconst (pc' := 9) rfl rfl ?_
  refine x_imul (pc' := 10) (z := 3) rfl rfl (by decide) ?_
  refine x_iload_n (pc' := 11) rfl rfl rfl ?_
  refine x_iadd (pc' := 12) (z := 3) rfl rfl (by decide) ?_
  refine x_istore (pc' := 14) (ls' := [_, _, _, _, _, _]) rfl rfl rfl rfl ?_
  refine x_iload_n (pc' := 15) rfl rfl rfl ?_
  refine x_if (a' := 36) (pc' := 18) (z := false) rfl rfl rfl (by decide) (fun h => by cases h) (fun _ => ?_)
  refine x_iload_n (pc' := 19) rfl rfl rfl ?_
  refine x_iconst (pc' := 20) rfl rfl ?_
  refine x_icmp (a' := 36) (pc' := 23) (z := false) rfl rfl rfl (by decide) (fun h => by cases h) (fun _ => ?_)
  refine x_iload_n (pc' := 24) rfl rfl rfl ?_
  refine x_if (a' := 36) (pc' := 27) (z := false) rfl rfl rfl (by decide) (fun h => by cases h) (fun _ => ?_)
  refine x_iload_n (pc' := 28) rfl rfl rfl ?_
  refine x_iconst (pc' := 29) rfl rfl ?_
  refine x_icmp (a' := 36) (pc' := 32) (z := false) rfl rfl rfl (by decide) (fun h => by cases h) (fun _ => ?_)
  refine x_iconst (pc' := 33) rfl rfl ?_
  refine x_goto (pc' := 37) rfl rfl ?_
  refine x_istore (pc' := 39) (ls' := [_, _, _, _, _, _]) rfl rfl rfl rfl ?_
  refine x_iload (pc' := 41) rfl rfl rfl ?_
  refine x_if (a' := 67) (pc' := 44) (z := false) rfl rfl rfl (by decide) (fun h => by cases h) (fun _ => ?_)
  refine x_iload (pc' := 46) rfl rfl rfl ?_
  refine x_if (a' := 67) (pc' := 49) (z := false) rfl rfl rfl (by decide) (fun h => by cases h) (fun _ => ?_)
  refine x_iload (pc' := 51) rfl rfl rfl ?_
  refine x_getstatic (pc' := 54) rfl rfl (show 0 < sC t 28 from gst0 hc.1) ?_
  refine x_alen (pc' := 55) (N := 45) rfl rfl rfl (kN_28_0 hc.1) (?_ : X _ _ _ (.inl 45 :: _) _ _)
  refine x_icmp (a' := 67) (pc' := 58) (z := false) rfl rfl rfl (by decide) (fun h => by cases h) (fun _ => ?_)
  refine x_getstatic (pc' := 61) rfl rfl (show 0 < sC t 28 from gst0 hc.1) ?_
  refine x_iload (pc' := 63) rfl rfl rfl ?_
  refine x_iald (pc' := 64) (N := 45) (x := 4) rfl rfl rfl (kN_28_0 hc.1) (io_in (p := 3) (N := 45) (by decide) (by decide)) (Eq.trans (congrArg (sA t 28 0) (nn_io (p := 3) (by decide))) ((hc.1.2.2.2.2.2 3).1.trans rfl)) ?_
  refine x_goto (pc' := 68) rfl rfl ?_
  refine x_reti rfl rfl ?_
  refine sK_i (pc' := 7) rfl ?_
  refine x_if (a' := 14) (pc' := 10) (z := true) rfl rfl rfl (by decide) (fun _ => ?_) (fun h => by cases h)
  refine x_iconst (pc' := 15) rfl rfl ?_
  refine x_istore (pc' := 17) (ls' := [_, _, _, _, _, _, _, _]) rfl rfl rfl rfl ?_
  refine x_iconst (pc' := 18) rfl rfl ?_
  refine x_istore (pc' := 20) (ls' := [_, _, _, _, _, _, _, _]) rfl rfl rfl rfl ?_
  refine x_iload (pc' := 22) rfl rfl rfl ?_
  refine x_iconst (pc' := 23) rfl rfl ?_
  refine x_icmp (a' := 89) (pc' := 26) (z := false) rfl rfl rfl (by decide) (fun h => by cases h) (fun _ => ?_)
  refine x_aload_n (pc' := 27) rfl rfl rfl rfl rfl ?_
  refine x_aload_n (pc' := 28) rfl rfl rfl rfl rfl ?_
  refine x_iload_n (pc' := 29) rfl rfl rfl ?_
  refine x_iload (pc' := 31) rfl rfl rfl ?_
  refine x_cv (ls0 := [_, _, _, _, sJk, sJk]) (rest := []) rfl rfl rfl rfl rfl ?_
  refine x_aload_n (pc' := 1) rfl rfl rfl rfl rfl ?_
  refine x_gI (pc' := 4) (x := 0) rfl rfl rfl (kI_64_0 hc.1) ?_
  refine x_iconst (pc' := 5) rfl rfl ?_
  refine x_imul (pc' := 6) (z := 0) rfl rfl (by decide) ?_
  refine x_iload_n (pc' := 7) rfl rfl rfl ?_
  refine x_iadd (pc' := 8) (z := 1) rfl rfl (by decide) ?_
  refine x_iconst (pc' := 9) rfl rfl ?_
  refine x_imul (pc' := 10) (z := 3) rfl rfl (by decide) ?_
  refine x_iload_n (pc' := 11) rfl rfl rfl ?_
  refine x_iadd (pc' := 12) (z := 3) rfl rfl (by decide) ?_
  refine x_istore (pc' := 14) (ls' := [_, _, _, _, _, _]) rfl rfl rfl rfl ?_
  refine x_iload_n (pc' := 15) rfl rfl rfl ?_
  refine x_if (a' := 36) (pc' := 18) (z := false) rfl rfl rfl (by decide) (fun h => by cases h) (fun _ => ?_)
  refine x_iload_n (pc' := 19) rfl rfl rfl ?_
  refine x_iconst (pc' := 20) rfl rfl ?_
  refine x_icmp (a' := 36) (pc' := 23) (z := false) rfl rfl rfl (by decide) (fun h => by cases h) (fun _ => ?_)
  refine x_iload_n (pc' := 24) rfl rfl rfl ?_
  refine x_if (a' := 36) (pc' := 27) (z := false) rfl rfl rfl (by decide) (fun h => by cases h) (fun _ => ?_)
  refine x_iload_n (pc' := 28) rfl rfl rfl ?_
  refine x_iconst (pc' := 29) rfl rfl ?_
  refine x_icmp (a' := 36) (pc' := 32) (z := false) rfl rfl rfl (by decide) (fun h => by cases h) (fun _ => ?_)
  refine x_iconst (pc' := 33) rfl rfl ?_
  refine x_goto (pc' := 37) rfl rfl ?_
  refine x_istore (pc' := 39) (ls' := [_, _, _, _, _, _]) rfl rfl rfl rfl ?_
  refine x_iload (pc' := 41) rfl rfl rfl ?_
  refine x_if (a' := 67) (pc' := 44) (z := false) rfl rfl rfl (by decide) (fun h => by cases h) (fun _ => ?_)
  refine x_iload (pc' := 46) rfl rfl rfl ?_
  refine x_if (a' := 67) (pc' := 49) (z := false) rfl rfl rfl (by decide) (fun h => by cases h) (fun _ => ?_)
  refine x_iload (pc' := 51) rfl rfl rfl ?_
  refine x_getstatic (pc' := 54) rfl rfl (show 0 < sC t 28 from gst0 hc.1) ?_
  refine x_alen (pc' := 55) (N := 45) rfl rfl rfl (kN_28_0 hc.1) (?_ : X _ _ _ (.inl 45 :: _) _ _)
  refine x_icmp (a' := 67) (pc' := 58) (z := false) rfl rfl rfl (by decide) (fun h => by cases h) (fun _ => ?_)
  refine x_getstatic (pc' := 61) rfl rfl (show 0 < sC t 28 from gst0 hc.1) ?_
  refine x_iload (pc' := 63) rfl rfl rfl ?_
  refine x_iald (pc' := 64) (N := 45) (x := 4) rfl rfl rfl (kN_28_0 hc.1) (io_in (p := 3) (N := 45) (by decide) (by decide)) (Eq.trans (congrArg (sA t 28 0) (nn_io (p := 3) (by decide))) ((hc.1.2.2.2.2.2 3).1.trans rfl)) ?_
  refine x_goto (pc' := 68) rfl rfl ?_
  refine x_reti rfl rfl ?_
  refine sK_i (pc' := 34) rfl ?_
  refine x_istore (pc' := 36) (ls' := [_, _, _, _, _, _, _, _]) rfl rfl rfl rfl ?_
  refine x_iload (pc' := 38) rfl rfl rfl ?_
  refine x_if (a' := 83) (pc' := 41) (z := false) rfl rfl rfl (by decide) (fun h => by cases h) (fun _ => ?_)
  refine x_aload_n (pc' := 42) rfl rfl rfl rfl rfl ?_
  refine x_iload (pc' := 44) rfl rfl rfl ?_
  refine x_iload_n (pc' := 45) rfl rfl rfl ?_
  refine x_cv (ls0 := [_, _, _, sJk]) (rest := []) rfl rfl rfl rfl rfl ?_
  refine x_iload_n (pc' := 1) rfl rfl rfl ?_
  refine x_abs (pc' := 4) (z := 4) rfl rfl rfl (by decide) ?_
  refine x_iconst (pc' := 5) rfl rfl ?_
  refine x_isub (pc' := 6) (z := 3) rfl rfl (by decide) ?_
  refine x_istore_n (pc' := 7) (ls' := [_, _, _, _]) rfl rfl rfl rfl ?_
  refine x_iload_n (pc' := 8) rfl rfl rfl ?_
  refine x_if (a' := 33) (pc' := 11) (z := false) rfl rfl rfl (by decide) (fun h => by cases h) (fun _ => ?_)
  refine x_iload_n (pc' := 12) rfl rfl rfl ?_
  refine x_aload_n (pc' := 13) rfl rfl rfl rfl rfl ?_
  refine x_gR (pc' := 16) (r := (some 0)) rfl rfl rfl (kR_640_0 hc.1) ?_
  refine x_alen (pc' := 17) (N := 5) rfl rfl rfl (kN_24_0 hc.1) (?_ : X _ _ _ (.inl 5 :: _) _ _)
  refine x_icmp (a' := 33) (pc' := 20) (z := false) rfl rfl rfl (by decide) (fun h => by cases h) (fun _ => ?_)
  refine x_aload_n (pc' := 21) rfl rfl rfl rfl rfl ?_
  refine x_gR (pc' := 24) (r := (some 0)) rfl rfl rfl (kR_640_0 hc.1) ?_
  refine x_iload_n (pc' := 25) rfl rfl rfl ?_
  refine x_aald (pc' := 26) (N := 5) (k' := 1) (r := (some 3)) rfl rfl rfl (kN_24_0 hc.1) (io_in (p := 3) (N := 5) (by decide) (by decide)) (Eq.trans (congrArg (sE t 24 0) (nn_io (p := 3) (by decide))) (kB hc.1 (by decide))) ?_
  refine x_gI (pc' := 29) (x := (mA M 0 3)) rfl rfl rfl (kA hM rfl (show 3 < 5 by decide)) ?_
  refine x_iconst (pc' := 30) rfl rfl ?_
  have J23 : ((sK 79 81 45 [.inr (.inr (10, (some 0))), .inr (.inr (1, (some 0))), .inl 1, .inl (bz false), .inl 0, .inl 0, .inl 4, sJk] [] Q) : sRs → sT → Prop) (.inl (some (.inr (.inr (8, (bif (decide ((mA M 0 3) = 2)) then (bsF M n 3 true) else none)))))) t := by
    refine sK_i (pc' := 48) rfl ?_
    refine x_astore (pc' := 50) (ls' := [_, _, _, _, _, _, _, _]) rfl rfl rfl rfl rfl ?_
    refine x_aload (pc' := 52) rfl rfl rfl rfl rfl ?_
    refine x_ifnonnull (a' := 59) (pc' := 55) rfl rfl rfl rfl (fun j0 q25 => ?_) (fun q25 => ?_)
    · refine x_iload (pc' := 61) rfl rfl rfl ?_
      refine x_iload (pc' := 63) rfl rfl rfl ?_
      refine x_if (a' := 74) (pc' := 66) (z := false) rfl rfl rfl (by decide) (fun h => by cases h) (fun _ => ?_)
      refine x_aload (pc' := 68) rfl rfl rfl rfl (ovD_s q25) ?_
      refine x_gI (pc' := 71) (x := (mA M 14 (ovD (bif (decide ((mA M 0 3) = 2)) then (bsF M n 3 true) else none)))) rfl rfl rfl ((kA hM rfl (ovD_lt (obd_c bsF_lt obd_n) q25)).trans (congrFun (Fc.f14 (Fc.refl _)) _)) ?_
      refine x_goto (pc' := 80) rfl rfl ?_
      refine x_iadd (pc' := 81) (z := (0 + (mA M 14 (ovD (bif (decide ((mA M 0 3) = 2)) then (bsF M n 3 true) else none))))) rfl rfl rfl ?_
      refine x_istore (pc' := 83) (ls' := [_, _, _, _, _, _, _, _]) rfl rfl rfl rfl ?_
      refine x_iinc (pc' := 86) (y := 1) (ls' := [_, _, _, _, _, _, _, _]) rfl rfl rfl rfl rfl ?_
      refine x_goto (pc' := 20) rfl rfl ?_
      refine x_iload (pc' := 22) rfl rfl rfl ?_
      refine x_iconst (pc' := 23) rfl rfl ?_
      refine x_icmp (a' := 89) (pc' := 26) (z := false) rfl rfl rfl (by decide) (fun h => by cases h) (fun _ => ?_)
      refine x_aload_n (pc' := 27) rfl rfl rfl rfl rfl ?_
      refine x_aload_n (pc' := 28) rfl rfl rfl rfl rfl ?_
      refine x_iload_n (pc' := 29) rfl rfl rfl ?_
      refine x_iload (pc' := 31) rfl rfl rfl ?_
      refine x_cv (ls0 := [_, _, _, _, sJk, sJk]) (rest := []) rfl rfl rfl rfl rfl ?_
      refine x_aload_n (pc' := 1) rfl rfl rfl rfl rfl ?_
      refine x_gI (pc' := 4) (x := 0) rfl rfl rfl (kI_64_0 hc.1) ?_
      refine x_iconst (pc' := 5) rfl rfl ?_
      refine x_imul (pc' := 6) (z := 0) rfl rfl (by decide) ?_
      refine x_iload_n (pc' := 7) rfl rfl rfl ?_
      refine x_iadd (pc' := 8) (z := 1) rfl rfl (by decide) ?_
      refine x_iconst (pc' := 9) rfl rfl ?_
      refine x_imul (pc' := 10) (z := 3) rfl rfl (by decide) ?_
      refine x_iload_n (pc' := 11) rfl rfl rfl ?_
      refine x_iadd (pc' := 12) (z := 4) rfl rfl (by decide) ?_
      refine x_istore (pc' := 14) (ls' := [_, _, _, _, _, _]) rfl rfl rfl rfl ?_
      refine x_iload_n (pc' := 15) rfl rfl rfl ?_
      refine x_if (a' := 36) (pc' := 18) (z := false) rfl rfl rfl (by decide) (fun h => by cases h) (fun _ => ?_)
      refine x_iload_n (pc' := 19) rfl rfl rfl ?_
      refine x_iconst (pc' := 20) rfl rfl ?_
      refine x_icmp (a' := 36) (pc' := 23) (z := false) rfl rfl rfl (by decide) (fun h => by cases h) (fun _ => ?_)
      refine x_iload_n (pc' := 24) rfl rfl rfl ?_
      refine x_if (a' := 36) (pc' := 27) (z := false) rfl rfl rfl (by decide) (fun h => by cases h) (fun _ => ?_)
      refine x_iload_n (pc' := 28) rfl rfl rfl ?_
      refine x_iconst (pc' := 29) rfl rfl ?_
      refine x_icmp (a' := 36) (pc' := 32) (z := false) rfl rfl rfl (by decide) (fun h => by cases h) (fun _ => ?_)
      refine x_iconst (pc' := 33) rfl rfl ?_
      refine x_goto (pc' := 37) rfl rfl ?_
      refine x_istore (pc' := 39) (ls' := [_, _, _, _, _, _]) rfl rfl rfl rfl ?_
      refine x_iload (pc' := 41) rfl rfl rfl ?_
      refine x_if (a' := 67) (pc' := 44) (z := false) rfl rfl rfl (by decide) (fun h => by cases h) (fun _ => ?_)
      refine x_iload (pc' := 46) rfl rfl rfl ?_
      refine x_if (a' := 67) (pc' := 49) (z := false) rfl rfl rfl (by decide) (fun h => by cases h) (fun _ => ?_)
      refine x_iload (pc' := 51) rfl rfl rfl ?_
      refine x_getstatic (pc' := 54) rfl rfl (show 0 < sC t 28 from gst0 hc.1) ?_
      refine x_alen (pc' := 55) (N := 45) rfl rfl rfl (kN_28_0 hc.1) (?_ : X _ _ _ (.inl 45 :: _) _ _)
      refine x_icmp (a' := 67) (pc' := 58) (z := false) rfl rfl rfl (by decide) (fun h => by cases h) (fun _ => ?_)
      refine x_getstatic (pc' := 61) rfl rfl (show 0 < sC t 28 from gst0 hc.1) ?_
      refine x_iload (pc' := 63) rfl rfl rfl ?_
      refine x_iald (pc' := 64) (N := 45) (x := 2) rfl rfl rfl (kN_28_0 hc.1) (io_in (p := 4) (N := 45) (by decide) (by decide)) (Eq.trans (congrArg (sA t 28 0) (nn_io (p := 4) (by decide))) ((hc.1.2.2.2.2.2 4).1.trans rfl)) ?_
      refine x_goto (pc' := 68) rfl rfl ?_
      refine x_reti rfl rfl ?_
      refine sK_i (pc' := 34) rfl ?_
      refine x_istore (pc' := 36) (ls' := [_, _, _, _, _, _, _, _]) rfl rfl rfl rfl ?_
      refine x_iload (pc' := 38) rfl rfl rfl ?_
      refine x_if (a' := 83) (pc' := 41) (z := false) rfl rfl rfl (by decide) (fun h => by cases h) (fun _ => ?_)
      refine x_aload_n (pc' := 42) rfl rfl rfl rfl rfl ?_
      refine x_iload (pc' := 44) rfl rfl rfl ?_
      refine x_iload_n (pc' := 45) rfl rfl rfl ?_
      refine x_cv (ls0 := [_, _, _, sJk]) (rest := []) rfl rfl rfl rfl rfl ?_
      refine x_iload_n (pc' := 1) rfl rfl rfl ?_
      refine x_abs (pc' := 4) (z := 2) rfl rfl rfl (by decide) ?_
      refine x_iconst (pc' := 5) rfl rfl ?_
      refine x_isub (pc' := 6) (z := 1) rfl rfl (by decide) ?_
      refine x_istore_n (pc' := 7) (ls' := [_, _, _, _]) rfl rfl rfl rfl ?_
      refine x_iload_n (pc' := 8) rfl rfl rfl ?_
      refine x_if (a' := 33) (pc' := 11) (z := false) rfl rfl rfl (by decide) (fun h => by cases h) (fun _ => ?_)
      refine x_iload_n (pc' := 12) rfl rfl rfl ?_
      refine x_aload_n (pc' := 13) rfl rfl rfl rfl rfl ?_
      refine x_gR (pc' := 16) (r := (some 0)) rfl rfl rfl (kR_640_0 hc.1) ?_
      refine x_alen (pc' := 17) (N := 5) rfl rfl rfl (kN_24_0 hc.1) (?_ : X _ _ _ (.inl 5 :: _) _ _)
      refine x_icmp (a' := 33) (pc' := 20) (z := false) rfl rfl rfl (by decide) (fun h => by cases h) (fun _ => ?_)
      refine x_aload_n (pc' := 21) rfl rfl rfl rfl rfl ?_
      refine x_gR (pc' := 24) (r := (some 0)) rfl rfl rfl (kR_640_0 hc.1) ?_
      refine x_iload_n (pc' := 25) rfl rfl rfl ?_
      refine x_aald (pc' := 26) (N := 5) (k' := 1) (r := (some 1)) rfl rfl rfl (kN_24_0 hc.1) (io_in (p := 1) (N := 5) (by decide) (by decide)) (Eq.trans (congrArg (sE t 24 0) (nn_io (p := 1) (by decide))) (kB hc.1 (by decide))) ?_
      refine x_gI (pc' := 29) (x := (mA M 0 1)) rfl rfl rfl (kA hM rfl (show 1 < 5 by decide)) ?_
      refine x_iconst (pc' := 30) rfl rfl ?_
      have J41 : ((sK 79 81 45 [.inr (.inr (10, (some 0))), .inr (.inr (1, (some 0))), .inl 1, .inl (bz false), .inl (0 + (mA M 14 (ovD (bif (decide ((mA M 0 3) = 2)) then (bsF M n 3 true) else none)))), .inl 1, .inl 2, .inr (.inr (8, (bif (decide ((mA M 0 3) = 2)) then (bsF M n 3 true) else none)))] [] Q) : sRs → sT → Prop) (.inl (some (.inr (.inr (8, (bif (decide ((mA M 0 1) = 2)) then (bsF M n 1 true) else none)))))) t := by
        refine sK_i (pc' := 48) rfl ?_
        refine x_astore (pc' := 50) (ls' := [_, _, _, _, _, _, _, _]) rfl rfl rfl rfl rfl ?_
        refine x_aload (pc' := 52) rfl rfl rfl rfl rfl ?_
        refine x_ifnonnull (a' := 59) (pc' := 55) rfl rfl rfl rfl (fun j1 q43 => ?_) (fun q43 => ?_)
        · refine x_iload (pc' := 61) rfl rfl rfl ?_
          refine x_iload (pc' := 63) rfl rfl rfl ?_
          refine x_if (a' := 74) (pc' := 66) (z := false) rfl rfl rfl (by decide) (fun h => by cases h) (fun _ => ?_)
          refine x_aload (pc' := 68) rfl rfl rfl rfl (ovD_s q43) ?_
          refine x_gI (pc' := 71) (x := (mA M 14 (ovD (bif (decide ((mA M 0 1) = 2)) then (bsF M n 1 true) else none)))) rfl rfl rfl ((kA hM rfl (ovD_lt (obd_c bsF_lt obd_n) q43)).trans (congrFun (Fc.f14 (Fc.refl _)) _)) ?_
          refine x_goto (pc' := 80) rfl rfl ?_
          refine x_iadd (pc' := 81) (z := ((0 + (mA M 14 (ovD (bif (decide ((mA M 0 3) = 2)) then (bsF M n 3 true) else none)))) + (mA M 14 (ovD (bif (decide ((mA M 0 1) = 2)) then (bsF M n 1 true) else none))))) rfl rfl rfl ?_
          refine x_istore (pc' := 83) (ls' := [_, _, _, _, _, _, _, _]) rfl rfl rfl rfl ?_
          refine x_iinc (pc' := 86) (y := 2) (ls' := [_, _, _, _, _, _, _, _]) rfl rfl rfl rfl rfl ?_
          refine x_goto (pc' := 20) rfl rfl ?_
          refine x_iload (pc' := 22) rfl rfl rfl ?_
          refine x_iconst (pc' := 23) rfl rfl ?_
          refine x_icmp (a' := 89) (pc' := 26) (z := false) rfl rfl rfl (by decide) (fun h => by cases h) (fun _ => ?_)
          refine x_aload_n (pc' := 27) rfl rfl rfl rfl rfl ?_
          refine x_aload_n (pc' := 28) rfl rfl rfl rfl rfl ?_
          refine x_iload_n (pc' := 29) rfl rfl rfl ?_
          refine x_iload (pc' := 31) rfl rfl rfl ?_
          refine x_cv (ls0 := [_, _, _, _, sJk, sJk]) (rest := []) rfl rfl rfl rfl rfl ?_
          refine x_aload_n (pc' := 1) rfl rfl rfl rfl rfl ?_
          refine x_gI (pc' := 4) (x := 0) rfl rfl rfl (kI_64_0 hc.1) ?_
          refine x_iconst (pc' := 5) rfl rfl ?_
          refine x_imul (pc' := 6) (z := 0) rfl rfl (by decide) ?_
          refine x_iload_n (pc' := 7) rfl rfl rfl ?_
          refine x_iadd (pc' := 8) (z := 1) rfl rfl (by decide) ?_
          refine x_iconst (pc' := 9) rfl rfl ?_
          refine x_imul (pc' := 10) (z := 3) rfl rfl (by decide) ?_
          refine x_iload_n (pc' := 11) rfl rfl rfl ?_
          refine x_iadd (pc' := 12) (z := 5) rfl rfl (by decide) ?_
          refine x_istore (pc' := 14) (ls' := [_, _, _, _, _, _]) rfl rfl rfl rfl ?_
          refine x_iload_n (pc' := 15) rfl rfl rfl ?_
          refine x_if (a' := 36) (pc' := 18) (z := false) rfl rfl rfl (by decide) (fun h => by cases h) (fun _ => ?_)
          refine x_iload_n (pc' := 19) rfl rfl rfl ?_
          refine x_iconst (pc' := 20) rfl rfl ?_
          refine x_icmp (a' := 36) (pc' := 23) (z := false) rfl rfl rfl (by decide) (fun h => by cases h) (fun _ => ?_)
          refine x_iload_n (pc' := 24) rfl rfl rfl ?_
          refine x_if (a' := 36) (pc' := 27) (z := false) rfl rfl rfl (by decide) (fun h => by cases h) (fun _ => ?_)
          refine x_iload_n (pc' := 28) rfl rfl rfl ?_
          refine x_iconst (pc' := 29) rfl rfl ?_
          refine x_icmp (a' := 36) (pc' := 32) (z := false) rfl rfl rfl (by decide) (fun h => by cases h) (fun _ => ?_)
          refine x_iconst (pc' := 33) rfl rfl ?_
          refine x_goto (pc' := 37) rfl rfl ?_
          refine x_istore (pc' := 39) (ls' := [_, _, _, _, _, _]) rfl rfl rfl rfl ?_
          refine x_iload (pc' := 41) rfl rfl rfl ?_
          refine x_if (a' := 67) (pc' := 44) (z := false) rfl rfl rfl (by decide) (fun h => by cases h) (fun _ => ?_)
          refine x_iload (pc' := 46) rfl rfl rfl ?_
          refine x_if (a' := 67) (pc' := 49) (z := false) rfl rfl rfl (by decide) (fun h => by cases h) (fun _ => ?_)
          refine x_iload (pc' := 51) rfl rfl rfl ?_
          refine x_getstatic (pc' := 54) rfl rfl (show 0 < sC t 28 from gst0 hc.1) ?_
          refine x_alen (pc' := 55) (N := 45) rfl rfl rfl (kN_28_0 hc.1) (?_ : X _ _ _ (.inl 45 :: _) _ _)
          refine x_icmp (a' := 67) (pc' := 58) (z := false) rfl rfl rfl (by decide) (fun h => by cases h) (fun _ => ?_)
          refine x_getstatic (pc' := 61) rfl rfl (show 0 < sC t 28 from gst0 hc.1) ?_
          refine x_iload (pc' := 63) rfl rfl rfl ?_
          refine x_iald (pc' := 64) (N := 45) (x := 0) rfl rfl rfl (kN_28_0 hc.1) (io_in (p := 5) (N := 45) (by decide) (by decide)) (Eq.trans (congrArg (sA t 28 0) (nn_io (p := 5) (by decide))) ((hc.1.2.2.2.2.2 5).1.trans rfl)) ?_
          refine x_goto (pc' := 68) rfl rfl ?_
          refine x_reti rfl rfl ?_
          refine sK_i (pc' := 34) rfl ?_
          refine x_istore (pc' := 36) (ls' := [_, _, _, _, _, _, _, _]) rfl rfl rfl rfl ?_
          refine x_iload (pc' := 38) rfl rfl rfl ?_
          refine x_if (a' := 83) (pc' := 41) (z := true) rfl rfl rfl (by decide) (fun _ => ?_) (fun h => by cases h)
          refine x_iinc (pc' := 86) (y := 3) (ls' := [_, _, _, _, _, _, _, _]) rfl rfl rfl rfl rfl ?_
          refine x_goto (pc' := 20) rfl rfl ?_
          refine x_iload (pc' := 22) rfl rfl rfl ?_
          refine x_iconst (pc' := 23) rfl rfl ?_
          refine x_icmp (a' := 89) (pc' := 26) (z := true) rfl rfl rfl (by decide) (fun _ => ?_) (fun h => by cases h)
          refine x_iload (pc' := 91) rfl rfl rfl ?_
          refine x_reti rfl rfl ?_
          exact qv (by simp only [cp01fF, (isSome_s q25), (isSome_s q43), cd_t, cd_f]) (q )
        · refine x_sipush (pc' := 58) rfl rfl ?_
          refine x_reti rfl rfl ?_
          exact qv (by simp only [cp01fF, (isSome_s q25), (isSome_n q43), cd_t, cd_f]) (q )
      refine x_icmp (a' := 35) (pc' := 33) (z := decide ((mA M 0 1) = 2)) rfl rfl rfl rfl (fun q38 => ?_) (fun q38 => ?_)
      · refine x_aload_n (pc' := 36) rfl rfl rfl rfl rfl ?_
        refine x_gR (pc' := 39) (r := (some 0)) rfl rfl rfl (kR_640_0 hc.1) ?_
        refine x_iload_n (pc' := 40) rfl rfl rfl ?_
        refine x_aald (pc' := 41) (N := 5) (k' := 1) (r := (some 1)) rfl rfl rfl (kN_24_0 hc.1) (io_in (p := 1) (N := 5) (by decide) (by decide)) (Eq.trans (congrArg (sE t 24 0) (nn_io (p := 1) (by decide))) (kB hc.1 (by decide))) ?_
        refine x_iload_n (pc' := 42) rfl rfl rfl ?_
        refine x_if (a' := 57) (pc' := 45) (z := false) rfl rfl rfl (by decide) (fun h => by cases h) (fun _ => ?_)
        refine x_iload_n (pc' := 46) rfl rfl rfl ?_
        refine x_if (a' := 53) (pc' := 49) (z := false) rfl rfl rfl (by decide) (fun h => by cases h) (fun _ => ?_)
        refine x_iconst (pc' := 50) rfl rfl ?_
        refine x_goto (pc' := 58) rfl rfl ?_
        refine x_cv (ls0 := [_, _]) (rest := []) rfl rfl rfl rfl rfl ?_
        refine x_iload_n (pc' := 1) rfl rfl rfl ?_
        refine x_if (a' := 11) (pc' := 4) (z := false) rfl rfl rfl (by decide) (fun h => by cases h) (fun _ => ?_)
        refine x_aload_n (pc' := 5) rfl rfl rfl rfl rfl ?_
        refine x_gR (pc' := 8) (r := (bsF M n 1 true)) rfl rfl rfl (bs_69 hC (Fc.ri (Fc.refl _) hR) hM (by decide)) ?_
        refine x_goto (pc' := 15) rfl rfl ?_
        refine x_reta rfl rfl ?_
        refine sK_i (pc' := 61) rfl ?_
        refine x_reta rfl rfl ?_
        ((try rw [q38] at J41); (try rw [q38]); (try simp only [cd_t, cd_f, nt_t, nt_f, an_t, an_f, or_t, or_f] at J41); (try simp only [cd_t, cd_f, nt_t, nt_f, an_t, an_f, or_t, or_f]); exact J41)
      · refine x_null (pc' := 34) rfl rfl rfl ?_
        refine x_reta rfl rfl ?_
        ((try rw [q38] at J41); (try rw [q38]); (try simp only [cd_t, cd_f, nt_t, nt_f, an_t, an_f, or_t, or_f] at J41); (try simp only [cd_t, cd_f, nt_t, nt_f, an_t, an_f, or_t, or_f]); exact J41)
    · refine x_sipush (pc' := 58) rfl rfl ?_
      refine x_reti rfl rfl ?_
      exact qv (by simp only [cp01fF, (isSome_n q25), cd_t, cd_f]) (q )
  refine x_icmp (a' := 35) (pc' := 33) (z := decide ((mA M 0 3) = 2)) rfl rfl rfl rfl (fun q20 => ?_) (fun q20 => ?_)
  · refine x_aload_n (pc' := 36) rfl rfl rfl rfl rfl ?_
    refine x_gR (pc' := 39) (r := (some 0)) rfl rfl rfl (kR_640_0 hc.1) ?_
    refine x_iload_n (pc' := 40) rfl rfl rfl ?_
    refine x_aald (pc' := 41) (N := 5) (k' := 1) (r := (some 3)) rfl rfl rfl (kN_24_0 hc.1) (io_in (p := 3) (N := 5) (by decide) (by decide)) (Eq.trans (congrArg (sE t 24 0) (nn_io (p := 3) (by decide))) (kB hc.1 (by decide))) ?_
    refine x_iload_n (pc' := 42) rfl rfl rfl ?_
    refine x_if (a' := 57) (pc' := 45) (z := false) rfl rfl rfl (by decide) (fun h => by cases h) (fun _ => ?_)
    refine x_iload_n (pc' := 46) rfl rfl rfl ?_
    refine x_if (a' := 53) (pc' := 49) (z := false) rfl rfl rfl (by decide) (fun h => by cases h) (fun _ => ?_)
    refine x_iconst (pc' := 50) rfl rfl ?_
    refine x_goto (pc' := 58) rfl rfl ?_
    refine x_cv (ls0 := [_, _]) (rest := []) rfl rfl rfl rfl rfl ?_
    refine x_iload_n (pc' := 1) rfl rfl rfl ?_
    refine x_if (a' := 11) (pc' := 4) (z := false) rfl rfl rfl (by decide) (fun h => by cases h) (fun _ => ?_)
    refine x_aload_n (pc' := 5) rfl rfl rfl rfl rfl ?_
    refine x_gR (pc' := 8) (r := (bsF M n 3 true)) rfl rfl rfl (bs_69 hC (Fc.ri (Fc.refl _) hR) hM (by decide)) ?_
    refine x_goto (pc' := 15) rfl rfl ?_
    refine x_reta rfl rfl ?_
    refine sK_i (pc' := 61) rfl ?_
    refine x_reta rfl rfl ?_
    ((try rw [q20] at J23); (try rw [q20]); (try simp only [cd_t, cd_f, nt_t, nt_f, an_t, an_f, or_t, or_f] at J23); (try simp only [cd_t, cd_f, nt_t, nt_f, an_t, an_f, or_t, or_f]); exact J23)
  · refine x_null (pc' := 34) rfl rfl rfl ?_
    refine x_reta rfl rfl ?_
    ((try rw [q20] at J23); (try rw [q20]); (try simp only [cd_t, cd_f, nt_t, nt_f, an_t, an_f, or_t, or_f] at J23); (try simp only [cd_t, cd_f, nt_t, nt_f, an_t, an_f, or_t, or_f]); exact J23)
def cp01tF (M : sM) (n : Nat) : Int32 := (bif (bif (decide ((mA M 0 3) = 2)) then (bsF M n 3 false) else none).isSome then (bif (bif (decide ((mA M 0 1) = 2)) then (bsF M n 1 false) else none).isSome then ((0 + (mA M 14 (ovD (bif (decide ((mA M 0 3) = 2)) then (bsF M n 3 false) else none)))) + (mA M 14 (ovD (bif (decide ((mA M 0 1) = 2)) then (bsF M n 1 false) else none)))) else (-10000)) else (-10000))
set_option maxHeartbeats 4000000 in
set_option maxRecDepth 10000 in
theorem c81_01t {t : sT} {Q : sRs → sT → Prop} {M : sM} {n : Nat} {T : Nat}
    (hM : Rl t M n T)
    (hc : Sf t M n T)
    (hR : Ri M n)
    (hC : rlC t M n)
    (q : Q (.inl (some (.inl (cp01tF M n)))) t) :
    X 81 0 [.inr (.inr (10, (some 0))), .inr (.inr (1, (some 0))), .inl 1, .inl (bz true), sJk, sJk, sJk, sJk] [] t Q := by
  refine x_aload_n (pc' := 1) rfl rfl rfl rfl rfl ?_
  refine x_aload_n (pc' := 2) rfl rfl rfl rfl rfl ?_
  refine x_iload_n (pc' := 3) rfl rfl rfl ?_
  refine x_iconst (pc' := 4) rfl rfl ?_
  refine x_cv (ls0 := [_, _, _, _, sJk, sJk]) (rest := []) rfl rfl rfl rfl rfl ?_
  refine x_aload_n (pc' := 1) rfl rfl rfl rfl rfl ?_
  refine x_gI (pc' := 4) (x := 0) rfl rfl rfl (kI_64_0 hc.1) ?_
  refine x_iconst (pc' := 5) rfl rfl ?_
  refine x_imul (pc' := 6) (z := 0) rfl rfl (by decide) ?_
  refine x_iload_n (pc' := 7) rfl rfl rfl ?_
  refine x_iadd (pc' := 8) (z := 1) rfl rfl (by decide) ?_
  refine x_iconst (pc' := 9) rfl rfl ?_
  refine x_imul (pc' := 10) (z := 3) rfl rfl (by decide) ?_
  refine x_iload_n (pc' := 11) rfl rfl rfl ?_
  refine x_iadd (pc' := 12) (z := 3) rfl rfl (by decide) ?_
  refine x_istore (pc' := 14) (ls' := [_, _, _, _, _, _]) rfl rfl rfl rfl ?_
  refine x_iload_n (pc' := 15) rfl rfl rfl ?_
  refine x_if (a' := 36) (pc' := 18) (z := false) rfl rfl rfl (by decide) (fun h => by cases h) (fun _ => ?_)
  refine x_iload_n (pc' := 19) rfl rfl rfl ?_
  refine x_iconst (pc' := 20) rfl rfl ?_
  refine x_icmp (a' := 36) (pc' := 23) (z := false) rfl rfl rfl (by decide) (fun h => by cases h) (fun _ => ?_)
  refine x_iload_n (pc' := 24) rfl rfl rfl ?_
  refine x_if (a' := 36) (pc' := 27) (z := false) rfl rfl rfl (by decide) (fun h => by cases h) (fun _ => ?_)
  refine x_iload_n (pc' := 28) rfl rfl rfl ?_
  refine x_iconst (pc' := 29) rfl rfl ?_
  refine x_icmp (a' := 36) (pc' := 32) (z := false) rfl rfl rfl (by decide) (fun h => by cases h) (fun _ => ?_)
  refine x_iconst (pc' := 33) rfl rfl ?_
  refine x_goto (pc' := 37) rfl rfl ?_
  refine x_istore (pc' := 39) (ls' := [_, _, _, _, _, _]) rfl rfl rfl rfl ?_
  refine x_iload (pc' := 41) rfl rfl rfl ?_
  refine x_if (a' := 67) (pc' := 44) (z := false) rfl rfl rfl (by decide) (fun h => by cases h) (fun _ => ?_)
  refine x_iload (pc' := 46) rfl rfl rfl ?_
  refine x_if (a' := 67) (pc' := 49) (z := false) rfl rfl rfl (by decide) (fun h => by cases h) (fun _ => ?_)
  refine x_iload (pc' := 51) rfl rfl rfl ?_
  refine x_getstatic (pc' := 54) rfl rfl (show 0 < sC t 28 from gst0 hc.1) ?_
  refine x_alen (pc' := 55) (N := 45) rfl rfl rfl (kN_28_0 hc.1) (?_ : X _ _ _ (.inl 45 :: _) _ _)
  refine x_icmp (a' := 67) (pc' := 58) (z := false) rfl rfl rfl (by decide) (fun h => by cases h) (fun _ => ?_)
  refine x_getstatic (pc' := 61) rfl rfl (show 0 < sC t 28 from gst0 hc.1) ?_
  refine x_iload (pc' := 63) rfl rfl rfl ?_
  refine x_iald (pc' := 64) (N := 45) (x := 4) rfl rfl rfl (kN_28_0 hc.1) (io_in (p := 3) (N := 45) (by decide) (by decide)) (Eq.trans (congrArg (sA t 28 0) (nn_io (p := 3) (by decide))) ((hc.1.2.2.2.2.2 3).1.trans rfl)) ?_
  refine x_goto (pc' := 68) rfl rfl ?_
  refine x_reti rfl rfl ?_
  refine sK_i (pc' := 7) rfl ?_
  refine x_if (a' := 14) (pc' := 10) (z := true) rfl rfl rfl (by decide) (fun _ => ?_) (fun h => by cases h)
  refine x_iconst (pc' := 15) rfl rfl ?_
  refine x_istore (pc' := 17) (ls' := [_, _, _, _, _, _, _, _]) rfl rfl rfl rfl ?_
  refine x_iconst (pc' := 18) rfl rfl ?_
  refine x_istore (pc' := 20) (ls' := [_, _, _, _, _, _, _, _]) rfl rfl rfl rfl ?_
  refine x_iload (pc' := 22) rfl rfl rfl ?_
  refine x_iconst (pc' := 23) rfl rfl ?_
  refine x_icmp (a' := 89) (pc' := 26) (z := false) rfl rfl rfl (by decide) (fun h => by cases h) (fun _ => ?_)
  refine x_aload_n (pc' := 27) rfl rfl rfl rfl rfl ?_
  refine x_aload_n (pc' := 28) rfl rfl rfl rfl rfl ?_
  refine x_iload_n (pc' := 29) rfl rfl rfl ?_
  refine x_iload (pc' := 31) rfl rfl rfl ?_
  refine x_cv (ls0 := [_, _, _, _, sJk, sJk]) (rest := []) rfl rfl rfl rfl rfl ?_
  refine x_aload_n (pc' := 1) rfl rfl rfl rfl rfl ?_
  refine x_gI (pc' := 4) (x := 0) rfl rfl rfl (kI_64_0 hc.1) ?_
  refine x_iconst (pc' := 5) rfl rfl ?_
  refine x_imul (pc' := 6) (z := 0) rfl rfl (by decide) ?_
  refine x_iload_n (pc' := 7) rfl rfl rfl ?_
  refine x_iadd (pc' := 8) (z := 1) rfl rfl (by decide) ?_
  refine x_iconst (pc' := 9) rfl rfl ?_
  refine x_imul (pc' := 10) (z := 3) rfl rfl (by decide) ?_
  refine x_iload_n (pc' := 11) rfl rfl rfl ?_
  refine x_iadd (pc' := 12) (z := 3) rfl rfl (by decide) ?_
  refine x_istore (pc' := 14) (ls' := [_, _, _, _, _, _]) rfl rfl rfl rfl ?_
  refine x_iload_n (pc' := 15) rfl rfl rfl ?_
  refine x_if (a' := 36) (pc' := 18) (z := false) rfl rfl rfl (by decide) (fun h => by cases h) (fun _ => ?_)
  refine x_iload_n (pc' := 19) rfl rfl rfl ?_
  refine x_iconst (pc' := 20) rfl rfl ?_
  refine x_icmp (a' := 36) (pc' := 23) (z := false) rfl rfl rfl (by decide) (fun h => by cases h) (fun _ => ?_)
  refine x_iload_n (pc' := 24) rfl rfl rfl ?_
  refine x_if (a' := 36) (pc' := 27) (z := false) rfl rfl rfl (by decide) (fun h => by cases h) (fun _ => ?_)
  refine x_iload_n (pc' := 28) rfl rfl rfl ?_
  refine x_iconst (pc' := 29) rfl rfl ?_
  refine x_icmp (a' := 36) (pc' := 32) (z := false) rfl rfl rfl (by decide) (fun h => by cases h) (fun _ => ?_)
  refine x_iconst (pc' := 33) rfl rfl ?_
  refine x_goto (pc' := 37) rfl rfl ?_
  refine x_istore (pc' := 39) (ls' := [_, _, _, _, _, _]) rfl rfl rfl rfl ?_
  refine x_iload (pc' := 41) rfl rfl rfl ?_
  refine x_if (a' := 67) (pc' := 44) (z := false) rfl rfl rfl (by decide) (fun h => by cases h) (fun _ => ?_)
  refine x_iload (pc' := 46) rfl rfl rfl ?_
  refine x_if (a' := 67) (pc' := 49) (z := false) rfl rfl rfl (by decide) (fun h => by cases h) (fun _ => ?_)
  refine x_iload (pc' := 51) rfl rfl rfl ?_
  refine x_getstatic (pc' := 54) rfl rfl (show 0 < sC t 28 from gst0 hc.1) ?_
  refine x_alen (pc' := 55) (N := 45) rfl rfl rfl (kN_28_0 hc.1) (?_ : X _ _ _ (.inl 45 :: _) _ _)
  refine x_icmp (a' := 67) (pc' := 58) (z := false) rfl rfl rfl (by decide) (fun h => by cases h) (fun _ => ?_)
  refine x_getstatic (pc' := 61) rfl rfl (show 0 < sC t 28 from gst0 hc.1) ?_
  refine x_iload (pc' := 63) rfl rfl rfl ?_
  refine x_iald (pc' := 64) (N := 45) (x := 4) rfl rfl rfl (kN_28_0 hc.1) (io_in (p := 3) (N := 45) (by decide) (by decide)) (Eq.trans (congrArg (sA t 28 0) (nn_io (p := 3) (by decide))) ((hc.1.2.2.2.2.2 3).1.trans rfl)) ?_
  refine x_goto (pc' := 68) rfl rfl ?_
  refine x_reti rfl rfl ?_
  refine sK_i (pc' := 34) rfl ?_
  refine x_istore (pc' := 36) (ls' := [_, _, _, _, _, _, _, _]) rfl rfl rfl rfl ?_
  refine x_iload (pc' := 38) rfl rfl rfl ?_
  refine x_if (a' := 83) (pc' := 41) (z := false) rfl rfl rfl (by decide) (fun h => by cases h) (fun _ => ?_)
  refine x_aload_n (pc' := 42) rfl rfl rfl rfl rfl ?_
  refine x_iload (pc' := 44) rfl rfl rfl ?_
  refine x_iload_n (pc' := 45) rfl rfl rfl ?_
  refine x_cv (ls0 := [_, _, _, sJk]) (rest := []) rfl rfl rfl rfl rfl ?_
  refine x_iload_n (pc' := 1) rfl rfl rfl ?_
  refine x_abs (pc' := 4) (z := 4) rfl rfl rfl (by decide) ?_
  refine x_iconst (pc' := 5) rfl rfl ?_
  refine x_isub (pc' := 6) (z := 3) rfl rfl (by decide) ?_
  refine x_istore_n (pc' := 7) (ls' := [_, _, _, _]) rfl rfl rfl rfl ?_
  refine x_iload_n (pc' := 8) rfl rfl rfl ?_
  refine x_if (a' := 33) (pc' := 11) (z := false) rfl rfl rfl (by decide) (fun h => by cases h) (fun _ => ?_)
  refine x_iload_n (pc' := 12) rfl rfl rfl ?_
  refine x_aload_n (pc' := 13) rfl rfl rfl rfl rfl ?_
  refine x_gR (pc' := 16) (r := (some 0)) rfl rfl rfl (kR_640_0 hc.1) ?_
  refine x_alen (pc' := 17) (N := 5) rfl rfl rfl (kN_24_0 hc.1) (?_ : X _ _ _ (.inl 5 :: _) _ _)
  refine x_icmp (a' := 33) (pc' := 20) (z := false) rfl rfl rfl (by decide) (fun h => by cases h) (fun _ => ?_)
  refine x_aload_n (pc' := 21) rfl rfl rfl rfl rfl ?_
  refine x_gR (pc' := 24) (r := (some 0)) rfl rfl rfl (kR_640_0 hc.1) ?_
  refine x_iload_n (pc' := 25) rfl rfl rfl ?_
  refine x_aald (pc' := 26) (N := 5) (k' := 1) (r := (some 3)) rfl rfl rfl (kN_24_0 hc.1) (io_in (p := 3) (N := 5) (by decide) (by decide)) (Eq.trans (congrArg (sE t 24 0) (nn_io (p := 3) (by decide))) (kB hc.1 (by decide))) ?_
  refine x_gI (pc' := 29) (x := (mA M 0 3)) rfl rfl rfl (kA hM rfl (show 3 < 5 by decide)) ?_
  refine x_iconst (pc' := 30) rfl rfl ?_
  have J23 : ((sK 79 81 45 [.inr (.inr (10, (some 0))), .inr (.inr (1, (some 0))), .inl 1, .inl (bz true), .inl 0, .inl 0, .inl 4, sJk] [] Q) : sRs → sT → Prop) (.inl (some (.inr (.inr (8, (bif (decide ((mA M 0 3) = 2)) then (bsF M n 3 false) else none)))))) t := by
    refine sK_i (pc' := 48) rfl ?_
    refine x_astore (pc' := 50) (ls' := [_, _, _, _, _, _, _, _]) rfl rfl rfl rfl rfl ?_
    refine x_aload (pc' := 52) rfl rfl rfl rfl rfl ?_
    refine x_ifnonnull (a' := 59) (pc' := 55) rfl rfl rfl rfl (fun j0 q25 => ?_) (fun q25 => ?_)
    · refine x_iload (pc' := 61) rfl rfl rfl ?_
      refine x_iload (pc' := 63) rfl rfl rfl ?_
      refine x_if (a' := 74) (pc' := 66) (z := false) rfl rfl rfl (by decide) (fun h => by cases h) (fun _ => ?_)
      refine x_aload (pc' := 68) rfl rfl rfl rfl (ovD_s q25) ?_
      refine x_gI (pc' := 71) (x := (mA M 14 (ovD (bif (decide ((mA M 0 3) = 2)) then (bsF M n 3 false) else none)))) rfl rfl rfl ((kA hM rfl (ovD_lt (obd_c bsF_lt obd_n) q25)).trans (congrFun (Fc.f14 (Fc.refl _)) _)) ?_
      refine x_goto (pc' := 80) rfl rfl ?_
      refine x_iadd (pc' := 81) (z := (0 + (mA M 14 (ovD (bif (decide ((mA M 0 3) = 2)) then (bsF M n 3 false) else none))))) rfl rfl rfl ?_
      refine x_istore (pc' := 83) (ls' := [_, _, _, _, _, _, _, _]) rfl rfl rfl rfl ?_
      refine x_iinc (pc' := 86) (y := 1) (ls' := [_, _, _, _, _, _, _, _]) rfl rfl rfl rfl rfl ?_
      refine x_goto (pc' := 20) rfl rfl ?_
      refine x_iload (pc' := 22) rfl rfl rfl ?_
      refine x_iconst (pc' := 23) rfl rfl ?_
      refine x_icmp (a' := 89) (pc' := 26) (z := false) rfl rfl rfl (by decide) (fun h => by cases h) (fun _ => ?_)
      refine x_aload_n (pc' := 27) rfl rfl rfl rfl rfl ?_
      refine x_aload_n (pc' := 28) rfl rfl rfl rfl rfl ?_
      refine x_iload_n (pc' := 29) rfl rfl rfl ?_
      refine x_iload (pc' := 31) rfl rfl rfl ?_
      refine x_cv (ls0 := [_, _, _, _, sJk, sJk]) (rest := []) rfl rfl rfl rfl rfl ?_
      refine x_aload_n (pc' := 1) rfl rfl rfl rfl rfl ?_
      refine x_gI (pc' := 4) (x := 0) rfl rfl rfl (kI_64_0 hc.1) ?_
      refine x_iconst (pc' := 5) rfl rfl ?_
      refine x_imul (pc' := 6) (z := 0) rfl rfl (by decide) ?_
      refine x_iload_n (pc' := 7) rfl rfl rfl ?_
      refine x_iadd (pc' := 8) (z := 1) rfl rfl (by decide) ?_
      refine x_iconst (pc' := 9) rfl rfl ?_
      refine x_imul (pc' := 10) (z := 3) rfl rfl (by decide) ?_
      refine x_iload_n (pc' := 11) rfl rfl rfl ?_
      refine x_iadd (pc' := 12) (z := 4) rfl rfl (by decide) ?_
      refine x_istore (pc' := 14) (ls' := [_, _, _, _, _, _]) rfl rfl rfl rfl ?_
      refine x_iload_n (pc' := 15) rfl rfl rfl ?_
      refine x_if (a' := 36) (pc' := 18) (z := false) rfl rfl rfl (by decide) (fun h => by cases h) (fun _ => ?_)
      refine x_iload_n (pc' := 19) rfl rfl rfl ?_
      refine x_iconst (pc' := 20) rfl rfl ?_
      refine x_icmp (a' := 36) (pc' := 23) (z := false) rfl rfl rfl (by decide) (fun h => by cases h) (fun _ => ?_)
      refine x_iload_n (pc' := 24) rfl rfl rfl ?_
      refine x_if (a' := 36) (pc' := 27) (z := false) rfl rfl rfl (by decide) (fun h => by cases h) (fun _ => ?_)
      refine x_iload_n (pc' := 28) rfl rfl rfl ?_
      refine x_iconst (pc' := 29) rfl rfl ?_
      refine x_icmp (a' := 36) (pc' := 32) (z := false) rfl rfl rfl (by decide) (fun h => by cases h) (fun _ => ?_)
      refine x_iconst (pc' := 33) rfl rfl ?_
      refine x_goto (pc' := 37) rfl rfl ?_
      refine x_istore (pc' := 39) (ls' := [_, _, _, _, _, _]) rfl rfl rfl rfl ?_
      refine x_iload (pc' := 41) rfl rfl rfl ?_
      refine x_if (a' := 67) (pc' := 44) (z := false) rfl rfl rfl (by decide) (fun h => by cases h) (fun _ => ?_)
      refine x_iload (pc' := 46) rfl rfl rfl ?_
      refine x_if (a' := 67) (pc' := 49) (z := false) rfl rfl rfl (by decide) (fun h => by cases h) (fun _ => ?_)
      refine x_iload (pc' := 51) rfl rfl rfl ?_
      refine x_getstatic (pc' := 54) rfl rfl (show 0 < sC t 28 from gst0 hc.1) ?_
      refine x_alen (pc' := 55) (N := 45) rfl rfl rfl (kN_28_0 hc.1) (?_ : X _ _ _ (.inl 45 :: _) _ _)
      refine x_icmp (a' := 67) (pc' := 58) (z := false) rfl rfl rfl (by decide) (fun h => by cases h) (fun _ => ?_)
      refine x_getstatic (pc' := 61) rfl rfl (show 0 < sC t 28 from gst0 hc.1) ?_
      refine x_iload (pc' := 63) rfl rfl rfl ?_
      refine x_iald (pc' := 64) (N := 45) (x := 2) rfl rfl rfl (kN_28_0 hc.1) (io_in (p := 4) (N := 45) (by decide) (by decide)) (Eq.trans (congrArg (sA t 28 0) (nn_io (p := 4) (by decide))) ((hc.1.2.2.2.2.2 4).1.trans rfl)) ?_
      refine x_goto (pc' := 68) rfl rfl ?_
      refine x_reti rfl rfl ?_
      refine sK_i (pc' := 34) rfl ?_
      refine x_istore (pc' := 36) (ls' := [_, _, _, _, _, _, _, _]) rfl rfl rfl rfl ?_
      refine x_iload (pc' := 38) rfl rfl rfl ?_
      refine x_if (a' := 83) (pc' := 41) (z := false) rfl rfl rfl (by decide) (fun h => by cases h) (fun _ => ?_)
      refine x_aload_n (pc' := 42) rfl rfl rfl rfl rfl ?_
      refine x_iload (pc' := 44) rfl rfl rfl ?_
      refine x_iload_n (pc' := 45) rfl rfl rfl ?_
      refine x_cv (ls0 := [_, _, _, sJk]) (rest := []) rfl rfl rfl rfl rfl ?_
      refine x_iload_n (pc' := 1) rfl rfl rfl ?_
      refine x_abs (pc' := 4) (z := 2) rfl rfl rfl (by decide) ?_
      refine x_iconst (pc' := 5) rfl rfl ?_
      refine x_isub (pc' := 6) (z := 1) rfl rfl (by decide) ?_
      refine x_istore_n (pc' := 7) (ls' := [_, _, _, _]) rfl rfl rfl rfl ?_
      refine x_iload_n (pc' := 8) rfl rfl rfl ?_
      refine x_if (a' := 33) (pc' := 11) (z := false) rfl rfl rfl (by decide) (fun h => by cases h) (fun _ => ?_)
      refine x_iload_n (pc' := 12) rfl rfl rfl ?_
      refine x_aload_n (pc' := 13) rfl rfl rfl rfl rfl ?_
      refine x_gR (pc' := 16) (r := (some 0)) rfl rfl rfl (kR_640_0 hc.1) ?_
      refine x_alen (pc' := 17) (N := 5) rfl rfl rfl (kN_24_0 hc.1) (?_ : X _ _ _ (.inl 5 :: _) _ _)
      refine x_icmp (a' := 33) (pc' := 20) (z := false) rfl rfl rfl (by decide) (fun h => by cases h) (fun _ => ?_)
      refine x_aload_n (pc' := 21) rfl rfl rfl rfl rfl ?_
      refine x_gR (pc' := 24) (r := (some 0)) rfl rfl rfl (kR_640_0 hc.1) ?_
      refine x_iload_n (pc' := 25) rfl rfl rfl ?_
      refine x_aald (pc' := 26) (N := 5) (k' := 1) (r := (some 1)) rfl rfl rfl (kN_24_0 hc.1) (io_in (p := 1) (N := 5) (by decide) (by decide)) (Eq.trans (congrArg (sE t 24 0) (nn_io (p := 1) (by decide))) (kB hc.1 (by decide))) ?_
      refine x_gI (pc' := 29) (x := (mA M 0 1)) rfl rfl rfl (kA hM rfl (show 1 < 5 by decide)) ?_
      refine x_iconst (pc' := 30) rfl rfl ?_
      have J41 : ((sK 79 81 45 [.inr (.inr (10, (some 0))), .inr (.inr (1, (some 0))), .inl 1, .inl (bz true), .inl (0 + (mA M 14 (ovD (bif (decide ((mA M 0 3) = 2)) then (bsF M n 3 false) else none)))), .inl 1, .inl 2, .inr (.inr (8, (bif (decide ((mA M 0 3) = 2)) then (bsF M n 3 false) else none)))] [] Q) : sRs → sT → Prop) (.inl (some (.inr (.inr (8, (bif (decide ((mA M 0 1) = 2)) then (bsF M n 1 false) else none)))))) t := by
        refine sK_i (pc' := 48) rfl ?_
        refine x_astore (pc' := 50) (ls' := [_, _, _, _, _, _, _, _]) rfl rfl rfl rfl rfl ?_
        refine x_aload (pc' := 52) rfl rfl rfl rfl rfl ?_
        refine x_ifnonnull (a' := 59) (pc' := 55) rfl rfl rfl rfl (fun j1 q43 => ?_) (fun q43 => ?_)
        · refine x_iload (pc' := 61) rfl rfl rfl ?_
          refine x_iload (pc' := 63) rfl rfl rfl ?_
          refine x_if (a' := 74) (pc' := 66) (z := false) rfl rfl rfl (by decide) (fun h => by cases h) (fun _ => ?_)
          refine x_aload (pc' := 68) rfl rfl rfl rfl (ovD_s q43) ?_
          refine x_gI (pc' := 71) (x := (mA M 14 (ovD (bif (decide ((mA M 0 1) = 2)) then (bsF M n 1 false) else none)))) rfl rfl rfl ((kA hM rfl (ovD_lt (obd_c bsF_lt obd_n) q43)).trans (congrFun (Fc.f14 (Fc.refl _)) _)) ?_
          refine x_goto (pc' := 80) rfl rfl ?_
          refine x_iadd (pc' := 81) (z := ((0 + (mA M 14 (ovD (bif (decide ((mA M 0 3) = 2)) then (bsF M n 3 false) else none)))) + (mA M 14 (ovD (bif (decide ((mA M 0 1) = 2)) then (bsF M n 1 false) else none))))) rfl rfl rfl ?_
          refine x_istore (pc' := 83) (ls' := [_, _, _, _, _, _, _, _]) rfl rfl rfl rfl ?_
          refine x_iinc (pc' := 86) (y := 2) (ls' := [_, _, _, _, _, _, _, _]) rfl rfl rfl rfl rfl ?_
          refine x_goto (pc' := 20) rfl rfl ?_
          refine x_iload (pc' := 22) rfl rfl rfl ?_
          refine x_iconst (pc' := 23) rfl rfl ?_
          refine x_icmp (a' := 89) (pc' := 26) (z := false) rfl rfl rfl (by decide) (fun h => by cases h) (fun _ => ?_)
          refine x_aload_n (pc' := 27) rfl rfl rfl rfl rfl ?_
          refine x_aload_n (pc' := 28) rfl rfl rfl rfl rfl ?_
          refine x_iload_n (pc' := 29) rfl rfl rfl ?_
          refine x_iload (pc' := 31) rfl rfl rfl ?_
          refine x_cv (ls0 := [_, _, _, _, sJk, sJk]) (rest := []) rfl rfl rfl rfl rfl ?_
          refine x_aload_n (pc' := 1) rfl rfl rfl rfl rfl ?_
          refine x_gI (pc' := 4) (x := 0) rfl rfl rfl (kI_64_0 hc.1) ?_
          refine x_iconst (pc' := 5) rfl rfl ?_
          refine x_imul (pc' := 6) (z := 0) rfl rfl (by decide) ?_
          refine x_iload_n (pc' := 7) rfl rfl rfl ?_
          refine x_iadd (pc' := 8) (z := 1) rfl rfl (by decide) ?_
          refine x_iconst (pc' := 9) rfl rfl ?_
          refine x_imul (pc' := 10) (z := 3) rfl rfl (by decide) ?_
          refine x_iload_n (pc' := 11) rfl rfl rfl ?_
          refine x_iadd (pc' := 12) (z := 5) rfl rfl (by decide) ?_
          refine x_istore (pc' := 14) (ls' := [_, _, _, _, _, _]) rfl rfl rfl rfl ?_
          refine x_iload_n (pc' := 15) rfl rfl rfl ?_
          refine x_if (a' := 36) (pc' := 18) (z := false) rfl rfl rfl (by decide) (fun h => by cases h) (fun _ => ?_)
          refine x_iload_n (pc' := 19) rfl rfl rfl ?_
          refine x_iconst (pc' := 20) rfl rfl ?_
          refine x_icmp (a' := 36) (pc' := 23) (z := false) rfl rfl rfl (by decide) (fun h => by cases h) (fun _ => ?_)
          refine x_iload_n (pc' := 24) rfl rfl rfl ?_
          refine x_if (a' := 36) (pc' := 27) (z := false) rfl rfl rfl (by decide) (fun h => by cases h) (fun _ => ?_)
          refine x_iload_n (pc' := 28) rfl rfl rfl ?_
          refine x_iconst (pc' := 29) rfl rfl ?_
          refine x_icmp (a' := 36) (pc' := 32) (z := false) rfl rfl rfl (by decide) (fun h => by cases h) (fun _ => ?_)
          refine x_iconst (pc' := 33) rfl rfl ?_
          refine x_goto (pc' := 37) rfl rfl ?_
          refine x_istore (pc' := 39) (ls' := [_, _, _, _, _, _]) rfl rfl rfl rfl ?_
          refine x_iload (pc' := 41) rfl rfl rfl ?_
          refine x_if (a' := 67) (pc' := 44) (z := false) rfl rfl rfl (by decide) (fun h => by cases h) (fun _ => ?_)
          refine x_iload (pc' := 46) rfl rfl rfl ?_
          refine x_if (a' := 67) (pc' := 49) (z := false) rfl rfl rfl (by decide) (fun h => by cases h) (fun _ => ?_)
          refine x_iload (pc' := 51) rfl rfl rfl ?_
          refine x_getstatic (pc' := 54) rfl rfl (show 0 < sC t 28 from gst0 hc.1) ?_
          refine x_alen (pc' := 55) (N := 45) rfl rfl rfl (kN_28_0 hc.1) (?_ : X _ _ _ (.inl 45 :: _) _ _)
          refine x_icmp (a' := 67) (pc' := 58) (z := false) rfl rfl rfl (by decide) (fun h => by cases h) (fun _ => ?_)
          refine x_getstatic (pc' := 61) rfl rfl (show 0 < sC t 28 from gst0 hc.1) ?_
          refine x_iload (pc' := 63) rfl rfl rfl ?_
          refine x_iald (pc' := 64) (N := 45) (x := 0) rfl rfl rfl (kN_28_0 hc.1) (io_in (p := 5) (N := 45) (by decide) (by decide)) (Eq.trans (congrArg (sA t 28 0) (nn_io (p := 5) (by decide))) ((hc.1.2.2.2.2.2 5).1.trans rfl)) ?_
          refine x_goto (pc' := 68) rfl rfl ?_
          refine x_reti rfl rfl ?_
          refine sK_i (pc' := 34) rfl ?_
          refine x_istore (pc' := 36) (ls' := [_, _, _, _, _, _, _, _]) rfl rfl rfl rfl ?_
          refine x_iload (pc' := 38) rfl rfl rfl ?_
          refine x_if (a' := 83) (pc' := 41) (z := true) rfl rfl rfl (by decide) (fun _ => ?_) (fun h => by cases h)
          refine x_iinc (pc' := 86) (y := 3) (ls' := [_, _, _, _, _, _, _, _]) rfl rfl rfl rfl rfl ?_
          refine x_goto (pc' := 20) rfl rfl ?_
          refine x_iload (pc' := 22) rfl rfl rfl ?_
          refine x_iconst (pc' := 23) rfl rfl ?_
          refine x_icmp (a' := 89) (pc' := 26) (z := true) rfl rfl rfl (by decide) (fun _ => ?_) (fun h => by cases h)
          refine x_iload (pc' := 91) rfl rfl rfl ?_
          refine x_reti rfl rfl ?_
          exact qv (by simp only [cp01tF, (isSome_s q25), (isSome_s q43), cd_t, cd_f]) (q )
        · refine x_sipush (pc' := 58) rfl rfl ?_
          refine x_reti rfl rfl ?_
          exact qv (by simp only [cp01tF, (isSome_s q25), (isSome_n q43), cd_t, cd_f]) (q )
      refine x_icmp (a' := 35) (pc' := 33) (z := decide ((mA M 0 1) = 2)) rfl rfl rfl rfl (fun q38 => ?_) (fun q38 => ?_)
      · refine x_aload_n (pc' := 36) rfl rfl rfl rfl rfl ?_
        refine x_gR (pc' := 39) (r := (some 0)) rfl rfl rfl (kR_640_0 hc.1) ?_
        refine x_iload_n (pc' := 40) rfl rfl rfl ?_
        refine x_aald (pc' := 41) (N := 5) (k' := 1) (r := (some 1)) rfl rfl rfl (kN_24_0 hc.1) (io_in (p := 1) (N := 5) (by decide) (by decide)) (Eq.trans (congrArg (sE t 24 0) (nn_io (p := 1) (by decide))) (kB hc.1 (by decide))) ?_
        refine x_iload_n (pc' := 42) rfl rfl rfl ?_
        refine x_if (a' := 57) (pc' := 45) (z := false) rfl rfl rfl (by decide) (fun h => by cases h) (fun _ => ?_)
        refine x_iload_n (pc' := 46) rfl rfl rfl ?_
        refine x_if (a' := 53) (pc' := 49) (z := true) rfl rfl rfl (by decide) (fun _ => ?_) (fun h => by cases h)
        refine x_iconst (pc' := 54) rfl rfl ?_
        refine x_goto (pc' := 58) rfl rfl ?_
        refine x_cv (ls0 := [_, _]) (rest := []) rfl rfl rfl rfl rfl ?_
        refine x_iload_n (pc' := 1) rfl rfl rfl ?_
        refine x_if (a' := 11) (pc' := 4) (z := true) rfl rfl rfl (by decide) (fun _ => ?_) (fun h => by cases h)
        refine x_aload_n (pc' := 12) rfl rfl rfl rfl rfl ?_
        refine x_gR (pc' := 15) (r := (bsF M n 1 false)) rfl rfl rfl (bs_70 hC (Fc.ri (Fc.refl _) hR) hM (by decide)) ?_
        refine x_reta rfl rfl ?_
        refine sK_i (pc' := 61) rfl ?_
        refine x_reta rfl rfl ?_
        ((try rw [q38] at J41); (try rw [q38]); (try simp only [cd_t, cd_f, nt_t, nt_f, an_t, an_f, or_t, or_f] at J41); (try simp only [cd_t, cd_f, nt_t, nt_f, an_t, an_f, or_t, or_f]); exact J41)
      · refine x_null (pc' := 34) rfl rfl rfl ?_
        refine x_reta rfl rfl ?_
        ((try rw [q38] at J41); (try rw [q38]); (try simp only [cd_t, cd_f, nt_t, nt_f, an_t, an_f, or_t, or_f] at J41); (try simp only [cd_t, cd_f, nt_t, nt_f, an_t, an_f, or_t, or_f]); exact J41)
    · refine x_sipush (pc' := 58) rfl rfl ?_
      refine x_reti rfl rfl ?_
      exact qv (by simp only [cp01tF, (isSome_n q25), cd_t, cd_f]) (q )
  refine x_icmp (a' := 35) (pc' := 33) (z := decide ((mA M 0 3) = 2)) rfl rfl rfl rfl (fun q20 => ?_) (fun q20 => ?_)
  · refine x_aload_n (pc' := 36) rfl rfl rfl rfl rfl ?_
    refine x_gR (pc' := 39) (r := (some 0)) rfl rfl rfl (kR_640_0 hc.1) ?_
    refine x_iload_n (pc' := 40) rfl rfl rfl ?_
    refine x_aald (pc' := 41) (N := 5) (k' := 1) (r := (some 3)) rfl rfl rfl (kN_24_0 hc.1) (io_in (p := 3) (N := 5) (by decide) (by decide)) (Eq.trans (congrArg (sE t 24 0) (nn_io (p := 3) (by decide))) (kB hc.1 (by decide))) ?_
    refine x_iload_n (pc' := 42) rfl rfl rfl ?_
    refine x_if (a' := 57) (pc' := 45) (z := false) rfl rfl rfl (by decide) (fun h => by cases h) (fun _ => ?_)
    refine x_iload_n (pc' := 46) rfl rfl rfl ?_
    refine x_if (a' := 53) (pc' := 49) (z := true) rfl rfl rfl (by decide) (fun _ => ?_) (fun h => by cases h)
    refine x_iconst (pc' := 54) rfl rfl ?_
    refine x_goto (pc' := 58) rfl rfl ?_
    refine x_cv (ls0 := [_, _]) (rest := []) rfl rfl rfl rfl rfl ?_
    refine x_iload_n (pc' := 1) rfl rfl rfl ?_
    refine x_if (a' := 11) (pc' := 4) (z := true) rfl rfl rfl (by decide) (fun _ => ?_) (fun h => by cases h)
    refine x_aload_n (pc' := 12) rfl rfl rfl rfl rfl ?_
    refine x_gR (pc' := 15) (r := (bsF M n 3 false)) rfl rfl rfl (bs_70 hC (Fc.ri (Fc.refl _) hR) hM (by decide)) ?_
    refine x_reta rfl rfl ?_
    refine sK_i (pc' := 61) rfl ?_
    refine x_reta rfl rfl ?_
    ((try rw [q20] at J23); (try rw [q20]); (try simp only [cd_t, cd_f, nt_t, nt_f, an_t, an_f, or_t, or_f] at J23); (try simp only [cd_t, cd_f, nt_t, nt_f, an_t, an_f, or_t, or_f]); exact J23)
  · refine x_null (pc' := 34) rfl rfl rfl ?_
    refine x_reta rfl rfl ?_
    ((try rw [q20] at J23); (try rw [q20]); (try simp only [cd_t, cd_f, nt_t, nt_f, an_t, an_f, or_t, or_f] at J23); (try simp only [cd_t, cd_f, nt_t, nt_f, an_t, an_f, or_t, or_f]); exact J23)
def cp02fF (M : sM) (n : Nat) : Int32 := (bif (bif (decide ((mA M 0 3) = 2)) then (bsF M n 3 true) else none).isSome then (bif (bif (decide ((mA M 0 4) = 2)) then (bsF M n 4 true) else none).isSome then (bif (bif (decide ((mA M 0 2) = 2)) then (bsF M n 2 true) else none).isSome then (((0 + (mA M 14 (ovD (bif (decide ((mA M 0 3) = 2)) then (bsF M n 3 true) else none)))) + (mA M 14 (ovD (bif (decide ((mA M 0 4) = 2)) then (bsF M n 4 true) else none)))) + (mA M 14 (ovD (bif (decide ((mA M 0 2) = 2)) then (bsF M n 2 true) else none)))) else (-10000)) else (-10000)) else (-10000))
set_option maxHeartbeats 4000000 in
set_option maxRecDepth 10000 in
theorem c81_02f {t : sT} {Q : sRs → sT → Prop} {M : sM} {n : Nat} {T : Nat}
    (hM : Rl t M n T)
    (hc : Sf t M n T)
    (hR : Ri M n)
    (hC : rlC t M n)
    (q : Q (.inl (some (.inl (cp02fF M n)))) t) :
    X 81 0 [.inr (.inr (10, (some 0))), .inr (.inr (1, (some 0))), .inl 2, .inl (bz false), sJk, sJk, sJk, sJk] [] t Q := by
  refine x_aload_n (pc' := 1) rfl rfl rfl rfl rfl ?_
  refine x_aload_n (pc' := 2) rfl rfl rfl rfl rfl ?_
  refine x_iload_n (pc' := 3) rfl rfl rfl ?_
  refine x_iconst (pc' := 4) rfl rfl ?_
  refine x_cv (ls0 := [_, _, _, _, sJk, sJk]) (rest := []) rfl rfl rfl rfl rfl ?_
  refine x_aload_n (pc' := 1) rfl rfl rfl rfl rfl ?_
  refine x_gI (pc' := 4) (x := 0) rfl rfl rfl (kI_64_0 hc.1) ?_
  refine x_iconst (pc' := 5) rfl rfl ?_
  refine x_imul (pc' := 6) (z := 0) rfl rfl (by decide) ?_
  refine x_iload_n (pc' := 7) rfl rfl rfl ?_
  refine x_iadd (pc' := 8) (z := 2) rfl rfl (by decide) ?_
  refine x_iconst (pc' := 9) rfl rfl ?_
  refine x_imul (pc' := 10) (z := 6) rfl rfl (by decide) ?_
  refine x_iload_n (pc' := 11) rfl rfl rfl ?_
  refine x_iadd (pc' := 12) (z := 6) rfl rfl (by decide) ?_
  refine x_istore (pc' := 14) (ls' := [_, _, _, _, _, _]) rfl rfl rfl rfl ?_
  refine x_iload_n (pc' := 15) rfl rfl rfl ?_
  refine x_if (a' := 36) (pc' := 18) (z := false) rfl rfl rfl (by decide) (fun h => by cases h) (fun _ => ?_)
  refine x_iload_n (pc' := 19) rfl rfl rfl ?_
  refine x_iconst (pc' := 20) rfl rfl ?_
  refine x_icmp (a' := 36) (pc' := 23) (z := false) rfl rfl rfl (by decide) (fun h => by cases h) (fun _ => ?_)
  refine x_iload_n (pc' := 24) rfl rfl rfl ?_
  refine x_if (a' := 36) (pc' := 27) (z := false) rfl rfl rfl (by decide) (fun h => by cases h) (fun _ => ?_)
  refine x_iload_n (pc' := 28) rfl rfl rfl ?_
  refine x_iconst (pc' := 29) rfl rfl ?_
  refine x_icmp (a' := 36) (pc' := 32) (z := false) rfl rfl rfl (by decide) (fun h => by cases h) (fun _ => ?_)
  refine x_iconst (pc' := 33) rfl rfl ?_
  refine x_goto (pc' := 37) rfl rfl ?_
  refine x_istore (pc' := 39) (ls' := [_, _, _, _, _, _]) rfl rfl rfl rfl ?_
  refine x_iload (pc' := 41) rfl rfl rfl ?_
  refine x_if (a' := 67) (pc' := 44) (z := false) rfl rfl rfl (by decide) (fun h => by cases h) (fun _ => ?_)
  refine x_iload (pc' := 46) rfl rfl rfl ?_
  refine x_if (a' := 67) (pc' := 49) (z := false) rfl rfl rfl (by decide) (fun h => by cases h) (fun _ => ?_)
  refine x_iload (pc' := 51) rfl rfl rfl ?_
  refine x_getstatic (pc' := 54) rfl rfl (show 0 < sC t 28 from gst0 hc.1) ?_
  refine x_alen (pc' := 55) (N := 45) rfl rfl rfl (kN_28_0 hc.1) (?_ : X _ _ _ (.inl 45 :: _) _ _)
  refine x_icmp (a' := 67) (pc' := 58) (z := false) rfl rfl rfl (by decide) (fun h => by cases h) (fun _ => ?_)
  refine x_getstatic (pc' := 61) rfl rfl (show 0 < sC t 28 from gst0 hc.1) ?_
  refine x_iload (pc' := 63) rfl rfl rfl ?_
  refine x_iald (pc' := 64) (N := 45) (x := 4) rfl rfl rfl (kN_28_0 hc.1) (io_in (p := 6) (N := 45) (by decide) (by decide)) (Eq.trans (congrArg (sA t 28 0) (nn_io (p := 6) (by decide))) ((hc.1.2.2.2.2.2 6).1.trans rfl)) ?_
  refine x_goto (pc' := 68) rfl rfl ?_
  refine x_reti rfl rfl ?_
  refine sK_i (pc' := 7) rfl ?_
  refine x_if (a' := 14) (pc' := 10) (z := true) rfl rfl rfl (by decide) (fun _ => ?_) (fun h => by cases h)
  refine x_iconst (pc' := 15) rfl rfl ?_
  refine x_istore (pc' := 17) (ls' := [_, _, _, _, _, _, _, _]) rfl rfl rfl rfl ?_
  refine x_iconst (pc' := 18) rfl rfl ?_
  refine x_istore (pc' := 20) (ls' := [_, _, _, _, _, _, _, _]) rfl rfl rfl rfl ?_
  refine x_iload (pc' := 22) rfl rfl rfl ?_
  refine x_iconst (pc' := 23) rfl rfl ?_
  refine x_icmp (a' := 89) (pc' := 26) (z := false) rfl rfl rfl (by decide) (fun h => by cases h) (fun _ => ?_)
  refine x_aload_n (pc' := 27) rfl rfl rfl rfl rfl ?_
  refine x_aload_n (pc' := 28) rfl rfl rfl rfl rfl ?_
  refine x_iload_n (pc' := 29) rfl rfl rfl ?_
  refine x_iload (pc' := 31) rfl rfl rfl ?_
  refine x_cv (ls0 := [_, _, _, _, sJk, sJk]) (rest := []) rfl rfl rfl rfl rfl ?_
  refine x_aload_n (pc' := 1) rfl rfl rfl rfl rfl ?_
  refine x_gI (pc' := 4) (x := 0) rfl rfl rfl (kI_64_0 hc.1) ?_
  refine x_iconst (pc' := 5) rfl rfl ?_
  refine x_imul (pc' := 6) (z := 0) rfl rfl (by decide) ?_
  refine x_iload_n (pc' := 7) rfl rfl rfl ?_
  refine x_iadd (pc' := 8) (z := 2) rfl rfl (by decide) ?_
  refine x_iconst (pc' := 9) rfl rfl ?_
  refine x_imul (pc' := 10) (z := 6) rfl rfl (by decide) ?_
  refine x_iload_n (pc' := 11) rfl rfl rfl ?_
  refine x_iadd (pc' := 12) (z := 6) rfl rfl (by decide) ?_
  refine x_istore (pc' := 14) (ls' := [_, _, _, _, _, _]) rfl rfl rfl rfl ?_
  refine x_iload_n (pc' := 15) rfl rfl rfl ?_
  refine x_if (a' := 36) (pc' := 18) (z := false) rfl rfl rfl (by decide) (fun h => by cases h) (fun _ => ?_)
  refine x_iload_n (pc' := 19) rfl rfl rfl ?_
  refine x_iconst (pc' := 20) rfl rfl ?_
  refine x_icmp (a' := 36) (pc' := 23) (z := false) rfl rfl rfl (by decide) (fun h => by cases h) (fun _ => ?_)
  refine x_iload_n (pc' := 24) rfl rfl rfl ?_
  refine x_if (a' := 36) (pc' := 27) (z := false) rfl rfl rfl (by decide) (fun h => by cases h) (fun _ => ?_)
  refine x_iload_n (pc' := 28) rfl rfl rfl ?_
  refine x_iconst (pc' := 29) rfl rfl ?_
  refine x_icmp (a' := 36) (pc' := 32) (z := false) rfl rfl rfl (by decide) (fun h => by cases h) (fun _ => ?_)
  refine x_iconst (pc' := 33) rfl rfl ?_
  refine x_goto (pc' := 37) rfl rfl ?_
  refine x_istore (pc' := 39) (ls' := [_, _, _, _, _, _]) rfl rfl rfl rfl ?_
  refine x_iload (pc' := 41) rfl rfl rfl ?_
  refine x_if (a' := 67) (pc' := 44) (z := false) rfl rfl rfl (by decide) (fun h => by cases h) (fun _ => ?_)
  refine x_iload (pc' := 46) rfl rfl rfl ?_
  refine x_if (a' := 67) (pc' := 49) (z := false) rfl rfl rfl (by decide) (fun h => by cases h) (fun _ => ?_)
  refine x_iload (pc' := 51) rfl rfl rfl ?_
  refine x_getstatic (pc' := 54) rfl rfl (show 0 < sC t 28 from gst0 hc.1) ?_
  refine x_alen (pc' := 55) (N := 45) rfl rfl rfl (kN_28_0 hc.1) (?_ : X _ _ _ (.inl 45 :: _) _ _)
  refine x_icmp (a' := 67) (pc' := 58) (z := false) rfl rfl rfl (by decide) (fun h => by cases h) (fun _ => ?_)
  refine x_getstatic (pc' := 61) rfl rfl (show 0 < sC t 28 from gst0 hc.1) ?_
  refine x_iload (pc' := 63) rfl rfl rfl ?_
  refine x_iald (pc' := 64) (N := 45) (x := 4) rfl rfl rfl (kN_28_0 hc.1) (io_in (p := 6) (N := 45) (by decide) (by decide)) (Eq.trans (congrArg (sA t 28 0) (nn_io (p := 6) (by decide))) ((hc.1.2.2.2.2.2 6).1.trans rfl)) ?_
  refine x_goto (pc' := 68) rfl rfl ?_
  refine x_reti rfl rfl ?_
  refine sK_i (pc' := 34) rfl ?_
  refine x_istore (pc' := 36) (ls' := [_, _, _, _, _, _, _, _]) rfl rfl rfl rfl ?_
  refine x_iload (pc' := 38) rfl rfl rfl ?_
  refine x_if (a' := 83) (pc' := 41) (z := false) rfl rfl rfl (by decide) (fun h => by cases h) (fun _ => ?_)
  refine x_aload_n (pc' := 42) rfl rfl rfl rfl rfl ?_
  refine x_iload (pc' := 44) rfl rfl rfl ?_
  refine x_iload_n (pc' := 45) rfl rfl rfl ?_
  refine x_cv (ls0 := [_, _, _, sJk]) (rest := []) rfl rfl rfl rfl rfl ?_
  refine x_iload_n (pc' := 1) rfl rfl rfl ?_
  refine x_abs (pc' := 4) (z := 4) rfl rfl rfl (by decide) ?_
  refine x_iconst (pc' := 5) rfl rfl ?_
  refine x_isub (pc' := 6) (z := 3) rfl rfl (by decide) ?_
  refine x_istore_n (pc' := 7) (ls' := [_, _, _, _]) rfl rfl rfl rfl ?_
  refine x_iload_n (pc' := 8) rfl rfl rfl ?_
  refine x_if (a' := 33) (pc' := 11) (z := false) rfl rfl rfl (by decide) (fun h => by cases h) (fun _ => ?_)
  refine x_iload_n (pc' := 12) rfl rfl rfl ?_
  refine x_aload_n (pc' := 13) rfl rfl rfl rfl rfl ?_
  refine x_gR (pc' := 16) (r := (some 0)) rfl rfl rfl (kR_640_0 hc.1) ?_
  refine x_alen (pc' := 17) (N := 5) rfl rfl rfl (kN_24_0 hc.1) (?_ : X _ _ _ (.inl 5 :: _) _ _)
  refine x_icmp (a' := 33) (pc' := 20) (z := false) rfl rfl rfl (by decide) (fun h => by cases h) (fun _ => ?_)
  refine x_aload_n (pc' := 21) rfl rfl rfl rfl rfl ?_
  refine x_gR (pc' := 24) (r := (some 0)) rfl rfl rfl (kR_640_0 hc.1) ?_
  refine x_iload_n (pc' := 25) rfl rfl rfl ?_
  refine x_aald (pc' := 26) (N := 5) (k' := 1) (r := (some 3)) rfl rfl rfl (kN_24_0 hc.1) (io_in (p := 3) (N := 5) (by decide) (by decide)) (Eq.trans (congrArg (sE t 24 0) (nn_io (p := 3) (by decide))) (kB hc.1 (by decide))) ?_
  refine x_gI (pc' := 29) (x := (mA M 0 3)) rfl rfl rfl (kA hM rfl (show 3 < 5 by decide)) ?_
  refine x_iconst (pc' := 30) rfl rfl ?_
  have J23 : ((sK 79 81 45 [.inr (.inr (10, (some 0))), .inr (.inr (1, (some 0))), .inl 2, .inl (bz false), .inl 0, .inl 0, .inl 4, sJk] [] Q) : sRs → sT → Prop) (.inl (some (.inr (.inr (8, (bif (decide ((mA M 0 3) = 2)) then (bsF M n 3 true) else none)))))) t := by
    refine sK_i (pc' := 48) rfl ?_
    refine x_astore (pc' := 50) (ls' := [_, _, _, _, _, _, _, _]) rfl rfl rfl rfl rfl ?_
    refine x_aload (pc' := 52) rfl rfl rfl rfl rfl ?_
    refine x_ifnonnull (a' := 59) (pc' := 55) rfl rfl rfl rfl (fun j0 q25 => ?_) (fun q25 => ?_)
    · refine x_iload (pc' := 61) rfl rfl rfl ?_
      refine x_iload (pc' := 63) rfl rfl rfl ?_
      refine x_if (a' := 74) (pc' := 66) (z := false) rfl rfl rfl (by decide) (fun h => by cases h) (fun _ => ?_)
      refine x_aload (pc' := 68) rfl rfl rfl rfl (ovD_s q25) ?_
      refine x_gI (pc' := 71) (x := (mA M 14 (ovD (bif (decide ((mA M 0 3) = 2)) then (bsF M n 3 true) else none)))) rfl rfl rfl ((kA hM rfl (ovD_lt (obd_c bsF_lt obd_n) q25)).trans (congrFun (Fc.f14 (Fc.refl _)) _)) ?_
      refine x_goto (pc' := 80) rfl rfl ?_
      refine x_iadd (pc' := 81) (z := (0 + (mA M 14 (ovD (bif (decide ((mA M 0 3) = 2)) then (bsF M n 3 true) else none))))) rfl rfl rfl ?_
      refine x_istore (pc' := 83) (ls' := [_, _, _, _, _, _, _, _]) rfl rfl rfl rfl ?_
      refine x_iinc (pc' := 86) (y := 1) (ls' := [_, _, _, _, _, _, _, _]) rfl rfl rfl rfl rfl ?_
      refine x_goto (pc' := 20) rfl rfl ?_
      refine x_iload (pc' := 22) rfl rfl rfl ?_
      refine x_iconst (pc' := 23) rfl rfl ?_
      refine x_icmp (a' := 89) (pc' := 26) (z := false) rfl rfl rfl (by decide) (fun h => by cases h) (fun _ => ?_)
      refine x_aload_n (pc' := 27) rfl rfl rfl rfl rfl ?_
      refine x_aload_n (pc' := 28) rfl rfl rfl rfl rfl ?_
      refine x_iload_n (pc' := 29) rfl rfl rfl ?_
      refine x_iload (pc' := 31) rfl rfl rfl ?_
      refine x_cv (ls0 := [_, _, _, _, sJk, sJk]) (rest := []) rfl rfl rfl rfl rfl ?_
      refine x_aload_n (pc' := 1) rfl rfl rfl rfl rfl ?_
      refine x_gI (pc' := 4) (x := 0) rfl rfl rfl (kI_64_0 hc.1) ?_
      refine x_iconst (pc' := 5) rfl rfl ?_
      refine x_imul (pc' := 6) (z := 0) rfl rfl (by decide) ?_
      refine x_iload_n (pc' := 7) rfl rfl rfl ?_
      refine x_iadd (pc' := 8) (z := 2) rfl rfl (by decide) ?_
      refine x_iconst (pc' := 9) rfl rfl ?_
      refine x_imul (pc' := 10) (z := 6) rfl rfl (by decide) ?_
      refine x_iload_n (pc' := 11) rfl rfl rfl ?_
      refine x_iadd (pc' := 12) (z := 7) rfl rfl (by decide) ?_
      refine x_istore (pc' := 14) (ls' := [_, _, _, _, _, _]) rfl rfl rfl rfl ?_
      refine x_iload_n (pc' := 15) rfl rfl rfl ?_
      refine x_if (a' := 36) (pc' := 18) (z := false) rfl rfl rfl (by decide) (fun h => by cases h) (fun _ => ?_)
      refine x_iload_n (pc' := 19) rfl rfl rfl ?_
      refine x_iconst (pc' := 20) rfl rfl ?_
      refine x_icmp (a' := 36) (pc' := 23) (z := false) rfl rfl rfl (by decide) (fun h => by cases h) (fun _ => ?_)
      refine x_iload_n (pc' := 24) rfl rfl rfl ?_
      refine x_if (a' := 36) (pc' := 27) (z := false) rfl rfl rfl (by decide) (fun h => by cases h) (fun _ => ?_)
      refine x_iload_n (pc' := 28) rfl rfl rfl ?_
      refine x_iconst (pc' := 29) rfl rfl ?_
      refine x_icmp (a' := 36) (pc' := 32) (z := false) rfl rfl rfl (by decide) (fun h => by cases h) (fun _ => ?_)
      refine x_iconst (pc' := 33) rfl rfl ?_
      refine x_goto (pc' := 37) rfl rfl ?_
      refine x_istore (pc' := 39) (ls' := [_, _, _, _, _, _]) rfl rfl rfl rfl ?_
      refine x_iload (pc' := 41) rfl rfl rfl ?_
      refine x_if (a' := 67) (pc' := 44) (z := false) rfl rfl rfl (by decide) (fun h => by cases h) (fun _ => ?_)
      refine x_iload (pc' := 46) rfl rfl rfl ?_
      refine x_if (a' := 67) (pc' := 49) (z := false) rfl rfl rfl (by decide) (fun h => by cases h) (fun _ => ?_)
      refine x_iload (pc' := 51) rfl rfl rfl ?_
      refine x_getstatic (pc' := 54) rfl rfl (show 0 < sC t 28 from gst0 hc.1) ?_
      refine x_alen (pc' := 55) (N := 45) rfl rfl rfl (kN_28_0 hc.1) (?_ : X _ _ _ (.inl 45 :: _) _ _)
      refine x_icmp (a' := 67) (pc' := 58) (z := false) rfl rfl rfl (by decide) (fun h => by cases h) (fun _ => ?_)
      refine x_getstatic (pc' := 61) rfl rfl (show 0 < sC t 28 from gst0 hc.1) ?_
      refine x_iload (pc' := 63) rfl rfl rfl ?_
      refine x_iald (pc' := 64) (N := 45) (x := 5) rfl rfl rfl (kN_28_0 hc.1) (io_in (p := 7) (N := 45) (by decide) (by decide)) (Eq.trans (congrArg (sA t 28 0) (nn_io (p := 7) (by decide))) ((hc.1.2.2.2.2.2 7).1.trans rfl)) ?_
      refine x_goto (pc' := 68) rfl rfl ?_
      refine x_reti rfl rfl ?_
      refine sK_i (pc' := 34) rfl ?_
      refine x_istore (pc' := 36) (ls' := [_, _, _, _, _, _, _, _]) rfl rfl rfl rfl ?_
      refine x_iload (pc' := 38) rfl rfl rfl ?_
      refine x_if (a' := 83) (pc' := 41) (z := false) rfl rfl rfl (by decide) (fun h => by cases h) (fun _ => ?_)
      refine x_aload_n (pc' := 42) rfl rfl rfl rfl rfl ?_
      refine x_iload (pc' := 44) rfl rfl rfl ?_
      refine x_iload_n (pc' := 45) rfl rfl rfl ?_
      refine x_cv (ls0 := [_, _, _, sJk]) (rest := []) rfl rfl rfl rfl rfl ?_
      refine x_iload_n (pc' := 1) rfl rfl rfl ?_
      refine x_abs (pc' := 4) (z := 5) rfl rfl rfl (by decide) ?_
      refine x_iconst (pc' := 5) rfl rfl ?_
      refine x_isub (pc' := 6) (z := 4) rfl rfl (by decide) ?_
      refine x_istore_n (pc' := 7) (ls' := [_, _, _, _]) rfl rfl rfl rfl ?_
      refine x_iload_n (pc' := 8) rfl rfl rfl ?_
      refine x_if (a' := 33) (pc' := 11) (z := false) rfl rfl rfl (by decide) (fun h => by cases h) (fun _ => ?_)
      refine x_iload_n (pc' := 12) rfl rfl rfl ?_
      refine x_aload_n (pc' := 13) rfl rfl rfl rfl rfl ?_
      refine x_gR (pc' := 16) (r := (some 0)) rfl rfl rfl (kR_640_0 hc.1) ?_
      refine x_alen (pc' := 17) (N := 5) rfl rfl rfl (kN_24_0 hc.1) (?_ : X _ _ _ (.inl 5 :: _) _ _)
      refine x_icmp (a' := 33) (pc' := 20) (z := false) rfl rfl rfl (by decide) (fun h => by cases h) (fun _ => ?_)
      refine x_aload_n (pc' := 21) rfl rfl rfl rfl rfl ?_
      refine x_gR (pc' := 24) (r := (some 0)) rfl rfl rfl (kR_640_0 hc.1) ?_
      refine x_iload_n (pc' := 25) rfl rfl rfl ?_
      refine x_aald (pc' := 26) (N := 5) (k' := 1) (r := (some 4)) rfl rfl rfl (kN_24_0 hc.1) (io_in (p := 4) (N := 5) (by decide) (by decide)) (Eq.trans (congrArg (sE t 24 0) (nn_io (p := 4) (by decide))) (kB hc.1 (by decide))) ?_
      refine x_gI (pc' := 29) (x := (mA M 0 4)) rfl rfl rfl (kA hM rfl (show 4 < 5 by decide)) ?_
      refine x_iconst (pc' := 30) rfl rfl ?_
      have J41 : ((sK 79 81 45 [.inr (.inr (10, (some 0))), .inr (.inr (1, (some 0))), .inl 2, .inl (bz false), .inl (0 + (mA M 14 (ovD (bif (decide ((mA M 0 3) = 2)) then (bsF M n 3 true) else none)))), .inl 1, .inl 5, .inr (.inr (8, (bif (decide ((mA M 0 3) = 2)) then (bsF M n 3 true) else none)))] [] Q) : sRs → sT → Prop) (.inl (some (.inr (.inr (8, (bif (decide ((mA M 0 4) = 2)) then (bsF M n 4 true) else none)))))) t := by
        refine sK_i (pc' := 48) rfl ?_
        refine x_astore (pc' := 50) (ls' := [_, _, _, _, _, _, _, _]) rfl rfl rfl rfl rfl ?_
        refine x_aload (pc' := 52) rfl rfl rfl rfl rfl ?_
        refine x_ifnonnull (a' := 59) (pc' := 55) rfl rfl rfl rfl (fun j1 q43 => ?_) (fun q43 => ?_)
        · refine x_iload (pc' := 61) rfl rfl rfl ?_
          refine x_iload (pc' := 63) rfl rfl rfl ?_
          refine x_if (a' := 74) (pc' := 66) (z := false) rfl rfl rfl (by decide) (fun h => by cases h) (fun _ => ?_)
          refine x_aload (pc' := 68) rfl rfl rfl rfl (ovD_s q43) ?_
          refine x_gI (pc' := 71) (x := (mA M 14 (ovD (bif (decide ((mA M 0 4) = 2)) then (bsF M n 4 true) else none)))) rfl rfl rfl ((kA hM rfl (ovD_lt (obd_c bsF_lt obd_n) q43)).trans (congrFun (Fc.f14 (Fc.refl _)) _)) ?_
          refine x_goto (pc' := 80) rfl rfl ?_
          refine x_iadd (pc' := 81) (z := ((0 + (mA M 14 (ovD (bif (decide ((mA M 0 3) = 2)) then (bsF M n 3 true) else none)))) + (mA M 14 (ovD (bif (decide ((mA M 0 4) = 2)) then (bsF M n 4 true) else none))))) rfl rfl rfl ?_
          refine x_istore (pc' := 83) (ls' := [_, _, _, _, _, _, _, _]) rfl rfl rfl rfl ?_
          refine x_iinc (pc' := 86) (y := 2) (ls' := [_, _, _, _, _, _, _, _]) rfl rfl rfl rfl rfl ?_
          refine x_goto (pc' := 20) rfl rfl ?_
          refine x_iload (pc' := 22) rfl rfl rfl ?_
          refine x_iconst (pc' := 23) rfl rfl ?_
          refine x_icmp (a' := 89) (pc' := 26) (z := false) rfl rfl rfl (by decide) (fun h => by cases h) (fun _ => ?_)
          refine x_aload_n (pc' := 27) rfl rfl rfl rfl rfl ?_
          refine x_aload_n (pc' := 28) rfl rfl rfl rfl rfl ?_
          refine x_iload_n (pc' := 29) rfl rfl rfl ?_
          refine x_iload (pc' := 31) rfl rfl rfl ?_
          refine x_cv (ls0 := [_, _, _, _, sJk, sJk]) (rest := []) rfl rfl rfl rfl rfl ?_
          refine x_aload_n (pc' := 1) rfl rfl rfl rfl rfl ?_
          refine x_gI (pc' := 4) (x := 0) rfl rfl rfl (kI_64_0 hc.1) ?_
          refine x_iconst (pc' := 5) rfl rfl ?_
          refine x_imul (pc' := 6) (z := 0) rfl rfl (by decide) ?_
          refine x_iload_n (pc' := 7) rfl rfl rfl ?_
          refine x_iadd (pc' := 8) (z := 2) rfl rfl (by decide) ?_
          refine x_iconst (pc' := 9) rfl rfl ?_
          refine x_imul (pc' := 10) (z := 6) rfl rfl (by decide) ?_
          refine x_iload_n (pc' := 11) rfl rfl rfl ?_
          refine x_iadd (pc' := 12) (z := 8) rfl rfl (by decide) ?_
          refine x_istore (pc' := 14) (ls' := [_, _, _, _, _, _]) rfl rfl rfl rfl ?_
          refine x_iload_n (pc' := 15) rfl rfl rfl ?_
          refine x_if (a' := 36) (pc' := 18) (z := false) rfl rfl rfl (by decide) (fun h => by cases h) (fun _ => ?_)
          refine x_iload_n (pc' := 19) rfl rfl rfl ?_
          refine x_iconst (pc' := 20) rfl rfl ?_
          refine x_icmp (a' := 36) (pc' := 23) (z := false) rfl rfl rfl (by decide) (fun h => by cases h) (fun _ => ?_)
          refine x_iload_n (pc' := 24) rfl rfl rfl ?_
          refine x_if (a' := 36) (pc' := 27) (z := false) rfl rfl rfl (by decide) (fun h => by cases h) (fun _ => ?_)
          refine x_iload_n (pc' := 28) rfl rfl rfl ?_
          refine x_iconst (pc' := 29) rfl rfl ?_
          refine x_icmp (a' := 36) (pc' := 32) (z := false) rfl rfl rfl (by decide) (fun h => by cases h) (fun _ => ?_)
          refine x_iconst (pc' := 33) rfl rfl ?_
          refine x_goto (pc' := 37) rfl rfl ?_
          refine x_istore (pc' := 39) (ls' := [_, _, _, _, _, _]) rfl rfl rfl rfl ?_
          refine x_iload (pc' := 41) rfl rfl rfl ?_
          refine x_if (a' := 67) (pc' := 44) (z := false) rfl rfl rfl (by decide) (fun h => by cases h) (fun _ => ?_)
          refine x_iload (pc' := 46) rfl rfl rfl ?_
          refine x_if (a' := 67) (pc' := 49) (z := false) rfl rfl rfl (by decide) (fun h => by cases h) (fun _ => ?_)
          refine x_iload (pc' := 51) rfl rfl rfl ?_
          refine x_getstatic (pc' := 54) rfl rfl (show 0 < sC t 28 from gst0 hc.1) ?_
          refine x_alen (pc' := 55) (N := 45) rfl rfl rfl (kN_28_0 hc.1) (?_ : X _ _ _ (.inl 45 :: _) _ _)
          refine x_icmp (a' := 67) (pc' := 58) (z := false) rfl rfl rfl (by decide) (fun h => by cases h) (fun _ => ?_)
          refine x_getstatic (pc' := 61) rfl rfl (show 0 < sC t 28 from gst0 hc.1) ?_
          refine x_iload (pc' := 63) rfl rfl rfl ?_
          refine x_iald (pc' := 64) (N := 45) (x := 3) rfl rfl rfl (kN_28_0 hc.1) (io_in (p := 8) (N := 45) (by decide) (by decide)) (Eq.trans (congrArg (sA t 28 0) (nn_io (p := 8) (by decide))) ((hc.1.2.2.2.2.2 8).1.trans rfl)) ?_
          refine x_goto (pc' := 68) rfl rfl ?_
          refine x_reti rfl rfl ?_
          refine sK_i (pc' := 34) rfl ?_
          refine x_istore (pc' := 36) (ls' := [_, _, _, _, _, _, _, _]) rfl rfl rfl rfl ?_
          refine x_iload (pc' := 38) rfl rfl rfl ?_
          refine x_if (a' := 83) (pc' := 41) (z := false) rfl rfl rfl (by decide) (fun h => by cases h) (fun _ => ?_)
          refine x_aload_n (pc' := 42) rfl rfl rfl rfl rfl ?_
          refine x_iload (pc' := 44) rfl rfl rfl ?_
          refine x_iload_n (pc' := 45) rfl rfl rfl ?_
          refine x_cv (ls0 := [_, _, _, sJk]) (rest := []) rfl rfl rfl rfl rfl ?_
          refine x_iload_n (pc' := 1) rfl rfl rfl ?_
          refine x_abs (pc' := 4) (z := 3) rfl rfl rfl (by decide) ?_
          refine x_iconst (pc' := 5) rfl rfl ?_
          refine x_isub (pc' := 6) (z := 2) rfl rfl (by decide) ?_
          refine x_istore_n (pc' := 7) (ls' := [_, _, _, _]) rfl rfl rfl rfl ?_
          refine x_iload_n (pc' := 8) rfl rfl rfl ?_
          refine x_if (a' := 33) (pc' := 11) (z := false) rfl rfl rfl (by decide) (fun h => by cases h) (fun _ => ?_)
          refine x_iload_n (pc' := 12) rfl rfl rfl ?_
          refine x_aload_n (pc' := 13) rfl rfl rfl rfl rfl ?_
          refine x_gR (pc' := 16) (r := (some 0)) rfl rfl rfl (kR_640_0 hc.1) ?_
          refine x_alen (pc' := 17) (N := 5) rfl rfl rfl (kN_24_0 hc.1) (?_ : X _ _ _ (.inl 5 :: _) _ _)
          refine x_icmp (a' := 33) (pc' := 20) (z := false) rfl rfl rfl (by decide) (fun h => by cases h) (fun _ => ?_)
          refine x_aload_n (pc' := 21) rfl rfl rfl rfl rfl ?_
          refine x_gR (pc' := 24) (r := (some 0)) rfl rfl rfl (kR_640_0 hc.1) ?_
          refine x_iload_n (pc' := 25) rfl rfl rfl ?_
          refine x_aald (pc' := 26) (N := 5) (k' := 1) (r := (some 2)) rfl rfl rfl (kN_24_0 hc.1) (io_in (p := 2) (N := 5) (by decide) (by decide)) (Eq.trans (congrArg (sE t 24 0) (nn_io (p := 2) (by decide))) (kB hc.1 (by decide))) ?_
          refine x_gI (pc' := 29) (x := (mA M 0 2)) rfl rfl rfl (kA hM rfl (show 2 < 5 by decide)) ?_
          refine x_iconst (pc' := 30) rfl rfl ?_
          have J59 : ((sK 79 81 45 [.inr (.inr (10, (some 0))), .inr (.inr (1, (some 0))), .inl 2, .inl (bz false), .inl ((0 + (mA M 14 (ovD (bif (decide ((mA M 0 3) = 2)) then (bsF M n 3 true) else none)))) + (mA M 14 (ovD (bif (decide ((mA M 0 4) = 2)) then (bsF M n 4 true) else none)))), .inl 2, .inl 3, .inr (.inr (8, (bif (decide ((mA M 0 4) = 2)) then (bsF M n 4 true) else none)))] [] Q) : sRs → sT → Prop) (.inl (some (.inr (.inr (8, (bif (decide ((mA M 0 2) = 2)) then (bsF M n 2 true) else none)))))) t := by
            refine sK_i (pc' := 48) rfl ?_
            refine x_astore (pc' := 50) (ls' := [_, _, _, _, _, _, _, _]) rfl rfl rfl rfl rfl ?_
            refine x_aload (pc' := 52) rfl rfl rfl rfl rfl ?_
            refine x_ifnonnull (a' := 59) (pc' := 55) rfl rfl rfl rfl (fun j2 q61 => ?_) (fun q61 => ?_)
            · refine x_iload (pc' := 61) rfl rfl rfl ?_
              refine x_iload (pc' := 63) rfl rfl rfl ?_
              refine x_if (a' := 74) (pc' := 66) (z := false) rfl rfl rfl (by decide) (fun h => by cases h) (fun _ => ?_)
              refine x_aload (pc' := 68) rfl rfl rfl rfl (ovD_s q61) ?_
              refine x_gI (pc' := 71) (x := (mA M 14 (ovD (bif (decide ((mA M 0 2) = 2)) then (bsF M n 2 true) else none)))) rfl rfl rfl ((kA hM rfl (ovD_lt (obd_c bsF_lt obd_n) q61)).trans (congrFun (Fc.f14 (Fc.refl _)) _)) ?_
              refine x_goto (pc' := 80) rfl rfl ?_
              refine x_iadd (pc' := 81) (z := (((0 + (mA M 14 (ovD (bif (decide ((mA M 0 3) = 2)) then (bsF M n 3 true) else none)))) + (mA M 14 (ovD (bif (decide ((mA M 0 4) = 2)) then (bsF M n 4 true) else none)))) + (mA M 14 (ovD (bif (decide ((mA M 0 2) = 2)) then (bsF M n 2 true) else none))))) rfl rfl rfl ?_
              refine x_istore (pc' := 83) (ls' := [_, _, _, _, _, _, _, _]) rfl rfl rfl rfl ?_
              refine x_iinc (pc' := 86) (y := 3) (ls' := [_, _, _, _, _, _, _, _]) rfl rfl rfl rfl rfl ?_
              refine x_goto (pc' := 20) rfl rfl ?_
              refine x_iload (pc' := 22) rfl rfl rfl ?_
              refine x_iconst (pc' := 23) rfl rfl ?_
              refine x_icmp (a' := 89) (pc' := 26) (z := true) rfl rfl rfl (by decide) (fun _ => ?_) (fun h => by cases h)
              refine x_iload (pc' := 91) rfl rfl rfl ?_
              refine x_reti rfl rfl ?_
              exact qv (by simp only [cp02fF, (isSome_s q25), (isSome_s q43), (isSome_s q61), cd_t, cd_f]) (q )
            · refine x_sipush (pc' := 58) rfl rfl ?_
              refine x_reti rfl rfl ?_
              exact qv (by simp only [cp02fF, (isSome_s q25), (isSome_s q43), (isSome_n q61), cd_t, cd_f]) (q )
          refine x_icmp (a' := 35) (pc' := 33) (z := decide ((mA M 0 2) = 2)) rfl rfl rfl rfl (fun q56 => ?_) (fun q56 => ?_)
          · refine x_aload_n (pc' := 36) rfl rfl rfl rfl rfl ?_
            refine x_gR (pc' := 39) (r := (some 0)) rfl rfl rfl (kR_640_0 hc.1) ?_
            refine x_iload_n (pc' := 40) rfl rfl rfl ?_
            refine x_aald (pc' := 41) (N := 5) (k' := 1) (r := (some 2)) rfl rfl rfl (kN_24_0 hc.1) (io_in (p := 2) (N := 5) (by decide) (by decide)) (Eq.trans (congrArg (sE t 24 0) (nn_io (p := 2) (by decide))) (kB hc.1 (by decide))) ?_
            refine x_iload_n (pc' := 42) rfl rfl rfl ?_
            refine x_if (a' := 57) (pc' := 45) (z := false) rfl rfl rfl (by decide) (fun h => by cases h) (fun _ => ?_)
            refine x_iload_n (pc' := 46) rfl rfl rfl ?_
            refine x_if (a' := 53) (pc' := 49) (z := false) rfl rfl rfl (by decide) (fun h => by cases h) (fun _ => ?_)
            refine x_iconst (pc' := 50) rfl rfl ?_
            refine x_goto (pc' := 58) rfl rfl ?_
            refine x_cv (ls0 := [_, _]) (rest := []) rfl rfl rfl rfl rfl ?_
            refine x_iload_n (pc' := 1) rfl rfl rfl ?_
            refine x_if (a' := 11) (pc' := 4) (z := false) rfl rfl rfl (by decide) (fun h => by cases h) (fun _ => ?_)
            refine x_aload_n (pc' := 5) rfl rfl rfl rfl rfl ?_
            refine x_gR (pc' := 8) (r := (bsF M n 2 true)) rfl rfl rfl (bs_69 hC (Fc.ri (Fc.refl _) hR) hM (by decide)) ?_
            refine x_goto (pc' := 15) rfl rfl ?_
            refine x_reta rfl rfl ?_
            refine sK_i (pc' := 61) rfl ?_
            refine x_reta rfl rfl ?_
            ((try rw [q56] at J59); (try rw [q56]); (try simp only [cd_t, cd_f, nt_t, nt_f, an_t, an_f, or_t, or_f] at J59); (try simp only [cd_t, cd_f, nt_t, nt_f, an_t, an_f, or_t, or_f]); exact J59)
          · refine x_null (pc' := 34) rfl rfl rfl ?_
            refine x_reta rfl rfl ?_
            ((try rw [q56] at J59); (try rw [q56]); (try simp only [cd_t, cd_f, nt_t, nt_f, an_t, an_f, or_t, or_f] at J59); (try simp only [cd_t, cd_f, nt_t, nt_f, an_t, an_f, or_t, or_f]); exact J59)
        · refine x_sipush (pc' := 58) rfl rfl ?_
          refine x_reti rfl rfl ?_
          exact qv (by simp only [cp02fF, (isSome_s q25), (isSome_n q43), cd_t, cd_f]) (q )
      refine x_icmp (a' := 35) (pc' := 33) (z := decide ((mA M 0 4) = 2)) rfl rfl rfl rfl (fun q38 => ?_) (fun q38 => ?_)
      · refine x_aload_n (pc' := 36) rfl rfl rfl rfl rfl ?_
        refine x_gR (pc' := 39) (r := (some 0)) rfl rfl rfl (kR_640_0 hc.1) ?_
        refine x_iload_n (pc' := 40) rfl rfl rfl ?_
        refine x_aald (pc' := 41) (N := 5) (k' := 1) (r := (some 4)) rfl rfl rfl (kN_24_0 hc.1) (io_in (p := 4) (N := 5) (by decide) (by decide)) (Eq.trans (congrArg (sE t 24 0) (nn_io (p := 4) (by decide))) (kB hc.1 (by decide))) ?_
        refine x_iload_n (pc' := 42) rfl rfl rfl ?_
        refine x_if (a' := 57) (pc' := 45) (z := false) rfl rfl rfl (by decide) (fun h => by cases h) (fun _ => ?_)
        refine x_iload_n (pc' := 46) rfl rfl rfl ?_
        refine x_if (a' := 53) (pc' := 49) (z := false) rfl rfl rfl (by decide) (fun h => by cases h) (fun _ => ?_)
        refine x_iconst (pc' := 50) rfl rfl ?_
        refine x_goto (pc' := 58) rfl rfl ?_
        refine x_cv (ls0 := [_, _]) (rest := []) rfl rfl rfl rfl rfl ?_
        refine x_iload_n (pc' := 1) rfl rfl rfl ?_
        refine x_if (a' := 11) (pc' := 4) (z := false) rfl rfl rfl (by decide) (fun h => by cases h) (fun _ => ?_)
        refine x_aload_n (pc' := 5) rfl rfl rfl rfl rfl ?_
        refine x_gR (pc' := 8) (r := (bsF M n 4 true)) rfl rfl rfl (bs_69 hC (Fc.ri (Fc.refl _) hR) hM (by decide)) ?_
        refine x_goto (pc' := 15) rfl rfl ?_
        refine x_reta rfl rfl ?_
        refine sK_i (pc' := 61) rfl ?_
        refine x_reta rfl rfl ?_
        ((try rw [q38] at J41); (try rw [q38]); (try simp only [cd_t, cd_f, nt_t, nt_f, an_t, an_f, or_t, or_f] at J41); (try simp only [cd_t, cd_f, nt_t, nt_f, an_t, an_f, or_t, or_f]); exact J41)
      · refine x_null (pc' := 34) rfl rfl rfl ?_
        refine x_reta rfl rfl ?_
        ((try rw [q38] at J41); (try rw [q38]); (try simp only [cd_t, cd_f, nt_t, nt_f, an_t, an_f, or_t, or_f] at J41); (try simp only [cd_t, cd_f, nt_t, nt_f, an_t, an_f, or_t, or_f]); exact J41)
    · refine x_sipush (pc' := 58) rfl rfl ?_
      refine x_reti rfl rfl ?_
      exact qv (by simp only [cp02fF, (isSome_n q25), cd_t, cd_f]) (q )
  refine x_icmp (a' := 35) (pc' := 33) (z := decide ((mA M 0 3) = 2)) rfl rfl rfl rfl (fun q20 => ?_) (fun q20 => ?_)
  · refine x_aload_n (pc' := 36) rfl rfl rfl rfl rfl ?_
    refine x_gR (pc' := 39) (r := (some 0)) rfl rfl rfl (kR_640_0 hc.1) ?_
    refine x_iload_n (pc' := 40) rfl rfl rfl ?_
    refine x_aald (pc' := 41) (N := 5) (k' := 1) (r := (some 3)) rfl rfl rfl (kN_24_0 hc.1) (io_in (p := 3) (N := 5) (by decide) (by decide)) (Eq.trans (congrArg (sE t 24 0) (nn_io (p := 3) (by decide))) (kB hc.1 (by decide))) ?_
    refine x_iload_n (pc' := 42) rfl rfl rfl ?_
    refine x_if (a' := 57) (pc' := 45) (z := false) rfl rfl rfl (by decide) (fun h => by cases h) (fun _ => ?_)
    refine x_iload_n (pc' := 46) rfl rfl rfl ?_
    refine x_if (a' := 53) (pc' := 49) (z := false) rfl rfl rfl (by decide) (fun h => by cases h) (fun _ => ?_)
    refine x_iconst (pc' := 50) rfl rfl ?_
    refine x_goto (pc' := 58) rfl rfl ?_
    refine x_cv (ls0 := [_, _]) (rest := []) rfl rfl rfl rfl rfl ?_
    refine x_iload_n (pc' := 1) rfl rfl rfl ?_
    refine x_if (a' := 11) (pc' := 4) (z := false) rfl rfl rfl (by decide) (fun h => by cases h) (fun _ => ?_)
    refine x_aload_n (pc' := 5) rfl rfl rfl rfl rfl ?_
    refine x_gR (pc' := 8) (r := (bsF M n 3 true)) rfl rfl rfl (bs_69 hC (Fc.ri (Fc.refl _) hR) hM (by decide)) ?_
    refine x_goto (pc' := 15) rfl rfl ?_
    refine x_reta rfl rfl ?_
    refine sK_i (pc' := 61) rfl ?_
    refine x_reta rfl rfl ?_
    ((try rw [q20] at J23); (try rw [q20]); (try simp only [cd_t, cd_f, nt_t, nt_f, an_t, an_f, or_t, or_f] at J23); (try simp only [cd_t, cd_f, nt_t, nt_f, an_t, an_f, or_t, or_f]); exact J23)
  · refine x_null (pc' := 34) rfl rfl rfl ?_
    refine x_reta rfl rfl ?_
    ((try rw [q20] at J23); (try rw [q20]); (try simp only [cd_t, cd_f, nt_t, nt_f, an_t, an_f, or_t, or_f] at J23); (try simp only [cd_t, cd_f, nt_t, nt_f, an_t, an_f, or_t, or_f]); exact J23)
def cp02tF (M : sM) (n : Nat) : Int32 := (bif (bif (decide ((mA M 0 3) = 2)) then (bsF M n 3 false) else none).isSome then (bif (bif (decide ((mA M 0 4) = 2)) then (bsF M n 4 false) else none).isSome then (bif (bif (decide ((mA M 0 2) = 2)) then (bsF M n 2 false) else none).isSome then (((0 + (mA M 14 (ovD (bif (decide ((mA M 0 3) = 2)) then (bsF M n 3 false) else none)))) + (mA M 14 (ovD (bif (decide ((mA M 0 4) = 2)) then (bsF M n 4 false) else none)))) + (mA M 14 (ovD (bif (decide ((mA M 0 2) = 2)) then (bsF M n 2 false) else none)))) else (-10000)) else (-10000)) else (-10000))
set_option maxHeartbeats 4000000 in
set_option maxRecDepth 10000 in
theorem c81_02t {t : sT} {Q : sRs → sT → Prop} {M : sM} {n : Nat} {T : Nat}
    (hM : Rl t M n T)
    (hc : Sf t M n T)
    (hR : Ri M n)
    (hC : rlC t M n)
    (q : Q (.inl (some (.inl (cp02tF M n)))) t) :
    X 81 0 [.inr (.inr (10, (some 0))), .inr (.inr (1, (some 0))), .inl 2, .inl (bz true), sJk, sJk, sJk, sJk] [] t Q := by
  refine x_aload_n (pc' := 1) rfl rfl rfl rfl rfl ?_
  refine x_aload_n (pc' := 2) rfl rfl rfl rfl rfl ?_
  refine x_iload_n (pc' := 3) rfl rfl rfl ?_
  refine x_iconst (pc' := 4) rfl rfl ?_
  refine x_cv (ls0 := [_, _, _, _, sJk, sJk]) (rest := []) rfl rfl rfl rfl rfl ?_
  refine x_aload_n (pc' := 1) rfl rfl rfl rfl rfl ?_
  refine x_gI (pc' := 4) (x := 0) rfl rfl rfl (kI_64_0 hc.1) ?_
  refine x_iconst (pc' := 5) rfl rfl ?_
  refine x_imul (pc' := 6) (z := 0) rfl rfl (by decide) ?_
  refine x_iload_n (pc' := 7) rfl rfl rfl ?_
  refine x_iadd (pc' := 8) (z := 2) rfl rfl (by decide) ?_
  refine x_iconst (pc' := 9) rfl rfl ?_
  refine x_imul (pc' := 10) (z := 6) rfl rfl (by decide) ?_
  refine x_iload_n (pc' := 11) rfl rfl rfl ?_
  refine x_iadd (pc' := 12) (z := 6) rfl rfl (by decide) ?_
  refine x_istore (pc' := 14) (ls' := [_, _, _, _, _, _]) rfl rfl rfl rfl ?_
  refine x_iload_n (pc' := 15) rfl rfl rfl ?_
  refine x_if (a' := 36) (pc' := 18) (z := false) rfl rfl rfl (by decide) (fun h => by cases h) (fun _ => ?_)
  refine x_iload_n (pc' := 19) rfl rfl rfl ?_
  refine x_iconst (pc' := 20) rfl rfl ?_
  refine x_icmp (a' := 36) (pc' := 23) (z := false) rfl rfl rfl (by decide) (fun h => by cases h) (fun _ => ?_)
  refine x_iload_n (pc' := 24) rfl rfl rfl ?_
  refine x_if (a' := 36) (pc' := 27) (z := false) rfl rfl rfl (by decide) (fun h => by cases h) (fun _ => ?_)
  refine x_iload_n (pc' := 28) rfl rfl rfl ?_
  refine x_iconst (pc' := 29) rfl rfl ?_
  refine x_icmp (a' := 36) (pc' := 32) (z := false) rfl rfl rfl (by decide) (fun h => by cases h) (fun _ => ?_)
  refine x_iconst (pc' := 33) rfl rfl ?_
  refine x_goto (pc' := 37) rfl rfl ?_
  refine x_istore (pc' := 39) (ls' := [_, _, _, _, _, _]) rfl rfl rfl rfl ?_
  refine x_iload (pc' := 41) rfl rfl rfl ?_
  refine x_if (a' := 67) (pc' := 44) (z := false) rfl rfl rfl (by decide) (fun h => by cases h) (fun _ => ?_)
  refine x_iload (pc' := 46) rfl rfl rfl ?_
  refine x_if (a' := 67) (pc' := 49) (z := false) rfl rfl rfl (by decide) (fun h => by cases h) (fun _ => ?_)
  refine x_iload (pc' := 51) rfl rfl rfl ?_
  refine x_getstatic (pc' := 54) rfl rfl (show 0 < sC t 28 from gst0 hc.1) ?_
  refine x_alen (pc' := 55) (N := 45) rfl rfl rfl (kN_28_0 hc.1) (?_ : X _ _ _ (.inl 45 :: _) _ _)
  refine x_icmp (a' := 67) (pc' := 58) (z := false) rfl rfl rfl (by decide) (fun h => by cases h) (fun _ => ?_)
  refine x_getstatic (pc' := 61) rfl rfl (show 0 < sC t 28 from gst0 hc.1) ?_
  refine x_iload (pc' := 63) rfl rfl rfl ?_
  refine x_iald (pc' := 64) (N := 45) (x := 4) rfl rfl rfl (kN_28_0 hc.1) (io_in (p := 6) (N := 45) (by decide) (by decide)) (Eq.trans (congrArg (sA t 28 0) (nn_io (p := 6) (by decide))) ((hc.1.2.2.2.2.2 6).1.trans rfl)) ?_
  refine x_goto (pc' := 68) rfl rfl ?_
  refine x_reti rfl rfl ?_
  refine sK_i (pc' := 7) rfl ?_
  refine x_if (a' := 14) (pc' := 10) (z := true) rfl rfl rfl (by decide) (fun _ => ?_) (fun h => by cases h)
  refine x_iconst (pc' := 15) rfl rfl ?_
  refine x_istore (pc' := 17) (ls' := [_, _, _, _, _, _, _, _]) rfl rfl rfl rfl ?_
  refine x_iconst (pc' := 18) rfl rfl ?_
  refine x_istore (pc' := 20) (ls' := [_, _, _, _, _, _, _, _]) rfl rfl rfl rfl ?_
  refine x_iload (pc' := 22) rfl rfl rfl ?_
  refine x_iconst (pc' := 23) rfl rfl ?_
  refine x_icmp (a' := 89) (pc' := 26) (z := false) rfl rfl rfl (by decide) (fun h => by cases h) (fun _ => ?_)
  refine x_aload_n (pc' := 27) rfl rfl rfl rfl rfl ?_
  refine x_aload_n (pc' := 28) rfl rfl rfl rfl rfl ?_
  refine x_iload_n (pc' := 29) rfl rfl rfl ?_
  refine x_iload (pc' := 31) rfl rfl rfl ?_
  refine x_cv (ls0 := [_, _, _, _, sJk, sJk]) (rest := []) rfl rfl rfl rfl rfl ?_
  refine x_aload_n (pc' := 1) rfl rfl rfl rfl rfl ?_
  refine x_gI (pc' := 4) (x := 0) rfl rfl rfl (kI_64_0 hc.1) ?_
  refine x_iconst (pc' := 5) rfl rfl ?_
  refine x_imul (pc' := 6) (z := 0) rfl rfl (by decide) ?_
  refine x_iload_n (pc' := 7) rfl rfl rfl ?_
  refine x_iadd (pc' := 8) (z := 2) rfl rfl (by decide) ?_
  refine x_iconst (pc' := 9) rfl rfl ?_
  refine x_imul (pc' := 10) (z := 6) rfl rfl (by decide) ?_
  refine x_iload_n (pc' := 11) rfl rfl rfl ?_
  refine x_iadd (pc' := 12) (z := 6) rfl rfl (by decide) ?_
  refine x_istore (pc' := 14) (ls' := [_, _, _, _, _, _]) rfl rfl rfl rfl ?_
  refine x_iload_n (pc' := 15) rfl rfl rfl ?_
  refine x_if (a' := 36) (pc' := 18) (z := false) rfl rfl rfl (by decide) (fun h => by cases h) (fun _ => ?_)
  refine x_iload_n (pc' := 19) rfl rfl rfl ?_
  refine x_iconst (pc' := 20) rfl rfl ?_
  refine x_icmp (a' := 36) (pc' := 23) (z := false) rfl rfl rfl (by decide) (fun h => by cases h) (fun _ => ?_)
  refine x_iload_n (pc' := 24) rfl rfl rfl ?_
  refine x_if (a' := 36) (pc' := 27) (z := false) rfl rfl rfl (by decide) (fun h => by cases h) (fun _ => ?_)
  refine x_iload_n (pc' := 28) rfl rfl rfl ?_
  refine x_iconst (pc' := 29) rfl rfl ?_
  refine x_icmp (a' := 36) (pc' := 32) (z := false) rfl rfl rfl (by decide) (fun h => by cases h) (fun _ => ?_)
  refine x_iconst (pc' := 33) rfl rfl ?_
  refine x_goto (pc' := 37) rfl rfl ?_
  refine x_istore (pc' := 39) (ls' := [_, _, _, _, _, _]) rfl rfl rfl rfl ?_
  refine x_iload (pc' := 41) rfl rfl rfl ?_
  refine x_if (a' := 67) (pc' := 44) (z := false) rfl rfl rfl (by decide) (fun h => by cases h) (fun _ => ?_)
  refine x_iload (pc' := 46) rfl rfl rfl ?_
  refine x_if (a' := 67) (pc' := 49) (z := false) rfl rfl rfl (by decide) (fun h => by cases h) (fun _ => ?_)
  refine x_iload (pc' := 51) rfl rfl rfl ?_
  refine x_getstatic (pc' := 54) rfl rfl (show 0 < sC t 28 from gst0 hc.1) ?_
  refine x_alen (pc' := 55) (N := 45) rfl rfl rfl (kN_28_0 hc.1) (?_ : X _ _ _ (.inl 45 :: _) _ _)
  refine x_icmp (a' := 67) (pc' := 58) (z := false) rfl rfl rfl (by decide) (fun h => by cases h) (fun _ => ?_)
  refine x_getstatic (pc' := 61) rfl rfl (show 0 < sC t 28 from gst0 hc.1) ?_
  refine x_iload (pc' := 63) rfl rfl rfl ?_
  refine x_iald (pc' := 64) (N := 45) (x := 4) rfl rfl rfl (kN_28_0 hc.1) (io_in (p := 6) (N := 45) (by decide) (by decide)) (Eq.trans (congrArg (sA t 28 0) (nn_io (p := 6) (by decide))) ((hc.1.2.2.2.2.2 6).1.trans rfl)) ?_
  refine x_goto (pc' := 68) rfl rfl ?_
  refine x_reti rfl rfl ?_
  refine sK_i (pc' := 34) rfl ?_
  refine x_istore (pc' := 36) (ls' := [_, _, _, _, _, _, _, _]) rfl rfl rfl rfl ?_
  refine x_iload (pc' := 38) rfl rfl rfl ?_
  refine x_if (a' := 83) (pc' := 41) (z := false) rfl rfl rfl (by decide) (fun h => by cases h) (fun _ => ?_)
  refine x_aload_n (pc' := 42) rfl rfl rfl rfl rfl ?_
  refine x_iload (pc' := 44) rfl rfl rfl ?_
  refine x_iload_n (pc' := 45) rfl rfl rfl ?_
  refine x_cv (ls0 := [_, _, _, sJk]) (rest := []) rfl rfl rfl rfl rfl ?_
  refine x_iload_n (pc' := 1) rfl rfl rfl ?_
  refine x_abs (pc' := 4) (z := 4) rfl rfl rfl (by decide) ?_
  refine x_iconst (pc' := 5) rfl rfl ?_
  refine x_isub (pc' := 6) (z := 3) rfl rfl (by decide) ?_
  refine x_istore_n (pc' := 7) (ls' := [_, _, _, _]) rfl rfl rfl rfl ?_
  refine x_iload_n (pc' := 8) rfl rfl rfl ?_
  refine x_if (a' := 33) (pc' := 11) (z := false) rfl rfl rfl (by decide) (fun h => by cases h) (fun _ => ?_)
  refine x_iload_n (pc' := 12) rfl rfl rfl ?_
  refine x_aload_n (pc' := 13) rfl rfl rfl rfl rfl ?_
  refine x_gR (pc' := 16) (r := (some 0)) rfl rfl rfl (kR_640_0 hc.1) ?_
  refine x_alen (pc' := 17) (N := 5) rfl rfl rfl (kN_24_0 hc.1) (?_ : X _ _ _ (.inl 5 :: _) _ _)
  refine x_icmp (a' := 33) (pc' := 20) (z := false) rfl rfl rfl (by decide) (fun h => by cases h) (fun _ => ?_)
  refine x_aload_n (pc' := 21) rfl rfl rfl rfl rfl ?_
  refine x_gR (pc' := 24) (r := (some 0)) rfl rfl rfl (kR_640_0 hc.1) ?_
  refine x_iload_n (pc' := 25) rfl rfl rfl ?_
  refine x_aald (pc' := 26) (N := 5) (k' := 1) (r := (some 3)) rfl rfl rfl (kN_24_0 hc.1) (io_in (p := 3) (N := 5) (by decide) (by decide)) (Eq.trans (congrArg (sE t 24 0) (nn_io (p := 3) (by decide))) (kB hc.1 (by decide))) ?_
  refine x_gI (pc' := 29) (x := (mA M 0 3)) rfl rfl rfl (kA hM rfl (show 3 < 5 by decide)) ?_
  refine x_iconst (pc' := 30) rfl rfl ?_
  have J23 : ((sK 79 81 45 [.inr (.inr (10, (some 0))), .inr (.inr (1, (some 0))), .inl 2, .inl (bz true), .inl 0, .inl 0, .inl 4, sJk] [] Q) : sRs → sT → Prop) (.inl (some (.inr (.inr (8, (bif (decide ((mA M 0 3) = 2)) then (bsF M n 3 false) else none)))))) t := by
    refine sK_i (pc' := 48) rfl ?_
    refine x_astore (pc' := 50) (ls' := [_, _, _, _, _, _, _, _]) rfl rfl rfl rfl rfl ?_
    refine x_aload (pc' := 52) rfl rfl rfl rfl rfl ?_
    refine x_ifnonnull (a' := 59) (pc' := 55) rfl rfl rfl rfl (fun j0 q25 => ?_) (fun q25 => ?_)
    · refine x_iload (pc' := 61) rfl rfl rfl ?_
      refine x_iload (pc' := 63) rfl rfl rfl ?_
      refine x_if (a' := 74) (pc' := 66) (z := false) rfl rfl rfl (by decide) (fun h => by cases h) (fun _ => ?_)
      refine x_aload (pc' := 68) rfl rfl rfl rfl (ovD_s q25) ?_
      refine x_gI (pc' := 71) (x := (mA M 14 (ovD (bif (decide ((mA M 0 3) = 2)) then (bsF M n 3 false) else none)))) rfl rfl rfl ((kA hM rfl (ovD_lt (obd_c bsF_lt obd_n) q25)).trans (congrFun (Fc.f14 (Fc.refl _)) _)) ?_
      refine x_goto (pc' := 80) rfl rfl ?_
      refine x_iadd (pc' := 81) (z := (0 + (mA M 14 (ovD (bif (decide ((mA M 0 3) = 2)) then (bsF M n 3 false) else none))))) rfl rfl rfl ?_
      refine x_istore (pc' := 83) (ls' := [_, _, _, _, _, _, _, _]) rfl rfl rfl rfl ?_
      refine x_iinc (pc' := 86) (y := 1) (ls' := [_, _, _, _, _, _, _, _]) rfl rfl rfl rfl rfl ?_
      refine x_goto (pc' := 20) rfl rfl ?_
      refine x_iload (pc' := 22) rfl rfl rfl ?_
      refine x_iconst (pc' := 23) rfl rfl ?_
      refine x_icmp (a' := 89) (pc' := 26) (z := false) rfl rfl rfl (by decide) (fun h => by cases h) (fun _ => ?_)
      refine x_aload_n (pc' := 27) rfl rfl rfl rfl rfl ?_
      refine x_aload_n (pc' := 28) rfl rfl rfl rfl rfl ?_
      refine x_iload_n (pc' := 29) rfl rfl rfl ?_
      refine x_iload (pc' := 31) rfl rfl rfl ?_
      refine x_cv (ls0 := [_, _, _, _, sJk, sJk]) (rest := []) rfl rfl rfl rfl rfl ?_
      refine x_aload_n (pc' := 1) rfl rfl rfl rfl rfl ?_
      refine x_gI (pc' := 4) (x := 0) rfl rfl rfl (kI_64_0 hc.1) ?_
      refine x_iconst (pc' := 5) rfl rfl ?_
      refine x_imul (pc' := 6) (z := 0) rfl rfl (by decide) ?_
      refine x_iload_n (pc' := 7) rfl rfl rfl ?_
      refine x_iadd (pc' := 8) (z := 2) rfl rfl (by decide) ?_
      refine x_iconst (pc' := 9) rfl rfl ?_
      refine x_imul (pc' := 10) (z := 6) rfl rfl (by decide) ?_
      refine x_iload_n (pc' := 11) rfl rfl rfl ?_
      refine x_iadd (pc' := 12) (z := 7) rfl rfl (by decide) ?_
      refine x_istore (pc' := 14) (ls' := [_, _, _, _, _, _]) rfl rfl rfl rfl ?_
      refine x_iload_n (pc' := 15) rfl rfl rfl ?_
      refine x_if (a' := 36) (pc' := 18) (z := false) rfl rfl rfl (by decide) (fun h => by cases h) (fun _ => ?_)
      refine x_iload_n (pc' := 19) rfl rfl rfl ?_
      refine x_iconst (pc' := 20) rfl rfl ?_
      refine x_icmp (a' := 36) (pc' := 23) (z := false) rfl rfl rfl (by decide) (fun h => by cases h) (fun _ => ?_)
      refine x_iload_n (pc' := 24) rfl rfl rfl ?_
      refine x_if (a' := 36) (pc' := 27) (z := false) rfl rfl rfl (by decide) (fun h => by cases h) (fun _ => ?_)
      refine x_iload_n (pc' := 28) rfl rfl rfl ?_
      refine x_iconst (pc' := 29) rfl rfl ?_
      refine x_icmp (a' := 36) (pc' := 32) (z := false) rfl rfl rfl (by decide) (fun h => by cases h) (fun _ => ?_)
      refine x_iconst (pc' := 33) rfl rfl ?_
      refine x_goto (pc' := 37) rfl rfl ?_
      refine x_istore (pc' := 39) (ls' := [_, _, _, _, _, _]) rfl rfl rfl rfl ?_
      refine x_iload (pc' := 41) rfl rfl rfl ?_
      refine x_if (a' := 67) (pc' := 44) (z := false) rfl rfl rfl (by decide) (fun h => by cases h) (fun _ => ?_)
      refine x_iload (pc' := 46) rfl rfl rfl ?_
      refine x_if (a' := 67) (pc' := 49) (z := false) rfl rfl rfl (by decide) (fun h => by cases h) (fun _ => ?_)
      refine x_iload (pc' := 51) rfl rfl rfl ?_
      refine x_getstatic (pc' := 54) rfl rfl (show 0 < sC t 28 from gst0 hc.1) ?_
      refine x_alen (pc' := 55) (N := 45) rfl rfl rfl (kN_28_0 hc.1) (?_ : X _ _ _ (.inl 45 :: _) _ _)
      refine x_icmp (a' := 67) (pc' := 58) (z := false) rfl rfl rfl (by decide) (fun h => by cases h) (fun _ => ?_)
      refine x_getstatic (pc' := 61) rfl rfl (show 0 < sC t 28 from gst0 hc.1) ?_
      refine x_iload (pc' := 63) rfl rfl rfl ?_
      refine x_iald (pc' := 64) (N := 45) (x := 5) rfl rfl rfl (kN_28_0 hc.1) (io_in (p := 7) (N := 45) (by decide) (by decide)) (Eq.trans (congrArg (sA t 28 0) (nn_io (p := 7) (by decide))) ((hc.1.2.2.2.2.2 7).1.trans rfl)) ?_
      refine x_goto (pc' := 68) rfl rfl ?_
      refine x_reti rfl rfl ?_
      refine sK_i (pc' := 34) rfl ?_
      refine x_istore (pc' := 36) (ls' := [_, _, _, _, _, _, _, _]) rfl rfl rfl rfl ?_
      refine x_iload (pc' := 38) rfl rfl rfl ?_
      refine x_if (a' := 83) (pc' := 41) (z := false) rfl rfl rfl (by decide) (fun h => by cases h) (fun _ => ?_)
      refine x_aload_n (pc' := 42) rfl rfl rfl rfl rfl ?_
      refine x_iload (pc' := 44) rfl rfl rfl ?_
      refine x_iload_n (pc' := 45) rfl rfl rfl ?_
      refine x_cv (ls0 := [_, _, _, sJk]) (rest := []) rfl rfl rfl rfl rfl ?_
      refine x_iload_n (pc' := 1) rfl rfl rfl ?_
      refine x_abs (pc' := 4) (z := 5) rfl rfl rfl (by decide) ?_
      refine x_iconst (pc' := 5) rfl rfl ?_
      refine x_isub (pc' := 6) (z := 4) rfl rfl (by decide) ?_
      refine x_istore_n (pc' := 7) (ls' := [_, _, _, _]) rfl rfl rfl rfl ?_
      refine x_iload_n (pc' := 8) rfl rfl rfl ?_
      refine x_if (a' := 33) (pc' := 11) (z := false) rfl rfl rfl (by decide) (fun h => by cases h) (fun _ => ?_)
      refine x_iload_n (pc' := 12) rfl rfl rfl ?_
      refine x_aload_n (pc' := 13) rfl rfl rfl rfl rfl ?_
      refine x_gR (pc' := 16) (r := (some 0)) rfl rfl rfl (kR_640_0 hc.1) ?_
      refine x_alen (pc' := 17) (N := 5) rfl rfl rfl (kN_24_0 hc.1) (?_ : X _ _ _ (.inl 5 :: _) _ _)
      refine x_icmp (a' := 33) (pc' := 20) (z := false) rfl rfl rfl (by decide) (fun h => by cases h) (fun _ => ?_)
      refine x_aload_n (pc' := 21) rfl rfl rfl rfl rfl ?_
      refine x_gR (pc' := 24) (r := (some 0)) rfl rfl rfl (kR_640_0 hc.1) ?_
      refine x_iload_n (pc' := 25) rfl rfl rfl ?_
      refine x_aald (pc' := 26) (N := 5) (k' := 1) (r := (some 4)) rfl rfl rfl (kN_24_0 hc.1) (io_in (p := 4) (N := 5) (by decide) (by decide)) (Eq.trans (congrArg (sE t 24 0) (nn_io (p := 4) (by decide))) (kB hc.1 (by decide))) ?_
      refine x_gI (pc' := 29) (x := (mA M 0 4)) rfl rfl rfl (kA hM rfl (show 4 < 5 by decide)) ?_
      refine x_iconst (pc' := 30) rfl rfl ?_
      have J41 : ((sK 79 81 45 [.inr (.inr (10, (some 0))), .inr (.inr (1, (some 0))), .inl 2, .inl (bz true), .inl (0 + (mA M 14 (ovD (bif (decide ((mA M 0 3) = 2)) then (bsF M n 3 false) else none)))), .inl 1, .inl 5, .inr (.inr (8, (bif (decide ((mA M 0 3) = 2)) then (bsF M n 3 false) else none)))] [] Q) : sRs → sT → Prop) (.inl (some (.inr (.inr (8, (bif (decide ((mA M 0 4) = 2)) then (bsF M n 4 false) else none)))))) t := by
        refine sK_i (pc' := 48) rfl ?_
        refine x_astore (pc' := 50) (ls' := [_, _, _, _, _, _, _, _]) rfl rfl rfl rfl rfl ?_
        refine x_aload (pc' := 52) rfl rfl rfl rfl rfl ?_
        refine x_ifnonnull (a' := 59) (pc' := 55) rfl rfl rfl rfl (fun j1 q43 => ?_) (fun q43 => ?_)
        · refine x_iload (pc' := 61) rfl rfl rfl ?_
          refine x_iload (pc' := 63) rfl rfl rfl ?_
          refine x_if (a' := 74) (pc' := 66) (z := false) rfl rfl rfl (by decide) (fun h => by cases h) (fun _ => ?_)
          refine x_aload (pc' := 68) rfl rfl rfl rfl (ovD_s q43) ?_
          refine x_gI (pc' := 71) (x := (mA M 14 (ovD (bif (decide ((mA M 0 4) = 2)) then (bsF M n 4 false) else none)))) rfl rfl rfl ((kA hM rfl (ovD_lt (obd_c bsF_lt obd_n) q43)).trans (congrFun (Fc.f14 (Fc.refl _)) _)) ?_
          refine x_goto (pc' := 80) rfl rfl ?_
          refine x_iadd (pc' := 81) (z := ((0 + (mA M 14 (ovD (bif (decide ((mA M 0 3) = 2)) then (bsF M n 3 false) else none)))) + (mA M 14 (ovD (bif (decide ((mA M 0 4) = 2)) then (bsF M n 4 false) else none))))) rfl rfl rfl ?_
          refine x_istore (pc' := 83) (ls' := [_, _, _, _, _, _, _, _]) rfl rfl rfl rfl ?_
          refine x_iinc (pc' := 86) (y := 2) (ls' := [_, _, _, _, _, _, _, _]) rfl rfl rfl rfl rfl ?_
          refine x_goto (pc' := 20) rfl rfl ?_
          refine x_iload (pc' := 22) rfl rfl rfl ?_
          refine x_iconst (pc' := 23) rfl rfl ?_
          refine x_icmp (a' := 89) (pc' := 26) (z := false) rfl rfl rfl (by decide) (fun h => by cases h) (fun _ => ?_)
          refine x_aload_n (pc' := 27) rfl rfl rfl rfl rfl ?_
          refine x_aload_n (pc' := 28) rfl rfl rfl rfl rfl ?_
          refine x_iload_n (pc' := 29) rfl rfl rfl ?_
          refine x_iload (pc' := 31) rfl rfl rfl ?_
          refine x_cv (ls0 := [_, _, _, _, sJk, sJk]) (rest := []) rfl rfl rfl rfl rfl ?_
          refine x_aload_n (pc' := 1) rfl rfl rfl rfl rfl ?_
          refine x_gI (pc' := 4) (x := 0) rfl rfl rfl (kI_64_0 hc.1) ?_
          refine x_iconst (pc' := 5) rfl rfl ?_
          refine x_imul (pc' := 6) (z := 0) rfl rfl (by decide) ?_
          refine x_iload_n (pc' := 7) rfl rfl rfl ?_
          refine x_iadd (pc' := 8) (z := 2) rfl rfl (by decide) ?_
          refine x_iconst (pc' := 9) rfl rfl ?_
          refine x_imul (pc' := 10) (z := 6) rfl rfl (by decide) ?_
          refine x_iload_n (pc' := 11) rfl rfl rfl ?_
          refine x_iadd (pc' := 12) (z := 8) rfl rfl (by decide) ?_
          refine x_istore (pc' := 14) (ls' := [_, _, _, _, _, _]) rfl rfl rfl rfl ?_
          refine x_iload_n (pc' := 15) rfl rfl rfl ?_
          refine x_if (a' := 36) (pc' := 18) (z := false) rfl rfl rfl (by decide) (fun h => by cases h) (fun _ => ?_)
          refine x_iload_n (pc' := 19) rfl rfl rfl ?_
          refine x_iconst (pc' := 20) rfl rfl ?_
          refine x_icmp (a' := 36) (pc' := 23) (z := false) rfl rfl rfl (by decide) (fun h => by cases h) (fun _ => ?_)
          refine x_iload_n (pc' := 24) rfl rfl rfl ?_
          refine x_if (a' := 36) (pc' := 27) (z := false) rfl rfl rfl (by decide) (fun h => by cases h) (fun _ => ?_)
          refine x_iload_n (pc' := 28) rfl rfl rfl ?_
          refine x_iconst (pc' := 29) rfl rfl ?_
          refine x_icmp (a' := 36) (pc' := 32) (z := false) rfl rfl rfl (by decide) (fun h => by cases h) (fun _ => ?_)
          refine x_iconst (pc' := 33) rfl rfl ?_
          refine x_goto (pc' := 37) rfl rfl ?_
          refine x_istore (pc' := 39) (ls' := [_, _, _, _, _, _]) rfl rfl rfl rfl ?_
          refine x_iload (pc' := 41) rfl rfl rfl ?_
          refine x_if (a' := 67) (pc' := 44) (z := false) rfl rfl rfl (by decide) (fun h => by cases h) (fun _ => ?_)
          refine x_iload (pc' := 46) rfl rfl rfl ?_
          refine x_if (a' := 67) (pc' := 49) (z := false) rfl rfl rfl (by decide) (fun h => by cases h) (fun _ => ?_)
          refine x_iload (pc' := 51) rfl rfl rfl ?_
          refine x_getstatic (pc' := 54) rfl rfl (show 0 < sC t 28 from gst0 hc.1) ?_
          refine x_alen (pc' := 55) (N := 45) rfl rfl rfl (kN_28_0 hc.1) (?_ : X _ _ _ (.inl 45 :: _) _ _)
          refine x_icmp (a' := 67) (pc' := 58) (z := false) rfl rfl rfl (by decide) (fun h => by cases h) (fun _ => ?_)
          refine x_getstatic (pc' := 61) rfl rfl (show 0 < sC t 28 from gst0 hc.1) ?_
          refine x_iload (pc' := 63) rfl rfl rfl ?_
          refine x_iald (pc' := 64) (N := 45) (x := 3) rfl rfl rfl (kN_28_0 hc.1) (io_in (p := 8) (N := 45) (by decide) (by decide)) (Eq.trans (congrArg (sA t 28 0) (nn_io (p := 8) (by decide))) ((hc.1.2.2.2.2.2 8).1.trans rfl)) ?_
          refine x_goto (pc' := 68) rfl rfl ?_
          refine x_reti rfl rfl ?_
          refine sK_i (pc' := 34) rfl ?_
          refine x_istore (pc' := 36) (ls' := [_, _, _, _, _, _, _, _]) rfl rfl rfl rfl ?_
          refine x_iload (pc' := 38) rfl rfl rfl ?_
          refine x_if (a' := 83) (pc' := 41) (z := false) rfl rfl rfl (by decide) (fun h => by cases h) (fun _ => ?_)
          refine x_aload_n (pc' := 42) rfl rfl rfl rfl rfl ?_
          refine x_iload (pc' := 44) rfl rfl rfl ?_
          refine x_iload_n (pc' := 45) rfl rfl rfl ?_
          refine x_cv (ls0 := [_, _, _, sJk]) (rest := []) rfl rfl rfl rfl rfl ?_
          refine x_iload_n (pc' := 1) rfl rfl rfl ?_
          refine x_abs (pc' := 4) (z := 3) rfl rfl rfl (by decide) ?_
          refine x_iconst (pc' := 5) rfl rfl ?_
          refine x_isub (pc' := 6) (z := 2) rfl rfl (by decide) ?_
          refine x_istore_n (pc' := 7) (ls' := [_, _, _, _]) rfl rfl rfl rfl ?_
          refine x_iload_n (pc' := 8) rfl rfl rfl ?_
          refine x_if (a' := 33) (pc' := 11) (z := false) rfl rfl rfl (by decide) (fun h => by cases h) (fun _ => ?_)
          refine x_iload_n (pc' := 12) rfl rfl rfl ?_
          refine x_aload_n (pc' := 13) rfl rfl rfl rfl rfl ?_
          refine x_gR (pc' := 16) (r := (some 0)) rfl rfl rfl (kR_640_0 hc.1) ?_
          refine x_alen (pc' := 17) (N := 5) rfl rfl rfl (kN_24_0 hc.1) (?_ : X _ _ _ (.inl 5 :: _) _ _)
          refine x_icmp (a' := 33) (pc' := 20) (z := false) rfl rfl rfl (by decide) (fun h => by cases h) (fun _ => ?_)
          refine x_aload_n (pc' := 21) rfl rfl rfl rfl rfl ?_
          refine x_gR (pc' := 24) (r := (some 0)) rfl rfl rfl (kR_640_0 hc.1) ?_
          refine x_iload_n (pc' := 25) rfl rfl rfl ?_
          refine x_aald (pc' := 26) (N := 5) (k' := 1) (r := (some 2)) rfl rfl rfl (kN_24_0 hc.1) (io_in (p := 2) (N := 5) (by decide) (by decide)) (Eq.trans (congrArg (sE t 24 0) (nn_io (p := 2) (by decide))) (kB hc.1 (by decide))) ?_
          refine x_gI (pc' := 29) (x := (mA M 0 2)) rfl rfl rfl (kA hM rfl (show 2 < 5 by decide)) ?_
          refine x_iconst (pc' := 30) rfl rfl ?_
          have J59 : ((sK 79 81 45 [.inr (.inr (10, (some 0))), .inr (.inr (1, (some 0))), .inl 2, .inl (bz true), .inl ((0 + (mA M 14 (ovD (bif (decide ((mA M 0 3) = 2)) then (bsF M n 3 false) else none)))) + (mA M 14 (ovD (bif (decide ((mA M 0 4) = 2)) then (bsF M n 4 false) else none)))), .inl 2, .inl 3, .inr (.inr (8, (bif (decide ((mA M 0 4) = 2)) then (bsF M n 4 false) else none)))] [] Q) : sRs → sT → Prop) (.inl (some (.inr (.inr (8, (bif (decide ((mA M 0 2) = 2)) then (bsF M n 2 false) else none)))))) t := by
            refine sK_i (pc' := 48) rfl ?_
            refine x_astore (pc' := 50) (ls' := [_, _, _, _, _, _, _, _]) rfl rfl rfl rfl rfl ?_
            refine x_aload (pc' := 52) rfl rfl rfl rfl rfl ?_
            refine x_ifnonnull (a' := 59) (pc' := 55) rfl rfl rfl rfl (fun j2 q61 => ?_) (fun q61 => ?_)
            · refine x_iload (pc' := 61) rfl rfl rfl ?_
              refine x_iload (pc' := 63) rfl rfl rfl ?_
              refine x_if (a' := 74) (pc' := 66) (z := false) rfl rfl rfl (by decide) (fun h => by cases h) (fun _ => ?_)
              refine x_aload (pc' := 68) rfl rfl rfl rfl (ovD_s q61) ?_
              refine x_gI (pc' := 71) (x := (mA M 14 (ovD (bif (decide ((mA M 0 2) = 2)) then (bsF M n 2 false) else none)))) rfl rfl rfl ((kA hM rfl (ovD_lt (obd_c bsF_lt obd_n) q61)).trans (congrFun (Fc.f14 (Fc.refl _)) _)) ?_
              refine x_goto (pc' := 80) rfl rfl ?_
              refine x_iadd (pc' := 81) (z := (((0 + (mA M 14 (ovD (bif (decide ((mA M 0 3) = 2)) then (bsF M n 3 false) else none)))) + (mA M 14 (ovD (bif (decide ((mA M 0 4) = 2)) then (bsF M n 4 false) else none)))) + (mA M 14 (ovD (bif (decide ((mA M 0 2) = 2)) then (bsF M n 2 false) else none))))) rfl rfl rfl ?_
              refine x_istore (pc' := 83) (ls' := [_, _, _, _, _, _, _, _]) rfl rfl rfl rfl ?_
              refine x_iinc (pc' := 86) (y := 3) (ls' := [_, _, _, _, _, _, _, _]) rfl rfl rfl rfl rfl ?_
              refine x_goto (pc' := 20) rfl rfl ?_
              refine x_iload (pc' := 22) rfl rfl rfl ?_
              refine x_iconst (pc' := 23) rfl rfl ?_
              refine x_icmp (a' := 89) (pc' := 26) (z := true) rfl rfl rfl (by decide) (fun _ => ?_) (fun h => by cases h)
              refine x_iload (pc' := 91) rfl rfl rfl ?_
              refine x_reti rfl rfl ?_
              exact qv (by simp only [cp02tF, (isSome_s q25), (isSome_s q43), (isSome_s q61), cd_t, cd_f]) (q )
            · refine x_sipush (pc' := 58) rfl rfl ?_
              refine x_reti rfl rfl ?_
              exact qv (by simp only [cp02tF, (isSome_s q25), (isSome_s q43), (isSome_n q61), cd_t, cd_f]) (q )
          refine x_icmp (a' := 35) (pc' := 33) (z := decide ((mA M 0 2) = 2)) rfl rfl rfl rfl (fun q56 => ?_) (fun q56 => ?_)
          · refine x_aload_n (pc' := 36) rfl rfl rfl rfl rfl ?_
            refine x_gR (pc' := 39) (r := (some 0)) rfl rfl rfl (kR_640_0 hc.1) ?_
            refine x_iload_n (pc' := 40) rfl rfl rfl ?_
            refine x_aald (pc' := 41) (N := 5) (k' := 1) (r := (some 2)) rfl rfl rfl (kN_24_0 hc.1) (io_in (p := 2) (N := 5) (by decide) (by decide)) (Eq.trans (congrArg (sE t 24 0) (nn_io (p := 2) (by decide))) (kB hc.1 (by decide))) ?_
            refine x_iload_n (pc' := 42) rfl rfl rfl ?_
            refine x_if (a' := 57) (pc' := 45) (z := false) rfl rfl rfl (by decide) (fun h => by cases h) (fun _ => ?_)
            refine x_iload_n (pc' := 46) rfl rfl rfl ?_
            refine x_if (a' := 53) (pc' := 49) (z := true) rfl rfl rfl (by decide) (fun _ => ?_) (fun h => by cases h)
            refine x_iconst (pc' := 54) rfl rfl ?_
            refine x_goto (pc' := 58) rfl rfl ?_
            refine x_cv (ls0 := [_, _]) (rest := []) rfl rfl rfl rfl rfl ?_
            refine x_iload_n (pc' := 1) rfl rfl rfl ?_
            refine x_if (a' := 11) (pc' := 4) (z := true) rfl rfl rfl (by decide) (fun _ => ?_) (fun h => by cases h)
            refine x_aload_n (pc' := 12) rfl rfl rfl rfl rfl ?_
            refine x_gR (pc' := 15) (r := (bsF M n 2 false)) rfl rfl rfl (bs_70 hC (Fc.ri (Fc.refl _) hR) hM (by decide)) ?_
            refine x_reta rfl rfl ?_
            refine sK_i (pc' := 61) rfl ?_
            refine x_reta rfl rfl ?_
            ((try rw [q56] at J59); (try rw [q56]); (try simp only [cd_t, cd_f, nt_t, nt_f, an_t, an_f, or_t, or_f] at J59); (try simp only [cd_t, cd_f, nt_t, nt_f, an_t, an_f, or_t, or_f]); exact J59)
          · refine x_null (pc' := 34) rfl rfl rfl ?_
            refine x_reta rfl rfl ?_
            ((try rw [q56] at J59); (try rw [q56]); (try simp only [cd_t, cd_f, nt_t, nt_f, an_t, an_f, or_t, or_f] at J59); (try simp only [cd_t, cd_f, nt_t, nt_f, an_t, an_f, or_t, or_f]); exact J59)
        · refine x_sipush (pc' := 58) rfl rfl ?_
          refine x_reti rfl rfl ?_
          exact qv (by simp only [cp02tF, (isSome_s q25), (isSome_n q43), cd_t, cd_f]) (q )
      refine x_icmp (a' := 35) (pc' := 33) (z := decide ((mA M 0 4) = 2)) rfl rfl rfl rfl (fun q38 => ?_) (fun q38 => ?_)
      · refine x_aload_n (pc' := 36) rfl rfl rfl rfl rfl ?_
        refine x_gR (pc' := 39) (r := (some 0)) rfl rfl rfl (kR_640_0 hc.1) ?_
        refine x_iload_n (pc' := 40) rfl rfl rfl ?_
        refine x_aald (pc' := 41) (N := 5) (k' := 1) (r := (some 4)) rfl rfl rfl (kN_24_0 hc.1) (io_in (p := 4) (N := 5) (by decide) (by decide)) (Eq.trans (congrArg (sE t 24 0) (nn_io (p := 4) (by decide))) (kB hc.1 (by decide))) ?_
        refine x_iload_n (pc' := 42) rfl rfl rfl ?_
        refine x_if (a' := 57) (pc' := 45) (z := false) rfl rfl rfl (by decide) (fun h => by cases h) (fun _ => ?_)
        refine x_iload_n (pc' := 46) rfl rfl rfl ?_
        refine x_if (a' := 53) (pc' := 49) (z := true) rfl rfl rfl (by decide) (fun _ => ?_) (fun h => by cases h)
        refine x_iconst (pc' := 54) rfl rfl ?_
        refine x_goto (pc' := 58) rfl rfl ?_
        refine x_cv (ls0 := [_, _]) (rest := []) rfl rfl rfl rfl rfl ?_
        refine x_iload_n (pc' := 1) rfl rfl rfl ?_
        refine x_if (a' := 11) (pc' := 4) (z := true) rfl rfl rfl (by decide) (fun _ => ?_) (fun h => by cases h)
        refine x_aload_n (pc' := 12) rfl rfl rfl rfl rfl ?_
        refine x_gR (pc' := 15) (r := (bsF M n 4 false)) rfl rfl rfl (bs_70 hC (Fc.ri (Fc.refl _) hR) hM (by decide)) ?_
        refine x_reta rfl rfl ?_
        refine sK_i (pc' := 61) rfl ?_
        refine x_reta rfl rfl ?_
        ((try rw [q38] at J41); (try rw [q38]); (try simp only [cd_t, cd_f, nt_t, nt_f, an_t, an_f, or_t, or_f] at J41); (try simp only [cd_t, cd_f, nt_t, nt_f, an_t, an_f, or_t, or_f]); exact J41)
      · refine x_null (pc' := 34) rfl rfl rfl ?_
        refine x_reta rfl rfl ?_
        ((try rw [q38] at J41); (try rw [q38]); (try simp only [cd_t, cd_f, nt_t, nt_f, an_t, an_f, or_t, or_f] at J41); (try simp only [cd_t, cd_f, nt_t, nt_f, an_t, an_f, or_t, or_f]); exact J41)
    · refine x_sipush (pc' := 58) rfl rfl ?_
      refine x_reti rfl rfl ?_
      exact qv (by simp only [cp02tF, (isSome_n q25), cd_t, cd_f]) (q )
  refine x_icmp (a' := 35) (pc' := 33) (z := decide ((mA M 0 3) = 2)) rfl rfl rfl rfl (fun q20 => ?_) (fun q20 => ?_)
  · refine x_aload_n (pc' := 36) rfl rfl rfl rfl rfl ?_
    refine x_gR (pc' := 39) (r := (some 0)) rfl rfl rfl (kR_640_0 hc.1) ?_
    refine x_iload_n (pc' := 40) rfl rfl rfl ?_
    refine x_aald (pc' := 41) (N := 5) (k' := 1) (r := (some 3)) rfl rfl rfl (kN_24_0 hc.1) (io_in (p := 3) (N := 5) (by decide) (by decide)) (Eq.trans (congrArg (sE t 24 0) (nn_io (p := 3) (by decide))) (kB hc.1 (by decide))) ?_
    refine x_iload_n (pc' := 42) rfl rfl rfl ?_
    refine x_if (a' := 57) (pc' := 45) (z := false) rfl rfl rfl (by decide) (fun h => by cases h) (fun _ => ?_)
    refine x_iload_n (pc' := 46) rfl rfl rfl ?_
    refine x_if (a' := 53) (pc' := 49) (z := true) rfl rfl rfl (by decide) (fun _ => ?_) (fun h => by cases h)
    refine x_iconst (pc' := 54) rfl rfl ?_
    refine x_goto (pc' := 58) rfl rfl ?_
    refine x_cv (ls0 := [_, _]) (rest := []) rfl rfl rfl rfl rfl ?_
    refine x_iload_n (pc' := 1) rfl rfl rfl ?_
    refine x_if (a' := 11) (pc' := 4) (z := true) rfl rfl rfl (by decide) (fun _ => ?_) (fun h => by cases h)
    refine x_aload_n (pc' := 12) rfl rfl rfl rfl rfl ?_
    refine x_gR (pc' := 15) (r := (bsF M n 3 false)) rfl rfl rfl (bs_70 hC (Fc.ri (Fc.refl _) hR) hM (by decide)) ?_
    refine x_reta rfl rfl ?_
    refine sK_i (pc' := 61) rfl ?_
    refine x_reta rfl rfl ?_
    ((try rw [q20] at J23); (try rw [q20]); (try simp only [cd_t, cd_f, nt_t, nt_f, an_t, an_f, or_t, or_f] at J23); (try simp only [cd_t, cd_f, nt_t, nt_f, an_t, an_f, or_t, or_f]); exact J23)
  · refine x_null (pc' := 34) rfl rfl rfl ?_
    refine x_reta rfl rfl ?_
    ((try rw [q20] at J23); (try rw [q20]); (try simp only [cd_t, cd_f, nt_t, nt_f, an_t, an_f, or_t, or_f] at J23); (try simp only [cd_t, cd_f, nt_t, nt_f, an_t, an_f, or_t, or_f]); exact J23)
def cp10fF (M : sM) (n : Nat) : Int32 := (bif (bif (decide ((mA M 0 1) = 2)) then (bsF M n 1 true) else none).isSome then (0 + (mA M 14 (ovD (bif (decide ((mA M 0 1) = 2)) then (bsF M n 1 true) else none)))) else (-10000))
set_option maxHeartbeats 4000000 in
set_option maxRecDepth 10000 in
theorem c81_10f {t : sT} {Q : sRs → sT → Prop} {M : sM} {n : Nat} {T : Nat}
    (hM : Rl t M n T)
    (hc : Sf t M n T)
    (hR : Ri M n)
    (hC : rlC t M n)
    (q : Q (.inl (some (.inl (cp10fF M n)))) t) :
    X 81 0 [.inr (.inr (10, (some 0))), .inr (.inr (1, (some 1))), .inl 0, .inl (bz false), sJk, sJk, sJk, sJk] [] t Q := by
  refine x_aload_n (pc' := 1) rfl rfl rfl rfl rfl ?_
  refine x_aload_n (pc' := 2) rfl rfl rfl rfl rfl ?_
  refine x_iload_n (pc' := 3) rfl rfl rfl ?_
  refine x_iconst (pc' := 4) rfl rfl ?_
  refine x_cv (ls0 := [_, _, _, _, sJk, sJk]) (rest := []) rfl rfl rfl rfl rfl ?_
  refine x_aload_n (pc' := 1) rfl rfl rfl rfl rfl ?_
  refine x_gI (pc' := 4) (x := 1) rfl rfl rfl (kI_64_1 hc.1) ?_
  refine x_iconst (pc' := 5) rfl rfl ?_
  refine x_imul (pc' := 6) (z := 3) rfl rfl (by decide) ?_
  refine x_iload_n (pc' := 7) rfl rfl rfl ?_
  refine x_iadd (pc' := 8) (z := 3) rfl rfl (by decide) ?_
  refine x_iconst (pc' := 9) rfl rfl ?_
  refine x_imul (pc' := 10) (z := 9) rfl rfl (by decide) ?_
  refine x_iload_n (pc' := 11) rfl rfl rfl ?_
  refine x_iadd (pc' := 12) (z := 9) rfl rfl (by decide) ?_
  refine x_istore (pc' := 14) (ls' := [_, _, _, _, _, _]) rfl rfl rfl rfl ?_
  refine x_iload_n (pc' := 15) rfl rfl rfl ?_
  refine x_if (a' := 36) (pc' := 18) (z := false) rfl rfl rfl (by decide) (fun h => by cases h) (fun _ => ?_)
  refine x_iload_n (pc' := 19) rfl rfl rfl ?_
  refine x_iconst (pc' := 20) rfl rfl ?_
  refine x_icmp (a' := 36) (pc' := 23) (z := false) rfl rfl rfl (by decide) (fun h => by cases h) (fun _ => ?_)
  refine x_iload_n (pc' := 24) rfl rfl rfl ?_
  refine x_if (a' := 36) (pc' := 27) (z := false) rfl rfl rfl (by decide) (fun h => by cases h) (fun _ => ?_)
  refine x_iload_n (pc' := 28) rfl rfl rfl ?_
  refine x_iconst (pc' := 29) rfl rfl ?_
  refine x_icmp (a' := 36) (pc' := 32) (z := false) rfl rfl rfl (by decide) (fun h => by cases h) (fun _ => ?_)
  refine x_iconst (pc' := 33) rfl rfl ?_
  refine x_goto (pc' := 37) rfl rfl ?_
  refine x_istore (pc' := 39) (ls' := [_, _, _, _, _, _]) rfl rfl rfl rfl ?_
  refine x_iload (pc' := 41) rfl rfl rfl ?_
  refine x_if (a' := 67) (pc' := 44) (z := false) rfl rfl rfl (by decide) (fun h => by cases h) (fun _ => ?_)
  refine x_iload (pc' := 46) rfl rfl rfl ?_
  refine x_if (a' := 67) (pc' := 49) (z := false) rfl rfl rfl (by decide) (fun h => by cases h) (fun _ => ?_)
  refine x_iload (pc' := 51) rfl rfl rfl ?_
  refine x_getstatic (pc' := 54) rfl rfl (show 0 < sC t 28 from gst0 hc.1) ?_
  refine x_alen (pc' := 55) (N := 45) rfl rfl rfl (kN_28_0 hc.1) (?_ : X _ _ _ (.inl 45 :: _) _ _)
  refine x_icmp (a' := 67) (pc' := 58) (z := false) rfl rfl rfl (by decide) (fun h => by cases h) (fun _ => ?_)
  refine x_getstatic (pc' := 61) rfl rfl (show 0 < sC t 28 from gst0 hc.1) ?_
  refine x_iload (pc' := 63) rfl rfl rfl ?_
  refine x_iald (pc' := 64) (N := 45) (x := 2) rfl rfl rfl (kN_28_0 hc.1) (io_in (p := 9) (N := 45) (by decide) (by decide)) (Eq.trans (congrArg (sA t 28 0) (nn_io (p := 9) (by decide))) ((hc.1.2.2.2.2.2 9).1.trans rfl)) ?_
  refine x_goto (pc' := 68) rfl rfl ?_
  refine x_reti rfl rfl ?_
  refine sK_i (pc' := 7) rfl ?_
  refine x_if (a' := 14) (pc' := 10) (z := true) rfl rfl rfl (by decide) (fun _ => ?_) (fun h => by cases h)
  refine x_iconst (pc' := 15) rfl rfl ?_
  refine x_istore (pc' := 17) (ls' := [_, _, _, _, _, _, _, _]) rfl rfl rfl rfl ?_
  refine x_iconst (pc' := 18) rfl rfl ?_
  refine x_istore (pc' := 20) (ls' := [_, _, _, _, _, _, _, _]) rfl rfl rfl rfl ?_
  refine x_iload (pc' := 22) rfl rfl rfl ?_
  refine x_iconst (pc' := 23) rfl rfl ?_
  refine x_icmp (a' := 89) (pc' := 26) (z := false) rfl rfl rfl (by decide) (fun h => by cases h) (fun _ => ?_)
  refine x_aload_n (pc' := 27) rfl rfl rfl rfl rfl ?_
  refine x_aload_n (pc' := 28) rfl rfl rfl rfl rfl ?_
  refine x_iload_n (pc' := 29) rfl rfl rfl ?_
  refine x_iload (pc' := 31) rfl rfl rfl ?_
  refine x_cv (ls0 := [_, _, _, _, sJk, sJk]) (rest := []) rfl rfl rfl rfl rfl ?_
  refine x_aload_n (pc' := 1) rfl rfl rfl rfl rfl ?_
  refine x_gI (pc' := 4) (x := 1) rfl rfl rfl (kI_64_1 hc.1) ?_
  refine x_iconst (pc' := 5) rfl rfl ?_
  refine x_imul (pc' := 6) (z := 3) rfl rfl (by decide) ?_
  refine x_iload_n (pc' := 7) rfl rfl rfl ?_
  refine x_iadd (pc' := 8) (z := 3) rfl rfl (by decide) ?_
  refine x_iconst (pc' := 9) rfl rfl ?_
  refine x_imul (pc' := 10) (z := 9) rfl rfl (by decide) ?_
  refine x_iload_n (pc' := 11) rfl rfl rfl ?_
  refine x_iadd (pc' := 12) (z := 9) rfl rfl (by decide) ?_
  refine x_istore (pc' := 14) (ls' := [_, _, _, _, _, _]) rfl rfl rfl rfl ?_
  refine x_iload_n (pc' := 15) rfl rfl rfl ?_
  refine x_if (a' := 36) (pc' := 18) (z := false) rfl rfl rfl (by decide) (fun h => by cases h) (fun _ => ?_)
  refine x_iload_n (pc' := 19) rfl rfl rfl ?_
  refine x_iconst (pc' := 20) rfl rfl ?_
  refine x_icmp (a' := 36) (pc' := 23) (z := false) rfl rfl rfl (by decide) (fun h => by cases h) (fun _ => ?_)
  refine x_iload_n (pc' := 24) rfl rfl rfl ?_
  refine x_if (a' := 36) (pc' := 27) (z := false) rfl rfl rfl (by decide) (fun h => by cases h) (fun _ => ?_)
  refine x_iload_n (pc' := 28) rfl rfl rfl ?_
  refine x_iconst (pc' := 29) rfl rfl ?_
  refine x_icmp (a' := 36) (pc' := 32) (z := false) rfl rfl rfl (by decide) (fun h => by cases h) (fun _ => ?_)
  refine x_iconst (pc' := 33) rfl rfl ?_
  refine x_goto (pc' := 37) rfl rfl ?_
  refine x_istore (pc' := 39) (ls' := [_, _, _, _, _, _]) rfl rfl rfl rfl ?_
  refine x_iload (pc' := 41) rfl rfl rfl ?_
  refine x_if (a' := 67) (pc' := 44) (z := false) rfl rfl rfl (by decide) (fun h => by cases h) (fun _ => ?_)
  refine x_iload (pc' := 46) rfl rfl rfl ?_
  refine x_if (a' := 67) (pc' := 49) (z := false) rfl rfl rfl (by decide) (fun h => by cases h) (fun _ => ?_)
  refine x_iload (pc' := 51) rfl rfl rfl ?_
  refine x_getstatic (pc' := 54) rfl rfl (show 0 < sC t 28 from gst0 hc.1) ?_
  refine x_alen (pc' := 55) (N := 45) rfl rfl rfl (kN_28_0 hc.1) (?_ : X _ _ _ (.inl 45 :: _) _ _)
  refine x_icmp (a' := 67) (pc' := 58) (z := false) rfl rfl rfl (by decide) (fun h => by cases h) (fun _ => ?_)
  refine x_getstatic (pc' := 61) rfl rfl (show 0 < sC t 28 from gst0 hc.1) ?_
  refine x_iload (pc' := 63) rfl rfl rfl ?_
  refine x_iald (pc' := 64) (N := 45) (x := 2) rfl rfl rfl (kN_28_0 hc.1) (io_in (p := 9) (N := 45) (by decide) (by decide)) (Eq.trans (congrArg (sA t 28 0) (nn_io (p := 9) (by decide))) ((hc.1.2.2.2.2.2 9).1.trans rfl)) ?_
  refine x_goto (pc' := 68) rfl rfl ?_
  refine x_reti rfl rfl ?_
  refine sK_i (pc' := 34) rfl ?_
  refine x_istore (pc' := 36) (ls' := [_, _, _, _, _, _, _, _]) rfl rfl rfl rfl ?_
  refine x_iload (pc' := 38) rfl rfl rfl ?_
  refine x_if (a' := 83) (pc' := 41) (z := false) rfl rfl rfl (by decide) (fun h => by cases h) (fun _ => ?_)
  refine x_aload_n (pc' := 42) rfl rfl rfl rfl rfl ?_
  refine x_iload (pc' := 44) rfl rfl rfl ?_
  refine x_iload_n (pc' := 45) rfl rfl rfl ?_
  refine x_cv (ls0 := [_, _, _, sJk]) (rest := []) rfl rfl rfl rfl rfl ?_
  refine x_iload_n (pc' := 1) rfl rfl rfl ?_
  refine x_abs (pc' := 4) (z := 2) rfl rfl rfl (by decide) ?_
  refine x_iconst (pc' := 5) rfl rfl ?_
  refine x_isub (pc' := 6) (z := 1) rfl rfl (by decide) ?_
  refine x_istore_n (pc' := 7) (ls' := [_, _, _, _]) rfl rfl rfl rfl ?_
  refine x_iload_n (pc' := 8) rfl rfl rfl ?_
  refine x_if (a' := 33) (pc' := 11) (z := false) rfl rfl rfl (by decide) (fun h => by cases h) (fun _ => ?_)
  refine x_iload_n (pc' := 12) rfl rfl rfl ?_
  refine x_aload_n (pc' := 13) rfl rfl rfl rfl rfl ?_
  refine x_gR (pc' := 16) (r := (some 0)) rfl rfl rfl (kR_640_0 hc.1) ?_
  refine x_alen (pc' := 17) (N := 5) rfl rfl rfl (kN_24_0 hc.1) (?_ : X _ _ _ (.inl 5 :: _) _ _)
  refine x_icmp (a' := 33) (pc' := 20) (z := false) rfl rfl rfl (by decide) (fun h => by cases h) (fun _ => ?_)
  refine x_aload_n (pc' := 21) rfl rfl rfl rfl rfl ?_
  refine x_gR (pc' := 24) (r := (some 0)) rfl rfl rfl (kR_640_0 hc.1) ?_
  refine x_iload_n (pc' := 25) rfl rfl rfl ?_
  refine x_aald (pc' := 26) (N := 5) (k' := 1) (r := (some 1)) rfl rfl rfl (kN_24_0 hc.1) (io_in (p := 1) (N := 5) (by decide) (by decide)) (Eq.trans (congrArg (sE t 24 0) (nn_io (p := 1) (by decide))) (kB hc.1 (by decide))) ?_
  refine x_gI (pc' := 29) (x := (mA M 0 1)) rfl rfl rfl (kA hM rfl (show 1 < 5 by decide)) ?_
  refine x_iconst (pc' := 30) rfl rfl ?_
  have J23 : ((sK 79 81 45 [.inr (.inr (10, (some 0))), .inr (.inr (1, (some 1))), .inl 0, .inl (bz false), .inl 0, .inl 0, .inl 2, sJk] [] Q) : sRs → sT → Prop) (.inl (some (.inr (.inr (8, (bif (decide ((mA M 0 1) = 2)) then (bsF M n 1 true) else none)))))) t := by
    refine sK_i (pc' := 48) rfl ?_
    refine x_astore (pc' := 50) (ls' := [_, _, _, _, _, _, _, _]) rfl rfl rfl rfl rfl ?_
    refine x_aload (pc' := 52) rfl rfl rfl rfl rfl ?_
    refine x_ifnonnull (a' := 59) (pc' := 55) rfl rfl rfl rfl (fun j0 q25 => ?_) (fun q25 => ?_)
    · refine x_iload (pc' := 61) rfl rfl rfl ?_
      refine x_iload (pc' := 63) rfl rfl rfl ?_
      refine x_if (a' := 74) (pc' := 66) (z := false) rfl rfl rfl (by decide) (fun h => by cases h) (fun _ => ?_)
      refine x_aload (pc' := 68) rfl rfl rfl rfl (ovD_s q25) ?_
      refine x_gI (pc' := 71) (x := (mA M 14 (ovD (bif (decide ((mA M 0 1) = 2)) then (bsF M n 1 true) else none)))) rfl rfl rfl ((kA hM rfl (ovD_lt (obd_c bsF_lt obd_n) q25)).trans (congrFun (Fc.f14 (Fc.refl _)) _)) ?_
      refine x_goto (pc' := 80) rfl rfl ?_
      refine x_iadd (pc' := 81) (z := (0 + (mA M 14 (ovD (bif (decide ((mA M 0 1) = 2)) then (bsF M n 1 true) else none))))) rfl rfl rfl ?_
      refine x_istore (pc' := 83) (ls' := [_, _, _, _, _, _, _, _]) rfl rfl rfl rfl ?_
      refine x_iinc (pc' := 86) (y := 1) (ls' := [_, _, _, _, _, _, _, _]) rfl rfl rfl rfl rfl ?_
      refine x_goto (pc' := 20) rfl rfl ?_
      refine x_iload (pc' := 22) rfl rfl rfl ?_
      refine x_iconst (pc' := 23) rfl rfl ?_
      refine x_icmp (a' := 89) (pc' := 26) (z := false) rfl rfl rfl (by decide) (fun h => by cases h) (fun _ => ?_)
      refine x_aload_n (pc' := 27) rfl rfl rfl rfl rfl ?_
      refine x_aload_n (pc' := 28) rfl rfl rfl rfl rfl ?_
      refine x_iload_n (pc' := 29) rfl rfl rfl ?_
      refine x_iload (pc' := 31) rfl rfl rfl ?_
      refine x_cv (ls0 := [_, _, _, _, sJk, sJk]) (rest := []) rfl rfl rfl rfl rfl ?_
      refine x_aload_n (pc' := 1) rfl rfl rfl rfl rfl ?_
      refine x_gI (pc' := 4) (x := 1) rfl rfl rfl (kI_64_1 hc.1) ?_
      refine x_iconst (pc' := 5) rfl rfl ?_
      refine x_imul (pc' := 6) (z := 3) rfl rfl (by decide) ?_
      refine x_iload_n (pc' := 7) rfl rfl rfl ?_
      refine x_iadd (pc' := 8) (z := 3) rfl rfl (by decide) ?_
      refine x_iconst (pc' := 9) rfl rfl ?_
      refine x_imul (pc' := 10) (z := 9) rfl rfl (by decide) ?_
      refine x_iload_n (pc' := 11) rfl rfl rfl ?_
      refine x_iadd (pc' := 12) (z := 10) rfl rfl (by decide) ?_
      refine x_istore (pc' := 14) (ls' := [_, _, _, _, _, _]) rfl rfl rfl rfl ?_
      refine x_iload_n (pc' := 15) rfl rfl rfl ?_
      refine x_if (a' := 36) (pc' := 18) (z := false) rfl rfl rfl (by decide) (fun h => by cases h) (fun _ => ?_)
      refine x_iload_n (pc' := 19) rfl rfl rfl ?_
      refine x_iconst (pc' := 20) rfl rfl ?_
      refine x_icmp (a' := 36) (pc' := 23) (z := false) rfl rfl rfl (by decide) (fun h => by cases h) (fun _ => ?_)
      refine x_iload_n (pc' := 24) rfl rfl rfl ?_
      refine x_if (a' := 36) (pc' := 27) (z := false) rfl rfl rfl (by decide) (fun h => by cases h) (fun _ => ?_)
      refine x_iload_n (pc' := 28) rfl rfl rfl ?_
      refine x_iconst (pc' := 29) rfl rfl ?_
      refine x_icmp (a' := 36) (pc' := 32) (z := false) rfl rfl rfl (by decide) (fun h => by cases h) (fun _ => ?_)
      refine x_iconst (pc' := 33) rfl rfl ?_
      refine x_goto (pc' := 37) rfl rfl ?_
      refine x_istore (pc' := 39) (ls' := [_, _, _, _, _, _]) rfl rfl rfl rfl ?_
      refine x_iload (pc' := 41) rfl rfl rfl ?_
      refine x_if (a' := 67) (pc' := 44) (z := false) rfl rfl rfl (by decide) (fun h => by cases h) (fun _ => ?_)
      refine x_iload (pc' := 46) rfl rfl rfl ?_
      refine x_if (a' := 67) (pc' := 49) (z := false) rfl rfl rfl (by decide) (fun h => by cases h) (fun _ => ?_)
      refine x_iload (pc' := 51) rfl rfl rfl ?_
      refine x_getstatic (pc' := 54) rfl rfl (show 0 < sC t 28 from gst0 hc.1) ?_
      refine x_alen (pc' := 55) (N := 45) rfl rfl rfl (kN_28_0 hc.1) (?_ : X _ _ _ (.inl 45 :: _) _ _)
      refine x_icmp (a' := 67) (pc' := 58) (z := false) rfl rfl rfl (by decide) (fun h => by cases h) (fun _ => ?_)
      refine x_getstatic (pc' := 61) rfl rfl (show 0 < sC t 28 from gst0 hc.1) ?_
      refine x_iload (pc' := 63) rfl rfl rfl ?_
      refine x_iald (pc' := 64) (N := 45) (x := 0) rfl rfl rfl (kN_28_0 hc.1) (io_in (p := 10) (N := 45) (by decide) (by decide)) (Eq.trans (congrArg (sA t 28 0) (nn_io (p := 10) (by decide))) ((hc.1.2.2.2.2.2 10).1.trans rfl)) ?_
      refine x_goto (pc' := 68) rfl rfl ?_
      refine x_reti rfl rfl ?_
      refine sK_i (pc' := 34) rfl ?_
      refine x_istore (pc' := 36) (ls' := [_, _, _, _, _, _, _, _]) rfl rfl rfl rfl ?_
      refine x_iload (pc' := 38) rfl rfl rfl ?_
      refine x_if (a' := 83) (pc' := 41) (z := true) rfl rfl rfl (by decide) (fun _ => ?_) (fun h => by cases h)
      refine x_iinc (pc' := 86) (y := 2) (ls' := [_, _, _, _, _, _, _, _]) rfl rfl rfl rfl rfl ?_
      refine x_goto (pc' := 20) rfl rfl ?_
      refine x_iload (pc' := 22) rfl rfl rfl ?_
      refine x_iconst (pc' := 23) rfl rfl ?_
      refine x_icmp (a' := 89) (pc' := 26) (z := false) rfl rfl rfl (by decide) (fun h => by cases h) (fun _ => ?_)
      refine x_aload_n (pc' := 27) rfl rfl rfl rfl rfl ?_
      refine x_aload_n (pc' := 28) rfl rfl rfl rfl rfl ?_
      refine x_iload_n (pc' := 29) rfl rfl rfl ?_
      refine x_iload (pc' := 31) rfl rfl rfl ?_
      refine x_cv (ls0 := [_, _, _, _, sJk, sJk]) (rest := []) rfl rfl rfl rfl rfl ?_
      refine x_aload_n (pc' := 1) rfl rfl rfl rfl rfl ?_
      refine x_gI (pc' := 4) (x := 1) rfl rfl rfl (kI_64_1 hc.1) ?_
      refine x_iconst (pc' := 5) rfl rfl ?_
      refine x_imul (pc' := 6) (z := 3) rfl rfl (by decide) ?_
      refine x_iload_n (pc' := 7) rfl rfl rfl ?_
      refine x_iadd (pc' := 8) (z := 3) rfl rfl (by decide) ?_
      refine x_iconst (pc' := 9) rfl rfl ?_
      refine x_imul (pc' := 10) (z := 9) rfl rfl (by decide) ?_
      refine x_iload_n (pc' := 11) rfl rfl rfl ?_
      refine x_iadd (pc' := 12) (z := 11) rfl rfl (by decide) ?_
      refine x_istore (pc' := 14) (ls' := [_, _, _, _, _, _]) rfl rfl rfl rfl ?_
      refine x_iload_n (pc' := 15) rfl rfl rfl ?_
      refine x_if (a' := 36) (pc' := 18) (z := false) rfl rfl rfl (by decide) (fun h => by cases h) (fun _ => ?_)
      refine x_iload_n (pc' := 19) rfl rfl rfl ?_
      refine x_iconst (pc' := 20) rfl rfl ?_
      refine x_icmp (a' := 36) (pc' := 23) (z := false) rfl rfl rfl (by decide) (fun h => by cases h) (fun _ => ?_)
      refine x_iload_n (pc' := 24) rfl rfl rfl ?_
      refine x_if (a' := 36) (pc' := 27) (z := false) rfl rfl rfl (by decide) (fun h => by cases h) (fun _ => ?_)
      refine x_iload_n (pc' := 28) rfl rfl rfl ?_
      refine x_iconst (pc' := 29) rfl rfl ?_
      refine x_icmp (a' := 36) (pc' := 32) (z := false) rfl rfl rfl (by decide) (fun h => by cases h) (fun _ => ?_)
      refine x_iconst (pc' := 33) rfl rfl ?_
      refine x_goto (pc' := 37) rfl rfl ?_
      refine x_istore (pc' := 39) (ls' := [_, _, _, _, _, _]) rfl rfl rfl rfl ?_
      refine x_iload (pc' := 41) rfl rfl rfl ?_
      refine x_if (a' := 67) (pc' := 44) (z := false) rfl rfl rfl (by decide) (fun h => by cases h) (fun _ => ?_)
      refine x_iload (pc' := 46) rfl rfl rfl ?_
      refine x_if (a' := 67) (pc' := 49) (z := false) rfl rfl rfl (by decide) (fun h => by cases h) (fun _ => ?_)
      refine x_iload (pc' := 51) rfl rfl rfl ?_
      refine x_getstatic (pc' := 54) rfl rfl (show 0 < sC t 28 from gst0 hc.1) ?_
      refine x_alen (pc' := 55) (N := 45) rfl rfl rfl (kN_28_0 hc.1) (?_ : X _ _ _ (.inl 45 :: _) _ _)
      refine x_icmp (a' := 67) (pc' := 58) (z := false) rfl rfl rfl (by decide) (fun h => by cases h) (fun _ => ?_)
      refine x_getstatic (pc' := 61) rfl rfl (show 0 < sC t 28 from gst0 hc.1) ?_
      refine x_iload (pc' := 63) rfl rfl rfl ?_
      refine x_iald (pc' := 64) (N := 45) (x := 0) rfl rfl rfl (kN_28_0 hc.1) (io_in (p := 11) (N := 45) (by decide) (by decide)) (Eq.trans (congrArg (sA t 28 0) (nn_io (p := 11) (by decide))) ((hc.1.2.2.2.2.2 11).1.trans rfl)) ?_
      refine x_goto (pc' := 68) rfl rfl ?_
      refine x_reti rfl rfl ?_
      refine sK_i (pc' := 34) rfl ?_
      refine x_istore (pc' := 36) (ls' := [_, _, _, _, _, _, _, _]) rfl rfl rfl rfl ?_
      refine x_iload (pc' := 38) rfl rfl rfl ?_
      refine x_if (a' := 83) (pc' := 41) (z := true) rfl rfl rfl (by decide) (fun _ => ?_) (fun h => by cases h)
      refine x_iinc (pc' := 86) (y := 3) (ls' := [_, _, _, _, _, _, _, _]) rfl rfl rfl rfl rfl ?_
      refine x_goto (pc' := 20) rfl rfl ?_
      refine x_iload (pc' := 22) rfl rfl rfl ?_
      refine x_iconst (pc' := 23) rfl rfl ?_
      refine x_icmp (a' := 89) (pc' := 26) (z := true) rfl rfl rfl (by decide) (fun _ => ?_) (fun h => by cases h)
      refine x_iload (pc' := 91) rfl rfl rfl ?_
      refine x_reti rfl rfl ?_
      exact qv (by simp only [cp10fF, (isSome_s q25), cd_t, cd_f]) (q )
    · refine x_sipush (pc' := 58) rfl rfl ?_
      refine x_reti rfl rfl ?_
      exact qv (by simp only [cp10fF, (isSome_n q25), cd_t, cd_f]) (q )
  refine x_icmp (a' := 35) (pc' := 33) (z := decide ((mA M 0 1) = 2)) rfl rfl rfl rfl (fun q20 => ?_) (fun q20 => ?_)
  · refine x_aload_n (pc' := 36) rfl rfl rfl rfl rfl ?_
    refine x_gR (pc' := 39) (r := (some 0)) rfl rfl rfl (kR_640_0 hc.1) ?_
    refine x_iload_n (pc' := 40) rfl rfl rfl ?_
    refine x_aald (pc' := 41) (N := 5) (k' := 1) (r := (some 1)) rfl rfl rfl (kN_24_0 hc.1) (io_in (p := 1) (N := 5) (by decide) (by decide)) (Eq.trans (congrArg (sE t 24 0) (nn_io (p := 1) (by decide))) (kB hc.1 (by decide))) ?_
    refine x_iload_n (pc' := 42) rfl rfl rfl ?_
    refine x_if (a' := 57) (pc' := 45) (z := false) rfl rfl rfl (by decide) (fun h => by cases h) (fun _ => ?_)
    refine x_iload_n (pc' := 46) rfl rfl rfl ?_
    refine x_if (a' := 53) (pc' := 49) (z := false) rfl rfl rfl (by decide) (fun h => by cases h) (fun _ => ?_)
    refine x_iconst (pc' := 50) rfl rfl ?_
    refine x_goto (pc' := 58) rfl rfl ?_
    refine x_cv (ls0 := [_, _]) (rest := []) rfl rfl rfl rfl rfl ?_
    refine x_iload_n (pc' := 1) rfl rfl rfl ?_
    refine x_if (a' := 11) (pc' := 4) (z := false) rfl rfl rfl (by decide) (fun h => by cases h) (fun _ => ?_)
    refine x_aload_n (pc' := 5) rfl rfl rfl rfl rfl ?_
    refine x_gR (pc' := 8) (r := (bsF M n 1 true)) rfl rfl rfl (bs_69 hC (Fc.ri (Fc.refl _) hR) hM (by decide)) ?_
    refine x_goto (pc' := 15) rfl rfl ?_
    refine x_reta rfl rfl ?_
    refine sK_i (pc' := 61) rfl ?_
    refine x_reta rfl rfl ?_
    ((try rw [q20] at J23); (try rw [q20]); (try simp only [cd_t, cd_f, nt_t, nt_f, an_t, an_f, or_t, or_f] at J23); (try simp only [cd_t, cd_f, nt_t, nt_f, an_t, an_f, or_t, or_f]); exact J23)
  · refine x_null (pc' := 34) rfl rfl rfl ?_
    refine x_reta rfl rfl ?_
    ((try rw [q20] at J23); (try rw [q20]); (try simp only [cd_t, cd_f, nt_t, nt_f, an_t, an_f, or_t, or_f] at J23); (try simp only [cd_t, cd_f, nt_t, nt_f, an_t, an_f, or_t, or_f]); exact J23)
def cp10tF (M : sM) (n : Nat) : Int32 := (bif (bif (decide ((mA M 0 1) = 2)) then (bsF M n 1 false) else none).isSome then (0 + (mA M 14 (ovD (bif (decide ((mA M 0 1) = 2)) then (bsF M n 1 false) else none)))) else (-10000))
set_option maxHeartbeats 4000000 in
set_option maxRecDepth 10000 in
theorem c81_10t {t : sT} {Q : sRs → sT → Prop} {M : sM} {n : Nat} {T : Nat}
    (hM : Rl t M n T)
    (hc : Sf t M n T)
    (hR : Ri M n)
    (hC : rlC t M n)
    (q : Q (.inl (some (.inl (cp10tF M n)))) t) :
    X 81 0 [.inr (.inr (10, (some 0))), .inr (.inr (1, (some 1))), .inl 0, .inl (bz true), sJk, sJk, sJk, sJk] [] t Q := by
  refine x_aload_n (pc' := 1) rfl rfl rfl rfl rfl ?_
  refine x_aload_n (pc' := 2) rfl rfl rfl rfl rfl ?_
  refine x_iload_n (pc' := 3) rfl rfl rfl ?_
  refine x_iconst (pc' := 4) rfl rfl ?_
  refine x_cv (ls0 := [_, _, _, _, sJk, sJk]) (rest := []) rfl rfl rfl rfl rfl ?_
  refine x_aload_n (pc' := 1) rfl rfl rfl rfl rfl ?_
  refine x_gI (pc' := 4) (x := 1) rfl rfl rfl (kI_64_1 hc.1) ?_
  refine x_iconst (pc' := 5) rfl rfl ?_
  refine x_imul (pc' := 6) (z := 3) rfl rfl (by decide) ?_
  refine x_iload_n (pc' := 7) rfl rfl rfl ?_
  refine x_iadd (pc' := 8) (z := 3) rfl rfl (by decide) ?_
  refine x_iconst (pc' := 9) rfl rfl ?_
  refine x_imul (pc' := 10) (z := 9) rfl rfl (by decide) ?_
  refine x_iload_n (pc' := 11) rfl rfl rfl ?_
  refine x_iadd (pc' := 12) (z := 9) rfl rfl (by decide) ?_
  refine x_istore (pc' := 14) (ls' := [_, _, _, _, _, _]) rfl rfl rfl rfl ?_
  refine x_iload_n (pc' := 15) rfl rfl rfl ?_
  refine x_if (a' := 36) (pc' := 18) (z := false) rfl rfl rfl (by decide) (fun h => by cases h) (fun _ => ?_)
  refine x_iload_n (pc' := 19) rfl rfl rfl ?_
  refine x_iconst (pc' := 20) rfl rfl ?_
  refine x_icmp (a' := 36) (pc' := 23) (z := false) rfl rfl rfl (by decide) (fun h => by cases h) (fun _ => ?_)
  refine x_iload_n (pc' := 24) rfl rfl rfl ?_
  refine x_if (a' := 36) (pc' := 27) (z := false) rfl rfl rfl (by decide) (fun h => by cases h) (fun _ => ?_)
  refine x_iload_n (pc' := 28) rfl rfl rfl ?_
  refine x_iconst (pc' := 29) rfl rfl ?_
  refine x_icmp (a' := 36) (pc' := 32) (z := false) rfl rfl rfl (by decide) (fun h => by cases h) (fun _ => ?_)
  refine x_iconst (pc' := 33) rfl rfl ?_
  refine x_goto (pc' := 37) rfl rfl ?_
  refine x_istore (pc' := 39) (ls' := [_, _, _, _, _, _]) rfl rfl rfl rfl ?_
  refine x_iload (pc' := 41) rfl rfl rfl ?_
  refine x_if (a' := 67) (pc' := 44) (z := false) rfl rfl rfl (by decide) (fun h => by cases h) (fun _ => ?_)
  refine x_iload (pc' := 46) rfl rfl rfl ?_
  refine x_if (a' := 67) (pc' := 49) (z := false) rfl rfl rfl (by decide) (fun h => by cases h) (fun _ => ?_)
  refine x_iload (pc' := 51) rfl rfl rfl ?_
  refine x_getstatic (pc' := 54) rfl rfl (show 0 < sC t 28 from gst0 hc.1) ?_
  refine x_alen (pc' := 55) (N := 45) rfl rfl rfl (kN_28_0 hc.1) (?_ : X _ _ _ (.inl 45 :: _) _ _)
  refine x_icmp (a' := 67) (pc' := 58) (z := false) rfl rfl rfl (by decide) (fun h => by cases h) (fun _ => ?_)
  refine x_getstatic (pc' := 61) rfl rfl (show 0 < sC t 28 from gst0 hc.1) ?_
  refine x_iload (pc' := 63) rfl rfl rfl ?_
  refine x_iald (pc' := 64) (N := 45) (x := 2) rfl rfl rfl (kN_28_0 hc.1) (io_in (p := 9) (N := 45) (by decide) (by decide)) (Eq.trans (congrArg (sA t 28 0) (nn_io (p := 9) (by decide))) ((hc.1.2.2.2.2.2 9).1.trans rfl)) ?_
  refine x_goto (pc' := 68) rfl rfl ?_
  refine x_reti rfl rfl ?_
  refine sK_i (pc' := 7) rfl ?_
  refine x_if (a' := 14) (pc' := 10) (z := true) rfl rfl rfl (by decide) (fun _ => ?_) (fun h => by cases h)
  refine x_iconst (pc' := 15) rfl rfl ?_
  refine x_istore (pc' := 17) (ls' := [_, _, _, _, _, _, _, _]) rfl rfl rfl rfl ?_
  refine x_iconst (pc' := 18) rfl rfl ?_
  refine x_istore (pc' := 20) (ls' := [_, _, _, _, _, _, _, _]) rfl rfl rfl rfl ?_
  refine x_iload (pc' := 22) rfl rfl rfl ?_
  refine x_iconst (pc' := 23) rfl rfl ?_
  refine x_icmp (a' := 89) (pc' := 26) (z := false) rfl rfl rfl (by decide) (fun h => by cases h) (fun _ => ?_)
  refine x_aload_n (pc' := 27) rfl rfl rfl rfl rfl ?_
  refine x_aload_n (pc' := 28) rfl rfl rfl rfl rfl ?_
  refine x_iload_n (pc' := 29) rfl rfl rfl ?_
  refine x_iload (pc' := 31) rfl rfl rfl ?_
  refine x_cv (ls0 := [_, _, _, _, sJk, sJk]) (rest := []) rfl rfl rfl rfl rfl ?_
  refine x_aload_n (pc' := 1) rfl rfl rfl rfl rfl ?_
  refine x_gI (pc' := 4) (x := 1) rfl rfl rfl (kI_64_1 hc.1) ?_
  refine x_iconst (pc' := 5) rfl rfl ?_
  refine x_imul (pc' := 6) (z := 3) rfl rfl (by decide) ?_
  refine x_iload_n (pc' := 7) rfl rfl rfl ?_
  refine x_iadd (pc' := 8) (z := 3) rfl rfl (by decide) ?_
  refine x_iconst (pc' := 9) rfl rfl ?_
  refine x_imul (pc' := 10) (z := 9) rfl rfl (by decide) ?_
  refine x_iload_n (pc' := 11) rfl rfl rfl ?_
  refine x_iadd (pc' := 12) (z := 9) rfl rfl (by decide) ?_
  refine x_istore (pc' := 14) (ls' := [_, _, _, _, _, _]) rfl rfl rfl rfl ?_
  refine x_iload_n (pc' := 15) rfl rfl rfl ?_
  refine x_if (a' := 36) (pc' := 18) (z := false) rfl rfl rfl (by decide) (fun h => by cases h) (fun _ => ?_)
  refine x_iload_n (pc' := 19) rfl rfl rfl ?_
  refine x_iconst (pc' := 20) rfl rfl ?_
  refine x_icmp (a' := 36) (pc' := 23) (z := false) rfl rfl rfl (by decide) (fun h => by cases h) (fun _ => ?_)
  refine x_iload_n (pc' := 24) rfl rfl rfl ?_
  refine x_if (a' := 36) (pc' := 27) (z := false) rfl rfl rfl (by decide) (fun h => by cases h) (fun _ => ?_)
  refine x_iload_n (pc' := 28) rfl rfl rfl ?_
  refine x_iconst (pc' := 29) rfl rfl ?_
  refine x_icmp (a' := 36) (pc' := 32) (z := false) rfl rfl rfl (by decide) (fun h => by cases h) (fun _ => ?_)
  refine x_iconst (pc' := 33) rfl rfl ?_
  refine x_goto (pc' := 37) rfl rfl ?_
  refine x_istore (pc' := 39) (ls' := [_, _, _, _, _, _]) rfl rfl rfl rfl ?_
  refine x_iload (pc' := 41) rfl rfl rfl ?_
  refine x_if (a' := 67) (pc' := 44) (z := false) rfl rfl rfl (by decide) (fun h => by cases h) (fun _ => ?_)
  refine x_iload (pc' := 46) rfl rfl rfl ?_
  refine x_if (a' := 67) (pc' := 49) (z := false) rfl rfl rfl (by decide) (fun h => by cases h) (fun _ => ?_)
  refine x_iload (pc' := 51) rfl rfl rfl ?_
  refine x_getstatic (pc' := 54) rfl rfl (show 0 < sC t 28 from gst0 hc.1) ?_
  refine x_alen (pc' := 55) (N := 45) rfl rfl rfl (kN_28_0 hc.1) (?_ : X _ _ _ (.inl 45 :: _) _ _)
  refine x_icmp (a' := 67) (pc' := 58) (z := false) rfl rfl rfl (by decide) (fun h => by cases h) (fun _ => ?_)
  refine x_getstatic (pc' := 61) rfl rfl (show 0 < sC t 28 from gst0 hc.1) ?_
  refine x_iload (pc' := 63) rfl rfl rfl ?_
  refine x_iald (pc' := 64) (N := 45) (x := 2) rfl rfl rfl (kN_28_0 hc.1) (io_in (p := 9) (N := 45) (by decide) (by decide)) (Eq.trans (congrArg (sA t 28 0) (nn_io (p := 9) (by decide))) ((hc.1.2.2.2.2.2 9).1.trans rfl)) ?_
  refine x_goto (pc' := 68) rfl rfl ?_
  refine x_reti rfl rfl ?_
  refine sK_i (pc' := 34) rfl ?_
  refine x_istore (pc' := 36) (ls' := [_, _, _, _, _, _, _, _]) rfl rfl rfl rfl ?_
  refine x_iload (pc' := 38) rfl rfl rfl ?_
  refine x_if (a' := 83) (pc' := 41) (z := false) rfl rfl rfl (by decide) (fun h => by cases h) (fun _ => ?_)
  refine x_aload_n (pc' := 42) rfl rfl rfl rfl rfl ?_
  refine x_iload (pc' := 44) rfl rfl rfl ?_
  refine x_iload_n (pc' := 45) rfl rfl rfl ?_
  refine x_cv (ls0 := [_, _, _, sJk]) (rest := []) rfl rfl rfl rfl rfl ?_
  refine x_iload_n (pc' := 1) rfl rfl rfl ?_
  refine x_abs (pc' := 4) (z := 2) rfl rfl rfl (by decide) ?_
  refine x_iconst (pc' := 5) rfl rfl ?_
  refine x_isub (pc' := 6) (z := 1) rfl rfl (by decide) ?_
  refine x_istore_n (pc' := 7) (ls' := [_, _, _, _]) rfl rfl rfl rfl ?_
  refine x_iload_n (pc' := 8) rfl rfl rfl ?_
  refine x_if (a' := 33) (pc' := 11) (z := false) rfl rfl rfl (by decide) (fun h => by cases h) (fun _ => ?_)
  refine x_iload_n (pc' := 12) rfl rfl rfl ?_
  refine x_aload_n (pc' := 13) rfl rfl rfl rfl rfl ?_
  refine x_gR (pc' := 16) (r := (some 0)) rfl rfl rfl (kR_640_0 hc.1) ?_
  refine x_alen (pc' := 17) (N := 5) rfl rfl rfl (kN_24_0 hc.1) (?_ : X _ _ _ (.inl 5 :: _) _ _)
  refine x_icmp (a' := 33) (pc' := 20) (z := false) rfl rfl rfl (by decide) (fun h => by cases h) (fun _ => ?_)
  refine x_aload_n (pc' := 21) rfl rfl rfl rfl rfl ?_
  refine x_gR (pc' := 24) (r := (some 0)) rfl rfl rfl (kR_640_0 hc.1) ?_
  refine x_iload_n (pc' := 25) rfl rfl rfl ?_
  refine x_aald (pc' := 26) (N := 5) (k' := 1) (r := (some 1)) rfl rfl rfl (kN_24_0 hc.1) (io_in (p := 1) (N := 5) (by decide) (by decide)) (Eq.trans (congrArg (sE t 24 0) (nn_io (p := 1) (by decide))) (kB hc.1 (by decide))) ?_
  refine x_gI (pc' := 29) (x := (mA M 0 1)) rfl rfl rfl (kA hM rfl (show 1 < 5 by decide)) ?_
  refine x_iconst (pc' := 30) rfl rfl ?_
  have J23 : ((sK 79 81 45 [.inr (.inr (10, (some 0))), .inr (.inr (1, (some 1))), .inl 0, .inl (bz true), .inl 0, .inl 0, .inl 2, sJk] [] Q) : sRs → sT → Prop) (.inl (some (.inr (.inr (8, (bif (decide ((mA M 0 1) = 2)) then (bsF M n 1 false) else none)))))) t := by
    refine sK_i (pc' := 48) rfl ?_
    refine x_astore (pc' := 50) (ls' := [_, _, _, _, _, _, _, _]) rfl rfl rfl rfl rfl ?_
    refine x_aload (pc' := 52) rfl rfl rfl rfl rfl ?_
    refine x_ifnonnull (a' := 59) (pc' := 55) rfl rfl rfl rfl (fun j0 q25 => ?_) (fun q25 => ?_)
    · refine x_iload (pc' := 61) rfl rfl rfl ?_
      refine x_iload (pc' := 63) rfl rfl rfl ?_
      refine x_if (a' := 74) (pc' := 66) (z := false) rfl rfl rfl (by decide) (fun h => by cases h) (fun _ => ?_)
      refine x_aload (pc' := 68) rfl rfl rfl rfl (ovD_s q25) ?_
      refine x_gI (pc' := 71) (x := (mA M 14 (ovD (bif (decide ((mA M 0 1) = 2)) then (bsF M n 1 false) else none)))) rfl rfl rfl ((kA hM rfl (ovD_lt (obd_c bsF_lt obd_n) q25)).trans (congrFun (Fc.f14 (Fc.refl _)) _)) ?_
      refine x_goto (pc' := 80) rfl rfl ?_
      refine x_iadd (pc' := 81) (z := (0 + (mA M 14 (ovD (bif (decide ((mA M 0 1) = 2)) then (bsF M n 1 false) else none))))) rfl rfl rfl ?_
      refine x_istore (pc' := 83) (ls' := [_, _, _, _, _, _, _, _]) rfl rfl rfl rfl ?_
      refine x_iinc (pc' := 86) (y := 1) (ls' := [_, _, _, _, _, _, _, _]) rfl rfl rfl rfl rfl ?_
      refine x_goto (pc' := 20) rfl rfl ?_
      refine x_iload (pc' := 22) rfl rfl rfl ?_
      refine x_iconst (pc' := 23) rfl rfl ?_
      refine x_icmp (a' := 89) (pc' := 26) (z := false) rfl rfl rfl (by decide) (fun h => by cases h) (fun _ => ?_)
      refine x_aload_n (pc' := 27) rfl rfl rfl rfl rfl ?_
      refine x_aload_n (pc' := 28) rfl rfl rfl rfl rfl ?_
      refine x_iload_n (pc' := 29) rfl rfl rfl ?_
      refine x_iload (pc' := 31) rfl rfl rfl ?_
      refine x_cv (ls0 := [_, _, _, _, sJk, sJk]) (rest := []) rfl rfl rfl rfl rfl ?_
      refine x_aload_n (pc' := 1) rfl rfl rfl rfl rfl ?_
      refine x_gI (pc' := 4) (x := 1) rfl rfl rfl (kI_64_1 hc.1) ?_
      refine x_iconst (pc' := 5) rfl rfl ?_
      refine x_imul (pc' := 6) (z := 3) rfl rfl (by decide) ?_
      refine x_iload_n (pc' := 7) rfl rfl rfl ?_
      refine x_iadd (pc' := 8) (z := 3) rfl rfl (by decide) ?_
      refine x_iconst (pc' := 9) rfl rfl ?_
      refine x_imul (pc' := 10) (z := 9) rfl rfl (by decide) ?_
      refine x_iload_n (pc' := 11) rfl rfl rfl ?_
      refine x_iadd (pc' := 12) (z := 10) rfl rfl (by decide) ?_
      refine x_istore (pc' := 14) (ls' := [_, _, _, _, _, _]) rfl rfl rfl rfl ?_
      refine x_iload_n (pc' := 15) rfl rfl rfl ?_
      refine x_if (a' := 36) (pc' := 18) (z := false) rfl rfl rfl (by decide) (fun h => by cases h) (fun _ => ?_)
      refine x_iload_n (pc' := 19) rfl rfl rfl ?_
      refine x_iconst (pc' := 20) rfl rfl ?_
      refine x_icmp (a' := 36) (pc' := 23) (z := false) rfl rfl rfl (by decide) (fun h => by cases h) (fun _ => ?_)
      refine x_iload_n (pc' := 24) rfl rfl rfl ?_
      refine x_if (a' := 36) (pc' := 27) (z := false) rfl rfl rfl (by decide) (fun h => by cases h) (fun _ => ?_)
      refine x_iload_n (pc' := 28) rfl rfl rfl ?_
      refine x_iconst (pc' := 29) rfl rfl ?_
      refine x_icmp (a' := 36) (pc' := 32) (z := false) rfl rfl rfl (by decide) (fun h => by cases h) (fun _ => ?_)
      refine x_iconst (pc' := 33) rfl rfl ?_
      refine x_goto (pc' := 37) rfl rfl ?_
      refine x_istore (pc' := 39) (ls' := [_, _, _, _, _, _]) rfl rfl rfl rfl ?_
      refine x_iload (pc' := 41) rfl rfl rfl ?_
      refine x_if (a' := 67) (pc' := 44) (z := false) rfl rfl rfl (by decide) (fun h => by cases h) (fun _ => ?_)
      refine x_iload (pc' := 46) rfl rfl rfl ?_
      refine x_if (a' := 67) (pc' := 49) (z := false) rfl rfl rfl (by decide) (fun h => by cases h) (fun _ => ?_)
      refine x_iload (pc' := 51) rfl rfl rfl ?_
      refine x_getstatic (pc' := 54) rfl rfl (show 0 < sC t 28 from gst0 hc.1) ?_
      refine x_alen (pc' := 55) (N := 45) rfl rfl rfl (kN_28_0 hc.1) (?_ : X _ _ _ (.inl 45 :: _) _ _)
      refine x_icmp (a' := 67) (pc' := 58) (z := false) rfl rfl rfl (by decide) (fun h => by cases h) (fun _ => ?_)
      refine x_getstatic (pc' := 61) rfl rfl (show 0 < sC t 28 from gst0 hc.1) ?_
      refine x_iload (pc' := 63) rfl rfl rfl ?_
      refine x_iald (pc' := 64) (N := 45) (x := 0) rfl rfl rfl (kN_28_0 hc.1) (io_in (p := 10) (N := 45) (by decide) (by decide)) (Eq.trans (congrArg (sA t 28 0) (nn_io (p := 10) (by decide))) ((hc.1.2.2.2.2.2 10).1.trans rfl)) ?_
      refine x_goto (pc' := 68) rfl rfl ?_
      refine x_reti rfl rfl ?_
      refine sK_i (pc' := 34) rfl ?_
      refine x_istore (pc' := 36) (ls' := [_, _, _, _, _, _, _, _]) rfl rfl rfl rfl ?_
      refine x_iload (pc' := 38) rfl rfl rfl ?_
      refine x_if (a' := 83) (pc' := 41) (z := true) rfl rfl rfl (by decide) (fun _ => ?_) (fun h => by cases h)
      refine x_iinc (pc' := 86) (y := 2) (ls' := [_, _, _, _, _, _, _, _]) rfl rfl rfl rfl rfl ?_
      refine x_goto (pc' := 20) rfl rfl ?_
      refine x_iload (pc' := 22) rfl rfl rfl ?_
      refine x_iconst (pc' := 23) rfl rfl ?_
      refine x_icmp (a' := 89) (pc' := 26) (z := false) rfl rfl rfl (by decide) (fun h => by cases h) (fun _ => ?_)
      refine x_aload_n (pc' := 27) rfl rfl rfl rfl rfl ?_
      refine x_aload_n (pc' := 28) rfl rfl rfl rfl rfl ?_
      refine x_iload_n (pc' := 29) rfl rfl rfl ?_
      refine x_iload (pc' := 31) rfl rfl rfl ?_
      refine x_cv (ls0 := [_, _, _, _, sJk, sJk]) (rest := []) rfl rfl rfl rfl rfl ?_
      refine x_aload_n (pc' := 1) rfl rfl rfl rfl rfl ?_
      refine x_gI (pc' := 4) (x := 1) rfl rfl rfl (kI_64_1 hc.1) ?_
      refine x_iconst (pc' := 5) rfl rfl ?_
      refine x_imul (pc' := 6) (z := 3) rfl rfl (by decide) ?_
      refine x_iload_n (pc' := 7) rfl rfl rfl ?_
      refine x_iadd (pc' := 8) (z := 3) rfl rfl (by decide) ?_
      refine x_iconst (pc' := 9) rfl rfl ?_
      refine x_imul (pc' := 10) (z := 9) rfl rfl (by decide) ?_
      refine x_iload_n (pc' := 11) rfl rfl rfl ?_
      refine x_iadd (pc' := 12) (z := 11) rfl rfl (by decide) ?_
      refine x_istore (pc' := 14) (ls' := [_, _, _, _, _, _]) rfl rfl rfl rfl ?_
      refine x_iload_n (pc' := 15) rfl rfl rfl ?_
      refine x_if (a' := 36) (pc' := 18) (z := false) rfl rfl rfl (by decide) (fun h => by cases h) (fun _ => ?_)
      refine x_iload_n (pc' := 19) rfl rfl rfl ?_
      refine x_iconst (pc' := 20) rfl rfl ?_
      refine x_icmp (a' := 36) (pc' := 23) (z := false) rfl rfl rfl (by decide) (fun h => by cases h) (fun _ => ?_)
      refine x_iload_n (pc' := 24) rfl rfl rfl ?_
      refine x_if (a' := 36) (pc' := 27) (z := false) rfl rfl rfl (by decide) (fun h => by cases h) (fun _ => ?_)
      refine x_iload_n (pc' := 28) rfl rfl rfl ?_
      refine x_iconst (pc' := 29) rfl rfl ?_
      refine x_icmp (a' := 36) (pc' := 32) (z := false) rfl rfl rfl (by decide) (fun h => by cases h) (fun _ => ?_)
      refine x_iconst (pc' := 33) rfl rfl ?_
      refine x_goto (pc' := 37) rfl rfl ?_
      refine x_istore (pc' := 39) (ls' := [_, _, _, _, _, _]) rfl rfl rfl rfl ?_
      refine x_iload (pc' := 41) rfl rfl rfl ?_
      refine x_if (a' := 67) (pc' := 44) (z := false) rfl rfl rfl (by decide) (fun h => by cases h) (fun _ => ?_)
      refine x_iload (pc' := 46) rfl rfl rfl ?_
      refine x_if (a' := 67) (pc' := 49) (z := false) rfl rfl rfl (by decide) (fun h => by cases h) (fun _ => ?_)
      refine x_iload (pc' := 51) rfl rfl rfl ?_
      refine x_getstatic (pc' := 54) rfl rfl (show 0 < sC t 28 from gst0 hc.1) ?_
      refine x_alen (pc' := 55) (N := 45) rfl rfl rfl (kN_28_0 hc.1) (?_ : X _ _ _ (.inl 45 :: _) _ _)
      refine x_icmp (a' := 67) (pc' := 58) (z := false) rfl rfl rfl (by decide) (fun h => by cases h) (fun _ => ?_)
      refine x_getstatic (pc' := 61) rfl rfl (show 0 < sC t 28 from gst0 hc.1) ?_
      refine x_iload (pc' := 63) rfl rfl rfl ?_
      refine x_iald (pc' := 64) (N := 45) (x := 0) rfl rfl rfl (kN_28_0 hc.1) (io_in (p := 11) (N := 45) (by decide) (by decide)) (Eq.trans (congrArg (sA t 28 0) (nn_io (p := 11) (by decide))) ((hc.1.2.2.2.2.2 11).1.trans rfl)) ?_
      refine x_goto (pc' := 68) rfl rfl ?_
      refine x_reti rfl rfl ?_
      refine sK_i (pc' := 34) rfl ?_
      refine x_istore (pc' := 36) (ls' := [_, _, _, _, _, _, _, _]) rfl rfl rfl rfl ?_
      refine x_iload (pc' := 38) rfl rfl rfl ?_
      refine x_if (a' := 83) (pc' := 41) (z := true) rfl rfl rfl (by decide) (fun _ => ?_) (fun h => by cases h)
      refine x_iinc (pc' := 86) (y := 3) (ls' := [_, _, _, _, _, _, _, _]) rfl rfl rfl rfl rfl ?_
      refine x_goto (pc' := 20) rfl rfl ?_
      refine x_iload (pc' := 22) rfl rfl rfl ?_
      refine x_iconst (pc' := 23) rfl rfl ?_
      refine x_icmp (a' := 89) (pc' := 26) (z := true) rfl rfl rfl (by decide) (fun _ => ?_) (fun h => by cases h)
      refine x_iload (pc' := 91) rfl rfl rfl ?_
      refine x_reti rfl rfl ?_
      exact qv (by simp only [cp10tF, (isSome_s q25), cd_t, cd_f]) (q )
    · refine x_sipush (pc' := 58) rfl rfl ?_
      refine x_reti rfl rfl ?_
      exact qv (by simp only [cp10tF, (isSome_n q25), cd_t, cd_f]) (q )
  refine x_icmp (a' := 35) (pc' := 33) (z := decide ((mA M 0 1) = 2)) rfl rfl rfl rfl (fun q20 => ?_) (fun q20 => ?_)
  · refine x_aload_n (pc' := 36) rfl rfl rfl rfl rfl ?_
    refine x_gR (pc' := 39) (r := (some 0)) rfl rfl rfl (kR_640_0 hc.1) ?_
    refine x_iload_n (pc' := 40) rfl rfl rfl ?_
    refine x_aald (pc' := 41) (N := 5) (k' := 1) (r := (some 1)) rfl rfl rfl (kN_24_0 hc.1) (io_in (p := 1) (N := 5) (by decide) (by decide)) (Eq.trans (congrArg (sE t 24 0) (nn_io (p := 1) (by decide))) (kB hc.1 (by decide))) ?_
    refine x_iload_n (pc' := 42) rfl rfl rfl ?_
    refine x_if (a' := 57) (pc' := 45) (z := false) rfl rfl rfl (by decide) (fun h => by cases h) (fun _ => ?_)
    refine x_iload_n (pc' := 46) rfl rfl rfl ?_
    refine x_if (a' := 53) (pc' := 49) (z := true) rfl rfl rfl (by decide) (fun _ => ?_) (fun h => by cases h)
    refine x_iconst (pc' := 54) rfl rfl ?_
    refine x_goto (pc' := 58) rfl rfl ?_
    refine x_cv (ls0 := [_, _]) (rest := []) rfl rfl rfl rfl rfl ?_
    refine x_iload_n (pc' := 1) rfl rfl rfl ?_
    refine x_if (a' := 11) (pc' := 4) (z := true) rfl rfl rfl (by decide) (fun _ => ?_) (fun h => by cases h)
    refine x_aload_n (pc' := 12) rfl rfl rfl rfl rfl ?_
    refine x_gR (pc' := 15) (r := (bsF M n 1 false)) rfl rfl rfl (bs_70 hC (Fc.ri (Fc.refl _) hR) hM (by decide)) ?_
    refine x_reta rfl rfl ?_
    refine sK_i (pc' := 61) rfl ?_
    refine x_reta rfl rfl ?_
    ((try rw [q20] at J23); (try rw [q20]); (try simp only [cd_t, cd_f, nt_t, nt_f, an_t, an_f, or_t, or_f] at J23); (try simp only [cd_t, cd_f, nt_t, nt_f, an_t, an_f, or_t, or_f]); exact J23)
  · refine x_null (pc' := 34) rfl rfl rfl ?_
    refine x_reta rfl rfl ?_
    ((try rw [q20] at J23); (try rw [q20]); (try simp only [cd_t, cd_f, nt_t, nt_f, an_t, an_f, or_t, or_f] at J23); (try simp only [cd_t, cd_f, nt_t, nt_f, an_t, an_f, or_t, or_f]); exact J23)
def cp11fF (M : sM) (n : Nat) : Int32 := (bif (bif (decide ((mA M 0 4) = 2)) then (bsF M n 4 true) else none).isSome then (bif (bif (decide ((mA M 0 2) = 2)) then (bsF M n 2 true) else none).isSome then ((0 + (mA M 14 (ovD (bif (decide ((mA M 0 4) = 2)) then (bsF M n 4 true) else none)))) + (mA M 14 (ovD (bif (decide ((mA M 0 2) = 2)) then (bsF M n 2 true) else none)))) else (-10000)) else (-10000))
set_option maxHeartbeats 4000000 in
set_option maxRecDepth 10000 in
theorem c81_11f {t : sT} {Q : sRs → sT → Prop} {M : sM} {n : Nat} {T : Nat}
    (hM : Rl t M n T)
    (hc : Sf t M n T)
    (hR : Ri M n)
    (hC : rlC t M n)
    (q : Q (.inl (some (.inl (cp11fF M n)))) t) :
    X 81 0 [.inr (.inr (10, (some 0))), .inr (.inr (1, (some 1))), .inl 1, .inl (bz false), sJk, sJk, sJk, sJk] [] t Q := by
  refine x_aload_n (pc' := 1) rfl rfl rfl rfl rfl ?_
  refine x_aload_n (pc' := 2) rfl rfl rfl rfl rfl ?_
  refine x_iload_n (pc' := 3) rfl rfl rfl ?_
  refine x_iconst (pc' := 4) rfl rfl ?_
  refine x_cv (ls0 := [_, _, _, _, sJk, sJk]) (rest := []) rfl rfl rfl rfl rfl ?_
  refine x_aload_n (pc' := 1) rfl rfl rfl rfl rfl ?_
  refine x_gI (pc' := 4) (x := 1) rfl rfl rfl (kI_64_1 hc.1) ?_
  refine x_iconst (pc' := 5) rfl rfl ?_
  refine x_imul (pc' := 6) (z := 3) rfl rfl (by decide) ?_
  refine x_iload_n (pc' := 7) rfl rfl rfl ?_
  refine x_iadd (pc' := 8) (z := 4) rfl rfl (by decide) ?_
  refine x_iconst (pc' := 9) rfl rfl ?_
  refine x_imul (pc' := 10) (z := 12) rfl rfl (by decide) ?_
  refine x_iload_n (pc' := 11) rfl rfl rfl ?_
  refine x_iadd (pc' := 12) (z := 12) rfl rfl (by decide) ?_
  refine x_istore (pc' := 14) (ls' := [_, _, _, _, _, _]) rfl rfl rfl rfl ?_
  refine x_iload_n (pc' := 15) rfl rfl rfl ?_
  refine x_if (a' := 36) (pc' := 18) (z := false) rfl rfl rfl (by decide) (fun h => by cases h) (fun _ => ?_)
  refine x_iload_n (pc' := 19) rfl rfl rfl ?_
  refine x_iconst (pc' := 20) rfl rfl ?_
  refine x_icmp (a' := 36) (pc' := 23) (z := false) rfl rfl rfl (by decide) (fun h => by cases h) (fun _ => ?_)
  refine x_iload_n (pc' := 24) rfl rfl rfl ?_
  refine x_if (a' := 36) (pc' := 27) (z := false) rfl rfl rfl (by decide) (fun h => by cases h) (fun _ => ?_)
  refine x_iload_n (pc' := 28) rfl rfl rfl ?_
  refine x_iconst (pc' := 29) rfl rfl ?_
  refine x_icmp (a' := 36) (pc' := 32) (z := false) rfl rfl rfl (by decide) (fun h => by cases h) (fun _ => ?_)
  refine x_iconst (pc' := 33) rfl rfl ?_
  refine x_goto (pc' := 37) rfl rfl ?_
  refine x_istore (pc' := 39) (ls' := [_, _, _, _, _, _]) rfl rfl rfl rfl ?_
  refine x_iload (pc' := 41) rfl rfl rfl ?_
  refine x_if (a' := 67) (pc' := 44) (z := false) rfl rfl rfl (by decide) (fun h => by cases h) (fun _ => ?_)
  refine x_iload (pc' := 46) rfl rfl rfl ?_
  refine x_if (a' := 67) (pc' := 49) (z := false) rfl rfl rfl (by decide) (fun h => by cases h) (fun _ => ?_)
  refine x_iload (pc' := 51) rfl rfl rfl ?_
  refine x_getstatic (pc' := 54) rfl rfl (show 0 < sC t 28 from gst0 hc.1) ?_
  refine x_alen (pc' := 55) (N := 45) rfl rfl rfl (kN_28_0 hc.1) (?_ : X _ _ _ (.inl 45 :: _) _ _)
  refine x_icmp (a' := 67) (pc' := 58) (z := false) rfl rfl rfl (by decide) (fun h => by cases h) (fun _ => ?_)
  refine x_getstatic (pc' := 61) rfl rfl (show 0 < sC t 28 from gst0 hc.1) ?_
  refine x_iload (pc' := 63) rfl rfl rfl ?_
  refine x_iald (pc' := 64) (N := 45) (x := 5) rfl rfl rfl (kN_28_0 hc.1) (io_in (p := 12) (N := 45) (by decide) (by decide)) (Eq.trans (congrArg (sA t 28 0) (nn_io (p := 12) (by decide))) ((hc.1.2.2.2.2.2 12).1.trans rfl)) ?_
  refine x_goto (pc' := 68) rfl rfl ?_
  refine x_reti rfl rfl ?_
  refine sK_i (pc' := 7) rfl ?_
  refine x_if (a' := 14) (pc' := 10) (z := true) rfl rfl rfl (by decide) (fun _ => ?_) (fun h => by cases h)
  refine x_iconst (pc' := 15) rfl rfl ?_
  refine x_istore (pc' := 17) (ls' := [_, _, _, _, _, _, _, _]) rfl rfl rfl rfl ?_
  refine x_iconst (pc' := 18) rfl rfl ?_
  refine x_istore (pc' := 20) (ls' := [_, _, _, _, _, _, _, _]) rfl rfl rfl rfl ?_
  refine x_iload (pc' := 22) rfl rfl rfl ?_
  refine x_iconst (pc' := 23) rfl rfl ?_
  refine x_icmp (a' := 89) (pc' := 26) (z := false) rfl rfl rfl (by decide) (fun h => by cases h) (fun _ => ?_)
  refine x_aload_n (pc' := 27) rfl rfl rfl rfl rfl ?_
  refine x_aload_n (pc' := 28) rfl rfl rfl rfl rfl ?_
  refine x_iload_n (pc' := 29) rfl rfl rfl ?_
  refine x_iload (pc' := 31) rfl rfl rfl ?_
  refine x_cv (ls0 := [_, _, _, _, sJk, sJk]) (rest := []) rfl rfl rfl rfl rfl ?_
  refine x_aload_n (pc' := 1) rfl rfl rfl rfl rfl ?_
  refine x_gI (pc' := 4) (x := 1) rfl rfl rfl (kI_64_1 hc.1) ?_
  refine x_iconst (pc' := 5) rfl rfl ?_
  refine x_imul (pc' := 6) (z := 3) rfl rfl (by decide) ?_
  refine x_iload_n (pc' := 7) rfl rfl rfl ?_
  refine x_iadd (pc' := 8) (z := 4) rfl rfl (by decide) ?_
  refine x_iconst (pc' := 9) rfl rfl ?_
  refine x_imul (pc' := 10) (z := 12) rfl rfl (by decide) ?_
  refine x_iload_n (pc' := 11) rfl rfl rfl ?_
  refine x_iadd (pc' := 12) (z := 12) rfl rfl (by decide) ?_
  refine x_istore (pc' := 14) (ls' := [_, _, _, _, _, _]) rfl rfl rfl rfl ?_
  refine x_iload_n (pc' := 15) rfl rfl rfl ?_
  refine x_if (a' := 36) (pc' := 18) (z := false) rfl rfl rfl (by decide) (fun h => by cases h) (fun _ => ?_)
  refine x_iload_n (pc' := 19) rfl rfl rfl ?_
  refine x_iconst (pc' := 20) rfl rfl ?_
  refine x_icmp (a' := 36) (pc' := 23) (z := false) rfl rfl rfl (by decide) (fun h => by cases h) (fun _ => ?_)
  refine x_iload_n (pc' := 24) rfl rfl rfl ?_
  refine x_if (a' := 36) (pc' := 27) (z := false) rfl rfl rfl (by decide) (fun h => by cases h) (fun _ => ?_)
  refine x_iload_n (pc' := 28) rfl rfl rfl ?_
  refine x_iconst (pc' := 29) rfl rfl ?_
  refine x_icmp (a' := 36) (pc' := 32) (z := false) rfl rfl rfl (by decide) (fun h => by cases h) (fun _ => ?_)
  refine x_iconst (pc' := 33) rfl rfl ?_
  refine x_goto (pc' := 37) rfl rfl ?_
  refine x_istore (pc' := 39) (ls' := [_, _, _, _, _, _]) rfl rfl rfl rfl ?_
  refine x_iload (pc' := 41) rfl rfl rfl ?_
  refine x_if (a' := 67) (pc' := 44) (z := false) rfl rfl rfl (by decide) (fun h => by cases h) (fun _ => ?_)
  refine x_iload (pc' := 46) rfl rfl rfl ?_
  refine x_if (a' := 67) (pc' := 49) (z := false) rfl rfl rfl (by decide) (fun h => by cases h) (fun _ => ?_)
  refine x_iload (pc' := 51) rfl rfl rfl ?_
  refine x_getstatic (pc' := 54) rfl rfl (show 0 < sC t 28 from gst0 hc.1) ?_
  refine x_alen (pc' := 55) (N := 45) rfl rfl rfl (kN_28_0 hc.1) (?_ : X _ _ _ (.inl 45 :: _) _ _)
  refine x_icmp (a' := 67) (pc' := 58) (z := false) rfl rfl rfl (by decide) (fun h => by cases h) (fun _ => ?_)
  refine x_getstatic (pc' := 61) rfl rfl (show 0 < sC t 28 from gst0 hc.1) ?_
  refine x_iload (pc' := 63) rfl rfl rfl ?_
  refine x_iald (pc' := 64) (N := 45) (x := 5) rfl rfl rfl (kN_28_0 hc.1) (io_in (p := 12) (N := 45) (by decide) (by decide)) (Eq.trans (congrArg (sA t 28 0) (nn_io (p := 12) (by decide))) ((hc.1.2.2.2.2.2 12).1.trans rfl)) ?_
  refine x_goto (pc' := 68) rfl rfl ?_
  refine x_reti rfl rfl ?_
  refine sK_i (pc' := 34) rfl ?_
  refine x_istore (pc' := 36) (ls' := [_, _, _, _, _, _, _, _]) rfl rfl rfl rfl ?_
  refine x_iload (pc' := 38) rfl rfl rfl ?_
  refine x_if (a' := 83) (pc' := 41) (z := false) rfl rfl rfl (by decide) (fun h => by cases h) (fun _ => ?_)
  refine x_aload_n (pc' := 42) rfl rfl rfl rfl rfl ?_
  refine x_iload (pc' := 44) rfl rfl rfl ?_
  refine x_iload_n (pc' := 45) rfl rfl rfl ?_
  refine x_cv (ls0 := [_, _, _, sJk]) (rest := []) rfl rfl rfl rfl rfl ?_
  refine x_iload_n (pc' := 1) rfl rfl rfl ?_
  refine x_abs (pc' := 4) (z := 5) rfl rfl rfl (by decide) ?_
  refine x_iconst (pc' := 5) rfl rfl ?_
  refine x_isub (pc' := 6) (z := 4) rfl rfl (by decide) ?_
  refine x_istore_n (pc' := 7) (ls' := [_, _, _, _]) rfl rfl rfl rfl ?_
  refine x_iload_n (pc' := 8) rfl rfl rfl ?_
  refine x_if (a' := 33) (pc' := 11) (z := false) rfl rfl rfl (by decide) (fun h => by cases h) (fun _ => ?_)
  refine x_iload_n (pc' := 12) rfl rfl rfl ?_
  refine x_aload_n (pc' := 13) rfl rfl rfl rfl rfl ?_
  refine x_gR (pc' := 16) (r := (some 0)) rfl rfl rfl (kR_640_0 hc.1) ?_
  refine x_alen (pc' := 17) (N := 5) rfl rfl rfl (kN_24_0 hc.1) (?_ : X _ _ _ (.inl 5 :: _) _ _)
  refine x_icmp (a' := 33) (pc' := 20) (z := false) rfl rfl rfl (by decide) (fun h => by cases h) (fun _ => ?_)
  refine x_aload_n (pc' := 21) rfl rfl rfl rfl rfl ?_
  refine x_gR (pc' := 24) (r := (some 0)) rfl rfl rfl (kR_640_0 hc.1) ?_
  refine x_iload_n (pc' := 25) rfl rfl rfl ?_
  refine x_aald (pc' := 26) (N := 5) (k' := 1) (r := (some 4)) rfl rfl rfl (kN_24_0 hc.1) (io_in (p := 4) (N := 5) (by decide) (by decide)) (Eq.trans (congrArg (sE t 24 0) (nn_io (p := 4) (by decide))) (kB hc.1 (by decide))) ?_
  refine x_gI (pc' := 29) (x := (mA M 0 4)) rfl rfl rfl (kA hM rfl (show 4 < 5 by decide)) ?_
  refine x_iconst (pc' := 30) rfl rfl ?_
  have J23 : ((sK 79 81 45 [.inr (.inr (10, (some 0))), .inr (.inr (1, (some 1))), .inl 1, .inl (bz false), .inl 0, .inl 0, .inl 5, sJk] [] Q) : sRs → sT → Prop) (.inl (some (.inr (.inr (8, (bif (decide ((mA M 0 4) = 2)) then (bsF M n 4 true) else none)))))) t := by
    refine sK_i (pc' := 48) rfl ?_
    refine x_astore (pc' := 50) (ls' := [_, _, _, _, _, _, _, _]) rfl rfl rfl rfl rfl ?_
    refine x_aload (pc' := 52) rfl rfl rfl rfl rfl ?_
    refine x_ifnonnull (a' := 59) (pc' := 55) rfl rfl rfl rfl (fun j0 q25 => ?_) (fun q25 => ?_)
    · refine x_iload (pc' := 61) rfl rfl rfl ?_
      refine x_iload (pc' := 63) rfl rfl rfl ?_
      refine x_if (a' := 74) (pc' := 66) (z := false) rfl rfl rfl (by decide) (fun h => by cases h) (fun _ => ?_)
      refine x_aload (pc' := 68) rfl rfl rfl rfl (ovD_s q25) ?_
      refine x_gI (pc' := 71) (x := (mA M 14 (ovD (bif (decide ((mA M 0 4) = 2)) then (bsF M n 4 true) else none)))) rfl rfl rfl ((kA hM rfl (ovD_lt (obd_c bsF_lt obd_n) q25)).trans (congrFun (Fc.f14 (Fc.refl _)) _)) ?_
      refine x_goto (pc' := 80) rfl rfl ?_
      refine x_iadd (pc' := 81) (z := (0 + (mA M 14 (ovD (bif (decide ((mA M 0 4) = 2)) then (bsF M n 4 true) else none))))) rfl rfl rfl ?_
      refine x_istore (pc' := 83) (ls' := [_, _, _, _, _, _, _, _]) rfl rfl rfl rfl ?_
      refine x_iinc (pc' := 86) (y := 1) (ls' := [_, _, _, _, _, _, _, _]) rfl rfl rfl rfl rfl ?_
      refine x_goto (pc' := 20) rfl rfl ?_
      refine x_iload (pc' := 22) rfl rfl rfl ?_
      refine x_iconst (pc' := 23) rfl rfl ?_
      refine x_icmp (a' := 89) (pc' := 26) (z := false) rfl rfl rfl (by decide) (fun h => by cases h) (fun _ => ?_)
      refine x_aload_n (pc' := 27) rfl rfl rfl rfl rfl ?_
      refine x_aload_n (pc' := 28) rfl rfl rfl rfl rfl ?_
      refine x_iload_n (pc' := 29) rfl rfl rfl ?_
      refine x_iload (pc' := 31) rfl rfl rfl ?_
      refine x_cv (ls0 := [_, _, _, _, sJk, sJk]) (rest := []) rfl rfl rfl rfl rfl ?_
      refine x_aload_n (pc' := 1) rfl rfl rfl rfl rfl ?_
      refine x_gI (pc' := 4) (x := 1) rfl rfl rfl (kI_64_1 hc.1) ?_
      refine x_iconst (pc' := 5) rfl rfl ?_
      refine x_imul (pc' := 6) (z := 3) rfl rfl (by decide) ?_
      refine x_iload_n (pc' := 7) rfl rfl rfl ?_
      refine x_iadd (pc' := 8) (z := 4) rfl rfl (by decide) ?_
      refine x_iconst (pc' := 9) rfl rfl ?_
      refine x_imul (pc' := 10) (z := 12) rfl rfl (by decide) ?_
      refine x_iload_n (pc' := 11) rfl rfl rfl ?_
      refine x_iadd (pc' := 12) (z := 13) rfl rfl (by decide) ?_
      refine x_istore (pc' := 14) (ls' := [_, _, _, _, _, _]) rfl rfl rfl rfl ?_
      refine x_iload_n (pc' := 15) rfl rfl rfl ?_
      refine x_if (a' := 36) (pc' := 18) (z := false) rfl rfl rfl (by decide) (fun h => by cases h) (fun _ => ?_)
      refine x_iload_n (pc' := 19) rfl rfl rfl ?_
      refine x_iconst (pc' := 20) rfl rfl ?_
      refine x_icmp (a' := 36) (pc' := 23) (z := false) rfl rfl rfl (by decide) (fun h => by cases h) (fun _ => ?_)
      refine x_iload_n (pc' := 24) rfl rfl rfl ?_
      refine x_if (a' := 36) (pc' := 27) (z := false) rfl rfl rfl (by decide) (fun h => by cases h) (fun _ => ?_)
      refine x_iload_n (pc' := 28) rfl rfl rfl ?_
      refine x_iconst (pc' := 29) rfl rfl ?_
      refine x_icmp (a' := 36) (pc' := 32) (z := false) rfl rfl rfl (by decide) (fun h => by cases h) (fun _ => ?_)
      refine x_iconst (pc' := 33) rfl rfl ?_
      refine x_goto (pc' := 37) rfl rfl ?_
      refine x_istore (pc' := 39) (ls' := [_, _, _, _, _, _]) rfl rfl rfl rfl ?_
      refine x_iload (pc' := 41) rfl rfl rfl ?_
      refine x_if (a' := 67) (pc' := 44) (z := false) rfl rfl rfl (by decide) (fun h => by cases h) (fun _ => ?_)
      refine x_iload (pc' := 46) rfl rfl rfl ?_
      refine x_if (a' := 67) (pc' := 49) (z := false) rfl rfl rfl (by decide) (fun h => by cases h) (fun _ => ?_)
      refine x_iload (pc' := 51) rfl rfl rfl ?_
      refine x_getstatic (pc' := 54) rfl rfl (show 0 < sC t 28 from gst0 hc.1) ?_
      refine x_alen (pc' := 55) (N := 45) rfl rfl rfl (kN_28_0 hc.1) (?_ : X _ _ _ (.inl 45 :: _) _ _)
      refine x_icmp (a' := 67) (pc' := 58) (z := false) rfl rfl rfl (by decide) (fun h => by cases h) (fun _ => ?_)
      refine x_getstatic (pc' := 61) rfl rfl (show 0 < sC t 28 from gst0 hc.1) ?_
      refine x_iload (pc' := 63) rfl rfl rfl ?_
      refine x_iald (pc' := 64) (N := 45) (x := 3) rfl rfl rfl (kN_28_0 hc.1) (io_in (p := 13) (N := 45) (by decide) (by decide)) (Eq.trans (congrArg (sA t 28 0) (nn_io (p := 13) (by decide))) ((hc.1.2.2.2.2.2 13).1.trans rfl)) ?_
      refine x_goto (pc' := 68) rfl rfl ?_
      refine x_reti rfl rfl ?_
      refine sK_i (pc' := 34) rfl ?_
      refine x_istore (pc' := 36) (ls' := [_, _, _, _, _, _, _, _]) rfl rfl rfl rfl ?_
      refine x_iload (pc' := 38) rfl rfl rfl ?_
      refine x_if (a' := 83) (pc' := 41) (z := false) rfl rfl rfl (by decide) (fun h => by cases h) (fun _ => ?_)
      refine x_aload_n (pc' := 42) rfl rfl rfl rfl rfl ?_
      refine x_iload (pc' := 44) rfl rfl rfl ?_
      refine x_iload_n (pc' := 45) rfl rfl rfl ?_
      refine x_cv (ls0 := [_, _, _, sJk]) (rest := []) rfl rfl rfl rfl rfl ?_
      refine x_iload_n (pc' := 1) rfl rfl rfl ?_
      refine x_abs (pc' := 4) (z := 3) rfl rfl rfl (by decide) ?_
      refine x_iconst (pc' := 5) rfl rfl ?_
      refine x_isub (pc' := 6) (z := 2) rfl rfl (by decide) ?_
      refine x_istore_n (pc' := 7) (ls' := [_, _, _, _]) rfl rfl rfl rfl ?_
      refine x_iload_n (pc' := 8) rfl rfl rfl ?_
      refine x_if (a' := 33) (pc' := 11) (z := false) rfl rfl rfl (by decide) (fun h => by cases h) (fun _ => ?_)
      refine x_iload_n (pc' := 12) rfl rfl rfl ?_
      refine x_aload_n (pc' := 13) rfl rfl rfl rfl rfl ?_
      refine x_gR (pc' := 16) (r := (some 0)) rfl rfl rfl (kR_640_0 hc.1) ?_
      refine x_alen (pc' := 17) (N := 5) rfl rfl rfl (kN_24_0 hc.1) (?_ : X _ _ _ (.inl 5 :: _) _ _)
      refine x_icmp (a' := 33) (pc' := 20) (z := false) rfl rfl rfl (by decide) (fun h => by cases h) (fun _ => ?_)
      refine x_aload_n (pc' := 21) rfl rfl rfl rfl rfl ?_
      refine x_gR (pc' := 24) (r := (some 0)) rfl rfl rfl (kR_640_0 hc.1) ?_
      refine x_iload_n (pc' := 25) rfl rfl rfl ?_
      refine x_aald (pc' := 26) (N := 5) (k' := 1) (r := (some 2)) rfl rfl rfl (kN_24_0 hc.1) (io_in (p := 2) (N := 5) (by decide) (by decide)) (Eq.trans (congrArg (sE t 24 0) (nn_io (p := 2) (by decide))) (kB hc.1 (by decide))) ?_
      refine x_gI (pc' := 29) (x := (mA M 0 2)) rfl rfl rfl (kA hM rfl (show 2 < 5 by decide)) ?_
      refine x_iconst (pc' := 30) rfl rfl ?_
      have J41 : ((sK 79 81 45 [.inr (.inr (10, (some 0))), .inr (.inr (1, (some 1))), .inl 1, .inl (bz false), .inl (0 + (mA M 14 (ovD (bif (decide ((mA M 0 4) = 2)) then (bsF M n 4 true) else none)))), .inl 1, .inl 3, .inr (.inr (8, (bif (decide ((mA M 0 4) = 2)) then (bsF M n 4 true) else none)))] [] Q) : sRs → sT → Prop) (.inl (some (.inr (.inr (8, (bif (decide ((mA M 0 2) = 2)) then (bsF M n 2 true) else none)))))) t := by
        refine sK_i (pc' := 48) rfl ?_
        refine x_astore (pc' := 50) (ls' := [_, _, _, _, _, _, _, _]) rfl rfl rfl rfl rfl ?_
        refine x_aload (pc' := 52) rfl rfl rfl rfl rfl ?_
        refine x_ifnonnull (a' := 59) (pc' := 55) rfl rfl rfl rfl (fun j1 q43 => ?_) (fun q43 => ?_)
        · refine x_iload (pc' := 61) rfl rfl rfl ?_
          refine x_iload (pc' := 63) rfl rfl rfl ?_
          refine x_if (a' := 74) (pc' := 66) (z := false) rfl rfl rfl (by decide) (fun h => by cases h) (fun _ => ?_)
          refine x_aload (pc' := 68) rfl rfl rfl rfl (ovD_s q43) ?_
          refine x_gI (pc' := 71) (x := (mA M 14 (ovD (bif (decide ((mA M 0 2) = 2)) then (bsF M n 2 true) else none)))) rfl rfl rfl ((kA hM rfl (ovD_lt (obd_c bsF_lt obd_n) q43)).trans (congrFun (Fc.f14 (Fc.refl _)) _)) ?_
          refine x_goto (pc' := 80) rfl rfl ?_
          refine x_iadd (pc' := 81) (z := ((0 + (mA M 14 (ovD (bif (decide ((mA M 0 4) = 2)) then (bsF M n 4 true) else none)))) + (mA M 14 (ovD (bif (decide ((mA M 0 2) = 2)) then (bsF M n 2 true) else none))))) rfl rfl rfl ?_
          refine x_istore (pc' := 83) (ls' := [_, _, _, _, _, _, _, _]) rfl rfl rfl rfl ?_
          refine x_iinc (pc' := 86) (y := 2) (ls' := [_, _, _, _, _, _, _, _]) rfl rfl rfl rfl rfl ?_
          refine x_goto (pc' := 20) rfl rfl ?_
          refine x_iload (pc' := 22) rfl rfl rfl ?_
          refine x_iconst (pc' := 23) rfl rfl ?_
          refine x_icmp (a' := 89) (pc' := 26) (z := false) rfl rfl rfl (by decide) (fun h => by cases h) (fun _ => ?_)
          refine x_aload_n (pc' := 27) rfl rfl rfl rfl rfl ?_
          refine x_aload_n (pc' := 28) rfl rfl rfl rfl rfl ?_
          refine x_iload_n (pc' := 29) rfl rfl rfl ?_
          refine x_iload (pc' := 31) rfl rfl rfl ?_
          refine x_cv (ls0 := [_, _, _, _, sJk, sJk]) (rest := []) rfl rfl rfl rfl rfl ?_
          refine x_aload_n (pc' := 1) rfl rfl rfl rfl rfl ?_
          refine x_gI (pc' := 4) (x := 1) rfl rfl rfl (kI_64_1 hc.1) ?_
          refine x_iconst (pc' := 5) rfl rfl ?_
          refine x_imul (pc' := 6) (z := 3) rfl rfl (by decide) ?_
          refine x_iload_n (pc' := 7) rfl rfl rfl ?_
          refine x_iadd (pc' := 8) (z := 4) rfl rfl (by decide) ?_
          refine x_iconst (pc' := 9) rfl rfl ?_
          refine x_imul (pc' := 10) (z := 12) rfl rfl (by decide) ?_
          refine x_iload_n (pc' := 11) rfl rfl rfl ?_
          refine x_iadd (pc' := 12) (z := 14) rfl rfl (by decide) ?_
          refine x_istore (pc' := 14) (ls' := [_, _, _, _, _, _]) rfl rfl rfl rfl ?_
          refine x_iload_n (pc' := 15) rfl rfl rfl ?_
          refine x_if (a' := 36) (pc' := 18) (z := false) rfl rfl rfl (by decide) (fun h => by cases h) (fun _ => ?_)
          refine x_iload_n (pc' := 19) rfl rfl rfl ?_
          refine x_iconst (pc' := 20) rfl rfl ?_
          refine x_icmp (a' := 36) (pc' := 23) (z := false) rfl rfl rfl (by decide) (fun h => by cases h) (fun _ => ?_)
          refine x_iload_n (pc' := 24) rfl rfl rfl ?_
          refine x_if (a' := 36) (pc' := 27) (z := false) rfl rfl rfl (by decide) (fun h => by cases h) (fun _ => ?_)
          refine x_iload_n (pc' := 28) rfl rfl rfl ?_
          refine x_iconst (pc' := 29) rfl rfl ?_
          refine x_icmp (a' := 36) (pc' := 32) (z := false) rfl rfl rfl (by decide) (fun h => by cases h) (fun _ => ?_)
          refine x_iconst (pc' := 33) rfl rfl ?_
          refine x_goto (pc' := 37) rfl rfl ?_
          refine x_istore (pc' := 39) (ls' := [_, _, _, _, _, _]) rfl rfl rfl rfl ?_
          refine x_iload (pc' := 41) rfl rfl rfl ?_
          refine x_if (a' := 67) (pc' := 44) (z := false) rfl rfl rfl (by decide) (fun h => by cases h) (fun _ => ?_)
          refine x_iload (pc' := 46) rfl rfl rfl ?_
          refine x_if (a' := 67) (pc' := 49) (z := false) rfl rfl rfl (by decide) (fun h => by cases h) (fun _ => ?_)
          refine x_iload (pc' := 51) rfl rfl rfl ?_
          refine x_getstatic (pc' := 54) rfl rfl (show 0 < sC t 28 from gst0 hc.1) ?_
          refine x_alen (pc' := 55) (N := 45) rfl rfl rfl (kN_28_0 hc.1) (?_ : X _ _ _ (.inl 45 :: _) _ _)
          refine x_icmp (a' := 67) (pc' := 58) (z := false) rfl rfl rfl (by decide) (fun h => by cases h) (fun _ => ?_)
          refine x_getstatic (pc' := 61) rfl rfl (show 0 < sC t 28 from gst0 hc.1) ?_
          refine x_iload (pc' := 63) rfl rfl rfl ?_
          refine x_iald (pc' := 64) (N := 45) (x := 0) rfl rfl rfl (kN_28_0 hc.1) (io_in (p := 14) (N := 45) (by decide) (by decide)) (Eq.trans (congrArg (sA t 28 0) (nn_io (p := 14) (by decide))) ((hc.1.2.2.2.2.2 14).1.trans rfl)) ?_
          refine x_goto (pc' := 68) rfl rfl ?_
          refine x_reti rfl rfl ?_
          refine sK_i (pc' := 34) rfl ?_
          refine x_istore (pc' := 36) (ls' := [_, _, _, _, _, _, _, _]) rfl rfl rfl rfl ?_
          refine x_iload (pc' := 38) rfl rfl rfl ?_
          refine x_if (a' := 83) (pc' := 41) (z := true) rfl rfl rfl (by decide) (fun _ => ?_) (fun h => by cases h)
          refine x_iinc (pc' := 86) (y := 3) (ls' := [_, _, _, _, _, _, _, _]) rfl rfl rfl rfl rfl ?_
          refine x_goto (pc' := 20) rfl rfl ?_
          refine x_iload (pc' := 22) rfl rfl rfl ?_
          refine x_iconst (pc' := 23) rfl rfl ?_
          refine x_icmp (a' := 89) (pc' := 26) (z := true) rfl rfl rfl (by decide) (fun _ => ?_) (fun h => by cases h)
          refine x_iload (pc' := 91) rfl rfl rfl ?_
          refine x_reti rfl rfl ?_
          exact qv (by simp only [cp11fF, (isSome_s q25), (isSome_s q43), cd_t, cd_f]) (q )
        · refine x_sipush (pc' := 58) rfl rfl ?_
          refine x_reti rfl rfl ?_
          exact qv (by simp only [cp11fF, (isSome_s q25), (isSome_n q43), cd_t, cd_f]) (q )
      refine x_icmp (a' := 35) (pc' := 33) (z := decide ((mA M 0 2) = 2)) rfl rfl rfl rfl (fun q38 => ?_) (fun q38 => ?_)
      · refine x_aload_n (pc' := 36) rfl rfl rfl rfl rfl ?_
        refine x_gR (pc' := 39) (r := (some 0)) rfl rfl rfl (kR_640_0 hc.1) ?_
        refine x_iload_n (pc' := 40) rfl rfl rfl ?_
        refine x_aald (pc' := 41) (N := 5) (k' := 1) (r := (some 2)) rfl rfl rfl (kN_24_0 hc.1) (io_in (p := 2) (N := 5) (by decide) (by decide)) (Eq.trans (congrArg (sE t 24 0) (nn_io (p := 2) (by decide))) (kB hc.1 (by decide))) ?_
        refine x_iload_n (pc' := 42) rfl rfl rfl ?_
        refine x_if (a' := 57) (pc' := 45) (z := false) rfl rfl rfl (by decide) (fun h => by cases h) (fun _ => ?_)
        refine x_iload_n (pc' := 46) rfl rfl rfl ?_
        refine x_if (a' := 53) (pc' := 49) (z := false) rfl rfl rfl (by decide) (fun h => by cases h) (fun _ => ?_)
        refine x_iconst (pc' := 50) rfl rfl ?_
        refine x_goto (pc' := 58) rfl rfl ?_
        refine x_cv (ls0 := [_, _]) (rest := []) rfl rfl rfl rfl rfl ?_
        refine x_iload_n (pc' := 1) rfl rfl rfl ?_
        refine x_if (a' := 11) (pc' := 4) (z := false) rfl rfl rfl (by decide) (fun h => by cases h) (fun _ => ?_)
        refine x_aload_n (pc' := 5) rfl rfl rfl rfl rfl ?_
        refine x_gR (pc' := 8) (r := (bsF M n 2 true)) rfl rfl rfl (bs_69 hC (Fc.ri (Fc.refl _) hR) hM (by decide)) ?_
        refine x_goto (pc' := 15) rfl rfl ?_
        refine x_reta rfl rfl ?_
        refine sK_i (pc' := 61) rfl ?_
        refine x_reta rfl rfl ?_
        ((try rw [q38] at J41); (try rw [q38]); (try simp only [cd_t, cd_f, nt_t, nt_f, an_t, an_f, or_t, or_f] at J41); (try simp only [cd_t, cd_f, nt_t, nt_f, an_t, an_f, or_t, or_f]); exact J41)
      · refine x_null (pc' := 34) rfl rfl rfl ?_
        refine x_reta rfl rfl ?_
        ((try rw [q38] at J41); (try rw [q38]); (try simp only [cd_t, cd_f, nt_t, nt_f, an_t, an_f, or_t, or_f] at J41); (try simp only [cd_t, cd_f, nt_t, nt_f, an_t, an_f, or_t, or_f]); exact J41)
    · refine x_sipush (pc' := 58) rfl rfl ?_
      refine x_reti rfl rfl ?_
      exact qv (by simp only [cp11fF, (isSome_n q25), cd_t, cd_f]) (q )
  refine x_icmp (a' := 35) (pc' := 33) (z := decide ((mA M 0 4) = 2)) rfl rfl rfl rfl (fun q20 => ?_) (fun q20 => ?_)
  · refine x_aload_n (pc' := 36) rfl rfl rfl rfl rfl ?_
    refine x_gR (pc' := 39) (r := (some 0)) rfl rfl rfl (kR_640_0 hc.1) ?_
    refine x_iload_n (pc' := 40) rfl rfl rfl ?_
    refine x_aald (pc' := 41) (N := 5) (k' := 1) (r := (some 4)) rfl rfl rfl (kN_24_0 hc.1) (io_in (p := 4) (N := 5) (by decide) (by decide)) (Eq.trans (congrArg (sE t 24 0) (nn_io (p := 4) (by decide))) (kB hc.1 (by decide))) ?_
    refine x_iload_n (pc' := 42) rfl rfl rfl ?_
    refine x_if (a' := 57) (pc' := 45) (z := false) rfl rfl rfl (by decide) (fun h => by cases h) (fun _ => ?_)
    refine x_iload_n (pc' := 46) rfl rfl rfl ?_
    refine x_if (a' := 53) (pc' := 49) (z := false) rfl rfl rfl (by decide) (fun h => by cases h) (fun _ => ?_)
    refine x_iconst (pc' := 50) rfl rfl ?_
    refine x_goto (pc' := 58) rfl rfl ?_
    refine x_cv (ls0 := [_, _]) (rest := []) rfl rfl rfl rfl rfl ?_
    refine x_iload_n (pc' := 1) rfl rfl rfl ?_
    refine x_if (a' := 11) (pc' := 4) (z := false) rfl rfl rfl (by decide) (fun h => by cases h) (fun _ => ?_)
    refine x_aload_n (pc' := 5) rfl rfl rfl rfl rfl ?_
    refine x_gR (pc' := 8) (r := (bsF M n 4 true)) rfl rfl rfl (bs_69 hC (Fc.ri (Fc.refl _) hR) hM (by decide)) ?_
    refine x_goto (pc' := 15) rfl rfl ?_
    refine x_reta rfl rfl ?_
    refine sK_i (pc' := 61) rfl ?_
    refine x_reta rfl rfl ?_
    ((try rw [q20] at J23); (try rw [q20]); (try simp only [cd_t, cd_f, nt_t, nt_f, an_t, an_f, or_t, or_f] at J23); (try simp only [cd_t, cd_f, nt_t, nt_f, an_t, an_f, or_t, or_f]); exact J23)
  · refine x_null (pc' := 34) rfl rfl rfl ?_
    refine x_reta rfl rfl ?_
    ((try rw [q20] at J23); (try rw [q20]); (try simp only [cd_t, cd_f, nt_t, nt_f, an_t, an_f, or_t, or_f] at J23); (try simp only [cd_t, cd_f, nt_t, nt_f, an_t, an_f, or_t, or_f]); exact J23)
def cp11tF (M : sM) (n : Nat) : Int32 := (bif (bif (decide ((mA M 0 4) = 2)) then (bsF M n 4 false) else none).isSome then (bif (bif (decide ((mA M 0 2) = 2)) then (bsF M n 2 false) else none).isSome then ((0 + (mA M 14 (ovD (bif (decide ((mA M 0 4) = 2)) then (bsF M n 4 false) else none)))) + (mA M 14 (ovD (bif (decide ((mA M 0 2) = 2)) then (bsF M n 2 false) else none)))) else (-10000)) else (-10000))
set_option maxHeartbeats 4000000 in
set_option maxRecDepth 10000 in
theorem c81_11t {t : sT} {Q : sRs → sT → Prop} {M : sM} {n : Nat} {T : Nat}
    (hM : Rl t M n T)
    (hc : Sf t M n T)
    (hR : Ri M n)
    (hC : rlC t M n)
    (q : Q (.inl (some (.inl (cp11tF M n)))) t) :
    X 81 0 [.inr (.inr (10, (some 0))), .inr (.inr (1, (some 1))), .inl 1, .inl (bz true), sJk, sJk, sJk, sJk] [] t Q := by
  refine x_aload_n (pc' := 1) rfl rfl rfl rfl rfl ?_
  refine x_aload_n (pc' := 2) rfl rfl rfl rfl rfl ?_
  refine x_iload_n (pc' := 3) rfl rfl rfl ?_
  refine x_iconst (pc' := 4) rfl rfl ?_
  refine x_cv (ls0 := [_, _, _, _, sJk, sJk]) (rest := []) rfl rfl rfl rfl rfl ?_
  refine x_aload_n (pc' := 1) rfl rfl rfl rfl rfl ?_
  refine x_gI (pc' := 4) (x := 1) rfl rfl rfl (kI_64_1 hc.1) ?_
  refine x_iconst (pc' := 5) rfl rfl ?_
  refine x_imul (pc' := 6) (z := 3) rfl rfl (by decide) ?_
  refine x_iload_n (pc' := 7) rfl rfl rfl ?_
  refine x_iadd (pc' := 8) (z := 4) rfl rfl (by decide) ?_
  refine x_iconst (pc' := 9) rfl rfl ?_
  refine x_imul (pc' := 10) (z := 12) rfl rfl (by decide) ?_
  refine x_iload_n (pc' := 11) rfl rfl rfl ?_
  refine x_iadd (pc' := 12) (z := 12) rfl rfl (by decide) ?_
  refine x_istore (pc' := 14) (ls' := [_, _, _, _, _, _]) rfl rfl rfl rfl ?_
  refine x_iload_n (pc' := 15) rfl rfl rfl ?_
  refine x_if (a' := 36) (pc' := 18) (z := false) rfl rfl rfl (by decide) (fun h => by cases h) (fun _ => ?_)
  refine x_iload_n (pc' := 19) rfl rfl rfl ?_
  refine x_iconst (pc' := 20) rfl rfl ?_
  refine x_icmp (a' := 36) (pc' := 23) (z := false) rfl rfl rfl (by decide) (fun h => by cases h) (fun _ => ?_)
  refine x_iload_n (pc' := 24) rfl rfl rfl ?_
  refine x_if (a' := 36) (pc' := 27) (z := false) rfl rfl rfl (by decide) (fun h => by cases h) (fun _ => ?_)
  refine x_iload_n (pc' := 28) rfl rfl rfl ?_
  refine x_iconst (pc' := 29) rfl rfl ?_
  refine x_icmp (a' := 36) (pc' := 32) (z := false) rfl rfl rfl (by decide) (fun h => by cases h) (fun _ => ?_)
  refine x_iconst (pc' := 33) rfl rfl ?_
  refine x_goto (pc' := 37) rfl rfl ?_
  refine x_istore (pc' := 39) (ls' := [_, _, _, _, _, _]) rfl rfl rfl rfl ?_
  refine x_iload (pc' := 41) rfl rfl rfl ?_
  refine x_if (a' := 67) (pc' := 44) (z := false) rfl rfl rfl (by decide) (fun h => by cases h) (fun _ => ?_)
  refine x_iload (pc' := 46) rfl rfl rfl ?_
  refine x_if (a' := 67) (pc' := 49) (z := false) rfl rfl rfl (by decide) (fun h => by cases h) (fun _ => ?_)
  refine x_iload (pc' := 51) rfl rfl rfl ?_
  refine x_getstatic (pc' := 54) rfl rfl (show 0 < sC t 28 from gst0 hc.1) ?_
  refine x_alen (pc' := 55) (N := 45) rfl rfl rfl (kN_28_0 hc.1) (?_ : X _ _ _ (.inl 45 :: _) _ _)
  refine x_icmp (a' := 67) (pc' := 58) (z := false) rfl rfl rfl (by decide) (fun h => by cases h) (fun _ => ?_)
  refine x_getstatic (pc' := 61) rfl rfl (show 0 < sC t 28 from gst0 hc.1) ?_
  refine x_iload (pc' := 63) rfl rfl rfl ?_
  refine x_iald (pc' := 64) (N := 45) (x := 5) rfl rfl rfl (kN_28_0 hc.1) (io_in (p := 12) (N := 45) (by decide) (by decide)) (Eq.trans (congrArg (sA t 28 0) (nn_io (p := 12) (by decide))) ((hc.1.2.2.2.2.2 12).1.trans rfl)) ?_
  refine x_goto (pc' := 68) rfl rfl ?_
  refine x_reti rfl rfl ?_
  refine sK_i (pc' := 7) rfl ?_
  refine x_if (a' := 14) (pc' := 10) (z := true) rfl rfl rfl (by decide) (fun _ => ?_) (fun h => by cases h)
  refine x_iconst (pc' := 15) rfl rfl ?_
  refine x_istore (pc' := 17) (ls' := [_, _, _, _, _, _, _, _]) rfl rfl rfl rfl ?_
  refine x_iconst (pc' := 18) rfl rfl ?_
  refine x_istore (pc' := 20) (ls' := [_, _, _, _, _, _, _, _]) rfl rfl rfl rfl ?_
  refine x_iload (pc' := 22) rfl rfl rfl ?_
  refine x_iconst (pc' := 23) rfl rfl ?_
  refine x_icmp (a' := 89) (pc' := 26) (z := false) rfl rfl rfl (by decide) (fun h => by cases h) (fun _ => ?_)
  refine x_aload_n (pc' := 27) rfl rfl rfl rfl rfl ?_
  refine x_aload_n (pc' := 28) rfl rfl rfl rfl rfl ?_
  refine x_iload_n (pc' := 29) rfl rfl rfl ?_
  refine x_iload (pc' := 31) rfl rfl rfl ?_
  refine x_cv (ls0 := [_, _, _, _, sJk, sJk]) (rest := []) rfl rfl rfl rfl rfl ?_
  refine x_aload_n (pc' := 1) rfl rfl rfl rfl rfl ?_
  refine x_gI (pc' := 4) (x := 1) rfl rfl rfl (kI_64_1 hc.1) ?_
  refine x_iconst (pc' := 5) rfl rfl ?_
  refine x_imul (pc' := 6) (z := 3) rfl rfl (by decide) ?_
  refine x_iload_n (pc' := 7) rfl rfl rfl ?_
  refine x_iadd (pc' := 8) (z := 4) rfl rfl (by decide) ?_
  refine x_iconst (pc' := 9) rfl rfl ?_
  refine x_imul (pc' := 10) (z := 12) rfl rfl (by decide) ?_
  refine x_iload_n (pc' := 11) rfl rfl rfl ?_
  refine x_iadd (pc' := 12) (z := 12) rfl rfl (by decide) ?_
  refine x_istore (pc' := 14) (ls' := [_, _, _, _, _, _]) rfl rfl rfl rfl ?_
  refine x_iload_n (pc' := 15) rfl rfl rfl ?_
  refine x_if (a' := 36) (pc' := 18) (z := false) rfl rfl rfl (by decide) (fun h => by cases h) (fun _ => ?_)
  refine x_iload_n (pc' := 19) rfl rfl rfl ?_
  refine x_iconst (pc' := 20) rfl rfl ?_
  refine x_icmp (a' := 36) (pc' := 23) (z := false) rfl rfl rfl (by decide) (fun h => by cases h) (fun _ => ?_)
  refine x_iload_n (pc' := 24) rfl rfl rfl ?_
  refine x_if (a' := 36) (pc' := 27) (z := false) rfl rfl rfl (by decide) (fun h => by cases h) (fun _ => ?_)
  refine x_iload_n (pc' := 28) rfl rfl rfl ?_
  refine x_iconst (pc' := 29) rfl rfl ?_
  refine x_icmp (a' := 36) (pc' := 32) (z := false) rfl rfl rfl (by decide) (fun h => by cases h) (fun _ => ?_)
  refine x_iconst (pc' := 33) rfl rfl ?_
  refine x_goto (pc' := 37) rfl rfl ?_
  refine x_istore (pc' := 39) (ls' := [_, _, _, _, _, _]) rfl rfl rfl rfl ?_
  refine x_iload (pc' := 41) rfl rfl rfl ?_
  refine x_if (a' := 67) (pc' := 44) (z := false) rfl rfl rfl (by decide) (fun h => by cases h) (fun _ => ?_)
  refine x_iload (pc' := 46) rfl rfl rfl ?_
  refine x_if (a' := 67) (pc' := 49) (z := false) rfl rfl rfl (by decide) (fun h => by cases h) (fun _ => ?_)
  refine x_iload (pc' := 51) rfl rfl rfl ?_
  refine x_getstatic (pc' := 54) rfl rfl (show 0 < sC t 28 from gst0 hc.1) ?_
  refine x_alen (pc' := 55) (N := 45) rfl rfl rfl (kN_28_0 hc.1) (?_ : X _ _ _ (.inl 45 :: _) _ _)
  refine x_icmp (a' := 67) (pc' := 58) (z := false) rfl rfl rfl (by decide) (fun h => by cases h) (fun _ => ?_)
  refine x_getstatic (pc' := 61) rfl rfl (show 0 < sC t 28 from gst0 hc.1) ?_
  refine x_iload (pc' := 63) rfl rfl rfl ?_
  refine x_iald (pc' := 64) (N := 45) (x := 5) rfl rfl rfl (kN_28_0 hc.1) (io_in (p := 12) (N := 45) (by decide) (by decide)) (Eq.trans (congrArg (sA t 28 0) (nn_io (p := 12) (by decide))) ((hc.1.2.2.2.2.2 12).1.trans rfl)) ?_
  refine x_goto (pc' := 68) rfl rfl ?_
  refine x_reti rfl rfl ?_
  refine sK_i (pc' := 34) rfl ?_
  refine x_istore (pc' := 36) (ls' := [_, _, _, _, _, _, _, _]) rfl rfl rfl rfl ?_
  refine x_iload (pc' := 38) rfl rfl rfl ?_
  refine x_if (a' := 83) (pc' := 41) (z := false) rfl rfl rfl (by decide) (fun h => by cases h) (fun _ => ?_)
  refine x_aload_n (pc' := 42) rfl rfl rfl rfl rfl ?_
  refine x_iload (pc' := 44) rfl rfl rfl ?_
  refine x_iload_n (pc' := 45) rfl rfl rfl ?_
  refine x_cv (ls0 := [_, _, _, sJk]) (rest := []) rfl rfl rfl rfl rfl ?_
  refine x_iload_n (pc' := 1) rfl rfl rfl ?_
  refine x_abs (pc' := 4) (z := 5) rfl rfl rfl (by decide) ?_
  refine x_iconst (pc' := 5) rfl rfl ?_
  refine x_isub (pc' := 6) (z := 4) rfl rfl (by decide) ?_
  refine x_istore_n (pc' := 7) (ls' := [_, _, _, _]) rfl rfl rfl rfl ?_
  refine x_iload_n (pc' := 8) rfl rfl rfl ?_
  refine x_if (a' := 33) (pc' := 11) (z := false) rfl rfl rfl (by decide) (fun h => by cases h) (fun _ => ?_)
  refine x_iload_n (pc' := 12) rfl rfl rfl ?_
  refine x_aload_n (pc' := 13) rfl rfl rfl rfl rfl ?_
  refine x_gR (pc' := 16) (r := (some 0)) rfl rfl rfl (kR_640_0 hc.1) ?_
  refine x_alen (pc' := 17) (N := 5) rfl rfl rfl (kN_24_0 hc.1) (?_ : X _ _ _ (.inl 5 :: _) _ _)
  refine x_icmp (a' := 33) (pc' := 20) (z := false) rfl rfl rfl (by decide) (fun h => by cases h) (fun _ => ?_)
  refine x_aload_n (pc' := 21) rfl rfl rfl rfl rfl ?_
  refine x_gR (pc' := 24) (r := (some 0)) rfl rfl rfl (kR_640_0 hc.1) ?_
  refine x_iload_n (pc' := 25) rfl rfl rfl ?_
  refine x_aald (pc' := 26) (N := 5) (k' := 1) (r := (some 4)) rfl rfl rfl (kN_24_0 hc.1) (io_in (p := 4) (N := 5) (by decide) (by decide)) (Eq.trans (congrArg (sE t 24 0) (nn_io (p := 4) (by decide))) (kB hc.1 (by decide))) ?_
  refine x_gI (pc' := 29) (x := (mA M 0 4)) rfl rfl rfl (kA hM rfl (show 4 < 5 by decide)) ?_
  refine x_iconst (pc' := 30) rfl rfl ?_
  have J23 : ((sK 79 81 45 [.inr (.inr (10, (some 0))), .inr (.inr (1, (some 1))), .inl 1, .inl (bz true), .inl 0, .inl 0, .inl 5, sJk] [] Q) : sRs → sT → Prop) (.inl (some (.inr (.inr (8, (bif (decide ((mA M 0 4) = 2)) then (bsF M n 4 false) else none)))))) t := by
    refine sK_i (pc' := 48) rfl ?_
    refine x_astore (pc' := 50) (ls' := [_, _, _, _, _, _, _, _]) rfl rfl rfl rfl rfl ?_
    refine x_aload (pc' := 52) rfl rfl rfl rfl rfl ?_
    refine x_ifnonnull (a' := 59) (pc' := 55) rfl rfl rfl rfl (fun j0 q25 => ?_) (fun q25 => ?_)
    · refine x_iload (pc' := 61) rfl rfl rfl ?_
      refine x_iload (pc' := 63) rfl rfl rfl ?_
      refine x_if (a' := 74) (pc' := 66) (z := false) rfl rfl rfl (by decide) (fun h => by cases h) (fun _ => ?_)
      refine x_aload (pc' := 68) rfl rfl rfl rfl (ovD_s q25) ?_
      refine x_gI (pc' := 71) (x := (mA M 14 (ovD (bif (decide ((mA M 0 4) = 2)) then (bsF M n 4 false) else none)))) rfl rfl rfl ((kA hM rfl (ovD_lt (obd_c bsF_lt obd_n) q25)).trans (congrFun (Fc.f14 (Fc.refl _)) _)) ?_
      refine x_goto (pc' := 80) rfl rfl ?_
      refine x_iadd (pc' := 81) (z := (0 + (mA M 14 (ovD (bif (decide ((mA M 0 4) = 2)) then (bsF M n 4 false) else none))))) rfl rfl rfl ?_
      refine x_istore (pc' := 83) (ls' := [_, _, _, _, _, _, _, _]) rfl rfl rfl rfl ?_
      refine x_iinc (pc' := 86) (y := 1) (ls' := [_, _, _, _, _, _, _, _]) rfl rfl rfl rfl rfl ?_
      refine x_goto (pc' := 20) rfl rfl ?_
      refine x_iload (pc' := 22) rfl rfl rfl ?_
      refine x_iconst (pc' := 23) rfl rfl ?_
      refine x_icmp (a' := 89) (pc' := 26) (z := false) rfl rfl rfl (by decide) (fun h => by cases h) (fun _ => ?_)
      refine x_aload_n (pc' := 27) rfl rfl rfl rfl rfl ?_
      refine x_aload_n (pc' := 28) rfl rfl rfl rfl rfl ?_
      refine x_iload_n (pc' := 29) rfl rfl rfl ?_
      refine x_iload (pc' := 31) rfl rfl rfl ?_
      refine x_cv (ls0 := [_, _, _, _, sJk, sJk]) (rest := []) rfl rfl rfl rfl rfl ?_
      refine x_aload_n (pc' := 1) rfl rfl rfl rfl rfl ?_
      refine x_gI (pc' := 4) (x := 1) rfl rfl rfl (kI_64_1 hc.1) ?_
      refine x_iconst (pc' := 5) rfl rfl ?_
      refine x_imul (pc' := 6) (z := 3) rfl rfl (by decide) ?_
      refine x_iload_n (pc' := 7) rfl rfl rfl ?_
      refine x_iadd (pc' := 8) (z := 4) rfl rfl (by decide) ?_
      refine x_iconst (pc' := 9) rfl rfl ?_
      refine x_imul (pc' := 10) (z := 12) rfl rfl (by decide) ?_
      refine x_iload_n (pc' := 11) rfl rfl rfl ?_
      refine x_iadd (pc' := 12) (z := 13) rfl rfl (by decide) ?_
      refine x_istore (pc' := 14) (ls' := [_, _, _, _, _, _]) rfl rfl rfl rfl ?_
      refine x_iload_n (pc' := 15) rfl rfl rfl ?_
      refine x_if (a' := 36) (pc' := 18) (z := false) rfl rfl rfl (by decide) (fun h => by cases h) (fun _ => ?_)
      refine x_iload_n (pc' := 19) rfl rfl rfl ?_
      refine x_iconst (pc' := 20) rfl rfl ?_
      refine x_icmp (a' := 36) (pc' := 23) (z := false) rfl rfl rfl (by decide) (fun h => by cases h) (fun _ => ?_)
      refine x_iload_n (pc' := 24) rfl rfl rfl ?_
      refine x_if (a' := 36) (pc' := 27) (z := false) rfl rfl rfl (by decide) (fun h => by cases h) (fun _ => ?_)
      refine x_iload_n (pc' := 28) rfl rfl rfl ?_
      refine x_iconst (pc' := 29) rfl rfl ?_
      refine x_icmp (a' := 36) (pc' := 32) (z := false) rfl rfl rfl (by decide) (fun h => by cases h) (fun _ => ?_)
      refine x_iconst (pc' := 33) rfl rfl ?_
      refine x_goto (pc' := 37) rfl rfl ?_
      refine x_istore (pc' := 39) (ls' := [_, _, _, _, _, _]) rfl rfl rfl rfl ?_
      refine x_iload (pc' := 41) rfl rfl rfl ?_
      refine x_if (a' := 67) (pc' := 44) (z := false) rfl rfl rfl (by decide) (fun h => by cases h) (fun _ => ?_)
      refine x_iload (pc' := 46) rfl rfl rfl ?_
      refine x_if (a' := 67) (pc' := 49) (z := false) rfl rfl rfl (by decide) (fun h => by cases h) (fun _ => ?_)
      refine x_iload (pc' := 51) rfl rfl rfl ?_
      refine x_getstatic (pc' := 54) rfl rfl (show 0 < sC t 28 from gst0 hc.1) ?_
      refine x_alen (pc' := 55) (N := 45) rfl rfl rfl (kN_28_0 hc.1) (?_ : X _ _ _ (.inl 45 :: _) _ _)
      refine x_icmp (a' := 67) (pc' := 58) (z := false) rfl rfl rfl (by decide) (fun h => by cases h) (fun _ => ?_)
      refine x_getstatic (pc' := 61) rfl rfl (show 0 < sC t 28 from gst0 hc.1) ?_
      refine x_iload (pc' := 63) rfl rfl rfl ?_
      refine x_iald (pc' := 64) (N := 45) (x := 3) rfl rfl rfl (kN_28_0 hc.1) (io_in (p := 13) (N := 45) (by decide) (by decide)) (Eq.trans (congrArg (sA t 28 0) (nn_io (p := 13) (by decide))) ((hc.1.2.2.2.2.2 13).1.trans rfl)) ?_
      refine x_goto (pc' := 68) rfl rfl ?_
      refine x_reti rfl rfl ?_
      refine sK_i (pc' := 34) rfl ?_
      refine x_istore (pc' := 36) (ls' := [_, _, _, _, _, _, _, _]) rfl rfl rfl rfl ?_
      refine x_iload (pc' := 38) rfl rfl rfl ?_
      refine x_if (a' := 83) (pc' := 41) (z := false) rfl rfl rfl (by decide) (fun h => by cases h) (fun _ => ?_)
      refine x_aload_n (pc' := 42) rfl rfl rfl rfl rfl ?_
      refine x_iload (pc' := 44) rfl rfl rfl ?_
      refine x_iload_n (pc' := 45) rfl rfl rfl ?_
      refine x_cv (ls0 := [_, _, _, sJk]) (rest := []) rfl rfl rfl rfl rfl ?_
      refine x_iload_n (pc' := 1) rfl rfl rfl ?_
      refine x_abs (pc' := 4) (z := 3) rfl rfl rfl (by decide) ?_
      refine x_iconst (pc' := 5) rfl rfl ?_
      refine x_isub (pc' := 6) (z := 2) rfl rfl (by decide) ?_
      refine x_istore_n (pc' := 7) (ls' := [_, _, _, _]) rfl rfl rfl rfl ?_
      refine x_iload_n (pc' := 8) rfl rfl rfl ?_
      refine x_if (a' := 33) (pc' := 11) (z := false) rfl rfl rfl (by decide) (fun h => by cases h) (fun _ => ?_)
      refine x_iload_n (pc' := 12) rfl rfl rfl ?_
      refine x_aload_n (pc' := 13) rfl rfl rfl rfl rfl ?_
      refine x_gR (pc' := 16) (r := (some 0)) rfl rfl rfl (kR_640_0 hc.1) ?_
      refine x_alen (pc' := 17) (N := 5) rfl rfl rfl (kN_24_0 hc.1) (?_ : X _ _ _ (.inl 5 :: _) _ _)
      refine x_icmp (a' := 33) (pc' := 20) (z := false) rfl rfl rfl (by decide) (fun h => by cases h) (fun _ => ?_)
      refine x_aload_n (pc' := 21) rfl rfl rfl rfl rfl ?_
      refine x_gR (pc' := 24) (r := (some 0)) rfl rfl rfl (kR_640_0 hc.1) ?_
      refine x_iload_n (pc' := 25) rfl rfl rfl ?_
      refine x_aald (pc' := 26) (N := 5) (k' := 1) (r := (some 2)) rfl rfl rfl (kN_24_0 hc.1) (io_in (p := 2) (N := 5) (by decide) (by decide)) (Eq.trans (congrArg (sE t 24 0) (nn_io (p := 2) (by decide))) (kB hc.1 (by decide))) ?_
      refine x_gI (pc' := 29) (x := (mA M 0 2)) rfl rfl rfl (kA hM rfl (show 2 < 5 by decide)) ?_
      refine x_iconst (pc' := 30) rfl rfl ?_
      have J41 : ((sK 79 81 45 [.inr (.inr (10, (some 0))), .inr (.inr (1, (some 1))), .inl 1, .inl (bz true), .inl (0 + (mA M 14 (ovD (bif (decide ((mA M 0 4) = 2)) then (bsF M n 4 false) else none)))), .inl 1, .inl 3, .inr (.inr (8, (bif (decide ((mA M 0 4) = 2)) then (bsF M n 4 false) else none)))] [] Q) : sRs → sT → Prop) (.inl (some (.inr (.inr (8, (bif (decide ((mA M 0 2) = 2)) then (bsF M n 2 false) else none)))))) t := by
        refine sK_i (pc' := 48) rfl ?_
        refine x_astore (pc' := 50) (ls' := [_, _, _, _, _, _, _, _]) rfl rfl rfl rfl rfl ?_
        refine x_aload (pc' := 52) rfl rfl rfl rfl rfl ?_
        refine x_ifnonnull (a' := 59) (pc' := 55) rfl rfl rfl rfl (fun j1 q43 => ?_) (fun q43 => ?_)
        · refine x_iload (pc' := 61) rfl rfl rfl ?_
          refine x_iload (pc' := 63) rfl rfl rfl ?_
          refine x_if (a' := 74) (pc' := 66) (z := false) rfl rfl rfl (by decide) (fun h => by cases h) (fun _ => ?_)
          refine x_aload (pc' := 68) rfl rfl rfl rfl (ovD_s q43) ?_
          refine x_gI (pc' := 71) (x := (mA M 14 (ovD (bif (decide ((mA M 0 2) = 2)) then (bsF M n 2 false) else none)))) rfl rfl rfl ((kA hM rfl (ovD_lt (obd_c bsF_lt obd_n) q43)).trans (congrFun (Fc.f14 (Fc.refl _)) _)) ?_
          refine x_goto (pc' := 80) rfl rfl ?_
          refine x_iadd (pc' := 81) (z := ((0 + (mA M 14 (ovD (bif (decide ((mA M 0 4) = 2)) then (bsF M n 4 false) else none)))) + (mA M 14 (ovD (bif (decide ((mA M 0 2) = 2)) then (bsF M n 2 false) else none))))) rfl rfl rfl ?_
          refine x_istore (pc' := 83) (ls' := [_, _, _, _, _, _, _, _]) rfl rfl rfl rfl ?_
          refine x_iinc (pc' := 86) (y := 2) (ls' := [_, _, _, _, _, _, _, _]) rfl rfl rfl rfl rfl ?_
          refine x_goto (pc' := 20) rfl rfl ?_
          refine x_iload (pc' := 22) rfl rfl rfl ?_
          refine x_iconst (pc' := 23) rfl rfl ?_
          refine x_icmp (a' := 89) (pc' := 26) (z := false) rfl rfl rfl (by decide) (fun h => by cases h) (fun _ => ?_)
          refine x_aload_n (pc' := 27) rfl rfl rfl rfl rfl ?_
          refine x_aload_n (pc' := 28) rfl rfl rfl rfl rfl ?_
          refine x_iload_n (pc' := 29) rfl rfl rfl ?_
          refine x_iload (pc' := 31) rfl rfl rfl ?_
          refine x_cv (ls0 := [_, _, _, _, sJk, sJk]) (rest := []) rfl rfl rfl rfl rfl ?_
          refine x_aload_n (pc' := 1) rfl rfl rfl rfl rfl ?_
          refine x_gI (pc' := 4) (x := 1) rfl rfl rfl (kI_64_1 hc.1) ?_
          refine x_iconst (pc' := 5) rfl rfl ?_
          refine x_imul (pc' := 6) (z := 3) rfl rfl (by decide) ?_
          refine x_iload_n (pc' := 7) rfl rfl rfl ?_
          refine x_iadd (pc' := 8) (z := 4) rfl rfl (by decide) ?_
          refine x_iconst (pc' := 9) rfl rfl ?_
          refine x_imul (pc' := 10) (z := 12) rfl rfl (by decide) ?_
          refine x_iload_n (pc' := 11) rfl rfl rfl ?_
          refine x_iadd (pc' := 12) (z := 14) rfl rfl (by decide) ?_
          refine x_istore (pc' := 14) (ls' := [_, _, _, _, _, _]) rfl rfl rfl rfl ?_
          refine x_iload_n (pc' := 15) rfl rfl rfl ?_
          refine x_if (a' := 36) (pc' := 18) (z := false) rfl rfl rfl (by decide) (fun h => by cases h) (fun _ => ?_)
          refine x_iload_n (pc' := 19) rfl rfl rfl ?_
          refine x_iconst (pc' := 20) rfl rfl ?_
          refine x_icmp (a' := 36) (pc' := 23) (z := false) rfl rfl rfl (by decide) (fun h => by cases h) (fun _ => ?_)
          refine x_iload_n (pc' := 24) rfl rfl rfl ?_
          refine x_if (a' := 36) (pc' := 27) (z := false) rfl rfl rfl (by decide) (fun h => by cases h) (fun _ => ?_)
          refine x_iload_n (pc' := 28) rfl rfl rfl ?_
          refine x_iconst (pc' := 29) rfl rfl ?_
          refine x_icmp (a' := 36) (pc' := 32) (z := false) rfl rfl rfl (by decide) (fun h => by cases h) (fun _ => ?_)
          refine x_iconst (pc' := 33) rfl rfl ?_
          refine x_goto (pc' := 37) rfl rfl ?_
          refine x_istore (pc' := 39) (ls' := [_, _, _, _, _, _]) rfl rfl rfl rfl ?_
          refine x_iload (pc' := 41) rfl rfl rfl ?_
          refine x_if (a' := 67) (pc' := 44) (z := false) rfl rfl rfl (by decide) (fun h => by cases h) (fun _ => ?_)
          refine x_iload (pc' := 46) rfl rfl rfl ?_
          refine x_if (a' := 67) (pc' := 49) (z := false) rfl rfl rfl (by decide) (fun h => by cases h) (fun _ => ?_)
          refine x_iload (pc' := 51) rfl rfl rfl ?_
          refine x_getstatic (pc' := 54) rfl rfl (show 0 < sC t 28 from gst0 hc.1) ?_
          refine x_alen (pc' := 55) (N := 45) rfl rfl rfl (kN_28_0 hc.1) (?_ : X _ _ _ (.inl 45 :: _) _ _)
          refine x_icmp (a' := 67) (pc' := 58) (z := false) rfl rfl rfl (by decide) (fun h => by cases h) (fun _ => ?_)
          refine x_getstatic (pc' := 61) rfl rfl (show 0 < sC t 28 from gst0 hc.1) ?_
          refine x_iload (pc' := 63) rfl rfl rfl ?_
          refine x_iald (pc' := 64) (N := 45) (x := 0) rfl rfl rfl (kN_28_0 hc.1) (io_in (p := 14) (N := 45) (by decide) (by decide)) (Eq.trans (congrArg (sA t 28 0) (nn_io (p := 14) (by decide))) ((hc.1.2.2.2.2.2 14).1.trans rfl)) ?_
          refine x_goto (pc' := 68) rfl rfl ?_
          refine x_reti rfl rfl ?_
          refine sK_i (pc' := 34) rfl ?_
          refine x_istore (pc' := 36) (ls' := [_, _, _, _, _, _, _, _]) rfl rfl rfl rfl ?_
          refine x_iload (pc' := 38) rfl rfl rfl ?_
          refine x_if (a' := 83) (pc' := 41) (z := true) rfl rfl rfl (by decide) (fun _ => ?_) (fun h => by cases h)
          refine x_iinc (pc' := 86) (y := 3) (ls' := [_, _, _, _, _, _, _, _]) rfl rfl rfl rfl rfl ?_
          refine x_goto (pc' := 20) rfl rfl ?_
          refine x_iload (pc' := 22) rfl rfl rfl ?_
          refine x_iconst (pc' := 23) rfl rfl ?_
          refine x_icmp (a' := 89) (pc' := 26) (z := true) rfl rfl rfl (by decide) (fun _ => ?_) (fun h => by cases h)
          refine x_iload (pc' := 91) rfl rfl rfl ?_
          refine x_reti rfl rfl ?_
          exact qv (by simp only [cp11tF, (isSome_s q25), (isSome_s q43), cd_t, cd_f]) (q )
        · refine x_sipush (pc' := 58) rfl rfl ?_
          refine x_reti rfl rfl ?_
          exact qv (by simp only [cp11tF, (isSome_s q25), (isSome_n q43), cd_t, cd_f]) (q )
      refine x_icmp (a' := 35) (pc' := 33) (z := decide ((mA M 0 2) = 2)) rfl rfl rfl rfl (fun q38 => ?_) (fun q38 => ?_)
      · refine x_aload_n (pc' := 36) rfl rfl rfl rfl rfl ?_
        refine x_gR (pc' := 39) (r := (some 0)) rfl rfl rfl (kR_640_0 hc.1) ?_
        refine x_iload_n (pc' := 40) rfl rfl rfl ?_
        refine x_aald (pc' := 41) (N := 5) (k' := 1) (r := (some 2)) rfl rfl rfl (kN_24_0 hc.1) (io_in (p := 2) (N := 5) (by decide) (by decide)) (Eq.trans (congrArg (sE t 24 0) (nn_io (p := 2) (by decide))) (kB hc.1 (by decide))) ?_
        refine x_iload_n (pc' := 42) rfl rfl rfl ?_
        refine x_if (a' := 57) (pc' := 45) (z := false) rfl rfl rfl (by decide) (fun h => by cases h) (fun _ => ?_)
        refine x_iload_n (pc' := 46) rfl rfl rfl ?_
        refine x_if (a' := 53) (pc' := 49) (z := true) rfl rfl rfl (by decide) (fun _ => ?_) (fun h => by cases h)
        refine x_iconst (pc' := 54) rfl rfl ?_
        refine x_goto (pc' := 58) rfl rfl ?_
        refine x_cv (ls0 := [_, _]) (rest := []) rfl rfl rfl rfl rfl ?_
        refine x_iload_n (pc' := 1) rfl rfl rfl ?_
        refine x_if (a' := 11) (pc' := 4) (z := true) rfl rfl rfl (by decide) (fun _ => ?_) (fun h => by cases h)
        refine x_aload_n (pc' := 12) rfl rfl rfl rfl rfl ?_
        refine x_gR (pc' := 15) (r := (bsF M n 2 false)) rfl rfl rfl (bs_70 hC (Fc.ri (Fc.refl _) hR) hM (by decide)) ?_
        refine x_reta rfl rfl ?_
        refine sK_i (pc' := 61) rfl ?_
        refine x_reta rfl rfl ?_
        ((try rw [q38] at J41); (try rw [q38]); (try simp only [cd_t, cd_f, nt_t, nt_f, an_t, an_f, or_t, or_f] at J41); (try simp only [cd_t, cd_f, nt_t, nt_f, an_t, an_f, or_t, or_f]); exact J41)
      · refine x_null (pc' := 34) rfl rfl rfl ?_
        refine x_reta rfl rfl ?_
        ((try rw [q38] at J41); (try rw [q38]); (try simp only [cd_t, cd_f, nt_t, nt_f, an_t, an_f, or_t, or_f] at J41); (try simp only [cd_t, cd_f, nt_t, nt_f, an_t, an_f, or_t, or_f]); exact J41)
    · refine x_sipush (pc' := 58) rfl rfl ?_
      refine x_reti rfl rfl ?_
      exact qv (by simp only [cp11tF, (isSome_n q25), cd_t, cd_f]) (q )
  refine x_icmp (a' := 35) (pc' := 33) (z := decide ((mA M 0 4) = 2)) rfl rfl rfl rfl (fun q20 => ?_) (fun q20 => ?_)
  · refine x_aload_n (pc' := 36) rfl rfl rfl rfl rfl ?_
    refine x_gR (pc' := 39) (r := (some 0)) rfl rfl rfl (kR_640_0 hc.1) ?_
    refine x_iload_n (pc' := 40) rfl rfl rfl ?_
    refine x_aald (pc' := 41) (N := 5) (k' := 1) (r := (some 4)) rfl rfl rfl (kN_24_0 hc.1) (io_in (p := 4) (N := 5) (by decide) (by decide)) (Eq.trans (congrArg (sE t 24 0) (nn_io (p := 4) (by decide))) (kB hc.1 (by decide))) ?_
    refine x_iload_n (pc' := 42) rfl rfl rfl ?_
    refine x_if (a' := 57) (pc' := 45) (z := false) rfl rfl rfl (by decide) (fun h => by cases h) (fun _ => ?_)
    refine x_iload_n (pc' := 46) rfl rfl rfl ?_
    refine x_if (a' := 53) (pc' := 49) (z := true) rfl rfl rfl (by decide) (fun _ => ?_) (fun h => by cases h)
    refine x_iconst (pc' := 54) rfl rfl ?_
    refine x_goto (pc' := 58) rfl rfl ?_
    refine x_cv (ls0 := [_, _]) (rest := []) rfl rfl rfl rfl rfl ?_
    refine x_iload_n (pc' := 1) rfl rfl rfl ?_
    refine x_if (a' := 11) (pc' := 4) (z := true) rfl rfl rfl (by decide) (fun _ => ?_) (fun h => by cases h)
    refine x_aload_n (pc' := 12) rfl rfl rfl rfl rfl ?_
    refine x_gR (pc' := 15) (r := (bsF M n 4 false)) rfl rfl rfl (bs_70 hC (Fc.ri (Fc.refl _) hR) hM (by decide)) ?_
    refine x_reta rfl rfl ?_
    refine sK_i (pc' := 61) rfl ?_
    refine x_reta rfl rfl ?_
    ((try rw [q20] at J23); (try rw [q20]); (try simp only [cd_t, cd_f, nt_t, nt_f, an_t, an_f, or_t, or_f] at J23); (try simp only [cd_t, cd_f, nt_t, nt_f, an_t, an_f, or_t, or_f]); exact J23)
  · refine x_null (pc' := 34) rfl rfl rfl ?_
    refine x_reta rfl rfl ?_
    ((try rw [q20] at J23); (try rw [q20]); (try simp only [cd_t, cd_f, nt_t, nt_f, an_t, an_f, or_t, or_f] at J23); (try simp only [cd_t, cd_f, nt_t, nt_f, an_t, an_f, or_t, or_f]); exact J23)
def cp12fF (M : sM) (n : Nat) : Int32 := (bif (bif (decide ((mA M 0 3) = 2)) then (bsF M n 3 false) else none).isSome then (bif (bif (decide ((mA M 0 0) = 2)) then (bsF M n 0 true) else none).isSome then ((0 + (-(mA M 14 (ovD (bif (decide ((mA M 0 3) = 2)) then (bsF M n 3 false) else none))))) + (mA M 14 (ovD (bif (decide ((mA M 0 0) = 2)) then (bsF M n 0 true) else none)))) else (-10000)) else (-10000))
set_option maxHeartbeats 4000000 in
set_option maxRecDepth 10000 in
theorem c81_12f {t : sT} {Q : sRs → sT → Prop} {M : sM} {n : Nat} {T : Nat}
    (hM : Rl t M n T)
    (hc : Sf t M n T)
    (hR : Ri M n)
    (hC : rlC t M n)
    (q : Q (.inl (some (.inl (cp12fF M n)))) t) :
    X 81 0 [.inr (.inr (10, (some 0))), .inr (.inr (1, (some 1))), .inl 2, .inl (bz false), sJk, sJk, sJk, sJk] [] t Q := by
  refine x_aload_n (pc' := 1) rfl rfl rfl rfl rfl ?_
  refine x_aload_n (pc' := 2) rfl rfl rfl rfl rfl ?_
  refine x_iload_n (pc' := 3) rfl rfl rfl ?_
  refine x_iconst (pc' := 4) rfl rfl ?_
  refine x_cv (ls0 := [_, _, _, _, sJk, sJk]) (rest := []) rfl rfl rfl rfl rfl ?_
  refine x_aload_n (pc' := 1) rfl rfl rfl rfl rfl ?_
  refine x_gI (pc' := 4) (x := 1) rfl rfl rfl (kI_64_1 hc.1) ?_
  refine x_iconst (pc' := 5) rfl rfl ?_
  refine x_imul (pc' := 6) (z := 3) rfl rfl (by decide) ?_
  refine x_iload_n (pc' := 7) rfl rfl rfl ?_
  refine x_iadd (pc' := 8) (z := 5) rfl rfl (by decide) ?_
  refine x_iconst (pc' := 9) rfl rfl ?_
  refine x_imul (pc' := 10) (z := 15) rfl rfl (by decide) ?_
  refine x_iload_n (pc' := 11) rfl rfl rfl ?_
  refine x_iadd (pc' := 12) (z := 15) rfl rfl (by decide) ?_
  refine x_istore (pc' := 14) (ls' := [_, _, _, _, _, _]) rfl rfl rfl rfl ?_
  refine x_iload_n (pc' := 15) rfl rfl rfl ?_
  refine x_if (a' := 36) (pc' := 18) (z := false) rfl rfl rfl (by decide) (fun h => by cases h) (fun _ => ?_)
  refine x_iload_n (pc' := 19) rfl rfl rfl ?_
  refine x_iconst (pc' := 20) rfl rfl ?_
  refine x_icmp (a' := 36) (pc' := 23) (z := false) rfl rfl rfl (by decide) (fun h => by cases h) (fun _ => ?_)
  refine x_iload_n (pc' := 24) rfl rfl rfl ?_
  refine x_if (a' := 36) (pc' := 27) (z := false) rfl rfl rfl (by decide) (fun h => by cases h) (fun _ => ?_)
  refine x_iload_n (pc' := 28) rfl rfl rfl ?_
  refine x_iconst (pc' := 29) rfl rfl ?_
  refine x_icmp (a' := 36) (pc' := 32) (z := false) rfl rfl rfl (by decide) (fun h => by cases h) (fun _ => ?_)
  refine x_iconst (pc' := 33) rfl rfl ?_
  refine x_goto (pc' := 37) rfl rfl ?_
  refine x_istore (pc' := 39) (ls' := [_, _, _, _, _, _]) rfl rfl rfl rfl ?_
  refine x_iload (pc' := 41) rfl rfl rfl ?_
  refine x_if (a' := 67) (pc' := 44) (z := false) rfl rfl rfl (by decide) (fun h => by cases h) (fun _ => ?_)
  refine x_iload (pc' := 46) rfl rfl rfl ?_
  refine x_if (a' := 67) (pc' := 49) (z := false) rfl rfl rfl (by decide) (fun h => by cases h) (fun _ => ?_)
  refine x_iload (pc' := 51) rfl rfl rfl ?_
  refine x_getstatic (pc' := 54) rfl rfl (show 0 < sC t 28 from gst0 hc.1) ?_
  refine x_alen (pc' := 55) (N := 45) rfl rfl rfl (kN_28_0 hc.1) (?_ : X _ _ _ (.inl 45 :: _) _ _)
  refine x_icmp (a' := 67) (pc' := 58) (z := false) rfl rfl rfl (by decide) (fun h => by cases h) (fun _ => ?_)
  refine x_getstatic (pc' := 61) rfl rfl (show 0 < sC t 28 from gst0 hc.1) ?_
  refine x_iload (pc' := 63) rfl rfl rfl ?_
  refine x_iald (pc' := 64) (N := 45) (x := (-4)) rfl rfl rfl (kN_28_0 hc.1) (io_in (p := 15) (N := 45) (by decide) (by decide)) (Eq.trans (congrArg (sA t 28 0) (nn_io (p := 15) (by decide))) ((hc.1.2.2.2.2.2 15).1.trans rfl)) ?_
  refine x_goto (pc' := 68) rfl rfl ?_
  refine x_reti rfl rfl ?_
  refine sK_i (pc' := 7) rfl ?_
  refine x_if (a' := 14) (pc' := 10) (z := true) rfl rfl rfl (by decide) (fun _ => ?_) (fun h => by cases h)
  refine x_iconst (pc' := 15) rfl rfl ?_
  refine x_istore (pc' := 17) (ls' := [_, _, _, _, _, _, _, _]) rfl rfl rfl rfl ?_
  refine x_iconst (pc' := 18) rfl rfl ?_
  refine x_istore (pc' := 20) (ls' := [_, _, _, _, _, _, _, _]) rfl rfl rfl rfl ?_
  refine x_iload (pc' := 22) rfl rfl rfl ?_
  refine x_iconst (pc' := 23) rfl rfl ?_
  refine x_icmp (a' := 89) (pc' := 26) (z := false) rfl rfl rfl (by decide) (fun h => by cases h) (fun _ => ?_)
  refine x_aload_n (pc' := 27) rfl rfl rfl rfl rfl ?_
  refine x_aload_n (pc' := 28) rfl rfl rfl rfl rfl ?_
  refine x_iload_n (pc' := 29) rfl rfl rfl ?_
  refine x_iload (pc' := 31) rfl rfl rfl ?_
  refine x_cv (ls0 := [_, _, _, _, sJk, sJk]) (rest := []) rfl rfl rfl rfl rfl ?_
  refine x_aload_n (pc' := 1) rfl rfl rfl rfl rfl ?_
  refine x_gI (pc' := 4) (x := 1) rfl rfl rfl (kI_64_1 hc.1) ?_
  refine x_iconst (pc' := 5) rfl rfl ?_
  refine x_imul (pc' := 6) (z := 3) rfl rfl (by decide) ?_
  refine x_iload_n (pc' := 7) rfl rfl rfl ?_
  refine x_iadd (pc' := 8) (z := 5) rfl rfl (by decide) ?_
  refine x_iconst (pc' := 9) rfl rfl ?_
  refine x_imul (pc' := 10) (z := 15) rfl rfl (by decide) ?_
  refine x_iload_n (pc' := 11) rfl rfl rfl ?_
  refine x_iadd (pc' := 12) (z := 15) rfl rfl (by decide) ?_
  refine x_istore (pc' := 14) (ls' := [_, _, _, _, _, _]) rfl rfl rfl rfl ?_
  refine x_iload_n (pc' := 15) rfl rfl rfl ?_
  refine x_if (a' := 36) (pc' := 18) (z := false) rfl rfl rfl (by decide) (fun h => by cases h) (fun _ => ?_)
  refine x_iload_n (pc' := 19) rfl rfl rfl ?_
  refine x_iconst (pc' := 20) rfl rfl ?_
  refine x_icmp (a' := 36) (pc' := 23) (z := false) rfl rfl rfl (by decide) (fun h => by cases h) (fun _ => ?_)
  refine x_iload_n (pc' := 24) rfl rfl rfl ?_
  refine x_if (a' := 36) (pc' := 27) (z := false) rfl rfl rfl (by decide) (fun h => by cases h) (fun _ => ?_)
  refine x_iload_n (pc' := 28) rfl rfl rfl ?_
  refine x_iconst (pc' := 29) rfl rfl ?_
  refine x_icmp (a' := 36) (pc' := 32) (z := false) rfl rfl rfl (by decide) (fun h => by cases h) (fun _ => ?_)
  refine x_iconst (pc' := 33) rfl rfl ?_
  refine x_goto (pc' := 37) rfl rfl ?_
  refine x_istore (pc' := 39) (ls' := [_, _, _, _, _, _]) rfl rfl rfl rfl ?_
  refine x_iload (pc' := 41) rfl rfl rfl ?_
  refine x_if (a' := 67) (pc' := 44) (z := false) rfl rfl rfl (by decide) (fun h => by cases h) (fun _ => ?_)
  refine x_iload (pc' := 46) rfl rfl rfl ?_
  refine x_if (a' := 67) (pc' := 49) (z := false) rfl rfl rfl (by decide) (fun h => by cases h) (fun _ => ?_)
  refine x_iload (pc' := 51) rfl rfl rfl ?_
  refine x_getstatic (pc' := 54) rfl rfl (show 0 < sC t 28 from gst0 hc.1) ?_
  refine x_alen (pc' := 55) (N := 45) rfl rfl rfl (kN_28_0 hc.1) (?_ : X _ _ _ (.inl 45 :: _) _ _)
  refine x_icmp (a' := 67) (pc' := 58) (z := false) rfl rfl rfl (by decide) (fun h => by cases h) (fun _ => ?_)
  refine x_getstatic (pc' := 61) rfl rfl (show 0 < sC t 28 from gst0 hc.1) ?_
  refine x_iload (pc' := 63) rfl rfl rfl ?_
  refine x_iald (pc' := 64) (N := 45) (x := (-4)) rfl rfl rfl (kN_28_0 hc.1) (io_in (p := 15) (N := 45) (by decide) (by decide)) (Eq.trans (congrArg (sA t 28 0) (nn_io (p := 15) (by decide))) ((hc.1.2.2.2.2.2 15).1.trans rfl)) ?_
  refine x_goto (pc' := 68) rfl rfl ?_
  refine x_reti rfl rfl ?_
  refine sK_i (pc' := 34) rfl ?_
  refine x_istore (pc' := 36) (ls' := [_, _, _, _, _, _, _, _]) rfl rfl rfl rfl ?_
  refine x_iload (pc' := 38) rfl rfl rfl ?_
  refine x_if (a' := 83) (pc' := 41) (z := false) rfl rfl rfl (by decide) (fun h => by cases h) (fun _ => ?_)
  refine x_aload_n (pc' := 42) rfl rfl rfl rfl rfl ?_
  refine x_iload (pc' := 44) rfl rfl rfl ?_
  refine x_iload_n (pc' := 45) rfl rfl rfl ?_
  refine x_cv (ls0 := [_, _, _, sJk]) (rest := []) rfl rfl rfl rfl rfl ?_
  refine x_iload_n (pc' := 1) rfl rfl rfl ?_
  refine x_abs (pc' := 4) (z := 4) rfl rfl rfl (by decide) ?_
  refine x_iconst (pc' := 5) rfl rfl ?_
  refine x_isub (pc' := 6) (z := 3) rfl rfl (by decide) ?_
  refine x_istore_n (pc' := 7) (ls' := [_, _, _, _]) rfl rfl rfl rfl ?_
  refine x_iload_n (pc' := 8) rfl rfl rfl ?_
  refine x_if (a' := 33) (pc' := 11) (z := false) rfl rfl rfl (by decide) (fun h => by cases h) (fun _ => ?_)
  refine x_iload_n (pc' := 12) rfl rfl rfl ?_
  refine x_aload_n (pc' := 13) rfl rfl rfl rfl rfl ?_
  refine x_gR (pc' := 16) (r := (some 0)) rfl rfl rfl (kR_640_0 hc.1) ?_
  refine x_alen (pc' := 17) (N := 5) rfl rfl rfl (kN_24_0 hc.1) (?_ : X _ _ _ (.inl 5 :: _) _ _)
  refine x_icmp (a' := 33) (pc' := 20) (z := false) rfl rfl rfl (by decide) (fun h => by cases h) (fun _ => ?_)
  refine x_aload_n (pc' := 21) rfl rfl rfl rfl rfl ?_
  refine x_gR (pc' := 24) (r := (some 0)) rfl rfl rfl (kR_640_0 hc.1) ?_
  refine x_iload_n (pc' := 25) rfl rfl rfl ?_
  refine x_aald (pc' := 26) (N := 5) (k' := 1) (r := (some 3)) rfl rfl rfl (kN_24_0 hc.1) (io_in (p := 3) (N := 5) (by decide) (by decide)) (Eq.trans (congrArg (sE t 24 0) (nn_io (p := 3) (by decide))) (kB hc.1 (by decide))) ?_
  refine x_gI (pc' := 29) (x := (mA M 0 3)) rfl rfl rfl (kA hM rfl (show 3 < 5 by decide)) ?_
  refine x_iconst (pc' := 30) rfl rfl ?_
  have J22 : ((sK 79 81 45 [.inr (.inr (10, (some 0))), .inr (.inr (1, (some 1))), .inl 2, .inl (bz false), .inl 0, .inl 0, .inl (-4), sJk] [] Q) : sRs → sT → Prop) (.inl (some (.inr (.inr (8, (bif (decide ((mA M 0 3) = 2)) then (bsF M n 3 false) else none)))))) t := by
    refine sK_i (pc' := 48) rfl ?_
    refine x_astore (pc' := 50) (ls' := [_, _, _, _, _, _, _, _]) rfl rfl rfl rfl rfl ?_
    refine x_aload (pc' := 52) rfl rfl rfl rfl rfl ?_
    refine x_ifnonnull (a' := 59) (pc' := 55) rfl rfl rfl rfl (fun j0 q24 => ?_) (fun q24 => ?_)
    · refine x_iload (pc' := 61) rfl rfl rfl ?_
      refine x_iload (pc' := 63) rfl rfl rfl ?_
      refine x_if (a' := 74) (pc' := 66) (z := true) rfl rfl rfl (by decide) (fun _ => ?_) (fun h => by cases h)
      refine x_aload (pc' := 76) rfl rfl rfl rfl (ovD_s q24) ?_
      refine x_gI (pc' := 79) (x := (mA M 14 (ovD (bif (decide ((mA M 0 3) = 2)) then (bsF M n 3 false) else none)))) rfl rfl rfl ((kA hM rfl (ovD_lt (obd_c bsF_lt obd_n) q24)).trans (congrFun (Fc.f14 (Fc.refl _)) _)) ?_
      refine x_ineg (pc' := 80) rfl rfl rfl ?_
      refine x_iadd (pc' := 81) (z := (0 + (-(mA M 14 (ovD (bif (decide ((mA M 0 3) = 2)) then (bsF M n 3 false) else none)))))) rfl rfl rfl ?_
      refine x_istore (pc' := 83) (ls' := [_, _, _, _, _, _, _, _]) rfl rfl rfl rfl ?_
      refine x_iinc (pc' := 86) (y := 1) (ls' := [_, _, _, _, _, _, _, _]) rfl rfl rfl rfl rfl ?_
      refine x_goto (pc' := 20) rfl rfl ?_
      refine x_iload (pc' := 22) rfl rfl rfl ?_
      refine x_iconst (pc' := 23) rfl rfl ?_
      refine x_icmp (a' := 89) (pc' := 26) (z := false) rfl rfl rfl (by decide) (fun h => by cases h) (fun _ => ?_)
      refine x_aload_n (pc' := 27) rfl rfl rfl rfl rfl ?_
      refine x_aload_n (pc' := 28) rfl rfl rfl rfl rfl ?_
      refine x_iload_n (pc' := 29) rfl rfl rfl ?_
      refine x_iload (pc' := 31) rfl rfl rfl ?_
      refine x_cv (ls0 := [_, _, _, _, sJk, sJk]) (rest := []) rfl rfl rfl rfl rfl ?_
      refine x_aload_n (pc' := 1) rfl rfl rfl rfl rfl ?_
      refine x_gI (pc' := 4) (x := 1) rfl rfl rfl (kI_64_1 hc.1) ?_
      refine x_iconst (pc' := 5) rfl rfl ?_
      refine x_imul (pc' := 6) (z := 3) rfl rfl (by decide) ?_
      refine x_iload_n (pc' := 7) rfl rfl rfl ?_
      refine x_iadd (pc' := 8) (z := 5) rfl rfl (by decide) ?_
      refine x_iconst (pc' := 9) rfl rfl ?_
      refine x_imul (pc' := 10) (z := 15) rfl rfl (by decide) ?_
      refine x_iload_n (pc' := 11) rfl rfl rfl ?_
      refine x_iadd (pc' := 12) (z := 16) rfl rfl (by decide) ?_
      refine x_istore (pc' := 14) (ls' := [_, _, _, _, _, _]) rfl rfl rfl rfl ?_
      refine x_iload_n (pc' := 15) rfl rfl rfl ?_
      refine x_if (a' := 36) (pc' := 18) (z := false) rfl rfl rfl (by decide) (fun h => by cases h) (fun _ => ?_)
      refine x_iload_n (pc' := 19) rfl rfl rfl ?_
      refine x_iconst (pc' := 20) rfl rfl ?_
      refine x_icmp (a' := 36) (pc' := 23) (z := false) rfl rfl rfl (by decide) (fun h => by cases h) (fun _ => ?_)
      refine x_iload_n (pc' := 24) rfl rfl rfl ?_
      refine x_if (a' := 36) (pc' := 27) (z := false) rfl rfl rfl (by decide) (fun h => by cases h) (fun _ => ?_)
      refine x_iload_n (pc' := 28) rfl rfl rfl ?_
      refine x_iconst (pc' := 29) rfl rfl ?_
      refine x_icmp (a' := 36) (pc' := 32) (z := false) rfl rfl rfl (by decide) (fun h => by cases h) (fun _ => ?_)
      refine x_iconst (pc' := 33) rfl rfl ?_
      refine x_goto (pc' := 37) rfl rfl ?_
      refine x_istore (pc' := 39) (ls' := [_, _, _, _, _, _]) rfl rfl rfl rfl ?_
      refine x_iload (pc' := 41) rfl rfl rfl ?_
      refine x_if (a' := 67) (pc' := 44) (z := false) rfl rfl rfl (by decide) (fun h => by cases h) (fun _ => ?_)
      refine x_iload (pc' := 46) rfl rfl rfl ?_
      refine x_if (a' := 67) (pc' := 49) (z := false) rfl rfl rfl (by decide) (fun h => by cases h) (fun _ => ?_)
      refine x_iload (pc' := 51) rfl rfl rfl ?_
      refine x_getstatic (pc' := 54) rfl rfl (show 0 < sC t 28 from gst0 hc.1) ?_
      refine x_alen (pc' := 55) (N := 45) rfl rfl rfl (kN_28_0 hc.1) (?_ : X _ _ _ (.inl 45 :: _) _ _)
      refine x_icmp (a' := 67) (pc' := 58) (z := false) rfl rfl rfl (by decide) (fun h => by cases h) (fun _ => ?_)
      refine x_getstatic (pc' := 61) rfl rfl (show 0 < sC t 28 from gst0 hc.1) ?_
      refine x_iload (pc' := 63) rfl rfl rfl ?_
      refine x_iald (pc' := 64) (N := 45) (x := 1) rfl rfl rfl (kN_28_0 hc.1) (io_in (p := 16) (N := 45) (by decide) (by decide)) (Eq.trans (congrArg (sA t 28 0) (nn_io (p := 16) (by decide))) ((hc.1.2.2.2.2.2 16).1.trans rfl)) ?_
      refine x_goto (pc' := 68) rfl rfl ?_
      refine x_reti rfl rfl ?_
      refine sK_i (pc' := 34) rfl ?_
      refine x_istore (pc' := 36) (ls' := [_, _, _, _, _, _, _, _]) rfl rfl rfl rfl ?_
      refine x_iload (pc' := 38) rfl rfl rfl ?_
      refine x_if (a' := 83) (pc' := 41) (z := false) rfl rfl rfl (by decide) (fun h => by cases h) (fun _ => ?_)
      refine x_aload_n (pc' := 42) rfl rfl rfl rfl rfl ?_
      refine x_iload (pc' := 44) rfl rfl rfl ?_
      refine x_iload_n (pc' := 45) rfl rfl rfl ?_
      refine x_cv (ls0 := [_, _, _, sJk]) (rest := []) rfl rfl rfl rfl rfl ?_
      refine x_iload_n (pc' := 1) rfl rfl rfl ?_
      refine x_abs (pc' := 4) (z := 1) rfl rfl rfl (by decide) ?_
      refine x_iconst (pc' := 5) rfl rfl ?_
      refine x_isub (pc' := 6) (z := 0) rfl rfl (by decide) ?_
      refine x_istore_n (pc' := 7) (ls' := [_, _, _, _]) rfl rfl rfl rfl ?_
      refine x_iload_n (pc' := 8) rfl rfl rfl ?_
      refine x_if (a' := 33) (pc' := 11) (z := false) rfl rfl rfl (by decide) (fun h => by cases h) (fun _ => ?_)
      refine x_iload_n (pc' := 12) rfl rfl rfl ?_
      refine x_aload_n (pc' := 13) rfl rfl rfl rfl rfl ?_
      refine x_gR (pc' := 16) (r := (some 0)) rfl rfl rfl (kR_640_0 hc.1) ?_
      refine x_alen (pc' := 17) (N := 5) rfl rfl rfl (kN_24_0 hc.1) (?_ : X _ _ _ (.inl 5 :: _) _ _)
      refine x_icmp (a' := 33) (pc' := 20) (z := false) rfl rfl rfl (by decide) (fun h => by cases h) (fun _ => ?_)
      refine x_aload_n (pc' := 21) rfl rfl rfl rfl rfl ?_
      refine x_gR (pc' := 24) (r := (some 0)) rfl rfl rfl (kR_640_0 hc.1) ?_
      refine x_iload_n (pc' := 25) rfl rfl rfl ?_
      refine x_aald (pc' := 26) (N := 5) (k' := 1) (r := (some 0)) rfl rfl rfl (kN_24_0 hc.1) (io_in (p := 0) (N := 5) (by decide) (by decide)) (Eq.trans (congrArg (sE t 24 0) (nn_io (p := 0) (by decide))) (kB hc.1 (by decide))) ?_
      refine x_gI (pc' := 29) (x := (mA M 0 0)) rfl rfl rfl (kA hM rfl (show 0 < 5 by decide)) ?_
      refine x_iconst (pc' := 30) rfl rfl ?_
      have J40 : ((sK 79 81 45 [.inr (.inr (10, (some 0))), .inr (.inr (1, (some 1))), .inl 2, .inl (bz false), .inl (0 + (-(mA M 14 (ovD (bif (decide ((mA M 0 3) = 2)) then (bsF M n 3 false) else none))))), .inl 1, .inl 1, .inr (.inr (8, (bif (decide ((mA M 0 3) = 2)) then (bsF M n 3 false) else none)))] [] Q) : sRs → sT → Prop) (.inl (some (.inr (.inr (8, (bif (decide ((mA M 0 0) = 2)) then (bsF M n 0 true) else none)))))) t := by
        refine sK_i (pc' := 48) rfl ?_
        refine x_astore (pc' := 50) (ls' := [_, _, _, _, _, _, _, _]) rfl rfl rfl rfl rfl ?_
        refine x_aload (pc' := 52) rfl rfl rfl rfl rfl ?_
        refine x_ifnonnull (a' := 59) (pc' := 55) rfl rfl rfl rfl (fun j1 q42 => ?_) (fun q42 => ?_)
        · refine x_iload (pc' := 61) rfl rfl rfl ?_
          refine x_iload (pc' := 63) rfl rfl rfl ?_
          refine x_if (a' := 74) (pc' := 66) (z := false) rfl rfl rfl (by decide) (fun h => by cases h) (fun _ => ?_)
          refine x_aload (pc' := 68) rfl rfl rfl rfl (ovD_s q42) ?_
          refine x_gI (pc' := 71) (x := (mA M 14 (ovD (bif (decide ((mA M 0 0) = 2)) then (bsF M n 0 true) else none)))) rfl rfl rfl ((kA hM rfl (ovD_lt (obd_c bsF_lt obd_n) q42)).trans (congrFun (Fc.f14 (Fc.refl _)) _)) ?_
          refine x_goto (pc' := 80) rfl rfl ?_
          refine x_iadd (pc' := 81) (z := ((0 + (-(mA M 14 (ovD (bif (decide ((mA M 0 3) = 2)) then (bsF M n 3 false) else none))))) + (mA M 14 (ovD (bif (decide ((mA M 0 0) = 2)) then (bsF M n 0 true) else none))))) rfl rfl rfl ?_
          refine x_istore (pc' := 83) (ls' := [_, _, _, _, _, _, _, _]) rfl rfl rfl rfl ?_
          refine x_iinc (pc' := 86) (y := 2) (ls' := [_, _, _, _, _, _, _, _]) rfl rfl rfl rfl rfl ?_
          refine x_goto (pc' := 20) rfl rfl ?_
          refine x_iload (pc' := 22) rfl rfl rfl ?_
          refine x_iconst (pc' := 23) rfl rfl ?_
          refine x_icmp (a' := 89) (pc' := 26) (z := false) rfl rfl rfl (by decide) (fun h => by cases h) (fun _ => ?_)
          refine x_aload_n (pc' := 27) rfl rfl rfl rfl rfl ?_
          refine x_aload_n (pc' := 28) rfl rfl rfl rfl rfl ?_
          refine x_iload_n (pc' := 29) rfl rfl rfl ?_
          refine x_iload (pc' := 31) rfl rfl rfl ?_
          refine x_cv (ls0 := [_, _, _, _, sJk, sJk]) (rest := []) rfl rfl rfl rfl rfl ?_
          refine x_aload_n (pc' := 1) rfl rfl rfl rfl rfl ?_
          refine x_gI (pc' := 4) (x := 1) rfl rfl rfl (kI_64_1 hc.1) ?_
          refine x_iconst (pc' := 5) rfl rfl ?_
          refine x_imul (pc' := 6) (z := 3) rfl rfl (by decide) ?_
          refine x_iload_n (pc' := 7) rfl rfl rfl ?_
          refine x_iadd (pc' := 8) (z := 5) rfl rfl (by decide) ?_
          refine x_iconst (pc' := 9) rfl rfl ?_
          refine x_imul (pc' := 10) (z := 15) rfl rfl (by decide) ?_
          refine x_iload_n (pc' := 11) rfl rfl rfl ?_
          refine x_iadd (pc' := 12) (z := 17) rfl rfl (by decide) ?_
          refine x_istore (pc' := 14) (ls' := [_, _, _, _, _, _]) rfl rfl rfl rfl ?_
          refine x_iload_n (pc' := 15) rfl rfl rfl ?_
          refine x_if (a' := 36) (pc' := 18) (z := false) rfl rfl rfl (by decide) (fun h => by cases h) (fun _ => ?_)
          refine x_iload_n (pc' := 19) rfl rfl rfl ?_
          refine x_iconst (pc' := 20) rfl rfl ?_
          refine x_icmp (a' := 36) (pc' := 23) (z := false) rfl rfl rfl (by decide) (fun h => by cases h) (fun _ => ?_)
          refine x_iload_n (pc' := 24) rfl rfl rfl ?_
          refine x_if (a' := 36) (pc' := 27) (z := false) rfl rfl rfl (by decide) (fun h => by cases h) (fun _ => ?_)
          refine x_iload_n (pc' := 28) rfl rfl rfl ?_
          refine x_iconst (pc' := 29) rfl rfl ?_
          refine x_icmp (a' := 36) (pc' := 32) (z := false) rfl rfl rfl (by decide) (fun h => by cases h) (fun _ => ?_)
          refine x_iconst (pc' := 33) rfl rfl ?_
          refine x_goto (pc' := 37) rfl rfl ?_
          refine x_istore (pc' := 39) (ls' := [_, _, _, _, _, _]) rfl rfl rfl rfl ?_
          refine x_iload (pc' := 41) rfl rfl rfl ?_
          refine x_if (a' := 67) (pc' := 44) (z := false) rfl rfl rfl (by decide) (fun h => by cases h) (fun _ => ?_)
          refine x_iload (pc' := 46) rfl rfl rfl ?_
          refine x_if (a' := 67) (pc' := 49) (z := false) rfl rfl rfl (by decide) (fun h => by cases h) (fun _ => ?_)
          refine x_iload (pc' := 51) rfl rfl rfl ?_
          refine x_getstatic (pc' := 54) rfl rfl (show 0 < sC t 28 from gst0 hc.1) ?_
          refine x_alen (pc' := 55) (N := 45) rfl rfl rfl (kN_28_0 hc.1) (?_ : X _ _ _ (.inl 45 :: _) _ _)
          refine x_icmp (a' := 67) (pc' := 58) (z := false) rfl rfl rfl (by decide) (fun h => by cases h) (fun _ => ?_)
          refine x_getstatic (pc' := 61) rfl rfl (show 0 < sC t 28 from gst0 hc.1) ?_
          refine x_iload (pc' := 63) rfl rfl rfl ?_
          refine x_iald (pc' := 64) (N := 45) (x := 0) rfl rfl rfl (kN_28_0 hc.1) (io_in (p := 17) (N := 45) (by decide) (by decide)) (Eq.trans (congrArg (sA t 28 0) (nn_io (p := 17) (by decide))) ((hc.1.2.2.2.2.2 17).1.trans rfl)) ?_
          refine x_goto (pc' := 68) rfl rfl ?_
          refine x_reti rfl rfl ?_
          refine sK_i (pc' := 34) rfl ?_
          refine x_istore (pc' := 36) (ls' := [_, _, _, _, _, _, _, _]) rfl rfl rfl rfl ?_
          refine x_iload (pc' := 38) rfl rfl rfl ?_
          refine x_if (a' := 83) (pc' := 41) (z := true) rfl rfl rfl (by decide) (fun _ => ?_) (fun h => by cases h)
          refine x_iinc (pc' := 86) (y := 3) (ls' := [_, _, _, _, _, _, _, _]) rfl rfl rfl rfl rfl ?_
          refine x_goto (pc' := 20) rfl rfl ?_
          refine x_iload (pc' := 22) rfl rfl rfl ?_
          refine x_iconst (pc' := 23) rfl rfl ?_
          refine x_icmp (a' := 89) (pc' := 26) (z := true) rfl rfl rfl (by decide) (fun _ => ?_) (fun h => by cases h)
          refine x_iload (pc' := 91) rfl rfl rfl ?_
          refine x_reti rfl rfl ?_
          exact qv (by simp only [cp12fF, (isSome_s q24), (isSome_s q42), cd_t, cd_f]) (q )
        · refine x_sipush (pc' := 58) rfl rfl ?_
          refine x_reti rfl rfl ?_
          exact qv (by simp only [cp12fF, (isSome_s q24), (isSome_n q42), cd_t, cd_f]) (q )
      refine x_icmp (a' := 35) (pc' := 33) (z := decide ((mA M 0 0) = 2)) rfl rfl rfl rfl (fun q37 => ?_) (fun q37 => ?_)
      · refine x_aload_n (pc' := 36) rfl rfl rfl rfl rfl ?_
        refine x_gR (pc' := 39) (r := (some 0)) rfl rfl rfl (kR_640_0 hc.1) ?_
        refine x_iload_n (pc' := 40) rfl rfl rfl ?_
        refine x_aald (pc' := 41) (N := 5) (k' := 1) (r := (some 0)) rfl rfl rfl (kN_24_0 hc.1) (io_in (p := 0) (N := 5) (by decide) (by decide)) (Eq.trans (congrArg (sE t 24 0) (nn_io (p := 0) (by decide))) (kB hc.1 (by decide))) ?_
        refine x_iload_n (pc' := 42) rfl rfl rfl ?_
        refine x_if (a' := 57) (pc' := 45) (z := false) rfl rfl rfl (by decide) (fun h => by cases h) (fun _ => ?_)
        refine x_iload_n (pc' := 46) rfl rfl rfl ?_
        refine x_if (a' := 53) (pc' := 49) (z := false) rfl rfl rfl (by decide) (fun h => by cases h) (fun _ => ?_)
        refine x_iconst (pc' := 50) rfl rfl ?_
        refine x_goto (pc' := 58) rfl rfl ?_
        refine x_cv (ls0 := [_, _]) (rest := []) rfl rfl rfl rfl rfl ?_
        refine x_iload_n (pc' := 1) rfl rfl rfl ?_
        refine x_if (a' := 11) (pc' := 4) (z := false) rfl rfl rfl (by decide) (fun h => by cases h) (fun _ => ?_)
        refine x_aload_n (pc' := 5) rfl rfl rfl rfl rfl ?_
        refine x_gR (pc' := 8) (r := (bsF M n 0 true)) rfl rfl rfl (bs_69 hC (Fc.ri (Fc.refl _) hR) hM (by decide)) ?_
        refine x_goto (pc' := 15) rfl rfl ?_
        refine x_reta rfl rfl ?_
        refine sK_i (pc' := 61) rfl ?_
        refine x_reta rfl rfl ?_
        ((try rw [q37] at J40); (try rw [q37]); (try simp only [cd_t, cd_f, nt_t, nt_f, an_t, an_f, or_t, or_f] at J40); (try simp only [cd_t, cd_f, nt_t, nt_f, an_t, an_f, or_t, or_f]); exact J40)
      · refine x_null (pc' := 34) rfl rfl rfl ?_
        refine x_reta rfl rfl ?_
        ((try rw [q37] at J40); (try rw [q37]); (try simp only [cd_t, cd_f, nt_t, nt_f, an_t, an_f, or_t, or_f] at J40); (try simp only [cd_t, cd_f, nt_t, nt_f, an_t, an_f, or_t, or_f]); exact J40)
    · refine x_sipush (pc' := 58) rfl rfl ?_
      refine x_reti rfl rfl ?_
      exact qv (by simp only [cp12fF, (isSome_n q24), cd_t, cd_f]) (q )
  refine x_icmp (a' := 35) (pc' := 33) (z := decide ((mA M 0 3) = 2)) rfl rfl rfl rfl (fun q20 => ?_) (fun q20 => ?_)
  · refine x_aload_n (pc' := 36) rfl rfl rfl rfl rfl ?_
    refine x_gR (pc' := 39) (r := (some 0)) rfl rfl rfl (kR_640_0 hc.1) ?_
    refine x_iload_n (pc' := 40) rfl rfl rfl ?_
    refine x_aald (pc' := 41) (N := 5) (k' := 1) (r := (some 3)) rfl rfl rfl (kN_24_0 hc.1) (io_in (p := 3) (N := 5) (by decide) (by decide)) (Eq.trans (congrArg (sE t 24 0) (nn_io (p := 3) (by decide))) (kB hc.1 (by decide))) ?_
    refine x_iload_n (pc' := 42) rfl rfl rfl ?_
    refine x_if (a' := 57) (pc' := 45) (z := true) rfl rfl rfl (by decide) (fun _ => ?_) (fun h => by cases h)
    refine x_iload_n (pc' := 58) rfl rfl rfl ?_
    refine x_cv (ls0 := [_, _]) (rest := []) rfl rfl rfl rfl rfl ?_
    refine x_iload_n (pc' := 1) rfl rfl rfl ?_
    refine x_if (a' := 11) (pc' := 4) (z := true) rfl rfl rfl (by decide) (fun _ => ?_) (fun h => by cases h)
    refine x_aload_n (pc' := 12) rfl rfl rfl rfl rfl ?_
    refine x_gR (pc' := 15) (r := (bsF M n 3 false)) rfl rfl rfl (bs_70 hC (Fc.ri (Fc.refl _) hR) hM (by decide)) ?_
    refine x_reta rfl rfl ?_
    refine sK_i (pc' := 61) rfl ?_
    refine x_reta rfl rfl ?_
    ((try rw [q20] at J22); (try rw [q20]); (try simp only [cd_t, cd_f, nt_t, nt_f, an_t, an_f, or_t, or_f] at J22); (try simp only [cd_t, cd_f, nt_t, nt_f, an_t, an_f, or_t, or_f]); exact J22)
  · refine x_null (pc' := 34) rfl rfl rfl ?_
    refine x_reta rfl rfl ?_
    ((try rw [q20] at J22); (try rw [q20]); (try simp only [cd_t, cd_f, nt_t, nt_f, an_t, an_f, or_t, or_f] at J22); (try simp only [cd_t, cd_f, nt_t, nt_f, an_t, an_f, or_t, or_f]); exact J22)
def cp12tF (M : sM) (n : Nat) : Int32 := (bif (bif (decide ((mA M 0 3) = 2)) then (bsF M n 3 true) else none).isSome then (bif (bif (decide ((mA M 0 0) = 2)) then (bsF M n 0 false) else none).isSome then ((0 + (-(mA M 14 (ovD (bif (decide ((mA M 0 3) = 2)) then (bsF M n 3 true) else none))))) + (mA M 14 (ovD (bif (decide ((mA M 0 0) = 2)) then (bsF M n 0 false) else none)))) else (-10000)) else (-10000))
set_option maxHeartbeats 4000000 in
set_option maxRecDepth 10000 in
theorem c81_12t {t : sT} {Q : sRs → sT → Prop} {M : sM} {n : Nat} {T : Nat}
    (hM : Rl t M n T)
    (hc : Sf t M n T)
    (hR : Ri M n)
    (hC : rlC t M n)
    (q : Q (.inl (some (.inl (cp12tF M n)))) t) :
    X 81 0 [.inr (.inr (10, (some 0))), .inr (.inr (1, (some 1))), .inl 2, .inl (bz true), sJk, sJk, sJk, sJk] [] t Q := by
  refine x_aload_n (pc' := 1) rfl rfl rfl rfl rfl ?_
  refine x_aload_n (pc' := 2) rfl rfl rfl rfl rfl ?_
  refine x_iload_n (pc' := 3) rfl rfl rfl ?_
  refine x_iconst (pc' := 4) rfl rfl ?_
  refine x_cv (ls0 := [_, _, _, _, sJk, sJk]) (rest := []) rfl rfl rfl rfl rfl ?_
  refine x_aload_n (pc' := 1) rfl rfl rfl rfl rfl ?_
  refine x_gI (pc' := 4) (x := 1) rfl rfl rfl (kI_64_1 hc.1) ?_
  refine x_iconst (pc' := 5) rfl rfl ?_
  refine x_imul (pc' := 6) (z := 3) rfl rfl (by decide) ?_
  refine x_iload_n (pc' := 7) rfl rfl rfl ?_
  refine x_iadd (pc' := 8) (z := 5) rfl rfl (by decide) ?_
  refine x_iconst (pc' := 9) rfl rfl ?_
  refine x_imul (pc' := 10) (z := 15) rfl rfl (by decide) ?_
  refine x_iload_n (pc' := 11) rfl rfl rfl ?_
  refine x_iadd (pc' := 12) (z := 15) rfl rfl (by decide) ?_
  refine x_istore (pc' := 14) (ls' := [_, _, _, _, _, _]) rfl rfl rfl rfl ?_
  refine x_iload_n (pc' := 15) rfl rfl rfl ?_
  refine x_if (a' := 36) (pc' := 18) (z := false) rfl rfl rfl (by decide) (fun h => by cases h) (fun _ => ?_)
  refine x_iload_n (pc' := 19) rfl rfl rfl ?_
  refine x_iconst (pc' := 20) rfl rfl ?_
  refine x_icmp (a' := 36) (pc' := 23) (z := false) rfl rfl rfl (by decide) (fun h => by cases h) (fun _ => ?_)
  refine x_iload_n (pc' := 24) rfl rfl rfl ?_
  refine x_if (a' := 36) (pc' := 27) (z := false) rfl rfl rfl (by decide) (fun h => by cases h) (fun _ => ?_)
  refine x_iload_n (pc' := 28) rfl rfl rfl ?_
  refine x_iconst (pc' := 29) rfl rfl ?_
  refine x_icmp (a' := 36) (pc' := 32) (z := false) rfl rfl rfl (by decide) (fun h => by cases h) (fun _ => ?_)
  refine x_iconst (pc' := 33) rfl rfl ?_
  refine x_goto (pc' := 37) rfl rfl ?_
  refine x_istore (pc' := 39) (ls' := [_, _, _, _, _, _]) rfl rfl rfl rfl ?_
  refine x_iload (pc' := 41) rfl rfl rfl ?_
  refine x_if (a' := 67) (pc' := 44) (z := false) rfl rfl rfl (by decide) (fun h => by cases h) (fun _ => ?_)
  refine x_iload (pc' := 46) rfl rfl rfl ?_
  refine x_if (a' := 67) (pc' := 49) (z := false) rfl rfl rfl (by decide) (fun h => by cases h) (fun _ => ?_)
  refine x_iload (pc' := 51) rfl rfl rfl ?_
  refine x_getstatic (pc' := 54) rfl rfl (show 0 < sC t 28 from gst0 hc.1) ?_
  refine x_alen (pc' := 55) (N := 45) rfl rfl rfl (kN_28_0 hc.1) (?_ : X _ _ _ (.inl 45 :: _) _ _)
  refine x_icmp (a' := 67) (pc' := 58) (z := false) rfl rfl rfl (by decide) (fun h => by cases h) (fun _ => ?_)
  refine x_getstatic (pc' := 61) rfl rfl (show 0 < sC t 28 from gst0 hc.1) ?_
  refine x_iload (pc' := 63) rfl rfl rfl ?_
  refine x_iald (pc' := 64) (N := 45) (x := (-4)) rfl rfl rfl (kN_28_0 hc.1) (io_in (p := 15) (N := 45) (by decide) (by decide)) (Eq.trans (congrArg (sA t 28 0) (nn_io (p := 15) (by decide))) ((hc.1.2.2.2.2.2 15).1.trans rfl)) ?_
  refine x_goto (pc' := 68) rfl rfl ?_
  refine x_reti rfl rfl ?_
  refine sK_i (pc' := 7) rfl ?_
  refine x_if (a' := 14) (pc' := 10) (z := true) rfl rfl rfl (by decide) (fun _ => ?_) (fun h => by cases h)
  refine x_iconst (pc' := 15) rfl rfl ?_
  refine x_istore (pc' := 17) (ls' := [_, _, _, _, _, _, _, _]) rfl rfl rfl rfl ?_
  refine x_iconst (pc' := 18) rfl rfl ?_
  refine x_istore (pc' := 20) (ls' := [_, _, _, _, _, _, _, _]) rfl rfl rfl rfl ?_
  refine x_iload (pc' := 22) rfl rfl rfl ?_
  refine x_iconst (pc' := 23) rfl rfl ?_
  refine x_icmp (a' := 89) (pc' := 26) (z := false) rfl rfl rfl (by decide) (fun h => by cases h) (fun _ => ?_)
  refine x_aload_n (pc' := 27) rfl rfl rfl rfl rfl ?_
  refine x_aload_n (pc' := 28) rfl rfl rfl rfl rfl ?_
  refine x_iload_n (pc' := 29) rfl rfl rfl ?_
  refine x_iload (pc' := 31) rfl rfl rfl ?_
  refine x_cv (ls0 := [_, _, _, _, sJk, sJk]) (rest := []) rfl rfl rfl rfl rfl ?_
  refine x_aload_n (pc' := 1) rfl rfl rfl rfl rfl ?_
  refine x_gI (pc' := 4) (x := 1) rfl rfl rfl (kI_64_1 hc.1) ?_
  refine x_iconst (pc' := 5) rfl rfl ?_
  refine x_imul (pc' := 6) (z := 3) rfl rfl (by decide) ?_
  refine x_iload_n (pc' := 7) rfl rfl rfl ?_
  refine x_iadd (pc' := 8) (z := 5) rfl rfl (by decide) ?_
  refine x_iconst (pc' := 9) rfl rfl ?_
  refine x_imul (pc' := 10) (z := 15) rfl rfl (by decide) ?_
  refine x_iload_n (pc' := 11) rfl rfl rfl ?_
  refine x_iadd (pc' := 12) (z := 15) rfl rfl (by decide) ?_
  refine x_istore (pc' := 14) (ls' := [_, _, _, _, _, _]) rfl rfl rfl rfl ?_
  refine x_iload_n (pc' := 15) rfl rfl rfl ?_
  refine x_if (a' := 36) (pc' := 18) (z := false) rfl rfl rfl (by decide) (fun h => by cases h) (fun _ => ?_)
  refine x_iload_n (pc' := 19) rfl rfl rfl ?_
  refine x_iconst (pc' := 20) rfl rfl ?_
  refine x_icmp (a' := 36) (pc' := 23) (z := false) rfl rfl rfl (by decide) (fun h => by cases h) (fun _ => ?_)
  refine x_iload_n (pc' := 24) rfl rfl rfl ?_
  refine x_if (a' := 36) (pc' := 27) (z := false) rfl rfl rfl (by decide) (fun h => by cases h) (fun _ => ?_)
  refine x_iload_n (pc' := 28) rfl rfl rfl ?_
  refine x_iconst (pc' := 29) rfl rfl ?_
  refine x_icmp (a' := 36) (pc' := 32) (z := false) rfl rfl rfl (by decide) (fun h => by cases h) (fun _ => ?_)
  refine x_iconst (pc' := 33) rfl rfl ?_
  refine x_goto (pc' := 37) rfl rfl ?_
  refine x_istore (pc' := 39) (ls' := [_, _, _, _, _, _]) rfl rfl rfl rfl ?_
  refine x_iload (pc' := 41) rfl rfl rfl ?_
  refine x_if (a' := 67) (pc' := 44) (z := false) rfl rfl rfl (by decide) (fun h => by cases h) (fun _ => ?_)
  refine x_iload (pc' := 46) rfl rfl rfl ?_
  refine x_if (a' := 67) (pc' := 49) (z := false) rfl rfl rfl (by decide) (fun h => by cases h) (fun _ => ?_)
  refine x_iload (pc' := 51) rfl rfl rfl ?_
  refine x_getstatic (pc' := 54) rfl rfl (show 0 < sC t 28 from gst0 hc.1) ?_
  refine x_alen (pc' := 55) (N := 45) rfl rfl rfl (kN_28_0 hc.1) (?_ : X _ _ _ (.inl 45 :: _) _ _)
  refine x_icmp (a' := 67) (pc' := 58) (z := false) rfl rfl rfl (by decide) (fun h => by cases h) (fun _ => ?_)
  refine x_getstatic (pc' := 61) rfl rfl (show 0 < sC t 28 from gst0 hc.1) ?_
  refine x_iload (pc' := 63) rfl rfl rfl ?_
  refine x_iald (pc' := 64) (N := 45) (x := (-4)) rfl rfl rfl (kN_28_0 hc.1) (io_in (p := 15) (N := 45) (by decide) (by decide)) (Eq.trans (congrArg (sA t 28 0) (nn_io (p := 15) (by decide))) ((hc.1.2.2.2.2.2 15).1.trans rfl)) ?_
  refine x_goto (pc' := 68) rfl rfl ?_
  refine x_reti rfl rfl ?_
  refine sK_i (pc' := 34) rfl ?_
  refine x_istore (pc' := 36) (ls' := [_, _, _, _, _, _, _, _]) rfl rfl rfl rfl ?_
  refine x_iload (pc' := 38) rfl rfl rfl ?_
  refine x_if (a' := 83) (pc' := 41) (z := false) rfl rfl rfl (by decide) (fun h => by cases h) (fun _ => ?_)
  refine x_aload_n (pc' := 42) rfl rfl rfl rfl rfl ?_
  refine x_iload (pc' := 44) rfl rfl rfl ?_
  refine x_iload_n (pc' := 45) rfl rfl rfl ?_
  refine x_cv (ls0 := [_, _, _, sJk]) (rest := []) rfl rfl rfl rfl rfl ?_
  refine x_iload_n (pc' := 1) rfl rfl rfl ?_
  refine x_abs (pc' := 4) (z := 4) rfl rfl rfl (by decide) ?_
  refine x_iconst (pc' := 5) rfl rfl ?_
  refine x_isub (pc' := 6) (z := 3) rfl rfl (by decide) ?_
  refine x_istore_n (pc' := 7) (ls' := [_, _, _, _]) rfl rfl rfl rfl ?_
  refine x_iload_n (pc' := 8) rfl rfl rfl ?_
  refine x_if (a' := 33) (pc' := 11) (z := false) rfl rfl rfl (by decide) (fun h => by cases h) (fun _ => ?_)
  refine x_iload_n (pc' := 12) rfl rfl rfl ?_
  refine x_aload_n (pc' := 13) rfl rfl rfl rfl rfl ?_
  refine x_gR (pc' := 16) (r := (some 0)) rfl rfl rfl (kR_640_0 hc.1) ?_
  refine x_alen (pc' := 17) (N := 5) rfl rfl rfl (kN_24_0 hc.1) (?_ : X _ _ _ (.inl 5 :: _) _ _)
  refine x_icmp (a' := 33) (pc' := 20) (z := false) rfl rfl rfl (by decide) (fun h => by cases h) (fun _ => ?_)
  refine x_aload_n (pc' := 21) rfl rfl rfl rfl rfl ?_
  refine x_gR (pc' := 24) (r := (some 0)) rfl rfl rfl (kR_640_0 hc.1) ?_
  refine x_iload_n (pc' := 25) rfl rfl rfl ?_
  refine x_aald (pc' := 26) (N := 5) (k' := 1) (r := (some 3)) rfl rfl rfl (kN_24_0 hc.1) (io_in (p := 3) (N := 5) (by decide) (by decide)) (Eq.trans (congrArg (sE t 24 0) (nn_io (p := 3) (by decide))) (kB hc.1 (by decide))) ?_
  refine x_gI (pc' := 29) (x := (mA M 0 3)) rfl rfl rfl (kA hM rfl (show 3 < 5 by decide)) ?_
  refine x_iconst (pc' := 30) rfl rfl ?_
  have J22 : ((sK 79 81 45 [.inr (.inr (10, (some 0))), .inr (.inr (1, (some 1))), .inl 2, .inl (bz true), .inl 0, .inl 0, .inl (-4), sJk] [] Q) : sRs → sT → Prop) (.inl (some (.inr (.inr (8, (bif (decide ((mA M 0 3) = 2)) then (bsF M n 3 true) else none)))))) t := by
    refine sK_i (pc' := 48) rfl ?_
    refine x_astore (pc' := 50) (ls' := [_, _, _, _, _, _, _, _]) rfl rfl rfl rfl rfl ?_
    refine x_aload (pc' := 52) rfl rfl rfl rfl rfl ?_
    refine x_ifnonnull (a' := 59) (pc' := 55) rfl rfl rfl rfl (fun j0 q24 => ?_) (fun q24 => ?_)
    · refine x_iload (pc' := 61) rfl rfl rfl ?_
      refine x_iload (pc' := 63) rfl rfl rfl ?_
      refine x_if (a' := 74) (pc' := 66) (z := true) rfl rfl rfl (by decide) (fun _ => ?_) (fun h => by cases h)
      refine x_aload (pc' := 76) rfl rfl rfl rfl (ovD_s q24) ?_
      refine x_gI (pc' := 79) (x := (mA M 14 (ovD (bif (decide ((mA M 0 3) = 2)) then (bsF M n 3 true) else none)))) rfl rfl rfl ((kA hM rfl (ovD_lt (obd_c bsF_lt obd_n) q24)).trans (congrFun (Fc.f14 (Fc.refl _)) _)) ?_
      refine x_ineg (pc' := 80) rfl rfl rfl ?_
      refine x_iadd (pc' := 81) (z := (0 + (-(mA M 14 (ovD (bif (decide ((mA M 0 3) = 2)) then (bsF M n 3 true) else none)))))) rfl rfl rfl ?_
      refine x_istore (pc' := 83) (ls' := [_, _, _, _, _, _, _, _]) rfl rfl rfl rfl ?_
      refine x_iinc (pc' := 86) (y := 1) (ls' := [_, _, _, _, _, _, _, _]) rfl rfl rfl rfl rfl ?_
      refine x_goto (pc' := 20) rfl rfl ?_
      refine x_iload (pc' := 22) rfl rfl rfl ?_
      refine x_iconst (pc' := 23) rfl rfl ?_
      refine x_icmp (a' := 89) (pc' := 26) (z := false) rfl rfl rfl (by decide) (fun h => by cases h) (fun _ => ?_)
      refine x_aload_n (pc' := 27) rfl rfl rfl rfl rfl ?_
      refine x_aload_n (pc' := 28) rfl rfl rfl rfl rfl ?_
      refine x_iload_n (pc' := 29) rfl rfl rfl ?_
      refine x_iload (pc' := 31) rfl rfl rfl ?_
      refine x_cv (ls0 := [_, _, _, _, sJk, sJk]) (rest := []) rfl rfl rfl rfl rfl ?_
      refine x_aload_n (pc' := 1) rfl rfl rfl rfl rfl ?_
      refine x_gI (pc' := 4) (x := 1) rfl rfl rfl (kI_64_1 hc.1) ?_
      refine x_iconst (pc' := 5) rfl rfl ?_
      refine x_imul (pc' := 6) (z := 3) rfl rfl (by decide) ?_
      refine x_iload_n (pc' := 7) rfl rfl rfl ?_
      refine x_iadd (pc' := 8) (z := 5) rfl rfl (by decide) ?_
      refine x_iconst (pc' := 9) rfl rfl ?_
      refine x_imul (pc' := 10) (z := 15) rfl rfl (by decide) ?_
      refine x_iload_n (pc' := 11) rfl rfl rfl ?_
      refine x_iadd (pc' := 12) (z := 16) rfl rfl (by decide) ?_
      refine x_istore (pc' := 14) (ls' := [_, _, _, _, _, _]) rfl rfl rfl rfl ?_
      refine x_iload_n (pc' := 15) rfl rfl rfl ?_
      refine x_if (a' := 36) (pc' := 18) (z := false) rfl rfl rfl (by decide) (fun h => by cases h) (fun _ => ?_)
      refine x_iload_n (pc' := 19) rfl rfl rfl ?_
      refine x_iconst (pc' := 20) rfl rfl ?_
      refine x_icmp (a' := 36) (pc' := 23) (z := false) rfl rfl rfl (by decide) (fun h => by cases h) (fun _ => ?_)
      refine x_iload_n (pc' := 24) rfl rfl rfl ?_
      refine x_if (a' := 36) (pc' := 27) (z := false) rfl rfl rfl (by decide) (fun h => by cases h) (fun _ => ?_)
      refine x_iload_n (pc' := 28) rfl rfl rfl ?_
      refine x_iconst (pc' := 29) rfl rfl ?_
      refine x_icmp (a' := 36) (pc' := 32) (z := false) rfl rfl rfl (by decide) (fun h => by cases h) (fun _ => ?_)
      refine x_iconst (pc' := 33) rfl rfl ?_
      refine x_goto (pc' := 37) rfl rfl ?_
      refine x_istore (pc' := 39) (ls' := [_, _, _, _, _, _]) rfl rfl rfl rfl ?_
      refine x_iload (pc' := 41) rfl rfl rfl ?_
      refine x_if (a' := 67) (pc' := 44) (z := false) rfl rfl rfl (by decide) (fun h => by cases h) (fun _ => ?_)
      refine x_iload (pc' := 46) rfl rfl rfl ?_
      refine x_if (a' := 67) (pc' := 49) (z := false) rfl rfl rfl (by decide) (fun h => by cases h) (fun _ => ?_)
      refine x_iload (pc' := 51) rfl rfl rfl ?_
      refine x_getstatic (pc' := 54) rfl rfl (show 0 < sC t 28 from gst0 hc.1) ?_
      refine x_alen (pc' := 55) (N := 45) rfl rfl rfl (kN_28_0 hc.1) (?_ : X _ _ _ (.inl 45 :: _) _ _)
      refine x_icmp (a' := 67) (pc' := 58) (z := false) rfl rfl rfl (by decide) (fun h => by cases h) (fun _ => ?_)
      refine x_getstatic (pc' := 61) rfl rfl (show 0 < sC t 28 from gst0 hc.1) ?_
      refine x_iload (pc' := 63) rfl rfl rfl ?_
      refine x_iald (pc' := 64) (N := 45) (x := 1) rfl rfl rfl (kN_28_0 hc.1) (io_in (p := 16) (N := 45) (by decide) (by decide)) (Eq.trans (congrArg (sA t 28 0) (nn_io (p := 16) (by decide))) ((hc.1.2.2.2.2.2 16).1.trans rfl)) ?_
      refine x_goto (pc' := 68) rfl rfl ?_
      refine x_reti rfl rfl ?_
      refine sK_i (pc' := 34) rfl ?_
      refine x_istore (pc' := 36) (ls' := [_, _, _, _, _, _, _, _]) rfl rfl rfl rfl ?_
      refine x_iload (pc' := 38) rfl rfl rfl ?_
      refine x_if (a' := 83) (pc' := 41) (z := false) rfl rfl rfl (by decide) (fun h => by cases h) (fun _ => ?_)
      refine x_aload_n (pc' := 42) rfl rfl rfl rfl rfl ?_
      refine x_iload (pc' := 44) rfl rfl rfl ?_
      refine x_iload_n (pc' := 45) rfl rfl rfl ?_
      refine x_cv (ls0 := [_, _, _, sJk]) (rest := []) rfl rfl rfl rfl rfl ?_
      refine x_iload_n (pc' := 1) rfl rfl rfl ?_
      refine x_abs (pc' := 4) (z := 1) rfl rfl rfl (by decide) ?_
      refine x_iconst (pc' := 5) rfl rfl ?_
      refine x_isub (pc' := 6) (z := 0) rfl rfl (by decide) ?_
      refine x_istore_n (pc' := 7) (ls' := [_, _, _, _]) rfl rfl rfl rfl ?_
      refine x_iload_n (pc' := 8) rfl rfl rfl ?_
      refine x_if (a' := 33) (pc' := 11) (z := false) rfl rfl rfl (by decide) (fun h => by cases h) (fun _ => ?_)
      refine x_iload_n (pc' := 12) rfl rfl rfl ?_
      refine x_aload_n (pc' := 13) rfl rfl rfl rfl rfl ?_
      refine x_gR (pc' := 16) (r := (some 0)) rfl rfl rfl (kR_640_0 hc.1) ?_
      refine x_alen (pc' := 17) (N := 5) rfl rfl rfl (kN_24_0 hc.1) (?_ : X _ _ _ (.inl 5 :: _) _ _)
      refine x_icmp (a' := 33) (pc' := 20) (z := false) rfl rfl rfl (by decide) (fun h => by cases h) (fun _ => ?_)
      refine x_aload_n (pc' := 21) rfl rfl rfl rfl rfl ?_
      refine x_gR (pc' := 24) (r := (some 0)) rfl rfl rfl (kR_640_0 hc.1) ?_
      refine x_iload_n (pc' := 25) rfl rfl rfl ?_
      refine x_aald (pc' := 26) (N := 5) (k' := 1) (r := (some 0)) rfl rfl rfl (kN_24_0 hc.1) (io_in (p := 0) (N := 5) (by decide) (by decide)) (Eq.trans (congrArg (sE t 24 0) (nn_io (p := 0) (by decide))) (kB hc.1 (by decide))) ?_
      refine x_gI (pc' := 29) (x := (mA M 0 0)) rfl rfl rfl (kA hM rfl (show 0 < 5 by decide)) ?_
      refine x_iconst (pc' := 30) rfl rfl ?_
      have J40 : ((sK 79 81 45 [.inr (.inr (10, (some 0))), .inr (.inr (1, (some 1))), .inl 2, .inl (bz true), .inl (0 + (-(mA M 14 (ovD (bif (decide ((mA M 0 3) = 2)) then (bsF M n 3 true) else none))))), .inl 1, .inl 1, .inr (.inr (8, (bif (decide ((mA M 0 3) = 2)) then (bsF M n 3 true) else none)))] [] Q) : sRs → sT → Prop) (.inl (some (.inr (.inr (8, (bif (decide ((mA M 0 0) = 2)) then (bsF M n 0 false) else none)))))) t := by
        refine sK_i (pc' := 48) rfl ?_
        refine x_astore (pc' := 50) (ls' := [_, _, _, _, _, _, _, _]) rfl rfl rfl rfl rfl ?_
        refine x_aload (pc' := 52) rfl rfl rfl rfl rfl ?_
        refine x_ifnonnull (a' := 59) (pc' := 55) rfl rfl rfl rfl (fun j1 q42 => ?_) (fun q42 => ?_)
        · refine x_iload (pc' := 61) rfl rfl rfl ?_
          refine x_iload (pc' := 63) rfl rfl rfl ?_
          refine x_if (a' := 74) (pc' := 66) (z := false) rfl rfl rfl (by decide) (fun h => by cases h) (fun _ => ?_)
          refine x_aload (pc' := 68) rfl rfl rfl rfl (ovD_s q42) ?_
          refine x_gI (pc' := 71) (x := (mA M 14 (ovD (bif (decide ((mA M 0 0) = 2)) then (bsF M n 0 false) else none)))) rfl rfl rfl ((kA hM rfl (ovD_lt (obd_c bsF_lt obd_n) q42)).trans (congrFun (Fc.f14 (Fc.refl _)) _)) ?_
          refine x_goto (pc' := 80) rfl rfl ?_
          refine x_iadd (pc' := 81) (z := ((0 + (-(mA M 14 (ovD (bif (decide ((mA M 0 3) = 2)) then (bsF M n 3 true) else none))))) + (mA M 14 (ovD (bif (decide ((mA M 0 0) = 2)) then (bsF M n 0 false) else none))))) rfl rfl rfl ?_
          refine x_istore (pc' := 83) (ls' := [_, _, _, _, _, _, _, _]) rfl rfl rfl rfl ?_
          refine x_iinc (pc' := 86) (y := 2) (ls' := [_, _, _, _, _, _, _, _]) rfl rfl rfl rfl rfl ?_
          refine x_goto (pc' := 20) rfl rfl ?_
          refine x_iload (pc' := 22) rfl rfl rfl ?_
          refine x_iconst (pc' := 23) rfl rfl ?_
          refine x_icmp (a' := 89) (pc' := 26) (z := false) rfl rfl rfl (by decide) (fun h => by cases h) (fun _ => ?_)
          refine x_aload_n (pc' := 27) rfl rfl rfl rfl rfl ?_
          refine x_aload_n (pc' := 28) rfl rfl rfl rfl rfl ?_
          refine x_iload_n (pc' := 29) rfl rfl rfl ?_
          refine x_iload (pc' := 31) rfl rfl rfl ?_
          refine x_cv (ls0 := [_, _, _, _, sJk, sJk]) (rest := []) rfl rfl rfl rfl rfl ?_
          refine x_aload_n (pc' := 1) rfl rfl rfl rfl rfl ?_
          refine x_gI (pc' := 4) (x := 1) rfl rfl rfl (kI_64_1 hc.1) ?_
          refine x_iconst (pc' := 5) rfl rfl ?_
          refine x_imul (pc' := 6) (z := 3) rfl rfl (by decide) ?_
          refine x_iload_n (pc' := 7) rfl rfl rfl ?_
          refine x_iadd (pc' := 8) (z := 5) rfl rfl (by decide) ?_
          refine x_iconst (pc' := 9) rfl rfl ?_
          refine x_imul (pc' := 10) (z := 15) rfl rfl (by decide) ?_
          refine x_iload_n (pc' := 11) rfl rfl rfl ?_
          refine x_iadd (pc' := 12) (z := 17) rfl rfl (by decide) ?_
          refine x_istore (pc' := 14) (ls' := [_, _, _, _, _, _]) rfl rfl rfl rfl ?_
          refine x_iload_n (pc' := 15) rfl rfl rfl ?_
          refine x_if (a' := 36) (pc' := 18) (z := false) rfl rfl rfl (by decide) (fun h => by cases h) (fun _ => ?_)
          refine x_iload_n (pc' := 19) rfl rfl rfl ?_
          refine x_iconst (pc' := 20) rfl rfl ?_
          refine x_icmp (a' := 36) (pc' := 23) (z := false) rfl rfl rfl (by decide) (fun h => by cases h) (fun _ => ?_)
          refine x_iload_n (pc' := 24) rfl rfl rfl ?_
          refine x_if (a' := 36) (pc' := 27) (z := false) rfl rfl rfl (by decide) (fun h => by cases h) (fun _ => ?_)
          refine x_iload_n (pc' := 28) rfl rfl rfl ?_
          refine x_iconst (pc' := 29) rfl rfl ?_
          refine x_icmp (a' := 36) (pc' := 32) (z := false) rfl rfl rfl (by decide) (fun h => by cases h) (fun _ => ?_)
          refine x_iconst (pc' := 33) rfl rfl ?_
          refine x_goto (pc' := 37) rfl rfl ?_
          refine x_istore (pc' := 39) (ls' := [_, _, _, _, _, _]) rfl rfl rfl rfl ?_
          refine x_iload (pc' := 41) rfl rfl rfl ?_
          refine x_if (a' := 67) (pc' := 44) (z := false) rfl rfl rfl (by decide) (fun h => by cases h) (fun _ => ?_)
          refine x_iload (pc' := 46) rfl rfl rfl ?_
          refine x_if (a' := 67) (pc' := 49) (z := false) rfl rfl rfl (by decide) (fun h => by cases h) (fun _ => ?_)
          refine x_iload (pc' := 51) rfl rfl rfl ?_
          refine x_getstatic (pc' := 54) rfl rfl (show 0 < sC t 28 from gst0 hc.1) ?_
          refine x_alen (pc' := 55) (N := 45) rfl rfl rfl (kN_28_0 hc.1) (?_ : X _ _ _ (.inl 45 :: _) _ _)
          refine x_icmp (a' := 67) (pc' := 58) (z := false) rfl rfl rfl (by decide) (fun h => by cases h) (fun _ => ?_)
          refine x_getstatic (pc' := 61) rfl rfl (show 0 < sC t 28 from gst0 hc.1) ?_
          refine x_iload (pc' := 63) rfl rfl rfl ?_
          refine x_iald (pc' := 64) (N := 45) (x := 0) rfl rfl rfl (kN_28_0 hc.1) (io_in (p := 17) (N := 45) (by decide) (by decide)) (Eq.trans (congrArg (sA t 28 0) (nn_io (p := 17) (by decide))) ((hc.1.2.2.2.2.2 17).1.trans rfl)) ?_
          refine x_goto (pc' := 68) rfl rfl ?_
          refine x_reti rfl rfl ?_
          refine sK_i (pc' := 34) rfl ?_
          refine x_istore (pc' := 36) (ls' := [_, _, _, _, _, _, _, _]) rfl rfl rfl rfl ?_
          refine x_iload (pc' := 38) rfl rfl rfl ?_
          refine x_if (a' := 83) (pc' := 41) (z := true) rfl rfl rfl (by decide) (fun _ => ?_) (fun h => by cases h)
          refine x_iinc (pc' := 86) (y := 3) (ls' := [_, _, _, _, _, _, _, _]) rfl rfl rfl rfl rfl ?_
          refine x_goto (pc' := 20) rfl rfl ?_
          refine x_iload (pc' := 22) rfl rfl rfl ?_
          refine x_iconst (pc' := 23) rfl rfl ?_
          refine x_icmp (a' := 89) (pc' := 26) (z := true) rfl rfl rfl (by decide) (fun _ => ?_) (fun h => by cases h)
          refine x_iload (pc' := 91) rfl rfl rfl ?_
          refine x_reti rfl rfl ?_
          exact qv (by simp only [cp12tF, (isSome_s q24), (isSome_s q42), cd_t, cd_f]) (q )
        · refine x_sipush (pc' := 58) rfl rfl ?_
          refine x_reti rfl rfl ?_
          exact qv (by simp only [cp12tF, (isSome_s q24), (isSome_n q42), cd_t, cd_f]) (q )
      refine x_icmp (a' := 35) (pc' := 33) (z := decide ((mA M 0 0) = 2)) rfl rfl rfl rfl (fun q37 => ?_) (fun q37 => ?_)
      · refine x_aload_n (pc' := 36) rfl rfl rfl rfl rfl ?_
        refine x_gR (pc' := 39) (r := (some 0)) rfl rfl rfl (kR_640_0 hc.1) ?_
        refine x_iload_n (pc' := 40) rfl rfl rfl ?_
        refine x_aald (pc' := 41) (N := 5) (k' := 1) (r := (some 0)) rfl rfl rfl (kN_24_0 hc.1) (io_in (p := 0) (N := 5) (by decide) (by decide)) (Eq.trans (congrArg (sE t 24 0) (nn_io (p := 0) (by decide))) (kB hc.1 (by decide))) ?_
        refine x_iload_n (pc' := 42) rfl rfl rfl ?_
        refine x_if (a' := 57) (pc' := 45) (z := false) rfl rfl rfl (by decide) (fun h => by cases h) (fun _ => ?_)
        refine x_iload_n (pc' := 46) rfl rfl rfl ?_
        refine x_if (a' := 53) (pc' := 49) (z := true) rfl rfl rfl (by decide) (fun _ => ?_) (fun h => by cases h)
        refine x_iconst (pc' := 54) rfl rfl ?_
        refine x_goto (pc' := 58) rfl rfl ?_
        refine x_cv (ls0 := [_, _]) (rest := []) rfl rfl rfl rfl rfl ?_
        refine x_iload_n (pc' := 1) rfl rfl rfl ?_
        refine x_if (a' := 11) (pc' := 4) (z := true) rfl rfl rfl (by decide) (fun _ => ?_) (fun h => by cases h)
        refine x_aload_n (pc' := 12) rfl rfl rfl rfl rfl ?_
        refine x_gR (pc' := 15) (r := (bsF M n 0 false)) rfl rfl rfl (bs_70 hC (Fc.ri (Fc.refl _) hR) hM (by decide)) ?_
        refine x_reta rfl rfl ?_
        refine sK_i (pc' := 61) rfl ?_
        refine x_reta rfl rfl ?_
        ((try rw [q37] at J40); (try rw [q37]); (try simp only [cd_t, cd_f, nt_t, nt_f, an_t, an_f, or_t, or_f] at J40); (try simp only [cd_t, cd_f, nt_t, nt_f, an_t, an_f, or_t, or_f]); exact J40)
      · refine x_null (pc' := 34) rfl rfl rfl ?_
        refine x_reta rfl rfl ?_
        ((try rw [q37] at J40); (try rw [q37]); (try simp only [cd_t, cd_f, nt_t, nt_f, an_t, an_f, or_t, or_f] at J40); (try simp only [cd_t, cd_f, nt_t, nt_f, an_t, an_f, or_t, or_f]); exact J40)
    · refine x_sipush (pc' := 58) rfl rfl ?_
      refine x_reti rfl rfl ?_
      exact qv (by simp only [cp12tF, (isSome_n q24), cd_t, cd_f]) (q )
  refine x_icmp (a' := 35) (pc' := 33) (z := decide ((mA M 0 3) = 2)) rfl rfl rfl rfl (fun q20 => ?_) (fun q20 => ?_)
  · refine x_aload_n (pc' := 36) rfl rfl rfl rfl rfl ?_
    refine x_gR (pc' := 39) (r := (some 0)) rfl rfl rfl (kR_640_0 hc.1) ?_
    refine x_iload_n (pc' := 40) rfl rfl rfl ?_
    refine x_aald (pc' := 41) (N := 5) (k' := 1) (r := (some 3)) rfl rfl rfl (kN_24_0 hc.1) (io_in (p := 3) (N := 5) (by decide) (by decide)) (Eq.trans (congrArg (sE t 24 0) (nn_io (p := 3) (by decide))) (kB hc.1 (by decide))) ?_
    refine x_iload_n (pc' := 42) rfl rfl rfl ?_
    refine x_if (a' := 57) (pc' := 45) (z := true) rfl rfl rfl (by decide) (fun _ => ?_) (fun h => by cases h)
    refine x_iload_n (pc' := 58) rfl rfl rfl ?_
    refine x_cv (ls0 := [_, _]) (rest := []) rfl rfl rfl rfl rfl ?_
    refine x_iload_n (pc' := 1) rfl rfl rfl ?_
    refine x_if (a' := 11) (pc' := 4) (z := false) rfl rfl rfl (by decide) (fun h => by cases h) (fun _ => ?_)
    refine x_aload_n (pc' := 5) rfl rfl rfl rfl rfl ?_
    refine x_gR (pc' := 8) (r := (bsF M n 3 true)) rfl rfl rfl (bs_69 hC (Fc.ri (Fc.refl _) hR) hM (by decide)) ?_
    refine x_goto (pc' := 15) rfl rfl ?_
    refine x_reta rfl rfl ?_
    refine sK_i (pc' := 61) rfl ?_
    refine x_reta rfl rfl ?_
    ((try rw [q20] at J22); (try rw [q20]); (try simp only [cd_t, cd_f, nt_t, nt_f, an_t, an_f, or_t, or_f] at J22); (try simp only [cd_t, cd_f, nt_t, nt_f, an_t, an_f, or_t, or_f]); exact J22)
  · refine x_null (pc' := 34) rfl rfl rfl ?_
    refine x_reta rfl rfl ?_
    ((try rw [q20] at J22); (try rw [q20]); (try simp only [cd_t, cd_f, nt_t, nt_f, an_t, an_f, or_t, or_f] at J22); (try simp only [cd_t, cd_f, nt_t, nt_f, an_t, an_f, or_t, or_f]); exact J22)
def cp20fF (M : sM) (n : Nat) : Int32 := (bif (bif (decide ((mA M 0 2) = 2)) then (bsF M n 2 true) else none).isSome then (0 + (mA M 14 (ovD (bif (decide ((mA M 0 2) = 2)) then (bsF M n 2 true) else none)))) else (-10000))
set_option maxHeartbeats 4000000 in
set_option maxRecDepth 10000 in
theorem c81_20f {t : sT} {Q : sRs → sT → Prop} {M : sM} {n : Nat} {T : Nat}
    (hM : Rl t M n T)
    (hc : Sf t M n T)
    (hR : Ri M n)
    (hC : rlC t M n)
    (q : Q (.inl (some (.inl (cp20fF M n)))) t) :
    X 81 0 [.inr (.inr (10, (some 0))), .inr (.inr (1, (some 2))), .inl 0, .inl (bz false), sJk, sJk, sJk, sJk] [] t Q := by
  refine x_aload_n (pc' := 1) rfl rfl rfl rfl rfl ?_
  refine x_aload_n (pc' := 2) rfl rfl rfl rfl rfl ?_
  refine x_iload_n (pc' := 3) rfl rfl rfl ?_
  refine x_iconst (pc' := 4) rfl rfl ?_
  refine x_cv (ls0 := [_, _, _, _, sJk, sJk]) (rest := []) rfl rfl rfl rfl rfl ?_
  refine x_aload_n (pc' := 1) rfl rfl rfl rfl rfl ?_
  refine x_gI (pc' := 4) (x := 2) rfl rfl rfl (kI_64_2 hc.1) ?_
  refine x_iconst (pc' := 5) rfl rfl ?_
  refine x_imul (pc' := 6) (z := 6) rfl rfl (by decide) ?_
  refine x_iload_n (pc' := 7) rfl rfl rfl ?_
  refine x_iadd (pc' := 8) (z := 6) rfl rfl (by decide) ?_
  refine x_iconst (pc' := 9) rfl rfl ?_
  refine x_imul (pc' := 10) (z := 18) rfl rfl (by decide) ?_
  refine x_iload_n (pc' := 11) rfl rfl rfl ?_
  refine x_iadd (pc' := 12) (z := 18) rfl rfl (by decide) ?_
  refine x_istore (pc' := 14) (ls' := [_, _, _, _, _, _]) rfl rfl rfl rfl ?_
  refine x_iload_n (pc' := 15) rfl rfl rfl ?_
  refine x_if (a' := 36) (pc' := 18) (z := false) rfl rfl rfl (by decide) (fun h => by cases h) (fun _ => ?_)
  refine x_iload_n (pc' := 19) rfl rfl rfl ?_
  refine x_iconst (pc' := 20) rfl rfl ?_
  refine x_icmp (a' := 36) (pc' := 23) (z := false) rfl rfl rfl (by decide) (fun h => by cases h) (fun _ => ?_)
  refine x_iload_n (pc' := 24) rfl rfl rfl ?_
  refine x_if (a' := 36) (pc' := 27) (z := false) rfl rfl rfl (by decide) (fun h => by cases h) (fun _ => ?_)
  refine x_iload_n (pc' := 28) rfl rfl rfl ?_
  refine x_iconst (pc' := 29) rfl rfl ?_
  refine x_icmp (a' := 36) (pc' := 32) (z := false) rfl rfl rfl (by decide) (fun h => by cases h) (fun _ => ?_)
  refine x_iconst (pc' := 33) rfl rfl ?_
  refine x_goto (pc' := 37) rfl rfl ?_
  refine x_istore (pc' := 39) (ls' := [_, _, _, _, _, _]) rfl rfl rfl rfl ?_
  refine x_iload (pc' := 41) rfl rfl rfl ?_
  refine x_if (a' := 67) (pc' := 44) (z := false) rfl rfl rfl (by decide) (fun h => by cases h) (fun _ => ?_)
  refine x_iload (pc' := 46) rfl rfl rfl ?_
  refine x_if (a' := 67) (pc' := 49) (z := false) rfl rfl rfl (by decide) (fun h => by cases h) (fun _ => ?_)
  refine x_iload (pc' := 51) rfl rfl rfl ?_
  refine x_getstatic (pc' := 54) rfl rfl (show 0 < sC t 28 from gst0 hc.1) ?_
  refine x_alen (pc' := 55) (N := 45) rfl rfl rfl (kN_28_0 hc.1) (?_ : X _ _ _ (.inl 45 :: _) _ _)
  refine x_icmp (a' := 67) (pc' := 58) (z := false) rfl rfl rfl (by decide) (fun h => by cases h) (fun _ => ?_)
  refine x_getstatic (pc' := 61) rfl rfl (show 0 < sC t 28 from gst0 hc.1) ?_
  refine x_iload (pc' := 63) rfl rfl rfl ?_
  refine x_iald (pc' := 64) (N := 45) (x := 3) rfl rfl rfl (kN_28_0 hc.1) (io_in (p := 18) (N := 45) (by decide) (by decide)) (Eq.trans (congrArg (sA t 28 0) (nn_io (p := 18) (by decide))) ((hc.1.2.2.2.2.2 18).1.trans rfl)) ?_
  refine x_goto (pc' := 68) rfl rfl ?_
  refine x_reti rfl rfl ?_
  refine sK_i (pc' := 7) rfl ?_
  refine x_if (a' := 14) (pc' := 10) (z := true) rfl rfl rfl (by decide) (fun _ => ?_) (fun h => by cases h)
  refine x_iconst (pc' := 15) rfl rfl ?_
  refine x_istore (pc' := 17) (ls' := [_, _, _, _, _, _, _, _]) rfl rfl rfl rfl ?_
  refine x_iconst (pc' := 18) rfl rfl ?_
  refine x_istore (pc' := 20) (ls' := [_, _, _, _, _, _, _, _]) rfl rfl rfl rfl ?_
  refine x_iload (pc' := 22) rfl rfl rfl ?_
  refine x_iconst (pc' := 23) rfl rfl ?_
  refine x_icmp (a' := 89) (pc' := 26) (z := false) rfl rfl rfl (by decide) (fun h => by cases h) (fun _ => ?_)
  refine x_aload_n (pc' := 27) rfl rfl rfl rfl rfl ?_
  refine x_aload_n (pc' := 28) rfl rfl rfl rfl rfl ?_
  refine x_iload_n (pc' := 29) rfl rfl rfl ?_
  refine x_iload (pc' := 31) rfl rfl rfl ?_
  refine x_cv (ls0 := [_, _, _, _, sJk, sJk]) (rest := []) rfl rfl rfl rfl rfl ?_
  refine x_aload_n (pc' := 1) rfl rfl rfl rfl rfl ?_
  refine x_gI (pc' := 4) (x := 2) rfl rfl rfl (kI_64_2 hc.1) ?_
  refine x_iconst (pc' := 5) rfl rfl ?_
  refine x_imul (pc' := 6) (z := 6) rfl rfl (by decide) ?_
  refine x_iload_n (pc' := 7) rfl rfl rfl ?_
  refine x_iadd (pc' := 8) (z := 6) rfl rfl (by decide) ?_
  refine x_iconst (pc' := 9) rfl rfl ?_
  refine x_imul (pc' := 10) (z := 18) rfl rfl (by decide) ?_
  refine x_iload_n (pc' := 11) rfl rfl rfl ?_
  refine x_iadd (pc' := 12) (z := 18) rfl rfl (by decide) ?_
  refine x_istore (pc' := 14) (ls' := [_, _, _, _, _, _]) rfl rfl rfl rfl ?_
  refine x_iload_n (pc' := 15) rfl rfl rfl ?_
  refine x_if (a' := 36) (pc' := 18) (z := false) rfl rfl rfl (by decide) (fun h => by cases h) (fun _ => ?_)
  refine x_iload_n (pc' := 19) rfl rfl rfl ?_
  refine x_iconst (pc' := 20) rfl rfl ?_
  refine x_icmp (a' := 36) (pc' := 23) (z := false) rfl rfl rfl (by decide) (fun h => by cases h) (fun _ => ?_)
  refine x_iload_n (pc' := 24) rfl rfl rfl ?_
  refine x_if (a' := 36) (pc' := 27) (z := false) rfl rfl rfl (by decide) (fun h => by cases h) (fun _ => ?_)
  refine x_iload_n (pc' := 28) rfl rfl rfl ?_
  refine x_iconst (pc' := 29) rfl rfl ?_
  refine x_icmp (a' := 36) (pc' := 32) (z := false) rfl rfl rfl (by decide) (fun h => by cases h) (fun _ => ?_)
  refine x_iconst (pc' := 33) rfl rfl ?_
  refine x_goto (pc' := 37) rfl rfl ?_
  refine x_istore (pc' := 39) (ls' := [_, _, _, _, _, _]) rfl rfl rfl rfl ?_
  refine x_iload (pc' := 41) rfl rfl rfl ?_
  refine x_if (a' := 67) (pc' := 44) (z := false) rfl rfl rfl (by decide) (fun h => by cases h) (fun _ => ?_)
  refine x_iload (pc' := 46) rfl rfl rfl ?_
  refine x_if (a' := 67) (pc' := 49) (z := false) rfl rfl rfl (by decide) (fun h => by cases h) (fun _ => ?_)
  refine x_iload (pc' := 51) rfl rfl rfl ?_
  refine x_getstatic (pc' := 54) rfl rfl (show 0 < sC t 28 from gst0 hc.1) ?_
  refine x_alen (pc' := 55) (N := 45) rfl rfl rfl (kN_28_0 hc.1) (?_ : X _ _ _ (.inl 45 :: _) _ _)
  refine x_icmp (a' := 67) (pc' := 58) (z := false) rfl rfl rfl (by decide) (fun h => by cases h) (fun _ => ?_)
  refine x_getstatic (pc' := 61) rfl rfl (show 0 < sC t 28 from gst0 hc.1) ?_
  refine x_iload (pc' := 63) rfl rfl rfl ?_
  refine x_iald (pc' := 64) (N := 45) (x := 3) rfl rfl rfl (kN_28_0 hc.1) (io_in (p := 18) (N := 45) (by decide) (by decide)) (Eq.trans (congrArg (sA t 28 0) (nn_io (p := 18) (by decide))) ((hc.1.2.2.2.2.2 18).1.trans rfl)) ?_
  refine x_goto (pc' := 68) rfl rfl ?_
  refine x_reti rfl rfl ?_
  refine sK_i (pc' := 34) rfl ?_
  refine x_istore (pc' := 36) (ls' := [_, _, _, _, _, _, _, _]) rfl rfl rfl rfl ?_
  refine x_iload (pc' := 38) rfl rfl rfl ?_
  refine x_if (a' := 83) (pc' := 41) (z := false) rfl rfl rfl (by decide) (fun h => by cases h) (fun _ => ?_)
  refine x_aload_n (pc' := 42) rfl rfl rfl rfl rfl ?_
  refine x_iload (pc' := 44) rfl rfl rfl ?_
  refine x_iload_n (pc' := 45) rfl rfl rfl ?_
  refine x_cv (ls0 := [_, _, _, sJk]) (rest := []) rfl rfl rfl rfl rfl ?_
  refine x_iload_n (pc' := 1) rfl rfl rfl ?_
  refine x_abs (pc' := 4) (z := 3) rfl rfl rfl (by decide) ?_
  refine x_iconst (pc' := 5) rfl rfl ?_
  refine x_isub (pc' := 6) (z := 2) rfl rfl (by decide) ?_
  refine x_istore_n (pc' := 7) (ls' := [_, _, _, _]) rfl rfl rfl rfl ?_
  refine x_iload_n (pc' := 8) rfl rfl rfl ?_
  refine x_if (a' := 33) (pc' := 11) (z := false) rfl rfl rfl (by decide) (fun h => by cases h) (fun _ => ?_)
  refine x_iload_n (pc' := 12) rfl rfl rfl ?_
  refine x_aload_n (pc' := 13) rfl rfl rfl rfl rfl ?_
  refine x_gR (pc' := 16) (r := (some 0)) rfl rfl rfl (kR_640_0 hc.1) ?_
  refine x_alen (pc' := 17) (N := 5) rfl rfl rfl (kN_24_0 hc.1) (?_ : X _ _ _ (.inl 5 :: _) _ _)
  refine x_icmp (a' := 33) (pc' := 20) (z := false) rfl rfl rfl (by decide) (fun h => by cases h) (fun _ => ?_)
  refine x_aload_n (pc' := 21) rfl rfl rfl rfl rfl ?_
  refine x_gR (pc' := 24) (r := (some 0)) rfl rfl rfl (kR_640_0 hc.1) ?_
  refine x_iload_n (pc' := 25) rfl rfl rfl ?_
  refine x_aald (pc' := 26) (N := 5) (k' := 1) (r := (some 2)) rfl rfl rfl (kN_24_0 hc.1) (io_in (p := 2) (N := 5) (by decide) (by decide)) (Eq.trans (congrArg (sE t 24 0) (nn_io (p := 2) (by decide))) (kB hc.1 (by decide))) ?_
  refine x_gI (pc' := 29) (x := (mA M 0 2)) rfl rfl rfl (kA hM rfl (show 2 < 5 by decide)) ?_
  refine x_iconst (pc' := 30) rfl rfl ?_
  have J23 : ((sK 79 81 45 [.inr (.inr (10, (some 0))), .inr (.inr (1, (some 2))), .inl 0, .inl (bz false), .inl 0, .inl 0, .inl 3, sJk] [] Q) : sRs → sT → Prop) (.inl (some (.inr (.inr (8, (bif (decide ((mA M 0 2) = 2)) then (bsF M n 2 true) else none)))))) t := by
    refine sK_i (pc' := 48) rfl ?_
    refine x_astore (pc' := 50) (ls' := [_, _, _, _, _, _, _, _]) rfl rfl rfl rfl rfl ?_
    refine x_aload (pc' := 52) rfl rfl rfl rfl rfl ?_
    refine x_ifnonnull (a' := 59) (pc' := 55) rfl rfl rfl rfl (fun j0 q25 => ?_) (fun q25 => ?_)
    · refine x_iload (pc' := 61) rfl rfl rfl ?_
      refine x_iload (pc' := 63) rfl rfl rfl ?_
      refine x_if (a' := 74) (pc' := 66) (z := false) rfl rfl rfl (by decide) (fun h => by cases h) (fun _ => ?_)
      refine x_aload (pc' := 68) rfl rfl rfl rfl (ovD_s q25) ?_
      refine x_gI (pc' := 71) (x := (mA M 14 (ovD (bif (decide ((mA M 0 2) = 2)) then (bsF M n 2 true) else none)))) rfl rfl rfl ((kA hM rfl (ovD_lt (obd_c bsF_lt obd_n) q25)).trans (congrFun (Fc.f14 (Fc.refl _)) _)) ?_
      refine x_goto (pc' := 80) rfl rfl ?_
      refine x_iadd (pc' := 81) (z := (0 + (mA M 14 (ovD (bif (decide ((mA M 0 2) = 2)) then (bsF M n 2 true) else none))))) rfl rfl rfl ?_
      refine x_istore (pc' := 83) (ls' := [_, _, _, _, _, _, _, _]) rfl rfl rfl rfl ?_
      refine x_iinc (pc' := 86) (y := 1) (ls' := [_, _, _, _, _, _, _, _]) rfl rfl rfl rfl rfl ?_
      refine x_goto (pc' := 20) rfl rfl ?_
      refine x_iload (pc' := 22) rfl rfl rfl ?_
      refine x_iconst (pc' := 23) rfl rfl ?_
      refine x_icmp (a' := 89) (pc' := 26) (z := false) rfl rfl rfl (by decide) (fun h => by cases h) (fun _ => ?_)
      refine x_aload_n (pc' := 27) rfl rfl rfl rfl rfl ?_
      refine x_aload_n (pc' := 28) rfl rfl rfl rfl rfl ?_
      refine x_iload_n (pc' := 29) rfl rfl rfl ?_
      refine x_iload (pc' := 31) rfl rfl rfl ?_
      refine x_cv (ls0 := [_, _, _, _, sJk, sJk]) (rest := []) rfl rfl rfl rfl rfl ?_
      refine x_aload_n (pc' := 1) rfl rfl rfl rfl rfl ?_
      refine x_gI (pc' := 4) (x := 2) rfl rfl rfl (kI_64_2 hc.1) ?_
      refine x_iconst (pc' := 5) rfl rfl ?_
      refine x_imul (pc' := 6) (z := 6) rfl rfl (by decide) ?_
      refine x_iload_n (pc' := 7) rfl rfl rfl ?_
      refine x_iadd (pc' := 8) (z := 6) rfl rfl (by decide) ?_
      refine x_iconst (pc' := 9) rfl rfl ?_
      refine x_imul (pc' := 10) (z := 18) rfl rfl (by decide) ?_
      refine x_iload_n (pc' := 11) rfl rfl rfl ?_
      refine x_iadd (pc' := 12) (z := 19) rfl rfl (by decide) ?_
      refine x_istore (pc' := 14) (ls' := [_, _, _, _, _, _]) rfl rfl rfl rfl ?_
      refine x_iload_n (pc' := 15) rfl rfl rfl ?_
      refine x_if (a' := 36) (pc' := 18) (z := false) rfl rfl rfl (by decide) (fun h => by cases h) (fun _ => ?_)
      refine x_iload_n (pc' := 19) rfl rfl rfl ?_
      refine x_iconst (pc' := 20) rfl rfl ?_
      refine x_icmp (a' := 36) (pc' := 23) (z := false) rfl rfl rfl (by decide) (fun h => by cases h) (fun _ => ?_)
      refine x_iload_n (pc' := 24) rfl rfl rfl ?_
      refine x_if (a' := 36) (pc' := 27) (z := false) rfl rfl rfl (by decide) (fun h => by cases h) (fun _ => ?_)
      refine x_iload_n (pc' := 28) rfl rfl rfl ?_
      refine x_iconst (pc' := 29) rfl rfl ?_
      refine x_icmp (a' := 36) (pc' := 32) (z := false) rfl rfl rfl (by decide) (fun h => by cases h) (fun _ => ?_)
      refine x_iconst (pc' := 33) rfl rfl ?_
      refine x_goto (pc' := 37) rfl rfl ?_
      refine x_istore (pc' := 39) (ls' := [_, _, _, _, _, _]) rfl rfl rfl rfl ?_
      refine x_iload (pc' := 41) rfl rfl rfl ?_
      refine x_if (a' := 67) (pc' := 44) (z := false) rfl rfl rfl (by decide) (fun h => by cases h) (fun _ => ?_)
      refine x_iload (pc' := 46) rfl rfl rfl ?_
      refine x_if (a' := 67) (pc' := 49) (z := false) rfl rfl rfl (by decide) (fun h => by cases h) (fun _ => ?_)
      refine x_iload (pc' := 51) rfl rfl rfl ?_
      refine x_getstatic (pc' := 54) rfl rfl (show 0 < sC t 28 from gst0 hc.1) ?_
      refine x_alen (pc' := 55) (N := 45) rfl rfl rfl (kN_28_0 hc.1) (?_ : X _ _ _ (.inl 45 :: _) _ _)
      refine x_icmp (a' := 67) (pc' := 58) (z := false) rfl rfl rfl (by decide) (fun h => by cases h) (fun _ => ?_)
      refine x_getstatic (pc' := 61) rfl rfl (show 0 < sC t 28 from gst0 hc.1) ?_
      refine x_iload (pc' := 63) rfl rfl rfl ?_
      refine x_iald (pc' := 64) (N := 45) (x := 0) rfl rfl rfl (kN_28_0 hc.1) (io_in (p := 19) (N := 45) (by decide) (by decide)) (Eq.trans (congrArg (sA t 28 0) (nn_io (p := 19) (by decide))) ((hc.1.2.2.2.2.2 19).1.trans rfl)) ?_
      refine x_goto (pc' := 68) rfl rfl ?_
      refine x_reti rfl rfl ?_
      refine sK_i (pc' := 34) rfl ?_
      refine x_istore (pc' := 36) (ls' := [_, _, _, _, _, _, _, _]) rfl rfl rfl rfl ?_
      refine x_iload (pc' := 38) rfl rfl rfl ?_
      refine x_if (a' := 83) (pc' := 41) (z := true) rfl rfl rfl (by decide) (fun _ => ?_) (fun h => by cases h)
      refine x_iinc (pc' := 86) (y := 2) (ls' := [_, _, _, _, _, _, _, _]) rfl rfl rfl rfl rfl ?_
      refine x_goto (pc' := 20) rfl rfl ?_
      refine x_iload (pc' := 22) rfl rfl rfl ?_
      refine x_iconst (pc' := 23) rfl rfl ?_
      refine x_icmp (a' := 89) (pc' := 26) (z := false) rfl rfl rfl (by decide) (fun h => by cases h) (fun _ => ?_)
      refine x_aload_n (pc' := 27) rfl rfl rfl rfl rfl ?_
      refine x_aload_n (pc' := 28) rfl rfl rfl rfl rfl ?_
      refine x_iload_n (pc' := 29) rfl rfl rfl ?_
      refine x_iload (pc' := 31) rfl rfl rfl ?_
      refine x_cv (ls0 := [_, _, _, _, sJk, sJk]) (rest := []) rfl rfl rfl rfl rfl ?_
      refine x_aload_n (pc' := 1) rfl rfl rfl rfl rfl ?_
      refine x_gI (pc' := 4) (x := 2) rfl rfl rfl (kI_64_2 hc.1) ?_
      refine x_iconst (pc' := 5) rfl rfl ?_
      refine x_imul (pc' := 6) (z := 6) rfl rfl (by decide) ?_
      refine x_iload_n (pc' := 7) rfl rfl rfl ?_
      refine x_iadd (pc' := 8) (z := 6) rfl rfl (by decide) ?_
      refine x_iconst (pc' := 9) rfl rfl ?_
      refine x_imul (pc' := 10) (z := 18) rfl rfl (by decide) ?_
      refine x_iload_n (pc' := 11) rfl rfl rfl ?_
      refine x_iadd (pc' := 12) (z := 20) rfl rfl (by decide) ?_
      refine x_istore (pc' := 14) (ls' := [_, _, _, _, _, _]) rfl rfl rfl rfl ?_
      refine x_iload_n (pc' := 15) rfl rfl rfl ?_
      refine x_if (a' := 36) (pc' := 18) (z := false) rfl rfl rfl (by decide) (fun h => by cases h) (fun _ => ?_)
      refine x_iload_n (pc' := 19) rfl rfl rfl ?_
      refine x_iconst (pc' := 20) rfl rfl ?_
      refine x_icmp (a' := 36) (pc' := 23) (z := false) rfl rfl rfl (by decide) (fun h => by cases h) (fun _ => ?_)
      refine x_iload_n (pc' := 24) rfl rfl rfl ?_
      refine x_if (a' := 36) (pc' := 27) (z := false) rfl rfl rfl (by decide) (fun h => by cases h) (fun _ => ?_)
      refine x_iload_n (pc' := 28) rfl rfl rfl ?_
      refine x_iconst (pc' := 29) rfl rfl ?_
      refine x_icmp (a' := 36) (pc' := 32) (z := false) rfl rfl rfl (by decide) (fun h => by cases h) (fun _ => ?_)
      refine x_iconst (pc' := 33) rfl rfl ?_
      refine x_goto (pc' := 37) rfl rfl ?_
      refine x_istore (pc' := 39) (ls' := [_, _, _, _, _, _]) rfl rfl rfl rfl ?_
      refine x_iload (pc' := 41) rfl rfl rfl ?_
      refine x_if (a' := 67) (pc' := 44) (z := false) rfl rfl rfl (by decide) (fun h => by cases h) (fun _ => ?_)
      refine x_iload (pc' := 46) rfl rfl rfl ?_
      refine x_if (a' := 67) (pc' := 49) (z := false) rfl rfl rfl (by decide) (fun h => by cases h) (fun _ => ?_)
      refine x_iload (pc' := 51) rfl rfl rfl ?_
      refine x_getstatic (pc' := 54) rfl rfl (show 0 < sC t 28 from gst0 hc.1) ?_
      refine x_alen (pc' := 55) (N := 45) rfl rfl rfl (kN_28_0 hc.1) (?_ : X _ _ _ (.inl 45 :: _) _ _)
      refine x_icmp (a' := 67) (pc' := 58) (z := false) rfl rfl rfl (by decide) (fun h => by cases h) (fun _ => ?_)
      refine x_getstatic (pc' := 61) rfl rfl (show 0 < sC t 28 from gst0 hc.1) ?_
      refine x_iload (pc' := 63) rfl rfl rfl ?_
      refine x_iald (pc' := 64) (N := 45) (x := 0) rfl rfl rfl (kN_28_0 hc.1) (io_in (p := 20) (N := 45) (by decide) (by decide)) (Eq.trans (congrArg (sA t 28 0) (nn_io (p := 20) (by decide))) ((hc.1.2.2.2.2.2 20).1.trans rfl)) ?_
      refine x_goto (pc' := 68) rfl rfl ?_
      refine x_reti rfl rfl ?_
      refine sK_i (pc' := 34) rfl ?_
      refine x_istore (pc' := 36) (ls' := [_, _, _, _, _, _, _, _]) rfl rfl rfl rfl ?_
      refine x_iload (pc' := 38) rfl rfl rfl ?_
      refine x_if (a' := 83) (pc' := 41) (z := true) rfl rfl rfl (by decide) (fun _ => ?_) (fun h => by cases h)
      refine x_iinc (pc' := 86) (y := 3) (ls' := [_, _, _, _, _, _, _, _]) rfl rfl rfl rfl rfl ?_
      refine x_goto (pc' := 20) rfl rfl ?_
      refine x_iload (pc' := 22) rfl rfl rfl ?_
      refine x_iconst (pc' := 23) rfl rfl ?_
      refine x_icmp (a' := 89) (pc' := 26) (z := true) rfl rfl rfl (by decide) (fun _ => ?_) (fun h => by cases h)
      refine x_iload (pc' := 91) rfl rfl rfl ?_
      refine x_reti rfl rfl ?_
      exact qv (by simp only [cp20fF, (isSome_s q25), cd_t, cd_f]) (q )
    · refine x_sipush (pc' := 58) rfl rfl ?_
      refine x_reti rfl rfl ?_
      exact qv (by simp only [cp20fF, (isSome_n q25), cd_t, cd_f]) (q )
  refine x_icmp (a' := 35) (pc' := 33) (z := decide ((mA M 0 2) = 2)) rfl rfl rfl rfl (fun q20 => ?_) (fun q20 => ?_)
  · refine x_aload_n (pc' := 36) rfl rfl rfl rfl rfl ?_
    refine x_gR (pc' := 39) (r := (some 0)) rfl rfl rfl (kR_640_0 hc.1) ?_
    refine x_iload_n (pc' := 40) rfl rfl rfl ?_
    refine x_aald (pc' := 41) (N := 5) (k' := 1) (r := (some 2)) rfl rfl rfl (kN_24_0 hc.1) (io_in (p := 2) (N := 5) (by decide) (by decide)) (Eq.trans (congrArg (sE t 24 0) (nn_io (p := 2) (by decide))) (kB hc.1 (by decide))) ?_
    refine x_iload_n (pc' := 42) rfl rfl rfl ?_
    refine x_if (a' := 57) (pc' := 45) (z := false) rfl rfl rfl (by decide) (fun h => by cases h) (fun _ => ?_)
    refine x_iload_n (pc' := 46) rfl rfl rfl ?_
    refine x_if (a' := 53) (pc' := 49) (z := false) rfl rfl rfl (by decide) (fun h => by cases h) (fun _ => ?_)
    refine x_iconst (pc' := 50) rfl rfl ?_
    refine x_goto (pc' := 58) rfl rfl ?_
    refine x_cv (ls0 := [_, _]) (rest := []) rfl rfl rfl rfl rfl ?_
    refine x_iload_n (pc' := 1) rfl rfl rfl ?_
    refine x_if (a' := 11) (pc' := 4) (z := false) rfl rfl rfl (by decide) (fun h => by cases h) (fun _ => ?_)
    refine x_aload_n (pc' := 5) rfl rfl rfl rfl rfl ?_
    refine x_gR (pc' := 8) (r := (bsF M n 2 true)) rfl rfl rfl (bs_69 hC (Fc.ri (Fc.refl _) hR) hM (by decide)) ?_
    refine x_goto (pc' := 15) rfl rfl ?_
    refine x_reta rfl rfl ?_
    refine sK_i (pc' := 61) rfl ?_
    refine x_reta rfl rfl ?_
    ((try rw [q20] at J23); (try rw [q20]); (try simp only [cd_t, cd_f, nt_t, nt_f, an_t, an_f, or_t, or_f] at J23); (try simp only [cd_t, cd_f, nt_t, nt_f, an_t, an_f, or_t, or_f]); exact J23)
  · refine x_null (pc' := 34) rfl rfl rfl ?_
    refine x_reta rfl rfl ?_
    ((try rw [q20] at J23); (try rw [q20]); (try simp only [cd_t, cd_f, nt_t, nt_f, an_t, an_f, or_t, or_f] at J23); (try simp only [cd_t, cd_f, nt_t, nt_f, an_t, an_f, or_t, or_f]); exact J23)
def cp20tF (M : sM) (n : Nat) : Int32 := (bif (bif (decide ((mA M 0 2) = 2)) then (bsF M n 2 false) else none).isSome then (0 + (mA M 14 (ovD (bif (decide ((mA M 0 2) = 2)) then (bsF M n 2 false) else none)))) else (-10000))
set_option maxHeartbeats 4000000 in
set_option maxRecDepth 10000 in
theorem c81_20t {t : sT} {Q : sRs → sT → Prop} {M : sM} {n : Nat} {T : Nat}
    (hM : Rl t M n T)
    (hc : Sf t M n T)
    (hR : Ri M n)
    (hC : rlC t M n)
    (q : Q (.inl (some (.inl (cp20tF M n)))) t) :
    X 81 0 [.inr (.inr (10, (some 0))), .inr (.inr (1, (some 2))), .inl 0, .inl (bz true), sJk, sJk, sJk, sJk] [] t Q := by
  refine x_aload_n (pc' := 1) rfl rfl rfl rfl rfl ?_
  refine x_aload_n (pc' := 2) rfl rfl rfl rfl rfl ?_
  refine x_iload_n (pc' := 3) rfl rfl rfl ?_
  refine x_iconst (pc' := 4) rfl rfl ?_
  refine x_cv (ls0 := [_, _, _, _, sJk, sJk]) (rest := []) rfl rfl rfl rfl rfl ?_
  refine x_aload_n (pc' := 1) rfl rfl rfl rfl rfl ?_
  refine x_gI (pc' := 4) (x := 2) rfl rfl rfl (kI_64_2 hc.1) ?_
  refine x_iconst (pc' := 5) rfl rfl ?_
  refine x_imul (pc' := 6) (z := 6) rfl rfl (by decide) ?_
  refine x_iload_n (pc' := 7) rfl rfl rfl ?_
  refine x_iadd (pc' := 8) (z := 6) rfl rfl (by decide) ?_
  refine x_iconst (pc' := 9) rfl rfl ?_
  refine x_imul (pc' := 10) (z := 18) rfl rfl (by decide) ?_
  refine x_iload_n (pc' := 11) rfl rfl rfl ?_
  refine x_iadd (pc' := 12) (z := 18) rfl rfl (by decide) ?_
  refine x_istore (pc' := 14) (ls' := [_, _, _, _, _, _]) rfl rfl rfl rfl ?_
  refine x_iload_n (pc' := 15) rfl rfl rfl ?_
  refine x_if (a' := 36) (pc' := 18) (z := false) rfl rfl rfl (by decide) (fun h => by cases h) (fun _ => ?_)
  refine x_iload_n (pc' := 19) rfl rfl rfl ?_
  refine x_iconst (pc' := 20) rfl rfl ?_
  refine x_icmp (a' := 36) (pc' := 23) (z := false) rfl rfl rfl (by decide) (fun h => by cases h) (fun _ => ?_)
  refine x_iload_n (pc' := 24) rfl rfl rfl ?_
  refine x_if (a' := 36) (pc' := 27) (z := false) rfl rfl rfl (by decide) (fun h => by cases h) (fun _ => ?_)
  refine x_iload_n (pc' := 28) rfl rfl rfl ?_
  refine x_iconst (pc' := 29) rfl rfl ?_
  refine x_icmp (a' := 36) (pc' := 32) (z := false) rfl rfl rfl (by decide) (fun h => by cases h) (fun _ => ?_)
  refine x_iconst (pc' := 33) rfl rfl ?_
  refine x_goto (pc' := 37) rfl rfl ?_
  refine x_istore (pc' := 39) (ls' := [_, _, _, _, _, _]) rfl rfl rfl rfl ?_
  refine x_iload (pc' := 41) rfl rfl rfl ?_
  refine x_if (a' := 67) (pc' := 44) (z := false) rfl rfl rfl (by decide) (fun h => by cases h) (fun _ => ?_)
  refine x_iload (pc' := 46) rfl rfl rfl ?_
  refine x_if (a' := 67) (pc' := 49) (z := false) rfl rfl rfl (by decide) (fun h => by cases h) (fun _ => ?_)
  refine x_iload (pc' := 51) rfl rfl rfl ?_
  refine x_getstatic (pc' := 54) rfl rfl (show 0 < sC t 28 from gst0 hc.1) ?_
  refine x_alen (pc' := 55) (N := 45) rfl rfl rfl (kN_28_0 hc.1) (?_ : X _ _ _ (.inl 45 :: _) _ _)
  refine x_icmp (a' := 67) (pc' := 58) (z := false) rfl rfl rfl (by decide) (fun h => by cases h) (fun _ => ?_)
  refine x_getstatic (pc' := 61) rfl rfl (show 0 < sC t 28 from gst0 hc.1) ?_
  refine x_iload (pc' := 63) rfl rfl rfl ?_
  refine x_iald (pc' := 64) (N := 45) (x := 3) rfl rfl rfl (kN_28_0 hc.1) (io_in (p := 18) (N := 45) (by decide) (by decide)) (Eq.trans (congrArg (sA t 28 0) (nn_io (p := 18) (by decide))) ((hc.1.2.2.2.2.2 18).1.trans rfl)) ?_
  refine x_goto (pc' := 68) rfl rfl ?_
  refine x_reti rfl rfl ?_
  refine sK_i (pc' := 7) rfl ?_
  refine x_if (a' := 14) (pc' := 10) (z := true) rfl rfl rfl (by decide) (fun _ => ?_) (fun h => by cases h)
  refine x_iconst (pc' := 15) rfl rfl ?_
  refine x_istore (pc' := 17) (ls' := [_, _, _, _, _, _, _, _]) rfl rfl rfl rfl ?_
  refine x_iconst (pc' := 18) rfl rfl ?_
  refine x_istore (pc' := 20) (ls' := [_, _, _, _, _, _, _, _]) rfl rfl rfl rfl ?_
  refine x_iload (pc' := 22) rfl rfl rfl ?_
  refine x_iconst (pc' := 23) rfl rfl ?_
  refine x_icmp (a' := 89) (pc' := 26) (z := false) rfl rfl rfl (by decide) (fun h => by cases h) (fun _ => ?_)
  refine x_aload_n (pc' := 27) rfl rfl rfl rfl rfl ?_
  refine x_aload_n (pc' := 28) rfl rfl rfl rfl rfl ?_
  refine x_iload_n (pc' := 29) rfl rfl rfl ?_
  refine x_iload (pc' := 31) rfl rfl rfl ?_
  refine x_cv (ls0 := [_, _, _, _, sJk, sJk]) (rest := []) rfl rfl rfl rfl rfl ?_
  refine x_aload_n (pc' := 1) rfl rfl rfl rfl rfl ?_
  refine x_gI (pc' := 4) (x := 2) rfl rfl rfl (kI_64_2 hc.1) ?_
  refine x_iconst (pc' := 5) rfl rfl ?_
  refine x_imul (pc' := 6) (z := 6) rfl rfl (by decide) ?_
  refine x_iload_n (pc' := 7) rfl rfl rfl ?_
  refine x_iadd (pc' := 8) (z := 6) rfl rfl (by decide) ?_
  refine x_iconst (pc' := 9) rfl rfl ?_
  refine x_imul (pc' := 10) (z := 18) rfl rfl (by decide) ?_
  refine x_iload_n (pc' := 11) rfl rfl rfl ?_
  refine x_iadd (pc' := 12) (z := 18) rfl rfl (by decide) ?_
  refine x_istore (pc' := 14) (ls' := [_, _, _, _, _, _]) rfl rfl rfl rfl ?_
  refine x_iload_n (pc' := 15) rfl rfl rfl ?_
  refine x_if (a' := 36) (pc' := 18) (z := false) rfl rfl rfl (by decide) (fun h => by cases h) (fun _ => ?_)
  refine x_iload_n (pc' := 19) rfl rfl rfl ?_
  refine x_iconst (pc' := 20) rfl rfl ?_
  refine x_icmp (a' := 36) (pc' := 23) (z := false) rfl rfl rfl (by decide) (fun h => by cases h) (fun _ => ?_)
  refine x_iload_n (pc' := 24) rfl rfl rfl ?_
  refine x_if (a' := 36) (pc' := 27) (z := false) rfl rfl rfl (by decide) (fun h => by cases h) (fun _ => ?_)
  refine x_iload_n (pc' := 28) rfl rfl rfl ?_
  refine x_iconst (pc' := 29) rfl rfl ?_
  refine x_icmp (a' := 36) (pc' := 32) (z := false) rfl rfl rfl (by decide) (fun h => by cases h) (fun _ => ?_)
  refine x_iconst (pc' := 33) rfl rfl ?_
  refine x_goto (pc' := 37) rfl rfl ?_
  refine x_istore (pc' := 39) (ls' := [_, _, _, _, _, _]) rfl rfl rfl rfl ?_
  refine x_iload (pc' := 41) rfl rfl rfl ?_
  refine x_if (a' := 67) (pc' := 44) (z := false) rfl rfl rfl (by decide) (fun h => by cases h) (fun _ => ?_)
  refine x_iload (pc' := 46) rfl rfl rfl ?_
  refine x_if (a' := 67) (pc' := 49) (z := false) rfl rfl rfl (by decide) (fun h => by cases h) (fun _ => ?_)
  refine x_iload (pc' := 51) rfl rfl rfl ?_
  refine x_getstatic (pc' := 54) rfl rfl (show 0 < sC t 28 from gst0 hc.1) ?_
  refine x_alen (pc' := 55) (N := 45) rfl rfl rfl (kN_28_0 hc.1) (?_ : X _ _ _ (.inl 45 :: _) _ _)
  refine x_icmp (a' := 67) (pc' := 58) (z := false) rfl rfl rfl (by decide) (fun h => by cases h) (fun _ => ?_)
  refine x_getstatic (pc' := 61) rfl rfl (show 0 < sC t 28 from gst0 hc.1) ?_
  refine x_iload (pc' := 63) rfl rfl rfl ?_
  refine x_iald (pc' := 64) (N := 45) (x := 3) rfl rfl rfl (kN_28_0 hc.1) (io_in (p := 18) (N := 45) (by decide) (by decide)) (Eq.trans (congrArg (sA t 28 0) (nn_io (p := 18) (by decide))) ((hc.1.2.2.2.2.2 18).1.trans rfl)) ?_
  refine x_goto (pc' := 68) rfl rfl ?_
  refine x_reti rfl rfl ?_
  refine sK_i (pc' := 34) rfl ?_
  refine x_istore (pc' := 36) (ls' := [_, _, _, _, _, _, _, _]) rfl rfl rfl rfl ?_
  refine x_iload (pc' := 38) rfl rfl rfl ?_
  refine x_if (a' := 83) (pc' := 41) (z := false) rfl rfl rfl (by decide) (fun h => by cases h) (fun _ => ?_)
  refine x_aload_n (pc' := 42) rfl rfl rfl rfl rfl ?_
  refine x_iload (pc' := 44) rfl rfl rfl ?_
  refine x_iload_n (pc' := 45) rfl rfl rfl ?_
  refine x_cv (ls0 := [_, _, _, sJk]) (rest := []) rfl rfl rfl rfl rfl ?_
  refine x_iload_n (pc' := 1) rfl rfl rfl ?_
  refine x_abs (pc' := 4) (z := 3) rfl rfl rfl (by decide) ?_
  refine x_iconst (pc' := 5) rfl rfl ?_
  refine x_isub (pc' := 6) (z := 2) rfl rfl (by decide) ?_
  refine x_istore_n (pc' := 7) (ls' := [_, _, _, _]) rfl rfl rfl rfl ?_
  refine x_iload_n (pc' := 8) rfl rfl rfl ?_
  refine x_if (a' := 33) (pc' := 11) (z := false) rfl rfl rfl (by decide) (fun h => by cases h) (fun _ => ?_)
  refine x_iload_n (pc' := 12) rfl rfl rfl ?_
  refine x_aload_n (pc' := 13) rfl rfl rfl rfl rfl ?_
  refine x_gR (pc' := 16) (r := (some 0)) rfl rfl rfl (kR_640_0 hc.1) ?_
  refine x_alen (pc' := 17) (N := 5) rfl rfl rfl (kN_24_0 hc.1) (?_ : X _ _ _ (.inl 5 :: _) _ _)
  refine x_icmp (a' := 33) (pc' := 20) (z := false) rfl rfl rfl (by decide) (fun h => by cases h) (fun _ => ?_)
  refine x_aload_n (pc' := 21) rfl rfl rfl rfl rfl ?_
  refine x_gR (pc' := 24) (r := (some 0)) rfl rfl rfl (kR_640_0 hc.1) ?_
  refine x_iload_n (pc' := 25) rfl rfl rfl ?_
  refine x_aald (pc' := 26) (N := 5) (k' := 1) (r := (some 2)) rfl rfl rfl (kN_24_0 hc.1) (io_in (p := 2) (N := 5) (by decide) (by decide)) (Eq.trans (congrArg (sE t 24 0) (nn_io (p := 2) (by decide))) (kB hc.1 (by decide))) ?_
  refine x_gI (pc' := 29) (x := (mA M 0 2)) rfl rfl rfl (kA hM rfl (show 2 < 5 by decide)) ?_
  refine x_iconst (pc' := 30) rfl rfl ?_
  have J23 : ((sK 79 81 45 [.inr (.inr (10, (some 0))), .inr (.inr (1, (some 2))), .inl 0, .inl (bz true), .inl 0, .inl 0, .inl 3, sJk] [] Q) : sRs → sT → Prop) (.inl (some (.inr (.inr (8, (bif (decide ((mA M 0 2) = 2)) then (bsF M n 2 false) else none)))))) t := by
    refine sK_i (pc' := 48) rfl ?_
    refine x_astore (pc' := 50) (ls' := [_, _, _, _, _, _, _, _]) rfl rfl rfl rfl rfl ?_
    refine x_aload (pc' := 52) rfl rfl rfl rfl rfl ?_
    refine x_ifnonnull (a' := 59) (pc' := 55) rfl rfl rfl rfl (fun j0 q25 => ?_) (fun q25 => ?_)
    · refine x_iload (pc' := 61) rfl rfl rfl ?_
      refine x_iload (pc' := 63) rfl rfl rfl ?_
      refine x_if (a' := 74) (pc' := 66) (z := false) rfl rfl rfl (by decide) (fun h => by cases h) (fun _ => ?_)
      refine x_aload (pc' := 68) rfl rfl rfl rfl (ovD_s q25) ?_
      refine x_gI (pc' := 71) (x := (mA M 14 (ovD (bif (decide ((mA M 0 2) = 2)) then (bsF M n 2 false) else none)))) rfl rfl rfl ((kA hM rfl (ovD_lt (obd_c bsF_lt obd_n) q25)).trans (congrFun (Fc.f14 (Fc.refl _)) _)) ?_
      refine x_goto (pc' := 80) rfl rfl ?_
      refine x_iadd (pc' := 81) (z := (0 + (mA M 14 (ovD (bif (decide ((mA M 0 2) = 2)) then (bsF M n 2 false) else none))))) rfl rfl rfl ?_
      refine x_istore (pc' := 83) (ls' := [_, _, _, _, _, _, _, _]) rfl rfl rfl rfl ?_
      refine x_iinc (pc' := 86) (y := 1) (ls' := [_, _, _, _, _, _, _, _]) rfl rfl rfl rfl rfl ?_
      refine x_goto (pc' := 20) rfl rfl ?_
      refine x_iload (pc' := 22) rfl rfl rfl ?_
      refine x_iconst (pc' := 23) rfl rfl ?_
      refine x_icmp (a' := 89) (pc' := 26) (z := false) rfl rfl rfl (by decide) (fun h => by cases h) (fun _ => ?_)
      refine x_aload_n (pc' := 27) rfl rfl rfl rfl rfl ?_
      refine x_aload_n (pc' := 28) rfl rfl rfl rfl rfl ?_
      refine x_iload_n (pc' := 29) rfl rfl rfl ?_
      refine x_iload (pc' := 31) rfl rfl rfl ?_
      refine x_cv (ls0 := [_, _, _, _, sJk, sJk]) (rest := []) rfl rfl rfl rfl rfl ?_
      refine x_aload_n (pc' := 1) rfl rfl rfl rfl rfl ?_
      refine x_gI (pc' := 4) (x := 2) rfl rfl rfl (kI_64_2 hc.1) ?_
      refine x_iconst (pc' := 5) rfl rfl ?_
      refine x_imul (pc' := 6) (z := 6) rfl rfl (by decide) ?_
      refine x_iload_n (pc' := 7) rfl rfl rfl ?_
      refine x_iadd (pc' := 8) (z := 6) rfl rfl (by decide) ?_
      refine x_iconst (pc' := 9) rfl rfl ?_
      refine x_imul (pc' := 10) (z := 18) rfl rfl (by decide) ?_
      refine x_iload_n (pc' := 11) rfl rfl rfl ?_
      refine x_iadd (pc' := 12) (z := 19) rfl rfl (by decide) ?_
      refine x_istore (pc' := 14) (ls' := [_, _, _, _, _, _]) rfl rfl rfl rfl ?_
      refine x_iload_n (pc' := 15) rfl rfl rfl ?_
      refine x_if (a' := 36) (pc' := 18) (z := false) rfl rfl rfl (by decide) (fun h => by cases h) (fun _ => ?_)
      refine x_iload_n (pc' := 19) rfl rfl rfl ?_
      refine x_iconst (pc' := 20) rfl rfl ?_
      refine x_icmp (a' := 36) (pc' := 23) (z := false) rfl rfl rfl (by decide) (fun h => by cases h) (fun _ => ?_)
      refine x_iload_n (pc' := 24) rfl rfl rfl ?_
      refine x_if (a' := 36) (pc' := 27) (z := false) rfl rfl rfl (by decide) (fun h => by cases h) (fun _ => ?_)
      refine x_iload_n (pc' := 28) rfl rfl rfl ?_
      refine x_iconst (pc' := 29) rfl rfl ?_
      refine x_icmp (a' := 36) (pc' := 32) (z := false) rfl rfl rfl (by decide) (fun h => by cases h) (fun _ => ?_)
      refine x_iconst (pc' := 33) rfl rfl ?_
      refine x_goto (pc' := 37) rfl rfl ?_
      refine x_istore (pc' := 39) (ls' := [_, _, _, _, _, _]) rfl rfl rfl rfl ?_
      refine x_iload (pc' := 41) rfl rfl rfl ?_
      refine x_if (a' := 67) (pc' := 44) (z := false) rfl rfl rfl (by decide) (fun h => by cases h) (fun _ => ?_)
      refine x_iload (pc' := 46) rfl rfl rfl ?_
      refine x_if (a' := 67) (pc' := 49) (z := false) rfl rfl rfl (by decide) (fun h => by cases h) (fun _ => ?_)
      refine x_iload (pc' := 51) rfl rfl rfl ?_
      refine x_getstatic (pc' := 54) rfl rfl (show 0 < sC t 28 from gst0 hc.1) ?_
      refine x_alen (pc' := 55) (N := 45) rfl rfl rfl (kN_28_0 hc.1) (?_ : X _ _ _ (.inl 45 :: _) _ _)
      refine x_icmp (a' := 67) (pc' := 58) (z := false) rfl rfl rfl (by decide) (fun h => by cases h) (fun _ => ?_)
      refine x_getstatic (pc' := 61) rfl rfl (show 0 < sC t 28 from gst0 hc.1) ?_
      refine x_iload (pc' := 63) rfl rfl rfl ?_
      refine x_iald (pc' := 64) (N := 45) (x := 0) rfl rfl rfl (kN_28_0 hc.1) (io_in (p := 19) (N := 45) (by decide) (by decide)) (Eq.trans (congrArg (sA t 28 0) (nn_io (p := 19) (by decide))) ((hc.1.2.2.2.2.2 19).1.trans rfl)) ?_
      refine x_goto (pc' := 68) rfl rfl ?_
      refine x_reti rfl rfl ?_
      refine sK_i (pc' := 34) rfl ?_
      refine x_istore (pc' := 36) (ls' := [_, _, _, _, _, _, _, _]) rfl rfl rfl rfl ?_
      refine x_iload (pc' := 38) rfl rfl rfl ?_
      refine x_if (a' := 83) (pc' := 41) (z := true) rfl rfl rfl (by decide) (fun _ => ?_) (fun h => by cases h)
      refine x_iinc (pc' := 86) (y := 2) (ls' := [_, _, _, _, _, _, _, _]) rfl rfl rfl rfl rfl ?_
      refine x_goto (pc' := 20) rfl rfl ?_
      refine x_iload (pc' := 22) rfl rfl rfl ?_
      refine x_iconst (pc' := 23) rfl rfl ?_
      refine x_icmp (a' := 89) (pc' := 26) (z := false) rfl rfl rfl (by decide) (fun h => by cases h) (fun _ => ?_)
      refine x_aload_n (pc' := 27) rfl rfl rfl rfl rfl ?_
      refine x_aload_n (pc' := 28) rfl rfl rfl rfl rfl ?_
      refine x_iload_n (pc' := 29) rfl rfl rfl ?_
      refine x_iload (pc' := 31) rfl rfl rfl ?_
      refine x_cv (ls0 := [_, _, _, _, sJk, sJk]) (rest := []) rfl rfl rfl rfl rfl ?_
      refine x_aload_n (pc' := 1) rfl rfl rfl rfl rfl ?_
      refine x_gI (pc' := 4) (x := 2) rfl rfl rfl (kI_64_2 hc.1) ?_
      refine x_iconst (pc' := 5) rfl rfl ?_
      refine x_imul (pc' := 6) (z := 6) rfl rfl (by decide) ?_
      refine x_iload_n (pc' := 7) rfl rfl rfl ?_
      refine x_iadd (pc' := 8) (z := 6) rfl rfl (by decide) ?_
      refine x_iconst (pc' := 9) rfl rfl ?_
      refine x_imul (pc' := 10) (z := 18) rfl rfl (by decide) ?_
      refine x_iload_n (pc' := 11) rfl rfl rfl ?_
      refine x_iadd (pc' := 12) (z := 20) rfl rfl (by decide) ?_
      refine x_istore (pc' := 14) (ls' := [_, _, _, _, _, _]) rfl rfl rfl rfl ?_
      refine x_iload_n (pc' := 15) rfl rfl rfl ?_
      refine x_if (a' := 36) (pc' := 18) (z := false) rfl rfl rfl (by decide) (fun h => by cases h) (fun _ => ?_)
      refine x_iload_n (pc' := 19) rfl rfl rfl ?_
      refine x_iconst (pc' := 20) rfl rfl ?_
      refine x_icmp (a' := 36) (pc' := 23) (z := false) rfl rfl rfl (by decide) (fun h => by cases h) (fun _ => ?_)
      refine x_iload_n (pc' := 24) rfl rfl rfl ?_
      refine x_if (a' := 36) (pc' := 27) (z := false) rfl rfl rfl (by decide) (fun h => by cases h) (fun _ => ?_)
      refine x_iload_n (pc' := 28) rfl rfl rfl ?_
      refine x_iconst (pc' := 29) rfl rfl ?_
      refine x_icmp (a' := 36) (pc' := 32) (z := false) rfl rfl rfl (by decide) (fun h => by cases h) (fun _ => ?_)
      refine x_iconst (pc' := 33) rfl rfl ?_
      refine x_goto (pc' := 37) rfl rfl ?_
      refine x_istore (pc' := 39) (ls' := [_, _, _, _, _, _]) rfl rfl rfl rfl ?_
      refine x_iload (pc' := 41) rfl rfl rfl ?_
      refine x_if (a' := 67) (pc' := 44) (z := false) rfl rfl rfl (by decide) (fun h => by cases h) (fun _ => ?_)
      refine x_iload (pc' := 46) rfl rfl rfl ?_
      refine x_if (a' := 67) (pc' := 49) (z := false) rfl rfl rfl (by decide) (fun h => by cases h) (fun _ => ?_)
      refine x_iload (pc' := 51) rfl rfl rfl ?_
      refine x_getstatic (pc' := 54) rfl rfl (show 0 < sC t 28 from gst0 hc.1) ?_
      refine x_alen (pc' := 55) (N := 45) rfl rfl rfl (kN_28_0 hc.1) (?_ : X _ _ _ (.inl 45 :: _) _ _)
      refine x_icmp (a' := 67) (pc' := 58) (z := false) rfl rfl rfl (by decide) (fun h => by cases h) (fun _ => ?_)
      refine x_getstatic (pc' := 61) rfl rfl (show 0 < sC t 28 from gst0 hc.1) ?_
      refine x_iload (pc' := 63) rfl rfl rfl ?_
      refine x_iald (pc' := 64) (N := 45) (x := 0) rfl rfl rfl (kN_28_0 hc.1) (io_in (p := 20) (N := 45) (by decide) (by decide)) (Eq.trans (congrArg (sA t 28 0) (nn_io (p := 20) (by decide))) ((hc.1.2.2.2.2.2 20).1.trans rfl)) ?_
      refine x_goto (pc' := 68) rfl rfl ?_
      refine x_reti rfl rfl ?_
      refine sK_i (pc' := 34) rfl ?_
      refine x_istore (pc' := 36) (ls' := [_, _, _, _, _, _, _, _]) rfl rfl rfl rfl ?_
      refine x_iload (pc' := 38) rfl rfl rfl ?_
      refine x_if (a' := 83) (pc' := 41) (z := true) rfl rfl rfl (by decide) (fun _ => ?_) (fun h => by cases h)
      refine x_iinc (pc' := 86) (y := 3) (ls' := [_, _, _, _, _, _, _, _]) rfl rfl rfl rfl rfl ?_
      refine x_goto (pc' := 20) rfl rfl ?_
      refine x_iload (pc' := 22) rfl rfl rfl ?_
      refine x_iconst (pc' := 23) rfl rfl ?_
      refine x_icmp (a' := 89) (pc' := 26) (z := true) rfl rfl rfl (by decide) (fun _ => ?_) (fun h => by cases h)
      refine x_iload (pc' := 91) rfl rfl rfl ?_
      refine x_reti rfl rfl ?_
      exact qv (by simp only [cp20tF, (isSome_s q25), cd_t, cd_f]) (q )
    · refine x_sipush (pc' := 58) rfl rfl ?_
      refine x_reti rfl rfl ?_
      exact qv (by simp only [cp20tF, (isSome_n q25), cd_t, cd_f]) (q )
  refine x_icmp (a' := 35) (pc' := 33) (z := decide ((mA M 0 2) = 2)) rfl rfl rfl rfl (fun q20 => ?_) (fun q20 => ?_)
  · refine x_aload_n (pc' := 36) rfl rfl rfl rfl rfl ?_
    refine x_gR (pc' := 39) (r := (some 0)) rfl rfl rfl (kR_640_0 hc.1) ?_
    refine x_iload_n (pc' := 40) rfl rfl rfl ?_
    refine x_aald (pc' := 41) (N := 5) (k' := 1) (r := (some 2)) rfl rfl rfl (kN_24_0 hc.1) (io_in (p := 2) (N := 5) (by decide) (by decide)) (Eq.trans (congrArg (sE t 24 0) (nn_io (p := 2) (by decide))) (kB hc.1 (by decide))) ?_
    refine x_iload_n (pc' := 42) rfl rfl rfl ?_
    refine x_if (a' := 57) (pc' := 45) (z := false) rfl rfl rfl (by decide) (fun h => by cases h) (fun _ => ?_)
    refine x_iload_n (pc' := 46) rfl rfl rfl ?_
    refine x_if (a' := 53) (pc' := 49) (z := true) rfl rfl rfl (by decide) (fun _ => ?_) (fun h => by cases h)
    refine x_iconst (pc' := 54) rfl rfl ?_
    refine x_goto (pc' := 58) rfl rfl ?_
    refine x_cv (ls0 := [_, _]) (rest := []) rfl rfl rfl rfl rfl ?_
    refine x_iload_n (pc' := 1) rfl rfl rfl ?_
    refine x_if (a' := 11) (pc' := 4) (z := true) rfl rfl rfl (by decide) (fun _ => ?_) (fun h => by cases h)
    refine x_aload_n (pc' := 12) rfl rfl rfl rfl rfl ?_
    refine x_gR (pc' := 15) (r := (bsF M n 2 false)) rfl rfl rfl (bs_70 hC (Fc.ri (Fc.refl _) hR) hM (by decide)) ?_
    refine x_reta rfl rfl ?_
    refine sK_i (pc' := 61) rfl ?_
    refine x_reta rfl rfl ?_
    ((try rw [q20] at J23); (try rw [q20]); (try simp only [cd_t, cd_f, nt_t, nt_f, an_t, an_f, or_t, or_f] at J23); (try simp only [cd_t, cd_f, nt_t, nt_f, an_t, an_f, or_t, or_f]); exact J23)
  · refine x_null (pc' := 34) rfl rfl rfl ?_
    refine x_reta rfl rfl ?_
    ((try rw [q20] at J23); (try rw [q20]); (try simp only [cd_t, cd_f, nt_t, nt_f, an_t, an_f, or_t, or_f] at J23); (try simp only [cd_t, cd_f, nt_t, nt_f, an_t, an_f, or_t, or_f]); exact J23)
def cp21fF (M : sM) (n : Nat) : Int32 := (bif (bif (decide ((mA M 0 4) = 2)) then (bsF M n 4 false) else none).isSome then (bif (bif (decide ((mA M 0 1) = 2)) then (bsF M n 1 true) else none).isSome then ((0 + (-(mA M 14 (ovD (bif (decide ((mA M 0 4) = 2)) then (bsF M n 4 false) else none))))) + (mA M 14 (ovD (bif (decide ((mA M 0 1) = 2)) then (bsF M n 1 true) else none)))) else (-10000)) else (-10000))
set_option maxHeartbeats 4000000 in
set_option maxRecDepth 10000 in
theorem c81_21f {t : sT} {Q : sRs → sT → Prop} {M : sM} {n : Nat} {T : Nat}
    (hM : Rl t M n T)
    (hc : Sf t M n T)
    (hR : Ri M n)
    (hC : rlC t M n)
    (q : Q (.inl (some (.inl (cp21fF M n)))) t) :
    X 81 0 [.inr (.inr (10, (some 0))), .inr (.inr (1, (some 2))), .inl 1, .inl (bz false), sJk, sJk, sJk, sJk] [] t Q := by
  refine x_aload_n (pc' := 1) rfl rfl rfl rfl rfl ?_
  refine x_aload_n (pc' := 2) rfl rfl rfl rfl rfl ?_
  refine x_iload_n (pc' := 3) rfl rfl rfl ?_
  refine x_iconst (pc' := 4) rfl rfl ?_
  refine x_cv (ls0 := [_, _, _, _, sJk, sJk]) (rest := []) rfl rfl rfl rfl rfl ?_
  refine x_aload_n (pc' := 1) rfl rfl rfl rfl rfl ?_
  refine x_gI (pc' := 4) (x := 2) rfl rfl rfl (kI_64_2 hc.1) ?_
  refine x_iconst (pc' := 5) rfl rfl ?_
  refine x_imul (pc' := 6) (z := 6) rfl rfl (by decide) ?_
  refine x_iload_n (pc' := 7) rfl rfl rfl ?_
  refine x_iadd (pc' := 8) (z := 7) rfl rfl (by decide) ?_
  refine x_iconst (pc' := 9) rfl rfl ?_
  refine x_imul (pc' := 10) (z := 21) rfl rfl (by decide) ?_
  refine x_iload_n (pc' := 11) rfl rfl rfl ?_
  refine x_iadd (pc' := 12) (z := 21) rfl rfl (by decide) ?_
  refine x_istore (pc' := 14) (ls' := [_, _, _, _, _, _]) rfl rfl rfl rfl ?_
  refine x_iload_n (pc' := 15) rfl rfl rfl ?_
  refine x_if (a' := 36) (pc' := 18) (z := false) rfl rfl rfl (by decide) (fun h => by cases h) (fun _ => ?_)
  refine x_iload_n (pc' := 19) rfl rfl rfl ?_
  refine x_iconst (pc' := 20) rfl rfl ?_
  refine x_icmp (a' := 36) (pc' := 23) (z := false) rfl rfl rfl (by decide) (fun h => by cases h) (fun _ => ?_)
  refine x_iload_n (pc' := 24) rfl rfl rfl ?_
  refine x_if (a' := 36) (pc' := 27) (z := false) rfl rfl rfl (by decide) (fun h => by cases h) (fun _ => ?_)
  refine x_iload_n (pc' := 28) rfl rfl rfl ?_
  refine x_iconst (pc' := 29) rfl rfl ?_
  refine x_icmp (a' := 36) (pc' := 32) (z := false) rfl rfl rfl (by decide) (fun h => by cases h) (fun _ => ?_)
  refine x_iconst (pc' := 33) rfl rfl ?_
  refine x_goto (pc' := 37) rfl rfl ?_
  refine x_istore (pc' := 39) (ls' := [_, _, _, _, _, _]) rfl rfl rfl rfl ?_
  refine x_iload (pc' := 41) rfl rfl rfl ?_
  refine x_if (a' := 67) (pc' := 44) (z := false) rfl rfl rfl (by decide) (fun h => by cases h) (fun _ => ?_)
  refine x_iload (pc' := 46) rfl rfl rfl ?_
  refine x_if (a' := 67) (pc' := 49) (z := false) rfl rfl rfl (by decide) (fun h => by cases h) (fun _ => ?_)
  refine x_iload (pc' := 51) rfl rfl rfl ?_
  refine x_getstatic (pc' := 54) rfl rfl (show 0 < sC t 28 from gst0 hc.1) ?_
  refine x_alen (pc' := 55) (N := 45) rfl rfl rfl (kN_28_0 hc.1) (?_ : X _ _ _ (.inl 45 :: _) _ _)
  refine x_icmp (a' := 67) (pc' := 58) (z := false) rfl rfl rfl (by decide) (fun h => by cases h) (fun _ => ?_)
  refine x_getstatic (pc' := 61) rfl rfl (show 0 < sC t 28 from gst0 hc.1) ?_
  refine x_iload (pc' := 63) rfl rfl rfl ?_
  refine x_iald (pc' := 64) (N := 45) (x := (-5)) rfl rfl rfl (kN_28_0 hc.1) (io_in (p := 21) (N := 45) (by decide) (by decide)) (Eq.trans (congrArg (sA t 28 0) (nn_io (p := 21) (by decide))) ((hc.1.2.2.2.2.2 21).1.trans rfl)) ?_
  refine x_goto (pc' := 68) rfl rfl ?_
  refine x_reti rfl rfl ?_
  refine sK_i (pc' := 7) rfl ?_
  refine x_if (a' := 14) (pc' := 10) (z := true) rfl rfl rfl (by decide) (fun _ => ?_) (fun h => by cases h)
  refine x_iconst (pc' := 15) rfl rfl ?_
  refine x_istore (pc' := 17) (ls' := [_, _, _, _, _, _, _, _]) rfl rfl rfl rfl ?_
  refine x_iconst (pc' := 18) rfl rfl ?_
  refine x_istore (pc' := 20) (ls' := [_, _, _, _, _, _, _, _]) rfl rfl rfl rfl ?_
  refine x_iload (pc' := 22) rfl rfl rfl ?_
  refine x_iconst (pc' := 23) rfl rfl ?_
  refine x_icmp (a' := 89) (pc' := 26) (z := false) rfl rfl rfl (by decide) (fun h => by cases h) (fun _ => ?_)
  refine x_aload_n (pc' := 27) rfl rfl rfl rfl rfl ?_
  refine x_aload_n (pc' := 28) rfl rfl rfl rfl rfl ?_
  refine x_iload_n (pc' := 29) rfl rfl rfl ?_
  refine x_iload (pc' := 31) rfl rfl rfl ?_
  refine x_cv (ls0 := [_, _, _, _, sJk, sJk]) (rest := []) rfl rfl rfl rfl rfl ?_
  refine x_aload_n (pc' := 1) rfl rfl rfl rfl rfl ?_
  refine x_gI (pc' := 4) (x := 2) rfl rfl rfl (kI_64_2 hc.1) ?_
  refine x_iconst (pc' := 5) rfl rfl ?_
  refine x_imul (pc' := 6) (z := 6) rfl rfl (by decide) ?_
  refine x_iload_n (pc' := 7) rfl rfl rfl ?_
  refine x_iadd (pc' := 8) (z := 7) rfl rfl (by decide) ?_
  refine x_iconst (pc' := 9) rfl rfl ?_
  refine x_imul (pc' := 10) (z := 21) rfl rfl (by decide) ?_
  refine x_iload_n (pc' := 11) rfl rfl rfl ?_
  refine x_iadd (pc' := 12) (z := 21) rfl rfl (by decide) ?_
  refine x_istore (pc' := 14) (ls' := [_, _, _, _, _, _]) rfl rfl rfl rfl ?_
  refine x_iload_n (pc' := 15) rfl rfl rfl ?_
  refine x_if (a' := 36) (pc' := 18) (z := false) rfl rfl rfl (by decide) (fun h => by cases h) (fun _ => ?_)
  refine x_iload_n (pc' := 19) rfl rfl rfl ?_
  refine x_iconst (pc' := 20) rfl rfl ?_
  refine x_icmp (a' := 36) (pc' := 23) (z := false) rfl rfl rfl (by decide) (fun h => by cases h) (fun _ => ?_)
  refine x_iload_n (pc' := 24) rfl rfl rfl ?_
  refine x_if (a' := 36) (pc' := 27) (z := false) rfl rfl rfl (by decide) (fun h => by cases h) (fun _ => ?_)
  refine x_iload_n (pc' := 28) rfl rfl rfl ?_
  refine x_iconst (pc' := 29) rfl rfl ?_
  refine x_icmp (a' := 36) (pc' := 32) (z := false) rfl rfl rfl (by decide) (fun h => by cases h) (fun _ => ?_)
  refine x_iconst (pc' := 33) rfl rfl ?_
  refine x_goto (pc' := 37) rfl rfl ?_
  refine x_istore (pc' := 39) (ls' := [_, _, _, _, _, _]) rfl rfl rfl rfl ?_
  refine x_iload (pc' := 41) rfl rfl rfl ?_
  refine x_if (a' := 67) (pc' := 44) (z := false) rfl rfl rfl (by decide) (fun h => by cases h) (fun _ => ?_)
  refine x_iload (pc' := 46) rfl rfl rfl ?_
  refine x_if (a' := 67) (pc' := 49) (z := false) rfl rfl rfl (by decide) (fun h => by cases h) (fun _ => ?_)
  refine x_iload (pc' := 51) rfl rfl rfl ?_
  refine x_getstatic (pc' := 54) rfl rfl (show 0 < sC t 28 from gst0 hc.1) ?_
  refine x_alen (pc' := 55) (N := 45) rfl rfl rfl (kN_28_0 hc.1) (?_ : X _ _ _ (.inl 45 :: _) _ _)
  refine x_icmp (a' := 67) (pc' := 58) (z := false) rfl rfl rfl (by decide) (fun h => by cases h) (fun _ => ?_)
  refine x_getstatic (pc' := 61) rfl rfl (show 0 < sC t 28 from gst0 hc.1) ?_
  refine x_iload (pc' := 63) rfl rfl rfl ?_
  refine x_iald (pc' := 64) (N := 45) (x := (-5)) rfl rfl rfl (kN_28_0 hc.1) (io_in (p := 21) (N := 45) (by decide) (by decide)) (Eq.trans (congrArg (sA t 28 0) (nn_io (p := 21) (by decide))) ((hc.1.2.2.2.2.2 21).1.trans rfl)) ?_
  refine x_goto (pc' := 68) rfl rfl ?_
  refine x_reti rfl rfl ?_
  refine sK_i (pc' := 34) rfl ?_
  refine x_istore (pc' := 36) (ls' := [_, _, _, _, _, _, _, _]) rfl rfl rfl rfl ?_
  refine x_iload (pc' := 38) rfl rfl rfl ?_
  refine x_if (a' := 83) (pc' := 41) (z := false) rfl rfl rfl (by decide) (fun h => by cases h) (fun _ => ?_)
  refine x_aload_n (pc' := 42) rfl rfl rfl rfl rfl ?_
  refine x_iload (pc' := 44) rfl rfl rfl ?_
  refine x_iload_n (pc' := 45) rfl rfl rfl ?_
  refine x_cv (ls0 := [_, _, _, sJk]) (rest := []) rfl rfl rfl rfl rfl ?_
  refine x_iload_n (pc' := 1) rfl rfl rfl ?_
  refine x_abs (pc' := 4) (z := 5) rfl rfl rfl (by decide) ?_
  refine x_iconst (pc' := 5) rfl rfl ?_
  refine x_isub (pc' := 6) (z := 4) rfl rfl (by decide) ?_
  refine x_istore_n (pc' := 7) (ls' := [_, _, _, _]) rfl rfl rfl rfl ?_
  refine x_iload_n (pc' := 8) rfl rfl rfl ?_
  refine x_if (a' := 33) (pc' := 11) (z := false) rfl rfl rfl (by decide) (fun h => by cases h) (fun _ => ?_)
  refine x_iload_n (pc' := 12) rfl rfl rfl ?_
  refine x_aload_n (pc' := 13) rfl rfl rfl rfl rfl ?_
  refine x_gR (pc' := 16) (r := (some 0)) rfl rfl rfl (kR_640_0 hc.1) ?_
  refine x_alen (pc' := 17) (N := 5) rfl rfl rfl (kN_24_0 hc.1) (?_ : X _ _ _ (.inl 5 :: _) _ _)
  refine x_icmp (a' := 33) (pc' := 20) (z := false) rfl rfl rfl (by decide) (fun h => by cases h) (fun _ => ?_)
  refine x_aload_n (pc' := 21) rfl rfl rfl rfl rfl ?_
  refine x_gR (pc' := 24) (r := (some 0)) rfl rfl rfl (kR_640_0 hc.1) ?_
  refine x_iload_n (pc' := 25) rfl rfl rfl ?_
  refine x_aald (pc' := 26) (N := 5) (k' := 1) (r := (some 4)) rfl rfl rfl (kN_24_0 hc.1) (io_in (p := 4) (N := 5) (by decide) (by decide)) (Eq.trans (congrArg (sE t 24 0) (nn_io (p := 4) (by decide))) (kB hc.1 (by decide))) ?_
  refine x_gI (pc' := 29) (x := (mA M 0 4)) rfl rfl rfl (kA hM rfl (show 4 < 5 by decide)) ?_
  refine x_iconst (pc' := 30) rfl rfl ?_
  have J22 : ((sK 79 81 45 [.inr (.inr (10, (some 0))), .inr (.inr (1, (some 2))), .inl 1, .inl (bz false), .inl 0, .inl 0, .inl (-5), sJk] [] Q) : sRs → sT → Prop) (.inl (some (.inr (.inr (8, (bif (decide ((mA M 0 4) = 2)) then (bsF M n 4 false) else none)))))) t := by
    refine sK_i (pc' := 48) rfl ?_
    refine x_astore (pc' := 50) (ls' := [_, _, _, _, _, _, _, _]) rfl rfl rfl rfl rfl ?_
    refine x_aload (pc' := 52) rfl rfl rfl rfl rfl ?_
    refine x_ifnonnull (a' := 59) (pc' := 55) rfl rfl rfl rfl (fun j0 q24 => ?_) (fun q24 => ?_)
    · refine x_iload (pc' := 61) rfl rfl rfl ?_
      refine x_iload (pc' := 63) rfl rfl rfl ?_
      refine x_if (a' := 74) (pc' := 66) (z := true) rfl rfl rfl (by decide) (fun _ => ?_) (fun h => by cases h)
      refine x_aload (pc' := 76) rfl rfl rfl rfl (ovD_s q24) ?_
      refine x_gI (pc' := 79) (x := (mA M 14 (ovD (bif (decide ((mA M 0 4) = 2)) then (bsF M n 4 false) else none)))) rfl rfl rfl ((kA hM rfl (ovD_lt (obd_c bsF_lt obd_n) q24)).trans (congrFun (Fc.f14 (Fc.refl _)) _)) ?_
      refine x_ineg (pc' := 80) rfl rfl rfl ?_
      refine x_iadd (pc' := 81) (z := (0 + (-(mA M 14 (ovD (bif (decide ((mA M 0 4) = 2)) then (bsF M n 4 false) else none)))))) rfl rfl rfl ?_
      refine x_istore (pc' := 83) (ls' := [_, _, _, _, _, _, _, _]) rfl rfl rfl rfl ?_
      refine x_iinc (pc' := 86) (y := 1) (ls' := [_, _, _, _, _, _, _, _]) rfl rfl rfl rfl rfl ?_
      refine x_goto (pc' := 20) rfl rfl ?_
      refine x_iload (pc' := 22) rfl rfl rfl ?_
      refine x_iconst (pc' := 23) rfl rfl ?_
      refine x_icmp (a' := 89) (pc' := 26) (z := false) rfl rfl rfl (by decide) (fun h => by cases h) (fun _ => ?_)
      refine x_aload_n (pc' := 27) rfl rfl rfl rfl rfl ?_
      refine x_aload_n (pc' := 28) rfl rfl rfl rfl rfl ?_
      refine x_iload_n (pc' := 29) rfl rfl rfl ?_
      refine x_iload (pc' := 31) rfl rfl rfl ?_
      refine x_cv (ls0 := [_, _, _, _, sJk, sJk]) (rest := []) rfl rfl rfl rfl rfl ?_
      refine x_aload_n (pc' := 1) rfl rfl rfl rfl rfl ?_
      refine x_gI (pc' := 4) (x := 2) rfl rfl rfl (kI_64_2 hc.1) ?_
      refine x_iconst (pc' := 5) rfl rfl ?_
      refine x_imul (pc' := 6) (z := 6) rfl rfl (by decide) ?_
      refine x_iload_n (pc' := 7) rfl rfl rfl ?_
      refine x_iadd (pc' := 8) (z := 7) rfl rfl (by decide) ?_
      refine x_iconst (pc' := 9) rfl rfl ?_
      refine x_imul (pc' := 10) (z := 21) rfl rfl (by decide) ?_
      refine x_iload_n (pc' := 11) rfl rfl rfl ?_
      refine x_iadd (pc' := 12) (z := 22) rfl rfl (by decide) ?_
      refine x_istore (pc' := 14) (ls' := [_, _, _, _, _, _]) rfl rfl rfl rfl ?_
      refine x_iload_n (pc' := 15) rfl rfl rfl ?_
      refine x_if (a' := 36) (pc' := 18) (z := false) rfl rfl rfl (by decide) (fun h => by cases h) (fun _ => ?_)
      refine x_iload_n (pc' := 19) rfl rfl rfl ?_
      refine x_iconst (pc' := 20) rfl rfl ?_
      refine x_icmp (a' := 36) (pc' := 23) (z := false) rfl rfl rfl (by decide) (fun h => by cases h) (fun _ => ?_)
      refine x_iload_n (pc' := 24) rfl rfl rfl ?_
      refine x_if (a' := 36) (pc' := 27) (z := false) rfl rfl rfl (by decide) (fun h => by cases h) (fun _ => ?_)
      refine x_iload_n (pc' := 28) rfl rfl rfl ?_
      refine x_iconst (pc' := 29) rfl rfl ?_
      refine x_icmp (a' := 36) (pc' := 32) (z := false) rfl rfl rfl (by decide) (fun h => by cases h) (fun _ => ?_)
      refine x_iconst (pc' := 33) rfl rfl ?_
      refine x_goto (pc' := 37) rfl rfl ?_
      refine x_istore (pc' := 39) (ls' := [_, _, _, _, _, _]) rfl rfl rfl rfl ?_
      refine x_iload (pc' := 41) rfl rfl rfl ?_
      refine x_if (a' := 67) (pc' := 44) (z := false) rfl rfl rfl (by decide) (fun h => by cases h) (fun _ => ?_)
      refine x_iload (pc' := 46) rfl rfl rfl ?_
      refine x_if (a' := 67) (pc' := 49) (z := false) rfl rfl rfl (by decide) (fun h => by cases h) (fun _ => ?_)
      refine x_iload (pc' := 51) rfl rfl rfl ?_
      refine x_getstatic (pc' := 54) rfl rfl (show 0 < sC t 28 from gst0 hc.1) ?_
      refine x_alen (pc' := 55) (N := 45) rfl rfl rfl (kN_28_0 hc.1) (?_ : X _ _ _ (.inl 45 :: _) _ _)
      refine x_icmp (a' := 67) (pc' := 58) (z := false) rfl rfl rfl (by decide) (fun h => by cases h) (fun _ => ?_)
      refine x_getstatic (pc' := 61) rfl rfl (show 0 < sC t 28 from gst0 hc.1) ?_
      refine x_iload (pc' := 63) rfl rfl rfl ?_
      refine x_iald (pc' := 64) (N := 45) (x := 2) rfl rfl rfl (kN_28_0 hc.1) (io_in (p := 22) (N := 45) (by decide) (by decide)) (Eq.trans (congrArg (sA t 28 0) (nn_io (p := 22) (by decide))) ((hc.1.2.2.2.2.2 22).1.trans rfl)) ?_
      refine x_goto (pc' := 68) rfl rfl ?_
      refine x_reti rfl rfl ?_
      refine sK_i (pc' := 34) rfl ?_
      refine x_istore (pc' := 36) (ls' := [_, _, _, _, _, _, _, _]) rfl rfl rfl rfl ?_
      refine x_iload (pc' := 38) rfl rfl rfl ?_
      refine x_if (a' := 83) (pc' := 41) (z := false) rfl rfl rfl (by decide) (fun h => by cases h) (fun _ => ?_)
      refine x_aload_n (pc' := 42) rfl rfl rfl rfl rfl ?_
      refine x_iload (pc' := 44) rfl rfl rfl ?_
      refine x_iload_n (pc' := 45) rfl rfl rfl ?_
      refine x_cv (ls0 := [_, _, _, sJk]) (rest := []) rfl rfl rfl rfl rfl ?_
      refine x_iload_n (pc' := 1) rfl rfl rfl ?_
      refine x_abs (pc' := 4) (z := 2) rfl rfl rfl (by decide) ?_
      refine x_iconst (pc' := 5) rfl rfl ?_
      refine x_isub (pc' := 6) (z := 1) rfl rfl (by decide) ?_
      refine x_istore_n (pc' := 7) (ls' := [_, _, _, _]) rfl rfl rfl rfl ?_
      refine x_iload_n (pc' := 8) rfl rfl rfl ?_
      refine x_if (a' := 33) (pc' := 11) (z := false) rfl rfl rfl (by decide) (fun h => by cases h) (fun _ => ?_)
      refine x_iload_n (pc' := 12) rfl rfl rfl ?_
      refine x_aload_n (pc' := 13) rfl rfl rfl rfl rfl ?_
      refine x_gR (pc' := 16) (r := (some 0)) rfl rfl rfl (kR_640_0 hc.1) ?_
      refine x_alen (pc' := 17) (N := 5) rfl rfl rfl (kN_24_0 hc.1) (?_ : X _ _ _ (.inl 5 :: _) _ _)
      refine x_icmp (a' := 33) (pc' := 20) (z := false) rfl rfl rfl (by decide) (fun h => by cases h) (fun _ => ?_)
      refine x_aload_n (pc' := 21) rfl rfl rfl rfl rfl ?_
      refine x_gR (pc' := 24) (r := (some 0)) rfl rfl rfl (kR_640_0 hc.1) ?_
      refine x_iload_n (pc' := 25) rfl rfl rfl ?_
      refine x_aald (pc' := 26) (N := 5) (k' := 1) (r := (some 1)) rfl rfl rfl (kN_24_0 hc.1) (io_in (p := 1) (N := 5) (by decide) (by decide)) (Eq.trans (congrArg (sE t 24 0) (nn_io (p := 1) (by decide))) (kB hc.1 (by decide))) ?_
      refine x_gI (pc' := 29) (x := (mA M 0 1)) rfl rfl rfl (kA hM rfl (show 1 < 5 by decide)) ?_
      refine x_iconst (pc' := 30) rfl rfl ?_
      have J40 : ((sK 79 81 45 [.inr (.inr (10, (some 0))), .inr (.inr (1, (some 2))), .inl 1, .inl (bz false), .inl (0 + (-(mA M 14 (ovD (bif (decide ((mA M 0 4) = 2)) then (bsF M n 4 false) else none))))), .inl 1, .inl 2, .inr (.inr (8, (bif (decide ((mA M 0 4) = 2)) then (bsF M n 4 false) else none)))] [] Q) : sRs → sT → Prop) (.inl (some (.inr (.inr (8, (bif (decide ((mA M 0 1) = 2)) then (bsF M n 1 true) else none)))))) t := by
        refine sK_i (pc' := 48) rfl ?_
        refine x_astore (pc' := 50) (ls' := [_, _, _, _, _, _, _, _]) rfl rfl rfl rfl rfl ?_
        refine x_aload (pc' := 52) rfl rfl rfl rfl rfl ?_
        refine x_ifnonnull (a' := 59) (pc' := 55) rfl rfl rfl rfl (fun j1 q42 => ?_) (fun q42 => ?_)
        · refine x_iload (pc' := 61) rfl rfl rfl ?_
          refine x_iload (pc' := 63) rfl rfl rfl ?_
          refine x_if (a' := 74) (pc' := 66) (z := false) rfl rfl rfl (by decide) (fun h => by cases h) (fun _ => ?_)
          refine x_aload (pc' := 68) rfl rfl rfl rfl (ovD_s q42) ?_
          refine x_gI (pc' := 71) (x := (mA M 14 (ovD (bif (decide ((mA M 0 1) = 2)) then (bsF M n 1 true) else none)))) rfl rfl rfl ((kA hM rfl (ovD_lt (obd_c bsF_lt obd_n) q42)).trans (congrFun (Fc.f14 (Fc.refl _)) _)) ?_
          refine x_goto (pc' := 80) rfl rfl ?_
          refine x_iadd (pc' := 81) (z := ((0 + (-(mA M 14 (ovD (bif (decide ((mA M 0 4) = 2)) then (bsF M n 4 false) else none))))) + (mA M 14 (ovD (bif (decide ((mA M 0 1) = 2)) then (bsF M n 1 true) else none))))) rfl rfl rfl ?_
          refine x_istore (pc' := 83) (ls' := [_, _, _, _, _, _, _, _]) rfl rfl rfl rfl ?_
          refine x_iinc (pc' := 86) (y := 2) (ls' := [_, _, _, _, _, _, _, _]) rfl rfl rfl rfl rfl ?_
          refine x_goto (pc' := 20) rfl rfl ?_
          refine x_iload (pc' := 22) rfl rfl rfl ?_
          refine x_iconst (pc' := 23) rfl rfl ?_
          refine x_icmp (a' := 89) (pc' := 26) (z := false) rfl rfl rfl (by decide) (fun h => by cases h) (fun _ => ?_)
          refine x_aload_n (pc' := 27) rfl rfl rfl rfl rfl ?_
          refine x_aload_n (pc' := 28) rfl rfl rfl rfl rfl ?_
          refine x_iload_n (pc' := 29) rfl rfl rfl ?_
          refine x_iload (pc' := 31) rfl rfl rfl ?_
          refine x_cv (ls0 := [_, _, _, _, sJk, sJk]) (rest := []) rfl rfl rfl rfl rfl ?_
          refine x_aload_n (pc' := 1) rfl rfl rfl rfl rfl ?_
          refine x_gI (pc' := 4) (x := 2) rfl rfl rfl (kI_64_2 hc.1) ?_
          refine x_iconst (pc' := 5) rfl rfl ?_
          refine x_imul (pc' := 6) (z := 6) rfl rfl (by decide) ?_
          refine x_iload_n (pc' := 7) rfl rfl rfl ?_
          refine x_iadd (pc' := 8) (z := 7) rfl rfl (by decide) ?_
          refine x_iconst (pc' := 9) rfl rfl ?_
          refine x_imul (pc' := 10) (z := 21) rfl rfl (by decide) ?_
          refine x_iload_n (pc' := 11) rfl rfl rfl ?_
          refine x_iadd (pc' := 12) (z := 23) rfl rfl (by decide) ?_
          refine x_istore (pc' := 14) (ls' := [_, _, _, _, _, _]) rfl rfl rfl rfl ?_
          refine x_iload_n (pc' := 15) rfl rfl rfl ?_
          refine x_if (a' := 36) (pc' := 18) (z := false) rfl rfl rfl (by decide) (fun h => by cases h) (fun _ => ?_)
          refine x_iload_n (pc' := 19) rfl rfl rfl ?_
          refine x_iconst (pc' := 20) rfl rfl ?_
          refine x_icmp (a' := 36) (pc' := 23) (z := false) rfl rfl rfl (by decide) (fun h => by cases h) (fun _ => ?_)
          refine x_iload_n (pc' := 24) rfl rfl rfl ?_
          refine x_if (a' := 36) (pc' := 27) (z := false) rfl rfl rfl (by decide) (fun h => by cases h) (fun _ => ?_)
          refine x_iload_n (pc' := 28) rfl rfl rfl ?_
          refine x_iconst (pc' := 29) rfl rfl ?_
          refine x_icmp (a' := 36) (pc' := 32) (z := false) rfl rfl rfl (by decide) (fun h => by cases h) (fun _ => ?_)
          refine x_iconst (pc' := 33) rfl rfl ?_
          refine x_goto (pc' := 37) rfl rfl ?_
          refine x_istore (pc' := 39) (ls' := [_, _, _, _, _, _]) rfl rfl rfl rfl ?_
          refine x_iload (pc' := 41) rfl rfl rfl ?_
          refine x_if (a' := 67) (pc' := 44) (z := false) rfl rfl rfl (by decide) (fun h => by cases h) (fun _ => ?_)
          refine x_iload (pc' := 46) rfl rfl rfl ?_
          refine x_if (a' := 67) (pc' := 49) (z := false) rfl rfl rfl (by decide) (fun h => by cases h) (fun _ => ?_)
          refine x_iload (pc' := 51) rfl rfl rfl ?_
          refine x_getstatic (pc' := 54) rfl rfl (show 0 < sC t 28 from gst0 hc.1) ?_
          refine x_alen (pc' := 55) (N := 45) rfl rfl rfl (kN_28_0 hc.1) (?_ : X _ _ _ (.inl 45 :: _) _ _)
          refine x_icmp (a' := 67) (pc' := 58) (z := false) rfl rfl rfl (by decide) (fun h => by cases h) (fun _ => ?_)
          refine x_getstatic (pc' := 61) rfl rfl (show 0 < sC t 28 from gst0 hc.1) ?_
          refine x_iload (pc' := 63) rfl rfl rfl ?_
          refine x_iald (pc' := 64) (N := 45) (x := 0) rfl rfl rfl (kN_28_0 hc.1) (io_in (p := 23) (N := 45) (by decide) (by decide)) (Eq.trans (congrArg (sA t 28 0) (nn_io (p := 23) (by decide))) ((hc.1.2.2.2.2.2 23).1.trans rfl)) ?_
          refine x_goto (pc' := 68) rfl rfl ?_
          refine x_reti rfl rfl ?_
          refine sK_i (pc' := 34) rfl ?_
          refine x_istore (pc' := 36) (ls' := [_, _, _, _, _, _, _, _]) rfl rfl rfl rfl ?_
          refine x_iload (pc' := 38) rfl rfl rfl ?_
          refine x_if (a' := 83) (pc' := 41) (z := true) rfl rfl rfl (by decide) (fun _ => ?_) (fun h => by cases h)
          refine x_iinc (pc' := 86) (y := 3) (ls' := [_, _, _, _, _, _, _, _]) rfl rfl rfl rfl rfl ?_
          refine x_goto (pc' := 20) rfl rfl ?_
          refine x_iload (pc' := 22) rfl rfl rfl ?_
          refine x_iconst (pc' := 23) rfl rfl ?_
          refine x_icmp (a' := 89) (pc' := 26) (z := true) rfl rfl rfl (by decide) (fun _ => ?_) (fun h => by cases h)
          refine x_iload (pc' := 91) rfl rfl rfl ?_
          refine x_reti rfl rfl ?_
          exact qv (by simp only [cp21fF, (isSome_s q24), (isSome_s q42), cd_t, cd_f]) (q )
        · refine x_sipush (pc' := 58) rfl rfl ?_
          refine x_reti rfl rfl ?_
          exact qv (by simp only [cp21fF, (isSome_s q24), (isSome_n q42), cd_t, cd_f]) (q )
      refine x_icmp (a' := 35) (pc' := 33) (z := decide ((mA M 0 1) = 2)) rfl rfl rfl rfl (fun q37 => ?_) (fun q37 => ?_)
      · refine x_aload_n (pc' := 36) rfl rfl rfl rfl rfl ?_
        refine x_gR (pc' := 39) (r := (some 0)) rfl rfl rfl (kR_640_0 hc.1) ?_
        refine x_iload_n (pc' := 40) rfl rfl rfl ?_
        refine x_aald (pc' := 41) (N := 5) (k' := 1) (r := (some 1)) rfl rfl rfl (kN_24_0 hc.1) (io_in (p := 1) (N := 5) (by decide) (by decide)) (Eq.trans (congrArg (sE t 24 0) (nn_io (p := 1) (by decide))) (kB hc.1 (by decide))) ?_
        refine x_iload_n (pc' := 42) rfl rfl rfl ?_
        refine x_if (a' := 57) (pc' := 45) (z := false) rfl rfl rfl (by decide) (fun h => by cases h) (fun _ => ?_)
        refine x_iload_n (pc' := 46) rfl rfl rfl ?_
        refine x_if (a' := 53) (pc' := 49) (z := false) rfl rfl rfl (by decide) (fun h => by cases h) (fun _ => ?_)
        refine x_iconst (pc' := 50) rfl rfl ?_
        refine x_goto (pc' := 58) rfl rfl ?_
        refine x_cv (ls0 := [_, _]) (rest := []) rfl rfl rfl rfl rfl ?_
        refine x_iload_n (pc' := 1) rfl rfl rfl ?_
        refine x_if (a' := 11) (pc' := 4) (z := false) rfl rfl rfl (by decide) (fun h => by cases h) (fun _ => ?_)
        refine x_aload_n (pc' := 5) rfl rfl rfl rfl rfl ?_
        refine x_gR (pc' := 8) (r := (bsF M n 1 true)) rfl rfl rfl (bs_69 hC (Fc.ri (Fc.refl _) hR) hM (by decide)) ?_
        refine x_goto (pc' := 15) rfl rfl ?_
        refine x_reta rfl rfl ?_
        refine sK_i (pc' := 61) rfl ?_
        refine x_reta rfl rfl ?_
        ((try rw [q37] at J40); (try rw [q37]); (try simp only [cd_t, cd_f, nt_t, nt_f, an_t, an_f, or_t, or_f] at J40); (try simp only [cd_t, cd_f, nt_t, nt_f, an_t, an_f, or_t, or_f]); exact J40)
      · refine x_null (pc' := 34) rfl rfl rfl ?_
        refine x_reta rfl rfl ?_
        ((try rw [q37] at J40); (try rw [q37]); (try simp only [cd_t, cd_f, nt_t, nt_f, an_t, an_f, or_t, or_f] at J40); (try simp only [cd_t, cd_f, nt_t, nt_f, an_t, an_f, or_t, or_f]); exact J40)
    · refine x_sipush (pc' := 58) rfl rfl ?_
      refine x_reti rfl rfl ?_
      exact qv (by simp only [cp21fF, (isSome_n q24), cd_t, cd_f]) (q )
  refine x_icmp (a' := 35) (pc' := 33) (z := decide ((mA M 0 4) = 2)) rfl rfl rfl rfl (fun q20 => ?_) (fun q20 => ?_)
  · refine x_aload_n (pc' := 36) rfl rfl rfl rfl rfl ?_
    refine x_gR (pc' := 39) (r := (some 0)) rfl rfl rfl (kR_640_0 hc.1) ?_
    refine x_iload_n (pc' := 40) rfl rfl rfl ?_
    refine x_aald (pc' := 41) (N := 5) (k' := 1) (r := (some 4)) rfl rfl rfl (kN_24_0 hc.1) (io_in (p := 4) (N := 5) (by decide) (by decide)) (Eq.trans (congrArg (sE t 24 0) (nn_io (p := 4) (by decide))) (kB hc.1 (by decide))) ?_
    refine x_iload_n (pc' := 42) rfl rfl rfl ?_
    refine x_if (a' := 57) (pc' := 45) (z := true) rfl rfl rfl (by decide) (fun _ => ?_) (fun h => by cases h)
    refine x_iload_n (pc' := 58) rfl rfl rfl ?_
    refine x_cv (ls0 := [_, _]) (rest := []) rfl rfl rfl rfl rfl ?_
    refine x_iload_n (pc' := 1) rfl rfl rfl ?_
    refine x_if (a' := 11) (pc' := 4) (z := true) rfl rfl rfl (by decide) (fun _ => ?_) (fun h => by cases h)
    refine x_aload_n (pc' := 12) rfl rfl rfl rfl rfl ?_
    refine x_gR (pc' := 15) (r := (bsF M n 4 false)) rfl rfl rfl (bs_70 hC (Fc.ri (Fc.refl _) hR) hM (by decide)) ?_
    refine x_reta rfl rfl ?_
    refine sK_i (pc' := 61) rfl ?_
    refine x_reta rfl rfl ?_
    ((try rw [q20] at J22); (try rw [q20]); (try simp only [cd_t, cd_f, nt_t, nt_f, an_t, an_f, or_t, or_f] at J22); (try simp only [cd_t, cd_f, nt_t, nt_f, an_t, an_f, or_t, or_f]); exact J22)
  · refine x_null (pc' := 34) rfl rfl rfl ?_
    refine x_reta rfl rfl ?_
    ((try rw [q20] at J22); (try rw [q20]); (try simp only [cd_t, cd_f, nt_t, nt_f, an_t, an_f, or_t, or_f] at J22); (try simp only [cd_t, cd_f, nt_t, nt_f, an_t, an_f, or_t, or_f]); exact J22)
def cp21tF (M : sM) (n : Nat) : Int32 := (bif (bif (decide ((mA M 0 4) = 2)) then (bsF M n 4 true) else none).isSome then (bif (bif (decide ((mA M 0 1) = 2)) then (bsF M n 1 false) else none).isSome then ((0 + (-(mA M 14 (ovD (bif (decide ((mA M 0 4) = 2)) then (bsF M n 4 true) else none))))) + (mA M 14 (ovD (bif (decide ((mA M 0 1) = 2)) then (bsF M n 1 false) else none)))) else (-10000)) else (-10000))
set_option maxHeartbeats 4000000 in
set_option maxRecDepth 10000 in
theorem c81_21t {t : sT} {Q : sRs → sT → Prop} {M : sM} {n : Nat} {T : Nat}
    (hM : Rl t M n T)
    (hc : Sf t M n T)
    (hR : Ri M n)
    (hC : rlC t M n)
    (q : Q (.inl (some (.inl (cp21tF M n)))) t) :
    X 81 0 [.inr (.inr (10, (some 0))), .inr (.inr (1, (some 2))), .inl 1, .inl (bz true), sJk, sJk, sJk, sJk] [] t Q := by
  refine x_aload_n (pc' := 1) rfl rfl rfl rfl rfl ?_
  refine x_aload_n (pc' := 2) rfl rfl rfl rfl rfl ?_
  refine x_iload_n (pc' := 3) rfl rfl rfl ?_
  refine x_iconst (pc' := 4) rfl rfl ?_
  refine x_cv (ls0 := [_, _, _, _, sJk, sJk]) (rest := []) rfl rfl rfl rfl rfl ?_
  refine x_aload_n (pc' := 1) rfl rfl rfl rfl rfl ?_
  refine x_gI (pc' := 4) (x := 2) rfl rfl rfl (kI_64_2 hc.1) ?_
  refine x_iconst (pc' := 5) rfl rfl ?_
  refine x_imul (pc' := 6) (z := 6) rfl rfl (by decide) ?_
  refine x_iload_n (pc' := 7) rfl rfl rfl ?_
  refine x_iadd (pc' := 8) (z := 7) rfl rfl (by decide) ?_
  refine x_iconst (pc' := 9) rfl rfl ?_
  refine x_imul (pc' := 10) (z := 21) rfl rfl (by decide) ?_
  refine x_iload_n (pc' := 11) rfl rfl rfl ?_
  refine x_iadd (pc' := 12) (z := 21) rfl rfl (by decide) ?_
  refine x_istore (pc' := 14) (ls' := [_, _, _, _, _, _]) rfl rfl rfl rfl ?_
  refine x_iload_n (pc' := 15) rfl rfl rfl ?_
  refine x_if (a' := 36) (pc' := 18) (z := false) rfl rfl rfl (by decide) (fun h => by cases h) (fun _ => ?_)
  refine x_iload_n (pc' := 19) rfl rfl rfl ?_
  refine x_iconst (pc' := 20) rfl rfl ?_
  refine x_icmp (a' := 36) (pc' := 23) (z := false) rfl rfl rfl (by decide) (fun h => by cases h) (fun _ => ?_)
  refine x_iload_n (pc' := 24) rfl rfl rfl ?_
  refine x_if (a' := 36) (pc' := 27) (z := false) rfl rfl rfl (by decide) (fun h => by cases h) (fun _ => ?_)
  refine x_iload_n (pc' := 28) rfl rfl rfl ?_
  refine x_iconst (pc' := 29) rfl rfl ?_
  refine x_icmp (a' := 36) (pc' := 32) (z := false) rfl rfl rfl (by decide) (fun h => by cases h) (fun _ => ?_)
  refine x_iconst (pc' := 33) rfl rfl ?_
  refine x_goto (pc' := 37) rfl rfl ?_
  refine x_istore (pc' := 39) (ls' := [_, _, _, _, _, _]) rfl rfl rfl rfl ?_
  refine x_iload (pc' := 41) rfl rfl rfl ?_
  refine x_if (a' := 67) (pc' := 44) (z := false) rfl rfl rfl (by decide) (fun h => by cases h) (fun _ => ?_)
  refine x_iload (pc' := 46) rfl rfl rfl ?_
  refine x_if (a' := 67) (pc' := 49) (z := false) rfl rfl rfl (by decide) (fun h => by cases h) (fun _ => ?_)
  refine x_iload (pc' := 51) rfl rfl rfl ?_
  refine x_getstatic (pc' := 54) rfl rfl (show 0 < sC t 28 from gst0 hc.1) ?_
  refine x_alen (pc' := 55) (N := 45) rfl rfl rfl (kN_28_0 hc.1) (?_ : X _ _ _ (.inl 45 :: _) _ _)
  refine x_icmp (a' := 67) (pc' := 58) (z := false) rfl rfl rfl (by decide) (fun h => by cases h) (fun _ => ?_)
  refine x_getstatic (pc' := 61) rfl rfl (show 0 < sC t 28 from gst0 hc.1) ?_
  refine x_iload (pc' := 63) rfl rfl rfl ?_
  refine x_iald (pc' := 64) (N := 45) (x := (-5)) rfl rfl rfl (kN_28_0 hc.1) (io_in (p := 21) (N := 45) (by decide) (by decide)) (Eq.trans (congrArg (sA t 28 0) (nn_io (p := 21) (by decide))) ((hc.1.2.2.2.2.2 21).1.trans rfl)) ?_
  refine x_goto (pc' := 68) rfl rfl ?_
  refine x_reti rfl rfl ?_
  refine sK_i (pc' := 7) rfl ?_
  refine x_if (a' := 14) (pc' := 10) (z := true) rfl rfl rfl (by decide) (fun _ => ?_) (fun h => by cases h)
  refine x_iconst (pc' := 15) rfl rfl ?_
  refine x_istore (pc' := 17) (ls' := [_, _, _, _, _, _, _, _]) rfl rfl rfl rfl ?_
  refine x_iconst (pc' := 18) rfl rfl ?_
  refine x_istore (pc' := 20) (ls' := [_, _, _, _, _, _, _, _]) rfl rfl rfl rfl ?_
  refine x_iload (pc' := 22) rfl rfl rfl ?_
  refine x_iconst (pc' := 23) rfl rfl ?_
  refine x_icmp (a' := 89) (pc' := 26) (z := false) rfl rfl rfl (by decide) (fun h => by cases h) (fun _ => ?_)
  refine x_aload_n (pc' := 27) rfl rfl rfl rfl rfl ?_
  refine x_aload_n (pc' := 28) rfl rfl rfl rfl rfl ?_
  refine x_iload_n (pc' := 29) rfl rfl rfl ?_
  refine x_iload (pc' := 31) rfl rfl rfl ?_
  refine x_cv (ls0 := [_, _, _, _, sJk, sJk]) (rest := []) rfl rfl rfl rfl rfl ?_
  refine x_aload_n (pc' := 1) rfl rfl rfl rfl rfl ?_
  refine x_gI (pc' := 4) (x := 2) rfl rfl rfl (kI_64_2 hc.1) ?_
  refine x_iconst (pc' := 5) rfl rfl ?_
  refine x_imul (pc' := 6) (z := 6) rfl rfl (by decide) ?_
  refine x_iload_n (pc' := 7) rfl rfl rfl ?_
  refine x_iadd (pc' := 8) (z := 7) rfl rfl (by decide) ?_
  refine x_iconst (pc' := 9) rfl rfl ?_
  refine x_imul (pc' := 10) (z := 21) rfl rfl (by decide) ?_
  refine x_iload_n (pc' := 11) rfl rfl rfl ?_
  refine x_iadd (pc' := 12) (z := 21) rfl rfl (by decide) ?_
  refine x_istore (pc' := 14) (ls' := [_, _, _, _, _, _]) rfl rfl rfl rfl ?_
  refine x_iload_n (pc' := 15) rfl rfl rfl ?_
  refine x_if (a' := 36) (pc' := 18) (z := false) rfl rfl rfl (by decide) (fun h => by cases h) (fun _ => ?_)
  refine x_iload_n (pc' := 19) rfl rfl rfl ?_
  refine x_iconst (pc' := 20) rfl rfl ?_
  refine x_icmp (a' := 36) (pc' := 23) (z := false) rfl rfl rfl (by decide) (fun h => by cases h) (fun _ => ?_)
  refine x_iload_n (pc' := 24) rfl rfl rfl ?_
  refine x_if (a' := 36) (pc' := 27) (z := false) rfl rfl rfl (by decide) (fun h => by cases h) (fun _ => ?_)
  refine x_iload_n (pc' := 28) rfl rfl rfl ?_
  refine x_iconst (pc' := 29) rfl rfl ?_
  refine x_icmp (a' := 36) (pc' := 32) (z := false) rfl rfl rfl (by decide) (fun h => by cases h) (fun _ => ?_)
  refine x_iconst (pc' := 33) rfl rfl ?_
  refine x_goto (pc' := 37) rfl rfl ?_
  refine x_istore (pc' := 39) (ls' := [_, _, _, _, _, _]) rfl rfl rfl rfl ?_
  refine x_iload (pc' := 41) rfl rfl rfl ?_
  refine x_if (a' := 67) (pc' := 44) (z := false) rfl rfl rfl (by decide) (fun h => by cases h) (fun _ => ?_)
  refine x_iload (pc' := 46) rfl rfl rfl ?_
  refine x_if (a' := 67) (pc' := 49) (z := false) rfl rfl rfl (by decide) (fun h => by cases h) (fun _ => ?_)
  refine x_iload (pc' := 51) rfl rfl rfl ?_
  refine x_getstatic (pc' := 54) rfl rfl (show 0 < sC t 28 from gst0 hc.1) ?_
  refine x_alen (pc' := 55) (N := 45) rfl rfl rfl (kN_28_0 hc.1) (?_ : X _ _ _ (.inl 45 :: _) _ _)
  refine x_icmp (a' := 67) (pc' := 58) (z := false) rfl rfl rfl (by decide) (fun h => by cases h) (fun _ => ?_)
  refine x_getstatic (pc' := 61) rfl rfl (show 0 < sC t 28 from gst0 hc.1) ?_
  refine x_iload (pc' := 63) rfl rfl rfl ?_
  refine x_iald (pc' := 64) (N := 45) (x := (-5)) rfl rfl rfl (kN_28_0 hc.1) (io_in (p := 21) (N := 45) (by decide) (by decide)) (Eq.trans (congrArg (sA t 28 0) (nn_io (p := 21) (by decide))) ((hc.1.2.2.2.2.2 21).1.trans rfl)) ?_
  refine x_goto (pc' := 68) rfl rfl ?_
  refine x_reti rfl rfl ?_
  refine sK_i (pc' := 34) rfl ?_
  refine x_istore (pc' := 36) (ls' := [_, _, _, _, _, _, _, _]) rfl rfl rfl rfl ?_
  refine x_iload (pc' := 38) rfl rfl rfl ?_
  refine x_if (a' := 83) (pc' := 41) (z := false) rfl rfl rfl (by decide) (fun h => by cases h) (fun _ => ?_)
  refine x_aload_n (pc' := 42) rfl rfl rfl rfl rfl ?_
  refine x_iload (pc' := 44) rfl rfl rfl ?_
  refine x_iload_n (pc' := 45) rfl rfl rfl ?_
  refine x_cv (ls0 := [_, _, _, sJk]) (rest := []) rfl rfl rfl rfl rfl ?_
  refine x_iload_n (pc' := 1) rfl rfl rfl ?_
  refine x_abs (pc' := 4) (z := 5) rfl rfl rfl (by decide) ?_
  refine x_iconst (pc' := 5) rfl rfl ?_
  refine x_isub (pc' := 6) (z := 4) rfl rfl (by decide) ?_
  refine x_istore_n (pc' := 7) (ls' := [_, _, _, _]) rfl rfl rfl rfl ?_
  refine x_iload_n (pc' := 8) rfl rfl rfl ?_
  refine x_if (a' := 33) (pc' := 11) (z := false) rfl rfl rfl (by decide) (fun h => by cases h) (fun _ => ?_)
  refine x_iload_n (pc' := 12) rfl rfl rfl ?_
  refine x_aload_n (pc' := 13) rfl rfl rfl rfl rfl ?_
  refine x_gR (pc' := 16) (r := (some 0)) rfl rfl rfl (kR_640_0 hc.1) ?_
  refine x_alen (pc' := 17) (N := 5) rfl rfl rfl (kN_24_0 hc.1) (?_ : X _ _ _ (.inl 5 :: _) _ _)
  refine x_icmp (a' := 33) (pc' := 20) (z := false) rfl rfl rfl (by decide) (fun h => by cases h) (fun _ => ?_)
  refine x_aload_n (pc' := 21) rfl rfl rfl rfl rfl ?_
  refine x_gR (pc' := 24) (r := (some 0)) rfl rfl rfl (kR_640_0 hc.1) ?_
  refine x_iload_n (pc' := 25) rfl rfl rfl ?_
  refine x_aald (pc' := 26) (N := 5) (k' := 1) (r := (some 4)) rfl rfl rfl (kN_24_0 hc.1) (io_in (p := 4) (N := 5) (by decide) (by decide)) (Eq.trans (congrArg (sE t 24 0) (nn_io (p := 4) (by decide))) (kB hc.1 (by decide))) ?_
  refine x_gI (pc' := 29) (x := (mA M 0 4)) rfl rfl rfl (kA hM rfl (show 4 < 5 by decide)) ?_
  refine x_iconst (pc' := 30) rfl rfl ?_
  have J22 : ((sK 79 81 45 [.inr (.inr (10, (some 0))), .inr (.inr (1, (some 2))), .inl 1, .inl (bz true), .inl 0, .inl 0, .inl (-5), sJk] [] Q) : sRs → sT → Prop) (.inl (some (.inr (.inr (8, (bif (decide ((mA M 0 4) = 2)) then (bsF M n 4 true) else none)))))) t := by
    refine sK_i (pc' := 48) rfl ?_
    refine x_astore (pc' := 50) (ls' := [_, _, _, _, _, _, _, _]) rfl rfl rfl rfl rfl ?_
    refine x_aload (pc' := 52) rfl rfl rfl rfl rfl ?_
    refine x_ifnonnull (a' := 59) (pc' := 55) rfl rfl rfl rfl (fun j0 q24 => ?_) (fun q24 => ?_)
    · refine x_iload (pc' := 61) rfl rfl rfl ?_
      refine x_iload (pc' := 63) rfl rfl rfl ?_
      refine x_if (a' := 74) (pc' := 66) (z := true) rfl rfl rfl (by decide) (fun _ => ?_) (fun h => by cases h)
      refine x_aload (pc' := 76) rfl rfl rfl rfl (ovD_s q24) ?_
      refine x_gI (pc' := 79) (x := (mA M 14 (ovD (bif (decide ((mA M 0 4) = 2)) then (bsF M n 4 true) else none)))) rfl rfl rfl ((kA hM rfl (ovD_lt (obd_c bsF_lt obd_n) q24)).trans (congrFun (Fc.f14 (Fc.refl _)) _)) ?_
      refine x_ineg (pc' := 80) rfl rfl rfl ?_
      refine x_iadd (pc' := 81) (z := (0 + (-(mA M 14 (ovD (bif (decide ((mA M 0 4) = 2)) then (bsF M n 4 true) else none)))))) rfl rfl rfl ?_
      refine x_istore (pc' := 83) (ls' := [_, _, _, _, _, _, _, _]) rfl rfl rfl rfl ?_
      refine x_iinc (pc' := 86) (y := 1) (ls' := [_, _, _, _, _, _, _, _]) rfl rfl rfl rfl rfl ?_
      refine x_goto (pc' := 20) rfl rfl ?_
      refine x_iload (pc' := 22) rfl rfl rfl ?_
      refine x_iconst (pc' := 23) rfl rfl ?_
      refine x_icmp (a' := 89) (pc' := 26) (z := false) rfl rfl rfl (by decide) (fun h => by cases h) (fun _ => ?_)
      refine x_aload_n (pc' := 27) rfl rfl rfl rfl rfl ?_
      refine x_aload_n (pc' := 28) rfl rfl rfl rfl rfl ?_
      refine x_iload_n (pc' := 29) rfl rfl rfl ?_
      refine x_iload (pc' := 31) rfl rfl rfl ?_
      refine x_cv (ls0 := [_, _, _, _, sJk, sJk]) (rest := []) rfl rfl rfl rfl rfl ?_
      refine x_aload_n (pc' := 1) rfl rfl rfl rfl rfl ?_
      refine x_gI (pc' := 4) (x := 2) rfl rfl rfl (kI_64_2 hc.1) ?_
      refine x_iconst (pc' := 5) rfl rfl ?_
      refine x_imul (pc' := 6) (z := 6) rfl rfl (by decide) ?_
      refine x_iload_n (pc' := 7) rfl rfl rfl ?_
      refine x_iadd (pc' := 8) (z := 7) rfl rfl (by decide) ?_
      refine x_iconst (pc' := 9) rfl rfl ?_
      refine x_imul (pc' := 10) (z := 21) rfl rfl (by decide) ?_
      refine x_iload_n (pc' := 11) rfl rfl rfl ?_
      refine x_iadd (pc' := 12) (z := 22) rfl rfl (by decide) ?_
      refine x_istore (pc' := 14) (ls' := [_, _, _, _, _, _]) rfl rfl rfl rfl ?_
      refine x_iload_n (pc' := 15) rfl rfl rfl ?_
      refine x_if (a' := 36) (pc' := 18) (z := false) rfl rfl rfl (by decide) (fun h => by cases h) (fun _ => ?_)
      refine x_iload_n (pc' := 19) rfl rfl rfl ?_
      refine x_iconst (pc' := 20) rfl rfl ?_
      refine x_icmp (a' := 36) (pc' := 23) (z := false) rfl rfl rfl (by decide) (fun h => by cases h) (fun _ => ?_)
      refine x_iload_n (pc' := 24) rfl rfl rfl ?_
      refine x_if (a' := 36) (pc' := 27) (z := false) rfl rfl rfl (by decide) (fun h => by cases h) (fun _ => ?_)
      refine x_iload_n (pc' := 28) rfl rfl rfl ?_
      refine x_iconst (pc' := 29) rfl rfl ?_
      refine x_icmp (a' := 36) (pc' := 32) (z := false) rfl rfl rfl (by decide) (fun h => by cases h) (fun _ => ?_)
      refine x_iconst (pc' := 33) rfl rfl ?_
      refine x_goto (pc' := 37) rfl rfl ?_
      refine x_istore (pc' := 39) (ls' := [_, _, _, _, _, _]) rfl rfl rfl rfl ?_
      refine x_iload (pc' := 41) rfl rfl rfl ?_
      refine x_if (a' := 67) (pc' := 44) (z := false) rfl rfl rfl (by decide) (fun h => by cases h) (fun _ => ?_)
      refine x_iload (pc' := 46) rfl rfl rfl ?_
      refine x_if (a' := 67) (pc' := 49) (z := false) rfl rfl rfl (by decide) (fun h => by cases h) (fun _ => ?_)
      refine x_iload (pc' := 51) rfl rfl rfl ?_
      refine x_getstatic (pc' := 54) rfl rfl (show 0 < sC t 28 from gst0 hc.1) ?_
      refine x_alen (pc' := 55) (N := 45) rfl rfl rfl (kN_28_0 hc.1) (?_ : X _ _ _ (.inl 45 :: _) _ _)
      refine x_icmp (a' := 67) (pc' := 58) (z := false) rfl rfl rfl (by decide) (fun h => by cases h) (fun _ => ?_)
      refine x_getstatic (pc' := 61) rfl rfl (show 0 < sC t 28 from gst0 hc.1) ?_
      refine x_iload (pc' := 63) rfl rfl rfl ?_
      refine x_iald (pc' := 64) (N := 45) (x := 2) rfl rfl rfl (kN_28_0 hc.1) (io_in (p := 22) (N := 45) (by decide) (by decide)) (Eq.trans (congrArg (sA t 28 0) (nn_io (p := 22) (by decide))) ((hc.1.2.2.2.2.2 22).1.trans rfl)) ?_
      refine x_goto (pc' := 68) rfl rfl ?_
      refine x_reti rfl rfl ?_
      refine sK_i (pc' := 34) rfl ?_
      refine x_istore (pc' := 36) (ls' := [_, _, _, _, _, _, _, _]) rfl rfl rfl rfl ?_
      refine x_iload (pc' := 38) rfl rfl rfl ?_
      refine x_if (a' := 83) (pc' := 41) (z := false) rfl rfl rfl (by decide) (fun h => by cases h) (fun _ => ?_)
      refine x_aload_n (pc' := 42) rfl rfl rfl rfl rfl ?_
      refine x_iload (pc' := 44) rfl rfl rfl ?_
      refine x_iload_n (pc' := 45) rfl rfl rfl ?_
      refine x_cv (ls0 := [_, _, _, sJk]) (rest := []) rfl rfl rfl rfl rfl ?_
      refine x_iload_n (pc' := 1) rfl rfl rfl ?_
      refine x_abs (pc' := 4) (z := 2) rfl rfl rfl (by decide) ?_
      refine x_iconst (pc' := 5) rfl rfl ?_
      refine x_isub (pc' := 6) (z := 1) rfl rfl (by decide) ?_
      refine x_istore_n (pc' := 7) (ls' := [_, _, _, _]) rfl rfl rfl rfl ?_
      refine x_iload_n (pc' := 8) rfl rfl rfl ?_
      refine x_if (a' := 33) (pc' := 11) (z := false) rfl rfl rfl (by decide) (fun h => by cases h) (fun _ => ?_)
      refine x_iload_n (pc' := 12) rfl rfl rfl ?_
      refine x_aload_n (pc' := 13) rfl rfl rfl rfl rfl ?_
      refine x_gR (pc' := 16) (r := (some 0)) rfl rfl rfl (kR_640_0 hc.1) ?_
      refine x_alen (pc' := 17) (N := 5) rfl rfl rfl (kN_24_0 hc.1) (?_ : X _ _ _ (.inl 5 :: _) _ _)
      refine x_icmp (a' := 33) (pc' := 20) (z := false) rfl rfl rfl (by decide) (fun h => by cases h) (fun _ => ?_)
      refine x_aload_n (pc' := 21) rfl rfl rfl rfl rfl ?_
      refine x_gR (pc' := 24) (r := (some 0)) rfl rfl rfl (kR_640_0 hc.1) ?_
      refine x_iload_n (pc' := 25) rfl rfl rfl ?_
      refine x_aald (pc' := 26) (N := 5) (k' := 1) (r := (some 1)) rfl rfl rfl (kN_24_0 hc.1) (io_in (p := 1) (N := 5) (by decide) (by decide)) (Eq.trans (congrArg (sE t 24 0) (nn_io (p := 1) (by decide))) (kB hc.1 (by decide))) ?_
      refine x_gI (pc' := 29) (x := (mA M 0 1)) rfl rfl rfl (kA hM rfl (show 1 < 5 by decide)) ?_
      refine x_iconst (pc' := 30) rfl rfl ?_
      have J40 : ((sK 79 81 45 [.inr (.inr (10, (some 0))), .inr (.inr (1, (some 2))), .inl 1, .inl (bz true), .inl (0 + (-(mA M 14 (ovD (bif (decide ((mA M 0 4) = 2)) then (bsF M n 4 true) else none))))), .inl 1, .inl 2, .inr (.inr (8, (bif (decide ((mA M 0 4) = 2)) then (bsF M n 4 true) else none)))] [] Q) : sRs → sT → Prop) (.inl (some (.inr (.inr (8, (bif (decide ((mA M 0 1) = 2)) then (bsF M n 1 false) else none)))))) t := by
        refine sK_i (pc' := 48) rfl ?_
        refine x_astore (pc' := 50) (ls' := [_, _, _, _, _, _, _, _]) rfl rfl rfl rfl rfl ?_
        refine x_aload (pc' := 52) rfl rfl rfl rfl rfl ?_
        refine x_ifnonnull (a' := 59) (pc' := 55) rfl rfl rfl rfl (fun j1 q42 => ?_) (fun q42 => ?_)
        · refine x_iload (pc' := 61) rfl rfl rfl ?_
          refine x_iload (pc' := 63) rfl rfl rfl ?_
          refine x_if (a' := 74) (pc' := 66) (z := false) rfl rfl rfl (by decide) (fun h => by cases h) (fun _ => ?_)
          refine x_aload (pc' := 68) rfl rfl rfl rfl (ovD_s q42) ?_
          refine x_gI (pc' := 71) (x := (mA M 14 (ovD (bif (decide ((mA M 0 1) = 2)) then (bsF M n 1 false) else none)))) rfl rfl rfl ((kA hM rfl (ovD_lt (obd_c bsF_lt obd_n) q42)).trans (congrFun (Fc.f14 (Fc.refl _)) _)) ?_
          refine x_goto (pc' := 80) rfl rfl ?_
          refine x_iadd (pc' := 81) (z := ((0 + (-(mA M 14 (ovD (bif (decide ((mA M 0 4) = 2)) then (bsF M n 4 true) else none))))) + (mA M 14 (ovD (bif (decide ((mA M 0 1) = 2)) then (bsF M n 1 false) else none))))) rfl rfl rfl ?_
          refine x_istore (pc' := 83) (ls' := [_, _, _, _, _, _, _, _]) rfl rfl rfl rfl ?_
          refine x_iinc (pc' := 86) (y := 2) (ls' := [_, _, _, _, _, _, _, _]) rfl rfl rfl rfl rfl ?_
          refine x_goto (pc' := 20) rfl rfl ?_
          refine x_iload (pc' := 22) rfl rfl rfl ?_
          refine x_iconst (pc' := 23) rfl rfl ?_
          refine x_icmp (a' := 89) (pc' := 26) (z := false) rfl rfl rfl (by decide) (fun h => by cases h) (fun _ => ?_)
          refine x_aload_n (pc' := 27) rfl rfl rfl rfl rfl ?_
          refine x_aload_n (pc' := 28) rfl rfl rfl rfl rfl ?_
          refine x_iload_n (pc' := 29) rfl rfl rfl ?_
          refine x_iload (pc' := 31) rfl rfl rfl ?_
          refine x_cv (ls0 := [_, _, _, _, sJk, sJk]) (rest := []) rfl rfl rfl rfl rfl ?_
          refine x_aload_n (pc' := 1) rfl rfl rfl rfl rfl ?_
          refine x_gI (pc' := 4) (x := 2) rfl rfl rfl (kI_64_2 hc.1) ?_
          refine x_iconst (pc' := 5) rfl rfl ?_
          refine x_imul (pc' := 6) (z := 6) rfl rfl (by decide) ?_
          refine x_iload_n (pc' := 7) rfl rfl rfl ?_
          refine x_iadd (pc' := 8) (z := 7) rfl rfl (by decide) ?_
          refine x_iconst (pc' := 9) rfl rfl ?_
          refine x_imul (pc' := 10) (z := 21) rfl rfl (by decide) ?_
          refine x_iload_n (pc' := 11) rfl rfl rfl ?_
          refine x_iadd (pc' := 12) (z := 23) rfl rfl (by decide) ?_
          refine x_istore (pc' := 14) (ls' := [_, _, _, _, _, _]) rfl rfl rfl rfl ?_
          refine x_iload_n (pc' := 15) rfl rfl rfl ?_
          refine x_if (a' := 36) (pc' := 18) (z := false) rfl rfl rfl (by decide) (fun h => by cases h) (fun _ => ?_)
          refine x_iload_n (pc' := 19) rfl rfl rfl ?_
          refine x_iconst (pc' := 20) rfl rfl ?_
          refine x_icmp (a' := 36) (pc' := 23) (z := false) rfl rfl rfl (by decide) (fun h => by cases h) (fun _ => ?_)
          refine x_iload_n (pc' := 24) rfl rfl rfl ?_
          refine x_if (a' := 36) (pc' := 27) (z := false) rfl rfl rfl (by decide) (fun h => by cases h) (fun _ => ?_)
          refine x_iload_n (pc' := 28) rfl rfl rfl ?_
          refine x_iconst (pc' := 29) rfl rfl ?_
          refine x_icmp (a' := 36) (pc' := 32) (z := false) rfl rfl rfl (by decide) (fun h => by cases h) (fun _ => ?_)
          refine x_iconst (pc' := 33) rfl rfl ?_
          refine x_goto (pc' := 37) rfl rfl ?_
          refine x_istore (pc' := 39) (ls' := [_, _, _, _, _, _]) rfl rfl rfl rfl ?_
          refine x_iload (pc' := 41) rfl rfl rfl ?_
          refine x_if (a' := 67) (pc' := 44) (z := false) rfl rfl rfl (by decide) (fun h => by cases h) (fun _ => ?_)
          refine x_iload (pc' := 46) rfl rfl rfl ?_
          refine x_if (a' := 67) (pc' := 49) (z := false) rfl rfl rfl (by decide) (fun h => by cases h) (fun _ => ?_)
          refine x_iload (pc' := 51) rfl rfl rfl ?_
          refine x_getstatic (pc' := 54) rfl rfl (show 0 < sC t 28 from gst0 hc.1) ?_
          refine x_alen (pc' := 55) (N := 45) rfl rfl rfl (kN_28_0 hc.1) (?_ : X _ _ _ (.inl 45 :: _) _ _)
          refine x_icmp (a' := 67) (pc' := 58) (z := false) rfl rfl rfl (by decide) (fun h => by cases h) (fun _ => ?_)
          refine x_getstatic (pc' := 61) rfl rfl (show 0 < sC t 28 from gst0 hc.1) ?_
          refine x_iload (pc' := 63) rfl rfl rfl ?_
          refine x_iald (pc' := 64) (N := 45) (x := 0) rfl rfl rfl (kN_28_0 hc.1) (io_in (p := 23) (N := 45) (by decide) (by decide)) (Eq.trans (congrArg (sA t 28 0) (nn_io (p := 23) (by decide))) ((hc.1.2.2.2.2.2 23).1.trans rfl)) ?_
          refine x_goto (pc' := 68) rfl rfl ?_
          refine x_reti rfl rfl ?_
          refine sK_i (pc' := 34) rfl ?_
          refine x_istore (pc' := 36) (ls' := [_, _, _, _, _, _, _, _]) rfl rfl rfl rfl ?_
          refine x_iload (pc' := 38) rfl rfl rfl ?_
          refine x_if (a' := 83) (pc' := 41) (z := true) rfl rfl rfl (by decide) (fun _ => ?_) (fun h => by cases h)
          refine x_iinc (pc' := 86) (y := 3) (ls' := [_, _, _, _, _, _, _, _]) rfl rfl rfl rfl rfl ?_
          refine x_goto (pc' := 20) rfl rfl ?_
          refine x_iload (pc' := 22) rfl rfl rfl ?_
          refine x_iconst (pc' := 23) rfl rfl ?_
          refine x_icmp (a' := 89) (pc' := 26) (z := true) rfl rfl rfl (by decide) (fun _ => ?_) (fun h => by cases h)
          refine x_iload (pc' := 91) rfl rfl rfl ?_
          refine x_reti rfl rfl ?_
          exact qv (by simp only [cp21tF, (isSome_s q24), (isSome_s q42), cd_t, cd_f]) (q )
        · refine x_sipush (pc' := 58) rfl rfl ?_
          refine x_reti rfl rfl ?_
          exact qv (by simp only [cp21tF, (isSome_s q24), (isSome_n q42), cd_t, cd_f]) (q )
      refine x_icmp (a' := 35) (pc' := 33) (z := decide ((mA M 0 1) = 2)) rfl rfl rfl rfl (fun q37 => ?_) (fun q37 => ?_)
      · refine x_aload_n (pc' := 36) rfl rfl rfl rfl rfl ?_
        refine x_gR (pc' := 39) (r := (some 0)) rfl rfl rfl (kR_640_0 hc.1) ?_
        refine x_iload_n (pc' := 40) rfl rfl rfl ?_
        refine x_aald (pc' := 41) (N := 5) (k' := 1) (r := (some 1)) rfl rfl rfl (kN_24_0 hc.1) (io_in (p := 1) (N := 5) (by decide) (by decide)) (Eq.trans (congrArg (sE t 24 0) (nn_io (p := 1) (by decide))) (kB hc.1 (by decide))) ?_
        refine x_iload_n (pc' := 42) rfl rfl rfl ?_
        refine x_if (a' := 57) (pc' := 45) (z := false) rfl rfl rfl (by decide) (fun h => by cases h) (fun _ => ?_)
        refine x_iload_n (pc' := 46) rfl rfl rfl ?_
        refine x_if (a' := 53) (pc' := 49) (z := true) rfl rfl rfl (by decide) (fun _ => ?_) (fun h => by cases h)
        refine x_iconst (pc' := 54) rfl rfl ?_
        refine x_goto (pc' := 58) rfl rfl ?_
        refine x_cv (ls0 := [_, _]) (rest := []) rfl rfl rfl rfl rfl ?_
        refine x_iload_n (pc' := 1) rfl rfl rfl ?_
        refine x_if (a' := 11) (pc' := 4) (z := true) rfl rfl rfl (by decide) (fun _ => ?_) (fun h => by cases h)
        refine x_aload_n (pc' := 12) rfl rfl rfl rfl rfl ?_
        refine x_gR (pc' := 15) (r := (bsF M n 1 false)) rfl rfl rfl (bs_70 hC (Fc.ri (Fc.refl _) hR) hM (by decide)) ?_
        refine x_reta rfl rfl ?_
        refine sK_i (pc' := 61) rfl ?_
        refine x_reta rfl rfl ?_
        ((try rw [q37] at J40); (try rw [q37]); (try simp only [cd_t, cd_f, nt_t, nt_f, an_t, an_f, or_t, or_f] at J40); (try simp only [cd_t, cd_f, nt_t, nt_f, an_t, an_f, or_t, or_f]); exact J40)
      · refine x_null (pc' := 34) rfl rfl rfl ?_
        refine x_reta rfl rfl ?_
        ((try rw [q37] at J40); (try rw [q37]); (try simp only [cd_t, cd_f, nt_t, nt_f, an_t, an_f, or_t, or_f] at J40); (try simp only [cd_t, cd_f, nt_t, nt_f, an_t, an_f, or_t, or_f]); exact J40)
    · refine x_sipush (pc' := 58) rfl rfl ?_
      refine x_reti rfl rfl ?_
      exact qv (by simp only [cp21tF, (isSome_n q24), cd_t, cd_f]) (q )
  refine x_icmp (a' := 35) (pc' := 33) (z := decide ((mA M 0 4) = 2)) rfl rfl rfl rfl (fun q20 => ?_) (fun q20 => ?_)
  · refine x_aload_n (pc' := 36) rfl rfl rfl rfl rfl ?_
    refine x_gR (pc' := 39) (r := (some 0)) rfl rfl rfl (kR_640_0 hc.1) ?_
    refine x_iload_n (pc' := 40) rfl rfl rfl ?_
    refine x_aald (pc' := 41) (N := 5) (k' := 1) (r := (some 4)) rfl rfl rfl (kN_24_0 hc.1) (io_in (p := 4) (N := 5) (by decide) (by decide)) (Eq.trans (congrArg (sE t 24 0) (nn_io (p := 4) (by decide))) (kB hc.1 (by decide))) ?_
    refine x_iload_n (pc' := 42) rfl rfl rfl ?_
    refine x_if (a' := 57) (pc' := 45) (z := true) rfl rfl rfl (by decide) (fun _ => ?_) (fun h => by cases h)
    refine x_iload_n (pc' := 58) rfl rfl rfl ?_
    refine x_cv (ls0 := [_, _]) (rest := []) rfl rfl rfl rfl rfl ?_
    refine x_iload_n (pc' := 1) rfl rfl rfl ?_
    refine x_if (a' := 11) (pc' := 4) (z := false) rfl rfl rfl (by decide) (fun h => by cases h) (fun _ => ?_)
    refine x_aload_n (pc' := 5) rfl rfl rfl rfl rfl ?_
    refine x_gR (pc' := 8) (r := (bsF M n 4 true)) rfl rfl rfl (bs_69 hC (Fc.ri (Fc.refl _) hR) hM (by decide)) ?_
    refine x_goto (pc' := 15) rfl rfl ?_
    refine x_reta rfl rfl ?_
    refine sK_i (pc' := 61) rfl ?_
    refine x_reta rfl rfl ?_
    ((try rw [q20] at J22); (try rw [q20]); (try simp only [cd_t, cd_f, nt_t, nt_f, an_t, an_f, or_t, or_f] at J22); (try simp only [cd_t, cd_f, nt_t, nt_f, an_t, an_f, or_t, or_f]); exact J22)
  · refine x_null (pc' := 34) rfl rfl rfl ?_
    refine x_reta rfl rfl ?_
    ((try rw [q20] at J22); (try rw [q20]); (try simp only [cd_t, cd_f, nt_t, nt_f, an_t, an_f, or_t, or_f] at J22); (try simp only [cd_t, cd_f, nt_t, nt_f, an_t, an_f, or_t, or_f]); exact J22)
def cp22fF (M : sM) (n : Nat) : Int32 := (bif (bif (decide ((mA M 0 4) = 2)) then (bsF M n 4 false) else none).isSome then (bif (bif (decide ((mA M 0 3) = 2)) then (bsF M n 3 false) else none).isSome then (bif (bif (decide ((mA M 0 0) = 2)) then (bsF M n 0 true) else none).isSome then (((0 + (-(mA M 14 (ovD (bif (decide ((mA M 0 4) = 2)) then (bsF M n 4 false) else none))))) + (-(mA M 14 (ovD (bif (decide ((mA M 0 3) = 2)) then (bsF M n 3 false) else none))))) + (mA M 14 (ovD (bif (decide ((mA M 0 0) = 2)) then (bsF M n 0 true) else none)))) else (-10000)) else (-10000)) else (-10000))
set_option maxHeartbeats 4000000 in
set_option maxRecDepth 10000 in
theorem c81_22f {t : sT} {Q : sRs → sT → Prop} {M : sM} {n : Nat} {T : Nat}
    (hM : Rl t M n T)
    (hc : Sf t M n T)
    (hR : Ri M n)
    (hC : rlC t M n)
    (q : Q (.inl (some (.inl (cp22fF M n)))) t) :
    X 81 0 [.inr (.inr (10, (some 0))), .inr (.inr (1, (some 2))), .inl 2, .inl (bz false), sJk, sJk, sJk, sJk] [] t Q := by
  refine x_aload_n (pc' := 1) rfl rfl rfl rfl rfl ?_
  refine x_aload_n (pc' := 2) rfl rfl rfl rfl rfl ?_
  refine x_iload_n (pc' := 3) rfl rfl rfl ?_
  refine x_iconst (pc' := 4) rfl rfl ?_
  refine x_cv (ls0 := [_, _, _, _, sJk, sJk]) (rest := []) rfl rfl rfl rfl rfl ?_
  refine x_aload_n (pc' := 1) rfl rfl rfl rfl rfl ?_
  refine x_gI (pc' := 4) (x := 2) rfl rfl rfl (kI_64_2 hc.1) ?_
  refine x_iconst (pc' := 5) rfl rfl ?_
  refine x_imul (pc' := 6) (z := 6) rfl rfl (by decide) ?_
  refine x_iload_n (pc' := 7) rfl rfl rfl ?_
  refine x_iadd (pc' := 8) (z := 8) rfl rfl (by decide) ?_
  refine x_iconst (pc' := 9) rfl rfl ?_
  refine x_imul (pc' := 10) (z := 24) rfl rfl (by decide) ?_
  refine x_iload_n (pc' := 11) rfl rfl rfl ?_
  refine x_iadd (pc' := 12) (z := 24) rfl rfl (by decide) ?_
  refine x_istore (pc' := 14) (ls' := [_, _, _, _, _, _]) rfl rfl rfl rfl ?_
  refine x_iload_n (pc' := 15) rfl rfl rfl ?_
  refine x_if (a' := 36) (pc' := 18) (z := false) rfl rfl rfl (by decide) (fun h => by cases h) (fun _ => ?_)
  refine x_iload_n (pc' := 19) rfl rfl rfl ?_
  refine x_iconst (pc' := 20) rfl rfl ?_
  refine x_icmp (a' := 36) (pc' := 23) (z := false) rfl rfl rfl (by decide) (fun h => by cases h) (fun _ => ?_)
  refine x_iload_n (pc' := 24) rfl rfl rfl ?_
  refine x_if (a' := 36) (pc' := 27) (z := false) rfl rfl rfl (by decide) (fun h => by cases h) (fun _ => ?_)
  refine x_iload_n (pc' := 28) rfl rfl rfl ?_
  refine x_iconst (pc' := 29) rfl rfl ?_
  refine x_icmp (a' := 36) (pc' := 32) (z := false) rfl rfl rfl (by decide) (fun h => by cases h) (fun _ => ?_)
  refine x_iconst (pc' := 33) rfl rfl ?_
  refine x_goto (pc' := 37) rfl rfl ?_
  refine x_istore (pc' := 39) (ls' := [_, _, _, _, _, _]) rfl rfl rfl rfl ?_
  refine x_iload (pc' := 41) rfl rfl rfl ?_
  refine x_if (a' := 67) (pc' := 44) (z := false) rfl rfl rfl (by decide) (fun h => by cases h) (fun _ => ?_)
  refine x_iload (pc' := 46) rfl rfl rfl ?_
  refine x_if (a' := 67) (pc' := 49) (z := false) rfl rfl rfl (by decide) (fun h => by cases h) (fun _ => ?_)
  refine x_iload (pc' := 51) rfl rfl rfl ?_
  refine x_getstatic (pc' := 54) rfl rfl (show 0 < sC t 28 from gst0 hc.1) ?_
  refine x_alen (pc' := 55) (N := 45) rfl rfl rfl (kN_28_0 hc.1) (?_ : X _ _ _ (.inl 45 :: _) _ _)
  refine x_icmp (a' := 67) (pc' := 58) (z := false) rfl rfl rfl (by decide) (fun h => by cases h) (fun _ => ?_)
  refine x_getstatic (pc' := 61) rfl rfl (show 0 < sC t 28 from gst0 hc.1) ?_
  refine x_iload (pc' := 63) rfl rfl rfl ?_
  refine x_iald (pc' := 64) (N := 45) (x := (-5)) rfl rfl rfl (kN_28_0 hc.1) (io_in (p := 24) (N := 45) (by decide) (by decide)) (Eq.trans (congrArg (sA t 28 0) (nn_io (p := 24) (by decide))) ((hc.1.2.2.2.2.2 24).1.trans rfl)) ?_
  refine x_goto (pc' := 68) rfl rfl ?_
  refine x_reti rfl rfl ?_
  refine sK_i (pc' := 7) rfl ?_
  refine x_if (a' := 14) (pc' := 10) (z := true) rfl rfl rfl (by decide) (fun _ => ?_) (fun h => by cases h)
  refine x_iconst (pc' := 15) rfl rfl ?_
  refine x_istore (pc' := 17) (ls' := [_, _, _, _, _, _, _, _]) rfl rfl rfl rfl ?_
  refine x_iconst (pc' := 18) rfl rfl ?_
  refine x_istore (pc' := 20) (ls' := [_, _, _, _, _, _, _, _]) rfl rfl rfl rfl ?_
  refine x_iload (pc' := 22) rfl rfl rfl ?_
  refine x_iconst (pc' := 23) rfl rfl ?_
  refine x_icmp (a' := 89) (pc' := 26) (z := false) rfl rfl rfl (by decide) (fun h => by cases h) (fun _ => ?_)
  refine x_aload_n (pc' := 27) rfl rfl rfl rfl rfl ?_
  refine x_aload_n (pc' := 28) rfl rfl rfl rfl rfl ?_
  refine x_iload_n (pc' := 29) rfl rfl rfl ?_
  refine x_iload (pc' := 31) rfl rfl rfl ?_
  refine x_cv (ls0 := [_, _, _, _, sJk, sJk]) (rest := []) rfl rfl rfl rfl rfl ?_
  refine x_aload_n (pc' := 1) rfl rfl rfl rfl rfl ?_
  refine x_gI (pc' := 4) (x := 2) rfl rfl rfl (kI_64_2 hc.1) ?_
  refine x_iconst (pc' := 5) rfl rfl ?_
  refine x_imul (pc' := 6) (z := 6) rfl rfl (by decide) ?_
  refine x_iload_n (pc' := 7) rfl rfl rfl ?_
  refine x_iadd (pc' := 8) (z := 8) rfl rfl (by decide) ?_
  refine x_iconst (pc' := 9) rfl rfl ?_
  refine x_imul (pc' := 10) (z := 24) rfl rfl (by decide) ?_
  refine x_iload_n (pc' := 11) rfl rfl rfl ?_
  refine x_iadd (pc' := 12) (z := 24) rfl rfl (by decide) ?_
  refine x_istore (pc' := 14) (ls' := [_, _, _, _, _, _]) rfl rfl rfl rfl ?_
  refine x_iload_n (pc' := 15) rfl rfl rfl ?_
  refine x_if (a' := 36) (pc' := 18) (z := false) rfl rfl rfl (by decide) (fun h => by cases h) (fun _ => ?_)
  refine x_iload_n (pc' := 19) rfl rfl rfl ?_
  refine x_iconst (pc' := 20) rfl rfl ?_
  refine x_icmp (a' := 36) (pc' := 23) (z := false) rfl rfl rfl (by decide) (fun h => by cases h) (fun _ => ?_)
  refine x_iload_n (pc' := 24) rfl rfl rfl ?_
  refine x_if (a' := 36) (pc' := 27) (z := false) rfl rfl rfl (by decide) (fun h => by cases h) (fun _ => ?_)
  refine x_iload_n (pc' := 28) rfl rfl rfl ?_
  refine x_iconst (pc' := 29) rfl rfl ?_
  refine x_icmp (a' := 36) (pc' := 32) (z := false) rfl rfl rfl (by decide) (fun h => by cases h) (fun _ => ?_)
  refine x_iconst (pc' := 33) rfl rfl ?_
  refine x_goto (pc' := 37) rfl rfl ?_
  refine x_istore (pc' := 39) (ls' := [_, _, _, _, _, _]) rfl rfl rfl rfl ?_
  refine x_iload (pc' := 41) rfl rfl rfl ?_
  refine x_if (a' := 67) (pc' := 44) (z := false) rfl rfl rfl (by decide) (fun h => by cases h) (fun _ => ?_)
  refine x_iload (pc' := 46) rfl rfl rfl ?_
  refine x_if (a' := 67) (pc' := 49) (z := false) rfl rfl rfl (by decide) (fun h => by cases h) (fun _ => ?_)
  refine x_iload (pc' := 51) rfl rfl rfl ?_
  refine x_getstatic (pc' := 54) rfl rfl (show 0 < sC t 28 from gst0 hc.1) ?_
  refine x_alen (pc' := 55) (N := 45) rfl rfl rfl (kN_28_0 hc.1) (?_ : X _ _ _ (.inl 45 :: _) _ _)
  refine x_icmp (a' := 67) (pc' := 58) (z := false) rfl rfl rfl (by decide) (fun h => by cases h) (fun _ => ?_)
  refine x_getstatic (pc' := 61) rfl rfl (show 0 < sC t 28 from gst0 hc.1) ?_
  refine x_iload (pc' := 63) rfl rfl rfl ?_
  refine x_iald (pc' := 64) (N := 45) (x := (-5)) rfl rfl rfl (kN_28_0 hc.1) (io_in (p := 24) (N := 45) (by decide) (by decide)) (Eq.trans (congrArg (sA t 28 0) (nn_io (p := 24) (by decide))) ((hc.1.2.2.2.2.2 24).1.trans rfl)) ?_
  refine x_goto (pc' := 68) rfl rfl ?_
  refine x_reti rfl rfl ?_
  refine sK_i (pc' := 34) rfl ?_
  refine x_istore (pc' := 36) (ls' := [_, _, _, _, _, _, _, _]) rfl rfl rfl rfl ?_
  refine x_iload (pc' := 38) rfl rfl rfl ?_
  refine x_if (a' := 83) (pc' := 41) (z := false) rfl rfl rfl (by decide) (fun h => by cases h) (fun _ => ?_)
  refine x_aload_n (pc' := 42) rfl rfl rfl rfl rfl ?_
  refine x_iload (pc' := 44) rfl rfl rfl ?_
  refine x_iload_n (pc' := 45) rfl rfl rfl ?_
  refine x_cv (ls0 := [_, _, _, sJk]) (rest := []) rfl rfl rfl rfl rfl ?_
  refine x_iload_n (pc' := 1) rfl rfl rfl ?_
  refine x_abs (pc' := 4) (z := 5) rfl rfl rfl (by decide) ?_
  refine x_iconst (pc' := 5) rfl rfl ?_
  refine x_isub (pc' := 6) (z := 4) rfl rfl (by decide) ?_
  refine x_istore_n (pc' := 7) (ls' := [_, _, _, _]) rfl rfl rfl rfl ?_
  refine x_iload_n (pc' := 8) rfl rfl rfl ?_
  refine x_if (a' := 33) (pc' := 11) (z := false) rfl rfl rfl (by decide) (fun h => by cases h) (fun _ => ?_)
  refine x_iload_n (pc' := 12) rfl rfl rfl ?_
  refine x_aload_n (pc' := 13) rfl rfl rfl rfl rfl ?_
  refine x_gR (pc' := 16) (r := (some 0)) rfl rfl rfl (kR_640_0 hc.1) ?_
  refine x_alen (pc' := 17) (N := 5) rfl rfl rfl (kN_24_0 hc.1) (?_ : X _ _ _ (.inl 5 :: _) _ _)
  refine x_icmp (a' := 33) (pc' := 20) (z := false) rfl rfl rfl (by decide) (fun h => by cases h) (fun _ => ?_)
  refine x_aload_n (pc' := 21) rfl rfl rfl rfl rfl ?_
  refine x_gR (pc' := 24) (r := (some 0)) rfl rfl rfl (kR_640_0 hc.1) ?_
  refine x_iload_n (pc' := 25) rfl rfl rfl ?_
  refine x_aald (pc' := 26) (N := 5) (k' := 1) (r := (some 4)) rfl rfl rfl (kN_24_0 hc.1) (io_in (p := 4) (N := 5) (by decide) (by decide)) (Eq.trans (congrArg (sE t 24 0) (nn_io (p := 4) (by decide))) (kB hc.1 (by decide))) ?_
  refine x_gI (pc' := 29) (x := (mA M 0 4)) rfl rfl rfl (kA hM rfl (show 4 < 5 by decide)) ?_
  refine x_iconst (pc' := 30) rfl rfl ?_
  have J22 : ((sK 79 81 45 [.inr (.inr (10, (some 0))), .inr (.inr (1, (some 2))), .inl 2, .inl (bz false), .inl 0, .inl 0, .inl (-5), sJk] [] Q) : sRs → sT → Prop) (.inl (some (.inr (.inr (8, (bif (decide ((mA M 0 4) = 2)) then (bsF M n 4 false) else none)))))) t := by
    refine sK_i (pc' := 48) rfl ?_
    refine x_astore (pc' := 50) (ls' := [_, _, _, _, _, _, _, _]) rfl rfl rfl rfl rfl ?_
    refine x_aload (pc' := 52) rfl rfl rfl rfl rfl ?_
    refine x_ifnonnull (a' := 59) (pc' := 55) rfl rfl rfl rfl (fun j0 q24 => ?_) (fun q24 => ?_)
    · refine x_iload (pc' := 61) rfl rfl rfl ?_
      refine x_iload (pc' := 63) rfl rfl rfl ?_
      refine x_if (a' := 74) (pc' := 66) (z := true) rfl rfl rfl (by decide) (fun _ => ?_) (fun h => by cases h)
      refine x_aload (pc' := 76) rfl rfl rfl rfl (ovD_s q24) ?_
      refine x_gI (pc' := 79) (x := (mA M 14 (ovD (bif (decide ((mA M 0 4) = 2)) then (bsF M n 4 false) else none)))) rfl rfl rfl ((kA hM rfl (ovD_lt (obd_c bsF_lt obd_n) q24)).trans (congrFun (Fc.f14 (Fc.refl _)) _)) ?_
      refine x_ineg (pc' := 80) rfl rfl rfl ?_
      refine x_iadd (pc' := 81) (z := (0 + (-(mA M 14 (ovD (bif (decide ((mA M 0 4) = 2)) then (bsF M n 4 false) else none)))))) rfl rfl rfl ?_
      refine x_istore (pc' := 83) (ls' := [_, _, _, _, _, _, _, _]) rfl rfl rfl rfl ?_
      refine x_iinc (pc' := 86) (y := 1) (ls' := [_, _, _, _, _, _, _, _]) rfl rfl rfl rfl rfl ?_
      refine x_goto (pc' := 20) rfl rfl ?_
      refine x_iload (pc' := 22) rfl rfl rfl ?_
      refine x_iconst (pc' := 23) rfl rfl ?_
      refine x_icmp (a' := 89) (pc' := 26) (z := false) rfl rfl rfl (by decide) (fun h => by cases h) (fun _ => ?_)
      refine x_aload_n (pc' := 27) rfl rfl rfl rfl rfl ?_
      refine x_aload_n (pc' := 28) rfl rfl rfl rfl rfl ?_
      refine x_iload_n (pc' := 29) rfl rfl rfl ?_
      refine x_iload (pc' := 31) rfl rfl rfl ?_
      refine x_cv (ls0 := [_, _, _, _, sJk, sJk]) (rest := []) rfl rfl rfl rfl rfl ?_
      refine x_aload_n (pc' := 1) rfl rfl rfl rfl rfl ?_
      refine x_gI (pc' := 4) (x := 2) rfl rfl rfl (kI_64_2 hc.1) ?_
      refine x_iconst (pc' := 5) rfl rfl ?_
      refine x_imul (pc' := 6) (z := 6) rfl rfl (by decide) ?_
      refine x_iload_n (pc' := 7) rfl rfl rfl ?_
      refine x_iadd (pc' := 8) (z := 8) rfl rfl (by decide) ?_
      refine x_iconst (pc' := 9) rfl rfl ?_
      refine x_imul (pc' := 10) (z := 24) rfl rfl (by decide) ?_
      refine x_iload_n (pc' := 11) rfl rfl rfl ?_
      refine x_iadd (pc' := 12) (z := 25) rfl rfl (by decide) ?_
      refine x_istore (pc' := 14) (ls' := [_, _, _, _, _, _]) rfl rfl rfl rfl ?_
      refine x_iload_n (pc' := 15) rfl rfl rfl ?_
      refine x_if (a' := 36) (pc' := 18) (z := false) rfl rfl rfl (by decide) (fun h => by cases h) (fun _ => ?_)
      refine x_iload_n (pc' := 19) rfl rfl rfl ?_
      refine x_iconst (pc' := 20) rfl rfl ?_
      refine x_icmp (a' := 36) (pc' := 23) (z := false) rfl rfl rfl (by decide) (fun h => by cases h) (fun _ => ?_)
      refine x_iload_n (pc' := 24) rfl rfl rfl ?_
      refine x_if (a' := 36) (pc' := 27) (z := false) rfl rfl rfl (by decide) (fun h => by cases h) (fun _ => ?_)
      refine x_iload_n (pc' := 28) rfl rfl rfl ?_
      refine x_iconst (pc' := 29) rfl rfl ?_
      refine x_icmp (a' := 36) (pc' := 32) (z := false) rfl rfl rfl (by decide) (fun h => by cases h) (fun _ => ?_)
      refine x_iconst (pc' := 33) rfl rfl ?_
      refine x_goto (pc' := 37) rfl rfl ?_
      refine x_istore (pc' := 39) (ls' := [_, _, _, _, _, _]) rfl rfl rfl rfl ?_
      refine x_iload (pc' := 41) rfl rfl rfl ?_
      refine x_if (a' := 67) (pc' := 44) (z := false) rfl rfl rfl (by decide) (fun h => by cases h) (fun _ => ?_)
      refine x_iload (pc' := 46) rfl rfl rfl ?_
      refine x_if (a' := 67) (pc' := 49) (z := false) rfl rfl rfl (by decide) (fun h => by cases h) (fun _ => ?_)
      refine x_iload (pc' := 51) rfl rfl rfl ?_
      refine x_getstatic (pc' := 54) rfl rfl (show 0 < sC t 28 from gst0 hc.1) ?_
      refine x_alen (pc' := 55) (N := 45) rfl rfl rfl (kN_28_0 hc.1) (?_ : X _ _ _ (.inl 45 :: _) _ _)
      refine x_icmp (a' := 67) (pc' := 58) (z := false) rfl rfl rfl (by decide) (fun h => by cases h) (fun _ => ?_)
      refine x_getstatic (pc' := 61) rfl rfl (show 0 < sC t 28 from gst0 hc.1) ?_
      refine x_iload (pc' := 63) rfl rfl rfl ?_
      refine x_iald (pc' := 64) (N := 45) (x := (-4)) rfl rfl rfl (kN_28_0 hc.1) (io_in (p := 25) (N := 45) (by decide) (by decide)) (Eq.trans (congrArg (sA t 28 0) (nn_io (p := 25) (by decide))) ((hc.1.2.2.2.2.2 25).1.trans rfl)) ?_
      refine x_goto (pc' := 68) rfl rfl ?_
      refine x_reti rfl rfl ?_
      refine sK_i (pc' := 34) rfl ?_
      refine x_istore (pc' := 36) (ls' := [_, _, _, _, _, _, _, _]) rfl rfl rfl rfl ?_
      refine x_iload (pc' := 38) rfl rfl rfl ?_
      refine x_if (a' := 83) (pc' := 41) (z := false) rfl rfl rfl (by decide) (fun h => by cases h) (fun _ => ?_)
      refine x_aload_n (pc' := 42) rfl rfl rfl rfl rfl ?_
      refine x_iload (pc' := 44) rfl rfl rfl ?_
      refine x_iload_n (pc' := 45) rfl rfl rfl ?_
      refine x_cv (ls0 := [_, _, _, sJk]) (rest := []) rfl rfl rfl rfl rfl ?_
      refine x_iload_n (pc' := 1) rfl rfl rfl ?_
      refine x_abs (pc' := 4) (z := 4) rfl rfl rfl (by decide) ?_
      refine x_iconst (pc' := 5) rfl rfl ?_
      refine x_isub (pc' := 6) (z := 3) rfl rfl (by decide) ?_
      refine x_istore_n (pc' := 7) (ls' := [_, _, _, _]) rfl rfl rfl rfl ?_
      refine x_iload_n (pc' := 8) rfl rfl rfl ?_
      refine x_if (a' := 33) (pc' := 11) (z := false) rfl rfl rfl (by decide) (fun h => by cases h) (fun _ => ?_)
      refine x_iload_n (pc' := 12) rfl rfl rfl ?_
      refine x_aload_n (pc' := 13) rfl rfl rfl rfl rfl ?_
      refine x_gR (pc' := 16) (r := (some 0)) rfl rfl rfl (kR_640_0 hc.1) ?_
      refine x_alen (pc' := 17) (N := 5) rfl rfl rfl (kN_24_0 hc.1) (?_ : X _ _ _ (.inl 5 :: _) _ _)
      refine x_icmp (a' := 33) (pc' := 20) (z := false) rfl rfl rfl (by decide) (fun h => by cases h) (fun _ => ?_)
      refine x_aload_n (pc' := 21) rfl rfl rfl rfl rfl ?_
      refine x_gR (pc' := 24) (r := (some 0)) rfl rfl rfl (kR_640_0 hc.1) ?_
      refine x_iload_n (pc' := 25) rfl rfl rfl ?_
      refine x_aald (pc' := 26) (N := 5) (k' := 1) (r := (some 3)) rfl rfl rfl (kN_24_0 hc.1) (io_in (p := 3) (N := 5) (by decide) (by decide)) (Eq.trans (congrArg (sE t 24 0) (nn_io (p := 3) (by decide))) (kB hc.1 (by decide))) ?_
      refine x_gI (pc' := 29) (x := (mA M 0 3)) rfl rfl rfl (kA hM rfl (show 3 < 5 by decide)) ?_
      refine x_iconst (pc' := 30) rfl rfl ?_
      have J39 : ((sK 79 81 45 [.inr (.inr (10, (some 0))), .inr (.inr (1, (some 2))), .inl 2, .inl (bz false), .inl (0 + (-(mA M 14 (ovD (bif (decide ((mA M 0 4) = 2)) then (bsF M n 4 false) else none))))), .inl 1, .inl (-4), .inr (.inr (8, (bif (decide ((mA M 0 4) = 2)) then (bsF M n 4 false) else none)))] [] Q) : sRs → sT → Prop) (.inl (some (.inr (.inr (8, (bif (decide ((mA M 0 3) = 2)) then (bsF M n 3 false) else none)))))) t := by
        refine sK_i (pc' := 48) rfl ?_
        refine x_astore (pc' := 50) (ls' := [_, _, _, _, _, _, _, _]) rfl rfl rfl rfl rfl ?_
        refine x_aload (pc' := 52) rfl rfl rfl rfl rfl ?_
        refine x_ifnonnull (a' := 59) (pc' := 55) rfl rfl rfl rfl (fun j1 q41 => ?_) (fun q41 => ?_)
        · refine x_iload (pc' := 61) rfl rfl rfl ?_
          refine x_iload (pc' := 63) rfl rfl rfl ?_
          refine x_if (a' := 74) (pc' := 66) (z := true) rfl rfl rfl (by decide) (fun _ => ?_) (fun h => by cases h)
          refine x_aload (pc' := 76) rfl rfl rfl rfl (ovD_s q41) ?_
          refine x_gI (pc' := 79) (x := (mA M 14 (ovD (bif (decide ((mA M 0 3) = 2)) then (bsF M n 3 false) else none)))) rfl rfl rfl ((kA hM rfl (ovD_lt (obd_c bsF_lt obd_n) q41)).trans (congrFun (Fc.f14 (Fc.refl _)) _)) ?_
          refine x_ineg (pc' := 80) rfl rfl rfl ?_
          refine x_iadd (pc' := 81) (z := ((0 + (-(mA M 14 (ovD (bif (decide ((mA M 0 4) = 2)) then (bsF M n 4 false) else none))))) + (-(mA M 14 (ovD (bif (decide ((mA M 0 3) = 2)) then (bsF M n 3 false) else none)))))) rfl rfl rfl ?_
          refine x_istore (pc' := 83) (ls' := [_, _, _, _, _, _, _, _]) rfl rfl rfl rfl ?_
          refine x_iinc (pc' := 86) (y := 2) (ls' := [_, _, _, _, _, _, _, _]) rfl rfl rfl rfl rfl ?_
          refine x_goto (pc' := 20) rfl rfl ?_
          refine x_iload (pc' := 22) rfl rfl rfl ?_
          refine x_iconst (pc' := 23) rfl rfl ?_
          refine x_icmp (a' := 89) (pc' := 26) (z := false) rfl rfl rfl (by decide) (fun h => by cases h) (fun _ => ?_)
          refine x_aload_n (pc' := 27) rfl rfl rfl rfl rfl ?_
          refine x_aload_n (pc' := 28) rfl rfl rfl rfl rfl ?_
          refine x_iload_n (pc' := 29) rfl rfl rfl ?_
          refine x_iload (pc' := 31) rfl rfl rfl ?_
          refine x_cv (ls0 := [_, _, _, _, sJk, sJk]) (rest := []) rfl rfl rfl rfl rfl ?_
          refine x_aload_n (pc' := 1) rfl rfl rfl rfl rfl ?_
          refine x_gI (pc' := 4) (x := 2) rfl rfl rfl (kI_64_2 hc.1) ?_
          refine x_iconst (pc' := 5) rfl rfl ?_
          refine x_imul (pc' := 6) (z := 6) rfl rfl (by decide) ?_
          refine x_iload_n (pc' := 7) rfl rfl rfl ?_
          refine x_iadd (pc' := 8) (z := 8) rfl rfl (by decide) ?_
          refine x_iconst (pc' := 9) rfl rfl ?_
          refine x_imul (pc' := 10) (z := 24) rfl rfl (by decide) ?_
          refine x_iload_n (pc' := 11) rfl rfl rfl ?_
          refine x_iadd (pc' := 12) (z := 26) rfl rfl (by decide) ?_
          refine x_istore (pc' := 14) (ls' := [_, _, _, _, _, _]) rfl rfl rfl rfl ?_
          refine x_iload_n (pc' := 15) rfl rfl rfl ?_
          refine x_if (a' := 36) (pc' := 18) (z := false) rfl rfl rfl (by decide) (fun h => by cases h) (fun _ => ?_)
          refine x_iload_n (pc' := 19) rfl rfl rfl ?_
          refine x_iconst (pc' := 20) rfl rfl ?_
          refine x_icmp (a' := 36) (pc' := 23) (z := false) rfl rfl rfl (by decide) (fun h => by cases h) (fun _ => ?_)
          refine x_iload_n (pc' := 24) rfl rfl rfl ?_
          refine x_if (a' := 36) (pc' := 27) (z := false) rfl rfl rfl (by decide) (fun h => by cases h) (fun _ => ?_)
          refine x_iload_n (pc' := 28) rfl rfl rfl ?_
          refine x_iconst (pc' := 29) rfl rfl ?_
          refine x_icmp (a' := 36) (pc' := 32) (z := false) rfl rfl rfl (by decide) (fun h => by cases h) (fun _ => ?_)
          refine x_iconst (pc' := 33) rfl rfl ?_
          refine x_goto (pc' := 37) rfl rfl ?_
          refine x_istore (pc' := 39) (ls' := [_, _, _, _, _, _]) rfl rfl rfl rfl ?_
          refine x_iload (pc' := 41) rfl rfl rfl ?_
          refine x_if (a' := 67) (pc' := 44) (z := false) rfl rfl rfl (by decide) (fun h => by cases h) (fun _ => ?_)
          refine x_iload (pc' := 46) rfl rfl rfl ?_
          refine x_if (a' := 67) (pc' := 49) (z := false) rfl rfl rfl (by decide) (fun h => by cases h) (fun _ => ?_)
          refine x_iload (pc' := 51) rfl rfl rfl ?_
          refine x_getstatic (pc' := 54) rfl rfl (show 0 < sC t 28 from gst0 hc.1) ?_
          refine x_alen (pc' := 55) (N := 45) rfl rfl rfl (kN_28_0 hc.1) (?_ : X _ _ _ (.inl 45 :: _) _ _)
          refine x_icmp (a' := 67) (pc' := 58) (z := false) rfl rfl rfl (by decide) (fun h => by cases h) (fun _ => ?_)
          refine x_getstatic (pc' := 61) rfl rfl (show 0 < sC t 28 from gst0 hc.1) ?_
          refine x_iload (pc' := 63) rfl rfl rfl ?_
          refine x_iald (pc' := 64) (N := 45) (x := 1) rfl rfl rfl (kN_28_0 hc.1) (io_in (p := 26) (N := 45) (by decide) (by decide)) (Eq.trans (congrArg (sA t 28 0) (nn_io (p := 26) (by decide))) ((hc.1.2.2.2.2.2 26).1.trans rfl)) ?_
          refine x_goto (pc' := 68) rfl rfl ?_
          refine x_reti rfl rfl ?_
          refine sK_i (pc' := 34) rfl ?_
          refine x_istore (pc' := 36) (ls' := [_, _, _, _, _, _, _, _]) rfl rfl rfl rfl ?_
          refine x_iload (pc' := 38) rfl rfl rfl ?_
          refine x_if (a' := 83) (pc' := 41) (z := false) rfl rfl rfl (by decide) (fun h => by cases h) (fun _ => ?_)
          refine x_aload_n (pc' := 42) rfl rfl rfl rfl rfl ?_
          refine x_iload (pc' := 44) rfl rfl rfl ?_
          refine x_iload_n (pc' := 45) rfl rfl rfl ?_
          refine x_cv (ls0 := [_, _, _, sJk]) (rest := []) rfl rfl rfl rfl rfl ?_
          refine x_iload_n (pc' := 1) rfl rfl rfl ?_
          refine x_abs (pc' := 4) (z := 1) rfl rfl rfl (by decide) ?_
          refine x_iconst (pc' := 5) rfl rfl ?_
          refine x_isub (pc' := 6) (z := 0) rfl rfl (by decide) ?_
          refine x_istore_n (pc' := 7) (ls' := [_, _, _, _]) rfl rfl rfl rfl ?_
          refine x_iload_n (pc' := 8) rfl rfl rfl ?_
          refine x_if (a' := 33) (pc' := 11) (z := false) rfl rfl rfl (by decide) (fun h => by cases h) (fun _ => ?_)
          refine x_iload_n (pc' := 12) rfl rfl rfl ?_
          refine x_aload_n (pc' := 13) rfl rfl rfl rfl rfl ?_
          refine x_gR (pc' := 16) (r := (some 0)) rfl rfl rfl (kR_640_0 hc.1) ?_
          refine x_alen (pc' := 17) (N := 5) rfl rfl rfl (kN_24_0 hc.1) (?_ : X _ _ _ (.inl 5 :: _) _ _)
          refine x_icmp (a' := 33) (pc' := 20) (z := false) rfl rfl rfl (by decide) (fun h => by cases h) (fun _ => ?_)
          refine x_aload_n (pc' := 21) rfl rfl rfl rfl rfl ?_
          refine x_gR (pc' := 24) (r := (some 0)) rfl rfl rfl (kR_640_0 hc.1) ?_
          refine x_iload_n (pc' := 25) rfl rfl rfl ?_
          refine x_aald (pc' := 26) (N := 5) (k' := 1) (r := (some 0)) rfl rfl rfl (kN_24_0 hc.1) (io_in (p := 0) (N := 5) (by decide) (by decide)) (Eq.trans (congrArg (sE t 24 0) (nn_io (p := 0) (by decide))) (kB hc.1 (by decide))) ?_
          refine x_gI (pc' := 29) (x := (mA M 0 0)) rfl rfl rfl (kA hM rfl (show 0 < 5 by decide)) ?_
          refine x_iconst (pc' := 30) rfl rfl ?_
          have J57 : ((sK 79 81 45 [.inr (.inr (10, (some 0))), .inr (.inr (1, (some 2))), .inl 2, .inl (bz false), .inl ((0 + (-(mA M 14 (ovD (bif (decide ((mA M 0 4) = 2)) then (bsF M n 4 false) else none))))) + (-(mA M 14 (ovD (bif (decide ((mA M 0 3) = 2)) then (bsF M n 3 false) else none))))), .inl 2, .inl 1, .inr (.inr (8, (bif (decide ((mA M 0 3) = 2)) then (bsF M n 3 false) else none)))] [] Q) : sRs → sT → Prop) (.inl (some (.inr (.inr (8, (bif (decide ((mA M 0 0) = 2)) then (bsF M n 0 true) else none)))))) t := by
            refine sK_i (pc' := 48) rfl ?_
            refine x_astore (pc' := 50) (ls' := [_, _, _, _, _, _, _, _]) rfl rfl rfl rfl rfl ?_
            refine x_aload (pc' := 52) rfl rfl rfl rfl rfl ?_
            refine x_ifnonnull (a' := 59) (pc' := 55) rfl rfl rfl rfl (fun j2 q59 => ?_) (fun q59 => ?_)
            · refine x_iload (pc' := 61) rfl rfl rfl ?_
              refine x_iload (pc' := 63) rfl rfl rfl ?_
              refine x_if (a' := 74) (pc' := 66) (z := false) rfl rfl rfl (by decide) (fun h => by cases h) (fun _ => ?_)
              refine x_aload (pc' := 68) rfl rfl rfl rfl (ovD_s q59) ?_
              refine x_gI (pc' := 71) (x := (mA M 14 (ovD (bif (decide ((mA M 0 0) = 2)) then (bsF M n 0 true) else none)))) rfl rfl rfl ((kA hM rfl (ovD_lt (obd_c bsF_lt obd_n) q59)).trans (congrFun (Fc.f14 (Fc.refl _)) _)) ?_
              refine x_goto (pc' := 80) rfl rfl ?_
              refine x_iadd (pc' := 81) (z := (((0 + (-(mA M 14 (ovD (bif (decide ((mA M 0 4) = 2)) then (bsF M n 4 false) else none))))) + (-(mA M 14 (ovD (bif (decide ((mA M 0 3) = 2)) then (bsF M n 3 false) else none))))) + (mA M 14 (ovD (bif (decide ((mA M 0 0) = 2)) then (bsF M n 0 true) else none))))) rfl rfl rfl ?_
              refine x_istore (pc' := 83) (ls' := [_, _, _, _, _, _, _, _]) rfl rfl rfl rfl ?_
              refine x_iinc (pc' := 86) (y := 3) (ls' := [_, _, _, _, _, _, _, _]) rfl rfl rfl rfl rfl ?_
              refine x_goto (pc' := 20) rfl rfl ?_
              refine x_iload (pc' := 22) rfl rfl rfl ?_
              refine x_iconst (pc' := 23) rfl rfl ?_
              refine x_icmp (a' := 89) (pc' := 26) (z := true) rfl rfl rfl (by decide) (fun _ => ?_) (fun h => by cases h)
              refine x_iload (pc' := 91) rfl rfl rfl ?_
              refine x_reti rfl rfl ?_
              exact qv (by simp only [cp22fF, (isSome_s q24), (isSome_s q41), (isSome_s q59), cd_t, cd_f]) (q )
            · refine x_sipush (pc' := 58) rfl rfl ?_
              refine x_reti rfl rfl ?_
              exact qv (by simp only [cp22fF, (isSome_s q24), (isSome_s q41), (isSome_n q59), cd_t, cd_f]) (q )
          refine x_icmp (a' := 35) (pc' := 33) (z := decide ((mA M 0 0) = 2)) rfl rfl rfl rfl (fun q54 => ?_) (fun q54 => ?_)
          · refine x_aload_n (pc' := 36) rfl rfl rfl rfl rfl ?_
            refine x_gR (pc' := 39) (r := (some 0)) rfl rfl rfl (kR_640_0 hc.1) ?_
            refine x_iload_n (pc' := 40) rfl rfl rfl ?_
            refine x_aald (pc' := 41) (N := 5) (k' := 1) (r := (some 0)) rfl rfl rfl (kN_24_0 hc.1) (io_in (p := 0) (N := 5) (by decide) (by decide)) (Eq.trans (congrArg (sE t 24 0) (nn_io (p := 0) (by decide))) (kB hc.1 (by decide))) ?_
            refine x_iload_n (pc' := 42) rfl rfl rfl ?_
            refine x_if (a' := 57) (pc' := 45) (z := false) rfl rfl rfl (by decide) (fun h => by cases h) (fun _ => ?_)
            refine x_iload_n (pc' := 46) rfl rfl rfl ?_
            refine x_if (a' := 53) (pc' := 49) (z := false) rfl rfl rfl (by decide) (fun h => by cases h) (fun _ => ?_)
            refine x_iconst (pc' := 50) rfl rfl ?_
            refine x_goto (pc' := 58) rfl rfl ?_
            refine x_cv (ls0 := [_, _]) (rest := []) rfl rfl rfl rfl rfl ?_
            refine x_iload_n (pc' := 1) rfl rfl rfl ?_
            refine x_if (a' := 11) (pc' := 4) (z := false) rfl rfl rfl (by decide) (fun h => by cases h) (fun _ => ?_)
            refine x_aload_n (pc' := 5) rfl rfl rfl rfl rfl ?_
            refine x_gR (pc' := 8) (r := (bsF M n 0 true)) rfl rfl rfl (bs_69 hC (Fc.ri (Fc.refl _) hR) hM (by decide)) ?_
            refine x_goto (pc' := 15) rfl rfl ?_
            refine x_reta rfl rfl ?_
            refine sK_i (pc' := 61) rfl ?_
            refine x_reta rfl rfl ?_
            ((try rw [q54] at J57); (try rw [q54]); (try simp only [cd_t, cd_f, nt_t, nt_f, an_t, an_f, or_t, or_f] at J57); (try simp only [cd_t, cd_f, nt_t, nt_f, an_t, an_f, or_t, or_f]); exact J57)
          · refine x_null (pc' := 34) rfl rfl rfl ?_
            refine x_reta rfl rfl ?_
            ((try rw [q54] at J57); (try rw [q54]); (try simp only [cd_t, cd_f, nt_t, nt_f, an_t, an_f, or_t, or_f] at J57); (try simp only [cd_t, cd_f, nt_t, nt_f, an_t, an_f, or_t, or_f]); exact J57)
        · refine x_sipush (pc' := 58) rfl rfl ?_
          refine x_reti rfl rfl ?_
          exact qv (by simp only [cp22fF, (isSome_s q24), (isSome_n q41), cd_t, cd_f]) (q )
      refine x_icmp (a' := 35) (pc' := 33) (z := decide ((mA M 0 3) = 2)) rfl rfl rfl rfl (fun q37 => ?_) (fun q37 => ?_)
      · refine x_aload_n (pc' := 36) rfl rfl rfl rfl rfl ?_
        refine x_gR (pc' := 39) (r := (some 0)) rfl rfl rfl (kR_640_0 hc.1) ?_
        refine x_iload_n (pc' := 40) rfl rfl rfl ?_
        refine x_aald (pc' := 41) (N := 5) (k' := 1) (r := (some 3)) rfl rfl rfl (kN_24_0 hc.1) (io_in (p := 3) (N := 5) (by decide) (by decide)) (Eq.trans (congrArg (sE t 24 0) (nn_io (p := 3) (by decide))) (kB hc.1 (by decide))) ?_
        refine x_iload_n (pc' := 42) rfl rfl rfl ?_
        refine x_if (a' := 57) (pc' := 45) (z := true) rfl rfl rfl (by decide) (fun _ => ?_) (fun h => by cases h)
        refine x_iload_n (pc' := 58) rfl rfl rfl ?_
        refine x_cv (ls0 := [_, _]) (rest := []) rfl rfl rfl rfl rfl ?_
        refine x_iload_n (pc' := 1) rfl rfl rfl ?_
        refine x_if (a' := 11) (pc' := 4) (z := true) rfl rfl rfl (by decide) (fun _ => ?_) (fun h => by cases h)
        refine x_aload_n (pc' := 12) rfl rfl rfl rfl rfl ?_
        refine x_gR (pc' := 15) (r := (bsF M n 3 false)) rfl rfl rfl (bs_70 hC (Fc.ri (Fc.refl _) hR) hM (by decide)) ?_
        refine x_reta rfl rfl ?_
        refine sK_i (pc' := 61) rfl ?_
        refine x_reta rfl rfl ?_
        ((try rw [q37] at J39); (try rw [q37]); (try simp only [cd_t, cd_f, nt_t, nt_f, an_t, an_f, or_t, or_f] at J39); (try simp only [cd_t, cd_f, nt_t, nt_f, an_t, an_f, or_t, or_f]); exact J39)
      · refine x_null (pc' := 34) rfl rfl rfl ?_
        refine x_reta rfl rfl ?_
        ((try rw [q37] at J39); (try rw [q37]); (try simp only [cd_t, cd_f, nt_t, nt_f, an_t, an_f, or_t, or_f] at J39); (try simp only [cd_t, cd_f, nt_t, nt_f, an_t, an_f, or_t, or_f]); exact J39)
    · refine x_sipush (pc' := 58) rfl rfl ?_
      refine x_reti rfl rfl ?_
      exact qv (by simp only [cp22fF, (isSome_n q24), cd_t, cd_f]) (q )
  refine x_icmp (a' := 35) (pc' := 33) (z := decide ((mA M 0 4) = 2)) rfl rfl rfl rfl (fun q20 => ?_) (fun q20 => ?_)
  · refine x_aload_n (pc' := 36) rfl rfl rfl rfl rfl ?_
    refine x_gR (pc' := 39) (r := (some 0)) rfl rfl rfl (kR_640_0 hc.1) ?_
    refine x_iload_n (pc' := 40) rfl rfl rfl ?_
    refine x_aald (pc' := 41) (N := 5) (k' := 1) (r := (some 4)) rfl rfl rfl (kN_24_0 hc.1) (io_in (p := 4) (N := 5) (by decide) (by decide)) (Eq.trans (congrArg (sE t 24 0) (nn_io (p := 4) (by decide))) (kB hc.1 (by decide))) ?_
    refine x_iload_n (pc' := 42) rfl rfl rfl ?_
    refine x_if (a' := 57) (pc' := 45) (z := true) rfl rfl rfl (by decide) (fun _ => ?_) (fun h => by cases h)
    refine x_iload_n (pc' := 58) rfl rfl rfl ?_
    refine x_cv (ls0 := [_, _]) (rest := []) rfl rfl rfl rfl rfl ?_
    refine x_iload_n (pc' := 1) rfl rfl rfl ?_
    refine x_if (a' := 11) (pc' := 4) (z := true) rfl rfl rfl (by decide) (fun _ => ?_) (fun h => by cases h)
    refine x_aload_n (pc' := 12) rfl rfl rfl rfl rfl ?_
    refine x_gR (pc' := 15) (r := (bsF M n 4 false)) rfl rfl rfl (bs_70 hC (Fc.ri (Fc.refl _) hR) hM (by decide)) ?_
    refine x_reta rfl rfl ?_
    refine sK_i (pc' := 61) rfl ?_
    refine x_reta rfl rfl ?_
    ((try rw [q20] at J22); (try rw [q20]); (try simp only [cd_t, cd_f, nt_t, nt_f, an_t, an_f, or_t, or_f] at J22); (try simp only [cd_t, cd_f, nt_t, nt_f, an_t, an_f, or_t, or_f]); exact J22)
  · refine x_null (pc' := 34) rfl rfl rfl ?_
    refine x_reta rfl rfl ?_
    ((try rw [q20] at J22); (try rw [q20]); (try simp only [cd_t, cd_f, nt_t, nt_f, an_t, an_f, or_t, or_f] at J22); (try simp only [cd_t, cd_f, nt_t, nt_f, an_t, an_f, or_t, or_f]); exact J22)
def cp22tF (M : sM) (n : Nat) : Int32 := (bif (bif (decide ((mA M 0 4) = 2)) then (bsF M n 4 true) else none).isSome then (bif (bif (decide ((mA M 0 3) = 2)) then (bsF M n 3 true) else none).isSome then (bif (bif (decide ((mA M 0 0) = 2)) then (bsF M n 0 false) else none).isSome then (((0 + (-(mA M 14 (ovD (bif (decide ((mA M 0 4) = 2)) then (bsF M n 4 true) else none))))) + (-(mA M 14 (ovD (bif (decide ((mA M 0 3) = 2)) then (bsF M n 3 true) else none))))) + (mA M 14 (ovD (bif (decide ((mA M 0 0) = 2)) then (bsF M n 0 false) else none)))) else (-10000)) else (-10000)) else (-10000))
set_option maxHeartbeats 4000000 in
set_option maxRecDepth 10000 in
theorem c81_22t {t : sT} {Q : sRs → sT → Prop} {M : sM} {n : Nat} {T : Nat}
    (hM : Rl t M n T)
    (hc : Sf t M n T)
    (hR : Ri M n)
    (hC : rlC t M n)
    (q : Q (.inl (some (.inl (cp22tF M n)))) t) :
    X 81 0 [.inr (.inr (10, (some 0))), .inr (.inr (1, (some 2))), .inl 2, .inl (bz true), sJk, sJk, sJk, sJk] [] t Q := by
  refine x_aload_n (pc' := 1) rfl rfl rfl rfl rfl ?_
  refine x_aload_n (pc' := 2) rfl rfl rfl rfl rfl ?_
  refine x_iload_n (pc' := 3) rfl rfl rfl ?_
  refine x_iconst (pc' := 4) rfl rfl ?_
  refine x_cv (ls0 := [_, _, _, _, sJk, sJk]) (rest := []) rfl rfl rfl rfl rfl ?_
  refine x_aload_n (pc' := 1) rfl rfl rfl rfl rfl ?_
  refine x_gI (pc' := 4) (x := 2) rfl rfl rfl (kI_64_2 hc.1) ?_
  refine x_iconst (pc' := 5) rfl rfl ?_
  refine x_imul (pc' := 6) (z := 6) rfl rfl (by decide) ?_
  refine x_iload_n (pc' := 7) rfl rfl rfl ?_
  refine x_iadd (pc' := 8) (z := 8) rfl rfl (by decide) ?_
  refine x_iconst (pc' := 9) rfl rfl ?_
  refine x_imul (pc' := 10) (z := 24) rfl rfl (by decide) ?_
  refine x_iload_n (pc' := 11) rfl rfl rfl ?_
  refine x_iadd (pc' := 12) (z := 24) rfl rfl (by decide) ?_
  refine x_istore (pc' := 14) (ls' := [_, _, _, _, _, _]) rfl rfl rfl rfl ?_
  refine x_iload_n (pc' := 15) rfl rfl rfl ?_
  refine x_if (a' := 36) (pc' := 18) (z := false) rfl rfl rfl (by decide) (fun h => by cases h) (fun _ => ?_)
  refine x_iload_n (pc' := 19) rfl rfl rfl ?_
  refine x_iconst (pc' := 20) rfl rfl ?_
  refine x_icmp (a' := 36) (pc' := 23) (z := false) rfl rfl rfl (by decide) (fun h => by cases h) (fun _ => ?_)
  refine x_iload_n (pc' := 24) rfl rfl rfl ?_
  refine x_if (a' := 36) (pc' := 27) (z := false) rfl rfl rfl (by decide) (fun h => by cases h) (fun _ => ?_)
  refine x_iload_n (pc' := 28) rfl rfl rfl ?_
  refine x_iconst (pc' := 29) rfl rfl ?_
  refine x_icmp (a' := 36) (pc' := 32) (z := false) rfl rfl rfl (by decide) (fun h => by cases h) (fun _ => ?_)
  refine x_iconst (pc' := 33) rfl rfl ?_
  refine x_goto (pc' := 37) rfl rfl ?_
  refine x_istore (pc' := 39) (ls' := [_, _, _, _, _, _]) rfl rfl rfl rfl ?_
  refine x_iload (pc' := 41) rfl rfl rfl ?_
  refine x_if (a' := 67) (pc' := 44) (z := false) rfl rfl rfl (by decide) (fun h => by cases h) (fun _ => ?_)
  refine x_iload (pc' := 46) rfl rfl rfl ?_
  refine x_if (a' := 67) (pc' := 49) (z := false) rfl rfl rfl (by decide) (fun h => by cases h) (fun _ => ?_)
  refine x_iload (pc' := 51) rfl rfl rfl ?_
  refine x_getstatic (pc' := 54) rfl rfl (show 0 < sC t 28 from gst0 hc.1) ?_
  refine x_alen (pc' := 55) (N := 45) rfl rfl rfl (kN_28_0 hc.1) (?_ : X _ _ _ (.inl 45 :: _) _ _)
  refine x_icmp (a' := 67) (pc' := 58) (z := false) rfl rfl rfl (by decide) (fun h => by cases h) (fun _ => ?_)
  refine x_getstatic (pc' := 61) rfl rfl (show 0 < sC t 28 from gst0 hc.1) ?_
  refine x_iload (pc' := 63) rfl rfl rfl ?_
  refine x_iald (pc' := 64) (N := 45) (x := (-5)) rfl rfl rfl (kN_28_0 hc.1) (io_in (p := 24) (N := 45) (by decide) (by decide)) (Eq.trans (congrArg (sA t 28 0) (nn_io (p := 24) (by decide))) ((hc.1.2.2.2.2.2 24).1.trans rfl)) ?_
  refine x_goto (pc' := 68) rfl rfl ?_
  refine x_reti rfl rfl ?_
  refine sK_i (pc' := 7) rfl ?_
  refine x_if (a' := 14) (pc' := 10) (z := true) rfl rfl rfl (by decide) (fun _ => ?_) (fun h => by cases h)
  refine x_iconst (pc' := 15) rfl rfl ?_
  refine x_istore (pc' := 17) (ls' := [_, _, _, _, _, _, _, _]) rfl rfl rfl rfl ?_
  refine x_iconst (pc' := 18) rfl rfl ?_
  refine x_istore (pc' := 20) (ls' := [_, _, _, _, _, _, _, _]) rfl rfl rfl rfl ?_
  refine x_iload (pc' := 22) rfl rfl rfl ?_
  refine x_iconst (pc' := 23) rfl rfl ?_
  refine x_icmp (a' := 89) (pc' := 26) (z := false) rfl rfl rfl (by decide) (fun h => by cases h) (fun _ => ?_)
  refine x_aload_n (pc' := 27) rfl rfl rfl rfl rfl ?_
  refine x_aload_n (pc' := 28) rfl rfl rfl rfl rfl ?_
  refine x_iload_n (pc' := 29) rfl rfl rfl ?_
  refine x_iload (pc' := 31) rfl rfl rfl ?_
  refine x_cv (ls0 := [_, _, _, _, sJk, sJk]) (rest := []) rfl rfl rfl rfl rfl ?_
  refine x_aload_n (pc' := 1) rfl rfl rfl rfl rfl ?_
  refine x_gI (pc' := 4) (x := 2) rfl rfl rfl (kI_64_2 hc.1) ?_
  refine x_iconst (pc' := 5) rfl rfl ?_
  refine x_imul (pc' := 6) (z := 6) rfl rfl (by decide) ?_
  refine x_iload_n (pc' := 7) rfl rfl rfl ?_
  refine x_iadd (pc' := 8) (z := 8) rfl rfl (by decide) ?_
  refine x_iconst (pc' := 9) rfl rfl ?_
  refine x_imul (pc' := 10) (z := 24) rfl rfl (by decide) ?_
  refine x_iload_n (pc' := 11) rfl rfl rfl ?_
  refine x_iadd (pc' := 12) (z := 24) rfl rfl (by decide) ?_
  refine x_istore (pc' := 14) (ls' := [_, _, _, _, _, _]) rfl rfl rfl rfl ?_
  refine x_iload_n (pc' := 15) rfl rfl rfl ?_
  refine x_if (a' := 36) (pc' := 18) (z := false) rfl rfl rfl (by decide) (fun h => by cases h) (fun _ => ?_)
  refine x_iload_n (pc' := 19) rfl rfl rfl ?_
  refine x_iconst (pc' := 20) rfl rfl ?_
  refine x_icmp (a' := 36) (pc' := 23) (z := false) rfl rfl rfl (by decide) (fun h => by cases h) (fun _ => ?_)
  refine x_iload_n (pc' := 24) rfl rfl rfl ?_
  refine x_if (a' := 36) (pc' := 27) (z := false) rfl rfl rfl (by decide) (fun h => by cases h) (fun _ => ?_)
  refine x_iload_n (pc' := 28) rfl rfl rfl ?_
  refine x_iconst (pc' := 29) rfl rfl ?_
  refine x_icmp (a' := 36) (pc' := 32) (z := false) rfl rfl rfl (by decide) (fun h => by cases h) (fun _ => ?_)
  refine x_iconst (pc' := 33) rfl rfl ?_
  refine x_goto (pc' := 37) rfl rfl ?_
  refine x_istore (pc' := 39) (ls' := [_, _, _, _, _, _]) rfl rfl rfl rfl ?_
  refine x_iload (pc' := 41) rfl rfl rfl ?_
  refine x_if (a' := 67) (pc' := 44) (z := false) rfl rfl rfl (by decide) (fun h => by cases h) (fun _ => ?_)
  refine x_iload (pc' := 46) rfl rfl rfl ?_
  refine x_if (a' := 67) (pc' := 49) (z := false) rfl rfl rfl (by decide) (fun h => by cases h) (fun _ => ?_)
  refine x_iload (pc' := 51) rfl rfl rfl ?_
  refine x_getstatic (pc' := 54) rfl rfl (show 0 < sC t 28 from gst0 hc.1) ?_
  refine x_alen (pc' := 55) (N := 45) rfl rfl rfl (kN_28_0 hc.1) (?_ : X _ _ _ (.inl 45 :: _) _ _)
  refine x_icmp (a' := 67) (pc' := 58) (z := false) rfl rfl rfl (by decide) (fun h => by cases h) (fun _ => ?_)
  refine x_getstatic (pc' := 61) rfl rfl (show 0 < sC t 28 from gst0 hc.1) ?_
  refine x_iload (pc' := 63) rfl rfl rfl ?_
  refine x_iald (pc' := 64) (N := 45) (x := (-5)) rfl rfl rfl (kN_28_0 hc.1) (io_in (p := 24) (N := 45) (by decide) (by decide)) (Eq.trans (congrArg (sA t 28 0) (nn_io (p := 24) (by decide))) ((hc.1.2.2.2.2.2 24).1.trans rfl)) ?_
  refine x_goto (pc' := 68) rfl rfl ?_
  refine x_reti rfl rfl ?_
  refine sK_i (pc' := 34) rfl ?_
  refine x_istore (pc' := 36) (ls' := [_, _, _, _, _, _, _, _]) rfl rfl rfl rfl ?_
  refine x_iload (pc' := 38) rfl rfl rfl ?_
  refine x_if (a' := 83) (pc' := 41) (z := false) rfl rfl rfl (by decide) (fun h => by cases h) (fun _ => ?_)
  refine x_aload_n (pc' := 42) rfl rfl rfl rfl rfl ?_
  refine x_iload (pc' := 44) rfl rfl rfl ?_
  refine x_iload_n (pc' := 45) rfl rfl rfl ?_
  refine x_cv (ls0 := [_, _, _, sJk]) (rest := []) rfl rfl rfl rfl rfl ?_
  refine x_iload_n (pc' := 1) rfl rfl rfl ?_
  refine x_abs (pc' := 4) (z := 5) rfl rfl rfl (by decide) ?_
  refine x_iconst (pc' := 5) rfl rfl ?_
  refine x_isub (pc' := 6) (z := 4) rfl rfl (by decide) ?_
  refine x_istore_n (pc' := 7) (ls' := [_, _, _, _]) rfl rfl rfl rfl ?_
  refine x_iload_n (pc' := 8) rfl rfl rfl ?_
  refine x_if (a' := 33) (pc' := 11) (z := false) rfl rfl rfl (by decide) (fun h => by cases h) (fun _ => ?_)
  refine x_iload_n (pc' := 12) rfl rfl rfl ?_
  refine x_aload_n (pc' := 13) rfl rfl rfl rfl rfl ?_
  refine x_gR (pc' := 16) (r := (some 0)) rfl rfl rfl (kR_640_0 hc.1) ?_
  refine x_alen (pc' := 17) (N := 5) rfl rfl rfl (kN_24_0 hc.1) (?_ : X _ _ _ (.inl 5 :: _) _ _)
  refine x_icmp (a' := 33) (pc' := 20) (z := false) rfl rfl rfl (by decide) (fun h => by cases h) (fun _ => ?_)
  refine x_aload_n (pc' := 21) rfl rfl rfl rfl rfl ?_
  refine x_gR (pc' := 24) (r := (some 0)) rfl rfl rfl (kR_640_0 hc.1) ?_
  refine x_iload_n (pc' := 25) rfl rfl rfl ?_
  refine x_aald (pc' := 26) (N := 5) (k' := 1) (r := (some 4)) rfl rfl rfl (kN_24_0 hc.1) (io_in (p := 4) (N := 5) (by decide) (by decide)) (Eq.trans (congrArg (sE t 24 0) (nn_io (p := 4) (by decide))) (kB hc.1 (by decide))) ?_
  refine x_gI (pc' := 29) (x := (mA M 0 4)) rfl rfl rfl (kA hM rfl (show 4 < 5 by decide)) ?_
  refine x_iconst (pc' := 30) rfl rfl ?_
  have J22 : ((sK 79 81 45 [.inr (.inr (10, (some 0))), .inr (.inr (1, (some 2))), .inl 2, .inl (bz true), .inl 0, .inl 0, .inl (-5), sJk] [] Q) : sRs → sT → Prop) (.inl (some (.inr (.inr (8, (bif (decide ((mA M 0 4) = 2)) then (bsF M n 4 true) else none)))))) t := by
    refine sK_i (pc' := 48) rfl ?_
    refine x_astore (pc' := 50) (ls' := [_, _, _, _, _, _, _, _]) rfl rfl rfl rfl rfl ?_
    refine x_aload (pc' := 52) rfl rfl rfl rfl rfl ?_
    refine x_ifnonnull (a' := 59) (pc' := 55) rfl rfl rfl rfl (fun j0 q24 => ?_) (fun q24 => ?_)
    · refine x_iload (pc' := 61) rfl rfl rfl ?_
      refine x_iload (pc' := 63) rfl rfl rfl ?_
      refine x_if (a' := 74) (pc' := 66) (z := true) rfl rfl rfl (by decide) (fun _ => ?_) (fun h => by cases h)
      refine x_aload (pc' := 76) rfl rfl rfl rfl (ovD_s q24) ?_
      refine x_gI (pc' := 79) (x := (mA M 14 (ovD (bif (decide ((mA M 0 4) = 2)) then (bsF M n 4 true) else none)))) rfl rfl rfl ((kA hM rfl (ovD_lt (obd_c bsF_lt obd_n) q24)).trans (congrFun (Fc.f14 (Fc.refl _)) _)) ?_
      refine x_ineg (pc' := 80) rfl rfl rfl ?_
      refine x_iadd (pc' := 81) (z := (0 + (-(mA M 14 (ovD (bif (decide ((mA M 0 4) = 2)) then (bsF M n 4 true) else none)))))) rfl rfl rfl ?_
      refine x_istore (pc' := 83) (ls' := [_, _, _, _, _, _, _, _]) rfl rfl rfl rfl ?_
      refine x_iinc (pc' := 86) (y := 1) (ls' := [_, _, _, _, _, _, _, _]) rfl rfl rfl rfl rfl ?_
      refine x_goto (pc' := 20) rfl rfl ?_
      refine x_iload (pc' := 22) rfl rfl rfl ?_
      refine x_iconst (pc' := 23) rfl rfl ?_
      refine x_icmp (a' := 89) (pc' := 26) (z := false) rfl rfl rfl (by decide) (fun h => by cases h) (fun _ => ?_)
      refine x_aload_n (pc' := 27) rfl rfl rfl rfl rfl ?_
      refine x_aload_n (pc' := 28) rfl rfl rfl rfl rfl ?_
      refine x_iload_n (pc' := 29) rfl rfl rfl ?_
      refine x_iload (pc' := 31) rfl rfl rfl ?_
      refine x_cv (ls0 := [_, _, _, _, sJk, sJk]) (rest := []) rfl rfl rfl rfl rfl ?_
      refine x_aload_n (pc' := 1) rfl rfl rfl rfl rfl ?_
      refine x_gI (pc' := 4) (x := 2) rfl rfl rfl (kI_64_2 hc.1) ?_
      refine x_iconst (pc' := 5) rfl rfl ?_
      refine x_imul (pc' := 6) (z := 6) rfl rfl (by decide) ?_
      refine x_iload_n (pc' := 7) rfl rfl rfl ?_
      refine x_iadd (pc' := 8) (z := 8) rfl rfl (by decide) ?_
      refine x_iconst (pc' := 9) rfl rfl ?_
      refine x_imul (pc' := 10) (z := 24) rfl rfl (by decide) ?_
      refine x_iload_n (pc' := 11) rfl rfl rfl ?_
      refine x_iadd (pc' := 12) (z := 25) rfl rfl (by decide) ?_
      refine x_istore (pc' := 14) (ls' := [_, _, _, _, _, _]) rfl rfl rfl rfl ?_
      refine x_iload_n (pc' := 15) rfl rfl rfl ?_
      refine x_if (a' := 36) (pc' := 18) (z := false) rfl rfl rfl (by decide) (fun h => by cases h) (fun _ => ?_)
      refine x_iload_n (pc' := 19) rfl rfl rfl ?_
      refine x_iconst (pc' := 20) rfl rfl ?_
      refine x_icmp (a' := 36) (pc' := 23) (z := false) rfl rfl rfl (by decide) (fun h => by cases h) (fun _ => ?_)
      refine x_iload_n (pc' := 24) rfl rfl rfl ?_
      refine x_if (a' := 36) (pc' := 27) (z := false) rfl rfl rfl (by decide) (fun h => by cases h) (fun _ => ?_)
      refine x_iload_n (pc' := 28) rfl rfl rfl ?_
      refine x_iconst (pc' := 29) rfl rfl ?_
      refine x_icmp (a' := 36) (pc' := 32) (z := false) rfl rfl rfl (by decide) (fun h => by cases h) (fun _ => ?_)
      refine x_iconst (pc' := 33) rfl rfl ?_
      refine x_goto (pc' := 37) rfl rfl ?_
      refine x_istore (pc' := 39) (ls' := [_, _, _, _, _, _]) rfl rfl rfl rfl ?_
      refine x_iload (pc' := 41) rfl rfl rfl ?_
      refine x_if (a' := 67) (pc' := 44) (z := false) rfl rfl rfl (by decide) (fun h => by cases h) (fun _ => ?_)
      refine x_iload (pc' := 46) rfl rfl rfl ?_
      refine x_if (a' := 67) (pc' := 49) (z := false) rfl rfl rfl (by decide) (fun h => by cases h) (fun _ => ?_)
      refine x_iload (pc' := 51) rfl rfl rfl ?_
      refine x_getstatic (pc' := 54) rfl rfl (show 0 < sC t 28 from gst0 hc.1) ?_
      refine x_alen (pc' := 55) (N := 45) rfl rfl rfl (kN_28_0 hc.1) (?_ : X _ _ _ (.inl 45 :: _) _ _)
      refine x_icmp (a' := 67) (pc' := 58) (z := false) rfl rfl rfl (by decide) (fun h => by cases h) (fun _ => ?_)
      refine x_getstatic (pc' := 61) rfl rfl (show 0 < sC t 28 from gst0 hc.1) ?_
      refine x_iload (pc' := 63) rfl rfl rfl ?_
      refine x_iald (pc' := 64) (N := 45) (x := (-4)) rfl rfl rfl (kN_28_0 hc.1) (io_in (p := 25) (N := 45) (by decide) (by decide)) (Eq.trans (congrArg (sA t 28 0) (nn_io (p := 25) (by decide))) ((hc.1.2.2.2.2.2 25).1.trans rfl)) ?_
      refine x_goto (pc' := 68) rfl rfl ?_
      refine x_reti rfl rfl ?_
      refine sK_i (pc' := 34) rfl ?_
      refine x_istore (pc' := 36) (ls' := [_, _, _, _, _, _, _, _]) rfl rfl rfl rfl ?_
      refine x_iload (pc' := 38) rfl rfl rfl ?_
      refine x_if (a' := 83) (pc' := 41) (z := false) rfl rfl rfl (by decide) (fun h => by cases h) (fun _ => ?_)
      refine x_aload_n (pc' := 42) rfl rfl rfl rfl rfl ?_
      refine x_iload (pc' := 44) rfl rfl rfl ?_
      refine x_iload_n (pc' := 45) rfl rfl rfl ?_
      refine x_cv (ls0 := [_, _, _, sJk]) (rest := []) rfl rfl rfl rfl rfl ?_
      refine x_iload_n (pc' := 1) rfl rfl rfl ?_
      refine x_abs (pc' := 4) (z := 4) rfl rfl rfl (by decide) ?_
      refine x_iconst (pc' := 5) rfl rfl ?_
      refine x_isub (pc' := 6) (z := 3) rfl rfl (by decide) ?_
      refine x_istore_n (pc' := 7) (ls' := [_, _, _, _]) rfl rfl rfl rfl ?_
      refine x_iload_n (pc' := 8) rfl rfl rfl ?_
      refine x_if (a' := 33) (pc' := 11) (z := false) rfl rfl rfl (by decide) (fun h => by cases h) (fun _ => ?_)
      refine x_iload_n (pc' := 12) rfl rfl rfl ?_
      refine x_aload_n (pc' := 13) rfl rfl rfl rfl rfl ?_
      refine x_gR (pc' := 16) (r := (some 0)) rfl rfl rfl (kR_640_0 hc.1) ?_
      refine x_alen (pc' := 17) (N := 5) rfl rfl rfl (kN_24_0 hc.1) (?_ : X _ _ _ (.inl 5 :: _) _ _)
      refine x_icmp (a' := 33) (pc' := 20) (z := false) rfl rfl rfl (by decide) (fun h => by cases h) (fun _ => ?_)
      refine x_aload_n (pc' := 21) rfl rfl rfl rfl rfl ?_
      refine x_gR (pc' := 24) (r := (some 0)) rfl rfl rfl (kR_640_0 hc.1) ?_
      refine x_iload_n (pc' := 25) rfl rfl rfl ?_
      refine x_aald (pc' := 26) (N := 5) (k' := 1) (r := (some 3)) rfl rfl rfl (kN_24_0 hc.1) (io_in (p := 3) (N := 5) (by decide) (by decide)) (Eq.trans (congrArg (sE t 24 0) (nn_io (p := 3) (by decide))) (kB hc.1 (by decide))) ?_
      refine x_gI (pc' := 29) (x := (mA M 0 3)) rfl rfl rfl (kA hM rfl (show 3 < 5 by decide)) ?_
      refine x_iconst (pc' := 30) rfl rfl ?_
      have J39 : ((sK 79 81 45 [.inr (.inr (10, (some 0))), .inr (.inr (1, (some 2))), .inl 2, .inl (bz true), .inl (0 + (-(mA M 14 (ovD (bif (decide ((mA M 0 4) = 2)) then (bsF M n 4 true) else none))))), .inl 1, .inl (-4), .inr (.inr (8, (bif (decide ((mA M 0 4) = 2)) then (bsF M n 4 true) else none)))] [] Q) : sRs → sT → Prop) (.inl (some (.inr (.inr (8, (bif (decide ((mA M 0 3) = 2)) then (bsF M n 3 true) else none)))))) t := by
        refine sK_i (pc' := 48) rfl ?_
        refine x_astore (pc' := 50) (ls' := [_, _, _, _, _, _, _, _]) rfl rfl rfl rfl rfl ?_
        refine x_aload (pc' := 52) rfl rfl rfl rfl rfl ?_
        refine x_ifnonnull (a' := 59) (pc' := 55) rfl rfl rfl rfl (fun j1 q41 => ?_) (fun q41 => ?_)
        · refine x_iload (pc' := 61) rfl rfl rfl ?_
          refine x_iload (pc' := 63) rfl rfl rfl ?_
          refine x_if (a' := 74) (pc' := 66) (z := true) rfl rfl rfl (by decide) (fun _ => ?_) (fun h => by cases h)
          refine x_aload (pc' := 76) rfl rfl rfl rfl (ovD_s q41) ?_
          refine x_gI (pc' := 79) (x := (mA M 14 (ovD (bif (decide ((mA M 0 3) = 2)) then (bsF M n 3 true) else none)))) rfl rfl rfl ((kA hM rfl (ovD_lt (obd_c bsF_lt obd_n) q41)).trans (congrFun (Fc.f14 (Fc.refl _)) _)) ?_
          refine x_ineg (pc' := 80) rfl rfl rfl ?_
          refine x_iadd (pc' := 81) (z := ((0 + (-(mA M 14 (ovD (bif (decide ((mA M 0 4) = 2)) then (bsF M n 4 true) else none))))) + (-(mA M 14 (ovD (bif (decide ((mA M 0 3) = 2)) then (bsF M n 3 true) else none)))))) rfl rfl rfl ?_
          refine x_istore (pc' := 83) (ls' := [_, _, _, _, _, _, _, _]) rfl rfl rfl rfl ?_
          refine x_iinc (pc' := 86) (y := 2) (ls' := [_, _, _, _, _, _, _, _]) rfl rfl rfl rfl rfl ?_
          refine x_goto (pc' := 20) rfl rfl ?_
          refine x_iload (pc' := 22) rfl rfl rfl ?_
          refine x_iconst (pc' := 23) rfl rfl ?_
          refine x_icmp (a' := 89) (pc' := 26) (z := false) rfl rfl rfl (by decide) (fun h => by cases h) (fun _ => ?_)
          refine x_aload_n (pc' := 27) rfl rfl rfl rfl rfl ?_
          refine x_aload_n (pc' := 28) rfl rfl rfl rfl rfl ?_
          refine x_iload_n (pc' := 29) rfl rfl rfl ?_
          refine x_iload (pc' := 31) rfl rfl rfl ?_
          refine x_cv (ls0 := [_, _, _, _, sJk, sJk]) (rest := []) rfl rfl rfl rfl rfl ?_
          refine x_aload_n (pc' := 1) rfl rfl rfl rfl rfl ?_
          refine x_gI (pc' := 4) (x := 2) rfl rfl rfl (kI_64_2 hc.1) ?_
          refine x_iconst (pc' := 5) rfl rfl ?_
          refine x_imul (pc' := 6) (z := 6) rfl rfl (by decide) ?_
          refine x_iload_n (pc' := 7) rfl rfl rfl ?_
          refine x_iadd (pc' := 8) (z := 8) rfl rfl (by decide) ?_
          refine x_iconst (pc' := 9) rfl rfl ?_
          refine x_imul (pc' := 10) (z := 24) rfl rfl (by decide) ?_
          refine x_iload_n (pc' := 11) rfl rfl rfl ?_
          refine x_iadd (pc' := 12) (z := 26) rfl rfl (by decide) ?_
          refine x_istore (pc' := 14) (ls' := [_, _, _, _, _, _]) rfl rfl rfl rfl ?_
          refine x_iload_n (pc' := 15) rfl rfl rfl ?_
          refine x_if (a' := 36) (pc' := 18) (z := false) rfl rfl rfl (by decide) (fun h => by cases h) (fun _ => ?_)
          refine x_iload_n (pc' := 19) rfl rfl rfl ?_
          refine x_iconst (pc' := 20) rfl rfl ?_
          refine x_icmp (a' := 36) (pc' := 23) (z := false) rfl rfl rfl (by decide) (fun h => by cases h) (fun _ => ?_)
          refine x_iload_n (pc' := 24) rfl rfl rfl ?_
          refine x_if (a' := 36) (pc' := 27) (z := false) rfl rfl rfl (by decide) (fun h => by cases h) (fun _ => ?_)
          refine x_iload_n (pc' := 28) rfl rfl rfl ?_
          refine x_iconst (pc' := 29) rfl rfl ?_
          refine x_icmp (a' := 36) (pc' := 32) (z := false) rfl rfl rfl (by decide) (fun h => by cases h) (fun _ => ?_)
          refine x_iconst (pc' := 33) rfl rfl ?_
          refine x_goto (pc' := 37) rfl rfl ?_
          refine x_istore (pc' := 39) (ls' := [_, _, _, _, _, _]) rfl rfl rfl rfl ?_
          refine x_iload (pc' := 41) rfl rfl rfl ?_
          refine x_if (a' := 67) (pc' := 44) (z := false) rfl rfl rfl (by decide) (fun h => by cases h) (fun _ => ?_)
          refine x_iload (pc' := 46) rfl rfl rfl ?_
          refine x_if (a' := 67) (pc' := 49) (z := false) rfl rfl rfl (by decide) (fun h => by cases h) (fun _ => ?_)
          refine x_iload (pc' := 51) rfl rfl rfl ?_
          refine x_getstatic (pc' := 54) rfl rfl (show 0 < sC t 28 from gst0 hc.1) ?_
          refine x_alen (pc' := 55) (N := 45) rfl rfl rfl (kN_28_0 hc.1) (?_ : X _ _ _ (.inl 45 :: _) _ _)
          refine x_icmp (a' := 67) (pc' := 58) (z := false) rfl rfl rfl (by decide) (fun h => by cases h) (fun _ => ?_)
          refine x_getstatic (pc' := 61) rfl rfl (show 0 < sC t 28 from gst0 hc.1) ?_
          refine x_iload (pc' := 63) rfl rfl rfl ?_
          refine x_iald (pc' := 64) (N := 45) (x := 1) rfl rfl rfl (kN_28_0 hc.1) (io_in (p := 26) (N := 45) (by decide) (by decide)) (Eq.trans (congrArg (sA t 28 0) (nn_io (p := 26) (by decide))) ((hc.1.2.2.2.2.2 26).1.trans rfl)) ?_
          refine x_goto (pc' := 68) rfl rfl ?_
          refine x_reti rfl rfl ?_
          refine sK_i (pc' := 34) rfl ?_
          refine x_istore (pc' := 36) (ls' := [_, _, _, _, _, _, _, _]) rfl rfl rfl rfl ?_
          refine x_iload (pc' := 38) rfl rfl rfl ?_
          refine x_if (a' := 83) (pc' := 41) (z := false) rfl rfl rfl (by decide) (fun h => by cases h) (fun _ => ?_)
          refine x_aload_n (pc' := 42) rfl rfl rfl rfl rfl ?_
          refine x_iload (pc' := 44) rfl rfl rfl ?_
          refine x_iload_n (pc' := 45) rfl rfl rfl ?_
          refine x_cv (ls0 := [_, _, _, sJk]) (rest := []) rfl rfl rfl rfl rfl ?_
          refine x_iload_n (pc' := 1) rfl rfl rfl ?_
          refine x_abs (pc' := 4) (z := 1) rfl rfl rfl (by decide) ?_
          refine x_iconst (pc' := 5) rfl rfl ?_
          refine x_isub (pc' := 6) (z := 0) rfl rfl (by decide) ?_
          refine x_istore_n (pc' := 7) (ls' := [_, _, _, _]) rfl rfl rfl rfl ?_
          refine x_iload_n (pc' := 8) rfl rfl rfl ?_
          refine x_if (a' := 33) (pc' := 11) (z := false) rfl rfl rfl (by decide) (fun h => by cases h) (fun _ => ?_)
          refine x_iload_n (pc' := 12) rfl rfl rfl ?_
          refine x_aload_n (pc' := 13) rfl rfl rfl rfl rfl ?_
          refine x_gR (pc' := 16) (r := (some 0)) rfl rfl rfl (kR_640_0 hc.1) ?_
          refine x_alen (pc' := 17) (N := 5) rfl rfl rfl (kN_24_0 hc.1) (?_ : X _ _ _ (.inl 5 :: _) _ _)
          refine x_icmp (a' := 33) (pc' := 20) (z := false) rfl rfl rfl (by decide) (fun h => by cases h) (fun _ => ?_)
          refine x_aload_n (pc' := 21) rfl rfl rfl rfl rfl ?_
          refine x_gR (pc' := 24) (r := (some 0)) rfl rfl rfl (kR_640_0 hc.1) ?_
          refine x_iload_n (pc' := 25) rfl rfl rfl ?_
          refine x_aald (pc' := 26) (N := 5) (k' := 1) (r := (some 0)) rfl rfl rfl (kN_24_0 hc.1) (io_in (p := 0) (N := 5) (by decide) (by decide)) (Eq.trans (congrArg (sE t 24 0) (nn_io (p := 0) (by decide))) (kB hc.1 (by decide))) ?_
          refine x_gI (pc' := 29) (x := (mA M 0 0)) rfl rfl rfl (kA hM rfl (show 0 < 5 by decide)) ?_
          refine x_iconst (pc' := 30) rfl rfl ?_
          have J57 : ((sK 79 81 45 [.inr (.inr (10, (some 0))), .inr (.inr (1, (some 2))), .inl 2, .inl (bz true), .inl ((0 + (-(mA M 14 (ovD (bif (decide ((mA M 0 4) = 2)) then (bsF M n 4 true) else none))))) + (-(mA M 14 (ovD (bif (decide ((mA M 0 3) = 2)) then (bsF M n 3 true) else none))))), .inl 2, .inl 1, .inr (.inr (8, (bif (decide ((mA M 0 3) = 2)) then (bsF M n 3 true) else none)))] [] Q) : sRs → sT → Prop) (.inl (some (.inr (.inr (8, (bif (decide ((mA M 0 0) = 2)) then (bsF M n 0 false) else none)))))) t := by
            refine sK_i (pc' := 48) rfl ?_
            refine x_astore (pc' := 50) (ls' := [_, _, _, _, _, _, _, _]) rfl rfl rfl rfl rfl ?_
            refine x_aload (pc' := 52) rfl rfl rfl rfl rfl ?_
            refine x_ifnonnull (a' := 59) (pc' := 55) rfl rfl rfl rfl (fun j2 q59 => ?_) (fun q59 => ?_)
            · refine x_iload (pc' := 61) rfl rfl rfl ?_
              refine x_iload (pc' := 63) rfl rfl rfl ?_
              refine x_if (a' := 74) (pc' := 66) (z := false) rfl rfl rfl (by decide) (fun h => by cases h) (fun _ => ?_)
              refine x_aload (pc' := 68) rfl rfl rfl rfl (ovD_s q59) ?_
              refine x_gI (pc' := 71) (x := (mA M 14 (ovD (bif (decide ((mA M 0 0) = 2)) then (bsF M n 0 false) else none)))) rfl rfl rfl ((kA hM rfl (ovD_lt (obd_c bsF_lt obd_n) q59)).trans (congrFun (Fc.f14 (Fc.refl _)) _)) ?_
              refine x_goto (pc' := 80) rfl rfl ?_
              refine x_iadd (pc' := 81) (z := (((0 + (-(mA M 14 (ovD (bif (decide ((mA M 0 4) = 2)) then (bsF M n 4 true) else none))))) + (-(mA M 14 (ovD (bif (decide ((mA M 0 3) = 2)) then (bsF M n 3 true) else none))))) + (mA M 14 (ovD (bif (decide ((mA M 0 0) = 2)) then (bsF M n 0 false) else none))))) rfl rfl rfl ?_
              refine x_istore (pc' := 83) (ls' := [_, _, _, _, _, _, _, _]) rfl rfl rfl rfl ?_
              refine x_iinc (pc' := 86) (y := 3) (ls' := [_, _, _, _, _, _, _, _]) rfl rfl rfl rfl rfl ?_
              refine x_goto (pc' := 20) rfl rfl ?_
              refine x_iload (pc' := 22) rfl rfl rfl ?_
              refine x_iconst (pc' := 23) rfl rfl ?_
              refine x_icmp (a' := 89) (pc' := 26) (z := true) rfl rfl rfl (by decide) (fun _ => ?_) (fun h => by cases h)
              refine x_iload (pc' := 91) rfl rfl rfl ?_
              refine x_reti rfl rfl ?_
              exact qv (by simp only [cp22tF, (isSome_s q24), (isSome_s q41), (isSome_s q59), cd_t, cd_f]) (q )
            · refine x_sipush (pc' := 58) rfl rfl ?_
              refine x_reti rfl rfl ?_
              exact qv (by simp only [cp22tF, (isSome_s q24), (isSome_s q41), (isSome_n q59), cd_t, cd_f]) (q )
          refine x_icmp (a' := 35) (pc' := 33) (z := decide ((mA M 0 0) = 2)) rfl rfl rfl rfl (fun q54 => ?_) (fun q54 => ?_)
          · refine x_aload_n (pc' := 36) rfl rfl rfl rfl rfl ?_
            refine x_gR (pc' := 39) (r := (some 0)) rfl rfl rfl (kR_640_0 hc.1) ?_
            refine x_iload_n (pc' := 40) rfl rfl rfl ?_
            refine x_aald (pc' := 41) (N := 5) (k' := 1) (r := (some 0)) rfl rfl rfl (kN_24_0 hc.1) (io_in (p := 0) (N := 5) (by decide) (by decide)) (Eq.trans (congrArg (sE t 24 0) (nn_io (p := 0) (by decide))) (kB hc.1 (by decide))) ?_
            refine x_iload_n (pc' := 42) rfl rfl rfl ?_
            refine x_if (a' := 57) (pc' := 45) (z := false) rfl rfl rfl (by decide) (fun h => by cases h) (fun _ => ?_)
            refine x_iload_n (pc' := 46) rfl rfl rfl ?_
            refine x_if (a' := 53) (pc' := 49) (z := true) rfl rfl rfl (by decide) (fun _ => ?_) (fun h => by cases h)
            refine x_iconst (pc' := 54) rfl rfl ?_
            refine x_goto (pc' := 58) rfl rfl ?_
            refine x_cv (ls0 := [_, _]) (rest := []) rfl rfl rfl rfl rfl ?_
            refine x_iload_n (pc' := 1) rfl rfl rfl ?_
            refine x_if (a' := 11) (pc' := 4) (z := true) rfl rfl rfl (by decide) (fun _ => ?_) (fun h => by cases h)
            refine x_aload_n (pc' := 12) rfl rfl rfl rfl rfl ?_
            refine x_gR (pc' := 15) (r := (bsF M n 0 false)) rfl rfl rfl (bs_70 hC (Fc.ri (Fc.refl _) hR) hM (by decide)) ?_
            refine x_reta rfl rfl ?_
            refine sK_i (pc' := 61) rfl ?_
            refine x_reta rfl rfl ?_
            ((try rw [q54] at J57); (try rw [q54]); (try simp only [cd_t, cd_f, nt_t, nt_f, an_t, an_f, or_t, or_f] at J57); (try simp only [cd_t, cd_f, nt_t, nt_f, an_t, an_f, or_t, or_f]); exact J57)
          · refine x_null (pc' := 34) rfl rfl rfl ?_
            refine x_reta rfl rfl ?_
            ((try rw [q54] at J57); (try rw [q54]); (try simp only [cd_t, cd_f, nt_t, nt_f, an_t, an_f, or_t, or_f] at J57); (try simp only [cd_t, cd_f, nt_t, nt_f, an_t, an_f, or_t, or_f]); exact J57)
        · refine x_sipush (pc' := 58) rfl rfl ?_
          refine x_reti rfl rfl ?_
          exact qv (by simp only [cp22tF, (isSome_s q24), (isSome_n q41), cd_t, cd_f]) (q )
      refine x_icmp (a' := 35) (pc' := 33) (z := decide ((mA M 0 3) = 2)) rfl rfl rfl rfl (fun q37 => ?_) (fun q37 => ?_)
      · refine x_aload_n (pc' := 36) rfl rfl rfl rfl rfl ?_
        refine x_gR (pc' := 39) (r := (some 0)) rfl rfl rfl (kR_640_0 hc.1) ?_
        refine x_iload_n (pc' := 40) rfl rfl rfl ?_
        refine x_aald (pc' := 41) (N := 5) (k' := 1) (r := (some 3)) rfl rfl rfl (kN_24_0 hc.1) (io_in (p := 3) (N := 5) (by decide) (by decide)) (Eq.trans (congrArg (sE t 24 0) (nn_io (p := 3) (by decide))) (kB hc.1 (by decide))) ?_
        refine x_iload_n (pc' := 42) rfl rfl rfl ?_
        refine x_if (a' := 57) (pc' := 45) (z := true) rfl rfl rfl (by decide) (fun _ => ?_) (fun h => by cases h)
        refine x_iload_n (pc' := 58) rfl rfl rfl ?_
        refine x_cv (ls0 := [_, _]) (rest := []) rfl rfl rfl rfl rfl ?_
        refine x_iload_n (pc' := 1) rfl rfl rfl ?_
        refine x_if (a' := 11) (pc' := 4) (z := false) rfl rfl rfl (by decide) (fun h => by cases h) (fun _ => ?_)
        refine x_aload_n (pc' := 5) rfl rfl rfl rfl rfl ?_
        refine x_gR (pc' := 8) (r := (bsF M n 3 true)) rfl rfl rfl (bs_69 hC (Fc.ri (Fc.refl _) hR) hM (by decide)) ?_
        refine x_goto (pc' := 15) rfl rfl ?_
        refine x_reta rfl rfl ?_
        refine sK_i (pc' := 61) rfl ?_
        refine x_reta rfl rfl ?_
        ((try rw [q37] at J39); (try rw [q37]); (try simp only [cd_t, cd_f, nt_t, nt_f, an_t, an_f, or_t, or_f] at J39); (try simp only [cd_t, cd_f, nt_t, nt_f, an_t, an_f, or_t, or_f]); exact J39)
      · refine x_null (pc' := 34) rfl rfl rfl ?_
        refine x_reta rfl rfl ?_
        ((try rw [q37] at J39); (try rw [q37]); (try simp only [cd_t, cd_f, nt_t, nt_f, an_t, an_f, or_t, or_f] at J39); (try simp only [cd_t, cd_f, nt_t, nt_f, an_t, an_f, or_t, or_f]); exact J39)
    · refine x_sipush (pc' := 58) rfl rfl ?_
      refine x_reti rfl rfl ?_
      exact qv (by simp only [cp22tF, (isSome_n q24), cd_t, cd_f]) (q )
  refine x_icmp (a' := 35) (pc' := 33) (z := decide ((mA M 0 4) = 2)) rfl rfl rfl rfl (fun q20 => ?_) (fun q20 => ?_)
  · refine x_aload_n (pc' := 36) rfl rfl rfl rfl rfl ?_
    refine x_gR (pc' := 39) (r := (some 0)) rfl rfl rfl (kR_640_0 hc.1) ?_
    refine x_iload_n (pc' := 40) rfl rfl rfl ?_
    refine x_aald (pc' := 41) (N := 5) (k' := 1) (r := (some 4)) rfl rfl rfl (kN_24_0 hc.1) (io_in (p := 4) (N := 5) (by decide) (by decide)) (Eq.trans (congrArg (sE t 24 0) (nn_io (p := 4) (by decide))) (kB hc.1 (by decide))) ?_
    refine x_iload_n (pc' := 42) rfl rfl rfl ?_
    refine x_if (a' := 57) (pc' := 45) (z := true) rfl rfl rfl (by decide) (fun _ => ?_) (fun h => by cases h)
    refine x_iload_n (pc' := 58) rfl rfl rfl ?_
    refine x_cv (ls0 := [_, _]) (rest := []) rfl rfl rfl rfl rfl ?_
    refine x_iload_n (pc' := 1) rfl rfl rfl ?_
    refine x_if (a' := 11) (pc' := 4) (z := false) rfl rfl rfl (by decide) (fun h => by cases h) (fun _ => ?_)
    refine x_aload_n (pc' := 5) rfl rfl rfl rfl rfl ?_
    refine x_gR (pc' := 8) (r := (bsF M n 4 true)) rfl rfl rfl (bs_69 hC (Fc.ri (Fc.refl _) hR) hM (by decide)) ?_
    refine x_goto (pc' := 15) rfl rfl ?_
    refine x_reta rfl rfl ?_
    refine sK_i (pc' := 61) rfl ?_
    refine x_reta rfl rfl ?_
    ((try rw [q20] at J22); (try rw [q20]); (try simp only [cd_t, cd_f, nt_t, nt_f, an_t, an_f, or_t, or_f] at J22); (try simp only [cd_t, cd_f, nt_t, nt_f, an_t, an_f, or_t, or_f]); exact J22)
  · refine x_null (pc' := 34) rfl rfl rfl ?_
    refine x_reta rfl rfl ?_
    ((try rw [q20] at J22); (try rw [q20]); (try simp only [cd_t, cd_f, nt_t, nt_f, an_t, an_f, or_t, or_f] at J22); (try simp only [cd_t, cd_f, nt_t, nt_f, an_t, an_f, or_t, or_f]); exact J22)
def cp30fF (M : sM) (n : Nat) : Int32 := (bif (bif (decide ((mA M 0 3) = 2)) then (bsF M n 3 true) else none).isSome then (0 + (mA M 14 (ovD (bif (decide ((mA M 0 3) = 2)) then (bsF M n 3 true) else none)))) else (-10000))
set_option maxHeartbeats 4000000 in
set_option maxRecDepth 10000 in
theorem c81_30f {t : sT} {Q : sRs → sT → Prop} {M : sM} {n : Nat} {T : Nat}
    (hM : Rl t M n T)
    (hc : Sf t M n T)
    (hR : Ri M n)
    (hC : rlC t M n)
    (q : Q (.inl (some (.inl (cp30fF M n)))) t) :
    X 81 0 [.inr (.inr (10, (some 0))), .inr (.inr (1, (some 3))), .inl 0, .inl (bz false), sJk, sJk, sJk, sJk] [] t Q := by
  refine x_aload_n (pc' := 1) rfl rfl rfl rfl rfl ?_
  refine x_aload_n (pc' := 2) rfl rfl rfl rfl rfl ?_
  refine x_iload_n (pc' := 3) rfl rfl rfl ?_
  refine x_iconst (pc' := 4) rfl rfl ?_
  refine x_cv (ls0 := [_, _, _, _, sJk, sJk]) (rest := []) rfl rfl rfl rfl rfl ?_
  refine x_aload_n (pc' := 1) rfl rfl rfl rfl rfl ?_
  refine x_gI (pc' := 4) (x := 3) rfl rfl rfl (kI_64_3 hc.1) ?_
  refine x_iconst (pc' := 5) rfl rfl ?_
  refine x_imul (pc' := 6) (z := 9) rfl rfl (by decide) ?_
  refine x_iload_n (pc' := 7) rfl rfl rfl ?_
  refine x_iadd (pc' := 8) (z := 9) rfl rfl (by decide) ?_
  refine x_iconst (pc' := 9) rfl rfl ?_
  refine x_imul (pc' := 10) (z := 27) rfl rfl (by decide) ?_
  refine x_iload_n (pc' := 11) rfl rfl rfl ?_
  refine x_iadd (pc' := 12) (z := 27) rfl rfl (by decide) ?_
  refine x_istore (pc' := 14) (ls' := [_, _, _, _, _, _]) rfl rfl rfl rfl ?_
  refine x_iload_n (pc' := 15) rfl rfl rfl ?_
  refine x_if (a' := 36) (pc' := 18) (z := false) rfl rfl rfl (by decide) (fun h => by cases h) (fun _ => ?_)
  refine x_iload_n (pc' := 19) rfl rfl rfl ?_
  refine x_iconst (pc' := 20) rfl rfl ?_
  refine x_icmp (a' := 36) (pc' := 23) (z := false) rfl rfl rfl (by decide) (fun h => by cases h) (fun _ => ?_)
  refine x_iload_n (pc' := 24) rfl rfl rfl ?_
  refine x_if (a' := 36) (pc' := 27) (z := false) rfl rfl rfl (by decide) (fun h => by cases h) (fun _ => ?_)
  refine x_iload_n (pc' := 28) rfl rfl rfl ?_
  refine x_iconst (pc' := 29) rfl rfl ?_
  refine x_icmp (a' := 36) (pc' := 32) (z := false) rfl rfl rfl (by decide) (fun h => by cases h) (fun _ => ?_)
  refine x_iconst (pc' := 33) rfl rfl ?_
  refine x_goto (pc' := 37) rfl rfl ?_
  refine x_istore (pc' := 39) (ls' := [_, _, _, _, _, _]) rfl rfl rfl rfl ?_
  refine x_iload (pc' := 41) rfl rfl rfl ?_
  refine x_if (a' := 67) (pc' := 44) (z := false) rfl rfl rfl (by decide) (fun h => by cases h) (fun _ => ?_)
  refine x_iload (pc' := 46) rfl rfl rfl ?_
  refine x_if (a' := 67) (pc' := 49) (z := false) rfl rfl rfl (by decide) (fun h => by cases h) (fun _ => ?_)
  refine x_iload (pc' := 51) rfl rfl rfl ?_
  refine x_getstatic (pc' := 54) rfl rfl (show 0 < sC t 28 from gst0 hc.1) ?_
  refine x_alen (pc' := 55) (N := 45) rfl rfl rfl (kN_28_0 hc.1) (?_ : X _ _ _ (.inl 45 :: _) _ _)
  refine x_icmp (a' := 67) (pc' := 58) (z := false) rfl rfl rfl (by decide) (fun h => by cases h) (fun _ => ?_)
  refine x_getstatic (pc' := 61) rfl rfl (show 0 < sC t 28 from gst0 hc.1) ?_
  refine x_iload (pc' := 63) rfl rfl rfl ?_
  refine x_iald (pc' := 64) (N := 45) (x := 4) rfl rfl rfl (kN_28_0 hc.1) (io_in (p := 27) (N := 45) (by decide) (by decide)) (Eq.trans (congrArg (sA t 28 0) (nn_io (p := 27) (by decide))) ((hc.1.2.2.2.2.2 27).1.trans rfl)) ?_
  refine x_goto (pc' := 68) rfl rfl ?_
  refine x_reti rfl rfl ?_
  refine sK_i (pc' := 7) rfl ?_
  refine x_if (a' := 14) (pc' := 10) (z := true) rfl rfl rfl (by decide) (fun _ => ?_) (fun h => by cases h)
  refine x_iconst (pc' := 15) rfl rfl ?_
  refine x_istore (pc' := 17) (ls' := [_, _, _, _, _, _, _, _]) rfl rfl rfl rfl ?_
  refine x_iconst (pc' := 18) rfl rfl ?_
  refine x_istore (pc' := 20) (ls' := [_, _, _, _, _, _, _, _]) rfl rfl rfl rfl ?_
  refine x_iload (pc' := 22) rfl rfl rfl ?_
  refine x_iconst (pc' := 23) rfl rfl ?_
  refine x_icmp (a' := 89) (pc' := 26) (z := false) rfl rfl rfl (by decide) (fun h => by cases h) (fun _ => ?_)
  refine x_aload_n (pc' := 27) rfl rfl rfl rfl rfl ?_
  refine x_aload_n (pc' := 28) rfl rfl rfl rfl rfl ?_
  refine x_iload_n (pc' := 29) rfl rfl rfl ?_
  refine x_iload (pc' := 31) rfl rfl rfl ?_
  refine x_cv (ls0 := [_, _, _, _, sJk, sJk]) (rest := []) rfl rfl rfl rfl rfl ?_
  refine x_aload_n (pc' := 1) rfl rfl rfl rfl rfl ?_
  refine x_gI (pc' := 4) (x := 3) rfl rfl rfl (kI_64_3 hc.1) ?_
  refine x_iconst (pc' := 5) rfl rfl ?_
  refine x_imul (pc' := 6) (z := 9) rfl rfl (by decide) ?_
  refine x_iload_n (pc' := 7) rfl rfl rfl ?_
  refine x_iadd (pc' := 8) (z := 9) rfl rfl (by decide) ?_
  refine x_iconst (pc' := 9) rfl rfl ?_
  refine x_imul (pc' := 10) (z := 27) rfl rfl (by decide) ?_
  refine x_iload_n (pc' := 11) rfl rfl rfl ?_
  refine x_iadd (pc' := 12) (z := 27) rfl rfl (by decide) ?_
  refine x_istore (pc' := 14) (ls' := [_, _, _, _, _, _]) rfl rfl rfl rfl ?_
  refine x_iload_n (pc' := 15) rfl rfl rfl ?_
  refine x_if (a' := 36) (pc' := 18) (z := false) rfl rfl rfl (by decide) (fun h => by cases h) (fun _ => ?_)
  refine x_iload_n (pc' := 19) rfl rfl rfl ?_
  refine x_iconst (pc' := 20) rfl rfl ?_
  refine x_icmp (a' := 36) (pc' := 23) (z := false) rfl rfl rfl (by decide) (fun h => by cases h) (fun _ => ?_)
  refine x_iload_n (pc' := 24) rfl rfl rfl ?_
  refine x_if (a' := 36) (pc' := 27) (z := false) rfl rfl rfl (by decide) (fun h => by cases h) (fun _ => ?_)
  refine x_iload_n (pc' := 28) rfl rfl rfl ?_
  refine x_iconst (pc' := 29) rfl rfl ?_
  refine x_icmp (a' := 36) (pc' := 32) (z := false) rfl rfl rfl (by decide) (fun h => by cases h) (fun _ => ?_)
  refine x_iconst (pc' := 33) rfl rfl ?_
  refine x_goto (pc' := 37) rfl rfl ?_
  refine x_istore (pc' := 39) (ls' := [_, _, _, _, _, _]) rfl rfl rfl rfl ?_
  refine x_iload (pc' := 41) rfl rfl rfl ?_
  refine x_if (a' := 67) (pc' := 44) (z := false) rfl rfl rfl (by decide) (fun h => by cases h) (fun _ => ?_)
  refine x_iload (pc' := 46) rfl rfl rfl ?_
  refine x_if (a' := 67) (pc' := 49) (z := false) rfl rfl rfl (by decide) (fun h => by cases h) (fun _ => ?_)
  refine x_iload (pc' := 51) rfl rfl rfl ?_
  refine x_getstatic (pc' := 54) rfl rfl (show 0 < sC t 28 from gst0 hc.1) ?_
  refine x_alen (pc' := 55) (N := 45) rfl rfl rfl (kN_28_0 hc.1) (?_ : X _ _ _ (.inl 45 :: _) _ _)
  refine x_icmp (a' := 67) (pc' := 58) (z := false) rfl rfl rfl (by decide) (fun h => by cases h) (fun _ => ?_)
  refine x_getstatic (pc' := 61) rfl rfl (show 0 < sC t 28 from gst0 hc.1) ?_
  refine x_iload (pc' := 63) rfl rfl rfl ?_
  refine x_iald (pc' := 64) (N := 45) (x := 4) rfl rfl rfl (kN_28_0 hc.1) (io_in (p := 27) (N := 45) (by decide) (by decide)) (Eq.trans (congrArg (sA t 28 0) (nn_io (p := 27) (by decide))) ((hc.1.2.2.2.2.2 27).1.trans rfl)) ?_
  refine x_goto (pc' := 68) rfl rfl ?_
  refine x_reti rfl rfl ?_
  refine sK_i (pc' := 34) rfl ?_
  refine x_istore (pc' := 36) (ls' := [_, _, _, _, _, _, _, _]) rfl rfl rfl rfl ?_
  refine x_iload (pc' := 38) rfl rfl rfl ?_
  refine x_if (a' := 83) (pc' := 41) (z := false) rfl rfl rfl (by decide) (fun h => by cases h) (fun _ => ?_)
  refine x_aload_n (pc' := 42) rfl rfl rfl rfl rfl ?_
  refine x_iload (pc' := 44) rfl rfl rfl ?_
  refine x_iload_n (pc' := 45) rfl rfl rfl ?_
  refine x_cv (ls0 := [_, _, _, sJk]) (rest := []) rfl rfl rfl rfl rfl ?_
  refine x_iload_n (pc' := 1) rfl rfl rfl ?_
  refine x_abs (pc' := 4) (z := 4) rfl rfl rfl (by decide) ?_
  refine x_iconst (pc' := 5) rfl rfl ?_
  refine x_isub (pc' := 6) (z := 3) rfl rfl (by decide) ?_
  refine x_istore_n (pc' := 7) (ls' := [_, _, _, _]) rfl rfl rfl rfl ?_
  refine x_iload_n (pc' := 8) rfl rfl rfl ?_
  refine x_if (a' := 33) (pc' := 11) (z := false) rfl rfl rfl (by decide) (fun h => by cases h) (fun _ => ?_)
  refine x_iload_n (pc' := 12) rfl rfl rfl ?_
  refine x_aload_n (pc' := 13) rfl rfl rfl rfl rfl ?_
  refine x_gR (pc' := 16) (r := (some 0)) rfl rfl rfl (kR_640_0 hc.1) ?_
  refine x_alen (pc' := 17) (N := 5) rfl rfl rfl (kN_24_0 hc.1) (?_ : X _ _ _ (.inl 5 :: _) _ _)
  refine x_icmp (a' := 33) (pc' := 20) (z := false) rfl rfl rfl (by decide) (fun h => by cases h) (fun _ => ?_)
  refine x_aload_n (pc' := 21) rfl rfl rfl rfl rfl ?_
  refine x_gR (pc' := 24) (r := (some 0)) rfl rfl rfl (kR_640_0 hc.1) ?_
  refine x_iload_n (pc' := 25) rfl rfl rfl ?_
  refine x_aald (pc' := 26) (N := 5) (k' := 1) (r := (some 3)) rfl rfl rfl (kN_24_0 hc.1) (io_in (p := 3) (N := 5) (by decide) (by decide)) (Eq.trans (congrArg (sE t 24 0) (nn_io (p := 3) (by decide))) (kB hc.1 (by decide))) ?_
  refine x_gI (pc' := 29) (x := (mA M 0 3)) rfl rfl rfl (kA hM rfl (show 3 < 5 by decide)) ?_
  refine x_iconst (pc' := 30) rfl rfl ?_
  have J23 : ((sK 79 81 45 [.inr (.inr (10, (some 0))), .inr (.inr (1, (some 3))), .inl 0, .inl (bz false), .inl 0, .inl 0, .inl 4, sJk] [] Q) : sRs → sT → Prop) (.inl (some (.inr (.inr (8, (bif (decide ((mA M 0 3) = 2)) then (bsF M n 3 true) else none)))))) t := by
    refine sK_i (pc' := 48) rfl ?_
    refine x_astore (pc' := 50) (ls' := [_, _, _, _, _, _, _, _]) rfl rfl rfl rfl rfl ?_
    refine x_aload (pc' := 52) rfl rfl rfl rfl rfl ?_
    refine x_ifnonnull (a' := 59) (pc' := 55) rfl rfl rfl rfl (fun j0 q25 => ?_) (fun q25 => ?_)
    · refine x_iload (pc' := 61) rfl rfl rfl ?_
      refine x_iload (pc' := 63) rfl rfl rfl ?_
      refine x_if (a' := 74) (pc' := 66) (z := false) rfl rfl rfl (by decide) (fun h => by cases h) (fun _ => ?_)
      refine x_aload (pc' := 68) rfl rfl rfl rfl (ovD_s q25) ?_
      refine x_gI (pc' := 71) (x := (mA M 14 (ovD (bif (decide ((mA M 0 3) = 2)) then (bsF M n 3 true) else none)))) rfl rfl rfl ((kA hM rfl (ovD_lt (obd_c bsF_lt obd_n) q25)).trans (congrFun (Fc.f14 (Fc.refl _)) _)) ?_
      refine x_goto (pc' := 80) rfl rfl ?_
      refine x_iadd (pc' := 81) (z := (0 + (mA M 14 (ovD (bif (decide ((mA M 0 3) = 2)) then (bsF M n 3 true) else none))))) rfl rfl rfl ?_
      refine x_istore (pc' := 83) (ls' := [_, _, _, _, _, _, _, _]) rfl rfl rfl rfl ?_
      refine x_iinc (pc' := 86) (y := 1) (ls' := [_, _, _, _, _, _, _, _]) rfl rfl rfl rfl rfl ?_
      refine x_goto (pc' := 20) rfl rfl ?_
      refine x_iload (pc' := 22) rfl rfl rfl ?_
      refine x_iconst (pc' := 23) rfl rfl ?_
      refine x_icmp (a' := 89) (pc' := 26) (z := false) rfl rfl rfl (by decide) (fun h => by cases h) (fun _ => ?_)
      refine x_aload_n (pc' := 27) rfl rfl rfl rfl rfl ?_
      refine x_aload_n (pc' := 28) rfl rfl rfl rfl rfl ?_
      refine x_iload_n (pc' := 29) rfl rfl rfl ?_
      refine x_iload (pc' := 31) rfl rfl rfl ?_
      refine x_cv (ls0 := [_, _, _, _, sJk, sJk]) (rest := []) rfl rfl rfl rfl rfl ?_
      refine x_aload_n (pc' := 1) rfl rfl rfl rfl rfl ?_
      refine x_gI (pc' := 4) (x := 3) rfl rfl rfl (kI_64_3 hc.1) ?_
      refine x_iconst (pc' := 5) rfl rfl ?_
      refine x_imul (pc' := 6) (z := 9) rfl rfl (by decide) ?_
      refine x_iload_n (pc' := 7) rfl rfl rfl ?_
      refine x_iadd (pc' := 8) (z := 9) rfl rfl (by decide) ?_
      refine x_iconst (pc' := 9) rfl rfl ?_
      refine x_imul (pc' := 10) (z := 27) rfl rfl (by decide) ?_
      refine x_iload_n (pc' := 11) rfl rfl rfl ?_
      refine x_iadd (pc' := 12) (z := 28) rfl rfl (by decide) ?_
      refine x_istore (pc' := 14) (ls' := [_, _, _, _, _, _]) rfl rfl rfl rfl ?_
      refine x_iload_n (pc' := 15) rfl rfl rfl ?_
      refine x_if (a' := 36) (pc' := 18) (z := false) rfl rfl rfl (by decide) (fun h => by cases h) (fun _ => ?_)
      refine x_iload_n (pc' := 19) rfl rfl rfl ?_
      refine x_iconst (pc' := 20) rfl rfl ?_
      refine x_icmp (a' := 36) (pc' := 23) (z := false) rfl rfl rfl (by decide) (fun h => by cases h) (fun _ => ?_)
      refine x_iload_n (pc' := 24) rfl rfl rfl ?_
      refine x_if (a' := 36) (pc' := 27) (z := false) rfl rfl rfl (by decide) (fun h => by cases h) (fun _ => ?_)
      refine x_iload_n (pc' := 28) rfl rfl rfl ?_
      refine x_iconst (pc' := 29) rfl rfl ?_
      refine x_icmp (a' := 36) (pc' := 32) (z := false) rfl rfl rfl (by decide) (fun h => by cases h) (fun _ => ?_)
      refine x_iconst (pc' := 33) rfl rfl ?_
      refine x_goto (pc' := 37) rfl rfl ?_
      refine x_istore (pc' := 39) (ls' := [_, _, _, _, _, _]) rfl rfl rfl rfl ?_
      refine x_iload (pc' := 41) rfl rfl rfl ?_
      refine x_if (a' := 67) (pc' := 44) (z := false) rfl rfl rfl (by decide) (fun h => by cases h) (fun _ => ?_)
      refine x_iload (pc' := 46) rfl rfl rfl ?_
      refine x_if (a' := 67) (pc' := 49) (z := false) rfl rfl rfl (by decide) (fun h => by cases h) (fun _ => ?_)
      refine x_iload (pc' := 51) rfl rfl rfl ?_
      refine x_getstatic (pc' := 54) rfl rfl (show 0 < sC t 28 from gst0 hc.1) ?_
      refine x_alen (pc' := 55) (N := 45) rfl rfl rfl (kN_28_0 hc.1) (?_ : X _ _ _ (.inl 45 :: _) _ _)
      refine x_icmp (a' := 67) (pc' := 58) (z := false) rfl rfl rfl (by decide) (fun h => by cases h) (fun _ => ?_)
      refine x_getstatic (pc' := 61) rfl rfl (show 0 < sC t 28 from gst0 hc.1) ?_
      refine x_iload (pc' := 63) rfl rfl rfl ?_
      refine x_iald (pc' := 64) (N := 45) (x := 0) rfl rfl rfl (kN_28_0 hc.1) (io_in (p := 28) (N := 45) (by decide) (by decide)) (Eq.trans (congrArg (sA t 28 0) (nn_io (p := 28) (by decide))) ((hc.1.2.2.2.2.2 28).1.trans rfl)) ?_
      refine x_goto (pc' := 68) rfl rfl ?_
      refine x_reti rfl rfl ?_
      refine sK_i (pc' := 34) rfl ?_
      refine x_istore (pc' := 36) (ls' := [_, _, _, _, _, _, _, _]) rfl rfl rfl rfl ?_
      refine x_iload (pc' := 38) rfl rfl rfl ?_
      refine x_if (a' := 83) (pc' := 41) (z := true) rfl rfl rfl (by decide) (fun _ => ?_) (fun h => by cases h)
      refine x_iinc (pc' := 86) (y := 2) (ls' := [_, _, _, _, _, _, _, _]) rfl rfl rfl rfl rfl ?_
      refine x_goto (pc' := 20) rfl rfl ?_
      refine x_iload (pc' := 22) rfl rfl rfl ?_
      refine x_iconst (pc' := 23) rfl rfl ?_
      refine x_icmp (a' := 89) (pc' := 26) (z := false) rfl rfl rfl (by decide) (fun h => by cases h) (fun _ => ?_)
      refine x_aload_n (pc' := 27) rfl rfl rfl rfl rfl ?_
      refine x_aload_n (pc' := 28) rfl rfl rfl rfl rfl ?_
      refine x_iload_n (pc' := 29) rfl rfl rfl ?_
      refine x_iload (pc' := 31) rfl rfl rfl ?_
      refine x_cv (ls0 := [_, _, _, _, sJk, sJk]) (rest := []) rfl rfl rfl rfl rfl ?_
      refine x_aload_n (pc' := 1) rfl rfl rfl rfl rfl ?_
      refine x_gI (pc' := 4) (x := 3) rfl rfl rfl (kI_64_3 hc.1) ?_
      refine x_iconst (pc' := 5) rfl rfl ?_
      refine x_imul (pc' := 6) (z := 9) rfl rfl (by decide) ?_
      refine x_iload_n (pc' := 7) rfl rfl rfl ?_
      refine x_iadd (pc' := 8) (z := 9) rfl rfl (by decide) ?_
      refine x_iconst (pc' := 9) rfl rfl ?_
      refine x_imul (pc' := 10) (z := 27) rfl rfl (by decide) ?_
      refine x_iload_n (pc' := 11) rfl rfl rfl ?_
      refine x_iadd (pc' := 12) (z := 29) rfl rfl (by decide) ?_
      refine x_istore (pc' := 14) (ls' := [_, _, _, _, _, _]) rfl rfl rfl rfl ?_
      refine x_iload_n (pc' := 15) rfl rfl rfl ?_
      refine x_if (a' := 36) (pc' := 18) (z := false) rfl rfl rfl (by decide) (fun h => by cases h) (fun _ => ?_)
      refine x_iload_n (pc' := 19) rfl rfl rfl ?_
      refine x_iconst (pc' := 20) rfl rfl ?_
      refine x_icmp (a' := 36) (pc' := 23) (z := false) rfl rfl rfl (by decide) (fun h => by cases h) (fun _ => ?_)
      refine x_iload_n (pc' := 24) rfl rfl rfl ?_
      refine x_if (a' := 36) (pc' := 27) (z := false) rfl rfl rfl (by decide) (fun h => by cases h) (fun _ => ?_)
      refine x_iload_n (pc' := 28) rfl rfl rfl ?_
      refine x_iconst (pc' := 29) rfl rfl ?_
      refine x_icmp (a' := 36) (pc' := 32) (z := false) rfl rfl rfl (by decide) (fun h => by cases h) (fun _ => ?_)
      refine x_iconst (pc' := 33) rfl rfl ?_
      refine x_goto (pc' := 37) rfl rfl ?_
      refine x_istore (pc' := 39) (ls' := [_, _, _, _, _, _]) rfl rfl rfl rfl ?_
      refine x_iload (pc' := 41) rfl rfl rfl ?_
      refine x_if (a' := 67) (pc' := 44) (z := false) rfl rfl rfl (by decide) (fun h => by cases h) (fun _ => ?_)
      refine x_iload (pc' := 46) rfl rfl rfl ?_
      refine x_if (a' := 67) (pc' := 49) (z := false) rfl rfl rfl (by decide) (fun h => by cases h) (fun _ => ?_)
      refine x_iload (pc' := 51) rfl rfl rfl ?_
      refine x_getstatic (pc' := 54) rfl rfl (show 0 < sC t 28 from gst0 hc.1) ?_
      refine x_alen (pc' := 55) (N := 45) rfl rfl rfl (kN_28_0 hc.1) (?_ : X _ _ _ (.inl 45 :: _) _ _)
      refine x_icmp (a' := 67) (pc' := 58) (z := false) rfl rfl rfl (by decide) (fun h => by cases h) (fun _ => ?_)
      refine x_getstatic (pc' := 61) rfl rfl (show 0 < sC t 28 from gst0 hc.1) ?_
      refine x_iload (pc' := 63) rfl rfl rfl ?_
      refine x_iald (pc' := 64) (N := 45) (x := 0) rfl rfl rfl (kN_28_0 hc.1) (io_in (p := 29) (N := 45) (by decide) (by decide)) (Eq.trans (congrArg (sA t 28 0) (nn_io (p := 29) (by decide))) ((hc.1.2.2.2.2.2 29).1.trans rfl)) ?_
      refine x_goto (pc' := 68) rfl rfl ?_
      refine x_reti rfl rfl ?_
      refine sK_i (pc' := 34) rfl ?_
      refine x_istore (pc' := 36) (ls' := [_, _, _, _, _, _, _, _]) rfl rfl rfl rfl ?_
      refine x_iload (pc' := 38) rfl rfl rfl ?_
      refine x_if (a' := 83) (pc' := 41) (z := true) rfl rfl rfl (by decide) (fun _ => ?_) (fun h => by cases h)
      refine x_iinc (pc' := 86) (y := 3) (ls' := [_, _, _, _, _, _, _, _]) rfl rfl rfl rfl rfl ?_
      refine x_goto (pc' := 20) rfl rfl ?_
      refine x_iload (pc' := 22) rfl rfl rfl ?_
      refine x_iconst (pc' := 23) rfl rfl ?_
      refine x_icmp (a' := 89) (pc' := 26) (z := true) rfl rfl rfl (by decide) (fun _ => ?_) (fun h => by cases h)
      refine x_iload (pc' := 91) rfl rfl rfl ?_
      refine x_reti rfl rfl ?_
      exact qv (by simp only [cp30fF, (isSome_s q25), cd_t, cd_f]) (q )
    · refine x_sipush (pc' := 58) rfl rfl ?_
      refine x_reti rfl rfl ?_
      exact qv (by simp only [cp30fF, (isSome_n q25), cd_t, cd_f]) (q )
  refine x_icmp (a' := 35) (pc' := 33) (z := decide ((mA M 0 3) = 2)) rfl rfl rfl rfl (fun q20 => ?_) (fun q20 => ?_)
  · refine x_aload_n (pc' := 36) rfl rfl rfl rfl rfl ?_
    refine x_gR (pc' := 39) (r := (some 0)) rfl rfl rfl (kR_640_0 hc.1) ?_
    refine x_iload_n (pc' := 40) rfl rfl rfl ?_
    refine x_aald (pc' := 41) (N := 5) (k' := 1) (r := (some 3)) rfl rfl rfl (kN_24_0 hc.1) (io_in (p := 3) (N := 5) (by decide) (by decide)) (Eq.trans (congrArg (sE t 24 0) (nn_io (p := 3) (by decide))) (kB hc.1 (by decide))) ?_
    refine x_iload_n (pc' := 42) rfl rfl rfl ?_
    refine x_if (a' := 57) (pc' := 45) (z := false) rfl rfl rfl (by decide) (fun h => by cases h) (fun _ => ?_)
    refine x_iload_n (pc' := 46) rfl rfl rfl ?_
    refine x_if (a' := 53) (pc' := 49) (z := false) rfl rfl rfl (by decide) (fun h => by cases h) (fun _ => ?_)
    refine x_iconst (pc' := 50) rfl rfl ?_
    refine x_goto (pc' := 58) rfl rfl ?_
    refine x_cv (ls0 := [_, _]) (rest := []) rfl rfl rfl rfl rfl ?_
    refine x_iload_n (pc' := 1) rfl rfl rfl ?_
    refine x_if (a' := 11) (pc' := 4) (z := false) rfl rfl rfl (by decide) (fun h => by cases h) (fun _ => ?_)
    refine x_aload_n (pc' := 5) rfl rfl rfl rfl rfl ?_
    refine x_gR (pc' := 8) (r := (bsF M n 3 true)) rfl rfl rfl (bs_69 hC (Fc.ri (Fc.refl _) hR) hM (by decide)) ?_
    refine x_goto (pc' := 15) rfl rfl ?_
    refine x_reta rfl rfl ?_
    refine sK_i (pc' := 61) rfl ?_
    refine x_reta rfl rfl ?_
    ((try rw [q20] at J23); (try rw [q20]); (try simp only [cd_t, cd_f, nt_t, nt_f, an_t, an_f, or_t, or_f] at J23); (try simp only [cd_t, cd_f, nt_t, nt_f, an_t, an_f, or_t, or_f]); exact J23)
  · refine x_null (pc' := 34) rfl rfl rfl ?_
    refine x_reta rfl rfl ?_
    ((try rw [q20] at J23); (try rw [q20]); (try simp only [cd_t, cd_f, nt_t, nt_f, an_t, an_f, or_t, or_f] at J23); (try simp only [cd_t, cd_f, nt_t, nt_f, an_t, an_f, or_t, or_f]); exact J23)
def cp30tF (M : sM) (n : Nat) : Int32 := (bif (bif (decide ((mA M 0 3) = 2)) then (bsF M n 3 false) else none).isSome then (0 + (mA M 14 (ovD (bif (decide ((mA M 0 3) = 2)) then (bsF M n 3 false) else none)))) else (-10000))
set_option maxHeartbeats 4000000 in
set_option maxRecDepth 10000 in
theorem c81_30t {t : sT} {Q : sRs → sT → Prop} {M : sM} {n : Nat} {T : Nat}
    (hM : Rl t M n T)
    (hc : Sf t M n T)
    (hR : Ri M n)
    (hC : rlC t M n)
    (q : Q (.inl (some (.inl (cp30tF M n)))) t) :
    X 81 0 [.inr (.inr (10, (some 0))), .inr (.inr (1, (some 3))), .inl 0, .inl (bz true), sJk, sJk, sJk, sJk] [] t Q := by
  refine x_aload_n (pc' := 1) rfl rfl rfl rfl rfl ?_
  refine x_aload_n (pc' := 2) rfl rfl rfl rfl rfl ?_
  refine x_iload_n (pc' := 3) rfl rfl rfl ?_
  refine x_iconst (pc' := 4) rfl rfl ?_
  refine x_cv (ls0 := [_, _, _, _, sJk, sJk]) (rest := []) rfl rfl rfl rfl rfl ?_
  refine x_aload_n (pc' := 1) rfl rfl rfl rfl rfl ?_
  refine x_gI (pc' := 4) (x := 3) rfl rfl rfl (kI_64_3 hc.1) ?_
  refine x_iconst (pc' := 5) rfl rfl ?_
  refine x_imul (pc' := 6) (z := 9) rfl rfl (by decide) ?_
  refine x_iload_n (pc' := 7) rfl rfl rfl ?_
  refine x_iadd (pc' := 8) (z := 9) rfl rfl (by decide) ?_
  refine x_iconst (pc' := 9) rfl rfl ?_
  refine x_imul (pc' := 10) (z := 27) rfl rfl (by decide) ?_
  refine x_iload_n (pc' := 11) rfl rfl rfl ?_
  refine x_iadd (pc' := 12) (z := 27) rfl rfl (by decide) ?_
  refine x_istore (pc' := 14) (ls' := [_, _, _, _, _, _]) rfl rfl rfl rfl ?_
  refine x_iload_n (pc' := 15) rfl rfl rfl ?_
  refine x_if (a' := 36) (pc' := 18) (z := false) rfl rfl rfl (by decide) (fun h => by cases h) (fun _ => ?_)
  refine x_iload_n (pc' := 19) rfl rfl rfl ?_
  refine x_iconst (pc' := 20) rfl rfl ?_
  refine x_icmp (a' := 36) (pc' := 23) (z := false) rfl rfl rfl (by decide) (fun h => by cases h) (fun _ => ?_)
  refine x_iload_n (pc' := 24) rfl rfl rfl ?_
  refine x_if (a' := 36) (pc' := 27) (z := false) rfl rfl rfl (by decide) (fun h => by cases h) (fun _ => ?_)
  refine x_iload_n (pc' := 28) rfl rfl rfl ?_
  refine x_iconst (pc' := 29) rfl rfl ?_
  refine x_icmp (a' := 36) (pc' := 32) (z := false) rfl rfl rfl (by decide) (fun h => by cases h) (fun _ => ?_)
  refine x_iconst (pc' := 33) rfl rfl ?_
  refine x_goto (pc' := 37) rfl rfl ?_
  refine x_istore (pc' := 39) (ls' := [_, _, _, _, _, _]) rfl rfl rfl rfl ?_
  refine x_iload (pc' := 41) rfl rfl rfl ?_
  refine x_if (a' := 67) (pc' := 44) (z := false) rfl rfl rfl (by decide) (fun h => by cases h) (fun _ => ?_)
  refine x_iload (pc' := 46) rfl rfl rfl ?_
  refine x_if (a' := 67) (pc' := 49) (z := false) rfl rfl rfl (by decide) (fun h => by cases h) (fun _ => ?_)
  refine x_iload (pc' := 51) rfl rfl rfl ?_
  refine x_getstatic (pc' := 54) rfl rfl (show 0 < sC t 28 from gst0 hc.1) ?_
  refine x_alen (pc' := 55) (N := 45) rfl rfl rfl (kN_28_0 hc.1) (?_ : X _ _ _ (.inl 45 :: _) _ _)
  refine x_icmp (a' := 67) (pc' := 58) (z := false) rfl rfl rfl (by decide) (fun h => by cases h) (fun _ => ?_)
  refine x_getstatic (pc' := 61) rfl rfl (show 0 < sC t 28 from gst0 hc.1) ?_
  refine x_iload (pc' := 63) rfl rfl rfl ?_
  refine x_iald (pc' := 64) (N := 45) (x := 4) rfl rfl rfl (kN_28_0 hc.1) (io_in (p := 27) (N := 45) (by decide) (by decide)) (Eq.trans (congrArg (sA t 28 0) (nn_io (p := 27) (by decide))) ((hc.1.2.2.2.2.2 27).1.trans rfl)) ?_
  refine x_goto (pc' := 68) rfl rfl ?_
  refine x_reti rfl rfl ?_
  refine sK_i (pc' := 7) rfl ?_
  refine x_if (a' := 14) (pc' := 10) (z := true) rfl rfl rfl (by decide) (fun _ => ?_) (fun h => by cases h)
  refine x_iconst (pc' := 15) rfl rfl ?_
  refine x_istore (pc' := 17) (ls' := [_, _, _, _, _, _, _, _]) rfl rfl rfl rfl ?_
  refine x_iconst (pc' := 18) rfl rfl ?_
  refine x_istore (pc' := 20) (ls' := [_, _, _, _, _, _, _, _]) rfl rfl rfl rfl ?_
  refine x_iload (pc' := 22) rfl rfl rfl ?_
  refine x_iconst (pc' := 23) rfl rfl ?_
  refine x_icmp (a' := 89) (pc' := 26) (z := false) rfl rfl rfl (by decide) (fun h => by cases h) (fun _ => ?_)
  refine x_aload_n (pc' := 27) rfl rfl rfl rfl rfl ?_
  refine x_aload_n (pc' := 28) rfl rfl rfl rfl rfl ?_
  refine x_iload_n (pc' := 29) rfl rfl rfl ?_
  refine x_iload (pc' := 31) rfl rfl rfl ?_
  refine x_cv (ls0 := [_, _, _, _, sJk, sJk]) (rest := []) rfl rfl rfl rfl rfl ?_
  refine x_aload_n (pc' := 1) rfl rfl rfl rfl rfl ?_
  refine x_gI (pc' := 4) (x := 3) rfl rfl rfl (kI_64_3 hc.1) ?_
  refine x_iconst (pc' := 5) rfl rfl ?_
  refine x_imul (pc' := 6) (z := 9) rfl rfl (by decide) ?_
  refine x_iload_n (pc' := 7) rfl rfl rfl ?_
  refine x_iadd (pc' := 8) (z := 9) rfl rfl (by decide) ?_
  refine x_iconst (pc' := 9) rfl rfl ?_
  refine x_imul (pc' := 10) (z := 27) rfl rfl (by decide) ?_
  refine x_iload_n (pc' := 11) rfl rfl rfl ?_
  refine x_iadd (pc' := 12) (z := 27) rfl rfl (by decide) ?_
  refine x_istore (pc' := 14) (ls' := [_, _, _, _, _, _]) rfl rfl rfl rfl ?_
  refine x_iload_n (pc' := 15) rfl rfl rfl ?_
  refine x_if (a' := 36) (pc' := 18) (z := false) rfl rfl rfl (by decide) (fun h => by cases h) (fun _ => ?_)
  refine x_iload_n (pc' := 19) rfl rfl rfl ?_
  refine x_iconst (pc' := 20) rfl rfl ?_
  refine x_icmp (a' := 36) (pc' := 23) (z := false) rfl rfl rfl (by decide) (fun h => by cases h) (fun _ => ?_)
  refine x_iload_n (pc' := 24) rfl rfl rfl ?_
  refine x_if (a' := 36) (pc' := 27) (z := false) rfl rfl rfl (by decide) (fun h => by cases h) (fun _ => ?_)
  refine x_iload_n (pc' := 28) rfl rfl rfl ?_
  refine x_iconst (pc' := 29) rfl rfl ?_
  refine x_icmp (a' := 36) (pc' := 32) (z := false) rfl rfl rfl (by decide) (fun h => by cases h) (fun _ => ?_)
  refine x_iconst (pc' := 33) rfl rfl ?_
  refine x_goto (pc' := 37) rfl rfl ?_
  refine x_istore (pc' := 39) (ls' := [_, _, _, _, _, _]) rfl rfl rfl rfl ?_
  refine x_iload (pc' := 41) rfl rfl rfl ?_
  refine x_if (a' := 67) (pc' := 44) (z := false) rfl rfl rfl (by decide) (fun h => by cases h) (fun _ => ?_)
  refine x_iload (pc' := 46) rfl rfl rfl ?_
  refine x_if (a' := 67) (pc' := 49) (z := false) rfl rfl rfl (by decide) (fun h => by cases h) (fun _ => ?_)
  refine x_iload (pc' := 51) rfl rfl rfl ?_
  refine x_getstatic (pc' := 54) rfl rfl (show 0 < sC t 28 from gst0 hc.1) ?_
  refine x_alen (pc' := 55) (N := 45) rfl rfl rfl (kN_28_0 hc.1) (?_ : X _ _ _ (.inl 45 :: _) _ _)
  refine x_icmp (a' := 67) (pc' := 58) (z := false) rfl rfl rfl (by decide) (fun h => by cases h) (fun _ => ?_)
  refine x_getstatic (pc' := 61) rfl rfl (show 0 < sC t 28 from gst0 hc.1) ?_
  refine x_iload (pc' := 63) rfl rfl rfl ?_
  refine x_iald (pc' := 64) (N := 45) (x := 4) rfl rfl rfl (kN_28_0 hc.1) (io_in (p := 27) (N := 45) (by decide) (by decide)) (Eq.trans (congrArg (sA t 28 0) (nn_io (p := 27) (by decide))) ((hc.1.2.2.2.2.2 27).1.trans rfl)) ?_
  refine x_goto (pc' := 68) rfl rfl ?_
  refine x_reti rfl rfl ?_
  refine sK_i (pc' := 34) rfl ?_
  refine x_istore (pc' := 36) (ls' := [_, _, _, _, _, _, _, _]) rfl rfl rfl rfl ?_
  refine x_iload (pc' := 38) rfl rfl rfl ?_
  refine x_if (a' := 83) (pc' := 41) (z := false) rfl rfl rfl (by decide) (fun h => by cases h) (fun _ => ?_)
  refine x_aload_n (pc' := 42) rfl rfl rfl rfl rfl ?_
  refine x_iload (pc' := 44) rfl rfl rfl ?_
  refine x_iload_n (pc' := 45) rfl rfl rfl ?_
  refine x_cv (ls0 := [_, _, _, sJk]) (rest := []) rfl rfl rfl rfl rfl ?_
  refine x_iload_n (pc' := 1) rfl rfl rfl ?_
  refine x_abs (pc' := 4) (z := 4) rfl rfl rfl (by decide) ?_
  refine x_iconst (pc' := 5) rfl rfl ?_
  refine x_isub (pc' := 6) (z := 3) rfl rfl (by decide) ?_
  refine x_istore_n (pc' := 7) (ls' := [_, _, _, _]) rfl rfl rfl rfl ?_
  refine x_iload_n (pc' := 8) rfl rfl rfl ?_
  refine x_if (a' := 33) (pc' := 11) (z := false) rfl rfl rfl (by decide) (fun h => by cases h) (fun _ => ?_)
  refine x_iload_n (pc' := 12) rfl rfl rfl ?_
  refine x_aload_n (pc' := 13) rfl rfl rfl rfl rfl ?_
  refine x_gR (pc' := 16) (r := (some 0)) rfl rfl rfl (kR_640_0 hc.1) ?_
  refine x_alen (pc' := 17) (N := 5) rfl rfl rfl (kN_24_0 hc.1) (?_ : X _ _ _ (.inl 5 :: _) _ _)
  refine x_icmp (a' := 33) (pc' := 20) (z := false) rfl rfl rfl (by decide) (fun h => by cases h) (fun _ => ?_)
  refine x_aload_n (pc' := 21) rfl rfl rfl rfl rfl ?_
  refine x_gR (pc' := 24) (r := (some 0)) rfl rfl rfl (kR_640_0 hc.1) ?_
  refine x_iload_n (pc' := 25) rfl rfl rfl ?_
  refine x_aald (pc' := 26) (N := 5) (k' := 1) (r := (some 3)) rfl rfl rfl (kN_24_0 hc.1) (io_in (p := 3) (N := 5) (by decide) (by decide)) (Eq.trans (congrArg (sE t 24 0) (nn_io (p := 3) (by decide))) (kB hc.1 (by decide))) ?_
  refine x_gI (pc' := 29) (x := (mA M 0 3)) rfl rfl rfl (kA hM rfl (show 3 < 5 by decide)) ?_
  refine x_iconst (pc' := 30) rfl rfl ?_
  have J23 : ((sK 79 81 45 [.inr (.inr (10, (some 0))), .inr (.inr (1, (some 3))), .inl 0, .inl (bz true), .inl 0, .inl 0, .inl 4, sJk] [] Q) : sRs → sT → Prop) (.inl (some (.inr (.inr (8, (bif (decide ((mA M 0 3) = 2)) then (bsF M n 3 false) else none)))))) t := by
    refine sK_i (pc' := 48) rfl ?_
    refine x_astore (pc' := 50) (ls' := [_, _, _, _, _, _, _, _]) rfl rfl rfl rfl rfl ?_
    refine x_aload (pc' := 52) rfl rfl rfl rfl rfl ?_
    refine x_ifnonnull (a' := 59) (pc' := 55) rfl rfl rfl rfl (fun j0 q25 => ?_) (fun q25 => ?_)
    · refine x_iload (pc' := 61) rfl rfl rfl ?_
      refine x_iload (pc' := 63) rfl rfl rfl ?_
      refine x_if (a' := 74) (pc' := 66) (z := false) rfl rfl rfl (by decide) (fun h => by cases h) (fun _ => ?_)
      refine x_aload (pc' := 68) rfl rfl rfl rfl (ovD_s q25) ?_
      refine x_gI (pc' := 71) (x := (mA M 14 (ovD (bif (decide ((mA M 0 3) = 2)) then (bsF M n 3 false) else none)))) rfl rfl rfl ((kA hM rfl (ovD_lt (obd_c bsF_lt obd_n) q25)).trans (congrFun (Fc.f14 (Fc.refl _)) _)) ?_
      refine x_goto (pc' := 80) rfl rfl ?_
      refine x_iadd (pc' := 81) (z := (0 + (mA M 14 (ovD (bif (decide ((mA M 0 3) = 2)) then (bsF M n 3 false) else none))))) rfl rfl rfl ?_
      refine x_istore (pc' := 83) (ls' := [_, _, _, _, _, _, _, _]) rfl rfl rfl rfl ?_
      refine x_iinc (pc' := 86) (y := 1) (ls' := [_, _, _, _, _, _, _, _]) rfl rfl rfl rfl rfl ?_
      refine x_goto (pc' := 20) rfl rfl ?_
      refine x_iload (pc' := 22) rfl rfl rfl ?_
      refine x_iconst (pc' := 23) rfl rfl ?_
      refine x_icmp (a' := 89) (pc' := 26) (z := false) rfl rfl rfl (by decide) (fun h => by cases h) (fun _ => ?_)
      refine x_aload_n (pc' := 27) rfl rfl rfl rfl rfl ?_
      refine x_aload_n (pc' := 28) rfl rfl rfl rfl rfl ?_
      refine x_iload_n (pc' := 29) rfl rfl rfl ?_
      refine x_iload (pc' := 31) rfl rfl rfl ?_
      refine x_cv (ls0 := [_, _, _, _, sJk, sJk]) (rest := []) rfl rfl rfl rfl rfl ?_
      refine x_aload_n (pc' := 1) rfl rfl rfl rfl rfl ?_
      refine x_gI (pc' := 4) (x := 3) rfl rfl rfl (kI_64_3 hc.1) ?_
      refine x_iconst (pc' := 5) rfl rfl ?_
      refine x_imul (pc' := 6) (z := 9) rfl rfl (by decide) ?_
      refine x_iload_n (pc' := 7) rfl rfl rfl ?_
      refine x_iadd (pc' := 8) (z := 9) rfl rfl (by decide) ?_
      refine x_iconst (pc' := 9) rfl rfl ?_
      refine x_imul (pc' := 10) (z := 27) rfl rfl (by decide) ?_
      refine x_iload_n (pc' := 11) rfl rfl rfl ?_
      refine x_iadd (pc' := 12) (z := 28) rfl rfl (by decide) ?_
      refine x_istore (pc' := 14) (ls' := [_, _, _, _, _, _]) rfl rfl rfl rfl ?_
      refine x_iload_n (pc' := 15) rfl rfl rfl ?_
      refine x_if (a' := 36) (pc' := 18) (z := false) rfl rfl rfl (by decide) (fun h => by cases h) (fun _ => ?_)
      refine x_iload_n (pc' := 19) rfl rfl rfl ?_
      refine x_iconst (pc' := 20) rfl rfl ?_
      refine x_icmp (a' := 36) (pc' := 23) (z := false) rfl rfl rfl (by decide) (fun h => by cases h) (fun _ => ?_)
      refine x_iload_n (pc' := 24) rfl rfl rfl ?_
      refine x_if (a' := 36) (pc' := 27) (z := false) rfl rfl rfl (by decide) (fun h => by cases h) (fun _ => ?_)
      refine x_iload_n (pc' := 28) rfl rfl rfl ?_
      refine x_iconst (pc' := 29) rfl rfl ?_
      refine x_icmp (a' := 36) (pc' := 32) (z := false) rfl rfl rfl (by decide) (fun h => by cases h) (fun _ => ?_)
      refine x_iconst (pc' := 33) rfl rfl ?_
      refine x_goto (pc' := 37) rfl rfl ?_
      refine x_istore (pc' := 39) (ls' := [_, _, _, _, _, _]) rfl rfl rfl rfl ?_
      refine x_iload (pc' := 41) rfl rfl rfl ?_
      refine x_if (a' := 67) (pc' := 44) (z := false) rfl rfl rfl (by decide) (fun h => by cases h) (fun _ => ?_)
      refine x_iload (pc' := 46) rfl rfl rfl ?_
      refine x_if (a' := 67) (pc' := 49) (z := false) rfl rfl rfl (by decide) (fun h => by cases h) (fun _ => ?_)
      refine x_iload (pc' := 51) rfl rfl rfl ?_
      refine x_getstatic (pc' := 54) rfl rfl (show 0 < sC t 28 from gst0 hc.1) ?_
      refine x_alen (pc' := 55) (N := 45) rfl rfl rfl (kN_28_0 hc.1) (?_ : X _ _ _ (.inl 45 :: _) _ _)
      refine x_icmp (a' := 67) (pc' := 58) (z := false) rfl rfl rfl (by decide) (fun h => by cases h) (fun _ => ?_)
      refine x_getstatic (pc' := 61) rfl rfl (show 0 < sC t 28 from gst0 hc.1) ?_
      refine x_iload (pc' := 63) rfl rfl rfl ?_
      refine x_iald (pc' := 64) (N := 45) (x := 0) rfl rfl rfl (kN_28_0 hc.1) (io_in (p := 28) (N := 45) (by decide) (by decide)) (Eq.trans (congrArg (sA t 28 0) (nn_io (p := 28) (by decide))) ((hc.1.2.2.2.2.2 28).1.trans rfl)) ?_
      refine x_goto (pc' := 68) rfl rfl ?_
      refine x_reti rfl rfl ?_
      refine sK_i (pc' := 34) rfl ?_
      refine x_istore (pc' := 36) (ls' := [_, _, _, _, _, _, _, _]) rfl rfl rfl rfl ?_
      refine x_iload (pc' := 38) rfl rfl rfl ?_
      refine x_if (a' := 83) (pc' := 41) (z := true) rfl rfl rfl (by decide) (fun _ => ?_) (fun h => by cases h)
      refine x_iinc (pc' := 86) (y := 2) (ls' := [_, _, _, _, _, _, _, _]) rfl rfl rfl rfl rfl ?_
      refine x_goto (pc' := 20) rfl rfl ?_
      refine x_iload (pc' := 22) rfl rfl rfl ?_
      refine x_iconst (pc' := 23) rfl rfl ?_
      refine x_icmp (a' := 89) (pc' := 26) (z := false) rfl rfl rfl (by decide) (fun h => by cases h) (fun _ => ?_)
      refine x_aload_n (pc' := 27) rfl rfl rfl rfl rfl ?_
      refine x_aload_n (pc' := 28) rfl rfl rfl rfl rfl ?_
      refine x_iload_n (pc' := 29) rfl rfl rfl ?_
      refine x_iload (pc' := 31) rfl rfl rfl ?_
      refine x_cv (ls0 := [_, _, _, _, sJk, sJk]) (rest := []) rfl rfl rfl rfl rfl ?_
      refine x_aload_n (pc' := 1) rfl rfl rfl rfl rfl ?_
      refine x_gI (pc' := 4) (x := 3) rfl rfl rfl (kI_64_3 hc.1) ?_
      refine x_iconst (pc' := 5) rfl rfl ?_
      refine x_imul (pc' := 6) (z := 9) rfl rfl (by decide) ?_
      refine x_iload_n (pc' := 7) rfl rfl rfl ?_
      refine x_iadd (pc' := 8) (z := 9) rfl rfl (by decide) ?_
      refine x_iconst (pc' := 9) rfl rfl ?_
      refine x_imul (pc' := 10) (z := 27) rfl rfl (by decide) ?_
      refine x_iload_n (pc' := 11) rfl rfl rfl ?_
      refine x_iadd (pc' := 12) (z := 29) rfl rfl (by decide) ?_
      refine x_istore (pc' := 14) (ls' := [_, _, _, _, _, _]) rfl rfl rfl rfl ?_
      refine x_iload_n (pc' := 15) rfl rfl rfl ?_
      refine x_if (a' := 36) (pc' := 18) (z := false) rfl rfl rfl (by decide) (fun h => by cases h) (fun _ => ?_)
      refine x_iload_n (pc' := 19) rfl rfl rfl ?_
      refine x_iconst (pc' := 20) rfl rfl ?_
      refine x_icmp (a' := 36) (pc' := 23) (z := false) rfl rfl rfl (by decide) (fun h => by cases h) (fun _ => ?_)
      refine x_iload_n (pc' := 24) rfl rfl rfl ?_
      refine x_if (a' := 36) (pc' := 27) (z := false) rfl rfl rfl (by decide) (fun h => by cases h) (fun _ => ?_)
      refine x_iload_n (pc' := 28) rfl rfl rfl ?_
      refine x_iconst (pc' := 29) rfl rfl ?_
      refine x_icmp (a' := 36) (pc' := 32) (z := false) rfl rfl rfl (by decide) (fun h => by cases h) (fun _ => ?_)
      refine x_iconst (pc' := 33) rfl rfl ?_
      refine x_goto (pc' := 37) rfl rfl ?_
      refine x_istore (pc' := 39) (ls' := [_, _, _, _, _, _]) rfl rfl rfl rfl ?_
      refine x_iload (pc' := 41) rfl rfl rfl ?_
      refine x_if (a' := 67) (pc' := 44) (z := false) rfl rfl rfl (by decide) (fun h => by cases h) (fun _ => ?_)
      refine x_iload (pc' := 46) rfl rfl rfl ?_
      refine x_if (a' := 67) (pc' := 49) (z := false) rfl rfl rfl (by decide) (fun h => by cases h) (fun _ => ?_)
      refine x_iload (pc' := 51) rfl rfl rfl ?_
      refine x_getstatic (pc' := 54) rfl rfl (show 0 < sC t 28 from gst0 hc.1) ?_
      refine x_alen (pc' := 55) (N := 45) rfl rfl rfl (kN_28_0 hc.1) (?_ : X _ _ _ (.inl 45 :: _) _ _)
      refine x_icmp (a' := 67) (pc' := 58) (z := false) rfl rfl rfl (by decide) (fun h => by cases h) (fun _ => ?_)
      refine x_getstatic (pc' := 61) rfl rfl (show 0 < sC t 28 from gst0 hc.1) ?_
      refine x_iload (pc' := 63) rfl rfl rfl ?_
      refine x_iald (pc' := 64) (N := 45) (x := 0) rfl rfl rfl (kN_28_0 hc.1) (io_in (p := 29) (N := 45) (by decide) (by decide)) (Eq.trans (congrArg (sA t 28 0) (nn_io (p := 29) (by decide))) ((hc.1.2.2.2.2.2 29).1.trans rfl)) ?_
      refine x_goto (pc' := 68) rfl rfl ?_
      refine x_reti rfl rfl ?_
      refine sK_i (pc' := 34) rfl ?_
      refine x_istore (pc' := 36) (ls' := [_, _, _, _, _, _, _, _]) rfl rfl rfl rfl ?_
      refine x_iload (pc' := 38) rfl rfl rfl ?_
      refine x_if (a' := 83) (pc' := 41) (z := true) rfl rfl rfl (by decide) (fun _ => ?_) (fun h => by cases h)
      refine x_iinc (pc' := 86) (y := 3) (ls' := [_, _, _, _, _, _, _, _]) rfl rfl rfl rfl rfl ?_
      refine x_goto (pc' := 20) rfl rfl ?_
      refine x_iload (pc' := 22) rfl rfl rfl ?_
      refine x_iconst (pc' := 23) rfl rfl ?_
      refine x_icmp (a' := 89) (pc' := 26) (z := true) rfl rfl rfl (by decide) (fun _ => ?_) (fun h => by cases h)
      refine x_iload (pc' := 91) rfl rfl rfl ?_
      refine x_reti rfl rfl ?_
      exact qv (by simp only [cp30tF, (isSome_s q25), cd_t, cd_f]) (q )
    · refine x_sipush (pc' := 58) rfl rfl ?_
      refine x_reti rfl rfl ?_
      exact qv (by simp only [cp30tF, (isSome_n q25), cd_t, cd_f]) (q )
  refine x_icmp (a' := 35) (pc' := 33) (z := decide ((mA M 0 3) = 2)) rfl rfl rfl rfl (fun q20 => ?_) (fun q20 => ?_)
  · refine x_aload_n (pc' := 36) rfl rfl rfl rfl rfl ?_
    refine x_gR (pc' := 39) (r := (some 0)) rfl rfl rfl (kR_640_0 hc.1) ?_
    refine x_iload_n (pc' := 40) rfl rfl rfl ?_
    refine x_aald (pc' := 41) (N := 5) (k' := 1) (r := (some 3)) rfl rfl rfl (kN_24_0 hc.1) (io_in (p := 3) (N := 5) (by decide) (by decide)) (Eq.trans (congrArg (sE t 24 0) (nn_io (p := 3) (by decide))) (kB hc.1 (by decide))) ?_
    refine x_iload_n (pc' := 42) rfl rfl rfl ?_
    refine x_if (a' := 57) (pc' := 45) (z := false) rfl rfl rfl (by decide) (fun h => by cases h) (fun _ => ?_)
    refine x_iload_n (pc' := 46) rfl rfl rfl ?_
    refine x_if (a' := 53) (pc' := 49) (z := true) rfl rfl rfl (by decide) (fun _ => ?_) (fun h => by cases h)
    refine x_iconst (pc' := 54) rfl rfl ?_
    refine x_goto (pc' := 58) rfl rfl ?_
    refine x_cv (ls0 := [_, _]) (rest := []) rfl rfl rfl rfl rfl ?_
    refine x_iload_n (pc' := 1) rfl rfl rfl ?_
    refine x_if (a' := 11) (pc' := 4) (z := true) rfl rfl rfl (by decide) (fun _ => ?_) (fun h => by cases h)
    refine x_aload_n (pc' := 12) rfl rfl rfl rfl rfl ?_
    refine x_gR (pc' := 15) (r := (bsF M n 3 false)) rfl rfl rfl (bs_70 hC (Fc.ri (Fc.refl _) hR) hM (by decide)) ?_
    refine x_reta rfl rfl ?_
    refine sK_i (pc' := 61) rfl ?_
    refine x_reta rfl rfl ?_
    ((try rw [q20] at J23); (try rw [q20]); (try simp only [cd_t, cd_f, nt_t, nt_f, an_t, an_f, or_t, or_f] at J23); (try simp only [cd_t, cd_f, nt_t, nt_f, an_t, an_f, or_t, or_f]); exact J23)
  · refine x_null (pc' := 34) rfl rfl rfl ?_
    refine x_reta rfl rfl ?_
    ((try rw [q20] at J23); (try rw [q20]); (try simp only [cd_t, cd_f, nt_t, nt_f, an_t, an_f, or_t, or_f] at J23); (try simp only [cd_t, cd_f, nt_t, nt_f, an_t, an_f, or_t, or_f]); exact J23)
def cp31fF (M : sM) (n : Nat) : Int32 := (bif (bif (decide ((mA M 0 0) = 2)) then (bsF M n 0 true) else none).isSome then (bif (bif (decide ((mA M 0 1) = 2)) then (bsF M n 1 false) else none).isSome then ((0 + (mA M 14 (ovD (bif (decide ((mA M 0 0) = 2)) then (bsF M n 0 true) else none)))) + (-(mA M 14 (ovD (bif (decide ((mA M 0 1) = 2)) then (bsF M n 1 false) else none))))) else (-10000)) else (-10000))
set_option maxHeartbeats 4000000 in
set_option maxRecDepth 10000 in
theorem c81_31f {t : sT} {Q : sRs → sT → Prop} {M : sM} {n : Nat} {T : Nat}
    (hM : Rl t M n T)
    (hc : Sf t M n T)
    (hR : Ri M n)
    (hC : rlC t M n)
    (q : Q (.inl (some (.inl (cp31fF M n)))) t) :
    X 81 0 [.inr (.inr (10, (some 0))), .inr (.inr (1, (some 3))), .inl 1, .inl (bz false), sJk, sJk, sJk, sJk] [] t Q := by
  refine x_aload_n (pc' := 1) rfl rfl rfl rfl rfl ?_
  refine x_aload_n (pc' := 2) rfl rfl rfl rfl rfl ?_
  refine x_iload_n (pc' := 3) rfl rfl rfl ?_
  refine x_iconst (pc' := 4) rfl rfl ?_
  refine x_cv (ls0 := [_, _, _, _, sJk, sJk]) (rest := []) rfl rfl rfl rfl rfl ?_
  refine x_aload_n (pc' := 1) rfl rfl rfl rfl rfl ?_
  refine x_gI (pc' := 4) (x := 3) rfl rfl rfl (kI_64_3 hc.1) ?_
  refine x_iconst (pc' := 5) rfl rfl ?_
  refine x_imul (pc' := 6) (z := 9) rfl rfl (by decide) ?_
  refine x_iload_n (pc' := 7) rfl rfl rfl ?_
  refine x_iadd (pc' := 8) (z := 10) rfl rfl (by decide) ?_
  refine x_iconst (pc' := 9) rfl rfl ?_
  refine x_imul (pc' := 10) (z := 30) rfl rfl (by decide) ?_
  refine x_iload_n (pc' := 11) rfl rfl rfl ?_
  refine x_iadd (pc' := 12) (z := 30) rfl rfl (by decide) ?_
  refine x_istore (pc' := 14) (ls' := [_, _, _, _, _, _]) rfl rfl rfl rfl ?_
  refine x_iload_n (pc' := 15) rfl rfl rfl ?_
  refine x_if (a' := 36) (pc' := 18) (z := false) rfl rfl rfl (by decide) (fun h => by cases h) (fun _ => ?_)
  refine x_iload_n (pc' := 19) rfl rfl rfl ?_
  refine x_iconst (pc' := 20) rfl rfl ?_
  refine x_icmp (a' := 36) (pc' := 23) (z := false) rfl rfl rfl (by decide) (fun h => by cases h) (fun _ => ?_)
  refine x_iload_n (pc' := 24) rfl rfl rfl ?_
  refine x_if (a' := 36) (pc' := 27) (z := false) rfl rfl rfl (by decide) (fun h => by cases h) (fun _ => ?_)
  refine x_iload_n (pc' := 28) rfl rfl rfl ?_
  refine x_iconst (pc' := 29) rfl rfl ?_
  refine x_icmp (a' := 36) (pc' := 32) (z := false) rfl rfl rfl (by decide) (fun h => by cases h) (fun _ => ?_)
  refine x_iconst (pc' := 33) rfl rfl ?_
  refine x_goto (pc' := 37) rfl rfl ?_
  refine x_istore (pc' := 39) (ls' := [_, _, _, _, _, _]) rfl rfl rfl rfl ?_
  refine x_iload (pc' := 41) rfl rfl rfl ?_
  refine x_if (a' := 67) (pc' := 44) (z := false) rfl rfl rfl (by decide) (fun h => by cases h) (fun _ => ?_)
  refine x_iload (pc' := 46) rfl rfl rfl ?_
  refine x_if (a' := 67) (pc' := 49) (z := false) rfl rfl rfl (by decide) (fun h => by cases h) (fun _ => ?_)
  refine x_iload (pc' := 51) rfl rfl rfl ?_
  refine x_getstatic (pc' := 54) rfl rfl (show 0 < sC t 28 from gst0 hc.1) ?_
  refine x_alen (pc' := 55) (N := 45) rfl rfl rfl (kN_28_0 hc.1) (?_ : X _ _ _ (.inl 45 :: _) _ _)
  refine x_icmp (a' := 67) (pc' := 58) (z := false) rfl rfl rfl (by decide) (fun h => by cases h) (fun _ => ?_)
  refine x_getstatic (pc' := 61) rfl rfl (show 0 < sC t 28 from gst0 hc.1) ?_
  refine x_iload (pc' := 63) rfl rfl rfl ?_
  refine x_iald (pc' := 64) (N := 45) (x := 1) rfl rfl rfl (kN_28_0 hc.1) (io_in (p := 30) (N := 45) (by decide) (by decide)) (Eq.trans (congrArg (sA t 28 0) (nn_io (p := 30) (by decide))) ((hc.1.2.2.2.2.2 30).1.trans rfl)) ?_
  refine x_goto (pc' := 68) rfl rfl ?_
  refine x_reti rfl rfl ?_
  refine sK_i (pc' := 7) rfl ?_
  refine x_if (a' := 14) (pc' := 10) (z := true) rfl rfl rfl (by decide) (fun _ => ?_) (fun h => by cases h)
  refine x_iconst (pc' := 15) rfl rfl ?_
  refine x_istore (pc' := 17) (ls' := [_, _, _, _, _, _, _, _]) rfl rfl rfl rfl ?_
  refine x_iconst (pc' := 18) rfl rfl ?_
  refine x_istore (pc' := 20) (ls' := [_, _, _, _, _, _, _, _]) rfl rfl rfl rfl ?_
  refine x_iload (pc' := 22) rfl rfl rfl ?_
  refine x_iconst (pc' := 23) rfl rfl ?_
  refine x_icmp (a' := 89) (pc' := 26) (z := false) rfl rfl rfl (by decide) (fun h => by cases h) (fun _ => ?_)
  refine x_aload_n (pc' := 27) rfl rfl rfl rfl rfl ?_
  refine x_aload_n (pc' := 28) rfl rfl rfl rfl rfl ?_
  refine x_iload_n (pc' := 29) rfl rfl rfl ?_
  refine x_iload (pc' := 31) rfl rfl rfl ?_
  refine x_cv (ls0 := [_, _, _, _, sJk, sJk]) (rest := []) rfl rfl rfl rfl rfl ?_
  refine x_aload_n (pc' := 1) rfl rfl rfl rfl rfl ?_
  refine x_gI (pc' := 4) (x := 3) rfl rfl rfl (kI_64_3 hc.1) ?_
  refine x_iconst (pc' := 5) rfl rfl ?_
  refine x_imul (pc' := 6) (z := 9) rfl rfl (by decide) ?_
  refine x_iload_n (pc' := 7) rfl rfl rfl ?_
  refine x_iadd (pc' := 8) (z := 10) rfl rfl (by decide) ?_
  refine x_iconst (pc' := 9) rfl rfl ?_
  refine x_imul (pc' := 10) (z := 30) rfl rfl (by decide) ?_
  refine x_iload_n (pc' := 11) rfl rfl rfl ?_
  refine x_iadd (pc' := 12) (z := 30) rfl rfl (by decide) ?_
  refine x_istore (pc' := 14) (ls' := [_, _, _, _, _, _]) rfl rfl rfl rfl ?_
  refine x_iload_n (pc' := 15) rfl rfl rfl ?_
  refine x_if (a' := 36) (pc' := 18) (z := false) rfl rfl rfl (by decide) (fun h => by cases h) (fun _ => ?_)
  refine x_iload_n (pc' := 19) rfl rfl rfl ?_
  refine x_iconst (pc' := 20) rfl rfl ?_
  refine x_icmp (a' := 36) (pc' := 23) (z := false) rfl rfl rfl (by decide) (fun h => by cases h) (fun _ => ?_)
  refine x_iload_n (pc' := 24) rfl rfl rfl ?_
  refine x_if (a' := 36) (pc' := 27) (z := false) rfl rfl rfl (by decide) (fun h => by cases h) (fun _ => ?_)
  refine x_iload_n (pc' := 28) rfl rfl rfl ?_
  refine x_iconst (pc' := 29) rfl rfl ?_
  refine x_icmp (a' := 36) (pc' := 32) (z := false) rfl rfl rfl (by decide) (fun h => by cases h) (fun _ => ?_)
  refine x_iconst (pc' := 33) rfl rfl ?_
  refine x_goto (pc' := 37) rfl rfl ?_
  refine x_istore (pc' := 39) (ls' := [_, _, _, _, _, _]) rfl rfl rfl rfl ?_
  refine x_iload (pc' := 41) rfl rfl rfl ?_
  refine x_if (a' := 67) (pc' := 44) (z := false) rfl rfl rfl (by decide) (fun h => by cases h) (fun _ => ?_)
  refine x_iload (pc' := 46) rfl rfl rfl ?_
  refine x_if (a' := 67) (pc' := 49) (z := false) rfl rfl rfl (by decide) (fun h => by cases h) (fun _ => ?_)
  refine x_iload (pc' := 51) rfl rfl rfl ?_
  refine x_getstatic (pc' := 54) rfl rfl (show 0 < sC t 28 from gst0 hc.1) ?_
  refine x_alen (pc' := 55) (N := 45) rfl rfl rfl (kN_28_0 hc.1) (?_ : X _ _ _ (.inl 45 :: _) _ _)
  refine x_icmp (a' := 67) (pc' := 58) (z := false) rfl rfl rfl (by decide) (fun h => by cases h) (fun _ => ?_)
  refine x_getstatic (pc' := 61) rfl rfl (show 0 < sC t 28 from gst0 hc.1) ?_
  refine x_iload (pc' := 63) rfl rfl rfl ?_
  refine x_iald (pc' := 64) (N := 45) (x := 1) rfl rfl rfl (kN_28_0 hc.1) (io_in (p := 30) (N := 45) (by decide) (by decide)) (Eq.trans (congrArg (sA t 28 0) (nn_io (p := 30) (by decide))) ((hc.1.2.2.2.2.2 30).1.trans rfl)) ?_
  refine x_goto (pc' := 68) rfl rfl ?_
  refine x_reti rfl rfl ?_
  refine sK_i (pc' := 34) rfl ?_
  refine x_istore (pc' := 36) (ls' := [_, _, _, _, _, _, _, _]) rfl rfl rfl rfl ?_
  refine x_iload (pc' := 38) rfl rfl rfl ?_
  refine x_if (a' := 83) (pc' := 41) (z := false) rfl rfl rfl (by decide) (fun h => by cases h) (fun _ => ?_)
  refine x_aload_n (pc' := 42) rfl rfl rfl rfl rfl ?_
  refine x_iload (pc' := 44) rfl rfl rfl ?_
  refine x_iload_n (pc' := 45) rfl rfl rfl ?_
  refine x_cv (ls0 := [_, _, _, sJk]) (rest := []) rfl rfl rfl rfl rfl ?_
  refine x_iload_n (pc' := 1) rfl rfl rfl ?_
  refine x_abs (pc' := 4) (z := 1) rfl rfl rfl (by decide) ?_
  refine x_iconst (pc' := 5) rfl rfl ?_
  refine x_isub (pc' := 6) (z := 0) rfl rfl (by decide) ?_
  refine x_istore_n (pc' := 7) (ls' := [_, _, _, _]) rfl rfl rfl rfl ?_
  refine x_iload_n (pc' := 8) rfl rfl rfl ?_
  refine x_if (a' := 33) (pc' := 11) (z := false) rfl rfl rfl (by decide) (fun h => by cases h) (fun _ => ?_)
  refine x_iload_n (pc' := 12) rfl rfl rfl ?_
  refine x_aload_n (pc' := 13) rfl rfl rfl rfl rfl ?_
  refine x_gR (pc' := 16) (r := (some 0)) rfl rfl rfl (kR_640_0 hc.1) ?_
  refine x_alen (pc' := 17) (N := 5) rfl rfl rfl (kN_24_0 hc.1) (?_ : X _ _ _ (.inl 5 :: _) _ _)
  refine x_icmp (a' := 33) (pc' := 20) (z := false) rfl rfl rfl (by decide) (fun h => by cases h) (fun _ => ?_)
  refine x_aload_n (pc' := 21) rfl rfl rfl rfl rfl ?_
  refine x_gR (pc' := 24) (r := (some 0)) rfl rfl rfl (kR_640_0 hc.1) ?_
  refine x_iload_n (pc' := 25) rfl rfl rfl ?_
  refine x_aald (pc' := 26) (N := 5) (k' := 1) (r := (some 0)) rfl rfl rfl (kN_24_0 hc.1) (io_in (p := 0) (N := 5) (by decide) (by decide)) (Eq.trans (congrArg (sE t 24 0) (nn_io (p := 0) (by decide))) (kB hc.1 (by decide))) ?_
  refine x_gI (pc' := 29) (x := (mA M 0 0)) rfl rfl rfl (kA hM rfl (show 0 < 5 by decide)) ?_
  refine x_iconst (pc' := 30) rfl rfl ?_
  have J23 : ((sK 79 81 45 [.inr (.inr (10, (some 0))), .inr (.inr (1, (some 3))), .inl 1, .inl (bz false), .inl 0, .inl 0, .inl 1, sJk] [] Q) : sRs → sT → Prop) (.inl (some (.inr (.inr (8, (bif (decide ((mA M 0 0) = 2)) then (bsF M n 0 true) else none)))))) t := by
    refine sK_i (pc' := 48) rfl ?_
    refine x_astore (pc' := 50) (ls' := [_, _, _, _, _, _, _, _]) rfl rfl rfl rfl rfl ?_
    refine x_aload (pc' := 52) rfl rfl rfl rfl rfl ?_
    refine x_ifnonnull (a' := 59) (pc' := 55) rfl rfl rfl rfl (fun j0 q25 => ?_) (fun q25 => ?_)
    · refine x_iload (pc' := 61) rfl rfl rfl ?_
      refine x_iload (pc' := 63) rfl rfl rfl ?_
      refine x_if (a' := 74) (pc' := 66) (z := false) rfl rfl rfl (by decide) (fun h => by cases h) (fun _ => ?_)
      refine x_aload (pc' := 68) rfl rfl rfl rfl (ovD_s q25) ?_
      refine x_gI (pc' := 71) (x := (mA M 14 (ovD (bif (decide ((mA M 0 0) = 2)) then (bsF M n 0 true) else none)))) rfl rfl rfl ((kA hM rfl (ovD_lt (obd_c bsF_lt obd_n) q25)).trans (congrFun (Fc.f14 (Fc.refl _)) _)) ?_
      refine x_goto (pc' := 80) rfl rfl ?_
      refine x_iadd (pc' := 81) (z := (0 + (mA M 14 (ovD (bif (decide ((mA M 0 0) = 2)) then (bsF M n 0 true) else none))))) rfl rfl rfl ?_
      refine x_istore (pc' := 83) (ls' := [_, _, _, _, _, _, _, _]) rfl rfl rfl rfl ?_
      refine x_iinc (pc' := 86) (y := 1) (ls' := [_, _, _, _, _, _, _, _]) rfl rfl rfl rfl rfl ?_
      refine x_goto (pc' := 20) rfl rfl ?_
      refine x_iload (pc' := 22) rfl rfl rfl ?_
      refine x_iconst (pc' := 23) rfl rfl ?_
      refine x_icmp (a' := 89) (pc' := 26) (z := false) rfl rfl rfl (by decide) (fun h => by cases h) (fun _ => ?_)
      refine x_aload_n (pc' := 27) rfl rfl rfl rfl rfl ?_
      refine x_aload_n (pc' := 28) rfl rfl rfl rfl rfl ?_
      refine x_iload_n (pc' := 29) rfl rfl rfl ?_
      refine x_iload (pc' := 31) rfl rfl rfl ?_
      refine x_cv (ls0 := [_, _, _, _, sJk, sJk]) (rest := []) rfl rfl rfl rfl rfl ?_
      refine x_aload_n (pc' := 1) rfl rfl rfl rfl rfl ?_
      refine x_gI (pc' := 4) (x := 3) rfl rfl rfl (kI_64_3 hc.1) ?_
      refine x_iconst (pc' := 5) rfl rfl ?_
      refine x_imul (pc' := 6) (z := 9) rfl rfl (by decide) ?_
      refine x_iload_n (pc' := 7) rfl rfl rfl ?_
      refine x_iadd (pc' := 8) (z := 10) rfl rfl (by decide) ?_
      refine x_iconst (pc' := 9) rfl rfl ?_
      refine x_imul (pc' := 10) (z := 30) rfl rfl (by decide) ?_
      refine x_iload_n (pc' := 11) rfl rfl rfl ?_
      refine x_iadd (pc' := 12) (z := 31) rfl rfl (by decide) ?_
      refine x_istore (pc' := 14) (ls' := [_, _, _, _, _, _]) rfl rfl rfl rfl ?_
      refine x_iload_n (pc' := 15) rfl rfl rfl ?_
      refine x_if (a' := 36) (pc' := 18) (z := false) rfl rfl rfl (by decide) (fun h => by cases h) (fun _ => ?_)
      refine x_iload_n (pc' := 19) rfl rfl rfl ?_
      refine x_iconst (pc' := 20) rfl rfl ?_
      refine x_icmp (a' := 36) (pc' := 23) (z := false) rfl rfl rfl (by decide) (fun h => by cases h) (fun _ => ?_)
      refine x_iload_n (pc' := 24) rfl rfl rfl ?_
      refine x_if (a' := 36) (pc' := 27) (z := false) rfl rfl rfl (by decide) (fun h => by cases h) (fun _ => ?_)
      refine x_iload_n (pc' := 28) rfl rfl rfl ?_
      refine x_iconst (pc' := 29) rfl rfl ?_
      refine x_icmp (a' := 36) (pc' := 32) (z := false) rfl rfl rfl (by decide) (fun h => by cases h) (fun _ => ?_)
      refine x_iconst (pc' := 33) rfl rfl ?_
      refine x_goto (pc' := 37) rfl rfl ?_
      refine x_istore (pc' := 39) (ls' := [_, _, _, _, _, _]) rfl rfl rfl rfl ?_
      refine x_iload (pc' := 41) rfl rfl rfl ?_
      refine x_if (a' := 67) (pc' := 44) (z := false) rfl rfl rfl (by decide) (fun h => by cases h) (fun _ => ?_)
      refine x_iload (pc' := 46) rfl rfl rfl ?_
      refine x_if (a' := 67) (pc' := 49) (z := false) rfl rfl rfl (by decide) (fun h => by cases h) (fun _ => ?_)
      refine x_iload (pc' := 51) rfl rfl rfl ?_
      refine x_getstatic (pc' := 54) rfl rfl (show 0 < sC t 28 from gst0 hc.1) ?_
      refine x_alen (pc' := 55) (N := 45) rfl rfl rfl (kN_28_0 hc.1) (?_ : X _ _ _ (.inl 45 :: _) _ _)
      refine x_icmp (a' := 67) (pc' := 58) (z := false) rfl rfl rfl (by decide) (fun h => by cases h) (fun _ => ?_)
      refine x_getstatic (pc' := 61) rfl rfl (show 0 < sC t 28 from gst0 hc.1) ?_
      refine x_iload (pc' := 63) rfl rfl rfl ?_
      refine x_iald (pc' := 64) (N := 45) (x := (-2)) rfl rfl rfl (kN_28_0 hc.1) (io_in (p := 31) (N := 45) (by decide) (by decide)) (Eq.trans (congrArg (sA t 28 0) (nn_io (p := 31) (by decide))) ((hc.1.2.2.2.2.2 31).1.trans rfl)) ?_
      refine x_goto (pc' := 68) rfl rfl ?_
      refine x_reti rfl rfl ?_
      refine sK_i (pc' := 34) rfl ?_
      refine x_istore (pc' := 36) (ls' := [_, _, _, _, _, _, _, _]) rfl rfl rfl rfl ?_
      refine x_iload (pc' := 38) rfl rfl rfl ?_
      refine x_if (a' := 83) (pc' := 41) (z := false) rfl rfl rfl (by decide) (fun h => by cases h) (fun _ => ?_)
      refine x_aload_n (pc' := 42) rfl rfl rfl rfl rfl ?_
      refine x_iload (pc' := 44) rfl rfl rfl ?_
      refine x_iload_n (pc' := 45) rfl rfl rfl ?_
      refine x_cv (ls0 := [_, _, _, sJk]) (rest := []) rfl rfl rfl rfl rfl ?_
      refine x_iload_n (pc' := 1) rfl rfl rfl ?_
      refine x_abs (pc' := 4) (z := 2) rfl rfl rfl (by decide) ?_
      refine x_iconst (pc' := 5) rfl rfl ?_
      refine x_isub (pc' := 6) (z := 1) rfl rfl (by decide) ?_
      refine x_istore_n (pc' := 7) (ls' := [_, _, _, _]) rfl rfl rfl rfl ?_
      refine x_iload_n (pc' := 8) rfl rfl rfl ?_
      refine x_if (a' := 33) (pc' := 11) (z := false) rfl rfl rfl (by decide) (fun h => by cases h) (fun _ => ?_)
      refine x_iload_n (pc' := 12) rfl rfl rfl ?_
      refine x_aload_n (pc' := 13) rfl rfl rfl rfl rfl ?_
      refine x_gR (pc' := 16) (r := (some 0)) rfl rfl rfl (kR_640_0 hc.1) ?_
      refine x_alen (pc' := 17) (N := 5) rfl rfl rfl (kN_24_0 hc.1) (?_ : X _ _ _ (.inl 5 :: _) _ _)
      refine x_icmp (a' := 33) (pc' := 20) (z := false) rfl rfl rfl (by decide) (fun h => by cases h) (fun _ => ?_)
      refine x_aload_n (pc' := 21) rfl rfl rfl rfl rfl ?_
      refine x_gR (pc' := 24) (r := (some 0)) rfl rfl rfl (kR_640_0 hc.1) ?_
      refine x_iload_n (pc' := 25) rfl rfl rfl ?_
      refine x_aald (pc' := 26) (N := 5) (k' := 1) (r := (some 1)) rfl rfl rfl (kN_24_0 hc.1) (io_in (p := 1) (N := 5) (by decide) (by decide)) (Eq.trans (congrArg (sE t 24 0) (nn_io (p := 1) (by decide))) (kB hc.1 (by decide))) ?_
      refine x_gI (pc' := 29) (x := (mA M 0 1)) rfl rfl rfl (kA hM rfl (show 1 < 5 by decide)) ?_
      refine x_iconst (pc' := 30) rfl rfl ?_
      have J40 : ((sK 79 81 45 [.inr (.inr (10, (some 0))), .inr (.inr (1, (some 3))), .inl 1, .inl (bz false), .inl (0 + (mA M 14 (ovD (bif (decide ((mA M 0 0) = 2)) then (bsF M n 0 true) else none)))), .inl 1, .inl (-2), .inr (.inr (8, (bif (decide ((mA M 0 0) = 2)) then (bsF M n 0 true) else none)))] [] Q) : sRs → sT → Prop) (.inl (some (.inr (.inr (8, (bif (decide ((mA M 0 1) = 2)) then (bsF M n 1 false) else none)))))) t := by
        refine sK_i (pc' := 48) rfl ?_
        refine x_astore (pc' := 50) (ls' := [_, _, _, _, _, _, _, _]) rfl rfl rfl rfl rfl ?_
        refine x_aload (pc' := 52) rfl rfl rfl rfl rfl ?_
        refine x_ifnonnull (a' := 59) (pc' := 55) rfl rfl rfl rfl (fun j1 q42 => ?_) (fun q42 => ?_)
        · refine x_iload (pc' := 61) rfl rfl rfl ?_
          refine x_iload (pc' := 63) rfl rfl rfl ?_
          refine x_if (a' := 74) (pc' := 66) (z := true) rfl rfl rfl (by decide) (fun _ => ?_) (fun h => by cases h)
          refine x_aload (pc' := 76) rfl rfl rfl rfl (ovD_s q42) ?_
          refine x_gI (pc' := 79) (x := (mA M 14 (ovD (bif (decide ((mA M 0 1) = 2)) then (bsF M n 1 false) else none)))) rfl rfl rfl ((kA hM rfl (ovD_lt (obd_c bsF_lt obd_n) q42)).trans (congrFun (Fc.f14 (Fc.refl _)) _)) ?_
          refine x_ineg (pc' := 80) rfl rfl rfl ?_
          refine x_iadd (pc' := 81) (z := ((0 + (mA M 14 (ovD (bif (decide ((mA M 0 0) = 2)) then (bsF M n 0 true) else none)))) + (-(mA M 14 (ovD (bif (decide ((mA M 0 1) = 2)) then (bsF M n 1 false) else none)))))) rfl rfl rfl ?_
          refine x_istore (pc' := 83) (ls' := [_, _, _, _, _, _, _, _]) rfl rfl rfl rfl ?_
          refine x_iinc (pc' := 86) (y := 2) (ls' := [_, _, _, _, _, _, _, _]) rfl rfl rfl rfl rfl ?_
          refine x_goto (pc' := 20) rfl rfl ?_
          refine x_iload (pc' := 22) rfl rfl rfl ?_
          refine x_iconst (pc' := 23) rfl rfl ?_
          refine x_icmp (a' := 89) (pc' := 26) (z := false) rfl rfl rfl (by decide) (fun h => by cases h) (fun _ => ?_)
          refine x_aload_n (pc' := 27) rfl rfl rfl rfl rfl ?_
          refine x_aload_n (pc' := 28) rfl rfl rfl rfl rfl ?_
          refine x_iload_n (pc' := 29) rfl rfl rfl ?_
          refine x_iload (pc' := 31) rfl rfl rfl ?_
          refine x_cv (ls0 := [_, _, _, _, sJk, sJk]) (rest := []) rfl rfl rfl rfl rfl ?_
          refine x_aload_n (pc' := 1) rfl rfl rfl rfl rfl ?_
          refine x_gI (pc' := 4) (x := 3) rfl rfl rfl (kI_64_3 hc.1) ?_
          refine x_iconst (pc' := 5) rfl rfl ?_
          refine x_imul (pc' := 6) (z := 9) rfl rfl (by decide) ?_
          refine x_iload_n (pc' := 7) rfl rfl rfl ?_
          refine x_iadd (pc' := 8) (z := 10) rfl rfl (by decide) ?_
          refine x_iconst (pc' := 9) rfl rfl ?_
          refine x_imul (pc' := 10) (z := 30) rfl rfl (by decide) ?_
          refine x_iload_n (pc' := 11) rfl rfl rfl ?_
          refine x_iadd (pc' := 12) (z := 32) rfl rfl (by decide) ?_
          refine x_istore (pc' := 14) (ls' := [_, _, _, _, _, _]) rfl rfl rfl rfl ?_
          refine x_iload_n (pc' := 15) rfl rfl rfl ?_
          refine x_if (a' := 36) (pc' := 18) (z := false) rfl rfl rfl (by decide) (fun h => by cases h) (fun _ => ?_)
          refine x_iload_n (pc' := 19) rfl rfl rfl ?_
          refine x_iconst (pc' := 20) rfl rfl ?_
          refine x_icmp (a' := 36) (pc' := 23) (z := false) rfl rfl rfl (by decide) (fun h => by cases h) (fun _ => ?_)
          refine x_iload_n (pc' := 24) rfl rfl rfl ?_
          refine x_if (a' := 36) (pc' := 27) (z := false) rfl rfl rfl (by decide) (fun h => by cases h) (fun _ => ?_)
          refine x_iload_n (pc' := 28) rfl rfl rfl ?_
          refine x_iconst (pc' := 29) rfl rfl ?_
          refine x_icmp (a' := 36) (pc' := 32) (z := false) rfl rfl rfl (by decide) (fun h => by cases h) (fun _ => ?_)
          refine x_iconst (pc' := 33) rfl rfl ?_
          refine x_goto (pc' := 37) rfl rfl ?_
          refine x_istore (pc' := 39) (ls' := [_, _, _, _, _, _]) rfl rfl rfl rfl ?_
          refine x_iload (pc' := 41) rfl rfl rfl ?_
          refine x_if (a' := 67) (pc' := 44) (z := false) rfl rfl rfl (by decide) (fun h => by cases h) (fun _ => ?_)
          refine x_iload (pc' := 46) rfl rfl rfl ?_
          refine x_if (a' := 67) (pc' := 49) (z := false) rfl rfl rfl (by decide) (fun h => by cases h) (fun _ => ?_)
          refine x_iload (pc' := 51) rfl rfl rfl ?_
          refine x_getstatic (pc' := 54) rfl rfl (show 0 < sC t 28 from gst0 hc.1) ?_
          refine x_alen (pc' := 55) (N := 45) rfl rfl rfl (kN_28_0 hc.1) (?_ : X _ _ _ (.inl 45 :: _) _ _)
          refine x_icmp (a' := 67) (pc' := 58) (z := false) rfl rfl rfl (by decide) (fun h => by cases h) (fun _ => ?_)
          refine x_getstatic (pc' := 61) rfl rfl (show 0 < sC t 28 from gst0 hc.1) ?_
          refine x_iload (pc' := 63) rfl rfl rfl ?_
          refine x_iald (pc' := 64) (N := 45) (x := 0) rfl rfl rfl (kN_28_0 hc.1) (io_in (p := 32) (N := 45) (by decide) (by decide)) (Eq.trans (congrArg (sA t 28 0) (nn_io (p := 32) (by decide))) ((hc.1.2.2.2.2.2 32).1.trans rfl)) ?_
          refine x_goto (pc' := 68) rfl rfl ?_
          refine x_reti rfl rfl ?_
          refine sK_i (pc' := 34) rfl ?_
          refine x_istore (pc' := 36) (ls' := [_, _, _, _, _, _, _, _]) rfl rfl rfl rfl ?_
          refine x_iload (pc' := 38) rfl rfl rfl ?_
          refine x_if (a' := 83) (pc' := 41) (z := true) rfl rfl rfl (by decide) (fun _ => ?_) (fun h => by cases h)
          refine x_iinc (pc' := 86) (y := 3) (ls' := [_, _, _, _, _, _, _, _]) rfl rfl rfl rfl rfl ?_
          refine x_goto (pc' := 20) rfl rfl ?_
          refine x_iload (pc' := 22) rfl rfl rfl ?_
          refine x_iconst (pc' := 23) rfl rfl ?_
          refine x_icmp (a' := 89) (pc' := 26) (z := true) rfl rfl rfl (by decide) (fun _ => ?_) (fun h => by cases h)
          refine x_iload (pc' := 91) rfl rfl rfl ?_
          refine x_reti rfl rfl ?_
          exact qv (by simp only [cp31fF, (isSome_s q25), (isSome_s q42), cd_t, cd_f]) (q )
        · refine x_sipush (pc' := 58) rfl rfl ?_
          refine x_reti rfl rfl ?_
          exact qv (by simp only [cp31fF, (isSome_s q25), (isSome_n q42), cd_t, cd_f]) (q )
      refine x_icmp (a' := 35) (pc' := 33) (z := decide ((mA M 0 1) = 2)) rfl rfl rfl rfl (fun q38 => ?_) (fun q38 => ?_)
      · refine x_aload_n (pc' := 36) rfl rfl rfl rfl rfl ?_
        refine x_gR (pc' := 39) (r := (some 0)) rfl rfl rfl (kR_640_0 hc.1) ?_
        refine x_iload_n (pc' := 40) rfl rfl rfl ?_
        refine x_aald (pc' := 41) (N := 5) (k' := 1) (r := (some 1)) rfl rfl rfl (kN_24_0 hc.1) (io_in (p := 1) (N := 5) (by decide) (by decide)) (Eq.trans (congrArg (sE t 24 0) (nn_io (p := 1) (by decide))) (kB hc.1 (by decide))) ?_
        refine x_iload_n (pc' := 42) rfl rfl rfl ?_
        refine x_if (a' := 57) (pc' := 45) (z := true) rfl rfl rfl (by decide) (fun _ => ?_) (fun h => by cases h)
        refine x_iload_n (pc' := 58) rfl rfl rfl ?_
        refine x_cv (ls0 := [_, _]) (rest := []) rfl rfl rfl rfl rfl ?_
        refine x_iload_n (pc' := 1) rfl rfl rfl ?_
        refine x_if (a' := 11) (pc' := 4) (z := true) rfl rfl rfl (by decide) (fun _ => ?_) (fun h => by cases h)
        refine x_aload_n (pc' := 12) rfl rfl rfl rfl rfl ?_
        refine x_gR (pc' := 15) (r := (bsF M n 1 false)) rfl rfl rfl (bs_70 hC (Fc.ri (Fc.refl _) hR) hM (by decide)) ?_
        refine x_reta rfl rfl ?_
        refine sK_i (pc' := 61) rfl ?_
        refine x_reta rfl rfl ?_
        ((try rw [q38] at J40); (try rw [q38]); (try simp only [cd_t, cd_f, nt_t, nt_f, an_t, an_f, or_t, or_f] at J40); (try simp only [cd_t, cd_f, nt_t, nt_f, an_t, an_f, or_t, or_f]); exact J40)
      · refine x_null (pc' := 34) rfl rfl rfl ?_
        refine x_reta rfl rfl ?_
        ((try rw [q38] at J40); (try rw [q38]); (try simp only [cd_t, cd_f, nt_t, nt_f, an_t, an_f, or_t, or_f] at J40); (try simp only [cd_t, cd_f, nt_t, nt_f, an_t, an_f, or_t, or_f]); exact J40)
    · refine x_sipush (pc' := 58) rfl rfl ?_
      refine x_reti rfl rfl ?_
      exact qv (by simp only [cp31fF, (isSome_n q25), cd_t, cd_f]) (q )
  refine x_icmp (a' := 35) (pc' := 33) (z := decide ((mA M 0 0) = 2)) rfl rfl rfl rfl (fun q20 => ?_) (fun q20 => ?_)
  · refine x_aload_n (pc' := 36) rfl rfl rfl rfl rfl ?_
    refine x_gR (pc' := 39) (r := (some 0)) rfl rfl rfl (kR_640_0 hc.1) ?_
    refine x_iload_n (pc' := 40) rfl rfl rfl ?_
    refine x_aald (pc' := 41) (N := 5) (k' := 1) (r := (some 0)) rfl rfl rfl (kN_24_0 hc.1) (io_in (p := 0) (N := 5) (by decide) (by decide)) (Eq.trans (congrArg (sE t 24 0) (nn_io (p := 0) (by decide))) (kB hc.1 (by decide))) ?_
    refine x_iload_n (pc' := 42) rfl rfl rfl ?_
    refine x_if (a' := 57) (pc' := 45) (z := false) rfl rfl rfl (by decide) (fun h => by cases h) (fun _ => ?_)
    refine x_iload_n (pc' := 46) rfl rfl rfl ?_
    refine x_if (a' := 53) (pc' := 49) (z := false) rfl rfl rfl (by decide) (fun h => by cases h) (fun _ => ?_)
    refine x_iconst (pc' := 50) rfl rfl ?_
    refine x_goto (pc' := 58) rfl rfl ?_
    refine x_cv (ls0 := [_, _]) (rest := []) rfl rfl rfl rfl rfl ?_
    refine x_iload_n (pc' := 1) rfl rfl rfl ?_
    refine x_if (a' := 11) (pc' := 4) (z := false) rfl rfl rfl (by decide) (fun h => by cases h) (fun _ => ?_)
    refine x_aload_n (pc' := 5) rfl rfl rfl rfl rfl ?_
    refine x_gR (pc' := 8) (r := (bsF M n 0 true)) rfl rfl rfl (bs_69 hC (Fc.ri (Fc.refl _) hR) hM (by decide)) ?_
    refine x_goto (pc' := 15) rfl rfl ?_
    refine x_reta rfl rfl ?_
    refine sK_i (pc' := 61) rfl ?_
    refine x_reta rfl rfl ?_
    ((try rw [q20] at J23); (try rw [q20]); (try simp only [cd_t, cd_f, nt_t, nt_f, an_t, an_f, or_t, or_f] at J23); (try simp only [cd_t, cd_f, nt_t, nt_f, an_t, an_f, or_t, or_f]); exact J23)
  · refine x_null (pc' := 34) rfl rfl rfl ?_
    refine x_reta rfl rfl ?_
    ((try rw [q20] at J23); (try rw [q20]); (try simp only [cd_t, cd_f, nt_t, nt_f, an_t, an_f, or_t, or_f] at J23); (try simp only [cd_t, cd_f, nt_t, nt_f, an_t, an_f, or_t, or_f]); exact J23)
def cp31tF (M : sM) (n : Nat) : Int32 := (bif (bif (decide ((mA M 0 0) = 2)) then (bsF M n 0 false) else none).isSome then (bif (bif (decide ((mA M 0 1) = 2)) then (bsF M n 1 true) else none).isSome then ((0 + (mA M 14 (ovD (bif (decide ((mA M 0 0) = 2)) then (bsF M n 0 false) else none)))) + (-(mA M 14 (ovD (bif (decide ((mA M 0 1) = 2)) then (bsF M n 1 true) else none))))) else (-10000)) else (-10000))
set_option maxHeartbeats 4000000 in
set_option maxRecDepth 10000 in
theorem c81_31t {t : sT} {Q : sRs → sT → Prop} {M : sM} {n : Nat} {T : Nat}
    (hM : Rl t M n T)
    (hc : Sf t M n T)
    (hR : Ri M n)
    (hC : rlC t M n)
    (q : Q (.inl (some (.inl (cp31tF M n)))) t) :
    X 81 0 [.inr (.inr (10, (some 0))), .inr (.inr (1, (some 3))), .inl 1, .inl (bz true), sJk, sJk, sJk, sJk] [] t Q := by
  refine x_aload_n (pc' := 1) rfl rfl rfl rfl rfl ?_
  refine x_aload_n (pc' := 2) rfl rfl rfl rfl rfl ?_
  refine x_iload_n (pc' := 3) rfl rfl rfl ?_
  refine x_iconst (pc' := 4) rfl rfl ?_
  refine x_cv (ls0 := [_, _, _, _, sJk, sJk]) (rest := []) rfl rfl rfl rfl rfl ?_
  refine x_aload_n (pc' := 1) rfl rfl rfl rfl rfl ?_
  refine x_gI (pc' := 4) (x := 3) rfl rfl rfl (kI_64_3 hc.1) ?_
  refine x_iconst (pc' := 5) rfl rfl ?_
  refine x_imul (pc' := 6) (z := 9) rfl rfl (by decide) ?_
  refine x_iload_n (pc' := 7) rfl rfl rfl ?_
  refine x_iadd (pc' := 8) (z := 10) rfl rfl (by decide) ?_
  refine x_iconst (pc' := 9) rfl rfl ?_
  refine x_imul (pc' := 10) (z := 30) rfl rfl (by decide) ?_
  refine x_iload_n (pc' := 11) rfl rfl rfl ?_
  refine x_iadd (pc' := 12) (z := 30) rfl rfl (by decide) ?_
  refine x_istore (pc' := 14) (ls' := [_, _, _, _, _, _]) rfl rfl rfl rfl ?_
  refine x_iload_n (pc' := 15) rfl rfl rfl ?_
  refine x_if (a' := 36) (pc' := 18) (z := false) rfl rfl rfl (by decide) (fun h => by cases h) (fun _ => ?_)
  refine x_iload_n (pc' := 19) rfl rfl rfl ?_
  refine x_iconst (pc' := 20) rfl rfl ?_
  refine x_icmp (a' := 36) (pc' := 23) (z := false) rfl rfl rfl (by decide) (fun h => by cases h) (fun _ => ?_)
  refine x_iload_n (pc' := 24) rfl rfl rfl ?_
  refine x_if (a' := 36) (pc' := 27) (z := false) rfl rfl rfl (by decide) (fun h => by cases h) (fun _ => ?_)
  refine x_iload_n (pc' := 28) rfl rfl rfl ?_
  refine x_iconst (pc' := 29) rfl rfl ?_
  refine x_icmp (a' := 36) (pc' := 32) (z := false) rfl rfl rfl (by decide) (fun h => by cases h) (fun _ => ?_)
  refine x_iconst (pc' := 33) rfl rfl ?_
  refine x_goto (pc' := 37) rfl rfl ?_
  refine x_istore (pc' := 39) (ls' := [_, _, _, _, _, _]) rfl rfl rfl rfl ?_
  refine x_iload (pc' := 41) rfl rfl rfl ?_
  refine x_if (a' := 67) (pc' := 44) (z := false) rfl rfl rfl (by decide) (fun h => by cases h) (fun _ => ?_)
  refine x_iload (pc' := 46) rfl rfl rfl ?_
  refine x_if (a' := 67) (pc' := 49) (z := false) rfl rfl rfl (by decide) (fun h => by cases h) (fun _ => ?_)
  refine x_iload (pc' := 51) rfl rfl rfl ?_
  refine x_getstatic (pc' := 54) rfl rfl (show 0 < sC t 28 from gst0 hc.1) ?_
  refine x_alen (pc' := 55) (N := 45) rfl rfl rfl (kN_28_0 hc.1) (?_ : X _ _ _ (.inl 45 :: _) _ _)
  refine x_icmp (a' := 67) (pc' := 58) (z := false) rfl rfl rfl (by decide) (fun h => by cases h) (fun _ => ?_)
  refine x_getstatic (pc' := 61) rfl rfl (show 0 < sC t 28 from gst0 hc.1) ?_
  refine x_iload (pc' := 63) rfl rfl rfl ?_
  refine x_iald (pc' := 64) (N := 45) (x := 1) rfl rfl rfl (kN_28_0 hc.1) (io_in (p := 30) (N := 45) (by decide) (by decide)) (Eq.trans (congrArg (sA t 28 0) (nn_io (p := 30) (by decide))) ((hc.1.2.2.2.2.2 30).1.trans rfl)) ?_
  refine x_goto (pc' := 68) rfl rfl ?_
  refine x_reti rfl rfl ?_
  refine sK_i (pc' := 7) rfl ?_
  refine x_if (a' := 14) (pc' := 10) (z := true) rfl rfl rfl (by decide) (fun _ => ?_) (fun h => by cases h)
  refine x_iconst (pc' := 15) rfl rfl ?_
  refine x_istore (pc' := 17) (ls' := [_, _, _, _, _, _, _, _]) rfl rfl rfl rfl ?_
  refine x_iconst (pc' := 18) rfl rfl ?_
  refine x_istore (pc' := 20) (ls' := [_, _, _, _, _, _, _, _]) rfl rfl rfl rfl ?_
  refine x_iload (pc' := 22) rfl rfl rfl ?_
  refine x_iconst (pc' := 23) rfl rfl ?_
  refine x_icmp (a' := 89) (pc' := 26) (z := false) rfl rfl rfl (by decide) (fun h => by cases h) (fun _ => ?_)
  refine x_aload_n (pc' := 27) rfl rfl rfl rfl rfl ?_
  refine x_aload_n (pc' := 28) rfl rfl rfl rfl rfl ?_
  refine x_iload_n (pc' := 29) rfl rfl rfl ?_
  refine x_iload (pc' := 31) rfl rfl rfl ?_
  refine x_cv (ls0 := [_, _, _, _, sJk, sJk]) (rest := []) rfl rfl rfl rfl rfl ?_
  refine x_aload_n (pc' := 1) rfl rfl rfl rfl rfl ?_
  refine x_gI (pc' := 4) (x := 3) rfl rfl rfl (kI_64_3 hc.1) ?_
  refine x_iconst (pc' := 5) rfl rfl ?_
  refine x_imul (pc' := 6) (z := 9) rfl rfl (by decide) ?_
  refine x_iload_n (pc' := 7) rfl rfl rfl ?_
  refine x_iadd (pc' := 8) (z := 10) rfl rfl (by decide) ?_
  refine x_iconst (pc' := 9) rfl rfl ?_
  refine x_imul (pc' := 10) (z := 30) rfl rfl (by decide) ?_
  refine x_iload_n (pc' := 11) rfl rfl rfl ?_
  refine x_iadd (pc' := 12) (z := 30) rfl rfl (by decide) ?_
  refine x_istore (pc' := 14) (ls' := [_, _, _, _, _, _]) rfl rfl rfl rfl ?_
  refine x_iload_n (pc' := 15) rfl rfl rfl ?_
  refine x_if (a' := 36) (pc' := 18) (z := false) rfl rfl rfl (by decide) (fun h => by cases h) (fun _ => ?_)
  refine x_iload_n (pc' := 19) rfl rfl rfl ?_
  refine x_iconst (pc' := 20) rfl rfl ?_
  refine x_icmp (a' := 36) (pc' := 23) (z := false) rfl rfl rfl (by decide) (fun h => by cases h) (fun _ => ?_)
  refine x_iload_n (pc' := 24) rfl rfl rfl ?_
  refine x_if (a' := 36) (pc' := 27) (z := false) rfl rfl rfl (by decide) (fun h => by cases h) (fun _ => ?_)
  refine x_iload_n (pc' := 28) rfl rfl rfl ?_
  refine x_iconst (pc' := 29) rfl rfl ?_
  refine x_icmp (a' := 36) (pc' := 32) (z := false) rfl rfl rfl (by decide) (fun h => by cases h) (fun _ => ?_)
  refine x_iconst (pc' := 33) rfl rfl ?_
  refine x_goto (pc' := 37) rfl rfl ?_
  refine x_istore (pc' := 39) (ls' := [_, _, _, _, _, _]) rfl rfl rfl rfl ?_
  refine x_iload (pc' := 41) rfl rfl rfl ?_
  refine x_if (a' := 67) (pc' := 44) (z := false) rfl rfl rfl (by decide) (fun h => by cases h) (fun _ => ?_)
  refine x_iload (pc' := 46) rfl rfl rfl ?_
  refine x_if (a' := 67) (pc' := 49) (z := false) rfl rfl rfl (by decide) (fun h => by cases h) (fun _ => ?_)
  refine x_iload (pc' := 51) rfl rfl rfl ?_
  refine x_getstatic (pc' := 54) rfl rfl (show 0 < sC t 28 from gst0 hc.1) ?_
  refine x_alen (pc' := 55) (N := 45) rfl rfl rfl (kN_28_0 hc.1) (?_ : X _ _ _ (.inl 45 :: _) _ _)
  refine x_icmp (a' := 67) (pc' := 58) (z := false) rfl rfl rfl (by decide) (fun h => by cases h) (fun _ => ?_)
  refine x_getstatic (pc' := 61) rfl rfl (show 0 < sC t 28 from gst0 hc.1) ?_
  refine x_iload (pc' := 63) rfl rfl rfl ?_
  refine x_iald (pc' := 64) (N := 45) (x := 1) rfl rfl rfl (kN_28_0 hc.1) (io_in (p := 30) (N := 45) (by decide) (by decide)) (Eq.trans (congrArg (sA t 28 0) (nn_io (p := 30) (by decide))) ((hc.1.2.2.2.2.2 30).1.trans rfl)) ?_
  refine x_goto (pc' := 68) rfl rfl ?_
  refine x_reti rfl rfl ?_
  refine sK_i (pc' := 34) rfl ?_
  refine x_istore (pc' := 36) (ls' := [_, _, _, _, _, _, _, _]) rfl rfl rfl rfl ?_
  refine x_iload (pc' := 38) rfl rfl rfl ?_
  refine x_if (a' := 83) (pc' := 41) (z := false) rfl rfl rfl (by decide) (fun h => by cases h) (fun _ => ?_)
  refine x_aload_n (pc' := 42) rfl rfl rfl rfl rfl ?_
  refine x_iload (pc' := 44) rfl rfl rfl ?_
  refine x_iload_n (pc' := 45) rfl rfl rfl ?_
  refine x_cv (ls0 := [_, _, _, sJk]) (rest := []) rfl rfl rfl rfl rfl ?_
  refine x_iload_n (pc' := 1) rfl rfl rfl ?_
  refine x_abs (pc' := 4) (z := 1) rfl rfl rfl (by decide) ?_
  refine x_iconst (pc' := 5) rfl rfl ?_
  refine x_isub (pc' := 6) (z := 0) rfl rfl (by decide) ?_
  refine x_istore_n (pc' := 7) (ls' := [_, _, _, _]) rfl rfl rfl rfl ?_
  refine x_iload_n (pc' := 8) rfl rfl rfl ?_
  refine x_if (a' := 33) (pc' := 11) (z := false) rfl rfl rfl (by decide) (fun h => by cases h) (fun _ => ?_)
  refine x_iload_n (pc' := 12) rfl rfl rfl ?_
  refine x_aload_n (pc' := 13) rfl rfl rfl rfl rfl ?_
  refine x_gR (pc' := 16) (r := (some 0)) rfl rfl rfl (kR_640_0 hc.1) ?_
  refine x_alen (pc' := 17) (N := 5) rfl rfl rfl (kN_24_0 hc.1) (?_ : X _ _ _ (.inl 5 :: _) _ _)
  refine x_icmp (a' := 33) (pc' := 20) (z := false) rfl rfl rfl (by decide) (fun h => by cases h) (fun _ => ?_)
  refine x_aload_n (pc' := 21) rfl rfl rfl rfl rfl ?_
  refine x_gR (pc' := 24) (r := (some 0)) rfl rfl rfl (kR_640_0 hc.1) ?_
  refine x_iload_n (pc' := 25) rfl rfl rfl ?_
  refine x_aald (pc' := 26) (N := 5) (k' := 1) (r := (some 0)) rfl rfl rfl (kN_24_0 hc.1) (io_in (p := 0) (N := 5) (by decide) (by decide)) (Eq.trans (congrArg (sE t 24 0) (nn_io (p := 0) (by decide))) (kB hc.1 (by decide))) ?_
  refine x_gI (pc' := 29) (x := (mA M 0 0)) rfl rfl rfl (kA hM rfl (show 0 < 5 by decide)) ?_
  refine x_iconst (pc' := 30) rfl rfl ?_
  have J23 : ((sK 79 81 45 [.inr (.inr (10, (some 0))), .inr (.inr (1, (some 3))), .inl 1, .inl (bz true), .inl 0, .inl 0, .inl 1, sJk] [] Q) : sRs → sT → Prop) (.inl (some (.inr (.inr (8, (bif (decide ((mA M 0 0) = 2)) then (bsF M n 0 false) else none)))))) t := by
    refine sK_i (pc' := 48) rfl ?_
    refine x_astore (pc' := 50) (ls' := [_, _, _, _, _, _, _, _]) rfl rfl rfl rfl rfl ?_
    refine x_aload (pc' := 52) rfl rfl rfl rfl rfl ?_
    refine x_ifnonnull (a' := 59) (pc' := 55) rfl rfl rfl rfl (fun j0 q25 => ?_) (fun q25 => ?_)
    · refine x_iload (pc' := 61) rfl rfl rfl ?_
      refine x_iload (pc' := 63) rfl rfl rfl ?_
      refine x_if (a' := 74) (pc' := 66) (z := false) rfl rfl rfl (by decide) (fun h => by cases h) (fun _ => ?_)
      refine x_aload (pc' := 68) rfl rfl rfl rfl (ovD_s q25) ?_
      refine x_gI (pc' := 71) (x := (mA M 14 (ovD (bif (decide ((mA M 0 0) = 2)) then (bsF M n 0 false) else none)))) rfl rfl rfl ((kA hM rfl (ovD_lt (obd_c bsF_lt obd_n) q25)).trans (congrFun (Fc.f14 (Fc.refl _)) _)) ?_
      refine x_goto (pc' := 80) rfl rfl ?_
      refine x_iadd (pc' := 81) (z := (0 + (mA M 14 (ovD (bif (decide ((mA M 0 0) = 2)) then (bsF M n 0 false) else none))))) rfl rfl rfl ?_
      refine x_istore (pc' := 83) (ls' := [_, _, _, _, _, _, _, _]) rfl rfl rfl rfl ?_
      refine x_iinc (pc' := 86) (y := 1) (ls' := [_, _, _, _, _, _, _, _]) rfl rfl rfl rfl rfl ?_
      refine x_goto (pc' := 20) rfl rfl ?_
      refine x_iload (pc' := 22) rfl rfl rfl ?_
      refine x_iconst (pc' := 23) rfl rfl ?_
      refine x_icmp (a' := 89) (pc' := 26) (z := false) rfl rfl rfl (by decide) (fun h => by cases h) (fun _ => ?_)
      refine x_aload_n (pc' := 27) rfl rfl rfl rfl rfl ?_
      refine x_aload_n (pc' := 28) rfl rfl rfl rfl rfl ?_
      refine x_iload_n (pc' := 29) rfl rfl rfl ?_
      refine x_iload (pc' := 31) rfl rfl rfl ?_
      refine x_cv (ls0 := [_, _, _, _, sJk, sJk]) (rest := []) rfl rfl rfl rfl rfl ?_
      refine x_aload_n (pc' := 1) rfl rfl rfl rfl rfl ?_
      refine x_gI (pc' := 4) (x := 3) rfl rfl rfl (kI_64_3 hc.1) ?_
      refine x_iconst (pc' := 5) rfl rfl ?_
      refine x_imul (pc' := 6) (z := 9) rfl rfl (by decide) ?_
      refine x_iload_n (pc' := 7) rfl rfl rfl ?_
      refine x_iadd (pc' := 8) (z := 10) rfl rfl (by decide) ?_
      refine x_iconst (pc' := 9) rfl rfl ?_
      refine x_imul (pc' := 10) (z := 30) rfl rfl (by decide) ?_
      refine x_iload_n (pc' := 11) rfl rfl rfl ?_
      refine x_iadd (pc' := 12) (z := 31) rfl rfl (by decide) ?_
      refine x_istore (pc' := 14) (ls' := [_, _, _, _, _, _]) rfl rfl rfl rfl ?_
      refine x_iload_n (pc' := 15) rfl rfl rfl ?_
      refine x_if (a' := 36) (pc' := 18) (z := false) rfl rfl rfl (by decide) (fun h => by cases h) (fun _ => ?_)
      refine x_iload_n (pc' := 19) rfl rfl rfl ?_
      refine x_iconst (pc' := 20) rfl rfl ?_
      refine x_icmp (a' := 36) (pc' := 23) (z := false) rfl rfl rfl (by decide) (fun h => by cases h) (fun _ => ?_)
      refine x_iload_n (pc' := 24) rfl rfl rfl ?_
      refine x_if (a' := 36) (pc' := 27) (z := false) rfl rfl rfl (by decide) (fun h => by cases h) (fun _ => ?_)
      refine x_iload_n (pc' := 28) rfl rfl rfl ?_
      refine x_iconst (pc' := 29) rfl rfl ?_
      refine x_icmp (a' := 36) (pc' := 32) (z := false) rfl rfl rfl (by decide) (fun h => by cases h) (fun _ => ?_)
      refine x_iconst (pc' := 33) rfl rfl ?_
      refine x_goto (pc' := 37) rfl rfl ?_
      refine x_istore (pc' := 39) (ls' := [_, _, _, _, _, _]) rfl rfl rfl rfl ?_
      refine x_iload (pc' := 41) rfl rfl rfl ?_
      refine x_if (a' := 67) (pc' := 44) (z := false) rfl rfl rfl (by decide) (fun h => by cases h) (fun _ => ?_)
      refine x_iload (pc' := 46) rfl rfl rfl ?_
      refine x_if (a' := 67) (pc' := 49) (z := false) rfl rfl rfl (by decide) (fun h => by cases h) (fun _ => ?_)
      refine x_iload (pc' := 51) rfl rfl rfl ?_
      refine x_getstatic (pc' := 54) rfl rfl (show 0 < sC t 28 from gst0 hc.1) ?_
      refine x_alen (pc' := 55) (N := 45) rfl rfl rfl (kN_28_0 hc.1) (?_ : X _ _ _ (.inl 45 :: _) _ _)
      refine x_icmp (a' := 67) (pc' := 58) (z := false) rfl rfl rfl (by decide) (fun h => by cases h) (fun _ => ?_)
      refine x_getstatic (pc' := 61) rfl rfl (show 0 < sC t 28 from gst0 hc.1) ?_
      refine x_iload (pc' := 63) rfl rfl rfl ?_
      refine x_iald (pc' := 64) (N := 45) (x := (-2)) rfl rfl rfl (kN_28_0 hc.1) (io_in (p := 31) (N := 45) (by decide) (by decide)) (Eq.trans (congrArg (sA t 28 0) (nn_io (p := 31) (by decide))) ((hc.1.2.2.2.2.2 31).1.trans rfl)) ?_
      refine x_goto (pc' := 68) rfl rfl ?_
      refine x_reti rfl rfl ?_
      refine sK_i (pc' := 34) rfl ?_
      refine x_istore (pc' := 36) (ls' := [_, _, _, _, _, _, _, _]) rfl rfl rfl rfl ?_
      refine x_iload (pc' := 38) rfl rfl rfl ?_
      refine x_if (a' := 83) (pc' := 41) (z := false) rfl rfl rfl (by decide) (fun h => by cases h) (fun _ => ?_)
      refine x_aload_n (pc' := 42) rfl rfl rfl rfl rfl ?_
      refine x_iload (pc' := 44) rfl rfl rfl ?_
      refine x_iload_n (pc' := 45) rfl rfl rfl ?_
      refine x_cv (ls0 := [_, _, _, sJk]) (rest := []) rfl rfl rfl rfl rfl ?_
      refine x_iload_n (pc' := 1) rfl rfl rfl ?_
      refine x_abs (pc' := 4) (z := 2) rfl rfl rfl (by decide) ?_
      refine x_iconst (pc' := 5) rfl rfl ?_
      refine x_isub (pc' := 6) (z := 1) rfl rfl (by decide) ?_
      refine x_istore_n (pc' := 7) (ls' := [_, _, _, _]) rfl rfl rfl rfl ?_
      refine x_iload_n (pc' := 8) rfl rfl rfl ?_
      refine x_if (a' := 33) (pc' := 11) (z := false) rfl rfl rfl (by decide) (fun h => by cases h) (fun _ => ?_)
      refine x_iload_n (pc' := 12) rfl rfl rfl ?_
      refine x_aload_n (pc' := 13) rfl rfl rfl rfl rfl ?_
      refine x_gR (pc' := 16) (r := (some 0)) rfl rfl rfl (kR_640_0 hc.1) ?_
      refine x_alen (pc' := 17) (N := 5) rfl rfl rfl (kN_24_0 hc.1) (?_ : X _ _ _ (.inl 5 :: _) _ _)
      refine x_icmp (a' := 33) (pc' := 20) (z := false) rfl rfl rfl (by decide) (fun h => by cases h) (fun _ => ?_)
      refine x_aload_n (pc' := 21) rfl rfl rfl rfl rfl ?_
      refine x_gR (pc' := 24) (r := (some 0)) rfl rfl rfl (kR_640_0 hc.1) ?_
      refine x_iload_n (pc' := 25) rfl rfl rfl ?_
      refine x_aald (pc' := 26) (N := 5) (k' := 1) (r := (some 1)) rfl rfl rfl (kN_24_0 hc.1) (io_in (p := 1) (N := 5) (by decide) (by decide)) (Eq.trans (congrArg (sE t 24 0) (nn_io (p := 1) (by decide))) (kB hc.1 (by decide))) ?_
      refine x_gI (pc' := 29) (x := (mA M 0 1)) rfl rfl rfl (kA hM rfl (show 1 < 5 by decide)) ?_
      refine x_iconst (pc' := 30) rfl rfl ?_
      have J40 : ((sK 79 81 45 [.inr (.inr (10, (some 0))), .inr (.inr (1, (some 3))), .inl 1, .inl (bz true), .inl (0 + (mA M 14 (ovD (bif (decide ((mA M 0 0) = 2)) then (bsF M n 0 false) else none)))), .inl 1, .inl (-2), .inr (.inr (8, (bif (decide ((mA M 0 0) = 2)) then (bsF M n 0 false) else none)))] [] Q) : sRs → sT → Prop) (.inl (some (.inr (.inr (8, (bif (decide ((mA M 0 1) = 2)) then (bsF M n 1 true) else none)))))) t := by
        refine sK_i (pc' := 48) rfl ?_
        refine x_astore (pc' := 50) (ls' := [_, _, _, _, _, _, _, _]) rfl rfl rfl rfl rfl ?_
        refine x_aload (pc' := 52) rfl rfl rfl rfl rfl ?_
        refine x_ifnonnull (a' := 59) (pc' := 55) rfl rfl rfl rfl (fun j1 q42 => ?_) (fun q42 => ?_)
        · refine x_iload (pc' := 61) rfl rfl rfl ?_
          refine x_iload (pc' := 63) rfl rfl rfl ?_
          refine x_if (a' := 74) (pc' := 66) (z := true) rfl rfl rfl (by decide) (fun _ => ?_) (fun h => by cases h)
          refine x_aload (pc' := 76) rfl rfl rfl rfl (ovD_s q42) ?_
          refine x_gI (pc' := 79) (x := (mA M 14 (ovD (bif (decide ((mA M 0 1) = 2)) then (bsF M n 1 true) else none)))) rfl rfl rfl ((kA hM rfl (ovD_lt (obd_c bsF_lt obd_n) q42)).trans (congrFun (Fc.f14 (Fc.refl _)) _)) ?_
          refine x_ineg (pc' := 80) rfl rfl rfl ?_
          refine x_iadd (pc' := 81) (z := ((0 + (mA M 14 (ovD (bif (decide ((mA M 0 0) = 2)) then (bsF M n 0 false) else none)))) + (-(mA M 14 (ovD (bif (decide ((mA M 0 1) = 2)) then (bsF M n 1 true) else none)))))) rfl rfl rfl ?_
          refine x_istore (pc' := 83) (ls' := [_, _, _, _, _, _, _, _]) rfl rfl rfl rfl ?_
          refine x_iinc (pc' := 86) (y := 2) (ls' := [_, _, _, _, _, _, _, _]) rfl rfl rfl rfl rfl ?_
          refine x_goto (pc' := 20) rfl rfl ?_
          refine x_iload (pc' := 22) rfl rfl rfl ?_
          refine x_iconst (pc' := 23) rfl rfl ?_
          refine x_icmp (a' := 89) (pc' := 26) (z := false) rfl rfl rfl (by decide) (fun h => by cases h) (fun _ => ?_)
          refine x_aload_n (pc' := 27) rfl rfl rfl rfl rfl ?_
          refine x_aload_n (pc' := 28) rfl rfl rfl rfl rfl ?_
          refine x_iload_n (pc' := 29) rfl rfl rfl ?_
          refine x_iload (pc' := 31) rfl rfl rfl ?_
          refine x_cv (ls0 := [_, _, _, _, sJk, sJk]) (rest := []) rfl rfl rfl rfl rfl ?_
          refine x_aload_n (pc' := 1) rfl rfl rfl rfl rfl ?_
          refine x_gI (pc' := 4) (x := 3) rfl rfl rfl (kI_64_3 hc.1) ?_
          refine x_iconst (pc' := 5) rfl rfl ?_
          refine x_imul (pc' := 6) (z := 9) rfl rfl (by decide) ?_
          refine x_iload_n (pc' := 7) rfl rfl rfl ?_
          refine x_iadd (pc' := 8) (z := 10) rfl rfl (by decide) ?_
          refine x_iconst (pc' := 9) rfl rfl ?_
          refine x_imul (pc' := 10) (z := 30) rfl rfl (by decide) ?_
          refine x_iload_n (pc' := 11) rfl rfl rfl ?_
          refine x_iadd (pc' := 12) (z := 32) rfl rfl (by decide) ?_
          refine x_istore (pc' := 14) (ls' := [_, _, _, _, _, _]) rfl rfl rfl rfl ?_
          refine x_iload_n (pc' := 15) rfl rfl rfl ?_
          refine x_if (a' := 36) (pc' := 18) (z := false) rfl rfl rfl (by decide) (fun h => by cases h) (fun _ => ?_)
          refine x_iload_n (pc' := 19) rfl rfl rfl ?_
          refine x_iconst (pc' := 20) rfl rfl ?_
          refine x_icmp (a' := 36) (pc' := 23) (z := false) rfl rfl rfl (by decide) (fun h => by cases h) (fun _ => ?_)
          refine x_iload_n (pc' := 24) rfl rfl rfl ?_
          refine x_if (a' := 36) (pc' := 27) (z := false) rfl rfl rfl (by decide) (fun h => by cases h) (fun _ => ?_)
          refine x_iload_n (pc' := 28) rfl rfl rfl ?_
          refine x_iconst (pc' := 29) rfl rfl ?_
          refine x_icmp (a' := 36) (pc' := 32) (z := false) rfl rfl rfl (by decide) (fun h => by cases h) (fun _ => ?_)
          refine x_iconst (pc' := 33) rfl rfl ?_
          refine x_goto (pc' := 37) rfl rfl ?_
          refine x_istore (pc' := 39) (ls' := [_, _, _, _, _, _]) rfl rfl rfl rfl ?_
          refine x_iload (pc' := 41) rfl rfl rfl ?_
          refine x_if (a' := 67) (pc' := 44) (z := false) rfl rfl rfl (by decide) (fun h => by cases h) (fun _ => ?_)
          refine x_iload (pc' := 46) rfl rfl rfl ?_
          refine x_if (a' := 67) (pc' := 49) (z := false) rfl rfl rfl (by decide) (fun h => by cases h) (fun _ => ?_)
          refine x_iload (pc' := 51) rfl rfl rfl ?_
          refine x_getstatic (pc' := 54) rfl rfl (show 0 < sC t 28 from gst0 hc.1) ?_
          refine x_alen (pc' := 55) (N := 45) rfl rfl rfl (kN_28_0 hc.1) (?_ : X _ _ _ (.inl 45 :: _) _ _)
          refine x_icmp (a' := 67) (pc' := 58) (z := false) rfl rfl rfl (by decide) (fun h => by cases h) (fun _ => ?_)
          refine x_getstatic (pc' := 61) rfl rfl (show 0 < sC t 28 from gst0 hc.1) ?_
          refine x_iload (pc' := 63) rfl rfl rfl ?_
          refine x_iald (pc' := 64) (N := 45) (x := 0) rfl rfl rfl (kN_28_0 hc.1) (io_in (p := 32) (N := 45) (by decide) (by decide)) (Eq.trans (congrArg (sA t 28 0) (nn_io (p := 32) (by decide))) ((hc.1.2.2.2.2.2 32).1.trans rfl)) ?_
          refine x_goto (pc' := 68) rfl rfl ?_
          refine x_reti rfl rfl ?_
          refine sK_i (pc' := 34) rfl ?_
          refine x_istore (pc' := 36) (ls' := [_, _, _, _, _, _, _, _]) rfl rfl rfl rfl ?_
          refine x_iload (pc' := 38) rfl rfl rfl ?_
          refine x_if (a' := 83) (pc' := 41) (z := true) rfl rfl rfl (by decide) (fun _ => ?_) (fun h => by cases h)
          refine x_iinc (pc' := 86) (y := 3) (ls' := [_, _, _, _, _, _, _, _]) rfl rfl rfl rfl rfl ?_
          refine x_goto (pc' := 20) rfl rfl ?_
          refine x_iload (pc' := 22) rfl rfl rfl ?_
          refine x_iconst (pc' := 23) rfl rfl ?_
          refine x_icmp (a' := 89) (pc' := 26) (z := true) rfl rfl rfl (by decide) (fun _ => ?_) (fun h => by cases h)
          refine x_iload (pc' := 91) rfl rfl rfl ?_
          refine x_reti rfl rfl ?_
          exact qv (by simp only [cp31tF, (isSome_s q25), (isSome_s q42), cd_t, cd_f]) (q )
        · refine x_sipush (pc' := 58) rfl rfl ?_
          refine x_reti rfl rfl ?_
          exact qv (by simp only [cp31tF, (isSome_s q25), (isSome_n q42), cd_t, cd_f]) (q )
      refine x_icmp (a' := 35) (pc' := 33) (z := decide ((mA M 0 1) = 2)) rfl rfl rfl rfl (fun q38 => ?_) (fun q38 => ?_)
      · refine x_aload_n (pc' := 36) rfl rfl rfl rfl rfl ?_
        refine x_gR (pc' := 39) (r := (some 0)) rfl rfl rfl (kR_640_0 hc.1) ?_
        refine x_iload_n (pc' := 40) rfl rfl rfl ?_
        refine x_aald (pc' := 41) (N := 5) (k' := 1) (r := (some 1)) rfl rfl rfl (kN_24_0 hc.1) (io_in (p := 1) (N := 5) (by decide) (by decide)) (Eq.trans (congrArg (sE t 24 0) (nn_io (p := 1) (by decide))) (kB hc.1 (by decide))) ?_
        refine x_iload_n (pc' := 42) rfl rfl rfl ?_
        refine x_if (a' := 57) (pc' := 45) (z := true) rfl rfl rfl (by decide) (fun _ => ?_) (fun h => by cases h)
        refine x_iload_n (pc' := 58) rfl rfl rfl ?_
        refine x_cv (ls0 := [_, _]) (rest := []) rfl rfl rfl rfl rfl ?_
        refine x_iload_n (pc' := 1) rfl rfl rfl ?_
        refine x_if (a' := 11) (pc' := 4) (z := false) rfl rfl rfl (by decide) (fun h => by cases h) (fun _ => ?_)
        refine x_aload_n (pc' := 5) rfl rfl rfl rfl rfl ?_
        refine x_gR (pc' := 8) (r := (bsF M n 1 true)) rfl rfl rfl (bs_69 hC (Fc.ri (Fc.refl _) hR) hM (by decide)) ?_
        refine x_goto (pc' := 15) rfl rfl ?_
        refine x_reta rfl rfl ?_
        refine sK_i (pc' := 61) rfl ?_
        refine x_reta rfl rfl ?_
        ((try rw [q38] at J40); (try rw [q38]); (try simp only [cd_t, cd_f, nt_t, nt_f, an_t, an_f, or_t, or_f] at J40); (try simp only [cd_t, cd_f, nt_t, nt_f, an_t, an_f, or_t, or_f]); exact J40)
      · refine x_null (pc' := 34) rfl rfl rfl ?_
        refine x_reta rfl rfl ?_
        ((try rw [q38] at J40); (try rw [q38]); (try simp only [cd_t, cd_f, nt_t, nt_f, an_t, an_f, or_t, or_f] at J40); (try simp only [cd_t, cd_f, nt_t, nt_f, an_t, an_f, or_t, or_f]); exact J40)
    · refine x_sipush (pc' := 58) rfl rfl ?_
      refine x_reti rfl rfl ?_
      exact qv (by simp only [cp31tF, (isSome_n q25), cd_t, cd_f]) (q )
  refine x_icmp (a' := 35) (pc' := 33) (z := decide ((mA M 0 0) = 2)) rfl rfl rfl rfl (fun q20 => ?_) (fun q20 => ?_)
  · refine x_aload_n (pc' := 36) rfl rfl rfl rfl rfl ?_
    refine x_gR (pc' := 39) (r := (some 0)) rfl rfl rfl (kR_640_0 hc.1) ?_
    refine x_iload_n (pc' := 40) rfl rfl rfl ?_
    refine x_aald (pc' := 41) (N := 5) (k' := 1) (r := (some 0)) rfl rfl rfl (kN_24_0 hc.1) (io_in (p := 0) (N := 5) (by decide) (by decide)) (Eq.trans (congrArg (sE t 24 0) (nn_io (p := 0) (by decide))) (kB hc.1 (by decide))) ?_
    refine x_iload_n (pc' := 42) rfl rfl rfl ?_
    refine x_if (a' := 57) (pc' := 45) (z := false) rfl rfl rfl (by decide) (fun h => by cases h) (fun _ => ?_)
    refine x_iload_n (pc' := 46) rfl rfl rfl ?_
    refine x_if (a' := 53) (pc' := 49) (z := true) rfl rfl rfl (by decide) (fun _ => ?_) (fun h => by cases h)
    refine x_iconst (pc' := 54) rfl rfl ?_
    refine x_goto (pc' := 58) rfl rfl ?_
    refine x_cv (ls0 := [_, _]) (rest := []) rfl rfl rfl rfl rfl ?_
    refine x_iload_n (pc' := 1) rfl rfl rfl ?_
    refine x_if (a' := 11) (pc' := 4) (z := true) rfl rfl rfl (by decide) (fun _ => ?_) (fun h => by cases h)
    refine x_aload_n (pc' := 12) rfl rfl rfl rfl rfl ?_
    refine x_gR (pc' := 15) (r := (bsF M n 0 false)) rfl rfl rfl (bs_70 hC (Fc.ri (Fc.refl _) hR) hM (by decide)) ?_
    refine x_reta rfl rfl ?_
    refine sK_i (pc' := 61) rfl ?_
    refine x_reta rfl rfl ?_
    ((try rw [q20] at J23); (try rw [q20]); (try simp only [cd_t, cd_f, nt_t, nt_f, an_t, an_f, or_t, or_f] at J23); (try simp only [cd_t, cd_f, nt_t, nt_f, an_t, an_f, or_t, or_f]); exact J23)
  · refine x_null (pc' := 34) rfl rfl rfl ?_
    refine x_reta rfl rfl ?_
    ((try rw [q20] at J23); (try rw [q20]); (try simp only [cd_t, cd_f, nt_t, nt_f, an_t, an_f, or_t, or_f] at J23); (try simp only [cd_t, cd_f, nt_t, nt_f, an_t, an_f, or_t, or_f]); exact J23)
def cp32fF (M : sM) (n : Nat) : Int32 := (-10000)
set_option maxHeartbeats 4000000 in
set_option maxRecDepth 10000 in
theorem c81_32f {t : sT} {Q : sRs → sT → Prop} {M : sM} {n : Nat} {T : Nat}
    (hM : Rl t M n T)
    (hc : Sf t M n T)
    (hR : Ri M n)
    (hC : rlC t M n)
    (q : Q (.inl (some (.inl (cp32fF M n)))) t) :
    X 81 0 [.inr (.inr (10, (some 0))), .inr (.inr (1, (some 3))), .inl 2, .inl (bz false), sJk, sJk, sJk, sJk] [] t Q := by
  refine x_aload_n (pc' := 1) rfl rfl rfl rfl rfl ?_
  refine x_aload_n (pc' := 2) rfl rfl rfl rfl rfl ?_
  refine x_iload_n (pc' := 3) rfl rfl rfl ?_
  refine x_iconst (pc' := 4) rfl rfl ?_
  refine x_cv (ls0 := [_, _, _, _, sJk, sJk]) (rest := []) rfl rfl rfl rfl rfl ?_
  refine x_aload_n (pc' := 1) rfl rfl rfl rfl rfl ?_
  refine x_gI (pc' := 4) (x := 3) rfl rfl rfl (kI_64_3 hc.1) ?_
  refine x_iconst (pc' := 5) rfl rfl ?_
  refine x_imul (pc' := 6) (z := 9) rfl rfl (by decide) ?_
  refine x_iload_n (pc' := 7) rfl rfl rfl ?_
  refine x_iadd (pc' := 8) (z := 11) rfl rfl (by decide) ?_
  refine x_iconst (pc' := 9) rfl rfl ?_
  refine x_imul (pc' := 10) (z := 33) rfl rfl (by decide) ?_
  refine x_iload_n (pc' := 11) rfl rfl rfl ?_
  refine x_iadd (pc' := 12) (z := 33) rfl rfl (by decide) ?_
  refine x_istore (pc' := 14) (ls' := [_, _, _, _, _, _]) rfl rfl rfl rfl ?_
  refine x_iload_n (pc' := 15) rfl rfl rfl ?_
  refine x_if (a' := 36) (pc' := 18) (z := false) rfl rfl rfl (by decide) (fun h => by cases h) (fun _ => ?_)
  refine x_iload_n (pc' := 19) rfl rfl rfl ?_
  refine x_iconst (pc' := 20) rfl rfl ?_
  refine x_icmp (a' := 36) (pc' := 23) (z := false) rfl rfl rfl (by decide) (fun h => by cases h) (fun _ => ?_)
  refine x_iload_n (pc' := 24) rfl rfl rfl ?_
  refine x_if (a' := 36) (pc' := 27) (z := false) rfl rfl rfl (by decide) (fun h => by cases h) (fun _ => ?_)
  refine x_iload_n (pc' := 28) rfl rfl rfl ?_
  refine x_iconst (pc' := 29) rfl rfl ?_
  refine x_icmp (a' := 36) (pc' := 32) (z := false) rfl rfl rfl (by decide) (fun h => by cases h) (fun _ => ?_)
  refine x_iconst (pc' := 33) rfl rfl ?_
  refine x_goto (pc' := 37) rfl rfl ?_
  refine x_istore (pc' := 39) (ls' := [_, _, _, _, _, _]) rfl rfl rfl rfl ?_
  refine x_iload (pc' := 41) rfl rfl rfl ?_
  refine x_if (a' := 67) (pc' := 44) (z := false) rfl rfl rfl (by decide) (fun h => by cases h) (fun _ => ?_)
  refine x_iload (pc' := 46) rfl rfl rfl ?_
  refine x_if (a' := 67) (pc' := 49) (z := false) rfl rfl rfl (by decide) (fun h => by cases h) (fun _ => ?_)
  refine x_iload (pc' := 51) rfl rfl rfl ?_
  refine x_getstatic (pc' := 54) rfl rfl (show 0 < sC t 28 from gst0 hc.1) ?_
  refine x_alen (pc' := 55) (N := 45) rfl rfl rfl (kN_28_0 hc.1) (?_ : X _ _ _ (.inl 45 :: _) _ _)
  refine x_icmp (a' := 67) (pc' := 58) (z := false) rfl rfl rfl (by decide) (fun h => by cases h) (fun _ => ?_)
  refine x_getstatic (pc' := 61) rfl rfl (show 0 < sC t 28 from gst0 hc.1) ?_
  refine x_iload (pc' := 63) rfl rfl rfl ?_
  refine x_iald (pc' := 64) (N := 45) (x := 0) rfl rfl rfl (kN_28_0 hc.1) (io_in (p := 33) (N := 45) (by decide) (by decide)) (Eq.trans (congrArg (sA t 28 0) (nn_io (p := 33) (by decide))) ((hc.1.2.2.2.2.2 33).1.trans rfl)) ?_
  refine x_goto (pc' := 68) rfl rfl ?_
  refine x_reti rfl rfl ?_
  refine sK_i (pc' := 7) rfl ?_
  refine x_if (a' := 14) (pc' := 10) (z := false) rfl rfl rfl (by decide) (fun h => by cases h) (fun _ => ?_)
  refine x_sipush (pc' := 13) rfl rfl ?_
  refine x_reti rfl rfl ?_
  exact q 
def cp32tF (M : sM) (n : Nat) : Int32 := (-10000)
set_option maxHeartbeats 4000000 in
set_option maxRecDepth 10000 in
theorem c81_32t {t : sT} {Q : sRs → sT → Prop} {M : sM} {n : Nat} {T : Nat}
    (hM : Rl t M n T)
    (hc : Sf t M n T)
    (hR : Ri M n)
    (hC : rlC t M n)
    (q : Q (.inl (some (.inl (cp32tF M n)))) t) :
    X 81 0 [.inr (.inr (10, (some 0))), .inr (.inr (1, (some 3))), .inl 2, .inl (bz true), sJk, sJk, sJk, sJk] [] t Q := by
  refine x_aload_n (pc' := 1) rfl rfl rfl rfl rfl ?_
  refine x_aload_n (pc' := 2) rfl rfl rfl rfl rfl ?_
  refine x_iload_n (pc' := 3) rfl rfl rfl ?_
  refine x_iconst (pc' := 4) rfl rfl ?_
  refine x_cv (ls0 := [_, _, _, _, sJk, sJk]) (rest := []) rfl rfl rfl rfl rfl ?_
  refine x_aload_n (pc' := 1) rfl rfl rfl rfl rfl ?_
  refine x_gI (pc' := 4) (x := 3) rfl rfl rfl (kI_64_3 hc.1) ?_
  refine x_iconst (pc' := 5) rfl rfl ?_
  refine x_imul (pc' := 6) (z := 9) rfl rfl (by decide) ?_
  refine x_iload_n (pc' := 7) rfl rfl rfl ?_
  refine x_iadd (pc' := 8) (z := 11) rfl rfl (by decide) ?_
  refine x_iconst (pc' := 9) rfl rfl ?_
  refine x_imul (pc' := 10) (z := 33) rfl rfl (by decide) ?_
  refine x_iload_n (pc' := 11) rfl rfl rfl ?_
  refine x_iadd (pc' := 12) (z := 33) rfl rfl (by decide) ?_
  refine x_istore (pc' := 14) (ls' := [_, _, _, _, _, _]) rfl rfl rfl rfl ?_
  refine x_iload_n (pc' := 15) rfl rfl rfl ?_
  refine x_if (a' := 36) (pc' := 18) (z := false) rfl rfl rfl (by decide) (fun h => by cases h) (fun _ => ?_)
  refine x_iload_n (pc' := 19) rfl rfl rfl ?_
  refine x_iconst (pc' := 20) rfl rfl ?_
  refine x_icmp (a' := 36) (pc' := 23) (z := false) rfl rfl rfl (by decide) (fun h => by cases h) (fun _ => ?_)
  refine x_iload_n (pc' := 24) rfl rfl rfl ?_
  refine x_if (a' := 36) (pc' := 27) (z := false) rfl rfl rfl (by decide) (fun h => by cases h) (fun _ => ?_)
  refine x_iload_n (pc' := 28) rfl rfl rfl ?_
  refine x_iconst (pc' := 29) rfl rfl ?_
  refine x_icmp (a' := 36) (pc' := 32) (z := false) rfl rfl rfl (by decide) (fun h => by cases h) (fun _ => ?_)
  refine x_iconst (pc' := 33) rfl rfl ?_
  refine x_goto (pc' := 37) rfl rfl ?_
  refine x_istore (pc' := 39) (ls' := [_, _, _, _, _, _]) rfl rfl rfl rfl ?_
  refine x_iload (pc' := 41) rfl rfl rfl ?_
  refine x_if (a' := 67) (pc' := 44) (z := false) rfl rfl rfl (by decide) (fun h => by cases h) (fun _ => ?_)
  refine x_iload (pc' := 46) rfl rfl rfl ?_
  refine x_if (a' := 67) (pc' := 49) (z := false) rfl rfl rfl (by decide) (fun h => by cases h) (fun _ => ?_)
  refine x_iload (pc' := 51) rfl rfl rfl ?_
  refine x_getstatic (pc' := 54) rfl rfl (show 0 < sC t 28 from gst0 hc.1) ?_
  refine x_alen (pc' := 55) (N := 45) rfl rfl rfl (kN_28_0 hc.1) (?_ : X _ _ _ (.inl 45 :: _) _ _)
  refine x_icmp (a' := 67) (pc' := 58) (z := false) rfl rfl rfl (by decide) (fun h => by cases h) (fun _ => ?_)
  refine x_getstatic (pc' := 61) rfl rfl (show 0 < sC t 28 from gst0 hc.1) ?_
  refine x_iload (pc' := 63) rfl rfl rfl ?_
  refine x_iald (pc' := 64) (N := 45) (x := 0) rfl rfl rfl (kN_28_0 hc.1) (io_in (p := 33) (N := 45) (by decide) (by decide)) (Eq.trans (congrArg (sA t 28 0) (nn_io (p := 33) (by decide))) ((hc.1.2.2.2.2.2 33).1.trans rfl)) ?_
  refine x_goto (pc' := 68) rfl rfl ?_
  refine x_reti rfl rfl ?_
  refine sK_i (pc' := 7) rfl ?_
  refine x_if (a' := 14) (pc' := 10) (z := false) rfl rfl rfl (by decide) (fun h => by cases h) (fun _ => ?_)
  refine x_sipush (pc' := 13) rfl rfl ?_
  refine x_reti rfl rfl ?_
  exact q 
def cp40fF (M : sM) (n : Nat) : Int32 := (bif (bif (decide ((mA M 0 4) = 2)) then (bsF M n 4 true) else none).isSome then (0 + (mA M 14 (ovD (bif (decide ((mA M 0 4) = 2)) then (bsF M n 4 true) else none)))) else (-10000))
set_option maxHeartbeats 4000000 in
set_option maxRecDepth 10000 in
theorem c81_40f {t : sT} {Q : sRs → sT → Prop} {M : sM} {n : Nat} {T : Nat}
    (hM : Rl t M n T)
    (hc : Sf t M n T)
    (hR : Ri M n)
    (hC : rlC t M n)
    (q : Q (.inl (some (.inl (cp40fF M n)))) t) :
    X 81 0 [.inr (.inr (10, (some 0))), .inr (.inr (1, (some 4))), .inl 0, .inl (bz false), sJk, sJk, sJk, sJk] [] t Q := by
  refine x_aload_n (pc' := 1) rfl rfl rfl rfl rfl ?_
  refine x_aload_n (pc' := 2) rfl rfl rfl rfl rfl ?_
  refine x_iload_n (pc' := 3) rfl rfl rfl ?_
  refine x_iconst (pc' := 4) rfl rfl ?_
  refine x_cv (ls0 := [_, _, _, _, sJk, sJk]) (rest := []) rfl rfl rfl rfl rfl ?_
  refine x_aload_n (pc' := 1) rfl rfl rfl rfl rfl ?_
  refine x_gI (pc' := 4) (x := 4) rfl rfl rfl (kI_64_4 hc.1) ?_
  refine x_iconst (pc' := 5) rfl rfl ?_
  refine x_imul (pc' := 6) (z := 12) rfl rfl (by decide) ?_
  refine x_iload_n (pc' := 7) rfl rfl rfl ?_
  refine x_iadd (pc' := 8) (z := 12) rfl rfl (by decide) ?_
  refine x_iconst (pc' := 9) rfl rfl ?_
  refine x_imul (pc' := 10) (z := 36) rfl rfl (by decide) ?_
  refine x_iload_n (pc' := 11) rfl rfl rfl ?_
  refine x_iadd (pc' := 12) (z := 36) rfl rfl (by decide) ?_
  refine x_istore (pc' := 14) (ls' := [_, _, _, _, _, _]) rfl rfl rfl rfl ?_
  refine x_iload_n (pc' := 15) rfl rfl rfl ?_
  refine x_if (a' := 36) (pc' := 18) (z := false) rfl rfl rfl (by decide) (fun h => by cases h) (fun _ => ?_)
  refine x_iload_n (pc' := 19) rfl rfl rfl ?_
  refine x_iconst (pc' := 20) rfl rfl ?_
  refine x_icmp (a' := 36) (pc' := 23) (z := false) rfl rfl rfl (by decide) (fun h => by cases h) (fun _ => ?_)
  refine x_iload_n (pc' := 24) rfl rfl rfl ?_
  refine x_if (a' := 36) (pc' := 27) (z := false) rfl rfl rfl (by decide) (fun h => by cases h) (fun _ => ?_)
  refine x_iload_n (pc' := 28) rfl rfl rfl ?_
  refine x_iconst (pc' := 29) rfl rfl ?_
  refine x_icmp (a' := 36) (pc' := 32) (z := false) rfl rfl rfl (by decide) (fun h => by cases h) (fun _ => ?_)
  refine x_iconst (pc' := 33) rfl rfl ?_
  refine x_goto (pc' := 37) rfl rfl ?_
  refine x_istore (pc' := 39) (ls' := [_, _, _, _, _, _]) rfl rfl rfl rfl ?_
  refine x_iload (pc' := 41) rfl rfl rfl ?_
  refine x_if (a' := 67) (pc' := 44) (z := false) rfl rfl rfl (by decide) (fun h => by cases h) (fun _ => ?_)
  refine x_iload (pc' := 46) rfl rfl rfl ?_
  refine x_if (a' := 67) (pc' := 49) (z := false) rfl rfl rfl (by decide) (fun h => by cases h) (fun _ => ?_)
  refine x_iload (pc' := 51) rfl rfl rfl ?_
  refine x_getstatic (pc' := 54) rfl rfl (show 0 < sC t 28 from gst0 hc.1) ?_
  refine x_alen (pc' := 55) (N := 45) rfl rfl rfl (kN_28_0 hc.1) (?_ : X _ _ _ (.inl 45 :: _) _ _)
  refine x_icmp (a' := 67) (pc' := 58) (z := false) rfl rfl rfl (by decide) (fun h => by cases h) (fun _ => ?_)
  refine x_getstatic (pc' := 61) rfl rfl (show 0 < sC t 28 from gst0 hc.1) ?_
  refine x_iload (pc' := 63) rfl rfl rfl ?_
  refine x_iald (pc' := 64) (N := 45) (x := 5) rfl rfl rfl (kN_28_0 hc.1) (io_in (p := 36) (N := 45) (by decide) (by decide)) (Eq.trans (congrArg (sA t 28 0) (nn_io (p := 36) (by decide))) ((hc.1.2.2.2.2.2 36).1.trans rfl)) ?_
  refine x_goto (pc' := 68) rfl rfl ?_
  refine x_reti rfl rfl ?_
  refine sK_i (pc' := 7) rfl ?_
  refine x_if (a' := 14) (pc' := 10) (z := true) rfl rfl rfl (by decide) (fun _ => ?_) (fun h => by cases h)
  refine x_iconst (pc' := 15) rfl rfl ?_
  refine x_istore (pc' := 17) (ls' := [_, _, _, _, _, _, _, _]) rfl rfl rfl rfl ?_
  refine x_iconst (pc' := 18) rfl rfl ?_
  refine x_istore (pc' := 20) (ls' := [_, _, _, _, _, _, _, _]) rfl rfl rfl rfl ?_
  refine x_iload (pc' := 22) rfl rfl rfl ?_
  refine x_iconst (pc' := 23) rfl rfl ?_
  refine x_icmp (a' := 89) (pc' := 26) (z := false) rfl rfl rfl (by decide) (fun h => by cases h) (fun _ => ?_)
  refine x_aload_n (pc' := 27) rfl rfl rfl rfl rfl ?_
  refine x_aload_n (pc' := 28) rfl rfl rfl rfl rfl ?_
  refine x_iload_n (pc' := 29) rfl rfl rfl ?_
  refine x_iload (pc' := 31) rfl rfl rfl ?_
  refine x_cv (ls0 := [_, _, _, _, sJk, sJk]) (rest := []) rfl rfl rfl rfl rfl ?_
  refine x_aload_n (pc' := 1) rfl rfl rfl rfl rfl ?_
  refine x_gI (pc' := 4) (x := 4) rfl rfl rfl (kI_64_4 hc.1) ?_
  refine x_iconst (pc' := 5) rfl rfl ?_
  refine x_imul (pc' := 6) (z := 12) rfl rfl (by decide) ?_
  refine x_iload_n (pc' := 7) rfl rfl rfl ?_
  refine x_iadd (pc' := 8) (z := 12) rfl rfl (by decide) ?_
  refine x_iconst (pc' := 9) rfl rfl ?_
  refine x_imul (pc' := 10) (z := 36) rfl rfl (by decide) ?_
  refine x_iload_n (pc' := 11) rfl rfl rfl ?_
  refine x_iadd (pc' := 12) (z := 36) rfl rfl (by decide) ?_
  refine x_istore (pc' := 14) (ls' := [_, _, _, _, _, _]) rfl rfl rfl rfl ?_
  refine x_iload_n (pc' := 15) rfl rfl rfl ?_
  refine x_if (a' := 36) (pc' := 18) (z := false) rfl rfl rfl (by decide) (fun h => by cases h) (fun _ => ?_)
  refine x_iload_n (pc' := 19) rfl rfl rfl ?_
  refine x_iconst (pc' := 20) rfl rfl ?_
  refine x_icmp (a' := 36) (pc' := 23) (z := false) rfl rfl rfl (by decide) (fun h => by cases h) (fun _ => ?_)
  refine x_iload_n (pc' := 24) rfl rfl rfl ?_
  refine x_if (a' := 36) (pc' := 27) (z := false) rfl rfl rfl (by decide) (fun h => by cases h) (fun _ => ?_)
  refine x_iload_n (pc' := 28) rfl rfl rfl ?_
  refine x_iconst (pc' := 29) rfl rfl ?_
  refine x_icmp (a' := 36) (pc' := 32) (z := false) rfl rfl rfl (by decide) (fun h => by cases h) (fun _ => ?_)
  refine x_iconst (pc' := 33) rfl rfl ?_
  refine x_goto (pc' := 37) rfl rfl ?_
  refine x_istore (pc' := 39) (ls' := [_, _, _, _, _, _]) rfl rfl rfl rfl ?_
  refine x_iload (pc' := 41) rfl rfl rfl ?_
  refine x_if (a' := 67) (pc' := 44) (z := false) rfl rfl rfl (by decide) (fun h => by cases h) (fun _ => ?_)
  refine x_iload (pc' := 46) rfl rfl rfl ?_
  refine x_if (a' := 67) (pc' := 49) (z := false) rfl rfl rfl (by decide) (fun h => by cases h) (fun _ => ?_)
  refine x_iload (pc' := 51) rfl rfl rfl ?_
  refine x_getstatic (pc' := 54) rfl rfl (show 0 < sC t 28 from gst0 hc.1) ?_
  refine x_alen (pc' := 55) (N := 45) rfl rfl rfl (kN_28_0 hc.1) (?_ : X _ _ _ (.inl 45 :: _) _ _)
  refine x_icmp (a' := 67) (pc' := 58) (z := false) rfl rfl rfl (by decide) (fun h => by cases h) (fun _ => ?_)
  refine x_getstatic (pc' := 61) rfl rfl (show 0 < sC t 28 from gst0 hc.1) ?_
  refine x_iload (pc' := 63) rfl rfl rfl ?_
  refine x_iald (pc' := 64) (N := 45) (x := 5) rfl rfl rfl (kN_28_0 hc.1) (io_in (p := 36) (N := 45) (by decide) (by decide)) (Eq.trans (congrArg (sA t 28 0) (nn_io (p := 36) (by decide))) ((hc.1.2.2.2.2.2 36).1.trans rfl)) ?_
  refine x_goto (pc' := 68) rfl rfl ?_
  refine x_reti rfl rfl ?_
  refine sK_i (pc' := 34) rfl ?_
  refine x_istore (pc' := 36) (ls' := [_, _, _, _, _, _, _, _]) rfl rfl rfl rfl ?_
  refine x_iload (pc' := 38) rfl rfl rfl ?_
  refine x_if (a' := 83) (pc' := 41) (z := false) rfl rfl rfl (by decide) (fun h => by cases h) (fun _ => ?_)
  refine x_aload_n (pc' := 42) rfl rfl rfl rfl rfl ?_
  refine x_iload (pc' := 44) rfl rfl rfl ?_
  refine x_iload_n (pc' := 45) rfl rfl rfl ?_
  refine x_cv (ls0 := [_, _, _, sJk]) (rest := []) rfl rfl rfl rfl rfl ?_
  refine x_iload_n (pc' := 1) rfl rfl rfl ?_
  refine x_abs (pc' := 4) (z := 5) rfl rfl rfl (by decide) ?_
  refine x_iconst (pc' := 5) rfl rfl ?_
  refine x_isub (pc' := 6) (z := 4) rfl rfl (by decide) ?_
  refine x_istore_n (pc' := 7) (ls' := [_, _, _, _]) rfl rfl rfl rfl ?_
  refine x_iload_n (pc' := 8) rfl rfl rfl ?_
  refine x_if (a' := 33) (pc' := 11) (z := false) rfl rfl rfl (by decide) (fun h => by cases h) (fun _ => ?_)
  refine x_iload_n (pc' := 12) rfl rfl rfl ?_
  refine x_aload_n (pc' := 13) rfl rfl rfl rfl rfl ?_
  refine x_gR (pc' := 16) (r := (some 0)) rfl rfl rfl (kR_640_0 hc.1) ?_
  refine x_alen (pc' := 17) (N := 5) rfl rfl rfl (kN_24_0 hc.1) (?_ : X _ _ _ (.inl 5 :: _) _ _)
  refine x_icmp (a' := 33) (pc' := 20) (z := false) rfl rfl rfl (by decide) (fun h => by cases h) (fun _ => ?_)
  refine x_aload_n (pc' := 21) rfl rfl rfl rfl rfl ?_
  refine x_gR (pc' := 24) (r := (some 0)) rfl rfl rfl (kR_640_0 hc.1) ?_
  refine x_iload_n (pc' := 25) rfl rfl rfl ?_
  refine x_aald (pc' := 26) (N := 5) (k' := 1) (r := (some 4)) rfl rfl rfl (kN_24_0 hc.1) (io_in (p := 4) (N := 5) (by decide) (by decide)) (Eq.trans (congrArg (sE t 24 0) (nn_io (p := 4) (by decide))) (kB hc.1 (by decide))) ?_
  refine x_gI (pc' := 29) (x := (mA M 0 4)) rfl rfl rfl (kA hM rfl (show 4 < 5 by decide)) ?_
  refine x_iconst (pc' := 30) rfl rfl ?_
  have J23 : ((sK 79 81 45 [.inr (.inr (10, (some 0))), .inr (.inr (1, (some 4))), .inl 0, .inl (bz false), .inl 0, .inl 0, .inl 5, sJk] [] Q) : sRs → sT → Prop) (.inl (some (.inr (.inr (8, (bif (decide ((mA M 0 4) = 2)) then (bsF M n 4 true) else none)))))) t := by
    refine sK_i (pc' := 48) rfl ?_
    refine x_astore (pc' := 50) (ls' := [_, _, _, _, _, _, _, _]) rfl rfl rfl rfl rfl ?_
    refine x_aload (pc' := 52) rfl rfl rfl rfl rfl ?_
    refine x_ifnonnull (a' := 59) (pc' := 55) rfl rfl rfl rfl (fun j0 q25 => ?_) (fun q25 => ?_)
    · refine x_iload (pc' := 61) rfl rfl rfl ?_
      refine x_iload (pc' := 63) rfl rfl rfl ?_
      refine x_if (a' := 74) (pc' := 66) (z := false) rfl rfl rfl (by decide) (fun h => by cases h) (fun _ => ?_)
      refine x_aload (pc' := 68) rfl rfl rfl rfl (ovD_s q25) ?_
      refine x_gI (pc' := 71) (x := (mA M 14 (ovD (bif (decide ((mA M 0 4) = 2)) then (bsF M n 4 true) else none)))) rfl rfl rfl ((kA hM rfl (ovD_lt (obd_c bsF_lt obd_n) q25)).trans (congrFun (Fc.f14 (Fc.refl _)) _)) ?_
      refine x_goto (pc' := 80) rfl rfl ?_
      refine x_iadd (pc' := 81) (z := (0 + (mA M 14 (ovD (bif (decide ((mA M 0 4) = 2)) then (bsF M n 4 true) else none))))) rfl rfl rfl ?_
      refine x_istore (pc' := 83) (ls' := [_, _, _, _, _, _, _, _]) rfl rfl rfl rfl ?_
      refine x_iinc (pc' := 86) (y := 1) (ls' := [_, _, _, _, _, _, _, _]) rfl rfl rfl rfl rfl ?_
      refine x_goto (pc' := 20) rfl rfl ?_
      refine x_iload (pc' := 22) rfl rfl rfl ?_
      refine x_iconst (pc' := 23) rfl rfl ?_
      refine x_icmp (a' := 89) (pc' := 26) (z := false) rfl rfl rfl (by decide) (fun h => by cases h) (fun _ => ?_)
      refine x_aload_n (pc' := 27) rfl rfl rfl rfl rfl ?_
      refine x_aload_n (pc' := 28) rfl rfl rfl rfl rfl ?_
      refine x_iload_n (pc' := 29) rfl rfl rfl ?_
      refine x_iload (pc' := 31) rfl rfl rfl ?_
      refine x_cv (ls0 := [_, _, _, _, sJk, sJk]) (rest := []) rfl rfl rfl rfl rfl ?_
      refine x_aload_n (pc' := 1) rfl rfl rfl rfl rfl ?_
      refine x_gI (pc' := 4) (x := 4) rfl rfl rfl (kI_64_4 hc.1) ?_
      refine x_iconst (pc' := 5) rfl rfl ?_
      refine x_imul (pc' := 6) (z := 12) rfl rfl (by decide) ?_
      refine x_iload_n (pc' := 7) rfl rfl rfl ?_
      refine x_iadd (pc' := 8) (z := 12) rfl rfl (by decide) ?_
      refine x_iconst (pc' := 9) rfl rfl ?_
      refine x_imul (pc' := 10) (z := 36) rfl rfl (by decide) ?_
      refine x_iload_n (pc' := 11) rfl rfl rfl ?_
      refine x_iadd (pc' := 12) (z := 37) rfl rfl (by decide) ?_
      refine x_istore (pc' := 14) (ls' := [_, _, _, _, _, _]) rfl rfl rfl rfl ?_
      refine x_iload_n (pc' := 15) rfl rfl rfl ?_
      refine x_if (a' := 36) (pc' := 18) (z := false) rfl rfl rfl (by decide) (fun h => by cases h) (fun _ => ?_)
      refine x_iload_n (pc' := 19) rfl rfl rfl ?_
      refine x_iconst (pc' := 20) rfl rfl ?_
      refine x_icmp (a' := 36) (pc' := 23) (z := false) rfl rfl rfl (by decide) (fun h => by cases h) (fun _ => ?_)
      refine x_iload_n (pc' := 24) rfl rfl rfl ?_
      refine x_if (a' := 36) (pc' := 27) (z := false) rfl rfl rfl (by decide) (fun h => by cases h) (fun _ => ?_)
      refine x_iload_n (pc' := 28) rfl rfl rfl ?_
      refine x_iconst (pc' := 29) rfl rfl ?_
      refine x_icmp (a' := 36) (pc' := 32) (z := false) rfl rfl rfl (by decide) (fun h => by cases h) (fun _ => ?_)
      refine x_iconst (pc' := 33) rfl rfl ?_
      refine x_goto (pc' := 37) rfl rfl ?_
      refine x_istore (pc' := 39) (ls' := [_, _, _, _, _, _]) rfl rfl rfl rfl ?_
      refine x_iload (pc' := 41) rfl rfl rfl ?_
      refine x_if (a' := 67) (pc' := 44) (z := false) rfl rfl rfl (by decide) (fun h => by cases h) (fun _ => ?_)
      refine x_iload (pc' := 46) rfl rfl rfl ?_
      refine x_if (a' := 67) (pc' := 49) (z := false) rfl rfl rfl (by decide) (fun h => by cases h) (fun _ => ?_)
      refine x_iload (pc' := 51) rfl rfl rfl ?_
      refine x_getstatic (pc' := 54) rfl rfl (show 0 < sC t 28 from gst0 hc.1) ?_
      refine x_alen (pc' := 55) (N := 45) rfl rfl rfl (kN_28_0 hc.1) (?_ : X _ _ _ (.inl 45 :: _) _ _)
      refine x_icmp (a' := 67) (pc' := 58) (z := false) rfl rfl rfl (by decide) (fun h => by cases h) (fun _ => ?_)
      refine x_getstatic (pc' := 61) rfl rfl (show 0 < sC t 28 from gst0 hc.1) ?_
      refine x_iload (pc' := 63) rfl rfl rfl ?_
      refine x_iald (pc' := 64) (N := 45) (x := 0) rfl rfl rfl (kN_28_0 hc.1) (io_in (p := 37) (N := 45) (by decide) (by decide)) (Eq.trans (congrArg (sA t 28 0) (nn_io (p := 37) (by decide))) ((hc.1.2.2.2.2.2 37).1.trans rfl)) ?_
      refine x_goto (pc' := 68) rfl rfl ?_
      refine x_reti rfl rfl ?_
      refine sK_i (pc' := 34) rfl ?_
      refine x_istore (pc' := 36) (ls' := [_, _, _, _, _, _, _, _]) rfl rfl rfl rfl ?_
      refine x_iload (pc' := 38) rfl rfl rfl ?_
      refine x_if (a' := 83) (pc' := 41) (z := true) rfl rfl rfl (by decide) (fun _ => ?_) (fun h => by cases h)
      refine x_iinc (pc' := 86) (y := 2) (ls' := [_, _, _, _, _, _, _, _]) rfl rfl rfl rfl rfl ?_
      refine x_goto (pc' := 20) rfl rfl ?_
      refine x_iload (pc' := 22) rfl rfl rfl ?_
      refine x_iconst (pc' := 23) rfl rfl ?_
      refine x_icmp (a' := 89) (pc' := 26) (z := false) rfl rfl rfl (by decide) (fun h => by cases h) (fun _ => ?_)
      refine x_aload_n (pc' := 27) rfl rfl rfl rfl rfl ?_
      refine x_aload_n (pc' := 28) rfl rfl rfl rfl rfl ?_
      refine x_iload_n (pc' := 29) rfl rfl rfl ?_
      refine x_iload (pc' := 31) rfl rfl rfl ?_
      refine x_cv (ls0 := [_, _, _, _, sJk, sJk]) (rest := []) rfl rfl rfl rfl rfl ?_
      refine x_aload_n (pc' := 1) rfl rfl rfl rfl rfl ?_
      refine x_gI (pc' := 4) (x := 4) rfl rfl rfl (kI_64_4 hc.1) ?_
      refine x_iconst (pc' := 5) rfl rfl ?_
      refine x_imul (pc' := 6) (z := 12) rfl rfl (by decide) ?_
      refine x_iload_n (pc' := 7) rfl rfl rfl ?_
      refine x_iadd (pc' := 8) (z := 12) rfl rfl (by decide) ?_
      refine x_iconst (pc' := 9) rfl rfl ?_
      refine x_imul (pc' := 10) (z := 36) rfl rfl (by decide) ?_
      refine x_iload_n (pc' := 11) rfl rfl rfl ?_
      refine x_iadd (pc' := 12) (z := 38) rfl rfl (by decide) ?_
      refine x_istore (pc' := 14) (ls' := [_, _, _, _, _, _]) rfl rfl rfl rfl ?_
      refine x_iload_n (pc' := 15) rfl rfl rfl ?_
      refine x_if (a' := 36) (pc' := 18) (z := false) rfl rfl rfl (by decide) (fun h => by cases h) (fun _ => ?_)
      refine x_iload_n (pc' := 19) rfl rfl rfl ?_
      refine x_iconst (pc' := 20) rfl rfl ?_
      refine x_icmp (a' := 36) (pc' := 23) (z := false) rfl rfl rfl (by decide) (fun h => by cases h) (fun _ => ?_)
      refine x_iload_n (pc' := 24) rfl rfl rfl ?_
      refine x_if (a' := 36) (pc' := 27) (z := false) rfl rfl rfl (by decide) (fun h => by cases h) (fun _ => ?_)
      refine x_iload_n (pc' := 28) rfl rfl rfl ?_
      refine x_iconst (pc' := 29) rfl rfl ?_
      refine x_icmp (a' := 36) (pc' := 32) (z := false) rfl rfl rfl (by decide) (fun h => by cases h) (fun _ => ?_)
      refine x_iconst (pc' := 33) rfl rfl ?_
      refine x_goto (pc' := 37) rfl rfl ?_
      refine x_istore (pc' := 39) (ls' := [_, _, _, _, _, _]) rfl rfl rfl rfl ?_
      refine x_iload (pc' := 41) rfl rfl rfl ?_
      refine x_if (a' := 67) (pc' := 44) (z := false) rfl rfl rfl (by decide) (fun h => by cases h) (fun _ => ?_)
      refine x_iload (pc' := 46) rfl rfl rfl ?_
      refine x_if (a' := 67) (pc' := 49) (z := false) rfl rfl rfl (by decide) (fun h => by cases h) (fun _ => ?_)
      refine x_iload (pc' := 51) rfl rfl rfl ?_
      refine x_getstatic (pc' := 54) rfl rfl (show 0 < sC t 28 from gst0 hc.1) ?_
      refine x_alen (pc' := 55) (N := 45) rfl rfl rfl (kN_28_0 hc.1) (?_ : X _ _ _ (.inl 45 :: _) _ _)
      refine x_icmp (a' := 67) (pc' := 58) (z := false) rfl rfl rfl (by decide) (fun h => by cases h) (fun _ => ?_)
      refine x_getstatic (pc' := 61) rfl rfl (show 0 < sC t 28 from gst0 hc.1) ?_
      refine x_iload (pc' := 63) rfl rfl rfl ?_
      refine x_iald (pc' := 64) (N := 45) (x := 0) rfl rfl rfl (kN_28_0 hc.1) (io_in (p := 38) (N := 45) (by decide) (by decide)) (Eq.trans (congrArg (sA t 28 0) (nn_io (p := 38) (by decide))) ((hc.1.2.2.2.2.2 38).1.trans rfl)) ?_
      refine x_goto (pc' := 68) rfl rfl ?_
      refine x_reti rfl rfl ?_
      refine sK_i (pc' := 34) rfl ?_
      refine x_istore (pc' := 36) (ls' := [_, _, _, _, _, _, _, _]) rfl rfl rfl rfl ?_
      refine x_iload (pc' := 38) rfl rfl rfl ?_
      refine x_if (a' := 83) (pc' := 41) (z := true) rfl rfl rfl (by decide) (fun _ => ?_) (fun h => by cases h)
      refine x_iinc (pc' := 86) (y := 3) (ls' := [_, _, _, _, _, _, _, _]) rfl rfl rfl rfl rfl ?_
      refine x_goto (pc' := 20) rfl rfl ?_
      refine x_iload (pc' := 22) rfl rfl rfl ?_
      refine x_iconst (pc' := 23) rfl rfl ?_
      refine x_icmp (a' := 89) (pc' := 26) (z := true) rfl rfl rfl (by decide) (fun _ => ?_) (fun h => by cases h)
      refine x_iload (pc' := 91) rfl rfl rfl ?_
      refine x_reti rfl rfl ?_
      exact qv (by simp only [cp40fF, (isSome_s q25), cd_t, cd_f]) (q )
    · refine x_sipush (pc' := 58) rfl rfl ?_
      refine x_reti rfl rfl ?_
      exact qv (by simp only [cp40fF, (isSome_n q25), cd_t, cd_f]) (q )
  refine x_icmp (a' := 35) (pc' := 33) (z := decide ((mA M 0 4) = 2)) rfl rfl rfl rfl (fun q20 => ?_) (fun q20 => ?_)
  · refine x_aload_n (pc' := 36) rfl rfl rfl rfl rfl ?_
    refine x_gR (pc' := 39) (r := (some 0)) rfl rfl rfl (kR_640_0 hc.1) ?_
    refine x_iload_n (pc' := 40) rfl rfl rfl ?_
    refine x_aald (pc' := 41) (N := 5) (k' := 1) (r := (some 4)) rfl rfl rfl (kN_24_0 hc.1) (io_in (p := 4) (N := 5) (by decide) (by decide)) (Eq.trans (congrArg (sE t 24 0) (nn_io (p := 4) (by decide))) (kB hc.1 (by decide))) ?_
    refine x_iload_n (pc' := 42) rfl rfl rfl ?_
    refine x_if (a' := 57) (pc' := 45) (z := false) rfl rfl rfl (by decide) (fun h => by cases h) (fun _ => ?_)
    refine x_iload_n (pc' := 46) rfl rfl rfl ?_
    refine x_if (a' := 53) (pc' := 49) (z := false) rfl rfl rfl (by decide) (fun h => by cases h) (fun _ => ?_)
    refine x_iconst (pc' := 50) rfl rfl ?_
    refine x_goto (pc' := 58) rfl rfl ?_
    refine x_cv (ls0 := [_, _]) (rest := []) rfl rfl rfl rfl rfl ?_
    refine x_iload_n (pc' := 1) rfl rfl rfl ?_
    refine x_if (a' := 11) (pc' := 4) (z := false) rfl rfl rfl (by decide) (fun h => by cases h) (fun _ => ?_)
    refine x_aload_n (pc' := 5) rfl rfl rfl rfl rfl ?_
    refine x_gR (pc' := 8) (r := (bsF M n 4 true)) rfl rfl rfl (bs_69 hC (Fc.ri (Fc.refl _) hR) hM (by decide)) ?_
    refine x_goto (pc' := 15) rfl rfl ?_
    refine x_reta rfl rfl ?_
    refine sK_i (pc' := 61) rfl ?_
    refine x_reta rfl rfl ?_
    ((try rw [q20] at J23); (try rw [q20]); (try simp only [cd_t, cd_f, nt_t, nt_f, an_t, an_f, or_t, or_f] at J23); (try simp only [cd_t, cd_f, nt_t, nt_f, an_t, an_f, or_t, or_f]); exact J23)
  · refine x_null (pc' := 34) rfl rfl rfl ?_
    refine x_reta rfl rfl ?_
    ((try rw [q20] at J23); (try rw [q20]); (try simp only [cd_t, cd_f, nt_t, nt_f, an_t, an_f, or_t, or_f] at J23); (try simp only [cd_t, cd_f, nt_t, nt_f, an_t, an_f, or_t, or_f]); exact J23)
def cp40tF (M : sM) (n : Nat) : Int32 := (bif (bif (decide ((mA M 0 4) = 2)) then (bsF M n 4 false) else none).isSome then (0 + (mA M 14 (ovD (bif (decide ((mA M 0 4) = 2)) then (bsF M n 4 false) else none)))) else (-10000))
set_option maxHeartbeats 4000000 in
set_option maxRecDepth 10000 in
theorem c81_40t {t : sT} {Q : sRs → sT → Prop} {M : sM} {n : Nat} {T : Nat}
    (hM : Rl t M n T)
    (hc : Sf t M n T)
    (hR : Ri M n)
    (hC : rlC t M n)
    (q : Q (.inl (some (.inl (cp40tF M n)))) t) :
    X 81 0 [.inr (.inr (10, (some 0))), .inr (.inr (1, (some 4))), .inl 0, .inl (bz true), sJk, sJk, sJk, sJk] [] t Q := by
  refine x_aload_n (pc' := 1) rfl rfl rfl rfl rfl ?_
  refine x_aload_n (pc' := 2) rfl rfl rfl rfl rfl ?_
  refine x_iload_n (pc' := 3) rfl rfl rfl ?_
  refine x_iconst (pc' := 4) rfl rfl ?_
  refine x_cv (ls0 := [_, _, _, _, sJk, sJk]) (rest := []) rfl rfl rfl rfl rfl ?_
  refine x_aload_n (pc' := 1) rfl rfl rfl rfl rfl ?_
  refine x_gI (pc' := 4) (x := 4) rfl rfl rfl (kI_64_4 hc.1) ?_
  refine x_iconst (pc' := 5) rfl rfl ?_
  refine x_imul (pc' := 6) (z := 12) rfl rfl (by decide) ?_
  refine x_iload_n (pc' := 7) rfl rfl rfl ?_
  refine x_iadd (pc' := 8) (z := 12) rfl rfl (by decide) ?_
  refine x_iconst (pc' := 9) rfl rfl ?_
  refine x_imul (pc' := 10) (z := 36) rfl rfl (by decide) ?_
  refine x_iload_n (pc' := 11) rfl rfl rfl ?_
  refine x_iadd (pc' := 12) (z := 36) rfl rfl (by decide) ?_
  refine x_istore (pc' := 14) (ls' := [_, _, _, _, _, _]) rfl rfl rfl rfl ?_
  refine x_iload_n (pc' := 15) rfl rfl rfl ?_
  refine x_if (a' := 36) (pc' := 18) (z := false) rfl rfl rfl (by decide) (fun h => by cases h) (fun _ => ?_)
  refine x_iload_n (pc' := 19) rfl rfl rfl ?_
  refine x_iconst (pc' := 20) rfl rfl ?_
  refine x_icmp (a' := 36) (pc' := 23) (z := false) rfl rfl rfl (by decide) (fun h => by cases h) (fun _ => ?_)
  refine x_iload_n (pc' := 24) rfl rfl rfl ?_
  refine x_if (a' := 36) (pc' := 27) (z := false) rfl rfl rfl (by decide) (fun h => by cases h) (fun _ => ?_)
  refine x_iload_n (pc' := 28) rfl rfl rfl ?_
  refine x_iconst (pc' := 29) rfl rfl ?_
  refine x_icmp (a' := 36) (pc' := 32) (z := false) rfl rfl rfl (by decide) (fun h => by cases h) (fun _ => ?_)
  refine x_iconst (pc' := 33) rfl rfl ?_
  refine x_goto (pc' := 37) rfl rfl ?_
  refine x_istore (pc' := 39) (ls' := [_, _, _, _, _, _]) rfl rfl rfl rfl ?_
  refine x_iload (pc' := 41) rfl rfl rfl ?_
  refine x_if (a' := 67) (pc' := 44) (z := false) rfl rfl rfl (by decide) (fun h => by cases h) (fun _ => ?_)
  refine x_iload (pc' := 46) rfl rfl rfl ?_
  refine x_if (a' := 67) (pc' := 49) (z := false) rfl rfl rfl (by decide) (fun h => by cases h) (fun _ => ?_)
  refine x_iload (pc' := 51) rfl rfl rfl ?_
  refine x_getstatic (pc' := 54) rfl rfl (show 0 < sC t 28 from gst0 hc.1) ?_
  refine x_alen (pc' := 55) (N := 45) rfl rfl rfl (kN_28_0 hc.1) (?_ : X _ _ _ (.inl 45 :: _) _ _)
  refine x_icmp (a' := 67) (pc' := 58) (z := false) rfl rfl rfl (by decide) (fun h => by cases h) (fun _ => ?_)
  refine x_getstatic (pc' := 61) rfl rfl (show 0 < sC t 28 from gst0 hc.1) ?_
  refine x_iload (pc' := 63) rfl rfl rfl ?_
  refine x_iald (pc' := 64) (N := 45) (x := 5) rfl rfl rfl (kN_28_0 hc.1) (io_in (p := 36) (N := 45) (by decide) (by decide)) (Eq.trans (congrArg (sA t 28 0) (nn_io (p := 36) (by decide))) ((hc.1.2.2.2.2.2 36).1.trans rfl)) ?_
  refine x_goto (pc' := 68) rfl rfl ?_
  refine x_reti rfl rfl ?_
  refine sK_i (pc' := 7) rfl ?_
  refine x_if (a' := 14) (pc' := 10) (z := true) rfl rfl rfl (by decide) (fun _ => ?_) (fun h => by cases h)
  refine x_iconst (pc' := 15) rfl rfl ?_
  refine x_istore (pc' := 17) (ls' := [_, _, _, _, _, _, _, _]) rfl rfl rfl rfl ?_
  refine x_iconst (pc' := 18) rfl rfl ?_
  refine x_istore (pc' := 20) (ls' := [_, _, _, _, _, _, _, _]) rfl rfl rfl rfl ?_
  refine x_iload (pc' := 22) rfl rfl rfl ?_
  refine x_iconst (pc' := 23) rfl rfl ?_
  refine x_icmp (a' := 89) (pc' := 26) (z := false) rfl rfl rfl (by decide) (fun h => by cases h) (fun _ => ?_)
  refine x_aload_n (pc' := 27) rfl rfl rfl rfl rfl ?_
  refine x_aload_n (pc' := 28) rfl rfl rfl rfl rfl ?_
  refine x_iload_n (pc' := 29) rfl rfl rfl ?_
  refine x_iload (pc' := 31) rfl rfl rfl ?_
  refine x_cv (ls0 := [_, _, _, _, sJk, sJk]) (rest := []) rfl rfl rfl rfl rfl ?_
  refine x_aload_n (pc' := 1) rfl rfl rfl rfl rfl ?_
  refine x_gI (pc' := 4) (x := 4) rfl rfl rfl (kI_64_4 hc.1) ?_
  refine x_iconst (pc' := 5) rfl rfl ?_
  refine x_imul (pc' := 6) (z := 12) rfl rfl (by decide) ?_
  refine x_iload_n (pc' := 7) rfl rfl rfl ?_
  refine x_iadd (pc' := 8) (z := 12) rfl rfl (by decide) ?_
  refine x_iconst (pc' := 9) rfl rfl ?_
  refine x_imul (pc' := 10) (z := 36) rfl rfl (by decide) ?_
  refine x_iload_n (pc' := 11) rfl rfl rfl ?_
  refine x_iadd (pc' := 12) (z := 36) rfl rfl (by decide) ?_
  refine x_istore (pc' := 14) (ls' := [_, _, _, _, _, _]) rfl rfl rfl rfl ?_
  refine x_iload_n (pc' := 15) rfl rfl rfl ?_
  refine x_if (a' := 36) (pc' := 18) (z := false) rfl rfl rfl (by decide) (fun h => by cases h) (fun _ => ?_)
  refine x_iload_n (pc' := 19) rfl rfl rfl ?_
  refine x_iconst (pc' := 20) rfl rfl ?_
  refine x_icmp (a' := 36) (pc' := 23) (z := false) rfl rfl rfl (by decide) (fun h => by cases h) (fun _ => ?_)
  refine x_iload_n (pc' := 24) rfl rfl rfl ?_
  refine x_if (a' := 36) (pc' := 27) (z := false) rfl rfl rfl (by decide) (fun h => by cases h) (fun _ => ?_)
  refine x_iload_n (pc' := 28) rfl rfl rfl ?_
  refine x_iconst (pc' := 29) rfl rfl ?_
  refine x_icmp (a' := 36) (pc' := 32) (z := false) rfl rfl rfl (by decide) (fun h => by cases h) (fun _ => ?_)
  refine x_iconst (pc' := 33) rfl rfl ?_
  refine x_goto (pc' := 37) rfl rfl ?_
  refine x_istore (pc' := 39) (ls' := [_, _, _, _, _, _]) rfl rfl rfl rfl ?_
  refine x_iload (pc' := 41) rfl rfl rfl ?_
  refine x_if (a' := 67) (pc' := 44) (z := false) rfl rfl rfl (by decide) (fun h => by cases h) (fun _ => ?_)
  refine x_iload (pc' := 46) rfl rfl rfl ?_
  refine x_if (a' := 67) (pc' := 49) (z := false) rfl rfl rfl (by decide) (fun h => by cases h) (fun _ => ?_)
  refine x_iload (pc' := 51) rfl rfl rfl ?_
  refine x_getstatic (pc' := 54) rfl rfl (show 0 < sC t 28 from gst0 hc.1) ?_
  refine x_alen (pc' := 55) (N := 45) rfl rfl rfl (kN_28_0 hc.1) (?_ : X _ _ _ (.inl 45 :: _) _ _)
  refine x_icmp (a' := 67) (pc' := 58) (z := false) rfl rfl rfl (by decide) (fun h => by cases h) (fun _ => ?_)
  refine x_getstatic (pc' := 61) rfl rfl (show 0 < sC t 28 from gst0 hc.1) ?_
  refine x_iload (pc' := 63) rfl rfl rfl ?_
  refine x_iald (pc' := 64) (N := 45) (x := 5) rfl rfl rfl (kN_28_0 hc.1) (io_in (p := 36) (N := 45) (by decide) (by decide)) (Eq.trans (congrArg (sA t 28 0) (nn_io (p := 36) (by decide))) ((hc.1.2.2.2.2.2 36).1.trans rfl)) ?_
  refine x_goto (pc' := 68) rfl rfl ?_
  refine x_reti rfl rfl ?_
  refine sK_i (pc' := 34) rfl ?_
  refine x_istore (pc' := 36) (ls' := [_, _, _, _, _, _, _, _]) rfl rfl rfl rfl ?_
  refine x_iload (pc' := 38) rfl rfl rfl ?_
  refine x_if (a' := 83) (pc' := 41) (z := false) rfl rfl rfl (by decide) (fun h => by cases h) (fun _ => ?_)
  refine x_aload_n (pc' := 42) rfl rfl rfl rfl rfl ?_
  refine x_iload (pc' := 44) rfl rfl rfl ?_
  refine x_iload_n (pc' := 45) rfl rfl rfl ?_
  refine x_cv (ls0 := [_, _, _, sJk]) (rest := []) rfl rfl rfl rfl rfl ?_
  refine x_iload_n (pc' := 1) rfl rfl rfl ?_
  refine x_abs (pc' := 4) (z := 5) rfl rfl rfl (by decide) ?_
  refine x_iconst (pc' := 5) rfl rfl ?_
  refine x_isub (pc' := 6) (z := 4) rfl rfl (by decide) ?_
  refine x_istore_n (pc' := 7) (ls' := [_, _, _, _]) rfl rfl rfl rfl ?_
  refine x_iload_n (pc' := 8) rfl rfl rfl ?_
  refine x_if (a' := 33) (pc' := 11) (z := false) rfl rfl rfl (by decide) (fun h => by cases h) (fun _ => ?_)
  refine x_iload_n (pc' := 12) rfl rfl rfl ?_
  refine x_aload_n (pc' := 13) rfl rfl rfl rfl rfl ?_
  refine x_gR (pc' := 16) (r := (some 0)) rfl rfl rfl (kR_640_0 hc.1) ?_
  refine x_alen (pc' := 17) (N := 5) rfl rfl rfl (kN_24_0 hc.1) (?_ : X _ _ _ (.inl 5 :: _) _ _)
  refine x_icmp (a' := 33) (pc' := 20) (z := false) rfl rfl rfl (by decide) (fun h => by cases h) (fun _ => ?_)
  refine x_aload_n (pc' := 21) rfl rfl rfl rfl rfl ?_
  refine x_gR (pc' := 24) (r := (some 0)) rfl rfl rfl (kR_640_0 hc.1) ?_
  refine x_iload_n (pc' := 25) rfl rfl rfl ?_
  refine x_aald (pc' := 26) (N := 5) (k' := 1) (r := (some 4)) rfl rfl rfl (kN_24_0 hc.1) (io_in (p := 4) (N := 5) (by decide) (by decide)) (Eq.trans (congrArg (sE t 24 0) (nn_io (p := 4) (by decide))) (kB hc.1 (by decide))) ?_
  refine x_gI (pc' := 29) (x := (mA M 0 4)) rfl rfl rfl (kA hM rfl (show 4 < 5 by decide)) ?_
  refine x_iconst (pc' := 30) rfl rfl ?_
  have J23 : ((sK 79 81 45 [.inr (.inr (10, (some 0))), .inr (.inr (1, (some 4))), .inl 0, .inl (bz true), .inl 0, .inl 0, .inl 5, sJk] [] Q) : sRs → sT → Prop) (.inl (some (.inr (.inr (8, (bif (decide ((mA M 0 4) = 2)) then (bsF M n 4 false) else none)))))) t := by
    refine sK_i (pc' := 48) rfl ?_
    refine x_astore (pc' := 50) (ls' := [_, _, _, _, _, _, _, _]) rfl rfl rfl rfl rfl ?_
    refine x_aload (pc' := 52) rfl rfl rfl rfl rfl ?_
    refine x_ifnonnull (a' := 59) (pc' := 55) rfl rfl rfl rfl (fun j0 q25 => ?_) (fun q25 => ?_)
    · refine x_iload (pc' := 61) rfl rfl rfl ?_
      refine x_iload (pc' := 63) rfl rfl rfl ?_
      refine x_if (a' := 74) (pc' := 66) (z := false) rfl rfl rfl (by decide) (fun h => by cases h) (fun _ => ?_)
      refine x_aload (pc' := 68) rfl rfl rfl rfl (ovD_s q25) ?_
      refine x_gI (pc' := 71) (x := (mA M 14 (ovD (bif (decide ((mA M 0 4) = 2)) then (bsF M n 4 false) else none)))) rfl rfl rfl ((kA hM rfl (ovD_lt (obd_c bsF_lt obd_n) q25)).trans (congrFun (Fc.f14 (Fc.refl _)) _)) ?_
      refine x_goto (pc' := 80) rfl rfl ?_
      refine x_iadd (pc' := 81) (z := (0 + (mA M 14 (ovD (bif (decide ((mA M 0 4) = 2)) then (bsF M n 4 false) else none))))) rfl rfl rfl ?_
      refine x_istore (pc' := 83) (ls' := [_, _, _, _, _, _, _, _]) rfl rfl rfl rfl ?_
      refine x_iinc (pc' := 86) (y := 1) (ls' := [_, _, _, _, _, _, _, _]) rfl rfl rfl rfl rfl ?_
      refine x_goto (pc' := 20) rfl rfl ?_
      refine x_iload (pc' := 22) rfl rfl rfl ?_
      refine x_iconst (pc' := 23) rfl rfl ?_
      refine x_icmp (a' := 89) (pc' := 26) (z := false) rfl rfl rfl (by decide) (fun h => by cases h) (fun _ => ?_)
      refine x_aload_n (pc' := 27) rfl rfl rfl rfl rfl ?_
      refine x_aload_n (pc' := 28) rfl rfl rfl rfl rfl ?_
      refine x_iload_n (pc' := 29) rfl rfl rfl ?_
      refine x_iload (pc' := 31) rfl rfl rfl ?_
      refine x_cv (ls0 := [_, _, _, _, sJk, sJk]) (rest := []) rfl rfl rfl rfl rfl ?_
      refine x_aload_n (pc' := 1) rfl rfl rfl rfl rfl ?_
      refine x_gI (pc' := 4) (x := 4) rfl rfl rfl (kI_64_4 hc.1) ?_
      refine x_iconst (pc' := 5) rfl rfl ?_
      refine x_imul (pc' := 6) (z := 12) rfl rfl (by decide) ?_
      refine x_iload_n (pc' := 7) rfl rfl rfl ?_
      refine x_iadd (pc' := 8) (z := 12) rfl rfl (by decide) ?_
      refine x_iconst (pc' := 9) rfl rfl ?_
      refine x_imul (pc' := 10) (z := 36) rfl rfl (by decide) ?_
      refine x_iload_n (pc' := 11) rfl rfl rfl ?_
      refine x_iadd (pc' := 12) (z := 37) rfl rfl (by decide) ?_
      refine x_istore (pc' := 14) (ls' := [_, _, _, _, _, _]) rfl rfl rfl rfl ?_
      refine x_iload_n (pc' := 15) rfl rfl rfl ?_
      refine x_if (a' := 36) (pc' := 18) (z := false) rfl rfl rfl (by decide) (fun h => by cases h) (fun _ => ?_)
      refine x_iload_n (pc' := 19) rfl rfl rfl ?_
      refine x_iconst (pc' := 20) rfl rfl ?_
      refine x_icmp (a' := 36) (pc' := 23) (z := false) rfl rfl rfl (by decide) (fun h => by cases h) (fun _ => ?_)
      refine x_iload_n (pc' := 24) rfl rfl rfl ?_
      refine x_if (a' := 36) (pc' := 27) (z := false) rfl rfl rfl (by decide) (fun h => by cases h) (fun _ => ?_)
      refine x_iload_n (pc' := 28) rfl rfl rfl ?_
      refine x_iconst (pc' := 29) rfl rfl ?_
      refine x_icmp (a' := 36) (pc' := 32) (z := false) rfl rfl rfl (by decide) (fun h => by cases h) (fun _ => ?_)
      refine x_iconst (pc' := 33) rfl rfl ?_
      refine x_goto (pc' := 37) rfl rfl ?_
      refine x_istore (pc' := 39) (ls' := [_, _, _, _, _, _]) rfl rfl rfl rfl ?_
      refine x_iload (pc' := 41) rfl rfl rfl ?_
      refine x_if (a' := 67) (pc' := 44) (z := false) rfl rfl rfl (by decide) (fun h => by cases h) (fun _ => ?_)
      refine x_iload (pc' := 46) rfl rfl rfl ?_
      refine x_if (a' := 67) (pc' := 49) (z := false) rfl rfl rfl (by decide) (fun h => by cases h) (fun _ => ?_)
      refine x_iload (pc' := 51) rfl rfl rfl ?_
      refine x_getstatic (pc' := 54) rfl rfl (show 0 < sC t 28 from gst0 hc.1) ?_
      refine x_alen (pc' := 55) (N := 45) rfl rfl rfl (kN_28_0 hc.1) (?_ : X _ _ _ (.inl 45 :: _) _ _)
      refine x_icmp (a' := 67) (pc' := 58) (z := false) rfl rfl rfl (by decide) (fun h => by cases h) (fun _ => ?_)
      refine x_getstatic (pc' := 61) rfl rfl (show 0 < sC t 28 from gst0 hc.1) ?_
      refine x_iload (pc' := 63) rfl rfl rfl ?_
      refine x_iald (pc' := 64) (N := 45) (x := 0) rfl rfl rfl (kN_28_0 hc.1) (io_in (p := 37) (N := 45) (by decide) (by decide)) (Eq.trans (congrArg (sA t 28 0) (nn_io (p := 37) (by decide))) ((hc.1.2.2.2.2.2 37).1.trans rfl)) ?_
      refine x_goto (pc' := 68) rfl rfl ?_
      refine x_reti rfl rfl ?_
      refine sK_i (pc' := 34) rfl ?_
      refine x_istore (pc' := 36) (ls' := [_, _, _, _, _, _, _, _]) rfl rfl rfl rfl ?_
      refine x_iload (pc' := 38) rfl rfl rfl ?_
      refine x_if (a' := 83) (pc' := 41) (z := true) rfl rfl rfl (by decide) (fun _ => ?_) (fun h => by cases h)
      refine x_iinc (pc' := 86) (y := 2) (ls' := [_, _, _, _, _, _, _, _]) rfl rfl rfl rfl rfl ?_
      refine x_goto (pc' := 20) rfl rfl ?_
      refine x_iload (pc' := 22) rfl rfl rfl ?_
      refine x_iconst (pc' := 23) rfl rfl ?_
      refine x_icmp (a' := 89) (pc' := 26) (z := false) rfl rfl rfl (by decide) (fun h => by cases h) (fun _ => ?_)
      refine x_aload_n (pc' := 27) rfl rfl rfl rfl rfl ?_
      refine x_aload_n (pc' := 28) rfl rfl rfl rfl rfl ?_
      refine x_iload_n (pc' := 29) rfl rfl rfl ?_
      refine x_iload (pc' := 31) rfl rfl rfl ?_
      refine x_cv (ls0 := [_, _, _, _, sJk, sJk]) (rest := []) rfl rfl rfl rfl rfl ?_
      refine x_aload_n (pc' := 1) rfl rfl rfl rfl rfl ?_
      refine x_gI (pc' := 4) (x := 4) rfl rfl rfl (kI_64_4 hc.1) ?_
      refine x_iconst (pc' := 5) rfl rfl ?_
      refine x_imul (pc' := 6) (z := 12) rfl rfl (by decide) ?_
      refine x_iload_n (pc' := 7) rfl rfl rfl ?_
      refine x_iadd (pc' := 8) (z := 12) rfl rfl (by decide) ?_
      refine x_iconst (pc' := 9) rfl rfl ?_
      refine x_imul (pc' := 10) (z := 36) rfl rfl (by decide) ?_
      refine x_iload_n (pc' := 11) rfl rfl rfl ?_
      refine x_iadd (pc' := 12) (z := 38) rfl rfl (by decide) ?_
      refine x_istore (pc' := 14) (ls' := [_, _, _, _, _, _]) rfl rfl rfl rfl ?_
      refine x_iload_n (pc' := 15) rfl rfl rfl ?_
      refine x_if (a' := 36) (pc' := 18) (z := false) rfl rfl rfl (by decide) (fun h => by cases h) (fun _ => ?_)
      refine x_iload_n (pc' := 19) rfl rfl rfl ?_
      refine x_iconst (pc' := 20) rfl rfl ?_
      refine x_icmp (a' := 36) (pc' := 23) (z := false) rfl rfl rfl (by decide) (fun h => by cases h) (fun _ => ?_)
      refine x_iload_n (pc' := 24) rfl rfl rfl ?_
      refine x_if (a' := 36) (pc' := 27) (z := false) rfl rfl rfl (by decide) (fun h => by cases h) (fun _ => ?_)
      refine x_iload_n (pc' := 28) rfl rfl rfl ?_
      refine x_iconst (pc' := 29) rfl rfl ?_
      refine x_icmp (a' := 36) (pc' := 32) (z := false) rfl rfl rfl (by decide) (fun h => by cases h) (fun _ => ?_)
      refine x_iconst (pc' := 33) rfl rfl ?_
      refine x_goto (pc' := 37) rfl rfl ?_
      refine x_istore (pc' := 39) (ls' := [_, _, _, _, _, _]) rfl rfl rfl rfl ?_
      refine x_iload (pc' := 41) rfl rfl rfl ?_
      refine x_if (a' := 67) (pc' := 44) (z := false) rfl rfl rfl (by decide) (fun h => by cases h) (fun _ => ?_)
      refine x_iload (pc' := 46) rfl rfl rfl ?_
      refine x_if (a' := 67) (pc' := 49) (z := false) rfl rfl rfl (by decide) (fun h => by cases h) (fun _ => ?_)
      refine x_iload (pc' := 51) rfl rfl rfl ?_
      refine x_getstatic (pc' := 54) rfl rfl (show 0 < sC t 28 from gst0 hc.1) ?_
      refine x_alen (pc' := 55) (N := 45) rfl rfl rfl (kN_28_0 hc.1) (?_ : X _ _ _ (.inl 45 :: _) _ _)
      refine x_icmp (a' := 67) (pc' := 58) (z := false) rfl rfl rfl (by decide) (fun h => by cases h) (fun _ => ?_)
      refine x_getstatic (pc' := 61) rfl rfl (show 0 < sC t 28 from gst0 hc.1) ?_
      refine x_iload (pc' := 63) rfl rfl rfl ?_
      refine x_iald (pc' := 64) (N := 45) (x := 0) rfl rfl rfl (kN_28_0 hc.1) (io_in (p := 38) (N := 45) (by decide) (by decide)) (Eq.trans (congrArg (sA t 28 0) (nn_io (p := 38) (by decide))) ((hc.1.2.2.2.2.2 38).1.trans rfl)) ?_
      refine x_goto (pc' := 68) rfl rfl ?_
      refine x_reti rfl rfl ?_
      refine sK_i (pc' := 34) rfl ?_
      refine x_istore (pc' := 36) (ls' := [_, _, _, _, _, _, _, _]) rfl rfl rfl rfl ?_
      refine x_iload (pc' := 38) rfl rfl rfl ?_
      refine x_if (a' := 83) (pc' := 41) (z := true) rfl rfl rfl (by decide) (fun _ => ?_) (fun h => by cases h)
      refine x_iinc (pc' := 86) (y := 3) (ls' := [_, _, _, _, _, _, _, _]) rfl rfl rfl rfl rfl ?_
      refine x_goto (pc' := 20) rfl rfl ?_
      refine x_iload (pc' := 22) rfl rfl rfl ?_
      refine x_iconst (pc' := 23) rfl rfl ?_
      refine x_icmp (a' := 89) (pc' := 26) (z := true) rfl rfl rfl (by decide) (fun _ => ?_) (fun h => by cases h)
      refine x_iload (pc' := 91) rfl rfl rfl ?_
      refine x_reti rfl rfl ?_
      exact qv (by simp only [cp40tF, (isSome_s q25), cd_t, cd_f]) (q )
    · refine x_sipush (pc' := 58) rfl rfl ?_
      refine x_reti rfl rfl ?_
      exact qv (by simp only [cp40tF, (isSome_n q25), cd_t, cd_f]) (q )
  refine x_icmp (a' := 35) (pc' := 33) (z := decide ((mA M 0 4) = 2)) rfl rfl rfl rfl (fun q20 => ?_) (fun q20 => ?_)
  · refine x_aload_n (pc' := 36) rfl rfl rfl rfl rfl ?_
    refine x_gR (pc' := 39) (r := (some 0)) rfl rfl rfl (kR_640_0 hc.1) ?_
    refine x_iload_n (pc' := 40) rfl rfl rfl ?_
    refine x_aald (pc' := 41) (N := 5) (k' := 1) (r := (some 4)) rfl rfl rfl (kN_24_0 hc.1) (io_in (p := 4) (N := 5) (by decide) (by decide)) (Eq.trans (congrArg (sE t 24 0) (nn_io (p := 4) (by decide))) (kB hc.1 (by decide))) ?_
    refine x_iload_n (pc' := 42) rfl rfl rfl ?_
    refine x_if (a' := 57) (pc' := 45) (z := false) rfl rfl rfl (by decide) (fun h => by cases h) (fun _ => ?_)
    refine x_iload_n (pc' := 46) rfl rfl rfl ?_
    refine x_if (a' := 53) (pc' := 49) (z := true) rfl rfl rfl (by decide) (fun _ => ?_) (fun h => by cases h)
    refine x_iconst (pc' := 54) rfl rfl ?_
    refine x_goto (pc' := 58) rfl rfl ?_
    refine x_cv (ls0 := [_, _]) (rest := []) rfl rfl rfl rfl rfl ?_
    refine x_iload_n (pc' := 1) rfl rfl rfl ?_
    refine x_if (a' := 11) (pc' := 4) (z := true) rfl rfl rfl (by decide) (fun _ => ?_) (fun h => by cases h)
    refine x_aload_n (pc' := 12) rfl rfl rfl rfl rfl ?_
    refine x_gR (pc' := 15) (r := (bsF M n 4 false)) rfl rfl rfl (bs_70 hC (Fc.ri (Fc.refl _) hR) hM (by decide)) ?_
    refine x_reta rfl rfl ?_
    refine sK_i (pc' := 61) rfl ?_
    refine x_reta rfl rfl ?_
    ((try rw [q20] at J23); (try rw [q20]); (try simp only [cd_t, cd_f, nt_t, nt_f, an_t, an_f, or_t, or_f] at J23); (try simp only [cd_t, cd_f, nt_t, nt_f, an_t, an_f, or_t, or_f]); exact J23)
  · refine x_null (pc' := 34) rfl rfl rfl ?_
    refine x_reta rfl rfl ?_
    ((try rw [q20] at J23); (try rw [q20]); (try simp only [cd_t, cd_f, nt_t, nt_f, an_t, an_f, or_t, or_f] at J23); (try simp only [cd_t, cd_f, nt_t, nt_f, an_t, an_f, or_t, or_f]); exact J23)
def cp41fF (M : sM) (n : Nat) : Int32 := (bif (bif (decide ((mA M 0 1) = 2)) then (bsF M n 1 true) else none).isSome then (bif (bif (decide ((mA M 0 2) = 2)) then (bsF M n 2 false) else none).isSome then ((0 + (mA M 14 (ovD (bif (decide ((mA M 0 1) = 2)) then (bsF M n 1 true) else none)))) + (-(mA M 14 (ovD (bif (decide ((mA M 0 2) = 2)) then (bsF M n 2 false) else none))))) else (-10000)) else (-10000))
set_option maxHeartbeats 4000000 in
set_option maxRecDepth 10000 in
theorem c81_41f {t : sT} {Q : sRs → sT → Prop} {M : sM} {n : Nat} {T : Nat}
    (hM : Rl t M n T)
    (hc : Sf t M n T)
    (hR : Ri M n)
    (hC : rlC t M n)
    (q : Q (.inl (some (.inl (cp41fF M n)))) t) :
    X 81 0 [.inr (.inr (10, (some 0))), .inr (.inr (1, (some 4))), .inl 1, .inl (bz false), sJk, sJk, sJk, sJk] [] t Q := by
  refine x_aload_n (pc' := 1) rfl rfl rfl rfl rfl ?_
  refine x_aload_n (pc' := 2) rfl rfl rfl rfl rfl ?_
  refine x_iload_n (pc' := 3) rfl rfl rfl ?_
  refine x_iconst (pc' := 4) rfl rfl ?_
  refine x_cv (ls0 := [_, _, _, _, sJk, sJk]) (rest := []) rfl rfl rfl rfl rfl ?_
  refine x_aload_n (pc' := 1) rfl rfl rfl rfl rfl ?_
  refine x_gI (pc' := 4) (x := 4) rfl rfl rfl (kI_64_4 hc.1) ?_
  refine x_iconst (pc' := 5) rfl rfl ?_
  refine x_imul (pc' := 6) (z := 12) rfl rfl (by decide) ?_
  refine x_iload_n (pc' := 7) rfl rfl rfl ?_
  refine x_iadd (pc' := 8) (z := 13) rfl rfl (by decide) ?_
  refine x_iconst (pc' := 9) rfl rfl ?_
  refine x_imul (pc' := 10) (z := 39) rfl rfl (by decide) ?_
  refine x_iload_n (pc' := 11) rfl rfl rfl ?_
  refine x_iadd (pc' := 12) (z := 39) rfl rfl (by decide) ?_
  refine x_istore (pc' := 14) (ls' := [_, _, _, _, _, _]) rfl rfl rfl rfl ?_
  refine x_iload_n (pc' := 15) rfl rfl rfl ?_
  refine x_if (a' := 36) (pc' := 18) (z := false) rfl rfl rfl (by decide) (fun h => by cases h) (fun _ => ?_)
  refine x_iload_n (pc' := 19) rfl rfl rfl ?_
  refine x_iconst (pc' := 20) rfl rfl ?_
  refine x_icmp (a' := 36) (pc' := 23) (z := false) rfl rfl rfl (by decide) (fun h => by cases h) (fun _ => ?_)
  refine x_iload_n (pc' := 24) rfl rfl rfl ?_
  refine x_if (a' := 36) (pc' := 27) (z := false) rfl rfl rfl (by decide) (fun h => by cases h) (fun _ => ?_)
  refine x_iload_n (pc' := 28) rfl rfl rfl ?_
  refine x_iconst (pc' := 29) rfl rfl ?_
  refine x_icmp (a' := 36) (pc' := 32) (z := false) rfl rfl rfl (by decide) (fun h => by cases h) (fun _ => ?_)
  refine x_iconst (pc' := 33) rfl rfl ?_
  refine x_goto (pc' := 37) rfl rfl ?_
  refine x_istore (pc' := 39) (ls' := [_, _, _, _, _, _]) rfl rfl rfl rfl ?_
  refine x_iload (pc' := 41) rfl rfl rfl ?_
  refine x_if (a' := 67) (pc' := 44) (z := false) rfl rfl rfl (by decide) (fun h => by cases h) (fun _ => ?_)
  refine x_iload (pc' := 46) rfl rfl rfl ?_
  refine x_if (a' := 67) (pc' := 49) (z := false) rfl rfl rfl (by decide) (fun h => by cases h) (fun _ => ?_)
  refine x_iload (pc' := 51) rfl rfl rfl ?_
  refine x_getstatic (pc' := 54) rfl rfl (show 0 < sC t 28 from gst0 hc.1) ?_
  refine x_alen (pc' := 55) (N := 45) rfl rfl rfl (kN_28_0 hc.1) (?_ : X _ _ _ (.inl 45 :: _) _ _)
  refine x_icmp (a' := 67) (pc' := 58) (z := false) rfl rfl rfl (by decide) (fun h => by cases h) (fun _ => ?_)
  refine x_getstatic (pc' := 61) rfl rfl (show 0 < sC t 28 from gst0 hc.1) ?_
  refine x_iload (pc' := 63) rfl rfl rfl ?_
  refine x_iald (pc' := 64) (N := 45) (x := 2) rfl rfl rfl (kN_28_0 hc.1) (io_in (p := 39) (N := 45) (by decide) (by decide)) (Eq.trans (congrArg (sA t 28 0) (nn_io (p := 39) (by decide))) ((hc.1.2.2.2.2.2 39).1.trans rfl)) ?_
  refine x_goto (pc' := 68) rfl rfl ?_
  refine x_reti rfl rfl ?_
  refine sK_i (pc' := 7) rfl ?_
  refine x_if (a' := 14) (pc' := 10) (z := true) rfl rfl rfl (by decide) (fun _ => ?_) (fun h => by cases h)
  refine x_iconst (pc' := 15) rfl rfl ?_
  refine x_istore (pc' := 17) (ls' := [_, _, _, _, _, _, _, _]) rfl rfl rfl rfl ?_
  refine x_iconst (pc' := 18) rfl rfl ?_
  refine x_istore (pc' := 20) (ls' := [_, _, _, _, _, _, _, _]) rfl rfl rfl rfl ?_
  refine x_iload (pc' := 22) rfl rfl rfl ?_
  refine x_iconst (pc' := 23) rfl rfl ?_
  refine x_icmp (a' := 89) (pc' := 26) (z := false) rfl rfl rfl (by decide) (fun h => by cases h) (fun _ => ?_)
  refine x_aload_n (pc' := 27) rfl rfl rfl rfl rfl ?_
  refine x_aload_n (pc' := 28) rfl rfl rfl rfl rfl ?_
  refine x_iload_n (pc' := 29) rfl rfl rfl ?_
  refine x_iload (pc' := 31) rfl rfl rfl ?_
  refine x_cv (ls0 := [_, _, _, _, sJk, sJk]) (rest := []) rfl rfl rfl rfl rfl ?_
  refine x_aload_n (pc' := 1) rfl rfl rfl rfl rfl ?_
  refine x_gI (pc' := 4) (x := 4) rfl rfl rfl (kI_64_4 hc.1) ?_
  refine x_iconst (pc' := 5) rfl rfl ?_
  refine x_imul (pc' := 6) (z := 12) rfl rfl (by decide) ?_
  refine x_iload_n (pc' := 7) rfl rfl rfl ?_
  refine x_iadd (pc' := 8) (z := 13) rfl rfl (by decide) ?_
  refine x_iconst (pc' := 9) rfl rfl ?_
  refine x_imul (pc' := 10) (z := 39) rfl rfl (by decide) ?_
  refine x_iload_n (pc' := 11) rfl rfl rfl ?_
  refine x_iadd (pc' := 12) (z := 39) rfl rfl (by decide) ?_
  refine x_istore (pc' := 14) (ls' := [_, _, _, _, _, _]) rfl rfl rfl rfl ?_
  refine x_iload_n (pc' := 15) rfl rfl rfl ?_
  refine x_if (a' := 36) (pc' := 18) (z := false) rfl rfl rfl (by decide) (fun h => by cases h) (fun _ => ?_)
  refine x_iload_n (pc' := 19) rfl rfl rfl ?_
  refine x_iconst (pc' := 20) rfl rfl ?_
  refine x_icmp (a' := 36) (pc' := 23) (z := false) rfl rfl rfl (by decide) (fun h => by cases h) (fun _ => ?_)
  refine x_iload_n (pc' := 24) rfl rfl rfl ?_
  refine x_if (a' := 36) (pc' := 27) (z := false) rfl rfl rfl (by decide) (fun h => by cases h) (fun _ => ?_)
  refine x_iload_n (pc' := 28) rfl rfl rfl ?_
  refine x_iconst (pc' := 29) rfl rfl ?_
  refine x_icmp (a' := 36) (pc' := 32) (z := false) rfl rfl rfl (by decide) (fun h => by cases h) (fun _ => ?_)
  refine x_iconst (pc' := 33) rfl rfl ?_
  refine x_goto (pc' := 37) rfl rfl ?_
  refine x_istore (pc' := 39) (ls' := [_, _, _, _, _, _]) rfl rfl rfl rfl ?_
  refine x_iload (pc' := 41) rfl rfl rfl ?_
  refine x_if (a' := 67) (pc' := 44) (z := false) rfl rfl rfl (by decide) (fun h => by cases h) (fun _ => ?_)
  refine x_iload (pc' := 46) rfl rfl rfl ?_
  refine x_if (a' := 67) (pc' := 49) (z := false) rfl rfl rfl (by decide) (fun h => by cases h) (fun _ => ?_)
  refine x_iload (pc' := 51) rfl rfl rfl ?_
  refine x_getstatic (pc' := 54) rfl rfl (show 0 < sC t 28 from gst0 hc.1) ?_
  refine x_alen (pc' := 55) (N := 45) rfl rfl rfl (kN_28_0 hc.1) (?_ : X _ _ _ (.inl 45 :: _) _ _)
  refine x_icmp (a' := 67) (pc' := 58) (z := false) rfl rfl rfl (by decide) (fun h => by cases h) (fun _ => ?_)
  refine x_getstatic (pc' := 61) rfl rfl (show 0 < sC t 28 from gst0 hc.1) ?_
  refine x_iload (pc' := 63) rfl rfl rfl ?_
  refine x_iald (pc' := 64) (N := 45) (x := 2) rfl rfl rfl (kN_28_0 hc.1) (io_in (p := 39) (N := 45) (by decide) (by decide)) (Eq.trans (congrArg (sA t 28 0) (nn_io (p := 39) (by decide))) ((hc.1.2.2.2.2.2 39).1.trans rfl)) ?_
  refine x_goto (pc' := 68) rfl rfl ?_
  refine x_reti rfl rfl ?_
  refine sK_i (pc' := 34) rfl ?_
  refine x_istore (pc' := 36) (ls' := [_, _, _, _, _, _, _, _]) rfl rfl rfl rfl ?_
  refine x_iload (pc' := 38) rfl rfl rfl ?_
  refine x_if (a' := 83) (pc' := 41) (z := false) rfl rfl rfl (by decide) (fun h => by cases h) (fun _ => ?_)
  refine x_aload_n (pc' := 42) rfl rfl rfl rfl rfl ?_
  refine x_iload (pc' := 44) rfl rfl rfl ?_
  refine x_iload_n (pc' := 45) rfl rfl rfl ?_
  refine x_cv (ls0 := [_, _, _, sJk]) (rest := []) rfl rfl rfl rfl rfl ?_
  refine x_iload_n (pc' := 1) rfl rfl rfl ?_
  refine x_abs (pc' := 4) (z := 2) rfl rfl rfl (by decide) ?_
  refine x_iconst (pc' := 5) rfl rfl ?_
  refine x_isub (pc' := 6) (z := 1) rfl rfl (by decide) ?_
  refine x_istore_n (pc' := 7) (ls' := [_, _, _, _]) rfl rfl rfl rfl ?_
  refine x_iload_n (pc' := 8) rfl rfl rfl ?_
  refine x_if (a' := 33) (pc' := 11) (z := false) rfl rfl rfl (by decide) (fun h => by cases h) (fun _ => ?_)
  refine x_iload_n (pc' := 12) rfl rfl rfl ?_
  refine x_aload_n (pc' := 13) rfl rfl rfl rfl rfl ?_
  refine x_gR (pc' := 16) (r := (some 0)) rfl rfl rfl (kR_640_0 hc.1) ?_
  refine x_alen (pc' := 17) (N := 5) rfl rfl rfl (kN_24_0 hc.1) (?_ : X _ _ _ (.inl 5 :: _) _ _)
  refine x_icmp (a' := 33) (pc' := 20) (z := false) rfl rfl rfl (by decide) (fun h => by cases h) (fun _ => ?_)
  refine x_aload_n (pc' := 21) rfl rfl rfl rfl rfl ?_
  refine x_gR (pc' := 24) (r := (some 0)) rfl rfl rfl (kR_640_0 hc.1) ?_
  refine x_iload_n (pc' := 25) rfl rfl rfl ?_
  refine x_aald (pc' := 26) (N := 5) (k' := 1) (r := (some 1)) rfl rfl rfl (kN_24_0 hc.1) (io_in (p := 1) (N := 5) (by decide) (by decide)) (Eq.trans (congrArg (sE t 24 0) (nn_io (p := 1) (by decide))) (kB hc.1 (by decide))) ?_
  refine x_gI (pc' := 29) (x := (mA M 0 1)) rfl rfl rfl (kA hM rfl (show 1 < 5 by decide)) ?_
  refine x_iconst (pc' := 30) rfl rfl ?_
  have J23 : ((sK 79 81 45 [.inr (.inr (10, (some 0))), .inr (.inr (1, (some 4))), .inl 1, .inl (bz false), .inl 0, .inl 0, .inl 2, sJk] [] Q) : sRs → sT → Prop) (.inl (some (.inr (.inr (8, (bif (decide ((mA M 0 1) = 2)) then (bsF M n 1 true) else none)))))) t := by
    refine sK_i (pc' := 48) rfl ?_
    refine x_astore (pc' := 50) (ls' := [_, _, _, _, _, _, _, _]) rfl rfl rfl rfl rfl ?_
    refine x_aload (pc' := 52) rfl rfl rfl rfl rfl ?_
    refine x_ifnonnull (a' := 59) (pc' := 55) rfl rfl rfl rfl (fun j0 q25 => ?_) (fun q25 => ?_)
    · refine x_iload (pc' := 61) rfl rfl rfl ?_
      refine x_iload (pc' := 63) rfl rfl rfl ?_
      refine x_if (a' := 74) (pc' := 66) (z := false) rfl rfl rfl (by decide) (fun h => by cases h) (fun _ => ?_)
      refine x_aload (pc' := 68) rfl rfl rfl rfl (ovD_s q25) ?_
      refine x_gI (pc' := 71) (x := (mA M 14 (ovD (bif (decide ((mA M 0 1) = 2)) then (bsF M n 1 true) else none)))) rfl rfl rfl ((kA hM rfl (ovD_lt (obd_c bsF_lt obd_n) q25)).trans (congrFun (Fc.f14 (Fc.refl _)) _)) ?_
      refine x_goto (pc' := 80) rfl rfl ?_
      refine x_iadd (pc' := 81) (z := (0 + (mA M 14 (ovD (bif (decide ((mA M 0 1) = 2)) then (bsF M n 1 true) else none))))) rfl rfl rfl ?_
      refine x_istore (pc' := 83) (ls' := [_, _, _, _, _, _, _, _]) rfl rfl rfl rfl ?_
      refine x_iinc (pc' := 86) (y := 1) (ls' := [_, _, _, _, _, _, _, _]) rfl rfl rfl rfl rfl ?_
      refine x_goto (pc' := 20) rfl rfl ?_
      refine x_iload (pc' := 22) rfl rfl rfl ?_
      refine x_iconst (pc' := 23) rfl rfl ?_
      refine x_icmp (a' := 89) (pc' := 26) (z := false) rfl rfl rfl (by decide) (fun h => by cases h) (fun _ => ?_)
      refine x_aload_n (pc' := 27) rfl rfl rfl rfl rfl ?_
      refine x_aload_n (pc' := 28) rfl rfl rfl rfl rfl ?_
      refine x_iload_n (pc' := 29) rfl rfl rfl ?_
      refine x_iload (pc' := 31) rfl rfl rfl ?_
      refine x_cv (ls0 := [_, _, _, _, sJk, sJk]) (rest := []) rfl rfl rfl rfl rfl ?_
      refine x_aload_n (pc' := 1) rfl rfl rfl rfl rfl ?_
      refine x_gI (pc' := 4) (x := 4) rfl rfl rfl (kI_64_4 hc.1) ?_
      refine x_iconst (pc' := 5) rfl rfl ?_
      refine x_imul (pc' := 6) (z := 12) rfl rfl (by decide) ?_
      refine x_iload_n (pc' := 7) rfl rfl rfl ?_
      refine x_iadd (pc' := 8) (z := 13) rfl rfl (by decide) ?_
      refine x_iconst (pc' := 9) rfl rfl ?_
      refine x_imul (pc' := 10) (z := 39) rfl rfl (by decide) ?_
      refine x_iload_n (pc' := 11) rfl rfl rfl ?_
      refine x_iadd (pc' := 12) (z := 40) rfl rfl (by decide) ?_
      refine x_istore (pc' := 14) (ls' := [_, _, _, _, _, _]) rfl rfl rfl rfl ?_
      refine x_iload_n (pc' := 15) rfl rfl rfl ?_
      refine x_if (a' := 36) (pc' := 18) (z := false) rfl rfl rfl (by decide) (fun h => by cases h) (fun _ => ?_)
      refine x_iload_n (pc' := 19) rfl rfl rfl ?_
      refine x_iconst (pc' := 20) rfl rfl ?_
      refine x_icmp (a' := 36) (pc' := 23) (z := false) rfl rfl rfl (by decide) (fun h => by cases h) (fun _ => ?_)
      refine x_iload_n (pc' := 24) rfl rfl rfl ?_
      refine x_if (a' := 36) (pc' := 27) (z := false) rfl rfl rfl (by decide) (fun h => by cases h) (fun _ => ?_)
      refine x_iload_n (pc' := 28) rfl rfl rfl ?_
      refine x_iconst (pc' := 29) rfl rfl ?_
      refine x_icmp (a' := 36) (pc' := 32) (z := false) rfl rfl rfl (by decide) (fun h => by cases h) (fun _ => ?_)
      refine x_iconst (pc' := 33) rfl rfl ?_
      refine x_goto (pc' := 37) rfl rfl ?_
      refine x_istore (pc' := 39) (ls' := [_, _, _, _, _, _]) rfl rfl rfl rfl ?_
      refine x_iload (pc' := 41) rfl rfl rfl ?_
      refine x_if (a' := 67) (pc' := 44) (z := false) rfl rfl rfl (by decide) (fun h => by cases h) (fun _ => ?_)
      refine x_iload (pc' := 46) rfl rfl rfl ?_
      refine x_if (a' := 67) (pc' := 49) (z := false) rfl rfl rfl (by decide) (fun h => by cases h) (fun _ => ?_)
      refine x_iload (pc' := 51) rfl rfl rfl ?_
      refine x_getstatic (pc' := 54) rfl rfl (show 0 < sC t 28 from gst0 hc.1) ?_
      refine x_alen (pc' := 55) (N := 45) rfl rfl rfl (kN_28_0 hc.1) (?_ : X _ _ _ (.inl 45 :: _) _ _)
      refine x_icmp (a' := 67) (pc' := 58) (z := false) rfl rfl rfl (by decide) (fun h => by cases h) (fun _ => ?_)
      refine x_getstatic (pc' := 61) rfl rfl (show 0 < sC t 28 from gst0 hc.1) ?_
      refine x_iload (pc' := 63) rfl rfl rfl ?_
      refine x_iald (pc' := 64) (N := 45) (x := (-3)) rfl rfl rfl (kN_28_0 hc.1) (io_in (p := 40) (N := 45) (by decide) (by decide)) (Eq.trans (congrArg (sA t 28 0) (nn_io (p := 40) (by decide))) ((hc.1.2.2.2.2.2 40).1.trans rfl)) ?_
      refine x_goto (pc' := 68) rfl rfl ?_
      refine x_reti rfl rfl ?_
      refine sK_i (pc' := 34) rfl ?_
      refine x_istore (pc' := 36) (ls' := [_, _, _, _, _, _, _, _]) rfl rfl rfl rfl ?_
      refine x_iload (pc' := 38) rfl rfl rfl ?_
      refine x_if (a' := 83) (pc' := 41) (z := false) rfl rfl rfl (by decide) (fun h => by cases h) (fun _ => ?_)
      refine x_aload_n (pc' := 42) rfl rfl rfl rfl rfl ?_
      refine x_iload (pc' := 44) rfl rfl rfl ?_
      refine x_iload_n (pc' := 45) rfl rfl rfl ?_
      refine x_cv (ls0 := [_, _, _, sJk]) (rest := []) rfl rfl rfl rfl rfl ?_
      refine x_iload_n (pc' := 1) rfl rfl rfl ?_
      refine x_abs (pc' := 4) (z := 3) rfl rfl rfl (by decide) ?_
      refine x_iconst (pc' := 5) rfl rfl ?_
      refine x_isub (pc' := 6) (z := 2) rfl rfl (by decide) ?_
      refine x_istore_n (pc' := 7) (ls' := [_, _, _, _]) rfl rfl rfl rfl ?_
      refine x_iload_n (pc' := 8) rfl rfl rfl ?_
      refine x_if (a' := 33) (pc' := 11) (z := false) rfl rfl rfl (by decide) (fun h => by cases h) (fun _ => ?_)
      refine x_iload_n (pc' := 12) rfl rfl rfl ?_
      refine x_aload_n (pc' := 13) rfl rfl rfl rfl rfl ?_
      refine x_gR (pc' := 16) (r := (some 0)) rfl rfl rfl (kR_640_0 hc.1) ?_
      refine x_alen (pc' := 17) (N := 5) rfl rfl rfl (kN_24_0 hc.1) (?_ : X _ _ _ (.inl 5 :: _) _ _)
      refine x_icmp (a' := 33) (pc' := 20) (z := false) rfl rfl rfl (by decide) (fun h => by cases h) (fun _ => ?_)
      refine x_aload_n (pc' := 21) rfl rfl rfl rfl rfl ?_
      refine x_gR (pc' := 24) (r := (some 0)) rfl rfl rfl (kR_640_0 hc.1) ?_
      refine x_iload_n (pc' := 25) rfl rfl rfl ?_
      refine x_aald (pc' := 26) (N := 5) (k' := 1) (r := (some 2)) rfl rfl rfl (kN_24_0 hc.1) (io_in (p := 2) (N := 5) (by decide) (by decide)) (Eq.trans (congrArg (sE t 24 0) (nn_io (p := 2) (by decide))) (kB hc.1 (by decide))) ?_
      refine x_gI (pc' := 29) (x := (mA M 0 2)) rfl rfl rfl (kA hM rfl (show 2 < 5 by decide)) ?_
      refine x_iconst (pc' := 30) rfl rfl ?_
      have J40 : ((sK 79 81 45 [.inr (.inr (10, (some 0))), .inr (.inr (1, (some 4))), .inl 1, .inl (bz false), .inl (0 + (mA M 14 (ovD (bif (decide ((mA M 0 1) = 2)) then (bsF M n 1 true) else none)))), .inl 1, .inl (-3), .inr (.inr (8, (bif (decide ((mA M 0 1) = 2)) then (bsF M n 1 true) else none)))] [] Q) : sRs → sT → Prop) (.inl (some (.inr (.inr (8, (bif (decide ((mA M 0 2) = 2)) then (bsF M n 2 false) else none)))))) t := by
        refine sK_i (pc' := 48) rfl ?_
        refine x_astore (pc' := 50) (ls' := [_, _, _, _, _, _, _, _]) rfl rfl rfl rfl rfl ?_
        refine x_aload (pc' := 52) rfl rfl rfl rfl rfl ?_
        refine x_ifnonnull (a' := 59) (pc' := 55) rfl rfl rfl rfl (fun j1 q42 => ?_) (fun q42 => ?_)
        · refine x_iload (pc' := 61) rfl rfl rfl ?_
          refine x_iload (pc' := 63) rfl rfl rfl ?_
          refine x_if (a' := 74) (pc' := 66) (z := true) rfl rfl rfl (by decide) (fun _ => ?_) (fun h => by cases h)
          refine x_aload (pc' := 76) rfl rfl rfl rfl (ovD_s q42) ?_
          refine x_gI (pc' := 79) (x := (mA M 14 (ovD (bif (decide ((mA M 0 2) = 2)) then (bsF M n 2 false) else none)))) rfl rfl rfl ((kA hM rfl (ovD_lt (obd_c bsF_lt obd_n) q42)).trans (congrFun (Fc.f14 (Fc.refl _)) _)) ?_
          refine x_ineg (pc' := 80) rfl rfl rfl ?_
          refine x_iadd (pc' := 81) (z := ((0 + (mA M 14 (ovD (bif (decide ((mA M 0 1) = 2)) then (bsF M n 1 true) else none)))) + (-(mA M 14 (ovD (bif (decide ((mA M 0 2) = 2)) then (bsF M n 2 false) else none)))))) rfl rfl rfl ?_
          refine x_istore (pc' := 83) (ls' := [_, _, _, _, _, _, _, _]) rfl rfl rfl rfl ?_
          refine x_iinc (pc' := 86) (y := 2) (ls' := [_, _, _, _, _, _, _, _]) rfl rfl rfl rfl rfl ?_
          refine x_goto (pc' := 20) rfl rfl ?_
          refine x_iload (pc' := 22) rfl rfl rfl ?_
          refine x_iconst (pc' := 23) rfl rfl ?_
          refine x_icmp (a' := 89) (pc' := 26) (z := false) rfl rfl rfl (by decide) (fun h => by cases h) (fun _ => ?_)
          refine x_aload_n (pc' := 27) rfl rfl rfl rfl rfl ?_
          refine x_aload_n (pc' := 28) rfl rfl rfl rfl rfl ?_
          refine x_iload_n (pc' := 29) rfl rfl rfl ?_
          refine x_iload (pc' := 31) rfl rfl rfl ?_
          refine x_cv (ls0 := [_, _, _, _, sJk, sJk]) (rest := []) rfl rfl rfl rfl rfl ?_
          refine x_aload_n (pc' := 1) rfl rfl rfl rfl rfl ?_
          refine x_gI (pc' := 4) (x := 4) rfl rfl rfl (kI_64_4 hc.1) ?_
          refine x_iconst (pc' := 5) rfl rfl ?_
          refine x_imul (pc' := 6) (z := 12) rfl rfl (by decide) ?_
          refine x_iload_n (pc' := 7) rfl rfl rfl ?_
          refine x_iadd (pc' := 8) (z := 13) rfl rfl (by decide) ?_
          refine x_iconst (pc' := 9) rfl rfl ?_
          refine x_imul (pc' := 10) (z := 39) rfl rfl (by decide) ?_
          refine x_iload_n (pc' := 11) rfl rfl rfl ?_
          refine x_iadd (pc' := 12) (z := 41) rfl rfl (by decide) ?_
          refine x_istore (pc' := 14) (ls' := [_, _, _, _, _, _]) rfl rfl rfl rfl ?_
          refine x_iload_n (pc' := 15) rfl rfl rfl ?_
          refine x_if (a' := 36) (pc' := 18) (z := false) rfl rfl rfl (by decide) (fun h => by cases h) (fun _ => ?_)
          refine x_iload_n (pc' := 19) rfl rfl rfl ?_
          refine x_iconst (pc' := 20) rfl rfl ?_
          refine x_icmp (a' := 36) (pc' := 23) (z := false) rfl rfl rfl (by decide) (fun h => by cases h) (fun _ => ?_)
          refine x_iload_n (pc' := 24) rfl rfl rfl ?_
          refine x_if (a' := 36) (pc' := 27) (z := false) rfl rfl rfl (by decide) (fun h => by cases h) (fun _ => ?_)
          refine x_iload_n (pc' := 28) rfl rfl rfl ?_
          refine x_iconst (pc' := 29) rfl rfl ?_
          refine x_icmp (a' := 36) (pc' := 32) (z := false) rfl rfl rfl (by decide) (fun h => by cases h) (fun _ => ?_)
          refine x_iconst (pc' := 33) rfl rfl ?_
          refine x_goto (pc' := 37) rfl rfl ?_
          refine x_istore (pc' := 39) (ls' := [_, _, _, _, _, _]) rfl rfl rfl rfl ?_
          refine x_iload (pc' := 41) rfl rfl rfl ?_
          refine x_if (a' := 67) (pc' := 44) (z := false) rfl rfl rfl (by decide) (fun h => by cases h) (fun _ => ?_)
          refine x_iload (pc' := 46) rfl rfl rfl ?_
          refine x_if (a' := 67) (pc' := 49) (z := false) rfl rfl rfl (by decide) (fun h => by cases h) (fun _ => ?_)
          refine x_iload (pc' := 51) rfl rfl rfl ?_
          refine x_getstatic (pc' := 54) rfl rfl (show 0 < sC t 28 from gst0 hc.1) ?_
          refine x_alen (pc' := 55) (N := 45) rfl rfl rfl (kN_28_0 hc.1) (?_ : X _ _ _ (.inl 45 :: _) _ _)
          refine x_icmp (a' := 67) (pc' := 58) (z := false) rfl rfl rfl (by decide) (fun h => by cases h) (fun _ => ?_)
          refine x_getstatic (pc' := 61) rfl rfl (show 0 < sC t 28 from gst0 hc.1) ?_
          refine x_iload (pc' := 63) rfl rfl rfl ?_
          refine x_iald (pc' := 64) (N := 45) (x := 0) rfl rfl rfl (kN_28_0 hc.1) (io_in (p := 41) (N := 45) (by decide) (by decide)) (Eq.trans (congrArg (sA t 28 0) (nn_io (p := 41) (by decide))) ((hc.1.2.2.2.2.2 41).1.trans rfl)) ?_
          refine x_goto (pc' := 68) rfl rfl ?_
          refine x_reti rfl rfl ?_
          refine sK_i (pc' := 34) rfl ?_
          refine x_istore (pc' := 36) (ls' := [_, _, _, _, _, _, _, _]) rfl rfl rfl rfl ?_
          refine x_iload (pc' := 38) rfl rfl rfl ?_
          refine x_if (a' := 83) (pc' := 41) (z := true) rfl rfl rfl (by decide) (fun _ => ?_) (fun h => by cases h)
          refine x_iinc (pc' := 86) (y := 3) (ls' := [_, _, _, _, _, _, _, _]) rfl rfl rfl rfl rfl ?_
          refine x_goto (pc' := 20) rfl rfl ?_
          refine x_iload (pc' := 22) rfl rfl rfl ?_
          refine x_iconst (pc' := 23) rfl rfl ?_
          refine x_icmp (a' := 89) (pc' := 26) (z := true) rfl rfl rfl (by decide) (fun _ => ?_) (fun h => by cases h)
          refine x_iload (pc' := 91) rfl rfl rfl ?_
          refine x_reti rfl rfl ?_
          exact qv (by simp only [cp41fF, (isSome_s q25), (isSome_s q42), cd_t, cd_f]) (q )
        · refine x_sipush (pc' := 58) rfl rfl ?_
          refine x_reti rfl rfl ?_
          exact qv (by simp only [cp41fF, (isSome_s q25), (isSome_n q42), cd_t, cd_f]) (q )
      refine x_icmp (a' := 35) (pc' := 33) (z := decide ((mA M 0 2) = 2)) rfl rfl rfl rfl (fun q38 => ?_) (fun q38 => ?_)
      · refine x_aload_n (pc' := 36) rfl rfl rfl rfl rfl ?_
        refine x_gR (pc' := 39) (r := (some 0)) rfl rfl rfl (kR_640_0 hc.1) ?_
        refine x_iload_n (pc' := 40) rfl rfl rfl ?_
        refine x_aald (pc' := 41) (N := 5) (k' := 1) (r := (some 2)) rfl rfl rfl (kN_24_0 hc.1) (io_in (p := 2) (N := 5) (by decide) (by decide)) (Eq.trans (congrArg (sE t 24 0) (nn_io (p := 2) (by decide))) (kB hc.1 (by decide))) ?_
        refine x_iload_n (pc' := 42) rfl rfl rfl ?_
        refine x_if (a' := 57) (pc' := 45) (z := true) rfl rfl rfl (by decide) (fun _ => ?_) (fun h => by cases h)
        refine x_iload_n (pc' := 58) rfl rfl rfl ?_
        refine x_cv (ls0 := [_, _]) (rest := []) rfl rfl rfl rfl rfl ?_
        refine x_iload_n (pc' := 1) rfl rfl rfl ?_
        refine x_if (a' := 11) (pc' := 4) (z := true) rfl rfl rfl (by decide) (fun _ => ?_) (fun h => by cases h)
        refine x_aload_n (pc' := 12) rfl rfl rfl rfl rfl ?_
        refine x_gR (pc' := 15) (r := (bsF M n 2 false)) rfl rfl rfl (bs_70 hC (Fc.ri (Fc.refl _) hR) hM (by decide)) ?_
        refine x_reta rfl rfl ?_
        refine sK_i (pc' := 61) rfl ?_
        refine x_reta rfl rfl ?_
        ((try rw [q38] at J40); (try rw [q38]); (try simp only [cd_t, cd_f, nt_t, nt_f, an_t, an_f, or_t, or_f] at J40); (try simp only [cd_t, cd_f, nt_t, nt_f, an_t, an_f, or_t, or_f]); exact J40)
      · refine x_null (pc' := 34) rfl rfl rfl ?_
        refine x_reta rfl rfl ?_
        ((try rw [q38] at J40); (try rw [q38]); (try simp only [cd_t, cd_f, nt_t, nt_f, an_t, an_f, or_t, or_f] at J40); (try simp only [cd_t, cd_f, nt_t, nt_f, an_t, an_f, or_t, or_f]); exact J40)
    · refine x_sipush (pc' := 58) rfl rfl ?_
      refine x_reti rfl rfl ?_
      exact qv (by simp only [cp41fF, (isSome_n q25), cd_t, cd_f]) (q )
  refine x_icmp (a' := 35) (pc' := 33) (z := decide ((mA M 0 1) = 2)) rfl rfl rfl rfl (fun q20 => ?_) (fun q20 => ?_)
  · refine x_aload_n (pc' := 36) rfl rfl rfl rfl rfl ?_
    refine x_gR (pc' := 39) (r := (some 0)) rfl rfl rfl (kR_640_0 hc.1) ?_
    refine x_iload_n (pc' := 40) rfl rfl rfl ?_
    refine x_aald (pc' := 41) (N := 5) (k' := 1) (r := (some 1)) rfl rfl rfl (kN_24_0 hc.1) (io_in (p := 1) (N := 5) (by decide) (by decide)) (Eq.trans (congrArg (sE t 24 0) (nn_io (p := 1) (by decide))) (kB hc.1 (by decide))) ?_
    refine x_iload_n (pc' := 42) rfl rfl rfl ?_
    refine x_if (a' := 57) (pc' := 45) (z := false) rfl rfl rfl (by decide) (fun h => by cases h) (fun _ => ?_)
    refine x_iload_n (pc' := 46) rfl rfl rfl ?_
    refine x_if (a' := 53) (pc' := 49) (z := false) rfl rfl rfl (by decide) (fun h => by cases h) (fun _ => ?_)
    refine x_iconst (pc' := 50) rfl rfl ?_
    refine x_goto (pc' := 58) rfl rfl ?_
    refine x_cv (ls0 := [_, _]) (rest := []) rfl rfl rfl rfl rfl ?_
    refine x_iload_n (pc' := 1) rfl rfl rfl ?_
    refine x_if (a' := 11) (pc' := 4) (z := false) rfl rfl rfl (by decide) (fun h => by cases h) (fun _ => ?_)
    refine x_aload_n (pc' := 5) rfl rfl rfl rfl rfl ?_
    refine x_gR (pc' := 8) (r := (bsF M n 1 true)) rfl rfl rfl (bs_69 hC (Fc.ri (Fc.refl _) hR) hM (by decide)) ?_
    refine x_goto (pc' := 15) rfl rfl ?_
    refine x_reta rfl rfl ?_
    refine sK_i (pc' := 61) rfl ?_
    refine x_reta rfl rfl ?_
    ((try rw [q20] at J23); (try rw [q20]); (try simp only [cd_t, cd_f, nt_t, nt_f, an_t, an_f, or_t, or_f] at J23); (try simp only [cd_t, cd_f, nt_t, nt_f, an_t, an_f, or_t, or_f]); exact J23)
  · refine x_null (pc' := 34) rfl rfl rfl ?_
    refine x_reta rfl rfl ?_
    ((try rw [q20] at J23); (try rw [q20]); (try simp only [cd_t, cd_f, nt_t, nt_f, an_t, an_f, or_t, or_f] at J23); (try simp only [cd_t, cd_f, nt_t, nt_f, an_t, an_f, or_t, or_f]); exact J23)
def cp41tF (M : sM) (n : Nat) : Int32 := (bif (bif (decide ((mA M 0 1) = 2)) then (bsF M n 1 false) else none).isSome then (bif (bif (decide ((mA M 0 2) = 2)) then (bsF M n 2 true) else none).isSome then ((0 + (mA M 14 (ovD (bif (decide ((mA M 0 1) = 2)) then (bsF M n 1 false) else none)))) + (-(mA M 14 (ovD (bif (decide ((mA M 0 2) = 2)) then (bsF M n 2 true) else none))))) else (-10000)) else (-10000))
set_option maxHeartbeats 4000000 in
set_option maxRecDepth 10000 in
theorem c81_41t {t : sT} {Q : sRs → sT → Prop} {M : sM} {n : Nat} {T : Nat}
    (hM : Rl t M n T)
    (hc : Sf t M n T)
    (hR : Ri M n)
    (hC : rlC t M n)
    (q : Q (.inl (some (.inl (cp41tF M n)))) t) :
    X 81 0 [.inr (.inr (10, (some 0))), .inr (.inr (1, (some 4))), .inl 1, .inl (bz true), sJk, sJk, sJk, sJk] [] t Q := by
  refine x_aload_n (pc' := 1) rfl rfl rfl rfl rfl ?_
  refine x_aload_n (pc' := 2) rfl rfl rfl rfl rfl ?_
  refine x_iload_n (pc' := 3) rfl rfl rfl ?_
  refine x_iconst (pc' := 4) rfl rfl ?_
  refine x_cv (ls0 := [_, _, _, _, sJk, sJk]) (rest := []) rfl rfl rfl rfl rfl ?_
  refine x_aload_n (pc' := 1) rfl rfl rfl rfl rfl ?_
  refine x_gI (pc' := 4) (x := 4) rfl rfl rfl (kI_64_4 hc.1) ?_
  refine x_iconst (pc' := 5) rfl rfl ?_
  refine x_imul (pc' := 6) (z := 12) rfl rfl (by decide) ?_
  refine x_iload_n (pc' := 7) rfl rfl rfl ?_
  refine x_iadd (pc' := 8) (z := 13) rfl rfl (by decide) ?_
  refine x_iconst (pc' := 9) rfl rfl ?_
  refine x_imul (pc' := 10) (z := 39) rfl rfl (by decide) ?_
  refine x_iload_n (pc' := 11) rfl rfl rfl ?_
  refine x_iadd (pc' := 12) (z := 39) rfl rfl (by decide) ?_
  refine x_istore (pc' := 14) (ls' := [_, _, _, _, _, _]) rfl rfl rfl rfl ?_
  refine x_iload_n (pc' := 15) rfl rfl rfl ?_
  refine x_if (a' := 36) (pc' := 18) (z := false) rfl rfl rfl (by decide) (fun h => by cases h) (fun _ => ?_)
  refine x_iload_n (pc' := 19) rfl rfl rfl ?_
  refine x_iconst (pc' := 20) rfl rfl ?_
  refine x_icmp (a' := 36) (pc' := 23) (z := false) rfl rfl rfl (by decide) (fun h => by cases h) (fun _ => ?_)
  refine x_iload_n (pc' := 24) rfl rfl rfl ?_
  refine x_if (a' := 36) (pc' := 27) (z := false) rfl rfl rfl (by decide) (fun h => by cases h) (fun _ => ?_)
  refine x_iload_n (pc' := 28) rfl rfl rfl ?_
  refine x_iconst (pc' := 29) rfl rfl ?_
  refine x_icmp (a' := 36) (pc' := 32) (z := false) rfl rfl rfl (by decide) (fun h => by cases h) (fun _ => ?_)
  refine x_iconst (pc' := 33) rfl rfl ?_
  refine x_goto (pc' := 37) rfl rfl ?_
  refine x_istore (pc' := 39) (ls' := [_, _, _, _, _, _]) rfl rfl rfl rfl ?_
  refine x_iload (pc' := 41) rfl rfl rfl ?_
  refine x_if (a' := 67) (pc' := 44) (z := false) rfl rfl rfl (by decide) (fun h => by cases h) (fun _ => ?_)
  refine x_iload (pc' := 46) rfl rfl rfl ?_
  refine x_if (a' := 67) (pc' := 49) (z := false) rfl rfl rfl (by decide) (fun h => by cases h) (fun _ => ?_)
  refine x_iload (pc' := 51) rfl rfl rfl ?_
  refine x_getstatic (pc' := 54) rfl rfl (show 0 < sC t 28 from gst0 hc.1) ?_
  refine x_alen (pc' := 55) (N := 45) rfl rfl rfl (kN_28_0 hc.1) (?_ : X _ _ _ (.inl 45 :: _) _ _)
  refine x_icmp (a' := 67) (pc' := 58) (z := false) rfl rfl rfl (by decide) (fun h => by cases h) (fun _ => ?_)
  refine x_getstatic (pc' := 61) rfl rfl (show 0 < sC t 28 from gst0 hc.1) ?_
  refine x_iload (pc' := 63) rfl rfl rfl ?_
  refine x_iald (pc' := 64) (N := 45) (x := 2) rfl rfl rfl (kN_28_0 hc.1) (io_in (p := 39) (N := 45) (by decide) (by decide)) (Eq.trans (congrArg (sA t 28 0) (nn_io (p := 39) (by decide))) ((hc.1.2.2.2.2.2 39).1.trans rfl)) ?_
  refine x_goto (pc' := 68) rfl rfl ?_
  refine x_reti rfl rfl ?_
  refine sK_i (pc' := 7) rfl ?_
  refine x_if (a' := 14) (pc' := 10) (z := true) rfl rfl rfl (by decide) (fun _ => ?_) (fun h => by cases h)
  refine x_iconst (pc' := 15) rfl rfl ?_
  refine x_istore (pc' := 17) (ls' := [_, _, _, _, _, _, _, _]) rfl rfl rfl rfl ?_
  refine x_iconst (pc' := 18) rfl rfl ?_
  refine x_istore (pc' := 20) (ls' := [_, _, _, _, _, _, _, _]) rfl rfl rfl rfl ?_
  refine x_iload (pc' := 22) rfl rfl rfl ?_
  refine x_iconst (pc' := 23) rfl rfl ?_
  refine x_icmp (a' := 89) (pc' := 26) (z := false) rfl rfl rfl (by decide) (fun h => by cases h) (fun _ => ?_)
  refine x_aload_n (pc' := 27) rfl rfl rfl rfl rfl ?_
  refine x_aload_n (pc' := 28) rfl rfl rfl rfl rfl ?_
  refine x_iload_n (pc' := 29) rfl rfl rfl ?_
  refine x_iload (pc' := 31) rfl rfl rfl ?_
  refine x_cv (ls0 := [_, _, _, _, sJk, sJk]) (rest := []) rfl rfl rfl rfl rfl ?_
  refine x_aload_n (pc' := 1) rfl rfl rfl rfl rfl ?_
  refine x_gI (pc' := 4) (x := 4) rfl rfl rfl (kI_64_4 hc.1) ?_
  refine x_iconst (pc' := 5) rfl rfl ?_
  refine x_imul (pc' := 6) (z := 12) rfl rfl (by decide) ?_
  refine x_iload_n (pc' := 7) rfl rfl rfl ?_
  refine x_iadd (pc' := 8) (z := 13) rfl rfl (by decide) ?_
  refine x_iconst (pc' := 9) rfl rfl ?_
  refine x_imul (pc' := 10) (z := 39) rfl rfl (by decide) ?_
  refine x_iload_n (pc' := 11) rfl rfl rfl ?_
  refine x_iadd (pc' := 12) (z := 39) rfl rfl (by decide) ?_
  refine x_istore (pc' := 14) (ls' := [_, _, _, _, _, _]) rfl rfl rfl rfl ?_
  refine x_iload_n (pc' := 15) rfl rfl rfl ?_
  refine x_if (a' := 36) (pc' := 18) (z := false) rfl rfl rfl (by decide) (fun h => by cases h) (fun _ => ?_)
  refine x_iload_n (pc' := 19) rfl rfl rfl ?_
  refine x_iconst (pc' := 20) rfl rfl ?_
  refine x_icmp (a' := 36) (pc' := 23) (z := false) rfl rfl rfl (by decide) (fun h => by cases h) (fun _ => ?_)
  refine x_iload_n (pc' := 24) rfl rfl rfl ?_
  refine x_if (a' := 36) (pc' := 27) (z := false) rfl rfl rfl (by decide) (fun h => by cases h) (fun _ => ?_)
  refine x_iload_n (pc' := 28) rfl rfl rfl ?_
  refine x_iconst (pc' := 29) rfl rfl ?_
  refine x_icmp (a' := 36) (pc' := 32) (z := false) rfl rfl rfl (by decide) (fun h => by cases h) (fun _ => ?_)
  refine x_iconst (pc' := 33) rfl rfl ?_
  refine x_goto (pc' := 37) rfl rfl ?_
  refine x_istore (pc' := 39) (ls' := [_, _, _, _, _, _]) rfl rfl rfl rfl ?_
  refine x_iload (pc' := 41) rfl rfl rfl ?_
  refine x_if (a' := 67) (pc' := 44) (z := false) rfl rfl rfl (by decide) (fun h => by cases h) (fun _ => ?_)
  refine x_iload (pc' := 46) rfl rfl rfl ?_
  refine x_if (a' := 67) (pc' := 49) (z := false) rfl rfl rfl (by decide) (fun h => by cases h) (fun _ => ?_)
  refine x_iload (pc' := 51) rfl rfl rfl ?_
  refine x_getstatic (pc' := 54) rfl rfl (show 0 < sC t 28 from gst0 hc.1) ?_
  refine x_alen (pc' := 55) (N := 45) rfl rfl rfl (kN_28_0 hc.1) (?_ : X _ _ _ (.inl 45 :: _) _ _)
  refine x_icmp (a' := 67) (pc' := 58) (z := false) rfl rfl rfl (by decide) (fun h => by cases h) (fun _ => ?_)
  refine x_getstatic (pc' := 61) rfl rfl (show 0 < sC t 28 from gst0 hc.1) ?_
  refine x_iload (pc' := 63) rfl rfl rfl ?_
  refine x_iald (pc' := 64) (N := 45) (x := 2) rfl rfl rfl (kN_28_0 hc.1) (io_in (p := 39) (N := 45) (by decide) (by decide)) (Eq.trans (congrArg (sA t 28 0) (nn_io (p := 39) (by decide))) ((hc.1.2.2.2.2.2 39).1.trans rfl)) ?_
  refine x_goto (pc' := 68) rfl rfl ?_
  refine x_reti rfl rfl ?_
  refine sK_i (pc' := 34) rfl ?_
  refine x_istore (pc' := 36) (ls' := [_, _, _, _, _, _, _, _]) rfl rfl rfl rfl ?_
  refine x_iload (pc' := 38) rfl rfl rfl ?_
  refine x_if (a' := 83) (pc' := 41) (z := false) rfl rfl rfl (by decide) (fun h => by cases h) (fun _ => ?_)
  refine x_aload_n (pc' := 42) rfl rfl rfl rfl rfl ?_
  refine x_iload (pc' := 44) rfl rfl rfl ?_
  refine x_iload_n (pc' := 45) rfl rfl rfl ?_
  refine x_cv (ls0 := [_, _, _, sJk]) (rest := []) rfl rfl rfl rfl rfl ?_
  refine x_iload_n (pc' := 1) rfl rfl rfl ?_
  refine x_abs (pc' := 4) (z := 2) rfl rfl rfl (by decide) ?_
  refine x_iconst (pc' := 5) rfl rfl ?_
  refine x_isub (pc' := 6) (z := 1) rfl rfl (by decide) ?_
  refine x_istore_n (pc' := 7) (ls' := [_, _, _, _]) rfl rfl rfl rfl ?_
  refine x_iload_n (pc' := 8) rfl rfl rfl ?_
  refine x_if (a' := 33) (pc' := 11) (z := false) rfl rfl rfl (by decide) (fun h => by cases h) (fun _ => ?_)
  refine x_iload_n (pc' := 12) rfl rfl rfl ?_
  refine x_aload_n (pc' := 13) rfl rfl rfl rfl rfl ?_
  refine x_gR (pc' := 16) (r := (some 0)) rfl rfl rfl (kR_640_0 hc.1) ?_
  refine x_alen (pc' := 17) (N := 5) rfl rfl rfl (kN_24_0 hc.1) (?_ : X _ _ _ (.inl 5 :: _) _ _)
  refine x_icmp (a' := 33) (pc' := 20) (z := false) rfl rfl rfl (by decide) (fun h => by cases h) (fun _ => ?_)
  refine x_aload_n (pc' := 21) rfl rfl rfl rfl rfl ?_
  refine x_gR (pc' := 24) (r := (some 0)) rfl rfl rfl (kR_640_0 hc.1) ?_
  refine x_iload_n (pc' := 25) rfl rfl rfl ?_
  refine x_aald (pc' := 26) (N := 5) (k' := 1) (r := (some 1)) rfl rfl rfl (kN_24_0 hc.1) (io_in (p := 1) (N := 5) (by decide) (by decide)) (Eq.trans (congrArg (sE t 24 0) (nn_io (p := 1) (by decide))) (kB hc.1 (by decide))) ?_
  refine x_gI (pc' := 29) (x := (mA M 0 1)) rfl rfl rfl (kA hM rfl (show 1 < 5 by decide)) ?_
  refine x_iconst (pc' := 30) rfl rfl ?_
  have J23 : ((sK 79 81 45 [.inr (.inr (10, (some 0))), .inr (.inr (1, (some 4))), .inl 1, .inl (bz true), .inl 0, .inl 0, .inl 2, sJk] [] Q) : sRs → sT → Prop) (.inl (some (.inr (.inr (8, (bif (decide ((mA M 0 1) = 2)) then (bsF M n 1 false) else none)))))) t := by
    refine sK_i (pc' := 48) rfl ?_
    refine x_astore (pc' := 50) (ls' := [_, _, _, _, _, _, _, _]) rfl rfl rfl rfl rfl ?_
    refine x_aload (pc' := 52) rfl rfl rfl rfl rfl ?_
    refine x_ifnonnull (a' := 59) (pc' := 55) rfl rfl rfl rfl (fun j0 q25 => ?_) (fun q25 => ?_)
    · refine x_iload (pc' := 61) rfl rfl rfl ?_
      refine x_iload (pc' := 63) rfl rfl rfl ?_
      refine x_if (a' := 74) (pc' := 66) (z := false) rfl rfl rfl (by decide) (fun h => by cases h) (fun _ => ?_)
      refine x_aload (pc' := 68) rfl rfl rfl rfl (ovD_s q25) ?_
      refine x_gI (pc' := 71) (x := (mA M 14 (ovD (bif (decide ((mA M 0 1) = 2)) then (bsF M n 1 false) else none)))) rfl rfl rfl ((kA hM rfl (ovD_lt (obd_c bsF_lt obd_n) q25)).trans (congrFun (Fc.f14 (Fc.refl _)) _)) ?_
      refine x_goto (pc' := 80) rfl rfl ?_
      refine x_iadd (pc' := 81) (z := (0 + (mA M 14 (ovD (bif (decide ((mA M 0 1) = 2)) then (bsF M n 1 false) else none))))) rfl rfl rfl ?_
      refine x_istore (pc' := 83) (ls' := [_, _, _, _, _, _, _, _]) rfl rfl rfl rfl ?_
      refine x_iinc (pc' := 86) (y := 1) (ls' := [_, _, _, _, _, _, _, _]) rfl rfl rfl rfl rfl ?_
      refine x_goto (pc' := 20) rfl rfl ?_
      refine x_iload (pc' := 22) rfl rfl rfl ?_
      refine x_iconst (pc' := 23) rfl rfl ?_
      refine x_icmp (a' := 89) (pc' := 26) (z := false) rfl rfl rfl (by decide) (fun h => by cases h) (fun _ => ?_)
      refine x_aload_n (pc' := 27) rfl rfl rfl rfl rfl ?_
      refine x_aload_n (pc' := 28) rfl rfl rfl rfl rfl ?_
      refine x_iload_n (pc' := 29) rfl rfl rfl ?_
      refine x_iload (pc' := 31) rfl rfl rfl ?_
      refine x_cv (ls0 := [_, _, _, _, sJk, sJk]) (rest := []) rfl rfl rfl rfl rfl ?_
      refine x_aload_n (pc' := 1) rfl rfl rfl rfl rfl ?_
      refine x_gI (pc' := 4) (x := 4) rfl rfl rfl (kI_64_4 hc.1) ?_
      refine x_iconst (pc' := 5) rfl rfl ?_
      refine x_imul (pc' := 6) (z := 12) rfl rfl (by decide) ?_
      refine x_iload_n (pc' := 7) rfl rfl rfl ?_
      refine x_iadd (pc' := 8) (z := 13) rfl rfl (by decide) ?_
      refine x_iconst (pc' := 9) rfl rfl ?_
      refine x_imul (pc' := 10) (z := 39) rfl rfl (by decide) ?_
      refine x_iload_n (pc' := 11) rfl rfl rfl ?_
      refine x_iadd (pc' := 12) (z := 40) rfl rfl (by decide) ?_
      refine x_istore (pc' := 14) (ls' := [_, _, _, _, _, _]) rfl rfl rfl rfl ?_
      refine x_iload_n (pc' := 15) rfl rfl rfl ?_
      refine x_if (a' := 36) (pc' := 18) (z := false) rfl rfl rfl (by decide) (fun h => by cases h) (fun _ => ?_)
      refine x_iload_n (pc' := 19) rfl rfl rfl ?_
      refine x_iconst (pc' := 20) rfl rfl ?_
      refine x_icmp (a' := 36) (pc' := 23) (z := false) rfl rfl rfl (by decide) (fun h => by cases h) (fun _ => ?_)
      refine x_iload_n (pc' := 24) rfl rfl rfl ?_
      refine x_if (a' := 36) (pc' := 27) (z := false) rfl rfl rfl (by decide) (fun h => by cases h) (fun _ => ?_)
      refine x_iload_n (pc' := 28) rfl rfl rfl ?_
      refine x_iconst (pc' := 29) rfl rfl ?_
      refine x_icmp (a' := 36) (pc' := 32) (z := false) rfl rfl rfl (by decide) (fun h => by cases h) (fun _ => ?_)
      refine x_iconst (pc' := 33) rfl rfl ?_
      refine x_goto (pc' := 37) rfl rfl ?_
      refine x_istore (pc' := 39) (ls' := [_, _, _, _, _, _]) rfl rfl rfl rfl ?_
      refine x_iload (pc' := 41) rfl rfl rfl ?_
      refine x_if (a' := 67) (pc' := 44) (z := false) rfl rfl rfl (by decide) (fun h => by cases h) (fun _ => ?_)
      refine x_iload (pc' := 46) rfl rfl rfl ?_
      refine x_if (a' := 67) (pc' := 49) (z := false) rfl rfl rfl (by decide) (fun h => by cases h) (fun _ => ?_)
      refine x_iload (pc' := 51) rfl rfl rfl ?_
      refine x_getstatic (pc' := 54) rfl rfl (show 0 < sC t 28 from gst0 hc.1) ?_
      refine x_alen (pc' := 55) (N := 45) rfl rfl rfl (kN_28_0 hc.1) (?_ : X _ _ _ (.inl 45 :: _) _ _)
      refine x_icmp (a' := 67) (pc' := 58) (z := false) rfl rfl rfl (by decide) (fun h => by cases h) (fun _ => ?_)
      refine x_getstatic (pc' := 61) rfl rfl (show 0 < sC t 28 from gst0 hc.1) ?_
      refine x_iload (pc' := 63) rfl rfl rfl ?_
      refine x_iald (pc' := 64) (N := 45) (x := (-3)) rfl rfl rfl (kN_28_0 hc.1) (io_in (p := 40) (N := 45) (by decide) (by decide)) (Eq.trans (congrArg (sA t 28 0) (nn_io (p := 40) (by decide))) ((hc.1.2.2.2.2.2 40).1.trans rfl)) ?_
      refine x_goto (pc' := 68) rfl rfl ?_
      refine x_reti rfl rfl ?_
      refine sK_i (pc' := 34) rfl ?_
      refine x_istore (pc' := 36) (ls' := [_, _, _, _, _, _, _, _]) rfl rfl rfl rfl ?_
      refine x_iload (pc' := 38) rfl rfl rfl ?_
      refine x_if (a' := 83) (pc' := 41) (z := false) rfl rfl rfl (by decide) (fun h => by cases h) (fun _ => ?_)
      refine x_aload_n (pc' := 42) rfl rfl rfl rfl rfl ?_
      refine x_iload (pc' := 44) rfl rfl rfl ?_
      refine x_iload_n (pc' := 45) rfl rfl rfl ?_
      refine x_cv (ls0 := [_, _, _, sJk]) (rest := []) rfl rfl rfl rfl rfl ?_
      refine x_iload_n (pc' := 1) rfl rfl rfl ?_
      refine x_abs (pc' := 4) (z := 3) rfl rfl rfl (by decide) ?_
      refine x_iconst (pc' := 5) rfl rfl ?_
      refine x_isub (pc' := 6) (z := 2) rfl rfl (by decide) ?_
      refine x_istore_n (pc' := 7) (ls' := [_, _, _, _]) rfl rfl rfl rfl ?_
      refine x_iload_n (pc' := 8) rfl rfl rfl ?_
      refine x_if (a' := 33) (pc' := 11) (z := false) rfl rfl rfl (by decide) (fun h => by cases h) (fun _ => ?_)
      refine x_iload_n (pc' := 12) rfl rfl rfl ?_
      refine x_aload_n (pc' := 13) rfl rfl rfl rfl rfl ?_
      refine x_gR (pc' := 16) (r := (some 0)) rfl rfl rfl (kR_640_0 hc.1) ?_
      refine x_alen (pc' := 17) (N := 5) rfl rfl rfl (kN_24_0 hc.1) (?_ : X _ _ _ (.inl 5 :: _) _ _)
      refine x_icmp (a' := 33) (pc' := 20) (z := false) rfl rfl rfl (by decide) (fun h => by cases h) (fun _ => ?_)
      refine x_aload_n (pc' := 21) rfl rfl rfl rfl rfl ?_
      refine x_gR (pc' := 24) (r := (some 0)) rfl rfl rfl (kR_640_0 hc.1) ?_
      refine x_iload_n (pc' := 25) rfl rfl rfl ?_
      refine x_aald (pc' := 26) (N := 5) (k' := 1) (r := (some 2)) rfl rfl rfl (kN_24_0 hc.1) (io_in (p := 2) (N := 5) (by decide) (by decide)) (Eq.trans (congrArg (sE t 24 0) (nn_io (p := 2) (by decide))) (kB hc.1 (by decide))) ?_
      refine x_gI (pc' := 29) (x := (mA M 0 2)) rfl rfl rfl (kA hM rfl (show 2 < 5 by decide)) ?_
      refine x_iconst (pc' := 30) rfl rfl ?_
      have J40 : ((sK 79 81 45 [.inr (.inr (10, (some 0))), .inr (.inr (1, (some 4))), .inl 1, .inl (bz true), .inl (0 + (mA M 14 (ovD (bif (decide ((mA M 0 1) = 2)) then (bsF M n 1 false) else none)))), .inl 1, .inl (-3), .inr (.inr (8, (bif (decide ((mA M 0 1) = 2)) then (bsF M n 1 false) else none)))] [] Q) : sRs → sT → Prop) (.inl (some (.inr (.inr (8, (bif (decide ((mA M 0 2) = 2)) then (bsF M n 2 true) else none)))))) t := by
        refine sK_i (pc' := 48) rfl ?_
        refine x_astore (pc' := 50) (ls' := [_, _, _, _, _, _, _, _]) rfl rfl rfl rfl rfl ?_
        refine x_aload (pc' := 52) rfl rfl rfl rfl rfl ?_
        refine x_ifnonnull (a' := 59) (pc' := 55) rfl rfl rfl rfl (fun j1 q42 => ?_) (fun q42 => ?_)
        · refine x_iload (pc' := 61) rfl rfl rfl ?_
          refine x_iload (pc' := 63) rfl rfl rfl ?_
          refine x_if (a' := 74) (pc' := 66) (z := true) rfl rfl rfl (by decide) (fun _ => ?_) (fun h => by cases h)
          refine x_aload (pc' := 76) rfl rfl rfl rfl (ovD_s q42) ?_
          refine x_gI (pc' := 79) (x := (mA M 14 (ovD (bif (decide ((mA M 0 2) = 2)) then (bsF M n 2 true) else none)))) rfl rfl rfl ((kA hM rfl (ovD_lt (obd_c bsF_lt obd_n) q42)).trans (congrFun (Fc.f14 (Fc.refl _)) _)) ?_
          refine x_ineg (pc' := 80) rfl rfl rfl ?_
          refine x_iadd (pc' := 81) (z := ((0 + (mA M 14 (ovD (bif (decide ((mA M 0 1) = 2)) then (bsF M n 1 false) else none)))) + (-(mA M 14 (ovD (bif (decide ((mA M 0 2) = 2)) then (bsF M n 2 true) else none)))))) rfl rfl rfl ?_
          refine x_istore (pc' := 83) (ls' := [_, _, _, _, _, _, _, _]) rfl rfl rfl rfl ?_
          refine x_iinc (pc' := 86) (y := 2) (ls' := [_, _, _, _, _, _, _, _]) rfl rfl rfl rfl rfl ?_
          refine x_goto (pc' := 20) rfl rfl ?_
          refine x_iload (pc' := 22) rfl rfl rfl ?_
          refine x_iconst (pc' := 23) rfl rfl ?_
          refine x_icmp (a' := 89) (pc' := 26) (z := false) rfl rfl rfl (by decide) (fun h => by cases h) (fun _ => ?_)
          refine x_aload_n (pc' := 27) rfl rfl rfl rfl rfl ?_
          refine x_aload_n (pc' := 28) rfl rfl rfl rfl rfl ?_
          refine x_iload_n (pc' := 29) rfl rfl rfl ?_
          refine x_iload (pc' := 31) rfl rfl rfl ?_
          refine x_cv (ls0 := [_, _, _, _, sJk, sJk]) (rest := []) rfl rfl rfl rfl rfl ?_
          refine x_aload_n (pc' := 1) rfl rfl rfl rfl rfl ?_
          refine x_gI (pc' := 4) (x := 4) rfl rfl rfl (kI_64_4 hc.1) ?_
          refine x_iconst (pc' := 5) rfl rfl ?_
          refine x_imul (pc' := 6) (z := 12) rfl rfl (by decide) ?_
          refine x_iload_n (pc' := 7) rfl rfl rfl ?_
          refine x_iadd (pc' := 8) (z := 13) rfl rfl (by decide) ?_
          refine x_iconst (pc' := 9) rfl rfl ?_
          refine x_imul (pc' := 10) (z := 39) rfl rfl (by decide) ?_
          refine x_iload_n (pc' := 11) rfl rfl rfl ?_
          refine x_iadd (pc' := 12) (z := 41) rfl rfl (by decide) ?_
          refine x_istore (pc' := 14) (ls' := [_, _, _, _, _, _]) rfl rfl rfl rfl ?_
          refine x_iload_n (pc' := 15) rfl rfl rfl ?_
          refine x_if (a' := 36) (pc' := 18) (z := false) rfl rfl rfl (by decide) (fun h => by cases h) (fun _ => ?_)
          refine x_iload_n (pc' := 19) rfl rfl rfl ?_
          refine x_iconst (pc' := 20) rfl rfl ?_
          refine x_icmp (a' := 36) (pc' := 23) (z := false) rfl rfl rfl (by decide) (fun h => by cases h) (fun _ => ?_)
          refine x_iload_n (pc' := 24) rfl rfl rfl ?_
          refine x_if (a' := 36) (pc' := 27) (z := false) rfl rfl rfl (by decide) (fun h => by cases h) (fun _ => ?_)
          refine x_iload_n (pc' := 28) rfl rfl rfl ?_
          refine x_iconst (pc' := 29) rfl rfl ?_
          refine x_icmp (a' := 36) (pc' := 32) (z := false) rfl rfl rfl (by decide) (fun h => by cases h) (fun _ => ?_)
          refine x_iconst (pc' := 33) rfl rfl ?_
          refine x_goto (pc' := 37) rfl rfl ?_
          refine x_istore (pc' := 39) (ls' := [_, _, _, _, _, _]) rfl rfl rfl rfl ?_
          refine x_iload (pc' := 41) rfl rfl rfl ?_
          refine x_if (a' := 67) (pc' := 44) (z := false) rfl rfl rfl (by decide) (fun h => by cases h) (fun _ => ?_)
          refine x_iload (pc' := 46) rfl rfl rfl ?_
          refine x_if (a' := 67) (pc' := 49) (z := false) rfl rfl rfl (by decide) (fun h => by cases h) (fun _ => ?_)
          refine x_iload (pc' := 51) rfl rfl rfl ?_
          refine x_getstatic (pc' := 54) rfl rfl (show 0 < sC t 28 from gst0 hc.1) ?_
          refine x_alen (pc' := 55) (N := 45) rfl rfl rfl (kN_28_0 hc.1) (?_ : X _ _ _ (.inl 45 :: _) _ _)
          refine x_icmp (a' := 67) (pc' := 58) (z := false) rfl rfl rfl (by decide) (fun h => by cases h) (fun _ => ?_)
          refine x_getstatic (pc' := 61) rfl rfl (show 0 < sC t 28 from gst0 hc.1) ?_
          refine x_iload (pc' := 63) rfl rfl rfl ?_
          refine x_iald (pc' := 64) (N := 45) (x := 0) rfl rfl rfl (kN_28_0 hc.1) (io_in (p := 41) (N := 45) (by decide) (by decide)) (Eq.trans (congrArg (sA t 28 0) (nn_io (p := 41) (by decide))) ((hc.1.2.2.2.2.2 41).1.trans rfl)) ?_
          refine x_goto (pc' := 68) rfl rfl ?_
          refine x_reti rfl rfl ?_
          refine sK_i (pc' := 34) rfl ?_
          refine x_istore (pc' := 36) (ls' := [_, _, _, _, _, _, _, _]) rfl rfl rfl rfl ?_
          refine x_iload (pc' := 38) rfl rfl rfl ?_
          refine x_if (a' := 83) (pc' := 41) (z := true) rfl rfl rfl (by decide) (fun _ => ?_) (fun h => by cases h)
          refine x_iinc (pc' := 86) (y := 3) (ls' := [_, _, _, _, _, _, _, _]) rfl rfl rfl rfl rfl ?_
          refine x_goto (pc' := 20) rfl rfl ?_
          refine x_iload (pc' := 22) rfl rfl rfl ?_
          refine x_iconst (pc' := 23) rfl rfl ?_
          refine x_icmp (a' := 89) (pc' := 26) (z := true) rfl rfl rfl (by decide) (fun _ => ?_) (fun h => by cases h)
          refine x_iload (pc' := 91) rfl rfl rfl ?_
          refine x_reti rfl rfl ?_
          exact qv (by simp only [cp41tF, (isSome_s q25), (isSome_s q42), cd_t, cd_f]) (q )
        · refine x_sipush (pc' := 58) rfl rfl ?_
          refine x_reti rfl rfl ?_
          exact qv (by simp only [cp41tF, (isSome_s q25), (isSome_n q42), cd_t, cd_f]) (q )
      refine x_icmp (a' := 35) (pc' := 33) (z := decide ((mA M 0 2) = 2)) rfl rfl rfl rfl (fun q38 => ?_) (fun q38 => ?_)
      · refine x_aload_n (pc' := 36) rfl rfl rfl rfl rfl ?_
        refine x_gR (pc' := 39) (r := (some 0)) rfl rfl rfl (kR_640_0 hc.1) ?_
        refine x_iload_n (pc' := 40) rfl rfl rfl ?_
        refine x_aald (pc' := 41) (N := 5) (k' := 1) (r := (some 2)) rfl rfl rfl (kN_24_0 hc.1) (io_in (p := 2) (N := 5) (by decide) (by decide)) (Eq.trans (congrArg (sE t 24 0) (nn_io (p := 2) (by decide))) (kB hc.1 (by decide))) ?_
        refine x_iload_n (pc' := 42) rfl rfl rfl ?_
        refine x_if (a' := 57) (pc' := 45) (z := true) rfl rfl rfl (by decide) (fun _ => ?_) (fun h => by cases h)
        refine x_iload_n (pc' := 58) rfl rfl rfl ?_
        refine x_cv (ls0 := [_, _]) (rest := []) rfl rfl rfl rfl rfl ?_
        refine x_iload_n (pc' := 1) rfl rfl rfl ?_
        refine x_if (a' := 11) (pc' := 4) (z := false) rfl rfl rfl (by decide) (fun h => by cases h) (fun _ => ?_)
        refine x_aload_n (pc' := 5) rfl rfl rfl rfl rfl ?_
        refine x_gR (pc' := 8) (r := (bsF M n 2 true)) rfl rfl rfl (bs_69 hC (Fc.ri (Fc.refl _) hR) hM (by decide)) ?_
        refine x_goto (pc' := 15) rfl rfl ?_
        refine x_reta rfl rfl ?_
        refine sK_i (pc' := 61) rfl ?_
        refine x_reta rfl rfl ?_
        ((try rw [q38] at J40); (try rw [q38]); (try simp only [cd_t, cd_f, nt_t, nt_f, an_t, an_f, or_t, or_f] at J40); (try simp only [cd_t, cd_f, nt_t, nt_f, an_t, an_f, or_t, or_f]); exact J40)
      · refine x_null (pc' := 34) rfl rfl rfl ?_
        refine x_reta rfl rfl ?_
        ((try rw [q38] at J40); (try rw [q38]); (try simp only [cd_t, cd_f, nt_t, nt_f, an_t, an_f, or_t, or_f] at J40); (try simp only [cd_t, cd_f, nt_t, nt_f, an_t, an_f, or_t, or_f]); exact J40)
    · refine x_sipush (pc' := 58) rfl rfl ?_
      refine x_reti rfl rfl ?_
      exact qv (by simp only [cp41tF, (isSome_n q25), cd_t, cd_f]) (q )
  refine x_icmp (a' := 35) (pc' := 33) (z := decide ((mA M 0 1) = 2)) rfl rfl rfl rfl (fun q20 => ?_) (fun q20 => ?_)
  · refine x_aload_n (pc' := 36) rfl rfl rfl rfl rfl ?_
    refine x_gR (pc' := 39) (r := (some 0)) rfl rfl rfl (kR_640_0 hc.1) ?_
    refine x_iload_n (pc' := 40) rfl rfl rfl ?_
    refine x_aald (pc' := 41) (N := 5) (k' := 1) (r := (some 1)) rfl rfl rfl (kN_24_0 hc.1) (io_in (p := 1) (N := 5) (by decide) (by decide)) (Eq.trans (congrArg (sE t 24 0) (nn_io (p := 1) (by decide))) (kB hc.1 (by decide))) ?_
    refine x_iload_n (pc' := 42) rfl rfl rfl ?_
    refine x_if (a' := 57) (pc' := 45) (z := false) rfl rfl rfl (by decide) (fun h => by cases h) (fun _ => ?_)
    refine x_iload_n (pc' := 46) rfl rfl rfl ?_
    refine x_if (a' := 53) (pc' := 49) (z := true) rfl rfl rfl (by decide) (fun _ => ?_) (fun h => by cases h)
    refine x_iconst (pc' := 54) rfl rfl ?_
    refine x_goto (pc' := 58) rfl rfl ?_
    refine x_cv (ls0 := [_, _]) (rest := []) rfl rfl rfl rfl rfl ?_
    refine x_iload_n (pc' := 1) rfl rfl rfl ?_
    refine x_if (a' := 11) (pc' := 4) (z := true) rfl rfl rfl (by decide) (fun _ => ?_) (fun h => by cases h)
    refine x_aload_n (pc' := 12) rfl rfl rfl rfl rfl ?_
    refine x_gR (pc' := 15) (r := (bsF M n 1 false)) rfl rfl rfl (bs_70 hC (Fc.ri (Fc.refl _) hR) hM (by decide)) ?_
    refine x_reta rfl rfl ?_
    refine sK_i (pc' := 61) rfl ?_
    refine x_reta rfl rfl ?_
    ((try rw [q20] at J23); (try rw [q20]); (try simp only [cd_t, cd_f, nt_t, nt_f, an_t, an_f, or_t, or_f] at J23); (try simp only [cd_t, cd_f, nt_t, nt_f, an_t, an_f, or_t, or_f]); exact J23)
  · refine x_null (pc' := 34) rfl rfl rfl ?_
    refine x_reta rfl rfl ?_
    ((try rw [q20] at J23); (try rw [q20]); (try simp only [cd_t, cd_f, nt_t, nt_f, an_t, an_f, or_t, or_f] at J23); (try simp only [cd_t, cd_f, nt_t, nt_f, an_t, an_f, or_t, or_f]); exact J23)
def cp42fF (M : sM) (n : Nat) : Int32 := (-10000)
set_option maxHeartbeats 4000000 in
set_option maxRecDepth 10000 in
theorem c81_42f {t : sT} {Q : sRs → sT → Prop} {M : sM} {n : Nat} {T : Nat}
    (hM : Rl t M n T)
    (hc : Sf t M n T)
    (hR : Ri M n)
    (hC : rlC t M n)
    (q : Q (.inl (some (.inl (cp42fF M n)))) t) :
    X 81 0 [.inr (.inr (10, (some 0))), .inr (.inr (1, (some 4))), .inl 2, .inl (bz false), sJk, sJk, sJk, sJk] [] t Q := by
  refine x_aload_n (pc' := 1) rfl rfl rfl rfl rfl ?_
  refine x_aload_n (pc' := 2) rfl rfl rfl rfl rfl ?_
  refine x_iload_n (pc' := 3) rfl rfl rfl ?_
  refine x_iconst (pc' := 4) rfl rfl ?_
  refine x_cv (ls0 := [_, _, _, _, sJk, sJk]) (rest := []) rfl rfl rfl rfl rfl ?_
  refine x_aload_n (pc' := 1) rfl rfl rfl rfl rfl ?_
  refine x_gI (pc' := 4) (x := 4) rfl rfl rfl (kI_64_4 hc.1) ?_
  refine x_iconst (pc' := 5) rfl rfl ?_
  refine x_imul (pc' := 6) (z := 12) rfl rfl (by decide) ?_
  refine x_iload_n (pc' := 7) rfl rfl rfl ?_
  refine x_iadd (pc' := 8) (z := 14) rfl rfl (by decide) ?_
  refine x_iconst (pc' := 9) rfl rfl ?_
  refine x_imul (pc' := 10) (z := 42) rfl rfl (by decide) ?_
  refine x_iload_n (pc' := 11) rfl rfl rfl ?_
  refine x_iadd (pc' := 12) (z := 42) rfl rfl (by decide) ?_
  refine x_istore (pc' := 14) (ls' := [_, _, _, _, _, _]) rfl rfl rfl rfl ?_
  refine x_iload_n (pc' := 15) rfl rfl rfl ?_
  refine x_if (a' := 36) (pc' := 18) (z := false) rfl rfl rfl (by decide) (fun h => by cases h) (fun _ => ?_)
  refine x_iload_n (pc' := 19) rfl rfl rfl ?_
  refine x_iconst (pc' := 20) rfl rfl ?_
  refine x_icmp (a' := 36) (pc' := 23) (z := false) rfl rfl rfl (by decide) (fun h => by cases h) (fun _ => ?_)
  refine x_iload_n (pc' := 24) rfl rfl rfl ?_
  refine x_if (a' := 36) (pc' := 27) (z := false) rfl rfl rfl (by decide) (fun h => by cases h) (fun _ => ?_)
  refine x_iload_n (pc' := 28) rfl rfl rfl ?_
  refine x_iconst (pc' := 29) rfl rfl ?_
  refine x_icmp (a' := 36) (pc' := 32) (z := false) rfl rfl rfl (by decide) (fun h => by cases h) (fun _ => ?_)
  refine x_iconst (pc' := 33) rfl rfl ?_
  refine x_goto (pc' := 37) rfl rfl ?_
  refine x_istore (pc' := 39) (ls' := [_, _, _, _, _, _]) rfl rfl rfl rfl ?_
  refine x_iload (pc' := 41) rfl rfl rfl ?_
  refine x_if (a' := 67) (pc' := 44) (z := false) rfl rfl rfl (by decide) (fun h => by cases h) (fun _ => ?_)
  refine x_iload (pc' := 46) rfl rfl rfl ?_
  refine x_if (a' := 67) (pc' := 49) (z := false) rfl rfl rfl (by decide) (fun h => by cases h) (fun _ => ?_)
  refine x_iload (pc' := 51) rfl rfl rfl ?_
  refine x_getstatic (pc' := 54) rfl rfl (show 0 < sC t 28 from gst0 hc.1) ?_
  refine x_alen (pc' := 55) (N := 45) rfl rfl rfl (kN_28_0 hc.1) (?_ : X _ _ _ (.inl 45 :: _) _ _)
  refine x_icmp (a' := 67) (pc' := 58) (z := false) rfl rfl rfl (by decide) (fun h => by cases h) (fun _ => ?_)
  refine x_getstatic (pc' := 61) rfl rfl (show 0 < sC t 28 from gst0 hc.1) ?_
  refine x_iload (pc' := 63) rfl rfl rfl ?_
  refine x_iald (pc' := 64) (N := 45) (x := 0) rfl rfl rfl (kN_28_0 hc.1) (io_in (p := 42) (N := 45) (by decide) (by decide)) (Eq.trans (congrArg (sA t 28 0) (nn_io (p := 42) (by decide))) ((hc.1.2.2.2.2.2 42).1.trans rfl)) ?_
  refine x_goto (pc' := 68) rfl rfl ?_
  refine x_reti rfl rfl ?_
  refine sK_i (pc' := 7) rfl ?_
  refine x_if (a' := 14) (pc' := 10) (z := false) rfl rfl rfl (by decide) (fun h => by cases h) (fun _ => ?_)
  refine x_sipush (pc' := 13) rfl rfl ?_
  refine x_reti rfl rfl ?_
  exact q 
def cp42tF (M : sM) (n : Nat) : Int32 := (-10000)
set_option maxHeartbeats 4000000 in
set_option maxRecDepth 10000 in
theorem c81_42t {t : sT} {Q : sRs → sT → Prop} {M : sM} {n : Nat} {T : Nat}
    (hM : Rl t M n T)
    (hc : Sf t M n T)
    (hR : Ri M n)
    (hC : rlC t M n)
    (q : Q (.inl (some (.inl (cp42tF M n)))) t) :
    X 81 0 [.inr (.inr (10, (some 0))), .inr (.inr (1, (some 4))), .inl 2, .inl (bz true), sJk, sJk, sJk, sJk] [] t Q := by
  refine x_aload_n (pc' := 1) rfl rfl rfl rfl rfl ?_
  refine x_aload_n (pc' := 2) rfl rfl rfl rfl rfl ?_
  refine x_iload_n (pc' := 3) rfl rfl rfl ?_
  refine x_iconst (pc' := 4) rfl rfl ?_
  refine x_cv (ls0 := [_, _, _, _, sJk, sJk]) (rest := []) rfl rfl rfl rfl rfl ?_
  refine x_aload_n (pc' := 1) rfl rfl rfl rfl rfl ?_
  refine x_gI (pc' := 4) (x := 4) rfl rfl rfl (kI_64_4 hc.1) ?_
  refine x_iconst (pc' := 5) rfl rfl ?_
  refine x_imul (pc' := 6) (z := 12) rfl rfl (by decide) ?_
  refine x_iload_n (pc' := 7) rfl rfl rfl ?_
  refine x_iadd (pc' := 8) (z := 14) rfl rfl (by decide) ?_
  refine x_iconst (pc' := 9) rfl rfl ?_
  refine x_imul (pc' := 10) (z := 42) rfl rfl (by decide) ?_
  refine x_iload_n (pc' := 11) rfl rfl rfl ?_
  refine x_iadd (pc' := 12) (z := 42) rfl rfl (by decide) ?_
  refine x_istore (pc' := 14) (ls' := [_, _, _, _, _, _]) rfl rfl rfl rfl ?_
  refine x_iload_n (pc' := 15) rfl rfl rfl ?_
  refine x_if (a' := 36) (pc' := 18) (z := false) rfl rfl rfl (by decide) (fun h => by cases h) (fun _ => ?_)
  refine x_iload_n (pc' := 19) rfl rfl rfl ?_
  refine x_iconst (pc' := 20) rfl rfl ?_
  refine x_icmp (a' := 36) (pc' := 23) (z := false) rfl rfl rfl (by decide) (fun h => by cases h) (fun _ => ?_)
  refine x_iload_n (pc' := 24) rfl rfl rfl ?_
  refine x_if (a' := 36) (pc' := 27) (z := false) rfl rfl rfl (by decide) (fun h => by cases h) (fun _ => ?_)
  refine x_iload_n (pc' := 28) rfl rfl rfl ?_
  refine x_iconst (pc' := 29) rfl rfl ?_
  refine x_icmp (a' := 36) (pc' := 32) (z := false) rfl rfl rfl (by decide) (fun h => by cases h) (fun _ => ?_)
  refine x_iconst (pc' := 33) rfl rfl ?_
  refine x_goto (pc' := 37) rfl rfl ?_
  refine x_istore (pc' := 39) (ls' := [_, _, _, _, _, _]) rfl rfl rfl rfl ?_
  refine x_iload (pc' := 41) rfl rfl rfl ?_
  refine x_if (a' := 67) (pc' := 44) (z := false) rfl rfl rfl (by decide) (fun h => by cases h) (fun _ => ?_)
  refine x_iload (pc' := 46) rfl rfl rfl ?_
  refine x_if (a' := 67) (pc' := 49) (z := false) rfl rfl rfl (by decide) (fun h => by cases h) (fun _ => ?_)
  refine x_iload (pc' := 51) rfl rfl rfl ?_
  refine x_getstatic (pc' := 54) rfl rfl (show 0 < sC t 28 from gst0 hc.1) ?_
  refine x_alen (pc' := 55) (N := 45) rfl rfl rfl (kN_28_0 hc.1) (?_ : X _ _ _ (.inl 45 :: _) _ _)
  refine x_icmp (a' := 67) (pc' := 58) (z := false) rfl rfl rfl (by decide) (fun h => by cases h) (fun _ => ?_)
  refine x_getstatic (pc' := 61) rfl rfl (show 0 < sC t 28 from gst0 hc.1) ?_
  refine x_iload (pc' := 63) rfl rfl rfl ?_
  refine x_iald (pc' := 64) (N := 45) (x := 0) rfl rfl rfl (kN_28_0 hc.1) (io_in (p := 42) (N := 45) (by decide) (by decide)) (Eq.trans (congrArg (sA t 28 0) (nn_io (p := 42) (by decide))) ((hc.1.2.2.2.2.2 42).1.trans rfl)) ?_
  refine x_goto (pc' := 68) rfl rfl ?_
  refine x_reti rfl rfl ?_
  refine sK_i (pc' := 7) rfl ?_
  refine x_if (a' := 14) (pc' := 10) (z := false) rfl rfl rfl (by decide) (fun h => by cases h) (fun _ => ?_)
  refine x_sipush (pc' := 13) rfl rfl ?_
  refine x_reti rfl rfl ?_
  exact q 
