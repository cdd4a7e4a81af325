/-! the class's methods (printed by clsgen.py) -/
def cfdF (M : sM) (n : Nat) (m : Nat) : Int32 := (((((mA M 4 m) + (mA M 5 m)) + ((mA M 6 ((3 * m) + 0)) * (mA M 1 0))) + ((mA M 6 ((3 * m) + 1)) * (mA M 1 1))) + ((mA M 6 ((3 * m) + 2)) * (mA M 1 2)))
set_option maxHeartbeats 4000000 in
set_option maxRecDepth 10000 in
theorem c49 {t : sT} {Q : sRs → sT → Prop} {M : sM} {n : Nat} {T : Nat} {m : Nat}
    (hM : Rl t M n T)
    (hc : Sf t M n T)
    (hR : Ri M n)
    (hm : m < 6)
    (q : Q (.inl (some (.inl (cfdF M n m)))) t) :
    X 49 0 [.inr (.inr (5, (some 0))), .inr (.inr (7, (some m))), sJk, sJk, sJk, sJk, sJk] [] t Q := by
  refine x_aload_n (pc' := 1) rfl rfl rfl rfl rfl ?_
  refine x_gI (pc' := 4) (x := (mA M 4 m)) rfl rfl rfl (kA hM rfl hm) ?_
  refine x_aload_n (pc' := 5) rfl rfl rfl rfl rfl ?_
  refine x_gI (pc' := 8) (x := (mA M 5 m)) rfl rfl rfl (kA hM rfl hm) ?_
  refine x_iadd (pc' := 9) (z := ((mA M 4 m) + (mA M 5 m))) rfl rfl rfl ?_
  refine x_istore_n (pc' := 10) (ls' := [_, _, _, _, _, _, _]) rfl rfl rfl rfl ?_
  refine x_aload_n (pc' := 11) rfl rfl rfl rfl rfl ?_
  refine x_gR (pc' := 14) (r := (some 0)) rfl rfl rfl (kR_320_0 hc.1) ?_
  refine x_astore_n (pc' := 15) (ls' := [_, _, _, _, _, _, _]) rfl rfl rfl rfl rfl ?_
  refine x_aload_n (pc' := 16) rfl rfl rfl rfl rfl ?_
  refine x_alen (pc' := 17) (N := 3) rfl rfl rfl (kN_25_0 hc.1) (?_ : X _ _ _ (.inl 3 :: _) _ _)
  refine x_istore (pc' := 19) (ls' := [_, _, _, _, _, _, _]) rfl rfl rfl rfl ?_
  refine x_iconst (pc' := 20) rfl rfl ?_
  refine x_istore (pc' := 22) (ls' := [_, _, _, _, _, _, _]) rfl rfl rfl rfl ?_
  refine x_iload (pc' := 24) rfl rfl rfl ?_
  refine x_iload (pc' := 26) rfl rfl rfl ?_
  refine x_icmp (a' := 56) (pc' := 29) (z := false) rfl rfl rfl (by decide) (fun h => by cases h) (fun _ => ?_)
  refine x_aload_n (pc' := 30) rfl rfl rfl rfl rfl ?_
  refine x_iload (pc' := 32) rfl rfl rfl ?_
  refine x_aald (pc' := 33) (N := 3) (k' := 2) (r := (some 0)) rfl rfl rfl (kN_25_0 hc.1) (io_in (p := 0) (N := 3) (by decide) (by decide)) (Eq.trans (congrArg (sE t 25 0) (nn_io (p := 0) (by decide))) (kK hc.1 (by decide))) ?_
  refine x_astore (pc' := 35) (ls' := [_, _, _, _, _, _, _]) rfl rfl rfl rfl rfl ?_
  refine x_iload_n (pc' := 36) rfl rfl rfl ?_
  refine x_aload_n (pc' := 37) rfl rfl rfl rfl rfl ?_
  refine x_aload (pc' := 39) rfl rfl rfl rfl rfl ?_
  refine x_cv (ls0 := [_, _, sJk]) (rest := [_]) rfl rfl rfl rfl rfl ?_
  refine x_aload_n (pc' := 1) rfl rfl rfl rfl rfl ?_
  refine x_gI (pc' := 4) (x := 0) rfl rfl rfl (kI_128_0 hc.1) ?_
  refine x_istore_n (pc' := 5) (ls' := [_, _, _]) rfl rfl rfl rfl ?_
  refine x_iload_n (pc' := 6) rfl rfl rfl ?_
  refine x_if (a' := 27) (pc' := 9) (z := false) rfl rfl rfl (by decide) (fun h => by cases h) (fun _ => ?_)
  refine x_iload_n (pc' := 10) rfl rfl rfl ?_
  refine x_aload_n (pc' := 11) rfl rfl rfl rfl rfl ?_
  refine x_gR (pc' := 14) (r := (some (m + 1))) rfl rfl rfl (kMp hc.1 hm).1 ?_
  refine x_alen (pc' := 15) (N := 3) rfl rfl rfl (kMp hc.1 hm).2.1 (?_ : X _ _ _ (.inl 3 :: _) _ _)
  refine x_icmp (a' := 27) (pc' := 18) (z := false) rfl rfl rfl (by decide) (fun h => by cases h) (fun _ => ?_)
  refine x_aload_n (pc' := 19) rfl rfl rfl rfl rfl ?_
  refine x_gR (pc' := 22) (r := (some (m + 1))) rfl rfl rfl (kMp hc.1 hm).1 ?_
  refine x_iload_n (pc' := 23) rfl rfl rfl ?_
  refine x_iald (pc' := 24) (N := 3) (x := (mA M 6 ((3 * m) + 0))) rfl rfl rfl (kMp hc.1 hm).2.1 (io_in (p := 0) (N := 3) (by decide) (by decide)) (Eq.trans (congrArg (sA t 20 (m + 1)) (nn_io (p := 0) (by decide))) (kP (m := m) (c := 0) hM hm (by decide))) ?_
  refine x_goto (pc' := 28) rfl rfl ?_
  refine x_reti rfl rfl ?_
  refine sK_i (pc' := 42) rfl ?_
  refine x_aload (pc' := 44) rfl rfl rfl rfl rfl ?_
  refine x_gI (pc' := 47) (x := (mA M 1 0)) rfl rfl rfl (kA hM rfl (show 0 < 3 by decide)) ?_
  refine x_imul (pc' := 48) (z := ((mA M 6 ((3 * m) + 0)) * (mA M 1 0))) rfl rfl rfl ?_
  refine x_iadd (pc' := 49) (z := (((mA M 4 m) + (mA M 5 m)) + ((mA M 6 ((3 * m) + 0)) * (mA M 1 0)))) rfl rfl rfl ?_
  refine x_istore_n (pc' := 50) (ls' := [_, _, _, _, _, _, _]) rfl rfl rfl rfl ?_
  refine x_iinc (pc' := 53) (y := 1) (ls' := [_, _, _, _, _, _, _]) rfl rfl rfl rfl rfl ?_
  refine x_goto (pc' := 22) rfl rfl ?_
  refine x_iload (pc' := 24) rfl rfl rfl ?_
  refine x_iload (pc' := 26) rfl rfl rfl ?_
  refine x_icmp (a' := 56) (pc' := 29) (z := false) rfl rfl rfl (by decide) (fun h => by cases h) (fun _ => ?_)
  refine x_aload_n (pc' := 30) rfl rfl rfl rfl rfl ?_
  refine x_iload (pc' := 32) rfl rfl rfl ?_
  refine x_aald (pc' := 33) (N := 3) (k' := 2) (r := (some 1)) rfl rfl rfl (kN_25_0 hc.1) (io_in (p := 1) (N := 3) (by decide) (by decide)) (Eq.trans (congrArg (sE t 25 0) (nn_io (p := 1) (by decide))) (kK hc.1 (by decide))) ?_
  refine x_astore (pc' := 35) (ls' := [_, _, _, _, _, _, _]) rfl rfl rfl rfl rfl ?_
  refine x_iload_n (pc' := 36) rfl rfl rfl ?_
  refine x_aload_n (pc' := 37) rfl rfl rfl rfl rfl ?_
  refine x_aload (pc' := 39) rfl rfl rfl rfl rfl ?_
  refine x_cv (ls0 := [_, _, sJk]) (rest := [_]) rfl rfl rfl rfl rfl ?_
  refine x_aload_n (pc' := 1) rfl rfl rfl rfl rfl ?_
  refine x_gI (pc' := 4) (x := 1) rfl rfl rfl (kI_128_1 hc.1) ?_
  refine x_istore_n (pc' := 5) (ls' := [_, _, _]) rfl rfl rfl rfl ?_
  refine x_iload_n (pc' := 6) rfl rfl rfl ?_
  refine x_if (a' := 27) (pc' := 9) (z := false) rfl rfl rfl (by decide) (fun h => by cases h) (fun _ => ?_)
  refine x_iload_n (pc' := 10) rfl rfl rfl ?_
  refine x_aload_n (pc' := 11) rfl rfl rfl rfl rfl ?_
  refine x_gR (pc' := 14) (r := (some (m + 1))) rfl rfl rfl (kMp hc.1 hm).1 ?_
  refine x_alen (pc' := 15) (N := 3) rfl rfl rfl (kMp hc.1 hm).2.1 (?_ : X _ _ _ (.inl 3 :: _) _ _)
  refine x_icmp (a' := 27) (pc' := 18) (z := false) rfl rfl rfl (by decide) (fun h => by cases h) (fun _ => ?_)
  refine x_aload_n (pc' := 19) rfl rfl rfl rfl rfl ?_
  refine x_gR (pc' := 22) (r := (some (m + 1))) rfl rfl rfl (kMp hc.1 hm).1 ?_
  refine x_iload_n (pc' := 23) rfl rfl rfl ?_
  refine x_iald (pc' := 24) (N := 3) (x := (mA M 6 ((3 * m) + 1))) rfl rfl rfl (kMp hc.1 hm).2.1 (io_in (p := 1) (N := 3) (by decide) (by decide)) (Eq.trans (congrArg (sA t 20 (m + 1)) (nn_io (p := 1) (by decide))) (kP (m := m) (c := 1) hM hm (by decide))) ?_
  refine x_goto (pc' := 28) rfl rfl ?_
  refine x_reti rfl rfl ?_
  refine sK_i (pc' := 42) rfl ?_
  refine x_aload (pc' := 44) rfl rfl rfl rfl rfl ?_
  refine x_gI (pc' := 47) (x := (mA M 1 1)) rfl rfl rfl (kA hM rfl (show 1 < 3 by decide)) ?_
  refine x_imul (pc' := 48) (z := ((mA M 6 ((3 * m) + 1)) * (mA M 1 1))) rfl rfl rfl ?_
  refine x_iadd (pc' := 49) (z := ((((mA M 4 m) + (mA M 5 m)) + ((mA M 6 ((3 * m) + 0)) * (mA M 1 0))) + ((mA M 6 ((3 * m) + 1)) * (mA M 1 1)))) rfl rfl rfl ?_
  refine x_istore_n (pc' := 50) (ls' := [_, _, _, _, _, _, _]) rfl rfl rfl rfl ?_
  refine x_iinc (pc' := 53) (y := 2) (ls' := [_, _, _, _, _, _, _]) rfl rfl rfl rfl rfl ?_
  refine x_goto (pc' := 22) rfl rfl ?_
  refine x_iload (pc' := 24) rfl rfl rfl ?_
  refine x_iload (pc' := 26) rfl rfl rfl ?_
  refine x_icmp (a' := 56) (pc' := 29) (z := false) rfl rfl rfl (by decide) (fun h => by cases h) (fun _ => ?_)
  refine x_aload_n (pc' := 30) rfl rfl rfl rfl rfl ?_
  refine x_iload (pc' := 32) rfl rfl rfl ?_
  refine x_aald (pc' := 33) (N := 3) (k' := 2) (r := (some 2)) rfl rfl rfl (kN_25_0 hc.1) (io_in (p := 2) (N := 3) (by decide) (by decide)) (Eq.trans (congrArg (sE t 25 0) (nn_io (p := 2) (by decide))) (kK hc.1 (by decide))) ?_
  refine x_astore (pc' := 35) (ls' := [_, _, _, _, _, _, _]) rfl rfl rfl rfl rfl ?_
  refine x_iload_n (pc' := 36) rfl rfl rfl ?_
  refine x_aload_n (pc' := 37) rfl rfl rfl rfl rfl ?_
  refine x_aload (pc' := 39) rfl rfl rfl rfl rfl ?_
  refine x_cv (ls0 := [_, _, sJk]) (rest := [_]) rfl rfl rfl rfl rfl ?_
  refine x_aload_n (pc' := 1) rfl rfl rfl rfl rfl ?_
  refine x_gI (pc' := 4) (x := 2) rfl rfl rfl (kI_128_2 hc.1) ?_
  refine x_istore_n (pc' := 5) (ls' := [_, _, _]) rfl rfl rfl rfl ?_
  refine x_iload_n (pc' := 6) rfl rfl rfl ?_
  refine x_if (a' := 27) (pc' := 9) (z := false) rfl rfl rfl (by decide) (fun h => by cases h) (fun _ => ?_)
  refine x_iload_n (pc' := 10) rfl rfl rfl ?_
  refine x_aload_n (pc' := 11) rfl rfl rfl rfl rfl ?_
  refine x_gR (pc' := 14) (r := (some (m + 1))) rfl rfl rfl (kMp hc.1 hm).1 ?_
  refine x_alen (pc' := 15) (N := 3) rfl rfl rfl (kMp hc.1 hm).2.1 (?_ : X _ _ _ (.inl 3 :: _) _ _)
  refine x_icmp (a' := 27) (pc' := 18) (z := false) rfl rfl rfl (by decide) (fun h => by cases h) (fun _ => ?_)
  refine x_aload_n (pc' := 19) rfl rfl rfl rfl rfl ?_
  refine x_gR (pc' := 22) (r := (some (m + 1))) rfl rfl rfl (kMp hc.1 hm).1 ?_
  refine x_iload_n (pc' := 23) rfl rfl rfl ?_
  refine x_iald (pc' := 24) (N := 3) (x := (mA M 6 ((3 * m) + 2))) rfl rfl rfl (kMp hc.1 hm).2.1 (io_in (p := 2) (N := 3) (by decide) (by decide)) (Eq.trans (congrArg (sA t 20 (m + 1)) (nn_io (p := 2) (by decide))) (kP (m := m) (c := 2) hM hm (by decide))) ?_
  refine x_goto (pc' := 28) rfl rfl ?_
  refine x_reti rfl rfl ?_
  refine sK_i (pc' := 42) rfl ?_
  refine x_aload (pc' := 44) rfl rfl rfl rfl rfl ?_
  refine x_gI (pc' := 47) (x := (mA M 1 2)) rfl rfl rfl (kA hM rfl (show 2 < 3 by decide)) ?_
  refine x_imul (pc' := 48) (z := ((mA M 6 ((3 * m) + 2)) * (mA M 1 2))) rfl rfl rfl ?_
  refine x_iadd (pc' := 49) (z := (((((mA M 4 m) + (mA M 5 m)) + ((mA M 6 ((3 * m) + 0)) * (mA M 1 0))) + ((mA M 6 ((3 * m) + 1)) * (mA M 1 1))) + ((mA M 6 ((3 * m) + 2)) * (mA M 1 2)))) rfl rfl rfl ?_
  refine x_istore_n (pc' := 50) (ls' := [_, _, _, _, _, _, _]) rfl rfl rfl rfl ?_
  refine x_iinc (pc' := 53) (y := 3) (ls' := [_, _, _, _, _, _, _]) rfl rfl rfl rfl rfl ?_
  refine x_goto (pc' := 22) rfl rfl ?_
  refine x_iload (pc' := 24) rfl rfl rfl ?_
  refine x_iload (pc' := 26) rfl rfl rfl ?_
  refine x_icmp (a' := 56) (pc' := 29) (z := true) rfl rfl rfl (by decide) (fun _ => ?_) (fun h => by cases h)
  refine x_iload_n (pc' := 57) rfl rfl rfl ?_
  refine x_reti rfl rfl ?_
  exact q 
def cmgF (M : sM) (n : Nat) (m : Nat) : Int32 := (mx (mx (mx (mx (mx (mx 0 (((0 - (((mA M 6 ((3 * m) + 0)) + 0) * (mA M 11 0))) - (((mA M 6 ((3 * m) + 1)) + 0) * (mA M 11 1))) - (((mA M 6 ((3 * m) + 2)) + 0) * (mA M 11 2)))) (((0 - (((mA M 6 ((3 * m) + 0)) + 0) * (mA M 11 3))) - (((mA M 6 ((3 * m) + 1)) + 0) * (mA M 11 4))) - (((mA M 6 ((3 * m) + 2)) + 0) * (mA M 11 5)))) (((0 - (((mA M 6 ((3 * m) + 0)) + 0) * (mA M 11 6))) - (((mA M 6 ((3 * m) + 1)) + 0) * (mA M 11 7))) - (((mA M 6 ((3 * m) + 2)) + 0) * (mA M 11 8)))) (((0 - (((mA M 6 ((3 * m) + 0)) + 0) * (mA M 11 9))) - (((mA M 6 ((3 * m) + 1)) + 0) * (mA M 11 10))) - (((mA M 6 ((3 * m) + 2)) + 0) * (mA M 11 11)))) (((0 - (((mA M 6 ((3 * m) + 0)) + 0) * (mA M 11 12))) - (((mA M 6 ((3 * m) + 1)) + 0) * (mA M 11 13))) - (((mA M 6 ((3 * m) + 2)) + 0) * (mA M 11 14)))) (((0 - (((mA M 6 ((3 * m) + 0)) + 0) * (mA M 11 15))) - (((mA M 6 ((3 * m) + 1)) + 0) * (mA M 11 16))) - (((mA M 6 ((3 * m) + 2)) + 0) * (mA M 11 17))))
set_option maxHeartbeats 4000000 in
set_option maxRecDepth 10000 in
theorem c50n {t : sT} {Q : sRs → sT → Prop} {M : sM} {n : Nat} {T : Nat} {m : Nat}
    (hM : Rl t M n T)
    (hc : Sf t M n T)
    (hR : Ri M n)
    (hm : m < 6)
    (q : Q (.inl (some (.inl (cmgF M n m)))) t) :
    X 50 0 [.inr (.inr (5, (some 0))), .inr (.inr (7, (some m))), .inr (.inr (7, none)), sJk, sJk, sJk, sJk, sJk, sJk, sJk, sJk] [] t Q := by
  refine x_iconst (pc' := 1) rfl rfl ?_
  refine x_istore_n (pc' := 2) (ls' := [_, _, _, _, _, _, _, _, _, _, _]) rfl rfl rfl rfl ?_
  refine x_iconst (pc' := 3) rfl rfl ?_
  refine x_istore (pc' := 5) (ls' := [_, _, _, _, _, _, _, _, _, _, _]) rfl rfl rfl rfl ?_
  refine x_iload (pc' := 7) rfl rfl rfl ?_
  refine x_bipush (pc' := 9) rfl rfl ?_
  refine x_icmp (a' := 108) (pc' := 12) (z := false) rfl rfl rfl (by decide) (fun h => by cases h) (fun _ => ?_)
  refine x_iconst (pc' := 13) rfl rfl ?_
  refine x_istore (pc' := 15) (ls' := [_, _, _, _, _, _, _, _, _, _, _]) rfl rfl rfl rfl ?_
  refine x_aload_n (pc' := 16) rfl rfl rfl rfl rfl ?_
  refine x_gR (pc' := 19) (r := (some 0)) rfl rfl rfl (kR_320_0 hc.1) ?_
  refine x_astore (pc' := 21) (ls' := [_, _, _, _, _, _, _, _, _, _, _]) rfl rfl rfl rfl rfl ?_
  refine x_aload (pc' := 23) rfl rfl rfl rfl rfl ?_
  refine x_alen (pc' := 24) (N := 3) rfl rfl rfl (kN_25_0 hc.1) (?_ : X _ _ _ (.inl 3 :: _) _ _)
  refine x_istore (pc' := 26) (ls' := [_, _, _, _, _, _, _, _, _, _, _]) rfl rfl rfl rfl ?_
  refine x_iconst (pc' := 27) rfl rfl ?_
  refine x_istore (pc' := 29) (ls' := [_, _, _, _, _, _, _, _, _, _, _]) rfl rfl rfl rfl ?_
  refine x_iload (pc' := 31) rfl rfl rfl ?_
  refine x_iload (pc' := 33) rfl rfl rfl ?_
  refine x_icmp (a' := 95) (pc' := 36) (z := false) rfl rfl rfl (by decide) (fun h => by cases h) (fun _ => ?_)
  refine x_aload (pc' := 38) rfl rfl rfl rfl rfl ?_
  refine x_iload (pc' := 40) rfl rfl rfl ?_
  refine x_aald (pc' := 41) (N := 3) (k' := 2) (r := (some 0)) rfl rfl rfl (kN_25_0 hc.1) (io_in (p := 0) (N := 3) (by decide) (by decide)) (Eq.trans (congrArg (sE t 25 0) (nn_io (p := 0) (by decide))) (kK hc.1 (by decide))) ?_
  refine x_astore (pc' := 43) (ls' := [_, _, _, _, _, _, _, _, _, _, _]) rfl rfl rfl rfl rfl ?_
  refine x_aload_n (pc' := 44) rfl rfl rfl rfl rfl ?_
  refine x_aload (pc' := 46) rfl rfl rfl rfl rfl ?_
  refine x_cv (ls0 := [_, _, sJk]) (rest := []) rfl rfl rfl rfl rfl ?_
  refine x_aload_n (pc' := 1) rfl rfl rfl rfl rfl ?_
  refine x_gI (pc' := 4) (x := 0) rfl rfl rfl (kI_128_0 hc.1) ?_
  refine x_istore_n (pc' := 5) (ls' := [_, _, _]) rfl rfl rfl rfl ?_
  refine x_iload_n (pc' := 6) rfl rfl rfl ?_
  refine x_if (a' := 27) (pc' := 9) (z := false) rfl rfl rfl (by decide) (fun h => by cases h) (fun _ => ?_)
  refine x_iload_n (pc' := 10) rfl rfl rfl ?_
  refine x_aload_n (pc' := 11) rfl rfl rfl rfl rfl ?_
  refine x_gR (pc' := 14) (r := (some (m + 1))) rfl rfl rfl (kMp hc.1 hm).1 ?_
  refine x_alen (pc' := 15) (N := 3) rfl rfl rfl (kMp hc.1 hm).2.1 (?_ : X _ _ _ (.inl 3 :: _) _ _)
  refine x_icmp (a' := 27) (pc' := 18) (z := false) rfl rfl rfl (by decide) (fun h => by cases h) (fun _ => ?_)
  refine x_aload_n (pc' := 19) rfl rfl rfl rfl rfl ?_
  refine x_gR (pc' := 22) (r := (some (m + 1))) rfl rfl rfl (kMp hc.1 hm).1 ?_
  refine x_iload_n (pc' := 23) rfl rfl rfl ?_
  refine x_iald (pc' := 24) (N := 3) (x := (mA M 6 ((3 * m) + 0))) rfl rfl rfl (kMp hc.1 hm).2.1 (io_in (p := 0) (N := 3) (by decide) (by decide)) (Eq.trans (congrArg (sA t 20 (m + 1)) (nn_io (p := 0) (by decide))) (kP (m := m) (c := 0) hM hm (by decide))) ?_
  refine x_goto (pc' := 28) rfl rfl ?_
  refine x_reti rfl rfl ?_
  refine sK_i (pc' := 49) rfl ?_
  refine x_istore (pc' := 51) (ls' := [_, _, _, _, _, _, _, _, _, _, _]) rfl rfl rfl rfl ?_
  refine x_iload (pc' := 53) rfl rfl rfl ?_
  refine x_aload_n (pc' := 54) rfl rfl rfl rfl rfl ?_
  refine x_ifnonnull (a' := 61) (pc' := 57) rfl rfl rfl rfl (fun i h => by cases h) (fun _ => ?_)
  refine x_iconst (pc' := 58) rfl rfl ?_
  refine x_goto (pc' := 67) rfl rfl ?_
  refine x_iadd (pc' := 68) (z := ((mA M 6 ((3 * m) + 0)) + 0)) rfl rfl rfl ?_
  refine x_istore (pc' := 70) (ls' := [_, _, _, _, _, _, _, _, _, _, _]) rfl rfl rfl rfl ?_
  refine x_iload (pc' := 72) rfl rfl rfl ?_
  refine x_iload (pc' := 74) rfl rfl rfl ?_
  refine x_aload_n (pc' := 75) rfl rfl rfl rfl rfl ?_
  refine x_iload (pc' := 77) rfl rfl rfl ?_
  refine x_aload (pc' := 79) rfl rfl rfl rfl rfl ?_
  refine x_gI (pc' := 82) (x := 0) rfl rfl rfl (kI_128_0 hc.1) ?_
  refine x_cv (ls0 := [_, _, _, sJk]) (rest := [_, _]) rfl rfl rfl rfl rfl ?_
  refine x_iload_n (pc' := 1) rfl rfl rfl ?_
  refine x_iconst (pc' := 2) rfl rfl ?_
  refine x_imul (pc' := 3) (z := 0) rfl rfl (by decide) ?_
  refine x_iload_n (pc' := 4) rfl rfl rfl ?_
  refine x_iadd (pc' := 5) (z := 0) rfl rfl (by decide) ?_
  refine x_istore_n (pc' := 6) (ls' := [_, _, _, _]) rfl rfl rfl rfl ?_
  refine x_iload_n (pc' := 7) rfl rfl rfl ?_
  refine x_if (a' := 28) (pc' := 10) (z := false) rfl rfl rfl (by decide) (fun h => by cases h) (fun _ => ?_)
  refine x_iload_n (pc' := 11) rfl rfl rfl ?_
  refine x_aload_n (pc' := 12) rfl rfl rfl rfl rfl ?_
  refine x_gR (pc' := 15) (r := (some 0)) rfl rfl rfl (kR_323_0 hc.1) ?_
  refine x_alen (pc' := 16) (N := 18) rfl rfl rfl (kN_20_0 hc.1) (?_ : X _ _ _ (.inl 18 :: _) _ _)
  refine x_icmp (a' := 28) (pc' := 19) (z := false) rfl rfl rfl (by decide) (fun h => by cases h) (fun _ => ?_)
  refine x_aload_n (pc' := 20) rfl rfl rfl rfl rfl ?_
  refine x_gR (pc' := 23) (r := (some 0)) rfl rfl rfl (kR_323_0 hc.1) ?_
  refine x_iload_n (pc' := 24) rfl rfl rfl ?_
  refine x_iald (pc' := 25) (N := 18) (x := (mA M 11 0)) rfl rfl rfl (kN_20_0 hc.1) (io_in (p := 0) (N := 18) (by decide) (by decide)) (Eq.trans (congrArg (sA t 20 0) (nn_io (p := 0) (by decide))) (kV hM (by decide))) ?_
  refine x_goto (pc' := 29) rfl rfl ?_
  refine x_reti rfl rfl ?_
  refine sK_i (pc' := 85) rfl ?_
  refine x_imul (pc' := 86) (z := (((mA M 6 ((3 * m) + 0)) + 0) * (mA M 11 0))) rfl rfl rfl ?_
  refine x_isub (pc' := 87) (z := (0 - (((mA M 6 ((3 * m) + 0)) + 0) * (mA M 11 0)))) rfl rfl rfl ?_
  refine x_istore (pc' := 89) (ls' := [_, _, _, _, _, _, _, _, _, _, _]) rfl rfl rfl rfl ?_
  refine x_iinc (pc' := 92) (y := 1) (ls' := [_, _, _, _, _, _, _, _, _, _, _]) rfl rfl rfl rfl rfl ?_
  refine x_goto (pc' := 29) rfl rfl ?_
  refine x_iload (pc' := 31) rfl rfl rfl ?_
  refine x_iload (pc' := 33) rfl rfl rfl ?_
  refine x_icmp (a' := 95) (pc' := 36) (z := false) rfl rfl rfl (by decide) (fun h => by cases h) (fun _ => ?_)
  refine x_aload (pc' := 38) rfl rfl rfl rfl rfl ?_
  refine x_iload (pc' := 40) rfl rfl rfl ?_
  refine x_aald (pc' := 41) (N := 3) (k' := 2) (r := (some 1)) rfl rfl rfl (kN_25_0 hc.1) (io_in (p := 1) (N := 3) (by decide) (by decide)) (Eq.trans (congrArg (sE t 25 0) (nn_io (p := 1) (by decide))) (kK hc.1 (by decide))) ?_
  refine x_astore (pc' := 43) (ls' := [_, _, _, _, _, _, _, _, _, _, _]) rfl rfl rfl rfl rfl ?_
  refine x_aload_n (pc' := 44) rfl rfl rfl rfl rfl ?_
  refine x_aload (pc' := 46) rfl rfl rfl rfl rfl ?_
  refine x_cv (ls0 := [_, _, sJk]) (rest := []) rfl rfl rfl rfl rfl ?_
  refine x_aload_n (pc' := 1) rfl rfl rfl rfl rfl ?_
  refine x_gI (pc' := 4) (x := 1) rfl rfl rfl (kI_128_1 hc.1) ?_
  refine x_istore_n (pc' := 5) (ls' := [_, _, _]) rfl rfl rfl rfl ?_
  refine x_iload_n (pc' := 6) rfl rfl rfl ?_
  refine x_if (a' := 27) (pc' := 9) (z := false) rfl rfl rfl (by decide) (fun h => by cases h) (fun _ => ?_)
  refine x_iload_n (pc' := 10) rfl rfl rfl ?_
  refine x_aload_n (pc' := 11) rfl rfl rfl rfl rfl ?_
  refine x_gR (pc' := 14) (r := (some (m + 1))) rfl rfl rfl (kMp hc.1 hm).1 ?_
  refine x_alen (pc' := 15) (N := 3) rfl rfl rfl (kMp hc.1 hm).2.1 (?_ : X _ _ _ (.inl 3 :: _) _ _)
  refine x_icmp (a' := 27) (pc' := 18) (z := false) rfl rfl rfl (by decide) (fun h => by cases h) (fun _ => ?_)
  refine x_aload_n (pc' := 19) rfl rfl rfl rfl rfl ?_
  refine x_gR (pc' := 22) (r := (some (m + 1))) rfl rfl rfl (kMp hc.1 hm).1 ?_
  refine x_iload_n (pc' := 23) rfl rfl rfl ?_
  refine x_iald (pc' := 24) (N := 3) (x := (mA M 6 ((3 * m) + 1))) rfl rfl rfl (kMp hc.1 hm).2.1 (io_in (p := 1) (N := 3) (by decide) (by decide)) (Eq.trans (congrArg (sA t 20 (m + 1)) (nn_io (p := 1) (by decide))) (kP (m := m) (c := 1) hM hm (by decide))) ?_
  refine x_goto (pc' := 28) rfl rfl ?_
  refine x_reti rfl rfl ?_
  refine sK_i (pc' := 49) rfl ?_
  refine x_istore (pc' := 51) (ls' := [_, _, _, _, _, _, _, _, _, _, _]) rfl rfl rfl rfl ?_
  refine x_iload (pc' := 53) rfl rfl rfl ?_
  refine x_aload_n (pc' := 54) rfl rfl rfl rfl rfl ?_
  refine x_ifnonnull (a' := 61) (pc' := 57) rfl rfl rfl rfl (fun i h => by cases h) (fun _ => ?_)
  refine x_iconst (pc' := 58) rfl rfl ?_
  refine x_goto (pc' := 67) rfl rfl ?_
  refine x_iadd (pc' := 68) (z := ((mA M 6 ((3 * m) + 1)) + 0)) rfl rfl rfl ?_
  refine x_istore (pc' := 70) (ls' := [_, _, _, _, _, _, _, _, _, _, _]) rfl rfl rfl rfl ?_
  refine x_iload (pc' := 72) rfl rfl rfl ?_
  refine x_iload (pc' := 74) rfl rfl rfl ?_
  refine x_aload_n (pc' := 75) rfl rfl rfl rfl rfl ?_
  refine x_iload (pc' := 77) rfl rfl rfl ?_
  refine x_aload (pc' := 79) rfl rfl rfl rfl rfl ?_
  refine x_gI (pc' := 82) (x := 1) rfl rfl rfl (kI_128_1 hc.1) ?_
  refine x_cv (ls0 := [_, _, _, sJk]) (rest := [_, _]) rfl rfl rfl rfl rfl ?_
  refine x_iload_n (pc' := 1) rfl rfl rfl ?_
  refine x_iconst (pc' := 2) rfl rfl ?_
  refine x_imul (pc' := 3) (z := 0) rfl rfl (by decide) ?_
  refine x_iload_n (pc' := 4) rfl rfl rfl ?_
  refine x_iadd (pc' := 5) (z := 1) rfl rfl (by decide) ?_
  refine x_istore_n (pc' := 6) (ls' := [_, _, _, _]) rfl rfl rfl rfl ?_
  refine x_iload_n (pc' := 7) rfl rfl rfl ?_
  refine x_if (a' := 28) (pc' := 10) (z := false) rfl rfl rfl (by decide) (fun h => by cases h) (fun _ => ?_)
  refine x_iload_n (pc' := 11) rfl rfl rfl ?_
  refine x_aload_n (pc' := 12) rfl rfl rfl rfl rfl ?_
  refine x_gR (pc' := 15) (r := (some 0)) rfl rfl rfl (kR_323_0 hc.1) ?_
  refine x_alen (pc' := 16) (N := 18) rfl rfl rfl (kN_20_0 hc.1) (?_ : X _ _ _ (.inl 18 :: _) _ _)
  refine x_icmp (a' := 28) (pc' := 19) (z := false) rfl rfl rfl (by decide) (fun h => by cases h) (fun _ => ?_)
  refine x_aload_n (pc' := 20) rfl rfl rfl rfl rfl ?_
  refine x_gR (pc' := 23) (r := (some 0)) rfl rfl rfl (kR_323_0 hc.1) ?_
  refine x_iload_n (pc' := 24) rfl rfl rfl ?_
  refine x_iald (pc' := 25) (N := 18) (x := (mA M 11 1)) rfl rfl rfl (kN_20_0 hc.1) (io_in (p := 1) (N := 18) (by decide) (by decide)) (Eq.trans (congrArg (sA t 20 0) (nn_io (p := 1) (by decide))) (kV hM (by decide))) ?_
  refine x_goto (pc' := 29) rfl rfl ?_
  refine x_reti rfl rfl ?_
  refine sK_i (pc' := 85) rfl ?_
  refine x_imul (pc' := 86) (z := (((mA M 6 ((3 * m) + 1)) + 0) * (mA M 11 1))) rfl rfl rfl ?_
  refine x_isub (pc' := 87) (z := ((0 - (((mA M 6 ((3 * m) + 0)) + 0) * (mA M 11 0))) - (((mA M 6 ((3 * m) + 1)) + 0) * (mA M 11 1)))) rfl rfl rfl ?_
  refine x_istore (pc' := 89) (ls' := [_, _, _, _, _, _, _, _, _, _, _]) rfl rfl rfl rfl ?_
  refine x_iinc (pc' := 92) (y := 2) (ls' := [_, _, _, _, _, _, _, _, _, _, _]) rfl rfl rfl rfl rfl ?_
  refine x_goto (pc' := 29) rfl rfl ?_
  refine x_iload (pc' := 31) rfl rfl rfl ?_
  refine x_iload (pc' := 33) rfl rfl rfl ?_
  refine x_icmp (a' := 95) (pc' := 36) (z := false) rfl rfl rfl (by decide) (fun h => by cases h) (fun _ => ?_)
  refine x_aload (pc' := 38) rfl rfl rfl rfl rfl ?_
  refine x_iload (pc' := 40) rfl rfl rfl ?_
  refine x_aald (pc' := 41) (N := 3) (k' := 2) (r := (some 2)) rfl rfl rfl (kN_25_0 hc.1) (io_in (p := 2) (N := 3) (by decide) (by decide)) (Eq.trans (congrArg (sE t 25 0) (nn_io (p := 2) (by decide))) (kK hc.1 (by decide))) ?_
  refine x_astore (pc' := 43) (ls' := [_, _, _, _, _, _, _, _, _, _, _]) rfl rfl rfl rfl rfl ?_
  refine x_aload_n (pc' := 44) rfl rfl rfl rfl rfl ?_
  refine x_aload (pc' := 46) rfl rfl rfl rfl rfl ?_
  refine x_cv (ls0 := [_, _, sJk]) (rest := []) rfl rfl rfl rfl rfl ?_
  refine x_aload_n (pc' := 1) rfl rfl rfl rfl rfl ?_
  refine x_gI (pc' := 4) (x := 2) rfl rfl rfl (kI_128_2 hc.1) ?_
  refine x_istore_n (pc' := 5) (ls' := [_, _, _]) rfl rfl rfl rfl ?_
  refine x_iload_n (pc' := 6) rfl rfl rfl ?_
  refine x_if (a' := 27) (pc' := 9) (z := false) rfl rfl rfl (by decide) (fun h => by cases h) (fun _ => ?_)
  refine x_iload_n (pc' := 10) rfl rfl rfl ?_
  refine x_aload_n (pc' := 11) rfl rfl rfl rfl rfl ?_
  refine x_gR (pc' := 14) (r := (some (m + 1))) rfl rfl rfl (kMp hc.1 hm).1 ?_
  refine x_alen (pc' := 15) (N := 3) rfl rfl rfl (kMp hc.1 hm).2.1 (?_ : X _ _ _ (.inl 3 :: _) _ _)
  refine x_icmp (a' := 27) (pc' := 18) (z := false) rfl rfl rfl (by decide) (fun h => by cases h) (fun _ => ?_)
  refine x_aload_n (pc' := 19) rfl rfl rfl rfl rfl ?_
  refine x_gR (pc' := 22) (r := (some (m + 1))) rfl rfl rfl (kMp hc.1 hm).1 ?_
  refine x_iload_n (pc' := 23) rfl rfl rfl ?_
  refine x_iald (pc' := 24) (N := 3) (x := (mA M 6 ((3 * m) + 2))) rfl rfl rfl (kMp hc.1 hm).2.1 (io_in (p := 2) (N := 3) (by decide) (by decide)) (Eq.trans (congrArg (sA t 20 (m + 1)) (nn_io (p := 2) (by decide))) (kP (m := m) (c := 2) hM hm (by decide))) ?_
  refine x_goto (pc' := 28) rfl rfl ?_
  refine x_reti rfl rfl ?_
  refine sK_i (pc' := 49) rfl ?_
  refine x_istore (pc' := 51) (ls' := [_, _, _, _, _, _, _, _, _, _, _]) rfl rfl rfl rfl ?_
  refine x_iload (pc' := 53) rfl rfl rfl ?_
  refine x_aload_n (pc' := 54) rfl rfl rfl rfl rfl ?_
  refine x_ifnonnull (a' := 61) (pc' := 57) rfl rfl rfl rfl (fun i h => by cases h) (fun _ => ?_)
  refine x_iconst (pc' := 58) rfl rfl ?_
  refine x_goto (pc' := 67) rfl rfl ?_
  refine x_iadd (pc' := 68) (z := ((mA M 6 ((3 * m) + 2)) + 0)) rfl rfl rfl ?_
  refine x_istore (pc' := 70) (ls' := [_, _, _, _, _, _, _, _, _, _, _]) rfl rfl rfl rfl ?_
  refine x_iload (pc' := 72) rfl rfl rfl ?_
  refine x_iload (pc' := 74) rfl rfl rfl ?_
  refine x_aload_n (pc' := 75) rfl rfl rfl rfl rfl ?_
  refine x_iload (pc' := 77) rfl rfl rfl ?_
  refine x_aload (pc' := 79) rfl rfl rfl rfl rfl ?_
  refine x_gI (pc' := 82) (x := 2) rfl rfl rfl (kI_128_2 hc.1) ?_
  refine x_cv (ls0 := [_, _, _, sJk]) (rest := [_, _]) rfl rfl rfl rfl rfl ?_
  refine x_iload_n (pc' := 1) rfl rfl rfl ?_
  refine x_iconst (pc' := 2) rfl rfl ?_
  refine x_imul (pc' := 3) (z := 0) rfl rfl (by decide) ?_
  refine x_iload_n (pc' := 4) rfl rfl rfl ?_
  refine x_iadd (pc' := 5) (z := 2) rfl rfl (by decide) ?_
  refine x_istore_n (pc' := 6) (ls' := [_, _, _, _]) rfl rfl rfl rfl ?_
  refine x_iload_n (pc' := 7) rfl rfl rfl ?_
  refine x_if (a' := 28) (pc' := 10) (z := false) rfl rfl rfl (by decide) (fun h => by cases h) (fun _ => ?_)
  refine x_iload_n (pc' := 11) rfl rfl rfl ?_
  refine x_aload_n (pc' := 12) rfl rfl rfl rfl rfl ?_
  refine x_gR (pc' := 15) (r := (some 0)) rfl rfl rfl (kR_323_0 hc.1) ?_
  refine x_alen (pc' := 16) (N := 18) rfl rfl rfl (kN_20_0 hc.1) (?_ : X _ _ _ (.inl 18 :: _) _ _)
  refine x_icmp (a' := 28) (pc' := 19) (z := false) rfl rfl rfl (by decide) (fun h => by cases h) (fun _ => ?_)
  refine x_aload_n (pc' := 20) rfl rfl rfl rfl rfl ?_
  refine x_gR (pc' := 23) (r := (some 0)) rfl rfl rfl (kR_323_0 hc.1) ?_
  refine x_iload_n (pc' := 24) rfl rfl rfl ?_
  refine x_iald (pc' := 25) (N := 18) (x := (mA M 11 2)) rfl rfl rfl (kN_20_0 hc.1) (io_in (p := 2) (N := 18) (by decide) (by decide)) (Eq.trans (congrArg (sA t 20 0) (nn_io (p := 2) (by decide))) (kV hM (by decide))) ?_
  refine x_goto (pc' := 29) rfl rfl ?_
  refine x_reti rfl rfl ?_
  refine sK_i (pc' := 85) rfl ?_
  refine x_imul (pc' := 86) (z := (((mA M 6 ((3 * m) + 2)) + 0) * (mA M 11 2))) rfl rfl rfl ?_
  refine x_isub (pc' := 87) (z := (((0 - (((mA M 6 ((3 * m) + 0)) + 0) * (mA M 11 0))) - (((mA M 6 ((3 * m) + 1)) + 0) * (mA M 11 1))) - (((mA M 6 ((3 * m) + 2)) + 0) * (mA M 11 2)))) rfl rfl rfl ?_
  refine x_istore (pc' := 89) (ls' := [_, _, _, _, _, _, _, _, _, _, _]) rfl rfl rfl rfl ?_
  refine x_iinc (pc' := 92) (y := 3) (ls' := [_, _, _, _, _, _, _, _, _, _, _]) rfl rfl rfl rfl rfl ?_
  refine x_goto (pc' := 29) rfl rfl ?_
  refine x_iload (pc' := 31) rfl rfl rfl ?_
  refine x_iload (pc' := 33) rfl rfl rfl ?_
  refine x_icmp (a' := 95) (pc' := 36) (z := true) rfl rfl rfl (by decide) (fun _ => ?_) (fun h => by cases h)
  refine x_iload_n (pc' := 96) rfl rfl rfl ?_
  refine x_iload (pc' := 98) rfl rfl rfl ?_
  refine x_max (pc' := 101) (z := (mx 0 (((0 - (((mA M 6 ((3 * m) + 0)) + 0) * (mA M 11 0))) - (((mA M 6 ((3 * m) + 1)) + 0) * (mA M 11 1))) - (((mA M 6 ((3 * m) + 2)) + 0) * (mA M 11 2))))) rfl rfl rfl rfl ?_
  refine x_istore_n (pc' := 102) (ls' := [_, _, _, _, _, _, _, _, _, _, _]) rfl rfl rfl rfl ?_
  refine x_iinc (pc' := 105) (y := 1) (ls' := [_, _, _, _, _, _, _, _, _, _, _]) rfl rfl rfl rfl rfl ?_
  refine x_goto (pc' := 5) rfl rfl ?_
  refine x_iload (pc' := 7) rfl rfl rfl ?_
  refine x_bipush (pc' := 9) rfl rfl ?_
  refine x_icmp (a' := 108) (pc' := 12) (z := false) rfl rfl rfl (by decide) (fun h => by cases h) (fun _ => ?_)
  refine x_iconst (pc' := 13) rfl rfl ?_
  refine x_istore (pc' := 15) (ls' := [_, _, _, _, _, _, _, _, _, _, _]) rfl rfl rfl rfl ?_
  refine x_aload_n (pc' := 16) rfl rfl rfl rfl rfl ?_
  refine x_gR (pc' := 19) (r := (some 0)) rfl rfl rfl (kR_320_0 hc.1) ?_
  refine x_astore (pc' := 21) (ls' := [_, _, _, _, _, _, _, _, _, _, _]) rfl rfl rfl rfl rfl ?_
  refine x_aload (pc' := 23) rfl rfl rfl rfl rfl ?_
  refine x_alen (pc' := 24) (N := 3) rfl rfl rfl (kN_25_0 hc.1) (?_ : X _ _ _ (.inl 3 :: _) _ _)
  refine x_istore (pc' := 26) (ls' := [_, _, _, _, _, _, _, _, _, _, _]) rfl rfl rfl rfl ?_
  refine x_iconst (pc' := 27) rfl rfl ?_
  refine x_istore (pc' := 29) (ls' := [_, _, _, _, _, _, _, _, _, _, _]) rfl rfl rfl rfl ?_
  refine x_iload (pc' := 31) rfl rfl rfl ?_
  refine x_iload (pc' := 33) rfl rfl rfl ?_
  refine x_icmp (a' := 95) (pc' := 36) (z := false) rfl rfl rfl (by decide) (fun h => by cases h) (fun _ => ?_)
  refine x_aload (pc' := 38) rfl rfl rfl rfl rfl ?_
  refine x_iload (pc' := 40) rfl rfl rfl ?_
  refine x_aald (pc' := 41) (N := 3) (k' := 2) (r := (some 0)) rfl rfl rfl (kN_25_0 hc.1) (io_in (p := 0) (N := 3) (by decide) (by decide)) (Eq.trans (congrArg (sE t 25 0) (nn_io (p := 0) (by decide))) (kK hc.1 (by decide))) ?_
  refine x_astore (pc' := 43) (ls' := [_, _, _, _, _, _, _, _, _, _, _]) rfl rfl rfl rfl rfl ?_
  refine x_aload_n (pc' := 44) rfl rfl rfl rfl rfl ?_
  refine x_aload (pc' := 46) rfl rfl rfl rfl rfl ?_
  refine x_cv (ls0 := [_, _, sJk]) (rest := []) rfl rfl rfl rfl rfl ?_
  refine x_aload_n (pc' := 1) rfl rfl rfl rfl rfl ?_
  refine x_gI (pc' := 4) (x := 0) rfl rfl rfl (kI_128_0 hc.1) ?_
  refine x_istore_n (pc' := 5) (ls' := [_, _, _]) rfl rfl rfl rfl ?_
  refine x_iload_n (pc' := 6) rfl rfl rfl ?_
  refine x_if (a' := 27) (pc' := 9) (z := false) rfl rfl rfl (by decide) (fun h => by cases h) (fun _ => ?_)
  refine x_iload_n (pc' := 10) rfl rfl rfl ?_
  refine x_aload_n (pc' := 11) rfl rfl rfl rfl rfl ?_
  refine x_gR (pc' := 14) (r := (some (m + 1))) rfl rfl rfl (kMp hc.1 hm).1 ?_
  refine x_alen (pc' := 15) (N := 3) rfl rfl rfl (kMp hc.1 hm).2.1 (?_ : X _ _ _ (.inl 3 :: _) _ _)
  refine x_icmp (a' := 27) (pc' := 18) (z := false) rfl rfl rfl (by decide) (fun h => by cases h) (fun _ => ?_)
  refine x_aload_n (pc' := 19) rfl rfl rfl rfl rfl ?_
  refine x_gR (pc' := 22) (r := (some (m + 1))) rfl rfl rfl (kMp hc.1 hm).1 ?_
  refine x_iload_n (pc' := 23) rfl rfl rfl ?_
  refine x_iald (pc' := 24) (N := 3) (x := (mA M 6 ((3 * m) + 0))) rfl rfl rfl (kMp hc.1 hm).2.1 (io_in (p := 0) (N := 3) (by decide) (by decide)) (Eq.trans (congrArg (sA t 20 (m + 1)) (nn_io (p := 0) (by decide))) (kP (m := m) (c := 0) hM hm (by decide))) ?_
  refine x_goto (pc' := 28) rfl rfl ?_
  refine x_reti rfl rfl ?_
  refine sK_i (pc' := 49) rfl ?_
  refine x_istore (pc' := 51) (ls' := [_, _, _, _, _, _, _, _, _, _, _]) rfl rfl rfl rfl ?_
  refine x_iload (pc' := 53) rfl rfl rfl ?_
  refine x_aload_n (pc' := 54) rfl rfl rfl rfl rfl ?_
  refine x_ifnonnull (a' := 61) (pc' := 57) rfl rfl rfl rfl (fun i h => by cases h) (fun _ => ?_)
  refine x_iconst (pc' := 58) rfl rfl ?_
  refine x_goto (pc' := 67) rfl rfl ?_
  refine x_iadd (pc' := 68) (z := ((mA M 6 ((3 * m) + 0)) + 0)) rfl rfl rfl ?_
  refine x_istore (pc' := 70) (ls' := [_, _, _, _, _, _, _, _, _, _, _]) rfl rfl rfl rfl ?_
  refine x_iload (pc' := 72) rfl rfl rfl ?_
  refine x_iload (pc' := 74) rfl rfl rfl ?_
  refine x_aload_n (pc' := 75) rfl rfl rfl rfl rfl ?_
  refine x_iload (pc' := 77) rfl rfl rfl ?_
  refine x_aload (pc' := 79) rfl rfl rfl rfl rfl ?_
  refine x_gI (pc' := 82) (x := 0) rfl rfl rfl (kI_128_0 hc.1) ?_
  refine x_cv (ls0 := [_, _, _, sJk]) (rest := [_, _]) rfl rfl rfl rfl rfl ?_
  refine x_iload_n (pc' := 1) rfl rfl rfl ?_
  refine x_iconst (pc' := 2) rfl rfl ?_
  refine x_imul (pc' := 3) (z := 3) rfl rfl (by decide) ?_
  refine x_iload_n (pc' := 4) rfl rfl rfl ?_
  refine x_iadd (pc' := 5) (z := 3) rfl rfl (by decide) ?_
  refine x_istore_n (pc' := 6) (ls' := [_, _, _, _]) rfl rfl rfl rfl ?_
  refine x_iload_n (pc' := 7) rfl rfl rfl ?_
  refine x_if (a' := 28) (pc' := 10) (z := false) rfl rfl rfl (by decide) (fun h => by cases h) (fun _ => ?_)
  refine x_iload_n (pc' := 11) rfl rfl rfl ?_
  refine x_aload_n (pc' := 12) rfl rfl rfl rfl rfl ?_
  refine x_gR (pc' := 15) (r := (some 0)) rfl rfl rfl (kR_323_0 hc.1) ?_
  refine x_alen (pc' := 16) (N := 18) rfl rfl rfl (kN_20_0 hc.1) (?_ : X _ _ _ (.inl 18 :: _) _ _)
  refine x_icmp (a' := 28) (pc' := 19) (z := false) rfl rfl rfl (by decide) (fun h => by cases h) (fun _ => ?_)
  refine x_aload_n (pc' := 20) rfl rfl rfl rfl rfl ?_
  refine x_gR (pc' := 23) (r := (some 0)) rfl rfl rfl (kR_323_0 hc.1) ?_
  refine x_iload_n (pc' := 24) rfl rfl rfl ?_
  refine x_iald (pc' := 25) (N := 18) (x := (mA M 11 3)) rfl rfl rfl (kN_20_0 hc.1) (io_in (p := 3) (N := 18) (by decide) (by decide)) (Eq.trans (congrArg (sA t 20 0) (nn_io (p := 3) (by decide))) (kV hM (by decide))) ?_
  refine x_goto (pc' := 29) rfl rfl ?_
  refine x_reti rfl rfl ?_
  refine sK_i (pc' := 85) rfl ?_
  refine x_imul (pc' := 86) (z := (((mA M 6 ((3 * m) + 0)) + 0) * (mA M 11 3))) rfl rfl rfl ?_
  refine x_isub (pc' := 87) (z := (0 - (((mA M 6 ((3 * m) + 0)) + 0) * (mA M 11 3)))) rfl rfl rfl ?_
  refine x_istore (pc' := 89) (ls' := [_, _, _, _, _, _, _, _, _, _, _]) rfl rfl rfl rfl ?_
  refine x_iinc (pc' := 92) (y := 1) (ls' := [_, _, _, _, _, _, _, _, _, _, _]) rfl rfl rfl rfl rfl ?_
  refine x_goto (pc' := 29) rfl rfl ?_
  refine x_iload (pc' := 31) rfl rfl rfl ?_
  refine x_iload (pc' := 33) rfl rfl rfl ?_
  refine x_icmp (a' := 95) (pc' := 36) (z := false) rfl rfl rfl (by decide) (fun h => by cases h) (fun _ => ?_)
  refine x_aload (pc' := 38) rfl rfl rfl rfl rfl ?_
  refine x_iload (pc' := 40) rfl rfl rfl ?_
  refine x_aald (pc' := 41) (N := 3) (k' := 2) (r := (some 1)) rfl rfl rfl (kN_25_0 hc.1) (io_in (p := 1) (N := 3) (by decide) (by decide)) (Eq.trans (congrArg (sE t 25 0) (nn_io (p := 1) (by decide))) (kK hc.1 (by decide))) ?_
  refine x_astore (pc' := 43) (ls' := [_, _, _, _, _, _, _, _, _, _, _]) rfl rfl rfl rfl rfl ?_
  refine x_aload_n (pc' := 44) rfl rfl rfl rfl rfl ?_
  refine x_aload (pc' := 46) rfl rfl rfl rfl rfl ?_
  refine x_cv (ls0 := [_, _, sJk]) (rest := []) rfl rfl rfl rfl rfl ?_
  refine x_aload_n (pc' := 1) rfl rfl rfl rfl rfl ?_
  refine x_gI (pc' := 4) (x := 1) rfl rfl rfl (kI_128_1 hc.1) ?_
  refine x_istore_n (pc' := 5) (ls' := [_, _, _]) rfl rfl rfl rfl ?_
  refine x_iload_n (pc' := 6) rfl rfl rfl ?_
  refine x_if (a' := 27) (pc' := 9) (z := false) rfl rfl rfl (by decide) (fun h => by cases h) (fun _ => ?_)
  refine x_iload_n (pc' := 10) rfl rfl rfl ?_
  refine x_aload_n (pc' := 11) rfl rfl rfl rfl rfl ?_
  refine x_gR (pc' := 14) (r := (some (m + 1))) rfl rfl rfl (kMp hc.1 hm).1 ?_
  refine x_alen (pc' := 15) (N := 3) rfl rfl rfl (kMp hc.1 hm).2.1 (?_ : X _ _ _ (.inl 3 :: _) _ _)
  refine x_icmp (a' := 27) (pc' := 18) (z := false) rfl rfl rfl (by decide) (fun h => by cases h) (fun _ => ?_)
  refine x_aload_n (pc' := 19) rfl rfl rfl rfl rfl ?_
  refine x_gR (pc' := 22) (r := (some (m + 1))) rfl rfl rfl (kMp hc.1 hm).1 ?_
  refine x_iload_n (pc' := 23) rfl rfl rfl ?_
  refine x_iald (pc' := 24) (N := 3) (x := (mA M 6 ((3 * m) + 1))) rfl rfl rfl (kMp hc.1 hm).2.1 (io_in (p := 1) (N := 3) (by decide) (by decide)) (Eq.trans (congrArg (sA t 20 (m + 1)) (nn_io (p := 1) (by decide))) (kP (m := m) (c := 1) hM hm (by decide))) ?_
  refine x_goto (pc' := 28) rfl rfl ?_
  refine x_reti rfl rfl ?_
  refine sK_i (pc' := 49) rfl ?_
  refine x_istore (pc' := 51) (ls' := [_, _, _, _, _, _, _, _, _, _, _]) rfl rfl rfl rfl ?_
  refine x_iload (pc' := 53) rfl rfl rfl ?_
  refine x_aload_n (pc' := 54) rfl rfl rfl rfl rfl ?_
  refine x_ifnonnull (a' := 61) (pc' := 57) rfl rfl rfl rfl (fun i h => by cases h) (fun _ => ?_)
  refine x_iconst (pc' := 58) rfl rfl ?_
  refine x_goto (pc' := 67) rfl rfl ?_
  refine x_iadd (pc' := 68) (z := ((mA M 6 ((3 * m) + 1)) + 0)) rfl rfl rfl ?_
  refine x_istore (pc' := 70) (ls' := [_, _, _, _, _, _, _, _, _, _, _]) rfl rfl rfl rfl ?_
  refine x_iload (pc' := 72) rfl rfl rfl ?_
  refine x_iload (pc' := 74) rfl rfl rfl ?_
  refine x_aload_n (pc' := 75) rfl rfl rfl rfl rfl ?_
  refine x_iload (pc' := 77) rfl rfl rfl ?_
  refine x_aload (pc' := 79) rfl rfl rfl rfl rfl ?_
  refine x_gI (pc' := 82) (x := 1) rfl rfl rfl (kI_128_1 hc.1) ?_
  refine x_cv (ls0 := [_, _, _, sJk]) (rest := [_, _]) rfl rfl rfl rfl rfl ?_
  refine x_iload_n (pc' := 1) rfl rfl rfl ?_
  refine x_iconst (pc' := 2) rfl rfl ?_
  refine x_imul (pc' := 3) (z := 3) rfl rfl (by decide) ?_
  refine x_iload_n (pc' := 4) rfl rfl rfl ?_
  refine x_iadd (pc' := 5) (z := 4) rfl rfl (by decide) ?_
  refine x_istore_n (pc' := 6) (ls' := [_, _, _, _]) rfl rfl rfl rfl ?_
  refine x_iload_n (pc' := 7) rfl rfl rfl ?_
  refine x_if (a' := 28) (pc' := 10) (z := false) rfl rfl rfl (by decide) (fun h => by cases h) (fun _ => ?_)
  refine x_iload_n (pc' := 11) rfl rfl rfl ?_
  refine x_aload_n (pc' := 12) rfl rfl rfl rfl rfl ?_
  refine x_gR (pc' := 15) (r := (some 0)) rfl rfl rfl (kR_323_0 hc.1) ?_
  refine x_alen (pc' := 16) (N := 18) rfl rfl rfl (kN_20_0 hc.1) (?_ : X _ _ _ (.inl 18 :: _) _ _)
  refine x_icmp (a' := 28) (pc' := 19) (z := false) rfl rfl rfl (by decide) (fun h => by cases h) (fun _ => ?_)
  refine x_aload_n (pc' := 20) rfl rfl rfl rfl rfl ?_
  refine x_gR (pc' := 23) (r := (some 0)) rfl rfl rfl (kR_323_0 hc.1) ?_
  refine x_iload_n (pc' := 24) rfl rfl rfl ?_
  refine x_iald (pc' := 25) (N := 18) (x := (mA M 11 4)) rfl rfl rfl (kN_20_0 hc.1) (io_in (p := 4) (N := 18) (by decide) (by decide)) (Eq.trans (congrArg (sA t 20 0) (nn_io (p := 4) (by decide))) (kV hM (by decide))) ?_
  refine x_goto (pc' := 29) rfl rfl ?_
  refine x_reti rfl rfl ?_
  refine sK_i (pc' := 85) rfl ?_
  refine x_imul (pc' := 86) (z := (((mA M 6 ((3 * m) + 1)) + 0) * (mA M 11 4))) rfl rfl rfl ?_
  refine x_isub (pc' := 87) (z := ((0 - (((mA M 6 ((3 * m) + 0)) + 0) * (mA M 11 3))) - (((mA M 6 ((3 * m) + 1)) + 0) * (mA M 11 4)))) rfl rfl rfl ?_
  refine x_istore (pc' := 89) (ls' := [_, _, _, _, _, _, _, _, _, _, _]) rfl rfl rfl rfl ?_
  refine x_iinc (pc' := 92) (y := 2) (ls' := [_, _, _, _, _, _, _, _, _, _, _]) rfl rfl rfl rfl rfl ?_
  refine x_goto (pc' := 29) rfl rfl ?_
  refine x_iload (pc' := 31) rfl rfl rfl ?_
  refine x_iload (pc' := 33) rfl rfl rfl ?_
  refine x_icmp (a' := 95) (pc' := 36) (z := false) rfl rfl rfl (by decide) (fun h => by cases h) (fun _ => ?_)
  refine x_aload (pc' := 38) rfl rfl rfl rfl rfl ?_
  refine x_iload (pc' := 40) rfl rfl rfl ?_
  refine x_aald (pc' := 41) (N := 3) (k' := 2) (r := (some 2)) rfl rfl rfl (kN_25_0 hc.1) (io_in (p := 2) (N := 3) (by decide) (by decide)) (Eq.trans (congrArg (sE t 25 0) (nn_io (p := 2) (by decide))) (kK hc.1 (by decide))) ?_
  refine x_astore (pc' := 43) (ls' := [_, _, _, _, _, _, _, _, _, _, _]) rfl rfl rfl rfl rfl ?_
  refine x_aload_n (pc' := 44) rfl rfl rfl rfl rfl ?_
  refine x_aload (pc' := 46) rfl rfl rfl rfl rfl ?_
  refine x_cv (ls0 := [_, _, sJk]) (rest := []) rfl rfl rfl rfl rfl ?_
  refine x_aload_n (pc' := 1) rfl rfl rfl rfl rfl ?_
  refine x_gI (pc' := 4) (x := 2) rfl rfl rfl (kI_128_2 hc.1) ?_
  refine x_istore_n (pc' := 5) (ls' := [_, _, _]) rfl rfl rfl rfl ?_
  refine x_iload_n (pc' := 6) rfl rfl rfl ?_
  refine x_if (a' := 27) (pc' := 9) (z := false) rfl rfl rfl (by decide) (fun h => by cases h) (fun _ => ?_)
  refine x_iload_n (pc' := 10) rfl rfl rfl ?_
  refine x_aload_n (pc' := 11) rfl rfl rfl rfl rfl ?_
  refine x_gR (pc' := 14) (r := (some (m + 1))) rfl rfl rfl (kMp hc.1 hm).1 ?_
  refine x_alen (pc' := 15) (N := 3) rfl rfl rfl (kMp hc.1 hm).2.1 (?_ : X _ _ _ (.inl 3 :: _) _ _)
  refine x_icmp (a' := 27) (pc' := 18) (z := false) rfl rfl rfl (by decide) (fun h => by cases h) (fun _ => ?_)
  refine x_aload_n (pc' := 19) rfl rfl rfl rfl rfl ?_
  refine x_gR (pc' := 22) (r := (some (m + 1))) rfl rfl rfl (kMp hc.1 hm).1 ?_
  refine x_iload_n (pc' := 23) rfl rfl rfl ?_
  refine x_iald (pc' := 24) (N := 3) (x := (mA M 6 ((3 * m) + 2))) rfl rfl rfl (kMp hc.1 hm).2.1 (io_in (p := 2) (N := 3) (by decide) (by decide)) (Eq.trans (congrArg (sA t 20 (m + 1)) (nn_io (p := 2) (by decide))) (kP (m := m) (c := 2) hM hm (by decide))) ?_
  refine x_goto (pc' := 28) rfl rfl ?_
  refine x_reti rfl rfl ?_
  refine sK_i (pc' := 49) rfl ?_
  refine x_istore (pc' := 51) (ls' := [_, _, _, _, _, _, _, _, _, _, _]) rfl rfl rfl rfl ?_
  refine x_iload (pc' := 53) rfl rfl rfl ?_
  refine x_aload_n (pc' := 54) rfl rfl rfl rfl rfl ?_
  refine x_ifnonnull (a' := 61) (pc' := 57) rfl rfl rfl rfl (fun i h => by cases h) (fun _ => ?_)
  refine x_iconst (pc' := 58) rfl rfl ?_
  refine x_goto (pc' := 67) rfl rfl ?_
  refine x_iadd (pc' := 68) (z := ((mA M 6 ((3 * m) + 2)) + 0)) rfl rfl rfl ?_
  refine x_istore (pc' := 70) (ls' := [_, _, _, _, _, _, _, _, _, _, _]) rfl rfl rfl rfl ?_
  refine x_iload (pc' := 72) rfl rfl rfl ?_
  refine x_iload (pc' := 74) rfl rfl rfl ?_
  refine x_aload_n (pc' := 75) rfl rfl rfl rfl rfl ?_
  refine x_iload (pc' := 77) rfl rfl rfl ?_
  refine x_aload (pc' := 79) rfl rfl rfl rfl rfl ?_
  refine x_gI (pc' := 82) (x := 2) rfl rfl rfl (kI_128_2 hc.1) ?_
  refine x_cv (ls0 := [_, _, _, sJk]) (rest := [_, _]) rfl rfl rfl rfl rfl ?_
  refine x_iload_n (pc' := 1) rfl rfl rfl ?_
  refine x_iconst (pc' := 2) rfl rfl ?_
  refine x_imul (pc' := 3) (z := 3) rfl rfl (by decide) ?_
  refine x_iload_n (pc' := 4) rfl rfl rfl ?_
  refine x_iadd (pc' := 5) (z := 5) rfl rfl (by decide) ?_
  refine x_istore_n (pc' := 6) (ls' := [_, _, _, _]) rfl rfl rfl rfl ?_
  refine x_iload_n (pc' := 7) rfl rfl rfl ?_
  refine x_if (a' := 28) (pc' := 10) (z := false) rfl rfl rfl (by decide) (fun h => by cases h) (fun _ => ?_)
  refine x_iload_n (pc' := 11) rfl rfl rfl ?_
  refine x_aload_n (pc' := 12) rfl rfl rfl rfl rfl ?_
  refine x_gR (pc' := 15) (r := (some 0)) rfl rfl rfl (kR_323_0 hc.1) ?_
  refine x_alen (pc' := 16) (N := 18) rfl rfl rfl (kN_20_0 hc.1) (?_ : X _ _ _ (.inl 18 :: _) _ _)
  refine x_icmp (a' := 28) (pc' := 19) (z := false) rfl rfl rfl (by decide) (fun h => by cases h) (fun _ => ?_)
  refine x_aload_n (pc' := 20) rfl rfl rfl rfl rfl ?_
  refine x_gR (pc' := 23) (r := (some 0)) rfl rfl rfl (kR_323_0 hc.1) ?_
  refine x_iload_n (pc' := 24) rfl rfl rfl ?_
  refine x_iald (pc' := 25) (N := 18) (x := (mA M 11 5)) rfl rfl rfl (kN_20_0 hc.1) (io_in (p := 5) (N := 18) (by decide) (by decide)) (Eq.trans (congrArg (sA t 20 0) (nn_io (p := 5) (by decide))) (kV hM (by decide))) ?_
  refine x_goto (pc' := 29) rfl rfl ?_
  refine x_reti rfl rfl ?_
  refine sK_i (pc' := 85) rfl ?_
  refine x_imul (pc' := 86) (z := (((mA M 6 ((3 * m) + 2)) + 0) * (mA M 11 5))) rfl rfl rfl ?_
  refine x_isub (pc' := 87) (z := (((0 - (((mA M 6 ((3 * m) + 0)) + 0) * (mA M 11 3))) - (((mA M 6 ((3 * m) + 1)) + 0) * (mA M 11 4))) - (((mA M 6 ((3 * m) + 2)) + 0) * (mA M 11 5)))) rfl rfl rfl ?_
  refine x_istore (pc' := 89) (ls' := [_, _, _, _, _, _, _, _, _, _, _]) rfl rfl rfl rfl ?_
  refine x_iinc (pc' := 92) (y := 3) (ls' := [_, _, _, _, _, _, _, _, _, _, _]) rfl rfl rfl rfl rfl ?_
  refine x_goto (pc' := 29) rfl rfl ?_
  refine x_iload (pc' := 31) rfl rfl rfl ?_
  refine x_iload (pc' := 33) rfl rfl rfl ?_
  refine x_icmp (a' := 95) (pc' := 36) (z := true) rfl rfl rfl (by decide) (fun _ => ?_) (fun h => by cases h)
  refine x_iload_n (pc' := 96) rfl rfl rfl ?_
  refine x_iload (pc' := 98) rfl rfl rfl ?_
  refine x_max (pc' := 101) (z := (mx (mx 0 (((0 - (((mA M 6 ((3 * m) + 0)) + 0) * (mA M 11 0))) - (((mA M 6 ((3 * m) + 1)) + 0) * (mA M 11 1))) - (((mA M 6 ((3 * m) + 2)) + 0) * (mA M 11 2)))) (((0 - (((mA M 6 ((3 * m) + 0)) + 0) * (mA M 11 3))) - (((mA M 6 ((3 * m) + 1)) + 0) * (mA M 11 4))) - (((mA M 6 ((3 * m) + 2)) + 0) * (mA M 11 5))))) rfl rfl rfl rfl ?_
  refine x_istore_n (pc' := 102) (ls' := [_, _, _, _, _, _, _, _, _, _, _]) rfl rfl rfl rfl ?_
  refine x_iinc (pc' := 105) (y := 2) (ls' := [_, _, _, _, _, _, _, _, _, _, _]) rfl rfl rfl rfl rfl ?_
  refine x_goto (pc' := 5) rfl rfl ?_
  refine x_iload (pc' := 7) rfl rfl rfl ?_
  refine x_bipush (pc' := 9) rfl rfl ?_
  refine x_icmp (a' := 108) (pc' := 12) (z := false) rfl rfl rfl (by decide) (fun h => by cases h) (fun _ => ?_)
  refine x_iconst (pc' := 13) rfl rfl ?_
  refine x_istore (pc' := 15) (ls' := [_, _, _, _, _, _, _, _, _, _, _]) rfl rfl rfl rfl ?_
  refine x_aload_n (pc' := 16) rfl rfl rfl rfl rfl ?_
  refine x_gR (pc' := 19) (r := (some 0)) rfl rfl rfl (kR_320_0 hc.1) ?_
  refine x_astore (pc' := 21) (ls' := [_, _, _, _, _, _, _, _, _, _, _]) rfl rfl rfl rfl rfl ?_
  refine x_aload (pc' := 23) rfl rfl rfl rfl rfl ?_
  refine x_alen (pc' := 24) (N := 3) rfl rfl rfl (kN_25_0 hc.1) (?_ : X _ _ _ (.inl 3 :: _) _ _)
  refine x_istore (pc' := 26) (ls' := [_, _, _, _, _, _, _, _, _, _, _]) rfl rfl rfl rfl ?_
  refine x_iconst (pc' := 27) rfl rfl ?_
  refine x_istore (pc' := 29) (ls' := [_, _, _, _, _, _, _, _, _, _, _]) rfl rfl rfl rfl ?_
  refine x_iload (pc' := 31) rfl rfl rfl ?_
  refine x_iload (pc' := 33) rfl rfl rfl ?_
  refine x_icmp (a' := 95) (pc' := 36) (z := false) rfl rfl rfl (by decide) (fun h => by cases h) (fun _ => ?_)
  refine x_aload (pc' := 38) rfl rfl rfl rfl rfl ?_
  refine x_iload (pc' := 40) rfl rfl rfl ?_
  refine x_aald (pc' := 41) (N := 3) (k' := 2) (r := (some 0)) rfl rfl rfl (kN_25_0 hc.1) (io_in (p := 0) (N := 3) (by decide) (by decide)) (Eq.trans (congrArg (sE t 25 0) (nn_io (p := 0) (by decide))) (kK hc.1 (by decide))) ?_
  refine x_astore (pc' := 43) (ls' := [_, _, _, _, _, _, _, _, _, _, _]) rfl rfl rfl rfl rfl ?_
  refine x_aload_n (pc' := 44) rfl rfl rfl rfl rfl ?_
  refine x_aload (pc' := 46) rfl rfl rfl rfl rfl ?_
  refine x_cv (ls0 := [_, _, sJk]) (rest := []) rfl rfl rfl rfl rfl ?_
  refine x_aload_n (pc' := 1) rfl rfl rfl rfl rfl ?_
  refine x_gI (pc' := 4) (x := 0) rfl rfl rfl (kI_128_0 hc.1) ?_
  refine x_istore_n (pc' := 5) (ls' := [_, _, _]) rfl rfl rfl rfl ?_
  refine x_iload_n (pc' := 6) rfl rfl rfl ?_
  refine x_if (a' := 27) (pc' := 9) (z := false) rfl rfl rfl (by decide) (fun h => by cases h) (fun _ => ?_)
  refine x_iload_n (pc' := 10) rfl rfl rfl ?_
  refine x_aload_n (pc' := 11) rfl rfl rfl rfl rfl ?_
  refine x_gR (pc' := 14) (r := (some (m + 1))) rfl rfl rfl (kMp hc.1 hm).1 ?_
  refine x_alen (pc' := 15) (N := 3) rfl rfl rfl (kMp hc.1 hm).2.1 (?_ : X _ _ _ (.inl 3 :: _) _ _)
  refine x_icmp (a' := 27) (pc' := 18) (z := false) rfl rfl rfl (by decide) (fun h => by cases h) (fun _ => ?_)
  refine x_aload_n (pc' := 19) rfl rfl rfl rfl rfl ?_
  refine x_gR (pc' := 22) (r := (some (m + 1))) rfl rfl rfl (kMp hc.1 hm).1 ?_
  refine x_iload_n (pc' := 23) rfl rfl rfl ?_
  refine x_iald (pc' := 24) (N := 3) (x := (mA M 6 ((3 * m) + 0))) rfl rfl rfl (kMp hc.1 hm).2.1 (io_in (p := 0) (N := 3) (by decide) (by decide)) (Eq.trans (congrArg (sA t 20 (m + 1)) (nn_io (p := 0) (by decide))) (kP (m := m) (c := 0) hM hm (by decide))) ?_
  refine x_goto (pc' := 28) rfl rfl ?_
  refine x_reti rfl rfl ?_
  refine sK_i (pc' := 49) rfl ?_
  refine x_istore (pc' := 51) (ls' := [_, _, _, _, _, _, _, _, _, _, _]) rfl rfl rfl rfl ?_
  refine x_iload (pc' := 53) rfl rfl rfl ?_
  refine x_aload_n (pc' := 54) rfl rfl rfl rfl rfl ?_
  refine x_ifnonnull (a' := 61) (pc' := 57) rfl rfl rfl rfl (fun i h => by cases h) (fun _ => ?_)
  refine x_iconst (pc' := 58) rfl rfl ?_
  refine x_goto (pc' := 67) rfl rfl ?_
  refine x_iadd (pc' := 68) (z := ((mA M 6 ((3 * m) + 0)) + 0)) rfl rfl rfl ?_
  refine x_istore (pc' := 70) (ls' := [_, _, _, _, _, _, _, _, _, _, _]) rfl rfl rfl rfl ?_
  refine x_iload (pc' := 72) rfl rfl rfl ?_
  refine x_iload (pc' := 74) rfl rfl rfl ?_
  refine x_aload_n (pc' := 75) rfl rfl rfl rfl rfl ?_
  refine x_iload (pc' := 77) rfl rfl rfl ?_
  refine x_aload (pc' := 79) rfl rfl rfl rfl rfl ?_
  refine x_gI (pc' := 82) (x := 0) rfl rfl rfl (kI_128_0 hc.1) ?_
  refine x_cv (ls0 := [_, _, _, sJk]) (rest := [_, _]) rfl rfl rfl rfl rfl ?_
  refine x_iload_n (pc' := 1) rfl rfl rfl ?_
  refine x_iconst (pc' := 2) rfl rfl ?_
  refine x_imul (pc' := 3) (z := 6) rfl rfl (by decide) ?_
  refine x_iload_n (pc' := 4) rfl rfl rfl ?_
  refine x_iadd (pc' := 5) (z := 6) rfl rfl (by decide) ?_
  refine x_istore_n (pc' := 6) (ls' := [_, _, _, _]) rfl rfl rfl rfl ?_
  refine x_iload_n (pc' := 7) rfl rfl rfl ?_
  refine x_if (a' := 28) (pc' := 10) (z := false) rfl rfl rfl (by decide) (fun h => by cases h) (fun _ => ?_)
  refine x_iload_n (pc' := 11) rfl rfl rfl ?_
  refine x_aload_n (pc' := 12) rfl rfl rfl rfl rfl ?_
  refine x_gR (pc' := 15) (r := (some 0)) rfl rfl rfl (kR_323_0 hc.1) ?_
  refine x_alen (pc' := 16) (N := 18) rfl rfl rfl (kN_20_0 hc.1) (?_ : X _ _ _ (.inl 18 :: _) _ _)
  refine x_icmp (a' := 28) (pc' := 19) (z := false) rfl rfl rfl (by decide) (fun h => by cases h) (fun _ => ?_)
  refine x_aload_n (pc' := 20) rfl rfl rfl rfl rfl ?_
  refine x_gR (pc' := 23) (r := (some 0)) rfl rfl rfl (kR_323_0 hc.1) ?_
  refine x_iload_n (pc' := 24) rfl rfl rfl ?_
  refine x_iald (pc' := 25) (N := 18) (x := (mA M 11 6)) rfl rfl rfl (kN_20_0 hc.1) (io_in (p := 6) (N := 18) (by decide) (by decide)) (Eq.trans (congrArg (sA t 20 0) (nn_io (p := 6) (by decide))) (kV hM (by decide))) ?_
  refine x_goto (pc' := 29) rfl rfl ?_
  refine x_reti rfl rfl ?_
  refine sK_i (pc' := 85) rfl ?_
  refine x_imul (pc' := 86) (z := (((mA M 6 ((3 * m) + 0)) + 0) * (mA M 11 6))) rfl rfl rfl ?_
  refine x_isub (pc' := 87) (z := (0 - (((mA M 6 ((3 * m) + 0)) + 0) * (mA M 11 6)))) rfl rfl rfl ?_
  refine x_istore (pc' := 89) (ls' := [_, _, _, _, _, _, _, _, _, _, _]) rfl rfl rfl rfl ?_
  refine x_iinc (pc' := 92) (y := 1) (ls' := [_, _, _, _, _, _, _, _, _, _, _]) rfl rfl rfl rfl rfl ?_
  refine x_goto (pc' := 29) rfl rfl ?_
  refine x_iload (pc' := 31) rfl rfl rfl ?_
  refine x_iload (pc' := 33) rfl rfl rfl ?_
  refine x_icmp (a' := 95) (pc' := 36) (z := false) rfl rfl rfl (by decide) (fun h => by cases h) (fun _ => ?_)
  refine x_aload (pc' := 38) rfl rfl rfl rfl rfl ?_
  refine x_iload (pc' := 40) rfl rfl rfl ?_
  refine x_aald (pc' := 41) (N := 3) (k' := 2) (r := (some 1)) rfl rfl rfl (kN_25_0 hc.1) (io_in (p := 1) (N := 3) (by decide) (by decide)) (Eq.trans (congrArg (sE t 25 0) (nn_io (p := 1) (by decide))) (kK hc.1 (by decide))) ?_
  refine x_astore (pc' := 43) (ls' := [_, _, _, _, _, _, _, _, _, _, _]) rfl rfl rfl rfl rfl ?_
  refine x_aload_n (pc' := 44) rfl rfl rfl rfl rfl ?_
  refine x_aload (pc' := 46) rfl rfl rfl rfl rfl ?_
  refine x_cv (ls0 := [_, _, sJk]) (rest := []) rfl rfl rfl rfl rfl ?_
  refine x_aload_n (pc' := 1) rfl rfl rfl rfl rfl ?_
  refine x_gI (pc' := 4) (x := 1) rfl rfl rfl (kI_128_1 hc.1) ?_
  refine x_istore_n (pc' := 5) (ls' := [_, _, _]) rfl rfl rfl rfl ?_
  refine x_iload_n (pc' := 6) rfl rfl rfl ?_
  refine x_if (a' := 27) (pc' := 9) (z := false) rfl rfl rfl (by decide) (fun h => by cases h) (fun _ => ?_)
  refine x_iload_n (pc' := 10) rfl rfl rfl ?_
  refine x_aload_n (pc' := 11) rfl rfl rfl rfl rfl ?_
  refine x_gR (pc' := 14) (r := (some (m + 1))) rfl rfl rfl (kMp hc.1 hm).1 ?_
  refine x_alen (pc' := 15) (N := 3) rfl rfl rfl (kMp hc.1 hm).2.1 (?_ : X _ _ _ (.inl 3 :: _) _ _)
  refine x_icmp (a' := 27) (pc' := 18) (z := false) rfl rfl rfl (by decide) (fun h => by cases h) (fun _ => ?_)
  refine x_aload_n (pc' := 19) rfl rfl rfl rfl rfl ?_
  refine x_gR (pc' := 22) (r := (some (m + 1))) rfl rfl rfl (kMp hc.1 hm).1 ?_
  refine x_iload_n (pc' := 23) rfl rfl rfl ?_
  refine x_iald (pc' := 24) (N := 3) (x := (mA M 6 ((3 * m) + 1))) rfl rfl rfl (kMp hc.1 hm).2.1 (io_in (p := 1) (N := 3) (by decide) (by decide)) (Eq.trans (congrArg (sA t 20 (m + 1)) (nn_io (p := 1) (by decide))) (kP (m := m) (c := 1) hM hm (by decide))) ?_
  refine x_goto (pc' := 28) rfl rfl ?_
  refine x_reti rfl rfl ?_
  refine sK_i (pc' := 49) rfl ?_
  refine x_istore (pc' := 51) (ls' := [_, _, _, _, _, _, _, _, _, _, _]) rfl rfl rfl rfl ?_
  refine x_iload (pc' := 53) rfl rfl rfl ?_
  refine x_aload_n (pc' := 54) rfl rfl rfl rfl rfl ?_
  refine x_ifnonnull (a' := 61) (pc' := 57) rfl rfl rfl rfl (fun i h => by cases h) (fun _ => ?_)
  refine x_iconst (pc' := 58) rfl rfl ?_
  refine x_goto (pc' := 67) rfl rfl ?_
  refine x_iadd (pc' := 68) (z := ((mA M 6 ((3 * m) + 1)) + 0)) rfl rfl rfl ?_
  refine x_istore (pc' := 70) (ls' := [_, _, _, _, _, _, _, _, _, _, _]) rfl rfl rfl rfl ?_
  refine x_iload (pc' := 72) rfl rfl rfl ?_
  refine x_iload (pc' := 74) rfl rfl rfl ?_
  refine x_aload_n (pc' := 75) rfl rfl rfl rfl rfl ?_
  refine x_iload (pc' := 77) rfl rfl rfl ?_
  refine x_aload (pc' := 79) rfl rfl rfl rfl rfl ?_
  refine x_gI (pc' := 82) (x := 1) rfl rfl rfl (kI_128_1 hc.1) ?_
  refine x_cv (ls0 := [_, _, _, sJk]) (rest := [_, _]) rfl rfl rfl rfl rfl ?_
  refine x_iload_n (pc' := 1) rfl rfl rfl ?_
  refine x_iconst (pc' := 2) rfl rfl ?_
  refine x_imul (pc' := 3) (z := 6) rfl rfl (by decide) ?_
  refine x_iload_n (pc' := 4) rfl rfl rfl ?_
  refine x_iadd (pc' := 5) (z := 7) rfl rfl (by decide) ?_
  refine x_istore_n (pc' := 6) (ls' := [_, _, _, _]) rfl rfl rfl rfl ?_
  refine x_iload_n (pc' := 7) rfl rfl rfl ?_
  refine x_if (a' := 28) (pc' := 10) (z := false) rfl rfl rfl (by decide) (fun h => by cases h) (fun _ => ?_)
  refine x_iload_n (pc' := 11) rfl rfl rfl ?_
  refine x_aload_n (pc' := 12) rfl rfl rfl rfl rfl ?_
  refine x_gR (pc' := 15) (r := (some 0)) rfl rfl rfl (kR_323_0 hc.1) ?_
  refine x_alen (pc' := 16) (N := 18) rfl rfl rfl (kN_20_0 hc.1) (?_ : X _ _ _ (.inl 18 :: _) _ _)
  refine x_icmp (a' := 28) (pc' := 19) (z := false) rfl rfl rfl (by decide) (fun h => by cases h) (fun _ => ?_)
  refine x_aload_n (pc' := 20) rfl rfl rfl rfl rfl ?_
  refine x_gR (pc' := 23) (r := (some 0)) rfl rfl rfl (kR_323_0 hc.1) ?_
  refine x_iload_n (pc' := 24) rfl rfl rfl ?_
  refine x_iald (pc' := 25) (N := 18) (x := (mA M 11 7)) rfl rfl rfl (kN_20_0 hc.1) (io_in (p := 7) (N := 18) (by decide) (by decide)) (Eq.trans (congrArg (sA t 20 0) (nn_io (p := 7) (by decide))) (kV hM (by decide))) ?_
  refine x_goto (pc' := 29) rfl rfl ?_
  refine x_reti rfl rfl ?_
  refine sK_i (pc' := 85) rfl ?_
  refine x_imul (pc' := 86) (z := (((mA M 6 ((3 * m) + 1)) + 0) * (mA M 11 7))) rfl rfl rfl ?_
  refine x_isub (pc' := 87) (z := ((0 - (((mA M 6 ((3 * m) + 0)) + 0) * (mA M 11 6))) - (((mA M 6 ((3 * m) + 1)) + 0) * (mA M 11 7)))) rfl rfl rfl ?_
  refine x_istore (pc' := 89) (ls' := [_, _, _, _, _, _, _, _, _, _, _]) rfl rfl rfl rfl ?_
  refine x_iinc (pc' := 92) (y := 2) (ls' := [_, _, _, _, _, _, _, _, _, _, _]) rfl rfl rfl rfl rfl ?_
  refine x_goto (pc' := 29) rfl rfl ?_
  refine x_iload (pc' := 31) rfl rfl rfl ?_
  refine x_iload (pc' := 33) rfl rfl rfl ?_
  refine x_icmp (a' := 95) (pc' := 36) (z := false) rfl rfl rfl (by decide) (fun h => by cases h) (fun _ => ?_)
  refine x_aload (pc' := 38) rfl rfl rfl rfl rfl ?_
  refine x_iload (pc' := 40) rfl rfl rfl ?_
  refine x_aald (pc' := 41) (N := 3) (k' := 2) (r := (some 2)) rfl rfl rfl (kN_25_0 hc.1) (io_in (p := 2) (N := 3) (by decide) (by decide)) (Eq.trans (congrArg (sE t 25 0) (nn_io (p := 2) (by decide))) (kK hc.1 (by decide))) ?_
  refine x_astore (pc' := 43) (ls' := [_, _, _, _, _, _, _, _, _, _, _]) rfl rfl rfl rfl rfl ?_
  refine x_aload_n (pc' := 44) rfl rfl rfl rfl rfl ?_
  refine x_aload (pc' := 46) rfl rfl rfl rfl rfl ?_
  refine x_cv (ls0 := [_, _, sJk]) (rest := []) rfl rfl rfl rfl rfl ?_
  refine x_aload_n (pc' := 1) rfl rfl rfl rfl rfl ?_
  refine x_gI (pc' := 4) (x := 2) rfl rfl rfl (kI_128_2 hc.1) ?_
  refine x_istore_n (pc' := 5) (ls' := [_, _, _]) rfl rfl rfl rfl ?_
  refine x_iload_n (pc' := 6) rfl rfl rfl ?_
  refine x_if (a' := 27) (pc' := 9) (z := false) rfl rfl rfl (by decide) (fun h => by cases h) (fun _ => ?_)
  refine x_iload_n (pc' := 10) rfl rfl rfl ?_
  refine x_aload_n (pc' := 11) rfl rfl rfl rfl rfl ?_
  refine x_gR (pc' := 14) (r := (some (m + 1))) rfl rfl rfl (kMp hc.1 hm).1 ?_
  refine x_alen (pc' := 15) (N := 3) rfl rfl rfl (kMp hc.1 hm).2.1 (?_ : X _ _ _ (.inl 3 :: _) _ _)
  refine x_icmp (a' := 27) (pc' := 18) (z := false) rfl rfl rfl (by decide) (fun h => by cases h) (fun _ => ?_)
  refine x_aload_n (pc' := 19) rfl rfl rfl rfl rfl ?_
  refine x_gR (pc' := 22) (r := (some (m + 1))) rfl rfl rfl (kMp hc.1 hm).1 ?_
  refine x_iload_n (pc' := 23) rfl rfl rfl ?_
  refine x_iald (pc' := 24) (N := 3) (x := (mA M 6 ((3 * m) + 2))) rfl rfl rfl (kMp hc.1 hm).2.1 (io_in (p := 2) (N := 3) (by decide) (by decide)) (Eq.trans (congrArg (sA t 20 (m + 1)) (nn_io (p := 2) (by decide))) (kP (m := m) (c := 2) hM hm (by decide))) ?_
  refine x_goto (pc' := 28) rfl rfl ?_
  refine x_reti rfl rfl ?_
  refine sK_i (pc' := 49) rfl ?_
  refine x_istore (pc' := 51) (ls' := [_, _, _, _, _, _, _, _, _, _, _]) rfl rfl rfl rfl ?_
  refine x_iload (pc' := 53) rfl rfl rfl ?_
  refine x_aload_n (pc' := 54) rfl rfl rfl rfl rfl ?_
  refine x_ifnonnull (a' := 61) (pc' := 57) rfl rfl rfl rfl (fun i h => by cases h) (fun _ => ?_)
  refine x_iconst (pc' := 58) rfl rfl ?_
  refine x_goto (pc' := 67) rfl rfl ?_
  refine x_iadd (pc' := 68) (z := ((mA M 6 ((3 * m) + 2)) + 0)) rfl rfl rfl ?_
  refine x_istore (pc' := 70) (ls' := [_, _, _, _, _, _, _, _, _, _, _]) rfl rfl rfl rfl ?_
  refine x_iload (pc' := 72) rfl rfl rfl ?_
  refine x_iload (pc' := 74) rfl rfl rfl ?_
  refine x_aload_n (pc' := 75) rfl rfl rfl rfl rfl ?_
  refine x_iload (pc' := 77) rfl rfl rfl ?_
  refine x_aload (pc' := 79) rfl rfl rfl rfl rfl ?_
  refine x_gI (pc' := 82) (x := 2) rfl rfl rfl (kI_128_2 hc.1) ?_
  refine x_cv (ls0 := [_, _, _, sJk]) (rest := [_, _]) rfl rfl rfl rfl rfl ?_
  refine x_iload_n (pc' := 1) rfl rfl rfl ?_
  refine x_iconst (pc' := 2) rfl rfl ?_
  refine x_imul (pc' := 3) (z := 6) rfl rfl (by decide) ?_
  refine x_iload_n (pc' := 4) rfl rfl rfl ?_
  refine x_iadd (pc' := 5) (z := 8) rfl rfl (by decide) ?_
  refine x_istore_n (pc' := 6) (ls' := [_, _, _, _]) rfl rfl rfl rfl ?_
  refine x_iload_n (pc' := 7) rfl rfl rfl ?_
  refine x_if (a' := 28) (pc' := 10) (z := false) rfl rfl rfl (by decide) (fun h => by cases h) (fun _ => ?_)
  refine x_iload_n (pc' := 11) rfl rfl rfl ?_
  refine x_aload_n (pc' := 12) rfl rfl rfl rfl rfl ?_
  refine x_gR (pc' := 15) (r := (some 0)) rfl rfl rfl (kR_323_0 hc.1) ?_
  refine x_alen (pc' := 16) (N := 18) rfl rfl rfl (kN_20_0 hc.1) (?_ : X _ _ _ (.inl 18 :: _) _ _)
  refine x_icmp (a' := 28) (pc' := 19) (z := false) rfl rfl rfl (by decide) (fun h => by cases h) (fun _ => ?_)
  refine x_aload_n (pc' := 20) rfl rfl rfl rfl rfl ?_
  refine x_gR (pc' := 23) (r := (some 0)) rfl rfl rfl (kR_323_0 hc.1) ?_
  refine x_iload_n (pc' := 24) rfl rfl rfl ?_
  refine x_iald (pc' := 25) (N := 18) (x := (mA M 11 8)) rfl rfl rfl (kN_20_0 hc.1) (io_in (p := 8) (N := 18) (by decide) (by decide)) (Eq.trans (congrArg (sA t 20 0) (nn_io (p := 8) (by decide))) (kV hM (by decide))) ?_
  refine x_goto (pc' := 29) rfl rfl ?_
  refine x_reti rfl rfl ?_
  refine sK_i (pc' := 85) rfl ?_
  refine x_imul (pc' := 86) (z := (((mA M 6 ((3 * m) + 2)) + 0) * (mA M 11 8))) rfl rfl rfl ?_
  refine x_isub (pc' := 87) (z := (((0 - (((mA M 6 ((3 * m) + 0)) + 0) * (mA M 11 6))) - (((mA M 6 ((3 * m) + 1)) + 0) * (mA M 11 7))) - (((mA M 6 ((3 * m) + 2)) + 0) * (mA M 11 8)))) rfl rfl rfl ?_
  refine x_istore (pc' := 89) (ls' := [_, _, _, _, _, _, _, _, _, _, _]) rfl rfl rfl rfl ?_
  refine x_iinc (pc' := 92) (y := 3) (ls' := [_, _, _, _, _, _, _, _, _, _, _]) rfl rfl rfl rfl rfl ?_
  refine x_goto (pc' := 29) rfl rfl ?_
  refine x_iload (pc' := 31) rfl rfl rfl ?_
  refine x_iload (pc' := 33) rfl rfl rfl ?_
  refine x_icmp (a' := 95) (pc' := 36) (z := true) rfl rfl rfl (by decide) (fun _ => ?_) (fun h => by cases h)
  refine x_iload_n (pc' := 96) rfl rfl rfl ?_
  refine x_iload (pc' := 98) rfl rfl rfl ?_
  refine x_max (pc' := 101) (z := (mx (mx (mx 0 (((0 - (((mA M 6 ((3 * m) + 0)) + 0) * (mA M 11 0))) - (((mA M 6 ((3 * m) + 1)) + 0) * (mA M 11 1))) - (((mA M 6 ((3 * m) + 2)) + 0) * (mA M 11 2)))) (((0 - (((mA M 6 ((3 * m) + 0)) + 0) * (mA M 11 3))) - (((mA M 6 ((3 * m) + 1)) + 0) * (mA M 11 4))) - (((mA M 6 ((3 * m) + 2)) + 0) * (mA M 11 5)))) (((0 - (((mA M 6 ((3 * m) + 0)) + 0) * (mA M 11 6))) - (((mA M 6 ((3 * m) + 1)) + 0) * (mA M 11 7))) - (((mA M 6 ((3 * m) + 2)) + 0) * (mA M 11 8))))) rfl rfl rfl rfl ?_
  refine x_istore_n (pc' := 102) (ls' := [_, _, _, _, _, _, _, _, _, _, _]) rfl rfl rfl rfl ?_
  refine x_iinc (pc' := 105) (y := 3) (ls' := [_, _, _, _, _, _, _, _, _, _, _]) rfl rfl rfl rfl rfl ?_
  refine x_goto (pc' := 5) rfl rfl ?_
  refine x_iload (pc' := 7) rfl rfl rfl ?_
  refine x_bipush (pc' := 9) rfl rfl ?_
  refine x_icmp (a' := 108) (pc' := 12) (z := false) rfl rfl rfl (by decide) (fun h => by cases h) (fun _ => ?_)
  refine x_iconst (pc' := 13) rfl rfl ?_
  refine x_istore (pc' := 15) (ls' := [_, _, _, _, _, _, _, _, _, _, _]) rfl rfl rfl rfl ?_
  refine x_aload_n (pc' := 16) rfl rfl rfl rfl rfl ?_
  refine x_gR (pc' := 19) (r := (some 0)) rfl rfl rfl (kR_320_0 hc.1) ?_
  refine x_astore (pc' := 21) (ls' := [_, _, _, _, _, _, _, _, _, _, _]) rfl rfl rfl rfl rfl ?_
  refine x_aload (pc' := 23) rfl rfl rfl rfl rfl ?_
  refine x_alen (pc' := 24) (N := 3) rfl rfl rfl (kN_25_0 hc.1) (?_ : X _ _ _ (.inl 3 :: _) _ _)
  refine x_istore (pc' := 26) (ls' := [_, _, _, _, _, _, _, _, _, _, _]) rfl rfl rfl rfl ?_
  refine x_iconst (pc' := 27) rfl rfl ?_
  refine x_istore (pc' := 29) (ls' := [_, _, _, _, _, _, _, _, _, _, _]) rfl rfl rfl rfl ?_
  refine x_iload (pc' := 31) rfl rfl rfl ?_
  refine x_iload (pc' := 33) rfl rfl rfl ?_
  refine x_icmp (a' := 95) (pc' := 36) (z := false) rfl rfl rfl (by decide) (fun h => by cases h) (fun _ => ?_)
  refine x_aload (pc' := 38) rfl rfl rfl rfl rfl ?_
  refine x_iload (pc' := 40) rfl rfl rfl ?_
  refine x_aald (pc' := 41) (N := 3) (k' := 2) (r := (some 0)) rfl rfl rfl (kN_25_0 hc.1) (io_in (p := 0) (N := 3) (by decide) (by decide)) (Eq.trans (congrArg (sE t 25 0) (nn_io (p := 0) (by decide))) (kK hc.1 (by decide))) ?_
  refine x_astore (pc' := 43) (ls' := [_, _, _, _, _, _, _, _, _, _, _]) rfl rfl rfl rfl rfl ?_
  refine x_aload_n (pc' := 44) rfl rfl rfl rfl rfl ?_
  refine x_aload (pc' := 46) rfl rfl rfl rfl rfl ?_
  refine x_cv (ls0 := [_, _, sJk]) (rest := []) rfl rfl rfl rfl rfl ?_
  refine x_aload_n (pc' := 1) rfl rfl rfl rfl rfl ?_
  refine x_gI (pc' := 4) (x := 0) rfl rfl rfl (kI_128_0 hc.1) ?_
  refine x_istore_n (pc' := 5) (ls' := [_, _, _]) rfl rfl rfl rfl ?_
  refine x_iload_n (pc' := 6) rfl rfl rfl ?_
  refine x_if (a' := 27) (pc' := 9) (z := false) rfl rfl rfl (by decide) (fun h => by cases h) (fun _ => ?_)
  refine x_iload_n (pc' := 10) rfl rfl rfl ?_
  refine x_aload_n (pc' := 11) rfl rfl rfl rfl rfl ?_
  refine x_gR (pc' := 14) (r := (some (m + 1))) rfl rfl rfl (kMp hc.1 hm).1 ?_
  refine x_alen (pc' := 15) (N := 3) rfl rfl rfl (kMp hc.1 hm).2.1 (?_ : X _ _ _ (.inl 3 :: _) _ _)
  refine x_icmp (a' := 27) (pc' := 18) (z := false) rfl rfl rfl (by decide) (fun h => by cases h) (fun _ => ?_)
  refine x_aload_n (pc' := 19) rfl rfl rfl rfl rfl ?_
  refine x_gR (pc' := 22) (r := (some (m + 1))) rfl rfl rfl (kMp hc.1 hm).1 ?_
  refine x_iload_n (pc' := 23) rfl rfl rfl ?_
  refine x_iald (pc' := 24) (N := 3) (x := (mA M 6 ((3 * m) + 0))) rfl rfl rfl (kMp hc.1 hm).2.1 (io_in (p := 0) (N := 3) (by decide) (by decide)) (Eq.trans (congrArg (sA t 20 (m + 1)) (nn_io (p := 0) (by decide))) (kP (m := m) (c := 0) hM hm (by decide))) ?_
  refine x_goto (pc' := 28) rfl rfl ?_
  refine x_reti rfl rfl ?_
  refine sK_i (pc' := 49) rfl ?_
  refine x_istore (pc' := 51) (ls' := [_, _, _, _, _, _, _, _, _, _, _]) rfl rfl rfl rfl ?_
  refine x_iload (pc' := 53) rfl rfl rfl ?_
  refine x_aload_n (pc' := 54) rfl rfl rfl rfl rfl ?_
  refine x_ifnonnull (a' := 61) (pc' := 57) rfl rfl rfl rfl (fun i h => by cases h) (fun _ => ?_)
  refine x_iconst (pc' := 58) rfl rfl ?_
  refine x_goto (pc' := 67) rfl rfl ?_
  refine x_iadd (pc' := 68) (z := ((mA M 6 ((3 * m) + 0)) + 0)) rfl rfl rfl ?_
  refine x_istore (pc' := 70) (ls' := [_, _, _, _, _, _, _, _, _, _, _]) rfl rfl rfl rfl ?_
  refine x_iload (pc' := 72) rfl rfl rfl ?_
  refine x_iload (pc' := 74) rfl rfl rfl ?_
  refine x_aload_n (pc' := 75) rfl rfl rfl rfl rfl ?_
  refine x_iload (pc' := 77) rfl rfl rfl ?_
  refine x_aload (pc' := 79) rfl rfl rfl rfl rfl ?_
  refine x_gI (pc' := 82) (x := 0) rfl rfl rfl (kI_128_0 hc.1) ?_
  refine x_cv (ls0 := [_, _, _, sJk]) (rest := [_, _]) rfl rfl rfl rfl rfl ?_
  refine x_iload_n (pc' := 1) rfl rfl rfl ?_
  refine x_iconst (pc' := 2) rfl rfl ?_
  refine x_imul (pc' := 3) (z := 9) rfl rfl (by decide) ?_
  refine x_iload_n (pc' := 4) rfl rfl rfl ?_
  refine x_iadd (pc' := 5) (z := 9) rfl rfl (by decide) ?_
  refine x_istore_n (pc' := 6) (ls' := [_, _, _, _]) rfl rfl rfl rfl ?_
  refine x_iload_n (pc' := 7) rfl rfl rfl ?_
  refine x_if (a' := 28) (pc' := 10) (z := false) rfl rfl rfl (by decide) (fun h => by cases h) (fun _ => ?_)
  refine x_iload_n (pc' := 11) rfl rfl rfl ?_
  refine x_aload_n (pc' := 12) rfl rfl rfl rfl rfl ?_
  refine x_gR (pc' := 15) (r := (some 0)) rfl rfl rfl (kR_323_0 hc.1) ?_
  refine x_alen (pc' := 16) (N := 18) rfl rfl rfl (kN_20_0 hc.1) (?_ : X _ _ _ (.inl 18 :: _) _ _)
  refine x_icmp (a' := 28) (pc' := 19) (z := false) rfl rfl rfl (by decide) (fun h => by cases h) (fun _ => ?_)
  refine x_aload_n (pc' := 20) rfl rfl rfl rfl rfl ?_
  refine x_gR (pc' := 23) (r := (some 0)) rfl rfl rfl (kR_323_0 hc.1) ?_
  refine x_iload_n (pc' := 24) rfl rfl rfl ?_
  refine x_iald (pc' := 25) (N := 18) (x := (mA M 11 9)) rfl rfl rfl (kN_20_0 hc.1) (io_in (p := 9) (N := 18) (by decide) (by decide)) (Eq.trans (congrArg (sA t 20 0) (nn_io (p := 9) (by decide))) (kV hM (by decide))) ?_
  refine x_goto (pc' := 29) rfl rfl ?_
  refine x_reti rfl rfl ?_
  refine sK_i (pc' := 85) rfl ?_
  refine x_imul (pc' := 86) (z := (((mA M 6 ((3 * m) + 0)) + 0) * (mA M 11 9))) rfl rfl rfl ?_
  refine x_isub (pc' := 87) (z := (0 - (((mA M 6 ((3 * m) + 0)) + 0) * (mA M 11 9)))) rfl rfl rfl ?_
  refine x_istore (pc' := 89) (ls' := [_, _, _, _, _, _, _, _, _, _, _]) rfl rfl rfl rfl ?_
  refine x_iinc (pc' := 92) (y := 1) (ls' := [_, _, _, _, _, _, _, _, _, _, _]) rfl rfl rfl rfl rfl ?_
  refine x_goto (pc' := 29) rfl rfl ?_
  refine x_iload (pc' := 31) rfl rfl rfl ?_
  refine x_iload (pc' := 33) rfl rfl rfl ?_
  refine x_icmp (a' := 95) (pc' := 36) (z := false) rfl rfl rfl (by decide) (fun h => by cases h) (fun _ => ?_)
  refine x_aload (pc' := 38) rfl rfl rfl rfl rfl ?_
  refine x_iload (pc' := 40) rfl rfl rfl ?_
  refine x_aald (pc' := 41) (N := 3) (k' := 2) (r := (some 1)) rfl rfl rfl (kN_25_0 hc.1) (io_in (p := 1) (N := 3) (by decide) (by decide)) (Eq.trans (congrArg (sE t 25 0) (nn_io (p := 1) (by decide))) (kK hc.1 (by decide))) ?_
  refine x_astore (pc' := 43) (ls' := [_, _, _, _, _, _, _, _, _, _, _]) rfl rfl rfl rfl rfl ?_
  refine x_aload_n (pc' := 44) rfl rfl rfl rfl rfl ?_
  refine x_aload (pc' := 46) rfl rfl rfl rfl rfl ?_
  refine x_cv (ls0 := [_, _, sJk]) (rest := []) rfl rfl rfl rfl rfl ?_
  refine x_aload_n (pc' := 1) rfl rfl rfl rfl rfl ?_
  refine x_gI (pc' := 4) (x := 1) rfl rfl rfl (kI_128_1 hc.1) ?_
  refine x_istore_n (pc' := 5) (ls' := [_, _, _]) rfl rfl rfl rfl ?_
  refine x_iload_n (pc' := 6) rfl rfl rfl ?_
  refine x_if (a' := 27) (pc' := 9) (z := false) rfl rfl rfl (by decide) (fun h => by cases h) (fun _ => ?_)
  refine x_iload_n (pc' := 10) rfl rfl rfl ?_
  refine x_aload_n (pc' := 11) rfl rfl rfl rfl rfl ?_
  refine x_gR (pc' := 14) (r := (some (m + 1))) rfl rfl rfl (kMp hc.1 hm).1 ?_
  refine x_alen (pc' := 15) (N := 3) rfl rfl rfl (kMp hc.1 hm).2.1 (?_ : X _ _ _ (.inl 3 :: _) _ _)
  refine x_icmp (a' := 27) (pc' := 18) (z := false) rfl rfl rfl (by decide) (fun h => by cases h) (fun _ => ?_)
  refine x_aload_n (pc' := 19) rfl rfl rfl rfl rfl ?_
  refine x_gR (pc' := 22) (r := (some (m + 1))) rfl rfl rfl (kMp hc.1 hm).1 ?_
  refine x_iload_n (pc' := 23) rfl rfl rfl ?_
  refine x_iald (pc' := 24) (N := 3) (x := (mA M 6 ((3 * m) + 1))) rfl rfl rfl (kMp hc.1 hm).2.1 (io_in (p := 1) (N := 3) (by decide) (by decide)) (Eq.trans (congrArg (sA t 20 (m + 1)) (nn_io (p := 1) (by decide))) (kP (m := m) (c := 1) hM hm (by decide))) ?_
  refine x_goto (pc' := 28) rfl rfl ?_
  refine x_reti rfl rfl ?_
  refine sK_i (pc' := 49) rfl ?_
  refine x_istore (pc' := 51) (ls' := [_, _, _, _, _, _, _, _, _, _, _]) rfl rfl rfl rfl ?_
  refine x_iload (pc' := 53) rfl rfl rfl ?_
  refine x_aload_n (pc' := 54) rfl rfl rfl rfl rfl ?_
  refine x_ifnonnull (a' := 61) (pc' := 57) rfl rfl rfl rfl (fun i h => by cases h) (fun _ => ?_)
  refine x_iconst (pc' := 58) rfl rfl ?_
  refine x_goto (pc' := 67) rfl rfl ?_
  refine x_iadd (pc' := 68) (z := ((mA M 6 ((3 * m) + 1)) + 0)) rfl rfl rfl ?_
  refine x_istore (pc' := 70) (ls' := [_, _, _, _, _, _, _, _, _, _, _]) rfl rfl rfl rfl ?_
  refine x_iload (pc' := 72) rfl rfl rfl ?_
  refine x_iload (pc' := 74) rfl rfl rfl ?_
  refine x_aload_n (pc' := 75) rfl rfl rfl rfl rfl ?_
  refine x_iload (pc' := 77) rfl rfl rfl ?_
  refine x_aload (pc' := 79) rfl rfl rfl rfl rfl ?_
  refine x_gI (pc' := 82) (x := 1) rfl rfl rfl (kI_128_1 hc.1) ?_
  refine x_cv (ls0 := [_, _, _, sJk]) (rest := [_, _]) rfl rfl rfl rfl rfl ?_
  refine x_iload_n (pc' := 1) rfl rfl rfl ?_
  refine x_iconst (pc' := 2) rfl rfl ?_
  refine x_imul (pc' := 3) (z := 9) rfl rfl (by decide) ?_
  refine x_iload_n (pc' := 4) rfl rfl rfl ?_
  refine x_iadd (pc' := 5) (z := 10) rfl rfl (by decide) ?_
  refine x_istore_n (pc' := 6) (ls' := [_, _, _, _]) rfl rfl rfl rfl ?_
  refine x_iload_n (pc' := 7) rfl rfl rfl ?_
  refine x_if (a' := 28) (pc' := 10) (z := false) rfl rfl rfl (by decide) (fun h => by cases h) (fun _ => ?_)
  refine x_iload_n (pc' := 11) rfl rfl rfl ?_
  refine x_aload_n (pc' := 12) rfl rfl rfl rfl rfl ?_
  refine x_gR (pc' := 15) (r := (some 0)) rfl rfl rfl (kR_323_0 hc.1) ?_
  refine x_alen (pc' := 16) (N := 18) rfl rfl rfl (kN_20_0 hc.1) (?_ : X _ _ _ (.inl 18 :: _) _ _)
  refine x_icmp (a' := 28) (pc' := 19) (z := false) rfl rfl rfl (by decide) (fun h => by cases h) (fun _ => ?_)
  refine x_aload_n (pc' := 20) rfl rfl rfl rfl rfl ?_
  refine x_gR (pc' := 23) (r := (some 0)) rfl rfl rfl (kR_323_0 hc.1) ?_
  refine x_iload_n (pc' := 24) rfl rfl rfl ?_
  refine x_iald (pc' := 25) (N := 18) (x := (mA M 11 10)) rfl rfl rfl (kN_20_0 hc.1) (io_in (p := 10) (N := 18) (by decide) (by decide)) (Eq.trans (congrArg (sA t 20 0) (nn_io (p := 10) (by decide))) (kV hM (by decide))) ?_
  refine x_goto (pc' := 29) rfl rfl ?_
  refine x_reti rfl rfl ?_
  refine sK_i (pc' := 85) rfl ?_
  refine x_imul (pc' := 86) (z := (((mA M 6 ((3 * m) + 1)) + 0) * (mA M 11 10))) rfl rfl rfl ?_
  refine x_isub (pc' := 87) (z := ((0 - (((mA M 6 ((3 * m) + 0)) + 0) * (mA M 11 9))) - (((mA M 6 ((3 * m) + 1)) + 0) * (mA M 11 10)))) rfl rfl rfl ?_
  refine x_istore (pc' := 89) (ls' := [_, _, _, _, _, _, _, _, _, _, _]) rfl rfl rfl rfl ?_
  refine x_iinc (pc' := 92) (y := 2) (ls' := [_, _, _, _, _, _, _, _, _, _, _]) rfl rfl rfl rfl rfl ?_
  refine x_goto (pc' := 29) rfl rfl ?_
  refine x_iload (pc' := 31) rfl rfl rfl ?_
  refine x_iload (pc' := 33) rfl rfl rfl ?_
  refine x_icmp (a' := 95) (pc' := 36) (z := false) rfl rfl rfl (by decide) (fun h => by cases h) (fun _ => ?_)
  refine x_aload (pc' := 38) rfl rfl rfl rfl rfl ?_
  refine x_iload (pc' := 40) rfl rfl rfl ?_
  refine x_aald (pc' := 41) (N := 3) (k' := 2) (r := (some 2)) rfl rfl rfl (kN_25_0 hc.1) (io_in (p := 2) (N := 3) (by decide) (by decide)) (Eq.trans (congrArg (sE t 25 0) (nn_io (p := 2) (by decide))) (kK hc.1 (by decide))) ?_
  refine x_astore (pc' := 43) (ls' := [_, _, _, _, _, _, _, _, _, _, _]) rfl rfl rfl rfl rfl ?_
  refine x_aload_n (pc' := 44) rfl rfl rfl rfl rfl ?_
  refine x_aload (pc' := 46) rfl rfl rfl rfl rfl ?_
  refine x_cv (ls0 := [_, _, sJk]) (rest := []) rfl rfl rfl rfl rfl ?_
  refine x_aload_n (pc' := 1) rfl rfl rfl rfl rfl ?_
  refine x_gI (pc' := 4) (x := 2) rfl rfl rfl (kI_128_2 hc.1) ?_
  refine x_istore_n (pc' := 5) (ls' := [_, _, _]) rfl rfl rfl rfl ?_
  refine x_iload_n (pc' := 6) rfl rfl rfl ?_
  refine x_if (a' := 27) (pc' := 9) (z := false) rfl rfl rfl (by decide) (fun h => by cases h) (fun _ => ?_)
  refine x_iload_n (pc' := 10) rfl rfl rfl ?_
  refine x_aload_n (pc' := 11) rfl rfl rfl rfl rfl ?_
  refine x_gR (pc' := 14) (r := (some (m + 1))) rfl rfl rfl (kMp hc.1 hm).1 ?_
  refine x_alen (pc' := 15) (N := 3) rfl rfl rfl (kMp hc.1 hm).2.1 (?_ : X _ _ _ (.inl 3 :: _) _ _)
  refine x_icmp (a' := 27) (pc' := 18) (z := false) rfl rfl rfl (by decide) (fun h => by cases h) (fun _ => ?_)
  refine x_aload_n (pc' := 19) rfl rfl rfl rfl rfl ?_
  refine x_gR (pc' := 22) (r := (some (m + 1))) rfl rfl rfl (kMp hc.1 hm).1 ?_
  refine x_iload_n (pc' := 23) rfl rfl rfl ?_
  refine x_iald (pc' := 24) (N := 3) (x := (mA M 6 ((3 * m) + 2))) rfl rfl rfl (kMp hc.1 hm).2.1 (io_in (p := 2) (N := 3) (by decide) (by decide)) (Eq.trans (congrArg (sA t 20 (m + 1)) (nn_io (p := 2) (by decide))) (kP (m := m) (c := 2) hM hm (by decide))) ?_
  refine x_goto (pc' := 28) rfl rfl ?_
  refine x_reti rfl rfl ?_
  refine sK_i (pc' := 49) rfl ?_
  refine x_istore (pc' := 51) (ls' := [_, _, _, _, _, _, _, _, _, _, _]) rfl rfl rfl rfl ?_
  refine x_iload (pc' := 53) rfl rfl rfl ?_
  refine x_aload_n (pc' := 54) rfl rfl rfl rfl rfl ?_
  refine x_ifnonnull (a' := 61) (pc' := 57) rfl rfl rfl rfl (fun i h => by cases h) (fun _ => ?_)
  refine x_iconst (pc' := 58) rfl rfl ?_
  refine x_goto (pc' := 67) rfl rfl ?_
  refine x_iadd (pc' := 68) (z := ((mA M 6 ((3 * m) + 2)) + 0)) rfl rfl rfl ?_
  refine x_istore (pc' := 70) (ls' := [_, _, _, _, _, _, _, _, _, _, _]) rfl rfl rfl rfl ?_
  refine x_iload (pc' := 72) rfl rfl rfl ?_
  refine x_iload (pc' := 74) rfl rfl rfl ?_
  refine x_aload_n (pc' := 75) rfl rfl rfl rfl rfl ?_
  refine x_iload (pc' := 77) rfl rfl rfl ?_
  refine x_aload (pc' := 79) rfl rfl rfl rfl rfl ?_
  refine x_gI (pc' := 82) (x := 2) rfl rfl rfl (kI_128_2 hc.1) ?_
  refine x_cv (ls0 := [_, _, _, sJk]) (rest := [_, _]) rfl rfl rfl rfl rfl ?_
  refine x_iload_n (pc' := 1) rfl rfl rfl ?_
  refine x_iconst (pc' := 2) rfl rfl ?_
  refine x_imul (pc' := 3) (z := 9) rfl rfl (by decide) ?_
  refine x_iload_n (pc' := 4) rfl rfl rfl ?_
  refine x_iadd (pc' := 5) (z := 11) rfl rfl (by decide) ?_
  refine x_istore_n (pc' := 6) (ls' := [_, _, _, _]) rfl rfl rfl rfl ?_
  refine x_iload_n (pc' := 7) rfl rfl rfl ?_
  refine x_if (a' := 28) (pc' := 10) (z := false) rfl rfl rfl (by decide) (fun h => by cases h) (fun _ => ?_)
  refine x_iload_n (pc' := 11) rfl rfl rfl ?_
  refine x_aload_n (pc' := 12) rfl rfl rfl rfl rfl ?_
  refine x_gR (pc' := 15) (r := (some 0)) rfl rfl rfl (kR_323_0 hc.1) ?_
  refine x_alen (pc' := 16) (N := 18) rfl rfl rfl (kN_20_0 hc.1) (?_ : X _ _ _ (.inl 18 :: _) _ _)
  refine x_icmp (a' := 28) (pc' := 19) (z := false) rfl rfl rfl (by decide) (fun h => by cases h) (fun _ => ?_)
  refine x_aload_n (pc' := 20) rfl rfl rfl rfl rfl ?_
  refine x_gR (pc' := 23) (r := (some 0)) rfl rfl rfl (kR_323_0 hc.1) ?_
  refine x_iload_n (pc' := 24) rfl rfl rfl ?_
  refine x_iald (pc' := 25) (N := 18) (x := (mA M 11 11)) rfl rfl rfl (kN_20_0 hc.1) (io_in (p := 11) (N := 18) (by decide) (by decide)) (Eq.trans (congrArg (sA t 20 0) (nn_io (p := 11) (by decide))) (kV hM (by decide))) ?_
  refine x_goto (pc' := 29) rfl rfl ?_
  refine x_reti rfl rfl ?_
  refine sK_i (pc' := 85) rfl ?_
  refine x_imul (pc' := 86) (z := (((mA M 6 ((3 * m) + 2)) + 0) * (mA M 11 11))) rfl rfl rfl ?_
  refine x_isub (pc' := 87) (z := (((0 - (((mA M 6 ((3 * m) + 0)) + 0) * (mA M 11 9))) - (((mA M 6 ((3 * m) + 1)) + 0) * (mA M 11 10))) - (((mA M 6 ((3 * m) + 2)) + 0) * (mA M 11 11)))) rfl rfl rfl ?_
  refine x_istore (pc' := 89) (ls' := [_, _, _, _, _, _, _, _, _, _, _]) rfl rfl rfl rfl ?_
  refine x_iinc (pc' := 92) (y := 3) (ls' := [_, _, _, _, _, _, _, _, _, _, _]) rfl rfl rfl rfl rfl ?_
  refine x_goto (pc' := 29) rfl rfl ?_
  refine x_iload (pc' := 31) rfl rfl rfl ?_
  refine x_iload (pc' := 33) rfl rfl rfl ?_
  refine x_icmp (a' := 95) (pc' := 36) (z := true) rfl rfl rfl (by decide) (fun _ => ?_) (fun h => by cases h)
  refine x_iload_n (pc' := 96) rfl rfl rfl ?_
  refine x_iload (pc' := 98) rfl rfl rfl ?_
  refine x_max (pc' := 101) (z := (mx (mx (mx (mx 0 (((0 - (((mA M 6 ((3 * m) + 0)) + 0) * (mA M 11 0))) - (((mA M 6 ((3 * m) + 1)) + 0) * (mA M 11 1))) - (((mA M 6 ((3 * m) + 2)) + 0) * (mA M 11 2)))) (((0 - (((mA M 6 ((3 * m) + 0)) + 0) * (mA M 11 3))) - (((mA M 6 ((3 * m) + 1)) + 0) * (mA M 11 4))) - (((mA M 6 ((3 * m) + 2)) + 0) * (mA M 11 5)))) (((0 - (((mA M 6 ((3 * m) + 0)) + 0) * (mA M 11 6))) - (((mA M 6 ((3 * m) + 1)) + 0) * (mA M 11 7))) - (((mA M 6 ((3 * m) + 2)) + 0) * (mA M 11 8)))) (((0 - (((mA M 6 ((3 * m) + 0)) + 0) * (mA M 11 9))) - (((mA M 6 ((3 * m) + 1)) + 0) * (mA M 11 10))) - (((mA M 6 ((3 * m) + 2)) + 0) * (mA M 11 11))))) rfl rfl rfl rfl ?_
  refine x_istore_n (pc' := 102) (ls' := [_, _, _, _, _, _, _, _, _, _, _]) rfl rfl rfl rfl ?_
  refine x_iinc (pc' := 105) (y := 4) (ls' := [_, _, _, _, _, _, _, _, _, _, _]) rfl rfl rfl rfl rfl ?_
  refine x_goto (pc' := 5) rfl rfl ?_
  refine x_iload (pc' := 7) rfl rfl rfl ?_
  refine x_bipush (pc' := 9) rfl rfl ?_
  refine x_icmp (a' := 108) (pc' := 12) (z := false) rfl rfl rfl (by decide) (fun h => by cases h) (fun _ => ?_)
  refine x_iconst (pc' := 13) rfl rfl ?_
  refine x_istore (pc' := 15) (ls' := [_, _, _, _, _, _, _, _, _, _, _]) rfl rfl rfl rfl ?_
  refine x_aload_n (pc' := 16) rfl rfl rfl rfl rfl ?_
  refine x_gR (pc' := 19) (r := (some 0)) rfl rfl rfl (kR_320_0 hc.1) ?_
  refine x_astore (pc' := 21) (ls' := [_, _, _, _, _, _, _, _, _, _, _]) rfl rfl rfl rfl rfl ?_
  refine x_aload (pc' := 23) rfl rfl rfl rfl rfl ?_
  refine x_alen (pc' := 24) (N := 3) rfl rfl rfl (kN_25_0 hc.1) (?_ : X _ _ _ (.inl 3 :: _) _ _)
  refine x_istore (pc' := 26) (ls' := [_, _, _, _, _, _, _, _, _, _, _]) rfl rfl rfl rfl ?_
  refine x_iconst (pc' := 27) rfl rfl ?_
  refine x_istore (pc' := 29) (ls' := [_, _, _, _, _, _, _, _, _, _, _]) rfl rfl rfl rfl ?_
  refine x_iload (pc' := 31) rfl rfl rfl ?_
  refine x_iload (pc' := 33) rfl rfl rfl ?_
  refine x_icmp (a' := 95) (pc' := 36) (z := false) rfl rfl rfl (by decide) (fun h => by cases h) (fun _ => ?_)
  refine x_aload (pc' := 38) rfl rfl rfl rfl rfl ?_
  refine x_iload (pc' := 40) rfl rfl rfl ?_
  refine x_aald (pc' := 41) (N := 3) (k' := 2) (r := (some 0)) rfl rfl rfl (kN_25_0 hc.1) (io_in (p := 0) (N := 3) (by decide) (by decide)) (Eq.trans (congrArg (sE t 25 0) (nn_io (p := 0) (by decide))) (kK hc.1 (by decide))) ?_
  refine x_astore (pc' := 43) (ls' := [_, _, _, _, _, _, _, _, _, _, _]) rfl rfl rfl rfl rfl ?_
  refine x_aload_n (pc' := 44) rfl rfl rfl rfl rfl ?_
  refine x_aload (pc' := 46) rfl rfl rfl rfl rfl ?_
  refine x_cv (ls0 := [_, _, sJk]) (rest := []) rfl rfl rfl rfl rfl ?_
  refine x_aload_n (pc' := 1) rfl rfl rfl rfl rfl ?_
  refine x_gI (pc' := 4) (x := 0) rfl rfl rfl (kI_128_0 hc.1) ?_
  refine x_istore_n (pc' := 5) (ls' := [_, _, _]) rfl rfl rfl rfl ?_
  refine x_iload_n (pc' := 6) rfl rfl rfl ?_
  refine x_if (a' := 27) (pc' := 9) (z := false) rfl rfl rfl (by decide) (fun h => by cases h) (fun _ => ?_)
  refine x_iload_n (pc' := 10) rfl rfl rfl ?_
  refine x_aload_n (pc' := 11) rfl rfl rfl rfl rfl ?_
  refine x_gR (pc' := 14) (r := (some (m + 1))) rfl rfl rfl (kMp hc.1 hm).1 ?_
  refine x_alen (pc' := 15) (N := 3) rfl rfl rfl (kMp hc.1 hm).2.1 (?_ : X _ _ _ (.inl 3 :: _) _ _)
  refine x_icmp (a' := 27) (pc' := 18) (z := false) rfl rfl rfl (by decide) (fun h => by cases h) (fun _ => ?_)
  refine x_aload_n (pc' := 19) rfl rfl rfl rfl rfl ?_
  refine x_gR (pc' := 22) (r := (some (m + 1))) rfl rfl rfl (kMp hc.1 hm).1 ?_
  refine x_iload_n (pc' := 23) rfl rfl rfl ?_
  refine x_iald (pc' := 24) (N := 3) (x := (mA M 6 ((3 * m) + 0))) rfl rfl rfl (kMp hc.1 hm).2.1 (io_in (p := 0) (N := 3) (by decide) (by decide)) (Eq.trans (congrArg (sA t 20 (m + 1)) (nn_io (p := 0) (by decide))) (kP (m := m) (c := 0) hM hm (by decide))) ?_
  refine x_goto (pc' := 28) rfl rfl ?_
  refine x_reti rfl rfl ?_
  refine sK_i (pc' := 49) rfl ?_
  refine x_istore (pc' := 51) (ls' := [_, _, _, _, _, _, _, _, _, _, _]) rfl rfl rfl rfl ?_
  refine x_iload (pc' := 53) rfl rfl rfl ?_
  refine x_aload_n (pc' := 54) rfl rfl rfl rfl rfl ?_
  refine x_ifnonnull (a' := 61) (pc' := 57) rfl rfl rfl rfl (fun i h => by cases h) (fun _ => ?_)
  refine x_iconst (pc' := 58) rfl rfl ?_
  refine x_goto (pc' := 67) rfl rfl ?_
  refine x_iadd (pc' := 68) (z := ((mA M 6 ((3 * m) + 0)) + 0)) rfl rfl rfl ?_
  refine x_istore (pc' := 70) (ls' := [_, _, _, _, _, _, _, _, _, _, _]) rfl rfl rfl rfl ?_
  refine x_iload (pc' := 72) rfl rfl rfl ?_
  refine x_iload (pc' := 74) rfl rfl rfl ?_
  refine x_aload_n (pc' := 75) rfl rfl rfl rfl rfl ?_
  refine x_iload (pc' := 77) rfl rfl rfl ?_
  refine x_aload (pc' := 79) rfl rfl rfl rfl rfl ?_
  refine x_gI (pc' := 82) (x := 0) rfl rfl rfl (kI_128_0 hc.1) ?_
  refine x_cv (ls0 := [_, _, _, sJk]) (rest := [_, _]) rfl rfl rfl rfl rfl ?_
  refine x_iload_n (pc' := 1) rfl rfl rfl ?_
  refine x_iconst (pc' := 2) rfl rfl ?_
  refine x_imul (pc' := 3) (z := 12) rfl rfl (by decide) ?_
  refine x_iload_n (pc' := 4) rfl rfl rfl ?_
  refine x_iadd (pc' := 5) (z := 12) rfl rfl (by decide) ?_
  refine x_istore_n (pc' := 6) (ls' := [_, _, _, _]) rfl rfl rfl rfl ?_
  refine x_iload_n (pc' := 7) rfl rfl rfl ?_
  refine x_if (a' := 28) (pc' := 10) (z := false) rfl rfl rfl (by decide) (fun h => by cases h) (fun _ => ?_)
  refine x_iload_n (pc' := 11) rfl rfl rfl ?_
  refine x_aload_n (pc' := 12) rfl rfl rfl rfl rfl ?_
  refine x_gR (pc' := 15) (r := (some 0)) rfl rfl rfl (kR_323_0 hc.1) ?_
  refine x_alen (pc' := 16) (N := 18) rfl rfl rfl (kN_20_0 hc.1) (?_ : X _ _ _ (.inl 18 :: _) _ _)
  refine x_icmp (a' := 28) (pc' := 19) (z := false) rfl rfl rfl (by decide) (fun h => by cases h) (fun _ => ?_)
  refine x_aload_n (pc' := 20) rfl rfl rfl rfl rfl ?_
  refine x_gR (pc' := 23) (r := (some 0)) rfl rfl rfl (kR_323_0 hc.1) ?_
  refine x_iload_n (pc' := 24) rfl rfl rfl ?_
  refine x_iald (pc' := 25) (N := 18) (x := (mA M 11 12)) rfl rfl rfl (kN_20_0 hc.1) (io_in (p := 12) (N := 18) (by decide) (by decide)) (Eq.trans (congrArg (sA t 20 0) (nn_io (p := 12) (by decide))) (kV hM (by decide))) ?_
  refine x_goto (pc' := 29) rfl rfl ?_
  refine x_reti rfl rfl ?_
  refine sK_i (pc' := 85) rfl ?_
  refine x_imul (pc' := 86) (z := (((mA M 6 ((3 * m) + 0)) + 0) * (mA M 11 12))) rfl rfl rfl ?_
  refine x_isub (pc' := 87) (z := (0 - (((mA M 6 ((3 * m) + 0)) + 0) * (mA M 11 12)))) rfl rfl rfl ?_
  refine x_istore (pc' := 89) (ls' := [_, _, _, _, _, _, _, _, _, _, _]) rfl rfl rfl rfl ?_
  refine x_iinc (pc' := 92) (y := 1) (ls' := [_, _, _, _, _, _, _, _, _, _, _]) rfl rfl rfl rfl rfl ?_
  refine x_goto (pc' := 29) rfl rfl ?_
  refine x_iload (pc' := 31) rfl rfl rfl ?_
  refine x_iload (pc' := 33) rfl rfl rfl ?_
  refine x_icmp (a' := 95) (pc' := 36) (z := false) rfl rfl rfl (by decide) (fun h => by cases h) (fun _ => ?_)
  refine x_aload (pc' := 38) rfl rfl rfl rfl rfl ?_
  refine x_iload (pc' := 40) rfl rfl rfl ?_
  refine x_aald (pc' := 41) (N := 3) (k' := 2) (r := (some 1)) rfl rfl rfl (kN_25_0 hc.1) (io_in (p := 1) (N := 3) (by decide) (by decide)) (Eq.trans (congrArg (sE t 25 0) (nn_io (p := 1) (by decide))) (kK hc.1 (by decide))) ?_
  refine x_astore (pc' := 43) (ls' := [_, _, _, _, _, _, _, _, _, _, _]) rfl rfl rfl rfl rfl ?_
  refine x_aload_n (pc' := 44) rfl rfl rfl rfl rfl ?_
  refine x_aload (pc' := 46) rfl rfl rfl rfl rfl ?_
  refine x_cv (ls0 := [_, _, sJk]) (rest := []) rfl rfl rfl rfl rfl ?_
  refine x_aload_n (pc' := 1) rfl rfl rfl rfl rfl ?_
  refine x_gI (pc' := 4) (x := 1) rfl rfl rfl (kI_128_1 hc.1) ?_
  refine x_istore_n (pc' := 5) (ls' := [_, _, _]) rfl rfl rfl rfl ?_
  refine x_iload_n (pc' := 6) rfl rfl rfl ?_
  refine x_if (a' := 27) (pc' := 9) (z := false) rfl rfl rfl (by decide) (fun h => by cases h) (fun _ => ?_)
  refine x_iload_n (pc' := 10) rfl rfl rfl ?_
  refine x_aload_n (pc' := 11) rfl rfl rfl rfl rfl ?_
  refine x_gR (pc' := 14) (r := (some (m + 1))) rfl rfl rfl (kMp hc.1 hm).1 ?_
  refine x_alen (pc' := 15) (N := 3) rfl rfl rfl (kMp hc.1 hm).2.1 (?_ : X _ _ _ (.inl 3 :: _) _ _)
  refine x_icmp (a' := 27) (pc' := 18) (z := false) rfl rfl rfl (by decide) (fun h => by cases h) (fun _ => ?_)
  refine x_aload_n (pc' := 19) rfl rfl rfl rfl rfl ?_
  refine x_gR (pc' := 22) (r := (some (m + 1))) rfl rfl rfl (kMp hc.1 hm).1 ?_
  refine x_iload_n (pc' := 23) rfl rfl rfl ?_
  refine x_iald (pc' := 24) (N := 3) (x := (mA M 6 ((3 * m) + 1))) rfl rfl rfl (kMp hc.1 hm).2.1 (io_in (p := 1) (N := 3) (by decide) (by decide)) (Eq.trans (congrArg (sA t 20 (m + 1)) (nn_io (p := 1) (by decide))) (kP (m := m) (c := 1) hM hm (by decide))) ?_
  refine x_goto (pc' := 28) rfl rfl ?_
  refine x_reti rfl rfl ?_
  refine sK_i (pc' := 49) rfl ?_
  refine x_istore (pc' := 51) (ls' := [_, _, _, _, _, _, _, _, _, _, _]) rfl rfl rfl rfl ?_
  refine x_iload (pc' := 53) rfl rfl rfl ?_
  refine x_aload_n (pc' := 54) rfl rfl rfl rfl rfl ?_
  refine x_ifnonnull (a' := 61) (pc' := 57) rfl rfl rfl rfl (fun i h => by cases h) (fun _ => ?_)
  refine x_iconst (pc' := 58) rfl rfl ?_
  refine x_goto (pc' := 67) rfl rfl ?_
  refine x_iadd (pc' := 68) (z := ((mA M 6 ((3 * m) + 1)) + 0)) rfl rfl rfl ?_
  refine x_istore (pc' := 70) (ls' := [_, _, _, _, _, _, _, _, _, _, _]) rfl rfl rfl rfl ?_
  refine x_iload (pc' := 72) rfl rfl rfl ?_
  refine x_iload (pc' := 74) rfl rfl rfl ?_
  refine x_aload_n (pc' := 75) rfl rfl rfl rfl rfl ?_
  refine x_iload (pc' := 77) rfl rfl rfl ?_
  refine x_aload (pc' := 79) rfl rfl rfl rfl rfl ?_
  refine x_gI (pc' := 82) (x := 1) rfl rfl rfl (kI_128_1 hc.1) ?_
  refine x_cv (ls0 := [_, _, _, sJk]) (rest := [_, _]) rfl rfl rfl rfl rfl ?_
  refine x_iload_n (pc' := 1) rfl rfl rfl ?_
  refine x_iconst (pc' := 2) rfl rfl ?_
  refine x_imul (pc' := 3) (z := 12) rfl rfl (by decide) ?_
  refine x_iload_n (pc' := 4) rfl rfl rfl ?_
  refine x_iadd (pc' := 5) (z := 13) rfl rfl (by decide) ?_
  refine x_istore_n (pc' := 6) (ls' := [_, _, _, _]) rfl rfl rfl rfl ?_
  refine x_iload_n (pc' := 7) rfl rfl rfl ?_
  refine x_if (a' := 28) (pc' := 10) (z := false) rfl rfl rfl (by decide) (fun h => by cases h) (fun _ => ?_)
  refine x_iload_n (pc' := 11) rfl rfl rfl ?_
  refine x_aload_n (pc' := 12) rfl rfl rfl rfl rfl ?_
  refine x_gR (pc' := 15) (r := (some 0)) rfl rfl rfl (kR_323_0 hc.1) ?_
  refine x_alen (pc' := 16) (N := 18) rfl rfl rfl (kN_20_0 hc.1) (?_ : X _ _ _ (.inl 18 :: _) _ _)
  refine x_icmp (a' := 28) (pc' := 19) (z := false) rfl rfl rfl (by decide) (fun h => by cases h) (fun _ => ?_)
  refine x_aload_n (pc' := 20) rfl rfl rfl rfl rfl ?_
  refine x_gR (pc' := 23) (r := (some 0)) rfl rfl rfl (kR_323_0 hc.1) ?_
  refine x_iload_n (pc' := 24) rfl rfl rfl ?_
  refine x_iald (pc' := 25) (N := 18) (x := (mA M 11 13)) rfl rfl rfl (kN_20_0 hc.1) (io_in (p := 13) (N := 18) (by decide) (by decide)) (Eq.trans (congrArg (sA t 20 0) (nn_io (p := 13) (by decide))) (kV hM (by decide))) ?_
  refine x_goto (pc' := 29) rfl rfl ?_
  refine x_reti rfl rfl ?_
  refine sK_i (pc' := 85) rfl ?_
  refine x_imul (pc' := 86) (z := (((mA M 6 ((3 * m) + 1)) + 0) * (mA M 11 13))) rfl rfl rfl ?_
  refine x_isub (pc' := 87) (z := ((0 - (((mA M 6 ((3 * m) + 0)) + 0) * (mA M 11 12))) - (((mA M 6 ((3 * m) + 1)) + 0) * (mA M 11 13)))) rfl rfl rfl ?_
  refine x_istore (pc' := 89) (ls' := [_, _, _, _, _, _, _, _, _, _, _]) rfl rfl rfl rfl ?_
  refine x_iinc (pc' := 92) (y := 2) (ls' := [_, _, _, _, _, _, _, _, _, _, _]) rfl rfl rfl rfl rfl ?_
  refine x_goto (pc' := 29) rfl rfl ?_
  refine x_iload (pc' := 31) rfl rfl rfl ?_
  refine x_iload (pc' := 33) rfl rfl rfl ?_
  refine x_icmp (a' := 95) (pc' := 36) (z := false) rfl rfl rfl (by decide) (fun h => by cases h) (fun _ => ?_)
  refine x_aload (pc' := 38) rfl rfl rfl rfl rfl ?_
  refine x_iload (pc' := 40) rfl rfl rfl ?_
  refine x_aald (pc' := 41) (N := 3) (k' := 2) (r := (some 2)) rfl rfl rfl (kN_25_0 hc.1) (io_in (p := 2) (N := 3) (by decide) (by decide)) (Eq.trans (congrArg (sE t 25 0) (nn_io (p := 2) (by decide))) (kK hc.1 (by decide))) ?_
  refine x_astore (pc' := 43) (ls' := [_, _, _, _, _, _, _, _, _, _, _]) rfl rfl rfl rfl rfl ?_
  refine x_aload_n (pc' := 44) rfl rfl rfl rfl rfl ?_
  refine x_aload (pc' := 46) rfl rfl rfl rfl rfl ?_
  refine x_cv (ls0 := [_, _, sJk]) (rest := []) rfl rfl rfl rfl rfl ?_
  refine x_aload_n (pc' := 1) rfl rfl rfl rfl rfl ?_
  refine x_gI (pc' := 4) (x := 2) rfl rfl rfl (kI_128_2 hc.1) ?_
  refine x_istore_n (pc' := 5) (ls' := [_, _, _]) rfl rfl rfl rfl ?_
  refine x_iload_n (pc' := 6) rfl rfl rfl ?_
  refine x_if (a' := 27) (pc' := 9) (z := false) rfl rfl rfl (by decide) (fun h => by cases h) (fun _ => ?_)
  refine x_iload_n (pc' := 10) rfl rfl rfl ?_
  refine x_aload_n (pc' := 11) rfl rfl rfl rfl rfl ?_
  refine x_gR (pc' := 14) (r := (some (m + 1))) rfl rfl rfl (kMp hc.1 hm).1 ?_
  refine x_alen (pc' := 15) (N := 3) rfl rfl rfl (kMp hc.1 hm).2.1 (?_ : X _ _ _ (.inl 3 :: _) _ _)
  refine x_icmp (a' := 27) (pc' := 18) (z := false) rfl rfl rfl (by decide) (fun h => by cases h) (fun _ => ?_)
  refine x_aload_n (pc' := 19) rfl rfl rfl rfl rfl ?_
  refine x_gR (pc' := 22) (r := (some (m + 1))) rfl rfl rfl (kMp hc.1 hm).1 ?_
  refine x_iload_n (pc' := 23) rfl rfl rfl ?_
  refine x_iald (pc' := 24) (N := 3) (x := (mA M 6 ((3 * m) + 2))) rfl rfl rfl (kMp hc.1 hm).2.1 (io_in (p := 2) (N := 3) (by decide) (by decide)) (Eq.trans (congrArg (sA t 20 (m + 1)) (nn_io (p := 2) (by decide))) (kP (m := m) (c := 2) hM hm (by decide))) ?_
  refine x_goto (pc' := 28) rfl rfl ?_
  refine x_reti rfl rfl ?_
  refine sK_i (pc' := 49) rfl ?_
  refine x_istore (pc' := 51) (ls' := [_, _, _, _, _, _, _, _, _, _, _]) rfl rfl rfl rfl ?_
  refine x_iload (pc' := 53) rfl rfl rfl ?_
  refine x_aload_n (pc' := 54) rfl rfl rfl rfl rfl ?_
  refine x_ifnonnull (a' := 61) (pc' := 57) rfl rfl rfl rfl (fun i h => by cases h) (fun _ => ?_)
  refine x_iconst (pc' := 58) rfl rfl ?_
  refine x_goto (pc' := 67) rfl rfl ?_
  refine x_iadd (pc' := 68) (z := ((mA M 6 ((3 * m) + 2)) + 0)) rfl rfl rfl ?_
  refine x_istore (pc' := 70) (ls' := [_, _, _, _, _, _, _, _, _, _, _]) rfl rfl rfl rfl ?_
  refine x_iload (pc' := 72) rfl rfl rfl ?_
  refine x_iload (pc' := 74) rfl rfl rfl ?_
  refine x_aload_n (pc' := 75) rfl rfl rfl rfl rfl ?_
  refine x_iload (pc' := 77) rfl rfl rfl ?_
  refine x_aload (pc' := 79) rfl rfl rfl rfl rfl ?_
  refine x_gI (pc' := 82) (x := 2) rfl rfl rfl (kI_128_2 hc.1) ?_
  refine x_cv (ls0 := [_, _, _, sJk]) (rest := [_, _]) rfl rfl rfl rfl rfl ?_
  refine x_iload_n (pc' := 1) rfl rfl rfl ?_
  refine x_iconst (pc' := 2) rfl rfl ?_
  refine x_imul (pc' := 3) (z := 12) rfl rfl (by decide) ?_
  refine x_iload_n (pc' := 4) rfl rfl rfl ?_
  refine x_iadd (pc' := 5) (z := 14) rfl rfl (by decide) ?_
  refine x_istore_n (pc' := 6) (ls' := [_, _, _, _]) rfl rfl rfl rfl ?_
  refine x_iload_n (pc' := 7) rfl rfl rfl ?_
  refine x_if (a' := 28) (pc' := 10) (z := false) rfl rfl rfl (by decide) (fun h => by cases h) (fun _ => ?_)
  refine x_iload_n (pc' := 11) rfl rfl rfl ?_
  refine x_aload_n (pc' := 12) rfl rfl rfl rfl rfl ?_
  refine x_gR (pc' := 15) (r := (some 0)) rfl rfl rfl (kR_323_0 hc.1) ?_
  refine x_alen (pc' := 16) (N := 18) rfl rfl rfl (kN_20_0 hc.1) (?_ : X _ _ _ (.inl 18 :: _) _ _)
  refine x_icmp (a' := 28) (pc' := 19) (z := false) rfl rfl rfl (by decide) (fun h => by cases h) (fun _ => ?_)
  refine x_aload_n (pc' := 20) rfl rfl rfl rfl rfl ?_
  refine x_gR (pc' := 23) (r := (some 0)) rfl rfl rfl (kR_323_0 hc.1) ?_
  refine x_iload_n (pc' := 24) rfl rfl rfl ?_
  refine x_iald (pc' := 25) (N := 18) (x := (mA M 11 14)) rfl rfl rfl (kN_20_0 hc.1) (io_in (p := 14) (N := 18) (by decide) (by decide)) (Eq.trans (congrArg (sA t 20 0) (nn_io (p := 14) (by decide))) (kV hM (by decide))) ?_
  refine x_goto (pc' := 29) rfl rfl ?_
  refine x_reti rfl rfl ?_
  refine sK_i (pc' := 85) rfl ?_
  refine x_imul (pc' := 86) (z := (((mA M 6 ((3 * m) + 2)) + 0) * (mA M 11 14))) rfl rfl rfl ?_
  refine x_isub (pc' := 87) (z := (((0 - (((mA M 6 ((3 * m) + 0)) + 0) * (mA M 11 12))) - (((mA M 6 ((3 * m) + 1)) + 0) * (mA M 11 13))) - (((mA M 6 ((3 * m) + 2)) + 0) * (mA M 11 14)))) rfl rfl rfl ?_
  refine x_istore (pc' := 89) (ls' := [_, _, _, _, _, _, _, _, _, _, _]) rfl rfl rfl rfl ?_
  refine x_iinc (pc' := 92) (y := 3) (ls' := [_, _, _, _, _, _, _, _, _, _, _]) rfl rfl rfl rfl rfl ?_
  refine x_goto (pc' := 29) rfl rfl ?_
  refine x_iload (pc' := 31) rfl rfl rfl ?_
  refine x_iload (pc' := 33) rfl rfl rfl ?_
  refine x_icmp (a' := 95) (pc' := 36) (z := true) rfl rfl rfl (by decide) (fun _ => ?_) (fun h => by cases h)
  refine x_iload_n (pc' := 96) rfl rfl rfl ?_
  refine x_iload (pc' := 98) rfl rfl rfl ?_
  refine x_max (pc' := 101) (z := (mx (mx (mx (mx (mx 0 (((0 - (((mA M 6 ((3 * m) + 0)) + 0) * (mA M 11 0))) - (((mA M 6 ((3 * m) + 1)) + 0) * (mA M 11 1))) - (((mA M 6 ((3 * m) + 2)) + 0) * (mA M 11 2)))) (((0 - (((mA M 6 ((3 * m) + 0)) + 0) * (mA M 11 3))) - (((mA M 6 ((3 * m) + 1)) + 0) * (mA M 11 4))) - (((mA M 6 ((3 * m) + 2)) + 0) * (mA M 11 5)))) (((0 - (((mA M 6 ((3 * m) + 0)) + 0) * (mA M 11 6))) - (((mA M 6 ((3 * m) + 1)) + 0) * (mA M 11 7))) - (((mA M 6 ((3 * m) + 2)) + 0) * (mA M 11 8)))) (((0 - (((mA M 6 ((3 * m) + 0)) + 0) * (mA M 11 9))) - (((mA M 6 ((3 * m) + 1)) + 0) * (mA M 11 10))) - (((mA M 6 ((3 * m) + 2)) + 0) * (mA M 11 11)))) (((0 - (((mA M 6 ((3 * m) + 0)) + 0) * (mA M 11 12))) - (((mA M 6 ((3 * m) + 1)) + 0) * (mA M 11 13))) - (((mA M 6 ((3 * m) + 2)) + 0) * (mA M 11 14))))) rfl rfl rfl rfl ?_
  refine x_istore_n (pc' := 102) (ls' := [_, _, _, _, _, _, _, _, _, _, _]) rfl rfl rfl rfl ?_
  refine x_iinc (pc' := 105) (y := 5) (ls' := [_, _, _, _, _, _, _, _, _, _, _]) rfl rfl rfl rfl rfl ?_
  refine x_goto (pc' := 5) rfl rfl ?_
  refine x_iload (pc' := 7) rfl rfl rfl ?_
  refine x_bipush (pc' := 9) rfl rfl ?_
  refine x_icmp (a' := 108) (pc' := 12) (z := false) rfl rfl rfl (by decide) (fun h => by cases h) (fun _ => ?_)
  refine x_iconst (pc' := 13) rfl rfl ?_
  refine x_istore (pc' := 15) (ls' := [_, _, _, _, _, _, _, _, _, _, _]) rfl rfl rfl rfl ?_
  refine x_aload_n (pc' := 16) rfl rfl rfl rfl rfl ?_
  refine x_gR (pc' := 19) (r := (some 0)) rfl rfl rfl (kR_320_0 hc.1) ?_
  refine x_astore (pc' := 21) (ls' := [_, _, _, _, _, _, _, _, _, _, _]) rfl rfl rfl rfl rfl ?_
  refine x_aload (pc' := 23) rfl rfl rfl rfl rfl ?_
  refine x_alen (pc' := 24) (N := 3) rfl rfl rfl (kN_25_0 hc.1) (?_ : X _ _ _ (.inl 3 :: _) _ _)
  refine x_istore (pc' := 26) (ls' := [_, _, _, _, _, _, _, _, _, _, _]) rfl rfl rfl rfl ?_
  refine x_iconst (pc' := 27) rfl rfl ?_
  refine x_istore (pc' := 29) (ls' := [_, _, _, _, _, _, _, _, _, _, _]) rfl rfl rfl rfl ?_
  refine x_iload (pc' := 31) rfl rfl rfl ?_
  refine x_iload (pc' := 33) rfl rfl rfl ?_
  refine x_icmp (a' := 95) (pc' := 36) (z := false) rfl rfl rfl (by decide) (fun h => by cases h) (fun _ => ?_)
  refine x_aload (pc' := 38) rfl rfl rfl rfl rfl ?_
  refine x_iload (pc' := 40) rfl rfl rfl ?_
  refine x_aald (pc' := 41) (N := 3) (k' := 2) (r := (some 0)) rfl rfl rfl (kN_25_0 hc.1) (io_in (p := 0) (N := 3) (by decide) (by decide)) (Eq.trans (congrArg (sE t 25 0) (nn_io (p := 0) (by decide))) (kK hc.1 (by decide))) ?_
  refine x_astore (pc' := 43) (ls' := [_, _, _, _, _, _, _, _, _, _, _]) rfl rfl rfl rfl rfl ?_
  refine x_aload_n (pc' := 44) rfl rfl rfl rfl rfl ?_
  refine x_aload (pc' := 46) rfl rfl rfl rfl rfl ?_
  refine x_cv (ls0 := [_, _, sJk]) (rest := []) rfl rfl rfl rfl rfl ?_
  refine x_aload_n (pc' := 1) rfl rfl rfl rfl rfl ?_
  refine x_gI (pc' := 4) (x := 0) rfl rfl rfl (kI_128_0 hc.1) ?_
  refine x_istore_n (pc' := 5) (ls' := [_, _, _]) rfl rfl rfl rfl ?_
  refine x_iload_n (pc' := 6) rfl rfl rfl ?_
  refine x_if (a' := 27) (pc' := 9) (z := false) rfl rfl rfl (by decide) (fun h => by cases h) (fun _ => ?_)
  refine x_iload_n (pc' := 10) rfl rfl rfl ?_
  refine x_aload_n (pc' := 11) rfl rfl rfl rfl rfl ?_
  refine x_gR (pc' := 14) (r := (some (m + 1))) rfl rfl rfl (kMp hc.1 hm).1 ?_
  refine x_alen (pc' := 15) (N := 3) rfl rfl rfl (kMp hc.1 hm).2.1 (?_ : X _ _ _ (.inl 3 :: _) _ _)
  refine x_icmp (a' := 27) (pc' := 18) (z := false) rfl rfl rfl (by decide) (fun h => by cases h) (fun _ => ?_)
  refine x_aload_n (pc' := 19) rfl rfl rfl rfl rfl ?_
  refine x_gR (pc' := 22) (r := (some (m + 1))) rfl rfl rfl (kMp hc.1 hm).1 ?_
  refine x_iload_n (pc' := 23) rfl rfl rfl ?_
  refine x_iald (pc' := 24) (N := 3) (x := (mA M 6 ((3 * m) + 0))) rfl rfl rfl (kMp hc.1 hm).2.1 (io_in (p := 0) (N := 3) (by decide) (by decide)) (Eq.trans (congrArg (sA t 20 (m + 1)) (nn_io (p := 0) (by decide))) (kP (m := m) (c := 0) hM hm (by decide))) ?_
  refine x_goto (pc' := 28) rfl rfl ?_
  refine x_reti rfl rfl ?_
  refine sK_i (pc' := 49) rfl ?_
  refine x_istore (pc' := 51) (ls' := [_, _, _, _, _, _, _, _, _, _, _]) rfl rfl rfl rfl ?_
  refine x_iload (pc' := 53) rfl rfl rfl ?_
  refine x_aload_n (pc' := 54) rfl rfl rfl rfl rfl ?_
  refine x_ifnonnull (a' := 61) (pc' := 57) rfl rfl rfl rfl (fun i h => by cases h) (fun _ => ?_)
  refine x_iconst (pc' := 58) rfl rfl ?_
  refine x_goto (pc' := 67) rfl rfl ?_
  refine x_iadd (pc' := 68) (z := ((mA M 6 ((3 * m) + 0)) + 0)) rfl rfl rfl ?_
  refine x_istore (pc' := 70) (ls' := [_, _, _, _, _, _, _, _, _, _, _]) rfl rfl rfl rfl ?_
  refine x_iload (pc' := 72) rfl rfl rfl ?_
  refine x_iload (pc' := 74) rfl rfl rfl ?_
  refine x_aload_n (pc' := 75) rfl rfl rfl rfl rfl ?_
  refine x_iload (pc' := 77) rfl rfl rfl ?_
  refine x_aload (pc' := 79) rfl rfl rfl rfl rfl ?_
  refine x_gI (pc' := 82) (x := 0) rfl rfl rfl (kI_128_0 hc.1) ?_
  refine x_cv (ls0 := [_, _, _, sJk]) (rest := [_, _]) rfl rfl rfl rfl rfl ?_
  refine x_iload_n (pc' := 1) rfl rfl rfl ?_
  refine x_iconst (pc' := 2) rfl rfl ?_
  refine x_imul (pc' := 3) (z := 15) rfl rfl (by decide) ?_
  refine x_iload_n (pc' := 4) rfl rfl rfl ?_
  refine x_iadd (pc' := 5) (z := 15) rfl rfl (by decide) ?_
  refine x_istore_n (pc' := 6) (ls' := [_, _, _, _]) rfl rfl rfl rfl ?_
  refine x_iload_n (pc' := 7) rfl rfl rfl ?_
  refine x_if (a' := 28) (pc' := 10) (z := false) rfl rfl rfl (by decide) (fun h => by cases h) (fun _ => ?_)
  refine x_iload_n (pc' := 11) rfl rfl rfl ?_
  refine x_aload_n (pc' := 12) rfl rfl rfl rfl rfl ?_
  refine x_gR (pc' := 15) (r := (some 0)) rfl rfl rfl (kR_323_0 hc.1) ?_
  refine x_alen (pc' := 16) (N := 18) rfl rfl rfl (kN_20_0 hc.1) (?_ : X _ _ _ (.inl 18 :: _) _ _)
  refine x_icmp (a' := 28) (pc' := 19) (z := false) rfl rfl rfl (by decide) (fun h => by cases h) (fun _ => ?_)
  refine x_aload_n (pc' := 20) rfl rfl rfl rfl rfl ?_
  refine x_gR (pc' := 23) (r := (some 0)) rfl rfl rfl (kR_323_0 hc.1) ?_
  refine x_iload_n (pc' := 24) rfl rfl rfl ?_
  refine x_iald (pc' := 25) (N := 18) (x := (mA M 11 15)) rfl rfl rfl (kN_20_0 hc.1) (io_in (p := 15) (N := 18) (by decide) (by decide)) (Eq.trans (congrArg (sA t 20 0) (nn_io (p := 15) (by decide))) (kV hM (by decide))) ?_
  refine x_goto (pc' := 29) rfl rfl ?_
  refine x_reti rfl rfl ?_
  refine sK_i (pc' := 85) rfl ?_
  refine x_imul (pc' := 86) (z := (((mA M 6 ((3 * m) + 0)) + 0) * (mA M 11 15))) rfl rfl rfl ?_
  refine x_isub (pc' := 87) (z := (0 - (((mA M 6 ((3 * m) + 0)) + 0) * (mA M 11 15)))) rfl rfl rfl ?_
  refine x_istore (pc' := 89) (ls' := [_, _, _, _, _, _, _, _, _, _, _]) rfl rfl rfl rfl ?_
  refine x_iinc (pc' := 92) (y := 1) (ls' := [_, _, _, _, _, _, _, _, _, _, _]) rfl rfl rfl rfl rfl ?_
  refine x_goto (pc' := 29) rfl rfl ?_
  refine x_iload (pc' := 31) rfl rfl rfl ?_
  refine x_iload (pc' := 33) rfl rfl rfl ?_
  refine x_icmp (a' := 95) (pc' := 36) (z := false) rfl rfl rfl (by decide) (fun h => by cases h) (fun _ => ?_)
  refine x_aload (pc' := 38) rfl rfl rfl rfl rfl ?_
  refine x_iload (pc' := 40) rfl rfl rfl ?_
  refine x_aald (pc' := 41) (N := 3) (k' := 2) (r := (some 1)) rfl rfl rfl (kN_25_0 hc.1) (io_in (p := 1) (N := 3) (by decide) (by decide)) (Eq.trans (congrArg (sE t 25 0) (nn_io (p := 1) (by decide))) (kK hc.1 (by decide))) ?_
  refine x_astore (pc' := 43) (ls' := [_, _, _, _, _, _, _, _, _, _, _]) rfl rfl rfl rfl rfl ?_
  refine x_aload_n (pc' := 44) rfl rfl rfl rfl rfl ?_
  refine x_aload (pc' := 46) rfl rfl rfl rfl rfl ?_
  refine x_cv (ls0 := [_, _, sJk]) (rest := []) rfl rfl rfl rfl rfl ?_
  refine x_aload_n (pc' := 1) rfl rfl rfl rfl rfl ?_
  refine x_gI (pc' := 4) (x := 1) rfl rfl rfl (kI_128_1 hc.1) ?_
  refine x_istore_n (pc' := 5) (ls' := [_, _, _]) rfl rfl rfl rfl ?_
  refine x_iload_n (pc' := 6) rfl rfl rfl ?_
  refine x_if (a' := 27) (pc' := 9) (z := false) rfl rfl rfl (by decide) (fun h => by cases h) (fun _ => ?_)
  refine x_iload_n (pc' := 10) rfl rfl rfl ?_
  refine x_aload_n (pc' := 11) rfl rfl rfl rfl rfl ?_
  refine x_gR (pc' := 14) (r := (some (m + 1))) rfl rfl rfl (kMp hc.1 hm).1 ?_
  refine x_alen (pc' := 15) (N := 3) rfl rfl rfl (kMp hc.1 hm).2.1 (?_ : X _ _ _ (.inl 3 :: _) _ _)
  refine x_icmp (a' := 27) (pc' := 18) (z := false) rfl rfl rfl (by decide) (fun h => by cases h) (fun _ => ?_)
  refine x_aload_n (pc' := 19) rfl rfl rfl rfl rfl ?_
  refine x_gR (pc' := 22) (r := (some (m + 1))) rfl rfl rfl (kMp hc.1 hm).1 ?_
  refine x_iload_n (pc' := 23) rfl rfl rfl ?_
  refine x_iald (pc' := 24) (N := 3) (x := (mA M 6 ((3 * m) + 1))) rfl rfl rfl (kMp hc.1 hm).2.1 (io_in (p := 1) (N := 3) (by decide) (by decide)) (Eq.trans (congrArg (sA t 20 (m + 1)) (nn_io (p := 1) (by decide))) (kP (m := m) (c := 1) hM hm (by decide))) ?_
  refine x_goto (pc' := 28) rfl rfl ?_
  refine x_reti rfl rfl ?_
  refine sK_i (pc' := 49) rfl ?_
  refine x_istore (pc' := 51) (ls' := [_, _, _, _, _, _, _, _, _, _, _]) rfl rfl rfl rfl ?_
  refine x_iload (pc' := 53) rfl rfl rfl ?_
  refine x_aload_n (pc' := 54) rfl rfl rfl rfl rfl ?_
  refine x_ifnonnull (a' := 61) (pc' := 57) rfl rfl rfl rfl (fun i h => by cases h) (fun _ => ?_)
  refine x_iconst (pc' := 58) rfl rfl ?_
  refine x_goto (pc' := 67) rfl rfl ?_
  refine x_iadd (pc' := 68) (z := ((mA M 6 ((3 * m) + 1)) + 0)) rfl rfl rfl ?_
  refine x_istore (pc' := 70) (ls' := [_, _, _, _, _, _, _, _, _, _, _]) rfl rfl rfl rfl ?_
  refine x_iload (pc' := 72) rfl rfl rfl ?_
  refine x_iload (pc' := 74) rfl rfl rfl ?_
  refine x_aload_n (pc' := 75) rfl rfl rfl rfl rfl ?_
  refine x_iload (pc' := 77) rfl rfl rfl ?_
  refine x_aload (pc' := 79) rfl rfl rfl rfl rfl ?_
  refine x_gI (pc' := 82) (x := 1) rfl rfl rfl (kI_128_1 hc.1) ?_
  refine x_cv (ls0 := [_, _, _, sJk]) (rest := [_, _]) rfl rfl rfl rfl rfl ?_
  refine x_iload_n (pc' := 1) rfl rfl rfl ?_
  refine x_iconst (pc' := 2) rfl rfl ?_
  refine x_imul (pc' := 3) (z := 15) rfl rfl (by decide) ?_
  refine x_iload_n (pc' := 4) rfl rfl rfl ?_
  refine x_iadd (pc' := 5) (z := 16) rfl rfl (by decide) ?_
  refine x_istore_n (pc' := 6) (ls' := [_, _, _, _]) rfl rfl rfl rfl ?_
  refine x_iload_n (pc' := 7) rfl rfl rfl ?_
  refine x_if (a' := 28) (pc' := 10) (z := false) rfl rfl rfl (by decide) (fun h => by cases h) (fun _ => ?_)
  refine x_iload_n (pc' := 11) rfl rfl rfl ?_
  refine x_aload_n (pc' := 12) rfl rfl rfl rfl rfl ?_
  refine x_gR (pc' := 15) (r := (some 0)) rfl rfl rfl (kR_323_0 hc.1) ?_
  refine x_alen (pc' := 16) (N := 18) rfl rfl rfl (kN_20_0 hc.1) (?_ : X _ _ _ (.inl 18 :: _) _ _)
  refine x_icmp (a' := 28) (pc' := 19) (z := false) rfl rfl rfl (by decide) (fun h => by cases h) (fun _ => ?_)
  refine x_aload_n (pc' := 20) rfl rfl rfl rfl rfl ?_
  refine x_gR (pc' := 23) (r := (some 0)) rfl rfl rfl (kR_323_0 hc.1) ?_
  refine x_iload_n (pc' := 24) rfl rfl rfl ?_
  refine x_iald (pc' := 25) (N := 18) (x := (mA M 11 16)) rfl rfl rfl (kN_20_0 hc.1) (io_in (p := 16) (N := 18) (by decide) (by decide)) (Eq.trans (congrArg (sA t 20 0) (nn_io (p := 16) (by decide))) (kV hM (by decide))) ?_
  refine x_goto (pc' := 29) rfl rfl ?_
  refine x_reti rfl rfl ?_
  refine sK_i (pc' := 85) rfl ?_
  refine x_imul (pc' := 86) (z := (((mA M 6 ((3 * m) + 1)) + 0) * (mA M 11 16))) rfl rfl rfl ?_
  refine x_isub (pc' := 87) (z := ((0 - (((mA M 6 ((3 * m) + 0)) + 0) * (mA M 11 15))) - (((mA M 6 ((3 * m) + 1)) + 0) * (mA M 11 16)))) rfl rfl rfl ?_
  refine x_istore (pc' := 89) (ls' := [_, _, _, _, _, _, _, _, _, _, _]) rfl rfl rfl rfl ?_
  refine x_iinc (pc' := 92) (y := 2) (ls' := [_, _, _, _, _, _, _, _, _, _, _]) rfl rfl rfl rfl rfl ?_
  refine x_goto (pc' := 29) rfl rfl ?_
  refine x_iload (pc' := 31) rfl rfl rfl ?_
  refine x_iload (pc' := 33) rfl rfl rfl ?_
  refine x_icmp (a' := 95) (pc' := 36) (z := false) rfl rfl rfl (by decide) (fun h => by cases h) (fun _ => ?_)
  refine x_aload (pc' := 38) rfl rfl rfl rfl rfl ?_
  refine x_iload (pc' := 40) rfl rfl rfl ?_
  refine x_aald (pc' := 41) (N := 3) (k' := 2) (r := (some 2)) rfl rfl rfl (kN_25_0 hc.1) (io_in (p := 2) (N := 3) (by decide) (by decide)) (Eq.trans (congrArg (sE t 25 0) (nn_io (p := 2) (by decide))) (kK hc.1 (by decide))) ?_
  refine x_astore (pc' := 43) (ls' := [_, _, _, _, _, _, _, _, _, _, _]) rfl rfl rfl rfl rfl ?_
  refine x_aload_n (pc' := 44) rfl rfl rfl rfl rfl ?_
  refine x_aload (pc' := 46) rfl rfl rfl rfl rfl ?_
  refine x_cv (ls0 := [_, _, sJk]) (rest := []) rfl rfl rfl rfl rfl ?_
  refine x_aload_n (pc' := 1) rfl rfl rfl rfl rfl ?_
  refine x_gI (pc' := 4) (x := 2) rfl rfl rfl (kI_128_2 hc.1) ?_
  refine x_istore_n (pc' := 5) (ls' := [_, _, _]) rfl rfl rfl rfl ?_
  refine x_iload_n (pc' := 6) rfl rfl rfl ?_
  refine x_if (a' := 27) (pc' := 9) (z := false) rfl rfl rfl (by decide) (fun h => by cases h) (fun _ => ?_)
  refine x_iload_n (pc' := 10) rfl rfl rfl ?_
  refine x_aload_n (pc' := 11) rfl rfl rfl rfl rfl ?_
  refine x_gR (pc' := 14) (r := (some (m + 1))) rfl rfl rfl (kMp hc.1 hm).1 ?_
  refine x_alen (pc' := 15) (N := 3) rfl rfl rfl (kMp hc.1 hm).2.1 (?_ : X _ _ _ (.inl 3 :: _) _ _)
  refine x_icmp (a' := 27) (pc' := 18) (z := false) rfl rfl rfl (by decide) (fun h => by cases h) (fun _ => ?_)
  refine x_aload_n (pc' := 19) rfl rfl rfl rfl rfl ?_
  refine x_gR (pc' := 22) (r := (some (m + 1))) rfl rfl rfl (kMp hc.1 hm).1 ?_
  refine x_iload_n (pc' := 23) rfl rfl rfl ?_
  refine x_iald (pc' := 24) (N := 3) (x := (mA M 6 ((3 * m) + 2))) rfl rfl rfl (kMp hc.1 hm).2.1 (io_in (p := 2) (N := 3) (by decide) (by decide)) (Eq.trans (congrArg (sA t 20 (m + 1)) (nn_io (p := 2) (by decide))) (kP (m := m) (c := 2) hM hm (by decide))) ?_
  refine x_goto (pc' := 28) rfl rfl ?_
  refine x_reti rfl rfl ?_
  refine sK_i (pc' := 49) rfl ?_
  refine x_istore (pc' := 51) (ls' := [_, _, _, _, _, _, _, _, _, _, _]) rfl rfl rfl rfl ?_
  refine x_iload (pc' := 53) rfl rfl rfl ?_
  refine x_aload_n (pc' := 54) rfl rfl rfl rfl rfl ?_
  refine x_ifnonnull (a' := 61) (pc' := 57) rfl rfl rfl rfl (fun i h => by cases h) (fun _ => ?_)
  refine x_iconst (pc' := 58) rfl rfl ?_
  refine x_goto (pc' := 67) rfl rfl ?_
  refine x_iadd (pc' := 68) (z := ((mA M 6 ((3 * m) + 2)) + 0)) rfl rfl rfl ?_
  refine x_istore (pc' := 70) (ls' := [_, _, _, _, _, _, _, _, _, _, _]) rfl rfl rfl rfl ?_
  refine x_iload (pc' := 72) rfl rfl rfl ?_
  refine x_iload (pc' := 74) rfl rfl rfl ?_
  refine x_aload_n (pc' := 75) rfl rfl rfl rfl rfl ?_
  refine x_iload (pc' := 77) rfl rfl rfl ?_
  refine x_aload (pc' := 79) rfl rfl rfl rfl rfl ?_
  refine x_gI (pc' := 82) (x := 2) rfl rfl rfl (kI_128_2 hc.1) ?_
  refine x_cv (ls0 := [_, _, _, sJk]) (rest := [_, _]) rfl rfl rfl rfl rfl ?_
  refine x_iload_n (pc' := 1) rfl rfl rfl ?_
  refine x_iconst (pc' := 2) rfl rfl ?_
  refine x_imul (pc' := 3) (z := 15) rfl rfl (by decide) ?_
  refine x_iload_n (pc' := 4) rfl rfl rfl ?_
  refine x_iadd (pc' := 5) (z := 17) rfl rfl (by decide) ?_
  refine x_istore_n (pc' := 6) (ls' := [_, _, _, _]) rfl rfl rfl rfl ?_
  refine x_iload_n (pc' := 7) rfl rfl rfl ?_
  refine x_if (a' := 28) (pc' := 10) (z := false) rfl rfl rfl (by decide) (fun h => by cases h) (fun _ => ?_)
  refine x_iload_n (pc' := 11) rfl rfl rfl ?_
  refine x_aload_n (pc' := 12) rfl rfl rfl rfl rfl ?_
  refine x_gR (pc' := 15) (r := (some 0)) rfl rfl rfl (kR_323_0 hc.1) ?_
  refine x_alen (pc' := 16) (N := 18) rfl rfl rfl (kN_20_0 hc.1) (?_ : X _ _ _ (.inl 18 :: _) _ _)
  refine x_icmp (a' := 28) (pc' := 19) (z := false) rfl rfl rfl (by decide) (fun h => by cases h) (fun _ => ?_)
  refine x_aload_n (pc' := 20) rfl rfl rfl rfl rfl ?_
  refine x_gR (pc' := 23) (r := (some 0)) rfl rfl rfl (kR_323_0 hc.1) ?_
  refine x_iload_n (pc' := 24) rfl rfl rfl ?_
  refine x_iald (pc' := 25) (N := 18) (x := (mA M 11 17)) rfl rfl rfl (kN_20_0 hc.1) (io_in (p := 17) (N := 18) (by decide) (by decide)) (Eq.trans (congrArg (sA t 20 0) (nn_io (p := 17) (by decide))) (kV hM (by decide))) ?_
  refine x_goto (pc' := 29) rfl rfl ?_
  refine x_reti rfl rfl ?_
  refine sK_i (pc' := 85) rfl ?_
  refine x_imul (pc' := 86) (z := (((mA M 6 ((3 * m) + 2)) + 0) * (mA M 11 17))) rfl rfl rfl ?_
  refine x_isub (pc' := 87) (z := (((0 - (((mA M 6 ((3 * m) + 0)) + 0) * (mA M 11 15))) - (((mA M 6 ((3 * m) + 1)) + 0) * (mA M 11 16))) - (((mA M 6 ((3 * m) + 2)) + 0) * (mA M 11 17)))) rfl rfl rfl ?_
  refine x_istore (pc' := 89) (ls' := [_, _, _, _, _, _, _, _, _, _, _]) rfl rfl rfl rfl ?_
  refine x_iinc (pc' := 92) (y := 3) (ls' := [_, _, _, _, _, _, _, _, _, _, _]) rfl rfl rfl rfl rfl ?_
  refine x_goto (pc' := 29) rfl rfl ?_
  refine x_iload (pc' := 31) rfl rfl rfl ?_
  refine x_iload (pc' := 33) rfl rfl rfl ?_
  refine x_icmp (a' := 95) (pc' := 36) (z := true) rfl rfl rfl (by decide) (fun _ => ?_) (fun h => by cases h)
  refine x_iload_n (pc' := 96) rfl rfl rfl ?_
  refine x_iload (pc' := 98) rfl rfl rfl ?_
  refine x_max (pc' := 101) (z := (mx (mx (mx (mx (mx (mx 0 (((0 - (((mA M 6 ((3 * m) + 0)) + 0) * (mA M 11 0))) - (((mA M 6 ((3 * m) + 1)) + 0) * (mA M 11 1))) - (((mA M 6 ((3 * m) + 2)) + 0) * (mA M 11 2)))) (((0 - (((mA M 6 ((3 * m) + 0)) + 0) * (mA M 11 3))) - (((mA M 6 ((3 * m) + 1)) + 0) * (mA M 11 4))) - (((mA M 6 ((3 * m) + 2)) + 0) * (mA M 11 5)))) (((0 - (((mA M 6 ((3 * m) + 0)) + 0) * (mA M 11 6))) - (((mA M 6 ((3 * m) + 1)) + 0) * (mA M 11 7))) - (((mA M 6 ((3 * m) + 2)) + 0) * (mA M 11 8)))) (((0 - (((mA M 6 ((3 * m) + 0)) + 0) * (mA M 11 9))) - (((mA M 6 ((3 * m) + 1)) + 0) * (mA M 11 10))) - (((mA M 6 ((3 * m) + 2)) + 0) * (mA M 11 11)))) (((0 - (((mA M 6 ((3 * m) + 0)) + 0) * (mA M 11 12))) - (((mA M 6 ((3 * m) + 1)) + 0) * (mA M 11 13))) - (((mA M 6 ((3 * m) + 2)) + 0) * (mA M 11 14)))) (((0 - (((mA M 6 ((3 * m) + 0)) + 0) * (mA M 11 15))) - (((mA M 6 ((3 * m) + 1)) + 0) * (mA M 11 16))) - (((mA M 6 ((3 * m) + 2)) + 0) * (mA M 11 17))))) rfl rfl rfl rfl ?_
  refine x_istore_n (pc' := 102) (ls' := [_, _, _, _, _, _, _, _, _, _, _]) rfl rfl rfl rfl ?_
  refine x_iinc (pc' := 105) (y := 6) (ls' := [_, _, _, _, _, _, _, _, _, _, _]) rfl rfl rfl rfl rfl ?_
  refine x_goto (pc' := 5) rfl rfl ?_
  refine x_iload (pc' := 7) rfl rfl rfl ?_
  refine x_bipush (pc' := 9) rfl rfl ?_
  refine x_icmp (a' := 108) (pc' := 12) (z := true) rfl rfl rfl (by decide) (fun _ => ?_) (fun h => by cases h)
  refine x_iload_n (pc' := 109) rfl rfl rfl ?_
  refine x_reti rfl rfl ?_
  exact q 
def cm2F (M : sM) (n : Nat) (m : Nat) (o : Nat) : Int32 := (mx (mx (mx (mx (mx (mx 0 (((0 - (((mA M 6 ((3 * m) + 0)) + (mA M 6 ((3 * o) + 0))) * (mA M 11 0))) - (((mA M 6 ((3 * m) + 1)) + (mA M 6 ((3 * o) + 1))) * (mA M 11 1))) - (((mA M 6 ((3 * m) + 2)) + (mA M 6 ((3 * o) + 2))) * (mA M 11 2)))) (((0 - (((mA M 6 ((3 * m) + 0)) + (mA M 6 ((3 * o) + 0))) * (mA M 11 3))) - (((mA M 6 ((3 * m) + 1)) + (mA M 6 ((3 * o) + 1))) * (mA M 11 4))) - (((mA M 6 ((3 * m) + 2)) + (mA M 6 ((3 * o) + 2))) * (mA M 11 5)))) (((0 - (((mA M 6 ((3 * m) + 0)) + (mA M 6 ((3 * o) + 0))) * (mA M 11 6))) - (((mA M 6 ((3 * m) + 1)) + (mA M 6 ((3 * o) + 1))) * (mA M 11 7))) - (((mA M 6 ((3 * m) + 2)) + (mA M 6 ((3 * o) + 2))) * (mA M 11 8)))) (((0 - (((mA M 6 ((3 * m) + 0)) + (mA M 6 ((3 * o) + 0))) * (mA M 11 9))) - (((mA M 6 ((3 * m) + 1)) + (mA M 6 ((3 * o) + 1))) * (mA M 11 10))) - (((mA M 6 ((3 * m) + 2)) + (mA M 6 ((3 * o) + 2))) * (mA M 11 11)))) (((0 - (((mA M 6 ((3 * m) + 0)) + (mA M 6 ((3 * o) + 0))) * (mA M 11 12))) - (((mA M 6 ((3 * m) + 1)) + (mA M 6 ((3 * o) + 1))) * (mA M 11 13))) - (((mA M 6 ((3 * m) + 2)) + (mA M 6 ((3 * o) + 2))) * (mA M 11 14)))) (((0 - (((mA M 6 ((3 * m) + 0)) + (mA M 6 ((3 * o) + 0))) * (mA M 11 15))) - (((mA M 6 ((3 * m) + 1)) + (mA M 6 ((3 * o) + 1))) * (mA M 11 16))) - (((mA M 6 ((3 * m) + 2)) + (mA M 6 ((3 * o) + 2))) * (mA M 11 17))))
set_option maxHeartbeats 4000000 in
set_option maxRecDepth 10000 in
theorem c50s {t : sT} {Q : sRs → sT → Prop} {M : sM} {n : Nat} {T : Nat} {m : Nat} {o : Nat}
    (hM : Rl t M n T)
    (hc : Sf t M n T)
    (hR : Ri M n)
    (hm : m < 6)
    (ho : o < 6)
    (q : Q (.inl (some (.inl (cm2F M n m o)))) t) :
    X 50 0 [.inr (.inr (5, (some 0))), .inr (.inr (7, (some m))), .inr (.inr (7, (some o))), sJk, sJk, sJk, sJk, sJk, sJk, sJk, sJk] [] t Q := by
  refine x_iconst (pc' := 1) rfl rfl ?_
  refine x_istore_n (pc' := 2) (ls' := [_, _, _, _, _, _, _, _, _, _, _]) rfl rfl rfl rfl ?_
  refine x_iconst (pc' := 3) rfl rfl ?_
  refine x_istore (pc' := 5) (ls' := [_, _, _, _, _, _, _, _, _, _, _]) rfl rfl rfl rfl ?_
  refine x_iload (pc' := 7) rfl rfl rfl ?_
  refine x_bipush (pc' := 9) rfl rfl ?_
  refine x_icmp (a' := 108) (pc' := 12) (z := false) rfl rfl rfl (by decide) (fun h => by cases h) (fun _ => ?_)
  refine x_iconst (pc' := 13) rfl rfl ?_
  refine x_istore (pc' := 15) (ls' := [_, _, _, _, _, _, _, _, _, _, _]) rfl rfl rfl rfl ?_
  refine x_aload_n (pc' := 16) rfl rfl rfl rfl rfl ?_
  refine x_gR (pc' := 19) (r := (some 0)) rfl rfl rfl (kR_320_0 hc.1) ?_
  refine x_astore (pc' := 21) (ls' := [_, _, _, _, _, _, _, _, _, _, _]) rfl rfl rfl rfl rfl ?_
  refine x_aload (pc' := 23) rfl rfl rfl rfl rfl ?_
  refine x_alen (pc' := 24) (N := 3) rfl rfl rfl (kN_25_0 hc.1) (?_ : X _ _ _ (.inl 3 :: _) _ _)
  refine x_istore (pc' := 26) (ls' := [_, _, _, _, _, _, _, _, _, _, _]) rfl rfl rfl rfl ?_
  refine x_iconst (pc' := 27) rfl rfl ?_
  refine x_istore (pc' := 29) (ls' := [_, _, _, _, _, _, _, _, _, _, _]) rfl rfl rfl rfl ?_
  refine x_iload (pc' := 31) rfl rfl rfl ?_
  refine x_iload (pc' := 33) rfl rfl rfl ?_
  refine x_icmp (a' := 95) (pc' := 36) (z := false) rfl rfl rfl (by decide) (fun h => by cases h) (fun _ => ?_)
  refine x_aload (pc' := 38) rfl rfl rfl rfl rfl ?_
  refine x_iload (pc' := 40) rfl rfl rfl ?_
  refine x_aald (pc' := 41) (N := 3) (k' := 2) (r := (some 0)) rfl rfl rfl (kN_25_0 hc.1) (io_in (p := 0) (N := 3) (by decide) (by decide)) (Eq.trans (congrArg (sE t 25 0) (nn_io (p := 0) (by decide))) (kK hc.1 (by decide))) ?_
  refine x_astore (pc' := 43) (ls' := [_, _, _, _, _, _, _, _, _, _, _]) rfl rfl rfl rfl rfl ?_
  refine x_aload_n (pc' := 44) rfl rfl rfl rfl rfl ?_
  refine x_aload (pc' := 46) rfl rfl rfl rfl rfl ?_
  refine x_cv (ls0 := [_, _, sJk]) (rest := []) rfl rfl rfl rfl rfl ?_
  refine x_aload_n (pc' := 1) rfl rfl rfl rfl rfl ?_
  refine x_gI (pc' := 4) (x := 0) rfl rfl rfl (kI_128_0 hc.1) ?_
  refine x_istore_n (pc' := 5) (ls' := [_, _, _]) rfl rfl rfl rfl ?_
  refine x_iload_n (pc' := 6) rfl rfl rfl ?_
  refine x_if (a' := 27) (pc' := 9) (z := false) rfl rfl rfl (by decide) (fun h => by cases h) (fun _ => ?_)
  refine x_iload_n (pc' := 10) rfl rfl rfl ?_
  refine x_aload_n (pc' := 11) rfl rfl rfl rfl rfl ?_
  refine x_gR (pc' := 14) (r := (some (m + 1))) rfl rfl rfl (kMp hc.1 hm).1 ?_
  refine x_alen (pc' := 15) (N := 3) rfl rfl rfl (kMp hc.1 hm).2.1 (?_ : X _ _ _ (.inl 3 :: _) _ _)
  refine x_icmp (a' := 27) (pc' := 18) (z := false) rfl rfl rfl (by decide) (fun h => by cases h) (fun _ => ?_)
  refine x_aload_n (pc' := 19) rfl rfl rfl rfl rfl ?_
  refine x_gR (pc' := 22) (r := (some (m + 1))) rfl rfl rfl (kMp hc.1 hm).1 ?_
  refine x_iload_n (pc' := 23) rfl rfl rfl ?_
  refine x_iald (pc' := 24) (N := 3) (x := (mA M 6 ((3 * m) + 0))) rfl rfl rfl (kMp hc.1 hm).2.1 (io_in (p := 0) (N := 3) (by decide) (by decide)) (Eq.trans (congrArg (sA t 20 (m + 1)) (nn_io (p := 0) (by decide))) (kP (m := m) (c := 0) hM hm (by decide))) ?_
  refine x_goto (pc' := 28) rfl rfl ?_
  refine x_reti rfl rfl ?_
  refine sK_i (pc' := 49) rfl ?_
  refine x_istore (pc' := 51) (ls' := [_, _, _, _, _, _, _, _, _, _, _]) rfl rfl rfl rfl ?_
  refine x_iload (pc' := 53) rfl rfl rfl ?_
  refine x_aload_n (pc' := 54) rfl rfl rfl rfl rfl ?_
  refine x_ifnonnull (a' := 61) (pc' := 57) rfl rfl rfl rfl (fun _ _ => ?_) (fun h => by cases h)
  refine x_aload_n (pc' := 62) rfl rfl rfl rfl rfl ?_
  refine x_aload (pc' := 64) rfl rfl rfl rfl rfl ?_
  refine x_cv (ls0 := [_, _, sJk]) (rest := [_]) rfl rfl rfl rfl rfl ?_
  refine x_aload_n (pc' := 1) rfl rfl rfl rfl rfl ?_
  refine x_gI (pc' := 4) (x := 0) rfl rfl rfl (kI_128_0 hc.1) ?_
  refine x_istore_n (pc' := 5) (ls' := [_, _, _]) rfl rfl rfl rfl ?_
  refine x_iload_n (pc' := 6) rfl rfl rfl ?_
  refine x_if (a' := 27) (pc' := 9) (z := false) rfl rfl rfl (by decide) (fun h => by cases h) (fun _ => ?_)
  refine x_iload_n (pc' := 10) rfl rfl rfl ?_
  refine x_aload_n (pc' := 11) rfl rfl rfl rfl rfl ?_
  refine x_gR (pc' := 14) (r := (some (o + 1))) rfl rfl rfl (kMp hc.1 ho).1 ?_
  refine x_alen (pc' := 15) (N := 3) rfl rfl rfl (kMp hc.1 ho).2.1 (?_ : X _ _ _ (.inl 3 :: _) _ _)
  refine x_icmp (a' := 27) (pc' := 18) (z := false) rfl rfl rfl (by decide) (fun h => by cases h) (fun _ => ?_)
  refine x_aload_n (pc' := 19) rfl rfl rfl rfl rfl ?_
  refine x_gR (pc' := 22) (r := (some (o + 1))) rfl rfl rfl (kMp hc.1 ho).1 ?_
  refine x_iload_n (pc' := 23) rfl rfl rfl ?_
  refine x_iald (pc' := 24) (N := 3) (x := (mA M 6 ((3 * o) + 0))) rfl rfl rfl (kMp hc.1 ho).2.1 (io_in (p := 0) (N := 3) (by decide) (by decide)) (Eq.trans (congrArg (sA t 20 (o + 1)) (nn_io (p := 0) (by decide))) (kP (m := o) (c := 0) hM ho (by decide))) ?_
  refine x_goto (pc' := 28) rfl rfl ?_
  refine x_reti rfl rfl ?_
  refine sK_i (pc' := 67) rfl ?_
  refine x_iadd (pc' := 68) (z := ((mA M 6 ((3 * m) + 0)) + (mA M 6 ((3 * o) + 0)))) rfl rfl rfl ?_
  refine x_istore (pc' := 70) (ls' := [_, _, _, _, _, _, _, _, _, _, _]) rfl rfl rfl rfl ?_
  refine x_iload (pc' := 72) rfl rfl rfl ?_
  refine x_iload (pc' := 74) rfl rfl rfl ?_
  refine x_aload_n (pc' := 75) rfl rfl rfl rfl rfl ?_
  refine x_iload (pc' := 77) rfl rfl rfl ?_
  refine x_aload (pc' := 79) rfl rfl rfl rfl rfl ?_
  refine x_gI (pc' := 82) (x := 0) rfl rfl rfl (kI_128_0 hc.1) ?_
  refine x_cv (ls0 := [_, _, _, sJk]) (rest := [_, _]) rfl rfl rfl rfl rfl ?_
  refine x_iload_n (pc' := 1) rfl rfl rfl ?_
  refine x_iconst (pc' := 2) rfl rfl ?_
  refine x_imul (pc' := 3) (z := 0) rfl rfl (by decide) ?_
  refine x_iload_n (pc' := 4) rfl rfl rfl ?_
  refine x_iadd (pc' := 5) (z := 0) rfl rfl (by decide) ?_
  refine x_istore_n (pc' := 6) (ls' := [_, _, _, _]) rfl rfl rfl rfl ?_
  refine x_iload_n (pc' := 7) rfl rfl rfl ?_
  refine x_if (a' := 28) (pc' := 10) (z := false) rfl rfl rfl (by decide) (fun h => by cases h) (fun _ => ?_)
  refine x_iload_n (pc' := 11) rfl rfl rfl ?_
  refine x_aload_n (pc' := 12) rfl rfl rfl rfl rfl ?_
  refine x_gR (pc' := 15) (r := (some 0)) rfl rfl rfl (kR_323_0 hc.1) ?_
  refine x_alen (pc' := 16) (N := 18) rfl rfl rfl (kN_20_0 hc.1) (?_ : X _ _ _ (.inl 18 :: _) _ _)
  refine x_icmp (a' := 28) (pc' := 19) (z := false) rfl rfl rfl (by decide) (fun h => by cases h) (fun _ => ?_)
  refine x_aload_n (pc' := 20) rfl rfl rfl rfl rfl ?_
  refine x_gR (pc' := 23) (r := (some 0)) rfl rfl rfl (kR_323_0 hc.1) ?_
  refine x_iload_n (pc' := 24) rfl rfl rfl ?_
  refine x_iald (pc' := 25) (N := 18) (x := (mA M 11 0)) rfl rfl rfl (kN_20_0 hc.1) (io_in (p := 0) (N := 18) (by decide) (by decide)) (Eq.trans (congrArg (sA t 20 0) (nn_io (p := 0) (by decide))) (kV hM (by decide))) ?_
  refine x_goto (pc' := 29) rfl rfl ?_
  refine x_reti rfl rfl ?_
  refine sK_i (pc' := 85) rfl ?_
  refine x_imul (pc' := 86) (z := (((mA M 6 ((3 * m) + 0)) + (mA M 6 ((3 * o) + 0))) * (mA M 11 0))) rfl rfl rfl ?_
  refine x_isub (pc' := 87) (z := (0 - (((mA M 6 ((3 * m) + 0)) + (mA M 6 ((3 * o) + 0))) * (mA M 11 0)))) rfl rfl rfl ?_
  refine x_istore (pc' := 89) (ls' := [_, _, _, _, _, _, _, _, _, _, _]) rfl rfl rfl rfl ?_
  refine x_iinc (pc' := 92) (y := 1) (ls' := [_, _, _, _, _, _, _, _, _, _, _]) rfl rfl rfl rfl rfl ?_
  refine x_goto (pc' := 29) rfl rfl ?_
  refine x_iload (pc' := 31) rfl rfl rfl ?_
  refine x_iload (pc' := 33) rfl rfl rfl ?_
  refine x_icmp (a' := 95) (pc' := 36) (z := false) rfl rfl rfl (by decide) (fun h => by cases h) (fun _ => ?_)
  refine x_aload (pc' := 38) rfl rfl rfl rfl rfl ?_
  refine x_iload (pc' := 40) rfl rfl rfl ?_
  refine x_aald (pc' := 41) (N := 3) (k' := 2) (r := (some 1)) rfl rfl rfl (kN_25_0 hc.1) (io_in (p := 1) (N := 3) (by decide) (by decide)) (Eq.trans (congrArg (sE t 25 0) (nn_io (p := 1) (by decide))) (kK hc.1 (by decide))) ?_
  refine x_astore (pc' := 43) (ls' := [_, _, _, _, _, _, _, _, _, _, _]) rfl rfl rfl rfl rfl ?_
  refine x_aload_n (pc' := 44) rfl rfl rfl rfl rfl ?_
  refine x_aload (pc' := 46) rfl rfl rfl rfl rfl ?_
  refine x_cv (ls0 := [_, _, sJk]) (rest := []) rfl rfl rfl rfl rfl ?_
  refine x_aload_n (pc' := 1) rfl rfl rfl rfl rfl ?_
  refine x_gI (pc' := 4) (x := 1) rfl rfl rfl (kI_128_1 hc.1) ?_
  refine x_istore_n (pc' := 5) (ls' := [_, _, _]) rfl rfl rfl rfl ?_
  refine x_iload_n (pc' := 6) rfl rfl rfl ?_
  refine x_if (a' := 27) (pc' := 9) (z := false) rfl rfl rfl (by decide) (fun h => by cases h) (fun _ => ?_)
  refine x_iload_n (pc' := 10) rfl rfl rfl ?_
  refine x_aload_n (pc' := 11) rfl rfl rfl rfl rfl ?_
  refine x_gR (pc' := 14) (r := (some (m + 1))) rfl rfl rfl (kMp hc.1 hm).1 ?_
  refine x_alen (pc' := 15) (N := 3) rfl rfl rfl (kMp hc.1 hm).2.1 (?_ : X _ _ _ (.inl 3 :: _) _ _)
  refine x_icmp (a' := 27) (pc' := 18) (z := false) rfl rfl rfl (by decide) (fun h => by cases h) (fun _ => ?_)
  refine x_aload_n (pc' := 19) rfl rfl rfl rfl rfl ?_
  refine x_gR (pc' := 22) (r := (some (m + 1))) rfl rfl rfl (kMp hc.1 hm).1 ?_
  refine x_iload_n (pc' := 23) rfl rfl rfl ?_
  refine x_iald (pc' := 24) (N := 3) (x := (mA M 6 ((3 * m) + 1))) rfl rfl rfl (kMp hc.1 hm).2.1 (io_in (p := 1) (N := 3) (by decide) (by decide)) (Eq.trans (congrArg (sA t 20 (m + 1)) (nn_io (p := 1) (by decide))) (kP (m := m) (c := 1) hM hm (by decide))) ?_
  refine x_goto (pc' := 28) rfl rfl ?_
  refine x_reti rfl rfl ?_
  refine sK_i (pc' := 49) rfl ?_
  refine x_istore (pc' := 51) (ls' := [_, _, _, _, _, _, _, _, _, _, _]) rfl rfl rfl rfl ?_
  refine x_iload (pc' := 53) rfl rfl rfl ?_
  refine x_aload_n (pc' := 54) rfl rfl rfl rfl rfl ?_
  refine x_ifnonnull (a' := 61) (pc' := 57) rfl rfl rfl rfl (fun _ _ => ?_) (fun h => by cases h)
  refine x_aload_n (pc' := 62) rfl rfl rfl rfl rfl ?_
  refine x_aload (pc' := 64) rfl rfl rfl rfl rfl ?_
  refine x_cv (ls0 := [_, _, sJk]) (rest := [_]) rfl rfl rfl rfl rfl ?_
  refine x_aload_n (pc' := 1) rfl rfl rfl rfl rfl ?_
  refine x_gI (pc' := 4) (x := 1) rfl rfl rfl (kI_128_1 hc.1) ?_
  refine x_istore_n (pc' := 5) (ls' := [_, _, _]) rfl rfl rfl rfl ?_
  refine x_iload_n (pc' := 6) rfl rfl rfl ?_
  refine x_if (a' := 27) (pc' := 9) (z := false) rfl rfl rfl (by decide) (fun h => by cases h) (fun _ => ?_)
  refine x_iload_n (pc' := 10) rfl rfl rfl ?_
  refine x_aload_n (pc' := 11) rfl rfl rfl rfl rfl ?_
  refine x_gR (pc' := 14) (r := (some (o + 1))) rfl rfl rfl (kMp hc.1 ho).1 ?_
  refine x_alen (pc' := 15) (N := 3) rfl rfl rfl (kMp hc.1 ho).2.1 (?_ : X _ _ _ (.inl 3 :: _) _ _)
  refine x_icmp (a' := 27) (pc' := 18) (z := false) rfl rfl rfl (by decide) (fun h => by cases h) (fun _ => ?_)
  refine x_aload_n (pc' := 19) rfl rfl rfl rfl rfl ?_
  refine x_gR (pc' := 22) (r := (some (o + 1))) rfl rfl rfl (kMp hc.1 ho).1 ?_
  refine x_iload_n (pc' := 23) rfl rfl rfl ?_
  refine x_iald (pc' := 24) (N := 3) (x := (mA M 6 ((3 * o) + 1))) rfl rfl rfl (kMp hc.1 ho).2.1 (io_in (p := 1) (N := 3) (by decide) (by decide)) (Eq.trans (congrArg (sA t 20 (o + 1)) (nn_io (p := 1) (by decide))) (kP (m := o) (c := 1) hM ho (by decide))) ?_
  refine x_goto (pc' := 28) rfl rfl ?_
  refine x_reti rfl rfl ?_
  refine sK_i (pc' := 67) rfl ?_
  refine x_iadd (pc' := 68) (z := ((mA M 6 ((3 * m) + 1)) + (mA M 6 ((3 * o) + 1)))) rfl rfl rfl ?_
  refine x_istore (pc' := 70) (ls' := [_, _, _, _, _, _, _, _, _, _, _]) rfl rfl rfl rfl ?_
  refine x_iload (pc' := 72) rfl rfl rfl ?_
  refine x_iload (pc' := 74) rfl rfl rfl ?_
  refine x_aload_n (pc' := 75) rfl rfl rfl rfl rfl ?_
  refine x_iload (pc' := 77) rfl rfl rfl ?_
  refine x_aload (pc' := 79) rfl rfl rfl rfl rfl ?_
  refine x_gI (pc' := 82) (x := 1) rfl rfl rfl (kI_128_1 hc.1) ?_
  refine x_cv (ls0 := [_, _, _, sJk]) (rest := [_, _]) rfl rfl rfl rfl rfl ?_
  refine x_iload_n (pc' := 1) rfl rfl rfl ?_
  refine x_iconst (pc' := 2) rfl rfl ?_
  refine x_imul (pc' := 3) (z := 0) rfl rfl (by decide) ?_
  refine x_iload_n (pc' := 4) rfl rfl rfl ?_
  refine x_iadd (pc' := 5) (z := 1) rfl rfl (by decide) ?_
  refine x_istore_n (pc' := 6) (ls' := [_, _, _, _]) rfl rfl rfl rfl ?_
  refine x_iload_n (pc' := 7) rfl rfl rfl ?_
  refine x_if (a' := 28) (pc' := 10) (z := false) rfl rfl rfl (by decide) (fun h => by cases h) (fun _ => ?_)
  refine x_iload_n (pc' := 11) rfl rfl rfl ?_
  refine x_aload_n (pc' := 12) rfl rfl rfl rfl rfl ?_
  refine x_gR (pc' := 15) (r := (some 0)) rfl rfl rfl (kR_323_0 hc.1) ?_
  refine x_alen (pc' := 16) (N := 18) rfl rfl rfl (kN_20_0 hc.1) (?_ : X _ _ _ (.inl 18 :: _) _ _)
  refine x_icmp (a' := 28) (pc' := 19) (z := false) rfl rfl rfl (by decide) (fun h => by cases h) (fun _ => ?_)
  refine x_aload_n (pc' := 20) rfl rfl rfl rfl rfl ?_
  refine x_gR (pc' := 23) (r := (some 0)) rfl rfl rfl (kR_323_0 hc.1) ?_
  refine x_iload_n (pc' := 24) rfl rfl rfl ?_
  refine x_iald (pc' := 25) (N := 18) (x := (mA M 11 1)) rfl rfl rfl (kN_20_0 hc.1) (io_in (p := 1) (N := 18) (by decide) (by decide)) (Eq.trans (congrArg (sA t 20 0) (nn_io (p := 1) (by decide))) (kV hM (by decide))) ?_
  refine x_goto (pc' := 29) rfl rfl ?_
  refine x_reti rfl rfl ?_
  refine sK_i (pc' := 85) rfl ?_
  refine x_imul (pc' := 86) (z := (((mA M 6 ((3 * m) + 1)) + (mA M 6 ((3 * o) + 1))) * (mA M 11 1))) rfl rfl rfl ?_
  refine x_isub (pc' := 87) (z := ((0 - (((mA M 6 ((3 * m) + 0)) + (mA M 6 ((3 * o) + 0))) * (mA M 11 0))) - (((mA M 6 ((3 * m) + 1)) + (mA M 6 ((3 * o) + 1))) * (mA M 11 1)))) rfl rfl rfl ?_
  refine x_istore (pc' := 89) (ls' := [_, _, _, _, _, _, _, _, _, _, _]) rfl rfl rfl rfl ?_
  refine x_iinc (pc' := 92) (y := 2) (ls' := [_, _, _, _, _, _, _, _, _, _, _]) rfl rfl rfl rfl rfl ?_
  refine x_goto (pc' := 29) rfl rfl ?_
  refine x_iload (pc' := 31) rfl rfl rfl ?_
  refine x_iload (pc' := 33) rfl rfl rfl ?_
  refine x_icmp (a' := 95) (pc' := 36) (z := false) rfl rfl rfl (by decide) (fun h => by cases h) (fun _ => ?_)
  refine x_aload (pc' := 38) rfl rfl rfl rfl rfl ?_
  refine x_iload (pc' := 40) rfl rfl rfl ?_
  refine x_aald (pc' := 41) (N := 3) (k' := 2) (r := (some 2)) rfl rfl rfl (kN_25_0 hc.1) (io_in (p := 2) (N := 3) (by decide) (by decide)) (Eq.trans (congrArg (sE t 25 0) (nn_io (p := 2) (by decide))) (kK hc.1 (by decide))) ?_
  refine x_astore (pc' := 43) (ls' := [_, _, _, _, _, _, _, _, _, _, _]) rfl rfl rfl rfl rfl ?_
  refine x_aload_n (pc' := 44) rfl rfl rfl rfl rfl ?_
  refine x_aload (pc' := 46) rfl rfl rfl rfl rfl ?_
  refine x_cv (ls0 := [_, _, sJk]) (rest := []) rfl rfl rfl rfl rfl ?_
  refine x_aload_n (pc' := 1) rfl rfl rfl rfl rfl ?_
  refine x_gI (pc' := 4) (x := 2) rfl rfl rfl (kI_128_2 hc.1) ?_
  refine x_istore_n (pc' := 5) (ls' := [_, _, _]) rfl rfl rfl rfl ?_
  refine x_iload_n (pc' := 6) rfl rfl rfl ?_
  refine x_if (a' := 27) (pc' := 9) (z := false) rfl rfl rfl (by decide) (fun h => by cases h) (fun _ => ?_)
  refine x_iload_n (pc' := 10) rfl rfl rfl ?_
  refine x_aload_n (pc' := 11) rfl rfl rfl rfl rfl ?_
  refine x_gR (pc' := 14) (r := (some (m + 1))) rfl rfl rfl (kMp hc.1 hm).1 ?_
  refine x_alen (pc' := 15) (N := 3) rfl rfl rfl (kMp hc.1 hm).2.1 (?_ : X _ _ _ (.inl 3 :: _) _ _)
  refine x_icmp (a' := 27) (pc' := 18) (z := false) rfl rfl rfl (by decide) (fun h => by cases h) (fun _ => ?_)
  refine x_aload_n (pc' := 19) rfl rfl rfl rfl rfl ?_
  refine x_gR (pc' := 22) (r := (some (m + 1))) rfl rfl rfl (kMp hc.1 hm).1 ?_
  refine x_iload_n (pc' := 23) rfl rfl rfl ?_
  refine x_iald (pc' := 24) (N := 3) (x := (mA M 6 ((3 * m) + 2))) rfl rfl rfl (kMp hc.1 hm).2.1 (io_in (p := 2) (N := 3) (by decide) (by decide)) (Eq.trans (congrArg (sA t 20 (m + 1)) (nn_io (p := 2) (by decide))) (kP (m := m) (c := 2) hM hm (by decide))) ?_
  refine x_goto (pc' := 28) rfl rfl ?_
  refine x_reti rfl rfl ?_
  refine sK_i (pc' := 49) rfl ?_
  refine x_istore (pc' := 51) (ls' := [_, _, _, _, _, _, _, _, _, _, _]) rfl rfl rfl rfl ?_
  refine x_iload (pc' := 53) rfl rfl rfl ?_
  refine x_aload_n (pc' := 54) rfl rfl rfl rfl rfl ?_
  refine x_ifnonnull (a' := 61) (pc' := 57) rfl rfl rfl rfl (fun _ _ => ?_) (fun h => by cases h)
  refine x_aload_n (pc' := 62) rfl rfl rfl rfl rfl ?_
  refine x_aload (pc' := 64) rfl rfl rfl rfl rfl ?_
  refine x_cv (ls0 := [_, _, sJk]) (rest := [_]) rfl rfl rfl rfl rfl ?_
  refine x_aload_n (pc' := 1) rfl rfl rfl rfl rfl ?_
  refine x_gI (pc' := 4) (x := 2) rfl rfl rfl (kI_128_2 hc.1) ?_
  refine x_istore_n (pc' := 5) (ls' := [_, _, _]) rfl rfl rfl rfl ?_
  refine x_iload_n (pc' := 6) rfl rfl rfl ?_
  refine x_if (a' := 27) (pc' := 9) (z := false) rfl rfl rfl (by decide) (fun h => by cases h) (fun _ => ?_)
  refine x_iload_n (pc' := 10) rfl rfl rfl ?_
  refine x_aload_n (pc' := 11) rfl rfl rfl rfl rfl ?_
  refine x_gR (pc' := 14) (r := (some (o + 1))) rfl rfl rfl (kMp hc.1 ho).1 ?_
  refine x_alen (pc' := 15) (N := 3) rfl rfl rfl (kMp hc.1 ho).2.1 (?_ : X _ _ _ (.inl 3 :: _) _ _)
  refine x_icmp (a' := 27) (pc' := 18) (z := false) rfl rfl rfl (by decide) (fun h => by cases h) (fun _ => ?_)
  refine x_aload_n (pc' := 19) rfl rfl rfl rfl rfl ?_
  refine x_gR (pc' := 22) (r := (some (o + 1))) rfl rfl rfl (kMp hc.1 ho).1 ?_
  refine x_iload_n (pc' := 23) rfl rfl rfl ?_
  refine x_iald (pc' := 24) (N := 3) (x := (mA M 6 ((3 * o) + 2))) rfl rfl rfl (kMp hc.1 ho).2.1 (io_in (p := 2) (N := 3) (by decide) (by decide)) (Eq.trans (congrArg (sA t 20 (o + 1)) (nn_io (p := 2) (by decide))) (kP (m := o) (c := 2) hM ho (by decide))) ?_
  refine x_goto (pc' := 28) rfl rfl ?_
  refine x_reti rfl rfl ?_
  refine sK_i (pc' := 67) rfl ?_
  refine x_iadd (pc' := 68) (z := ((mA M 6 ((3 * m) + 2)) + (mA M 6 ((3 * o) + 2)))) rfl rfl rfl ?_
  refine x_istore (pc' := 70) (ls' := [_, _, _, _, _, _, _, _, _, _, _]) rfl rfl rfl rfl ?_
  refine x_iload (pc' := 72) rfl rfl rfl ?_
  refine x_iload (pc' := 74) rfl rfl rfl ?_
  refine x_aload_n (pc' := 75) rfl rfl rfl rfl rfl ?_
  refine x_iload (pc' := 77) rfl rfl rfl ?_
  refine x_aload (pc' := 79) rfl rfl rfl rfl rfl ?_
  refine x_gI (pc' := 82) (x := 2) rfl rfl rfl (kI_128_2 hc.1) ?_
  refine x_cv (ls0 := [_, _, _, sJk]) (rest := [_, _]) rfl rfl rfl rfl rfl ?_
  refine x_iload_n (pc' := 1) rfl rfl rfl ?_
  refine x_iconst (pc' := 2) rfl rfl ?_
  refine x_imul (pc' := 3) (z := 0) rfl rfl (by decide) ?_
  refine x_iload_n (pc' := 4) rfl rfl rfl ?_
  refine x_iadd (pc' := 5) (z := 2) rfl rfl (by decide) ?_
  refine x_istore_n (pc' := 6) (ls' := [_, _, _, _]) rfl rfl rfl rfl ?_
  refine x_iload_n (pc' := 7) rfl rfl rfl ?_
  refine x_if (a' := 28) (pc' := 10) (z := false) rfl rfl rfl (by decide) (fun h => by cases h) (fun _ => ?_)
  refine x_iload_n (pc' := 11) rfl rfl rfl ?_
  refine x_aload_n (pc' := 12) rfl rfl rfl rfl rfl ?_
  refine x_gR (pc' := 15) (r := (some 0)) rfl rfl rfl (kR_323_0 hc.1) ?_
  refine x_alen (pc' := 16) (N := 18) rfl rfl rfl (kN_20_0 hc.1) (?_ : X _ _ _ (.inl 18 :: _) _ _)
  refine x_icmp (a' := 28) (pc' := 19) (z := false) rfl rfl rfl (by decide) (fun h => by cases h) (fun _ => ?_)
  refine x_aload_n (pc' := 20) rfl rfl rfl rfl rfl ?_
  refine x_gR (pc' := 23) (r := (some 0)) rfl rfl rfl (kR_323_0 hc.1) ?_
  refine x_iload_n (pc' := 24) rfl rfl rfl ?_
  refine x_iald (pc' := 25) (N := 18) (x := (mA M 11 2)) rfl rfl rfl (kN_20_0 hc.1) (io_in (p := 2) (N := 18) (by decide) (by decide)) (Eq.trans (congrArg (sA t 20 0) (nn_io (p := 2) (by decide))) (kV hM (by decide))) ?_
  refine x_goto (pc' := 29) rfl rfl ?_
  refine x_reti rfl rfl ?_
  refine sK_i (pc' := 85) rfl ?_
  refine x_imul (pc' := 86) (z := (((mA M 6 ((3 * m) + 2)) + (mA M 6 ((3 * o) + 2))) * (mA M 11 2))) rfl rfl rfl ?_
  refine x_isub (pc' := 87) (z := (((0 - (((mA M 6 ((3 * m) + 0)) + (mA M 6 ((3 * o) + 0))) * (mA M 11 0))) - (((mA M 6 ((3 * m) + 1)) + (mA M 6 ((3 * o) + 1))) * (mA M 11 1))) - (((mA M 6 ((3 * m) + 2)) + (mA M 6 ((3 * o) + 2))) * (mA M 11 2)))) rfl rfl rfl ?_
  refine x_istore (pc' := 89) (ls' := [_, _, _, _, _, _, _, _, _, _, _]) rfl rfl rfl rfl ?_
  refine x_iinc (pc' := 92) (y := 3) (ls' := [_, _, _, _, _, _, _, _, _, _, _]) rfl rfl rfl rfl rfl ?_
  refine x_goto (pc' := 29) rfl rfl ?_
  refine x_iload (pc' := 31) rfl rfl rfl ?_
  refine x_iload (pc' := 33) rfl rfl rfl ?_
  refine x_icmp (a' := 95) (pc' := 36) (z := true) rfl rfl rfl (by decide) (fun _ => ?_) (fun h => by cases h)
  refine x_iload_n (pc' := 96) rfl rfl rfl ?_
  refine x_iload (pc' := 98) rfl rfl rfl ?_
  refine x_max (pc' := 101) (z := (mx 0 (((0 - (((mA M 6 ((3 * m) + 0)) + (mA M 6 ((3 * o) + 0))) * (mA M 11 0))) - (((mA M 6 ((3 * m) + 1)) + (mA M 6 ((3 * o) + 1))) * (mA M 11 1))) - (((mA M 6 ((3 * m) + 2)) + (mA M 6 ((3 * o) + 2))) * (mA M 11 2))))) rfl rfl rfl rfl ?_
  refine x_istore_n (pc' := 102) (ls' := [_, _, _, _, _, _, _, _, _, _, _]) rfl rfl rfl rfl ?_
  refine x_iinc (pc' := 105) (y := 1) (ls' := [_, _, _, _, _, _, _, _, _, _, _]) rfl rfl rfl rfl rfl ?_
  refine x_goto (pc' := 5) rfl rfl ?_
  refine x_iload (pc' := 7) rfl rfl rfl ?_
  refine x_bipush (pc' := 9) rfl rfl ?_
  refine x_icmp (a' := 108) (pc' := 12) (z := false) rfl rfl rfl (by decide) (fun h => by cases h) (fun _ => ?_)
  refine x_iconst (pc' := 13) rfl rfl ?_
  refine x_istore (pc' := 15) (ls' := [_, _, _, _, _, _, _, _, _, _, _]) rfl rfl rfl rfl ?_
  refine x_aload_n (pc' := 16) rfl rfl rfl rfl rfl ?_
  refine x_gR (pc' := 19) (r := (some 0)) rfl rfl rfl (kR_320_0 hc.1) ?_
  refine x_astore (pc' := 21) (ls' := [_, _, _, _, _, _, _, _, _, _, _]) rfl rfl rfl rfl rfl ?_
  refine x_aload (pc' := 23) rfl rfl rfl rfl rfl ?_
  refine x_alen (pc' := 24) (N := 3) rfl rfl rfl (kN_25_0 hc.1) (?_ : X _ _ _ (.inl 3 :: _) _ _)
  refine x_istore (pc' := 26) (ls' := [_, _, _, _, _, _, _, _, _, _, _]) rfl rfl rfl rfl ?_
  refine x_iconst (pc' := 27) rfl rfl ?_
  refine x_istore (pc' := 29) (ls' := [_, _, _, _, _, _, _, _, _, _, _]) rfl rfl rfl rfl ?_
  refine x_iload (pc' := 31) rfl rfl rfl ?_
  refine x_iload (pc' := 33) rfl rfl rfl ?_
  refine x_icmp (a' := 95) (pc' := 36) (z := false) rfl rfl rfl (by decide) (fun h => by cases h) (fun _ => ?_)
  refine x_aload (pc' := 38) rfl rfl rfl rfl rfl ?_
  refine x_iload (pc' := 40) rfl rfl rfl ?_
  refine x_aald (pc' := 41) (N := 3) (k' := 2) (r := (some 0)) rfl rfl rfl (kN_25_0 hc.1) (io_in (p := 0) (N := 3) (by decide) (by decide)) (Eq.trans (congrArg (sE t 25 0) (nn_io (p := 0) (by decide))) (kK hc.1 (by decide))) ?_
  refine x_astore (pc' := 43) (ls' := [_, _, _, _, _, _, _, _, _, _, _]) rfl rfl rfl rfl rfl ?_
  refine x_aload_n (pc' := 44) rfl rfl rfl rfl rfl ?_
  refine x_aload (pc' := 46) rfl rfl rfl rfl rfl ?_
  refine x_cv (ls0 := [_, _, sJk]) (rest := []) rfl rfl rfl rfl rfl ?_
  refine x_aload_n (pc' := 1) rfl rfl rfl rfl rfl ?_
  refine x_gI (pc' := 4) (x := 0) rfl rfl rfl (kI_128_0 hc.1) ?_
  refine x_istore_n (pc' := 5) (ls' := [_, _, _]) rfl rfl rfl rfl ?_
  refine x_iload_n (pc' := 6) rfl rfl rfl ?_
  refine x_if (a' := 27) (pc' := 9) (z := false) rfl rfl rfl (by decide) (fun h => by cases h) (fun _ => ?_)
  refine x_iload_n (pc' := 10) rfl rfl rfl ?_
  refine x_aload_n (pc' := 11) rfl rfl rfl rfl rfl ?_
  refine x_gR (pc' := 14) (r := (some (m + 1))) rfl rfl rfl (kMp hc.1 hm).1 ?_
  refine x_alen (pc' := 15) (N := 3) rfl rfl rfl (kMp hc.1 hm).2.1 (?_ : X _ _ _ (.inl 3 :: _) _ _)
  refine x_icmp (a' := 27) (pc' := 18) (z := false) rfl rfl rfl (by decide) (fun h => by cases h) (fun _ => ?_)
  refine x_aload_n (pc' := 19) rfl rfl rfl rfl rfl ?_
  refine x_gR (pc' := 22) (r := (some (m + 1))) rfl rfl rfl (kMp hc.1 hm).1 ?_
  refine x_iload_n (pc' := 23) rfl rfl rfl ?_
  refine x_iald (pc' := 24) (N := 3) (x := (mA M 6 ((3 * m) + 0))) rfl rfl rfl (kMp hc.1 hm).2.1 (io_in (p := 0) (N := 3) (by decide) (by decide)) (Eq.trans (congrArg (sA t 20 (m + 1)) (nn_io (p := 0) (by decide))) (kP (m := m) (c := 0) hM hm (by decide))) ?_
  refine x_goto (pc' := 28) rfl rfl ?_
  refine x_reti rfl rfl ?_
  refine sK_i (pc' := 49) rfl ?_
  refine x_istore (pc' := 51) (ls' := [_, _, _, _, _, _, _, _, _, _, _]) rfl rfl rfl rfl ?_
  refine x_iload (pc' := 53) rfl rfl rfl ?_
  refine x_aload_n (pc' := 54) rfl rfl rfl rfl rfl ?_
  refine x_ifnonnull (a' := 61) (pc' := 57) rfl rfl rfl rfl (fun _ _ => ?_) (fun h => by cases h)
  refine x_aload_n (pc' := 62) rfl rfl rfl rfl rfl ?_
  refine x_aload (pc' := 64) rfl rfl rfl rfl rfl ?_
  refine x_cv (ls0 := [_, _, sJk]) (rest := [_]) rfl rfl rfl rfl rfl ?_
  refine x_aload_n (pc' := 1) rfl rfl rfl rfl rfl ?_
  refine x_gI (pc' := 4) (x := 0) rfl rfl rfl (kI_128_0 hc.1) ?_
  refine x_istore_n (pc' := 5) (ls' := [_, _, _]) rfl rfl rfl rfl ?_
  refine x_iload_n (pc' := 6) rfl rfl rfl ?_
  refine x_if (a' := 27) (pc' := 9) (z := false) rfl rfl rfl (by decide) (fun h => by cases h) (fun _ => ?_)
  refine x_iload_n (pc' := 10) rfl rfl rfl ?_
  refine x_aload_n (pc' := 11) rfl rfl rfl rfl rfl ?_
  refine x_gR (pc' := 14) (r := (some (o + 1))) rfl rfl rfl (kMp hc.1 ho).1 ?_
  refine x_alen (pc' := 15) (N := 3) rfl rfl rfl (kMp hc.1 ho).2.1 (?_ : X _ _ _ (.inl 3 :: _) _ _)
  refine x_icmp (a' := 27) (pc' := 18) (z := false) rfl rfl rfl (by decide) (fun h => by cases h) (fun _ => ?_)
  refine x_aload_n (pc' := 19) rfl rfl rfl rfl rfl ?_
  refine x_gR (pc' := 22) (r := (some (o + 1))) rfl rfl rfl (kMp hc.1 ho).1 ?_
  refine x_iload_n (pc' := 23) rfl rfl rfl ?_
  refine x_iald (pc' := 24) (N := 3) (x := (mA M 6 ((3 * o) + 0))) rfl rfl rfl (kMp hc.1 ho).2.1 (io_in (p := 0) (N := 3) (by decide) (by decide)) (Eq.trans (congrArg (sA t 20 (o + 1)) (nn_io (p := 0) (by decide))) (kP (m := o) (c := 0) hM ho (by decide))) ?_
  refine x_goto (pc' := 28) rfl rfl ?_
  refine x_reti rfl rfl ?_
  refine sK_i (pc' := 67) rfl ?_
  refine x_iadd (pc' := 68) (z := ((mA M 6 ((3 * m) + 0)) + (mA M 6 ((3 * o) + 0)))) rfl rfl rfl ?_
  refine x_istore (pc' := 70) (ls' := [_, _, _, _, _, _, _, _, _, _, _]) rfl rfl rfl rfl ?_
  refine x_iload (pc' := 72) rfl rfl rfl ?_
  refine x_iload (pc' := 74) rfl rfl rfl ?_
  refine x_aload_n (pc' := 75) rfl rfl rfl rfl rfl ?_
  refine x_iload (pc' := 77) rfl rfl rfl ?_
  refine x_aload (pc' := 79) rfl rfl rfl rfl rfl ?_
  refine x_gI (pc' := 82) (x := 0) rfl rfl rfl (kI_128_0 hc.1) ?_
  refine x_cv (ls0 := [_, _, _, sJk]) (rest := [_, _]) rfl rfl rfl rfl rfl ?_
  refine x_iload_n (pc' := 1) rfl rfl rfl ?_
  refine x_iconst (pc' := 2) rfl rfl ?_
  refine x_imul (pc' := 3) (z := 3) rfl rfl (by decide) ?_
  refine x_iload_n (pc' := 4) rfl rfl rfl ?_
  refine x_iadd (pc' := 5) (z := 3) rfl rfl (by decide) ?_
  refine x_istore_n (pc' := 6) (ls' := [_, _, _, _]) rfl rfl rfl rfl ?_
  refine x_iload_n (pc' := 7) rfl rfl rfl ?_
  refine x_if (a' := 28) (pc' := 10) (z := false) rfl rfl rfl (by decide) (fun h => by cases h) (fun _ => ?_)
  refine x_iload_n (pc' := 11) rfl rfl rfl ?_
  refine x_aload_n (pc' := 12) rfl rfl rfl rfl rfl ?_
  refine x_gR (pc' := 15) (r := (some 0)) rfl rfl rfl (kR_323_0 hc.1) ?_
  refine x_alen (pc' := 16) (N := 18) rfl rfl rfl (kN_20_0 hc.1) (?_ : X _ _ _ (.inl 18 :: _) _ _)
  refine x_icmp (a' := 28) (pc' := 19) (z := false) rfl rfl rfl (by decide) (fun h => by cases h) (fun _ => ?_)
  refine x_aload_n (pc' := 20) rfl rfl rfl rfl rfl ?_
  refine x_gR (pc' := 23) (r := (some 0)) rfl rfl rfl (kR_323_0 hc.1) ?_
  refine x_iload_n (pc' := 24) rfl rfl rfl ?_
  refine x_iald (pc' := 25) (N := 18) (x := (mA M 11 3)) rfl rfl rfl (kN_20_0 hc.1) (io_in (p := 3) (N := 18) (by decide) (by decide)) (Eq.trans (congrArg (sA t 20 0) (nn_io (p := 3) (by decide))) (kV hM (by decide))) ?_
  refine x_goto (pc' := 29) rfl rfl ?_
  refine x_reti rfl rfl ?_
  refine sK_i (pc' := 85) rfl ?_
  refine x_imul (pc' := 86) (z := (((mA M 6 ((3 * m) + 0)) + (mA M 6 ((3 * o) + 0))) * (mA M 11 3))) rfl rfl rfl ?_
  refine x_isub (pc' := 87) (z := (0 - (((mA M 6 ((3 * m) + 0)) + (mA M 6 ((3 * o) + 0))) * (mA M 11 3)))) rfl rfl rfl ?_
  refine x_istore (pc' := 89) (ls' := [_, _, _, _, _, _, _, _, _, _, _]) rfl rfl rfl rfl ?_
  refine x_iinc (pc' := 92) (y := 1) (ls' := [_, _, _, _, _, _, _, _, _, _, _]) rfl rfl rfl rfl rfl ?_
  refine x_goto (pc' := 29) rfl rfl ?_
  refine x_iload (pc' := 31) rfl rfl rfl ?_
  refine x_iload (pc' := 33) rfl rfl rfl ?_
  refine x_icmp (a' := 95) (pc' := 36) (z := false) rfl rfl rfl (by decide) (fun h => by cases h) (fun _ => ?_)
  refine x_aload (pc' := 38) rfl rfl rfl rfl rfl ?_
  refine x_iload (pc' := 40) rfl rfl rfl ?_
  refine x_aald (pc' := 41) (N := 3) (k' := 2) (r := (some 1)) rfl rfl rfl (kN_25_0 hc.1) (io_in (p := 1) (N := 3) (by decide) (by decide)) (Eq.trans (congrArg (sE t 25 0) (nn_io (p := 1) (by decide))) (kK hc.1 (by decide))) ?_
  refine x_astore (pc' := 43) (ls' := [_, _, _, _, _, _, _, _, _, _, _]) rfl rfl rfl rfl rfl ?_
  refine x_aload_n (pc' := 44) rfl rfl rfl rfl rfl ?_
  refine x_aload (pc' := 46) rfl rfl rfl rfl rfl ?_
  refine x_cv (ls0 := [_, _, sJk]) (rest := []) rfl rfl rfl rfl rfl ?_
  refine x_aload_n (pc' := 1) rfl rfl rfl rfl rfl ?_
  refine x_gI (pc' := 4) (x := 1) rfl rfl rfl (kI_128_1 hc.1) ?_
  refine x_istore_n (pc' := 5) (ls' := [_, _, _]) rfl rfl rfl rfl ?_
  refine x_iload_n (pc' := 6) rfl rfl rfl ?_
  refine x_if (a' := 27) (pc' := 9) (z := false) rfl rfl rfl (by decide) (fun h => by cases h) (fun _ => ?_)
  refine x_iload_n (pc' := 10) rfl rfl rfl ?_
  refine x_aload_n (pc' := 11) rfl rfl rfl rfl rfl ?_
  refine x_gR (pc' := 14) (r := (some (m + 1))) rfl rfl rfl (kMp hc.1 hm).1 ?_
  refine x_alen (pc' := 15) (N := 3) rfl rfl rfl (kMp hc.1 hm).2.1 (?_ : X _ _ _ (.inl 3 :: _) _ _)
  refine x_icmp (a' := 27) (pc' := 18) (z := false) rfl rfl rfl (by decide) (fun h => by cases h) (fun _ => ?_)
  refine x_aload_n (pc' := 19) rfl rfl rfl rfl rfl ?_
  refine x_gR (pc' := 22) (r := (some (m + 1))) rfl rfl rfl (kMp hc.1 hm).1 ?_
  refine x_iload_n (pc' := 23) rfl rfl rfl ?_
  refine x_iald (pc' := 24) (N := 3) (x := (mA M 6 ((3 * m) + 1))) rfl rfl rfl (kMp hc.1 hm).2.1 (io_in (p := 1) (N := 3) (by decide) (by decide)) (Eq.trans (congrArg (sA t 20 (m + 1)) (nn_io (p := 1) (by decide))) (kP (m := m) (c := 1) hM hm (by decide))) ?_
  refine x_goto (pc' := 28) rfl rfl ?_
  refine x_reti rfl rfl ?_
  refine sK_i (pc' := 49) rfl ?_
  refine x_istore (pc' := 51) (ls' := [_, _, _, _, _, _, _, _, _, _, _]) rfl rfl rfl rfl ?_
  refine x_iload (pc' := 53) rfl rfl rfl ?_
  refine x_aload_n (pc' := 54) rfl rfl rfl rfl rfl ?_
  refine x_ifnonnull (a' := 61) (pc' := 57) rfl rfl rfl rfl (fun _ _ => ?_) (fun h => by cases h)
  refine x_aload_n (pc' := 62) rfl rfl rfl rfl rfl ?_
  refine x_aload (pc' := 64) rfl rfl rfl rfl rfl ?_
  refine x_cv (ls0 := [_, _, sJk]) (rest := [_]) rfl rfl rfl rfl rfl ?_
  refine x_aload_n (pc' := 1) rfl rfl rfl rfl rfl ?_
  refine x_gI (pc' := 4) (x := 1) rfl rfl rfl (kI_128_1 hc.1) ?_
  refine x_istore_n (pc' := 5) (ls' := [_, _, _]) rfl rfl rfl rfl ?_
  refine x_iload_n (pc' := 6) rfl rfl rfl ?_
  refine x_if (a' := 27) (pc' := 9) (z := false) rfl rfl rfl (by decide) (fun h => by cases h) (fun _ => ?_)
  refine x_iload_n (pc' := 10) rfl rfl rfl ?_
  refine x_aload_n (pc' := 11) rfl rfl rfl rfl rfl ?_
  refine x_gR (pc' := 14) (r := (some (o + 1))) rfl rfl rfl (kMp hc.1 ho).1 ?_
  refine x_alen (pc' := 15) (N := 3) rfl rfl rfl (kMp hc.1 ho).2.1 (?_ : X _ _ _ (.inl 3 :: _) _ _)
  refine x_icmp (a' := 27) (pc' := 18) (z := false) rfl rfl rfl (by decide) (fun h => by cases h) (fun _ => ?_)
  refine x_aload_n (pc' := 19) rfl rfl rfl rfl rfl ?_
  refine x_gR (pc' := 22) (r := (some (o + 1))) rfl rfl rfl (kMp hc.1 ho).1 ?_
  refine x_iload_n (pc' := 23) rfl rfl rfl ?_
  refine x_iald (pc' := 24) (N := 3) (x := (mA M 6 ((3 * o) + 1))) rfl rfl rfl (kMp hc.1 ho).2.1 (io_in (p := 1) (N := 3) (by decide) (by decide)) (Eq.trans (congrArg (sA t 20 (o + 1)) (nn_io (p := 1) (by decide))) (kP (m := o) (c := 1) hM ho (by decide))) ?_
  refine x_goto (pc' := 28) rfl rfl ?_
  refine x_reti rfl rfl ?_
  refine sK_i (pc' := 67) rfl ?_
  refine x_iadd (pc' := 68) (z := ((mA M 6 ((3 * m) + 1)) + (mA M 6 ((3 * o) + 1)))) rfl rfl rfl ?_
  refine x_istore (pc' := 70) (ls' := [_, _, _, _, _, _, _, _, _, _, _]) rfl rfl rfl rfl ?_
  refine x_iload (pc' := 72) rfl rfl rfl ?_
  refine x_iload (pc' := 74) rfl rfl rfl ?_
  refine x_aload_n (pc' := 75) rfl rfl rfl rfl rfl ?_
  refine x_iload (pc' := 77) rfl rfl rfl ?_
  refine x_aload (pc' := 79) rfl rfl rfl rfl rfl ?_
  refine x_gI (pc' := 82) (x := 1) rfl rfl rfl (kI_128_1 hc.1) ?_
  refine x_cv (ls0 := [_, _, _, sJk]) (rest := [_, _]) rfl rfl rfl rfl rfl ?_
  refine x_iload_n (pc' := 1) rfl rfl rfl ?_
  refine x_iconst (pc' := 2) rfl rfl ?_
  refine x_imul (pc' := 3) (z := 3) rfl rfl (by decide) ?_
  refine x_iload_n (pc' := 4) rfl rfl rfl ?_
  refine x_iadd (pc' := 5) (z := 4) rfl rfl (by decide) ?_
  refine x_istore_n (pc' := 6) (ls' := [_, _, _, _]) rfl rfl rfl rfl ?_
  refine x_iload_n (pc' := 7) rfl rfl rfl ?_
  refine x_if (a' := 28) (pc' := 10) (z := false) rfl rfl rfl (by decide) (fun h => by cases h) (fun _ => ?_)
  refine x_iload_n (pc' := 11) rfl rfl rfl ?_
  refine x_aload_n (pc' := 12) rfl rfl rfl rfl rfl ?_
  refine x_gR (pc' := 15) (r := (some 0)) rfl rfl rfl (kR_323_0 hc.1) ?_
  refine x_alen (pc' := 16) (N := 18) rfl rfl rfl (kN_20_0 hc.1) (?_ : X _ _ _ (.inl 18 :: _) _ _)
  refine x_icmp (a' := 28) (pc' := 19) (z := false) rfl rfl rfl (by decide) (fun h => by cases h) (fun _ => ?_)
  refine x_aload_n (pc' := 20) rfl rfl rfl rfl rfl ?_
  refine x_gR (pc' := 23) (r := (some 0)) rfl rfl rfl (kR_323_0 hc.1) ?_
  refine x_iload_n (pc' := 24) rfl rfl rfl ?_
  refine x_iald (pc' := 25) (N := 18) (x := (mA M 11 4)) rfl rfl rfl (kN_20_0 hc.1) (io_in (p := 4) (N := 18) (by decide) (by decide)) (Eq.trans (congrArg (sA t 20 0) (nn_io (p := 4) (by decide))) (kV hM (by decide))) ?_
  refine x_goto (pc' := 29) rfl rfl ?_
  refine x_reti rfl rfl ?_
  refine sK_i (pc' := 85) rfl ?_
  refine x_imul (pc' := 86) (z := (((mA M 6 ((3 * m) + 1)) + (mA M 6 ((3 * o) + 1))) * (mA M 11 4))) rfl rfl rfl ?_
  refine x_isub (pc' := 87) (z := ((0 - (((mA M 6 ((3 * m) + 0)) + (mA M 6 ((3 * o) + 0))) * (mA M 11 3))) - (((mA M 6 ((3 * m) + 1)) + (mA M 6 ((3 * o) + 1))) * (mA M 11 4)))) rfl rfl rfl ?_
  refine x_istore (pc' := 89) (ls' := [_, _, _, _, _, _, _, _, _, _, _]) rfl rfl rfl rfl ?_
  refine x_iinc (pc' := 92) (y := 2) (ls' := [_, _, _, _, _, _, _, _, _, _, _]) rfl rfl rfl rfl rfl ?_
  refine x_goto (pc' := 29) rfl rfl ?_
  refine x_iload (pc' := 31) rfl rfl rfl ?_
  refine x_iload (pc' := 33) rfl rfl rfl ?_
  refine x_icmp (a' := 95) (pc' := 36) (z := false) rfl rfl rfl (by decide) (fun h => by cases h) (fun _ => ?_)
  refine x_aload (pc' := 38) rfl rfl rfl rfl rfl ?_
  refine x_iload (pc' := 40) rfl rfl rfl ?_
  refine x_aald (pc' := 41) (N := 3) (k' := 2) (r := (some 2)) rfl rfl rfl (kN_25_0 hc.1) (io_in (p := 2) (N := 3) (by decide) (by decide)) (Eq.trans (congrArg (sE t 25 0) (nn_io (p := 2) (by decide))) (kK hc.1 (by decide))) ?_
  refine x_astore (pc' := 43) (ls' := [_, _, _, _, _, _, _, _, _, _, _]) rfl rfl rfl rfl rfl ?_
  refine x_aload_n (pc' := 44) rfl rfl rfl rfl rfl ?_
  refine x_aload (pc' := 46) rfl rfl rfl rfl rfl ?_
  refine x_cv (ls0 := [_, _, sJk]) (rest := []) rfl rfl rfl rfl rfl ?_
  refine x_aload_n (pc' := 1) rfl rfl rfl rfl rfl ?_
  refine x_gI (pc' := 4) (x := 2) rfl rfl rfl (kI_128_2 hc.1) ?_
  refine x_istore_n (pc' := 5) (ls' := [_, _, _]) rfl rfl rfl rfl ?_
  refine x_iload_n (pc' := 6) rfl rfl rfl ?_
  refine x_if (a' := 27) (pc' := 9) (z := false) rfl rfl rfl (by decide) (fun h => by cases h) (fun _ => ?_)
  refine x_iload_n (pc' := 10) rfl rfl rfl ?_
  refine x_aload_n (pc' := 11) rfl rfl rfl rfl rfl ?_
  refine x_gR (pc' := 14) (r := (some (m + 1))) rfl rfl rfl (kMp hc.1 hm).1 ?_
  refine x_alen (pc' := 15) (N := 3) rfl rfl rfl (kMp hc.1 hm).2.1 (?_ : X _ _ _ (.inl 3 :: _) _ _)
  refine x_icmp (a' := 27) (pc' := 18) (z := false) rfl rfl rfl (by decide) (fun h => by cases h) (fun _ => ?_)
  refine x_aload_n (pc' := 19) rfl rfl rfl rfl rfl ?_
  refine x_gR (pc' := 22) (r := (some (m + 1))) rfl rfl rfl (kMp hc.1 hm).1 ?_
  refine x_iload_n (pc' := 23) rfl rfl rfl ?_
  refine x_iald (pc' := 24) (N := 3) (x := (mA M 6 ((3 * m) + 2))) rfl rfl rfl (kMp hc.1 hm).2.1 (io_in (p := 2) (N := 3) (by decide) (by decide)) (Eq.trans (congrArg (sA t 20 (m + 1)) (nn_io (p := 2) (by decide))) (kP (m := m) (c := 2) hM hm (by decide))) ?_
  refine x_goto (pc' := 28) rfl rfl ?_
  refine x_reti rfl rfl ?_
  refine sK_i (pc' := 49) rfl ?_
  refine x_istore (pc' := 51) (ls' := [_, _, _, _, _, _, _, _, _, _, _]) rfl rfl rfl rfl ?_
  refine x_iload (pc' := 53) rfl rfl rfl ?_
  refine x_aload_n (pc' := 54) rfl rfl rfl rfl rfl ?_
  refine x_ifnonnull (a' := 61) (pc' := 57) rfl rfl rfl rfl (fun _ _ => ?_) (fun h => by cases h)
  refine x_aload_n (pc' := 62) rfl rfl rfl rfl rfl ?_
  refine x_aload (pc' := 64) rfl rfl rfl rfl rfl ?_
  refine x_cv (ls0 := [_, _, sJk]) (rest := [_]) rfl rfl rfl rfl rfl ?_
  refine x_aload_n (pc' := 1) rfl rfl rfl rfl rfl ?_
  refine x_gI (pc' := 4) (x := 2) rfl rfl rfl (kI_128_2 hc.1) ?_
  refine x_istore_n (pc' := 5) (ls' := [_, _, _]) rfl rfl rfl rfl ?_
  refine x_iload_n (pc' := 6) rfl rfl rfl ?_
  refine x_if (a' := 27) (pc' := 9) (z := false) rfl rfl rfl (by decide) (fun h => by cases h) (fun _ => ?_)
  refine x_iload_n (pc' := 10) rfl rfl rfl ?_
  refine x_aload_n (pc' := 11) rfl rfl rfl rfl rfl ?_
  refine x_gR (pc' := 14) (r := (some (o + 1))) rfl rfl rfl (kMp hc.1 ho).1 ?_
  refine x_alen (pc' := 15) (N := 3) rfl rfl rfl (kMp hc.1 ho).2.1 (?_ : X _ _ _ (.inl 3 :: _) _ _)
  refine x_icmp (a' := 27) (pc' := 18) (z := false) rfl rfl rfl (by decide) (fun h => by cases h) (fun _ => ?_)
  refine x_aload_n (pc' := 19) rfl rfl rfl rfl rfl ?_
  refine x_gR (pc' := 22) (r := (some (o + 1))) rfl rfl rfl (kMp hc.1 ho).1 ?_
  refine x_iload_n (pc' := 23) rfl rfl rfl ?_
  refine x_iald (pc' := 24) (N := 3) (x := (mA M 6 ((3 * o) + 2))) rfl rfl rfl (kMp hc.1 ho).2.1 (io_in (p := 2) (N := 3) (by decide) (by decide)) (Eq.trans (congrArg (sA t 20 (o + 1)) (nn_io (p := 2) (by decide))) (kP (m := o) (c := 2) hM ho (by decide))) ?_
  refine x_goto (pc' := 28) rfl rfl ?_
  refine x_reti rfl rfl ?_
  refine sK_i (pc' := 67) rfl ?_
  refine x_iadd (pc' := 68) (z := ((mA M 6 ((3 * m) + 2)) + (mA M 6 ((3 * o) + 2)))) rfl rfl rfl ?_
  refine x_istore (pc' := 70) (ls' := [_, _, _, _, _, _, _, _, _, _, _]) rfl rfl rfl rfl ?_
  refine x_iload (pc' := 72) rfl rfl rfl ?_
  refine x_iload (pc' := 74) rfl rfl rfl ?_
  refine x_aload_n (pc' := 75) rfl rfl rfl rfl rfl ?_
  refine x_iload (pc' := 77) rfl rfl rfl ?_
  refine x_aload (pc' := 79) rfl rfl rfl rfl rfl ?_
  refine x_gI (pc' := 82) (x := 2) rfl rfl rfl (kI_128_2 hc.1) ?_
  refine x_cv (ls0 := [_, _, _, sJk]) (rest := [_, _]) rfl rfl rfl rfl rfl ?_
  refine x_iload_n (pc' := 1) rfl rfl rfl ?_
  refine x_iconst (pc' := 2) rfl rfl ?_
  refine x_imul (pc' := 3) (z := 3) rfl rfl (by decide) ?_
  refine x_iload_n (pc' := 4) rfl rfl rfl ?_
  refine x_iadd (pc' := 5) (z := 5) rfl rfl (by decide) ?_
  refine x_istore_n (pc' := 6) (ls' := [_, _, _, _]) rfl rfl rfl rfl ?_
  refine x_iload_n (pc' := 7) rfl rfl rfl ?_
  refine x_if (a' := 28) (pc' := 10) (z := false) rfl rfl rfl (by decide) (fun h => by cases h) (fun _ => ?_)
  refine x_iload_n (pc' := 11) rfl rfl rfl ?_
  refine x_aload_n (pc' := 12) rfl rfl rfl rfl rfl ?_
  refine x_gR (pc' := 15) (r := (some 0)) rfl rfl rfl (kR_323_0 hc.1) ?_
  refine x_alen (pc' := 16) (N := 18) rfl rfl rfl (kN_20_0 hc.1) (?_ : X _ _ _ (.inl 18 :: _) _ _)
  refine x_icmp (a' := 28) (pc' := 19) (z := false) rfl rfl rfl (by decide) (fun h => by cases h) (fun _ => ?_)
  refine x_aload_n (pc' := 20) rfl rfl rfl rfl rfl ?_
  refine x_gR (pc' := 23) (r := (some 0)) rfl rfl rfl (kR_323_0 hc.1) ?_
  refine x_iload_n (pc' := 24) rfl rfl rfl ?_
  refine x_iald (pc' := 25) (N := 18) (x := (mA M 11 5)) rfl rfl rfl (kN_20_0 hc.1) (io_in (p := 5) (N := 18) (by decide) (by decide)) (Eq.trans (congrArg (sA t 20 0) (nn_io (p := 5) (by decide))) (kV hM (by decide))) ?_
  refine x_goto (pc' := 29) rfl rfl ?_
  refine x_reti rfl rfl ?_
  refine sK_i (pc' := 85) rfl ?_
  refine x_imul (pc' := 86) (z := (((mA M 6 ((3 * m) + 2)) + (mA M 6 ((3 * o) + 2))) * (mA M 11 5))) rfl rfl rfl ?_
  refine x_isub (pc' := 87) (z := (((0 - (((mA M 6 ((3 * m) + 0)) + (mA M 6 ((3 * o) + 0))) * (mA M 11 3))) - (((mA M 6 ((3 * m) + 1)) + (mA M 6 ((3 * o) + 1))) * (mA M 11 4))) - (((mA M 6 ((3 * m) + 2)) + (mA M 6 ((3 * o) + 2))) * (mA M 11 5)))) rfl rfl rfl ?_
  refine x_istore (pc' := 89) (ls' := [_, _, _, _, _, _, _, _, _, _, _]) rfl rfl rfl rfl ?_
  refine x_iinc (pc' := 92) (y := 3) (ls' := [_, _, _, _, _, _, _, _, _, _, _]) rfl rfl rfl rfl rfl ?_
  refine x_goto (pc' := 29) rfl rfl ?_
  refine x_iload (pc' := 31) rfl rfl rfl ?_
  refine x_iload (pc' := 33) rfl rfl rfl ?_
  refine x_icmp (a' := 95) (pc' := 36) (z := true) rfl rfl rfl (by decide) (fun _ => ?_) (fun h => by cases h)
  refine x_iload_n (pc' := 96) rfl rfl rfl ?_
  refine x_iload (pc' := 98) rfl rfl rfl ?_
  refine x_max (pc' := 101) (z := (mx (mx 0 (((0 - (((mA M 6 ((3 * m) + 0)) + (mA M 6 ((3 * o) + 0))) * (mA M 11 0))) - (((mA M 6 ((3 * m) + 1)) + (mA M 6 ((3 * o) + 1))) * (mA M 11 1))) - (((mA M 6 ((3 * m) + 2)) + (mA M 6 ((3 * o) + 2))) * (mA M 11 2)))) (((0 - (((mA M 6 ((3 * m) + 0)) + (mA M 6 ((3 * o) + 0))) * (mA M 11 3))) - (((mA M 6 ((3 * m) + 1)) + (mA M 6 ((3 * o) + 1))) * (mA M 11 4))) - (((mA M 6 ((3 * m) + 2)) + (mA M 6 ((3 * o) + 2))) * (mA M 11 5))))) rfl rfl rfl rfl ?_
  refine x_istore_n (pc' := 102) (ls' := [_, _, _, _, _, _, _, _, _, _, _]) rfl rfl rfl rfl ?_
  refine x_iinc (pc' := 105) (y := 2) (ls' := [_, _, _, _, _, _, _, _, _, _, _]) rfl rfl rfl rfl rfl ?_
  refine x_goto (pc' := 5) rfl rfl ?_
  refine x_iload (pc' := 7) rfl rfl rfl ?_
  refine x_bipush (pc' := 9) rfl rfl ?_
  refine x_icmp (a' := 108) (pc' := 12) (z := false) rfl rfl rfl (by decide) (fun h => by cases h) (fun _ => ?_)
  refine x_iconst (pc' := 13) rfl rfl ?_
  refine x_istore (pc' := 15) (ls' := [_, _, _, _, _, _, _, _, _, _, _]) rfl rfl rfl rfl ?_
  refine x_aload_n (pc' := 16) rfl rfl rfl rfl rfl ?_
  refine x_gR (pc' := 19) (r := (some 0)) rfl rfl rfl (kR_320_0 hc.1) ?_
  refine x_astore (pc' := 21) (ls' := [_, _, _, _, _, _, _, _, _, _, _]) rfl rfl rfl rfl rfl ?_
  refine x_aload (pc' := 23) rfl rfl rfl rfl rfl ?_
  refine x_alen (pc' := 24) (N := 3) rfl rfl rfl (kN_25_0 hc.1) (?_ : X _ _ _ (.inl 3 :: _) _ _)
  refine x_istore (pc' := 26) (ls' := [_, _, _, _, _, _, _, _, _, _, _]) rfl rfl rfl rfl ?_
  refine x_iconst (pc' := 27) rfl rfl ?_
  refine x_istore (pc' := 29) (ls' := [_, _, _, _, _, _, _, _, _, _, _]) rfl rfl rfl rfl ?_
  refine x_iload (pc' := 31) rfl rfl rfl ?_
  refine x_iload (pc' := 33) rfl rfl rfl ?_
  refine x_icmp (a' := 95) (pc' := 36) (z := false) rfl rfl rfl (by decide) (fun h => by cases h) (fun _ => ?_)
  refine x_aload (pc' := 38) rfl rfl rfl rfl rfl ?_
  refine x_iload (pc' := 40) rfl rfl rfl ?_
  refine x_aald (pc' := 41) (N := 3) (k' := 2) (r := (some 0)) rfl rfl rfl (kN_25_0 hc.1) (io_in (p := 0) (N := 3) (by decide) (by decide)) (Eq.trans (congrArg (sE t 25 0) (nn_io (p := 0) (by decide))) (kK hc.1 (by decide))) ?_
  refine x_astore (pc' := 43) (ls' := [_, _, _, _, _, _, _, _, _, _, _]) rfl rfl rfl rfl rfl ?_
  refine x_aload_n (pc' := 44) rfl rfl rfl rfl rfl ?_
  refine x_aload (pc' := 46) rfl rfl rfl rfl rfl ?_
  refine x_cv (ls0 := [_, _, sJk]) (rest := []) rfl rfl rfl rfl rfl ?_
  refine x_aload_n (pc' := 1) rfl rfl rfl rfl rfl ?_
  refine x_gI (pc' := 4) (x := 0) rfl rfl rfl (kI_128_0 hc.1) ?_
  refine x_istore_n (pc' := 5) (ls' := [_, _, _]) rfl rfl rfl rfl ?_
  refine x_iload_n (pc' := 6) rfl rfl rfl ?_
  refine x_if (a' := 27) (pc' := 9) (z := false) rfl rfl rfl (by decide) (fun h => by cases h) (fun _ => ?_)
  refine x_iload_n (pc' := 10) rfl rfl rfl ?_
  refine x_aload_n (pc' := 11) rfl rfl rfl rfl rfl ?_
  refine x_gR (pc' := 14) (r := (some (m + 1))) rfl rfl rfl (kMp hc.1 hm).1 ?_
  refine x_alen (pc' := 15) (N := 3) rfl rfl rfl (kMp hc.1 hm).2.1 (?_ : X _ _ _ (.inl 3 :: _) _ _)
  refine x_icmp (a' := 27) (pc' := 18) (z := false) rfl rfl rfl (by decide) (fun h => by cases h) (fun _ => ?_)
  refine x_aload_n (pc' := 19) rfl rfl rfl rfl rfl ?_
  refine x_gR (pc' := 22) (r := (some (m + 1))) rfl rfl rfl (kMp hc.1 hm).1 ?_
  refine x_iload_n (pc' := 23) rfl rfl rfl ?_
  refine x_iald (pc' := 24) (N := 3) (x := (mA M 6 ((3 * m) + 0))) rfl rfl rfl (kMp hc.1 hm).2.1 (io_in (p := 0) (N := 3) (by decide) (by decide)) (Eq.trans (congrArg (sA t 20 (m + 1)) (nn_io (p := 0) (by decide))) (kP (m := m) (c := 0) hM hm (by decide))) ?_
  refine x_goto (pc' := 28) rfl rfl ?_
  refine x_reti rfl rfl ?_
  refine sK_i (pc' := 49) rfl ?_
  refine x_istore (pc' := 51) (ls' := [_, _, _, _, _, _, _, _, _, _, _]) rfl rfl rfl rfl ?_
  refine x_iload (pc' := 53) rfl rfl rfl ?_
  refine x_aload_n (pc' := 54) rfl rfl rfl rfl rfl ?_
  refine x_ifnonnull (a' := 61) (pc' := 57) rfl rfl rfl rfl (fun _ _ => ?_) (fun h => by cases h)
  refine x_aload_n (pc' := 62) rfl rfl rfl rfl rfl ?_
  refine x_aload (pc' := 64) rfl rfl rfl rfl rfl ?_
  refine x_cv (ls0 := [_, _, sJk]) (rest := [_]) rfl rfl rfl rfl rfl ?_
  refine x_aload_n (pc' := 1) rfl rfl rfl rfl rfl ?_
  refine x_gI (pc' := 4) (x := 0) rfl rfl rfl (kI_128_0 hc.1) ?_
  refine x_istore_n (pc' := 5) (ls' := [_, _, _]) rfl rfl rfl rfl ?_
  refine x_iload_n (pc' := 6) rfl rfl rfl ?_
  refine x_if (a' := 27) (pc' := 9) (z := false) rfl rfl rfl (by decide) (fun h => by cases h) (fun _ => ?_)
  refine x_iload_n (pc' := 10) rfl rfl rfl ?_
  refine x_aload_n (pc' := 11) rfl rfl rfl rfl rfl ?_
  refine x_gR (pc' := 14) (r := (some (o + 1))) rfl rfl rfl (kMp hc.1 ho).1 ?_
  refine x_alen (pc' := 15) (N := 3) rfl rfl rfl (kMp hc.1 ho).2.1 (?_ : X _ _ _ (.inl 3 :: _) _ _)
  refine x_icmp (a' := 27) (pc' := 18) (z := false) rfl rfl rfl (by decide) (fun h => by cases h) (fun _ => ?_)
  refine x_aload_n (pc' := 19) rfl rfl rfl rfl rfl ?_
  refine x_gR (pc' := 22) (r := (some (o + 1))) rfl rfl rfl (kMp hc.1 ho).1 ?_
  refine x_iload_n (pc' := 23) rfl rfl rfl ?_
  refine x_iald (pc' := 24) (N := 3) (x := (mA M 6 ((3 * o) + 0))) rfl rfl rfl (kMp hc.1 ho).2.1 (io_in (p := 0) (N := 3) (by decide) (by decide)) (Eq.trans (congrArg (sA t 20 (o + 1)) (nn_io (p := 0) (by decide))) (kP (m := o) (c := 0) hM ho (by decide))) ?_
  refine x_goto (pc' := 28) rfl rfl ?_
  refine x_reti rfl rfl ?_
  refine sK_i (pc' := 67) rfl ?_
  refine x_iadd (pc' := 68) (z := ((mA M 6 ((3 * m) + 0)) + (mA M 6 ((3 * o) + 0)))) rfl rfl rfl ?_
  refine x_istore (pc' := 70) (ls' := [_, _, _, _, _, _, _, _, _, _, _]) rfl rfl rfl rfl ?_
  refine x_iload (pc' := 72) rfl rfl rfl ?_
  refine x_iload (pc' := 74) rfl rfl rfl ?_
  refine x_aload_n (pc' := 75) rfl rfl rfl rfl rfl ?_
  refine x_iload (pc' := 77) rfl rfl rfl ?_
  refine x_aload (pc' := 79) rfl rfl rfl rfl rfl ?_
  refine x_gI (pc' := 82) (x := 0) rfl rfl rfl (kI_128_0 hc.1) ?_
  refine x_cv (ls0 := [_, _, _, sJk]) (rest := [_, _]) rfl rfl rfl rfl rfl ?_
  refine x_iload_n (pc' := 1) rfl rfl rfl ?_
  refine x_iconst (pc' := 2) rfl rfl ?_
  refine x_imul (pc' := 3) (z := 6) rfl rfl (by decide) ?_
  refine x_iload_n (pc' := 4) rfl rfl rfl ?_
  refine x_iadd (pc' := 5) (z := 6) rfl rfl (by decide) ?_
  refine x_istore_n (pc' := 6) (ls' := [_, _, _, _]) rfl rfl rfl rfl ?_
  refine x_iload_n (pc' := 7) rfl rfl rfl ?_
  refine x_if (a' := 28) (pc' := 10) (z := false) rfl rfl rfl (by decide) (fun h => by cases h) (fun _ => ?_)
  refine x_iload_n (pc' := 11) rfl rfl rfl ?_
  refine x_aload_n (pc' := 12) rfl rfl rfl rfl rfl ?_
  refine x_gR (pc' := 15) (r := (some 0)) rfl rfl rfl (kR_323_0 hc.1) ?_
  refine x_alen (pc' := 16) (N := 18) rfl rfl rfl (kN_20_0 hc.1) (?_ : X _ _ _ (.inl 18 :: _) _ _)
  refine x_icmp (a' := 28) (pc' := 19) (z := false) rfl rfl rfl (by decide) (fun h => by cases h) (fun _ => ?_)
  refine x_aload_n (pc' := 20) rfl rfl rfl rfl rfl ?_
  refine x_gR (pc' := 23) (r := (some 0)) rfl rfl rfl (kR_323_0 hc.1) ?_
  refine x_iload_n (pc' := 24) rfl rfl rfl ?_
  refine x_iald (pc' := 25) (N := 18) (x := (mA M 11 6)) rfl rfl rfl (kN_20_0 hc.1) (io_in (p := 6) (N := 18) (by decide) (by decide)) (Eq.trans (congrArg (sA t 20 0) (nn_io (p := 6) (by decide))) (kV hM (by decide))) ?_
  refine x_goto (pc' := 29) rfl rfl ?_
  refine x_reti rfl rfl ?_
  refine sK_i (pc' := 85) rfl ?_
  refine x_imul (pc' := 86) (z := (((mA M 6 ((3 * m) + 0)) + (mA M 6 ((3 * o) + 0))) * (mA M 11 6))) rfl rfl rfl ?_
  refine x_isub (pc' := 87) (z := (0 - (((mA M 6 ((3 * m) + 0)) + (mA M 6 ((3 * o) + 0))) * (mA M 11 6)))) rfl rfl rfl ?_
  refine x_istore (pc' := 89) (ls' := [_, _, _, _, _, _, _, _, _, _, _]) rfl rfl rfl rfl ?_
  refine x_iinc (pc' := 92) (y := 1) (ls' := [_, _, _, _, _, _, _, _, _, _, _]) rfl rfl rfl rfl rfl ?_
  refine x_goto (pc' := 29) rfl rfl ?_
  refine x_iload (pc' := 31) rfl rfl rfl ?_
  refine x_iload (pc' := 33) rfl rfl rfl ?_
  refine x_icmp (a' := 95) (pc' := 36) (z := false) rfl rfl rfl (by decide) (fun h => by cases h) (fun _ => ?_)
  refine x_aload (pc' := 38) rfl rfl rfl rfl rfl ?_
  refine x_iload (pc' := 40) rfl rfl rfl ?_
  refine x_aald (pc' := 41) (N := 3) (k' := 2) (r := (some 1)) rfl rfl rfl (kN_25_0 hc.1) (io_in (p := 1) (N := 3) (by decide) (by decide)) (Eq.trans (congrArg (sE t 25 0) (nn_io (p := 1) (by decide))) (kK hc.1 (by decide))) ?_
  refine x_astore (pc' := 43) (ls' := [_, _, _, _, _, _, _, _, _, _, _]) rfl rfl rfl rfl rfl ?_
  refine x_aload_n (pc' := 44) rfl rfl rfl rfl rfl ?_
  refine x_aload (pc' := 46) rfl rfl rfl rfl rfl ?_
  refine x_cv (ls0 := [_, _, sJk]) (rest := []) rfl rfl rfl rfl rfl ?_
  refine x_aload_n (pc' := 1) rfl rfl rfl rfl rfl ?_
  refine x_gI (pc' := 4) (x := 1) rfl rfl rfl (kI_128_1 hc.1) ?_
  refine x_istore_n (pc' := 5) (ls' := [_, _, _]) rfl rfl rfl rfl ?_
  refine x_iload_n (pc' := 6) rfl rfl rfl ?_
  refine x_if (a' := 27) (pc' := 9) (z := false) rfl rfl rfl (by decide) (fun h => by cases h) (fun _ => ?_)
  refine x_iload_n (pc' := 10) rfl rfl rfl ?_
  refine x_aload_n (pc' := 11) rfl rfl rfl rfl rfl ?_
  refine x_gR (pc' := 14) (r := (some (m + 1))) rfl rfl rfl (kMp hc.1 hm).1 ?_
  refine x_alen (pc' := 15) (N := 3) rfl rfl rfl (kMp hc.1 hm).2.1 (?_ : X _ _ _ (.inl 3 :: _) _ _)
  refine x_icmp (a' := 27) (pc' := 18) (z := false) rfl rfl rfl (by decide) (fun h => by cases h) (fun _ => ?_)
  refine x_aload_n (pc' := 19) rfl rfl rfl rfl rfl ?_
  refine x_gR (pc' := 22) (r := (some (m + 1))) rfl rfl rfl (kMp hc.1 hm).1 ?_
  refine x_iload_n (pc' := 23) rfl rfl rfl ?_
  refine x_iald (pc' := 24) (N := 3) (x := (mA M 6 ((3 * m) + 1))) rfl rfl rfl (kMp hc.1 hm).2.1 (io_in (p := 1) (N := 3) (by decide) (by decide)) (Eq.trans (congrArg (sA t 20 (m + 1)) (nn_io (p := 1) (by decide))) (kP (m := m) (c := 1) hM hm (by decide))) ?_
  refine x_goto (pc' := 28) rfl rfl ?_
  refine x_reti rfl rfl ?_
  refine sK_i (pc' := 49) rfl ?_
  refine x_istore (pc' := 51) (ls' := [_, _, _, _, _, _, _, _, _, _, _]) rfl rfl rfl rfl ?_
  refine x_iload (pc' := 53) rfl rfl rfl ?_
  refine x_aload_n (pc' := 54) rfl rfl rfl rfl rfl ?_
  refine x_ifnonnull (a' := 61) (pc' := 57) rfl rfl rfl rfl (fun _ _ => ?_) (fun h => by cases h)
  refine x_aload_n (pc' := 62) rfl rfl rfl rfl rfl ?_
  refine x_aload (pc' := 64) rfl rfl rfl rfl rfl ?_
  refine x_cv (ls0 := [_, _, sJk]) (rest := [_]) rfl rfl rfl rfl rfl ?_
  refine x_aload_n (pc' := 1) rfl rfl rfl rfl rfl ?_
  refine x_gI (pc' := 4) (x := 1) rfl rfl rfl (kI_128_1 hc.1) ?_
  refine x_istore_n (pc' := 5) (ls' := [_, _, _]) rfl rfl rfl rfl ?_
  refine x_iload_n (pc' := 6) rfl rfl rfl ?_
  refine x_if (a' := 27) (pc' := 9) (z := false) rfl rfl rfl (by decide) (fun h => by cases h) (fun _ => ?_)
  refine x_iload_n (pc' := 10) rfl rfl rfl ?_
  refine x_aload_n (pc' := 11) rfl rfl rfl rfl rfl ?_
  refine x_gR (pc' := 14) (r := (some (o + 1))) rfl rfl rfl (kMp hc.1 ho).1 ?_
  refine x_alen (pc' := 15) (N := 3) rfl rfl rfl (kMp hc.1 ho).2.1 (?_ : X _ _ _ (.inl 3 :: _) _ _)
  refine x_icmp (a' := 27) (pc' := 18) (z := false) rfl rfl rfl (by decide) (fun h => by cases h) (fun _ => ?_)
  refine x_aload_n (pc' := 19) rfl rfl rfl rfl rfl ?_
  refine x_gR (pc' := 22) (r := (some (o + 1))) rfl rfl rfl (kMp hc.1 ho).1 ?_
  refine x_iload_n (pc' := 23) rfl rfl rfl ?_
  refine x_iald (pc' := 24) (N := 3) (x := (mA M 6 ((3 * o) + 1))) rfl rfl rfl (kMp hc.1 ho).2.1 (io_in (p := 1) (N := 3) (by decide) (by decide)) (Eq.trans (congrArg (sA t 20 (o + 1)) (nn_io (p := 1) (by decide))) (kP (m := o) (c := 1) hM ho (by decide))) ?_
  refine x_goto (pc' := 28) rfl rfl ?_
  refine x_reti rfl rfl ?_
  refine sK_i (pc' := 67) rfl ?_
  refine x_iadd (pc' := 68) (z := ((mA M 6 ((3 * m) + 1)) + (mA M 6 ((3 * o) + 1)))) rfl rfl rfl ?_
  refine x_istore (pc' := 70) (ls' := [_, _, _, _, _, _, _, _, _, _, _]) rfl rfl rfl rfl ?_
  refine x_iload (pc' := 72) rfl rfl rfl ?_
  refine x_iload (pc' := 74) rfl rfl rfl ?_
  refine x_aload_n (pc' := 75) rfl rfl rfl rfl rfl ?_
  refine x_iload (pc' := 77) rfl rfl rfl ?_
  refine x_aload (pc' := 79) rfl rfl rfl rfl rfl ?_
  refine x_gI (pc' := 82) (x := 1) rfl rfl rfl (kI_128_1 hc.1) ?_
  refine x_cv (ls0 := [_, _, _, sJk]) (rest := [_, _]) rfl rfl rfl rfl rfl ?_
  refine x_iload_n (pc' := 1) rfl rfl rfl ?_
  refine x_iconst (pc' := 2) rfl rfl ?_
  refine x_imul (pc' := 3) (z := 6) rfl rfl (by decide) ?_
  refine x_iload_n (pc' := 4) rfl rfl rfl ?_
  refine x_iadd (pc' := 5) (z := 7) rfl rfl (by decide) ?_
  refine x_istore_n (pc' := 6) (ls' := [_, _, _, _]) rfl rfl rfl rfl ?_
  refine x_iload_n (pc' := 7) rfl rfl rfl ?_
  refine x_if (a' := 28) (pc' := 10) (z := false) rfl rfl rfl (by decide) (fun h => by cases h) (fun _ => ?_)
  refine x_iload_n (pc' := 11) rfl rfl rfl ?_
  refine x_aload_n (pc' := 12) rfl rfl rfl rfl rfl ?_
  refine x_gR (pc' := 15) (r := (some 0)) rfl rfl rfl (kR_323_0 hc.1) ?_
  refine x_alen (pc' := 16) (N := 18) rfl rfl rfl (kN_20_0 hc.1) (?_ : X _ _ _ (.inl 18 :: _) _ _)
  refine x_icmp (a' := 28) (pc' := 19) (z := false) rfl rfl rfl (by decide) (fun h => by cases h) (fun _ => ?_)
  refine x_aload_n (pc' := 20) rfl rfl rfl rfl rfl ?_
  refine x_gR (pc' := 23) (r := (some 0)) rfl rfl rfl (kR_323_0 hc.1) ?_
  refine x_iload_n (pc' := 24) rfl rfl rfl ?_
  refine x_iald (pc' := 25) (N := 18) (x := (mA M 11 7)) rfl rfl rfl (kN_20_0 hc.1) (io_in (p := 7) (N := 18) (by decide) (by decide)) (Eq.trans (congrArg (sA t 20 0) (nn_io (p := 7) (by decide))) (kV hM (by decide))) ?_
  refine x_goto (pc' := 29) rfl rfl ?_
  refine x_reti rfl rfl ?_
  refine sK_i (pc' := 85) rfl ?_
  refine x_imul (pc' := 86) (z := (((mA M 6 ((3 * m) + 1)) + (mA M 6 ((3 * o) + 1))) * (mA M 11 7))) rfl rfl rfl ?_
  refine x_isub (pc' := 87) (z := ((0 - (((mA M 6 ((3 * m) + 0)) + (mA M 6 ((3 * o) + 0))) * (mA M 11 6))) - (((mA M 6 ((3 * m) + 1)) + (mA M 6 ((3 * o) + 1))) * (mA M 11 7)))) rfl rfl rfl ?_
  refine x_istore (pc' := 89) (ls' := [_, _, _, _, _, _, _, _, _, _, _]) rfl rfl rfl rfl ?_
  refine x_iinc (pc' := 92) (y := 2) (ls' := [_, _, _, _, _, _, _, _, _, _, _]) rfl rfl rfl rfl rfl ?_
  refine x_goto (pc' := 29) rfl rfl ?_
  refine x_iload (pc' := 31) rfl rfl rfl ?_
  refine x_iload (pc' := 33) rfl rfl rfl ?_
  refine x_icmp (a' := 95) (pc' := 36) (z := false) rfl rfl rfl (by decide) (fun h => by cases h) (fun _ => ?_)
  refine x_aload (pc' := 38) rfl rfl rfl rfl rfl ?_
  refine x_iload (pc' := 40) rfl rfl rfl ?_
  refine x_aald (pc' := 41) (N := 3) (k' := 2) (r := (some 2)) rfl rfl rfl (kN_25_0 hc.1) (io_in (p := 2) (N := 3) (by decide) (by decide)) (Eq.trans (congrArg (sE t 25 0) (nn_io (p := 2) (by decide))) (kK hc.1 (by decide))) ?_
  refine x_astore (pc' := 43) (ls' := [_, _, _, _, _, _, _, _, _, _, _]) rfl rfl rfl rfl rfl ?_
  refine x_aload_n (pc' := 44) rfl rfl rfl rfl rfl ?_
  refine x_aload (pc' := 46) rfl rfl rfl rfl rfl ?_
  refine x_cv (ls0 := [_, _, sJk]) (rest := []) rfl rfl rfl rfl rfl ?_
  refine x_aload_n (pc' := 1) rfl rfl rfl rfl rfl ?_
  refine x_gI (pc' := 4) (x := 2) rfl rfl rfl (kI_128_2 hc.1) ?_
  refine x_istore_n (pc' := 5) (ls' := [_, _, _]) rfl rfl rfl rfl ?_
  refine x_iload_n (pc' := 6) rfl rfl rfl ?_
  refine x_if (a' := 27) (pc' := 9) (z := false) rfl rfl rfl (by decide) (fun h => by cases h) (fun _ => ?_)
  refine x_iload_n (pc' := 10) rfl rfl rfl ?_
  refine x_aload_n (pc' := 11) rfl rfl rfl rfl rfl ?_
  refine x_gR (pc' := 14) (r := (some (m + 1))) rfl rfl rfl (kMp hc.1 hm).1 ?_
  refine x_alen (pc' := 15) (N := 3) rfl rfl rfl (kMp hc.1 hm).2.1 (?_ : X _ _ _ (.inl 3 :: _) _ _)
  refine x_icmp (a' := 27) (pc' := 18) (z := false) rfl rfl rfl (by decide) (fun h => by cases h) (fun _ => ?_)
  refine x_aload_n (pc' := 19) rfl rfl rfl rfl rfl ?_
  refine x_gR (pc' := 22) (r := (some (m + 1))) rfl rfl rfl (kMp hc.1 hm).1 ?_
  refine x_iload_n (pc' := 23) rfl rfl rfl ?_
  refine x_iald (pc' := 24) (N := 3) (x := (mA M 6 ((3 * m) + 2))) rfl rfl rfl (kMp hc.1 hm).2.1 (io_in (p := 2) (N := 3) (by decide) (by decide)) (Eq.trans (congrArg (sA t 20 (m + 1)) (nn_io (p := 2) (by decide))) (kP (m := m) (c := 2) hM hm (by decide))) ?_
  refine x_goto (pc' := 28) rfl rfl ?_
  refine x_reti rfl rfl ?_
  refine sK_i (pc' := 49) rfl ?_
  refine x_istore (pc' := 51) (ls' := [_, _, _, _, _, _, _, _, _, _, _]) rfl rfl rfl rfl ?_
  refine x_iload (pc' := 53) rfl rfl rfl ?_
  refine x_aload_n (pc' := 54) rfl rfl rfl rfl rfl ?_
  refine x_ifnonnull (a' := 61) (pc' := 57) rfl rfl rfl rfl (fun _ _ => ?_) (fun h => by cases h)
  refine x_aload_n (pc' := 62) rfl rfl rfl rfl rfl ?_
  refine x_aload (pc' := 64) rfl rfl rfl rfl rfl ?_
  refine x_cv (ls0 := [_, _, sJk]) (rest := [_]) rfl rfl rfl rfl rfl ?_
  refine x_aload_n (pc' := 1) rfl rfl rfl rfl rfl ?_
  refine x_gI (pc' := 4) (x := 2) rfl rfl rfl (kI_128_2 hc.1) ?_
  refine x_istore_n (pc' := 5) (ls' := [_, _, _]) rfl rfl rfl rfl ?_
  refine x_iload_n (pc' := 6) rfl rfl rfl ?_
  refine x_if (a' := 27) (pc' := 9) (z := false) rfl rfl rfl (by decide) (fun h => by cases h) (fun _ => ?_)
  refine x_iload_n (pc' := 10) rfl rfl rfl ?_
  refine x_aload_n (pc' := 11) rfl rfl rfl rfl rfl ?_
  refine x_gR (pc' := 14) (r := (some (o + 1))) rfl rfl rfl (kMp hc.1 ho).1 ?_
  refine x_alen (pc' := 15) (N := 3) rfl rfl rfl (kMp hc.1 ho).2.1 (?_ : X _ _ _ (.inl 3 :: _) _ _)
  refine x_icmp (a' := 27) (pc' := 18) (z := false) rfl rfl rfl (by decide) (fun h => by cases h) (fun _ => ?_)
  refine x_aload_n (pc' := 19) rfl rfl rfl rfl rfl ?_
  refine x_gR (pc' := 22) (r := (some (o + 1))) rfl rfl rfl (kMp hc.1 ho).1 ?_
  refine x_iload_n (pc' := 23) rfl rfl rfl ?_
  refine x_iald (pc' := 24) (N := 3) (x := (mA M 6 ((3 * o) + 2))) rfl rfl rfl (kMp hc.1 ho).2.1 (io_in (p := 2) (N := 3) (by decide) (by decide)) (Eq.trans (congrArg (sA t 20 (o + 1)) (nn_io (p := 2) (by decide))) (kP (m := o) (c := 2) hM ho (by decide))) ?_
  refine x_goto (pc' := 28) rfl rfl ?_
  refine x_reti rfl rfl ?_
  refine sK_i (pc' := 67) rfl ?_
  refine x_iadd (pc' := 68) (z := ((mA M 6 ((3 * m) + 2)) + (mA M 6 ((3 * o) + 2)))) rfl rfl rfl ?_
  refine x_istore (pc' := 70) (ls' := [_, _, _, _, _, _, _, _, _, _, _]) rfl rfl rfl rfl ?_
  refine x_iload (pc' := 72) rfl rfl rfl ?_
  refine x_iload (pc' := 74) rfl rfl rfl ?_
  refine x_aload_n (pc' := 75) rfl rfl rfl rfl rfl ?_
  refine x_iload (pc' := 77) rfl rfl rfl ?_
  refine x_aload (pc' := 79) rfl rfl rfl rfl rfl ?_
  refine x_gI (pc' := 82) (x := 2) rfl rfl rfl (kI_128_2 hc.1) ?_
  refine x_cv (ls0 := [_, _, _, sJk]) (rest := [_, _]) rfl rfl rfl rfl rfl ?_
  refine x_iload_n (pc' := 1) rfl rfl rfl ?_
  refine x_iconst (pc' := 2) rfl rfl ?_
  refine x_imul (pc' := 3) (z := 6) rfl rfl (by decide) ?_
  refine x_iload_n (pc' := 4) rfl rfl rfl ?_
  refine x_iadd (pc' := 5) (z := 8) rfl rfl (by decide) ?_
  refine x_istore_n (pc' := 6) (ls' := [_, _, _, _]) rfl rfl rfl rfl ?_
  refine x_iload_n (pc' := 7) rfl rfl rfl ?_
  refine x_if (a' := 28) (pc' := 10) (z := false) rfl rfl rfl (by decide) (fun h => by cases h) (fun _ => ?_)
  refine x_iload_n (pc' := 11) rfl rfl rfl ?_
  refine x_aload_n (pc' := 12) rfl rfl rfl rfl rfl ?_
  refine x_gR (pc' := 15) (r := (some 0)) rfl rfl rfl (kR_323_0 hc.1) ?_
  refine x_alen (pc' := 16) (N := 18) rfl rfl rfl (kN_20_0 hc.1) (?_ : X _ _ _ (.inl 18 :: _) _ _)
  refine x_icmp (a' := 28) (pc' := 19) (z := false) rfl rfl rfl (by decide) (fun h => by cases h) (fun _ => ?_)
  refine x_aload_n (pc' := 20) rfl rfl rfl rfl rfl ?_
  refine x_gR (pc' := 23) (r := (some 0)) rfl rfl rfl (kR_323_0 hc.1) ?_
  refine x_iload_n (pc' := 24) rfl rfl rfl ?_
  refine x_iald (pc' := 25) (N := 18) (x := (mA M 11 8)) rfl rfl rfl (kN_20_0 hc.1) (io_in (p := 8) (N := 18) (by decide) (by decide)) (Eq.trans (congrArg (sA t 20 0) (nn_io (p := 8) (by decide))) (kV hM (by decide))) ?_
  refine x_goto (pc' := 29) rfl rfl ?_
  refine x_reti rfl rfl ?_
  refine sK_i (pc' := 85) rfl ?_
  refine x_imul (pc' := 86) (z := (((mA M 6 ((3 * m) + 2)) + (mA M 6 ((3 * o) + 2))) * (mA M 11 8))) rfl rfl rfl ?_
  refine x_isub (pc' := 87) (z := (((0 - (((mA M 6 ((3 * m) + 0)) + (mA M 6 ((3 * o) + 0))) * (mA M 11 6))) - (((mA M 6 ((3 * m) + 1)) + (mA M 6 ((3 * o) + 1))) * (mA M 11 7))) - (((mA M 6 ((3 * m) + 2)) + (mA M 6 ((3 * o) + 2))) * (mA M 11 8)))) rfl rfl rfl ?_
  refine x_istore (pc' := 89) (ls' := [_, _, _, _, _, _, _, _, _, _, _]) rfl rfl rfl rfl ?_
  refine x_iinc (pc' := 92) (y := 3) (ls' := [_, _, _, _, _, _, _, _, _, _, _]) rfl rfl rfl rfl rfl ?_
  refine x_goto (pc' := 29) rfl rfl ?_
  refine x_iload (pc' := 31) rfl rfl rfl ?_
  refine x_iload (pc' := 33) rfl rfl rfl ?_
  refine x_icmp (a' := 95) (pc' := 36) (z := true) rfl rfl rfl (by decide) (fun _ => ?_) (fun h => by cases h)
  refine x_iload_n (pc' := 96) rfl rfl rfl ?_
  refine x_iload (pc' := 98) rfl rfl rfl ?_
  refine x_max (pc' := 101) (z := (mx (mx (mx 0 (((0 - (((mA M 6 ((3 * m) + 0)) + (mA M 6 ((3 * o) + 0))) * (mA M 11 0))) - (((mA M 6 ((3 * m) + 1)) + (mA M 6 ((3 * o) + 1))) * (mA M 11 1))) - (((mA M 6 ((3 * m) + 2)) + (mA M 6 ((3 * o) + 2))) * (mA M 11 2)))) (((0 - (((mA M 6 ((3 * m) + 0)) + (mA M 6 ((3 * o) + 0))) * (mA M 11 3))) - (((mA M 6 ((3 * m) + 1)) + (mA M 6 ((3 * o) + 1))) * (mA M 11 4))) - (((mA M 6 ((3 * m) + 2)) + (mA M 6 ((3 * o) + 2))) * (mA M 11 5)))) (((0 - (((mA M 6 ((3 * m) + 0)) + (mA M 6 ((3 * o) + 0))) * (mA M 11 6))) - (((mA M 6 ((3 * m) + 1)) + (mA M 6 ((3 * o) + 1))) * (mA M 11 7))) - (((mA M 6 ((3 * m) + 2)) + (mA M 6 ((3 * o) + 2))) * (mA M 11 8))))) rfl rfl rfl rfl ?_
  refine x_istore_n (pc' := 102) (ls' := [_, _, _, _, _, _, _, _, _, _, _]) rfl rfl rfl rfl ?_
  refine x_iinc (pc' := 105) (y := 3) (ls' := [_, _, _, _, _, _, _, _, _, _, _]) rfl rfl rfl rfl rfl ?_
  refine x_goto (pc' := 5) rfl rfl ?_
  refine x_iload (pc' := 7) rfl rfl rfl ?_
  refine x_bipush (pc' := 9) rfl rfl ?_
  refine x_icmp (a' := 108) (pc' := 12) (z := false) rfl rfl rfl (by decide) (fun h => by cases h) (fun _ => ?_)
  refine x_iconst (pc' := 13) rfl rfl ?_
  refine x_istore (pc' := 15) (ls' := [_, _, _, _, _, _, _, _, _, _, _]) rfl rfl rfl rfl ?_
  refine x_aload_n (pc' := 16) rfl rfl rfl rfl rfl ?_
  refine x_gR (pc' := 19) (r := (some 0)) rfl rfl rfl (kR_320_0 hc.1) ?_
  refine x_astore (pc' := 21) (ls' := [_, _, _, _, _, _, _, _, _, _, _]) rfl rfl rfl rfl rfl ?_
  refine x_aload (pc' := 23) rfl rfl rfl rfl rfl ?_
  refine x_alen (pc' := 24) (N := 3) rfl rfl rfl (kN_25_0 hc.1) (?_ : X _ _ _ (.inl 3 :: _) _ _)
  refine x_istore (pc' := 26) (ls' := [_, _, _, _, _, _, _, _, _, _, _]) rfl rfl rfl rfl ?_
  refine x_iconst (pc' := 27) rfl rfl ?_
  refine x_istore (pc' := 29) (ls' := [_, _, _, _, _, _, _, _, _, _, _]) rfl rfl rfl rfl ?_
  refine x_iload (pc' := 31) rfl rfl rfl ?_
  refine x_iload (pc' := 33) rfl rfl rfl ?_
  refine x_icmp (a' := 95) (pc' := 36) (z := false) rfl rfl rfl (by decide) (fun h => by cases h) (fun _ => ?_)
  refine x_aload (pc' := 38) rfl rfl rfl rfl rfl ?_
  refine x_iload (pc' := 40) rfl rfl rfl ?_
  refine x_aald (pc' := 41) (N := 3) (k' := 2) (r := (some 0)) rfl rfl rfl (kN_25_0 hc.1) (io_in (p := 0) (N := 3) (by decide) (by decide)) (Eq.trans (congrArg (sE t 25 0) (nn_io (p := 0) (by decide))) (kK hc.1 (by decide))) ?_
  refine x_astore (pc' := 43) (ls' := [_, _, _, _, _, _, _, _, _, _, _]) rfl rfl rfl rfl rfl ?_
  refine x_aload_n (pc' := 44) rfl rfl rfl rfl rfl ?_
  refine x_aload (pc' := 46) rfl rfl rfl rfl rfl ?_
  refine x_cv (ls0 := [_, _, sJk]) (rest := []) rfl rfl rfl rfl rfl ?_
  refine x_aload_n (pc' := 1) rfl rfl rfl rfl rfl ?_
  refine x_gI (pc' := 4) (x := 0) rfl rfl rfl (kI_128_0 hc.1) ?_
  refine x_istore_n (pc' := 5) (ls' := [_, _, _]) rfl rfl rfl rfl ?_
  refine x_iload_n (pc' := 6) rfl rfl rfl ?_
  refine x_if (a' := 27) (pc' := 9) (z := false) rfl rfl rfl (by decide) (fun h => by cases h) (fun _ => ?_)
  refine x_iload_n (pc' := 10) rfl rfl rfl ?_
  refine x_aload_n (pc' := 11) rfl rfl rfl rfl rfl ?_
  refine x_gR (pc' := 14) (r := (some (m + 1))) rfl rfl rfl (kMp hc.1 hm).1 ?_
  refine x_alen (pc' := 15) (N := 3) rfl rfl rfl (kMp hc.1 hm).2.1 (?_ : X _ _ _ (.inl 3 :: _) _ _)
  refine x_icmp (a' := 27) (pc' := 18) (z := false) rfl rfl rfl (by decide) (fun h => by cases h) (fun _ => ?_)
  refine x_aload_n (pc' := 19) rfl rfl rfl rfl rfl ?_
  refine x_gR (pc' := 22) (r := (some (m + 1))) rfl rfl rfl (kMp hc.1 hm).1 ?_
  refine x_iload_n (pc' := 23) rfl rfl rfl ?_
  refine x_iald (pc' := 24) (N := 3) (x := (mA M 6 ((3 * m) + 0))) rfl rfl rfl (kMp hc.1 hm).2.1 (io_in (p := 0) (N := 3) (by decide) (by decide)) (Eq.trans (congrArg (sA t 20 (m + 1)) (nn_io (p := 0) (by decide))) (kP (m := m) (c := 0) hM hm (by decide))) ?_
  refine x_goto (pc' := 28) rfl rfl ?_
  refine x_reti rfl rfl ?_
  refine sK_i (pc' := 49) rfl ?_
  refine x_istore (pc' := 51) (ls' := [_, _, _, _, _, _, _, _, _, _, _]) rfl rfl rfl rfl ?_
  refine x_iload (pc' := 53) rfl rfl rfl ?_
  refine x_aload_n (pc' := 54) rfl rfl rfl rfl rfl ?_
  refine x_ifnonnull (a' := 61) (pc' := 57) rfl rfl rfl rfl (fun _ _ => ?_) (fun h => by cases h)
  refine x_aload_n (pc' := 62) rfl rfl rfl rfl rfl ?_
  refine x_aload (pc' := 64) rfl rfl rfl rfl rfl ?_
  refine x_cv (ls0 := [_, _, sJk]) (rest := [_]) rfl rfl rfl rfl rfl ?_
  refine x_aload_n (pc' := 1) rfl rfl rfl rfl rfl ?_
  refine x_gI (pc' := 4) (x := 0) rfl rfl rfl (kI_128_0 hc.1) ?_
  refine x_istore_n (pc' := 5) (ls' := [_, _, _]) rfl rfl rfl rfl ?_
  refine x_iload_n (pc' := 6) rfl rfl rfl ?_
  refine x_if (a' := 27) (pc' := 9) (z := false) rfl rfl rfl (by decide) (fun h => by cases h) (fun _ => ?_)
  refine x_iload_n (pc' := 10) rfl rfl rfl ?_
  refine x_aload_n (pc' := 11) rfl rfl rfl rfl rfl ?_
  refine x_gR (pc' := 14) (r := (some (o + 1))) rfl rfl rfl (kMp hc.1 ho).1 ?_
  refine x_alen (pc' := 15) (N := 3) rfl rfl rfl (kMp hc.1 ho).2.1 (?_ : X _ _ _ (.inl 3 :: _) _ _)
  refine x_icmp (a' := 27) (pc' := 18) (z := false) rfl rfl rfl (by decide) (fun h => by cases h) (fun _ => ?_)
  refine x_aload_n (pc' := 19) rfl rfl rfl rfl rfl ?_
  refine x_gR (pc' := 22) (r := (some (o + 1))) rfl rfl rfl (kMp hc.1 ho).1 ?_
  refine x_iload_n (pc' := 23) rfl rfl rfl ?_
  refine x_iald (pc' := 24) (N := 3) (x := (mA M 6 ((3 * o) + 0))) rfl rfl rfl (kMp hc.1 ho).2.1 (io_in (p := 0) (N := 3) (by decide) (by decide)) (Eq.trans (congrArg (sA t 20 (o + 1)) (nn_io (p := 0) (by decide))) (kP (m := o) (c := 0) hM ho (by decide))) ?_
  refine x_goto (pc' := 28) rfl rfl ?_
  refine x_reti rfl rfl ?_
  refine sK_i (pc' := 67) rfl ?_
  refine x_iadd (pc' := 68) (z := ((mA M 6 ((3 * m) + 0)) + (mA M 6 ((3 * o) + 0)))) rfl rfl rfl ?_
  refine x_istore (pc' := 70) (ls' := [_, _, _, _, _, _, _, _, _, _, _]) rfl rfl rfl rfl ?_
  refine x_iload (pc' := 72) rfl rfl rfl ?_
  refine x_iload (pc' := 74) rfl rfl rfl ?_
  refine x_aload_n (pc' := 75) rfl rfl rfl rfl rfl ?_
  refine x_iload (pc' := 77) rfl rfl rfl ?_
  refine x_aload (pc' := 79) rfl rfl rfl rfl rfl ?_
  refine x_gI (pc' := 82) (x := 0) rfl rfl rfl (kI_128_0 hc.1) ?_
  refine x_cv (ls0 := [_, _, _, sJk]) (rest := [_, _]) rfl rfl rfl rfl rfl ?_
  refine x_iload_n (pc' := 1) rfl rfl rfl ?_
  refine x_iconst (pc' := 2) rfl rfl ?_
  refine x_imul (pc' := 3) (z := 9) rfl rfl (by decide) ?_
  refine x_iload_n (pc' := 4) rfl rfl rfl ?_
  refine x_iadd (pc' := 5) (z := 9) rfl rfl (by decide) ?_
  refine x_istore_n (pc' := 6) (ls' := [_, _, _, _]) rfl rfl rfl rfl ?_
  refine x_iload_n (pc' := 7) rfl rfl rfl ?_
  refine x_if (a' := 28) (pc' := 10) (z := false) rfl rfl rfl (by decide) (fun h => by cases h) (fun _ => ?_)
  refine x_iload_n (pc' := 11) rfl rfl rfl ?_
  refine x_aload_n (pc' := 12) rfl rfl rfl rfl rfl ?_
  refine x_gR (pc' := 15) (r := (some 0)) rfl rfl rfl (kR_323_0 hc.1) ?_
  refine x_alen (pc' := 16) (N := 18) rfl rfl rfl (kN_20_0 hc.1) (?_ : X _ _ _ (.inl 18 :: _) _ _)
  refine x_icmp (a' := 28) (pc' := 19) (z := false) rfl rfl rfl (by decide) (fun h => by cases h) (fun _ => ?_)
  refine x_aload_n (pc' := 20) rfl rfl rfl rfl rfl ?_
  refine x_gR (pc' := 23) (r := (some 0)) rfl rfl rfl (kR_323_0 hc.1) ?_
  refine x_iload_n (pc' := 24) rfl rfl rfl ?_
  refine x_iald (pc' := 25) (N := 18) (x := (mA M 11 9)) rfl rfl rfl (kN_20_0 hc.1) (io_in (p := 9) (N := 18) (by decide) (by decide)) (Eq.trans (congrArg (sA t 20 0) (nn_io (p := 9) (by decide))) (kV hM (by decide))) ?_
  refine x_goto (pc' := 29) rfl rfl ?_
  refine x_reti rfl rfl ?_
  refine sK_i (pc' := 85) rfl ?_
  refine x_imul (pc' := 86) (z := (((mA M 6 ((3 * m) + 0)) + (mA M 6 ((3 * o) + 0))) * (mA M 11 9))) rfl rfl rfl ?_
  refine x_isub (pc' := 87) (z := (0 - (((mA M 6 ((3 * m) + 0)) + (mA M 6 ((3 * o) + 0))) * (mA M 11 9)))) rfl rfl rfl ?_
  refine x_istore (pc' := 89) (ls' := [_, _, _, _, _, _, _, _, _, _, _]) rfl rfl rfl rfl ?_
  refine x_iinc (pc' := 92) (y := 1) (ls' := [_, _, _, _, _, _, _, _, _, _, _]) rfl rfl rfl rfl rfl ?_
  refine x_goto (pc' := 29) rfl rfl ?_
  refine x_iload (pc' := 31) rfl rfl rfl ?_
  refine x_iload (pc' := 33) rfl rfl rfl ?_
  refine x_icmp (a' := 95) (pc' := 36) (z := false) rfl rfl rfl (by decide) (fun h => by cases h) (fun _ => ?_)
  refine x_aload (pc' := 38) rfl rfl rfl rfl rfl ?_
  refine x_iload (pc' := 40) rfl rfl rfl ?_
  refine x_aald (pc' := 41) (N := 3) (k' := 2) (r := (some 1)) rfl rfl rfl (kN_25_0 hc.1) (io_in (p := 1) (N := 3) (by decide) (by decide)) (Eq.trans (congrArg (sE t 25 0) (nn_io (p := 1) (by decide))) (kK hc.1 (by decide))) ?_
  refine x_astore (pc' := 43) (ls' := [_, _, _, _, _, _, _, _, _, _, _]) rfl rfl rfl rfl rfl ?_
  refine x_aload_n (pc' := 44) rfl rfl rfl rfl rfl ?_
  refine x_aload (pc' := 46) rfl rfl rfl rfl rfl ?_
  refine x_cv (ls0 := [_, _, sJk]) (rest := []) rfl rfl rfl rfl rfl ?_
  refine x_aload_n (pc' := 1) rfl rfl rfl rfl rfl ?_
  refine x_gI (pc' := 4) (x := 1) rfl rfl rfl (kI_128_1 hc.1) ?_
  refine x_istore_n (pc' := 5) (ls' := [_, _, _]) rfl rfl rfl rfl ?_
  refine x_iload_n (pc' := 6) rfl rfl rfl ?_
  refine x_if (a' := 27) (pc' := 9) (z := false) rfl rfl rfl (by decide) (fun h => by cases h) (fun _ => ?_)
  refine x_iload_n (pc' := 10) rfl rfl rfl ?_
  refine x_aload_n (pc' := 11) rfl rfl rfl rfl rfl ?_
  refine x_gR (pc' := 14) (r := (some (m + 1))) rfl rfl rfl (kMp hc.1 hm).1 ?_
  refine x_alen (pc' := 15) (N := 3) rfl rfl rfl (kMp hc.1 hm).2.1 (?_ : X _ _ _ (.inl 3 :: _) _ _)
  refine x_icmp (a' := 27) (pc' := 18) (z := false) rfl rfl rfl (by decide) (fun h => by cases h) (fun _ => ?_)
  refine x_aload_n (pc' := 19) rfl rfl rfl rfl rfl ?_
  refine x_gR (pc' := 22) (r := (some (m + 1))) rfl rfl rfl (kMp hc.1 hm).1 ?_
  refine x_iload_n (pc' := 23) rfl rfl rfl ?_
  refine x_iald (pc' := 24) (N := 3) (x := (mA M 6 ((3 * m) + 1))) rfl rfl rfl (kMp hc.1 hm).2.1 (io_in (p := 1) (N := 3) (by decide) (by decide)) (Eq.trans (congrArg (sA t 20 (m + 1)) (nn_io (p := 1) (by decide))) (kP (m := m) (c := 1) hM hm (by decide))) ?_
  refine x_goto (pc' := 28) rfl rfl ?_
  refine x_reti rfl rfl ?_
  refine sK_i (pc' := 49) rfl ?_
  refine x_istore (pc' := 51) (ls' := [_, _, _, _, _, _, _, _, _, _, _]) rfl rfl rfl rfl ?_
  refine x_iload (pc' := 53) rfl rfl rfl ?_
  refine x_aload_n (pc' := 54) rfl rfl rfl rfl rfl ?_
  refine x_ifnonnull (a' := 61) (pc' := 57) rfl rfl rfl rfl (fun _ _ => ?_) (fun h => by cases h)
  refine x_aload_n (pc' := 62) rfl rfl rfl rfl rfl ?_
  refine x_aload (pc' := 64) rfl rfl rfl rfl rfl ?_
  refine x_cv (ls0 := [_, _, sJk]) (rest := [_]) rfl rfl rfl rfl rfl ?_
  refine x_aload_n (pc' := 1) rfl rfl rfl rfl rfl ?_
  refine x_gI (pc' := 4) (x := 1) rfl rfl rfl (kI_128_1 hc.1) ?_
  refine x_istore_n (pc' := 5) (ls' := [_, _, _]) rfl rfl rfl rfl ?_
  refine x_iload_n (pc' := 6) rfl rfl rfl ?_
  refine x_if (a' := 27) (pc' := 9) (z := false) rfl rfl rfl (by decide) (fun h => by cases h) (fun _ => ?_)
  refine x_iload_n (pc' := 10) rfl rfl rfl ?_
  refine x_aload_n (pc' := 11) rfl rfl rfl rfl rfl ?_
  refine x_gR (pc' := 14) (r := (some (o + 1))) rfl rfl rfl (kMp hc.1 ho).1 ?_
  refine x_alen (pc' := 15) (N := 3) rfl rfl rfl (kMp hc.1 ho).2.1 (?_ : X _ _ _ (.inl 3 :: _) _ _)
  refine x_icmp (a' := 27) (pc' := 18) (z := false) rfl rfl rfl (by decide) (fun h => by cases h) (fun _ => ?_)
  refine x_aload_n (pc' := 19) rfl rfl rfl rfl rfl ?_
  refine x_gR (pc' := 22) (r := (some (o + 1))) rfl rfl rfl (kMp hc.1 ho).1 ?_
  refine x_iload_n (pc' := 23) rfl rfl rfl ?_
  refine x_iald (pc' := 24) (N := 3) (x := (mA M 6 ((3 * o) + 1))) rfl rfl rfl (kMp hc.1 ho).2.1 (io_in (p := 1) (N := 3) (by decide) (by decide)) (Eq.trans (congrArg (sA t 20 (o + 1)) (nn_io (p := 1) (by decide))) (kP (m := o) (c := 1) hM ho (by decide))) ?_
  refine x_goto (pc' := 28) rfl rfl ?_
  refine x_reti rfl rfl ?_
  refine sK_i (pc' := 67) rfl ?_
  refine x_iadd (pc' := 68) (z := ((mA M 6 ((3 * m) + 1)) + (mA M 6 ((3 * o) + 1)))) rfl rfl rfl ?_
  refine x_istore (pc' := 70) (ls' := [_, _, _, _, _, _, _, _, _, _, _]) rfl rfl rfl rfl ?_
  refine x_iload (pc' := 72) rfl rfl rfl ?_
  refine x_iload (pc' := 74) rfl rfl rfl ?_
  refine x_aload_n (pc' := 75) rfl rfl rfl rfl rfl ?_
  refine x_iload (pc' := 77) rfl rfl rfl ?_
  refine x_aload (pc' := 79) rfl rfl rfl rfl rfl ?_
  refine x_gI (pc' := 82) (x := 1) rfl rfl rfl (kI_128_1 hc.1) ?_
  refine x_cv (ls0 := [_, _, _, sJk]) (rest := [_, _]) rfl rfl rfl rfl rfl ?_
  refine x_iload_n (pc' := 1) rfl rfl rfl ?_
  refine x_iconst (pc' := 2) rfl rfl ?_
  refine x_imul (pc' := 3) (z := 9) rfl rfl (by decide) ?_
  refine x_iload_n (pc' := 4) rfl rfl rfl ?_
  refine x_iadd (pc' := 5) (z := 10) rfl rfl (by decide) ?_
  refine x_istore_n (pc' := 6) (ls' := [_, _, _, _]) rfl rfl rfl rfl ?_
  refine x_iload_n (pc' := 7) rfl rfl rfl ?_
  refine x_if (a' := 28) (pc' := 10) (z := false) rfl rfl rfl (by decide) (fun h => by cases h) (fun _ => ?_)
  refine x_iload_n (pc' := 11) rfl rfl rfl ?_
  refine x_aload_n (pc' := 12) rfl rfl rfl rfl rfl ?_
  refine x_gR (pc' := 15) (r := (some 0)) rfl rfl rfl (kR_323_0 hc.1) ?_
  refine x_alen (pc' := 16) (N := 18) rfl rfl rfl (kN_20_0 hc.1) (?_ : X _ _ _ (.inl 18 :: _) _ _)
  refine x_icmp (a' := 28) (pc' := 19) (z := false) rfl rfl rfl (by decide) (fun h => by cases h) (fun _ => ?_)
  refine x_aload_n (pc' := 20) rfl rfl rfl rfl rfl ?_
  refine x_gR (pc' := 23) (r := (some 0)) rfl rfl rfl (kR_323_0 hc.1) ?_
  refine x_iload_n (pc' := 24) rfl rfl rfl ?_
  refine x_iald (pc' := 25) (N := 18) (x := (mA M 11 10)) rfl rfl rfl (kN_20_0 hc.1) (io_in (p := 10) (N := 18) (by decide) (by decide)) (Eq.trans (congrArg (sA t 20 0) (nn_io (p := 10) (by decide))) (kV hM (by decide))) ?_
  refine x_goto (pc' := 29) rfl rfl ?_
  refine x_reti rfl rfl ?_
  refine sK_i (pc' := 85) rfl ?_
  refine x_imul (pc' := 86) (z := (((mA M 6 ((3 * m) + 1)) + (mA M 6 ((3 * o) + 1))) * (mA M 11 10))) rfl rfl rfl ?_
  refine x_isub (pc' := 87) (z := ((0 - (((mA M 6 ((3 * m) + 0)) + (mA M 6 ((3 * o) + 0))) * (mA M 11 9))) - (((mA M 6 ((3 * m) + 1)) + (mA M 6 ((3 * o) + 1))) * (mA M 11 10)))) rfl rfl rfl ?_
  refine x_istore (pc' := 89) (ls' := [_, _, _, _, _, _, _, _, _, _, _]) rfl rfl rfl rfl ?_
  refine x_iinc (pc' := 92) (y := 2) (ls' := [_, _, _, _, _, _, _, _, _, _, _]) rfl rfl rfl rfl rfl ?_
  refine x_goto (pc' := 29) rfl rfl ?_
  refine x_iload (pc' := 31) rfl rfl rfl ?_
  refine x_iload (pc' := 33) rfl rfl rfl ?_
  refine x_icmp (a' := 95) (pc' := 36) (z := false) rfl rfl rfl (by decide) (fun h => by cases h) (fun _ => ?_)
  refine x_aload (pc' := 38) rfl rfl rfl rfl rfl ?_
  refine x_iload (pc' := 40) rfl rfl rfl ?_
  refine x_aald (pc' := 41) (N := 3) (k' := 2) (r := (some 2)) rfl rfl rfl (kN_25_0 hc.1) (io_in (p := 2) (N := 3) (by decide) (by decide)) (Eq.trans (congrArg (sE t 25 0) (nn_io (p := 2) (by decide))) (kK hc.1 (by decide))) ?_
  refine x_astore (pc' := 43) (ls' := [_, _, _, _, _, _, _, _, _, _, _]) rfl rfl rfl rfl rfl ?_
  refine x_aload_n (pc' := 44) rfl rfl rfl rfl rfl ?_
  refine x_aload (pc' := 46) rfl rfl rfl rfl rfl ?_
  refine x_cv (ls0 := [_, _, sJk]) (rest := []) rfl rfl rfl rfl rfl ?_
  refine x_aload_n (pc' := 1) rfl rfl rfl rfl rfl ?_
  refine x_gI (pc' := 4) (x := 2) rfl rfl rfl (kI_128_2 hc.1) ?_
  refine x_istore_n (pc' := 5) (ls' := [_, _, _]) rfl rfl rfl rfl ?_
  refine x_iload_n (pc' := 6) rfl rfl rfl ?_
  refine x_if (a' := 27) (pc' := 9) (z := false) rfl rfl rfl (by decide) (fun h => by cases h) (fun _ => ?_)
  refine x_iload_n (pc' := 10) rfl rfl rfl ?_
  refine x_aload_n (pc' := 11) rfl rfl rfl rfl rfl ?_
  refine x_gR (pc' := 14) (r := (some (m + 1))) rfl rfl rfl (kMp hc.1 hm).1 ?_
  refine x_alen (pc' := 15) (N := 3) rfl rfl rfl (kMp hc.1 hm).2.1 (?_ : X _ _ _ (.inl 3 :: _) _ _)
  refine x_icmp (a' := 27) (pc' := 18) (z := false) rfl rfl rfl (by decide) (fun h => by cases h) (fun _ => ?_)
  refine x_aload_n (pc' := 19) rfl rfl rfl rfl rfl ?_
  refine x_gR (pc' := 22) (r := (some (m + 1))) rfl rfl rfl (kMp hc.1 hm).1 ?_
  refine x_iload_n (pc' := 23) rfl rfl rfl ?_
  refine x_iald (pc' := 24) (N := 3) (x := (mA M 6 ((3 * m) + 2))) rfl rfl rfl (kMp hc.1 hm).2.1 (io_in (p := 2) (N := 3) (by decide) (by decide)) (Eq.trans (congrArg (sA t 20 (m + 1)) (nn_io (p := 2) (by decide))) (kP (m := m) (c := 2) hM hm (by decide))) ?_
  refine x_goto (pc' := 28) rfl rfl ?_
  refine x_reti rfl rfl ?_
  refine sK_i (pc' := 49) rfl ?_
  refine x_istore (pc' := 51) (ls' := [_, _, _, _, _, _, _, _, _, _, _]) rfl rfl rfl rfl ?_
  refine x_iload (pc' := 53) rfl rfl rfl ?_
  refine x_aload_n (pc' := 54) rfl rfl rfl rfl rfl ?_
  refine x_ifnonnull (a' := 61) (pc' := 57) rfl rfl rfl rfl (fun _ _ => ?_) (fun h => by cases h)
  refine x_aload_n (pc' := 62) rfl rfl rfl rfl rfl ?_
  refine x_aload (pc' := 64) rfl rfl rfl rfl rfl ?_
  refine x_cv (ls0 := [_, _, sJk]) (rest := [_]) rfl rfl rfl rfl rfl ?_
  refine x_aload_n (pc' := 1) rfl rfl rfl rfl rfl ?_
  refine x_gI (pc' := 4) (x := 2) rfl rfl rfl (kI_128_2 hc.1) ?_
  refine x_istore_n (pc' := 5) (ls' := [_, _, _]) rfl rfl rfl rfl ?_
  refine x_iload_n (pc' := 6) rfl rfl rfl ?_
  refine x_if (a' := 27) (pc' := 9) (z := false) rfl rfl rfl (by decide) (fun h => by cases h) (fun _ => ?_)
  refine x_iload_n (pc' := 10) rfl rfl rfl ?_
  refine x_aload_n (pc' := 11) rfl rfl rfl rfl rfl ?_
  refine x_gR (pc' := 14) (r := (some (o + 1))) rfl rfl rfl (kMp hc.1 ho).1 ?_
  refine x_alen (pc' := 15) (N := 3) rfl rfl rfl (kMp hc.1 ho).2.1 (?_ : X _ _ _ (.inl 3 :: _) _ _)
  refine x_icmp (a' := 27) (pc' := 18) (z := false) rfl rfl rfl (by decide) (fun h => by cases h) (fun _ => ?_)
  refine x_aload_n (pc' := 19) rfl rfl rfl rfl rfl ?_
  refine x_gR (pc' := 22) (r := (some (o + 1))) rfl rfl rfl (kMp hc.1 ho).1 ?_
  refine x_iload_n (pc' := 23) rfl rfl rfl ?_
  refine x_iald (pc' := 24) (N := 3) (x := (mA M 6 ((3 * o) + 2))) rfl rfl rfl (kMp hc.1 ho).2.1 (io_in (p := 2) (N := 3) (by decide) (by decide)) (Eq.trans (congrArg (sA t 20 (o + 1)) (nn_io (p := 2) (by decide))) (kP (m := o) (c := 2) hM ho (by decide))) ?_
  refine x_goto (pc' := 28) rfl rfl ?_
  refine x_reti rfl rfl ?_
  refine sK_i (pc' := 67) rfl ?_
  refine x_iadd (pc' := 68) (z := ((mA M 6 ((3 * m) + 2)) + (mA M 6 ((3 * o) + 2)))) rfl rfl rfl ?_
  refine x_istore (pc' := 70) (ls' := [_, _, _, _, _, _, _, _, _, _, _]) rfl rfl rfl rfl ?_
  refine x_iload (pc' := 72) rfl rfl rfl ?_
  refine x_iload (pc' := 74) rfl rfl rfl ?_
  refine x_aload_n (pc' := 75) rfl rfl rfl rfl rfl ?_
  refine x_iload (pc' := 77) rfl rfl rfl ?_
  refine x_aload (pc' := 79) rfl rfl rfl rfl rfl ?_
  refine x_gI (pc' := 82) (x := 2) rfl rfl rfl (kI_128_2 hc.1) ?_
  refine x_cv (ls0 := [_, _, _, sJk]) (rest := [_, _]) rfl rfl rfl rfl rfl ?_
  refine x_iload_n (pc' := 1) rfl rfl rfl ?_
  refine x_iconst (pc' := 2) rfl rfl ?_
  refine x_imul (pc' := 3) (z := 9) rfl rfl (by decide) ?_
  refine x_iload_n (pc' := 4) rfl rfl rfl ?_
  refine x_iadd (pc' := 5) (z := 11) rfl rfl (by decide) ?_
  refine x_istore_n (pc' := 6) (ls' := [_, _, _, _]) rfl rfl rfl rfl ?_
  refine x_iload_n (pc' := 7) rfl rfl rfl ?_
  refine x_if (a' := 28) (pc' := 10) (z := false) rfl rfl rfl (by decide) (fun h => by cases h) (fun _ => ?_)
  refine x_iload_n (pc' := 11) rfl rfl rfl ?_
  refine x_aload_n (pc' := 12) rfl rfl rfl rfl rfl ?_
  refine x_gR (pc' := 15) (r := (some 0)) rfl rfl rfl (kR_323_0 hc.1) ?_
  refine x_alen (pc' := 16) (N := 18) rfl rfl rfl (kN_20_0 hc.1) (?_ : X _ _ _ (.inl 18 :: _) _ _)
  refine x_icmp (a' := 28) (pc' := 19) (z := false) rfl rfl rfl (by decide) (fun h => by cases h) (fun _ => ?_)
  refine x_aload_n (pc' := 20) rfl rfl rfl rfl rfl ?_
  refine x_gR (pc' := 23) (r := (some 0)) rfl rfl rfl (kR_323_0 hc.1) ?_
  refine x_iload_n (pc' := 24) rfl rfl rfl ?_
  refine x_iald (pc' := 25) (N := 18) (x := (mA M 11 11)) rfl rfl rfl (kN_20_0 hc.1) (io_in (p := 11) (N := 18) (by decide) (by decide)) (Eq.trans (congrArg (sA t 20 0) (nn_io (p := 11) (by decide))) (kV hM (by decide))) ?_
  refine x_goto (pc' := 29) rfl rfl ?_
  refine x_reti rfl rfl ?_
  refine sK_i (pc' := 85) rfl ?_
  refine x_imul (pc' := 86) (z := (((mA M 6 ((3 * m) + 2)) + (mA M 6 ((3 * o) + 2))) * (mA M 11 11))) rfl rfl rfl ?_
  refine x_isub (pc' := 87) (z := (((0 - (((mA M 6 ((3 * m) + 0)) + (mA M 6 ((3 * o) + 0))) * (mA M 11 9))) - (((mA M 6 ((3 * m) + 1)) + (mA M 6 ((3 * o) + 1))) * (mA M 11 10))) - (((mA M 6 ((3 * m) + 2)) + (mA M 6 ((3 * o) + 2))) * (mA M 11 11)))) rfl rfl rfl ?_
  refine x_istore (pc' := 89) (ls' := [_, _, _, _, _, _, _, _, _, _, _]) rfl rfl rfl rfl ?_
  refine x_iinc (pc' := 92) (y := 3) (ls' := [_, _, _, _, _, _, _, _, _, _, _]) rfl rfl rfl rfl rfl ?_
  refine x_goto (pc' := 29) rfl rfl ?_
  refine x_iload (pc' := 31) rfl rfl rfl ?_
  refine x_iload (pc' := 33) rfl rfl rfl ?_
  refine x_icmp (a' := 95) (pc' := 36) (z := true) rfl rfl rfl (by decide) (fun _ => ?_) (fun h => by cases h)
  refine x_iload_n (pc' := 96) rfl rfl rfl ?_
  refine x_iload (pc' := 98) rfl rfl rfl ?_
  refine x_max (pc' := 101) (z := (mx (mx (mx (mx 0 (((0 - (((mA M 6 ((3 * m) + 0)) + (mA M 6 ((3 * o) + 0))) * (mA M 11 0))) - (((mA M 6 ((3 * m) + 1)) + (mA M 6 ((3 * o) + 1))) * (mA M 11 1))) - (((mA M 6 ((3 * m) + 2)) + (mA M 6 ((3 * o) + 2))) * (mA M 11 2)))) (((0 - (((mA M 6 ((3 * m) + 0)) + (mA M 6 ((3 * o) + 0))) * (mA M 11 3))) - (((mA M 6 ((3 * m) + 1)) + (mA M 6 ((3 * o) + 1))) * (mA M 11 4))) - (((mA M 6 ((3 * m) + 2)) + (mA M 6 ((3 * o) + 2))) * (mA M 11 5)))) (((0 - (((mA M 6 ((3 * m) + 0)) + (mA M 6 ((3 * o) + 0))) * (mA M 11 6))) - (((mA M 6 ((3 * m) + 1)) + (mA M 6 ((3 * o) + 1))) * (mA M 11 7))) - (((mA M 6 ((3 * m) + 2)) + (mA M 6 ((3 * o) + 2))) * (mA M 11 8)))) (((0 - (((mA M 6 ((3 * m) + 0)) + (mA M 6 ((3 * o) + 0))) * (mA M 11 9))) - (((mA M 6 ((3 * m) + 1)) + (mA M 6 ((3 * o) + 1))) * (mA M 11 10))) - (((mA M 6 ((3 * m) + 2)) + (mA M 6 ((3 * o) + 2))) * (mA M 11 11))))) rfl rfl rfl rfl ?_
  refine x_istore_n (pc' := 102) (ls' := [_, _, _, _, _, _, _, _, _, _, _]) rfl rfl rfl rfl ?_
  refine x_iinc (pc' := 105) (y := 4) (ls' := [_, _, _, _, _, _, _, _, _, _, _]) rfl rfl rfl rfl rfl ?_
  refine x_goto (pc' := 5) rfl rfl ?_
  refine x_iload (pc' := 7) rfl rfl rfl ?_
  refine x_bipush (pc' := 9) rfl rfl ?_
  refine x_icmp (a' := 108) (pc' := 12) (z := false) rfl rfl rfl (by decide) (fun h => by cases h) (fun _ => ?_)
  refine x_iconst (pc' := 13) rfl rfl ?_
  refine x_istore (pc' := 15) (ls' := [_, _, _, _, _, _, _, _, _, _, _]) rfl rfl rfl rfl ?_
  refine x_aload_n (pc' := 16) rfl rfl rfl rfl rfl ?_
  refine x_gR (pc' := 19) (r := (some 0)) rfl rfl rfl (kR_320_0 hc.1) ?_
  refine x_astore (pc' := 21) (ls' := [_, _, _, _, _, _, _, _, _, _, _]) rfl rfl rfl rfl rfl ?_
  refine x_aload (pc' := 23) rfl rfl rfl rfl rfl ?_
  refine x_alen (pc' := 24) (N := 3) rfl rfl rfl (kN_25_0 hc.1) (?_ : X _ _ _ (.inl 3 :: _) _ _)
  refine x_istore (pc' := 26) (ls' := [_, _, _, _, _, _, _, _, _, _, _]) rfl rfl rfl rfl ?_
  refine x_iconst (pc' := 27) rfl rfl ?_
  refine x_istore (pc' := 29) (ls' := [_, _, _, _, _, _, _, _, _, _, _]) rfl rfl rfl rfl ?_
  refine x_iload (pc' := 31) rfl rfl rfl ?_
  refine x_iload (pc' := 33) rfl rfl rfl ?_
  refine x_icmp (a' := 95) (pc' := 36) (z := false) rfl rfl rfl (by decide) (fun h => by cases h) (fun _ => ?_)
  refine x_aload (pc' := 38) rfl rfl rfl rfl rfl ?_
  refine x_iload (pc' := 40) rfl rfl rfl ?_
  refine x_aald (pc' := 41) (N := 3) (k' := 2) (r := (some 0)) rfl rfl rfl (kN_25_0 hc.1) (io_in (p := 0) (N := 3) (by decide) (by decide)) (Eq.trans (congrArg (sE t 25 0) (nn_io (p := 0) (by decide))) (kK hc.1 (by decide))) ?_
  refine x_astore (pc' := 43) (ls' := [_, _, _, _, _, _, _, _, _, _, _]) rfl rfl rfl rfl rfl ?_
  refine x_aload_n (pc' := 44) rfl rfl rfl rfl rfl ?_
  refine x_aload (pc' := 46) rfl rfl rfl rfl rfl ?_
  refine x_cv (ls0 := [_, _, sJk]) (rest := []) rfl rfl rfl rfl rfl ?_
  refine x_aload_n (pc' := 1) rfl rfl rfl rfl rfl ?_
  refine x_gI (pc' := 4) (x := 0) rfl rfl rfl (kI_128_0 hc.1) ?_
  refine x_istore_n (pc' := 5) (ls' := [_, _, _]) rfl rfl rfl rfl ?_
  refine x_iload_n (pc' := 6) rfl rfl rfl ?_
  refine x_if (a' := 27) (pc' := 9) (z := false) rfl rfl rfl (by decide) (fun h => by cases h) (fun _ => ?_)
  refine x_iload_n (pc' := 10) rfl rfl rfl ?_
  refine x_aload_n (pc' := 11) rfl rfl rfl rfl rfl ?_
  refine x_gR (pc' := 14) (r := (some (m + 1))) rfl rfl rfl (kMp hc.1 hm).1 ?_
  refine x_alen (pc' := 15) (N := 3) rfl rfl rfl (kMp hc.1 hm).2.1 (?_ : X _ _ _ (.inl 3 :: _) _ _)
  refine x_icmp (a' := 27) (pc' := 18) (z := false) rfl rfl rfl (by decide) (fun h => by cases h) (fun _ => ?_)
  refine x_aload_n (pc' := 19) rfl rfl rfl rfl rfl ?_
  refine x_gR (pc' := 22) (r := (some (m + 1))) rfl rfl rfl (kMp hc.1 hm).1 ?_
  refine x_iload_n (pc' := 23) rfl rfl rfl ?_
  refine x_iald (pc' := 24) (N := 3) (x := (mA M 6 ((3 * m) + 0))) rfl rfl rfl (kMp hc.1 hm).2.1 (io_in (p := 0) (N := 3) (by decide) (by decide)) (Eq.trans (congrArg (sA t 20 (m + 1)) (nn_io (p := 0) (by decide))) (kP (m := m) (c := 0) hM hm (by decide))) ?_
  refine x_goto (pc' := 28) rfl rfl ?_
  refine x_reti rfl rfl ?_
  refine sK_i (pc' := 49) rfl ?_
  refine x_istore (pc' := 51) (ls' := [_, _, _, _, _, _, _, _, _, _, _]) rfl rfl rfl rfl ?_
  refine x_iload (pc' := 53) rfl rfl rfl ?_
  refine x_aload_n (pc' := 54) rfl rfl rfl rfl rfl ?_
  refine x_ifnonnull (a' := 61) (pc' := 57) rfl rfl rfl rfl (fun _ _ => ?_) (fun h => by cases h)
  refine x_aload_n (pc' := 62) rfl rfl rfl rfl rfl ?_
  refine x_aload (pc' := 64) rfl rfl rfl rfl rfl ?_
  refine x_cv (ls0 := [_, _, sJk]) (rest := [_]) rfl rfl rfl rfl rfl ?_
  refine x_aload_n (pc' := 1) rfl rfl rfl rfl rfl ?_
  refine x_gI (pc' := 4) (x := 0) rfl rfl rfl (kI_128_0 hc.1) ?_
  refine x_istore_n (pc' := 5) (ls' := [_, _, _]) rfl rfl rfl rfl ?_
  refine x_iload_n (pc' := 6) rfl rfl rfl ?_
  refine x_if (a' := 27) (pc' := 9) (z := false) rfl rfl rfl (by decide) (fun h => by cases h) (fun _ => ?_)
  refine x_iload_n (pc' := 10) rfl rfl rfl ?_
  refine x_aload_n (pc' := 11) rfl rfl rfl rfl rfl ?_
  refine x_gR (pc' := 14) (r := (some (o + 1))) rfl rfl rfl (kMp hc.1 ho).1 ?_
  refine x_alen (pc' := 15) (N := 3) rfl rfl rfl (kMp hc.1 ho).2.1 (?_ : X _ _ _ (.inl 3 :: _) _ _)
  refine x_icmp (a' := 27) (pc' := 18) (z := false) rfl rfl rfl (by decide) (fun h => by cases h) (fun _ => ?_)
  refine x_aload_n (pc' := 19) rfl rfl rfl rfl rfl ?_
  refine x_gR (pc' := 22) (r := (some (o + 1))) rfl rfl rfl (kMp hc.1 ho).1 ?_
  refine x_iload_n (pc' := 23) rfl rfl rfl ?_
  refine x_iald (pc' := 24) (N := 3) (x := (mA M 6 ((3 * o) + 0))) rfl rfl rfl (kMp hc.1 ho).2.1 (io_in (p := 0) (N := 3) (by decide) (by decide)) (Eq.trans (congrArg (sA t 20 (o + 1)) (nn_io (p := 0) (by decide))) (kP (m := o) (c := 0) hM ho (by decide))) ?_
  refine x_goto (pc' := 28) rfl rfl ?_
  refine x_reti rfl rfl ?_
  refine sK_i (pc' := 67) rfl ?_
  refine x_iadd (pc' := 68) (z := ((mA M 6 ((3 * m) + 0)) + (mA M 6 ((3 * o) + 0)))) rfl rfl rfl ?_
  refine x_istore (pc' := 70) (ls' := [_, _, _, _, _, _, _, _, _, _, _]) rfl rfl rfl rfl ?_
  refine x_iload (pc' := 72) rfl rfl rfl ?_
  refine x_iload (pc' := 74) rfl rfl rfl ?_
  refine x_aload_n (pc' := 75) rfl rfl rfl rfl rfl ?_
  refine x_iload (pc' := 77) rfl rfl rfl ?_
  refine x_aload (pc' := 79) rfl rfl rfl rfl rfl ?_
  refine x_gI (pc' := 82) (x := 0) rfl rfl rfl (kI_128_0 hc.1) ?_
  refine x_cv (ls0 := [_, _, _, sJk]) (rest := [_, _]) rfl rfl rfl rfl rfl ?_
  refine x_iload_n (pc' := 1) rfl rfl rfl ?_
  refine x_iconst (pc' := 2) rfl rfl ?_
  refine x_imul (pc' := 3) (z := 12) rfl rfl (by decide) ?_
  refine x_iload_n (pc' := 4) rfl rfl rfl ?_
  refine x_iadd (pc' := 5) (z := 12) rfl rfl (by decide) ?_
  refine x_istore_n (pc' := 6) (ls' := [_, _, _, _]) rfl rfl rfl rfl ?_
  refine x_iload_n (pc' := 7) rfl rfl rfl ?_
  refine x_if (a' := 28) (pc' := 10) (z := false) rfl rfl rfl (by decide) (fun h => by cases h) (fun _ => ?_)
  refine x_iload_n (pc' := 11) rfl rfl rfl ?_
  refine x_aload_n (pc' := 12) rfl rfl rfl rfl rfl ?_
  refine x_gR (pc' := 15) (r := (some 0)) rfl rfl rfl (kR_323_0 hc.1) ?_
  refine x_alen (pc' := 16) (N := 18) rfl rfl rfl (kN_20_0 hc.1) (?_ : X _ _ _ (.inl 18 :: _) _ _)
  refine x_icmp (a' := 28) (pc' := 19) (z := false) rfl rfl rfl (by decide) (fun h => by cases h) (fun _ => ?_)
  refine x_aload_n (pc' := 20) rfl rfl rfl rfl rfl ?_
  refine x_gR (pc' := 23) (r := (some 0)) rfl rfl rfl (kR_323_0 hc.1) ?_
  refine x_iload_n (pc' := 24) rfl rfl rfl ?_
  refine x_iald (pc' := 25) (N := 18) (x := (mA M 11 12)) rfl rfl rfl (kN_20_0 hc.1) (io_in (p := 12) (N := 18) (by decide) (by decide)) (Eq.trans (congrArg (sA t 20 0) (nn_io (p := 12) (by decide))) (kV hM (by decide))) ?_
  refine x_goto (pc' := 29) rfl rfl ?_
  refine x_reti rfl rfl ?_
  refine sK_i (pc' := 85) rfl ?_
  refine x_imul (pc' := 86) (z := (((mA M 6 ((3 * m) + 0)) + (mA M 6 ((3 * o) + 0))) * (mA M 11 12))) rfl rfl rfl ?_
  refine x_isub (pc' := 87) (z := (0 - (((mA M 6 ((3 * m) + 0)) + (mA M 6 ((3 * o) + 0))) * (mA M 11 12)))) rfl rfl rfl ?_
  refine x_istore (pc' := 89) (ls' := [_, _, _, _, _, _, _, _, _, _, _]) rfl rfl rfl rfl ?_
  refine x_iinc (pc' := 92) (y := 1) (ls' := [_, _, _, _, _, _, _, _, _, _, _]) rfl rfl rfl rfl rfl ?_
  refine x_goto (pc' := 29) rfl rfl ?_
  refine x_iload (pc' := 31) rfl rfl rfl ?_
  refine x_iload (pc' := 33) rfl rfl rfl ?_
  refine x_icmp (a' := 95) (pc' := 36) (z := false) rfl rfl rfl (by decide) (fun h => by cases h) (fun _ => ?_)
  refine x_aload (pc' := 38) rfl rfl rfl rfl rfl ?_
  refine x_iload (pc' := 40) rfl rfl rfl ?_
  refine x_aald (pc' := 41) (N := 3) (k' := 2) (r := (some 1)) rfl rfl rfl (kN_25_0 hc.1) (io_in (p := 1) (N := 3) (by decide) (by decide)) (Eq.trans (congrArg (sE t 25 0) (nn_io (p := 1) (by decide))) (kK hc.1 (by decide))) ?_
  refine x_astore (pc' := 43) (ls' := [_, _, _, _, _, _, _, _, _, _, _]) rfl rfl rfl rfl rfl ?_
  refine x_aload_n (pc' := 44) rfl rfl rfl rfl rfl ?_
  refine x_aload (pc' := 46) rfl rfl rfl rfl rfl ?_
  refine x_cv (ls0 := [_, _, sJk]) (rest := []) rfl rfl rfl rfl rfl ?_
  refine x_aload_n (pc' := 1) rfl rfl rfl rfl rfl ?_
  refine x_gI (pc' := 4) (x := 1) rfl rfl rfl (kI_128_1 hc.1) ?_
  refine x_istore_n (pc' := 5) (ls' := [_, _, _]) rfl rfl rfl rfl ?_
  refine x_iload_n (pc' := 6) rfl rfl rfl ?_
  refine x_if (a' := 27) (pc' := 9) (z := false) rfl rfl rfl (by decide) (fun h => by cases h) (fun _ => ?_)
  refine x_iload_n (pc' := 10) rfl rfl rfl ?_
  refine x_aload_n (pc' := 11) rfl rfl rfl rfl rfl ?_
  refine x_gR (pc' := 14) (r := (some (m + 1))) rfl rfl rfl (kMp hc.1 hm).1 ?_
  refine x_alen (pc' := 15) (N := 3) rfl rfl rfl (kMp hc.1 hm).2.1 (?_ : X _ _ _ (.inl 3 :: _) _ _)
  refine x_icmp (a' := 27) (pc' := 18) (z := false) rfl rfl rfl (by decide) (fun h => by cases h) (fun _ => ?_)
  refine x_aload_n (pc' := 19) rfl rfl rfl rfl rfl ?_
  refine x_gR (pc' := 22) (r := (some (m + 1))) rfl rfl rfl (kMp hc.1 hm).1 ?_
  refine x_iload_n (pc' := 23) rfl rfl rfl ?_
  refine x_iald (pc' := 24) (N := 3) (x := (mA M 6 ((3 * m) + 1))) rfl rfl rfl (kMp hc.1 hm).2.1 (io_in (p := 1) (N := 3) (by decide) (by decide)) (Eq.trans (congrArg (sA t 20 (m + 1)) (nn_io (p := 1) (by decide))) (kP (m := m) (c := 1) hM hm (by decide))) ?_
  refine x_goto (pc' := 28) rfl rfl ?_
  refine x_reti rfl rfl ?_
  refine sK_i (pc' := 49) rfl ?_
  refine x_istore (pc' := 51) (ls' := [_, _, _, _, _, _, _, _, _, _, _]) rfl rfl rfl rfl ?_
  refine x_iload (pc' := 53) rfl rfl rfl ?_
  refine x_aload_n (pc' := 54) rfl rfl rfl rfl rfl ?_
  refine x_ifnonnull (a' := 61) (pc' := 57) rfl rfl rfl rfl (fun _ _ => ?_) (fun h => by cases h)
  refine x_aload_n (pc' := 62) rfl rfl rfl rfl rfl ?_
  refine x_aload (pc' := 64) rfl rfl rfl rfl rfl ?_
  refine x_cv (ls0 := [_, _, sJk]) (rest := [_]) rfl rfl rfl rfl rfl ?_
  refine x_aload_n (pc' := 1) rfl rfl rfl rfl rfl ?_
  refine x_gI (pc' := 4) (x := 1) rfl rfl rfl (kI_128_1 hc.1) ?_
  refine x_istore_n (pc' := 5) (ls' := [_, _, _]) rfl rfl rfl rfl ?_
  refine x_iload_n (pc' := 6) rfl rfl rfl ?_
  refine x_if (a' := 27) (pc' := 9) (z := false) rfl rfl rfl (by decide) (fun h => by cases h) (fun _ => ?_)
  refine x_iload_n (pc' := 10) rfl rfl rfl ?_
  refine x_aload_n (pc' := 11) rfl rfl rfl rfl rfl ?_
  refine x_gR (pc' := 14) (r := (some (o + 1))) rfl rfl rfl (kMp hc.1 ho).1 ?_
  refine x_alen (pc' := 15) (N := 3) rfl rfl rfl (kMp hc.1 ho).2.1 (?_ : X _ _ _ (.inl 3 :: _) _ _)
  refine x_icmp (a' := 27) (pc' := 18) (z := false) rfl rfl rfl (by decide) (fun h => by cases h) (fun _ => ?_)
  refine x_aload_n (pc' := 19) rfl rfl rfl rfl rfl ?_
  refine x_gR (pc' := 22) (r := (some (o + 1))) rfl rfl rfl (kMp hc.1 ho).1 ?_
  refine x_iload_n (pc' := 23) rfl rfl rfl ?_
  refine x_iald (pc' := 24) (N := 3) (x := (mA M 6 ((3 * o) + 1))) rfl rfl rfl (kMp hc.1 ho).2.1 (io_in (p := 1) (N := 3) (by decide) (by decide)) (Eq.trans (congrArg (sA t 20 (o + 1)) (nn_io (p := 1) (by decide))) (kP (m := o) (c := 1) hM ho (by decide))) ?_
  refine x_goto (pc' := 28) rfl rfl ?_
  refine x_reti rfl rfl ?_
  refine sK_i (pc' := 67) rfl ?_
  refine x_iadd (pc' := 68) (z := ((mA M 6 ((3 * m) + 1)) + (mA M 6 ((3 * o) + 1)))) rfl rfl rfl ?_
  refine x_istore (pc' := 70) (ls' := [_, _, _, _, _, _, _, _, _, _, _]) rfl rfl rfl rfl ?_
  refine x_iload (pc' := 72) rfl rfl rfl ?_
  refine x_iload (pc' := 74) rfl rfl rfl ?_
  refine x_aload_n (pc' := 75) rfl rfl rfl rfl rfl ?_
  refine x_iload (pc' := 77) rfl rfl rfl ?_
  refine x_aload (pc' := 79) rfl rfl rfl rfl rfl ?_
  refine x_gI (pc' := 82) (x := 1) rfl rfl rfl (kI_128_1 hc.1) ?_
  refine x_cv (ls0 := [_, _, _, sJk]) (rest := [_, _]) rfl rfl rfl rfl rfl ?_
  refine x_iload_n (pc' := 1) rfl rfl rfl ?_
  refine x_iconst (pc' := 2) rfl rfl ?_
  refine x_imul (pc' := 3) (z := 12) rfl rfl (by decide) ?_
  refine x_iload_n (pc' := 4) rfl rfl rfl ?_
  refine x_iadd (pc' := 5) (z := 13) rfl rfl (by decide) ?_
  refine x_istore_n (pc' := 6) (ls' := [_, _, _, _]) rfl rfl rfl rfl ?_
  refine x_iload_n (pc' := 7) rfl rfl rfl ?_
  refine x_if (a' := 28) (pc' := 10) (z := false) rfl rfl rfl (by decide) (fun h => by cases h) (fun _ => ?_)
  refine x_iload_n (pc' := 11) rfl rfl rfl ?_
  refine x_aload_n (pc' := 12) rfl rfl rfl rfl rfl ?_
  refine x_gR (pc' := 15) (r := (some 0)) rfl rfl rfl (kR_323_0 hc.1) ?_
  refine x_alen (pc' := 16) (N := 18) rfl rfl rfl (kN_20_0 hc.1) (?_ : X _ _ _ (.inl 18 :: _) _ _)
  refine x_icmp (a' := 28) (pc' := 19) (z := false) rfl rfl rfl (by decide) (fun h => by cases h) (fun _ => ?_)
  refine x_aload_n (pc' := 20) rfl rfl rfl rfl rfl ?_
  refine x_gR (pc' := 23) (r := (some 0)) rfl rfl rfl (kR_323_0 hc.1) ?_
  refine x_iload_n (pc' := 24) rfl rfl rfl ?_
  refine x_iald (pc' := 25) (N := 18) (x := (mA M 11 13)) rfl rfl rfl (kN_20_0 hc.1) (io_in (p := 13) (N := 18) (by decide) (by decide)) (Eq.trans (congrArg (sA t 20 0) (nn_io (p := 13) (by decide))) (kV hM (by decide))) ?_
  refine x_goto (pc' := 29) rfl rfl ?_
  refine x_reti rfl rfl ?_
  refine sK_i (pc' := 85) rfl ?_
  refine x_imul (pc' := 86) (z := (((mA M 6 ((3 * m) + 1)) + (mA M 6 ((3 * o) + 1))) * (mA M 11 13))) rfl rfl rfl ?_
  refine x_isub (pc' := 87) (z := ((0 - (((mA M 6 ((3 * m) + 0)) + (mA M 6 ((3 * o) + 0))) * (mA M 11 12))) - (((mA M 6 ((3 * m) + 1)) + (mA M 6 ((3 * o) + 1))) * (mA M 11 13)))) rfl rfl rfl ?_
  refine x_istore (pc' := 89) (ls' := [_, _, _, _, _, _, _, _, _, _, _]) rfl rfl rfl rfl ?_
  refine x_iinc (pc' := 92) (y := 2) (ls' := [_, _, _, _, _, _, _, _, _, _, _]) rfl rfl rfl rfl rfl ?_
  refine x_goto (pc' := 29) rfl rfl ?_
  refine x_iload (pc' := 31) rfl rfl rfl ?_
  refine x_iload (pc' := 33) rfl rfl rfl ?_
  refine x_icmp (a' := 95) (pc' := 36) (z := false) rfl rfl rfl (by decide) (fun h => by cases h) (fun _ => ?_)
  refine x_aload (pc' := 38) rfl rfl rfl rfl rfl ?_
  refine x_iload (pc' := 40) rfl rfl rfl ?_
  refine x_aald (pc' := 41) (N := 3) (k' := 2) (r := (some 2)) rfl rfl rfl (kN_25_0 hc.1) (io_in (p := 2) (N := 3) (by decide) (by decide)) (Eq.trans (congrArg (sE t 25 0) (nn_io (p := 2) (by decide))) (kK hc.1 (by decide))) ?_
  refine x_astore (pc' := 43) (ls' := [_, _, _, _, _, _, _, _, _, _, _]) rfl rfl rfl rfl rfl ?_
  refine x_aload_n (pc' := 44) rfl rfl rfl rfl rfl ?_
  refine x_aload (pc' := 46) rfl rfl rfl rfl rfl ?_
  refine x_cv (ls0 := [_, _, sJk]) (rest := []) rfl rfl rfl rfl rfl ?_
  refine x_aload_n (pc' := 1) rfl rfl rfl rfl rfl ?_
  refine x_gI (pc' := 4) (x := 2) rfl rfl rfl (kI_128_2 hc.1) ?_
  refine x_istore_n (pc' := 5) (ls' := [_, _, _]) rfl rfl rfl rfl ?_
  refine x_iload_n (pc' := 6) rfl rfl rfl ?_
  refine x_if (a' := 27) (pc' := 9) (z := false) rfl rfl rfl (by decide) (fun h => by cases h) (fun _ => ?_)
  refine x_iload_n (pc' := 10) rfl rfl rfl ?_
  refine x_aload_n (pc' := 11) rfl rfl rfl rfl rfl ?_
  refine x_gR (pc' := 14) (r := (some (m + 1))) rfl rfl rfl (kMp hc.1 hm).1 ?_
  refine x_alen (pc' := 15) (N := 3) rfl rfl rfl (kMp hc.1 hm).2.1 (?_ : X _ _ _ (.inl 3 :: _) _ _)
  refine x_icmp (a' := 27) (pc' := 18) (z := false) rfl rfl rfl (by decide) (fun h => by cases h) (fun _ => ?_)
  refine x_aload_n (pc' := 19) rfl rfl rfl rfl rfl ?_
  refine x_gR (pc' := 22) (r := (some (m + 1))) rfl rfl rfl (kMp hc.1 hm).1 ?_
  refine x_iload_n (pc' := 23) rfl rfl rfl ?_
  refine x_iald (pc' := 24) (N := 3) (x := (mA M 6 ((3 * m) + 2))) rfl rfl rfl (kMp hc.1 hm).2.1 (io_in (p := 2) (N := 3) (by decide) (by decide)) (Eq.trans (congrArg (sA t 20 (m + 1)) (nn_io (p := 2) (by decide))) (kP (m := m) (c := 2) hM hm (by decide))) ?_
  refine x_goto (pc' := 28) rfl rfl ?_
  refine x_reti rfl rfl ?_
  refine sK_i (pc' := 49) rfl ?_
  refine x_istore (pc' := 51) (ls' := [_, _, _, _, _, _, _, _, _, _, _]) rfl rfl rfl rfl ?_
  refine x_iload (pc' := 53) rfl rfl rfl ?_
  refine x_aload_n (pc' := 54) rfl rfl rfl rfl rfl ?_
  refine x_ifnonnull (a' := 61) (pc' := 57) rfl rfl rfl rfl (fun _ _ => ?_) (fun h => by cases h)
  refine x_aload_n (pc' := 62) rfl rfl rfl rfl rfl ?_
  refine x_aload (pc' := 64) rfl rfl rfl rfl rfl ?_
  refine x_cv (ls0 := [_, _, sJk]) (rest := [_]) rfl rfl rfl rfl rfl ?_
  refine x_aload_n (pc' := 1) rfl rfl rfl rfl rfl ?_
  refine x_gI (pc' := 4) (x := 2) rfl rfl rfl (kI_128_2 hc.1) ?_
  refine x_istore_n (pc' := 5) (ls' := [_, _, _]) rfl rfl rfl rfl ?_
  refine x_iload_n (pc' := 6) rfl rfl rfl ?_
  refine x_if (a' := 27) (pc' := 9) (z := false) rfl rfl rfl (by decide) (fun h => by cases h) (fun _ => ?_)
  refine x_iload_n (pc' := 10) rfl rfl rfl ?_
  refine x_aload_n (pc' := 11) rfl rfl rfl rfl rfl ?_
  refine x_gR (pc' := 14) (r := (some (o + 1))) rfl rfl rfl (kMp hc.1 ho).1 ?_
  refine x_alen (pc' := 15) (N := 3) rfl rfl rfl (kMp hc.1 ho).2.1 (?_ : X _ _ _ (.inl 3 :: _) _ _)
  refine x_icmp (a' := 27) (pc' := 18) (z := false) rfl rfl rfl (by decide) (fun h => by cases h) (fun _ => ?_)
  refine x_aload_n (pc' := 19) rfl rfl rfl rfl rfl ?_
  refine x_gR (pc' := 22) (r := (some (o + 1))) rfl rfl rfl (kMp hc.1 ho).1 ?_
  refine x_iload_n (pc' := 23) rfl rfl rfl ?_
  refine x_iald (pc' := 24) (N := 3) (x := (mA M 6 ((3 * o) + 2))) rfl rfl rfl (kMp hc.1 ho).2.1 (io_in (p := 2) (N := 3) (by decide) (by decide)) (Eq.trans (congrArg (sA t 20 (o + 1)) (nn_io (p := 2) (by decide))) (kP (m := o) (c := 2) hM ho (by decide))) ?_
  refine x_goto (pc' := 28) rfl rfl ?_
  refine x_reti rfl rfl ?_
  refine sK_i (pc' := 67) rfl ?_
  refine x_iadd (pc' := 68) (z := ((mA M 6 ((3 * m) + 2)) + (mA M 6 ((3 * o) + 2)))) rfl rfl rfl ?_
  refine x_istore (pc' := 70) (ls' := [_, _, _, _, _, _, _, _, _, _, _]) rfl rfl rfl rfl ?_
  refine x_iload (pc' := 72) rfl rfl rfl ?_
  refine x_iload (pc' := 74) rfl rfl rfl ?_
  refine x_aload_n (pc' := 75) rfl rfl rfl rfl rfl ?_
  refine x_iload (pc' := 77) rfl rfl rfl ?_
  refine x_aload (pc' := 79) rfl rfl rfl rfl rfl ?_
  refine x_gI (pc' := 82) (x := 2) rfl rfl rfl (kI_128_2 hc.1) ?_
  refine x_cv (ls0 := [_, _, _, sJk]) (rest := [_, _]) rfl rfl rfl rfl rfl ?_
  refine x_iload_n (pc' := 1) rfl rfl rfl ?_
  refine x_iconst (pc' := 2) rfl rfl ?_
  refine x_imul (pc' := 3) (z := 12) rfl rfl (by decide) ?_
  refine x_iload_n (pc' := 4) rfl rfl rfl ?_
  refine x_iadd (pc' := 5) (z := 14) rfl rfl (by decide) ?_
  refine x_istore_n (pc' := 6) (ls' := [_, _, _, _]) rfl rfl rfl rfl ?_
  refine x_iload_n (pc' := 7) rfl rfl rfl ?_
  refine x_if (a' := 28) (pc' := 10) (z := false) rfl rfl rfl (by decide) (fun h => by cases h) (fun _ => ?_)
  refine x_iload_n (pc' := 11) rfl rfl rfl ?_
  refine x_aload_n (pc' := 12) rfl rfl rfl rfl rfl ?_
  refine x_gR (pc' := 15) (r := (some 0)) rfl rfl rfl (kR_323_0 hc.1) ?_
  refine x_alen (pc' := 16) (N := 18) rfl rfl rfl (kN_20_0 hc.1) (?_ : X _ _ _ (.inl 18 :: _) _ _)
  refine x_icmp (a' := 28) (pc' := 19) (z := false) rfl rfl rfl (by decide) (fun h => by cases h) (fun _ => ?_)
  refine x_aload_n (pc' := 20) rfl rfl rfl rfl rfl ?_
  refine x_gR (pc' := 23) (r := (some 0)) rfl rfl rfl (kR_323_0 hc.1) ?_
  refine x_iload_n (pc' := 24) rfl rfl rfl ?_
  refine x_iald (pc' := 25) (N := 18) (x := (mA M 11 14)) rfl rfl rfl (kN_20_0 hc.1) (io_in (p := 14) (N := 18) (by decide) (by decide)) (Eq.trans (congrArg (sA t 20 0) (nn_io (p := 14) (by decide))) (kV hM (by decide))) ?_
  refine x_goto (pc' := 29) rfl rfl ?_
  refine x_reti rfl rfl ?_
  refine sK_i (pc' := 85) rfl ?_
  refine x_imul (pc' := 86) (z := (((mA M 6 ((3 * m) + 2)) + (mA M 6 ((3 * o) + 2))) * (mA M 11 14))) rfl rfl rfl ?_
  refine x_isub (pc' := 87) (z := (((0 - (((mA M 6 ((3 * m) + 0)) + (mA M 6 ((3 * o) + 0))) * (mA M 11 12))) - (((mA M 6 ((3 * m) + 1)) + (mA M 6 ((3 * o) + 1))) * (mA M 11 13))) - (((mA M 6 ((3 * m) + 2)) + (mA M 6 ((3 * o) + 2))) * (mA M 11 14)))) rfl rfl rfl ?_
  refine x_istore (pc' := 89) (ls' := [_, _, _, _, _, _, _, _, _, _, _]) rfl rfl rfl rfl ?_
  refine x_iinc (pc' := 92) (y := 3) (ls' := [_, _, _, _, _, _, _, _, _, _, _]) rfl rfl rfl rfl rfl ?_
  refine x_goto (pc' := 29) rfl rfl ?_
  refine x_iload (pc' := 31) rfl rfl rfl ?_
  refine x_iload (pc' := 33) rfl rfl rfl ?_
  refine x_icmp (a' := 95) (pc' := 36) (z := true) rfl rfl rfl (by decide) (fun _ => ?_) (fun h => by cases h)
  refine x_iload_n (pc' := 96) rfl rfl rfl ?_
  refine x_iload (pc' := 98) rfl rfl rfl ?_
  refine x_max (pc' := 101) (z := (mx (mx (mx (mx (mx 0 (((0 - (((mA M 6 ((3 * m) + 0)) + (mA M 6 ((3 * o) + 0))) * (mA M 11 0))) - (((mA M 6 ((3 * m) + 1)) + (mA M 6 ((3 * o) + 1))) * (mA M 11 1))) - (((mA M 6 ((3 * m) + 2)) + (mA M 6 ((3 * o) + 2))) * (mA M 11 2)))) (((0 - (((mA M 6 ((3 * m) + 0)) + (mA M 6 ((3 * o) + 0))) * (mA M 11 3))) - (((mA M 6 ((3 * m) + 1)) + (mA M 6 ((3 * o) + 1))) * (mA M 11 4))) - (((mA M 6 ((3 * m) + 2)) + (mA M 6 ((3 * o) + 2))) * (mA M 11 5)))) (((0 - (((mA M 6 ((3 * m) + 0)) + (mA M 6 ((3 * o) + 0))) * (mA M 11 6))) - (((mA M 6 ((3 * m) + 1)) + (mA M 6 ((3 * o) + 1))) * (mA M 11 7))) - (((mA M 6 ((3 * m) + 2)) + (mA M 6 ((3 * o) + 2))) * (mA M 11 8)))) (((0 - (((mA M 6 ((3 * m) + 0)) + (mA M 6 ((3 * o) + 0))) * (mA M 11 9))) - (((mA M 6 ((3 * m) + 1)) + (mA M 6 ((3 * o) + 1))) * (mA M 11 10))) - (((mA M 6 ((3 * m) + 2)) + (mA M 6 ((3 * o) + 2))) * (mA M 11 11)))) (((0 - (((mA M 6 ((3 * m) + 0)) + (mA M 6 ((3 * o) + 0))) * (mA M 11 12))) - (((mA M 6 ((3 * m) + 1)) + (mA M 6 ((3 * o) + 1))) * (mA M 11 13))) - (((mA M 6 ((3 * m) + 2)) + (mA M 6 ((3 * o) + 2))) * (mA M 11 14))))) rfl rfl rfl rfl ?_
  refine x_istore_n (pc' := 102) (ls' := [_, _, _, _, _, _, _, _, _, _, _]) rfl rfl rfl rfl ?_
  refine x_iinc (pc' := 105) (y := 5) (ls' := [_, _, _, _, _, _, _, _, _, _, _]) rfl rfl rfl rfl rfl ?_
  refine x_goto (pc' := 5) rfl rfl ?_
  refine x_iload (pc' := 7) rfl rfl rfl ?_
  refine x_bipush (pc' := 9) rfl rfl ?_
  refine x_icmp (a' := 108) (pc' := 12) (z := false) rfl rfl rfl (by decide) (fun h => by cases h) (fun _ => ?_)
  refine x_iconst (pc' := 13) rfl rfl ?_
  refine x_istore (pc' := 15) (ls' := [_, _, _, _, _, _, _, _, _, _, _]) rfl rfl rfl rfl ?_
  refine x_aload_n (pc' := 16) rfl rfl rfl rfl rfl ?_
  refine x_gR (pc' := 19) (r := (some 0)) rfl rfl rfl (kR_320_0 hc.1) ?_
  refine x_astore (pc' := 21) (ls' := [_, _, _, _, _, _, _, _, _, _, _]) rfl rfl rfl rfl rfl ?_
  refine x_aload (pc' := 23) rfl rfl rfl rfl rfl ?_
  refine x_alen (pc' := 24) (N := 3) rfl rfl rfl (kN_25_0 hc.1) (?_ : X _ _ _ (.inl 3 :: _) _ _)
  refine x_istore (pc' := 26) (ls' := [_, _, _, _, _, _, _, _, _, _, _]) rfl rfl rfl rfl ?_
  refine x_iconst (pc' := 27) rfl rfl ?_
  refine x_istore (pc' := 29) (ls' := [_, _, _, _, _, _, _, _, _, _, _]) rfl rfl rfl rfl ?_
  refine x_iload (pc' := 31) rfl rfl rfl ?_
  refine x_iload (pc' := 33) rfl rfl rfl ?_
  refine x_icmp (a' := 95) (pc' := 36) (z := false) rfl rfl rfl (by decide) (fun h => by cases h) (fun _ => ?_)
  refine x_aload (pc' := 38) rfl rfl rfl rfl rfl ?_
  refine x_iload (pc' := 40) rfl rfl rfl ?_
  refine x_aald (pc' := 41) (N := 3) (k' := 2) (r := (some 0)) rfl rfl rfl (kN_25_0 hc.1) (io_in (p := 0) (N := 3) (by decide) (by decide)) (Eq.trans (congrArg (sE t 25 0) (nn_io (p := 0) (by decide))) (kK hc.1 (by decide))) ?_
  refine x_astore (pc' := 43) (ls' := [_, _, _, _, _, _, _, _, _, _, _]) rfl rfl rfl rfl rfl ?_
  refine x_aload_n (pc' := 44) rfl rfl rfl rfl rfl ?_
  refine x_aload (pc' := 46) rfl rfl rfl rfl rfl ?_
  refine x_cv (ls0 := [_, _, sJk]) (rest := []) rfl rfl rfl rfl rfl ?_
  refine x_aload_n (pc' := 1) rfl rfl rfl rfl rfl ?_
  refine x_gI (pc' := 4) (x := 0) rfl rfl rfl (kI_128_0 hc.1) ?_
  refine x_istore_n (pc' := 5) (ls' := [_, _, _]) rfl rfl rfl rfl ?_
  refine x_iload_n (pc' := 6) rfl rfl rfl ?_
  refine x_if (a' := 27) (pc' := 9) (z := false) rfl rfl rfl (by decide) (fun h => by cases h) (fun _ => ?_)
  refine x_iload_n (pc' := 10) rfl rfl rfl ?_
  refine x_aload_n (pc' := 11) rfl rfl rfl rfl rfl ?_
  refine x_gR (pc' := 14) (r := (some (m + 1))) rfl rfl rfl (kMp hc.1 hm).1 ?_
  refine x_alen (pc' := 15) (N := 3) rfl rfl rfl (kMp hc.1 hm).2.1 (?_ : X _ _ _ (.inl 3 :: _) _ _)
  refine x_icmp (a' := 27) (pc' := 18) (z := false) rfl rfl rfl (by decide) (fun h => by cases h) (fun _ => ?_)
  refine x_aload_n (pc' := 19) rfl rfl rfl rfl rfl ?_
  refine x_gR (pc' := 22) (r := (some (m + 1))) rfl rfl rfl (kMp hc.1 hm).1 ?_
  refine x_iload_n (pc' := 23) rfl rfl rfl ?_
  refine x_iald (pc' := 24) (N := 3) (x := (mA M 6 ((3 * m) + 0))) rfl rfl rfl (kMp hc.1 hm).2.1 (io_in (p := 0) (N := 3) (by decide) (by decide)) (Eq.trans (congrArg (sA t 20 (m + 1)) (nn_io (p := 0) (by decide))) (kP (m := m) (c := 0) hM hm (by decide))) ?_
  refine x_goto (pc' := 28) rfl rfl ?_
  refine x_reti rfl rfl ?_
  refine sK_i (pc' := 49) rfl ?_
  refine x_istore (pc' := 51) (ls' := [_, _, _, _, _, _, _, _, _, _, _]) rfl rfl rfl rfl ?_
  refine x_iload (pc' := 53) rfl rfl rfl ?_
  refine x_aload_n (pc' := 54) rfl rfl rfl rfl rfl ?_
  refine x_ifnonnull (a' := 61) (pc' := 57) rfl rfl rfl rfl (fun _ _ => ?_) (fun h => by cases h)
  refine x_aload_n (pc' := 62) rfl rfl rfl rfl rfl ?_
  refine x_aload (pc' := 64) rfl rfl rfl rfl rfl ?_
  refine x_cv (ls0 := [_, _, sJk]) (rest := [_]) rfl rfl rfl rfl rfl ?_
  refine x_aload_n (pc' := 1) rfl rfl rfl rfl rfl ?_
  refine x_gI (pc' := 4) (x := 0) rfl rfl rfl (kI_128_0 hc.1) ?_
  refine x_istore_n (pc' := 5) (ls' := [_, _, _]) rfl rfl rfl rfl ?_
  refine x_iload_n (pc' := 6) rfl rfl rfl ?_
  refine x_if (a' := 27) (pc' := 9) (z := false) rfl rfl rfl (by decide) (fun h => by cases h) (fun _ => ?_)
  refine x_iload_n (pc' := 10) rfl rfl rfl ?_
  refine x_aload_n (pc' := 11) rfl rfl rfl rfl rfl ?_
  refine x_gR (pc' := 14) (r := (some (o + 1))) rfl rfl rfl (kMp hc.1 ho).1 ?_
  refine x_alen (pc' := 15) (N := 3) rfl rfl rfl (kMp hc.1 ho).2.1 (?_ : X _ _ _ (.inl 3 :: _) _ _)
  refine x_icmp (a' := 27) (pc' := 18) (z := false) rfl rfl rfl (by decide) (fun h => by cases h) (fun _ => ?_)
  refine x_aload_n (pc' := 19) rfl rfl rfl rfl rfl ?_
  refine x_gR (pc' := 22) (r := (some (o + 1))) rfl rfl rfl (kMp hc.1 ho).1 ?_
  refine x_iload_n (pc' := 23) rfl rfl rfl ?_
  refine x_iald (pc' := 24) (N := 3) (x := (mA M 6 ((3 * o) + 0))) rfl rfl rfl (kMp hc.1 ho).2.1 (io_in (p := 0) (N := 3) (by decide) (by decide)) (Eq.trans (congrArg (sA t 20 (o + 1)) (nn_io (p := 0) (by decide))) (kP (m := o) (c := 0) hM ho (by decide))) ?_
  refine x_goto (pc' := 28) rfl rfl ?_
  refine x_reti rfl rfl ?_
  refine sK_i (pc' := 67) rfl ?_
  refine x_iadd (pc' := 68) (z := ((mA M 6 ((3 * m) + 0)) + (mA M 6 ((3 * o) + 0)))) rfl rfl rfl ?_
  refine x_istore (pc' := 70) (ls' := [_, _, _, _, _, _, _, _, _, _, _]) rfl rfl rfl rfl ?_
  refine x_iload (pc' := 72) rfl rfl rfl ?_
  refine x_iload (pc' := 74) rfl rfl rfl ?_
  refine x_aload_n (pc' := 75) rfl rfl rfl rfl rfl ?_
  refine x_iload (pc' := 77) rfl rfl rfl ?_
  refine x_aload (pc' := 79) rfl rfl rfl rfl rfl ?_
  refine x_gI (pc' := 82) (x := 0) rfl rfl rfl (kI_128_0 hc.1) ?_
  refine x_cv (ls0 := [_, _, _, sJk]) (rest := [_, _]) rfl rfl rfl rfl rfl ?_
  refine x_iload_n (pc' := 1) rfl rfl rfl ?_
  refine x_iconst (pc' := 2) rfl rfl ?_
  refine x_imul (pc' := 3) (z := 15) rfl rfl (by decide) ?_
  refine x_iload_n (pc' := 4) rfl rfl rfl ?_
  refine x_iadd (pc' := 5) (z := 15) rfl rfl (by decide) ?_
  refine x_istore_n (pc' := 6) (ls' := [_, _, _, _]) rfl rfl rfl rfl ?_
  refine x_iload_n (pc' := 7) rfl rfl rfl ?_
  refine x_if (a' := 28) (pc' := 10) (z := false) rfl rfl rfl (by decide) (fun h => by cases h) (fun _ => ?_)
  refine x_iload_n (pc' := 11) rfl rfl rfl ?_
  refine x_aload_n (pc' := 12) rfl rfl rfl rfl rfl ?_
  refine x_gR (pc' := 15) (r := (some 0)) rfl rfl rfl (kR_323_0 hc.1) ?_
  refine x_alen (pc' := 16) (N := 18) rfl rfl rfl (kN_20_0 hc.1) (?_ : X _ _ _ (.inl 18 :: _) _ _)
  refine x_icmp (a' := 28) (pc' := 19) (z := false) rfl rfl rfl (by decide) (fun h => by cases h) (fun _ => ?_)
  refine x_aload_n (pc' := 20) rfl rfl rfl rfl rfl ?_
  refine x_gR (pc' := 23) (r := (some 0)) rfl rfl rfl (kR_323_0 hc.1) ?_
  refine x_iload_n (pc' := 24) rfl rfl rfl ?_
  refine x_iald (pc' := 25) (N := 18) (x := (mA M 11 15)) rfl rfl rfl (kN_20_0 hc.1) (io_in (p := 15) (N := 18) (by decide) (by decide)) (Eq.trans (congrArg (sA t 20 0) (nn_io (p := 15) (by decide))) (kV hM (by decide))) ?_
  refine x_goto (pc' := 29) rfl rfl ?_
  refine x_reti rfl rfl ?_
  refine sK_i (pc' := 85) rfl ?_
  refine x_imul (pc' := 86) (z := (((mA M 6 ((3 * m) + 0)) + (mA M 6 ((3 * o) + 0))) * (mA M 11 15))) rfl rfl rfl ?_
  refine x_isub (pc' := 87) (z := (0 - (((mA M 6 ((3 * m) + 0)) + (mA M 6 ((3 * o) + 0))) * (mA M 11 15)))) rfl rfl rfl ?_
  refine x_istore (pc' := 89) (ls' := [_, _, _, _, _, _, _, _, _, _, _]) rfl rfl rfl rfl ?_
  refine x_iinc (pc' := 92) (y := 1) (ls' := [_, _, _, _, _, _, _, _, _, _, _]) rfl rfl rfl rfl rfl ?_
  refine x_goto (pc' := 29) rfl rfl ?_
  refine x_iload (pc' := 31) rfl rfl rfl ?_
  refine x_iload (pc' := 33) rfl rfl rfl ?_
  refine x_icmp (a' := 95) (pc' := 36) (z := false) rfl rfl rfl (by decide) (fun h => by cases h) (fun _ => ?_)
  refine x_aload (pc' := 38) rfl rfl rfl rfl rfl ?_
  refine x_iload (pc' := 40) rfl rfl rfl ?_
  refine x_aald (pc' := 41) (N := 3) (k' := 2) (r := (some 1)) rfl rfl rfl (kN_25_0 hc.1) (io_in (p := 1) (N := 3) (by decide) (by decide)) (Eq.trans (congrArg (sE t 25 0) (nn_io (p := 1) (by decide))) (kK hc.1 (by decide))) ?_
  refine x_astore (pc' := 43) (ls' := [_, _, _, _, _, _, _, _, _, _, _]) rfl rfl rfl rfl rfl ?_
  refine x_aload_n (pc' := 44) rfl rfl rfl rfl rfl ?_
  refine x_aload (pc' := 46) rfl rfl rfl rfl rfl ?_
  refine x_cv (ls0 := [_, _, sJk]) (rest := []) rfl rfl rfl rfl rfl ?_
  refine x_aload_n (pc' := 1) rfl rfl rfl rfl rfl ?_
  refine x_gI (pc' := 4) (x := 1) rfl rfl rfl (kI_128_1 hc.1) ?_
  refine x_istore_n (pc' := 5) (ls' := [_, _, _]) rfl rfl rfl rfl ?_
  refine x_iload_n (pc' := 6) rfl rfl rfl ?_
  refine x_if (a' := 27) (pc' := 9) (z := false) rfl rfl rfl (by decide) (fun h => by cases h) (fun _ => ?_)
  refine x_iload_n (pc' := 10) rfl rfl rfl ?_
  refine x_aload_n (pc' := 11) rfl rfl rfl rfl rfl ?_
  refine x_gR (pc' := 14) (r := (some (m + 1))) rfl rfl rfl (kMp hc.1 hm).1 ?_
  refine x_alen (pc' := 15) (N := 3) rfl rfl rfl (kMp hc.1 hm).2.1 (?_ : X _ _ _ (.inl 3 :: _) _ _)
  refine x_icmp (a' := 27) (pc' := 18) (z := false) rfl rfl rfl (by decide) (fun h => by cases h) (fun _ => ?_)
  refine x_aload_n (pc' := 19) rfl rfl rfl rfl rfl ?_
  refine x_gR (pc' := 22) (r := (some (m + 1))) rfl rfl rfl (kMp hc.1 hm).1 ?_
  refine x_iload_n (pc' := 23) rfl rfl rfl ?_
  refine x_iald (pc' := 24) (N := 3) (x := (mA M 6 ((3 * m) + 1))) rfl rfl rfl (kMp hc.1 hm).2.1 (io_in (p := 1) (N := 3) (by decide) (by decide)) (Eq.trans (congrArg (sA t 20 (m + 1)) (nn_io (p := 1) (by decide))) (kP (m := m) (c := 1) hM hm (by decide))) ?_
  refine x_goto (pc' := 28) rfl rfl ?_
  refine x_reti rfl rfl ?_
  refine sK_i (pc' := 49) rfl ?_
  refine x_istore (pc' := 51) (ls' := [_, _, _, _, _, _, _, _, _, _, _]) rfl rfl rfl rfl ?_
  refine x_iload (pc' := 53) rfl rfl rfl ?_
  refine x_aload_n (pc' := 54) rfl rfl rfl rfl rfl ?_
  refine x_ifnonnull (a' := 61) (pc' := 57) rfl rfl rfl rfl (fun _ _ => ?_) (fun h => by cases h)
  refine x_aload_n (pc' := 62) rfl rfl rfl rfl rfl ?_
  refine x_aload (pc' := 64) rfl rfl rfl rfl rfl ?_
  refine x_cv (ls0 := [_, _, sJk]) (rest := [_]) rfl rfl rfl rfl rfl ?_
  refine x_aload_n (pc' := 1) rfl rfl rfl rfl rfl ?_
  refine x_gI (pc' := 4) (x := 1) rfl rfl rfl (kI_128_1 hc.1) ?_
  refine x_istore_n (pc' := 5) (ls' := [_, _, _]) rfl rfl rfl rfl ?_
  refine x_iload_n (pc' := 6) rfl rfl rfl ?_
  refine x_if (a' := 27) (pc' := 9) (z := false) rfl rfl rfl (by decide) (fun h => by cases h) (fun _ => ?_)
  refine x_iload_n (pc' := 10) rfl rfl rfl ?_
  refine x_aload_n (pc' := 11) rfl rfl rfl rfl rfl ?_
  refine x_gR (pc' := 14) (r := (some (o + 1))) rfl rfl rfl (kMp hc.1 ho).1 ?_
  refine x_alen (pc' := 15) (N := 3) rfl rfl rfl (kMp hc.1 ho).2.1 (?_ : X _ _ _ (.inl 3 :: _) _ _)
  refine x_icmp (a' := 27) (pc' := 18) (z := false) rfl rfl rfl (by decide) (fun h => by cases h) (fun _ => ?_)
  refine x_aload_n (pc' := 19) rfl rfl rfl rfl rfl ?_
  refine x_gR (pc' := 22) (r := (some (o + 1))) rfl rfl rfl (kMp hc.1 ho).1 ?_
  refine x_iload_n (pc' := 23) rfl rfl rfl ?_
  refine x_iald (pc' := 24) (N := 3) (x := (mA M 6 ((3 * o) + 1))) rfl rfl rfl (kMp hc.1 ho).2.1 (io_in (p := 1) (N := 3) (by decide) (by decide)) (Eq.trans (congrArg (sA t 20 (o + 1)) (nn_io (p := 1) (by decide))) (kP (m := o) (c := 1) hM ho (by decide))) ?_
  refine x_goto (pc' := 28) rfl rfl ?_
  refine x_reti rfl rfl ?_
  refine sK_i (pc' := 67) rfl ?_
  refine x_iadd (pc' := 68) (z := ((mA M 6 ((3 * m) + 1)) + (mA M 6 ((3 * o) + 1)))) rfl rfl rfl ?_
  refine x_istore (pc' := 70) (ls' := [_, _, _, _, _, _, _, _, _, _, _]) rfl rfl rfl rfl ?_
  refine x_iload (pc' := 72) rfl rfl rfl ?_
  refine x_iload (pc' := 74) rfl rfl rfl ?_
  refine x_aload_n (pc' := 75) rfl rfl rfl rfl rfl ?_
  refine x_iload (pc' := 77) rfl rfl rfl ?_
  refine x_aload (pc' := 79) rfl rfl rfl rfl rfl ?_
  refine x_gI (pc' := 82) (x := 1) rfl rfl rfl (kI_128_1 hc.1) ?_
  refine x_cv (ls0 := [_, _, _, sJk]) (rest := [_, _]) rfl rfl rfl rfl rfl ?_
  refine x_iload_n (pc' := 1) rfl rfl rfl ?_
  refine x_iconst (pc' := 2) rfl rfl ?_
  refine x_imul (pc' := 3) (z := 15) rfl rfl (by decide) ?_
  refine x_iload_n (pc' := 4) rfl rfl rfl ?_
  refine x_iadd (pc' := 5) (z := 16) rfl rfl (by decide) ?_
  refine x_istore_n (pc' := 6) (ls' := [_, _, _, _]) rfl rfl rfl rfl ?_
  refine x_iload_n (pc' := 7) rfl rfl rfl ?_
  refine x_if (a' := 28) (pc' := 10) (z := false) rfl rfl rfl (by decide) (fun h => by cases h) (fun _ => ?_)
  refine x_iload_n (pc' := 11) rfl rfl rfl ?_
  refine x_aload_n (pc' := 12) rfl rfl rfl rfl rfl ?_
  refine x_gR (pc' := 15) (r := (some 0)) rfl rfl rfl (kR_323_0 hc.1) ?_
  refine x_alen (pc' := 16) (N := 18) rfl rfl rfl (kN_20_0 hc.1) (?_ : X _ _ _ (.inl 18 :: _) _ _)
  refine x_icmp (a' := 28) (pc' := 19) (z := false) rfl rfl rfl (by decide) (fun h => by cases h) (fun _ => ?_)
  refine x_aload_n (pc' := 20) rfl rfl rfl rfl rfl ?_
  refine x_gR (pc' := 23) (r := (some 0)) rfl rfl rfl (kR_323_0 hc.1) ?_
  refine x_iload_n (pc' := 24) rfl rfl rfl ?_
  refine x_iald (pc' := 25) (N := 18) (x := (mA M 11 16)) rfl rfl rfl (kN_20_0 hc.1) (io_in (p := 16) (N := 18) (by decide) (by decide)) (Eq.trans (congrArg (sA t 20 0) (nn_io (p := 16) (by decide))) (kV hM (by decide))) ?_
  refine x_goto (pc' := 29) rfl rfl ?_
  refine x_reti rfl rfl ?_
  refine sK_i (pc' := 85) rfl ?_
  refine x_imul (pc' := 86) (z := (((mA M 6 ((3 * m) + 1)) + (mA M 6 ((3 * o) + 1))) * (mA M 11 16))) rfl rfl rfl ?_
  refine x_isub (pc' := 87) (z := ((0 - (((mA M 6 ((3 * m) + 0)) + (mA M 6 ((3 * o) + 0))) * (mA M 11 15))) - (((mA M 6 ((3 * m) + 1)) + (mA M 6 ((3 * o) + 1))) * (mA M 11 16)))) rfl rfl rfl ?_
  refine x_istore (pc' := 89) (ls' := [_, _, _, _, _, _, _, _, _, _, _]) rfl rfl rfl rfl ?_
  refine x_iinc (pc' := 92) (y := 2) (ls' := [_, _, _, _, _, _, _, _, _, _, _]) rfl rfl rfl rfl rfl ?_
  refine x_goto (pc' := 29) rfl rfl ?_
  refine x_iload (pc' := 31) rfl rfl rfl ?_
  refine x_iload (pc' := 33) rfl rfl rfl ?_
  refine x_icmp (a' := 95) (pc' := 36) (z := false) rfl rfl rfl (by decide) (fun h => by cases h) (fun _ => ?_)
  refine x_aload (pc' := 38) rfl rfl rfl rfl rfl ?_
  refine x_iload (pc' := 40) rfl rfl rfl ?_
  refine x_aald (pc' := 41) (N := 3) (k' := 2) (r := (some 2)) rfl rfl rfl (kN_25_0 hc.1) (io_in (p := 2) (N := 3) (by decide) (by decide)) (Eq.trans (congrArg (sE t 25 0) (nn_io (p := 2) (by decide))) (kK hc.1 (by decide))) ?_
  refine x_astore (pc' := 43) (ls' := [_, _, _, _, _, _, _, _, _, _, _]) rfl rfl rfl rfl rfl ?_
  refine x_aload_n (pc' := 44) rfl rfl rfl rfl rfl ?_
  refine x_aload (pc' := 46) rfl rfl rfl rfl rfl ?_
  refine x_cv (ls0 := [_, _, sJk]) (rest := []) rfl rfl rfl rfl rfl ?_
  refine x_aload_n (pc' := 1) rfl rfl rfl rfl rfl ?_
  refine x_gI (pc' := 4) (x := 2) rfl rfl rfl (kI_128_2 hc.1) ?_
  refine x_istore_n (pc' := 5) (ls' := [_, _, _]) rfl rfl rfl rfl ?_
  refine x_iload_n (pc' := 6) rfl rfl rfl ?_
  refine x_if (a' := 27) (pc' := 9) (z := false) rfl rfl rfl (by decide) (fun h => by cases h) (fun _ => ?_)
  refine x_iload_n (pc' := 10) rfl rfl rfl ?_
  refine x_aload_n (pc' := 11) rfl rfl rfl rfl rfl ?_
  refine x_gR (pc' := 14) (r := (some (m + 1))) rfl rfl rfl (kMp hc.1 hm).1 ?_
  refine x_alen (pc' := 15) (N := 3) rfl rfl rfl (kMp hc.1 hm).2.1 (?_ : X _ _ _ (.inl 3 :: _) _ _)
  refine x_icmp (a' := 27) (pc' := 18) (z := false) rfl rfl rfl (by decide) (fun h => by cases h) (fun _ => ?_)
  refine x_aload_n (pc' := 19) rfl rfl rfl rfl rfl ?_
  refine x_gR (pc' := 22) (r := (some (m + 1))) rfl rfl rfl (kMp hc.1 hm).1 ?_
  refine x_iload_n (pc' := 23) rfl rfl rfl ?_
  refine x_iald (pc' := 24) (N := 3) (x := (mA M 6 ((3 * m) + 2))) rfl rfl rfl (kMp hc.1 hm).2.1 (io_in (p := 2) (N := 3) (by decide) (by decide)) (Eq.trans (congrArg (sA t 20 (m + 1)) (nn_io (p := 2) (by decide))) (kP (m := m) (c := 2) hM hm (by decide))) ?_
  refine x_goto (pc' := 28) rfl rfl ?_
  refine x_reti rfl rfl ?_
  refine sK_i (pc' := 49) rfl ?_
  refine x_istore (pc' := 51) (ls' := [_, _, _, _, _, _, _, _, _, _, _]) rfl rfl rfl rfl ?_
  refine x_iload (pc' := 53) rfl rfl rfl ?_
  refine x_aload_n (pc' := 54) rfl rfl rfl rfl rfl ?_
  refine x_ifnonnull (a' := 61) (pc' := 57) rfl rfl rfl rfl (fun _ _ => ?_) (fun h => by cases h)
  refine x_aload_n (pc' := 62) rfl rfl rfl rfl rfl ?_
  refine x_aload (pc' := 64) rfl rfl rfl rfl rfl ?_
  refine x_cv (ls0 := [_, _, sJk]) (rest := [_]) rfl rfl rfl rfl rfl ?_
  refine x_aload_n (pc' := 1) rfl rfl rfl rfl rfl ?_
  refine x_gI (pc' := 4) (x := 2) rfl rfl rfl (kI_128_2 hc.1) ?_
  refine x_istore_n (pc' := 5) (ls' := [_, _, _]) rfl rfl rfl rfl ?_
  refine x_iload_n (pc' := 6) rfl rfl rfl ?_
  refine x_if (a' := 27) (pc' := 9) (z := false) rfl rfl rfl (by decide) (fun h => by cases h) (fun _ => ?_)
  refine x_iload_n (pc' := 10) rfl rfl rfl ?_
  refine x_aload_n (pc' := 11) rfl rfl rfl rfl rfl ?_
  refine x_gR (pc' := 14) (r := (some (o + 1))) rfl rfl rfl (kMp hc.1 ho).1 ?_
  refine x_alen (pc' := 15) (N := 3) rfl rfl rfl (kMp hc.1 ho).2.1 (?_ : X _ _ _ (.inl 3 :: _) _ _)
  refine x_icmp (a' := 27) (pc' := 18) (z := false) rfl rfl rfl (by decide) (fun h => by cases h) (fun _ => ?_)
  refine x_aload_n (pc' := 19) rfl rfl rfl rfl rfl ?_
  refine x_gR (pc' := 22) (r := (some (o + 1))) rfl rfl rfl (kMp hc.1 ho).1 ?_
  refine x_iload_n (pc' := 23) rfl rfl rfl ?_
  refine x_iald (pc' := 24) (N := 3) (x := (mA M 6 ((3 * o) + 2))) rfl rfl rfl (kMp hc.1 ho).2.1 (io_in (p := 2) (N := 3) (by decide) (by decide)) (Eq.trans (congrArg (sA t 20 (o + 1)) (nn_io (p := 2) (by decide))) (kP (m := o) (c := 2) hM ho (by decide))) ?_
  refine x_goto (pc' := 28) rfl rfl ?_
  refine x_reti rfl rfl ?_
  refine sK_i (pc' := 67) rfl ?_
  refine x_iadd (pc' := 68) (z := ((mA M 6 ((3 * m) + 2)) + (mA M 6 ((3 * o) + 2)))) rfl rfl rfl ?_
  refine x_istore (pc' := 70) (ls' := [_, _, _, _, _, _, _, _, _, _, _]) rfl rfl rfl rfl ?_
  refine x_iload (pc' := 72) rfl rfl rfl ?_
  refine x_iload (pc' := 74) rfl rfl rfl ?_
  refine x_aload_n (pc' := 75) rfl rfl rfl rfl rfl ?_
  refine x_iload (pc' := 77) rfl rfl rfl ?_
  refine x_aload (pc' := 79) rfl rfl rfl rfl rfl ?_
  refine x_gI (pc' := 82) (x := 2) rfl rfl rfl (kI_128_2 hc.1) ?_
  refine x_cv (ls0 := [_, _, _, sJk]) (rest := [_, _]) rfl rfl rfl rfl rfl ?_
  refine x_iload_n (pc' := 1) rfl rfl rfl ?_
  refine x_iconst (pc' := 2) rfl rfl ?_
  refine x_imul (pc' := 3) (z := 15) rfl rfl (by decide) ?_
  refine x_iload_n (pc' := 4) rfl rfl rfl ?_
  refine x_iadd (pc' := 5) (z := 17) rfl rfl (by decide) ?_
  refine x_istore_n (pc' := 6) (ls' := [_, _, _, _]) rfl rfl rfl rfl ?_
  refine x_iload_n (pc' := 7) rfl rfl rfl ?_
  refine x_if (a' := 28) (pc' := 10) (z := false) rfl rfl rfl (by decide) (fun h => by cases h) (fun _ => ?_)
  refine x_iload_n (pc' := 11) rfl rfl rfl ?_
  refine x_aload_n (pc' := 12) rfl rfl rfl rfl rfl ?_
  refine x_gR (pc' := 15) (r := (some 0)) rfl rfl rfl (kR_323_0 hc.1) ?_
  refine x_alen (pc' := 16) (N := 18) rfl rfl rfl (kN_20_0 hc.1) (?_ : X _ _ _ (.inl 18 :: _) _ _)
  refine x_icmp (a' := 28) (pc' := 19) (z := false) rfl rfl rfl (by decide) (fun h => by cases h) (fun _ => ?_)
  refine x_aload_n (pc' := 20) rfl rfl rfl rfl rfl ?_
  refine x_gR (pc' := 23) (r := (some 0)) rfl rfl rfl (kR_323_0 hc.1) ?_
  refine x_iload_n (pc' := 24) rfl rfl rfl ?_
  refine x_iald (pc' := 25) (N := 18) (x := (mA M 11 17)) rfl rfl rfl (kN_20_0 hc.1) (io_in (p := 17) (N := 18) (by decide) (by decide)) (Eq.trans (congrArg (sA t 20 0) (nn_io (p := 17) (by decide))) (kV hM (by decide))) ?_
  refine x_goto (pc' := 29) rfl rfl ?_
  refine x_reti rfl rfl ?_
  refine sK_i (pc' := 85) rfl ?_
  refine x_imul (pc' := 86) (z := (((mA M 6 ((3 * m) + 2)) + (mA M 6 ((3 * o) + 2))) * (mA M 11 17))) rfl rfl rfl ?_
  refine x_isub (pc' := 87) (z := (((0 - (((mA M 6 ((3 * m) + 0)) + (mA M 6 ((3 * o) + 0))) * (mA M 11 15))) - (((mA M 6 ((3 * m) + 1)) + (mA M 6 ((3 * o) + 1))) * (mA M 11 16))) - (((mA M 6 ((3 * m) + 2)) + (mA M 6 ((3 * o) + 2))) * (mA M 11 17)))) rfl rfl rfl ?_
  refine x_istore (pc' := 89) (ls' := [_, _, _, _, _, _, _, _, _, _, _]) rfl rfl rfl rfl ?_
  refine x_iinc (pc' := 92) (y := 3) (ls' := [_, _, _, _, _, _, _, _, _, _, _]) rfl rfl rfl rfl rfl ?_
  refine x_goto (pc' := 29) rfl rfl ?_
  refine x_iload (pc' := 31) rfl rfl rfl ?_
  refine x_iload (pc' := 33) rfl rfl rfl ?_
  refine x_icmp (a' := 95) (pc' := 36) (z := true) rfl rfl rfl (by decide) (fun _ => ?_) (fun h => by cases h)
  refine x_iload_n (pc' := 96) rfl rfl rfl ?_
  refine x_iload (pc' := 98) rfl rfl rfl ?_
  refine x_max (pc' := 101) (z := (mx (mx (mx (mx (mx (mx 0 (((0 - (((mA M 6 ((3 * m) + 0)) + (mA M 6 ((3 * o) + 0))) * (mA M 11 0))) - (((mA M 6 ((3 * m) + 1)) + (mA M 6 ((3 * o) + 1))) * (mA M 11 1))) - (((mA M 6 ((3 * m) + 2)) + (mA M 6 ((3 * o) + 2))) * (mA M 11 2)))) (((0 - (((mA M 6 ((3 * m) + 0)) + (mA M 6 ((3 * o) + 0))) * (mA M 11 3))) - (((mA M 6 ((3 * m) + 1)) + (mA M 6 ((3 * o) + 1))) * (mA M 11 4))) - (((mA M 6 ((3 * m) + 2)) + (mA M 6 ((3 * o) + 2))) * (mA M 11 5)))) (((0 - (((mA M 6 ((3 * m) + 0)) + (mA M 6 ((3 * o) + 0))) * (mA M 11 6))) - (((mA M 6 ((3 * m) + 1)) + (mA M 6 ((3 * o) + 1))) * (mA M 11 7))) - (((mA M 6 ((3 * m) + 2)) + (mA M 6 ((3 * o) + 2))) * (mA M 11 8)))) (((0 - (((mA M 6 ((3 * m) + 0)) + (mA M 6 ((3 * o) + 0))) * (mA M 11 9))) - (((mA M 6 ((3 * m) + 1)) + (mA M 6 ((3 * o) + 1))) * (mA M 11 10))) - (((mA M 6 ((3 * m) + 2)) + (mA M 6 ((3 * o) + 2))) * (mA M 11 11)))) (((0 - (((mA M 6 ((3 * m) + 0)) + (mA M 6 ((3 * o) + 0))) * (mA M 11 12))) - (((mA M 6 ((3 * m) + 1)) + (mA M 6 ((3 * o) + 1))) * (mA M 11 13))) - (((mA M 6 ((3 * m) + 2)) + (mA M 6 ((3 * o) + 2))) * (mA M 11 14)))) (((0 - (((mA M 6 ((3 * m) + 0)) + (mA M 6 ((3 * o) + 0))) * (mA M 11 15))) - (((mA M 6 ((3 * m) + 1)) + (mA M 6 ((3 * o) + 1))) * (mA M 11 16))) - (((mA M 6 ((3 * m) + 2)) + (mA M 6 ((3 * o) + 2))) * (mA M 11 17))))) rfl rfl rfl rfl ?_
  refine x_istore_n (pc' := 102) (ls' := [_, _, _, _, _, _, _, _, _, _, _]) rfl rfl rfl rfl ?_
  refine x_iinc (pc' := 105) (y := 6) (ls' := [_, _, _, _, _, _, _, _, _, _, _]) rfl rfl rfl rfl rfl ?_
  refine x_goto (pc' := 5) rfl rfl ?_
  refine x_iload (pc' := 7) rfl rfl rfl ?_
  refine x_bipush (pc' := 9) rfl rfl ?_
  refine x_icmp (a' := 108) (pc' := 12) (z := true) rfl rfl rfl (by decide) (fun _ => ?_) (fun h => by cases h)
  refine x_iload_n (pc' := 109) rfl rfl rfl ?_
  refine x_reti rfl rfl ?_
  exact q 
def cqS (M : sM) (n : Nat) (m : Nat) (c : Nat) (k : Nat) (a : Int32) : Int32 := (bif (decide (tK M k = c)) then (bif (mB M 7 k) then a else ((a + (bif (decide (tB M k = m)) then (mA M 25 k) else 0)) - (bif (decide (tS M k = m)) then (mA M 25 k) else 0))) else a)
def cqL (M : sM) (n : Nat) (m : Nat) (c : Nat) (a : Int32) : Nat → Int32
  | 0 => a
  | k + 1 => cqS M n m c k (cqL M n m c a k)
set_option maxHeartbeats 4000000 in
set_option maxRecDepth 10000 in
theorem c48_5_b {t : sT} {Q : sRs → sT → Prop} {M : sM} {n : Nat} {T : Nat} {k : Nat} {m : Nat} {c : Nat} {a : Int32} {d0 : sV}
    (hM : Rl t M n T)
    (hc : Sf t M n T)
    (hR : Ri M n)
    (hk : k < T)
    (hm : m < 6)
    (hc3 : c < 3)
    (q : ∀ (e0 : sV), X 48 5 [.inr (.inr (5, (some 0))), .inr (.inr (7, (some m))), .inr (.inr (2, (some c))), .inl (cqS M n m c k a), .inl (io (k + 1)), e0] [] t Q) :
    X 48 5 [.inr (.inr (5, (some 0))), .inr (.inr (7, (some m))), .inr (.inr (2, (some c))), .inl a, .inl (io k), d0] [] t Q := by
  refine x_iload (pc' := 7) rfl rfl rfl ?_
  refine x_aload_n (pc' := 8) rfl rfl rfl rfl rfl ?_
  refine x_gR (pc' := 11) (r := (some 0)) rfl rfl rfl (kR_322_0 hc.1) ?_
  refine x_cv (ls0 := [_]) (rest := [_]) rfl rfl rfl rfl rfl ?_
  refine x_aload_n (pc' := 1) rfl rfl rfl rfl rfl ?_
  refine x_gI (pc' := 4) (x := (io T)) rfl rfl rfl (Sf_T hc) ?_
  refine x_reti rfl rfl ?_
  refine sK_i (pc' := 14) rfl ?_
  refine x_icmp_n (a' := 96) (pc' := 17) (z := decide (k < T)) rfl rfl rfl (ic_gen (p := k) (q := T) (Nat.lt_trans hk (gT31 hc)) (gT31 hc)) (fun h => absurd hk (of_decide_eq_false h)) (fun _ => ?_)
  refine x_aload_n (pc' := 18) rfl rfl rfl rfl rfl ?_
  refine x_gR (pc' := 21) (r := (some 0)) rfl rfl rfl (kR_322_0 hc.1) ?_
  refine x_iload (pc' := 23) rfl rfl rfl ?_
  refine x_cv (ls0 := [_, _]) (rest := []) rfl rfl rfl rfl rfl ?_
  refine Sf_gT hc hk ?_
  refine sK_i (pc' := 26) rfl ?_
  refine x_cast (pc' := 29) rfl rfl rfl ?_
  refine x_astore (pc' := 31) (ls' := [_, _, _, _, _, _]) rfl rfl rfl rfl rfl ?_
  refine x_aload (pc' := 33) rfl rfl rfl rfl rfl ?_
  refine x_gR (pc' := 36) (r := (some (tK M k))) rfl rfl rfl (Sf_576 hc hk) ?_
  refine x_aload_n (pc' := 37) rfl rfl rfl rfl rfl ?_
  have J7 : X 48 90 [.inr (.inr (5, (some 0))), .inr (.inr (7, (some m))), .inr (.inr (2, (some c))), .inl (bif (decide (tK M k = c)) then (bif (mB M 7 k) then a else ((a + (bif (decide (tB M k = m)) then (mA M 25 k) else 0)) - (bif (decide (tS M k = m)) then (mA M 25 k) else 0))) else a), .inl (io k), .inr (.inr (9, (some k)))] [] t Q := by
    refine x_iinc (pc' := 93) (y := (io (k + 1))) (ls' := [_, _, _, _, _, _]) rfl rfl rfl (io_add k 1) rfl ?_
    refine x_goto (pc' := 5) rfl rfl ?_
    exact q (.inr (.inr (9, (some k))))
  refine x_acmp_nen (a' := 90) (pc' := 40) (z := decide (tK M k = c)) rfl rfl rfl rfl dec_some (fun q2 => ?_) (fun q2 => ?_)
  · ((try rw [q2] at J7); (try rw [q2]); (try simp only [cd_t, cd_f, nt_t, nt_f, an_t, an_f, or_t, or_f] at J7); (try simp only [cd_t, cd_f, nt_t, nt_f, an_t, an_f, or_t, or_f]); exact J7)
  · refine x_aload (pc' := 42) rfl rfl rfl rfl rfl ?_
    refine x_gZ (pc' := 45) (z := (mB M 7 k)) rfl rfl rfl (kZ hM rfl hk) ?_
    refine x_ifne_z (a' := 90) (pc' := 48) (z := (mB M 7 k)) rfl rfl rfl (fun q3 => ?_) (fun q3 => ?_)
    · ((try rw [q3] at J7); (try rw [q3]); (try rw [q2] at J7); (try rw [q2]); (try simp only [cd_t, cd_f, nt_t, nt_f, an_t, an_f, or_t, or_f] at J7); (try simp only [cd_t, cd_f, nt_t, nt_f, an_t, an_f, or_t, or_f]); exact J7)
    · refine x_iload_n (pc' := 49) rfl rfl rfl ?_
      refine x_aload (pc' := 51) rfl rfl rfl rfl rfl ?_
      refine x_gR (pc' := 54) (r := (some (tB M k))) rfl rfl rfl (Sf_577 hc hk) ?_
      refine x_aload_n (pc' := 55) rfl rfl rfl rfl rfl ?_
      have J4 : X 48 67 [.inr (.inr (5, (some 0))), .inr (.inr (7, (some m))), .inr (.inr (2, (some c))), .inl a, .inl (io k), .inr (.inr (9, (some k)))] [.inl (bif (decide (tB M k = m)) then (mA M 25 k) else 0), .inl a] t Q := by
        refine x_iadd (pc' := 68) (z := (a + (bif (decide (tB M k = m)) then (mA M 25 k) else 0))) rfl rfl rfl ?_
        refine x_istore_n (pc' := 69) (ls' := [_, _, _, _, _, _]) rfl rfl rfl rfl ?_
        refine x_iload_n (pc' := 70) rfl rfl rfl ?_
        refine x_aload (pc' := 72) rfl rfl rfl rfl rfl ?_
        refine x_gR (pc' := 75) (r := (some (tS M k))) rfl rfl rfl (Sf_578 hc hk) ?_
        refine x_aload_n (pc' := 76) rfl rfl rfl rfl rfl ?_
        have J6 : X 48 88 [.inr (.inr (5, (some 0))), .inr (.inr (7, (some m))), .inr (.inr (2, (some c))), .inl (a + (bif (decide (tB M k = m)) then (mA M 25 k) else 0)), .inl (io k), .inr (.inr (9, (some k)))] [.inl (bif (decide (tS M k = m)) then (mA M 25 k) else 0), .inl (a + (bif (decide (tB M k = m)) then (mA M 25 k) else 0))] t Q := by
          refine x_isub (pc' := 89) (z := ((a + (bif (decide (tB M k = m)) then (mA M 25 k) else 0)) - (bif (decide (tS M k = m)) then (mA M 25 k) else 0))) rfl rfl rfl ?_
          refine x_istore_n (pc' := 90) (ls' := [_, _, _, _, _, _]) rfl rfl rfl rfl ?_
          ((try rw [q3] at J7); (try rw [q3]); (try rw [q2] at J7); (try rw [q2]); (try simp only [cd_t, cd_f, nt_t, nt_f, an_t, an_f, or_t, or_f] at J7); (try simp only [cd_t, cd_f, nt_t, nt_f, an_t, an_f, or_t, or_f]); exact J7)
        refine x_acmp_nen (a' := 87) (pc' := 79) (z := decide (tS M k = m)) rfl rfl rfl rfl dec_some (fun q6 => ?_) (fun q6 => ?_)
        · refine x_iconst (pc' := 88) rfl rfl ?_
          ((try rw [q6] at J6); (try rw [q6]); (try simp only [cd_t, cd_f, nt_t, nt_f, an_t, an_f, or_t, or_f] at J6); (try simp only [cd_t, cd_f, nt_t, nt_f, an_t, an_f, or_t, or_f]); exact J6)
        · refine x_aload (pc' := 81) rfl rfl rfl rfl rfl ?_
          refine x_gI (pc' := 84) (x := (mA M 25 k)) rfl rfl rfl (kA hM rfl hk) ?_
          refine x_goto (pc' := 88) rfl rfl ?_
          ((try rw [q6] at J6); (try rw [q6]); (try simp only [cd_t, cd_f, nt_t, nt_f, an_t, an_f, or_t, or_f] at J6); (try simp only [cd_t, cd_f, nt_t, nt_f, an_t, an_f, or_t, or_f]); exact J6)
      refine x_acmp_nen (a' := 66) (pc' := 58) (z := decide (tB M k = m)) rfl rfl rfl rfl dec_some (fun q4 => ?_) (fun q4 => ?_)
      · refine x_iconst (pc' := 67) rfl rfl ?_
        ((try rw [q4] at J4); (try rw [q4]); (try simp only [cd_t, cd_f, nt_t, nt_f, an_t, an_f, or_t, or_f] at J4); (try simp only [cd_t, cd_f, nt_t, nt_f, an_t, an_f, or_t, or_f]); exact J4)
      · refine x_aload (pc' := 60) rfl rfl rfl rfl rfl ?_
        refine x_gI (pc' := 63) (x := (mA M 25 k)) rfl rfl rfl (kA hM rfl hk) ?_
        refine x_goto (pc' := 67) rfl rfl ?_
        ((try rw [q4] at J4); (try rw [q4]); (try simp only [cd_t, cd_f, nt_t, nt_f, an_t, an_f, or_t, or_f] at J4); (try simp only [cd_t, cd_f, nt_t, nt_f, an_t, an_f, or_t, or_f]); exact J4)
set_option maxHeartbeats 4000000 in
set_option maxRecDepth 10000 in
theorem c48_5 {t : sT} {Q : sRs → sT → Prop} {M : sM} {n : Nat} {T : Nat} {m : Nat} {c : Nat} {a : Int32} {d0 : sV}
    (hM : Rl t M n T)
    (hc : Sf t M n T)
    (hR : Ri M n)
    (hm : m < 6)
    (hc3 : c < 3)
    (q : ∀ (e0 : sV), X 48 5 [.inr (.inr (5, (some 0))), .inr (.inr (7, (some m))), .inr (.inr (2, (some c))), .inl (cqL M n m c a T), .inl (io T), e0] [] t Q) :
    X 48 5 [.inr (.inr (5, (some 0))), .inr (.inr (7, (some m))), .inr (.inr (2, (some c))), .inl a, .inl (io 0), d0] [] t Q := by
  refine lp0 (n := T) (fun k ls u => (∃ e0, ls = [.inr (.inr (5, (some 0))), .inr (.inr (7, (some m))), .inr (.inr (2, (some c))), .inl (cqL M n m c a k), .inl (io k), e0]) ∧ u = t) ⟨⟨_, rfl⟩, rfl⟩ ?_ ?_
  · rintro k ls u hk ⟨⟨e0, rfl⟩, rfl⟩ ih
    refine c48_5_b hM hc hR hk hm hc3 ?_
    intro x0'
    exact ih _ _ ⟨⟨_, rfl⟩, rfl⟩
  · rintro ls u ⟨⟨e0, rfl⟩, rfl⟩
    exact q e0
def cctF (M : sM) (n : Nat) : Int32 := ((((((0 + (bz (mB M 1 0))) + (bz (mB M 1 1))) + (bz (mB M 1 2))) + (bz (mB M 1 3))) + (bz (mB M 1 4))) + (bz (mB M 1 5)))
set_option maxHeartbeats 4000000 in
set_option maxRecDepth 10000 in
theorem c53 {t : sT} {Q : sRs → sT → Prop} {M : sM} {n : Nat} {T : Nat}
    (hM : Rl t M n T)
    (hc : Sf t M n T)
    (hR : Ri M n)
    (q : Q (.inl (some (.inl (cctF M n)))) t) :
    X 53 0 [.inr (.inr (5, (some 0))), sJk, sJk, sJk, sJk, sJk] [] t Q := by
  refine x_iconst (pc' := 1) rfl rfl ?_
  refine x_istore_n (pc' := 2) (ls' := [_, _, _, _, _, _]) rfl rfl rfl rfl ?_
  refine x_aload_n (pc' := 3) rfl rfl rfl rfl rfl ?_
  refine x_gR (pc' := 6) (r := (some 0)) rfl rfl rfl (kR_321_0 hc.1) ?_
  refine x_astore_n (pc' := 7) (ls' := [_, _, _, _, _, _]) rfl rfl rfl rfl rfl ?_
  refine x_aload_n (pc' := 8) rfl rfl rfl rfl rfl ?_
  refine x_alen (pc' := 9) (N := 6) rfl rfl rfl (kN_26_0 hc.1) (?_ : X _ _ _ (.inl 6 :: _) _ _)
  refine x_istore_n (pc' := 10) (ls' := [_, _, _, _, _, _]) rfl rfl rfl rfl ?_
  refine x_iconst (pc' := 11) rfl rfl ?_
  refine x_istore (pc' := 13) (ls' := [_, _, _, _, _, _]) rfl rfl rfl rfl ?_
  refine x_iload (pc' := 15) rfl rfl rfl ?_
  refine x_iload_n (pc' := 16) rfl rfl rfl ?_
  refine x_icmp (a' := 47) (pc' := 19) (z := false) rfl rfl rfl (by decide) (fun h => by cases h) (fun _ => ?_)
  refine x_aload_n (pc' := 20) rfl rfl rfl rfl rfl ?_
  refine x_iload (pc' := 22) rfl rfl rfl ?_
  refine x_aald (pc' := 23) (N := 6) (k' := 7) (r := (some 0)) rfl rfl rfl (kN_26_0 hc.1) (io_in (p := 0) (N := 6) (by decide) (by decide)) (Eq.trans (congrArg (sE t 26 0) (nn_io (p := 0) (by decide))) (kM hc.1 (by decide))) ?_
  refine x_astore (pc' := 25) (ls' := [_, _, _, _, _, _]) rfl rfl rfl rfl rfl ?_
  refine x_iload_n (pc' := 26) rfl rfl rfl ?_
  refine x_aload (pc' := 28) rfl rfl rfl rfl rfl ?_
  refine x_gZ (pc' := 31) (z := (mB M 1 0)) rfl rfl rfl (kZ hM rfl (show 0 < 6 by decide)) ?_
  have J2 : X 53 39 [.inr (.inr (5, (some 0))), .inl 0, .inr (.inr (26, (some 0))), .inl 6, .inl 0, .inr (.inr (7, (some 0)))] [.inl (bz (mB M 1 0)), .inl 0] t Q := by
    refine x_iadd (pc' := 40) (z := (0 + (bz (mB M 1 0)))) rfl rfl rfl ?_
    refine x_istore_n (pc' := 41) (ls' := [_, _, _, _, _, _]) rfl rfl rfl rfl ?_
    refine x_iinc (pc' := 44) (y := 1) (ls' := [_, _, _, _, _, _]) rfl rfl rfl rfl rfl ?_
    refine x_goto (pc' := 13) rfl rfl ?_
    refine x_iload (pc' := 15) rfl rfl rfl ?_
    refine x_iload_n (pc' := 16) rfl rfl rfl ?_
    refine x_icmp (a' := 47) (pc' := 19) (z := false) rfl rfl rfl (by decide) (fun h => by cases h) (fun _ => ?_)
    refine x_aload_n (pc' := 20) rfl rfl rfl rfl rfl ?_
    refine x_iload (pc' := 22) rfl rfl rfl ?_
    refine x_aald (pc' := 23) (N := 6) (k' := 7) (r := (some 1)) rfl rfl rfl (kN_26_0 hc.1) (io_in (p := 1) (N := 6) (by decide) (by decide)) (Eq.trans (congrArg (sE t 26 0) (nn_io (p := 1) (by decide))) (kM hc.1 (by decide))) ?_
    refine x_astore (pc' := 25) (ls' := [_, _, _, _, _, _]) rfl rfl rfl rfl rfl ?_
    refine x_iload_n (pc' := 26) rfl rfl rfl ?_
    refine x_aload (pc' := 28) rfl rfl rfl rfl rfl ?_
    refine x_gZ (pc' := 31) (z := (mB M 1 1)) rfl rfl rfl (kZ hM rfl (show 1 < 6 by decide)) ?_
    have J5 : X 53 39 [.inr (.inr (5, (some 0))), .inl (0 + (bz (mB M 1 0))), .inr (.inr (26, (some 0))), .inl 6, .inl 1, .inr (.inr (7, (some 1)))] [.inl (bz (mB M 1 1)), .inl (0 + (bz (mB M 1 0)))] t Q := by
      refine x_iadd (pc' := 40) (z := ((0 + (bz (mB M 1 0))) + (bz (mB M 1 1)))) rfl rfl rfl ?_
      refine x_istore_n (pc' := 41) (ls' := [_, _, _, _, _, _]) rfl rfl rfl rfl ?_
      refine x_iinc (pc' := 44) (y := 2) (ls' := [_, _, _, _, _, _]) rfl rfl rfl rfl rfl ?_
      refine x_goto (pc' := 13) rfl rfl ?_
      refine x_iload (pc' := 15) rfl rfl rfl ?_
      refine x_iload_n (pc' := 16) rfl rfl rfl ?_
      refine x_icmp (a' := 47) (pc' := 19) (z := false) rfl rfl rfl (by decide) (fun h => by cases h) (fun _ => ?_)
      refine x_aload_n (pc' := 20) rfl rfl rfl rfl rfl ?_
      refine x_iload (pc' := 22) rfl rfl rfl ?_
      refine x_aald (pc' := 23) (N := 6) (k' := 7) (r := (some 2)) rfl rfl rfl (kN_26_0 hc.1) (io_in (p := 2) (N := 6) (by decide) (by decide)) (Eq.trans (congrArg (sE t 26 0) (nn_io (p := 2) (by decide))) (kM hc.1 (by decide))) ?_
      refine x_astore (pc' := 25) (ls' := [_, _, _, _, _, _]) rfl rfl rfl rfl rfl ?_
      refine x_iload_n (pc' := 26) rfl rfl rfl ?_
      refine x_aload (pc' := 28) rfl rfl rfl rfl rfl ?_
      refine x_gZ (pc' := 31) (z := (mB M 1 2)) rfl rfl rfl (kZ hM rfl (show 2 < 6 by decide)) ?_
      have J8 : X 53 39 [.inr (.inr (5, (some 0))), .inl ((0 + (bz (mB M 1 0))) + (bz (mB M 1 1))), .inr (.inr (26, (some 0))), .inl 6, .inl 2, .inr (.inr (7, (some 2)))] [.inl (bz (mB M 1 2)), .inl ((0 + (bz (mB M 1 0))) + (bz (mB M 1 1)))] t Q := by
        refine x_iadd (pc' := 40) (z := (((0 + (bz (mB M 1 0))) + (bz (mB M 1 1))) + (bz (mB M 1 2)))) rfl rfl rfl ?_
        refine x_istore_n (pc' := 41) (ls' := [_, _, _, _, _, _]) rfl rfl rfl rfl ?_
        refine x_iinc (pc' := 44) (y := 3) (ls' := [_, _, _, _, _, _]) rfl rfl rfl rfl rfl ?_
        refine x_goto (pc' := 13) rfl rfl ?_
        refine x_iload (pc' := 15) rfl rfl rfl ?_
        refine x_iload_n (pc' := 16) rfl rfl rfl ?_
        refine x_icmp (a' := 47) (pc' := 19) (z := false) rfl rfl rfl (by decide) (fun h => by cases h) (fun _ => ?_)
        refine x_aload_n (pc' := 20) rfl rfl rfl rfl rfl ?_
        refine x_iload (pc' := 22) rfl rfl rfl ?_
        refine x_aald (pc' := 23) (N := 6) (k' := 7) (r := (some 3)) rfl rfl rfl (kN_26_0 hc.1) (io_in (p := 3) (N := 6) (by decide) (by decide)) (Eq.trans (congrArg (sE t 26 0) (nn_io (p := 3) (by decide))) (kM hc.1 (by decide))) ?_
        refine x_astore (pc' := 25) (ls' := [_, _, _, _, _, _]) rfl rfl rfl rfl rfl ?_
        refine x_iload_n (pc' := 26) rfl rfl rfl ?_
        refine x_aload (pc' := 28) rfl rfl rfl rfl rfl ?_
        refine x_gZ (pc' := 31) (z := (mB M 1 3)) rfl rfl rfl (kZ hM rfl (show 3 < 6 by decide)) ?_
        have J11 : X 53 39 [.inr (.inr (5, (some 0))), .inl (((0 + (bz (mB M 1 0))) + (bz (mB M 1 1))) + (bz (mB M 1 2))), .inr (.inr (26, (some 0))), .inl 6, .inl 3, .inr (.inr (7, (some 3)))] [.inl (bz (mB M 1 3)), .inl (((0 + (bz (mB M 1 0))) + (bz (mB M 1 1))) + (bz (mB M 1 2)))] t Q := by
          refine x_iadd (pc' := 40) (z := ((((0 + (bz (mB M 1 0))) + (bz (mB M 1 1))) + (bz (mB M 1 2))) + (bz (mB M 1 3)))) rfl rfl rfl ?_
          refine x_istore_n (pc' := 41) (ls' := [_, _, _, _, _, _]) rfl rfl rfl rfl ?_
          refine x_iinc (pc' := 44) (y := 4) (ls' := [_, _, _, _, _, _]) rfl rfl rfl rfl rfl ?_
          refine x_goto (pc' := 13) rfl rfl ?_
          refine x_iload (pc' := 15) rfl rfl rfl ?_
          refine x_iload_n (pc' := 16) rfl rfl rfl ?_
          refine x_icmp (a' := 47) (pc' := 19) (z := false) rfl rfl rfl (by decide) (fun h => by cases h) (fun _ => ?_)
          refine x_aload_n (pc' := 20) rfl rfl rfl rfl rfl ?_
          refine x_iload (pc' := 22) rfl rfl rfl ?_
          refine x_aald (pc' := 23) (N := 6) (k' := 7) (r := (some 4)) rfl rfl rfl (kN_26_0 hc.1) (io_in (p := 4) (N := 6) (by decide) (by decide)) (Eq.trans (congrArg (sE t 26 0) (nn_io (p := 4) (by decide))) (kM hc.1 (by decide))) ?_
          refine x_astore (pc' := 25) (ls' := [_, _, _, _, _, _]) rfl rfl rfl rfl rfl ?_
          refine x_iload_n (pc' := 26) rfl rfl rfl ?_
          refine x_aload (pc' := 28) rfl rfl rfl rfl rfl ?_
          refine x_gZ (pc' := 31) (z := (mB M 1 4)) rfl rfl rfl (kZ hM rfl (show 4 < 6 by decide)) ?_
          have J14 : X 53 39 [.inr (.inr (5, (some 0))), .inl ((((0 + (bz (mB M 1 0))) + (bz (mB M 1 1))) + (bz (mB M 1 2))) + (bz (mB M 1 3))), .inr (.inr (26, (some 0))), .inl 6, .inl 4, .inr (.inr (7, (some 4)))] [.inl (bz (mB M 1 4)), .inl ((((0 + (bz (mB M 1 0))) + (bz (mB M 1 1))) + (bz (mB M 1 2))) + (bz (mB M 1 3)))] t Q := by
            refine x_iadd (pc' := 40) (z := (((((0 + (bz (mB M 1 0))) + (bz (mB M 1 1))) + (bz (mB M 1 2))) + (bz (mB M 1 3))) + (bz (mB M 1 4)))) rfl rfl rfl ?_
            refine x_istore_n (pc' := 41) (ls' := [_, _, _, _, _, _]) rfl rfl rfl rfl ?_
            refine x_iinc (pc' := 44) (y := 5) (ls' := [_, _, _, _, _, _]) rfl rfl rfl rfl rfl ?_
            refine x_goto (pc' := 13) rfl rfl ?_
            refine x_iload (pc' := 15) rfl rfl rfl ?_
            refine x_iload_n (pc' := 16) rfl rfl rfl ?_
            refine x_icmp (a' := 47) (pc' := 19) (z := false) rfl rfl rfl (by decide) (fun h => by cases h) (fun _ => ?_)
            refine x_aload_n (pc' := 20) rfl rfl rfl rfl rfl ?_
            refine x_iload (pc' := 22) rfl rfl rfl ?_
            refine x_aald (pc' := 23) (N := 6) (k' := 7) (r := (some 5)) rfl rfl rfl (kN_26_0 hc.1) (io_in (p := 5) (N := 6) (by decide) (by decide)) (Eq.trans (congrArg (sE t 26 0) (nn_io (p := 5) (by decide))) (kM hc.1 (by decide))) ?_
            refine x_astore (pc' := 25) (ls' := [_, _, _, _, _, _]) rfl rfl rfl rfl rfl ?_
            refine x_iload_n (pc' := 26) rfl rfl rfl ?_
            refine x_aload (pc' := 28) rfl rfl rfl rfl rfl ?_
            refine x_gZ (pc' := 31) (z := (mB M 1 5)) rfl rfl rfl (kZ hM rfl (show 5 < 6 by decide)) ?_
            have J17 : X 53 39 [.inr (.inr (5, (some 0))), .inl (((((0 + (bz (mB M 1 0))) + (bz (mB M 1 1))) + (bz (mB M 1 2))) + (bz (mB M 1 3))) + (bz (mB M 1 4))), .inr (.inr (26, (some 0))), .inl 6, .inl 5, .inr (.inr (7, (some 5)))] [.inl (bz (mB M 1 5)), .inl (((((0 + (bz (mB M 1 0))) + (bz (mB M 1 1))) + (bz (mB M 1 2))) + (bz (mB M 1 3))) + (bz (mB M 1 4)))] t Q := by
              refine x_iadd (pc' := 40) (z := ((((((0 + (bz (mB M 1 0))) + (bz (mB M 1 1))) + (bz (mB M 1 2))) + (bz (mB M 1 3))) + (bz (mB M 1 4))) + (bz (mB M 1 5)))) rfl rfl rfl ?_
              refine x_istore_n (pc' := 41) (ls' := [_, _, _, _, _, _]) rfl rfl rfl rfl ?_
              refine x_iinc (pc' := 44) (y := 6) (ls' := [_, _, _, _, _, _]) rfl rfl rfl rfl rfl ?_
              refine x_goto (pc' := 13) rfl rfl ?_
              refine x_iload (pc' := 15) rfl rfl rfl ?_
              refine x_iload_n (pc' := 16) rfl rfl rfl ?_
              refine x_icmp (a' := 47) (pc' := 19) (z := true) rfl rfl rfl (by decide) (fun _ => ?_) (fun h => by cases h)
              refine x_iload_n (pc' := 48) rfl rfl rfl ?_
              refine x_reti rfl rfl ?_
              exact q 
            refine x_ifeq_z (a' := 38) (pc' := 34) (z := (mB M 1 5)) rfl rfl rfl (fun q17 => ?_) (fun q17 => ?_)
            · refine x_iconst (pc' := 39) rfl rfl ?_
              ((try rw [q17] at J17); (try rw [q17]); (try simp only [cd_t, cd_f, nt_t, nt_f, an_t, an_f, or_t, or_f] at J17); (try simp only [cd_t, cd_f, nt_t, nt_f, an_t, an_f, or_t, or_f]); exact J17)
            · refine x_iconst (pc' := 35) rfl rfl ?_
              refine x_goto (pc' := 39) rfl rfl ?_
              ((try rw [q17] at J17); (try rw [q17]); (try simp only [cd_t, cd_f, nt_t, nt_f, an_t, an_f, or_t, or_f] at J17); (try simp only [cd_t, cd_f, nt_t, nt_f, an_t, an_f, or_t, or_f]); exact J17)
          refine x_ifeq_z (a' := 38) (pc' := 34) (z := (mB M 1 4)) rfl rfl rfl (fun q14 => ?_) (fun q14 => ?_)
          · refine x_iconst (pc' := 39) rfl rfl ?_
            ((try rw [q14] at J14); (try rw [q14]); (try simp only [cd_t, cd_f, nt_t, nt_f, an_t, an_f, or_t, or_f] at J14); (try simp only [cd_t, cd_f, nt_t, nt_f, an_t, an_f, or_t, or_f]); exact J14)
          · refine x_iconst (pc' := 35) rfl rfl ?_
            refine x_goto (pc' := 39) rfl rfl ?_
            ((try rw [q14] at J14); (try rw [q14]); (try simp only [cd_t, cd_f, nt_t, nt_f, an_t, an_f, or_t, or_f] at J14); (try simp only [cd_t, cd_f, nt_t, nt_f, an_t, an_f, or_t, or_f]); exact J14)
        refine x_ifeq_z (a' := 38) (pc' := 34) (z := (mB M 1 3)) rfl rfl rfl (fun q11 => ?_) (fun q11 => ?_)
        · refine x_iconst (pc' := 39) rfl rfl ?_
          ((try rw [q11] at J11); (try rw [q11]); (try simp only [cd_t, cd_f, nt_t, nt_f, an_t, an_f, or_t, or_f] at J11); (try simp only [cd_t, cd_f, nt_t, nt_f, an_t, an_f, or_t, or_f]); exact J11)
        · refine x_iconst (pc' := 35) rfl rfl ?_
          refine x_goto (pc' := 39) rfl rfl ?_
          ((try rw [q11] at J11); (try rw [q11]); (try simp only [cd_t, cd_f, nt_t, nt_f, an_t, an_f, or_t, or_f] at J11); (try simp only [cd_t, cd_f, nt_t, nt_f, an_t, an_f, or_t, or_f]); exact J11)
      refine x_ifeq_z (a' := 38) (pc' := 34) (z := (mB M 1 2)) rfl rfl rfl (fun q8 => ?_) (fun q8 => ?_)
      · refine x_iconst (pc' := 39) rfl rfl ?_
        ((try rw [q8] at J8); (try rw [q8]); (try simp only [cd_t, cd_f, nt_t, nt_f, an_t, an_f, or_t, or_f] at J8); (try simp only [cd_t, cd_f, nt_t, nt_f, an_t, an_f, or_t, or_f]); exact J8)
      · refine x_iconst (pc' := 35) rfl rfl ?_
        refine x_goto (pc' := 39) rfl rfl ?_
        ((try rw [q8] at J8); (try rw [q8]); (try simp only [cd_t, cd_f, nt_t, nt_f, an_t, an_f, or_t, or_f] at J8); (try simp only [cd_t, cd_f, nt_t, nt_f, an_t, an_f, or_t, or_f]); exact J8)
    refine x_ifeq_z (a' := 38) (pc' := 34) (z := (mB M 1 1)) rfl rfl rfl (fun q5 => ?_) (fun q5 => ?_)
    · refine x_iconst (pc' := 39) rfl rfl ?_
      ((try rw [q5] at J5); (try rw [q5]); (try simp only [cd_t, cd_f, nt_t, nt_f, an_t, an_f, or_t, or_f] at J5); (try simp only [cd_t, cd_f, nt_t, nt_f, an_t, an_f, or_t, or_f]); exact J5)
    · refine x_iconst (pc' := 35) rfl rfl ?_
      refine x_goto (pc' := 39) rfl rfl ?_
      ((try rw [q5] at J5); (try rw [q5]); (try simp only [cd_t, cd_f, nt_t, nt_f, an_t, an_f, or_t, or_f] at J5); (try simp only [cd_t, cd_f, nt_t, nt_f, an_t, an_f, or_t, or_f]); exact J5)
  refine x_ifeq_z (a' := 38) (pc' := 34) (z := (mB M 1 0)) rfl rfl rfl (fun q2 => ?_) (fun q2 => ?_)
  · refine x_iconst (pc' := 39) rfl rfl ?_
    ((try rw [q2] at J2); (try rw [q2]); (try simp only [cd_t, cd_f, nt_t, nt_f, an_t, an_f, or_t, or_f] at J2); (try simp only [cd_t, cd_f, nt_t, nt_f, an_t, an_f, or_t, or_f]); exact J2)
  · refine x_iconst (pc' := 35) rfl rfl ?_
    refine x_goto (pc' := 39) rfl rfl ?_
    ((try rw [q2] at J2); (try rw [q2]); (try simp only [cd_t, cd_f, nt_t, nt_f, an_t, an_f, or_t, or_f] at J2); (try simp only [cd_t, cd_f, nt_t, nt_f, an_t, an_f, or_t, or_f]); exact J2)
