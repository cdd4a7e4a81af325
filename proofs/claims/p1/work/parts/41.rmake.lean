/-! the reference's trades (printed by refgen.py) -/
theorem lt_bif {z : Bool} {a b N : Nat} (h1 : a < N) (h2 : b < N) : (bif z then a else b) < N := by cases z; exact h2; exact h1
def mkF (M : sM) (T : Nat) (c : Nat) (m : Nat) (o : Nat) (p : Int32) (a : Int32) (s : Bool) : sM := (mAw (mAw (mAw (mAw (mAw (mIw (mBw (mAw (mAw (mAw (mAw (mAw M 21 T (io c)) 22 T (io m)) 23 T (io o)) 24 T p) 25 T a) 7 T false) 801 (io (T + 1))) 6 ((3 * m) + c) ((mA M 6 ((3 * m) + c)) + a)) 6 ((3 * o) + c) ((mA (mAw (mIw (mBw (mAw (mAw (mAw (mAw (mAw M 21 T (io c)) 22 T (io m)) 23 T (io o)) 24 T p) 25 T a) 7 T false) 801 (io (T + 1))) 6 ((3 * m) + c) ((mA M 6 ((3 * m) + c)) + a)) 6 ((3 * o) + c)) - a)) 5 m ((mA M 5 m) - (p * a))) 5 o ((mA (mAw (mAw (mAw (mIw (mBw (mAw (mAw (mAw (mAw (mAw M 21 T (io c)) 22 T (io m)) 23 T (io o)) 24 T p) 25 T a) 7 T false) 801 (io (T + 1))) 6 ((3 * m) + c) ((mA M 6 ((3 * m) + c)) + a)) 6 ((3 * o) + c) ((mA (mAw (mIw (mBw (mAw (mAw (mAw (mAw (mAw M 21 T (io c)) 22 T (io m)) 23 T (io o)) 24 T p) 25 T a) 7 T false) 801 (io (T + 1))) 6 ((3 * m) + c) ((mA M 6 ((3 * m) + c)) + a)) 6 ((3 * o) + c)) - a)) 5 m ((mA M 5 m) - (p * a))) 5 o) + (p * a))) 1 c (bif s then p else (mA M 1 c)))
theorem Fr_mkF {M M0 : sM} {T : Nat} {c : Nat} {m : Nat} {o : Nat} {p : Int32} {a : Int32} {s : Bool} (fr : Fr M M0) : Fr (mkF M T c m o p a s) M0 := (Fr_A rfl (Fr_A rfl (Fr_A rfl (Fr_A rfl (Fr_A rfl (Fr_I rfl (Fr_B rfl (Fr_A rfl (Fr_A rfl (Fr_A rfl (Fr_A rfl (Fr_A rfl fr))))))))))))
set_option maxHeartbeats 4000000 in
set_option maxRecDepth 10000 in
theorem r162 {t : sT} {Q : sRs → sT → Prop} {M : sM} {n : Nat} {T : Nat} {c : Nat} {m : Nat} {o : Nat} {p : Int32} {a : Int32} {s : Bool}
    (hM : rp t = M)
    (hc : Cn t)
    (hR : Ri M n)
    (hT : mI M 801 = io T)
    (hT4 : T < 4096)
    (hc3 : c < 3)
    (hm : m < 6)
    (ho : o < 6)
    (q : ∀ t', rp t' = mkF M T c m o p a s → cp t' = cp t → sp t' = sp t → Q (.inl none) t') :
    X 162 0 [.inr (.inr (12, (some 0))), .inl (io c), .inl (io m), .inl (io o), .inl p, .inl a, .inl (bz s)] [] t Q := by
  refine x_aload_n (pc' := 1) rfl rfl rfl rfl rfl ?_
  refine x_gR (pc' := 4) (r := (some 21)) rfl rfl rfl (kR_802_0 hc) ?_
  refine x_aload_n (pc' := 5) rfl rfl rfl rfl rfl ?_
  refine x_gI (pc' := 8) (x := (io T)) rfl rfl rfl ((gI hM rfl).trans hT) ?_
  refine x_iload_n (pc' := 9) rfl rfl rfl ?_
  refine x_iast (pc' := 10) (N := 4096) (p := T) rfl rfl rfl (kN_21_21 hc) (io_in (p := T) (N := 4096) hT4 (by decide)) (nn_io (p := T) (Nat.lt_trans hT4 (by decide))) ?_
  refine x_aload_n (pc' := 11) rfl rfl rfl rfl rfl ?_
  refine x_gR (pc' := 14) (r := (some 22)) rfl rfl rfl (Eq.trans (b := sR t 803 0) rfl (kR_803_0 hc)) ?_
  refine x_aload_n (pc' := 15) rfl rfl rfl rfl rfl ?_
  refine x_gI (pc' := 18) (x := (io T)) rfl rfl rfl (Eq.trans (b := sI t 801 0) rfl ((gI hM rfl).trans hT)) ?_
  refine x_iload_n (pc' := 19) rfl rfl rfl ?_
  refine x_iast (pc' := 20) (N := 4096) (p := T) rfl rfl rfl (Eq.trans rdNA (kN_21_22 hc)) (io_in (p := T) (N := 4096) hT4 (by decide)) (nn_io (p := T) (Nat.lt_trans hT4 (by decide))) ?_
  refine x_aload_n (pc' := 21) rfl rfl rfl rfl rfl ?_
  refine x_gR (pc' := 24) (r := (some 23)) rfl rfl rfl (Eq.trans (b := sR t 804 0) rfl (kR_804_0 hc)) ?_
  refine x_aload_n (pc' := 25) rfl rfl rfl rfl rfl ?_
  refine x_gI (pc' := 28) (x := (io T)) rfl rfl rfl (Eq.trans (b := sI t 801 0) rfl ((gI hM rfl).trans hT)) ?_
  refine x_iload_n (pc' := 29) rfl rfl rfl ?_
  refine x_iast (pc' := 30) (N := 4096) (p := T) rfl rfl rfl (Eq.trans rdNA (Eq.trans rdNA (kN_21_23 hc))) (io_in (p := T) (N := 4096) hT4 (by decide)) (nn_io (p := T) (Nat.lt_trans hT4 (by decide))) ?_
  refine x_aload_n (pc' := 31) rfl rfl rfl rfl rfl ?_
  refine x_gR (pc' := 34) (r := (some 24)) rfl rfl rfl (Eq.trans (b := sR t 805 0) rfl (kR_805_0 hc)) ?_
  refine x_aload_n (pc' := 35) rfl rfl rfl rfl rfl ?_
  refine x_gI (pc' := 38) (x := (io T)) rfl rfl rfl (Eq.trans (b := sI t 801 0) rfl ((gI hM rfl).trans hT)) ?_
  refine x_iload (pc' := 40) rfl rfl rfl ?_
  refine x_iast (pc' := 41) (N := 4096) (p := T) rfl rfl rfl (Eq.trans rdNA (Eq.trans rdNA (Eq.trans rdNA (kN_21_24 hc)))) (io_in (p := T) (N := 4096) hT4 (by decide)) (nn_io (p := T) (Nat.lt_trans hT4 (by decide))) ?_
  refine x_aload_n (pc' := 42) rfl rfl rfl rfl rfl ?_
  refine x_gR (pc' := 45) (r := (some 25)) rfl rfl rfl (Eq.trans (b := sR t 806 0) rfl (kR_806_0 hc)) ?_
  refine x_aload_n (pc' := 46) rfl rfl rfl rfl rfl ?_
  refine x_gI (pc' := 49) (x := (io T)) rfl rfl rfl (Eq.trans (b := sI t 801 0) rfl ((gI hM rfl).trans hT)) ?_
  refine x_iload (pc' := 51) rfl rfl rfl ?_
  refine x_iast (pc' := 52) (N := 4096) (p := T) rfl rfl rfl (Eq.trans rdNA (Eq.trans rdNA (Eq.trans rdNA (Eq.trans rdNA (kN_21_25 hc))))) (io_in (p := T) (N := 4096) hT4 (by decide)) (nn_io (p := T) (Nat.lt_trans hT4 (by decide))) ?_
  refine x_aload_n (pc' := 53) rfl rfl rfl rfl rfl ?_
  refine x_gR (pc' := 56) (r := (some 7)) rfl rfl rfl (Eq.trans (b := sR t 807 0) rfl (kR_807_0 hc)) ?_
  refine x_aload_n (pc' := 57) rfl rfl rfl rfl rfl ?_
  refine x_gI (pc' := 60) (x := (io T)) rfl rfl rfl (Eq.trans (b := sI t 801 0) rfl ((gI hM rfl).trans hT)) ?_
  refine x_iconst (pc' := 61) rfl rfl ?_
  refine x_bast (pc' := 62) (N := 4096) (p := T) (z := false) rfl rfl (Eq.trans rdNA (Eq.trans rdNA (Eq.trans rdNA (Eq.trans rdNA (Eq.trans rdNA (kN_22_7 hc)))))) (io_in (p := T) (N := 4096) hT4 (by decide)) (nn_io (p := T) (Nat.lt_trans hT4 (by decide))) rfl ?_
  refine x_aload_n (pc' := 63) rfl rfl rfl rfl rfl ?_
  refine x_dup (pc' := 64) rfl rfl rfl ?_
  refine x_gI (pc' := 67) (x := (io T)) rfl rfl rfl (Eq.trans (b := sI t 801 0) rfl ((gI hM rfl).trans hT)) ?_
  refine x_iconst (pc' := 68) rfl rfl ?_
  refine x_iadd (pc' := 69) (z := (io (T + 1))) rfl rfl (io_add T 1) ?_
  refine x_pI (pc' := 72) rfl rfl rfl ?_
  refine x_aload_n (pc' := 73) rfl rfl rfl rfl rfl ?_
  refine x_iload_n (pc' := 74) rfl rfl rfl ?_
  refine x_iload_n (pc' := 75) rfl rfl rfl ?_
  refine x_iload_n (pc' := 76) rfl rfl rfl ?_
  refine x_iload (pc' := 78) rfl rfl rfl ?_
  refine x_iload (pc' := 80) rfl rfl rfl ?_
  refine x_cv (ls0 := [_, _, _, _, _, _]) (rest := []) rfl rfl rfl rfl rfl ?_
  refine x_aload_n (pc' := 1) rfl rfl rfl rfl rfl ?_
  refine x_gR (pc' := 4) (r := (some 6)) rfl rfl rfl (Eq.trans (b := sR t 776 0) rfl (kR_776_0 hc)) ?_
  refine x_iconst (pc' := 5) rfl rfl ?_
  refine x_iload_n (pc' := 6) rfl rfl rfl ?_
  refine x_imul (pc' := 7) (z := (io (3 * m))) rfl rfl (io_mul 3 m) ?_
  refine x_iload_n (pc' := 8) rfl rfl rfl ?_
  refine x_iadd (pc' := 9) (z := (io ((3 * m) + c))) rfl rfl (io_add (3 * m) c) ?_
  refine x_dup2 (pc' := 10) rfl rfl rfl rfl ?_
  refine x_iald (pc' := 11) (N := 18) (x := (mA M 6 ((3 * m) + c))) rfl rfl rfl (Eq.trans rdNI (Eq.trans rdNB (Eq.trans rdNA (Eq.trans rdNA (Eq.trans rdNA (Eq.trans rdNA (Eq.trans rdNA (kN_21_6 hc)))))))) (io_in (p := ((3 * m) + c)) (N := 18) (show ((3 * m) + c) < 18 by omega) (by decide)) (Eq.trans (congrArg (sA (sIw (sBw (sAw (sAw (sAw (sAw (sAw t 21 21 T (io c)) 21 22 T (io m)) 21 23 T (io o)) 21 24 T p) 21 25 T a) 22 7 T false) 801 0 (io (T + 1))) 21 6) (nn_io (p := ((3 * m) + c)) (Nat.lt_trans (show ((3 * m) + c) < 18 by omega) (by decide)))) (Eq.trans (b := sA t 21 6 ((3 * m) + c)) rfl (gA hM rfl))) ?_
  refine x_iload (pc' := 13) rfl rfl rfl ?_
  refine x_iadd (pc' := 14) (z := ((mA M 6 ((3 * m) + c)) + a)) rfl rfl rfl ?_
  refine x_iast (pc' := 15) (N := 18) (p := ((3 * m) + c)) rfl rfl rfl (Eq.trans rdNI (Eq.trans rdNB (Eq.trans rdNA (Eq.trans rdNA (Eq.trans rdNA (Eq.trans rdNA (Eq.trans rdNA (kN_21_6 hc)))))))) (io_in (p := ((3 * m) + c)) (N := 18) (show ((3 * m) + c) < 18 by omega) (by decide)) (nn_io (p := ((3 * m) + c)) (Nat.lt_trans (show ((3 * m) + c) < 18 by omega) (by decide))) ?_
  refine x_aload_n (pc' := 16) rfl rfl rfl rfl rfl ?_
  refine x_gR (pc' := 19) (r := (some 6)) rfl rfl rfl (Eq.trans (b := sR t 776 0) rfl (kR_776_0 hc)) ?_
  refine x_iconst (pc' := 20) rfl rfl ?_
  refine x_iload_n (pc' := 21) rfl rfl rfl ?_
  refine x_imul (pc' := 22) (z := (io (3 * o))) rfl rfl (io_mul 3 o) ?_
  refine x_iload_n (pc' := 23) rfl rfl rfl ?_
  refine x_iadd (pc' := 24) (z := (io ((3 * o) + c))) rfl rfl (io_add (3 * o) c) ?_
  refine x_dup2 (pc' := 25) rfl rfl rfl rfl ?_
  refine x_iald (pc' := 26) (N := 18) (x := (mA (mAw (mIw (mBw (mAw (mAw (mAw (mAw (mAw M 21 T (io c)) 22 T (io m)) 23 T (io o)) 24 T p) 25 T a) 7 T false) 801 (io (T + 1))) 6 ((3 * m) + c) ((mA M 6 ((3 * m) + c)) + a)) 6 ((3 * o) + c))) rfl rfl rfl (Eq.trans rdNA (Eq.trans rdNI (Eq.trans rdNB (Eq.trans rdNA (Eq.trans rdNA (Eq.trans rdNA (Eq.trans rdNA (Eq.trans rdNA (kN_21_6 hc))))))))) (io_in (p := ((3 * o) + c)) (N := 18) (show ((3 * o) + c) < 18 by omega) (by decide)) (Eq.trans (congrArg (sA (sAw (sIw (sBw (sAw (sAw (sAw (sAw (sAw t 21 21 T (io c)) 21 22 T (io m)) 21 23 T (io o)) 21 24 T p) 21 25 T a) 22 7 T false) 801 0 (io (T + 1))) 21 6 ((3 * m) + c) ((mA M 6 ((3 * m) + c)) + a)) 21 6) (nn_io (p := ((3 * o) + c)) (Nat.lt_trans (show ((3 * o) + c) < 18 by omega) (by decide)))) (gA ((rp_A rfl).trans (congrArg (fun z => mAw z 6 ((3 * m) + c) ((mA M 6 ((3 * m) + c)) + a)) ((rp_I rfl).trans (congrArg (fun z => mIw z 801 (io (T + 1))) (rp_B.trans (congrArg (fun z => mBw z 7 T false) ((rp_A rfl).trans (congrArg (fun z => mAw z 25 T a) ((rp_A rfl).trans (congrArg (fun z => mAw z 24 T p) ((rp_A rfl).trans (congrArg (fun z => mAw z 23 T (io o)) ((rp_A rfl).trans (congrArg (fun z => mAw z 22 T (io m)) ((rp_A rfl).trans (congrArg (fun z => mAw z 21 T (io c)) hM)))))))))))))))) rfl)) ?_
  refine x_iload (pc' := 28) rfl rfl rfl ?_
  refine x_isub (pc' := 29) (z := ((mA (mAw (mIw (mBw (mAw (mAw (mAw (mAw (mAw M 21 T (io c)) 22 T (io m)) 23 T (io o)) 24 T p) 25 T a) 7 T false) 801 (io (T + 1))) 6 ((3 * m) + c) ((mA M 6 ((3 * m) + c)) + a)) 6 ((3 * o) + c)) - a)) rfl rfl rfl ?_
  refine x_iast (pc' := 30) (N := 18) (p := ((3 * o) + c)) rfl rfl rfl (Eq.trans rdNA (Eq.trans rdNI (Eq.trans rdNB (Eq.trans rdNA (Eq.trans rdNA (Eq.trans rdNA (Eq.trans rdNA (Eq.trans rdNA (kN_21_6 hc))))))))) (io_in (p := ((3 * o) + c)) (N := 18) (show ((3 * o) + c) < 18 by omega) (by decide)) (nn_io (p := ((3 * o) + c)) (Nat.lt_trans (show ((3 * o) + c) < 18 by omega) (by decide))) ?_
  refine x_aload_n (pc' := 31) rfl rfl rfl rfl rfl ?_
  refine x_gR (pc' := 34) (r := (some 5)) rfl rfl rfl (Eq.trans (b := sR t 775 0) rfl (kR_775_0 hc)) ?_
  refine x_iload_n (pc' := 35) rfl rfl rfl ?_
  refine x_dup2 (pc' := 36) rfl rfl rfl rfl ?_
  refine x_iald (pc' := 37) (N := 6) (x := (mA M 5 m)) rfl rfl rfl (Eq.trans rdNA (Eq.trans rdNA (Eq.trans rdNI (Eq.trans rdNB (Eq.trans rdNA (Eq.trans rdNA (Eq.trans rdNA (Eq.trans rdNA (Eq.trans rdNA (kN_21_5 hc)))))))))) (io_in (p := m) (N := 6) hm (by decide)) (Eq.trans (congrArg (sA (sAw (sAw (sIw (sBw (sAw (sAw (sAw (sAw (sAw t 21 21 T (io c)) 21 22 T (io m)) 21 23 T (io o)) 21 24 T p) 21 25 T a) 22 7 T false) 801 0 (io (T + 1))) 21 6 ((3 * m) + c) ((mA M 6 ((3 * m) + c)) + a)) 21 6 ((3 * o) + c) ((mA (mAw (mIw (mBw (mAw (mAw (mAw (mAw (mAw M 21 T (io c)) 22 T (io m)) 23 T (io o)) 24 T p) 25 T a) 7 T false) 801 (io (T + 1))) 6 ((3 * m) + c) ((mA M 6 ((3 * m) + c)) + a)) 6 ((3 * o) + c)) - a)) 21 5) (nn_io (p := m) (Nat.lt_trans hm (by decide)))) (Eq.trans (b := sA t 21 5 m) rfl (gA hM rfl))) ?_
  refine x_iload (pc' := 39) rfl rfl rfl ?_
  refine x_iload (pc' := 41) rfl rfl rfl ?_
  refine x_imul (pc' := 42) (z := (p * a)) rfl rfl rfl ?_
  refine x_isub (pc' := 43) (z := ((mA M 5 m) - (p * a))) rfl rfl rfl ?_
  refine x_iast (pc' := 44) (N := 6) (p := m) rfl rfl rfl (Eq.trans rdNA (Eq.trans rdNA (Eq.trans rdNI (Eq.trans rdNB (Eq.trans rdNA (Eq.trans rdNA (Eq.trans rdNA (Eq.trans rdNA (Eq.trans rdNA (kN_21_5 hc)))))))))) (io_in (p := m) (N := 6) hm (by decide)) (nn_io (p := m) (Nat.lt_trans hm (by decide))) ?_
  refine x_aload_n (pc' := 45) rfl rfl rfl rfl rfl ?_
  refine x_gR (pc' := 48) (r := (some 5)) rfl rfl rfl (Eq.trans (b := sR t 775 0) rfl (kR_775_0 hc)) ?_
  refine x_iload_n (pc' := 49) rfl rfl rfl ?_
  refine x_dup2 (pc' := 50) rfl rfl rfl rfl ?_
  refine x_iald (pc' := 51) (N := 6) (x := (mA (mAw (mAw (mAw (mIw (mBw (mAw (mAw (mAw (mAw (mAw M 21 T (io c)) 22 T (io m)) 23 T (io o)) 24 T p) 25 T a) 7 T false) 801 (io (T + 1))) 6 ((3 * m) + c) ((mA M 6 ((3 * m) + c)) + a)) 6 ((3 * o) + c) ((mA (mAw (mIw (mBw (mAw (mAw (mAw (mAw (mAw M 21 T (io c)) 22 T (io m)) 23 T (io o)) 24 T p) 25 T a) 7 T false) 801 (io (T + 1))) 6 ((3 * m) + c) ((mA M 6 ((3 * m) + c)) + a)) 6 ((3 * o) + c)) - a)) 5 m ((mA M 5 m) - (p * a))) 5 o)) rfl rfl rfl (Eq.trans rdNA (Eq.trans rdNA (Eq.trans rdNA (Eq.trans rdNI (Eq.trans rdNB (Eq.trans rdNA (Eq.trans rdNA (Eq.trans rdNA (Eq.trans rdNA (Eq.trans rdNA (kN_21_5 hc))))))))))) (io_in (p := o) (N := 6) ho (by decide)) (Eq.trans (congrArg (sA (sAw (sAw (sAw (sIw (sBw (sAw (sAw (sAw (sAw (sAw t 21 21 T (io c)) 21 22 T (io m)) 21 23 T (io o)) 21 24 T p) 21 25 T a) 22 7 T false) 801 0 (io (T + 1))) 21 6 ((3 * m) + c) ((mA M 6 ((3 * m) + c)) + a)) 21 6 ((3 * o) + c) ((mA (mAw (mIw (mBw (mAw (mAw (mAw (mAw (mAw M 21 T (io c)) 22 T (io m)) 23 T (io o)) 24 T p) 25 T a) 7 T false) 801 (io (T + 1))) 6 ((3 * m) + c) ((mA M 6 ((3 * m) + c)) + a)) 6 ((3 * o) + c)) - a)) 21 5 m ((mA M 5 m) - (p * a))) 21 5) (nn_io (p := o) (Nat.lt_trans ho (by decide)))) (gA ((rp_A rfl).trans (congrArg (fun z => mAw z 5 m ((mA M 5 m) - (p * a))) ((rp_A rfl).trans (congrArg (fun z => mAw z 6 ((3 * o) + c) ((mA (mAw (mIw (mBw (mAw (mAw (mAw (mAw (mAw M 21 T (io c)) 22 T (io m)) 23 T (io o)) 24 T p) 25 T a) 7 T false) 801 (io (T + 1))) 6 ((3 * m) + c) ((mA M 6 ((3 * m) + c)) + a)) 6 ((3 * o) + c)) - a)) ((rp_A rfl).trans (congrArg (fun z => mAw z 6 ((3 * m) + c) ((mA M 6 ((3 * m) + c)) + a)) ((rp_I rfl).trans (congrArg (fun z => mIw z 801 (io (T + 1))) (rp_B.trans (congrArg (fun z => mBw z 7 T false) ((rp_A rfl).trans (congrArg (fun z => mAw z 25 T a) ((rp_A rfl).trans (congrArg (fun z => mAw z 24 T p) ((rp_A rfl).trans (congrArg (fun z => mAw z 23 T (io o)) ((rp_A rfl).trans (congrArg (fun z => mAw z 22 T (io m)) ((rp_A rfl).trans (congrArg (fun z => mAw z 21 T (io c)) hM)))))))))))))))))))) rfl)) ?_
  refine x_iload (pc' := 53) rfl rfl rfl ?_
  refine x_iload (pc' := 55) rfl rfl rfl ?_
  refine x_imul (pc' := 56) (z := (p * a)) rfl rfl rfl ?_
  refine x_iadd (pc' := 57) (z := ((mA (mAw (mAw (mAw (mIw (mBw (mAw (mAw (mAw (mAw (mAw M 21 T (io c)) 22 T (io m)) 23 T (io o)) 24 T p) 25 T a) 7 T false) 801 (io (T + 1))) 6 ((3 * m) + c) ((mA M 6 ((3 * m) + c)) + a)) 6 ((3 * o) + c) ((mA (mAw (mIw (mBw (mAw (mAw (mAw (mAw (mAw M 21 T (io c)) 22 T (io m)) 23 T (io o)) 24 T p) 25 T a) 7 T false) 801 (io (T + 1))) 6 ((3 * m) + c) ((mA M 6 ((3 * m) + c)) + a)) 6 ((3 * o) + c)) - a)) 5 m ((mA M 5 m) - (p * a))) 5 o) + (p * a))) rfl rfl rfl ?_
  refine x_iast (pc' := 58) (N := 6) (p := o) rfl rfl rfl (Eq.trans rdNA (Eq.trans rdNA (Eq.trans rdNA (Eq.trans rdNI (Eq.trans rdNB (Eq.trans rdNA (Eq.trans rdNA (Eq.trans rdNA (Eq.trans rdNA (Eq.trans rdNA (kN_21_5 hc))))))))))) (io_in (p := o) (N := 6) ho (by decide)) (nn_io (p := o) (Nat.lt_trans ho (by decide))) ?_
  refine x_ret rfl ?_
  refine sK_v (pc' := 83) rfl ?_
  refine x_aload_n (pc' := 84) rfl rfl rfl rfl rfl ?_
  refine x_gR (pc' := 87) (r := (some 1)) rfl rfl rfl (Eq.trans (b := sR t 771 0) rfl (kR_771_0 hc)) ?_
  refine x_iload_n (pc' := 88) rfl rfl rfl ?_
  refine x_iload (pc' := 90) rfl rfl rfl ?_
  have J1 : X 162 104 [.inr (.inr (12, (some 0))), .inl (io c), .inl (io m), .inl (io o), .inl p, .inl a, .inl (bz s)] [.inl (bif s then p else (mA M 1 c)), .inl (io c), .inr (.inr (21, (some 1)))] (sAw (sAw (sAw (sAw (sIw (sBw (sAw (sAw (sAw (sAw (sAw t 21 21 T (io c)) 21 22 T (io m)) 21 23 T (io o)) 21 24 T p) 21 25 T a) 22 7 T false) 801 0 (io (T + 1))) 21 6 ((3 * m) + c) ((mA M 6 ((3 * m) + c)) + a)) 21 6 ((3 * o) + c) ((mA (mAw (mIw (mBw (mAw (mAw (mAw (mAw (mAw M 21 T (io c)) 22 T (io m)) 23 T (io o)) 24 T p) 25 T a) 7 T false) 801 (io (T + 1))) 6 ((3 * m) + c) ((mA M 6 ((3 * m) + c)) + a)) 6 ((3 * o) + c)) - a)) 21 5 m ((mA M 5 m) - (p * a))) 21 5 o ((mA (mAw (mAw (mAw (mIw (mBw (mAw (mAw (mAw (mAw (mAw M 21 T (io c)) 22 T (io m)) 23 T (io o)) 24 T p) 25 T a) 7 T false) 801 (io (T + 1))) 6 ((3 * m) + c) ((mA M 6 ((3 * m) + c)) + a)) 6 ((3 * o) + c) ((mA (mAw (mIw (mBw (mAw (mAw (mAw (mAw (mAw M 21 T (io c)) 22 T (io m)) 23 T (io o)) 24 T p) 25 T a) 7 T false) 801 (io (T + 1))) 6 ((3 * m) + c) ((mA M 6 ((3 * m) + c)) + a)) 6 ((3 * o) + c)) - a)) 5 m ((mA M 5 m) - (p * a))) 5 o) + (p * a))) Q := by
    refine x_iast (pc' := 105) (N := 3) (p := c) rfl rfl rfl (Eq.trans rdNA (Eq.trans rdNA (Eq.trans rdNA (Eq.trans rdNA (Eq.trans rdNI (Eq.trans rdNB (Eq.trans rdNA (Eq.trans rdNA (Eq.trans rdNA (Eq.trans rdNA (Eq.trans rdNA (kN_21_1 hc)))))))))))) (io_in (p := c) (N := 3) hc3 (by decide)) (nn_io (p := c) (Nat.lt_trans hc3 (by decide))) ?_
    refine x_ret rfl ?_
    exact (q _ ((rp_A rfl).trans (congrArg (fun z => mAw z 1 c (bif s then p else (mA M 1 c))) ((rp_A rfl).trans (congrArg (fun z => mAw z 5 o ((mA (mAw (mAw (mAw (mIw (mBw (mAw (mAw (mAw (mAw (mAw M 21 T (io c)) 22 T (io m)) 23 T (io o)) 24 T p) 25 T a) 7 T false) 801 (io (T + 1))) 6 ((3 * m) + c) ((mA M 6 ((3 * m) + c)) + a)) 6 ((3 * o) + c) ((mA (mAw (mIw (mBw (mAw (mAw (mAw (mAw (mAw M 21 T (io c)) 22 T (io m)) 23 T (io o)) 24 T p) 25 T a) 7 T false) 801 (io (T + 1))) 6 ((3 * m) + c) ((mA M 6 ((3 * m) + c)) + a)) 6 ((3 * o) + c)) - a)) 5 m ((mA M 5 m) - (p * a))) 5 o) + (p * a))) ((rp_A rfl).trans (congrArg (fun z => mAw z 5 m ((mA M 5 m) - (p * a))) ((rp_A rfl).trans (congrArg (fun z => mAw z 6 ((3 * o) + c) ((mA (mAw (mIw (mBw (mAw (mAw (mAw (mAw (mAw M 21 T (io c)) 22 T (io m)) 23 T (io o)) 24 T p) 25 T a) 7 T false) 801 (io (T + 1))) 6 ((3 * m) + c) ((mA M 6 ((3 * m) + c)) + a)) 6 ((3 * o) + c)) - a)) ((rp_A rfl).trans (congrArg (fun z => mAw z 6 ((3 * m) + c) ((mA M 6 ((3 * m) + c)) + a)) ((rp_I rfl).trans (congrArg (fun z => mIw z 801 (io (T + 1))) (rp_B.trans (congrArg (fun z => mBw z 7 T false) ((rp_A rfl).trans (congrArg (fun z => mAw z 25 T a) ((rp_A rfl).trans (congrArg (fun z => mAw z 24 T p) ((rp_A rfl).trans (congrArg (fun z => mAw z 23 T (io o)) ((rp_A rfl).trans (congrArg (fun z => mAw z 22 T (io m)) ((rp_A rfl).trans (congrArg (fun z => mAw z 21 T (io c)) hM)))))))))))))))))))))))) (cp_A.trans (cp_A.trans (cp_A.trans (cp_A.trans (cp_A.trans ((cp_I rfl).trans (cp_B.trans (cp_A.trans (cp_A.trans (cp_A.trans (cp_A.trans cp_A))))))))))) ((sp_A rfl).trans ((sp_A rfl).trans ((sp_A rfl).trans ((sp_A rfl).trans ((sp_A rfl).trans ((sp_I rfl).trans (sp_B.trans ((sp_A rfl).trans ((sp_A rfl).trans ((sp_A rfl).trans ((sp_A rfl).trans (sp_A rfl)))))))))))))
  refine x_ifeq_z (a' := 98) (pc' := 93) (z := s) rfl rfl rfl (fun q1 => ?_) (fun q1 => ?_)
  · refine x_aload_n (pc' := 99) rfl rfl rfl rfl rfl ?_
    refine x_gR (pc' := 102) (r := (some 1)) rfl rfl rfl (Eq.trans (b := sR t 771 0) rfl (kR_771_0 hc)) ?_
    refine x_iload_n (pc' := 103) rfl rfl rfl ?_
    refine x_iald (pc' := 104) (N := 3) (x := (mA M 1 c)) rfl rfl rfl (Eq.trans rdNA (Eq.trans rdNA (Eq.trans rdNA (Eq.trans rdNA (Eq.trans rdNI (Eq.trans rdNB (Eq.trans rdNA (Eq.trans rdNA (Eq.trans rdNA (Eq.trans rdNA (Eq.trans rdNA (kN_21_1 hc)))))))))))) (io_in (p := c) (N := 3) hc3 (by decide)) (Eq.trans (congrArg (sA (sAw (sAw (sAw (sAw (sIw (sBw (sAw (sAw (sAw (sAw (sAw t 21 21 T (io c)) 21 22 T (io m)) 21 23 T (io o)) 21 24 T p) 21 25 T a) 22 7 T false) 801 0 (io (T + 1))) 21 6 ((3 * m) + c) ((mA M 6 ((3 * m) + c)) + a)) 21 6 ((3 * o) + c) ((mA (mAw (mIw (mBw (mAw (mAw (mAw (mAw (mAw M 21 T (io c)) 22 T (io m)) 23 T (io o)) 24 T p) 25 T a) 7 T false) 801 (io (T + 1))) 6 ((3 * m) + c) ((mA M 6 ((3 * m) + c)) + a)) 6 ((3 * o) + c)) - a)) 21 5 m ((mA M 5 m) - (p * a))) 21 5 o ((mA (mAw (mAw (mAw (mIw (mBw (mAw (mAw (mAw (mAw (mAw M 21 T (io c)) 22 T (io m)) 23 T (io o)) 24 T p) 25 T a) 7 T false) 801 (io (T + 1))) 6 ((3 * m) + c) ((mA M 6 ((3 * m) + c)) + a)) 6 ((3 * o) + c) ((mA (mAw (mIw (mBw (mAw (mAw (mAw (mAw (mAw M 21 T (io c)) 22 T (io m)) 23 T (io o)) 24 T p) 25 T a) 7 T false) 801 (io (T + 1))) 6 ((3 * m) + c) ((mA M 6 ((3 * m) + c)) + a)) 6 ((3 * o) + c)) - a)) 5 m ((mA M 5 m) - (p * a))) 5 o) + (p * a))) 21 1) (nn_io (p := c) (Nat.lt_trans hc3 (by decide)))) (Eq.trans (b := sA t 21 1 c) rfl (gA hM rfl))) ?_
    ((try rw [q1] at J1); (try rw [q1]); (try simp only [cd_t, cd_f, nt_t, nt_f, an_t, an_f, or_t, or_f] at J1); (try simp only [cd_t, cd_f, nt_t, nt_f, an_t, an_f, or_t, or_f]); exact J1)
  · refine x_iload (pc' := 95) rfl rfl rfl ?_
    refine x_goto (pc' := 104) rfl rfl ?_
    ((try rw [q1] at J1); (try rw [q1]); (try simp only [cd_t, cd_f, nt_t, nt_f, an_t, an_f, or_t, or_f] at J1); (try simp only [cd_t, cd_f, nt_t, nt_f, an_t, an_f, or_t, or_f]); exact J1)
theorem mkF_T {M : sM} {T c m o : Nat} {p a : Int32} {s : Bool} : mI (mkF M T c m o p a s) 801 = io (T + 1) := rfl
def mbF (M : sM) (T : Nat) (c : Nat) (s : Bool) (m : Nat) (o : Nat) (p : Int32) (a : Int32) (w : Bool) : sM := (mkF M T c (bif s then m else o) (bif s then o else m) p a w)
theorem Fr_mbF {M M0 : sM} {T : Nat} {c : Nat} {s : Bool} {m : Nat} {o : Nat} {p : Int32} {a : Int32} {w : Bool} (fr : Fr M M0) : Fr (mbF M T c s m o p a w) M0 := (Fr_mkF fr)
set_option maxHeartbeats 4000000 in
set_option maxRecDepth 10000 in
theorem r164 {t : sT} {Q : sRs → sT → Prop} {M : sM} {n : Nat} {T : Nat} {c : Nat} {m : Nat} {o : Nat} {p : Int32} {a : Int32} {s : Bool} {w : Bool}
    (hM : rp t = M)
    (hc : Cn t)
    (hR : Ri M n)
    (hT : mI M 801 = io T)
    (hT4 : T < 4096)
    (hc3 : c < 3)
    (hm : m < 6)
    (ho : o < 6)
    (q : ∀ t', rp t' = mbF M T c s m o p a w → cp t' = cp t → sp t' = sp t → Q (.inl none) t') :
    X 164 0 [.inr (.inr (12, (some 0))), .inl (io c), .inl (bz s), .inl (io m), .inl (io o), .inl p, .inl a, .inl (bz w)] [] t Q := by
  refine x_aload_n (pc' := 1) rfl rfl rfl rfl rfl ?_
  refine x_iload_n (pc' := 2) rfl rfl rfl ?_
  refine x_iload_n (pc' := 3) rfl rfl rfl ?_
  have J1 : X 164 12 [.inr (.inr (12, (some 0))), .inl (io c), .inl (bz s), .inl (io m), .inl (io o), .inl p, .inl a, .inl (bz w)] [.inl (io (bif s then m else o)), .inl (io c), .inr (.inr (12, (some 0)))] t Q := by
    refine x_iload_n (pc' := 13) rfl rfl rfl ?_
    have J3 : X 164 22 [.inr (.inr (12, (some 0))), .inl (io c), .inl (bz s), .inl (io m), .inl (io o), .inl p, .inl a, .inl (bz w)] [.inl (io (bif s then o else m)), .inl (io (bif s then m else o)), .inl (io c), .inr (.inr (12, (some 0)))] t Q := by
      refine x_iload (pc' := 24) rfl rfl rfl ?_
      refine x_iload (pc' := 26) rfl rfl rfl ?_
      refine x_iload (pc' := 28) rfl rfl rfl ?_
      refine x_cv (ls0 := [_, _, _, _, _, _, _]) (rest := []) rfl rfl rfl rfl rfl ?_
      refine r162 (T := T) (c := c) (m := (bif s then m else o)) (o := (bif s then o else m)) (p := p) (a := a) (s := w) hM hc (Fr.ri (Fr.refl _) hR) hT hT4 hc3 (lt_bif hm ho) (lt_bif ho hm) (fun u1 h1 c1 s1 => ?_)
      refine sK_v (pc' := 31) rfl ?_
      refine x_ret rfl ?_
      exact (q _ h1 c1 s1)
    refine x_ifeq_z (a' := 21) (pc' := 16) (z := s) rfl rfl rfl (fun q3 => ?_) (fun q3 => ?_)
    · refine x_iload_n (pc' := 22) rfl rfl rfl ?_
      ((try rw [q3] at J3); (try rw [q3]); (try simp only [cd_t, cd_f, nt_t, nt_f, an_t, an_f, or_t, or_f] at J3); (try simp only [cd_t, cd_f, nt_t, nt_f, an_t, an_f, or_t, or_f]); exact J3)
    · refine x_iload (pc' := 18) rfl rfl rfl ?_
      refine x_goto (pc' := 22) rfl rfl ?_
      ((try rw [q3] at J3); (try rw [q3]); (try simp only [cd_t, cd_f, nt_t, nt_f, an_t, an_f, or_t, or_f] at J3); (try simp only [cd_t, cd_f, nt_t, nt_f, an_t, an_f, or_t, or_f]); exact J3)
  refine x_ifeq_z (a' := 10) (pc' := 6) (z := s) rfl rfl rfl (fun q1 => ?_) (fun q1 => ?_)
  · refine x_iload (pc' := 12) rfl rfl rfl ?_
    ((try rw [q1] at J1); (try rw [q1]); (try simp only [cd_t, cd_f, nt_t, nt_f, an_t, an_f, or_t, or_f] at J1); (try simp only [cd_t, cd_f, nt_t, nt_f, an_t, an_f, or_t, or_f]); exact J1)
  · refine x_iload_n (pc' := 7) rfl rfl rfl ?_
    refine x_goto (pc' := 12) rfl rfl ?_
    ((try rw [q1] at J1); (try rw [q1]); (try simp only [cd_t, cd_f, nt_t, nt_f, an_t, an_f, or_t, or_f] at J1); (try simp only [cd_t, cd_f, nt_t, nt_f, an_t, an_f, or_t, or_f]); exact J1)
theorem mbF_T {M : sM} {T c m o : Nat} {s : Bool} {p a : Int32} {w : Bool} : mI (mbF M T c s m o p a w) 801 = io (T + 1) := rfl
def ms3F (M : sM) (T : Nat) (s : Bool) (m : Nat) (o : Nat) (p : Int32) (a : Int32) : sM := (mbF (mbF M T 1 (!s) m o (mA M 1 1) a false) (T + 1) 0 s m o ((mA M 1 1) + p) a false)
theorem Fr_ms3F {M M0 : sM} {T : Nat} {s : Bool} {m : Nat} {o : Nat} {p : Int32} {a : Int32} (fr : Fr M M0) : Fr (ms3F M T s m o p a) M0 := (Fr_mbF (Fr_mbF fr))
set_option maxHeartbeats 4000000 in
set_option maxRecDepth 10000 in
theorem r165_3 {t : sT} {Q : sRs → sT → Prop} {M : sM} {n : Nat} {T : Nat} {s : Bool} {m : Nat} {o : Nat} {p : Int32} {a : Int32}
    (hM : rp t = M)
    (hc : Cn t)
    (hR : Ri M n)
    (hT : mI M 801 = io T)
    (hT4 : T + 1 < 4096)
    (hm : m < 6)
    (ho : o < 6)
    (q : ∀ t', rp t' = ms3F M T s m o p a → cp t' = cp t → sp t' = sp t → Q (.inl none) t') :
    X 165 0 [.inr (.inr (12, (some 0))), .inl 3, .inl (bz s), .inl (io m), .inl (io o), .inl p, .inl a, sJk, sJk] [] t Q := by
  refine x_iload_n (pc' := 1) rfl rfl rfl ?_
  refine x_cs (ls0 := [_]) (rest := []) rfl rfl rfl rfl ?_
  refine x_iload_n (pc' := 1) rfl rfl rfl ?_
  refine x_iconst (pc' := 2) rfl rfl ?_
  refine x_isub (pc' := 3) (z := 0) rfl rfl (by decide) ?_
  refine x_reti rfl rfl ?_
  refine sK_i (pc' := 4) rfl ?_
  refine x_iconst (pc' := 5) rfl rfl ?_
  refine x_iadd (pc' := 6) (z := 1) rfl rfl (by decide) ?_
  refine x_istore (pc' := 8) (ls' := [_, _, _, _, _, _, _, _, _]) rfl rfl rfl rfl ?_
  refine x_aload_n (pc' := 9) rfl rfl rfl rfl rfl ?_
  refine x_gR (pc' := 12) (r := (some 1)) rfl rfl rfl (kR_771_0 hc) ?_
  refine x_iload (pc' := 14) rfl rfl rfl ?_
  refine x_iald (pc' := 15) (N := 3) (x := (mA M 1 1)) rfl rfl rfl (kN_21_1 hc) (io_in (p := 1) (N := 3) (by decide) (by decide)) (Eq.trans (congrArg (sA t 21 1) (nn_io (p := 1) (by decide))) (gA hM rfl)) ?_
  refine x_istore (pc' := 17) (ls' := [_, _, _, _, _, _, _, _, _]) rfl rfl rfl rfl ?_
  refine x_aload_n (pc' := 18) rfl rfl rfl rfl rfl ?_
  refine x_iload (pc' := 20) rfl rfl rfl ?_
  refine x_iload_n (pc' := 21) rfl rfl rfl ?_
  have J1 : X 165 29 [.inr (.inr (12, (some 0))), .inl 3, .inl (bz s), .inl (io m), .inl (io o), .inl p, .inl a, .inl 1, .inl (mA M 1 1)] [.inl (bz (!s)), .inl 1, .inr (.inr (12, (some 0)))] t Q := by
    refine x_iload_n (pc' := 30) rfl rfl rfl ?_
    refine x_iload (pc' := 32) rfl rfl rfl ?_
    refine x_iload (pc' := 34) rfl rfl rfl ?_
    refine x_iload (pc' := 36) rfl rfl rfl ?_
    refine x_iconst (pc' := 37) rfl rfl ?_
    refine x_cv (ls0 := [_, _, _, _, _, _, _, _]) (rest := []) rfl rfl rfl rfl rfl ?_
    refine r164 (T := T) (c := 1) (s := (!s)) (m := m) (o := o) (p := (mA M 1 1)) (a := a) (w := false) hM hc (Fr.ri (Fr.refl _) hR) hT (show T < 4096 by omega) (show 1 < 3 by decide) hm ho (fun u1 h1 c1 s1 => ?_)
    refine sK_v (pc' := 40) rfl ?_
    refine x_aload_n (pc' := 41) rfl rfl rfl rfl rfl ?_
    refine x_iload_n (pc' := 42) rfl rfl rfl ?_
    refine x_cs (ls0 := [_]) (rest := [_]) rfl rfl rfl rfl ?_
    refine x_iload_n (pc' := 1) rfl rfl rfl ?_
    refine x_iconst (pc' := 2) rfl rfl ?_
    refine x_isub (pc' := 3) (z := 0) rfl rfl (by decide) ?_
    refine x_reti rfl rfl ?_
    refine sK_i (pc' := 45) rfl ?_
    refine x_iload_n (pc' := 46) rfl rfl rfl ?_
    refine x_iload_n (pc' := 47) rfl rfl rfl ?_
    refine x_iload (pc' := 49) rfl rfl rfl ?_
    refine x_iload (pc' := 51) rfl rfl rfl ?_
    refine x_iload (pc' := 53) rfl rfl rfl ?_
    refine x_iadd (pc' := 54) (z := ((mA M 1 1) + p)) rfl rfl rfl ?_
    refine x_iload (pc' := 56) rfl rfl rfl ?_
    refine x_iconst (pc' := 57) rfl rfl ?_
    refine x_cv (ls0 := [_, _, _, _, _, _, _, _]) (rest := []) rfl rfl rfl rfl rfl ?_
    refine r164 (T := (T + 1)) (c := 0) (s := s) (m := m) (o := o) (p := ((mA M 1 1) + p)) (a := a) (w := false) h1 (Cn_cp c1 hc) (Fr.ri (Fr_mbF (Fr.refl _)) hR) mbF_T (show (T + 1) < 4096 by omega) (show 0 < 3 by decide) hm ho (fun u2 h2 c2 s2 => ?_)
    refine sK_v (pc' := 60) rfl ?_
    refine x_ret rfl ?_
    exact (q _ h2 (c2.trans c1) (Eq.trans s2 s1))
  refine x_ifne_z (a' := 28) (pc' := 24) (z := s) rfl rfl rfl (fun q1 => ?_) (fun q1 => ?_)
  · refine x_iconst (pc' := 29) rfl rfl ?_
    ((try rw [q1] at J1); (try rw [q1]); (try simp only [cd_t, cd_f, nt_t, nt_f, an_t, an_f, or_t, or_f] at J1); (try simp only [cd_t, cd_f, nt_t, nt_f, an_t, an_f, or_t, or_f]); exact J1)
  · refine x_iconst (pc' := 25) rfl rfl ?_
    refine x_goto (pc' := 29) rfl rfl ?_
    ((try rw [q1] at J1); (try rw [q1]); (try simp only [cd_t, cd_f, nt_t, nt_f, an_t, an_f, or_t, or_f] at J1); (try simp only [cd_t, cd_f, nt_t, nt_f, an_t, an_f, or_t, or_f]); exact J1)
theorem ms3F_T {M : sM} {T m o : Nat} {s : Bool} {p a : Int32} : mI (ms3F M T s m o p a) 801 = io (T + 2) := rfl
def ms4F (M : sM) (T : Nat) (s : Bool) (m : Nat) (o : Nat) (p : Int32) (a : Int32) : sM := (mbF (mbF M T 2 (!s) m o (mA M 1 2) a false) (T + 1) 1 s m o ((mA M 1 2) + p) a false)
theorem Fr_ms4F {M M0 : sM} {T : Nat} {s : Bool} {m : Nat} {o : Nat} {p : Int32} {a : Int32} (fr : Fr M M0) : Fr (ms4F M T s m o p a) M0 := (Fr_mbF (Fr_mbF fr))
set_option maxHeartbeats 4000000 in
set_option maxRecDepth 10000 in
theorem r165_4 {t : sT} {Q : sRs → sT → Prop} {M : sM} {n : Nat} {T : Nat} {s : Bool} {m : Nat} {o : Nat} {p : Int32} {a : Int32}
    (hM : rp t = M)
    (hc : Cn t)
    (hR : Ri M n)
    (hT : mI M 801 = io T)
    (hT4 : T + 1 < 4096)
    (hm : m < 6)
    (ho : o < 6)
    (q : ∀ t', rp t' = ms4F M T s m o p a → cp t' = cp t → sp t' = sp t → Q (.inl none) t') :
    X 165 0 [.inr (.inr (12, (some 0))), .inl 4, .inl (bz s), .inl (io m), .inl (io o), .inl p, .inl a, sJk, sJk] [] t Q := by
  refine x_iload_n (pc' := 1) rfl rfl rfl ?_
  refine x_cs (ls0 := [_]) (rest := []) rfl rfl rfl rfl ?_
  refine x_iload_n (pc' := 1) rfl rfl rfl ?_
  refine x_iconst (pc' := 2) rfl rfl ?_
  refine x_isub (pc' := 3) (z := 1) rfl rfl (by decide) ?_
  refine x_reti rfl rfl ?_
  refine sK_i (pc' := 4) rfl ?_
  refine x_iconst (pc' := 5) rfl rfl ?_
  refine x_iadd (pc' := 6) (z := 2) rfl rfl (by decide) ?_
  refine x_istore (pc' := 8) (ls' := [_, _, _, _, _, _, _, _, _]) rfl rfl rfl rfl ?_
  refine x_aload_n (pc' := 9) rfl rfl rfl rfl rfl ?_
  refine x_gR (pc' := 12) (r := (some 1)) rfl rfl rfl (kR_771_0 hc) ?_
  refine x_iload (pc' := 14) rfl rfl rfl ?_
  refine x_iald (pc' := 15) (N := 3) (x := (mA M 1 2)) rfl rfl rfl (kN_21_1 hc) (io_in (p := 2) (N := 3) (by decide) (by decide)) (Eq.trans (congrArg (sA t 21 1) (nn_io (p := 2) (by decide))) (gA hM rfl)) ?_
  refine x_istore (pc' := 17) (ls' := [_, _, _, _, _, _, _, _, _]) rfl rfl rfl rfl ?_
  refine x_aload_n (pc' := 18) rfl rfl rfl rfl rfl ?_
  refine x_iload (pc' := 20) rfl rfl rfl ?_
  refine x_iload_n (pc' := 21) rfl rfl rfl ?_
  have J1 : X 165 29 [.inr (.inr (12, (some 0))), .inl 4, .inl (bz s), .inl (io m), .inl (io o), .inl p, .inl a, .inl 2, .inl (mA M 1 2)] [.inl (bz (!s)), .inl 2, .inr (.inr (12, (some 0)))] t Q := by
    refine x_iload_n (pc' := 30) rfl rfl rfl ?_
    refine x_iload (pc' := 32) rfl rfl rfl ?_
    refine x_iload (pc' := 34) rfl rfl rfl ?_
    refine x_iload (pc' := 36) rfl rfl rfl ?_
    refine x_iconst (pc' := 37) rfl rfl ?_
    refine x_cv (ls0 := [_, _, _, _, _, _, _, _]) (rest := []) rfl rfl rfl rfl rfl ?_
    refine r164 (T := T) (c := 2) (s := (!s)) (m := m) (o := o) (p := (mA M 1 2)) (a := a) (w := false) hM hc (Fr.ri (Fr.refl _) hR) hT (show T < 4096 by omega) (show 2 < 3 by decide) hm ho (fun u1 h1 c1 s1 => ?_)
    refine sK_v (pc' := 40) rfl ?_
    refine x_aload_n (pc' := 41) rfl rfl rfl rfl rfl ?_
    refine x_iload_n (pc' := 42) rfl rfl rfl ?_
    refine x_cs (ls0 := [_]) (rest := [_]) rfl rfl rfl rfl ?_
    refine x_iload_n (pc' := 1) rfl rfl rfl ?_
    refine x_iconst (pc' := 2) rfl rfl ?_
    refine x_isub (pc' := 3) (z := 1) rfl rfl (by decide) ?_
    refine x_reti rfl rfl ?_
    refine sK_i (pc' := 45) rfl ?_
    refine x_iload_n (pc' := 46) rfl rfl rfl ?_
    refine x_iload_n (pc' := 47) rfl rfl rfl ?_
    refine x_iload (pc' := 49) rfl rfl rfl ?_
    refine x_iload (pc' := 51) rfl rfl rfl ?_
    refine x_iload (pc' := 53) rfl rfl rfl ?_
    refine x_iadd (pc' := 54) (z := ((mA M 1 2) + p)) rfl rfl rfl ?_
    refine x_iload (pc' := 56) rfl rfl rfl ?_
    refine x_iconst (pc' := 57) rfl rfl ?_
    refine x_cv (ls0 := [_, _, _, _, _, _, _, _]) (rest := []) rfl rfl rfl rfl rfl ?_
    refine r164 (T := (T + 1)) (c := 1) (s := s) (m := m) (o := o) (p := ((mA M 1 2) + p)) (a := a) (w := false) h1 (Cn_cp c1 hc) (Fr.ri (Fr_mbF (Fr.refl _)) hR) mbF_T (show (T + 1) < 4096 by omega) (show 1 < 3 by decide) hm ho (fun u2 h2 c2 s2 => ?_)
    refine sK_v (pc' := 60) rfl ?_
    refine x_ret rfl ?_
    exact (q _ h2 (c2.trans c1) (Eq.trans s2 s1))
  refine x_ifne_z (a' := 28) (pc' := 24) (z := s) rfl rfl rfl (fun q1 => ?_) (fun q1 => ?_)
  · refine x_iconst (pc' := 29) rfl rfl ?_
    ((try rw [q1] at J1); (try rw [q1]); (try simp only [cd_t, cd_f, nt_t, nt_f, an_t, an_f, or_t, or_f] at J1); (try simp only [cd_t, cd_f, nt_t, nt_f, an_t, an_f, or_t, or_f]); exact J1)
  · refine x_iconst (pc' := 25) rfl rfl ?_
    refine x_goto (pc' := 29) rfl rfl ?_
    ((try rw [q1] at J1); (try rw [q1]); (try simp only [cd_t, cd_f, nt_t, nt_f, an_t, an_f, or_t, or_f] at J1); (try simp only [cd_t, cd_f, nt_t, nt_f, an_t, an_f, or_t, or_f]); exact J1)
theorem ms4F_T {M : sM} {T m o : Nat} {s : Bool} {p a : Int32} : mI (ms4F M T s m o p a) 801 = io (T + 2) := rfl
