/-! the reference's auction price (printed by refgen.py) -/
def auS (M : sM) (n : Nat) (b : Nat) (k : Nat) (f : Int32) (a : Int32) (x : Int32) (y : Int32) : Int32 × Int32 × Int32 × Int32 := ((bif (decide ((mA M 19 k) = 1)) then (bif (decide ((oB M k) = b)) then (bif ((decide (a < (mnc (waF M n b true (mA M 14 k)) (waF M n b false (mA M 14 k))))) || (((decide ((mnc (waF M n b true (mA M 14 k)) (waF M n b false (mA M 14 k))) = a)) && (!(decide (f = (-10000))))) && ((decide ((abc ((waF M n b true (mA M 14 k)) - (waF M n b false (mA M 14 k)))) < x)) || ((decide ((abc ((waF M n b true (mA M 14 k)) - (waF M n b false (mA M 14 k)))) = x)) && ((decide ((abc ((mA M 14 k) - (bif (decide (b < 3)) then (mA M 1 b) else 0))) < y)) || ((decide ((abc ((mA M 14 k) - (bif (decide (b < 3)) then (mA M 1 b) else 0))) = y)) && (decide ((mA M 14 k) < f)))))))) then (mA M 14 k) else f) else f) else f), (bif (decide ((mA M 19 k) = 1)) then (bif (decide ((oB M k) = b)) then (bif ((decide (a < (mnc (waF M n b true (mA M 14 k)) (waF M n b false (mA M 14 k))))) || (((decide ((mnc (waF M n b true (mA M 14 k)) (waF M n b false (mA M 14 k))) = a)) && (!(decide (f = (-10000))))) && ((decide ((abc ((waF M n b true (mA M 14 k)) - (waF M n b false (mA M 14 k)))) < x)) || ((decide ((abc ((waF M n b true (mA M 14 k)) - (waF M n b false (mA M 14 k)))) = x)) && ((decide ((abc ((mA M 14 k) - (bif (decide (b < 3)) then (mA M 1 b) else 0))) < y)) || ((decide ((abc ((mA M 14 k) - (bif (decide (b < 3)) then (mA M 1 b) else 0))) = y)) && (decide ((mA M 14 k) < f)))))))) then (mnc (waF M n b true (mA M 14 k)) (waF M n b false (mA M 14 k))) else a) else a) else a), (bif (decide ((mA M 19 k) = 1)) then (bif (decide ((oB M k) = b)) then (bif ((decide (a < (mnc (waF M n b true (mA M 14 k)) (waF M n b false (mA M 14 k))))) || (((decide ((mnc (waF M n b true (mA M 14 k)) (waF M n b false (mA M 14 k))) = a)) && (!(decide (f = (-10000))))) && ((decide ((abc ((waF M n b true (mA M 14 k)) - (waF M n b false (mA M 14 k)))) < x)) || ((decide ((abc ((waF M n b true (mA M 14 k)) - (waF M n b false (mA M 14 k)))) = x)) && ((decide ((abc ((mA M 14 k) - (bif (decide (b < 3)) then (mA M 1 b) else 0))) < y)) || ((decide ((abc ((mA M 14 k) - (bif (decide (b < 3)) then (mA M 1 b) else 0))) = y)) && (decide ((mA M 14 k) < f)))))))) then (abc ((waF M n b true (mA M 14 k)) - (waF M n b false (mA M 14 k)))) else x) else x) else x), (bif (decide ((mA M 19 k) = 1)) then (bif (decide ((oB M k) = b)) then (bif ((decide (a < (mnc (waF M n b true (mA M 14 k)) (waF M n b false (mA M 14 k))))) || (((decide ((mnc (waF M n b true (mA M 14 k)) (waF M n b false (mA M 14 k))) = a)) && (!(decide (f = (-10000))))) && ((decide ((abc ((waF M n b true (mA M 14 k)) - (waF M n b false (mA M 14 k)))) < x)) || ((decide ((abc ((waF M n b true (mA M 14 k)) - (waF M n b false (mA M 14 k)))) = x)) && ((decide ((abc ((mA M 14 k) - (bif (decide (b < 3)) then (mA M 1 b) else 0))) < y)) || ((decide ((abc ((mA M 14 k) - (bif (decide (b < 3)) then (mA M 1 b) else 0))) = y)) && (decide ((mA M 14 k) < f)))))))) then (abc ((mA M 14 k) - (bif (decide (b < 3)) then (mA M 1 b) else 0))) else y) else y) else y))
def auL (M : sM) (n : Nat) (b : Nat) (f : Int32) (a : Int32) (x : Int32) (y : Int32) : Nat → Int32 × Int32 × Int32 × Int32
  | 0 => (f, a, x, y)
  | k + 1 => auS M n b k (auL M n b f a x y k).1 (auL M n b f a x y k).2.1 (auL M n b f a x y k).2.2.1 (auL M n b f a x y k).2.2.2
set_option maxHeartbeats 4000000 in
set_option maxRecDepth 10000 in
theorem r191_15_b {t : sT} {Q : sRs → sT → Prop} {M : sM} {n : Nat} {k : Nat} {b : Nat} {f : Int32} {a : Int32} {x : Int32} {y : Int32} {d0 : sV} {d1 : sV} {d2 : sV} {d3 : sV} {d4 : sV} {d5 : sV} {d6 : sV}
    (hM : rp t = M)
    (hc : Cn t)
    (hR : Ri M n)
    (hk : k < n)
    (hb : b < 5)
    (q : ∀ (e0 : sV) (e1 : sV) (e2 : sV) (e3 : sV) (e4 : sV) (e5 : sV) (e6 : sV), X 191 15 [.inr (.inr (12, (some 0))), .inl (io b), .inl ((auS M n b k f a x y).1), .inl ((auS M n b k f a x y).2.1), .inl ((auS M n b k f a x y).2.2.1), .inl ((auS M n b k f a x y).2.2.2), .inl (io (k + 1)), e0, e1, e2, e3, e4, e5, e6] [] t Q) :
    X 191 15 [.inr (.inr (12, (some 0))), .inl (io b), .inl f, .inl a, .inl x, .inl y, .inl (io k), d0, d1, d2, d3, d4, d5, d6] [] t Q := by
  refine x_iload (pc' := 17) rfl rfl rfl ?_
  refine x_aload_n (pc' := 18) rfl rfl rfl rfl rfl ?_
  refine x_gI (pc' := 21) (x := (io n)) rfl rfl rfl (gFn hM (Fr.refl _) hR) ?_
  refine x_icmp_n (a' := 263) (pc' := 24) (z := decide (k < n)) rfl rfl rfl (ic_gen (p := k) (q := n) (Nat.lt_trans hk (gn31 hR)) (gn31 hR)) (fun h => absurd hk (of_decide_eq_false h)) (fun _ => ?_)
  refine x_aload_n (pc' := 25) rfl rfl rfl rfl rfl ?_
  refine x_gR (pc' := 28) (r := (some 19)) rfl rfl rfl (kR_795_0 hc) ?_
  refine x_iload (pc' := 30) rfl rfl rfl ?_
  refine x_iald (pc' := 31) (N := 200) (x := (mA M 19 k)) rfl rfl rfl (kN_21_19 hc) (io_in (p := k) (N := 200) (Nat.lt_of_lt_of_le hk (gn200 hR)) (by decide)) (Eq.trans (congrArg (sA t 21 19) (nn_io (p := k) (Nat.lt_trans (Nat.lt_of_lt_of_le hk (gn200 hR)) (by decide)))) (gA hM rfl)) ?_
  refine x_iconst (pc' := 32) rfl rfl ?_
  refine x_icmp_n (a' := 257) (pc' := 35) (z := decide ((mA M 19 k) = 1)) rfl rfl rfl (ik_ne _ _) (fun q2 => ?_) (fun q2 => ?_)
  · refine x_iinc (pc' := 260) (y := (io (k + 1))) (ls' := [_, _, _, _, _, _, _, _, _, _, _, _, _, _]) rfl rfl rfl (io_add k 1) rfl ?_
    refine x_goto (pc' := 15) rfl rfl ?_
    exact Eq.mp (congrArg (fun l => X 191 15 l [] t Q) (by simp only [auS, q2, cd_t, cd_f])) (q (d0) (d1) (d2) (d3) (d4) (d5) (d6))
  · refine x_aload_n (pc' := 36) rfl rfl rfl rfl rfl ?_
    refine x_gR (pc' := 39) (r := (some 13)) rfl rfl rfl (kR_788_0 hc) ?_
    refine x_iload (pc' := 41) rfl rfl rfl ?_
    refine x_iald (pc' := 42) (N := 200) (x := (io (oB M k))) rfl rfl rfl (kN_21_13 hc) (io_in (p := k) (N := 200) (Nat.lt_of_lt_of_le hk (gn200 hR)) (by decide)) (Eq.trans (congrArg (sA t 21 13) (nn_io (p := k) (Nat.lt_trans (Nat.lt_of_lt_of_le hk (gn200 hR)) (by decide)))) (gF13 hM (Fr.refl _) hR hk)) ?_
    refine x_iload_n (pc' := 43) rfl rfl rfl ?_
    refine x_icmp_n (a' := 257) (pc' := 46) (z := decide ((oB M k) = b)) rfl rfl rfl (ic_nen (p := (oB M k)) (q := b) (gb31 (gb5 hR hk)) (gb31 hb)) (fun q3 => ?_) (fun q3 => ?_)
    · refine x_iinc (pc' := 260) (y := (io (k + 1))) (ls' := [_, _, _, _, _, _, _, _, _, _, _, _, _, _]) rfl rfl rfl (io_add k 1) rfl ?_
      refine x_goto (pc' := 15) rfl rfl ?_
      exact Eq.mp (congrArg (fun l => X 191 15 l [] t Q) (by simp only [auS, q2, q3, cd_t, cd_f])) (q (d0) (d1) (d2) (d3) (d4) (d5) (d6))
    · refine x_aload_n (pc' := 47) rfl rfl rfl rfl rfl ?_
      refine x_iload_n (pc' := 48) rfl rfl rfl ?_
      refine x_iconst (pc' := 49) rfl rfl ?_
      refine x_aload_n (pc' := 50) rfl rfl rfl rfl rfl ?_
      refine x_gR (pc' := 53) (r := (some 14)) rfl rfl rfl (kR_790_0 hc) ?_
      refine x_iload (pc' := 55) rfl rfl rfl ?_
      refine x_iald (pc' := 56) (N := 200) (x := (mA M 14 k)) rfl rfl rfl (kN_21_14 hc) (io_in (p := k) (N := 200) (Nat.lt_of_lt_of_le hk (gn200 hR)) (by decide)) (Eq.trans (congrArg (sA t 21 14) (nn_io (p := k) (Nat.lt_trans (Nat.lt_of_lt_of_le hk (gn200 hR)) (by decide)))) (gF14 hM (Fr.refl _))) ?_
      refine x_cv (ls0 := [_, _, _, _, sJk, sJk, sJk]) (rest := []) rfl rfl rfl rfl rfl ?_
      refine r188 (b := b) (s := true) (p := (mA M 14 k)) hM hc (Fr.ri (Fr.refl _) hR) hb ?_
      refine sK_i (pc' := 59) rfl ?_
      refine x_istore (pc' := 61) (ls' := [_, _, _, _, _, _, _, _, _, _, _, _, _, _]) rfl rfl rfl rfl ?_
      refine x_aload_n (pc' := 62) rfl rfl rfl rfl rfl ?_
      refine x_iload_n (pc' := 63) rfl rfl rfl ?_
      refine x_iconst (pc' := 64) rfl rfl ?_
      refine x_aload_n (pc' := 65) rfl rfl rfl rfl rfl ?_
      refine x_gR (pc' := 68) (r := (some 14)) rfl rfl rfl (kR_790_0 hc) ?_
      refine x_iload (pc' := 70) rfl rfl rfl ?_
      refine x_iald (pc' := 71) (N := 200) (x := (mA M 14 k)) rfl rfl rfl (kN_21_14 hc) (io_in (p := k) (N := 200) (Nat.lt_of_lt_of_le hk (gn200 hR)) (by decide)) (Eq.trans (congrArg (sA t 21 14) (nn_io (p := k) (Nat.lt_trans (Nat.lt_of_lt_of_le hk (gn200 hR)) (by decide)))) (gF14 hM (Fr.refl _))) ?_
      refine x_cv (ls0 := [_, _, _, _, sJk, sJk, sJk]) (rest := []) rfl rfl rfl rfl rfl ?_
      refine r188 (b := b) (s := false) (p := (mA M 14 k)) hM hc (Fr.ri (Fr.refl _) hR) hb ?_
      refine sK_i (pc' := 74) rfl ?_
      refine x_istore (pc' := 76) (ls' := [_, _, _, _, _, _, _, _, _, _, _, _, _, _]) rfl rfl rfl rfl ?_
      refine x_iload (pc' := 78) rfl rfl rfl ?_
      refine x_iload (pc' := 80) rfl rfl rfl ?_
      refine x_cs (ls0 := [_, _]) (rest := []) rfl rfl rfl rfl ?_
      refine x_iload_n (pc' := 1) rfl rfl rfl ?_
      refine x_iload_n (pc' := 2) rfl rfl rfl ?_
      have J4 : X 189 10 [.inl (waF M n b true (mA M 14 k)), .inl (waF M n b false (mA M 14 k))] [.inl (mnc (waF M n b true (mA M 14 k)) (waF M n b false (mA M 14 k)))] t (sK 189 191 80 [.inr (.inr (12, (some 0))), .inl (io b), .inl f, .inl a, .inl x, .inl y, .inl (io k), .inl (waF M n b true (mA M 14 k)), .inl (waF M n b false (mA M 14 k)), d2, d3, d4, d5, d6] [] Q) := by
        refine x_reti rfl rfl ?_
        refine sK_i (pc' := 83) rfl ?_
        refine x_istore (pc' := 85) (ls' := [_, _, _, _, _, _, _, _, _, _, _, _, _, _]) rfl rfl rfl rfl ?_
        refine x_iload (pc' := 87) rfl rfl rfl ?_
        refine x_iload (pc' := 89) rfl rfl rfl ?_
        refine x_isub (pc' := 90) (z := ((waF M n b true (mA M 14 k)) - (waF M n b false (mA M 14 k)))) rfl rfl rfl ?_
        refine x_cs (ls0 := [_]) (rest := []) rfl rfl rfl rfl ?_
        refine x_iload_n (pc' := 1) rfl rfl rfl ?_
        have J6 : X 190 10 [.inl ((waF M n b true (mA M 14 k)) - (waF M n b false (mA M 14 k)))] [.inl (abc ((waF M n b true (mA M 14 k)) - (waF M n b false (mA M 14 k))))] t (sK 190 191 90 [.inr (.inr (12, (some 0))), .inl (io b), .inl f, .inl a, .inl x, .inl y, .inl (io k), .inl (waF M n b true (mA M 14 k)), .inl (waF M n b false (mA M 14 k)), .inl (mnc (waF M n b true (mA M 14 k)) (waF M n b false (mA M 14 k))), d3, d4, d5, d6] [] Q) := by
          refine x_reti rfl rfl ?_
          refine sK_i (pc' := 93) rfl ?_
          refine x_istore (pc' := 95) (ls' := [_, _, _, _, _, _, _, _, _, _, _, _, _, _]) rfl rfl rfl rfl ?_
          refine x_aload_n (pc' := 96) rfl rfl rfl rfl rfl ?_
          refine x_gR (pc' := 99) (r := (some 14)) rfl rfl rfl (kR_790_0 hc) ?_
          refine x_iload (pc' := 101) rfl rfl rfl ?_
          refine x_iald (pc' := 102) (N := 200) (x := (mA M 14 k)) rfl rfl rfl (kN_21_14 hc) (io_in (p := k) (N := 200) (Nat.lt_of_lt_of_le hk (gn200 hR)) (by decide)) (Eq.trans (congrArg (sA t 21 14) (nn_io (p := k) (Nat.lt_trans (Nat.lt_of_lt_of_le hk (gn200 hR)) (by decide)))) (gF14 hM (Fr.refl _))) ?_
          refine x_iload_n (pc' := 103) rfl rfl rfl ?_
          refine x_iconst (pc' := 104) rfl rfl ?_
          have J8 : X 191 117 [.inr (.inr (12, (some 0))), .inl (io b), .inl f, .inl a, .inl x, .inl y, .inl (io k), .inl (waF M n b true (mA M 14 k)), .inl (waF M n b false (mA M 14 k)), .inl (mnc (waF M n b true (mA M 14 k)) (waF M n b false (mA M 14 k))), .inl (abc ((waF M n b true (mA M 14 k)) - (waF M n b false (mA M 14 k)))), d4, d5, d6] [.inl (bif (decide (b < 3)) then (mA M 1 b) else 0), .inl (mA M 14 k)] t Q := by
            refine x_isub (pc' := 118) (z := ((mA M 14 k) - (bif (decide (b < 3)) then (mA M 1 b) else 0))) rfl rfl rfl ?_
            refine x_cs (ls0 := [_]) (rest := []) rfl rfl rfl rfl ?_
            refine x_iload_n (pc' := 1) rfl rfl rfl ?_
            have J10 : X 190 10 [.inl ((mA M 14 k) - (bif (decide (b < 3)) then (mA M 1 b) else 0))] [.inl (abc ((mA M 14 k) - (bif (decide (b < 3)) then (mA M 1 b) else 0)))] t (sK 190 191 118 [.inr (.inr (12, (some 0))), .inl (io b), .inl f, .inl a, .inl x, .inl y, .inl (io k), .inl (waF M n b true (mA M 14 k)), .inl (waF M n b false (mA M 14 k)), .inl (mnc (waF M n b true (mA M 14 k)) (waF M n b false (mA M 14 k))), .inl (abc ((waF M n b true (mA M 14 k)) - (waF M n b false (mA M 14 k)))), d4, d5, d6] [] Q) := by
              refine x_reti rfl rfl ?_
              refine sK_i (pc' := 121) rfl ?_
              refine x_istore (pc' := 123) (ls' := [_, _, _, _, _, _, _, _, _, _, _, _, _, _]) rfl rfl rfl rfl ?_
              refine x_iload (pc' := 125) rfl rfl rfl ?_
              refine x_iload_n (pc' := 126) rfl rfl rfl ?_
              have J13 : X 191 141 [.inr (.inr (12, (some 0))), .inl (io b), .inl f, .inl a, .inl x, .inl y, .inl (io k), .inl (waF M n b true (mA M 14 k)), .inl (waF M n b false (mA M 14 k)), .inl (mnc (waF M n b true (mA M 14 k)) (waF M n b false (mA M 14 k))), .inl (abc ((waF M n b true (mA M 14 k)) - (waF M n b false (mA M 14 k)))), .inl (abc ((mA M 14 k) - (bif (decide (b < 3)) then (mA M 1 b) else 0))), d5, d6] [.inl (bz ((decide ((mnc (waF M n b true (mA M 14 k)) (waF M n b false (mA M 14 k))) = a)) && (!(decide (f = (-10000))))))] t Q := by
                refine x_istore (pc' := 143) (ls' := [_, _, _, _, _, _, _, _, _, _, _, _, _, _]) rfl rfl rfl rfl ?_
                refine x_iload (pc' := 145) rfl rfl rfl ?_
                refine x_iload_n (pc' := 146) rfl rfl rfl ?_
                have J21 : X 191 198 [.inr (.inr (12, (some 0))), .inl (io b), .inl f, .inl a, .inl x, .inl y, .inl (io k), .inl (waF M n b true (mA M 14 k)), .inl (waF M n b false (mA M 14 k)), .inl (mnc (waF M n b true (mA M 14 k)) (waF M n b false (mA M 14 k))), .inl (abc ((waF M n b true (mA M 14 k)) - (waF M n b false (mA M 14 k)))), .inl (abc ((mA M 14 k) - (bif (decide (b < 3)) then (mA M 1 b) else 0))), .inl (bz ((decide ((mnc (waF M n b true (mA M 14 k)) (waF M n b false (mA M 14 k))) = a)) && (!(decide (f = (-10000)))))), d6] [.inl (bz ((decide (a < (mnc (waF M n b true (mA M 14 k)) (waF M n b false (mA M 14 k))))) || (((decide ((mnc (waF M n b true (mA M 14 k)) (waF M n b false (mA M 14 k))) = a)) && (!(decide (f = (-10000))))) && ((decide ((abc ((waF M n b true (mA M 14 k)) - (waF M n b false (mA M 14 k)))) < x)) || ((decide ((abc ((waF M n b true (mA M 14 k)) - (waF M n b false (mA M 14 k)))) = x)) && ((decide ((abc ((mA M 14 k) - (bif (decide (b < 3)) then (mA M 1 b) else 0))) < y)) || ((decide ((abc ((mA M 14 k) - (bif (decide (b < 3)) then (mA M 1 b) else 0))) = y)) && (decide ((mA M 14 k) < f)))))))))] t Q := by
                  refine x_istore (pc' := 200) (ls' := [_, _, _, _, _, _, _, _, _, _, _, _, _, _]) rfl rfl rfl rfl ?_
                  refine x_iload (pc' := 202) rfl rfl rfl ?_
                  have J23 : X 191 216 [.inr (.inr (12, (some 0))), .inl (io b), .inl f, .inl a, .inl x, .inl y, .inl (io k), .inl (waF M n b true (mA M 14 k)), .inl (waF M n b false (mA M 14 k)), .inl (mnc (waF M n b true (mA M 14 k)) (waF M n b false (mA M 14 k))), .inl (abc ((waF M n b true (mA M 14 k)) - (waF M n b false (mA M 14 k)))), .inl (abc ((mA M 14 k) - (bif (decide (b < 3)) then (mA M 1 b) else 0))), .inl (bz ((decide ((mnc (waF M n b true (mA M 14 k)) (waF M n b false (mA M 14 k))) = a)) && (!(decide (f = (-10000)))))), .inl (bz ((decide (a < (mnc (waF M n b true (mA M 14 k)) (waF M n b false (mA M 14 k))))) || (((decide ((mnc (waF M n b true (mA M 14 k)) (waF M n b false (mA M 14 k))) = a)) && (!(decide (f = (-10000))))) && ((decide ((abc ((waF M n b true (mA M 14 k)) - (waF M n b false (mA M 14 k)))) < x)) || ((decide ((abc ((waF M n b true (mA M 14 k)) - (waF M n b false (mA M 14 k)))) = x)) && ((decide ((abc ((mA M 14 k) - (bif (decide (b < 3)) then (mA M 1 b) else 0))) < y)) || ((decide ((abc ((mA M 14 k) - (bif (decide (b < 3)) then (mA M 1 b) else 0))) = y)) && (decide ((mA M 14 k) < f)))))))))] [.inl (bif ((decide (a < (mnc (waF M n b true (mA M 14 k)) (waF M n b false (mA M 14 k))))) || (((decide ((mnc (waF M n b true (mA M 14 k)) (waF M n b false (mA M 14 k))) = a)) && (!(decide (f = (-10000))))) && ((decide ((abc ((waF M n b true (mA M 14 k)) - (waF M n b false (mA M 14 k)))) < x)) || ((decide ((abc ((waF M n b true (mA M 14 k)) - (waF M n b false (mA M 14 k)))) = x)) && ((decide ((abc ((mA M 14 k) - (bif (decide (b < 3)) then (mA M 1 b) else 0))) < y)) || ((decide ((abc ((mA M 14 k) - (bif (decide (b < 3)) then (mA M 1 b) else 0))) = y)) && (decide ((mA M 14 k) < f)))))))) then (mA M 14 k) else f)] t Q := by
                    refine x_istore_n (pc' := 217) (ls' := [_, _, _, _, _, _, _, _, _, _, _, _, _, _]) rfl rfl rfl rfl ?_
                    refine x_iload (pc' := 219) rfl rfl rfl ?_
                    have J25 : X 191 228 [.inr (.inr (12, (some 0))), .inl (io b), .inl (bif ((decide (a < (mnc (waF M n b true (mA M 14 k)) (waF M n b false (mA M 14 k))))) || (((decide ((mnc (waF M n b true (mA M 14 k)) (waF M n b false (mA M 14 k))) = a)) && (!(decide (f = (-10000))))) && ((decide ((abc ((waF M n b true (mA M 14 k)) - (waF M n b false (mA M 14 k)))) < x)) || ((decide ((abc ((waF M n b true (mA M 14 k)) - (waF M n b false (mA M 14 k)))) = x)) && ((decide ((abc ((mA M 14 k) - (bif (decide (b < 3)) then (mA M 1 b) else 0))) < y)) || ((decide ((abc ((mA M 14 k) - (bif (decide (b < 3)) then (mA M 1 b) else 0))) = y)) && (decide ((mA M 14 k) < f)))))))) then (mA M 14 k) else f), .inl a, .inl x, .inl y, .inl (io k), .inl (waF M n b true (mA M 14 k)), .inl (waF M n b false (mA M 14 k)), .inl (mnc (waF M n b true (mA M 14 k)) (waF M n b false (mA M 14 k))), .inl (abc ((waF M n b true (mA M 14 k)) - (waF M n b false (mA M 14 k)))), .inl (abc ((mA M 14 k) - (bif (decide (b < 3)) then (mA M 1 b) else 0))), .inl (bz ((decide ((mnc (waF M n b true (mA M 14 k)) (waF M n b false (mA M 14 k))) = a)) && (!(decide (f = (-10000)))))), .inl (bz ((decide (a < (mnc (waF M n b true (mA M 14 k)) (waF M n b false (mA M 14 k))))) || (((decide ((mnc (waF M n b true (mA M 14 k)) (waF M n b false (mA M 14 k))) = a)) && (!(decide (f = (-10000))))) && ((decide ((abc ((waF M n b true (mA M 14 k)) - (waF M n b false (mA M 14 k)))) < x)) || ((decide ((abc ((waF M n b true (mA M 14 k)) - (waF M n b false (mA M 14 k)))) = x)) && ((decide ((abc ((mA M 14 k) - (bif (decide (b < 3)) then (mA M 1 b) else 0))) < y)) || ((decide ((abc ((mA M 14 k) - (bif (decide (b < 3)) then (mA M 1 b) else 0))) = y)) && (decide ((mA M 14 k) < f)))))))))] [.inl (bif ((decide (a < (mnc (waF M n b true (mA M 14 k)) (waF M n b false (mA M 14 k))))) || (((decide ((mnc (waF M n b true (mA M 14 k)) (waF M n b false (mA M 14 k))) = a)) && (!(decide (f = (-10000))))) && ((decide ((abc ((waF M n b true (mA M 14 k)) - (waF M n b false (mA M 14 k)))) < x)) || ((decide ((abc ((waF M n b true (mA M 14 k)) - (waF M n b false (mA M 14 k)))) = x)) && ((decide ((abc ((mA M 14 k) - (bif (decide (b < 3)) then (mA M 1 b) else 0))) < y)) || ((decide ((abc ((mA M 14 k) - (bif (decide (b < 3)) then (mA M 1 b) else 0))) = y)) && (decide ((mA M 14 k) < f)))))))) then (mnc (waF M n b true (mA M 14 k)) (waF M n b false (mA M 14 k))) else a)] t Q := by
                      refine x_istore_n (pc' := 229) (ls' := [_, _, _, _, _, _, _, _, _, _, _, _, _, _]) rfl rfl rfl rfl ?_
                      refine x_iload (pc' := 231) rfl rfl rfl ?_
                      have J27 : X 191 241 [.inr (.inr (12, (some 0))), .inl (io b), .inl (bif ((decide (a < (mnc (waF M n b true (mA M 14 k)) (waF M n b false (mA M 14 k))))) || (((decide ((mnc (waF M n b true (mA M 14 k)) (waF M n b false (mA M 14 k))) = a)) && (!(decide (f = (-10000))))) && ((decide ((abc ((waF M n b true (mA M 14 k)) - (waF M n b false (mA M 14 k)))) < x)) || ((decide ((abc ((waF M n b true (mA M 14 k)) - (waF M n b false (mA M 14 k)))) = x)) && ((decide ((abc ((mA M 14 k) - (bif (decide (b < 3)) then (mA M 1 b) else 0))) < y)) || ((decide ((abc ((mA M 14 k) - (bif (decide (b < 3)) then (mA M 1 b) else 0))) = y)) && (decide ((mA M 14 k) < f)))))))) then (mA M 14 k) else f), .inl (bif ((decide (a < (mnc (waF M n b true (mA M 14 k)) (waF M n b false (mA M 14 k))))) || (((decide ((mnc (waF M n b true (mA M 14 k)) (waF M n b false (mA M 14 k))) = a)) && (!(decide (f = (-10000))))) && ((decide ((abc ((waF M n b true (mA M 14 k)) - (waF M n b false (mA M 14 k)))) < x)) || ((decide ((abc ((waF M n b true (mA M 14 k)) - (waF M n b false (mA M 14 k)))) = x)) && ((decide ((abc ((mA M 14 k) - (bif (decide (b < 3)) then (mA M 1 b) else 0))) < y)) || ((decide ((abc ((mA M 14 k) - (bif (decide (b < 3)) then (mA M 1 b) else 0))) = y)) && (decide ((mA M 14 k) < f)))))))) then (mnc (waF M n b true (mA M 14 k)) (waF M n b false (mA M 14 k))) else a), .inl x, .inl y, .inl (io k), .inl (waF M n b true (mA M 14 k)), .inl (waF M n b false (mA M 14 k)), .inl (mnc (waF M n b true (mA M 14 k)) (waF M n b false (mA M 14 k))), .inl (abc ((waF M n b true (mA M 14 k)) - (waF M n b false (mA M 14 k)))), .inl (abc ((mA M 14 k) - (bif (decide (b < 3)) then (mA M 1 b) else 0))), .inl (bz ((decide ((mnc (waF M n b true (mA M 14 k)) (waF M n b false (mA M 14 k))) = a)) && (!(decide (f = (-10000)))))), .inl (bz ((decide (a < (mnc (waF M n b true (mA M 14 k)) (waF M n b false (mA M 14 k))))) || (((decide ((mnc (waF M n b true (mA M 14 k)) (waF M n b false (mA M 14 k))) = a)) && (!(decide (f = (-10000))))) && ((decide ((abc ((waF M n b true (mA M 14 k)) - (waF M n b false (mA M 14 k)))) < x)) || ((decide ((abc ((waF M n b true (mA M 14 k)) - (waF M n b false (mA M 14 k)))) = x)) && ((decide ((abc ((mA M 14 k) - (bif (decide (b < 3)) then (mA M 1 b) else 0))) < y)) || ((decide ((abc ((mA M 14 k) - (bif (decide (b < 3)) then (mA M 1 b) else 0))) = y)) && (decide ((mA M 14 k) < f)))))))))] [.inl (bif ((decide (a < (mnc (waF M n b true (mA M 14 k)) (waF M n b false (mA M 14 k))))) || (((decide ((mnc (waF M n b true (mA M 14 k)) (waF M n b false (mA M 14 k))) = a)) && (!(decide (f = (-10000))))) && ((decide ((abc ((waF M n b true (mA M 14 k)) - (waF M n b false (mA M 14 k)))) < x)) || ((decide ((abc ((waF M n b true (mA M 14 k)) - (waF M n b false (mA M 14 k)))) = x)) && ((decide ((abc ((mA M 14 k) - (bif (decide (b < 3)) then (mA M 1 b) else 0))) < y)) || ((decide ((abc ((mA M 14 k) - (bif (decide (b < 3)) then (mA M 1 b) else 0))) = y)) && (decide ((mA M 14 k) < f)))))))) then (abc ((waF M n b true (mA M 14 k)) - (waF M n b false (mA M 14 k)))) else x)] t Q := by
                        refine x_istore (pc' := 243) (ls' := [_, _, _, _, _, _, _, _, _, _, _, _, _, _]) rfl rfl rfl rfl ?_
                        refine x_iload (pc' := 245) rfl rfl rfl ?_
                        have J29 : X 191 255 [.inr (.inr (12, (some 0))), .inl (io b), .inl (bif ((decide (a < (mnc (waF M n b true (mA M 14 k)) (waF M n b false (mA M 14 k))))) || (((decide ((mnc (waF M n b true (mA M 14 k)) (waF M n b false (mA M 14 k))) = a)) && (!(decide (f = (-10000))))) && ((decide ((abc ((waF M n b true (mA M 14 k)) - (waF M n b false (mA M 14 k)))) < x)) || ((decide ((abc ((waF M n b true (mA M 14 k)) - (waF M n b false (mA M 14 k)))) = x)) && ((decide ((abc ((mA M 14 k) - (bif (decide (b < 3)) then (mA M 1 b) else 0))) < y)) || ((decide ((abc ((mA M 14 k) - (bif (decide (b < 3)) then (mA M 1 b) else 0))) = y)) && (decide ((mA M 14 k) < f)))))))) then (mA M 14 k) else f), .inl (bif ((decide (a < (mnc (waF M n b true (mA M 14 k)) (waF M n b false (mA M 14 k))))) || (((decide ((mnc (waF M n b true (mA M 14 k)) (waF M n b false (mA M 14 k))) = a)) && (!(decide (f = (-10000))))) && ((decide ((abc ((waF M n b true (mA M 14 k)) - (waF M n b false (mA M 14 k)))) < x)) || ((decide ((abc ((waF M n b true (mA M 14 k)) - (waF M n b false (mA M 14 k)))) = x)) && ((decide ((abc ((mA M 14 k) - (bif (decide (b < 3)) then (mA M 1 b) else 0))) < y)) || ((decide ((abc ((mA M 14 k) - (bif (decide (b < 3)) then (mA M 1 b) else 0))) = y)) && (decide ((mA M 14 k) < f)))))))) then (mnc (waF M n b true (mA M 14 k)) (waF M n b false (mA M 14 k))) else a), .inl (bif ((decide (a < (mnc (waF M n b true (mA M 14 k)) (waF M n b false (mA M 14 k))))) || (((decide ((mnc (waF M n b true (mA M 14 k)) (waF M n b false (mA M 14 k))) = a)) && (!(decide (f = (-10000))))) && ((decide ((abc ((waF M n b true (mA M 14 k)) - (waF M n b false (mA M 14 k)))) < x)) || ((decide ((abc ((waF M n b true (mA M 14 k)) - (waF M n b false (mA M 14 k)))) = x)) && ((decide ((abc ((mA M 14 k) - (bif (decide (b < 3)) then (mA M 1 b) else 0))) < y)) || ((decide ((abc ((mA M 14 k) - (bif (decide (b < 3)) then (mA M 1 b) else 0))) = y)) && (decide ((mA M 14 k) < f)))))))) then (abc ((waF M n b true (mA M 14 k)) - (waF M n b false (mA M 14 k)))) else x), .inl y, .inl (io k), .inl (waF M n b true (mA M 14 k)), .inl (waF M n b false (mA M 14 k)), .inl (mnc (waF M n b true (mA M 14 k)) (waF M n b false (mA M 14 k))), .inl (abc ((waF M n b true (mA M 14 k)) - (waF M n b false (mA M 14 k)))), .inl (abc ((mA M 14 k) - (bif (decide (b < 3)) then (mA M 1 b) else 0))), .inl (bz ((decide ((mnc (waF M n b true (mA M 14 k)) (waF M n b false (mA M 14 k))) = a)) && (!(decide (f = (-10000)))))), .inl (bz ((decide (a < (mnc (waF M n b true (mA M 14 k)) (waF M n b false (mA M 14 k))))) || (((decide ((mnc (waF M n b true (mA M 14 k)) (waF M n b false (mA M 14 k))) = a)) && (!(decide (f = (-10000))))) && ((decide ((abc ((waF M n b true (mA M 14 k)) - (waF M n b false (mA M 14 k)))) < x)) || ((decide ((abc ((waF M n b true (mA M 14 k)) - (waF M n b false (mA M 14 k)))) = x)) && ((decide ((abc ((mA M 14 k) - (bif (decide (b < 3)) then (mA M 1 b) else 0))) < y)) || ((decide ((abc ((mA M 14 k) - (bif (decide (b < 3)) then (mA M 1 b) else 0))) = y)) && (decide ((mA M 14 k) < f)))))))))] [.inl (bif ((decide (a < (mnc (waF M n b true (mA M 14 k)) (waF M n b false (mA M 14 k))))) || (((decide ((mnc (waF M n b true (mA M 14 k)) (waF M n b false (mA M 14 k))) = a)) && (!(decide (f = (-10000))))) && ((decide ((abc ((waF M n b true (mA M 14 k)) - (waF M n b false (mA M 14 k)))) < x)) || ((decide ((abc ((waF M n b true (mA M 14 k)) - (waF M n b false (mA M 14 k)))) = x)) && ((decide ((abc ((mA M 14 k) - (bif (decide (b < 3)) then (mA M 1 b) else 0))) < y)) || ((decide ((abc ((mA M 14 k) - (bif (decide (b < 3)) then (mA M 1 b) else 0))) = y)) && (decide ((mA M 14 k) < f)))))))) then (abc ((mA M 14 k) - (bif (decide (b < 3)) then (mA M 1 b) else 0))) else y)] t Q := by
                          refine x_istore (pc' := 257) (ls' := [_, _, _, _, _, _, _, _, _, _, _, _, _, _]) rfl rfl rfl rfl ?_
                          refine x_iinc (pc' := 260) (y := (io (k + 1))) (ls' := [_, _, _, _, _, _, _, _, _, _, _, _, _, _]) rfl rfl rfl (io_add k 1) rfl ?_
                          refine x_goto (pc' := 15) rfl rfl ?_
                          exact Eq.mp (congrArg (fun l => X 191 15 l [] t Q) (by simp only [auS, q2, q3, cd_t, cd_f])) (q (.inl (waF M n b true (mA M 14 k))) (.inl (waF M n b false (mA M 14 k))) (.inl (mnc (waF M n b true (mA M 14 k)) (waF M n b false (mA M 14 k)))) (.inl (abc ((waF M n b true (mA M 14 k)) - (waF M n b false (mA M 14 k))))) (.inl (abc ((mA M 14 k) - (bif (decide (b < 3)) then (mA M 1 b) else 0)))) (.inl (bz ((decide ((mnc (waF M n b true (mA M 14 k)) (waF M n b false (mA M 14 k))) = a)) && (!(decide (f = (-10000))))))) (.inl (bz ((decide (a < (mnc (waF M n b true (mA M 14 k)) (waF M n b false (mA M 14 k))))) || (((decide ((mnc (waF M n b true (mA M 14 k)) (waF M n b false (mA M 14 k))) = a)) && (!(decide (f = (-10000))))) && ((decide ((abc ((waF M n b true (mA M 14 k)) - (waF M n b false (mA M 14 k)))) < x)) || ((decide ((abc ((waF M n b true (mA M 14 k)) - (waF M n b false (mA M 14 k)))) = x)) && ((decide ((abc ((mA M 14 k) - (bif (decide (b < 3)) then (mA M 1 b) else 0))) < y)) || ((decide ((abc ((mA M 14 k) - (bif (decide (b < 3)) then (mA M 1 b) else 0))) = y)) && (decide ((mA M 14 k) < f)))))))))))
                        refine x_ifeq_z (a' := 253) (pc' := 248) (z := ((decide (a < (mnc (waF M n b true (mA M 14 k)) (waF M n b false (mA M 14 k))))) || (((decide ((mnc (waF M n b true (mA M 14 k)) (waF M n b false (mA M 14 k))) = a)) && (!(decide (f = (-10000))))) && ((decide ((abc ((waF M n b true (mA M 14 k)) - (waF M n b false (mA M 14 k)))) < x)) || ((decide ((abc ((waF M n b true (mA M 14 k)) - (waF M n b false (mA M 14 k)))) = x)) && ((decide ((abc ((mA M 14 k) - (bif (decide (b < 3)) then (mA M 1 b) else 0))) < y)) || ((decide ((abc ((mA M 14 k) - (bif (decide (b < 3)) then (mA M 1 b) else 0))) = y)) && (decide ((mA M 14 k) < f))))))))) rfl rfl rfl (fun q29 => ?_) (fun q29 => ?_)
                        · refine x_iload (pc' := 255) rfl rfl rfl ?_
                          ((try rw [q29] at J29); (try rw [q29]); (try simp only [cd_t, cd_f, nt_t, nt_f, an_t, an_f, or_t, or_f] at J29); (try simp only [cd_t, cd_f, nt_t, nt_f, an_t, an_f, or_t, or_f]); exact J29)
                        · refine x_iload (pc' := 250) rfl rfl rfl ?_
                          refine x_goto (pc' := 255) rfl rfl ?_
                          ((try rw [q29] at J29); (try rw [q29]); (try simp only [cd_t, cd_f, nt_t, nt_f, an_t, an_f, or_t, or_f] at J29); (try simp only [cd_t, cd_f, nt_t, nt_f, an_t, an_f, or_t, or_f]); exact J29)
                      refine x_ifeq_z (a' := 239) (pc' := 234) (z := ((decide (a < (mnc (waF M n b true (mA M 14 k)) (waF M n b false (mA M 14 k))))) || (((decide ((mnc (waF M n b true (mA M 14 k)) (waF M n b false (mA M 14 k))) = a)) && (!(decide (f = (-10000))))) && ((decide ((abc ((waF M n b true (mA M 14 k)) - (waF M n b false (mA M 14 k)))) < x)) || ((decide ((abc ((waF M n b true (mA M 14 k)) - (waF M n b false (mA M 14 k)))) = x)) && ((decide ((abc ((mA M 14 k) - (bif (decide (b < 3)) then (mA M 1 b) else 0))) < y)) || ((decide ((abc ((mA M 14 k) - (bif (decide (b < 3)) then (mA M 1 b) else 0))) = y)) && (decide ((mA M 14 k) < f))))))))) rfl rfl rfl (fun q27 => ?_) (fun q27 => ?_)
                      · refine x_iload (pc' := 241) rfl rfl rfl ?_
                        ((try rw [q27] at J27); (try rw [q27]); (try simp only [cd_t, cd_f, nt_t, nt_f, an_t, an_f, or_t, or_f] at J27); (try simp only [cd_t, cd_f, nt_t, nt_f, an_t, an_f, or_t, or_f]); exact J27)
                      · refine x_iload (pc' := 236) rfl rfl rfl ?_
                        refine x_goto (pc' := 241) rfl rfl ?_
                        ((try rw [q27] at J27); (try rw [q27]); (try simp only [cd_t, cd_f, nt_t, nt_f, an_t, an_f, or_t, or_f] at J27); (try simp only [cd_t, cd_f, nt_t, nt_f, an_t, an_f, or_t, or_f]); exact J27)
                    refine x_ifeq_z (a' := 227) (pc' := 222) (z := ((decide (a < (mnc (waF M n b true (mA M 14 k)) (waF M n b false (mA M 14 k))))) || (((decide ((mnc (waF M n b true (mA M 14 k)) (waF M n b false (mA M 14 k))) = a)) && (!(decide (f = (-10000))))) && ((decide ((abc ((waF M n b true (mA M 14 k)) - (waF M n b false (mA M 14 k)))) < x)) || ((decide ((abc ((waF M n b true (mA M 14 k)) - (waF M n b false (mA M 14 k)))) = x)) && ((decide ((abc ((mA M 14 k) - (bif (decide (b < 3)) then (mA M 1 b) else 0))) < y)) || ((decide ((abc ((mA M 14 k) - (bif (decide (b < 3)) then (mA M 1 b) else 0))) = y)) && (decide ((mA M 14 k) < f))))))))) rfl rfl rfl (fun q25 => ?_) (fun q25 => ?_)
                    · refine x_iload_n (pc' := 228) rfl rfl rfl ?_
                      ((try rw [q25] at J25); (try rw [q25]); (try simp only [cd_t, cd_f, nt_t, nt_f, an_t, an_f, or_t, or_f] at J25); (try simp only [cd_t, cd_f, nt_t, nt_f, an_t, an_f, or_t, or_f]); exact J25)
                    · refine x_iload (pc' := 224) rfl rfl rfl ?_
                      refine x_goto (pc' := 228) rfl rfl ?_
                      ((try rw [q25] at J25); (try rw [q25]); (try simp only [cd_t, cd_f, nt_t, nt_f, an_t, an_f, or_t, or_f] at J25); (try simp only [cd_t, cd_f, nt_t, nt_f, an_t, an_f, or_t, or_f]); exact J25)
                  refine x_ifeq_z (a' := 215) (pc' := 205) (z := ((decide (a < (mnc (waF M n b true (mA M 14 k)) (waF M n b false (mA M 14 k))))) || (((decide ((mnc (waF M n b true (mA M 14 k)) (waF M n b false (mA M 14 k))) = a)) && (!(decide (f = (-10000))))) && ((decide ((abc ((waF M n b true (mA M 14 k)) - (waF M n b false (mA M 14 k)))) < x)) || ((decide ((abc ((waF M n b true (mA M 14 k)) - (waF M n b false (mA M 14 k)))) = x)) && ((decide ((abc ((mA M 14 k) - (bif (decide (b < 3)) then (mA M 1 b) else 0))) < y)) || ((decide ((abc ((mA M 14 k) - (bif (decide (b < 3)) then (mA M 1 b) else 0))) = y)) && (decide ((mA M 14 k) < f))))))))) rfl rfl rfl (fun q23 => ?_) (fun q23 => ?_)
                  · refine x_iload_n (pc' := 216) rfl rfl rfl ?_
                    ((try rw [q23] at J23); (try rw [q23]); (try simp only [cd_t, cd_f, nt_t, nt_f, an_t, an_f, or_t, or_f] at J23); (try simp only [cd_t, cd_f, nt_t, nt_f, an_t, an_f, or_t, or_f]); exact J23)
                  · refine x_aload_n (pc' := 206) rfl rfl rfl rfl rfl ?_
                    refine x_gR (pc' := 209) (r := (some 14)) rfl rfl rfl (kR_790_0 hc) ?_
                    refine x_iload (pc' := 211) rfl rfl rfl ?_
                    refine x_iald (pc' := 212) (N := 200) (x := (mA M 14 k)) rfl rfl rfl (kN_21_14 hc) (io_in (p := k) (N := 200) (Nat.lt_of_lt_of_le hk (gn200 hR)) (by decide)) (Eq.trans (congrArg (sA t 21 14) (nn_io (p := k) (Nat.lt_trans (Nat.lt_of_lt_of_le hk (gn200 hR)) (by decide)))) (gF14 hM (Fr.refl _))) ?_
                    refine x_goto (pc' := 216) rfl rfl ?_
                    ((try rw [q23] at J23); (try rw [q23]); (try simp only [cd_t, cd_f, nt_t, nt_f, an_t, an_f, or_t, or_f] at J23); (try simp only [cd_t, cd_f, nt_t, nt_f, an_t, an_f, or_t, or_f]); exact J23)
                refine x_icmp (a' := 193) (pc' := 149) (z := decide (a < (mnc (waF M n b true (mA M 14 k)) (waF M n b false (mA M 14 k))))) rfl rfl rfl rfl (fun q15 => ?_) (fun q15 => ?_)
                · refine x_iconst (pc' := 194) rfl rfl ?_
                  refine x_goto (pc' := 198) rfl rfl ?_
                  ((try rw [q15] at J21); (try rw [q15]); (try simp only [cd_t, cd_f, nt_t, nt_f, an_t, an_f, or_t, or_f] at J21); (try simp only [cd_t, cd_f, nt_t, nt_f, an_t, an_f, or_t, or_f]); exact J21)
                · refine x_iload (pc' := 151) rfl rfl rfl ?_
                  refine x_ifeq_z (a' := 197) (pc' := 154) (z := ((decide ((mnc (waF M n b true (mA M 14 k)) (waF M n b false (mA M 14 k))) = a)) && (!(decide (f = (-10000)))))) rfl rfl rfl (fun q16 => ?_) (fun q16 => ?_)
                  · refine x_iconst (pc' := 198) rfl rfl ?_
                    ((try rw [q16] at J21); (try rw [q16]); (try rw [q15] at J21); (try rw [q15]); (try simp only [cd_t, cd_f, nt_t, nt_f, an_t, an_f, or_t, or_f] at J21); (try simp only [cd_t, cd_f, nt_t, nt_f, an_t, an_f, or_t, or_f]); exact J21)
                  · refine x_iload (pc' := 156) rfl rfl rfl ?_
                    refine x_iload (pc' := 158) rfl rfl rfl ?_
                    refine x_icmp (a' := 193) (pc' := 161) (z := decide ((abc ((waF M n b true (mA M 14 k)) - (waF M n b false (mA M 14 k)))) < x)) rfl rfl rfl rfl (fun q17 => ?_) (fun q17 => ?_)
                    · refine x_iconst (pc' := 194) rfl rfl ?_
                      refine x_goto (pc' := 198) rfl rfl ?_
                      ((try rw [q17] at J21); (try rw [q17]); (try rw [q16] at J21); (try rw [q16]); (try rw [q15] at J21); (try rw [q15]); (try simp only [cd_t, cd_f, nt_t, nt_f, an_t, an_f, or_t, or_f] at J21); (try simp only [cd_t, cd_f, nt_t, nt_f, an_t, an_f, or_t, or_f]); exact J21)
                    · refine x_iload (pc' := 163) rfl rfl rfl ?_
                      refine x_iload (pc' := 165) rfl rfl rfl ?_
                      refine x_icmp_n (a' := 197) (pc' := 168) (z := decide ((abc ((waF M n b true (mA M 14 k)) - (waF M n b false (mA M 14 k)))) = x)) rfl rfl rfl (ik_ne _ _) (fun q18 => ?_) (fun q18 => ?_)
                      · refine x_iconst (pc' := 198) rfl rfl ?_
                        ((try rw [q18] at J21); (try rw [q18]); (try rw [q17] at J21); (try rw [q17]); (try rw [q16] at J21); (try rw [q16]); (try rw [q15] at J21); (try rw [q15]); (try simp only [cd_t, cd_f, nt_t, nt_f, an_t, an_f, or_t, or_f] at J21); (try simp only [cd_t, cd_f, nt_t, nt_f, an_t, an_f, or_t, or_f]); exact J21)
                      · refine x_iload (pc' := 170) rfl rfl rfl ?_
                        refine x_iload (pc' := 172) rfl rfl rfl ?_
                        refine x_icmp (a' := 193) (pc' := 175) (z := decide ((abc ((mA M 14 k) - (bif (decide (b < 3)) then (mA M 1 b) else 0))) < y)) rfl rfl rfl rfl (fun q19 => ?_) (fun q19 => ?_)
                        · refine x_iconst (pc' := 194) rfl rfl ?_
                          refine x_goto (pc' := 198) rfl rfl ?_
                          ((try rw [q19] at J21); (try rw [q19]); (try rw [q18] at J21); (try rw [q18]); (try rw [q17] at J21); (try rw [q17]); (try rw [q16] at J21); (try rw [q16]); (try rw [q15] at J21); (try rw [q15]); (try simp only [cd_t, cd_f, nt_t, nt_f, an_t, an_f, or_t, or_f] at J21); (try simp only [cd_t, cd_f, nt_t, nt_f, an_t, an_f, or_t, or_f]); exact J21)
                        · refine x_iload (pc' := 177) rfl rfl rfl ?_
                          refine x_iload (pc' := 179) rfl rfl rfl ?_
                          refine x_icmp_n (a' := 197) (pc' := 182) (z := decide ((abc ((mA M 14 k) - (bif (decide (b < 3)) then (mA M 1 b) else 0))) = y)) rfl rfl rfl (ik_ne _ _) (fun q20 => ?_) (fun q20 => ?_)
                          · refine x_iconst (pc' := 198) rfl rfl ?_
                            ((try rw [q20] at J21); (try rw [q20]); (try rw [q19] at J21); (try rw [q19]); (try rw [q18] at J21); (try rw [q18]); (try rw [q17] at J21); (try rw [q17]); (try rw [q16] at J21); (try rw [q16]); (try rw [q15] at J21); (try rw [q15]); (try simp only [cd_t, cd_f, nt_t, nt_f, an_t, an_f, or_t, or_f] at J21); (try simp only [cd_t, cd_f, nt_t, nt_f, an_t, an_f, or_t, or_f]); exact J21)
                          · refine x_aload_n (pc' := 183) rfl rfl rfl rfl rfl ?_
                            refine x_gR (pc' := 186) (r := (some 14)) rfl rfl rfl (kR_790_0 hc) ?_
                            refine x_iload (pc' := 188) rfl rfl rfl ?_
                            refine x_iald (pc' := 189) (N := 200) (x := (mA M 14 k)) rfl rfl rfl (kN_21_14 hc) (io_in (p := k) (N := 200) (Nat.lt_of_lt_of_le hk (gn200 hR)) (by decide)) (Eq.trans (congrArg (sA t 21 14) (nn_io (p := k) (Nat.lt_trans (Nat.lt_of_lt_of_le hk (gn200 hR)) (by decide)))) (gF14 hM (Fr.refl _))) ?_
                            refine x_iload_n (pc' := 190) rfl rfl rfl ?_
                            refine x_icmp_n (a' := 197) (pc' := 193) (z := decide ((mA M 14 k) < f)) rfl rfl rfl (ik_ge _ _) (fun q21 => ?_) (fun q21 => ?_)
                            · refine x_iconst (pc' := 198) rfl rfl ?_
                              ((try rw [q21] at J21); (try rw [q21]); (try rw [q20] at J21); (try rw [q20]); (try rw [q19] at J21); (try rw [q19]); (try rw [q18] at J21); (try rw [q18]); (try rw [q17] at J21); (try rw [q17]); (try rw [q16] at J21); (try rw [q16]); (try rw [q15] at J21); (try rw [q15]); (try simp only [cd_t, cd_f, nt_t, nt_f, an_t, an_f, or_t, or_f] at J21); (try simp only [cd_t, cd_f, nt_t, nt_f, an_t, an_f, or_t, or_f]); exact J21)
                            · refine x_iconst (pc' := 194) rfl rfl ?_
                              refine x_goto (pc' := 198) rfl rfl ?_
                              ((try rw [q21] at J21); (try rw [q21]); (try rw [q20] at J21); (try rw [q20]); (try rw [q19] at J21); (try rw [q19]); (try rw [q18] at J21); (try rw [q18]); (try rw [q17] at J21); (try rw [q17]); (try rw [q16] at J21); (try rw [q16]); (try rw [q15] at J21); (try rw [q15]); (try simp only [cd_t, cd_f, nt_t, nt_f, an_t, an_f, or_t, or_f] at J21); (try simp only [cd_t, cd_f, nt_t, nt_f, an_t, an_f, or_t, or_f]); exact J21)
              refine x_icmp_n (a' := 140) (pc' := 129) (z := decide ((mnc (waF M n b true (mA M 14 k)) (waF M n b false (mA M 14 k))) = a)) rfl rfl rfl (ik_ne _ _) (fun q12 => ?_) (fun q12 => ?_)
              · refine x_iconst (pc' := 141) rfl rfl ?_
                ((try rw [q12] at J13); (try rw [q12]); (try simp only [cd_t, cd_f, nt_t, nt_f, an_t, an_f, or_t, or_f] at J13); (try simp only [cd_t, cd_f, nt_t, nt_f, an_t, an_f, or_t, or_f]); exact J13)
              · refine x_iload_n (pc' := 130) rfl rfl rfl ?_
                refine x_sipush (pc' := 133) rfl rfl ?_
                refine x_icmp (a' := 140) (pc' := 136) (z := decide (f = (-10000))) rfl rfl rfl rfl (fun q13 => ?_) (fun q13 => ?_)
                · refine x_iconst (pc' := 141) rfl rfl ?_
                  ((try rw [q13] at J13); (try rw [q13]); (try rw [q12] at J13); (try rw [q12]); (try simp only [cd_t, cd_f, nt_t, nt_f, an_t, an_f, or_t, or_f] at J13); (try simp only [cd_t, cd_f, nt_t, nt_f, an_t, an_f, or_t, or_f]); exact J13)
                · refine x_iconst (pc' := 137) rfl rfl ?_
                  refine x_goto (pc' := 141) rfl rfl ?_
                  ((try rw [q13] at J13); (try rw [q13]); (try rw [q12] at J13); (try rw [q12]); (try simp only [cd_t, cd_f, nt_t, nt_f, an_t, an_f, or_t, or_f] at J13); (try simp only [cd_t, cd_f, nt_t, nt_f, an_t, an_f, or_t, or_f]); exact J13)
            refine x_if_n (a' := 9) (pc' := 4) (z := decide (((mA M 14 k) - (bif (decide (b < 3)) then (mA M 1 b) else 0)) < 0)) rfl rfl rfl (ik_ge _ _) (fun q10 => ?_) (fun q10 => ?_)
            · refine x_iload_n (pc' := 10) rfl rfl rfl ?_
              ((try rw [abc_f q10] at J10); (try simp only [cd_t, cd_f, nt_t, nt_f, an_t, an_f, or_t, or_f] at J10); (try simp only [cd_t, cd_f, nt_t, nt_f, an_t, an_f, or_t, or_f]); exact J10)
            · refine x_iload_n (pc' := 5) rfl rfl rfl ?_
              refine x_ineg (pc' := 6) rfl rfl rfl ?_
              refine x_goto (pc' := 10) rfl rfl ?_
              ((try rw [abc_t q10] at J10); (try simp only [cd_t, cd_f, nt_t, nt_f, an_t, an_f, or_t, or_f] at J10); (try simp only [cd_t, cd_f, nt_t, nt_f, an_t, an_f, or_t, or_f]); exact J10)
          refine x_icmp_n (a' := 116) (pc' := 107) (z := decide (b < 3)) rfl rfl rfl (ic_gen (p := b) (q := 3) (gb31 hb) (by decide)) (fun q8 => ?_) (fun q8 => ?_)
          · refine x_iconst (pc' := 117) rfl rfl ?_
            ((try rw [q8] at J8); (try rw [q8]); (try simp only [cd_t, cd_f, nt_t, nt_f, an_t, an_f, or_t, or_f] at J8); (try simp only [cd_t, cd_f, nt_t, nt_f, an_t, an_f, or_t, or_f]); exact J8)
          · refine x_aload_n (pc' := 108) rfl rfl rfl rfl rfl ?_
            refine x_gR (pc' := 111) (r := (some 1)) rfl rfl rfl (kR_771_0 hc) ?_
            refine x_iload_n (pc' := 112) rfl rfl rfl ?_
            refine x_iald (pc' := 113) (N := 3) (x := (mA M 1 b)) rfl rfl rfl (kN_21_1 hc) (io_in (p := b) (N := 3) (of_decide_eq_true q8) (by decide)) (Eq.trans (congrArg (sA t 21 1) (nn_io (p := b) (Nat.lt_trans (of_decide_eq_true q8) (by decide)))) (gA hM rfl)) ?_
            refine x_goto (pc' := 117) rfl rfl ?_
            ((try rw [q8] at J8); (try rw [q8]); (try simp only [cd_t, cd_f, nt_t, nt_f, an_t, an_f, or_t, or_f] at J8); (try simp only [cd_t, cd_f, nt_t, nt_f, an_t, an_f, or_t, or_f]); exact J8)
        refine x_if_n (a' := 9) (pc' := 4) (z := decide (((waF M n b true (mA M 14 k)) - (waF M n b false (mA M 14 k))) < 0)) rfl rfl rfl (ik_ge _ _) (fun q6 => ?_) (fun q6 => ?_)
        · refine x_iload_n (pc' := 10) rfl rfl rfl ?_
          ((try rw [abc_f q6] at J6); (try simp only [cd_t, cd_f, nt_t, nt_f, an_t, an_f, or_t, or_f] at J6); (try simp only [cd_t, cd_f, nt_t, nt_f, an_t, an_f, or_t, or_f]); exact J6)
        · refine x_iload_n (pc' := 5) rfl rfl rfl ?_
          refine x_ineg (pc' := 6) rfl rfl rfl ?_
          refine x_goto (pc' := 10) rfl rfl ?_
          ((try rw [abc_t q6] at J6); (try simp only [cd_t, cd_f, nt_t, nt_f, an_t, an_f, or_t, or_f] at J6); (try simp only [cd_t, cd_f, nt_t, nt_f, an_t, an_f, or_t, or_f]); exact J6)
      refine x_icmp_n (a' := 9) (pc' := 5) (z := decide ((waF M n b true (mA M 14 k)) < (waF M n b false (mA M 14 k)))) rfl rfl rfl (ik_ge _ _) (fun q4 => ?_) (fun q4 => ?_)
      · refine x_iload_n (pc' := 10) rfl rfl rfl ?_
        ((try rw [mnc_f q4] at J4); (try simp only [cd_t, cd_f, nt_t, nt_f, an_t, an_f, or_t, or_f] at J4); (try simp only [cd_t, cd_f, nt_t, nt_f, an_t, an_f, or_t, or_f]); exact J4)
      · refine x_iload_n (pc' := 6) rfl rfl rfl ?_
        refine x_goto (pc' := 10) rfl rfl ?_
        ((try rw [mnc_t q4] at J4); (try simp only [cd_t, cd_f, nt_t, nt_f, an_t, an_f, or_t, or_f] at J4); (try simp only [cd_t, cd_f, nt_t, nt_f, an_t, an_f, or_t, or_f]); exact J4)
set_option maxHeartbeats 4000000 in
set_option maxRecDepth 10000 in
theorem r191_15 {t : sT} {Q : sRs → sT → Prop} {M : sM} {n : Nat} {b : Nat} {f : Int32} {a : Int32} {x : Int32} {y : Int32} {d0 : sV} {d1 : sV} {d2 : sV} {d3 : sV} {d4 : sV} {d5 : sV} {d6 : sV}
    (hM : rp t = M)
    (hc : Cn t)
    (hR : Ri M n)
    (hb : b < 5)
    (q : ∀ (e0 : sV) (e1 : sV) (e2 : sV) (e3 : sV) (e4 : sV) (e5 : sV) (e6 : sV), X 191 15 [.inr (.inr (12, (some 0))), .inl (io b), .inl ((auL M n b f a x y n).1), .inl ((auL M n b f a x y n).2.1), .inl ((auL M n b f a x y n).2.2.1), .inl ((auL M n b f a x y n).2.2.2), .inl (io n), e0, e1, e2, e3, e4, e5, e6] [] t Q) :
    X 191 15 [.inr (.inr (12, (some 0))), .inl (io b), .inl f, .inl a, .inl x, .inl y, .inl (io 0), d0, d1, d2, d3, d4, d5, d6] [] t Q := by
  refine lp0 (n := n) (fun k ls u => (∃ e0 e1 e2 e3 e4 e5 e6, ls = [.inr (.inr (12, (some 0))), .inl (io b), .inl ((auL M n b f a x y k).1), .inl ((auL M n b f a x y k).2.1), .inl ((auL M n b f a x y k).2.2.1), .inl ((auL M n b f a x y k).2.2.2), .inl (io k), e0, e1, e2, e3, e4, e5, e6]) ∧ u = t) ⟨⟨_, _, _, _, _, _, _, rfl⟩, rfl⟩ ?_ ?_
  · rintro k ls u hk ⟨⟨e0, e1, e2, e3, e4, e5, e6, rfl⟩, rfl⟩ ih
    refine r191_15_b hM hc hR hk hb ?_
    intro x0' x1' x2' x3' x4' x5' x6'
    exact ih _ _ ⟨⟨_, _, _, _, _, _, _, rfl⟩, rfl⟩
  · rintro ls u ⟨⟨e0, e1, e2, e3, e4, e5, e6, rfl⟩, rfl⟩
    exact q e0 e1 e2 e3 e4 e5 e6
def auF (M : sM) (n : Nat) (b : Nat) : Int32 := ((auL M n b (-10000) 0 0 0 n).1)
set_option maxHeartbeats 4000000 in
set_option maxRecDepth 10000 in
theorem r191 {t : sT} {Q : sRs → sT → Prop} {M : sM} {n : Nat} {b : Nat}
    (hM : rp t = M)
    (hc : Cn t)
    (hR : Ri M n)
    (hb : b < 5)
    (q : Q (.inl (some (.inl (auF M n b)))) t) :
    X 191 0 [.inr (.inr (12, (some 0))), .inl (io b), sJk, sJk, sJk, sJk, sJk, sJk, sJk, sJk, sJk, sJk, sJk, sJk] [] t Q := by
  refine x_sipush (pc' := 3) rfl rfl ?_
  refine x_istore_n (pc' := 4) (ls' := [_, _, _, _, _, _, _, _, _, _, _, _, _, _]) rfl rfl rfl rfl ?_
  refine x_iconst (pc' := 5) rfl rfl ?_
  refine x_istore_n (pc' := 6) (ls' := [_, _, _, _, _, _, _, _, _, _, _, _, _, _]) rfl rfl rfl rfl ?_
  refine x_iconst (pc' := 7) rfl rfl ?_
  refine x_istore (pc' := 9) (ls' := [_, _, _, _, _, _, _, _, _, _, _, _, _, _]) rfl rfl rfl rfl ?_
  refine x_iconst (pc' := 10) rfl rfl ?_
  refine x_istore (pc' := 12) (ls' := [_, _, _, _, _, _, _, _, _, _, _, _, _, _]) rfl rfl rfl rfl ?_
  refine x_iconst (pc' := 13) rfl rfl ?_
  refine x_istore (pc' := 15) (ls' := [_, _, _, _, _, _, _, _, _, _, _, _, _, _]) rfl rfl rfl rfl ?_
  refine r191_15 (b := b) (f := (-10000)) (a := 0) (x := 0) (y := 0) hM hc (Fr.ri (Fr.refl _) hR) hb (fun y1_0 y1_1 y1_2 y1_3 y1_4 y1_5 y1_6 => ?_)
  refine x_iload (pc' := 17) rfl rfl rfl ?_
  refine x_aload_n (pc' := 18) rfl rfl rfl rfl rfl ?_
  refine x_gI (pc' := 21) (x := (io n)) rfl rfl rfl (gFn hM (Fr.refl _) hR) ?_
  refine x_icmp_n (a' := 263) (pc' := 24) (z := decide (n < n)) rfl rfl rfl (ic_gen (p := n) (q := n) (gn31 hR) (gn31 hR)) (fun _ => ?_) (fun h => absurd (of_decide_eq_true h) (by first | decide | omega | simp))
  refine x_iload_n (pc' := 264) rfl rfl rfl ?_
  refine x_reti rfl rfl ?_
  exact q 
