/-! fail, further pieces (printed by ext99z.py) -/
set_option maxHeartbeats 4000000 in
set_option maxRecDepth 10000 in
theorem n17_k {t : sT} {Q : sRs → sT → Prop} {M : sM} {n : Nat} {T : Nat} {L0 : List Nat} {A : Nat} {B : Nat} {m : Nat} {k : Nat} {c : Nat} {y0 : sV}
    (hW : Wc t M n T L0 A B)
    (hm : m < 6)
    (hk : k < 6)
    (hc3 : c < 3)
    (k0 : X 18 0 [.inr (.inr (3, (some 0))), .inr (.inr (7, (some m))), .inr (.inr (7, (some k))), .inr (.inr (2, (some c))), .inl (ab (mA M 6 ((3 * m) + c))), sJk] [] t (sK 18 17 42 [.inr (.inr (3, (some 0))), .inr (.inr (7, (some m))), .inr (.inr (7, (some k))), .inr (.inr (25, (some 0))), .inl 3, .inl (io c), .inr (.inr (2, (some c)))] [] Q)) :
    X 17 15 [.inr (.inr (3, (some 0))), .inr (.inr (7, (some m))), .inr (.inr (7, (some k))), .inr (.inr (25, (some 0))), .inl 3, .inl (io c), y0] [] t Q := by
  obtain ⟨hM, hc, hR, hC, hL, hL9⟩ := hW
  refine x_iload (pc' := 17) rfl rfl rfl ?_
  refine x_iload (pc' := 19) rfl rfl rfl ?_
  refine x_icmp_n (a' := 51) (pc' := 22) (z := decide (c < 3)) rfl rfl rfl (ic_gen (p := c) (q := 3) (gc31 hc3) (by decide)) (fun h => absurd hc3 (of_decide_eq_false h)) (fun _ => ?_)
  refine x_aload_n (pc' := 23) rfl rfl rfl rfl rfl ?_
  refine x_iload (pc' := 25) rfl rfl rfl ?_
  refine x_aald (pc' := 26) (N := 3) (k' := 2) (r := (some c)) rfl rfl rfl (kN_25_0 hc.1) (io_in (p := c) (N := 3) hc3 (by decide)) (Eq.trans (congrArg (sE t 25 0) (nn_io (p := c) (Nat.lt_trans hc3 (by decide)))) (kK hc.1 hc3)) ?_
  refine x_astore (pc' := 28) (ls' := [_, _, _, _, _, _, _]) rfl rfl rfl rfl rfl ?_
  refine x_aload_n (pc' := 29) rfl rfl rfl rfl rfl ?_
  refine x_aload_n (pc' := 30) rfl rfl rfl rfl rfl ?_
  refine x_aload_n (pc' := 31) rfl rfl rfl rfl rfl ?_
  refine x_aload (pc' := 33) rfl rfl rfl rfl rfl ?_
  refine x_aload_n (pc' := 34) rfl rfl rfl rfl rfl ?_
  refine x_aload (pc' := 36) rfl rfl rfl rfl rfl ?_
  refine x_cv (ls0 := [_, _, sJk]) (rest := [_, _, _, _]) rfl rfl rfl rfl rfl ?_
  refine x_aload_n (pc' := 1) rfl rfl rfl rfl rfl ?_
  refine x_gI (pc' := 4) (x := (io c)) rfl rfl rfl (kKn hc.1 hc3) ?_
  refine x_istore_n (pc' := 5) (ls' := [_, _, _]) rfl rfl rfl rfl ?_
  refine x_iload_n (pc' := 6) rfl rfl rfl ?_
  refine x_if (a' := 27) (pc' := 9) (z := decide (c < 0)) rfl rfl rfl (ic_lt (p := c) (q := 0) (gc31 hc3) (by decide)) (fun h => absurd (of_decide_eq_true h) (by first | decide | omega | simp)) (fun _ => ?_)
  refine x_iload_n (pc' := 10) rfl rfl rfl ?_
  refine x_aload_n (pc' := 11) rfl rfl rfl rfl rfl ?_
  refine x_gR (pc' := 14) (r := (some (m + 1))) rfl rfl rfl (kMp hc.1 hm).1 ?_
  refine x_alen (pc' := 15) (N := 3) rfl rfl rfl (kMp hc.1 hm).2.1 (?_ : X _ _ _ (.inl 3 :: _) _ _)
  refine x_icmp_n (a' := 27) (pc' := 18) (z := decide (c < 3)) rfl rfl rfl (ic_gen (p := c) (q := 3) (gc31 hc3) (by decide)) (fun h => absurd hc3 (of_decide_eq_false h)) (fun _ => ?_)
  refine x_aload_n (pc' := 19) rfl rfl rfl rfl rfl ?_
  refine x_gR (pc' := 22) (r := (some (m + 1))) rfl rfl rfl (kMp hc.1 hm).1 ?_
  refine x_iload_n (pc' := 23) rfl rfl rfl ?_
  refine x_iald (pc' := 24) (N := 3) (x := (mA M 6 ((3 * m) + c))) rfl rfl rfl (kMp hc.1 hm).2.1 (io_in (p := c) (N := 3) hc3 (by decide)) (Eq.trans (congrArg (sA t 20 (m + 1)) (nn_io (p := c) (Nat.lt_trans hc3 (by decide)))) (kP (m := m) (c := c) hM hm hc3)) ?_
  refine x_goto (pc' := 28) rfl rfl ?_
  refine x_reti rfl rfl ?_
  refine sK_i (pc' := 39) rfl ?_
  refine x_abs (pc' := 42) (z := (ab (mA M 6 ((3 * m) + c)))) rfl rfl rfl rfl ?_
  refine x_cv (ls0 := [_, _, _, _, _, sJk]) (rest := []) rfl rfl rfl rfl rfl ?_
  exact k0
set_option maxHeartbeats 4000000 in
set_option maxRecDepth 10000 in
theorem n17_t {t : sT} {Q : sRs → sT → Prop} {M : sM} {n : Nat} {T : Nat} {L0 : List Nat} {A : Nat} {B : Nat} {m : Nat} {k : Nat} {c : Nat} {y0 : sV}
    (hW : Wc t M n T L0 A B)
    (hm : m < 6)
    (hk : k < 6)
    (hc3 : c < 3)
    (k0 : X 17 15 [.inr (.inr (3, (some 0))), .inr (.inr (7, (some m))), .inr (.inr (7, (some k))), .inr (.inr (25, (some 0))), .inl 3, .inl (io (c + 1)), y0] [] t Q) :
    X 17 45 [.inr (.inr (3, (some 0))), .inr (.inr (7, (some m))), .inr (.inr (7, (some k))), .inr (.inr (25, (some 0))), .inl 3, .inl (io c), y0] [] t Q := by
  obtain ⟨hM, hc, hR, hC, hL, hL9⟩ := hW
  refine x_iinc (pc' := 48) (y := (io (c + 1))) (ls' := [_, _, _, _, _, _, _]) rfl rfl rfl (io_add c 1) rfl ?_
  refine x_goto (pc' := 15) rfl rfl ?_
  exact k0
set_option maxHeartbeats 4000000 in
set_option maxRecDepth 10000 in
theorem n17_e {t : sT} {Q : sRs → sT → Prop} {M : sM} {n : Nat} {T : Nat} {L0 : List Nat} {A : Nat} {B : Nat} {m : Nat} {k : Nat} {y0 : sV}
    (hW : Wc t M n T L0 A B)
    (hm : m < 6)
    (hk : k < 6)
    (k0 : Q (.inl none) (sIw (sIw t 451 m ((mA M 5 m) - (mA M 9 k))) 451 k ((mA (mAw M 5 m ((mA M 5 m) - (mA M 9 k))) 5 k) + (mA M 9 k)))) :
    X 17 15 [.inr (.inr (3, (some 0))), .inr (.inr (7, (some m))), .inr (.inr (7, (some k))), .inr (.inr (25, (some 0))), .inl 3, .inl 3, y0] [] t Q := by
  obtain ⟨hM, hc, hR, hC, hL, hL9⟩ := hW
  refine x_iload (pc' := 17) rfl rfl rfl ?_
  refine x_iload (pc' := 19) rfl rfl rfl ?_
  refine x_icmp (a' := 51) (pc' := 22) (z := true) rfl rfl rfl (by decide) (fun _ => ?_) (fun h => by cases h)
  refine x_aload_n (pc' := 52) rfl rfl rfl rfl rfl ?_
  refine x_dup (pc' := 53) rfl rfl rfl ?_
  refine x_gI (pc' := 56) (x := (mA M 5 m)) rfl rfl rfl (kA hM rfl hm) ?_
  refine x_aload_n (pc' := 57) rfl rfl rfl rfl rfl ?_
  refine x_gI (pc' := 60) (x := (mA M 9 k)) rfl rfl rfl (kA hM rfl hk) ?_
  refine x_isub (pc' := 61) (z := ((mA M 5 m) - (mA M 9 k))) rfl rfl rfl ?_
  refine x_pI (pc' := 64) rfl rfl rfl ?_
  refine x_aload_n (pc' := 65) rfl rfl rfl rfl rfl ?_
  refine x_dup (pc' := 66) rfl rfl rfl ?_
  refine x_gI (pc' := 69) (x := (mA (mAw M 5 m ((mA M 5 m) - (mA M 9 k))) 5 k)) rfl rfl rfl (kA (Rl_I rfl hM) rfl hk) ?_
  refine x_aload_n (pc' := 70) rfl rfl rfl rfl rfl ?_
  refine x_gI (pc' := 73) (x := (mA M 9 k)) rfl rfl rfl (Eq.trans (b := sI t 456 k) rfl (kA hM rfl hk)) ?_
  refine x_iadd (pc' := 74) (z := ((mA (mAw M 5 m ((mA M 5 m) - (mA M 9 k))) 5 k) + (mA M 9 k))) rfl rfl rfl ?_
  refine x_pI (pc' := 77) rfl rfl rfl ?_
  refine x_ret rfl ?_
  exact k0
set_option maxHeartbeats 4000000 in
set_option maxRecDepth 10000 in
theorem n19_k {t : sT} {Q : sRs → sT → Prop} {M : sM} {n : Nat} {T : Nat} {L0 : List Nat} {A : Nat} {B : Nat} {m : Nat} {c : Nat} {y0 : sV}
    (hW : Wc t M n T L0 A B)
    (hm : m < 6)
    (hc3 : c < 3)
    (k0 : X 20 0 [.inr (.inr (3, (some 0))), .inr (.inr (7, (some m))), .inr (.inr (2, (some c))), sJk, sJk, sJk, sJk, sJk, sJk, sJk, sJk] [] t (sK 20 19 30 [.inr (.inr (3, (some 0))), .inr (.inr (7, (some m))), .inr (.inr (25, (some 0))), .inl 3, .inl (io c), .inr (.inr (2, (some c)))] [] Q)) :
    X 19 14 [.inr (.inr (3, (some 0))), .inr (.inr (7, (some m))), .inr (.inr (25, (some 0))), .inl 3, .inl (io c), y0] [] t Q := by
  obtain ⟨hM, hc, hR, hC, hL, hL9⟩ := hW
  refine x_iload (pc' := 16) rfl rfl rfl ?_
  refine x_iload_n (pc' := 17) rfl rfl rfl ?_
  refine x_icmp_n (a' := 39) (pc' := 20) (z := decide (c < 3)) rfl rfl rfl (ic_gen (p := c) (q := 3) (gc31 hc3) (by decide)) (fun h => absurd hc3 (of_decide_eq_false h)) (fun _ => ?_)
  refine x_aload_n (pc' := 21) rfl rfl rfl rfl rfl ?_
  refine x_iload (pc' := 23) rfl rfl rfl ?_
  refine x_aald (pc' := 24) (N := 3) (k' := 2) (r := (some c)) rfl rfl rfl (kN_25_0 hc.1) (io_in (p := c) (N := 3) hc3 (by decide)) (Eq.trans (congrArg (sE t 25 0) (nn_io (p := c) (Nat.lt_trans hc3 (by decide)))) (kK hc.1 hc3)) ?_
  refine x_astore (pc' := 26) (ls' := [_, _, _, _, _, _]) rfl rfl rfl rfl rfl ?_
  refine x_aload_n (pc' := 27) rfl rfl rfl rfl rfl ?_
  refine x_aload_n (pc' := 28) rfl rfl rfl rfl rfl ?_
  refine x_aload (pc' := 30) rfl rfl rfl rfl rfl ?_
  refine x_cv (ls0 := [_, _, _, sJk, sJk, sJk, sJk, sJk, sJk, sJk, sJk]) (rest := []) rfl rfl rfl rfl rfl ?_
  exact k0
set_option maxHeartbeats 4000000 in
set_option maxRecDepth 10000 in
theorem n19_t {t : sT} {Q : sRs → sT → Prop} {M : sM} {n : Nat} {T : Nat} {L0 : List Nat} {A : Nat} {B : Nat} {m : Nat} {c : Nat} {y0 : sV}
    (hW : Wc t M n T L0 A B)
    (hm : m < 6)
    (hc3 : c < 3)
    (k0 : X 19 14 [.inr (.inr (3, (some 0))), .inr (.inr (7, (some m))), .inr (.inr (25, (some 0))), .inl 3, .inl (io (c + 1)), y0] [] t Q) :
    X 19 33 [.inr (.inr (3, (some 0))), .inr (.inr (7, (some m))), .inr (.inr (25, (some 0))), .inl 3, .inl (io c), y0] [] t Q := by
  obtain ⟨hM, hc, hR, hC, hL, hL9⟩ := hW
  refine x_iinc (pc' := 36) (y := (io (c + 1))) (ls' := [_, _, _, _, _, _]) rfl rfl rfl (io_add c 1) rfl ?_
  refine x_goto (pc' := 14) rfl rfl ?_
  exact k0
set_option maxHeartbeats 4000000 in
set_option maxRecDepth 10000 in
theorem n19_e {t : sT} {Q : sRs → sT → Prop} {M : sM} {n : Nat} {T : Nat} {L0 : List Nat} {A : Nat} {B : Nat} {m : Nat} {y0 : sV}
    (hW : Wc t M n T L0 A B)
    (hm : m < 6)
    (k0 : Q (.inl none) t) :
    X 19 14 [.inr (.inr (3, (some 0))), .inr (.inr (7, (some m))), .inr (.inr (25, (some 0))), .inl 3, .inl 3, y0] [] t Q := by
  obtain ⟨hM, hc, hR, hC, hL, hL9⟩ := hW
  refine x_iload (pc' := 16) rfl rfl rfl ?_
  refine x_iload_n (pc' := 17) rfl rfl rfl ?_
  refine x_icmp (a' := 39) (pc' := 20) (z := true) rfl rfl rfl (by decide) (fun _ => ?_) (fun h => by cases h)
  refine x_ret rfl ?_
  exact k0
set_option maxHeartbeats 4000000 in
set_option maxRecDepth 10000 in
theorem n18_e {t : sT} {Q : sRs → sT → Prop} {M : sM} {n : Nat} {T : Nat} {L0 : List Nat} {A : Nat} {B : Nat} {m : Nat} {k : Nat} {c : Nat} {a : Int32} {p : Int32}
    (hW : Wc t M n T L0 A B)
    (hm : m < 6)
    (hk : k < 6)
    (hc3 : c < 3)
    (k0 : Q (.inl none) t) :
    X 18 54 [.inr (.inr (3, (some 0))), .inr (.inr (7, (some m))), .inr (.inr (7, (some k))), .inr (.inr (2, (some c))), .inl a, .inl p] [] t Q := by
  obtain ⟨hM, hc, hR, hC, hL, hL9⟩ := hW
  refine x_ret rfl ?_
  exact k0
set_option maxHeartbeats 4000000 in
set_option maxRecDepth 10000 in
theorem r219_1n {t : sT} {Q : sRs → sT → Prop} {M : sM} {n : Nat} {m : Nat} {z : Bool} {y0 : sV} {y1 : sV}
    (hV : Vr t M n)
    (hm : m < 6)
    (k0 : X 219 97 [.inr (.inr (12, (some 0))), .inl (io m), .inl (bz z), .inl (-1), .inl 0, sJk] [] t Q) :
    X 219 93 [.inr (.inr (12, (some 0))), .inl (io m), .inl (bz z), y0, y1, sJk] [.inl (-1)] t Q := by
  obtain ⟨hM, hc, hR⟩ := hV
  refine x_istore_n (pc' := 94) (ls' := [_, _, _, _, _, _]) rfl rfl rfl rfl ?_
  refine x_iconst (pc' := 95) rfl rfl ?_
  refine x_istore (pc' := 97) (ls' := [_, _, _, _, _, _]) rfl rfl rfl rfl ?_
  exact k0
set_option maxHeartbeats 4000000 in
set_option maxRecDepth 10000 in
theorem r219_2n {t : sT} {Q : sRs → sT → Prop} {M : sM} {n : Nat} {m : Nat} {z : Bool} {c : Nat} {y0 : sV}
    (hV : Vr t M n)
    (hm : m < 6)
    (hc3 : c < 3)
    (g0 : ((3 * m) + c) < 18)
    (k0 : ¬ ((mA M 6 ((3 * m) + c)) < 0) → X 215 0 [.inr (.inr (12, (some 0))), .inl (io c), .inl (io m), sJk, sJk, sJk, sJk, sJk] [] t (sK 215 219 128 [.inr (.inr (12, (some 0))), .inl (io m), .inl (bz z), .inl (-1), .inl (io c), .inl (mA M 6 ((3 * m) + c))] [] Q))
    (k1 : (mA M 6 ((3 * m) + c)) < 0 → X 215 0 [.inr (.inr (12, (some 0))), .inl (io c), .inl (io m), sJk, sJk, sJk, sJk, sJk] [] t (sK 215 219 128 [.inr (.inr (12, (some 0))), .inl (io m), .inl (bz z), .inl (-1), .inl (io c), .inl (-(mA M 6 ((3 * m) + c)))] [] Q)) :
    X 219 97 [.inr (.inr (12, (some 0))), .inl (io m), .inl (bz z), .inl (-1), .inl (io c), y0] [] t Q := by
  obtain ⟨hM, hc, hR⟩ := hV
  refine x_iload (pc' := 99) rfl rfl rfl ?_
  refine x_iconst (pc' := 100) rfl rfl ?_
  refine x_icmp_n (a' := 155) (pc' := 103) (z := decide (c < 3)) rfl rfl rfl (ic_gen (p := c) (q := 3) (gc31 hc3) (by decide)) (fun h => absurd hc3 (of_decide_eq_false h)) (fun _ => ?_)
  refine x_aload_n (pc' := 104) rfl rfl rfl rfl rfl ?_
  refine x_gR (pc' := 107) (r := (some 6)) rfl rfl rfl (kR_776_0 hc) ?_
  refine x_iconst (pc' := 108) rfl rfl ?_
  refine x_iload_n (pc' := 109) rfl rfl rfl ?_
  refine x_imul (pc' := 110) (z := (io (3 * m))) rfl rfl (io_mul 3 m) ?_
  refine x_iload (pc' := 112) rfl rfl rfl ?_
  refine x_iadd (pc' := 113) (z := (io ((3 * m) + c))) rfl rfl (io_add (3 * m) c) ?_
  refine x_iald (pc' := 114) (N := 18) (x := (mA M 6 ((3 * m) + c))) rfl rfl rfl (kN_21_6 hc) (io_in (p := ((3 * m) + c)) (N := 18) g0 (by decide)) (Eq.trans (congrArg (sA t 21 6) (nn_io (p := ((3 * m) + c)) (Nat.lt_trans g0 (by decide)))) (gA hM rfl)) ?_
  refine x_cs (ls0 := [_]) (rest := []) rfl rfl rfl rfl ?_
  refine x_iload_n (pc' := 1) rfl rfl rfl ?_
  refine x_if_n (a' := 9) (pc' := 4) (z := decide ((mA M 6 ((3 * m) + c)) < 0)) rfl rfl rfl (ik_ge _ _) (fun q2 => ?_) (fun q2 => ?_)
  · refine x_iload_n (pc' := 10) rfl rfl rfl ?_
    refine x_reti rfl rfl ?_
    refine sK_i (pc' := 117) rfl ?_
    refine x_istore (pc' := 119) (ls' := [_, _, _, _, _, _]) rfl rfl rfl rfl ?_
    refine x_iload_n (pc' := 120) rfl rfl rfl ?_
    refine x_iconst (pc' := 121) rfl rfl ?_
    refine x_icmp (a' := 134) (pc' := 124) (z := false) rfl rfl rfl (by decide) (fun h => by cases h) (fun _ => ?_)
    refine x_aload_n (pc' := 125) rfl rfl rfl rfl rfl ?_
    refine x_iload (pc' := 127) rfl rfl rfl ?_
    refine x_iload_n (pc' := 128) rfl rfl rfl ?_
    refine x_cv (ls0 := [_, _, _, sJk, sJk, sJk, sJk, sJk]) (rest := []) rfl rfl rfl rfl rfl ?_
    exact k0 (of_decide_eq_false q2)
  · refine x_iload_n (pc' := 5) rfl rfl rfl ?_
    refine x_ineg (pc' := 6) rfl rfl rfl ?_
    refine x_goto (pc' := 10) rfl rfl ?_
    refine x_reti rfl rfl ?_
    refine sK_i (pc' := 117) rfl ?_
    refine x_istore (pc' := 119) (ls' := [_, _, _, _, _, _]) rfl rfl rfl rfl ?_
    refine x_iload_n (pc' := 120) rfl rfl rfl ?_
    refine x_iconst (pc' := 121) rfl rfl ?_
    refine x_icmp (a' := 134) (pc' := 124) (z := false) rfl rfl rfl (by decide) (fun h => by cases h) (fun _ => ?_)
    refine x_aload_n (pc' := 125) rfl rfl rfl rfl rfl ?_
    refine x_iload (pc' := 127) rfl rfl rfl ?_
    refine x_iload_n (pc' := 128) rfl rfl rfl ?_
    refine x_cv (ls0 := [_, _, _, sJk, sJk, sJk, sJk, sJk]) (rest := []) rfl rfl rfl rfl rfl ?_
    exact k1 (of_decide_eq_true q2)
set_option maxHeartbeats 4000000 in
set_option maxRecDepth 10000 in
theorem r219_3n {t : sT} {Q : sRs → sT → Prop} {M : sM} {n : Nat} {m : Nat} {z : Bool} {y0 : sV}
    (hV : Vr t M n)
    (hm : m < 6)
    (k0 : ¬ ((fdF (mBw (mBw (mBw (mBw (mBw (mBw M 1 0 false) 1 1 false) 1 2 false) 1 3 false) 1 4 false) 1 5 false) n m) < 0) → Q (.inl (some (.inl (-1)))) (sAw (sAw (sAw (sBw (sBw (sBw (sBw (sBw (sBw (sBw t 22 1 0 false) 22 1 1 false) 22 1 2 false) 22 1 3 false) 22 1 4 false) 22 1 5 false) 22 2 m true) 21 5 m 0) 21 4 m 0) 21 7 m 0))
    (k1 : (fdF (mBw (mBw (mBw (mBw (mBw (mBw M 1 0 false) 1 1 false) 1 2 false) 1 3 false) 1 4 false) 1 5 false) n m) < 0 → X 218 0 [.inr (.inr (12, (some 0))), .inl (io m), sJk, sJk, sJk] [] (sBw (sBw (sBw (sBw (sBw (sBw t 22 1 0 false) 22 1 1 false) 22 1 2 false) 22 1 3 false) 22 1 4 false) 22 1 5 false) (sK 218 219 224 [.inr (.inr (12, (some 0))), .inl (io m), .inl (bz z), .inl (-1), .inl 6, y0] [] Q)) :
    X 219 97 [.inr (.inr (12, (some 0))), .inl (io m), .inl (bz z), .inl (-1), .inl 3, y0] [] t Q := by
  obtain ⟨hM, hc, hR⟩ := hV
  refine x_iload (pc' := 99) rfl rfl rfl ?_
  refine x_iconst (pc' := 100) rfl rfl ?_
  refine x_icmp (a' := 155) (pc' := 103) (z := true) rfl rfl rfl (by decide) (fun _ => ?_) (fun h => by cases h)
  refine x_iload_n (pc' := 156) rfl rfl rfl ?_
  refine x_iconst (pc' := 157) rfl rfl ?_
  refine x_icmp (a' := 190) (pc' := 160) (z := true) rfl rfl rfl (by decide) (fun _ => ?_) (fun h => by cases h)
  refine x_iconst (pc' := 191) rfl rfl ?_
  refine x_istore (pc' := 193) (ls' := [_, _, _, _, _, _]) rfl rfl rfl rfl ?_
  refine x_iload (pc' := 195) rfl rfl rfl ?_
  refine x_bipush (pc' := 197) rfl rfl ?_
  refine x_icmp (a' := 214) (pc' := 200) (z := false) rfl rfl rfl (by decide) (fun h => by cases h) (fun _ => ?_)
  refine x_aload_n (pc' := 201) rfl rfl rfl rfl rfl ?_
  refine x_gR (pc' := 204) (r := (some 1)) rfl rfl rfl (kR_780_0 hc) ?_
  refine x_iload (pc' := 206) rfl rfl rfl ?_
  refine x_iconst (pc' := 207) rfl rfl ?_
  refine x_bast (pc' := 208) (N := 6) (p := 0) (z := false) rfl rfl (kN_22_1 hc) (io_in (p := 0) (N := 6) (by decide) (by decide)) (nn_io (p := 0) (by decide)) rfl ?_
  refine x_iinc (pc' := 211) (y := 1) (ls' := [_, _, _, _, _, _]) rfl rfl rfl rfl rfl ?_
  refine x_goto (pc' := 193) rfl rfl ?_
  refine x_iload (pc' := 195) rfl rfl rfl ?_
  refine x_bipush (pc' := 197) rfl rfl ?_
  refine x_icmp (a' := 214) (pc' := 200) (z := false) rfl rfl rfl (by decide) (fun h => by cases h) (fun _ => ?_)
  refine x_aload_n (pc' := 201) rfl rfl rfl rfl rfl ?_
  refine x_gR (pc' := 204) (r := (some 1)) rfl rfl rfl (Eq.trans (b := sR t 780 0) rfl (kR_780_0 hc)) ?_
  refine x_iload (pc' := 206) rfl rfl rfl ?_
  refine x_iconst (pc' := 207) rfl rfl ?_
  refine x_bast (pc' := 208) (N := 6) (p := 1) (z := false) rfl rfl (Eq.trans rdNB (kN_22_1 hc)) (io_in (p := 1) (N := 6) (by decide) (by decide)) (nn_io (p := 1) (by decide)) rfl ?_
  refine x_iinc (pc' := 211) (y := 2) (ls' := [_, _, _, _, _, _]) rfl rfl rfl rfl rfl ?_
  refine x_goto (pc' := 193) rfl rfl ?_
  refine x_iload (pc' := 195) rfl rfl rfl ?_
  refine x_bipush (pc' := 197) rfl rfl ?_
  refine x_icmp (a' := 214) (pc' := 200) (z := false) rfl rfl rfl (by decide) (fun h => by cases h) (fun _ => ?_)
  refine x_aload_n (pc' := 201) rfl rfl rfl rfl rfl ?_
  refine x_gR (pc' := 204) (r := (some 1)) rfl rfl rfl (Eq.trans (b := sR t 780 0) rfl (kR_780_0 hc)) ?_
  refine x_iload (pc' := 206) rfl rfl rfl ?_
  refine x_iconst (pc' := 207) rfl rfl ?_
  refine x_bast (pc' := 208) (N := 6) (p := 2) (z := false) rfl rfl (Eq.trans rdNB (Eq.trans rdNB (kN_22_1 hc))) (io_in (p := 2) (N := 6) (by decide) (by decide)) (nn_io (p := 2) (by decide)) rfl ?_
  refine x_iinc (pc' := 211) (y := 3) (ls' := [_, _, _, _, _, _]) rfl rfl rfl rfl rfl ?_
  refine x_goto (pc' := 193) rfl rfl ?_
  refine x_iload (pc' := 195) rfl rfl rfl ?_
  refine x_bipush (pc' := 197) rfl rfl ?_
  refine x_icmp (a' := 214) (pc' := 200) (z := false) rfl rfl rfl (by decide) (fun h => by cases h) (fun _ => ?_)
  refine x_aload_n (pc' := 201) rfl rfl rfl rfl rfl ?_
  refine x_gR (pc' := 204) (r := (some 1)) rfl rfl rfl (Eq.trans (b := sR t 780 0) rfl (kR_780_0 hc)) ?_
  refine x_iload (pc' := 206) rfl rfl rfl ?_
  refine x_iconst (pc' := 207) rfl rfl ?_
  refine x_bast (pc' := 208) (N := 6) (p := 3) (z := false) rfl rfl (Eq.trans rdNB (Eq.trans rdNB (Eq.trans rdNB (kN_22_1 hc)))) (io_in (p := 3) (N := 6) (by decide) (by decide)) (nn_io (p := 3) (by decide)) rfl ?_
  refine x_iinc (pc' := 211) (y := 4) (ls' := [_, _, _, _, _, _]) rfl rfl rfl rfl rfl ?_
  refine x_goto (pc' := 193) rfl rfl ?_
  refine x_iload (pc' := 195) rfl rfl rfl ?_
  refine x_bipush (pc' := 197) rfl rfl ?_
  refine x_icmp (a' := 214) (pc' := 200) (z := false) rfl rfl rfl (by decide) (fun h => by cases h) (fun _ => ?_)
  refine x_aload_n (pc' := 201) rfl rfl rfl rfl rfl ?_
  refine x_gR (pc' := 204) (r := (some 1)) rfl rfl rfl (Eq.trans (b := sR t 780 0) rfl (kR_780_0 hc)) ?_
  refine x_iload (pc' := 206) rfl rfl rfl ?_
  refine x_iconst (pc' := 207) rfl rfl ?_
  refine x_bast (pc' := 208) (N := 6) (p := 4) (z := false) rfl rfl (Eq.trans rdNB (Eq.trans rdNB (Eq.trans rdNB (Eq.trans rdNB (kN_22_1 hc))))) (io_in (p := 4) (N := 6) (by decide) (by decide)) (nn_io (p := 4) (by decide)) rfl ?_
  refine x_iinc (pc' := 211) (y := 5) (ls' := [_, _, _, _, _, _]) rfl rfl rfl rfl rfl ?_
  refine x_goto (pc' := 193) rfl rfl ?_
  refine x_iload (pc' := 195) rfl rfl rfl ?_
  refine x_bipush (pc' := 197) rfl rfl ?_
  refine x_icmp (a' := 214) (pc' := 200) (z := false) rfl rfl rfl (by decide) (fun h => by cases h) (fun _ => ?_)
  refine x_aload_n (pc' := 201) rfl rfl rfl rfl rfl ?_
  refine x_gR (pc' := 204) (r := (some 1)) rfl rfl rfl (Eq.trans (b := sR t 780 0) rfl (kR_780_0 hc)) ?_
  refine x_iload (pc' := 206) rfl rfl rfl ?_
  refine x_iconst (pc' := 207) rfl rfl ?_
  refine x_bast (pc' := 208) (N := 6) (p := 5) (z := false) rfl rfl (Eq.trans rdNB (Eq.trans rdNB (Eq.trans rdNB (Eq.trans rdNB (Eq.trans rdNB (kN_22_1 hc)))))) (io_in (p := 5) (N := 6) (by decide) (by decide)) (nn_io (p := 5) (by decide)) rfl ?_
  refine x_iinc (pc' := 211) (y := 6) (ls' := [_, _, _, _, _, _]) rfl rfl rfl rfl rfl ?_
  refine x_goto (pc' := 193) rfl rfl ?_
  refine x_iload (pc' := 195) rfl rfl rfl ?_
  refine x_bipush (pc' := 197) rfl rfl ?_
  refine x_icmp (a' := 214) (pc' := 200) (z := true) rfl rfl rfl (by decide) (fun _ => ?_) (fun h => by cases h)
  refine x_aload_n (pc' := 215) rfl rfl rfl rfl rfl ?_
  refine x_iload_n (pc' := 216) rfl rfl rfl ?_
  refine x_cv (ls0 := [_, _, sJk, sJk]) (rest := []) rfl rfl rfl rfl rfl ?_
  refine r182 (rp_B.trans (congrArg (fun z => mBw z 1 5 false) (rp_B.trans (congrArg (fun z => mBw z 1 4 false) (rp_B.trans (congrArg (fun z => mBw z 1 3 false) (rp_B.trans (congrArg (fun z => mBw z 1 2 false) (rp_B.trans (congrArg (fun z => mBw z 1 1 false) (rp_B.trans (congrArg (fun z => mBw z 1 0 false) hM)))))))))))) (Cn_cp (cp_B.trans (cp_B.trans (cp_B.trans (cp_B.trans (cp_B.trans cp_B))))) hc) (Fr.ri (Fr_B rfl (Fr_B rfl (Fr_B rfl (Fr_B rfl (Fr_B rfl (Fr_B rfl (Fr.refl _))))))) hR) hm ?_
  refine sK_i (pc' := 219) rfl ?_
  refine x_if_n (a' := 227) (pc' := 222) (z := decide ((fdF (mBw (mBw (mBw (mBw (mBw (mBw M 1 0 false) 1 1 false) 1 2 false) 1 3 false) 1 4 false) 1 5 false) n m) < 0)) rfl rfl rfl (ik_ge _ _) (fun q10 => ?_) (fun q10 => ?_)
  · refine x_aload_n (pc' := 228) rfl rfl rfl rfl rfl ?_
    refine x_gR (pc' := 231) (r := (some 2)) rfl rfl rfl (Eq.trans (b := sR t 781 0) rfl (kR_781_0 hc)) ?_
    refine x_iload_n (pc' := 232) rfl rfl rfl ?_
    refine x_iconst (pc' := 233) rfl rfl ?_
    refine x_bast (pc' := 234) (N := 6) (p := m) (z := true) rfl rfl (Eq.trans rdNB (Eq.trans rdNB (Eq.trans rdNB (Eq.trans rdNB (Eq.trans rdNB (Eq.trans rdNB (kN_22_2 hc))))))) (io_in (p := m) (N := 6) hm (by decide)) (nn_io (p := m) (Nat.lt_trans hm (by decide))) rfl ?_
    refine x_aload_n (pc' := 235) rfl rfl rfl rfl rfl ?_
    refine x_gR (pc' := 238) (r := (some 5)) rfl rfl rfl (Eq.trans (b := sR t 775 0) rfl (kR_775_0 hc)) ?_
    refine x_iload_n (pc' := 239) rfl rfl rfl ?_
    refine x_iconst (pc' := 240) rfl rfl ?_
    refine x_iast (pc' := 241) (N := 6) (p := m) rfl rfl rfl (Eq.trans rdNB (Eq.trans rdNB (Eq.trans rdNB (Eq.trans rdNB (Eq.trans rdNB (Eq.trans rdNB (Eq.trans rdNB (kN_21_5 hc)))))))) (io_in (p := m) (N := 6) hm (by decide)) (nn_io (p := m) (Nat.lt_trans hm (by decide))) ?_
    refine x_aload_n (pc' := 242) rfl rfl rfl rfl rfl ?_
    refine x_gR (pc' := 245) (r := (some 4)) rfl rfl rfl (Eq.trans (b := sR t 774 0) rfl (kR_774_0 hc)) ?_
    refine x_iload_n (pc' := 246) rfl rfl rfl ?_
    refine x_iconst (pc' := 247) rfl rfl ?_
    refine x_iast (pc' := 248) (N := 6) (p := m) rfl rfl rfl (Eq.trans rdNA (Eq.trans rdNB (Eq.trans rdNB (Eq.trans rdNB (Eq.trans rdNB (Eq.trans rdNB (Eq.trans rdNB (Eq.trans rdNB (kN_21_4 hc))))))))) (io_in (p := m) (N := 6) hm (by decide)) (nn_io (p := m) (Nat.lt_trans hm (by decide))) ?_
    refine x_aload_n (pc' := 249) rfl rfl rfl rfl rfl ?_
    refine x_gR (pc' := 252) (r := (some 7)) rfl rfl rfl (Eq.trans (b := sR t 777 0) rfl (kR_777_0 hc)) ?_
    refine x_iload_n (pc' := 253) rfl rfl rfl ?_
    refine x_iconst (pc' := 254) rfl rfl ?_
    refine x_iast (pc' := 255) (N := 6) (p := m) rfl rfl rfl (Eq.trans rdNA (Eq.trans rdNA (Eq.trans rdNB (Eq.trans rdNB (Eq.trans rdNB (Eq.trans rdNB (Eq.trans rdNB (Eq.trans rdNB (Eq.trans rdNB (kN_21_7 hc)))))))))) (io_in (p := m) (N := 6) hm (by decide)) (nn_io (p := m) (Nat.lt_trans hm (by decide))) ?_
    refine x_iload_n (pc' := 256) rfl rfl rfl ?_
    refine x_reti rfl rfl ?_
    exact k0 (of_decide_eq_false q10)
  · refine x_aload_n (pc' := 223) rfl rfl rfl rfl rfl ?_
    refine x_iload_n (pc' := 224) rfl rfl rfl ?_
    refine x_cv (ls0 := [_, _, sJk, sJk, sJk]) (rest := []) rfl rfl rfl rfl rfl ?_
    exact k1 (of_decide_eq_true q10)
set_option maxHeartbeats 4000000 in
set_option maxRecDepth 10000 in
theorem r219_5n {t : sT} {Q : sRs → sT → Prop} {M : sM} {n : Nat} {m : Nat} {z : Bool} {y0 : sV} {d : Int32}
    (hV : Vr t M n)
    (hm : m < 6)
    (k0 : Q (.inl (some (.inl (-1)))) (sAw (sAw (sAw (sBw t 22 2 m true) 21 5 m 0) 21 4 m 0) 21 7 m 0)) :
    X 219 227 [.inr (.inr (12, (some 0))), .inl (io m), .inl (bz z), .inl (-1), .inl d, y0] [] t Q := by
  obtain ⟨hM, hc, hR⟩ := hV
  refine x_aload_n (pc' := 228) rfl rfl rfl rfl rfl ?_
  refine x_gR (pc' := 231) (r := (some 2)) rfl rfl rfl (kR_781_0 hc) ?_
  refine x_iload_n (pc' := 232) rfl rfl rfl ?_
  refine x_iconst (pc' := 233) rfl rfl ?_
  refine x_bast (pc' := 234) (N := 6) (p := m) (z := true) rfl rfl (kN_22_2 hc) (io_in (p := m) (N := 6) hm (by decide)) (nn_io (p := m) (Nat.lt_trans hm (by decide))) rfl ?_
  refine x_aload_n (pc' := 235) rfl rfl rfl rfl rfl ?_
  refine x_gR (pc' := 238) (r := (some 5)) rfl rfl rfl (Eq.trans (b := sR t 775 0) rfl (kR_775_0 hc)) ?_
  refine x_iload_n (pc' := 239) rfl rfl rfl ?_
  refine x_iconst (pc' := 240) rfl rfl ?_
  refine x_iast (pc' := 241) (N := 6) (p := m) rfl rfl rfl (Eq.trans rdNB (kN_21_5 hc)) (io_in (p := m) (N := 6) hm (by decide)) (nn_io (p := m) (Nat.lt_trans hm (by decide))) ?_
  refine x_aload_n (pc' := 242) rfl rfl rfl rfl rfl ?_
  refine x_gR (pc' := 245) (r := (some 4)) rfl rfl rfl (Eq.trans (b := sR t 774 0) rfl (kR_774_0 hc)) ?_
  refine x_iload_n (pc' := 246) rfl rfl rfl ?_
  refine x_iconst (pc' := 247) rfl rfl ?_
  refine x_iast (pc' := 248) (N := 6) (p := m) rfl rfl rfl (Eq.trans rdNA (Eq.trans rdNB (kN_21_4 hc))) (io_in (p := m) (N := 6) hm (by decide)) (nn_io (p := m) (Nat.lt_trans hm (by decide))) ?_
  refine x_aload_n (pc' := 249) rfl rfl rfl rfl rfl ?_
  refine x_gR (pc' := 252) (r := (some 7)) rfl rfl rfl (Eq.trans (b := sR t 777 0) rfl (kR_777_0 hc)) ?_
  refine x_iload_n (pc' := 253) rfl rfl rfl ?_
  refine x_iconst (pc' := 254) rfl rfl ?_
  refine x_iast (pc' := 255) (N := 6) (p := m) rfl rfl rfl (Eq.trans rdNA (Eq.trans rdNA (Eq.trans rdNB (kN_21_7 hc)))) (io_in (p := m) (N := 6) hm (by decide)) (nn_io (p := m) (Nat.lt_trans hm (by decide))) ?_
  refine x_iload_n (pc' := 256) rfl rfl rfl ?_
  refine x_reti rfl rfl ?_
  exact k0
set_option maxHeartbeats 4000000 in
set_option maxRecDepth 10000 in
theorem r219_1s {t : sT} {Q : sRs → sT → Prop} {M : sM} {n : Nat} {m : Nat} {z : Bool} {k : Nat} {y0 : sV} {y1 : sV}
    (hV : Vr t M n)
    (hm : m < 6)
    (hk : k < 6)
    (k0 : X 219 97 [.inr (.inr (12, (some 0))), .inl (io m), .inl (bz z), .inl (io k), .inl 0, sJk] [] t Q) :
    X 219 93 [.inr (.inr (12, (some 0))), .inl (io m), .inl (bz z), y0, y1, sJk] [.inl (io k)] t Q := by
  obtain ⟨hM, hc, hR⟩ := hV
  refine x_istore_n (pc' := 94) (ls' := [_, _, _, _, _, _]) rfl rfl rfl rfl ?_
  refine x_iconst (pc' := 95) rfl rfl ?_
  refine x_istore (pc' := 97) (ls' := [_, _, _, _, _, _]) rfl rfl rfl rfl ?_
  exact k0
set_option maxHeartbeats 4000000 in
set_option maxRecDepth 10000 in
theorem r219_2s {t : sT} {Q : sRs → sT → Prop} {M : sM} {n : Nat} {m : Nat} {z : Bool} {k : Nat} {c : Nat} {y0 : sV}
    (hV : Vr t M n)
    (hm : m < 6)
    (hk : k < 6)
    (hc3 : c < 3)
    (g0 : ((3 * m) + c) < 18)
    (k0 : ¬ ((mA M 6 ((3 * m) + c)) < 0) → ¬ ((io k) = (-1)) → ¬ (0 < (mA M 6 ((3 * m) + c))) → X 219 97 [.inr (.inr (12, (some 0))), .inl (io m), .inl (bz z), .inl (io k), .inl (io (c + 1)), .inl (mA M 6 ((3 * m) + c))] [] t Q)
    (k1 : ¬ ((mA M 6 ((3 * m) + c)) < 0) → ¬ ((io k) = (-1)) → 0 < (mA M 6 ((3 * m) + c)) → X 214 0 [.inr (.inr (12, (some 0))), .inl (io c), .inl (io m), .inl (io k), .inl (mA M 6 ((3 * m) + c)), sJk] [] t (sK 214 219 146 [.inr (.inr (12, (some 0))), .inl (io m), .inl (bz z), .inl (io k), .inl (io c), .inl (mA M 6 ((3 * m) + c))] [] Q))
    (k2 : ¬ ((mA M 6 ((3 * m) + c)) < 0) → (io k) = (-1) → X 215 0 [.inr (.inr (12, (some 0))), .inl (io c), .inl (io m), sJk, sJk, sJk, sJk, sJk] [] t (sK 215 219 128 [.inr (.inr (12, (some 0))), .inl (io m), .inl (bz z), .inl (io k), .inl (io c), .inl (mA M 6 ((3 * m) + c))] [] Q))
    (k3 : (mA M 6 ((3 * m) + c)) < 0 → ¬ ((io k) = (-1)) → ¬ (0 < (-(mA M 6 ((3 * m) + c)))) → X 219 97 [.inr (.inr (12, (some 0))), .inl (io m), .inl (bz z), .inl (io k), .inl (io (c + 1)), .inl (-(mA M 6 ((3 * m) + c)))] [] t Q)
    (k4 : (mA M 6 ((3 * m) + c)) < 0 → ¬ ((io k) = (-1)) → 0 < (-(mA M 6 ((3 * m) + c))) → X 214 0 [.inr (.inr (12, (some 0))), .inl (io c), .inl (io m), .inl (io k), .inl (-(mA M 6 ((3 * m) + c))), sJk] [] t (sK 214 219 146 [.inr (.inr (12, (some 0))), .inl (io m), .inl (bz z), .inl (io k), .inl (io c), .inl (-(mA M 6 ((3 * m) + c)))] [] Q))
    (k5 : (mA M 6 ((3 * m) + c)) < 0 → (io k) = (-1) → X 215 0 [.inr (.inr (12, (some 0))), .inl (io c), .inl (io m), sJk, sJk, sJk, sJk, sJk] [] t (sK 215 219 128 [.inr (.inr (12, (some 0))), .inl (io m), .inl (bz z), .inl (io k), .inl (io c), .inl (-(mA M 6 ((3 * m) + c)))] [] Q)) :
    X 219 97 [.inr (.inr (12, (some 0))), .inl (io m), .inl (bz z), .inl (io k), .inl (io c), y0] [] t Q := by
  obtain ⟨hM, hc, hR⟩ := hV
  refine x_iload (pc' := 99) rfl rfl rfl ?_
  refine x_iconst (pc' := 100) rfl rfl ?_
  refine x_icmp_n (a' := 155) (pc' := 103) (z := decide (c < 3)) rfl rfl rfl (ic_gen (p := c) (q := 3) (gc31 hc3) (by decide)) (fun h => absurd hc3 (of_decide_eq_false h)) (fun _ => ?_)
  refine x_aload_n (pc' := 104) rfl rfl rfl rfl rfl ?_
  refine x_gR (pc' := 107) (r := (some 6)) rfl rfl rfl (kR_776_0 hc) ?_
  refine x_iconst (pc' := 108) rfl rfl ?_
  refine x_iload_n (pc' := 109) rfl rfl rfl ?_
  refine x_imul (pc' := 110) (z := (io (3 * m))) rfl rfl (io_mul 3 m) ?_
  refine x_iload (pc' := 112) rfl rfl rfl ?_
  refine x_iadd (pc' := 113) (z := (io ((3 * m) + c))) rfl rfl (io_add (3 * m) c) ?_
  refine x_iald (pc' := 114) (N := 18) (x := (mA M 6 ((3 * m) + c))) rfl rfl rfl (kN_21_6 hc) (io_in (p := ((3 * m) + c)) (N := 18) g0 (by decide)) (Eq.trans (congrArg (sA t 21 6) (nn_io (p := ((3 * m) + c)) (Nat.lt_trans g0 (by decide)))) (gA hM rfl)) ?_
  refine x_cs (ls0 := [_]) (rest := []) rfl rfl rfl rfl ?_
  refine x_iload_n (pc' := 1) rfl rfl rfl ?_
  refine x_if_n (a' := 9) (pc' := 4) (z := decide ((mA M 6 ((3 * m) + c)) < 0)) rfl rfl rfl (ik_ge _ _) (fun q2 => ?_) (fun q2 => ?_)
  · refine x_iload_n (pc' := 10) rfl rfl rfl ?_
    refine x_reti rfl rfl ?_
    refine sK_i (pc' := 117) rfl ?_
    refine x_istore (pc' := 119) (ls' := [_, _, _, _, _, _]) rfl rfl rfl rfl ?_
    refine x_iload_n (pc' := 120) rfl rfl rfl ?_
    refine x_iconst (pc' := 121) rfl rfl ?_
    refine x_icmp_n (a' := 134) (pc' := 124) (z := decide ((io k) = (-1))) rfl rfl rfl (ik_ne _ _) (fun q3 => ?_) (fun q3 => ?_)
    · refine x_iload (pc' := 136) rfl rfl rfl ?_
      refine x_if_n (a' := 149) (pc' := 139) (z := decide (0 < (mA M 6 ((3 * m) + c)))) rfl rfl rfl (ik_le _ _) (fun q4 => ?_) (fun q4 => ?_)
      · refine x_iinc (pc' := 152) (y := (io (c + 1))) (ls' := [_, _, _, _, _, _]) rfl rfl rfl (io_add c 1) rfl ?_
        refine x_goto (pc' := 97) rfl rfl ?_
        exact k0 (of_decide_eq_false q2) (of_decide_eq_false q3) (of_decide_eq_false q4)
      · refine x_aload_n (pc' := 140) rfl rfl rfl rfl rfl ?_
        refine x_iload (pc' := 142) rfl rfl rfl ?_
        refine x_iload_n (pc' := 143) rfl rfl rfl ?_
        refine x_iload_n (pc' := 144) rfl rfl rfl ?_
        refine x_iload (pc' := 146) rfl rfl rfl ?_
        refine x_cv (ls0 := [_, _, _, _, _, sJk]) (rest := []) rfl rfl rfl rfl rfl ?_
        exact k1 (of_decide_eq_false q2) (of_decide_eq_false q3) (of_decide_eq_true q4)
    · refine x_aload_n (pc' := 125) rfl rfl rfl rfl rfl ?_
      refine x_iload (pc' := 127) rfl rfl rfl ?_
      refine x_iload_n (pc' := 128) rfl rfl rfl ?_
      refine x_cv (ls0 := [_, _, _, sJk, sJk, sJk, sJk, sJk]) (rest := []) rfl rfl rfl rfl rfl ?_
      exact k2 (of_decide_eq_false q2) (of_decide_eq_true q3)
  · refine x_iload_n (pc' := 5) rfl rfl rfl ?_
    refine x_ineg (pc' := 6) rfl rfl rfl ?_
    refine x_goto (pc' := 10) rfl rfl ?_
    refine x_reti rfl rfl ?_
    refine sK_i (pc' := 117) rfl ?_
    refine x_istore (pc' := 119) (ls' := [_, _, _, _, _, _]) rfl rfl rfl rfl ?_
    refine x_iload_n (pc' := 120) rfl rfl rfl ?_
    refine x_iconst (pc' := 121) rfl rfl ?_
    refine x_icmp_n (a' := 134) (pc' := 124) (z := decide ((io k) = (-1))) rfl rfl rfl (ik_ne _ _) (fun q5 => ?_) (fun q5 => ?_)
    · refine x_iload (pc' := 136) rfl rfl rfl ?_
      refine x_if_n (a' := 149) (pc' := 139) (z := decide (0 < (-(mA M 6 ((3 * m) + c))))) rfl rfl rfl (ik_le _ _) (fun q6 => ?_) (fun q6 => ?_)
      · refine x_iinc (pc' := 152) (y := (io (c + 1))) (ls' := [_, _, _, _, _, _]) rfl rfl rfl (io_add c 1) rfl ?_
        refine x_goto (pc' := 97) rfl rfl ?_
        exact k3 (of_decide_eq_true q2) (of_decide_eq_false q5) (of_decide_eq_false q6)
      · refine x_aload_n (pc' := 140) rfl rfl rfl rfl rfl ?_
        refine x_iload (pc' := 142) rfl rfl rfl ?_
        refine x_iload_n (pc' := 143) rfl rfl rfl ?_
        refine x_iload_n (pc' := 144) rfl rfl rfl ?_
        refine x_iload (pc' := 146) rfl rfl rfl ?_
        refine x_cv (ls0 := [_, _, _, _, _, sJk]) (rest := []) rfl rfl rfl rfl rfl ?_
        exact k4 (of_decide_eq_true q2) (of_decide_eq_false q5) (of_decide_eq_true q6)
    · refine x_aload_n (pc' := 125) rfl rfl rfl rfl rfl ?_
      refine x_iload (pc' := 127) rfl rfl rfl ?_
      refine x_iload_n (pc' := 128) rfl rfl rfl ?_
      refine x_cv (ls0 := [_, _, _, sJk, sJk, sJk, sJk, sJk]) (rest := []) rfl rfl rfl rfl rfl ?_
      exact k5 (of_decide_eq_true q2) (of_decide_eq_true q5)
set_option maxHeartbeats 4000000 in
set_option maxRecDepth 10000 in
theorem r219_3s {t : sT} {Q : sRs → sT → Prop} {M : sM} {n : Nat} {m : Nat} {z : Bool} {k : Nat} {y0 : sV}
    (hV : Vr t M n)
    (hm : m < 6)
    (hk : k < 6)
    (k0 : (io k) = (-1) → ¬ ((fdF (mBw (mBw (mBw (mBw (mBw (mBw M 1 0 false) 1 1 false) 1 2 false) 1 3 false) 1 4 false) 1 5 false) n m) < 0) → Q (.inl (some (.inl (io k)))) (sAw (sAw (sAw (sBw (sBw (sBw (sBw (sBw (sBw (sBw t 22 1 0 false) 22 1 1 false) 22 1 2 false) 22 1 3 false) 22 1 4 false) 22 1 5 false) 22 2 m true) 21 5 m 0) 21 4 m 0) 21 7 m 0))
    (k1 : (io k) = (-1) → (fdF (mBw (mBw (mBw (mBw (mBw (mBw M 1 0 false) 1 1 false) 1 2 false) 1 3 false) 1 4 false) 1 5 false) n m) < 0 → X 218 0 [.inr (.inr (12, (some 0))), .inl (io m), sJk, sJk, sJk] [] (sBw (sBw (sBw (sBw (sBw (sBw t 22 1 0 false) 22 1 1 false) 22 1 2 false) 22 1 3 false) 22 1 4 false) 22 1 5 false) (sK 218 219 224 [.inr (.inr (12, (some 0))), .inl (io m), .inl (bz z), .inl (io k), .inl 6, y0] [] Q))
    (k2 : ¬ ((io k) = (-1)) → ¬ ((fdF (mBw (mBw (mBw (mBw (mBw (mBw (mAw (mAw M 5 m ((mA M 5 m) - (mA M 9 k))) 5 k ((mA (mAw M 5 m ((mA M 5 m) - (mA M 9 k))) 5 k) + (mA M 9 k))) 1 0 false) 1 1 false) 1 2 false) 1 3 false) 1 4 false) 1 5 false) n m) < 0) → Q (.inl (some (.inl (io k)))) (sAw (sAw (sAw (sBw (sBw (sBw (sBw (sBw (sBw (sBw (sAw (sAw t 21 5 m ((mA M 5 m) - (mA M 9 k))) 21 5 k ((mA (mAw M 5 m ((mA M 5 m) - (mA M 9 k))) 5 k) + (mA M 9 k))) 22 1 0 false) 22 1 1 false) 22 1 2 false) 22 1 3 false) 22 1 4 false) 22 1 5 false) 22 2 m true) 21 5 m 0) 21 4 m 0) 21 7 m 0))
    (k3 : ¬ ((io k) = (-1)) → (fdF (mBw (mBw (mBw (mBw (mBw (mBw (mAw (mAw M 5 m ((mA M 5 m) - (mA M 9 k))) 5 k ((mA (mAw M 5 m ((mA M 5 m) - (mA M 9 k))) 5 k) + (mA M 9 k))) 1 0 false) 1 1 false) 1 2 false) 1 3 false) 1 4 false) 1 5 false) n m) < 0 → X 218 0 [.inr (.inr (12, (some 0))), .inl (io m), sJk, sJk, sJk] [] (sBw (sBw (sBw (sBw (sBw (sBw (sAw (sAw t 21 5 m ((mA M 5 m) - (mA M 9 k))) 21 5 k ((mA (mAw M 5 m ((mA M 5 m) - (mA M 9 k))) 5 k) + (mA M 9 k))) 22 1 0 false) 22 1 1 false) 22 1 2 false) 22 1 3 false) 22 1 4 false) 22 1 5 false) (sK 218 219 224 [.inr (.inr (12, (some 0))), .inl (io m), .inl (bz z), .inl (io k), .inl 6, y0] [] Q)) :
    X 219 97 [.inr (.inr (12, (some 0))), .inl (io m), .inl (bz z), .inl (io k), .inl 3, y0] [] t Q := by
  obtain ⟨hM, hc, hR⟩ := hV
  refine x_iload (pc' := 99) rfl rfl rfl ?_
  refine x_iconst (pc' := 100) rfl rfl ?_
  refine x_icmp (a' := 155) (pc' := 103) (z := true) rfl rfl rfl (by decide) (fun _ => ?_) (fun h => by cases h)
  refine x_iload_n (pc' := 156) rfl rfl rfl ?_
  refine x_iconst (pc' := 157) rfl rfl ?_
  refine x_icmp (a' := 190) (pc' := 160) (z := decide ((io k) = (-1))) rfl rfl rfl rfl (fun q2 => ?_) (fun q2 => ?_)
  · refine x_iconst (pc' := 191) rfl rfl ?_
    refine x_istore (pc' := 193) (ls' := [_, _, _, _, _, _]) rfl rfl rfl rfl ?_
    refine x_iload (pc' := 195) rfl rfl rfl ?_
    refine x_bipush (pc' := 197) rfl rfl ?_
    refine x_icmp (a' := 214) (pc' := 200) (z := false) rfl rfl rfl (by decide) (fun h => by cases h) (fun _ => ?_)
    refine x_aload_n (pc' := 201) rfl rfl rfl rfl rfl ?_
    refine x_gR (pc' := 204) (r := (some 1)) rfl rfl rfl (kR_780_0 hc) ?_
    refine x_iload (pc' := 206) rfl rfl rfl ?_
    refine x_iconst (pc' := 207) rfl rfl ?_
    refine x_bast (pc' := 208) (N := 6) (p := 0) (z := false) rfl rfl (kN_22_1 hc) (io_in (p := 0) (N := 6) (by decide) (by decide)) (nn_io (p := 0) (by decide)) rfl ?_
    refine x_iinc (pc' := 211) (y := 1) (ls' := [_, _, _, _, _, _]) rfl rfl rfl rfl rfl ?_
    refine x_goto (pc' := 193) rfl rfl ?_
    refine x_iload (pc' := 195) rfl rfl rfl ?_
    refine x_bipush (pc' := 197) rfl rfl ?_
    refine x_icmp (a' := 214) (pc' := 200) (z := false) rfl rfl rfl (by decide) (fun h => by cases h) (fun _ => ?_)
    refine x_aload_n (pc' := 201) rfl rfl rfl rfl rfl ?_
    refine x_gR (pc' := 204) (r := (some 1)) rfl rfl rfl (Eq.trans (b := sR t 780 0) rfl (kR_780_0 hc)) ?_
    refine x_iload (pc' := 206) rfl rfl rfl ?_
    refine x_iconst (pc' := 207) rfl rfl ?_
    refine x_bast (pc' := 208) (N := 6) (p := 1) (z := false) rfl rfl (Eq.trans rdNB (kN_22_1 hc)) (io_in (p := 1) (N := 6) (by decide) (by decide)) (nn_io (p := 1) (by decide)) rfl ?_
    refine x_iinc (pc' := 211) (y := 2) (ls' := [_, _, _, _, _, _]) rfl rfl rfl rfl rfl ?_
    refine x_goto (pc' := 193) rfl rfl ?_
    refine x_iload (pc' := 195) rfl rfl rfl ?_
    refine x_bipush (pc' := 197) rfl rfl ?_
    refine x_icmp (a' := 214) (pc' := 200) (z := false) rfl rfl rfl (by decide) (fun h => by cases h) (fun _ => ?_)
    refine x_aload_n (pc' := 201) rfl rfl rfl rfl rfl ?_
    refine x_gR (pc' := 204) (r := (some 1)) rfl rfl rfl (Eq.trans (b := sR t 780 0) rfl (kR_780_0 hc)) ?_
    refine x_iload (pc' := 206) rfl rfl rfl ?_
    refine x_iconst (pc' := 207) rfl rfl ?_
    refine x_bast (pc' := 208) (N := 6) (p := 2) (z := false) rfl rfl (Eq.trans rdNB (Eq.trans rdNB (kN_22_1 hc))) (io_in (p := 2) (N := 6) (by decide) (by decide)) (nn_io (p := 2) (by decide)) rfl ?_
    refine x_iinc (pc' := 211) (y := 3) (ls' := [_, _, _, _, _, _]) rfl rfl rfl rfl rfl ?_
    refine x_goto (pc' := 193) rfl rfl ?_
    refine x_iload (pc' := 195) rfl rfl rfl ?_
    refine x_bipush (pc' := 197) rfl rfl ?_
    refine x_icmp (a' := 214) (pc' := 200) (z := false) rfl rfl rfl (by decide) (fun h => by cases h) (fun _ => ?_)
    refine x_aload_n (pc' := 201) rfl rfl rfl rfl rfl ?_
    refine x_gR (pc' := 204) (r := (some 1)) rfl rfl rfl (Eq.trans (b := sR t 780 0) rfl (kR_780_0 hc)) ?_
    refine x_iload (pc' := 206) rfl rfl rfl ?_
    refine x_iconst (pc' := 207) rfl rfl ?_
    refine x_bast (pc' := 208) (N := 6) (p := 3) (z := false) rfl rfl (Eq.trans rdNB (Eq.trans rdNB (Eq.trans rdNB (kN_22_1 hc)))) (io_in (p := 3) (N := 6) (by decide) (by decide)) (nn_io (p := 3) (by decide)) rfl ?_
    refine x_iinc (pc' := 211) (y := 4) (ls' := [_, _, _, _, _, _]) rfl rfl rfl rfl rfl ?_
    refine x_goto (pc' := 193) rfl rfl ?_
    refine x_iload (pc' := 195) rfl rfl rfl ?_
    refine x_bipush (pc' := 197) rfl rfl ?_
    refine x_icmp (a' := 214) (pc' := 200) (z := false) rfl rfl rfl (by decide) (fun h => by cases h) (fun _ => ?_)
    refine x_aload_n (pc' := 201) rfl rfl rfl rfl rfl ?_
    refine x_gR (pc' := 204) (r := (some 1)) rfl rfl rfl (Eq.trans (b := sR t 780 0) rfl (kR_780_0 hc)) ?_
    refine x_iload (pc' := 206) rfl rfl rfl ?_
    refine x_iconst (pc' := 207) rfl rfl ?_
    refine x_bast (pc' := 208) (N := 6) (p := 4) (z := false) rfl rfl (Eq.trans rdNB (Eq.trans rdNB (Eq.trans rdNB (Eq.trans rdNB (kN_22_1 hc))))) (io_in (p := 4) (N := 6) (by decide) (by decide)) (nn_io (p := 4) (by decide)) rfl ?_
    refine x_iinc (pc' := 211) (y := 5) (ls' := [_, _, _, _, _, _]) rfl rfl rfl rfl rfl ?_
    refine x_goto (pc' := 193) rfl rfl ?_
    refine x_iload (pc' := 195) rfl rfl rfl ?_
    refine x_bipush (pc' := 197) rfl rfl ?_
    refine x_icmp (a' := 214) (pc' := 200) (z := false) rfl rfl rfl (by decide) (fun h => by cases h) (fun _ => ?_)
    refine x_aload_n (pc' := 201) rfl rfl rfl rfl rfl ?_
    refine x_gR (pc' := 204) (r := (some 1)) rfl rfl rfl (Eq.trans (b := sR t 780 0) rfl (kR_780_0 hc)) ?_
    refine x_iload (pc' := 206) rfl rfl rfl ?_
    refine x_iconst (pc' := 207) rfl rfl ?_
    refine x_bast (pc' := 208) (N := 6) (p := 5) (z := false) rfl rfl (Eq.trans rdNB (Eq.trans rdNB (Eq.trans rdNB (Eq.trans rdNB (Eq.trans rdNB (kN_22_1 hc)))))) (io_in (p := 5) (N := 6) (by decide) (by decide)) (nn_io (p := 5) (by decide)) rfl ?_
    refine x_iinc (pc' := 211) (y := 6) (ls' := [_, _, _, _, _, _]) rfl rfl rfl rfl rfl ?_
    refine x_goto (pc' := 193) rfl rfl ?_
    refine x_iload (pc' := 195) rfl rfl rfl ?_
    refine x_bipush (pc' := 197) rfl rfl ?_
    refine x_icmp (a' := 214) (pc' := 200) (z := true) rfl rfl rfl (by decide) (fun _ => ?_) (fun h => by cases h)
    refine x_aload_n (pc' := 215) rfl rfl rfl rfl rfl ?_
    refine x_iload_n (pc' := 216) rfl rfl rfl ?_
    refine x_cv (ls0 := [_, _, sJk, sJk]) (rest := []) rfl rfl rfl rfl rfl ?_
    refine r182 (rp_B.trans (congrArg (fun z => mBw z 1 5 false) (rp_B.trans (congrArg (fun z => mBw z 1 4 false) (rp_B.trans (congrArg (fun z => mBw z 1 3 false) (rp_B.trans (congrArg (fun z => mBw z 1 2 false) (rp_B.trans (congrArg (fun z => mBw z 1 1 false) (rp_B.trans (congrArg (fun z => mBw z 1 0 false) hM)))))))))))) (Cn_cp (cp_B.trans (cp_B.trans (cp_B.trans (cp_B.trans (cp_B.trans cp_B))))) hc) (Fr.ri (Fr_B rfl (Fr_B rfl (Fr_B rfl (Fr_B rfl (Fr_B rfl (Fr_B rfl (Fr.refl _))))))) hR) hm ?_
    refine sK_i (pc' := 219) rfl ?_
    refine x_if_n (a' := 227) (pc' := 222) (z := decide ((fdF (mBw (mBw (mBw (mBw (mBw (mBw M 1 0 false) 1 1 false) 1 2 false) 1 3 false) 1 4 false) 1 5 false) n m) < 0)) rfl rfl rfl (ik_ge _ _) (fun q10 => ?_) (fun q10 => ?_)
    · refine x_aload_n (pc' := 228) rfl rfl rfl rfl rfl ?_
      refine x_gR (pc' := 231) (r := (some 2)) rfl rfl rfl (Eq.trans (b := sR t 781 0) rfl (kR_781_0 hc)) ?_
      refine x_iload_n (pc' := 232) rfl rfl rfl ?_
      refine x_iconst (pc' := 233) rfl rfl ?_
      refine x_bast (pc' := 234) (N := 6) (p := m) (z := true) rfl rfl (Eq.trans rdNB (Eq.trans rdNB (Eq.trans rdNB (Eq.trans rdNB (Eq.trans rdNB (Eq.trans rdNB (kN_22_2 hc))))))) (io_in (p := m) (N := 6) hm (by decide)) (nn_io (p := m) (Nat.lt_trans hm (by decide))) rfl ?_
      refine x_aload_n (pc' := 235) rfl rfl rfl rfl rfl ?_
      refine x_gR (pc' := 238) (r := (some 5)) rfl rfl rfl (Eq.trans (b := sR t 775 0) rfl (kR_775_0 hc)) ?_
      refine x_iload_n (pc' := 239) rfl rfl rfl ?_
      refine x_iconst (pc' := 240) rfl rfl ?_
      refine x_iast (pc' := 241) (N := 6) (p := m) rfl rfl rfl (Eq.trans rdNB (Eq.trans rdNB (Eq.trans rdNB (Eq.trans rdNB (Eq.trans rdNB (Eq.trans rdNB (Eq.trans rdNB (kN_21_5 hc)))))))) (io_in (p := m) (N := 6) hm (by decide)) (nn_io (p := m) (Nat.lt_trans hm (by decide))) ?_
      refine x_aload_n (pc' := 242) rfl rfl rfl rfl rfl ?_
      refine x_gR (pc' := 245) (r := (some 4)) rfl rfl rfl (Eq.trans (b := sR t 774 0) rfl (kR_774_0 hc)) ?_
      refine x_iload_n (pc' := 246) rfl rfl rfl ?_
      refine x_iconst (pc' := 247) rfl rfl ?_
      refine x_iast (pc' := 248) (N := 6) (p := m) rfl rfl rfl (Eq.trans rdNA (Eq.trans rdNB (Eq.trans rdNB (Eq.trans rdNB (Eq.trans rdNB (Eq.trans rdNB (Eq.trans rdNB (Eq.trans rdNB (kN_21_4 hc))))))))) (io_in (p := m) (N := 6) hm (by decide)) (nn_io (p := m) (Nat.lt_trans hm (by decide))) ?_
      refine x_aload_n (pc' := 249) rfl rfl rfl rfl rfl ?_
      refine x_gR (pc' := 252) (r := (some 7)) rfl rfl rfl (Eq.trans (b := sR t 777 0) rfl (kR_777_0 hc)) ?_
      refine x_iload_n (pc' := 253) rfl rfl rfl ?_
      refine x_iconst (pc' := 254) rfl rfl ?_
      refine x_iast (pc' := 255) (N := 6) (p := m) rfl rfl rfl (Eq.trans rdNA (Eq.trans rdNA (Eq.trans rdNB (Eq.trans rdNB (Eq.trans rdNB (Eq.trans rdNB (Eq.trans rdNB (Eq.trans rdNB (Eq.trans rdNB (kN_21_7 hc)))))))))) (io_in (p := m) (N := 6) hm (by decide)) (nn_io (p := m) (Nat.lt_trans hm (by decide))) ?_
      refine x_iload_n (pc' := 256) rfl rfl rfl ?_
      refine x_reti rfl rfl ?_
      exact k0 (of_decide_eq_true q2) (of_decide_eq_false q10)
    · refine x_aload_n (pc' := 223) rfl rfl rfl rfl rfl ?_
      refine x_iload_n (pc' := 224) rfl rfl rfl ?_
      refine x_cv (ls0 := [_, _, sJk, sJk, sJk]) (rest := []) rfl rfl rfl rfl rfl ?_
      exact k1 (of_decide_eq_true q2) (of_decide_eq_true q10)
  · refine x_aload_n (pc' := 161) rfl rfl rfl rfl rfl ?_
    refine x_gR (pc' := 164) (r := (some 5)) rfl rfl rfl (kR_775_0 hc) ?_
    refine x_iload_n (pc' := 165) rfl rfl rfl ?_
    refine x_dup2 (pc' := 166) rfl rfl rfl rfl ?_
    refine x_iald (pc' := 167) (N := 6) (x := (mA M 5 m)) rfl rfl rfl (kN_21_5 hc) (io_in (p := m) (N := 6) hm (by decide)) (Eq.trans (congrArg (sA t 21 5) (nn_io (p := m) (Nat.lt_trans hm (by decide)))) (gA hM rfl)) ?_
    refine x_aload_n (pc' := 168) rfl rfl rfl rfl rfl ?_
    refine x_gR (pc' := 171) (r := (some 9)) rfl rfl rfl (kR_779_0 hc) ?_
    refine x_iload_n (pc' := 172) rfl rfl rfl ?_
    refine x_iald (pc' := 173) (N := 6) (x := (mA M 9 k)) rfl rfl rfl (kN_21_9 hc) (io_in (p := k) (N := 6) hk (by decide)) (Eq.trans (congrArg (sA t 21 9) (nn_io (p := k) (Nat.lt_trans hk (by decide)))) (gA hM rfl)) ?_
    refine x_isub (pc' := 174) (z := ((mA M 5 m) - (mA M 9 k))) rfl rfl rfl ?_
    refine x_iast (pc' := 175) (N := 6) (p := m) rfl rfl rfl (kN_21_5 hc) (io_in (p := m) (N := 6) hm (by decide)) (nn_io (p := m) (Nat.lt_trans hm (by decide))) ?_
    refine x_aload_n (pc' := 176) rfl rfl rfl rfl rfl ?_
    refine x_gR (pc' := 179) (r := (some 5)) rfl rfl rfl (Eq.trans (b := sR t 775 0) rfl (kR_775_0 hc)) ?_
    refine x_iload_n (pc' := 180) rfl rfl rfl ?_
    refine x_dup2 (pc' := 181) rfl rfl rfl rfl ?_
    refine x_iald (pc' := 182) (N := 6) (x := (mA (mAw M 5 m ((mA M 5 m) - (mA M 9 k))) 5 k)) rfl rfl rfl (Eq.trans rdNA (kN_21_5 hc)) (io_in (p := k) (N := 6) hk (by decide)) (Eq.trans (congrArg (sA (sAw t 21 5 m ((mA M 5 m) - (mA M 9 k))) 21 5) (nn_io (p := k) (Nat.lt_trans hk (by decide)))) (gA ((rp_A rfl).trans (congrArg (fun z => mAw z 5 m ((mA M 5 m) - (mA M 9 k))) hM)) rfl)) ?_
    refine x_aload_n (pc' := 183) rfl rfl rfl rfl rfl ?_
    refine x_gR (pc' := 186) (r := (some 9)) rfl rfl rfl (Eq.trans (b := sR t 779 0) rfl (kR_779_0 hc)) ?_
    refine x_iload_n (pc' := 187) rfl rfl rfl ?_
    refine x_iald (pc' := 188) (N := 6) (x := (mA M 9 k)) rfl rfl rfl (Eq.trans rdNA (kN_21_9 hc)) (io_in (p := k) (N := 6) hk (by decide)) (Eq.trans (congrArg (sA (sAw t 21 5 m ((mA M 5 m) - (mA M 9 k))) 21 9) (nn_io (p := k) (Nat.lt_trans hk (by decide)))) (Eq.trans (b := sA t 21 9 k) rfl (gA hM rfl))) ?_
    refine x_iadd (pc' := 189) (z := ((mA (mAw M 5 m ((mA M 5 m) - (mA M 9 k))) 5 k) + (mA M 9 k))) rfl rfl rfl ?_
    refine x_iast (pc' := 190) (N := 6) (p := k) rfl rfl rfl (Eq.trans rdNA (kN_21_5 hc)) (io_in (p := k) (N := 6) hk (by decide)) (nn_io (p := k) (Nat.lt_trans hk (by decide))) ?_
    refine x_iconst (pc' := 191) rfl rfl ?_
    refine x_istore (pc' := 193) (ls' := [_, _, _, _, _, _]) rfl rfl rfl rfl ?_
    refine x_iload (pc' := 195) rfl rfl rfl ?_
    refine x_bipush (pc' := 197) rfl rfl ?_
    refine x_icmp (a' := 214) (pc' := 200) (z := false) rfl rfl rfl (by decide) (fun h => by cases h) (fun _ => ?_)
    refine x_aload_n (pc' := 201) rfl rfl rfl rfl rfl ?_
    refine x_gR (pc' := 204) (r := (some 1)) rfl rfl rfl (Eq.trans (b := sR t 780 0) rfl (kR_780_0 hc)) ?_
    refine x_iload (pc' := 206) rfl rfl rfl ?_
    refine x_iconst (pc' := 207) rfl rfl ?_
    refine x_bast (pc' := 208) (N := 6) (p := 0) (z := false) rfl rfl (Eq.trans rdNA (Eq.trans rdNA (kN_22_1 hc))) (io_in (p := 0) (N := 6) (by decide) (by decide)) (nn_io (p := 0) (by decide)) rfl ?_
    refine x_iinc (pc' := 211) (y := 1) (ls' := [_, _, _, _, _, _]) rfl rfl rfl rfl rfl ?_
    refine x_goto (pc' := 193) rfl rfl ?_
    refine x_iload (pc' := 195) rfl rfl rfl ?_
    refine x_bipush (pc' := 197) rfl rfl ?_
    refine x_icmp (a' := 214) (pc' := 200) (z := false) rfl rfl rfl (by decide) (fun h => by cases h) (fun _ => ?_)
    refine x_aload_n (pc' := 201) rfl rfl rfl rfl rfl ?_
    refine x_gR (pc' := 204) (r := (some 1)) rfl rfl rfl (Eq.trans (b := sR t 780 0) rfl (kR_780_0 hc)) ?_
    refine x_iload (pc' := 206) rfl rfl rfl ?_
    refine x_iconst (pc' := 207) rfl rfl ?_
    refine x_bast (pc' := 208) (N := 6) (p := 1) (z := false) rfl rfl (Eq.trans rdNB (Eq.trans rdNA (Eq.trans rdNA (kN_22_1 hc)))) (io_in (p := 1) (N := 6) (by decide) (by decide)) (nn_io (p := 1) (by decide)) rfl ?_
    refine x_iinc (pc' := 211) (y := 2) (ls' := [_, _, _, _, _, _]) rfl rfl rfl rfl rfl ?_
    refine x_goto (pc' := 193) rfl rfl ?_
    refine x_iload (pc' := 195) rfl rfl rfl ?_
    refine x_bipush (pc' := 197) rfl rfl ?_
    refine x_icmp (a' := 214) (pc' := 200) (z := false) rfl rfl rfl (by decide) (fun h => by cases h) (fun _ => ?_)
    refine x_aload_n (pc' := 201) rfl rfl rfl rfl rfl ?_
    refine x_gR (pc' := 204) (r := (some 1)) rfl rfl rfl (Eq.trans (b := sR t 780 0) rfl (kR_780_0 hc)) ?_
    refine x_iload (pc' := 206) rfl rfl rfl ?_
    refine x_iconst (pc' := 207) rfl rfl ?_
    refine x_bast (pc' := 208) (N := 6) (p := 2) (z := false) rfl rfl (Eq.trans rdNB (Eq.trans rdNB (Eq.trans rdNA (Eq.trans rdNA (kN_22_1 hc))))) (io_in (p := 2) (N := 6) (by decide) (by decide)) (nn_io (p := 2) (by decide)) rfl ?_
    refine x_iinc (pc' := 211) (y := 3) (ls' := [_, _, _, _, _, _]) rfl rfl rfl rfl rfl ?_
    refine x_goto (pc' := 193) rfl rfl ?_
    refine x_iload (pc' := 195) rfl rfl rfl ?_
    refine x_bipush (pc' := 197) rfl rfl ?_
    refine x_icmp (a' := 214) (pc' := 200) (z := false) rfl rfl rfl (by decide) (fun h => by cases h) (fun _ => ?_)
    refine x_aload_n (pc' := 201) rfl rfl rfl rfl rfl ?_
    refine x_gR (pc' := 204) (r := (some 1)) rfl rfl rfl (Eq.trans (b := sR t 780 0) rfl (kR_780_0 hc)) ?_
    refine x_iload (pc' := 206) rfl rfl rfl ?_
    refine x_iconst (pc' := 207) rfl rfl ?_
    refine x_bast (pc' := 208) (N := 6) (p := 3) (z := false) rfl rfl (Eq.trans rdNB (Eq.trans rdNB (Eq.trans rdNB (Eq.trans rdNA (Eq.trans rdNA (kN_22_1 hc)))))) (io_in (p := 3) (N := 6) (by decide) (by decide)) (nn_io (p := 3) (by decide)) rfl ?_
    refine x_iinc (pc' := 211) (y := 4) (ls' := [_, _, _, _, _, _]) rfl rfl rfl rfl rfl ?_
    refine x_goto (pc' := 193) rfl rfl ?_
    refine x_iload (pc' := 195) rfl rfl rfl ?_
    refine x_bipush (pc' := 197) rfl rfl ?_
    refine x_icmp (a' := 214) (pc' := 200) (z := false) rfl rfl rfl (by decide) (fun h => by cases h) (fun _ => ?_)
    refine x_aload_n (pc' := 201) rfl rfl rfl rfl rfl ?_
    refine x_gR (pc' := 204) (r := (some 1)) rfl rfl rfl (Eq.trans (b := sR t 780 0) rfl (kR_780_0 hc)) ?_
    refine x_iload (pc' := 206) rfl rfl rfl ?_
    refine x_iconst (pc' := 207) rfl rfl ?_
    refine x_bast (pc' := 208) (N := 6) (p := 4) (z := false) rfl rfl (Eq.trans rdNB (Eq.trans rdNB (Eq.trans rdNB (Eq.trans rdNB (Eq.trans rdNA (Eq.trans rdNA (kN_22_1 hc))))))) (io_in (p := 4) (N := 6) (by decide) (by decide)) (nn_io (p := 4) (by decide)) rfl ?_
    refine x_iinc (pc' := 211) (y := 5) (ls' := [_, _, _, _, _, _]) rfl rfl rfl rfl rfl ?_
    refine x_goto (pc' := 193) rfl rfl ?_
    refine x_iload (pc' := 195) rfl rfl rfl ?_
    refine x_bipush (pc' := 197) rfl rfl ?_
    refine x_icmp (a' := 214) (pc' := 200) (z := false) rfl rfl rfl (by decide) (fun h => by cases h) (fun _ => ?_)
    refine x_aload_n (pc' := 201) rfl rfl rfl rfl rfl ?_
    refine x_gR (pc' := 204) (r := (some 1)) rfl rfl rfl (Eq.trans (b := sR t 780 0) rfl (kR_780_0 hc)) ?_
    refine x_iload (pc' := 206) rfl rfl rfl ?_
    refine x_iconst (pc' := 207) rfl rfl ?_
    refine x_bast (pc' := 208) (N := 6) (p := 5) (z := false) rfl rfl (Eq.trans rdNB (Eq.trans rdNB (Eq.trans rdNB (Eq.trans rdNB (Eq.trans rdNB (Eq.trans rdNA (Eq.trans rdNA (kN_22_1 hc)))))))) (io_in (p := 5) (N := 6) (by decide) (by decide)) (nn_io (p := 5) (by decide)) rfl ?_
    refine x_iinc (pc' := 211) (y := 6) (ls' := [_, _, _, _, _, _]) rfl rfl rfl rfl rfl ?_
    refine x_goto (pc' := 193) rfl rfl ?_
    refine x_iload (pc' := 195) rfl rfl rfl ?_
    refine x_bipush (pc' := 197) rfl rfl ?_
    refine x_icmp (a' := 214) (pc' := 200) (z := true) rfl rfl rfl (by decide) (fun _ => ?_) (fun h => by cases h)
    refine x_aload_n (pc' := 215) rfl rfl rfl rfl rfl ?_
    refine x_iload_n (pc' := 216) rfl rfl rfl ?_
    refine x_cv (ls0 := [_, _, sJk, sJk]) (rest := []) rfl rfl rfl rfl rfl ?_
    refine r182 (rp_B.trans (congrArg (fun z => mBw z 1 5 false) (rp_B.trans (congrArg (fun z => mBw z 1 4 false) (rp_B.trans (congrArg (fun z => mBw z 1 3 false) (rp_B.trans (congrArg (fun z => mBw z 1 2 false) (rp_B.trans (congrArg (fun z => mBw z 1 1 false) (rp_B.trans (congrArg (fun z => mBw z 1 0 false) ((rp_A rfl).trans (congrArg (fun z => mAw z 5 k ((mA (mAw M 5 m ((mA M 5 m) - (mA M 9 k))) 5 k) + (mA M 9 k))) ((rp_A rfl).trans (congrArg (fun z => mAw z 5 m ((mA M 5 m) - (mA M 9 k))) hM)))))))))))))))) (Cn_cp (cp_B.trans (cp_B.trans (cp_B.trans (cp_B.trans (cp_B.trans (cp_B.trans (cp_A.trans cp_A))))))) hc) (Fr.ri (Fr_B rfl (Fr_B rfl (Fr_B rfl (Fr_B rfl (Fr_B rfl (Fr_B rfl (Fr_A rfl (Fr_A rfl (Fr.refl _))))))))) hR) hm ?_
    refine sK_i (pc' := 219) rfl ?_
    refine x_if_n (a' := 227) (pc' := 222) (z := decide ((fdF (mBw (mBw (mBw (mBw (mBw (mBw (mAw (mAw M 5 m ((mA M 5 m) - (mA M 9 k))) 5 k ((mA (mAw M 5 m ((mA M 5 m) - (mA M 9 k))) 5 k) + (mA M 9 k))) 1 0 false) 1 1 false) 1 2 false) 1 3 false) 1 4 false) 1 5 false) n m) < 0)) rfl rfl rfl (ik_ge _ _) (fun q18 => ?_) (fun q18 => ?_)
    · refine x_aload_n (pc' := 228) rfl rfl rfl rfl rfl ?_
      refine x_gR (pc' := 231) (r := (some 2)) rfl rfl rfl (Eq.trans (b := sR t 781 0) rfl (kR_781_0 hc)) ?_
      refine x_iload_n (pc' := 232) rfl rfl rfl ?_
      refine x_iconst (pc' := 233) rfl rfl ?_
      refine x_bast (pc' := 234) (N := 6) (p := m) (z := true) rfl rfl (Eq.trans rdNB (Eq.trans rdNB (Eq.trans rdNB (Eq.trans rdNB (Eq.trans rdNB (Eq.trans rdNB (Eq.trans rdNA (Eq.trans rdNA (kN_22_2 hc))))))))) (io_in (p := m) (N := 6) hm (by decide)) (nn_io (p := m) (Nat.lt_trans hm (by decide))) rfl ?_
      refine x_aload_n (pc' := 235) rfl rfl rfl rfl rfl ?_
      refine x_gR (pc' := 238) (r := (some 5)) rfl rfl rfl (Eq.trans (b := sR t 775 0) rfl (kR_775_0 hc)) ?_
      refine x_iload_n (pc' := 239) rfl rfl rfl ?_
      refine x_iconst (pc' := 240) rfl rfl ?_
      refine x_iast (pc' := 241) (N := 6) (p := m) rfl rfl rfl (Eq.trans rdNB (Eq.trans rdNB (Eq.trans rdNB (Eq.trans rdNB (Eq.trans rdNB (Eq.trans rdNB (Eq.trans rdNB (Eq.trans rdNA (Eq.trans rdNA (kN_21_5 hc)))))))))) (io_in (p := m) (N := 6) hm (by decide)) (nn_io (p := m) (Nat.lt_trans hm (by decide))) ?_
      refine x_aload_n (pc' := 242) rfl rfl rfl rfl rfl ?_
      refine x_gR (pc' := 245) (r := (some 4)) rfl rfl rfl (Eq.trans (b := sR t 774 0) rfl (kR_774_0 hc)) ?_
      refine x_iload_n (pc' := 246) rfl rfl rfl ?_
      refine x_iconst (pc' := 247) rfl rfl ?_
      refine x_iast (pc' := 248) (N := 6) (p := m) rfl rfl rfl (Eq.trans rdNA (Eq.trans rdNB (Eq.trans rdNB (Eq.trans rdNB (Eq.trans rdNB (Eq.trans rdNB (Eq.trans rdNB (Eq.trans rdNB (Eq.trans rdNA (Eq.trans rdNA (kN_21_4 hc))))))))))) (io_in (p := m) (N := 6) hm (by decide)) (nn_io (p := m) (Nat.lt_trans hm (by decide))) ?_
      refine x_aload_n (pc' := 249) rfl rfl rfl rfl rfl ?_
      refine x_gR (pc' := 252) (r := (some 7)) rfl rfl rfl (Eq.trans (b := sR t 777 0) rfl (kR_777_0 hc)) ?_
      refine x_iload_n (pc' := 253) rfl rfl rfl ?_
      refine x_iconst (pc' := 254) rfl rfl ?_
      refine x_iast (pc' := 255) (N := 6) (p := m) rfl rfl rfl (Eq.trans rdNA (Eq.trans rdNA (Eq.trans rdNB (Eq.trans rdNB (Eq.trans rdNB (Eq.trans rdNB (Eq.trans rdNB (Eq.trans rdNB (Eq.trans rdNB (Eq.trans rdNA (Eq.trans rdNA (kN_21_7 hc)))))))))))) (io_in (p := m) (N := 6) hm (by decide)) (nn_io (p := m) (Nat.lt_trans hm (by decide))) ?_
      refine x_iload_n (pc' := 256) rfl rfl rfl ?_
      refine x_reti rfl rfl ?_
      exact k2 (of_decide_eq_false q2) (of_decide_eq_false q18)
    · refine x_aload_n (pc' := 223) rfl rfl rfl rfl rfl ?_
      refine x_iload_n (pc' := 224) rfl rfl rfl ?_
      refine x_cv (ls0 := [_, _, sJk, sJk, sJk]) (rest := []) rfl rfl rfl rfl rfl ?_
      exact k3 (of_decide_eq_false q2) (of_decide_eq_true q18)
set_option maxHeartbeats 4000000 in
set_option maxRecDepth 10000 in
theorem r219_5s {t : sT} {Q : sRs → sT → Prop} {M : sM} {n : Nat} {m : Nat} {z : Bool} {k : Nat} {y0 : sV} {d : Int32}
    (hV : Vr t M n)
    (hm : m < 6)
    (hk : k < 6)
    (k0 : Q (.inl (some (.inl (io k)))) (sAw (sAw (sAw (sBw t 22 2 m true) 21 5 m 0) 21 4 m 0) 21 7 m 0)) :
    X 219 227 [.inr (.inr (12, (some 0))), .inl (io m), .inl (bz z), .inl (io k), .inl d, y0] [] t Q := by
  obtain ⟨hM, hc, hR⟩ := hV
  refine x_aload_n (pc' := 228) rfl rfl rfl rfl rfl ?_
  refine x_gR (pc' := 231) (r := (some 2)) rfl rfl rfl (kR_781_0 hc) ?_
  refine x_iload_n (pc' := 232) rfl rfl rfl ?_
  refine x_iconst (pc' := 233) rfl rfl ?_
  refine x_bast (pc' := 234) (N := 6) (p := m) (z := true) rfl rfl (kN_22_2 hc) (io_in (p := m) (N := 6) hm (by decide)) (nn_io (p := m) (Nat.lt_trans hm (by decide))) rfl ?_
  refine x_aload_n (pc' := 235) rfl rfl rfl rfl rfl ?_
  refine x_gR (pc' := 238) (r := (some 5)) rfl rfl rfl (Eq.trans (b := sR t 775 0) rfl (kR_775_0 hc)) ?_
  refine x_iload_n (pc' := 239) rfl rfl rfl ?_
  refine x_iconst (pc' := 240) rfl rfl ?_
  refine x_iast (pc' := 241) (N := 6) (p := m) rfl rfl rfl (Eq.trans rdNB (kN_21_5 hc)) (io_in (p := m) (N := 6) hm (by decide)) (nn_io (p := m) (Nat.lt_trans hm (by decide))) ?_
  refine x_aload_n (pc' := 242) rfl rfl rfl rfl rfl ?_
  refine x_gR (pc' := 245) (r := (some 4)) rfl rfl rfl (Eq.trans (b := sR t 774 0) rfl (kR_774_0 hc)) ?_
  refine x_iload_n (pc' := 246) rfl rfl rfl ?_
  refine x_iconst (pc' := 247) rfl rfl ?_
  refine x_iast (pc' := 248) (N := 6) (p := m) rfl rfl rfl (Eq.trans rdNA (Eq.trans rdNB (kN_21_4 hc))) (io_in (p := m) (N := 6) hm (by decide)) (nn_io (p := m) (Nat.lt_trans hm (by decide))) ?_
  refine x_aload_n (pc' := 249) rfl rfl rfl rfl rfl ?_
  refine x_gR (pc' := 252) (r := (some 7)) rfl rfl rfl (Eq.trans (b := sR t 777 0) rfl (kR_777_0 hc)) ?_
  refine x_iload_n (pc' := 253) rfl rfl rfl ?_
  refine x_iconst (pc' := 254) rfl rfl ?_
  refine x_iast (pc' := 255) (N := 6) (p := m) rfl rfl rfl (Eq.trans rdNA (Eq.trans rdNA (Eq.trans rdNB (kN_21_7 hc)))) (io_in (p := m) (N := 6) hm (by decide)) (nn_io (p := m) (Nat.lt_trans hm (by decide))) ?_
  refine x_iload_n (pc' := 256) rfl rfl rfl ?_
  refine x_reti rfl rfl ?_
  exact k0
set_option maxHeartbeats 4000000 in
set_option maxRecDepth 10000 in
theorem r219_4s {t : sT} {Q : sRs → sT → Prop} {M : sM} {n : Nat} {m : Nat} {z : Bool} {k : Nat} {c : Nat} {a : Int32}
    (hV : Vr t M n)
    (hm : m < 6)
    (hk : k < 6)
    (hc3 : c < 3)
    (k0 : X 219 97 [.inr (.inr (12, (some 0))), .inl (io m), .inl (bz z), .inl (io k), .inl (io (c + 1)), .inl a] [] t Q) :
    X 219 149 [.inr (.inr (12, (some 0))), .inl (io m), .inl (bz z), .inl (io k), .inl (io c), .inl a] [] t Q := by
  obtain ⟨hM, hc, hR⟩ := hV
  refine x_iinc (pc' := 152) (y := (io (c + 1))) (ls' := [_, _, _, _, _, _]) rfl rfl rfl (io_add c 1) rfl ?_
  refine x_goto (pc' := 97) rfl rfl ?_
  exact k0
set_option maxHeartbeats 4000000 in
set_option maxRecDepth 10000 in
theorem r219_4n {t : sT} {Q : sRs → sT → Prop} {M : sM} {n : Nat} {m : Nat} {z : Bool} {c : Nat} {a : Int32}
    (hV : Vr t M n)
    (hm : m < 6)
    (hc3 : c < 3)
    (k0 : X 219 97 [.inr (.inr (12, (some 0))), .inl (io m), .inl (bz z), .inl (-1), .inl (io (c + 1)), .inl a] [] t Q) :
    X 219 131 [.inr (.inr (12, (some 0))), .inl (io m), .inl (bz z), .inl (-1), .inl (io c), .inl a] [] t Q := by
  obtain ⟨hM, hc, hR⟩ := hV
  refine x_goto (pc' := 149) rfl rfl ?_
  refine x_iinc (pc' := 152) (y := (io (c + 1))) (ls' := [_, _, _, _, _, _]) rfl rfl rfl (io_add c 1) rfl ?_
  refine x_goto (pc' := 97) rfl rfl ?_
  exact k0
set_option maxHeartbeats 4000000 in
set_option maxRecDepth 10000 in
theorem r214_e {t : sT} {Q : sRs → sT → Prop} {M : sM} {n : Nat} {m : Nat} {k : Nat} {c : Nat} {a : Int32} {p : Int32}
    (hV : Vr t M n)
    (hm : m < 6)
    (hk : k < 6)
    (hc3 : c < 3)
    (k0 : Q (.inl none) t) :
    X 214 46 [.inr (.inr (12, (some 0))), .inl (io c), .inl (io m), .inl (io k), .inl a, .inl p] [] t Q := by
  obtain ⟨hM, hc, hR⟩ := hV
  refine x_ret rfl ?_
  exact k0
