/-! fail, further pieces (printed by ext99z.py) -/
set_option maxHeartbeats 4000000 in
set_option maxRecDepth 10000 in
theorem n17_k {t : sT} {Q : sRs → sT → Prop} {M : sM} {n : Nat} {T : Nat} {L0 : List Nat} {A : Nat} {B : Nat} {m : Nat} {k : Nat} {c : Nat} {y0 : sV}
    (hW : Wc t M n T L0 A B)
    (hm : m < 6)
    (hk : k < 6)
    (hc3 : c < 3)
    (k0 : X 18 0 [.inr (.inr (3, (some 0))), .inr (.inr (7, (some m))), .inr (.inr (7, (some k))), .inr (.inr (2, (some c))), .inl (ab (mA M 6 ((3 * m) + c))), sJk] [] t (sK 18 17 42 [.inr (.inr (3, (some 0))), .inr (.inr (7, (some m))), .inr (.inr (7, (some k))), .inr (.inr (25, (some 0))), .inl 3, .inl (io c), .inr (.inr (2, (some c)))] [] Q)) :
    X 17 15 [.inr (.inr (3, (some 0))), .inr (.inr (7, (some m))), .inr (.inr (7, (some k))), .inr (.inr (25, (some 0))), .inl 3, .inl (io c), y0] [] t Q := by
  obtain ⟨hM, hc, hR, hC, hL, hL9⟩ := hW
  refine x_iload (pc' := 17) rfl rfl rfl ?_
  refine x_iload (pc' := 19) rfl rfl rfl ?_
  refine x_icmp_n (a' := 51) (pc' := 22) (z := decide (c < 3)) rfl rfl rfl (ic_gen (p := c) (q := 3) (gc31 hc3) (by decide)) (fun h => absurd hc3 (of_decide_eq_false h)) (fun _ => ?_)
  refine x_aload_n (pc' := 23) rfl rfl rfl rfl rfl ?_
  refine x_iload (pc' := 25) rfl rfl rfl ?_
  refine x_aald (pc' := 26) (N := 3) (k' := 2) (r := (some c)) rfl rfl rfl (kN_25_0 hc.1) (io_in (p := c) (N := 3) hc3 (by decide)) (Eq.trans (congrArg (sE t 25 0) (nn_io (p := c) (Nat.lt_trans hc3 (by decide)))) (kK hc.1 hc3)) ?_
  refine x_astore (pc' := 28) (ls' := [_, _, _, _, _, _, _]) rfl rfl rfl rfl rfl ?_
  refine x_aload_n (pc' := 29) rfl rfl rfl rfl rfl ?_
  refine x_aload_n (pc' := 30) rfl rfl rfl rfl rfl ?_
  refine x_aload_n (pc' := 31) rfl rfl rfl rfl rfl ?_
  refine x_aload (pc' := 33) rfl rfl rfl rfl rfl ?_
  refine x_aload_n (pc' := 34) rfl rfl rfl rfl rfl ?_
  refine x_aload (pc' := 36) rfl rfl rfl rfl rfl ?_
  refine x_cv (ls0 := [_, _, sJk]) (rest := [_, _, _, _]) rfl rfl rfl rfl rfl ?_
  refine x_aload_n (pc' := 1) rfl rfl rfl rfl rfl ?_
  refine x_gI (pc' := 4) (x := (io c)) rfl rfl rfl (kKn hc.1 hc3) ?_
  refine x_istore_n (pc' := 5) (ls' := [_, _, _]) rfl rfl rfl rfl ?_
  refine x_iload_n (pc' := 6) rfl rfl rfl ?_
  refine x_if (a' := 27) (pc' := 9) (z := decide (c < 0)) rfl rfl rfl (ic_lt (p := c) (q := 0) (gc31 hc3) (by decide)) (fun h => absurd (of_decide_eq_true h) (by first | decide | omega | simp)) (fun _ => ?_)
  refine x_iload_n (pc' := 10) rfl rfl rfl ?_
  refine x_aload_n (pc' := 11) rfl rfl rfl rfl rfl ?_
  refine x_gR (pc' := 14) (r := (some (m + 1))) rfl rfl rfl (kMp hc.1 hm).1 ?_
  refine x_alen (pc' := 15) (N := 3) rfl rfl rfl (kMp hc.1 hm).2.1 (?_ : X _ _ _ (.inl 3 :: _) _ _)
  refine x_icmp_n (a' := 27) (pc' := 18) (z := decide (c < 3)) rfl rfl rfl (ic_gen (p := c) (q := 3) (gc31 hc3) (by decide)) (fun h => absurd hc3 (of_decide_eq_false h)) (fun _ => ?_)
  refine x_aload_n (pc' := 19) rfl rfl rfl rfl rfl ?_
  refine x_gR (pc' := 22) (r := (some (m + 1))) rfl rfl rfl (kMp hc.1 hm).1 ?_
  refine x_iload_n (pc' := 23) rfl rfl rfl ?_
  refine x_iald (pc' := 24) (N := 3) (x := (mA M 6 ((3 * m) + c))) rfl rfl rfl (kMp hc.1 hm).2.1 (io_in (p := c) (N := 3) hc3 (by decide)) (Eq.trans (congrArg (sA t 20 (m + 1)) (nn_io (p := c) (Nat.lt_trans hc3 (by decide)))) (kP (m := m) (c := c) hM hm hc3)) ?_
  refine x_goto (pc' := 28) rfl rfl ?_
  refine x_reti rfl rfl ?_
  refine sK_i (pc' := 39) rfl ?_
  refine x_abs (pc' := 42) (z := (ab (mA M 6 ((3 * m) + c)))) rfl rfl rfl rfl ?_
  refine x_cv (ls0 := [_, _, _, _, _, sJk]) (rest := []) rfl rfl rfl rfl rfl ?_
  exact k0
set_option maxHeartbeats 4000000 in
set_option maxRecDepth 10000 in
theorem n17_t {t : sT} {Q : sRs → sT → Prop} {M : sM} {n : Nat} {T : Nat} {L0 : List Nat} {A : Nat} {B : Nat} {m : Nat} {k : Nat} {c : Nat} {y0 : sV}
    (hW : Wc t M n T L0 A B)
    (hm : m < 6)
    (hk : k < 6)
    (hc3 : c < 3)
    (k0 : X 17 15 [.inr (.inr (3, (some 0))), .inr (.inr (7, (some m))), .inr (.inr (7, (some k))), .inr (.inr (25, (some 0))), .inl 3, .inl (io (c + 1)), y0] [] t Q) :
    X 17 45 [.inr (.inr (3, (some 0))), .inr (.inr (7, (some m))), .inr (.inr (7, (some k))), .inr (.inr (25, (some 0))), .inl 3, .inl (io c), y0] [] t Q := by
  obtain ⟨hM, hc, hR, hC, hL, hL9⟩ := hW
  refine x_iinc (pc' := 48) (y := (io (c + 1))) (ls' := [_, _, _, _, _, _, _]) rfl rfl rfl (io_add c 1) rfl ?_
  refine x_goto (pc' := 15) rfl rfl ?_
  exact k0
set_option maxHeartbeats 4000000 in
set_option maxRecDepth 10000 in
theorem n17_e {t : sT} {Q : sRs → sT → Prop} {M : sM} {n : Nat} {T : Nat} {L0 : List Nat} {A : Nat} {B : Nat} {m : Nat} {k : Nat} {y0 : sV}
    (hW : Wc t M n T L0 A B)
    (hm : m < 6)
    (hk : k < 6)
    (k0 : Q (.inl none) (sIw (sIw t 451 m ((mA M 5 m) - (mA M 9 k))) 451 k ((mA (mAw M 5 m ((mA M 5 m) - (mA M 9 k))) 5 k) + (mA M 9 k)))) :
    X 17 15 [.inr (.inr (3, (some 0))), .inr (.inr (7, (some m))), .inr (.inr (7, (some k))), .inr (.inr (25, (some 0))), .inl 3, .inl 3, y0] [] t Q := by
  obtain ⟨hM, hc, hR, hC, hL, hL9⟩ := hW
  refine x_iload (pc' := 17) rfl rfl rfl ?_
  refine x_iload (pc' := 19) rfl rfl rfl ?_
  refine x_icmp (a' := 51) (pc' := 22) (z := true) rfl rfl rfl (by decide) (fun _ => ?_) (fun h => by cases h)
  refine x_aload_n (pc' := 52) rfl rfl rfl rfl rfl ?_
  refine x_dup (pc' := 53) rfl rfl rfl ?_
  refine x_gI (pc' := 56) (x := (mA M 5 m)) rfl rfl rfl (kA hM rfl hm) ?_
  refine x_aload_n (pc' := 57) rfl rfl rfl rfl rfl ?_
  refine x_gI (pc' := 60) (x := (mA M 9 k)) rfl rfl rfl (kA hM rfl hk) ?_
  refine x_isub (pc' := 61) (z := ((mA M 5 m) - (mA M 9 k))) rfl rfl rfl ?_
  refine x_pI (pc' := 64) rfl rfl rfl ?_
  refine x_aload_n (pc' := 65) rfl rfl rfl rfl rfl ?_
  refine x_dup (pc' := 66) rfl rfl rfl ?_
  refine x_gI (pc' := 69) (x := (mA (mAw M 5 m ((mA M 5 m) - (mA M 9 k))) 5 k)) rfl rfl rfl (kA (Rl_I rfl hM) rfl hk) ?_
  refine x_aload_n (pc' := 70) rfl rfl rfl rfl rfl ?_
  refine x_gI (pc' := 73) (x := (mA M 9 k)) rfl rfl rfl (Eq.trans (b := sI t 456 k) rfl (kA hM rfl hk)) ?_
  refine x_iadd (pc' := 74) (z := ((mA (mAw M 5 m ((mA M 5 m) - (mA M 9 k))) 5 k) + (mA M 9 k))) rfl rfl rfl ?_
  refine x_pI (pc' := 77) rfl rfl rfl ?_
  refine x_ret rfl ?_
  exact k0
set_option maxHeartbeats 4000000 in
set_option maxRecDepth 10000 in
theorem n19_k {t : sT} {Q : sRs → sT → Prop} {M : sM} {n : Nat} {T : Nat} {L0 : List Nat} {A : Nat} {B : Nat} {m : Nat} {c : Nat} {y0 : sV}
    (hW : Wc t M n T L0 A B)
    (hm : m < 6)
    (hc3 : c < 3)
    (k0 : X 20 0 [.inr (.inr (3, (some 0))), .inr (.inr (7, (some m))), .inr (.inr (2, (some c))), sJk, sJk, sJk, sJk, sJk, sJk, sJk, sJk] [] t (sK 20 19 30 [.inr (.inr (3, (some 0))), .inr (.inr (7, (some m))), .inr (.inr (25, (some 0))), .inl 3, .inl (io c), .inr (.inr (2, (some c)))] [] Q)) :
    X 19 14 [.inr (.inr (3, (some 0))), .inr (.inr (7, (some m))), .inr (.inr (25, (some 0))), .inl 3, .inl (io c), y0] [] t Q := by
  obtain ⟨hM, hc, hR, hC, hL, hL9⟩ := hW
  refine x_iload (pc' := 16) rfl rfl rfl ?_
  refine x_iload_n (pc' := 17) rfl rfl rfl ?_
  refine x_icmp_n (a' := 39) (pc' := 20) (z := decide (c < 3)) rfl rfl rfl (ic_gen (p := c) (q := 3) (gc31 hc3) (by decide)) (fun h => absurd hc3 (of_decide_eq_false h)) (fun _ => ?_)
  refine x_aload_n (pc' := 21) rfl rfl rfl rfl rfl ?_
  refine x_iload (pc' := 23) rfl rfl rfl ?_
  refine x_aald (pc' := 24) (N := 3) (k' := 2) (r := (some c)) rfl rfl rfl (kN_25_0 hc.1) (io_in (p := c) (N := 3) hc3 (by decide)) (Eq.trans (congrArg (sE t 25 0) (nn_io (p := c) (Nat.lt_trans hc3 (by decide)))) (kK hc.1 hc3)) ?_
  refine x_astore (pc' := 26) (ls' := [_, _, _, _, _, _]) rfl rfl rfl rfl rfl ?_
  refine x_aload_n (pc' := 27) rfl rfl rfl rfl rfl ?_
  refine x_aload_n (pc' := 28) rfl rfl rfl rfl rfl ?_
  refine x_aload (pc' := 30) rfl rfl rfl rfl rfl ?_
  refine x_cv (ls0 := [_, _, _, sJk, sJk, sJk, sJk, sJk, sJk, sJk, sJk]) (rest := []) rfl rfl rfl rfl rfl ?_
  exact k0
set_option maxHeartbeats 4000000 in
set_option maxRecDepth 10000 in
theorem n19_t {t : sT} {Q : sRs → sT → Prop} {M : sM} {n : Nat} {T : Nat} {L0 : List Nat} {A : Nat} {B : Nat} {m : Nat} {c : Nat} {y0 : sV}
    (hW : Wc t M n T L0 A B)
    (hm : m < 6)
    (hc3 : c < 3)
    (k0 : X 19 14 [.inr (.inr (3, (some 0))), .inr (.inr (7, (some m))), .inr (.inr (25, (some 0))), .inl 3, .inl (io (c + 1)), y0] [] t Q) :
    X 19 33 [.inr (.inr (3, (some 0))), .inr (.inr (7, (some m))), .inr (.inr (25, (some 0))), .inl 3, .inl (io c), y0] [] t Q := by
  obtain ⟨hM, hc, hR, hC, hL, hL9⟩ := hW
  refine x_iinc (pc' := 36) (y := (io (c + 1))) (ls' := [_, _, _, _, _, _]) rfl rfl rfl (io_add c 1) rfl ?_
  refine x_goto (pc' := 14) rfl rfl ?_
  exact k0
set_option maxHeartbeats 4000000 in
set_option maxRecDepth 10000 in
theorem n19_e {t : sT} {Q : sRs → sT → Prop} {M : sM} {n : Nat} {T : Nat} {L0 : List Nat} {A : Nat} {B : Nat} {m : Nat} {y0 : sV}
    (hW : Wc t M n T L0 A B)
    (hm : m < 6)
    (k0 : Q (.inl none) t) :
    X 19 14 [.inr (.inr (3, (some 0))), .inr (.inr (7, (some m))), .inr (.inr (25, (some 0))), .inl 3, .inl 3, y0] [] t Q := by
  obtain ⟨hM, hc, hR, hC, hL, hL9⟩ := hW
  refine x_iload (pc' := 16) rfl rfl rfl ?_
  refine x_iload_n (pc' := 17) rfl rfl rfl ?_
  refine x_icmp (a' := 39) (pc' := 20) (z := true) rfl rfl rfl (by decide) (fun _ => ?_) (fun h => by cases h)
  refine x_ret rfl ?_
  exact k0
set_option maxHeartbeats 4000000 in
set_option maxRecDepth 10000 in
theorem n18_e {t : sT} {Q : sRs → sT → Prop} {M : sM} {n : Nat} {T : Nat} {L0 : List Nat} {A : Nat} {B : Nat} {m : Nat} {k : Nat} {c : Nat} {a : Int32} {p : Int32}
    (hW : Wc t M n T L0 A B)
    (hm : m < 6)
    (hk : k < 6)
    (hc3 : c < 3)
    (k0 : Q (.inl none) t) :
    X 18 54 [.inr (.inr (3, (some 0))), .inr (.inr (7, (some m))), .inr (.inr (7, (some k))), .inr (.inr (2, (some c))), .inl a, .inl p] [] t Q := by
  obtain ⟨hM, hc, hR, hC, hL, hL9⟩ := hW
  refine x_ret rfl ?_
  exact k0
