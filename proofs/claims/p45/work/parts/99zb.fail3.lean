/-! fail, last pieces (printed by ext99zb.py) -/
set_option maxHeartbeats 4000000 in
set_option maxRecDepth 10000 in
theorem n21 {t : sT} {Q : sRs → sT → Prop} {M : sM} {n : Nat} {T : Nat} {L0 : List Nat} {A : Nat} {B : Nat} {m : Nat} {k : Nat} {c : Nat}
    (hW : Wc t M n T L0 A B)
    (hm : m < 6)
    (hk : k < 6)
    (hc3 : c < 3)
    (k0 : ¬ (0 < (mA M 6 ((3 * k) + c))) → ¬ ((mA M 6 ((3 * k) + c)) < 0) → Q (.inl (some (.inl 0))) t)
    (k1 : ¬ (0 < (mA M 6 ((3 * k) + c))) → (mA M 6 ((3 * k) + c)) < 0 → ¬ (0 < (mA M 6 ((3 * m) + c))) → Q (.inl (some (.inl 0))) t)
    (k2 : ¬ (0 < (mA M 6 ((3 * k) + c))) → (mA M 6 ((3 * k) + c)) < 0 → 0 < (mA M 6 ((3 * m) + c)) → Q (.inl (some (.inl (ab (mA M 6 ((3 * k) + c)))))) t)
    (k3 : 0 < (mA M 6 ((3 * k) + c)) → (mA M 6 ((3 * m) + c)) < 0 → Q (.inl (some (.inl (ab (mA M 6 ((3 * k) + c)))))) t)
    (k4 : 0 < (mA M 6 ((3 * k) + c)) → ¬ ((mA M 6 ((3 * m) + c)) < 0) → Q (.inl (some (.inl 0))) t) :
    X 21 0 [.inr (.inr (7, (some m))), .inr (.inr (7, (some k))), .inr (.inr (2, (some c))), sJk, sJk] [] t Q := by
  obtain ⟨hM, hc, hR, hC, hL, hL9⟩ := hW
  refine x_aload_n (pc' := 1) rfl rfl rfl rfl rfl ?_
  refine x_aload_n (pc' := 2) rfl rfl rfl rfl rfl ?_
  refine x_cv (ls0 := [_, _, sJk]) (rest := []) rfl rfl rfl rfl rfl ?_
  refine x_aload_n (pc' := 1) rfl rfl rfl rfl rfl ?_
  refine x_gI (pc' := 4) (x := (io c)) rfl rfl rfl (kKn hc.1 hc3) ?_
  refine x_istore_n (pc' := 5) (ls' := [_, _, _]) rfl rfl rfl rfl ?_
  refine x_iload_n (pc' := 6) rfl rfl rfl ?_
  refine x_if (a' := 27) (pc' := 9) (z := decide (c < 0)) rfl rfl rfl (ic_lt (p := c) (q := 0) (gc31 hc3) (by decide)) (fun h => absurd (of_decide_eq_true h) (by first | decide | omega | simp)) (fun _ => ?_)
  refine x_iload_n (pc' := 10) rfl rfl rfl ?_
  refine x_aload_n (pc' := 11) rfl rfl rfl rfl rfl ?_
  refine x_gR (pc' := 14) (r := (some (k + 1))) rfl rfl rfl (kMp hc.1 hk).1 ?_
  refine x_alen (pc' := 15) (N := 3) rfl rfl rfl (kMp hc.1 hk).2.1 (?_ : X _ _ _ (.inl 3 :: _) _ _)
  refine x_icmp_n (a' := 27) (pc' := 18) (z := decide (c < 3)) rfl rfl rfl (ic_gen (p := c) (q := 3) (gc31 hc3) (by decide)) (fun h => absurd hc3 (of_decide_eq_false h)) (fun _ => ?_)
  refine x_aload_n (pc' := 19) rfl rfl rfl rfl rfl ?_
  refine x_gR (pc' := 22) (r := (some (k + 1))) rfl rfl rfl (kMp hc.1 hk).1 ?_
  refine x_iload_n (pc' := 23) rfl rfl rfl ?_
  refine x_iald (pc' := 24) (N := 3) (x := (mA M 6 ((3 * k) + c))) rfl rfl rfl (kMp hc.1 hk).2.1 (io_in (p := c) (N := 3) hc3 (by decide)) (Eq.trans (congrArg (sA t 20 (k + 1)) (nn_io (p := c) (Nat.lt_trans hc3 (by decide)))) (kP (m := k) (c := c) hM hk hc3)) ?_
  refine x_goto (pc' := 28) rfl rfl ?_
  refine x_reti rfl rfl ?_
  refine sK_i (pc' := 5) rfl ?_
  refine x_istore_n (pc' := 6) (ls' := [_, _, _, _, _]) rfl rfl rfl rfl ?_
  refine x_aload_n (pc' := 7) rfl rfl rfl rfl rfl ?_
  refine x_aload_n (pc' := 8) rfl rfl rfl rfl rfl ?_
  refine x_cv (ls0 := [_, _, sJk]) (rest := []) rfl rfl rfl rfl rfl ?_
  refine x_aload_n (pc' := 1) rfl rfl rfl rfl rfl ?_
  refine x_gI (pc' := 4) (x := (io c)) rfl rfl rfl (kKn hc.1 hc3) ?_
  refine x_istore_n (pc' := 5) (ls' := [_, _, _]) rfl rfl rfl rfl ?_
  refine x_iload_n (pc' := 6) rfl rfl rfl ?_
  refine x_if (a' := 27) (pc' := 9) (z := decide (c < 0)) rfl rfl rfl (ic_lt (p := c) (q := 0) (gc31 hc3) (by decide)) (fun h => absurd (of_decide_eq_true h) (by first | decide | omega | simp)) (fun _ => ?_)
  refine x_iload_n (pc' := 10) rfl rfl rfl ?_
  refine x_aload_n (pc' := 11) rfl rfl rfl rfl rfl ?_
  refine x_gR (pc' := 14) (r := (some (m + 1))) rfl rfl rfl (kMp hc.1 hm).1 ?_
  refine x_alen (pc' := 15) (N := 3) rfl rfl rfl (kMp hc.1 hm).2.1 (?_ : X _ _ _ (.inl 3 :: _) _ _)
  refine x_icmp_n (a' := 27) (pc' := 18) (z := decide (c < 3)) rfl rfl rfl (ic_gen (p := c) (q := 3) (gc31 hc3) (by decide)) (fun h => absurd hc3 (of_decide_eq_false h)) (fun _ => ?_)
  refine x_aload_n (pc' := 19) rfl rfl rfl rfl rfl ?_
  refine x_gR (pc' := 22) (r := (some (m + 1))) rfl rfl rfl (kMp hc.1 hm).1 ?_
  refine x_iload_n (pc' := 23) rfl rfl rfl ?_
  refine x_iald (pc' := 24) (N := 3) (x := (mA M 6 ((3 * m) + c))) rfl rfl rfl (kMp hc.1 hm).2.1 (io_in (p := c) (N := 3) hc3 (by decide)) (Eq.trans (congrArg (sA t 20 (m + 1)) (nn_io (p := c) (Nat.lt_trans hc3 (by decide)))) (kP (m := m) (c := c) hM hm hc3)) ?_
  refine x_goto (pc' := 28) rfl rfl ?_
  refine x_reti rfl rfl ?_
  refine sK_i (pc' := 11) rfl ?_
  refine x_istore (pc' := 13) (ls' := [_, _, _, _, _]) rfl rfl rfl rfl ?_
  refine x_iload_n (pc' := 14) rfl rfl rfl ?_
  refine x_if_n (a' := 22) (pc' := 17) (z := decide (0 < (mA M 6 ((3 * k) + c)))) rfl rfl rfl (ik_le _ _) (fun q5 => ?_) (fun q5 => ?_)
  · refine x_iload_n (pc' := 23) rfl rfl rfl ?_
    refine x_if_n (a' := 38) (pc' := 26) (z := decide ((mA M 6 ((3 * k) + c)) < 0)) rfl rfl rfl (ik_ge _ _) (fun q6 => ?_) (fun q6 => ?_)
    · refine x_iconst (pc' := 39) rfl rfl ?_
      refine x_reti rfl rfl ?_
      exact k0 (of_decide_eq_false q5) (of_decide_eq_false q6)
    · refine x_iload (pc' := 28) rfl rfl rfl ?_
      refine x_if_n (a' := 38) (pc' := 31) (z := decide (0 < (mA M 6 ((3 * m) + c)))) rfl rfl rfl (ik_le _ _) (fun q7 => ?_) (fun q7 => ?_)
      · refine x_iconst (pc' := 39) rfl rfl ?_
        refine x_reti rfl rfl ?_
        exact k1 (of_decide_eq_false q5) (of_decide_eq_true q6) (of_decide_eq_false q7)
      · refine x_iload_n (pc' := 32) rfl rfl rfl ?_
        refine x_abs (pc' := 35) (z := (ab (mA M 6 ((3 * k) + c)))) rfl rfl rfl rfl ?_
        refine x_goto (pc' := 39) rfl rfl ?_
        refine x_reti rfl rfl ?_
        exact k2 (of_decide_eq_false q5) (of_decide_eq_true q6) (of_decide_eq_true q7)
  · refine x_iload (pc' := 19) rfl rfl rfl ?_
    refine x_if (a' := 31) (pc' := 22) (z := decide ((mA M 6 ((3 * m) + c)) < 0)) rfl rfl rfl rfl (fun q8 => ?_) (fun q8 => ?_)
    · refine x_iload_n (pc' := 32) rfl rfl rfl ?_
      refine x_abs (pc' := 35) (z := (ab (mA M 6 ((3 * k) + c)))) rfl rfl rfl rfl ?_
      refine x_goto (pc' := 39) rfl rfl ?_
      refine x_reti rfl rfl ?_
      exact k3 (of_decide_eq_true q5) (of_decide_eq_true q8)
    · refine x_iload_n (pc' := 23) rfl rfl rfl ?_
      refine x_if_n (a' := 38) (pc' := 26) (z := decide ((mA M 6 ((3 * k) + c)) < 0)) rfl rfl rfl (ik_ge _ _) (fun _ => ?_) (fun h => absurd (of_decide_eq_true h) (nlt_of (of_decide_eq_true q5)))
      refine x_iconst (pc' := 39) rfl rfl ?_
      refine x_reti rfl rfl ?_
      exact k4 (of_decide_eq_true q5) (of_decide_eq_false q8)
set_option maxHeartbeats 4000000 in
set_option maxRecDepth 10000 in
theorem n20_0 {t : sT} {Q : sRs → sT → Prop} {M : sM} {n : Nat} {T : Nat} {L0 : List Nat} {A : Nat} {B : Nat} {m : Nat} {c : Nat}
    (hW : Wc t M n T L0 A B)
    (hm : m < 6)
    (hc3 : c < 3)
    (k0 : X 20 29 [.inr (.inr (3, (some 0))), .inr (.inr (7, (some m))), .inr (.inr (2, (some c))), .inl (ab (mA M 6 ((3 * m) + c))), .inr (.inl (0 : Int64)), sJk, .inr (.inr (26, (some 0))), .inl 6, .inl 0, sJk, sJk] [] t Q) :
    X 20 0 [.inr (.inr (3, (some 0))), .inr (.inr (7, (some m))), .inr (.inr (2, (some c))), sJk, sJk, sJk, sJk, sJk, sJk, sJk, sJk] [] t Q := by
  obtain ⟨hM, hc, hR, hC, hL, hL9⟩ := hW
  refine x_aload_n (pc' := 1) rfl rfl rfl rfl rfl ?_
  refine x_aload_n (pc' := 2) rfl rfl rfl rfl rfl ?_
  refine x_cv (ls0 := [_, _, sJk]) (rest := []) rfl rfl rfl rfl rfl ?_
  refine x_aload_n (pc' := 1) rfl rfl rfl rfl rfl ?_
  refine x_gI (pc' := 4) (x := (io c)) rfl rfl rfl (kKn hc.1 hc3) ?_
  refine x_istore_n (pc' := 5) (ls' := [_, _, _]) rfl rfl rfl rfl ?_
  refine x_iload_n (pc' := 6) rfl rfl rfl ?_
  refine x_if (a' := 27) (pc' := 9) (z := decide (c < 0)) rfl rfl rfl (ic_lt (p := c) (q := 0) (gc31 hc3) (by decide)) (fun h => absurd (of_decide_eq_true h) (by first | decide | omega | simp)) (fun _ => ?_)
  refine x_iload_n (pc' := 10) rfl rfl rfl ?_
  refine x_aload_n (pc' := 11) rfl rfl rfl rfl rfl ?_
  refine x_gR (pc' := 14) (r := (some (m + 1))) rfl rfl rfl (kMp hc.1 hm).1 ?_
  refine x_alen (pc' := 15) (N := 3) rfl rfl rfl (kMp hc.1 hm).2.1 (?_ : X _ _ _ (.inl 3 :: _) _ _)
  refine x_icmp_n (a' := 27) (pc' := 18) (z := decide (c < 3)) rfl rfl rfl (ic_gen (p := c) (q := 3) (gc31 hc3) (by decide)) (fun h => absurd hc3 (of_decide_eq_false h)) (fun _ => ?_)
  refine x_aload_n (pc' := 19) rfl rfl rfl rfl rfl ?_
  refine x_gR (pc' := 22) (r := (some (m + 1))) rfl rfl rfl (kMp hc.1 hm).1 ?_
  refine x_iload_n (pc' := 23) rfl rfl rfl ?_
  refine x_iald (pc' := 24) (N := 3) (x := (mA M 6 ((3 * m) + c))) rfl rfl rfl (kMp hc.1 hm).2.1 (io_in (p := c) (N := 3) hc3 (by decide)) (Eq.trans (congrArg (sA t 20 (m + 1)) (nn_io (p := c) (Nat.lt_trans hc3 (by decide)))) (kP (m := m) (c := c) hM hm hc3)) ?_
  refine x_goto (pc' := 28) rfl rfl ?_
  refine x_reti rfl rfl ?_
  refine sK_i (pc' := 5) rfl ?_
  refine x_abs (pc' := 8) (z := (ab (mA M 6 ((3 * m) + c)))) rfl rfl rfl rfl ?_
  refine x_istore_n (pc' := 9) (ls' := [_, _, _, _, _, _, _, _, _, _, _]) rfl rfl rfl rfl ?_
  refine x_lconst (pc' := 10) rfl rfl rfl ?_
  refine x_lstore (pc' := 12) (ls' := [_, _, _, _, _, _, _, _, _, _, _]) rfl rfl rfl rfl ?_
  refine x_aload_n (pc' := 13) rfl rfl rfl rfl rfl ?_
  refine x_gR (pc' := 16) (r := (some 0)) rfl rfl rfl (kR_192_0 hc.1) ?_
  refine x_gR (pc' := 19) (r := (some 0)) rfl rfl rfl (kR_321_0 hc.1) ?_
  refine x_astore (pc' := 21) (ls' := [_, _, _, _, _, _, _, _, _, _, _]) rfl rfl rfl rfl rfl ?_
  refine x_aload (pc' := 23) rfl rfl rfl rfl rfl ?_
  refine x_alen (pc' := 24) (N := 6) rfl rfl rfl (kN_26_0 hc.1) (?_ : X _ _ _ (.inl 6 :: _) _ _)
  refine x_istore (pc' := 26) (ls' := [_, _, _, _, _, _, _, _, _, _, _]) rfl rfl rfl rfl ?_
  refine x_iconst (pc' := 27) rfl rfl ?_
  refine x_istore (pc' := 29) (ls' := [_, _, _, _, _, _, _, _, _, _, _]) rfl rfl rfl rfl ?_
  exact k0
set_option maxHeartbeats 4000000 in
set_option maxRecDepth 10000 in
theorem n20_k {t : sT} {Q : sRs → sT → Prop} {M : sM} {n : Nat} {T : Nat} {L0 : List Nat} {A : Nat} {B : Nat} {m : Nat} {c : Nat} {x : Nat} {a : Int32} {u : Int64} {y0 : sV} {y1 : sV}
    (hW : Wc t M n T L0 A B)
    (hm : m < 6)
    (hc3 : c < 3)
    (hx : x < 6)
    (k0 : X 21 0 [.inr (.inr (7, (some m))), .inr (.inr (7, (some x))), .inr (.inr (2, (some c))), sJk, sJk] [] t (sK 21 20 49 [.inr (.inr (3, (some 0))), .inr (.inr (7, (some m))), .inr (.inr (2, (some c))), .inl a, .inr (.inl u), sJk, .inr (.inr (26, (some 0))), .inl 6, .inl (io x), .inr (.inr (7, (some x))), y1] [.inr (.inl u)] Q)) :
    X 20 29 [.inr (.inr (3, (some 0))), .inr (.inr (7, (some m))), .inr (.inr (2, (some c))), .inl a, .inr (.inl u), sJk, .inr (.inr (26, (some 0))), .inl 6, .inl (io x), y0, y1] [] t Q := by
  obtain ⟨hM, hc, hR, hC, hL, hL9⟩ := hW
  refine x_iload (pc' := 31) rfl rfl rfl ?_
  refine x_iload (pc' := 33) rfl rfl rfl ?_
  refine x_icmp_n (a' := 62) (pc' := 36) (z := decide (x < 6)) rfl rfl rfl (ic_gen (p := x) (q := 6) (gm31 hx) (by decide)) (fun h => absurd hx (of_decide_eq_false h)) (fun _ => ?_)
  refine x_aload (pc' := 38) rfl rfl rfl rfl rfl ?_
  refine x_iload (pc' := 40) rfl rfl rfl ?_
  refine x_aald (pc' := 41) (N := 6) (k' := 7) (r := (some x)) rfl rfl rfl (kN_26_0 hc.1) (io_in (p := x) (N := 6) hx (by decide)) (Eq.trans (congrArg (sE t 26 0) (nn_io (p := x) (Nat.lt_trans hx (by decide)))) (kM hc.1 hx)) ?_
  refine x_astore (pc' := 43) (ls' := [_, _, _, _, _, _, _, _, _, _, _]) rfl rfl rfl rfl rfl ?_
  refine x_lload (pc' := 45) rfl rfl rfl ?_
  refine x_aload_n (pc' := 46) rfl rfl rfl rfl rfl ?_
  refine x_aload (pc' := 48) rfl rfl rfl rfl rfl ?_
  refine x_aload_n (pc' := 49) rfl rfl rfl rfl rfl ?_
  refine x_cs (ls0 := [_, _, _, sJk, sJk]) (rest := [_]) rfl rfl rfl rfl ?_
  exact k0
set_option maxHeartbeats 4000000 in
set_option maxRecDepth 10000 in
theorem n20_k2 {t : sT} {Q : sRs → sT → Prop} {M : sM} {n : Nat} {T : Nat} {L0 : List Nat} {A : Nat} {B : Nat} {m : Nat} {c : Nat} {x : Nat} {a : Int32} {h : Int32} {u : Int64} {y0 : sV}
    (hW : Wc t M n T L0 A B)
    (hm : m < 6)
    (hc3 : c < 3)
    (hx : x < 6)
    (k0 : X 20 29 [.inr (.inr (3, (some 0))), .inr (.inr (7, (some m))), .inr (.inr (2, (some c))), .inl a, .inr (.inl (u + h.toInt64)), sJk, .inr (.inr (26, (some 0))), .inl 6, .inl (io (x + 1)), .inr (.inr (7, (some x))), y0] [] t Q) :
    X 20 52 [.inr (.inr (3, (some 0))), .inr (.inr (7, (some m))), .inr (.inr (2, (some c))), .inl a, .inr (.inl u), sJk, .inr (.inr (26, (some 0))), .inl 6, .inl (io x), .inr (.inr (7, (some x))), y0] [.inl h, .inr (.inl u)] t Q := by
  obtain ⟨hM, hc, hR, hC, hL, hL9⟩ := hW
  refine x_i2l (pc' := 53) rfl rfl rfl ?_
  refine x_ladd (pc' := 54) rfl rfl rfl ?_
  refine x_lstore (pc' := 56) (ls' := [_, _, _, _, _, _, _, _, _, _, _]) rfl rfl rfl rfl ?_
  refine x_iinc (pc' := 59) (y := (io (x + 1))) (ls' := [_, _, _, _, _, _, _, _, _, _, _]) rfl rfl rfl (io_add x 1) rfl ?_
  refine x_goto (pc' := 29) rfl rfl ?_
  exact k0
set_option maxHeartbeats 4000000 in
set_option maxRecDepth 10000 in
theorem n20_e {t : sT} {Q : sRs → sT → Prop} {M : sM} {n : Nat} {T : Nat} {L0 : List Nat} {A : Nat} {B : Nat} {m : Nat} {c : Nat} {a : Int32} {u : Int64} {y0 : sV} {y1 : sV}
    (hW : Wc t M n T L0 A B)
    (hm : m < 6)
    (hc3 : c < 3)
    (k0 : a = 0 → Q (.inl none) t)
    (k1 : ¬ (a = 0) → 0 < (sLcmp u (0 : Int64)) → X 20 94 [.inr (.inr (3, (some 0))), .inr (.inr (7, (some m))), .inr (.inr (2, (some c))), .inl a, .inr (.inl u), sJk, .inl a, .inr (.inr (26, (some 0))), .inl 6, .inl 0, y1] [] t Q)
    (k2 : ¬ (a = 0) → ¬ (0 < (sLcmp u (0 : Int64))) → Q (.inl none) t) :
    X 20 29 [.inr (.inr (3, (some 0))), .inr (.inr (7, (some m))), .inr (.inr (2, (some c))), .inl a, .inr (.inl u), sJk, .inr (.inr (26, (some 0))), .inl 6, .inl 6, y0, y1] [] t Q := by
  obtain ⟨hM, hc, hR, hC, hL, hL9⟩ := hW
  refine x_iload (pc' := 31) rfl rfl rfl ?_
  refine x_iload (pc' := 33) rfl rfl rfl ?_
  refine x_icmp (a' := 62) (pc' := 36) (z := true) rfl rfl rfl (by decide) (fun _ => ?_) (fun h => by cases h)
  refine x_iload_n (pc' := 63) rfl rfl rfl ?_
  refine x_if (a' := 73) (pc' := 66) (z := decide (a = 0)) rfl rfl rfl rfl (fun q2 => ?_) (fun q2 => ?_)
  · refine x_ret rfl ?_
    exact k0 (of_decide_eq_true q2)
  · refine x_lload (pc' := 68) rfl rfl rfl ?_
    refine x_lconst (pc' := 69) rfl rfl rfl ?_
    refine x_lcmp (pc' := 70) rfl rfl rfl ?_
    refine x_if (a' := 74) (pc' := 73) (z := decide (0 < (sLcmp u (0 : Int64)))) rfl rfl rfl rfl (fun q3 => ?_) (fun q3 => ?_)
    · refine x_iload_n (pc' := 75) rfl rfl rfl ?_
      refine x_istore (pc' := 77) (ls' := [_, _, _, _, _, _, _, _, _, _, _]) rfl rfl rfl rfl ?_
      refine x_aload_n (pc' := 78) rfl rfl rfl rfl rfl ?_
      refine x_gR (pc' := 81) (r := (some 0)) rfl rfl rfl (kR_192_0 hc.1) ?_
      refine x_gR (pc' := 84) (r := (some 0)) rfl rfl rfl (kR_321_0 hc.1) ?_
      refine x_astore (pc' := 86) (ls' := [_, _, _, _, _, _, _, _, _, _, _]) rfl rfl rfl rfl rfl ?_
      refine x_aload (pc' := 88) rfl rfl rfl rfl rfl ?_
      refine x_alen (pc' := 89) (N := 6) rfl rfl rfl (kN_26_0 hc.1) (?_ : X _ _ _ (.inl 6 :: _) _ _)
      refine x_istore (pc' := 91) (ls' := [_, _, _, _, _, _, _, _, _, _, _]) rfl rfl rfl rfl ?_
      refine x_iconst (pc' := 92) rfl rfl ?_
      refine x_istore (pc' := 94) (ls' := [_, _, _, _, _, _, _, _, _, _, _]) rfl rfl rfl rfl ?_
      exact k1 (of_decide_eq_false q2) (of_decide_eq_true q3)
    · refine x_ret rfl ?_
      exact k2 (of_decide_eq_false q2) (of_decide_eq_false q3)
set_option maxHeartbeats 4000000 in
set_option maxRecDepth 10000 in
theorem n20_s {t : sT} {Q : sRs → sT → Prop} {M : sM} {n : Nat} {T : Nat} {L0 : List Nat} {A : Nat} {B : Nat} {m : Nat} {c : Nat} {x : Nat} {a : Int32} {d : Int32} {u : Int64} {y0 : sV}
    (hW : Wc t M n T L0 A B)
    (hm : m < 6)
    (hc3 : c < 3)
    (hx : x < 6)
    (k0 : X 21 0 [.inr (.inr (7, (some m))), .inr (.inr (7, (some x))), .inr (.inr (2, (some c))), sJk, sJk] [] t (sK 21 20 114 [.inr (.inr (3, (some 0))), .inr (.inr (7, (some m))), .inr (.inr (2, (some c))), .inl a, .inr (.inl u), sJk, .inl d, .inr (.inr (26, (some 0))), .inl 6, .inl (io x), .inr (.inr (7, (some x)))] [.inr (.inr (7, (some x)))] Q)) :
    X 20 94 [.inr (.inr (3, (some 0))), .inr (.inr (7, (some m))), .inr (.inr (2, (some c))), .inl a, .inr (.inl u), sJk, .inl d, .inr (.inr (26, (some 0))), .inl 6, .inl (io x), y0] [] t Q := by
  obtain ⟨hM, hc, hR, hC, hL, hL9⟩ := hW
  refine x_iload (pc' := 96) rfl rfl rfl ?_
  refine x_iload (pc' := 98) rfl rfl rfl ?_
  refine x_icmp_n (a' := 144) (pc' := 101) (z := decide (x < 6)) rfl rfl rfl (ic_gen (p := x) (q := 6) (gm31 hx) (by decide)) (fun h => absurd hx (of_decide_eq_false h)) (fun _ => ?_)
  refine x_aload (pc' := 103) rfl rfl rfl rfl rfl ?_
  refine x_iload (pc' := 105) rfl rfl rfl ?_
  refine x_aald (pc' := 106) (N := 6) (k' := 7) (r := (some x)) rfl rfl rfl (kN_26_0 hc.1) (io_in (p := x) (N := 6) hx (by decide)) (Eq.trans (congrArg (sE t 26 0) (nn_io (p := x) (Nat.lt_trans hx (by decide)))) (kM hc.1 hx)) ?_
  refine x_astore (pc' := 108) (ls' := [_, _, _, _, _, _, _, _, _, _, _]) rfl rfl rfl rfl rfl ?_
  refine x_aload (pc' := 110) rfl rfl rfl rfl rfl ?_
  refine x_aload_n (pc' := 111) rfl rfl rfl rfl rfl ?_
  refine x_aload (pc' := 113) rfl rfl rfl rfl rfl ?_
  refine x_aload_n (pc' := 114) rfl rfl rfl rfl rfl ?_
  refine x_cs (ls0 := [_, _, _, sJk, sJk]) (rest := [_]) rfl rfl rfl rfl ?_
  exact k0
set_option maxHeartbeats 4000000 in
set_option maxRecDepth 10000 in
theorem n20_s2 {t : sT} {Q : sRs → sT → Prop} {M : sM} {n : Nat} {T : Nat} {L0 : List Nat} {A : Nat} {B : Nat} {m : Nat} {c : Nat} {x : Nat} {a : Int32} {d : Int32} {h : Int32} {u : Int64}
    (hW : Wc t M n T L0 A B)
    (hm : m < 6)
    (hc3 : c < 3)
    (hx : x < 6)
    (hd0 : ¬ u = 0)
    (k0 : X 20 94 [.inr (.inr (3, (some 0))), .inr (.inr (7, (some m))), .inr (.inr (2, (some c))), .inl a, .inr (.inl u), sJk, .inl (d - (((h.toInt64 * a.toInt64) / u).toInt32)), .inr (.inr (26, (some 0))), .inl 6, .inl (io (x + 1)), .inr (.inr (7, (some x)))] [] (sIw t 455 x (((h.toInt64 * a.toInt64) / u).toInt32)) Q) :
    X 20 117 [.inr (.inr (3, (some 0))), .inr (.inr (7, (some m))), .inr (.inr (2, (some c))), .inl a, .inr (.inl u), sJk, .inl d, .inr (.inr (26, (some 0))), .inl 6, .inl (io x), .inr (.inr (7, (some x)))] [.inl h, .inr (.inr (7, (some x)))] t Q := by
  obtain ⟨hM, hc, hR, hC, hL, hL9⟩ := hW
  refine x_i2l (pc' := 118) rfl rfl rfl ?_
  refine x_iload_n (pc' := 119) rfl rfl rfl ?_
  refine x_i2l (pc' := 120) rfl rfl rfl ?_
  refine x_lmul (pc' := 121) rfl rfl rfl ?_
  refine x_lload (pc' := 123) rfl rfl rfl ?_
  refine x_ldiv (pc' := 124) rfl rfl hd0 rfl ?_
  refine x_l2i (pc' := 125) rfl rfl rfl ?_
  refine x_pI (pc' := 128) rfl rfl rfl ?_
  refine x_iload (pc' := 130) rfl rfl rfl ?_
  refine x_aload (pc' := 132) rfl rfl rfl rfl rfl ?_
  refine x_gI (pc' := 135) (x := (((h.toInt64 * a.toInt64) / u).toInt32)) rfl rfl rfl sI_s ?_
  refine x_isub (pc' := 136) (z := (d - (((h.toInt64 * a.toInt64) / u).toInt32))) rfl rfl rfl ?_
  refine x_istore (pc' := 138) (ls' := [_, _, _, _, _, _, _, _, _, _, _]) rfl rfl rfl rfl ?_
  refine x_iinc (pc' := 141) (y := (io (x + 1))) (ls' := [_, _, _, _, _, _, _, _, _, _, _]) rfl rfl rfl (io_add x 1) rfl ?_
  refine x_goto (pc' := 94) rfl rfl ?_
  exact k0
set_option maxHeartbeats 4000000 in
set_option maxRecDepth 10000 in
theorem n20_t {t : sT} {Q : sRs → sT → Prop} {M : sM} {n : Nat} {T : Nat} {L0 : List Nat} {A : Nat} {B : Nat} {m : Nat} {c : Nat} {a : Int32} {d : Int32} {u : Int64} {y0 : sV}
    (hW : Wc t M n T L0 A B)
    (hm : m < 6)
    (hc3 : c < 3)
    (k0 : X 22 0 [.inr (.inr (3, (some 0))), .inr (.inr (7, (some m))), .inr (.inr (2, (some c))), .inl d, sJk, sJk, sJk, sJk, sJk] [] t (sK 22 20 149 [.inr (.inr (3, (some 0))), .inr (.inr (7, (some m))), .inr (.inr (2, (some c))), .inl a, .inr (.inl u), sJk, .inl d, .inr (.inr (26, (some 0))), .inl 6, .inl 6, y0] [] Q)) :
    X 20 94 [.inr (.inr (3, (some 0))), .inr (.inr (7, (some m))), .inr (.inr (2, (some c))), .inl a, .inr (.inl u), sJk, .inl d, .inr (.inr (26, (some 0))), .inl 6, .inl 6, y0] [] t Q := by
  obtain ⟨hM, hc, hR, hC, hL, hL9⟩ := hW
  refine x_iload (pc' := 96) rfl rfl rfl ?_
  refine x_iload (pc' := 98) rfl rfl rfl ?_
  refine x_icmp (a' := 144) (pc' := 101) (z := true) rfl rfl rfl (by decide) (fun _ => ?_) (fun h => by cases h)
  refine x_aload_n (pc' := 145) rfl rfl rfl rfl rfl ?_
  refine x_aload_n (pc' := 146) rfl rfl rfl rfl rfl ?_
  refine x_aload_n (pc' := 147) rfl rfl rfl rfl rfl ?_
  refine x_iload (pc' := 149) rfl rfl rfl ?_
  refine x_cv (ls0 := [_, _, _, _, sJk, sJk, sJk, sJk, sJk]) (rest := []) rfl rfl rfl rfl rfl ?_
  exact k0
set_option maxHeartbeats 4000000 in
set_option maxRecDepth 10000 in
theorem n20_t2 {t : sT} {Q : sRs → sT → Prop} {M : sM} {n : Nat} {T : Nat} {L0 : List Nat} {A : Nat} {B : Nat} {m : Nat} {c : Nat} {a : Int32} {d : Int32} {u : Int64} {y0 : sV} {y1 : sV}
    (hW : Wc t M n T L0 A B)
    (hm : m < 6)
    (hc3 : c < 3)
    (k0 : X 20 169 [.inr (.inr (3, (some 0))), .inr (.inr (7, (some m))), .inr (.inr (2, (some c))), .inl a, .inr (.inl u), sJk, .inl d, .inr (.inr (26, (some 0))), .inl 6, .inl 0, y1] [] t Q) :
    X 20 152 [.inr (.inr (3, (some 0))), .inr (.inr (7, (some m))), .inr (.inr (2, (some c))), .inl a, .inr (.inl u), sJk, .inl d, .inr (.inr (26, (some 0))), .inl 6, y0, y1] [] t Q := by
  obtain ⟨hM, hc, hR, hC, hL, hL9⟩ := hW
  refine x_aload_n (pc' := 153) rfl rfl rfl rfl rfl ?_
  refine x_gR (pc' := 156) (r := (some 0)) rfl rfl rfl (kR_192_0 hc.1) ?_
  refine x_gR (pc' := 159) (r := (some 0)) rfl rfl rfl (kR_321_0 hc.1) ?_
  refine x_astore (pc' := 161) (ls' := [_, _, _, _, _, _, _, _, _, _, _]) rfl rfl rfl rfl rfl ?_
  refine x_aload (pc' := 163) rfl rfl rfl rfl rfl ?_
  refine x_alen (pc' := 164) (N := 6) rfl rfl rfl (kN_26_0 hc.1) (?_ : X _ _ _ (.inl 6 :: _) _ _)
  refine x_istore (pc' := 166) (ls' := [_, _, _, _, _, _, _, _, _, _, _]) rfl rfl rfl rfl ?_
  refine x_iconst (pc' := 167) rfl rfl ?_
  refine x_istore (pc' := 169) (ls' := [_, _, _, _, _, _, _, _, _, _, _]) rfl rfl rfl rfl ?_
  exact k0
set_option maxHeartbeats 4000000 in
set_option maxRecDepth 10000 in
theorem n20_p {t : sT} {Q : sRs → sT → Prop} {M : sM} {n : Nat} {T : Nat} {L0 : List Nat} {A : Nat} {B : Nat} {m : Nat} {c : Nat} {x : Nat} {a : Int32} {d : Int32} {p : Int32} {u : Int64} {y0 : sV}
    (hW : Wc t M n T L0 A B)
    (hm : m < 6)
    (hc3 : c < 3)
    (hx : x < 6)
    (hp : sI t 455 x = p)
    (k0 : X 18 0 [.inr (.inr (3, (some 0))), .inr (.inr (7, (some m))), .inr (.inr (7, (some x))), .inr (.inr (2, (some c))), .inl p, sJk] [] t (sK 18 20 193 [.inr (.inr (3, (some 0))), .inr (.inr (7, (some m))), .inr (.inr (2, (some c))), .inl a, .inr (.inl u), sJk, .inl d, .inr (.inr (26, (some 0))), .inl 6, .inl (io x), .inr (.inr (7, (some x)))] [] Q)) :
    X 20 169 [.inr (.inr (3, (some 0))), .inr (.inr (7, (some m))), .inr (.inr (2, (some c))), .inl a, .inr (.inl u), sJk, .inl d, .inr (.inr (26, (some 0))), .inl 6, .inl (io x), y0] [] t Q := by
  obtain ⟨hM, hc, hR, hC, hL, hL9⟩ := hW
  refine x_iload (pc' := 171) rfl rfl rfl ?_
  refine x_iload (pc' := 173) rfl rfl rfl ?_
  refine x_icmp_n (a' := 202) (pc' := 176) (z := decide (x < 6)) rfl rfl rfl (ic_gen (p := x) (q := 6) (gm31 hx) (by decide)) (fun h => absurd hx (of_decide_eq_false h)) (fun _ => ?_)
  refine x_aload (pc' := 178) rfl rfl rfl rfl rfl ?_
  refine x_iload (pc' := 180) rfl rfl rfl ?_
  refine x_aald (pc' := 181) (N := 6) (k' := 7) (r := (some x)) rfl rfl rfl (kN_26_0 hc.1) (io_in (p := x) (N := 6) hx (by decide)) (Eq.trans (congrArg (sE t 26 0) (nn_io (p := x) (Nat.lt_trans hx (by decide)))) (kM hc.1 hx)) ?_
  refine x_astore (pc' := 183) (ls' := [_, _, _, _, _, _, _, _, _, _, _]) rfl rfl rfl rfl rfl ?_
  refine x_aload_n (pc' := 184) rfl rfl rfl rfl rfl ?_
  refine x_aload_n (pc' := 185) rfl rfl rfl rfl rfl ?_
  refine x_aload (pc' := 187) rfl rfl rfl rfl rfl ?_
  refine x_aload_n (pc' := 188) rfl rfl rfl rfl rfl ?_
  refine x_aload (pc' := 190) rfl rfl rfl rfl rfl ?_
  refine x_gI (pc' := 193) (x := p) rfl rfl rfl hp ?_
  refine x_cv (ls0 := [_, _, _, _, _, sJk]) (rest := []) rfl rfl rfl rfl rfl ?_
  exact k0
set_option maxHeartbeats 4000000 in
set_option maxRecDepth 10000 in
theorem n20_p2 {t : sT} {Q : sRs → sT → Prop} {M : sM} {n : Nat} {T : Nat} {L0 : List Nat} {A : Nat} {B : Nat} {m : Nat} {c : Nat} {x : Nat} {a : Int32} {d : Int32} {u : Int64}
    (hW : Wc t M n T L0 A B)
    (hm : m < 6)
    (hc3 : c < 3)
    (hx : x < 6)
    (k0 : X 20 169 [.inr (.inr (3, (some 0))), .inr (.inr (7, (some m))), .inr (.inr (2, (some c))), .inl a, .inr (.inl u), sJk, .inl d, .inr (.inr (26, (some 0))), .inl 6, .inl (io (x + 1)), .inr (.inr (7, (some x)))] [] t Q) :
    X 20 196 [.inr (.inr (3, (some 0))), .inr (.inr (7, (some m))), .inr (.inr (2, (some c))), .inl a, .inr (.inl u), sJk, .inl d, .inr (.inr (26, (some 0))), .inl 6, .inl (io x), .inr (.inr (7, (some x)))] [] t Q := by
  obtain ⟨hM, hc, hR, hC, hL, hL9⟩ := hW
  refine x_iinc (pc' := 199) (y := (io (x + 1))) (ls' := [_, _, _, _, _, _, _, _, _, _, _]) rfl rfl rfl (io_add x 1) rfl ?_
  refine x_goto (pc' := 169) rfl rfl ?_
  exact k0
set_option maxHeartbeats 4000000 in
set_option maxRecDepth 10000 in
theorem n20_q {t : sT} {Q : sRs → sT → Prop} {M : sM} {n : Nat} {T : Nat} {L0 : List Nat} {A : Nat} {B : Nat} {m : Nat} {c : Nat} {a : Int32} {d : Int32} {u : Int64} {y0 : sV}
    (hW : Wc t M n T L0 A B)
    (hm : m < 6)
    (hc3 : c < 3)
    (k0 : Q (.inl none) t) :
    X 20 169 [.inr (.inr (3, (some 0))), .inr (.inr (7, (some m))), .inr (.inr (2, (some c))), .inl a, .inr (.inl u), sJk, .inl d, .inr (.inr (26, (some 0))), .inl 6, .inl 6, y0] [] t Q := by
  obtain ⟨hM, hc, hR, hC, hL, hL9⟩ := hW
  refine x_iload (pc' := 171) rfl rfl rfl ?_
  refine x_iload (pc' := 173) rfl rfl rfl ?_
  refine x_icmp (a' := 202) (pc' := 176) (z := true) rfl rfl rfl (by decide) (fun _ => ?_) (fun h => by cases h)
  refine x_ret rfl ?_
  exact k0
set_option maxHeartbeats 4000000 in
set_option maxRecDepth 10000 in
theorem n22_0 {t : sT} {Q : sRs → sT → Prop} {M : sM} {n : Nat} {T : Nat} {L0 : List Nat} {A : Nat} {B : Nat} {m : Nat} {c : Nat} {a : Int32}
    (hW : Wc t M n T L0 A B)
    (hm : m < 6)
    (hc3 : c < 3)
    (k0 : X 22 20 [.inr (.inr (3, (some 0))), .inr (.inr (7, (some m))), .inr (.inr (2, (some c))), .inl a, .inl a, .inr (.inr (26, (some 0))), .inl 6, .inl 0, sJk] [] t Q) :
    X 22 0 [.inr (.inr (3, (some 0))), .inr (.inr (7, (some m))), .inr (.inr (2, (some c))), .inl a, sJk, sJk, sJk, sJk, sJk] [] t Q := by
  obtain ⟨hM, hc, hR, hC, hL, hL9⟩ := hW
  refine x_iload_n (pc' := 1) rfl rfl rfl ?_
  refine x_istore (pc' := 3) (ls' := [_, _, _, _, _, _, _, _, _]) rfl rfl rfl rfl ?_
  refine x_aload_n (pc' := 4) rfl rfl rfl rfl rfl ?_
  refine x_gR (pc' := 7) (r := (some 0)) rfl rfl rfl (kR_192_0 hc.1) ?_
  refine x_gR (pc' := 10) (r := (some 0)) rfl rfl rfl (kR_321_0 hc.1) ?_
  refine x_astore (pc' := 12) (ls' := [_, _, _, _, _, _, _, _, _]) rfl rfl rfl rfl rfl ?_
  refine x_aload (pc' := 14) rfl rfl rfl rfl rfl ?_
  refine x_alen (pc' := 15) (N := 6) rfl rfl rfl (kN_26_0 hc.1) (?_ : X _ _ _ (.inl 6 :: _) _ _)
  refine x_istore (pc' := 17) (ls' := [_, _, _, _, _, _, _, _, _]) rfl rfl rfl rfl ?_
  refine x_iconst (pc' := 18) rfl rfl ?_
  refine x_istore (pc' := 20) (ls' := [_, _, _, _, _, _, _, _, _]) rfl rfl rfl rfl ?_
  exact k0
set_option maxHeartbeats 4000000 in
set_option maxRecDepth 10000 in
theorem n22_k {t : sT} {Q : sRs → sT → Prop} {M : sM} {n : Nat} {T : Nat} {L0 : List Nat} {A : Nat} {B : Nat} {m : Nat} {c : Nat} {x : Nat} {a : Int32} {d : Int32} {p : Int32} {y0 : sV}
    (hW : Wc t M n T L0 A B)
    (hm : m < 6)
    (hc3 : c < 3)
    (hx : x < 6)
    (hp : sI t 455 x = p)
    (k0 : ¬ (0 < d) → X 22 20 [.inr (.inr (3, (some 0))), .inr (.inr (7, (some m))), .inr (.inr (2, (some c))), .inl a, .inl d, .inr (.inr (26, (some 0))), .inl 6, .inl (io (x + 1)), .inr (.inr (7, (some x)))] [] t Q)
    (k1 : 0 < d → X 21 0 [.inr (.inr (7, (some m))), .inr (.inr (7, (some x))), .inr (.inr (2, (some c))), sJk, sJk] [] t (sK 21 22 48 [.inr (.inr (3, (some 0))), .inr (.inr (7, (some m))), .inr (.inr (2, (some c))), .inl a, .inl d, .inr (.inr (26, (some 0))), .inl 6, .inl (io x), .inr (.inr (7, (some x)))] [.inl p] Q)) :
    X 22 20 [.inr (.inr (3, (some 0))), .inr (.inr (7, (some m))), .inr (.inr (2, (some c))), .inl a, .inl d, .inr (.inr (26, (some 0))), .inl 6, .inl (io x), y0] [] t Q := by
  obtain ⟨hM, hc, hR, hC, hL, hL9⟩ := hW
  refine x_iload (pc' := 22) rfl rfl rfl ?_
  refine x_iload (pc' := 24) rfl rfl rfl ?_
  refine x_icmp_n (a' := 74) (pc' := 27) (z := decide (x < 6)) rfl rfl rfl (ic_gen (p := x) (q := 6) (gm31 hx) (by decide)) (fun h => absurd hx (of_decide_eq_false h)) (fun _ => ?_)
  refine x_aload (pc' := 29) rfl rfl rfl rfl rfl ?_
  refine x_iload (pc' := 31) rfl rfl rfl ?_
  refine x_aald (pc' := 32) (N := 6) (k' := 7) (r := (some x)) rfl rfl rfl (kN_26_0 hc.1) (io_in (p := x) (N := 6) hx (by decide)) (Eq.trans (congrArg (sE t 26 0) (nn_io (p := x) (Nat.lt_trans hx (by decide)))) (kM hc.1 hx)) ?_
  refine x_astore (pc' := 34) (ls' := [_, _, _, _, _, _, _, _, _]) rfl rfl rfl rfl rfl ?_
  refine x_iload (pc' := 36) rfl rfl rfl ?_
  refine x_if_n (a' := 68) (pc' := 39) (z := decide (0 < d)) rfl rfl rfl (ik_le _ _) (fun q2 => ?_) (fun q2 => ?_)
  · refine x_iinc (pc' := 71) (y := (io (x + 1))) (ls' := [_, _, _, _, _, _, _, _, _]) rfl rfl rfl (io_add x 1) rfl ?_
    refine x_goto (pc' := 20) rfl rfl ?_
    exact k0 (of_decide_eq_false q2)
  · refine x_aload (pc' := 41) rfl rfl rfl rfl rfl ?_
    refine x_gI (pc' := 44) (x := p) rfl rfl rfl hp ?_
    refine x_aload_n (pc' := 45) rfl rfl rfl rfl rfl ?_
    refine x_aload (pc' := 47) rfl rfl rfl rfl rfl ?_
    refine x_aload_n (pc' := 48) rfl rfl rfl rfl rfl ?_
    refine x_cs (ls0 := [_, _, _, sJk, sJk]) (rest := [_]) rfl rfl rfl rfl ?_
    exact k1 (of_decide_eq_true q2)
set_option maxHeartbeats 4000000 in
set_option maxRecDepth 10000 in
theorem n22_k2 {t : sT} {Q : sRs → sT → Prop} {M : sM} {n : Nat} {T : Nat} {L0 : List Nat} {A : Nat} {B : Nat} {m : Nat} {c : Nat} {x : Nat} {a : Int32} {d : Int32} {p : Int32} {h : Int32}
    (hW : Wc t M n T L0 A B)
    (hm : m < 6)
    (hc3 : c < 3)
    (hx : x < 6)
    (hp : sI t 455 x = p)
    (k0 : ¬ (p < h) → X 22 20 [.inr (.inr (3, (some 0))), .inr (.inr (7, (some m))), .inr (.inr (2, (some c))), .inl a, .inl d, .inr (.inr (26, (some 0))), .inl 6, .inl (io (x + 1)), .inr (.inr (7, (some x)))] [] t Q)
    (k1 : p < h → X 22 20 [.inr (.inr (3, (some 0))), .inr (.inr (7, (some m))), .inr (.inr (2, (some c))), .inl a, .inl (d + (-1)), .inr (.inr (26, (some 0))), .inl 6, .inl (io (x + 1)), .inr (.inr (7, (some x)))] [] (sIw t 455 x (p + 1)) Q) :
    X 22 51 [.inr (.inr (3, (some 0))), .inr (.inr (7, (some m))), .inr (.inr (2, (some c))), .inl a, .inl d, .inr (.inr (26, (some 0))), .inl 6, .inl (io x), .inr (.inr (7, (some x)))] [.inl h, .inl p] t Q := by
  obtain ⟨hM, hc, hR, hC, hL, hL9⟩ := hW
  refine x_icmp_n (a' := 68) (pc' := 54) (z := decide (p < h)) rfl rfl rfl (ik_ge _ _) (fun q1 => ?_) (fun q1 => ?_)
  · refine x_iinc (pc' := 71) (y := (io (x + 1))) (ls' := [_, _, _, _, _, _, _, _, _]) rfl rfl rfl (io_add x 1) rfl ?_
    refine x_goto (pc' := 20) rfl rfl ?_
    exact k0 (of_decide_eq_false q1)
  · refine x_aload (pc' := 56) rfl rfl rfl rfl rfl ?_
    refine x_dup (pc' := 57) rfl rfl rfl ?_
    refine x_gI (pc' := 60) (x := p) rfl rfl rfl hp ?_
    refine x_iconst (pc' := 61) rfl rfl ?_
    refine x_iadd (pc' := 62) (z := (p + 1)) rfl rfl rfl ?_
    refine x_pI (pc' := 65) rfl rfl rfl ?_
    refine x_iinc (pc' := 68) (y := (d + (-1))) (ls' := [_, _, _, _, _, _, _, _, _]) rfl rfl rfl rfl rfl ?_
    refine x_iinc (pc' := 71) (y := (io (x + 1))) (ls' := [_, _, _, _, _, _, _, _, _]) rfl rfl rfl (io_add x 1) rfl ?_
    refine x_goto (pc' := 20) rfl rfl ?_
    exact k1 (of_decide_eq_true q1)
set_option maxHeartbeats 4000000 in
set_option maxRecDepth 10000 in
theorem n22_e {t : sT} {Q : sRs → sT → Prop} {M : sM} {n : Nat} {T : Nat} {L0 : List Nat} {A : Nat} {B : Nat} {m : Nat} {c : Nat} {a : Int32} {d : Int32} {y0 : sV}
    (hW : Wc t M n T L0 A B)
    (hm : m < 6)
    (hc3 : c < 3)
    (k0 : Q (.inl none) t) :
    X 22 20 [.inr (.inr (3, (some 0))), .inr (.inr (7, (some m))), .inr (.inr (2, (some c))), .inl a, .inl d, .inr (.inr (26, (some 0))), .inl 6, .inl 6, y0] [] t Q := by
  obtain ⟨hM, hc, hR, hC, hL, hL9⟩ := hW
  refine x_iload (pc' := 22) rfl rfl rfl ?_
  refine x_iload (pc' := 24) rfl rfl rfl ?_
  refine x_icmp (a' := 74) (pc' := 27) (z := true) rfl rfl rfl (by decide) (fun _ => ?_) (fun h => by cases h)
  refine x_ret rfl ?_
  exact k0
set_option maxHeartbeats 4000000 in
set_option maxRecDepth 10000 in
theorem n23b {t : sT} {Q : sRs → sT → Prop} {M : sM} {n : Nat} {T : Nat} {L0 : List Nat} {A : Nat} {B : Nat} {m : Nat} {a : Int32} {d : Int32} {h : Int32} {p : Int32}
    (hW : Wc t M n T L0 A B)
    (hm : m < 6)
    (k0 : Q (.inl none) (sIw t 325 0 (p + h))) :
    X 23 85 [.inr (.inr (3, (some 0))), .inr (.inr (7, (some m))), .inl a, .inl d] [.inl h, .inl p, .inr (.inr (5, (some 0)))] t Q := by
  obtain ⟨hM, hc, hR, hC, hL, hL9⟩ := hW
  refine x_iadd (pc' := 86) (z := (p + h)) rfl rfl rfl ?_
  refine x_pI (pc' := 89) rfl rfl rfl ?_
  refine x_ret rfl ?_
  exact k0
set_option maxHeartbeats 4000000 in
set_option maxRecDepth 10000 in
theorem n24_0 {t : sT} {Q : sRs → sT → Prop} {M : sM} {n : Nat} {T : Nat} {L0 : List Nat} {A : Nat} {B : Nat} {m : Nat} {a : Int32}
    (hW : Wc t M n T L0 A B)
    (hm : m < 6)
    (k0 : X 24 19 [.inr (.inr (3, (some 0))), .inl a, .inr (.inl (0 : Int64)), sJk, .inr (.inr (26, (some 0))), .inl 6, .inl 0, sJk, sJk, sJk, sJk, sJk, sJk, sJk] [] t Q) :
    X 24 0 [.inr (.inr (3, (some 0))), .inl a, sJk, sJk, sJk, sJk, sJk, sJk, sJk, sJk, sJk, sJk, sJk, sJk] [] t Q := by
  obtain ⟨hM, hc, hR, hC, hL, hL9⟩ := hW
  refine x_lconst (pc' := 1) rfl rfl rfl ?_
  refine x_lstore_n (pc' := 2) (ls' := [_, _, _, _, _, _, _, _, _, _, _, _, _, _]) rfl rfl rfl rfl ?_
  refine x_aload_n (pc' := 3) rfl rfl rfl rfl rfl ?_
  refine x_gR (pc' := 6) (r := (some 0)) rfl rfl rfl (kR_192_0 hc.1) ?_
  refine x_gR (pc' := 9) (r := (some 0)) rfl rfl rfl (kR_321_0 hc.1) ?_
  refine x_astore (pc' := 11) (ls' := [_, _, _, _, _, _, _, _, _, _, _, _, _, _]) rfl rfl rfl rfl rfl ?_
  refine x_aload (pc' := 13) rfl rfl rfl rfl rfl ?_
  refine x_alen (pc' := 14) (N := 6) rfl rfl rfl (kN_26_0 hc.1) (?_ : X _ _ _ (.inl 6 :: _) _ _)
  refine x_istore (pc' := 16) (ls' := [_, _, _, _, _, _, _, _, _, _, _, _, _, _]) rfl rfl rfl rfl ?_
  refine x_iconst (pc' := 17) rfl rfl ?_
  refine x_istore (pc' := 19) (ls' := [_, _, _, _, _, _, _, _, _, _, _, _, _, _]) rfl rfl rfl rfl ?_
  exact k0
set_option maxHeartbeats 4000000 in
set_option maxRecDepth 10000 in
theorem n24_k {t : sT} {Q : sRs → sT → Prop} {M : sM} {n : Nat} {T : Nat} {L0 : List Nat} {A : Nat} {B : Nat} {x : Nat} {a : Int32} {u : Int64} {y0 : sV} {y1 : sV} {y2 : sV} {y3 : sV} {y4 : sV} {y5 : sV} {y6 : sV}
    (hW : Wc t M n T L0 A B)
    (hx : x < 6)
    (k0 : (mB M 2 x) = false → X 24 19 [.inr (.inr (3, (some 0))), .inl a, .inr (.inl (u + (mA M 7 x).toInt64)), sJk, .inr (.inr (26, (some 0))), .inl 6, .inl (io (x + 1)), .inr (.inr (7, (some x))), y1, y2, y3, y4, y5, y6] [] t Q)
    (k1 : (mB M 2 x) = true → X 24 19 [.inr (.inr (3, (some 0))), .inl a, .inr (.inl (u + (0 : Int64))), sJk, .inr (.inr (26, (some 0))), .inl 6, .inl (io (x + 1)), .inr (.inr (7, (some x))), y1, y2, y3, y4, y5, y6] [] t Q) :
    X 24 19 [.inr (.inr (3, (some 0))), .inl a, .inr (.inl u), sJk, .inr (.inr (26, (some 0))), .inl 6, .inl (io x), y0, y1, y2, y3, y4, y5, y6] [] t Q := by
  obtain ⟨hM, hc, hR, hC, hL, hL9⟩ := hW
  refine x_iload (pc' := 21) rfl rfl rfl ?_
  refine x_iload (pc' := 23) rfl rfl rfl ?_
  refine x_icmp_n (a' := 60) (pc' := 26) (z := decide (x < 6)) rfl rfl rfl (ic_gen (p := x) (q := 6) (gm31 hx) (by decide)) (fun h => absurd hx (of_decide_eq_false h)) (fun _ => ?_)
  refine x_aload (pc' := 28) rfl rfl rfl rfl rfl ?_
  refine x_iload (pc' := 30) rfl rfl rfl ?_
  refine x_aald (pc' := 31) (N := 6) (k' := 7) (r := (some x)) rfl rfl rfl (kN_26_0 hc.1) (io_in (p := x) (N := 6) hx (by decide)) (Eq.trans (congrArg (sE t 26 0) (nn_io (p := x) (Nat.lt_trans hx (by decide)))) (kM hc.1 hx)) ?_
  refine x_astore (pc' := 33) (ls' := [_, _, _, _, _, _, _, _, _, _, _, _, _, _]) rfl rfl rfl rfl rfl ?_
  refine x_lload_n (pc' := 34) rfl rfl rfl ?_
  refine x_aload (pc' := 36) rfl rfl rfl rfl rfl ?_
  refine x_gZ (pc' := 39) (z := (mB M 2 x)) rfl rfl rfl (kZ hM rfl hx) ?_
  refine x_ifeq_z (a' := 46) (pc' := 42) (z := (mB M 2 x)) rfl rfl rfl (fun q2 => ?_) (fun q2 => ?_)
  · refine x_aload (pc' := 48) rfl rfl rfl rfl rfl ?_
    refine x_gI (pc' := 51) (x := (mA M 7 x)) rfl rfl rfl (kA hM rfl hx) ?_
    refine x_i2l (pc' := 52) rfl rfl rfl ?_
    refine x_ladd (pc' := 53) rfl rfl rfl ?_
    refine x_lstore_n (pc' := 54) (ls' := [_, _, _, _, _, _, _, _, _, _, _, _, _, _]) rfl rfl rfl rfl ?_
    refine x_iinc (pc' := 57) (y := (io (x + 1))) (ls' := [_, _, _, _, _, _, _, _, _, _, _, _, _, _]) rfl rfl rfl (io_add x 1) rfl ?_
    refine x_goto (pc' := 19) rfl rfl ?_
    exact k0 q2
  · refine x_lconst (pc' := 43) rfl rfl rfl ?_
    refine x_goto (pc' := 52) rfl rfl ?_
    refine x_ladd (pc' := 53) rfl rfl rfl ?_
    refine x_lstore_n (pc' := 54) (ls' := [_, _, _, _, _, _, _, _, _, _, _, _, _, _]) rfl rfl rfl rfl ?_
    refine x_iinc (pc' := 57) (y := (io (x + 1))) (ls' := [_, _, _, _, _, _, _, _, _, _, _, _, _, _]) rfl rfl rfl (io_add x 1) rfl ?_
    refine x_goto (pc' := 19) rfl rfl ?_
    exact k1 q2
set_option maxHeartbeats 4000000 in
set_option maxRecDepth 10000 in
theorem n24_e {t : sT} {Q : sRs → sT → Prop} {M : sM} {n : Nat} {T : Nat} {L0 : List Nat} {A : Nat} {B : Nat} {a : Int32} {u : Int64} {y0 : sV} {y1 : sV} {y2 : sV} {y3 : sV} {y4 : sV} {y5 : sV} {y6 : sV}
    (hW : Wc t M n T L0 A B)
    (k0 : 0 < (sLcmp u (0 : Int64)) → X 24 97 [.inr (.inr (3, (some 0))), .inl a, .inr (.inl u), sJk, .inr (.inl (if u < a.toInt64 then u else a.toInt64)), sJk, .inr (.inl (if u < a.toInt64 then u else a.toInt64)), sJk, .inr (.inr (26, (some 0))), .inl 6, .inl 0, y4, y5, y6] [] t Q)
    (k1 : ¬ (0 < (sLcmp u (0 : Int64))) → Q (.inl (some (.inl a))) t) :
    X 24 19 [.inr (.inr (3, (some 0))), .inl a, .inr (.inl u), sJk, .inr (.inr (26, (some 0))), .inl 6, .inl 6, y0, y1, y2, y3, y4, y5, y6] [] t Q := by
  obtain ⟨hM, hc, hR, hC, hL, hL9⟩ := hW
  refine x_iload (pc' := 21) rfl rfl rfl ?_
  refine x_iload (pc' := 23) rfl rfl rfl ?_
  refine x_icmp (a' := 60) (pc' := 26) (z := true) rfl rfl rfl (by decide) (fun _ => ?_) (fun h => by cases h)
  refine x_lload_n (pc' := 61) rfl rfl rfl ?_
  refine x_lconst (pc' := 62) rfl rfl rfl ?_
  refine x_lcmp (pc' := 63) rfl rfl rfl ?_
  refine x_if (a' := 68) (pc' := 66) (z := decide (0 < (sLcmp u (0 : Int64)))) rfl rfl rfl rfl (fun q2 => ?_) (fun q2 => ?_)
  · refine x_iload_n (pc' := 69) rfl rfl rfl ?_
    refine x_i2l (pc' := 70) rfl rfl rfl ?_
    refine x_lload_n (pc' := 71) rfl rfl rfl ?_
    refine x_lmin (pc' := 74) rfl rfl rfl rfl ?_
    refine x_lstore (pc' := 76) (ls' := [_, _, _, _, _, _, _, _, _, _, _, _, _, _]) rfl rfl rfl rfl ?_
    refine x_lload (pc' := 78) rfl rfl rfl ?_
    refine x_lstore (pc' := 80) (ls' := [_, _, _, _, _, _, _, _, _, _, _, _, _, _]) rfl rfl rfl rfl ?_
    refine x_aload_n (pc' := 81) rfl rfl rfl rfl rfl ?_
    refine x_gR (pc' := 84) (r := (some 0)) rfl rfl rfl (kR_192_0 hc.1) ?_
    refine x_gR (pc' := 87) (r := (some 0)) rfl rfl rfl (kR_321_0 hc.1) ?_
    refine x_astore (pc' := 89) (ls' := [_, _, _, _, _, _, _, _, _, _, _, _, _, _]) rfl rfl rfl rfl rfl ?_
    refine x_aload (pc' := 91) rfl rfl rfl rfl rfl ?_
    refine x_alen (pc' := 92) (N := 6) rfl rfl rfl (kN_26_0 hc.1) (?_ : X _ _ _ (.inl 6 :: _) _ _)
    refine x_istore (pc' := 94) (ls' := [_, _, _, _, _, _, _, _, _, _, _, _, _, _]) rfl rfl rfl rfl ?_
    refine x_iconst (pc' := 95) rfl rfl ?_
    refine x_istore (pc' := 97) (ls' := [_, _, _, _, _, _, _, _, _, _, _, _, _, _]) rfl rfl rfl rfl ?_
    exact k0 (of_decide_eq_true q2)
  · refine x_iload_n (pc' := 67) rfl rfl rfl ?_
    refine x_reti rfl rfl ?_
    exact k1 (of_decide_eq_false q2)
set_option maxHeartbeats 4000000 in
set_option maxRecDepth 10000 in
theorem n24_s {t : sT} {Q : sRs → sT → Prop} {M : sM} {n : Nat} {T : Nat} {L0 : List Nat} {A : Nat} {B : Nat} {x : Nat} {a : Int32} {u : Int64} {h : Int64} {g : Int64} {y0 : sV} {y1 : sV} {y2 : sV}
    (hW : Wc t M n T L0 A B)
    (hx : x < 6)
    (hd0 : ¬ u = 0)
    (k0 : (mB M 2 x) = false → X 24 97 [.inr (.inr (3, (some 0))), .inl a, .inr (.inl u), sJk, .inr (.inl h), sJk, .inr (.inl (g - ((h * (mA M 7 x).toInt64) / u))), sJk, .inr (.inr (26, (some 0))), .inl 6, .inl (io (x + 1)), .inr (.inr (7, (some x))), .inr (.inl ((h * (mA M 7 x).toInt64) / u)), sJk] [] (sIw t 452 x ((mA M 7 x) - (((h * (mA M 7 x).toInt64) / u).toInt32))) Q)
    (k1 : (mB M 2 x) = true → X 24 97 [.inr (.inr (3, (some 0))), .inl a, .inr (.inl u), sJk, .inr (.inl h), sJk, .inr (.inl (g - (0 : Int64))), sJk, .inr (.inr (26, (some 0))), .inl 6, .inl (io (x + 1)), .inr (.inr (7, (some x))), .inr (.inl (0 : Int64)), sJk] [] (sIw t 452 x ((mA M 7 x) - ((0 : Int64).toInt32))) Q) :
    X 24 97 [.inr (.inr (3, (some 0))), .inl a, .inr (.inl u), sJk, .inr (.inl h), sJk, .inr (.inl g), sJk, .inr (.inr (26, (some 0))), .inl 6, .inl (io x), y0, y1, y2] [] t Q := by
  obtain ⟨hM, hc, hR, hC, hL, hL9⟩ := hW
  refine x_iload (pc' := 99) rfl rfl rfl ?_
  refine x_iload (pc' := 101) rfl rfl rfl ?_
  refine x_icmp_n (a' := 162) (pc' := 104) (z := decide (x < 6)) rfl rfl rfl (ic_gen (p := x) (q := 6) (gm31 hx) (by decide)) (fun h => absurd hx (of_decide_eq_false h)) (fun _ => ?_)
  refine x_aload (pc' := 106) rfl rfl rfl rfl rfl ?_
  refine x_iload (pc' := 108) rfl rfl rfl ?_
  refine x_aald (pc' := 109) (N := 6) (k' := 7) (r := (some x)) rfl rfl rfl (kN_26_0 hc.1) (io_in (p := x) (N := 6) hx (by decide)) (Eq.trans (congrArg (sE t 26 0) (nn_io (p := x) (Nat.lt_trans hx (by decide)))) (kM hc.1 hx)) ?_
  refine x_astore (pc' := 111) (ls' := [_, _, _, _, _, _, _, _, _, _, _, _, _, _]) rfl rfl rfl rfl rfl ?_
  refine x_aload (pc' := 113) rfl rfl rfl rfl rfl ?_
  refine x_gZ (pc' := 116) (z := (mB M 2 x)) rfl rfl rfl (kZ hM rfl hx) ?_
  refine x_ifeq_z (a' := 123) (pc' := 119) (z := (mB M 2 x)) rfl rfl rfl (fun q2 => ?_) (fun q2 => ?_)
  · refine x_lload (pc' := 125) rfl rfl rfl ?_
    refine x_aload (pc' := 127) rfl rfl rfl rfl rfl ?_
    refine x_gI (pc' := 130) (x := (mA M 7 x)) rfl rfl rfl (kA hM rfl hx) ?_
    refine x_i2l (pc' := 131) rfl rfl rfl ?_
    refine x_lmul (pc' := 132) rfl rfl rfl ?_
    refine x_lload_n (pc' := 133) rfl rfl rfl ?_
    refine x_ldiv (pc' := 134) rfl rfl hd0 rfl ?_
    refine x_lstore (pc' := 136) (ls' := [_, _, _, _, _, _, _, _, _, _, _, _, _, _]) rfl rfl rfl rfl ?_
    refine x_aload (pc' := 138) rfl rfl rfl rfl rfl ?_
    refine x_dup (pc' := 139) rfl rfl rfl ?_
    refine x_gI (pc' := 142) (x := (mA M 7 x)) rfl rfl rfl (kA hM rfl hx) ?_
    refine x_lload (pc' := 144) rfl rfl rfl ?_
    refine x_l2i (pc' := 145) rfl rfl rfl ?_
    refine x_isub (pc' := 146) (z := ((mA M 7 x) - (((h * (mA M 7 x).toInt64) / u).toInt32))) rfl rfl rfl ?_
    refine x_pI (pc' := 149) rfl rfl rfl ?_
    refine x_lload (pc' := 151) rfl rfl rfl ?_
    refine x_lload (pc' := 153) rfl rfl rfl ?_
    refine x_lsub (pc' := 154) rfl rfl rfl ?_
    refine x_lstore (pc' := 156) (ls' := [_, _, _, _, _, _, _, _, _, _, _, _, _, _]) rfl rfl rfl rfl ?_
    refine x_iinc (pc' := 159) (y := (io (x + 1))) (ls' := [_, _, _, _, _, _, _, _, _, _, _, _, _, _]) rfl rfl rfl (io_add x 1) rfl ?_
    refine x_goto (pc' := 97) rfl rfl ?_
    exact k0 q2
  · refine x_lconst (pc' := 120) rfl rfl rfl ?_
    refine x_goto (pc' := 134) rfl rfl ?_
    refine x_lstore (pc' := 136) (ls' := [_, _, _, _, _, _, _, _, _, _, _, _, _, _]) rfl rfl rfl rfl ?_
    refine x_aload (pc' := 138) rfl rfl rfl rfl rfl ?_
    refine x_dup (pc' := 139) rfl rfl rfl ?_
    refine x_gI (pc' := 142) (x := (mA M 7 x)) rfl rfl rfl (kA hM rfl hx) ?_
    refine x_lload (pc' := 144) rfl rfl rfl ?_
    refine x_l2i (pc' := 145) rfl rfl rfl ?_
    refine x_isub (pc' := 146) (z := ((mA M 7 x) - ((0 : Int64).toInt32))) rfl rfl rfl ?_
    refine x_pI (pc' := 149) rfl rfl rfl ?_
    refine x_lload (pc' := 151) rfl rfl rfl ?_
    refine x_lload (pc' := 153) rfl rfl rfl ?_
    refine x_lsub (pc' := 154) rfl rfl rfl ?_
    refine x_lstore (pc' := 156) (ls' := [_, _, _, _, _, _, _, _, _, _, _, _, _, _]) rfl rfl rfl rfl ?_
    refine x_iinc (pc' := 159) (y := (io (x + 1))) (ls' := [_, _, _, _, _, _, _, _, _, _, _, _, _, _]) rfl rfl rfl (io_add x 1) rfl ?_
    refine x_goto (pc' := 97) rfl rfl ?_
    exact k1 q2
set_option maxHeartbeats 4000000 in
set_option maxRecDepth 10000 in
theorem n24_t {t : sT} {Q : sRs → sT → Prop} {M : sM} {n : Nat} {T : Nat} {L0 : List Nat} {A : Nat} {B : Nat} {a : Int32} {u : Int64} {h : Int64} {g : Int64} {y0 : sV} {y1 : sV} {y2 : sV}
    (hW : Wc t M n T L0 A B)
    (k0 : X 25 0 [.inr (.inr (3, (some 0))), .inr (.inl g), sJk, sJk, sJk, sJk, sJk, sJk, sJk] [] t (sK 25 24 165 [.inr (.inr (3, (some 0))), .inl a, .inr (.inl u), sJk, .inr (.inl h), sJk, .inr (.inl g), sJk, .inr (.inr (26, (some 0))), .inl 6, .inl 6, y0, y1, y2] [] Q)) :
    X 24 97 [.inr (.inr (3, (some 0))), .inl a, .inr (.inl u), sJk, .inr (.inl h), sJk, .inr (.inl g), sJk, .inr (.inr (26, (some 0))), .inl 6, .inl 6, y0, y1, y2] [] t Q := by
  obtain ⟨hM, hc, hR, hC, hL, hL9⟩ := hW
  refine x_iload (pc' := 99) rfl rfl rfl ?_
  refine x_iload (pc' := 101) rfl rfl rfl ?_
  refine x_icmp (a' := 162) (pc' := 104) (z := true) rfl rfl rfl (by decide) (fun _ => ?_) (fun h => by cases h)
  refine x_aload_n (pc' := 163) rfl rfl rfl rfl rfl ?_
  refine x_lload (pc' := 165) rfl rfl rfl ?_
  refine x_cv (ls0 := [_, _, sJk, sJk, sJk, sJk, sJk, sJk, sJk]) (rest := []) rfl rfl rfl rfl rfl ?_
  exact k0
set_option maxHeartbeats 4000000 in
set_option maxRecDepth 10000 in
theorem n24_t2 {t : sT} {Q : sRs → sT → Prop} {M : sM} {n : Nat} {T : Nat} {L0 : List Nat} {A : Nat} {B : Nat} {a : Int32} {u : Int64} {h : Int64} {g : Int64} {y0 : sV} {y1 : sV} {y2 : sV} {y3 : sV}
    (hW : Wc t M n T L0 A B)
    (k0 : Q (.inl (some (.inl ((a.toInt64 - h).toInt32)))) t) :
    X 24 168 [.inr (.inr (3, (some 0))), .inl a, .inr (.inl u), sJk, .inr (.inl h), sJk, .inr (.inl g), sJk, .inr (.inr (26, (some 0))), .inl 6, y0, y1, y2, y3] [] t Q := by
  obtain ⟨hM, hc, hR, hC, hL, hL9⟩ := hW
  refine x_iload_n (pc' := 169) rfl rfl rfl ?_
  refine x_i2l (pc' := 170) rfl rfl rfl ?_
  refine x_lload (pc' := 172) rfl rfl rfl ?_
  refine x_lsub (pc' := 173) rfl rfl rfl ?_
  refine x_l2i (pc' := 174) rfl rfl rfl ?_
  refine x_reti rfl rfl ?_
  exact k0
set_option maxHeartbeats 4000000 in
set_option maxRecDepth 10000 in
theorem n25_0 {t : sT} {Q : sRs → sT → Prop} {M : sM} {n : Nat} {T : Nat} {L0 : List Nat} {A : Nat} {B : Nat} {u : Int64}
    (hW : Wc t M n T L0 A B)
    (k0 : X 25 19 [.inr (.inr (3, (some 0))), .inr (.inl u), sJk, .inr (.inl u), sJk, .inr (.inr (26, (some 0))), .inl 6, .inl 0, sJk] [] t Q) :
    X 25 0 [.inr (.inr (3, (some 0))), .inr (.inl u), sJk, sJk, sJk, sJk, sJk, sJk, sJk] [] t Q := by
  obtain ⟨hM, hc, hR, hC, hL, hL9⟩ := hW
  refine x_lload_n (pc' := 1) rfl rfl rfl ?_
  refine x_lstore_n (pc' := 2) (ls' := [_, _, _, _, _, _, _, _, _]) rfl rfl rfl rfl ?_
  refine x_aload_n (pc' := 3) rfl rfl rfl rfl rfl ?_
  refine x_gR (pc' := 6) (r := (some 0)) rfl rfl rfl (kR_192_0 hc.1) ?_
  refine x_gR (pc' := 9) (r := (some 0)) rfl rfl rfl (kR_321_0 hc.1) ?_
  refine x_astore (pc' := 11) (ls' := [_, _, _, _, _, _, _, _, _]) rfl rfl rfl rfl rfl ?_
  refine x_aload (pc' := 13) rfl rfl rfl rfl rfl ?_
  refine x_alen (pc' := 14) (N := 6) rfl rfl rfl (kN_26_0 hc.1) (?_ : X _ _ _ (.inl 6 :: _) _ _)
  refine x_istore (pc' := 16) (ls' := [_, _, _, _, _, _, _, _, _]) rfl rfl rfl rfl ?_
  refine x_iconst (pc' := 17) rfl rfl ?_
  refine x_istore (pc' := 19) (ls' := [_, _, _, _, _, _, _, _, _]) rfl rfl rfl rfl ?_
  exact k0
set_option maxHeartbeats 4000000 in
set_option maxRecDepth 10000 in
theorem n25_k {t : sT} {Q : sRs → sT → Prop} {M : sM} {n : Nat} {T : Nat} {L0 : List Nat} {A : Nat} {B : Nat} {x : Nat} {u : Int64} {g : Int64} {y0 : sV}
    (hW : Wc t M n T L0 A B)
    (hx : x < 6)
    (k0 : ¬ (0 < (sLcmp g (0 : Int64))) → X 25 19 [.inr (.inr (3, (some 0))), .inr (.inl u), sJk, .inr (.inl g), sJk, .inr (.inr (26, (some 0))), .inl 6, .inl (io (x + 1)), .inr (.inr (7, (some x)))] [] t Q)
    (k1 : 0 < (sLcmp g (0 : Int64)) → (mB M 2 x) = true → X 25 19 [.inr (.inr (3, (some 0))), .inr (.inl u), sJk, .inr (.inl g), sJk, .inr (.inr (26, (some 0))), .inl 6, .inl (io (x + 1)), .inr (.inr (7, (some x)))] [] t Q)
    (k2 : 0 < (sLcmp g (0 : Int64)) → (mB M 2 x) = false → ¬ (0 < (mA M 7 x)) → X 25 19 [.inr (.inr (3, (some 0))), .inr (.inl u), sJk, .inr (.inl g), sJk, .inr (.inr (26, (some 0))), .inl 6, .inl (io (x + 1)), .inr (.inr (7, (some x)))] [] t Q)
    (k3 : 0 < (sLcmp g (0 : Int64)) → (mB M 2 x) = false → 0 < (mA M 7 x) → X 25 19 [.inr (.inr (3, (some 0))), .inr (.inl u), sJk, .inr (.inl (g - (1 : Int64))), sJk, .inr (.inr (26, (some 0))), .inl 6, .inl (io (x + 1)), .inr (.inr (7, (some x)))] [] (sIw t 452 x ((mA M 7 x) - 1)) Q) :
    X 25 19 [.inr (.inr (3, (some 0))), .inr (.inl u), sJk, .inr (.inl g), sJk, .inr (.inr (26, (some 0))), .inl 6, .inl (io x), y0] [] t Q := by
  obtain ⟨hM, hc, hR, hC, hL, hL9⟩ := hW
  refine x_iload (pc' := 21) rfl rfl rfl ?_
  refine x_iload (pc' := 23) rfl rfl rfl ?_
  refine x_icmp_n (a' := 76) (pc' := 26) (z := decide (x < 6)) rfl rfl rfl (ic_gen (p := x) (q := 6) (gm31 hx) (by decide)) (fun h => absurd hx (of_decide_eq_false h)) (fun _ => ?_)
  refine x_aload (pc' := 28) rfl rfl rfl rfl rfl ?_
  refine x_iload (pc' := 30) rfl rfl rfl ?_
  refine x_aald (pc' := 31) (N := 6) (k' := 7) (r := (some x)) rfl rfl rfl (kN_26_0 hc.1) (io_in (p := x) (N := 6) hx (by decide)) (Eq.trans (congrArg (sE t 26 0) (nn_io (p := x) (Nat.lt_trans hx (by decide)))) (kM hc.1 hx)) ?_
  refine x_astore (pc' := 33) (ls' := [_, _, _, _, _, _, _, _, _]) rfl rfl rfl rfl rfl ?_
  refine x_lload_n (pc' := 34) rfl rfl rfl ?_
  refine x_lconst (pc' := 35) rfl rfl rfl ?_
  refine x_lcmp (pc' := 36) rfl rfl rfl ?_
  refine x_if_n (a' := 70) (pc' := 39) (z := decide (0 < (sLcmp g (0 : Int64)))) rfl rfl rfl (ik_le _ _) (fun q2 => ?_) (fun q2 => ?_)
  · refine x_iinc (pc' := 73) (y := (io (x + 1))) (ls' := [_, _, _, _, _, _, _, _, _]) rfl rfl rfl (io_add x 1) rfl ?_
    refine x_goto (pc' := 19) rfl rfl ?_
    exact k0 (of_decide_eq_false q2)
  · refine x_aload (pc' := 41) rfl rfl rfl rfl rfl ?_
    refine x_gZ (pc' := 44) (z := (mB M 2 x)) rfl rfl rfl (kZ hM rfl hx) ?_
    refine x_ifne_z (a' := 70) (pc' := 47) (z := (mB M 2 x)) rfl rfl rfl (fun q3 => ?_) (fun q3 => ?_)
    · refine x_iinc (pc' := 73) (y := (io (x + 1))) (ls' := [_, _, _, _, _, _, _, _, _]) rfl rfl rfl (io_add x 1) rfl ?_
      refine x_goto (pc' := 19) rfl rfl ?_
      exact k1 (of_decide_eq_true q2) q3
    · refine x_aload (pc' := 49) rfl rfl rfl rfl rfl ?_
      refine x_gI (pc' := 52) (x := (mA M 7 x)) rfl rfl rfl (kA hM rfl hx) ?_
      refine x_if_n (a' := 70) (pc' := 55) (z := decide (0 < (mA M 7 x))) rfl rfl rfl (ik_le _ _) (fun q4 => ?_) (fun q4 => ?_)
      · refine x_iinc (pc' := 73) (y := (io (x + 1))) (ls' := [_, _, _, _, _, _, _, _, _]) rfl rfl rfl (io_add x 1) rfl ?_
        refine x_goto (pc' := 19) rfl rfl ?_
        exact k2 (of_decide_eq_true q2) q3 (of_decide_eq_false q4)
      · refine x_aload (pc' := 57) rfl rfl rfl rfl rfl ?_
        refine x_dup (pc' := 58) rfl rfl rfl ?_
        refine x_gI (pc' := 61) (x := (mA M 7 x)) rfl rfl rfl (kA hM rfl hx) ?_
        refine x_iconst (pc' := 62) rfl rfl ?_
        refine x_isub (pc' := 63) (z := ((mA M 7 x) - 1)) rfl rfl rfl ?_
        refine x_pI (pc' := 66) rfl rfl rfl ?_
        refine x_lload_n (pc' := 67) rfl rfl rfl ?_
        refine x_lconst (pc' := 68) rfl rfl rfl ?_
        refine x_lsub (pc' := 69) rfl rfl rfl ?_
        refine x_lstore_n (pc' := 70) (ls' := [_, _, _, _, _, _, _, _, _]) rfl rfl rfl rfl ?_
        refine x_iinc (pc' := 73) (y := (io (x + 1))) (ls' := [_, _, _, _, _, _, _, _, _]) rfl rfl rfl (io_add x 1) rfl ?_
        refine x_goto (pc' := 19) rfl rfl ?_
        exact k3 (of_decide_eq_true q2) q3 (of_decide_eq_true q4)
set_option maxHeartbeats 4000000 in
set_option maxRecDepth 10000 in
theorem n25_e {t : sT} {Q : sRs → sT → Prop} {M : sM} {n : Nat} {T : Nat} {L0 : List Nat} {A : Nat} {B : Nat} {u : Int64} {g : Int64} {y0 : sV}
    (hW : Wc t M n T L0 A B)
    (k0 : Q (.inl none) t) :
    X 25 19 [.inr (.inr (3, (some 0))), .inr (.inl u), sJk, .inr (.inl g), sJk, .inr (.inr (26, (some 0))), .inl 6, .inl 6, y0] [] t Q := by
  obtain ⟨hM, hc, hR, hC, hL, hL9⟩ := hW
  refine x_iload (pc' := 21) rfl rfl rfl ?_
  refine x_iload (pc' := 23) rfl rfl rfl ?_
  refine x_icmp (a' := 76) (pc' := 26) (z := true) rfl rfl rfl (by decide) (fun _ => ?_) (fun h => by cases h)
  refine x_ret rfl ?_
  exact k0
