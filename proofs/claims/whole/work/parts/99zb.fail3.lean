/-! fail, last pieces (printed by ext99zb.py) -/
set_option maxHeartbeats 4000000 in
set_option maxRecDepth 10000 in
theorem n21 {t : sT} {Q : sRs → sT → Prop} {M : sM} {n : Nat} {T : Nat} {L0 : List Nat} {A : Nat} {B : Nat} {m : Nat} {k : Nat} {c : Nat}
    (hW : Wc t M n T L0 A B)
    (hm : m < 6)
    (hk : k < 6)
    (hc3 : c < 3)
    (k0 : ¬ (0 < (mA M 6 ((3 * k) + c))) → ¬ ((mA M 6 ((3 * k) + c)) < 0) → Q (.inl (some (.inl 0))) t)
    (k1 : ¬ (0 < (mA M 6 ((3 * k) + c))) → (mA M 6 ((3 * k) + c)) < 0 → ¬ (0 < (mA M 6 ((3 * m) + c))) → Q (.inl (some (.inl 0))) t)
    (k2 : ¬ (0 < (mA M 6 ((3 * k) + c))) → (mA M 6 ((3 * k) + c)) < 0 → 0 < (mA M 6 ((3 * m) + c)) → Q (.inl (some (.inl (ab (mA M 6 ((3 * k) + c)))))) t)
    (k3 : 0 < (mA M 6 ((3 * k) + c)) → (mA M 6 ((3 * m) + c)) < 0 → Q (.inl (some (.inl (ab (mA M 6 ((3 * k) + c)))))) t)
    (k4 : 0 < (mA M 6 ((3 * k) + c)) → ¬ ((mA M 6 ((3 * m) + c)) < 0) → Q (.inl (some (.inl 0))) t) :
    X 21 0 [.inr (.inr (7, (some m))), .inr (.inr (7, (some k))), .inr (.inr (2, (some c))), sJk, sJk] [] t Q := by
  obtain ⟨hM, hc, hR, hC, hL, hL9⟩ := hW
  refine x_aload_n (pc' := 1) rfl rfl rfl rfl rfl ?_
  refine x_aload_n (pc' := 2) rfl rfl rfl rfl rfl ?_
  refine x_cv (ls0 := [_, _, sJk]) (rest := []) rfl rfl rfl rfl rfl ?_
  refine x_aload_n (pc' := 1) rfl rfl rfl rfl rfl ?_
  refine x_gI (pc' := 4) (x := (io c)) rfl rfl rfl (kKn hc.1 hc3) ?_
  refine x_istore_n (pc' := 5) (ls' := [_, _, _]) rfl rfl rfl rfl ?_
  refine x_iload_n (pc' := 6) rfl rfl rfl ?_
  refine x_if (a' := 27) (pc' := 9) (z := decide (c < 0)) rfl rfl rfl (ic_lt (p := c) (q := 0) (gc31 hc3) (by decide)) (fun h => absurd (of_decide_eq_true h) (by first | decide | omega | simp)) (fun _ => ?_)
  refine x_iload_n (pc' := 10) rfl rfl rfl ?_
  refine x_aload_n (pc' := 11) rfl rfl rfl rfl rfl ?_
  refine x_gR (pc' := 14) (r := (some (k + 1))) rfl rfl rfl (kMp hc.1 hk).1 ?_
  refine x_alen (pc' := 15) (N := 3) rfl rfl rfl (kMp hc.1 hk).2.1 (?_ : X _ _ _ (.inl 3 :: _) _ _)
  refine x_icmp_n (a' := 27) (pc' := 18) (z := decide (c < 3)) rfl rfl rfl (ic_gen (p := c) (q := 3) (gc31 hc3) (by decide)) (fun h => absurd hc3 (of_decide_eq_false h)) (fun _ => ?_)
  refine x_aload_n (pc' := 19) rfl rfl rfl rfl rfl ?_
  refine x_gR (pc' := 22) (r := (some (k + 1))) rfl rfl rfl (kMp hc.1 hk).1 ?_
  refine x_iload_n (pc' := 23) rfl rfl rfl ?_
  refine x_iald (pc' := 24) (N := 3) (x := (mA M 6 ((3 * k) + c))) rfl rfl rfl (kMp hc.1 hk).2.1 (io_in (p := c) (N := 3) hc3 (by decide)) (Eq.trans (congrArg (sA t 20 (k + 1)) (nn_io (p := c) (Nat.lt_trans hc3 (by decide)))) (kP (m := k) (c := c) hM hk hc3)) ?_
  refine x_goto (pc' := 28) rfl rfl ?_
  refine x_reti rfl rfl ?_
  refine sK_i (pc' := 5) rfl ?_
  refine x_istore_n (pc' := 6) (ls' := [_, _, _, _, _]) rfl rfl rfl rfl ?_
  refine x_aload_n (pc' := 7) rfl rfl rfl rfl rfl ?_
  refine x_aload_n (pc' := 8) rfl rfl rfl rfl rfl ?_
  refine x_cv (ls0 := [_, _, sJk]) (rest := []) rfl rfl rfl rfl rfl ?_
  refine x_aload_n (pc' := 1) rfl rfl rfl rfl rfl ?_
  refine x_gI (pc' := 4) (x := (io c)) rfl rfl rfl (kKn hc.1 hc3) ?_
  refine x_istore_n (pc' := 5) (ls' := [_, _, _]) rfl rfl rfl rfl ?_
  refine x_iload_n (pc' := 6) rfl rfl rfl ?_
  refine x_if (a' := 27) (pc' := 9) (z := decide (c < 0)) rfl rfl rfl (ic_lt (p := c) (q := 0) (gc31 hc3) (by decide)) (fun h => absurd (of_decide_eq_true h) (by first | decide | omega | simp)) (fun _ => ?_)
  refine x_iload_n (pc' := 10) rfl rfl rfl ?_
  refine x_aload_n (pc' := 11) rfl rfl rfl rfl rfl ?_
  refine x_gR (pc' := 14) (r := (some (m + 1))) rfl rfl rfl (kMp hc.1 hm).1 ?_
  refine x_alen (pc' := 15) (N := 3) rfl rfl rfl (kMp hc.1 hm).2.1 (?_ : X _ _ _ (.inl 3 :: _) _ _)
  refine x_icmp_n (a' := 27) (pc' := 18) (z := decide (c < 3)) rfl rfl rfl (ic_gen (p := c) (q := 3) (gc31 hc3) (by decide)) (fun h => absurd hc3 (of_decide_eq_false h)) (fun _ => ?_)
  refine x_aload_n (pc' := 19) rfl rfl rfl rfl rfl ?_
  refine x_gR (pc' := 22) (r := (some (m + 1))) rfl rfl rfl (kMp hc.1 hm).1 ?_
  refine x_iload_n (pc' := 23) rfl rfl rfl ?_
  refine x_iald (pc' := 24) (N := 3) (x := (mA M 6 ((3 * m) + c))) rfl rfl rfl (kMp hc.1 hm).2.1 (io_in (p := c) (N := 3) hc3 (by decide)) (Eq.trans (congrArg (sA t 20 (m + 1)) (nn_io (p := c) (Nat.lt_trans hc3 (by decide)))) (kP (m := m) (c := c) hM hm hc3)) ?_
  refine x_goto (pc' := 28) rfl rfl ?_
  refine x_reti rfl rfl ?_
  refine sK_i (pc' := 11) rfl ?_
  refine x_istore (pc' := 13) (ls' := [_, _, _, _, _]) rfl rfl rfl rfl ?_
  refine x_iload_n (pc' := 14) rfl rfl rfl ?_
  refine x_if_n (a' := 22) (pc' := 17) (z := decide (0 < (mA M 6 ((3 * k) + c)))) rfl rfl rfl (ik_le _ _) (fun q5 => ?_) (fun q5 => ?_)
  · refine x_iload_n (pc' := 23) rfl rfl rfl ?_
    refine x_if_n (a' := 38) (pc' := 26) (z := decide ((mA M 6 ((3 * k) + c)) < 0)) rfl rfl rfl (ik_ge _ _) (fun q6 => ?_) (fun q6 => ?_)
    · refine x_iconst (pc' := 39) rfl rfl ?_
      refine x_reti rfl rfl ?_
      exact k0 (of_decide_eq_false q5) (of_decide_eq_false q6)
    · refine x_iload (pc' := 28) rfl rfl rfl ?_
      refine x_if_n (a' := 38) (pc' := 31) (z := decide (0 < (mA M 6 ((3 * m) + c)))) rfl rfl rfl (ik_le _ _) (fun q7 => ?_) (fun q7 => ?_)
      · refine x_iconst (pc' := 39) rfl rfl ?_
        refine x_reti rfl rfl ?_
        exact k1 (of_decide_eq_false q5) (of_decide_eq_true q6) (of_decide_eq_false q7)
      · refine x_iload_n (pc' := 32) rfl rfl rfl ?_
        refine x_abs (pc' := 35) (z := (ab (mA M 6 ((3 * k) + c)))) rfl rfl rfl rfl ?_
        refine x_goto (pc' := 39) rfl rfl ?_
        refine x_reti rfl rfl ?_
        exact k2 (of_decide_eq_false q5) (of_decide_eq_true q6) (of_decide_eq_true q7)
  · refine x_iload (pc' := 19) rfl rfl rfl ?_
    refine x_if (a' := 31) (pc' := 22) (z := decide ((mA M 6 ((3 * m) + c)) < 0)) rfl rfl rfl rfl (fun q8 => ?_) (fun q8 => ?_)
    · refine x_iload_n (pc' := 32) rfl rfl rfl ?_
      refine x_abs (pc' := 35) (z := (ab (mA M 6 ((3 * k) + c)))) rfl rfl rfl rfl ?_
      refine x_goto (pc' := 39) rfl rfl ?_
      refine x_reti rfl rfl ?_
      exact k3 (of_decide_eq_true q5) (of_decide_eq_true q8)
    · refine x_iload_n (pc' := 23) rfl rfl rfl ?_
      refine x_if_n (a' := 38) (pc' := 26) (z := decide ((mA M 6 ((3 * k) + c)) < 0)) rfl rfl rfl (ik_ge _ _) (fun _ => ?_) (fun h => absurd (of_decide_eq_true h) (nlt_of (of_decide_eq_true q5)))
      refine x_iconst (pc' := 39) rfl rfl ?_
      refine x_reti rfl rfl ?_
      exact k4 (of_decide_eq_true q5) (of_decide_eq_false q8)
set_option maxHeartbeats 4000000 in
set_option maxRecDepth 10000 in
theorem n20_0 {t : sT} {Q : sRs → sT → Prop} {M : sM} {n : Nat} {T : Nat} {L0 : List Nat} {A : Nat} {B : Nat} {m : Nat} {c : Nat}
    (hW : Wc t M n T L0 A B)
    (hm : m < 6)
    (hc3 : c < 3)
    (k0 : X 20 29 [.inr (.inr (3, (some 0))), .inr (.inr (7, (some m))), .inr (.inr (2, (some c))), .inl (ab (mA M 6 ((3 * m) + c))), .inr (.inl (0 : Int64)), sJk, .inr (.inr (26, (some 0))), .inl 6, .inl 0, sJk, sJk] [] t Q) :
    X 20 0 [.inr (.inr (3, (some 0))), .inr (.inr (7, (some m))), .inr (.inr (2, (some c))), sJk, sJk, sJk, sJk, sJk, sJk, sJk, sJk] [] t Q := by
  obtain ⟨hM, hc, hR, hC, hL, hL9⟩ := hW
  refine x_aload_n (pc' := 1) rfl rfl rfl rfl rfl ?_
  refine x_aload_n (pc' := 2) rfl rfl rfl rfl rfl ?_
  refine x_cv (ls0 := [_, _, sJk]) (rest := []) rfl rfl rfl rfl rfl ?_
  refine x_aload_n (pc' := 1) rfl rfl rfl rfl rfl ?_
  refine x_gI (pc' := 4) (x := (io c)) rfl rfl rfl (kKn hc.1 hc3) ?_
  refine x_istore_n (pc' := 5) (ls' := [_, _, _]) rfl rfl rfl rfl ?_
  refine x_iload_n (pc' := 6) rfl rfl rfl ?_
  refine x_if (a' := 27) (pc' := 9) (z := decide (c < 0)) rfl rfl rfl (ic_lt (p := c) (q := 0) (gc31 hc3) (by decide)) (fun h => absurd (of_decide_eq_true h) (by first | decide | omega | simp)) (fun _ => ?_)
  refine x_iload_n (pc' := 10) rfl rfl rfl ?_
  refine x_aload_n (pc' := 11) rfl rfl rfl rfl rfl ?_
  refine x_gR (pc' := 14) (r := (some (m + 1))) rfl rfl rfl (kMp hc.1 hm).1 ?_
  refine x_alen (pc' := 15) (N := 3) rfl rfl rfl (kMp hc.1 hm).2.1 (?_ : X _ _ _ (.inl 3 :: _) _ _)
  refine x_icmp_n (a' := 27) (pc' := 18) (z := decide (c < 3)) rfl rfl rfl (ic_gen (p := c) (q := 3) (gc31 hc3) (by decide)) (fun h => absurd hc3 (of_decide_eq_false h)) (fun _ => ?_)
  refine x_aload_n (pc' := 19) rfl rfl rfl rfl rfl ?_
  refine x_gR (pc' := 22) (r := (some (m + 1))) rfl rfl rfl (kMp hc.1 hm).1 ?_
  refine x_iload_n (pc' := 23) rfl rfl rfl ?_
  refine x_iald (pc' := 24) (N := 3) (x := (mA M 6 ((3 * m) + c))) rfl rfl rfl (kMp hc.1 hm).2.1 (io_in (p := c) (N := 3) hc3 (by decide)) (Eq.trans (congrArg (sA t 20 (m + 1)) (nn_io (p := c) (Nat.lt_trans hc3 (by decide)))) (kP (m := m) (c := c) hM hm hc3)) ?_
  refine x_goto (pc' := 28) rfl rfl ?_
  refine x_reti rfl rfl ?_
  refine sK_i (pc' := 5) rfl ?_
  refine x_abs (pc' := 8) (z := (ab (mA M 6 ((3 * m) + c)))) rfl rfl rfl rfl ?_
  refine x_istore_n (pc' := 9) (ls' := [_, _, _, _, _, _, _, _, _, _, _]) rfl rfl rfl rfl ?_
  refine x_lconst (pc' := 10) rfl rfl rfl ?_
  refine x_lstore (pc' := 12) (ls' := [_, _, _, _, _, _, _, _, _, _, _]) rfl rfl rfl rfl ?_
  refine x_aload_n (pc' := 13) rfl rfl rfl rfl rfl ?_
  refine x_gR (pc' := 16) (r := (some 0)) rfl rfl rfl (kR_192_0 hc.1) ?_
  refine x_gR (pc' := 19) (r := (some 0)) rfl rfl rfl (kR_321_0 hc.1) ?_
  refine x_astore (pc' := 21) (ls' := [_, _, _, _, _, _, _, _, _, _, _]) rfl rfl rfl rfl rfl ?_
  refine x_aload (pc' := 23) rfl rfl rfl rfl rfl ?_
  refine x_alen (pc' := 24) (N := 6) rfl rfl rfl (kN_26_0 hc.1) (?_ : X _ _ _ (.inl 6 :: _) _ _)
  refine x_istore (pc' := 26) (ls' := [_, _, _, _, _, _, _, _, _, _, _]) rfl rfl rfl rfl ?_
  refine x_iconst (pc' := 27) rfl rfl ?_
  refine x_istore (pc' := 29) (ls' := [_, _, _, _, _, _, _, _, _, _, _]) rfl rfl rfl rfl ?_
  exact k0
set_option maxHeartbeats 4000000 in
set_option maxRecDepth 10000 in
theorem n20_k {t : sT} {Q : sRs → sT → Prop} {M : sM} {n : Nat} {T : Nat} {L0 : List Nat} {A : Nat} {B : Nat} {m : Nat} {c : Nat} {x : Nat} {a : Int32} {u : Int64} {y0 : sV} {y1 : sV}
    (hW : Wc t M n T L0 A B)
    (hm : m < 6)
    (hc3 : c < 3)
    (hx : x < 6)
    (k0 : X 21 0 [.inr (.inr (7, (some m))), .inr (.inr (7, (some x))), .inr (.inr (2, (some c))), sJk, sJk] [] t (sK 21 20 49 [.inr (.inr (3, (some 0))), .inr (.inr (7, (some m))), .inr (.inr (2, (some c))), .inl a, .inr (.inl u), sJk, .inr (.inr (26, (some 0))), .inl 6, .inl (io x), .inr (.inr (7, (some x))), y1] [.inr (.inl u)] Q)) :
    X 20 29 [.inr (.inr (3, (some 0))), .inr (.inr (7, (some m))), .inr (.inr (2, (some c))), .inl a, .inr (.inl u), sJk, .inr (.inr (26, (some 0))), .inl 6, .inl (io x), y0, y1] [] t Q := by
  obtain ⟨hM, hc, hR, hC, hL, hL9⟩ := hW
  refine x_iload (pc' := 31) rfl rfl rfl ?_
  refine x_iload (pc' := 33) rfl rfl rfl ?_
  refine x_icmp_n (a' := 62) (pc' := 36) (z := decide (x < 6)) rfl rfl rfl (ic_gen (p := x) (q := 6) (gm31 hx) (by decide)) (fun h => absurd hx (of_decide_eq_false h)) (fun _ => ?_)
  refine x_aload (pc' := 38) rfl rfl rfl rfl rfl ?_
  refine x_iload (pc' := 40) rfl rfl rfl ?_
  refine x_aald (pc' := 41) (N := 6) (k' := 7) (r := (some x)) rfl rfl rfl (kN_26_0 hc.1) (io_in (p := x) (N := 6) hx (by decide)) (Eq.trans (congrArg (sE t 26 0) (nn_io (p := x) (Nat.lt_trans hx (by decide)))) (kM hc.1 hx)) ?_
  refine x_astore (pc' := 43) (ls' := [_, _, _, _, _, _, _, _, _, _, _]) rfl rfl rfl rfl rfl ?_
  refine x_lload (pc' := 45) rfl rfl rfl ?_
  refine x_aload_n (pc' := 46) rfl rfl rfl rfl rfl ?_
  refine x_aload (pc' := 48) rfl rfl rfl rfl rfl ?_
  refine x_aload_n (pc' := 49) rfl rfl rfl rfl rfl ?_
  refine x_cs (ls0 := [_, _, _, sJk, sJk]) (rest := [_]) rfl rfl rfl rfl ?_
  exact k0
set_option maxHeartbeats 4000000 in
set_option maxRecDepth 10000 in
theorem n20_k2 {t : sT} {Q : sRs → sT → Prop} {M : sM} {n : Nat} {T : Nat} {L0 : List Nat} {A : Nat} {B : Nat} {m : Nat} {c : Nat} {x : Nat} {a : Int32} {h : Int32} {u : Int64} {y0 : sV}
    (hW : Wc t M n T L0 A B)
    (hm : m < 6)
    (hc3 : c < 3)
    (hx : x < 6)
    (k0 : X 20 29 [.inr (.inr (3, (some 0))), .inr (.inr (7, (some m))), .inr (.inr (2, (some c))), .inl a, .inr (.inl (u + h.toInt64)), sJk, .inr (.inr (26, (some 0))), .inl 6, .inl (io (x + 1)), .inr (.inr (7, (some x))), y0] [] t Q) :
    X 20 52 [.inr (.inr (3, (some 0))), .inr (.inr (7, (some m))), .inr (.inr (2, (some c))), .inl a, .inr (.inl u), sJk, .inr (.inr (26, (some 0))), .inl 6, .inl (io x), .inr (.inr (7, (some x))), y0] [.inl h, .inr (.inl u)] t Q := by
  obtain ⟨hM, hc, hR, hC, hL, hL9⟩ := hW
  refine x_i2l (pc' := 53) rfl rfl rfl ?_
  refine x_ladd (pc' := 54) rfl rfl rfl ?_
  refine x_lstore (pc' := 56) (ls' := [_, _, _, _, _, _, _, _, _, _, _]) rfl rfl rfl rfl ?_
  refine x_iinc (pc' := 59) (y := (io (x + 1))) (ls' := [_, _, _, _, _, _, _, _, _, _, _]) rfl rfl rfl (io_add x 1) rfl ?_
  refine x_goto (pc' := 29) rfl rfl ?_
  exact k0
set_option maxHeartbeats 4000000 in
set_option maxRecDepth 10000 in
theorem n20_e {t : sT} {Q : sRs → sT → Prop} {M : sM} {n : Nat} {T : Nat} {L0 : List Nat} {A : Nat} {B : Nat} {m : Nat} {c : Nat} {a : Int32} {u : Int64} {y0 : sV} {y1 : sV}
    (hW : Wc t M n T L0 A B)
    (hm : m < 6)
    (hc3 : c < 3)
    (k0 : a = 0 → Q (.inl none) t)
    (k1 : ¬ (a = 0) → 0 < (sLcmp u (0 : Int64)) → X 20 94 [.inr (.inr (3, (some 0))), .inr (.inr (7, (some m))), .inr (.inr (2, (some c))), .inl a, .inr (.inl u), sJk, .inl a, .inr (.inr (26, (some 0))), .inl 6, .inl 0, y1] [] t Q)
    (k2 : ¬ (a = 0) → ¬ (0 < (sLcmp u (0 : Int64))) → Q (.inl none) t) :
    X 20 29 [.inr (.inr (3, (some 0))), .inr (.inr (7, (some m))), .inr (.inr (2, (some c))), .inl a, .inr (.inl u), sJk, .inr (.inr (26, (some 0))), .inl 6, .inl 6, y0, y1] [] t Q := by
  obtain ⟨hM, hc, hR, hC, hL, hL9⟩ := hW
  refine x_iload (pc' := 31) rfl rfl rfl ?_
  refine x_iload (pc' := 33) rfl rfl rfl ?_
  refine x_icmp (a' := 62) (pc' := 36) (z := true) rfl rfl rfl (by decide) (fun _ => ?_) (fun h => by cases h)
  refine x_iload_n (pc' := 63) rfl rfl rfl ?_
  refine x_if (a' := 73) (pc' := 66) (z := decide (a = 0)) rfl rfl rfl rfl (fun q2 => ?_) (fun q2 => ?_)
  · refine x_ret rfl ?_
    exact k0 (of_decide_eq_true q2)
  · refine x_lload (pc' := 68) rfl rfl rfl ?_
    refine x_lconst (pc' := 69) rfl rfl rfl ?_
    refine x_lcmp (pc' := 70) rfl rfl rfl ?_
    refine x_if (a' := 74) (pc' := 73) (z := decide (0 < (sLcmp u (0 : Int64)))) rfl rfl rfl rfl (fun q3 => ?_) (fun q3 => ?_)
    · refine x_iload_n (pc' := 75) rfl rfl rfl ?_
      refine x_istore (pc' := 77) (ls' := [_, _, _, _, _, _, _, _, _, _, _]) rfl rfl rfl rfl ?_
      refine x_aload_n (pc' := 78) rfl rfl rfl rfl rfl ?_
      refine x_gR (pc' := 81) (r := (some 0)) rfl rfl rfl (kR_192_0 hc.1) ?_
      refine x_gR (pc' := 84) (r := (some 0)) rfl rfl rfl (kR_321_0 hc.1) ?_
      refine x_astore (pc' := 86) (ls' := [_, _, _, _, _, _, _, _, _, _, _]) rfl rfl rfl rfl rfl ?_
      refine x_aload (pc' := 88) rfl rfl rfl rfl rfl ?_
      refine x_alen (pc' := 89) (N := 6) rfl rfl rfl (kN_26_0 hc.1) (?_ : X _ _ _ (.inl 6 :: _) _ _)
      refine x_istore (pc' := 91) (ls' := [_, _, _, _, _, _, _, _, _, _, _]) rfl rfl rfl rfl ?_
      refine x_iconst (pc' := 92) rfl rfl ?_
      refine x_istore (pc' := 94) (ls' := [_, _, _, _, _, _, _, _, _, _, _]) rfl rfl rfl rfl ?_
      exact k1 (of_decide_eq_false q2) (of_decide_eq_true q3)
    · refine x_ret rfl ?_
      exact k2 (of_decide_eq_false q2) (of_decide_eq_false q3)
set_option maxHeartbeats 4000000 in
set_option maxRecDepth 10000 in
theorem n20_s {t : sT} {Q : sRs → sT → Prop} {M : sM} {n : Nat} {T : Nat} {L0 : List Nat} {A : Nat} {B : Nat} {m : Nat} {c : Nat} {x : Nat} {a : Int32} {d : Int32} {u : Int64} {y0 : sV}
    (hW : Wc t M n T L0 A B)
    (hm : m < 6)
    (hc3 : c < 3)
    (hx : x < 6)
    (k0 : X 21 0 [.inr (.inr (7, (some m))), .inr (.inr (7, (some x))), .inr (.inr (2, (some c))), sJk, sJk] [] t (sK 21 20 114 [.inr (.inr (3, (some 0))), .inr (.inr (7, (some m))), .inr (.inr (2, (some c))), .inl a, .inr (.inl u), sJk, .inl d, .inr (.inr (26, (some 0))), .inl 6, .inl (io x), .inr (.inr (7, (some x)))] [.inr (.inr (7, (some x)))] Q)) :
    X 20 94 [.inr (.inr (3, (some 0))), .inr (.inr (7, (some m))), .inr (.inr (2, (some c))), .inl a, .inr (.inl u), sJk, .inl d, .inr (.inr (26, (some 0))), .inl 6, .inl (io x), y0] [] t Q := by
  obtain ⟨hM, hc, hR, hC, hL, hL9⟩ := hW
  refine x_iload (pc' := 96) rfl rfl rfl ?_
  refine x_iload (pc' := 98) rfl rfl rfl ?_
  refine x_icmp_n (a' := 144) (pc' := 101) (z := decide (x < 6)) rfl rfl rfl (ic_gen (p := x) (q := 6) (gm31 hx) (by decide)) (fun h => absurd hx (of_decide_eq_false h)) (fun _ => ?_)
  refine x_aload (pc' := 103) rfl rfl rfl rfl rfl ?_
  refine x_iload (pc' := 105) rfl rfl rfl ?_
  refine x_aald (pc' := 106) (N := 6) (k' := 7) (r := (some x)) rfl rfl rfl (kN_26_0 hc.1) (io_in (p := x) (N := 6) hx (by decide)) (Eq.trans (congrArg (sE t 26 0) (nn_io (p := x) (Nat.lt_trans hx (by decide)))) (kM hc.1 hx)) ?_
  refine x_astore (pc' := 108) (ls' := [_, _, _, _, _, _, _, _, _, _, _]) rfl rfl rfl rfl rfl ?_
  refine x_aload (pc' := 110) rfl rfl rfl rfl rfl ?_
  refine x_aload_n (pc' := 111) rfl rfl rfl rfl rfl ?_
  refine x_aload (pc' := 113) rfl rfl rfl rfl rfl ?_
  refine x_aload_n (pc' := 114) rfl rfl rfl rfl rfl ?_
  refine x_cs (ls0 := [_, _, _, sJk, sJk]) (rest := [_]) rfl rfl rfl rfl ?_
  exact k0
set_option maxHeartbeats 4000000 in
set_option maxRecDepth 10000 in
theorem n20_s2 {t : sT} {Q : sRs → sT → Prop} {M : sM} {n : Nat} {T : Nat} {L0 : List Nat} {A : Nat} {B : Nat} {m : Nat} {c : Nat} {x : Nat} {a : Int32} {d : Int32} {h : Int32} {u : Int64}
    (hW : Wc t M n T L0 A B)
    (hm : m < 6)
    (hc3 : c < 3)
    (hx : x < 6)
    (hd0 : ¬ u = 0)
    (k0 : X 20 94 [.inr (.inr (3, (some 0))), .inr (.inr (7, (some m))), .inr (.inr (2, (some c))), .inl a, .inr (.inl u), sJk, .inl (d - (((h.toInt64 * a.toInt64) / u).toInt32)), .inr (.inr (26, (some 0))), .inl 6, .inl (io (x + 1)), .inr (.inr (7, (some x)))] [] (sIw t 455 x (((h.toInt64 * a.toInt64) / u).toInt32)) Q) :
    X 20 117 [.inr (.inr (3, (some 0))), .inr (.inr (7, (some m))), .inr (.inr (2, (some c))), .inl a, .inr (.inl u), sJk, .inl d, .inr (.inr (26, (some 0))), .inl 6, .inl (io x), .inr (.inr (7, (some x)))] [.inl h, .inr (.inr (7, (some x)))] t Q := by
  obtain ⟨hM, hc, hR, hC, hL, hL9⟩ := hW
  refine x_i2l (pc' := 118) rfl rfl rfl ?_
  refine x_iload_n (pc' := 119) rfl rfl rfl ?_
  refine x_i2l (pc' := 120) rfl rfl rfl ?_
  refine x_lmul (pc' := 121) rfl rfl rfl ?_
  refine x_lload (pc' := 123) rfl rfl rfl ?_
  refine x_ldiv (pc' := 124) rfl rfl hd0 rfl ?_
  refine x_l2i (pc' := 125) rfl rfl rfl ?_
  refine x_pI (pc' := 128) rfl rfl rfl ?_
  refine x_iload (pc' := 130) rfl rfl rfl ?_
  refine x_aload (pc' := 132) rfl rfl rfl rfl rfl ?_
  refine x_gI (pc' := 135) (x := (((h.toInt64 * a.toInt64) / u).toInt32)) rfl rfl rfl sI_s ?_
  refine x_isub (pc' := 136) (z := (d - (((h.toInt64 * a.toInt64) / u).toInt32))) rfl rfl rfl ?_
  refine x_istore (pc' := 138) (ls' := [_, _, _, _, _, _, _, _, _, _, _]) rfl rfl rfl rfl ?_
  refine x_iinc (pc' := 141) (y := (io (x + 1))) (ls' := [_, _, _, _, _, _, _, _, _, _, _]) rfl rfl rfl (io_add x 1) rfl ?_
  refine x_goto (pc' := 94) rfl rfl ?_
  exact k0
set_option maxHeartbeats 4000000 in
set_option maxRecDepth 10000 in
theorem n20_t {t : sT} {Q : sRs → sT → Prop} {M : sM} {n : Nat} {T : Nat} {L0 : List Nat} {A : Nat} {B : Nat} {m : Nat} {c : Nat} {a : Int32} {d : Int32} {u : Int64} {y0 : sV}
    (hW : Wc t M n T L0 A B)
    (hm : m < 6)
    (hc3 : c < 3)
    (k0 : X 22 0 [.inr (.inr (3, (some 0))), .inr (.inr (7, (some m))), .inr (.inr (2, (some c))), .inl d, sJk, sJk, sJk, sJk, sJk] [] t (sK 22 20 149 [.inr (.inr (3, (some 0))), .inr (.inr (7, (some m))), .inr (.inr (2, (some c))), .inl a, .inr (.inl u), sJk, .inl d, .inr (.inr (26, (some 0))), .inl 6, .inl 6, y0] [] Q)) :
    X 20 94 [.inr (.inr (3, (some 0))), .inr (.inr (7, (some m))), .inr (.inr (2, (some c))), .inl a, .inr (.inl u), sJk, .inl d, .inr (.inr (26, (some 0))), .inl 6, .inl 6, y0] [] t Q := by
  obtain ⟨hM, hc, hR, hC, hL, hL9⟩ := hW
  refine x_iload (pc' := 96) rfl rfl rfl ?_
  refine x_iload (pc' := 98) rfl rfl rfl ?_
  refine x_icmp (a' := 144) (pc' := 101) (z := true) rfl rfl rfl (by decide) (fun _ => ?_) (fun h => by cases h)
  refine x_aload_n (pc' := 145) rfl rfl rfl rfl rfl ?_
  refine x_aload_n (pc' := 146) rfl rfl rfl rfl rfl ?_
  refine x_aload_n (pc' := 147) rfl rfl rfl rfl rfl ?_
  refine x_iload (pc' := 149) rfl rfl rfl ?_
  refine x_cv (ls0 := [_, _, _, _, sJk, sJk, sJk, sJk, sJk]) (rest := []) rfl rfl rfl rfl rfl ?_
  exact k0
set_option maxHeartbeats 4000000 in
set_option maxRecDepth 10000 in
theorem n20_t2 {t : sT} {Q : sRs → sT → Prop} {M : sM} {n : Nat} {T : Nat} {L0 : List Nat} {A : Nat} {B : Nat} {m : Nat} {c : Nat} {a : Int32} {d : Int32} {u : Int64} {y0 : sV} {y1 : sV}
    (hW : Wc t M n T L0 A B)
    (hm : m < 6)
    (hc3 : c < 3)
    (k0 : X 20 169 [.inr (.inr (3, (some 0))), .inr (.inr (7, (some m))), .inr (.inr (2, (some c))), .inl a, .inr (.inl u), sJk, .inl d, .inr (.inr (26, (some 0))), .inl 6, .inl 0, y1] [] t Q) :
    X 20 152 [.inr (.inr (3, (some 0))), .inr (.inr (7, (some m))), .inr (.inr (2, (some c))), .inl a, .inr (.inl u), sJk, .inl d, .inr (.inr (26, (some 0))), .inl 6, y0, y1] [] t Q := by
  obtain ⟨hM, hc, hR, hC, hL, hL9⟩ := hW
  refine x_aload_n (pc' := 153) rfl rfl rfl rfl rfl ?_
  refine x_gR (pc' := 156) (r := (some 0)) rfl rfl rfl (kR_192_0 hc.1) ?_
  refine x_gR (pc' := 159) (r := (some 0)) rfl rfl rfl (kR_321_0 hc.1) ?_
  refine x_astore (pc' := 161) (ls' := [_, _, _, _, _, _, _, _, _, _, _]) rfl rfl rfl rfl rfl ?_
  refine x_aload (pc' := 163) rfl rfl rfl rfl rfl ?_
  refine x_alen (pc' := 164) (N := 6) rfl rfl rfl (kN_26_0 hc.1) (?_ : X _ _ _ (.inl 6 :: _) _ _)
  refine x_istore (pc' := 166) (ls' := [_, _, _, _, _, _, _, _, _, _, _]) rfl rfl rfl rfl ?_
  refine x_iconst (pc' := 167) rfl rfl ?_
  refine x_istore (pc' := 169) (ls' := [_, _, _, _, _, _, _, _, _, _, _]) rfl rfl rfl rfl ?_
  exact k0
set_option maxHeartbeats 4000000 in
set_option maxRecDepth 10000 in
theorem n20_p {t : sT} {Q : sRs → sT → Prop} {M : sM} {n : Nat} {T : Nat} {L0 : List Nat} {A : Nat} {B : Nat} {m : Nat} {c : Nat} {x : Nat} {a : Int32} {d : Int32} {p : Int32} {u : Int64} {y0 : sV}
    (hW : Wc t M n T L0 A B)
    (hm : m < 6)
    (hc3 : c < 3)
    (hx : x < 6)
    (hp : sI t 455 x = p)
    (k0 : X 18 0 [.inr (.inr (3, (some 0))), .inr (.inr (7, (some m))), .inr (.inr (7, (some x))), .inr (.inr (2, (some c))), .inl p, sJk] [] t (sK 18 20 193 [.inr (.inr (3, (some 0))), .inr (.inr (7, (some m))), .inr (.inr (2, (some c))), .inl a, .inr (.inl u), sJk, .inl d, .inr (.inr (26, (some 0))), .inl 6, .inl (io x), .inr (.inr (7, (some x)))] [] Q)) :
    X 20 169 [.inr (.inr (3, (some 0))), .inr (.inr (7, (some m))), .inr (.inr (2, (some c))), .inl a, .inr (.inl u), sJk, .inl d, .inr (.inr (26, (some 0))), .inl 6, .inl (io x), y0] [] t Q := by
  obtain ⟨hM, hc, hR, hC, hL, hL9⟩ := hW
  refine x_iload (pc' := 171) rfl rfl rfl ?_
  refine x_iload (pc' := 173) rfl rfl rfl ?_
  refine x_icmp_n (a' := 202) (pc' := 176) (z := decide (x < 6)) rfl rfl rfl (ic_gen (p := x) (q := 6) (gm31 hx) (by decide)) (fun h => absurd hx (of_decide_eq_false h)) (fun _ => ?_)
  refine x_aload (pc' := 178) rfl rfl rfl rfl rfl ?_
  refine x_iload (pc' := 180) rfl rfl rfl ?_
  refine x_aald (pc' := 181) (N := 6) (k' := 7) (r := (some x)) rfl rfl rfl (kN_26_0 hc.1) (io_in (p := x) (N := 6) hx (by decide)) (Eq.trans (congrArg (sE t 26 0) (nn_io (p := x) (Nat.lt_trans hx (by decide)))) (kM hc.1 hx)) ?_
  refine x_astore (pc' := 183) (ls' := [_, _, _, _, _, _, _, _, _, _, _]) rfl rfl rfl rfl rfl ?_
  refine x_aload_n (pc' := 184) rfl rfl rfl rfl rfl ?_
  refine x_aload_n (pc' := 185) rfl rfl rfl rfl rfl ?_
  refine x_aload (pc' := 187) rfl rfl rfl rfl rfl ?_
  refine x_aload_n (pc' := 188) rfl rfl rfl rfl rfl ?_
  refine x_aload (pc' := 190) rfl rfl rfl rfl rfl ?_
  refine x_gI (pc' := 193) (x := p) rfl rfl rfl hp ?_
  refine x_cv (ls0 := [_, _, _, _, _, sJk]) (rest := []) rfl rfl rfl rfl rfl ?_
  exact k0
set_option maxHeartbeats 4000000 in
set_option maxRecDepth 10000 in
theorem n20_p2 {t : sT} {Q : sRs → sT → Prop} {M : sM} {n : Nat} {T : Nat} {L0 : List Nat} {A : Nat} {B : Nat} {m : Nat} {c : Nat} {x : Nat} {a : Int32} {d : Int32} {u : Int64}
    (hW : Wc t M n T L0 A B)
    (hm : m < 6)
    (hc3 : c < 3)
    (hx : x < 6)
    (k0 : X 20 169 [.inr (.inr (3, (some 0))), .inr (.inr (7, (some m))), .inr (.inr (2, (some c))), .inl a, .inr (.inl u), sJk, .inl d, .inr (.inr (26, (some 0))), .inl 6, .inl (io (x + 1)), .inr (.inr (7, (some x)))] [] t Q) :
    X 20 196 [.inr (.inr (3, (some 0))), .inr (.inr (7, (some m))), .inr (.inr (2, (some c))), .inl a, .inr (.inl u), sJk, .inl d, .inr (.inr (26, (some 0))), .inl 6, .inl (io x), .inr (.inr (7, (some x)))] [] t Q := by
  obtain ⟨hM, hc, hR, hC, hL, hL9⟩ := hW
  refine x_iinc (pc' := 199) (y := (io (x + 1))) (ls' := [_, _, _, _, _, _, _, _, _, _, _]) rfl rfl rfl (io_add x 1) rfl ?_
  refine x_goto (pc' := 169) rfl rfl ?_
  exact k0
set_option maxHeartbeats 4000000 in
set_option maxRecDepth 10000 in
theorem n20_q {t : sT} {Q : sRs → sT → Prop} {M : sM} {n : Nat} {T : Nat} {L0 : List Nat} {A : Nat} {B : Nat} {m : Nat} {c : Nat} {a : Int32} {d : Int32} {u : Int64} {y0 : sV}
    (hW : Wc t M n T L0 A B)
    (hm : m < 6)
    (hc3 : c < 3)
    (k0 : Q (.inl none) t) :
    X 20 169 [.inr (.inr (3, (some 0))), .inr (.inr (7, (some m))), .inr (.inr (2, (some c))), .inl a, .inr (.inl u), sJk, .inl d, .inr (.inr (26, (some 0))), .inl 6, .inl 6, y0] [] t Q := by
  obtain ⟨hM, hc, hR, hC, hL, hL9⟩ := hW
  refine x_iload (pc' := 171) rfl rfl rfl ?_
  refine x_iload (pc' := 173) rfl rfl rfl ?_
  refine x_icmp (a' := 202) (pc' := 176) (z := true) rfl rfl rfl (by decide) (fun _ => ?_) (fun h => by cases h)
  refine x_ret rfl ?_
  exact k0
set_option maxHeartbeats 4000000 in
set_option maxRecDepth 10000 in
theorem n22_0 {t : sT} {Q : sRs → sT → Prop} {M : sM} {n : Nat} {T : Nat} {L0 : List Nat} {A : Nat} {B : Nat} {m : Nat} {c : Nat} {a : Int32}
    (hW : Wc t M n T L0 A B)
    (hm : m < 6)
    (hc3 : c < 3)
    (k0 : X 22 20 [.inr (.inr (3, (some 0))), .inr (.inr (7, (some m))), .inr (.inr (2, (some c))), .inl a, .inl a, .inr (.inr (26, (some 0))), .inl 6, .inl 0, sJk] [] t Q) :
    X 22 0 [.inr (.inr (3, (some 0))), .inr (.inr (7, (some m))), .inr (.inr (2, (some c))), .inl a, sJk, sJk, sJk, sJk, sJk] [] t Q := by
  obtain ⟨hM, hc, hR, hC, hL, hL9⟩ := hW
  refine x_iload_n (pc' := 1) rfl rfl rfl ?_
  refine x_istore (pc' := 3) (ls' := [_, _, _, _, _, _, _, _, _]) rfl rfl rfl rfl ?_
  refine x_aload_n (pc' := 4) rfl rfl rfl rfl rfl ?_
  refine x_gR (pc' := 7) (r := (some 0)) rfl rfl rfl (kR_192_0 hc.1) ?_
  refine x_gR (pc' := 10) (r := (some 0)) rfl rfl rfl (kR_321_0 hc.1) ?_
  refine x_astore (pc' := 12) (ls' := [_, _, _, _, _, _, _, _, _]) rfl rfl rfl rfl rfl ?_
  refine x_aload (pc' := 14) rfl rfl rfl rfl rfl ?_
  refine x_alen (pc' := 15) (N := 6) rfl rfl rfl (kN_26_0 hc.1) (?_ : X _ _ _ (.inl 6 :: _) _ _)
  refine x_istore (pc' := 17) (ls' := [_, _, _, _, _, _, _, _, _]) rfl rfl rfl rfl ?_
  refine x_iconst (pc' := 18) rfl rfl ?_
  refine x_istore (pc' := 20) (ls' := [_, _, _, _, _, _, _, _, _]) rfl rfl rfl rfl ?_
  exact k0
set_option maxHeartbeats 4000000 in
set_option maxRecDepth 10000 in
theorem n22_k {t : sT} {Q : sRs → sT → Prop} {M : sM} {n : Nat} {T : Nat} {L0 : List Nat} {A : Nat} {B : Nat} {m : Nat} {c : Nat} {x : Nat} {a : Int32} {d : Int32} {p : Int32} {y0 : sV}
    (hW : Wc t M n T L0 A B)
    (hm : m < 6)
    (hc3 : c < 3)
    (hx : x < 6)
    (hp : sI t 455 x = p)
    (k0 : ¬ (0 < d) → X 22 20 [.inr (.inr (3, (some 0))), .inr (.inr (7, (some m))), .inr (.inr (2, (some c))), .inl a, .inl d, .inr (.inr (26, (some 0))), .inl 6, .inl (io (x + 1)), .inr (.inr (7, (some x)))] [] t Q)
    (k1 : 0 < d → X 21 0 [.inr (.inr (7, (some m))), .inr (.inr (7, (some x))), .inr (.inr (2, (some c))), sJk, sJk] [] t (sK 21 22 48 [.inr (.inr (3, (some 0))), .inr (.inr (7, (some m))), .inr (.inr (2, (some c))), .inl a, .inl d, .inr (.inr (26, (some 0))), .inl 6, .inl (io x), .inr (.inr (7, (some x)))] [.inl p] Q)) :
    X 22 20 [.inr (.inr (3, (some 0))), .inr (.inr (7, (some m))), .inr (.inr (2, (some c))), .inl a, .inl d, .inr (.inr (26, (some 0))), .inl 6, .inl (io x), y0] [] t Q := by
  obtain ⟨hM, hc, hR, hC, hL, hL9⟩ := hW
  refine x_iload (pc' := 22) rfl rfl rfl ?_
  refine x_iload (pc' := 24) rfl rfl rfl ?_
  refine x_icmp_n (a' := 74) (pc' := 27) (z := decide (x < 6)) rfl rfl rfl (ic_gen (p := x) (q := 6) (gm31 hx) (by decide)) (fun h => absurd hx (of_decide_eq_false h)) (fun _ => ?_)
  refine x_aload (pc' := 29) rfl rfl rfl rfl rfl ?_
  refine x_iload (pc' := 31) rfl rfl rfl ?_
  refine x_aald (pc' := 32) (N := 6) (k' := 7) (r := (some x)) rfl rfl rfl (kN_26_0 hc.1) (io_in (p := x) (N := 6) hx (by decide)) (Eq.trans (congrArg (sE t 26 0) (nn_io (p := x) (Nat.lt_trans hx (by decide)))) (kM hc.1 hx)) ?_
  refine x_astore (pc' := 34) (ls' := [_, _, _, _, _, _, _, _, _]) rfl rfl rfl rfl rfl ?_
  refine x_iload (pc' := 36) rfl rfl rfl ?_
  refine x_if_n (a' := 68) (pc' := 39) (z := decide (0 < d)) rfl rfl rfl (ik_le _ _) (fun q2 => ?_) (fun q2 => ?_)
  · refine x_iinc (pc' := 71) (y := (io (x + 1))) (ls' := [_, _, _, _, _, _, _, _, _]) rfl rfl rfl (io_add x 1) rfl ?_
    refine x_goto (pc' := 20) rfl rfl ?_
    exact k0 (of_decide_eq_false q2)
  · refine x_aload (pc' := 41) rfl rfl rfl rfl rfl ?_
    refine x_gI (pc' := 44) (x := p) rfl rfl rfl hp ?_
    refine x_aload_n (pc' := 45) rfl rfl rfl rfl rfl ?_
    refine x_aload (pc' := 47) rfl rfl rfl rfl rfl ?_
    refine x_aload_n (pc' := 48) rfl rfl rfl rfl rfl ?_
    refine x_cs (ls0 := [_, _, _, sJk, sJk]) (rest := [_]) rfl rfl rfl rfl ?_
    exact k1 (of_decide_eq_true q2)
set_option maxHeartbeats 4000000 in
set_option maxRecDepth 10000 in
theorem n22_k2 {t : sT} {Q : sRs → sT → Prop} {M : sM} {n : Nat} {T : Nat} {L0 : List Nat} {A : Nat} {B : Nat} {m : Nat} {c : Nat} {x : Nat} {a : Int32} {d : Int32} {p : Int32} {h : Int32}
    (hW : Wc t M n T L0 A B)
    (hm : m < 6)
    (hc3 : c < 3)
    (hx : x < 6)
    (hp : sI t 455 x = p)
    (k0 : ¬ (p < h) → X 22 20 [.inr (.inr (3, (some 0))), .inr (.inr (7, (some m))), .inr (.inr (2, (some c))), .inl a, .inl d, .inr (.inr (26, (some 0))), .inl 6, .inl (io (x + 1)), .inr (.inr (7, (some x)))] [] t Q)
    (k1 : p < h → X 22 20 [.inr (.inr (3, (some 0))), .inr (.inr (7, (some m))), .inr (.inr (2, (some c))), .inl a, .inl (d + (-1)), .inr (.inr (26, (some 0))), .inl 6, .inl (io (x + 1)), .inr (.inr (7, (some x)))] [] (sIw t 455 x (p + 1)) Q) :
    X 22 51 [.inr (.inr (3, (some 0))), .inr (.inr (7, (some m))), .inr (.inr (2, (some c))), .inl a, .inl d, .inr (.inr (26, (some 0))), .inl 6, .inl (io x), .inr (.inr (7, (some x)))] [.inl h, .inl p] t Q := by
  obtain ⟨hM, hc, hR, hC, hL, hL9⟩ := hW
  refine x_icmp_n (a' := 68) (pc' := 54) (z := decide (p < h)) rfl rfl rfl (ik_ge _ _) (fun q1 => ?_) (fun q1 => ?_)
  · refine x_iinc (pc' := 71) (y := (io (x + 1))) (ls' := [_, _, _, _, _, _, _, _, _]) rfl rfl rfl (io_add x 1) rfl ?_
    refine x_goto (pc' := 20) rfl rfl ?_
    exact k0 (of_decide_eq_false q1)
  · refine x_aload (pc' := 56) rfl rfl rfl rfl rfl ?_
    refine x_dup (pc' := 57) rfl rfl rfl ?_
    refine x_gI (pc' := 60) (x := p) rfl rfl rfl hp ?_
    refine x_iconst (pc' := 61) rfl rfl ?_
    refine x_iadd (pc' := 62) (z := (p + 1)) rfl rfl rfl ?_
    refine x_pI (pc' := 65) rfl rfl rfl ?_
    refine x_iinc (pc' := 68) (y := (d + (-1))) (ls' := [_, _, _, _, _, _, _, _, _]) rfl rfl rfl rfl rfl ?_
    refine x_iinc (pc' := 71) (y := (io (x + 1))) (ls' := [_, _, _, _, _, _, _, _, _]) rfl rfl rfl (io_add x 1) rfl ?_
    refine x_goto (pc' := 20) rfl rfl ?_
    exact k1 (of_decide_eq_true q1)
set_option maxHeartbeats 4000000 in
set_option maxRecDepth 10000 in
theorem n22_e {t : sT} {Q : sRs → sT → Prop} {M : sM} {n : Nat} {T : Nat} {L0 : List Nat} {A : Nat} {B : Nat} {m : Nat} {c : Nat} {a : Int32} {d : Int32} {y0 : sV}
    (hW : Wc t M n T L0 A B)
    (hm : m < 6)
    (hc3 : c < 3)
    (k0 : Q (.inl none) t) :
    X 22 20 [.inr (.inr (3, (some 0))), .inr (.inr (7, (some m))), .inr (.inr (2, (some c))), .inl a, .inl d, .inr (.inr (26, (some 0))), .inl 6, .inl 6, y0] [] t Q := by
  obtain ⟨hM, hc, hR, hC, hL, hL9⟩ := hW
  refine x_iload (pc' := 22) rfl rfl rfl ?_
  refine x_iload (pc' := 24) rfl rfl rfl ?_
  refine x_icmp (a' := 74) (pc' := 27) (z := true) rfl rfl rfl (by decide) (fun _ => ?_) (fun h => by cases h)
  refine x_ret rfl ?_
  exact k0
set_option maxHeartbeats 4000000 in
set_option maxRecDepth 10000 in
theorem n23b {t : sT} {Q : sRs → sT → Prop} {M : sM} {n : Nat} {T : Nat} {L0 : List Nat} {A : Nat} {B : Nat} {m : Nat} {a : Int32} {d : Int32} {h : Int32} {p : Int32}
    (hW : Wc t M n T L0 A B)
    (hm : m < 6)
    (k0 : Q (.inl none) (sIw t 325 0 (p + h))) :
    X 23 85 [.inr (.inr (3, (some 0))), .inr (.inr (7, (some m))), .inl a, .inl d] [.inl h, .inl p, .inr (.inr (5, (some 0)))] t Q := by
  obtain ⟨hM, hc, hR, hC, hL, hL9⟩ := hW
  refine x_iadd (pc' := 86) (z := (p + h)) rfl rfl rfl ?_
  refine x_pI (pc' := 89) rfl rfl rfl ?_
  refine x_ret rfl ?_
  exact k0
set_option maxHeartbeats 4000000 in
set_option maxRecDepth 10000 in
theorem n24_0 {t : sT} {Q : sRs → sT → Prop} {M : sM} {n : Nat} {T : Nat} {L0 : List Nat} {A : Nat} {B : Nat} {m : Nat} {a : Int32}
    (hW : Wc t M n T L0 A B)
    (hm : m < 6)
    (k0 : X 24 19 [.inr (.inr (3, (some 0))), .inl a, .inr (.inl (0 : Int64)), sJk, .inr (.inr (26, (some 0))), .inl 6, .inl 0, sJk, sJk, sJk, sJk, sJk, sJk, sJk] [] t Q) :
    X 24 0 [.inr (.inr (3, (some 0))), .inl a, sJk, sJk, sJk, sJk, sJk, sJk, sJk, sJk, sJk, sJk, sJk, sJk] [] t Q := by
  obtain ⟨hM, hc, hR, hC, hL, hL9⟩ := hW
  refine x_lconst (pc' := 1) rfl rfl rfl ?_
  refine x_lstore_n (pc' := 2) (ls' := [_, _, _, _, _, _, _, _, _, _, _, _, _, _]) rfl rfl rfl rfl ?_
  refine x_aload_n (pc' := 3) rfl rfl rfl rfl rfl ?_
  refine x_gR (pc' := 6) (r := (some 0)) rfl rfl rfl (kR_192_0 hc.1) ?_
  refine x_gR (pc' := 9) (r := (some 0)) rfl rfl rfl (kR_321_0 hc.1) ?_
  refine x_astore (pc' := 11) (ls' := [_, _, _, _, _, _, _, _, _, _, _, _, _, _]) rfl rfl rfl rfl rfl ?_
  refine x_aload (pc' := 13) rfl rfl rfl rfl rfl ?_
  refine x_alen (pc' := 14) (N := 6) rfl rfl rfl (kN_26_0 hc.1) (?_ : X _ _ _ (.inl 6 :: _) _ _)
  refine x_istore (pc' := 16) (ls' := [_, _, _, _, _, _, _, _, _, _, _, _, _, _]) rfl rfl rfl rfl ?_
  refine x_iconst (pc' := 17) rfl rfl ?_
  refine x_istore (pc' := 19) (ls' := [_, _, _, _, _, _, _, _, _, _, _, _, _, _]) rfl rfl rfl rfl ?_
  exact k0
set_option maxHeartbeats 4000000 in
set_option maxRecDepth 10000 in
theorem n24_k {t : sT} {Q : sRs → sT → Prop} {M : sM} {n : Nat} {T : Nat} {L0 : List Nat} {A : Nat} {B : Nat} {x : Nat} {a : Int32} {u : Int64} {y0 : sV} {y1 : sV} {y2 : sV} {y3 : sV} {y4 : sV} {y5 : sV} {y6 : sV}
    (hW : Wc t M n T L0 A B)
    (hx : x < 6)
    (k0 : (mB M 2 x) = false → X 24 19 [.inr (.inr (3, (some 0))), .inl a, .inr (.inl (u + (mA M 7 x).toInt64)), sJk, .inr (.inr (26, (some 0))), .inl 6, .inl (io (x + 1)), .inr (.inr (7, (some x))), y1, y2, y3, y4, y5, y6] [] t Q)
    (k1 : (mB M 2 x) = true → X 24 19 [.inr (.inr (3, (some 0))), .inl a, .inr (.inl (u + (0 : Int64))), sJk, .inr (.inr (26, (some 0))), .inl 6, .inl (io (x + 1)), .inr (.inr (7, (some x))), y1, y2, y3, y4, y5, y6] [] t Q) :
    X 24 19 [.inr (.inr (3, (some 0))), .inl a, .inr (.inl u), sJk, .inr (.inr (26, (some 0))), .inl 6, .inl (io x), y0, y1, y2, y3, y4, y5, y6] [] t Q := by
  obtain ⟨hM, hc, hR, hC, hL, hL9⟩ := hW
  refine x_iload (pc' := 21) rfl rfl rfl ?_
  refine x_iload (pc' := 23) rfl rfl rfl ?_
  refine x_icmp_n (a' := 60) (pc' := 26) (z := decide (x < 6)) rfl rfl rfl (ic_gen (p := x) (q := 6) (gm31 hx) (by decide)) (fun h => absurd hx (of_decide_eq_false h)) (fun _ => ?_)
  refine x_aload (pc' := 28) rfl rfl rfl rfl rfl ?_
  refine x_iload (pc' := 30) rfl rfl rfl ?_
  refine x_aald (pc' := 31) (N := 6) (k' := 7) (r := (some x)) rfl rfl rfl (kN_26_0 hc.1) (io_in (p := x) (N := 6) hx (by decide)) (Eq.trans (congrArg (sE t 26 0) (nn_io (p := x) (Nat.lt_trans hx (by decide)))) (kM hc.1 hx)) ?_
  refine x_astore (pc' := 33) (ls' := [_, _, _, _, _, _, _, _, _, _, _, _, _, _]) rfl rfl rfl rfl rfl ?_
  refine x_lload_n (pc' := 34) rfl rfl rfl ?_
  refine x_aload (pc' := 36) rfl rfl rfl rfl rfl ?_
  refine x_gZ (pc' := 39) (z := (mB M 2 x)) rfl rfl rfl (kZ hM rfl hx) ?_
  refine x_ifeq_z (a' := 46) (pc' := 42) (z := (mB M 2 x)) rfl rfl rfl (fun q2 => ?_) (fun q2 => ?_)
  · refine x_aload (pc' := 48) rfl rfl rfl rfl rfl ?_
    refine x_gI (pc' := 51) (x := (mA M 7 x)) rfl rfl rfl (kA hM rfl hx) ?_
    refine x_i2l (pc' := 52) rfl rfl rfl ?_
    refine x_ladd (pc' := 53) rfl rfl rfl ?_
    refine x_lstore_n (pc' := 54) (ls' := [_, _, _, _, _, _, _, _, _, _, _, _, _, _]) rfl rfl rfl rfl ?_
    refine x_iinc (pc' := 57) (y := (io (x + 1))) (ls' := [_, _, _, _, _, _, _, _, _, _, _, _, _, _]) rfl rfl rfl (io_add x 1) rfl ?_
    refine x_goto (pc' := 19) rfl rfl ?_
    exact k0 q2
  · refine x_lconst (pc' := 43) rfl rfl rfl ?_
    refine x_goto (pc' := 52) rfl rfl ?_
    refine x_ladd (pc' := 53) rfl rfl rfl ?_
    refine x_lstore_n (pc' := 54) (ls' := [_, _, _, _, _, _, _, _, _, _, _, _, _, _]) rfl rfl rfl rfl ?_
    refine x_iinc (pc' := 57) (y := (io (x + 1))) (ls' := [_, _, _, _, _, _, _, _, _, _, _, _, _, _]) rfl rfl rfl (io_add x 1) rfl ?_
    refine x_goto (pc' := 19) rfl rfl ?_
    exact k1 q2
set_option maxHeartbeats 4000000 in
set_option maxRecDepth 10000 in
theorem n24_e {t : sT} {Q : sRs → sT → Prop} {M : sM} {n : Nat} {T : Nat} {L0 : List Nat} {A : Nat} {B : Nat} {a : Int32} {u : Int64} {y0 : sV} {y1 : sV} {y2 : sV} {y3 : sV} {y4 : sV} {y5 : sV} {y6 : sV}
    (hW : Wc t M n T L0 A B)
    (k0 : 0 < (sLcmp u (0 : Int64)) → X 24 97 [.inr (.inr (3, (some 0))), .inl a, .inr (.inl u), sJk, .inr (.inl (if u < a.toInt64 then u else a.toInt64)), sJk, .inr (.inl (if u < a.toInt64 then u else a.toInt64)), sJk, .inr (.inr (26, (some 0))), .inl 6, .inl 0, y4, y5, y6] [] t Q)
    (k1 : ¬ (0 < (sLcmp u (0 : Int64))) → Q (.inl (some (.inl a))) t) :
    X 24 19 [.inr (.inr (3, (some 0))), .inl a, .inr (.inl u), sJk, .inr (.inr (26, (some 0))), .inl 6, .inl 6, y0, y1, y2, y3, y4, y5, y6] [] t Q := by
  obtain ⟨hM, hc, hR, hC, hL, hL9⟩ := hW
  refine x_iload (pc' := 21) rfl rfl rfl ?_
  refine x_iload (pc' := 23) rfl rfl rfl ?_
  refine x_icmp (a' := 60) (pc' := 26) (z := true) rfl rfl rfl (by decide) (fun _ => ?_) (fun h => by cases h)
  refine x_lload_n (pc' := 61) rfl rfl rfl ?_
  refine x_lconst (pc' := 62) rfl rfl rfl ?_
  refine x_lcmp (pc' := 63) rfl rfl rfl ?_
  refine x_if (a' := 68) (pc' := 66) (z := decide (0 < (sLcmp u (0 : Int64)))) rfl rfl rfl rfl (fun q2 => ?_) (fun q2 => ?_)
  · refine x_iload_n (pc' := 69) rfl rfl rfl ?_
    refine x_i2l (pc' := 70) rfl rfl rfl ?_
    refine x_lload_n (pc' := 71) rfl rfl rfl ?_
    refine x_lmin (pc' := 74) rfl rfl rfl rfl ?_
    refine x_lstore (pc' := 76) (ls' := [_, _, _, _, _, _, _, _, _, _, _, _, _, _]) rfl rfl rfl rfl ?_
    refine x_lload (pc' := 78) rfl rfl rfl ?_
    refine x_lstore (pc' := 80) (ls' := [_, _, _, _, _, _, _, _, _, _, _, _, _, _]) rfl rfl rfl rfl ?_
    refine x_aload_n (pc' := 81) rfl rfl rfl rfl rfl ?_
    refine x_gR (pc' := 84) (r := (some 0)) rfl rfl rfl (kR_192_0 hc.1) ?_
    refine x_gR (pc' := 87) (r := (some 0)) rfl rfl rfl (kR_321_0 hc.1) ?_
    refine x_astore (pc' := 89) (ls' := [_, _, _, _, _, _, _, _, _, _, _, _, _, _]) rfl rfl rfl rfl rfl ?_
    refine x_aload (pc' := 91) rfl rfl rfl rfl rfl ?_
    refine x_alen (pc' := 92) (N := 6) rfl rfl rfl (kN_26_0 hc.1) (?_ : X _ _ _ (.inl 6 :: _) _ _)
    refine x_istore (pc' := 94) (ls' := [_, _, _, _, _, _, _, _, _, _, _, _, _, _]) rfl rfl rfl rfl ?_
    refine x_iconst (pc' := 95) rfl rfl ?_
    refine x_istore (pc' := 97) (ls' := [_, _, _, _, _, _, _, _, _, _, _, _, _, _]) rfl rfl rfl rfl ?_
    exact k0 (of_decide_eq_true q2)
  · refine x_iload_n (pc' := 67) rfl rfl rfl ?_
    refine x_reti rfl rfl ?_
    exact k1 (of_decide_eq_false q2)
set_option maxHeartbeats 4000000 in
set_option maxRecDepth 10000 in
theorem n24_s {t : sT} {Q : sRs → sT → Prop} {M : sM} {n : Nat} {T : Nat} {L0 : List Nat} {A : Nat} {B : Nat} {x : Nat} {a : Int32} {u : Int64} {h : Int64} {g : Int64} {y0 : sV} {y1 : sV} {y2 : sV}
    (hW : Wc t M n T L0 A B)
    (hx : x < 6)
    (hd0 : ¬ u = 0)
    (k0 : (mB M 2 x) = false → X 24 97 [.inr (.inr (3, (some 0))), .inl a, .inr (.inl u), sJk, .inr (.inl h), sJk, .inr (.inl (g - ((h * (mA M 7 x).toInt64) / u))), sJk, .inr (.inr (26, (some 0))), .inl 6, .inl (io (x + 1)), .inr (.inr (7, (some x))), .inr (.inl ((h * (mA M 7 x).toInt64) / u)), sJk] [] (sIw t 452 x ((mA M 7 x) - (((h * (mA M 7 x).toInt64) / u).toInt32))) Q)
    (k1 : (mB M 2 x) = true → X 24 97 [.inr (.inr (3, (some 0))), .inl a, .inr (.inl u), sJk, .inr (.inl h), sJk, .inr (.inl (g - (0 : Int64))), sJk, .inr (.inr (26, (some 0))), .inl 6, .inl (io (x + 1)), .inr (.inr (7, (some x))), .inr (.inl (0 : Int64)), sJk] [] (sIw t 452 x ((mA M 7 x) - ((0 : Int64).toInt32))) Q) :
    X 24 97 [.inr (.inr (3, (some 0))), .inl a, .inr (.inl u), sJk, .inr (.inl h), sJk, .inr (.inl g), sJk, .inr (.inr (26, (some 0))), .inl 6, .inl (io x), y0, y1, y2] [] t Q := by
  obtain ⟨hM, hc, hR, hC, hL, hL9⟩ := hW
  refine x_iload (pc' := 99) rfl rfl rfl ?_
  refine x_iload (pc' := 101) rfl rfl rfl ?_
  refine x_icmp_n (a' := 162) (pc' := 104) (z := decide (x < 6)) rfl rfl rfl (ic_gen (p := x) (q := 6) (gm31 hx) (by decide)) (fun h => absurd hx (of_decide_eq_false h)) (fun _ => ?_)
  refine x_aload (pc' := 106) rfl rfl rfl rfl rfl ?_
  refine x_iload (pc' := 108) rfl rfl rfl ?_
  refine x_aald (pc' := 109) (N := 6) (k' := 7) (r := (some x)) rfl rfl rfl (kN_26_0 hc.1) (io_in (p := x) (N := 6) hx (by decide)) (Eq.trans (congrArg (sE t 26 0) (nn_io (p := x) (Nat.lt_trans hx (by decide)))) (kM hc.1 hx)) ?_
  refine x_astore (pc' := 111) (ls' := [_, _, _, _, _, _, _, _, _, _, _, _, _, _]) rfl rfl rfl rfl rfl ?_
  refine x_aload (pc' := 113) rfl rfl rfl rfl rfl ?_
  refine x_gZ (pc' := 116) (z := (mB M 2 x)) rfl rfl rfl (kZ hM rfl hx) ?_
  refine x_ifeq_z (a' := 123) (pc' := 119) (z := (mB M 2 x)) rfl rfl rfl (fun q2 => ?_) (fun q2 => ?_)
  · refine x_lload (pc' := 125) rfl rfl rfl ?_
    refine x_aload (pc' := 127) rfl rfl rfl rfl rfl ?_
    refine x_gI (pc' := 130) (x := (mA M 7 x)) rfl rfl rfl (kA hM rfl hx) ?_
    refine x_i2l (pc' := 131) rfl rfl rfl ?_
    refine x_lmul (pc' := 132) rfl rfl rfl ?_
    refine x_lload_n (pc' := 133) rfl rfl rfl ?_
    refine x_ldiv (pc' := 134) rfl rfl hd0 rfl ?_
    refine x_lstore (pc' := 136) (ls' := [_, _, _, _, _, _, _, _, _, _, _, _, _, _]) rfl rfl rfl rfl ?_
    refine x_aload (pc' := 138) rfl rfl rfl rfl rfl ?_
    refine x_dup (pc' := 139) rfl rfl rfl ?_
    refine x_gI (pc' := 142) (x := (mA M 7 x)) rfl rfl rfl (kA hM rfl hx) ?_
    refine x_lload (pc' := 144) rfl rfl rfl ?_
    refine x_l2i (pc' := 145) rfl rfl rfl ?_
    refine x_isub (pc' := 146) (z := ((mA M 7 x) - (((h * (mA M 7 x).toInt64) / u).toInt32))) rfl rfl rfl ?_
    refine x_pI (pc' := 149) rfl rfl rfl ?_
    refine x_lload (pc' := 151) rfl rfl rfl ?_
    refine x_lload (pc' := 153) rfl rfl rfl ?_
    refine x_lsub (pc' := 154) rfl rfl rfl ?_
    refine x_lstore (pc' := 156) (ls' := [_, _, _, _, _, _, _, _, _, _, _, _, _, _]) rfl rfl rfl rfl ?_
    refine x_iinc (pc' := 159) (y := (io (x + 1))) (ls' := [_, _, _, _, _, _, _, _, _, _, _, _, _, _]) rfl rfl rfl (io_add x 1) rfl ?_
    refine x_goto (pc' := 97) rfl rfl ?_
    exact k0 q2
  · refine x_lconst (pc' := 120) rfl rfl rfl ?_
    refine x_goto (pc' := 134) rfl rfl ?_
    refine x_lstore (pc' := 136) (ls' := [_, _, _, _, _, _, _, _, _, _, _, _, _, _]) rfl rfl rfl rfl ?_
    refine x_aload (pc' := 138) rfl rfl rfl rfl rfl ?_
    refine x_dup (pc' := 139) rfl rfl rfl ?_
    refine x_gI (pc' := 142) (x := (mA M 7 x)) rfl rfl rfl (kA hM rfl hx) ?_
    refine x_lload (pc' := 144) rfl rfl rfl ?_
    refine x_l2i (pc' := 145) rfl rfl rfl ?_
    refine x_isub (pc' := 146) (z := ((mA M 7 x) - ((0 : Int64).toInt32))) rfl rfl rfl ?_
    refine x_pI (pc' := 149) rfl rfl rfl ?_
    refine x_lload (pc' := 151) rfl rfl rfl ?_
    refine x_lload (pc' := 153) rfl rfl rfl ?_
    refine x_lsub (pc' := 154) rfl rfl rfl ?_
    refine x_lstore (pc' := 156) (ls' := [_, _, _, _, _, _, _, _, _, _, _, _, _, _]) rfl rfl rfl rfl ?_
    refine x_iinc (pc' := 159) (y := (io (x + 1))) (ls' := [_, _, _, _, _, _, _, _, _, _, _, _, _, _]) rfl rfl rfl (io_add x 1) rfl ?_
    refine x_goto (pc' := 97) rfl rfl ?_
    exact k1 q2
set_option maxHeartbeats 4000000 in
set_option maxRecDepth 10000 in
theorem n24_t {t : sT} {Q : sRs → sT → Prop} {M : sM} {n : Nat} {T : Nat} {L0 : List Nat} {A : Nat} {B : Nat} {a : Int32} {u : Int64} {h : Int64} {g : Int64} {y0 : sV} {y1 : sV} {y2 : sV}
    (hW : Wc t M n T L0 A B)
    (k0 : X 25 0 [.inr (.inr (3, (some 0))), .inr (.inl g), sJk, sJk, sJk, sJk, sJk, sJk, sJk] [] t (sK 25 24 165 [.inr (.inr (3, (some 0))), .inl a, .inr (.inl u), sJk, .inr (.inl h), sJk, .inr (.inl g), sJk, .inr (.inr (26, (some 0))), .inl 6, .inl 6, y0, y1, y2] [] Q)) :
    X 24 97 [.inr (.inr (3, (some 0))), .inl a, .inr (.inl u), sJk, .inr (.inl h), sJk, .inr (.inl g), sJk, .inr (.inr (26, (some 0))), .inl 6, .inl 6, y0, y1, y2] [] t Q := by
  obtain ⟨hM, hc, hR, hC, hL, hL9⟩ := hW
  refine x_iload (pc' := 99) rfl rfl rfl ?_
  refine x_iload (pc' := 101) rfl rfl rfl ?_
  refine x_icmp (a' := 162) (pc' := 104) (z := true) rfl rfl rfl (by decide) (fun _ => ?_) (fun h => by cases h)
  refine x_aload_n (pc' := 163) rfl rfl rfl rfl rfl ?_
  refine x_lload (pc' := 165) rfl rfl rfl ?_
  refine x_cv (ls0 := [_, _, sJk, sJk, sJk, sJk, sJk, sJk, sJk]) (rest := []) rfl rfl rfl rfl rfl ?_
  exact k0
set_option maxHeartbeats 4000000 in
set_option maxRecDepth 10000 in
theorem n24_t2 {t : sT} {Q : sRs → sT → Prop} {M : sM} {n : Nat} {T : Nat} {L0 : List Nat} {A : Nat} {B : Nat} {a : Int32} {u : Int64} {h : Int64} {g : Int64} {y0 : sV} {y1 : sV} {y2 : sV} {y3 : sV}
    (hW : Wc t M n T L0 A B)
    (k0 : Q (.inl (some (.inl ((a.toInt64 - h).toInt32)))) t) :
    X 24 168 [.inr (.inr (3, (some 0))), .inl a, .inr (.inl u), sJk, .inr (.inl h), sJk, .inr (.inl g), sJk, .inr (.inr (26, (some 0))), .inl 6, y0, y1, y2, y3] [] t Q := by
  obtain ⟨hM, hc, hR, hC, hL, hL9⟩ := hW
  refine x_iload_n (pc' := 169) rfl rfl rfl ?_
  refine x_i2l (pc' := 170) rfl rfl rfl ?_
  refine x_lload (pc' := 172) rfl rfl rfl ?_
  refine x_lsub (pc' := 173) rfl rfl rfl ?_
  refine x_l2i (pc' := 174) rfl rfl rfl ?_
  refine x_reti rfl rfl ?_
  exact k0
set_option maxHeartbeats 4000000 in
set_option maxRecDepth 10000 in
theorem n25_0 {t : sT} {Q : sRs → sT → Prop} {M : sM} {n : Nat} {T : Nat} {L0 : List Nat} {A : Nat} {B : Nat} {u : Int64}
    (hW : Wc t M n T L0 A B)
    (k0 : X 25 19 [.inr (.inr (3, (some 0))), .inr (.inl u), sJk, .inr (.inl u), sJk, .inr (.inr (26, (some 0))), .inl 6, .inl 0, sJk] [] t Q) :
    X 25 0 [.inr (.inr (3, (some 0))), .inr (.inl u), sJk, sJk, sJk, sJk, sJk, sJk, sJk] [] t Q := by
  obtain ⟨hM, hc, hR, hC, hL, hL9⟩ := hW
  refine x_lload_n (pc' := 1) rfl rfl rfl ?_
  refine x_lstore_n (pc' := 2) (ls' := [_, _, _, _, _, _, _, _, _]) rfl rfl rfl rfl ?_
  refine x_aload_n (pc' := 3) rfl rfl rfl rfl rfl ?_
  refine x_gR (pc' := 6) (r := (some 0)) rfl rfl rfl (kR_192_0 hc.1) ?_
  refine x_gR (pc' := 9) (r := (some 0)) rfl rfl rfl (kR_321_0 hc.1) ?_
  refine x_astore (pc' := 11) (ls' := [_, _, _, _, _, _, _, _, _]) rfl rfl rfl rfl rfl ?_
  refine x_aload (pc' := 13) rfl rfl rfl rfl rfl ?_
  refine x_alen (pc' := 14) (N := 6) rfl rfl rfl (kN_26_0 hc.1) (?_ : X _ _ _ (.inl 6 :: _) _ _)
  refine x_istore (pc' := 16) (ls' := [_, _, _, _, _, _, _, _, _]) rfl rfl rfl rfl ?_
  refine x_iconst (pc' := 17) rfl rfl ?_
  refine x_istore (pc' := 19) (ls' := [_, _, _, _, _, _, _, _, _]) rfl rfl rfl rfl ?_
  exact k0
set_option maxHeartbeats 4000000 in
set_option maxRecDepth 10000 in
theorem n25_k {t : sT} {Q : sRs → sT → Prop} {M : sM} {n : Nat} {T : Nat} {L0 : List Nat} {A : Nat} {B : Nat} {x : Nat} {u : Int64} {g : Int64} {y0 : sV}
    (hW : Wc t M n T L0 A B)
    (hx : x < 6)
    (k0 : ¬ (0 < (sLcmp g (0 : Int64))) → X 25 19 [.inr (.inr (3, (some 0))), .inr (.inl u), sJk, .inr (.inl g), sJk, .inr (.inr (26, (some 0))), .inl 6, .inl (io (x + 1)), .inr (.inr (7, (some x)))] [] t Q)
    (k1 : 0 < (sLcmp g (0 : Int64)) → (mB M 2 x) = true → X 25 19 [.inr (.inr (3, (some 0))), .inr (.inl u), sJk, .inr (.inl g), sJk, .inr (.inr (26, (some 0))), .inl 6, .inl (io (x + 1)), .inr (.inr (7, (some x)))] [] t Q)
    (k2 : 0 < (sLcmp g (0 : Int64)) → (mB M 2 x) = false → ¬ (0 < (mA M 7 x)) → X 25 19 [.inr (.inr (3, (some 0))), .inr (.inl u), sJk, .inr (.inl g), sJk, .inr (.inr (26, (some 0))), .inl 6, .inl (io (x + 1)), .inr (.inr (7, (some x)))] [] t Q)
    (k3 : 0 < (sLcmp g (0 : Int64)) → (mB M 2 x) = false → 0 < (mA M 7 x) → X 25 19 [.inr (.inr (3, (some 0))), .inr (.inl u), sJk, .inr (.inl (g - (1 : Int64))), sJk, .inr (.inr (26, (some 0))), .inl 6, .inl (io (x + 1)), .inr (.inr (7, (some x)))] [] (sIw t 452 x ((mA M 7 x) - 1)) Q) :
    X 25 19 [.inr (.inr (3, (some 0))), .inr (.inl u), sJk, .inr (.inl g), sJk, .inr (.inr (26, (some 0))), .inl 6, .inl (io x), y0] [] t Q := by
  obtain ⟨hM, hc, hR, hC, hL, hL9⟩ := hW
  refine x_iload (pc' := 21) rfl rfl rfl ?_
  refine x_iload (pc' := 23) rfl rfl rfl ?_
  refine x_icmp_n (a' := 76) (pc' := 26) (z := decide (x < 6)) rfl rfl rfl (ic_gen (p := x) (q := 6) (gm31 hx) (by decide)) (fun h => absurd hx (of_decide_eq_false h)) (fun _ => ?_)
  refine x_aload (pc' := 28) rfl rfl rfl rfl rfl ?_
  refine x_iload (pc' := 30) rfl rfl rfl ?_
  refine x_aald (pc' := 31) (N := 6) (k' := 7) (r := (some x)) rfl rfl rfl (kN_26_0 hc.1) (io_in (p := x) (N := 6) hx (by decide)) (Eq.trans (congrArg (sE t 26 0) (nn_io (p := x) (Nat.lt_trans hx (by decide)))) (kM hc.1 hx)) ?_
  refine x_astore (pc' := 33) (ls' := [_, _, _, _, _, _, _, _, _]) rfl rfl rfl rfl rfl ?_
  refine x_lload_n (pc' := 34) rfl rfl rfl ?_
  refine x_lconst (pc' := 35) rfl rfl rfl ?_
  refine x_lcmp (pc' := 36) rfl rfl rfl ?_
  refine x_if_n (a' := 70) (pc' := 39) (z := decide (0 < (sLcmp g (0 : Int64)))) rfl rfl rfl (ik_le _ _) (fun q2 => ?_) (fun q2 => ?_)
  · refine x_iinc (pc' := 73) (y := (io (x + 1))) (ls' := [_, _, _, _, _, _, _, _, _]) rfl rfl rfl (io_add x 1) rfl ?_
    refine x_goto (pc' := 19) rfl rfl ?_
    exact k0 (of_decide_eq_false q2)
  · refine x_aload (pc' := 41) rfl rfl rfl rfl rfl ?_
    refine x_gZ (pc' := 44) (z := (mB M 2 x)) rfl rfl rfl (kZ hM rfl hx) ?_
    refine x_ifne_z (a' := 70) (pc' := 47) (z := (mB M 2 x)) rfl rfl rfl (fun q3 => ?_) (fun q3 => ?_)
    · refine x_iinc (pc' := 73) (y := (io (x + 1))) (ls' := [_, _, _, _, _, _, _, _, _]) rfl rfl rfl (io_add x 1) rfl ?_
      refine x_goto (pc' := 19) rfl rfl ?_
      exact k1 (of_decide_eq_true q2) q3
    · refine x_aload (pc' := 49) rfl rfl rfl rfl rfl ?_
      refine x_gI (pc' := 52) (x := (mA M 7 x)) rfl rfl rfl (kA hM rfl hx) ?_
      refine x_if_n (a' := 70) (pc' := 55) (z := decide (0 < (mA M 7 x))) rfl rfl rfl (ik_le _ _) (fun q4 => ?_) (fun q4 => ?_)
      · refine x_iinc (pc' := 73) (y := (io (x + 1))) (ls' := [_, _, _, _, _, _, _, _, _]) rfl rfl rfl (io_add x 1) rfl ?_
        refine x_goto (pc' := 19) rfl rfl ?_
        exact k2 (of_decide_eq_true q2) q3 (of_decide_eq_false q4)
      · refine x_aload (pc' := 57) rfl rfl rfl rfl rfl ?_
        refine x_dup (pc' := 58) rfl rfl rfl ?_
        refine x_gI (pc' := 61) (x := (mA M 7 x)) rfl rfl rfl (kA hM rfl hx) ?_
        refine x_iconst (pc' := 62) rfl rfl ?_
        refine x_isub (pc' := 63) (z := ((mA M 7 x) - 1)) rfl rfl rfl ?_
        refine x_pI (pc' := 66) rfl rfl rfl ?_
        refine x_lload_n (pc' := 67) rfl rfl rfl ?_
        refine x_lconst (pc' := 68) rfl rfl rfl ?_
        refine x_lsub (pc' := 69) rfl rfl rfl ?_
        refine x_lstore_n (pc' := 70) (ls' := [_, _, _, _, _, _, _, _, _]) rfl rfl rfl rfl ?_
        refine x_iinc (pc' := 73) (y := (io (x + 1))) (ls' := [_, _, _, _, _, _, _, _, _]) rfl rfl rfl (io_add x 1) rfl ?_
        refine x_goto (pc' := 19) rfl rfl ?_
        exact k3 (of_decide_eq_true q2) q3 (of_decide_eq_true q4)
set_option maxHeartbeats 4000000 in
set_option maxRecDepth 10000 in
theorem n25_e {t : sT} {Q : sRs → sT → Prop} {M : sM} {n : Nat} {T : Nat} {L0 : List Nat} {A : Nat} {B : Nat} {u : Int64} {g : Int64} {y0 : sV}
    (hW : Wc t M n T L0 A B)
    (k0 : Q (.inl none) t) :
    X 25 19 [.inr (.inr (3, (some 0))), .inr (.inl u), sJk, .inr (.inl g), sJk, .inr (.inr (26, (some 0))), .inl 6, .inl 6, y0] [] t Q := by
  obtain ⟨hM, hc, hR, hC, hL, hL9⟩ := hW
  refine x_iload (pc' := 21) rfl rfl rfl ?_
  refine x_iload (pc' := 23) rfl rfl rfl ?_
  refine x_icmp (a' := 76) (pc' := 26) (z := true) rfl rfl rfl (by decide) (fun _ => ?_) (fun h => by cases h)
  refine x_ret rfl ?_
  exact k0
set_option maxHeartbeats 4000000 in
set_option maxRecDepth 10000 in
theorem r215_0 {t : sT} {Q : sRs → sT → Prop} {M : sM} {n : Nat} {m : Nat} {c : Nat}
    (hV : Vr t M n)
    (hm : m < 6)
    (hc3 : c < 3)
    (g0 : ((3 * m) + c) < 18)
    (k0 : X 215 20 [.inr (.inr (12, (some 0))), .inl (io c), .inl (io m), .inl (mA M 6 ((3 * m) + c)), .inl 0, .inl 0, .inl 0, sJk] [] t Q) :
    X 215 0 [.inr (.inr (12, (some 0))), .inl (io c), .inl (io m), sJk, sJk, sJk, sJk, sJk] [] t Q := by
  obtain ⟨hM, hc, hR⟩ := hV
  refine x_aload_n (pc' := 1) rfl rfl rfl rfl rfl ?_
  refine x_gR (pc' := 4) (r := (some 6)) rfl rfl rfl (kR_776_0 hc) ?_
  refine x_iconst (pc' := 5) rfl rfl ?_
  refine x_iload_n (pc' := 6) rfl rfl rfl ?_
  refine x_imul (pc' := 7) (z := (io (3 * m))) rfl rfl (io_mul 3 m) ?_
  refine x_iload_n (pc' := 8) rfl rfl rfl ?_
  refine x_iadd (pc' := 9) (z := (io ((3 * m) + c))) rfl rfl (io_add (3 * m) c) ?_
  refine x_iald (pc' := 10) (N := 18) (x := (mA M 6 ((3 * m) + c))) rfl rfl rfl (kN_21_6 hc) (io_in (p := ((3 * m) + c)) (N := 18) g0 (by decide)) (Eq.trans (congrArg (sA t 21 6) (nn_io (p := ((3 * m) + c)) (Nat.lt_trans g0 (by decide)))) (gA hM rfl)) ?_
  refine x_istore_n (pc' := 11) (ls' := [_, _, _, _, _, _, _, _]) rfl rfl rfl rfl ?_
  refine x_iconst (pc' := 12) rfl rfl ?_
  refine x_istore (pc' := 14) (ls' := [_, _, _, _, _, _, _, _]) rfl rfl rfl rfl ?_
  refine x_iconst (pc' := 15) rfl rfl ?_
  refine x_istore (pc' := 17) (ls' := [_, _, _, _, _, _, _, _]) rfl rfl rfl rfl ?_
  refine x_iconst (pc' := 18) rfl rfl ?_
  refine x_istore (pc' := 20) (ls' := [_, _, _, _, _, _, _, _]) rfl rfl rfl rfl ?_
  exact k0
set_option maxHeartbeats 4000000 in
set_option maxRecDepth 10000 in
theorem r215_k {t : sT} {Q : sRs → sT → Prop} {M : sM} {n : Nat} {m : Nat} {c : Nat} {x : Nat} {a : Int32} {d : Int32} {h : Int32} {y0 : sV}
    (hV : Vr t M n)
    (hm : m < 6)
    (hc3 : c < 3)
    (hx : x < 6)
    (k0 : X 216 0 [.inr (.inr (12, (some 0))), .inl (io c), .inl (io x), .inl a, sJk] [] t (sK 216 215 34 [.inr (.inr (12, (some 0))), .inl (io c), .inl (io m), .inl a, .inl d, .inl h, .inl (io x), y0] [.inl d] Q)) :
    X 215 20 [.inr (.inr (12, (some 0))), .inl (io c), .inl (io m), .inl a, .inl d, .inl h, .inl (io x), y0] [] t Q := by
  obtain ⟨hM, hc, hR⟩ := hV
  refine x_iload (pc' := 22) rfl rfl rfl ?_
  refine x_bipush (pc' := 24) rfl rfl ?_
  refine x_icmp_n (a' := 46) (pc' := 27) (z := decide (x < 6)) rfl rfl rfl (ic_gen (p := x) (q := 6) (gm31 hx) (by decide)) (fun h => absurd hx (of_decide_eq_false h)) (fun _ => ?_)
  refine x_iload (pc' := 29) rfl rfl rfl ?_
  refine x_aload_n (pc' := 30) rfl rfl rfl rfl rfl ?_
  refine x_iload_n (pc' := 31) rfl rfl rfl ?_
  refine x_iload (pc' := 33) rfl rfl rfl ?_
  refine x_iload_n (pc' := 34) rfl rfl rfl ?_
  refine x_cv (ls0 := [_, _, _, _, sJk]) (rest := [_]) rfl rfl rfl rfl rfl ?_
  exact k0
set_option maxHeartbeats 4000000 in
set_option maxRecDepth 10000 in
theorem r215_k2 {t : sT} {Q : sRs → sT → Prop} {M : sM} {n : Nat} {m : Nat} {c : Nat} {x : Nat} {a : Int32} {d : Int32} {h : Int32} {p : Int32} {y0 : sV}
    (hV : Vr t M n)
    (hm : m < 6)
    (hc3 : c < 3)
    (hx : x < 6)
    (k0 : X 215 20 [.inr (.inr (12, (some 0))), .inl (io c), .inl (io m), .inl a, .inl (d + p), .inl h, .inl (io (x + 1)), y0] [] t Q) :
    X 215 37 [.inr (.inr (12, (some 0))), .inl (io c), .inl (io m), .inl a, .inl d, .inl h, .inl (io x), y0] [.inl p, .inl d] t Q := by
  obtain ⟨hM, hc, hR⟩ := hV
  refine x_iadd (pc' := 38) (z := (d + p)) rfl rfl rfl ?_
  refine x_istore (pc' := 40) (ls' := [_, _, _, _, _, _, _, _]) rfl rfl rfl rfl ?_
  refine x_iinc (pc' := 43) (y := (io (x + 1))) (ls' := [_, _, _, _, _, _, _, _]) rfl rfl rfl (io_add x 1) rfl ?_
  refine x_goto (pc' := 20) rfl rfl ?_
  exact k0
set_option maxHeartbeats 4000000 in
set_option maxRecDepth 10000 in
theorem r215_e {t : sT} {Q : sRs → sT → Prop} {M : sM} {n : Nat} {m : Nat} {c : Nat} {a : Int32} {d : Int32} {h : Int32} {y0 : sV}
    (hV : Vr t M n)
    (hm : m < 6)
    (hc3 : c < 3)
    (k0 : X 215 49 [.inr (.inr (12, (some 0))), .inl (io c), .inl (io m), .inl a, .inl d, .inl h, .inl 0, y0] [] t Q) :
    X 215 20 [.inr (.inr (12, (some 0))), .inl (io c), .inl (io m), .inl a, .inl d, .inl h, .inl 6, y0] [] t Q := by
  obtain ⟨hM, hc, hR⟩ := hV
  refine x_iload (pc' := 22) rfl rfl rfl ?_
  refine x_bipush (pc' := 24) rfl rfl ?_
  refine x_icmp (a' := 46) (pc' := 27) (z := true) rfl rfl rfl (by decide) (fun _ => ?_) (fun h => by cases h)
  refine x_iconst (pc' := 47) rfl rfl ?_
  refine x_istore (pc' := 49) (ls' := [_, _, _, _, _, _, _, _]) rfl rfl rfl rfl ?_
  exact k0
set_option maxHeartbeats 4000000 in
set_option maxRecDepth 10000 in
theorem r215_s {t : sT} {Q : sRs → sT → Prop} {M : sM} {n : Nat} {m : Nat} {c : Nat} {x : Nat} {a : Int32} {d : Int32} {h : Int32} {y0 : sV}
    (hV : Vr t M n)
    (hm : m < 6)
    (hc3 : c < 3)
    (hx : x < 6)
    (k0 : a = 0 → X 215 108 [.inr (.inr (12, (some 0))), .inl (io c), .inl (io m), .inl a, .inl d, .inl h, .inl 0, y0] [] t Q)
    (k1 : ¬ (a = 0) → X 216 0 [.inr (.inr (12, (some 0))), .inl (io c), .inl (io x), .inl a, sJk] [] t (sK 216 215 71 [.inr (.inr (12, (some 0))), .inl (io c), .inl (io m), .inl a, .inl d, .inl h, .inl (io x), y0] [.inl (io x), .inr (.inr (21, (some 28)))] Q)) :
    X 215 49 [.inr (.inr (12, (some 0))), .inl (io c), .inl (io m), .inl a, .inl d, .inl h, .inl (io x), y0] [] t Q := by
  obtain ⟨hM, hc, hR⟩ := hV
  refine x_iload (pc' := 51) rfl rfl rfl ?_
  refine x_bipush (pc' := 53) rfl rfl ?_
  refine x_icmp_n (a' := 105) (pc' := 56) (z := decide (x < 6)) rfl rfl rfl (ic_gen (p := x) (q := 6) (gm31 hx) (by decide)) (fun h => absurd hx (of_decide_eq_false h)) (fun _ => ?_)
  refine x_iload_n (pc' := 57) rfl rfl rfl ?_
  refine x_if (a' := 105) (pc' := 60) (z := decide (a = 0)) rfl rfl rfl rfl (fun q2 => ?_) (fun q2 => ?_)
  · refine x_iconst (pc' := 106) rfl rfl ?_
    refine x_istore (pc' := 108) (ls' := [_, _, _, _, _, _, _, _]) rfl rfl rfl rfl ?_
    exact k0 (of_decide_eq_true q2)
  · refine x_aload_n (pc' := 61) rfl rfl rfl rfl rfl ?_
    refine x_gR (pc' := 64) (r := (some 28)) rfl rfl rfl (kR_810_0 hc) ?_
    refine x_iload (pc' := 66) rfl rfl rfl ?_
    refine x_aload_n (pc' := 67) rfl rfl rfl rfl rfl ?_
    refine x_iload_n (pc' := 68) rfl rfl rfl ?_
    refine x_iload (pc' := 70) rfl rfl rfl ?_
    refine x_iload_n (pc' := 71) rfl rfl rfl ?_
    refine x_cv (ls0 := [_, _, _, _, sJk]) (rest := [_, _]) rfl rfl rfl rfl rfl ?_
    exact k1 (of_decide_eq_false q2)
set_option maxHeartbeats 4000000 in
set_option maxRecDepth 10000 in
theorem r215_s2 {t : sT} {Q : sRs → sT → Prop} {M : sM} {n : Nat} {m : Nat} {c : Nat} {x : Nat} {a : Int32} {d : Int32} {h : Int32} {p : Int32} {y0 : sV}
    (hV : Vr t M n)
    (hm : m < 6)
    (hc3 : c < 3)
    (hx : x < 6)
    (hd0 : ¬ d.toInt64 = 0)
    (k0 : ¬ (a < 0) → X 215 49 [.inr (.inr (12, (some 0))), .inl (io c), .inl (io m), .inl a, .inl d, .inl (h + (((p.toInt64 * a.toInt64) / d.toInt64).toInt32)), .inl (io (x + 1)), y0] [] (sAw t 21 28 x (((p.toInt64 * a.toInt64) / d.toInt64).toInt32)) Q)
    (k1 : a < 0 → X 215 49 [.inr (.inr (12, (some 0))), .inl (io c), .inl (io m), .inl a, .inl d, .inl (h + (((p.toInt64 * (-a).toInt64) / d.toInt64).toInt32)), .inl (io (x + 1)), y0] [] (sAw t 21 28 x (((p.toInt64 * (-a).toInt64) / d.toInt64).toInt32)) Q) :
    X 215 74 [.inr (.inr (12, (some 0))), .inl (io c), .inl (io m), .inl a, .inl d, .inl h, .inl (io x), y0] [.inl p, .inl (io x), .inr (.inr (21, (some 28)))] t Q := by
  obtain ⟨hM, hc, hR⟩ := hV
  refine x_i2l (pc' := 75) rfl rfl rfl ?_
  refine x_iload_n (pc' := 76) rfl rfl rfl ?_
  refine x_cs (ls0 := [_]) (rest := [_, _, _]) rfl rfl rfl rfl ?_
  refine x_iload_n (pc' := 1) rfl rfl rfl ?_
  refine x_if_n (a' := 9) (pc' := 4) (z := decide (a < 0)) rfl rfl rfl (ik_ge _ _) (fun q1 => ?_) (fun q1 => ?_)
  · refine x_iload_n (pc' := 10) rfl rfl rfl ?_
    refine x_reti rfl rfl ?_
    refine sK_i (pc' := 79) rfl ?_
    refine x_i2l (pc' := 80) rfl rfl rfl ?_
    refine x_lmul (pc' := 81) rfl rfl rfl ?_
    refine x_iload (pc' := 83) rfl rfl rfl ?_
    refine x_i2l (pc' := 84) rfl rfl rfl ?_
    refine x_ldiv (pc' := 85) rfl rfl hd0 rfl ?_
    refine x_l2i (pc' := 86) rfl rfl rfl ?_
    refine x_iast (pc' := 87) (N := 200) (p := x) rfl rfl rfl (kN_21_28 hc) (io_in (p := x) (N := 200) (show x < 200 by omega) (by decide)) (nn_io (p := x) (Nat.lt_trans (show x < 200 by omega) (by decide))) ?_
    refine x_iload (pc' := 89) rfl rfl rfl ?_
    refine x_aload_n (pc' := 90) rfl rfl rfl rfl rfl ?_
    refine x_gR (pc' := 93) (r := (some 28)) rfl rfl rfl (Eq.trans (b := sR t 810 0) rfl (kR_810_0 hc)) ?_
    refine x_iload (pc' := 95) rfl rfl rfl ?_
    refine x_iald (pc' := 96) (N := 200) (x := (((p.toInt64 * a.toInt64) / d.toInt64).toInt32)) rfl rfl rfl (Eq.trans rdNA (kN_21_28 hc)) (io_in (p := x) (N := 200) (show x < 200 by omega) (by decide)) (Eq.trans (congrArg (sA (sAw t 21 28 x (((p.toInt64 * a.toInt64) / d.toInt64).toInt32)) 21 28) (nn_io (p := x) (Nat.lt_trans (show x < 200 by omega) (by decide)))) sA_s) ?_
    refine x_iadd (pc' := 97) (z := (h + (((p.toInt64 * a.toInt64) / d.toInt64).toInt32))) rfl rfl rfl ?_
    refine x_istore (pc' := 99) (ls' := [_, _, _, _, _, _, _, _]) rfl rfl rfl rfl ?_
    refine x_iinc (pc' := 102) (y := (io (x + 1))) (ls' := [_, _, _, _, _, _, _, _]) rfl rfl rfl (io_add x 1) rfl ?_
    refine x_goto (pc' := 49) rfl rfl ?_
    exact k0 (of_decide_eq_false q1)
  · refine x_iload_n (pc' := 5) rfl rfl rfl ?_
    refine x_ineg (pc' := 6) rfl rfl rfl ?_
    refine x_goto (pc' := 10) rfl rfl ?_
    refine x_reti rfl rfl ?_
    refine sK_i (pc' := 79) rfl ?_
    refine x_i2l (pc' := 80) rfl rfl rfl ?_
    refine x_lmul (pc' := 81) rfl rfl rfl ?_
    refine x_iload (pc' := 83) rfl rfl rfl ?_
    refine x_i2l (pc' := 84) rfl rfl rfl ?_
    refine x_ldiv (pc' := 85) rfl rfl hd0 rfl ?_
    refine x_l2i (pc' := 86) rfl rfl rfl ?_
    refine x_iast (pc' := 87) (N := 200) (p := x) rfl rfl rfl (kN_21_28 hc) (io_in (p := x) (N := 200) (show x < 200 by omega) (by decide)) (nn_io (p := x) (Nat.lt_trans (show x < 200 by omega) (by decide))) ?_
    refine x_iload (pc' := 89) rfl rfl rfl ?_
    refine x_aload_n (pc' := 90) rfl rfl rfl rfl rfl ?_
    refine x_gR (pc' := 93) (r := (some 28)) rfl rfl rfl (Eq.trans (b := sR t 810 0) rfl (kR_810_0 hc)) ?_
    refine x_iload (pc' := 95) rfl rfl rfl ?_
    refine x_iald (pc' := 96) (N := 200) (x := (((p.toInt64 * (-a).toInt64) / d.toInt64).toInt32)) rfl rfl rfl (Eq.trans rdNA (kN_21_28 hc)) (io_in (p := x) (N := 200) (show x < 200 by omega) (by decide)) (Eq.trans (congrArg (sA (sAw t 21 28 x (((p.toInt64 * (-a).toInt64) / d.toInt64).toInt32)) 21 28) (nn_io (p := x) (Nat.lt_trans (show x < 200 by omega) (by decide)))) sA_s) ?_
    refine x_iadd (pc' := 97) (z := (h + (((p.toInt64 * (-a).toInt64) / d.toInt64).toInt32))) rfl rfl rfl ?_
    refine x_istore (pc' := 99) (ls' := [_, _, _, _, _, _, _, _]) rfl rfl rfl rfl ?_
    refine x_iinc (pc' := 102) (y := (io (x + 1))) (ls' := [_, _, _, _, _, _, _, _]) rfl rfl rfl (io_add x 1) rfl ?_
    refine x_goto (pc' := 49) rfl rfl ?_
    exact k1 (of_decide_eq_true q1)
set_option maxHeartbeats 4000000 in
set_option maxRecDepth 10000 in
theorem r215_t {t : sT} {Q : sRs → sT → Prop} {M : sM} {n : Nat} {m : Nat} {c : Nat} {a : Int32} {d : Int32} {h : Int32} {y0 : sV}
    (hV : Vr t M n)
    (hm : m < 6)
    (hc3 : c < 3)
    (k0 : X 215 108 [.inr (.inr (12, (some 0))), .inl (io c), .inl (io m), .inl a, .inl d, .inl h, .inl 0, y0] [] t Q) :
    X 215 49 [.inr (.inr (12, (some 0))), .inl (io c), .inl (io m), .inl a, .inl d, .inl h, .inl 6, y0] [] t Q := by
  obtain ⟨hM, hc, hR⟩ := hV
  refine x_iload (pc' := 51) rfl rfl rfl ?_
  refine x_bipush (pc' := 53) rfl rfl ?_
  refine x_icmp (a' := 105) (pc' := 56) (z := true) rfl rfl rfl (by decide) (fun _ => ?_) (fun h => by cases h)
  refine x_iconst (pc' := 106) rfl rfl ?_
  refine x_istore (pc' := 108) (ls' := [_, _, _, _, _, _, _, _]) rfl rfl rfl rfl ?_
  exact k0
set_option maxHeartbeats 4000000 in
set_option maxRecDepth 10000 in
theorem r215_u {t : sT} {Q : sRs → sT → Prop} {M : sM} {n : Nat} {m : Nat} {c : Nat} {x : Nat} {a : Int32} {d : Int32} {h : Int32} {y0 : sV}
    (hV : Vr t M n)
    (hm : m < 6)
    (hc3 : c < 3)
    (hx : x < 6)
    (k0 : ¬ (a < 0) → ¬ (h < a) → X 215 176 [.inr (.inr (12, (some 0))), .inl (io c), .inl (io m), .inl a, .inl d, .inl h, .inl 0, y0] [] t Q)
    (k1 : ¬ (a < 0) → h < a → X 216 0 [.inr (.inr (12, (some 0))), .inl (io c), .inl (io x), .inl a, sJk] [] t (sK 216 215 122 [.inr (.inr (12, (some 0))), .inl (io c), .inl (io m), .inl a, .inl d, .inl h, .inl (io x), y0] [] Q))
    (k2 : a < 0 → ¬ (h < (-a)) → X 215 176 [.inr (.inr (12, (some 0))), .inl (io c), .inl (io m), .inl a, .inl d, .inl h, .inl 0, y0] [] t Q)
    (k3 : a < 0 → h < (-a) → X 216 0 [.inr (.inr (12, (some 0))), .inl (io c), .inl (io x), .inl a, sJk] [] t (sK 216 215 122 [.inr (.inr (12, (some 0))), .inl (io c), .inl (io m), .inl a, .inl d, .inl h, .inl (io x), y0] [] Q)) :
    X 215 108 [.inr (.inr (12, (some 0))), .inl (io c), .inl (io m), .inl a, .inl d, .inl h, .inl (io x), y0] [] t Q := by
  obtain ⟨hM, hc, hR⟩ := hV
  refine x_iload (pc' := 110) rfl rfl rfl ?_
  refine x_iload_n (pc' := 111) rfl rfl rfl ?_
  refine x_cs (ls0 := [_]) (rest := [_]) rfl rfl rfl rfl ?_
  refine x_iload_n (pc' := 1) rfl rfl rfl ?_
  refine x_if_n (a' := 9) (pc' := 4) (z := decide (a < 0)) rfl rfl rfl (ik_ge _ _) (fun q1 => ?_) (fun q1 => ?_)
  · refine x_iload_n (pc' := 10) rfl rfl rfl ?_
    refine x_reti rfl rfl ?_
    refine sK_i (pc' := 114) rfl ?_
    refine x_icmp_n (a' := 173) (pc' := 117) (z := decide (h < a)) rfl rfl rfl (ik_ge _ _) (fun q2 => ?_) (fun q2 => ?_)
    · refine x_iconst (pc' := 174) rfl rfl ?_
      refine x_istore (pc' := 176) (ls' := [_, _, _, _, _, _, _, _]) rfl rfl rfl rfl ?_
      exact k0 (of_decide_eq_false q1) (of_decide_eq_false q2)
    · refine x_aload_n (pc' := 118) rfl rfl rfl rfl rfl ?_
      refine x_iload_n (pc' := 119) rfl rfl rfl ?_
      refine x_iload (pc' := 121) rfl rfl rfl ?_
      refine x_iload_n (pc' := 122) rfl rfl rfl ?_
      refine x_cv (ls0 := [_, _, _, _, sJk]) (rest := []) rfl rfl rfl rfl rfl ?_
      exact k1 (of_decide_eq_false q1) (of_decide_eq_true q2)
  · refine x_iload_n (pc' := 5) rfl rfl rfl ?_
    refine x_ineg (pc' := 6) rfl rfl rfl ?_
    refine x_goto (pc' := 10) rfl rfl ?_
    refine x_reti rfl rfl ?_
    refine sK_i (pc' := 114) rfl ?_
    refine x_icmp_n (a' := 173) (pc' := 117) (z := decide (h < (-a))) rfl rfl rfl (ik_ge _ _) (fun q3 => ?_) (fun q3 => ?_)
    · refine x_iconst (pc' := 174) rfl rfl ?_
      refine x_istore (pc' := 176) (ls' := [_, _, _, _, _, _, _, _]) rfl rfl rfl rfl ?_
      exact k2 (of_decide_eq_true q1) (of_decide_eq_false q3)
    · refine x_aload_n (pc' := 118) rfl rfl rfl rfl rfl ?_
      refine x_iload_n (pc' := 119) rfl rfl rfl ?_
      refine x_iload (pc' := 121) rfl rfl rfl ?_
      refine x_iload_n (pc' := 122) rfl rfl rfl ?_
      refine x_cv (ls0 := [_, _, _, _, sJk]) (rest := []) rfl rfl rfl rfl rfl ?_
      exact k3 (of_decide_eq_true q1) (of_decide_eq_true q3)
set_option maxHeartbeats 4000000 in
set_option maxRecDepth 10000 in
theorem r215_u2 {t : sT} {Q : sRs → sT → Prop} {M : sM} {n : Nat} {m : Nat} {c : Nat} {x : Nat} {a : Int32} {d : Int32} {h : Int32} {p : Int32} {y0 : sV}
    (hV : Vr t M n)
    (hm : m < 6)
    (hc3 : c < 3)
    (hx : x < 6)
    (k0 : ¬ ((sA t 21 28 x) < p) → X 215 108 [.inr (.inr (12, (some 0))), .inl (io c), .inl (io m), .inl a, .inl d, .inl (h + 0), .inl ((io (x + 1)) - (io (x + 1)) / 6 * 6), .inl 0] [] (sAw t 21 28 x ((sA t 21 28 x) + 0)) Q)
    (k1 : (sA t 21 28 x) < p → X 215 108 [.inr (.inr (12, (some 0))), .inl (io c), .inl (io m), .inl a, .inl d, .inl (h + 1), .inl ((io (x + 1)) - (io (x + 1)) / 6 * 6), .inl 1] [] (sAw t 21 28 x ((sA t 21 28 x) + 1)) Q) :
    X 215 125 [.inr (.inr (12, (some 0))), .inl (io c), .inl (io m), .inl a, .inl d, .inl h, .inl (io x), y0] [.inl p] t Q := by
  obtain ⟨hM, hc, hR⟩ := hV
  refine x_aload_n (pc' := 126) rfl rfl rfl rfl rfl ?_
  refine x_gR (pc' := 129) (r := (some 28)) rfl rfl rfl (kR_810_0 hc) ?_
  refine x_iload (pc' := 131) rfl rfl rfl ?_
  refine x_iald (pc' := 132) (N := 200) (x := (sA t 21 28 x)) rfl rfl rfl (kN_21_28 hc) (io_in (p := x) (N := 200) (show x < 200 by omega) (by decide)) (Eq.trans (congrArg (sA t 21 28) (nn_io (p := x) (Nat.lt_trans (show x < 200 by omega) (by decide)))) rfl) ?_
  refine x_icmp_n (a' := 139) (pc' := 135) (z := decide ((sA t 21 28 x) < p)) rfl rfl rfl (ik_le _ _) (fun q1 => ?_) (fun q1 => ?_)
  · refine x_iconst (pc' := 140) rfl rfl ?_
    refine x_istore (pc' := 142) (ls' := [_, _, _, _, _, _, _, _]) rfl rfl rfl rfl ?_
    refine x_aload_n (pc' := 143) rfl rfl rfl rfl rfl ?_
    refine x_gR (pc' := 146) (r := (some 28)) rfl rfl rfl (kR_810_0 hc) ?_
    refine x_iload (pc' := 148) rfl rfl rfl ?_
    refine x_dup2 (pc' := 149) rfl rfl rfl rfl ?_
    refine x_iald (pc' := 150) (N := 200) (x := (sA t 21 28 x)) rfl rfl rfl (kN_21_28 hc) (io_in (p := x) (N := 200) (show x < 200 by omega) (by decide)) (Eq.trans (congrArg (sA t 21 28) (nn_io (p := x) (Nat.lt_trans (show x < 200 by omega) (by decide)))) rfl) ?_
    refine x_iload (pc' := 152) rfl rfl rfl ?_
    refine x_iadd (pc' := 153) (z := ((sA t 21 28 x) + 0)) rfl rfl rfl ?_
    refine x_iast (pc' := 154) (N := 200) (p := x) rfl rfl rfl (kN_21_28 hc) (io_in (p := x) (N := 200) (show x < 200 by omega) (by decide)) (nn_io (p := x) (Nat.lt_trans (show x < 200 by omega) (by decide))) ?_
    refine x_iload (pc' := 156) rfl rfl rfl ?_
    refine x_iload (pc' := 158) rfl rfl rfl ?_
    refine x_iadd (pc' := 159) (z := (h + 0)) rfl rfl rfl ?_
    refine x_istore (pc' := 161) (ls' := [_, _, _, _, _, _, _, _]) rfl rfl rfl rfl ?_
    refine x_iload (pc' := 163) rfl rfl rfl ?_
    refine x_iconst (pc' := 164) rfl rfl ?_
    refine x_iadd (pc' := 165) (z := (io (x + 1))) rfl rfl (io_add x 1) ?_
    refine x_bipush (pc' := 167) rfl rfl ?_
    refine x_irem (pc' := 168) (z := ((io (x + 1)) - (io (x + 1)) / 6 * 6)) rfl rfl (by decide) rfl ?_
    refine x_istore (pc' := 170) (ls' := [_, _, _, _, _, _, _, _]) rfl rfl rfl rfl ?_
    refine x_goto (pc' := 108) rfl rfl ?_
    exact k0 (of_decide_eq_false q1)
  · refine x_iconst (pc' := 136) rfl rfl ?_
    refine x_goto (pc' := 140) rfl rfl ?_
    refine x_istore (pc' := 142) (ls' := [_, _, _, _, _, _, _, _]) rfl rfl rfl rfl ?_
    refine x_aload_n (pc' := 143) rfl rfl rfl rfl rfl ?_
    refine x_gR (pc' := 146) (r := (some 28)) rfl rfl rfl (kR_810_0 hc) ?_
    refine x_iload (pc' := 148) rfl rfl rfl ?_
    refine x_dup2 (pc' := 149) rfl rfl rfl rfl ?_
    refine x_iald (pc' := 150) (N := 200) (x := (sA t 21 28 x)) rfl rfl rfl (kN_21_28 hc) (io_in (p := x) (N := 200) (show x < 200 by omega) (by decide)) (Eq.trans (congrArg (sA t 21 28) (nn_io (p := x) (Nat.lt_trans (show x < 200 by omega) (by decide)))) rfl) ?_
    refine x_iload (pc' := 152) rfl rfl rfl ?_
    refine x_iadd (pc' := 153) (z := ((sA t 21 28 x) + 1)) rfl rfl rfl ?_
    refine x_iast (pc' := 154) (N := 200) (p := x) rfl rfl rfl (kN_21_28 hc) (io_in (p := x) (N := 200) (show x < 200 by omega) (by decide)) (nn_io (p := x) (Nat.lt_trans (show x < 200 by omega) (by decide))) ?_
    refine x_iload (pc' := 156) rfl rfl rfl ?_
    refine x_iload (pc' := 158) rfl rfl rfl ?_
    refine x_iadd (pc' := 159) (z := (h + 1)) rfl rfl rfl ?_
    refine x_istore (pc' := 161) (ls' := [_, _, _, _, _, _, _, _]) rfl rfl rfl rfl ?_
    refine x_iload (pc' := 163) rfl rfl rfl ?_
    refine x_iconst (pc' := 164) rfl rfl ?_
    refine x_iadd (pc' := 165) (z := (io (x + 1))) rfl rfl (io_add x 1) ?_
    refine x_bipush (pc' := 167) rfl rfl ?_
    refine x_irem (pc' := 168) (z := ((io (x + 1)) - (io (x + 1)) / 6 * 6)) rfl rfl (by decide) rfl ?_
    refine x_istore (pc' := 170) (ls' := [_, _, _, _, _, _, _, _]) rfl rfl rfl rfl ?_
    refine x_goto (pc' := 108) rfl rfl ?_
    exact k1 (of_decide_eq_true q1)
set_option maxHeartbeats 4000000 in
set_option maxRecDepth 10000 in
theorem r215_p {t : sT} {Q : sRs → sT → Prop} {M : sM} {n : Nat} {m : Nat} {c : Nat} {x : Nat} {a : Int32} {d : Int32} {h : Int32} {y0 : sV}
    (hV : Vr t M n)
    (hm : m < 6)
    (hc3 : c < 3)
    (hx : x < 6)
    (k0 : a = 0 → Q (.inl none) t)
    (k1 : ¬ (a = 0) → ¬ (0 < (sA t 21 28 x)) → X 215 176 [.inr (.inr (12, (some 0))), .inl (io c), .inl (io m), .inl a, .inl d, .inl h, .inl (io (x + 1)), y0] [] t Q)
    (k2 : ¬ (a = 0) → 0 < (sA t 21 28 x) → X 214 0 [.inr (.inr (12, (some 0))), .inl (io c), .inl (io m), .inl (io x), .inl (sA t 21 28 x), sJk] [] t (sK 214 215 209 [.inr (.inr (12, (some 0))), .inl (io c), .inl (io m), .inl a, .inl d, .inl h, .inl (io x), y0] [] Q)) :
    X 215 176 [.inr (.inr (12, (some 0))), .inl (io c), .inl (io m), .inl a, .inl d, .inl h, .inl (io x), y0] [] t Q := by
  obtain ⟨hM, hc, hR⟩ := hV
  refine x_iload (pc' := 178) rfl rfl rfl ?_
  refine x_bipush (pc' := 180) rfl rfl ?_
  refine x_icmp_n (a' := 218) (pc' := 183) (z := decide (x < 6)) rfl rfl rfl (ic_gen (p := x) (q := 6) (gm31 hx) (by decide)) (fun h => absurd hx (of_decide_eq_false h)) (fun _ => ?_)
  refine x_iload_n (pc' := 184) rfl rfl rfl ?_
  refine x_if (a' := 218) (pc' := 187) (z := decide (a = 0)) rfl rfl rfl rfl (fun q2 => ?_) (fun q2 => ?_)
  · refine x_ret rfl ?_
    exact k0 (of_decide_eq_true q2)
  · refine x_aload_n (pc' := 188) rfl rfl rfl rfl rfl ?_
    refine x_gR (pc' := 191) (r := (some 28)) rfl rfl rfl (kR_810_0 hc) ?_
    refine x_iload (pc' := 193) rfl rfl rfl ?_
    refine x_iald (pc' := 194) (N := 200) (x := (sA t 21 28 x)) rfl rfl rfl (kN_21_28 hc) (io_in (p := x) (N := 200) (show x < 200 by omega) (by decide)) (Eq.trans (congrArg (sA t 21 28) (nn_io (p := x) (Nat.lt_trans (show x < 200 by omega) (by decide)))) rfl) ?_
    refine x_if_n (a' := 212) (pc' := 197) (z := decide (0 < (sA t 21 28 x))) rfl rfl rfl (ik_le _ _) (fun q3 => ?_) (fun q3 => ?_)
    · refine x_iinc (pc' := 215) (y := (io (x + 1))) (ls' := [_, _, _, _, _, _, _, _]) rfl rfl rfl (io_add x 1) rfl ?_
      refine x_goto (pc' := 176) rfl rfl ?_
      exact k1 (of_decide_eq_false q2) (of_decide_eq_false q3)
    · refine x_aload_n (pc' := 198) rfl rfl rfl rfl rfl ?_
      refine x_iload_n (pc' := 199) rfl rfl rfl ?_
      refine x_iload_n (pc' := 200) rfl rfl rfl ?_
      refine x_iload (pc' := 202) rfl rfl rfl ?_
      refine x_aload_n (pc' := 203) rfl rfl rfl rfl rfl ?_
      refine x_gR (pc' := 206) (r := (some 28)) rfl rfl rfl (kR_810_0 hc) ?_
      refine x_iload (pc' := 208) rfl rfl rfl ?_
      refine x_iald (pc' := 209) (N := 200) (x := (sA t 21 28 x)) rfl rfl rfl (kN_21_28 hc) (io_in (p := x) (N := 200) (show x < 200 by omega) (by decide)) (Eq.trans (congrArg (sA t 21 28) (nn_io (p := x) (Nat.lt_trans (show x < 200 by omega) (by decide)))) rfl) ?_
      refine x_cv (ls0 := [_, _, _, _, _, sJk]) (rest := []) rfl rfl rfl rfl rfl ?_
      exact k2 (of_decide_eq_false q2) (of_decide_eq_true q3)
set_option maxHeartbeats 4000000 in
set_option maxRecDepth 10000 in
theorem r215_p2 {t : sT} {Q : sRs → sT → Prop} {M : sM} {n : Nat} {m : Nat} {c : Nat} {x : Nat} {a : Int32} {d : Int32} {h : Int32} {y0 : sV}
    (hV : Vr t M n)
    (hm : m < 6)
    (hc3 : c < 3)
    (hx : x < 6)
    (k0 : X 215 176 [.inr (.inr (12, (some 0))), .inl (io c), .inl (io m), .inl a, .inl d, .inl h, .inl (io (x + 1)), y0] [] t Q) :
    X 215 212 [.inr (.inr (12, (some 0))), .inl (io c), .inl (io m), .inl a, .inl d, .inl h, .inl (io x), y0] [] t Q := by
  obtain ⟨hM, hc, hR⟩ := hV
  refine x_iinc (pc' := 215) (y := (io (x + 1))) (ls' := [_, _, _, _, _, _, _, _]) rfl rfl rfl (io_add x 1) rfl ?_
  refine x_goto (pc' := 176) rfl rfl ?_
  exact k0
set_option maxHeartbeats 4000000 in
set_option maxRecDepth 10000 in
theorem r215_q {t : sT} {Q : sRs → sT → Prop} {M : sM} {n : Nat} {m : Nat} {c : Nat} {a : Int32} {d : Int32} {h : Int32} {y0 : sV}
    (hV : Vr t M n)
    (hm : m < 6)
    (hc3 : c < 3)
    (k0 : Q (.inl none) t) :
    X 215 176 [.inr (.inr (12, (some 0))), .inl (io c), .inl (io m), .inl a, .inl d, .inl h, .inl 6, y0] [] t Q := by
  obtain ⟨hM, hc, hR⟩ := hV
  refine x_iload (pc' := 178) rfl rfl rfl ?_
  refine x_bipush (pc' := 180) rfl rfl ?_
  refine x_icmp (a' := 218) (pc' := 183) (z := true) rfl rfl rfl (by decide) (fun _ => ?_) (fun h => by cases h)
  refine x_ret rfl ?_
  exact k0
set_option maxHeartbeats 4000000 in
set_option maxRecDepth 10000 in
theorem r218 {t : sT} {Q : sRs → sT → Prop} {M : sM} {n : Nat} {m : Nat}
    (hV : Vr t M n)
    (hm : m < 6)
    (k0 : ¬ ((-(fdF M n m)) < (mA M 7 m)) → ¬ (((-(fdF M n m)) - (mA M 7 m)) < (mI M 784)) → X 217 0 [.inr (.inr (12, (some 0))), .inl (io m), .inl (((-(fdF M n m)) - (mA M 7 m)) - (mI M 784)), sJk, sJk, sJk, sJk, sJk] [] (sIw t 784 0 0) (sK 217 218 54 [.inr (.inr (12, (some 0))), .inl (io m), .inl (-(fdF M n m)), .inl (mA M 7 m), .inl (mI M 784)] [.inl (mI M 785), .inr (.inr (12, (some 0)))] Q))
    (k1 : ¬ ((-(fdF M n m)) < (mA M 7 m)) → ((-(fdF M n m)) - (mA M 7 m)) < (mI M 784) → X 217 0 [.inr (.inr (12, (some 0))), .inl (io m), .inl 0, sJk, sJk, sJk, sJk, sJk] [] (sIw t 784 0 ((mI M 784) - ((-(fdF M n m)) - (mA M 7 m)))) (sK 217 218 54 [.inr (.inr (12, (some 0))), .inl (io m), .inl (-(fdF M n m)), .inl (mA M 7 m), .inl ((-(fdF M n m)) - (mA M 7 m))] [.inl (mI M 785), .inr (.inr (12, (some 0)))] Q))
    (k2 : (-(fdF M n m)) < (mA M 7 m) → ¬ (0 < (mI M 784)) → X 217 0 [.inr (.inr (12, (some 0))), .inl (io m), .inl (0 - (mI M 784)), sJk, sJk, sJk, sJk, sJk] [] (sIw t 784 0 0) (sK 217 218 54 [.inr (.inr (12, (some 0))), .inl (io m), .inl (-(fdF M n m)), .inl (-(fdF M n m)), .inl (mI M 784)] [.inl (mI M 785), .inr (.inr (12, (some 0)))] Q))
    (k3 : (-(fdF M n m)) < (mA M 7 m) → 0 < (mI M 784) → X 217 0 [.inr (.inr (12, (some 0))), .inl (io m), .inl 0, sJk, sJk, sJk, sJk, sJk] [] (sIw t 784 0 ((mI M 784) - 0)) (sK 217 218 54 [.inr (.inr (12, (some 0))), .inl (io m), .inl (-(fdF M n m)), .inl (-(fdF M n m)), .inl 0] [.inl (mI M 785), .inr (.inr (12, (some 0)))] Q)) :
    X 218 0 [.inr (.inr (12, (some 0))), .inl (io m), sJk, sJk, sJk] [] t Q := by
  obtain ⟨hM, hc, hR⟩ := hV
  refine x_aload_n (pc' := 1) rfl rfl rfl rfl rfl ?_
  refine x_iload_n (pc' := 2) rfl rfl rfl ?_
  refine x_cv (ls0 := [_, _, sJk, sJk]) (rest := []) rfl rfl rfl rfl rfl ?_
  refine r182 hM hc (Fr.ri (Fr.refl _) hR) hm ?_
  refine sK_i (pc' := 5) rfl ?_
  refine x_ineg (pc' := 6) rfl rfl rfl ?_
  refine x_istore_n (pc' := 7) (ls' := [_, _, _, _, _]) rfl rfl rfl rfl ?_
  refine x_iload_n (pc' := 8) rfl rfl rfl ?_
  refine x_aload_n (pc' := 9) rfl rfl rfl rfl rfl ?_
  refine x_gR (pc' := 12) (r := (some 7)) rfl rfl rfl (kR_777_0 hc) ?_
  refine x_iload_n (pc' := 13) rfl rfl rfl ?_
  refine x_iald (pc' := 14) (N := 6) (x := (mA M 7 m)) rfl rfl rfl (kN_21_7 hc) (io_in (p := m) (N := 6) hm (by decide)) (Eq.trans (congrArg (sA t 21 7) (nn_io (p := m) (Nat.lt_trans hm (by decide)))) (gA hM rfl)) ?_
  refine x_cs (ls0 := [_, _]) (rest := []) rfl rfl rfl rfl ?_
  refine x_iload_n (pc' := 1) rfl rfl rfl ?_
  refine x_iload_n (pc' := 2) rfl rfl rfl ?_
  refine x_icmp_n (a' := 9) (pc' := 5) (z := decide ((-(fdF M n m)) < (mA M 7 m))) rfl rfl rfl (ik_ge _ _) (fun q1 => ?_) (fun q1 => ?_)
  · refine x_iload_n (pc' := 10) rfl rfl rfl ?_
    refine x_reti rfl rfl ?_
    refine sK_i (pc' := 17) rfl ?_
    refine x_istore_n (pc' := 18) (ls' := [_, _, _, _, _]) rfl rfl rfl rfl ?_
    refine x_iload_n (pc' := 19) rfl rfl rfl ?_
    refine x_iload_n (pc' := 20) rfl rfl rfl ?_
    refine x_isub (pc' := 21) (z := ((-(fdF M n m)) - (mA M 7 m))) rfl rfl rfl ?_
    refine x_aload_n (pc' := 22) rfl rfl rfl rfl rfl ?_
    refine x_gI (pc' := 25) (x := (mI M 784)) rfl rfl rfl (gI hM rfl) ?_
    refine x_cs (ls0 := [_, _]) (rest := []) rfl rfl rfl rfl ?_
    refine x_iload_n (pc' := 1) rfl rfl rfl ?_
    refine x_iload_n (pc' := 2) rfl rfl rfl ?_
    refine x_icmp_n (a' := 9) (pc' := 5) (z := decide (((-(fdF M n m)) - (mA M 7 m)) < (mI M 784))) rfl rfl rfl (ik_ge _ _) (fun q2 => ?_) (fun q2 => ?_)
    · refine x_iload_n (pc' := 10) rfl rfl rfl ?_
      refine x_reti rfl rfl ?_
      refine sK_i (pc' := 28) rfl ?_
      refine x_istore (pc' := 30) (ls' := [_, _, _, _, _]) rfl rfl rfl rfl ?_
      refine x_aload_n (pc' := 31) rfl rfl rfl rfl rfl ?_
      refine x_dup (pc' := 32) rfl rfl rfl ?_
      refine x_gI (pc' := 35) (x := (mI M 784)) rfl rfl rfl (gI hM rfl) ?_
      refine x_iload (pc' := 37) rfl rfl rfl ?_
      refine x_isub (pc' := 38) (z := 0) rfl rfl (Int32.sub_self _) ?_
      refine x_pI (pc' := 41) rfl rfl rfl ?_
      refine x_aload_n (pc' := 42) rfl rfl rfl rfl rfl ?_
      refine x_dup (pc' := 43) rfl rfl rfl ?_
      refine x_gI (pc' := 46) (x := (mI M 785)) rfl rfl rfl (Eq.trans (b := sI t 785 0) rfl (gI hM rfl)) ?_
      refine x_aload_n (pc' := 47) rfl rfl rfl rfl rfl ?_
      refine x_iload_n (pc' := 48) rfl rfl rfl ?_
      refine x_iload_n (pc' := 49) rfl rfl rfl ?_
      refine x_iload_n (pc' := 50) rfl rfl rfl ?_
      refine x_isub (pc' := 51) (z := ((-(fdF M n m)) - (mA M 7 m))) rfl rfl rfl ?_
      refine x_iload (pc' := 53) rfl rfl rfl ?_
      refine x_isub (pc' := 54) (z := (((-(fdF M n m)) - (mA M 7 m)) - (mI M 784))) rfl rfl rfl ?_
      refine x_cv (ls0 := [_, _, _, sJk, sJk, sJk, sJk, sJk]) (rest := [_, _]) rfl rfl rfl rfl rfl ?_
      exact k0 (of_decide_eq_false q1) (of_decide_eq_false q2)
    · refine x_iload_n (pc' := 6) rfl rfl rfl ?_
      refine x_goto (pc' := 10) rfl rfl ?_
      refine x_reti rfl rfl ?_
      refine sK_i (pc' := 28) rfl ?_
      refine x_istore (pc' := 30) (ls' := [_, _, _, _, _]) rfl rfl rfl rfl ?_
      refine x_aload_n (pc' := 31) rfl rfl rfl rfl rfl ?_
      refine x_dup (pc' := 32) rfl rfl rfl ?_
      refine x_gI (pc' := 35) (x := (mI M 784)) rfl rfl rfl (gI hM rfl) ?_
      refine x_iload (pc' := 37) rfl rfl rfl ?_
      refine x_isub (pc' := 38) (z := ((mI M 784) - ((-(fdF M n m)) - (mA M 7 m)))) rfl rfl rfl ?_
      refine x_pI (pc' := 41) rfl rfl rfl ?_
      refine x_aload_n (pc' := 42) rfl rfl rfl rfl rfl ?_
      refine x_dup (pc' := 43) rfl rfl rfl ?_
      refine x_gI (pc' := 46) (x := (mI M 785)) rfl rfl rfl (Eq.trans (b := sI t 785 0) rfl (gI hM rfl)) ?_
      refine x_aload_n (pc' := 47) rfl rfl rfl rfl rfl ?_
      refine x_iload_n (pc' := 48) rfl rfl rfl ?_
      refine x_iload_n (pc' := 49) rfl rfl rfl ?_
      refine x_iload_n (pc' := 50) rfl rfl rfl ?_
      refine x_isub (pc' := 51) (z := ((-(fdF M n m)) - (mA M 7 m))) rfl rfl rfl ?_
      refine x_iload (pc' := 53) rfl rfl rfl ?_
      refine x_isub (pc' := 54) (z := 0) rfl rfl (Int32.sub_self _) ?_
      refine x_cv (ls0 := [_, _, _, sJk, sJk, sJk, sJk, sJk]) (rest := [_, _]) rfl rfl rfl rfl rfl ?_
      exact k1 (of_decide_eq_false q1) (of_decide_eq_true q2)
  · refine x_iload_n (pc' := 6) rfl rfl rfl ?_
    refine x_goto (pc' := 10) rfl rfl ?_
    refine x_reti rfl rfl ?_
    refine sK_i (pc' := 17) rfl ?_
    refine x_istore_n (pc' := 18) (ls' := [_, _, _, _, _]) rfl rfl rfl rfl ?_
    refine x_iload_n (pc' := 19) rfl rfl rfl ?_
    refine x_iload_n (pc' := 20) rfl rfl rfl ?_
    refine x_isub (pc' := 21) (z := 0) rfl rfl (Int32.sub_self _) ?_
    refine x_aload_n (pc' := 22) rfl rfl rfl rfl rfl ?_
    refine x_gI (pc' := 25) (x := (mI M 784)) rfl rfl rfl (gI hM rfl) ?_
    refine x_cs (ls0 := [_, _]) (rest := []) rfl rfl rfl rfl ?_
    refine x_iload_n (pc' := 1) rfl rfl rfl ?_
    refine x_iload_n (pc' := 2) rfl rfl rfl ?_
    refine x_icmp_n (a' := 9) (pc' := 5) (z := decide (0 < (mI M 784))) rfl rfl rfl (ik_ge _ _) (fun q3 => ?_) (fun q3 => ?_)
    · refine x_iload_n (pc' := 10) rfl rfl rfl ?_
      refine x_reti rfl rfl ?_
      refine sK_i (pc' := 28) rfl ?_
      refine x_istore (pc' := 30) (ls' := [_, _, _, _, _]) rfl rfl rfl rfl ?_
      refine x_aload_n (pc' := 31) rfl rfl rfl rfl rfl ?_
      refine x_dup (pc' := 32) rfl rfl rfl ?_
      refine x_gI (pc' := 35) (x := (mI M 784)) rfl rfl rfl (gI hM rfl) ?_
      refine x_iload (pc' := 37) rfl rfl rfl ?_
      refine x_isub (pc' := 38) (z := 0) rfl rfl (Int32.sub_self _) ?_
      refine x_pI (pc' := 41) rfl rfl rfl ?_
      refine x_aload_n (pc' := 42) rfl rfl rfl rfl rfl ?_
      refine x_dup (pc' := 43) rfl rfl rfl ?_
      refine x_gI (pc' := 46) (x := (mI M 785)) rfl rfl rfl (Eq.trans (b := sI t 785 0) rfl (gI hM rfl)) ?_
      refine x_aload_n (pc' := 47) rfl rfl rfl rfl rfl ?_
      refine x_iload_n (pc' := 48) rfl rfl rfl ?_
      refine x_iload_n (pc' := 49) rfl rfl rfl ?_
      refine x_iload_n (pc' := 50) rfl rfl rfl ?_
      refine x_isub (pc' := 51) (z := 0) rfl rfl (Int32.sub_self _) ?_
      refine x_iload (pc' := 53) rfl rfl rfl ?_
      refine x_isub (pc' := 54) (z := (0 - (mI M 784))) rfl rfl rfl ?_
      refine x_cv (ls0 := [_, _, _, sJk, sJk, sJk, sJk, sJk]) (rest := [_, _]) rfl rfl rfl rfl rfl ?_
      exact k2 (of_decide_eq_true q1) (of_decide_eq_false q3)
    · refine x_iload_n (pc' := 6) rfl rfl rfl ?_
      refine x_goto (pc' := 10) rfl rfl ?_
      refine x_reti rfl rfl ?_
      refine sK_i (pc' := 28) rfl ?_
      refine x_istore (pc' := 30) (ls' := [_, _, _, _, _]) rfl rfl rfl rfl ?_
      refine x_aload_n (pc' := 31) rfl rfl rfl rfl rfl ?_
      refine x_dup (pc' := 32) rfl rfl rfl ?_
      refine x_gI (pc' := 35) (x := (mI M 784)) rfl rfl rfl (gI hM rfl) ?_
      refine x_iload (pc' := 37) rfl rfl rfl ?_
      refine x_isub (pc' := 38) (z := ((mI M 784) - 0)) rfl rfl rfl ?_
      refine x_pI (pc' := 41) rfl rfl rfl ?_
      refine x_aload_n (pc' := 42) rfl rfl rfl rfl rfl ?_
      refine x_dup (pc' := 43) rfl rfl rfl ?_
      refine x_gI (pc' := 46) (x := (mI M 785)) rfl rfl rfl (Eq.trans (b := sI t 785 0) rfl (gI hM rfl)) ?_
      refine x_aload_n (pc' := 47) rfl rfl rfl rfl rfl ?_
      refine x_iload_n (pc' := 48) rfl rfl rfl ?_
      refine x_iload_n (pc' := 49) rfl rfl rfl ?_
      refine x_iload_n (pc' := 50) rfl rfl rfl ?_
      refine x_isub (pc' := 51) (z := 0) rfl rfl (Int32.sub_self _) ?_
      refine x_iload (pc' := 53) rfl rfl rfl ?_
      refine x_isub (pc' := 54) (z := 0) rfl rfl (by decide) ?_
      refine x_cv (ls0 := [_, _, _, sJk, sJk, sJk, sJk, sJk]) (rest := [_, _]) rfl rfl rfl rfl rfl ?_
      exact k3 (of_decide_eq_true q1) (of_decide_eq_true q3)
set_option maxHeartbeats 4000000 in
set_option maxRecDepth 10000 in
theorem r218b {t : sT} {Q : sRs → sT → Prop} {M : sM} {n : Nat} {m : Nat} {a : Int32} {d : Int32} {h : Int32} {p : Int32} {g : Int32}
    (hV : Vr t M n)
    (hm : m < 6)
    (k0 : Q (.inl none) (sIw t 785 0 (g + p))) :
    X 218 57 [.inr (.inr (12, (some 0))), .inl (io m), .inl a, .inl d, .inl h] [.inl p, .inl g, .inr (.inr (12, (some 0)))] t Q := by
  obtain ⟨hM, hc, hR⟩ := hV
  refine x_iadd (pc' := 58) (z := (g + p)) rfl rfl rfl ?_
  refine x_pI (pc' := 61) rfl rfl rfl ?_
  refine x_ret rfl ?_
  exact k0
set_option maxHeartbeats 4000000 in
set_option maxRecDepth 10000 in
theorem r217_0 {t : sT} {Q : sRs → sT → Prop} {M : sM} {n : Nat} {m : Nat} {a : Int32}
    (hV : Vr t M n)
    (hm : m < 6)
    (k0 : X 217 5 [.inr (.inr (12, (some 0))), .inl (io m), .inl a, .inl 0, .inl 0, sJk, sJk, sJk] [] t Q) :
    X 217 0 [.inr (.inr (12, (some 0))), .inl (io m), .inl a, sJk, sJk, sJk, sJk, sJk] [] t Q := by
  obtain ⟨hM, hc, hR⟩ := hV
  refine x_iconst (pc' := 1) rfl rfl ?_
  refine x_istore_n (pc' := 2) (ls' := [_, _, _, _, _, _, _, _]) rfl rfl rfl rfl ?_
  refine x_iconst (pc' := 3) rfl rfl ?_
  refine x_istore (pc' := 5) (ls' := [_, _, _, _, _, _, _, _]) rfl rfl rfl rfl ?_
  exact k0
set_option maxHeartbeats 4000000 in
set_option maxRecDepth 10000 in
theorem r217_k {t : sT} {Q : sRs → sT → Prop} {M : sM} {n : Nat} {m : Nat} {x : Nat} {a : Int32} {u : Int32} {y0 : sV} {y1 : sV} {y2 : sV}
    (hV : Vr t M n)
    (hm : m < 6)
    (hx : x < 6)
    (k0 : x = m → X 217 5 [.inr (.inr (12, (some 0))), .inl (io m), .inl a, .inl (u + 0), .inl (io (x + 1)), y0, y1, y2] [] t Q)
    (k1 : ¬ (x = m) → (mB M 2 x) = false → X 217 5 [.inr (.inr (12, (some 0))), .inl (io m), .inl a, .inl (u + (mA M 7 x)), .inl (io (x + 1)), y0, y1, y2] [] t Q)
    (k2 : ¬ (x = m) → (mB M 2 x) = true → X 217 5 [.inr (.inr (12, (some 0))), .inl (io m), .inl a, .inl (u + 0), .inl (io (x + 1)), y0, y1, y2] [] t Q) :
    X 217 5 [.inr (.inr (12, (some 0))), .inl (io m), .inl a, .inl u, .inl (io x), y0, y1, y2] [] t Q := by
  obtain ⟨hM, hc, hR⟩ := hV
  refine x_iload (pc' := 7) rfl rfl rfl ?_
  refine x_bipush (pc' := 9) rfl rfl ?_
  refine x_icmp_n (a' := 48) (pc' := 12) (z := decide (x < 6)) rfl rfl rfl (ic_gen (p := x) (q := 6) (gm31 hx) (by decide)) (fun h => absurd hx (of_decide_eq_false h)) (fun _ => ?_)
  refine x_iload_n (pc' := 13) rfl rfl rfl ?_
  refine x_iload (pc' := 15) rfl rfl rfl ?_
  refine x_iload_n (pc' := 16) rfl rfl rfl ?_
  refine x_icmp (a' := 29) (pc' := 19) (z := decide (x = m)) rfl rfl rfl (ic_eq (p := x) (q := m) (gm31 hx) (gm31 hm)) (fun q2 => ?_) (fun q2 => ?_)
  · refine x_iconst (pc' := 30) rfl rfl ?_
    refine x_goto (pc' := 40) rfl rfl ?_
    refine x_iadd (pc' := 41) (z := (u + 0)) rfl rfl rfl ?_
    refine x_istore_n (pc' := 42) (ls' := [_, _, _, _, _, _, _, _]) rfl rfl rfl rfl ?_
    refine x_iinc (pc' := 45) (y := (io (x + 1))) (ls' := [_, _, _, _, _, _, _, _]) rfl rfl rfl (io_add x 1) rfl ?_
    refine x_goto (pc' := 5) rfl rfl ?_
    exact k0 (of_decide_eq_true q2)
  · refine x_aload_n (pc' := 20) rfl rfl rfl rfl rfl ?_
    refine x_gR (pc' := 23) (r := (some 2)) rfl rfl rfl (kR_781_0 hc) ?_
    refine x_iload (pc' := 25) rfl rfl rfl ?_
    refine x_bald (pc' := 26) (N := 6) (z := (mB M 2 x)) rfl rfl (kN_22_2 hc) (io_in (p := x) (N := 6) hx (by decide)) (Eq.trans (congrArg (sB t 22 2) (nn_io (p := x) (Nat.lt_trans hx (by decide)))) (gB hM)) ?_
    refine x_ifeq_z (a' := 33) (pc' := 29) (z := (mB M 2 x)) rfl rfl rfl (fun q3 => ?_) (fun q3 => ?_)
    · refine x_aload_n (pc' := 34) rfl rfl rfl rfl rfl ?_
      refine x_gR (pc' := 37) (r := (some 7)) rfl rfl rfl (kR_777_0 hc) ?_
      refine x_iload (pc' := 39) rfl rfl rfl ?_
      refine x_iald (pc' := 40) (N := 6) (x := (mA M 7 x)) rfl rfl rfl (kN_21_7 hc) (io_in (p := x) (N := 6) hx (by decide)) (Eq.trans (congrArg (sA t 21 7) (nn_io (p := x) (Nat.lt_trans hx (by decide)))) (gA hM rfl)) ?_
      refine x_iadd (pc' := 41) (z := (u + (mA M 7 x))) rfl rfl rfl ?_
      refine x_istore_n (pc' := 42) (ls' := [_, _, _, _, _, _, _, _]) rfl rfl rfl rfl ?_
      refine x_iinc (pc' := 45) (y := (io (x + 1))) (ls' := [_, _, _, _, _, _, _, _]) rfl rfl rfl (io_add x 1) rfl ?_
      refine x_goto (pc' := 5) rfl rfl ?_
      exact k1 (of_decide_eq_false q2) q3
    · refine x_iconst (pc' := 30) rfl rfl ?_
      refine x_goto (pc' := 40) rfl rfl ?_
      refine x_iadd (pc' := 41) (z := (u + 0)) rfl rfl rfl ?_
      refine x_istore_n (pc' := 42) (ls' := [_, _, _, _, _, _, _, _]) rfl rfl rfl rfl ?_
      refine x_iinc (pc' := 45) (y := (io (x + 1))) (ls' := [_, _, _, _, _, _, _, _]) rfl rfl rfl (io_add x 1) rfl ?_
      refine x_goto (pc' := 5) rfl rfl ?_
      exact k2 (of_decide_eq_false q2) q3
set_option maxHeartbeats 4000000 in
set_option maxRecDepth 10000 in
theorem r217_e {t : sT} {Q : sRs → sT → Prop} {M : sM} {n : Nat} {m : Nat} {a : Int32} {u : Int32} {y0 : sV} {y1 : sV} {y2 : sV}
    (hV : Vr t M n)
    (hm : m < 6)
    (k0 : ¬ (a < u) → X 217 61 [.inr (.inr (12, (some 0))), .inl (io m), .inl a, .inl u, .inl u, .inl 0, .inl 0, y2] [] t Q)
    (k1 : a < u → X 217 61 [.inr (.inr (12, (some 0))), .inl (io m), .inl a, .inl u, .inl a, .inl 0, .inl 0, y2] [] t Q) :
    X 217 5 [.inr (.inr (12, (some 0))), .inl (io m), .inl a, .inl u, .inl 6, y0, y1, y2] [] t Q := by
  obtain ⟨hM, hc, hR⟩ := hV
  refine x_iload (pc' := 7) rfl rfl rfl ?_
  refine x_bipush (pc' := 9) rfl rfl ?_
  refine x_icmp (a' := 48) (pc' := 12) (z := true) rfl rfl rfl (by decide) (fun _ => ?_) (fun h => by cases h)
  refine x_iload_n (pc' := 49) rfl rfl rfl ?_
  refine x_iload_n (pc' := 50) rfl rfl rfl ?_
  refine x_cs (ls0 := [_, _]) (rest := []) rfl rfl rfl rfl ?_
  refine x_iload_n (pc' := 1) rfl rfl rfl ?_
  refine x_iload_n (pc' := 2) rfl rfl rfl ?_
  refine x_icmp_n (a' := 9) (pc' := 5) (z := decide (a < u)) rfl rfl rfl (ik_ge _ _) (fun q2 => ?_) (fun q2 => ?_)
  · refine x_iload_n (pc' := 10) rfl rfl rfl ?_
    refine x_reti rfl rfl ?_
    refine sK_i (pc' := 53) rfl ?_
    refine x_istore (pc' := 55) (ls' := [_, _, _, _, _, _, _, _]) rfl rfl rfl rfl ?_
    refine x_iconst (pc' := 56) rfl rfl ?_
    refine x_istore (pc' := 58) (ls' := [_, _, _, _, _, _, _, _]) rfl rfl rfl rfl ?_
    refine x_iconst (pc' := 59) rfl rfl ?_
    refine x_istore (pc' := 61) (ls' := [_, _, _, _, _, _, _, _]) rfl rfl rfl rfl ?_
    exact k0 (of_decide_eq_false q2)
  · refine x_iload_n (pc' := 6) rfl rfl rfl ?_
    refine x_goto (pc' := 10) rfl rfl ?_
    refine x_reti rfl rfl ?_
    refine sK_i (pc' := 53) rfl ?_
    refine x_istore (pc' := 55) (ls' := [_, _, _, _, _, _, _, _]) rfl rfl rfl rfl ?_
    refine x_iconst (pc' := 56) rfl rfl ?_
    refine x_istore (pc' := 58) (ls' := [_, _, _, _, _, _, _, _]) rfl rfl rfl rfl ?_
    refine x_iconst (pc' := 59) rfl rfl ?_
    refine x_istore (pc' := 61) (ls' := [_, _, _, _, _, _, _, _]) rfl rfl rfl rfl ?_
    exact k1 (of_decide_eq_true q2)
set_option maxHeartbeats 4000000 in
set_option maxRecDepth 10000 in
theorem r217_s {t : sT} {Q : sRs → sT → Prop} {M : sM} {n : Nat} {m : Nat} {x : Nat} {a : Int32} {u : Int32} {d : Int32} {h : Int32} {y0 : sV}
    (hV : Vr t M n)
    (hm : m < 6)
    (hx : x < 6)
    (hd0 : ¬ u.toInt64 = 0)
    (k0 : x = m → X 217 61 [.inr (.inr (12, (some 0))), .inl (io m), .inl a, .inl u, .inl d, .inl (h + 0), .inl (io (x + 1)), y0] [] (sAw t 21 28 x 0) Q)
    (k1 : ¬ (x = m) → (mB M 2 x) = true → X 217 61 [.inr (.inr (12, (some 0))), .inl (io m), .inl a, .inl u, .inl d, .inl (h + 0), .inl (io (x + 1)), y0] [] (sAw t 21 28 x 0) Q)
    (k2 : ¬ (x = m) → (mB M 2 x) = false → ¬ (u = 0) → X 217 61 [.inr (.inr (12, (some 0))), .inl (io m), .inl a, .inl u, .inl d, .inl (h + (((d.toInt64 * (mA M 7 x).toInt64) / u.toInt64).toInt32)), .inl (io (x + 1)), y0] [] (sAw t 21 28 x (((d.toInt64 * (mA M 7 x).toInt64) / u.toInt64).toInt32)) Q)
    (k3 : ¬ (x = m) → (mB M 2 x) = false → u = 0 → X 217 61 [.inr (.inr (12, (some 0))), .inl (io m), .inl a, .inl u, .inl d, .inl (h + 0), .inl (io (x + 1)), y0] [] (sAw t 21 28 x 0) Q) :
    X 217 61 [.inr (.inr (12, (some 0))), .inl (io m), .inl a, .inl u, .inl d, .inl h, .inl (io x), y0] [] t Q := by
  obtain ⟨hM, hc, hR⟩ := hV
  refine x_iload (pc' := 63) rfl rfl rfl ?_
  refine x_bipush (pc' := 65) rfl rfl ?_
  refine x_icmp_n (a' := 133) (pc' := 68) (z := decide (x < 6)) rfl rfl rfl (ic_gen (p := x) (q := 6) (gm31 hx) (by decide)) (fun h => absurd hx (of_decide_eq_false h)) (fun _ => ?_)
  refine x_aload_n (pc' := 69) rfl rfl rfl rfl rfl ?_
  refine x_gR (pc' := 72) (r := (some 28)) rfl rfl rfl (kR_810_0 hc) ?_
  refine x_iload (pc' := 74) rfl rfl rfl ?_
  refine x_iload (pc' := 76) rfl rfl rfl ?_
  refine x_iload_n (pc' := 77) rfl rfl rfl ?_
  refine x_icmp (a' := 94) (pc' := 80) (z := decide (x = m)) rfl rfl rfl (ic_eq (p := x) (q := m) (gm31 hx) (gm31 hm)) (fun q2 => ?_) (fun q2 => ?_)
  · refine x_iconst (pc' := 95) rfl rfl ?_
    refine x_goto (pc' := 114) rfl rfl ?_
    refine x_iast (pc' := 115) (N := 200) (p := x) rfl rfl rfl (kN_21_28 hc) (io_in (p := x) (N := 200) (show x < 200 by omega) (by decide)) (nn_io (p := x) (Nat.lt_trans (show x < 200 by omega) (by decide))) ?_
    refine x_iload (pc' := 117) rfl rfl rfl ?_
    refine x_aload_n (pc' := 118) rfl rfl rfl rfl rfl ?_
    refine x_gR (pc' := 121) (r := (some 28)) rfl rfl rfl (Eq.trans (b := sR t 810 0) rfl (kR_810_0 hc)) ?_
    refine x_iload (pc' := 123) rfl rfl rfl ?_
    refine x_iald (pc' := 124) (N := 200) (x := 0) rfl rfl rfl (Eq.trans rdNA (kN_21_28 hc)) (io_in (p := x) (N := 200) (show x < 200 by omega) (by decide)) (Eq.trans (congrArg (sA (sAw t 21 28 x 0) 21 28) (nn_io (p := x) (Nat.lt_trans (show x < 200 by omega) (by decide)))) sA_s) ?_
    refine x_iadd (pc' := 125) (z := (h + 0)) rfl rfl rfl ?_
    refine x_istore (pc' := 127) (ls' := [_, _, _, _, _, _, _, _]) rfl rfl rfl rfl ?_
    refine x_iinc (pc' := 130) (y := (io (x + 1))) (ls' := [_, _, _, _, _, _, _, _]) rfl rfl rfl (io_add x 1) rfl ?_
    refine x_goto (pc' := 61) rfl rfl ?_
    exact k0 (of_decide_eq_true q2)
  · refine x_aload_n (pc' := 81) rfl rfl rfl rfl rfl ?_
    refine x_gR (pc' := 84) (r := (some 2)) rfl rfl rfl (kR_781_0 hc) ?_
    refine x_iload (pc' := 86) rfl rfl rfl ?_
    refine x_bald (pc' := 87) (N := 6) (z := (mB M 2 x)) rfl rfl (kN_22_2 hc) (io_in (p := x) (N := 6) hx (by decide)) (Eq.trans (congrArg (sB t 22 2) (nn_io (p := x) (Nat.lt_trans hx (by decide)))) (gB hM)) ?_
    refine x_ifne_z (a' := 94) (pc' := 90) (z := (mB M 2 x)) rfl rfl rfl (fun q3 => ?_) (fun q3 => ?_)
    · refine x_iconst (pc' := 95) rfl rfl ?_
      refine x_goto (pc' := 114) rfl rfl ?_
      refine x_iast (pc' := 115) (N := 200) (p := x) rfl rfl rfl (kN_21_28 hc) (io_in (p := x) (N := 200) (show x < 200 by omega) (by decide)) (nn_io (p := x) (Nat.lt_trans (show x < 200 by omega) (by decide))) ?_
      refine x_iload (pc' := 117) rfl rfl rfl ?_
      refine x_aload_n (pc' := 118) rfl rfl rfl rfl rfl ?_
      refine x_gR (pc' := 121) (r := (some 28)) rfl rfl rfl (Eq.trans (b := sR t 810 0) rfl (kR_810_0 hc)) ?_
      refine x_iload (pc' := 123) rfl rfl rfl ?_
      refine x_iald (pc' := 124) (N := 200) (x := 0) rfl rfl rfl (Eq.trans rdNA (kN_21_28 hc)) (io_in (p := x) (N := 200) (show x < 200 by omega) (by decide)) (Eq.trans (congrArg (sA (sAw t 21 28 x 0) 21 28) (nn_io (p := x) (Nat.lt_trans (show x < 200 by omega) (by decide)))) sA_s) ?_
      refine x_iadd (pc' := 125) (z := (h + 0)) rfl rfl rfl ?_
      refine x_istore (pc' := 127) (ls' := [_, _, _, _, _, _, _, _]) rfl rfl rfl rfl ?_
      refine x_iinc (pc' := 130) (y := (io (x + 1))) (ls' := [_, _, _, _, _, _, _, _]) rfl rfl rfl (io_add x 1) rfl ?_
      refine x_goto (pc' := 61) rfl rfl ?_
      exact k1 (of_decide_eq_false q2) q3
    · refine x_iload_n (pc' := 91) rfl rfl rfl ?_
      refine x_if_n (a' := 98) (pc' := 94) (z := decide (u = 0)) rfl rfl rfl (ik_ne _ _) (fun q4 => ?_) (fun q4 => ?_)
      · refine x_iload (pc' := 100) rfl rfl rfl ?_
        refine x_i2l (pc' := 101) rfl rfl rfl ?_
        refine x_aload_n (pc' := 102) rfl rfl rfl rfl rfl ?_
        refine x_gR (pc' := 105) (r := (some 7)) rfl rfl rfl (kR_777_0 hc) ?_
        refine x_iload (pc' := 107) rfl rfl rfl ?_
        refine x_iald (pc' := 108) (N := 6) (x := (mA M 7 x)) rfl rfl rfl (kN_21_7 hc) (io_in (p := x) (N := 6) hx (by decide)) (Eq.trans (congrArg (sA t 21 7) (nn_io (p := x) (Nat.lt_trans hx (by decide)))) (gA hM rfl)) ?_
        refine x_i2l (pc' := 109) rfl rfl rfl ?_
        refine x_lmul (pc' := 110) rfl rfl rfl ?_
        refine x_iload_n (pc' := 111) rfl rfl rfl ?_
        refine x_i2l (pc' := 112) rfl rfl rfl ?_
        refine x_ldiv (pc' := 113) rfl rfl hd0 rfl ?_
        refine x_l2i (pc' := 114) rfl rfl rfl ?_
        refine x_iast (pc' := 115) (N := 200) (p := x) rfl rfl rfl (kN_21_28 hc) (io_in (p := x) (N := 200) (show x < 200 by omega) (by decide)) (nn_io (p := x) (Nat.lt_trans (show x < 200 by omega) (by decide))) ?_
        refine x_iload (pc' := 117) rfl rfl rfl ?_
        refine x_aload_n (pc' := 118) rfl rfl rfl rfl rfl ?_
        refine x_gR (pc' := 121) (r := (some 28)) rfl rfl rfl (Eq.trans (b := sR t 810 0) rfl (kR_810_0 hc)) ?_
        refine x_iload (pc' := 123) rfl rfl rfl ?_
        refine x_iald (pc' := 124) (N := 200) (x := (((d.toInt64 * (mA M 7 x).toInt64) / u.toInt64).toInt32)) rfl rfl rfl (Eq.trans rdNA (kN_21_28 hc)) (io_in (p := x) (N := 200) (show x < 200 by omega) (by decide)) (Eq.trans (congrArg (sA (sAw t 21 28 x (((d.toInt64 * (mA M 7 x).toInt64) / u.toInt64).toInt32)) 21 28) (nn_io (p := x) (Nat.lt_trans (show x < 200 by omega) (by decide)))) sA_s) ?_
        refine x_iadd (pc' := 125) (z := (h + (((d.toInt64 * (mA M 7 x).toInt64) / u.toInt64).toInt32))) rfl rfl rfl ?_
        refine x_istore (pc' := 127) (ls' := [_, _, _, _, _, _, _, _]) rfl rfl rfl rfl ?_
        refine x_iinc (pc' := 130) (y := (io (x + 1))) (ls' := [_, _, _, _, _, _, _, _]) rfl rfl rfl (io_add x 1) rfl ?_
        refine x_goto (pc' := 61) rfl rfl ?_
        exact k2 (of_decide_eq_false q2) q3 (of_decide_eq_false q4)
      · refine x_iconst (pc' := 95) rfl rfl ?_
        refine x_goto (pc' := 114) rfl rfl ?_
        refine x_iast (pc' := 115) (N := 200) (p := x) rfl rfl rfl (kN_21_28 hc) (io_in (p := x) (N := 200) (show x < 200 by omega) (by decide)) (nn_io (p := x) (Nat.lt_trans (show x < 200 by omega) (by decide))) ?_
        refine x_iload (pc' := 117) rfl rfl rfl ?_
        refine x_aload_n (pc' := 118) rfl rfl rfl rfl rfl ?_
        refine x_gR (pc' := 121) (r := (some 28)) rfl rfl rfl (Eq.trans (b := sR t 810 0) rfl (kR_810_0 hc)) ?_
        refine x_iload (pc' := 123) rfl rfl rfl ?_
        refine x_iald (pc' := 124) (N := 200) (x := 0) rfl rfl rfl (Eq.trans rdNA (kN_21_28 hc)) (io_in (p := x) (N := 200) (show x < 200 by omega) (by decide)) (Eq.trans (congrArg (sA (sAw t 21 28 x 0) 21 28) (nn_io (p := x) (Nat.lt_trans (show x < 200 by omega) (by decide)))) sA_s) ?_
        refine x_iadd (pc' := 125) (z := (h + 0)) rfl rfl rfl ?_
        refine x_istore (pc' := 127) (ls' := [_, _, _, _, _, _, _, _]) rfl rfl rfl rfl ?_
        refine x_iinc (pc' := 130) (y := (io (x + 1))) (ls' := [_, _, _, _, _, _, _, _]) rfl rfl rfl (io_add x 1) rfl ?_
        refine x_goto (pc' := 61) rfl rfl ?_
        exact k3 (of_decide_eq_false q2) q3 (of_decide_eq_true q4)
set_option maxHeartbeats 4000000 in
set_option maxRecDepth 10000 in
theorem r217_s0 {t : sT} {Q : sRs → sT → Prop} {M : sM} {n : Nat} {m : Nat} {x : Nat} {a : Int32} {d : Int32} {h : Int32} {y0 : sV}
    (hV : Vr t M n)
    (hm : m < 6)
    (hx : x < 6)
    (k0 : x = m → X 217 61 [.inr (.inr (12, (some 0))), .inl (io m), .inl a, .inl 0, .inl d, .inl (h + 0), .inl (io (x + 1)), y0] [] (sAw t 21 28 x 0) Q)
    (k1 : ¬ (x = m) → (mB M 2 x) = true → X 217 61 [.inr (.inr (12, (some 0))), .inl (io m), .inl a, .inl 0, .inl d, .inl (h + 0), .inl (io (x + 1)), y0] [] (sAw t 21 28 x 0) Q)
    (k2 : ¬ (x = m) → (mB M 2 x) = false → X 217 61 [.inr (.inr (12, (some 0))), .inl (io m), .inl a, .inl 0, .inl d, .inl (h + 0), .inl (io (x + 1)), y0] [] (sAw t 21 28 x 0) Q) :
    X 217 61 [.inr (.inr (12, (some 0))), .inl (io m), .inl a, .inl 0, .inl d, .inl h, .inl (io x), y0] [] t Q := by
  obtain ⟨hM, hc, hR⟩ := hV
  refine x_iload (pc' := 63) rfl rfl rfl ?_
  refine x_bipush (pc' := 65) rfl rfl ?_
  refine x_icmp_n (a' := 133) (pc' := 68) (z := decide (x < 6)) rfl rfl rfl (ic_gen (p := x) (q := 6) (gm31 hx) (by decide)) (fun h => absurd hx (of_decide_eq_false h)) (fun _ => ?_)
  refine x_aload_n (pc' := 69) rfl rfl rfl rfl rfl ?_
  refine x_gR (pc' := 72) (r := (some 28)) rfl rfl rfl (kR_810_0 hc) ?_
  refine x_iload (pc' := 74) rfl rfl rfl ?_
  refine x_iload (pc' := 76) rfl rfl rfl ?_
  refine x_iload_n (pc' := 77) rfl rfl rfl ?_
  refine x_icmp (a' := 94) (pc' := 80) (z := decide (x = m)) rfl rfl rfl (ic_eq (p := x) (q := m) (gm31 hx) (gm31 hm)) (fun q2 => ?_) (fun q2 => ?_)
  · refine x_iconst (pc' := 95) rfl rfl ?_
    refine x_goto (pc' := 114) rfl rfl ?_
    refine x_iast (pc' := 115) (N := 200) (p := x) rfl rfl rfl (kN_21_28 hc) (io_in (p := x) (N := 200) (show x < 200 by omega) (by decide)) (nn_io (p := x) (Nat.lt_trans (show x < 200 by omega) (by decide))) ?_
    refine x_iload (pc' := 117) rfl rfl rfl ?_
    refine x_aload_n (pc' := 118) rfl rfl rfl rfl rfl ?_
    refine x_gR (pc' := 121) (r := (some 28)) rfl rfl rfl (Eq.trans (b := sR t 810 0) rfl (kR_810_0 hc)) ?_
    refine x_iload (pc' := 123) rfl rfl rfl ?_
    refine x_iald (pc' := 124) (N := 200) (x := 0) rfl rfl rfl (Eq.trans rdNA (kN_21_28 hc)) (io_in (p := x) (N := 200) (show x < 200 by omega) (by decide)) (Eq.trans (congrArg (sA (sAw t 21 28 x 0) 21 28) (nn_io (p := x) (Nat.lt_trans (show x < 200 by omega) (by decide)))) sA_s) ?_
    refine x_iadd (pc' := 125) (z := (h + 0)) rfl rfl rfl ?_
    refine x_istore (pc' := 127) (ls' := [_, _, _, _, _, _, _, _]) rfl rfl rfl rfl ?_
    refine x_iinc (pc' := 130) (y := (io (x + 1))) (ls' := [_, _, _, _, _, _, _, _]) rfl rfl rfl (io_add x 1) rfl ?_
    refine x_goto (pc' := 61) rfl rfl ?_
    exact k0 (of_decide_eq_true q2)
  · refine x_aload_n (pc' := 81) rfl rfl rfl rfl rfl ?_
    refine x_gR (pc' := 84) (r := (some 2)) rfl rfl rfl (kR_781_0 hc) ?_
    refine x_iload (pc' := 86) rfl rfl rfl ?_
    refine x_bald (pc' := 87) (N := 6) (z := (mB M 2 x)) rfl rfl (kN_22_2 hc) (io_in (p := x) (N := 6) hx (by decide)) (Eq.trans (congrArg (sB t 22 2) (nn_io (p := x) (Nat.lt_trans hx (by decide)))) (gB hM)) ?_
    refine x_ifne_z (a' := 94) (pc' := 90) (z := (mB M 2 x)) rfl rfl rfl (fun q3 => ?_) (fun q3 => ?_)
    · refine x_iconst (pc' := 95) rfl rfl ?_
      refine x_goto (pc' := 114) rfl rfl ?_
      refine x_iast (pc' := 115) (N := 200) (p := x) rfl rfl rfl (kN_21_28 hc) (io_in (p := x) (N := 200) (show x < 200 by omega) (by decide)) (nn_io (p := x) (Nat.lt_trans (show x < 200 by omega) (by decide))) ?_
      refine x_iload (pc' := 117) rfl rfl rfl ?_
      refine x_aload_n (pc' := 118) rfl rfl rfl rfl rfl ?_
      refine x_gR (pc' := 121) (r := (some 28)) rfl rfl rfl (Eq.trans (b := sR t 810 0) rfl (kR_810_0 hc)) ?_
      refine x_iload (pc' := 123) rfl rfl rfl ?_
      refine x_iald (pc' := 124) (N := 200) (x := 0) rfl rfl rfl (Eq.trans rdNA (kN_21_28 hc)) (io_in (p := x) (N := 200) (show x < 200 by omega) (by decide)) (Eq.trans (congrArg (sA (sAw t 21 28 x 0) 21 28) (nn_io (p := x) (Nat.lt_trans (show x < 200 by omega) (by decide)))) sA_s) ?_
      refine x_iadd (pc' := 125) (z := (h + 0)) rfl rfl rfl ?_
      refine x_istore (pc' := 127) (ls' := [_, _, _, _, _, _, _, _]) rfl rfl rfl rfl ?_
      refine x_iinc (pc' := 130) (y := (io (x + 1))) (ls' := [_, _, _, _, _, _, _, _]) rfl rfl rfl (io_add x 1) rfl ?_
      refine x_goto (pc' := 61) rfl rfl ?_
      exact k1 (of_decide_eq_false q2) q3
    · refine x_iload_n (pc' := 91) rfl rfl rfl ?_
      refine x_if (a' := 98) (pc' := 94) (z := false) rfl rfl rfl (by decide) (fun h => by cases h) (fun _ => ?_)
      refine x_iconst (pc' := 95) rfl rfl ?_
      refine x_goto (pc' := 114) rfl rfl ?_
      refine x_iast (pc' := 115) (N := 200) (p := x) rfl rfl rfl (kN_21_28 hc) (io_in (p := x) (N := 200) (show x < 200 by omega) (by decide)) (nn_io (p := x) (Nat.lt_trans (show x < 200 by omega) (by decide))) ?_
      refine x_iload (pc' := 117) rfl rfl rfl ?_
      refine x_aload_n (pc' := 118) rfl rfl rfl rfl rfl ?_
      refine x_gR (pc' := 121) (r := (some 28)) rfl rfl rfl (Eq.trans (b := sR t 810 0) rfl (kR_810_0 hc)) ?_
      refine x_iload (pc' := 123) rfl rfl rfl ?_
      refine x_iald (pc' := 124) (N := 200) (x := 0) rfl rfl rfl (Eq.trans rdNA (kN_21_28 hc)) (io_in (p := x) (N := 200) (show x < 200 by omega) (by decide)) (Eq.trans (congrArg (sA (sAw t 21 28 x 0) 21 28) (nn_io (p := x) (Nat.lt_trans (show x < 200 by omega) (by decide)))) sA_s) ?_
      refine x_iadd (pc' := 125) (z := (h + 0)) rfl rfl rfl ?_
      refine x_istore (pc' := 127) (ls' := [_, _, _, _, _, _, _, _]) rfl rfl rfl rfl ?_
      refine x_iinc (pc' := 130) (y := (io (x + 1))) (ls' := [_, _, _, _, _, _, _, _]) rfl rfl rfl (io_add x 1) rfl ?_
      refine x_goto (pc' := 61) rfl rfl ?_
      exact k2 (of_decide_eq_false q2) q3
set_option maxHeartbeats 4000000 in
set_option maxRecDepth 10000 in
theorem r217_t {t : sT} {Q : sRs → sT → Prop} {M : sM} {n : Nat} {m : Nat} {a : Int32} {u : Int32} {d : Int32} {h : Int32} {y0 : sV}
    (hV : Vr t M n)
    (hm : m < 6)
    (k0 : X 217 136 [.inr (.inr (12, (some 0))), .inl (io m), .inl a, .inl u, .inl d, .inl h, .inl 0, y0] [] t Q) :
    X 217 61 [.inr (.inr (12, (some 0))), .inl (io m), .inl a, .inl u, .inl d, .inl h, .inl 6, y0] [] t Q := by
  obtain ⟨hM, hc, hR⟩ := hV
  refine x_iload (pc' := 63) rfl rfl rfl ?_
  refine x_bipush (pc' := 65) rfl rfl ?_
  refine x_icmp (a' := 133) (pc' := 68) (z := true) rfl rfl rfl (by decide) (fun _ => ?_) (fun h => by cases h)
  refine x_iconst (pc' := 134) rfl rfl ?_
  refine x_istore (pc' := 136) (ls' := [_, _, _, _, _, _, _, _]) rfl rfl rfl rfl ?_
  exact k0
set_option maxHeartbeats 4000000 in
set_option maxRecDepth 10000 in
theorem r217_u {t : sT} {Q : sRs → sT → Prop} {M : sM} {n : Nat} {m : Nat} {x : Nat} {a : Int32} {u : Int32} {d : Int32} {h : Int32} {y0 : sV}
    (hV : Vr t M n)
    (hm : m < 6)
    (hx : x < 6)
    (k0 : ¬ (h < d) → X 217 217 [.inr (.inr (12, (some 0))), .inl (io m), .inl a, .inl u, .inl d, .inl h, .inl 0, y0] [] t Q)
    (k1 : h < d → x = m → X 217 136 [.inr (.inr (12, (some 0))), .inl (io m), .inl a, .inl u, .inl d, .inl (h + 0), .inl ((io (x + 1)) - (io (x + 1)) / 6 * 6), .inl 0] [] (sAw t 21 28 x ((sA t 21 28 x) + 0)) Q)
    (k2 : h < d → ¬ (x = m) → (mB M 2 x) = true → X 217 136 [.inr (.inr (12, (some 0))), .inl (io m), .inl a, .inl u, .inl d, .inl (h + 0), .inl ((io (x + 1)) - (io (x + 1)) / 6 * 6), .inl 0] [] (sAw t 21 28 x ((sA t 21 28 x) + 0)) Q)
    (k3 : h < d → ¬ (x = m) → (mB M 2 x) = false → ¬ ((sA t 21 28 x) < (mA M 7 x)) → X 217 136 [.inr (.inr (12, (some 0))), .inl (io m), .inl a, .inl u, .inl d, .inl (h + 0), .inl ((io (x + 1)) - (io (x + 1)) / 6 * 6), .inl 0] [] (sAw t 21 28 x ((sA t 21 28 x) + 0)) Q)
    (k4 : h < d → ¬ (x = m) → (mB M 2 x) = false → (sA t 21 28 x) < (mA M 7 x) → X 217 136 [.inr (.inr (12, (some 0))), .inl (io m), .inl a, .inl u, .inl d, .inl (h + 1), .inl ((io (x + 1)) - (io (x + 1)) / 6 * 6), .inl 1] [] (sAw t 21 28 x ((sA t 21 28 x) + 1)) Q) :
    X 217 136 [.inr (.inr (12, (some 0))), .inl (io m), .inl a, .inl u, .inl d, .inl h, .inl (io x), y0] [] t Q := by
  obtain ⟨hM, hc, hR⟩ := hV
  refine x_iload (pc' := 138) rfl rfl rfl ?_
  refine x_iload (pc' := 140) rfl rfl rfl ?_
  refine x_icmp_n (a' := 214) (pc' := 143) (z := decide (h < d)) rfl rfl rfl (ik_ge _ _) (fun q1 => ?_) (fun q1 => ?_)
  · refine x_iconst (pc' := 215) rfl rfl ?_
    refine x_istore (pc' := 217) (ls' := [_, _, _, _, _, _, _, _]) rfl rfl rfl rfl ?_
    exact k0 (of_decide_eq_false q1)
  · refine x_iload (pc' := 145) rfl rfl rfl ?_
    refine x_iload_n (pc' := 146) rfl rfl rfl ?_
    refine x_icmp (a' := 180) (pc' := 149) (z := decide (x = m)) rfl rfl rfl (ic_eq (p := x) (q := m) (gm31 hx) (gm31 hm)) (fun q2 => ?_) (fun q2 => ?_)
    · refine x_iconst (pc' := 181) rfl rfl ?_
      refine x_istore (pc' := 183) (ls' := [_, _, _, _, _, _, _, _]) rfl rfl rfl rfl ?_
      refine x_aload_n (pc' := 184) rfl rfl rfl rfl rfl ?_
      refine x_gR (pc' := 187) (r := (some 28)) rfl rfl rfl (kR_810_0 hc) ?_
      refine x_iload (pc' := 189) rfl rfl rfl ?_
      refine x_dup2 (pc' := 190) rfl rfl rfl rfl ?_
      refine x_iald (pc' := 191) (N := 200) (x := (sA t 21 28 x)) rfl rfl rfl (kN_21_28 hc) (io_in (p := x) (N := 200) (show x < 200 by omega) (by decide)) (Eq.trans (congrArg (sA t 21 28) (nn_io (p := x) (Nat.lt_trans (show x < 200 by omega) (by decide)))) rfl) ?_
      refine x_iload (pc' := 193) rfl rfl rfl ?_
      refine x_iadd (pc' := 194) (z := ((sA t 21 28 x) + 0)) rfl rfl rfl ?_
      refine x_iast (pc' := 195) (N := 200) (p := x) rfl rfl rfl (kN_21_28 hc) (io_in (p := x) (N := 200) (show x < 200 by omega) (by decide)) (nn_io (p := x) (Nat.lt_trans (show x < 200 by omega) (by decide))) ?_
      refine x_iload (pc' := 197) rfl rfl rfl ?_
      refine x_iload (pc' := 199) rfl rfl rfl ?_
      refine x_iadd (pc' := 200) (z := (h + 0)) rfl rfl rfl ?_
      refine x_istore (pc' := 202) (ls' := [_, _, _, _, _, _, _, _]) rfl rfl rfl rfl ?_
      refine x_iload (pc' := 204) rfl rfl rfl ?_
      refine x_iconst (pc' := 205) rfl rfl ?_
      refine x_iadd (pc' := 206) (z := (io (x + 1))) rfl rfl (io_add x 1) ?_
      refine x_bipush (pc' := 208) rfl rfl ?_
      refine x_irem (pc' := 209) (z := ((io (x + 1)) - (io (x + 1)) / 6 * 6)) rfl rfl (by decide) rfl ?_
      refine x_istore (pc' := 211) (ls' := [_, _, _, _, _, _, _, _]) rfl rfl rfl rfl ?_
      refine x_goto (pc' := 136) rfl rfl ?_
      exact k1 (of_decide_eq_true q1) (of_decide_eq_true q2)
    · refine x_aload_n (pc' := 150) rfl rfl rfl rfl rfl ?_
      refine x_gR (pc' := 153) (r := (some 2)) rfl rfl rfl (kR_781_0 hc) ?_
      refine x_iload (pc' := 155) rfl rfl rfl ?_
      refine x_bald (pc' := 156) (N := 6) (z := (mB M 2 x)) rfl rfl (kN_22_2 hc) (io_in (p := x) (N := 6) hx (by decide)) (Eq.trans (congrArg (sB t 22 2) (nn_io (p := x) (Nat.lt_trans hx (by decide)))) (gB hM)) ?_
      refine x_ifne_z (a' := 180) (pc' := 159) (z := (mB M 2 x)) rfl rfl rfl (fun q3 => ?_) (fun q3 => ?_)
      · refine x_iconst (pc' := 181) rfl rfl ?_
        refine x_istore (pc' := 183) (ls' := [_, _, _, _, _, _, _, _]) rfl rfl rfl rfl ?_
        refine x_aload_n (pc' := 184) rfl rfl rfl rfl rfl ?_
        refine x_gR (pc' := 187) (r := (some 28)) rfl rfl rfl (kR_810_0 hc) ?_
        refine x_iload (pc' := 189) rfl rfl rfl ?_
        refine x_dup2 (pc' := 190) rfl rfl rfl rfl ?_
        refine x_iald (pc' := 191) (N := 200) (x := (sA t 21 28 x)) rfl rfl rfl (kN_21_28 hc) (io_in (p := x) (N := 200) (show x < 200 by omega) (by decide)) (Eq.trans (congrArg (sA t 21 28) (nn_io (p := x) (Nat.lt_trans (show x < 200 by omega) (by decide)))) rfl) ?_
        refine x_iload (pc' := 193) rfl rfl rfl ?_
        refine x_iadd (pc' := 194) (z := ((sA t 21 28 x) + 0)) rfl rfl rfl ?_
        refine x_iast (pc' := 195) (N := 200) (p := x) rfl rfl rfl (kN_21_28 hc) (io_in (p := x) (N := 200) (show x < 200 by omega) (by decide)) (nn_io (p := x) (Nat.lt_trans (show x < 200 by omega) (by decide))) ?_
        refine x_iload (pc' := 197) rfl rfl rfl ?_
        refine x_iload (pc' := 199) rfl rfl rfl ?_
        refine x_iadd (pc' := 200) (z := (h + 0)) rfl rfl rfl ?_
        refine x_istore (pc' := 202) (ls' := [_, _, _, _, _, _, _, _]) rfl rfl rfl rfl ?_
        refine x_iload (pc' := 204) rfl rfl rfl ?_
        refine x_iconst (pc' := 205) rfl rfl ?_
        refine x_iadd (pc' := 206) (z := (io (x + 1))) rfl rfl (io_add x 1) ?_
        refine x_bipush (pc' := 208) rfl rfl ?_
        refine x_irem (pc' := 209) (z := ((io (x + 1)) - (io (x + 1)) / 6 * 6)) rfl rfl (by decide) rfl ?_
        refine x_istore (pc' := 211) (ls' := [_, _, _, _, _, _, _, _]) rfl rfl rfl rfl ?_
        refine x_goto (pc' := 136) rfl rfl ?_
        exact k2 (of_decide_eq_true q1) (of_decide_eq_false q2) q3
      · refine x_aload_n (pc' := 160) rfl rfl rfl rfl rfl ?_
        refine x_gR (pc' := 163) (r := (some 7)) rfl rfl rfl (kR_777_0 hc) ?_
        refine x_iload (pc' := 165) rfl rfl rfl ?_
        refine x_iald (pc' := 166) (N := 6) (x := (mA M 7 x)) rfl rfl rfl (kN_21_7 hc) (io_in (p := x) (N := 6) hx (by decide)) (Eq.trans (congrArg (sA t 21 7) (nn_io (p := x) (Nat.lt_trans hx (by decide)))) (gA hM rfl)) ?_
        refine x_aload_n (pc' := 167) rfl rfl rfl rfl rfl ?_
        refine x_gR (pc' := 170) (r := (some 28)) rfl rfl rfl (kR_810_0 hc) ?_
        refine x_iload (pc' := 172) rfl rfl rfl ?_
        refine x_iald (pc' := 173) (N := 200) (x := (sA t 21 28 x)) rfl rfl rfl (kN_21_28 hc) (io_in (p := x) (N := 200) (show x < 200 by omega) (by decide)) (Eq.trans (congrArg (sA t 21 28) (nn_io (p := x) (Nat.lt_trans (show x < 200 by omega) (by decide)))) rfl) ?_
        refine x_icmp_n (a' := 180) (pc' := 176) (z := decide ((sA t 21 28 x) < (mA M 7 x))) rfl rfl rfl (ik_le _ _) (fun q4 => ?_) (fun q4 => ?_)
        · refine x_iconst (pc' := 181) rfl rfl ?_
          refine x_istore (pc' := 183) (ls' := [_, _, _, _, _, _, _, _]) rfl rfl rfl rfl ?_
          refine x_aload_n (pc' := 184) rfl rfl rfl rfl rfl ?_
          refine x_gR (pc' := 187) (r := (some 28)) rfl rfl rfl (kR_810_0 hc) ?_
          refine x_iload (pc' := 189) rfl rfl rfl ?_
          refine x_dup2 (pc' := 190) rfl rfl rfl rfl ?_
          refine x_iald (pc' := 191) (N := 200) (x := (sA t 21 28 x)) rfl rfl rfl (kN_21_28 hc) (io_in (p := x) (N := 200) (show x < 200 by omega) (by decide)) (Eq.trans (congrArg (sA t 21 28) (nn_io (p := x) (Nat.lt_trans (show x < 200 by omega) (by decide)))) rfl) ?_
          refine x_iload (pc' := 193) rfl rfl rfl ?_
          refine x_iadd (pc' := 194) (z := ((sA t 21 28 x) + 0)) rfl rfl rfl ?_
          refine x_iast (pc' := 195) (N := 200) (p := x) rfl rfl rfl (kN_21_28 hc) (io_in (p := x) (N := 200) (show x < 200 by omega) (by decide)) (nn_io (p := x) (Nat.lt_trans (show x < 200 by omega) (by decide))) ?_
          refine x_iload (pc' := 197) rfl rfl rfl ?_
          refine x_iload (pc' := 199) rfl rfl rfl ?_
          refine x_iadd (pc' := 200) (z := (h + 0)) rfl rfl rfl ?_
          refine x_istore (pc' := 202) (ls' := [_, _, _, _, _, _, _, _]) rfl rfl rfl rfl ?_
          refine x_iload (pc' := 204) rfl rfl rfl ?_
          refine x_iconst (pc' := 205) rfl rfl ?_
          refine x_iadd (pc' := 206) (z := (io (x + 1))) rfl rfl (io_add x 1) ?_
          refine x_bipush (pc' := 208) rfl rfl ?_
          refine x_irem (pc' := 209) (z := ((io (x + 1)) - (io (x + 1)) / 6 * 6)) rfl rfl (by decide) rfl ?_
          refine x_istore (pc' := 211) (ls' := [_, _, _, _, _, _, _, _]) rfl rfl rfl rfl ?_
          refine x_goto (pc' := 136) rfl rfl ?_
          exact k3 (of_decide_eq_true q1) (of_decide_eq_false q2) q3 (of_decide_eq_false q4)
        · refine x_iconst (pc' := 177) rfl rfl ?_
          refine x_goto (pc' := 181) rfl rfl ?_
          refine x_istore (pc' := 183) (ls' := [_, _, _, _, _, _, _, _]) rfl rfl rfl rfl ?_
          refine x_aload_n (pc' := 184) rfl rfl rfl rfl rfl ?_
          refine x_gR (pc' := 187) (r := (some 28)) rfl rfl rfl (kR_810_0 hc) ?_
          refine x_iload (pc' := 189) rfl rfl rfl ?_
          refine x_dup2 (pc' := 190) rfl rfl rfl rfl ?_
          refine x_iald (pc' := 191) (N := 200) (x := (sA t 21 28 x)) rfl rfl rfl (kN_21_28 hc) (io_in (p := x) (N := 200) (show x < 200 by omega) (by decide)) (Eq.trans (congrArg (sA t 21 28) (nn_io (p := x) (Nat.lt_trans (show x < 200 by omega) (by decide)))) rfl) ?_
          refine x_iload (pc' := 193) rfl rfl rfl ?_
          refine x_iadd (pc' := 194) (z := ((sA t 21 28 x) + 1)) rfl rfl rfl ?_
          refine x_iast (pc' := 195) (N := 200) (p := x) rfl rfl rfl (kN_21_28 hc) (io_in (p := x) (N := 200) (show x < 200 by omega) (by decide)) (nn_io (p := x) (Nat.lt_trans (show x < 200 by omega) (by decide))) ?_
          refine x_iload (pc' := 197) rfl rfl rfl ?_
          refine x_iload (pc' := 199) rfl rfl rfl ?_
          refine x_iadd (pc' := 200) (z := (h + 1)) rfl rfl rfl ?_
          refine x_istore (pc' := 202) (ls' := [_, _, _, _, _, _, _, _]) rfl rfl rfl rfl ?_
          refine x_iload (pc' := 204) rfl rfl rfl ?_
          refine x_iconst (pc' := 205) rfl rfl ?_
          refine x_iadd (pc' := 206) (z := (io (x + 1))) rfl rfl (io_add x 1) ?_
          refine x_bipush (pc' := 208) rfl rfl ?_
          refine x_irem (pc' := 209) (z := ((io (x + 1)) - (io (x + 1)) / 6 * 6)) rfl rfl (by decide) rfl ?_
          refine x_istore (pc' := 211) (ls' := [_, _, _, _, _, _, _, _]) rfl rfl rfl rfl ?_
          refine x_goto (pc' := 136) rfl rfl ?_
          exact k4 (of_decide_eq_true q1) (of_decide_eq_false q2) q3 (of_decide_eq_true q4)
set_option maxHeartbeats 4000000 in
set_option maxRecDepth 10000 in
theorem r217_p {t : sT} {Q : sRs → sT → Prop} {M : sM} {n : Nat} {m : Nat} {x : Nat} {a : Int32} {u : Int32} {d : Int32} {h : Int32} {y0 : sV}
    (hV : Vr t M n)
    (hm : m < 6)
    (hx : x < 6)
    (k0 : X 217 217 [.inr (.inr (12, (some 0))), .inl (io m), .inl a, .inl u, .inl d, .inl h, .inl (io (x + 1)), y0] [] (sAw t 21 7 x ((mA M 7 x) - (sA t 21 28 x))) Q) :
    X 217 217 [.inr (.inr (12, (some 0))), .inl (io m), .inl a, .inl u, .inl d, .inl h, .inl (io x), y0] [] t Q := by
  obtain ⟨hM, hc, hR⟩ := hV
  refine x_iload (pc' := 219) rfl rfl rfl ?_
  refine x_bipush (pc' := 221) rfl rfl ?_
  refine x_icmp_n (a' := 247) (pc' := 224) (z := decide (x < 6)) rfl rfl rfl (ic_gen (p := x) (q := 6) (gm31 hx) (by decide)) (fun h => absurd hx (of_decide_eq_false h)) (fun _ => ?_)
  refine x_aload_n (pc' := 225) rfl rfl rfl rfl rfl ?_
  refine x_gR (pc' := 228) (r := (some 7)) rfl rfl rfl (kR_777_0 hc) ?_
  refine x_iload (pc' := 230) rfl rfl rfl ?_
  refine x_dup2 (pc' := 231) rfl rfl rfl rfl ?_
  refine x_iald (pc' := 232) (N := 6) (x := (mA M 7 x)) rfl rfl rfl (kN_21_7 hc) (io_in (p := x) (N := 6) hx (by decide)) (Eq.trans (congrArg (sA t 21 7) (nn_io (p := x) (Nat.lt_trans hx (by decide)))) (gA hM rfl)) ?_
  refine x_aload_n (pc' := 233) rfl rfl rfl rfl rfl ?_
  refine x_gR (pc' := 236) (r := (some 28)) rfl rfl rfl (kR_810_0 hc) ?_
  refine x_iload (pc' := 238) rfl rfl rfl ?_
  refine x_iald (pc' := 239) (N := 200) (x := (sA t 21 28 x)) rfl rfl rfl (kN_21_28 hc) (io_in (p := x) (N := 200) (show x < 200 by omega) (by decide)) (Eq.trans (congrArg (sA t 21 28) (nn_io (p := x) (Nat.lt_trans (show x < 200 by omega) (by decide)))) rfl) ?_
  refine x_isub (pc' := 240) (z := ((mA M 7 x) - (sA t 21 28 x))) rfl rfl rfl ?_
  refine x_iast (pc' := 241) (N := 6) (p := x) rfl rfl rfl (kN_21_7 hc) (io_in (p := x) (N := 6) hx (by decide)) (nn_io (p := x) (Nat.lt_trans hx (by decide))) ?_
  refine x_iinc (pc' := 244) (y := (io (x + 1))) (ls' := [_, _, _, _, _, _, _, _]) rfl rfl rfl (io_add x 1) rfl ?_
  refine x_goto (pc' := 217) rfl rfl ?_
  exact k0
set_option maxHeartbeats 4000000 in
set_option maxRecDepth 10000 in
theorem r217_q {t : sT} {Q : sRs → sT → Prop} {M : sM} {n : Nat} {m : Nat} {a : Int32} {u : Int32} {d : Int32} {h : Int32} {y0 : sV}
    (hV : Vr t M n)
    (hm : m < 6)
    (k0 : Q (.inl (some (.inl (a - d)))) t) :
    X 217 217 [.inr (.inr (12, (some 0))), .inl (io m), .inl a, .inl u, .inl d, .inl h, .inl 6, y0] [] t Q := by
  obtain ⟨hM, hc, hR⟩ := hV
  refine x_iload (pc' := 219) rfl rfl rfl ?_
  refine x_bipush (pc' := 221) rfl rfl ?_
  refine x_icmp (a' := 247) (pc' := 224) (z := true) rfl rfl rfl (by decide) (fun _ => ?_) (fun h => by cases h)
  refine x_iload_n (pc' := 248) rfl rfl rfl ?_
  refine x_iload (pc' := 250) rfl rfl rfl ?_
  refine x_isub (pc' := 251) (z := (a - d)) rfl rfl rfl ?_
  refine x_reti rfl rfl ?_
  exact k0
set_option maxHeartbeats 4000000 in
set_option maxRecDepth 10000 in
theorem r219_1nw {t : sT} {Q : sRs → sT → Prop} {M : sM} {n : Nat} {m : Nat} {z : Bool} {y0 : sV} {y1 : sV} {y2 : sV}
    (hV : Vr t M n)
    (hm : m < 6)
    (k0 : X 219 97 [.inr (.inr (12, (some 0))), .inl (io m), .inl (bz z), .inl (-1), .inl 0, y2] [] t Q) :
    X 219 93 [.inr (.inr (12, (some 0))), .inl (io m), .inl (bz z), y0, y1, y2] [.inl (-1)] t Q := by
  obtain ⟨hM, hc, hR⟩ := hV
  refine x_istore_n (pc' := 94) (ls' := [_, _, _, _, _, _]) rfl rfl rfl rfl ?_
  refine x_iconst (pc' := 95) rfl rfl ?_
  refine x_istore (pc' := 97) (ls' := [_, _, _, _, _, _]) rfl rfl rfl rfl ?_
  exact k0
set_option maxHeartbeats 4000000 in
set_option maxRecDepth 10000 in
theorem r219_1sw {t : sT} {Q : sRs → sT → Prop} {M : sM} {n : Nat} {m : Nat} {z : Bool} {k : Nat} {y0 : sV} {y1 : sV} {y2 : sV}
    (hV : Vr t M n)
    (hm : m < 6)
    (hk : k < 6)
    (k0 : X 219 97 [.inr (.inr (12, (some 0))), .inl (io m), .inl (bz z), .inl (io k), .inl 0, y2] [] t Q) :
    X 219 93 [.inr (.inr (12, (some 0))), .inl (io m), .inl (bz z), y0, y1, y2] [.inl (io k)] t Q := by
  obtain ⟨hM, hc, hR⟩ := hV
  refine x_istore_n (pc' := 94) (ls' := [_, _, _, _, _, _]) rfl rfl rfl rfl ?_
  refine x_iconst (pc' := 95) rfl rfl ?_
  refine x_istore (pc' := 97) (ls' := [_, _, _, _, _, _]) rfl rfl rfl rfl ?_
  exact k0
