/-! what is open, and the need: the class (printed by open93.py, its end by hand: open94.txt) -/
set_option maxHeartbeats 4000000 in
set_option maxRecDepth 10000 in
theorem n41 {t : sT} {Q : sRs → sT → Prop} {M : sM} {n : Nat} {T : Nat} {L0 : List Nat} {A : Nat} {B : Nat} {c : Nat} {d : Nat} {s : Bool} {a : Int32}
    (hW : Wc t M n T L0 A B)
    (hN : sN t 20 c = 6)
    (hd3 : d < 3)
    (k0 : s = false → Q (.inl none) (sAw t 20 c (d + 3) ((sA t 20 c (d + 3)) + a)))
    (k1 : s = true → Q (.inl none) (sAw t 20 c d ((sA t 20 c d) + a))) :
    X 41 0 [.inr (.inr (20, (some c))), .inr (.inr (2, (some d))), .inl (bz s), .inl a, sJk] [] t Q := by
  obtain ⟨hM, hc, hR, hC, hL, hL9⟩ := hW
  refine x_iload_n (pc' := 1) rfl rfl rfl ?_
  refine x_ifeq_z (a' := 11) (pc' := 4) (z := s) rfl rfl rfl (fun q1 => ?_) (fun q1 => ?_)
  · refine x_aload_n (pc' := 12) rfl rfl rfl rfl rfl ?_
    refine x_gI (pc' := 15) (x := (io d)) rfl rfl rfl (kKn hc.1 hd3) ?_
    refine x_iconst (pc' := 16) rfl rfl ?_
    refine x_iadd (pc' := 17) (z := (io (d + 3))) rfl rfl (io_add d 3) ?_
    refine x_istore (pc' := 19) (ls' := [_, _, _, _, _]) rfl rfl rfl rfl ?_
    refine x_iload (pc' := 21) rfl rfl rfl ?_
    refine x_if (a' := 39) (pc' := 24) (z := decide ((d + 3) < 0)) rfl rfl rfl (ic_lt (p := (d + 3)) (q := 0) (show d + 3 < 2 ^ 31 by omega) (by decide)) (fun h => absurd (of_decide_eq_true h) (by first | decide | omega | simp)) (fun _ => ?_)
    refine x_iload (pc' := 26) rfl rfl rfl ?_
    refine x_aload_n (pc' := 27) rfl rfl rfl rfl rfl ?_
    refine x_alen (pc' := 28) (N := 6) rfl rfl rfl hN (?_ : X _ _ _ (.inl 6 :: _) _ _)
    refine x_icmp_n (a' := 39) (pc' := 31) (z := decide ((d + 3) < 6)) rfl rfl rfl (ic_gen (p := (d + 3)) (q := 6) (show d + 3 < 2 ^ 31 by omega) (by decide)) (fun h => absurd (show d + 3 < 6 by omega) (of_decide_eq_false h)) (fun _ => ?_)
    refine x_aload_n (pc' := 32) rfl rfl rfl rfl rfl ?_
    refine x_iload (pc' := 34) rfl rfl rfl ?_
    refine x_dup2 (pc' := 35) rfl rfl rfl rfl ?_
    refine x_iald (pc' := 36) (N := 6) (x := (sA t 20 c (d + 3))) rfl rfl rfl hN (io_in (p := (d + 3)) (N := 6) (show d + 3 < 6 by omega) (by decide)) (Eq.trans (congrArg (sA t 20 c) (nn_io (p := (d + 3)) (Nat.lt_trans (show d + 3 < 6 by omega) (by decide)))) rfl) ?_
    refine x_iload_n (pc' := 37) rfl rfl rfl ?_
    refine x_iadd (pc' := 38) (z := ((sA t 20 c (d + 3)) + a)) rfl rfl rfl ?_
    refine x_iast (pc' := 39) (N := 6) (p := (d + 3)) rfl rfl rfl hN (io_in (p := (d + 3)) (N := 6) (show d + 3 < 6 by omega) (by decide)) (nn_io (p := (d + 3)) (Nat.lt_trans (show d + 3 < 6 by omega) (by decide))) ?_
    refine x_ret rfl ?_
    exact k0 q1
  · refine x_aload_n (pc' := 5) rfl rfl rfl rfl rfl ?_
    refine x_gI (pc' := 8) (x := (io d)) rfl rfl rfl (kKn hc.1 hd3) ?_
    refine x_goto (pc' := 17) rfl rfl ?_
    refine x_istore (pc' := 19) (ls' := [_, _, _, _, _]) rfl rfl rfl rfl ?_
    refine x_iload (pc' := 21) rfl rfl rfl ?_
    refine x_if (a' := 39) (pc' := 24) (z := decide (d < 0)) rfl rfl rfl (ic_lt (p := d) (q := 0) (gc31 hd3) (by decide)) (fun h => absurd (of_decide_eq_true h) (by first | decide | omega | simp)) (fun _ => ?_)
    refine x_iload (pc' := 26) rfl rfl rfl ?_
    refine x_aload_n (pc' := 27) rfl rfl rfl rfl rfl ?_
    refine x_alen (pc' := 28) (N := 6) rfl rfl rfl hN (?_ : X _ _ _ (.inl 6 :: _) _ _)
    refine x_icmp_n (a' := 39) (pc' := 31) (z := decide (d < 6)) rfl rfl rfl (ic_gen (p := d) (q := 6) (gc31 hd3) (by decide)) (fun h => absurd (show d < 6 by omega) (of_decide_eq_false h)) (fun _ => ?_)
    refine x_aload_n (pc' := 32) rfl rfl rfl rfl rfl ?_
    refine x_iload (pc' := 34) rfl rfl rfl ?_
    refine x_dup2 (pc' := 35) rfl rfl rfl rfl ?_
    refine x_iald (pc' := 36) (N := 6) (x := (sA t 20 c d)) rfl rfl rfl hN (io_in (p := d) (N := 6) (show d < 6 by omega) (by decide)) (Eq.trans (congrArg (sA t 20 c) (nn_io (p := d) (Nat.lt_trans (show d < 6 by omega) (by decide)))) rfl) ?_
    refine x_iload_n (pc' := 37) rfl rfl rfl ?_
    refine x_iadd (pc' := 38) (z := ((sA t 20 c d) + a)) rfl rfl rfl ?_
    refine x_iast (pc' := 39) (N := 6) (p := d) rfl rfl rfl hN (io_in (p := d) (N := 6) (show d < 6 by omega) (by decide)) (nn_io (p := d) (Nat.lt_trans (show d < 6 by omega) (by decide))) ?_
    refine x_ret rfl ?_
    exact k1 q1
set_option maxHeartbeats 4000000 in
set_option maxRecDepth 10000 in
theorem n40_0 {t : sT} {Q : sRs → sT → Prop} {M : sM} {n : Nat} {T : Nat} {L0 : List Nat} {A : Nat} {B : Nat} {c : Nat} {b : Nat} {s : Bool} {a : Int32}
    (hW : Wc t M n T L0 A B)
    (hN : sN t 20 c = 6)
    (hb : b < 5)
    (k0 : X 41 0 [.inr (.inr (20, (some c))), .inr (.inr (2, (some (fst b)))), .inl (bz s), .inl a, sJk] [] t (sK 41 40 7 [.inr (.inr (20, (some c))), .inr (.inr (1, (some b))), .inl (bz s), .inl a] [] Q)) :
    X 40 0 [.inr (.inr (20, (some c))), .inr (.inr (1, (some b))), .inl (bz s), .inl a] [] t Q := by
  obtain ⟨hM, hc, hR, hC, hL, hL9⟩ := hW
  refine x_aload_n (pc' := 1) rfl rfl rfl rfl rfl ?_
  refine x_aload_n (pc' := 2) rfl rfl rfl rfl rfl ?_
  refine x_gR (pc' := 5) (r := (some (fst b))) rfl rfl rfl (kBk hc.1 hb).1 ?_
  refine x_iload_n (pc' := 6) rfl rfl rfl ?_
  refine x_iload_n (pc' := 7) rfl rfl rfl ?_
  refine x_cs (ls0 := [_, _, _, _, sJk]) (rest := []) rfl rfl rfl rfl ?_
  exact k0
set_option maxHeartbeats 4000000 in
set_option maxRecDepth 10000 in
theorem n40_10 {t : sT} {Q : sRs → sT → Prop} {M : sM} {n : Nat} {T : Nat} {L0 : List Nat} {A : Nat} {B : Nat} {c : Nat} {b : Nat} {s : Bool} {a : Int32}
    (hW : Wc t M n T L0 A B)
    (hN : sN t 20 c = 6)
    (hb : b < 5)
    (k0 : (snd b) = none → Q (.inl none) t)
    (k1 : ∀ j0, (snd b) = some j0 → s = true → X 41 0 [.inr (.inr (20, (some c))), .inr (.inr (2, (some j0))), .inl 0, .inl a, sJk] [] t (sK 41 40 32 [.inr (.inr (20, (some c))), .inr (.inr (1, (some b))), .inl (bz s), .inl a] [] Q))
    (k2 : ∀ j0, (snd b) = some j0 → s = false → X 41 0 [.inr (.inr (20, (some c))), .inr (.inr (2, (some j0))), .inl 1, .inl a, sJk] [] t (sK 41 40 32 [.inr (.inr (20, (some c))), .inr (.inr (1, (some b))), .inl (bz s), .inl a] [] Q)) :
    X 40 10 [.inr (.inr (20, (some c))), .inr (.inr (1, (some b))), .inl (bz s), .inl a] [] t Q := by
  obtain ⟨hM, hc, hR, hC, hL, hL9⟩ := hW
  refine x_aload_n (pc' := 11) rfl rfl rfl rfl rfl ?_
  refine x_gR (pc' := 14) (r := (snd b)) rfl rfl rfl (kBk hc.1 hb).2.1 ?_
  refine x_ifnull (a' := 35) (pc' := 17) rfl rfl rfl rfl (fun q1 => ?_) (fun j0 q1 => ?_)
  · refine x_ret rfl ?_
    exact k0 q1
  · refine x_aload_n (pc' := 18) rfl rfl rfl rfl rfl ?_
    refine x_aload_n (pc' := 19) rfl rfl rfl rfl rfl ?_
    refine x_gR (pc' := 22) (r := (some j0)) rfl rfl rfl (Eq.trans (kBk hc.1 hb).2.1 q1) ?_
    refine x_iload_n (pc' := 23) rfl rfl rfl ?_
    refine x_ifne_z (a' := 30) (pc' := 26) (z := s) rfl rfl rfl (fun q2 => ?_) (fun q2 => ?_)
    · refine x_iconst (pc' := 31) rfl rfl ?_
      refine x_iload_n (pc' := 32) rfl rfl rfl ?_
      refine x_cs (ls0 := [_, _, _, _, sJk]) (rest := []) rfl rfl rfl rfl ?_
      exact k1 j0 q1 q2
    · refine x_iconst (pc' := 27) rfl rfl ?_
      refine x_goto (pc' := 31) rfl rfl ?_
      refine x_iload_n (pc' := 32) rfl rfl rfl ?_
      refine x_cs (ls0 := [_, _, _, _, sJk]) (rest := []) rfl rfl rfl rfl ?_
      exact k2 j0 q1 q2
set_option maxHeartbeats 4000000 in
set_option maxRecDepth 10000 in
theorem n40_35 {t : sT} {Q : sRs → sT → Prop} {M : sM} {n : Nat} {T : Nat} {L0 : List Nat} {A : Nat} {B : Nat} {c : Nat} {b : Nat} {s : Bool} {a : Int32}
    (hW : Wc t M n T L0 A B)
    (hN : sN t 20 c = 6)
    (hb : b < 5)
    (k0 : Q (.inl none) t) :
    X 40 35 [.inr (.inr (20, (some c))), .inr (.inr (1, (some b))), .inl (bz s), .inl a] [] t Q := by
  obtain ⟨hM, hc, hR, hC, hL, hL9⟩ := hW
  refine x_ret rfl ?_
  exact k0
set_option maxHeartbeats 4000000 in
set_option maxRecDepth 10000 in
theorem n39_0 {t : sT} {Q : sRs → sT → Prop} {M : sM} {n : Nat} {T : Nat} {L0 : List Nat} {A : Nat} {B : Nat} {m : Nat} {r : Option Nat} {c : Nat}
    (hW : Wc t M n T L0 A B)
    (hcc : sC t 20 = c)
    (k0 : X 39 8 [.inr (.inr (4, (some 0))), .inr (.inr (7, (some m))), .inr (.inr (1, r)), .inr (.inr (20, (some c))), .inl 0, sJk, sJk] [] (sNwA t 20 6) Q) :
    X 39 0 [.inr (.inr (4, (some 0))), .inr (.inr (7, (some m))), .inr (.inr (1, r)), sJk, sJk, sJk, sJk] [] t Q := by
  obtain ⟨hM, hc, hR, hC, hL, hL9⟩ := hW
  refine x_bipush (pc' := 2) rfl rfl ?_
  refine x_newarray (pc' := 4) (N := 6) (i := c) rfl rfl rfl rfl hcc ?_
  refine x_astore_n (pc' := 5) (ls' := [_, _, _, _, _, _, _]) rfl rfl rfl rfl rfl ?_
  refine x_iconst (pc' := 6) rfl rfl ?_
  refine x_istore (pc' := 8) (ls' := [_, _, _, _, _, _, _]) rfl rfl rfl rfl ?_
  exact k0
set_option maxHeartbeats 4000000 in
set_option maxRecDepth 10000 in
theorem n39_8 {t : sT} {Q : sRs → sT → Prop} {M : sM} {n : Nat} {T : Nat} {L0 : List Nat} {A : Nat} {B : Nat} {m : Nat} {r : Option Nat} {c : Nat} {k : Nat} {y0 : sV} {y1 : sV}
    (hW : Wc t M n T L0 A B)
    (hN : sN t 20 c = 6)
    (hk : k < n)
    (k0 : (mB M 4 k) = false → ¬ (oM M k = m) → X 39 8 [.inr (.inr (4, (some 0))), .inr (.inr (7, (some m))), .inr (.inr (1, r)), .inr (.inr (20, (some c))), .inl (io (k + 1)), .inr (.inr (8, (some k))), .inl 0] [] t Q)
    (k1 : (mB M 4 k) = false → oM M k = m → (mA M 19 k) = 0 → X 40 0 [.inr (.inr (20, (some c))), .inr (.inr (1, (some (oB M k)))), .inl (bz (mB M 3 k)), .inl (mA M 15 k)] [] t (sK 40 39 96 [.inr (.inr (4, (some 0))), .inr (.inr (7, (some m))), .inr (.inr (1, r)), .inr (.inr (20, (some c))), .inl (io k), .inr (.inr (8, (some k))), .inl 0] [] Q))
    (k2 : (mB M 4 k) = false → oM M k = m → ¬ ((mA M 19 k) = 0) → ¬ ((mA M 19 k) = 1) → X 39 8 [.inr (.inr (4, (some 0))), .inr (.inr (7, (some m))), .inr (.inr (1, r)), .inr (.inr (20, (some c))), .inl (io (k + 1)), .inr (.inr (8, (some k))), .inl 0] [] t Q)
    (k3 : (mB M 4 k) = false → oM M k = m → ¬ ((mA M 19 k) = 0) → (mA M 19 k) = 1 → X 40 0 [.inr (.inr (20, (some c))), .inr (.inr (1, (some (oB M k)))), .inl (bz (mB M 3 k)), .inl (mA M 15 k)] [] t (sK 40 39 96 [.inr (.inr (4, (some 0))), .inr (.inr (7, (some m))), .inr (.inr (1, r)), .inr (.inr (20, (some c))), .inl (io k), .inr (.inr (8, (some k))), .inl 0] [] Q))
    (k4 : (mB M 4 k) = true → ¬ ((some (oB M k)) = r) → ¬ (oM M k = m) → X 39 8 [.inr (.inr (4, (some 0))), .inr (.inr (7, (some m))), .inr (.inr (1, r)), .inr (.inr (20, (some c))), .inl (io (k + 1)), .inr (.inr (8, (some k))), .inl 0] [] t Q)
    (k5 : (mB M 4 k) = true → ¬ ((some (oB M k)) = r) → oM M k = m → (mA M 19 k) = 0 → X 40 0 [.inr (.inr (20, (some c))), .inr (.inr (1, (some (oB M k)))), .inl (bz (mB M 3 k)), .inl (mA M 15 k)] [] t (sK 40 39 96 [.inr (.inr (4, (some 0))), .inr (.inr (7, (some m))), .inr (.inr (1, r)), .inr (.inr (20, (some c))), .inl (io k), .inr (.inr (8, (some k))), .inl 0] [] Q))
    (k6 : (mB M 4 k) = true → ¬ ((some (oB M k)) = r) → oM M k = m → ¬ ((mA M 19 k) = 0) → ¬ ((mA M 19 k) = 1) → X 39 8 [.inr (.inr (4, (some 0))), .inr (.inr (7, (some m))), .inr (.inr (1, r)), .inr (.inr (20, (some c))), .inl (io (k + 1)), .inr (.inr (8, (some k))), .inl 0] [] t Q)
    (k7 : (mB M 4 k) = true → ¬ ((some (oB M k)) = r) → oM M k = m → ¬ ((mA M 19 k) = 0) → (mA M 19 k) = 1 → X 40 0 [.inr (.inr (20, (some c))), .inr (.inr (1, (some (oB M k)))), .inl (bz (mB M 3 k)), .inl (mA M 15 k)] [] t (sK 40 39 96 [.inr (.inr (4, (some 0))), .inr (.inr (7, (some m))), .inr (.inr (1, r)), .inr (.inr (20, (some c))), .inl (io k), .inr (.inr (8, (some k))), .inl 0] [] Q))
    (k8 : (mB M 4 k) = true → (some (oB M k)) = r → ¬ (oM M k = m) → X 39 8 [.inr (.inr (4, (some 0))), .inr (.inr (7, (some m))), .inr (.inr (1, r)), .inr (.inr (20, (some c))), .inl (io (k + 1)), .inr (.inr (8, (some k))), .inl 1] [] t Q)
    (k9 : (mB M 4 k) = true → (some (oB M k)) = r → oM M k = m → (mA M 19 k) = 0 → X 39 8 [.inr (.inr (4, (some 0))), .inr (.inr (7, (some m))), .inr (.inr (1, r)), .inr (.inr (20, (some c))), .inl (io (k + 1)), .inr (.inr (8, (some k))), .inl 1] [] t Q)
    (k10 : (mB M 4 k) = true → (some (oB M k)) = r → oM M k = m → ¬ ((mA M 19 k) = 0) → ¬ ((mA M 19 k) = 1) → X 39 8 [.inr (.inr (4, (some 0))), .inr (.inr (7, (some m))), .inr (.inr (1, r)), .inr (.inr (20, (some c))), .inl (io (k + 1)), .inr (.inr (8, (some k))), .inl 1] [] t Q)
    (k11 : (mB M 4 k) = true → (some (oB M k)) = r → oM M k = m → ¬ ((mA M 19 k) = 0) → (mA M 19 k) = 1 → X 39 8 [.inr (.inr (4, (some 0))), .inr (.inr (7, (some m))), .inr (.inr (1, r)), .inr (.inr (20, (some c))), .inl (io (k + 1)), .inr (.inr (8, (some k))), .inl 1] [] t Q) :
    X 39 8 [.inr (.inr (4, (some 0))), .inr (.inr (7, (some m))), .inr (.inr (1, r)), .inr (.inr (20, (some c))), .inl (io k), y0, y1] [] t Q := by
  obtain ⟨hM, hc, hR, hC, hL, hL9⟩ := hW
  refine x_iload (pc' := 10) rfl rfl rfl ?_
  refine x_aload_n (pc' := 11) rfl rfl rfl rfl rfl ?_
  refine x_gR (pc' := 14) (r := (some 1)) rfl rfl rfl (kR_257_0 hc.1) ?_
  refine x_cv (ls0 := [_]) (rest := [_]) rfl rfl rfl rfl rfl ?_
  refine x_aload_n (pc' := 1) rfl rfl rfl rfl rfl ?_
  refine x_gI (pc' := 4) (x := (io n)) rfl rfl rfl (Sf_n hc) ?_
  refine x_reti rfl rfl ?_
  refine sK_i (pc' := 17) rfl ?_
  refine x_icmp_n (a' := 105) (pc' := 20) (z := decide (k < n)) rfl rfl rfl (ic_gen (p := k) (q := n) (Nat.lt_trans hk (gn31 hR)) (gn31 hR)) (fun h => absurd hk (of_decide_eq_false h)) (fun _ => ?_)
  refine x_aload_n (pc' := 21) rfl rfl rfl rfl rfl ?_
  refine x_gR (pc' := 24) (r := (some 1)) rfl rfl rfl (kR_257_0 hc.1) ?_
  refine x_iload (pc' := 26) rfl rfl rfl ?_
  refine x_cv (ls0 := [_, _]) (rest := []) rfl rfl rfl rfl rfl ?_
  refine Sf_gO hc (Fr.ri (Fr.refl _) hR) hk ?_
  refine sK_i (pc' := 29) rfl ?_
  refine x_cast (pc' := 32) rfl rfl rfl ?_
  refine x_astore (pc' := 34) (ls' := [_, _, _, _, _, _, _]) rfl rfl rfl rfl rfl ?_
  refine x_aload (pc' := 36) rfl rfl rfl rfl rfl ?_
  refine x_gZ (pc' := 39) (z := (mB M 4 k)) rfl rfl rfl (kZ hM rfl hk) ?_
  refine x_ifeq_z (a' := 55) (pc' := 42) (z := (mB M 4 k)) rfl rfl rfl (fun q2 => ?_) (fun q2 => ?_)
  · refine x_iconst (pc' := 56) rfl rfl ?_
    refine x_istore (pc' := 58) (ls' := [_, _, _, _, _, _, _]) rfl rfl rfl rfl ?_
    refine x_aload (pc' := 60) rfl rfl rfl rfl rfl ?_
    refine x_gR (pc' := 63) (r := (some (oM M k))) rfl rfl rfl (Sf_513f hc (Fr.refl _) hk) ?_
    refine x_aload_n (pc' := 64) rfl rfl rfl rfl rfl ?_
    refine x_acmp_nen (a' := 99) (pc' := 67) (z := decide (oM M k = m)) rfl rfl rfl rfl dec_some (fun q3 => ?_) (fun q3 => ?_)
    · refine x_iinc (pc' := 102) (y := (io (k + 1))) (ls' := [_, _, _, _, _, _, _]) rfl rfl rfl (io_add k 1) rfl ?_
      refine x_goto (pc' := 8) rfl rfl ?_
      exact k0 q2 (of_decide_eq_false q3)
    · refine x_aload (pc' := 69) rfl rfl rfl rfl rfl ?_
      refine x_cv (ls0 := [_]) (rest := []) rfl rfl rfl rfl rfl ?_
      refine x_aload_n (pc' := 1) rfl rfl rfl rfl rfl ?_
      refine x_gI (pc' := 4) (x := (mA M 19 k)) rfl rfl rfl (kA hM rfl hk) ?_
      refine x_if (a' := 15) (pc' := 7) (z := decide ((mA M 19 k) = 0)) rfl rfl rfl rfl (fun q4 => ?_) (fun q4 => ?_)
      · refine x_iconst (pc' := 16) rfl rfl ?_
        refine x_goto (pc' := 20) rfl rfl ?_
        refine x_retz (z := true) rfl rfl ?_
        refine sK_i (pc' := 72) rfl ?_
        refine x_if (a' := 99) (pc' := 75) (z := false) rfl rfl rfl (by decide) (fun h => by cases h) (fun _ => ?_)
        refine x_iload (pc' := 77) rfl rfl rfl ?_
        refine x_if (a' := 99) (pc' := 80) (z := false) rfl rfl rfl (by decide) (fun h => by cases h) (fun _ => ?_)
        refine x_aload_n (pc' := 81) rfl rfl rfl rfl rfl ?_
        refine x_aload (pc' := 83) rfl rfl rfl rfl rfl ?_
        refine x_gR (pc' := 86) (r := (some (oB M k))) rfl rfl rfl (Sf_514f hc (Fr.refl _) hk) ?_
        refine x_aload (pc' := 88) rfl rfl rfl rfl rfl ?_
        refine x_gZ (pc' := 91) (z := (mB M 3 k)) rfl rfl rfl ((kZ hM rfl hk).trans (congrFun (Fr.f3 (Fr.refl _)) _)) ?_
        refine x_aload (pc' := 93) rfl rfl rfl rfl rfl ?_
        refine x_gI (pc' := 96) (x := (mA M 15 k)) rfl rfl rfl (kA hM rfl hk) ?_
        refine x_cs (ls0 := [_, _, _, _]) (rest := []) rfl rfl rfl rfl ?_
        exact k1 q2 (of_decide_eq_true q3) (of_decide_eq_true q4)
      · refine x_aload_n (pc' := 8) rfl rfl rfl rfl rfl ?_
        refine x_gI (pc' := 11) (x := (mA M 19 k)) rfl rfl rfl (kA hM rfl hk) ?_
        refine x_iconst (pc' := 12) rfl rfl ?_
        refine x_icmp_n (a' := 19) (pc' := 15) (z := decide ((mA M 19 k) = 1)) rfl rfl rfl (ik_ne _ _) (fun q7 => ?_) (fun q7 => ?_)
        · refine x_iconst (pc' := 20) rfl rfl ?_
          refine x_retz (z := false) rfl rfl ?_
          refine sK_i (pc' := 72) rfl ?_
          refine x_if (a' := 99) (pc' := 75) (z := true) rfl rfl rfl (by decide) (fun _ => ?_) (fun h => by cases h)
          refine x_iinc (pc' := 102) (y := (io (k + 1))) (ls' := [_, _, _, _, _, _, _]) rfl rfl rfl (io_add k 1) rfl ?_
          refine x_goto (pc' := 8) rfl rfl ?_
          exact k2 q2 (of_decide_eq_true q3) (of_decide_eq_false q4) (of_decide_eq_false q7)
        · refine x_iconst (pc' := 16) rfl rfl ?_
          refine x_goto (pc' := 20) rfl rfl ?_
          refine x_retz (z := true) rfl rfl ?_
          refine sK_i (pc' := 72) rfl ?_
          refine x_if (a' := 99) (pc' := 75) (z := false) rfl rfl rfl (by decide) (fun h => by cases h) (fun _ => ?_)
          refine x_iload (pc' := 77) rfl rfl rfl ?_
          refine x_if (a' := 99) (pc' := 80) (z := false) rfl rfl rfl (by decide) (fun h => by cases h) (fun _ => ?_)
          refine x_aload_n (pc' := 81) rfl rfl rfl rfl rfl ?_
          refine x_aload (pc' := 83) rfl rfl rfl rfl rfl ?_
          refine x_gR (pc' := 86) (r := (some (oB M k))) rfl rfl rfl (Sf_514f hc (Fr.refl _) hk) ?_
          refine x_aload (pc' := 88) rfl rfl rfl rfl rfl ?_
          refine x_gZ (pc' := 91) (z := (mB M 3 k)) rfl rfl rfl ((kZ hM rfl hk).trans (congrFun (Fr.f3 (Fr.refl _)) _)) ?_
          refine x_aload (pc' := 93) rfl rfl rfl rfl rfl ?_
          refine x_gI (pc' := 96) (x := (mA M 15 k)) rfl rfl rfl (kA hM rfl hk) ?_
          refine x_cs (ls0 := [_, _, _, _]) (rest := []) rfl rfl rfl rfl ?_
          exact k3 q2 (of_decide_eq_true q3) (of_decide_eq_false q4) (of_decide_eq_true q7)
  · refine x_aload (pc' := 44) rfl rfl rfl rfl rfl ?_
    refine x_gR (pc' := 47) (r := (some (oB M k))) rfl rfl rfl (Sf_514f hc (Fr.refl _) hk) ?_
    refine x_aload_n (pc' := 48) rfl rfl rfl rfl rfl ?_
    refine x_acmp_nen (a' := 55) (pc' := 51) (z := decide ((some (oB M k)) = r)) rfl rfl rfl rfl rfl (fun q11 => ?_) (fun q11 => ?_)
    · refine x_iconst (pc' := 56) rfl rfl ?_
      refine x_istore (pc' := 58) (ls' := [_, _, _, _, _, _, _]) rfl rfl rfl rfl ?_
      refine x_aload (pc' := 60) rfl rfl rfl rfl rfl ?_
      refine x_gR (pc' := 63) (r := (some (oM M k))) rfl rfl rfl (Sf_513f hc (Fr.refl _) hk) ?_
      refine x_aload_n (pc' := 64) rfl rfl rfl rfl rfl ?_
      refine x_acmp_nen (a' := 99) (pc' := 67) (z := decide (oM M k = m)) rfl rfl rfl rfl dec_some (fun q12 => ?_) (fun q12 => ?_)
      · refine x_iinc (pc' := 102) (y := (io (k + 1))) (ls' := [_, _, _, _, _, _, _]) rfl rfl rfl (io_add k 1) rfl ?_
        refine x_goto (pc' := 8) rfl rfl ?_
        exact k4 q2 (of_decide_eq_false q11) (of_decide_eq_false q12)
      · refine x_aload (pc' := 69) rfl rfl rfl rfl rfl ?_
        refine x_cv (ls0 := [_]) (rest := []) rfl rfl rfl rfl rfl ?_
        refine x_aload_n (pc' := 1) rfl rfl rfl rfl rfl ?_
        refine x_gI (pc' := 4) (x := (mA M 19 k)) rfl rfl rfl (kA hM rfl hk) ?_
        refine x_if (a' := 15) (pc' := 7) (z := decide ((mA M 19 k) = 0)) rfl rfl rfl rfl (fun q13 => ?_) (fun q13 => ?_)
        · refine x_iconst (pc' := 16) rfl rfl ?_
          refine x_goto (pc' := 20) rfl rfl ?_
          refine x_retz (z := true) rfl rfl ?_
          refine sK_i (pc' := 72) rfl ?_
          refine x_if (a' := 99) (pc' := 75) (z := false) rfl rfl rfl (by decide) (fun h => by cases h) (fun _ => ?_)
          refine x_iload (pc' := 77) rfl rfl rfl ?_
          refine x_if (a' := 99) (pc' := 80) (z := false) rfl rfl rfl (by decide) (fun h => by cases h) (fun _ => ?_)
          refine x_aload_n (pc' := 81) rfl rfl rfl rfl rfl ?_
          refine x_aload (pc' := 83) rfl rfl rfl rfl rfl ?_
          refine x_gR (pc' := 86) (r := (some (oB M k))) rfl rfl rfl (Sf_514f hc (Fr.refl _) hk) ?_
          refine x_aload (pc' := 88) rfl rfl rfl rfl rfl ?_
          refine x_gZ (pc' := 91) (z := (mB M 3 k)) rfl rfl rfl ((kZ hM rfl hk).trans (congrFun (Fr.f3 (Fr.refl _)) _)) ?_
          refine x_aload (pc' := 93) rfl rfl rfl rfl rfl ?_
          refine x_gI (pc' := 96) (x := (mA M 15 k)) rfl rfl rfl (kA hM rfl hk) ?_
          refine x_cs (ls0 := [_, _, _, _]) (rest := []) rfl rfl rfl rfl ?_
          exact k5 q2 (of_decide_eq_false q11) (of_decide_eq_true q12) (of_decide_eq_true q13)
        · refine x_aload_n (pc' := 8) rfl rfl rfl rfl rfl ?_
          refine x_gI (pc' := 11) (x := (mA M 19 k)) rfl rfl rfl (kA hM rfl hk) ?_
          refine x_iconst (pc' := 12) rfl rfl ?_
          refine x_icmp_n (a' := 19) (pc' := 15) (z := decide ((mA M 19 k) = 1)) rfl rfl rfl (ik_ne _ _) (fun q16 => ?_) (fun q16 => ?_)
          · refine x_iconst (pc' := 20) rfl rfl ?_
            refine x_retz (z := false) rfl rfl ?_
            refine sK_i (pc' := 72) rfl ?_
            refine x_if (a' := 99) (pc' := 75) (z := true) rfl rfl rfl (by decide) (fun _ => ?_) (fun h => by cases h)
            refine x_iinc (pc' := 102) (y := (io (k + 1))) (ls' := [_, _, _, _, _, _, _]) rfl rfl rfl (io_add k 1) rfl ?_
            refine x_goto (pc' := 8) rfl rfl ?_
            exact k6 q2 (of_decide_eq_false q11) (of_decide_eq_true q12) (of_decide_eq_false q13) (of_decide_eq_false q16)
          · refine x_iconst (pc' := 16) rfl rfl ?_
            refine x_goto (pc' := 20) rfl rfl ?_
            refine x_retz (z := true) rfl rfl ?_
            refine sK_i (pc' := 72) rfl ?_
            refine x_if (a' := 99) (pc' := 75) (z := false) rfl rfl rfl (by decide) (fun h => by cases h) (fun _ => ?_)
            refine x_iload (pc' := 77) rfl rfl rfl ?_
            refine x_if (a' := 99) (pc' := 80) (z := false) rfl rfl rfl (by decide) (fun h => by cases h) (fun _ => ?_)
            refine x_aload_n (pc' := 81) rfl rfl rfl rfl rfl ?_
            refine x_aload (pc' := 83) rfl rfl rfl rfl rfl ?_
            refine x_gR (pc' := 86) (r := (some (oB M k))) rfl rfl rfl (Sf_514f hc (Fr.refl _) hk) ?_
            refine x_aload (pc' := 88) rfl rfl rfl rfl rfl ?_
            refine x_gZ (pc' := 91) (z := (mB M 3 k)) rfl rfl rfl ((kZ hM rfl hk).trans (congrFun (Fr.f3 (Fr.refl _)) _)) ?_
            refine x_aload (pc' := 93) rfl rfl rfl rfl rfl ?_
            refine x_gI (pc' := 96) (x := (mA M 15 k)) rfl rfl rfl (kA hM rfl hk) ?_
            refine x_cs (ls0 := [_, _, _, _]) (rest := []) rfl rfl rfl rfl ?_
            exact k7 q2 (of_decide_eq_false q11) (of_decide_eq_true q12) (of_decide_eq_false q13) (of_decide_eq_true q16)
    · refine x_iconst (pc' := 52) rfl rfl ?_
      refine x_goto (pc' := 56) rfl rfl ?_
      refine x_istore (pc' := 58) (ls' := [_, _, _, _, _, _, _]) rfl rfl rfl rfl ?_
      refine x_aload (pc' := 60) rfl rfl rfl rfl rfl ?_
      refine x_gR (pc' := 63) (r := (some (oM M k))) rfl rfl rfl (Sf_513f hc (Fr.refl _) hk) ?_
      refine x_aload_n (pc' := 64) rfl rfl rfl rfl rfl ?_
      refine x_acmp_nen (a' := 99) (pc' := 67) (z := decide (oM M k = m)) rfl rfl rfl rfl dec_some (fun q20 => ?_) (fun q20 => ?_)
      · refine x_iinc (pc' := 102) (y := (io (k + 1))) (ls' := [_, _, _, _, _, _, _]) rfl rfl rfl (io_add k 1) rfl ?_
        refine x_goto (pc' := 8) rfl rfl ?_
        exact k8 q2 (of_decide_eq_true q11) (of_decide_eq_false q20)
      · refine x_aload (pc' := 69) rfl rfl rfl rfl rfl ?_
        refine x_cv (ls0 := [_]) (rest := []) rfl rfl rfl rfl rfl ?_
        refine x_aload_n (pc' := 1) rfl rfl rfl rfl rfl ?_
        refine x_gI (pc' := 4) (x := (mA M 19 k)) rfl rfl rfl (kA hM rfl hk) ?_
        refine x_if (a' := 15) (pc' := 7) (z := decide ((mA M 19 k) = 0)) rfl rfl rfl rfl (fun q21 => ?_) (fun q21 => ?_)
        · refine x_iconst (pc' := 16) rfl rfl ?_
          refine x_goto (pc' := 20) rfl rfl ?_
          refine x_retz (z := true) rfl rfl ?_
          refine sK_i (pc' := 72) rfl ?_
          refine x_if (a' := 99) (pc' := 75) (z := false) rfl rfl rfl (by decide) (fun h => by cases h) (fun _ => ?_)
          refine x_iload (pc' := 77) rfl rfl rfl ?_
          refine x_if (a' := 99) (pc' := 80) (z := true) rfl rfl rfl (by decide) (fun _ => ?_) (fun h => by cases h)
          refine x_iinc (pc' := 102) (y := (io (k + 1))) (ls' := [_, _, _, _, _, _, _]) rfl rfl rfl (io_add k 1) rfl ?_
          refine x_goto (pc' := 8) rfl rfl ?_
          exact k9 q2 (of_decide_eq_true q11) (of_decide_eq_true q20) (of_decide_eq_true q21)
        · refine x_aload_n (pc' := 8) rfl rfl rfl rfl rfl ?_
          refine x_gI (pc' := 11) (x := (mA M 19 k)) rfl rfl rfl (kA hM rfl hk) ?_
          refine x_iconst (pc' := 12) rfl rfl ?_
          refine x_icmp_n (a' := 19) (pc' := 15) (z := decide ((mA M 19 k) = 1)) rfl rfl rfl (ik_ne _ _) (fun q24 => ?_) (fun q24 => ?_)
          · refine x_iconst (pc' := 20) rfl rfl ?_
            refine x_retz (z := false) rfl rfl ?_
            refine sK_i (pc' := 72) rfl ?_
            refine x_if (a' := 99) (pc' := 75) (z := true) rfl rfl rfl (by decide) (fun _ => ?_) (fun h => by cases h)
            refine x_iinc (pc' := 102) (y := (io (k + 1))) (ls' := [_, _, _, _, _, _, _]) rfl rfl rfl (io_add k 1) rfl ?_
            refine x_goto (pc' := 8) rfl rfl ?_
            exact k10 q2 (of_decide_eq_true q11) (of_decide_eq_true q20) (of_decide_eq_false q21) (of_decide_eq_false q24)
          · refine x_iconst (pc' := 16) rfl rfl ?_
            refine x_goto (pc' := 20) rfl rfl ?_
            refine x_retz (z := true) rfl rfl ?_
            refine sK_i (pc' := 72) rfl ?_
            refine x_if (a' := 99) (pc' := 75) (z := false) rfl rfl rfl (by decide) (fun h => by cases h) (fun _ => ?_)
            refine x_iload (pc' := 77) rfl rfl rfl ?_
            refine x_if (a' := 99) (pc' := 80) (z := true) rfl rfl rfl (by decide) (fun _ => ?_) (fun h => by cases h)
            refine x_iinc (pc' := 102) (y := (io (k + 1))) (ls' := [_, _, _, _, _, _, _]) rfl rfl rfl (io_add k 1) rfl ?_
            refine x_goto (pc' := 8) rfl rfl ?_
            exact k11 q2 (of_decide_eq_true q11) (of_decide_eq_true q20) (of_decide_eq_false q21) (of_decide_eq_true q24)
set_option maxHeartbeats 4000000 in
set_option maxRecDepth 10000 in
theorem n39_99 {t : sT} {Q : sRs → sT → Prop} {M : sM} {n : Nat} {T : Nat} {L0 : List Nat} {A : Nat} {B : Nat} {m : Nat} {r : Option Nat} {k : Nat} {x : Nat} {c : Nat} {y1 : sV}
    (hW : Wc t M n T L0 A B)
    (k0 : X 39 8 [.inr (.inr (4, (some 0))), .inr (.inr (7, (some m))), .inr (.inr (1, r)), .inr (.inr (20, (some c))), .inl (io (k + 1)), .inr (.inr (8, (some x))), y1] [] t Q) :
    X 39 99 [.inr (.inr (4, (some 0))), .inr (.inr (7, (some m))), .inr (.inr (1, r)), .inr (.inr (20, (some c))), .inl (io k), .inr (.inr (8, (some x))), y1] [] t Q := by
  obtain ⟨hM, hc, hR, hC, hL, hL9⟩ := hW
  refine x_iinc (pc' := 102) (y := (io (k + 1))) (ls' := [_, _, _, _, _, _, _]) rfl rfl rfl (io_add k 1) rfl ?_
  refine x_goto (pc' := 8) rfl rfl ?_
  exact k0
set_option maxHeartbeats 4000000 in
set_option maxRecDepth 10000 in
theorem n39_e {t : sT} {Q : sRs → sT → Prop} {M : sM} {n : Nat} {T : Nat} {L0 : List Nat} {A : Nat} {B : Nat} {m : Nat} {r : Option Nat} {c : Nat} {y0 : sV} {y1 : sV}
    (hW : Wc t M n T L0 A B)
    (hN : sN t 20 c = 6)
    (k0 : Q (.inl (some (.inr (.inr (20, (some c)))))) t) :
    X 39 8 [.inr (.inr (4, (some 0))), .inr (.inr (7, (some m))), .inr (.inr (1, r)), .inr (.inr (20, (some c))), .inl (io n), y0, y1] [] t Q := by
  obtain ⟨hM, hc, hR, hC, hL, hL9⟩ := hW
  refine x_iload (pc' := 10) rfl rfl rfl ?_
  refine x_aload_n (pc' := 11) rfl rfl rfl rfl rfl ?_
  refine x_gR (pc' := 14) (r := (some 1)) rfl rfl rfl (kR_257_0 hc.1) ?_
  refine x_cv (ls0 := [_]) (rest := [_]) rfl rfl rfl rfl rfl ?_
  refine x_aload_n (pc' := 1) rfl rfl rfl rfl rfl ?_
  refine x_gI (pc' := 4) (x := (io n)) rfl rfl rfl (Sf_n hc) ?_
  refine x_reti rfl rfl ?_
  refine sK_i (pc' := 17) rfl ?_
  refine x_icmp_n (a' := 105) (pc' := 20) (z := decide (n < n)) rfl rfl rfl (ic_gen (p := n) (q := n) (gn31 hR) (gn31 hR)) (fun _ => ?_) (fun h => absurd (of_decide_eq_true h) (by first | decide | omega | simp))
  refine x_aload_n (pc' := 106) rfl rfl rfl rfl rfl ?_
  refine x_reta rfl rfl ?_
  exact k0
set_option maxHeartbeats 4000000 in
set_option maxRecDepth 10000 in
theorem n137 {t : sT} {Q : sRs → sT → Prop} {M : sM} {n : Nat} {T : Nat} {L0 : List Nat} {A : Nat} {B : Nat} {m : Nat}
    (hW : Wc t M n T L0 A B)
    (k0 : X 39 0 [.inr (.inr (4, (some 0))), .inr (.inr (7, (some m))), .inr (.inr (1, none)), sJk, sJk, sJk, sJk] [] t (sK 39 137 11 [.inr (.inr (11, (some 0))), .inr (.inr (7, (some m)))] [.inr (.inr (7, (some m))), .inr (.inr (5, (some 0)))] Q)) :
    X 137 0 [.inr (.inr (11, (some 0))), .inr (.inr (7, (some m)))] [] t Q := by
  obtain ⟨hM, hc, hR, hC, hL, hL9⟩ := hW
  refine x_aload_n (pc' := 1) rfl rfl rfl rfl rfl ?_
  refine x_gR (pc' := 4) (r := (some 0)) rfl rfl rfl (kR_704_0 hc.1) ?_
  refine x_aload_n (pc' := 5) rfl rfl rfl rfl rfl ?_
  refine x_aload_n (pc' := 6) rfl rfl rfl rfl rfl ?_
  refine x_gR (pc' := 9) (r := (some 0)) rfl rfl rfl (kR_705_0 hc.1) ?_
  refine x_aload_n (pc' := 10) rfl rfl rfl rfl rfl ?_
  refine x_null (pc' := 11) rfl rfl rfl ?_
  refine x_cv (ls0 := [_, _, _, sJk, sJk, sJk, sJk]) (rest := [_, _]) rfl rfl rfl rfl rfl ?_
  exact k0
set_option maxHeartbeats 4000000 in
set_option maxRecDepth 10000 in
theorem n137_b {t : sT} {Q : sRs → sT → Prop} {M : sM} {n : Nat} {T : Nat} {L0 : List Nat} {A : Nat} {B : Nat} {m : Nat} {c : Nat}
    (hW : Wc t M n T L0 A B)
    (k0 : X 51 0 [.inr (.inr (5, (some 0))), .inr (.inr (7, (some m))), .inr (.inr (20, (some c))), sJk, sJk, sJk, sJk, sJk, sJk] [] t (sK 51 137 14 [.inr (.inr (11, (some 0))), .inr (.inr (7, (some m)))] [] Q)) :
    X 137 14 [.inr (.inr (11, (some 0))), .inr (.inr (7, (some m)))] [.inr (.inr (20, (some c))), .inr (.inr (7, (some m))), .inr (.inr (5, (some 0)))] t Q := by
  obtain ⟨hM, hc, hR, hC, hL, hL9⟩ := hW
  refine x_cv (ls0 := [_, _, _, sJk, sJk, sJk, sJk, sJk, sJk]) (rest := []) rfl rfl rfl rfl rfl ?_
  exact k0
set_option maxHeartbeats 4000000 in
set_option maxRecDepth 10000 in
theorem n137_c {t : sT} {Q : sRs → sT → Prop} {M : sM} {n : Nat} {T : Nat} {L0 : List Nat} {A : Nat} {B : Nat} {m : Nat} {p : Int32}
    (hW : Wc t M n T L0 A B)
    (k0 : Q (.inl (some (.inl p))) t) :
    X 137 17 [.inr (.inr (11, (some 0))), .inr (.inr (7, (some m)))] [.inl p] t Q := by
  obtain ⟨hM, hc, hR, hC, hL, hL9⟩ := hW
  refine x_reti rfl rfl ?_
  exact k0
def cndG (M : sM) (m : Nat) (f : Nat → Int32) : Int32 := (mx (mx (mx (mx (mx (mx 0 (((mx ((-((mA M 6 ((3 * m) + 0)) + (f 0))) * (mA M 11 0)) ((-((mA M 6 ((3 * m) + 0)) - (f 3))) * (mA M 11 0))) + (mx ((-((mA M 6 ((3 * m) + 1)) + (f 1))) * (mA M 11 1)) ((-((mA M 6 ((3 * m) + 1)) - (f 4))) * (mA M 11 1)))) + (mx ((-((mA M 6 ((3 * m) + 2)) + (f 2))) * (mA M 11 2)) ((-((mA M 6 ((3 * m) + 2)) - (f 5))) * (mA M 11 2))))) (((mx ((-((mA M 6 ((3 * m) + 0)) + (f 0))) * (mA M 11 3)) ((-((mA M 6 ((3 * m) + 0)) - (f 3))) * (mA M 11 3))) + (mx ((-((mA M 6 ((3 * m) + 1)) + (f 1))) * (mA M 11 4)) ((-((mA M 6 ((3 * m) + 1)) - (f 4))) * (mA M 11 4)))) + (mx ((-((mA M 6 ((3 * m) + 2)) + (f 2))) * (mA M 11 5)) ((-((mA M 6 ((3 * m) + 2)) - (f 5))) * (mA M 11 5))))) (((mx ((-((mA M 6 ((3 * m) + 0)) + (f 0))) * (mA M 11 6)) ((-((mA M 6 ((3 * m) + 0)) - (f 3))) * (mA M 11 6))) + (mx ((-((mA M 6 ((3 * m) + 1)) + (f 1))) * (mA M 11 7)) ((-((mA M 6 ((3 * m) + 1)) - (f 4))) * (mA M 11 7)))) + (mx ((-((mA M 6 ((3 * m) + 2)) + (f 2))) * (mA M 11 8)) ((-((mA M 6 ((3 * m) + 2)) - (f 5))) * (mA M 11 8))))) (((mx ((-((mA M 6 ((3 * m) + 0)) + (f 0))) * (mA M 11 9)) ((-((mA M 6 ((3 * m) + 0)) - (f 3))) * (mA M 11 9))) + (mx ((-((mA M 6 ((3 * m) + 1)) + (f 1))) * (mA M 11 10)) ((-((mA M 6 ((3 * m) + 1)) - (f 4))) * (mA M 11 10)))) + (mx ((-((mA M 6 ((3 * m) + 2)) + (f 2))) * (mA M 11 11)) ((-((mA M 6 ((3 * m) + 2)) - (f 5))) * (mA M 11 11))))) (((mx ((-((mA M 6 ((3 * m) + 0)) + (f 0))) * (mA M 11 12)) ((-((mA M 6 ((3 * m) + 0)) - (f 3))) * (mA M 11 12))) + (mx ((-((mA M 6 ((3 * m) + 1)) + (f 1))) * (mA M 11 13)) ((-((mA M 6 ((3 * m) + 1)) - (f 4))) * (mA M 11 13)))) + (mx ((-((mA M 6 ((3 * m) + 2)) + (f 2))) * (mA M 11 14)) ((-((mA M 6 ((3 * m) + 2)) - (f 5))) * (mA M 11 14))))) (((mx ((-((mA M 6 ((3 * m) + 0)) + (f 0))) * (mA M 11 15)) ((-((mA M 6 ((3 * m) + 0)) - (f 3))) * (mA M 11 15))) + (mx ((-((mA M 6 ((3 * m) + 1)) + (f 1))) * (mA M 11 16)) ((-((mA M 6 ((3 * m) + 1)) - (f 4))) * (mA M 11 16)))) + (mx ((-((mA M 6 ((3 * m) + 2)) + (f 2))) * (mA M 11 17)) ((-((mA M 6 ((3 * m) + 2)) - (f 5))) * (mA M 11 17)))))
set_option maxHeartbeats 4000000 in
set_option maxRecDepth 10000 in
theorem n51 {t : sT} {Q : sRs → sT → Prop} {M : sM} {n T : Nat} {L0 : List Nat} {A B : Nat} {m c : Nat} {f : Nat → Int32}
    (hW : Wc t M n T L0 A B)
    (hm : m < 6)
    (hN : sN t 20 c = 6)
    (hf : ∀ i, i < 6 → sA t 20 c i = f i)
    (q : Q (.inl (some (.inl (cndG M m f)))) t) :
    X 51 0 [.inr (.inr (5, (some 0))), .inr (.inr (7, (some m))), .inr (.inr (20, (some c))), sJk, sJk, sJk, sJk, sJk, sJk] [] t Q := by
  obtain ⟨hM, hc, hR, hC, hL, hL9⟩ := hW
  refine x_iconst (pc' := 1) rfl rfl ?_
  refine x_istore_n (pc' := 2) (ls' := [_, _, _, _, _, _, _, _, _]) rfl rfl rfl rfl ?_
  refine x_iconst (pc' := 3) rfl rfl ?_
  refine x_istore (pc' := 5) (ls' := [_, _, _, _, _, _, _, _, _]) rfl rfl rfl rfl ?_
  refine x_iload (pc' := 7) rfl rfl rfl ?_
  refine x_bipush (pc' := 9) rfl rfl ?_
  refine x_icmp (a' := 111) (pc' := 12) (z := false) rfl rfl rfl (by decide) (fun h => by cases h) (fun _ => ?_)
  refine x_iconst (pc' := 13) rfl rfl ?_
  refine x_istore (pc' := 15) (ls' := [_, _, _, _, _, _, _, _, _]) rfl rfl rfl rfl ?_
  refine x_iconst (pc' := 16) rfl rfl ?_
  refine x_istore (pc' := 18) (ls' := [_, _, _, _, _, _, _, _, _]) rfl rfl rfl rfl ?_
  refine x_iload (pc' := 20) rfl rfl rfl ?_
  refine x_aload_n (pc' := 21) rfl rfl rfl rfl rfl ?_
  refine x_gR (pc' := 24) (r := (some 0)) rfl rfl rfl (kR_320_0 hc.1) ?_
  refine x_alen (pc' := 25) (N := 3) rfl rfl rfl (kN_25_0 hc.1) (?_ : X _ _ _ (.inl 3 :: _) _ _)
  refine x_icmp (a' := 98) (pc' := 28) (z := false) rfl rfl rfl (by decide) (fun h => by cases h) (fun _ => ?_)
  refine x_iload (pc' := 30) rfl rfl rfl ?_
  refine x_iconst (pc' := 31) rfl rfl ?_
  refine x_iadd (pc' := 32) (z := 3) rfl rfl (by decide) ?_
  refine x_aload_n (pc' := 33) rfl rfl rfl rfl rfl ?_
  refine x_alen (pc' := 34) (N := 6) rfl rfl rfl hN (?_ : X _ _ _ (.inl 6 :: _) _ _)
  refine x_icmp (a' := 98) (pc' := 37) (z := false) rfl rfl rfl (by decide) (fun h => by cases h) (fun _ => ?_)
  refine x_aload_n (pc' := 38) rfl rfl rfl rfl rfl ?_
  refine x_aload_n (pc' := 39) rfl rfl rfl rfl rfl ?_
  refine x_gR (pc' := 42) (r := (some 0)) rfl rfl rfl (kR_320_0 hc.1) ?_
  refine x_iload (pc' := 44) rfl rfl rfl ?_
  refine x_aald (pc' := 45) (N := 3) (k' := 2) (r := (some 0)) rfl rfl rfl (kN_25_0 hc.1) (io_in (p := 0) (N := 3) (by decide) (by decide)) (Eq.trans (congrArg (sE t 25 0) (nn_io (p := 0) (by decide))) (kK hc.1 (by decide))) ?_
  refine x_cv (ls0 := [_, _, sJk]) (rest := []) rfl rfl rfl rfl rfl ?_
  refine x_aload_n (pc' := 1) rfl rfl rfl rfl rfl ?_
  refine x_gI (pc' := 4) (x := 0) rfl rfl rfl (kI_128_0 hc.1) ?_
  refine x_istore_n (pc' := 5) (ls' := [_, _, _]) rfl rfl rfl rfl ?_
  refine x_iload_n (pc' := 6) rfl rfl rfl ?_
  refine x_if (a' := 27) (pc' := 9) (z := false) rfl rfl rfl (by decide) (fun h => by cases h) (fun _ => ?_)
  refine x_iload_n (pc' := 10) rfl rfl rfl ?_
  refine x_aload_n (pc' := 11) rfl rfl rfl rfl rfl ?_
  refine x_gR (pc' := 14) (r := (some (m + 1))) rfl rfl rfl (kMp hc.1 hm).1 ?_
  refine x_alen (pc' := 15) (N := 3) rfl rfl rfl (kMp hc.1 hm).2.1 (?_ : X _ _ _ (.inl 3 :: _) _ _)
  refine x_icmp (a' := 27) (pc' := 18) (z := false) rfl rfl rfl (by decide) (fun h => by cases h) (fun _ => ?_)
  refine x_aload_n (pc' := 19) rfl rfl rfl rfl rfl ?_
  refine x_gR (pc' := 22) (r := (some (m + 1))) rfl rfl rfl (kMp hc.1 hm).1 ?_
  refine x_iload_n (pc' := 23) rfl rfl rfl ?_
  refine x_iald (pc' := 24) (N := 3) (x := (mA M 6 ((3 * m) + 0))) rfl rfl rfl (kMp hc.1 hm).2.1 (io_in (p := 0) (N := 3) (by decide) (by decide)) (Eq.trans (congrArg (sA t 20 (m + 1)) (nn_io (p := 0) (by decide))) (kP (m := m) (c := 0) hM hm (by decide))) ?_
  refine x_goto (pc' := 28) rfl rfl ?_
  refine x_reti rfl rfl ?_
  refine sK_i (pc' := 48) rfl ?_
  refine x_istore (pc' := 50) (ls' := [_, _, _, _, _, _, _, _, _]) rfl rfl rfl rfl ?_
  refine x_aload_n (pc' := 51) rfl rfl rfl rfl rfl ?_
  refine x_iload (pc' := 53) rfl rfl rfl ?_
  refine x_iload (pc' := 55) rfl rfl rfl ?_
  refine x_cv (ls0 := [_, _, _, sJk]) (rest := []) rfl rfl rfl rfl rfl ?_
  refine x_iload_n (pc' := 1) rfl rfl rfl ?_
  refine x_iconst (pc' := 2) rfl rfl ?_
  refine x_imul (pc' := 3) (z := 0) rfl rfl (by decide) ?_
  refine x_iload_n (pc' := 4) rfl rfl rfl ?_
  refine x_iadd (pc' := 5) (z := 0) rfl rfl (by decide) ?_
  refine x_istore_n (pc' := 6) (ls' := [_, _, _, _]) rfl rfl rfl rfl ?_
  refine x_iload_n (pc' := 7) rfl rfl rfl ?_
  refine x_if (a' := 28) (pc' := 10) (z := false) rfl rfl rfl (by decide) (fun h => by cases h) (fun _ => ?_)
  refine x_iload_n (pc' := 11) rfl rfl rfl ?_
  refine x_aload_n (pc' := 12) rfl rfl rfl rfl rfl ?_
  refine x_gR (pc' := 15) (r := (some 0)) rfl rfl rfl (kR_323_0 hc.1) ?_
  refine x_alen (pc' := 16) (N := 18) rfl rfl rfl (kN_20_0 hc.1) (?_ : X _ _ _ (.inl 18 :: _) _ _)
  refine x_icmp (a' := 28) (pc' := 19) (z := false) rfl rfl rfl (by decide) (fun h => by cases h) (fun _ => ?_)
  refine x_aload_n (pc' := 20) rfl rfl rfl rfl rfl ?_
  refine x_gR (pc' := 23) (r := (some 0)) rfl rfl rfl (kR_323_0 hc.1) ?_
  refine x_iload_n (pc' := 24) rfl rfl rfl ?_
  refine x_iald (pc' := 25) (N := 18) (x := (mA M 11 0)) rfl rfl rfl (kN_20_0 hc.1) (io_in (p := 0) (N := 18) (by decide) (by decide)) (Eq.trans (congrArg (sA t 20 0) (nn_io (p := 0) (by decide))) (kV hM (by decide))) ?_
  refine x_goto (pc' := 29) rfl rfl ?_
  refine x_reti rfl rfl ?_
  refine sK_i (pc' := 58) rfl ?_
  refine x_istore (pc' := 60) (ls' := [_, _, _, _, _, _, _, _, _]) rfl rfl rfl rfl ?_
  refine x_iload (pc' := 62) rfl rfl rfl ?_
  refine x_iload (pc' := 64) rfl rfl rfl ?_
  refine x_aload_n (pc' := 65) rfl rfl rfl rfl rfl ?_
  refine x_iload (pc' := 67) rfl rfl rfl ?_
  refine x_iald (pc' := 68) (N := 6) (x := (f 0)) rfl rfl rfl hN (io_in (p := 0) (N := 6) (by decide) (by decide)) (Eq.trans (congrArg (sA t 20 c) (nn_io (p := 0) (by decide))) (hf 0 (by decide))) ?_
  refine x_iadd (pc' := 69) (z := ((mA M 6 ((3 * m) + 0)) + (f 0))) rfl rfl rfl ?_
  refine x_ineg (pc' := 70) rfl rfl rfl ?_
  refine x_iload (pc' := 72) rfl rfl rfl ?_
  refine x_imul (pc' := 73) (z := ((-((mA M 6 ((3 * m) + 0)) + (f 0))) * (mA M 11 0))) rfl rfl rfl ?_
  refine x_iload (pc' := 75) rfl rfl rfl ?_
  refine x_aload_n (pc' := 76) rfl rfl rfl rfl rfl ?_
  refine x_iload (pc' := 78) rfl rfl rfl ?_
  refine x_iconst (pc' := 79) rfl rfl ?_
  refine x_iadd (pc' := 80) (z := 3) rfl rfl (by decide) ?_
  refine x_iald (pc' := 81) (N := 6) (x := (f 3)) rfl rfl rfl hN (io_in (p := 3) (N := 6) (by decide) (by decide)) (Eq.trans (congrArg (sA t 20 c) (nn_io (p := 3) (by decide))) (hf 3 (by decide))) ?_
  refine x_isub (pc' := 82) (z := ((mA M 6 ((3 * m) + 0)) - (f 3))) rfl rfl rfl ?_
  refine x_ineg (pc' := 83) rfl rfl rfl ?_
  refine x_iload (pc' := 85) rfl rfl rfl ?_
  refine x_imul (pc' := 86) (z := ((-((mA M 6 ((3 * m) + 0)) - (f 3))) * (mA M 11 0))) rfl rfl rfl ?_
  refine x_max (pc' := 89) (z := (mx ((-((mA M 6 ((3 * m) + 0)) + (f 0))) * (mA M 11 0)) ((-((mA M 6 ((3 * m) + 0)) - (f 3))) * (mA M 11 0)))) rfl rfl rfl rfl ?_
  refine x_iadd (pc' := 90) (z := (mx ((-((mA M 6 ((3 * m) + 0)) + (f 0))) * (mA M 11 0)) ((-((mA M 6 ((3 * m) + 0)) - (f 3))) * (mA M 11 0)))) rfl rfl (Int32.zero_add _) ?_
  refine x_istore (pc' := 92) (ls' := [_, _, _, _, _, _, _, _, _]) rfl rfl rfl rfl ?_
  refine x_iinc (pc' := 95) (y := 1) (ls' := [_, _, _, _, _, _, _, _, _]) rfl rfl rfl rfl rfl ?_
  refine x_goto (pc' := 18) rfl rfl ?_
  refine x_iload (pc' := 20) rfl rfl rfl ?_
  refine x_aload_n (pc' := 21) rfl rfl rfl rfl rfl ?_
  refine x_gR (pc' := 24) (r := (some 0)) rfl rfl rfl (kR_320_0 hc.1) ?_
  refine x_alen (pc' := 25) (N := 3) rfl rfl rfl (kN_25_0 hc.1) (?_ : X _ _ _ (.inl 3 :: _) _ _)
  refine x_icmp (a' := 98) (pc' := 28) (z := false) rfl rfl rfl (by decide) (fun h => by cases h) (fun _ => ?_)
  refine x_iload (pc' := 30) rfl rfl rfl ?_
  refine x_iconst (pc' := 31) rfl rfl ?_
  refine x_iadd (pc' := 32) (z := 4) rfl rfl (by decide) ?_
  refine x_aload_n (pc' := 33) rfl rfl rfl rfl rfl ?_
  refine x_alen (pc' := 34) (N := 6) rfl rfl rfl hN (?_ : X _ _ _ (.inl 6 :: _) _ _)
  refine x_icmp (a' := 98) (pc' := 37) (z := false) rfl rfl rfl (by decide) (fun h => by cases h) (fun _ => ?_)
  refine x_aload_n (pc' := 38) rfl rfl rfl rfl rfl ?_
  refine x_aload_n (pc' := 39) rfl rfl rfl rfl rfl ?_
  refine x_gR (pc' := 42) (r := (some 0)) rfl rfl rfl (kR_320_0 hc.1) ?_
  refine x_iload (pc' := 44) rfl rfl rfl ?_
  refine x_aald (pc' := 45) (N := 3) (k' := 2) (r := (some 1)) rfl rfl rfl (kN_25_0 hc.1) (io_in (p := 1) (N := 3) (by decide) (by decide)) (Eq.trans (congrArg (sE t 25 0) (nn_io (p := 1) (by decide))) (kK hc.1 (by decide))) ?_
  refine x_cv (ls0 := [_, _, sJk]) (rest := []) rfl rfl rfl rfl rfl ?_
  refine x_aload_n (pc' := 1) rfl rfl rfl rfl rfl ?_
  refine x_gI (pc' := 4) (x := 1) rfl rfl rfl (kI_128_1 hc.1) ?_
  refine x_istore_n (pc' := 5) (ls' := [_, _, _]) rfl rfl rfl rfl ?_
  refine x_iload_n (pc' := 6) rfl rfl rfl ?_
  refine x_if (a' := 27) (pc' := 9) (z := false) rfl rfl rfl (by decide) (fun h => by cases h) (fun _ => ?_)
  refine x_iload_n (pc' := 10) rfl rfl rfl ?_
  refine x_aload_n (pc' := 11) rfl rfl rfl rfl rfl ?_
  refine x_gR (pc' := 14) (r := (some (m + 1))) rfl rfl rfl (kMp hc.1 hm).1 ?_
  refine x_alen (pc' := 15) (N := 3) rfl rfl rfl (kMp hc.1 hm).2.1 (?_ : X _ _ _ (.inl 3 :: _) _ _)
  refine x_icmp (a' := 27) (pc' := 18) (z := false) rfl rfl rfl (by decide) (fun h => by cases h) (fun _ => ?_)
  refine x_aload_n (pc' := 19) rfl rfl rfl rfl rfl ?_
  refine x_gR (pc' := 22) (r := (some (m + 1))) rfl rfl rfl (kMp hc.1 hm).1 ?_
  refine x_iload_n (pc' := 23) rfl rfl rfl ?_
  refine x_iald (pc' := 24) (N := 3) (x := (mA M 6 ((3 * m) + 1))) rfl rfl rfl (kMp hc.1 hm).2.1 (io_in (p := 1) (N := 3) (by decide) (by decide)) (Eq.trans (congrArg (sA t 20 (m + 1)) (nn_io (p := 1) (by decide))) (kP (m := m) (c := 1) hM hm (by decide))) ?_
  refine x_goto (pc' := 28) rfl rfl ?_
  refine x_reti rfl rfl ?_
  refine sK_i (pc' := 48) rfl ?_
  refine x_istore (pc' := 50) (ls' := [_, _, _, _, _, _, _, _, _]) rfl rfl rfl rfl ?_
  refine x_aload_n (pc' := 51) rfl rfl rfl rfl rfl ?_
  refine x_iload (pc' := 53) rfl rfl rfl ?_
  refine x_iload (pc' := 55) rfl rfl rfl ?_
  refine x_cv (ls0 := [_, _, _, sJk]) (rest := []) rfl rfl rfl rfl rfl ?_
  refine x_iload_n (pc' := 1) rfl rfl rfl ?_
  refine x_iconst (pc' := 2) rfl rfl ?_
  refine x_imul (pc' := 3) (z := 0) rfl rfl (by decide) ?_
  refine x_iload_n (pc' := 4) rfl rfl rfl ?_
  refine x_iadd (pc' := 5) (z := 1) rfl rfl (by decide) ?_
  refine x_istore_n (pc' := 6) (ls' := [_, _, _, _]) rfl rfl rfl rfl ?_
  refine x_iload_n (pc' := 7) rfl rfl rfl ?_
  refine x_if (a' := 28) (pc' := 10) (z := false) rfl rfl rfl (by decide) (fun h => by cases h) (fun _ => ?_)
  refine x_iload_n (pc' := 11) rfl rfl rfl ?_
  refine x_aload_n (pc' := 12) rfl rfl rfl rfl rfl ?_
  refine x_gR (pc' := 15) (r := (some 0)) rfl rfl rfl (kR_323_0 hc.1) ?_
  refine x_alen (pc' := 16) (N := 18) rfl rfl rfl (kN_20_0 hc.1) (?_ : X _ _ _ (.inl 18 :: _) _ _)
  refine x_icmp (a' := 28) (pc' := 19) (z := false) rfl rfl rfl (by decide) (fun h => by cases h) (fun _ => ?_)
  refine x_aload_n (pc' := 20) rfl rfl rfl rfl rfl ?_
  refine x_gR (pc' := 23) (r := (some 0)) rfl rfl rfl (kR_323_0 hc.1) ?_
  refine x_iload_n (pc' := 24) rfl rfl rfl ?_
  refine x_iald (pc' := 25) (N := 18) (x := (mA M 11 1)) rfl rfl rfl (kN_20_0 hc.1) (io_in (p := 1) (N := 18) (by decide) (by decide)) (Eq.trans (congrArg (sA t 20 0) (nn_io (p := 1) (by decide))) (kV hM (by decide))) ?_
  refine x_goto (pc' := 29) rfl rfl ?_
  refine x_reti rfl rfl ?_
  refine sK_i (pc' := 58) rfl ?_
  refine x_istore (pc' := 60) (ls' := [_, _, _, _, _, _, _, _, _]) rfl rfl rfl rfl ?_
  refine x_iload (pc' := 62) rfl rfl rfl ?_
  refine x_iload (pc' := 64) rfl rfl rfl ?_
  refine x_aload_n (pc' := 65) rfl rfl rfl rfl rfl ?_
  refine x_iload (pc' := 67) rfl rfl rfl ?_
  refine x_iald (pc' := 68) (N := 6) (x := (f 1)) rfl rfl rfl hN (io_in (p := 1) (N := 6) (by decide) (by decide)) (Eq.trans (congrArg (sA t 20 c) (nn_io (p := 1) (by decide))) (hf 1 (by decide))) ?_
  refine x_iadd (pc' := 69) (z := ((mA M 6 ((3 * m) + 1)) + (f 1))) rfl rfl rfl ?_
  refine x_ineg (pc' := 70) rfl rfl rfl ?_
  refine x_iload (pc' := 72) rfl rfl rfl ?_
  refine x_imul (pc' := 73) (z := ((-((mA M 6 ((3 * m) + 1)) + (f 1))) * (mA M 11 1))) rfl rfl rfl ?_
  refine x_iload (pc' := 75) rfl rfl rfl ?_
  refine x_aload_n (pc' := 76) rfl rfl rfl rfl rfl ?_
  refine x_iload (pc' := 78) rfl rfl rfl ?_
  refine x_iconst (pc' := 79) rfl rfl ?_
  refine x_iadd (pc' := 80) (z := 4) rfl rfl (by decide) ?_
  refine x_iald (pc' := 81) (N := 6) (x := (f 4)) rfl rfl rfl hN (io_in (p := 4) (N := 6) (by decide) (by decide)) (Eq.trans (congrArg (sA t 20 c) (nn_io (p := 4) (by decide))) (hf 4 (by decide))) ?_
  refine x_isub (pc' := 82) (z := ((mA M 6 ((3 * m) + 1)) - (f 4))) rfl rfl rfl ?_
  refine x_ineg (pc' := 83) rfl rfl rfl ?_
  refine x_iload (pc' := 85) rfl rfl rfl ?_
  refine x_imul (pc' := 86) (z := ((-((mA M 6 ((3 * m) + 1)) - (f 4))) * (mA M 11 1))) rfl rfl rfl ?_
  refine x_max (pc' := 89) (z := (mx ((-((mA M 6 ((3 * m) + 1)) + (f 1))) * (mA M 11 1)) ((-((mA M 6 ((3 * m) + 1)) - (f 4))) * (mA M 11 1)))) rfl rfl rfl rfl ?_
  refine x_iadd (pc' := 90) (z := ((mx ((-((mA M 6 ((3 * m) + 0)) + (f 0))) * (mA M 11 0)) ((-((mA M 6 ((3 * m) + 0)) - (f 3))) * (mA M 11 0))) + (mx ((-((mA M 6 ((3 * m) + 1)) + (f 1))) * (mA M 11 1)) ((-((mA M 6 ((3 * m) + 1)) - (f 4))) * (mA M 11 1))))) rfl rfl rfl ?_
  refine x_istore (pc' := 92) (ls' := [_, _, _, _, _, _, _, _, _]) rfl rfl rfl rfl ?_
  refine x_iinc (pc' := 95) (y := 2) (ls' := [_, _, _, _, _, _, _, _, _]) rfl rfl rfl rfl rfl ?_
  refine x_goto (pc' := 18) rfl rfl ?_
  refine x_iload (pc' := 20) rfl rfl rfl ?_
  refine x_aload_n (pc' := 21) rfl rfl rfl rfl rfl ?_
  refine x_gR (pc' := 24) (r := (some 0)) rfl rfl rfl (kR_320_0 hc.1) ?_
  refine x_alen (pc' := 25) (N := 3) rfl rfl rfl (kN_25_0 hc.1) (?_ : X _ _ _ (.inl 3 :: _) _ _)
  refine x_icmp (a' := 98) (pc' := 28) (z := false) rfl rfl rfl (by decide) (fun h => by cases h) (fun _ => ?_)
  refine x_iload (pc' := 30) rfl rfl rfl ?_
  refine x_iconst (pc' := 31) rfl rfl ?_
  refine x_iadd (pc' := 32) (z := 5) rfl rfl (by decide) ?_
  refine x_aload_n (pc' := 33) rfl rfl rfl rfl rfl ?_
  refine x_alen (pc' := 34) (N := 6) rfl rfl rfl hN (?_ : X _ _ _ (.inl 6 :: _) _ _)
  refine x_icmp (a' := 98) (pc' := 37) (z := false) rfl rfl rfl (by decide) (fun h => by cases h) (fun _ => ?_)
  refine x_aload_n (pc' := 38) rfl rfl rfl rfl rfl ?_
  refine x_aload_n (pc' := 39) rfl rfl rfl rfl rfl ?_
  refine x_gR (pc' := 42) (r := (some 0)) rfl rfl rfl (kR_320_0 hc.1) ?_
  refine x_iload (pc' := 44) rfl rfl rfl ?_
  refine x_aald (pc' := 45) (N := 3) (k' := 2) (r := (some 2)) rfl rfl rfl (kN_25_0 hc.1) (io_in (p := 2) (N := 3) (by decide) (by decide)) (Eq.trans (congrArg (sE t 25 0) (nn_io (p := 2) (by decide))) (kK hc.1 (by decide))) ?_
  refine x_cv (ls0 := [_, _, sJk]) (rest := []) rfl rfl rfl rfl rfl ?_
  refine x_aload_n (pc' := 1) rfl rfl rfl rfl rfl ?_
  refine x_gI (pc' := 4) (x := 2) rfl rfl rfl (kI_128_2 hc.1) ?_
  refine x_istore_n (pc' := 5) (ls' := [_, _, _]) rfl rfl rfl rfl ?_
  refine x_iload_n (pc' := 6) rfl rfl rfl ?_
  refine x_if (a' := 27) (pc' := 9) (z := false) rfl rfl rfl (by decide) (fun h => by cases h) (fun _ => ?_)
  refine x_iload_n (pc' := 10) rfl rfl rfl ?_
  refine x_aload_n (pc' := 11) rfl rfl rfl rfl rfl ?_
  refine x_gR (pc' := 14) (r := (some (m + 1))) rfl rfl rfl (kMp hc.1 hm).1 ?_
  refine x_alen (pc' := 15) (N := 3) rfl rfl rfl (kMp hc.1 hm).2.1 (?_ : X _ _ _ (.inl 3 :: _) _ _)
  refine x_icmp (a' := 27) (pc' := 18) (z := false) rfl rfl rfl (by decide) (fun h => by cases h) (fun _ => ?_)
  refine x_aload_n (pc' := 19) rfl rfl rfl rfl rfl ?_
  refine x_gR (pc' := 22) (r := (some (m + 1))) rfl rfl rfl (kMp hc.1 hm).1 ?_
  refine x_iload_n (pc' := 23) rfl rfl rfl ?_
  refine x_iald (pc' := 24) (N := 3) (x := (mA M 6 ((3 * m) + 2))) rfl rfl rfl (kMp hc.1 hm).2.1 (io_in (p := 2) (N := 3) (by decide) (by decide)) (Eq.trans (congrArg (sA t 20 (m + 1)) (nn_io (p := 2) (by decide))) (kP (m := m) (c := 2) hM hm (by decide))) ?_
  refine x_goto (pc' := 28) rfl rfl ?_
  refine x_reti rfl rfl ?_
  refine sK_i (pc' := 48) rfl ?_
  refine x_istore (pc' := 50) (ls' := [_, _, _, _, _, _, _, _, _]) rfl rfl rfl rfl ?_
  refine x_aload_n (pc' := 51) rfl rfl rfl rfl rfl ?_
  refine x_iload (pc' := 53) rfl rfl rfl ?_
  refine x_iload (pc' := 55) rfl rfl rfl ?_
  refine x_cv (ls0 := [_, _, _, sJk]) (rest := []) rfl rfl rfl rfl rfl ?_
  refine x_iload_n (pc' := 1) rfl rfl rfl ?_
  refine x_iconst (pc' := 2) rfl rfl ?_
  refine x_imul (pc' := 3) (z := 0) rfl rfl (by decide) ?_
  refine x_iload_n (pc' := 4) rfl rfl rfl ?_
  refine x_iadd (pc' := 5) (z := 2) rfl rfl (by decide) ?_
  refine x_istore_n (pc' := 6) (ls' := [_, _, _, _]) rfl rfl rfl rfl ?_
  refine x_iload_n (pc' := 7) rfl rfl rfl ?_
  refine x_if (a' := 28) (pc' := 10) (z := false) rfl rfl rfl (by decide) (fun h => by cases h) (fun _ => ?_)
  refine x_iload_n (pc' := 11) rfl rfl rfl ?_
  refine x_aload_n (pc' := 12) rfl rfl rfl rfl rfl ?_
  refine x_gR (pc' := 15) (r := (some 0)) rfl rfl rfl (kR_323_0 hc.1) ?_
  refine x_alen (pc' := 16) (N := 18) rfl rfl rfl (kN_20_0 hc.1) (?_ : X _ _ _ (.inl 18 :: _) _ _)
  refine x_icmp (a' := 28) (pc' := 19) (z := false) rfl rfl rfl (by decide) (fun h => by cases h) (fun _ => ?_)
  refine x_aload_n (pc' := 20) rfl rfl rfl rfl rfl ?_
  refine x_gR (pc' := 23) (r := (some 0)) rfl rfl rfl (kR_323_0 hc.1) ?_
  refine x_iload_n (pc' := 24) rfl rfl rfl ?_
  refine x_iald (pc' := 25) (N := 18) (x := (mA M 11 2)) rfl rfl rfl (kN_20_0 hc.1) (io_in (p := 2) (N := 18) (by decide) (by decide)) (Eq.trans (congrArg (sA t 20 0) (nn_io (p := 2) (by decide))) (kV hM (by decide))) ?_
  refine x_goto (pc' := 29) rfl rfl ?_
  refine x_reti rfl rfl ?_
  refine sK_i (pc' := 58) rfl ?_
  refine x_istore (pc' := 60) (ls' := [_, _, _, _, _, _, _, _, _]) rfl rfl rfl rfl ?_
  refine x_iload (pc' := 62) rfl rfl rfl ?_
  refine x_iload (pc' := 64) rfl rfl rfl ?_
  refine x_aload_n (pc' := 65) rfl rfl rfl rfl rfl ?_
  refine x_iload (pc' := 67) rfl rfl rfl ?_
  refine x_iald (pc' := 68) (N := 6) (x := (f 2)) rfl rfl rfl hN (io_in (p := 2) (N := 6) (by decide) (by decide)) (Eq.trans (congrArg (sA t 20 c) (nn_io (p := 2) (by decide))) (hf 2 (by decide))) ?_
  refine x_iadd (pc' := 69) (z := ((mA M 6 ((3 * m) + 2)) + (f 2))) rfl rfl rfl ?_
  refine x_ineg (pc' := 70) rfl rfl rfl ?_
  refine x_iload (pc' := 72) rfl rfl rfl ?_
  refine x_imul (pc' := 73) (z := ((-((mA M 6 ((3 * m) + 2)) + (f 2))) * (mA M 11 2))) rfl rfl rfl ?_
  refine x_iload (pc' := 75) rfl rfl rfl ?_
  refine x_aload_n (pc' := 76) rfl rfl rfl rfl rfl ?_
  refine x_iload (pc' := 78) rfl rfl rfl ?_
  refine x_iconst (pc' := 79) rfl rfl ?_
  refine x_iadd (pc' := 80) (z := 5) rfl rfl (by decide) ?_
  refine x_iald (pc' := 81) (N := 6) (x := (f 5)) rfl rfl rfl hN (io_in (p := 5) (N := 6) (by decide) (by decide)) (Eq.trans (congrArg (sA t 20 c) (nn_io (p := 5) (by decide))) (hf 5 (by decide))) ?_
  refine x_isub (pc' := 82) (z := ((mA M 6 ((3 * m) + 2)) - (f 5))) rfl rfl rfl ?_
  refine x_ineg (pc' := 83) rfl rfl rfl ?_
  refine x_iload (pc' := 85) rfl rfl rfl ?_
  refine x_imul (pc' := 86) (z := ((-((mA M 6 ((3 * m) + 2)) - (f 5))) * (mA M 11 2))) rfl rfl rfl ?_
  refine x_max (pc' := 89) (z := (mx ((-((mA M 6 ((3 * m) + 2)) + (f 2))) * (mA M 11 2)) ((-((mA M 6 ((3 * m) + 2)) - (f 5))) * (mA M 11 2)))) rfl rfl rfl rfl ?_
  refine x_iadd (pc' := 90) (z := (((mx ((-((mA M 6 ((3 * m) + 0)) + (f 0))) * (mA M 11 0)) ((-((mA M 6 ((3 * m) + 0)) - (f 3))) * (mA M 11 0))) + (mx ((-((mA M 6 ((3 * m) + 1)) + (f 1))) * (mA M 11 1)) ((-((mA M 6 ((3 * m) + 1)) - (f 4))) * (mA M 11 1)))) + (mx ((-((mA M 6 ((3 * m) + 2)) + (f 2))) * (mA M 11 2)) ((-((mA M 6 ((3 * m) + 2)) - (f 5))) * (mA M 11 2))))) rfl rfl rfl ?_
  refine x_istore (pc' := 92) (ls' := [_, _, _, _, _, _, _, _, _]) rfl rfl rfl rfl ?_
  refine x_iinc (pc' := 95) (y := 3) (ls' := [_, _, _, _, _, _, _, _, _]) rfl rfl rfl rfl rfl ?_
  refine x_goto (pc' := 18) rfl rfl ?_
  refine x_iload (pc' := 20) rfl rfl rfl ?_
  refine x_aload_n (pc' := 21) rfl rfl rfl rfl rfl ?_
  refine x_gR (pc' := 24) (r := (some 0)) rfl rfl rfl (kR_320_0 hc.1) ?_
  refine x_alen (pc' := 25) (N := 3) rfl rfl rfl (kN_25_0 hc.1) (?_ : X _ _ _ (.inl 3 :: _) _ _)
  refine x_icmp (a' := 98) (pc' := 28) (z := true) rfl rfl rfl (by decide) (fun _ => ?_) (fun h => by cases h)
  refine x_iload_n (pc' := 99) rfl rfl rfl ?_
  refine x_iload (pc' := 101) rfl rfl rfl ?_
  refine x_max (pc' := 104) (z := (mx 0 (((mx ((-((mA M 6 ((3 * m) + 0)) + (f 0))) * (mA M 11 0)) ((-((mA M 6 ((3 * m) + 0)) - (f 3))) * (mA M 11 0))) + (mx ((-((mA M 6 ((3 * m) + 1)) + (f 1))) * (mA M 11 1)) ((-((mA M 6 ((3 * m) + 1)) - (f 4))) * (mA M 11 1)))) + (mx ((-((mA M 6 ((3 * m) + 2)) + (f 2))) * (mA M 11 2)) ((-((mA M 6 ((3 * m) + 2)) - (f 5))) * (mA M 11 2)))))) rfl rfl rfl rfl ?_
  refine x_istore_n (pc' := 105) (ls' := [_, _, _, _, _, _, _, _, _]) rfl rfl rfl rfl ?_
  refine x_iinc (pc' := 108) (y := 1) (ls' := [_, _, _, _, _, _, _, _, _]) rfl rfl rfl rfl rfl ?_
  refine x_goto (pc' := 5) rfl rfl ?_
  refine x_iload (pc' := 7) rfl rfl rfl ?_
  refine x_bipush (pc' := 9) rfl rfl ?_
  refine x_icmp (a' := 111) (pc' := 12) (z := false) rfl rfl rfl (by decide) (fun h => by cases h) (fun _ => ?_)
  refine x_iconst (pc' := 13) rfl rfl ?_
  refine x_istore (pc' := 15) (ls' := [_, _, _, _, _, _, _, _, _]) rfl rfl rfl rfl ?_
  refine x_iconst (pc' := 16) rfl rfl ?_
  refine x_istore (pc' := 18) (ls' := [_, _, _, _, _, _, _, _, _]) rfl rfl rfl rfl ?_
  refine x_iload (pc' := 20) rfl rfl rfl ?_
  refine x_aload_n (pc' := 21) rfl rfl rfl rfl rfl ?_
  refine x_gR (pc' := 24) (r := (some 0)) rfl rfl rfl (kR_320_0 hc.1) ?_
  refine x_alen (pc' := 25) (N := 3) rfl rfl rfl (kN_25_0 hc.1) (?_ : X _ _ _ (.inl 3 :: _) _ _)
  refine x_icmp (a' := 98) (pc' := 28) (z := false) rfl rfl rfl (by decide) (fun h => by cases h) (fun _ => ?_)
  refine x_iload (pc' := 30) rfl rfl rfl ?_
  refine x_iconst (pc' := 31) rfl rfl ?_
  refine x_iadd (pc' := 32) (z := 3) rfl rfl (by decide) ?_
  refine x_aload_n (pc' := 33) rfl rfl rfl rfl rfl ?_
  refine x_alen (pc' := 34) (N := 6) rfl rfl rfl hN (?_ : X _ _ _ (.inl 6 :: _) _ _)
  refine x_icmp (a' := 98) (pc' := 37) (z := false) rfl rfl rfl (by decide) (fun h => by cases h) (fun _ => ?_)
  refine x_aload_n (pc' := 38) rfl rfl rfl rfl rfl ?_
  refine x_aload_n (pc' := 39) rfl rfl rfl rfl rfl ?_
  refine x_gR (pc' := 42) (r := (some 0)) rfl rfl rfl (kR_320_0 hc.1) ?_
  refine x_iload (pc' := 44) rfl rfl rfl ?_
  refine x_aald (pc' := 45) (N := 3) (k' := 2) (r := (some 0)) rfl rfl rfl (kN_25_0 hc.1) (io_in (p := 0) (N := 3) (by decide) (by decide)) (Eq.trans (congrArg (sE t 25 0) (nn_io (p := 0) (by decide))) (kK hc.1 (by decide))) ?_
  refine x_cv (ls0 := [_, _, sJk]) (rest := []) rfl rfl rfl rfl rfl ?_
  refine x_aload_n (pc' := 1) rfl rfl rfl rfl rfl ?_
  refine x_gI (pc' := 4) (x := 0) rfl rfl rfl (kI_128_0 hc.1) ?_
  refine x_istore_n (pc' := 5) (ls' := [_, _, _]) rfl rfl rfl rfl ?_
  refine x_iload_n (pc' := 6) rfl rfl rfl ?_
  refine x_if (a' := 27) (pc' := 9) (z := false) rfl rfl rfl (by decide) (fun h => by cases h) (fun _ => ?_)
  refine x_iload_n (pc' := 10) rfl rfl rfl ?_
  refine x_aload_n (pc' := 11) rfl rfl rfl rfl rfl ?_
  refine x_gR (pc' := 14) (r := (some (m + 1))) rfl rfl rfl (kMp hc.1 hm).1 ?_
  refine x_alen (pc' := 15) (N := 3) rfl rfl rfl (kMp hc.1 hm).2.1 (?_ : X _ _ _ (.inl 3 :: _) _ _)
  refine x_icmp (a' := 27) (pc' := 18) (z := false) rfl rfl rfl (by decide) (fun h => by cases h) (fun _ => ?_)
  refine x_aload_n (pc' := 19) rfl rfl rfl rfl rfl ?_
  refine x_gR (pc' := 22) (r := (some (m + 1))) rfl rfl rfl (kMp hc.1 hm).1 ?_
  refine x_iload_n (pc' := 23) rfl rfl rfl ?_
  refine x_iald (pc' := 24) (N := 3) (x := (mA M 6 ((3 * m) + 0))) rfl rfl rfl (kMp hc.1 hm).2.1 (io_in (p := 0) (N := 3) (by decide) (by decide)) (Eq.trans (congrArg (sA t 20 (m + 1)) (nn_io (p := 0) (by decide))) (kP (m := m) (c := 0) hM hm (by decide))) ?_
  refine x_goto (pc' := 28) rfl rfl ?_
  refine x_reti rfl rfl ?_
  refine sK_i (pc' := 48) rfl ?_
  refine x_istore (pc' := 50) (ls' := [_, _, _, _, _, _, _, _, _]) rfl rfl rfl rfl ?_
  refine x_aload_n (pc' := 51) rfl rfl rfl rfl rfl ?_
  refine x_iload (pc' := 53) rfl rfl rfl ?_
  refine x_iload (pc' := 55) rfl rfl rfl ?_
  refine x_cv (ls0 := [_, _, _, sJk]) (rest := []) rfl rfl rfl rfl rfl ?_
  refine x_iload_n (pc' := 1) rfl rfl rfl ?_
  refine x_iconst (pc' := 2) rfl rfl ?_
  refine x_imul (pc' := 3) (z := 3) rfl rfl (by decide) ?_
  refine x_iload_n (pc' := 4) rfl rfl rfl ?_
  refine x_iadd (pc' := 5) (z := 3) rfl rfl (by decide) ?_
  refine x_istore_n (pc' := 6) (ls' := [_, _, _, _]) rfl rfl rfl rfl ?_
  refine x_iload_n (pc' := 7) rfl rfl rfl ?_
  refine x_if (a' := 28) (pc' := 10) (z := false) rfl rfl rfl (by decide) (fun h => by cases h) (fun _ => ?_)
  refine x_iload_n (pc' := 11) rfl rfl rfl ?_
  refine x_aload_n (pc' := 12) rfl rfl rfl rfl rfl ?_
  refine x_gR (pc' := 15) (r := (some 0)) rfl rfl rfl (kR_323_0 hc.1) ?_
  refine x_alen (pc' := 16) (N := 18) rfl rfl rfl (kN_20_0 hc.1) (?_ : X _ _ _ (.inl 18 :: _) _ _)
  refine x_icmp (a' := 28) (pc' := 19) (z := false) rfl rfl rfl (by decide) (fun h => by cases h) (fun _ => ?_)
  refine x_aload_n (pc' := 20) rfl rfl rfl rfl rfl ?_
  refine x_gR (pc' := 23) (r := (some 0)) rfl rfl rfl (kR_323_0 hc.1) ?_
  refine x_iload_n (pc' := 24) rfl rfl rfl ?_
  refine x_iald (pc' := 25) (N := 18) (x := (mA M 11 3)) rfl rfl rfl (kN_20_0 hc.1) (io_in (p := 3) (N := 18) (by decide) (by decide)) (Eq.trans (congrArg (sA t 20 0) (nn_io (p := 3) (by decide))) (kV hM (by decide))) ?_
  refine x_goto (pc' := 29) rfl rfl ?_
  refine x_reti rfl rfl ?_
  refine sK_i (pc' := 58) rfl ?_
  refine x_istore (pc' := 60) (ls' := [_, _, _, _, _, _, _, _, _]) rfl rfl rfl rfl ?_
  refine x_iload (pc' := 62) rfl rfl rfl ?_
  refine x_iload (pc' := 64) rfl rfl rfl ?_
  refine x_aload_n (pc' := 65) rfl rfl rfl rfl rfl ?_
  refine x_iload (pc' := 67) rfl rfl rfl ?_
  refine x_iald (pc' := 68) (N := 6) (x := (f 0)) rfl rfl rfl hN (io_in (p := 0) (N := 6) (by decide) (by decide)) (Eq.trans (congrArg (sA t 20 c) (nn_io (p := 0) (by decide))) (hf 0 (by decide))) ?_
  refine x_iadd (pc' := 69) (z := ((mA M 6 ((3 * m) + 0)) + (f 0))) rfl rfl rfl ?_
  refine x_ineg (pc' := 70) rfl rfl rfl ?_
  refine x_iload (pc' := 72) rfl rfl rfl ?_
  refine x_imul (pc' := 73) (z := ((-((mA M 6 ((3 * m) + 0)) + (f 0))) * (mA M 11 3))) rfl rfl rfl ?_
  refine x_iload (pc' := 75) rfl rfl rfl ?_
  refine x_aload_n (pc' := 76) rfl rfl rfl rfl rfl ?_
  refine x_iload (pc' := 78) rfl rfl rfl ?_
  refine x_iconst (pc' := 79) rfl rfl ?_
  refine x_iadd (pc' := 80) (z := 3) rfl rfl (by decide) ?_
  refine x_iald (pc' := 81) (N := 6) (x := (f 3)) rfl rfl rfl hN (io_in (p := 3) (N := 6) (by decide) (by decide)) (Eq.trans (congrArg (sA t 20 c) (nn_io (p := 3) (by decide))) (hf 3 (by decide))) ?_
  refine x_isub (pc' := 82) (z := ((mA M 6 ((3 * m) + 0)) - (f 3))) rfl rfl rfl ?_
  refine x_ineg (pc' := 83) rfl rfl rfl ?_
  refine x_iload (pc' := 85) rfl rfl rfl ?_
  refine x_imul (pc' := 86) (z := ((-((mA M 6 ((3 * m) + 0)) - (f 3))) * (mA M 11 3))) rfl rfl rfl ?_
  refine x_max (pc' := 89) (z := (mx ((-((mA M 6 ((3 * m) + 0)) + (f 0))) * (mA M 11 3)) ((-((mA M 6 ((3 * m) + 0)) - (f 3))) * (mA M 11 3)))) rfl rfl rfl rfl ?_
  refine x_iadd (pc' := 90) (z := (mx ((-((mA M 6 ((3 * m) + 0)) + (f 0))) * (mA M 11 3)) ((-((mA M 6 ((3 * m) + 0)) - (f 3))) * (mA M 11 3)))) rfl rfl (Int32.zero_add _) ?_
  refine x_istore (pc' := 92) (ls' := [_, _, _, _, _, _, _, _, _]) rfl rfl rfl rfl ?_
  refine x_iinc (pc' := 95) (y := 1) (ls' := [_, _, _, _, _, _, _, _, _]) rfl rfl rfl rfl rfl ?_
  refine x_goto (pc' := 18) rfl rfl ?_
  refine x_iload (pc' := 20) rfl rfl rfl ?_
  refine x_aload_n (pc' := 21) rfl rfl rfl rfl rfl ?_
  refine x_gR (pc' := 24) (r := (some 0)) rfl rfl rfl (kR_320_0 hc.1) ?_
  refine x_alen (pc' := 25) (N := 3) rfl rfl rfl (kN_25_0 hc.1) (?_ : X _ _ _ (.inl 3 :: _) _ _)
  refine x_icmp (a' := 98) (pc' := 28) (z := false) rfl rfl rfl (by decide) (fun h => by cases h) (fun _ => ?_)
  refine x_iload (pc' := 30) rfl rfl rfl ?_
  refine x_iconst (pc' := 31) rfl rfl ?_
  refine x_iadd (pc' := 32) (z := 4) rfl rfl (by decide) ?_
  refine x_aload_n (pc' := 33) rfl rfl rfl rfl rfl ?_
  refine x_alen (pc' := 34) (N := 6) rfl rfl rfl hN (?_ : X _ _ _ (.inl 6 :: _) _ _)
  refine x_icmp (a' := 98) (pc' := 37) (z := false) rfl rfl rfl (by decide) (fun h => by cases h) (fun _ => ?_)
  refine x_aload_n (pc' := 38) rfl rfl rfl rfl rfl ?_
  refine x_aload_n (pc' := 39) rfl rfl rfl rfl rfl ?_
  refine x_gR (pc' := 42) (r := (some 0)) rfl rfl rfl (kR_320_0 hc.1) ?_
  refine x_iload (pc' := 44) rfl rfl rfl ?_
  refine x_aald (pc' := 45) (N := 3) (k' := 2) (r := (some 1)) rfl rfl rfl (kN_25_0 hc.1) (io_in (p := 1) (N := 3) (by decide) (by decide)) (Eq.trans (congrArg (sE t 25 0) (nn_io (p := 1) (by decide))) (kK hc.1 (by decide))) ?_
  refine x_cv (ls0 := [_, _, sJk]) (rest := []) rfl rfl rfl rfl rfl ?_
  refine x_aload_n (pc' := 1) rfl rfl rfl rfl rfl ?_
  refine x_gI (pc' := 4) (x := 1) rfl rfl rfl (kI_128_1 hc.1) ?_
  refine x_istore_n (pc' := 5) (ls' := [_, _, _]) rfl rfl rfl rfl ?_
  refine x_iload_n (pc' := 6) rfl rfl rfl ?_
  refine x_if (a' := 27) (pc' := 9) (z := false) rfl rfl rfl (by decide) (fun h => by cases h) (fun _ => ?_)
  refine x_iload_n (pc' := 10) rfl rfl rfl ?_
  refine x_aload_n (pc' := 11) rfl rfl rfl rfl rfl ?_
  refine x_gR (pc' := 14) (r := (some (m + 1))) rfl rfl rfl (kMp hc.1 hm).1 ?_
  refine x_alen (pc' := 15) (N := 3) rfl rfl rfl (kMp hc.1 hm).2.1 (?_ : X _ _ _ (.inl 3 :: _) _ _)
  refine x_icmp (a' := 27) (pc' := 18) (z := false) rfl rfl rfl (by decide) (fun h => by cases h) (fun _ => ?_)
  refine x_aload_n (pc' := 19) rfl rfl rfl rfl rfl ?_
  refine x_gR (pc' := 22) (r := (some (m + 1))) rfl rfl rfl (kMp hc.1 hm).1 ?_
  refine x_iload_n (pc' := 23) rfl rfl rfl ?_
  refine x_iald (pc' := 24) (N := 3) (x := (mA M 6 ((3 * m) + 1))) rfl rfl rfl (kMp hc.1 hm).2.1 (io_in (p := 1) (N := 3) (by decide) (by decide)) (Eq.trans (congrArg (sA t 20 (m + 1)) (nn_io (p := 1) (by decide))) (kP (m := m) (c := 1) hM hm (by decide))) ?_
  refine x_goto (pc' := 28) rfl rfl ?_
  refine x_reti rfl rfl ?_
  refine sK_i (pc' := 48) rfl ?_
  refine x_istore (pc' := 50) (ls' := [_, _, _, _, _, _, _, _, _]) rfl rfl rfl rfl ?_
  refine x_aload_n (pc' := 51) rfl rfl rfl rfl rfl ?_
  refine x_iload (pc' := 53) rfl rfl rfl ?_
  refine x_iload (pc' := 55) rfl rfl rfl ?_
  refine x_cv (ls0 := [_, _, _, sJk]) (rest := []) rfl rfl rfl rfl rfl ?_
  refine x_iload_n (pc' := 1) rfl rfl rfl ?_
  refine x_iconst (pc' := 2) rfl rfl ?_
  refine x_imul (pc' := 3) (z := 3) rfl rfl (by decide) ?_
  refine x_iload_n (pc' := 4) rfl rfl rfl ?_
  refine x_iadd (pc' := 5) (z := 4) rfl rfl (by decide) ?_
  refine x_istore_n (pc' := 6) (ls' := [_, _, _, _]) rfl rfl rfl rfl ?_
  refine x_iload_n (pc' := 7) rfl rfl rfl ?_
  refine x_if (a' := 28) (pc' := 10) (z := false) rfl rfl rfl (by decide) (fun h => by cases h) (fun _ => ?_)
  refine x_iload_n (pc' := 11) rfl rfl rfl ?_
  refine x_aload_n (pc' := 12) rfl rfl rfl rfl rfl ?_
  refine x_gR (pc' := 15) (r := (some 0)) rfl rfl rfl (kR_323_0 hc.1) ?_
  refine x_alen (pc' := 16) (N := 18) rfl rfl rfl (kN_20_0 hc.1) (?_ : X _ _ _ (.inl 18 :: _) _ _)
  refine x_icmp (a' := 28) (pc' := 19) (z := false) rfl rfl rfl (by decide) (fun h => by cases h) (fun _ => ?_)
  refine x_aload_n (pc' := 20) rfl rfl rfl rfl rfl ?_
  refine x_gR (pc' := 23) (r := (some 0)) rfl rfl rfl (kR_323_0 hc.1) ?_
  refine x_iload_n (pc' := 24) rfl rfl rfl ?_
  refine x_iald (pc' := 25) (N := 18) (x := (mA M 11 4)) rfl rfl rfl (kN_20_0 hc.1) (io_in (p := 4) (N := 18) (by decide) (by decide)) (Eq.trans (congrArg (sA t 20 0) (nn_io (p := 4) (by decide))) (kV hM (by decide))) ?_
  refine x_goto (pc' := 29) rfl rfl ?_
  refine x_reti rfl rfl ?_
  refine sK_i (pc' := 58) rfl ?_
  refine x_istore (pc' := 60) (ls' := [_, _, _, _, _, _, _, _, _]) rfl rfl rfl rfl ?_
  refine x_iload (pc' := 62) rfl rfl rfl ?_
  refine x_iload (pc' := 64) rfl rfl rfl ?_
  refine x_aload_n (pc' := 65) rfl rfl rfl rfl rfl ?_
  refine x_iload (pc' := 67) rfl rfl rfl ?_
  refine x_iald (pc' := 68) (N := 6) (x := (f 1)) rfl rfl rfl hN (io_in (p := 1) (N := 6) (by decide) (by decide)) (Eq.trans (congrArg (sA t 20 c) (nn_io (p := 1) (by decide))) (hf 1 (by decide))) ?_
  refine x_iadd (pc' := 69) (z := ((mA M 6 ((3 * m) + 1)) + (f 1))) rfl rfl rfl ?_
  refine x_ineg (pc' := 70) rfl rfl rfl ?_
  refine x_iload (pc' := 72) rfl rfl rfl ?_
  refine x_imul (pc' := 73) (z := ((-((mA M 6 ((3 * m) + 1)) + (f 1))) * (mA M 11 4))) rfl rfl rfl ?_
  refine x_iload (pc' := 75) rfl rfl rfl ?_
  refine x_aload_n (pc' := 76) rfl rfl rfl rfl rfl ?_
  refine x_iload (pc' := 78) rfl rfl rfl ?_
  refine x_iconst (pc' := 79) rfl rfl ?_
  refine x_iadd (pc' := 80) (z := 4) rfl rfl (by decide) ?_
  refine x_iald (pc' := 81) (N := 6) (x := (f 4)) rfl rfl rfl hN (io_in (p := 4) (N := 6) (by decide) (by decide)) (Eq.trans (congrArg (sA t 20 c) (nn_io (p := 4) (by decide))) (hf 4 (by decide))) ?_
  refine x_isub (pc' := 82) (z := ((mA M 6 ((3 * m) + 1)) - (f 4))) rfl rfl rfl ?_
  refine x_ineg (pc' := 83) rfl rfl rfl ?_
  refine x_iload (pc' := 85) rfl rfl rfl ?_
  refine x_imul (pc' := 86) (z := ((-((mA M 6 ((3 * m) + 1)) - (f 4))) * (mA M 11 4))) rfl rfl rfl ?_
  refine x_max (pc' := 89) (z := (mx ((-((mA M 6 ((3 * m) + 1)) + (f 1))) * (mA M 11 4)) ((-((mA M 6 ((3 * m) + 1)) - (f 4))) * (mA M 11 4)))) rfl rfl rfl rfl ?_
  refine x_iadd (pc' := 90) (z := ((mx ((-((mA M 6 ((3 * m) + 0)) + (f 0))) * (mA M 11 3)) ((-((mA M 6 ((3 * m) + 0)) - (f 3))) * (mA M 11 3))) + (mx ((-((mA M 6 ((3 * m) + 1)) + (f 1))) * (mA M 11 4)) ((-((mA M 6 ((3 * m) + 1)) - (f 4))) * (mA M 11 4))))) rfl rfl rfl ?_
  refine x_istore (pc' := 92) (ls' := [_, _, _, _, _, _, _, _, _]) rfl rfl rfl rfl ?_
  refine x_iinc (pc' := 95) (y := 2) (ls' := [_, _, _, _, _, _, _, _, _]) rfl rfl rfl rfl rfl ?_
  refine x_goto (pc' := 18) rfl rfl ?_
  refine x_iload (pc' := 20) rfl rfl rfl ?_
  refine x_aload_n (pc' := 21) rfl rfl rfl rfl rfl ?_
  refine x_gR (pc' := 24) (r := (some 0)) rfl rfl rfl (kR_320_0 hc.1) ?_
  refine x_alen (pc' := 25) (N := 3) rfl rfl rfl (kN_25_0 hc.1) (?_ : X _ _ _ (.inl 3 :: _) _ _)
  refine x_icmp (a' := 98) (pc' := 28) (z := false) rfl rfl rfl (by decide) (fun h => by cases h) (fun _ => ?_)
  refine x_iload (pc' := 30) rfl rfl rfl ?_
  refine x_iconst (pc' := 31) rfl rfl ?_
  refine x_iadd (pc' := 32) (z := 5) rfl rfl (by decide) ?_
  refine x_aload_n (pc' := 33) rfl rfl rfl rfl rfl ?_
  refine x_alen (pc' := 34) (N := 6) rfl rfl rfl hN (?_ : X _ _ _ (.inl 6 :: _) _ _)
  refine x_icmp (a' := 98) (pc' := 37) (z := false) rfl rfl rfl (by decide) (fun h => by cases h) (fun _ => ?_)
  refine x_aload_n (pc' := 38) rfl rfl rfl rfl rfl ?_
  refine x_aload_n (pc' := 39) rfl rfl rfl rfl rfl ?_
  refine x_gR (pc' := 42) (r := (some 0)) rfl rfl rfl (kR_320_0 hc.1) ?_
  refine x_iload (pc' := 44) rfl rfl rfl ?_
  refine x_aald (pc' := 45) (N := 3) (k' := 2) (r := (some 2)) rfl rfl rfl (kN_25_0 hc.1) (io_in (p := 2) (N := 3) (by decide) (by decide)) (Eq.trans (congrArg (sE t 25 0) (nn_io (p := 2) (by decide))) (kK hc.1 (by decide))) ?_
  refine x_cv (ls0 := [_, _, sJk]) (rest := []) rfl rfl rfl rfl rfl ?_
  refine x_aload_n (pc' := 1) rfl rfl rfl rfl rfl ?_
  refine x_gI (pc' := 4) (x := 2) rfl rfl rfl (kI_128_2 hc.1) ?_
  refine x_istore_n (pc' := 5) (ls' := [_, _, _]) rfl rfl rfl rfl ?_
  refine x_iload_n (pc' := 6) rfl rfl rfl ?_
  refine x_if (a' := 27) (pc' := 9) (z := false) rfl rfl rfl (by decide) (fun h => by cases h) (fun _ => ?_)
  refine x_iload_n (pc' := 10) rfl rfl rfl ?_
  refine x_aload_n (pc' := 11) rfl rfl rfl rfl rfl ?_
  refine x_gR (pc' := 14) (r := (some (m + 1))) rfl rfl rfl (kMp hc.1 hm).1 ?_
  refine x_alen (pc' := 15) (N := 3) rfl rfl rfl (kMp hc.1 hm).2.1 (?_ : X _ _ _ (.inl 3 :: _) _ _)
  refine x_icmp (a' := 27) (pc' := 18) (z := false) rfl rfl rfl (by decide) (fun h => by cases h) (fun _ => ?_)
  refine x_aload_n (pc' := 19) rfl rfl rfl rfl rfl ?_
  refine x_gR (pc' := 22) (r := (some (m + 1))) rfl rfl rfl (kMp hc.1 hm).1 ?_
  refine x_iload_n (pc' := 23) rfl rfl rfl ?_
  refine x_iald (pc' := 24) (N := 3) (x := (mA M 6 ((3 * m) + 2))) rfl rfl rfl (kMp hc.1 hm).2.1 (io_in (p := 2) (N := 3) (by decide) (by decide)) (Eq.trans (congrArg (sA t 20 (m + 1)) (nn_io (p := 2) (by decide))) (kP (m := m) (c := 2) hM hm (by decide))) ?_
  refine x_goto (pc' := 28) rfl rfl ?_
  refine x_reti rfl rfl ?_
  refine sK_i (pc' := 48) rfl ?_
  refine x_istore (pc' := 50) (ls' := [_, _, _, _, _, _, _, _, _]) rfl rfl rfl rfl ?_
  refine x_aload_n (pc' := 51) rfl rfl rfl rfl rfl ?_
  refine x_iload (pc' := 53) rfl rfl rfl ?_
  refine x_iload (pc' := 55) rfl rfl rfl ?_
  refine x_cv (ls0 := [_, _, _, sJk]) (rest := []) rfl rfl rfl rfl rfl ?_
  refine x_iload_n (pc' := 1) rfl rfl rfl ?_
  refine x_iconst (pc' := 2) rfl rfl ?_
  refine x_imul (pc' := 3) (z := 3) rfl rfl (by decide) ?_
  refine x_iload_n (pc' := 4) rfl rfl rfl ?_
  refine x_iadd (pc' := 5) (z := 5) rfl rfl (by decide) ?_
  refine x_istore_n (pc' := 6) (ls' := [_, _, _, _]) rfl rfl rfl rfl ?_
  refine x_iload_n (pc' := 7) rfl rfl rfl ?_
  refine x_if (a' := 28) (pc' := 10) (z := false) rfl rfl rfl (by decide) (fun h => by cases h) (fun _ => ?_)
  refine x_iload_n (pc' := 11) rfl rfl rfl ?_
  refine x_aload_n (pc' := 12) rfl rfl rfl rfl rfl ?_
  refine x_gR (pc' := 15) (r := (some 0)) rfl rfl rfl (kR_323_0 hc.1) ?_
  refine x_alen (pc' := 16) (N := 18) rfl rfl rfl (kN_20_0 hc.1) (?_ : X _ _ _ (.inl 18 :: _) _ _)
  refine x_icmp (a' := 28) (pc' := 19) (z := false) rfl rfl rfl (by decide) (fun h => by cases h) (fun _ => ?_)
  refine x_aload_n (pc' := 20) rfl rfl rfl rfl rfl ?_
  refine x_gR (pc' := 23) (r := (some 0)) rfl rfl rfl (kR_323_0 hc.1) ?_
  refine x_iload_n (pc' := 24) rfl rfl rfl ?_
  refine x_iald (pc' := 25) (N := 18) (x := (mA M 11 5)) rfl rfl rfl (kN_20_0 hc.1) (io_in (p := 5) (N := 18) (by decide) (by decide)) (Eq.trans (congrArg (sA t 20 0) (nn_io (p := 5) (by decide))) (kV hM (by decide))) ?_
  refine x_goto (pc' := 29) rfl rfl ?_
  refine x_reti rfl rfl ?_
  refine sK_i (pc' := 58) rfl ?_
  refine x_istore (pc' := 60) (ls' := [_, _, _, _, _, _, _, _, _]) rfl rfl rfl rfl ?_
  refine x_iload (pc' := 62) rfl rfl rfl ?_
  refine x_iload (pc' := 64) rfl rfl rfl ?_
  refine x_aload_n (pc' := 65) rfl rfl rfl rfl rfl ?_
  refine x_iload (pc' := 67) rfl rfl rfl ?_
  refine x_iald (pc' := 68) (N := 6) (x := (f 2)) rfl rfl rfl hN (io_in (p := 2) (N := 6) (by decide) (by decide)) (Eq.trans (congrArg (sA t 20 c) (nn_io (p := 2) (by decide))) (hf 2 (by decide))) ?_
  refine x_iadd (pc' := 69) (z := ((mA M 6 ((3 * m) + 2)) + (f 2))) rfl rfl rfl ?_
  refine x_ineg (pc' := 70) rfl rfl rfl ?_
  refine x_iload (pc' := 72) rfl rfl rfl ?_
  refine x_imul (pc' := 73) (z := ((-((mA M 6 ((3 * m) + 2)) + (f 2))) * (mA M 11 5))) rfl rfl rfl ?_
  refine x_iload (pc' := 75) rfl rfl rfl ?_
  refine x_aload_n (pc' := 76) rfl rfl rfl rfl rfl ?_
  refine x_iload (pc' := 78) rfl rfl rfl ?_
  refine x_iconst (pc' := 79) rfl rfl ?_
  refine x_iadd (pc' := 80) (z := 5) rfl rfl (by decide) ?_
  refine x_iald (pc' := 81) (N := 6) (x := (f 5)) rfl rfl rfl hN (io_in (p := 5) (N := 6) (by decide) (by decide)) (Eq.trans (congrArg (sA t 20 c) (nn_io (p := 5) (by decide))) (hf 5 (by decide))) ?_
  refine x_isub (pc' := 82) (z := ((mA M 6 ((3 * m) + 2)) - (f 5))) rfl rfl rfl ?_
  refine x_ineg (pc' := 83) rfl rfl rfl ?_
  refine x_iload (pc' := 85) rfl rfl rfl ?_
  refine x_imul (pc' := 86) (z := ((-((mA M 6 ((3 * m) + 2)) - (f 5))) * (mA M 11 5))) rfl rfl rfl ?_
  refine x_max (pc' := 89) (z := (mx ((-((mA M 6 ((3 * m) + 2)) + (f 2))) * (mA M 11 5)) ((-((mA M 6 ((3 * m) + 2)) - (f 5))) * (mA M 11 5)))) rfl rfl rfl rfl ?_
  refine x_iadd (pc' := 90) (z := (((mx ((-((mA M 6 ((3 * m) + 0)) + (f 0))) * (mA M 11 3)) ((-((mA M 6 ((3 * m) + 0)) - (f 3))) * (mA M 11 3))) + (mx ((-((mA M 6 ((3 * m) + 1)) + (f 1))) * (mA M 11 4)) ((-((mA M 6 ((3 * m) + 1)) - (f 4))) * (mA M 11 4)))) + (mx ((-((mA M 6 ((3 * m) + 2)) + (f 2))) * (mA M 11 5)) ((-((mA M 6 ((3 * m) + 2)) - (f 5))) * (mA M 11 5))))) rfl rfl rfl ?_
  refine x_istore (pc' := 92) (ls' := [_, _, _, _, _, _, _, _, _]) rfl rfl rfl rfl ?_
  refine x_iinc (pc' := 95) (y := 3) (ls' := [_, _, _, _, _, _, _, _, _]) rfl rfl rfl rfl rfl ?_
  refine x_goto (pc' := 18) rfl rfl ?_
  refine x_iload (pc' := 20) rfl rfl rfl ?_
  refine x_aload_n (pc' := 21) rfl rfl rfl rfl rfl ?_
  refine x_gR (pc' := 24) (r := (some 0)) rfl rfl rfl (kR_320_0 hc.1) ?_
  refine x_alen (pc' := 25) (N := 3) rfl rfl rfl (kN_25_0 hc.1) (?_ : X _ _ _ (.inl 3 :: _) _ _)
  refine x_icmp (a' := 98) (pc' := 28) (z := true) rfl rfl rfl (by decide) (fun _ => ?_) (fun h => by cases h)
  refine x_iload_n (pc' := 99) rfl rfl rfl ?_
  refine x_iload (pc' := 101) rfl rfl rfl ?_
  refine x_max (pc' := 104) (z := (mx (mx 0 (((mx ((-((mA M 6 ((3 * m) + 0)) + (f 0))) * (mA M 11 0)) ((-((mA M 6 ((3 * m) + 0)) - (f 3))) * (mA M 11 0))) + (mx ((-((mA M 6 ((3 * m) + 1)) + (f 1))) * (mA M 11 1)) ((-((mA M 6 ((3 * m) + 1)) - (f 4))) * (mA M 11 1)))) + (mx ((-((mA M 6 ((3 * m) + 2)) + (f 2))) * (mA M 11 2)) ((-((mA M 6 ((3 * m) + 2)) - (f 5))) * (mA M 11 2))))) (((mx ((-((mA M 6 ((3 * m) + 0)) + (f 0))) * (mA M 11 3)) ((-((mA M 6 ((3 * m) + 0)) - (f 3))) * (mA M 11 3))) + (mx ((-((mA M 6 ((3 * m) + 1)) + (f 1))) * (mA M 11 4)) ((-((mA M 6 ((3 * m) + 1)) - (f 4))) * (mA M 11 4)))) + (mx ((-((mA M 6 ((3 * m) + 2)) + (f 2))) * (mA M 11 5)) ((-((mA M 6 ((3 * m) + 2)) - (f 5))) * (mA M 11 5)))))) rfl rfl rfl rfl ?_
  refine x_istore_n (pc' := 105) (ls' := [_, _, _, _, _, _, _, _, _]) rfl rfl rfl rfl ?_
  refine x_iinc (pc' := 108) (y := 2) (ls' := [_, _, _, _, _, _, _, _, _]) rfl rfl rfl rfl rfl ?_
  refine x_goto (pc' := 5) rfl rfl ?_
  refine x_iload (pc' := 7) rfl rfl rfl ?_
  refine x_bipush (pc' := 9) rfl rfl ?_
  refine x_icmp (a' := 111) (pc' := 12) (z := false) rfl rfl rfl (by decide) (fun h => by cases h) (fun _ => ?_)
  refine x_iconst (pc' := 13) rfl rfl ?_
  refine x_istore (pc' := 15) (ls' := [_, _, _, _, _, _, _, _, _]) rfl rfl rfl rfl ?_
  refine x_iconst (pc' := 16) rfl rfl ?_
  refine x_istore (pc' := 18) (ls' := [_, _, _, _, _, _, _, _, _]) rfl rfl rfl rfl ?_
  refine x_iload (pc' := 20) rfl rfl rfl ?_
  refine x_aload_n (pc' := 21) rfl rfl rfl rfl rfl ?_
  refine x_gR (pc' := 24) (r := (some 0)) rfl rfl rfl (kR_320_0 hc.1) ?_
  refine x_alen (pc' := 25) (N := 3) rfl rfl rfl (kN_25_0 hc.1) (?_ : X _ _ _ (.inl 3 :: _) _ _)
  refine x_icmp (a' := 98) (pc' := 28) (z := false) rfl rfl rfl (by decide) (fun h => by cases h) (fun _ => ?_)
  refine x_iload (pc' := 30) rfl rfl rfl ?_
  refine x_iconst (pc' := 31) rfl rfl ?_
  refine x_iadd (pc' := 32) (z := 3) rfl rfl (by decide) ?_
  refine x_aload_n (pc' := 33) rfl rfl rfl rfl rfl ?_
  refine x_alen (pc' := 34) (N := 6) rfl rfl rfl hN (?_ : X _ _ _ (.inl 6 :: _) _ _)
  refine x_icmp (a' := 98) (pc' := 37) (z := false) rfl rfl rfl (by decide) (fun h => by cases h) (fun _ => ?_)
  refine x_aload_n (pc' := 38) rfl rfl rfl rfl rfl ?_
  refine x_aload_n (pc' := 39) rfl rfl rfl rfl rfl ?_
  refine x_gR (pc' := 42) (r := (some 0)) rfl rfl rfl (kR_320_0 hc.1) ?_
  refine x_iload (pc' := 44) rfl rfl rfl ?_
  refine x_aald (pc' := 45) (N := 3) (k' := 2) (r := (some 0)) rfl rfl rfl (kN_25_0 hc.1) (io_in (p := 0) (N := 3) (by decide) (by decide)) (Eq.trans (congrArg (sE t 25 0) (nn_io (p := 0) (by decide))) (kK hc.1 (by decide))) ?_
  refine x_cv (ls0 := [_, _, sJk]) (rest := []) rfl rfl rfl rfl rfl ?_
  refine x_aload_n (pc' := 1) rfl rfl rfl rfl rfl ?_
  refine x_gI (pc' := 4) (x := 0) rfl rfl rfl (kI_128_0 hc.1) ?_
  refine x_istore_n (pc' := 5) (ls' := [_, _, _]) rfl rfl rfl rfl ?_
  refine x_iload_n (pc' := 6) rfl rfl rfl ?_
  refine x_if (a' := 27) (pc' := 9) (z := false) rfl rfl rfl (by decide) (fun h => by cases h) (fun _ => ?_)
  refine x_iload_n (pc' := 10) rfl rfl rfl ?_
  refine x_aload_n (pc' := 11) rfl rfl rfl rfl rfl ?_
  refine x_gR (pc' := 14) (r := (some (m + 1))) rfl rfl rfl (kMp hc.1 hm).1 ?_
  refine x_alen (pc' := 15) (N := 3) rfl rfl rfl (kMp hc.1 hm).2.1 (?_ : X _ _ _ (.inl 3 :: _) _ _)
  refine x_icmp (a' := 27) (pc' := 18) (z := false) rfl rfl rfl (by decide) (fun h => by cases h) (fun _ => ?_)
  refine x_aload_n (pc' := 19) rfl rfl rfl rfl rfl ?_
  refine x_gR (pc' := 22) (r := (some (m + 1))) rfl rfl rfl (kMp hc.1 hm).1 ?_
  refine x_iload_n (pc' := 23) rfl rfl rfl ?_
  refine x_iald (pc' := 24) (N := 3) (x := (mA M 6 ((3 * m) + 0))) rfl rfl rfl (kMp hc.1 hm).2.1 (io_in (p := 0) (N := 3) (by decide) (by decide)) (Eq.trans (congrArg (sA t 20 (m + 1)) (nn_io (p := 0) (by decide))) (kP (m := m) (c := 0) hM hm (by decide))) ?_
  refine x_goto (pc' := 28) rfl rfl ?_
  refine x_reti rfl rfl ?_
  refine sK_i (pc' := 48) rfl ?_
  refine x_istore (pc' := 50) (ls' := [_, _, _, _, _, _, _, _, _]) rfl rfl rfl rfl ?_
  refine x_aload_n (pc' := 51) rfl rfl rfl rfl rfl ?_
  refine x_iload (pc' := 53) rfl rfl rfl ?_
  refine x_iload (pc' := 55) rfl rfl rfl ?_
  refine x_cv (ls0 := [_, _, _, sJk]) (rest := []) rfl rfl rfl rfl rfl ?_
  refine x_iload_n (pc' := 1) rfl rfl rfl ?_
  refine x_iconst (pc' := 2) rfl rfl ?_
  refine x_imul (pc' := 3) (z := 6) rfl rfl (by decide) ?_
  refine x_iload_n (pc' := 4) rfl rfl rfl ?_
  refine x_iadd (pc' := 5) (z := 6) rfl rfl (by decide) ?_
  refine x_istore_n (pc' := 6) (ls' := [_, _, _, _]) rfl rfl rfl rfl ?_
  refine x_iload_n (pc' := 7) rfl rfl rfl ?_
  refine x_if (a' := 28) (pc' := 10) (z := false) rfl rfl rfl (by decide) (fun h => by cases h) (fun _ => ?_)
  refine x_iload_n (pc' := 11) rfl rfl rfl ?_
  refine x_aload_n (pc' := 12) rfl rfl rfl rfl rfl ?_
  refine x_gR (pc' := 15) (r := (some 0)) rfl rfl rfl (kR_323_0 hc.1) ?_
  refine x_alen (pc' := 16) (N := 18) rfl rfl rfl (kN_20_0 hc.1) (?_ : X _ _ _ (.inl 18 :: _) _ _)
  refine x_icmp (a' := 28) (pc' := 19) (z := false) rfl rfl rfl (by decide) (fun h => by cases h) (fun _ => ?_)
  refine x_aload_n (pc' := 20) rfl rfl rfl rfl rfl ?_
  refine x_gR (pc' := 23) (r := (some 0)) rfl rfl rfl (kR_323_0 hc.1) ?_
  refine x_iload_n (pc' := 24) rfl rfl rfl ?_
  refine x_iald (pc' := 25) (N := 18) (x := (mA M 11 6)) rfl rfl rfl (kN_20_0 hc.1) (io_in (p := 6) (N := 18) (by decide) (by decide)) (Eq.trans (congrArg (sA t 20 0) (nn_io (p := 6) (by decide))) (kV hM (by decide))) ?_
  refine x_goto (pc' := 29) rfl rfl ?_
  refine x_reti rfl rfl ?_
  refine sK_i (pc' := 58) rfl ?_
  refine x_istore (pc' := 60) (ls' := [_, _, _, _, _, _, _, _, _]) rfl rfl rfl rfl ?_
  refine x_iload (pc' := 62) rfl rfl rfl ?_
  refine x_iload (pc' := 64) rfl rfl rfl ?_
  refine x_aload_n (pc' := 65) rfl rfl rfl rfl rfl ?_
  refine x_iload (pc' := 67) rfl rfl rfl ?_
  refine x_iald (pc' := 68) (N := 6) (x := (f 0)) rfl rfl rfl hN (io_in (p := 0) (N := 6) (by decide) (by decide)) (Eq.trans (congrArg (sA t 20 c) (nn_io (p := 0) (by decide))) (hf 0 (by decide))) ?_
  refine x_iadd (pc' := 69) (z := ((mA M 6 ((3 * m) + 0)) + (f 0))) rfl rfl rfl ?_
  refine x_ineg (pc' := 70) rfl rfl rfl ?_
  refine x_iload (pc' := 72) rfl rfl rfl ?_
  refine x_imul (pc' := 73) (z := ((-((mA M 6 ((3 * m) + 0)) + (f 0))) * (mA M 11 6))) rfl rfl rfl ?_
  refine x_iload (pc' := 75) rfl rfl rfl ?_
  refine x_aload_n (pc' := 76) rfl rfl rfl rfl rfl ?_
  refine x_iload (pc' := 78) rfl rfl rfl ?_
  refine x_iconst (pc' := 79) rfl rfl ?_
  refine x_iadd (pc' := 80) (z := 3) rfl rfl (by decide) ?_
  refine x_iald (pc' := 81) (N := 6) (x := (f 3)) rfl rfl rfl hN (io_in (p := 3) (N := 6) (by decide) (by decide)) (Eq.trans (congrArg (sA t 20 c) (nn_io (p := 3) (by decide))) (hf 3 (by decide))) ?_
  refine x_isub (pc' := 82) (z := ((mA M 6 ((3 * m) + 0)) - (f 3))) rfl rfl rfl ?_
  refine x_ineg (pc' := 83) rfl rfl rfl ?_
  refine x_iload (pc' := 85) rfl rfl rfl ?_
  refine x_imul (pc' := 86) (z := ((-((mA M 6 ((3 * m) + 0)) - (f 3))) * (mA M 11 6))) rfl rfl rfl ?_
  refine x_max (pc' := 89) (z := (mx ((-((mA M 6 ((3 * m) + 0)) + (f 0))) * (mA M 11 6)) ((-((mA M 6 ((3 * m) + 0)) - (f 3))) * (mA M 11 6)))) rfl rfl rfl rfl ?_
  refine x_iadd (pc' := 90) (z := (mx ((-((mA M 6 ((3 * m) + 0)) + (f 0))) * (mA M 11 6)) ((-((mA M 6 ((3 * m) + 0)) - (f 3))) * (mA M 11 6)))) rfl rfl (Int32.zero_add _) ?_
  refine x_istore (pc' := 92) (ls' := [_, _, _, _, _, _, _, _, _]) rfl rfl rfl rfl ?_
  refine x_iinc (pc' := 95) (y := 1) (ls' := [_, _, _, _, _, _, _, _, _]) rfl rfl rfl rfl rfl ?_
  refine x_goto (pc' := 18) rfl rfl ?_
  refine x_iload (pc' := 20) rfl rfl rfl ?_
  refine x_aload_n (pc' := 21) rfl rfl rfl rfl rfl ?_
  refine x_gR (pc' := 24) (r := (some 0)) rfl rfl rfl (kR_320_0 hc.1) ?_
  refine x_alen (pc' := 25) (N := 3) rfl rfl rfl (kN_25_0 hc.1) (?_ : X _ _ _ (.inl 3 :: _) _ _)
  refine x_icmp (a' := 98) (pc' := 28) (z := false) rfl rfl rfl (by decide) (fun h => by cases h) (fun _ => ?_)
  refine x_iload (pc' := 30) rfl rfl rfl ?_
  refine x_iconst (pc' := 31) rfl rfl ?_
  refine x_iadd (pc' := 32) (z := 4) rfl rfl (by decide) ?_
  refine x_aload_n (pc' := 33) rfl rfl rfl rfl rfl ?_
  refine x_alen (pc' := 34) (N := 6) rfl rfl rfl hN (?_ : X _ _ _ (.inl 6 :: _) _ _)
  refine x_icmp (a' := 98) (pc' := 37) (z := false) rfl rfl rfl (by decide) (fun h => by cases h) (fun _ => ?_)
  refine x_aload_n (pc' := 38) rfl rfl rfl rfl rfl ?_
  refine x_aload_n (pc' := 39) rfl rfl rfl rfl rfl ?_
  refine x_gR (pc' := 42) (r := (some 0)) rfl rfl rfl (kR_320_0 hc.1) ?_
  refine x_iload (pc' := 44) rfl rfl rfl ?_
  refine x_aald (pc' := 45) (N := 3) (k' := 2) (r := (some 1)) rfl rfl rfl (kN_25_0 hc.1) (io_in (p := 1) (N := 3) (by decide) (by decide)) (Eq.trans (congrArg (sE t 25 0) (nn_io (p := 1) (by decide))) (kK hc.1 (by decide))) ?_
  refine x_cv (ls0 := [_, _, sJk]) (rest := []) rfl rfl rfl rfl rfl ?_
  refine x_aload_n (pc' := 1) rfl rfl rfl rfl rfl ?_
  refine x_gI (pc' := 4) (x := 1) rfl rfl rfl (kI_128_1 hc.1) ?_
  refine x_istore_n (pc' := 5) (ls' := [_, _, _]) rfl rfl rfl rfl ?_
  refine x_iload_n (pc' := 6) rfl rfl rfl ?_
  refine x_if (a' := 27) (pc' := 9) (z := false) rfl rfl rfl (by decide) (fun h => by cases h) (fun _ => ?_)
  refine x_iload_n (pc' := 10) rfl rfl rfl ?_
  refine x_aload_n (pc' := 11) rfl rfl rfl rfl rfl ?_
  refine x_gR (pc' := 14) (r := (some (m + 1))) rfl rfl rfl (kMp hc.1 hm).1 ?_
  refine x_alen (pc' := 15) (N := 3) rfl rfl rfl (kMp hc.1 hm).2.1 (?_ : X _ _ _ (.inl 3 :: _) _ _)
  refine x_icmp (a' := 27) (pc' := 18) (z := false) rfl rfl rfl (by decide) (fun h => by cases h) (fun _ => ?_)
  refine x_aload_n (pc' := 19) rfl rfl rfl rfl rfl ?_
  refine x_gR (pc' := 22) (r := (some (m + 1))) rfl rfl rfl (kMp hc.1 hm).1 ?_
  refine x_iload_n (pc' := 23) rfl rfl rfl ?_
  refine x_iald (pc' := 24) (N := 3) (x := (mA M 6 ((3 * m) + 1))) rfl rfl rfl (kMp hc.1 hm).2.1 (io_in (p := 1) (N := 3) (by decide) (by decide)) (Eq.trans (congrArg (sA t 20 (m + 1)) (nn_io (p := 1) (by decide))) (kP (m := m) (c := 1) hM hm (by decide))) ?_
  refine x_goto (pc' := 28) rfl rfl ?_
  refine x_reti rfl rfl ?_
  refine sK_i (pc' := 48) rfl ?_
  refine x_istore (pc' := 50) (ls' := [_, _, _, _, _, _, _, _, _]) rfl rfl rfl rfl ?_
  refine x_aload_n (pc' := 51) rfl rfl rfl rfl rfl ?_
  refine x_iload (pc' := 53) rfl rfl rfl ?_
  refine x_iload (pc' := 55) rfl rfl rfl ?_
  refine x_cv (ls0 := [_, _, _, sJk]) (rest := []) rfl rfl rfl rfl rfl ?_
  refine x_iload_n (pc' := 1) rfl rfl rfl ?_
  refine x_iconst (pc' := 2) rfl rfl ?_
  refine x_imul (pc' := 3) (z := 6) rfl rfl (by decide) ?_
  refine x_iload_n (pc' := 4) rfl rfl rfl ?_
  refine x_iadd (pc' := 5) (z := 7) rfl rfl (by decide) ?_
  refine x_istore_n (pc' := 6) (ls' := [_, _, _, _]) rfl rfl rfl rfl ?_
  refine x_iload_n (pc' := 7) rfl rfl rfl ?_
  refine x_if (a' := 28) (pc' := 10) (z := false) rfl rfl rfl (by decide) (fun h => by cases h) (fun _ => ?_)
  refine x_iload_n (pc' := 11) rfl rfl rfl ?_
  refine x_aload_n (pc' := 12) rfl rfl rfl rfl rfl ?_
  refine x_gR (pc' := 15) (r := (some 0)) rfl rfl rfl (kR_323_0 hc.1) ?_
  refine x_alen (pc' := 16) (N := 18) rfl rfl rfl (kN_20_0 hc.1) (?_ : X _ _ _ (.inl 18 :: _) _ _)
  refine x_icmp (a' := 28) (pc' := 19) (z := false) rfl rfl rfl (by decide) (fun h => by cases h) (fun _ => ?_)
  refine x_aload_n (pc' := 20) rfl rfl rfl rfl rfl ?_
  refine x_gR (pc' := 23) (r := (some 0)) rfl rfl rfl (kR_323_0 hc.1) ?_
  refine x_iload_n (pc' := 24) rfl rfl rfl ?_
  refine x_iald (pc' := 25) (N := 18) (x := (mA M 11 7)) rfl rfl rfl (kN_20_0 hc.1) (io_in (p := 7) (N := 18) (by decide) (by decide)) (Eq.trans (congrArg (sA t 20 0) (nn_io (p := 7) (by decide))) (kV hM (by decide))) ?_
  refine x_goto (pc' := 29) rfl rfl ?_
  refine x_reti rfl rfl ?_
  refine sK_i (pc' := 58) rfl ?_
  refine x_istore (pc' := 60) (ls' := [_, _, _, _, _, _, _, _, _]) rfl rfl rfl rfl ?_
  refine x_iload (pc' := 62) rfl rfl rfl ?_
  refine x_iload (pc' := 64) rfl rfl rfl ?_
  refine x_aload_n (pc' := 65) rfl rfl rfl rfl rfl ?_
  refine x_iload (pc' := 67) rfl rfl rfl ?_
  refine x_iald (pc' := 68) (N := 6) (x := (f 1)) rfl rfl rfl hN (io_in (p := 1) (N := 6) (by decide) (by decide)) (Eq.trans (congrArg (sA t 20 c) (nn_io (p := 1) (by decide))) (hf 1 (by decide))) ?_
  refine x_iadd (pc' := 69) (z := ((mA M 6 ((3 * m) + 1)) + (f 1))) rfl rfl rfl ?_
  refine x_ineg (pc' := 70) rfl rfl rfl ?_
  refine x_iload (pc' := 72) rfl rfl rfl ?_
  refine x_imul (pc' := 73) (z := ((-((mA M 6 ((3 * m) + 1)) + (f 1))) * (mA M 11 7))) rfl rfl rfl ?_
  refine x_iload (pc' := 75) rfl rfl rfl ?_
  refine x_aload_n (pc' := 76) rfl rfl rfl rfl rfl ?_
  refine x_iload (pc' := 78) rfl rfl rfl ?_
  refine x_iconst (pc' := 79) rfl rfl ?_
  refine x_iadd (pc' := 80) (z := 4) rfl rfl (by decide) ?_
  refine x_iald (pc' := 81) (N := 6) (x := (f 4)) rfl rfl rfl hN (io_in (p := 4) (N := 6) (by decide) (by decide)) (Eq.trans (congrArg (sA t 20 c) (nn_io (p := 4) (by decide))) (hf 4 (by decide))) ?_
  refine x_isub (pc' := 82) (z := ((mA M 6 ((3 * m) + 1)) - (f 4))) rfl rfl rfl ?_
  refine x_ineg (pc' := 83) rfl rfl rfl ?_
  refine x_iload (pc' := 85) rfl rfl rfl ?_
  refine x_imul (pc' := 86) (z := ((-((mA M 6 ((3 * m) + 1)) - (f 4))) * (mA M 11 7))) rfl rfl rfl ?_
  refine x_max (pc' := 89) (z := (mx ((-((mA M 6 ((3 * m) + 1)) + (f 1))) * (mA M 11 7)) ((-((mA M 6 ((3 * m) + 1)) - (f 4))) * (mA M 11 7)))) rfl rfl rfl rfl ?_
  refine x_iadd (pc' := 90) (z := ((mx ((-((mA M 6 ((3 * m) + 0)) + (f 0))) * (mA M 11 6)) ((-((mA M 6 ((3 * m) + 0)) - (f 3))) * (mA M 11 6))) + (mx ((-((mA M 6 ((3 * m) + 1)) + (f 1))) * (mA M 11 7)) ((-((mA M 6 ((3 * m) + 1)) - (f 4))) * (mA M 11 7))))) rfl rfl rfl ?_
  refine x_istore (pc' := 92) (ls' := [_, _, _, _, _, _, _, _, _]) rfl rfl rfl rfl ?_
  refine x_iinc (pc' := 95) (y := 2) (ls' := [_, _, _, _, _, _, _, _, _]) rfl rfl rfl rfl rfl ?_
  refine x_goto (pc' := 18) rfl rfl ?_
  refine x_iload (pc' := 20) rfl rfl rfl ?_
  refine x_aload_n (pc' := 21) rfl rfl rfl rfl rfl ?_
  refine x_gR (pc' := 24) (r := (some 0)) rfl rfl rfl (kR_320_0 hc.1) ?_
  refine x_alen (pc' := 25) (N := 3) rfl rfl rfl (kN_25_0 hc.1) (?_ : X _ _ _ (.inl 3 :: _) _ _)
  refine x_icmp (a' := 98) (pc' := 28) (z := false) rfl rfl rfl (by decide) (fun h => by cases h) (fun _ => ?_)
  refine x_iload (pc' := 30) rfl rfl rfl ?_
  refine x_iconst (pc' := 31) rfl rfl ?_
  refine x_iadd (pc' := 32) (z := 5) rfl rfl (by decide) ?_
  refine x_aload_n (pc' := 33) rfl rfl rfl rfl rfl ?_
  refine x_alen (pc' := 34) (N := 6) rfl rfl rfl hN (?_ : X _ _ _ (.inl 6 :: _) _ _)
  refine x_icmp (a' := 98) (pc' := 37) (z := false) rfl rfl rfl (by decide) (fun h => by cases h) (fun _ => ?_)
  refine x_aload_n (pc' := 38) rfl rfl rfl rfl rfl ?_
  refine x_aload_n (pc' := 39) rfl rfl rfl rfl rfl ?_
  refine x_gR (pc' := 42) (r := (some 0)) rfl rfl rfl (kR_320_0 hc.1) ?_
  refine x_iload (pc' := 44) rfl rfl rfl ?_
  refine x_aald (pc' := 45) (N := 3) (k' := 2) (r := (some 2)) rfl rfl rfl (kN_25_0 hc.1) (io_in (p := 2) (N := 3) (by decide) (by decide)) (Eq.trans (congrArg (sE t 25 0) (nn_io (p := 2) (by decide))) (kK hc.1 (by decide))) ?_
  refine x_cv (ls0 := [_, _, sJk]) (rest := []) rfl rfl rfl rfl rfl ?_
  refine x_aload_n (pc' := 1) rfl rfl rfl rfl rfl ?_
  refine x_gI (pc' := 4) (x := 2) rfl rfl rfl (kI_128_2 hc.1) ?_
  refine x_istore_n (pc' := 5) (ls' := [_, _, _]) rfl rfl rfl rfl ?_
  refine x_iload_n (pc' := 6) rfl rfl rfl ?_
  refine x_if (a' := 27) (pc' := 9) (z := false) rfl rfl rfl (by decide) (fun h => by cases h) (fun _ => ?_)
  refine x_iload_n (pc' := 10) rfl rfl rfl ?_
  refine x_aload_n (pc' := 11) rfl rfl rfl rfl rfl ?_
  refine x_gR (pc' := 14) (r := (some (m + 1))) rfl rfl rfl (kMp hc.1 hm).1 ?_
  refine x_alen (pc' := 15) (N := 3) rfl rfl rfl (kMp hc.1 hm).2.1 (?_ : X _ _ _ (.inl 3 :: _) _ _)
  refine x_icmp (a' := 27) (pc' := 18) (z := false) rfl rfl rfl (by decide) (fun h => by cases h) (fun _ => ?_)
  refine x_aload_n (pc' := 19) rfl rfl rfl rfl rfl ?_
  refine x_gR (pc' := 22) (r := (some (m + 1))) rfl rfl rfl (kMp hc.1 hm).1 ?_
  refine x_iload_n (pc' := 23) rfl rfl rfl ?_
  refine x_iald (pc' := 24) (N := 3) (x := (mA M 6 ((3 * m) + 2))) rfl rfl rfl (kMp hc.1 hm).2.1 (io_in (p := 2) (N := 3) (by decide) (by decide)) (Eq.trans (congrArg (sA t 20 (m + 1)) (nn_io (p := 2) (by decide))) (kP (m := m) (c := 2) hM hm (by decide))) ?_
  refine x_goto (pc' := 28) rfl rfl ?_
  refine x_reti rfl rfl ?_
  refine sK_i (pc' := 48) rfl ?_
  refine x_istore (pc' := 50) (ls' := [_, _, _, _, _, _, _, _, _]) rfl rfl rfl rfl ?_
  refine x_aload_n (pc' := 51) rfl rfl rfl rfl rfl ?_
  refine x_iload (pc' := 53) rfl rfl rfl ?_
  refine x_iload (pc' := 55) rfl rfl rfl ?_
  refine x_cv (ls0 := [_, _, _, sJk]) (rest := []) rfl rfl rfl rfl rfl ?_
  refine x_iload_n (pc' := 1) rfl rfl rfl ?_
  refine x_iconst (pc' := 2) rfl rfl ?_
  refine x_imul (pc' := 3) (z := 6) rfl rfl (by decide) ?_
  refine x_iload_n (pc' := 4) rfl rfl rfl ?_
  refine x_iadd (pc' := 5) (z := 8) rfl rfl (by decide) ?_
  refine x_istore_n (pc' := 6) (ls' := [_, _, _, _]) rfl rfl rfl rfl ?_
  refine x_iload_n (pc' := 7) rfl rfl rfl ?_
  refine x_if (a' := 28) (pc' := 10) (z := false) rfl rfl rfl (by decide) (fun h => by cases h) (fun _ => ?_)
  refine x_iload_n (pc' := 11) rfl rfl rfl ?_
  refine x_aload_n (pc' := 12) rfl rfl rfl rfl rfl ?_
  refine x_gR (pc' := 15) (r := (some 0)) rfl rfl rfl (kR_323_0 hc.1) ?_
  refine x_alen (pc' := 16) (N := 18) rfl rfl rfl (kN_20_0 hc.1) (?_ : X _ _ _ (.inl 18 :: _) _ _)
  refine x_icmp (a' := 28) (pc' := 19) (z := false) rfl rfl rfl (by decide) (fun h => by cases h) (fun _ => ?_)
  refine x_aload_n (pc' := 20) rfl rfl rfl rfl rfl ?_
  refine x_gR (pc' := 23) (r := (some 0)) rfl rfl rfl (kR_323_0 hc.1) ?_
  refine x_iload_n (pc' := 24) rfl rfl rfl ?_
  refine x_iald (pc' := 25) (N := 18) (x := (mA M 11 8)) rfl rfl rfl (kN_20_0 hc.1) (io_in (p := 8) (N := 18) (by decide) (by decide)) (Eq.trans (congrArg (sA t 20 0) (nn_io (p := 8) (by decide))) (kV hM (by decide))) ?_
  refine x_goto (pc' := 29) rfl rfl ?_
  refine x_reti rfl rfl ?_
  refine sK_i (pc' := 58) rfl ?_
  refine x_istore (pc' := 60) (ls' := [_, _, _, _, _, _, _, _, _]) rfl rfl rfl rfl ?_
  refine x_iload (pc' := 62) rfl rfl rfl ?_
  refine x_iload (pc' := 64) rfl rfl rfl ?_
  refine x_aload_n (pc' := 65) rfl rfl rfl rfl rfl ?_
  refine x_iload (pc' := 67) rfl rfl rfl ?_
  refine x_iald (pc' := 68) (N := 6) (x := (f 2)) rfl rfl rfl hN (io_in (p := 2) (N := 6) (by decide) (by decide)) (Eq.trans (congrArg (sA t 20 c) (nn_io (p := 2) (by decide))) (hf 2 (by decide))) ?_
  refine x_iadd (pc' := 69) (z := ((mA M 6 ((3 * m) + 2)) + (f 2))) rfl rfl rfl ?_
  refine x_ineg (pc' := 70) rfl rfl rfl ?_
  refine x_iload (pc' := 72) rfl rfl rfl ?_
  refine x_imul (pc' := 73) (z := ((-((mA M 6 ((3 * m) + 2)) + (f 2))) * (mA M 11 8))) rfl rfl rfl ?_
  refine x_iload (pc' := 75) rfl rfl rfl ?_
  refine x_aload_n (pc' := 76) rfl rfl rfl rfl rfl ?_
  refine x_iload (pc' := 78) rfl rfl rfl ?_
  refine x_iconst (pc' := 79) rfl rfl ?_
  refine x_iadd (pc' := 80) (z := 5) rfl rfl (by decide) ?_
  refine x_iald (pc' := 81) (N := 6) (x := (f 5)) rfl rfl rfl hN (io_in (p := 5) (N := 6) (by decide) (by decide)) (Eq.trans (congrArg (sA t 20 c) (nn_io (p := 5) (by decide))) (hf 5 (by decide))) ?_
  refine x_isub (pc' := 82) (z := ((mA M 6 ((3 * m) + 2)) - (f 5))) rfl rfl rfl ?_
  refine x_ineg (pc' := 83) rfl rfl rfl ?_
  refine x_iload (pc' := 85) rfl rfl rfl ?_
  refine x_imul (pc' := 86) (z := ((-((mA M 6 ((3 * m) + 2)) - (f 5))) * (mA M 11 8))) rfl rfl rfl ?_
  refine x_max (pc' := 89) (z := (mx ((-((mA M 6 ((3 * m) + 2)) + (f 2))) * (mA M 11 8)) ((-((mA M 6 ((3 * m) + 2)) - (f 5))) * (mA M 11 8)))) rfl rfl rfl rfl ?_
  refine x_iadd (pc' := 90) (z := (((mx ((-((mA M 6 ((3 * m) + 0)) + (f 0))) * (mA M 11 6)) ((-((mA M 6 ((3 * m) + 0)) - (f 3))) * (mA M 11 6))) + (mx ((-((mA M 6 ((3 * m) + 1)) + (f 1))) * (mA M 11 7)) ((-((mA M 6 ((3 * m) + 1)) - (f 4))) * (mA M 11 7)))) + (mx ((-((mA M 6 ((3 * m) + 2)) + (f 2))) * (mA M 11 8)) ((-((mA M 6 ((3 * m) + 2)) - (f 5))) * (mA M 11 8))))) rfl rfl rfl ?_
  refine x_istore (pc' := 92) (ls' := [_, _, _, _, _, _, _, _, _]) rfl rfl rfl rfl ?_
  refine x_iinc (pc' := 95) (y := 3) (ls' := [_, _, _, _, _, _, _, _, _]) rfl rfl rfl rfl rfl ?_
  refine x_goto (pc' := 18) rfl rfl ?_
  refine x_iload (pc' := 20) rfl rfl rfl ?_
  refine x_aload_n (pc' := 21) rfl rfl rfl rfl rfl ?_
  refine x_gR (pc' := 24) (r := (some 0)) rfl rfl rfl (kR_320_0 hc.1) ?_
  refine x_alen (pc' := 25) (N := 3) rfl rfl rfl (kN_25_0 hc.1) (?_ : X _ _ _ (.inl 3 :: _) _ _)
  refine x_icmp (a' := 98) (pc' := 28) (z := true) rfl rfl rfl (by decide) (fun _ => ?_) (fun h => by cases h)
  refine x_iload_n (pc' := 99) rfl rfl rfl ?_
  refine x_iload (pc' := 101) rfl rfl rfl ?_
  refine x_max (pc' := 104) (z := (mx (mx (mx 0 (((mx ((-((mA M 6 ((3 * m) + 0)) + (f 0))) * (mA M 11 0)) ((-((mA M 6 ((3 * m) + 0)) - (f 3))) * (mA M 11 0))) + (mx ((-((mA M 6 ((3 * m) + 1)) + (f 1))) * (mA M 11 1)) ((-((mA M 6 ((3 * m) + 1)) - (f 4))) * (mA M 11 1)))) + (mx ((-((mA M 6 ((3 * m) + 2)) + (f 2))) * (mA M 11 2)) ((-((mA M 6 ((3 * m) + 2)) - (f 5))) * (mA M 11 2))))) (((mx ((-((mA M 6 ((3 * m) + 0)) + (f 0))) * (mA M 11 3)) ((-((mA M 6 ((3 * m) + 0)) - (f 3))) * (mA M 11 3))) + (mx ((-((mA M 6 ((3 * m) + 1)) + (f 1))) * (mA M 11 4)) ((-((mA M 6 ((3 * m) + 1)) - (f 4))) * (mA M 11 4)))) + (mx ((-((mA M 6 ((3 * m) + 2)) + (f 2))) * (mA M 11 5)) ((-((mA M 6 ((3 * m) + 2)) - (f 5))) * (mA M 11 5))))) (((mx ((-((mA M 6 ((3 * m) + 0)) + (f 0))) * (mA M 11 6)) ((-((mA M 6 ((3 * m) + 0)) - (f 3))) * (mA M 11 6))) + (mx ((-((mA M 6 ((3 * m) + 1)) + (f 1))) * (mA M 11 7)) ((-((mA M 6 ((3 * m) + 1)) - (f 4))) * (mA M 11 7)))) + (mx ((-((mA M 6 ((3 * m) + 2)) + (f 2))) * (mA M 11 8)) ((-((mA M 6 ((3 * m) + 2)) - (f 5))) * (mA M 11 8)))))) rfl rfl rfl rfl ?_
  refine x_istore_n (pc' := 105) (ls' := [_, _, _, _, _, _, _, _, _]) rfl rfl rfl rfl ?_
  refine x_iinc (pc' := 108) (y := 3) (ls' := [_, _, _, _, _, _, _, _, _]) rfl rfl rfl rfl rfl ?_
  refine x_goto (pc' := 5) rfl rfl ?_
  refine x_iload (pc' := 7) rfl rfl rfl ?_
  refine x_bipush (pc' := 9) rfl rfl ?_
  refine x_icmp (a' := 111) (pc' := 12) (z := false) rfl rfl rfl (by decide) (fun h => by cases h) (fun _ => ?_)
  refine x_iconst (pc' := 13) rfl rfl ?_
  refine x_istore (pc' := 15) (ls' := [_, _, _, _, _, _, _, _, _]) rfl rfl rfl rfl ?_
  refine x_iconst (pc' := 16) rfl rfl ?_
  refine x_istore (pc' := 18) (ls' := [_, _, _, _, _, _, _, _, _]) rfl rfl rfl rfl ?_
  refine x_iload (pc' := 20) rfl rfl rfl ?_
  refine x_aload_n (pc' := 21) rfl rfl rfl rfl rfl ?_
  refine x_gR (pc' := 24) (r := (some 0)) rfl rfl rfl (kR_320_0 hc.1) ?_
  refine x_alen (pc' := 25) (N := 3) rfl rfl rfl (kN_25_0 hc.1) (?_ : X _ _ _ (.inl 3 :: _) _ _)
  refine x_icmp (a' := 98) (pc' := 28) (z := false) rfl rfl rfl (by decide) (fun h => by cases h) (fun _ => ?_)
  refine x_iload (pc' := 30) rfl rfl rfl ?_
  refine x_iconst (pc' := 31) rfl rfl ?_
  refine x_iadd (pc' := 32) (z := 3) rfl rfl (by decide) ?_
  refine x_aload_n (pc' := 33) rfl rfl rfl rfl rfl ?_
  refine x_alen (pc' := 34) (N := 6) rfl rfl rfl hN (?_ : X _ _ _ (.inl 6 :: _) _ _)
  refine x_icmp (a' := 98) (pc' := 37) (z := false) rfl rfl rfl (by decide) (fun h => by cases h) (fun _ => ?_)
  refine x_aload_n (pc' := 38) rfl rfl rfl rfl rfl ?_
  refine x_aload_n (pc' := 39) rfl rfl rfl rfl rfl ?_
  refine x_gR (pc' := 42) (r := (some 0)) rfl rfl rfl (kR_320_0 hc.1) ?_
  refine x_iload (pc' := 44) rfl rfl rfl ?_
  refine x_aald (pc' := 45) (N := 3) (k' := 2) (r := (some 0)) rfl rfl rfl (kN_25_0 hc.1) (io_in (p := 0) (N := 3) (by decide) (by decide)) (Eq.trans (congrArg (sE t 25 0) (nn_io (p := 0) (by decide))) (kK hc.1 (by decide))) ?_
  refine x_cv (ls0 := [_, _, sJk]) (rest := []) rfl rfl rfl rfl rfl ?_
  refine x_aload_n (pc' := 1) rfl rfl rfl rfl rfl ?_
  refine x_gI (pc' := 4) (x := 0) rfl rfl rfl (kI_128_0 hc.1) ?_
  refine x_istore_n (pc' := 5) (ls' := [_, _, _]) rfl rfl rfl rfl ?_
  refine x_iload_n (pc' := 6) rfl rfl rfl ?_
  refine x_if (a' := 27) (pc' := 9) (z := false) rfl rfl rfl (by decide) (fun h => by cases h) (fun _ => ?_)
  refine x_iload_n (pc' := 10) rfl rfl rfl ?_
  refine x_aload_n (pc' := 11) rfl rfl rfl rfl rfl ?_
  refine x_gR (pc' := 14) (r := (some (m + 1))) rfl rfl rfl (kMp hc.1 hm).1 ?_
  refine x_alen (pc' := 15) (N := 3) rfl rfl rfl (kMp hc.1 hm).2.1 (?_ : X _ _ _ (.inl 3 :: _) _ _)
  refine x_icmp (a' := 27) (pc' := 18) (z := false) rfl rfl rfl (by decide) (fun h => by cases h) (fun _ => ?_)
  refine x_aload_n (pc' := 19) rfl rfl rfl rfl rfl ?_
  refine x_gR (pc' := 22) (r := (some (m + 1))) rfl rfl rfl (kMp hc.1 hm).1 ?_
  refine x_iload_n (pc' := 23) rfl rfl rfl ?_
  refine x_iald (pc' := 24) (N := 3) (x := (mA M 6 ((3 * m) + 0))) rfl rfl rfl (kMp hc.1 hm).2.1 (io_in (p := 0) (N := 3) (by decide) (by decide)) (Eq.trans (congrArg (sA t 20 (m + 1)) (nn_io (p := 0) (by decide))) (kP (m := m) (c := 0) hM hm (by decide))) ?_
  refine x_goto (pc' := 28) rfl rfl ?_
  refine x_reti rfl rfl ?_
  refine sK_i (pc' := 48) rfl ?_
  refine x_istore (pc' := 50) (ls' := [_, _, _, _, _, _, _, _, _]) rfl rfl rfl rfl ?_
  refine x_aload_n (pc' := 51) rfl rfl rfl rfl rfl ?_
  refine x_iload (pc' := 53) rfl rfl rfl ?_
  refine x_iload (pc' := 55) rfl rfl rfl ?_
  refine x_cv (ls0 := [_, _, _, sJk]) (rest := []) rfl rfl rfl rfl rfl ?_
  refine x_iload_n (pc' := 1) rfl rfl rfl ?_
  refine x_iconst (pc' := 2) rfl rfl ?_
  refine x_imul (pc' := 3) (z := 9) rfl rfl (by decide) ?_
  refine x_iload_n (pc' := 4) rfl rfl rfl ?_
  refine x_iadd (pc' := 5) (z := 9) rfl rfl (by decide) ?_
  refine x_istore_n (pc' := 6) (ls' := [_, _, _, _]) rfl rfl rfl rfl ?_
  refine x_iload_n (pc' := 7) rfl rfl rfl ?_
  refine x_if (a' := 28) (pc' := 10) (z := false) rfl rfl rfl (by decide) (fun h => by cases h) (fun _ => ?_)
  refine x_iload_n (pc' := 11) rfl rfl rfl ?_
  refine x_aload_n (pc' := 12) rfl rfl rfl rfl rfl ?_
  refine x_gR (pc' := 15) (r := (some 0)) rfl rfl rfl (kR_323_0 hc.1) ?_
  refine x_alen (pc' := 16) (N := 18) rfl rfl rfl (kN_20_0 hc.1) (?_ : X _ _ _ (.inl 18 :: _) _ _)
  refine x_icmp (a' := 28) (pc' := 19) (z := false) rfl rfl rfl (by decide) (fun h => by cases h) (fun _ => ?_)
  refine x_aload_n (pc' := 20) rfl rfl rfl rfl rfl ?_
  refine x_gR (pc' := 23) (r := (some 0)) rfl rfl rfl (kR_323_0 hc.1) ?_
  refine x_iload_n (pc' := 24) rfl rfl rfl ?_
  refine x_iald (pc' := 25) (N := 18) (x := (mA M 11 9)) rfl rfl rfl (kN_20_0 hc.1) (io_in (p := 9) (N := 18) (by decide) (by decide)) (Eq.trans (congrArg (sA t 20 0) (nn_io (p := 9) (by decide))) (kV hM (by decide))) ?_
  refine x_goto (pc' := 29) rfl rfl ?_
  refine x_reti rfl rfl ?_
  refine sK_i (pc' := 58) rfl ?_
  refine x_istore (pc' := 60) (ls' := [_, _, _, _, _, _, _, _, _]) rfl rfl rfl rfl ?_
  refine x_iload (pc' := 62) rfl rfl rfl ?_
  refine x_iload (pc' := 64) rfl rfl rfl ?_
  refine x_aload_n (pc' := 65) rfl rfl rfl rfl rfl ?_
  refine x_iload (pc' := 67) rfl rfl rfl ?_
  refine x_iald (pc' := 68) (N := 6) (x := (f 0)) rfl rfl rfl hN (io_in (p := 0) (N := 6) (by decide) (by decide)) (Eq.trans (congrArg (sA t 20 c) (nn_io (p := 0) (by decide))) (hf 0 (by decide))) ?_
  refine x_iadd (pc' := 69) (z := ((mA M 6 ((3 * m) + 0)) + (f 0))) rfl rfl rfl ?_
  refine x_ineg (pc' := 70) rfl rfl rfl ?_
  refine x_iload (pc' := 72) rfl rfl rfl ?_
  refine x_imul (pc' := 73) (z := ((-((mA M 6 ((3 * m) + 0)) + (f 0))) * (mA M 11 9))) rfl rfl rfl ?_
  refine x_iload (pc' := 75) rfl rfl rfl ?_
  refine x_aload_n (pc' := 76) rfl rfl rfl rfl rfl ?_
  refine x_iload (pc' := 78) rfl rfl rfl ?_
  refine x_iconst (pc' := 79) rfl rfl ?_
  refine x_iadd (pc' := 80) (z := 3) rfl rfl (by decide) ?_
  refine x_iald (pc' := 81) (N := 6) (x := (f 3)) rfl rfl rfl hN (io_in (p := 3) (N := 6) (by decide) (by decide)) (Eq.trans (congrArg (sA t 20 c) (nn_io (p := 3) (by decide))) (hf 3 (by decide))) ?_
  refine x_isub (pc' := 82) (z := ((mA M 6 ((3 * m) + 0)) - (f 3))) rfl rfl rfl ?_
  refine x_ineg (pc' := 83) rfl rfl rfl ?_
  refine x_iload (pc' := 85) rfl rfl rfl ?_
  refine x_imul (pc' := 86) (z := ((-((mA M 6 ((3 * m) + 0)) - (f 3))) * (mA M 11 9))) rfl rfl rfl ?_
  refine x_max (pc' := 89) (z := (mx ((-((mA M 6 ((3 * m) + 0)) + (f 0))) * (mA M 11 9)) ((-((mA M 6 ((3 * m) + 0)) - (f 3))) * (mA M 11 9)))) rfl rfl rfl rfl ?_
  refine x_iadd (pc' := 90) (z := (mx ((-((mA M 6 ((3 * m) + 0)) + (f 0))) * (mA M 11 9)) ((-((mA M 6 ((3 * m) + 0)) - (f 3))) * (mA M 11 9)))) rfl rfl (Int32.zero_add _) ?_
  refine x_istore (pc' := 92) (ls' := [_, _, _, _, _, _, _, _, _]) rfl rfl rfl rfl ?_
  refine x_iinc (pc' := 95) (y := 1) (ls' := [_, _, _, _, _, _, _, _, _]) rfl rfl rfl rfl rfl ?_
  refine x_goto (pc' := 18) rfl rfl ?_
  refine x_iload (pc' := 20) rfl rfl rfl ?_
  refine x_aload_n (pc' := 21) rfl rfl rfl rfl rfl ?_
  refine x_gR (pc' := 24) (r := (some 0)) rfl rfl rfl (kR_320_0 hc.1) ?_
  refine x_alen (pc' := 25) (N := 3) rfl rfl rfl (kN_25_0 hc.1) (?_ : X _ _ _ (.inl 3 :: _) _ _)
  refine x_icmp (a' := 98) (pc' := 28) (z := false) rfl rfl rfl (by decide) (fun h => by cases h) (fun _ => ?_)
  refine x_iload (pc' := 30) rfl rfl rfl ?_
  refine x_iconst (pc' := 31) rfl rfl ?_
  refine x_iadd (pc' := 32) (z := 4) rfl rfl (by decide) ?_
  refine x_aload_n (pc' := 33) rfl rfl rfl rfl rfl ?_
  refine x_alen (pc' := 34) (N := 6) rfl rfl rfl hN (?_ : X _ _ _ (.inl 6 :: _) _ _)
  refine x_icmp (a' := 98) (pc' := 37) (z := false) rfl rfl rfl (by decide) (fun h => by cases h) (fun _ => ?_)
  refine x_aload_n (pc' := 38) rfl rfl rfl rfl rfl ?_
  refine x_aload_n (pc' := 39) rfl rfl rfl rfl rfl ?_
  refine x_gR (pc' := 42) (r := (some 0)) rfl rfl rfl (kR_320_0 hc.1) ?_
  refine x_iload (pc' := 44) rfl rfl rfl ?_
  refine x_aald (pc' := 45) (N := 3) (k' := 2) (r := (some 1)) rfl rfl rfl (kN_25_0 hc.1) (io_in (p := 1) (N := 3) (by decide) (by decide)) (Eq.trans (congrArg (sE t 25 0) (nn_io (p := 1) (by decide))) (kK hc.1 (by decide))) ?_
  refine x_cv (ls0 := [_, _, sJk]) (rest := []) rfl rfl rfl rfl rfl ?_
  refine x_aload_n (pc' := 1) rfl rfl rfl rfl rfl ?_
  refine x_gI (pc' := 4) (x := 1) rfl rfl rfl (kI_128_1 hc.1) ?_
  refine x_istore_n (pc' := 5) (ls' := [_, _, _]) rfl rfl rfl rfl ?_
  refine x_iload_n (pc' := 6) rfl rfl rfl ?_
  refine x_if (a' := 27) (pc' := 9) (z := false) rfl rfl rfl (by decide) (fun h => by cases h) (fun _ => ?_)
  refine x_iload_n (pc' := 10) rfl rfl rfl ?_
  refine x_aload_n (pc' := 11) rfl rfl rfl rfl rfl ?_
  refine x_gR (pc' := 14) (r := (some (m + 1))) rfl rfl rfl (kMp hc.1 hm).1 ?_
  refine x_alen (pc' := 15) (N := 3) rfl rfl rfl (kMp hc.1 hm).2.1 (?_ : X _ _ _ (.inl 3 :: _) _ _)
  refine x_icmp (a' := 27) (pc' := 18) (z := false) rfl rfl rfl (by decide) (fun h => by cases h) (fun _ => ?_)
  refine x_aload_n (pc' := 19) rfl rfl rfl rfl rfl ?_
  refine x_gR (pc' := 22) (r := (some (m + 1))) rfl rfl rfl (kMp hc.1 hm).1 ?_
  refine x_iload_n (pc' := 23) rfl rfl rfl ?_
  refine x_iald (pc' := 24) (N := 3) (x := (mA M 6 ((3 * m) + 1))) rfl rfl rfl (kMp hc.1 hm).2.1 (io_in (p := 1) (N := 3) (by decide) (by decide)) (Eq.trans (congrArg (sA t 20 (m + 1)) (nn_io (p := 1) (by decide))) (kP (m := m) (c := 1) hM hm (by decide))) ?_
  refine x_goto (pc' := 28) rfl rfl ?_
  refine x_reti rfl rfl ?_
  refine sK_i (pc' := 48) rfl ?_
  refine x_istore (pc' := 50) (ls' := [_, _, _, _, _, _, _, _, _]) rfl rfl rfl rfl ?_
  refine x_aload_n (pc' := 51) rfl rfl rfl rfl rfl ?_
  refine x_iload (pc' := 53) rfl rfl rfl ?_
  refine x_iload (pc' := 55) rfl rfl rfl ?_
  refine x_cv (ls0 := [_, _, _, sJk]) (rest := []) rfl rfl rfl rfl rfl ?_
  refine x_iload_n (pc' := 1) rfl rfl rfl ?_
  refine x_iconst (pc' := 2) rfl rfl ?_
  refine x_imul (pc' := 3) (z := 9) rfl rfl (by decide) ?_
  refine x_iload_n (pc' := 4) rfl rfl rfl ?_
  refine x_iadd (pc' := 5) (z := 10) rfl rfl (by decide) ?_
  refine x_istore_n (pc' := 6) (ls' := [_, _, _, _]) rfl rfl rfl rfl ?_
  refine x_iload_n (pc' := 7) rfl rfl rfl ?_
  refine x_if (a' := 28) (pc' := 10) (z := false) rfl rfl rfl (by decide) (fun h => by cases h) (fun _ => ?_)
  refine x_iload_n (pc' := 11) rfl rfl rfl ?_
  refine x_aload_n (pc' := 12) rfl rfl rfl rfl rfl ?_
  refine x_gR (pc' := 15) (r := (some 0)) rfl rfl rfl (kR_323_0 hc.1) ?_
  refine x_alen (pc' := 16) (N := 18) rfl rfl rfl (kN_20_0 hc.1) (?_ : X _ _ _ (.inl 18 :: _) _ _)
  refine x_icmp (a' := 28) (pc' := 19) (z := false) rfl rfl rfl (by decide) (fun h => by cases h) (fun _ => ?_)
  refine x_aload_n (pc' := 20) rfl rfl rfl rfl rfl ?_
  refine x_gR (pc' := 23) (r := (some 0)) rfl rfl rfl (kR_323_0 hc.1) ?_
  refine x_iload_n (pc' := 24) rfl rfl rfl ?_
  refine x_iald (pc' := 25) (N := 18) (x := (mA M 11 10)) rfl rfl rfl (kN_20_0 hc.1) (io_in (p := 10) (N := 18) (by decide) (by decide)) (Eq.trans (congrArg (sA t 20 0) (nn_io (p := 10) (by decide))) (kV hM (by decide))) ?_
  refine x_goto (pc' := 29) rfl rfl ?_
  refine x_reti rfl rfl ?_
  refine sK_i (pc' := 58) rfl ?_
  refine x_istore (pc' := 60) (ls' := [_, _, _, _, _, _, _, _, _]) rfl rfl rfl rfl ?_
  refine x_iload (pc' := 62) rfl rfl rfl ?_
  refine x_iload (pc' := 64) rfl rfl rfl ?_
  refine x_aload_n (pc' := 65) rfl rfl rfl rfl rfl ?_
  refine x_iload (pc' := 67) rfl rfl rfl ?_
  refine x_iald (pc' := 68) (N := 6) (x := (f 1)) rfl rfl rfl hN (io_in (p := 1) (N := 6) (by decide) (by decide)) (Eq.trans (congrArg (sA t 20 c) (nn_io (p := 1) (by decide))) (hf 1 (by decide))) ?_
  refine x_iadd (pc' := 69) (z := ((mA M 6 ((3 * m) + 1)) + (f 1))) rfl rfl rfl ?_
  refine x_ineg (pc' := 70) rfl rfl rfl ?_
  refine x_iload (pc' := 72) rfl rfl rfl ?_
  refine x_imul (pc' := 73) (z := ((-((mA M 6 ((3 * m) + 1)) + (f 1))) * (mA M 11 10))) rfl rfl rfl ?_
  refine x_iload (pc' := 75) rfl rfl rfl ?_
  refine x_aload_n (pc' := 76) rfl rfl rfl rfl rfl ?_
  refine x_iload (pc' := 78) rfl rfl rfl ?_
  refine x_iconst (pc' := 79) rfl rfl ?_
  refine x_iadd (pc' := 80) (z := 4) rfl rfl (by decide) ?_
  refine x_iald (pc' := 81) (N := 6) (x := (f 4)) rfl rfl rfl hN (io_in (p := 4) (N := 6) (by decide) (by decide)) (Eq.trans (congrArg (sA t 20 c) (nn_io (p := 4) (by decide))) (hf 4 (by decide))) ?_
  refine x_isub (pc' := 82) (z := ((mA M 6 ((3 * m) + 1)) - (f 4))) rfl rfl rfl ?_
  refine x_ineg (pc' := 83) rfl rfl rfl ?_
  refine x_iload (pc' := 85) rfl rfl rfl ?_
  refine x_imul (pc' := 86) (z := ((-((mA M 6 ((3 * m) + 1)) - (f 4))) * (mA M 11 10))) rfl rfl rfl ?_
  refine x_max (pc' := 89) (z := (mx ((-((mA M 6 ((3 * m) + 1)) + (f 1))) * (mA M 11 10)) ((-((mA M 6 ((3 * m) + 1)) - (f 4))) * (mA M 11 10)))) rfl rfl rfl rfl ?_
  refine x_iadd (pc' := 90) (z := ((mx ((-((mA M 6 ((3 * m) + 0)) + (f 0))) * (mA M 11 9)) ((-((mA M 6 ((3 * m) + 0)) - (f 3))) * (mA M 11 9))) + (mx ((-((mA M 6 ((3 * m) + 1)) + (f 1))) * (mA M 11 10)) ((-((mA M 6 ((3 * m) + 1)) - (f 4))) * (mA M 11 10))))) rfl rfl rfl ?_
  refine x_istore (pc' := 92) (ls' := [_, _, _, _, _, _, _, _, _]) rfl rfl rfl rfl ?_
  refine x_iinc (pc' := 95) (y := 2) (ls' := [_, _, _, _, _, _, _, _, _]) rfl rfl rfl rfl rfl ?_
  refine x_goto (pc' := 18) rfl rfl ?_
  refine x_iload (pc' := 20) rfl rfl rfl ?_
  refine x_aload_n (pc' := 21) rfl rfl rfl rfl rfl ?_
  refine x_gR (pc' := 24) (r := (some 0)) rfl rfl rfl (kR_320_0 hc.1) ?_
  refine x_alen (pc' := 25) (N := 3) rfl rfl rfl (kN_25_0 hc.1) (?_ : X _ _ _ (.inl 3 :: _) _ _)
  refine x_icmp (a' := 98) (pc' := 28) (z := false) rfl rfl rfl (by decide) (fun h => by cases h) (fun _ => ?_)
  refine x_iload (pc' := 30) rfl rfl rfl ?_
  refine x_iconst (pc' := 31) rfl rfl ?_
  refine x_iadd (pc' := 32) (z := 5) rfl rfl (by decide) ?_
  refine x_aload_n (pc' := 33) rfl rfl rfl rfl rfl ?_
  refine x_alen (pc' := 34) (N := 6) rfl rfl rfl hN (?_ : X _ _ _ (.inl 6 :: _) _ _)
  refine x_icmp (a' := 98) (pc' := 37) (z := false) rfl rfl rfl (by decide) (fun h => by cases h) (fun _ => ?_)
  refine x_aload_n (pc' := 38) rfl rfl rfl rfl rfl ?_
  refine x_aload_n (pc' := 39) rfl rfl rfl rfl rfl ?_
  refine x_gR (pc' := 42) (r := (some 0)) rfl rfl rfl (kR_320_0 hc.1) ?_
  refine x_iload (pc' := 44) rfl rfl rfl ?_
  refine x_aald (pc' := 45) (N := 3) (k' := 2) (r := (some 2)) rfl rfl rfl (kN_25_0 hc.1) (io_in (p := 2) (N := 3) (by decide) (by decide)) (Eq.trans (congrArg (sE t 25 0) (nn_io (p := 2) (by decide))) (kK hc.1 (by decide))) ?_
  refine x_cv (ls0 := [_, _, sJk]) (rest := []) rfl rfl rfl rfl rfl ?_
  refine x_aload_n (pc' := 1) rfl rfl rfl rfl rfl ?_
  refine x_gI (pc' := 4) (x := 2) rfl rfl rfl (kI_128_2 hc.1) ?_
  refine x_istore_n (pc' := 5) (ls' := [_, _, _]) rfl rfl rfl rfl ?_
  refine x_iload_n (pc' := 6) rfl rfl rfl ?_
  refine x_if (a' := 27) (pc' := 9) (z := false) rfl rfl rfl (by decide) (fun h => by cases h) (fun _ => ?_)
  refine x_iload_n (pc' := 10) rfl rfl rfl ?_
  refine x_aload_n (pc' := 11) rfl rfl rfl rfl rfl ?_
  refine x_gR (pc' := 14) (r := (some (m + 1))) rfl rfl rfl (kMp hc.1 hm).1 ?_
  refine x_alen (pc' := 15) (N := 3) rfl rfl rfl (kMp hc.1 hm).2.1 (?_ : X _ _ _ (.inl 3 :: _) _ _)
  refine x_icmp (a' := 27) (pc' := 18) (z := false) rfl rfl rfl (by decide) (fun h => by cases h) (fun _ => ?_)
  refine x_aload_n (pc' := 19) rfl rfl rfl rfl rfl ?_
  refine x_gR (pc' := 22) (r := (some (m + 1))) rfl rfl rfl (kMp hc.1 hm).1 ?_
  refine x_iload_n (pc' := 23) rfl rfl rfl ?_
  refine x_iald (pc' := 24) (N := 3) (x := (mA M 6 ((3 * m) + 2))) rfl rfl rfl (kMp hc.1 hm).2.1 (io_in (p := 2) (N := 3) (by decide) (by decide)) (Eq.trans (congrArg (sA t 20 (m + 1)) (nn_io (p := 2) (by decide))) (kP (m := m) (c := 2) hM hm (by decide))) ?_
  refine x_goto (pc' := 28) rfl rfl ?_
  refine x_reti rfl rfl ?_
  refine sK_i (pc' := 48) rfl ?_
  refine x_istore (pc' := 50) (ls' := [_, _, _, _, _, _, _, _, _]) rfl rfl rfl rfl ?_
  refine x_aload_n (pc' := 51) rfl rfl rfl rfl rfl ?_
  refine x_iload (pc' := 53) rfl rfl rfl ?_
  refine x_iload (pc' := 55) rfl rfl rfl ?_
  refine x_cv (ls0 := [_, _, _, sJk]) (rest := []) rfl rfl rfl rfl rfl ?_
  refine x_iload_n (pc' := 1) rfl rfl rfl ?_
  refine x_iconst (pc' := 2) rfl rfl ?_
  refine x_imul (pc' := 3) (z := 9) rfl rfl (by decide) ?_
  refine x_iload_n (pc' := 4) rfl rfl rfl ?_
  refine x_iadd (pc' := 5) (z := 11) rfl rfl (by decide) ?_
  refine x_istore_n (pc' := 6) (ls' := [_, _, _, _]) rfl rfl rfl rfl ?_
  refine x_iload_n (pc' := 7) rfl rfl rfl ?_
  refine x_if (a' := 28) (pc' := 10) (z := false) rfl rfl rfl (by decide) (fun h => by cases h) (fun _ => ?_)
  refine x_iload_n (pc' := 11) rfl rfl rfl ?_
  refine x_aload_n (pc' := 12) rfl rfl rfl rfl rfl ?_
  refine x_gR (pc' := 15) (r := (some 0)) rfl rfl rfl (kR_323_0 hc.1) ?_
  refine x_alen (pc' := 16) (N := 18) rfl rfl rfl (kN_20_0 hc.1) (?_ : X _ _ _ (.inl 18 :: _) _ _)
  refine x_icmp (a' := 28) (pc' := 19) (z := false) rfl rfl rfl (by decide) (fun h => by cases h) (fun _ => ?_)
  refine x_aload_n (pc' := 20) rfl rfl rfl rfl rfl ?_
  refine x_gR (pc' := 23) (r := (some 0)) rfl rfl rfl (kR_323_0 hc.1) ?_
  refine x_iload_n (pc' := 24) rfl rfl rfl ?_
  refine x_iald (pc' := 25) (N := 18) (x := (mA M 11 11)) rfl rfl rfl (kN_20_0 hc.1) (io_in (p := 11) (N := 18) (by decide) (by decide)) (Eq.trans (congrArg (sA t 20 0) (nn_io (p := 11) (by decide))) (kV hM (by decide))) ?_
  refine x_goto (pc' := 29) rfl rfl ?_
  refine x_reti rfl rfl ?_
  refine sK_i (pc' := 58) rfl ?_
  refine x_istore (pc' := 60) (ls' := [_, _, _, _, _, _, _, _, _]) rfl rfl rfl rfl ?_
  refine x_iload (pc' := 62) rfl rfl rfl ?_
  refine x_iload (pc' := 64) rfl rfl rfl ?_
  refine x_aload_n (pc' := 65) rfl rfl rfl rfl rfl ?_
  refine x_iload (pc' := 67) rfl rfl rfl ?_
  refine x_iald (pc' := 68) (N := 6) (x := (f 2)) rfl rfl rfl hN (io_in (p := 2) (N := 6) (by decide) (by decide)) (Eq.trans (congrArg (sA t 20 c) (nn_io (p := 2) (by decide))) (hf 2 (by decide))) ?_
  refine x_iadd (pc' := 69) (z := ((mA M 6 ((3 * m) + 2)) + (f 2))) rfl rfl rfl ?_
  refine x_ineg (pc' := 70) rfl rfl rfl ?_
  refine x_iload (pc' := 72) rfl rfl rfl ?_
  refine x_imul (pc' := 73) (z := ((-((mA M 6 ((3 * m) + 2)) + (f 2))) * (mA M 11 11))) rfl rfl rfl ?_
  refine x_iload (pc' := 75) rfl rfl rfl ?_
  refine x_aload_n (pc' := 76) rfl rfl rfl rfl rfl ?_
  refine x_iload (pc' := 78) rfl rfl rfl ?_
  refine x_iconst (pc' := 79) rfl rfl ?_
  refine x_iadd (pc' := 80) (z := 5) rfl rfl (by decide) ?_
  refine x_iald (pc' := 81) (N := 6) (x := (f 5)) rfl rfl rfl hN (io_in (p := 5) (N := 6) (by decide) (by decide)) (Eq.trans (congrArg (sA t 20 c) (nn_io (p := 5) (by decide))) (hf 5 (by decide))) ?_
  refine x_isub (pc' := 82) (z := ((mA M 6 ((3 * m) + 2)) - (f 5))) rfl rfl rfl ?_
  refine x_ineg (pc' := 83) rfl rfl rfl ?_
  refine x_iload (pc' := 85) rfl rfl rfl ?_
  refine x_imul (pc' := 86) (z := ((-((mA M 6 ((3 * m) + 2)) - (f 5))) * (mA M 11 11))) rfl rfl rfl ?_
  refine x_max (pc' := 89) (z := (mx ((-((mA M 6 ((3 * m) + 2)) + (f 2))) * (mA M 11 11)) ((-((mA M 6 ((3 * m) + 2)) - (f 5))) * (mA M 11 11)))) rfl rfl rfl rfl ?_
  refine x_iadd (pc' := 90) (z := (((mx ((-((mA M 6 ((3 * m) + 0)) + (f 0))) * (mA M 11 9)) ((-((mA M 6 ((3 * m) + 0)) - (f 3))) * (mA M 11 9))) + (mx ((-((mA M 6 ((3 * m) + 1)) + (f 1))) * (mA M 11 10)) ((-((mA M 6 ((3 * m) + 1)) - (f 4))) * (mA M 11 10)))) + (mx ((-((mA M 6 ((3 * m) + 2)) + (f 2))) * (mA M 11 11)) ((-((mA M 6 ((3 * m) + 2)) - (f 5))) * (mA M 11 11))))) rfl rfl rfl ?_
  refine x_istore (pc' := 92) (ls' := [_, _, _, _, _, _, _, _, _]) rfl rfl rfl rfl ?_
  refine x_iinc (pc' := 95) (y := 3) (ls' := [_, _, _, _, _, _, _, _, _]) rfl rfl rfl rfl rfl ?_
  refine x_goto (pc' := 18) rfl rfl ?_
  refine x_iload (pc' := 20) rfl rfl rfl ?_
  refine x_aload_n (pc' := 21) rfl rfl rfl rfl rfl ?_
  refine x_gR (pc' := 24) (r := (some 0)) rfl rfl rfl (kR_320_0 hc.1) ?_
  refine x_alen (pc' := 25) (N := 3) rfl rfl rfl (kN_25_0 hc.1) (?_ : X _ _ _ (.inl 3 :: _) _ _)
  refine x_icmp (a' := 98) (pc' := 28) (z := true) rfl rfl rfl (by decide) (fun _ => ?_) (fun h => by cases h)
  refine x_iload_n (pc' := 99) rfl rfl rfl ?_
  refine x_iload (pc' := 101) rfl rfl rfl ?_
  refine x_max (pc' := 104) (z := (mx (mx (mx (mx 0 (((mx ((-((mA M 6 ((3 * m) + 0)) + (f 0))) * (mA M 11 0)) ((-((mA M 6 ((3 * m) + 0)) - (f 3))) * (mA M 11 0))) + (mx ((-((mA M 6 ((3 * m) + 1)) + (f 1))) * (mA M 11 1)) ((-((mA M 6 ((3 * m) + 1)) - (f 4))) * (mA M 11 1)))) + (mx ((-((mA M 6 ((3 * m) + 2)) + (f 2))) * (mA M 11 2)) ((-((mA M 6 ((3 * m) + 2)) - (f 5))) * (mA M 11 2))))) (((mx ((-((mA M 6 ((3 * m) + 0)) + (f 0))) * (mA M 11 3)) ((-((mA M 6 ((3 * m) + 0)) - (f 3))) * (mA M 11 3))) + (mx ((-((mA M 6 ((3 * m) + 1)) + (f 1))) * (mA M 11 4)) ((-((mA M 6 ((3 * m) + 1)) - (f 4))) * (mA M 11 4)))) + (mx ((-((mA M 6 ((3 * m) + 2)) + (f 2))) * (mA M 11 5)) ((-((mA M 6 ((3 * m) + 2)) - (f 5))) * (mA M 11 5))))) (((mx ((-((mA M 6 ((3 * m) + 0)) + (f 0))) * (mA M 11 6)) ((-((mA M 6 ((3 * m) + 0)) - (f 3))) * (mA M 11 6))) + (mx ((-((mA M 6 ((3 * m) + 1)) + (f 1))) * (mA M 11 7)) ((-((mA M 6 ((3 * m) + 1)) - (f 4))) * (mA M 11 7)))) + (mx ((-((mA M 6 ((3 * m) + 2)) + (f 2))) * (mA M 11 8)) ((-((mA M 6 ((3 * m) + 2)) - (f 5))) * (mA M 11 8))))) (((mx ((-((mA M 6 ((3 * m) + 0)) + (f 0))) * (mA M 11 9)) ((-((mA M 6 ((3 * m) + 0)) - (f 3))) * (mA M 11 9))) + (mx ((-((mA M 6 ((3 * m) + 1)) + (f 1))) * (mA M 11 10)) ((-((mA M 6 ((3 * m) + 1)) - (f 4))) * (mA M 11 10)))) + (mx ((-((mA M 6 ((3 * m) + 2)) + (f 2))) * (mA M 11 11)) ((-((mA M 6 ((3 * m) + 2)) - (f 5))) * (mA M 11 11)))))) rfl rfl rfl rfl ?_
  refine x_istore_n (pc' := 105) (ls' := [_, _, _, _, _, _, _, _, _]) rfl rfl rfl rfl ?_
  refine x_iinc (pc' := 108) (y := 4) (ls' := [_, _, _, _, _, _, _, _, _]) rfl rfl rfl rfl rfl ?_
  refine x_goto (pc' := 5) rfl rfl ?_
  refine x_iload (pc' := 7) rfl rfl rfl ?_
  refine x_bipush (pc' := 9) rfl rfl ?_
  refine x_icmp (a' := 111) (pc' := 12) (z := false) rfl rfl rfl (by decide) (fun h => by cases h) (fun _ => ?_)
  refine x_iconst (pc' := 13) rfl rfl ?_
  refine x_istore (pc' := 15) (ls' := [_, _, _, _, _, _, _, _, _]) rfl rfl rfl rfl ?_
  refine x_iconst (pc' := 16) rfl rfl ?_
  refine x_istore (pc' := 18) (ls' := [_, _, _, _, _, _, _, _, _]) rfl rfl rfl rfl ?_
  refine x_iload (pc' := 20) rfl rfl rfl ?_
  refine x_aload_n (pc' := 21) rfl rfl rfl rfl rfl ?_
  refine x_gR (pc' := 24) (r := (some 0)) rfl rfl rfl (kR_320_0 hc.1) ?_
  refine x_alen (pc' := 25) (N := 3) rfl rfl rfl (kN_25_0 hc.1) (?_ : X _ _ _ (.inl 3 :: _) _ _)
  refine x_icmp (a' := 98) (pc' := 28) (z := false) rfl rfl rfl (by decide) (fun h => by cases h) (fun _ => ?_)
  refine x_iload (pc' := 30) rfl rfl rfl ?_
  refine x_iconst (pc' := 31) rfl rfl ?_
  refine x_iadd (pc' := 32) (z := 3) rfl rfl (by decide) ?_
  refine x_aload_n (pc' := 33) rfl rfl rfl rfl rfl ?_
  refine x_alen (pc' := 34) (N := 6) rfl rfl rfl hN (?_ : X _ _ _ (.inl 6 :: _) _ _)
  refine x_icmp (a' := 98) (pc' := 37) (z := false) rfl rfl rfl (by decide) (fun h => by cases h) (fun _ => ?_)
  refine x_aload_n (pc' := 38) rfl rfl rfl rfl rfl ?_
  refine x_aload_n (pc' := 39) rfl rfl rfl rfl rfl ?_
  refine x_gR (pc' := 42) (r := (some 0)) rfl rfl rfl (kR_320_0 hc.1) ?_
  refine x_iload (pc' := 44) rfl rfl rfl ?_
  refine x_aald (pc' := 45) (N := 3) (k' := 2) (r := (some 0)) rfl rfl rfl (kN_25_0 hc.1) (io_in (p := 0) (N := 3) (by decide) (by decide)) (Eq.trans (congrArg (sE t 25 0) (nn_io (p := 0) (by decide))) (kK hc.1 (by decide))) ?_
  refine x_cv (ls0 := [_, _, sJk]) (rest := []) rfl rfl rfl rfl rfl ?_
  refine x_aload_n (pc' := 1) rfl rfl rfl rfl rfl ?_
  refine x_gI (pc' := 4) (x := 0) rfl rfl rfl (kI_128_0 hc.1) ?_
  refine x_istore_n (pc' := 5) (ls' := [_, _, _]) rfl rfl rfl rfl ?_
  refine x_iload_n (pc' := 6) rfl rfl rfl ?_
  refine x_if (a' := 27) (pc' := 9) (z := false) rfl rfl rfl (by decide) (fun h => by cases h) (fun _ => ?_)
  refine x_iload_n (pc' := 10) rfl rfl rfl ?_
  refine x_aload_n (pc' := 11) rfl rfl rfl rfl rfl ?_
  refine x_gR (pc' := 14) (r := (some (m + 1))) rfl rfl rfl (kMp hc.1 hm).1 ?_
  refine x_alen (pc' := 15) (N := 3) rfl rfl rfl (kMp hc.1 hm).2.1 (?_ : X _ _ _ (.inl 3 :: _) _ _)
  refine x_icmp (a' := 27) (pc' := 18) (z := false) rfl rfl rfl (by decide) (fun h => by cases h) (fun _ => ?_)
  refine x_aload_n (pc' := 19) rfl rfl rfl rfl rfl ?_
  refine x_gR (pc' := 22) (r := (some (m + 1))) rfl rfl rfl (kMp hc.1 hm).1 ?_
  refine x_iload_n (pc' := 23) rfl rfl rfl ?_
  refine x_iald (pc' := 24) (N := 3) (x := (mA M 6 ((3 * m) + 0))) rfl rfl rfl (kMp hc.1 hm).2.1 (io_in (p := 0) (N := 3) (by decide) (by decide)) (Eq.trans (congrArg (sA t 20 (m + 1)) (nn_io (p := 0) (by decide))) (kP (m := m) (c := 0) hM hm (by decide))) ?_
  refine x_goto (pc' := 28) rfl rfl ?_
  refine x_reti rfl rfl ?_
  refine sK_i (pc' := 48) rfl ?_
  refine x_istore (pc' := 50) (ls' := [_, _, _, _, _, _, _, _, _]) rfl rfl rfl rfl ?_
  refine x_aload_n (pc' := 51) rfl rfl rfl rfl rfl ?_
  refine x_iload (pc' := 53) rfl rfl rfl ?_
  refine x_iload (pc' := 55) rfl rfl rfl ?_
  refine x_cv (ls0 := [_, _, _, sJk]) (rest := []) rfl rfl rfl rfl rfl ?_
  refine x_iload_n (pc' := 1) rfl rfl rfl ?_
  refine x_iconst (pc' := 2) rfl rfl ?_
  refine x_imul (pc' := 3) (z := 12) rfl rfl (by decide) ?_
  refine x_iload_n (pc' := 4) rfl rfl rfl ?_
  refine x_iadd (pc' := 5) (z := 12) rfl rfl (by decide) ?_
  refine x_istore_n (pc' := 6) (ls' := [_, _, _, _]) rfl rfl rfl rfl ?_
  refine x_iload_n (pc' := 7) rfl rfl rfl ?_
  refine x_if (a' := 28) (pc' := 10) (z := false) rfl rfl rfl (by decide) (fun h => by cases h) (fun _ => ?_)
  refine x_iload_n (pc' := 11) rfl rfl rfl ?_
  refine x_aload_n (pc' := 12) rfl rfl rfl rfl rfl ?_
  refine x_gR (pc' := 15) (r := (some 0)) rfl rfl rfl (kR_323_0 hc.1) ?_
  refine x_alen (pc' := 16) (N := 18) rfl rfl rfl (kN_20_0 hc.1) (?_ : X _ _ _ (.inl 18 :: _) _ _)
  refine x_icmp (a' := 28) (pc' := 19) (z := false) rfl rfl rfl (by decide) (fun h => by cases h) (fun _ => ?_)
  refine x_aload_n (pc' := 20) rfl rfl rfl rfl rfl ?_
  refine x_gR (pc' := 23) (r := (some 0)) rfl rfl rfl (kR_323_0 hc.1) ?_
  refine x_iload_n (pc' := 24) rfl rfl rfl ?_
  refine x_iald (pc' := 25) (N := 18) (x := (mA M 11 12)) rfl rfl rfl (kN_20_0 hc.1) (io_in (p := 12) (N := 18) (by decide) (by decide)) (Eq.trans (congrArg (sA t 20 0) (nn_io (p := 12) (by decide))) (kV hM (by decide))) ?_
  refine x_goto (pc' := 29) rfl rfl ?_
  refine x_reti rfl rfl ?_
  refine sK_i (pc' := 58) rfl ?_
  refine x_istore (pc' := 60) (ls' := [_, _, _, _, _, _, _, _, _]) rfl rfl rfl rfl ?_
  refine x_iload (pc' := 62) rfl rfl rfl ?_
  refine x_iload (pc' := 64) rfl rfl rfl ?_
  refine x_aload_n (pc' := 65) rfl rfl rfl rfl rfl ?_
  refine x_iload (pc' := 67) rfl rfl rfl ?_
  refine x_iald (pc' := 68) (N := 6) (x := (f 0)) rfl rfl rfl hN (io_in (p := 0) (N := 6) (by decide) (by decide)) (Eq.trans (congrArg (sA t 20 c) (nn_io (p := 0) (by decide))) (hf 0 (by decide))) ?_
  refine x_iadd (pc' := 69) (z := ((mA M 6 ((3 * m) + 0)) + (f 0))) rfl rfl rfl ?_
  refine x_ineg (pc' := 70) rfl rfl rfl ?_
  refine x_iload (pc' := 72) rfl rfl rfl ?_
  refine x_imul (pc' := 73) (z := ((-((mA M 6 ((3 * m) + 0)) + (f 0))) * (mA M 11 12))) rfl rfl rfl ?_
  refine x_iload (pc' := 75) rfl rfl rfl ?_
  refine x_aload_n (pc' := 76) rfl rfl rfl rfl rfl ?_
  refine x_iload (pc' := 78) rfl rfl rfl ?_
  refine x_iconst (pc' := 79) rfl rfl ?_
  refine x_iadd (pc' := 80) (z := 3) rfl rfl (by decide) ?_
  refine x_iald (pc' := 81) (N := 6) (x := (f 3)) rfl rfl rfl hN (io_in (p := 3) (N := 6) (by decide) (by decide)) (Eq.trans (congrArg (sA t 20 c) (nn_io (p := 3) (by decide))) (hf 3 (by decide))) ?_
  refine x_isub (pc' := 82) (z := ((mA M 6 ((3 * m) + 0)) - (f 3))) rfl rfl rfl ?_
  refine x_ineg (pc' := 83) rfl rfl rfl ?_
  refine x_iload (pc' := 85) rfl rfl rfl ?_
  refine x_imul (pc' := 86) (z := ((-((mA M 6 ((3 * m) + 0)) - (f 3))) * (mA M 11 12))) rfl rfl rfl ?_
  refine x_max (pc' := 89) (z := (mx ((-((mA M 6 ((3 * m) + 0)) + (f 0))) * (mA M 11 12)) ((-((mA M 6 ((3 * m) + 0)) - (f 3))) * (mA M 11 12)))) rfl rfl rfl rfl ?_
  refine x_iadd (pc' := 90) (z := (mx ((-((mA M 6 ((3 * m) + 0)) + (f 0))) * (mA M 11 12)) ((-((mA M 6 ((3 * m) + 0)) - (f 3))) * (mA M 11 12)))) rfl rfl (Int32.zero_add _) ?_
  refine x_istore (pc' := 92) (ls' := [_, _, _, _, _, _, _, _, _]) rfl rfl rfl rfl ?_
  refine x_iinc (pc' := 95) (y := 1) (ls' := [_, _, _, _, _, _, _, _, _]) rfl rfl rfl rfl rfl ?_
  refine x_goto (pc' := 18) rfl rfl ?_
  refine x_iload (pc' := 20) rfl rfl rfl ?_
  refine x_aload_n (pc' := 21) rfl rfl rfl rfl rfl ?_
  refine x_gR (pc' := 24) (r := (some 0)) rfl rfl rfl (kR_320_0 hc.1) ?_
  refine x_alen (pc' := 25) (N := 3) rfl rfl rfl (kN_25_0 hc.1) (?_ : X _ _ _ (.inl 3 :: _) _ _)
  refine x_icmp (a' := 98) (pc' := 28) (z := false) rfl rfl rfl (by decide) (fun h => by cases h) (fun _ => ?_)
  refine x_iload (pc' := 30) rfl rfl rfl ?_
  refine x_iconst (pc' := 31) rfl rfl ?_
  refine x_iadd (pc' := 32) (z := 4) rfl rfl (by decide) ?_
  refine x_aload_n (pc' := 33) rfl rfl rfl rfl rfl ?_
  refine x_alen (pc' := 34) (N := 6) rfl rfl rfl hN (?_ : X _ _ _ (.inl 6 :: _) _ _)
  refine x_icmp (a' := 98) (pc' := 37) (z := false) rfl rfl rfl (by decide) (fun h => by cases h) (fun _ => ?_)
  refine x_aload_n (pc' := 38) rfl rfl rfl rfl rfl ?_
  refine x_aload_n (pc' := 39) rfl rfl rfl rfl rfl ?_
  refine x_gR (pc' := 42) (r := (some 0)) rfl rfl rfl (kR_320_0 hc.1) ?_
  refine x_iload (pc' := 44) rfl rfl rfl ?_
  refine x_aald (pc' := 45) (N := 3) (k' := 2) (r := (some 1)) rfl rfl rfl (kN_25_0 hc.1) (io_in (p := 1) (N := 3) (by decide) (by decide)) (Eq.trans (congrArg (sE t 25 0) (nn_io (p := 1) (by decide))) (kK hc.1 (by decide))) ?_
  refine x_cv (ls0 := [_, _, sJk]) (rest := []) rfl rfl rfl rfl rfl ?_
  refine x_aload_n (pc' := 1) rfl rfl rfl rfl rfl ?_
  refine x_gI (pc' := 4) (x := 1) rfl rfl rfl (kI_128_1 hc.1) ?_
  refine x_istore_n (pc' := 5) (ls' := [_, _, _]) rfl rfl rfl rfl ?_
  refine x_iload_n (pc' := 6) rfl rfl rfl ?_
  refine x_if (a' := 27) (pc' := 9) (z := false) rfl rfl rfl (by decide) (fun h => by cases h) (fun _ => ?_)
  refine x_iload_n (pc' := 10) rfl rfl rfl ?_
  refine x_aload_n (pc' := 11) rfl rfl rfl rfl rfl ?_
  refine x_gR (pc' := 14) (r := (some (m + 1))) rfl rfl rfl (kMp hc.1 hm).1 ?_
  refine x_alen (pc' := 15) (N := 3) rfl rfl rfl (kMp hc.1 hm).2.1 (?_ : X _ _ _ (.inl 3 :: _) _ _)
  refine x_icmp (a' := 27) (pc' := 18) (z := false) rfl rfl rfl (by decide) (fun h => by cases h) (fun _ => ?_)
  refine x_aload_n (pc' := 19) rfl rfl rfl rfl rfl ?_
  refine x_gR (pc' := 22) (r := (some (m + 1))) rfl rfl rfl (kMp hc.1 hm).1 ?_
  refine x_iload_n (pc' := 23) rfl rfl rfl ?_
  refine x_iald (pc' := 24) (N := 3) (x := (mA M 6 ((3 * m) + 1))) rfl rfl rfl (kMp hc.1 hm).2.1 (io_in (p := 1) (N := 3) (by decide) (by decide)) (Eq.trans (congrArg (sA t 20 (m + 1)) (nn_io (p := 1) (by decide))) (kP (m := m) (c := 1) hM hm (by decide))) ?_
  refine x_goto (pc' := 28) rfl rfl ?_
  refine x_reti rfl rfl ?_
  refine sK_i (pc' := 48) rfl ?_
  refine x_istore (pc' := 50) (ls' := [_, _, _, _, _, _, _, _, _]) rfl rfl rfl rfl ?_
  refine x_aload_n (pc' := 51) rfl rfl rfl rfl rfl ?_
  refine x_iload (pc' := 53) rfl rfl rfl ?_
  refine x_iload (pc' := 55) rfl rfl rfl ?_
  refine x_cv (ls0 := [_, _, _, sJk]) (rest := []) rfl rfl rfl rfl rfl ?_
  refine x_iload_n (pc' := 1) rfl rfl rfl ?_
  refine x_iconst (pc' := 2) rfl rfl ?_
  refine x_imul (pc' := 3) (z := 12) rfl rfl (by decide) ?_
  refine x_iload_n (pc' := 4) rfl rfl rfl ?_
  refine x_iadd (pc' := 5) (z := 13) rfl rfl (by decide) ?_
  refine x_istore_n (pc' := 6) (ls' := [_, _, _, _]) rfl rfl rfl rfl ?_
  refine x_iload_n (pc' := 7) rfl rfl rfl ?_
  refine x_if (a' := 28) (pc' := 10) (z := false) rfl rfl rfl (by decide) (fun h => by cases h) (fun _ => ?_)
  refine x_iload_n (pc' := 11) rfl rfl rfl ?_
  refine x_aload_n (pc' := 12) rfl rfl rfl rfl rfl ?_
  refine x_gR (pc' := 15) (r := (some 0)) rfl rfl rfl (kR_323_0 hc.1) ?_
  refine x_alen (pc' := 16) (N := 18) rfl rfl rfl (kN_20_0 hc.1) (?_ : X _ _ _ (.inl 18 :: _) _ _)
  refine x_icmp (a' := 28) (pc' := 19) (z := false) rfl rfl rfl (by decide) (fun h => by cases h) (fun _ => ?_)
  refine x_aload_n (pc' := 20) rfl rfl rfl rfl rfl ?_
  refine x_gR (pc' := 23) (r := (some 0)) rfl rfl rfl (kR_323_0 hc.1) ?_
  refine x_iload_n (pc' := 24) rfl rfl rfl ?_
  refine x_iald (pc' := 25) (N := 18) (x := (mA M 11 13)) rfl rfl rfl (kN_20_0 hc.1) (io_in (p := 13) (N := 18) (by decide) (by decide)) (Eq.trans (congrArg (sA t 20 0) (nn_io (p := 13) (by decide))) (kV hM (by decide))) ?_
  refine x_goto (pc' := 29) rfl rfl ?_
  refine x_reti rfl rfl ?_
  refine sK_i (pc' := 58) rfl ?_
  refine x_istore (pc' := 60) (ls' := [_, _, _, _, _, _, _, _, _]) rfl rfl rfl rfl ?_
  refine x_iload (pc' := 62) rfl rfl rfl ?_
  refine x_iload (pc' := 64) rfl rfl rfl ?_
  refine x_aload_n (pc' := 65) rfl rfl rfl rfl rfl ?_
  refine x_iload (pc' := 67) rfl rfl rfl ?_
  refine x_iald (pc' := 68) (N := 6) (x := (f 1)) rfl rfl rfl hN (io_in (p := 1) (N := 6) (by decide) (by decide)) (Eq.trans (congrArg (sA t 20 c) (nn_io (p := 1) (by decide))) (hf 1 (by decide))) ?_
  refine x_iadd (pc' := 69) (z := ((mA M 6 ((3 * m) + 1)) + (f 1))) rfl rfl rfl ?_
  refine x_ineg (pc' := 70) rfl rfl rfl ?_
  refine x_iload (pc' := 72) rfl rfl rfl ?_
  refine x_imul (pc' := 73) (z := ((-((mA M 6 ((3 * m) + 1)) + (f 1))) * (mA M 11 13))) rfl rfl rfl ?_
  refine x_iload (pc' := 75) rfl rfl rfl ?_
  refine x_aload_n (pc' := 76) rfl rfl rfl rfl rfl ?_
  refine x_iload (pc' := 78) rfl rfl rfl ?_
  refine x_iconst (pc' := 79) rfl rfl ?_
  refine x_iadd (pc' := 80) (z := 4) rfl rfl (by decide) ?_
  refine x_iald (pc' := 81) (N := 6) (x := (f 4)) rfl rfl rfl hN (io_in (p := 4) (N := 6) (by decide) (by decide)) (Eq.trans (congrArg (sA t 20 c) (nn_io (p := 4) (by decide))) (hf 4 (by decide))) ?_
  refine x_isub (pc' := 82) (z := ((mA M 6 ((3 * m) + 1)) - (f 4))) rfl rfl rfl ?_
  refine x_ineg (pc' := 83) rfl rfl rfl ?_
  refine x_iload (pc' := 85) rfl rfl rfl ?_
  refine x_imul (pc' := 86) (z := ((-((mA M 6 ((3 * m) + 1)) - (f 4))) * (mA M 11 13))) rfl rfl rfl ?_
  refine x_max (pc' := 89) (z := (mx ((-((mA M 6 ((3 * m) + 1)) + (f 1))) * (mA M 11 13)) ((-((mA M 6 ((3 * m) + 1)) - (f 4))) * (mA M 11 13)))) rfl rfl rfl rfl ?_
  refine x_iadd (pc' := 90) (z := ((mx ((-((mA M 6 ((3 * m) + 0)) + (f 0))) * (mA M 11 12)) ((-((mA M 6 ((3 * m) + 0)) - (f 3))) * (mA M 11 12))) + (mx ((-((mA M 6 ((3 * m) + 1)) + (f 1))) * (mA M 11 13)) ((-((mA M 6 ((3 * m) + 1)) - (f 4))) * (mA M 11 13))))) rfl rfl rfl ?_
  refine x_istore (pc' := 92) (ls' := [_, _, _, _, _, _, _, _, _]) rfl rfl rfl rfl ?_
  refine x_iinc (pc' := 95) (y := 2) (ls' := [_, _, _, _, _, _, _, _, _]) rfl rfl rfl rfl rfl ?_
  refine x_goto (pc' := 18) rfl rfl ?_
  refine x_iload (pc' := 20) rfl rfl rfl ?_
  refine x_aload_n (pc' := 21) rfl rfl rfl rfl rfl ?_
  refine x_gR (pc' := 24) (r := (some 0)) rfl rfl rfl (kR_320_0 hc.1) ?_
  refine x_alen (pc' := 25) (N := 3) rfl rfl rfl (kN_25_0 hc.1) (?_ : X _ _ _ (.inl 3 :: _) _ _)
  refine x_icmp (a' := 98) (pc' := 28) (z := false) rfl rfl rfl (by decide) (fun h => by cases h) (fun _ => ?_)
  refine x_iload (pc' := 30) rfl rfl rfl ?_
  refine x_iconst (pc' := 31) rfl rfl ?_
  refine x_iadd (pc' := 32) (z := 5) rfl rfl (by decide) ?_
  refine x_aload_n (pc' := 33) rfl rfl rfl rfl rfl ?_
  refine x_alen (pc' := 34) (N := 6) rfl rfl rfl hN (?_ : X _ _ _ (.inl 6 :: _) _ _)
  refine x_icmp (a' := 98) (pc' := 37) (z := false) rfl rfl rfl (by decide) (fun h => by cases h) (fun _ => ?_)
  refine x_aload_n (pc' := 38) rfl rfl rfl rfl rfl ?_
  refine x_aload_n (pc' := 39) rfl rfl rfl rfl rfl ?_
  refine x_gR (pc' := 42) (r := (some 0)) rfl rfl rfl (kR_320_0 hc.1) ?_
  refine x_iload (pc' := 44) rfl rfl rfl ?_
  refine x_aald (pc' := 45) (N := 3) (k' := 2) (r := (some 2)) rfl rfl rfl (kN_25_0 hc.1) (io_in (p := 2) (N := 3) (by decide) (by decide)) (Eq.trans (congrArg (sE t 25 0) (nn_io (p := 2) (by decide))) (kK hc.1 (by decide))) ?_
  refine x_cv (ls0 := [_, _, sJk]) (rest := []) rfl rfl rfl rfl rfl ?_
  refine x_aload_n (pc' := 1) rfl rfl rfl rfl rfl ?_
  refine x_gI (pc' := 4) (x := 2) rfl rfl rfl (kI_128_2 hc.1) ?_
  refine x_istore_n (pc' := 5) (ls' := [_, _, _]) rfl rfl rfl rfl ?_
  refine x_iload_n (pc' := 6) rfl rfl rfl ?_
  refine x_if (a' := 27) (pc' := 9) (z := false) rfl rfl rfl (by decide) (fun h => by cases h) (fun _ => ?_)
  refine x_iload_n (pc' := 10) rfl rfl rfl ?_
  refine x_aload_n (pc' := 11) rfl rfl rfl rfl rfl ?_
  refine x_gR (pc' := 14) (r := (some (m + 1))) rfl rfl rfl (kMp hc.1 hm).1 ?_
  refine x_alen (pc' := 15) (N := 3) rfl rfl rfl (kMp hc.1 hm).2.1 (?_ : X _ _ _ (.inl 3 :: _) _ _)
  refine x_icmp (a' := 27) (pc' := 18) (z := false) rfl rfl rfl (by decide) (fun h => by cases h) (fun _ => ?_)
  refine x_aload_n (pc' := 19) rfl rfl rfl rfl rfl ?_
  refine x_gR (pc' := 22) (r := (some (m + 1))) rfl rfl rfl (kMp hc.1 hm).1 ?_
  refine x_iload_n (pc' := 23) rfl rfl rfl ?_
  refine x_iald (pc' := 24) (N := 3) (x := (mA M 6 ((3 * m) + 2))) rfl rfl rfl (kMp hc.1 hm).2.1 (io_in (p := 2) (N := 3) (by decide) (by decide)) (Eq.trans (congrArg (sA t 20 (m + 1)) (nn_io (p := 2) (by decide))) (kP (m := m) (c := 2) hM hm (by decide))) ?_
  refine x_goto (pc' := 28) rfl rfl ?_
  refine x_reti rfl rfl ?_
  refine sK_i (pc' := 48) rfl ?_
  refine x_istore (pc' := 50) (ls' := [_, _, _, _, _, _, _, _, _]) rfl rfl rfl rfl ?_
  refine x_aload_n (pc' := 51) rfl rfl rfl rfl rfl ?_
  refine x_iload (pc' := 53) rfl rfl rfl ?_
  refine x_iload (pc' := 55) rfl rfl rfl ?_
  refine x_cv (ls0 := [_, _, _, sJk]) (rest := []) rfl rfl rfl rfl rfl ?_
  refine x_iload_n (pc' := 1) rfl rfl rfl ?_
  refine x_iconst (pc' := 2) rfl rfl ?_
  refine x_imul (pc' := 3) (z := 12) rfl rfl (by decide) ?_
  refine x_iload_n (pc' := 4) rfl rfl rfl ?_
  refine x_iadd (pc' := 5) (z := 14) rfl rfl (by decide) ?_
  refine x_istore_n (pc' := 6) (ls' := [_, _, _, _]) rfl rfl rfl rfl ?_
  refine x_iload_n (pc' := 7) rfl rfl rfl ?_
  refine x_if (a' := 28) (pc' := 10) (z := false) rfl rfl rfl (by decide) (fun h => by cases h) (fun _ => ?_)
  refine x_iload_n (pc' := 11) rfl rfl rfl ?_
  refine x_aload_n (pc' := 12) rfl rfl rfl rfl rfl ?_
  refine x_gR (pc' := 15) (r := (some 0)) rfl rfl rfl (kR_323_0 hc.1) ?_
  refine x_alen (pc' := 16) (N := 18) rfl rfl rfl (kN_20_0 hc.1) (?_ : X _ _ _ (.inl 18 :: _) _ _)
  refine x_icmp (a' := 28) (pc' := 19) (z := false) rfl rfl rfl (by decide) (fun h => by cases h) (fun _ => ?_)
  refine x_aload_n (pc' := 20) rfl rfl rfl rfl rfl ?_
  refine x_gR (pc' := 23) (r := (some 0)) rfl rfl rfl (kR_323_0 hc.1) ?_
  refine x_iload_n (pc' := 24) rfl rfl rfl ?_
  refine x_iald (pc' := 25) (N := 18) (x := (mA M 11 14)) rfl rfl rfl (kN_20_0 hc.1) (io_in (p := 14) (N := 18) (by decide) (by decide)) (Eq.trans (congrArg (sA t 20 0) (nn_io (p := 14) (by decide))) (kV hM (by decide))) ?_
  refine x_goto (pc' := 29) rfl rfl ?_
  refine x_reti rfl rfl ?_
  refine sK_i (pc' := 58) rfl ?_
  refine x_istore (pc' := 60) (ls' := [_, _, _, _, _, _, _, _, _]) rfl rfl rfl rfl ?_
  refine x_iload (pc' := 62) rfl rfl rfl ?_
  refine x_iload (pc' := 64) rfl rfl rfl ?_
  refine x_aload_n (pc' := 65) rfl rfl rfl rfl rfl ?_
  refine x_iload (pc' := 67) rfl rfl rfl ?_
  refine x_iald (pc' := 68) (N := 6) (x := (f 2)) rfl rfl rfl hN (io_in (p := 2) (N := 6) (by decide) (by decide)) (Eq.trans (congrArg (sA t 20 c) (nn_io (p := 2) (by decide))) (hf 2 (by decide))) ?_
  refine x_iadd (pc' := 69) (z := ((mA M 6 ((3 * m) + 2)) + (f 2))) rfl rfl rfl ?_
  refine x_ineg (pc' := 70) rfl rfl rfl ?_
  refine x_iload (pc' := 72) rfl rfl rfl ?_
  refine x_imul (pc' := 73) (z := ((-((mA M 6 ((3 * m) + 2)) + (f 2))) * (mA M 11 14))) rfl rfl rfl ?_
  refine x_iload (pc' := 75) rfl rfl rfl ?_
  refine x_aload_n (pc' := 76) rfl rfl rfl rfl rfl ?_
  refine x_iload (pc' := 78) rfl rfl rfl ?_
  refine x_iconst (pc' := 79) rfl rfl ?_
  refine x_iadd (pc' := 80) (z := 5) rfl rfl (by decide) ?_
  refine x_iald (pc' := 81) (N := 6) (x := (f 5)) rfl rfl rfl hN (io_in (p := 5) (N := 6) (by decide) (by decide)) (Eq.trans (congrArg (sA t 20 c) (nn_io (p := 5) (by decide))) (hf 5 (by decide))) ?_
  refine x_isub (pc' := 82) (z := ((mA M 6 ((3 * m) + 2)) - (f 5))) rfl rfl rfl ?_
  refine x_ineg (pc' := 83) rfl rfl rfl ?_
  refine x_iload (pc' := 85) rfl rfl rfl ?_
  refine x_imul (pc' := 86) (z := ((-((mA M 6 ((3 * m) + 2)) - (f 5))) * (mA M 11 14))) rfl rfl rfl ?_
  refine x_max (pc' := 89) (z := (mx ((-((mA M 6 ((3 * m) + 2)) + (f 2))) * (mA M 11 14)) ((-((mA M 6 ((3 * m) + 2)) - (f 5))) * (mA M 11 14)))) rfl rfl rfl rfl ?_
  refine x_iadd (pc' := 90) (z := (((mx ((-((mA M 6 ((3 * m) + 0)) + (f 0))) * (mA M 11 12)) ((-((mA M 6 ((3 * m) + 0)) - (f 3))) * (mA M 11 12))) + (mx ((-((mA M 6 ((3 * m) + 1)) + (f 1))) * (mA M 11 13)) ((-((mA M 6 ((3 * m) + 1)) - (f 4))) * (mA M 11 13)))) + (mx ((-((mA M 6 ((3 * m) + 2)) + (f 2))) * (mA M 11 14)) ((-((mA M 6 ((3 * m) + 2)) - (f 5))) * (mA M 11 14))))) rfl rfl rfl ?_
  refine x_istore (pc' := 92) (ls' := [_, _, _, _, _, _, _, _, _]) rfl rfl rfl rfl ?_
  refine x_iinc (pc' := 95) (y := 3) (ls' := [_, _, _, _, _, _, _, _, _]) rfl rfl rfl rfl rfl ?_
  refine x_goto (pc' := 18) rfl rfl ?_
  refine x_iload (pc' := 20) rfl rfl rfl ?_
  refine x_aload_n (pc' := 21) rfl rfl rfl rfl rfl ?_
  refine x_gR (pc' := 24) (r := (some 0)) rfl rfl rfl (kR_320_0 hc.1) ?_
  refine x_alen (pc' := 25) (N := 3) rfl rfl rfl (kN_25_0 hc.1) (?_ : X _ _ _ (.inl 3 :: _) _ _)
  refine x_icmp (a' := 98) (pc' := 28) (z := true) rfl rfl rfl (by decide) (fun _ => ?_) (fun h => by cases h)
  refine x_iload_n (pc' := 99) rfl rfl rfl ?_
  refine x_iload (pc' := 101) rfl rfl rfl ?_
  refine x_max (pc' := 104) (z := (mx (mx (mx (mx (mx 0 (((mx ((-((mA M 6 ((3 * m) + 0)) + (f 0))) * (mA M 11 0)) ((-((mA M 6 ((3 * m) + 0)) - (f 3))) * (mA M 11 0))) + (mx ((-((mA M 6 ((3 * m) + 1)) + (f 1))) * (mA M 11 1)) ((-((mA M 6 ((3 * m) + 1)) - (f 4))) * (mA M 11 1)))) + (mx ((-((mA M 6 ((3 * m) + 2)) + (f 2))) * (mA M 11 2)) ((-((mA M 6 ((3 * m) + 2)) - (f 5))) * (mA M 11 2))))) (((mx ((-((mA M 6 ((3 * m) + 0)) + (f 0))) * (mA M 11 3)) ((-((mA M 6 ((3 * m) + 0)) - (f 3))) * (mA M 11 3))) + (mx ((-((mA M 6 ((3 * m) + 1)) + (f 1))) * (mA M 11 4)) ((-((mA M 6 ((3 * m) + 1)) - (f 4))) * (mA M 11 4)))) + (mx ((-((mA M 6 ((3 * m) + 2)) + (f 2))) * (mA M 11 5)) ((-((mA M 6 ((3 * m) + 2)) - (f 5))) * (mA M 11 5))))) (((mx ((-((mA M 6 ((3 * m) + 0)) + (f 0))) * (mA M 11 6)) ((-((mA M 6 ((3 * m) + 0)) - (f 3))) * (mA M 11 6))) + (mx ((-((mA M 6 ((3 * m) + 1)) + (f 1))) * (mA M 11 7)) ((-((mA M 6 ((3 * m) + 1)) - (f 4))) * (mA M 11 7)))) + (mx ((-((mA M 6 ((3 * m) + 2)) + (f 2))) * (mA M 11 8)) ((-((mA M 6 ((3 * m) + 2)) - (f 5))) * (mA M 11 8))))) (((mx ((-((mA M 6 ((3 * m) + 0)) + (f 0))) * (mA M 11 9)) ((-((mA M 6 ((3 * m) + 0)) - (f 3))) * (mA M 11 9))) + (mx ((-((mA M 6 ((3 * m) + 1)) + (f 1))) * (mA M 11 10)) ((-((mA M 6 ((3 * m) + 1)) - (f 4))) * (mA M 11 10)))) + (mx ((-((mA M 6 ((3 * m) + 2)) + (f 2))) * (mA M 11 11)) ((-((mA M 6 ((3 * m) + 2)) - (f 5))) * (mA M 11 11))))) (((mx ((-((mA M 6 ((3 * m) + 0)) + (f 0))) * (mA M 11 12)) ((-((mA M 6 ((3 * m) + 0)) - (f 3))) * (mA M 11 12))) + (mx ((-((mA M 6 ((3 * m) + 1)) + (f 1))) * (mA M 11 13)) ((-((mA M 6 ((3 * m) + 1)) - (f 4))) * (mA M 11 13)))) + (mx ((-((mA M 6 ((3 * m) + 2)) + (f 2))) * (mA M 11 14)) ((-((mA M 6 ((3 * m) + 2)) - (f 5))) * (mA M 11 14)))))) rfl rfl rfl rfl ?_
  refine x_istore_n (pc' := 105) (ls' := [_, _, _, _, _, _, _, _, _]) rfl rfl rfl rfl ?_
  refine x_iinc (pc' := 108) (y := 5) (ls' := [_, _, _, _, _, _, _, _, _]) rfl rfl rfl rfl rfl ?_
  refine x_goto (pc' := 5) rfl rfl ?_
  refine x_iload (pc' := 7) rfl rfl rfl ?_
  refine x_bipush (pc' := 9) rfl rfl ?_
  refine x_icmp (a' := 111) (pc' := 12) (z := false) rfl rfl rfl (by decide) (fun h => by cases h) (fun _ => ?_)
  refine x_iconst (pc' := 13) rfl rfl ?_
  refine x_istore (pc' := 15) (ls' := [_, _, _, _, _, _, _, _, _]) rfl rfl rfl rfl ?_
  refine x_iconst (pc' := 16) rfl rfl ?_
  refine x_istore (pc' := 18) (ls' := [_, _, _, _, _, _, _, _, _]) rfl rfl rfl rfl ?_
  refine x_iload (pc' := 20) rfl rfl rfl ?_
  refine x_aload_n (pc' := 21) rfl rfl rfl rfl rfl ?_
  refine x_gR (pc' := 24) (r := (some 0)) rfl rfl rfl (kR_320_0 hc.1) ?_
  refine x_alen (pc' := 25) (N := 3) rfl rfl rfl (kN_25_0 hc.1) (?_ : X _ _ _ (.inl 3 :: _) _ _)
  refine x_icmp (a' := 98) (pc' := 28) (z := false) rfl rfl rfl (by decide) (fun h => by cases h) (fun _ => ?_)
  refine x_iload (pc' := 30) rfl rfl rfl ?_
  refine x_iconst (pc' := 31) rfl rfl ?_
  refine x_iadd (pc' := 32) (z := 3) rfl rfl (by decide) ?_
  refine x_aload_n (pc' := 33) rfl rfl rfl rfl rfl ?_
  refine x_alen (pc' := 34) (N := 6) rfl rfl rfl hN (?_ : X _ _ _ (.inl 6 :: _) _ _)
  refine x_icmp (a' := 98) (pc' := 37) (z := false) rfl rfl rfl (by decide) (fun h => by cases h) (fun _ => ?_)
  refine x_aload_n (pc' := 38) rfl rfl rfl rfl rfl ?_
  refine x_aload_n (pc' := 39) rfl rfl rfl rfl rfl ?_
  refine x_gR (pc' := 42) (r := (some 0)) rfl rfl rfl (kR_320_0 hc.1) ?_
  refine x_iload (pc' := 44) rfl rfl rfl ?_
  refine x_aald (pc' := 45) (N := 3) (k' := 2) (r := (some 0)) rfl rfl rfl (kN_25_0 hc.1) (io_in (p := 0) (N := 3) (by decide) (by decide)) (Eq.trans (congrArg (sE t 25 0) (nn_io (p := 0) (by decide))) (kK hc.1 (by decide))) ?_
  refine x_cv (ls0 := [_, _, sJk]) (rest := []) rfl rfl rfl rfl rfl ?_
  refine x_aload_n (pc' := 1) rfl rfl rfl rfl rfl ?_
  refine x_gI (pc' := 4) (x := 0) rfl rfl rfl (kI_128_0 hc.1) ?_
  refine x_istore_n (pc' := 5) (ls' := [_, _, _]) rfl rfl rfl rfl ?_
  refine x_iload_n (pc' := 6) rfl rfl rfl ?_
  refine x_if (a' := 27) (pc' := 9) (z := false) rfl rfl rfl (by decide) (fun h => by cases h) (fun _ => ?_)
  refine x_iload_n (pc' := 10) rfl rfl rfl ?_
  refine x_aload_n (pc' := 11) rfl rfl rfl rfl rfl ?_
  refine x_gR (pc' := 14) (r := (some (m + 1))) rfl rfl rfl (kMp hc.1 hm).1 ?_
  refine x_alen (pc' := 15) (N := 3) rfl rfl rfl (kMp hc.1 hm).2.1 (?_ : X _ _ _ (.inl 3 :: _) _ _)
  refine x_icmp (a' := 27) (pc' := 18) (z := false) rfl rfl rfl (by decide) (fun h => by cases h) (fun _ => ?_)
  refine x_aload_n (pc' := 19) rfl rfl rfl rfl rfl ?_
  refine x_gR (pc' := 22) (r := (some (m + 1))) rfl rfl rfl (kMp hc.1 hm).1 ?_
  refine x_iload_n (pc' := 23) rfl rfl rfl ?_
  refine x_iald (pc' := 24) (N := 3) (x := (mA M 6 ((3 * m) + 0))) rfl rfl rfl (kMp hc.1 hm).2.1 (io_in (p := 0) (N := 3) (by decide) (by decide)) (Eq.trans (congrArg (sA t 20 (m + 1)) (nn_io (p := 0) (by decide))) (kP (m := m) (c := 0) hM hm (by decide))) ?_
  refine x_goto (pc' := 28) rfl rfl ?_
  refine x_reti rfl rfl ?_
  refine sK_i (pc' := 48) rfl ?_
  refine x_istore (pc' := 50) (ls' := [_, _, _, _, _, _, _, _, _]) rfl rfl rfl rfl ?_
  refine x_aload_n (pc' := 51) rfl rfl rfl rfl rfl ?_
  refine x_iload (pc' := 53) rfl rfl rfl ?_
  refine x_iload (pc' := 55) rfl rfl rfl ?_
  refine x_cv (ls0 := [_, _, _, sJk]) (rest := []) rfl rfl rfl rfl rfl ?_
  refine x_iload_n (pc' := 1) rfl rfl rfl ?_
  refine x_iconst (pc' := 2) rfl rfl ?_
  refine x_imul (pc' := 3) (z := 15) rfl rfl (by decide) ?_
  refine x_iload_n (pc' := 4) rfl rfl rfl ?_
  refine x_iadd (pc' := 5) (z := 15) rfl rfl (by decide) ?_
  refine x_istore_n (pc' := 6) (ls' := [_, _, _, _]) rfl rfl rfl rfl ?_
  refine x_iload_n (pc' := 7) rfl rfl rfl ?_
  refine x_if (a' := 28) (pc' := 10) (z := false) rfl rfl rfl (by decide) (fun h => by cases h) (fun _ => ?_)
  refine x_iload_n (pc' := 11) rfl rfl rfl ?_
  refine x_aload_n (pc' := 12) rfl rfl rfl rfl rfl ?_
  refine x_gR (pc' := 15) (r := (some 0)) rfl rfl rfl (kR_323_0 hc.1) ?_
  refine x_alen (pc' := 16) (N := 18) rfl rfl rfl (kN_20_0 hc.1) (?_ : X _ _ _ (.inl 18 :: _) _ _)
  refine x_icmp (a' := 28) (pc' := 19) (z := false) rfl rfl rfl (by decide) (fun h => by cases h) (fun _ => ?_)
  refine x_aload_n (pc' := 20) rfl rfl rfl rfl rfl ?_
  refine x_gR (pc' := 23) (r := (some 0)) rfl rfl rfl (kR_323_0 hc.1) ?_
  refine x_iload_n (pc' := 24) rfl rfl rfl ?_
  refine x_iald (pc' := 25) (N := 18) (x := (mA M 11 15)) rfl rfl rfl (kN_20_0 hc.1) (io_in (p := 15) (N := 18) (by decide) (by decide)) (Eq.trans (congrArg (sA t 20 0) (nn_io (p := 15) (by decide))) (kV hM (by decide))) ?_
  refine x_goto (pc' := 29) rfl rfl ?_
  refine x_reti rfl rfl ?_
  refine sK_i (pc' := 58) rfl ?_
  refine x_istore (pc' := 60) (ls' := [_, _, _, _, _, _, _, _, _]) rfl rfl rfl rfl ?_
  refine x_iload (pc' := 62) rfl rfl rfl ?_
  refine x_iload (pc' := 64) rfl rfl rfl ?_
  refine x_aload_n (pc' := 65) rfl rfl rfl rfl rfl ?_
  refine x_iload (pc' := 67) rfl rfl rfl ?_
  refine x_iald (pc' := 68) (N := 6) (x := (f 0)) rfl rfl rfl hN (io_in (p := 0) (N := 6) (by decide) (by decide)) (Eq.trans (congrArg (sA t 20 c) (nn_io (p := 0) (by decide))) (hf 0 (by decide))) ?_
  refine x_iadd (pc' := 69) (z := ((mA M 6 ((3 * m) + 0)) + (f 0))) rfl rfl rfl ?_
  refine x_ineg (pc' := 70) rfl rfl rfl ?_
  refine x_iload (pc' := 72) rfl rfl rfl ?_
  refine x_imul (pc' := 73) (z := ((-((mA M 6 ((3 * m) + 0)) + (f 0))) * (mA M 11 15))) rfl rfl rfl ?_
  refine x_iload (pc' := 75) rfl rfl rfl ?_
  refine x_aload_n (pc' := 76) rfl rfl rfl rfl rfl ?_
  refine x_iload (pc' := 78) rfl rfl rfl ?_
  refine x_iconst (pc' := 79) rfl rfl ?_
  refine x_iadd (pc' := 80) (z := 3) rfl rfl (by decide) ?_
  refine x_iald (pc' := 81) (N := 6) (x := (f 3)) rfl rfl rfl hN (io_in (p := 3) (N := 6) (by decide) (by decide)) (Eq.trans (congrArg (sA t 20 c) (nn_io (p := 3) (by decide))) (hf 3 (by decide))) ?_
  refine x_isub (pc' := 82) (z := ((mA M 6 ((3 * m) + 0)) - (f 3))) rfl rfl rfl ?_
  refine x_ineg (pc' := 83) rfl rfl rfl ?_
  refine x_iload (pc' := 85) rfl rfl rfl ?_
  refine x_imul (pc' := 86) (z := ((-((mA M 6 ((3 * m) + 0)) - (f 3))) * (mA M 11 15))) rfl rfl rfl ?_
  refine x_max (pc' := 89) (z := (mx ((-((mA M 6 ((3 * m) + 0)) + (f 0))) * (mA M 11 15)) ((-((mA M 6 ((3 * m) + 0)) - (f 3))) * (mA M 11 15)))) rfl rfl rfl rfl ?_
  refine x_iadd (pc' := 90) (z := (mx ((-((mA M 6 ((3 * m) + 0)) + (f 0))) * (mA M 11 15)) ((-((mA M 6 ((3 * m) + 0)) - (f 3))) * (mA M 11 15)))) rfl rfl (Int32.zero_add _) ?_
  refine x_istore (pc' := 92) (ls' := [_, _, _, _, _, _, _, _, _]) rfl rfl rfl rfl ?_
  refine x_iinc (pc' := 95) (y := 1) (ls' := [_, _, _, _, _, _, _, _, _]) rfl rfl rfl rfl rfl ?_
  refine x_goto (pc' := 18) rfl rfl ?_
  refine x_iload (pc' := 20) rfl rfl rfl ?_
  refine x_aload_n (pc' := 21) rfl rfl rfl rfl rfl ?_
  refine x_gR (pc' := 24) (r := (some 0)) rfl rfl rfl (kR_320_0 hc.1) ?_
  refine x_alen (pc' := 25) (N := 3) rfl rfl rfl (kN_25_0 hc.1) (?_ : X _ _ _ (.inl 3 :: _) _ _)
  refine x_icmp (a' := 98) (pc' := 28) (z := false) rfl rfl rfl (by decide) (fun h => by cases h) (fun _ => ?_)
  refine x_iload (pc' := 30) rfl rfl rfl ?_
  refine x_iconst (pc' := 31) rfl rfl ?_
  refine x_iadd (pc' := 32) (z := 4) rfl rfl (by decide) ?_
  refine x_aload_n (pc' := 33) rfl rfl rfl rfl rfl ?_
  refine x_alen (pc' := 34) (N := 6) rfl rfl rfl hN (?_ : X _ _ _ (.inl 6 :: _) _ _)
  refine x_icmp (a' := 98) (pc' := 37) (z := false) rfl rfl rfl (by decide) (fun h => by cases h) (fun _ => ?_)
  refine x_aload_n (pc' := 38) rfl rfl rfl rfl rfl ?_
  refine x_aload_n (pc' := 39) rfl rfl rfl rfl rfl ?_
  refine x_gR (pc' := 42) (r := (some 0)) rfl rfl rfl (kR_320_0 hc.1) ?_
  refine x_iload (pc' := 44) rfl rfl rfl ?_
  refine x_aald (pc' := 45) (N := 3) (k' := 2) (r := (some 1)) rfl rfl rfl (kN_25_0 hc.1) (io_in (p := 1) (N := 3) (by decide) (by decide)) (Eq.trans (congrArg (sE t 25 0) (nn_io (p := 1) (by decide))) (kK hc.1 (by decide))) ?_
  refine x_cv (ls0 := [_, _, sJk]) (rest := []) rfl rfl rfl rfl rfl ?_
  refine x_aload_n (pc' := 1) rfl rfl rfl rfl rfl ?_
  refine x_gI (pc' := 4) (x := 1) rfl rfl rfl (kI_128_1 hc.1) ?_
  refine x_istore_n (pc' := 5) (ls' := [_, _, _]) rfl rfl rfl rfl ?_
  refine x_iload_n (pc' := 6) rfl rfl rfl ?_
  refine x_if (a' := 27) (pc' := 9) (z := false) rfl rfl rfl (by decide) (fun h => by cases h) (fun _ => ?_)
  refine x_iload_n (pc' := 10) rfl rfl rfl ?_
  refine x_aload_n (pc' := 11) rfl rfl rfl rfl rfl ?_
  refine x_gR (pc' := 14) (r := (some (m + 1))) rfl rfl rfl (kMp hc.1 hm).1 ?_
  refine x_alen (pc' := 15) (N := 3) rfl rfl rfl (kMp hc.1 hm).2.1 (?_ : X _ _ _ (.inl 3 :: _) _ _)
  refine x_icmp (a' := 27) (pc' := 18) (z := false) rfl rfl rfl (by decide) (fun h => by cases h) (fun _ => ?_)
  refine x_aload_n (pc' := 19) rfl rfl rfl rfl rfl ?_
  refine x_gR (pc' := 22) (r := (some (m + 1))) rfl rfl rfl (kMp hc.1 hm).1 ?_
  refine x_iload_n (pc' := 23) rfl rfl rfl ?_
  refine x_iald (pc' := 24) (N := 3) (x := (mA M 6 ((3 * m) + 1))) rfl rfl rfl (kMp hc.1 hm).2.1 (io_in (p := 1) (N := 3) (by decide) (by decide)) (Eq.trans (congrArg (sA t 20 (m + 1)) (nn_io (p := 1) (by decide))) (kP (m := m) (c := 1) hM hm (by decide))) ?_
  refine x_goto (pc' := 28) rfl rfl ?_
  refine x_reti rfl rfl ?_
  refine sK_i (pc' := 48) rfl ?_
  refine x_istore (pc' := 50) (ls' := [_, _, _, _, _, _, _, _, _]) rfl rfl rfl rfl ?_
  refine x_aload_n (pc' := 51) rfl rfl rfl rfl rfl ?_
  refine x_iload (pc' := 53) rfl rfl rfl ?_
  refine x_iload (pc' := 55) rfl rfl rfl ?_
  refine x_cv (ls0 := [_, _, _, sJk]) (rest := []) rfl rfl rfl rfl rfl ?_
  refine x_iload_n (pc' := 1) rfl rfl rfl ?_
  refine x_iconst (pc' := 2) rfl rfl ?_
  refine x_imul (pc' := 3) (z := 15) rfl rfl (by decide) ?_
  refine x_iload_n (pc' := 4) rfl rfl rfl ?_
  refine x_iadd (pc' := 5) (z := 16) rfl rfl (by decide) ?_
  refine x_istore_n (pc' := 6) (ls' := [_, _, _, _]) rfl rfl rfl rfl ?_
  refine x_iload_n (pc' := 7) rfl rfl rfl ?_
  refine x_if (a' := 28) (pc' := 10) (z := false) rfl rfl rfl (by decide) (fun h => by cases h) (fun _ => ?_)
  refine x_iload_n (pc' := 11) rfl rfl rfl ?_
  refine x_aload_n (pc' := 12) rfl rfl rfl rfl rfl ?_
  refine x_gR (pc' := 15) (r := (some 0)) rfl rfl rfl (kR_323_0 hc.1) ?_
  refine x_alen (pc' := 16) (N := 18) rfl rfl rfl (kN_20_0 hc.1) (?_ : X _ _ _ (.inl 18 :: _) _ _)
  refine x_icmp (a' := 28) (pc' := 19) (z := false) rfl rfl rfl (by decide) (fun h => by cases h) (fun _ => ?_)
  refine x_aload_n (pc' := 20) rfl rfl rfl rfl rfl ?_
  refine x_gR (pc' := 23) (r := (some 0)) rfl rfl rfl (kR_323_0 hc.1) ?_
  refine x_iload_n (pc' := 24) rfl rfl rfl ?_
  refine x_iald (pc' := 25) (N := 18) (x := (mA M 11 16)) rfl rfl rfl (kN_20_0 hc.1) (io_in (p := 16) (N := 18) (by decide) (by decide)) (Eq.trans (congrArg (sA t 20 0) (nn_io (p := 16) (by decide))) (kV hM (by decide))) ?_
  refine x_goto (pc' := 29) rfl rfl ?_
  refine x_reti rfl rfl ?_
  refine sK_i (pc' := 58) rfl ?_
  refine x_istore (pc' := 60) (ls' := [_, _, _, _, _, _, _, _, _]) rfl rfl rfl rfl ?_
  refine x_iload (pc' := 62) rfl rfl rfl ?_
  refine x_iload (pc' := 64) rfl rfl rfl ?_
  refine x_aload_n (pc' := 65) rfl rfl rfl rfl rfl ?_
  refine x_iload (pc' := 67) rfl rfl rfl ?_
  refine x_iald (pc' := 68) (N := 6) (x := (f 1)) rfl rfl rfl hN (io_in (p := 1) (N := 6) (by decide) (by decide)) (Eq.trans (congrArg (sA t 20 c) (nn_io (p := 1) (by decide))) (hf 1 (by decide))) ?_
  refine x_iadd (pc' := 69) (z := ((mA M 6 ((3 * m) + 1)) + (f 1))) rfl rfl rfl ?_
  refine x_ineg (pc' := 70) rfl rfl rfl ?_
  refine x_iload (pc' := 72) rfl rfl rfl ?_
  refine x_imul (pc' := 73) (z := ((-((mA M 6 ((3 * m) + 1)) + (f 1))) * (mA M 11 16))) rfl rfl rfl ?_
  refine x_iload (pc' := 75) rfl rfl rfl ?_
  refine x_aload_n (pc' := 76) rfl rfl rfl rfl rfl ?_
  refine x_iload (pc' := 78) rfl rfl rfl ?_
  refine x_iconst (pc' := 79) rfl rfl ?_
  refine x_iadd (pc' := 80) (z := 4) rfl rfl (by decide) ?_
  refine x_iald (pc' := 81) (N := 6) (x := (f 4)) rfl rfl rfl hN (io_in (p := 4) (N := 6) (by decide) (by decide)) (Eq.trans (congrArg (sA t 20 c) (nn_io (p := 4) (by decide))) (hf 4 (by decide))) ?_
  refine x_isub (pc' := 82) (z := ((mA M 6 ((3 * m) + 1)) - (f 4))) rfl rfl rfl ?_
  refine x_ineg (pc' := 83) rfl rfl rfl ?_
  refine x_iload (pc' := 85) rfl rfl rfl ?_
  refine x_imul (pc' := 86) (z := ((-((mA M 6 ((3 * m) + 1)) - (f 4))) * (mA M 11 16))) rfl rfl rfl ?_
  refine x_max (pc' := 89) (z := (mx ((-((mA M 6 ((3 * m) + 1)) + (f 1))) * (mA M 11 16)) ((-((mA M 6 ((3 * m) + 1)) - (f 4))) * (mA M 11 16)))) rfl rfl rfl rfl ?_
  refine x_iadd (pc' := 90) (z := ((mx ((-((mA M 6 ((3 * m) + 0)) + (f 0))) * (mA M 11 15)) ((-((mA M 6 ((3 * m) + 0)) - (f 3))) * (mA M 11 15))) + (mx ((-((mA M 6 ((3 * m) + 1)) + (f 1))) * (mA M 11 16)) ((-((mA M 6 ((3 * m) + 1)) - (f 4))) * (mA M 11 16))))) rfl rfl rfl ?_
  refine x_istore (pc' := 92) (ls' := [_, _, _, _, _, _, _, _, _]) rfl rfl rfl rfl ?_
  refine x_iinc (pc' := 95) (y := 2) (ls' := [_, _, _, _, _, _, _, _, _]) rfl rfl rfl rfl rfl ?_
  refine x_goto (pc' := 18) rfl rfl ?_
  refine x_iload (pc' := 20) rfl rfl rfl ?_
  refine x_aload_n (pc' := 21) rfl rfl rfl rfl rfl ?_
  refine x_gR (pc' := 24) (r := (some 0)) rfl rfl rfl (kR_320_0 hc.1) ?_
  refine x_alen (pc' := 25) (N := 3) rfl rfl rfl (kN_25_0 hc.1) (?_ : X _ _ _ (.inl 3 :: _) _ _)
  refine x_icmp (a' := 98) (pc' := 28) (z := false) rfl rfl rfl (by decide) (fun h => by cases h) (fun _ => ?_)
  refine x_iload (pc' := 30) rfl rfl rfl ?_
  refine x_iconst (pc' := 31) rfl rfl ?_
  refine x_iadd (pc' := 32) (z := 5) rfl rfl (by decide) ?_
  refine x_aload_n (pc' := 33) rfl rfl rfl rfl rfl ?_
  refine x_alen (pc' := 34) (N := 6) rfl rfl rfl hN (?_ : X _ _ _ (.inl 6 :: _) _ _)
  refine x_icmp (a' := 98) (pc' := 37) (z := false) rfl rfl rfl (by decide) (fun h => by cases h) (fun _ => ?_)
  refine x_aload_n (pc' := 38) rfl rfl rfl rfl rfl ?_
  refine x_aload_n (pc' := 39) rfl rfl rfl rfl rfl ?_
  refine x_gR (pc' := 42) (r := (some 0)) rfl rfl rfl (kR_320_0 hc.1) ?_
  refine x_iload (pc' := 44) rfl rfl rfl ?_
  refine x_aald (pc' := 45) (N := 3) (k' := 2) (r := (some 2)) rfl rfl rfl (kN_25_0 hc.1) (io_in (p := 2) (N := 3) (by decide) (by decide)) (Eq.trans (congrArg (sE t 25 0) (nn_io (p := 2) (by decide))) (kK hc.1 (by decide))) ?_
  refine x_cv (ls0 := [_, _, sJk]) (rest := []) rfl rfl rfl rfl rfl ?_
  refine x_aload_n (pc' := 1) rfl rfl rfl rfl rfl ?_
  refine x_gI (pc' := 4) (x := 2) rfl rfl rfl (kI_128_2 hc.1) ?_
  refine x_istore_n (pc' := 5) (ls' := [_, _, _]) rfl rfl rfl rfl ?_
  refine x_iload_n (pc' := 6) rfl rfl rfl ?_
  refine x_if (a' := 27) (pc' := 9) (z := false) rfl rfl rfl (by decide) (fun h => by cases h) (fun _ => ?_)
  refine x_iload_n (pc' := 10) rfl rfl rfl ?_
  refine x_aload_n (pc' := 11) rfl rfl rfl rfl rfl ?_
  refine x_gR (pc' := 14) (r := (some (m + 1))) rfl rfl rfl (kMp hc.1 hm).1 ?_
  refine x_alen (pc' := 15) (N := 3) rfl rfl rfl (kMp hc.1 hm).2.1 (?_ : X _ _ _ (.inl 3 :: _) _ _)
  refine x_icmp (a' := 27) (pc' := 18) (z := false) rfl rfl rfl (by decide) (fun h => by cases h) (fun _ => ?_)
  refine x_aload_n (pc' := 19) rfl rfl rfl rfl rfl ?_
  refine x_gR (pc' := 22) (r := (some (m + 1))) rfl rfl rfl (kMp hc.1 hm).1 ?_
  refine x_iload_n (pc' := 23) rfl rfl rfl ?_
  refine x_iald (pc' := 24) (N := 3) (x := (mA M 6 ((3 * m) + 2))) rfl rfl rfl (kMp hc.1 hm).2.1 (io_in (p := 2) (N := 3) (by decide) (by decide)) (Eq.trans (congrArg (sA t 20 (m + 1)) (nn_io (p := 2) (by decide))) (kP (m := m) (c := 2) hM hm (by decide))) ?_
  refine x_goto (pc' := 28) rfl rfl ?_
  refine x_reti rfl rfl ?_
  refine sK_i (pc' := 48) rfl ?_
  refine x_istore (pc' := 50) (ls' := [_, _, _, _, _, _, _, _, _]) rfl rfl rfl rfl ?_
  refine x_aload_n (pc' := 51) rfl rfl rfl rfl rfl ?_
  refine x_iload (pc' := 53) rfl rfl rfl ?_
  refine x_iload (pc' := 55) rfl rfl rfl ?_
  refine x_cv (ls0 := [_, _, _, sJk]) (rest := []) rfl rfl rfl rfl rfl ?_
  refine x_iload_n (pc' := 1) rfl rfl rfl ?_
  refine x_iconst (pc' := 2) rfl rfl ?_
  refine x_imul (pc' := 3) (z := 15) rfl rfl (by decide) ?_
  refine x_iload_n (pc' := 4) rfl rfl rfl ?_
  refine x_iadd (pc' := 5) (z := 17) rfl rfl (by decide) ?_
  refine x_istore_n (pc' := 6) (ls' := [_, _, _, _]) rfl rfl rfl rfl ?_
  refine x_iload_n (pc' := 7) rfl rfl rfl ?_
  refine x_if (a' := 28) (pc' := 10) (z := false) rfl rfl rfl (by decide) (fun h => by cases h) (fun _ => ?_)
  refine x_iload_n (pc' := 11) rfl rfl rfl ?_
  refine x_aload_n (pc' := 12) rfl rfl rfl rfl rfl ?_
  refine x_gR (pc' := 15) (r := (some 0)) rfl rfl rfl (kR_323_0 hc.1) ?_
  refine x_alen (pc' := 16) (N := 18) rfl rfl rfl (kN_20_0 hc.1) (?_ : X _ _ _ (.inl 18 :: _) _ _)
  refine x_icmp (a' := 28) (pc' := 19) (z := false) rfl rfl rfl (by decide) (fun h => by cases h) (fun _ => ?_)
  refine x_aload_n (pc' := 20) rfl rfl rfl rfl rfl ?_
  refine x_gR (pc' := 23) (r := (some 0)) rfl rfl rfl (kR_323_0 hc.1) ?_
  refine x_iload_n (pc' := 24) rfl rfl rfl ?_
  refine x_iald (pc' := 25) (N := 18) (x := (mA M 11 17)) rfl rfl rfl (kN_20_0 hc.1) (io_in (p := 17) (N := 18) (by decide) (by decide)) (Eq.trans (congrArg (sA t 20 0) (nn_io (p := 17) (by decide))) (kV hM (by decide))) ?_
  refine x_goto (pc' := 29) rfl rfl ?_
  refine x_reti rfl rfl ?_
  refine sK_i (pc' := 58) rfl ?_
  refine x_istore (pc' := 60) (ls' := [_, _, _, _, _, _, _, _, _]) rfl rfl rfl rfl ?_
  refine x_iload (pc' := 62) rfl rfl rfl ?_
  refine x_iload (pc' := 64) rfl rfl rfl ?_
  refine x_aload_n (pc' := 65) rfl rfl rfl rfl rfl ?_
  refine x_iload (pc' := 67) rfl rfl rfl ?_
  refine x_iald (pc' := 68) (N := 6) (x := (f 2)) rfl rfl rfl hN (io_in (p := 2) (N := 6) (by decide) (by decide)) (Eq.trans (congrArg (sA t 20 c) (nn_io (p := 2) (by decide))) (hf 2 (by decide))) ?_
  refine x_iadd (pc' := 69) (z := ((mA M 6 ((3 * m) + 2)) + (f 2))) rfl rfl rfl ?_
  refine x_ineg (pc' := 70) rfl rfl rfl ?_
  refine x_iload (pc' := 72) rfl rfl rfl ?_
  refine x_imul (pc' := 73) (z := ((-((mA M 6 ((3 * m) + 2)) + (f 2))) * (mA M 11 17))) rfl rfl rfl ?_
  refine x_iload (pc' := 75) rfl rfl rfl ?_
  refine x_aload_n (pc' := 76) rfl rfl rfl rfl rfl ?_
  refine x_iload (pc' := 78) rfl rfl rfl ?_
  refine x_iconst (pc' := 79) rfl rfl ?_
  refine x_iadd (pc' := 80) (z := 5) rfl rfl (by decide) ?_
  refine x_iald (pc' := 81) (N := 6) (x := (f 5)) rfl rfl rfl hN (io_in (p := 5) (N := 6) (by decide) (by decide)) (Eq.trans (congrArg (sA t 20 c) (nn_io (p := 5) (by decide))) (hf 5 (by decide))) ?_
  refine x_isub (pc' := 82) (z := ((mA M 6 ((3 * m) + 2)) - (f 5))) rfl rfl rfl ?_
  refine x_ineg (pc' := 83) rfl rfl rfl ?_
  refine x_iload (pc' := 85) rfl rfl rfl ?_
  refine x_imul (pc' := 86) (z := ((-((mA M 6 ((3 * m) + 2)) - (f 5))) * (mA M 11 17))) rfl rfl rfl ?_
  refine x_max (pc' := 89) (z := (mx ((-((mA M 6 ((3 * m) + 2)) + (f 2))) * (mA M 11 17)) ((-((mA M 6 ((3 * m) + 2)) - (f 5))) * (mA M 11 17)))) rfl rfl rfl rfl ?_
  refine x_iadd (pc' := 90) (z := (((mx ((-((mA M 6 ((3 * m) + 0)) + (f 0))) * (mA M 11 15)) ((-((mA M 6 ((3 * m) + 0)) - (f 3))) * (mA M 11 15))) + (mx ((-((mA M 6 ((3 * m) + 1)) + (f 1))) * (mA M 11 16)) ((-((mA M 6 ((3 * m) + 1)) - (f 4))) * (mA M 11 16)))) + (mx ((-((mA M 6 ((3 * m) + 2)) + (f 2))) * (mA M 11 17)) ((-((mA M 6 ((3 * m) + 2)) - (f 5))) * (mA M 11 17))))) rfl rfl rfl ?_
  refine x_istore (pc' := 92) (ls' := [_, _, _, _, _, _, _, _, _]) rfl rfl rfl rfl ?_
  refine x_iinc (pc' := 95) (y := 3) (ls' := [_, _, _, _, _, _, _, _, _]) rfl rfl rfl rfl rfl ?_
  refine x_goto (pc' := 18) rfl rfl ?_
  refine x_iload (pc' := 20) rfl rfl rfl ?_
  refine x_aload_n (pc' := 21) rfl rfl rfl rfl rfl ?_
  refine x_gR (pc' := 24) (r := (some 0)) rfl rfl rfl (kR_320_0 hc.1) ?_
  refine x_alen (pc' := 25) (N := 3) rfl rfl rfl (kN_25_0 hc.1) (?_ : X _ _ _ (.inl 3 :: _) _ _)
  refine x_icmp (a' := 98) (pc' := 28) (z := true) rfl rfl rfl (by decide) (fun _ => ?_) (fun h => by cases h)
  refine x_iload_n (pc' := 99) rfl rfl rfl ?_
  refine x_iload (pc' := 101) rfl rfl rfl ?_
  refine x_max (pc' := 104) (z := (mx (mx (mx (mx (mx (mx 0 (((mx ((-((mA M 6 ((3 * m) + 0)) + (f 0))) * (mA M 11 0)) ((-((mA M 6 ((3 * m) + 0)) - (f 3))) * (mA M 11 0))) + (mx ((-((mA M 6 ((3 * m) + 1)) + (f 1))) * (mA M 11 1)) ((-((mA M 6 ((3 * m) + 1)) - (f 4))) * (mA M 11 1)))) + (mx ((-((mA M 6 ((3 * m) + 2)) + (f 2))) * (mA M 11 2)) ((-((mA M 6 ((3 * m) + 2)) - (f 5))) * (mA M 11 2))))) (((mx ((-((mA M 6 ((3 * m) + 0)) + (f 0))) * (mA M 11 3)) ((-((mA M 6 ((3 * m) + 0)) - (f 3))) * (mA M 11 3))) + (mx ((-((mA M 6 ((3 * m) + 1)) + (f 1))) * (mA M 11 4)) ((-((mA M 6 ((3 * m) + 1)) - (f 4))) * (mA M 11 4)))) + (mx ((-((mA M 6 ((3 * m) + 2)) + (f 2))) * (mA M 11 5)) ((-((mA M 6 ((3 * m) + 2)) - (f 5))) * (mA M 11 5))))) (((mx ((-((mA M 6 ((3 * m) + 0)) + (f 0))) * (mA M 11 6)) ((-((mA M 6 ((3 * m) + 0)) - (f 3))) * (mA M 11 6))) + (mx ((-((mA M 6 ((3 * m) + 1)) + (f 1))) * (mA M 11 7)) ((-((mA M 6 ((3 * m) + 1)) - (f 4))) * (mA M 11 7)))) + (mx ((-((mA M 6 ((3 * m) + 2)) + (f 2))) * (mA M 11 8)) ((-((mA M 6 ((3 * m) + 2)) - (f 5))) * (mA M 11 8))))) (((mx ((-((mA M 6 ((3 * m) + 0)) + (f 0))) * (mA M 11 9)) ((-((mA M 6 ((3 * m) + 0)) - (f 3))) * (mA M 11 9))) + (mx ((-((mA M 6 ((3 * m) + 1)) + (f 1))) * (mA M 11 10)) ((-((mA M 6 ((3 * m) + 1)) - (f 4))) * (mA M 11 10)))) + (mx ((-((mA M 6 ((3 * m) + 2)) + (f 2))) * (mA M 11 11)) ((-((mA M 6 ((3 * m) + 2)) - (f 5))) * (mA M 11 11))))) (((mx ((-((mA M 6 ((3 * m) + 0)) + (f 0))) * (mA M 11 12)) ((-((mA M 6 ((3 * m) + 0)) - (f 3))) * (mA M 11 12))) + (mx ((-((mA M 6 ((3 * m) + 1)) + (f 1))) * (mA M 11 13)) ((-((mA M 6 ((3 * m) + 1)) - (f 4))) * (mA M 11 13)))) + (mx ((-((mA M 6 ((3 * m) + 2)) + (f 2))) * (mA M 11 14)) ((-((mA M 6 ((3 * m) + 2)) - (f 5))) * (mA M 11 14))))) (((mx ((-((mA M 6 ((3 * m) + 0)) + (f 0))) * (mA M 11 15)) ((-((mA M 6 ((3 * m) + 0)) - (f 3))) * (mA M 11 15))) + (mx ((-((mA M 6 ((3 * m) + 1)) + (f 1))) * (mA M 11 16)) ((-((mA M 6 ((3 * m) + 1)) - (f 4))) * (mA M 11 16)))) + (mx ((-((mA M 6 ((3 * m) + 2)) + (f 2))) * (mA M 11 17)) ((-((mA M 6 ((3 * m) + 2)) - (f 5))) * (mA M 11 17)))))) rfl rfl rfl rfl ?_
  refine x_istore_n (pc' := 105) (ls' := [_, _, _, _, _, _, _, _, _]) rfl rfl rfl rfl ?_
  refine x_iinc (pc' := 108) (y := 6) (ls' := [_, _, _, _, _, _, _, _, _]) rfl rfl rfl rfl rfl ?_
  refine x_goto (pc' := 5) rfl rfl ?_
  refine x_iload (pc' := 7) rfl rfl rfl ?_
  refine x_bipush (pc' := 9) rfl rfl ?_
  refine x_icmp (a' := 111) (pc' := 12) (z := true) rfl rfl rfl (by decide) (fun _ => ?_) (fun h => by cases h)
  refine x_iload_n (pc' := 112) rfl rfl rfl ?_
  refine x_reti rfl rfl ?_
  exact q
/-- a store beside which an array of six is being filled -/
def oR (t u : sT) (c : Nat) (f : Nat → Int32) : Prop := (sC t 20 = c ∧ 7 ≤ c) ∧ Cn u ∧ sI u = sI t ∧ sZ u = sZ t ∧ sR u = sR t ∧ (∀ k o p, ¬ (k = 20 ∧ o = c) → sA u k o p = sA t k o p) ∧ (∀ p, p < 6 → sA u 20 c p = f p) ∧ sB u = sB t ∧ sE u = sE t ∧ sL u = sL t ∧ sN u 20 c = 6 ∧ (∀ k o, ¬ (k = 20 ∧ o = c) → sN u k o = sN t k o) ∧ (∀ k, ¬ k = 20 → sC u k = sC t k) ∧ sn u = sn t + 1 ∧ sw u = sw t + 6
/-- a size more that is open, on one side of a contract; of a book -/
def osF (f : Nat → Int32) (d : Nat) (s : Bool) (a : Int32) : Nat → Int32 := fun p => if p = (bif s then d else d + 3) then f p + a else f p
def oaF (f : Nat → Int32) (b : Nat) (s : Bool) (a : Int32) : Nat → Int32 := match snd b with
  | none => osF f (fst b) s a
  | some d => osF (osF f (fst b) s a) d (!s) a
def opn (M : sM) (m : Nat) (r : Option Nat) (k : Nat) : Bool := decide (oM M k = m) && ((decide (mA M 19 k = 0) || decide (mA M 19 k = 1)) && !(mB M 4 k && decide (some (oB M k) = r)))
def opL (M : sM) (m : Nat) (r : Option Nat) : Nat → Nat → Int32
  | 0 => fun _ => 0
  | k + 1 => bif opn M m r k then oaF (opL M m r k) (oB M k) (mB M 3 k) (mA M 15 k) else opL M m r k
section S94
variable {t t' t0 u : sT} {M M' M0 N : sM} {n T A B b c m o k x y K w v j F e : Nat} {p a h d sz : Int32} {s z : Bool} {L L' l : List Nat} {r r0 : Option Nat} {f g : Nat → Int32} {y0 y1 y2 : sV} {Q : sRs → sT → Prop}
theorem oR_W (h : oR t u c f) (hW : Wc t M n T L A B) : Wc u M n T L (A + 1) (B + 6) := by
  obtain ⟨⟨h0, h7⟩, h1, h2, h3, h4, h5, h6, h8, h9, h10, h11, h12, h13, h14, h15⟩ := h
  exact W_gen hW h1 (fun F o _ => by rw [h2]) h3 h4 (fun o p ho => h5 _ _ _ (by omega)) (funext fun o => h12 _ _ (fun z => by cases z.1)) h13 h9 (by omega) (by omega)
theorem oR_ep (h : oR t u c f) : ep u = ep t := by
  obtain ⟨⟨h0, h7⟩, h1, h2, h3, h4, h5, h6, h8, h9, h10, h11, h12, h13, h14, h15⟩ := h
  refine Prod.ext (funext fun k => funext fun o => funext fun q => ?_) (Prod.ext h8 (Prod.ext h10 (Prod.ext (by show (fun F o => bif sMr F then sI u F o else 0) = _; rw [h2]; rfl) (funext fun o => h12 _ _ (fun z => by cases z.1)))))
  show (bif Nat.beq k 20 then 0 else sA u k o q) = bif Nat.beq k 20 then 0 else sA t k o q
  cases e : Nat.beq k 20 with
  | true => rfl
  | false => exact h5 _ _ _ (fun z => Nat.ne_of_beq_eq_false e z.1)
theorem oR_0 (hz : Zr t) (hW : Wc t M n T L A B) : oR t (sNwA t 20 6) (sC t 20) (fun _ => 0) := by
  have h7 : 7 ≤ sC t 20 := kC_20 hW.2.1.1
  refine ⟨⟨rfl, h7⟩, Cn.nwa hW.2.1.1, rfl, rfl, rfl, fun _ _ _ _ => rfl, fun p _ => (hz _ (Nat.le_refl _)).2 p, rfl, rfl, rfl, sN_new rfl, fun k o hk => if_neg hk, fun k hk => if_neg hk, rfl, rfl⟩
theorem oR_w {q : Nat} {v : Int32} (hg : ∀ p, p < 6 → g p = if p = q then v else f p) (h : oR t u c f) : oR t (sAw u 20 c q v) c g := by
  obtain ⟨h0, h1, h2, h3, h4, h5, h6, h8, h9, h10, h11, h12, h13, h14, h15⟩ := h
  refine ⟨h0, Cn.A rfl h1, h2, h3, h4, fun k o p hk => (if_neg (fun z => hk ⟨z.1, z.2.1⟩)).trans (h5 k o p hk), fun p hp => ?_, h8, h9, h10, h11, h12, h13, h14, h15⟩
  rw [hg p hp]
  show (if 20 = 20 ∧ c = c ∧ p = q then v else sA u 20 c p) = _
  by_cases e : p = q
  · rw [if_pos ⟨rfl, rfl, e⟩, if_pos e]
  · rw [if_neg (fun z => e z.2.2), if_neg e]; exact h6 p hp
theorem w41 {d : Nat} (h : oR t u c f) (hW : Wc t M n T L A B) (hd : d < 3) (q : ∀ u', oR t u' c (osF f d s a) → Q (.inl none) u') :
    X 41 0 [.inr (.inr (20, (some c))), .inr (.inr (2, (some d))), .inl (bz s), .inl a, sJk] [] u Q := by
  have h6 := h.2.2.2.2.2.2.1
  have hN := h.2.2.2.2.2.2.2.2.2.2.1
  refine n41 (oR_W h hW) hN hd (fun e => ?_) (fun e => ?_)
  · subst e
    refine q _ (oR_w (fun p hp => ?_) h)
    show (if p = d + 3 then f p + a else f p) = _
    by_cases e : p = d + 3
    · rw [if_pos e, if_pos e, e, h6 _ (by omega)]
    · rw [if_neg e, if_neg e]
  · subst e
    refine q _ (oR_w (fun p hp => ?_) h)
    show (if p = d then f p + a else f p) = _
    by_cases e : p = d
    · rw [if_pos e, if_pos e, e, h6 _ (by omega)]
    · rw [if_neg e, if_neg e]
theorem w40 (h : oR t u c f) (hW : Wc t M n T L A B) (hb : b < 5) (q : ∀ u', oR t u' c (oaF f b s a) → Q (.inl none) u') :
    X 40 0 [.inr (.inr (20, (some c))), .inr (.inr (1, (some b))), .inl (bz s), .inl a] [] u Q := by
  unfold oaF at q
  refine n40_0 (oR_W h hW) h.2.2.2.2.2.2.2.2.2.2.1 hb ?_
  refine w41 h hW (fst3 hb) (fun u1 h1 => ?_)
  refine sK_v (pc' := 10) rfl ?_
  refine n40_10 (oR_W h1 hW) h1.2.2.2.2.2.2.2.2.2.2.1 hb (fun e => ?_) (fun j e e2 => ?_) (fun j e e2 => ?_)
  · rw [e] at q; exact q u1 h1
  · rw [e] at q
    subst e2
    refine w41 (s := false) h1 hW (snd3 hb e) (fun u2 h2 => ?_)
    refine sK_v (pc' := 35) rfl ?_
    exact n40_35 (s := true) (oR_W h2 hW) h2.2.2.2.2.2.2.2.2.2.2.1 hb (q u2 h2)
  · rw [e] at q
    subst e2
    refine w41 (s := true) h1 hW (snd3 hb e) (fun u2 h2 => ?_)
    refine sK_v (pc' := 35) rfl ?_
    exact n40_35 (s := false) (oR_W h2 hW) h2.2.2.2.2.2.2.2.2.2.2.1 hb (q u2 h2)
theorem w39_run (hW : Wc t M n T L A B) : ∀ (d k : Nat) (u : sT) (y0 y1 : sV), k + d = n → oR t u c (opL M m r k) →
    (∀ u', oR t u' c (opL M m r n) → Q (.inl (some (.inr (.inr (20, (some c)))))) u') →
    X 39 8 [.inr (.inr (4, (some 0))), .inr (.inr (7, (some m))), .inr (.inr (1, r)), .inr (.inr (20, (some c))), .inl (io k), y0, y1] [] u Q := by
  intro d
  induction d with
  | zero =>
    intro k u y0 y1 hk h q
    rw [Nat.add_zero] at hk
    subst hk
    exact n39_e (oR_W h hW) h.2.2.2.2.2.2.2.2.2.2.1 (q u h)
  | succ d ih =>
    intro k u y0 y1 hk h q
    have hkn : k < n := by omega
    have no : opn M m r k = false → oR t u c (opL M m r (k + 1)) := fun e => by
      show oR t u c (bif opn M m r k then oaF (opL M m r k) (oB M k) (mB M 3 k) (mA M 15 k) else opL M m r k)
      rw [e]; exact h
    have go : ∀ y1, opn M m r k = true → X 40 0 [.inr (.inr (20, (some c))), .inr (.inr (1, (some (oB M k)))), .inl (bz (mB M 3 k)), .inl (mA M 15 k)] [] u (sK 40 39 96 [.inr (.inr (4, (some 0))), .inr (.inr (7, (some m))), .inr (.inr (1, r)), .inr (.inr (20, (some c))), .inl (io k), .inr (.inr (8, (some k))), y1] [] Q) := fun y1 e => by
      refine w40 h hW (W_oB hW hkn) (fun u1 h1 => ?_)
      refine sK_v (pc' := 99) rfl ?_
      refine n39_99 (oR_W h1 hW) ?_
      refine ih (k + 1) u1 _ _ (by omega) ?_ q
      show oR t u1 c (bif opn M m r k then oaF (opL M m r k) (oB M k) (mB M 3 k) (mA M 15 k) else opL M m r k)
      rw [e]; exact h1
    refine n39_8 (oR_W h hW) h.2.2.2.2.2.2.2.2.2.2.1 hkn ?_ ?_ ?_ ?_ ?_ ?_ ?_ ?_ ?_ ?_ ?_ ?_
    all_goals intros
    all_goals first
      | (refine go _ ?_; unfold opn; simp [*]; done)
      | (refine ih (k + 1) u _ _ (by omega) (no ?_) q; unfold opn; simp [*]; done)
/-- the class: what is open of a member -/
theorem w39 (hz : Zr t) (hW : Wc t M n T L A B) (q : ∀ u, oR t u (sC t 20) (opL M m r n) → Q (.inl (some (.inr (.inr (20, (some (sC t 20))))))) u) :
    X 39 0 [.inr (.inr (4, (some 0))), .inr (.inr (7, (some m))), .inr (.inr (1, r)), sJk, sJk, sJk, sJk] [] t Q := by
  refine n39_0 hW rfl ?_
  exact w39_run hW n 0 _ _ _ (by omega) (oR_0 hz hW) q
/-- the class: the need as things are -/
theorem w137 (hz : Zr t) (hW : Wc t M n T L A B) (hm : m < 6) (q : ∀ u c, oR t u c (opL M m none n) → Q (.inl (some (.inl (cndG M m (opL M m none n))))) u) :
    X 137 0 [.inr (.inr (11, (some 0))), .inr (.inr (7, (some m)))] [] t Q := by
  refine n137 hW ?_
  refine w39 hz hW (fun u h => ?_)
  refine sK_i (pc' := 14) rfl ?_
  refine n137_b (oR_W h hW) ?_
  refine n51 (oR_W h hW) hm h.2.2.2.2.2.2.2.2.2.2.1 h.2.2.2.2.2.2.1 ?_
  refine sK_i (pc' := 17) rfl ?_
  exact n137_c (oR_W h hW) (q u _ h)
end S94
