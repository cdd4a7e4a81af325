/-! further pieces (printed by ext99f.py) -/
set_option maxHeartbeats 4000000 in
set_option maxRecDepth 10000 in
theorem n89_n {t : sT} {Q : sRs → sT → Prop} {M : sM} {n : Nat} {T : Nat} {L0 : List Nat} {A : Nat} {B : Nat} {m : Nat} {p : Int32} {a : Int32} {h : Int32}
    (hW : Wc t M n T L0 A B)
    (hm : m < 6)
    (k0 : ((cfdF M n m) + p) < h → Q (.inr 2) (sThr t))
    (k1 : ¬ (((cfdF M n m) + p) < h) → Q (.inl (some (.inl a))) (sIw t 450 m a)) :
    X 89 58 [.inr (.inr (11, (some 0))), .inl (io m), .inl p, .inr (.inr (7, (some m))), .inl a] [.inl h] t Q := by
  obtain ⟨hM, hc, hR, hC, hL, hL9⟩ := hW
  refine x_aload_n (pc' := 59) rfl rfl rfl rfl rfl ?_
  refine x_gR (pc' := 62) (r := (some 0)) rfl rfl rfl (kR_704_0 hc.1) ?_
  refine x_aload_n (pc' := 63) rfl rfl rfl rfl rfl ?_
  refine x_cv (ls0 := [_, _, sJk, sJk, sJk, sJk, sJk]) (rest := [_]) rfl rfl rfl rfl rfl ?_
  refine c49 hM hc (Fr.ri (Fr.refl _) hR) hm ?_
  refine sK_i (pc' := 66) rfl ?_
  refine x_iload_n (pc' := 67) rfl rfl rfl ?_
  refine x_iadd (pc' := 68) (z := ((cfdF M n m) + p)) rfl rfl rfl ?_
  refine x_icmp (a' := 75) (pc' := 71) (z := decide (((cfdF M n m) + p) < h)) rfl rfl rfl rfl (fun q1 => ?_) (fun q1 => ?_)
  · refine x_iconst (pc' := 76) rfl rfl ?_
    refine x_cs (ls0 := [_]) (rest := []) rfl rfl rfl rfl ?_
    refine x_iload_n (pc' := 1) rfl rfl rfl ?_
    refine x_if (a' := 15) (pc' := 4) (z := false) rfl rfl rfl (by decide) (fun h => by cases h) (fun _ => ?_)
    refine x_throw rfl rfl ?_
    refine sK_n (by decide +kernel) rfl ?_
    exact k0 (of_decide_eq_true q1)
  · refine x_iconst (pc' := 72) rfl rfl ?_
    refine x_goto (pc' := 76) rfl rfl ?_
    refine x_cs (ls0 := [_]) (rest := []) rfl rfl rfl rfl ?_
    refine x_iload_n (pc' := 1) rfl rfl rfl ?_
    refine x_if (a' := 15) (pc' := 4) (z := true) rfl rfl rfl (by decide) (fun _ => ?_) (fun h => by cases h)
    refine x_ret rfl ?_
    refine sK_v (pc' := 79) rfl ?_
    refine x_aload_n (pc' := 80) rfl rfl rfl rfl rfl ?_
    refine x_iload (pc' := 82) rfl rfl rfl ?_
    refine x_pI (pc' := 85) rfl rfl rfl ?_
    refine x_iload (pc' := 87) rfl rfl rfl ?_
    refine x_reti rfl rfl ?_
    exact k1 (of_decide_eq_false q1)
set_option maxHeartbeats 4000000 in
set_option maxRecDepth 10000 in
theorem n121_n {t : sT} {Q : sRs → sT → Prop} {M : sM} {n : Nat} {T : Nat} {L0 : List Nat} {A : Nat} {B : Nat} {m : Nat} {h : Int32}
    (hW : Wc t M n T L0 A B)
    (hm : m < 6)
    (k0 : Q (.inl (some (.inl h))) t) :
    X 121 9 [.inr (.inr (11, (some 0))), .inl (io m)] [.inl h] t Q := by
  obtain ⟨hM, hc, hR, hC, hL, hL9⟩ := hW
  refine x_reti rfl rfl ?_
  exact k0
set_option maxHeartbeats 4000000 in
set_option maxRecDepth 10000 in
theorem n98_n {t : sT} {Q : sRs → sT → Prop} {M : sM} {n : Nat} {T : Nat} {L0 : List Nat} {A : Nat} {B : Nat} {o : Nat}
    (hW : Wc t M n T L0 A B)
    (ho : o < n)
    (k0 : Q (.inl (some (.inl (mA M 15 o)))) t) :
    X 98 21 [.inr (.inr (11, (some 0))), .inl (io o), .inr (.inr (8, (some o)))] [] t Q := by
  obtain ⟨hM, hc, hR, hC, hL, hL9⟩ := hW
  refine x_aload_n (pc' := 22) rfl rfl rfl rfl rfl ?_
  refine x_gI (pc' := 25) (x := (mA M 15 o)) rfl rfl rfl (kA hM rfl ho) ?_
  refine x_reti rfl rfl ?_
  exact k0
set_option maxHeartbeats 4000000 in
set_option maxRecDepth 10000 in
theorem n99_n {t : sT} {Q : sRs → sT → Prop} {M : sM} {n : Nat} {T : Nat} {L0 : List Nat} {A : Nat} {B : Nat} {o : Nat}
    (hW : Wc t M n T L0 A B)
    (ho : o < T)
    (k0 : Q (.inl (some (.inl (mA M 25 o)))) t) :
    X 99 55 [.inr (.inr (11, (some 0))), .inl (io o), .inr (.inr (9, (some o)))] [] t Q := by
  obtain ⟨hM, hc, hR, hC, hL, hL9⟩ := hW
  refine x_aload_n (pc' := 56) rfl rfl rfl rfl rfl ?_
  refine x_gI (pc' := 59) (x := (mA M 25 o)) rfl rfl rfl (kA hM rfl ho) ?_
  refine x_reti rfl rfl ?_
  exact k0
set_option maxHeartbeats 4000000 in
set_option maxRecDepth 10000 in
theorem n100_n {t : sT} {Q : sRs → sT → Prop} {M : sM} {n : Nat} {T : Nat} {L0 : List Nat} {A : Nat} {B : Nat} {m : Nat} {p : Int32} {h : Int32}
    (hW : Wc t M n T L0 A B)
    (hm : m < 6)
    (k0 : Q (.inl (some (.inl h))) t) :
    X 100 46 [.inr (.inr (11, (some 0))), .inl (io m), .inl p, .inr (.inr (7, (some m)))] [.inl h] t Q := by
  obtain ⟨hM, hc, hR, hC, hL, hL9⟩ := hW
  refine x_reti rfl rfl ?_
  exact k0
set_option maxHeartbeats 4000000 in
set_option maxRecDepth 10000 in
theorem n38_0 {t : sT} {Q : sRs → sT → Prop} {M : sM} {n : Nat} {T : Nat} {L0 : List Nat} {A : Nat} {B : Nat} {b : Nat} {s : Bool}
    (hW : Wc t M n T L0 A B)
    (hb : b < 5)
    (k0 : X 38 5 [.inr (.inr (4, (some 0))), .inr (.inr (1, (some b))), .inl (bz s), .inr (.inr (8, none)), .inl 0, sJk, sJk] [] t Q) :
    X 38 0 [.inr (.inr (4, (some 0))), .inr (.inr (1, (some b))), .inl (bz s), sJk, sJk, sJk, sJk] [] t Q := by
  obtain ⟨hM, hc, hR, hC, hL, hL9⟩ := hW
  refine x_null (pc' := 1) rfl rfl rfl ?_
  refine x_astore_n (pc' := 2) (ls' := [_, _, _, _, _, _, _]) rfl rfl rfl rfl rfl ?_
  refine x_iconst (pc' := 3) rfl rfl ?_
  refine x_istore (pc' := 5) (ls' := [_, _, _, _, _, _, _]) rfl rfl rfl rfl ?_
  exact k0
set_option maxHeartbeats 4000000 in
set_option maxRecDepth 10000 in
theorem n38_n {t : sT} {Q : sRs → sT → Prop} {M : sM} {n : Nat} {T : Nat} {L0 : List Nat} {A : Nat} {B : Nat} {b : Nat} {s : Bool} {k : Nat} {y0 : sV} {y1 : sV}
    (hW : Wc t M n T L0 A B)
    (hb : b < 5)
    (hk : k < n)
    (k0 : ¬ ((mA M 19 k) = 1) → X 38 5 [.inr (.inr (4, (some 0))), .inr (.inr (1, (some b))), .inl (bz s), .inr (.inr (8, none)), .inl (io (k + 1)), .inr (.inr (8, (some k))), .inl 0] [] t Q)
    (k1 : (mA M 19 k) = 1 → ¬ (oB M k = b) → X 38 5 [.inr (.inr (4, (some 0))), .inr (.inr (1, (some b))), .inl (bz s), .inr (.inr (8, none)), .inl (io (k + 1)), .inr (.inr (8, (some k))), .inl 0] [] t Q)
    (k2 : (mA M 19 k) = 1 → oB M k = b → (xor (mB M 3 k) s) = true → X 38 5 [.inr (.inr (4, (some 0))), .inr (.inr (1, (some b))), .inl (bz s), .inr (.inr (8, none)), .inl (io (k + 1)), .inr (.inr (8, (some k))), .inl 0] [] t Q)
    (k3 : (mA M 19 k) = 1 → oB M k = b → (xor (mB M 3 k) s) = false → X 38 5 [.inr (.inr (4, (some 0))), .inr (.inr (1, (some b))), .inl (bz s), .inr (.inr (8, (some k))), .inl (io (k + 1)), .inr (.inr (8, (some k))), .inl 1] [] t Q) :
    X 38 5 [.inr (.inr (4, (some 0))), .inr (.inr (1, (some b))), .inl (bz s), .inr (.inr (8, none)), .inl (io k), y0, y1] [] t Q := by
  obtain ⟨hM, hc, hR, hC, hL, hL9⟩ := hW
  refine x_iload (pc' := 7) rfl rfl rfl ?_
  refine x_aload_n (pc' := 8) rfl rfl rfl rfl rfl ?_
  refine x_gR (pc' := 11) (r := (some 1)) rfl rfl rfl (kR_257_0 hc.1) ?_
  refine x_cv (ls0 := [_]) (rest := [_]) rfl rfl rfl rfl rfl ?_
  refine x_aload_n (pc' := 1) rfl rfl rfl rfl rfl ?_
  refine x_gI (pc' := 4) (x := (io n)) rfl rfl rfl (Sf_n hc) ?_
  refine x_reti rfl rfl ?_
  refine sK_i (pc' := 14) rfl ?_
  refine x_icmp_n (a' := 92) (pc' := 17) (z := decide (k < n)) rfl rfl rfl (ic_gen (p := k) (q := n) (Nat.lt_trans hk (gn31 hR)) (gn31 hR)) (fun h => absurd hk (of_decide_eq_false h)) (fun _ => ?_)
  refine x_aload_n (pc' := 18) rfl rfl rfl rfl rfl ?_
  refine x_gR (pc' := 21) (r := (some 1)) rfl rfl rfl (kR_257_0 hc.1) ?_
  refine x_iload (pc' := 23) rfl rfl rfl ?_
  refine x_cv (ls0 := [_, _]) (rest := []) rfl rfl rfl rfl rfl ?_
  refine Sf_gO hc (Fr.ri (Fr.refl _) hR) hk ?_
  refine sK_i (pc' := 26) rfl ?_
  refine x_cast (pc' := 29) rfl rfl rfl ?_
  refine x_astore (pc' := 31) (ls' := [_, _, _, _, _, _, _]) rfl rfl rfl rfl rfl ?_
  refine x_aload (pc' := 33) rfl rfl rfl rfl rfl ?_
  refine x_gI (pc' := 36) (x := (mA M 19 k)) rfl rfl rfl (kA hM rfl hk) ?_
  refine x_iconst (pc' := 37) rfl rfl ?_
  refine x_icmp_n (a' := 62) (pc' := 40) (z := decide ((mA M 19 k) = 1)) rfl rfl rfl (ik_ne _ _) (fun q2 => ?_) (fun q2 => ?_)
  · refine x_iconst (pc' := 63) rfl rfl ?_
    refine x_istore (pc' := 65) (ls' := [_, _, _, _, _, _, _]) rfl rfl rfl rfl ?_
    refine x_iload (pc' := 67) rfl rfl rfl ?_
    refine x_if (a' := 86) (pc' := 70) (z := true) rfl rfl rfl (by decide) (fun _ => ?_) (fun h => by cases h)
    refine x_iinc (pc' := 89) (y := (io (k + 1))) (ls' := [_, _, _, _, _, _, _]) rfl rfl rfl (io_add k 1) rfl ?_
    refine x_goto (pc' := 5) rfl rfl ?_
    exact k0 (of_decide_eq_false q2)
  · refine x_aload (pc' := 42) rfl rfl rfl rfl rfl ?_
    refine x_gR (pc' := 45) (r := (some (oB M k))) rfl rfl rfl (Sf_514f hc (Fr.refl _) hk) ?_
    refine x_aload_n (pc' := 46) rfl rfl rfl rfl rfl ?_
    refine x_acmp_nen (a' := 62) (pc' := 49) (z := decide (oB M k = b)) rfl rfl rfl rfl dec_some (fun q4 => ?_) (fun q4 => ?_)
    · refine x_iconst (pc' := 63) rfl rfl ?_
      refine x_istore (pc' := 65) (ls' := [_, _, _, _, _, _, _]) rfl rfl rfl rfl ?_
      refine x_iload (pc' := 67) rfl rfl rfl ?_
      refine x_if (a' := 86) (pc' := 70) (z := true) rfl rfl rfl (by decide) (fun _ => ?_) (fun h => by cases h)
      refine x_iinc (pc' := 89) (y := (io (k + 1))) (ls' := [_, _, _, _, _, _, _]) rfl rfl rfl (io_add k 1) rfl ?_
      refine x_goto (pc' := 5) rfl rfl ?_
      exact k1 (of_decide_eq_true q2) (of_decide_eq_false q4)
    · refine x_aload (pc' := 51) rfl rfl rfl rfl rfl ?_
      refine x_gZ (pc' := 54) (z := (mB M 3 k)) rfl rfl rfl ((kZ hM rfl hk).trans (congrFun (Fr.f3 (Fr.refl _)) _)) ?_
      refine x_iload_n (pc' := 55) rfl rfl rfl ?_
      refine x_icmp (a' := 62) (pc' := 58) (z := (xor (mB M 3 k) s)) rfl rfl rfl (bz_neb _ _) (fun q6 => ?_) (fun q6 => ?_)
      · refine x_iconst (pc' := 63) rfl rfl ?_
        refine x_istore (pc' := 65) (ls' := [_, _, _, _, _, _, _]) rfl rfl rfl rfl ?_
        refine x_iload (pc' := 67) rfl rfl rfl ?_
        refine x_if (a' := 86) (pc' := 70) (z := true) rfl rfl rfl (by decide) (fun _ => ?_) (fun h => by cases h)
        refine x_iinc (pc' := 89) (y := (io (k + 1))) (ls' := [_, _, _, _, _, _, _]) rfl rfl rfl (io_add k 1) rfl ?_
        refine x_goto (pc' := 5) rfl rfl ?_
        exact k2 (of_decide_eq_true q2) (of_decide_eq_true q4) q6
      · refine x_iconst (pc' := 59) rfl rfl ?_
        refine x_goto (pc' := 63) rfl rfl ?_
        refine x_istore (pc' := 65) (ls' := [_, _, _, _, _, _, _]) rfl rfl rfl rfl ?_
        refine x_iload (pc' := 67) rfl rfl rfl ?_
        refine x_if (a' := 86) (pc' := 70) (z := false) rfl rfl rfl (by decide) (fun h => by cases h) (fun _ => ?_)
        refine x_aload_n (pc' := 71) rfl rfl rfl rfl rfl ?_
        refine x_ifnull (a' := 83) (pc' := 74) rfl rfl rfl rfl (fun _ => ?_) (fun i h => by cases h)
        refine x_aload (pc' := 85) rfl rfl rfl rfl rfl ?_
        refine x_astore_n (pc' := 86) (ls' := [_, _, _, _, _, _, _]) rfl rfl rfl rfl rfl ?_
        refine x_iinc (pc' := 89) (y := (io (k + 1))) (ls' := [_, _, _, _, _, _, _]) rfl rfl rfl (io_add k 1) rfl ?_
        refine x_goto (pc' := 5) rfl rfl ?_
        exact k3 (of_decide_eq_true q2) (of_decide_eq_true q4) q6
set_option maxHeartbeats 4000000 in
set_option maxRecDepth 10000 in
theorem n38_s {t : sT} {Q : sRs → sT → Prop} {M : sM} {n : Nat} {T : Nat} {L0 : List Nat} {A : Nat} {B : Nat} {b : Nat} {s : Bool} {k : Nat} {y0 : sV} {y1 : sV} {f : Nat}
    (hW : Wc t M n T L0 A B)
    (hb : b < 5)
    (hk : k < n)
    (hf : f < n)
    (k0 : ¬ ((mA M 19 k) = 1) → X 38 5 [.inr (.inr (4, (some 0))), .inr (.inr (1, (some b))), .inl (bz s), .inr (.inr (8, (some f))), .inl (io (k + 1)), .inr (.inr (8, (some k))), .inl 0] [] t Q)
    (k1 : (mA M 19 k) = 1 → ¬ (oB M k = b) → X 38 5 [.inr (.inr (4, (some 0))), .inr (.inr (1, (some b))), .inl (bz s), .inr (.inr (8, (some f))), .inl (io (k + 1)), .inr (.inr (8, (some k))), .inl 0] [] t Q)
    (k2 : (mA M 19 k) = 1 → oB M k = b → (xor (mB M 3 k) s) = true → X 38 5 [.inr (.inr (4, (some 0))), .inr (.inr (1, (some b))), .inl (bz s), .inr (.inr (8, (some f))), .inl (io (k + 1)), .inr (.inr (8, (some k))), .inl 0] [] t Q)
    (k3 : (mA M 19 k) = 1 → oB M k = b → (xor (mB M 3 k) s) = false → ¬ ((mA M 14 k) = (mA M 14 f)) → (mB M 3 k) = false → ¬ ((mA M 14 k) < (mA M 14 f)) → X 38 5 [.inr (.inr (4, (some 0))), .inr (.inr (1, (some b))), .inl (bz s), .inr (.inr (8, (some f))), .inl (io (k + 1)), .inr (.inr (8, (some k))), .inl 1] [] t Q)
    (k4 : (mA M 19 k) = 1 → oB M k = b → (xor (mB M 3 k) s) = false → ¬ ((mA M 14 k) = (mA M 14 f)) → (mB M 3 k) = false → (mA M 14 k) < (mA M 14 f) → X 38 5 [.inr (.inr (4, (some 0))), .inr (.inr (1, (some b))), .inl (bz s), .inr (.inr (8, (some k))), .inl (io (k + 1)), .inr (.inr (8, (some k))), .inl 1] [] t Q)
    (k5 : (mA M 19 k) = 1 → oB M k = b → (xor (mB M 3 k) s) = false → ¬ ((mA M 14 k) = (mA M 14 f)) → (mB M 3 k) = true → ¬ ((mA M 14 f) < (mA M 14 k)) → X 38 5 [.inr (.inr (4, (some 0))), .inr (.inr (1, (some b))), .inl (bz s), .inr (.inr (8, (some f))), .inl (io (k + 1)), .inr (.inr (8, (some k))), .inl 1] [] t Q)
    (k6 : (mA M 19 k) = 1 → oB M k = b → (xor (mB M 3 k) s) = false → ¬ ((mA M 14 k) = (mA M 14 f)) → (mB M 3 k) = true → (mA M 14 f) < (mA M 14 k) → X 38 5 [.inr (.inr (4, (some 0))), .inr (.inr (1, (some b))), .inl (bz s), .inr (.inr (8, (some k))), .inl (io (k + 1)), .inr (.inr (8, (some k))), .inl 1] [] t Q)
    (k7 : (mA M 19 k) = 1 → oB M k = b → (xor (mB M 3 k) s) = false → (mA M 14 k) = (mA M 14 f) → ¬ ((mA M 18 k) < (mA M 18 f)) → X 38 5 [.inr (.inr (4, (some 0))), .inr (.inr (1, (some b))), .inl (bz s), .inr (.inr (8, (some f))), .inl (io (k + 1)), .inr (.inr (8, (some k))), .inl 1] [] t Q)
    (k8 : (mA M 19 k) = 1 → oB M k = b → (xor (mB M 3 k) s) = false → (mA M 14 k) = (mA M 14 f) → (mA M 18 k) < (mA M 18 f) → X 38 5 [.inr (.inr (4, (some 0))), .inr (.inr (1, (some b))), .inl (bz s), .inr (.inr (8, (some k))), .inl (io (k + 1)), .inr (.inr (8, (some k))), .inl 1] [] t Q) :
    X 38 5 [.inr (.inr (4, (some 0))), .inr (.inr (1, (some b))), .inl (bz s), .inr (.inr (8, (some f))), .inl (io k), y0, y1] [] t Q := by
  obtain ⟨hM, hc, hR, hC, hL, hL9⟩ := hW
  refine x_iload (pc' := 7) rfl rfl rfl ?_
  refine x_aload_n (pc' := 8) rfl rfl rfl rfl rfl ?_
  refine x_gR (pc' := 11) (r := (some 1)) rfl rfl rfl (kR_257_0 hc.1) ?_
  refine x_cv (ls0 := [_]) (rest := [_]) rfl rfl rfl rfl rfl ?_
  refine x_aload_n (pc' := 1) rfl rfl rfl rfl rfl ?_
  refine x_gI (pc' := 4) (x := (io n)) rfl rfl rfl (Sf_n hc) ?_
  refine x_reti rfl rfl ?_
  refine sK_i (pc' := 14) rfl ?_
  refine x_icmp_n (a' := 92) (pc' := 17) (z := decide (k < n)) rfl rfl rfl (ic_gen (p := k) (q := n) (Nat.lt_trans hk (gn31 hR)) (gn31 hR)) (fun h => absurd hk (of_decide_eq_false h)) (fun _ => ?_)
  refine x_aload_n (pc' := 18) rfl rfl rfl rfl rfl ?_
  refine x_gR (pc' := 21) (r := (some 1)) rfl rfl rfl (kR_257_0 hc.1) ?_
  refine x_iload (pc' := 23) rfl rfl rfl ?_
  refine x_cv (ls0 := [_, _]) (rest := []) rfl rfl rfl rfl rfl ?_
  refine Sf_gO hc (Fr.ri (Fr.refl _) hR) hk ?_
  refine sK_i (pc' := 26) rfl ?_
  refine x_cast (pc' := 29) rfl rfl rfl ?_
  refine x_astore (pc' := 31) (ls' := [_, _, _, _, _, _, _]) rfl rfl rfl rfl rfl ?_
  refine x_aload (pc' := 33) rfl rfl rfl rfl rfl ?_
  refine x_gI (pc' := 36) (x := (mA M 19 k)) rfl rfl rfl (kA hM rfl hk) ?_
  refine x_iconst (pc' := 37) rfl rfl ?_
  refine x_icmp_n (a' := 62) (pc' := 40) (z := decide ((mA M 19 k) = 1)) rfl rfl rfl (ik_ne _ _) (fun q2 => ?_) (fun q2 => ?_)
  · refine x_iconst (pc' := 63) rfl rfl ?_
    refine x_istore (pc' := 65) (ls' := [_, _, _, _, _, _, _]) rfl rfl rfl rfl ?_
    refine x_iload (pc' := 67) rfl rfl rfl ?_
    refine x_if (a' := 86) (pc' := 70) (z := true) rfl rfl rfl (by decide) (fun _ => ?_) (fun h => by cases h)
    refine x_iinc (pc' := 89) (y := (io (k + 1))) (ls' := [_, _, _, _, _, _, _]) rfl rfl rfl (io_add k 1) rfl ?_
    refine x_goto (pc' := 5) rfl rfl ?_
    exact k0 (of_decide_eq_false q2)
  · refine x_aload (pc' := 42) rfl rfl rfl rfl rfl ?_
    refine x_gR (pc' := 45) (r := (some (oB M k))) rfl rfl rfl (Sf_514f hc (Fr.refl _) hk) ?_
    refine x_aload_n (pc' := 46) rfl rfl rfl rfl rfl ?_
    refine x_acmp_nen (a' := 62) (pc' := 49) (z := decide (oB M k = b)) rfl rfl rfl rfl dec_some (fun q4 => ?_) (fun q4 => ?_)
    · refine x_iconst (pc' := 63) rfl rfl ?_
      refine x_istore (pc' := 65) (ls' := [_, _, _, _, _, _, _]) rfl rfl rfl rfl ?_
      refine x_iload (pc' := 67) rfl rfl rfl ?_
      refine x_if (a' := 86) (pc' := 70) (z := true) rfl rfl rfl (by decide) (fun _ => ?_) (fun h => by cases h)
      refine x_iinc (pc' := 89) (y := (io (k + 1))) (ls' := [_, _, _, _, _, _, _]) rfl rfl rfl (io_add k 1) rfl ?_
      refine x_goto (pc' := 5) rfl rfl ?_
      exact k1 (of_decide_eq_true q2) (of_decide_eq_false q4)
    · refine x_aload (pc' := 51) rfl rfl rfl rfl rfl ?_
      refine x_gZ (pc' := 54) (z := (mB M 3 k)) rfl rfl rfl ((kZ hM rfl hk).trans (congrFun (Fr.f3 (Fr.refl _)) _)) ?_
      refine x_iload_n (pc' := 55) rfl rfl rfl ?_
      refine x_icmp (a' := 62) (pc' := 58) (z := (xor (mB M 3 k) s)) rfl rfl rfl (bz_neb _ _) (fun q6 => ?_) (fun q6 => ?_)
      · refine x_iconst (pc' := 63) rfl rfl ?_
        refine x_istore (pc' := 65) (ls' := [_, _, _, _, _, _, _]) rfl rfl rfl rfl ?_
        refine x_iload (pc' := 67) rfl rfl rfl ?_
        refine x_if (a' := 86) (pc' := 70) (z := true) rfl rfl rfl (by decide) (fun _ => ?_) (fun h => by cases h)
        refine x_iinc (pc' := 89) (y := (io (k + 1))) (ls' := [_, _, _, _, _, _, _]) rfl rfl rfl (io_add k 1) rfl ?_
        refine x_goto (pc' := 5) rfl rfl ?_
        exact k2 (of_decide_eq_true q2) (of_decide_eq_true q4) q6
      · refine x_iconst (pc' := 59) rfl rfl ?_
        refine x_goto (pc' := 63) rfl rfl ?_
        refine x_istore (pc' := 65) (ls' := [_, _, _, _, _, _, _]) rfl rfl rfl rfl ?_
        refine x_iload (pc' := 67) rfl rfl rfl ?_
        refine x_if (a' := 86) (pc' := 70) (z := false) rfl rfl rfl (by decide) (fun h => by cases h) (fun _ => ?_)
        refine x_aload_n (pc' := 71) rfl rfl rfl rfl rfl ?_
        refine x_ifnull (a' := 83) (pc' := 74) rfl rfl rfl rfl (fun h => by cases h) (fun _ _ => ?_)
        refine x_aload (pc' := 76) rfl rfl rfl rfl rfl ?_
        refine x_aload_n (pc' := 77) rfl rfl rfl rfl rfl ?_
        refine x_cv (ls0 := [_, _]) (rest := []) rfl rfl rfl rfl rfl ?_
        refine x_aload_n (pc' := 1) rfl rfl rfl rfl rfl ?_
        refine x_gI (pc' := 4) (x := (mA M 14 k)) rfl rfl rfl ((kA hM rfl hk).trans (congrFun (Fr.f14 (Fr.refl _)) _)) ?_
        refine x_aload_n (pc' := 5) rfl rfl rfl rfl rfl ?_
        refine x_gI (pc' := 8) (x := (mA M 14 f)) rfl rfl rfl ((kA hM rfl hf).trans (congrFun (Fr.f14 (Fr.refl _)) _)) ?_
        refine x_icmp_n (a' := 28) (pc' := 11) (z := decide ((mA M 14 k) = (mA M 14 f))) rfl rfl rfl (ik_ne _ _) (fun q10 => ?_) (fun q10 => ?_)
        · refine x_aload_n (pc' := 29) rfl rfl rfl rfl rfl ?_
          refine x_gZ (pc' := 32) (z := (mB M 3 k)) rfl rfl rfl ((kZ hM rfl hk).trans (congrFun (Fr.f3 (Fr.refl _)) _)) ?_
          refine x_ifeq_z (a' := 54) (pc' := 35) (z := (mB M 3 k)) rfl rfl rfl (fun q11 => ?_) (fun q11 => ?_)
          · refine x_aload_n (pc' := 55) rfl rfl rfl rfl rfl ?_
            refine x_gI (pc' := 58) (x := (mA M 14 k)) rfl rfl rfl ((kA hM rfl hk).trans (congrFun (Fr.f14 (Fr.refl _)) _)) ?_
            refine x_aload_n (pc' := 59) rfl rfl rfl rfl rfl ?_
            refine x_gI (pc' := 62) (x := (mA M 14 f)) rfl rfl rfl ((kA hM rfl hf).trans (congrFun (Fr.f14 (Fr.refl _)) _)) ?_
            refine x_icmp_n (a' := 69) (pc' := 65) (z := decide ((mA M 14 k) < (mA M 14 f))) rfl rfl rfl (ik_ge _ _) (fun q12 => ?_) (fun q12 => ?_)
            · refine x_iconst (pc' := 70) rfl rfl ?_
              refine x_retz (z := false) rfl rfl ?_
              refine sK_i (pc' := 80) rfl ?_
              refine x_if (a' := 86) (pc' := 83) (z := true) rfl rfl rfl (by decide) (fun _ => ?_) (fun h => by cases h)
              refine x_iinc (pc' := 89) (y := (io (k + 1))) (ls' := [_, _, _, _, _, _, _]) rfl rfl rfl (io_add k 1) rfl ?_
              refine x_goto (pc' := 5) rfl rfl ?_
              exact k3 (of_decide_eq_true q2) (of_decide_eq_true q4) q6 (of_decide_eq_false q10) q11 (of_decide_eq_false q12)
            · refine x_iconst (pc' := 66) rfl rfl ?_
              refine x_goto (pc' := 70) rfl rfl ?_
              refine x_retz (z := true) rfl rfl ?_
              refine sK_i (pc' := 80) rfl ?_
              refine x_if (a' := 86) (pc' := 83) (z := false) rfl rfl rfl (by decide) (fun h => by cases h) (fun _ => ?_)
              refine x_aload (pc' := 85) rfl rfl rfl rfl rfl ?_
              refine x_astore_n (pc' := 86) (ls' := [_, _, _, _, _, _, _]) rfl rfl rfl rfl rfl ?_
              refine x_iinc (pc' := 89) (y := (io (k + 1))) (ls' := [_, _, _, _, _, _, _]) rfl rfl rfl (io_add k 1) rfl ?_
              refine x_goto (pc' := 5) rfl rfl ?_
              exact k4 (of_decide_eq_true q2) (of_decide_eq_true q4) q6 (of_decide_eq_false q10) q11 (of_decide_eq_true q12)
          · refine x_aload_n (pc' := 36) rfl rfl rfl rfl rfl ?_
            refine x_gI (pc' := 39) (x := (mA M 14 k)) rfl rfl rfl ((kA hM rfl hk).trans (congrFun (Fr.f14 (Fr.refl _)) _)) ?_
            refine x_aload_n (pc' := 40) rfl rfl rfl rfl rfl ?_
            refine x_gI (pc' := 43) (x := (mA M 14 f)) rfl rfl rfl ((kA hM rfl hf).trans (congrFun (Fr.f14 (Fr.refl _)) _)) ?_
            refine x_icmp_n (a' := 50) (pc' := 46) (z := decide ((mA M 14 f) < (mA M 14 k))) rfl rfl rfl (ik_le _ _) (fun q15 => ?_) (fun q15 => ?_)
            · refine x_iconst (pc' := 51) rfl rfl ?_
              refine x_goto (pc' := 70) rfl rfl ?_
              refine x_retz (z := false) rfl rfl ?_
              refine sK_i (pc' := 80) rfl ?_
              refine x_if (a' := 86) (pc' := 83) (z := true) rfl rfl rfl (by decide) (fun _ => ?_) (fun h => by cases h)
              refine x_iinc (pc' := 89) (y := (io (k + 1))) (ls' := [_, _, _, _, _, _, _]) rfl rfl rfl (io_add k 1) rfl ?_
              refine x_goto (pc' := 5) rfl rfl ?_
              exact k5 (of_decide_eq_true q2) (of_decide_eq_true q4) q6 (of_decide_eq_false q10) q11 (of_decide_eq_false q15)
            · refine x_iconst (pc' := 47) rfl rfl ?_
              refine x_goto (pc' := 70) rfl rfl ?_
              refine x_retz (z := true) rfl rfl ?_
              refine sK_i (pc' := 80) rfl ?_
              refine x_if (a' := 86) (pc' := 83) (z := false) rfl rfl rfl (by decide) (fun h => by cases h) (fun _ => ?_)
              refine x_aload (pc' := 85) rfl rfl rfl rfl rfl ?_
              refine x_astore_n (pc' := 86) (ls' := [_, _, _, _, _, _, _]) rfl rfl rfl rfl rfl ?_
              refine x_iinc (pc' := 89) (y := (io (k + 1))) (ls' := [_, _, _, _, _, _, _]) rfl rfl rfl (io_add k 1) rfl ?_
              refine x_goto (pc' := 5) rfl rfl ?_
              exact k6 (of_decide_eq_true q2) (of_decide_eq_true q4) q6 (of_decide_eq_false q10) q11 (of_decide_eq_true q15)
        · refine x_aload_n (pc' := 12) rfl rfl rfl rfl rfl ?_
          refine x_gI (pc' := 15) (x := (mA M 18 k)) rfl rfl rfl (kA hM rfl hk) ?_
          refine x_aload_n (pc' := 16) rfl rfl rfl rfl rfl ?_
          refine x_gI (pc' := 19) (x := (mA M 18 f)) rfl rfl rfl (kA hM rfl hf) ?_
          refine x_icmp_n (a' := 26) (pc' := 22) (z := decide ((mA M 18 k) < (mA M 18 f))) rfl rfl rfl (ik_ge _ _) (fun q18 => ?_) (fun q18 => ?_)
          · refine x_iconst (pc' := 27) rfl rfl ?_
            refine x_retz (z := false) rfl rfl ?_
            refine sK_i (pc' := 80) rfl ?_
            refine x_if (a' := 86) (pc' := 83) (z := true) rfl rfl rfl (by decide) (fun _ => ?_) (fun h => by cases h)
            refine x_iinc (pc' := 89) (y := (io (k + 1))) (ls' := [_, _, _, _, _, _, _]) rfl rfl rfl (io_add k 1) rfl ?_
            refine x_goto (pc' := 5) rfl rfl ?_
            exact k7 (of_decide_eq_true q2) (of_decide_eq_true q4) q6 (of_decide_eq_true q10) (of_decide_eq_false q18)
          · refine x_iconst (pc' := 23) rfl rfl ?_
            refine x_goto (pc' := 27) rfl rfl ?_
            refine x_retz (z := true) rfl rfl ?_
            refine sK_i (pc' := 80) rfl ?_
            refine x_if (a' := 86) (pc' := 83) (z := false) rfl rfl rfl (by decide) (fun h => by cases h) (fun _ => ?_)
            refine x_aload (pc' := 85) rfl rfl rfl rfl rfl ?_
            refine x_astore_n (pc' := 86) (ls' := [_, _, _, _, _, _, _]) rfl rfl rfl rfl rfl ?_
            refine x_iinc (pc' := 89) (y := (io (k + 1))) (ls' := [_, _, _, _, _, _, _]) rfl rfl rfl (io_add k 1) rfl ?_
            refine x_goto (pc' := 5) rfl rfl ?_
            exact k8 (of_decide_eq_true q2) (of_decide_eq_true q4) q6 (of_decide_eq_true q10) (of_decide_eq_true q18)
set_option maxHeartbeats 4000000 in
set_option maxRecDepth 10000 in
theorem n38_en {t : sT} {Q : sRs → sT → Prop} {M : sM} {n : Nat} {T : Nat} {L0 : List Nat} {A : Nat} {B : Nat} {b : Nat} {s : Bool} {f : Option Nat} {y0 : sV} {y1 : sV}
    (hW : Wc t M n T L0 A B)
    (hb : b < 5)
    (k0 : Q (.inl (some (.inr (.inr (8, f))))) t) :
    X 38 5 [.inr (.inr (4, (some 0))), .inr (.inr (1, (some b))), .inl (bz s), .inr (.inr (8, f)), .inl (io n), y0, y1] [] t Q := by
  obtain ⟨hM, hc, hR, hC, hL, hL9⟩ := hW
  refine x_iload (pc' := 7) rfl rfl rfl ?_
  refine x_aload_n (pc' := 8) rfl rfl rfl rfl rfl ?_
  refine x_gR (pc' := 11) (r := (some 1)) rfl rfl rfl (kR_257_0 hc.1) ?_
  refine x_cv (ls0 := [_]) (rest := [_]) rfl rfl rfl rfl rfl ?_
  refine x_aload_n (pc' := 1) rfl rfl rfl rfl rfl ?_
  refine x_gI (pc' := 4) (x := (io n)) rfl rfl rfl (Sf_n hc) ?_
  refine x_reti rfl rfl ?_
  refine sK_i (pc' := 14) rfl ?_
  refine x_icmp_n (a' := 92) (pc' := 17) (z := decide (n < n)) rfl rfl rfl (ic_gen (p := n) (q := n) (gn31 hR) (gn31 hR)) (fun _ => ?_) (fun h => absurd (of_decide_eq_true h) (by first | decide | omega | simp))
  refine x_aload_n (pc' := 93) rfl rfl rfl rfl rfl ?_
  refine x_reta rfl rfl ?_
  exact k0
set_option maxHeartbeats 4000000 in
set_option maxRecDepth 10000 in
theorem n108_n {t : sT} {Q : sRs → sT → Prop} {M : sM} {n : Nat} {T : Nat} {L0 : List Nat} {A : Nat} {B : Nat} {b : Nat} {s : Bool} {f : Option Nat}
    (hW : Wc t M n T L0 A B)
    (hb : b < 5)
    (hf : ∀ j, f = some j → j < n)
    (k0 : ∀ j0, f = some j0 → Q (.inl (some (.inl (io j0)))) t)
    (k1 : f = none → Q (.inl (some (.inl (-1)))) t) :
    X 108 13 [.inr (.inr (11, (some 0))), .inl (io b), .inl (bz s)] [.inr (.inr (8, f))] t Q := by
  obtain ⟨hM, hc, hR, hC, hL, hL9⟩ := hW
  refine x_cs (ls0 := [_]) (rest := []) rfl rfl rfl rfl ?_
  refine x_aload_n (pc' := 1) rfl rfl rfl rfl rfl ?_
  refine x_ifnonnull (a' := 8) (pc' := 4) rfl rfl rfl rfl (fun j0 q1 => ?_) (fun q1 => ?_)
  · refine x_aload_n (pc' := 9) rfl rfl rfl rfl q1 ?_
    refine x_gI (pc' := 12) (x := (io j0)) rfl rfl rfl (Sf_512 hc (hf _ q1)) ?_
    refine x_reti rfl rfl ?_
    refine sK_i (pc' := 16) rfl ?_
    refine x_reti rfl rfl ?_
    exact k0 j0 q1
  · refine x_iconst (pc' := 5) rfl rfl ?_
    refine x_goto (pc' := 12) rfl rfl ?_
    refine x_reti rfl rfl ?_
    refine sK_i (pc' := 16) rfl ?_
    refine x_reti rfl rfl ?_
    exact k1 q1
set_option maxHeartbeats 4000000 in
set_option maxRecDepth 10000 in
theorem n109_n {t : sT} {Q : sRs → sT → Prop} {M : sM} {n : Nat} {T : Nat} {L0 : List Nat} {A : Nat} {B : Nat} {b : Nat} {s : Bool} {h : Int32}
    (hW : Wc t M n T L0 A B)
    (hb : b < 5)
    (k0 : Q (.inl (some (.inl h))) t) :
    X 109 13 [.inr (.inr (11, (some 0))), .inl (io b), .inl (bz s)] [.inl h] t Q := by
  obtain ⟨hM, hc, hR, hC, hL, hL9⟩ := hW
  refine x_reti rfl rfl ?_
  exact k0
set_option maxHeartbeats 4000000 in
set_option maxRecDepth 10000 in
theorem n110_n {t : sT} {Q : sRs → sT → Prop} {M : sM} {n : Nat} {T : Nat} {L0 : List Nat} {A : Nat} {B : Nat} {b : Nat} {s : Bool} {h : Int32}
    (hW : Wc t M n T L0 A B)
    (hb : b < 5)
    (k0 : X 81 0 [.inr (.inr (10, (some 0))), .inr (.inr (1, (some b))), .inl h, .inl (bz s), sJk, sJk, sJk, sJk] [] t (sK 81 110 21 [.inr (.inr (11, (some 0))), .inl (io b), .inl (bz s), .inr (.inr (1, (some b)))] [] Q)) :
    X 110 20 [.inr (.inr (11, (some 0))), .inl (io b), .inl (bz s), .inr (.inr (1, (some b)))] [.inl h, .inr (.inr (1, (some b))), .inr (.inr (10, (some 0)))] t Q := by
  obtain ⟨hM, hc, hR, hC, hL, hL9⟩ := hW
  refine x_iload_n (pc' := 21) rfl rfl rfl ?_
  refine x_cv (ls0 := [_, _, _, _, sJk, sJk, sJk, sJk]) (rest := []) rfl rfl rfl rfl rfl ?_
  exact k0
set_option maxHeartbeats 4000000 in
set_option maxRecDepth 10000 in
theorem n110_p {t : sT} {Q : sRs → sT → Prop} {M : sM} {n : Nat} {T : Nat} {L0 : List Nat} {A : Nat} {B : Nat} {b : Nat} {s : Bool} {h : Int32}
    (hW : Wc t M n T L0 A B)
    (hb : b < 5)
    (k0 : Q (.inl (some (.inl h))) t) :
    X 110 24 [.inr (.inr (11, (some 0))), .inl (io b), .inl (bz s), .inr (.inr (1, (some b)))] [.inl h] t Q := by
  obtain ⟨hM, hc, hR, hC, hL, hL9⟩ := hW
  refine x_reti rfl rfl ?_
  exact k0
set_option maxHeartbeats 4000000 in
set_option maxRecDepth 10000 in
theorem n111_n {t : sT} {Q : sRs → sT → Prop} {M : sM} {n : Nat} {T : Nat} {L0 : List Nat} {A : Nat} {B : Nat} {b : Nat} {h : Int32}
    (hW : Wc t M n T L0 A B)
    (hb : b < 5)
    (k0 : Q (.inl (some (.inl h))) t) :
    X 111 12 [.inr (.inr (11, (some 0))), .inl (io b)] [.inl h] t Q := by
  obtain ⟨hM, hc, hR, hC, hL, hL9⟩ := hW
  refine x_reti rfl rfl ?_
  exact k0
set_option maxHeartbeats 4000000 in
set_option maxRecDepth 10000 in
theorem n117_n {t : sT} {Q : sRs → sT → Prop} {M : sM} {n : Nat} {T : Nat} {L0 : List Nat} {A : Nat} {B : Nat} {m : Nat} {c : Nat} {h : Int32}
    (hW : Wc t M n T L0 A B)
    (hm : m < 6)
    (hc3 : c < 3)
    (k0 : Q (.inl (some (.inl h))) t) :
    X 117 19 [.inr (.inr (11, (some 0))), .inl (io m), .inl (io c), .inr (.inr (7, (some m)))] [.inl h] t Q := by
  obtain ⟨hM, hc, hR, hC, hL, hL9⟩ := hW
  refine x_reti rfl rfl ?_
  exact k0
set_option maxHeartbeats 4000000 in
set_option maxRecDepth 10000 in
theorem n48_0 {t : sT} {Q : sRs → sT → Prop} {M : sM} {n : Nat} {T : Nat} {L0 : List Nat} {A : Nat} {B : Nat} {m : Nat} {c : Nat}
    (hW : Wc t M n T L0 A B)
    (hm : m < 6)
    (hc3 : c < 3)
    (k0 : X 48 5 [.inr (.inr (5, (some 0))), .inr (.inr (7, (some m))), .inr (.inr (2, (some c))), .inl 0, .inl 0, sJk] [] t Q) :
    X 48 0 [.inr (.inr (5, (some 0))), .inr (.inr (7, (some m))), .inr (.inr (2, (some c))), sJk, sJk, sJk] [] t Q := by
  obtain ⟨hM, hc, hR, hC, hL, hL9⟩ := hW
  refine x_iconst (pc' := 1) rfl rfl ?_
  refine x_istore_n (pc' := 2) (ls' := [_, _, _, _, _, _]) rfl rfl rfl rfl ?_
  refine x_iconst (pc' := 3) rfl rfl ?_
  refine x_istore (pc' := 5) (ls' := [_, _, _, _, _, _]) rfl rfl rfl rfl ?_
  exact k0
set_option maxHeartbeats 4000000 in
set_option maxRecDepth 10000 in
theorem n48_e {t : sT} {Q : sRs → sT → Prop} {M : sM} {n : Nat} {T : Nat} {L0 : List Nat} {A : Nat} {B : Nat} {m : Nat} {c : Nat} {a : Int32} {y0 : sV}
    (hW : Wc t M n T L0 A B)
    (hm : m < 6)
    (hc3 : c < 3)
    (k0 : Q (.inl (some (.inl a))) t) :
    X 48 5 [.inr (.inr (5, (some 0))), .inr (.inr (7, (some m))), .inr (.inr (2, (some c))), .inl a, .inl (io T), y0] [] t Q := by
  obtain ⟨hM, hc, hR, hC, hL, hL9⟩ := hW
  refine x_iload (pc' := 7) rfl rfl rfl ?_
  refine x_aload_n (pc' := 8) rfl rfl rfl rfl rfl ?_
  refine x_gR (pc' := 11) (r := (some 0)) rfl rfl rfl (kR_322_0 hc.1) ?_
  refine x_cv (ls0 := [_]) (rest := [_]) rfl rfl rfl rfl rfl ?_
  refine x_aload_n (pc' := 1) rfl rfl rfl rfl rfl ?_
  refine x_gI (pc' := 4) (x := (io T)) rfl rfl rfl (Sf_T hc) ?_
  refine x_reti rfl rfl ?_
  refine sK_i (pc' := 14) rfl ?_
  refine x_icmp_n (a' := 96) (pc' := 17) (z := decide (T < T)) rfl rfl rfl (ic_gen (p := T) (q := T) (gT31 hc) (gT31 hc)) (fun _ => ?_) (fun h => absurd (of_decide_eq_true h) (by first | decide | omega | simp))
  refine x_iload_n (pc' := 97) rfl rfl rfl ?_
  refine x_reti rfl rfl ?_
  exact k0
def mvF (M : sM) (c : Nat) (m : Nat) (o : Nat) (p : Int32) (a : Int32) : sM := (mAw (mAw (mAw (mAw M 6 ((3 * m) + c) ((mA M 6 ((3 * m) + c)) + a)) 6 ((3 * o) + c) ((mA (mAw M 6 ((3 * m) + c) ((mA M 6 ((3 * m) + c)) + a)) 6 ((3 * o) + c)) - a)) 5 m ((mA M 5 m) - (p * a))) 5 o ((mA (mAw (mAw (mAw M 6 ((3 * m) + c) ((mA M 6 ((3 * m) + c)) + a)) 6 ((3 * o) + c) ((mA (mAw M 6 ((3 * m) + c) ((mA M 6 ((3 * m) + c)) + a)) 6 ((3 * o) + c)) - a)) 5 m ((mA M 5 m) - (p * a))) 5 o) + (p * a)))
theorem Fr_mvF {M M0 : sM} {c : Nat} {m : Nat} {o : Nat} {p : Int32} {a : Int32} (fr : Fr M M0) : Fr (mvF M c m o p a) M0 := (Fr_A rfl (Fr_A rfl (Fr_A rfl (Fr_A rfl fr))))
def rqS (M : sM) (n : Nat) (m : Nat) (c : Nat) (k : Nat) (a : Int32) : Int32 := (a + ((bif (decide ((tB M k) = m)) then (bif (decide ((tK M k) = c)) then (bif (mB M 7 k) then 0 else (mA M 25 k)) else 0) else 0) - (bif (decide ((tS M k) = m)) then (bif (decide ((tK M k) = c)) then (bif (mB M 7 k) then 0 else (mA M 25 k)) else 0) else 0)))
def rqL (M : sM) (n : Nat) (m : Nat) (c : Nat) (a : Int32) : Nat → Int32
  | 0 => a
  | k + 1 => rqS M n m c k (rqL M n m c a k)
