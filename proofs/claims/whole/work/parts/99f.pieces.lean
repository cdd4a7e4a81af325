/-! further pieces (printed by ext99f.py) -/
set_option maxHeartbeats 4000000 in
set_option maxRecDepth 10000 in
theorem n89_n {t : sT} {Q : sRs → sT → Prop} {M : sM} {n : Nat} {T : Nat} {L0 : List Nat} {A : Nat} {B : Nat} {m : Nat} {p : Int32} {a : Int32} {h : Int32}
    (hW : Wc t M n T L0 A B)
    (hm : m < 6)
    (k0 : ((cfdF M n m) + p) < h → Q (.inr 2) (sThr t))
    (k1 : ¬ (((cfdF M n m) + p) < h) → Q (.inl (some (.inl a))) (sIw t 450 m a)) :
    X 89 58 [.inr (.inr (11, (some 0))), .inl (io m), .inl p, .inr (.inr (7, (some m))), .inl a] [.inl h] t Q := by
  obtain ⟨hM, hc, hR, hC, hL, hL9⟩ := hW
  refine x_aload_n (pc' := 59) rfl rfl rfl rfl rfl ?_
  refine x_gR (pc' := 62) (r := (some 0)) rfl rfl rfl (kR_704_0 hc.1) ?_
  refine x_aload_n (pc' := 63) rfl rfl rfl rfl rfl ?_
  refine x_cv (ls0 := [_, _, sJk, sJk, sJk, sJk, sJk]) (rest := [_]) rfl rfl rfl rfl rfl ?_
  refine c49 hM hc (Fr.ri (Fr.refl _) hR) hm ?_
  refine sK_i (pc' := 66) rfl ?_
  refine x_iload_n (pc' := 67) rfl rfl rfl ?_
  refine x_iadd (pc' := 68) (z := ((cfdF M n m) + p)) rfl rfl rfl ?_
  refine x_icmp (a' := 75) (pc' := 71) (z := decide (((cfdF M n m) + p) < h)) rfl rfl rfl rfl (fun q1 => ?_) (fun q1 => ?_)
  · refine x_iconst (pc' := 76) rfl rfl ?_
    refine x_cs (ls0 := [_]) (rest := []) rfl rfl rfl rfl ?_
    refine x_iload_n (pc' := 1) rfl rfl rfl ?_
    refine x_if (a' := 15) (pc' := 4) (z := false) rfl rfl rfl (by decide) (fun h => by cases h) (fun _ => ?_)
    refine x_throw rfl rfl ?_
    refine sK_n (by decide +kernel) rfl ?_
    exact k0 (of_decide_eq_true q1)
  · refine x_iconst (pc' := 72) rfl rfl ?_
    refine x_goto (pc' := 76) rfl rfl ?_
    refine x_cs (ls0 := [_]) (rest := []) rfl rfl rfl rfl ?_
    refine x_iload_n (pc' := 1) rfl rfl rfl ?_
    refine x_if (a' := 15) (pc' := 4) (z := true) rfl rfl rfl (by decide) (fun _ => ?_) (fun h => by cases h)
    refine x_ret rfl ?_
    refine sK_v (pc' := 79) rfl ?_
    refine x_aload_n (pc' := 80) rfl rfl rfl rfl rfl ?_
    refine x_iload (pc' := 82) rfl rfl rfl ?_
    refine x_pI (pc' := 85) rfl rfl rfl ?_
    refine x_iload (pc' := 87) rfl rfl rfl ?_
    refine x_reti rfl rfl ?_
    exact k1 (of_decide_eq_false q1)
set_option maxHeartbeats 4000000 in
set_option maxRecDepth 10000 in
theorem n121_n {t : sT} {Q : sRs → sT → Prop} {M : sM} {n : Nat} {T : Nat} {L0 : List Nat} {A : Nat} {B : Nat} {m : Nat} {h : Int32}
    (hW : Wc t M n T L0 A B)
    (hm : m < 6)
    (k0 : Q (.inl (some (.inl h))) t) :
    X 121 9 [.inr (.inr (11, (some 0))), .inl (io m)] [.inl h] t Q := by
  obtain ⟨hM, hc, hR, hC, hL, hL9⟩ := hW
  refine x_reti rfl rfl ?_
  exact k0
set_option maxHeartbeats 4000000 in
set_option maxRecDepth 10000 in
theorem n98_n {t : sT} {Q : sRs → sT → Prop} {M : sM} {n : Nat} {T : Nat} {L0 : List Nat} {A : Nat} {B : Nat} {o : Nat}
    (hW : Wc t M n T L0 A B)
    (ho : o < n)
    (k0 : Q (.inl (some (.inl (mA M 15 o)))) t) :
    X 98 21 [.inr (.inr (11, (some 0))), .inl (io o), .inr (.inr (8, (some o)))] [] t Q := by
  obtain ⟨hM, hc, hR, hC, hL, hL9⟩ := hW
  refine x_aload_n (pc' := 22) rfl rfl rfl rfl rfl ?_
  refine x_gI (pc' := 25) (x := (mA M 15 o)) rfl rfl rfl (kA hM rfl ho) ?_
  refine x_reti rfl rfl ?_
  exact k0
set_option maxHeartbeats 4000000 in
set_option maxRecDepth 10000 in
theorem n99_n {t : sT} {Q : sRs → sT → Prop} {M : sM} {n : Nat} {T : Nat} {L0 : List Nat} {A : Nat} {B : Nat} {o : Nat}
    (hW : Wc t M n T L0 A B)
    (ho : o < T)
    (k0 : Q (.inl (some (.inl (mA M 25 o)))) t) :
    X 99 55 [.inr (.inr (11, (some 0))), .inl (io o), .inr (.inr (9, (some o)))] [] t Q := by
  obtain ⟨hM, hc, hR, hC, hL, hL9⟩ := hW
  refine x_aload_n (pc' := 56) rfl rfl rfl rfl rfl ?_
  refine x_gI (pc' := 59) (x := (mA M 25 o)) rfl rfl rfl (kA hM rfl ho) ?_
  refine x_reti rfl rfl ?_
  exact k0
set_option maxHeartbeats 4000000 in
set_option maxRecDepth 10000 in
theorem n100_n {t : sT} {Q : sRs → sT → Prop} {M : sM} {n : Nat} {T : Nat} {L0 : List Nat} {A : Nat} {B : Nat} {m : Nat} {p : Int32} {h : Int32}
    (hW : Wc t M n T L0 A B)
    (hm : m < 6)
    (k0 : Q (.inl (some (.inl h))) t) :
    X 100 46 [.inr (.inr (11, (some 0))), .inl (io m), .inl p, .inr (.inr (7, (some m)))] [.inl h] t Q := by
  obtain ⟨hM, hc, hR, hC, hL, hL9⟩ := hW
  refine x_reti rfl rfl ?_
  exact k0
set_option maxHeartbeats 4000000 in
set_option maxRecDepth 10000 in
theorem n38_0 {t : sT} {Q : sRs → sT → Prop} {M : sM} {n : Nat} {T : Nat} {L0 : List Nat} {A : Nat} {B : Nat} {b : Nat} {s : Bool}
    (hW : Wc t M n T L0 A B)
    (hb : b < 5)
    (k0 : X 38 5 [.inr (.inr (4, (some 0))), .inr (.inr (1, (some b))), .inl (bz s), .inr (.inr (8, none)), .inl 0, sJk, sJk] [] t Q) :
    X 38 0 [.inr (.inr (4, (some 0))), .inr (.inr (1, (some b))), .inl (bz s), sJk, sJk, sJk, sJk] [] t Q := by
  obtain ⟨hM, hc, hR, hC, hL, hL9⟩ := hW
  refine x_null (pc' := 1) rfl rfl rfl ?_
  refine x_astore_n (pc' := 2) (ls' := [_, _, _, _, _, _, _]) rfl rfl rfl rfl rfl ?_
  refine x_iconst (pc' := 3) rfl rfl ?_
  refine x_istore (pc' := 5) (ls' := [_, _, _, _, _, _, _]) rfl rfl rfl rfl ?_
  exact k0
set_option maxHeartbeats 4000000 in
set_option maxRecDepth 10000 in
theorem n38_n {t : sT} {Q : sRs → sT → Prop} {M : sM} {n : Nat} {T : Nat} {L0 : List Nat} {A : Nat} {B : Nat} {b : Nat} {s : Bool} {k : Nat} {y0 : sV} {y1 : sV}
    (hW : Wc t M n T L0 A B)
    (hb : b < 5)
    (hk : k < n)
    (k0 : ¬ ((mA M 19 k) = 1) → X 38 5 [.inr (.inr (4, (some 0))), .inr (.inr (1, (some b))), .inl (bz s), .inr (.inr (8, none)), .inl (io (k + 1)), .inr (.inr (8, (some k))), .inl 0] [] t Q)
    (k1 : (mA M 19 k) = 1 → ¬ (oB M k = b) → X 38 5 [.inr (.inr (4, (some 0))), .inr (.inr (1, (some b))), .inl (bz s), .inr (.inr (8, none)), .inl (io (k + 1)), .inr (.inr (8, (some k))), .inl 0] [] t Q)
    (k2 : (mA M 19 k) = 1 → oB M k = b → (xor (mB M 3 k) s) = true → X 38 5 [.inr (.inr (4, (some 0))), .inr (.inr (1, (some b))), .inl (bz s), .inr (.inr (8, none)), .inl (io (k + 1)), .inr (.inr (8, (some k))), .inl 0] [] t Q)
    (k3 : (mA M 19 k) = 1 → oB M k = b → (xor (mB M 3 k) s) = false → X 38 5 [.inr (.inr (4, (some 0))), .inr (.inr (1, (some b))), .inl (bz s), .inr (.inr (8, (some k))), .inl (io (k + 1)), .inr (.inr (8, (some k))), .inl 1] [] t Q) :
    X 38 5 [.inr (.inr (4, (some 0))), .inr (.inr (1, (some b))), .inl (bz s), .inr (.inr (8, none)), .inl (io k), y0, y1] [] t Q := by
  obtain ⟨hM, hc, hR, hC, hL, hL9⟩ := hW
  refine x_iload (pc' := 7) rfl rfl rfl ?_
  refine x_aload_n (pc' := 8) rfl rfl rfl rfl rfl ?_
  refine x_gR (pc' := 11) (r := (some 1)) rfl rfl rfl (kR_257_0 hc.1) ?_
  refine x_cv (ls0 := [_]) (rest := [_]) rfl rfl rfl rfl rfl ?_
  refine x_aload_n (pc' := 1) rfl rfl rfl rfl rfl ?_
  refine x_gI (pc' := 4) (x := (io n)) rfl rfl rfl (Sf_n hc) ?_
  refine x_reti rfl rfl ?_
  refine sK_i (pc' := 14) rfl ?_
  refine x_icmp_n (a' := 92) (pc' := 17) (z := decide (k < n)) rfl rfl rfl (ic_gen (p := k) (q := n) (Nat.lt_trans hk (gn31 hR)) (gn31 hR)) (fun h => absurd hk (of_decide_eq_false h)) (fun _ => ?_)
  refine x_aload_n (pc' := 18) rfl rfl rfl rfl rfl ?_
  refine x_gR (pc' := 21) (r := (some 1)) rfl rfl rfl (kR_257_0 hc.1) ?_
  refine x_iload (pc' := 23) rfl rfl rfl ?_
  refine x_cv (ls0 := [_, _]) (rest := []) rfl rfl rfl rfl rfl ?_
  refine Sf_gO hc (Fr.ri (Fr.refl _) hR) hk ?_
  refine sK_i (pc' := 26) rfl ?_
  refine x_cast (pc' := 29) rfl rfl rfl ?_
  refine x_astore (pc' := 31) (ls' := [_, _, _, _, _, _, _]) rfl rfl rfl rfl rfl ?_
  refine x_aload (pc' := 33) rfl rfl rfl rfl rfl ?_
  refine x_gI (pc' := 36) (x := (mA M 19 k)) rfl rfl rfl (kA hM rfl hk) ?_
  refine x_iconst (pc' := 37) rfl rfl ?_
  refine x_icmp_n (a' := 62) (pc' := 40) (z := decide ((mA M 19 k) = 1)) rfl rfl rfl (ik_ne _ _) (fun q2 => ?_) (fun q2 => ?_)
  · refine x_iconst (pc' := 63) rfl rfl ?_
    refine x_istore (pc' := 65) (ls' := [_, _, _, _, _, _, _]) rfl rfl rfl rfl ?_
    refine x_iload (pc' := 67) rfl rfl rfl ?_
    refine x_if (a' := 86) (pc' := 70) (z := true) rfl rfl rfl (by decide) (fun _ => ?_) (fun h => by cases h)
    refine x_iinc (pc' := 89) (y := (io (k + 1))) (ls' := [_, _, _, _, _, _, _]) rfl rfl rfl (io_add k 1) rfl ?_
    refine x_goto (pc' := 5) rfl rfl ?_
    exact k0 (of_decide_eq_false q2)
  · refine x_aload (pc' := 42) rfl rfl rfl rfl rfl ?_
    refine x_gR (pc' := 45) (r := (some (oB M k))) rfl rfl rfl (Sf_514f hc (Fr.refl _) hk) ?_
    refine x_aload_n (pc' := 46) rfl rfl rfl rfl rfl ?_
    refine x_acmp_nen (a' := 62) (pc' := 49) (z := decide (oB M k = b)) rfl rfl rfl rfl dec_some (fun q4 => ?_) (fun q4 => ?_)
    · refine x_iconst (pc' := 63) rfl rfl ?_
      refine x_istore (pc' := 65) (ls' := [_, _, _, _, _, _, _]) rfl rfl rfl rfl ?_
      refine x_iload (pc' := 67) rfl rfl rfl ?_
      refine x_if (a' := 86) (pc' := 70) (z := true) rfl rfl rfl (by decide) (fun _ => ?_) (fun h => by cases h)
      refine x_iinc (pc' := 89) (y := (io (k + 1))) (ls' := [_, _, _, _, _, _, _]) rfl rfl rfl (io_add k 1) rfl ?_
      refine x_goto (pc' := 5) rfl rfl ?_
      exact k1 (of_decide_eq_true q2) (of_decide_eq_false q4)
    · refine x_aload (pc' := 51) rfl rfl rfl rfl rfl ?_
      refine x_gZ (pc' := 54) (z := (mB M 3 k)) rfl rfl rfl ((kZ hM rfl hk).trans (congrFun (Fr.f3 (Fr.refl _)) _)) ?_
      refine x_iload_n (pc' := 55) rfl rfl rfl ?_
      refine x_icmp (a' := 62) (pc' := 58) (z := (xor (mB M 3 k) s)) rfl rfl rfl (bz_neb _ _) (fun q6 => ?_) (fun q6 => ?_)
      · refine x_iconst (pc' := 63) rfl rfl ?_
        refine x_istore (pc' := 65) (ls' := [_, _, _, _, _, _, _]) rfl rfl rfl rfl ?_
        refine x_iload (pc' := 67) rfl rfl rfl ?_
        refine x_if (a' := 86) (pc' := 70) (z := true) rfl rfl rfl (by decide) (fun _ => ?_) (fun h => by cases h)
        refine x_iinc (pc' := 89) (y := (io (k + 1))) (ls' := [_, _, _, _, _, _, _]) rfl rfl rfl (io_add k 1) rfl ?_
        refine x_goto (pc' := 5) rfl rfl ?_
        exact k2 (of_decide_eq_true q2) (of_decide_eq_true q4) q6
      · refine x_iconst (pc' := 59) rfl rfl ?_
        refine x_goto (pc' := 63) rfl rfl ?_
        refine x_istore (pc' := 65) (ls' := [_, _, _, _, _, _, _]) rfl rfl rfl rfl ?_
        refine x_iload (pc' := 67) rfl rfl rfl ?_
        refine x_if (a' := 86) (pc' := 70) (z := false) rfl rfl rfl (by decide) (fun h => by cases h) (fun _ => ?_)
        refine x_aload_n (pc' := 71) rfl rfl rfl rfl rfl ?_
        refine x_ifnull (a' := 83) (pc' := 74) rfl rfl rfl rfl (fun _ => ?_) (fun i h => by cases h)
        refine x_aload (pc' := 85) rfl rfl rfl rfl rfl ?_
        refine x_astore_n (pc' := 86) (ls' := [_, _, _, _, _, _, _]) rfl rfl rfl rfl rfl ?_
        refine x_iinc (pc' := 89) (y := (io (k + 1))) (ls' := [_, _, _, _, _, _, _]) rfl rfl rfl (io_add k 1) rfl ?_
        refine x_goto (pc' := 5) rfl rfl ?_
        exact k3 (of_decide_eq_true q2) (of_decide_eq_true q4) q6
set_option maxHeartbeats 4000000 in
set_option maxRecDepth 10000 in
theorem n38_s {t : sT} {Q : sRs → sT → Prop} {M : sM} {n : Nat} {T : Nat} {L0 : List Nat} {A : Nat} {B : Nat} {b : Nat} {s : Bool} {k : Nat} {y0 : sV} {y1 : sV} {f : Nat}
    (hW : Wc t M n T L0 A B)
    (hb : b < 5)
    (hk : k < n)
    (hf : f < n)
    (k0 : ¬ ((mA M 19 k) = 1) → X 38 5 [.inr (.inr (4, (some 0))), .inr (.inr (1, (some b))), .inl (bz s), .inr (.inr (8, (some f))), .inl (io (k + 1)), .inr (.inr (8, (some k))), .inl 0] [] t Q)
    (k1 : (mA M 19 k) = 1 → ¬ (oB M k = b) → X 38 5 [.inr (.inr (4, (some 0))), .inr (.inr (1, (some b))), .inl (bz s), .inr (.inr (8, (some f))), .inl (io (k + 1)), .inr (.inr (8, (some k))), .inl 0] [] t Q)
    (k2 : (mA M 19 k) = 1 → oB M k = b → (xor (mB M 3 k) s) = true → X 38 5 [.inr (.inr (4, (some 0))), .inr (.inr (1, (some b))), .inl (bz s), .inr (.inr (8, (some f))), .inl (io (k + 1)), .inr (.inr (8, (some k))), .inl 0] [] t Q)
    (k3 : (mA M 19 k) = 1 → oB M k = b → (xor (mB M 3 k) s) = false → ¬ ((mA M 14 k) = (mA M 14 f)) → (mB M 3 k) = false → ¬ ((mA M 14 k) < (mA M 14 f)) → X 38 5 [.inr (.inr (4, (some 0))), .inr (.inr (1, (some b))), .inl (bz s), .inr (.inr (8, (some f))), .inl (io (k + 1)), .inr (.inr (8, (some k))), .inl 1] [] t Q)
    (k4 : (mA M 19 k) = 1 → oB M k = b → (xor (mB M 3 k) s) = false → ¬ ((mA M 14 k) = (mA M 14 f)) → (mB M 3 k) = false → (mA M 14 k) < (mA M 14 f) → X 38 5 [.inr (.inr (4, (some 0))), .inr (.inr (1, (some b))), .inl (bz s), .inr (.inr (8, (some k))), .inl (io (k + 1)), .inr (.inr (8, (some k))), .inl 1] [] t Q)
    (k5 : (mA M 19 k) = 1 → oB M k = b → (xor (mB M 3 k) s) = false → ¬ ((mA M 14 k) = (mA M 14 f)) → (mB M 3 k) = true → ¬ ((mA M 14 f) < (mA M 14 k)) → X 38 5 [.inr (.inr (4, (some 0))), .inr (.inr (1, (some b))), .inl (bz s), .inr (.inr (8, (some f))), .inl (io (k + 1)), .inr (.inr (8, (some k))), .inl 1] [] t Q)
    (k6 : (mA M 19 k) = 1 → oB M k = b → (xor (mB M 3 k) s) = false → ¬ ((mA M 14 k) = (mA M 14 f)) → (mB M 3 k) = true → (mA M 14 f) < (mA M 14 k) → X 38 5 [.inr (.inr (4, (some 0))), .inr (.inr (1, (some b))), .inl (bz s), .inr (.inr (8, (some k))), .inl (io (k + 1)), .inr (.inr (8, (some k))), .inl 1] [] t Q)
    (k7 : (mA M 19 k) = 1 → oB M k = b → (xor (mB M 3 k) s) = false → (mA M 14 k) = (mA M 14 f) → ¬ ((mA M 18 k) < (mA M 18 f)) → X 38 5 [.inr (.inr (4, (some 0))), .inr (.inr (1, (some b))), .inl (bz s), .inr (.inr (8, (some f))), .inl (io (k + 1)), .inr (.inr (8, (some k))), .inl 1] [] t Q)
    (k8 : (mA M 19 k) = 1 → oB M k = b → (xor (mB M 3 k) s) = false → (mA M 14 k) = (mA M 14 f) → (mA M 18 k) < (mA M 18 f) → X 38 5 [.inr (.inr (4, (some 0))), .inr (.inr (1, (some b))), .inl (bz s), .inr (.inr (8, (some k))), .inl (io (k + 1)), .inr (.inr (8, (some k))), .inl 1] [] t Q) :
    X 38 5 [.inr (.inr (4, (some 0))), .inr (.inr (1, (some b))), .inl (bz s), .inr (.inr (8, (some f))), .inl (io k), y0, y1] [] t Q := by
  obtain ⟨hM, hc, hR, hC, hL, hL9⟩ := hW
  refine x_iload (pc' := 7) rfl rfl rfl ?_
  refine x_aload_n (pc' := 8) rfl rfl rfl rfl rfl ?_
  refine x_gR (pc' := 11) (r := (some 1)) rfl rfl rfl (kR_257_0 hc.1) ?_
  refine x_cv (ls0 := [_]) (rest := [_]) rfl rfl rfl rfl rfl ?_
  refine x_aload_n (pc' := 1) rfl rfl rfl rfl rfl ?_
  refine x_gI (pc' := 4) (x := (io n)) rfl rfl rfl (Sf_n hc) ?_
  refine x_reti rfl rfl ?_
  refine sK_i (pc' := 14) rfl ?_
  refine x_icmp_n (a' := 92) (pc' := 17) (z := decide (k < n)) rfl rfl rfl (ic_gen (p := k) (q := n) (Nat.lt_trans hk (gn31 hR)) (gn31 hR)) (fun h => absurd hk (of_decide_eq_false h)) (fun _ => ?_)
  refine x_aload_n (pc' := 18) rfl rfl rfl rfl rfl ?_
  refine x_gR (pc' := 21) (r := (some 1)) rfl rfl rfl (kR_257_0 hc.1) ?_
  refine x_iload (pc' := 23) rfl rfl rfl ?_
  refine x_cv (ls0 := [_, _]) (rest := []) rfl rfl rfl rfl rfl ?_
  refine Sf_gO hc (Fr.ri (Fr.refl _) hR) hk ?_
  refine sK_i (pc' := 26) rfl ?_
  refine x_cast (pc' := 29) rfl rfl rfl ?_
  refine x_astore (pc' := 31) (ls' := [_, _, _, _, _, _, _]) rfl rfl rfl rfl rfl ?_
  refine x_aload (pc' := 33) rfl rfl rfl rfl rfl ?_
  refine x_gI (pc' := 36) (x := (mA M 19 k)) rfl rfl rfl (kA hM rfl hk) ?_
  refine x_iconst (pc' := 37) rfl rfl ?_
  refine x_icmp_n (a' := 62) (pc' := 40) (z := decide ((mA M 19 k) = 1)) rfl rfl rfl (ik_ne _ _) (fun q2 => ?_) (fun q2 => ?_)
  · refine x_iconst (pc' := 63) rfl rfl ?_
    refine x_istore (pc' := 65) (ls' := [_, _, _, _, _, _, _]) rfl rfl rfl rfl ?_
    refine x_iload (pc' := 67) rfl rfl rfl ?_
    refine x_if (a' := 86) (pc' := 70) (z := true) rfl rfl rfl (by decide) (fun _ => ?_) (fun h => by cases h)
    refine x_iinc (pc' := 89) (y := (io (k + 1))) (ls' := [_, _, _, _, _, _, _]) rfl rfl rfl (io_add k 1) rfl ?_
    refine x_goto (pc' := 5) rfl rfl ?_
    exact k0 (of_decide_eq_false q2)
  · refine x_aload (pc' := 42) rfl rfl rfl rfl rfl ?_
    refine x_gR (pc' := 45) (r := (some (oB M k))) rfl rfl rfl (Sf_514f hc (Fr.refl _) hk) ?_
    refine x_aload_n (pc' := 46) rfl rfl rfl rfl rfl ?_
    refine x_acmp_nen (a' := 62) (pc' := 49) (z := decide (oB M k = b)) rfl rfl rfl rfl dec_some (fun q4 => ?_) (fun q4 => ?_)
    · refine x_iconst (pc' := 63) rfl rfl ?_
      refine x_istore (pc' := 65) (ls' := [_, _, _, _, _, _, _]) rfl rfl rfl rfl ?_
      refine x_iload (pc' := 67) rfl rfl rfl ?_
      refine x_if (a' := 86) (pc' := 70) (z := true) rfl rfl rfl (by decide) (fun _ => ?_) (fun h => by cases h)
      refine x_iinc (pc' := 89) (y := (io (k + 1))) (ls' := [_, _, _, _, _, _, _]) rfl rfl rfl (io_add k 1) rfl ?_
      refine x_goto (pc' := 5) rfl rfl ?_
      exact k1 (of_decide_eq_true q2) (of_decide_eq_false q4)
    · refine x_aload (pc' := 51) rfl rfl rfl rfl rfl ?_
      refine x_gZ (pc' := 54) (z := (mB M 3 k)) rfl rfl rfl ((kZ hM rfl hk).trans (congrFun (Fr.f3 (Fr.refl _)) _)) ?_
      refine x_iload_n (pc' := 55) rfl rfl rfl ?_
      refine x_icmp (a' := 62) (pc' := 58) (z := (xor (mB M 3 k) s)) rfl rfl rfl (bz_neb _ _) (fun q6 => ?_) (fun q6 => ?_)
      · refine x_iconst (pc' := 63) rfl rfl ?_
        refine x_istore (pc' := 65) (ls' := [_, _, _, _, _, _, _]) rfl rfl rfl rfl ?_
        refine x_iload (pc' := 67) rfl rfl rfl ?_
        refine x_if (a' := 86) (pc' := 70) (z := true) rfl rfl rfl (by decide) (fun _ => ?_) (fun h => by cases h)
        refine x_iinc (pc' := 89) (y := (io (k + 1))) (ls' := [_, _, _, _, _, _, _]) rfl rfl rfl (io_add k 1) rfl ?_
        refine x_goto (pc' := 5) rfl rfl ?_
        exact k2 (of_decide_eq_true q2) (of_decide_eq_true q4) q6
      · refine x_iconst (pc' := 59) rfl rfl ?_
        refine x_goto (pc' := 63) rfl rfl ?_
        refine x_istore (pc' := 65) (ls' := [_, _, _, _, _, _, _]) rfl rfl rfl rfl ?_
        refine x_iload (pc' := 67) rfl rfl rfl ?_
        refine x_if (a' := 86) (pc' := 70) (z := false) rfl rfl rfl (by decide) (fun h => by cases h) (fun _ => ?_)
        refine x_aload_n (pc' := 71) rfl rfl rfl rfl rfl ?_
        refine x_ifnull (a' := 83) (pc' := 74) rfl rfl rfl rfl (fun h => by cases h) (fun _ _ => ?_)
        refine x_aload (pc' := 76) rfl rfl rfl rfl rfl ?_
        refine x_aload_n (pc' := 77) rfl rfl rfl rfl rfl ?_
        refine x_cv (ls0 := [_, _]) (rest := []) rfl rfl rfl rfl rfl ?_
        refine x_aload_n (pc' := 1) rfl rfl rfl rfl rfl ?_
        refine x_gI (pc' := 4) (x := (mA M 14 k)) rfl rfl rfl ((kA hM rfl hk).trans (congrFun (Fr.f14 (Fr.refl _)) _)) ?_
        refine x_aload_n (pc' := 5) rfl rfl rfl rfl rfl ?_
        refine x_gI (pc' := 8) (x := (mA M 14 f)) rfl rfl rfl ((kA hM rfl hf).trans (congrFun (Fr.f14 (Fr.refl _)) _)) ?_
        refine x_icmp_n (a' := 28) (pc' := 11) (z := decide ((mA M 14 k) = (mA M 14 f))) rfl rfl rfl (ik_ne _ _) (fun q10 => ?_) (fun q10 => ?_)
        · refine x_aload_n (pc' := 29) rfl rfl rfl rfl rfl ?_
          refine x_gZ (pc' := 32) (z := (mB M 3 k)) rfl rfl rfl ((kZ hM rfl hk).trans (congrFun (Fr.f3 (Fr.refl _)) _)) ?_
          refine x_ifeq_z (a' := 54) (pc' := 35) (z := (mB M 3 k)) rfl rfl rfl (fun q11 => ?_) (fun q11 => ?_)
          · refine x_aload_n (pc' := 55) rfl rfl rfl rfl rfl ?_
            refine x_gI (pc' := 58) (x := (mA M 14 k)) rfl rfl rfl ((kA hM rfl hk).trans (congrFun (Fr.f14 (Fr.refl _)) _)) ?_
            refine x_aload_n (pc' := 59) rfl rfl rfl rfl rfl ?_
            refine x_gI (pc' := 62) (x := (mA M 14 f)) rfl rfl rfl ((kA hM rfl hf).trans (congrFun (Fr.f14 (Fr.refl _)) _)) ?_
            refine x_icmp_n (a' := 69) (pc' := 65) (z := decide ((mA M 14 k) < (mA M 14 f))) rfl rfl rfl (ik_ge _ _) (fun q12 => ?_) (fun q12 => ?_)
            · refine x_iconst (pc' := 70) rfl rfl ?_
              refine x_retz (z := false) rfl rfl ?_
              refine sK_i (pc' := 80) rfl ?_
              refine x_if (a' := 86) (pc' := 83) (z := true) rfl rfl rfl (by decide) (fun _ => ?_) (fun h => by cases h)
              refine x_iinc (pc' := 89) (y := (io (k + 1))) (ls' := [_, _, _, _, _, _, _]) rfl rfl rfl (io_add k 1) rfl ?_
              refine x_goto (pc' := 5) rfl rfl ?_
              exact k3 (of_decide_eq_true q2) (of_decide_eq_true q4) q6 (of_decide_eq_false q10) q11 (of_decide_eq_false q12)
            · refine x_iconst (pc' := 66) rfl rfl ?_
              refine x_goto (pc' := 70) rfl rfl ?_
              refine x_retz (z := true) rfl rfl ?_
              refine sK_i (pc' := 80) rfl ?_
              refine x_if (a' := 86) (pc' := 83) (z := false) rfl rfl rfl (by decide) (fun h => by cases h) (fun _ => ?_)
              refine x_aload (pc' := 85) rfl rfl rfl rfl rfl ?_
              refine x_astore_n (pc' := 86) (ls' := [_, _, _, _, _, _, _]) rfl rfl rfl rfl rfl ?_
              refine x_iinc (pc' := 89) (y := (io (k + 1))) (ls' := [_, _, _, _, _, _, _]) rfl rfl rfl (io_add k 1) rfl ?_
              refine x_goto (pc' := 5) rfl rfl ?_
              exact k4 (of_decide_eq_true q2) (of_decide_eq_true q4) q6 (of_decide_eq_false q10) q11 (of_decide_eq_true q12)
          · refine x_aload_n (pc' := 36) rfl rfl rfl rfl rfl ?_
            refine x_gI (pc' := 39) (x := (mA M 14 k)) rfl rfl rfl ((kA hM rfl hk).trans (congrFun (Fr.f14 (Fr.refl _)) _)) ?_
            refine x_aload_n (pc' := 40) rfl rfl rfl rfl rfl ?_
            refine x_gI (pc' := 43) (x := (mA M 14 f)) rfl rfl rfl ((kA hM rfl hf).trans (congrFun (Fr.f14 (Fr.refl _)) _)) ?_
            refine x_icmp_n (a' := 50) (pc' := 46) (z := decide ((mA M 14 f) < (mA M 14 k))) rfl rfl rfl (ik_le _ _) (fun q15 => ?_) (fun q15 => ?_)
            · refine x_iconst (pc' := 51) rfl rfl ?_
              refine x_goto (pc' := 70) rfl rfl ?_
              refine x_retz (z := false) rfl rfl ?_
              refine sK_i (pc' := 80) rfl ?_
              refine x_if (a' := 86) (pc' := 83) (z := true) rfl rfl rfl (by decide) (fun _ => ?_) (fun h => by cases h)
              refine x_iinc (pc' := 89) (y := (io (k + 1))) (ls' := [_, _, _, _, _, _, _]) rfl rfl rfl (io_add k 1) rfl ?_
              refine x_goto (pc' := 5) rfl rfl ?_
              exact k5 (of_decide_eq_true q2) (of_decide_eq_true q4) q6 (of_decide_eq_false q10) q11 (of_decide_eq_false q15)
            · refine x_iconst (pc' := 47) rfl rfl ?_
              refine x_goto (pc' := 70) rfl rfl ?_
              refine x_retz (z := true) rfl rfl ?_
              refine sK_i (pc' := 80) rfl ?_
              refine x_if (a' := 86) (pc' := 83) (z := false) rfl rfl rfl (by decide) (fun h => by cases h) (fun _ => ?_)
              refine x_aload (pc' := 85) rfl rfl rfl rfl rfl ?_
              refine x_astore_n (pc' := 86) (ls' := [_, _, _, _, _, _, _]) rfl rfl rfl rfl rfl ?_
              refine x_iinc (pc' := 89) (y := (io (k + 1))) (ls' := [_, _, _, _, _, _, _]) rfl rfl rfl (io_add k 1) rfl ?_
              refine x_goto (pc' := 5) rfl rfl ?_
              exact k6 (of_decide_eq_true q2) (of_decide_eq_true q4) q6 (of_decide_eq_false q10) q11 (of_decide_eq_true q15)
        · refine x_aload_n (pc' := 12) rfl rfl rfl rfl rfl ?_
          refine x_gI (pc' := 15) (x := (mA M 18 k)) rfl rfl rfl (kA hM rfl hk) ?_
          refine x_aload_n (pc' := 16) rfl rfl rfl rfl rfl ?_
          refine x_gI (pc' := 19) (x := (mA M 18 f)) rfl rfl rfl (kA hM rfl hf) ?_
          refine x_icmp_n (a' := 26) (pc' := 22) (z := decide ((mA M 18 k) < (mA M 18 f))) rfl rfl rfl (ik_ge _ _) (fun q18 => ?_) (fun q18 => ?_)
          · refine x_iconst (pc' := 27) rfl rfl ?_
            refine x_retz (z := false) rfl rfl ?_
            refine sK_i (pc' := 80) rfl ?_
            refine x_if (a' := 86) (pc' := 83) (z := true) rfl rfl rfl (by decide) (fun _ => ?_) (fun h => by cases h)
            refine x_iinc (pc' := 89) (y := (io (k + 1))) (ls' := [_, _, _, _, _, _, _]) rfl rfl rfl (io_add k 1) rfl ?_
            refine x_goto (pc' := 5) rfl rfl ?_
            exact k7 (of_decide_eq_true q2) (of_decide_eq_true q4) q6 (of_decide_eq_true q10) (of_decide_eq_false q18)
          · refine x_iconst (pc' := 23) rfl rfl ?_
            refine x_goto (pc' := 27) rfl rfl ?_
            refine x_retz (z := true) rfl rfl ?_
            refine sK_i (pc' := 80) rfl ?_
            refine x_if (a' := 86) (pc' := 83) (z := false) rfl rfl rfl (by decide) (fun h => by cases h) (fun _ => ?_)
            refine x_aload (pc' := 85) rfl rfl rfl rfl rfl ?_
            refine x_astore_n (pc' := 86) (ls' := [_, _, _, _, _, _, _]) rfl rfl rfl rfl rfl ?_
            refine x_iinc (pc' := 89) (y := (io (k + 1))) (ls' := [_, _, _, _, _, _, _]) rfl rfl rfl (io_add k 1) rfl ?_
            refine x_goto (pc' := 5) rfl rfl ?_
            exact k8 (of_decide_eq_true q2) (of_decide_eq_true q4) q6 (of_decide_eq_true q10) (of_decide_eq_true q18)
set_option maxHeartbeats 4000000 in
set_option maxRecDepth 10000 in
theorem n38_en {t : sT} {Q : sRs → sT → Prop} {M : sM} {n : Nat} {T : Nat} {L0 : List Nat} {A : Nat} {B : Nat} {b : Nat} {s : Bool} {f : Option Nat} {y0 : sV} {y1 : sV}
    (hW : Wc t M n T L0 A B)
    (hb : b < 5)
    (k0 : Q (.inl (some (.inr (.inr (8, f))))) t) :
    X 38 5 [.inr (.inr (4, (some 0))), .inr (.inr (1, (some b))), .inl (bz s), .inr (.inr (8, f)), .inl (io n), y0, y1] [] t Q := by
  obtain ⟨hM, hc, hR, hC, hL, hL9⟩ := hW
  refine x_iload (pc' := 7) rfl rfl rfl ?_
  refine x_aload_n (pc' := 8) rfl rfl rfl rfl rfl ?_
  refine x_gR (pc' := 11) (r := (some 1)) rfl rfl rfl (kR_257_0 hc.1) ?_
  refine x_cv (ls0 := [_]) (rest := [_]) rfl rfl rfl rfl rfl ?_
  refine x_aload_n (pc' := 1) rfl rfl rfl rfl rfl ?_
  refine x_gI (pc' := 4) (x := (io n)) rfl rfl rfl (Sf_n hc) ?_
  refine x_reti rfl rfl ?_
  refine sK_i (pc' := 14) rfl ?_
  refine x_icmp_n (a' := 92) (pc' := 17) (z := decide (n < n)) rfl rfl rfl (ic_gen (p := n) (q := n) (gn31 hR) (gn31 hR)) (fun _ => ?_) (fun h => absurd (of_decide_eq_true h) (by first | decide | omega | simp))
  refine x_aload_n (pc' := 93) rfl rfl rfl rfl rfl ?_
  refine x_reta rfl rfl ?_
  exact k0
set_option maxHeartbeats 4000000 in
set_option maxRecDepth 10000 in
theorem n108_n {t : sT} {Q : sRs → sT → Prop} {M : sM} {n : Nat} {T : Nat} {L0 : List Nat} {A : Nat} {B : Nat} {b : Nat} {s : Bool} {f : Option Nat}
    (hW : Wc t M n T L0 A B)
    (hb : b < 5)
    (hf : ∀ j, f = some j → j < n)
    (k0 : ∀ j0, f = some j0 → Q (.inl (some (.inl (io j0)))) t)
    (k1 : f = none → Q (.inl (some (.inl (-1)))) t) :
    X 108 13 [.inr (.inr (11, (some 0))), .inl (io b), .inl (bz s)] [.inr (.inr (8, f))] t Q := by
  obtain ⟨hM, hc, hR, hC, hL, hL9⟩ := hW
  refine x_cs (ls0 := [_]) (rest := []) rfl rfl rfl rfl ?_
  refine x_aload_n (pc' := 1) rfl rfl rfl rfl rfl ?_
  refine x_ifnonnull (a' := 8) (pc' := 4) rfl rfl rfl rfl (fun j0 q1 => ?_) (fun q1 => ?_)
  · refine x_aload_n (pc' := 9) rfl rfl rfl rfl q1 ?_
    refine x_gI (pc' := 12) (x := (io j0)) rfl rfl rfl (Sf_512 hc (hf _ q1)) ?_
    refine x_reti rfl rfl ?_
    refine sK_i (pc' := 16) rfl ?_
    refine x_reti rfl rfl ?_
    exact k0 j0 q1
  · refine x_iconst (pc' := 5) rfl rfl ?_
    refine x_goto (pc' := 12) rfl rfl ?_
    refine x_reti rfl rfl ?_
    refine sK_i (pc' := 16) rfl ?_
    refine x_reti rfl rfl ?_
    exact k1 q1
set_option maxHeartbeats 4000000 in
set_option maxRecDepth 10000 in
theorem n109_n {t : sT} {Q : sRs → sT → Prop} {M : sM} {n : Nat} {T : Nat} {L0 : List Nat} {A : Nat} {B : Nat} {b : Nat} {s : Bool} {h : Int32}
    (hW : Wc t M n T L0 A B)
    (hb : b < 5)
    (k0 : Q (.inl (some (.inl h))) t) :
    X 109 13 [.inr (.inr (11, (some 0))), .inl (io b), .inl (bz s)] [.inl h] t Q := by
  obtain ⟨hM, hc, hR, hC, hL, hL9⟩ := hW
  refine x_reti rfl rfl ?_
  exact k0
set_option maxHeartbeats 4000000 in
set_option maxRecDepth 10000 in
theorem n110_n {t : sT} {Q : sRs → sT → Prop} {M : sM} {n : Nat} {T : Nat} {L0 : List Nat} {A : Nat} {B : Nat} {b : Nat} {s : Bool} {h : Int32}
    (hW : Wc t M n T L0 A B)
    (hb : b < 5)
    (k0 : X 81 0 [.inr (.inr (10, (some 0))), .inr (.inr (1, (some b))), .inl h, .inl (bz s), sJk, sJk, sJk, sJk] [] t (sK 81 110 21 [.inr (.inr (11, (some 0))), .inl (io b), .inl (bz s), .inr (.inr (1, (some b)))] [] Q)) :
    X 110 20 [.inr (.inr (11, (some 0))), .inl (io b), .inl (bz s), .inr (.inr (1, (some b)))] [.inl h, .inr (.inr (1, (some b))), .inr (.inr (10, (some 0)))] t Q := by
  obtain ⟨hM, hc, hR, hC, hL, hL9⟩ := hW
  refine x_iload_n (pc' := 21) rfl rfl rfl ?_
  refine x_cv (ls0 := [_, _, _, _, sJk, sJk, sJk, sJk]) (rest := []) rfl rfl rfl rfl rfl ?_
  exact k0
set_option maxHeartbeats 4000000 in
set_option maxRecDepth 10000 in
theorem n110_p {t : sT} {Q : sRs → sT → Prop} {M : sM} {n : Nat} {T : Nat} {L0 : List Nat} {A : Nat} {B : Nat} {b : Nat} {s : Bool} {h : Int32}
    (hW : Wc t M n T L0 A B)
    (hb : b < 5)
    (k0 : Q (.inl (some (.inl h))) t) :
    X 110 24 [.inr (.inr (11, (some 0))), .inl (io b), .inl (bz s), .inr (.inr (1, (some b)))] [.inl h] t Q := by
  obtain ⟨hM, hc, hR, hC, hL, hL9⟩ := hW
  refine x_reti rfl rfl ?_
  exact k0
set_option maxHeartbeats 4000000 in
set_option maxRecDepth 10000 in
theorem n111_n {t : sT} {Q : sRs → sT → Prop} {M : sM} {n : Nat} {T : Nat} {L0 : List Nat} {A : Nat} {B : Nat} {b : Nat} {h : Int32}
    (hW : Wc t M n T L0 A B)
    (hb : b < 5)
    (k0 : Q (.inl (some (.inl h))) t) :
    X 111 12 [.inr (.inr (11, (some 0))), .inl (io b)] [.inl h] t Q := by
  obtain ⟨hM, hc, hR, hC, hL, hL9⟩ := hW
  refine x_reti rfl rfl ?_
  exact k0
set_option maxHeartbeats 4000000 in
set_option maxRecDepth 10000 in
theorem n117_n {t : sT} {Q : sRs → sT → Prop} {M : sM} {n : Nat} {T : Nat} {L0 : List Nat} {A : Nat} {B : Nat} {m : Nat} {c : Nat} {h : Int32}
    (hW : Wc t M n T L0 A B)
    (hm : m < 6)
    (hc3 : c < 3)
    (k0 : Q (.inl (some (.inl h))) t) :
    X 117 19 [.inr (.inr (11, (some 0))), .inl (io m), .inl (io c), .inr (.inr (7, (some m)))] [.inl h] t Q := by
  obtain ⟨hM, hc, hR, hC, hL, hL9⟩ := hW
  refine x_reti rfl rfl ?_
  exact k0
set_option maxHeartbeats 4000000 in
set_option maxRecDepth 10000 in
theorem n48_0 {t : sT} {Q : sRs → sT → Prop} {M : sM} {n : Nat} {T : Nat} {L0 : List Nat} {A : Nat} {B : Nat} {m : Nat} {c : Nat}
    (hW : Wc t M n T L0 A B)
    (hm : m < 6)
    (hc3 : c < 3)
    (k0 : X 48 5 [.inr (.inr (5, (some 0))), .inr (.inr (7, (some m))), .inr (.inr (2, (some c))), .inl 0, .inl 0, sJk] [] t Q) :
    X 48 0 [.inr (.inr (5, (some 0))), .inr (.inr (7, (some m))), .inr (.inr (2, (some c))), sJk, sJk, sJk] [] t Q := by
  obtain ⟨hM, hc, hR, hC, hL, hL9⟩ := hW
  refine x_iconst (pc' := 1) rfl rfl ?_
  refine x_istore_n (pc' := 2) (ls' := [_, _, _, _, _, _]) rfl rfl rfl rfl ?_
  refine x_iconst (pc' := 3) rfl rfl ?_
  refine x_istore (pc' := 5) (ls' := [_, _, _, _, _, _]) rfl rfl rfl rfl ?_
  exact k0
set_option maxHeartbeats 4000000 in
set_option maxRecDepth 10000 in
theorem n48_e {t : sT} {Q : sRs → sT → Prop} {M : sM} {n : Nat} {T : Nat} {L0 : List Nat} {A : Nat} {B : Nat} {m : Nat} {c : Nat} {a : Int32} {y0 : sV}
    (hW : Wc t M n T L0 A B)
    (hm : m < 6)
    (hc3 : c < 3)
    (k0 : Q (.inl (some (.inl a))) t) :
    X 48 5 [.inr (.inr (5, (some 0))), .inr (.inr (7, (some m))), .inr (.inr (2, (some c))), .inl a, .inl (io T), y0] [] t Q := by
  obtain ⟨hM, hc, hR, hC, hL, hL9⟩ := hW
  refine x_iload (pc' := 7) rfl rfl rfl ?_
  refine x_aload_n (pc' := 8) rfl rfl rfl rfl rfl ?_
  refine x_gR (pc' := 11) (r := (some 0)) rfl rfl rfl (kR_322_0 hc.1) ?_
  refine x_cv (ls0 := [_]) (rest := [_]) rfl rfl rfl rfl rfl ?_
  refine x_aload_n (pc' := 1) rfl rfl rfl rfl rfl ?_
  refine x_gI (pc' := 4) (x := (io T)) rfl rfl rfl (Sf_T hc) ?_
  refine x_reti rfl rfl ?_
  refine sK_i (pc' := 14) rfl ?_
  refine x_icmp_n (a' := 96) (pc' := 17) (z := decide (T < T)) rfl rfl rfl (ic_gen (p := T) (q := T) (gT31 hc) (gT31 hc)) (fun _ => ?_) (fun h => absurd (of_decide_eq_true h) (by first | decide | omega | simp))
  refine x_iload_n (pc' := 97) rfl rfl rfl ?_
  refine x_reti rfl rfl ?_
  exact k0
set_option maxHeartbeats 4000000 in
set_option maxRecDepth 10000 in
theorem r227_n {t : sT} {Q : sRs → sT → Prop} {M : sM} {n : Nat} {b : Nat} {s : Bool} {h : Int32}
    (hV : Vr t M n)
    (hb : b < 5)
    (k0 : Q (.inl (some (.inl h))) t) :
    X 227 25 [.inr (.inr (12, (some 0))), .inl (io b), .inl (bz s)] [.inl h] t Q := by
  obtain ⟨hM, hc, hR⟩ := hV
  refine x_goto (pc' := 29) rfl rfl ?_
  refine x_reti rfl rfl ?_
  exact k0
set_option maxHeartbeats 4000000 in
set_option maxRecDepth 10000 in
theorem r228_m {t : sT} {Q : sRs → sT → Prop} {M : sM} {n : Nat} {b : Nat} {s : Bool} {y0 : sV}
    (hV : Vr t M n)
    (hb : b < 5)
    (k0 : Q (.inl (some (.inl (-10000)))) t) :
    X 228 27 [.inr (.inr (12, (some 0))), .inl (io b), .inl (bz s), y0] [.inl (-1)] t Q := by
  obtain ⟨hM, hc, hR⟩ := hV
  refine x_istore_n (pc' := 28) (ls' := [_, _, _, _]) rfl rfl rfl rfl ?_
  refine x_iload_n (pc' := 29) rfl rfl rfl ?_
  refine x_iconst (pc' := 30) rfl rfl ?_
  refine x_icmp (a' := 52) (pc' := 33) (z := true) rfl rfl rfl (by decide) (fun _ => ?_) (fun h => by cases h)
  refine x_sipush (pc' := 55) rfl rfl ?_
  refine x_reti rfl rfl ?_
  exact k0
set_option maxHeartbeats 4000000 in
set_option maxRecDepth 10000 in
theorem r228_w {t : sT} {Q : sRs → sT → Prop} {M : sM} {n : Nat} {b : Nat} {s : Bool} {w : Nat} {y0 : sV}
    (hV : Vr t M n)
    (hb : b < 5)
    (hw : w < 3)
    (k0 : (io w) = (-1) → Q (.inl (some (.inl (-10000)))) t)
    (k1 : ¬ ((io w) = (-1)) → X 159 0 [.inr (.inr (12, (some 0))), .inl (io b), .inl (bz s), .inl (io w), sJk, sJk, sJk] [] t (sK 159 228 37 [.inr (.inr (12, (some 0))), .inl (io b), .inl (bz s), .inl (io w)] [] Q)) :
    X 228 27 [.inr (.inr (12, (some 0))), .inl (io b), .inl (bz s), y0] [.inl (io w)] t Q := by
  obtain ⟨hM, hc, hR⟩ := hV
  refine x_istore_n (pc' := 28) (ls' := [_, _, _, _]) rfl rfl rfl rfl ?_
  refine x_iload_n (pc' := 29) rfl rfl rfl ?_
  refine x_iconst (pc' := 30) rfl rfl ?_
  refine x_icmp (a' := 52) (pc' := 33) (z := decide ((io w) = (-1))) rfl rfl rfl rfl (fun q1 => ?_) (fun q1 => ?_)
  · refine x_sipush (pc' := 55) rfl rfl ?_
    refine x_reti rfl rfl ?_
    exact k0 (of_decide_eq_true q1)
  · refine x_aload_n (pc' := 34) rfl rfl rfl rfl rfl ?_
    refine x_iload_n (pc' := 35) rfl rfl rfl ?_
    refine x_iload_n (pc' := 36) rfl rfl rfl ?_
    refine x_iload_n (pc' := 37) rfl rfl rfl ?_
    refine x_cv (ls0 := [_, _, _, _, sJk, sJk, sJk]) (rest := []) rfl rfl rfl rfl rfl ?_
    exact k1 (of_decide_eq_false q1)
set_option maxHeartbeats 4000000 in
set_option maxRecDepth 10000 in
theorem r228_z {t : sT} {Q : sRs → sT → Prop} {M : sM} {n : Nat} {b : Nat} {s : Bool} {w : Nat} {z : Bool}
    (hV : Vr t M n)
    (hb : b < 5)
    (hw : w < 3)
    (k0 : z = false → Q (.inl (some (.inl (-10000)))) t)
    (k1 : z = true → X 160 0 [.inr (.inr (12, (some 0))), .inl (io b), .inl (io w), sJk, sJk] [] t (sK 160 228 46 [.inr (.inr (12, (some 0))), .inl (io b), .inl (bz s), .inl (io w)] [] Q)) :
    X 228 40 [.inr (.inr (12, (some 0))), .inl (io b), .inl (bz s), .inl (io w)] [.inl (bz z)] t Q := by
  obtain ⟨hM, hc, hR⟩ := hV
  refine x_ifeq_z (a' := 52) (pc' := 43) (z := z) rfl rfl rfl (fun q1 => ?_) (fun q1 => ?_)
  · refine x_sipush (pc' := 55) rfl rfl ?_
    refine x_reti rfl rfl ?_
    exact k0 q1
  · refine x_aload_n (pc' := 44) rfl rfl rfl rfl rfl ?_
    refine x_iload_n (pc' := 45) rfl rfl rfl ?_
    refine x_iload_n (pc' := 46) rfl rfl rfl ?_
    refine x_cv (ls0 := [_, _, _, sJk, sJk]) (rest := []) rfl rfl rfl rfl rfl ?_
    exact k1 q1
set_option maxHeartbeats 4000000 in
set_option maxRecDepth 10000 in
theorem r228_p {t : sT} {Q : sRs → sT → Prop} {M : sM} {n : Nat} {b : Nat} {s : Bool} {w : Nat} {h : Int32}
    (hV : Vr t M n)
    (hb : b < 5)
    (k0 : Q (.inl (some (.inl h))) t) :
    X 228 49 [.inr (.inr (12, (some 0))), .inl (io b), .inl (bz s), .inl (io w)] [.inl h] t Q := by
  obtain ⟨hM, hc, hR⟩ := hV
  refine x_goto (pc' := 55) rfl rfl ?_
  refine x_reti rfl rfl ?_
  exact k0
set_option maxHeartbeats 4000000 in
set_option maxRecDepth 10000 in
theorem r209_n {t : sT} {Q : sRs → sT → Prop} {M : sM} {n : Nat} {o : Nat} {z : Bool}
    (hV : Vr t M n)
    (ho : o < n)
    (k0 : Q (.inl (some (.inl (mA M 15 o)))) t) :
    X 209 41 [.inr (.inr (12, (some 0))), .inl (io o), .inl (bz z)] [] t Q := by
  obtain ⟨hM, hc, hR⟩ := hV
  refine x_aload_n (pc' := 42) rfl rfl rfl rfl rfl ?_
  refine x_gR (pc' := 45) (r := (some 15)) rfl rfl rfl (kR_791_0 hc) ?_
  refine x_iload_n (pc' := 46) rfl rfl rfl ?_
  refine x_iald (pc' := 47) (N := 200) (x := (mA M 15 o)) rfl rfl rfl (kN_21_15 hc) (io_in (p := o) (N := 200) (Nat.lt_of_lt_of_le ho (gn200 hR)) (by decide)) (Eq.trans (congrArg (sA t 21 15) (nn_io (p := o) (Nat.lt_trans (Nat.lt_of_lt_of_le ho (gn200 hR)) (by decide)))) (gA hM rfl)) ?_
  refine x_reti rfl rfl ?_
  exact k0
set_option maxHeartbeats 4000000 in
set_option maxRecDepth 10000 in
theorem r211_n {t : sT} {Q : sRs → sT → Prop} {M : sM} {n : Nat} {T : Nat} {o : Nat} {z : Bool} {y0 : sV}
    (hV : Vr t M n)
    (hT : mI M 801 = io T)
    (hT4 : T < 4096)
    (ho : o < T)
    (k0 : Q (.inl (some (.inl (mA M 25 o)))) t) :
    X 211 121 [.inr (.inr (12, (some 0))), .inl (io o), .inl (bz z), y0] [] t Q := by
  obtain ⟨hM, hc, hR⟩ := hV
  refine x_aload_n (pc' := 122) rfl rfl rfl rfl rfl ?_
  refine x_gR (pc' := 125) (r := (some 25)) rfl rfl rfl (kR_806_0 hc) ?_
  refine x_iload_n (pc' := 126) rfl rfl rfl ?_
  refine x_iald (pc' := 127) (N := 4096) (x := (mA M 25 o)) rfl rfl rfl (kN_21_25 hc) (io_in (p := o) (N := 4096) (Nat.lt_trans ho hT4) (by decide)) (Eq.trans (congrArg (sA t 21 25) (nn_io (p := o) (Nat.lt_trans (Nat.lt_trans ho hT4) (by decide)))) (gA hM rfl)) ?_
  refine x_reti rfl rfl ?_
  exact k0
set_option maxHeartbeats 4000000 in
set_option maxRecDepth 10000 in
theorem r212c {t : sT} {Q : sRs → sT → Prop} {M : sM} {n : Nat} {m : Nat} {p : Int32}
    (hV : Vr t M n)
    (hm : m < 6)
    (k0 : p < (-1000000) → Q (.inl (some (.inl 0))) (sIw t 768 0 2))
    (k1 : ¬ (p < (-1000000)) → 1000000 < p → Q (.inl (some (.inl 0))) (sIw t 768 0 2))
    (k2 : ¬ (p < (-1000000)) → ¬ (1000000 < p) → (mB M 2 m) = false → X 212 73 [.inr (.inr (12, (some 0))), .inl (io m), .inl p, .inl (bz true), .inl 0, .inl 0] [] (sBw (sAw (sIw t 768 0 0) 21 9 m p) 22 1 m true) Q)
    (k3 : ¬ (p < (-1000000)) → ¬ (1000000 < p) → (mB M 2 m) = true → Q (.inl (some (.inl 0))) (sIw t 768 0 3)) :
    X 212 0 [.inr (.inr (12, (some 0))), .inl (io m), .inl p, sJk, sJk, sJk] [] t Q := by
  obtain ⟨hM, hc, hR⟩ := hV
  refine x_iload_n (pc' := 1) rfl rfl rfl ?_
  refine x_cs (ls0 := [_]) (rest := []) rfl rfl rfl rfl ?_
  refine x_iload_n (pc' := 1) rfl rfl rfl ?_
  refine x_iconst (pc' := 2) rfl rfl ?_
  refine x_iconst (pc' := 3) rfl rfl ?_
  refine x_cs (ls0 := [_, _, _]) (rest := []) rfl rfl rfl rfl ?_
  refine x_iload_n (pc' := 1) rfl rfl rfl ?_
  refine x_iload_n (pc' := 2) rfl rfl rfl ?_
  refine x_icmp (a' := 14) (pc' := 5) (z := decide (m < 0)) rfl rfl rfl (ic_lt (p := m) (q := 0) (gm31 hm) (by decide)) (fun h => absurd (of_decide_eq_true h) (by first | decide | omega | simp)) (fun _ => ?_)
  refine x_iload_n (pc' := 6) rfl rfl rfl ?_
  refine x_iload_n (pc' := 7) rfl rfl rfl ?_
  refine x_icmp (a' := 14) (pc' := 10) (z := decide (5 < m)) rfl rfl rfl (ic_gt (p := m) (q := 5) (gm31 hm) (by decide)) (fun h => absurd (of_decide_eq_true h) (show ¬ 5 < m by omega)) (fun _ => ?_)
  refine x_iconst (pc' := 11) rfl rfl ?_
  refine x_goto (pc' := 15) rfl rfl ?_
  refine x_retz (z := true) rfl rfl ?_
  refine sK_i (pc' := 6) rfl ?_
  refine x_retz (z := true) rfl rfl ?_
  refine sK_i (pc' := 4) rfl ?_
  refine x_istore_n (pc' := 5) (ls' := [_, _, _, _, _, _]) rfl rfl rfl rfl ?_
  refine x_aload_n (pc' := 6) rfl rfl rfl rfl rfl ?_
  refine x_iload_n (pc' := 7) rfl rfl rfl ?_
  refine x_if (a' := 14) (pc' := 10) (z := true) rfl rfl rfl (by decide) (fun _ => ?_) (fun h => by cases h)
  refine x_iload_n (pc' := 15) rfl rfl rfl ?_
  refine x_ldc_w (pc' := 18) rfl rfl ?_
  refine x_ldc_w (pc' := 21) rfl rfl ?_
  refine x_cs (ls0 := [_, _, _]) (rest := [_]) rfl rfl rfl rfl ?_
  refine x_iload_n (pc' := 1) rfl rfl rfl ?_
  refine x_iload_n (pc' := 2) rfl rfl rfl ?_
  refine x_icmp (a' := 14) (pc' := 5) (z := decide (p < (-1000000))) rfl rfl rfl rfl (fun q4 => ?_) (fun q4 => ?_)
  · refine x_iconst (pc' := 15) rfl rfl ?_
    refine x_retz (z := false) rfl rfl ?_
    refine sK_i (pc' := 24) rfl ?_
    refine x_if (a' := 31) (pc' := 27) (z := false) rfl rfl rfl (by decide) (fun h => by cases h) (fun _ => ?_)
    refine x_iconst (pc' := 28) rfl rfl ?_
    refine x_goto (pc' := 45) rfl rfl ?_
    refine x_cv (ls0 := [_, _]) (rest := []) rfl rfl rfl rfl rfl ?_
    refine x_aload_n (pc' := 1) rfl rfl rfl rfl rfl ?_
    refine x_iload_n (pc' := 2) rfl rfl rfl ?_
    refine x_pI (pc' := 5) rfl rfl rfl ?_
    refine x_iload_n (pc' := 6) rfl rfl rfl ?_
    refine x_if (a' := 13) (pc' := 9) (z := true) rfl rfl rfl (by decide) (fun _ => ?_) (fun h => by cases h)
    refine x_iconst (pc' := 14) rfl rfl ?_
    refine x_retz (z := false) rfl rfl ?_
    refine sK_i (pc' := 48) rfl ?_
    refine x_if (a' := 53) (pc' := 51) (z := false) rfl rfl rfl (by decide) (fun h => by cases h) (fun _ => ?_)
    refine x_iconst (pc' := 52) rfl rfl ?_
    refine x_reti rfl rfl ?_
    exact k0 (of_decide_eq_true q4)
  · refine x_iload_n (pc' := 6) rfl rfl rfl ?_
    refine x_iload_n (pc' := 7) rfl rfl rfl ?_
    refine x_icmp (a' := 14) (pc' := 10) (z := decide (1000000 < p)) rfl rfl rfl rfl (fun q8 => ?_) (fun q8 => ?_)
    · refine x_iconst (pc' := 15) rfl rfl ?_
      refine x_retz (z := false) rfl rfl ?_
      refine sK_i (pc' := 24) rfl ?_
      refine x_if (a' := 31) (pc' := 27) (z := false) rfl rfl rfl (by decide) (fun h => by cases h) (fun _ => ?_)
      refine x_iconst (pc' := 28) rfl rfl ?_
      refine x_goto (pc' := 45) rfl rfl ?_
      refine x_cv (ls0 := [_, _]) (rest := []) rfl rfl rfl rfl rfl ?_
      refine x_aload_n (pc' := 1) rfl rfl rfl rfl rfl ?_
      refine x_iload_n (pc' := 2) rfl rfl rfl ?_
      refine x_pI (pc' := 5) rfl rfl rfl ?_
      refine x_iload_n (pc' := 6) rfl rfl rfl ?_
      refine x_if (a' := 13) (pc' := 9) (z := true) rfl rfl rfl (by decide) (fun _ => ?_) (fun h => by cases h)
      refine x_iconst (pc' := 14) rfl rfl ?_
      refine x_retz (z := false) rfl rfl ?_
      refine sK_i (pc' := 48) rfl ?_
      refine x_if (a' := 53) (pc' := 51) (z := false) rfl rfl rfl (by decide) (fun h => by cases h) (fun _ => ?_)
      refine x_iconst (pc' := 52) rfl rfl ?_
      refine x_reti rfl rfl ?_
      exact k1 (of_decide_eq_false q4) (of_decide_eq_true q8)
    · refine x_iconst (pc' := 11) rfl rfl ?_
      refine x_goto (pc' := 15) rfl rfl ?_
      refine x_retz (z := true) rfl rfl ?_
      refine sK_i (pc' := 24) rfl ?_
      refine x_if (a' := 31) (pc' := 27) (z := true) rfl rfl rfl (by decide) (fun _ => ?_) (fun h => by cases h)
      refine x_aload_n (pc' := 32) rfl rfl rfl rfl rfl ?_
      refine x_gR (pc' := 35) (r := (some 2)) rfl rfl rfl (kR_781_0 hc) ?_
      refine x_iload_n (pc' := 36) rfl rfl rfl ?_
      refine x_bald (pc' := 37) (N := 6) (z := (mB M 2 m)) rfl rfl (kN_22_2 hc) (io_in (p := m) (N := 6) hm (by decide)) (Eq.trans (congrArg (sB t 22 2) (nn_io (p := m) (Nat.lt_trans hm (by decide)))) (gB hM)) ?_
      refine x_ifeq_z (a' := 44) (pc' := 40) (z := (mB M 2 m)) rfl rfl rfl (fun q13 => ?_) (fun q13 => ?_)
      · refine x_iconst (pc' := 45) rfl rfl ?_
        refine x_cv (ls0 := [_, _]) (rest := []) rfl rfl rfl rfl rfl ?_
        refine x_aload_n (pc' := 1) rfl rfl rfl rfl rfl ?_
        refine x_iload_n (pc' := 2) rfl rfl rfl ?_
        refine x_pI (pc' := 5) rfl rfl rfl ?_
        refine x_iload_n (pc' := 6) rfl rfl rfl ?_
        refine x_if (a' := 13) (pc' := 9) (z := false) rfl rfl rfl (by decide) (fun h => by cases h) (fun _ => ?_)
        refine x_iconst (pc' := 10) rfl rfl ?_
        refine x_goto (pc' := 14) rfl rfl ?_
        refine x_retz (z := true) rfl rfl ?_
        refine sK_i (pc' := 48) rfl ?_
        refine x_if (a' := 53) (pc' := 51) (z := true) rfl rfl rfl (by decide) (fun _ => ?_) (fun h => by cases h)
        refine x_aload_n (pc' := 54) rfl rfl rfl rfl rfl ?_
        refine x_gR (pc' := 57) (r := (some 9)) rfl rfl rfl (Eq.trans (b := sR t 779 0) rfl (kR_779_0 hc)) ?_
        refine x_iload_n (pc' := 58) rfl rfl rfl ?_
        refine x_iload_n (pc' := 59) rfl rfl rfl ?_
        refine x_iast (pc' := 60) (N := 6) (p := m) rfl rfl rfl (Eq.trans rdNI (kN_21_9 hc)) (io_in (p := m) (N := 6) hm (by decide)) (nn_io (p := m) (Nat.lt_trans hm (by decide))) ?_
        refine x_aload_n (pc' := 61) rfl rfl rfl rfl rfl ?_
        refine x_gR (pc' := 64) (r := (some 1)) rfl rfl rfl (Eq.trans (b := sR t 780 0) rfl (kR_780_0 hc)) ?_
        refine x_iload_n (pc' := 65) rfl rfl rfl ?_
        refine x_iconst (pc' := 66) rfl rfl ?_
        refine x_bast (pc' := 67) (N := 6) (p := m) (z := true) rfl rfl (Eq.trans rdNA (Eq.trans rdNI (kN_22_1 hc))) (io_in (p := m) (N := 6) hm (by decide)) (nn_io (p := m) (Nat.lt_trans hm (by decide))) rfl ?_
        refine x_iconst (pc' := 68) rfl rfl ?_
        refine x_istore (pc' := 70) (ls' := [_, _, _, _, _, _]) rfl rfl rfl rfl ?_
        refine x_iconst (pc' := 71) rfl rfl ?_
        refine x_istore (pc' := 73) (ls' := [_, _, _, _, _, _]) rfl rfl rfl rfl ?_
        exact k2 (of_decide_eq_false q4) (of_decide_eq_false q8) q13
      · refine x_iconst (pc' := 41) rfl rfl ?_
        refine x_goto (pc' := 45) rfl rfl ?_
        refine x_cv (ls0 := [_, _]) (rest := []) rfl rfl rfl rfl rfl ?_
        refine x_aload_n (pc' := 1) rfl rfl rfl rfl rfl ?_
        refine x_iload_n (pc' := 2) rfl rfl rfl ?_
        refine x_pI (pc' := 5) rfl rfl rfl ?_
        refine x_iload_n (pc' := 6) rfl rfl rfl ?_
        refine x_if (a' := 13) (pc' := 9) (z := true) rfl rfl rfl (by decide) (fun _ => ?_) (fun h => by cases h)
        refine x_iconst (pc' := 14) rfl rfl ?_
        refine x_retz (z := false) rfl rfl ?_
        refine sK_i (pc' := 48) rfl ?_
        refine x_if (a' := 53) (pc' := 51) (z := false) rfl rfl rfl (by decide) (fun h => by cases h) (fun _ => ?_)
        refine x_iconst (pc' := 52) rfl rfl ?_
        refine x_reti rfl rfl ?_
        exact k3 (of_decide_eq_false q4) (of_decide_eq_false q8) q13
set_option maxHeartbeats 4000000 in
set_option maxRecDepth 10000 in
theorem r212l {t : sT} {Q : sRs → sT → Prop} {M : sM} {n : Nat} {m : Nat} {p : Int32}
    (hV : Vr t M n)
    (hm : m < 6)
    (k0 : Q (.inl (some (.inl ((((((0 + (bz (mB M 1 0))) + (bz (mB M 1 1))) + (bz (mB M 1 2))) + (bz (mB M 1 3))) + (bz (mB M 1 4))) + (bz (mB M 1 5)))))) t) :
    X 212 73 [.inr (.inr (12, (some 0))), .inl (io m), .inl p, .inl (bz true), .inl 0, .inl 0] [] t Q := by
  obtain ⟨hM, hc, hR⟩ := hV
  refine x_iload (pc' := 75) rfl rfl rfl ?_
  refine x_bipush (pc' := 77) rfl rfl ?_
  refine x_icmp (a' := 106) (pc' := 80) (z := false) rfl rfl rfl (by decide) (fun h => by cases h) (fun _ => ?_)
  refine x_iload (pc' := 82) rfl rfl rfl ?_
  refine x_aload_n (pc' := 83) rfl rfl rfl rfl rfl ?_
  refine x_gR (pc' := 86) (r := (some 1)) rfl rfl rfl (kR_780_0 hc) ?_
  refine x_iload (pc' := 88) rfl rfl rfl ?_
  refine x_bald (pc' := 89) (N := 6) (z := (mB M 1 0)) rfl rfl (kN_22_1 hc) (io_in (p := 0) (N := 6) (by decide) (by decide)) (Eq.trans (congrArg (sB t 22 1) (nn_io (p := 0) (by decide))) (gB hM)) ?_
  have J2 : X 212 97 [.inr (.inr (12, (some 0))), .inl (io m), .inl p, .inl (bz true), .inl 0, .inl 0] [.inl (bz (mB M 1 0)), .inl 0] t Q := by
    refine x_iadd (pc' := 98) (z := (0 + (bz (mB M 1 0)))) rfl rfl rfl ?_
    refine x_istore (pc' := 100) (ls' := [_, _, _, _, _, _]) rfl rfl rfl rfl ?_
    refine x_iinc (pc' := 103) (y := 1) (ls' := [_, _, _, _, _, _]) rfl rfl rfl rfl rfl ?_
    refine x_goto (pc' := 73) rfl rfl ?_
    refine x_iload (pc' := 75) rfl rfl rfl ?_
    refine x_bipush (pc' := 77) rfl rfl ?_
    refine x_icmp (a' := 106) (pc' := 80) (z := false) rfl rfl rfl (by decide) (fun h => by cases h) (fun _ => ?_)
    refine x_iload (pc' := 82) rfl rfl rfl ?_
    refine x_aload_n (pc' := 83) rfl rfl rfl rfl rfl ?_
    refine x_gR (pc' := 86) (r := (some 1)) rfl rfl rfl (kR_780_0 hc) ?_
    refine x_iload (pc' := 88) rfl rfl rfl ?_
    refine x_bald (pc' := 89) (N := 6) (z := (mB M 1 1)) rfl rfl (kN_22_1 hc) (io_in (p := 1) (N := 6) (by decide) (by decide)) (Eq.trans (congrArg (sB t 22 1) (nn_io (p := 1) (by decide))) (gB hM)) ?_
    have J5 : X 212 97 [.inr (.inr (12, (some 0))), .inl (io m), .inl p, .inl (bz true), .inl (0 + (bz (mB M 1 0))), .inl 1] [.inl (bz (mB M 1 1)), .inl (0 + (bz (mB M 1 0)))] t Q := by
      refine x_iadd (pc' := 98) (z := ((0 + (bz (mB M 1 0))) + (bz (mB M 1 1)))) rfl rfl rfl ?_
      refine x_istore (pc' := 100) (ls' := [_, _, _, _, _, _]) rfl rfl rfl rfl ?_
      refine x_iinc (pc' := 103) (y := 2) (ls' := [_, _, _, _, _, _]) rfl rfl rfl rfl rfl ?_
      refine x_goto (pc' := 73) rfl rfl ?_
      refine x_iload (pc' := 75) rfl rfl rfl ?_
      refine x_bipush (pc' := 77) rfl rfl ?_
      refine x_icmp (a' := 106) (pc' := 80) (z := false) rfl rfl rfl (by decide) (fun h => by cases h) (fun _ => ?_)
      refine x_iload (pc' := 82) rfl rfl rfl ?_
      refine x_aload_n (pc' := 83) rfl rfl rfl rfl rfl ?_
      refine x_gR (pc' := 86) (r := (some 1)) rfl rfl rfl (kR_780_0 hc) ?_
      refine x_iload (pc' := 88) rfl rfl rfl ?_
      refine x_bald (pc' := 89) (N := 6) (z := (mB M 1 2)) rfl rfl (kN_22_1 hc) (io_in (p := 2) (N := 6) (by decide) (by decide)) (Eq.trans (congrArg (sB t 22 1) (nn_io (p := 2) (by decide))) (gB hM)) ?_
      have J8 : X 212 97 [.inr (.inr (12, (some 0))), .inl (io m), .inl p, .inl (bz true), .inl ((0 + (bz (mB M 1 0))) + (bz (mB M 1 1))), .inl 2] [.inl (bz (mB M 1 2)), .inl ((0 + (bz (mB M 1 0))) + (bz (mB M 1 1)))] t Q := by
        refine x_iadd (pc' := 98) (z := (((0 + (bz (mB M 1 0))) + (bz (mB M 1 1))) + (bz (mB M 1 2)))) rfl rfl rfl ?_
        refine x_istore (pc' := 100) (ls' := [_, _, _, _, _, _]) rfl rfl rfl rfl ?_
        refine x_iinc (pc' := 103) (y := 3) (ls' := [_, _, _, _, _, _]) rfl rfl rfl rfl rfl ?_
        refine x_goto (pc' := 73) rfl rfl ?_
        refine x_iload (pc' := 75) rfl rfl rfl ?_
        refine x_bipush (pc' := 77) rfl rfl ?_
        refine x_icmp (a' := 106) (pc' := 80) (z := false) rfl rfl rfl (by decide) (fun h => by cases h) (fun _ => ?_)
        refine x_iload (pc' := 82) rfl rfl rfl ?_
        refine x_aload_n (pc' := 83) rfl rfl rfl rfl rfl ?_
        refine x_gR (pc' := 86) (r := (some 1)) rfl rfl rfl (kR_780_0 hc) ?_
        refine x_iload (pc' := 88) rfl rfl rfl ?_
        refine x_bald (pc' := 89) (N := 6) (z := (mB M 1 3)) rfl rfl (kN_22_1 hc) (io_in (p := 3) (N := 6) (by decide) (by decide)) (Eq.trans (congrArg (sB t 22 1) (nn_io (p := 3) (by decide))) (gB hM)) ?_
        have J11 : X 212 97 [.inr (.inr (12, (some 0))), .inl (io m), .inl p, .inl (bz true), .inl (((0 + (bz (mB M 1 0))) + (bz (mB M 1 1))) + (bz (mB M 1 2))), .inl 3] [.inl (bz (mB M 1 3)), .inl (((0 + (bz (mB M 1 0))) + (bz (mB M 1 1))) + (bz (mB M 1 2)))] t Q := by
          refine x_iadd (pc' := 98) (z := ((((0 + (bz (mB M 1 0))) + (bz (mB M 1 1))) + (bz (mB M 1 2))) + (bz (mB M 1 3)))) rfl rfl rfl ?_
          refine x_istore (pc' := 100) (ls' := [_, _, _, _, _, _]) rfl rfl rfl rfl ?_
          refine x_iinc (pc' := 103) (y := 4) (ls' := [_, _, _, _, _, _]) rfl rfl rfl rfl rfl ?_
          refine x_goto (pc' := 73) rfl rfl ?_
          refine x_iload (pc' := 75) rfl rfl rfl ?_
          refine x_bipush (pc' := 77) rfl rfl ?_
          refine x_icmp (a' := 106) (pc' := 80) (z := false) rfl rfl rfl (by decide) (fun h => by cases h) (fun _ => ?_)
          refine x_iload (pc' := 82) rfl rfl rfl ?_
          refine x_aload_n (pc' := 83) rfl rfl rfl rfl rfl ?_
          refine x_gR (pc' := 86) (r := (some 1)) rfl rfl rfl (kR_780_0 hc) ?_
          refine x_iload (pc' := 88) rfl rfl rfl ?_
          refine x_bald (pc' := 89) (N := 6) (z := (mB M 1 4)) rfl rfl (kN_22_1 hc) (io_in (p := 4) (N := 6) (by decide) (by decide)) (Eq.trans (congrArg (sB t 22 1) (nn_io (p := 4) (by decide))) (gB hM)) ?_
          have J14 : X 212 97 [.inr (.inr (12, (some 0))), .inl (io m), .inl p, .inl (bz true), .inl ((((0 + (bz (mB M 1 0))) + (bz (mB M 1 1))) + (bz (mB M 1 2))) + (bz (mB M 1 3))), .inl 4] [.inl (bz (mB M 1 4)), .inl ((((0 + (bz (mB M 1 0))) + (bz (mB M 1 1))) + (bz (mB M 1 2))) + (bz (mB M 1 3)))] t Q := by
            refine x_iadd (pc' := 98) (z := (((((0 + (bz (mB M 1 0))) + (bz (mB M 1 1))) + (bz (mB M 1 2))) + (bz (mB M 1 3))) + (bz (mB M 1 4)))) rfl rfl rfl ?_
            refine x_istore (pc' := 100) (ls' := [_, _, _, _, _, _]) rfl rfl rfl rfl ?_
            refine x_iinc (pc' := 103) (y := 5) (ls' := [_, _, _, _, _, _]) rfl rfl rfl rfl rfl ?_
            refine x_goto (pc' := 73) rfl rfl ?_
            refine x_iload (pc' := 75) rfl rfl rfl ?_
            refine x_bipush (pc' := 77) rfl rfl ?_
            refine x_icmp (a' := 106) (pc' := 80) (z := false) rfl rfl rfl (by decide) (fun h => by cases h) (fun _ => ?_)
            refine x_iload (pc' := 82) rfl rfl rfl ?_
            refine x_aload_n (pc' := 83) rfl rfl rfl rfl rfl ?_
            refine x_gR (pc' := 86) (r := (some 1)) rfl rfl rfl (kR_780_0 hc) ?_
            refine x_iload (pc' := 88) rfl rfl rfl ?_
            refine x_bald (pc' := 89) (N := 6) (z := (mB M 1 5)) rfl rfl (kN_22_1 hc) (io_in (p := 5) (N := 6) (by decide) (by decide)) (Eq.trans (congrArg (sB t 22 1) (nn_io (p := 5) (by decide))) (gB hM)) ?_
            have J17 : X 212 97 [.inr (.inr (12, (some 0))), .inl (io m), .inl p, .inl (bz true), .inl (((((0 + (bz (mB M 1 0))) + (bz (mB M 1 1))) + (bz (mB M 1 2))) + (bz (mB M 1 3))) + (bz (mB M 1 4))), .inl 5] [.inl (bz (mB M 1 5)), .inl (((((0 + (bz (mB M 1 0))) + (bz (mB M 1 1))) + (bz (mB M 1 2))) + (bz (mB M 1 3))) + (bz (mB M 1 4)))] t Q := by
              refine x_iadd (pc' := 98) (z := ((((((0 + (bz (mB M 1 0))) + (bz (mB M 1 1))) + (bz (mB M 1 2))) + (bz (mB M 1 3))) + (bz (mB M 1 4))) + (bz (mB M 1 5)))) rfl rfl rfl ?_
              refine x_istore (pc' := 100) (ls' := [_, _, _, _, _, _]) rfl rfl rfl rfl ?_
              refine x_iinc (pc' := 103) (y := 6) (ls' := [_, _, _, _, _, _]) rfl rfl rfl rfl rfl ?_
              refine x_goto (pc' := 73) rfl rfl ?_
              refine x_iload (pc' := 75) rfl rfl rfl ?_
              refine x_bipush (pc' := 77) rfl rfl ?_
              refine x_icmp (a' := 106) (pc' := 80) (z := true) rfl rfl rfl (by decide) (fun _ => ?_) (fun h => by cases h)
              refine x_iload (pc' := 108) rfl rfl rfl ?_
              refine x_reti rfl rfl ?_
              exact k0
            refine x_ifeq_z (a' := 96) (pc' := 92) (z := (mB M 1 5)) rfl rfl rfl (fun q17 => ?_) (fun q17 => ?_)
            · refine x_iconst (pc' := 97) rfl rfl ?_
              ((try rw [q17] at J17); (try rw [q17]); (try simp only [cd_t, cd_f, nt_t, nt_f, an_t, an_f, or_t, or_f] at J17); (try simp only [cd_t, cd_f, nt_t, nt_f, an_t, an_f, or_t, or_f]); exact J17)
            · refine x_iconst (pc' := 93) rfl rfl ?_
              refine x_goto (pc' := 97) rfl rfl ?_
              ((try rw [q17] at J17); (try rw [q17]); (try simp only [cd_t, cd_f, nt_t, nt_f, an_t, an_f, or_t, or_f] at J17); (try simp only [cd_t, cd_f, nt_t, nt_f, an_t, an_f, or_t, or_f]); exact J17)
          refine x_ifeq_z (a' := 96) (pc' := 92) (z := (mB M 1 4)) rfl rfl rfl (fun q14 => ?_) (fun q14 => ?_)
          · refine x_iconst (pc' := 97) rfl rfl ?_
            ((try rw [q14] at J14); (try rw [q14]); (try simp only [cd_t, cd_f, nt_t, nt_f, an_t, an_f, or_t, or_f] at J14); (try simp only [cd_t, cd_f, nt_t, nt_f, an_t, an_f, or_t, or_f]); exact J14)
          · refine x_iconst (pc' := 93) rfl rfl ?_
            refine x_goto (pc' := 97) rfl rfl ?_
            ((try rw [q14] at J14); (try rw [q14]); (try simp only [cd_t, cd_f, nt_t, nt_f, an_t, an_f, or_t, or_f] at J14); (try simp only [cd_t, cd_f, nt_t, nt_f, an_t, an_f, or_t, or_f]); exact J14)
        refine x_ifeq_z (a' := 96) (pc' := 92) (z := (mB M 1 3)) rfl rfl rfl (fun q11 => ?_) (fun q11 => ?_)
        · refine x_iconst (pc' := 97) rfl rfl ?_
          ((try rw [q11] at J11); (try rw [q11]); (try simp only [cd_t, cd_f, nt_t, nt_f, an_t, an_f, or_t, or_f] at J11); (try simp only [cd_t, cd_f, nt_t, nt_f, an_t, an_f, or_t, or_f]); exact J11)
        · refine x_iconst (pc' := 93) rfl rfl ?_
          refine x_goto (pc' := 97) rfl rfl ?_
          ((try rw [q11] at J11); (try rw [q11]); (try simp only [cd_t, cd_f, nt_t, nt_f, an_t, an_f, or_t, or_f] at J11); (try simp only [cd_t, cd_f, nt_t, nt_f, an_t, an_f, or_t, or_f]); exact J11)
      refine x_ifeq_z (a' := 96) (pc' := 92) (z := (mB M 1 2)) rfl rfl rfl (fun q8 => ?_) (fun q8 => ?_)
      · refine x_iconst (pc' := 97) rfl rfl ?_
        ((try rw [q8] at J8); (try rw [q8]); (try simp only [cd_t, cd_f, nt_t, nt_f, an_t, an_f, or_t, or_f] at J8); (try simp only [cd_t, cd_f, nt_t, nt_f, an_t, an_f, or_t, or_f]); exact J8)
      · refine x_iconst (pc' := 93) rfl rfl ?_
        refine x_goto (pc' := 97) rfl rfl ?_
        ((try rw [q8] at J8); (try rw [q8]); (try simp only [cd_t, cd_f, nt_t, nt_f, an_t, an_f, or_t, or_f] at J8); (try simp only [cd_t, cd_f, nt_t, nt_f, an_t, an_f, or_t, or_f]); exact J8)
    refine x_ifeq_z (a' := 96) (pc' := 92) (z := (mB M 1 1)) rfl rfl rfl (fun q5 => ?_) (fun q5 => ?_)
    · refine x_iconst (pc' := 97) rfl rfl ?_
      ((try rw [q5] at J5); (try rw [q5]); (try simp only [cd_t, cd_f, nt_t, nt_f, an_t, an_f, or_t, or_f] at J5); (try simp only [cd_t, cd_f, nt_t, nt_f, an_t, an_f, or_t, or_f]); exact J5)
    · refine x_iconst (pc' := 93) rfl rfl ?_
      refine x_goto (pc' := 97) rfl rfl ?_
      ((try rw [q5] at J5); (try rw [q5]); (try simp only [cd_t, cd_f, nt_t, nt_f, an_t, an_f, or_t, or_f] at J5); (try simp only [cd_t, cd_f, nt_t, nt_f, an_t, an_f, or_t, or_f]); exact J5)
  refine x_ifeq_z (a' := 96) (pc' := 92) (z := (mB M 1 0)) rfl rfl rfl (fun q2 => ?_) (fun q2 => ?_)
  · refine x_iconst (pc' := 97) rfl rfl ?_
    ((try rw [q2] at J2); (try rw [q2]); (try simp only [cd_t, cd_f, nt_t, nt_f, an_t, an_f, or_t, or_f] at J2); (try simp only [cd_t, cd_f, nt_t, nt_f, an_t, an_f, or_t, or_f]); exact J2)
  · refine x_iconst (pc' := 93) rfl rfl ?_
    refine x_goto (pc' := 97) rfl rfl ?_
    ((try rw [q2] at J2); (try rw [q2]); (try simp only [cd_t, cd_f, nt_t, nt_f, an_t, an_f, or_t, or_f] at J2); (try simp only [cd_t, cd_f, nt_t, nt_f, an_t, an_f, or_t, or_f]); exact J2)
def mvF (M : sM) (c : Nat) (m : Nat) (o : Nat) (p : Int32) (a : Int32) : sM := (mAw (mAw (mAw (mAw M 6 ((3 * m) + c) ((mA M 6 ((3 * m) + c)) + a)) 6 ((3 * o) + c) ((mA (mAw M 6 ((3 * m) + c) ((mA M 6 ((3 * m) + c)) + a)) 6 ((3 * o) + c)) - a)) 5 m ((mA M 5 m) - (p * a))) 5 o ((mA (mAw (mAw (mAw M 6 ((3 * m) + c) ((mA M 6 ((3 * m) + c)) + a)) 6 ((3 * o) + c) ((mA (mAw M 6 ((3 * m) + c) ((mA M 6 ((3 * m) + c)) + a)) 6 ((3 * o) + c)) - a)) 5 m ((mA M 5 m) - (p * a))) 5 o) + (p * a)))
theorem Fr_mvF {M M0 : sM} {c : Nat} {m : Nat} {o : Nat} {p : Int32} {a : Int32} (fr : Fr M M0) : Fr (mvF M c m o p a) M0 := (Fr_A rfl (Fr_A rfl (Fr_A rfl (Fr_A rfl fr))))
set_option maxHeartbeats 4000000 in
set_option maxRecDepth 10000 in
theorem r163 {t : sT} {Q : sRs → sT → Prop} {M : sM} {n : Nat} {c : Nat} {m : Nat} {o : Nat} {p : Int32} {a : Int32}
    (hM : rp t = M)
    (hc : Cn t)
    (hR : Ri M n)
    (hc3 : c < 3)
    (hm : m < 6)
    (ho : o < 6)
    (q : ∀ t', rp t' = mvF M c m o p a → cp t' = cp t → sp t' = sp t → Q (.inl none) t') :
    X 163 0 [.inr (.inr (12, (some 0))), .inl (io c), .inl (io m), .inl (io o), .inl p, .inl a] [] t Q := by
  refine x_aload_n (pc' := 1) rfl rfl rfl rfl rfl ?_
  refine x_gR (pc' := 4) (r := (some 6)) rfl rfl rfl (kR_776_0 hc) ?_
  refine x_iconst (pc' := 5) rfl rfl ?_
  refine x_iload_n (pc' := 6) rfl rfl rfl ?_
  refine x_imul (pc' := 7) (z := (io (3 * m))) rfl rfl (io_mul 3 m) ?_
  refine x_iload_n (pc' := 8) rfl rfl rfl ?_
  refine x_iadd (pc' := 9) (z := (io ((3 * m) + c))) rfl rfl (io_add (3 * m) c) ?_
  refine x_dup2 (pc' := 10) rfl rfl rfl rfl ?_
  refine x_iald (pc' := 11) (N := 18) (x := (mA M 6 ((3 * m) + c))) rfl rfl rfl (kN_21_6 hc) (io_in (p := ((3 * m) + c)) (N := 18) (show ((3 * m) + c) < 18 by omega) (by decide)) (Eq.trans (congrArg (sA t 21 6) (nn_io (p := ((3 * m) + c)) (Nat.lt_trans (show ((3 * m) + c) < 18 by omega) (by decide)))) (gA hM rfl)) ?_
  refine x_iload (pc' := 13) rfl rfl rfl ?_
  refine x_iadd (pc' := 14) (z := ((mA M 6 ((3 * m) + c)) + a)) rfl rfl rfl ?_
  refine x_iast (pc' := 15) (N := 18) (p := ((3 * m) + c)) rfl rfl rfl (kN_21_6 hc) (io_in (p := ((3 * m) + c)) (N := 18) (show ((3 * m) + c) < 18 by omega) (by decide)) (nn_io (p := ((3 * m) + c)) (Nat.lt_trans (show ((3 * m) + c) < 18 by omega) (by decide))) ?_
  refine x_aload_n (pc' := 16) rfl rfl rfl rfl rfl ?_
  refine x_gR (pc' := 19) (r := (some 6)) rfl rfl rfl (Eq.trans (b := sR t 776 0) rfl (kR_776_0 hc)) ?_
  refine x_iconst (pc' := 20) rfl rfl ?_
  refine x_iload_n (pc' := 21) rfl rfl rfl ?_
  refine x_imul (pc' := 22) (z := (io (3 * o))) rfl rfl (io_mul 3 o) ?_
  refine x_iload_n (pc' := 23) rfl rfl rfl ?_
  refine x_iadd (pc' := 24) (z := (io ((3 * o) + c))) rfl rfl (io_add (3 * o) c) ?_
  refine x_dup2 (pc' := 25) rfl rfl rfl rfl ?_
  refine x_iald (pc' := 26) (N := 18) (x := (mA (mAw M 6 ((3 * m) + c) ((mA M 6 ((3 * m) + c)) + a)) 6 ((3 * o) + c))) rfl rfl rfl (Eq.trans rdNA (kN_21_6 hc)) (io_in (p := ((3 * o) + c)) (N := 18) (show ((3 * o) + c) < 18 by omega) (by decide)) (Eq.trans (congrArg (sA (sAw t 21 6 ((3 * m) + c) ((mA M 6 ((3 * m) + c)) + a)) 21 6) (nn_io (p := ((3 * o) + c)) (Nat.lt_trans (show ((3 * o) + c) < 18 by omega) (by decide)))) (gA ((rp_A rfl).trans (congrArg (fun z => mAw z 6 ((3 * m) + c) ((mA M 6 ((3 * m) + c)) + a)) hM)) rfl)) ?_
  refine x_iload (pc' := 28) rfl rfl rfl ?_
  refine x_isub (pc' := 29) (z := ((mA (mAw M 6 ((3 * m) + c) ((mA M 6 ((3 * m) + c)) + a)) 6 ((3 * o) + c)) - a)) rfl rfl rfl ?_
  refine x_iast (pc' := 30) (N := 18) (p := ((3 * o) + c)) rfl rfl rfl (Eq.trans rdNA (kN_21_6 hc)) (io_in (p := ((3 * o) + c)) (N := 18) (show ((3 * o) + c) < 18 by omega) (by decide)) (nn_io (p := ((3 * o) + c)) (Nat.lt_trans (show ((3 * o) + c) < 18 by omega) (by decide))) ?_
  refine x_aload_n (pc' := 31) rfl rfl rfl rfl rfl ?_
  refine x_gR (pc' := 34) (r := (some 5)) rfl rfl rfl (Eq.trans (b := sR t 775 0) rfl (kR_775_0 hc)) ?_
  refine x_iload_n (pc' := 35) rfl rfl rfl ?_
  refine x_dup2 (pc' := 36) rfl rfl rfl rfl ?_
  refine x_iald (pc' := 37) (N := 6) (x := (mA M 5 m)) rfl rfl rfl (Eq.trans rdNA (Eq.trans rdNA (kN_21_5 hc))) (io_in (p := m) (N := 6) hm (by decide)) (Eq.trans (congrArg (sA (sAw (sAw t 21 6 ((3 * m) + c) ((mA M 6 ((3 * m) + c)) + a)) 21 6 ((3 * o) + c) ((mA (mAw M 6 ((3 * m) + c) ((mA M 6 ((3 * m) + c)) + a)) 6 ((3 * o) + c)) - a)) 21 5) (nn_io (p := m) (Nat.lt_trans hm (by decide)))) (Eq.trans (b := sA t 21 5 m) rfl (gA hM rfl))) ?_
  refine x_iload (pc' := 39) rfl rfl rfl ?_
  refine x_iload (pc' := 41) rfl rfl rfl ?_
  refine x_imul (pc' := 42) (z := (p * a)) rfl rfl rfl ?_
  refine x_isub (pc' := 43) (z := ((mA M 5 m) - (p * a))) rfl rfl rfl ?_
  refine x_iast (pc' := 44) (N := 6) (p := m) rfl rfl rfl (Eq.trans rdNA (Eq.trans rdNA (kN_21_5 hc))) (io_in (p := m) (N := 6) hm (by decide)) (nn_io (p := m) (Nat.lt_trans hm (by decide))) ?_
  refine x_aload_n (pc' := 45) rfl rfl rfl rfl rfl ?_
  refine x_gR (pc' := 48) (r := (some 5)) rfl rfl rfl (Eq.trans (b := sR t 775 0) rfl (kR_775_0 hc)) ?_
  refine x_iload_n (pc' := 49) rfl rfl rfl ?_
  refine x_dup2 (pc' := 50) rfl rfl rfl rfl ?_
  refine x_iald (pc' := 51) (N := 6) (x := (mA (mAw (mAw (mAw M 6 ((3 * m) + c) ((mA M 6 ((3 * m) + c)) + a)) 6 ((3 * o) + c) ((mA (mAw M 6 ((3 * m) + c) ((mA M 6 ((3 * m) + c)) + a)) 6 ((3 * o) + c)) - a)) 5 m ((mA M 5 m) - (p * a))) 5 o)) rfl rfl rfl (Eq.trans rdNA (Eq.trans rdNA (Eq.trans rdNA (kN_21_5 hc)))) (io_in (p := o) (N := 6) ho (by decide)) (Eq.trans (congrArg (sA (sAw (sAw (sAw t 21 6 ((3 * m) + c) ((mA M 6 ((3 * m) + c)) + a)) 21 6 ((3 * o) + c) ((mA (mAw M 6 ((3 * m) + c) ((mA M 6 ((3 * m) + c)) + a)) 6 ((3 * o) + c)) - a)) 21 5 m ((mA M 5 m) - (p * a))) 21 5) (nn_io (p := o) (Nat.lt_trans ho (by decide)))) (gA ((rp_A rfl).trans (congrArg (fun z => mAw z 5 m ((mA M 5 m) - (p * a))) ((rp_A rfl).trans (congrArg (fun z => mAw z 6 ((3 * o) + c) ((mA (mAw M 6 ((3 * m) + c) ((mA M 6 ((3 * m) + c)) + a)) 6 ((3 * o) + c)) - a)) ((rp_A rfl).trans (congrArg (fun z => mAw z 6 ((3 * m) + c) ((mA M 6 ((3 * m) + c)) + a)) hM)))))) rfl)) ?_
  refine x_iload (pc' := 53) rfl rfl rfl ?_
  refine x_iload (pc' := 55) rfl rfl rfl ?_
  refine x_imul (pc' := 56) (z := (p * a)) rfl rfl rfl ?_
  refine x_iadd (pc' := 57) (z := ((mA (mAw (mAw (mAw M 6 ((3 * m) + c) ((mA M 6 ((3 * m) + c)) + a)) 6 ((3 * o) + c) ((mA (mAw M 6 ((3 * m) + c) ((mA M 6 ((3 * m) + c)) + a)) 6 ((3 * o) + c)) - a)) 5 m ((mA M 5 m) - (p * a))) 5 o) + (p * a))) rfl rfl rfl ?_
  refine x_iast (pc' := 58) (N := 6) (p := o) rfl rfl rfl (Eq.trans rdNA (Eq.trans rdNA (Eq.trans rdNA (kN_21_5 hc)))) (io_in (p := o) (N := 6) ho (by decide)) (nn_io (p := o) (Nat.lt_trans ho (by decide))) ?_
  refine x_ret rfl ?_
  exact (q _ ((rp_A rfl).trans (congrArg (fun z => mAw z 5 o ((mA (mAw (mAw (mAw M 6 ((3 * m) + c) ((mA M 6 ((3 * m) + c)) + a)) 6 ((3 * o) + c) ((mA (mAw M 6 ((3 * m) + c) ((mA M 6 ((3 * m) + c)) + a)) 6 ((3 * o) + c)) - a)) 5 m ((mA M 5 m) - (p * a))) 5 o) + (p * a))) ((rp_A rfl).trans (congrArg (fun z => mAw z 5 m ((mA M 5 m) - (p * a))) ((rp_A rfl).trans (congrArg (fun z => mAw z 6 ((3 * o) + c) ((mA (mAw M 6 ((3 * m) + c) ((mA M 6 ((3 * m) + c)) + a)) 6 ((3 * o) + c)) - a)) ((rp_A rfl).trans (congrArg (fun z => mAw z 6 ((3 * m) + c) ((mA M 6 ((3 * m) + c)) + a)) hM)))))))) (cp_A.trans (cp_A.trans (cp_A.trans cp_A))) ((sp_A rfl).trans ((sp_A rfl).trans ((sp_A rfl).trans (sp_A rfl)))))
def rqS (M : sM) (n : Nat) (m : Nat) (c : Nat) (k : Nat) (a : Int32) : Int32 := (a + ((bif (decide ((tB M k) = m)) then (bif (decide ((tK M k) = c)) then (bif (mB M 7 k) then 0 else (mA M 25 k)) else 0) else 0) - (bif (decide ((tS M k) = m)) then (bif (decide ((tK M k) = c)) then (bif (mB M 7 k) then 0 else (mA M 25 k)) else 0) else 0)))
def rqL (M : sM) (n : Nat) (m : Nat) (c : Nat) (a : Int32) : Nat → Int32
  | 0 => a
  | k + 1 => rqS M n m c k (rqL M n m c a k)
set_option maxHeartbeats 4000000 in
set_option maxRecDepth 10000 in
theorem r235_33_b {t : sT} {Q : sRs → sT → Prop} {M : sM} {n : Nat} {k : Nat} {T : Nat} {m : Nat} {c : Nat} {a : Int32} {d0 : sV}
    (hM : rp t = M)
    (hc : Cn t)
    (hR : Ri M n)
    (hk : k < T)
    (hT : mI M 801 = io T)
    (hT4 : T < 4096)
    (hTi : Ti M T)
    (hm : m < 6)
    (hc3 : c < 3)
    (q : ∀ (e0 : sV), X 235 33 [.inr (.inr (12, (some 0))), .inl (io m), .inl (io c), .inl (rqS M n m c k a), .inl (io (k + 1)), e0] [] t Q) :
    X 235 33 [.inr (.inr (12, (some 0))), .inl (io m), .inl (io c), .inl a, .inl (io k), d0] [] t Q := by
  refine x_iload (pc' := 35) rfl rfl rfl ?_
  refine x_aload_n (pc' := 36) rfl rfl rfl rfl rfl ?_
  refine x_gI (pc' := 39) (x := (io T)) rfl rfl rfl ((gI hM rfl).trans hT) ?_
  refine x_icmp_n (a' := 120) (pc' := 42) (z := decide (k < T)) rfl rfl rfl (ic_gen (p := k) (q := T) (Nat.lt_trans hk (Nat.lt_trans hT4 (by decide))) (Nat.lt_trans hT4 (by decide))) (fun h => absurd hk (of_decide_eq_false h)) (fun _ => ?_)
  refine x_aload_n (pc' := 43) rfl rfl rfl rfl rfl ?_
  refine x_gR (pc' := 46) (r := (some 21)) rfl rfl rfl (kR_802_0 hc) ?_
  refine x_iload (pc' := 48) rfl rfl rfl ?_
  refine x_iald (pc' := 49) (N := 4096) (x := (io (tK M k))) rfl rfl rfl (kN_21_21 hc) (io_in (p := k) (N := 4096) (Nat.lt_trans hk hT4) (by decide)) (Eq.trans (congrArg (sA t 21 21) (nn_io (p := k) (Nat.lt_trans (Nat.lt_trans hk hT4) (by decide)))) ((gA hM rfl).trans (hTi.2.2 _ hk).1.1)) ?_
  refine x_iload_n (pc' := 50) rfl rfl rfl ?_
  have J3 : X 235 74 [.inr (.inr (12, (some 0))), .inl (io m), .inl (io c), .inl a, .inl (io k), d0] [.inl (bif (decide ((tK M k) = c)) then (bif (mB M 7 k) then 0 else (mA M 25 k)) else 0)] t Q := by
    refine x_istore (pc' := 76) (ls' := [_, _, _, _, _, _]) rfl rfl rfl rfl ?_
    refine x_iload_n (pc' := 77) rfl rfl rfl ?_
    refine x_aload_n (pc' := 78) rfl rfl rfl rfl rfl ?_
    refine x_gR (pc' := 81) (r := (some 22)) rfl rfl rfl (kR_803_0 hc) ?_
    refine x_iload (pc' := 83) rfl rfl rfl ?_
    refine x_iald (pc' := 84) (N := 4096) (x := (io (tB M k))) rfl rfl rfl (kN_21_22 hc) (io_in (p := k) (N := 4096) (Nat.lt_trans hk hT4) (by decide)) (Eq.trans (congrArg (sA t 21 22) (nn_io (p := k) (Nat.lt_trans (Nat.lt_trans hk hT4) (by decide)))) ((gA hM rfl).trans (hTi.2.2 _ hk).2.1.1)) ?_
    refine x_iload_n (pc' := 85) rfl rfl rfl ?_
    have J5 : X 235 94 [.inr (.inr (12, (some 0))), .inl (io m), .inl (io c), .inl a, .inl (io k), .inl (bif (decide ((tK M k) = c)) then (bif (mB M 7 k) then 0 else (mA M 25 k)) else 0)] [.inl (bif (decide ((tB M k) = m)) then (bif (decide ((tK M k) = c)) then (bif (mB M 7 k) then 0 else (mA M 25 k)) else 0) else 0), .inl a] t Q := by
      refine x_aload_n (pc' := 95) rfl rfl rfl rfl rfl ?_
      refine x_gR (pc' := 98) (r := (some 23)) rfl rfl rfl (kR_804_0 hc) ?_
      refine x_iload (pc' := 100) rfl rfl rfl ?_
      refine x_iald (pc' := 101) (N := 4096) (x := (io (tS M k))) rfl rfl rfl (kN_21_23 hc) (io_in (p := k) (N := 4096) (Nat.lt_trans hk hT4) (by decide)) (Eq.trans (congrArg (sA t 21 23) (nn_io (p := k) (Nat.lt_trans (Nat.lt_trans hk hT4) (by decide)))) ((gA hM rfl).trans (hTi.2.2 _ hk).2.2.1)) ?_
      refine x_iload_n (pc' := 102) rfl rfl rfl ?_
      have J7 : X 235 111 [.inr (.inr (12, (some 0))), .inl (io m), .inl (io c), .inl a, .inl (io k), .inl (bif (decide ((tK M k) = c)) then (bif (mB M 7 k) then 0 else (mA M 25 k)) else 0)] [.inl (bif (decide ((tS M k) = m)) then (bif (decide ((tK M k) = c)) then (bif (mB M 7 k) then 0 else (mA M 25 k)) else 0) else 0), .inl (bif (decide ((tB M k) = m)) then (bif (decide ((tK M k) = c)) then (bif (mB M 7 k) then 0 else (mA M 25 k)) else 0) else 0), .inl a] t Q := by
        refine x_isub (pc' := 112) (z := ((bif (decide ((tB M k) = m)) then (bif (decide ((tK M k) = c)) then (bif (mB M 7 k) then 0 else (mA M 25 k)) else 0) else 0) - (bif (decide ((tS M k) = m)) then (bif (decide ((tK M k) = c)) then (bif (mB M 7 k) then 0 else (mA M 25 k)) else 0) else 0))) rfl rfl rfl ?_
        refine x_iadd (pc' := 113) (z := (a + ((bif (decide ((tB M k) = m)) then (bif (decide ((tK M k) = c)) then (bif (mB M 7 k) then 0 else (mA M 25 k)) else 0) else 0) - (bif (decide ((tS M k) = m)) then (bif (decide ((tK M k) = c)) then (bif (mB M 7 k) then 0 else (mA M 25 k)) else 0) else 0)))) rfl rfl rfl ?_
        refine x_istore_n (pc' := 114) (ls' := [_, _, _, _, _, _]) rfl rfl rfl rfl ?_
        refine x_iinc (pc' := 117) (y := (io (k + 1))) (ls' := [_, _, _, _, _, _]) rfl rfl rfl (io_add k 1) rfl ?_
        refine x_goto (pc' := 33) rfl rfl ?_
        exact q (.inl (bif (decide ((tK M k) = c)) then (bif (mB M 7 k) then 0 else (mA M 25 k)) else 0))
      refine x_icmp_n (a' := 110) (pc' := 105) (z := decide ((tS M k) = m)) rfl rfl rfl (ic_nen (p := (tS M k)) (q := m) (Nat.lt_trans (hTi.2.2 _ hk).2.2.2 (by decide)) (gm31 hm)) (fun q7 => ?_) (fun q7 => ?_)
      · refine x_iconst (pc' := 111) rfl rfl ?_
        ((try rw [q7] at J7); (try rw [q7]); (try simp only [cd_t, cd_f, nt_t, nt_f, an_t, an_f, or_t, or_f] at J7); (try simp only [cd_t, cd_f, nt_t, nt_f, an_t, an_f, or_t, or_f]); exact J7)
      · refine x_iload (pc' := 107) rfl rfl rfl ?_
        refine x_goto (pc' := 111) rfl rfl ?_
        ((try rw [q7] at J7); (try rw [q7]); (try simp only [cd_t, cd_f, nt_t, nt_f, an_t, an_f, or_t, or_f] at J7); (try simp only [cd_t, cd_f, nt_t, nt_f, an_t, an_f, or_t, or_f]); exact J7)
    refine x_icmp_n (a' := 93) (pc' := 88) (z := decide ((tB M k) = m)) rfl rfl rfl (ic_nen (p := (tB M k)) (q := m) (Nat.lt_trans (hTi.2.2 _ hk).2.1.2 (by decide)) (gm31 hm)) (fun q5 => ?_) (fun q5 => ?_)
    · refine x_iconst (pc' := 94) rfl rfl ?_
      ((try rw [q5] at J5); (try rw [q5]); (try simp only [cd_t, cd_f, nt_t, nt_f, an_t, an_f, or_t, or_f] at J5); (try simp only [cd_t, cd_f, nt_t, nt_f, an_t, an_f, or_t, or_f]); exact J5)
    · refine x_iload (pc' := 90) rfl rfl rfl ?_
      refine x_goto (pc' := 94) rfl rfl ?_
      ((try rw [q5] at J5); (try rw [q5]); (try simp only [cd_t, cd_f, nt_t, nt_f, an_t, an_f, or_t, or_f] at J5); (try simp only [cd_t, cd_f, nt_t, nt_f, an_t, an_f, or_t, or_f]); exact J5)
  refine x_icmp_n (a' := 73) (pc' := 53) (z := decide ((tK M k) = c)) rfl rfl rfl (ic_nen (p := (tK M k)) (q := c) (Nat.lt_trans (hTi.2.2 _ hk).1.2 (by decide)) (gc31 hc3)) (fun q2 => ?_) (fun q2 => ?_)
  · refine x_iconst (pc' := 74) rfl rfl ?_
    ((try rw [q2] at J3); (try rw [q2]); (try simp only [cd_t, cd_f, nt_t, nt_f, an_t, an_f, or_t, or_f] at J3); (try simp only [cd_t, cd_f, nt_t, nt_f, an_t, an_f, or_t, or_f]); exact J3)
  · refine x_aload_n (pc' := 54) rfl rfl rfl rfl rfl ?_
    refine x_gR (pc' := 57) (r := (some 7)) rfl rfl rfl (kR_807_0 hc) ?_
    refine x_iload (pc' := 59) rfl rfl rfl ?_
    refine x_bald (pc' := 60) (N := 4096) (z := (mB M 7 k)) rfl rfl (kN_22_7 hc) (io_in (p := k) (N := 4096) (Nat.lt_trans hk hT4) (by decide)) (Eq.trans (congrArg (sB t 22 7) (nn_io (p := k) (Nat.lt_trans (Nat.lt_trans hk hT4) (by decide)))) (gB hM)) ?_
    refine x_ifne_z (a' := 73) (pc' := 63) (z := (mB M 7 k)) rfl rfl rfl (fun q3 => ?_) (fun q3 => ?_)
    · refine x_iconst (pc' := 74) rfl rfl ?_
      ((try rw [q3] at J3); (try rw [q3]); (try rw [q2] at J3); (try rw [q2]); (try simp only [cd_t, cd_f, nt_t, nt_f, an_t, an_f, or_t, or_f] at J3); (try simp only [cd_t, cd_f, nt_t, nt_f, an_t, an_f, or_t, or_f]); exact J3)
    · refine x_aload_n (pc' := 64) rfl rfl rfl rfl rfl ?_
      refine x_gR (pc' := 67) (r := (some 25)) rfl rfl rfl (kR_806_0 hc) ?_
      refine x_iload (pc' := 69) rfl rfl rfl ?_
      refine x_iald (pc' := 70) (N := 4096) (x := (mA M 25 k)) rfl rfl rfl (kN_21_25 hc) (io_in (p := k) (N := 4096) (Nat.lt_trans hk hT4) (by decide)) (Eq.trans (congrArg (sA t 21 25) (nn_io (p := k) (Nat.lt_trans (Nat.lt_trans hk hT4) (by decide)))) (gA hM rfl)) ?_
      refine x_goto (pc' := 74) rfl rfl ?_
      ((try rw [q3] at J3); (try rw [q3]); (try rw [q2] at J3); (try rw [q2]); (try simp only [cd_t, cd_f, nt_t, nt_f, an_t, an_f, or_t, or_f] at J3); (try simp only [cd_t, cd_f, nt_t, nt_f, an_t, an_f, or_t, or_f]); exact J3)
set_option maxHeartbeats 4000000 in
set_option maxRecDepth 10000 in
theorem r235_33 {t : sT} {Q : sRs → sT → Prop} {M : sM} {n : Nat} {T : Nat} {m : Nat} {c : Nat} {a : Int32} {d0 : sV}
    (hM : rp t = M)
    (hc : Cn t)
    (hR : Ri M n)
    (hT : mI M 801 = io T)
    (hT4 : T < 4096)
    (hTi : Ti M T)
    (hm : m < 6)
    (hc3 : c < 3)
    (q : ∀ (e0 : sV), X 235 33 [.inr (.inr (12, (some 0))), .inl (io m), .inl (io c), .inl (rqL M n m c a T), .inl (io T), e0] [] t Q) :
    X 235 33 [.inr (.inr (12, (some 0))), .inl (io m), .inl (io c), .inl a, .inl (io 0), d0] [] t Q := by
  refine lp0 (n := T) (fun k ls u => (∃ e0, ls = [.inr (.inr (12, (some 0))), .inl (io m), .inl (io c), .inl (rqL M n m c a k), .inl (io k), e0]) ∧ u = t) ⟨⟨_, rfl⟩, rfl⟩ ?_ ?_
  · rintro k ls u hk ⟨⟨e0, rfl⟩, rfl⟩ ih
    refine r235_33_b hM hc hR hk hT hT4 hTi hm hc3 ?_
    intro x0'
    exact ih _ _ ⟨⟨_, rfl⟩, rfl⟩
  · rintro ls u ⟨⟨e0, rfl⟩, rfl⟩
    exact q e0
set_option maxHeartbeats 4000000 in
set_option maxRecDepth 10000 in
theorem r235_e {t : sT} {Q : sRs → sT → Prop} {M : sM} {n : Nat} {T : Nat} {m : Nat} {c : Nat} {a : Int32} {y0 : sV}
    (hV : Vr t M n)
    (hT : mI M 801 = io T)
    (hT4 : T < 4096)
    (hm : m < 6)
    (hc3 : c < 3)
    (k0 : Q (.inl (some (.inl a))) t) :
    X 235 33 [.inr (.inr (12, (some 0))), .inl (io m), .inl (io c), .inl a, .inl (io T), y0] [] t Q := by
  obtain ⟨hM, hc, hR⟩ := hV
  refine x_iload (pc' := 35) rfl rfl rfl ?_
  refine x_aload_n (pc' := 36) rfl rfl rfl rfl rfl ?_
  refine x_gI (pc' := 39) (x := (io T)) rfl rfl rfl ((gI hM rfl).trans hT) ?_
  refine x_icmp_n (a' := 120) (pc' := 42) (z := decide (T < T)) rfl rfl rfl (ic_gen (p := T) (q := T) (Nat.lt_trans hT4 (by decide)) (Nat.lt_trans hT4 (by decide))) (fun _ => ?_) (fun h => absurd (of_decide_eq_true h) (by first | decide | omega | simp))
  refine x_iload_n (pc' := 121) rfl rfl rfl ?_
  refine x_reti rfl rfl ?_
  exact k0
