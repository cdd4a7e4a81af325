/-! the class's auction price, in pieces (printed by ext99n.py) -/
theorem n3_0 {t : sT} {Q : sRs → sT → Prop} {M : sM} {n : Nat} {T : Nat} {L0 : List Nat} {A : Nat} {B : Nat} {b : Nat} {s : Bool} {p : Int32}
    (hW : Wc t M n T L0 A B)
    (hb : b < 5)
    (k0 : s = false → X 3 9 [.inr (.inr (1, (some b))), .inl (bz s), .inl p, .inl 0, .inr (.inr (8, (bsF M n b false)))] [] t Q)
    (k1 : s = true → X 3 9 [.inr (.inr (1, (some b))), .inl (bz s), .inl p, .inl 0, .inr (.inr (8, (bsF M n b true)))] [] t Q) :
    X 3 0 [.inr (.inr (1, (some b))), .inl (bz s), .inl p, sJk, sJk] [] t Q := by
  obtain ⟨hM, hc, hR, hC, hL, hL9⟩ := hW
  refine x_iconst (pc' := 1) rfl rfl ?_
  refine x_istore_n (pc' := 2) (ls' := [_, _, _, _, _]) rfl rfl rfl rfl ?_
  refine x_aload_n (pc' := 3) rfl rfl rfl rfl rfl ?_
  refine x_iload_n (pc' := 4) rfl rfl rfl ?_
  refine x_cv (ls0 := [_, _]) (rest := []) rfl rfl rfl rfl rfl ?_
  refine x_iload_n (pc' := 1) rfl rfl rfl ?_
  refine x_ifeq_z (a' := 11) (pc' := 4) (z := s) rfl rfl rfl (fun q1 => ?_) (fun q1 => ?_)
  · refine x_aload_n (pc' := 12) rfl rfl rfl rfl rfl ?_
    refine x_gR (pc' := 15) (r := (bsF M n b false)) rfl rfl rfl (bs_70 hC (Fr.ri (Fr.refl _) hR) hM hb) ?_
    refine x_reta rfl rfl ?_
    refine sK_i (pc' := 7) rfl ?_
    refine x_astore (pc' := 9) (ls' := [_, _, _, _, _]) rfl rfl rfl rfl rfl ?_
    exact k0 q1
  · refine x_aload_n (pc' := 5) rfl rfl rfl rfl rfl ?_
    refine x_gR (pc' := 8) (r := (bsF M n b true)) rfl rfl rfl (bs_69 hC (Fr.ri (Fr.refl _) hR) hM hb) ?_
    refine x_goto (pc' := 15) rfl rfl ?_
    refine x_reta rfl rfl ?_
    refine sK_i (pc' := 7) rfl ?_
    refine x_astore (pc' := 9) (ls' := [_, _, _, _, _]) rfl rfl rfl rfl rfl ?_
    exact k1 q1
theorem n3_n {t : sT} {Q : sRs → sT → Prop} {M : sM} {n : Nat} {T : Nat} {L0 : List Nat} {A : Nat} {B : Nat} {b : Nat} {s : Bool} {p : Int32} {a : Int32}
    (hW : Wc t M n T L0 A B)
    (hb : b < 5)
    (k0 : Q (.inl (some (.inl a))) t) :
    X 3 9 [.inr (.inr (1, (some b))), .inl (bz s), .inl p, .inl a, .inr (.inr (8, none))] [] t Q := by
  obtain ⟨hM, hc, hR, hC, hL, hL9⟩ := hW
  refine x_aload (pc' := 11) rfl rfl rfl rfl rfl ?_
  refine x_ifnull (a' := 41) (pc' := 14) rfl rfl rfl rfl (fun _ => ?_) (fun i h => by cases h)
  refine x_iload_n (pc' := 42) rfl rfl rfl ?_
  refine x_reti rfl rfl ?_
  exact k0
theorem n3_k {t : sT} {Q : sRs → sT → Prop} {M : sM} {n : Nat} {T : Nat} {L0 : List Nat} {A : Nat} {B : Nat} {b : Nat} {o : Nat} {s : Bool} {p : Int32} {a : Int32}
    (hW : Wc t M n T L0 A B)
    (hb : b < 5)
    (ho : o < n)
    (k0 : (mB M 3 o) = false → p < (mA M 14 o) → Q (.inl (some (.inl a))) t)
    (k1 : (mB M 3 o) = false → ¬ (p < (mA M 14 o)) → X 3 9 [.inr (.inr (1, (some b))), .inl (bz s), .inl p, .inl (a + (mA M 15 o)), .inr (.inr (8, (sR t 529 o)))] [] t Q)
    (k2 : (mB M 3 o) = true → (mA M 14 o) < p → Q (.inl (some (.inl a))) t)
    (k3 : (mB M 3 o) = true → ¬ ((mA M 14 o) < p) → X 3 9 [.inr (.inr (1, (some b))), .inl (bz s), .inl p, .inl (a + (mA M 15 o)), .inr (.inr (8, (sR t 529 o)))] [] t Q) :
    X 3 9 [.inr (.inr (1, (some b))), .inl (bz s), .inl p, .inl a, .inr (.inr (8, (some o)))] [] t Q := by
  obtain ⟨hM, hc, hR, hC, hL, hL9⟩ := hW
  refine x_aload (pc' := 11) rfl rfl rfl rfl rfl ?_
  refine x_ifnull (a' := 41) (pc' := 14) rfl rfl rfl rfl (fun h => by cases h) (fun _ _ => ?_)
  refine x_aload (pc' := 16) rfl rfl rfl rfl rfl ?_
  refine x_iload_n (pc' := 17) rfl rfl rfl ?_
  refine x_cv (ls0 := [_, _]) (rest := []) rfl rfl rfl rfl rfl ?_
  refine x_aload_n (pc' := 1) rfl rfl rfl rfl rfl ?_
  refine x_gZ (pc' := 4) (z := (mB M 3 o)) rfl rfl rfl ((kZ hM rfl ho).trans (congrFun (Fr.f3 (Fr.refl _)) _)) ?_
  refine x_ifeq_z (a' := 23) (pc' := 7) (z := (mB M 3 o)) rfl rfl rfl (fun q2 => ?_) (fun q2 => ?_)
  · refine x_iload_n (pc' := 24) rfl rfl rfl ?_
    refine x_aload_n (pc' := 25) rfl rfl rfl rfl rfl ?_
    refine x_gI (pc' := 28) (x := (mA M 14 o)) rfl rfl rfl ((kA hM rfl ho).trans (congrFun (Fr.f14 (Fr.refl _)) _)) ?_
    refine x_icmp (a' := 35) (pc' := 31) (z := decide (p < (mA M 14 o))) rfl rfl rfl rfl (fun q3 => ?_) (fun q3 => ?_)
    · refine x_iconst (pc' := 36) rfl rfl ?_
      refine x_retz (z := false) rfl rfl ?_
      refine sK_i (pc' := 20) rfl ?_
      refine x_if (a' := 41) (pc' := 23) (z := true) rfl rfl rfl (by decide) (fun _ => ?_) (fun h => by cases h)
      refine x_iload_n (pc' := 42) rfl rfl rfl ?_
      refine x_reti rfl rfl ?_
      exact k0 q2 (of_decide_eq_true q3)
    · refine x_iconst (pc' := 32) rfl rfl ?_
      refine x_goto (pc' := 36) rfl rfl ?_
      refine x_retz (z := true) rfl rfl ?_
      refine sK_i (pc' := 20) rfl ?_
      refine x_if (a' := 41) (pc' := 23) (z := false) rfl rfl rfl (by decide) (fun h => by cases h) (fun _ => ?_)
      refine x_iload_n (pc' := 24) rfl rfl rfl ?_
      refine x_aload (pc' := 26) rfl rfl rfl rfl rfl ?_
      refine x_gI (pc' := 29) (x := (mA M 15 o)) rfl rfl rfl (kA hM rfl ho) ?_
      refine x_iadd (pc' := 30) (z := (a + (mA M 15 o))) rfl rfl rfl ?_
      refine x_istore_n (pc' := 31) (ls' := [_, _, _, _, _]) rfl rfl rfl rfl ?_
      refine x_aload (pc' := 33) rfl rfl rfl rfl rfl ?_
      refine x_gR (pc' := 36) (r := (sR t 529 o)) rfl rfl rfl rfl ?_
      refine x_astore (pc' := 38) (ls' := [_, _, _, _, _]) rfl rfl rfl rfl rfl ?_
      refine x_goto (pc' := 9) rfl rfl ?_
      exact k1 q2 (of_decide_eq_false q3)
  · refine x_iload_n (pc' := 8) rfl rfl rfl ?_
    refine x_aload_n (pc' := 9) rfl rfl rfl rfl rfl ?_
    refine x_gI (pc' := 12) (x := (mA M 14 o)) rfl rfl rfl ((kA hM rfl ho).trans (congrFun (Fr.f14 (Fr.refl _)) _)) ?_
    refine x_icmp (a' := 19) (pc' := 15) (z := decide ((mA M 14 o) < p)) rfl rfl rfl rfl (fun q6 => ?_) (fun q6 => ?_)
    · refine x_iconst (pc' := 20) rfl rfl ?_
      refine x_goto (pc' := 36) rfl rfl ?_
      refine x_retz (z := false) rfl rfl ?_
      refine sK_i (pc' := 20) rfl ?_
      refine x_if (a' := 41) (pc' := 23) (z := true) rfl rfl rfl (by decide) (fun _ => ?_) (fun h => by cases h)
      refine x_iload_n (pc' := 42) rfl rfl rfl ?_
      refine x_reti rfl rfl ?_
      exact k2 q2 (of_decide_eq_true q6)
    · refine x_iconst (pc' := 16) rfl rfl ?_
      refine x_goto (pc' := 36) rfl rfl ?_
      refine x_retz (z := true) rfl rfl ?_
      refine sK_i (pc' := 20) rfl ?_
      refine x_if (a' := 41) (pc' := 23) (z := false) rfl rfl rfl (by decide) (fun h => by cases h) (fun _ => ?_)
      refine x_iload_n (pc' := 24) rfl rfl rfl ?_
      refine x_aload (pc' := 26) rfl rfl rfl rfl rfl ?_
      refine x_gI (pc' := 29) (x := (mA M 15 o)) rfl rfl rfl (kA hM rfl ho) ?_
      refine x_iadd (pc' := 30) (z := (a + (mA M 15 o))) rfl rfl rfl ?_
      refine x_istore_n (pc' := 31) (ls' := [_, _, _, _, _]) rfl rfl rfl rfl ?_
      refine x_aload (pc' := 33) rfl rfl rfl rfl rfl ?_
      refine x_gR (pc' := 36) (r := (sR t 529 o)) rfl rfl rfl rfl ?_
      refine x_astore (pc' := 38) (ls' := [_, _, _, _, _]) rfl rfl rfl rfl rfl ?_
      refine x_goto (pc' := 9) rfl rfl ?_
      exact k3 q2 (of_decide_eq_false q6)
theorem n1_0 {t : sT} {Q : sRs → sT → Prop} {M : sM} {n : Nat} {T : Nat} {L0 : List Nat} {A : Nat} {B : Nat} {b : Nat}
    (hW : Wc t M n T L0 A B)
    (hb : b < 5)
    (k0 : (snd b) = none → X 1 32 [.inr (.inr (0, (some 0))), .inr (.inr (1, (some b))), .inl (mA M 1 (fst b)), .inl (-10000), .inl 0, .inl 0, .inl 0, sJk, sJk, sJk, sJk, sJk, sJk, sJk] [] t Q)
    (k1 : ∀ j0, (snd b) = some j0 → X 1 32 [.inr (.inr (0, (some 0))), .inr (.inr (1, (some b))), .inl 0, .inl (-10000), .inl 0, .inl 0, .inl 0, sJk, sJk, sJk, sJk, sJk, sJk, sJk] [] t Q) :
    X 1 0 [.inr (.inr (0, (some 0))), .inr (.inr (1, (some b))), sJk, sJk, sJk, sJk, sJk, sJk, sJk, sJk, sJk, sJk, sJk, sJk] [] t Q := by
  obtain ⟨hM, hc, hR, hC, hL, hL9⟩ := hW
  refine x_aload_n (pc' := 1) rfl rfl rfl rfl rfl ?_
  refine x_cv (ls0 := [_]) (rest := []) rfl rfl rfl rfl rfl ?_
  refine x_aload_n (pc' := 1) rfl rfl rfl rfl rfl ?_
  refine x_gR (pc' := 4) (r := (snd b)) rfl rfl rfl (kBk hc.1 hb).2.1 ?_
  refine x_ifnull (a' := 11) (pc' := 7) rfl rfl rfl rfl (fun q1 => ?_) (fun j0 q1 => ?_)
  · refine x_iconst (pc' := 12) rfl rfl ?_
    refine x_retz (z := false) rfl rfl ?_
    refine sK_i (pc' := 4) rfl ?_
    refine x_if (a' := 11) (pc' := 7) (z := true) rfl rfl rfl (by decide) (fun _ => ?_) (fun h => by cases h)
    refine x_aload_n (pc' := 12) rfl rfl rfl rfl rfl ?_
    refine x_gR (pc' := 15) (r := (some (fst b))) rfl rfl rfl (kBk hc.1 hb).1 ?_
    refine x_gI (pc' := 18) (x := (mA M 1 (fst b))) rfl rfl rfl (kA hM rfl (fst3 hb)) ?_
    refine x_istore_n (pc' := 19) (ls' := [_, _, _, _, _, _, _, _, _, _, _, _, _, _]) rfl rfl rfl rfl ?_
    refine x_sipush (pc' := 22) rfl rfl ?_
    refine x_istore_n (pc' := 23) (ls' := [_, _, _, _, _, _, _, _, _, _, _, _, _, _]) rfl rfl rfl rfl ?_
    refine x_iconst (pc' := 24) rfl rfl ?_
    refine x_istore (pc' := 26) (ls' := [_, _, _, _, _, _, _, _, _, _, _, _, _, _]) rfl rfl rfl rfl ?_
    refine x_iconst (pc' := 27) rfl rfl ?_
    refine x_istore (pc' := 29) (ls' := [_, _, _, _, _, _, _, _, _, _, _, _, _, _]) rfl rfl rfl rfl ?_
    refine x_iconst (pc' := 30) rfl rfl ?_
    refine x_istore (pc' := 32) (ls' := [_, _, _, _, _, _, _, _, _, _, _, _, _, _]) rfl rfl rfl rfl ?_
    exact k0 q1
  · refine x_iconst (pc' := 8) rfl rfl ?_
    refine x_goto (pc' := 12) rfl rfl ?_
    refine x_retz (z := true) rfl rfl ?_
    refine sK_i (pc' := 4) rfl ?_
    refine x_if (a' := 11) (pc' := 7) (z := false) rfl rfl rfl (by decide) (fun h => by cases h) (fun _ => ?_)
    refine x_iconst (pc' := 8) rfl rfl ?_
    refine x_goto (pc' := 18) rfl rfl ?_
    refine x_istore_n (pc' := 19) (ls' := [_, _, _, _, _, _, _, _, _, _, _, _, _, _]) rfl rfl rfl rfl ?_
    refine x_sipush (pc' := 22) rfl rfl ?_
    refine x_istore_n (pc' := 23) (ls' := [_, _, _, _, _, _, _, _, _, _, _, _, _, _]) rfl rfl rfl rfl ?_
    refine x_iconst (pc' := 24) rfl rfl ?_
    refine x_istore (pc' := 26) (ls' := [_, _, _, _, _, _, _, _, _, _, _, _, _, _]) rfl rfl rfl rfl ?_
    refine x_iconst (pc' := 27) rfl rfl ?_
    refine x_istore (pc' := 29) (ls' := [_, _, _, _, _, _, _, _, _, _, _, _, _, _]) rfl rfl rfl rfl ?_
    refine x_iconst (pc' := 30) rfl rfl ?_
    refine x_istore (pc' := 32) (ls' := [_, _, _, _, _, _, _, _, _, _, _, _, _, _]) rfl rfl rfl rfl ?_
    exact k1 j0 q1
theorem n1_h0 {t : sT} {Q : sRs → sT → Prop} {M : sM} {n : Nat} {T : Nat} {L0 : List Nat} {A : Nat} {B : Nat} {b : Nat} {p : Int32} {f : Int32} {a : Int32} {x : Int32} {y0 : sV} {y1 : sV} {y2 : sV} {y3 : sV} {y4 : sV} {y5 : sV} {y6 : sV}
    (hW : Wc t M n T L0 A B)
    (hb : b < 5)
    (k0 : X 1 54 [.inr (.inr (0, (some 0))), .inr (.inr (1, (some b))), .inl p, .inl f, .inl a, .inl x, .inl 0, .inr (.inr (8, (bsF M n b true))), y1, y2, y3, y4, y5, y6] [] t Q) :
    X 1 32 [.inr (.inr (0, (some 0))), .inr (.inr (1, (some b))), .inl p, .inl f, .inl a, .inl x, .inl 0, y0, y1, y2, y3, y4, y5, y6] [] t Q := by
  obtain ⟨hM, hc, hR, hC, hL, hL9⟩ := hW
  refine x_iload (pc' := 34) rfl rfl rfl ?_
  refine x_iconst (pc' := 35) rfl rfl ?_
  refine x_icmp (a' := 202) (pc' := 38) (z := false) rfl rfl rfl (by decide) (fun h => by cases h) (fun _ => ?_)
  refine x_aload_n (pc' := 39) rfl rfl rfl rfl rfl ?_
  refine x_iload (pc' := 41) rfl rfl rfl ?_
  refine x_if (a' := 48) (pc' := 44) (z := false) rfl rfl rfl (by decide) (fun h => by cases h) (fun _ => ?_)
  refine x_iconst (pc' := 45) rfl rfl ?_
  refine x_goto (pc' := 49) rfl rfl ?_
  refine x_cv (ls0 := [_, _]) (rest := []) rfl rfl rfl rfl rfl ?_
  refine x_iload_n (pc' := 1) rfl rfl rfl ?_
  refine x_if (a' := 11) (pc' := 4) (z := false) rfl rfl rfl (by decide) (fun h => by cases h) (fun _ => ?_)
  refine x_aload_n (pc' := 5) rfl rfl rfl rfl rfl ?_
  refine x_gR (pc' := 8) (r := (bsF M n b true)) rfl rfl rfl (bs_69 hC (Fr.ri (Fr.refl _) hR) hM hb) ?_
  refine x_goto (pc' := 15) rfl rfl ?_
  refine x_reta rfl rfl ?_
  refine sK_i (pc' := 52) rfl ?_
  refine x_astore (pc' := 54) (ls' := [_, _, _, _, _, _, _, _, _, _, _, _, _, _]) rfl rfl rfl rfl rfl ?_
  exact k0
theorem n1_h1 {t : sT} {Q : sRs → sT → Prop} {M : sM} {n : Nat} {T : Nat} {L0 : List Nat} {A : Nat} {B : Nat} {b : Nat} {p : Int32} {f : Int32} {a : Int32} {x : Int32} {y0 : sV} {y1 : sV} {y2 : sV} {y3 : sV} {y4 : sV} {y5 : sV} {y6 : sV}
    (hW : Wc t M n T L0 A B)
    (hb : b < 5)
    (k0 : X 1 54 [.inr (.inr (0, (some 0))), .inr (.inr (1, (some b))), .inl p, .inl f, .inl a, .inl x, .inl 1, .inr (.inr (8, (bsF M n b false))), y1, y2, y3, y4, y5, y6] [] t Q) :
    X 1 32 [.inr (.inr (0, (some 0))), .inr (.inr (1, (some b))), .inl p, .inl f, .inl a, .inl x, .inl 1, y0, y1, y2, y3, y4, y5, y6] [] t Q := by
  obtain ⟨hM, hc, hR, hC, hL, hL9⟩ := hW
  refine x_iload (pc' := 34) rfl rfl rfl ?_
  refine x_iconst (pc' := 35) rfl rfl ?_
  refine x_icmp (a' := 202) (pc' := 38) (z := false) rfl rfl rfl (by decide) (fun h => by cases h) (fun _ => ?_)
  refine x_aload_n (pc' := 39) rfl rfl rfl rfl rfl ?_
  refine x_iload (pc' := 41) rfl rfl rfl ?_
  refine x_if (a' := 48) (pc' := 44) (z := true) rfl rfl rfl (by decide) (fun _ => ?_) (fun h => by cases h)
  refine x_iconst (pc' := 49) rfl rfl ?_
  refine x_cv (ls0 := [_, _]) (rest := []) rfl rfl rfl rfl rfl ?_
  refine x_iload_n (pc' := 1) rfl rfl rfl ?_
  refine x_if (a' := 11) (pc' := 4) (z := true) rfl rfl rfl (by decide) (fun _ => ?_) (fun h => by cases h)
  refine x_aload_n (pc' := 12) rfl rfl rfl rfl rfl ?_
  refine x_gR (pc' := 15) (r := (bsF M n b false)) rfl rfl rfl (bs_70 hC (Fr.ri (Fr.refl _) hR) hM hb) ?_
  refine x_reta rfl rfl ?_
  refine sK_i (pc' := 52) rfl ?_
  refine x_astore (pc' := 54) (ls' := [_, _, _, _, _, _, _, _, _, _, _, _, _, _]) rfl rfl rfl rfl rfl ?_
  exact k0
theorem n1_h2 {t : sT} {Q : sRs → sT → Prop} {M : sM} {n : Nat} {T : Nat} {L0 : List Nat} {A : Nat} {B : Nat} {b : Nat} {p : Int32} {f : Int32} {a : Int32} {x : Int32} {y0 : sV} {y1 : sV} {y2 : sV} {y3 : sV} {y4 : sV} {y5 : sV} {y6 : sV}
    (hW : Wc t M n T L0 A B)
    (hb : b < 5)
    (k0 : Q (.inl (some (.inl f))) t) :
    X 1 32 [.inr (.inr (0, (some 0))), .inr (.inr (1, (some b))), .inl p, .inl f, .inl a, .inl x, .inl 2, y0, y1, y2, y3, y4, y5, y6] [] t Q := by
  obtain ⟨hM, hc, hR, hC, hL, hL9⟩ := hW
  refine x_iload (pc' := 34) rfl rfl rfl ?_
  refine x_iconst (pc' := 35) rfl rfl ?_
  refine x_icmp (a' := 202) (pc' := 38) (z := true) rfl rfl rfl (by decide) (fun _ => ?_) (fun h => by cases h)
  refine x_iload_n (pc' := 203) rfl rfl rfl ?_
  refine x_reti rfl rfl ?_
  exact k0
theorem n1_n {t : sT} {Q : sRs → sT → Prop} {M : sM} {n : Nat} {T : Nat} {L0 : List Nat} {A : Nat} {B : Nat} {b : Nat} {p : Int32} {f : Int32} {a : Int32} {x : Int32} {y1 : sV} {y2 : sV} {y3 : sV} {y4 : sV} {y5 : sV} {y6 : sV} {k : Nat}
    (hW : Wc t M n T L0 A B)
    (hb : b < 5)
    (hk : k < 2)
    (k0 : X 1 32 [.inr (.inr (0, (some 0))), .inr (.inr (1, (some b))), .inl p, .inl f, .inl a, .inl x, .inl (io (k + 1)), .inr (.inr (8, none)), y1, y2, y3, y4, y5, y6] [] t Q) :
    X 1 54 [.inr (.inr (0, (some 0))), .inr (.inr (1, (some b))), .inl p, .inl f, .inl a, .inl x, .inl (io k), .inr (.inr (8, none)), y1, y2, y3, y4, y5, y6] [] t Q := by
  obtain ⟨hM, hc, hR, hC, hL, hL9⟩ := hW
  refine x_aload (pc' := 56) rfl rfl rfl rfl rfl ?_
  refine x_ifnull (a' := 196) (pc' := 59) rfl rfl rfl rfl (fun _ => ?_) (fun i h => by cases h)
  refine x_iinc (pc' := 199) (y := (io (k + 1))) (ls' := [_, _, _, _, _, _, _, _, _, _, _, _, _, _]) rfl rfl rfl (io_add k 1) rfl ?_
  refine x_goto (pc' := 32) rfl rfl ?_
  exact k0
theorem n1_k {t : sT} {Q : sRs → sT → Prop} {M : sM} {n : Nat} {T : Nat} {L0 : List Nat} {A : Nat} {B : Nat} {b : Nat} {p : Int32} {f : Int32} {a : Int32} {x : Int32} {o : Nat} {y1 : sV} {y2 : sV} {y3 : sV} {y4 : sV} {y5 : sV} {y6 : sV} {k : Nat}
    (hW : Wc t M n T L0 A B)
    (hb : b < 5)
    (ho : o < n)
    (hk : k < 2)
    (k0 : X 3 0 [.inr (.inr (1, (some b))), .inl 1, .inl (mA M 14 o), sJk, sJk] [] t (sK 3 1 66 [.inr (.inr (0, (some 0))), .inr (.inr (1, (some b))), .inl p, .inl f, .inl a, .inl x, .inl (io k), .inr (.inr (8, (some o))), y1, y2, y3, y4, y5, y6] [] Q)) :
    X 1 54 [.inr (.inr (0, (some 0))), .inr (.inr (1, (some b))), .inl p, .inl f, .inl a, .inl x, .inl (io k), .inr (.inr (8, (some o))), y1, y2, y3, y4, y5, y6] [] t Q := by
  obtain ⟨hM, hc, hR, hC, hL, hL9⟩ := hW
  refine x_aload (pc' := 56) rfl rfl rfl rfl rfl ?_
  refine x_ifnull (a' := 196) (pc' := 59) rfl rfl rfl rfl (fun h => by cases h) (fun _ _ => ?_)
  refine x_aload_n (pc' := 60) rfl rfl rfl rfl rfl ?_
  refine x_iconst (pc' := 61) rfl rfl ?_
  refine x_aload (pc' := 63) rfl rfl rfl rfl rfl ?_
  refine x_gI (pc' := 66) (x := (mA M 14 o)) rfl rfl rfl ((kA hM rfl ho).trans (congrFun (Fr.f14 (Fr.refl _)) _)) ?_
  refine x_cs (ls0 := [_, _, _, sJk, sJk]) (rest := []) rfl rfl rfl rfl ?_
  exact k0
theorem n1_k2 {t : sT} {Q : sRs → sT → Prop} {M : sM} {n : Nat} {T : Nat} {L0 : List Nat} {A : Nat} {B : Nat} {b : Nat} {p : Int32} {f : Int32} {a : Int32} {x : Int32} {o : Nat} {y1 : sV} {y2 : sV} {y3 : sV} {y4 : sV} {y5 : sV} {y6 : sV} {k : Nat} {g : Int32}
    (hW : Wc t M n T L0 A B)
    (hb : b < 5)
    (ho : o < n)
    (hk : k < 2)
    (k0 : X 3 0 [.inr (.inr (1, (some b))), .inl 0, .inl (mA M 14 o), sJk, sJk] [] t (sK 3 1 78 [.inr (.inr (0, (some 0))), .inr (.inr (1, (some b))), .inl p, .inl f, .inl a, .inl x, .inl (io k), .inr (.inr (8, (some o))), .inl g, y2, y3, y4, y5, y6] [] Q)) :
    X 1 69 [.inr (.inr (0, (some 0))), .inr (.inr (1, (some b))), .inl p, .inl f, .inl a, .inl x, .inl (io k), .inr (.inr (8, (some o))), y1, y2, y3, y4, y5, y6] [.inl g] t Q := by
  obtain ⟨hM, hc, hR, hC, hL, hL9⟩ := hW
  refine x_istore (pc' := 71) (ls' := [_, _, _, _, _, _, _, _, _, _, _, _, _, _]) rfl rfl rfl rfl ?_
  refine x_aload_n (pc' := 72) rfl rfl rfl rfl rfl ?_
  refine x_iconst (pc' := 73) rfl rfl ?_
  refine x_aload (pc' := 75) rfl rfl rfl rfl rfl ?_
  refine x_gI (pc' := 78) (x := (mA M 14 o)) rfl rfl rfl ((kA hM rfl ho).trans (congrFun (Fr.f14 (Fr.refl _)) _)) ?_
  refine x_cs (ls0 := [_, _, _, sJk, sJk]) (rest := []) rfl rfl rfl rfl ?_
  exact k0
theorem n1_k3 {t : sT} {Q : sRs → sT → Prop} {M : sM} {n : Nat} {T : Nat} {L0 : List Nat} {A : Nat} {B : Nat} {b : Nat} {p : Int32} {f : Int32} {a : Int32} {x : Int32} {o : Nat} {y2 : sV} {y3 : sV} {y4 : sV} {y5 : sV} {y6 : sV} {k : Nat} {g : Int32} {h : Int32}
    (hW : Wc t M n T L0 A B)
    (hb : b < 5)
    (ho : o < n)
    (hk : k < 2)
    (k0 : ¬ ((mnc h g) = a) → ¬ ((ab (g - h)) = x) → a < (mnc h g) → X 1 54 [.inr (.inr (0, (some 0))), .inr (.inr (1, (some b))), .inl p, .inl (mA M 14 o), .inl (mnc h g), .inl (ab (g - h)), .inl (io k), .inr (.inr (8, (sR t 529 o))), .inl g, .inl h, .inl (mnc h g), .inl (ab (g - h)), .inl 0, .inl 0] [] t Q)
    (k1 : ¬ ((mnc h g) = a) → ¬ ((ab (g - h)) = x) → ¬ (a < (mnc h g)) → X 1 54 [.inr (.inr (0, (some 0))), .inr (.inr (1, (some b))), .inl p, .inl f, .inl a, .inl x, .inl (io k), .inr (.inr (8, (sR t 529 o))), .inl g, .inl h, .inl (mnc h g), .inl (ab (g - h)), .inl 0, .inl 0] [] t Q)
    (k2 : ¬ ((mnc h g) = a) → (ab (g - h)) = x → (ab ((mA M 14 o) - p)) < (ab (f - p)) → a < (mnc h g) → X 1 54 [.inr (.inr (0, (some 0))), .inr (.inr (1, (some b))), .inl p, .inl (mA M 14 o), .inl (mnc h g), .inl (ab (g - h)), .inl (io k), .inr (.inr (8, (sR t 529 o))), .inl g, .inl h, .inl (mnc h g), .inl (ab (g - h)), .inl 0, .inl 1] [] t Q)
    (k3 : ¬ ((mnc h g) = a) → (ab (g - h)) = x → (ab ((mA M 14 o) - p)) < (ab (f - p)) → ¬ (a < (mnc h g)) → X 1 54 [.inr (.inr (0, (some 0))), .inr (.inr (1, (some b))), .inl p, .inl f, .inl a, .inl x, .inl (io k), .inr (.inr (8, (sR t 529 o))), .inl g, .inl h, .inl (mnc h g), .inl (ab (g - h)), .inl 0, .inl 1] [] t Q)
    (k4 : ¬ ((mnc h g) = a) → (ab (g - h)) = x → ¬ ((ab ((mA M 14 o) - p)) < (ab (f - p))) → ¬ ((ab ((mA M 14 o) - p)) = (ab (f - p))) → a < (mnc h g) → X 1 54 [.inr (.inr (0, (some 0))), .inr (.inr (1, (some b))), .inl p, .inl (mA M 14 o), .inl (mnc h g), .inl (ab (g - h)), .inl (io k), .inr (.inr (8, (sR t 529 o))), .inl g, .inl h, .inl (mnc h g), .inl (ab (g - h)), .inl 0, .inl 0] [] t Q)
    (k5 : ¬ ((mnc h g) = a) → (ab (g - h)) = x → ¬ ((ab ((mA M 14 o) - p)) < (ab (f - p))) → ¬ ((ab ((mA M 14 o) - p)) = (ab (f - p))) → ¬ (a < (mnc h g)) → X 1 54 [.inr (.inr (0, (some 0))), .inr (.inr (1, (some b))), .inl p, .inl f, .inl a, .inl x, .inl (io k), .inr (.inr (8, (sR t 529 o))), .inl g, .inl h, .inl (mnc h g), .inl (ab (g - h)), .inl 0, .inl 0] [] t Q)
    (k6 : ¬ ((mnc h g) = a) → (ab (g - h)) = x → ¬ ((ab ((mA M 14 o) - p)) < (ab (f - p))) → (ab ((mA M 14 o) - p)) = (ab (f - p)) → ¬ ((mA M 14 o) < f) → a < (mnc h g) → X 1 54 [.inr (.inr (0, (some 0))), .inr (.inr (1, (some b))), .inl p, .inl (mA M 14 o), .inl (mnc h g), .inl (ab (g - h)), .inl (io k), .inr (.inr (8, (sR t 529 o))), .inl g, .inl h, .inl (mnc h g), .inl (ab (g - h)), .inl 0, .inl 0] [] t Q)
    (k7 : ¬ ((mnc h g) = a) → (ab (g - h)) = x → ¬ ((ab ((mA M 14 o) - p)) < (ab (f - p))) → (ab ((mA M 14 o) - p)) = (ab (f - p)) → ¬ ((mA M 14 o) < f) → ¬ (a < (mnc h g)) → X 1 54 [.inr (.inr (0, (some 0))), .inr (.inr (1, (some b))), .inl p, .inl f, .inl a, .inl x, .inl (io k), .inr (.inr (8, (sR t 529 o))), .inl g, .inl h, .inl (mnc h g), .inl (ab (g - h)), .inl 0, .inl 0] [] t Q)
    (k8 : ¬ ((mnc h g) = a) → (ab (g - h)) = x → ¬ ((ab ((mA M 14 o) - p)) < (ab (f - p))) → (ab ((mA M 14 o) - p)) = (ab (f - p)) → (mA M 14 o) < f → a < (mnc h g) → X 1 54 [.inr (.inr (0, (some 0))), .inr (.inr (1, (some b))), .inl p, .inl (mA M 14 o), .inl (mnc h g), .inl (ab (g - h)), .inl (io k), .inr (.inr (8, (sR t 529 o))), .inl g, .inl h, .inl (mnc h g), .inl (ab (g - h)), .inl 0, .inl 1] [] t Q)
    (k9 : ¬ ((mnc h g) = a) → (ab (g - h)) = x → ¬ ((ab ((mA M 14 o) - p)) < (ab (f - p))) → (ab ((mA M 14 o) - p)) = (ab (f - p)) → (mA M 14 o) < f → ¬ (a < (mnc h g)) → X 1 54 [.inr (.inr (0, (some 0))), .inr (.inr (1, (some b))), .inl p, .inl f, .inl a, .inl x, .inl (io k), .inr (.inr (8, (sR t 529 o))), .inl g, .inl h, .inl (mnc h g), .inl (ab (g - h)), .inl 0, .inl 1] [] t Q)
    (k10 : (mnc h g) = a → ¬ (0 < (mnc h g)) → ¬ ((ab (g - h)) = x) → a < (mnc h g) → X 1 54 [.inr (.inr (0, (some 0))), .inr (.inr (1, (some b))), .inl p, .inl (mA M 14 o), .inl (mnc h g), .inl (ab (g - h)), .inl (io k), .inr (.inr (8, (sR t 529 o))), .inl g, .inl h, .inl (mnc h g), .inl (ab (g - h)), .inl 0, .inl 0] [] t Q)
    (k11 : (mnc h g) = a → ¬ (0 < (mnc h g)) → ¬ ((ab (g - h)) = x) → ¬ (a < (mnc h g)) → X 1 54 [.inr (.inr (0, (some 0))), .inr (.inr (1, (some b))), .inl p, .inl f, .inl a, .inl x, .inl (io k), .inr (.inr (8, (sR t 529 o))), .inl g, .inl h, .inl (mnc h g), .inl (ab (g - h)), .inl 0, .inl 0] [] t Q)
    (k12 : (mnc h g) = a → ¬ (0 < (mnc h g)) → (ab (g - h)) = x → (ab ((mA M 14 o) - p)) < (ab (f - p)) → a < (mnc h g) → X 1 54 [.inr (.inr (0, (some 0))), .inr (.inr (1, (some b))), .inl p, .inl (mA M 14 o), .inl (mnc h g), .inl (ab (g - h)), .inl (io k), .inr (.inr (8, (sR t 529 o))), .inl g, .inl h, .inl (mnc h g), .inl (ab (g - h)), .inl 0, .inl 1] [] t Q)
    (k13 : (mnc h g) = a → ¬ (0 < (mnc h g)) → (ab (g - h)) = x → (ab ((mA M 14 o) - p)) < (ab (f - p)) → ¬ (a < (mnc h g)) → X 1 54 [.inr (.inr (0, (some 0))), .inr (.inr (1, (some b))), .inl p, .inl f, .inl a, .inl x, .inl (io k), .inr (.inr (8, (sR t 529 o))), .inl g, .inl h, .inl (mnc h g), .inl (ab (g - h)), .inl 0, .inl 1] [] t Q)
    (k14 : (mnc h g) = a → ¬ (0 < (mnc h g)) → (ab (g - h)) = x → ¬ ((ab ((mA M 14 o) - p)) < (ab (f - p))) → ¬ ((ab ((mA M 14 o) - p)) = (ab (f - p))) → a < (mnc h g) → X 1 54 [.inr (.inr (0, (some 0))), .inr (.inr (1, (some b))), .inl p, .inl (mA M 14 o), .inl (mnc h g), .inl (ab (g - h)), .inl (io k), .inr (.inr (8, (sR t 529 o))), .inl g, .inl h, .inl (mnc h g), .inl (ab (g - h)), .inl 0, .inl 0] [] t Q)
    (k15 : (mnc h g) = a → ¬ (0 < (mnc h g)) → (ab (g - h)) = x → ¬ ((ab ((mA M 14 o) - p)) < (ab (f - p))) → ¬ ((ab ((mA M 14 o) - p)) = (ab (f - p))) → ¬ (a < (mnc h g)) → X 1 54 [.inr (.inr (0, (some 0))), .inr (.inr (1, (some b))), .inl p, .inl f, .inl a, .inl x, .inl (io k), .inr (.inr (8, (sR t 529 o))), .inl g, .inl h, .inl (mnc h g), .inl (ab (g - h)), .inl 0, .inl 0] [] t Q)
    (k16 : (mnc h g) = a → ¬ (0 < (mnc h g)) → (ab (g - h)) = x → ¬ ((ab ((mA M 14 o) - p)) < (ab (f - p))) → (ab ((mA M 14 o) - p)) = (ab (f - p)) → ¬ ((mA M 14 o) < f) → a < (mnc h g) → X 1 54 [.inr (.inr (0, (some 0))), .inr (.inr (1, (some b))), .inl p, .inl (mA M 14 o), .inl (mnc h g), .inl (ab (g - h)), .inl (io k), .inr (.inr (8, (sR t 529 o))), .inl g, .inl h, .inl (mnc h g), .inl (ab (g - h)), .inl 0, .inl 0] [] t Q)
    (k17 : (mnc h g) = a → ¬ (0 < (mnc h g)) → (ab (g - h)) = x → ¬ ((ab ((mA M 14 o) - p)) < (ab (f - p))) → (ab ((mA M 14 o) - p)) = (ab (f - p)) → ¬ ((mA M 14 o) < f) → ¬ (a < (mnc h g)) → X 1 54 [.inr (.inr (0, (some 0))), .inr (.inr (1, (some b))), .inl p, .inl f, .inl a, .inl x, .inl (io k), .inr (.inr (8, (sR t 529 o))), .inl g, .inl h, .inl (mnc h g), .inl (ab (g - h)), .inl 0, .inl 0] [] t Q)
    (k18 : (mnc h g) = a → ¬ (0 < (mnc h g)) → (ab (g - h)) = x → ¬ ((ab ((mA M 14 o) - p)) < (ab (f - p))) → (ab ((mA M 14 o) - p)) = (ab (f - p)) → (mA M 14 o) < f → a < (mnc h g) → X 1 54 [.inr (.inr (0, (some 0))), .inr (.inr (1, (some b))), .inl p, .inl (mA M 14 o), .inl (mnc h g), .inl (ab (g - h)), .inl (io k), .inr (.inr (8, (sR t 529 o))), .inl g, .inl h, .inl (mnc h g), .inl (ab (g - h)), .inl 0, .inl 1] [] t Q)
    (k19 : (mnc h g) = a → ¬ (0 < (mnc h g)) → (ab (g - h)) = x → ¬ ((ab ((mA M 14 o) - p)) < (ab (f - p))) → (ab ((mA M 14 o) - p)) = (ab (f - p)) → (mA M 14 o) < f → ¬ (a < (mnc h g)) → X 1 54 [.inr (.inr (0, (some 0))), .inr (.inr (1, (some b))), .inl p, .inl f, .inl a, .inl x, .inl (io k), .inr (.inr (8, (sR t 529 o))), .inl g, .inl h, .inl (mnc h g), .inl (ab (g - h)), .inl 0, .inl 1] [] t Q)
    (k20 : (mnc h g) = a → 0 < (mnc h g) → ¬ ((ab (g - h)) = x) → a < (mnc h g) → X 1 54 [.inr (.inr (0, (some 0))), .inr (.inr (1, (some b))), .inl p, .inl (mA M 14 o), .inl (mnc h g), .inl (ab (g - h)), .inl (io k), .inr (.inr (8, (sR t 529 o))), .inl g, .inl h, .inl (mnc h g), .inl (ab (g - h)), .inl 1, .inl 0] [] t Q)
    (k21 : (mnc h g) = a → 0 < (mnc h g) → ¬ ((ab (g - h)) = x) → ¬ (a < (mnc h g)) → (ab (g - h)) < x → X 1 54 [.inr (.inr (0, (some 0))), .inr (.inr (1, (some b))), .inl p, .inl (mA M 14 o), .inl (mnc h g), .inl (ab (g - h)), .inl (io k), .inr (.inr (8, (sR t 529 o))), .inl g, .inl h, .inl (mnc h g), .inl (ab (g - h)), .inl 1, .inl 0] [] t Q)
    (k22 : (mnc h g) = a → 0 < (mnc h g) → ¬ ((ab (g - h)) = x) → ¬ (a < (mnc h g)) → ¬ ((ab (g - h)) < x) → X 1 54 [.inr (.inr (0, (some 0))), .inr (.inr (1, (some b))), .inl p, .inl f, .inl a, .inl x, .inl (io k), .inr (.inr (8, (sR t 529 o))), .inl g, .inl h, .inl (mnc h g), .inl (ab (g - h)), .inl 1, .inl 0] [] t Q)
    (k23 : (mnc h g) = a → 0 < (mnc h g) → (ab (g - h)) = x → (ab ((mA M 14 o) - p)) < (ab (f - p)) → a < (mnc h g) → X 1 54 [.inr (.inr (0, (some 0))), .inr (.inr (1, (some b))), .inl p, .inl (mA M 14 o), .inl (mnc h g), .inl (ab (g - h)), .inl (io k), .inr (.inr (8, (sR t 529 o))), .inl g, .inl h, .inl (mnc h g), .inl (ab (g - h)), .inl 1, .inl 1] [] t Q)
    (k24 : (mnc h g) = a → 0 < (mnc h g) → (ab (g - h)) = x → (ab ((mA M 14 o) - p)) < (ab (f - p)) → ¬ (a < (mnc h g)) → (ab (g - h)) < x → X 1 54 [.inr (.inr (0, (some 0))), .inr (.inr (1, (some b))), .inl p, .inl (mA M 14 o), .inl (mnc h g), .inl (ab (g - h)), .inl (io k), .inr (.inr (8, (sR t 529 o))), .inl g, .inl h, .inl (mnc h g), .inl (ab (g - h)), .inl 1, .inl 1] [] t Q)
    (k25 : (mnc h g) = a → 0 < (mnc h g) → (ab (g - h)) = x → (ab ((mA M 14 o) - p)) < (ab (f - p)) → ¬ (a < (mnc h g)) → ¬ ((ab (g - h)) < x) → X 1 54 [.inr (.inr (0, (some 0))), .inr (.inr (1, (some b))), .inl p, .inl (mA M 14 o), .inl (mnc h g), .inl (ab (g - h)), .inl (io k), .inr (.inr (8, (sR t 529 o))), .inl g, .inl h, .inl (mnc h g), .inl (ab (g - h)), .inl 1, .inl 1] [] t Q)
    (k26 : (mnc h g) = a → 0 < (mnc h g) → (ab (g - h)) = x → ¬ ((ab ((mA M 14 o) - p)) < (ab (f - p))) → ¬ ((ab ((mA M 14 o) - p)) = (ab (f - p))) → a < (mnc h g) → X 1 54 [.inr (.inr (0, (some 0))), .inr (.inr (1, (some b))), .inl p, .inl (mA M 14 o), .inl (mnc h g), .inl (ab (g - h)), .inl (io k), .inr (.inr (8, (sR t 529 o))), .inl g, .inl h, .inl (mnc h g), .inl (ab (g - h)), .inl 1, .inl 0] [] t Q)
    (k27 : (mnc h g) = a → 0 < (mnc h g) → (ab (g - h)) = x → ¬ ((ab ((mA M 14 o) - p)) < (ab (f - p))) → ¬ ((ab ((mA M 14 o) - p)) = (ab (f - p))) → ¬ (a < (mnc h g)) → (ab (g - h)) < x → X 1 54 [.inr (.inr (0, (some 0))), .inr (.inr (1, (some b))), .inl p, .inl (mA M 14 o), .inl (mnc h g), .inl (ab (g - h)), .inl (io k), .inr (.inr (8, (sR t 529 o))), .inl g, .inl h, .inl (mnc h g), .inl (ab (g - h)), .inl 1, .inl 0] [] t Q)
    (k28 : (mnc h g) = a → 0 < (mnc h g) → (ab (g - h)) = x → ¬ ((ab ((mA M 14 o) - p)) < (ab (f - p))) → ¬ ((ab ((mA M 14 o) - p)) = (ab (f - p))) → ¬ (a < (mnc h g)) → ¬ ((ab (g - h)) < x) → X 1 54 [.inr (.inr (0, (some 0))), .inr (.inr (1, (some b))), .inl p, .inl f, .inl a, .inl x, .inl (io k), .inr (.inr (8, (sR t 529 o))), .inl g, .inl h, .inl (mnc h g), .inl (ab (g - h)), .inl 1, .inl 0] [] t Q)
    (k29 : (mnc h g) = a → 0 < (mnc h g) → (ab (g - h)) = x → ¬ ((ab ((mA M 14 o) - p)) < (ab (f - p))) → (ab ((mA M 14 o) - p)) = (ab (f - p)) → ¬ ((mA M 14 o) < f) → a < (mnc h g) → X 1 54 [.inr (.inr (0, (some 0))), .inr (.inr (1, (some b))), .inl p, .inl (mA M 14 o), .inl (mnc h g), .inl (ab (g - h)), .inl (io k), .inr (.inr (8, (sR t 529 o))), .inl g, .inl h, .inl (mnc h g), .inl (ab (g - h)), .inl 1, .inl 0] [] t Q)
    (k30 : (mnc h g) = a → 0 < (mnc h g) → (ab (g - h)) = x → ¬ ((ab ((mA M 14 o) - p)) < (ab (f - p))) → (ab ((mA M 14 o) - p)) = (ab (f - p)) → ¬ ((mA M 14 o) < f) → ¬ (a < (mnc h g)) → (ab (g - h)) < x → X 1 54 [.inr (.inr (0, (some 0))), .inr (.inr (1, (some b))), .inl p, .inl (mA M 14 o), .inl (mnc h g), .inl (ab (g - h)), .inl (io k), .inr (.inr (8, (sR t 529 o))), .inl g, .inl h, .inl (mnc h g), .inl (ab (g - h)), .inl 1, .inl 0] [] t Q)
    (k31 : (mnc h g) = a → 0 < (mnc h g) → (ab (g - h)) = x → ¬ ((ab ((mA M 14 o) - p)) < (ab (f - p))) → (ab ((mA M 14 o) - p)) = (ab (f - p)) → ¬ ((mA M 14 o) < f) → ¬ (a < (mnc h g)) → ¬ ((ab (g - h)) < x) → X 1 54 [.inr (.inr (0, (some 0))), .inr (.inr (1, (some b))), .inl p, .inl f, .inl a, .inl x, .inl (io k), .inr (.inr (8, (sR t 529 o))), .inl g, .inl h, .inl (mnc h g), .inl (ab (g - h)), .inl 1, .inl 0] [] t Q)
    (k32 : (mnc h g) = a → 0 < (mnc h g) → (ab (g - h)) = x → ¬ ((ab ((mA M 14 o) - p)) < (ab (f - p))) → (ab ((mA M 14 o) - p)) = (ab (f - p)) → (mA M 14 o) < f → a < (mnc h g) → X 1 54 [.inr (.inr (0, (some 0))), .inr (.inr (1, (some b))), .inl p, .inl (mA M 14 o), .inl (mnc h g), .inl (ab (g - h)), .inl (io k), .inr (.inr (8, (sR t 529 o))), .inl g, .inl h, .inl (mnc h g), .inl (ab (g - h)), .inl 1, .inl 1] [] t Q)
    (k33 : (mnc h g) = a → 0 < (mnc h g) → (ab (g - h)) = x → ¬ ((ab ((mA M 14 o) - p)) < (ab (f - p))) → (ab ((mA M 14 o) - p)) = (ab (f - p)) → (mA M 14 o) < f → ¬ (a < (mnc h g)) → (ab (g - h)) < x → X 1 54 [.inr (.inr (0, (some 0))), .inr (.inr (1, (some b))), .inl p, .inl (mA M 14 o), .inl (mnc h g), .inl (ab (g - h)), .inl (io k), .inr (.inr (8, (sR t 529 o))), .inl g, .inl h, .inl (mnc h g), .inl (ab (g - h)), .inl 1, .inl 1] [] t Q)
    (k34 : (mnc h g) = a → 0 < (mnc h g) → (ab (g - h)) = x → ¬ ((ab ((mA M 14 o) - p)) < (ab (f - p))) → (ab ((mA M 14 o) - p)) = (ab (f - p)) → (mA M 14 o) < f → ¬ (a < (mnc h g)) → ¬ ((ab (g - h)) < x) → X 1 54 [.inr (.inr (0, (some 0))), .inr (.inr (1, (some b))), .inl p, .inl (mA M 14 o), .inl (mnc h g), .inl (ab (g - h)), .inl (io k), .inr (.inr (8, (sR t 529 o))), .inl g, .inl h, .inl (mnc h g), .inl (ab (g - h)), .inl 1, .inl 1] [] t Q) :
    X 1 81 [.inr (.inr (0, (some 0))), .inr (.inr (1, (some b))), .inl p, .inl f, .inl a, .inl x, .inl (io k), .inr (.inr (8, (some o))), .inl g, y2, y3, y4, y5, y6] [.inl h] t Q := by
  obtain ⟨hM, hc, hR, hC, hL, hL9⟩ := hW
  refine x_istore (pc' := 83) (ls' := [_, _, _, _, _, _, _, _, _, _, _, _, _, _]) rfl rfl rfl rfl ?_
  refine x_iload (pc' := 85) rfl rfl rfl ?_
  refine x_iload (pc' := 87) rfl rfl rfl ?_
  refine x_min (pc' := 90) (z := (mnc h g)) rfl rfl rfl (if_mnc _ _) ?_
  refine x_istore (pc' := 92) (ls' := [_, _, _, _, _, _, _, _, _, _, _, _, _, _]) rfl rfl rfl rfl ?_
  refine x_iload (pc' := 94) rfl rfl rfl ?_
  refine x_iload (pc' := 96) rfl rfl rfl ?_
  refine x_isub (pc' := 97) (z := (g - h)) rfl rfl rfl ?_
  refine x_abs (pc' := 100) (z := (ab (g - h))) rfl rfl rfl rfl ?_
  refine x_istore (pc' := 102) (ls' := [_, _, _, _, _, _, _, _, _, _, _, _, _, _]) rfl rfl rfl rfl ?_
  refine x_iload (pc' := 104) rfl rfl rfl ?_
  refine x_iload (pc' := 106) rfl rfl rfl ?_
  refine x_icmp_n (a' := 118) (pc' := 109) (z := decide ((mnc h g) = a)) rfl rfl rfl (ik_ne _ _) (fun q1 => ?_) (fun q1 => ?_)
  · refine x_iconst (pc' := 119) rfl rfl ?_
    refine x_istore (pc' := 121) (ls' := [_, _, _, _, _, _, _, _, _, _, _, _, _, _]) rfl rfl rfl rfl ?_
    refine x_iload (pc' := 123) rfl rfl rfl ?_
    refine x_iload (pc' := 125) rfl rfl rfl ?_
    refine x_icmp_n (a' := 145) (pc' := 128) (z := decide ((ab (g - h)) = x)) rfl rfl rfl (ik_ne _ _) (fun q2 => ?_) (fun q2 => ?_)
    · refine x_iconst (pc' := 146) rfl rfl ?_
      refine x_istore (pc' := 148) (ls' := [_, _, _, _, _, _, _, _, _, _, _, _, _, _]) rfl rfl rfl rfl ?_
      refine x_iload (pc' := 150) rfl rfl rfl ?_
      refine x_iload (pc' := 152) rfl rfl rfl ?_
      refine x_icmp (a' := 172) (pc' := 155) (z := decide (a < (mnc h g))) rfl rfl rfl rfl (fun q3 => ?_) (fun q3 => ?_)
      · refine x_aload (pc' := 174) rfl rfl rfl rfl rfl ?_
        refine x_gI (pc' := 177) (x := (mA M 14 o)) rfl rfl rfl ((kA hM rfl ho).trans (congrFun (Fr.f14 (Fr.refl _)) _)) ?_
        refine x_istore_n (pc' := 178) (ls' := [_, _, _, _, _, _, _, _, _, _, _, _, _, _]) rfl rfl rfl rfl ?_
        refine x_iload (pc' := 180) rfl rfl rfl ?_
        refine x_istore (pc' := 182) (ls' := [_, _, _, _, _, _, _, _, _, _, _, _, _, _]) rfl rfl rfl rfl ?_
        refine x_iload (pc' := 184) rfl rfl rfl ?_
        refine x_istore (pc' := 186) (ls' := [_, _, _, _, _, _, _, _, _, _, _, _, _, _]) rfl rfl rfl rfl ?_
        refine x_aload (pc' := 188) rfl rfl rfl rfl rfl ?_
        refine x_gR (pc' := 191) (r := (sR t 529 o)) rfl rfl rfl rfl ?_
        refine x_astore (pc' := 193) (ls' := [_, _, _, _, _, _, _, _, _, _, _, _, _, _]) rfl rfl rfl rfl rfl ?_
        refine x_goto (pc' := 54) rfl rfl ?_
        exact k0 (of_decide_eq_false q1) (of_decide_eq_false q2) (of_decide_eq_true q3)
      · refine x_iload (pc' := 157) rfl rfl rfl ?_
        refine x_if (a' := 186) (pc' := 160) (z := true) rfl rfl rfl (by decide) (fun _ => ?_) (fun h => by cases h)
        refine x_aload (pc' := 188) rfl rfl rfl rfl rfl ?_
        refine x_gR (pc' := 191) (r := (sR t 529 o)) rfl rfl rfl rfl ?_
        refine x_astore (pc' := 193) (ls' := [_, _, _, _, _, _, _, _, _, _, _, _, _, _]) rfl rfl rfl rfl rfl ?_
        refine x_goto (pc' := 54) rfl rfl ?_
        exact k1 (of_decide_eq_false q1) (of_decide_eq_false q2) (of_decide_eq_false q3)
    · refine x_aload (pc' := 130) rfl rfl rfl rfl rfl ?_
      refine x_gI (pc' := 133) (x := (mA M 14 o)) rfl rfl rfl ((kA hM rfl ho).trans (congrFun (Fr.f14 (Fr.refl _)) _)) ?_
      refine x_iload_n (pc' := 134) rfl rfl rfl ?_
      refine x_iload_n (pc' := 135) rfl rfl rfl ?_
      refine x_cs (ls0 := [_, _, _, sJk, sJk]) (rest := []) rfl rfl rfl rfl ?_
      refine x_iload_n (pc' := 1) rfl rfl rfl ?_
      refine x_iload_n (pc' := 2) rfl rfl rfl ?_
      refine x_isub (pc' := 3) (z := ((mA M 14 o) - p)) rfl rfl rfl ?_
      refine x_abs (pc' := 6) (z := (ab ((mA M 14 o) - p))) rfl rfl rfl rfl ?_
      refine x_istore_n (pc' := 7) (ls' := [_, _, _, _, _]) rfl rfl rfl rfl ?_
      refine x_iload_n (pc' := 8) rfl rfl rfl ?_
      refine x_iload_n (pc' := 9) rfl rfl rfl ?_
      refine x_isub (pc' := 10) (z := (f - p)) rfl rfl rfl ?_
      refine x_abs (pc' := 13) (z := (ab (f - p))) rfl rfl rfl rfl ?_
      refine x_istore (pc' := 15) (ls' := [_, _, _, _, _]) rfl rfl rfl rfl ?_
      refine x_iload_n (pc' := 16) rfl rfl rfl ?_
      refine x_iload (pc' := 18) rfl rfl rfl ?_
      refine x_icmp (a' := 32) (pc' := 21) (z := decide ((ab ((mA M 14 o) - p)) < (ab (f - p)))) rfl rfl rfl rfl (fun q5 => ?_) (fun q5 => ?_)
      · refine x_iconst (pc' := 33) rfl rfl ?_
        refine x_goto (pc' := 37) rfl rfl ?_
        refine x_retz (z := true) rfl rfl ?_
        refine sK_i (pc' := 138) rfl ?_
        refine x_if (a' := 145) (pc' := 141) (z := false) rfl rfl rfl (by decide) (fun h => by cases h) (fun _ => ?_)
        refine x_iconst (pc' := 142) rfl rfl ?_
        refine x_goto (pc' := 146) rfl rfl ?_
        refine x_istore (pc' := 148) (ls' := [_, _, _, _, _, _, _, _, _, _, _, _, _, _]) rfl rfl rfl rfl ?_
        refine x_iload (pc' := 150) rfl rfl rfl ?_
        refine x_iload (pc' := 152) rfl rfl rfl ?_
        refine x_icmp (a' := 172) (pc' := 155) (z := decide (a < (mnc h g))) rfl rfl rfl rfl (fun q7 => ?_) (fun q7 => ?_)
        · refine x_aload (pc' := 174) rfl rfl rfl rfl rfl ?_
          refine x_gI (pc' := 177) (x := (mA M 14 o)) rfl rfl rfl ((kA hM rfl ho).trans (congrFun (Fr.f14 (Fr.refl _)) _)) ?_
          refine x_istore_n (pc' := 178) (ls' := [_, _, _, _, _, _, _, _, _, _, _, _, _, _]) rfl rfl rfl rfl ?_
          refine x_iload (pc' := 180) rfl rfl rfl ?_
          refine x_istore (pc' := 182) (ls' := [_, _, _, _, _, _, _, _, _, _, _, _, _, _]) rfl rfl rfl rfl ?_
          refine x_iload (pc' := 184) rfl rfl rfl ?_
          refine x_istore (pc' := 186) (ls' := [_, _, _, _, _, _, _, _, _, _, _, _, _, _]) rfl rfl rfl rfl ?_
          refine x_aload (pc' := 188) rfl rfl rfl rfl rfl ?_
          refine x_gR (pc' := 191) (r := (sR t 529 o)) rfl rfl rfl rfl ?_
          refine x_astore (pc' := 193) (ls' := [_, _, _, _, _, _, _, _, _, _, _, _, _, _]) rfl rfl rfl rfl rfl ?_
          refine x_goto (pc' := 54) rfl rfl ?_
          exact k2 (of_decide_eq_false q1) (of_decide_eq_true q2) (of_decide_eq_true q5) (of_decide_eq_true q7)
        · refine x_iload (pc' := 157) rfl rfl rfl ?_
          refine x_if (a' := 186) (pc' := 160) (z := true) rfl rfl rfl (by decide) (fun _ => ?_) (fun h => by cases h)
          refine x_aload (pc' := 188) rfl rfl rfl rfl rfl ?_
          refine x_gR (pc' := 191) (r := (sR t 529 o)) rfl rfl rfl rfl ?_
          refine x_astore (pc' := 193) (ls' := [_, _, _, _, _, _, _, _, _, _, _, _, _, _]) rfl rfl rfl rfl rfl ?_
          refine x_goto (pc' := 54) rfl rfl ?_
          exact k3 (of_decide_eq_false q1) (of_decide_eq_true q2) (of_decide_eq_true q5) (of_decide_eq_false q7)
      · refine x_iload_n (pc' := 22) rfl rfl rfl ?_
        refine x_iload (pc' := 24) rfl rfl rfl ?_
        refine x_icmp_n (a' := 36) (pc' := 27) (z := decide ((ab ((mA M 14 o) - p)) = (ab (f - p)))) rfl rfl rfl (ik_ne _ _) (fun q9 => ?_) (fun q9 => ?_)
        · refine x_iconst (pc' := 37) rfl rfl ?_
          refine x_retz (z := false) rfl rfl ?_
          refine sK_i (pc' := 138) rfl ?_
          refine x_if (a' := 145) (pc' := 141) (z := true) rfl rfl rfl (by decide) (fun _ => ?_) (fun h => by cases h)
          refine x_iconst (pc' := 146) rfl rfl ?_
          refine x_istore (pc' := 148) (ls' := [_, _, _, _, _, _, _, _, _, _, _, _, _, _]) rfl rfl rfl rfl ?_
          refine x_iload (pc' := 150) rfl rfl rfl ?_
          refine x_iload (pc' := 152) rfl rfl rfl ?_
          refine x_icmp (a' := 172) (pc' := 155) (z := decide (a < (mnc h g))) rfl rfl rfl rfl (fun q11 => ?_) (fun q11 => ?_)
          · refine x_aload (pc' := 174) rfl rfl rfl rfl rfl ?_
            refine x_gI (pc' := 177) (x := (mA M 14 o)) rfl rfl rfl ((kA hM rfl ho).trans (congrFun (Fr.f14 (Fr.refl _)) _)) ?_
            refine x_istore_n (pc' := 178) (ls' := [_, _, _, _, _, _, _, _, _, _, _, _, _, _]) rfl rfl rfl rfl ?_
            refine x_iload (pc' := 180) rfl rfl rfl ?_
            refine x_istore (pc' := 182) (ls' := [_, _, _, _, _, _, _, _, _, _, _, _, _, _]) rfl rfl rfl rfl ?_
            refine x_iload (pc' := 184) rfl rfl rfl ?_
            refine x_istore (pc' := 186) (ls' := [_, _, _, _, _, _, _, _, _, _, _, _, _, _]) rfl rfl rfl rfl ?_
            refine x_aload (pc' := 188) rfl rfl rfl rfl rfl ?_
            refine x_gR (pc' := 191) (r := (sR t 529 o)) rfl rfl rfl rfl ?_
            refine x_astore (pc' := 193) (ls' := [_, _, _, _, _, _, _, _, _, _, _, _, _, _]) rfl rfl rfl rfl rfl ?_
            refine x_goto (pc' := 54) rfl rfl ?_
            exact k4 (of_decide_eq_false q1) (of_decide_eq_true q2) (of_decide_eq_false q5) (of_decide_eq_false q9) (of_decide_eq_true q11)
          · refine x_iload (pc' := 157) rfl rfl rfl ?_
            refine x_if (a' := 186) (pc' := 160) (z := true) rfl rfl rfl (by decide) (fun _ => ?_) (fun h => by cases h)
            refine x_aload (pc' := 188) rfl rfl rfl rfl rfl ?_
            refine x_gR (pc' := 191) (r := (sR t 529 o)) rfl rfl rfl rfl ?_
            refine x_astore (pc' := 193) (ls' := [_, _, _, _, _, _, _, _, _, _, _, _, _, _]) rfl rfl rfl rfl rfl ?_
            refine x_goto (pc' := 54) rfl rfl ?_
            exact k5 (of_decide_eq_false q1) (of_decide_eq_true q2) (of_decide_eq_false q5) (of_decide_eq_false q9) (of_decide_eq_false q11)
        · refine x_iload_n (pc' := 28) rfl rfl rfl ?_
          refine x_iload_n (pc' := 29) rfl rfl rfl ?_
          refine x_icmp_n (a' := 36) (pc' := 32) (z := decide ((mA M 14 o) < f)) rfl rfl rfl (ik_ge _ _) (fun q13 => ?_) (fun q13 => ?_)
          · refine x_iconst (pc' := 37) rfl rfl ?_
            refine x_retz (z := false) rfl rfl ?_
            refine sK_i (pc' := 138) rfl ?_
            refine x_if (a' := 145) (pc' := 141) (z := true) rfl rfl rfl (by decide) (fun _ => ?_) (fun h => by cases h)
            refine x_iconst (pc' := 146) rfl rfl ?_
            refine x_istore (pc' := 148) (ls' := [_, _, _, _, _, _, _, _, _, _, _, _, _, _]) rfl rfl rfl rfl ?_
            refine x_iload (pc' := 150) rfl rfl rfl ?_
            refine x_iload (pc' := 152) rfl rfl rfl ?_
            refine x_icmp (a' := 172) (pc' := 155) (z := decide (a < (mnc h g))) rfl rfl rfl rfl (fun q15 => ?_) (fun q15 => ?_)
            · refine x_aload (pc' := 174) rfl rfl rfl rfl rfl ?_
              refine x_gI (pc' := 177) (x := (mA M 14 o)) rfl rfl rfl ((kA hM rfl ho).trans (congrFun (Fr.f14 (Fr.refl _)) _)) ?_
              refine x_istore_n (pc' := 178) (ls' := [_, _, _, _, _, _, _, _, _, _, _, _, _, _]) rfl rfl rfl rfl ?_
              refine x_iload (pc' := 180) rfl rfl rfl ?_
              refine x_istore (pc' := 182) (ls' := [_, _, _, _, _, _, _, _, _, _, _, _, _, _]) rfl rfl rfl rfl ?_
              refine x_iload (pc' := 184) rfl rfl rfl ?_
              refine x_istore (pc' := 186) (ls' := [_, _, _, _, _, _, _, _, _, _, _, _, _, _]) rfl rfl rfl rfl ?_
              refine x_aload (pc' := 188) rfl rfl rfl rfl rfl ?_
              refine x_gR (pc' := 191) (r := (sR t 529 o)) rfl rfl rfl rfl ?_
              refine x_astore (pc' := 193) (ls' := [_, _, _, _, _, _, _, _, _, _, _, _, _, _]) rfl rfl rfl rfl rfl ?_
              refine x_goto (pc' := 54) rfl rfl ?_
              exact k6 (of_decide_eq_false q1) (of_decide_eq_true q2) (of_decide_eq_false q5) (of_decide_eq_true q9) (of_decide_eq_false q13) (of_decide_eq_true q15)
            · refine x_iload (pc' := 157) rfl rfl rfl ?_
              refine x_if (a' := 186) (pc' := 160) (z := true) rfl rfl rfl (by decide) (fun _ => ?_) (fun h => by cases h)
              refine x_aload (pc' := 188) rfl rfl rfl rfl rfl ?_
              refine x_gR (pc' := 191) (r := (sR t 529 o)) rfl rfl rfl rfl ?_
              refine x_astore (pc' := 193) (ls' := [_, _, _, _, _, _, _, _, _, _, _, _, _, _]) rfl rfl rfl rfl rfl ?_
              refine x_goto (pc' := 54) rfl rfl ?_
              exact k7 (of_decide_eq_false q1) (of_decide_eq_true q2) (of_decide_eq_false q5) (of_decide_eq_true q9) (of_decide_eq_false q13) (of_decide_eq_false q15)
          · refine x_iconst (pc' := 33) rfl rfl ?_
            refine x_goto (pc' := 37) rfl rfl ?_
            refine x_retz (z := true) rfl rfl ?_
            refine sK_i (pc' := 138) rfl ?_
            refine x_if (a' := 145) (pc' := 141) (z := false) rfl rfl rfl (by decide) (fun h => by cases h) (fun _ => ?_)
            refine x_iconst (pc' := 142) rfl rfl ?_
            refine x_goto (pc' := 146) rfl rfl ?_
            refine x_istore (pc' := 148) (ls' := [_, _, _, _, _, _, _, _, _, _, _, _, _, _]) rfl rfl rfl rfl ?_
            refine x_iload (pc' := 150) rfl rfl rfl ?_
            refine x_iload (pc' := 152) rfl rfl rfl ?_
            refine x_icmp (a' := 172) (pc' := 155) (z := decide (a < (mnc h g))) rfl rfl rfl rfl (fun q18 => ?_) (fun q18 => ?_)
            · refine x_aload (pc' := 174) rfl rfl rfl rfl rfl ?_
              refine x_gI (pc' := 177) (x := (mA M 14 o)) rfl rfl rfl ((kA hM rfl ho).trans (congrFun (Fr.f14 (Fr.refl _)) _)) ?_
              refine x_istore_n (pc' := 178) (ls' := [_, _, _, _, _, _, _, _, _, _, _, _, _, _]) rfl rfl rfl rfl ?_
              refine x_iload (pc' := 180) rfl rfl rfl ?_
              refine x_istore (pc' := 182) (ls' := [_, _, _, _, _, _, _, _, _, _, _, _, _, _]) rfl rfl rfl rfl ?_
              refine x_iload (pc' := 184) rfl rfl rfl ?_
              refine x_istore (pc' := 186) (ls' := [_, _, _, _, _, _, _, _, _, _, _, _, _, _]) rfl rfl rfl rfl ?_
              refine x_aload (pc' := 188) rfl rfl rfl rfl rfl ?_
              refine x_gR (pc' := 191) (r := (sR t 529 o)) rfl rfl rfl rfl ?_
              refine x_astore (pc' := 193) (ls' := [_, _, _, _, _, _, _, _, _, _, _, _, _, _]) rfl rfl rfl rfl rfl ?_
              refine x_goto (pc' := 54) rfl rfl ?_
              exact k8 (of_decide_eq_false q1) (of_decide_eq_true q2) (of_decide_eq_false q5) (of_decide_eq_true q9) (of_decide_eq_true q13) (of_decide_eq_true q18)
            · refine x_iload (pc' := 157) rfl rfl rfl ?_
              refine x_if (a' := 186) (pc' := 160) (z := true) rfl rfl rfl (by decide) (fun _ => ?_) (fun h => by cases h)
              refine x_aload (pc' := 188) rfl rfl rfl rfl rfl ?_
              refine x_gR (pc' := 191) (r := (sR t 529 o)) rfl rfl rfl rfl ?_
              refine x_astore (pc' := 193) (ls' := [_, _, _, _, _, _, _, _, _, _, _, _, _, _]) rfl rfl rfl rfl rfl ?_
              refine x_goto (pc' := 54) rfl rfl ?_
              exact k9 (of_decide_eq_false q1) (of_decide_eq_true q2) (of_decide_eq_false q5) (of_decide_eq_true q9) (of_decide_eq_true q13) (of_decide_eq_false q18)
  · refine x_iload (pc' := 111) rfl rfl rfl ?_
    refine x_if_n (a' := 118) (pc' := 114) (z := decide (0 < (mnc h g))) rfl rfl rfl (ik_le _ _) (fun q20 => ?_) (fun q20 => ?_)
    · refine x_iconst (pc' := 119) rfl rfl ?_
      refine x_istore (pc' := 121) (ls' := [_, _, _, _, _, _, _, _, _, _, _, _, _, _]) rfl rfl rfl rfl ?_
      refine x_iload (pc' := 123) rfl rfl rfl ?_
      refine x_iload (pc' := 125) rfl rfl rfl ?_
      refine x_icmp_n (a' := 145) (pc' := 128) (z := decide ((ab (g - h)) = x)) rfl rfl rfl (ik_ne _ _) (fun q21 => ?_) (fun q21 => ?_)
      · refine x_iconst (pc' := 146) rfl rfl ?_
        refine x_istore (pc' := 148) (ls' := [_, _, _, _, _, _, _, _, _, _, _, _, _, _]) rfl rfl rfl rfl ?_
        refine x_iload (pc' := 150) rfl rfl rfl ?_
        refine x_iload (pc' := 152) rfl rfl rfl ?_
        refine x_icmp (a' := 172) (pc' := 155) (z := decide (a < (mnc h g))) rfl rfl rfl rfl (fun q22 => ?_) (fun q22 => ?_)
        · refine x_aload (pc' := 174) rfl rfl rfl rfl rfl ?_
          refine x_gI (pc' := 177) (x := (mA M 14 o)) rfl rfl rfl ((kA hM rfl ho).trans (congrFun (Fr.f14 (Fr.refl _)) _)) ?_
          refine x_istore_n (pc' := 178) (ls' := [_, _, _, _, _, _, _, _, _, _, _, _, _, _]) rfl rfl rfl rfl ?_
          refine x_iload (pc' := 180) rfl rfl rfl ?_
          refine x_istore (pc' := 182) (ls' := [_, _, _, _, _, _, _, _, _, _, _, _, _, _]) rfl rfl rfl rfl ?_
          refine x_iload (pc' := 184) rfl rfl rfl ?_
          refine x_istore (pc' := 186) (ls' := [_, _, _, _, _, _, _, _, _, _, _, _, _, _]) rfl rfl rfl rfl ?_
          refine x_aload (pc' := 188) rfl rfl rfl rfl rfl ?_
          refine x_gR (pc' := 191) (r := (sR t 529 o)) rfl rfl rfl rfl ?_
          refine x_astore (pc' := 193) (ls' := [_, _, _, _, _, _, _, _, _, _, _, _, _, _]) rfl rfl rfl rfl rfl ?_
          refine x_goto (pc' := 54) rfl rfl ?_
          exact k10 (of_decide_eq_true q1) (of_decide_eq_false q20) (of_decide_eq_false q21) (of_decide_eq_true q22)
        · refine x_iload (pc' := 157) rfl rfl rfl ?_
          refine x_if (a' := 186) (pc' := 160) (z := true) rfl rfl rfl (by decide) (fun _ => ?_) (fun h => by cases h)
          refine x_aload (pc' := 188) rfl rfl rfl rfl rfl ?_
          refine x_gR (pc' := 191) (r := (sR t 529 o)) rfl rfl rfl rfl ?_
          refine x_astore (pc' := 193) (ls' := [_, _, _, _, _, _, _, _, _, _, _, _, _, _]) rfl rfl rfl rfl rfl ?_
          refine x_goto (pc' := 54) rfl rfl ?_
          exact k11 (of_decide_eq_true q1) (of_decide_eq_false q20) (of_decide_eq_false q21) (of_decide_eq_false q22)
      · refine x_aload (pc' := 130) rfl rfl rfl rfl rfl ?_
        refine x_gI (pc' := 133) (x := (mA M 14 o)) rfl rfl rfl ((kA hM rfl ho).trans (congrFun (Fr.f14 (Fr.refl _)) _)) ?_
        refine x_iload_n (pc' := 134) rfl rfl rfl ?_
        refine x_iload_n (pc' := 135) rfl rfl rfl ?_
        refine x_cs (ls0 := [_, _, _, sJk, sJk]) (rest := []) rfl rfl rfl rfl ?_
        refine x_iload_n (pc' := 1) rfl rfl rfl ?_
        refine x_iload_n (pc' := 2) rfl rfl rfl ?_
        refine x_isub (pc' := 3) (z := ((mA M 14 o) - p)) rfl rfl rfl ?_
        refine x_abs (pc' := 6) (z := (ab ((mA M 14 o) - p))) rfl rfl rfl rfl ?_
        refine x_istore_n (pc' := 7) (ls' := [_, _, _, _, _]) rfl rfl rfl rfl ?_
        refine x_iload_n (pc' := 8) rfl rfl rfl ?_
        refine x_iload_n (pc' := 9) rfl rfl rfl ?_
        refine x_isub (pc' := 10) (z := (f - p)) rfl rfl rfl ?_
        refine x_abs (pc' := 13) (z := (ab (f - p))) rfl rfl rfl rfl ?_
        refine x_istore (pc' := 15) (ls' := [_, _, _, _, _]) rfl rfl rfl rfl ?_
        refine x_iload_n (pc' := 16) rfl rfl rfl ?_
        refine x_iload (pc' := 18) rfl rfl rfl ?_
        refine x_icmp (a' := 32) (pc' := 21) (z := decide ((ab ((mA M 14 o) - p)) < (ab (f - p)))) rfl rfl rfl rfl (fun q24 => ?_) (fun q24 => ?_)
        · refine x_iconst (pc' := 33) rfl rfl ?_
          refine x_goto (pc' := 37) rfl rfl ?_
          refine x_retz (z := true) rfl rfl ?_
          refine sK_i (pc' := 138) rfl ?_
          refine x_if (a' := 145) (pc' := 141) (z := false) rfl rfl rfl (by decide) (fun h => by cases h) (fun _ => ?_)
          refine x_iconst (pc' := 142) rfl rfl ?_
          refine x_goto (pc' := 146) rfl rfl ?_
          refine x_istore (pc' := 148) (ls' := [_, _, _, _, _, _, _, _, _, _, _, _, _, _]) rfl rfl rfl rfl ?_
          refine x_iload (pc' := 150) rfl rfl rfl ?_
          refine x_iload (pc' := 152) rfl rfl rfl ?_
          refine x_icmp (a' := 172) (pc' := 155) (z := decide (a < (mnc h g))) rfl rfl rfl rfl (fun q26 => ?_) (fun q26 => ?_)
          · refine x_aload (pc' := 174) rfl rfl rfl rfl rfl ?_
            refine x_gI (pc' := 177) (x := (mA M 14 o)) rfl rfl rfl ((kA hM rfl ho).trans (congrFun (Fr.f14 (Fr.refl _)) _)) ?_
            refine x_istore_n (pc' := 178) (ls' := [_, _, _, _, _, _, _, _, _, _, _, _, _, _]) rfl rfl rfl rfl ?_
            refine x_iload (pc' := 180) rfl rfl rfl ?_
            refine x_istore (pc' := 182) (ls' := [_, _, _, _, _, _, _, _, _, _, _, _, _, _]) rfl rfl rfl rfl ?_
            refine x_iload (pc' := 184) rfl rfl rfl ?_
            refine x_istore (pc' := 186) (ls' := [_, _, _, _, _, _, _, _, _, _, _, _, _, _]) rfl rfl rfl rfl ?_
            refine x_aload (pc' := 188) rfl rfl rfl rfl rfl ?_
            refine x_gR (pc' := 191) (r := (sR t 529 o)) rfl rfl rfl rfl ?_
            refine x_astore (pc' := 193) (ls' := [_, _, _, _, _, _, _, _, _, _, _, _, _, _]) rfl rfl rfl rfl rfl ?_
            refine x_goto (pc' := 54) rfl rfl ?_
            exact k12 (of_decide_eq_true q1) (of_decide_eq_false q20) (of_decide_eq_true q21) (of_decide_eq_true q24) (of_decide_eq_true q26)
          · refine x_iload (pc' := 157) rfl rfl rfl ?_
            refine x_if (a' := 186) (pc' := 160) (z := true) rfl rfl rfl (by decide) (fun _ => ?_) (fun h => by cases h)
            refine x_aload (pc' := 188) rfl rfl rfl rfl rfl ?_
            refine x_gR (pc' := 191) (r := (sR t 529 o)) rfl rfl rfl rfl ?_
            refine x_astore (pc' := 193) (ls' := [_, _, _, _, _, _, _, _, _, _, _, _, _, _]) rfl rfl rfl rfl rfl ?_
            refine x_goto (pc' := 54) rfl rfl ?_
            exact k13 (of_decide_eq_true q1) (of_decide_eq_false q20) (of_decide_eq_true q21) (of_decide_eq_true q24) (of_decide_eq_false q26)
        · refine x_iload_n (pc' := 22) rfl rfl rfl ?_
          refine x_iload (pc' := 24) rfl rfl rfl ?_
          refine x_icmp_n (a' := 36) (pc' := 27) (z := decide ((ab ((mA M 14 o) - p)) = (ab (f - p)))) rfl rfl rfl (ik_ne _ _) (fun q28 => ?_) (fun q28 => ?_)
          · refine x_iconst (pc' := 37) rfl rfl ?_
            refine x_retz (z := false) rfl rfl ?_
            refine sK_i (pc' := 138) rfl ?_
            refine x_if (a' := 145) (pc' := 141) (z := true) rfl rfl rfl (by decide) (fun _ => ?_) (fun h => by cases h)
            refine x_iconst (pc' := 146) rfl rfl ?_
            refine x_istore (pc' := 148) (ls' := [_, _, _, _, _, _, _, _, _, _, _, _, _, _]) rfl rfl rfl rfl ?_
            refine x_iload (pc' := 150) rfl rfl rfl ?_
            refine x_iload (pc' := 152) rfl rfl rfl ?_
            refine x_icmp (a' := 172) (pc' := 155) (z := decide (a < (mnc h g))) rfl rfl rfl rfl (fun q30 => ?_) (fun q30 => ?_)
            · refine x_aload (pc' := 174) rfl rfl rfl rfl rfl ?_
              refine x_gI (pc' := 177) (x := (mA M 14 o)) rfl rfl rfl ((kA hM rfl ho).trans (congrFun (Fr.f14 (Fr.refl _)) _)) ?_
              refine x_istore_n (pc' := 178) (ls' := [_, _, _, _, _, _, _, _, _, _, _, _, _, _]) rfl rfl rfl rfl ?_
              refine x_iload (pc' := 180) rfl rfl rfl ?_
              refine x_istore (pc' := 182) (ls' := [_, _, _, _, _, _, _, _, _, _, _, _, _, _]) rfl rfl rfl rfl ?_
              refine x_iload (pc' := 184) rfl rfl rfl ?_
              refine x_istore (pc' := 186) (ls' := [_, _, _, _, _, _, _, _, _, _, _, _, _, _]) rfl rfl rfl rfl ?_
              refine x_aload (pc' := 188) rfl rfl rfl rfl rfl ?_
              refine x_gR (pc' := 191) (r := (sR t 529 o)) rfl rfl rfl rfl ?_
              refine x_astore (pc' := 193) (ls' := [_, _, _, _, _, _, _, _, _, _, _, _, _, _]) rfl rfl rfl rfl rfl ?_
              refine x_goto (pc' := 54) rfl rfl ?_
              exact k14 (of_decide_eq_true q1) (of_decide_eq_false q20) (of_decide_eq_true q21) (of_decide_eq_false q24) (of_decide_eq_false q28) (of_decide_eq_true q30)
            · refine x_iload (pc' := 157) rfl rfl rfl ?_
              refine x_if (a' := 186) (pc' := 160) (z := true) rfl rfl rfl (by decide) (fun _ => ?_) (fun h => by cases h)
              refine x_aload (pc' := 188) rfl rfl rfl rfl rfl ?_
              refine x_gR (pc' := 191) (r := (sR t 529 o)) rfl rfl rfl rfl ?_
              refine x_astore (pc' := 193) (ls' := [_, _, _, _, _, _, _, _, _, _, _, _, _, _]) rfl rfl rfl rfl rfl ?_
              refine x_goto (pc' := 54) rfl rfl ?_
              exact k15 (of_decide_eq_true q1) (of_decide_eq_false q20) (of_decide_eq_true q21) (of_decide_eq_false q24) (of_decide_eq_false q28) (of_decide_eq_false q30)
          · refine x_iload_n (pc' := 28) rfl rfl rfl ?_
            refine x_iload_n (pc' := 29) rfl rfl rfl ?_
            refine x_icmp_n (a' := 36) (pc' := 32) (z := decide ((mA M 14 o) < f)) rfl rfl rfl (ik_ge _ _) (fun q32 => ?_) (fun q32 => ?_)
            · refine x_iconst (pc' := 37) rfl rfl ?_
              refine x_retz (z := false) rfl rfl ?_
              refine sK_i (pc' := 138) rfl ?_
              refine x_if (a' := 145) (pc' := 141) (z := true) rfl rfl rfl (by decide) (fun _ => ?_) (fun h => by cases h)
              refine x_iconst (pc' := 146) rfl rfl ?_
              refine x_istore (pc' := 148) (ls' := [_, _, _, _, _, _, _, _, _, _, _, _, _, _]) rfl rfl rfl rfl ?_
              refine x_iload (pc' := 150) rfl rfl rfl ?_
              refine x_iload (pc' := 152) rfl rfl rfl ?_
              refine x_icmp (a' := 172) (pc' := 155) (z := decide (a < (mnc h g))) rfl rfl rfl rfl (fun q34 => ?_) (fun q34 => ?_)
              · refine x_aload (pc' := 174) rfl rfl rfl rfl rfl ?_
                refine x_gI (pc' := 177) (x := (mA M 14 o)) rfl rfl rfl ((kA hM rfl ho).trans (congrFun (Fr.f14 (Fr.refl _)) _)) ?_
                refine x_istore_n (pc' := 178) (ls' := [_, _, _, _, _, _, _, _, _, _, _, _, _, _]) rfl rfl rfl rfl ?_
                refine x_iload (pc' := 180) rfl rfl rfl ?_
                refine x_istore (pc' := 182) (ls' := [_, _, _, _, _, _, _, _, _, _, _, _, _, _]) rfl rfl rfl rfl ?_
                refine x_iload (pc' := 184) rfl rfl rfl ?_
                refine x_istore (pc' := 186) (ls' := [_, _, _, _, _, _, _, _, _, _, _, _, _, _]) rfl rfl rfl rfl ?_
                refine x_aload (pc' := 188) rfl rfl rfl rfl rfl ?_
                refine x_gR (pc' := 191) (r := (sR t 529 o)) rfl rfl rfl rfl ?_
                refine x_astore (pc' := 193) (ls' := [_, _, _, _, _, _, _, _, _, _, _, _, _, _]) rfl rfl rfl rfl rfl ?_
                refine x_goto (pc' := 54) rfl rfl ?_
                exact k16 (of_decide_eq_true q1) (of_decide_eq_false q20) (of_decide_eq_true q21) (of_decide_eq_false q24) (of_decide_eq_true q28) (of_decide_eq_false q32) (of_decide_eq_true q34)
              · refine x_iload (pc' := 157) rfl rfl rfl ?_
                refine x_if (a' := 186) (pc' := 160) (z := true) rfl rfl rfl (by decide) (fun _ => ?_) (fun h => by cases h)
                refine x_aload (pc' := 188) rfl rfl rfl rfl rfl ?_
                refine x_gR (pc' := 191) (r := (sR t 529 o)) rfl rfl rfl rfl ?_
                refine x_astore (pc' := 193) (ls' := [_, _, _, _, _, _, _, _, _, _, _, _, _, _]) rfl rfl rfl rfl rfl ?_
                refine x_goto (pc' := 54) rfl rfl ?_
                exact k17 (of_decide_eq_true q1) (of_decide_eq_false q20) (of_decide_eq_true q21) (of_decide_eq_false q24) (of_decide_eq_true q28) (of_decide_eq_false q32) (of_decide_eq_false q34)
            · refine x_iconst (pc' := 33) rfl rfl ?_
              refine x_goto (pc' := 37) rfl rfl ?_
              refine x_retz (z := true) rfl rfl ?_
              refine sK_i (pc' := 138) rfl ?_
              refine x_if (a' := 145) (pc' := 141) (z := false) rfl rfl rfl (by decide) (fun h => by cases h) (fun _ => ?_)
              refine x_iconst (pc' := 142) rfl rfl ?_
              refine x_goto (pc' := 146) rfl rfl ?_
              refine x_istore (pc' := 148) (ls' := [_, _, _, _, _, _, _, _, _, _, _, _, _, _]) rfl rfl rfl rfl ?_
              refine x_iload (pc' := 150) rfl rfl rfl ?_
              refine x_iload (pc' := 152) rfl rfl rfl ?_
              refine x_icmp (a' := 172) (pc' := 155) (z := decide (a < (mnc h g))) rfl rfl rfl rfl (fun q37 => ?_) (fun q37 => ?_)
              · refine x_aload (pc' := 174) rfl rfl rfl rfl rfl ?_
                refine x_gI (pc' := 177) (x := (mA M 14 o)) rfl rfl rfl ((kA hM rfl ho).trans (congrFun (Fr.f14 (Fr.refl _)) _)) ?_
                refine x_istore_n (pc' := 178) (ls' := [_, _, _, _, _, _, _, _, _, _, _, _, _, _]) rfl rfl rfl rfl ?_
                refine x_iload (pc' := 180) rfl rfl rfl ?_
                refine x_istore (pc' := 182) (ls' := [_, _, _, _, _, _, _, _, _, _, _, _, _, _]) rfl rfl rfl rfl ?_
                refine x_iload (pc' := 184) rfl rfl rfl ?_
                refine x_istore (pc' := 186) (ls' := [_, _, _, _, _, _, _, _, _, _, _, _, _, _]) rfl rfl rfl rfl ?_
                refine x_aload (pc' := 188) rfl rfl rfl rfl rfl ?_
                refine x_gR (pc' := 191) (r := (sR t 529 o)) rfl rfl rfl rfl ?_
                refine x_astore (pc' := 193) (ls' := [_, _, _, _, _, _, _, _, _, _, _, _, _, _]) rfl rfl rfl rfl rfl ?_
                refine x_goto (pc' := 54) rfl rfl ?_
                exact k18 (of_decide_eq_true q1) (of_decide_eq_false q20) (of_decide_eq_true q21) (of_decide_eq_false q24) (of_decide_eq_true q28) (of_decide_eq_true q32) (of_decide_eq_true q37)
              · refine x_iload (pc' := 157) rfl rfl rfl ?_
                refine x_if (a' := 186) (pc' := 160) (z := true) rfl rfl rfl (by decide) (fun _ => ?_) (fun h => by cases h)
                refine x_aload (pc' := 188) rfl rfl rfl rfl rfl ?_
                refine x_gR (pc' := 191) (r := (sR t 529 o)) rfl rfl rfl rfl ?_
                refine x_astore (pc' := 193) (ls' := [_, _, _, _, _, _, _, _, _, _, _, _, _, _]) rfl rfl rfl rfl rfl ?_
                refine x_goto (pc' := 54) rfl rfl ?_
                exact k19 (of_decide_eq_true q1) (of_decide_eq_false q20) (of_decide_eq_true q21) (of_decide_eq_false q24) (of_decide_eq_true q28) (of_decide_eq_true q32) (of_decide_eq_false q37)
    · refine x_iconst (pc' := 115) rfl rfl ?_
      refine x_goto (pc' := 119) rfl rfl ?_
      refine x_istore (pc' := 121) (ls' := [_, _, _, _, _, _, _, _, _, _, _, _, _, _]) rfl rfl rfl rfl ?_
      refine x_iload (pc' := 123) rfl rfl rfl ?_
      refine x_iload (pc' := 125) rfl rfl rfl ?_
      refine x_icmp_n (a' := 145) (pc' := 128) (z := decide ((ab (g - h)) = x)) rfl rfl rfl (ik_ne _ _) (fun q39 => ?_) (fun q39 => ?_)
      · refine x_iconst (pc' := 146) rfl rfl ?_
        refine x_istore (pc' := 148) (ls' := [_, _, _, _, _, _, _, _, _, _, _, _, _, _]) rfl rfl rfl rfl ?_
        refine x_iload (pc' := 150) rfl rfl rfl ?_
        refine x_iload (pc' := 152) rfl rfl rfl ?_
        refine x_icmp (a' := 172) (pc' := 155) (z := decide (a < (mnc h g))) rfl rfl rfl rfl (fun q40 => ?_) (fun q40 => ?_)
        · refine x_aload (pc' := 174) rfl rfl rfl rfl rfl ?_
          refine x_gI (pc' := 177) (x := (mA M 14 o)) rfl rfl rfl ((kA hM rfl ho).trans (congrFun (Fr.f14 (Fr.refl _)) _)) ?_
          refine x_istore_n (pc' := 178) (ls' := [_, _, _, _, _, _, _, _, _, _, _, _, _, _]) rfl rfl rfl rfl ?_
          refine x_iload (pc' := 180) rfl rfl rfl ?_
          refine x_istore (pc' := 182) (ls' := [_, _, _, _, _, _, _, _, _, _, _, _, _, _]) rfl rfl rfl rfl ?_
          refine x_iload (pc' := 184) rfl rfl rfl ?_
          refine x_istore (pc' := 186) (ls' := [_, _, _, _, _, _, _, _, _, _, _, _, _, _]) rfl rfl rfl rfl ?_
          refine x_aload (pc' := 188) rfl rfl rfl rfl rfl ?_
          refine x_gR (pc' := 191) (r := (sR t 529 o)) rfl rfl rfl rfl ?_
          refine x_astore (pc' := 193) (ls' := [_, _, _, _, _, _, _, _, _, _, _, _, _, _]) rfl rfl rfl rfl rfl ?_
          refine x_goto (pc' := 54) rfl rfl ?_
          exact k20 (of_decide_eq_true q1) (of_decide_eq_true q20) (of_decide_eq_false q39) (of_decide_eq_true q40)
        · refine x_iload (pc' := 157) rfl rfl rfl ?_
          refine x_if (a' := 186) (pc' := 160) (z := false) rfl rfl rfl (by decide) (fun h => by cases h) (fun _ => ?_)
          refine x_iload (pc' := 162) rfl rfl rfl ?_
          refine x_iload (pc' := 164) rfl rfl rfl ?_
          refine x_icmp (a' := 172) (pc' := 167) (z := decide ((ab (g - h)) < x)) rfl rfl rfl rfl (fun q42 => ?_) (fun q42 => ?_)
          · refine x_aload (pc' := 174) rfl rfl rfl rfl rfl ?_
            refine x_gI (pc' := 177) (x := (mA M 14 o)) rfl rfl rfl ((kA hM rfl ho).trans (congrFun (Fr.f14 (Fr.refl _)) _)) ?_
            refine x_istore_n (pc' := 178) (ls' := [_, _, _, _, _, _, _, _, _, _, _, _, _, _]) rfl rfl rfl rfl ?_
            refine x_iload (pc' := 180) rfl rfl rfl ?_
            refine x_istore (pc' := 182) (ls' := [_, _, _, _, _, _, _, _, _, _, _, _, _, _]) rfl rfl rfl rfl ?_
            refine x_iload (pc' := 184) rfl rfl rfl ?_
            refine x_istore (pc' := 186) (ls' := [_, _, _, _, _, _, _, _, _, _, _, _, _, _]) rfl rfl rfl rfl ?_
            refine x_aload (pc' := 188) rfl rfl rfl rfl rfl ?_
            refine x_gR (pc' := 191) (r := (sR t 529 o)) rfl rfl rfl rfl ?_
            refine x_astore (pc' := 193) (ls' := [_, _, _, _, _, _, _, _, _, _, _, _, _, _]) rfl rfl rfl rfl rfl ?_
            refine x_goto (pc' := 54) rfl rfl ?_
            exact k21 (of_decide_eq_true q1) (of_decide_eq_true q20) (of_decide_eq_false q39) (of_decide_eq_false q40) (of_decide_eq_true q42)
          · refine x_iload (pc' := 169) rfl rfl rfl ?_
            refine x_if (a' := 186) (pc' := 172) (z := true) rfl rfl rfl (by decide) (fun _ => ?_) (fun h => by cases h)
            refine x_aload (pc' := 188) rfl rfl rfl rfl rfl ?_
            refine x_gR (pc' := 191) (r := (sR t 529 o)) rfl rfl rfl rfl ?_
            refine x_astore (pc' := 193) (ls' := [_, _, _, _, _, _, _, _, _, _, _, _, _, _]) rfl rfl rfl rfl rfl ?_
            refine x_goto (pc' := 54) rfl rfl ?_
            exact k22 (of_decide_eq_true q1) (of_decide_eq_true q20) (of_decide_eq_false q39) (of_decide_eq_false q40) (of_decide_eq_false q42)
      · refine x_aload (pc' := 130) rfl rfl rfl rfl rfl ?_
        refine x_gI (pc' := 133) (x := (mA M 14 o)) rfl rfl rfl ((kA hM rfl ho).trans (congrFun (Fr.f14 (Fr.refl _)) _)) ?_
        refine x_iload_n (pc' := 134) rfl rfl rfl ?_
        refine x_iload_n (pc' := 135) rfl rfl rfl ?_
        refine x_cs (ls0 := [_, _, _, sJk, sJk]) (rest := []) rfl rfl rfl rfl ?_
        refine x_iload_n (pc' := 1) rfl rfl rfl ?_
        refine x_iload_n (pc' := 2) rfl rfl rfl ?_
        refine x_isub (pc' := 3) (z := ((mA M 14 o) - p)) rfl rfl rfl ?_
        refine x_abs (pc' := 6) (z := (ab ((mA M 14 o) - p))) rfl rfl rfl rfl ?_
        refine x_istore_n (pc' := 7) (ls' := [_, _, _, _, _]) rfl rfl rfl rfl ?_
        refine x_iload_n (pc' := 8) rfl rfl rfl ?_
        refine x_iload_n (pc' := 9) rfl rfl rfl ?_
        refine x_isub (pc' := 10) (z := (f - p)) rfl rfl rfl ?_
        refine x_abs (pc' := 13) (z := (ab (f - p))) rfl rfl rfl rfl ?_
        refine x_istore (pc' := 15) (ls' := [_, _, _, _, _]) rfl rfl rfl rfl ?_
        refine x_iload_n (pc' := 16) rfl rfl rfl ?_
        refine x_iload (pc' := 18) rfl rfl rfl ?_
        refine x_icmp (a' := 32) (pc' := 21) (z := decide ((ab ((mA M 14 o) - p)) < (ab (f - p)))) rfl rfl rfl rfl (fun q44 => ?_) (fun q44 => ?_)
        · refine x_iconst (pc' := 33) rfl rfl ?_
          refine x_goto (pc' := 37) rfl rfl ?_
          refine x_retz (z := true) rfl rfl ?_
          refine sK_i (pc' := 138) rfl ?_
          refine x_if (a' := 145) (pc' := 141) (z := false) rfl rfl rfl (by decide) (fun h => by cases h) (fun _ => ?_)
          refine x_iconst (pc' := 142) rfl rfl ?_
          refine x_goto (pc' := 146) rfl rfl ?_
          refine x_istore (pc' := 148) (ls' := [_, _, _, _, _, _, _, _, _, _, _, _, _, _]) rfl rfl rfl rfl ?_
          refine x_iload (pc' := 150) rfl rfl rfl ?_
          refine x_iload (pc' := 152) rfl rfl rfl ?_
          refine x_icmp (a' := 172) (pc' := 155) (z := decide (a < (mnc h g))) rfl rfl rfl rfl (fun q46 => ?_) (fun q46 => ?_)
          · refine x_aload (pc' := 174) rfl rfl rfl rfl rfl ?_
            refine x_gI (pc' := 177) (x := (mA M 14 o)) rfl rfl rfl ((kA hM rfl ho).trans (congrFun (Fr.f14 (Fr.refl _)) _)) ?_
            refine x_istore_n (pc' := 178) (ls' := [_, _, _, _, _, _, _, _, _, _, _, _, _, _]) rfl rfl rfl rfl ?_
            refine x_iload (pc' := 180) rfl rfl rfl ?_
            refine x_istore (pc' := 182) (ls' := [_, _, _, _, _, _, _, _, _, _, _, _, _, _]) rfl rfl rfl rfl ?_
            refine x_iload (pc' := 184) rfl rfl rfl ?_
            refine x_istore (pc' := 186) (ls' := [_, _, _, _, _, _, _, _, _, _, _, _, _, _]) rfl rfl rfl rfl ?_
            refine x_aload (pc' := 188) rfl rfl rfl rfl rfl ?_
            refine x_gR (pc' := 191) (r := (sR t 529 o)) rfl rfl rfl rfl ?_
            refine x_astore (pc' := 193) (ls' := [_, _, _, _, _, _, _, _, _, _, _, _, _, _]) rfl rfl rfl rfl rfl ?_
            refine x_goto (pc' := 54) rfl rfl ?_
            exact k23 (of_decide_eq_true q1) (of_decide_eq_true q20) (of_decide_eq_true q39) (of_decide_eq_true q44) (of_decide_eq_true q46)
          · refine x_iload (pc' := 157) rfl rfl rfl ?_
            refine x_if (a' := 186) (pc' := 160) (z := false) rfl rfl rfl (by decide) (fun h => by cases h) (fun _ => ?_)
            refine x_iload (pc' := 162) rfl rfl rfl ?_
            refine x_iload (pc' := 164) rfl rfl rfl ?_
            refine x_icmp (a' := 172) (pc' := 167) (z := decide ((ab (g - h)) < x)) rfl rfl rfl rfl (fun q48 => ?_) (fun q48 => ?_)
            · refine x_aload (pc' := 174) rfl rfl rfl rfl rfl ?_
              refine x_gI (pc' := 177) (x := (mA M 14 o)) rfl rfl rfl ((kA hM rfl ho).trans (congrFun (Fr.f14 (Fr.refl _)) _)) ?_
              refine x_istore_n (pc' := 178) (ls' := [_, _, _, _, _, _, _, _, _, _, _, _, _, _]) rfl rfl rfl rfl ?_
              refine x_iload (pc' := 180) rfl rfl rfl ?_
              refine x_istore (pc' := 182) (ls' := [_, _, _, _, _, _, _, _, _, _, _, _, _, _]) rfl rfl rfl rfl ?_
              refine x_iload (pc' := 184) rfl rfl rfl ?_
              refine x_istore (pc' := 186) (ls' := [_, _, _, _, _, _, _, _, _, _, _, _, _, _]) rfl rfl rfl rfl ?_
              refine x_aload (pc' := 188) rfl rfl rfl rfl rfl ?_
              refine x_gR (pc' := 191) (r := (sR t 529 o)) rfl rfl rfl rfl ?_
              refine x_astore (pc' := 193) (ls' := [_, _, _, _, _, _, _, _, _, _, _, _, _, _]) rfl rfl rfl rfl rfl ?_
              refine x_goto (pc' := 54) rfl rfl ?_
              exact k24 (of_decide_eq_true q1) (of_decide_eq_true q20) (of_decide_eq_true q39) (of_decide_eq_true q44) (of_decide_eq_false q46) (of_decide_eq_true q48)
            · refine x_iload (pc' := 169) rfl rfl rfl ?_
              refine x_if (a' := 186) (pc' := 172) (z := false) rfl rfl rfl (by decide) (fun h => by cases h) (fun _ => ?_)
              refine x_aload (pc' := 174) rfl rfl rfl rfl rfl ?_
              refine x_gI (pc' := 177) (x := (mA M 14 o)) rfl rfl rfl ((kA hM rfl ho).trans (congrFun (Fr.f14 (Fr.refl _)) _)) ?_
              refine x_istore_n (pc' := 178) (ls' := [_, _, _, _, _, _, _, _, _, _, _, _, _, _]) rfl rfl rfl rfl ?_
              refine x_iload (pc' := 180) rfl rfl rfl ?_
              refine x_istore (pc' := 182) (ls' := [_, _, _, _, _, _, _, _, _, _, _, _, _, _]) rfl rfl rfl rfl ?_
              refine x_iload (pc' := 184) rfl rfl rfl ?_
              refine x_istore (pc' := 186) (ls' := [_, _, _, _, _, _, _, _, _, _, _, _, _, _]) rfl rfl rfl rfl ?_
              refine x_aload (pc' := 188) rfl rfl rfl rfl rfl ?_
              refine x_gR (pc' := 191) (r := (sR t 529 o)) rfl rfl rfl rfl ?_
              refine x_astore (pc' := 193) (ls' := [_, _, _, _, _, _, _, _, _, _, _, _, _, _]) rfl rfl rfl rfl rfl ?_
              refine x_goto (pc' := 54) rfl rfl ?_
              exact k25 (of_decide_eq_true q1) (of_decide_eq_true q20) (of_decide_eq_true q39) (of_decide_eq_true q44) (of_decide_eq_false q46) (of_decide_eq_false q48)
        · refine x_iload_n (pc' := 22) rfl rfl rfl ?_
          refine x_iload (pc' := 24) rfl rfl rfl ?_
          refine x_icmp_n (a' := 36) (pc' := 27) (z := decide ((ab ((mA M 14 o) - p)) = (ab (f - p)))) rfl rfl rfl (ik_ne _ _) (fun q50 => ?_) (fun q50 => ?_)
          · refine x_iconst (pc' := 37) rfl rfl ?_
            refine x_retz (z := false) rfl rfl ?_
            refine sK_i (pc' := 138) rfl ?_
            refine x_if (a' := 145) (pc' := 141) (z := true) rfl rfl rfl (by decide) (fun _ => ?_) (fun h => by cases h)
            refine x_iconst (pc' := 146) rfl rfl ?_
            refine x_istore (pc' := 148) (ls' := [_, _, _, _, _, _, _, _, _, _, _, _, _, _]) rfl rfl rfl rfl ?_
            refine x_iload (pc' := 150) rfl rfl rfl ?_
            refine x_iload (pc' := 152) rfl rfl rfl ?_
            refine x_icmp (a' := 172) (pc' := 155) (z := decide (a < (mnc h g))) rfl rfl rfl rfl (fun q52 => ?_) (fun q52 => ?_)
            · refine x_aload (pc' := 174) rfl rfl rfl rfl rfl ?_
              refine x_gI (pc' := 177) (x := (mA M 14 o)) rfl rfl rfl ((kA hM rfl ho).trans (congrFun (Fr.f14 (Fr.refl _)) _)) ?_
              refine x_istore_n (pc' := 178) (ls' := [_, _, _, _, _, _, _, _, _, _, _, _, _, _]) rfl rfl rfl rfl ?_
              refine x_iload (pc' := 180) rfl rfl rfl ?_
              refine x_istore (pc' := 182) (ls' := [_, _, _, _, _, _, _, _, _, _, _, _, _, _]) rfl rfl rfl rfl ?_
              refine x_iload (pc' := 184) rfl rfl rfl ?_
              refine x_istore (pc' := 186) (ls' := [_, _, _, _, _, _, _, _, _, _, _, _, _, _]) rfl rfl rfl rfl ?_
              refine x_aload (pc' := 188) rfl rfl rfl rfl rfl ?_
              refine x_gR (pc' := 191) (r := (sR t 529 o)) rfl rfl rfl rfl ?_
              refine x_astore (pc' := 193) (ls' := [_, _, _, _, _, _, _, _, _, _, _, _, _, _]) rfl rfl rfl rfl rfl ?_
              refine x_goto (pc' := 54) rfl rfl ?_
              exact k26 (of_decide_eq_true q1) (of_decide_eq_true q20) (of_decide_eq_true q39) (of_decide_eq_false q44) (of_decide_eq_false q50) (of_decide_eq_true q52)
            · refine x_iload (pc' := 157) rfl rfl rfl ?_
              refine x_if (a' := 186) (pc' := 160) (z := false) rfl rfl rfl (by decide) (fun h => by cases h) (fun _ => ?_)
              refine x_iload (pc' := 162) rfl rfl rfl ?_
              refine x_iload (pc' := 164) rfl rfl rfl ?_
              refine x_icmp (a' := 172) (pc' := 167) (z := decide ((ab (g - h)) < x)) rfl rfl rfl rfl (fun q54 => ?_) (fun q54 => ?_)
              · refine x_aload (pc' := 174) rfl rfl rfl rfl rfl ?_
                refine x_gI (pc' := 177) (x := (mA M 14 o)) rfl rfl rfl ((kA hM rfl ho).trans (congrFun (Fr.f14 (Fr.refl _)) _)) ?_
                refine x_istore_n (pc' := 178) (ls' := [_, _, _, _, _, _, _, _, _, _, _, _, _, _]) rfl rfl rfl rfl ?_
                refine x_iload (pc' := 180) rfl rfl rfl ?_
                refine x_istore (pc' := 182) (ls' := [_, _, _, _, _, _, _, _, _, _, _, _, _, _]) rfl rfl rfl rfl ?_
                refine x_iload (pc' := 184) rfl rfl rfl ?_
                refine x_istore (pc' := 186) (ls' := [_, _, _, _, _, _, _, _, _, _, _, _, _, _]) rfl rfl rfl rfl ?_
                refine x_aload (pc' := 188) rfl rfl rfl rfl rfl ?_
                refine x_gR (pc' := 191) (r := (sR t 529 o)) rfl rfl rfl rfl ?_
                refine x_astore (pc' := 193) (ls' := [_, _, _, _, _, _, _, _, _, _, _, _, _, _]) rfl rfl rfl rfl rfl ?_
                refine x_goto (pc' := 54) rfl rfl ?_
                exact k27 (of_decide_eq_true q1) (of_decide_eq_true q20) (of_decide_eq_true q39) (of_decide_eq_false q44) (of_decide_eq_false q50) (of_decide_eq_false q52) (of_decide_eq_true q54)
              · refine x_iload (pc' := 169) rfl rfl rfl ?_
                refine x_if (a' := 186) (pc' := 172) (z := true) rfl rfl rfl (by decide) (fun _ => ?_) (fun h => by cases h)
                refine x_aload (pc' := 188) rfl rfl rfl rfl rfl ?_
                refine x_gR (pc' := 191) (r := (sR t 529 o)) rfl rfl rfl rfl ?_
                refine x_astore (pc' := 193) (ls' := [_, _, _, _, _, _, _, _, _, _, _, _, _, _]) rfl rfl rfl rfl rfl ?_
                refine x_goto (pc' := 54) rfl rfl ?_
                exact k28 (of_decide_eq_true q1) (of_decide_eq_true q20) (of_decide_eq_true q39) (of_decide_eq_false q44) (of_decide_eq_false q50) (of_decide_eq_false q52) (of_decide_eq_false q54)
          · refine x_iload_n (pc' := 28) rfl rfl rfl ?_
            refine x_iload_n (pc' := 29) rfl rfl rfl ?_
            refine x_icmp_n (a' := 36) (pc' := 32) (z := decide ((mA M 14 o) < f)) rfl rfl rfl (ik_ge _ _) (fun q56 => ?_) (fun q56 => ?_)
            · refine x_iconst (pc' := 37) rfl rfl ?_
              refine x_retz (z := false) rfl rfl ?_
              refine sK_i (pc' := 138) rfl ?_
              refine x_if (a' := 145) (pc' := 141) (z := true) rfl rfl rfl (by decide) (fun _ => ?_) (fun h => by cases h)
              refine x_iconst (pc' := 146) rfl rfl ?_
              refine x_istore (pc' := 148) (ls' := [_, _, _, _, _, _, _, _, _, _, _, _, _, _]) rfl rfl rfl rfl ?_
              refine x_iload (pc' := 150) rfl rfl rfl ?_
              refine x_iload (pc' := 152) rfl rfl rfl ?_
              refine x_icmp (a' := 172) (pc' := 155) (z := decide (a < (mnc h g))) rfl rfl rfl rfl (fun q58 => ?_) (fun q58 => ?_)
              · refine x_aload (pc' := 174) rfl rfl rfl rfl rfl ?_
                refine x_gI (pc' := 177) (x := (mA M 14 o)) rfl rfl rfl ((kA hM rfl ho).trans (congrFun (Fr.f14 (Fr.refl _)) _)) ?_
                refine x_istore_n (pc' := 178) (ls' := [_, _, _, _, _, _, _, _, _, _, _, _, _, _]) rfl rfl rfl rfl ?_
                refine x_iload (pc' := 180) rfl rfl rfl ?_
                refine x_istore (pc' := 182) (ls' := [_, _, _, _, _, _, _, _, _, _, _, _, _, _]) rfl rfl rfl rfl ?_
                refine x_iload (pc' := 184) rfl rfl rfl ?_
                refine x_istore (pc' := 186) (ls' := [_, _, _, _, _, _, _, _, _, _, _, _, _, _]) rfl rfl rfl rfl ?_
                refine x_aload (pc' := 188) rfl rfl rfl rfl rfl ?_
                refine x_gR (pc' := 191) (r := (sR t 529 o)) rfl rfl rfl rfl ?_
                refine x_astore (pc' := 193) (ls' := [_, _, _, _, _, _, _, _, _, _, _, _, _, _]) rfl rfl rfl rfl rfl ?_
                refine x_goto (pc' := 54) rfl rfl ?_
                exact k29 (of_decide_eq_true q1) (of_decide_eq_true q20) (of_decide_eq_true q39) (of_decide_eq_false q44) (of_decide_eq_true q50) (of_decide_eq_false q56) (of_decide_eq_true q58)
              · refine x_iload (pc' := 157) rfl rfl rfl ?_
                refine x_if (a' := 186) (pc' := 160) (z := false) rfl rfl rfl (by decide) (fun h => by cases h) (fun _ => ?_)
                refine x_iload (pc' := 162) rfl rfl rfl ?_
                refine x_iload (pc' := 164) rfl rfl rfl ?_
                refine x_icmp (a' := 172) (pc' := 167) (z := decide ((ab (g - h)) < x)) rfl rfl rfl rfl (fun q60 => ?_) (fun q60 => ?_)
                · refine x_aload (pc' := 174) rfl rfl rfl rfl rfl ?_
                  refine x_gI (pc' := 177) (x := (mA M 14 o)) rfl rfl rfl ((kA hM rfl ho).trans (congrFun (Fr.f14 (Fr.refl _)) _)) ?_
                  refine x_istore_n (pc' := 178) (ls' := [_, _, _, _, _, _, _, _, _, _, _, _, _, _]) rfl rfl rfl rfl ?_
                  refine x_iload (pc' := 180) rfl rfl rfl ?_
                  refine x_istore (pc' := 182) (ls' := [_, _, _, _, _, _, _, _, _, _, _, _, _, _]) rfl rfl rfl rfl ?_
                  refine x_iload (pc' := 184) rfl rfl rfl ?_
                  refine x_istore (pc' := 186) (ls' := [_, _, _, _, _, _, _, _, _, _, _, _, _, _]) rfl rfl rfl rfl ?_
                  refine x_aload (pc' := 188) rfl rfl rfl rfl rfl ?_
                  refine x_gR (pc' := 191) (r := (sR t 529 o)) rfl rfl rfl rfl ?_
                  refine x_astore (pc' := 193) (ls' := [_, _, _, _, _, _, _, _, _, _, _, _, _, _]) rfl rfl rfl rfl rfl ?_
                  refine x_goto (pc' := 54) rfl rfl ?_
                  exact k30 (of_decide_eq_true q1) (of_decide_eq_true q20) (of_decide_eq_true q39) (of_decide_eq_false q44) (of_decide_eq_true q50) (of_decide_eq_false q56) (of_decide_eq_false q58) (of_decide_eq_true q60)
                · refine x_iload (pc' := 169) rfl rfl rfl ?_
                  refine x_if (a' := 186) (pc' := 172) (z := true) rfl rfl rfl (by decide) (fun _ => ?_) (fun h => by cases h)
                  refine x_aload (pc' := 188) rfl rfl rfl rfl rfl ?_
                  refine x_gR (pc' := 191) (r := (sR t 529 o)) rfl rfl rfl rfl ?_
                  refine x_astore (pc' := 193) (ls' := [_, _, _, _, _, _, _, _, _, _, _, _, _, _]) rfl rfl rfl rfl rfl ?_
                  refine x_goto (pc' := 54) rfl rfl ?_
                  exact k31 (of_decide_eq_true q1) (of_decide_eq_true q20) (of_decide_eq_true q39) (of_decide_eq_false q44) (of_decide_eq_true q50) (of_decide_eq_false q56) (of_decide_eq_false q58) (of_decide_eq_false q60)
            · refine x_iconst (pc' := 33) rfl rfl ?_
              refine x_goto (pc' := 37) rfl rfl ?_
              refine x_retz (z := true) rfl rfl ?_
              refine sK_i (pc' := 138) rfl ?_
              refine x_if (a' := 145) (pc' := 141) (z := false) rfl rfl rfl (by decide) (fun h => by cases h) (fun _ => ?_)
              refine x_iconst (pc' := 142) rfl rfl ?_
              refine x_goto (pc' := 146) rfl rfl ?_
              refine x_istore (pc' := 148) (ls' := [_, _, _, _, _, _, _, _, _, _, _, _, _, _]) rfl rfl rfl rfl ?_
              refine x_iload (pc' := 150) rfl rfl rfl ?_
              refine x_iload (pc' := 152) rfl rfl rfl ?_
              refine x_icmp (a' := 172) (pc' := 155) (z := decide (a < (mnc h g))) rfl rfl rfl rfl (fun q63 => ?_) (fun q63 => ?_)
              · refine x_aload (pc' := 174) rfl rfl rfl rfl rfl ?_
                refine x_gI (pc' := 177) (x := (mA M 14 o)) rfl rfl rfl ((kA hM rfl ho).trans (congrFun (Fr.f14 (Fr.refl _)) _)) ?_
                refine x_istore_n (pc' := 178) (ls' := [_, _, _, _, _, _, _, _, _, _, _, _, _, _]) rfl rfl rfl rfl ?_
                refine x_iload (pc' := 180) rfl rfl rfl ?_
                refine x_istore (pc' := 182) (ls' := [_, _, _, _, _, _, _, _, _, _, _, _, _, _]) rfl rfl rfl rfl ?_
                refine x_iload (pc' := 184) rfl rfl rfl ?_
                refine x_istore (pc' := 186) (ls' := [_, _, _, _, _, _, _, _, _, _, _, _, _, _]) rfl rfl rfl rfl ?_
                refine x_aload (pc' := 188) rfl rfl rfl rfl rfl ?_
                refine x_gR (pc' := 191) (r := (sR t 529 o)) rfl rfl rfl rfl ?_
                refine x_astore (pc' := 193) (ls' := [_, _, _, _, _, _, _, _, _, _, _, _, _, _]) rfl rfl rfl rfl rfl ?_
                refine x_goto (pc' := 54) rfl rfl ?_
                exact k32 (of_decide_eq_true q1) (of_decide_eq_true q20) (of_decide_eq_true q39) (of_decide_eq_false q44) (of_decide_eq_true q50) (of_decide_eq_true q56) (of_decide_eq_true q63)
              · refine x_iload (pc' := 157) rfl rfl rfl ?_
                refine x_if (a' := 186) (pc' := 160) (z := false) rfl rfl rfl (by decide) (fun h => by cases h) (fun _ => ?_)
                refine x_iload (pc' := 162) rfl rfl rfl ?_
                refine x_iload (pc' := 164) rfl rfl rfl ?_
                refine x_icmp (a' := 172) (pc' := 167) (z := decide ((ab (g - h)) < x)) rfl rfl rfl rfl (fun q65 => ?_) (fun q65 => ?_)
                · refine x_aload (pc' := 174) rfl rfl rfl rfl rfl ?_
                  refine x_gI (pc' := 177) (x := (mA M 14 o)) rfl rfl rfl ((kA hM rfl ho).trans (congrFun (Fr.f14 (Fr.refl _)) _)) ?_
                  refine x_istore_n (pc' := 178) (ls' := [_, _, _, _, _, _, _, _, _, _, _, _, _, _]) rfl rfl rfl rfl ?_
                  refine x_iload (pc' := 180) rfl rfl rfl ?_
                  refine x_istore (pc' := 182) (ls' := [_, _, _, _, _, _, _, _, _, _, _, _, _, _]) rfl rfl rfl rfl ?_
                  refine x_iload (pc' := 184) rfl rfl rfl ?_
                  refine x_istore (pc' := 186) (ls' := [_, _, _, _, _, _, _, _, _, _, _, _, _, _]) rfl rfl rfl rfl ?_
                  refine x_aload (pc' := 188) rfl rfl rfl rfl rfl ?_
                  refine x_gR (pc' := 191) (r := (sR t 529 o)) rfl rfl rfl rfl ?_
                  refine x_astore (pc' := 193) (ls' := [_, _, _, _, _, _, _, _, _, _, _, _, _, _]) rfl rfl rfl rfl rfl ?_
                  refine x_goto (pc' := 54) rfl rfl ?_
                  exact k33 (of_decide_eq_true q1) (of_decide_eq_true q20) (of_decide_eq_true q39) (of_decide_eq_false q44) (of_decide_eq_true q50) (of_decide_eq_true q56) (of_decide_eq_false q63) (of_decide_eq_true q65)
                · refine x_iload (pc' := 169) rfl rfl rfl ?_
                  refine x_if (a' := 186) (pc' := 172) (z := false) rfl rfl rfl (by decide) (fun h => by cases h) (fun _ => ?_)
                  refine x_aload (pc' := 174) rfl rfl rfl rfl rfl ?_
                  refine x_gI (pc' := 177) (x := (mA M 14 o)) rfl rfl rfl ((kA hM rfl ho).trans (congrFun (Fr.f14 (Fr.refl _)) _)) ?_
                  refine x_istore_n (pc' := 178) (ls' := [_, _, _, _, _, _, _, _, _, _, _, _, _, _]) rfl rfl rfl rfl ?_
                  refine x_iload (pc' := 180) rfl rfl rfl ?_
                  refine x_istore (pc' := 182) (ls' := [_, _, _, _, _, _, _, _, _, _, _, _, _, _]) rfl rfl rfl rfl ?_
                  refine x_iload (pc' := 184) rfl rfl rfl ?_
                  refine x_istore (pc' := 186) (ls' := [_, _, _, _, _, _, _, _, _, _, _, _, _, _]) rfl rfl rfl rfl ?_
                  refine x_aload (pc' := 188) rfl rfl rfl rfl rfl ?_
                  refine x_gR (pc' := 191) (r := (sR t 529 o)) rfl rfl rfl rfl ?_
                  refine x_astore (pc' := 193) (ls' := [_, _, _, _, _, _, _, _, _, _, _, _, _, _]) rfl rfl rfl rfl rfl ?_
                  refine x_goto (pc' := 54) rfl rfl ?_
                  exact k34 (of_decide_eq_true q1) (of_decide_eq_true q20) (of_decide_eq_true q39) (of_decide_eq_false q44) (of_decide_eq_true q50) (of_decide_eq_true q56) (of_decide_eq_false q63) (of_decide_eq_false q65)
