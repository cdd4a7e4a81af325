/-! uncross, in pieces (printed by ext99q.py) -/
set_option maxHeartbeats 4000000 in
set_option maxRecDepth 10000 in
theorem n86 {t : sT} {Q : sRs → sT → Prop} {M : sM} {n : Nat} {T : Nat} {L0 : List Nat} {A : Nat} {B : Nat} {b : Nat}
    (hW : Wc t M n T L0 A B)
    (hb : b < 5)
    (k0 : (mA M 0 b) = 1 → X 52 0 [.inr (.inr (5, (some 0))), sJk, sJk, sJk, sJk] [] t (sK 52 86 34 [.inr (.inr (11, (some 0))), .inl (io b), .inr (.inr (1, (some b))), sJk] [] Q))
    (k1 : ¬ ((mA M 0 b) = 1) → ¬ ((mA M 0 b) = 3) → Q (.inr 2) (sThr t))
    (k2 : ¬ ((mA M 0 b) = 1) → (mA M 0 b) = 3 → X 52 0 [.inr (.inr (5, (some 0))), sJk, sJk, sJk, sJk] [] t (sK 52 86 34 [.inr (.inr (11, (some 0))), .inl (io b), .inr (.inr (1, (some b))), sJk] [] Q)) :
    X 86 0 [.inr (.inr (11, (some 0))), .inl (io b), sJk, sJk] [] t Q := by
  obtain ⟨hM, hc, hR, hC, hL, hL9⟩ := hW
  refine x_aload_n (pc' := 1) rfl rfl rfl rfl rfl ?_
  refine x_iload_n (pc' := 2) rfl rfl rfl ?_
  refine x_cv (ls0 := [_, _]) (rest := []) rfl rfl rfl rfl rfl ?_
  refine x_iload_n (pc' := 1) rfl rfl rfl ?_
  refine x_if (a' := 16) (pc' := 4) (z := decide (b < 0)) rfl rfl rfl (ic_lt (p := b) (q := 0) (gb31 hb) (by decide)) (fun h => absurd (of_decide_eq_true h) (by first | decide | omega | simp)) (fun _ => ?_)
  refine x_iload_n (pc' := 5) rfl rfl rfl ?_
  refine x_aload_n (pc' := 6) rfl rfl rfl rfl rfl ?_
  refine x_gR (pc' := 9) (r := (some 0)) rfl rfl rfl (kR_705_0 hc.1) ?_
  refine x_gR (pc' := 12) (r := (some 0)) rfl rfl rfl (kR_256_0 hc.1) ?_
  refine x_alen (pc' := 13) (N := 5) rfl rfl rfl (kN_24_0 hc.1) (?_ : X _ _ _ (.inl 5 :: _) _ _)
  refine x_icmp (a' := 27) (pc' := 16) (z := decide (b < 5)) rfl rfl rfl (ic_lt (p := b) (q := 5) (gb31 hb) (by decide)) (fun _ => ?_) (fun h => absurd hb (of_decide_eq_false h))
  refine x_aload_n (pc' := 28) rfl rfl rfl rfl rfl ?_
  refine x_gR (pc' := 31) (r := (some 0)) rfl rfl rfl (kR_705_0 hc.1) ?_
  refine x_gR (pc' := 34) (r := (some 0)) rfl rfl rfl (kR_256_0 hc.1) ?_
  refine x_iload_n (pc' := 35) rfl rfl rfl ?_
  refine x_aald (pc' := 36) (N := 5) (k' := 1) (r := (some b)) rfl rfl rfl (kN_24_0 hc.1) (io_in (p := b) (N := 5) hb (by decide)) (Eq.trans (congrArg (sE t 24 0) (nn_io (p := b) (Nat.lt_trans hb (by decide)))) (kB hc.1 hb)) ?_
  refine x_reta rfl rfl ?_
  refine sK_i (pc' := 5) rfl ?_
  refine x_astore_n (pc' := 6) (ls' := [_, _, _, _]) rfl rfl rfl rfl rfl ?_
  refine x_aload_n (pc' := 7) rfl rfl rfl rfl rfl ?_
  refine x_gI (pc' := 10) (x := (mA M 0 b)) rfl rfl rfl (kA hM rfl hb) ?_
  refine x_iconst (pc' := 11) rfl rfl ?_
  refine x_icmp (a' := 22) (pc' := 14) (z := decide ((mA M 0 b) = 1)) rfl rfl rfl rfl (fun q3 => ?_) (fun q3 => ?_)
  · refine x_iconst (pc' := 23) rfl rfl ?_
    refine x_goto (pc' := 27) rfl rfl ?_
    refine x_cs (ls0 := [_]) (rest := []) rfl rfl rfl rfl ?_
    refine x_iload_n (pc' := 1) rfl rfl rfl ?_
    refine x_if (a' := 15) (pc' := 4) (z := true) rfl rfl rfl (by decide) (fun _ => ?_) (fun h => by cases h)
    refine x_ret rfl ?_
    refine sK_v (pc' := 30) rfl ?_
    refine x_aload_n (pc' := 31) rfl rfl rfl rfl rfl ?_
    refine x_gR (pc' := 34) (r := (some 0)) rfl rfl rfl (kR_704_0 hc.1) ?_
    refine x_cv (ls0 := [_, sJk, sJk, sJk, sJk]) (rest := []) rfl rfl rfl rfl rfl ?_
    exact k0 (of_decide_eq_true q3)
  · refine x_aload_n (pc' := 15) rfl rfl rfl rfl rfl ?_
    refine x_gI (pc' := 18) (x := (mA M 0 b)) rfl rfl rfl (kA hM rfl hb) ?_
    refine x_iconst (pc' := 19) rfl rfl ?_
    refine x_icmp_n (a' := 26) (pc' := 22) (z := decide ((mA M 0 b) = 3)) rfl rfl rfl (ik_ne _ _) (fun q5 => ?_) (fun q5 => ?_)
    · refine x_iconst (pc' := 27) rfl rfl ?_
      refine x_cs (ls0 := [_]) (rest := []) rfl rfl rfl rfl ?_
      refine x_iload_n (pc' := 1) rfl rfl rfl ?_
      refine x_if (a' := 15) (pc' := 4) (z := false) rfl rfl rfl (by decide) (fun h => by cases h) (fun _ => ?_)
      refine x_throw rfl rfl ?_
      refine sK_n (by decide +kernel) rfl ?_
      exact k1 (of_decide_eq_false q3) (of_decide_eq_false q5)
    · refine x_iconst (pc' := 23) rfl rfl ?_
      refine x_goto (pc' := 27) rfl rfl ?_
      refine x_cs (ls0 := [_]) (rest := []) rfl rfl rfl rfl ?_
      refine x_iload_n (pc' := 1) rfl rfl rfl ?_
      refine x_if (a' := 15) (pc' := 4) (z := true) rfl rfl rfl (by decide) (fun _ => ?_) (fun h => by cases h)
      refine x_ret rfl ?_
      refine sK_v (pc' := 30) rfl ?_
      refine x_aload_n (pc' := 31) rfl rfl rfl rfl rfl ?_
      refine x_gR (pc' := 34) (r := (some 0)) rfl rfl rfl (kR_704_0 hc.1) ?_
      refine x_cv (ls0 := [_, sJk, sJk, sJk, sJk]) (rest := []) rfl rfl rfl rfl rfl ?_
      exact k2 (of_decide_eq_false q3) (of_decide_eq_true q5)
set_option maxHeartbeats 4000000 in
set_option maxRecDepth 10000 in
theorem n86_x0 {t : sT} {Q : sRs → sT → Prop} {M : sM} {n : Nat} {T : Nat} {L0 : List Nat} {A : Nat} {B : Nat} {x : Int32}
    (hW : Wc t M n T L0 A B)
    (hp : ixo x 5 = none)
    (k0 : Q (.inr 0) (sThr t)) :
    X 86 0 [.inr (.inr (11, (some 0))), .inl x, sJk, sJk] [] t Q := by
  obtain ⟨hM, hc, hR, hC, hL, hL9⟩ := hW
  refine x_aload_n (pc' := 1) rfl rfl rfl rfl rfl ?_
  refine x_iload_n (pc' := 2) rfl rfl rfl ?_
  refine x_cv (ls0 := [_, _]) (rest := []) rfl rfl rfl rfl rfl ?_
  refine b133_x ⟨hM, hc, hR, hC, hL, hL9⟩ hp ?_
  refine sK_n (by decide +kernel) rfl ?_
  exact k0
set_option maxHeartbeats 4000000 in
set_option maxRecDepth 10000 in
theorem n86_1 {t : sT} {Q : sRs → sT → Prop} {M : sM} {n : Nat} {T : Nat} {L0 : List Nat} {A : Nat} {B : Nat} {b : Nat}
    (hW : Wc t M n T L0 A B)
    (hb : b < 5)
    (k0 : X 4 0 [.inr (.inr (0, (some 0))), .inr (.inr (1, (some b))), sJk, sJk] [] t (sK 4 86 42 [.inr (.inr (11, (some 0))), .inl (io b), .inr (.inr (1, (some b))), sJk] [] Q)) :
    X 86 37 [.inr (.inr (11, (some 0))), .inl (io b), .inr (.inr (1, (some b))), sJk] [] t Q := by
  obtain ⟨hM, hc, hR, hC, hL, hL9⟩ := hW
  refine x_aload_n (pc' := 38) rfl rfl rfl rfl rfl ?_
  refine x_gR (pc' := 41) (r := (some 0)) rfl rfl rfl (kR_708_0 hc.1) ?_
  refine x_aload_n (pc' := 42) rfl rfl rfl rfl rfl ?_
  refine x_cv (ls0 := [_, _, sJk, sJk]) (rest := []) rfl rfl rfl rfl rfl ?_
  exact k0
set_option maxHeartbeats 4000000 in
set_option maxRecDepth 10000 in
theorem n86_2 {t : sT} {Q : sRs → sT → Prop} {M : sM} {n : Nat} {T : Nat} {L0 : List Nat} {A : Nat} {B : Nat} {b : Nat} {h : Int32}
    (hW : Wc t M n T L0 A B)
    (hb : b < 5)
    (k0 : X 141 0 [.inr (.inr (11, (some 0))), sJk, sJk, sJk, sJk] [] t (sK 141 86 47 [.inr (.inr (11, (some 0))), .inl (io b), .inr (.inr (1, (some b))), .inl h] [] Q)) :
    X 86 45 [.inr (.inr (11, (some 0))), .inl (io b), .inr (.inr (1, (some b))), sJk] [.inl h] t Q := by
  obtain ⟨hM, hc, hR, hC, hL, hL9⟩ := hW
  refine x_istore_n (pc' := 46) (ls' := [_, _, _, _]) rfl rfl rfl rfl ?_
  refine x_aload_n (pc' := 47) rfl rfl rfl rfl rfl ?_
  refine x_cv (ls0 := [_, sJk, sJk, sJk, sJk]) (rest := []) rfl rfl rfl rfl rfl ?_
  exact k0
set_option maxHeartbeats 4000000 in
set_option maxRecDepth 10000 in
theorem n86_3 {t : sT} {Q : sRs → sT → Prop} {M : sM} {n : Nat} {T : Nat} {L0 : List Nat} {A : Nat} {B : Nat} {b : Nat} {h : Int32}
    (hW : Wc t M n T L0 A B)
    (hb : b < 5)
    (k0 : X 37 0 [.inr (.inr (4, (some 0))), sJk, sJk] [] t (sK 37 86 55 [.inr (.inr (11, (some 0))), .inl (io b), .inr (.inr (1, (some b))), .inl h] [.inr (.inr (11, (some 0)))] Q)) :
    X 86 50 [.inr (.inr (11, (some 0))), .inl (io b), .inr (.inr (1, (some b))), .inl h] [] t Q := by
  obtain ⟨hM, hc, hR, hC, hL, hL9⟩ := hW
  refine x_aload_n (pc' := 51) rfl rfl rfl rfl rfl ?_
  refine x_aload_n (pc' := 52) rfl rfl rfl rfl rfl ?_
  refine x_gR (pc' := 55) (r := (some 0)) rfl rfl rfl (kR_705_0 hc.1) ?_
  refine x_cv (ls0 := [_, sJk, sJk]) (rest := [_]) rfl rfl rfl rfl rfl ?_
  exact k0
set_option maxHeartbeats 4000000 in
set_option maxRecDepth 10000 in
theorem n86_4 {t : sT} {Q : sRs → sT → Prop} {M : sM} {n : Nat} {T : Nat} {L0 : List Nat} {A : Nat} {B : Nat} {b : Nat} {h : Int32} {f : Option Nat}
    (hW : Wc t M n T L0 A B)
    (hb : b < 5)
    (k0 : X 140 0 [.inr (.inr (11, (some 0))), .inr (.inr (8, f)), sJk, sJk] [] t (sK 140 86 58 [.inr (.inr (11, (some 0))), .inl (io b), .inr (.inr (1, (some b))), .inl h] [] Q)) :
    X 86 58 [.inr (.inr (11, (some 0))), .inl (io b), .inr (.inr (1, (some b))), .inl h] [.inr (.inr (8, f)), .inr (.inr (11, (some 0)))] t Q := by
  obtain ⟨hM, hc, hR, hC, hL, hL9⟩ := hW
  refine x_cv (ls0 := [_, _, sJk, sJk]) (rest := []) rfl rfl rfl rfl rfl ?_
  exact k0
set_option maxHeartbeats 4000000 in
set_option maxRecDepth 10000 in
theorem n86_5 {t : sT} {Q : sRs → sT → Prop} {M : sM} {n : Nat} {T : Nat} {L0 : List Nat} {A : Nat} {B : Nat} {b : Nat} {h : Int32}
    (hW : Wc t M n T L0 A B)
    (hb : b < 5)
    (k0 : Q (.inl (some (.inl h))) t) :
    X 86 61 [.inr (.inr (11, (some 0))), .inl (io b), .inr (.inr (1, (some b))), .inl h] [] t Q := by
  obtain ⟨hM, hc, hR, hC, hL, hL9⟩ := hW
  refine x_iload_n (pc' := 62) rfl rfl rfl ?_
  refine x_reti rfl rfl ?_
  exact k0
theorem n4_0 {t : sT} {Q : sRs → sT → Prop} {M : sM} {n : Nat} {T : Nat} {L0 : List Nat} {A : Nat} {B : Nat} {b : Nat}
    (hW : Wc t M n T L0 A B)
    (hb : b < 5)
    (k0 : X 1 0 [.inr (.inr (0, (some 0))), .inr (.inr (1, (some b))), sJk, sJk, sJk, sJk, sJk, sJk, sJk, sJk, sJk, sJk, sJk, sJk] [] t (sK 1 4 2 [.inr (.inr (0, (some 0))), .inr (.inr (1, (some b))), sJk, sJk] [] Q)) :
    X 4 0 [.inr (.inr (0, (some 0))), .inr (.inr (1, (some b))), sJk, sJk] [] t Q := by
  obtain ⟨hM, hc, hR, hC, hL, hL9⟩ := hW
  refine x_aload_n (pc' := 1) rfl rfl rfl rfl rfl ?_
  refine x_aload_n (pc' := 2) rfl rfl rfl rfl rfl ?_
  refine x_cv (ls0 := [_, _, sJk, sJk, sJk, sJk, sJk, sJk, sJk, sJk, sJk, sJk, sJk, sJk]) (rest := []) rfl rfl rfl rfl rfl ?_
  exact k0
theorem n4_1 {t : sT} {Q : sRs → sT → Prop} {M : sM} {n : Nat} {T : Nat} {L0 : List Nat} {A : Nat} {B : Nat} {b : Nat} {p : Int32}
    (hW : Wc t M n T L0 A B)
    (hb : b < 5)
    (k0 : ¬ (p = (-10000)) → X 3 0 [.inr (.inr (1, (some b))), .inl 1, .inl p, sJk, sJk] [] t (sK 3 4 20 [.inr (.inr (0, (some 0))), .inr (.inr (1, (some b))), .inl p, sJk] [] Q))
    (k1 : p = (-10000) → X 5 0 [.inr (.inr (0, (some 0))), .inr (.inr (1, (some b))), .inl p, .inl 0, sJk, sJk, sJk, sJk, sJk] [] t (sK 5 4 37 [.inr (.inr (0, (some 0))), .inr (.inr (1, (some b))), .inl p, .inl 0] [] Q)) :
    X 4 5 [.inr (.inr (0, (some 0))), .inr (.inr (1, (some b))), sJk, sJk] [.inl p] t Q := by
  obtain ⟨hM, hc, hR, hC, hL, hL9⟩ := hW
  refine x_istore_n (pc' := 6) (ls' := [_, _, _, _]) rfl rfl rfl rfl ?_
  refine x_iload_n (pc' := 7) rfl rfl rfl ?_
  refine x_sipush (pc' := 10) rfl rfl ?_
  refine x_icmp_n (a' := 17) (pc' := 13) (z := decide (p = (-10000))) rfl rfl rfl (ik_ne _ _) (fun q1 => ?_) (fun q1 => ?_)
  · refine x_aload_n (pc' := 18) rfl rfl rfl rfl rfl ?_
    refine x_iconst (pc' := 19) rfl rfl ?_
    refine x_iload_n (pc' := 20) rfl rfl rfl ?_
    refine x_cs (ls0 := [_, _, _, sJk, sJk]) (rest := []) rfl rfl rfl rfl ?_
    exact k0 (of_decide_eq_false q1)
  · refine x_iconst (pc' := 14) rfl rfl ?_
    refine x_goto (pc' := 32) rfl rfl ?_
    refine x_istore_n (pc' := 33) (ls' := [_, _, _, _]) rfl rfl rfl rfl ?_
    refine x_aload_n (pc' := 34) rfl rfl rfl rfl rfl ?_
    refine x_aload_n (pc' := 35) rfl rfl rfl rfl rfl ?_
    refine x_iload_n (pc' := 36) rfl rfl rfl ?_
    refine x_iload_n (pc' := 37) rfl rfl rfl ?_
    refine x_cv (ls0 := [_, _, _, _, sJk, sJk, sJk, sJk, sJk]) (rest := []) rfl rfl rfl rfl rfl ?_
    exact k1 (of_decide_eq_true q1)
theorem n4_2 {t : sT} {Q : sRs → sT → Prop} {M : sM} {n : Nat} {T : Nat} {L0 : List Nat} {A : Nat} {B : Nat} {b : Nat} {p : Int32} {g : Int32}
    (hW : Wc t M n T L0 A B)
    (hb : b < 5)
    (k0 : X 3 0 [.inr (.inr (1, (some b))), .inl 0, .inl p, sJk, sJk] [] t (sK 3 4 26 [.inr (.inr (0, (some 0))), .inr (.inr (1, (some b))), .inl p, sJk] [.inl g] Q)) :
    X 4 23 [.inr (.inr (0, (some 0))), .inr (.inr (1, (some b))), .inl p, sJk] [.inl g] t Q := by
  obtain ⟨hM, hc, hR, hC, hL, hL9⟩ := hW
  refine x_aload_n (pc' := 24) rfl rfl rfl rfl rfl ?_
  refine x_iconst (pc' := 25) rfl rfl ?_
  refine x_iload_n (pc' := 26) rfl rfl rfl ?_
  refine x_cs (ls0 := [_, _, _, sJk, sJk]) (rest := [_]) rfl rfl rfl rfl ?_
  exact k0
theorem n4_3 {t : sT} {Q : sRs → sT → Prop} {M : sM} {n : Nat} {T : Nat} {L0 : List Nat} {A : Nat} {B : Nat} {b : Nat} {p : Int32} {g : Int32} {h : Int32}
    (hW : Wc t M n T L0 A B)
    (hb : b < 5)
    (k0 : X 5 0 [.inr (.inr (0, (some 0))), .inr (.inr (1, (some b))), .inl p, .inl (mnc g h), sJk, sJk, sJk, sJk, sJk] [] t (sK 5 4 37 [.inr (.inr (0, (some 0))), .inr (.inr (1, (some b))), .inl p, .inl (mnc g h)] [] Q)) :
    X 4 29 [.inr (.inr (0, (some 0))), .inr (.inr (1, (some b))), .inl p, sJk] [.inl g, .inl h] t Q := by
  obtain ⟨hM, hc, hR, hC, hL, hL9⟩ := hW
  refine x_min (pc' := 32) (z := (mnc g h)) rfl rfl rfl (if_mnc _ _) ?_
  refine x_istore_n (pc' := 33) (ls' := [_, _, _, _]) rfl rfl rfl rfl ?_
  refine x_aload_n (pc' := 34) rfl rfl rfl rfl rfl ?_
  refine x_aload_n (pc' := 35) rfl rfl rfl rfl rfl ?_
  refine x_iload_n (pc' := 36) rfl rfl rfl ?_
  refine x_iload_n (pc' := 37) rfl rfl rfl ?_
  refine x_cv (ls0 := [_, _, _, _, sJk, sJk, sJk, sJk, sJk]) (rest := []) rfl rfl rfl rfl rfl ?_
  exact k0
theorem n4_4 {t : sT} {Q : sRs → sT → Prop} {M : sM} {n : Nat} {T : Nat} {L0 : List Nat} {A : Nat} {B : Nat} {b : Nat} {p : Int32} {a : Int32}
    (hW : Wc t M n T L0 A B)
    (hb : b < 5)
    (k0 : X 6 0 [.inr (.inr (8, (bsF M n b true))), sJk] [] t (sK 6 4 45 [.inr (.inr (0, (some 0))), .inr (.inr (1, (some b))), .inl p, .inl a] [] Q)) :
    X 4 40 [.inr (.inr (0, (some 0))), .inr (.inr (1, (some b))), .inl p, .inl a] [] t Q := by
  obtain ⟨hM, hc, hR, hC, hL, hL9⟩ := hW
  refine x_aload_n (pc' := 41) rfl rfl rfl rfl rfl ?_
  refine x_iconst (pc' := 42) rfl rfl ?_
  refine x_cv (ls0 := [_, _]) (rest := []) rfl rfl rfl rfl rfl ?_
  refine x_iload_n (pc' := 1) rfl rfl rfl ?_
  refine x_if (a' := 11) (pc' := 4) (z := false) rfl rfl rfl (by decide) (fun h => by cases h) (fun _ => ?_)
  refine x_aload_n (pc' := 5) rfl rfl rfl rfl rfl ?_
  refine x_gR (pc' := 8) (r := (bsF M n b true)) rfl rfl rfl (bs_69 hC (Fr.ri (Fr.refl _) hR) hM hb) ?_
  refine x_goto (pc' := 15) rfl rfl ?_
  refine x_reta rfl rfl ?_
  refine sK_i (pc' := 45) rfl ?_
  refine x_cs (ls0 := [_, sJk]) (rest := []) rfl rfl rfl rfl ?_
  exact k0
theorem n4_5 {t : sT} {Q : sRs → sT → Prop} {M : sM} {n : Nat} {T : Nat} {L0 : List Nat} {A : Nat} {B : Nat} {b : Nat} {p : Int32} {a : Int32}
    (hW : Wc t M n T L0 A B)
    (hb : b < 5)
    (k0 : X 6 0 [.inr (.inr (8, (bsF M n b false))), sJk] [] t (sK 6 4 53 [.inr (.inr (0, (some 0))), .inr (.inr (1, (some b))), .inl p, .inl a] [] Q)) :
    X 4 48 [.inr (.inr (0, (some 0))), .inr (.inr (1, (some b))), .inl p, .inl a] [] t Q := by
  obtain ⟨hM, hc, hR, hC, hL, hL9⟩ := hW
  refine x_aload_n (pc' := 49) rfl rfl rfl rfl rfl ?_
  refine x_iconst (pc' := 50) rfl rfl ?_
  refine x_cv (ls0 := [_, _]) (rest := []) rfl rfl rfl rfl rfl ?_
  refine x_iload_n (pc' := 1) rfl rfl rfl ?_
  refine x_if (a' := 11) (pc' := 4) (z := true) rfl rfl rfl (by decide) (fun _ => ?_) (fun h => by cases h)
  refine x_aload_n (pc' := 12) rfl rfl rfl rfl rfl ?_
  refine x_gR (pc' := 15) (r := (bsF M n b false)) rfl rfl rfl (bs_70 hC (Fr.ri (Fr.refl _) hR) hM hb) ?_
  refine x_reta rfl rfl ?_
  refine sK_i (pc' := 53) rfl ?_
  refine x_cs (ls0 := [_, sJk]) (rest := []) rfl rfl rfl rfl ?_
  exact k0
theorem n4_6 {t : sT} {Q : sRs → sT → Prop} {M : sM} {n : Nat} {T : Nat} {L0 : List Nat} {A : Nat} {B : Nat} {b : Nat} {p : Int32} {a : Int32}
    (hW : Wc t M n T L0 A B)
    (hb : b < 5)
    (k0 : ¬ (0 < a) → Q (.inl (some (.inl a))) (sIw t 67 b 2))
    (k1 : 0 < a → X 36 0 [.inr (.inr (4, (some 0))), .inr (.inr (1, (some b))), .inl p, sJk, sJk] [] t (sK 36 4 66 [.inr (.inr (0, (some 0))), .inr (.inr (1, (some b))), .inl p, .inl a] [] Q)) :
    X 4 56 [.inr (.inr (0, (some 0))), .inr (.inr (1, (some b))), .inl p, .inl a] [] t Q := by
  obtain ⟨hM, hc, hR, hC, hL, hL9⟩ := hW
  refine x_iload_n (pc' := 57) rfl rfl rfl ?_
  refine x_if_n (a' := 84) (pc' := 60) (z := decide (0 < a)) rfl rfl rfl (ik_le _ _) (fun q1 => ?_) (fun q1 => ?_)
  · refine x_aload_n (pc' := 85) rfl rfl rfl rfl rfl ?_
    refine x_iconst (pc' := 86) rfl rfl ?_
    refine x_pI (pc' := 89) rfl rfl rfl ?_
    refine x_iload_n (pc' := 90) rfl rfl rfl ?_
    refine x_reti rfl rfl ?_
    exact k0 (of_decide_eq_false q1)
  · refine x_aload_n (pc' := 61) rfl rfl rfl rfl rfl ?_
    refine x_gR (pc' := 64) (r := (some 0)) rfl rfl rfl (kR_1_0 hc.1) ?_
    refine x_aload_n (pc' := 65) rfl rfl rfl rfl rfl ?_
    refine x_iload_n (pc' := 66) rfl rfl rfl ?_
    refine x_cv (ls0 := [_, _, _, sJk, sJk]) (rest := []) rfl rfl rfl rfl rfl ?_
    exact k1 (of_decide_eq_true q1)
theorem n4_7 {t : sT} {Q : sRs → sT → Prop} {M : sM} {n : Nat} {T : Nat} {L0 : List Nat} {A : Nat} {B : Nat} {b : Nat} {p : Int32} {a : Int32}
    (hW : Wc t M n T L0 A B)
    (hb : b < 5)
    (k0 : (snd b) = none → Q (.inl (some (.inl a))) (sIw (sIw t 130 (fst b) p) 67 b 2))
    (k1 : ∀ j0, (snd b) = some j0 → Q (.inl (some (.inl a))) (sIw t 67 b 2)) :
    X 4 69 [.inr (.inr (0, (some 0))), .inr (.inr (1, (some b))), .inl p, .inl a] [] t Q := by
  obtain ⟨hM, hc, hR, hC, hL, hL9⟩ := hW
  refine x_aload_n (pc' := 70) rfl rfl rfl rfl rfl ?_
  refine x_cv (ls0 := [_]) (rest := []) rfl rfl rfl rfl rfl ?_
  refine x_aload_n (pc' := 1) rfl rfl rfl rfl rfl ?_
  refine x_gR (pc' := 4) (r := (snd b)) rfl rfl rfl (kBk hc.1 hb).2.1 ?_
  refine x_ifnull (a' := 11) (pc' := 7) rfl rfl rfl rfl (fun q1 => ?_) (fun j0 q1 => ?_)
  · refine x_iconst (pc' := 12) rfl rfl ?_
    refine x_retz (z := false) rfl rfl ?_
    refine sK_i (pc' := 73) rfl ?_
    refine x_if (a' := 84) (pc' := 76) (z := false) rfl rfl rfl (by decide) (fun h => by cases h) (fun _ => ?_)
    refine x_aload_n (pc' := 77) rfl rfl rfl rfl rfl ?_
    refine x_gR (pc' := 80) (r := (some (fst b))) rfl rfl rfl (kBk hc.1 hb).1 ?_
    refine x_iload_n (pc' := 81) rfl rfl rfl ?_
    refine x_pI (pc' := 84) rfl rfl rfl ?_
    refine x_aload_n (pc' := 85) rfl rfl rfl rfl rfl ?_
    refine x_iconst (pc' := 86) rfl rfl ?_
    refine x_pI (pc' := 89) rfl rfl rfl ?_
    refine x_iload_n (pc' := 90) rfl rfl rfl ?_
    refine x_reti rfl rfl ?_
    exact k0 q1
  · refine x_iconst (pc' := 8) rfl rfl ?_
    refine x_goto (pc' := 12) rfl rfl ?_
    refine x_retz (z := true) rfl rfl ?_
    refine sK_i (pc' := 73) rfl ?_
    refine x_if (a' := 84) (pc' := 76) (z := true) rfl rfl rfl (by decide) (fun _ => ?_) (fun h => by cases h)
    refine x_aload_n (pc' := 85) rfl rfl rfl rfl rfl ?_
    refine x_iconst (pc' := 86) rfl rfl ?_
    refine x_pI (pc' := 89) rfl rfl rfl ?_
    refine x_iload_n (pc' := 90) rfl rfl rfl ?_
    refine x_reti rfl rfl ?_
    exact k1 j0 q1
theorem n5_0 {t : sT} {Q : sRs → sT → Prop} {M : sM} {n : Nat} {T : Nat} {L0 : List Nat} {A : Nat} {B : Nat} {b : Nat} {p : Int32} {a : Int32}
    (hW : Wc t M n T L0 A B)
    (hb : b < 5)
    (k0 : X 5 6 [.inr (.inr (0, (some 0))), .inr (.inr (1, (some b))), .inl p, .inl a, .inl a, .inl 0, sJk, sJk, sJk] [] t Q) :
    X 5 0 [.inr (.inr (0, (some 0))), .inr (.inr (1, (some b))), .inl p, .inl a, sJk, sJk, sJk, sJk, sJk] [] t Q := by
  obtain ⟨hM, hc, hR, hC, hL, hL9⟩ := hW
  refine x_iload_n (pc' := 1) rfl rfl rfl ?_
  refine x_istore (pc' := 3) (ls' := [_, _, _, _, _, _, _, _, _]) rfl rfl rfl rfl ?_
  refine x_iconst (pc' := 4) rfl rfl ?_
  refine x_istore (pc' := 6) (ls' := [_, _, _, _, _, _, _, _, _]) rfl rfl rfl rfl ?_
  exact k0
theorem n5_k {t : sT} {Q : sRs → sT → Prop} {M : sM} {n : Nat} {T : Nat} {L0 : List Nat} {A : Nat} {B : Nat} {b : Nat} {p : Int32} {a : Int32} {K : Nat} {v : Nat} {y0 : sV} {y1 : sV} {y2 : sV}
    (hW : Wc t M n T L0 A B)
    (hb : b < 5)
    (hK9 : K < 2 ^ 31)
    (hv9 : v < 400)
    (k0 : ¬ (0 < K) → Q (.inl none) t)
    (k1 : 0 < K → (bsF M n b true) = none → Q (.inl none) t)
    (k2 : 0 < K → ∀ j0, (bsF M n b true) = some j0 → ∀ j1, (bsF M n b false) = some j1 → X 47 0 [.inr (.inr (5, (some 0))), .inr (.inr (1, (some b))), .inr (.inr (7, (some (oM M j0)))), .inr (.inr (7, (some (oM M j1)))), .inl p, .inl (mnc (mA M 15 j1) (mA M 15 j0)), sJk] [] t (sK 47 5 77 [.inr (.inr (0, (some 0))), .inr (.inr (1, (some b))), .inl p, .inl a, .inl (io K), .inl (io v), .inr (.inr (8, (bsF M n b true))), .inr (.inr (8, (bsF M n b false))), .inl (mnc (mA M 15 j1) (mA M 15 j0))] [] Q))
    (k3 : 0 < K → ∀ j0, (bsF M n b true) = some j0 → (bsF M n b false) = none → Q (.inl none) t) :
    X 5 6 [.inr (.inr (0, (some 0))), .inr (.inr (1, (some b))), .inl p, .inl a, .inl (io K), .inl (io v), y0, y1, y2] [] t Q := by
  obtain ⟨hM, hc, hR, hC, hL, hL9⟩ := hW
  refine x_iload (pc' := 8) rfl rfl rfl ?_
  refine x_if_n (a' := 115) (pc' := 11) (z := decide (0 < K)) rfl rfl rfl (ic_len (p := K) (q := 0) hK9 (by decide)) (fun q1 => ?_) (fun q1 => ?_)
  · refine x_ret rfl ?_
    exact k0 (of_decide_eq_false q1)
  · refine x_iload (pc' := 13) rfl rfl rfl ?_
    refine x_sipush (pc' := 16) rfl rfl ?_
    refine x_icmp_n (a' := 115) (pc' := 19) (z := decide (v < 400)) rfl rfl rfl (ic_gen (p := v) (q := 400) (Nat.lt_trans hv9 (by decide)) (by decide)) (fun h => absurd hv9 (of_decide_eq_false h)) (fun _ => ?_)
    refine x_aload_n (pc' := 20) rfl rfl rfl rfl rfl ?_
    refine x_iconst (pc' := 21) rfl rfl ?_
    refine x_cv (ls0 := [_, _]) (rest := []) rfl rfl rfl rfl rfl ?_
    refine x_iload_n (pc' := 1) rfl rfl rfl ?_
    refine x_if (a' := 11) (pc' := 4) (z := false) rfl rfl rfl (by decide) (fun h => by cases h) (fun _ => ?_)
    refine x_aload_n (pc' := 5) rfl rfl rfl rfl rfl ?_
    refine x_gR (pc' := 8) (r := (bsF M n b true)) rfl rfl rfl (bs_69 hC (Fr.ri (Fr.refl _) hR) hM hb) ?_
    refine x_goto (pc' := 15) rfl rfl ?_
    refine x_reta rfl rfl ?_
    refine sK_i (pc' := 24) rfl ?_
    refine x_astore (pc' := 26) (ls' := [_, _, _, _, _, _, _, _, _]) rfl rfl rfl rfl rfl ?_
    refine x_aload_n (pc' := 27) rfl rfl rfl rfl rfl ?_
    refine x_iconst (pc' := 28) rfl rfl ?_
    refine x_cv (ls0 := [_, _]) (rest := []) rfl rfl rfl rfl rfl ?_
    refine x_iload_n (pc' := 1) rfl rfl rfl ?_
    refine x_if (a' := 11) (pc' := 4) (z := true) rfl rfl rfl (by decide) (fun _ => ?_) (fun h => by cases h)
    refine x_aload_n (pc' := 12) rfl rfl rfl rfl rfl ?_
    refine x_gR (pc' := 15) (r := (bsF M n b false)) rfl rfl rfl (bs_70 hC (Fr.ri (Fr.refl _) hR) hM hb) ?_
    refine x_reta rfl rfl ?_
    refine sK_i (pc' := 31) rfl ?_
    refine x_astore (pc' := 33) (ls' := [_, _, _, _, _, _, _, _, _]) rfl rfl rfl rfl rfl ?_
    refine x_aload (pc' := 35) rfl rfl rfl rfl rfl ?_
    refine x_ifnull (a' := 43) (pc' := 38) rfl rfl rfl rfl (fun q5 => ?_) (fun j0 q5 => ?_)
    · refine x_ret rfl ?_
      exact k1 (of_decide_eq_true q1) q5
    · refine x_aload (pc' := 40) rfl rfl rfl rfl rfl ?_
      refine x_ifnonnull (a' := 44) (pc' := 43) rfl rfl rfl rfl (fun j1 q6 => ?_) (fun q6 => ?_)
      · refine x_aload (pc' := 46) rfl rfl rfl rfl q5 ?_
        refine x_gI (pc' := 49) (x := (mA M 15 j0)) rfl rfl rfl (kA hM rfl (bsF_lt _ q5)) ?_
        refine x_aload (pc' := 51) rfl rfl rfl rfl q6 ?_
        refine x_gI (pc' := 54) (x := (mA M 15 j1)) rfl rfl rfl (kA hM rfl (bsF_lt _ q6)) ?_
        refine x_min (pc' := 57) (z := (mnc (mA M 15 j1) (mA M 15 j0))) rfl rfl rfl (if_mnc _ _) ?_
        refine x_istore (pc' := 59) (ls' := [_, _, _, _, _, _, _, _, _]) rfl rfl rfl rfl ?_
        refine x_aload_n (pc' := 60) rfl rfl rfl rfl rfl ?_
        refine x_gR (pc' := 63) (r := (some 0)) rfl rfl rfl (kR_0_0 hc.1) ?_
        refine x_aload_n (pc' := 64) rfl rfl rfl rfl rfl ?_
        refine x_aload (pc' := 66) rfl rfl rfl rfl q5 ?_
        refine x_gR (pc' := 69) (r := (some (oM M j0))) rfl rfl rfl (Sf_513f hc (Fr.refl _) (bsF_lt _ q5)) ?_
        refine x_aload (pc' := 71) rfl rfl rfl rfl q6 ?_
        refine x_gR (pc' := 74) (r := (some (oM M j1))) rfl rfl rfl (Sf_513f hc (Fr.refl _) (bsF_lt _ q6)) ?_
        refine x_iload_n (pc' := 75) rfl rfl rfl ?_
        refine x_iload (pc' := 77) rfl rfl rfl ?_
        refine x_cv (ls0 := [_, _, _, _, _, _, sJk]) (rest := []) rfl rfl rfl rfl rfl ?_
        exact k2 (of_decide_eq_true q1) j0 q5 j1 q6
      · refine x_ret rfl ?_
        exact k3 (of_decide_eq_true q1) j0 q5 q6
theorem n5_2 {t : sT} {Q : sRs → sT → Prop} {M : sM} {n : Nat} {T : Nat} {L0 : List Nat} {A : Nat} {B : Nat} {b : Nat} {p : Int32} {a : Int32} {h : Int32} {K : Nat} {v : Nat} {i : Nat} {j : Nat}
    (hW : Wc t M n T L0 A B)
    (hb : b < 5)
    (hK9 : K < 2 ^ 31)
    (hv9 : v < 400)
    (hi : i < n)
    (hj : j < n)
    (k0 : X 34 0 [.inr (.inr (4, (some 0))), .inr (.inr (8, (some i))), .inl h] [] t (sK 34 5 88 [.inr (.inr (0, (some 0))), .inr (.inr (1, (some b))), .inl p, .inl a, .inl (io K), .inl (io v), .inr (.inr (8, (some i))), .inr (.inr (8, (some j))), .inl h] [] Q)) :
    X 5 80 [.inr (.inr (0, (some 0))), .inr (.inr (1, (some b))), .inl p, .inl a, .inl (io K), .inl (io v), .inr (.inr (8, (some i))), .inr (.inr (8, (some j))), .inl h] [] t Q := by
  obtain ⟨hM, hc, hR, hC, hL, hL9⟩ := hW
  refine x_aload_n (pc' := 81) rfl rfl rfl rfl rfl ?_
  refine x_gR (pc' := 84) (r := (some 0)) rfl rfl rfl (kR_1_0 hc.1) ?_
  refine x_aload (pc' := 86) rfl rfl rfl rfl rfl ?_
  refine x_iload (pc' := 88) rfl rfl rfl ?_
  refine x_cv (ls0 := [_, _, _]) (rest := []) rfl rfl rfl rfl rfl ?_
  exact k0
theorem n5_3 {t : sT} {Q : sRs → sT → Prop} {M : sM} {n : Nat} {T : Nat} {L0 : List Nat} {A : Nat} {B : Nat} {b : Nat} {p : Int32} {a : Int32} {h : Int32} {K : Nat} {v : Nat} {i : Nat} {j : Nat}
    (hW : Wc t M n T L0 A B)
    (hb : b < 5)
    (hK9 : K < 2 ^ 31)
    (hv9 : v < 400)
    (hi : i < n)
    (hj : j < n)
    (k0 : X 34 0 [.inr (.inr (4, (some 0))), .inr (.inr (8, (some j))), .inl h] [] t (sK 34 5 99 [.inr (.inr (0, (some 0))), .inr (.inr (1, (some b))), .inl p, .inl a, .inl (io K), .inl (io v), .inr (.inr (8, (some i))), .inr (.inr (8, (some j))), .inl h] [] Q)) :
    X 5 91 [.inr (.inr (0, (some 0))), .inr (.inr (1, (some b))), .inl p, .inl a, .inl (io K), .inl (io v), .inr (.inr (8, (some i))), .inr (.inr (8, (some j))), .inl h] [] t Q := by
  obtain ⟨hM, hc, hR, hC, hL, hL9⟩ := hW
  refine x_aload_n (pc' := 92) rfl rfl rfl rfl rfl ?_
  refine x_gR (pc' := 95) (r := (some 0)) rfl rfl rfl (kR_1_0 hc.1) ?_
  refine x_aload (pc' := 97) rfl rfl rfl rfl rfl ?_
  refine x_iload (pc' := 99) rfl rfl rfl ?_
  refine x_cv (ls0 := [_, _, _]) (rest := []) rfl rfl rfl rfl rfl ?_
  exact k0
theorem n5_4 {t : sT} {Q : sRs → sT → Prop} {M : sM} {n : Nat} {T : Nat} {L0 : List Nat} {A : Nat} {B : Nat} {b : Nat} {p : Int32} {a : Int32} {h : Int32} {K : Nat} {v : Nat} {i : Nat} {j : Nat}
    (hW : Wc t M n T L0 A B)
    (hb : b < 5)
    (hK9 : K < 2 ^ 31)
    (hv9 : v < 400)
    (hi : i < n)
    (hj : j < n)
    (k0 : X 5 6 [.inr (.inr (0, (some 0))), .inr (.inr (1, (some b))), .inl p, .inl a, .inl ((io K) - h), .inl (io (v + 1)), .inr (.inr (8, (some i))), .inr (.inr (8, (some j))), .inl h] [] t Q) :
    X 5 102 [.inr (.inr (0, (some 0))), .inr (.inr (1, (some b))), .inl p, .inl a, .inl (io K), .inl (io v), .inr (.inr (8, (some i))), .inr (.inr (8, (some j))), .inl h] [] t Q := by
  obtain ⟨hM, hc, hR, hC, hL, hL9⟩ := hW
  refine x_iload (pc' := 104) rfl rfl rfl ?_
  refine x_iload (pc' := 106) rfl rfl rfl ?_
  refine x_isub (pc' := 107) (z := ((io K) - h)) rfl rfl rfl ?_
  refine x_istore (pc' := 109) (ls' := [_, _, _, _, _, _, _, _, _]) rfl rfl rfl rfl ?_
  refine x_iinc (pc' := 112) (y := (io (v + 1))) (ls' := [_, _, _, _, _, _, _, _, _]) rfl rfl rfl (io_add v 1) rfl ?_
  refine x_goto (pc' := 6) rfl rfl ?_
  exact k0
theorem n6_0 {t : sT} {Q : sRs → sT → Prop} {M : sM} {n : Nat} {T : Nat} {L0 : List Nat} {A : Nat} {B : Nat} {f : Option Nat}
    (hW : Wc t M n T L0 A B)
    (k0 : X 6 2 [.inr (.inr (8, f)), .inr (.inr (8, f))] [] t Q) :
    X 6 0 [.inr (.inr (8, f)), sJk] [] t Q := by
  obtain ⟨hM, hc, hR, hC, hL, hL9⟩ := hW
  refine x_aload_n (pc' := 1) rfl rfl rfl rfl rfl ?_
  refine x_astore_n (pc' := 2) (ls' := [_, _]) rfl rfl rfl rfl rfl ?_
  exact k0
theorem n6_n {t : sT} {Q : sRs → sT → Prop} {M : sM} {n : Nat} {T : Nat} {L0 : List Nat} {A : Nat} {B : Nat} {f : Option Nat}
    (hW : Wc t M n T L0 A B)
    (k0 : Q (.inl none) t) :
    X 6 2 [.inr (.inr (8, f)), .inr (.inr (8, none))] [] t Q := by
  obtain ⟨hM, hc, hR, hC, hL, hL9⟩ := hW
  refine x_aload_n (pc' := 3) rfl rfl rfl rfl rfl ?_
  refine x_ifnull (a' := 18) (pc' := 6) rfl rfl rfl rfl (fun _ => ?_) (fun i h => by cases h)
  refine x_ret rfl ?_
  exact k0
theorem n6_k {t : sT} {Q : sRs → sT → Prop} {M : sM} {n : Nat} {T : Nat} {L0 : List Nat} {A : Nat} {B : Nat} {o : Nat} {f : Option Nat}
    (hW : Wc t M n T L0 A B)
    (ho : o < n)
    (k0 : X 6 2 [.inr (.inr (8, f)), .inr (.inr (8, (sR t 529 o)))] [] (sIw t 524 o (mnc (mA M 15 o) (mA M 16 o))) Q) :
    X 6 2 [.inr (.inr (8, f)), .inr (.inr (8, (some o)))] [] t Q := by
  obtain ⟨hM, hc, hR, hC, hL, hL9⟩ := hW
  refine x_aload_n (pc' := 3) rfl rfl rfl rfl rfl ?_
  refine x_ifnull (a' := 18) (pc' := 6) rfl rfl rfl rfl (fun h => by cases h) (fun _ _ => ?_)
  refine x_aload_n (pc' := 7) rfl rfl rfl rfl rfl ?_
  refine x_cv (ls0 := [_]) (rest := []) rfl rfl rfl rfl rfl ?_
  refine x_aload_n (pc' := 1) rfl rfl rfl rfl rfl ?_
  refine x_aload_n (pc' := 2) rfl rfl rfl rfl rfl ?_
  refine x_gI (pc' := 5) (x := (mA M 16 o)) rfl rfl rfl (kA hM rfl ho) ?_
  refine x_aload_n (pc' := 6) rfl rfl rfl rfl rfl ?_
  refine x_gI (pc' := 9) (x := (mA M 15 o)) rfl rfl rfl (kA hM rfl ho) ?_
  refine x_min (pc' := 12) (z := (mnc (mA M 15 o) (mA M 16 o))) rfl rfl rfl (if_mnc _ _) ?_
  refine x_pI (pc' := 15) rfl rfl rfl ?_
  refine x_ret rfl ?_
  refine sK_v (pc' := 10) rfl ?_
  refine x_aload_n (pc' := 11) rfl rfl rfl rfl rfl ?_
  refine x_gR (pc' := 14) (r := (sR t 529 o)) rfl rfl rfl rdRI ?_
  refine x_astore_n (pc' := 15) (ls' := [_, _]) rfl rfl rfl rfl rfl ?_
  refine x_goto (pc' := 2) rfl rfl ?_
  exact k0
