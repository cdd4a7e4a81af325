/-! the class's calls (printed by tops.py) -/
set_option maxHeartbeats 4000000 in
set_option maxRecDepth 10000 in
theorem n84 {t : sT} {Q : sRs → sT → Prop} {M : sM} {n : Nat} {T : Nat} {L0 : List Nat} {A : Nat} {B : Nat} {b : Nat}
    (hW : Wc t M n T L0 A B)
    (hb : b < 5)
    (k0 : (mA M 0 b) = 1 → Q (.inr 2) (sThr t))
    (k1 : ¬ ((mA M 0 b) = 1) → Q (.inl (some (.inl (mA M 0 b)))) (sIw t 67 b 1)) :
    X 84 0 [.inr (.inr (11, (some 0))), .inl (io b), sJk, sJk] [] t Q := by
  obtain ⟨hM, hc, hR, hC, hL, hL9⟩ := hW
  refine x_aload_n (pc' := 1) rfl rfl rfl rfl rfl ?_
  refine x_iload_n (pc' := 2) rfl rfl rfl ?_
  refine x_cv (ls0 := [_, _]) (rest := []) rfl rfl rfl rfl rfl ?_
  refine x_iload_n (pc' := 1) rfl rfl rfl ?_
  refine x_if (a' := 16) (pc' := 4) (z := decide (b < 0)) rfl rfl rfl (ic_lt (p := b) (q := 0) (gb31 hb) (by decide)) (fun h => absurd (of_decide_eq_true h) (by first | decide | omega | simp)) (fun _ => ?_)
  refine x_iload_n (pc' := 5) rfl rfl rfl ?_
  refine x_aload_n (pc' := 6) rfl rfl rfl rfl rfl ?_
  refine x_gR (pc' := 9) (r := (some 0)) rfl rfl rfl (kR_705_0 hc.1) ?_
  refine x_gR (pc' := 12) (r := (some 0)) rfl rfl rfl (kR_256_0 hc.1) ?_
  refine x_alen (pc' := 13) (N := 5) rfl rfl rfl (kN_24_0 hc.1) (?_ : X _ _ _ (.inl 5 :: _) _ _)
  refine x_icmp (a' := 27) (pc' := 16) (z := decide (b < 5)) rfl rfl rfl (ic_lt (p := b) (q := 5) (gb31 hb) (by decide)) (fun _ => ?_) (fun h => absurd hb (of_decide_eq_false h))
  refine x_aload_n (pc' := 28) rfl rfl rfl rfl rfl ?_
  refine x_gR (pc' := 31) (r := (some 0)) rfl rfl rfl (kR_705_0 hc.1) ?_
  refine x_gR (pc' := 34) (r := (some 0)) rfl rfl rfl (kR_256_0 hc.1) ?_
  refine x_iload_n (pc' := 35) rfl rfl rfl ?_
  refine x_aald (pc' := 36) (N := 5) (k' := 1) (r := (some b)) rfl rfl rfl (kN_24_0 hc.1) (io_in (p := b) (N := 5) hb (by decide)) (Eq.trans (congrArg (sE t 24 0) (nn_io (p := b) (Nat.lt_trans hb (by decide)))) (kB hc.1 hb)) ?_
  refine x_reta rfl rfl ?_
  refine sK_i (pc' := 5) rfl ?_
  refine x_astore_n (pc' := 6) (ls' := [_, _, _, _]) rfl rfl rfl rfl rfl ?_
  refine x_aload_n (pc' := 7) rfl rfl rfl rfl rfl ?_
  refine x_gI (pc' := 10) (x := (mA M 0 b)) rfl rfl rfl (kA hM rfl hb) ?_
  refine x_iconst (pc' := 11) rfl rfl ?_
  refine x_icmp (a' := 18) (pc' := 14) (z := decide ((mA M 0 b) = 1)) rfl rfl rfl rfl (fun q3 => ?_) (fun q3 => ?_)
  · refine x_iconst (pc' := 19) rfl rfl ?_
    refine x_cs (ls0 := [_]) (rest := []) rfl rfl rfl rfl ?_
    refine x_iload_n (pc' := 1) rfl rfl rfl ?_
    refine x_if (a' := 15) (pc' := 4) (z := false) rfl rfl rfl (by decide) (fun h => by cases h) (fun _ => ?_)
    refine x_throw rfl rfl ?_
    refine sK_n (by decide +kernel) rfl ?_
    exact k0 (of_decide_eq_true q3)
  · refine x_iconst (pc' := 15) rfl rfl ?_
    refine x_goto (pc' := 19) rfl rfl ?_
    refine x_cs (ls0 := [_]) (rest := []) rfl rfl rfl rfl ?_
    refine x_iload_n (pc' := 1) rfl rfl rfl ?_
    refine x_if (a' := 15) (pc' := 4) (z := true) rfl rfl rfl (by decide) (fun _ => ?_) (fun h => by cases h)
    refine x_ret rfl ?_
    refine sK_v (pc' := 22) rfl ?_
    refine x_aload_n (pc' := 23) rfl rfl rfl rfl rfl ?_
    refine x_gI (pc' := 26) (x := (mA M 0 b)) rfl rfl rfl (kA hM rfl hb) ?_
    refine x_istore_n (pc' := 27) (ls' := [_, _, _, _]) rfl rfl rfl rfl ?_
    refine x_aload_n (pc' := 28) rfl rfl rfl rfl rfl ?_
    refine x_iconst (pc' := 29) rfl rfl ?_
    refine x_pI (pc' := 32) rfl rfl rfl ?_
    refine x_iload_n (pc' := 33) rfl rfl rfl ?_
    refine x_reti rfl rfl ?_
    exact k1 (of_decide_eq_false q3)
set_option maxHeartbeats 4000000 in
set_option maxRecDepth 10000 in
theorem n84_x0 {t : sT} {Q : sRs → sT → Prop} {M : sM} {n : Nat} {T : Nat} {L0 : List Nat} {A : Nat} {B : Nat} {x : Int32}
    (hW : Wc t M n T L0 A B)
    (hp : ixo x 5 = none)
    (k0 : Q (.inr 0) (sThr t)) :
    X 84 0 [.inr (.inr (11, (some 0))), .inl x, sJk, sJk] [] t Q := by
  obtain ⟨hM, hc, hR, hC, hL, hL9⟩ := hW
  refine x_aload_n (pc' := 1) rfl rfl rfl rfl rfl ?_
  refine x_iload_n (pc' := 2) rfl rfl rfl ?_
  refine x_cv (ls0 := [_, _]) (rest := []) rfl rfl rfl rfl rfl ?_
  refine b133_x ⟨hM, hc, hR, hC, hL, hL9⟩ hp ?_
  refine sK_n (by decide +kernel) rfl ?_
  exact k0
set_option maxHeartbeats 4000000 in
set_option maxRecDepth 10000 in
theorem n85 {t : sT} {Q : sRs → sT → Prop} {M : sM} {n : Nat} {T : Nat} {L0 : List Nat} {A : Nat} {B : Nat} {b : Nat}
    (hW : Wc t M n T L0 A B)
    (hb : b < 5)
    (k0 : (mA M 0 b) = 0 → Q (.inr 2) (sThr t))
    (k1 : ¬ ((mA M 0 b) = 0) → Q (.inl (some (.inl (mA M 0 b)))) (sIw t 67 b 0)) :
    X 85 0 [.inr (.inr (11, (some 0))), .inl (io b), sJk, sJk] [] t Q := by
  obtain ⟨hM, hc, hR, hC, hL, hL9⟩ := hW
  refine x_aload_n (pc' := 1) rfl rfl rfl rfl rfl ?_
  refine x_iload_n (pc' := 2) rfl rfl rfl ?_
  refine x_cv (ls0 := [_, _]) (rest := []) rfl rfl rfl rfl rfl ?_
  refine x_iload_n (pc' := 1) rfl rfl rfl ?_
  refine x_if (a' := 16) (pc' := 4) (z := decide (b < 0)) rfl rfl rfl (ic_lt (p := b) (q := 0) (gb31 hb) (by decide)) (fun h => absurd (of_decide_eq_true h) (by first | decide | omega | simp)) (fun _ => ?_)
  refine x_iload_n (pc' := 5) rfl rfl rfl ?_
  refine x_aload_n (pc' := 6) rfl rfl rfl rfl rfl ?_
  refine x_gR (pc' := 9) (r := (some 0)) rfl rfl rfl (kR_705_0 hc.1) ?_
  refine x_gR (pc' := 12) (r := (some 0)) rfl rfl rfl (kR_256_0 hc.1) ?_
  refine x_alen (pc' := 13) (N := 5) rfl rfl rfl (kN_24_0 hc.1) (?_ : X _ _ _ (.inl 5 :: _) _ _)
  refine x_icmp (a' := 27) (pc' := 16) (z := decide (b < 5)) rfl rfl rfl (ic_lt (p := b) (q := 5) (gb31 hb) (by decide)) (fun _ => ?_) (fun h => absurd hb (of_decide_eq_false h))
  refine x_aload_n (pc' := 28) rfl rfl rfl rfl rfl ?_
  refine x_gR (pc' := 31) (r := (some 0)) rfl rfl rfl (kR_705_0 hc.1) ?_
  refine x_gR (pc' := 34) (r := (some 0)) rfl rfl rfl (kR_256_0 hc.1) ?_
  refine x_iload_n (pc' := 35) rfl rfl rfl ?_
  refine x_aald (pc' := 36) (N := 5) (k' := 1) (r := (some b)) rfl rfl rfl (kN_24_0 hc.1) (io_in (p := b) (N := 5) hb (by decide)) (Eq.trans (congrArg (sE t 24 0) (nn_io (p := b) (Nat.lt_trans hb (by decide)))) (kB hc.1 hb)) ?_
  refine x_reta rfl rfl ?_
  refine sK_i (pc' := 5) rfl ?_
  refine x_astore_n (pc' := 6) (ls' := [_, _, _, _]) rfl rfl rfl rfl rfl ?_
  refine x_aload_n (pc' := 7) rfl rfl rfl rfl rfl ?_
  refine x_gI (pc' := 10) (x := (mA M 0 b)) rfl rfl rfl (kA hM rfl hb) ?_
  refine x_if (a' := 17) (pc' := 13) (z := decide ((mA M 0 b) = 0)) rfl rfl rfl rfl (fun q3 => ?_) (fun q3 => ?_)
  · refine x_iconst (pc' := 18) rfl rfl ?_
    refine x_cs (ls0 := [_]) (rest := []) rfl rfl rfl rfl ?_
    refine x_iload_n (pc' := 1) rfl rfl rfl ?_
    refine x_if (a' := 15) (pc' := 4) (z := false) rfl rfl rfl (by decide) (fun h => by cases h) (fun _ => ?_)
    refine x_throw rfl rfl ?_
    refine sK_n (by decide +kernel) rfl ?_
    exact k0 (of_decide_eq_true q3)
  · refine x_iconst (pc' := 14) rfl rfl ?_
    refine x_goto (pc' := 18) rfl rfl ?_
    refine x_cs (ls0 := [_]) (rest := []) rfl rfl rfl rfl ?_
    refine x_iload_n (pc' := 1) rfl rfl rfl ?_
    refine x_if (a' := 15) (pc' := 4) (z := true) rfl rfl rfl (by decide) (fun _ => ?_) (fun h => by cases h)
    refine x_ret rfl ?_
    refine sK_v (pc' := 21) rfl ?_
    refine x_aload_n (pc' := 22) rfl rfl rfl rfl rfl ?_
    refine x_gI (pc' := 25) (x := (mA M 0 b)) rfl rfl rfl (kA hM rfl hb) ?_
    refine x_istore_n (pc' := 26) (ls' := [_, _, _, _]) rfl rfl rfl rfl ?_
    refine x_aload_n (pc' := 27) rfl rfl rfl rfl rfl ?_
    refine x_iconst (pc' := 28) rfl rfl ?_
    refine x_pI (pc' := 31) rfl rfl rfl ?_
    refine x_iload_n (pc' := 32) rfl rfl rfl ?_
    refine x_reti rfl rfl ?_
    exact k1 (of_decide_eq_false q3)
set_option maxHeartbeats 4000000 in
set_option maxRecDepth 10000 in
theorem n85_x0 {t : sT} {Q : sRs → sT → Prop} {M : sM} {n : Nat} {T : Nat} {L0 : List Nat} {A : Nat} {B : Nat} {x : Int32}
    (hW : Wc t M n T L0 A B)
    (hp : ixo x 5 = none)
    (k0 : Q (.inr 0) (sThr t)) :
    X 85 0 [.inr (.inr (11, (some 0))), .inl x, sJk, sJk] [] t Q := by
  obtain ⟨hM, hc, hR, hC, hL, hL9⟩ := hW
  refine x_aload_n (pc' := 1) rfl rfl rfl rfl rfl ?_
  refine x_iload_n (pc' := 2) rfl rfl rfl ?_
  refine x_cv (ls0 := [_, _]) (rest := []) rfl rfl rfl rfl rfl ?_
  refine b133_x ⟨hM, hc, hR, hC, hL, hL9⟩ hp ?_
  refine sK_n (by decide +kernel) rfl ?_
  exact k0
set_option maxHeartbeats 4000000 in
set_option maxRecDepth 10000 in
theorem n87 {t : sT} {Q : sRs → sT → Prop} {M : sM} {n : Nat} {T : Nat} {L0 : List Nat} {A : Nat} {B : Nat} {b : Nat} {s : Bool}
    (hW : Wc t M n T L0 A B)
    (hb : b < 5)
    (k0 : Q (.inl (some (.inl (bz (mB M 0 b))))) (sZw t 68 b s)) :
    X 87 0 [.inr (.inr (11, (some 0))), .inl (io b), .inl (bz s), sJk, sJk] [] t Q := by
  obtain ⟨hM, hc, hR, hC, hL, hL9⟩ := hW
  refine x_aload_n (pc' := 1) rfl rfl rfl rfl rfl ?_
  refine x_iload_n (pc' := 2) rfl rfl rfl ?_
  refine x_cv (ls0 := [_, _]) (rest := []) rfl rfl rfl rfl rfl ?_
  refine x_iload_n (pc' := 1) rfl rfl rfl ?_
  refine x_if (a' := 16) (pc' := 4) (z := decide (b < 0)) rfl rfl rfl (ic_lt (p := b) (q := 0) (gb31 hb) (by decide)) (fun h => absurd (of_decide_eq_true h) (by first | decide | omega | simp)) (fun _ => ?_)
  refine x_iload_n (pc' := 5) rfl rfl rfl ?_
  refine x_aload_n (pc' := 6) rfl rfl rfl rfl rfl ?_
  refine x_gR (pc' := 9) (r := (some 0)) rfl rfl rfl (kR_705_0 hc.1) ?_
  refine x_gR (pc' := 12) (r := (some 0)) rfl rfl rfl (kR_256_0 hc.1) ?_
  refine x_alen (pc' := 13) (N := 5) rfl rfl rfl (kN_24_0 hc.1) (?_ : X _ _ _ (.inl 5 :: _) _ _)
  refine x_icmp (a' := 27) (pc' := 16) (z := decide (b < 5)) rfl rfl rfl (ic_lt (p := b) (q := 5) (gb31 hb) (by decide)) (fun _ => ?_) (fun h => absurd hb (of_decide_eq_false h))
  refine x_aload_n (pc' := 28) rfl rfl rfl rfl rfl ?_
  refine x_gR (pc' := 31) (r := (some 0)) rfl rfl rfl (kR_705_0 hc.1) ?_
  refine x_gR (pc' := 34) (r := (some 0)) rfl rfl rfl (kR_256_0 hc.1) ?_
  refine x_iload_n (pc' := 35) rfl rfl rfl ?_
  refine x_aald (pc' := 36) (N := 5) (k' := 1) (r := (some b)) rfl rfl rfl (kN_24_0 hc.1) (io_in (p := b) (N := 5) hb (by decide)) (Eq.trans (congrArg (sE t 24 0) (nn_io (p := b) (Nat.lt_trans hb (by decide)))) (kB hc.1 hb)) ?_
  refine x_reta rfl rfl ?_
  refine sK_i (pc' := 5) rfl ?_
  refine x_astore_n (pc' := 6) (ls' := [_, _, _, _, _]) rfl rfl rfl rfl rfl ?_
  refine x_aload_n (pc' := 7) rfl rfl rfl rfl rfl ?_
  refine x_gZ (pc' := 10) (z := (mB M 0 b)) rfl rfl rfl (kZ hM rfl hb) ?_
  refine x_istore (pc' := 12) (ls' := [_, _, _, _, _]) rfl rfl rfl rfl ?_
  refine x_aload_n (pc' := 13) rfl rfl rfl rfl rfl ?_
  refine x_iload_n (pc' := 14) rfl rfl rfl ?_
  refine x_pZ (pc' := 17) (z := s) rfl rfl rfl rfl ?_
  refine x_iload (pc' := 19) rfl rfl rfl ?_
  refine x_retz (z := (mB M 0 b)) rfl rfl ?_
  exact k0
set_option maxHeartbeats 4000000 in
set_option maxRecDepth 10000 in
theorem n87_x0 {t : sT} {Q : sRs → sT → Prop} {M : sM} {n : Nat} {T : Nat} {L0 : List Nat} {A : Nat} {B : Nat} {x : Int32} {s : Bool}
    (hW : Wc t M n T L0 A B)
    (hp : ixo x 5 = none)
    (k0 : Q (.inr 0) (sThr t)) :
    X 87 0 [.inr (.inr (11, (some 0))), .inl x, .inl (bz s), sJk, sJk] [] t Q := by
  obtain ⟨hM, hc, hR, hC, hL, hL9⟩ := hW
  refine x_aload_n (pc' := 1) rfl rfl rfl rfl rfl ?_
  refine x_iload_n (pc' := 2) rfl rfl rfl ?_
  refine x_cv (ls0 := [_, _]) (rest := []) rfl rfl rfl rfl rfl ?_
  refine b133_x ⟨hM, hc, hR, hC, hL, hL9⟩ hp ?_
  refine sK_n (by decide +kernel) rfl ?_
  exact k0
set_option maxHeartbeats 4000000 in
set_option maxRecDepth 10000 in
theorem n88 {t : sT} {Q : sRs → sT → Prop} {M : sM} {n : Nat} {T : Nat} {L0 : List Nat} {A : Nat} {B : Nat} {c : Nat} {p : Int32} {u : Int32}
    (hW : Wc t M n T L0 A B)
    (hc3 : c < 3)
    (k0 : p < 1 → Q (.inr 1) (sThr t))
    (k1 : ¬ (p < 1) → ¬ (999 < p) → u < 0 → Q (.inr 1) (sThr t))
    (k2 : ¬ (p < 1) → ¬ (999 < p) → ¬ (u < 0) → ¬ (999 < u) → Q (.inl none) (sIw (sIw t 130 c p) 131 c u))
    (k3 : ¬ (p < 1) → ¬ (999 < p) → ¬ (u < 0) → 999 < u → Q (.inr 1) (sThr t))
    (k4 : ¬ (p < 1) → 999 < p → Q (.inr 1) (sThr t)) :
    X 88 0 [.inr (.inr (11, (some 0))), .inl (io c), .inl p, .inl u, sJk] [] t Q := by
  obtain ⟨hM, hc, hR, hC, hL, hL9⟩ := hW
  refine x_aload_n (pc' := 1) rfl rfl rfl rfl rfl ?_
  refine x_iload_n (pc' := 2) rfl rfl rfl ?_
  refine x_cv (ls0 := [_, _]) (rest := []) rfl rfl rfl rfl rfl ?_
  refine x_iload_n (pc' := 1) rfl rfl rfl ?_
  refine x_if (a' := 16) (pc' := 4) (z := decide (c < 0)) rfl rfl rfl (ic_lt (p := c) (q := 0) (gc31 hc3) (by decide)) (fun h => absurd (of_decide_eq_true h) (by first | decide | omega | simp)) (fun _ => ?_)
  refine x_iload_n (pc' := 5) rfl rfl rfl ?_
  refine x_aload_n (pc' := 6) rfl rfl rfl rfl rfl ?_
  refine x_gR (pc' := 9) (r := (some 0)) rfl rfl rfl (kR_704_0 hc.1) ?_
  refine x_gR (pc' := 12) (r := (some 0)) rfl rfl rfl (kR_320_0 hc.1) ?_
  refine x_alen (pc' := 13) (N := 3) rfl rfl rfl (kN_25_0 hc.1) (?_ : X _ _ _ (.inl 3 :: _) _ _)
  refine x_icmp (a' := 27) (pc' := 16) (z := decide (c < 3)) rfl rfl rfl (ic_lt (p := c) (q := 3) (gc31 hc3) (by decide)) (fun _ => ?_) (fun h => absurd hc3 (of_decide_eq_false h))
  refine x_aload_n (pc' := 28) rfl rfl rfl rfl rfl ?_
  refine x_gR (pc' := 31) (r := (some 0)) rfl rfl rfl (kR_704_0 hc.1) ?_
  refine x_gR (pc' := 34) (r := (some 0)) rfl rfl rfl (kR_320_0 hc.1) ?_
  refine x_iload_n (pc' := 35) rfl rfl rfl ?_
  refine x_aald (pc' := 36) (N := 3) (k' := 2) (r := (some c)) rfl rfl rfl (kN_25_0 hc.1) (io_in (p := c) (N := 3) hc3 (by decide)) (Eq.trans (congrArg (sE t 25 0) (nn_io (p := c) (Nat.lt_trans hc3 (by decide)))) (kK hc.1 hc3)) ?_
  refine x_reta rfl rfl ?_
  refine sK_i (pc' := 5) rfl ?_
  refine x_astore (pc' := 7) (ls' := [_, _, _, _, _]) rfl rfl rfl rfl rfl ?_
  refine x_iload_n (pc' := 8) rfl rfl rfl ?_
  refine x_iconst (pc' := 9) rfl rfl ?_
  refine x_sipush (pc' := 12) rfl rfl ?_
  refine x_cs (ls0 := [_, _, _]) (rest := []) rfl rfl rfl rfl ?_
  refine x_iload_n (pc' := 1) rfl rfl rfl ?_
  refine x_iload_n (pc' := 2) rfl rfl rfl ?_
  refine x_icmp (a' := 10) (pc' := 5) (z := decide (p < 1)) rfl rfl rfl rfl (fun q3 => ?_) (fun q3 => ?_)
  · refine x_throw rfl rfl ?_
    refine sK_n (by decide +kernel) rfl ?_
    exact k0 (of_decide_eq_true q3)
  · refine x_iload_n (pc' := 6) rfl rfl rfl ?_
    refine x_iload_n (pc' := 7) rfl rfl rfl ?_
    refine x_icmp_n (a' := 21) (pc' := 10) (z := decide (999 < p)) rfl rfl rfl (ik_le _ _) (fun q4 => ?_) (fun q4 => ?_)
    · refine x_ret rfl ?_
      refine sK_v (pc' := 15) rfl ?_
      refine x_iload_n (pc' := 16) rfl rfl rfl ?_
      refine x_iconst (pc' := 17) rfl rfl ?_
      refine x_sipush (pc' := 20) rfl rfl ?_
      refine x_cs (ls0 := [_, _, _]) (rest := []) rfl rfl rfl rfl ?_
      refine x_iload_n (pc' := 1) rfl rfl rfl ?_
      refine x_iload_n (pc' := 2) rfl rfl rfl ?_
      refine x_icmp (a' := 10) (pc' := 5) (z := decide (u < 0)) rfl rfl rfl rfl (fun q5 => ?_) (fun q5 => ?_)
      · refine x_throw rfl rfl ?_
        refine sK_n (by decide +kernel) rfl ?_
        exact k1 (of_decide_eq_false q3) (of_decide_eq_false q4) (of_decide_eq_true q5)
      · refine x_iload_n (pc' := 6) rfl rfl rfl ?_
        refine x_iload_n (pc' := 7) rfl rfl rfl ?_
        refine x_icmp_n (a' := 21) (pc' := 10) (z := decide (999 < u)) rfl rfl rfl (ik_le _ _) (fun q6 => ?_) (fun q6 => ?_)
        · refine x_ret rfl ?_
          refine sK_v (pc' := 23) rfl ?_
          refine x_aload (pc' := 25) rfl rfl rfl rfl rfl ?_
          refine x_iload_n (pc' := 26) rfl rfl rfl ?_
          refine x_pI (pc' := 29) rfl rfl rfl ?_
          refine x_aload (pc' := 31) rfl rfl rfl rfl rfl ?_
          refine x_iload_n (pc' := 32) rfl rfl rfl ?_
          refine x_pI (pc' := 35) rfl rfl rfl ?_
          refine x_ret rfl ?_
          exact k2 (of_decide_eq_false q3) (of_decide_eq_false q4) (of_decide_eq_false q5) (of_decide_eq_false q6)
        · refine x_throw rfl rfl ?_
          refine sK_n (by decide +kernel) rfl ?_
          exact k3 (of_decide_eq_false q3) (of_decide_eq_false q4) (of_decide_eq_false q5) (of_decide_eq_true q6)
    · refine x_throw rfl rfl ?_
      refine sK_n (by decide +kernel) rfl ?_
      exact k4 (of_decide_eq_false q3) (of_decide_eq_true q4)
set_option maxHeartbeats 4000000 in
set_option maxRecDepth 10000 in
theorem n88_x0 {t : sT} {Q : sRs → sT → Prop} {M : sM} {n : Nat} {T : Nat} {L0 : List Nat} {A : Nat} {B : Nat} {x : Int32} {p : Int32} {u : Int32}
    (hW : Wc t M n T L0 A B)
    (hp : ixo x 3 = none)
    (k0 : Q (.inr 0) (sThr t)) :
    X 88 0 [.inr (.inr (11, (some 0))), .inl x, .inl p, .inl u, sJk] [] t Q := by
  obtain ⟨hM, hc, hR, hC, hL, hL9⟩ := hW
  refine x_aload_n (pc' := 1) rfl rfl rfl rfl rfl ?_
  refine x_iload_n (pc' := 2) rfl rfl rfl ?_
  refine x_cv (ls0 := [_, _]) (rest := []) rfl rfl rfl rfl rfl ?_
  refine b132_x ⟨hM, hc, hR, hC, hL, hL9⟩ hp ?_
  refine sK_n (by decide +kernel) rfl ?_
  exact k0
set_option maxHeartbeats 4000000 in
set_option maxRecDepth 10000 in
theorem n89 {t : sT} {Q : sRs → sT → Prop} {M : sM} {n : Nat} {T : Nat} {L0 : List Nat} {A : Nat} {B : Nat} {m : Nat} {p : Int32}
    (hW : Wc t M n T L0 A B)
    (hm : m < 6)
    (k0 : p < (-1000000) → Q (.inr 1) (sThr t))
    (k1 : ¬ (p < (-1000000)) → ¬ (1000000 < p) → (mB M 2 m) = true → Q (.inr 2) (sThr t))
    (k2 : ¬ (p < (-1000000)) → ¬ (1000000 < p) → (mB M 2 m) = false → ((mA M 4 m) + p) < 0 → Q (.inr 2) (sThr t))
    (k3 : ¬ (p < (-1000000)) → ¬ (1000000 < p) → (mB M 2 m) = false → ¬ (((mA M 4 m) + p) < 0) → 100000000 < ((mA M 4 m) + p) → Q (.inr 2) (sThr t))
    (k4 : ¬ (p < (-1000000)) → ¬ (1000000 < p) → (mB M 2 m) = false → ¬ (((mA M 4 m) + p) < 0) → ¬ (100000000 < ((mA M 4 m) + p)) → ¬ (p < 0) → Q (.inl (some (.inl ((mA M 4 m) + p)))) (sIw t 450 m ((mA M 4 m) + p)))
    (k5 : ¬ (p < (-1000000)) → ¬ (1000000 < p) → (mB M 2 m) = false → ¬ (((mA M 4 m) + p) < 0) → ¬ (100000000 < ((mA M 4 m) + p)) → p < 0 → X 137 0 [.inr (.inr (11, (some 0))), .inr (.inr (7, (some m)))] [] t (sK 137 89 55 [.inr (.inr (11, (some 0))), .inl (io m), .inl p, .inr (.inr (7, (some m))), .inl ((mA M 4 m) + p)] [] Q))
    (k6 : ¬ (p < (-1000000)) → 1000000 < p → Q (.inr 1) (sThr t)) :
    X 89 0 [.inr (.inr (11, (some 0))), .inl (io m), .inl p, sJk, sJk] [] t Q := by
  obtain ⟨hM, hc, hR, hC, hL, hL9⟩ := hW
  refine x_aload_n (pc' := 1) rfl rfl rfl rfl rfl ?_
  refine x_iload_n (pc' := 2) rfl rfl rfl ?_
  refine x_cv (ls0 := [_, _]) (rest := []) rfl rfl rfl rfl rfl ?_
  refine x_iload_n (pc' := 1) rfl rfl rfl ?_
  refine x_if (a' := 16) (pc' := 4) (z := decide (m < 0)) rfl rfl rfl (ic_lt (p := m) (q := 0) (gm31 hm) (by decide)) (fun h => absurd (of_decide_eq_true h) (by first | decide | omega | simp)) (fun _ => ?_)
  refine x_iload_n (pc' := 5) rfl rfl rfl ?_
  refine x_aload_n (pc' := 6) rfl rfl rfl rfl rfl ?_
  refine x_gR (pc' := 9) (r := (some 0)) rfl rfl rfl (kR_704_0 hc.1) ?_
  refine x_gR (pc' := 12) (r := (some 0)) rfl rfl rfl (kR_321_0 hc.1) ?_
  refine x_alen (pc' := 13) (N := 6) rfl rfl rfl (kN_26_0 hc.1) (?_ : X _ _ _ (.inl 6 :: _) _ _)
  refine x_icmp (a' := 27) (pc' := 16) (z := decide (m < 6)) rfl rfl rfl (ic_lt (p := m) (q := 6) (gm31 hm) (by decide)) (fun _ => ?_) (fun h => absurd hm (of_decide_eq_false h))
  refine x_aload_n (pc' := 28) rfl rfl rfl rfl rfl ?_
  refine x_gR (pc' := 31) (r := (some 0)) rfl rfl rfl (kR_704_0 hc.1) ?_
  refine x_gR (pc' := 34) (r := (some 0)) rfl rfl rfl (kR_321_0 hc.1) ?_
  refine x_iload_n (pc' := 35) rfl rfl rfl ?_
  refine x_aald (pc' := 36) (N := 6) (k' := 7) (r := (some m)) rfl rfl rfl (kN_26_0 hc.1) (io_in (p := m) (N := 6) hm (by decide)) (Eq.trans (congrArg (sE t 26 0) (nn_io (p := m) (Nat.lt_trans hm (by decide)))) (kM hc.1 hm)) ?_
  refine x_reta rfl rfl ?_
  refine sK_i (pc' := 5) rfl ?_
  refine x_astore_n (pc' := 6) (ls' := [_, _, _, _, _]) rfl rfl rfl rfl rfl ?_
  refine x_iload_n (pc' := 7) rfl rfl rfl ?_
  refine x_ldc (pc' := 9) rfl rfl ?_
  refine x_ldc (pc' := 11) rfl rfl ?_
  refine x_cs (ls0 := [_, _, _]) (rest := []) rfl rfl rfl rfl ?_
  refine x_iload_n (pc' := 1) rfl rfl rfl ?_
  refine x_iload_n (pc' := 2) rfl rfl rfl ?_
  refine x_icmp (a' := 10) (pc' := 5) (z := decide (p < (-1000000))) rfl rfl rfl rfl (fun q3 => ?_) (fun q3 => ?_)
  · refine x_throw rfl rfl ?_
    refine sK_n (by decide +kernel) rfl ?_
    exact k0 (of_decide_eq_true q3)
  · refine x_iload_n (pc' := 6) rfl rfl rfl ?_
    refine x_iload_n (pc' := 7) rfl rfl rfl ?_
    refine x_icmp_n (a' := 21) (pc' := 10) (z := decide (1000000 < p)) rfl rfl rfl (ik_le _ _) (fun q4 => ?_) (fun q4 => ?_)
    · refine x_ret rfl ?_
      refine sK_v (pc' := 14) rfl ?_
      refine x_aload_n (pc' := 15) rfl rfl rfl rfl rfl ?_
      refine x_gI (pc' := 18) (x := (mA M 4 m)) rfl rfl rfl (kA hM rfl hm) ?_
      refine x_iload_n (pc' := 19) rfl rfl rfl ?_
      refine x_iadd (pc' := 20) (z := ((mA M 4 m) + p)) rfl rfl rfl ?_
      refine x_istore (pc' := 22) (ls' := [_, _, _, _, _]) rfl rfl rfl rfl ?_
      refine x_aload_n (pc' := 23) rfl rfl rfl rfl rfl ?_
      refine x_gZ (pc' := 26) (z := (mB M 2 m)) rfl rfl rfl (kZ hM rfl hm) ?_
      refine x_ifne_z (a' := 45) (pc' := 29) (z := (mB M 2 m)) rfl rfl rfl (fun q5 => ?_) (fun q5 => ?_)
      · refine x_iconst (pc' := 46) rfl rfl ?_
        refine x_cs (ls0 := [_]) (rest := []) rfl rfl rfl rfl ?_
        refine x_iload_n (pc' := 1) rfl rfl rfl ?_
        refine x_if (a' := 15) (pc' := 4) (z := false) rfl rfl rfl (by decide) (fun h => by cases h) (fun _ => ?_)
        refine x_throw rfl rfl ?_
        refine sK_n (by decide +kernel) rfl ?_
        exact k1 (of_decide_eq_false q3) (of_decide_eq_false q4) q5
      · refine x_iload (pc' := 31) rfl rfl rfl ?_
        refine x_if (a' := 45) (pc' := 34) (z := decide (((mA M 4 m) + p) < 0)) rfl rfl rfl rfl (fun q7 => ?_) (fun q7 => ?_)
        · refine x_iconst (pc' := 46) rfl rfl ?_
          refine x_cs (ls0 := [_]) (rest := []) rfl rfl rfl rfl ?_
          refine x_iload_n (pc' := 1) rfl rfl rfl ?_
          refine x_if (a' := 15) (pc' := 4) (z := false) rfl rfl rfl (by decide) (fun h => by cases h) (fun _ => ?_)
          refine x_throw rfl rfl ?_
          refine sK_n (by decide +kernel) rfl ?_
          exact k2 (of_decide_eq_false q3) (of_decide_eq_false q4) q5 (of_decide_eq_true q7)
        · refine x_iload (pc' := 36) rfl rfl rfl ?_
          refine x_ldc (pc' := 38) rfl rfl ?_
          refine x_icmp (a' := 45) (pc' := 41) (z := decide (100000000 < ((mA M 4 m) + p))) rfl rfl rfl rfl (fun q9 => ?_) (fun q9 => ?_)
          · refine x_iconst (pc' := 46) rfl rfl ?_
            refine x_cs (ls0 := [_]) (rest := []) rfl rfl rfl rfl ?_
            refine x_iload_n (pc' := 1) rfl rfl rfl ?_
            refine x_if (a' := 15) (pc' := 4) (z := false) rfl rfl rfl (by decide) (fun h => by cases h) (fun _ => ?_)
            refine x_throw rfl rfl ?_
            refine sK_n (by decide +kernel) rfl ?_
            exact k3 (of_decide_eq_false q3) (of_decide_eq_false q4) q5 (of_decide_eq_false q7) (of_decide_eq_true q9)
          · refine x_iconst (pc' := 42) rfl rfl ?_
            refine x_goto (pc' := 46) rfl rfl ?_
            refine x_cs (ls0 := [_]) (rest := []) rfl rfl rfl rfl ?_
            refine x_iload_n (pc' := 1) rfl rfl rfl ?_
            refine x_if (a' := 15) (pc' := 4) (z := true) rfl rfl rfl (by decide) (fun _ => ?_) (fun h => by cases h)
            refine x_ret rfl ?_
            refine sK_v (pc' := 49) rfl ?_
            refine x_iload_n (pc' := 50) rfl rfl rfl ?_
            refine x_if_n (a' := 71) (pc' := 53) (z := decide (p < 0)) rfl rfl rfl (ik_ge _ _) (fun q12 => ?_) (fun q12 => ?_)
            · refine x_iconst (pc' := 72) rfl rfl ?_
              refine x_goto (pc' := 76) rfl rfl ?_
              refine x_cs (ls0 := [_]) (rest := []) rfl rfl rfl rfl ?_
              refine x_iload_n (pc' := 1) rfl rfl rfl ?_
              refine x_if (a' := 15) (pc' := 4) (z := true) rfl rfl rfl (by decide) (fun _ => ?_) (fun h => by cases h)
              refine x_ret rfl ?_
              refine sK_v (pc' := 79) rfl ?_
              refine x_aload_n (pc' := 80) rfl rfl rfl rfl rfl ?_
              refine x_iload (pc' := 82) rfl rfl rfl ?_
              refine x_pI (pc' := 85) rfl rfl rfl ?_
              refine x_iload (pc' := 87) rfl rfl rfl ?_
              refine x_reti rfl rfl ?_
              exact k4 (of_decide_eq_false q3) (of_decide_eq_false q4) q5 (of_decide_eq_false q7) (of_decide_eq_false q9) (of_decide_eq_false q12)
            · refine x_aload_n (pc' := 54) rfl rfl rfl rfl rfl ?_
              refine x_aload_n (pc' := 55) rfl rfl rfl rfl rfl ?_
              refine x_cv (ls0 := [_, _]) (rest := []) rfl rfl rfl rfl rfl ?_
              exact k5 (of_decide_eq_false q3) (of_decide_eq_false q4) q5 (of_decide_eq_false q7) (of_decide_eq_false q9) (of_decide_eq_true q12)
    · refine x_throw rfl rfl ?_
      refine sK_n (by decide +kernel) rfl ?_
      exact k6 (of_decide_eq_false q3) (of_decide_eq_true q4)
set_option maxHeartbeats 4000000 in
set_option maxRecDepth 10000 in
theorem n89_x0 {t : sT} {Q : sRs → sT → Prop} {M : sM} {n : Nat} {T : Nat} {L0 : List Nat} {A : Nat} {B : Nat} {x : Int32} {p : Int32}
    (hW : Wc t M n T L0 A B)
    (hp : ixo x 6 = none)
    (k0 : Q (.inr 0) (sThr t)) :
    X 89 0 [.inr (.inr (11, (some 0))), .inl x, .inl p, sJk, sJk] [] t Q := by
  obtain ⟨hM, hc, hR, hC, hL, hL9⟩ := hW
  refine x_aload_n (pc' := 1) rfl rfl rfl rfl rfl ?_
  refine x_iload_n (pc' := 2) rfl rfl rfl ?_
  refine x_cv (ls0 := [_, _]) (rest := []) rfl rfl rfl rfl rfl ?_
  refine b131_x ⟨hM, hc, hR, hC, hL, hL9⟩ hp ?_
  refine sK_n (by decide +kernel) rfl ?_
  exact k0
set_option maxHeartbeats 4000000 in
set_option maxRecDepth 10000 in
theorem n90 {t : sT} {Q : sRs → sT → Prop} {M : sM} {n : Nat} {T : Nat} {L0 : List Nat} {A : Nat} {B : Nat} {m : Nat} {p : Int32}
    (hW : Wc t M n T L0 A B)
    (hm : m < 6)
    (k0 : p < 0 → Q (.inr 1) (sThr t))
    (k1 : ¬ (p < 0) → ¬ (1000000 < p) → (mB M 2 m) = true → Q (.inr 2) (sThr t))
    (k2 : ¬ (p < 0) → ¬ (1000000 < p) → (mB M 2 m) = false → Q (.inl (some (.inl (mA M 7 m)))) (sIw t 452 m p))
    (k3 : ¬ (p < 0) → 1000000 < p → Q (.inr 1) (sThr t)) :
    X 90 0 [.inr (.inr (11, (some 0))), .inl (io m), .inl p, sJk, sJk] [] t Q := by
  obtain ⟨hM, hc, hR, hC, hL, hL9⟩ := hW
  refine x_aload_n (pc' := 1) rfl rfl rfl rfl rfl ?_
  refine x_iload_n (pc' := 2) rfl rfl rfl ?_
  refine x_cv (ls0 := [_, _]) (rest := []) rfl rfl rfl rfl rfl ?_
  refine x_iload_n (pc' := 1) rfl rfl rfl ?_
  refine x_if (a' := 16) (pc' := 4) (z := decide (m < 0)) rfl rfl rfl (ic_lt (p := m) (q := 0) (gm31 hm) (by decide)) (fun h => absurd (of_decide_eq_true h) (by first | decide | omega | simp)) (fun _ => ?_)
  refine x_iload_n (pc' := 5) rfl rfl rfl ?_
  refine x_aload_n (pc' := 6) rfl rfl rfl rfl rfl ?_
  refine x_gR (pc' := 9) (r := (some 0)) rfl rfl rfl (kR_704_0 hc.1) ?_
  refine x_gR (pc' := 12) (r := (some 0)) rfl rfl rfl (kR_321_0 hc.1) ?_
  refine x_alen (pc' := 13) (N := 6) rfl rfl rfl (kN_26_0 hc.1) (?_ : X _ _ _ (.inl 6 :: _) _ _)
  refine x_icmp (a' := 27) (pc' := 16) (z := decide (m < 6)) rfl rfl rfl (ic_lt (p := m) (q := 6) (gm31 hm) (by decide)) (fun _ => ?_) (fun h => absurd hm (of_decide_eq_false h))
  refine x_aload_n (pc' := 28) rfl rfl rfl rfl rfl ?_
  refine x_gR (pc' := 31) (r := (some 0)) rfl rfl rfl (kR_704_0 hc.1) ?_
  refine x_gR (pc' := 34) (r := (some 0)) rfl rfl rfl (kR_321_0 hc.1) ?_
  refine x_iload_n (pc' := 35) rfl rfl rfl ?_
  refine x_aald (pc' := 36) (N := 6) (k' := 7) (r := (some m)) rfl rfl rfl (kN_26_0 hc.1) (io_in (p := m) (N := 6) hm (by decide)) (Eq.trans (congrArg (sE t 26 0) (nn_io (p := m) (Nat.lt_trans hm (by decide)))) (kM hc.1 hm)) ?_
  refine x_reta rfl rfl ?_
  refine sK_i (pc' := 5) rfl ?_
  refine x_astore_n (pc' := 6) (ls' := [_, _, _, _, _]) rfl rfl rfl rfl rfl ?_
  refine x_iload_n (pc' := 7) rfl rfl rfl ?_
  refine x_iconst (pc' := 8) rfl rfl ?_
  refine x_ldc (pc' := 10) rfl rfl ?_
  refine x_cs (ls0 := [_, _, _]) (rest := []) rfl rfl rfl rfl ?_
  refine x_iload_n (pc' := 1) rfl rfl rfl ?_
  refine x_iload_n (pc' := 2) rfl rfl rfl ?_
  refine x_icmp (a' := 10) (pc' := 5) (z := decide (p < 0)) rfl rfl rfl rfl (fun q3 => ?_) (fun q3 => ?_)
  · refine x_throw rfl rfl ?_
    refine sK_n (by decide +kernel) rfl ?_
    exact k0 (of_decide_eq_true q3)
  · refine x_iload_n (pc' := 6) rfl rfl rfl ?_
    refine x_iload_n (pc' := 7) rfl rfl rfl ?_
    refine x_icmp_n (a' := 21) (pc' := 10) (z := decide (1000000 < p)) rfl rfl rfl (ik_le _ _) (fun q4 => ?_) (fun q4 => ?_)
    · refine x_ret rfl ?_
      refine sK_v (pc' := 13) rfl ?_
      refine x_aload_n (pc' := 14) rfl rfl rfl rfl rfl ?_
      refine x_gZ (pc' := 17) (z := (mB M 2 m)) rfl rfl rfl (kZ hM rfl hm) ?_
      refine x_ifne_z (a' := 24) (pc' := 20) (z := (mB M 2 m)) rfl rfl rfl (fun q5 => ?_) (fun q5 => ?_)
      · refine x_iconst (pc' := 25) rfl rfl ?_
        refine x_cs (ls0 := [_]) (rest := []) rfl rfl rfl rfl ?_
        refine x_iload_n (pc' := 1) rfl rfl rfl ?_
        refine x_if (a' := 15) (pc' := 4) (z := false) rfl rfl rfl (by decide) (fun h => by cases h) (fun _ => ?_)
        refine x_throw rfl rfl ?_
        refine sK_n (by decide +kernel) rfl ?_
        exact k1 (of_decide_eq_false q3) (of_decide_eq_false q4) q5
      · refine x_iconst (pc' := 21) rfl rfl ?_
        refine x_goto (pc' := 25) rfl rfl ?_
        refine x_cs (ls0 := [_]) (rest := []) rfl rfl rfl rfl ?_
        refine x_iload_n (pc' := 1) rfl rfl rfl ?_
        refine x_if (a' := 15) (pc' := 4) (z := true) rfl rfl rfl (by decide) (fun _ => ?_) (fun h => by cases h)
        refine x_ret rfl ?_
        refine sK_v (pc' := 28) rfl ?_
        refine x_aload_n (pc' := 29) rfl rfl rfl rfl rfl ?_
        refine x_gI (pc' := 32) (x := (mA M 7 m)) rfl rfl rfl (kA hM rfl hm) ?_
        refine x_istore (pc' := 34) (ls' := [_, _, _, _, _]) rfl rfl rfl rfl ?_
        refine x_aload_n (pc' := 35) rfl rfl rfl rfl rfl ?_
        refine x_iload_n (pc' := 36) rfl rfl rfl ?_
        refine x_pI (pc' := 39) rfl rfl rfl ?_
        refine x_iload (pc' := 41) rfl rfl rfl ?_
        refine x_reti rfl rfl ?_
        exact k2 (of_decide_eq_false q3) (of_decide_eq_false q4) q5
    · refine x_throw rfl rfl ?_
      refine sK_n (by decide +kernel) rfl ?_
      exact k3 (of_decide_eq_false q3) (of_decide_eq_true q4)
set_option maxHeartbeats 4000000 in
set_option maxRecDepth 10000 in
theorem n90_x0 {t : sT} {Q : sRs → sT → Prop} {M : sM} {n : Nat} {T : Nat} {L0 : List Nat} {A : Nat} {B : Nat} {x : Int32} {p : Int32}
    (hW : Wc t M n T L0 A B)
    (hp : ixo x 6 = none)
    (k0 : Q (.inr 0) (sThr t)) :
    X 90 0 [.inr (.inr (11, (some 0))), .inl x, .inl p, sJk, sJk] [] t Q := by
  obtain ⟨hM, hc, hR, hC, hL, hL9⟩ := hW
  refine x_aload_n (pc' := 1) rfl rfl rfl rfl rfl ?_
  refine x_iload_n (pc' := 2) rfl rfl rfl ?_
  refine x_cv (ls0 := [_, _]) (rest := []) rfl rfl rfl rfl rfl ?_
  refine b131_x ⟨hM, hc, hR, hC, hL, hL9⟩ hp ?_
  refine sK_n (by decide +kernel) rfl ?_
  exact k0
set_option maxHeartbeats 4000000 in
set_option maxRecDepth 10000 in
theorem n91 {t : sT} {Q : sRs → sT → Prop} {M : sM} {n : Nat} {T : Nat} {L0 : List Nat} {A : Nat} {B : Nat} {p : Int32}
    (hW : Wc t M n T L0 A B)
    (k0 : p < 0 → Q (.inr 1) (sThr t))
    (k1 : ¬ (p < 0) → ¬ (1000000 < p) → Q (.inl (some (.inl (mI M 784)))) (sIw t 324 0 p))
    (k2 : ¬ (p < 0) → 1000000 < p → Q (.inr 1) (sThr t)) :
    X 91 0 [.inr (.inr (11, (some 0))), .inl p, sJk] [] t Q := by
  obtain ⟨hM, hc, hR, hC, hL, hL9⟩ := hW
  refine x_iload_n (pc' := 1) rfl rfl rfl ?_
  refine x_iconst (pc' := 2) rfl rfl ?_
  refine x_ldc (pc' := 4) rfl rfl ?_
  refine x_cs (ls0 := [_, _, _]) (rest := []) rfl rfl rfl rfl ?_
  refine x_iload_n (pc' := 1) rfl rfl rfl ?_
  refine x_iload_n (pc' := 2) rfl rfl rfl ?_
  refine x_icmp (a' := 10) (pc' := 5) (z := decide (p < 0)) rfl rfl rfl rfl (fun q1 => ?_) (fun q1 => ?_)
  · refine x_throw rfl rfl ?_
    refine sK_n (by decide +kernel) rfl ?_
    exact k0 (of_decide_eq_true q1)
  · refine x_iload_n (pc' := 6) rfl rfl rfl ?_
    refine x_iload_n (pc' := 7) rfl rfl rfl ?_
    refine x_icmp_n (a' := 21) (pc' := 10) (z := decide (1000000 < p)) rfl rfl rfl (ik_le _ _) (fun q2 => ?_) (fun q2 => ?_)
    · refine x_ret rfl ?_
      refine sK_v (pc' := 7) rfl ?_
      refine x_aload_n (pc' := 8) rfl rfl rfl rfl rfl ?_
      refine x_gR (pc' := 11) (r := (some 0)) rfl rfl rfl (kR_704_0 hc.1) ?_
      refine x_gI (pc' := 14) (x := (mI M 784)) rfl rfl rfl (kS hM rfl) ?_
      refine x_istore_n (pc' := 15) (ls' := [_, _, _]) rfl rfl rfl rfl ?_
      refine x_aload_n (pc' := 16) rfl rfl rfl rfl rfl ?_
      refine x_gR (pc' := 19) (r := (some 0)) rfl rfl rfl (kR_704_0 hc.1) ?_
      refine x_iload_n (pc' := 20) rfl rfl rfl ?_
      refine x_pI (pc' := 23) rfl rfl rfl ?_
      refine x_iload_n (pc' := 24) rfl rfl rfl ?_
      refine x_reti rfl rfl ?_
      exact k1 (of_decide_eq_false q1) (of_decide_eq_false q2)
    · refine x_throw rfl rfl ?_
      refine sK_n (by decide +kernel) rfl ?_
      exact k2 (of_decide_eq_false q1) (of_decide_eq_true q2)
set_option maxHeartbeats 4000000 in
set_option maxRecDepth 10000 in
theorem n92 {t : sT} {Q : sRs → sT → Prop} {M : sM} {n : Nat} {T : Nat} {L0 : List Nat} {A : Nat} {B : Nat} {m : Nat} {p : Int32}
    (hW : Wc t M n T L0 A B)
    (hm : m < 6)
    (k0 : p < 0 → Q (.inr 1) (sThr t))
    (k1 : ¬ (p < 0) → ¬ (1000 < p) → Q (.inl (some (.inl (mA M 8 m)))) (sIw t 453 m p))
    (k2 : ¬ (p < 0) → 1000 < p → Q (.inr 1) (sThr t)) :
    X 92 0 [.inr (.inr (11, (some 0))), .inl (io m), .inl p, sJk, sJk] [] t Q := by
  obtain ⟨hM, hc, hR, hC, hL, hL9⟩ := hW
  refine x_aload_n (pc' := 1) rfl rfl rfl rfl rfl ?_
  refine x_iload_n (pc' := 2) rfl rfl rfl ?_
  refine x_cv (ls0 := [_, _]) (rest := []) rfl rfl rfl rfl rfl ?_
  refine x_iload_n (pc' := 1) rfl rfl rfl ?_
  refine x_if (a' := 16) (pc' := 4) (z := decide (m < 0)) rfl rfl rfl (ic_lt (p := m) (q := 0) (gm31 hm) (by decide)) (fun h => absurd (of_decide_eq_true h) (by first | decide | omega | simp)) (fun _ => ?_)
  refine x_iload_n (pc' := 5) rfl rfl rfl ?_
  refine x_aload_n (pc' := 6) rfl rfl rfl rfl rfl ?_
  refine x_gR (pc' := 9) (r := (some 0)) rfl rfl rfl (kR_704_0 hc.1) ?_
  refine x_gR (pc' := 12) (r := (some 0)) rfl rfl rfl (kR_321_0 hc.1) ?_
  refine x_alen (pc' := 13) (N := 6) rfl rfl rfl (kN_26_0 hc.1) (?_ : X _ _ _ (.inl 6 :: _) _ _)
  refine x_icmp (a' := 27) (pc' := 16) (z := decide (m < 6)) rfl rfl rfl (ic_lt (p := m) (q := 6) (gm31 hm) (by decide)) (fun _ => ?_) (fun h => absurd hm (of_decide_eq_false h))
  refine x_aload_n (pc' := 28) rfl rfl rfl rfl rfl ?_
  refine x_gR (pc' := 31) (r := (some 0)) rfl rfl rfl (kR_704_0 hc.1) ?_
  refine x_gR (pc' := 34) (r := (some 0)) rfl rfl rfl (kR_321_0 hc.1) ?_
  refine x_iload_n (pc' := 35) rfl rfl rfl ?_
  refine x_aald (pc' := 36) (N := 6) (k' := 7) (r := (some m)) rfl rfl rfl (kN_26_0 hc.1) (io_in (p := m) (N := 6) hm (by decide)) (Eq.trans (congrArg (sE t 26 0) (nn_io (p := m) (Nat.lt_trans hm (by decide)))) (kM hc.1 hm)) ?_
  refine x_reta rfl rfl ?_
  refine sK_i (pc' := 5) rfl ?_
  refine x_astore_n (pc' := 6) (ls' := [_, _, _, _, _]) rfl rfl rfl rfl rfl ?_
  refine x_iload_n (pc' := 7) rfl rfl rfl ?_
  refine x_iconst (pc' := 8) rfl rfl ?_
  refine x_sipush (pc' := 11) rfl rfl ?_
  refine x_cs (ls0 := [_, _, _]) (rest := []) rfl rfl rfl rfl ?_
  refine x_iload_n (pc' := 1) rfl rfl rfl ?_
  refine x_iload_n (pc' := 2) rfl rfl rfl ?_
  refine x_icmp (a' := 10) (pc' := 5) (z := decide (p < 0)) rfl rfl rfl rfl (fun q3 => ?_) (fun q3 => ?_)
  · refine x_throw rfl rfl ?_
    refine sK_n (by decide +kernel) rfl ?_
    exact k0 (of_decide_eq_true q3)
  · refine x_iload_n (pc' := 6) rfl rfl rfl ?_
    refine x_iload_n (pc' := 7) rfl rfl rfl ?_
    refine x_icmp_n (a' := 21) (pc' := 10) (z := decide (1000 < p)) rfl rfl rfl (ik_le _ _) (fun q4 => ?_) (fun q4 => ?_)
    · refine x_ret rfl ?_
      refine sK_v (pc' := 14) rfl ?_
      refine x_aload_n (pc' := 15) rfl rfl rfl rfl rfl ?_
      refine x_gI (pc' := 18) (x := (mA M 8 m)) rfl rfl rfl (kA hM rfl hm) ?_
      refine x_istore (pc' := 20) (ls' := [_, _, _, _, _]) rfl rfl rfl rfl ?_
      refine x_aload_n (pc' := 21) rfl rfl rfl rfl rfl ?_
      refine x_iload_n (pc' := 22) rfl rfl rfl ?_
      refine x_pI (pc' := 25) rfl rfl rfl ?_
      refine x_iload (pc' := 27) rfl rfl rfl ?_
      refine x_reti rfl rfl ?_
      exact k1 (of_decide_eq_false q3) (of_decide_eq_false q4)
    · refine x_throw rfl rfl ?_
      refine sK_n (by decide +kernel) rfl ?_
      exact k2 (of_decide_eq_false q3) (of_decide_eq_true q4)
set_option maxHeartbeats 4000000 in
set_option maxRecDepth 10000 in
theorem n92_x0 {t : sT} {Q : sRs → sT → Prop} {M : sM} {n : Nat} {T : Nat} {L0 : List Nat} {A : Nat} {B : Nat} {x : Int32} {p : Int32}
    (hW : Wc t M n T L0 A B)
    (hp : ixo x 6 = none)
    (k0 : Q (.inr 0) (sThr t)) :
    X 92 0 [.inr (.inr (11, (some 0))), .inl x, .inl p, sJk, sJk] [] t Q := by
  obtain ⟨hM, hc, hR, hC, hL, hL9⟩ := hW
  refine x_aload_n (pc' := 1) rfl rfl rfl rfl rfl ?_
  refine x_iload_n (pc' := 2) rfl rfl rfl ?_
  refine x_cv (ls0 := [_, _]) (rest := []) rfl rfl rfl rfl rfl ?_
  refine b131_x ⟨hM, hc, hR, hC, hL, hL9⟩ hp ?_
  refine sK_n (by decide +kernel) rfl ?_
  exact k0
set_option maxHeartbeats 4000000 in
set_option maxRecDepth 10000 in
theorem n93 {t : sT} {Q : sRs → sT → Prop} {M : sM} {n : Nat} {T : Nat} {L0 : List Nat} {A : Nat} {B : Nat} {k : Nat} {c : Nat} {p : Int32}
    (hW : Wc t M n T L0 A B)
    (hk : k < 6)
    (hc3 : c < 3)
    (k0 : p < (-500) → Q (.inr 1) (sThr t))
    (k1 : ¬ (p < (-500)) → ¬ (500 < p) → Q (.inl (some (.inl (mA M 11 ((k * 3) + c))))) (sAw t 20 0 ((k * 3) + c) p))
    (k2 : ¬ (p < (-500)) → 500 < p → Q (.inr 1) (sThr t)) :
    X 93 0 [.inr (.inr (11, (some 0))), .inl (io k), .inl (io c), .inl p, sJk] [] t Q := by
  obtain ⟨hM, hc, hR, hC, hL, hL9⟩ := hW
  refine x_iload_n (pc' := 1) rfl rfl rfl ?_
  refine x_bipush (pc' := 3) rfl rfl ?_
  refine x_cs (ls0 := [_, _]) (rest := []) rfl rfl rfl rfl ?_
  refine x_iload_n (pc' := 1) rfl rfl rfl ?_
  refine x_if (a' := 9) (pc' := 4) (z := decide (k < 0)) rfl rfl rfl (ic_lt (p := k) (q := 0) (gm31 hk) (by decide)) (fun h => absurd (of_decide_eq_true h) (by first | decide | omega | simp)) (fun _ => ?_)
  refine x_iload_n (pc' := 5) rfl rfl rfl ?_
  refine x_iload_n (pc' := 6) rfl rfl rfl ?_
  refine x_icmp (a' := 20) (pc' := 9) (z := decide (k < 6)) rfl rfl rfl (ic_lt (p := k) (q := 6) (gm31 hk) (by decide)) (fun _ => ?_) (fun h => absurd hk (of_decide_eq_false h))
  refine x_ret rfl ?_
  refine sK_v (pc' := 6) rfl ?_
  refine x_iload_n (pc' := 7) rfl rfl rfl ?_
  refine x_iconst (pc' := 8) rfl rfl ?_
  refine x_cs (ls0 := [_, _]) (rest := []) rfl rfl rfl rfl ?_
  refine x_iload_n (pc' := 1) rfl rfl rfl ?_
  refine x_if (a' := 9) (pc' := 4) (z := decide (c < 0)) rfl rfl rfl (ic_lt (p := c) (q := 0) (gc31 hc3) (by decide)) (fun h => absurd (of_decide_eq_true h) (by first | decide | omega | simp)) (fun _ => ?_)
  refine x_iload_n (pc' := 5) rfl rfl rfl ?_
  refine x_iload_n (pc' := 6) rfl rfl rfl ?_
  refine x_icmp (a' := 20) (pc' := 9) (z := decide (c < 3)) rfl rfl rfl (ic_lt (p := c) (q := 3) (gc31 hc3) (by decide)) (fun _ => ?_) (fun h => absurd hc3 (of_decide_eq_false h))
  refine x_ret rfl ?_
  refine sK_v (pc' := 11) rfl ?_
  refine x_iload_n (pc' := 12) rfl rfl rfl ?_
  refine x_sipush (pc' := 15) rfl rfl ?_
  refine x_sipush (pc' := 18) rfl rfl ?_
  refine x_cs (ls0 := [_, _, _]) (rest := []) rfl rfl rfl rfl ?_
  refine x_iload_n (pc' := 1) rfl rfl rfl ?_
  refine x_iload_n (pc' := 2) rfl rfl rfl ?_
  refine x_icmp (a' := 10) (pc' := 5) (z := decide (p < (-500))) rfl rfl rfl rfl (fun q5 => ?_) (fun q5 => ?_)
  · refine x_throw rfl rfl ?_
    refine sK_n (by decide +kernel) rfl ?_
    exact k0 (of_decide_eq_true q5)
  · refine x_iload_n (pc' := 6) rfl rfl rfl ?_
    refine x_iload_n (pc' := 7) rfl rfl rfl ?_
    refine x_icmp_n (a' := 21) (pc' := 10) (z := decide (500 < p)) rfl rfl rfl (ik_le _ _) (fun q6 => ?_) (fun q6 => ?_)
    · refine x_ret rfl ?_
      refine sK_v (pc' := 21) rfl ?_
      refine x_aload_n (pc' := 22) rfl rfl rfl rfl rfl ?_
      refine x_gR (pc' := 25) (r := (some 0)) rfl rfl rfl (kR_704_0 hc.1) ?_
      refine x_iload_n (pc' := 26) rfl rfl rfl ?_
      refine x_iload_n (pc' := 27) rfl rfl rfl ?_
      refine x_cv (ls0 := [_, _, _, sJk]) (rest := []) rfl rfl rfl rfl rfl ?_
      refine x_iload_n (pc' := 1) rfl rfl rfl ?_
      refine x_iconst (pc' := 2) rfl rfl ?_
      refine x_imul (pc' := 3) (z := (io (k * 3))) rfl rfl (io_mul k 3) ?_
      refine x_iload_n (pc' := 4) rfl rfl rfl ?_
      refine x_iadd (pc' := 5) (z := (io ((k * 3) + c))) rfl rfl (io_add (k * 3) c) ?_
      refine x_istore_n (pc' := 6) (ls' := [_, _, _, _]) rfl rfl rfl rfl ?_
      refine x_iload_n (pc' := 7) rfl rfl rfl ?_
      refine x_if (a' := 28) (pc' := 10) (z := decide (((k * 3) + c) < 0)) rfl rfl rfl (ic_lt (p := ((k * 3) + c)) (q := 0) (show k * 3 + c < 2 ^ 31 by omega) (by decide)) (fun h => absurd (of_decide_eq_true h) (by first | decide | omega | simp)) (fun _ => ?_)
      refine x_iload_n (pc' := 11) rfl rfl rfl ?_
      refine x_aload_n (pc' := 12) rfl rfl rfl rfl rfl ?_
      refine x_gR (pc' := 15) (r := (some 0)) rfl rfl rfl (kR_323_0 hc.1) ?_
      refine x_alen (pc' := 16) (N := 18) rfl rfl rfl (kN_20_0 hc.1) (?_ : X _ _ _ (.inl 18 :: _) _ _)
      refine x_icmp_n (a' := 28) (pc' := 19) (z := decide (((k * 3) + c) < 18)) rfl rfl rfl (ic_gen (p := ((k * 3) + c)) (q := 18) (show k * 3 + c < 2 ^ 31 by omega) (by decide)) (fun h => absurd (show k * 3 + c < 18 by omega) (of_decide_eq_false h)) (fun _ => ?_)
      refine x_aload_n (pc' := 20) rfl rfl rfl rfl rfl ?_
      refine x_gR (pc' := 23) (r := (some 0)) rfl rfl rfl (kR_323_0 hc.1) ?_
      refine x_iload_n (pc' := 24) rfl rfl rfl ?_
      refine x_iald (pc' := 25) (N := 18) (x := (mA M 11 ((k * 3) + c))) rfl rfl rfl (kN_20_0 hc.1) (io_in (p := ((k * 3) + c)) (N := 18) (show k * 3 + c < 18 by omega) (by decide)) (Eq.trans (congrArg (sA t 20 0) (nn_io (p := ((k * 3) + c)) (Nat.lt_trans (show k * 3 + c < 18 by omega) (by decide)))) (kV hM (show k * 3 + c < 18 by omega))) ?_
      refine x_goto (pc' := 29) rfl rfl ?_
      refine x_reti rfl rfl ?_
      refine sK_i (pc' := 30) rfl ?_
      refine x_istore (pc' := 32) (ls' := [_, _, _, _, _]) rfl rfl rfl rfl ?_
      refine x_aload_n (pc' := 33) rfl rfl rfl rfl rfl ?_
      refine x_gR (pc' := 36) (r := (some 0)) rfl rfl rfl (kR_704_0 hc.1) ?_
      refine x_iload_n (pc' := 37) rfl rfl rfl ?_
      refine x_iload_n (pc' := 38) rfl rfl rfl ?_
      refine x_iload_n (pc' := 39) rfl rfl rfl ?_
      refine x_cv (ls0 := [_, _, _, _, sJk]) (rest := []) rfl rfl rfl rfl rfl ?_
      refine x_iload_n (pc' := 1) rfl rfl rfl ?_
      refine x_iconst (pc' := 2) rfl rfl ?_
      refine x_imul (pc' := 3) (z := (io (k * 3))) rfl rfl (io_mul k 3) ?_
      refine x_iload_n (pc' := 4) rfl rfl rfl ?_
      refine x_iadd (pc' := 5) (z := (io ((k * 3) + c))) rfl rfl (io_add (k * 3) c) ?_
      refine x_istore (pc' := 7) (ls' := [_, _, _, _, _]) rfl rfl rfl rfl ?_
      refine x_iload (pc' := 9) rfl rfl rfl ?_
      refine x_if (a' := 30) (pc' := 12) (z := decide (((k * 3) + c) < 0)) rfl rfl rfl (ic_lt (p := ((k * 3) + c)) (q := 0) (show k * 3 + c < 2 ^ 31 by omega) (by decide)) (fun h => absurd (of_decide_eq_true h) (by first | decide | omega | simp)) (fun _ => ?_)
      refine x_iload (pc' := 14) rfl rfl rfl ?_
      refine x_aload_n (pc' := 15) rfl rfl rfl rfl rfl ?_
      refine x_gR (pc' := 18) (r := (some 0)) rfl rfl rfl (kR_323_0 hc.1) ?_
      refine x_alen (pc' := 19) (N := 18) rfl rfl rfl (kN_20_0 hc.1) (?_ : X _ _ _ (.inl 18 :: _) _ _)
      refine x_icmp_n (a' := 30) (pc' := 22) (z := decide (((k * 3) + c) < 18)) rfl rfl rfl (ic_gen (p := ((k * 3) + c)) (q := 18) (show k * 3 + c < 2 ^ 31 by omega) (by decide)) (fun h => absurd (show k * 3 + c < 18 by omega) (of_decide_eq_false h)) (fun _ => ?_)
      refine x_aload_n (pc' := 23) rfl rfl rfl rfl rfl ?_
      refine x_gR (pc' := 26) (r := (some 0)) rfl rfl rfl (kR_323_0 hc.1) ?_
      refine x_iload (pc' := 28) rfl rfl rfl ?_
      refine x_iload_n (pc' := 29) rfl rfl rfl ?_
      refine x_iast (pc' := 30) (N := 18) (p := ((k * 3) + c)) rfl rfl rfl (kN_20_0 hc.1) (io_in (p := ((k * 3) + c)) (N := 18) (show k * 3 + c < 18 by omega) (by decide)) (nn_io (p := ((k * 3) + c)) (Nat.lt_trans (show k * 3 + c < 18 by omega) (by decide))) ?_
      refine x_ret rfl ?_
      refine sK_v (pc' := 42) rfl ?_
      refine x_iload (pc' := 44) rfl rfl rfl ?_
      refine x_reti rfl rfl ?_
      exact k1 (of_decide_eq_false q5) (of_decide_eq_false q6)
    · refine x_throw rfl rfl ?_
      refine sK_n (by decide +kernel) rfl ?_
      exact k2 (of_decide_eq_false q5) (of_decide_eq_true q6)
set_option maxHeartbeats 4000000 in
set_option maxRecDepth 10000 in
theorem n93_x0 {t : sT} {Q : sRs → sT → Prop} {M : sM} {n : Nat} {T : Nat} {L0 : List Nat} {A : Nat} {B : Nat} {x : Int32} {x1 : Int32} {p : Int32}
    (hW : Wc t M n T L0 A B)
    (hp : ixo x 6 = none)
    (k0 : Q (.inr 0) (sThr t)) :
    X 93 0 [.inr (.inr (11, (some 0))), .inl x, .inl x1, .inl p, sJk] [] t Q := by
  obtain ⟨hM, hc, hR, hC, hL, hL9⟩ := hW
  refine x_iload_n (pc' := 1) rfl rfl rfl ?_
  refine x_bipush (pc' := 3) rfl rfl ?_
  refine x_cs (ls0 := [_, _]) (rest := []) rfl rfl rfl rfl ?_
  refine b126_x (N := 6) ⟨hM, hc, hR, hC, hL, hL9⟩ (by decide) hp ?_
  refine sK_n (by decide +kernel) rfl ?_
  exact k0
set_option maxHeartbeats 4000000 in
set_option maxRecDepth 10000 in
theorem n93_x1 {t : sT} {Q : sRs → sT → Prop} {M : sM} {n : Nat} {T : Nat} {L0 : List Nat} {A : Nat} {B : Nat} {k : Nat} {x : Int32} {p : Int32}
    (hW : Wc t M n T L0 A B)
    (hk : k < 6)
    (hp : ixo x 3 = none)
    (k0 : Q (.inr 0) (sThr t)) :
    X 93 0 [.inr (.inr (11, (some 0))), .inl (io k), .inl x, .inl p, sJk] [] t Q := by
  obtain ⟨hM, hc, hR, hC, hL, hL9⟩ := hW
  refine x_iload_n (pc' := 1) rfl rfl rfl ?_
  refine x_bipush (pc' := 3) rfl rfl ?_
  refine x_cs (ls0 := [_, _]) (rest := []) rfl rfl rfl rfl ?_
  refine x_iload_n (pc' := 1) rfl rfl rfl ?_
  refine x_if (a' := 9) (pc' := 4) (z := decide (k < 0)) rfl rfl rfl (ic_lt (p := k) (q := 0) (gm31 hk) (by decide)) (fun h => absurd (of_decide_eq_true h) (by first | decide | omega | simp)) (fun _ => ?_)
  refine x_iload_n (pc' := 5) rfl rfl rfl ?_
  refine x_iload_n (pc' := 6) rfl rfl rfl ?_
  refine x_icmp (a' := 20) (pc' := 9) (z := decide (k < 6)) rfl rfl rfl (ic_lt (p := k) (q := 6) (gm31 hk) (by decide)) (fun _ => ?_) (fun h => absurd hk (of_decide_eq_false h))
  refine x_ret rfl ?_
  refine sK_v (pc' := 6) rfl ?_
  refine x_iload_n (pc' := 7) rfl rfl rfl ?_
  refine x_iconst (pc' := 8) rfl rfl ?_
  refine x_cs (ls0 := [_, _]) (rest := []) rfl rfl rfl rfl ?_
  refine b126_x (N := 3) ⟨hM, hc, hR, hC, hL, hL9⟩ (by decide) hp ?_
  refine sK_n (by decide +kernel) rfl ?_
  exact k0
set_option maxHeartbeats 4000000 in
set_option maxRecDepth 10000 in
theorem n98 {t : sT} {Q : sRs → sT → Prop} {M : sM} {n : Nat} {T : Nat} {L0 : List Nat} {A : Nat} {B : Nat} {o : Nat}
    (hW : Wc t M n T L0 A B)
    (ho : o < n)
    (k0 : (mA M 19 o) = 0 → X 30 0 [.inr (.inr (4, (some 0))), .inr (.inr (8, (some o)))] [] t (sK 30 98 18 [.inr (.inr (11, (some 0))), .inl (io o), .inr (.inr (8, (some o)))] [] Q))
    (k1 : ¬ ((mA M 19 o) = 0) → ¬ ((mA M 19 o) = 1) → Q (.inr 2) (sThr t))
    (k2 : ¬ ((mA M 19 o) = 0) → (mA M 19 o) = 1 → X 30 0 [.inr (.inr (4, (some 0))), .inr (.inr (8, (some o)))] [] t (sK 30 98 18 [.inr (.inr (11, (some 0))), .inl (io o), .inr (.inr (8, (some o)))] [] Q)) :
    X 98 0 [.inr (.inr (11, (some 0))), .inl (io o), sJk] [] t Q := by
  obtain ⟨hM, hc, hR, hC, hL, hL9⟩ := hW
  refine x_aload_n (pc' := 1) rfl rfl rfl rfl rfl ?_
  refine x_iload_n (pc' := 2) rfl rfl rfl ?_
  refine x_cv (ls0 := [_, _]) (rest := []) rfl rfl rfl rfl rfl ?_
  refine x_iload_n (pc' := 1) rfl rfl rfl ?_
  refine x_if (a' := 18) (pc' := 4) (z := decide (o < 0)) rfl rfl rfl (ic_lt (p := o) (q := 0) (Nat.lt_trans ho (gn31 hR)) (by decide)) (fun h => absurd (of_decide_eq_true h) (by first | decide | omega | simp)) (fun _ => ?_)
  refine x_iload_n (pc' := 5) rfl rfl rfl ?_
  refine x_aload_n (pc' := 6) rfl rfl rfl rfl rfl ?_
  refine x_gR (pc' := 9) (r := (some 0)) rfl rfl rfl (kR_705_0 hc.1) ?_
  refine x_gR (pc' := 12) (r := (some 1)) rfl rfl rfl (kR_257_0 hc.1) ?_
  refine x_cv (ls0 := [_]) (rest := [_]) rfl rfl rfl rfl rfl ?_
  refine x_aload_n (pc' := 1) rfl rfl rfl rfl rfl ?_
  refine x_gI (pc' := 4) (x := (io n)) rfl rfl rfl (Sf_n hc) ?_
  refine x_reti rfl rfl ?_
  refine sK_i (pc' := 15) rfl ?_
  refine x_icmp (a' := 29) (pc' := 18) (z := decide (o < n)) rfl rfl rfl (ic_lt (p := o) (q := n) (Nat.lt_trans ho (gn31 hR)) (gn31 hR)) (fun _ => ?_) (fun h => absurd ho (of_decide_eq_false h))
  refine x_aload_n (pc' := 30) rfl rfl rfl rfl rfl ?_
  refine x_gR (pc' := 33) (r := (some 0)) rfl rfl rfl (kR_705_0 hc.1) ?_
  refine x_gR (pc' := 36) (r := (some 1)) rfl rfl rfl (kR_257_0 hc.1) ?_
  refine x_iload_n (pc' := 37) rfl rfl rfl ?_
  refine x_cv (ls0 := [_, _]) (rest := []) rfl rfl rfl rfl rfl ?_
  refine Sf_gO hc (Fr.ri (Fr.refl _) hR) ho ?_
  refine sK_i (pc' := 40) rfl ?_
  refine x_cast (pc' := 43) rfl rfl rfl ?_
  refine x_reta rfl rfl ?_
  refine sK_i (pc' := 5) rfl ?_
  refine x_astore_n (pc' := 6) (ls' := [_, _, _]) rfl rfl rfl rfl rfl ?_
  refine x_aload_n (pc' := 7) rfl rfl rfl rfl rfl ?_
  refine x_cv (ls0 := [_]) (rest := []) rfl rfl rfl rfl rfl ?_
  refine x_aload_n (pc' := 1) rfl rfl rfl rfl rfl ?_
  refine x_gI (pc' := 4) (x := (mA M 19 o)) rfl rfl rfl (kA hM rfl ho) ?_
  refine x_if (a' := 15) (pc' := 7) (z := decide ((mA M 19 o) = 0)) rfl rfl rfl rfl (fun q3 => ?_) (fun q3 => ?_)
  · refine x_iconst (pc' := 16) rfl rfl ?_
    refine x_goto (pc' := 20) rfl rfl ?_
    refine x_retz (z := true) rfl rfl ?_
    refine sK_i (pc' := 10) rfl ?_
    refine x_cs (ls0 := [_]) (rest := []) rfl rfl rfl rfl ?_
    refine x_iload_n (pc' := 1) rfl rfl rfl ?_
    refine x_if (a' := 15) (pc' := 4) (z := true) rfl rfl rfl (by decide) (fun _ => ?_) (fun h => by cases h)
    refine x_ret rfl ?_
    refine sK_v (pc' := 13) rfl ?_
    refine x_aload_n (pc' := 14) rfl rfl rfl rfl rfl ?_
    refine x_gR (pc' := 17) (r := (some 0)) rfl rfl rfl (kR_705_0 hc.1) ?_
    refine x_aload_n (pc' := 18) rfl rfl rfl rfl rfl ?_
    refine x_cv (ls0 := [_, _]) (rest := []) rfl rfl rfl rfl rfl ?_
    exact k0 (of_decide_eq_true q3)
  · refine x_aload_n (pc' := 8) rfl rfl rfl rfl rfl ?_
    refine x_gI (pc' := 11) (x := (mA M 19 o)) rfl rfl rfl (kA hM rfl ho) ?_
    refine x_iconst (pc' := 12) rfl rfl ?_
    refine x_icmp_n (a' := 19) (pc' := 15) (z := decide ((mA M 19 o) = 1)) rfl rfl rfl (ik_ne _ _) (fun q5 => ?_) (fun q5 => ?_)
    · refine x_iconst (pc' := 20) rfl rfl ?_
      refine x_retz (z := false) rfl rfl ?_
      refine sK_i (pc' := 10) rfl ?_
      refine x_cs (ls0 := [_]) (rest := []) rfl rfl rfl rfl ?_
      refine x_iload_n (pc' := 1) rfl rfl rfl ?_
      refine x_if (a' := 15) (pc' := 4) (z := false) rfl rfl rfl (by decide) (fun h => by cases h) (fun _ => ?_)
      refine x_throw rfl rfl ?_
      refine sK_n (by decide +kernel) rfl ?_
      exact k1 (of_decide_eq_false q3) (of_decide_eq_false q5)
    · refine x_iconst (pc' := 16) rfl rfl ?_
      refine x_goto (pc' := 20) rfl rfl ?_
      refine x_retz (z := true) rfl rfl ?_
      refine sK_i (pc' := 10) rfl ?_
      refine x_cs (ls0 := [_]) (rest := []) rfl rfl rfl rfl ?_
      refine x_iload_n (pc' := 1) rfl rfl rfl ?_
      refine x_if (a' := 15) (pc' := 4) (z := true) rfl rfl rfl (by decide) (fun _ => ?_) (fun h => by cases h)
      refine x_ret rfl ?_
      refine sK_v (pc' := 13) rfl ?_
      refine x_aload_n (pc' := 14) rfl rfl rfl rfl rfl ?_
      refine x_gR (pc' := 17) (r := (some 0)) rfl rfl rfl (kR_705_0 hc.1) ?_
      refine x_aload_n (pc' := 18) rfl rfl rfl rfl rfl ?_
      refine x_cv (ls0 := [_, _]) (rest := []) rfl rfl rfl rfl rfl ?_
      exact k2 (of_decide_eq_false q3) (of_decide_eq_true q5)
set_option maxHeartbeats 4000000 in
set_option maxRecDepth 10000 in
theorem n98_x0 {t : sT} {Q : sRs → sT → Prop} {M : sM} {n : Nat} {T : Nat} {L0 : List Nat} {A : Nat} {B : Nat} {x : Int32}
    (hW : Wc t M n T L0 A B)
    (hp : ixo x n = none)
    (k0 : Q (.inr 0) (sThr t)) :
    X 98 0 [.inr (.inr (11, (some 0))), .inl x, sJk] [] t Q := by
  obtain ⟨hM, hc, hR, hC, hL, hL9⟩ := hW
  refine x_aload_n (pc' := 1) rfl rfl rfl rfl rfl ?_
  refine x_iload_n (pc' := 2) rfl rfl rfl ?_
  refine x_cv (ls0 := [_, _]) (rest := []) rfl rfl rfl rfl rfl ?_
  refine b134_x ⟨hM, hc, hR, hC, hL, hL9⟩ hp ?_
  refine sK_n (by decide +kernel) rfl ?_
  exact k0
set_option maxHeartbeats 4000000 in
set_option maxRecDepth 10000 in
theorem n99 {t : sT} {Q : sRs → sT → Prop} {M : sM} {n : Nat} {T : Nat} {L0 : List Nat} {A : Nat} {B : Nat} {o : Nat}
    (hW : Wc t M n T L0 A B)
    (ho : o < T)
    (k0 : (mB M 7 o) = true → Q (.inr 2) (sThr t))
    (k1 : (mB M 7 o) = false → (mB M 2 (tB M o)) = true → Q (.inr 2) (sThr t))
    (k2 : (mB M 7 o) = false → (mB M 2 (tB M o)) = false → (mB M 2 (tS M o)) = true → Q (.inr 2) (sThr t))
    (k3 : (mB M 7 o) = false → (mB M 2 (tB M o)) = false → (mB M 2 (tS M o)) = false → X 77 0 [.inr (.inr (9, (some o))), .inl (-(mA M 25 o)), sJk] [] (sZw t 581 o true) (sK 77 99 52 [.inr (.inr (11, (some 0))), .inl (io o), .inr (.inr (9, (some o)))] [] Q)) :
    X 99 0 [.inr (.inr (11, (some 0))), .inl (io o), sJk] [] t Q := by
  obtain ⟨hM, hc, hR, hC, hL, hL9⟩ := hW
  refine x_aload_n (pc' := 1) rfl rfl rfl rfl rfl ?_
  refine x_iload_n (pc' := 2) rfl rfl rfl ?_
  refine x_cv (ls0 := [_, _]) (rest := []) rfl rfl rfl rfl rfl ?_
  refine x_iload_n (pc' := 1) rfl rfl rfl ?_
  refine x_if (a' := 18) (pc' := 4) (z := decide (o < 0)) rfl rfl rfl (ic_lt (p := o) (q := 0) (Nat.lt_trans ho (gT31 hc)) (by decide)) (fun h => absurd (of_decide_eq_true h) (by first | decide | omega | simp)) (fun _ => ?_)
  refine x_iload_n (pc' := 5) rfl rfl rfl ?_
  refine x_aload_n (pc' := 6) rfl rfl rfl rfl rfl ?_
  refine x_gR (pc' := 9) (r := (some 0)) rfl rfl rfl (kR_704_0 hc.1) ?_
  refine x_gR (pc' := 12) (r := (some 0)) rfl rfl rfl (kR_322_0 hc.1) ?_
  refine x_cv (ls0 := [_]) (rest := [_]) rfl rfl rfl rfl rfl ?_
  refine x_aload_n (pc' := 1) rfl rfl rfl rfl rfl ?_
  refine x_gI (pc' := 4) (x := (io T)) rfl rfl rfl (Sf_T hc) ?_
  refine x_reti rfl rfl ?_
  refine sK_i (pc' := 15) rfl ?_
  refine x_icmp (a' := 29) (pc' := 18) (z := decide (o < T)) rfl rfl rfl (ic_lt (p := o) (q := T) (Nat.lt_trans ho (gT31 hc)) (gT31 hc)) (fun _ => ?_) (fun h => absurd ho (of_decide_eq_false h))
  refine x_aload_n (pc' := 30) rfl rfl rfl rfl rfl ?_
  refine x_gR (pc' := 33) (r := (some 0)) rfl rfl rfl (kR_704_0 hc.1) ?_
  refine x_gR (pc' := 36) (r := (some 0)) rfl rfl rfl (kR_322_0 hc.1) ?_
  refine x_iload_n (pc' := 37) rfl rfl rfl ?_
  refine x_cv (ls0 := [_, _]) (rest := []) rfl rfl rfl rfl rfl ?_
  refine Sf_gT hc ho ?_
  refine sK_i (pc' := 40) rfl ?_
  refine x_cast (pc' := 43) rfl rfl rfl ?_
  refine x_reta rfl rfl ?_
  refine sK_i (pc' := 5) rfl ?_
  refine x_astore_n (pc' := 6) (ls' := [_, _, _]) rfl rfl rfl rfl rfl ?_
  refine x_aload_n (pc' := 7) rfl rfl rfl rfl rfl ?_
  refine x_gZ (pc' := 10) (z := (mB M 7 o)) rfl rfl rfl (kZ hM rfl ho) ?_
  refine x_ifne_z (a' := 37) (pc' := 13) (z := (mB M 7 o)) rfl rfl rfl (fun q3 => ?_) (fun q3 => ?_)
  · refine x_iconst (pc' := 38) rfl rfl ?_
    refine x_cs (ls0 := [_]) (rest := []) rfl rfl rfl rfl ?_
    refine x_iload_n (pc' := 1) rfl rfl rfl ?_
    refine x_if (a' := 15) (pc' := 4) (z := false) rfl rfl rfl (by decide) (fun h => by cases h) (fun _ => ?_)
    refine x_throw rfl rfl ?_
    refine sK_n (by decide +kernel) rfl ?_
    exact k0 q3
  · refine x_aload_n (pc' := 14) rfl rfl rfl rfl rfl ?_
    refine x_gR (pc' := 17) (r := (some (tB M o))) rfl rfl rfl (Sf_577 hc ho) ?_
    refine x_gZ (pc' := 20) (z := (mB M 2 (tB M o))) rfl rfl rfl (kZ hM rfl (tBl hc ho)) ?_
    refine x_ifne_z (a' := 37) (pc' := 23) (z := (mB M 2 (tB M o))) rfl rfl rfl (fun q5 => ?_) (fun q5 => ?_)
    · refine x_iconst (pc' := 38) rfl rfl ?_
      refine x_cs (ls0 := [_]) (rest := []) rfl rfl rfl rfl ?_
      refine x_iload_n (pc' := 1) rfl rfl rfl ?_
      refine x_if (a' := 15) (pc' := 4) (z := false) rfl rfl rfl (by decide) (fun h => by cases h) (fun _ => ?_)
      refine x_throw rfl rfl ?_
      refine sK_n (by decide +kernel) rfl ?_
      exact k1 q3 q5
    · refine x_aload_n (pc' := 24) rfl rfl rfl rfl rfl ?_
      refine x_gR (pc' := 27) (r := (some (tS M o))) rfl rfl rfl (Sf_578 hc ho) ?_
      refine x_gZ (pc' := 30) (z := (mB M 2 (tS M o))) rfl rfl rfl (kZ hM rfl (tSl hc ho)) ?_
      refine x_ifne_z (a' := 37) (pc' := 33) (z := (mB M 2 (tS M o))) rfl rfl rfl (fun q7 => ?_) (fun q7 => ?_)
      · refine x_iconst (pc' := 38) rfl rfl ?_
        refine x_cs (ls0 := [_]) (rest := []) rfl rfl rfl rfl ?_
        refine x_iload_n (pc' := 1) rfl rfl rfl ?_
        refine x_if (a' := 15) (pc' := 4) (z := false) rfl rfl rfl (by decide) (fun h => by cases h) (fun _ => ?_)
        refine x_throw rfl rfl ?_
        refine sK_n (by decide +kernel) rfl ?_
        exact k2 q3 q5 q7
      · refine x_iconst (pc' := 34) rfl rfl ?_
        refine x_goto (pc' := 38) rfl rfl ?_
        refine x_cs (ls0 := [_]) (rest := []) rfl rfl rfl rfl ?_
        refine x_iload_n (pc' := 1) rfl rfl rfl ?_
        refine x_if (a' := 15) (pc' := 4) (z := true) rfl rfl rfl (by decide) (fun _ => ?_) (fun h => by cases h)
        refine x_ret rfl ?_
        refine sK_v (pc' := 41) rfl ?_
        refine x_aload_n (pc' := 42) rfl rfl rfl rfl rfl ?_
        refine x_iconst (pc' := 43) rfl rfl ?_
        refine x_pZ (pc' := 46) (z := true) rfl rfl rfl rfl ?_
        refine x_aload_n (pc' := 47) rfl rfl rfl rfl rfl ?_
        refine x_aload_n (pc' := 48) rfl rfl rfl rfl rfl ?_
        refine x_gI (pc' := 51) (x := (mA M 25 o)) rfl rfl rfl (Eq.trans (b := sI t 580 o) rfl (kA hM rfl ho)) ?_
        refine x_ineg (pc' := 52) rfl rfl rfl ?_
        refine x_cv (ls0 := [_, _, sJk]) (rest := []) rfl rfl rfl rfl rfl ?_
        exact k3 q3 q5 q7
set_option maxHeartbeats 4000000 in
set_option maxRecDepth 10000 in
theorem n99_x0 {t : sT} {Q : sRs → sT → Prop} {M : sM} {n : Nat} {T : Nat} {L0 : List Nat} {A : Nat} {B : Nat} {x : Int32}
    (hW : Wc t M n T L0 A B)
    (hp : ixo x T = none)
    (k0 : Q (.inr 0) (sThr t)) :
    X 99 0 [.inr (.inr (11, (some 0))), .inl x, sJk] [] t Q := by
  obtain ⟨hM, hc, hR, hC, hL, hL9⟩ := hW
  refine x_aload_n (pc' := 1) rfl rfl rfl rfl rfl ?_
  refine x_iload_n (pc' := 2) rfl rfl rfl ?_
  refine x_cv (ls0 := [_, _]) (rest := []) rfl rfl rfl rfl rfl ?_
  refine b135_x ⟨hM, hc, hR, hC, hL, hL9⟩ hp ?_
  refine sK_n (by decide +kernel) rfl ?_
  exact k0
set_option maxHeartbeats 4000000 in
set_option maxRecDepth 10000 in
theorem n100 {t : sT} {Q : sRs → sT → Prop} {M : sM} {n : Nat} {T : Nat} {L0 : List Nat} {A : Nat} {B : Nat} {m : Nat} {p : Int32}
    (hW : Wc t M n T L0 A B)
    (hm : m < 6)
    (k0 : p < (-1000000) → Q (.inr 1) (sThr t))
    (k1 : ¬ (p < (-1000000)) → ¬ (1000000 < p) → (mB M 2 m) = true → Q (.inr 2) (sThr t))
    (k2 : ¬ (p < (-1000000)) → ¬ (1000000 < p) → (mB M 2 m) = false → X 53 0 [.inr (.inr (5, (some 0))), sJk, sJk, sJk, sJk, sJk] [] (sIw (sZw t 457 m true) 456 m p) (sK 53 100 43 [.inr (.inr (11, (some 0))), .inl (io m), .inl p, .inr (.inr (7, (some m)))] [] Q))
    (k3 : ¬ (p < (-1000000)) → 1000000 < p → Q (.inr 1) (sThr t)) :
    X 100 0 [.inr (.inr (11, (some 0))), .inl (io m), .inl p, sJk] [] t Q := by
  obtain ⟨hM, hc, hR, hC, hL, hL9⟩ := hW
  refine x_aload_n (pc' := 1) rfl rfl rfl rfl rfl ?_
  refine x_iload_n (pc' := 2) rfl rfl rfl ?_
  refine x_cv (ls0 := [_, _]) (rest := []) rfl rfl rfl rfl rfl ?_
  refine x_iload_n (pc' := 1) rfl rfl rfl ?_
  refine x_if (a' := 16) (pc' := 4) (z := decide (m < 0)) rfl rfl rfl (ic_lt (p := m) (q := 0) (gm31 hm) (by decide)) (fun h => absurd (of_decide_eq_true h) (by first | decide | omega | simp)) (fun _ => ?_)
  refine x_iload_n (pc' := 5) rfl rfl rfl ?_
  refine x_aload_n (pc' := 6) rfl rfl rfl rfl rfl ?_
  refine x_gR (pc' := 9) (r := (some 0)) rfl rfl rfl (kR_704_0 hc.1) ?_
  refine x_gR (pc' := 12) (r := (some 0)) rfl rfl rfl (kR_321_0 hc.1) ?_
  refine x_alen (pc' := 13) (N := 6) rfl rfl rfl (kN_26_0 hc.1) (?_ : X _ _ _ (.inl 6 :: _) _ _)
  refine x_icmp (a' := 27) (pc' := 16) (z := decide (m < 6)) rfl rfl rfl (ic_lt (p := m) (q := 6) (gm31 hm) (by decide)) (fun _ => ?_) (fun h => absurd hm (of_decide_eq_false h))
  refine x_aload_n (pc' := 28) rfl rfl rfl rfl rfl ?_
  refine x_gR (pc' := 31) (r := (some 0)) rfl rfl rfl (kR_704_0 hc.1) ?_
  refine x_gR (pc' := 34) (r := (some 0)) rfl rfl rfl (kR_321_0 hc.1) ?_
  refine x_iload_n (pc' := 35) rfl rfl rfl ?_
  refine x_aald (pc' := 36) (N := 6) (k' := 7) (r := (some m)) rfl rfl rfl (kN_26_0 hc.1) (io_in (p := m) (N := 6) hm (by decide)) (Eq.trans (congrArg (sE t 26 0) (nn_io (p := m) (Nat.lt_trans hm (by decide)))) (kM hc.1 hm)) ?_
  refine x_reta rfl rfl ?_
  refine sK_i (pc' := 5) rfl ?_
  refine x_astore_n (pc' := 6) (ls' := [_, _, _, _]) rfl rfl rfl rfl rfl ?_
  refine x_iload_n (pc' := 7) rfl rfl rfl ?_
  refine x_ldc (pc' := 9) rfl rfl ?_
  refine x_ldc (pc' := 11) rfl rfl ?_
  refine x_cs (ls0 := [_, _, _]) (rest := []) rfl rfl rfl rfl ?_
  refine x_iload_n (pc' := 1) rfl rfl rfl ?_
  refine x_iload_n (pc' := 2) rfl rfl rfl ?_
  refine x_icmp (a' := 10) (pc' := 5) (z := decide (p < (-1000000))) rfl rfl rfl rfl (fun q3 => ?_) (fun q3 => ?_)
  · refine x_throw rfl rfl ?_
    refine sK_n (by decide +kernel) rfl ?_
    exact k0 (of_decide_eq_true q3)
  · refine x_iload_n (pc' := 6) rfl rfl rfl ?_
    refine x_iload_n (pc' := 7) rfl rfl rfl ?_
    refine x_icmp_n (a' := 21) (pc' := 10) (z := decide (1000000 < p)) rfl rfl rfl (ik_le _ _) (fun q4 => ?_) (fun q4 => ?_)
    · refine x_ret rfl ?_
      refine sK_v (pc' := 14) rfl ?_
      refine x_aload_n (pc' := 15) rfl rfl rfl rfl rfl ?_
      refine x_gZ (pc' := 18) (z := (mB M 2 m)) rfl rfl rfl (kZ hM rfl hm) ?_
      refine x_ifne_z (a' := 25) (pc' := 21) (z := (mB M 2 m)) rfl rfl rfl (fun q5 => ?_) (fun q5 => ?_)
      · refine x_iconst (pc' := 26) rfl rfl ?_
        refine x_cs (ls0 := [_]) (rest := []) rfl rfl rfl rfl ?_
        refine x_iload_n (pc' := 1) rfl rfl rfl ?_
        refine x_if (a' := 15) (pc' := 4) (z := false) rfl rfl rfl (by decide) (fun h => by cases h) (fun _ => ?_)
        refine x_throw rfl rfl ?_
        refine sK_n (by decide +kernel) rfl ?_
        exact k1 (of_decide_eq_false q3) (of_decide_eq_false q4) q5
      · refine x_iconst (pc' := 22) rfl rfl ?_
        refine x_goto (pc' := 26) rfl rfl ?_
        refine x_cs (ls0 := [_]) (rest := []) rfl rfl rfl rfl ?_
        refine x_iload_n (pc' := 1) rfl rfl rfl ?_
        refine x_if (a' := 15) (pc' := 4) (z := true) rfl rfl rfl (by decide) (fun _ => ?_) (fun h => by cases h)
        refine x_ret rfl ?_
        refine sK_v (pc' := 29) rfl ?_
        refine x_aload_n (pc' := 30) rfl rfl rfl rfl rfl ?_
        refine x_iconst (pc' := 31) rfl rfl ?_
        refine x_pZ (pc' := 34) (z := true) rfl rfl rfl rfl ?_
        refine x_aload_n (pc' := 35) rfl rfl rfl rfl rfl ?_
        refine x_iload_n (pc' := 36) rfl rfl rfl ?_
        refine x_pI (pc' := 39) rfl rfl rfl ?_
        refine x_aload_n (pc' := 40) rfl rfl rfl rfl rfl ?_
        refine x_gR (pc' := 43) (r := (some 0)) rfl rfl rfl (Eq.trans (b := sR t 704 0) rfl (kR_704_0 hc.1)) ?_
        refine x_cv (ls0 := [_, sJk, sJk, sJk, sJk, sJk]) (rest := []) rfl rfl rfl rfl rfl ?_
        exact k2 (of_decide_eq_false q3) (of_decide_eq_false q4) q5
    · refine x_throw rfl rfl ?_
      refine sK_n (by decide +kernel) rfl ?_
      exact k3 (of_decide_eq_false q3) (of_decide_eq_true q4)
set_option maxHeartbeats 4000000 in
set_option maxRecDepth 10000 in
theorem n100_x0 {t : sT} {Q : sRs → sT → Prop} {M : sM} {n : Nat} {T : Nat} {L0 : List Nat} {A : Nat} {B : Nat} {x : Int32} {p : Int32}
    (hW : Wc t M n T L0 A B)
    (hp : ixo x 6 = none)
    (k0 : Q (.inr 0) (sThr t)) :
    X 100 0 [.inr (.inr (11, (some 0))), .inl x, .inl p, sJk] [] t Q := by
  obtain ⟨hM, hc, hR, hC, hL, hL9⟩ := hW
  refine x_aload_n (pc' := 1) rfl rfl rfl rfl rfl ?_
  refine x_iload_n (pc' := 2) rfl rfl rfl ?_
  refine x_cv (ls0 := [_, _]) (rest := []) rfl rfl rfl rfl rfl ?_
  refine b131_x ⟨hM, hc, hR, hC, hL, hL9⟩ hp ?_
  refine sK_n (by decide +kernel) rfl ?_
  exact k0
set_option maxHeartbeats 4000000 in
set_option maxRecDepth 10000 in
theorem n102 {t : sT} {Q : sRs → sT → Prop} {M : sM} {n : Nat} {T : Nat} {L0 : List Nat} {A : Nat} {B : Nat} {b : Nat}
    (hW : Wc t M n T L0 A B)
    (hb : b < 5)
    (k0 : Q (.inl (some (.inl (mA M 0 b)))) t) :
    X 102 0 [.inr (.inr (11, (some 0))), .inl (io b)] [] t Q := by
  obtain ⟨hM, hc, hR, hC, hL, hL9⟩ := hW
  refine x_aload_n (pc' := 1) rfl rfl rfl rfl rfl ?_
  refine x_iload_n (pc' := 2) rfl rfl rfl ?_
  refine x_cv (ls0 := [_, _]) (rest := []) rfl rfl rfl rfl rfl ?_
  refine x_iload_n (pc' := 1) rfl rfl rfl ?_
  refine x_if (a' := 16) (pc' := 4) (z := decide (b < 0)) rfl rfl rfl (ic_lt (p := b) (q := 0) (gb31 hb) (by decide)) (fun h => absurd (of_decide_eq_true h) (by first | decide | omega | simp)) (fun _ => ?_)
  refine x_iload_n (pc' := 5) rfl rfl rfl ?_
  refine x_aload_n (pc' := 6) rfl rfl rfl rfl rfl ?_
  refine x_gR (pc' := 9) (r := (some 0)) rfl rfl rfl (kR_705_0 hc.1) ?_
  refine x_gR (pc' := 12) (r := (some 0)) rfl rfl rfl (kR_256_0 hc.1) ?_
  refine x_alen (pc' := 13) (N := 5) rfl rfl rfl (kN_24_0 hc.1) (?_ : X _ _ _ (.inl 5 :: _) _ _)
  refine x_icmp (a' := 27) (pc' := 16) (z := decide (b < 5)) rfl rfl rfl (ic_lt (p := b) (q := 5) (gb31 hb) (by decide)) (fun _ => ?_) (fun h => absurd hb (of_decide_eq_false h))
  refine x_aload_n (pc' := 28) rfl rfl rfl rfl rfl ?_
  refine x_gR (pc' := 31) (r := (some 0)) rfl rfl rfl (kR_705_0 hc.1) ?_
  refine x_gR (pc' := 34) (r := (some 0)) rfl rfl rfl (kR_256_0 hc.1) ?_
  refine x_iload_n (pc' := 35) rfl rfl rfl ?_
  refine x_aald (pc' := 36) (N := 5) (k' := 1) (r := (some b)) rfl rfl rfl (kN_24_0 hc.1) (io_in (p := b) (N := 5) hb (by decide)) (Eq.trans (congrArg (sE t 24 0) (nn_io (p := b) (Nat.lt_trans hb (by decide)))) (kB hc.1 hb)) ?_
  refine x_reta rfl rfl ?_
  refine sK_i (pc' := 5) rfl ?_
  refine x_gI (pc' := 8) (x := (mA M 0 b)) rfl rfl rfl (kA hM rfl hb) ?_
  refine x_reti rfl rfl ?_
  exact k0
set_option maxHeartbeats 4000000 in
set_option maxRecDepth 10000 in
theorem n102_x0 {t : sT} {Q : sRs → sT → Prop} {M : sM} {n : Nat} {T : Nat} {L0 : List Nat} {A : Nat} {B : Nat} {x : Int32}
    (hW : Wc t M n T L0 A B)
    (hp : ixo x 5 = none)
    (k0 : Q (.inr 0) (sThr t)) :
    X 102 0 [.inr (.inr (11, (some 0))), .inl x] [] t Q := by
  obtain ⟨hM, hc, hR, hC, hL, hL9⟩ := hW
  refine x_aload_n (pc' := 1) rfl rfl rfl rfl rfl ?_
  refine x_iload_n (pc' := 2) rfl rfl rfl ?_
  refine x_cv (ls0 := [_, _]) (rest := []) rfl rfl rfl rfl rfl ?_
  refine b133_x ⟨hM, hc, hR, hC, hL, hL9⟩ hp ?_
  refine sK_n (by decide +kernel) rfl ?_
  exact k0
set_option maxHeartbeats 4000000 in
set_option maxRecDepth 10000 in
theorem n103 {t : sT} {Q : sRs → sT → Prop} {M : sM} {n : Nat} {T : Nat} {L0 : List Nat} {A : Nat} {B : Nat}
    (hW : Wc t M n T L0 A B)
    (k0 : Q (.inl (some (.inl (io n)))) t) :
    X 103 0 [.inr (.inr (11, (some 0)))] [] t Q := by
  obtain ⟨hM, hc, hR, hC, hL, hL9⟩ := hW
  refine x_aload_n (pc' := 1) rfl rfl rfl rfl rfl ?_
  refine x_gR (pc' := 4) (r := (some 0)) rfl rfl rfl (kR_705_0 hc.1) ?_
  refine x_gR (pc' := 7) (r := (some 1)) rfl rfl rfl (kR_257_0 hc.1) ?_
  refine x_cv (ls0 := [_]) (rest := []) rfl rfl rfl rfl rfl ?_
  refine x_aload_n (pc' := 1) rfl rfl rfl rfl rfl ?_
  refine x_gI (pc' := 4) (x := (io n)) rfl rfl rfl (Sf_n hc) ?_
  refine x_reti rfl rfl ?_
  refine sK_i (pc' := 10) rfl ?_
  refine x_reti rfl rfl ?_
  exact k0
set_option maxHeartbeats 4000000 in
set_option maxRecDepth 10000 in
theorem n104 {t : sT} {Q : sRs → sT → Prop} {M : sM} {n : Nat} {T : Nat} {L0 : List Nat} {A : Nat} {B : Nat} {o : Nat}
    (hW : Wc t M n T L0 A B)
    (ho : o < n)
    (k0 : Q (.inl (some (.inl (mA M 19 o)))) t) :
    X 104 0 [.inr (.inr (11, (some 0))), .inl (io o)] [] t Q := by
  obtain ⟨hM, hc, hR, hC, hL, hL9⟩ := hW
  refine x_aload_n (pc' := 1) rfl rfl rfl rfl rfl ?_
  refine x_iload_n (pc' := 2) rfl rfl rfl ?_
  refine x_cv (ls0 := [_, _]) (rest := []) rfl rfl rfl rfl rfl ?_
  refine x_iload_n (pc' := 1) rfl rfl rfl ?_
  refine x_if (a' := 18) (pc' := 4) (z := decide (o < 0)) rfl rfl rfl (ic_lt (p := o) (q := 0) (Nat.lt_trans ho (gn31 hR)) (by decide)) (fun h => absurd (of_decide_eq_true h) (by first | decide | omega | simp)) (fun _ => ?_)
  refine x_iload_n (pc' := 5) rfl rfl rfl ?_
  refine x_aload_n (pc' := 6) rfl rfl rfl rfl rfl ?_
  refine x_gR (pc' := 9) (r := (some 0)) rfl rfl rfl (kR_705_0 hc.1) ?_
  refine x_gR (pc' := 12) (r := (some 1)) rfl rfl rfl (kR_257_0 hc.1) ?_
  refine x_cv (ls0 := [_]) (rest := [_]) rfl rfl rfl rfl rfl ?_
  refine x_aload_n (pc' := 1) rfl rfl rfl rfl rfl ?_
  refine x_gI (pc' := 4) (x := (io n)) rfl rfl rfl (Sf_n hc) ?_
  refine x_reti rfl rfl ?_
  refine sK_i (pc' := 15) rfl ?_
  refine x_icmp (a' := 29) (pc' := 18) (z := decide (o < n)) rfl rfl rfl (ic_lt (p := o) (q := n) (Nat.lt_trans ho (gn31 hR)) (gn31 hR)) (fun _ => ?_) (fun h => absurd ho (of_decide_eq_false h))
  refine x_aload_n (pc' := 30) rfl rfl rfl rfl rfl ?_
  refine x_gR (pc' := 33) (r := (some 0)) rfl rfl rfl (kR_705_0 hc.1) ?_
  refine x_gR (pc' := 36) (r := (some 1)) rfl rfl rfl (kR_257_0 hc.1) ?_
  refine x_iload_n (pc' := 37) rfl rfl rfl ?_
  refine x_cv (ls0 := [_, _]) (rest := []) rfl rfl rfl rfl rfl ?_
  refine Sf_gO hc (Fr.ri (Fr.refl _) hR) ho ?_
  refine sK_i (pc' := 40) rfl ?_
  refine x_cast (pc' := 43) rfl rfl rfl ?_
  refine x_reta rfl rfl ?_
  refine sK_i (pc' := 5) rfl ?_
  refine x_gI (pc' := 8) (x := (mA M 19 o)) rfl rfl rfl (kA hM rfl ho) ?_
  refine x_reti rfl rfl ?_
  exact k0
set_option maxHeartbeats 4000000 in
set_option maxRecDepth 10000 in
theorem n104_x0 {t : sT} {Q : sRs → sT → Prop} {M : sM} {n : Nat} {T : Nat} {L0 : List Nat} {A : Nat} {B : Nat} {x : Int32}
    (hW : Wc t M n T L0 A B)
    (hp : ixo x n = none)
    (k0 : Q (.inr 0) (sThr t)) :
    X 104 0 [.inr (.inr (11, (some 0))), .inl x] [] t Q := by
  obtain ⟨hM, hc, hR, hC, hL, hL9⟩ := hW
  refine x_aload_n (pc' := 1) rfl rfl rfl rfl rfl ?_
  refine x_iload_n (pc' := 2) rfl rfl rfl ?_
  refine x_cv (ls0 := [_, _]) (rest := []) rfl rfl rfl rfl rfl ?_
  refine b134_x ⟨hM, hc, hR, hC, hL, hL9⟩ hp ?_
  refine sK_n (by decide +kernel) rfl ?_
  exact k0
set_option maxHeartbeats 4000000 in
set_option maxRecDepth 10000 in
theorem n105 {t : sT} {Q : sRs → sT → Prop} {M : sM} {n : Nat} {T : Nat} {L0 : List Nat} {A : Nat} {B : Nat} {o : Nat}
    (hW : Wc t M n T L0 A B)
    (ho : o < n)
    (k0 : Q (.inl (some (.inl (mA M 15 o)))) t) :
    X 105 0 [.inr (.inr (11, (some 0))), .inl (io o)] [] t Q := by
  obtain ⟨hM, hc, hR, hC, hL, hL9⟩ := hW
  refine x_aload_n (pc' := 1) rfl rfl rfl rfl rfl ?_
  refine x_iload_n (pc' := 2) rfl rfl rfl ?_
  refine x_cv (ls0 := [_, _]) (rest := []) rfl rfl rfl rfl rfl ?_
  refine x_iload_n (pc' := 1) rfl rfl rfl ?_
  refine x_if (a' := 18) (pc' := 4) (z := decide (o < 0)) rfl rfl rfl (ic_lt (p := o) (q := 0) (Nat.lt_trans ho (gn31 hR)) (by decide)) (fun h => absurd (of_decide_eq_true h) (by first | decide | omega | simp)) (fun _ => ?_)
  refine x_iload_n (pc' := 5) rfl rfl rfl ?_
  refine x_aload_n (pc' := 6) rfl rfl rfl rfl rfl ?_
  refine x_gR (pc' := 9) (r := (some 0)) rfl rfl rfl (kR_705_0 hc.1) ?_
  refine x_gR (pc' := 12) (r := (some 1)) rfl rfl rfl (kR_257_0 hc.1) ?_
  refine x_cv (ls0 := [_]) (rest := [_]) rfl rfl rfl rfl rfl ?_
  refine x_aload_n (pc' := 1) rfl rfl rfl rfl rfl ?_
  refine x_gI (pc' := 4) (x := (io n)) rfl rfl rfl (Sf_n hc) ?_
  refine x_reti rfl rfl ?_
  refine sK_i (pc' := 15) rfl ?_
  refine x_icmp (a' := 29) (pc' := 18) (z := decide (o < n)) rfl rfl rfl (ic_lt (p := o) (q := n) (Nat.lt_trans ho (gn31 hR)) (gn31 hR)) (fun _ => ?_) (fun h => absurd ho (of_decide_eq_false h))
  refine x_aload_n (pc' := 30) rfl rfl rfl rfl rfl ?_
  refine x_gR (pc' := 33) (r := (some 0)) rfl rfl rfl (kR_705_0 hc.1) ?_
  refine x_gR (pc' := 36) (r := (some 1)) rfl rfl rfl (kR_257_0 hc.1) ?_
  refine x_iload_n (pc' := 37) rfl rfl rfl ?_
  refine x_cv (ls0 := [_, _]) (rest := []) rfl rfl rfl rfl rfl ?_
  refine Sf_gO hc (Fr.ri (Fr.refl _) hR) ho ?_
  refine sK_i (pc' := 40) rfl ?_
  refine x_cast (pc' := 43) rfl rfl rfl ?_
  refine x_reta rfl rfl ?_
  refine sK_i (pc' := 5) rfl ?_
  refine x_gI (pc' := 8) (x := (mA M 15 o)) rfl rfl rfl (kA hM rfl ho) ?_
  refine x_reti rfl rfl ?_
  exact k0
set_option maxHeartbeats 4000000 in
set_option maxRecDepth 10000 in
theorem n105_x0 {t : sT} {Q : sRs → sT → Prop} {M : sM} {n : Nat} {T : Nat} {L0 : List Nat} {A : Nat} {B : Nat} {x : Int32}
    (hW : Wc t M n T L0 A B)
    (hp : ixo x n = none)
    (k0 : Q (.inr 0) (sThr t)) :
    X 105 0 [.inr (.inr (11, (some 0))), .inl x] [] t Q := by
  obtain ⟨hM, hc, hR, hC, hL, hL9⟩ := hW
  refine x_aload_n (pc' := 1) rfl rfl rfl rfl rfl ?_
  refine x_iload_n (pc' := 2) rfl rfl rfl ?_
  refine x_cv (ls0 := [_, _]) (rest := []) rfl rfl rfl rfl rfl ?_
  refine b134_x ⟨hM, hc, hR, hC, hL, hL9⟩ hp ?_
  refine sK_n (by decide +kernel) rfl ?_
  exact k0
set_option maxHeartbeats 4000000 in
set_option maxRecDepth 10000 in
theorem n106 {t : sT} {Q : sRs → sT → Prop} {M : sM} {n : Nat} {T : Nat} {L0 : List Nat} {A : Nat} {B : Nat} {o : Nat}
    (hW : Wc t M n T L0 A B)
    (ho : o < n)
    (k0 : ¬ ((mA M 19 o) = 1) → Q (.inl (some (.inl 0))) t)
    (k1 : (mA M 19 o) = 1 → Q (.inl (some (.inl (mA M 17 o)))) t) :
    X 106 0 [.inr (.inr (11, (some 0))), .inl (io o), sJk] [] t Q := by
  obtain ⟨hM, hc, hR, hC, hL, hL9⟩ := hW
  refine x_aload_n (pc' := 1) rfl rfl rfl rfl rfl ?_
  refine x_iload_n (pc' := 2) rfl rfl rfl ?_
  refine x_cv (ls0 := [_, _]) (rest := []) rfl rfl rfl rfl rfl ?_
  refine x_iload_n (pc' := 1) rfl rfl rfl ?_
  refine x_if (a' := 18) (pc' := 4) (z := decide (o < 0)) rfl rfl rfl (ic_lt (p := o) (q := 0) (Nat.lt_trans ho (gn31 hR)) (by decide)) (fun h => absurd (of_decide_eq_true h) (by first | decide | omega | simp)) (fun _ => ?_)
  refine x_iload_n (pc' := 5) rfl rfl rfl ?_
  refine x_aload_n (pc' := 6) rfl rfl rfl rfl rfl ?_
  refine x_gR (pc' := 9) (r := (some 0)) rfl rfl rfl (kR_705_0 hc.1) ?_
  refine x_gR (pc' := 12) (r := (some 1)) rfl rfl rfl (kR_257_0 hc.1) ?_
  refine x_cv (ls0 := [_]) (rest := [_]) rfl rfl rfl rfl rfl ?_
  refine x_aload_n (pc' := 1) rfl rfl rfl rfl rfl ?_
  refine x_gI (pc' := 4) (x := (io n)) rfl rfl rfl (Sf_n hc) ?_
  refine x_reti rfl rfl ?_
  refine sK_i (pc' := 15) rfl ?_
  refine x_icmp (a' := 29) (pc' := 18) (z := decide (o < n)) rfl rfl rfl (ic_lt (p := o) (q := n) (Nat.lt_trans ho (gn31 hR)) (gn31 hR)) (fun _ => ?_) (fun h => absurd ho (of_decide_eq_false h))
  refine x_aload_n (pc' := 30) rfl rfl rfl rfl rfl ?_
  refine x_gR (pc' := 33) (r := (some 0)) rfl rfl rfl (kR_705_0 hc.1) ?_
  refine x_gR (pc' := 36) (r := (some 1)) rfl rfl rfl (kR_257_0 hc.1) ?_
  refine x_iload_n (pc' := 37) rfl rfl rfl ?_
  refine x_cv (ls0 := [_, _]) (rest := []) rfl rfl rfl rfl rfl ?_
  refine Sf_gO hc (Fr.ri (Fr.refl _) hR) ho ?_
  refine sK_i (pc' := 40) rfl ?_
  refine x_cast (pc' := 43) rfl rfl rfl ?_
  refine x_reta rfl rfl ?_
  refine sK_i (pc' := 5) rfl ?_
  refine x_astore_n (pc' := 6) (ls' := [_, _, _]) rfl rfl rfl rfl rfl ?_
  refine x_aload_n (pc' := 7) rfl rfl rfl rfl rfl ?_
  refine x_gI (pc' := 10) (x := (mA M 19 o)) rfl rfl rfl (kA hM rfl ho) ?_
  refine x_iconst (pc' := 11) rfl rfl ?_
  refine x_icmp_n (a' := 21) (pc' := 14) (z := decide ((mA M 19 o) = 1)) rfl rfl rfl (ik_ne _ _) (fun q3 => ?_) (fun q3 => ?_)
  · refine x_iconst (pc' := 22) rfl rfl ?_
    refine x_reti rfl rfl ?_
    exact k0 (of_decide_eq_false q3)
  · refine x_aload_n (pc' := 15) rfl rfl rfl rfl rfl ?_
    refine x_gI (pc' := 18) (x := (mA M 17 o)) rfl rfl rfl (kW hM ho (of_decide_eq_true q3)) ?_
    refine x_goto (pc' := 22) rfl rfl ?_
    refine x_reti rfl rfl ?_
    exact k1 (of_decide_eq_true q3)
set_option maxHeartbeats 4000000 in
set_option maxRecDepth 10000 in
theorem n106_x0 {t : sT} {Q : sRs → sT → Prop} {M : sM} {n : Nat} {T : Nat} {L0 : List Nat} {A : Nat} {B : Nat} {x : Int32}
    (hW : Wc t M n T L0 A B)
    (hp : ixo x n = none)
    (k0 : Q (.inr 0) (sThr t)) :
    X 106 0 [.inr (.inr (11, (some 0))), .inl x, sJk] [] t Q := by
  obtain ⟨hM, hc, hR, hC, hL, hL9⟩ := hW
  refine x_aload_n (pc' := 1) rfl rfl rfl rfl rfl ?_
  refine x_iload_n (pc' := 2) rfl rfl rfl ?_
  refine x_cv (ls0 := [_, _]) (rest := []) rfl rfl rfl rfl rfl ?_
  refine b134_x ⟨hM, hc, hR, hC, hL, hL9⟩ hp ?_
  refine sK_n (by decide +kernel) rfl ?_
  exact k0
set_option maxHeartbeats 4000000 in
set_option maxRecDepth 10000 in
theorem n107 {t : sT} {Q : sRs → sT → Prop} {M : sM} {n : Nat} {T : Nat} {L0 : List Nat} {A : Nat} {B : Nat} {b : Nat} {s : Bool}
    (hW : Wc t M n T L0 A B)
    (hb : b < 5)
    (k0 : s = false → ∀ j0, (bsF M n b false) = some j0 → Q (.inl (some (.inl (io j0)))) t)
    (k1 : s = false → (bsF M n b false) = none → Q (.inl (some (.inl (-1)))) t)
    (k2 : s = true → ∀ j1, (bsF M n b true) = some j1 → Q (.inl (some (.inl (io j1)))) t)
    (k3 : s = true → (bsF M n b true) = none → Q (.inl (some (.inl (-1)))) t) :
    X 107 0 [.inr (.inr (11, (some 0))), .inl (io b), .inl (bz s)] [] t Q := by
  obtain ⟨hM, hc, hR, hC, hL, hL9⟩ := hW
  refine x_aload_n (pc' := 1) rfl rfl rfl rfl rfl ?_
  refine x_iload_n (pc' := 2) rfl rfl rfl ?_
  refine x_cv (ls0 := [_, _]) (rest := []) rfl rfl rfl rfl rfl ?_
  refine x_iload_n (pc' := 1) rfl rfl rfl ?_
  refine x_if (a' := 16) (pc' := 4) (z := decide (b < 0)) rfl rfl rfl (ic_lt (p := b) (q := 0) (gb31 hb) (by decide)) (fun h => absurd (of_decide_eq_true h) (by first | decide | omega | simp)) (fun _ => ?_)
  refine x_iload_n (pc' := 5) rfl rfl rfl ?_
  refine x_aload_n (pc' := 6) rfl rfl rfl rfl rfl ?_
  refine x_gR (pc' := 9) (r := (some 0)) rfl rfl rfl (kR_705_0 hc.1) ?_
  refine x_gR (pc' := 12) (r := (some 0)) rfl rfl rfl (kR_256_0 hc.1) ?_
  refine x_alen (pc' := 13) (N := 5) rfl rfl rfl (kN_24_0 hc.1) (?_ : X _ _ _ (.inl 5 :: _) _ _)
  refine x_icmp (a' := 27) (pc' := 16) (z := decide (b < 5)) rfl rfl rfl (ic_lt (p := b) (q := 5) (gb31 hb) (by decide)) (fun _ => ?_) (fun h => absurd hb (of_decide_eq_false h))
  refine x_aload_n (pc' := 28) rfl rfl rfl rfl rfl ?_
  refine x_gR (pc' := 31) (r := (some 0)) rfl rfl rfl (kR_705_0 hc.1) ?_
  refine x_gR (pc' := 34) (r := (some 0)) rfl rfl rfl (kR_256_0 hc.1) ?_
  refine x_iload_n (pc' := 35) rfl rfl rfl ?_
  refine x_aald (pc' := 36) (N := 5) (k' := 1) (r := (some b)) rfl rfl rfl (kN_24_0 hc.1) (io_in (p := b) (N := 5) hb (by decide)) (Eq.trans (congrArg (sE t 24 0) (nn_io (p := b) (Nat.lt_trans hb (by decide)))) (kB hc.1 hb)) ?_
  refine x_reta rfl rfl ?_
  refine sK_i (pc' := 5) rfl ?_
  refine x_iload_n (pc' := 6) rfl rfl rfl ?_
  refine x_cv (ls0 := [_, _]) (rest := []) rfl rfl rfl rfl rfl ?_
  refine x_iload_n (pc' := 1) rfl rfl rfl ?_
  refine x_ifeq_z (a' := 11) (pc' := 4) (z := s) rfl rfl rfl (fun q3 => ?_) (fun q3 => ?_)
  · refine x_aload_n (pc' := 12) rfl rfl rfl rfl rfl ?_
    refine x_gR (pc' := 15) (r := (bsF M n b false)) rfl rfl rfl (bs_70 hC (Fr.ri (Fr.refl _) hR) hM hb) ?_
    refine x_reta rfl rfl ?_
    refine sK_i (pc' := 9) rfl ?_
    refine x_cs (ls0 := [_]) (rest := []) rfl rfl rfl rfl ?_
    refine x_aload_n (pc' := 1) rfl rfl rfl rfl rfl ?_
    refine x_ifnonnull (a' := 8) (pc' := 4) rfl rfl rfl rfl (fun j0 q4 => ?_) (fun q4 => ?_)
    · refine x_aload_n (pc' := 9) rfl rfl rfl rfl q4 ?_
      refine x_gI (pc' := 12) (x := (io j0)) rfl rfl rfl (Sf_512 hc (bsF_lt _ q4)) ?_
      refine x_reti rfl rfl ?_
      refine sK_i (pc' := 12) rfl ?_
      refine x_reti rfl rfl ?_
      exact k0 q3 j0 q4
    · refine x_iconst (pc' := 5) rfl rfl ?_
      refine x_goto (pc' := 12) rfl rfl ?_
      refine x_reti rfl rfl ?_
      refine sK_i (pc' := 12) rfl ?_
      refine x_reti rfl rfl ?_
      exact k1 q3 q4
  · refine x_aload_n (pc' := 5) rfl rfl rfl rfl rfl ?_
    refine x_gR (pc' := 8) (r := (bsF M n b true)) rfl rfl rfl (bs_69 hC (Fr.ri (Fr.refl _) hR) hM hb) ?_
    refine x_goto (pc' := 15) rfl rfl ?_
    refine x_reta rfl rfl ?_
    refine sK_i (pc' := 9) rfl ?_
    refine x_cs (ls0 := [_]) (rest := []) rfl rfl rfl rfl ?_
    refine x_aload_n (pc' := 1) rfl rfl rfl rfl rfl ?_
    refine x_ifnonnull (a' := 8) (pc' := 4) rfl rfl rfl rfl (fun j1 q5 => ?_) (fun q5 => ?_)
    · refine x_aload_n (pc' := 9) rfl rfl rfl rfl q5 ?_
      refine x_gI (pc' := 12) (x := (io j1)) rfl rfl rfl (Sf_512 hc (bsF_lt _ q5)) ?_
      refine x_reti rfl rfl ?_
      refine sK_i (pc' := 12) rfl ?_
      refine x_reti rfl rfl ?_
      exact k2 q3 j1 q5
    · refine x_iconst (pc' := 5) rfl rfl ?_
      refine x_goto (pc' := 12) rfl rfl ?_
      refine x_reti rfl rfl ?_
      refine sK_i (pc' := 12) rfl ?_
      refine x_reti rfl rfl ?_
      exact k3 q3 q5
set_option maxHeartbeats 4000000 in
set_option maxRecDepth 10000 in
theorem n107_x0 {t : sT} {Q : sRs → sT → Prop} {M : sM} {n : Nat} {T : Nat} {L0 : List Nat} {A : Nat} {B : Nat} {x : Int32} {s : Bool}
    (hW : Wc t M n T L0 A B)
    (hp : ixo x 5 = none)
    (k0 : Q (.inr 0) (sThr t)) :
    X 107 0 [.inr (.inr (11, (some 0))), .inl x, .inl (bz s)] [] t Q := by
  obtain ⟨hM, hc, hR, hC, hL, hL9⟩ := hW
  refine x_aload_n (pc' := 1) rfl rfl rfl rfl rfl ?_
  refine x_iload_n (pc' := 2) rfl rfl rfl ?_
  refine x_cv (ls0 := [_, _]) (rest := []) rfl rfl rfl rfl rfl ?_
  refine b133_x ⟨hM, hc, hR, hC, hL, hL9⟩ hp ?_
  refine sK_n (by decide +kernel) rfl ?_
  exact k0
set_option maxHeartbeats 4000000 in
set_option maxRecDepth 10000 in
theorem n108 {t : sT} {Q : sRs → sT → Prop} {M : sM} {n : Nat} {T : Nat} {L0 : List Nat} {A : Nat} {B : Nat} {b : Nat} {s : Bool}
    (hW : Wc t M n T L0 A B)
    (hb : b < 5)
    (k0 : X 38 0 [.inr (.inr (4, (some 0))), .inr (.inr (1, (some b))), .inl (bz s), sJk, sJk, sJk, sJk] [] t (sK 38 108 10 [.inr (.inr (11, (some 0))), .inl (io b), .inl (bz s)] [] Q)) :
    X 108 0 [.inr (.inr (11, (some 0))), .inl (io b), .inl (bz s)] [] t Q := by
  obtain ⟨hM, hc, hR, hC, hL, hL9⟩ := hW
  refine x_aload_n (pc' := 1) rfl rfl rfl rfl rfl ?_
  refine x_gR (pc' := 4) (r := (some 0)) rfl rfl rfl (kR_705_0 hc.1) ?_
  refine x_aload_n (pc' := 5) rfl rfl rfl rfl rfl ?_
  refine x_iload_n (pc' := 6) rfl rfl rfl ?_
  refine x_cv (ls0 := [_, _]) (rest := [_]) rfl rfl rfl rfl rfl ?_
  refine x_iload_n (pc' := 1) rfl rfl rfl ?_
  refine x_if (a' := 16) (pc' := 4) (z := decide (b < 0)) rfl rfl rfl (ic_lt (p := b) (q := 0) (gb31 hb) (by decide)) (fun h => absurd (of_decide_eq_true h) (by first | decide | omega | simp)) (fun _ => ?_)
  refine x_iload_n (pc' := 5) rfl rfl rfl ?_
  refine x_aload_n (pc' := 6) rfl rfl rfl rfl rfl ?_
  refine x_gR (pc' := 9) (r := (some 0)) rfl rfl rfl (kR_705_0 hc.1) ?_
  refine x_gR (pc' := 12) (r := (some 0)) rfl rfl rfl (kR_256_0 hc.1) ?_
  refine x_alen (pc' := 13) (N := 5) rfl rfl rfl (kN_24_0 hc.1) (?_ : X _ _ _ (.inl 5 :: _) _ _)
  refine x_icmp (a' := 27) (pc' := 16) (z := decide (b < 5)) rfl rfl rfl (ic_lt (p := b) (q := 5) (gb31 hb) (by decide)) (fun _ => ?_) (fun h => absurd hb (of_decide_eq_false h))
  refine x_aload_n (pc' := 28) rfl rfl rfl rfl rfl ?_
  refine x_gR (pc' := 31) (r := (some 0)) rfl rfl rfl (kR_705_0 hc.1) ?_
  refine x_gR (pc' := 34) (r := (some 0)) rfl rfl rfl (kR_256_0 hc.1) ?_
  refine x_iload_n (pc' := 35) rfl rfl rfl ?_
  refine x_aald (pc' := 36) (N := 5) (k' := 1) (r := (some b)) rfl rfl rfl (kN_24_0 hc.1) (io_in (p := b) (N := 5) hb (by decide)) (Eq.trans (congrArg (sE t 24 0) (nn_io (p := b) (Nat.lt_trans hb (by decide)))) (kB hc.1 hb)) ?_
  refine x_reta rfl rfl ?_
  refine sK_i (pc' := 9) rfl ?_
  refine x_iload_n (pc' := 10) rfl rfl rfl ?_
  refine x_cv (ls0 := [_, _, _, sJk, sJk, sJk, sJk]) (rest := []) rfl rfl rfl rfl rfl ?_
  exact k0
set_option maxHeartbeats 4000000 in
set_option maxRecDepth 10000 in
theorem n108_x0 {t : sT} {Q : sRs → sT → Prop} {M : sM} {n : Nat} {T : Nat} {L0 : List Nat} {A : Nat} {B : Nat} {x : Int32} {s : Bool}
    (hW : Wc t M n T L0 A B)
    (hp : ixo x 5 = none)
    (k0 : Q (.inr 0) (sThr t)) :
    X 108 0 [.inr (.inr (11, (some 0))), .inl x, .inl (bz s)] [] t Q := by
  obtain ⟨hM, hc, hR, hC, hL, hL9⟩ := hW
  refine x_aload_n (pc' := 1) rfl rfl rfl rfl rfl ?_
  refine x_gR (pc' := 4) (r := (some 0)) rfl rfl rfl (kR_705_0 hc.1) ?_
  refine x_aload_n (pc' := 5) rfl rfl rfl rfl rfl ?_
  refine x_iload_n (pc' := 6) rfl rfl rfl ?_
  refine x_cv (ls0 := [_, _]) (rest := [_]) rfl rfl rfl rfl rfl ?_
  refine b133_x ⟨hM, hc, hR, hC, hL, hL9⟩ hp ?_
  refine sK_n (by decide +kernel) rfl ?_
  exact k0
set_option maxHeartbeats 4000000 in
set_option maxRecDepth 10000 in
theorem n109 {t : sT} {Q : sRs → sT → Prop} {M : sM} {n : Nat} {T : Nat} {L0 : List Nat} {A : Nat} {B : Nat} {b : Nat} {s : Bool}
    (hW : Wc t M n T L0 A B)
    (hb : b < 5)
    (k0 : X 82 0 [.inr (.inr (10, (some 0))), .inr (.inr (1, (some b))), .inl (bz s), sJk, sJk, sJk, sJk, sJk] [] t (sK 82 109 10 [.inr (.inr (11, (some 0))), .inl (io b), .inl (bz s)] [] Q)) :
    X 109 0 [.inr (.inr (11, (some 0))), .inl (io b), .inl (bz s)] [] t Q := by
  obtain ⟨hM, hc, hR, hC, hL, hL9⟩ := hW
  refine x_aload_n (pc' := 1) rfl rfl rfl rfl rfl ?_
  refine x_gR (pc' := 4) (r := (some 0)) rfl rfl rfl (kR_706_0 hc.1) ?_
  refine x_aload_n (pc' := 5) rfl rfl rfl rfl rfl ?_
  refine x_iload_n (pc' := 6) rfl rfl rfl ?_
  refine x_cv (ls0 := [_, _]) (rest := [_]) rfl rfl rfl rfl rfl ?_
  refine x_iload_n (pc' := 1) rfl rfl rfl ?_
  refine x_if (a' := 16) (pc' := 4) (z := decide (b < 0)) rfl rfl rfl (ic_lt (p := b) (q := 0) (gb31 hb) (by decide)) (fun h => absurd (of_decide_eq_true h) (by first | decide | omega | simp)) (fun _ => ?_)
  refine x_iload_n (pc' := 5) rfl rfl rfl ?_
  refine x_aload_n (pc' := 6) rfl rfl rfl rfl rfl ?_
  refine x_gR (pc' := 9) (r := (some 0)) rfl rfl rfl (kR_705_0 hc.1) ?_
  refine x_gR (pc' := 12) (r := (some 0)) rfl rfl rfl (kR_256_0 hc.1) ?_
  refine x_alen (pc' := 13) (N := 5) rfl rfl rfl (kN_24_0 hc.1) (?_ : X _ _ _ (.inl 5 :: _) _ _)
  refine x_icmp (a' := 27) (pc' := 16) (z := decide (b < 5)) rfl rfl rfl (ic_lt (p := b) (q := 5) (gb31 hb) (by decide)) (fun _ => ?_) (fun h => absurd hb (of_decide_eq_false h))
  refine x_aload_n (pc' := 28) rfl rfl rfl rfl rfl ?_
  refine x_gR (pc' := 31) (r := (some 0)) rfl rfl rfl (kR_705_0 hc.1) ?_
  refine x_gR (pc' := 34) (r := (some 0)) rfl rfl rfl (kR_256_0 hc.1) ?_
  refine x_iload_n (pc' := 35) rfl rfl rfl ?_
  refine x_aald (pc' := 36) (N := 5) (k' := 1) (r := (some b)) rfl rfl rfl (kN_24_0 hc.1) (io_in (p := b) (N := 5) hb (by decide)) (Eq.trans (congrArg (sE t 24 0) (nn_io (p := b) (Nat.lt_trans hb (by decide)))) (kB hc.1 hb)) ?_
  refine x_reta rfl rfl ?_
  refine sK_i (pc' := 9) rfl ?_
  refine x_iload_n (pc' := 10) rfl rfl rfl ?_
  refine x_cv (ls0 := [_, _, _, sJk, sJk, sJk, sJk, sJk]) (rest := []) rfl rfl rfl rfl rfl ?_
  exact k0
set_option maxHeartbeats 4000000 in
set_option maxRecDepth 10000 in
theorem n109_x0 {t : sT} {Q : sRs → sT → Prop} {M : sM} {n : Nat} {T : Nat} {L0 : List Nat} {A : Nat} {B : Nat} {x : Int32} {s : Bool}
    (hW : Wc t M n T L0 A B)
    (hp : ixo x 5 = none)
    (k0 : Q (.inr 0) (sThr t)) :
    X 109 0 [.inr (.inr (11, (some 0))), .inl x, .inl (bz s)] [] t Q := by
  obtain ⟨hM, hc, hR, hC, hL, hL9⟩ := hW
  refine x_aload_n (pc' := 1) rfl rfl rfl rfl rfl ?_
  refine x_gR (pc' := 4) (r := (some 0)) rfl rfl rfl (kR_706_0 hc.1) ?_
  refine x_aload_n (pc' := 5) rfl rfl rfl rfl rfl ?_
  refine x_iload_n (pc' := 6) rfl rfl rfl ?_
  refine x_cv (ls0 := [_, _]) (rest := [_]) rfl rfl rfl rfl rfl ?_
  refine b133_x ⟨hM, hc, hR, hC, hL, hL9⟩ hp ?_
  refine sK_n (by decide +kernel) rfl ?_
  exact k0
set_option maxHeartbeats 4000000 in
set_option maxRecDepth 10000 in
theorem n110 {t : sT} {Q : sRs → sT → Prop} {M : sM} {n : Nat} {T : Nat} {L0 : List Nat} {A : Nat} {B : Nat} {b : Nat} {s : Bool}
    (hW : Wc t M n T L0 A B)
    (hb : b < 5)
    (k0 : X 82 0 [.inr (.inr (10, (some 0))), .inr (.inr (1, (some b))), .inl (bz s), sJk, sJk, sJk, sJk, sJk] [] t (sK 82 110 17 [.inr (.inr (11, (some 0))), .inl (io b), .inl (bz s), .inr (.inr (1, (some b)))] [.inr (.inr (1, (some b))), .inr (.inr (10, (some 0)))] Q)) :
    X 110 0 [.inr (.inr (11, (some 0))), .inl (io b), .inl (bz s), sJk] [] t Q := by
  obtain ⟨hM, hc, hR, hC, hL, hL9⟩ := hW
  refine x_aload_n (pc' := 1) rfl rfl rfl rfl rfl ?_
  refine x_iload_n (pc' := 2) rfl rfl rfl ?_
  refine x_cv (ls0 := [_, _]) (rest := []) rfl rfl rfl rfl rfl ?_
  refine x_iload_n (pc' := 1) rfl rfl rfl ?_
  refine x_if (a' := 16) (pc' := 4) (z := decide (b < 0)) rfl rfl rfl (ic_lt (p := b) (q := 0) (gb31 hb) (by decide)) (fun h => absurd (of_decide_eq_true h) (by first | decide | omega | simp)) (fun _ => ?_)
  refine x_iload_n (pc' := 5) rfl rfl rfl ?_
  refine x_aload_n (pc' := 6) rfl rfl rfl rfl rfl ?_
  refine x_gR (pc' := 9) (r := (some 0)) rfl rfl rfl (kR_705_0 hc.1) ?_
  refine x_gR (pc' := 12) (r := (some 0)) rfl rfl rfl (kR_256_0 hc.1) ?_
  refine x_alen (pc' := 13) (N := 5) rfl rfl rfl (kN_24_0 hc.1) (?_ : X _ _ _ (.inl 5 :: _) _ _)
  refine x_icmp (a' := 27) (pc' := 16) (z := decide (b < 5)) rfl rfl rfl (ic_lt (p := b) (q := 5) (gb31 hb) (by decide)) (fun _ => ?_) (fun h => absurd hb (of_decide_eq_false h))
  refine x_aload_n (pc' := 28) rfl rfl rfl rfl rfl ?_
  refine x_gR (pc' := 31) (r := (some 0)) rfl rfl rfl (kR_705_0 hc.1) ?_
  refine x_gR (pc' := 34) (r := (some 0)) rfl rfl rfl (kR_256_0 hc.1) ?_
  refine x_iload_n (pc' := 35) rfl rfl rfl ?_
  refine x_aald (pc' := 36) (N := 5) (k' := 1) (r := (some b)) rfl rfl rfl (kN_24_0 hc.1) (io_in (p := b) (N := 5) hb (by decide)) (Eq.trans (congrArg (sE t 24 0) (nn_io (p := b) (Nat.lt_trans hb (by decide)))) (kB hc.1 hb)) ?_
  refine x_reta rfl rfl ?_
  refine sK_i (pc' := 5) rfl ?_
  refine x_astore_n (pc' := 6) (ls' := [_, _, _, _]) rfl rfl rfl rfl rfl ?_
  refine x_aload_n (pc' := 7) rfl rfl rfl rfl rfl ?_
  refine x_gR (pc' := 10) (r := (some 0)) rfl rfl rfl (kR_706_0 hc.1) ?_
  refine x_aload_n (pc' := 11) rfl rfl rfl rfl rfl ?_
  refine x_aload_n (pc' := 12) rfl rfl rfl rfl rfl ?_
  refine x_gR (pc' := 15) (r := (some 0)) rfl rfl rfl (kR_706_0 hc.1) ?_
  refine x_aload_n (pc' := 16) rfl rfl rfl rfl rfl ?_
  refine x_iload_n (pc' := 17) rfl rfl rfl ?_
  refine x_cv (ls0 := [_, _, _, sJk, sJk, sJk, sJk, sJk]) (rest := [_, _]) rfl rfl rfl rfl rfl ?_
  exact k0
set_option maxHeartbeats 4000000 in
set_option maxRecDepth 10000 in
theorem n110_x0 {t : sT} {Q : sRs → sT → Prop} {M : sM} {n : Nat} {T : Nat} {L0 : List Nat} {A : Nat} {B : Nat} {x : Int32} {s : Bool}
    (hW : Wc t M n T L0 A B)
    (hp : ixo x 5 = none)
    (k0 : Q (.inr 0) (sThr t)) :
    X 110 0 [.inr (.inr (11, (some 0))), .inl x, .inl (bz s), sJk] [] t Q := by
  obtain ⟨hM, hc, hR, hC, hL, hL9⟩ := hW
  refine x_aload_n (pc' := 1) rfl rfl rfl rfl rfl ?_
  refine x_iload_n (pc' := 2) rfl rfl rfl ?_
  refine x_cv (ls0 := [_, _]) (rest := []) rfl rfl rfl rfl rfl ?_
  refine b133_x ⟨hM, hc, hR, hC, hL, hL9⟩ hp ?_
  refine sK_n (by decide +kernel) rfl ?_
  exact k0
set_option maxHeartbeats 4000000 in
set_option maxRecDepth 10000 in
theorem n111 {t : sT} {Q : sRs → sT → Prop} {M : sM} {n : Nat} {T : Nat} {L0 : List Nat} {A : Nat} {B : Nat} {b : Nat}
    (hW : Wc t M n T L0 A B)
    (hb : b < 5)
    (k0 : X 1 0 [.inr (.inr (0, (some 0))), .inr (.inr (1, (some b))), sJk, sJk, sJk, sJk, sJk, sJk, sJk, sJk, sJk, sJk, sJk, sJk] [] t (sK 1 111 9 [.inr (.inr (11, (some 0))), .inl (io b)] [] Q)) :
    X 111 0 [.inr (.inr (11, (some 0))), .inl (io b)] [] t Q := by
  obtain ⟨hM, hc, hR, hC, hL, hL9⟩ := hW
  refine x_aload_n (pc' := 1) rfl rfl rfl rfl rfl ?_
  refine x_gR (pc' := 4) (r := (some 0)) rfl rfl rfl (kR_708_0 hc.1) ?_
  refine x_aload_n (pc' := 5) rfl rfl rfl rfl rfl ?_
  refine x_iload_n (pc' := 6) rfl rfl rfl ?_
  refine x_cv (ls0 := [_, _]) (rest := [_]) rfl rfl rfl rfl rfl ?_
  refine x_iload_n (pc' := 1) rfl rfl rfl ?_
  refine x_if (a' := 16) (pc' := 4) (z := decide (b < 0)) rfl rfl rfl (ic_lt (p := b) (q := 0) (gb31 hb) (by decide)) (fun h => absurd (of_decide_eq_true h) (by first | decide | omega | simp)) (fun _ => ?_)
  refine x_iload_n (pc' := 5) rfl rfl rfl ?_
  refine x_aload_n (pc' := 6) rfl rfl rfl rfl rfl ?_
  refine x_gR (pc' := 9) (r := (some 0)) rfl rfl rfl (kR_705_0 hc.1) ?_
  refine x_gR (pc' := 12) (r := (some 0)) rfl rfl rfl (kR_256_0 hc.1) ?_
  refine x_alen (pc' := 13) (N := 5) rfl rfl rfl (kN_24_0 hc.1) (?_ : X _ _ _ (.inl 5 :: _) _ _)
  refine x_icmp (a' := 27) (pc' := 16) (z := decide (b < 5)) rfl rfl rfl (ic_lt (p := b) (q := 5) (gb31 hb) (by decide)) (fun _ => ?_) (fun h => absurd hb (of_decide_eq_false h))
  refine x_aload_n (pc' := 28) rfl rfl rfl rfl rfl ?_
  refine x_gR (pc' := 31) (r := (some 0)) rfl rfl rfl (kR_705_0 hc.1) ?_
  refine x_gR (pc' := 34) (r := (some 0)) rfl rfl rfl (kR_256_0 hc.1) ?_
  refine x_iload_n (pc' := 35) rfl rfl rfl ?_
  refine x_aald (pc' := 36) (N := 5) (k' := 1) (r := (some b)) rfl rfl rfl (kN_24_0 hc.1) (io_in (p := b) (N := 5) hb (by decide)) (Eq.trans (congrArg (sE t 24 0) (nn_io (p := b) (Nat.lt_trans hb (by decide)))) (kB hc.1 hb)) ?_
  refine x_reta rfl rfl ?_
  refine sK_i (pc' := 9) rfl ?_
  refine x_cv (ls0 := [_, _, sJk, sJk, sJk, sJk, sJk, sJk, sJk, sJk, sJk, sJk, sJk, sJk]) (rest := []) rfl rfl rfl rfl rfl ?_
  exact k0
set_option maxHeartbeats 4000000 in
set_option maxRecDepth 10000 in
theorem n111_x0 {t : sT} {Q : sRs → sT → Prop} {M : sM} {n : Nat} {T : Nat} {L0 : List Nat} {A : Nat} {B : Nat} {x : Int32}
    (hW : Wc t M n T L0 A B)
    (hp : ixo x 5 = none)
    (k0 : Q (.inr 0) (sThr t)) :
    X 111 0 [.inr (.inr (11, (some 0))), .inl x] [] t Q := by
  obtain ⟨hM, hc, hR, hC, hL, hL9⟩ := hW
  refine x_aload_n (pc' := 1) rfl rfl rfl rfl rfl ?_
  refine x_gR (pc' := 4) (r := (some 0)) rfl rfl rfl (kR_708_0 hc.1) ?_
  refine x_aload_n (pc' := 5) rfl rfl rfl rfl rfl ?_
  refine x_iload_n (pc' := 6) rfl rfl rfl ?_
  refine x_cv (ls0 := [_, _]) (rest := [_]) rfl rfl rfl rfl rfl ?_
  refine b133_x ⟨hM, hc, hR, hC, hL, hL9⟩ hp ?_
  refine sK_n (by decide +kernel) rfl ?_
  exact k0
set_option maxHeartbeats 4000000 in
set_option maxRecDepth 10000 in
theorem n113 {t : sT} {Q : sRs → sT → Prop} {M : sM} {n : Nat} {T : Nat} {L0 : List Nat} {A : Nat} {B : Nat} {c : Nat}
    (hW : Wc t M n T L0 A B)
    (hc3 : c < 3)
    (k0 : Q (.inl (some (.inl (mA M 2 c)))) t) :
    X 113 0 [.inr (.inr (11, (some 0))), .inl (io c)] [] t Q := by
  obtain ⟨hM, hc, hR, hC, hL, hL9⟩ := hW
  refine x_aload_n (pc' := 1) rfl rfl rfl rfl rfl ?_
  refine x_iload_n (pc' := 2) rfl rfl rfl ?_
  refine x_cv (ls0 := [_, _]) (rest := []) rfl rfl rfl rfl rfl ?_
  refine x_iload_n (pc' := 1) rfl rfl rfl ?_
  refine x_if (a' := 16) (pc' := 4) (z := decide (c < 0)) rfl rfl rfl (ic_lt (p := c) (q := 0) (gc31 hc3) (by decide)) (fun h => absurd (of_decide_eq_true h) (by first | decide | omega | simp)) (fun _ => ?_)
  refine x_iload_n (pc' := 5) rfl rfl rfl ?_
  refine x_aload_n (pc' := 6) rfl rfl rfl rfl rfl ?_
  refine x_gR (pc' := 9) (r := (some 0)) rfl rfl rfl (kR_704_0 hc.1) ?_
  refine x_gR (pc' := 12) (r := (some 0)) rfl rfl rfl (kR_320_0 hc.1) ?_
  refine x_alen (pc' := 13) (N := 3) rfl rfl rfl (kN_25_0 hc.1) (?_ : X _ _ _ (.inl 3 :: _) _ _)
  refine x_icmp (a' := 27) (pc' := 16) (z := decide (c < 3)) rfl rfl rfl (ic_lt (p := c) (q := 3) (gc31 hc3) (by decide)) (fun _ => ?_) (fun h => absurd hc3 (of_decide_eq_false h))
  refine x_aload_n (pc' := 28) rfl rfl rfl rfl rfl ?_
  refine x_gR (pc' := 31) (r := (some 0)) rfl rfl rfl (kR_704_0 hc.1) ?_
  refine x_gR (pc' := 34) (r := (some 0)) rfl rfl rfl (kR_320_0 hc.1) ?_
  refine x_iload_n (pc' := 35) rfl rfl rfl ?_
  refine x_aald (pc' := 36) (N := 3) (k' := 2) (r := (some c)) rfl rfl rfl (kN_25_0 hc.1) (io_in (p := c) (N := 3) hc3 (by decide)) (Eq.trans (congrArg (sE t 25 0) (nn_io (p := c) (Nat.lt_trans hc3 (by decide)))) (kK hc.1 hc3)) ?_
  refine x_reta rfl rfl ?_
  refine sK_i (pc' := 5) rfl ?_
  refine x_gI (pc' := 8) (x := (mA M 2 c)) rfl rfl rfl (kA hM rfl hc3) ?_
  refine x_reti rfl rfl ?_
  exact k0
set_option maxHeartbeats 4000000 in
set_option maxRecDepth 10000 in
theorem n113_x0 {t : sT} {Q : sRs → sT → Prop} {M : sM} {n : Nat} {T : Nat} {L0 : List Nat} {A : Nat} {B : Nat} {x : Int32}
    (hW : Wc t M n T L0 A B)
    (hp : ixo x 3 = none)
    (k0 : Q (.inr 0) (sThr t)) :
    X 113 0 [.inr (.inr (11, (some 0))), .inl x] [] t Q := by
  obtain ⟨hM, hc, hR, hC, hL, hL9⟩ := hW
  refine x_aload_n (pc' := 1) rfl rfl rfl rfl rfl ?_
  refine x_iload_n (pc' := 2) rfl rfl rfl ?_
  refine x_cv (ls0 := [_, _]) (rest := []) rfl rfl rfl rfl rfl ?_
  refine b132_x ⟨hM, hc, hR, hC, hL, hL9⟩ hp ?_
  refine sK_n (by decide +kernel) rfl ?_
  exact k0
set_option maxHeartbeats 4000000 in
set_option maxRecDepth 10000 in
theorem n114 {t : sT} {Q : sRs → sT → Prop} {M : sM} {n : Nat} {T : Nat} {L0 : List Nat} {A : Nat} {B : Nat}
    (hW : Wc t M n T L0 A B)
    (k0 : Q (.inl (some (.inl (io T)))) t) :
    X 114 0 [.inr (.inr (11, (some 0)))] [] t Q := by
  obtain ⟨hM, hc, hR, hC, hL, hL9⟩ := hW
  refine x_aload_n (pc' := 1) rfl rfl rfl rfl rfl ?_
  refine x_gR (pc' := 4) (r := (some 0)) rfl rfl rfl (kR_704_0 hc.1) ?_
  refine x_gR (pc' := 7) (r := (some 0)) rfl rfl rfl (kR_322_0 hc.1) ?_
  refine x_cv (ls0 := [_]) (rest := []) rfl rfl rfl rfl rfl ?_
  refine x_aload_n (pc' := 1) rfl rfl rfl rfl rfl ?_
  refine x_gI (pc' := 4) (x := (io T)) rfl rfl rfl (Sf_T hc) ?_
  refine x_reti rfl rfl ?_
  refine sK_i (pc' := 10) rfl ?_
  refine x_reti rfl rfl ?_
  exact k0
set_option maxHeartbeats 4000000 in
set_option maxRecDepth 10000 in
theorem n115 {t : sT} {Q : sRs → sT → Prop} {M : sM} {n : Nat} {T : Nat} {L0 : List Nat} {A : Nat} {B : Nat} {o : Nat} {p : Int32}
    (hW : Wc t M n T L0 A B)
    (ho : o < T)
    (k0 : p < 0 → Q (.inr 1) (sThr t))
    (k1 : ¬ (p < 0) → ¬ (5 < p) → X 115 12 [.inr (.inr (11, (some 0))), .inl (io o), .inl p, .inr (.inr (9, (some o)))] [] t Q)
    (k2 : ¬ (p < 0) → 5 < p → Q (.inr 1) (sThr t)) :
    X 115 0 [.inr (.inr (11, (some 0))), .inl (io o), .inl p, sJk] [] t Q := by
  obtain ⟨hM, hc, hR, hC, hL, hL9⟩ := hW
  refine x_aload_n (pc' := 1) rfl rfl rfl rfl rfl ?_
  refine x_iload_n (pc' := 2) rfl rfl rfl ?_
  refine x_cv (ls0 := [_, _]) (rest := []) rfl rfl rfl rfl rfl ?_
  refine x_iload_n (pc' := 1) rfl rfl rfl ?_
  refine x_if (a' := 18) (pc' := 4) (z := decide (o < 0)) rfl rfl rfl (ic_lt (p := o) (q := 0) (Nat.lt_trans ho (gT31 hc)) (by decide)) (fun h => absurd (of_decide_eq_true h) (by first | decide | omega | simp)) (fun _ => ?_)
  refine x_iload_n (pc' := 5) rfl rfl rfl ?_
  refine x_aload_n (pc' := 6) rfl rfl rfl rfl rfl ?_
  refine x_gR (pc' := 9) (r := (some 0)) rfl rfl rfl (kR_704_0 hc.1) ?_
  refine x_gR (pc' := 12) (r := (some 0)) rfl rfl rfl (kR_322_0 hc.1) ?_
  refine x_cv (ls0 := [_]) (rest := [_]) rfl rfl rfl rfl rfl ?_
  refine x_aload_n (pc' := 1) rfl rfl rfl rfl rfl ?_
  refine x_gI (pc' := 4) (x := (io T)) rfl rfl rfl (Sf_T hc) ?_
  refine x_reti rfl rfl ?_
  refine sK_i (pc' := 15) rfl ?_
  refine x_icmp (a' := 29) (pc' := 18) (z := decide (o < T)) rfl rfl rfl (ic_lt (p := o) (q := T) (Nat.lt_trans ho (gT31 hc)) (gT31 hc)) (fun _ => ?_) (fun h => absurd ho (of_decide_eq_false h))
  refine x_aload_n (pc' := 30) rfl rfl rfl rfl rfl ?_
  refine x_gR (pc' := 33) (r := (some 0)) rfl rfl rfl (kR_704_0 hc.1) ?_
  refine x_gR (pc' := 36) (r := (some 0)) rfl rfl rfl (kR_322_0 hc.1) ?_
  refine x_iload_n (pc' := 37) rfl rfl rfl ?_
  refine x_cv (ls0 := [_, _]) (rest := []) rfl rfl rfl rfl rfl ?_
  refine Sf_gT hc ho ?_
  refine sK_i (pc' := 40) rfl ?_
  refine x_cast (pc' := 43) rfl rfl rfl ?_
  refine x_reta rfl rfl ?_
  refine sK_i (pc' := 5) rfl ?_
  refine x_astore_n (pc' := 6) (ls' := [_, _, _, _]) rfl rfl rfl rfl rfl ?_
  refine x_iload_n (pc' := 7) rfl rfl rfl ?_
  refine x_iconst (pc' := 8) rfl rfl ?_
  refine x_iconst (pc' := 9) rfl rfl ?_
  refine x_cs (ls0 := [_, _, _]) (rest := []) rfl rfl rfl rfl ?_
  refine x_iload_n (pc' := 1) rfl rfl rfl ?_
  refine x_iload_n (pc' := 2) rfl rfl rfl ?_
  refine x_icmp (a' := 10) (pc' := 5) (z := decide (p < 0)) rfl rfl rfl rfl (fun q3 => ?_) (fun q3 => ?_)
  · refine x_throw rfl rfl ?_
    refine sK_n (by decide +kernel) rfl ?_
    exact k0 (of_decide_eq_true q3)
  · refine x_iload_n (pc' := 6) rfl rfl rfl ?_
    refine x_iload_n (pc' := 7) rfl rfl rfl ?_
    refine x_icmp_n (a' := 21) (pc' := 10) (z := decide (5 < p)) rfl rfl rfl (ik_le _ _) (fun q4 => ?_) (fun q4 => ?_)
    · refine x_ret rfl ?_
      refine sK_v (pc' := 12) rfl ?_
      exact k1 (of_decide_eq_false q3) (of_decide_eq_false q4)
    · refine x_throw rfl rfl ?_
      refine sK_n (by decide +kernel) rfl ?_
      exact k2 (of_decide_eq_false q3) (of_decide_eq_true q4)
set_option maxHeartbeats 4000000 in
set_option maxRecDepth 10000 in
theorem n115_x0 {t : sT} {Q : sRs → sT → Prop} {M : sM} {n : Nat} {T : Nat} {L0 : List Nat} {A : Nat} {B : Nat} {x : Int32} {p : Int32}
    (hW : Wc t M n T L0 A B)
    (hp : ixo x T = none)
    (k0 : Q (.inr 0) (sThr t)) :
    X 115 0 [.inr (.inr (11, (some 0))), .inl x, .inl p, sJk] [] t Q := by
  obtain ⟨hM, hc, hR, hC, hL, hL9⟩ := hW
  refine x_aload_n (pc' := 1) rfl rfl rfl rfl rfl ?_
  refine x_iload_n (pc' := 2) rfl rfl rfl ?_
  refine x_cv (ls0 := [_, _]) (rest := []) rfl rfl rfl rfl rfl ?_
  refine b135_x ⟨hM, hc, hR, hC, hL, hL9⟩ hp ?_
  refine sK_n (by decide +kernel) rfl ?_
  exact k0
set_option maxHeartbeats 4000000 in
set_option maxRecDepth 10000 in
theorem n116 {t : sT} {Q : sRs → sT → Prop} {M : sM} {n : Nat} {T : Nat} {L0 : List Nat} {A : Nat} {B : Nat} {m : Nat} {c : Nat}
    (hW : Wc t M n T L0 A B)
    (hm : m < 6)
    (hc3 : c < 3)
    (k0 : Q (.inl (some (.inl (mA M 6 ((3 * m) + c))))) t) :
    X 116 0 [.inr (.inr (11, (some 0))), .inl (io m), .inl (io c), sJk] [] t Q := by
  obtain ⟨hM, hc, hR, hC, hL, hL9⟩ := hW
  refine x_aload_n (pc' := 1) rfl rfl rfl rfl rfl ?_
  refine x_iload_n (pc' := 2) rfl rfl rfl ?_
  refine x_cv (ls0 := [_, _]) (rest := []) rfl rfl rfl rfl rfl ?_
  refine x_iload_n (pc' := 1) rfl rfl rfl ?_
  refine x_if (a' := 16) (pc' := 4) (z := decide (m < 0)) rfl rfl rfl (ic_lt (p := m) (q := 0) (gm31 hm) (by decide)) (fun h => absurd (of_decide_eq_true h) (by first | decide | omega | simp)) (fun _ => ?_)
  refine x_iload_n (pc' := 5) rfl rfl rfl ?_
  refine x_aload_n (pc' := 6) rfl rfl rfl rfl rfl ?_
  refine x_gR (pc' := 9) (r := (some 0)) rfl rfl rfl (kR_704_0 hc.1) ?_
  refine x_gR (pc' := 12) (r := (some 0)) rfl rfl rfl (kR_321_0 hc.1) ?_
  refine x_alen (pc' := 13) (N := 6) rfl rfl rfl (kN_26_0 hc.1) (?_ : X _ _ _ (.inl 6 :: _) _ _)
  refine x_icmp (a' := 27) (pc' := 16) (z := decide (m < 6)) rfl rfl rfl (ic_lt (p := m) (q := 6) (gm31 hm) (by decide)) (fun _ => ?_) (fun h => absurd hm (of_decide_eq_false h))
  refine x_aload_n (pc' := 28) rfl rfl rfl rfl rfl ?_
  refine x_gR (pc' := 31) (r := (some 0)) rfl rfl rfl (kR_704_0 hc.1) ?_
  refine x_gR (pc' := 34) (r := (some 0)) rfl rfl rfl (kR_321_0 hc.1) ?_
  refine x_iload_n (pc' := 35) rfl rfl rfl ?_
  refine x_aald (pc' := 36) (N := 6) (k' := 7) (r := (some m)) rfl rfl rfl (kN_26_0 hc.1) (io_in (p := m) (N := 6) hm (by decide)) (Eq.trans (congrArg (sE t 26 0) (nn_io (p := m) (Nat.lt_trans hm (by decide)))) (kM hc.1 hm)) ?_
  refine x_reta rfl rfl ?_
  refine sK_i (pc' := 5) rfl ?_
  refine x_astore_n (pc' := 6) (ls' := [_, _, _, _]) rfl rfl rfl rfl rfl ?_
  refine x_aload_n (pc' := 7) rfl rfl rfl rfl rfl ?_
  refine x_aload_n (pc' := 8) rfl rfl rfl rfl rfl ?_
  refine x_iload_n (pc' := 9) rfl rfl rfl ?_
  refine x_cv (ls0 := [_, _]) (rest := [_]) rfl rfl rfl rfl rfl ?_
  refine x_iload_n (pc' := 1) rfl rfl rfl ?_
  refine x_if (a' := 16) (pc' := 4) (z := decide (c < 0)) rfl rfl rfl (ic_lt (p := c) (q := 0) (gc31 hc3) (by decide)) (fun h => absurd (of_decide_eq_true h) (by first | decide | omega | simp)) (fun _ => ?_)
  refine x_iload_n (pc' := 5) rfl rfl rfl ?_
  refine x_aload_n (pc' := 6) rfl rfl rfl rfl rfl ?_
  refine x_gR (pc' := 9) (r := (some 0)) rfl rfl rfl (kR_704_0 hc.1) ?_
  refine x_gR (pc' := 12) (r := (some 0)) rfl rfl rfl (kR_320_0 hc.1) ?_
  refine x_alen (pc' := 13) (N := 3) rfl rfl rfl (kN_25_0 hc.1) (?_ : X _ _ _ (.inl 3 :: _) _ _)
  refine x_icmp (a' := 27) (pc' := 16) (z := decide (c < 3)) rfl rfl rfl (ic_lt (p := c) (q := 3) (gc31 hc3) (by decide)) (fun _ => ?_) (fun h => absurd hc3 (of_decide_eq_false h))
  refine x_aload_n (pc' := 28) rfl rfl rfl rfl rfl ?_
  refine x_gR (pc' := 31) (r := (some 0)) rfl rfl rfl (kR_704_0 hc.1) ?_
  refine x_gR (pc' := 34) (r := (some 0)) rfl rfl rfl (kR_320_0 hc.1) ?_
  refine x_iload_n (pc' := 35) rfl rfl rfl ?_
  refine x_aald (pc' := 36) (N := 3) (k' := 2) (r := (some c)) rfl rfl rfl (kN_25_0 hc.1) (io_in (p := c) (N := 3) hc3 (by decide)) (Eq.trans (congrArg (sE t 25 0) (nn_io (p := c) (Nat.lt_trans hc3 (by decide)))) (kK hc.1 hc3)) ?_
  refine x_reta rfl rfl ?_
  refine sK_i (pc' := 12) rfl ?_
  refine x_cv (ls0 := [_, _, sJk]) (rest := []) rfl rfl rfl rfl rfl ?_
  refine x_aload_n (pc' := 1) rfl rfl rfl rfl rfl ?_
  refine x_gI (pc' := 4) (x := (io c)) rfl rfl rfl (kKn hc.1 hc3) ?_
  refine x_istore_n (pc' := 5) (ls' := [_, _, _]) rfl rfl rfl rfl ?_
  refine x_iload_n (pc' := 6) rfl rfl rfl ?_
  refine x_if (a' := 27) (pc' := 9) (z := decide (c < 0)) rfl rfl rfl (ic_lt (p := c) (q := 0) (gc31 hc3) (by decide)) (fun h => absurd (of_decide_eq_true h) (by first | decide | omega | simp)) (fun _ => ?_)
  refine x_iload_n (pc' := 10) rfl rfl rfl ?_
  refine x_aload_n (pc' := 11) rfl rfl rfl rfl rfl ?_
  refine x_gR (pc' := 14) (r := (some (m + 1))) rfl rfl rfl (kMp hc.1 hm).1 ?_
  refine x_alen (pc' := 15) (N := 3) rfl rfl rfl (kMp hc.1 hm).2.1 (?_ : X _ _ _ (.inl 3 :: _) _ _)
  refine x_icmp_n (a' := 27) (pc' := 18) (z := decide (c < 3)) rfl rfl rfl (ic_gen (p := c) (q := 3) (gc31 hc3) (by decide)) (fun h => absurd hc3 (of_decide_eq_false h)) (fun _ => ?_)
  refine x_aload_n (pc' := 19) rfl rfl rfl rfl rfl ?_
  refine x_gR (pc' := 22) (r := (some (m + 1))) rfl rfl rfl (kMp hc.1 hm).1 ?_
  refine x_iload_n (pc' := 23) rfl rfl rfl ?_
  refine x_iald (pc' := 24) (N := 3) (x := (mA M 6 ((3 * m) + c))) rfl rfl rfl (kMp hc.1 hm).2.1 (io_in (p := c) (N := 3) hc3 (by decide)) (Eq.trans (congrArg (sA t 20 (m + 1)) (nn_io (p := c) (Nat.lt_trans hc3 (by decide)))) (kP (m := m) (c := c) hM hm hc3)) ?_
  refine x_goto (pc' := 28) rfl rfl ?_
  refine x_reti rfl rfl ?_
  refine sK_i (pc' := 15) rfl ?_
  refine x_reti rfl rfl ?_
  exact k0
set_option maxHeartbeats 4000000 in
set_option maxRecDepth 10000 in
theorem n116_x0 {t : sT} {Q : sRs → sT → Prop} {M : sM} {n : Nat} {T : Nat} {L0 : List Nat} {A : Nat} {B : Nat} {x : Int32} {x1 : Int32}
    (hW : Wc t M n T L0 A B)
    (hp : ixo x 6 = none)
    (k0 : Q (.inr 0) (sThr t)) :
    X 116 0 [.inr (.inr (11, (some 0))), .inl x, .inl x1, sJk] [] t Q := by
  obtain ⟨hM, hc, hR, hC, hL, hL9⟩ := hW
  refine x_aload_n (pc' := 1) rfl rfl rfl rfl rfl ?_
  refine x_iload_n (pc' := 2) rfl rfl rfl ?_
  refine x_cv (ls0 := [_, _]) (rest := []) rfl rfl rfl rfl rfl ?_
  refine b131_x ⟨hM, hc, hR, hC, hL, hL9⟩ hp ?_
  refine sK_n (by decide +kernel) rfl ?_
  exact k0
set_option maxHeartbeats 4000000 in
set_option maxRecDepth 10000 in
theorem n116_x1 {t : sT} {Q : sRs → sT → Prop} {M : sM} {n : Nat} {T : Nat} {L0 : List Nat} {A : Nat} {B : Nat} {m : Nat} {x : Int32}
    (hW : Wc t M n T L0 A B)
    (hm : m < 6)
    (hp : ixo x 3 = none)
    (k0 : Q (.inr 0) (sThr t)) :
    X 116 0 [.inr (.inr (11, (some 0))), .inl (io m), .inl x, sJk] [] t Q := by
  obtain ⟨hM, hc, hR, hC, hL, hL9⟩ := hW
  refine x_aload_n (pc' := 1) rfl rfl rfl rfl rfl ?_
  refine x_iload_n (pc' := 2) rfl rfl rfl ?_
  refine x_cv (ls0 := [_, _]) (rest := []) rfl rfl rfl rfl rfl ?_
  refine x_iload_n (pc' := 1) rfl rfl rfl ?_
  refine x_if (a' := 16) (pc' := 4) (z := decide (m < 0)) rfl rfl rfl (ic_lt (p := m) (q := 0) (gm31 hm) (by decide)) (fun h => absurd (of_decide_eq_true h) (by first | decide | omega | simp)) (fun _ => ?_)
  refine x_iload_n (pc' := 5) rfl rfl rfl ?_
  refine x_aload_n (pc' := 6) rfl rfl rfl rfl rfl ?_
  refine x_gR (pc' := 9) (r := (some 0)) rfl rfl rfl (kR_704_0 hc.1) ?_
  refine x_gR (pc' := 12) (r := (some 0)) rfl rfl rfl (kR_321_0 hc.1) ?_
  refine x_alen (pc' := 13) (N := 6) rfl rfl rfl (kN_26_0 hc.1) (?_ : X _ _ _ (.inl 6 :: _) _ _)
  refine x_icmp (a' := 27) (pc' := 16) (z := decide (m < 6)) rfl rfl rfl (ic_lt (p := m) (q := 6) (gm31 hm) (by decide)) (fun _ => ?_) (fun h => absurd hm (of_decide_eq_false h))
  refine x_aload_n (pc' := 28) rfl rfl rfl rfl rfl ?_
  refine x_gR (pc' := 31) (r := (some 0)) rfl rfl rfl (kR_704_0 hc.1) ?_
  refine x_gR (pc' := 34) (r := (some 0)) rfl rfl rfl (kR_321_0 hc.1) ?_
  refine x_iload_n (pc' := 35) rfl rfl rfl ?_
  refine x_aald (pc' := 36) (N := 6) (k' := 7) (r := (some m)) rfl rfl rfl (kN_26_0 hc.1) (io_in (p := m) (N := 6) hm (by decide)) (Eq.trans (congrArg (sE t 26 0) (nn_io (p := m) (Nat.lt_trans hm (by decide)))) (kM hc.1 hm)) ?_
  refine x_reta rfl rfl ?_
  refine sK_i (pc' := 5) rfl ?_
  refine x_astore_n (pc' := 6) (ls' := [_, _, _, _]) rfl rfl rfl rfl rfl ?_
  refine x_aload_n (pc' := 7) rfl rfl rfl rfl rfl ?_
  refine x_aload_n (pc' := 8) rfl rfl rfl rfl rfl ?_
  refine x_iload_n (pc' := 9) rfl rfl rfl ?_
  refine x_cv (ls0 := [_, _]) (rest := [_]) rfl rfl rfl rfl rfl ?_
  refine b132_x ⟨hM, hc, hR, hC, hL, hL9⟩ hp ?_
  refine sK_n (by decide +kernel) rfl ?_
  exact k0
set_option maxHeartbeats 4000000 in
set_option maxRecDepth 10000 in
theorem n117 {t : sT} {Q : sRs → sT → Prop} {M : sM} {n : Nat} {T : Nat} {L0 : List Nat} {A : Nat} {B : Nat} {m : Nat} {c : Nat}
    (hW : Wc t M n T L0 A B)
    (hm : m < 6)
    (hc3 : c < 3)
    (k0 : X 48 0 [.inr (.inr (5, (some 0))), .inr (.inr (7, (some m))), .inr (.inr (2, (some c))), sJk, sJk, sJk] [] t (sK 48 117 16 [.inr (.inr (11, (some 0))), .inl (io m), .inl (io c), .inr (.inr (7, (some m)))] [] Q)) :
    X 117 0 [.inr (.inr (11, (some 0))), .inl (io m), .inl (io c), sJk] [] t Q := by
  obtain ⟨hM, hc, hR, hC, hL, hL9⟩ := hW
  refine x_aload_n (pc' := 1) rfl rfl rfl rfl rfl ?_
  refine x_iload_n (pc' := 2) rfl rfl rfl ?_
  refine x_cv (ls0 := [_, _]) (rest := []) rfl rfl rfl rfl rfl ?_
  refine x_iload_n (pc' := 1) rfl rfl rfl ?_
  refine x_if (a' := 16) (pc' := 4) (z := decide (m < 0)) rfl rfl rfl (ic_lt (p := m) (q := 0) (gm31 hm) (by decide)) (fun h => absurd (of_decide_eq_true h) (by first | decide | omega | simp)) (fun _ => ?_)
  refine x_iload_n (pc' := 5) rfl rfl rfl ?_
  refine x_aload_n (pc' := 6) rfl rfl rfl rfl rfl ?_
  refine x_gR (pc' := 9) (r := (some 0)) rfl rfl rfl (kR_704_0 hc.1) ?_
  refine x_gR (pc' := 12) (r := (some 0)) rfl rfl rfl (kR_321_0 hc.1) ?_
  refine x_alen (pc' := 13) (N := 6) rfl rfl rfl (kN_26_0 hc.1) (?_ : X _ _ _ (.inl 6 :: _) _ _)
  refine x_icmp (a' := 27) (pc' := 16) (z := decide (m < 6)) rfl rfl rfl (ic_lt (p := m) (q := 6) (gm31 hm) (by decide)) (fun _ => ?_) (fun h => absurd hm (of_decide_eq_false h))
  refine x_aload_n (pc' := 28) rfl rfl rfl rfl rfl ?_
  refine x_gR (pc' := 31) (r := (some 0)) rfl rfl rfl (kR_704_0 hc.1) ?_
  refine x_gR (pc' := 34) (r := (some 0)) rfl rfl rfl (kR_321_0 hc.1) ?_
  refine x_iload_n (pc' := 35) rfl rfl rfl ?_
  refine x_aald (pc' := 36) (N := 6) (k' := 7) (r := (some m)) rfl rfl rfl (kN_26_0 hc.1) (io_in (p := m) (N := 6) hm (by decide)) (Eq.trans (congrArg (sE t 26 0) (nn_io (p := m) (Nat.lt_trans hm (by decide)))) (kM hc.1 hm)) ?_
  refine x_reta rfl rfl ?_
  refine sK_i (pc' := 5) rfl ?_
  refine x_astore_n (pc' := 6) (ls' := [_, _, _, _]) rfl rfl rfl rfl rfl ?_
  refine x_aload_n (pc' := 7) rfl rfl rfl rfl rfl ?_
  refine x_gR (pc' := 10) (r := (some 0)) rfl rfl rfl (kR_704_0 hc.1) ?_
  refine x_aload_n (pc' := 11) rfl rfl rfl rfl rfl ?_
  refine x_aload_n (pc' := 12) rfl rfl rfl rfl rfl ?_
  refine x_iload_n (pc' := 13) rfl rfl rfl ?_
  refine x_cv (ls0 := [_, _]) (rest := [_, _]) rfl rfl rfl rfl rfl ?_
  refine x_iload_n (pc' := 1) rfl rfl rfl ?_
  refine x_if (a' := 16) (pc' := 4) (z := decide (c < 0)) rfl rfl rfl (ic_lt (p := c) (q := 0) (gc31 hc3) (by decide)) (fun h => absurd (of_decide_eq_true h) (by first | decide | omega | simp)) (fun _ => ?_)
  refine x_iload_n (pc' := 5) rfl rfl rfl ?_
  refine x_aload_n (pc' := 6) rfl rfl rfl rfl rfl ?_
  refine x_gR (pc' := 9) (r := (some 0)) rfl rfl rfl (kR_704_0 hc.1) ?_
  refine x_gR (pc' := 12) (r := (some 0)) rfl rfl rfl (kR_320_0 hc.1) ?_
  refine x_alen (pc' := 13) (N := 3) rfl rfl rfl (kN_25_0 hc.1) (?_ : X _ _ _ (.inl 3 :: _) _ _)
  refine x_icmp (a' := 27) (pc' := 16) (z := decide (c < 3)) rfl rfl rfl (ic_lt (p := c) (q := 3) (gc31 hc3) (by decide)) (fun _ => ?_) (fun h => absurd hc3 (of_decide_eq_false h))
  refine x_aload_n (pc' := 28) rfl rfl rfl rfl rfl ?_
  refine x_gR (pc' := 31) (r := (some 0)) rfl rfl rfl (kR_704_0 hc.1) ?_
  refine x_gR (pc' := 34) (r := (some 0)) rfl rfl rfl (kR_320_0 hc.1) ?_
  refine x_iload_n (pc' := 35) rfl rfl rfl ?_
  refine x_aald (pc' := 36) (N := 3) (k' := 2) (r := (some c)) rfl rfl rfl (kN_25_0 hc.1) (io_in (p := c) (N := 3) hc3 (by decide)) (Eq.trans (congrArg (sE t 25 0) (nn_io (p := c) (Nat.lt_trans hc3 (by decide)))) (kK hc.1 hc3)) ?_
  refine x_reta rfl rfl ?_
  refine sK_i (pc' := 16) rfl ?_
  refine x_cv (ls0 := [_, _, _, sJk, sJk, sJk]) (rest := []) rfl rfl rfl rfl rfl ?_
  exact k0
set_option maxHeartbeats 4000000 in
set_option maxRecDepth 10000 in
theorem n117_x0 {t : sT} {Q : sRs → sT → Prop} {M : sM} {n : Nat} {T : Nat} {L0 : List Nat} {A : Nat} {B : Nat} {x : Int32} {x1 : Int32}
    (hW : Wc t M n T L0 A B)
    (hp : ixo x 6 = none)
    (k0 : Q (.inr 0) (sThr t)) :
    X 117 0 [.inr (.inr (11, (some 0))), .inl x, .inl x1, sJk] [] t Q := by
  obtain ⟨hM, hc, hR, hC, hL, hL9⟩ := hW
  refine x_aload_n (pc' := 1) rfl rfl rfl rfl rfl ?_
  refine x_iload_n (pc' := 2) rfl rfl rfl ?_
  refine x_cv (ls0 := [_, _]) (rest := []) rfl rfl rfl rfl rfl ?_
  refine b131_x ⟨hM, hc, hR, hC, hL, hL9⟩ hp ?_
  refine sK_n (by decide +kernel) rfl ?_
  exact k0
set_option maxHeartbeats 4000000 in
set_option maxRecDepth 10000 in
theorem n117_x1 {t : sT} {Q : sRs → sT → Prop} {M : sM} {n : Nat} {T : Nat} {L0 : List Nat} {A : Nat} {B : Nat} {m : Nat} {x : Int32}
    (hW : Wc t M n T L0 A B)
    (hm : m < 6)
    (hp : ixo x 3 = none)
    (k0 : Q (.inr 0) (sThr t)) :
    X 117 0 [.inr (.inr (11, (some 0))), .inl (io m), .inl x, sJk] [] t Q := by
  obtain ⟨hM, hc, hR, hC, hL, hL9⟩ := hW
  refine x_aload_n (pc' := 1) rfl rfl rfl rfl rfl ?_
  refine x_iload_n (pc' := 2) rfl rfl rfl ?_
  refine x_cv (ls0 := [_, _]) (rest := []) rfl rfl rfl rfl rfl ?_
  refine x_iload_n (pc' := 1) rfl rfl rfl ?_
  refine x_if (a' := 16) (pc' := 4) (z := decide (m < 0)) rfl rfl rfl (ic_lt (p := m) (q := 0) (gm31 hm) (by decide)) (fun h => absurd (of_decide_eq_true h) (by first | decide | omega | simp)) (fun _ => ?_)
  refine x_iload_n (pc' := 5) rfl rfl rfl ?_
  refine x_aload_n (pc' := 6) rfl rfl rfl rfl rfl ?_
  refine x_gR (pc' := 9) (r := (some 0)) rfl rfl rfl (kR_704_0 hc.1) ?_
  refine x_gR (pc' := 12) (r := (some 0)) rfl rfl rfl (kR_321_0 hc.1) ?_
  refine x_alen (pc' := 13) (N := 6) rfl rfl rfl (kN_26_0 hc.1) (?_ : X _ _ _ (.inl 6 :: _) _ _)
  refine x_icmp (a' := 27) (pc' := 16) (z := decide (m < 6)) rfl rfl rfl (ic_lt (p := m) (q := 6) (gm31 hm) (by decide)) (fun _ => ?_) (fun h => absurd hm (of_decide_eq_false h))
  refine x_aload_n (pc' := 28) rfl rfl rfl rfl rfl ?_
  refine x_gR (pc' := 31) (r := (some 0)) rfl rfl rfl (kR_704_0 hc.1) ?_
  refine x_gR (pc' := 34) (r := (some 0)) rfl rfl rfl (kR_321_0 hc.1) ?_
  refine x_iload_n (pc' := 35) rfl rfl rfl ?_
  refine x_aald (pc' := 36) (N := 6) (k' := 7) (r := (some m)) rfl rfl rfl (kN_26_0 hc.1) (io_in (p := m) (N := 6) hm (by decide)) (Eq.trans (congrArg (sE t 26 0) (nn_io (p := m) (Nat.lt_trans hm (by decide)))) (kM hc.1 hm)) ?_
  refine x_reta rfl rfl ?_
  refine sK_i (pc' := 5) rfl ?_
  refine x_astore_n (pc' := 6) (ls' := [_, _, _, _]) rfl rfl rfl rfl rfl ?_
  refine x_aload_n (pc' := 7) rfl rfl rfl rfl rfl ?_
  refine x_gR (pc' := 10) (r := (some 0)) rfl rfl rfl (kR_704_0 hc.1) ?_
  refine x_aload_n (pc' := 11) rfl rfl rfl rfl rfl ?_
  refine x_aload_n (pc' := 12) rfl rfl rfl rfl rfl ?_
  refine x_iload_n (pc' := 13) rfl rfl rfl ?_
  refine x_cv (ls0 := [_, _]) (rest := [_, _]) rfl rfl rfl rfl rfl ?_
  refine b132_x ⟨hM, hc, hR, hC, hL, hL9⟩ hp ?_
  refine sK_n (by decide +kernel) rfl ?_
  exact k0
set_option maxHeartbeats 4000000 in
set_option maxRecDepth 10000 in
theorem n118 {t : sT} {Q : sRs → sT → Prop} {M : sM} {n : Nat} {T : Nat} {L0 : List Nat} {A : Nat} {B : Nat} {m : Nat}
    (hW : Wc t M n T L0 A B)
    (hm : m < 6)
    (k0 : Q (.inl (some (.inl (mA M 5 m)))) t) :
    X 118 0 [.inr (.inr (11, (some 0))), .inl (io m)] [] t Q := by
  obtain ⟨hM, hc, hR, hC, hL, hL9⟩ := hW
  refine x_aload_n (pc' := 1) rfl rfl rfl rfl rfl ?_
  refine x_iload_n (pc' := 2) rfl rfl rfl ?_
  refine x_cv (ls0 := [_, _]) (rest := []) rfl rfl rfl rfl rfl ?_
  refine x_iload_n (pc' := 1) rfl rfl rfl ?_
  refine x_if (a' := 16) (pc' := 4) (z := decide (m < 0)) rfl rfl rfl (ic_lt (p := m) (q := 0) (gm31 hm) (by decide)) (fun h => absurd (of_decide_eq_true h) (by first | decide | omega | simp)) (fun _ => ?_)
  refine x_iload_n (pc' := 5) rfl rfl rfl ?_
  refine x_aload_n (pc' := 6) rfl rfl rfl rfl rfl ?_
  refine x_gR (pc' := 9) (r := (some 0)) rfl rfl rfl (kR_704_0 hc.1) ?_
  refine x_gR (pc' := 12) (r := (some 0)) rfl rfl rfl (kR_321_0 hc.1) ?_
  refine x_alen (pc' := 13) (N := 6) rfl rfl rfl (kN_26_0 hc.1) (?_ : X _ _ _ (.inl 6 :: _) _ _)
  refine x_icmp (a' := 27) (pc' := 16) (z := decide (m < 6)) rfl rfl rfl (ic_lt (p := m) (q := 6) (gm31 hm) (by decide)) (fun _ => ?_) (fun h => absurd hm (of_decide_eq_false h))
  refine x_aload_n (pc' := 28) rfl rfl rfl rfl rfl ?_
  refine x_gR (pc' := 31) (r := (some 0)) rfl rfl rfl (kR_704_0 hc.1) ?_
  refine x_gR (pc' := 34) (r := (some 0)) rfl rfl rfl (kR_321_0 hc.1) ?_
  refine x_iload_n (pc' := 35) rfl rfl rfl ?_
  refine x_aald (pc' := 36) (N := 6) (k' := 7) (r := (some m)) rfl rfl rfl (kN_26_0 hc.1) (io_in (p := m) (N := 6) hm (by decide)) (Eq.trans (congrArg (sE t 26 0) (nn_io (p := m) (Nat.lt_trans hm (by decide)))) (kM hc.1 hm)) ?_
  refine x_reta rfl rfl ?_
  refine sK_i (pc' := 5) rfl ?_
  refine x_gI (pc' := 8) (x := (mA M 5 m)) rfl rfl rfl (kA hM rfl hm) ?_
  refine x_reti rfl rfl ?_
  exact k0
set_option maxHeartbeats 4000000 in
set_option maxRecDepth 10000 in
theorem n118_x0 {t : sT} {Q : sRs → sT → Prop} {M : sM} {n : Nat} {T : Nat} {L0 : List Nat} {A : Nat} {B : Nat} {x : Int32}
    (hW : Wc t M n T L0 A B)
    (hp : ixo x 6 = none)
    (k0 : Q (.inr 0) (sThr t)) :
    X 118 0 [.inr (.inr (11, (some 0))), .inl x] [] t Q := by
  obtain ⟨hM, hc, hR, hC, hL, hL9⟩ := hW
  refine x_aload_n (pc' := 1) rfl rfl rfl rfl rfl ?_
  refine x_iload_n (pc' := 2) rfl rfl rfl ?_
  refine x_cv (ls0 := [_, _]) (rest := []) rfl rfl rfl rfl rfl ?_
  refine b131_x ⟨hM, hc, hR, hC, hL, hL9⟩ hp ?_
  refine sK_n (by decide +kernel) rfl ?_
  exact k0
set_option maxHeartbeats 4000000 in
set_option maxRecDepth 10000 in
theorem n119 {t : sT} {Q : sRs → sT → Prop} {M : sM} {n : Nat} {T : Nat} {L0 : List Nat} {A : Nat} {B : Nat} {m : Nat}
    (hW : Wc t M n T L0 A B)
    (hm : m < 6)
    (k0 : Q (.inl (some (.inl (cfdF M n m)))) t) :
    X 119 0 [.inr (.inr (11, (some 0))), .inl (io m)] [] t Q := by
  obtain ⟨hM, hc, hR, hC, hL, hL9⟩ := hW
  refine x_aload_n (pc' := 1) rfl rfl rfl rfl rfl ?_
  refine x_gR (pc' := 4) (r := (some 0)) rfl rfl rfl (kR_704_0 hc.1) ?_
  refine x_aload_n (pc' := 5) rfl rfl rfl rfl rfl ?_
  refine x_iload_n (pc' := 6) rfl rfl rfl ?_
  refine x_cv (ls0 := [_, _]) (rest := [_]) rfl rfl rfl rfl rfl ?_
  refine x_iload_n (pc' := 1) rfl rfl rfl ?_
  refine x_if (a' := 16) (pc' := 4) (z := decide (m < 0)) rfl rfl rfl (ic_lt (p := m) (q := 0) (gm31 hm) (by decide)) (fun h => absurd (of_decide_eq_true h) (by first | decide | omega | simp)) (fun _ => ?_)
  refine x_iload_n (pc' := 5) rfl rfl rfl ?_
  refine x_aload_n (pc' := 6) rfl rfl rfl rfl rfl ?_
  refine x_gR (pc' := 9) (r := (some 0)) rfl rfl rfl (kR_704_0 hc.1) ?_
  refine x_gR (pc' := 12) (r := (some 0)) rfl rfl rfl (kR_321_0 hc.1) ?_
  refine x_alen (pc' := 13) (N := 6) rfl rfl rfl (kN_26_0 hc.1) (?_ : X _ _ _ (.inl 6 :: _) _ _)
  refine x_icmp (a' := 27) (pc' := 16) (z := decide (m < 6)) rfl rfl rfl (ic_lt (p := m) (q := 6) (gm31 hm) (by decide)) (fun _ => ?_) (fun h => absurd hm (of_decide_eq_false h))
  refine x_aload_n (pc' := 28) rfl rfl rfl rfl rfl ?_
  refine x_gR (pc' := 31) (r := (some 0)) rfl rfl rfl (kR_704_0 hc.1) ?_
  refine x_gR (pc' := 34) (r := (some 0)) rfl rfl rfl (kR_321_0 hc.1) ?_
  refine x_iload_n (pc' := 35) rfl rfl rfl ?_
  refine x_aald (pc' := 36) (N := 6) (k' := 7) (r := (some m)) rfl rfl rfl (kN_26_0 hc.1) (io_in (p := m) (N := 6) hm (by decide)) (Eq.trans (congrArg (sE t 26 0) (nn_io (p := m) (Nat.lt_trans hm (by decide)))) (kM hc.1 hm)) ?_
  refine x_reta rfl rfl ?_
  refine sK_i (pc' := 9) rfl ?_
  refine x_cv (ls0 := [_, _, sJk, sJk, sJk, sJk, sJk]) (rest := []) rfl rfl rfl rfl rfl ?_
  refine c49 hM hc (Fr.ri (Fr.refl _) hR) hm ?_
  refine sK_i (pc' := 12) rfl ?_
  refine x_reti rfl rfl ?_
  exact k0
set_option maxHeartbeats 4000000 in
set_option maxRecDepth 10000 in
theorem n119_x0 {t : sT} {Q : sRs → sT → Prop} {M : sM} {n : Nat} {T : Nat} {L0 : List Nat} {A : Nat} {B : Nat} {x : Int32}
    (hW : Wc t M n T L0 A B)
    (hp : ixo x 6 = none)
    (k0 : Q (.inr 0) (sThr t)) :
    X 119 0 [.inr (.inr (11, (some 0))), .inl x] [] t Q := by
  obtain ⟨hM, hc, hR, hC, hL, hL9⟩ := hW
  refine x_aload_n (pc' := 1) rfl rfl rfl rfl rfl ?_
  refine x_gR (pc' := 4) (r := (some 0)) rfl rfl rfl (kR_704_0 hc.1) ?_
  refine x_aload_n (pc' := 5) rfl rfl rfl rfl rfl ?_
  refine x_iload_n (pc' := 6) rfl rfl rfl ?_
  refine x_cv (ls0 := [_, _]) (rest := [_]) rfl rfl rfl rfl rfl ?_
  refine b131_x ⟨hM, hc, hR, hC, hL, hL9⟩ hp ?_
  refine sK_n (by decide +kernel) rfl ?_
  exact k0
set_option maxHeartbeats 4000000 in
set_option maxRecDepth 10000 in
theorem n120 {t : sT} {Q : sRs → sT → Prop} {M : sM} {n : Nat} {T : Nat} {L0 : List Nat} {A : Nat} {B : Nat} {m : Nat}
    (hW : Wc t M n T L0 A B)
    (hm : m < 6)
    (k0 : Q (.inl (some (.inl (cmgF M n m)))) t) :
    X 120 0 [.inr (.inr (11, (some 0))), .inl (io m)] [] t Q := by
  obtain ⟨hM, hc, hR, hC, hL, hL9⟩ := hW
  refine x_aload_n (pc' := 1) rfl rfl rfl rfl rfl ?_
  refine x_gR (pc' := 4) (r := (some 0)) rfl rfl rfl (kR_704_0 hc.1) ?_
  refine x_aload_n (pc' := 5) rfl rfl rfl rfl rfl ?_
  refine x_iload_n (pc' := 6) rfl rfl rfl ?_
  refine x_cv (ls0 := [_, _]) (rest := [_]) rfl rfl rfl rfl rfl ?_
  refine x_iload_n (pc' := 1) rfl rfl rfl ?_
  refine x_if (a' := 16) (pc' := 4) (z := decide (m < 0)) rfl rfl rfl (ic_lt (p := m) (q := 0) (gm31 hm) (by decide)) (fun h => absurd (of_decide_eq_true h) (by first | decide | omega | simp)) (fun _ => ?_)
  refine x_iload_n (pc' := 5) rfl rfl rfl ?_
  refine x_aload_n (pc' := 6) rfl rfl rfl rfl rfl ?_
  refine x_gR (pc' := 9) (r := (some 0)) rfl rfl rfl (kR_704_0 hc.1) ?_
  refine x_gR (pc' := 12) (r := (some 0)) rfl rfl rfl (kR_321_0 hc.1) ?_
  refine x_alen (pc' := 13) (N := 6) rfl rfl rfl (kN_26_0 hc.1) (?_ : X _ _ _ (.inl 6 :: _) _ _)
  refine x_icmp (a' := 27) (pc' := 16) (z := decide (m < 6)) rfl rfl rfl (ic_lt (p := m) (q := 6) (gm31 hm) (by decide)) (fun _ => ?_) (fun h => absurd hm (of_decide_eq_false h))
  refine x_aload_n (pc' := 28) rfl rfl rfl rfl rfl ?_
  refine x_gR (pc' := 31) (r := (some 0)) rfl rfl rfl (kR_704_0 hc.1) ?_
  refine x_gR (pc' := 34) (r := (some 0)) rfl rfl rfl (kR_321_0 hc.1) ?_
  refine x_iload_n (pc' := 35) rfl rfl rfl ?_
  refine x_aald (pc' := 36) (N := 6) (k' := 7) (r := (some m)) rfl rfl rfl (kN_26_0 hc.1) (io_in (p := m) (N := 6) hm (by decide)) (Eq.trans (congrArg (sE t 26 0) (nn_io (p := m) (Nat.lt_trans hm (by decide)))) (kM hc.1 hm)) ?_
  refine x_reta rfl rfl ?_
  refine sK_i (pc' := 9) rfl ?_
  refine x_null (pc' := 10) rfl rfl rfl ?_
  refine x_cv (ls0 := [_, _, _, sJk, sJk, sJk, sJk, sJk, sJk, sJk, sJk]) (rest := []) rfl rfl rfl rfl rfl ?_
  refine c50n hM hc (Fr.ri (Fr.refl _) hR) hm ?_
  refine sK_i (pc' := 13) rfl ?_
  refine x_reti rfl rfl ?_
  exact k0
set_option maxHeartbeats 4000000 in
set_option maxRecDepth 10000 in
theorem n120_x0 {t : sT} {Q : sRs → sT → Prop} {M : sM} {n : Nat} {T : Nat} {L0 : List Nat} {A : Nat} {B : Nat} {x : Int32}
    (hW : Wc t M n T L0 A B)
    (hp : ixo x 6 = none)
    (k0 : Q (.inr 0) (sThr t)) :
    X 120 0 [.inr (.inr (11, (some 0))), .inl x] [] t Q := by
  obtain ⟨hM, hc, hR, hC, hL, hL9⟩ := hW
  refine x_aload_n (pc' := 1) rfl rfl rfl rfl rfl ?_
  refine x_gR (pc' := 4) (r := (some 0)) rfl rfl rfl (kR_704_0 hc.1) ?_
  refine x_aload_n (pc' := 5) rfl rfl rfl rfl rfl ?_
  refine x_iload_n (pc' := 6) rfl rfl rfl ?_
  refine x_cv (ls0 := [_, _]) (rest := [_]) rfl rfl rfl rfl rfl ?_
  refine b131_x ⟨hM, hc, hR, hC, hL, hL9⟩ hp ?_
  refine sK_n (by decide +kernel) rfl ?_
  exact k0
set_option maxHeartbeats 4000000 in
set_option maxRecDepth 10000 in
theorem n121 {t : sT} {Q : sRs → sT → Prop} {M : sM} {n : Nat} {T : Nat} {L0 : List Nat} {A : Nat} {B : Nat} {m : Nat}
    (hW : Wc t M n T L0 A B)
    (hm : m < 6)
    (k0 : X 137 0 [.inr (.inr (11, (some 0))), .inr (.inr (7, (some m)))] [] t (sK 137 121 6 [.inr (.inr (11, (some 0))), .inl (io m)] [] Q)) :
    X 121 0 [.inr (.inr (11, (some 0))), .inl (io m)] [] t Q := by
  obtain ⟨hM, hc, hR, hC, hL, hL9⟩ := hW
  refine x_aload_n (pc' := 1) rfl rfl rfl rfl rfl ?_
  refine x_aload_n (pc' := 2) rfl rfl rfl rfl rfl ?_
  refine x_iload_n (pc' := 3) rfl rfl rfl ?_
  refine x_cv (ls0 := [_, _]) (rest := [_]) rfl rfl rfl rfl rfl ?_
  refine x_iload_n (pc' := 1) rfl rfl rfl ?_
  refine x_if (a' := 16) (pc' := 4) (z := decide (m < 0)) rfl rfl rfl (ic_lt (p := m) (q := 0) (gm31 hm) (by decide)) (fun h => absurd (of_decide_eq_true h) (by first | decide | omega | simp)) (fun _ => ?_)
  refine x_iload_n (pc' := 5) rfl rfl rfl ?_
  refine x_aload_n (pc' := 6) rfl rfl rfl rfl rfl ?_
  refine x_gR (pc' := 9) (r := (some 0)) rfl rfl rfl (kR_704_0 hc.1) ?_
  refine x_gR (pc' := 12) (r := (some 0)) rfl rfl rfl (kR_321_0 hc.1) ?_
  refine x_alen (pc' := 13) (N := 6) rfl rfl rfl (kN_26_0 hc.1) (?_ : X _ _ _ (.inl 6 :: _) _ _)
  refine x_icmp (a' := 27) (pc' := 16) (z := decide (m < 6)) rfl rfl rfl (ic_lt (p := m) (q := 6) (gm31 hm) (by decide)) (fun _ => ?_) (fun h => absurd hm (of_decide_eq_false h))
  refine x_aload_n (pc' := 28) rfl rfl rfl rfl rfl ?_
  refine x_gR (pc' := 31) (r := (some 0)) rfl rfl rfl (kR_704_0 hc.1) ?_
  refine x_gR (pc' := 34) (r := (some 0)) rfl rfl rfl (kR_321_0 hc.1) ?_
  refine x_iload_n (pc' := 35) rfl rfl rfl ?_
  refine x_aald (pc' := 36) (N := 6) (k' := 7) (r := (some m)) rfl rfl rfl (kN_26_0 hc.1) (io_in (p := m) (N := 6) hm (by decide)) (Eq.trans (congrArg (sE t 26 0) (nn_io (p := m) (Nat.lt_trans hm (by decide)))) (kM hc.1 hm)) ?_
  refine x_reta rfl rfl ?_
  refine sK_i (pc' := 6) rfl ?_
  refine x_cv (ls0 := [_, _]) (rest := []) rfl rfl rfl rfl rfl ?_
  exact k0
set_option maxHeartbeats 4000000 in
set_option maxRecDepth 10000 in
theorem n121_x0 {t : sT} {Q : sRs → sT → Prop} {M : sM} {n : Nat} {T : Nat} {L0 : List Nat} {A : Nat} {B : Nat} {x : Int32}
    (hW : Wc t M n T L0 A B)
    (hp : ixo x 6 = none)
    (k0 : Q (.inr 0) (sThr t)) :
    X 121 0 [.inr (.inr (11, (some 0))), .inl x] [] t Q := by
  obtain ⟨hM, hc, hR, hC, hL, hL9⟩ := hW
  refine x_aload_n (pc' := 1) rfl rfl rfl rfl rfl ?_
  refine x_aload_n (pc' := 2) rfl rfl rfl rfl rfl ?_
  refine x_iload_n (pc' := 3) rfl rfl rfl ?_
  refine x_cv (ls0 := [_, _]) (rest := [_]) rfl rfl rfl rfl rfl ?_
  refine b131_x ⟨hM, hc, hR, hC, hL, hL9⟩ hp ?_
  refine sK_n (by decide +kernel) rfl ?_
  exact k0
set_option maxHeartbeats 4000000 in
set_option maxRecDepth 10000 in
theorem n122 {t : sT} {Q : sRs → sT → Prop} {M : sM} {n : Nat} {T : Nat} {L0 : List Nat} {A : Nat} {B : Nat} {m : Nat}
    (hW : Wc t M n T L0 A B)
    (hm : m < 6)
    (k0 : Q (.inl (some (.inl (mA M 7 m)))) t) :
    X 122 0 [.inr (.inr (11, (some 0))), .inl (io m)] [] t Q := by
  obtain ⟨hM, hc, hR, hC, hL, hL9⟩ := hW
  refine x_aload_n (pc' := 1) rfl rfl rfl rfl rfl ?_
  refine x_iload_n (pc' := 2) rfl rfl rfl ?_
  refine x_cv (ls0 := [_, _]) (rest := []) rfl rfl rfl rfl rfl ?_
  refine x_iload_n (pc' := 1) rfl rfl rfl ?_
  refine x_if (a' := 16) (pc' := 4) (z := decide (m < 0)) rfl rfl rfl (ic_lt (p := m) (q := 0) (gm31 hm) (by decide)) (fun h => absurd (of_decide_eq_true h) (by first | decide | omega | simp)) (fun _ => ?_)
  refine x_iload_n (pc' := 5) rfl rfl rfl ?_
  refine x_aload_n (pc' := 6) rfl rfl rfl rfl rfl ?_
  refine x_gR (pc' := 9) (r := (some 0)) rfl rfl rfl (kR_704_0 hc.1) ?_
  refine x_gR (pc' := 12) (r := (some 0)) rfl rfl rfl (kR_321_0 hc.1) ?_
  refine x_alen (pc' := 13) (N := 6) rfl rfl rfl (kN_26_0 hc.1) (?_ : X _ _ _ (.inl 6 :: _) _ _)
  refine x_icmp (a' := 27) (pc' := 16) (z := decide (m < 6)) rfl rfl rfl (ic_lt (p := m) (q := 6) (gm31 hm) (by decide)) (fun _ => ?_) (fun h => absurd hm (of_decide_eq_false h))
  refine x_aload_n (pc' := 28) rfl rfl rfl rfl rfl ?_
  refine x_gR (pc' := 31) (r := (some 0)) rfl rfl rfl (kR_704_0 hc.1) ?_
  refine x_gR (pc' := 34) (r := (some 0)) rfl rfl rfl (kR_321_0 hc.1) ?_
  refine x_iload_n (pc' := 35) rfl rfl rfl ?_
  refine x_aald (pc' := 36) (N := 6) (k' := 7) (r := (some m)) rfl rfl rfl (kN_26_0 hc.1) (io_in (p := m) (N := 6) hm (by decide)) (Eq.trans (congrArg (sE t 26 0) (nn_io (p := m) (Nat.lt_trans hm (by decide)))) (kM hc.1 hm)) ?_
  refine x_reta rfl rfl ?_
  refine sK_i (pc' := 5) rfl ?_
  refine x_gI (pc' := 8) (x := (mA M 7 m)) rfl rfl rfl (kA hM rfl hm) ?_
  refine x_reti rfl rfl ?_
  exact k0
set_option maxHeartbeats 4000000 in
set_option maxRecDepth 10000 in
theorem n122_x0 {t : sT} {Q : sRs → sT → Prop} {M : sM} {n : Nat} {T : Nat} {L0 : List Nat} {A : Nat} {B : Nat} {x : Int32}
    (hW : Wc t M n T L0 A B)
    (hp : ixo x 6 = none)
    (k0 : Q (.inr 0) (sThr t)) :
    X 122 0 [.inr (.inr (11, (some 0))), .inl x] [] t Q := by
  obtain ⟨hM, hc, hR, hC, hL, hL9⟩ := hW
  refine x_aload_n (pc' := 1) rfl rfl rfl rfl rfl ?_
  refine x_iload_n (pc' := 2) rfl rfl rfl ?_
  refine x_cv (ls0 := [_, _]) (rest := []) rfl rfl rfl rfl rfl ?_
  refine b131_x ⟨hM, hc, hR, hC, hL, hL9⟩ hp ?_
  refine sK_n (by decide +kernel) rfl ?_
  exact k0
set_option maxHeartbeats 4000000 in
set_option maxRecDepth 10000 in
theorem n123 {t : sT} {Q : sRs → sT → Prop} {M : sM} {n : Nat} {T : Nat} {L0 : List Nat} {A : Nat} {B : Nat} {m : Nat}
    (hW : Wc t M n T L0 A B)
    (hm : m < 6)
    (k0 : Q (.inl (some (.inl (bz (mB M 2 m))))) t) :
    X 123 0 [.inr (.inr (11, (some 0))), .inl (io m)] [] t Q := by
  obtain ⟨hM, hc, hR, hC, hL, hL9⟩ := hW
  refine x_aload_n (pc' := 1) rfl rfl rfl rfl rfl ?_
  refine x_iload_n (pc' := 2) rfl rfl rfl ?_
  refine x_cv (ls0 := [_, _]) (rest := []) rfl rfl rfl rfl rfl ?_
  refine x_iload_n (pc' := 1) rfl rfl rfl ?_
  refine x_if (a' := 16) (pc' := 4) (z := decide (m < 0)) rfl rfl rfl (ic_lt (p := m) (q := 0) (gm31 hm) (by decide)) (fun h => absurd (of_decide_eq_true h) (by first | decide | omega | simp)) (fun _ => ?_)
  refine x_iload_n (pc' := 5) rfl rfl rfl ?_
  refine x_aload_n (pc' := 6) rfl rfl rfl rfl rfl ?_
  refine x_gR (pc' := 9) (r := (some 0)) rfl rfl rfl (kR_704_0 hc.1) ?_
  refine x_gR (pc' := 12) (r := (some 0)) rfl rfl rfl (kR_321_0 hc.1) ?_
  refine x_alen (pc' := 13) (N := 6) rfl rfl rfl (kN_26_0 hc.1) (?_ : X _ _ _ (.inl 6 :: _) _ _)
  refine x_icmp (a' := 27) (pc' := 16) (z := decide (m < 6)) rfl rfl rfl (ic_lt (p := m) (q := 6) (gm31 hm) (by decide)) (fun _ => ?_) (fun h => absurd hm (of_decide_eq_false h))
  refine x_aload_n (pc' := 28) rfl rfl rfl rfl rfl ?_
  refine x_gR (pc' := 31) (r := (some 0)) rfl rfl rfl (kR_704_0 hc.1) ?_
  refine x_gR (pc' := 34) (r := (some 0)) rfl rfl rfl (kR_321_0 hc.1) ?_
  refine x_iload_n (pc' := 35) rfl rfl rfl ?_
  refine x_aald (pc' := 36) (N := 6) (k' := 7) (r := (some m)) rfl rfl rfl (kN_26_0 hc.1) (io_in (p := m) (N := 6) hm (by decide)) (Eq.trans (congrArg (sE t 26 0) (nn_io (p := m) (Nat.lt_trans hm (by decide)))) (kM hc.1 hm)) ?_
  refine x_reta rfl rfl ?_
  refine sK_i (pc' := 5) rfl ?_
  refine x_gZ (pc' := 8) (z := (mB M 2 m)) rfl rfl rfl (kZ hM rfl hm) ?_
  refine x_retz (z := (mB M 2 m)) rfl rfl ?_
  exact k0
set_option maxHeartbeats 4000000 in
set_option maxRecDepth 10000 in
theorem n123_x0 {t : sT} {Q : sRs → sT → Prop} {M : sM} {n : Nat} {T : Nat} {L0 : List Nat} {A : Nat} {B : Nat} {x : Int32}
    (hW : Wc t M n T L0 A B)
    (hp : ixo x 6 = none)
    (k0 : Q (.inr 0) (sThr t)) :
    X 123 0 [.inr (.inr (11, (some 0))), .inl x] [] t Q := by
  obtain ⟨hM, hc, hR, hC, hL, hL9⟩ := hW
  refine x_aload_n (pc' := 1) rfl rfl rfl rfl rfl ?_
  refine x_iload_n (pc' := 2) rfl rfl rfl ?_
  refine x_cv (ls0 := [_, _]) (rest := []) rfl rfl rfl rfl rfl ?_
  refine b131_x ⟨hM, hc, hR, hC, hL, hL9⟩ hp ?_
  refine sK_n (by decide +kernel) rfl ?_
  exact k0
set_option maxHeartbeats 4000000 in
set_option maxRecDepth 10000 in
theorem n125 {t : sT} {Q : sRs → sT → Prop} {M : sM} {n : Nat} {T : Nat} {L0 : List Nat} {A : Nat} {B : Nat}
    (hW : Wc t M n T L0 A B)
    (k0 : Q (.inl (some (.inl (mI M 785)))) t) :
    X 125 0 [.inr (.inr (11, (some 0)))] [] t Q := by
  obtain ⟨hM, hc, hR, hC, hL, hL9⟩ := hW
  refine x_aload_n (pc' := 1) rfl rfl rfl rfl rfl ?_
  refine x_gR (pc' := 4) (r := (some 0)) rfl rfl rfl (kR_704_0 hc.1) ?_
  refine x_gI (pc' := 7) (x := (mI M 785)) rfl rfl rfl (kS hM rfl) ?_
  refine x_reti rfl rfl ?_
  exact k0
set_option maxHeartbeats 4000000 in
set_option maxRecDepth 10000 in
theorem n115_0 {t : sT} {Q : sRs → sT → Prop} {M : sM} {n : Nat} {T : Nat} {L0 : List Nat} {A : Nat} {B : Nat} {o : Nat}
    (hW : Wc t M n T L0 A B)
    (ho : o < T)
    (k0 : Q (.inl (some (.inl (io (tK M o))))) t) :
    X 115 12 [.inr (.inr (11, (some 0))), .inl (io o), .inl 0, .inr (.inr (9, (some o)))] [] t Q := by
  obtain ⟨hM, hc, hR, hC, hL, hL9⟩ := hW
  refine x_iload_n (pc' := 13) rfl rfl rfl ?_
  refine x_switch (pc' := 48) rfl (by decide +kernel) ?_
  refine x_aload_n (pc' := 49) rfl rfl rfl rfl rfl ?_
  refine x_gR (pc' := 52) (r := (some (tK M o))) rfl rfl rfl (Sf_576 hc ho) ?_
  refine x_gI (pc' := 55) (x := (io (tK M o))) rfl rfl rfl (kKn hc.1 (tKl hc ho)) ?_
  refine x_reti rfl rfl ?_
  exact k0
set_option maxHeartbeats 4000000 in
set_option maxRecDepth 10000 in
theorem n115_1 {t : sT} {Q : sRs → sT → Prop} {M : sM} {n : Nat} {T : Nat} {L0 : List Nat} {A : Nat} {B : Nat} {o : Nat}
    (hW : Wc t M n T L0 A B)
    (ho : o < T)
    (k0 : Q (.inl (some (.inl (io (tB M o))))) t) :
    X 115 12 [.inr (.inr (11, (some 0))), .inl (io o), .inl 1, .inr (.inr (9, (some o)))] [] t Q := by
  obtain ⟨hM, hc, hR, hC, hL, hL9⟩ := hW
  refine x_iload_n (pc' := 13) rfl rfl rfl ?_
  refine x_switch (pc' := 56) rfl (by decide +kernel) ?_
  refine x_aload_n (pc' := 57) rfl rfl rfl rfl rfl ?_
  refine x_gR (pc' := 60) (r := (some (tB M o))) rfl rfl rfl (Sf_577 hc ho) ?_
  refine x_gI (pc' := 63) (x := (io (tB M o))) rfl rfl rfl (kMp hc.1 (tBl hc ho)).2.2 ?_
  refine x_reti rfl rfl ?_
  exact k0
set_option maxHeartbeats 4000000 in
set_option maxRecDepth 10000 in
theorem n115_2 {t : sT} {Q : sRs → sT → Prop} {M : sM} {n : Nat} {T : Nat} {L0 : List Nat} {A : Nat} {B : Nat} {o : Nat}
    (hW : Wc t M n T L0 A B)
    (ho : o < T)
    (k0 : Q (.inl (some (.inl (io (tS M o))))) t) :
    X 115 12 [.inr (.inr (11, (some 0))), .inl (io o), .inl 2, .inr (.inr (9, (some o)))] [] t Q := by
  obtain ⟨hM, hc, hR, hC, hL, hL9⟩ := hW
  refine x_iload_n (pc' := 13) rfl rfl rfl ?_
  refine x_switch (pc' := 64) rfl (by decide +kernel) ?_
  refine x_aload_n (pc' := 65) rfl rfl rfl rfl rfl ?_
  refine x_gR (pc' := 68) (r := (some (tS M o))) rfl rfl rfl (Sf_578 hc ho) ?_
  refine x_gI (pc' := 71) (x := (io (tS M o))) rfl rfl rfl (kMp hc.1 (tSl hc ho)).2.2 ?_
  refine x_reti rfl rfl ?_
  exact k0
set_option maxHeartbeats 4000000 in
set_option maxRecDepth 10000 in
theorem n115_3 {t : sT} {Q : sRs → sT → Prop} {M : sM} {n : Nat} {T : Nat} {L0 : List Nat} {A : Nat} {B : Nat} {o : Nat}
    (hW : Wc t M n T L0 A B)
    (ho : o < T)
    (k0 : Q (.inl (some (.inl (mA M 24 o)))) t) :
    X 115 12 [.inr (.inr (11, (some 0))), .inl (io o), .inl 3, .inr (.inr (9, (some o)))] [] t Q := by
  obtain ⟨hM, hc, hR, hC, hL, hL9⟩ := hW
  refine x_iload_n (pc' := 13) rfl rfl rfl ?_
  refine x_switch (pc' := 72) rfl (by decide +kernel) ?_
  refine x_aload_n (pc' := 73) rfl rfl rfl rfl rfl ?_
  refine x_gI (pc' := 76) (x := (mA M 24 o)) rfl rfl rfl (kA hM rfl ho) ?_
  refine x_reti rfl rfl ?_
  exact k0
set_option maxHeartbeats 4000000 in
set_option maxRecDepth 10000 in
theorem n115_4 {t : sT} {Q : sRs → sT → Prop} {M : sM} {n : Nat} {T : Nat} {L0 : List Nat} {A : Nat} {B : Nat} {o : Nat}
    (hW : Wc t M n T L0 A B)
    (ho : o < T)
    (k0 : Q (.inl (some (.inl (mA M 25 o)))) t) :
    X 115 12 [.inr (.inr (11, (some 0))), .inl (io o), .inl 4, .inr (.inr (9, (some o)))] [] t Q := by
  obtain ⟨hM, hc, hR, hC, hL, hL9⟩ := hW
  refine x_iload_n (pc' := 13) rfl rfl rfl ?_
  refine x_switch (pc' := 77) rfl (by decide +kernel) ?_
  refine x_aload_n (pc' := 78) rfl rfl rfl rfl rfl ?_
  refine x_gI (pc' := 81) (x := (mA M 25 o)) rfl rfl rfl (kA hM rfl ho) ?_
  refine x_reti rfl rfl ?_
  exact k0
set_option maxHeartbeats 4000000 in
set_option maxRecDepth 10000 in
theorem n115_5 {t : sT} {Q : sRs → sT → Prop} {M : sM} {n : Nat} {T : Nat} {L0 : List Nat} {A : Nat} {B : Nat} {o : Nat}
    (hW : Wc t M n T L0 A B)
    (ho : o < T)
    (k0 : (mB M 7 o) = false → Q (.inl (some (.inl 0))) t)
    (k1 : (mB M 7 o) = true → Q (.inl (some (.inl 1))) t) :
    X 115 12 [.inr (.inr (11, (some 0))), .inl (io o), .inl 5, .inr (.inr (9, (some o)))] [] t Q := by
  obtain ⟨hM, hc, hR, hC, hL, hL9⟩ := hW
  refine x_iload_n (pc' := 13) rfl rfl rfl ?_
  refine x_switch (pc' := 82) rfl (by decide +kernel) ?_
  refine x_aload_n (pc' := 83) rfl rfl rfl rfl rfl ?_
  refine x_gZ (pc' := 86) (z := (mB M 7 o)) rfl rfl rfl (kZ hM rfl ho) ?_
  refine x_ifeq_z (a' := 93) (pc' := 89) (z := (mB M 7 o)) rfl rfl rfl (fun q2 => ?_) (fun q2 => ?_)
  · refine x_iconst (pc' := 94) rfl rfl ?_
    refine x_reti rfl rfl ?_
    exact k0 q2
  · refine x_iconst (pc' := 90) rfl rfl ?_
    refine x_goto (pc' := 94) rfl rfl ?_
    refine x_reti rfl rfl ?_
    exact k1 q2
