/-! the reference's order, now, stop, quote, in pieces (printed by rord98.py) -/
def inB (p a h : Int32) : Bool := !(decide (p < a)) && !(decide (h < p))
def prB (b : Nat) (p : Int32) : Bool := bif decide (b < 3) then inB p 1 999 else inB p (-500) 500
def prY (x : Int32) (p : Int32) : Bool := bif decide (x < 3) then inB p 1 999 else inB p (-500) 500
section S98
variable {t : sT} {b : Nat} {p a h x : Int32} {Q : sRs → sT → Prop}
theorem r145_g (q : Q (.inl (some (.inl (bz (inB p a h))))) t) : X 145 0 [.inl p, .inl a, .inl h] [] t Q := by
  unfold inB at q
  refine r145 (fun h1 => ?_) (fun h1 h2 => ?_) (fun h1 h2 => ?_)
  · rw [decide_eq_true h1] at q; exact q
  · rw [decide_eq_false h1, decide_eq_true h2] at q; exact q
  · rw [decide_eq_false h1, decide_eq_false h2] at q; exact q
end S98
set_option maxHeartbeats 4000000 in
set_option maxRecDepth 10000 in
theorem r150_g0 {t : sT} {Q : sRs → sT → Prop} {b : Nat} {p : Int32}
    (hb : b < 5)
    (k0 : ¬ (b < 3) → X 145 0 [.inl p, .inl (-500), .inl 500] [] t (sK 145 150 23 [.inl (io b), .inl p] [] Q))
    (k1 : b < 3 → X 145 0 [.inl p, .inl 1, .inl 999] [] t (sK 145 150 10 [.inl (io b), .inl p] [] Q)) :
    X 150 0 [.inl (io b), .inl p] [] t Q := by
  refine x_iload_n (pc' := 1) rfl rfl rfl ?_
  refine x_iconst (pc' := 2) rfl rfl ?_
  refine x_icmp_n (a' := 16) (pc' := 5) (z := decide (b < 3)) rfl rfl rfl (ic_gen (p := b) (q := 3) (gb31 hb) (by decide)) (fun q1 => ?_) (fun q1 => ?_)
  · refine x_iload_n (pc' := 17) rfl rfl rfl ?_
    refine x_sipush (pc' := 20) rfl rfl ?_
    refine x_sipush (pc' := 23) rfl rfl ?_
    refine x_cs (ls0 := [_, _, _]) (rest := []) rfl rfl rfl rfl ?_
    exact k0 (of_decide_eq_false q1)
  · refine x_iload_n (pc' := 6) rfl rfl rfl ?_
    refine x_iconst (pc' := 7) rfl rfl ?_
    refine x_sipush (pc' := 10) rfl rfl ?_
    refine x_cs (ls0 := [_, _, _]) (rest := []) rfl rfl rfl rfl ?_
    exact k1 (of_decide_eq_true q1)
set_option maxHeartbeats 4000000 in
set_option maxRecDepth 10000 in
theorem r150_y0 {t : sT} {Q : sRs → sT → Prop} {x : Int32} {p : Int32}
    (k0 : ¬ (x < 3) → X 145 0 [.inl p, .inl (-500), .inl 500] [] t (sK 145 150 23 [.inl x, .inl p] [] Q))
    (k1 : x < 3 → X 145 0 [.inl p, .inl 1, .inl 999] [] t (sK 145 150 10 [.inl x, .inl p] [] Q)) :
    X 150 0 [.inl x, .inl p] [] t Q := by
  refine x_iload_n (pc' := 1) rfl rfl rfl ?_
  refine x_iconst (pc' := 2) rfl rfl ?_
  refine x_icmp_n (a' := 16) (pc' := 5) (z := decide (x < 3)) rfl rfl rfl (ik_ge _ _) (fun q1 => ?_) (fun q1 => ?_)
  · refine x_iload_n (pc' := 17) rfl rfl rfl ?_
    refine x_sipush (pc' := 20) rfl rfl ?_
    refine x_sipush (pc' := 23) rfl rfl ?_
    refine x_cs (ls0 := [_, _, _]) (rest := []) rfl rfl rfl rfl ?_
    exact k0 (of_decide_eq_false q1)
  · refine x_iload_n (pc' := 6) rfl rfl rfl ?_
    refine x_iconst (pc' := 7) rfl rfl ?_
    refine x_sipush (pc' := 10) rfl rfl ?_
    refine x_cs (ls0 := [_, _, _]) (rest := []) rfl rfl rfl rfl ?_
    exact k1 (of_decide_eq_true q1)
section S98b
variable {t : sT} {b : Nat} {p a h x : Int32} {Q : sRs → sT → Prop}
theorem r150_g (hb : b < 5) (q : Q (.inl (some (.inl (bz (prB b p))))) t) : X 150 0 [.inl (io b), .inl p] [] t Q := by
  unfold prB at q
  refine r150_g0 hb (fun h => ?_) (fun h => ?_)
  · rw [decide_eq_false h] at q
    refine r145_g ?_
    refine sK_i (pc' := 26) rfl ?_
    exact x_retz (z := inB p (-500) 500) rfl rfl q
  · rw [decide_eq_true h] at q
    refine r145_g ?_
    refine sK_i (pc' := 13) rfl ?_
    refine x_goto (pc' := 26) rfl rfl ?_
    exact x_retz (z := inB p 1 999) rfl rfl q
theorem r150_y (q : Q (.inl (some (.inl (bz (prY x p))))) t) : X 150 0 [.inl x, .inl p] [] t Q := by
  unfold prY at q
  refine r150_y0 (fun h => ?_) (fun h => ?_)
  · rw [decide_eq_false h] at q
    refine r145_g ?_
    refine sK_i (pc' := 26) rfl ?_
    exact x_retz (z := inB p (-500) 500) rfl rfl q
  · rw [decide_eq_true h] at q
    refine r145_g ?_
    refine sK_i (pc' := 13) rfl ?_
    refine x_goto (pc' := 26) rfl rfl ?_
    exact x_retz (z := inB p 1 999) rfl rfl q
end S98b
set_option maxHeartbeats 4000000 in
set_option maxRecDepth 10000 in
theorem r204 {t : sT} {Q : sRs → sT → Prop} {M : sM} {n : Nat} {m : Nat} {b : Nat} {s : Bool} {p : Int32} {a : Int32} {h : Int32}
    (hV : Vr t M n)
    (hm : m < 6)
    (hb : b < 5)
    (k0 : (prB b p) = false → (mA M 0 b) = 0 → Q (.inl (some (.inl 0))) (sIw t 768 0 2))
    (k1 : (prB b p) = false → ¬ ((mA M 0 b) = 0) → ¬ (n < 200) → Q (.inl (some (.inl 0))) (sIw t 768 0 2))
    (k2 : (prB b p) = false → ¬ ((mA M 0 b) = 0) → n < 200 → Q (.inl (some (.inl 0))) (sIw t 768 0 2))
    (k3 : (prB b p) = true → (inB a 1 100) = false → (mA M 0 b) = 0 → Q (.inl (some (.inl 0))) (sIw t 768 0 2))
    (k4 : (prB b p) = true → (inB a 1 100) = false → ¬ ((mA M 0 b) = 0) → ¬ (n < 200) → Q (.inl (some (.inl 0))) (sIw t 768 0 2))
    (k5 : (prB b p) = true → (inB a 1 100) = false → ¬ ((mA M 0 b) = 0) → n < 200 → Q (.inl (some (.inl 0))) (sIw t 768 0 2))
    (k6 : (prB b p) = true → (inB a 1 100) = true → (inB h 1 a) = false → (mA M 0 b) = 0 → Q (.inl (some (.inl 0))) (sIw t 768 0 2))
    (k7 : (prB b p) = true → (inB a 1 100) = true → (inB h 1 a) = false → ¬ ((mA M 0 b) = 0) → ¬ (n < 200) → Q (.inl (some (.inl 0))) (sIw t 768 0 2))
    (k8 : (prB b p) = true → (inB a 1 100) = true → (inB h 1 a) = false → ¬ ((mA M 0 b) = 0) → n < 200 → Q (.inl (some (.inl 0))) (sIw t 768 0 2))
    (k9 : (prB b p) = true → (inB a 1 100) = true → (inB h 1 a) = true → (mA M 0 b) = 0 → (mB M 2 m) = true → Q (.inl (some (.inl 0))) (sIw t 768 0 3))
    (k10 : (prB b p) = true → (inB a 1 100) = true → (inB h 1 a) = true → (mA M 0 b) = 0 → (mB M 2 m) = false → Q (.inl (some (.inl 0))) (sIw t 768 0 3))
    (k11 : (prB b p) = true → (inB a 1 100) = true → (inB h 1 a) = true → ¬ ((mA M 0 b) = 0) → ¬ (n < 200) → (mB M 2 m) = true → Q (.inl (some (.inl 0))) (sIw t 768 0 3))
    (k12 : (prB b p) = true → (inB a 1 100) = true → (inB h 1 a) = true → ¬ ((mA M 0 b) = 0) → ¬ (n < 200) → (mB M 2 m) = false → Q (.inl (some (.inl 0))) (sIw t 768 0 3))
    (k13 : (prB b p) = true → (inB a 1 100) = true → (inB h 1 a) = true → ¬ ((mA M 0 b) = 0) → n < 200 → (mB M 2 m) = true → Q (.inl (some (.inl 0))) (sIw t 768 0 3))
    (k14 : (prB b p) = true → (inB a 1 100) = true → (inB h 1 a) = true → ¬ ((mA M 0 b) = 0) → n < 200 → (mB M 2 m) = false → X 203 0 [.inr (.inr (12, (some 0))), .inl (io m), .inl (io b), .inl (bz s), .inl p, .inl a, .inl h, .inl 0, sJk] [] (sIw t 768 0 0) (sK 203 204 106 [.inr (.inr (12, (some 0))), .inl (io m), .inl (io b), .inl (bz s), .inl p, .inl a, .inl h, .inl 1, .inl 1] [] Q)) :
    X 204 0 [.inr (.inr (12, (some 0))), .inl (io m), .inl (io b), .inl (bz s), .inl p, .inl a, .inl h, sJk, sJk] [] t Q := by
  obtain ⟨hM, hc, hR⟩ := hV
  refine x_iload_n (pc' := 1) rfl rfl rfl ?_
  refine x_cs (ls0 := [_]) (rest := []) rfl rfl rfl rfl ?_
  refine x_iload_n (pc' := 1) rfl rfl rfl ?_
  refine x_iconst (pc' := 2) rfl rfl ?_
  refine x_iconst (pc' := 3) rfl rfl ?_
  refine x_cs (ls0 := [_, _, _]) (rest := []) rfl rfl rfl rfl ?_
  refine x_iload_n (pc' := 1) rfl rfl rfl ?_
  refine x_iload_n (pc' := 2) rfl rfl rfl ?_
  refine x_icmp (a' := 14) (pc' := 5) (z := decide (b < 0)) rfl rfl rfl (ic_lt (p := b) (q := 0) (gb31 hb) (by decide)) (fun h => absurd (of_decide_eq_true h) (by first | decide | omega | simp)) (fun _ => ?_)
  refine x_iload_n (pc' := 6) rfl rfl rfl ?_
  refine x_iload_n (pc' := 7) rfl rfl rfl ?_
  refine x_icmp (a' := 14) (pc' := 10) (z := decide (4 < b)) rfl rfl rfl (ic_gt (p := b) (q := 4) (gb31 hb) (by decide)) (fun h => absurd (of_decide_eq_true h) (show ¬ 4 < b by omega)) (fun _ => ?_)
  refine x_iconst (pc' := 11) rfl rfl ?_
  refine x_goto (pc' := 15) rfl rfl ?_
  refine x_retz (z := true) rfl rfl ?_
  refine sK_i (pc' := 6) rfl ?_
  refine x_retz (z := true) rfl rfl ?_
  refine sK_i (pc' := 4) rfl ?_
  refine x_if (a' := 42) (pc' := 7) (z := false) rfl rfl rfl (by decide) (fun h => by cases h) (fun _ => ?_)
  refine x_iload_n (pc' := 8) rfl rfl rfl ?_
  refine x_iload (pc' := 10) rfl rfl rfl ?_
  refine x_cs (ls0 := [_, _]) (rest := []) rfl rfl rfl rfl ?_
  refine r150_g hb ?_
  refine sK_i (pc' := 13) rfl ?_
  refine x_ifeq_z (a' := 42) (pc' := 16) (z := (prB b p)) rfl rfl rfl (fun q4 => ?_) (fun q4 => ?_)
  · refine x_iconst (pc' := 43) rfl rfl ?_
    refine x_istore (pc' := 45) (ls' := [_, _, _, _, _, _, _, _, _]) rfl rfl rfl rfl ?_
    refine x_iload_n (pc' := 46) rfl rfl rfl ?_
    refine x_cs (ls0 := [_]) (rest := []) rfl rfl rfl rfl ?_
    refine x_iload_n (pc' := 1) rfl rfl rfl ?_
    refine x_iconst (pc' := 2) rfl rfl ?_
    refine x_iconst (pc' := 3) rfl rfl ?_
    refine x_cs (ls0 := [_, _, _]) (rest := []) rfl rfl rfl rfl ?_
    refine x_iload_n (pc' := 1) rfl rfl rfl ?_
    refine x_iload_n (pc' := 2) rfl rfl rfl ?_
    refine x_icmp (a' := 14) (pc' := 5) (z := decide (b < 0)) rfl rfl rfl (ic_lt (p := b) (q := 0) (gb31 hb) (by decide)) (fun h => absurd (of_decide_eq_true h) (by first | decide | omega | simp)) (fun _ => ?_)
    refine x_iload_n (pc' := 6) rfl rfl rfl ?_
    refine x_iload_n (pc' := 7) rfl rfl rfl ?_
    refine x_icmp (a' := 14) (pc' := 10) (z := decide (4 < b)) rfl rfl rfl (ic_gt (p := b) (q := 4) (gb31 hb) (by decide)) (fun h => absurd (of_decide_eq_true h) (show ¬ 4 < b by omega)) (fun _ => ?_)
    refine x_iconst (pc' := 11) rfl rfl ?_
    refine x_goto (pc' := 15) rfl rfl ?_
    refine x_retz (z := true) rfl rfl ?_
    refine sK_i (pc' := 6) rfl ?_
    refine x_retz (z := true) rfl rfl ?_
    refine sK_i (pc' := 49) rfl ?_
    refine x_if (a' := 75) (pc' := 52) (z := false) rfl rfl rfl (by decide) (fun h => by cases h) (fun _ => ?_)
    refine x_aload_n (pc' := 53) rfl rfl rfl rfl rfl ?_
    refine x_gR (pc' := 56) (r := (some 0)) rfl rfl rfl (kR_769_0 hc) ?_
    refine x_iload_n (pc' := 57) rfl rfl rfl ?_
    refine x_iald (pc' := 58) (N := 5) (x := (mA M 0 b)) rfl rfl rfl (kN_21_0 hc) (io_in (p := b) (N := 5) hb (by decide)) (Eq.trans (congrArg (sA t 21 0) (nn_io (p := b) (Nat.lt_trans hb (by decide)))) (gA hM rfl)) ?_
    refine x_if (a' := 75) (pc' := 61) (z := decide ((mA M 0 b) = 0)) rfl rfl rfl rfl (fun q8 => ?_) (fun q8 => ?_)
    · refine x_iconst (pc' := 76) rfl rfl ?_
      refine x_istore (pc' := 78) (ls' := [_, _, _, _, _, _, _, _, _]) rfl rfl rfl rfl ?_
      refine x_aload_n (pc' := 79) rfl rfl rfl rfl rfl ?_
      refine x_aload_n (pc' := 80) rfl rfl rfl rfl rfl ?_
      refine x_iload_n (pc' := 81) rfl rfl rfl ?_
      refine x_iload_n (pc' := 82) rfl rfl rfl ?_
      refine x_iload (pc' := 84) rfl rfl rfl ?_
      refine x_iload (pc' := 86) rfl rfl rfl ?_
      refine x_cv (ls0 := [_, _, _, _, _, sJk]) (rest := [_]) rfl rfl rfl rfl rfl ?_
      refine x_iload_n (pc' := 1) rfl rfl rfl ?_
      refine x_cs (ls0 := [_]) (rest := []) rfl rfl rfl rfl ?_
      refine x_iload_n (pc' := 1) rfl rfl rfl ?_
      refine x_iconst (pc' := 2) rfl rfl ?_
      refine x_iconst (pc' := 3) rfl rfl ?_
      refine x_cs (ls0 := [_, _, _]) (rest := []) rfl rfl rfl rfl ?_
      refine x_iload_n (pc' := 1) rfl rfl rfl ?_
      refine x_iload_n (pc' := 2) rfl rfl rfl ?_
      refine x_icmp (a' := 14) (pc' := 5) (z := decide (m < 0)) rfl rfl rfl (ic_lt (p := m) (q := 0) (gm31 hm) (by decide)) (fun h => absurd (of_decide_eq_true h) (by first | decide | omega | simp)) (fun _ => ?_)
      refine x_iload_n (pc' := 6) rfl rfl rfl ?_
      refine x_iload_n (pc' := 7) rfl rfl rfl ?_
      refine x_icmp (a' := 14) (pc' := 10) (z := decide (5 < m)) rfl rfl rfl (ic_gt (p := m) (q := 5) (gm31 hm) (by decide)) (fun h => absurd (of_decide_eq_true h) (show ¬ 5 < m by omega)) (fun _ => ?_)
      refine x_iconst (pc' := 11) rfl rfl ?_
      refine x_goto (pc' := 15) rfl rfl ?_
      refine x_retz (z := true) rfl rfl ?_
      refine sK_i (pc' := 6) rfl ?_
      refine x_retz (z := true) rfl rfl ?_
      refine sK_i (pc' := 4) rfl ?_
      refine x_if (a' := 18) (pc' := 7) (z := false) rfl rfl rfl (by decide) (fun h => by cases h) (fun _ => ?_)
      refine x_iload_n (pc' := 8) rfl rfl rfl ?_
      refine x_cs (ls0 := [_]) (rest := []) rfl rfl rfl rfl ?_
      refine x_iload_n (pc' := 1) rfl rfl rfl ?_
      refine x_iconst (pc' := 2) rfl rfl ?_
      refine x_iconst (pc' := 3) rfl rfl ?_
      refine x_cs (ls0 := [_, _, _]) (rest := []) rfl rfl rfl rfl ?_
      refine x_iload_n (pc' := 1) rfl rfl rfl ?_
      refine x_iload_n (pc' := 2) rfl rfl rfl ?_
      refine x_icmp (a' := 14) (pc' := 5) (z := decide (b < 0)) rfl rfl rfl (ic_lt (p := b) (q := 0) (gb31 hb) (by decide)) (fun h => absurd (of_decide_eq_true h) (by first | decide | omega | simp)) (fun _ => ?_)
      refine x_iload_n (pc' := 6) rfl rfl rfl ?_
      refine x_iload_n (pc' := 7) rfl rfl rfl ?_
      refine x_icmp (a' := 14) (pc' := 10) (z := decide (4 < b)) rfl rfl rfl (ic_gt (p := b) (q := 4) (gb31 hb) (by decide)) (fun h => absurd (of_decide_eq_true h) (show ¬ 4 < b by omega)) (fun _ => ?_)
      refine x_iconst (pc' := 11) rfl rfl ?_
      refine x_goto (pc' := 15) rfl rfl ?_
      refine x_retz (z := true) rfl rfl ?_
      refine sK_i (pc' := 6) rfl ?_
      refine x_retz (z := true) rfl rfl ?_
      refine sK_i (pc' := 11) rfl ?_
      refine x_if (a' := 18) (pc' := 14) (z := false) rfl rfl rfl (by decide) (fun h => by cases h) (fun _ => ?_)
      refine x_iconst (pc' := 15) rfl rfl ?_
      refine x_goto (pc' := 19) rfl rfl ?_
      refine x_istore (pc' := 21) (ls' := [_, _, _, _, _, _]) rfl rfl rfl rfl ?_
      refine x_iload (pc' := 23) rfl rfl rfl ?_
      refine x_if (a' := 30) (pc' := 26) (z := true) rfl rfl rfl (by decide) (fun _ => ?_) (fun h => by cases h)
      refine x_iload_n (pc' := 31) rfl rfl rfl ?_
      refine x_if (a' := 38) (pc' := 34) (z := false) rfl rfl rfl (by decide) (fun h => by cases h) (fun _ => ?_)
      refine x_iconst (pc' := 35) rfl rfl ?_
      refine x_goto (pc' := 57) rfl rfl ?_
      refine x_reti rfl rfl ?_
      refine sK_i (pc' := 89) rfl ?_
      refine x_cv (ls0 := [_, _]) (rest := []) rfl rfl rfl rfl rfl ?_
      refine x_aload_n (pc' := 1) rfl rfl rfl rfl rfl ?_
      refine x_iload_n (pc' := 2) rfl rfl rfl ?_
      refine x_pI (pc' := 5) rfl rfl rfl ?_
      refine x_iload_n (pc' := 6) rfl rfl rfl ?_
      refine x_if (a' := 13) (pc' := 9) (z := true) rfl rfl rfl (by decide) (fun _ => ?_) (fun h => by cases h)
      refine x_iconst (pc' := 14) rfl rfl ?_
      refine x_retz (z := false) rfl rfl ?_
      refine sK_i (pc' := 92) rfl ?_
      refine x_if (a' := 112) (pc' := 95) (z := true) rfl rfl rfl (by decide) (fun _ => ?_) (fun h => by cases h)
      refine x_iconst (pc' := 113) rfl rfl ?_
      refine x_reti rfl rfl ?_
      exact k0 q4 (of_decide_eq_true q8)
    · refine x_aload_n (pc' := 62) rfl rfl rfl rfl rfl ?_
      refine x_gI (pc' := 65) (x := (io n)) rfl rfl rfl (gFn hM (Fr.refl _) hR) ?_
      refine x_sipush (pc' := 68) rfl rfl ?_
      refine x_icmp_n (a' := 75) (pc' := 71) (z := decide (n < 200)) rfl rfl rfl (ic_gen (p := n) (q := 200) (gn31 hR) (by decide)) (fun q19 => ?_) (fun q19 => ?_)
      · refine x_iconst (pc' := 76) rfl rfl ?_
        refine x_istore (pc' := 78) (ls' := [_, _, _, _, _, _, _, _, _]) rfl rfl rfl rfl ?_
        refine x_aload_n (pc' := 79) rfl rfl rfl rfl rfl ?_
        refine x_aload_n (pc' := 80) rfl rfl rfl rfl rfl ?_
        refine x_iload_n (pc' := 81) rfl rfl rfl ?_
        refine x_iload_n (pc' := 82) rfl rfl rfl ?_
        refine x_iload (pc' := 84) rfl rfl rfl ?_
        refine x_iload (pc' := 86) rfl rfl rfl ?_
        refine x_cv (ls0 := [_, _, _, _, _, sJk]) (rest := [_]) rfl rfl rfl rfl rfl ?_
        refine x_iload_n (pc' := 1) rfl rfl rfl ?_
        refine x_cs (ls0 := [_]) (rest := []) rfl rfl rfl rfl ?_
        refine x_iload_n (pc' := 1) rfl rfl rfl ?_
        refine x_iconst (pc' := 2) rfl rfl ?_
        refine x_iconst (pc' := 3) rfl rfl ?_
        refine x_cs (ls0 := [_, _, _]) (rest := []) rfl rfl rfl rfl ?_
        refine x_iload_n (pc' := 1) rfl rfl rfl ?_
        refine x_iload_n (pc' := 2) rfl rfl rfl ?_
        refine x_icmp (a' := 14) (pc' := 5) (z := decide (m < 0)) rfl rfl rfl (ic_lt (p := m) (q := 0) (gm31 hm) (by decide)) (fun h => absurd (of_decide_eq_true h) (by first | decide | omega | simp)) (fun _ => ?_)
        refine x_iload_n (pc' := 6) rfl rfl rfl ?_
        refine x_iload_n (pc' := 7) rfl rfl rfl ?_
        refine x_icmp (a' := 14) (pc' := 10) (z := decide (5 < m)) rfl rfl rfl (ic_gt (p := m) (q := 5) (gm31 hm) (by decide)) (fun h => absurd (of_decide_eq_true h) (show ¬ 5 < m by omega)) (fun _ => ?_)
        refine x_iconst (pc' := 11) rfl rfl ?_
        refine x_goto (pc' := 15) rfl rfl ?_
        refine x_retz (z := true) rfl rfl ?_
        refine sK_i (pc' := 6) rfl ?_
        refine x_retz (z := true) rfl rfl ?_
        refine sK_i (pc' := 4) rfl ?_
        refine x_if (a' := 18) (pc' := 7) (z := false) rfl rfl rfl (by decide) (fun h => by cases h) (fun _ => ?_)
        refine x_iload_n (pc' := 8) rfl rfl rfl ?_
        refine x_cs (ls0 := [_]) (rest := []) rfl rfl rfl rfl ?_
        refine x_iload_n (pc' := 1) rfl rfl rfl ?_
        refine x_iconst (pc' := 2) rfl rfl ?_
        refine x_iconst (pc' := 3) rfl rfl ?_
        refine x_cs (ls0 := [_, _, _]) (rest := []) rfl rfl rfl rfl ?_
        refine x_iload_n (pc' := 1) rfl rfl rfl ?_
        refine x_iload_n (pc' := 2) rfl rfl rfl ?_
        refine x_icmp (a' := 14) (pc' := 5) (z := decide (b < 0)) rfl rfl rfl (ic_lt (p := b) (q := 0) (gb31 hb) (by decide)) (fun h => absurd (of_decide_eq_true h) (by first | decide | omega | simp)) (fun _ => ?_)
        refine x_iload_n (pc' := 6) rfl rfl rfl ?_
        refine x_iload_n (pc' := 7) rfl rfl rfl ?_
        refine x_icmp (a' := 14) (pc' := 10) (z := decide (4 < b)) rfl rfl rfl (ic_gt (p := b) (q := 4) (gb31 hb) (by decide)) (fun h => absurd (of_decide_eq_true h) (show ¬ 4 < b by omega)) (fun _ => ?_)
        refine x_iconst (pc' := 11) rfl rfl ?_
        refine x_goto (pc' := 15) rfl rfl ?_
        refine x_retz (z := true) rfl rfl ?_
        refine sK_i (pc' := 6) rfl ?_
        refine x_retz (z := true) rfl rfl ?_
        refine sK_i (pc' := 11) rfl ?_
        refine x_if (a' := 18) (pc' := 14) (z := false) rfl rfl rfl (by decide) (fun h => by cases h) (fun _ => ?_)
        refine x_iconst (pc' := 15) rfl rfl ?_
        refine x_goto (pc' := 19) rfl rfl ?_
        refine x_istore (pc' := 21) (ls' := [_, _, _, _, _, _]) rfl rfl rfl rfl ?_
        refine x_iload (pc' := 23) rfl rfl rfl ?_
        refine x_if (a' := 30) (pc' := 26) (z := true) rfl rfl rfl (by decide) (fun _ => ?_) (fun h => by cases h)
        refine x_iload_n (pc' := 31) rfl rfl rfl ?_
        refine x_if (a' := 38) (pc' := 34) (z := false) rfl rfl rfl (by decide) (fun h => by cases h) (fun _ => ?_)
        refine x_iconst (pc' := 35) rfl rfl ?_
        refine x_goto (pc' := 57) rfl rfl ?_
        refine x_reti rfl rfl ?_
        refine sK_i (pc' := 89) rfl ?_
        refine x_cv (ls0 := [_, _]) (rest := []) rfl rfl rfl rfl rfl ?_
        refine x_aload_n (pc' := 1) rfl rfl rfl rfl rfl ?_
        refine x_iload_n (pc' := 2) rfl rfl rfl ?_
        refine x_pI (pc' := 5) rfl rfl rfl ?_
        refine x_iload_n (pc' := 6) rfl rfl rfl ?_
        refine x_if (a' := 13) (pc' := 9) (z := true) rfl rfl rfl (by decide) (fun _ => ?_) (fun h => by cases h)
        refine x_iconst (pc' := 14) rfl rfl ?_
        refine x_retz (z := false) rfl rfl ?_
        refine sK_i (pc' := 92) rfl ?_
        refine x_if (a' := 112) (pc' := 95) (z := true) rfl rfl rfl (by decide) (fun _ => ?_) (fun h => by cases h)
        refine x_iconst (pc' := 113) rfl rfl ?_
        refine x_reti rfl rfl ?_
        exact k1 q4 (of_decide_eq_false q8) (of_decide_eq_false q19)
      · refine x_iconst (pc' := 72) rfl rfl ?_
        refine x_goto (pc' := 76) rfl rfl ?_
        refine x_istore (pc' := 78) (ls' := [_, _, _, _, _, _, _, _, _]) rfl rfl rfl rfl ?_
        refine x_aload_n (pc' := 79) rfl rfl rfl rfl rfl ?_
        refine x_aload_n (pc' := 80) rfl rfl rfl rfl rfl ?_
        refine x_iload_n (pc' := 81) rfl rfl rfl ?_
        refine x_iload_n (pc' := 82) rfl rfl rfl ?_
        refine x_iload (pc' := 84) rfl rfl rfl ?_
        refine x_iload (pc' := 86) rfl rfl rfl ?_
        refine x_cv (ls0 := [_, _, _, _, _, sJk]) (rest := [_]) rfl rfl rfl rfl rfl ?_
        refine x_iload_n (pc' := 1) rfl rfl rfl ?_
        refine x_cs (ls0 := [_]) (rest := []) rfl rfl rfl rfl ?_
        refine x_iload_n (pc' := 1) rfl rfl rfl ?_
        refine x_iconst (pc' := 2) rfl rfl ?_
        refine x_iconst (pc' := 3) rfl rfl ?_
        refine x_cs (ls0 := [_, _, _]) (rest := []) rfl rfl rfl rfl ?_
        refine x_iload_n (pc' := 1) rfl rfl rfl ?_
        refine x_iload_n (pc' := 2) rfl rfl rfl ?_
        refine x_icmp (a' := 14) (pc' := 5) (z := decide (m < 0)) rfl rfl rfl (ic_lt (p := m) (q := 0) (gm31 hm) (by decide)) (fun h => absurd (of_decide_eq_true h) (by first | decide | omega | simp)) (fun _ => ?_)
        refine x_iload_n (pc' := 6) rfl rfl rfl ?_
        refine x_iload_n (pc' := 7) rfl rfl rfl ?_
        refine x_icmp (a' := 14) (pc' := 10) (z := decide (5 < m)) rfl rfl rfl (ic_gt (p := m) (q := 5) (gm31 hm) (by decide)) (fun h => absurd (of_decide_eq_true h) (show ¬ 5 < m by omega)) (fun _ => ?_)
        refine x_iconst (pc' := 11) rfl rfl ?_
        refine x_goto (pc' := 15) rfl rfl ?_
        refine x_retz (z := true) rfl rfl ?_
        refine sK_i (pc' := 6) rfl ?_
        refine x_retz (z := true) rfl rfl ?_
        refine sK_i (pc' := 4) rfl ?_
        refine x_if (a' := 18) (pc' := 7) (z := false) rfl rfl rfl (by decide) (fun h => by cases h) (fun _ => ?_)
        refine x_iload_n (pc' := 8) rfl rfl rfl ?_
        refine x_cs (ls0 := [_]) (rest := []) rfl rfl rfl rfl ?_
        refine x_iload_n (pc' := 1) rfl rfl rfl ?_
        refine x_iconst (pc' := 2) rfl rfl ?_
        refine x_iconst (pc' := 3) rfl rfl ?_
        refine x_cs (ls0 := [_, _, _]) (rest := []) rfl rfl rfl rfl ?_
        refine x_iload_n (pc' := 1) rfl rfl rfl ?_
        refine x_iload_n (pc' := 2) rfl rfl rfl ?_
        refine x_icmp (a' := 14) (pc' := 5) (z := decide (b < 0)) rfl rfl rfl (ic_lt (p := b) (q := 0) (gb31 hb) (by decide)) (fun h => absurd (of_decide_eq_true h) (by first | decide | omega | simp)) (fun _ => ?_)
        refine x_iload_n (pc' := 6) rfl rfl rfl ?_
        refine x_iload_n (pc' := 7) rfl rfl rfl ?_
        refine x_icmp (a' := 14) (pc' := 10) (z := decide (4 < b)) rfl rfl rfl (ic_gt (p := b) (q := 4) (gb31 hb) (by decide)) (fun h => absurd (of_decide_eq_true h) (show ¬ 4 < b by omega)) (fun _ => ?_)
        refine x_iconst (pc' := 11) rfl rfl ?_
        refine x_goto (pc' := 15) rfl rfl ?_
        refine x_retz (z := true) rfl rfl ?_
        refine sK_i (pc' := 6) rfl ?_
        refine x_retz (z := true) rfl rfl ?_
        refine sK_i (pc' := 11) rfl ?_
        refine x_if (a' := 18) (pc' := 14) (z := false) rfl rfl rfl (by decide) (fun h => by cases h) (fun _ => ?_)
        refine x_iconst (pc' := 15) rfl rfl ?_
        refine x_goto (pc' := 19) rfl rfl ?_
        refine x_istore (pc' := 21) (ls' := [_, _, _, _, _, _]) rfl rfl rfl rfl ?_
        refine x_iload (pc' := 23) rfl rfl rfl ?_
        refine x_if (a' := 30) (pc' := 26) (z := true) rfl rfl rfl (by decide) (fun _ => ?_) (fun h => by cases h)
        refine x_iload_n (pc' := 31) rfl rfl rfl ?_
        refine x_if (a' := 38) (pc' := 34) (z := false) rfl rfl rfl (by decide) (fun h => by cases h) (fun _ => ?_)
        refine x_iconst (pc' := 35) rfl rfl ?_
        refine x_goto (pc' := 57) rfl rfl ?_
        refine x_reti rfl rfl ?_
        refine sK_i (pc' := 89) rfl ?_
        refine x_cv (ls0 := [_, _]) (rest := []) rfl rfl rfl rfl rfl ?_
        refine x_aload_n (pc' := 1) rfl rfl rfl rfl rfl ?_
        refine x_iload_n (pc' := 2) rfl rfl rfl ?_
        refine x_pI (pc' := 5) rfl rfl rfl ?_
        refine x_iload_n (pc' := 6) rfl rfl rfl ?_
        refine x_if (a' := 13) (pc' := 9) (z := true) rfl rfl rfl (by decide) (fun _ => ?_) (fun h => by cases h)
        refine x_iconst (pc' := 14) rfl rfl ?_
        refine x_retz (z := false) rfl rfl ?_
        refine sK_i (pc' := 92) rfl ?_
        refine x_if (a' := 112) (pc' := 95) (z := true) rfl rfl rfl (by decide) (fun _ => ?_) (fun h => by cases h)
        refine x_iconst (pc' := 113) rfl rfl ?_
        refine x_reti rfl rfl ?_
        exact k2 q4 (of_decide_eq_false q8) (of_decide_eq_true q19)
  · refine x_iload (pc' := 18) rfl rfl rfl ?_
    refine x_iconst (pc' := 19) rfl rfl ?_
    refine x_bipush (pc' := 21) rfl rfl ?_
    refine x_cs (ls0 := [_, _, _]) (rest := []) rfl rfl rfl rfl ?_
    refine r145_g ?_
    refine sK_i (pc' := 24) rfl ?_
    refine x_ifeq_z (a' := 42) (pc' := 27) (z := (inB a 1 100)) rfl rfl rfl (fun q40 => ?_) (fun q40 => ?_)
    · refine x_iconst (pc' := 43) rfl rfl ?_
      refine x_istore (pc' := 45) (ls' := [_, _, _, _, _, _, _, _, _]) rfl rfl rfl rfl ?_
      refine x_iload_n (pc' := 46) rfl rfl rfl ?_
      refine x_cs (ls0 := [_]) (rest := []) rfl rfl rfl rfl ?_
      refine x_iload_n (pc' := 1) rfl rfl rfl ?_
      refine x_iconst (pc' := 2) rfl rfl ?_
      refine x_iconst (pc' := 3) rfl rfl ?_
      refine x_cs (ls0 := [_, _, _]) (rest := []) rfl rfl rfl rfl ?_
      refine x_iload_n (pc' := 1) rfl rfl rfl ?_
      refine x_iload_n (pc' := 2) rfl rfl rfl ?_
      refine x_icmp (a' := 14) (pc' := 5) (z := decide (b < 0)) rfl rfl rfl (ic_lt (p := b) (q := 0) (gb31 hb) (by decide)) (fun h => absurd (of_decide_eq_true h) (by first | decide | omega | simp)) (fun _ => ?_)
      refine x_iload_n (pc' := 6) rfl rfl rfl ?_
      refine x_iload_n (pc' := 7) rfl rfl rfl ?_
      refine x_icmp (a' := 14) (pc' := 10) (z := decide (4 < b)) rfl rfl rfl (ic_gt (p := b) (q := 4) (gb31 hb) (by decide)) (fun h => absurd (of_decide_eq_true h) (show ¬ 4 < b by omega)) (fun _ => ?_)
      refine x_iconst (pc' := 11) rfl rfl ?_
      refine x_goto (pc' := 15) rfl rfl ?_
      refine x_retz (z := true) rfl rfl ?_
      refine sK_i (pc' := 6) rfl ?_
      refine x_retz (z := true) rfl rfl ?_
      refine sK_i (pc' := 49) rfl ?_
      refine x_if (a' := 75) (pc' := 52) (z := false) rfl rfl rfl (by decide) (fun h => by cases h) (fun _ => ?_)
      refine x_aload_n (pc' := 53) rfl rfl rfl rfl rfl ?_
      refine x_gR (pc' := 56) (r := (some 0)) rfl rfl rfl (kR_769_0 hc) ?_
      refine x_iload_n (pc' := 57) rfl rfl rfl ?_
      refine x_iald (pc' := 58) (N := 5) (x := (mA M 0 b)) rfl rfl rfl (kN_21_0 hc) (io_in (p := b) (N := 5) hb (by decide)) (Eq.trans (congrArg (sA t 21 0) (nn_io (p := b) (Nat.lt_trans hb (by decide)))) (gA hM rfl)) ?_
      refine x_if (a' := 75) (pc' := 61) (z := decide ((mA M 0 b) = 0)) rfl rfl rfl rfl (fun q44 => ?_) (fun q44 => ?_)
      · refine x_iconst (pc' := 76) rfl rfl ?_
        refine x_istore (pc' := 78) (ls' := [_, _, _, _, _, _, _, _, _]) rfl rfl rfl rfl ?_
        refine x_aload_n (pc' := 79) rfl rfl rfl rfl rfl ?_
        refine x_aload_n (pc' := 80) rfl rfl rfl rfl rfl ?_
        refine x_iload_n (pc' := 81) rfl rfl rfl ?_
        refine x_iload_n (pc' := 82) rfl rfl rfl ?_
        refine x_iload (pc' := 84) rfl rfl rfl ?_
        refine x_iload (pc' := 86) rfl rfl rfl ?_
        refine x_cv (ls0 := [_, _, _, _, _, sJk]) (rest := [_]) rfl rfl rfl rfl rfl ?_
        refine x_iload_n (pc' := 1) rfl rfl rfl ?_
        refine x_cs (ls0 := [_]) (rest := []) rfl rfl rfl rfl ?_
        refine x_iload_n (pc' := 1) rfl rfl rfl ?_
        refine x_iconst (pc' := 2) rfl rfl ?_
        refine x_iconst (pc' := 3) rfl rfl ?_
        refine x_cs (ls0 := [_, _, _]) (rest := []) rfl rfl rfl rfl ?_
        refine x_iload_n (pc' := 1) rfl rfl rfl ?_
        refine x_iload_n (pc' := 2) rfl rfl rfl ?_
        refine x_icmp (a' := 14) (pc' := 5) (z := decide (m < 0)) rfl rfl rfl (ic_lt (p := m) (q := 0) (gm31 hm) (by decide)) (fun h => absurd (of_decide_eq_true h) (by first | decide | omega | simp)) (fun _ => ?_)
        refine x_iload_n (pc' := 6) rfl rfl rfl ?_
        refine x_iload_n (pc' := 7) rfl rfl rfl ?_
        refine x_icmp (a' := 14) (pc' := 10) (z := decide (5 < m)) rfl rfl rfl (ic_gt (p := m) (q := 5) (gm31 hm) (by decide)) (fun h => absurd (of_decide_eq_true h) (show ¬ 5 < m by omega)) (fun _ => ?_)
        refine x_iconst (pc' := 11) rfl rfl ?_
        refine x_goto (pc' := 15) rfl rfl ?_
        refine x_retz (z := true) rfl rfl ?_
        refine sK_i (pc' := 6) rfl ?_
        refine x_retz (z := true) rfl rfl ?_
        refine sK_i (pc' := 4) rfl ?_
        refine x_if (a' := 18) (pc' := 7) (z := false) rfl rfl rfl (by decide) (fun h => by cases h) (fun _ => ?_)
        refine x_iload_n (pc' := 8) rfl rfl rfl ?_
        refine x_cs (ls0 := [_]) (rest := []) rfl rfl rfl rfl ?_
        refine x_iload_n (pc' := 1) rfl rfl rfl ?_
        refine x_iconst (pc' := 2) rfl rfl ?_
        refine x_iconst (pc' := 3) rfl rfl ?_
        refine x_cs (ls0 := [_, _, _]) (rest := []) rfl rfl rfl rfl ?_
        refine x_iload_n (pc' := 1) rfl rfl rfl ?_
        refine x_iload_n (pc' := 2) rfl rfl rfl ?_
        refine x_icmp (a' := 14) (pc' := 5) (z := decide (b < 0)) rfl rfl rfl (ic_lt (p := b) (q := 0) (gb31 hb) (by decide)) (fun h => absurd (of_decide_eq_true h) (by first | decide | omega | simp)) (fun _ => ?_)
        refine x_iload_n (pc' := 6) rfl rfl rfl ?_
        refine x_iload_n (pc' := 7) rfl rfl rfl ?_
        refine x_icmp (a' := 14) (pc' := 10) (z := decide (4 < b)) rfl rfl rfl (ic_gt (p := b) (q := 4) (gb31 hb) (by decide)) (fun h => absurd (of_decide_eq_true h) (show ¬ 4 < b by omega)) (fun _ => ?_)
        refine x_iconst (pc' := 11) rfl rfl ?_
        refine x_goto (pc' := 15) rfl rfl ?_
        refine x_retz (z := true) rfl rfl ?_
        refine sK_i (pc' := 6) rfl ?_
        refine x_retz (z := true) rfl rfl ?_
        refine sK_i (pc' := 11) rfl ?_
        refine x_if (a' := 18) (pc' := 14) (z := false) rfl rfl rfl (by decide) (fun h => by cases h) (fun _ => ?_)
        refine x_iconst (pc' := 15) rfl rfl ?_
        refine x_goto (pc' := 19) rfl rfl ?_
        refine x_istore (pc' := 21) (ls' := [_, _, _, _, _, _]) rfl rfl rfl rfl ?_
        refine x_iload (pc' := 23) rfl rfl rfl ?_
        refine x_if (a' := 30) (pc' := 26) (z := true) rfl rfl rfl (by decide) (fun _ => ?_) (fun h => by cases h)
        refine x_iload_n (pc' := 31) rfl rfl rfl ?_
        refine x_if (a' := 38) (pc' := 34) (z := false) rfl rfl rfl (by decide) (fun h => by cases h) (fun _ => ?_)
        refine x_iconst (pc' := 35) rfl rfl ?_
        refine x_goto (pc' := 57) rfl rfl ?_
        refine x_reti rfl rfl ?_
        refine sK_i (pc' := 89) rfl ?_
        refine x_cv (ls0 := [_, _]) (rest := []) rfl rfl rfl rfl rfl ?_
        refine x_aload_n (pc' := 1) rfl rfl rfl rfl rfl ?_
        refine x_iload_n (pc' := 2) rfl rfl rfl ?_
        refine x_pI (pc' := 5) rfl rfl rfl ?_
        refine x_iload_n (pc' := 6) rfl rfl rfl ?_
        refine x_if (a' := 13) (pc' := 9) (z := true) rfl rfl rfl (by decide) (fun _ => ?_) (fun h => by cases h)
        refine x_iconst (pc' := 14) rfl rfl ?_
        refine x_retz (z := false) rfl rfl ?_
        refine sK_i (pc' := 92) rfl ?_
        refine x_if (a' := 112) (pc' := 95) (z := true) rfl rfl rfl (by decide) (fun _ => ?_) (fun h => by cases h)
        refine x_iconst (pc' := 113) rfl rfl ?_
        refine x_reti rfl rfl ?_
        exact k3 q4 q40 (of_decide_eq_true q44)
      · refine x_aload_n (pc' := 62) rfl rfl rfl rfl rfl ?_
        refine x_gI (pc' := 65) (x := (io n)) rfl rfl rfl (gFn hM (Fr.refl _) hR) ?_
        refine x_sipush (pc' := 68) rfl rfl ?_
        refine x_icmp_n (a' := 75) (pc' := 71) (z := decide (n < 200)) rfl rfl rfl (ic_gen (p := n) (q := 200) (gn31 hR) (by decide)) (fun q55 => ?_) (fun q55 => ?_)
        · refine x_iconst (pc' := 76) rfl rfl ?_
          refine x_istore (pc' := 78) (ls' := [_, _, _, _, _, _, _, _, _]) rfl rfl rfl rfl ?_
          refine x_aload_n (pc' := 79) rfl rfl rfl rfl rfl ?_
          refine x_aload_n (pc' := 80) rfl rfl rfl rfl rfl ?_
          refine x_iload_n (pc' := 81) rfl rfl rfl ?_
          refine x_iload_n (pc' := 82) rfl rfl rfl ?_
          refine x_iload (pc' := 84) rfl rfl rfl ?_
          refine x_iload (pc' := 86) rfl rfl rfl ?_
          refine x_cv (ls0 := [_, _, _, _, _, sJk]) (rest := [_]) rfl rfl rfl rfl rfl ?_
          refine x_iload_n (pc' := 1) rfl rfl rfl ?_
          refine x_cs (ls0 := [_]) (rest := []) rfl rfl rfl rfl ?_
          refine x_iload_n (pc' := 1) rfl rfl rfl ?_
          refine x_iconst (pc' := 2) rfl rfl ?_
          refine x_iconst (pc' := 3) rfl rfl ?_
          refine x_cs (ls0 := [_, _, _]) (rest := []) rfl rfl rfl rfl ?_
          refine x_iload_n (pc' := 1) rfl rfl rfl ?_
          refine x_iload_n (pc' := 2) rfl rfl rfl ?_
          refine x_icmp (a' := 14) (pc' := 5) (z := decide (m < 0)) rfl rfl rfl (ic_lt (p := m) (q := 0) (gm31 hm) (by decide)) (fun h => absurd (of_decide_eq_true h) (by first | decide | omega | simp)) (fun _ => ?_)
          refine x_iload_n (pc' := 6) rfl rfl rfl ?_
          refine x_iload_n (pc' := 7) rfl rfl rfl ?_
          refine x_icmp (a' := 14) (pc' := 10) (z := decide (5 < m)) rfl rfl rfl (ic_gt (p := m) (q := 5) (gm31 hm) (by decide)) (fun h => absurd (of_decide_eq_true h) (show ¬ 5 < m by omega)) (fun _ => ?_)
          refine x_iconst (pc' := 11) rfl rfl ?_
          refine x_goto (pc' := 15) rfl rfl ?_
          refine x_retz (z := true) rfl rfl ?_
          refine sK_i (pc' := 6) rfl ?_
          refine x_retz (z := true) rfl rfl ?_
          refine sK_i (pc' := 4) rfl ?_
          refine x_if (a' := 18) (pc' := 7) (z := false) rfl rfl rfl (by decide) (fun h => by cases h) (fun _ => ?_)
          refine x_iload_n (pc' := 8) rfl rfl rfl ?_
          refine x_cs (ls0 := [_]) (rest := []) rfl rfl rfl rfl ?_
          refine x_iload_n (pc' := 1) rfl rfl rfl ?_
          refine x_iconst (pc' := 2) rfl rfl ?_
          refine x_iconst (pc' := 3) rfl rfl ?_
          refine x_cs (ls0 := [_, _, _]) (rest := []) rfl rfl rfl rfl ?_
          refine x_iload_n (pc' := 1) rfl rfl rfl ?_
          refine x_iload_n (pc' := 2) rfl rfl rfl ?_
          refine x_icmp (a' := 14) (pc' := 5) (z := decide (b < 0)) rfl rfl rfl (ic_lt (p := b) (q := 0) (gb31 hb) (by decide)) (fun h => absurd (of_decide_eq_true h) (by first | decide | omega | simp)) (fun _ => ?_)
          refine x_iload_n (pc' := 6) rfl rfl rfl ?_
          refine x_iload_n (pc' := 7) rfl rfl rfl ?_
          refine x_icmp (a' := 14) (pc' := 10) (z := decide (4 < b)) rfl rfl rfl (ic_gt (p := b) (q := 4) (gb31 hb) (by decide)) (fun h => absurd (of_decide_eq_true h) (show ¬ 4 < b by omega)) (fun _ => ?_)
          refine x_iconst (pc' := 11) rfl rfl ?_
          refine x_goto (pc' := 15) rfl rfl ?_
          refine x_retz (z := true) rfl rfl ?_
          refine sK_i (pc' := 6) rfl ?_
          refine x_retz (z := true) rfl rfl ?_
          refine sK_i (pc' := 11) rfl ?_
          refine x_if (a' := 18) (pc' := 14) (z := false) rfl rfl rfl (by decide) (fun h => by cases h) (fun _ => ?_)
          refine x_iconst (pc' := 15) rfl rfl ?_
          refine x_goto (pc' := 19) rfl rfl ?_
          refine x_istore (pc' := 21) (ls' := [_, _, _, _, _, _]) rfl rfl rfl rfl ?_
          refine x_iload (pc' := 23) rfl rfl rfl ?_
          refine x_if (a' := 30) (pc' := 26) (z := true) rfl rfl rfl (by decide) (fun _ => ?_) (fun h => by cases h)
          refine x_iload_n (pc' := 31) rfl rfl rfl ?_
          refine x_if (a' := 38) (pc' := 34) (z := false) rfl rfl rfl (by decide) (fun h => by cases h) (fun _ => ?_)
          refine x_iconst (pc' := 35) rfl rfl ?_
          refine x_goto (pc' := 57) rfl rfl ?_
          refine x_reti rfl rfl ?_
          refine sK_i (pc' := 89) rfl ?_
          refine x_cv (ls0 := [_, _]) (rest := []) rfl rfl rfl rfl rfl ?_
          refine x_aload_n (pc' := 1) rfl rfl rfl rfl rfl ?_
          refine x_iload_n (pc' := 2) rfl rfl rfl ?_
          refine x_pI (pc' := 5) rfl rfl rfl ?_
          refine x_iload_n (pc' := 6) rfl rfl rfl ?_
          refine x_if (a' := 13) (pc' := 9) (z := true) rfl rfl rfl (by decide) (fun _ => ?_) (fun h => by cases h)
          refine x_iconst (pc' := 14) rfl rfl ?_
          refine x_retz (z := false) rfl rfl ?_
          refine sK_i (pc' := 92) rfl ?_
          refine x_if (a' := 112) (pc' := 95) (z := true) rfl rfl rfl (by decide) (fun _ => ?_) (fun h => by cases h)
          refine x_iconst (pc' := 113) rfl rfl ?_
          refine x_reti rfl rfl ?_
          exact k4 q4 q40 (of_decide_eq_false q44) (of_decide_eq_false q55)
        · refine x_iconst (pc' := 72) rfl rfl ?_
          refine x_goto (pc' := 76) rfl rfl ?_
          refine x_istore (pc' := 78) (ls' := [_, _, _, _, _, _, _, _, _]) rfl rfl rfl rfl ?_
          refine x_aload_n (pc' := 79) rfl rfl rfl rfl rfl ?_
          refine x_aload_n (pc' := 80) rfl rfl rfl rfl rfl ?_
          refine x_iload_n (pc' := 81) rfl rfl rfl ?_
          refine x_iload_n (pc' := 82) rfl rfl rfl ?_
          refine x_iload (pc' := 84) rfl rfl rfl ?_
          refine x_iload (pc' := 86) rfl rfl rfl ?_
          refine x_cv (ls0 := [_, _, _, _, _, sJk]) (rest := [_]) rfl rfl rfl rfl rfl ?_
          refine x_iload_n (pc' := 1) rfl rfl rfl ?_
          refine x_cs (ls0 := [_]) (rest := []) rfl rfl rfl rfl ?_
          refine x_iload_n (pc' := 1) rfl rfl rfl ?_
          refine x_iconst (pc' := 2) rfl rfl ?_
          refine x_iconst (pc' := 3) rfl rfl ?_
          refine x_cs (ls0 := [_, _, _]) (rest := []) rfl rfl rfl rfl ?_
          refine x_iload_n (pc' := 1) rfl rfl rfl ?_
          refine x_iload_n (pc' := 2) rfl rfl rfl ?_
          refine x_icmp (a' := 14) (pc' := 5) (z := decide (m < 0)) rfl rfl rfl (ic_lt (p := m) (q := 0) (gm31 hm) (by decide)) (fun h => absurd (of_decide_eq_true h) (by first | decide | omega | simp)) (fun _ => ?_)
          refine x_iload_n (pc' := 6) rfl rfl rfl ?_
          refine x_iload_n (pc' := 7) rfl rfl rfl ?_
          refine x_icmp (a' := 14) (pc' := 10) (z := decide (5 < m)) rfl rfl rfl (ic_gt (p := m) (q := 5) (gm31 hm) (by decide)) (fun h => absurd (of_decide_eq_true h) (show ¬ 5 < m by omega)) (fun _ => ?_)
          refine x_iconst (pc' := 11) rfl rfl ?_
          refine x_goto (pc' := 15) rfl rfl ?_
          refine x_retz (z := true) rfl rfl ?_
          refine sK_i (pc' := 6) rfl ?_
          refine x_retz (z := true) rfl rfl ?_
          refine sK_i (pc' := 4) rfl ?_
          refine x_if (a' := 18) (pc' := 7) (z := false) rfl rfl rfl (by decide) (fun h => by cases h) (fun _ => ?_)
          refine x_iload_n (pc' := 8) rfl rfl rfl ?_
          refine x_cs (ls0 := [_]) (rest := []) rfl rfl rfl rfl ?_
          refine x_iload_n (pc' := 1) rfl rfl rfl ?_
          refine x_iconst (pc' := 2) rfl rfl ?_
          refine x_iconst (pc' := 3) rfl rfl ?_
          refine x_cs (ls0 := [_, _, _]) (rest := []) rfl rfl rfl rfl ?_
          refine x_iload_n (pc' := 1) rfl rfl rfl ?_
          refine x_iload_n (pc' := 2) rfl rfl rfl ?_
          refine x_icmp (a' := 14) (pc' := 5) (z := decide (b < 0)) rfl rfl rfl (ic_lt (p := b) (q := 0) (gb31 hb) (by decide)) (fun h => absurd (of_decide_eq_true h) (by first | decide | omega | simp)) (fun _ => ?_)
          refine x_iload_n (pc' := 6) rfl rfl rfl ?_
          refine x_iload_n (pc' := 7) rfl rfl rfl ?_
          refine x_icmp (a' := 14) (pc' := 10) (z := decide (4 < b)) rfl rfl rfl (ic_gt (p := b) (q := 4) (gb31 hb) (by decide)) (fun h => absurd (of_decide_eq_true h) (show ¬ 4 < b by omega)) (fun _ => ?_)
          refine x_iconst (pc' := 11) rfl rfl ?_
          refine x_goto (pc' := 15) rfl rfl ?_
          refine x_retz (z := true) rfl rfl ?_
          refine sK_i (pc' := 6) rfl ?_
          refine x_retz (z := true) rfl rfl ?_
          refine sK_i (pc' := 11) rfl ?_
          refine x_if (a' := 18) (pc' := 14) (z := false) rfl rfl rfl (by decide) (fun h => by cases h) (fun _ => ?_)
          refine x_iconst (pc' := 15) rfl rfl ?_
          refine x_goto (pc' := 19) rfl rfl ?_
          refine x_istore (pc' := 21) (ls' := [_, _, _, _, _, _]) rfl rfl rfl rfl ?_
          refine x_iload (pc' := 23) rfl rfl rfl ?_
          refine x_if (a' := 30) (pc' := 26) (z := true) rfl rfl rfl (by decide) (fun _ => ?_) (fun h => by cases h)
          refine x_iload_n (pc' := 31) rfl rfl rfl ?_
          refine x_if (a' := 38) (pc' := 34) (z := false) rfl rfl rfl (by decide) (fun h => by cases h) (fun _ => ?_)
          refine x_iconst (pc' := 35) rfl rfl ?_
          refine x_goto (pc' := 57) rfl rfl ?_
          refine x_reti rfl rfl ?_
          refine sK_i (pc' := 89) rfl ?_
          refine x_cv (ls0 := [_, _]) (rest := []) rfl rfl rfl rfl rfl ?_
          refine x_aload_n (pc' := 1) rfl rfl rfl rfl rfl ?_
          refine x_iload_n (pc' := 2) rfl rfl rfl ?_
          refine x_pI (pc' := 5) rfl rfl rfl ?_
          refine x_iload_n (pc' := 6) rfl rfl rfl ?_
          refine x_if (a' := 13) (pc' := 9) (z := true) rfl rfl rfl (by decide) (fun _ => ?_) (fun h => by cases h)
          refine x_iconst (pc' := 14) rfl rfl ?_
          refine x_retz (z := false) rfl rfl ?_
          refine sK_i (pc' := 92) rfl ?_
          refine x_if (a' := 112) (pc' := 95) (z := true) rfl rfl rfl (by decide) (fun _ => ?_) (fun h => by cases h)
          refine x_iconst (pc' := 113) rfl rfl ?_
          refine x_reti rfl rfl ?_
          exact k5 q4 q40 (of_decide_eq_false q44) (of_decide_eq_true q55)
    · refine x_iload (pc' := 29) rfl rfl rfl ?_
      refine x_iconst (pc' := 30) rfl rfl ?_
      refine x_iload (pc' := 32) rfl rfl rfl ?_
      refine x_cs (ls0 := [_, _, _]) (rest := []) rfl rfl rfl rfl ?_
      refine r145_g ?_
      refine sK_i (pc' := 35) rfl ?_
      refine x_ifeq_z (a' := 42) (pc' := 38) (z := (inB h 1 a)) rfl rfl rfl (fun q76 => ?_) (fun q76 => ?_)
      · refine x_iconst (pc' := 43) rfl rfl ?_
        refine x_istore (pc' := 45) (ls' := [_, _, _, _, _, _, _, _, _]) rfl rfl rfl rfl ?_
        refine x_iload_n (pc' := 46) rfl rfl rfl ?_
        refine x_cs (ls0 := [_]) (rest := []) rfl rfl rfl rfl ?_
        refine x_iload_n (pc' := 1) rfl rfl rfl ?_
        refine x_iconst (pc' := 2) rfl rfl ?_
        refine x_iconst (pc' := 3) rfl rfl ?_
        refine x_cs (ls0 := [_, _, _]) (rest := []) rfl rfl rfl rfl ?_
        refine x_iload_n (pc' := 1) rfl rfl rfl ?_
        refine x_iload_n (pc' := 2) rfl rfl rfl ?_
        refine x_icmp (a' := 14) (pc' := 5) (z := decide (b < 0)) rfl rfl rfl (ic_lt (p := b) (q := 0) (gb31 hb) (by decide)) (fun h => absurd (of_decide_eq_true h) (by first | decide | omega | simp)) (fun _ => ?_)
        refine x_iload_n (pc' := 6) rfl rfl rfl ?_
        refine x_iload_n (pc' := 7) rfl rfl rfl ?_
        refine x_icmp (a' := 14) (pc' := 10) (z := decide (4 < b)) rfl rfl rfl (ic_gt (p := b) (q := 4) (gb31 hb) (by decide)) (fun h => absurd (of_decide_eq_true h) (show ¬ 4 < b by omega)) (fun _ => ?_)
        refine x_iconst (pc' := 11) rfl rfl ?_
        refine x_goto (pc' := 15) rfl rfl ?_
        refine x_retz (z := true) rfl rfl ?_
        refine sK_i (pc' := 6) rfl ?_
        refine x_retz (z := true) rfl rfl ?_
        refine sK_i (pc' := 49) rfl ?_
        refine x_if (a' := 75) (pc' := 52) (z := false) rfl rfl rfl (by decide) (fun h => by cases h) (fun _ => ?_)
        refine x_aload_n (pc' := 53) rfl rfl rfl rfl rfl ?_
        refine x_gR (pc' := 56) (r := (some 0)) rfl rfl rfl (kR_769_0 hc) ?_
        refine x_iload_n (pc' := 57) rfl rfl rfl ?_
        refine x_iald (pc' := 58) (N := 5) (x := (mA M 0 b)) rfl rfl rfl (kN_21_0 hc) (io_in (p := b) (N := 5) hb (by decide)) (Eq.trans (congrArg (sA t 21 0) (nn_io (p := b) (Nat.lt_trans hb (by decide)))) (gA hM rfl)) ?_
        refine x_if (a' := 75) (pc' := 61) (z := decide ((mA M 0 b) = 0)) rfl rfl rfl rfl (fun q80 => ?_) (fun q80 => ?_)
        · refine x_iconst (pc' := 76) rfl rfl ?_
          refine x_istore (pc' := 78) (ls' := [_, _, _, _, _, _, _, _, _]) rfl rfl rfl rfl ?_
          refine x_aload_n (pc' := 79) rfl rfl rfl rfl rfl ?_
          refine x_aload_n (pc' := 80) rfl rfl rfl rfl rfl ?_
          refine x_iload_n (pc' := 81) rfl rfl rfl ?_
          refine x_iload_n (pc' := 82) rfl rfl rfl ?_
          refine x_iload (pc' := 84) rfl rfl rfl ?_
          refine x_iload (pc' := 86) rfl rfl rfl ?_
          refine x_cv (ls0 := [_, _, _, _, _, sJk]) (rest := [_]) rfl rfl rfl rfl rfl ?_
          refine x_iload_n (pc' := 1) rfl rfl rfl ?_
          refine x_cs (ls0 := [_]) (rest := []) rfl rfl rfl rfl ?_
          refine x_iload_n (pc' := 1) rfl rfl rfl ?_
          refine x_iconst (pc' := 2) rfl rfl ?_
          refine x_iconst (pc' := 3) rfl rfl ?_
          refine x_cs (ls0 := [_, _, _]) (rest := []) rfl rfl rfl rfl ?_
          refine x_iload_n (pc' := 1) rfl rfl rfl ?_
          refine x_iload_n (pc' := 2) rfl rfl rfl ?_
          refine x_icmp (a' := 14) (pc' := 5) (z := decide (m < 0)) rfl rfl rfl (ic_lt (p := m) (q := 0) (gm31 hm) (by decide)) (fun h => absurd (of_decide_eq_true h) (by first | decide | omega | simp)) (fun _ => ?_)
          refine x_iload_n (pc' := 6) rfl rfl rfl ?_
          refine x_iload_n (pc' := 7) rfl rfl rfl ?_
          refine x_icmp (a' := 14) (pc' := 10) (z := decide (5 < m)) rfl rfl rfl (ic_gt (p := m) (q := 5) (gm31 hm) (by decide)) (fun h => absurd (of_decide_eq_true h) (show ¬ 5 < m by omega)) (fun _ => ?_)
          refine x_iconst (pc' := 11) rfl rfl ?_
          refine x_goto (pc' := 15) rfl rfl ?_
          refine x_retz (z := true) rfl rfl ?_
          refine sK_i (pc' := 6) rfl ?_
          refine x_retz (z := true) rfl rfl ?_
          refine sK_i (pc' := 4) rfl ?_
          refine x_if (a' := 18) (pc' := 7) (z := false) rfl rfl rfl (by decide) (fun h => by cases h) (fun _ => ?_)
          refine x_iload_n (pc' := 8) rfl rfl rfl ?_
          refine x_cs (ls0 := [_]) (rest := []) rfl rfl rfl rfl ?_
          refine x_iload_n (pc' := 1) rfl rfl rfl ?_
          refine x_iconst (pc' := 2) rfl rfl ?_
          refine x_iconst (pc' := 3) rfl rfl ?_
          refine x_cs (ls0 := [_, _, _]) (rest := []) rfl rfl rfl rfl ?_
          refine x_iload_n (pc' := 1) rfl rfl rfl ?_
          refine x_iload_n (pc' := 2) rfl rfl rfl ?_
          refine x_icmp (a' := 14) (pc' := 5) (z := decide (b < 0)) rfl rfl rfl (ic_lt (p := b) (q := 0) (gb31 hb) (by decide)) (fun h => absurd (of_decide_eq_true h) (by first | decide | omega | simp)) (fun _ => ?_)
          refine x_iload_n (pc' := 6) rfl rfl rfl ?_
          refine x_iload_n (pc' := 7) rfl rfl rfl ?_
          refine x_icmp (a' := 14) (pc' := 10) (z := decide (4 < b)) rfl rfl rfl (ic_gt (p := b) (q := 4) (gb31 hb) (by decide)) (fun h => absurd (of_decide_eq_true h) (show ¬ 4 < b by omega)) (fun _ => ?_)
          refine x_iconst (pc' := 11) rfl rfl ?_
          refine x_goto (pc' := 15) rfl rfl ?_
          refine x_retz (z := true) rfl rfl ?_
          refine sK_i (pc' := 6) rfl ?_
          refine x_retz (z := true) rfl rfl ?_
          refine sK_i (pc' := 11) rfl ?_
          refine x_if (a' := 18) (pc' := 14) (z := false) rfl rfl rfl (by decide) (fun h => by cases h) (fun _ => ?_)
          refine x_iconst (pc' := 15) rfl rfl ?_
          refine x_goto (pc' := 19) rfl rfl ?_
          refine x_istore (pc' := 21) (ls' := [_, _, _, _, _, _]) rfl rfl rfl rfl ?_
          refine x_iload (pc' := 23) rfl rfl rfl ?_
          refine x_if (a' := 30) (pc' := 26) (z := true) rfl rfl rfl (by decide) (fun _ => ?_) (fun h => by cases h)
          refine x_iload_n (pc' := 31) rfl rfl rfl ?_
          refine x_if (a' := 38) (pc' := 34) (z := false) rfl rfl rfl (by decide) (fun h => by cases h) (fun _ => ?_)
          refine x_iconst (pc' := 35) rfl rfl ?_
          refine x_goto (pc' := 57) rfl rfl ?_
          refine x_reti rfl rfl ?_
          refine sK_i (pc' := 89) rfl ?_
          refine x_cv (ls0 := [_, _]) (rest := []) rfl rfl rfl rfl rfl ?_
          refine x_aload_n (pc' := 1) rfl rfl rfl rfl rfl ?_
          refine x_iload_n (pc' := 2) rfl rfl rfl ?_
          refine x_pI (pc' := 5) rfl rfl rfl ?_
          refine x_iload_n (pc' := 6) rfl rfl rfl ?_
          refine x_if (a' := 13) (pc' := 9) (z := true) rfl rfl rfl (by decide) (fun _ => ?_) (fun h => by cases h)
          refine x_iconst (pc' := 14) rfl rfl ?_
          refine x_retz (z := false) rfl rfl ?_
          refine sK_i (pc' := 92) rfl ?_
          refine x_if (a' := 112) (pc' := 95) (z := true) rfl rfl rfl (by decide) (fun _ => ?_) (fun h => by cases h)
          refine x_iconst (pc' := 113) rfl rfl ?_
          refine x_reti rfl rfl ?_
          exact k6 q4 q40 q76 (of_decide_eq_true q80)
        · refine x_aload_n (pc' := 62) rfl rfl rfl rfl rfl ?_
          refine x_gI (pc' := 65) (x := (io n)) rfl rfl rfl (gFn hM (Fr.refl _) hR) ?_
          refine x_sipush (pc' := 68) rfl rfl ?_
          refine x_icmp_n (a' := 75) (pc' := 71) (z := decide (n < 200)) rfl rfl rfl (ic_gen (p := n) (q := 200) (gn31 hR) (by decide)) (fun q91 => ?_) (fun q91 => ?_)
          · refine x_iconst (pc' := 76) rfl rfl ?_
            refine x_istore (pc' := 78) (ls' := [_, _, _, _, _, _, _, _, _]) rfl rfl rfl rfl ?_
            refine x_aload_n (pc' := 79) rfl rfl rfl rfl rfl ?_
            refine x_aload_n (pc' := 80) rfl rfl rfl rfl rfl ?_
            refine x_iload_n (pc' := 81) rfl rfl rfl ?_
            refine x_iload_n (pc' := 82) rfl rfl rfl ?_
            refine x_iload (pc' := 84) rfl rfl rfl ?_
            refine x_iload (pc' := 86) rfl rfl rfl ?_
            refine x_cv (ls0 := [_, _, _, _, _, sJk]) (rest := [_]) rfl rfl rfl rfl rfl ?_
            refine x_iload_n (pc' := 1) rfl rfl rfl ?_
            refine x_cs (ls0 := [_]) (rest := []) rfl rfl rfl rfl ?_
            refine x_iload_n (pc' := 1) rfl rfl rfl ?_
            refine x_iconst (pc' := 2) rfl rfl ?_
            refine x_iconst (pc' := 3) rfl rfl ?_
            refine x_cs (ls0 := [_, _, _]) (rest := []) rfl rfl rfl rfl ?_
            refine x_iload_n (pc' := 1) rfl rfl rfl ?_
            refine x_iload_n (pc' := 2) rfl rfl rfl ?_
            refine x_icmp (a' := 14) (pc' := 5) (z := decide (m < 0)) rfl rfl rfl (ic_lt (p := m) (q := 0) (gm31 hm) (by decide)) (fun h => absurd (of_decide_eq_true h) (by first | decide | omega | simp)) (fun _ => ?_)
            refine x_iload_n (pc' := 6) rfl rfl rfl ?_
            refine x_iload_n (pc' := 7) rfl rfl rfl ?_
            refine x_icmp (a' := 14) (pc' := 10) (z := decide (5 < m)) rfl rfl rfl (ic_gt (p := m) (q := 5) (gm31 hm) (by decide)) (fun h => absurd (of_decide_eq_true h) (show ¬ 5 < m by omega)) (fun _ => ?_)
            refine x_iconst (pc' := 11) rfl rfl ?_
            refine x_goto (pc' := 15) rfl rfl ?_
            refine x_retz (z := true) rfl rfl ?_
            refine sK_i (pc' := 6) rfl ?_
            refine x_retz (z := true) rfl rfl ?_
            refine sK_i (pc' := 4) rfl ?_
            refine x_if (a' := 18) (pc' := 7) (z := false) rfl rfl rfl (by decide) (fun h => by cases h) (fun _ => ?_)
            refine x_iload_n (pc' := 8) rfl rfl rfl ?_
            refine x_cs (ls0 := [_]) (rest := []) rfl rfl rfl rfl ?_
            refine x_iload_n (pc' := 1) rfl rfl rfl ?_
            refine x_iconst (pc' := 2) rfl rfl ?_
            refine x_iconst (pc' := 3) rfl rfl ?_
            refine x_cs (ls0 := [_, _, _]) (rest := []) rfl rfl rfl rfl ?_
            refine x_iload_n (pc' := 1) rfl rfl rfl ?_
            refine x_iload_n (pc' := 2) rfl rfl rfl ?_
            refine x_icmp (a' := 14) (pc' := 5) (z := decide (b < 0)) rfl rfl rfl (ic_lt (p := b) (q := 0) (gb31 hb) (by decide)) (fun h => absurd (of_decide_eq_true h) (by first | decide | omega | simp)) (fun _ => ?_)
            refine x_iload_n (pc' := 6) rfl rfl rfl ?_
            refine x_iload_n (pc' := 7) rfl rfl rfl ?_
            refine x_icmp (a' := 14) (pc' := 10) (z := decide (4 < b)) rfl rfl rfl (ic_gt (p := b) (q := 4) (gb31 hb) (by decide)) (fun h => absurd (of_decide_eq_true h) (show ¬ 4 < b by omega)) (fun _ => ?_)
            refine x_iconst (pc' := 11) rfl rfl ?_
            refine x_goto (pc' := 15) rfl rfl ?_
            refine x_retz (z := true) rfl rfl ?_
            refine sK_i (pc' := 6) rfl ?_
            refine x_retz (z := true) rfl rfl ?_
            refine sK_i (pc' := 11) rfl ?_
            refine x_if (a' := 18) (pc' := 14) (z := false) rfl rfl rfl (by decide) (fun h => by cases h) (fun _ => ?_)
            refine x_iconst (pc' := 15) rfl rfl ?_
            refine x_goto (pc' := 19) rfl rfl ?_
            refine x_istore (pc' := 21) (ls' := [_, _, _, _, _, _]) rfl rfl rfl rfl ?_
            refine x_iload (pc' := 23) rfl rfl rfl ?_
            refine x_if (a' := 30) (pc' := 26) (z := true) rfl rfl rfl (by decide) (fun _ => ?_) (fun h => by cases h)
            refine x_iload_n (pc' := 31) rfl rfl rfl ?_
            refine x_if (a' := 38) (pc' := 34) (z := false) rfl rfl rfl (by decide) (fun h => by cases h) (fun _ => ?_)
            refine x_iconst (pc' := 35) rfl rfl ?_
            refine x_goto (pc' := 57) rfl rfl ?_
            refine x_reti rfl rfl ?_
            refine sK_i (pc' := 89) rfl ?_
            refine x_cv (ls0 := [_, _]) (rest := []) rfl rfl rfl rfl rfl ?_
            refine x_aload_n (pc' := 1) rfl rfl rfl rfl rfl ?_
            refine x_iload_n (pc' := 2) rfl rfl rfl ?_
            refine x_pI (pc' := 5) rfl rfl rfl ?_
            refine x_iload_n (pc' := 6) rfl rfl rfl ?_
            refine x_if (a' := 13) (pc' := 9) (z := true) rfl rfl rfl (by decide) (fun _ => ?_) (fun h => by cases h)
            refine x_iconst (pc' := 14) rfl rfl ?_
            refine x_retz (z := false) rfl rfl ?_
            refine sK_i (pc' := 92) rfl ?_
            refine x_if (a' := 112) (pc' := 95) (z := true) rfl rfl rfl (by decide) (fun _ => ?_) (fun h => by cases h)
            refine x_iconst (pc' := 113) rfl rfl ?_
            refine x_reti rfl rfl ?_
            exact k7 q4 q40 q76 (of_decide_eq_false q80) (of_decide_eq_false q91)
          · refine x_iconst (pc' := 72) rfl rfl ?_
            refine x_goto (pc' := 76) rfl rfl ?_
            refine x_istore (pc' := 78) (ls' := [_, _, _, _, _, _, _, _, _]) rfl rfl rfl rfl ?_
            refine x_aload_n (pc' := 79) rfl rfl rfl rfl rfl ?_
            refine x_aload_n (pc' := 80) rfl rfl rfl rfl rfl ?_
            refine x_iload_n (pc' := 81) rfl rfl rfl ?_
            refine x_iload_n (pc' := 82) rfl rfl rfl ?_
            refine x_iload (pc' := 84) rfl rfl rfl ?_
            refine x_iload (pc' := 86) rfl rfl rfl ?_
            refine x_cv (ls0 := [_, _, _, _, _, sJk]) (rest := [_]) rfl rfl rfl rfl rfl ?_
            refine x_iload_n (pc' := 1) rfl rfl rfl ?_
            refine x_cs (ls0 := [_]) (rest := []) rfl rfl rfl rfl ?_
            refine x_iload_n (pc' := 1) rfl rfl rfl ?_
            refine x_iconst (pc' := 2) rfl rfl ?_
            refine x_iconst (pc' := 3) rfl rfl ?_
            refine x_cs (ls0 := [_, _, _]) (rest := []) rfl rfl rfl rfl ?_
            refine x_iload_n (pc' := 1) rfl rfl rfl ?_
            refine x_iload_n (pc' := 2) rfl rfl rfl ?_
            refine x_icmp (a' := 14) (pc' := 5) (z := decide (m < 0)) rfl rfl rfl (ic_lt (p := m) (q := 0) (gm31 hm) (by decide)) (fun h => absurd (of_decide_eq_true h) (by first | decide | omega | simp)) (fun _ => ?_)
            refine x_iload_n (pc' := 6) rfl rfl rfl ?_
            refine x_iload_n (pc' := 7) rfl rfl rfl ?_
            refine x_icmp (a' := 14) (pc' := 10) (z := decide (5 < m)) rfl rfl rfl (ic_gt (p := m) (q := 5) (gm31 hm) (by decide)) (fun h => absurd (of_decide_eq_true h) (show ¬ 5 < m by omega)) (fun _ => ?_)
            refine x_iconst (pc' := 11) rfl rfl ?_
            refine x_goto (pc' := 15) rfl rfl ?_
            refine x_retz (z := true) rfl rfl ?_
            refine sK_i (pc' := 6) rfl ?_
            refine x_retz (z := true) rfl rfl ?_
            refine sK_i (pc' := 4) rfl ?_
            refine x_if (a' := 18) (pc' := 7) (z := false) rfl rfl rfl (by decide) (fun h => by cases h) (fun _ => ?_)
            refine x_iload_n (pc' := 8) rfl rfl rfl ?_
            refine x_cs (ls0 := [_]) (rest := []) rfl rfl rfl rfl ?_
            refine x_iload_n (pc' := 1) rfl rfl rfl ?_
            refine x_iconst (pc' := 2) rfl rfl ?_
            refine x_iconst (pc' := 3) rfl rfl ?_
            refine x_cs (ls0 := [_, _, _]) (rest := []) rfl rfl rfl rfl ?_
            refine x_iload_n (pc' := 1) rfl rfl rfl ?_
            refine x_iload_n (pc' := 2) rfl rfl rfl ?_
            refine x_icmp (a' := 14) (pc' := 5) (z := decide (b < 0)) rfl rfl rfl (ic_lt (p := b) (q := 0) (gb31 hb) (by decide)) (fun h => absurd (of_decide_eq_true h) (by first | decide | omega | simp)) (fun _ => ?_)
            refine x_iload_n (pc' := 6) rfl rfl rfl ?_
            refine x_iload_n (pc' := 7) rfl rfl rfl ?_
            refine x_icmp (a' := 14) (pc' := 10) (z := decide (4 < b)) rfl rfl rfl (ic_gt (p := b) (q := 4) (gb31 hb) (by decide)) (fun h => absurd (of_decide_eq_true h) (show ¬ 4 < b by omega)) (fun _ => ?_)
            refine x_iconst (pc' := 11) rfl rfl ?_
            refine x_goto (pc' := 15) rfl rfl ?_
            refine x_retz (z := true) rfl rfl ?_
            refine sK_i (pc' := 6) rfl ?_
            refine x_retz (z := true) rfl rfl ?_
            refine sK_i (pc' := 11) rfl ?_
            refine x_if (a' := 18) (pc' := 14) (z := false) rfl rfl rfl (by decide) (fun h => by cases h) (fun _ => ?_)
            refine x_iconst (pc' := 15) rfl rfl ?_
            refine x_goto (pc' := 19) rfl rfl ?_
            refine x_istore (pc' := 21) (ls' := [_, _, _, _, _, _]) rfl rfl rfl rfl ?_
            refine x_iload (pc' := 23) rfl rfl rfl ?_
            refine x_if (a' := 30) (pc' := 26) (z := true) rfl rfl rfl (by decide) (fun _ => ?_) (fun h => by cases h)
            refine x_iload_n (pc' := 31) rfl rfl rfl ?_
            refine x_if (a' := 38) (pc' := 34) (z := false) rfl rfl rfl (by decide) (fun h => by cases h) (fun _ => ?_)
            refine x_iconst (pc' := 35) rfl rfl ?_
            refine x_goto (pc' := 57) rfl rfl ?_
            refine x_reti rfl rfl ?_
            refine sK_i (pc' := 89) rfl ?_
            refine x_cv (ls0 := [_, _]) (rest := []) rfl rfl rfl rfl rfl ?_
            refine x_aload_n (pc' := 1) rfl rfl rfl rfl rfl ?_
            refine x_iload_n (pc' := 2) rfl rfl rfl ?_
            refine x_pI (pc' := 5) rfl rfl rfl ?_
            refine x_iload_n (pc' := 6) rfl rfl rfl ?_
            refine x_if (a' := 13) (pc' := 9) (z := true) rfl rfl rfl (by decide) (fun _ => ?_) (fun h => by cases h)
            refine x_iconst (pc' := 14) rfl rfl ?_
            refine x_retz (z := false) rfl rfl ?_
            refine sK_i (pc' := 92) rfl ?_
            refine x_if (a' := 112) (pc' := 95) (z := true) rfl rfl rfl (by decide) (fun _ => ?_) (fun h => by cases h)
            refine x_iconst (pc' := 113) rfl rfl ?_
            refine x_reti rfl rfl ?_
            exact k8 q4 q40 q76 (of_decide_eq_false q80) (of_decide_eq_true q91)
      · refine x_iconst (pc' := 39) rfl rfl ?_
        refine x_goto (pc' := 43) rfl rfl ?_
        refine x_istore (pc' := 45) (ls' := [_, _, _, _, _, _, _, _, _]) rfl rfl rfl rfl ?_
        refine x_iload_n (pc' := 46) rfl rfl rfl ?_
        refine x_cs (ls0 := [_]) (rest := []) rfl rfl rfl rfl ?_
        refine x_iload_n (pc' := 1) rfl rfl rfl ?_
        refine x_iconst (pc' := 2) rfl rfl ?_
        refine x_iconst (pc' := 3) rfl rfl ?_
        refine x_cs (ls0 := [_, _, _]) (rest := []) rfl rfl rfl rfl ?_
        refine x_iload_n (pc' := 1) rfl rfl rfl ?_
        refine x_iload_n (pc' := 2) rfl rfl rfl ?_
        refine x_icmp (a' := 14) (pc' := 5) (z := decide (b < 0)) rfl rfl rfl (ic_lt (p := b) (q := 0) (gb31 hb) (by decide)) (fun h => absurd (of_decide_eq_true h) (by first | decide | omega | simp)) (fun _ => ?_)
        refine x_iload_n (pc' := 6) rfl rfl rfl ?_
        refine x_iload_n (pc' := 7) rfl rfl rfl ?_
        refine x_icmp (a' := 14) (pc' := 10) (z := decide (4 < b)) rfl rfl rfl (ic_gt (p := b) (q := 4) (gb31 hb) (by decide)) (fun h => absurd (of_decide_eq_true h) (show ¬ 4 < b by omega)) (fun _ => ?_)
        refine x_iconst (pc' := 11) rfl rfl ?_
        refine x_goto (pc' := 15) rfl rfl ?_
        refine x_retz (z := true) rfl rfl ?_
        refine sK_i (pc' := 6) rfl ?_
        refine x_retz (z := true) rfl rfl ?_
        refine sK_i (pc' := 49) rfl ?_
        refine x_if (a' := 75) (pc' := 52) (z := false) rfl rfl rfl (by decide) (fun h => by cases h) (fun _ => ?_)
        refine x_aload_n (pc' := 53) rfl rfl rfl rfl rfl ?_
        refine x_gR (pc' := 56) (r := (some 0)) rfl rfl rfl (kR_769_0 hc) ?_
        refine x_iload_n (pc' := 57) rfl rfl rfl ?_
        refine x_iald (pc' := 58) (N := 5) (x := (mA M 0 b)) rfl rfl rfl (kN_21_0 hc) (io_in (p := b) (N := 5) hb (by decide)) (Eq.trans (congrArg (sA t 21 0) (nn_io (p := b) (Nat.lt_trans hb (by decide)))) (gA hM rfl)) ?_
        refine x_if (a' := 75) (pc' := 61) (z := decide ((mA M 0 b) = 0)) rfl rfl rfl rfl (fun q115 => ?_) (fun q115 => ?_)
        · refine x_iconst (pc' := 76) rfl rfl ?_
          refine x_istore (pc' := 78) (ls' := [_, _, _, _, _, _, _, _, _]) rfl rfl rfl rfl ?_
          refine x_aload_n (pc' := 79) rfl rfl rfl rfl rfl ?_
          refine x_aload_n (pc' := 80) rfl rfl rfl rfl rfl ?_
          refine x_iload_n (pc' := 81) rfl rfl rfl ?_
          refine x_iload_n (pc' := 82) rfl rfl rfl ?_
          refine x_iload (pc' := 84) rfl rfl rfl ?_
          refine x_iload (pc' := 86) rfl rfl rfl ?_
          refine x_cv (ls0 := [_, _, _, _, _, sJk]) (rest := [_]) rfl rfl rfl rfl rfl ?_
          refine x_iload_n (pc' := 1) rfl rfl rfl ?_
          refine x_cs (ls0 := [_]) (rest := []) rfl rfl rfl rfl ?_
          refine x_iload_n (pc' := 1) rfl rfl rfl ?_
          refine x_iconst (pc' := 2) rfl rfl ?_
          refine x_iconst (pc' := 3) rfl rfl ?_
          refine x_cs (ls0 := [_, _, _]) (rest := []) rfl rfl rfl rfl ?_
          refine x_iload_n (pc' := 1) rfl rfl rfl ?_
          refine x_iload_n (pc' := 2) rfl rfl rfl ?_
          refine x_icmp (a' := 14) (pc' := 5) (z := decide (m < 0)) rfl rfl rfl (ic_lt (p := m) (q := 0) (gm31 hm) (by decide)) (fun h => absurd (of_decide_eq_true h) (by first | decide | omega | simp)) (fun _ => ?_)
          refine x_iload_n (pc' := 6) rfl rfl rfl ?_
          refine x_iload_n (pc' := 7) rfl rfl rfl ?_
          refine x_icmp (a' := 14) (pc' := 10) (z := decide (5 < m)) rfl rfl rfl (ic_gt (p := m) (q := 5) (gm31 hm) (by decide)) (fun h => absurd (of_decide_eq_true h) (show ¬ 5 < m by omega)) (fun _ => ?_)
          refine x_iconst (pc' := 11) rfl rfl ?_
          refine x_goto (pc' := 15) rfl rfl ?_
          refine x_retz (z := true) rfl rfl ?_
          refine sK_i (pc' := 6) rfl ?_
          refine x_retz (z := true) rfl rfl ?_
          refine sK_i (pc' := 4) rfl ?_
          refine x_if (a' := 18) (pc' := 7) (z := false) rfl rfl rfl (by decide) (fun h => by cases h) (fun _ => ?_)
          refine x_iload_n (pc' := 8) rfl rfl rfl ?_
          refine x_cs (ls0 := [_]) (rest := []) rfl rfl rfl rfl ?_
          refine x_iload_n (pc' := 1) rfl rfl rfl ?_
          refine x_iconst (pc' := 2) rfl rfl ?_
          refine x_iconst (pc' := 3) rfl rfl ?_
          refine x_cs (ls0 := [_, _, _]) (rest := []) rfl rfl rfl rfl ?_
          refine x_iload_n (pc' := 1) rfl rfl rfl ?_
          refine x_iload_n (pc' := 2) rfl rfl rfl ?_
          refine x_icmp (a' := 14) (pc' := 5) (z := decide (b < 0)) rfl rfl rfl (ic_lt (p := b) (q := 0) (gb31 hb) (by decide)) (fun h => absurd (of_decide_eq_true h) (by first | decide | omega | simp)) (fun _ => ?_)
          refine x_iload_n (pc' := 6) rfl rfl rfl ?_
          refine x_iload_n (pc' := 7) rfl rfl rfl ?_
          refine x_icmp (a' := 14) (pc' := 10) (z := decide (4 < b)) rfl rfl rfl (ic_gt (p := b) (q := 4) (gb31 hb) (by decide)) (fun h => absurd (of_decide_eq_true h) (show ¬ 4 < b by omega)) (fun _ => ?_)
          refine x_iconst (pc' := 11) rfl rfl ?_
          refine x_goto (pc' := 15) rfl rfl ?_
          refine x_retz (z := true) rfl rfl ?_
          refine sK_i (pc' := 6) rfl ?_
          refine x_retz (z := true) rfl rfl ?_
          refine sK_i (pc' := 11) rfl ?_
          refine x_if (a' := 18) (pc' := 14) (z := false) rfl rfl rfl (by decide) (fun h => by cases h) (fun _ => ?_)
          refine x_iconst (pc' := 15) rfl rfl ?_
          refine x_goto (pc' := 19) rfl rfl ?_
          refine x_istore (pc' := 21) (ls' := [_, _, _, _, _, _]) rfl rfl rfl rfl ?_
          refine x_iload (pc' := 23) rfl rfl rfl ?_
          refine x_if (a' := 30) (pc' := 26) (z := true) rfl rfl rfl (by decide) (fun _ => ?_) (fun h => by cases h)
          refine x_iload_n (pc' := 31) rfl rfl rfl ?_
          refine x_if (a' := 38) (pc' := 34) (z := true) rfl rfl rfl (by decide) (fun _ => ?_) (fun h => by cases h)
          refine x_aload_n (pc' := 39) rfl rfl rfl rfl rfl ?_
          refine x_gR (pc' := 42) (r := (some 2)) rfl rfl rfl (kR_781_0 hc) ?_
          refine x_iload_n (pc' := 43) rfl rfl rfl ?_
          refine x_bald (pc' := 44) (N := 6) (z := (mB M 2 m)) rfl rfl (kN_22_2 hc) (io_in (p := m) (N := 6) hm (by decide)) (Eq.trans (congrArg (sB t 22 2) (nn_io (p := m) (Nat.lt_trans hm (by decide)))) (gB hM)) ?_
          refine x_ifne_z (a' := 52) (pc' := 47) (z := (mB M 2 m)) rfl rfl rfl (fun q124 => ?_) (fun q124 => ?_)
          · refine x_iconst (pc' := 53) rfl rfl ?_
            refine x_goto (pc' := 57) rfl rfl ?_
            refine x_reti rfl rfl ?_
            refine sK_i (pc' := 89) rfl ?_
            refine x_cv (ls0 := [_, _]) (rest := []) rfl rfl rfl rfl rfl ?_
            refine x_aload_n (pc' := 1) rfl rfl rfl rfl rfl ?_
            refine x_iload_n (pc' := 2) rfl rfl rfl ?_
            refine x_pI (pc' := 5) rfl rfl rfl ?_
            refine x_iload_n (pc' := 6) rfl rfl rfl ?_
            refine x_if (a' := 13) (pc' := 9) (z := true) rfl rfl rfl (by decide) (fun _ => ?_) (fun h => by cases h)
            refine x_iconst (pc' := 14) rfl rfl ?_
            refine x_retz (z := false) rfl rfl ?_
            refine sK_i (pc' := 92) rfl ?_
            refine x_if (a' := 112) (pc' := 95) (z := true) rfl rfl rfl (by decide) (fun _ => ?_) (fun h => by cases h)
            refine x_iconst (pc' := 113) rfl rfl ?_
            refine x_reti rfl rfl ?_
            exact k9 q4 q40 q76 (of_decide_eq_true q115) q124
          · refine x_iload (pc' := 49) rfl rfl rfl ?_
            refine x_if (a' := 56) (pc' := 52) (z := false) rfl rfl rfl (by decide) (fun h => by cases h) (fun _ => ?_)
            refine x_iconst (pc' := 53) rfl rfl ?_
            refine x_goto (pc' := 57) rfl rfl ?_
            refine x_reti rfl rfl ?_
            refine sK_i (pc' := 89) rfl ?_
            refine x_cv (ls0 := [_, _]) (rest := []) rfl rfl rfl rfl rfl ?_
            refine x_aload_n (pc' := 1) rfl rfl rfl rfl rfl ?_
            refine x_iload_n (pc' := 2) rfl rfl rfl ?_
            refine x_pI (pc' := 5) rfl rfl rfl ?_
            refine x_iload_n (pc' := 6) rfl rfl rfl ?_
            refine x_if (a' := 13) (pc' := 9) (z := true) rfl rfl rfl (by decide) (fun _ => ?_) (fun h => by cases h)
            refine x_iconst (pc' := 14) rfl rfl ?_
            refine x_retz (z := false) rfl rfl ?_
            refine sK_i (pc' := 92) rfl ?_
            refine x_if (a' := 112) (pc' := 95) (z := true) rfl rfl rfl (by decide) (fun _ => ?_) (fun h => by cases h)
            refine x_iconst (pc' := 113) rfl rfl ?_
            refine x_reti rfl rfl ?_
            exact k10 q4 q40 q76 (of_decide_eq_true q115) q124
        · refine x_aload_n (pc' := 62) rfl rfl rfl rfl rfl ?_
          refine x_gI (pc' := 65) (x := (io n)) rfl rfl rfl (gFn hM (Fr.refl _) hR) ?_
          refine x_sipush (pc' := 68) rfl rfl ?_
          refine x_icmp_n (a' := 75) (pc' := 71) (z := decide (n < 200)) rfl rfl rfl (ic_gen (p := n) (q := 200) (gn31 hR) (by decide)) (fun q130 => ?_) (fun q130 => ?_)
          · refine x_iconst (pc' := 76) rfl rfl ?_
            refine x_istore (pc' := 78) (ls' := [_, _, _, _, _, _, _, _, _]) rfl rfl rfl rfl ?_
            refine x_aload_n (pc' := 79) rfl rfl rfl rfl rfl ?_
            refine x_aload_n (pc' := 80) rfl rfl rfl rfl rfl ?_
            refine x_iload_n (pc' := 81) rfl rfl rfl ?_
            refine x_iload_n (pc' := 82) rfl rfl rfl ?_
            refine x_iload (pc' := 84) rfl rfl rfl ?_
            refine x_iload (pc' := 86) rfl rfl rfl ?_
            refine x_cv (ls0 := [_, _, _, _, _, sJk]) (rest := [_]) rfl rfl rfl rfl rfl ?_
            refine x_iload_n (pc' := 1) rfl rfl rfl ?_
            refine x_cs (ls0 := [_]) (rest := []) rfl rfl rfl rfl ?_
            refine x_iload_n (pc' := 1) rfl rfl rfl ?_
            refine x_iconst (pc' := 2) rfl rfl ?_
            refine x_iconst (pc' := 3) rfl rfl ?_
            refine x_cs (ls0 := [_, _, _]) (rest := []) rfl rfl rfl rfl ?_
            refine x_iload_n (pc' := 1) rfl rfl rfl ?_
            refine x_iload_n (pc' := 2) rfl rfl rfl ?_
            refine x_icmp (a' := 14) (pc' := 5) (z := decide (m < 0)) rfl rfl rfl (ic_lt (p := m) (q := 0) (gm31 hm) (by decide)) (fun h => absurd (of_decide_eq_true h) (by first | decide | omega | simp)) (fun _ => ?_)
            refine x_iload_n (pc' := 6) rfl rfl rfl ?_
            refine x_iload_n (pc' := 7) rfl rfl rfl ?_
            refine x_icmp (a' := 14) (pc' := 10) (z := decide (5 < m)) rfl rfl rfl (ic_gt (p := m) (q := 5) (gm31 hm) (by decide)) (fun h => absurd (of_decide_eq_true h) (show ¬ 5 < m by omega)) (fun _ => ?_)
            refine x_iconst (pc' := 11) rfl rfl ?_
            refine x_goto (pc' := 15) rfl rfl ?_
            refine x_retz (z := true) rfl rfl ?_
            refine sK_i (pc' := 6) rfl ?_
            refine x_retz (z := true) rfl rfl ?_
            refine sK_i (pc' := 4) rfl ?_
            refine x_if (a' := 18) (pc' := 7) (z := false) rfl rfl rfl (by decide) (fun h => by cases h) (fun _ => ?_)
            refine x_iload_n (pc' := 8) rfl rfl rfl ?_
            refine x_cs (ls0 := [_]) (rest := []) rfl rfl rfl rfl ?_
            refine x_iload_n (pc' := 1) rfl rfl rfl ?_
            refine x_iconst (pc' := 2) rfl rfl ?_
            refine x_iconst (pc' := 3) rfl rfl ?_
            refine x_cs (ls0 := [_, _, _]) (rest := []) rfl rfl rfl rfl ?_
            refine x_iload_n (pc' := 1) rfl rfl rfl ?_
            refine x_iload_n (pc' := 2) rfl rfl rfl ?_
            refine x_icmp (a' := 14) (pc' := 5) (z := decide (b < 0)) rfl rfl rfl (ic_lt (p := b) (q := 0) (gb31 hb) (by decide)) (fun h => absurd (of_decide_eq_true h) (by first | decide | omega | simp)) (fun _ => ?_)
            refine x_iload_n (pc' := 6) rfl rfl rfl ?_
            refine x_iload_n (pc' := 7) rfl rfl rfl ?_
            refine x_icmp (a' := 14) (pc' := 10) (z := decide (4 < b)) rfl rfl rfl (ic_gt (p := b) (q := 4) (gb31 hb) (by decide)) (fun h => absurd (of_decide_eq_true h) (show ¬ 4 < b by omega)) (fun _ => ?_)
            refine x_iconst (pc' := 11) rfl rfl ?_
            refine x_goto (pc' := 15) rfl rfl ?_
            refine x_retz (z := true) rfl rfl ?_
            refine sK_i (pc' := 6) rfl ?_
            refine x_retz (z := true) rfl rfl ?_
            refine sK_i (pc' := 11) rfl ?_
            refine x_if (a' := 18) (pc' := 14) (z := false) rfl rfl rfl (by decide) (fun h => by cases h) (fun _ => ?_)
            refine x_iconst (pc' := 15) rfl rfl ?_
            refine x_goto (pc' := 19) rfl rfl ?_
            refine x_istore (pc' := 21) (ls' := [_, _, _, _, _, _]) rfl rfl rfl rfl ?_
            refine x_iload (pc' := 23) rfl rfl rfl ?_
            refine x_if (a' := 30) (pc' := 26) (z := true) rfl rfl rfl (by decide) (fun _ => ?_) (fun h => by cases h)
            refine x_iload_n (pc' := 31) rfl rfl rfl ?_
            refine x_if (a' := 38) (pc' := 34) (z := true) rfl rfl rfl (by decide) (fun _ => ?_) (fun h => by cases h)
            refine x_aload_n (pc' := 39) rfl rfl rfl rfl rfl ?_
            refine x_gR (pc' := 42) (r := (some 2)) rfl rfl rfl (kR_781_0 hc) ?_
            refine x_iload_n (pc' := 43) rfl rfl rfl ?_
            refine x_bald (pc' := 44) (N := 6) (z := (mB M 2 m)) rfl rfl (kN_22_2 hc) (io_in (p := m) (N := 6) hm (by decide)) (Eq.trans (congrArg (sB t 22 2) (nn_io (p := m) (Nat.lt_trans hm (by decide)))) (gB hM)) ?_
            refine x_ifne_z (a' := 52) (pc' := 47) (z := (mB M 2 m)) rfl rfl rfl (fun q139 => ?_) (fun q139 => ?_)
            · refine x_iconst (pc' := 53) rfl rfl ?_
              refine x_goto (pc' := 57) rfl rfl ?_
              refine x_reti rfl rfl ?_
              refine sK_i (pc' := 89) rfl ?_
              refine x_cv (ls0 := [_, _]) (rest := []) rfl rfl rfl rfl rfl ?_
              refine x_aload_n (pc' := 1) rfl rfl rfl rfl rfl ?_
              refine x_iload_n (pc' := 2) rfl rfl rfl ?_
              refine x_pI (pc' := 5) rfl rfl rfl ?_
              refine x_iload_n (pc' := 6) rfl rfl rfl ?_
              refine x_if (a' := 13) (pc' := 9) (z := true) rfl rfl rfl (by decide) (fun _ => ?_) (fun h => by cases h)
              refine x_iconst (pc' := 14) rfl rfl ?_
              refine x_retz (z := false) rfl rfl ?_
              refine sK_i (pc' := 92) rfl ?_
              refine x_if (a' := 112) (pc' := 95) (z := true) rfl rfl rfl (by decide) (fun _ => ?_) (fun h => by cases h)
              refine x_iconst (pc' := 113) rfl rfl ?_
              refine x_reti rfl rfl ?_
              exact k11 q4 q40 q76 (of_decide_eq_false q115) (of_decide_eq_false q130) q139
            · refine x_iload (pc' := 49) rfl rfl rfl ?_
              refine x_if (a' := 56) (pc' := 52) (z := false) rfl rfl rfl (by decide) (fun h => by cases h) (fun _ => ?_)
              refine x_iconst (pc' := 53) rfl rfl ?_
              refine x_goto (pc' := 57) rfl rfl ?_
              refine x_reti rfl rfl ?_
              refine sK_i (pc' := 89) rfl ?_
              refine x_cv (ls0 := [_, _]) (rest := []) rfl rfl rfl rfl rfl ?_
              refine x_aload_n (pc' := 1) rfl rfl rfl rfl rfl ?_
              refine x_iload_n (pc' := 2) rfl rfl rfl ?_
              refine x_pI (pc' := 5) rfl rfl rfl ?_
              refine x_iload_n (pc' := 6) rfl rfl rfl ?_
              refine x_if (a' := 13) (pc' := 9) (z := true) rfl rfl rfl (by decide) (fun _ => ?_) (fun h => by cases h)
              refine x_iconst (pc' := 14) rfl rfl ?_
              refine x_retz (z := false) rfl rfl ?_
              refine sK_i (pc' := 92) rfl ?_
              refine x_if (a' := 112) (pc' := 95) (z := true) rfl rfl rfl (by decide) (fun _ => ?_) (fun h => by cases h)
              refine x_iconst (pc' := 113) rfl rfl ?_
              refine x_reti rfl rfl ?_
              exact k12 q4 q40 q76 (of_decide_eq_false q115) (of_decide_eq_false q130) q139
          · refine x_iconst (pc' := 72) rfl rfl ?_
            refine x_goto (pc' := 76) rfl rfl ?_
            refine x_istore (pc' := 78) (ls' := [_, _, _, _, _, _, _, _, _]) rfl rfl rfl rfl ?_
            refine x_aload_n (pc' := 79) rfl rfl rfl rfl rfl ?_
            refine x_aload_n (pc' := 80) rfl rfl rfl rfl rfl ?_
            refine x_iload_n (pc' := 81) rfl rfl rfl ?_
            refine x_iload_n (pc' := 82) rfl rfl rfl ?_
            refine x_iload (pc' := 84) rfl rfl rfl ?_
            refine x_iload (pc' := 86) rfl rfl rfl ?_
            refine x_cv (ls0 := [_, _, _, _, _, sJk]) (rest := [_]) rfl rfl rfl rfl rfl ?_
            refine x_iload_n (pc' := 1) rfl rfl rfl ?_
            refine x_cs (ls0 := [_]) (rest := []) rfl rfl rfl rfl ?_
            refine x_iload_n (pc' := 1) rfl rfl rfl ?_
            refine x_iconst (pc' := 2) rfl rfl ?_
            refine x_iconst (pc' := 3) rfl rfl ?_
            refine x_cs (ls0 := [_, _, _]) (rest := []) rfl rfl rfl rfl ?_
            refine x_iload_n (pc' := 1) rfl rfl rfl ?_
            refine x_iload_n (pc' := 2) rfl rfl rfl ?_
            refine x_icmp (a' := 14) (pc' := 5) (z := decide (m < 0)) rfl rfl rfl (ic_lt (p := m) (q := 0) (gm31 hm) (by decide)) (fun h => absurd (of_decide_eq_true h) (by first | decide | omega | simp)) (fun _ => ?_)
            refine x_iload_n (pc' := 6) rfl rfl rfl ?_
            refine x_iload_n (pc' := 7) rfl rfl rfl ?_
            refine x_icmp (a' := 14) (pc' := 10) (z := decide (5 < m)) rfl rfl rfl (ic_gt (p := m) (q := 5) (gm31 hm) (by decide)) (fun h => absurd (of_decide_eq_true h) (show ¬ 5 < m by omega)) (fun _ => ?_)
            refine x_iconst (pc' := 11) rfl rfl ?_
            refine x_goto (pc' := 15) rfl rfl ?_
            refine x_retz (z := true) rfl rfl ?_
            refine sK_i (pc' := 6) rfl ?_
            refine x_retz (z := true) rfl rfl ?_
            refine sK_i (pc' := 4) rfl ?_
            refine x_if (a' := 18) (pc' := 7) (z := false) rfl rfl rfl (by decide) (fun h => by cases h) (fun _ => ?_)
            refine x_iload_n (pc' := 8) rfl rfl rfl ?_
            refine x_cs (ls0 := [_]) (rest := []) rfl rfl rfl rfl ?_
            refine x_iload_n (pc' := 1) rfl rfl rfl ?_
            refine x_iconst (pc' := 2) rfl rfl ?_
            refine x_iconst (pc' := 3) rfl rfl ?_
            refine x_cs (ls0 := [_, _, _]) (rest := []) rfl rfl rfl rfl ?_
            refine x_iload_n (pc' := 1) rfl rfl rfl ?_
            refine x_iload_n (pc' := 2) rfl rfl rfl ?_
            refine x_icmp (a' := 14) (pc' := 5) (z := decide (b < 0)) rfl rfl rfl (ic_lt (p := b) (q := 0) (gb31 hb) (by decide)) (fun h => absurd (of_decide_eq_true h) (by first | decide | omega | simp)) (fun _ => ?_)
            refine x_iload_n (pc' := 6) rfl rfl rfl ?_
            refine x_iload_n (pc' := 7) rfl rfl rfl ?_
            refine x_icmp (a' := 14) (pc' := 10) (z := decide (4 < b)) rfl rfl rfl (ic_gt (p := b) (q := 4) (gb31 hb) (by decide)) (fun h => absurd (of_decide_eq_true h) (show ¬ 4 < b by omega)) (fun _ => ?_)
            refine x_iconst (pc' := 11) rfl rfl ?_
            refine x_goto (pc' := 15) rfl rfl ?_
            refine x_retz (z := true) rfl rfl ?_
            refine sK_i (pc' := 6) rfl ?_
            refine x_retz (z := true) rfl rfl ?_
            refine sK_i (pc' := 11) rfl ?_
            refine x_if (a' := 18) (pc' := 14) (z := false) rfl rfl rfl (by decide) (fun h => by cases h) (fun _ => ?_)
            refine x_iconst (pc' := 15) rfl rfl ?_
            refine x_goto (pc' := 19) rfl rfl ?_
            refine x_istore (pc' := 21) (ls' := [_, _, _, _, _, _]) rfl rfl rfl rfl ?_
            refine x_iload (pc' := 23) rfl rfl rfl ?_
            refine x_if (a' := 30) (pc' := 26) (z := true) rfl rfl rfl (by decide) (fun _ => ?_) (fun h => by cases h)
            refine x_iload_n (pc' := 31) rfl rfl rfl ?_
            refine x_if (a' := 38) (pc' := 34) (z := true) rfl rfl rfl (by decide) (fun _ => ?_) (fun h => by cases h)
            refine x_aload_n (pc' := 39) rfl rfl rfl rfl rfl ?_
            refine x_gR (pc' := 42) (r := (some 2)) rfl rfl rfl (kR_781_0 hc) ?_
            refine x_iload_n (pc' := 43) rfl rfl rfl ?_
            refine x_bald (pc' := 44) (N := 6) (z := (mB M 2 m)) rfl rfl (kN_22_2 hc) (io_in (p := m) (N := 6) hm (by decide)) (Eq.trans (congrArg (sB t 22 2) (nn_io (p := m) (Nat.lt_trans hm (by decide)))) (gB hM)) ?_
            refine x_ifne_z (a' := 52) (pc' := 47) (z := (mB M 2 m)) rfl rfl rfl (fun q153 => ?_) (fun q153 => ?_)
            · refine x_iconst (pc' := 53) rfl rfl ?_
              refine x_goto (pc' := 57) rfl rfl ?_
              refine x_reti rfl rfl ?_
              refine sK_i (pc' := 89) rfl ?_
              refine x_cv (ls0 := [_, _]) (rest := []) rfl rfl rfl rfl rfl ?_
              refine x_aload_n (pc' := 1) rfl rfl rfl rfl rfl ?_
              refine x_iload_n (pc' := 2) rfl rfl rfl ?_
              refine x_pI (pc' := 5) rfl rfl rfl ?_
              refine x_iload_n (pc' := 6) rfl rfl rfl ?_
              refine x_if (a' := 13) (pc' := 9) (z := true) rfl rfl rfl (by decide) (fun _ => ?_) (fun h => by cases h)
              refine x_iconst (pc' := 14) rfl rfl ?_
              refine x_retz (z := false) rfl rfl ?_
              refine sK_i (pc' := 92) rfl ?_
              refine x_if (a' := 112) (pc' := 95) (z := true) rfl rfl rfl (by decide) (fun _ => ?_) (fun h => by cases h)
              refine x_iconst (pc' := 113) rfl rfl ?_
              refine x_reti rfl rfl ?_
              exact k13 q4 q40 q76 (of_decide_eq_false q115) (of_decide_eq_true q130) q153
            · refine x_iload (pc' := 49) rfl rfl rfl ?_
              refine x_if (a' := 56) (pc' := 52) (z := true) rfl rfl rfl (by decide) (fun _ => ?_) (fun h => by cases h)
              refine x_iconst (pc' := 57) rfl rfl ?_
              refine x_reti rfl rfl ?_
              refine sK_i (pc' := 89) rfl ?_
              refine x_cv (ls0 := [_, _]) (rest := []) rfl rfl rfl rfl rfl ?_
              refine x_aload_n (pc' := 1) rfl rfl rfl rfl rfl ?_
              refine x_iload_n (pc' := 2) rfl rfl rfl ?_
              refine x_pI (pc' := 5) rfl rfl rfl ?_
              refine x_iload_n (pc' := 6) rfl rfl rfl ?_
              refine x_if (a' := 13) (pc' := 9) (z := false) rfl rfl rfl (by decide) (fun h => by cases h) (fun _ => ?_)
              refine x_iconst (pc' := 10) rfl rfl ?_
              refine x_goto (pc' := 14) rfl rfl ?_
              refine x_retz (z := true) rfl rfl ?_
              refine sK_i (pc' := 92) rfl ?_
              refine x_if (a' := 112) (pc' := 95) (z := false) rfl rfl rfl (by decide) (fun h => by cases h) (fun _ => ?_)
              refine x_aload_n (pc' := 96) rfl rfl rfl rfl rfl ?_
              refine x_iload_n (pc' := 97) rfl rfl rfl ?_
              refine x_iload_n (pc' := 98) rfl rfl rfl ?_
              refine x_iload_n (pc' := 99) rfl rfl rfl ?_
              refine x_iload (pc' := 101) rfl rfl rfl ?_
              refine x_iload (pc' := 103) rfl rfl rfl ?_
              refine x_iload (pc' := 105) rfl rfl rfl ?_
              refine x_iconst (pc' := 106) rfl rfl ?_
              refine x_cv (ls0 := [_, _, _, _, _, _, _, _, sJk]) (rest := []) rfl rfl rfl rfl rfl ?_
              exact k14 q4 q40 q76 (of_decide_eq_false q115) (of_decide_eq_true q130) q153
set_option maxHeartbeats 4000000 in
set_option maxRecDepth 10000 in
theorem r204_x1 {t : sT} {Q : sRs → sT → Prop} {M : sM} {n : Nat} {m : Nat} {x : Int32} {s : Bool} {p : Int32} {a : Int32} {h : Int32}
    (hV : Vr t M n)
    (hm : m < 6)
    (hp : ixo x 5 = none)
    (k0 : Q (.inl (some (.inl 0))) (sIw t 768 0 1)) :
    X 204 0 [.inr (.inr (12, (some 0))), .inl (io m), .inl x, .inl (bz s), .inl p, .inl a, .inl h, sJk, sJk] [] t Q := by
  obtain ⟨hM, hc, hR⟩ := hV
  refine x_iload_n (pc' := 1) rfl rfl rfl ?_
  refine x_cs (ls0 := [_]) (rest := []) rfl rfl rfl rfl ?_
  refine x_iload_n (pc' := 1) rfl rfl rfl ?_
  refine x_iconst (pc' := 2) rfl rfl ?_
  refine x_iconst (pc' := 3) rfl rfl ?_
  refine x_cs (ls0 := [_, _, _]) (rest := []) rfl rfl rfl rfl ?_
  refine r145_xg (ixo_c5 hp) ?_
  refine sK_i (pc' := 6) rfl ?_
  refine x_retz (z := false) rfl rfl ?_
  refine sK_i (pc' := 4) rfl ?_
  refine x_if (a' := 42) (pc' := 7) (z := true) rfl rfl rfl (by decide) (fun _ => ?_) (fun h => by cases h)
  refine x_iconst (pc' := 43) rfl rfl ?_
  refine x_istore (pc' := 45) (ls' := [_, _, _, _, _, _, _, _, _]) rfl rfl rfl rfl ?_
  refine x_iload_n (pc' := 46) rfl rfl rfl ?_
  refine x_cs (ls0 := [_]) (rest := []) rfl rfl rfl rfl ?_
  refine x_iload_n (pc' := 1) rfl rfl rfl ?_
  refine x_iconst (pc' := 2) rfl rfl ?_
  refine x_iconst (pc' := 3) rfl rfl ?_
  refine x_cs (ls0 := [_, _, _]) (rest := []) rfl rfl rfl rfl ?_
  refine r145_xg (ixo_c5 hp) ?_
  refine sK_i (pc' := 6) rfl ?_
  refine x_retz (z := false) rfl rfl ?_
  refine sK_i (pc' := 49) rfl ?_
  refine x_if (a' := 75) (pc' := 52) (z := true) rfl rfl rfl (by decide) (fun _ => ?_) (fun h => by cases h)
  refine x_iconst (pc' := 76) rfl rfl ?_
  refine x_istore (pc' := 78) (ls' := [_, _, _, _, _, _, _, _, _]) rfl rfl rfl rfl ?_
  refine x_aload_n (pc' := 79) rfl rfl rfl rfl rfl ?_
  refine x_aload_n (pc' := 80) rfl rfl rfl rfl rfl ?_
  refine x_iload_n (pc' := 81) rfl rfl rfl ?_
  refine x_iload_n (pc' := 82) rfl rfl rfl ?_
  refine x_iload (pc' := 84) rfl rfl rfl ?_
  refine x_iload (pc' := 86) rfl rfl rfl ?_
  refine x_cv (ls0 := [_, _, _, _, _, sJk]) (rest := [_]) rfl rfl rfl rfl rfl ?_
  refine x_iload_n (pc' := 1) rfl rfl rfl ?_
  refine x_cs (ls0 := [_]) (rest := []) rfl rfl rfl rfl ?_
  refine x_iload_n (pc' := 1) rfl rfl rfl ?_
  refine x_iconst (pc' := 2) rfl rfl ?_
  refine x_iconst (pc' := 3) rfl rfl ?_
  refine x_cs (ls0 := [_, _, _]) (rest := []) rfl rfl rfl rfl ?_
  refine x_iload_n (pc' := 1) rfl rfl rfl ?_
  refine x_iload_n (pc' := 2) rfl rfl rfl ?_
  refine x_icmp (a' := 14) (pc' := 5) (z := decide (m < 0)) rfl rfl rfl (ic_lt (p := m) (q := 0) (gm31 hm) (by decide)) (fun h => absurd (of_decide_eq_true h) (by first | decide | omega | simp)) (fun _ => ?_)
  refine x_iload_n (pc' := 6) rfl rfl rfl ?_
  refine x_iload_n (pc' := 7) rfl rfl rfl ?_
  refine x_icmp (a' := 14) (pc' := 10) (z := decide (5 < m)) rfl rfl rfl (ic_gt (p := m) (q := 5) (gm31 hm) (by decide)) (fun h => absurd (of_decide_eq_true h) (show ¬ 5 < m by omega)) (fun _ => ?_)
  refine x_iconst (pc' := 11) rfl rfl ?_
  refine x_goto (pc' := 15) rfl rfl ?_
  refine x_retz (z := true) rfl rfl ?_
  refine sK_i (pc' := 6) rfl ?_
  refine x_retz (z := true) rfl rfl ?_
  refine sK_i (pc' := 4) rfl ?_
  refine x_if (a' := 18) (pc' := 7) (z := false) rfl rfl rfl (by decide) (fun h => by cases h) (fun _ => ?_)
  refine x_iload_n (pc' := 8) rfl rfl rfl ?_
  refine x_cs (ls0 := [_]) (rest := []) rfl rfl rfl rfl ?_
  refine x_iload_n (pc' := 1) rfl rfl rfl ?_
  refine x_iconst (pc' := 2) rfl rfl ?_
  refine x_iconst (pc' := 3) rfl rfl ?_
  refine x_cs (ls0 := [_, _, _]) (rest := []) rfl rfl rfl rfl ?_
  refine r145_xg (ixo_c5 hp) ?_
  refine sK_i (pc' := 6) rfl ?_
  refine x_retz (z := false) rfl rfl ?_
  refine sK_i (pc' := 11) rfl ?_
  refine x_if (a' := 18) (pc' := 14) (z := true) rfl rfl rfl (by decide) (fun _ => ?_) (fun h => by cases h)
  refine x_iconst (pc' := 19) rfl rfl ?_
  refine x_istore (pc' := 21) (ls' := [_, _, _, _, _, _]) rfl rfl rfl rfl ?_
  refine x_iload (pc' := 23) rfl rfl rfl ?_
  refine x_if (a' := 30) (pc' := 26) (z := false) rfl rfl rfl (by decide) (fun h => by cases h) (fun _ => ?_)
  refine x_iconst (pc' := 27) rfl rfl ?_
  refine x_goto (pc' := 57) rfl rfl ?_
  refine x_reti rfl rfl ?_
  refine sK_i (pc' := 89) rfl ?_
  refine x_cv (ls0 := [_, _]) (rest := []) rfl rfl rfl rfl rfl ?_
  refine x_aload_n (pc' := 1) rfl rfl rfl rfl rfl ?_
  refine x_iload_n (pc' := 2) rfl rfl rfl ?_
  refine x_pI (pc' := 5) rfl rfl rfl ?_
  refine x_iload_n (pc' := 6) rfl rfl rfl ?_
  refine x_if (a' := 13) (pc' := 9) (z := true) rfl rfl rfl (by decide) (fun _ => ?_) (fun h => by cases h)
  refine x_iconst (pc' := 14) rfl rfl ?_
  refine x_retz (z := false) rfl rfl ?_
  refine sK_i (pc' := 92) rfl ?_
  refine x_if (a' := 112) (pc' := 95) (z := true) rfl rfl rfl (by decide) (fun _ => ?_) (fun h => by cases h)
  refine x_iconst (pc' := 113) rfl rfl ?_
  refine x_reti rfl rfl ?_
  exact k0
set_option maxHeartbeats 4000000 in
set_option maxRecDepth 10000 in
theorem r204_x0 {t : sT} {Q : sRs → sT → Prop} {M : sM} {n : Nat} {x : Int32} {b : Nat} {s : Bool} {p : Int32} {a : Int32} {h : Int32}
    (hV : Vr t M n)
    (hp : ixo x 6 = none)
    (hb : b < 5)
    (k0 : (prB b p) = false → (mA M 0 b) = 0 → Q (.inl (some (.inl 0))) (sIw t 768 0 1))
    (k1 : (prB b p) = false → ¬ ((mA M 0 b) = 0) → ¬ (n < 200) → Q (.inl (some (.inl 0))) (sIw t 768 0 1))
    (k2 : (prB b p) = false → ¬ ((mA M 0 b) = 0) → n < 200 → Q (.inl (some (.inl 0))) (sIw t 768 0 1))
    (k3 : (prB b p) = true → (inB a 1 100) = false → (mA M 0 b) = 0 → Q (.inl (some (.inl 0))) (sIw t 768 0 1))
    (k4 : (prB b p) = true → (inB a 1 100) = false → ¬ ((mA M 0 b) = 0) → ¬ (n < 200) → Q (.inl (some (.inl 0))) (sIw t 768 0 1))
    (k5 : (prB b p) = true → (inB a 1 100) = false → ¬ ((mA M 0 b) = 0) → n < 200 → Q (.inl (some (.inl 0))) (sIw t 768 0 1))
    (k6 : (prB b p) = true → (inB a 1 100) = true → (inB h 1 a) = false → (mA M 0 b) = 0 → Q (.inl (some (.inl 0))) (sIw t 768 0 1))
    (k7 : (prB b p) = true → (inB a 1 100) = true → (inB h 1 a) = false → ¬ ((mA M 0 b) = 0) → ¬ (n < 200) → Q (.inl (some (.inl 0))) (sIw t 768 0 1))
    (k8 : (prB b p) = true → (inB a 1 100) = true → (inB h 1 a) = false → ¬ ((mA M 0 b) = 0) → n < 200 → Q (.inl (some (.inl 0))) (sIw t 768 0 1))
    (k9 : (prB b p) = true → (inB a 1 100) = true → (inB h 1 a) = true → (mA M 0 b) = 0 → Q (.inl (some (.inl 0))) (sIw t 768 0 1))
    (k10 : (prB b p) = true → (inB a 1 100) = true → (inB h 1 a) = true → ¬ ((mA M 0 b) = 0) → ¬ (n < 200) → Q (.inl (some (.inl 0))) (sIw t 768 0 1))
    (k11 : (prB b p) = true → (inB a 1 100) = true → (inB h 1 a) = true → ¬ ((mA M 0 b) = 0) → n < 200 → Q (.inl (some (.inl 0))) (sIw t 768 0 1)) :
    X 204 0 [.inr (.inr (12, (some 0))), .inl x, .inl (io b), .inl (bz s), .inl p, .inl a, .inl h, sJk, sJk] [] t Q := by
  obtain ⟨hM, hc, hR⟩ := hV
  refine x_iload_n (pc' := 1) rfl rfl rfl ?_
  refine x_cs (ls0 := [_]) (rest := []) rfl rfl rfl rfl ?_
  refine x_iload_n (pc' := 1) rfl rfl rfl ?_
  refine x_iconst (pc' := 2) rfl rfl ?_
  refine x_iconst (pc' := 3) rfl rfl ?_
  refine x_cs (ls0 := [_, _, _]) (rest := []) rfl rfl rfl rfl ?_
  refine x_iload_n (pc' := 1) rfl rfl rfl ?_
  refine x_iload_n (pc' := 2) rfl rfl rfl ?_
  refine x_icmp (a' := 14) (pc' := 5) (z := decide (b < 0)) rfl rfl rfl (ic_lt (p := b) (q := 0) (gb31 hb) (by decide)) (fun h => absurd (of_decide_eq_true h) (by first | decide | omega | simp)) (fun _ => ?_)
  refine x_iload_n (pc' := 6) rfl rfl rfl ?_
  refine x_iload_n (pc' := 7) rfl rfl rfl ?_
  refine x_icmp (a' := 14) (pc' := 10) (z := decide (4 < b)) rfl rfl rfl (ic_gt (p := b) (q := 4) (gb31 hb) (by decide)) (fun h => absurd (of_decide_eq_true h) (show ¬ 4 < b by omega)) (fun _ => ?_)
  refine x_iconst (pc' := 11) rfl rfl ?_
  refine x_goto (pc' := 15) rfl rfl ?_
  refine x_retz (z := true) rfl rfl ?_
  refine sK_i (pc' := 6) rfl ?_
  refine x_retz (z := true) rfl rfl ?_
  refine sK_i (pc' := 4) rfl ?_
  refine x_if (a' := 42) (pc' := 7) (z := false) rfl rfl rfl (by decide) (fun h => by cases h) (fun _ => ?_)
  refine x_iload_n (pc' := 8) rfl rfl rfl ?_
  refine x_iload (pc' := 10) rfl rfl rfl ?_
  refine x_cs (ls0 := [_, _]) (rest := []) rfl rfl rfl rfl ?_
  refine r150_g hb ?_
  refine sK_i (pc' := 13) rfl ?_
  refine x_ifeq_z (a' := 42) (pc' := 16) (z := (prB b p)) rfl rfl rfl (fun q4 => ?_) (fun q4 => ?_)
  · refine x_iconst (pc' := 43) rfl rfl ?_
    refine x_istore (pc' := 45) (ls' := [_, _, _, _, _, _, _, _, _]) rfl rfl rfl rfl ?_
    refine x_iload_n (pc' := 46) rfl rfl rfl ?_
    refine x_cs (ls0 := [_]) (rest := []) rfl rfl rfl rfl ?_
    refine x_iload_n (pc' := 1) rfl rfl rfl ?_
    refine x_iconst (pc' := 2) rfl rfl ?_
    refine x_iconst (pc' := 3) rfl rfl ?_
    refine x_cs (ls0 := [_, _, _]) (rest := []) rfl rfl rfl rfl ?_
    refine x_iload_n (pc' := 1) rfl rfl rfl ?_
    refine x_iload_n (pc' := 2) rfl rfl rfl ?_
    refine x_icmp (a' := 14) (pc' := 5) (z := decide (b < 0)) rfl rfl rfl (ic_lt (p := b) (q := 0) (gb31 hb) (by decide)) (fun h => absurd (of_decide_eq_true h) (by first | decide | omega | simp)) (fun _ => ?_)
    refine x_iload_n (pc' := 6) rfl rfl rfl ?_
    refine x_iload_n (pc' := 7) rfl rfl rfl ?_
    refine x_icmp (a' := 14) (pc' := 10) (z := decide (4 < b)) rfl rfl rfl (ic_gt (p := b) (q := 4) (gb31 hb) (by decide)) (fun h => absurd (of_decide_eq_true h) (show ¬ 4 < b by omega)) (fun _ => ?_)
    refine x_iconst (pc' := 11) rfl rfl ?_
    refine x_goto (pc' := 15) rfl rfl ?_
    refine x_retz (z := true) rfl rfl ?_
    refine sK_i (pc' := 6) rfl ?_
    refine x_retz (z := true) rfl rfl ?_
    refine sK_i (pc' := 49) rfl ?_
    refine x_if (a' := 75) (pc' := 52) (z := false) rfl rfl rfl (by decide) (fun h => by cases h) (fun _ => ?_)
    refine x_aload_n (pc' := 53) rfl rfl rfl rfl rfl ?_
    refine x_gR (pc' := 56) (r := (some 0)) rfl rfl rfl (kR_769_0 hc) ?_
    refine x_iload_n (pc' := 57) rfl rfl rfl ?_
    refine x_iald (pc' := 58) (N := 5) (x := (mA M 0 b)) rfl rfl rfl (kN_21_0 hc) (io_in (p := b) (N := 5) hb (by decide)) (Eq.trans (congrArg (sA t 21 0) (nn_io (p := b) (Nat.lt_trans hb (by decide)))) (gA hM rfl)) ?_
    refine x_if (a' := 75) (pc' := 61) (z := decide ((mA M 0 b) = 0)) rfl rfl rfl rfl (fun q8 => ?_) (fun q8 => ?_)
    · refine x_iconst (pc' := 76) rfl rfl ?_
      refine x_istore (pc' := 78) (ls' := [_, _, _, _, _, _, _, _, _]) rfl rfl rfl rfl ?_
      refine x_aload_n (pc' := 79) rfl rfl rfl rfl rfl ?_
      refine x_aload_n (pc' := 80) rfl rfl rfl rfl rfl ?_
      refine x_iload_n (pc' := 81) rfl rfl rfl ?_
      refine x_iload_n (pc' := 82) rfl rfl rfl ?_
      refine x_iload (pc' := 84) rfl rfl rfl ?_
      refine x_iload (pc' := 86) rfl rfl rfl ?_
      refine x_cv (ls0 := [_, _, _, _, _, sJk]) (rest := [_]) rfl rfl rfl rfl rfl ?_
      refine x_iload_n (pc' := 1) rfl rfl rfl ?_
      refine x_cs (ls0 := [_]) (rest := []) rfl rfl rfl rfl ?_
      refine x_iload_n (pc' := 1) rfl rfl rfl ?_
      refine x_iconst (pc' := 2) rfl rfl ?_
      refine x_iconst (pc' := 3) rfl rfl ?_
      refine x_cs (ls0 := [_, _, _]) (rest := []) rfl rfl rfl rfl ?_
      refine r145_xg (ixo_c6 hp) ?_
      refine sK_i (pc' := 6) rfl ?_
      refine x_retz (z := false) rfl rfl ?_
      refine sK_i (pc' := 4) rfl ?_
      refine x_if (a' := 18) (pc' := 7) (z := true) rfl rfl rfl (by decide) (fun _ => ?_) (fun h => by cases h)
      refine x_iconst (pc' := 19) rfl rfl ?_
      refine x_istore (pc' := 21) (ls' := [_, _, _, _, _, _]) rfl rfl rfl rfl ?_
      refine x_iload (pc' := 23) rfl rfl rfl ?_
      refine x_if (a' := 30) (pc' := 26) (z := false) rfl rfl rfl (by decide) (fun h => by cases h) (fun _ => ?_)
      refine x_iconst (pc' := 27) rfl rfl ?_
      refine x_goto (pc' := 57) rfl rfl ?_
      refine x_reti rfl rfl ?_
      refine sK_i (pc' := 89) rfl ?_
      refine x_cv (ls0 := [_, _]) (rest := []) rfl rfl rfl rfl rfl ?_
      refine x_aload_n (pc' := 1) rfl rfl rfl rfl rfl ?_
      refine x_iload_n (pc' := 2) rfl rfl rfl ?_
      refine x_pI (pc' := 5) rfl rfl rfl ?_
      refine x_iload_n (pc' := 6) rfl rfl rfl ?_
      refine x_if (a' := 13) (pc' := 9) (z := true) rfl rfl rfl (by decide) (fun _ => ?_) (fun h => by cases h)
      refine x_iconst (pc' := 14) rfl rfl ?_
      refine x_retz (z := false) rfl rfl ?_
      refine sK_i (pc' := 92) rfl ?_
      refine x_if (a' := 112) (pc' := 95) (z := true) rfl rfl rfl (by decide) (fun _ => ?_) (fun h => by cases h)
      refine x_iconst (pc' := 113) rfl rfl ?_
      refine x_reti rfl rfl ?_
      exact k0 q4 (of_decide_eq_true q8)
    · refine x_aload_n (pc' := 62) rfl rfl rfl rfl rfl ?_
      refine x_gI (pc' := 65) (x := (io n)) rfl rfl rfl (gFn hM (Fr.refl _) hR) ?_
      refine x_sipush (pc' := 68) rfl rfl ?_
      refine x_icmp_n (a' := 75) (pc' := 71) (z := decide (n < 200)) rfl rfl rfl (ic_gen (p := n) (q := 200) (gn31 hR) (by decide)) (fun q13 => ?_) (fun q13 => ?_)
      · refine x_iconst (pc' := 76) rfl rfl ?_
        refine x_istore (pc' := 78) (ls' := [_, _, _, _, _, _, _, _, _]) rfl rfl rfl rfl ?_
        refine x_aload_n (pc' := 79) rfl rfl rfl rfl rfl ?_
        refine x_aload_n (pc' := 80) rfl rfl rfl rfl rfl ?_
        refine x_iload_n (pc' := 81) rfl rfl rfl ?_
        refine x_iload_n (pc' := 82) rfl rfl rfl ?_
        refine x_iload (pc' := 84) rfl rfl rfl ?_
        refine x_iload (pc' := 86) rfl rfl rfl ?_
        refine x_cv (ls0 := [_, _, _, _, _, sJk]) (rest := [_]) rfl rfl rfl rfl rfl ?_
        refine x_iload_n (pc' := 1) rfl rfl rfl ?_
        refine x_cs (ls0 := [_]) (rest := []) rfl rfl rfl rfl ?_
        refine x_iload_n (pc' := 1) rfl rfl rfl ?_
        refine x_iconst (pc' := 2) rfl rfl ?_
        refine x_iconst (pc' := 3) rfl rfl ?_
        refine x_cs (ls0 := [_, _, _]) (rest := []) rfl rfl rfl rfl ?_
        refine r145_xg (ixo_c6 hp) ?_
        refine sK_i (pc' := 6) rfl ?_
        refine x_retz (z := false) rfl rfl ?_
        refine sK_i (pc' := 4) rfl ?_
        refine x_if (a' := 18) (pc' := 7) (z := true) rfl rfl rfl (by decide) (fun _ => ?_) (fun h => by cases h)
        refine x_iconst (pc' := 19) rfl rfl ?_
        refine x_istore (pc' := 21) (ls' := [_, _, _, _, _, _]) rfl rfl rfl rfl ?_
        refine x_iload (pc' := 23) rfl rfl rfl ?_
        refine x_if (a' := 30) (pc' := 26) (z := false) rfl rfl rfl (by decide) (fun h => by cases h) (fun _ => ?_)
        refine x_iconst (pc' := 27) rfl rfl ?_
        refine x_goto (pc' := 57) rfl rfl ?_
        refine x_reti rfl rfl ?_
        refine sK_i (pc' := 89) rfl ?_
        refine x_cv (ls0 := [_, _]) (rest := []) rfl rfl rfl rfl rfl ?_
        refine x_aload_n (pc' := 1) rfl rfl rfl rfl rfl ?_
        refine x_iload_n (pc' := 2) rfl rfl rfl ?_
        refine x_pI (pc' := 5) rfl rfl rfl ?_
        refine x_iload_n (pc' := 6) rfl rfl rfl ?_
        refine x_if (a' := 13) (pc' := 9) (z := true) rfl rfl rfl (by decide) (fun _ => ?_) (fun h => by cases h)
        refine x_iconst (pc' := 14) rfl rfl ?_
        refine x_retz (z := false) rfl rfl ?_
        refine sK_i (pc' := 92) rfl ?_
        refine x_if (a' := 112) (pc' := 95) (z := true) rfl rfl rfl (by decide) (fun _ => ?_) (fun h => by cases h)
        refine x_iconst (pc' := 113) rfl rfl ?_
        refine x_reti rfl rfl ?_
        exact k1 q4 (of_decide_eq_false q8) (of_decide_eq_false q13)
      · refine x_iconst (pc' := 72) rfl rfl ?_
        refine x_goto (pc' := 76) rfl rfl ?_
        refine x_istore (pc' := 78) (ls' := [_, _, _, _, _, _, _, _, _]) rfl rfl rfl rfl ?_
        refine x_aload_n (pc' := 79) rfl rfl rfl rfl rfl ?_
        refine x_aload_n (pc' := 80) rfl rfl rfl rfl rfl ?_
        refine x_iload_n (pc' := 81) rfl rfl rfl ?_
        refine x_iload_n (pc' := 82) rfl rfl rfl ?_
        refine x_iload (pc' := 84) rfl rfl rfl ?_
        refine x_iload (pc' := 86) rfl rfl rfl ?_
        refine x_cv (ls0 := [_, _, _, _, _, sJk]) (rest := [_]) rfl rfl rfl rfl rfl ?_
        refine x_iload_n (pc' := 1) rfl rfl rfl ?_
        refine x_cs (ls0 := [_]) (rest := []) rfl rfl rfl rfl ?_
        refine x_iload_n (pc' := 1) rfl rfl rfl ?_
        refine x_iconst (pc' := 2) rfl rfl ?_
        refine x_iconst (pc' := 3) rfl rfl ?_
        refine x_cs (ls0 := [_, _, _]) (rest := []) rfl rfl rfl rfl ?_
        refine r145_xg (ixo_c6 hp) ?_
        refine sK_i (pc' := 6) rfl ?_
        refine x_retz (z := false) rfl rfl ?_
        refine sK_i (pc' := 4) rfl ?_
        refine x_if (a' := 18) (pc' := 7) (z := true) rfl rfl rfl (by decide) (fun _ => ?_) (fun h => by cases h)
        refine x_iconst (pc' := 19) rfl rfl ?_
        refine x_istore (pc' := 21) (ls' := [_, _, _, _, _, _]) rfl rfl rfl rfl ?_
        refine x_iload (pc' := 23) rfl rfl rfl ?_
        refine x_if (a' := 30) (pc' := 26) (z := false) rfl rfl rfl (by decide) (fun h => by cases h) (fun _ => ?_)
        refine x_iconst (pc' := 27) rfl rfl ?_
        refine x_goto (pc' := 57) rfl rfl ?_
        refine x_reti rfl rfl ?_
        refine sK_i (pc' := 89) rfl ?_
        refine x_cv (ls0 := [_, _]) (rest := []) rfl rfl rfl rfl rfl ?_
        refine x_aload_n (pc' := 1) rfl rfl rfl rfl rfl ?_
        refine x_iload_n (pc' := 2) rfl rfl rfl ?_
        refine x_pI (pc' := 5) rfl rfl rfl ?_
        refine x_iload_n (pc' := 6) rfl rfl rfl ?_
        refine x_if (a' := 13) (pc' := 9) (z := true) rfl rfl rfl (by decide) (fun _ => ?_) (fun h => by cases h)
        refine x_iconst (pc' := 14) rfl rfl ?_
        refine x_retz (z := false) rfl rfl ?_
        refine sK_i (pc' := 92) rfl ?_
        refine x_if (a' := 112) (pc' := 95) (z := true) rfl rfl rfl (by decide) (fun _ => ?_) (fun h => by cases h)
        refine x_iconst (pc' := 113) rfl rfl ?_
        refine x_reti rfl rfl ?_
        exact k2 q4 (of_decide_eq_false q8) (of_decide_eq_true q13)
  · refine x_iload (pc' := 18) rfl rfl rfl ?_
    refine x_iconst (pc' := 19) rfl rfl ?_
    refine x_bipush (pc' := 21) rfl rfl ?_
    refine x_cs (ls0 := [_, _, _]) (rest := []) rfl rfl rfl rfl ?_
    refine r145_g ?_
    refine sK_i (pc' := 24) rfl ?_
    refine x_ifeq_z (a' := 42) (pc' := 27) (z := (inB a 1 100)) rfl rfl rfl (fun q22 => ?_) (fun q22 => ?_)
    · refine x_iconst (pc' := 43) rfl rfl ?_
      refine x_istore (pc' := 45) (ls' := [_, _, _, _, _, _, _, _, _]) rfl rfl rfl rfl ?_
      refine x_iload_n (pc' := 46) rfl rfl rfl ?_
      refine x_cs (ls0 := [_]) (rest := []) rfl rfl rfl rfl ?_
      refine x_iload_n (pc' := 1) rfl rfl rfl ?_
      refine x_iconst (pc' := 2) rfl rfl ?_
      refine x_iconst (pc' := 3) rfl rfl ?_
      refine x_cs (ls0 := [_, _, _]) (rest := []) rfl rfl rfl rfl ?_
      refine x_iload_n (pc' := 1) rfl rfl rfl ?_
      refine x_iload_n (pc' := 2) rfl rfl rfl ?_
      refine x_icmp (a' := 14) (pc' := 5) (z := decide (b < 0)) rfl rfl rfl (ic_lt (p := b) (q := 0) (gb31 hb) (by decide)) (fun h => absurd (of_decide_eq_true h) (by first | decide | omega | simp)) (fun _ => ?_)
      refine x_iload_n (pc' := 6) rfl rfl rfl ?_
      refine x_iload_n (pc' := 7) rfl rfl rfl ?_
      refine x_icmp (a' := 14) (pc' := 10) (z := decide (4 < b)) rfl rfl rfl (ic_gt (p := b) (q := 4) (gb31 hb) (by decide)) (fun h => absurd (of_decide_eq_true h) (show ¬ 4 < b by omega)) (fun _ => ?_)
      refine x_iconst (pc' := 11) rfl rfl ?_
      refine x_goto (pc' := 15) rfl rfl ?_
      refine x_retz (z := true) rfl rfl ?_
      refine sK_i (pc' := 6) rfl ?_
      refine x_retz (z := true) rfl rfl ?_
      refine sK_i (pc' := 49) rfl ?_
      refine x_if (a' := 75) (pc' := 52) (z := false) rfl rfl rfl (by decide) (fun h => by cases h) (fun _ => ?_)
      refine x_aload_n (pc' := 53) rfl rfl rfl rfl rfl ?_
      refine x_gR (pc' := 56) (r := (some 0)) rfl rfl rfl (kR_769_0 hc) ?_
      refine x_iload_n (pc' := 57) rfl rfl rfl ?_
      refine x_iald (pc' := 58) (N := 5) (x := (mA M 0 b)) rfl rfl rfl (kN_21_0 hc) (io_in (p := b) (N := 5) hb (by decide)) (Eq.trans (congrArg (sA t 21 0) (nn_io (p := b) (Nat.lt_trans hb (by decide)))) (gA hM rfl)) ?_
      refine x_if (a' := 75) (pc' := 61) (z := decide ((mA M 0 b) = 0)) rfl rfl rfl rfl (fun q26 => ?_) (fun q26 => ?_)
      · refine x_iconst (pc' := 76) rfl rfl ?_
        refine x_istore (pc' := 78) (ls' := [_, _, _, _, _, _, _, _, _]) rfl rfl rfl rfl ?_
        refine x_aload_n (pc' := 79) rfl rfl rfl rfl rfl ?_
        refine x_aload_n (pc' := 80) rfl rfl rfl rfl rfl ?_
        refine x_iload_n (pc' := 81) rfl rfl rfl ?_
        refine x_iload_n (pc' := 82) rfl rfl rfl ?_
        refine x_iload (pc' := 84) rfl rfl rfl ?_
        refine x_iload (pc' := 86) rfl rfl rfl ?_
        refine x_cv (ls0 := [_, _, _, _, _, sJk]) (rest := [_]) rfl rfl rfl rfl rfl ?_
        refine x_iload_n (pc' := 1) rfl rfl rfl ?_
        refine x_cs (ls0 := [_]) (rest := []) rfl rfl rfl rfl ?_
        refine x_iload_n (pc' := 1) rfl rfl rfl ?_
        refine x_iconst (pc' := 2) rfl rfl ?_
        refine x_iconst (pc' := 3) rfl rfl ?_
        refine x_cs (ls0 := [_, _, _]) (rest := []) rfl rfl rfl rfl ?_
        refine r145_xg (ixo_c6 hp) ?_
        refine sK_i (pc' := 6) rfl ?_
        refine x_retz (z := false) rfl rfl ?_
        refine sK_i (pc' := 4) rfl ?_
        refine x_if (a' := 18) (pc' := 7) (z := true) rfl rfl rfl (by decide) (fun _ => ?_) (fun h => by cases h)
        refine x_iconst (pc' := 19) rfl rfl ?_
        refine x_istore (pc' := 21) (ls' := [_, _, _, _, _, _]) rfl rfl rfl rfl ?_
        refine x_iload (pc' := 23) rfl rfl rfl ?_
        refine x_if (a' := 30) (pc' := 26) (z := false) rfl rfl rfl (by decide) (fun h => by cases h) (fun _ => ?_)
        refine x_iconst (pc' := 27) rfl rfl ?_
        refine x_goto (pc' := 57) rfl rfl ?_
        refine x_reti rfl rfl ?_
        refine sK_i (pc' := 89) rfl ?_
        refine x_cv (ls0 := [_, _]) (rest := []) rfl rfl rfl rfl rfl ?_
        refine x_aload_n (pc' := 1) rfl rfl rfl rfl rfl ?_
        refine x_iload_n (pc' := 2) rfl rfl rfl ?_
        refine x_pI (pc' := 5) rfl rfl rfl ?_
        refine x_iload_n (pc' := 6) rfl rfl rfl ?_
        refine x_if (a' := 13) (pc' := 9) (z := true) rfl rfl rfl (by decide) (fun _ => ?_) (fun h => by cases h)
        refine x_iconst (pc' := 14) rfl rfl ?_
        refine x_retz (z := false) rfl rfl ?_
        refine sK_i (pc' := 92) rfl ?_
        refine x_if (a' := 112) (pc' := 95) (z := true) rfl rfl rfl (by decide) (fun _ => ?_) (fun h => by cases h)
        refine x_iconst (pc' := 113) rfl rfl ?_
        refine x_reti rfl rfl ?_
        exact k3 q4 q22 (of_decide_eq_true q26)
      · refine x_aload_n (pc' := 62) rfl rfl rfl rfl rfl ?_
        refine x_gI (pc' := 65) (x := (io n)) rfl rfl rfl (gFn hM (Fr.refl _) hR) ?_
        refine x_sipush (pc' := 68) rfl rfl ?_
        refine x_icmp_n (a' := 75) (pc' := 71) (z := decide (n < 200)) rfl rfl rfl (ic_gen (p := n) (q := 200) (gn31 hR) (by decide)) (fun q31 => ?_) (fun q31 => ?_)
        · refine x_iconst (pc' := 76) rfl rfl ?_
          refine x_istore (pc' := 78) (ls' := [_, _, _, _, _, _, _, _, _]) rfl rfl rfl rfl ?_
          refine x_aload_n (pc' := 79) rfl rfl rfl rfl rfl ?_
          refine x_aload_n (pc' := 80) rfl rfl rfl rfl rfl ?_
          refine x_iload_n (pc' := 81) rfl rfl rfl ?_
          refine x_iload_n (pc' := 82) rfl rfl rfl ?_
          refine x_iload (pc' := 84) rfl rfl rfl ?_
          refine x_iload (pc' := 86) rfl rfl rfl ?_
          refine x_cv (ls0 := [_, _, _, _, _, sJk]) (rest := [_]) rfl rfl rfl rfl rfl ?_
          refine x_iload_n (pc' := 1) rfl rfl rfl ?_
          refine x_cs (ls0 := [_]) (rest := []) rfl rfl rfl rfl ?_
          refine x_iload_n (pc' := 1) rfl rfl rfl ?_
          refine x_iconst (pc' := 2) rfl rfl ?_
          refine x_iconst (pc' := 3) rfl rfl ?_
          refine x_cs (ls0 := [_, _, _]) (rest := []) rfl rfl rfl rfl ?_
          refine r145_xg (ixo_c6 hp) ?_
          refine sK_i (pc' := 6) rfl ?_
          refine x_retz (z := false) rfl rfl ?_
          refine sK_i (pc' := 4) rfl ?_
          refine x_if (a' := 18) (pc' := 7) (z := true) rfl rfl rfl (by decide) (fun _ => ?_) (fun h => by cases h)
          refine x_iconst (pc' := 19) rfl rfl ?_
          refine x_istore (pc' := 21) (ls' := [_, _, _, _, _, _]) rfl rfl rfl rfl ?_
          refine x_iload (pc' := 23) rfl rfl rfl ?_
          refine x_if (a' := 30) (pc' := 26) (z := false) rfl rfl rfl (by decide) (fun h => by cases h) (fun _ => ?_)
          refine x_iconst (pc' := 27) rfl rfl ?_
          refine x_goto (pc' := 57) rfl rfl ?_
          refine x_reti rfl rfl ?_
          refine sK_i (pc' := 89) rfl ?_
          refine x_cv (ls0 := [_, _]) (rest := []) rfl rfl rfl rfl rfl ?_
          refine x_aload_n (pc' := 1) rfl rfl rfl rfl rfl ?_
          refine x_iload_n (pc' := 2) rfl rfl rfl ?_
          refine x_pI (pc' := 5) rfl rfl rfl ?_
          refine x_iload_n (pc' := 6) rfl rfl rfl ?_
          refine x_if (a' := 13) (pc' := 9) (z := true) rfl rfl rfl (by decide) (fun _ => ?_) (fun h => by cases h)
          refine x_iconst (pc' := 14) rfl rfl ?_
          refine x_retz (z := false) rfl rfl ?_
          refine sK_i (pc' := 92) rfl ?_
          refine x_if (a' := 112) (pc' := 95) (z := true) rfl rfl rfl (by decide) (fun _ => ?_) (fun h => by cases h)
          refine x_iconst (pc' := 113) rfl rfl ?_
          refine x_reti rfl rfl ?_
          exact k4 q4 q22 (of_decide_eq_false q26) (of_decide_eq_false q31)
        · refine x_iconst (pc' := 72) rfl rfl ?_
          refine x_goto (pc' := 76) rfl rfl ?_
          refine x_istore (pc' := 78) (ls' := [_, _, _, _, _, _, _, _, _]) rfl rfl rfl rfl ?_
          refine x_aload_n (pc' := 79) rfl rfl rfl rfl rfl ?_
          refine x_aload_n (pc' := 80) rfl rfl rfl rfl rfl ?_
          refine x_iload_n (pc' := 81) rfl rfl rfl ?_
          refine x_iload_n (pc' := 82) rfl rfl rfl ?_
          refine x_iload (pc' := 84) rfl rfl rfl ?_
          refine x_iload (pc' := 86) rfl rfl rfl ?_
          refine x_cv (ls0 := [_, _, _, _, _, sJk]) (rest := [_]) rfl rfl rfl rfl rfl ?_
          refine x_iload_n (pc' := 1) rfl rfl rfl ?_
          refine x_cs (ls0 := [_]) (rest := []) rfl rfl rfl rfl ?_
          refine x_iload_n (pc' := 1) rfl rfl rfl ?_
          refine x_iconst (pc' := 2) rfl rfl ?_
          refine x_iconst (pc' := 3) rfl rfl ?_
          refine x_cs (ls0 := [_, _, _]) (rest := []) rfl rfl rfl rfl ?_
          refine r145_xg (ixo_c6 hp) ?_
          refine sK_i (pc' := 6) rfl ?_
          refine x_retz (z := false) rfl rfl ?_
          refine sK_i (pc' := 4) rfl ?_
          refine x_if (a' := 18) (pc' := 7) (z := true) rfl rfl rfl (by decide) (fun _ => ?_) (fun h => by cases h)
          refine x_iconst (pc' := 19) rfl rfl ?_
          refine x_istore (pc' := 21) (ls' := [_, _, _, _, _, _]) rfl rfl rfl rfl ?_
          refine x_iload (pc' := 23) rfl rfl rfl ?_
          refine x_if (a' := 30) (pc' := 26) (z := false) rfl rfl rfl (by decide) (fun h => by cases h) (fun _ => ?_)
          refine x_iconst (pc' := 27) rfl rfl ?_
          refine x_goto (pc' := 57) rfl rfl ?_
          refine x_reti rfl rfl ?_
          refine sK_i (pc' := 89) rfl ?_
          refine x_cv (ls0 := [_, _]) (rest := []) rfl rfl rfl rfl rfl ?_
          refine x_aload_n (pc' := 1) rfl rfl rfl rfl rfl ?_
          refine x_iload_n (pc' := 2) rfl rfl rfl ?_
          refine x_pI (pc' := 5) rfl rfl rfl ?_
          refine x_iload_n (pc' := 6) rfl rfl rfl ?_
          refine x_if (a' := 13) (pc' := 9) (z := true) rfl rfl rfl (by decide) (fun _ => ?_) (fun h => by cases h)
          refine x_iconst (pc' := 14) rfl rfl ?_
          refine x_retz (z := false) rfl rfl ?_
          refine sK_i (pc' := 92) rfl ?_
          refine x_if (a' := 112) (pc' := 95) (z := true) rfl rfl rfl (by decide) (fun _ => ?_) (fun h => by cases h)
          refine x_iconst (pc' := 113) rfl rfl ?_
          refine x_reti rfl rfl ?_
          exact k5 q4 q22 (of_decide_eq_false q26) (of_decide_eq_true q31)
    · refine x_iload (pc' := 29) rfl rfl rfl ?_
      refine x_iconst (pc' := 30) rfl rfl ?_
      refine x_iload (pc' := 32) rfl rfl rfl ?_
      refine x_cs (ls0 := [_, _, _]) (rest := []) rfl rfl rfl rfl ?_
      refine r145_g ?_
      refine sK_i (pc' := 35) rfl ?_
      refine x_ifeq_z (a' := 42) (pc' := 38) (z := (inB h 1 a)) rfl rfl rfl (fun q40 => ?_) (fun q40 => ?_)
      · refine x_iconst (pc' := 43) rfl rfl ?_
        refine x_istore (pc' := 45) (ls' := [_, _, _, _, _, _, _, _, _]) rfl rfl rfl rfl ?_
        refine x_iload_n (pc' := 46) rfl rfl rfl ?_
        refine x_cs (ls0 := [_]) (rest := []) rfl rfl rfl rfl ?_
        refine x_iload_n (pc' := 1) rfl rfl rfl ?_
        refine x_iconst (pc' := 2) rfl rfl ?_
        refine x_iconst (pc' := 3) rfl rfl ?_
        refine x_cs (ls0 := [_, _, _]) (rest := []) rfl rfl rfl rfl ?_
        refine x_iload_n (pc' := 1) rfl rfl rfl ?_
        refine x_iload_n (pc' := 2) rfl rfl rfl ?_
        refine x_icmp (a' := 14) (pc' := 5) (z := decide (b < 0)) rfl rfl rfl (ic_lt (p := b) (q := 0) (gb31 hb) (by decide)) (fun h => absurd (of_decide_eq_true h) (by first | decide | omega | simp)) (fun _ => ?_)
        refine x_iload_n (pc' := 6) rfl rfl rfl ?_
        refine x_iload_n (pc' := 7) rfl rfl rfl ?_
        refine x_icmp (a' := 14) (pc' := 10) (z := decide (4 < b)) rfl rfl rfl (ic_gt (p := b) (q := 4) (gb31 hb) (by decide)) (fun h => absurd (of_decide_eq_true h) (show ¬ 4 < b by omega)) (fun _ => ?_)
        refine x_iconst (pc' := 11) rfl rfl ?_
        refine x_goto (pc' := 15) rfl rfl ?_
        refine x_retz (z := true) rfl rfl ?_
        refine sK_i (pc' := 6) rfl ?_
        refine x_retz (z := true) rfl rfl ?_
        refine sK_i (pc' := 49) rfl ?_
        refine x_if (a' := 75) (pc' := 52) (z := false) rfl rfl rfl (by decide) (fun h => by cases h) (fun _ => ?_)
        refine x_aload_n (pc' := 53) rfl rfl rfl rfl rfl ?_
        refine x_gR (pc' := 56) (r := (some 0)) rfl rfl rfl (kR_769_0 hc) ?_
        refine x_iload_n (pc' := 57) rfl rfl rfl ?_
        refine x_iald (pc' := 58) (N := 5) (x := (mA M 0 b)) rfl rfl rfl (kN_21_0 hc) (io_in (p := b) (N := 5) hb (by decide)) (Eq.trans (congrArg (sA t 21 0) (nn_io (p := b) (Nat.lt_trans hb (by decide)))) (gA hM rfl)) ?_
        refine x_if (a' := 75) (pc' := 61) (z := decide ((mA M 0 b) = 0)) rfl rfl rfl rfl (fun q44 => ?_) (fun q44 => ?_)
        · refine x_iconst (pc' := 76) rfl rfl ?_
          refine x_istore (pc' := 78) (ls' := [_, _, _, _, _, _, _, _, _]) rfl rfl rfl rfl ?_
          refine x_aload_n (pc' := 79) rfl rfl rfl rfl rfl ?_
          refine x_aload_n (pc' := 80) rfl rfl rfl rfl rfl ?_
          refine x_iload_n (pc' := 81) rfl rfl rfl ?_
          refine x_iload_n (pc' := 82) rfl rfl rfl ?_
          refine x_iload (pc' := 84) rfl rfl rfl ?_
          refine x_iload (pc' := 86) rfl rfl rfl ?_
          refine x_cv (ls0 := [_, _, _, _, _, sJk]) (rest := [_]) rfl rfl rfl rfl rfl ?_
          refine x_iload_n (pc' := 1) rfl rfl rfl ?_
          refine x_cs (ls0 := [_]) (rest := []) rfl rfl rfl rfl ?_
          refine x_iload_n (pc' := 1) rfl rfl rfl ?_
          refine x_iconst (pc' := 2) rfl rfl ?_
          refine x_iconst (pc' := 3) rfl rfl ?_
          refine x_cs (ls0 := [_, _, _]) (rest := []) rfl rfl rfl rfl ?_
          refine r145_xg (ixo_c6 hp) ?_
          refine sK_i (pc' := 6) rfl ?_
          refine x_retz (z := false) rfl rfl ?_
          refine sK_i (pc' := 4) rfl ?_
          refine x_if (a' := 18) (pc' := 7) (z := true) rfl rfl rfl (by decide) (fun _ => ?_) (fun h => by cases h)
          refine x_iconst (pc' := 19) rfl rfl ?_
          refine x_istore (pc' := 21) (ls' := [_, _, _, _, _, _]) rfl rfl rfl rfl ?_
          refine x_iload (pc' := 23) rfl rfl rfl ?_
          refine x_if (a' := 30) (pc' := 26) (z := false) rfl rfl rfl (by decide) (fun h => by cases h) (fun _ => ?_)
          refine x_iconst (pc' := 27) rfl rfl ?_
          refine x_goto (pc' := 57) rfl rfl ?_
          refine x_reti rfl rfl ?_
          refine sK_i (pc' := 89) rfl ?_
          refine x_cv (ls0 := [_, _]) (rest := []) rfl rfl rfl rfl rfl ?_
          refine x_aload_n (pc' := 1) rfl rfl rfl rfl rfl ?_
          refine x_iload_n (pc' := 2) rfl rfl rfl ?_
          refine x_pI (pc' := 5) rfl rfl rfl ?_
          refine x_iload_n (pc' := 6) rfl rfl rfl ?_
          refine x_if (a' := 13) (pc' := 9) (z := true) rfl rfl rfl (by decide) (fun _ => ?_) (fun h => by cases h)
          refine x_iconst (pc' := 14) rfl rfl ?_
          refine x_retz (z := false) rfl rfl ?_
          refine sK_i (pc' := 92) rfl ?_
          refine x_if (a' := 112) (pc' := 95) (z := true) rfl rfl rfl (by decide) (fun _ => ?_) (fun h => by cases h)
          refine x_iconst (pc' := 113) rfl rfl ?_
          refine x_reti rfl rfl ?_
          exact k6 q4 q22 q40 (of_decide_eq_true q44)
        · refine x_aload_n (pc' := 62) rfl rfl rfl rfl rfl ?_
          refine x_gI (pc' := 65) (x := (io n)) rfl rfl rfl (gFn hM (Fr.refl _) hR) ?_
          refine x_sipush (pc' := 68) rfl rfl ?_
          refine x_icmp_n (a' := 75) (pc' := 71) (z := decide (n < 200)) rfl rfl rfl (ic_gen (p := n) (q := 200) (gn31 hR) (by decide)) (fun q49 => ?_) (fun q49 => ?_)
          · refine x_iconst (pc' := 76) rfl rfl ?_
            refine x_istore (pc' := 78) (ls' := [_, _, _, _, _, _, _, _, _]) rfl rfl rfl rfl ?_
            refine x_aload_n (pc' := 79) rfl rfl rfl rfl rfl ?_
            refine x_aload_n (pc' := 80) rfl rfl rfl rfl rfl ?_
            refine x_iload_n (pc' := 81) rfl rfl rfl ?_
            refine x_iload_n (pc' := 82) rfl rfl rfl ?_
            refine x_iload (pc' := 84) rfl rfl rfl ?_
            refine x_iload (pc' := 86) rfl rfl rfl ?_
            refine x_cv (ls0 := [_, _, _, _, _, sJk]) (rest := [_]) rfl rfl rfl rfl rfl ?_
            refine x_iload_n (pc' := 1) rfl rfl rfl ?_
            refine x_cs (ls0 := [_]) (rest := []) rfl rfl rfl rfl ?_
            refine x_iload_n (pc' := 1) rfl rfl rfl ?_
            refine x_iconst (pc' := 2) rfl rfl ?_
            refine x_iconst (pc' := 3) rfl rfl ?_
            refine x_cs (ls0 := [_, _, _]) (rest := []) rfl rfl rfl rfl ?_
            refine r145_xg (ixo_c6 hp) ?_
            refine sK_i (pc' := 6) rfl ?_
            refine x_retz (z := false) rfl rfl ?_
            refine sK_i (pc' := 4) rfl ?_
            refine x_if (a' := 18) (pc' := 7) (z := true) rfl rfl rfl (by decide) (fun _ => ?_) (fun h => by cases h)
            refine x_iconst (pc' := 19) rfl rfl ?_
            refine x_istore (pc' := 21) (ls' := [_, _, _, _, _, _]) rfl rfl rfl rfl ?_
            refine x_iload (pc' := 23) rfl rfl rfl ?_
            refine x_if (a' := 30) (pc' := 26) (z := false) rfl rfl rfl (by decide) (fun h => by cases h) (fun _ => ?_)
            refine x_iconst (pc' := 27) rfl rfl ?_
            refine x_goto (pc' := 57) rfl rfl ?_
            refine x_reti rfl rfl ?_
            refine sK_i (pc' := 89) rfl ?_
            refine x_cv (ls0 := [_, _]) (rest := []) rfl rfl rfl rfl rfl ?_
            refine x_aload_n (pc' := 1) rfl rfl rfl rfl rfl ?_
            refine x_iload_n (pc' := 2) rfl rfl rfl ?_
            refine x_pI (pc' := 5) rfl rfl rfl ?_
            refine x_iload_n (pc' := 6) rfl rfl rfl ?_
            refine x_if (a' := 13) (pc' := 9) (z := true) rfl rfl rfl (by decide) (fun _ => ?_) (fun h => by cases h)
            refine x_iconst (pc' := 14) rfl rfl ?_
            refine x_retz (z := false) rfl rfl ?_
            refine sK_i (pc' := 92) rfl ?_
            refine x_if (a' := 112) (pc' := 95) (z := true) rfl rfl rfl (by decide) (fun _ => ?_) (fun h => by cases h)
            refine x_iconst (pc' := 113) rfl rfl ?_
            refine x_reti rfl rfl ?_
            exact k7 q4 q22 q40 (of_decide_eq_false q44) (of_decide_eq_false q49)
          · refine x_iconst (pc' := 72) rfl rfl ?_
            refine x_goto (pc' := 76) rfl rfl ?_
            refine x_istore (pc' := 78) (ls' := [_, _, _, _, _, _, _, _, _]) rfl rfl rfl rfl ?_
            refine x_aload_n (pc' := 79) rfl rfl rfl rfl rfl ?_
            refine x_aload_n (pc' := 80) rfl rfl rfl rfl rfl ?_
            refine x_iload_n (pc' := 81) rfl rfl rfl ?_
            refine x_iload_n (pc' := 82) rfl rfl rfl ?_
            refine x_iload (pc' := 84) rfl rfl rfl ?_
            refine x_iload (pc' := 86) rfl rfl rfl ?_
            refine x_cv (ls0 := [_, _, _, _, _, sJk]) (rest := [_]) rfl rfl rfl rfl rfl ?_
            refine x_iload_n (pc' := 1) rfl rfl rfl ?_
            refine x_cs (ls0 := [_]) (rest := []) rfl rfl rfl rfl ?_
            refine x_iload_n (pc' := 1) rfl rfl rfl ?_
            refine x_iconst (pc' := 2) rfl rfl ?_
            refine x_iconst (pc' := 3) rfl rfl ?_
            refine x_cs (ls0 := [_, _, _]) (rest := []) rfl rfl rfl rfl ?_
            refine r145_xg (ixo_c6 hp) ?_
            refine sK_i (pc' := 6) rfl ?_
            refine x_retz (z := false) rfl rfl ?_
            refine sK_i (pc' := 4) rfl ?_
            refine x_if (a' := 18) (pc' := 7) (z := true) rfl rfl rfl (by decide) (fun _ => ?_) (fun h => by cases h)
            refine x_iconst (pc' := 19) rfl rfl ?_
            refine x_istore (pc' := 21) (ls' := [_, _, _, _, _, _]) rfl rfl rfl rfl ?_
            refine x_iload (pc' := 23) rfl rfl rfl ?_
            refine x_if (a' := 30) (pc' := 26) (z := false) rfl rfl rfl (by decide) (fun h => by cases h) (fun _ => ?_)
            refine x_iconst (pc' := 27) rfl rfl ?_
            refine x_goto (pc' := 57) rfl rfl ?_
            refine x_reti rfl rfl ?_
            refine sK_i (pc' := 89) rfl ?_
            refine x_cv (ls0 := [_, _]) (rest := []) rfl rfl rfl rfl rfl ?_
            refine x_aload_n (pc' := 1) rfl rfl rfl rfl rfl ?_
            refine x_iload_n (pc' := 2) rfl rfl rfl ?_
            refine x_pI (pc' := 5) rfl rfl rfl ?_
            refine x_iload_n (pc' := 6) rfl rfl rfl ?_
            refine x_if (a' := 13) (pc' := 9) (z := true) rfl rfl rfl (by decide) (fun _ => ?_) (fun h => by cases h)
            refine x_iconst (pc' := 14) rfl rfl ?_
            refine x_retz (z := false) rfl rfl ?_
            refine sK_i (pc' := 92) rfl ?_
            refine x_if (a' := 112) (pc' := 95) (z := true) rfl rfl rfl (by decide) (fun _ => ?_) (fun h => by cases h)
            refine x_iconst (pc' := 113) rfl rfl ?_
            refine x_reti rfl rfl ?_
            exact k8 q4 q22 q40 (of_decide_eq_false q44) (of_decide_eq_true q49)
      · refine x_iconst (pc' := 39) rfl rfl ?_
        refine x_goto (pc' := 43) rfl rfl ?_
        refine x_istore (pc' := 45) (ls' := [_, _, _, _, _, _, _, _, _]) rfl rfl rfl rfl ?_
        refine x_iload_n (pc' := 46) rfl rfl rfl ?_
        refine x_cs (ls0 := [_]) (rest := []) rfl rfl rfl rfl ?_
        refine x_iload_n (pc' := 1) rfl rfl rfl ?_
        refine x_iconst (pc' := 2) rfl rfl ?_
        refine x_iconst (pc' := 3) rfl rfl ?_
        refine x_cs (ls0 := [_, _, _]) (rest := []) rfl rfl rfl rfl ?_
        refine x_iload_n (pc' := 1) rfl rfl rfl ?_
        refine x_iload_n (pc' := 2) rfl rfl rfl ?_
        refine x_icmp (a' := 14) (pc' := 5) (z := decide (b < 0)) rfl rfl rfl (ic_lt (p := b) (q := 0) (gb31 hb) (by decide)) (fun h => absurd (of_decide_eq_true h) (by first | decide | omega | simp)) (fun _ => ?_)
        refine x_iload_n (pc' := 6) rfl rfl rfl ?_
        refine x_iload_n (pc' := 7) rfl rfl rfl ?_
        refine x_icmp (a' := 14) (pc' := 10) (z := decide (4 < b)) rfl rfl rfl (ic_gt (p := b) (q := 4) (gb31 hb) (by decide)) (fun h => absurd (of_decide_eq_true h) (show ¬ 4 < b by omega)) (fun _ => ?_)
        refine x_iconst (pc' := 11) rfl rfl ?_
        refine x_goto (pc' := 15) rfl rfl ?_
        refine x_retz (z := true) rfl rfl ?_
        refine sK_i (pc' := 6) rfl ?_
        refine x_retz (z := true) rfl rfl ?_
        refine sK_i (pc' := 49) rfl ?_
        refine x_if (a' := 75) (pc' := 52) (z := false) rfl rfl rfl (by decide) (fun h => by cases h) (fun _ => ?_)
        refine x_aload_n (pc' := 53) rfl rfl rfl rfl rfl ?_
        refine x_gR (pc' := 56) (r := (some 0)) rfl rfl rfl (kR_769_0 hc) ?_
        refine x_iload_n (pc' := 57) rfl rfl rfl ?_
        refine x_iald (pc' := 58) (N := 5) (x := (mA M 0 b)) rfl rfl rfl (kN_21_0 hc) (io_in (p := b) (N := 5) hb (by decide)) (Eq.trans (congrArg (sA t 21 0) (nn_io (p := b) (Nat.lt_trans hb (by decide)))) (gA hM rfl)) ?_
        refine x_if (a' := 75) (pc' := 61) (z := decide ((mA M 0 b) = 0)) rfl rfl rfl rfl (fun q61 => ?_) (fun q61 => ?_)
        · refine x_iconst (pc' := 76) rfl rfl ?_
          refine x_istore (pc' := 78) (ls' := [_, _, _, _, _, _, _, _, _]) rfl rfl rfl rfl ?_
          refine x_aload_n (pc' := 79) rfl rfl rfl rfl rfl ?_
          refine x_aload_n (pc' := 80) rfl rfl rfl rfl rfl ?_
          refine x_iload_n (pc' := 81) rfl rfl rfl ?_
          refine x_iload_n (pc' := 82) rfl rfl rfl ?_
          refine x_iload (pc' := 84) rfl rfl rfl ?_
          refine x_iload (pc' := 86) rfl rfl rfl ?_
          refine x_cv (ls0 := [_, _, _, _, _, sJk]) (rest := [_]) rfl rfl rfl rfl rfl ?_
          refine x_iload_n (pc' := 1) rfl rfl rfl ?_
          refine x_cs (ls0 := [_]) (rest := []) rfl rfl rfl rfl ?_
          refine x_iload_n (pc' := 1) rfl rfl rfl ?_
          refine x_iconst (pc' := 2) rfl rfl ?_
          refine x_iconst (pc' := 3) rfl rfl ?_
          refine x_cs (ls0 := [_, _, _]) (rest := []) rfl rfl rfl rfl ?_
          refine r145_xg (ixo_c6 hp) ?_
          refine sK_i (pc' := 6) rfl ?_
          refine x_retz (z := false) rfl rfl ?_
          refine sK_i (pc' := 4) rfl ?_
          refine x_if (a' := 18) (pc' := 7) (z := true) rfl rfl rfl (by decide) (fun _ => ?_) (fun h => by cases h)
          refine x_iconst (pc' := 19) rfl rfl ?_
          refine x_istore (pc' := 21) (ls' := [_, _, _, _, _, _]) rfl rfl rfl rfl ?_
          refine x_iload (pc' := 23) rfl rfl rfl ?_
          refine x_if (a' := 30) (pc' := 26) (z := false) rfl rfl rfl (by decide) (fun h => by cases h) (fun _ => ?_)
          refine x_iconst (pc' := 27) rfl rfl ?_
          refine x_goto (pc' := 57) rfl rfl ?_
          refine x_reti rfl rfl ?_
          refine sK_i (pc' := 89) rfl ?_
          refine x_cv (ls0 := [_, _]) (rest := []) rfl rfl rfl rfl rfl ?_
          refine x_aload_n (pc' := 1) rfl rfl rfl rfl rfl ?_
          refine x_iload_n (pc' := 2) rfl rfl rfl ?_
          refine x_pI (pc' := 5) rfl rfl rfl ?_
          refine x_iload_n (pc' := 6) rfl rfl rfl ?_
          refine x_if (a' := 13) (pc' := 9) (z := true) rfl rfl rfl (by decide) (fun _ => ?_) (fun h => by cases h)
          refine x_iconst (pc' := 14) rfl rfl ?_
          refine x_retz (z := false) rfl rfl ?_
          refine sK_i (pc' := 92) rfl ?_
          refine x_if (a' := 112) (pc' := 95) (z := true) rfl rfl rfl (by decide) (fun _ => ?_) (fun h => by cases h)
          refine x_iconst (pc' := 113) rfl rfl ?_
          refine x_reti rfl rfl ?_
          exact k9 q4 q22 q40 (of_decide_eq_true q61)
        · refine x_aload_n (pc' := 62) rfl rfl rfl rfl rfl ?_
          refine x_gI (pc' := 65) (x := (io n)) rfl rfl rfl (gFn hM (Fr.refl _) hR) ?_
          refine x_sipush (pc' := 68) rfl rfl ?_
          refine x_icmp_n (a' := 75) (pc' := 71) (z := decide (n < 200)) rfl rfl rfl (ic_gen (p := n) (q := 200) (gn31 hR) (by decide)) (fun q66 => ?_) (fun q66 => ?_)
          · refine x_iconst (pc' := 76) rfl rfl ?_
            refine x_istore (pc' := 78) (ls' := [_, _, _, _, _, _, _, _, _]) rfl rfl rfl rfl ?_
            refine x_aload_n (pc' := 79) rfl rfl rfl rfl rfl ?_
            refine x_aload_n (pc' := 80) rfl rfl rfl rfl rfl ?_
            refine x_iload_n (pc' := 81) rfl rfl rfl ?_
            refine x_iload_n (pc' := 82) rfl rfl rfl ?_
            refine x_iload (pc' := 84) rfl rfl rfl ?_
            refine x_iload (pc' := 86) rfl rfl rfl ?_
            refine x_cv (ls0 := [_, _, _, _, _, sJk]) (rest := [_]) rfl rfl rfl rfl rfl ?_
            refine x_iload_n (pc' := 1) rfl rfl rfl ?_
            refine x_cs (ls0 := [_]) (rest := []) rfl rfl rfl rfl ?_
            refine x_iload_n (pc' := 1) rfl rfl rfl ?_
            refine x_iconst (pc' := 2) rfl rfl ?_
            refine x_iconst (pc' := 3) rfl rfl ?_
            refine x_cs (ls0 := [_, _, _]) (rest := []) rfl rfl rfl rfl ?_
            refine r145_xg (ixo_c6 hp) ?_
            refine sK_i (pc' := 6) rfl ?_
            refine x_retz (z := false) rfl rfl ?_
            refine sK_i (pc' := 4) rfl ?_
            refine x_if (a' := 18) (pc' := 7) (z := true) rfl rfl rfl (by decide) (fun _ => ?_) (fun h => by cases h)
            refine x_iconst (pc' := 19) rfl rfl ?_
            refine x_istore (pc' := 21) (ls' := [_, _, _, _, _, _]) rfl rfl rfl rfl ?_
            refine x_iload (pc' := 23) rfl rfl rfl ?_
            refine x_if (a' := 30) (pc' := 26) (z := false) rfl rfl rfl (by decide) (fun h => by cases h) (fun _ => ?_)
            refine x_iconst (pc' := 27) rfl rfl ?_
            refine x_goto (pc' := 57) rfl rfl ?_
            refine x_reti rfl rfl ?_
            refine sK_i (pc' := 89) rfl ?_
            refine x_cv (ls0 := [_, _]) (rest := []) rfl rfl rfl rfl rfl ?_
            refine x_aload_n (pc' := 1) rfl rfl rfl rfl rfl ?_
            refine x_iload_n (pc' := 2) rfl rfl rfl ?_
            refine x_pI (pc' := 5) rfl rfl rfl ?_
            refine x_iload_n (pc' := 6) rfl rfl rfl ?_
            refine x_if (a' := 13) (pc' := 9) (z := true) rfl rfl rfl (by decide) (fun _ => ?_) (fun h => by cases h)
            refine x_iconst (pc' := 14) rfl rfl ?_
            refine x_retz (z := false) rfl rfl ?_
            refine sK_i (pc' := 92) rfl ?_
            refine x_if (a' := 112) (pc' := 95) (z := true) rfl rfl rfl (by decide) (fun _ => ?_) (fun h => by cases h)
            refine x_iconst (pc' := 113) rfl rfl ?_
            refine x_reti rfl rfl ?_
            exact k10 q4 q22 q40 (of_decide_eq_false q61) (of_decide_eq_false q66)
          · refine x_iconst (pc' := 72) rfl rfl ?_
            refine x_goto (pc' := 76) rfl rfl ?_
            refine x_istore (pc' := 78) (ls' := [_, _, _, _, _, _, _, _, _]) rfl rfl rfl rfl ?_
            refine x_aload_n (pc' := 79) rfl rfl rfl rfl rfl ?_
            refine x_aload_n (pc' := 80) rfl rfl rfl rfl rfl ?_
            refine x_iload_n (pc' := 81) rfl rfl rfl ?_
            refine x_iload_n (pc' := 82) rfl rfl rfl ?_
            refine x_iload (pc' := 84) rfl rfl rfl ?_
            refine x_iload (pc' := 86) rfl rfl rfl ?_
            refine x_cv (ls0 := [_, _, _, _, _, sJk]) (rest := [_]) rfl rfl rfl rfl rfl ?_
            refine x_iload_n (pc' := 1) rfl rfl rfl ?_
            refine x_cs (ls0 := [_]) (rest := []) rfl rfl rfl rfl ?_
            refine x_iload_n (pc' := 1) rfl rfl rfl ?_
            refine x_iconst (pc' := 2) rfl rfl ?_
            refine x_iconst (pc' := 3) rfl rfl ?_
            refine x_cs (ls0 := [_, _, _]) (rest := []) rfl rfl rfl rfl ?_
            refine r145_xg (ixo_c6 hp) ?_
            refine sK_i (pc' := 6) rfl ?_
            refine x_retz (z := false) rfl rfl ?_
            refine sK_i (pc' := 4) rfl ?_
            refine x_if (a' := 18) (pc' := 7) (z := true) rfl rfl rfl (by decide) (fun _ => ?_) (fun h => by cases h)
            refine x_iconst (pc' := 19) rfl rfl ?_
            refine x_istore (pc' := 21) (ls' := [_, _, _, _, _, _]) rfl rfl rfl rfl ?_
            refine x_iload (pc' := 23) rfl rfl rfl ?_
            refine x_if (a' := 30) (pc' := 26) (z := false) rfl rfl rfl (by decide) (fun h => by cases h) (fun _ => ?_)
            refine x_iconst (pc' := 27) rfl rfl ?_
            refine x_goto (pc' := 57) rfl rfl ?_
            refine x_reti rfl rfl ?_
            refine sK_i (pc' := 89) rfl ?_
            refine x_cv (ls0 := [_, _]) (rest := []) rfl rfl rfl rfl rfl ?_
            refine x_aload_n (pc' := 1) rfl rfl rfl rfl rfl ?_
            refine x_iload_n (pc' := 2) rfl rfl rfl ?_
            refine x_pI (pc' := 5) rfl rfl rfl ?_
            refine x_iload_n (pc' := 6) rfl rfl rfl ?_
            refine x_if (a' := 13) (pc' := 9) (z := true) rfl rfl rfl (by decide) (fun _ => ?_) (fun h => by cases h)
            refine x_iconst (pc' := 14) rfl rfl ?_
            refine x_retz (z := false) rfl rfl ?_
            refine sK_i (pc' := 92) rfl ?_
            refine x_if (a' := 112) (pc' := 95) (z := true) rfl rfl rfl (by decide) (fun _ => ?_) (fun h => by cases h)
            refine x_iconst (pc' := 113) rfl rfl ?_
            refine x_reti rfl rfl ?_
            exact k11 q4 q22 q40 (of_decide_eq_false q61) (of_decide_eq_true q66)
set_option maxHeartbeats 4000000 in
set_option maxRecDepth 10000 in
theorem r204_x01 {t : sT} {Q : sRs → sT → Prop} {M : sM} {n : Nat} {x : Int32} {x1 : Int32} {s : Bool} {p : Int32} {a : Int32} {h : Int32}
    (hV : Vr t M n)
    (hp : ixo x 6 = none)
    (hp1 : ixo x1 5 = none)
    (k0 : Q (.inl (some (.inl 0))) (sIw t 768 0 1)) :
    X 204 0 [.inr (.inr (12, (some 0))), .inl x, .inl x1, .inl (bz s), .inl p, .inl a, .inl h, sJk, sJk] [] t Q := by
  obtain ⟨hM, hc, hR⟩ := hV
  refine x_iload_n (pc' := 1) rfl rfl rfl ?_
  refine x_cs (ls0 := [_]) (rest := []) rfl rfl rfl rfl ?_
  refine x_iload_n (pc' := 1) rfl rfl rfl ?_
  refine x_iconst (pc' := 2) rfl rfl ?_
  refine x_iconst (pc' := 3) rfl rfl ?_
  refine x_cs (ls0 := [_, _, _]) (rest := []) rfl rfl rfl rfl ?_
  refine r145_xg (ixo_c5 hp1) ?_
  refine sK_i (pc' := 6) rfl ?_
  refine x_retz (z := false) rfl rfl ?_
  refine sK_i (pc' := 4) rfl ?_
  refine x_if (a' := 42) (pc' := 7) (z := true) rfl rfl rfl (by decide) (fun _ => ?_) (fun h => by cases h)
  refine x_iconst (pc' := 43) rfl rfl ?_
  refine x_istore (pc' := 45) (ls' := [_, _, _, _, _, _, _, _, _]) rfl rfl rfl rfl ?_
  refine x_iload_n (pc' := 46) rfl rfl rfl ?_
  refine x_cs (ls0 := [_]) (rest := []) rfl rfl rfl rfl ?_
  refine x_iload_n (pc' := 1) rfl rfl rfl ?_
  refine x_iconst (pc' := 2) rfl rfl ?_
  refine x_iconst (pc' := 3) rfl rfl ?_
  refine x_cs (ls0 := [_, _, _]) (rest := []) rfl rfl rfl rfl ?_
  refine r145_xg (ixo_c5 hp1) ?_
  refine sK_i (pc' := 6) rfl ?_
  refine x_retz (z := false) rfl rfl ?_
  refine sK_i (pc' := 49) rfl ?_
  refine x_if (a' := 75) (pc' := 52) (z := true) rfl rfl rfl (by decide) (fun _ => ?_) (fun h => by cases h)
  refine x_iconst (pc' := 76) rfl rfl ?_
  refine x_istore (pc' := 78) (ls' := [_, _, _, _, _, _, _, _, _]) rfl rfl rfl rfl ?_
  refine x_aload_n (pc' := 79) rfl rfl rfl rfl rfl ?_
  refine x_aload_n (pc' := 80) rfl rfl rfl rfl rfl ?_
  refine x_iload_n (pc' := 81) rfl rfl rfl ?_
  refine x_iload_n (pc' := 82) rfl rfl rfl ?_
  refine x_iload (pc' := 84) rfl rfl rfl ?_
  refine x_iload (pc' := 86) rfl rfl rfl ?_
  refine x_cv (ls0 := [_, _, _, _, _, sJk]) (rest := [_]) rfl rfl rfl rfl rfl ?_
  refine x_iload_n (pc' := 1) rfl rfl rfl ?_
  refine x_cs (ls0 := [_]) (rest := []) rfl rfl rfl rfl ?_
  refine x_iload_n (pc' := 1) rfl rfl rfl ?_
  refine x_iconst (pc' := 2) rfl rfl ?_
  refine x_iconst (pc' := 3) rfl rfl ?_
  refine x_cs (ls0 := [_, _, _]) (rest := []) rfl rfl rfl rfl ?_
  refine r145_xg (ixo_c6 hp) ?_
  refine sK_i (pc' := 6) rfl ?_
  refine x_retz (z := false) rfl rfl ?_
  refine sK_i (pc' := 4) rfl ?_
  refine x_if (a' := 18) (pc' := 7) (z := true) rfl rfl rfl (by decide) (fun _ => ?_) (fun h => by cases h)
  refine x_iconst (pc' := 19) rfl rfl ?_
  refine x_istore (pc' := 21) (ls' := [_, _, _, _, _, _]) rfl rfl rfl rfl ?_
  refine x_iload (pc' := 23) rfl rfl rfl ?_
  refine x_if (a' := 30) (pc' := 26) (z := false) rfl rfl rfl (by decide) (fun h => by cases h) (fun _ => ?_)
  refine x_iconst (pc' := 27) rfl rfl ?_
  refine x_goto (pc' := 57) rfl rfl ?_
  refine x_reti rfl rfl ?_
  refine sK_i (pc' := 89) rfl ?_
  refine x_cv (ls0 := [_, _]) (rest := []) rfl rfl rfl rfl rfl ?_
  refine x_aload_n (pc' := 1) rfl rfl rfl rfl rfl ?_
  refine x_iload_n (pc' := 2) rfl rfl rfl ?_
  refine x_pI (pc' := 5) rfl rfl rfl ?_
  refine x_iload_n (pc' := 6) rfl rfl rfl ?_
  refine x_if (a' := 13) (pc' := 9) (z := true) rfl rfl rfl (by decide) (fun _ => ?_) (fun h => by cases h)
  refine x_iconst (pc' := 14) rfl rfl ?_
  refine x_retz (z := false) rfl rfl ?_
  refine sK_i (pc' := 92) rfl ?_
  refine x_if (a' := 112) (pc' := 95) (z := true) rfl rfl rfl (by decide) (fun _ => ?_) (fun h => by cases h)
  refine x_iconst (pc' := 113) rfl rfl ?_
  refine x_reti rfl rfl ?_
  exact k0
set_option maxHeartbeats 4000000 in
set_option maxRecDepth 10000 in
theorem r205 {t : sT} {Q : sRs → sT → Prop} {M : sM} {n : Nat} {m : Nat} {b : Nat} {s : Bool} {p : Int32} {a : Int32}
    (hV : Vr t M n)
    (hm : m < 6)
    (hb : b < 5)
    (k0 : (prB b p) = false → ¬ ((mA M 0 b) = 2) → Q (.inl (some (.inl 0))) (sIw t 768 0 2))
    (k1 : (prB b p) = false → (mA M 0 b) = 2 → ¬ (n < 200) → Q (.inl (some (.inl 0))) (sIw t 768 0 2))
    (k2 : (prB b p) = false → (mA M 0 b) = 2 → n < 200 → Q (.inl (some (.inl 0))) (sIw t 768 0 2))
    (k3 : (prB b p) = true → (inB a 1 100) = false → ¬ ((mA M 0 b) = 2) → Q (.inl (some (.inl 0))) (sIw t 768 0 2))
    (k4 : (prB b p) = true → (inB a 1 100) = false → (mA M 0 b) = 2 → ¬ (n < 200) → Q (.inl (some (.inl 0))) (sIw t 768 0 2))
    (k5 : (prB b p) = true → (inB a 1 100) = false → (mA M 0 b) = 2 → n < 200 → Q (.inl (some (.inl 0))) (sIw t 768 0 2))
    (k6 : (prB b p) = true → (inB a 1 100) = true → ¬ ((mA M 0 b) = 2) → (mB M 2 m) = true → Q (.inl (some (.inl 0))) (sIw t 768 0 3))
    (k7 : (prB b p) = true → (inB a 1 100) = true → ¬ ((mA M 0 b) = 2) → (mB M 2 m) = false → Q (.inl (some (.inl 0))) (sIw t 768 0 3))
    (k8 : (prB b p) = true → (inB a 1 100) = true → (mA M 0 b) = 2 → ¬ (n < 200) → (mB M 2 m) = true → Q (.inl (some (.inl 0))) (sIw t 768 0 3))
    (k9 : (prB b p) = true → (inB a 1 100) = true → (mA M 0 b) = 2 → ¬ (n < 200) → (mB M 2 m) = false → Q (.inl (some (.inl 0))) (sIw t 768 0 3))
    (k10 : (prB b p) = true → (inB a 1 100) = true → (mA M 0 b) = 2 → n < 200 → (mB M 2 m) = true → Q (.inl (some (.inl 0))) (sIw t 768 0 3))
    (k11 : (prB b p) = true → (inB a 1 100) = true → (mA M 0 b) = 2 → n < 200 → (mB M 2 m) = false → X 203 0 [.inr (.inr (12, (some 0))), .inl (io m), .inl (io b), .inl (bz s), .inl p, .inl a, .inl a, .inl 1, sJk] [] (sIw t 768 0 0) (sK 203 205 96 [.inr (.inr (12, (some 0))), .inl (io m), .inl (io b), .inl (bz s), .inl p, .inl a, .inl 1, .inl 1] [] Q)) :
    X 205 0 [.inr (.inr (12, (some 0))), .inl (io m), .inl (io b), .inl (bz s), .inl p, .inl a, sJk, sJk] [] t Q := by
  obtain ⟨hM, hc, hR⟩ := hV
  refine x_iload_n (pc' := 1) rfl rfl rfl ?_
  refine x_cs (ls0 := [_]) (rest := []) rfl rfl rfl rfl ?_
  refine x_iload_n (pc' := 1) rfl rfl rfl ?_
  refine x_iconst (pc' := 2) rfl rfl ?_
  refine x_iconst (pc' := 3) rfl rfl ?_
  refine x_cs (ls0 := [_, _, _]) (rest := []) rfl rfl rfl rfl ?_
  refine x_iload_n (pc' := 1) rfl rfl rfl ?_
  refine x_iload_n (pc' := 2) rfl rfl rfl ?_
  refine x_icmp (a' := 14) (pc' := 5) (z := decide (b < 0)) rfl rfl rfl (ic_lt (p := b) (q := 0) (gb31 hb) (by decide)) (fun h => absurd (of_decide_eq_true h) (by first | decide | omega | simp)) (fun _ => ?_)
  refine x_iload_n (pc' := 6) rfl rfl rfl ?_
  refine x_iload_n (pc' := 7) rfl rfl rfl ?_
  refine x_icmp (a' := 14) (pc' := 10) (z := decide (4 < b)) rfl rfl rfl (ic_gt (p := b) (q := 4) (gb31 hb) (by decide)) (fun h => absurd (of_decide_eq_true h) (show ¬ 4 < b by omega)) (fun _ => ?_)
  refine x_iconst (pc' := 11) rfl rfl ?_
  refine x_goto (pc' := 15) rfl rfl ?_
  refine x_retz (z := true) rfl rfl ?_
  refine sK_i (pc' := 6) rfl ?_
  refine x_retz (z := true) rfl rfl ?_
  refine sK_i (pc' := 4) rfl ?_
  refine x_if (a' := 31) (pc' := 7) (z := false) rfl rfl rfl (by decide) (fun h => by cases h) (fun _ => ?_)
  refine x_iload_n (pc' := 8) rfl rfl rfl ?_
  refine x_iload (pc' := 10) rfl rfl rfl ?_
  refine x_cs (ls0 := [_, _]) (rest := []) rfl rfl rfl rfl ?_
  refine r150_g hb ?_
  refine sK_i (pc' := 13) rfl ?_
  refine x_ifeq_z (a' := 31) (pc' := 16) (z := (prB b p)) rfl rfl rfl (fun q4 => ?_) (fun q4 => ?_)
  · refine x_iconst (pc' := 32) rfl rfl ?_
    refine x_istore (pc' := 34) (ls' := [_, _, _, _, _, _, _, _]) rfl rfl rfl rfl ?_
    refine x_iload_n (pc' := 35) rfl rfl rfl ?_
    refine x_cs (ls0 := [_]) (rest := []) rfl rfl rfl rfl ?_
    refine x_iload_n (pc' := 1) rfl rfl rfl ?_
    refine x_iconst (pc' := 2) rfl rfl ?_
    refine x_iconst (pc' := 3) rfl rfl ?_
    refine x_cs (ls0 := [_, _, _]) (rest := []) rfl rfl rfl rfl ?_
    refine x_iload_n (pc' := 1) rfl rfl rfl ?_
    refine x_iload_n (pc' := 2) rfl rfl rfl ?_
    refine x_icmp (a' := 14) (pc' := 5) (z := decide (b < 0)) rfl rfl rfl (ic_lt (p := b) (q := 0) (gb31 hb) (by decide)) (fun h => absurd (of_decide_eq_true h) (by first | decide | omega | simp)) (fun _ => ?_)
    refine x_iload_n (pc' := 6) rfl rfl rfl ?_
    refine x_iload_n (pc' := 7) rfl rfl rfl ?_
    refine x_icmp (a' := 14) (pc' := 10) (z := decide (4 < b)) rfl rfl rfl (ic_gt (p := b) (q := 4) (gb31 hb) (by decide)) (fun h => absurd (of_decide_eq_true h) (show ¬ 4 < b by omega)) (fun _ => ?_)
    refine x_iconst (pc' := 11) rfl rfl ?_
    refine x_goto (pc' := 15) rfl rfl ?_
    refine x_retz (z := true) rfl rfl ?_
    refine sK_i (pc' := 6) rfl ?_
    refine x_retz (z := true) rfl rfl ?_
    refine sK_i (pc' := 38) rfl ?_
    refine x_if (a' := 65) (pc' := 41) (z := false) rfl rfl rfl (by decide) (fun h => by cases h) (fun _ => ?_)
    refine x_aload_n (pc' := 42) rfl rfl rfl rfl rfl ?_
    refine x_gR (pc' := 45) (r := (some 0)) rfl rfl rfl (kR_769_0 hc) ?_
    refine x_iload_n (pc' := 46) rfl rfl rfl ?_
    refine x_iald (pc' := 47) (N := 5) (x := (mA M 0 b)) rfl rfl rfl (kN_21_0 hc) (io_in (p := b) (N := 5) hb (by decide)) (Eq.trans (congrArg (sA t 21 0) (nn_io (p := b) (Nat.lt_trans hb (by decide)))) (gA hM rfl)) ?_
    refine x_iconst (pc' := 48) rfl rfl ?_
    refine x_icmp_n (a' := 65) (pc' := 51) (z := decide ((mA M 0 b) = 2)) rfl rfl rfl (ik_ne _ _) (fun q8 => ?_) (fun q8 => ?_)
    · refine x_iconst (pc' := 66) rfl rfl ?_
      refine x_istore (pc' := 68) (ls' := [_, _, _, _, _, _, _, _]) rfl rfl rfl rfl ?_
      refine x_aload_n (pc' := 69) rfl rfl rfl rfl rfl ?_
      refine x_aload_n (pc' := 70) rfl rfl rfl rfl rfl ?_
      refine x_iload_n (pc' := 71) rfl rfl rfl ?_
      refine x_iload_n (pc' := 72) rfl rfl rfl ?_
      refine x_iload (pc' := 74) rfl rfl rfl ?_
      refine x_iload (pc' := 76) rfl rfl rfl ?_
      refine x_cv (ls0 := [_, _, _, _, _, sJk]) (rest := [_]) rfl rfl rfl rfl rfl ?_
      refine x_iload_n (pc' := 1) rfl rfl rfl ?_
      refine x_cs (ls0 := [_]) (rest := []) rfl rfl rfl rfl ?_
      refine x_iload_n (pc' := 1) rfl rfl rfl ?_
      refine x_iconst (pc' := 2) rfl rfl ?_
      refine x_iconst (pc' := 3) rfl rfl ?_
      refine x_cs (ls0 := [_, _, _]) (rest := []) rfl rfl rfl rfl ?_
      refine x_iload_n (pc' := 1) rfl rfl rfl ?_
      refine x_iload_n (pc' := 2) rfl rfl rfl ?_
      refine x_icmp (a' := 14) (pc' := 5) (z := decide (m < 0)) rfl rfl rfl (ic_lt (p := m) (q := 0) (gm31 hm) (by decide)) (fun h => absurd (of_decide_eq_true h) (by first | decide | omega | simp)) (fun _ => ?_)
      refine x_iload_n (pc' := 6) rfl rfl rfl ?_
      refine x_iload_n (pc' := 7) rfl rfl rfl ?_
      refine x_icmp (a' := 14) (pc' := 10) (z := decide (5 < m)) rfl rfl rfl (ic_gt (p := m) (q := 5) (gm31 hm) (by decide)) (fun h => absurd (of_decide_eq_true h) (show ¬ 5 < m by omega)) (fun _ => ?_)
      refine x_iconst (pc' := 11) rfl rfl ?_
      refine x_goto (pc' := 15) rfl rfl ?_
      refine x_retz (z := true) rfl rfl ?_
      refine sK_i (pc' := 6) rfl ?_
      refine x_retz (z := true) rfl rfl ?_
      refine sK_i (pc' := 4) rfl ?_
      refine x_if (a' := 18) (pc' := 7) (z := false) rfl rfl rfl (by decide) (fun h => by cases h) (fun _ => ?_)
      refine x_iload_n (pc' := 8) rfl rfl rfl ?_
      refine x_cs (ls0 := [_]) (rest := []) rfl rfl rfl rfl ?_
      refine x_iload_n (pc' := 1) rfl rfl rfl ?_
      refine x_iconst (pc' := 2) rfl rfl ?_
      refine x_iconst (pc' := 3) rfl rfl ?_
      refine x_cs (ls0 := [_, _, _]) (rest := []) rfl rfl rfl rfl ?_
      refine x_iload_n (pc' := 1) rfl rfl rfl ?_
      refine x_iload_n (pc' := 2) rfl rfl rfl ?_
      refine x_icmp (a' := 14) (pc' := 5) (z := decide (b < 0)) rfl rfl rfl (ic_lt (p := b) (q := 0) (gb31 hb) (by decide)) (fun h => absurd (of_decide_eq_true h) (by first | decide | omega | simp)) (fun _ => ?_)
      refine x_iload_n (pc' := 6) rfl rfl rfl ?_
      refine x_iload_n (pc' := 7) rfl rfl rfl ?_
      refine x_icmp (a' := 14) (pc' := 10) (z := decide (4 < b)) rfl rfl rfl (ic_gt (p := b) (q := 4) (gb31 hb) (by decide)) (fun h => absurd (of_decide_eq_true h) (show ¬ 4 < b by omega)) (fun _ => ?_)
      refine x_iconst (pc' := 11) rfl rfl ?_
      refine x_goto (pc' := 15) rfl rfl ?_
      refine x_retz (z := true) rfl rfl ?_
      refine sK_i (pc' := 6) rfl ?_
      refine x_retz (z := true) rfl rfl ?_
      refine sK_i (pc' := 11) rfl ?_
      refine x_if (a' := 18) (pc' := 14) (z := false) rfl rfl rfl (by decide) (fun h => by cases h) (fun _ => ?_)
      refine x_iconst (pc' := 15) rfl rfl ?_
      refine x_goto (pc' := 19) rfl rfl ?_
      refine x_istore (pc' := 21) (ls' := [_, _, _, _, _, _]) rfl rfl rfl rfl ?_
      refine x_iload (pc' := 23) rfl rfl rfl ?_
      refine x_if (a' := 30) (pc' := 26) (z := true) rfl rfl rfl (by decide) (fun _ => ?_) (fun h => by cases h)
      refine x_iload_n (pc' := 31) rfl rfl rfl ?_
      refine x_if (a' := 38) (pc' := 34) (z := false) rfl rfl rfl (by decide) (fun h => by cases h) (fun _ => ?_)
      refine x_iconst (pc' := 35) rfl rfl ?_
      refine x_goto (pc' := 57) rfl rfl ?_
      refine x_reti rfl rfl ?_
      refine sK_i (pc' := 79) rfl ?_
      refine x_cv (ls0 := [_, _]) (rest := []) rfl rfl rfl rfl rfl ?_
      refine x_aload_n (pc' := 1) rfl rfl rfl rfl rfl ?_
      refine x_iload_n (pc' := 2) rfl rfl rfl ?_
      refine x_pI (pc' := 5) rfl rfl rfl ?_
      refine x_iload_n (pc' := 6) rfl rfl rfl ?_
      refine x_if (a' := 13) (pc' := 9) (z := true) rfl rfl rfl (by decide) (fun _ => ?_) (fun h => by cases h)
      refine x_iconst (pc' := 14) rfl rfl ?_
      refine x_retz (z := false) rfl rfl ?_
      refine sK_i (pc' := 82) rfl ?_
      refine x_if (a' := 102) (pc' := 85) (z := true) rfl rfl rfl (by decide) (fun _ => ?_) (fun h => by cases h)
      refine x_iconst (pc' := 103) rfl rfl ?_
      refine x_reti rfl rfl ?_
      exact k0 q4 (of_decide_eq_false q8)
    · refine x_aload_n (pc' := 52) rfl rfl rfl rfl rfl ?_
      refine x_gI (pc' := 55) (x := (io n)) rfl rfl rfl (gFn hM (Fr.refl _) hR) ?_
      refine x_sipush (pc' := 58) rfl rfl ?_
      refine x_icmp_n (a' := 65) (pc' := 61) (z := decide (n < 200)) rfl rfl rfl (ic_gen (p := n) (q := 200) (gn31 hR) (by decide)) (fun q19 => ?_) (fun q19 => ?_)
      · refine x_iconst (pc' := 66) rfl rfl ?_
        refine x_istore (pc' := 68) (ls' := [_, _, _, _, _, _, _, _]) rfl rfl rfl rfl ?_
        refine x_aload_n (pc' := 69) rfl rfl rfl rfl rfl ?_
        refine x_aload_n (pc' := 70) rfl rfl rfl rfl rfl ?_
        refine x_iload_n (pc' := 71) rfl rfl rfl ?_
        refine x_iload_n (pc' := 72) rfl rfl rfl ?_
        refine x_iload (pc' := 74) rfl rfl rfl ?_
        refine x_iload (pc' := 76) rfl rfl rfl ?_
        refine x_cv (ls0 := [_, _, _, _, _, sJk]) (rest := [_]) rfl rfl rfl rfl rfl ?_
        refine x_iload_n (pc' := 1) rfl rfl rfl ?_
        refine x_cs (ls0 := [_]) (rest := []) rfl rfl rfl rfl ?_
        refine x_iload_n (pc' := 1) rfl rfl rfl ?_
        refine x_iconst (pc' := 2) rfl rfl ?_
        refine x_iconst (pc' := 3) rfl rfl ?_
        refine x_cs (ls0 := [_, _, _]) (rest := []) rfl rfl rfl rfl ?_
        refine x_iload_n (pc' := 1) rfl rfl rfl ?_
        refine x_iload_n (pc' := 2) rfl rfl rfl ?_
        refine x_icmp (a' := 14) (pc' := 5) (z := decide (m < 0)) rfl rfl rfl (ic_lt (p := m) (q := 0) (gm31 hm) (by decide)) (fun h => absurd (of_decide_eq_true h) (by first | decide | omega | simp)) (fun _ => ?_)
        refine x_iload_n (pc' := 6) rfl rfl rfl ?_
        refine x_iload_n (pc' := 7) rfl rfl rfl ?_
        refine x_icmp (a' := 14) (pc' := 10) (z := decide (5 < m)) rfl rfl rfl (ic_gt (p := m) (q := 5) (gm31 hm) (by decide)) (fun h => absurd (of_decide_eq_true h) (show ¬ 5 < m by omega)) (fun _ => ?_)
        refine x_iconst (pc' := 11) rfl rfl ?_
        refine x_goto (pc' := 15) rfl rfl ?_
        refine x_retz (z := true) rfl rfl ?_
        refine sK_i (pc' := 6) rfl ?_
        refine x_retz (z := true) rfl rfl ?_
        refine sK_i (pc' := 4) rfl ?_
        refine x_if (a' := 18) (pc' := 7) (z := false) rfl rfl rfl (by decide) (fun h => by cases h) (fun _ => ?_)
        refine x_iload_n (pc' := 8) rfl rfl rfl ?_
        refine x_cs (ls0 := [_]) (rest := []) rfl rfl rfl rfl ?_
        refine x_iload_n (pc' := 1) rfl rfl rfl ?_
        refine x_iconst (pc' := 2) rfl rfl ?_
        refine x_iconst (pc' := 3) rfl rfl ?_
        refine x_cs (ls0 := [_, _, _]) (rest := []) rfl rfl rfl rfl ?_
        refine x_iload_n (pc' := 1) rfl rfl rfl ?_
        refine x_iload_n (pc' := 2) rfl rfl rfl ?_
        refine x_icmp (a' := 14) (pc' := 5) (z := decide (b < 0)) rfl rfl rfl (ic_lt (p := b) (q := 0) (gb31 hb) (by decide)) (fun h => absurd (of_decide_eq_true h) (by first | decide | omega | simp)) (fun _ => ?_)
        refine x_iload_n (pc' := 6) rfl rfl rfl ?_
        refine x_iload_n (pc' := 7) rfl rfl rfl ?_
        refine x_icmp (a' := 14) (pc' := 10) (z := decide (4 < b)) rfl rfl rfl (ic_gt (p := b) (q := 4) (gb31 hb) (by decide)) (fun h => absurd (of_decide_eq_true h) (show ¬ 4 < b by omega)) (fun _ => ?_)
        refine x_iconst (pc' := 11) rfl rfl ?_
        refine x_goto (pc' := 15) rfl rfl ?_
        refine x_retz (z := true) rfl rfl ?_
        refine sK_i (pc' := 6) rfl ?_
        refine x_retz (z := true) rfl rfl ?_
        refine sK_i (pc' := 11) rfl ?_
        refine x_if (a' := 18) (pc' := 14) (z := false) rfl rfl rfl (by decide) (fun h => by cases h) (fun _ => ?_)
        refine x_iconst (pc' := 15) rfl rfl ?_
        refine x_goto (pc' := 19) rfl rfl ?_
        refine x_istore (pc' := 21) (ls' := [_, _, _, _, _, _]) rfl rfl rfl rfl ?_
        refine x_iload (pc' := 23) rfl rfl rfl ?_
        refine x_if (a' := 30) (pc' := 26) (z := true) rfl rfl rfl (by decide) (fun _ => ?_) (fun h => by cases h)
        refine x_iload_n (pc' := 31) rfl rfl rfl ?_
        refine x_if (a' := 38) (pc' := 34) (z := false) rfl rfl rfl (by decide) (fun h => by cases h) (fun _ => ?_)
        refine x_iconst (pc' := 35) rfl rfl ?_
        refine x_goto (pc' := 57) rfl rfl ?_
        refine x_reti rfl rfl ?_
        refine sK_i (pc' := 79) rfl ?_
        refine x_cv (ls0 := [_, _]) (rest := []) rfl rfl rfl rfl rfl ?_
        refine x_aload_n (pc' := 1) rfl rfl rfl rfl rfl ?_
        refine x_iload_n (pc' := 2) rfl rfl rfl ?_
        refine x_pI (pc' := 5) rfl rfl rfl ?_
        refine x_iload_n (pc' := 6) rfl rfl rfl ?_
        refine x_if (a' := 13) (pc' := 9) (z := true) rfl rfl rfl (by decide) (fun _ => ?_) (fun h => by cases h)
        refine x_iconst (pc' := 14) rfl rfl ?_
        refine x_retz (z := false) rfl rfl ?_
        refine sK_i (pc' := 82) rfl ?_
        refine x_if (a' := 102) (pc' := 85) (z := true) rfl rfl rfl (by decide) (fun _ => ?_) (fun h => by cases h)
        refine x_iconst (pc' := 103) rfl rfl ?_
        refine x_reti rfl rfl ?_
        exact k1 q4 (of_decide_eq_true q8) (of_decide_eq_false q19)
      · refine x_iconst (pc' := 62) rfl rfl ?_
        refine x_goto (pc' := 66) rfl rfl ?_
        refine x_istore (pc' := 68) (ls' := [_, _, _, _, _, _, _, _]) rfl rfl rfl rfl ?_
        refine x_aload_n (pc' := 69) rfl rfl rfl rfl rfl ?_
        refine x_aload_n (pc' := 70) rfl rfl rfl rfl rfl ?_
        refine x_iload_n (pc' := 71) rfl rfl rfl ?_
        refine x_iload_n (pc' := 72) rfl rfl rfl ?_
        refine x_iload (pc' := 74) rfl rfl rfl ?_
        refine x_iload (pc' := 76) rfl rfl rfl ?_
        refine x_cv (ls0 := [_, _, _, _, _, sJk]) (rest := [_]) rfl rfl rfl rfl rfl ?_
        refine x_iload_n (pc' := 1) rfl rfl rfl ?_
        refine x_cs (ls0 := [_]) (rest := []) rfl rfl rfl rfl ?_
        refine x_iload_n (pc' := 1) rfl rfl rfl ?_
        refine x_iconst (pc' := 2) rfl rfl ?_
        refine x_iconst (pc' := 3) rfl rfl ?_
        refine x_cs (ls0 := [_, _, _]) (rest := []) rfl rfl rfl rfl ?_
        refine x_iload_n (pc' := 1) rfl rfl rfl ?_
        refine x_iload_n (pc' := 2) rfl rfl rfl ?_
        refine x_icmp (a' := 14) (pc' := 5) (z := decide (m < 0)) rfl rfl rfl (ic_lt (p := m) (q := 0) (gm31 hm) (by decide)) (fun h => absurd (of_decide_eq_true h) (by first | decide | omega | simp)) (fun _ => ?_)
        refine x_iload_n (pc' := 6) rfl rfl rfl ?_
        refine x_iload_n (pc' := 7) rfl rfl rfl ?_
        refine x_icmp (a' := 14) (pc' := 10) (z := decide (5 < m)) rfl rfl rfl (ic_gt (p := m) (q := 5) (gm31 hm) (by decide)) (fun h => absurd (of_decide_eq_true h) (show ¬ 5 < m by omega)) (fun _ => ?_)
        refine x_iconst (pc' := 11) rfl rfl ?_
        refine x_goto (pc' := 15) rfl rfl ?_
        refine x_retz (z := true) rfl rfl ?_
        refine sK_i (pc' := 6) rfl ?_
        refine x_retz (z := true) rfl rfl ?_
        refine sK_i (pc' := 4) rfl ?_
        refine x_if (a' := 18) (pc' := 7) (z := false) rfl rfl rfl (by decide) (fun h => by cases h) (fun _ => ?_)
        refine x_iload_n (pc' := 8) rfl rfl rfl ?_
        refine x_cs (ls0 := [_]) (rest := []) rfl rfl rfl rfl ?_
        refine x_iload_n (pc' := 1) rfl rfl rfl ?_
        refine x_iconst (pc' := 2) rfl rfl ?_
        refine x_iconst (pc' := 3) rfl rfl ?_
        refine x_cs (ls0 := [_, _, _]) (rest := []) rfl rfl rfl rfl ?_
        refine x_iload_n (pc' := 1) rfl rfl rfl ?_
        refine x_iload_n (pc' := 2) rfl rfl rfl ?_
        refine x_icmp (a' := 14) (pc' := 5) (z := decide (b < 0)) rfl rfl rfl (ic_lt (p := b) (q := 0) (gb31 hb) (by decide)) (fun h => absurd (of_decide_eq_true h) (by first | decide | omega | simp)) (fun _ => ?_)
        refine x_iload_n (pc' := 6) rfl rfl rfl ?_
        refine x_iload_n (pc' := 7) rfl rfl rfl ?_
        refine x_icmp (a' := 14) (pc' := 10) (z := decide (4 < b)) rfl rfl rfl (ic_gt (p := b) (q := 4) (gb31 hb) (by decide)) (fun h => absurd (of_decide_eq_true h) (show ¬ 4 < b by omega)) (fun _ => ?_)
        refine x_iconst (pc' := 11) rfl rfl ?_
        refine x_goto (pc' := 15) rfl rfl ?_
        refine x_retz (z := true) rfl rfl ?_
        refine sK_i (pc' := 6) rfl ?_
        refine x_retz (z := true) rfl rfl ?_
        refine sK_i (pc' := 11) rfl ?_
        refine x_if (a' := 18) (pc' := 14) (z := false) rfl rfl rfl (by decide) (fun h => by cases h) (fun _ => ?_)
        refine x_iconst (pc' := 15) rfl rfl ?_
        refine x_goto (pc' := 19) rfl rfl ?_
        refine x_istore (pc' := 21) (ls' := [_, _, _, _, _, _]) rfl rfl rfl rfl ?_
        refine x_iload (pc' := 23) rfl rfl rfl ?_
        refine x_if (a' := 30) (pc' := 26) (z := true) rfl rfl rfl (by decide) (fun _ => ?_) (fun h => by cases h)
        refine x_iload_n (pc' := 31) rfl rfl rfl ?_
        refine x_if (a' := 38) (pc' := 34) (z := false) rfl rfl rfl (by decide) (fun h => by cases h) (fun _ => ?_)
        refine x_iconst (pc' := 35) rfl rfl ?_
        refine x_goto (pc' := 57) rfl rfl ?_
        refine x_reti rfl rfl ?_
        refine sK_i (pc' := 79) rfl ?_
        refine x_cv (ls0 := [_, _]) (rest := []) rfl rfl rfl rfl rfl ?_
        refine x_aload_n (pc' := 1) rfl rfl rfl rfl rfl ?_
        refine x_iload_n (pc' := 2) rfl rfl rfl ?_
        refine x_pI (pc' := 5) rfl rfl rfl ?_
        refine x_iload_n (pc' := 6) rfl rfl rfl ?_
        refine x_if (a' := 13) (pc' := 9) (z := true) rfl rfl rfl (by decide) (fun _ => ?_) (fun h => by cases h)
        refine x_iconst (pc' := 14) rfl rfl ?_
        refine x_retz (z := false) rfl rfl ?_
        refine sK_i (pc' := 82) rfl ?_
        refine x_if (a' := 102) (pc' := 85) (z := true) rfl rfl rfl (by decide) (fun _ => ?_) (fun h => by cases h)
        refine x_iconst (pc' := 103) rfl rfl ?_
        refine x_reti rfl rfl ?_
        exact k2 q4 (of_decide_eq_true q8) (of_decide_eq_true q19)
  · refine x_iload (pc' := 18) rfl rfl rfl ?_
    refine x_iconst (pc' := 19) rfl rfl ?_
    refine x_bipush (pc' := 21) rfl rfl ?_
    refine x_cs (ls0 := [_, _, _]) (rest := []) rfl rfl rfl rfl ?_
    refine r145_g ?_
    refine sK_i (pc' := 24) rfl ?_
    refine x_ifeq_z (a' := 31) (pc' := 27) (z := (inB a 1 100)) rfl rfl rfl (fun q40 => ?_) (fun q40 => ?_)
    · refine x_iconst (pc' := 32) rfl rfl ?_
      refine x_istore (pc' := 34) (ls' := [_, _, _, _, _, _, _, _]) rfl rfl rfl rfl ?_
      refine x_iload_n (pc' := 35) rfl rfl rfl ?_
      refine x_cs (ls0 := [_]) (rest := []) rfl rfl rfl rfl ?_
      refine x_iload_n (pc' := 1) rfl rfl rfl ?_
      refine x_iconst (pc' := 2) rfl rfl ?_
      refine x_iconst (pc' := 3) rfl rfl ?_
      refine x_cs (ls0 := [_, _, _]) (rest := []) rfl rfl rfl rfl ?_
      refine x_iload_n (pc' := 1) rfl rfl rfl ?_
      refine x_iload_n (pc' := 2) rfl rfl rfl ?_
      refine x_icmp (a' := 14) (pc' := 5) (z := decide (b < 0)) rfl rfl rfl (ic_lt (p := b) (q := 0) (gb31 hb) (by decide)) (fun h => absurd (of_decide_eq_true h) (by first | decide | omega | simp)) (fun _ => ?_)
      refine x_iload_n (pc' := 6) rfl rfl rfl ?_
      refine x_iload_n (pc' := 7) rfl rfl rfl ?_
      refine x_icmp (a' := 14) (pc' := 10) (z := decide (4 < b)) rfl rfl rfl (ic_gt (p := b) (q := 4) (gb31 hb) (by decide)) (fun h => absurd (of_decide_eq_true h) (show ¬ 4 < b by omega)) (fun _ => ?_)
      refine x_iconst (pc' := 11) rfl rfl ?_
      refine x_goto (pc' := 15) rfl rfl ?_
      refine x_retz (z := true) rfl rfl ?_
      refine sK_i (pc' := 6) rfl ?_
      refine x_retz (z := true) rfl rfl ?_
      refine sK_i (pc' := 38) rfl ?_
      refine x_if (a' := 65) (pc' := 41) (z := false) rfl rfl rfl (by decide) (fun h => by cases h) (fun _ => ?_)
      refine x_aload_n (pc' := 42) rfl rfl rfl rfl rfl ?_
      refine x_gR (pc' := 45) (r := (some 0)) rfl rfl rfl (kR_769_0 hc) ?_
      refine x_iload_n (pc' := 46) rfl rfl rfl ?_
      refine x_iald (pc' := 47) (N := 5) (x := (mA M 0 b)) rfl rfl rfl (kN_21_0 hc) (io_in (p := b) (N := 5) hb (by decide)) (Eq.trans (congrArg (sA t 21 0) (nn_io (p := b) (Nat.lt_trans hb (by decide)))) (gA hM rfl)) ?_
      refine x_iconst (pc' := 48) rfl rfl ?_
      refine x_icmp_n (a' := 65) (pc' := 51) (z := decide ((mA M 0 b) = 2)) rfl rfl rfl (ik_ne _ _) (fun q44 => ?_) (fun q44 => ?_)
      · refine x_iconst (pc' := 66) rfl rfl ?_
        refine x_istore (pc' := 68) (ls' := [_, _, _, _, _, _, _, _]) rfl rfl rfl rfl ?_
        refine x_aload_n (pc' := 69) rfl rfl rfl rfl rfl ?_
        refine x_aload_n (pc' := 70) rfl rfl rfl rfl rfl ?_
        refine x_iload_n (pc' := 71) rfl rfl rfl ?_
        refine x_iload_n (pc' := 72) rfl rfl rfl ?_
        refine x_iload (pc' := 74) rfl rfl rfl ?_
        refine x_iload (pc' := 76) rfl rfl rfl ?_
        refine x_cv (ls0 := [_, _, _, _, _, sJk]) (rest := [_]) rfl rfl rfl rfl rfl ?_
        refine x_iload_n (pc' := 1) rfl rfl rfl ?_
        refine x_cs (ls0 := [_]) (rest := []) rfl rfl rfl rfl ?_
        refine x_iload_n (pc' := 1) rfl rfl rfl ?_
        refine x_iconst (pc' := 2) rfl rfl ?_
        refine x_iconst (pc' := 3) rfl rfl ?_
        refine x_cs (ls0 := [_, _, _]) (rest := []) rfl rfl rfl rfl ?_
        refine x_iload_n (pc' := 1) rfl rfl rfl ?_
        refine x_iload_n (pc' := 2) rfl rfl rfl ?_
        refine x_icmp (a' := 14) (pc' := 5) (z := decide (m < 0)) rfl rfl rfl (ic_lt (p := m) (q := 0) (gm31 hm) (by decide)) (fun h => absurd (of_decide_eq_true h) (by first | decide | omega | simp)) (fun _ => ?_)
        refine x_iload_n (pc' := 6) rfl rfl rfl ?_
        refine x_iload_n (pc' := 7) rfl rfl rfl ?_
        refine x_icmp (a' := 14) (pc' := 10) (z := decide (5 < m)) rfl rfl rfl (ic_gt (p := m) (q := 5) (gm31 hm) (by decide)) (fun h => absurd (of_decide_eq_true h) (show ¬ 5 < m by omega)) (fun _ => ?_)
        refine x_iconst (pc' := 11) rfl rfl ?_
        refine x_goto (pc' := 15) rfl rfl ?_
        refine x_retz (z := true) rfl rfl ?_
        refine sK_i (pc' := 6) rfl ?_
        refine x_retz (z := true) rfl rfl ?_
        refine sK_i (pc' := 4) rfl ?_
        refine x_if (a' := 18) (pc' := 7) (z := false) rfl rfl rfl (by decide) (fun h => by cases h) (fun _ => ?_)
        refine x_iload_n (pc' := 8) rfl rfl rfl ?_
        refine x_cs (ls0 := [_]) (rest := []) rfl rfl rfl rfl ?_
        refine x_iload_n (pc' := 1) rfl rfl rfl ?_
        refine x_iconst (pc' := 2) rfl rfl ?_
        refine x_iconst (pc' := 3) rfl rfl ?_
        refine x_cs (ls0 := [_, _, _]) (rest := []) rfl rfl rfl rfl ?_
        refine x_iload_n (pc' := 1) rfl rfl rfl ?_
        refine x_iload_n (pc' := 2) rfl rfl rfl ?_
        refine x_icmp (a' := 14) (pc' := 5) (z := decide (b < 0)) rfl rfl rfl (ic_lt (p := b) (q := 0) (gb31 hb) (by decide)) (fun h => absurd (of_decide_eq_true h) (by first | decide | omega | simp)) (fun _ => ?_)
        refine x_iload_n (pc' := 6) rfl rfl rfl ?_
        refine x_iload_n (pc' := 7) rfl rfl rfl ?_
        refine x_icmp (a' := 14) (pc' := 10) (z := decide (4 < b)) rfl rfl rfl (ic_gt (p := b) (q := 4) (gb31 hb) (by decide)) (fun h => absurd (of_decide_eq_true h) (show ¬ 4 < b by omega)) (fun _ => ?_)
        refine x_iconst (pc' := 11) rfl rfl ?_
        refine x_goto (pc' := 15) rfl rfl ?_
        refine x_retz (z := true) rfl rfl ?_
        refine sK_i (pc' := 6) rfl ?_
        refine x_retz (z := true) rfl rfl ?_
        refine sK_i (pc' := 11) rfl ?_
        refine x_if (a' := 18) (pc' := 14) (z := false) rfl rfl rfl (by decide) (fun h => by cases h) (fun _ => ?_)
        refine x_iconst (pc' := 15) rfl rfl ?_
        refine x_goto (pc' := 19) rfl rfl ?_
        refine x_istore (pc' := 21) (ls' := [_, _, _, _, _, _]) rfl rfl rfl rfl ?_
        refine x_iload (pc' := 23) rfl rfl rfl ?_
        refine x_if (a' := 30) (pc' := 26) (z := true) rfl rfl rfl (by decide) (fun _ => ?_) (fun h => by cases h)
        refine x_iload_n (pc' := 31) rfl rfl rfl ?_
        refine x_if (a' := 38) (pc' := 34) (z := false) rfl rfl rfl (by decide) (fun h => by cases h) (fun _ => ?_)
        refine x_iconst (pc' := 35) rfl rfl ?_
        refine x_goto (pc' := 57) rfl rfl ?_
        refine x_reti rfl rfl ?_
        refine sK_i (pc' := 79) rfl ?_
        refine x_cv (ls0 := [_, _]) (rest := []) rfl rfl rfl rfl rfl ?_
        refine x_aload_n (pc' := 1) rfl rfl rfl rfl rfl ?_
        refine x_iload_n (pc' := 2) rfl rfl rfl ?_
        refine x_pI (pc' := 5) rfl rfl rfl ?_
        refine x_iload_n (pc' := 6) rfl rfl rfl ?_
        refine x_if (a' := 13) (pc' := 9) (z := true) rfl rfl rfl (by decide) (fun _ => ?_) (fun h => by cases h)
        refine x_iconst (pc' := 14) rfl rfl ?_
        refine x_retz (z := false) rfl rfl ?_
        refine sK_i (pc' := 82) rfl ?_
        refine x_if (a' := 102) (pc' := 85) (z := true) rfl rfl rfl (by decide) (fun _ => ?_) (fun h => by cases h)
        refine x_iconst (pc' := 103) rfl rfl ?_
        refine x_reti rfl rfl ?_
        exact k3 q4 q40 (of_decide_eq_false q44)
      · refine x_aload_n (pc' := 52) rfl rfl rfl rfl rfl ?_
        refine x_gI (pc' := 55) (x := (io n)) rfl rfl rfl (gFn hM (Fr.refl _) hR) ?_
        refine x_sipush (pc' := 58) rfl rfl ?_
        refine x_icmp_n (a' := 65) (pc' := 61) (z := decide (n < 200)) rfl rfl rfl (ic_gen (p := n) (q := 200) (gn31 hR) (by decide)) (fun q55 => ?_) (fun q55 => ?_)
        · refine x_iconst (pc' := 66) rfl rfl ?_
          refine x_istore (pc' := 68) (ls' := [_, _, _, _, _, _, _, _]) rfl rfl rfl rfl ?_
          refine x_aload_n (pc' := 69) rfl rfl rfl rfl rfl ?_
          refine x_aload_n (pc' := 70) rfl rfl rfl rfl rfl ?_
          refine x_iload_n (pc' := 71) rfl rfl rfl ?_
          refine x_iload_n (pc' := 72) rfl rfl rfl ?_
          refine x_iload (pc' := 74) rfl rfl rfl ?_
          refine x_iload (pc' := 76) rfl rfl rfl ?_
          refine x_cv (ls0 := [_, _, _, _, _, sJk]) (rest := [_]) rfl rfl rfl rfl rfl ?_
          refine x_iload_n (pc' := 1) rfl rfl rfl ?_
          refine x_cs (ls0 := [_]) (rest := []) rfl rfl rfl rfl ?_
          refine x_iload_n (pc' := 1) rfl rfl rfl ?_
          refine x_iconst (pc' := 2) rfl rfl ?_
          refine x_iconst (pc' := 3) rfl rfl ?_
          refine x_cs (ls0 := [_, _, _]) (rest := []) rfl rfl rfl rfl ?_
          refine x_iload_n (pc' := 1) rfl rfl rfl ?_
          refine x_iload_n (pc' := 2) rfl rfl rfl ?_
          refine x_icmp (a' := 14) (pc' := 5) (z := decide (m < 0)) rfl rfl rfl (ic_lt (p := m) (q := 0) (gm31 hm) (by decide)) (fun h => absurd (of_decide_eq_true h) (by first | decide | omega | simp)) (fun _ => ?_)
          refine x_iload_n (pc' := 6) rfl rfl rfl ?_
          refine x_iload_n (pc' := 7) rfl rfl rfl ?_
          refine x_icmp (a' := 14) (pc' := 10) (z := decide (5 < m)) rfl rfl rfl (ic_gt (p := m) (q := 5) (gm31 hm) (by decide)) (fun h => absurd (of_decide_eq_true h) (show ¬ 5 < m by omega)) (fun _ => ?_)
          refine x_iconst (pc' := 11) rfl rfl ?_
          refine x_goto (pc' := 15) rfl rfl ?_
          refine x_retz (z := true) rfl rfl ?_
          refine sK_i (pc' := 6) rfl ?_
          refine x_retz (z := true) rfl rfl ?_
          refine sK_i (pc' := 4) rfl ?_
          refine x_if (a' := 18) (pc' := 7) (z := false) rfl rfl rfl (by decide) (fun h => by cases h) (fun _ => ?_)
          refine x_iload_n (pc' := 8) rfl rfl rfl ?_
          refine x_cs (ls0 := [_]) (rest := []) rfl rfl rfl rfl ?_
          refine x_iload_n (pc' := 1) rfl rfl rfl ?_
          refine x_iconst (pc' := 2) rfl rfl ?_
          refine x_iconst (pc' := 3) rfl rfl ?_
          refine x_cs (ls0 := [_, _, _]) (rest := []) rfl rfl rfl rfl ?_
          refine x_iload_n (pc' := 1) rfl rfl rfl ?_
          refine x_iload_n (pc' := 2) rfl rfl rfl ?_
          refine x_icmp (a' := 14) (pc' := 5) (z := decide (b < 0)) rfl rfl rfl (ic_lt (p := b) (q := 0) (gb31 hb) (by decide)) (fun h => absurd (of_decide_eq_true h) (by first | decide | omega | simp)) (fun _ => ?_)
          refine x_iload_n (pc' := 6) rfl rfl rfl ?_
          refine x_iload_n (pc' := 7) rfl rfl rfl ?_
          refine x_icmp (a' := 14) (pc' := 10) (z := decide (4 < b)) rfl rfl rfl (ic_gt (p := b) (q := 4) (gb31 hb) (by decide)) (fun h => absurd (of_decide_eq_true h) (show ¬ 4 < b by omega)) (fun _ => ?_)
          refine x_iconst (pc' := 11) rfl rfl ?_
          refine x_goto (pc' := 15) rfl rfl ?_
          refine x_retz (z := true) rfl rfl ?_
          refine sK_i (pc' := 6) rfl ?_
          refine x_retz (z := true) rfl rfl ?_
          refine sK_i (pc' := 11) rfl ?_
          refine x_if (a' := 18) (pc' := 14) (z := false) rfl rfl rfl (by decide) (fun h => by cases h) (fun _ => ?_)
          refine x_iconst (pc' := 15) rfl rfl ?_
          refine x_goto (pc' := 19) rfl rfl ?_
          refine x_istore (pc' := 21) (ls' := [_, _, _, _, _, _]) rfl rfl rfl rfl ?_
          refine x_iload (pc' := 23) rfl rfl rfl ?_
          refine x_if (a' := 30) (pc' := 26) (z := true) rfl rfl rfl (by decide) (fun _ => ?_) (fun h => by cases h)
          refine x_iload_n (pc' := 31) rfl rfl rfl ?_
          refine x_if (a' := 38) (pc' := 34) (z := false) rfl rfl rfl (by decide) (fun h => by cases h) (fun _ => ?_)
          refine x_iconst (pc' := 35) rfl rfl ?_
          refine x_goto (pc' := 57) rfl rfl ?_
          refine x_reti rfl rfl ?_
          refine sK_i (pc' := 79) rfl ?_
          refine x_cv (ls0 := [_, _]) (rest := []) rfl rfl rfl rfl rfl ?_
          refine x_aload_n (pc' := 1) rfl rfl rfl rfl rfl ?_
          refine x_iload_n (pc' := 2) rfl rfl rfl ?_
          refine x_pI (pc' := 5) rfl rfl rfl ?_
          refine x_iload_n (pc' := 6) rfl rfl rfl ?_
          refine x_if (a' := 13) (pc' := 9) (z := true) rfl rfl rfl (by decide) (fun _ => ?_) (fun h => by cases h)
          refine x_iconst (pc' := 14) rfl rfl ?_
          refine x_retz (z := false) rfl rfl ?_
          refine sK_i (pc' := 82) rfl ?_
          refine x_if (a' := 102) (pc' := 85) (z := true) rfl rfl rfl (by decide) (fun _ => ?_) (fun h => by cases h)
          refine x_iconst (pc' := 103) rfl rfl ?_
          refine x_reti rfl rfl ?_
          exact k4 q4 q40 (of_decide_eq_true q44) (of_decide_eq_false q55)
        · refine x_iconst (pc' := 62) rfl rfl ?_
          refine x_goto (pc' := 66) rfl rfl ?_
          refine x_istore (pc' := 68) (ls' := [_, _, _, _, _, _, _, _]) rfl rfl rfl rfl ?_
          refine x_aload_n (pc' := 69) rfl rfl rfl rfl rfl ?_
          refine x_aload_n (pc' := 70) rfl rfl rfl rfl rfl ?_
          refine x_iload_n (pc' := 71) rfl rfl rfl ?_
          refine x_iload_n (pc' := 72) rfl rfl rfl ?_
          refine x_iload (pc' := 74) rfl rfl rfl ?_
          refine x_iload (pc' := 76) rfl rfl rfl ?_
          refine x_cv (ls0 := [_, _, _, _, _, sJk]) (rest := [_]) rfl rfl rfl rfl rfl ?_
          refine x_iload_n (pc' := 1) rfl rfl rfl ?_
          refine x_cs (ls0 := [_]) (rest := []) rfl rfl rfl rfl ?_
          refine x_iload_n (pc' := 1) rfl rfl rfl ?_
          refine x_iconst (pc' := 2) rfl rfl ?_
          refine x_iconst (pc' := 3) rfl rfl ?_
          refine x_cs (ls0 := [_, _, _]) (rest := []) rfl rfl rfl rfl ?_
          refine x_iload_n (pc' := 1) rfl rfl rfl ?_
          refine x_iload_n (pc' := 2) rfl rfl rfl ?_
          refine x_icmp (a' := 14) (pc' := 5) (z := decide (m < 0)) rfl rfl rfl (ic_lt (p := m) (q := 0) (gm31 hm) (by decide)) (fun h => absurd (of_decide_eq_true h) (by first | decide | omega | simp)) (fun _ => ?_)
          refine x_iload_n (pc' := 6) rfl rfl rfl ?_
          refine x_iload_n (pc' := 7) rfl rfl rfl ?_
          refine x_icmp (a' := 14) (pc' := 10) (z := decide (5 < m)) rfl rfl rfl (ic_gt (p := m) (q := 5) (gm31 hm) (by decide)) (fun h => absurd (of_decide_eq_true h) (show ¬ 5 < m by omega)) (fun _ => ?_)
          refine x_iconst (pc' := 11) rfl rfl ?_
          refine x_goto (pc' := 15) rfl rfl ?_
          refine x_retz (z := true) rfl rfl ?_
          refine sK_i (pc' := 6) rfl ?_
          refine x_retz (z := true) rfl rfl ?_
          refine sK_i (pc' := 4) rfl ?_
          refine x_if (a' := 18) (pc' := 7) (z := false) rfl rfl rfl (by decide) (fun h => by cases h) (fun _ => ?_)
          refine x_iload_n (pc' := 8) rfl rfl rfl ?_
          refine x_cs (ls0 := [_]) (rest := []) rfl rfl rfl rfl ?_
          refine x_iload_n (pc' := 1) rfl rfl rfl ?_
          refine x_iconst (pc' := 2) rfl rfl ?_
          refine x_iconst (pc' := 3) rfl rfl ?_
          refine x_cs (ls0 := [_, _, _]) (rest := []) rfl rfl rfl rfl ?_
          refine x_iload_n (pc' := 1) rfl rfl rfl ?_
          refine x_iload_n (pc' := 2) rfl rfl rfl ?_
          refine x_icmp (a' := 14) (pc' := 5) (z := decide (b < 0)) rfl rfl rfl (ic_lt (p := b) (q := 0) (gb31 hb) (by decide)) (fun h => absurd (of_decide_eq_true h) (by first | decide | omega | simp)) (fun _ => ?_)
          refine x_iload_n (pc' := 6) rfl rfl rfl ?_
          refine x_iload_n (pc' := 7) rfl rfl rfl ?_
          refine x_icmp (a' := 14) (pc' := 10) (z := decide (4 < b)) rfl rfl rfl (ic_gt (p := b) (q := 4) (gb31 hb) (by decide)) (fun h => absurd (of_decide_eq_true h) (show ¬ 4 < b by omega)) (fun _ => ?_)
          refine x_iconst (pc' := 11) rfl rfl ?_
          refine x_goto (pc' := 15) rfl rfl ?_
          refine x_retz (z := true) rfl rfl ?_
          refine sK_i (pc' := 6) rfl ?_
          refine x_retz (z := true) rfl rfl ?_
          refine sK_i (pc' := 11) rfl ?_
          refine x_if (a' := 18) (pc' := 14) (z := false) rfl rfl rfl (by decide) (fun h => by cases h) (fun _ => ?_)
          refine x_iconst (pc' := 15) rfl rfl ?_
          refine x_goto (pc' := 19) rfl rfl ?_
          refine x_istore (pc' := 21) (ls' := [_, _, _, _, _, _]) rfl rfl rfl rfl ?_
          refine x_iload (pc' := 23) rfl rfl rfl ?_
          refine x_if (a' := 30) (pc' := 26) (z := true) rfl rfl rfl (by decide) (fun _ => ?_) (fun h => by cases h)
          refine x_iload_n (pc' := 31) rfl rfl rfl ?_
          refine x_if (a' := 38) (pc' := 34) (z := false) rfl rfl rfl (by decide) (fun h => by cases h) (fun _ => ?_)
          refine x_iconst (pc' := 35) rfl rfl ?_
          refine x_goto (pc' := 57) rfl rfl ?_
          refine x_reti rfl rfl ?_
          refine sK_i (pc' := 79) rfl ?_
          refine x_cv (ls0 := [_, _]) (rest := []) rfl rfl rfl rfl rfl ?_
          refine x_aload_n (pc' := 1) rfl rfl rfl rfl rfl ?_
          refine x_iload_n (pc' := 2) rfl rfl rfl ?_
          refine x_pI (pc' := 5) rfl rfl rfl ?_
          refine x_iload_n (pc' := 6) rfl rfl rfl ?_
          refine x_if (a' := 13) (pc' := 9) (z := true) rfl rfl rfl (by decide) (fun _ => ?_) (fun h => by cases h)
          refine x_iconst (pc' := 14) rfl rfl ?_
          refine x_retz (z := false) rfl rfl ?_
          refine sK_i (pc' := 82) rfl ?_
          refine x_if (a' := 102) (pc' := 85) (z := true) rfl rfl rfl (by decide) (fun _ => ?_) (fun h => by cases h)
          refine x_iconst (pc' := 103) rfl rfl ?_
          refine x_reti rfl rfl ?_
          exact k5 q4 q40 (of_decide_eq_true q44) (of_decide_eq_true q55)
    · refine x_iconst (pc' := 28) rfl rfl ?_
      refine x_goto (pc' := 32) rfl rfl ?_
      refine x_istore (pc' := 34) (ls' := [_, _, _, _, _, _, _, _]) rfl rfl rfl rfl ?_
      refine x_iload_n (pc' := 35) rfl rfl rfl ?_
      refine x_cs (ls0 := [_]) (rest := []) rfl rfl rfl rfl ?_
      refine x_iload_n (pc' := 1) rfl rfl rfl ?_
      refine x_iconst (pc' := 2) rfl rfl ?_
      refine x_iconst (pc' := 3) rfl rfl ?_
      refine x_cs (ls0 := [_, _, _]) (rest := []) rfl rfl rfl rfl ?_
      refine x_iload_n (pc' := 1) rfl rfl rfl ?_
      refine x_iload_n (pc' := 2) rfl rfl rfl ?_
      refine x_icmp (a' := 14) (pc' := 5) (z := decide (b < 0)) rfl rfl rfl (ic_lt (p := b) (q := 0) (gb31 hb) (by decide)) (fun h => absurd (of_decide_eq_true h) (by first | decide | omega | simp)) (fun _ => ?_)
      refine x_iload_n (pc' := 6) rfl rfl rfl ?_
      refine x_iload_n (pc' := 7) rfl rfl rfl ?_
      refine x_icmp (a' := 14) (pc' := 10) (z := decide (4 < b)) rfl rfl rfl (ic_gt (p := b) (q := 4) (gb31 hb) (by decide)) (fun h => absurd (of_decide_eq_true h) (show ¬ 4 < b by omega)) (fun _ => ?_)
      refine x_iconst (pc' := 11) rfl rfl ?_
      refine x_goto (pc' := 15) rfl rfl ?_
      refine x_retz (z := true) rfl rfl ?_
      refine sK_i (pc' := 6) rfl ?_
      refine x_retz (z := true) rfl rfl ?_
      refine sK_i (pc' := 38) rfl ?_
      refine x_if (a' := 65) (pc' := 41) (z := false) rfl rfl rfl (by decide) (fun h => by cases h) (fun _ => ?_)
      refine x_aload_n (pc' := 42) rfl rfl rfl rfl rfl ?_
      refine x_gR (pc' := 45) (r := (some 0)) rfl rfl rfl (kR_769_0 hc) ?_
      refine x_iload_n (pc' := 46) rfl rfl rfl ?_
      refine x_iald (pc' := 47) (N := 5) (x := (mA M 0 b)) rfl rfl rfl (kN_21_0 hc) (io_in (p := b) (N := 5) hb (by decide)) (Eq.trans (congrArg (sA t 21 0) (nn_io (p := b) (Nat.lt_trans hb (by decide)))) (gA hM rfl)) ?_
      refine x_iconst (pc' := 48) rfl rfl ?_
      refine x_icmp_n (a' := 65) (pc' := 51) (z := decide ((mA M 0 b) = 2)) rfl rfl rfl (ik_ne _ _) (fun q79 => ?_) (fun q79 => ?_)
      · refine x_iconst (pc' := 66) rfl rfl ?_
        refine x_istore (pc' := 68) (ls' := [_, _, _, _, _, _, _, _]) rfl rfl rfl rfl ?_
        refine x_aload_n (pc' := 69) rfl rfl rfl rfl rfl ?_
        refine x_aload_n (pc' := 70) rfl rfl rfl rfl rfl ?_
        refine x_iload_n (pc' := 71) rfl rfl rfl ?_
        refine x_iload_n (pc' := 72) rfl rfl rfl ?_
        refine x_iload (pc' := 74) rfl rfl rfl ?_
        refine x_iload (pc' := 76) rfl rfl rfl ?_
        refine x_cv (ls0 := [_, _, _, _, _, sJk]) (rest := [_]) rfl rfl rfl rfl rfl ?_
        refine x_iload_n (pc' := 1) rfl rfl rfl ?_
        refine x_cs (ls0 := [_]) (rest := []) rfl rfl rfl rfl ?_
        refine x_iload_n (pc' := 1) rfl rfl rfl ?_
        refine x_iconst (pc' := 2) rfl rfl ?_
        refine x_iconst (pc' := 3) rfl rfl ?_
        refine x_cs (ls0 := [_, _, _]) (rest := []) rfl rfl rfl rfl ?_
        refine x_iload_n (pc' := 1) rfl rfl rfl ?_
        refine x_iload_n (pc' := 2) rfl rfl rfl ?_
        refine x_icmp (a' := 14) (pc' := 5) (z := decide (m < 0)) rfl rfl rfl (ic_lt (p := m) (q := 0) (gm31 hm) (by decide)) (fun h => absurd (of_decide_eq_true h) (by first | decide | omega | simp)) (fun _ => ?_)
        refine x_iload_n (pc' := 6) rfl rfl rfl ?_
        refine x_iload_n (pc' := 7) rfl rfl rfl ?_
        refine x_icmp (a' := 14) (pc' := 10) (z := decide (5 < m)) rfl rfl rfl (ic_gt (p := m) (q := 5) (gm31 hm) (by decide)) (fun h => absurd (of_decide_eq_true h) (show ¬ 5 < m by omega)) (fun _ => ?_)
        refine x_iconst (pc' := 11) rfl rfl ?_
        refine x_goto (pc' := 15) rfl rfl ?_
        refine x_retz (z := true) rfl rfl ?_
        refine sK_i (pc' := 6) rfl ?_
        refine x_retz (z := true) rfl rfl ?_
        refine sK_i (pc' := 4) rfl ?_
        refine x_if (a' := 18) (pc' := 7) (z := false) rfl rfl rfl (by decide) (fun h => by cases h) (fun _ => ?_)
        refine x_iload_n (pc' := 8) rfl rfl rfl ?_
        refine x_cs (ls0 := [_]) (rest := []) rfl rfl rfl rfl ?_
        refine x_iload_n (pc' := 1) rfl rfl rfl ?_
        refine x_iconst (pc' := 2) rfl rfl ?_
        refine x_iconst (pc' := 3) rfl rfl ?_
        refine x_cs (ls0 := [_, _, _]) (rest := []) rfl rfl rfl rfl ?_
        refine x_iload_n (pc' := 1) rfl rfl rfl ?_
        refine x_iload_n (pc' := 2) rfl rfl rfl ?_
        refine x_icmp (a' := 14) (pc' := 5) (z := decide (b < 0)) rfl rfl rfl (ic_lt (p := b) (q := 0) (gb31 hb) (by decide)) (fun h => absurd (of_decide_eq_true h) (by first | decide | omega | simp)) (fun _ => ?_)
        refine x_iload_n (pc' := 6) rfl rfl rfl ?_
        refine x_iload_n (pc' := 7) rfl rfl rfl ?_
        refine x_icmp (a' := 14) (pc' := 10) (z := decide (4 < b)) rfl rfl rfl (ic_gt (p := b) (q := 4) (gb31 hb) (by decide)) (fun h => absurd (of_decide_eq_true h) (show ¬ 4 < b by omega)) (fun _ => ?_)
        refine x_iconst (pc' := 11) rfl rfl ?_
        refine x_goto (pc' := 15) rfl rfl ?_
        refine x_retz (z := true) rfl rfl ?_
        refine sK_i (pc' := 6) rfl ?_
        refine x_retz (z := true) rfl rfl ?_
        refine sK_i (pc' := 11) rfl ?_
        refine x_if (a' := 18) (pc' := 14) (z := false) rfl rfl rfl (by decide) (fun h => by cases h) (fun _ => ?_)
        refine x_iconst (pc' := 15) rfl rfl ?_
        refine x_goto (pc' := 19) rfl rfl ?_
        refine x_istore (pc' := 21) (ls' := [_, _, _, _, _, _]) rfl rfl rfl rfl ?_
        refine x_iload (pc' := 23) rfl rfl rfl ?_
        refine x_if (a' := 30) (pc' := 26) (z := true) rfl rfl rfl (by decide) (fun _ => ?_) (fun h => by cases h)
        refine x_iload_n (pc' := 31) rfl rfl rfl ?_
        refine x_if (a' := 38) (pc' := 34) (z := true) rfl rfl rfl (by decide) (fun _ => ?_) (fun h => by cases h)
        refine x_aload_n (pc' := 39) rfl rfl rfl rfl rfl ?_
        refine x_gR (pc' := 42) (r := (some 2)) rfl rfl rfl (kR_781_0 hc) ?_
        refine x_iload_n (pc' := 43) rfl rfl rfl ?_
        refine x_bald (pc' := 44) (N := 6) (z := (mB M 2 m)) rfl rfl (kN_22_2 hc) (io_in (p := m) (N := 6) hm (by decide)) (Eq.trans (congrArg (sB t 22 2) (nn_io (p := m) (Nat.lt_trans hm (by decide)))) (gB hM)) ?_
        refine x_ifne_z (a' := 52) (pc' := 47) (z := (mB M 2 m)) rfl rfl rfl (fun q88 => ?_) (fun q88 => ?_)
        · refine x_iconst (pc' := 53) rfl rfl ?_
          refine x_goto (pc' := 57) rfl rfl ?_
          refine x_reti rfl rfl ?_
          refine sK_i (pc' := 79) rfl ?_
          refine x_cv (ls0 := [_, _]) (rest := []) rfl rfl rfl rfl rfl ?_
          refine x_aload_n (pc' := 1) rfl rfl rfl rfl rfl ?_
          refine x_iload_n (pc' := 2) rfl rfl rfl ?_
          refine x_pI (pc' := 5) rfl rfl rfl ?_
          refine x_iload_n (pc' := 6) rfl rfl rfl ?_
          refine x_if (a' := 13) (pc' := 9) (z := true) rfl rfl rfl (by decide) (fun _ => ?_) (fun h => by cases h)
          refine x_iconst (pc' := 14) rfl rfl ?_
          refine x_retz (z := false) rfl rfl ?_
          refine sK_i (pc' := 82) rfl ?_
          refine x_if (a' := 102) (pc' := 85) (z := true) rfl rfl rfl (by decide) (fun _ => ?_) (fun h => by cases h)
          refine x_iconst (pc' := 103) rfl rfl ?_
          refine x_reti rfl rfl ?_
          exact k6 q4 q40 (of_decide_eq_false q79) q88
        · refine x_iload (pc' := 49) rfl rfl rfl ?_
          refine x_if (a' := 56) (pc' := 52) (z := false) rfl rfl rfl (by decide) (fun h => by cases h) (fun _ => ?_)
          refine x_iconst (pc' := 53) rfl rfl ?_
          refine x_goto (pc' := 57) rfl rfl ?_
          refine x_reti rfl rfl ?_
          refine sK_i (pc' := 79) rfl ?_
          refine x_cv (ls0 := [_, _]) (rest := []) rfl rfl rfl rfl rfl ?_
          refine x_aload_n (pc' := 1) rfl rfl rfl rfl rfl ?_
          refine x_iload_n (pc' := 2) rfl rfl rfl ?_
          refine x_pI (pc' := 5) rfl rfl rfl ?_
          refine x_iload_n (pc' := 6) rfl rfl rfl ?_
          refine x_if (a' := 13) (pc' := 9) (z := true) rfl rfl rfl (by decide) (fun _ => ?_) (fun h => by cases h)
          refine x_iconst (pc' := 14) rfl rfl ?_
          refine x_retz (z := false) rfl rfl ?_
          refine sK_i (pc' := 82) rfl ?_
          refine x_if (a' := 102) (pc' := 85) (z := true) rfl rfl rfl (by decide) (fun _ => ?_) (fun h => by cases h)
          refine x_iconst (pc' := 103) rfl rfl ?_
          refine x_reti rfl rfl ?_
          exact k7 q4 q40 (of_decide_eq_false q79) q88
      · refine x_aload_n (pc' := 52) rfl rfl rfl rfl rfl ?_
        refine x_gI (pc' := 55) (x := (io n)) rfl rfl rfl (gFn hM (Fr.refl _) hR) ?_
        refine x_sipush (pc' := 58) rfl rfl ?_
        refine x_icmp_n (a' := 65) (pc' := 61) (z := decide (n < 200)) rfl rfl rfl (ic_gen (p := n) (q := 200) (gn31 hR) (by decide)) (fun q94 => ?_) (fun q94 => ?_)
        · refine x_iconst (pc' := 66) rfl rfl ?_
          refine x_istore (pc' := 68) (ls' := [_, _, _, _, _, _, _, _]) rfl rfl rfl rfl ?_
          refine x_aload_n (pc' := 69) rfl rfl rfl rfl rfl ?_
          refine x_aload_n (pc' := 70) rfl rfl rfl rfl rfl ?_
          refine x_iload_n (pc' := 71) rfl rfl rfl ?_
          refine x_iload_n (pc' := 72) rfl rfl rfl ?_
          refine x_iload (pc' := 74) rfl rfl rfl ?_
          refine x_iload (pc' := 76) rfl rfl rfl ?_
          refine x_cv (ls0 := [_, _, _, _, _, sJk]) (rest := [_]) rfl rfl rfl rfl rfl ?_
          refine x_iload_n (pc' := 1) rfl rfl rfl ?_
          refine x_cs (ls0 := [_]) (rest := []) rfl rfl rfl rfl ?_
          refine x_iload_n (pc' := 1) rfl rfl rfl ?_
          refine x_iconst (pc' := 2) rfl rfl ?_
          refine x_iconst (pc' := 3) rfl rfl ?_
          refine x_cs (ls0 := [_, _, _]) (rest := []) rfl rfl rfl rfl ?_
          refine x_iload_n (pc' := 1) rfl rfl rfl ?_
          refine x_iload_n (pc' := 2) rfl rfl rfl ?_
          refine x_icmp (a' := 14) (pc' := 5) (z := decide (m < 0)) rfl rfl rfl (ic_lt (p := m) (q := 0) (gm31 hm) (by decide)) (fun h => absurd (of_decide_eq_true h) (by first | decide | omega | simp)) (fun _ => ?_)
          refine x_iload_n (pc' := 6) rfl rfl rfl ?_
          refine x_iload_n (pc' := 7) rfl rfl rfl ?_
          refine x_icmp (a' := 14) (pc' := 10) (z := decide (5 < m)) rfl rfl rfl (ic_gt (p := m) (q := 5) (gm31 hm) (by decide)) (fun h => absurd (of_decide_eq_true h) (show ¬ 5 < m by omega)) (fun _ => ?_)
          refine x_iconst (pc' := 11) rfl rfl ?_
          refine x_goto (pc' := 15) rfl rfl ?_
          refine x_retz (z := true) rfl rfl ?_
          refine sK_i (pc' := 6) rfl ?_
          refine x_retz (z := true) rfl rfl ?_
          refine sK_i (pc' := 4) rfl ?_
          refine x_if (a' := 18) (pc' := 7) (z := false) rfl rfl rfl (by decide) (fun h => by cases h) (fun _ => ?_)
          refine x_iload_n (pc' := 8) rfl rfl rfl ?_
          refine x_cs (ls0 := [_]) (rest := []) rfl rfl rfl rfl ?_
          refine x_iload_n (pc' := 1) rfl rfl rfl ?_
          refine x_iconst (pc' := 2) rfl rfl ?_
          refine x_iconst (pc' := 3) rfl rfl ?_
          refine x_cs (ls0 := [_, _, _]) (rest := []) rfl rfl rfl rfl ?_
          refine x_iload_n (pc' := 1) rfl rfl rfl ?_
          refine x_iload_n (pc' := 2) rfl rfl rfl ?_
          refine x_icmp (a' := 14) (pc' := 5) (z := decide (b < 0)) rfl rfl rfl (ic_lt (p := b) (q := 0) (gb31 hb) (by decide)) (fun h => absurd (of_decide_eq_true h) (by first | decide | omega | simp)) (fun _ => ?_)
          refine x_iload_n (pc' := 6) rfl rfl rfl ?_
          refine x_iload_n (pc' := 7) rfl rfl rfl ?_
          refine x_icmp (a' := 14) (pc' := 10) (z := decide (4 < b)) rfl rfl rfl (ic_gt (p := b) (q := 4) (gb31 hb) (by decide)) (fun h => absurd (of_decide_eq_true h) (show ¬ 4 < b by omega)) (fun _ => ?_)
          refine x_iconst (pc' := 11) rfl rfl ?_
          refine x_goto (pc' := 15) rfl rfl ?_
          refine x_retz (z := true) rfl rfl ?_
          refine sK_i (pc' := 6) rfl ?_
          refine x_retz (z := true) rfl rfl ?_
          refine sK_i (pc' := 11) rfl ?_
          refine x_if (a' := 18) (pc' := 14) (z := false) rfl rfl rfl (by decide) (fun h => by cases h) (fun _ => ?_)
          refine x_iconst (pc' := 15) rfl rfl ?_
          refine x_goto (pc' := 19) rfl rfl ?_
          refine x_istore (pc' := 21) (ls' := [_, _, _, _, _, _]) rfl rfl rfl rfl ?_
          refine x_iload (pc' := 23) rfl rfl rfl ?_
          refine x_if (a' := 30) (pc' := 26) (z := true) rfl rfl rfl (by decide) (fun _ => ?_) (fun h => by cases h)
          refine x_iload_n (pc' := 31) rfl rfl rfl ?_
          refine x_if (a' := 38) (pc' := 34) (z := true) rfl rfl rfl (by decide) (fun _ => ?_) (fun h => by cases h)
          refine x_aload_n (pc' := 39) rfl rfl rfl rfl rfl ?_
          refine x_gR (pc' := 42) (r := (some 2)) rfl rfl rfl (kR_781_0 hc) ?_
          refine x_iload_n (pc' := 43) rfl rfl rfl ?_
          refine x_bald (pc' := 44) (N := 6) (z := (mB M 2 m)) rfl rfl (kN_22_2 hc) (io_in (p := m) (N := 6) hm (by decide)) (Eq.trans (congrArg (sB t 22 2) (nn_io (p := m) (Nat.lt_trans hm (by decide)))) (gB hM)) ?_
          refine x_ifne_z (a' := 52) (pc' := 47) (z := (mB M 2 m)) rfl rfl rfl (fun q103 => ?_) (fun q103 => ?_)
          · refine x_iconst (pc' := 53) rfl rfl ?_
            refine x_goto (pc' := 57) rfl rfl ?_
            refine x_reti rfl rfl ?_
            refine sK_i (pc' := 79) rfl ?_
            refine x_cv (ls0 := [_, _]) (rest := []) rfl rfl rfl rfl rfl ?_
            refine x_aload_n (pc' := 1) rfl rfl rfl rfl rfl ?_
            refine x_iload_n (pc' := 2) rfl rfl rfl ?_
            refine x_pI (pc' := 5) rfl rfl rfl ?_
            refine x_iload_n (pc' := 6) rfl rfl rfl ?_
            refine x_if (a' := 13) (pc' := 9) (z := true) rfl rfl rfl (by decide) (fun _ => ?_) (fun h => by cases h)
            refine x_iconst (pc' := 14) rfl rfl ?_
            refine x_retz (z := false) rfl rfl ?_
            refine sK_i (pc' := 82) rfl ?_
            refine x_if (a' := 102) (pc' := 85) (z := true) rfl rfl rfl (by decide) (fun _ => ?_) (fun h => by cases h)
            refine x_iconst (pc' := 103) rfl rfl ?_
            refine x_reti rfl rfl ?_
            exact k8 q4 q40 (of_decide_eq_true q79) (of_decide_eq_false q94) q103
          · refine x_iload (pc' := 49) rfl rfl rfl ?_
            refine x_if (a' := 56) (pc' := 52) (z := false) rfl rfl rfl (by decide) (fun h => by cases h) (fun _ => ?_)
            refine x_iconst (pc' := 53) rfl rfl ?_
            refine x_goto (pc' := 57) rfl rfl ?_
            refine x_reti rfl rfl ?_
            refine sK_i (pc' := 79) rfl ?_
            refine x_cv (ls0 := [_, _]) (rest := []) rfl rfl rfl rfl rfl ?_
            refine x_aload_n (pc' := 1) rfl rfl rfl rfl rfl ?_
            refine x_iload_n (pc' := 2) rfl rfl rfl ?_
            refine x_pI (pc' := 5) rfl rfl rfl ?_
            refine x_iload_n (pc' := 6) rfl rfl rfl ?_
            refine x_if (a' := 13) (pc' := 9) (z := true) rfl rfl rfl (by decide) (fun _ => ?_) (fun h => by cases h)
            refine x_iconst (pc' := 14) rfl rfl ?_
            refine x_retz (z := false) rfl rfl ?_
            refine sK_i (pc' := 82) rfl ?_
            refine x_if (a' := 102) (pc' := 85) (z := true) rfl rfl rfl (by decide) (fun _ => ?_) (fun h => by cases h)
            refine x_iconst (pc' := 103) rfl rfl ?_
            refine x_reti rfl rfl ?_
            exact k9 q4 q40 (of_decide_eq_true q79) (of_decide_eq_false q94) q103
        · refine x_iconst (pc' := 62) rfl rfl ?_
          refine x_goto (pc' := 66) rfl rfl ?_
          refine x_istore (pc' := 68) (ls' := [_, _, _, _, _, _, _, _]) rfl rfl rfl rfl ?_
          refine x_aload_n (pc' := 69) rfl rfl rfl rfl rfl ?_
          refine x_aload_n (pc' := 70) rfl rfl rfl rfl rfl ?_
          refine x_iload_n (pc' := 71) rfl rfl rfl ?_
          refine x_iload_n (pc' := 72) rfl rfl rfl ?_
          refine x_iload (pc' := 74) rfl rfl rfl ?_
          refine x_iload (pc' := 76) rfl rfl rfl ?_
          refine x_cv (ls0 := [_, _, _, _, _, sJk]) (rest := [_]) rfl rfl rfl rfl rfl ?_
          refine x_iload_n (pc' := 1) rfl rfl rfl ?_
          refine x_cs (ls0 := [_]) (rest := []) rfl rfl rfl rfl ?_
          refine x_iload_n (pc' := 1) rfl rfl rfl ?_
          refine x_iconst (pc' := 2) rfl rfl ?_
          refine x_iconst (pc' := 3) rfl rfl ?_
          refine x_cs (ls0 := [_, _, _]) (rest := []) rfl rfl rfl rfl ?_
          refine x_iload_n (pc' := 1) rfl rfl rfl ?_
          refine x_iload_n (pc' := 2) rfl rfl rfl ?_
          refine x_icmp (a' := 14) (pc' := 5) (z := decide (m < 0)) rfl rfl rfl (ic_lt (p := m) (q := 0) (gm31 hm) (by decide)) (fun h => absurd (of_decide_eq_true h) (by first | decide | omega | simp)) (fun _ => ?_)
          refine x_iload_n (pc' := 6) rfl rfl rfl ?_
          refine x_iload_n (pc' := 7) rfl rfl rfl ?_
          refine x_icmp (a' := 14) (pc' := 10) (z := decide (5 < m)) rfl rfl rfl (ic_gt (p := m) (q := 5) (gm31 hm) (by decide)) (fun h => absurd (of_decide_eq_true h) (show ¬ 5 < m by omega)) (fun _ => ?_)
          refine x_iconst (pc' := 11) rfl rfl ?_
          refine x_goto (pc' := 15) rfl rfl ?_
          refine x_retz (z := true) rfl rfl ?_
          refine sK_i (pc' := 6) rfl ?_
          refine x_retz (z := true) rfl rfl ?_
          refine sK_i (pc' := 4) rfl ?_
          refine x_if (a' := 18) (pc' := 7) (z := false) rfl rfl rfl (by decide) (fun h => by cases h) (fun _ => ?_)
          refine x_iload_n (pc' := 8) rfl rfl rfl ?_
          refine x_cs (ls0 := [_]) (rest := []) rfl rfl rfl rfl ?_
          refine x_iload_n (pc' := 1) rfl rfl rfl ?_
          refine x_iconst (pc' := 2) rfl rfl ?_
          refine x_iconst (pc' := 3) rfl rfl ?_
          refine x_cs (ls0 := [_, _, _]) (rest := []) rfl rfl rfl rfl ?_
          refine x_iload_n (pc' := 1) rfl rfl rfl ?_
          refine x_iload_n (pc' := 2) rfl rfl rfl ?_
          refine x_icmp (a' := 14) (pc' := 5) (z := decide (b < 0)) rfl rfl rfl (ic_lt (p := b) (q := 0) (gb31 hb) (by decide)) (fun h => absurd (of_decide_eq_true h) (by first | decide | omega | simp)) (fun _ => ?_)
          refine x_iload_n (pc' := 6) rfl rfl rfl ?_
          refine x_iload_n (pc' := 7) rfl rfl rfl ?_
          refine x_icmp (a' := 14) (pc' := 10) (z := decide (4 < b)) rfl rfl rfl (ic_gt (p := b) (q := 4) (gb31 hb) (by decide)) (fun h => absurd (of_decide_eq_true h) (show ¬ 4 < b by omega)) (fun _ => ?_)
          refine x_iconst (pc' := 11) rfl rfl ?_
          refine x_goto (pc' := 15) rfl rfl ?_
          refine x_retz (z := true) rfl rfl ?_
          refine sK_i (pc' := 6) rfl ?_
          refine x_retz (z := true) rfl rfl ?_
          refine sK_i (pc' := 11) rfl ?_
          refine x_if (a' := 18) (pc' := 14) (z := false) rfl rfl rfl (by decide) (fun h => by cases h) (fun _ => ?_)
          refine x_iconst (pc' := 15) rfl rfl ?_
          refine x_goto (pc' := 19) rfl rfl ?_
          refine x_istore (pc' := 21) (ls' := [_, _, _, _, _, _]) rfl rfl rfl rfl ?_
          refine x_iload (pc' := 23) rfl rfl rfl ?_
          refine x_if (a' := 30) (pc' := 26) (z := true) rfl rfl rfl (by decide) (fun _ => ?_) (fun h => by cases h)
          refine x_iload_n (pc' := 31) rfl rfl rfl ?_
          refine x_if (a' := 38) (pc' := 34) (z := true) rfl rfl rfl (by decide) (fun _ => ?_) (fun h => by cases h)
          refine x_aload_n (pc' := 39) rfl rfl rfl rfl rfl ?_
          refine x_gR (pc' := 42) (r := (some 2)) rfl rfl rfl (kR_781_0 hc) ?_
          refine x_iload_n (pc' := 43) rfl rfl rfl ?_
          refine x_bald (pc' := 44) (N := 6) (z := (mB M 2 m)) rfl rfl (kN_22_2 hc) (io_in (p := m) (N := 6) hm (by decide)) (Eq.trans (congrArg (sB t 22 2) (nn_io (p := m) (Nat.lt_trans hm (by decide)))) (gB hM)) ?_
          refine x_ifne_z (a' := 52) (pc' := 47) (z := (mB M 2 m)) rfl rfl rfl (fun q117 => ?_) (fun q117 => ?_)
          · refine x_iconst (pc' := 53) rfl rfl ?_
            refine x_goto (pc' := 57) rfl rfl ?_
            refine x_reti rfl rfl ?_
            refine sK_i (pc' := 79) rfl ?_
            refine x_cv (ls0 := [_, _]) (rest := []) rfl rfl rfl rfl rfl ?_
            refine x_aload_n (pc' := 1) rfl rfl rfl rfl rfl ?_
            refine x_iload_n (pc' := 2) rfl rfl rfl ?_
            refine x_pI (pc' := 5) rfl rfl rfl ?_
            refine x_iload_n (pc' := 6) rfl rfl rfl ?_
            refine x_if (a' := 13) (pc' := 9) (z := true) rfl rfl rfl (by decide) (fun _ => ?_) (fun h => by cases h)
            refine x_iconst (pc' := 14) rfl rfl ?_
            refine x_retz (z := false) rfl rfl ?_
            refine sK_i (pc' := 82) rfl ?_
            refine x_if (a' := 102) (pc' := 85) (z := true) rfl rfl rfl (by decide) (fun _ => ?_) (fun h => by cases h)
            refine x_iconst (pc' := 103) rfl rfl ?_
            refine x_reti rfl rfl ?_
            exact k10 q4 q40 (of_decide_eq_true q79) (of_decide_eq_true q94) q117
          · refine x_iload (pc' := 49) rfl rfl rfl ?_
            refine x_if (a' := 56) (pc' := 52) (z := true) rfl rfl rfl (by decide) (fun _ => ?_) (fun h => by cases h)
            refine x_iconst (pc' := 57) rfl rfl ?_
            refine x_reti rfl rfl ?_
            refine sK_i (pc' := 79) rfl ?_
            refine x_cv (ls0 := [_, _]) (rest := []) rfl rfl rfl rfl rfl ?_
            refine x_aload_n (pc' := 1) rfl rfl rfl rfl rfl ?_
            refine x_iload_n (pc' := 2) rfl rfl rfl ?_
            refine x_pI (pc' := 5) rfl rfl rfl ?_
            refine x_iload_n (pc' := 6) rfl rfl rfl ?_
            refine x_if (a' := 13) (pc' := 9) (z := false) rfl rfl rfl (by decide) (fun h => by cases h) (fun _ => ?_)
            refine x_iconst (pc' := 10) rfl rfl ?_
            refine x_goto (pc' := 14) rfl rfl ?_
            refine x_retz (z := true) rfl rfl ?_
            refine sK_i (pc' := 82) rfl ?_
            refine x_if (a' := 102) (pc' := 85) (z := false) rfl rfl rfl (by decide) (fun h => by cases h) (fun _ => ?_)
            refine x_aload_n (pc' := 86) rfl rfl rfl rfl rfl ?_
            refine x_iload_n (pc' := 87) rfl rfl rfl ?_
            refine x_iload_n (pc' := 88) rfl rfl rfl ?_
            refine x_iload_n (pc' := 89) rfl rfl rfl ?_
            refine x_iload (pc' := 91) rfl rfl rfl ?_
            refine x_iload (pc' := 93) rfl rfl rfl ?_
            refine x_iload (pc' := 95) rfl rfl rfl ?_
            refine x_iconst (pc' := 96) rfl rfl ?_
            refine x_cv (ls0 := [_, _, _, _, _, _, _, _, sJk]) (rest := []) rfl rfl rfl rfl rfl ?_
            exact k11 q4 q40 (of_decide_eq_true q79) (of_decide_eq_true q94) q117
set_option maxHeartbeats 4000000 in
set_option maxRecDepth 10000 in
theorem r205_x1 {t : sT} {Q : sRs → sT → Prop} {M : sM} {n : Nat} {m : Nat} {x : Int32} {s : Bool} {p : Int32} {a : Int32}
    (hV : Vr t M n)
    (hm : m < 6)
    (hp : ixo x 5 = none)
    (k0 : Q (.inl (some (.inl 0))) (sIw t 768 0 1)) :
    X 205 0 [.inr (.inr (12, (some 0))), .inl (io m), .inl x, .inl (bz s), .inl p, .inl a, sJk, sJk] [] t Q := by
  obtain ⟨hM, hc, hR⟩ := hV
  refine x_iload_n (pc' := 1) rfl rfl rfl ?_
  refine x_cs (ls0 := [_]) (rest := []) rfl rfl rfl rfl ?_
  refine x_iload_n (pc' := 1) rfl rfl rfl ?_
  refine x_iconst (pc' := 2) rfl rfl ?_
  refine x_iconst (pc' := 3) rfl rfl ?_
  refine x_cs (ls0 := [_, _, _]) (rest := []) rfl rfl rfl rfl ?_
  refine r145_xg (ixo_c5 hp) ?_
  refine sK_i (pc' := 6) rfl ?_
  refine x_retz (z := false) rfl rfl ?_
  refine sK_i (pc' := 4) rfl ?_
  refine x_if (a' := 31) (pc' := 7) (z := true) rfl rfl rfl (by decide) (fun _ => ?_) (fun h => by cases h)
  refine x_iconst (pc' := 32) rfl rfl ?_
  refine x_istore (pc' := 34) (ls' := [_, _, _, _, _, _, _, _]) rfl rfl rfl rfl ?_
  refine x_iload_n (pc' := 35) rfl rfl rfl ?_
  refine x_cs (ls0 := [_]) (rest := []) rfl rfl rfl rfl ?_
  refine x_iload_n (pc' := 1) rfl rfl rfl ?_
  refine x_iconst (pc' := 2) rfl rfl ?_
  refine x_iconst (pc' := 3) rfl rfl ?_
  refine x_cs (ls0 := [_, _, _]) (rest := []) rfl rfl rfl rfl ?_
  refine r145_xg (ixo_c5 hp) ?_
  refine sK_i (pc' := 6) rfl ?_
  refine x_retz (z := false) rfl rfl ?_
  refine sK_i (pc' := 38) rfl ?_
  refine x_if (a' := 65) (pc' := 41) (z := true) rfl rfl rfl (by decide) (fun _ => ?_) (fun h => by cases h)
  refine x_iconst (pc' := 66) rfl rfl ?_
  refine x_istore (pc' := 68) (ls' := [_, _, _, _, _, _, _, _]) rfl rfl rfl rfl ?_
  refine x_aload_n (pc' := 69) rfl rfl rfl rfl rfl ?_
  refine x_aload_n (pc' := 70) rfl rfl rfl rfl rfl ?_
  refine x_iload_n (pc' := 71) rfl rfl rfl ?_
  refine x_iload_n (pc' := 72) rfl rfl rfl ?_
  refine x_iload (pc' := 74) rfl rfl rfl ?_
  refine x_iload (pc' := 76) rfl rfl rfl ?_
  refine x_cv (ls0 := [_, _, _, _, _, sJk]) (rest := [_]) rfl rfl rfl rfl rfl ?_
  refine x_iload_n (pc' := 1) rfl rfl rfl ?_
  refine x_cs (ls0 := [_]) (rest := []) rfl rfl rfl rfl ?_
  refine x_iload_n (pc' := 1) rfl rfl rfl ?_
  refine x_iconst (pc' := 2) rfl rfl ?_
  refine x_iconst (pc' := 3) rfl rfl ?_
  refine x_cs (ls0 := [_, _, _]) (rest := []) rfl rfl rfl rfl ?_
  refine x_iload_n (pc' := 1) rfl rfl rfl ?_
  refine x_iload_n (pc' := 2) rfl rfl rfl ?_
  refine x_icmp (a' := 14) (pc' := 5) (z := decide (m < 0)) rfl rfl rfl (ic_lt (p := m) (q := 0) (gm31 hm) (by decide)) (fun h => absurd (of_decide_eq_true h) (by first | decide | omega | simp)) (fun _ => ?_)
  refine x_iload_n (pc' := 6) rfl rfl rfl ?_
  refine x_iload_n (pc' := 7) rfl rfl rfl ?_
  refine x_icmp (a' := 14) (pc' := 10) (z := decide (5 < m)) rfl rfl rfl (ic_gt (p := m) (q := 5) (gm31 hm) (by decide)) (fun h => absurd (of_decide_eq_true h) (show ¬ 5 < m by omega)) (fun _ => ?_)
  refine x_iconst (pc' := 11) rfl rfl ?_
  refine x_goto (pc' := 15) rfl rfl ?_
  refine x_retz (z := true) rfl rfl ?_
  refine sK_i (pc' := 6) rfl ?_
  refine x_retz (z := true) rfl rfl ?_
  refine sK_i (pc' := 4) rfl ?_
  refine x_if (a' := 18) (pc' := 7) (z := false) rfl rfl rfl (by decide) (fun h => by cases h) (fun _ => ?_)
  refine x_iload_n (pc' := 8) rfl rfl rfl ?_
  refine x_cs (ls0 := [_]) (rest := []) rfl rfl rfl rfl ?_
  refine x_iload_n (pc' := 1) rfl rfl rfl ?_
  refine x_iconst (pc' := 2) rfl rfl ?_
  refine x_iconst (pc' := 3) rfl rfl ?_
  refine x_cs (ls0 := [_, _, _]) (rest := []) rfl rfl rfl rfl ?_
  refine r145_xg (ixo_c5 hp) ?_
  refine sK_i (pc' := 6) rfl ?_
  refine x_retz (z := false) rfl rfl ?_
  refine sK_i (pc' := 11) rfl ?_
  refine x_if (a' := 18) (pc' := 14) (z := true) rfl rfl rfl (by decide) (fun _ => ?_) (fun h => by cases h)
  refine x_iconst (pc' := 19) rfl rfl ?_
  refine x_istore (pc' := 21) (ls' := [_, _, _, _, _, _]) rfl rfl rfl rfl ?_
  refine x_iload (pc' := 23) rfl rfl rfl ?_
  refine x_if (a' := 30) (pc' := 26) (z := false) rfl rfl rfl (by decide) (fun h => by cases h) (fun _ => ?_)
  refine x_iconst (pc' := 27) rfl rfl ?_
  refine x_goto (pc' := 57) rfl rfl ?_
  refine x_reti rfl rfl ?_
  refine sK_i (pc' := 79) rfl ?_
  refine x_cv (ls0 := [_, _]) (rest := []) rfl rfl rfl rfl rfl ?_
  refine x_aload_n (pc' := 1) rfl rfl rfl rfl rfl ?_
  refine x_iload_n (pc' := 2) rfl rfl rfl ?_
  refine x_pI (pc' := 5) rfl rfl rfl ?_
  refine x_iload_n (pc' := 6) rfl rfl rfl ?_
  refine x_if (a' := 13) (pc' := 9) (z := true) rfl rfl rfl (by decide) (fun _ => ?_) (fun h => by cases h)
  refine x_iconst (pc' := 14) rfl rfl ?_
  refine x_retz (z := false) rfl rfl ?_
  refine sK_i (pc' := 82) rfl ?_
  refine x_if (a' := 102) (pc' := 85) (z := true) rfl rfl rfl (by decide) (fun _ => ?_) (fun h => by cases h)
  refine x_iconst (pc' := 103) rfl rfl ?_
  refine x_reti rfl rfl ?_
  exact k0
set_option maxHeartbeats 4000000 in
set_option maxRecDepth 10000 in
theorem r205_x0 {t : sT} {Q : sRs → sT → Prop} {M : sM} {n : Nat} {x : Int32} {b : Nat} {s : Bool} {p : Int32} {a : Int32}
    (hV : Vr t M n)
    (hp : ixo x 6 = none)
    (hb : b < 5)
    (k0 : (prB b p) = false → ¬ ((mA M 0 b) = 2) → Q (.inl (some (.inl 0))) (sIw t 768 0 1))
    (k1 : (prB b p) = false → (mA M 0 b) = 2 → ¬ (n < 200) → Q (.inl (some (.inl 0))) (sIw t 768 0 1))
    (k2 : (prB b p) = false → (mA M 0 b) = 2 → n < 200 → Q (.inl (some (.inl 0))) (sIw t 768 0 1))
    (k3 : (prB b p) = true → (inB a 1 100) = false → ¬ ((mA M 0 b) = 2) → Q (.inl (some (.inl 0))) (sIw t 768 0 1))
    (k4 : (prB b p) = true → (inB a 1 100) = false → (mA M 0 b) = 2 → ¬ (n < 200) → Q (.inl (some (.inl 0))) (sIw t 768 0 1))
    (k5 : (prB b p) = true → (inB a 1 100) = false → (mA M 0 b) = 2 → n < 200 → Q (.inl (some (.inl 0))) (sIw t 768 0 1))
    (k6 : (prB b p) = true → (inB a 1 100) = true → ¬ ((mA M 0 b) = 2) → Q (.inl (some (.inl 0))) (sIw t 768 0 1))
    (k7 : (prB b p) = true → (inB a 1 100) = true → (mA M 0 b) = 2 → ¬ (n < 200) → Q (.inl (some (.inl 0))) (sIw t 768 0 1))
    (k8 : (prB b p) = true → (inB a 1 100) = true → (mA M 0 b) = 2 → n < 200 → Q (.inl (some (.inl 0))) (sIw t 768 0 1)) :
    X 205 0 [.inr (.inr (12, (some 0))), .inl x, .inl (io b), .inl (bz s), .inl p, .inl a, sJk, sJk] [] t Q := by
  obtain ⟨hM, hc, hR⟩ := hV
  refine x_iload_n (pc' := 1) rfl rfl rfl ?_
  refine x_cs (ls0 := [_]) (rest := []) rfl rfl rfl rfl ?_
  refine x_iload_n (pc' := 1) rfl rfl rfl ?_
  refine x_iconst (pc' := 2) rfl rfl ?_
  refine x_iconst (pc' := 3) rfl rfl ?_
  refine x_cs (ls0 := [_, _, _]) (rest := []) rfl rfl rfl rfl ?_
  refine x_iload_n (pc' := 1) rfl rfl rfl ?_
  refine x_iload_n (pc' := 2) rfl rfl rfl ?_
  refine x_icmp (a' := 14) (pc' := 5) (z := decide (b < 0)) rfl rfl rfl (ic_lt (p := b) (q := 0) (gb31 hb) (by decide)) (fun h => absurd (of_decide_eq_true h) (by first | decide | omega | simp)) (fun _ => ?_)
  refine x_iload_n (pc' := 6) rfl rfl rfl ?_
  refine x_iload_n (pc' := 7) rfl rfl rfl ?_
  refine x_icmp (a' := 14) (pc' := 10) (z := decide (4 < b)) rfl rfl rfl (ic_gt (p := b) (q := 4) (gb31 hb) (by decide)) (fun h => absurd (of_decide_eq_true h) (show ¬ 4 < b by omega)) (fun _ => ?_)
  refine x_iconst (pc' := 11) rfl rfl ?_
  refine x_goto (pc' := 15) rfl rfl ?_
  refine x_retz (z := true) rfl rfl ?_
  refine sK_i (pc' := 6) rfl ?_
  refine x_retz (z := true) rfl rfl ?_
  refine sK_i (pc' := 4) rfl ?_
  refine x_if (a' := 31) (pc' := 7) (z := false) rfl rfl rfl (by decide) (fun h => by cases h) (fun _ => ?_)
  refine x_iload_n (pc' := 8) rfl rfl rfl ?_
  refine x_iload (pc' := 10) rfl rfl rfl ?_
  refine x_cs (ls0 := [_, _]) (rest := []) rfl rfl rfl rfl ?_
  refine r150_g hb ?_
  refine sK_i (pc' := 13) rfl ?_
  refine x_ifeq_z (a' := 31) (pc' := 16) (z := (prB b p)) rfl rfl rfl (fun q4 => ?_) (fun q4 => ?_)
  · refine x_iconst (pc' := 32) rfl rfl ?_
    refine x_istore (pc' := 34) (ls' := [_, _, _, _, _, _, _, _]) rfl rfl rfl rfl ?_
    refine x_iload_n (pc' := 35) rfl rfl rfl ?_
    refine x_cs (ls0 := [_]) (rest := []) rfl rfl rfl rfl ?_
    refine x_iload_n (pc' := 1) rfl rfl rfl ?_
    refine x_iconst (pc' := 2) rfl rfl ?_
    refine x_iconst (pc' := 3) rfl rfl ?_
    refine x_cs (ls0 := [_, _, _]) (rest := []) rfl rfl rfl rfl ?_
    refine x_iload_n (pc' := 1) rfl rfl rfl ?_
    refine x_iload_n (pc' := 2) rfl rfl rfl ?_
    refine x_icmp (a' := 14) (pc' := 5) (z := decide (b < 0)) rfl rfl rfl (ic_lt (p := b) (q := 0) (gb31 hb) (by decide)) (fun h => absurd (of_decide_eq_true h) (by first | decide | omega | simp)) (fun _ => ?_)
    refine x_iload_n (pc' := 6) rfl rfl rfl ?_
    refine x_iload_n (pc' := 7) rfl rfl rfl ?_
    refine x_icmp (a' := 14) (pc' := 10) (z := decide (4 < b)) rfl rfl rfl (ic_gt (p := b) (q := 4) (gb31 hb) (by decide)) (fun h => absurd (of_decide_eq_true h) (show ¬ 4 < b by omega)) (fun _ => ?_)
    refine x_iconst (pc' := 11) rfl rfl ?_
    refine x_goto (pc' := 15) rfl rfl ?_
    refine x_retz (z := true) rfl rfl ?_
    refine sK_i (pc' := 6) rfl ?_
    refine x_retz (z := true) rfl rfl ?_
    refine sK_i (pc' := 38) rfl ?_
    refine x_if (a' := 65) (pc' := 41) (z := false) rfl rfl rfl (by decide) (fun h => by cases h) (fun _ => ?_)
    refine x_aload_n (pc' := 42) rfl rfl rfl rfl rfl ?_
    refine x_gR (pc' := 45) (r := (some 0)) rfl rfl rfl (kR_769_0 hc) ?_
    refine x_iload_n (pc' := 46) rfl rfl rfl ?_
    refine x_iald (pc' := 47) (N := 5) (x := (mA M 0 b)) rfl rfl rfl (kN_21_0 hc) (io_in (p := b) (N := 5) hb (by decide)) (Eq.trans (congrArg (sA t 21 0) (nn_io (p := b) (Nat.lt_trans hb (by decide)))) (gA hM rfl)) ?_
    refine x_iconst (pc' := 48) rfl rfl ?_
    refine x_icmp_n (a' := 65) (pc' := 51) (z := decide ((mA M 0 b) = 2)) rfl rfl rfl (ik_ne _ _) (fun q8 => ?_) (fun q8 => ?_)
    · refine x_iconst (pc' := 66) rfl rfl ?_
      refine x_istore (pc' := 68) (ls' := [_, _, _, _, _, _, _, _]) rfl rfl rfl rfl ?_
      refine x_aload_n (pc' := 69) rfl rfl rfl rfl rfl ?_
      refine x_aload_n (pc' := 70) rfl rfl rfl rfl rfl ?_
      refine x_iload_n (pc' := 71) rfl rfl rfl ?_
      refine x_iload_n (pc' := 72) rfl rfl rfl ?_
      refine x_iload (pc' := 74) rfl rfl rfl ?_
      refine x_iload (pc' := 76) rfl rfl rfl ?_
      refine x_cv (ls0 := [_, _, _, _, _, sJk]) (rest := [_]) rfl rfl rfl rfl rfl ?_
      refine x_iload_n (pc' := 1) rfl rfl rfl ?_
      refine x_cs (ls0 := [_]) (rest := []) rfl rfl rfl rfl ?_
      refine x_iload_n (pc' := 1) rfl rfl rfl ?_
      refine x_iconst (pc' := 2) rfl rfl ?_
      refine x_iconst (pc' := 3) rfl rfl ?_
      refine x_cs (ls0 := [_, _, _]) (rest := []) rfl rfl rfl rfl ?_
      refine r145_xg (ixo_c6 hp) ?_
      refine sK_i (pc' := 6) rfl ?_
      refine x_retz (z := false) rfl rfl ?_
      refine sK_i (pc' := 4) rfl ?_
      refine x_if (a' := 18) (pc' := 7) (z := true) rfl rfl rfl (by decide) (fun _ => ?_) (fun h => by cases h)
      refine x_iconst (pc' := 19) rfl rfl ?_
      refine x_istore (pc' := 21) (ls' := [_, _, _, _, _, _]) rfl rfl rfl rfl ?_
      refine x_iload (pc' := 23) rfl rfl rfl ?_
      refine x_if (a' := 30) (pc' := 26) (z := false) rfl rfl rfl (by decide) (fun h => by cases h) (fun _ => ?_)
      refine x_iconst (pc' := 27) rfl rfl ?_
      refine x_goto (pc' := 57) rfl rfl ?_
      refine x_reti rfl rfl ?_
      refine sK_i (pc' := 79) rfl ?_
      refine x_cv (ls0 := [_, _]) (rest := []) rfl rfl rfl rfl rfl ?_
      refine x_aload_n (pc' := 1) rfl rfl rfl rfl rfl ?_
      refine x_iload_n (pc' := 2) rfl rfl rfl ?_
      refine x_pI (pc' := 5) rfl rfl rfl ?_
      refine x_iload_n (pc' := 6) rfl rfl rfl ?_
      refine x_if (a' := 13) (pc' := 9) (z := true) rfl rfl rfl (by decide) (fun _ => ?_) (fun h => by cases h)
      refine x_iconst (pc' := 14) rfl rfl ?_
      refine x_retz (z := false) rfl rfl ?_
      refine sK_i (pc' := 82) rfl ?_
      refine x_if (a' := 102) (pc' := 85) (z := true) rfl rfl rfl (by decide) (fun _ => ?_) (fun h => by cases h)
      refine x_iconst (pc' := 103) rfl rfl ?_
      refine x_reti rfl rfl ?_
      exact k0 q4 (of_decide_eq_false q8)
    · refine x_aload_n (pc' := 52) rfl rfl rfl rfl rfl ?_
      refine x_gI (pc' := 55) (x := (io n)) rfl rfl rfl (gFn hM (Fr.refl _) hR) ?_
      refine x_sipush (pc' := 58) rfl rfl ?_
      refine x_icmp_n (a' := 65) (pc' := 61) (z := decide (n < 200)) rfl rfl rfl (ic_gen (p := n) (q := 200) (gn31 hR) (by decide)) (fun q13 => ?_) (fun q13 => ?_)
      · refine x_iconst (pc' := 66) rfl rfl ?_
        refine x_istore (pc' := 68) (ls' := [_, _, _, _, _, _, _, _]) rfl rfl rfl rfl ?_
        refine x_aload_n (pc' := 69) rfl rfl rfl rfl rfl ?_
        refine x_aload_n (pc' := 70) rfl rfl rfl rfl rfl ?_
        refine x_iload_n (pc' := 71) rfl rfl rfl ?_
        refine x_iload_n (pc' := 72) rfl rfl rfl ?_
        refine x_iload (pc' := 74) rfl rfl rfl ?_
        refine x_iload (pc' := 76) rfl rfl rfl ?_
        refine x_cv (ls0 := [_, _, _, _, _, sJk]) (rest := [_]) rfl rfl rfl rfl rfl ?_
        refine x_iload_n (pc' := 1) rfl rfl rfl ?_
        refine x_cs (ls0 := [_]) (rest := []) rfl rfl rfl rfl ?_
        refine x_iload_n (pc' := 1) rfl rfl rfl ?_
        refine x_iconst (pc' := 2) rfl rfl ?_
        refine x_iconst (pc' := 3) rfl rfl ?_
        refine x_cs (ls0 := [_, _, _]) (rest := []) rfl rfl rfl rfl ?_
        refine r145_xg (ixo_c6 hp) ?_
        refine sK_i (pc' := 6) rfl ?_
        refine x_retz (z := false) rfl rfl ?_
        refine sK_i (pc' := 4) rfl ?_
        refine x_if (a' := 18) (pc' := 7) (z := true) rfl rfl rfl (by decide) (fun _ => ?_) (fun h => by cases h)
        refine x_iconst (pc' := 19) rfl rfl ?_
        refine x_istore (pc' := 21) (ls' := [_, _, _, _, _, _]) rfl rfl rfl rfl ?_
        refine x_iload (pc' := 23) rfl rfl rfl ?_
        refine x_if (a' := 30) (pc' := 26) (z := false) rfl rfl rfl (by decide) (fun h => by cases h) (fun _ => ?_)
        refine x_iconst (pc' := 27) rfl rfl ?_
        refine x_goto (pc' := 57) rfl rfl ?_
        refine x_reti rfl rfl ?_
        refine sK_i (pc' := 79) rfl ?_
        refine x_cv (ls0 := [_, _]) (rest := []) rfl rfl rfl rfl rfl ?_
        refine x_aload_n (pc' := 1) rfl rfl rfl rfl rfl ?_
        refine x_iload_n (pc' := 2) rfl rfl rfl ?_
        refine x_pI (pc' := 5) rfl rfl rfl ?_
        refine x_iload_n (pc' := 6) rfl rfl rfl ?_
        refine x_if (a' := 13) (pc' := 9) (z := true) rfl rfl rfl (by decide) (fun _ => ?_) (fun h => by cases h)
        refine x_iconst (pc' := 14) rfl rfl ?_
        refine x_retz (z := false) rfl rfl ?_
        refine sK_i (pc' := 82) rfl ?_
        refine x_if (a' := 102) (pc' := 85) (z := true) rfl rfl rfl (by decide) (fun _ => ?_) (fun h => by cases h)
        refine x_iconst (pc' := 103) rfl rfl ?_
        refine x_reti rfl rfl ?_
        exact k1 q4 (of_decide_eq_true q8) (of_decide_eq_false q13)
      · refine x_iconst (pc' := 62) rfl rfl ?_
        refine x_goto (pc' := 66) rfl rfl ?_
        refine x_istore (pc' := 68) (ls' := [_, _, _, _, _, _, _, _]) rfl rfl rfl rfl ?_
        refine x_aload_n (pc' := 69) rfl rfl rfl rfl rfl ?_
        refine x_aload_n (pc' := 70) rfl rfl rfl rfl rfl ?_
        refine x_iload_n (pc' := 71) rfl rfl rfl ?_
        refine x_iload_n (pc' := 72) rfl rfl rfl ?_
        refine x_iload (pc' := 74) rfl rfl rfl ?_
        refine x_iload (pc' := 76) rfl rfl rfl ?_
        refine x_cv (ls0 := [_, _, _, _, _, sJk]) (rest := [_]) rfl rfl rfl rfl rfl ?_
        refine x_iload_n (pc' := 1) rfl rfl rfl ?_
        refine x_cs (ls0 := [_]) (rest := []) rfl rfl rfl rfl ?_
        refine x_iload_n (pc' := 1) rfl rfl rfl ?_
        refine x_iconst (pc' := 2) rfl rfl ?_
        refine x_iconst (pc' := 3) rfl rfl ?_
        refine x_cs (ls0 := [_, _, _]) (rest := []) rfl rfl rfl rfl ?_
        refine r145_xg (ixo_c6 hp) ?_
        refine sK_i (pc' := 6) rfl ?_
        refine x_retz (z := false) rfl rfl ?_
        refine sK_i (pc' := 4) rfl ?_
        refine x_if (a' := 18) (pc' := 7) (z := true) rfl rfl rfl (by decide) (fun _ => ?_) (fun h => by cases h)
        refine x_iconst (pc' := 19) rfl rfl ?_
        refine x_istore (pc' := 21) (ls' := [_, _, _, _, _, _]) rfl rfl rfl rfl ?_
        refine x_iload (pc' := 23) rfl rfl rfl ?_
        refine x_if (a' := 30) (pc' := 26) (z := false) rfl rfl rfl (by decide) (fun h => by cases h) (fun _ => ?_)
        refine x_iconst (pc' := 27) rfl rfl ?_
        refine x_goto (pc' := 57) rfl rfl ?_
        refine x_reti rfl rfl ?_
        refine sK_i (pc' := 79) rfl ?_
        refine x_cv (ls0 := [_, _]) (rest := []) rfl rfl rfl rfl rfl ?_
        refine x_aload_n (pc' := 1) rfl rfl rfl rfl rfl ?_
        refine x_iload_n (pc' := 2) rfl rfl rfl ?_
        refine x_pI (pc' := 5) rfl rfl rfl ?_
        refine x_iload_n (pc' := 6) rfl rfl rfl ?_
        refine x_if (a' := 13) (pc' := 9) (z := true) rfl rfl rfl (by decide) (fun _ => ?_) (fun h => by cases h)
        refine x_iconst (pc' := 14) rfl rfl ?_
        refine x_retz (z := false) rfl rfl ?_
        refine sK_i (pc' := 82) rfl ?_
        refine x_if (a' := 102) (pc' := 85) (z := true) rfl rfl rfl (by decide) (fun _ => ?_) (fun h => by cases h)
        refine x_iconst (pc' := 103) rfl rfl ?_
        refine x_reti rfl rfl ?_
        exact k2 q4 (of_decide_eq_true q8) (of_decide_eq_true q13)
  · refine x_iload (pc' := 18) rfl rfl rfl ?_
    refine x_iconst (pc' := 19) rfl rfl ?_
    refine x_bipush (pc' := 21) rfl rfl ?_
    refine x_cs (ls0 := [_, _, _]) (rest := []) rfl rfl rfl rfl ?_
    refine r145_g ?_
    refine sK_i (pc' := 24) rfl ?_
    refine x_ifeq_z (a' := 31) (pc' := 27) (z := (inB a 1 100)) rfl rfl rfl (fun q22 => ?_) (fun q22 => ?_)
    · refine x_iconst (pc' := 32) rfl rfl ?_
      refine x_istore (pc' := 34) (ls' := [_, _, _, _, _, _, _, _]) rfl rfl rfl rfl ?_
      refine x_iload_n (pc' := 35) rfl rfl rfl ?_
      refine x_cs (ls0 := [_]) (rest := []) rfl rfl rfl rfl ?_
      refine x_iload_n (pc' := 1) rfl rfl rfl ?_
      refine x_iconst (pc' := 2) rfl rfl ?_
      refine x_iconst (pc' := 3) rfl rfl ?_
      refine x_cs (ls0 := [_, _, _]) (rest := []) rfl rfl rfl rfl ?_
      refine x_iload_n (pc' := 1) rfl rfl rfl ?_
      refine x_iload_n (pc' := 2) rfl rfl rfl ?_
      refine x_icmp (a' := 14) (pc' := 5) (z := decide (b < 0)) rfl rfl rfl (ic_lt (p := b) (q := 0) (gb31 hb) (by decide)) (fun h => absurd (of_decide_eq_true h) (by first | decide | omega | simp)) (fun _ => ?_)
      refine x_iload_n (pc' := 6) rfl rfl rfl ?_
      refine x_iload_n (pc' := 7) rfl rfl rfl ?_
      refine x_icmp (a' := 14) (pc' := 10) (z := decide (4 < b)) rfl rfl rfl (ic_gt (p := b) (q := 4) (gb31 hb) (by decide)) (fun h => absurd (of_decide_eq_true h) (show ¬ 4 < b by omega)) (fun _ => ?_)
      refine x_iconst (pc' := 11) rfl rfl ?_
      refine x_goto (pc' := 15) rfl rfl ?_
      refine x_retz (z := true) rfl rfl ?_
      refine sK_i (pc' := 6) rfl ?_
      refine x_retz (z := true) rfl rfl ?_
      refine sK_i (pc' := 38) rfl ?_
      refine x_if (a' := 65) (pc' := 41) (z := false) rfl rfl rfl (by decide) (fun h => by cases h) (fun _ => ?_)
      refine x_aload_n (pc' := 42) rfl rfl rfl rfl rfl ?_
      refine x_gR (pc' := 45) (r := (some 0)) rfl rfl rfl (kR_769_0 hc) ?_
      refine x_iload_n (pc' := 46) rfl rfl rfl ?_
      refine x_iald (pc' := 47) (N := 5) (x := (mA M 0 b)) rfl rfl rfl (kN_21_0 hc) (io_in (p := b) (N := 5) hb (by decide)) (Eq.trans (congrArg (sA t 21 0) (nn_io (p := b) (Nat.lt_trans hb (by decide)))) (gA hM rfl)) ?_
      refine x_iconst (pc' := 48) rfl rfl ?_
      refine x_icmp_n (a' := 65) (pc' := 51) (z := decide ((mA M 0 b) = 2)) rfl rfl rfl (ik_ne _ _) (fun q26 => ?_) (fun q26 => ?_)
      · refine x_iconst (pc' := 66) rfl rfl ?_
        refine x_istore (pc' := 68) (ls' := [_, _, _, _, _, _, _, _]) rfl rfl rfl rfl ?_
        refine x_aload_n (pc' := 69) rfl rfl rfl rfl rfl ?_
        refine x_aload_n (pc' := 70) rfl rfl rfl rfl rfl ?_
        refine x_iload_n (pc' := 71) rfl rfl rfl ?_
        refine x_iload_n (pc' := 72) rfl rfl rfl ?_
        refine x_iload (pc' := 74) rfl rfl rfl ?_
        refine x_iload (pc' := 76) rfl rfl rfl ?_
        refine x_cv (ls0 := [_, _, _, _, _, sJk]) (rest := [_]) rfl rfl rfl rfl rfl ?_
        refine x_iload_n (pc' := 1) rfl rfl rfl ?_
        refine x_cs (ls0 := [_]) (rest := []) rfl rfl rfl rfl ?_
        refine x_iload_n (pc' := 1) rfl rfl rfl ?_
        refine x_iconst (pc' := 2) rfl rfl ?_
        refine x_iconst (pc' := 3) rfl rfl ?_
        refine x_cs (ls0 := [_, _, _]) (rest := []) rfl rfl rfl rfl ?_
        refine r145_xg (ixo_c6 hp) ?_
        refine sK_i (pc' := 6) rfl ?_
        refine x_retz (z := false) rfl rfl ?_
        refine sK_i (pc' := 4) rfl ?_
        refine x_if (a' := 18) (pc' := 7) (z := true) rfl rfl rfl (by decide) (fun _ => ?_) (fun h => by cases h)
        refine x_iconst (pc' := 19) rfl rfl ?_
        refine x_istore (pc' := 21) (ls' := [_, _, _, _, _, _]) rfl rfl rfl rfl ?_
        refine x_iload (pc' := 23) rfl rfl rfl ?_
        refine x_if (a' := 30) (pc' := 26) (z := false) rfl rfl rfl (by decide) (fun h => by cases h) (fun _ => ?_)
        refine x_iconst (pc' := 27) rfl rfl ?_
        refine x_goto (pc' := 57) rfl rfl ?_
        refine x_reti rfl rfl ?_
        refine sK_i (pc' := 79) rfl ?_
        refine x_cv (ls0 := [_, _]) (rest := []) rfl rfl rfl rfl rfl ?_
        refine x_aload_n (pc' := 1) rfl rfl rfl rfl rfl ?_
        refine x_iload_n (pc' := 2) rfl rfl rfl ?_
        refine x_pI (pc' := 5) rfl rfl rfl ?_
        refine x_iload_n (pc' := 6) rfl rfl rfl ?_
        refine x_if (a' := 13) (pc' := 9) (z := true) rfl rfl rfl (by decide) (fun _ => ?_) (fun h => by cases h)
        refine x_iconst (pc' := 14) rfl rfl ?_
        refine x_retz (z := false) rfl rfl ?_
        refine sK_i (pc' := 82) rfl ?_
        refine x_if (a' := 102) (pc' := 85) (z := true) rfl rfl rfl (by decide) (fun _ => ?_) (fun h => by cases h)
        refine x_iconst (pc' := 103) rfl rfl ?_
        refine x_reti rfl rfl ?_
        exact k3 q4 q22 (of_decide_eq_false q26)
      · refine x_aload_n (pc' := 52) rfl rfl rfl rfl rfl ?_
        refine x_gI (pc' := 55) (x := (io n)) rfl rfl rfl (gFn hM (Fr.refl _) hR) ?_
        refine x_sipush (pc' := 58) rfl rfl ?_
        refine x_icmp_n (a' := 65) (pc' := 61) (z := decide (n < 200)) rfl rfl rfl (ic_gen (p := n) (q := 200) (gn31 hR) (by decide)) (fun q31 => ?_) (fun q31 => ?_)
        · refine x_iconst (pc' := 66) rfl rfl ?_
          refine x_istore (pc' := 68) (ls' := [_, _, _, _, _, _, _, _]) rfl rfl rfl rfl ?_
          refine x_aload_n (pc' := 69) rfl rfl rfl rfl rfl ?_
          refine x_aload_n (pc' := 70) rfl rfl rfl rfl rfl ?_
          refine x_iload_n (pc' := 71) rfl rfl rfl ?_
          refine x_iload_n (pc' := 72) rfl rfl rfl ?_
          refine x_iload (pc' := 74) rfl rfl rfl ?_
          refine x_iload (pc' := 76) rfl rfl rfl ?_
          refine x_cv (ls0 := [_, _, _, _, _, sJk]) (rest := [_]) rfl rfl rfl rfl rfl ?_
          refine x_iload_n (pc' := 1) rfl rfl rfl ?_
          refine x_cs (ls0 := [_]) (rest := []) rfl rfl rfl rfl ?_
          refine x_iload_n (pc' := 1) rfl rfl rfl ?_
          refine x_iconst (pc' := 2) rfl rfl ?_
          refine x_iconst (pc' := 3) rfl rfl ?_
          refine x_cs (ls0 := [_, _, _]) (rest := []) rfl rfl rfl rfl ?_
          refine r145_xg (ixo_c6 hp) ?_
          refine sK_i (pc' := 6) rfl ?_
          refine x_retz (z := false) rfl rfl ?_
          refine sK_i (pc' := 4) rfl ?_
          refine x_if (a' := 18) (pc' := 7) (z := true) rfl rfl rfl (by decide) (fun _ => ?_) (fun h => by cases h)
          refine x_iconst (pc' := 19) rfl rfl ?_
          refine x_istore (pc' := 21) (ls' := [_, _, _, _, _, _]) rfl rfl rfl rfl ?_
          refine x_iload (pc' := 23) rfl rfl rfl ?_
          refine x_if (a' := 30) (pc' := 26) (z := false) rfl rfl rfl (by decide) (fun h => by cases h) (fun _ => ?_)
          refine x_iconst (pc' := 27) rfl rfl ?_
          refine x_goto (pc' := 57) rfl rfl ?_
          refine x_reti rfl rfl ?_
          refine sK_i (pc' := 79) rfl ?_
          refine x_cv (ls0 := [_, _]) (rest := []) rfl rfl rfl rfl rfl ?_
          refine x_aload_n (pc' := 1) rfl rfl rfl rfl rfl ?_
          refine x_iload_n (pc' := 2) rfl rfl rfl ?_
          refine x_pI (pc' := 5) rfl rfl rfl ?_
          refine x_iload_n (pc' := 6) rfl rfl rfl ?_
          refine x_if (a' := 13) (pc' := 9) (z := true) rfl rfl rfl (by decide) (fun _ => ?_) (fun h => by cases h)
          refine x_iconst (pc' := 14) rfl rfl ?_
          refine x_retz (z := false) rfl rfl ?_
          refine sK_i (pc' := 82) rfl ?_
          refine x_if (a' := 102) (pc' := 85) (z := true) rfl rfl rfl (by decide) (fun _ => ?_) (fun h => by cases h)
          refine x_iconst (pc' := 103) rfl rfl ?_
          refine x_reti rfl rfl ?_
          exact k4 q4 q22 (of_decide_eq_true q26) (of_decide_eq_false q31)
        · refine x_iconst (pc' := 62) rfl rfl ?_
          refine x_goto (pc' := 66) rfl rfl ?_
          refine x_istore (pc' := 68) (ls' := [_, _, _, _, _, _, _, _]) rfl rfl rfl rfl ?_
          refine x_aload_n (pc' := 69) rfl rfl rfl rfl rfl ?_
          refine x_aload_n (pc' := 70) rfl rfl rfl rfl rfl ?_
          refine x_iload_n (pc' := 71) rfl rfl rfl ?_
          refine x_iload_n (pc' := 72) rfl rfl rfl ?_
          refine x_iload (pc' := 74) rfl rfl rfl ?_
          refine x_iload (pc' := 76) rfl rfl rfl ?_
          refine x_cv (ls0 := [_, _, _, _, _, sJk]) (rest := [_]) rfl rfl rfl rfl rfl ?_
          refine x_iload_n (pc' := 1) rfl rfl rfl ?_
          refine x_cs (ls0 := [_]) (rest := []) rfl rfl rfl rfl ?_
          refine x_iload_n (pc' := 1) rfl rfl rfl ?_
          refine x_iconst (pc' := 2) rfl rfl ?_
          refine x_iconst (pc' := 3) rfl rfl ?_
          refine x_cs (ls0 := [_, _, _]) (rest := []) rfl rfl rfl rfl ?_
          refine r145_xg (ixo_c6 hp) ?_
          refine sK_i (pc' := 6) rfl ?_
          refine x_retz (z := false) rfl rfl ?_
          refine sK_i (pc' := 4) rfl ?_
          refine x_if (a' := 18) (pc' := 7) (z := true) rfl rfl rfl (by decide) (fun _ => ?_) (fun h => by cases h)
          refine x_iconst (pc' := 19) rfl rfl ?_
          refine x_istore (pc' := 21) (ls' := [_, _, _, _, _, _]) rfl rfl rfl rfl ?_
          refine x_iload (pc' := 23) rfl rfl rfl ?_
          refine x_if (a' := 30) (pc' := 26) (z := false) rfl rfl rfl (by decide) (fun h => by cases h) (fun _ => ?_)
          refine x_iconst (pc' := 27) rfl rfl ?_
          refine x_goto (pc' := 57) rfl rfl ?_
          refine x_reti rfl rfl ?_
          refine sK_i (pc' := 79) rfl ?_
          refine x_cv (ls0 := [_, _]) (rest := []) rfl rfl rfl rfl rfl ?_
          refine x_aload_n (pc' := 1) rfl rfl rfl rfl rfl ?_
          refine x_iload_n (pc' := 2) rfl rfl rfl ?_
          refine x_pI (pc' := 5) rfl rfl rfl ?_
          refine x_iload_n (pc' := 6) rfl rfl rfl ?_
          refine x_if (a' := 13) (pc' := 9) (z := true) rfl rfl rfl (by decide) (fun _ => ?_) (fun h => by cases h)
          refine x_iconst (pc' := 14) rfl rfl ?_
          refine x_retz (z := false) rfl rfl ?_
          refine sK_i (pc' := 82) rfl ?_
          refine x_if (a' := 102) (pc' := 85) (z := true) rfl rfl rfl (by decide) (fun _ => ?_) (fun h => by cases h)
          refine x_iconst (pc' := 103) rfl rfl ?_
          refine x_reti rfl rfl ?_
          exact k5 q4 q22 (of_decide_eq_true q26) (of_decide_eq_true q31)
    · refine x_iconst (pc' := 28) rfl rfl ?_
      refine x_goto (pc' := 32) rfl rfl ?_
      refine x_istore (pc' := 34) (ls' := [_, _, _, _, _, _, _, _]) rfl rfl rfl rfl ?_
      refine x_iload_n (pc' := 35) rfl rfl rfl ?_
      refine x_cs (ls0 := [_]) (rest := []) rfl rfl rfl rfl ?_
      refine x_iload_n (pc' := 1) rfl rfl rfl ?_
      refine x_iconst (pc' := 2) rfl rfl ?_
      refine x_iconst (pc' := 3) rfl rfl ?_
      refine x_cs (ls0 := [_, _, _]) (rest := []) rfl rfl rfl rfl ?_
      refine x_iload_n (pc' := 1) rfl rfl rfl ?_
      refine x_iload_n (pc' := 2) rfl rfl rfl ?_
      refine x_icmp (a' := 14) (pc' := 5) (z := decide (b < 0)) rfl rfl rfl (ic_lt (p := b) (q := 0) (gb31 hb) (by decide)) (fun h => absurd (of_decide_eq_true h) (by first | decide | omega | simp)) (fun _ => ?_)
      refine x_iload_n (pc' := 6) rfl rfl rfl ?_
      refine x_iload_n (pc' := 7) rfl rfl rfl ?_
      refine x_icmp (a' := 14) (pc' := 10) (z := decide (4 < b)) rfl rfl rfl (ic_gt (p := b) (q := 4) (gb31 hb) (by decide)) (fun h => absurd (of_decide_eq_true h) (show ¬ 4 < b by omega)) (fun _ => ?_)
      refine x_iconst (pc' := 11) rfl rfl ?_
      refine x_goto (pc' := 15) rfl rfl ?_
      refine x_retz (z := true) rfl rfl ?_
      refine sK_i (pc' := 6) rfl ?_
      refine x_retz (z := true) rfl rfl ?_
      refine sK_i (pc' := 38) rfl ?_
      refine x_if (a' := 65) (pc' := 41) (z := false) rfl rfl rfl (by decide) (fun h => by cases h) (fun _ => ?_)
      refine x_aload_n (pc' := 42) rfl rfl rfl rfl rfl ?_
      refine x_gR (pc' := 45) (r := (some 0)) rfl rfl rfl (kR_769_0 hc) ?_
      refine x_iload_n (pc' := 46) rfl rfl rfl ?_
      refine x_iald (pc' := 47) (N := 5) (x := (mA M 0 b)) rfl rfl rfl (kN_21_0 hc) (io_in (p := b) (N := 5) hb (by decide)) (Eq.trans (congrArg (sA t 21 0) (nn_io (p := b) (Nat.lt_trans hb (by decide)))) (gA hM rfl)) ?_
      refine x_iconst (pc' := 48) rfl rfl ?_
      refine x_icmp_n (a' := 65) (pc' := 51) (z := decide ((mA M 0 b) = 2)) rfl rfl rfl (ik_ne _ _) (fun q43 => ?_) (fun q43 => ?_)
      · refine x_iconst (pc' := 66) rfl rfl ?_
        refine x_istore (pc' := 68) (ls' := [_, _, _, _, _, _, _, _]) rfl rfl rfl rfl ?_
        refine x_aload_n (pc' := 69) rfl rfl rfl rfl rfl ?_
        refine x_aload_n (pc' := 70) rfl rfl rfl rfl rfl ?_
        refine x_iload_n (pc' := 71) rfl rfl rfl ?_
        refine x_iload_n (pc' := 72) rfl rfl rfl ?_
        refine x_iload (pc' := 74) rfl rfl rfl ?_
        refine x_iload (pc' := 76) rfl rfl rfl ?_
        refine x_cv (ls0 := [_, _, _, _, _, sJk]) (rest := [_]) rfl rfl rfl rfl rfl ?_
        refine x_iload_n (pc' := 1) rfl rfl rfl ?_
        refine x_cs (ls0 := [_]) (rest := []) rfl rfl rfl rfl ?_
        refine x_iload_n (pc' := 1) rfl rfl rfl ?_
        refine x_iconst (pc' := 2) rfl rfl ?_
        refine x_iconst (pc' := 3) rfl rfl ?_
        refine x_cs (ls0 := [_, _, _]) (rest := []) rfl rfl rfl rfl ?_
        refine r145_xg (ixo_c6 hp) ?_
        refine sK_i (pc' := 6) rfl ?_
        refine x_retz (z := false) rfl rfl ?_
        refine sK_i (pc' := 4) rfl ?_
        refine x_if (a' := 18) (pc' := 7) (z := true) rfl rfl rfl (by decide) (fun _ => ?_) (fun h => by cases h)
        refine x_iconst (pc' := 19) rfl rfl ?_
        refine x_istore (pc' := 21) (ls' := [_, _, _, _, _, _]) rfl rfl rfl rfl ?_
        refine x_iload (pc' := 23) rfl rfl rfl ?_
        refine x_if (a' := 30) (pc' := 26) (z := false) rfl rfl rfl (by decide) (fun h => by cases h) (fun _ => ?_)
        refine x_iconst (pc' := 27) rfl rfl ?_
        refine x_goto (pc' := 57) rfl rfl ?_
        refine x_reti rfl rfl ?_
        refine sK_i (pc' := 79) rfl ?_
        refine x_cv (ls0 := [_, _]) (rest := []) rfl rfl rfl rfl rfl ?_
        refine x_aload_n (pc' := 1) rfl rfl rfl rfl rfl ?_
        refine x_iload_n (pc' := 2) rfl rfl rfl ?_
        refine x_pI (pc' := 5) rfl rfl rfl ?_
        refine x_iload_n (pc' := 6) rfl rfl rfl ?_
        refine x_if (a' := 13) (pc' := 9) (z := true) rfl rfl rfl (by decide) (fun _ => ?_) (fun h => by cases h)
        refine x_iconst (pc' := 14) rfl rfl ?_
        refine x_retz (z := false) rfl rfl ?_
        refine sK_i (pc' := 82) rfl ?_
        refine x_if (a' := 102) (pc' := 85) (z := true) rfl rfl rfl (by decide) (fun _ => ?_) (fun h => by cases h)
        refine x_iconst (pc' := 103) rfl rfl ?_
        refine x_reti rfl rfl ?_
        exact k6 q4 q22 (of_decide_eq_false q43)
      · refine x_aload_n (pc' := 52) rfl rfl rfl rfl rfl ?_
        refine x_gI (pc' := 55) (x := (io n)) rfl rfl rfl (gFn hM (Fr.refl _) hR) ?_
        refine x_sipush (pc' := 58) rfl rfl ?_
        refine x_icmp_n (a' := 65) (pc' := 61) (z := decide (n < 200)) rfl rfl rfl (ic_gen (p := n) (q := 200) (gn31 hR) (by decide)) (fun q48 => ?_) (fun q48 => ?_)
        · refine x_iconst (pc' := 66) rfl rfl ?_
          refine x_istore (pc' := 68) (ls' := [_, _, _, _, _, _, _, _]) rfl rfl rfl rfl ?_
          refine x_aload_n (pc' := 69) rfl rfl rfl rfl rfl ?_
          refine x_aload_n (pc' := 70) rfl rfl rfl rfl rfl ?_
          refine x_iload_n (pc' := 71) rfl rfl rfl ?_
          refine x_iload_n (pc' := 72) rfl rfl rfl ?_
          refine x_iload (pc' := 74) rfl rfl rfl ?_
          refine x_iload (pc' := 76) rfl rfl rfl ?_
          refine x_cv (ls0 := [_, _, _, _, _, sJk]) (rest := [_]) rfl rfl rfl rfl rfl ?_
          refine x_iload_n (pc' := 1) rfl rfl rfl ?_
          refine x_cs (ls0 := [_]) (rest := []) rfl rfl rfl rfl ?_
          refine x_iload_n (pc' := 1) rfl rfl rfl ?_
          refine x_iconst (pc' := 2) rfl rfl ?_
          refine x_iconst (pc' := 3) rfl rfl ?_
          refine x_cs (ls0 := [_, _, _]) (rest := []) rfl rfl rfl rfl ?_
          refine r145_xg (ixo_c6 hp) ?_
          refine sK_i (pc' := 6) rfl ?_
          refine x_retz (z := false) rfl rfl ?_
          refine sK_i (pc' := 4) rfl ?_
          refine x_if (a' := 18) (pc' := 7) (z := true) rfl rfl rfl (by decide) (fun _ => ?_) (fun h => by cases h)
          refine x_iconst (pc' := 19) rfl rfl ?_
          refine x_istore (pc' := 21) (ls' := [_, _, _, _, _, _]) rfl rfl rfl rfl ?_
          refine x_iload (pc' := 23) rfl rfl rfl ?_
          refine x_if (a' := 30) (pc' := 26) (z := false) rfl rfl rfl (by decide) (fun h => by cases h) (fun _ => ?_)
          refine x_iconst (pc' := 27) rfl rfl ?_
          refine x_goto (pc' := 57) rfl rfl ?_
          refine x_reti rfl rfl ?_
          refine sK_i (pc' := 79) rfl ?_
          refine x_cv (ls0 := [_, _]) (rest := []) rfl rfl rfl rfl rfl ?_
          refine x_aload_n (pc' := 1) rfl rfl rfl rfl rfl ?_
          refine x_iload_n (pc' := 2) rfl rfl rfl ?_
          refine x_pI (pc' := 5) rfl rfl rfl ?_
          refine x_iload_n (pc' := 6) rfl rfl rfl ?_
          refine x_if (a' := 13) (pc' := 9) (z := true) rfl rfl rfl (by decide) (fun _ => ?_) (fun h => by cases h)
          refine x_iconst (pc' := 14) rfl rfl ?_
          refine x_retz (z := false) rfl rfl ?_
          refine sK_i (pc' := 82) rfl ?_
          refine x_if (a' := 102) (pc' := 85) (z := true) rfl rfl rfl (by decide) (fun _ => ?_) (fun h => by cases h)
          refine x_iconst (pc' := 103) rfl rfl ?_
          refine x_reti rfl rfl ?_
          exact k7 q4 q22 (of_decide_eq_true q43) (of_decide_eq_false q48)
        · refine x_iconst (pc' := 62) rfl rfl ?_
          refine x_goto (pc' := 66) rfl rfl ?_
          refine x_istore (pc' := 68) (ls' := [_, _, _, _, _, _, _, _]) rfl rfl rfl rfl ?_
          refine x_aload_n (pc' := 69) rfl rfl rfl rfl rfl ?_
          refine x_aload_n (pc' := 70) rfl rfl rfl rfl rfl ?_
          refine x_iload_n (pc' := 71) rfl rfl rfl ?_
          refine x_iload_n (pc' := 72) rfl rfl rfl ?_
          refine x_iload (pc' := 74) rfl rfl rfl ?_
          refine x_iload (pc' := 76) rfl rfl rfl ?_
          refine x_cv (ls0 := [_, _, _, _, _, sJk]) (rest := [_]) rfl rfl rfl rfl rfl ?_
          refine x_iload_n (pc' := 1) rfl rfl rfl ?_
          refine x_cs (ls0 := [_]) (rest := []) rfl rfl rfl rfl ?_
          refine x_iload_n (pc' := 1) rfl rfl rfl ?_
          refine x_iconst (pc' := 2) rfl rfl ?_
          refine x_iconst (pc' := 3) rfl rfl ?_
          refine x_cs (ls0 := [_, _, _]) (rest := []) rfl rfl rfl rfl ?_
          refine r145_xg (ixo_c6 hp) ?_
          refine sK_i (pc' := 6) rfl ?_
          refine x_retz (z := false) rfl rfl ?_
          refine sK_i (pc' := 4) rfl ?_
          refine x_if (a' := 18) (pc' := 7) (z := true) rfl rfl rfl (by decide) (fun _ => ?_) (fun h => by cases h)
          refine x_iconst (pc' := 19) rfl rfl ?_
          refine x_istore (pc' := 21) (ls' := [_, _, _, _, _, _]) rfl rfl rfl rfl ?_
          refine x_iload (pc' := 23) rfl rfl rfl ?_
          refine x_if (a' := 30) (pc' := 26) (z := false) rfl rfl rfl (by decide) (fun h => by cases h) (fun _ => ?_)
          refine x_iconst (pc' := 27) rfl rfl ?_
          refine x_goto (pc' := 57) rfl rfl ?_
          refine x_reti rfl rfl ?_
          refine sK_i (pc' := 79) rfl ?_
          refine x_cv (ls0 := [_, _]) (rest := []) rfl rfl rfl rfl rfl ?_
          refine x_aload_n (pc' := 1) rfl rfl rfl rfl rfl ?_
          refine x_iload_n (pc' := 2) rfl rfl rfl ?_
          refine x_pI (pc' := 5) rfl rfl rfl ?_
          refine x_iload_n (pc' := 6) rfl rfl rfl ?_
          refine x_if (a' := 13) (pc' := 9) (z := true) rfl rfl rfl (by decide) (fun _ => ?_) (fun h => by cases h)
          refine x_iconst (pc' := 14) rfl rfl ?_
          refine x_retz (z := false) rfl rfl ?_
          refine sK_i (pc' := 82) rfl ?_
          refine x_if (a' := 102) (pc' := 85) (z := true) rfl rfl rfl (by decide) (fun _ => ?_) (fun h => by cases h)
          refine x_iconst (pc' := 103) rfl rfl ?_
          refine x_reti rfl rfl ?_
          exact k8 q4 q22 (of_decide_eq_true q43) (of_decide_eq_true q48)
set_option maxHeartbeats 4000000 in
set_option maxRecDepth 10000 in
theorem r205_x01 {t : sT} {Q : sRs → sT → Prop} {M : sM} {n : Nat} {x : Int32} {x1 : Int32} {s : Bool} {p : Int32} {a : Int32}
    (hV : Vr t M n)
    (hp : ixo x 6 = none)
    (hp1 : ixo x1 5 = none)
    (k0 : Q (.inl (some (.inl 0))) (sIw t 768 0 1)) :
    X 205 0 [.inr (.inr (12, (some 0))), .inl x, .inl x1, .inl (bz s), .inl p, .inl a, sJk, sJk] [] t Q := by
  obtain ⟨hM, hc, hR⟩ := hV
  refine x_iload_n (pc' := 1) rfl rfl rfl ?_
  refine x_cs (ls0 := [_]) (rest := []) rfl rfl rfl rfl ?_
  refine x_iload_n (pc' := 1) rfl rfl rfl ?_
  refine x_iconst (pc' := 2) rfl rfl ?_
  refine x_iconst (pc' := 3) rfl rfl ?_
  refine x_cs (ls0 := [_, _, _]) (rest := []) rfl rfl rfl rfl ?_
  refine r145_xg (ixo_c5 hp1) ?_
  refine sK_i (pc' := 6) rfl ?_
  refine x_retz (z := false) rfl rfl ?_
  refine sK_i (pc' := 4) rfl ?_
  refine x_if (a' := 31) (pc' := 7) (z := true) rfl rfl rfl (by decide) (fun _ => ?_) (fun h => by cases h)
  refine x_iconst (pc' := 32) rfl rfl ?_
  refine x_istore (pc' := 34) (ls' := [_, _, _, _, _, _, _, _]) rfl rfl rfl rfl ?_
  refine x_iload_n (pc' := 35) rfl rfl rfl ?_
  refine x_cs (ls0 := [_]) (rest := []) rfl rfl rfl rfl ?_
  refine x_iload_n (pc' := 1) rfl rfl rfl ?_
  refine x_iconst (pc' := 2) rfl rfl ?_
  refine x_iconst (pc' := 3) rfl rfl ?_
  refine x_cs (ls0 := [_, _, _]) (rest := []) rfl rfl rfl rfl ?_
  refine r145_xg (ixo_c5 hp1) ?_
  refine sK_i (pc' := 6) rfl ?_
  refine x_retz (z := false) rfl rfl ?_
  refine sK_i (pc' := 38) rfl ?_
  refine x_if (a' := 65) (pc' := 41) (z := true) rfl rfl rfl (by decide) (fun _ => ?_) (fun h => by cases h)
  refine x_iconst (pc' := 66) rfl rfl ?_
  refine x_istore (pc' := 68) (ls' := [_, _, _, _, _, _, _, _]) rfl rfl rfl rfl ?_
  refine x_aload_n (pc' := 69) rfl rfl rfl rfl rfl ?_
  refine x_aload_n (pc' := 70) rfl rfl rfl rfl rfl ?_
  refine x_iload_n (pc' := 71) rfl rfl rfl ?_
  refine x_iload_n (pc' := 72) rfl rfl rfl ?_
  refine x_iload (pc' := 74) rfl rfl rfl ?_
  refine x_iload (pc' := 76) rfl rfl rfl ?_
  refine x_cv (ls0 := [_, _, _, _, _, sJk]) (rest := [_]) rfl rfl rfl rfl rfl ?_
  refine x_iload_n (pc' := 1) rfl rfl rfl ?_
  refine x_cs (ls0 := [_]) (rest := []) rfl rfl rfl rfl ?_
  refine x_iload_n (pc' := 1) rfl rfl rfl ?_
  refine x_iconst (pc' := 2) rfl rfl ?_
  refine x_iconst (pc' := 3) rfl rfl ?_
  refine x_cs (ls0 := [_, _, _]) (rest := []) rfl rfl rfl rfl ?_
  refine r145_xg (ixo_c6 hp) ?_
  refine sK_i (pc' := 6) rfl ?_
  refine x_retz (z := false) rfl rfl ?_
  refine sK_i (pc' := 4) rfl ?_
  refine x_if (a' := 18) (pc' := 7) (z := true) rfl rfl rfl (by decide) (fun _ => ?_) (fun h => by cases h)
  refine x_iconst (pc' := 19) rfl rfl ?_
  refine x_istore (pc' := 21) (ls' := [_, _, _, _, _, _]) rfl rfl rfl rfl ?_
  refine x_iload (pc' := 23) rfl rfl rfl ?_
  refine x_if (a' := 30) (pc' := 26) (z := false) rfl rfl rfl (by decide) (fun h => by cases h) (fun _ => ?_)
  refine x_iconst (pc' := 27) rfl rfl ?_
  refine x_goto (pc' := 57) rfl rfl ?_
  refine x_reti rfl rfl ?_
  refine sK_i (pc' := 79) rfl ?_
  refine x_cv (ls0 := [_, _]) (rest := []) rfl rfl rfl rfl rfl ?_
  refine x_aload_n (pc' := 1) rfl rfl rfl rfl rfl ?_
  refine x_iload_n (pc' := 2) rfl rfl rfl ?_
  refine x_pI (pc' := 5) rfl rfl rfl ?_
  refine x_iload_n (pc' := 6) rfl rfl rfl ?_
  refine x_if (a' := 13) (pc' := 9) (z := true) rfl rfl rfl (by decide) (fun _ => ?_) (fun h => by cases h)
  refine x_iconst (pc' := 14) rfl rfl ?_
  refine x_retz (z := false) rfl rfl ?_
  refine sK_i (pc' := 82) rfl ?_
  refine x_if (a' := 102) (pc' := 85) (z := true) rfl rfl rfl (by decide) (fun _ => ?_) (fun h => by cases h)
  refine x_iconst (pc' := 103) rfl rfl ?_
  refine x_reti rfl rfl ?_
  exact k0
set_option maxHeartbeats 4000000 in
set_option maxRecDepth 10000 in
theorem r206 {t : sT} {Q : sRs → sT → Prop} {M : sM} {n : Nat} {m : Nat} {b : Nat} {s : Bool} {p : Int32} {a : Int32} {h : Int32}
    (hV : Vr t M n)
    (hm : m < 6)
    (hb : b < 5)
    (k0 : (prB b p) = false → (mA M 0 b) = 0 → Q (.inl (some (.inl 0))) (sIw t 768 0 2))
    (k1 : (prB b p) = false → ¬ ((mA M 0 b) = 0) → ¬ (n < 200) → Q (.inl (some (.inl 0))) (sIw t 768 0 2))
    (k2 : (prB b p) = false → ¬ ((mA M 0 b) = 0) → n < 200 → Q (.inl (some (.inl 0))) (sIw t 768 0 2))
    (k3 : (prB b p) = true → (inB a 1 100) = false → (mA M 0 b) = 0 → Q (.inl (some (.inl 0))) (sIw t 768 0 2))
    (k4 : (prB b p) = true → (inB a 1 100) = false → ¬ ((mA M 0 b) = 0) → ¬ (n < 200) → Q (.inl (some (.inl 0))) (sIw t 768 0 2))
    (k5 : (prB b p) = true → (inB a 1 100) = false → ¬ ((mA M 0 b) = 0) → n < 200 → Q (.inl (some (.inl 0))) (sIw t 768 0 2))
    (k6 : (prB b p) = true → (inB a 1 100) = true → (prB b h) = false → (mA M 0 b) = 0 → Q (.inl (some (.inl 0))) (sIw t 768 0 2))
    (k7 : (prB b p) = true → (inB a 1 100) = true → (prB b h) = false → ¬ ((mA M 0 b) = 0) → ¬ (n < 200) → Q (.inl (some (.inl 0))) (sIw t 768 0 2))
    (k8 : (prB b p) = true → (inB a 1 100) = true → (prB b h) = false → ¬ ((mA M 0 b) = 0) → n < 200 → Q (.inl (some (.inl 0))) (sIw t 768 0 2))
    (k9 : (prB b p) = true → (inB a 1 100) = true → (prB b h) = true → (mA M 0 b) = 0 → (mB M 2 m) = true → Q (.inl (some (.inl 0))) (sIw t 768 0 3))
    (k10 : (prB b p) = true → (inB a 1 100) = true → (prB b h) = true → (mA M 0 b) = 0 → (mB M 2 m) = false → Q (.inl (some (.inl 0))) (sIw t 768 0 3))
    (k11 : (prB b p) = true → (inB a 1 100) = true → (prB b h) = true → ¬ ((mA M 0 b) = 0) → ¬ (n < 200) → (mB M 2 m) = true → Q (.inl (some (.inl 0))) (sIw t 768 0 3))
    (k12 : (prB b p) = true → (inB a 1 100) = true → (prB b h) = true → ¬ ((mA M 0 b) = 0) → ¬ (n < 200) → (mB M 2 m) = false → Q (.inl (some (.inl 0))) (sIw t 768 0 3))
    (k13 : (prB b p) = true → (inB a 1 100) = true → (prB b h) = true → ¬ ((mA M 0 b) = 0) → n < 200 → (mB M 2 m) = true → Q (.inl (some (.inl 0))) (sIw t 768 0 3))
    (k14 : (prB b p) = true → (inB a 1 100) = true → (prB b h) = true → ¬ ((mA M 0 b) = 0) → n < 200 → (mB M 2 m) = false → X 200 0 [.inr (.inr (12, (some 0))), .inl (io m), .inl (io b), .inl (bz s), .inl p, .inl a, .inl a] [] (sIw t 768 0 0) (sK 200 206 105 [.inr (.inr (12, (some 0))), .inl (io m), .inl (io b), .inl (bz s), .inl p, .inl a, .inl h, .inl 1, .inl 1, sJk] [] Q)) :
    X 206 0 [.inr (.inr (12, (some 0))), .inl (io m), .inl (io b), .inl (bz s), .inl p, .inl a, .inl h, sJk, sJk, sJk] [] t Q := by
  obtain ⟨hM, hc, hR⟩ := hV
  refine x_iload_n (pc' := 1) rfl rfl rfl ?_
  refine x_cs (ls0 := [_]) (rest := []) rfl rfl rfl rfl ?_
  refine x_iload_n (pc' := 1) rfl rfl rfl ?_
  refine x_iconst (pc' := 2) rfl rfl ?_
  refine x_iconst (pc' := 3) rfl rfl ?_
  refine x_cs (ls0 := [_, _, _]) (rest := []) rfl rfl rfl rfl ?_
  refine x_iload_n (pc' := 1) rfl rfl rfl ?_
  refine x_iload_n (pc' := 2) rfl rfl rfl ?_
  refine x_icmp (a' := 14) (pc' := 5) (z := decide (b < 0)) rfl rfl rfl (ic_lt (p := b) (q := 0) (gb31 hb) (by decide)) (fun h => absurd (of_decide_eq_true h) (by first | decide | omega | simp)) (fun _ => ?_)
  refine x_iload_n (pc' := 6) rfl rfl rfl ?_
  refine x_iload_n (pc' := 7) rfl rfl rfl ?_
  refine x_icmp (a' := 14) (pc' := 10) (z := decide (4 < b)) rfl rfl rfl (ic_gt (p := b) (q := 4) (gb31 hb) (by decide)) (fun h => absurd (of_decide_eq_true h) (show ¬ 4 < b by omega)) (fun _ => ?_)
  refine x_iconst (pc' := 11) rfl rfl ?_
  refine x_goto (pc' := 15) rfl rfl ?_
  refine x_retz (z := true) rfl rfl ?_
  refine sK_i (pc' := 6) rfl ?_
  refine x_retz (z := true) rfl rfl ?_
  refine sK_i (pc' := 4) rfl ?_
  refine x_if (a' := 40) (pc' := 7) (z := false) rfl rfl rfl (by decide) (fun h => by cases h) (fun _ => ?_)
  refine x_iload_n (pc' := 8) rfl rfl rfl ?_
  refine x_iload (pc' := 10) rfl rfl rfl ?_
  refine x_cs (ls0 := [_, _]) (rest := []) rfl rfl rfl rfl ?_
  refine r150_g hb ?_
  refine sK_i (pc' := 13) rfl ?_
  refine x_ifeq_z (a' := 40) (pc' := 16) (z := (prB b p)) rfl rfl rfl (fun q4 => ?_) (fun q4 => ?_)
  · refine x_iconst (pc' := 41) rfl rfl ?_
    refine x_istore (pc' := 43) (ls' := [_, _, _, _, _, _, _, _, _, _]) rfl rfl rfl rfl ?_
    refine x_iload_n (pc' := 44) rfl rfl rfl ?_
    refine x_cs (ls0 := [_]) (rest := []) rfl rfl rfl rfl ?_
    refine x_iload_n (pc' := 1) rfl rfl rfl ?_
    refine x_iconst (pc' := 2) rfl rfl ?_
    refine x_iconst (pc' := 3) rfl rfl ?_
    refine x_cs (ls0 := [_, _, _]) (rest := []) rfl rfl rfl rfl ?_
    refine x_iload_n (pc' := 1) rfl rfl rfl ?_
    refine x_iload_n (pc' := 2) rfl rfl rfl ?_
    refine x_icmp (a' := 14) (pc' := 5) (z := decide (b < 0)) rfl rfl rfl (ic_lt (p := b) (q := 0) (gb31 hb) (by decide)) (fun h => absurd (of_decide_eq_true h) (by first | decide | omega | simp)) (fun _ => ?_)
    refine x_iload_n (pc' := 6) rfl rfl rfl ?_
    refine x_iload_n (pc' := 7) rfl rfl rfl ?_
    refine x_icmp (a' := 14) (pc' := 10) (z := decide (4 < b)) rfl rfl rfl (ic_gt (p := b) (q := 4) (gb31 hb) (by decide)) (fun h => absurd (of_decide_eq_true h) (show ¬ 4 < b by omega)) (fun _ => ?_)
    refine x_iconst (pc' := 11) rfl rfl ?_
    refine x_goto (pc' := 15) rfl rfl ?_
    refine x_retz (z := true) rfl rfl ?_
    refine sK_i (pc' := 6) rfl ?_
    refine x_retz (z := true) rfl rfl ?_
    refine sK_i (pc' := 47) rfl ?_
    refine x_if (a' := 73) (pc' := 50) (z := false) rfl rfl rfl (by decide) (fun h => by cases h) (fun _ => ?_)
    refine x_aload_n (pc' := 51) rfl rfl rfl rfl rfl ?_
    refine x_gR (pc' := 54) (r := (some 0)) rfl rfl rfl (kR_769_0 hc) ?_
    refine x_iload_n (pc' := 55) rfl rfl rfl ?_
    refine x_iald (pc' := 56) (N := 5) (x := (mA M 0 b)) rfl rfl rfl (kN_21_0 hc) (io_in (p := b) (N := 5) hb (by decide)) (Eq.trans (congrArg (sA t 21 0) (nn_io (p := b) (Nat.lt_trans hb (by decide)))) (gA hM rfl)) ?_
    refine x_if (a' := 73) (pc' := 59) (z := decide ((mA M 0 b) = 0)) rfl rfl rfl rfl (fun q8 => ?_) (fun q8 => ?_)
    · refine x_iconst (pc' := 74) rfl rfl ?_
      refine x_istore (pc' := 76) (ls' := [_, _, _, _, _, _, _, _, _, _]) rfl rfl rfl rfl ?_
      refine x_aload_n (pc' := 77) rfl rfl rfl rfl rfl ?_
      refine x_aload_n (pc' := 78) rfl rfl rfl rfl rfl ?_
      refine x_iload_n (pc' := 79) rfl rfl rfl ?_
      refine x_iload_n (pc' := 80) rfl rfl rfl ?_
      refine x_iload (pc' := 82) rfl rfl rfl ?_
      refine x_iload (pc' := 84) rfl rfl rfl ?_
      refine x_cv (ls0 := [_, _, _, _, _, sJk]) (rest := [_]) rfl rfl rfl rfl rfl ?_
      refine x_iload_n (pc' := 1) rfl rfl rfl ?_
      refine x_cs (ls0 := [_]) (rest := []) rfl rfl rfl rfl ?_
      refine x_iload_n (pc' := 1) rfl rfl rfl ?_
      refine x_iconst (pc' := 2) rfl rfl ?_
      refine x_iconst (pc' := 3) rfl rfl ?_
      refine x_cs (ls0 := [_, _, _]) (rest := []) rfl rfl rfl rfl ?_
      refine x_iload_n (pc' := 1) rfl rfl rfl ?_
      refine x_iload_n (pc' := 2) rfl rfl rfl ?_
      refine x_icmp (a' := 14) (pc' := 5) (z := decide (m < 0)) rfl rfl rfl (ic_lt (p := m) (q := 0) (gm31 hm) (by decide)) (fun h => absurd (of_decide_eq_true h) (by first | decide | omega | simp)) (fun _ => ?_)
      refine x_iload_n (pc' := 6) rfl rfl rfl ?_
      refine x_iload_n (pc' := 7) rfl rfl rfl ?_
      refine x_icmp (a' := 14) (pc' := 10) (z := decide (5 < m)) rfl rfl rfl (ic_gt (p := m) (q := 5) (gm31 hm) (by decide)) (fun h => absurd (of_decide_eq_true h) (show ¬ 5 < m by omega)) (fun _ => ?_)
      refine x_iconst (pc' := 11) rfl rfl ?_
      refine x_goto (pc' := 15) rfl rfl ?_
      refine x_retz (z := true) rfl rfl ?_
      refine sK_i (pc' := 6) rfl ?_
      refine x_retz (z := true) rfl rfl ?_
      refine sK_i (pc' := 4) rfl ?_
      refine x_if (a' := 18) (pc' := 7) (z := false) rfl rfl rfl (by decide) (fun h => by cases h) (fun _ => ?_)
      refine x_iload_n (pc' := 8) rfl rfl rfl ?_
      refine x_cs (ls0 := [_]) (rest := []) rfl rfl rfl rfl ?_
      refine x_iload_n (pc' := 1) rfl rfl rfl ?_
      refine x_iconst (pc' := 2) rfl rfl ?_
      refine x_iconst (pc' := 3) rfl rfl ?_
      refine x_cs (ls0 := [_, _, _]) (rest := []) rfl rfl rfl rfl ?_
      refine x_iload_n (pc' := 1) rfl rfl rfl ?_
      refine x_iload_n (pc' := 2) rfl rfl rfl ?_
      refine x_icmp (a' := 14) (pc' := 5) (z := decide (b < 0)) rfl rfl rfl (ic_lt (p := b) (q := 0) (gb31 hb) (by decide)) (fun h => absurd (of_decide_eq_true h) (by first | decide | omega | simp)) (fun _ => ?_)
      refine x_iload_n (pc' := 6) rfl rfl rfl ?_
      refine x_iload_n (pc' := 7) rfl rfl rfl ?_
      refine x_icmp (a' := 14) (pc' := 10) (z := decide (4 < b)) rfl rfl rfl (ic_gt (p := b) (q := 4) (gb31 hb) (by decide)) (fun h => absurd (of_decide_eq_true h) (show ¬ 4 < b by omega)) (fun _ => ?_)
      refine x_iconst (pc' := 11) rfl rfl ?_
      refine x_goto (pc' := 15) rfl rfl ?_
      refine x_retz (z := true) rfl rfl ?_
      refine sK_i (pc' := 6) rfl ?_
      refine x_retz (z := true) rfl rfl ?_
      refine sK_i (pc' := 11) rfl ?_
      refine x_if (a' := 18) (pc' := 14) (z := false) rfl rfl rfl (by decide) (fun h => by cases h) (fun _ => ?_)
      refine x_iconst (pc' := 15) rfl rfl ?_
      refine x_goto (pc' := 19) rfl rfl ?_
      refine x_istore (pc' := 21) (ls' := [_, _, _, _, _, _]) rfl rfl rfl rfl ?_
      refine x_iload (pc' := 23) rfl rfl rfl ?_
      refine x_if (a' := 30) (pc' := 26) (z := true) rfl rfl rfl (by decide) (fun _ => ?_) (fun h => by cases h)
      refine x_iload_n (pc' := 31) rfl rfl rfl ?_
      refine x_if (a' := 38) (pc' := 34) (z := false) rfl rfl rfl (by decide) (fun h => by cases h) (fun _ => ?_)
      refine x_iconst (pc' := 35) rfl rfl ?_
      refine x_goto (pc' := 57) rfl rfl ?_
      refine x_reti rfl rfl ?_
      refine sK_i (pc' := 87) rfl ?_
      refine x_cv (ls0 := [_, _]) (rest := []) rfl rfl rfl rfl rfl ?_
      refine x_aload_n (pc' := 1) rfl rfl rfl rfl rfl ?_
      refine x_iload_n (pc' := 2) rfl rfl rfl ?_
      refine x_pI (pc' := 5) rfl rfl rfl ?_
      refine x_iload_n (pc' := 6) rfl rfl rfl ?_
      refine x_if (a' := 13) (pc' := 9) (z := true) rfl rfl rfl (by decide) (fun _ => ?_) (fun h => by cases h)
      refine x_iconst (pc' := 14) rfl rfl ?_
      refine x_retz (z := false) rfl rfl ?_
      refine sK_i (pc' := 90) rfl ?_
      refine x_if (a' := 95) (pc' := 93) (z := false) rfl rfl rfl (by decide) (fun h => by cases h) (fun _ => ?_)
      refine x_iconst (pc' := 94) rfl rfl ?_
      refine x_reti rfl rfl ?_
      exact k0 q4 (of_decide_eq_true q8)
    · refine x_aload_n (pc' := 60) rfl rfl rfl rfl rfl ?_
      refine x_gI (pc' := 63) (x := (io n)) rfl rfl rfl (gFn hM (Fr.refl _) hR) ?_
      refine x_sipush (pc' := 66) rfl rfl ?_
      refine x_icmp_n (a' := 73) (pc' := 69) (z := decide (n < 200)) rfl rfl rfl (ic_gen (p := n) (q := 200) (gn31 hR) (by decide)) (fun q19 => ?_) (fun q19 => ?_)
      · refine x_iconst (pc' := 74) rfl rfl ?_
        refine x_istore (pc' := 76) (ls' := [_, _, _, _, _, _, _, _, _, _]) rfl rfl rfl rfl ?_
        refine x_aload_n (pc' := 77) rfl rfl rfl rfl rfl ?_
        refine x_aload_n (pc' := 78) rfl rfl rfl rfl rfl ?_
        refine x_iload_n (pc' := 79) rfl rfl rfl ?_
        refine x_iload_n (pc' := 80) rfl rfl rfl ?_
        refine x_iload (pc' := 82) rfl rfl rfl ?_
        refine x_iload (pc' := 84) rfl rfl rfl ?_
        refine x_cv (ls0 := [_, _, _, _, _, sJk]) (rest := [_]) rfl rfl rfl rfl rfl ?_
        refine x_iload_n (pc' := 1) rfl rfl rfl ?_
        refine x_cs (ls0 := [_]) (rest := []) rfl rfl rfl rfl ?_
        refine x_iload_n (pc' := 1) rfl rfl rfl ?_
        refine x_iconst (pc' := 2) rfl rfl ?_
        refine x_iconst (pc' := 3) rfl rfl ?_
        refine x_cs (ls0 := [_, _, _]) (rest := []) rfl rfl rfl rfl ?_
        refine x_iload_n (pc' := 1) rfl rfl rfl ?_
        refine x_iload_n (pc' := 2) rfl rfl rfl ?_
        refine x_icmp (a' := 14) (pc' := 5) (z := decide (m < 0)) rfl rfl rfl (ic_lt (p := m) (q := 0) (gm31 hm) (by decide)) (fun h => absurd (of_decide_eq_true h) (by first | decide | omega | simp)) (fun _ => ?_)
        refine x_iload_n (pc' := 6) rfl rfl rfl ?_
        refine x_iload_n (pc' := 7) rfl rfl rfl ?_
        refine x_icmp (a' := 14) (pc' := 10) (z := decide (5 < m)) rfl rfl rfl (ic_gt (p := m) (q := 5) (gm31 hm) (by decide)) (fun h => absurd (of_decide_eq_true h) (show ¬ 5 < m by omega)) (fun _ => ?_)
        refine x_iconst (pc' := 11) rfl rfl ?_
        refine x_goto (pc' := 15) rfl rfl ?_
        refine x_retz (z := true) rfl rfl ?_
        refine sK_i (pc' := 6) rfl ?_
        refine x_retz (z := true) rfl rfl ?_
        refine sK_i (pc' := 4) rfl ?_
        refine x_if (a' := 18) (pc' := 7) (z := false) rfl rfl rfl (by decide) (fun h => by cases h) (fun _ => ?_)
        refine x_iload_n (pc' := 8) rfl rfl rfl ?_
        refine x_cs (ls0 := [_]) (rest := []) rfl rfl rfl rfl ?_
        refine x_iload_n (pc' := 1) rfl rfl rfl ?_
        refine x_iconst (pc' := 2) rfl rfl ?_
        refine x_iconst (pc' := 3) rfl rfl ?_
        refine x_cs (ls0 := [_, _, _]) (rest := []) rfl rfl rfl rfl ?_
        refine x_iload_n (pc' := 1) rfl rfl rfl ?_
        refine x_iload_n (pc' := 2) rfl rfl rfl ?_
        refine x_icmp (a' := 14) (pc' := 5) (z := decide (b < 0)) rfl rfl rfl (ic_lt (p := b) (q := 0) (gb31 hb) (by decide)) (fun h => absurd (of_decide_eq_true h) (by first | decide | omega | simp)) (fun _ => ?_)
        refine x_iload_n (pc' := 6) rfl rfl rfl ?_
        refine x_iload_n (pc' := 7) rfl rfl rfl ?_
        refine x_icmp (a' := 14) (pc' := 10) (z := decide (4 < b)) rfl rfl rfl (ic_gt (p := b) (q := 4) (gb31 hb) (by decide)) (fun h => absurd (of_decide_eq_true h) (show ¬ 4 < b by omega)) (fun _ => ?_)
        refine x_iconst (pc' := 11) rfl rfl ?_
        refine x_goto (pc' := 15) rfl rfl ?_
        refine x_retz (z := true) rfl rfl ?_
        refine sK_i (pc' := 6) rfl ?_
        refine x_retz (z := true) rfl rfl ?_
        refine sK_i (pc' := 11) rfl ?_
        refine x_if (a' := 18) (pc' := 14) (z := false) rfl rfl rfl (by decide) (fun h => by cases h) (fun _ => ?_)
        refine x_iconst (pc' := 15) rfl rfl ?_
        refine x_goto (pc' := 19) rfl rfl ?_
        refine x_istore (pc' := 21) (ls' := [_, _, _, _, _, _]) rfl rfl rfl rfl ?_
        refine x_iload (pc' := 23) rfl rfl rfl ?_
        refine x_if (a' := 30) (pc' := 26) (z := true) rfl rfl rfl (by decide) (fun _ => ?_) (fun h => by cases h)
        refine x_iload_n (pc' := 31) rfl rfl rfl ?_
        refine x_if (a' := 38) (pc' := 34) (z := false) rfl rfl rfl (by decide) (fun h => by cases h) (fun _ => ?_)
        refine x_iconst (pc' := 35) rfl rfl ?_
        refine x_goto (pc' := 57) rfl rfl ?_
        refine x_reti rfl rfl ?_
        refine sK_i (pc' := 87) rfl ?_
        refine x_cv (ls0 := [_, _]) (rest := []) rfl rfl rfl rfl rfl ?_
        refine x_aload_n (pc' := 1) rfl rfl rfl rfl rfl ?_
        refine x_iload_n (pc' := 2) rfl rfl rfl ?_
        refine x_pI (pc' := 5) rfl rfl rfl ?_
        refine x_iload_n (pc' := 6) rfl rfl rfl ?_
        refine x_if (a' := 13) (pc' := 9) (z := true) rfl rfl rfl (by decide) (fun _ => ?_) (fun h => by cases h)
        refine x_iconst (pc' := 14) rfl rfl ?_
        refine x_retz (z := false) rfl rfl ?_
        refine sK_i (pc' := 90) rfl ?_
        refine x_if (a' := 95) (pc' := 93) (z := false) rfl rfl rfl (by decide) (fun h => by cases h) (fun _ => ?_)
        refine x_iconst (pc' := 94) rfl rfl ?_
        refine x_reti rfl rfl ?_
        exact k1 q4 (of_decide_eq_false q8) (of_decide_eq_false q19)
      · refine x_iconst (pc' := 70) rfl rfl ?_
        refine x_goto (pc' := 74) rfl rfl ?_
        refine x_istore (pc' := 76) (ls' := [_, _, _, _, _, _, _, _, _, _]) rfl rfl rfl rfl ?_
        refine x_aload_n (pc' := 77) rfl rfl rfl rfl rfl ?_
        refine x_aload_n (pc' := 78) rfl rfl rfl rfl rfl ?_
        refine x_iload_n (pc' := 79) rfl rfl rfl ?_
        refine x_iload_n (pc' := 80) rfl rfl rfl ?_
        refine x_iload (pc' := 82) rfl rfl rfl ?_
        refine x_iload (pc' := 84) rfl rfl rfl ?_
        refine x_cv (ls0 := [_, _, _, _, _, sJk]) (rest := [_]) rfl rfl rfl rfl rfl ?_
        refine x_iload_n (pc' := 1) rfl rfl rfl ?_
        refine x_cs (ls0 := [_]) (rest := []) rfl rfl rfl rfl ?_
        refine x_iload_n (pc' := 1) rfl rfl rfl ?_
        refine x_iconst (pc' := 2) rfl rfl ?_
        refine x_iconst (pc' := 3) rfl rfl ?_
        refine x_cs (ls0 := [_, _, _]) (rest := []) rfl rfl rfl rfl ?_
        refine x_iload_n (pc' := 1) rfl rfl rfl ?_
        refine x_iload_n (pc' := 2) rfl rfl rfl ?_
        refine x_icmp (a' := 14) (pc' := 5) (z := decide (m < 0)) rfl rfl rfl (ic_lt (p := m) (q := 0) (gm31 hm) (by decide)) (fun h => absurd (of_decide_eq_true h) (by first | decide | omega | simp)) (fun _ => ?_)
        refine x_iload_n (pc' := 6) rfl rfl rfl ?_
        refine x_iload_n (pc' := 7) rfl rfl rfl ?_
        refine x_icmp (a' := 14) (pc' := 10) (z := decide (5 < m)) rfl rfl rfl (ic_gt (p := m) (q := 5) (gm31 hm) (by decide)) (fun h => absurd (of_decide_eq_true h) (show ¬ 5 < m by omega)) (fun _ => ?_)
        refine x_iconst (pc' := 11) rfl rfl ?_
        refine x_goto (pc' := 15) rfl rfl ?_
        refine x_retz (z := true) rfl rfl ?_
        refine sK_i (pc' := 6) rfl ?_
        refine x_retz (z := true) rfl rfl ?_
        refine sK_i (pc' := 4) rfl ?_
        refine x_if (a' := 18) (pc' := 7) (z := false) rfl rfl rfl (by decide) (fun h => by cases h) (fun _ => ?_)
        refine x_iload_n (pc' := 8) rfl rfl rfl ?_
        refine x_cs (ls0 := [_]) (rest := []) rfl rfl rfl rfl ?_
        refine x_iload_n (pc' := 1) rfl rfl rfl ?_
        refine x_iconst (pc' := 2) rfl rfl ?_
        refine x_iconst (pc' := 3) rfl rfl ?_
        refine x_cs (ls0 := [_, _, _]) (rest := []) rfl rfl rfl rfl ?_
        refine x_iload_n (pc' := 1) rfl rfl rfl ?_
        refine x_iload_n (pc' := 2) rfl rfl rfl ?_
        refine x_icmp (a' := 14) (pc' := 5) (z := decide (b < 0)) rfl rfl rfl (ic_lt (p := b) (q := 0) (gb31 hb) (by decide)) (fun h => absurd (of_decide_eq_true h) (by first | decide | omega | simp)) (fun _ => ?_)
        refine x_iload_n (pc' := 6) rfl rfl rfl ?_
        refine x_iload_n (pc' := 7) rfl rfl rfl ?_
        refine x_icmp (a' := 14) (pc' := 10) (z := decide (4 < b)) rfl rfl rfl (ic_gt (p := b) (q := 4) (gb31 hb) (by decide)) (fun h => absurd (of_decide_eq_true h) (show ¬ 4 < b by omega)) (fun _ => ?_)
        refine x_iconst (pc' := 11) rfl rfl ?_
        refine x_goto (pc' := 15) rfl rfl ?_
        refine x_retz (z := true) rfl rfl ?_
        refine sK_i (pc' := 6) rfl ?_
        refine x_retz (z := true) rfl rfl ?_
        refine sK_i (pc' := 11) rfl ?_
        refine x_if (a' := 18) (pc' := 14) (z := false) rfl rfl rfl (by decide) (fun h => by cases h) (fun _ => ?_)
        refine x_iconst (pc' := 15) rfl rfl ?_
        refine x_goto (pc' := 19) rfl rfl ?_
        refine x_istore (pc' := 21) (ls' := [_, _, _, _, _, _]) rfl rfl rfl rfl ?_
        refine x_iload (pc' := 23) rfl rfl rfl ?_
        refine x_if (a' := 30) (pc' := 26) (z := true) rfl rfl rfl (by decide) (fun _ => ?_) (fun h => by cases h)
        refine x_iload_n (pc' := 31) rfl rfl rfl ?_
        refine x_if (a' := 38) (pc' := 34) (z := false) rfl rfl rfl (by decide) (fun h => by cases h) (fun _ => ?_)
        refine x_iconst (pc' := 35) rfl rfl ?_
        refine x_goto (pc' := 57) rfl rfl ?_
        refine x_reti rfl rfl ?_
        refine sK_i (pc' := 87) rfl ?_
        refine x_cv (ls0 := [_, _]) (rest := []) rfl rfl rfl rfl rfl ?_
        refine x_aload_n (pc' := 1) rfl rfl rfl rfl rfl ?_
        refine x_iload_n (pc' := 2) rfl rfl rfl ?_
        refine x_pI (pc' := 5) rfl rfl rfl ?_
        refine x_iload_n (pc' := 6) rfl rfl rfl ?_
        refine x_if (a' := 13) (pc' := 9) (z := true) rfl rfl rfl (by decide) (fun _ => ?_) (fun h => by cases h)
        refine x_iconst (pc' := 14) rfl rfl ?_
        refine x_retz (z := false) rfl rfl ?_
        refine sK_i (pc' := 90) rfl ?_
        refine x_if (a' := 95) (pc' := 93) (z := false) rfl rfl rfl (by decide) (fun h => by cases h) (fun _ => ?_)
        refine x_iconst (pc' := 94) rfl rfl ?_
        refine x_reti rfl rfl ?_
        exact k2 q4 (of_decide_eq_false q8) (of_decide_eq_true q19)
  · refine x_iload (pc' := 18) rfl rfl rfl ?_
    refine x_iconst (pc' := 19) rfl rfl ?_
    refine x_bipush (pc' := 21) rfl rfl ?_
    refine x_cs (ls0 := [_, _, _]) (rest := []) rfl rfl rfl rfl ?_
    refine r145_g ?_
    refine sK_i (pc' := 24) rfl ?_
    refine x_ifeq_z (a' := 40) (pc' := 27) (z := (inB a 1 100)) rfl rfl rfl (fun q40 => ?_) (fun q40 => ?_)
    · refine x_iconst (pc' := 41) rfl rfl ?_
      refine x_istore (pc' := 43) (ls' := [_, _, _, _, _, _, _, _, _, _]) rfl rfl rfl rfl ?_
      refine x_iload_n (pc' := 44) rfl rfl rfl ?_
      refine x_cs (ls0 := [_]) (rest := []) rfl rfl rfl rfl ?_
      refine x_iload_n (pc' := 1) rfl rfl rfl ?_
      refine x_iconst (pc' := 2) rfl rfl ?_
      refine x_iconst (pc' := 3) rfl rfl ?_
      refine x_cs (ls0 := [_, _, _]) (rest := []) rfl rfl rfl rfl ?_
      refine x_iload_n (pc' := 1) rfl rfl rfl ?_
      refine x_iload_n (pc' := 2) rfl rfl rfl ?_
      refine x_icmp (a' := 14) (pc' := 5) (z := decide (b < 0)) rfl rfl rfl (ic_lt (p := b) (q := 0) (gb31 hb) (by decide)) (fun h => absurd (of_decide_eq_true h) (by first | decide | omega | simp)) (fun _ => ?_)
      refine x_iload_n (pc' := 6) rfl rfl rfl ?_
      refine x_iload_n (pc' := 7) rfl rfl rfl ?_
      refine x_icmp (a' := 14) (pc' := 10) (z := decide (4 < b)) rfl rfl rfl (ic_gt (p := b) (q := 4) (gb31 hb) (by decide)) (fun h => absurd (of_decide_eq_true h) (show ¬ 4 < b by omega)) (fun _ => ?_)
      refine x_iconst (pc' := 11) rfl rfl ?_
      refine x_goto (pc' := 15) rfl rfl ?_
      refine x_retz (z := true) rfl rfl ?_
      refine sK_i (pc' := 6) rfl ?_
      refine x_retz (z := true) rfl rfl ?_
      refine sK_i (pc' := 47) rfl ?_
      refine x_if (a' := 73) (pc' := 50) (z := false) rfl rfl rfl (by decide) (fun h => by cases h) (fun _ => ?_)
      refine x_aload_n (pc' := 51) rfl rfl rfl rfl rfl ?_
      refine x_gR (pc' := 54) (r := (some 0)) rfl rfl rfl (kR_769_0 hc) ?_
      refine x_iload_n (pc' := 55) rfl rfl rfl ?_
      refine x_iald (pc' := 56) (N := 5) (x := (mA M 0 b)) rfl rfl rfl (kN_21_0 hc) (io_in (p := b) (N := 5) hb (by decide)) (Eq.trans (congrArg (sA t 21 0) (nn_io (p := b) (Nat.lt_trans hb (by decide)))) (gA hM rfl)) ?_
      refine x_if (a' := 73) (pc' := 59) (z := decide ((mA M 0 b) = 0)) rfl rfl rfl rfl (fun q44 => ?_) (fun q44 => ?_)
      · refine x_iconst (pc' := 74) rfl rfl ?_
        refine x_istore (pc' := 76) (ls' := [_, _, _, _, _, _, _, _, _, _]) rfl rfl rfl rfl ?_
        refine x_aload_n (pc' := 77) rfl rfl rfl rfl rfl ?_
        refine x_aload_n (pc' := 78) rfl rfl rfl rfl rfl ?_
        refine x_iload_n (pc' := 79) rfl rfl rfl ?_
        refine x_iload_n (pc' := 80) rfl rfl rfl ?_
        refine x_iload (pc' := 82) rfl rfl rfl ?_
        refine x_iload (pc' := 84) rfl rfl rfl ?_
        refine x_cv (ls0 := [_, _, _, _, _, sJk]) (rest := [_]) rfl rfl rfl rfl rfl ?_
        refine x_iload_n (pc' := 1) rfl rfl rfl ?_
        refine x_cs (ls0 := [_]) (rest := []) rfl rfl rfl rfl ?_
        refine x_iload_n (pc' := 1) rfl rfl rfl ?_
        refine x_iconst (pc' := 2) rfl rfl ?_
        refine x_iconst (pc' := 3) rfl rfl ?_
        refine x_cs (ls0 := [_, _, _]) (rest := []) rfl rfl rfl rfl ?_
        refine x_iload_n (pc' := 1) rfl rfl rfl ?_
        refine x_iload_n (pc' := 2) rfl rfl rfl ?_
        refine x_icmp (a' := 14) (pc' := 5) (z := decide (m < 0)) rfl rfl rfl (ic_lt (p := m) (q := 0) (gm31 hm) (by decide)) (fun h => absurd (of_decide_eq_true h) (by first | decide | omega | simp)) (fun _ => ?_)
        refine x_iload_n (pc' := 6) rfl rfl rfl ?_
        refine x_iload_n (pc' := 7) rfl rfl rfl ?_
        refine x_icmp (a' := 14) (pc' := 10) (z := decide (5 < m)) rfl rfl rfl (ic_gt (p := m) (q := 5) (gm31 hm) (by decide)) (fun h => absurd (of_decide_eq_true h) (show ¬ 5 < m by omega)) (fun _ => ?_)
        refine x_iconst (pc' := 11) rfl rfl ?_
        refine x_goto (pc' := 15) rfl rfl ?_
        refine x_retz (z := true) rfl rfl ?_
        refine sK_i (pc' := 6) rfl ?_
        refine x_retz (z := true) rfl rfl ?_
        refine sK_i (pc' := 4) rfl ?_
        refine x_if (a' := 18) (pc' := 7) (z := false) rfl rfl rfl (by decide) (fun h => by cases h) (fun _ => ?_)
        refine x_iload_n (pc' := 8) rfl rfl rfl ?_
        refine x_cs (ls0 := [_]) (rest := []) rfl rfl rfl rfl ?_
        refine x_iload_n (pc' := 1) rfl rfl rfl ?_
        refine x_iconst (pc' := 2) rfl rfl ?_
        refine x_iconst (pc' := 3) rfl rfl ?_
        refine x_cs (ls0 := [_, _, _]) (rest := []) rfl rfl rfl rfl ?_
        refine x_iload_n (pc' := 1) rfl rfl rfl ?_
        refine x_iload_n (pc' := 2) rfl rfl rfl ?_
        refine x_icmp (a' := 14) (pc' := 5) (z := decide (b < 0)) rfl rfl rfl (ic_lt (p := b) (q := 0) (gb31 hb) (by decide)) (fun h => absurd (of_decide_eq_true h) (by first | decide | omega | simp)) (fun _ => ?_)
        refine x_iload_n (pc' := 6) rfl rfl rfl ?_
        refine x_iload_n (pc' := 7) rfl rfl rfl ?_
        refine x_icmp (a' := 14) (pc' := 10) (z := decide (4 < b)) rfl rfl rfl (ic_gt (p := b) (q := 4) (gb31 hb) (by decide)) (fun h => absurd (of_decide_eq_true h) (show ¬ 4 < b by omega)) (fun _ => ?_)
        refine x_iconst (pc' := 11) rfl rfl ?_
        refine x_goto (pc' := 15) rfl rfl ?_
        refine x_retz (z := true) rfl rfl ?_
        refine sK_i (pc' := 6) rfl ?_
        refine x_retz (z := true) rfl rfl ?_
        refine sK_i (pc' := 11) rfl ?_
        refine x_if (a' := 18) (pc' := 14) (z := false) rfl rfl rfl (by decide) (fun h => by cases h) (fun _ => ?_)
        refine x_iconst (pc' := 15) rfl rfl ?_
        refine x_goto (pc' := 19) rfl rfl ?_
        refine x_istore (pc' := 21) (ls' := [_, _, _, _, _, _]) rfl rfl rfl rfl ?_
        refine x_iload (pc' := 23) rfl rfl rfl ?_
        refine x_if (a' := 30) (pc' := 26) (z := true) rfl rfl rfl (by decide) (fun _ => ?_) (fun h => by cases h)
        refine x_iload_n (pc' := 31) rfl rfl rfl ?_
        refine x_if (a' := 38) (pc' := 34) (z := false) rfl rfl rfl (by decide) (fun h => by cases h) (fun _ => ?_)
        refine x_iconst (pc' := 35) rfl rfl ?_
        refine x_goto (pc' := 57) rfl rfl ?_
        refine x_reti rfl rfl ?_
        refine sK_i (pc' := 87) rfl ?_
        refine x_cv (ls0 := [_, _]) (rest := []) rfl rfl rfl rfl rfl ?_
        refine x_aload_n (pc' := 1) rfl rfl rfl rfl rfl ?_
        refine x_iload_n (pc' := 2) rfl rfl rfl ?_
        refine x_pI (pc' := 5) rfl rfl rfl ?_
        refine x_iload_n (pc' := 6) rfl rfl rfl ?_
        refine x_if (a' := 13) (pc' := 9) (z := true) rfl rfl rfl (by decide) (fun _ => ?_) (fun h => by cases h)
        refine x_iconst (pc' := 14) rfl rfl ?_
        refine x_retz (z := false) rfl rfl ?_
        refine sK_i (pc' := 90) rfl ?_
        refine x_if (a' := 95) (pc' := 93) (z := false) rfl rfl rfl (by decide) (fun h => by cases h) (fun _ => ?_)
        refine x_iconst (pc' := 94) rfl rfl ?_
        refine x_reti rfl rfl ?_
        exact k3 q4 q40 (of_decide_eq_true q44)
      · refine x_aload_n (pc' := 60) rfl rfl rfl rfl rfl ?_
        refine x_gI (pc' := 63) (x := (io n)) rfl rfl rfl (gFn hM (Fr.refl _) hR) ?_
        refine x_sipush (pc' := 66) rfl rfl ?_
        refine x_icmp_n (a' := 73) (pc' := 69) (z := decide (n < 200)) rfl rfl rfl (ic_gen (p := n) (q := 200) (gn31 hR) (by decide)) (fun q55 => ?_) (fun q55 => ?_)
        · refine x_iconst (pc' := 74) rfl rfl ?_
          refine x_istore (pc' := 76) (ls' := [_, _, _, _, _, _, _, _, _, _]) rfl rfl rfl rfl ?_
          refine x_aload_n (pc' := 77) rfl rfl rfl rfl rfl ?_
          refine x_aload_n (pc' := 78) rfl rfl rfl rfl rfl ?_
          refine x_iload_n (pc' := 79) rfl rfl rfl ?_
          refine x_iload_n (pc' := 80) rfl rfl rfl ?_
          refine x_iload (pc' := 82) rfl rfl rfl ?_
          refine x_iload (pc' := 84) rfl rfl rfl ?_
          refine x_cv (ls0 := [_, _, _, _, _, sJk]) (rest := [_]) rfl rfl rfl rfl rfl ?_
          refine x_iload_n (pc' := 1) rfl rfl rfl ?_
          refine x_cs (ls0 := [_]) (rest := []) rfl rfl rfl rfl ?_
          refine x_iload_n (pc' := 1) rfl rfl rfl ?_
          refine x_iconst (pc' := 2) rfl rfl ?_
          refine x_iconst (pc' := 3) rfl rfl ?_
          refine x_cs (ls0 := [_, _, _]) (rest := []) rfl rfl rfl rfl ?_
          refine x_iload_n (pc' := 1) rfl rfl rfl ?_
          refine x_iload_n (pc' := 2) rfl rfl rfl ?_
          refine x_icmp (a' := 14) (pc' := 5) (z := decide (m < 0)) rfl rfl rfl (ic_lt (p := m) (q := 0) (gm31 hm) (by decide)) (fun h => absurd (of_decide_eq_true h) (by first | decide | omega | simp)) (fun _ => ?_)
          refine x_iload_n (pc' := 6) rfl rfl rfl ?_
          refine x_iload_n (pc' := 7) rfl rfl rfl ?_
          refine x_icmp (a' := 14) (pc' := 10) (z := decide (5 < m)) rfl rfl rfl (ic_gt (p := m) (q := 5) (gm31 hm) (by decide)) (fun h => absurd (of_decide_eq_true h) (show ¬ 5 < m by omega)) (fun _ => ?_)
          refine x_iconst (pc' := 11) rfl rfl ?_
          refine x_goto (pc' := 15) rfl rfl ?_
          refine x_retz (z := true) rfl rfl ?_
          refine sK_i (pc' := 6) rfl ?_
          refine x_retz (z := true) rfl rfl ?_
          refine sK_i (pc' := 4) rfl ?_
          refine x_if (a' := 18) (pc' := 7) (z := false) rfl rfl rfl (by decide) (fun h => by cases h) (fun _ => ?_)
          refine x_iload_n (pc' := 8) rfl rfl rfl ?_
          refine x_cs (ls0 := [_]) (rest := []) rfl rfl rfl rfl ?_
          refine x_iload_n (pc' := 1) rfl rfl rfl ?_
          refine x_iconst (pc' := 2) rfl rfl ?_
          refine x_iconst (pc' := 3) rfl rfl ?_
          refine x_cs (ls0 := [_, _, _]) (rest := []) rfl rfl rfl rfl ?_
          refine x_iload_n (pc' := 1) rfl rfl rfl ?_
          refine x_iload_n (pc' := 2) rfl rfl rfl ?_
          refine x_icmp (a' := 14) (pc' := 5) (z := decide (b < 0)) rfl rfl rfl (ic_lt (p := b) (q := 0) (gb31 hb) (by decide)) (fun h => absurd (of_decide_eq_true h) (by first | decide | omega | simp)) (fun _ => ?_)
          refine x_iload_n (pc' := 6) rfl rfl rfl ?_
          refine x_iload_n (pc' := 7) rfl rfl rfl ?_
          refine x_icmp (a' := 14) (pc' := 10) (z := decide (4 < b)) rfl rfl rfl (ic_gt (p := b) (q := 4) (gb31 hb) (by decide)) (fun h => absurd (of_decide_eq_true h) (show ¬ 4 < b by omega)) (fun _ => ?_)
          refine x_iconst (pc' := 11) rfl rfl ?_
          refine x_goto (pc' := 15) rfl rfl ?_
          refine x_retz (z := true) rfl rfl ?_
          refine sK_i (pc' := 6) rfl ?_
          refine x_retz (z := true) rfl rfl ?_
          refine sK_i (pc' := 11) rfl ?_
          refine x_if (a' := 18) (pc' := 14) (z := false) rfl rfl rfl (by decide) (fun h => by cases h) (fun _ => ?_)
          refine x_iconst (pc' := 15) rfl rfl ?_
          refine x_goto (pc' := 19) rfl rfl ?_
          refine x_istore (pc' := 21) (ls' := [_, _, _, _, _, _]) rfl rfl rfl rfl ?_
          refine x_iload (pc' := 23) rfl rfl rfl ?_
          refine x_if (a' := 30) (pc' := 26) (z := true) rfl rfl rfl (by decide) (fun _ => ?_) (fun h => by cases h)
          refine x_iload_n (pc' := 31) rfl rfl rfl ?_
          refine x_if (a' := 38) (pc' := 34) (z := false) rfl rfl rfl (by decide) (fun h => by cases h) (fun _ => ?_)
          refine x_iconst (pc' := 35) rfl rfl ?_
          refine x_goto (pc' := 57) rfl rfl ?_
          refine x_reti rfl rfl ?_
          refine sK_i (pc' := 87) rfl ?_
          refine x_cv (ls0 := [_, _]) (rest := []) rfl rfl rfl rfl rfl ?_
          refine x_aload_n (pc' := 1) rfl rfl rfl rfl rfl ?_
          refine x_iload_n (pc' := 2) rfl rfl rfl ?_
          refine x_pI (pc' := 5) rfl rfl rfl ?_
          refine x_iload_n (pc' := 6) rfl rfl rfl ?_
          refine x_if (a' := 13) (pc' := 9) (z := true) rfl rfl rfl (by decide) (fun _ => ?_) (fun h => by cases h)
          refine x_iconst (pc' := 14) rfl rfl ?_
          refine x_retz (z := false) rfl rfl ?_
          refine sK_i (pc' := 90) rfl ?_
          refine x_if (a' := 95) (pc' := 93) (z := false) rfl rfl rfl (by decide) (fun h => by cases h) (fun _ => ?_)
          refine x_iconst (pc' := 94) rfl rfl ?_
          refine x_reti rfl rfl ?_
          exact k4 q4 q40 (of_decide_eq_false q44) (of_decide_eq_false q55)
        · refine x_iconst (pc' := 70) rfl rfl ?_
          refine x_goto (pc' := 74) rfl rfl ?_
          refine x_istore (pc' := 76) (ls' := [_, _, _, _, _, _, _, _, _, _]) rfl rfl rfl rfl ?_
          refine x_aload_n (pc' := 77) rfl rfl rfl rfl rfl ?_
          refine x_aload_n (pc' := 78) rfl rfl rfl rfl rfl ?_
          refine x_iload_n (pc' := 79) rfl rfl rfl ?_
          refine x_iload_n (pc' := 80) rfl rfl rfl ?_
          refine x_iload (pc' := 82) rfl rfl rfl ?_
          refine x_iload (pc' := 84) rfl rfl rfl ?_
          refine x_cv (ls0 := [_, _, _, _, _, sJk]) (rest := [_]) rfl rfl rfl rfl rfl ?_
          refine x_iload_n (pc' := 1) rfl rfl rfl ?_
          refine x_cs (ls0 := [_]) (rest := []) rfl rfl rfl rfl ?_
          refine x_iload_n (pc' := 1) rfl rfl rfl ?_
          refine x_iconst (pc' := 2) rfl rfl ?_
          refine x_iconst (pc' := 3) rfl rfl ?_
          refine x_cs (ls0 := [_, _, _]) (rest := []) rfl rfl rfl rfl ?_
          refine x_iload_n (pc' := 1) rfl rfl rfl ?_
          refine x_iload_n (pc' := 2) rfl rfl rfl ?_
          refine x_icmp (a' := 14) (pc' := 5) (z := decide (m < 0)) rfl rfl rfl (ic_lt (p := m) (q := 0) (gm31 hm) (by decide)) (fun h => absurd (of_decide_eq_true h) (by first | decide | omega | simp)) (fun _ => ?_)
          refine x_iload_n (pc' := 6) rfl rfl rfl ?_
          refine x_iload_n (pc' := 7) rfl rfl rfl ?_
          refine x_icmp (a' := 14) (pc' := 10) (z := decide (5 < m)) rfl rfl rfl (ic_gt (p := m) (q := 5) (gm31 hm) (by decide)) (fun h => absurd (of_decide_eq_true h) (show ¬ 5 < m by omega)) (fun _ => ?_)
          refine x_iconst (pc' := 11) rfl rfl ?_
          refine x_goto (pc' := 15) rfl rfl ?_
          refine x_retz (z := true) rfl rfl ?_
          refine sK_i (pc' := 6) rfl ?_
          refine x_retz (z := true) rfl rfl ?_
          refine sK_i (pc' := 4) rfl ?_
          refine x_if (a' := 18) (pc' := 7) (z := false) rfl rfl rfl (by decide) (fun h => by cases h) (fun _ => ?_)
          refine x_iload_n (pc' := 8) rfl rfl rfl ?_
          refine x_cs (ls0 := [_]) (rest := []) rfl rfl rfl rfl ?_
          refine x_iload_n (pc' := 1) rfl rfl rfl ?_
          refine x_iconst (pc' := 2) rfl rfl ?_
          refine x_iconst (pc' := 3) rfl rfl ?_
          refine x_cs (ls0 := [_, _, _]) (rest := []) rfl rfl rfl rfl ?_
          refine x_iload_n (pc' := 1) rfl rfl rfl ?_
          refine x_iload_n (pc' := 2) rfl rfl rfl ?_
          refine x_icmp (a' := 14) (pc' := 5) (z := decide (b < 0)) rfl rfl rfl (ic_lt (p := b) (q := 0) (gb31 hb) (by decide)) (fun h => absurd (of_decide_eq_true h) (by first | decide | omega | simp)) (fun _ => ?_)
          refine x_iload_n (pc' := 6) rfl rfl rfl ?_
          refine x_iload_n (pc' := 7) rfl rfl rfl ?_
          refine x_icmp (a' := 14) (pc' := 10) (z := decide (4 < b)) rfl rfl rfl (ic_gt (p := b) (q := 4) (gb31 hb) (by decide)) (fun h => absurd (of_decide_eq_true h) (show ¬ 4 < b by omega)) (fun _ => ?_)
          refine x_iconst (pc' := 11) rfl rfl ?_
          refine x_goto (pc' := 15) rfl rfl ?_
          refine x_retz (z := true) rfl rfl ?_
          refine sK_i (pc' := 6) rfl ?_
          refine x_retz (z := true) rfl rfl ?_
          refine sK_i (pc' := 11) rfl ?_
          refine x_if (a' := 18) (pc' := 14) (z := false) rfl rfl rfl (by decide) (fun h => by cases h) (fun _ => ?_)
          refine x_iconst (pc' := 15) rfl rfl ?_
          refine x_goto (pc' := 19) rfl rfl ?_
          refine x_istore (pc' := 21) (ls' := [_, _, _, _, _, _]) rfl rfl rfl rfl ?_
          refine x_iload (pc' := 23) rfl rfl rfl ?_
          refine x_if (a' := 30) (pc' := 26) (z := true) rfl rfl rfl (by decide) (fun _ => ?_) (fun h => by cases h)
          refine x_iload_n (pc' := 31) rfl rfl rfl ?_
          refine x_if (a' := 38) (pc' := 34) (z := false) rfl rfl rfl (by decide) (fun h => by cases h) (fun _ => ?_)
          refine x_iconst (pc' := 35) rfl rfl ?_
          refine x_goto (pc' := 57) rfl rfl ?_
          refine x_reti rfl rfl ?_
          refine sK_i (pc' := 87) rfl ?_
          refine x_cv (ls0 := [_, _]) (rest := []) rfl rfl rfl rfl rfl ?_
          refine x_aload_n (pc' := 1) rfl rfl rfl rfl rfl ?_
          refine x_iload_n (pc' := 2) rfl rfl rfl ?_
          refine x_pI (pc' := 5) rfl rfl rfl ?_
          refine x_iload_n (pc' := 6) rfl rfl rfl ?_
          refine x_if (a' := 13) (pc' := 9) (z := true) rfl rfl rfl (by decide) (fun _ => ?_) (fun h => by cases h)
          refine x_iconst (pc' := 14) rfl rfl ?_
          refine x_retz (z := false) rfl rfl ?_
          refine sK_i (pc' := 90) rfl ?_
          refine x_if (a' := 95) (pc' := 93) (z := false) rfl rfl rfl (by decide) (fun h => by cases h) (fun _ => ?_)
          refine x_iconst (pc' := 94) rfl rfl ?_
          refine x_reti rfl rfl ?_
          exact k5 q4 q40 (of_decide_eq_false q44) (of_decide_eq_true q55)
    · refine x_iload_n (pc' := 28) rfl rfl rfl ?_
      refine x_iload (pc' := 30) rfl rfl rfl ?_
      refine x_cs (ls0 := [_, _]) (rest := []) rfl rfl rfl rfl ?_
      refine r150_g hb ?_
      refine sK_i (pc' := 33) rfl ?_
      refine x_ifeq_z (a' := 40) (pc' := 36) (z := (prB b h)) rfl rfl rfl (fun q76 => ?_) (fun q76 => ?_)
      · refine x_iconst (pc' := 41) rfl rfl ?_
        refine x_istore (pc' := 43) (ls' := [_, _, _, _, _, _, _, _, _, _]) rfl rfl rfl rfl ?_
        refine x_iload_n (pc' := 44) rfl rfl rfl ?_
        refine x_cs (ls0 := [_]) (rest := []) rfl rfl rfl rfl ?_
        refine x_iload_n (pc' := 1) rfl rfl rfl ?_
        refine x_iconst (pc' := 2) rfl rfl ?_
        refine x_iconst (pc' := 3) rfl rfl ?_
        refine x_cs (ls0 := [_, _, _]) (rest := []) rfl rfl rfl rfl ?_
        refine x_iload_n (pc' := 1) rfl rfl rfl ?_
        refine x_iload_n (pc' := 2) rfl rfl rfl ?_
        refine x_icmp (a' := 14) (pc' := 5) (z := decide (b < 0)) rfl rfl rfl (ic_lt (p := b) (q := 0) (gb31 hb) (by decide)) (fun h => absurd (of_decide_eq_true h) (by first | decide | omega | simp)) (fun _ => ?_)
        refine x_iload_n (pc' := 6) rfl rfl rfl ?_
        refine x_iload_n (pc' := 7) rfl rfl rfl ?_
        refine x_icmp (a' := 14) (pc' := 10) (z := decide (4 < b)) rfl rfl rfl (ic_gt (p := b) (q := 4) (gb31 hb) (by decide)) (fun h => absurd (of_decide_eq_true h) (show ¬ 4 < b by omega)) (fun _ => ?_)
        refine x_iconst (pc' := 11) rfl rfl ?_
        refine x_goto (pc' := 15) rfl rfl ?_
        refine x_retz (z := true) rfl rfl ?_
        refine sK_i (pc' := 6) rfl ?_
        refine x_retz (z := true) rfl rfl ?_
        refine sK_i (pc' := 47) rfl ?_
        refine x_if (a' := 73) (pc' := 50) (z := false) rfl rfl rfl (by decide) (fun h => by cases h) (fun _ => ?_)
        refine x_aload_n (pc' := 51) rfl rfl rfl rfl rfl ?_
        refine x_gR (pc' := 54) (r := (some 0)) rfl rfl rfl (kR_769_0 hc) ?_
        refine x_iload_n (pc' := 55) rfl rfl rfl ?_
        refine x_iald (pc' := 56) (N := 5) (x := (mA M 0 b)) rfl rfl rfl (kN_21_0 hc) (io_in (p := b) (N := 5) hb (by decide)) (Eq.trans (congrArg (sA t 21 0) (nn_io (p := b) (Nat.lt_trans hb (by decide)))) (gA hM rfl)) ?_
        refine x_if (a' := 73) (pc' := 59) (z := decide ((mA M 0 b) = 0)) rfl rfl rfl rfl (fun q80 => ?_) (fun q80 => ?_)
        · refine x_iconst (pc' := 74) rfl rfl ?_
          refine x_istore (pc' := 76) (ls' := [_, _, _, _, _, _, _, _, _, _]) rfl rfl rfl rfl ?_
          refine x_aload_n (pc' := 77) rfl rfl rfl rfl rfl ?_
          refine x_aload_n (pc' := 78) rfl rfl rfl rfl rfl ?_
          refine x_iload_n (pc' := 79) rfl rfl rfl ?_
          refine x_iload_n (pc' := 80) rfl rfl rfl ?_
          refine x_iload (pc' := 82) rfl rfl rfl ?_
          refine x_iload (pc' := 84) rfl rfl rfl ?_
          refine x_cv (ls0 := [_, _, _, _, _, sJk]) (rest := [_]) rfl rfl rfl rfl rfl ?_
          refine x_iload_n (pc' := 1) rfl rfl rfl ?_
          refine x_cs (ls0 := [_]) (rest := []) rfl rfl rfl rfl ?_
          refine x_iload_n (pc' := 1) rfl rfl rfl ?_
          refine x_iconst (pc' := 2) rfl rfl ?_
          refine x_iconst (pc' := 3) rfl rfl ?_
          refine x_cs (ls0 := [_, _, _]) (rest := []) rfl rfl rfl rfl ?_
          refine x_iload_n (pc' := 1) rfl rfl rfl ?_
          refine x_iload_n (pc' := 2) rfl rfl rfl ?_
          refine x_icmp (a' := 14) (pc' := 5) (z := decide (m < 0)) rfl rfl rfl (ic_lt (p := m) (q := 0) (gm31 hm) (by decide)) (fun h => absurd (of_decide_eq_true h) (by first | decide | omega | simp)) (fun _ => ?_)
          refine x_iload_n (pc' := 6) rfl rfl rfl ?_
          refine x_iload_n (pc' := 7) rfl rfl rfl ?_
          refine x_icmp (a' := 14) (pc' := 10) (z := decide (5 < m)) rfl rfl rfl (ic_gt (p := m) (q := 5) (gm31 hm) (by decide)) (fun h => absurd (of_decide_eq_true h) (show ¬ 5 < m by omega)) (fun _ => ?_)
          refine x_iconst (pc' := 11) rfl rfl ?_
          refine x_goto (pc' := 15) rfl rfl ?_
          refine x_retz (z := true) rfl rfl ?_
          refine sK_i (pc' := 6) rfl ?_
          refine x_retz (z := true) rfl rfl ?_
          refine sK_i (pc' := 4) rfl ?_
          refine x_if (a' := 18) (pc' := 7) (z := false) rfl rfl rfl (by decide) (fun h => by cases h) (fun _ => ?_)
          refine x_iload_n (pc' := 8) rfl rfl rfl ?_
          refine x_cs (ls0 := [_]) (rest := []) rfl rfl rfl rfl ?_
          refine x_iload_n (pc' := 1) rfl rfl rfl ?_
          refine x_iconst (pc' := 2) rfl rfl ?_
          refine x_iconst (pc' := 3) rfl rfl ?_
          refine x_cs (ls0 := [_, _, _]) (rest := []) rfl rfl rfl rfl ?_
          refine x_iload_n (pc' := 1) rfl rfl rfl ?_
          refine x_iload_n (pc' := 2) rfl rfl rfl ?_
          refine x_icmp (a' := 14) (pc' := 5) (z := decide (b < 0)) rfl rfl rfl (ic_lt (p := b) (q := 0) (gb31 hb) (by decide)) (fun h => absurd (of_decide_eq_true h) (by first | decide | omega | simp)) (fun _ => ?_)
          refine x_iload_n (pc' := 6) rfl rfl rfl ?_
          refine x_iload_n (pc' := 7) rfl rfl rfl ?_
          refine x_icmp (a' := 14) (pc' := 10) (z := decide (4 < b)) rfl rfl rfl (ic_gt (p := b) (q := 4) (gb31 hb) (by decide)) (fun h => absurd (of_decide_eq_true h) (show ¬ 4 < b by omega)) (fun _ => ?_)
          refine x_iconst (pc' := 11) rfl rfl ?_
          refine x_goto (pc' := 15) rfl rfl ?_
          refine x_retz (z := true) rfl rfl ?_
          refine sK_i (pc' := 6) rfl ?_
          refine x_retz (z := true) rfl rfl ?_
          refine sK_i (pc' := 11) rfl ?_
          refine x_if (a' := 18) (pc' := 14) (z := false) rfl rfl rfl (by decide) (fun h => by cases h) (fun _ => ?_)
          refine x_iconst (pc' := 15) rfl rfl ?_
          refine x_goto (pc' := 19) rfl rfl ?_
          refine x_istore (pc' := 21) (ls' := [_, _, _, _, _, _]) rfl rfl rfl rfl ?_
          refine x_iload (pc' := 23) rfl rfl rfl ?_
          refine x_if (a' := 30) (pc' := 26) (z := true) rfl rfl rfl (by decide) (fun _ => ?_) (fun h => by cases h)
          refine x_iload_n (pc' := 31) rfl rfl rfl ?_
          refine x_if (a' := 38) (pc' := 34) (z := false) rfl rfl rfl (by decide) (fun h => by cases h) (fun _ => ?_)
          refine x_iconst (pc' := 35) rfl rfl ?_
          refine x_goto (pc' := 57) rfl rfl ?_
          refine x_reti rfl rfl ?_
          refine sK_i (pc' := 87) rfl ?_
          refine x_cv (ls0 := [_, _]) (rest := []) rfl rfl rfl rfl rfl ?_
          refine x_aload_n (pc' := 1) rfl rfl rfl rfl rfl ?_
          refine x_iload_n (pc' := 2) rfl rfl rfl ?_
          refine x_pI (pc' := 5) rfl rfl rfl ?_
          refine x_iload_n (pc' := 6) rfl rfl rfl ?_
          refine x_if (a' := 13) (pc' := 9) (z := true) rfl rfl rfl (by decide) (fun _ => ?_) (fun h => by cases h)
          refine x_iconst (pc' := 14) rfl rfl ?_
          refine x_retz (z := false) rfl rfl ?_
          refine sK_i (pc' := 90) rfl ?_
          refine x_if (a' := 95) (pc' := 93) (z := false) rfl rfl rfl (by decide) (fun h => by cases h) (fun _ => ?_)
          refine x_iconst (pc' := 94) rfl rfl ?_
          refine x_reti rfl rfl ?_
          exact k6 q4 q40 q76 (of_decide_eq_true q80)
        · refine x_aload_n (pc' := 60) rfl rfl rfl rfl rfl ?_
          refine x_gI (pc' := 63) (x := (io n)) rfl rfl rfl (gFn hM (Fr.refl _) hR) ?_
          refine x_sipush (pc' := 66) rfl rfl ?_
          refine x_icmp_n (a' := 73) (pc' := 69) (z := decide (n < 200)) rfl rfl rfl (ic_gen (p := n) (q := 200) (gn31 hR) (by decide)) (fun q91 => ?_) (fun q91 => ?_)
          · refine x_iconst (pc' := 74) rfl rfl ?_
            refine x_istore (pc' := 76) (ls' := [_, _, _, _, _, _, _, _, _, _]) rfl rfl rfl rfl ?_
            refine x_aload_n (pc' := 77) rfl rfl rfl rfl rfl ?_
            refine x_aload_n (pc' := 78) rfl rfl rfl rfl rfl ?_
            refine x_iload_n (pc' := 79) rfl rfl rfl ?_
            refine x_iload_n (pc' := 80) rfl rfl rfl ?_
            refine x_iload (pc' := 82) rfl rfl rfl ?_
            refine x_iload (pc' := 84) rfl rfl rfl ?_
            refine x_cv (ls0 := [_, _, _, _, _, sJk]) (rest := [_]) rfl rfl rfl rfl rfl ?_
            refine x_iload_n (pc' := 1) rfl rfl rfl ?_
            refine x_cs (ls0 := [_]) (rest := []) rfl rfl rfl rfl ?_
            refine x_iload_n (pc' := 1) rfl rfl rfl ?_
            refine x_iconst (pc' := 2) rfl rfl ?_
            refine x_iconst (pc' := 3) rfl rfl ?_
            refine x_cs (ls0 := [_, _, _]) (rest := []) rfl rfl rfl rfl ?_
            refine x_iload_n (pc' := 1) rfl rfl rfl ?_
            refine x_iload_n (pc' := 2) rfl rfl rfl ?_
            refine x_icmp (a' := 14) (pc' := 5) (z := decide (m < 0)) rfl rfl rfl (ic_lt (p := m) (q := 0) (gm31 hm) (by decide)) (fun h => absurd (of_decide_eq_true h) (by first | decide | omega | simp)) (fun _ => ?_)
            refine x_iload_n (pc' := 6) rfl rfl rfl ?_
            refine x_iload_n (pc' := 7) rfl rfl rfl ?_
            refine x_icmp (a' := 14) (pc' := 10) (z := decide (5 < m)) rfl rfl rfl (ic_gt (p := m) (q := 5) (gm31 hm) (by decide)) (fun h => absurd (of_decide_eq_true h) (show ¬ 5 < m by omega)) (fun _ => ?_)
            refine x_iconst (pc' := 11) rfl rfl ?_
            refine x_goto (pc' := 15) rfl rfl ?_
            refine x_retz (z := true) rfl rfl ?_
            refine sK_i (pc' := 6) rfl ?_
            refine x_retz (z := true) rfl rfl ?_
            refine sK_i (pc' := 4) rfl ?_
            refine x_if (a' := 18) (pc' := 7) (z := false) rfl rfl rfl (by decide) (fun h => by cases h) (fun _ => ?_)
            refine x_iload_n (pc' := 8) rfl rfl rfl ?_
            refine x_cs (ls0 := [_]) (rest := []) rfl rfl rfl rfl ?_
            refine x_iload_n (pc' := 1) rfl rfl rfl ?_
            refine x_iconst (pc' := 2) rfl rfl ?_
            refine x_iconst (pc' := 3) rfl rfl ?_
            refine x_cs (ls0 := [_, _, _]) (rest := []) rfl rfl rfl rfl ?_
            refine x_iload_n (pc' := 1) rfl rfl rfl ?_
            refine x_iload_n (pc' := 2) rfl rfl rfl ?_
            refine x_icmp (a' := 14) (pc' := 5) (z := decide (b < 0)) rfl rfl rfl (ic_lt (p := b) (q := 0) (gb31 hb) (by decide)) (fun h => absurd (of_decide_eq_true h) (by first | decide | omega | simp)) (fun _ => ?_)
            refine x_iload_n (pc' := 6) rfl rfl rfl ?_
            refine x_iload_n (pc' := 7) rfl rfl rfl ?_
            refine x_icmp (a' := 14) (pc' := 10) (z := decide (4 < b)) rfl rfl rfl (ic_gt (p := b) (q := 4) (gb31 hb) (by decide)) (fun h => absurd (of_decide_eq_true h) (show ¬ 4 < b by omega)) (fun _ => ?_)
            refine x_iconst (pc' := 11) rfl rfl ?_
            refine x_goto (pc' := 15) rfl rfl ?_
            refine x_retz (z := true) rfl rfl ?_
            refine sK_i (pc' := 6) rfl ?_
            refine x_retz (z := true) rfl rfl ?_
            refine sK_i (pc' := 11) rfl ?_
            refine x_if (a' := 18) (pc' := 14) (z := false) rfl rfl rfl (by decide) (fun h => by cases h) (fun _ => ?_)
            refine x_iconst (pc' := 15) rfl rfl ?_
            refine x_goto (pc' := 19) rfl rfl ?_
            refine x_istore (pc' := 21) (ls' := [_, _, _, _, _, _]) rfl rfl rfl rfl ?_
            refine x_iload (pc' := 23) rfl rfl rfl ?_
            refine x_if (a' := 30) (pc' := 26) (z := true) rfl rfl rfl (by decide) (fun _ => ?_) (fun h => by cases h)
            refine x_iload_n (pc' := 31) rfl rfl rfl ?_
            refine x_if (a' := 38) (pc' := 34) (z := false) rfl rfl rfl (by decide) (fun h => by cases h) (fun _ => ?_)
            refine x_iconst (pc' := 35) rfl rfl ?_
            refine x_goto (pc' := 57) rfl rfl ?_
            refine x_reti rfl rfl ?_
            refine sK_i (pc' := 87) rfl ?_
            refine x_cv (ls0 := [_, _]) (rest := []) rfl rfl rfl rfl rfl ?_
            refine x_aload_n (pc' := 1) rfl rfl rfl rfl rfl ?_
            refine x_iload_n (pc' := 2) rfl rfl rfl ?_
            refine x_pI (pc' := 5) rfl rfl rfl ?_
            refine x_iload_n (pc' := 6) rfl rfl rfl ?_
            refine x_if (a' := 13) (pc' := 9) (z := true) rfl rfl rfl (by decide) (fun _ => ?_) (fun h => by cases h)
            refine x_iconst (pc' := 14) rfl rfl ?_
            refine x_retz (z := false) rfl rfl ?_
            refine sK_i (pc' := 90) rfl ?_
            refine x_if (a' := 95) (pc' := 93) (z := false) rfl rfl rfl (by decide) (fun h => by cases h) (fun _ => ?_)
            refine x_iconst (pc' := 94) rfl rfl ?_
            refine x_reti rfl rfl ?_
            exact k7 q4 q40 q76 (of_decide_eq_false q80) (of_decide_eq_false q91)
          · refine x_iconst (pc' := 70) rfl rfl ?_
            refine x_goto (pc' := 74) rfl rfl ?_
            refine x_istore (pc' := 76) (ls' := [_, _, _, _, _, _, _, _, _, _]) rfl rfl rfl rfl ?_
            refine x_aload_n (pc' := 77) rfl rfl rfl rfl rfl ?_
            refine x_aload_n (pc' := 78) rfl rfl rfl rfl rfl ?_
            refine x_iload_n (pc' := 79) rfl rfl rfl ?_
            refine x_iload_n (pc' := 80) rfl rfl rfl ?_
            refine x_iload (pc' := 82) rfl rfl rfl ?_
            refine x_iload (pc' := 84) rfl rfl rfl ?_
            refine x_cv (ls0 := [_, _, _, _, _, sJk]) (rest := [_]) rfl rfl rfl rfl rfl ?_
            refine x_iload_n (pc' := 1) rfl rfl rfl ?_
            refine x_cs (ls0 := [_]) (rest := []) rfl rfl rfl rfl ?_
            refine x_iload_n (pc' := 1) rfl rfl rfl ?_
            refine x_iconst (pc' := 2) rfl rfl ?_
            refine x_iconst (pc' := 3) rfl rfl ?_
            refine x_cs (ls0 := [_, _, _]) (rest := []) rfl rfl rfl rfl ?_
            refine x_iload_n (pc' := 1) rfl rfl rfl ?_
            refine x_iload_n (pc' := 2) rfl rfl rfl ?_
            refine x_icmp (a' := 14) (pc' := 5) (z := decide (m < 0)) rfl rfl rfl (ic_lt (p := m) (q := 0) (gm31 hm) (by decide)) (fun h => absurd (of_decide_eq_true h) (by first | decide | omega | simp)) (fun _ => ?_)
            refine x_iload_n (pc' := 6) rfl rfl rfl ?_
            refine x_iload_n (pc' := 7) rfl rfl rfl ?_
            refine x_icmp (a' := 14) (pc' := 10) (z := decide (5 < m)) rfl rfl rfl (ic_gt (p := m) (q := 5) (gm31 hm) (by decide)) (fun h => absurd (of_decide_eq_true h) (show ¬ 5 < m by omega)) (fun _ => ?_)
            refine x_iconst (pc' := 11) rfl rfl ?_
            refine x_goto (pc' := 15) rfl rfl ?_
            refine x_retz (z := true) rfl rfl ?_
            refine sK_i (pc' := 6) rfl ?_
            refine x_retz (z := true) rfl rfl ?_
            refine sK_i (pc' := 4) rfl ?_
            refine x_if (a' := 18) (pc' := 7) (z := false) rfl rfl rfl (by decide) (fun h => by cases h) (fun _ => ?_)
            refine x_iload_n (pc' := 8) rfl rfl rfl ?_
            refine x_cs (ls0 := [_]) (rest := []) rfl rfl rfl rfl ?_
            refine x_iload_n (pc' := 1) rfl rfl rfl ?_
            refine x_iconst (pc' := 2) rfl rfl ?_
            refine x_iconst (pc' := 3) rfl rfl ?_
            refine x_cs (ls0 := [_, _, _]) (rest := []) rfl rfl rfl rfl ?_
            refine x_iload_n (pc' := 1) rfl rfl rfl ?_
            refine x_iload_n (pc' := 2) rfl rfl rfl ?_
            refine x_icmp (a' := 14) (pc' := 5) (z := decide (b < 0)) rfl rfl rfl (ic_lt (p := b) (q := 0) (gb31 hb) (by decide)) (fun h => absurd (of_decide_eq_true h) (by first | decide | omega | simp)) (fun _ => ?_)
            refine x_iload_n (pc' := 6) rfl rfl rfl ?_
            refine x_iload_n (pc' := 7) rfl rfl rfl ?_
            refine x_icmp (a' := 14) (pc' := 10) (z := decide (4 < b)) rfl rfl rfl (ic_gt (p := b) (q := 4) (gb31 hb) (by decide)) (fun h => absurd (of_decide_eq_true h) (show ¬ 4 < b by omega)) (fun _ => ?_)
            refine x_iconst (pc' := 11) rfl rfl ?_
            refine x_goto (pc' := 15) rfl rfl ?_
            refine x_retz (z := true) rfl rfl ?_
            refine sK_i (pc' := 6) rfl ?_
            refine x_retz (z := true) rfl rfl ?_
            refine sK_i (pc' := 11) rfl ?_
            refine x_if (a' := 18) (pc' := 14) (z := false) rfl rfl rfl (by decide) (fun h => by cases h) (fun _ => ?_)
            refine x_iconst (pc' := 15) rfl rfl ?_
            refine x_goto (pc' := 19) rfl rfl ?_
            refine x_istore (pc' := 21) (ls' := [_, _, _, _, _, _]) rfl rfl rfl rfl ?_
            refine x_iload (pc' := 23) rfl rfl rfl ?_
            refine x_if (a' := 30) (pc' := 26) (z := true) rfl rfl rfl (by decide) (fun _ => ?_) (fun h => by cases h)
            refine x_iload_n (pc' := 31) rfl rfl rfl ?_
            refine x_if (a' := 38) (pc' := 34) (z := false) rfl rfl rfl (by decide) (fun h => by cases h) (fun _ => ?_)
            refine x_iconst (pc' := 35) rfl rfl ?_
            refine x_goto (pc' := 57) rfl rfl ?_
            refine x_reti rfl rfl ?_
            refine sK_i (pc' := 87) rfl ?_
            refine x_cv (ls0 := [_, _]) (rest := []) rfl rfl rfl rfl rfl ?_
            refine x_aload_n (pc' := 1) rfl rfl rfl rfl rfl ?_
            refine x_iload_n (pc' := 2) rfl rfl rfl ?_
            refine x_pI (pc' := 5) rfl rfl rfl ?_
            refine x_iload_n (pc' := 6) rfl rfl rfl ?_
            refine x_if (a' := 13) (pc' := 9) (z := true) rfl rfl rfl (by decide) (fun _ => ?_) (fun h => by cases h)
            refine x_iconst (pc' := 14) rfl rfl ?_
            refine x_retz (z := false) rfl rfl ?_
            refine sK_i (pc' := 90) rfl ?_
            refine x_if (a' := 95) (pc' := 93) (z := false) rfl rfl rfl (by decide) (fun h => by cases h) (fun _ => ?_)
            refine x_iconst (pc' := 94) rfl rfl ?_
            refine x_reti rfl rfl ?_
            exact k8 q4 q40 q76 (of_decide_eq_false q80) (of_decide_eq_true q91)
      · refine x_iconst (pc' := 37) rfl rfl ?_
        refine x_goto (pc' := 41) rfl rfl ?_
        refine x_istore (pc' := 43) (ls' := [_, _, _, _, _, _, _, _, _, _]) rfl rfl rfl rfl ?_
        refine x_iload_n (pc' := 44) rfl rfl rfl ?_
        refine x_cs (ls0 := [_]) (rest := []) rfl rfl rfl rfl ?_
        refine x_iload_n (pc' := 1) rfl rfl rfl ?_
        refine x_iconst (pc' := 2) rfl rfl ?_
        refine x_iconst (pc' := 3) rfl rfl ?_
        refine x_cs (ls0 := [_, _, _]) (rest := []) rfl rfl rfl rfl ?_
        refine x_iload_n (pc' := 1) rfl rfl rfl ?_
        refine x_iload_n (pc' := 2) rfl rfl rfl ?_
        refine x_icmp (a' := 14) (pc' := 5) (z := decide (b < 0)) rfl rfl rfl (ic_lt (p := b) (q := 0) (gb31 hb) (by decide)) (fun h => absurd (of_decide_eq_true h) (by first | decide | omega | simp)) (fun _ => ?_)
        refine x_iload_n (pc' := 6) rfl rfl rfl ?_
        refine x_iload_n (pc' := 7) rfl rfl rfl ?_
        refine x_icmp (a' := 14) (pc' := 10) (z := decide (4 < b)) rfl rfl rfl (ic_gt (p := b) (q := 4) (gb31 hb) (by decide)) (fun h => absurd (of_decide_eq_true h) (show ¬ 4 < b by omega)) (fun _ => ?_)
        refine x_iconst (pc' := 11) rfl rfl ?_
        refine x_goto (pc' := 15) rfl rfl ?_
        refine x_retz (z := true) rfl rfl ?_
        refine sK_i (pc' := 6) rfl ?_
        refine x_retz (z := true) rfl rfl ?_
        refine sK_i (pc' := 47) rfl ?_
        refine x_if (a' := 73) (pc' := 50) (z := false) rfl rfl rfl (by decide) (fun h => by cases h) (fun _ => ?_)
        refine x_aload_n (pc' := 51) rfl rfl rfl rfl rfl ?_
        refine x_gR (pc' := 54) (r := (some 0)) rfl rfl rfl (kR_769_0 hc) ?_
        refine x_iload_n (pc' := 55) rfl rfl rfl ?_
        refine x_iald (pc' := 56) (N := 5) (x := (mA M 0 b)) rfl rfl rfl (kN_21_0 hc) (io_in (p := b) (N := 5) hb (by decide)) (Eq.trans (congrArg (sA t 21 0) (nn_io (p := b) (Nat.lt_trans hb (by decide)))) (gA hM rfl)) ?_
        refine x_if (a' := 73) (pc' := 59) (z := decide ((mA M 0 b) = 0)) rfl rfl rfl rfl (fun q115 => ?_) (fun q115 => ?_)
        · refine x_iconst (pc' := 74) rfl rfl ?_
          refine x_istore (pc' := 76) (ls' := [_, _, _, _, _, _, _, _, _, _]) rfl rfl rfl rfl ?_
          refine x_aload_n (pc' := 77) rfl rfl rfl rfl rfl ?_
          refine x_aload_n (pc' := 78) rfl rfl rfl rfl rfl ?_
          refine x_iload_n (pc' := 79) rfl rfl rfl ?_
          refine x_iload_n (pc' := 80) rfl rfl rfl ?_
          refine x_iload (pc' := 82) rfl rfl rfl ?_
          refine x_iload (pc' := 84) rfl rfl rfl ?_
          refine x_cv (ls0 := [_, _, _, _, _, sJk]) (rest := [_]) rfl rfl rfl rfl rfl ?_
          refine x_iload_n (pc' := 1) rfl rfl rfl ?_
          refine x_cs (ls0 := [_]) (rest := []) rfl rfl rfl rfl ?_
          refine x_iload_n (pc' := 1) rfl rfl rfl ?_
          refine x_iconst (pc' := 2) rfl rfl ?_
          refine x_iconst (pc' := 3) rfl rfl ?_
          refine x_cs (ls0 := [_, _, _]) (rest := []) rfl rfl rfl rfl ?_
          refine x_iload_n (pc' := 1) rfl rfl rfl ?_
          refine x_iload_n (pc' := 2) rfl rfl rfl ?_
          refine x_icmp (a' := 14) (pc' := 5) (z := decide (m < 0)) rfl rfl rfl (ic_lt (p := m) (q := 0) (gm31 hm) (by decide)) (fun h => absurd (of_decide_eq_true h) (by first | decide | omega | simp)) (fun _ => ?_)
          refine x_iload_n (pc' := 6) rfl rfl rfl ?_
          refine x_iload_n (pc' := 7) rfl rfl rfl ?_
          refine x_icmp (a' := 14) (pc' := 10) (z := decide (5 < m)) rfl rfl rfl (ic_gt (p := m) (q := 5) (gm31 hm) (by decide)) (fun h => absurd (of_decide_eq_true h) (show ¬ 5 < m by omega)) (fun _ => ?_)
          refine x_iconst (pc' := 11) rfl rfl ?_
          refine x_goto (pc' := 15) rfl rfl ?_
          refine x_retz (z := true) rfl rfl ?_
          refine sK_i (pc' := 6) rfl ?_
          refine x_retz (z := true) rfl rfl ?_
          refine sK_i (pc' := 4) rfl ?_
          refine x_if (a' := 18) (pc' := 7) (z := false) rfl rfl rfl (by decide) (fun h => by cases h) (fun _ => ?_)
          refine x_iload_n (pc' := 8) rfl rfl rfl ?_
          refine x_cs (ls0 := [_]) (rest := []) rfl rfl rfl rfl ?_
          refine x_iload_n (pc' := 1) rfl rfl rfl ?_
          refine x_iconst (pc' := 2) rfl rfl ?_
          refine x_iconst (pc' := 3) rfl rfl ?_
          refine x_cs (ls0 := [_, _, _]) (rest := []) rfl rfl rfl rfl ?_
          refine x_iload_n (pc' := 1) rfl rfl rfl ?_
          refine x_iload_n (pc' := 2) rfl rfl rfl ?_
          refine x_icmp (a' := 14) (pc' := 5) (z := decide (b < 0)) rfl rfl rfl (ic_lt (p := b) (q := 0) (gb31 hb) (by decide)) (fun h => absurd (of_decide_eq_true h) (by first | decide | omega | simp)) (fun _ => ?_)
          refine x_iload_n (pc' := 6) rfl rfl rfl ?_
          refine x_iload_n (pc' := 7) rfl rfl rfl ?_
          refine x_icmp (a' := 14) (pc' := 10) (z := decide (4 < b)) rfl rfl rfl (ic_gt (p := b) (q := 4) (gb31 hb) (by decide)) (fun h => absurd (of_decide_eq_true h) (show ¬ 4 < b by omega)) (fun _ => ?_)
          refine x_iconst (pc' := 11) rfl rfl ?_
          refine x_goto (pc' := 15) rfl rfl ?_
          refine x_retz (z := true) rfl rfl ?_
          refine sK_i (pc' := 6) rfl ?_
          refine x_retz (z := true) rfl rfl ?_
          refine sK_i (pc' := 11) rfl ?_
          refine x_if (a' := 18) (pc' := 14) (z := false) rfl rfl rfl (by decide) (fun h => by cases h) (fun _ => ?_)
          refine x_iconst (pc' := 15) rfl rfl ?_
          refine x_goto (pc' := 19) rfl rfl ?_
          refine x_istore (pc' := 21) (ls' := [_, _, _, _, _, _]) rfl rfl rfl rfl ?_
          refine x_iload (pc' := 23) rfl rfl rfl ?_
          refine x_if (a' := 30) (pc' := 26) (z := true) rfl rfl rfl (by decide) (fun _ => ?_) (fun h => by cases h)
          refine x_iload_n (pc' := 31) rfl rfl rfl ?_
          refine x_if (a' := 38) (pc' := 34) (z := true) rfl rfl rfl (by decide) (fun _ => ?_) (fun h => by cases h)
          refine x_aload_n (pc' := 39) rfl rfl rfl rfl rfl ?_
          refine x_gR (pc' := 42) (r := (some 2)) rfl rfl rfl (kR_781_0 hc) ?_
          refine x_iload_n (pc' := 43) rfl rfl rfl ?_
          refine x_bald (pc' := 44) (N := 6) (z := (mB M 2 m)) rfl rfl (kN_22_2 hc) (io_in (p := m) (N := 6) hm (by decide)) (Eq.trans (congrArg (sB t 22 2) (nn_io (p := m) (Nat.lt_trans hm (by decide)))) (gB hM)) ?_
          refine x_ifne_z (a' := 52) (pc' := 47) (z := (mB M 2 m)) rfl rfl rfl (fun q124 => ?_) (fun q124 => ?_)
          · refine x_iconst (pc' := 53) rfl rfl ?_
            refine x_goto (pc' := 57) rfl rfl ?_
            refine x_reti rfl rfl ?_
            refine sK_i (pc' := 87) rfl ?_
            refine x_cv (ls0 := [_, _]) (rest := []) rfl rfl rfl rfl rfl ?_
            refine x_aload_n (pc' := 1) rfl rfl rfl rfl rfl ?_
            refine x_iload_n (pc' := 2) rfl rfl rfl ?_
            refine x_pI (pc' := 5) rfl rfl rfl ?_
            refine x_iload_n (pc' := 6) rfl rfl rfl ?_
            refine x_if (a' := 13) (pc' := 9) (z := true) rfl rfl rfl (by decide) (fun _ => ?_) (fun h => by cases h)
            refine x_iconst (pc' := 14) rfl rfl ?_
            refine x_retz (z := false) rfl rfl ?_
            refine sK_i (pc' := 90) rfl ?_
            refine x_if (a' := 95) (pc' := 93) (z := false) rfl rfl rfl (by decide) (fun h => by cases h) (fun _ => ?_)
            refine x_iconst (pc' := 94) rfl rfl ?_
            refine x_reti rfl rfl ?_
            exact k9 q4 q40 q76 (of_decide_eq_true q115) q124
          · refine x_iload (pc' := 49) rfl rfl rfl ?_
            refine x_if (a' := 56) (pc' := 52) (z := false) rfl rfl rfl (by decide) (fun h => by cases h) (fun _ => ?_)
            refine x_iconst (pc' := 53) rfl rfl ?_
            refine x_goto (pc' := 57) rfl rfl ?_
            refine x_reti rfl rfl ?_
            refine sK_i (pc' := 87) rfl ?_
            refine x_cv (ls0 := [_, _]) (rest := []) rfl rfl rfl rfl rfl ?_
            refine x_aload_n (pc' := 1) rfl rfl rfl rfl rfl ?_
            refine x_iload_n (pc' := 2) rfl rfl rfl ?_
            refine x_pI (pc' := 5) rfl rfl rfl ?_
            refine x_iload_n (pc' := 6) rfl rfl rfl ?_
            refine x_if (a' := 13) (pc' := 9) (z := true) rfl rfl rfl (by decide) (fun _ => ?_) (fun h => by cases h)
            refine x_iconst (pc' := 14) rfl rfl ?_
            refine x_retz (z := false) rfl rfl ?_
            refine sK_i (pc' := 90) rfl ?_
            refine x_if (a' := 95) (pc' := 93) (z := false) rfl rfl rfl (by decide) (fun h => by cases h) (fun _ => ?_)
            refine x_iconst (pc' := 94) rfl rfl ?_
            refine x_reti rfl rfl ?_
            exact k10 q4 q40 q76 (of_decide_eq_true q115) q124
        · refine x_aload_n (pc' := 60) rfl rfl rfl rfl rfl ?_
          refine x_gI (pc' := 63) (x := (io n)) rfl rfl rfl (gFn hM (Fr.refl _) hR) ?_
          refine x_sipush (pc' := 66) rfl rfl ?_
          refine x_icmp_n (a' := 73) (pc' := 69) (z := decide (n < 200)) rfl rfl rfl (ic_gen (p := n) (q := 200) (gn31 hR) (by decide)) (fun q130 => ?_) (fun q130 => ?_)
          · refine x_iconst (pc' := 74) rfl rfl ?_
            refine x_istore (pc' := 76) (ls' := [_, _, _, _, _, _, _, _, _, _]) rfl rfl rfl rfl ?_
            refine x_aload_n (pc' := 77) rfl rfl rfl rfl rfl ?_
            refine x_aload_n (pc' := 78) rfl rfl rfl rfl rfl ?_
            refine x_iload_n (pc' := 79) rfl rfl rfl ?_
            refine x_iload_n (pc' := 80) rfl rfl rfl ?_
            refine x_iload (pc' := 82) rfl rfl rfl ?_
            refine x_iload (pc' := 84) rfl rfl rfl ?_
            refine x_cv (ls0 := [_, _, _, _, _, sJk]) (rest := [_]) rfl rfl rfl rfl rfl ?_
            refine x_iload_n (pc' := 1) rfl rfl rfl ?_
            refine x_cs (ls0 := [_]) (rest := []) rfl rfl rfl rfl ?_
            refine x_iload_n (pc' := 1) rfl rfl rfl ?_
            refine x_iconst (pc' := 2) rfl rfl ?_
            refine x_iconst (pc' := 3) rfl rfl ?_
            refine x_cs (ls0 := [_, _, _]) (rest := []) rfl rfl rfl rfl ?_
            refine x_iload_n (pc' := 1) rfl rfl rfl ?_
            refine x_iload_n (pc' := 2) rfl rfl rfl ?_
            refine x_icmp (a' := 14) (pc' := 5) (z := decide (m < 0)) rfl rfl rfl (ic_lt (p := m) (q := 0) (gm31 hm) (by decide)) (fun h => absurd (of_decide_eq_true h) (by first | decide | omega | simp)) (fun _ => ?_)
            refine x_iload_n (pc' := 6) rfl rfl rfl ?_
            refine x_iload_n (pc' := 7) rfl rfl rfl ?_
            refine x_icmp (a' := 14) (pc' := 10) (z := decide (5 < m)) rfl rfl rfl (ic_gt (p := m) (q := 5) (gm31 hm) (by decide)) (fun h => absurd (of_decide_eq_true h) (show ¬ 5 < m by omega)) (fun _ => ?_)
            refine x_iconst (pc' := 11) rfl rfl ?_
            refine x_goto (pc' := 15) rfl rfl ?_
            refine x_retz (z := true) rfl rfl ?_
            refine sK_i (pc' := 6) rfl ?_
            refine x_retz (z := true) rfl rfl ?_
            refine sK_i (pc' := 4) rfl ?_
            refine x_if (a' := 18) (pc' := 7) (z := false) rfl rfl rfl (by decide) (fun h => by cases h) (fun _ => ?_)
            refine x_iload_n (pc' := 8) rfl rfl rfl ?_
            refine x_cs (ls0 := [_]) (rest := []) rfl rfl rfl rfl ?_
            refine x_iload_n (pc' := 1) rfl rfl rfl ?_
            refine x_iconst (pc' := 2) rfl rfl ?_
            refine x_iconst (pc' := 3) rfl rfl ?_
            refine x_cs (ls0 := [_, _, _]) (rest := []) rfl rfl rfl rfl ?_
            refine x_iload_n (pc' := 1) rfl rfl rfl ?_
            refine x_iload_n (pc' := 2) rfl rfl rfl ?_
            refine x_icmp (a' := 14) (pc' := 5) (z := decide (b < 0)) rfl rfl rfl (ic_lt (p := b) (q := 0) (gb31 hb) (by decide)) (fun h => absurd (of_decide_eq_true h) (by first | decide | omega | simp)) (fun _ => ?_)
            refine x_iload_n (pc' := 6) rfl rfl rfl ?_
            refine x_iload_n (pc' := 7) rfl rfl rfl ?_
            refine x_icmp (a' := 14) (pc' := 10) (z := decide (4 < b)) rfl rfl rfl (ic_gt (p := b) (q := 4) (gb31 hb) (by decide)) (fun h => absurd (of_decide_eq_true h) (show ¬ 4 < b by omega)) (fun _ => ?_)
            refine x_iconst (pc' := 11) rfl rfl ?_
            refine x_goto (pc' := 15) rfl rfl ?_
            refine x_retz (z := true) rfl rfl ?_
            refine sK_i (pc' := 6) rfl ?_
            refine x_retz (z := true) rfl rfl ?_
            refine sK_i (pc' := 11) rfl ?_
            refine x_if (a' := 18) (pc' := 14) (z := false) rfl rfl rfl (by decide) (fun h => by cases h) (fun _ => ?_)
            refine x_iconst (pc' := 15) rfl rfl ?_
            refine x_goto (pc' := 19) rfl rfl ?_
            refine x_istore (pc' := 21) (ls' := [_, _, _, _, _, _]) rfl rfl rfl rfl ?_
            refine x_iload (pc' := 23) rfl rfl rfl ?_
            refine x_if (a' := 30) (pc' := 26) (z := true) rfl rfl rfl (by decide) (fun _ => ?_) (fun h => by cases h)
            refine x_iload_n (pc' := 31) rfl rfl rfl ?_
            refine x_if (a' := 38) (pc' := 34) (z := true) rfl rfl rfl (by decide) (fun _ => ?_) (fun h => by cases h)
            refine x_aload_n (pc' := 39) rfl rfl rfl rfl rfl ?_
            refine x_gR (pc' := 42) (r := (some 2)) rfl rfl rfl (kR_781_0 hc) ?_
            refine x_iload_n (pc' := 43) rfl rfl rfl ?_
            refine x_bald (pc' := 44) (N := 6) (z := (mB M 2 m)) rfl rfl (kN_22_2 hc) (io_in (p := m) (N := 6) hm (by decide)) (Eq.trans (congrArg (sB t 22 2) (nn_io (p := m) (Nat.lt_trans hm (by decide)))) (gB hM)) ?_
            refine x_ifne_z (a' := 52) (pc' := 47) (z := (mB M 2 m)) rfl rfl rfl (fun q139 => ?_) (fun q139 => ?_)
            · refine x_iconst (pc' := 53) rfl rfl ?_
              refine x_goto (pc' := 57) rfl rfl ?_
              refine x_reti rfl rfl ?_
              refine sK_i (pc' := 87) rfl ?_
              refine x_cv (ls0 := [_, _]) (rest := []) rfl rfl rfl rfl rfl ?_
              refine x_aload_n (pc' := 1) rfl rfl rfl rfl rfl ?_
              refine x_iload_n (pc' := 2) rfl rfl rfl ?_
              refine x_pI (pc' := 5) rfl rfl rfl ?_
              refine x_iload_n (pc' := 6) rfl rfl rfl ?_
              refine x_if (a' := 13) (pc' := 9) (z := true) rfl rfl rfl (by decide) (fun _ => ?_) (fun h => by cases h)
              refine x_iconst (pc' := 14) rfl rfl ?_
              refine x_retz (z := false) rfl rfl ?_
              refine sK_i (pc' := 90) rfl ?_
              refine x_if (a' := 95) (pc' := 93) (z := false) rfl rfl rfl (by decide) (fun h => by cases h) (fun _ => ?_)
              refine x_iconst (pc' := 94) rfl rfl ?_
              refine x_reti rfl rfl ?_
              exact k11 q4 q40 q76 (of_decide_eq_false q115) (of_decide_eq_false q130) q139
            · refine x_iload (pc' := 49) rfl rfl rfl ?_
              refine x_if (a' := 56) (pc' := 52) (z := false) rfl rfl rfl (by decide) (fun h => by cases h) (fun _ => ?_)
              refine x_iconst (pc' := 53) rfl rfl ?_
              refine x_goto (pc' := 57) rfl rfl ?_
              refine x_reti rfl rfl ?_
              refine sK_i (pc' := 87) rfl ?_
              refine x_cv (ls0 := [_, _]) (rest := []) rfl rfl rfl rfl rfl ?_
              refine x_aload_n (pc' := 1) rfl rfl rfl rfl rfl ?_
              refine x_iload_n (pc' := 2) rfl rfl rfl ?_
              refine x_pI (pc' := 5) rfl rfl rfl ?_
              refine x_iload_n (pc' := 6) rfl rfl rfl ?_
              refine x_if (a' := 13) (pc' := 9) (z := true) rfl rfl rfl (by decide) (fun _ => ?_) (fun h => by cases h)
              refine x_iconst (pc' := 14) rfl rfl ?_
              refine x_retz (z := false) rfl rfl ?_
              refine sK_i (pc' := 90) rfl ?_
              refine x_if (a' := 95) (pc' := 93) (z := false) rfl rfl rfl (by decide) (fun h => by cases h) (fun _ => ?_)
              refine x_iconst (pc' := 94) rfl rfl ?_
              refine x_reti rfl rfl ?_
              exact k12 q4 q40 q76 (of_decide_eq_false q115) (of_decide_eq_false q130) q139
          · refine x_iconst (pc' := 70) rfl rfl ?_
            refine x_goto (pc' := 74) rfl rfl ?_
            refine x_istore (pc' := 76) (ls' := [_, _, _, _, _, _, _, _, _, _]) rfl rfl rfl rfl ?_
            refine x_aload_n (pc' := 77) rfl rfl rfl rfl rfl ?_
            refine x_aload_n (pc' := 78) rfl rfl rfl rfl rfl ?_
            refine x_iload_n (pc' := 79) rfl rfl rfl ?_
            refine x_iload_n (pc' := 80) rfl rfl rfl ?_
            refine x_iload (pc' := 82) rfl rfl rfl ?_
            refine x_iload (pc' := 84) rfl rfl rfl ?_
            refine x_cv (ls0 := [_, _, _, _, _, sJk]) (rest := [_]) rfl rfl rfl rfl rfl ?_
            refine x_iload_n (pc' := 1) rfl rfl rfl ?_
            refine x_cs (ls0 := [_]) (rest := []) rfl rfl rfl rfl ?_
            refine x_iload_n (pc' := 1) rfl rfl rfl ?_
            refine x_iconst (pc' := 2) rfl rfl ?_
            refine x_iconst (pc' := 3) rfl rfl ?_
            refine x_cs (ls0 := [_, _, _]) (rest := []) rfl rfl rfl rfl ?_
            refine x_iload_n (pc' := 1) rfl rfl rfl ?_
            refine x_iload_n (pc' := 2) rfl rfl rfl ?_
            refine x_icmp (a' := 14) (pc' := 5) (z := decide (m < 0)) rfl rfl rfl (ic_lt (p := m) (q := 0) (gm31 hm) (by decide)) (fun h => absurd (of_decide_eq_true h) (by first | decide | omega | simp)) (fun _ => ?_)
            refine x_iload_n (pc' := 6) rfl rfl rfl ?_
            refine x_iload_n (pc' := 7) rfl rfl rfl ?_
            refine x_icmp (a' := 14) (pc' := 10) (z := decide (5 < m)) rfl rfl rfl (ic_gt (p := m) (q := 5) (gm31 hm) (by decide)) (fun h => absurd (of_decide_eq_true h) (show ¬ 5 < m by omega)) (fun _ => ?_)
            refine x_iconst (pc' := 11) rfl rfl ?_
            refine x_goto (pc' := 15) rfl rfl ?_
            refine x_retz (z := true) rfl rfl ?_
            refine sK_i (pc' := 6) rfl ?_
            refine x_retz (z := true) rfl rfl ?_
            refine sK_i (pc' := 4) rfl ?_
            refine x_if (a' := 18) (pc' := 7) (z := false) rfl rfl rfl (by decide) (fun h => by cases h) (fun _ => ?_)
            refine x_iload_n (pc' := 8) rfl rfl rfl ?_
            refine x_cs (ls0 := [_]) (rest := []) rfl rfl rfl rfl ?_
            refine x_iload_n (pc' := 1) rfl rfl rfl ?_
            refine x_iconst (pc' := 2) rfl rfl ?_
            refine x_iconst (pc' := 3) rfl rfl ?_
            refine x_cs (ls0 := [_, _, _]) (rest := []) rfl rfl rfl rfl ?_
            refine x_iload_n (pc' := 1) rfl rfl rfl ?_
            refine x_iload_n (pc' := 2) rfl rfl rfl ?_
            refine x_icmp (a' := 14) (pc' := 5) (z := decide (b < 0)) rfl rfl rfl (ic_lt (p := b) (q := 0) (gb31 hb) (by decide)) (fun h => absurd (of_decide_eq_true h) (by first | decide | omega | simp)) (fun _ => ?_)
            refine x_iload_n (pc' := 6) rfl rfl rfl ?_
            refine x_iload_n (pc' := 7) rfl rfl rfl ?_
            refine x_icmp (a' := 14) (pc' := 10) (z := decide (4 < b)) rfl rfl rfl (ic_gt (p := b) (q := 4) (gb31 hb) (by decide)) (fun h => absurd (of_decide_eq_true h) (show ¬ 4 < b by omega)) (fun _ => ?_)
            refine x_iconst (pc' := 11) rfl rfl ?_
            refine x_goto (pc' := 15) rfl rfl ?_
            refine x_retz (z := true) rfl rfl ?_
            refine sK_i (pc' := 6) rfl ?_
            refine x_retz (z := true) rfl rfl ?_
            refine sK_i (pc' := 11) rfl ?_
            refine x_if (a' := 18) (pc' := 14) (z := false) rfl rfl rfl (by decide) (fun h => by cases h) (fun _ => ?_)
            refine x_iconst (pc' := 15) rfl rfl ?_
            refine x_goto (pc' := 19) rfl rfl ?_
            refine x_istore (pc' := 21) (ls' := [_, _, _, _, _, _]) rfl rfl rfl rfl ?_
            refine x_iload (pc' := 23) rfl rfl rfl ?_
            refine x_if (a' := 30) (pc' := 26) (z := true) rfl rfl rfl (by decide) (fun _ => ?_) (fun h => by cases h)
            refine x_iload_n (pc' := 31) rfl rfl rfl ?_
            refine x_if (a' := 38) (pc' := 34) (z := true) rfl rfl rfl (by decide) (fun _ => ?_) (fun h => by cases h)
            refine x_aload_n (pc' := 39) rfl rfl rfl rfl rfl ?_
            refine x_gR (pc' := 42) (r := (some 2)) rfl rfl rfl (kR_781_0 hc) ?_
            refine x_iload_n (pc' := 43) rfl rfl rfl ?_
            refine x_bald (pc' := 44) (N := 6) (z := (mB M 2 m)) rfl rfl (kN_22_2 hc) (io_in (p := m) (N := 6) hm (by decide)) (Eq.trans (congrArg (sB t 22 2) (nn_io (p := m) (Nat.lt_trans hm (by decide)))) (gB hM)) ?_
            refine x_ifne_z (a' := 52) (pc' := 47) (z := (mB M 2 m)) rfl rfl rfl (fun q153 => ?_) (fun q153 => ?_)
            · refine x_iconst (pc' := 53) rfl rfl ?_
              refine x_goto (pc' := 57) rfl rfl ?_
              refine x_reti rfl rfl ?_
              refine sK_i (pc' := 87) rfl ?_
              refine x_cv (ls0 := [_, _]) (rest := []) rfl rfl rfl rfl rfl ?_
              refine x_aload_n (pc' := 1) rfl rfl rfl rfl rfl ?_
              refine x_iload_n (pc' := 2) rfl rfl rfl ?_
              refine x_pI (pc' := 5) rfl rfl rfl ?_
              refine x_iload_n (pc' := 6) rfl rfl rfl ?_
              refine x_if (a' := 13) (pc' := 9) (z := true) rfl rfl rfl (by decide) (fun _ => ?_) (fun h => by cases h)
              refine x_iconst (pc' := 14) rfl rfl ?_
              refine x_retz (z := false) rfl rfl ?_
              refine sK_i (pc' := 90) rfl ?_
              refine x_if (a' := 95) (pc' := 93) (z := false) rfl rfl rfl (by decide) (fun h => by cases h) (fun _ => ?_)
              refine x_iconst (pc' := 94) rfl rfl ?_
              refine x_reti rfl rfl ?_
              exact k13 q4 q40 q76 (of_decide_eq_false q115) (of_decide_eq_true q130) q153
            · refine x_iload (pc' := 49) rfl rfl rfl ?_
              refine x_if (a' := 56) (pc' := 52) (z := true) rfl rfl rfl (by decide) (fun _ => ?_) (fun h => by cases h)
              refine x_iconst (pc' := 57) rfl rfl ?_
              refine x_reti rfl rfl ?_
              refine sK_i (pc' := 87) rfl ?_
              refine x_cv (ls0 := [_, _]) (rest := []) rfl rfl rfl rfl rfl ?_
              refine x_aload_n (pc' := 1) rfl rfl rfl rfl rfl ?_
              refine x_iload_n (pc' := 2) rfl rfl rfl ?_
              refine x_pI (pc' := 5) rfl rfl rfl ?_
              refine x_iload_n (pc' := 6) rfl rfl rfl ?_
              refine x_if (a' := 13) (pc' := 9) (z := false) rfl rfl rfl (by decide) (fun h => by cases h) (fun _ => ?_)
              refine x_iconst (pc' := 10) rfl rfl ?_
              refine x_goto (pc' := 14) rfl rfl ?_
              refine x_retz (z := true) rfl rfl ?_
              refine sK_i (pc' := 90) rfl ?_
              refine x_if (a' := 95) (pc' := 93) (z := true) rfl rfl rfl (by decide) (fun _ => ?_) (fun h => by cases h)
              refine x_aload_n (pc' := 96) rfl rfl rfl rfl rfl ?_
              refine x_iload_n (pc' := 97) rfl rfl rfl ?_
              refine x_iload_n (pc' := 98) rfl rfl rfl ?_
              refine x_iload_n (pc' := 99) rfl rfl rfl ?_
              refine x_iload (pc' := 101) rfl rfl rfl ?_
              refine x_iload (pc' := 103) rfl rfl rfl ?_
              refine x_iload (pc' := 105) rfl rfl rfl ?_
              refine x_cv (ls0 := [_, _, _, _, _, _, _]) (rest := []) rfl rfl rfl rfl rfl ?_
              exact k14 q4 q40 q76 (of_decide_eq_false q115) (of_decide_eq_true q130) q153
set_option maxHeartbeats 4000000 in
set_option maxRecDepth 10000 in
theorem r206_x1 {t : sT} {Q : sRs → sT → Prop} {M : sM} {n : Nat} {m : Nat} {x : Int32} {s : Bool} {p : Int32} {a : Int32} {h : Int32}
    (hV : Vr t M n)
    (hm : m < 6)
    (hp : ixo x 5 = none)
    (k0 : Q (.inl (some (.inl 0))) (sIw t 768 0 1)) :
    X 206 0 [.inr (.inr (12, (some 0))), .inl (io m), .inl x, .inl (bz s), .inl p, .inl a, .inl h, sJk, sJk, sJk] [] t Q := by
  obtain ⟨hM, hc, hR⟩ := hV
  refine x_iload_n (pc' := 1) rfl rfl rfl ?_
  refine x_cs (ls0 := [_]) (rest := []) rfl rfl rfl rfl ?_
  refine x_iload_n (pc' := 1) rfl rfl rfl ?_
  refine x_iconst (pc' := 2) rfl rfl ?_
  refine x_iconst (pc' := 3) rfl rfl ?_
  refine x_cs (ls0 := [_, _, _]) (rest := []) rfl rfl rfl rfl ?_
  refine r145_xg (ixo_c5 hp) ?_
  refine sK_i (pc' := 6) rfl ?_
  refine x_retz (z := false) rfl rfl ?_
  refine sK_i (pc' := 4) rfl ?_
  refine x_if (a' := 40) (pc' := 7) (z := true) rfl rfl rfl (by decide) (fun _ => ?_) (fun h => by cases h)
  refine x_iconst (pc' := 41) rfl rfl ?_
  refine x_istore (pc' := 43) (ls' := [_, _, _, _, _, _, _, _, _, _]) rfl rfl rfl rfl ?_
  refine x_iload_n (pc' := 44) rfl rfl rfl ?_
  refine x_cs (ls0 := [_]) (rest := []) rfl rfl rfl rfl ?_
  refine x_iload_n (pc' := 1) rfl rfl rfl ?_
  refine x_iconst (pc' := 2) rfl rfl ?_
  refine x_iconst (pc' := 3) rfl rfl ?_
  refine x_cs (ls0 := [_, _, _]) (rest := []) rfl rfl rfl rfl ?_
  refine r145_xg (ixo_c5 hp) ?_
  refine sK_i (pc' := 6) rfl ?_
  refine x_retz (z := false) rfl rfl ?_
  refine sK_i (pc' := 47) rfl ?_
  refine x_if (a' := 73) (pc' := 50) (z := true) rfl rfl rfl (by decide) (fun _ => ?_) (fun h => by cases h)
  refine x_iconst (pc' := 74) rfl rfl ?_
  refine x_istore (pc' := 76) (ls' := [_, _, _, _, _, _, _, _, _, _]) rfl rfl rfl rfl ?_
  refine x_aload_n (pc' := 77) rfl rfl rfl rfl rfl ?_
  refine x_aload_n (pc' := 78) rfl rfl rfl rfl rfl ?_
  refine x_iload_n (pc' := 79) rfl rfl rfl ?_
  refine x_iload_n (pc' := 80) rfl rfl rfl ?_
  refine x_iload (pc' := 82) rfl rfl rfl ?_
  refine x_iload (pc' := 84) rfl rfl rfl ?_
  refine x_cv (ls0 := [_, _, _, _, _, sJk]) (rest := [_]) rfl rfl rfl rfl rfl ?_
  refine x_iload_n (pc' := 1) rfl rfl rfl ?_
  refine x_cs (ls0 := [_]) (rest := []) rfl rfl rfl rfl ?_
  refine x_iload_n (pc' := 1) rfl rfl rfl ?_
  refine x_iconst (pc' := 2) rfl rfl ?_
  refine x_iconst (pc' := 3) rfl rfl ?_
  refine x_cs (ls0 := [_, _, _]) (rest := []) rfl rfl rfl rfl ?_
  refine x_iload_n (pc' := 1) rfl rfl rfl ?_
  refine x_iload_n (pc' := 2) rfl rfl rfl ?_
  refine x_icmp (a' := 14) (pc' := 5) (z := decide (m < 0)) rfl rfl rfl (ic_lt (p := m) (q := 0) (gm31 hm) (by decide)) (fun h => absurd (of_decide_eq_true h) (by first | decide | omega | simp)) (fun _ => ?_)
  refine x_iload_n (pc' := 6) rfl rfl rfl ?_
  refine x_iload_n (pc' := 7) rfl rfl rfl ?_
  refine x_icmp (a' := 14) (pc' := 10) (z := decide (5 < m)) rfl rfl rfl (ic_gt (p := m) (q := 5) (gm31 hm) (by decide)) (fun h => absurd (of_decide_eq_true h) (show ¬ 5 < m by omega)) (fun _ => ?_)
  refine x_iconst (pc' := 11) rfl rfl ?_
  refine x_goto (pc' := 15) rfl rfl ?_
  refine x_retz (z := true) rfl rfl ?_
  refine sK_i (pc' := 6) rfl ?_
  refine x_retz (z := true) rfl rfl ?_
  refine sK_i (pc' := 4) rfl ?_
  refine x_if (a' := 18) (pc' := 7) (z := false) rfl rfl rfl (by decide) (fun h => by cases h) (fun _ => ?_)
  refine x_iload_n (pc' := 8) rfl rfl rfl ?_
  refine x_cs (ls0 := [_]) (rest := []) rfl rfl rfl rfl ?_
  refine x_iload_n (pc' := 1) rfl rfl rfl ?_
  refine x_iconst (pc' := 2) rfl rfl ?_
  refine x_iconst (pc' := 3) rfl rfl ?_
  refine x_cs (ls0 := [_, _, _]) (rest := []) rfl rfl rfl rfl ?_
  refine r145_xg (ixo_c5 hp) ?_
  refine sK_i (pc' := 6) rfl ?_
  refine x_retz (z := false) rfl rfl ?_
  refine sK_i (pc' := 11) rfl ?_
  refine x_if (a' := 18) (pc' := 14) (z := true) rfl rfl rfl (by decide) (fun _ => ?_) (fun h => by cases h)
  refine x_iconst (pc' := 19) rfl rfl ?_
  refine x_istore (pc' := 21) (ls' := [_, _, _, _, _, _]) rfl rfl rfl rfl ?_
  refine x_iload (pc' := 23) rfl rfl rfl ?_
  refine x_if (a' := 30) (pc' := 26) (z := false) rfl rfl rfl (by decide) (fun h => by cases h) (fun _ => ?_)
  refine x_iconst (pc' := 27) rfl rfl ?_
  refine x_goto (pc' := 57) rfl rfl ?_
  refine x_reti rfl rfl ?_
  refine sK_i (pc' := 87) rfl ?_
  refine x_cv (ls0 := [_, _]) (rest := []) rfl rfl rfl rfl rfl ?_
  refine x_aload_n (pc' := 1) rfl rfl rfl rfl rfl ?_
  refine x_iload_n (pc' := 2) rfl rfl rfl ?_
  refine x_pI (pc' := 5) rfl rfl rfl ?_
  refine x_iload_n (pc' := 6) rfl rfl rfl ?_
  refine x_if (a' := 13) (pc' := 9) (z := true) rfl rfl rfl (by decide) (fun _ => ?_) (fun h => by cases h)
  refine x_iconst (pc' := 14) rfl rfl ?_
  refine x_retz (z := false) rfl rfl ?_
  refine sK_i (pc' := 90) rfl ?_
  refine x_if (a' := 95) (pc' := 93) (z := false) rfl rfl rfl (by decide) (fun h => by cases h) (fun _ => ?_)
  refine x_iconst (pc' := 94) rfl rfl ?_
  refine x_reti rfl rfl ?_
  exact k0
set_option maxHeartbeats 4000000 in
set_option maxRecDepth 10000 in
theorem r206_x0 {t : sT} {Q : sRs → sT → Prop} {M : sM} {n : Nat} {x : Int32} {b : Nat} {s : Bool} {p : Int32} {a : Int32} {h : Int32}
    (hV : Vr t M n)
    (hp : ixo x 6 = none)
    (hb : b < 5)
    (k0 : (prB b p) = false → (mA M 0 b) = 0 → Q (.inl (some (.inl 0))) (sIw t 768 0 1))
    (k1 : (prB b p) = false → ¬ ((mA M 0 b) = 0) → ¬ (n < 200) → Q (.inl (some (.inl 0))) (sIw t 768 0 1))
    (k2 : (prB b p) = false → ¬ ((mA M 0 b) = 0) → n < 200 → Q (.inl (some (.inl 0))) (sIw t 768 0 1))
    (k3 : (prB b p) = true → (inB a 1 100) = false → (mA M 0 b) = 0 → Q (.inl (some (.inl 0))) (sIw t 768 0 1))
    (k4 : (prB b p) = true → (inB a 1 100) = false → ¬ ((mA M 0 b) = 0) → ¬ (n < 200) → Q (.inl (some (.inl 0))) (sIw t 768 0 1))
    (k5 : (prB b p) = true → (inB a 1 100) = false → ¬ ((mA M 0 b) = 0) → n < 200 → Q (.inl (some (.inl 0))) (sIw t 768 0 1))
    (k6 : (prB b p) = true → (inB a 1 100) = true → (prB b h) = false → (mA M 0 b) = 0 → Q (.inl (some (.inl 0))) (sIw t 768 0 1))
    (k7 : (prB b p) = true → (inB a 1 100) = true → (prB b h) = false → ¬ ((mA M 0 b) = 0) → ¬ (n < 200) → Q (.inl (some (.inl 0))) (sIw t 768 0 1))
    (k8 : (prB b p) = true → (inB a 1 100) = true → (prB b h) = false → ¬ ((mA M 0 b) = 0) → n < 200 → Q (.inl (some (.inl 0))) (sIw t 768 0 1))
    (k9 : (prB b p) = true → (inB a 1 100) = true → (prB b h) = true → (mA M 0 b) = 0 → Q (.inl (some (.inl 0))) (sIw t 768 0 1))
    (k10 : (prB b p) = true → (inB a 1 100) = true → (prB b h) = true → ¬ ((mA M 0 b) = 0) → ¬ (n < 200) → Q (.inl (some (.inl 0))) (sIw t 768 0 1))
    (k11 : (prB b p) = true → (inB a 1 100) = true → (prB b h) = true → ¬ ((mA M 0 b) = 0) → n < 200 → Q (.inl (some (.inl 0))) (sIw t 768 0 1)) :
    X 206 0 [.inr (.inr (12, (some 0))), .inl x, .inl (io b), .inl (bz s), .inl p, .inl a, .inl h, sJk, sJk, sJk] [] t Q := by
  obtain ⟨hM, hc, hR⟩ := hV
  refine x_iload_n (pc' := 1) rfl rfl rfl ?_
  refine x_cs (ls0 := [_]) (rest := []) rfl rfl rfl rfl ?_
  refine x_iload_n (pc' := 1) rfl rfl rfl ?_
  refine x_iconst (pc' := 2) rfl rfl ?_
  refine x_iconst (pc' := 3) rfl rfl ?_
  refine x_cs (ls0 := [_, _, _]) (rest := []) rfl rfl rfl rfl ?_
  refine x_iload_n (pc' := 1) rfl rfl rfl ?_
  refine x_iload_n (pc' := 2) rfl rfl rfl ?_
  refine x_icmp (a' := 14) (pc' := 5) (z := decide (b < 0)) rfl rfl rfl (ic_lt (p := b) (q := 0) (gb31 hb) (by decide)) (fun h => absurd (of_decide_eq_true h) (by first | decide | omega | simp)) (fun _ => ?_)
  refine x_iload_n (pc' := 6) rfl rfl rfl ?_
  refine x_iload_n (pc' := 7) rfl rfl rfl ?_
  refine x_icmp (a' := 14) (pc' := 10) (z := decide (4 < b)) rfl rfl rfl (ic_gt (p := b) (q := 4) (gb31 hb) (by decide)) (fun h => absurd (of_decide_eq_true h) (show ¬ 4 < b by omega)) (fun _ => ?_)
  refine x_iconst (pc' := 11) rfl rfl ?_
  refine x_goto (pc' := 15) rfl rfl ?_
  refine x_retz (z := true) rfl rfl ?_
  refine sK_i (pc' := 6) rfl ?_
  refine x_retz (z := true) rfl rfl ?_
  refine sK_i (pc' := 4) rfl ?_
  refine x_if (a' := 40) (pc' := 7) (z := false) rfl rfl rfl (by decide) (fun h => by cases h) (fun _ => ?_)
  refine x_iload_n (pc' := 8) rfl rfl rfl ?_
  refine x_iload (pc' := 10) rfl rfl rfl ?_
  refine x_cs (ls0 := [_, _]) (rest := []) rfl rfl rfl rfl ?_
  refine r150_g hb ?_
  refine sK_i (pc' := 13) rfl ?_
  refine x_ifeq_z (a' := 40) (pc' := 16) (z := (prB b p)) rfl rfl rfl (fun q4 => ?_) (fun q4 => ?_)
  · refine x_iconst (pc' := 41) rfl rfl ?_
    refine x_istore (pc' := 43) (ls' := [_, _, _, _, _, _, _, _, _, _]) rfl rfl rfl rfl ?_
    refine x_iload_n (pc' := 44) rfl rfl rfl ?_
    refine x_cs (ls0 := [_]) (rest := []) rfl rfl rfl rfl ?_
    refine x_iload_n (pc' := 1) rfl rfl rfl ?_
    refine x_iconst (pc' := 2) rfl rfl ?_
    refine x_iconst (pc' := 3) rfl rfl ?_
    refine x_cs (ls0 := [_, _, _]) (rest := []) rfl rfl rfl rfl ?_
    refine x_iload_n (pc' := 1) rfl rfl rfl ?_
    refine x_iload_n (pc' := 2) rfl rfl rfl ?_
    refine x_icmp (a' := 14) (pc' := 5) (z := decide (b < 0)) rfl rfl rfl (ic_lt (p := b) (q := 0) (gb31 hb) (by decide)) (fun h => absurd (of_decide_eq_true h) (by first | decide | omega | simp)) (fun _ => ?_)
    refine x_iload_n (pc' := 6) rfl rfl rfl ?_
    refine x_iload_n (pc' := 7) rfl rfl rfl ?_
    refine x_icmp (a' := 14) (pc' := 10) (z := decide (4 < b)) rfl rfl rfl (ic_gt (p := b) (q := 4) (gb31 hb) (by decide)) (fun h => absurd (of_decide_eq_true h) (show ¬ 4 < b by omega)) (fun _ => ?_)
    refine x_iconst (pc' := 11) rfl rfl ?_
    refine x_goto (pc' := 15) rfl rfl ?_
    refine x_retz (z := true) rfl rfl ?_
    refine sK_i (pc' := 6) rfl ?_
    refine x_retz (z := true) rfl rfl ?_
    refine sK_i (pc' := 47) rfl ?_
    refine x_if (a' := 73) (pc' := 50) (z := false) rfl rfl rfl (by decide) (fun h => by cases h) (fun _ => ?_)
    refine x_aload_n (pc' := 51) rfl rfl rfl rfl rfl ?_
    refine x_gR (pc' := 54) (r := (some 0)) rfl rfl rfl (kR_769_0 hc) ?_
    refine x_iload_n (pc' := 55) rfl rfl rfl ?_
    refine x_iald (pc' := 56) (N := 5) (x := (mA M 0 b)) rfl rfl rfl (kN_21_0 hc) (io_in (p := b) (N := 5) hb (by decide)) (Eq.trans (congrArg (sA t 21 0) (nn_io (p := b) (Nat.lt_trans hb (by decide)))) (gA hM rfl)) ?_
    refine x_if (a' := 73) (pc' := 59) (z := decide ((mA M 0 b) = 0)) rfl rfl rfl rfl (fun q8 => ?_) (fun q8 => ?_)
    · refine x_iconst (pc' := 74) rfl rfl ?_
      refine x_istore (pc' := 76) (ls' := [_, _, _, _, _, _, _, _, _, _]) rfl rfl rfl rfl ?_
      refine x_aload_n (pc' := 77) rfl rfl rfl rfl rfl ?_
      refine x_aload_n (pc' := 78) rfl rfl rfl rfl rfl ?_
      refine x_iload_n (pc' := 79) rfl rfl rfl ?_
      refine x_iload_n (pc' := 80) rfl rfl rfl ?_
      refine x_iload (pc' := 82) rfl rfl rfl ?_
      refine x_iload (pc' := 84) rfl rfl rfl ?_
      refine x_cv (ls0 := [_, _, _, _, _, sJk]) (rest := [_]) rfl rfl rfl rfl rfl ?_
      refine x_iload_n (pc' := 1) rfl rfl rfl ?_
      refine x_cs (ls0 := [_]) (rest := []) rfl rfl rfl rfl ?_
      refine x_iload_n (pc' := 1) rfl rfl rfl ?_
      refine x_iconst (pc' := 2) rfl rfl ?_
      refine x_iconst (pc' := 3) rfl rfl ?_
      refine x_cs (ls0 := [_, _, _]) (rest := []) rfl rfl rfl rfl ?_
      refine r145_xg (ixo_c6 hp) ?_
      refine sK_i (pc' := 6) rfl ?_
      refine x_retz (z := false) rfl rfl ?_
      refine sK_i (pc' := 4) rfl ?_
      refine x_if (a' := 18) (pc' := 7) (z := true) rfl rfl rfl (by decide) (fun _ => ?_) (fun h => by cases h)
      refine x_iconst (pc' := 19) rfl rfl ?_
      refine x_istore (pc' := 21) (ls' := [_, _, _, _, _, _]) rfl rfl rfl rfl ?_
      refine x_iload (pc' := 23) rfl rfl rfl ?_
      refine x_if (a' := 30) (pc' := 26) (z := false) rfl rfl rfl (by decide) (fun h => by cases h) (fun _ => ?_)
      refine x_iconst (pc' := 27) rfl rfl ?_
      refine x_goto (pc' := 57) rfl rfl ?_
      refine x_reti rfl rfl ?_
      refine sK_i (pc' := 87) rfl ?_
      refine x_cv (ls0 := [_, _]) (rest := []) rfl rfl rfl rfl rfl ?_
      refine x_aload_n (pc' := 1) rfl rfl rfl rfl rfl ?_
      refine x_iload_n (pc' := 2) rfl rfl rfl ?_
      refine x_pI (pc' := 5) rfl rfl rfl ?_
      refine x_iload_n (pc' := 6) rfl rfl rfl ?_
      refine x_if (a' := 13) (pc' := 9) (z := true) rfl rfl rfl (by decide) (fun _ => ?_) (fun h => by cases h)
      refine x_iconst (pc' := 14) rfl rfl ?_
      refine x_retz (z := false) rfl rfl ?_
      refine sK_i (pc' := 90) rfl ?_
      refine x_if (a' := 95) (pc' := 93) (z := false) rfl rfl rfl (by decide) (fun h => by cases h) (fun _ => ?_)
      refine x_iconst (pc' := 94) rfl rfl ?_
      refine x_reti rfl rfl ?_
      exact k0 q4 (of_decide_eq_true q8)
    · refine x_aload_n (pc' := 60) rfl rfl rfl rfl rfl ?_
      refine x_gI (pc' := 63) (x := (io n)) rfl rfl rfl (gFn hM (Fr.refl _) hR) ?_
      refine x_sipush (pc' := 66) rfl rfl ?_
      refine x_icmp_n (a' := 73) (pc' := 69) (z := decide (n < 200)) rfl rfl rfl (ic_gen (p := n) (q := 200) (gn31 hR) (by decide)) (fun q13 => ?_) (fun q13 => ?_)
      · refine x_iconst (pc' := 74) rfl rfl ?_
        refine x_istore (pc' := 76) (ls' := [_, _, _, _, _, _, _, _, _, _]) rfl rfl rfl rfl ?_
        refine x_aload_n (pc' := 77) rfl rfl rfl rfl rfl ?_
        refine x_aload_n (pc' := 78) rfl rfl rfl rfl rfl ?_
        refine x_iload_n (pc' := 79) rfl rfl rfl ?_
        refine x_iload_n (pc' := 80) rfl rfl rfl ?_
        refine x_iload (pc' := 82) rfl rfl rfl ?_
        refine x_iload (pc' := 84) rfl rfl rfl ?_
        refine x_cv (ls0 := [_, _, _, _, _, sJk]) (rest := [_]) rfl rfl rfl rfl rfl ?_
        refine x_iload_n (pc' := 1) rfl rfl rfl ?_
        refine x_cs (ls0 := [_]) (rest := []) rfl rfl rfl rfl ?_
        refine x_iload_n (pc' := 1) rfl rfl rfl ?_
        refine x_iconst (pc' := 2) rfl rfl ?_
        refine x_iconst (pc' := 3) rfl rfl ?_
        refine x_cs (ls0 := [_, _, _]) (rest := []) rfl rfl rfl rfl ?_
        refine r145_xg (ixo_c6 hp) ?_
        refine sK_i (pc' := 6) rfl ?_
        refine x_retz (z := false) rfl rfl ?_
        refine sK_i (pc' := 4) rfl ?_
        refine x_if (a' := 18) (pc' := 7) (z := true) rfl rfl rfl (by decide) (fun _ => ?_) (fun h => by cases h)
        refine x_iconst (pc' := 19) rfl rfl ?_
        refine x_istore (pc' := 21) (ls' := [_, _, _, _, _, _]) rfl rfl rfl rfl ?_
        refine x_iload (pc' := 23) rfl rfl rfl ?_
        refine x_if (a' := 30) (pc' := 26) (z := false) rfl rfl rfl (by decide) (fun h => by cases h) (fun _ => ?_)
        refine x_iconst (pc' := 27) rfl rfl ?_
        refine x_goto (pc' := 57) rfl rfl ?_
        refine x_reti rfl rfl ?_
        refine sK_i (pc' := 87) rfl ?_
        refine x_cv (ls0 := [_, _]) (rest := []) rfl rfl rfl rfl rfl ?_
        refine x_aload_n (pc' := 1) rfl rfl rfl rfl rfl ?_
        refine x_iload_n (pc' := 2) rfl rfl rfl ?_
        refine x_pI (pc' := 5) rfl rfl rfl ?_
        refine x_iload_n (pc' := 6) rfl rfl rfl ?_
        refine x_if (a' := 13) (pc' := 9) (z := true) rfl rfl rfl (by decide) (fun _ => ?_) (fun h => by cases h)
        refine x_iconst (pc' := 14) rfl rfl ?_
        refine x_retz (z := false) rfl rfl ?_
        refine sK_i (pc' := 90) rfl ?_
        refine x_if (a' := 95) (pc' := 93) (z := false) rfl rfl rfl (by decide) (fun h => by cases h) (fun _ => ?_)
        refine x_iconst (pc' := 94) rfl rfl ?_
        refine x_reti rfl rfl ?_
        exact k1 q4 (of_decide_eq_false q8) (of_decide_eq_false q13)
      · refine x_iconst (pc' := 70) rfl rfl ?_
        refine x_goto (pc' := 74) rfl rfl ?_
        refine x_istore (pc' := 76) (ls' := [_, _, _, _, _, _, _, _, _, _]) rfl rfl rfl rfl ?_
        refine x_aload_n (pc' := 77) rfl rfl rfl rfl rfl ?_
        refine x_aload_n (pc' := 78) rfl rfl rfl rfl rfl ?_
        refine x_iload_n (pc' := 79) rfl rfl rfl ?_
        refine x_iload_n (pc' := 80) rfl rfl rfl ?_
        refine x_iload (pc' := 82) rfl rfl rfl ?_
        refine x_iload (pc' := 84) rfl rfl rfl ?_
        refine x_cv (ls0 := [_, _, _, _, _, sJk]) (rest := [_]) rfl rfl rfl rfl rfl ?_
        refine x_iload_n (pc' := 1) rfl rfl rfl ?_
        refine x_cs (ls0 := [_]) (rest := []) rfl rfl rfl rfl ?_
        refine x_iload_n (pc' := 1) rfl rfl rfl ?_
        refine x_iconst (pc' := 2) rfl rfl ?_
        refine x_iconst (pc' := 3) rfl rfl ?_
        refine x_cs (ls0 := [_, _, _]) (rest := []) rfl rfl rfl rfl ?_
        refine r145_xg (ixo_c6 hp) ?_
        refine sK_i (pc' := 6) rfl ?_
        refine x_retz (z := false) rfl rfl ?_
        refine sK_i (pc' := 4) rfl ?_
        refine x_if (a' := 18) (pc' := 7) (z := true) rfl rfl rfl (by decide) (fun _ => ?_) (fun h => by cases h)
        refine x_iconst (pc' := 19) rfl rfl ?_
        refine x_istore (pc' := 21) (ls' := [_, _, _, _, _, _]) rfl rfl rfl rfl ?_
        refine x_iload (pc' := 23) rfl rfl rfl ?_
        refine x_if (a' := 30) (pc' := 26) (z := false) rfl rfl rfl (by decide) (fun h => by cases h) (fun _ => ?_)
        refine x_iconst (pc' := 27) rfl rfl ?_
        refine x_goto (pc' := 57) rfl rfl ?_
        refine x_reti rfl rfl ?_
        refine sK_i (pc' := 87) rfl ?_
        refine x_cv (ls0 := [_, _]) (rest := []) rfl rfl rfl rfl rfl ?_
        refine x_aload_n (pc' := 1) rfl rfl rfl rfl rfl ?_
        refine x_iload_n (pc' := 2) rfl rfl rfl ?_
        refine x_pI (pc' := 5) rfl rfl rfl ?_
        refine x_iload_n (pc' := 6) rfl rfl rfl ?_
        refine x_if (a' := 13) (pc' := 9) (z := true) rfl rfl rfl (by decide) (fun _ => ?_) (fun h => by cases h)
        refine x_iconst (pc' := 14) rfl rfl ?_
        refine x_retz (z := false) rfl rfl ?_
        refine sK_i (pc' := 90) rfl ?_
        refine x_if (a' := 95) (pc' := 93) (z := false) rfl rfl rfl (by decide) (fun h => by cases h) (fun _ => ?_)
        refine x_iconst (pc' := 94) rfl rfl ?_
        refine x_reti rfl rfl ?_
        exact k2 q4 (of_decide_eq_false q8) (of_decide_eq_true q13)
  · refine x_iload (pc' := 18) rfl rfl rfl ?_
    refine x_iconst (pc' := 19) rfl rfl ?_
    refine x_bipush (pc' := 21) rfl rfl ?_
    refine x_cs (ls0 := [_, _, _]) (rest := []) rfl rfl rfl rfl ?_
    refine r145_g ?_
    refine sK_i (pc' := 24) rfl ?_
    refine x_ifeq_z (a' := 40) (pc' := 27) (z := (inB a 1 100)) rfl rfl rfl (fun q22 => ?_) (fun q22 => ?_)
    · refine x_iconst (pc' := 41) rfl rfl ?_
      refine x_istore (pc' := 43) (ls' := [_, _, _, _, _, _, _, _, _, _]) rfl rfl rfl rfl ?_
      refine x_iload_n (pc' := 44) rfl rfl rfl ?_
      refine x_cs (ls0 := [_]) (rest := []) rfl rfl rfl rfl ?_
      refine x_iload_n (pc' := 1) rfl rfl rfl ?_
      refine x_iconst (pc' := 2) rfl rfl ?_
      refine x_iconst (pc' := 3) rfl rfl ?_
      refine x_cs (ls0 := [_, _, _]) (rest := []) rfl rfl rfl rfl ?_
      refine x_iload_n (pc' := 1) rfl rfl rfl ?_
      refine x_iload_n (pc' := 2) rfl rfl rfl ?_
      refine x_icmp (a' := 14) (pc' := 5) (z := decide (b < 0)) rfl rfl rfl (ic_lt (p := b) (q := 0) (gb31 hb) (by decide)) (fun h => absurd (of_decide_eq_true h) (by first | decide | omega | simp)) (fun _ => ?_)
      refine x_iload_n (pc' := 6) rfl rfl rfl ?_
      refine x_iload_n (pc' := 7) rfl rfl rfl ?_
      refine x_icmp (a' := 14) (pc' := 10) (z := decide (4 < b)) rfl rfl rfl (ic_gt (p := b) (q := 4) (gb31 hb) (by decide)) (fun h => absurd (of_decide_eq_true h) (show ¬ 4 < b by omega)) (fun _ => ?_)
      refine x_iconst (pc' := 11) rfl rfl ?_
      refine x_goto (pc' := 15) rfl rfl ?_
      refine x_retz (z := true) rfl rfl ?_
      refine sK_i (pc' := 6) rfl ?_
      refine x_retz (z := true) rfl rfl ?_
      refine sK_i (pc' := 47) rfl ?_
      refine x_if (a' := 73) (pc' := 50) (z := false) rfl rfl rfl (by decide) (fun h => by cases h) (fun _ => ?_)
      refine x_aload_n (pc' := 51) rfl rfl rfl rfl rfl ?_
      refine x_gR (pc' := 54) (r := (some 0)) rfl rfl rfl (kR_769_0 hc) ?_
      refine x_iload_n (pc' := 55) rfl rfl rfl ?_
      refine x_iald (pc' := 56) (N := 5) (x := (mA M 0 b)) rfl rfl rfl (kN_21_0 hc) (io_in (p := b) (N := 5) hb (by decide)) (Eq.trans (congrArg (sA t 21 0) (nn_io (p := b) (Nat.lt_trans hb (by decide)))) (gA hM rfl)) ?_
      refine x_if (a' := 73) (pc' := 59) (z := decide ((mA M 0 b) = 0)) rfl rfl rfl rfl (fun q26 => ?_) (fun q26 => ?_)
      · refine x_iconst (pc' := 74) rfl rfl ?_
        refine x_istore (pc' := 76) (ls' := [_, _, _, _, _, _, _, _, _, _]) rfl rfl rfl rfl ?_
        refine x_aload_n (pc' := 77) rfl rfl rfl rfl rfl ?_
        refine x_aload_n (pc' := 78) rfl rfl rfl rfl rfl ?_
        refine x_iload_n (pc' := 79) rfl rfl rfl ?_
        refine x_iload_n (pc' := 80) rfl rfl rfl ?_
        refine x_iload (pc' := 82) rfl rfl rfl ?_
        refine x_iload (pc' := 84) rfl rfl rfl ?_
        refine x_cv (ls0 := [_, _, _, _, _, sJk]) (rest := [_]) rfl rfl rfl rfl rfl ?_
        refine x_iload_n (pc' := 1) rfl rfl rfl ?_
        refine x_cs (ls0 := [_]) (rest := []) rfl rfl rfl rfl ?_
        refine x_iload_n (pc' := 1) rfl rfl rfl ?_
        refine x_iconst (pc' := 2) rfl rfl ?_
        refine x_iconst (pc' := 3) rfl rfl ?_
        refine x_cs (ls0 := [_, _, _]) (rest := []) rfl rfl rfl rfl ?_
        refine r145_xg (ixo_c6 hp) ?_
        refine sK_i (pc' := 6) rfl ?_
        refine x_retz (z := false) rfl rfl ?_
        refine sK_i (pc' := 4) rfl ?_
        refine x_if (a' := 18) (pc' := 7) (z := true) rfl rfl rfl (by decide) (fun _ => ?_) (fun h => by cases h)
        refine x_iconst (pc' := 19) rfl rfl ?_
        refine x_istore (pc' := 21) (ls' := [_, _, _, _, _, _]) rfl rfl rfl rfl ?_
        refine x_iload (pc' := 23) rfl rfl rfl ?_
        refine x_if (a' := 30) (pc' := 26) (z := false) rfl rfl rfl (by decide) (fun h => by cases h) (fun _ => ?_)
        refine x_iconst (pc' := 27) rfl rfl ?_
        refine x_goto (pc' := 57) rfl rfl ?_
        refine x_reti rfl rfl ?_
        refine sK_i (pc' := 87) rfl ?_
        refine x_cv (ls0 := [_, _]) (rest := []) rfl rfl rfl rfl rfl ?_
        refine x_aload_n (pc' := 1) rfl rfl rfl rfl rfl ?_
        refine x_iload_n (pc' := 2) rfl rfl rfl ?_
        refine x_pI (pc' := 5) rfl rfl rfl ?_
        refine x_iload_n (pc' := 6) rfl rfl rfl ?_
        refine x_if (a' := 13) (pc' := 9) (z := true) rfl rfl rfl (by decide) (fun _ => ?_) (fun h => by cases h)
        refine x_iconst (pc' := 14) rfl rfl ?_
        refine x_retz (z := false) rfl rfl ?_
        refine sK_i (pc' := 90) rfl ?_
        refine x_if (a' := 95) (pc' := 93) (z := false) rfl rfl rfl (by decide) (fun h => by cases h) (fun _ => ?_)
        refine x_iconst (pc' := 94) rfl rfl ?_
        refine x_reti rfl rfl ?_
        exact k3 q4 q22 (of_decide_eq_true q26)
      · refine x_aload_n (pc' := 60) rfl rfl rfl rfl rfl ?_
        refine x_gI (pc' := 63) (x := (io n)) rfl rfl rfl (gFn hM (Fr.refl _) hR) ?_
        refine x_sipush (pc' := 66) rfl rfl ?_
        refine x_icmp_n (a' := 73) (pc' := 69) (z := decide (n < 200)) rfl rfl rfl (ic_gen (p := n) (q := 200) (gn31 hR) (by decide)) (fun q31 => ?_) (fun q31 => ?_)
        · refine x_iconst (pc' := 74) rfl rfl ?_
          refine x_istore (pc' := 76) (ls' := [_, _, _, _, _, _, _, _, _, _]) rfl rfl rfl rfl ?_
          refine x_aload_n (pc' := 77) rfl rfl rfl rfl rfl ?_
          refine x_aload_n (pc' := 78) rfl rfl rfl rfl rfl ?_
          refine x_iload_n (pc' := 79) rfl rfl rfl ?_
          refine x_iload_n (pc' := 80) rfl rfl rfl ?_
          refine x_iload (pc' := 82) rfl rfl rfl ?_
          refine x_iload (pc' := 84) rfl rfl rfl ?_
          refine x_cv (ls0 := [_, _, _, _, _, sJk]) (rest := [_]) rfl rfl rfl rfl rfl ?_
          refine x_iload_n (pc' := 1) rfl rfl rfl ?_
          refine x_cs (ls0 := [_]) (rest := []) rfl rfl rfl rfl ?_
          refine x_iload_n (pc' := 1) rfl rfl rfl ?_
          refine x_iconst (pc' := 2) rfl rfl ?_
          refine x_iconst (pc' := 3) rfl rfl ?_
          refine x_cs (ls0 := [_, _, _]) (rest := []) rfl rfl rfl rfl ?_
          refine r145_xg (ixo_c6 hp) ?_
          refine sK_i (pc' := 6) rfl ?_
          refine x_retz (z := false) rfl rfl ?_
          refine sK_i (pc' := 4) rfl ?_
          refine x_if (a' := 18) (pc' := 7) (z := true) rfl rfl rfl (by decide) (fun _ => ?_) (fun h => by cases h)
          refine x_iconst (pc' := 19) rfl rfl ?_
          refine x_istore (pc' := 21) (ls' := [_, _, _, _, _, _]) rfl rfl rfl rfl ?_
          refine x_iload (pc' := 23) rfl rfl rfl ?_
          refine x_if (a' := 30) (pc' := 26) (z := false) rfl rfl rfl (by decide) (fun h => by cases h) (fun _ => ?_)
          refine x_iconst (pc' := 27) rfl rfl ?_
          refine x_goto (pc' := 57) rfl rfl ?_
          refine x_reti rfl rfl ?_
          refine sK_i (pc' := 87) rfl ?_
          refine x_cv (ls0 := [_, _]) (rest := []) rfl rfl rfl rfl rfl ?_
          refine x_aload_n (pc' := 1) rfl rfl rfl rfl rfl ?_
          refine x_iload_n (pc' := 2) rfl rfl rfl ?_
          refine x_pI (pc' := 5) rfl rfl rfl ?_
          refine x_iload_n (pc' := 6) rfl rfl rfl ?_
          refine x_if (a' := 13) (pc' := 9) (z := true) rfl rfl rfl (by decide) (fun _ => ?_) (fun h => by cases h)
          refine x_iconst (pc' := 14) rfl rfl ?_
          refine x_retz (z := false) rfl rfl ?_
          refine sK_i (pc' := 90) rfl ?_
          refine x_if (a' := 95) (pc' := 93) (z := false) rfl rfl rfl (by decide) (fun h => by cases h) (fun _ => ?_)
          refine x_iconst (pc' := 94) rfl rfl ?_
          refine x_reti rfl rfl ?_
          exact k4 q4 q22 (of_decide_eq_false q26) (of_decide_eq_false q31)
        · refine x_iconst (pc' := 70) rfl rfl ?_
          refine x_goto (pc' := 74) rfl rfl ?_
          refine x_istore (pc' := 76) (ls' := [_, _, _, _, _, _, _, _, _, _]) rfl rfl rfl rfl ?_
          refine x_aload_n (pc' := 77) rfl rfl rfl rfl rfl ?_
          refine x_aload_n (pc' := 78) rfl rfl rfl rfl rfl ?_
          refine x_iload_n (pc' := 79) rfl rfl rfl ?_
          refine x_iload_n (pc' := 80) rfl rfl rfl ?_
          refine x_iload (pc' := 82) rfl rfl rfl ?_
          refine x_iload (pc' := 84) rfl rfl rfl ?_
          refine x_cv (ls0 := [_, _, _, _, _, sJk]) (rest := [_]) rfl rfl rfl rfl rfl ?_
          refine x_iload_n (pc' := 1) rfl rfl rfl ?_
          refine x_cs (ls0 := [_]) (rest := []) rfl rfl rfl rfl ?_
          refine x_iload_n (pc' := 1) rfl rfl rfl ?_
          refine x_iconst (pc' := 2) rfl rfl ?_
          refine x_iconst (pc' := 3) rfl rfl ?_
          refine x_cs (ls0 := [_, _, _]) (rest := []) rfl rfl rfl rfl ?_
          refine r145_xg (ixo_c6 hp) ?_
          refine sK_i (pc' := 6) rfl ?_
          refine x_retz (z := false) rfl rfl ?_
          refine sK_i (pc' := 4) rfl ?_
          refine x_if (a' := 18) (pc' := 7) (z := true) rfl rfl rfl (by decide) (fun _ => ?_) (fun h => by cases h)
          refine x_iconst (pc' := 19) rfl rfl ?_
          refine x_istore (pc' := 21) (ls' := [_, _, _, _, _, _]) rfl rfl rfl rfl ?_
          refine x_iload (pc' := 23) rfl rfl rfl ?_
          refine x_if (a' := 30) (pc' := 26) (z := false) rfl rfl rfl (by decide) (fun h => by cases h) (fun _ => ?_)
          refine x_iconst (pc' := 27) rfl rfl ?_
          refine x_goto (pc' := 57) rfl rfl ?_
          refine x_reti rfl rfl ?_
          refine sK_i (pc' := 87) rfl ?_
          refine x_cv (ls0 := [_, _]) (rest := []) rfl rfl rfl rfl rfl ?_
          refine x_aload_n (pc' := 1) rfl rfl rfl rfl rfl ?_
          refine x_iload_n (pc' := 2) rfl rfl rfl ?_
          refine x_pI (pc' := 5) rfl rfl rfl ?_
          refine x_iload_n (pc' := 6) rfl rfl rfl ?_
          refine x_if (a' := 13) (pc' := 9) (z := true) rfl rfl rfl (by decide) (fun _ => ?_) (fun h => by cases h)
          refine x_iconst (pc' := 14) rfl rfl ?_
          refine x_retz (z := false) rfl rfl ?_
          refine sK_i (pc' := 90) rfl ?_
          refine x_if (a' := 95) (pc' := 93) (z := false) rfl rfl rfl (by decide) (fun h => by cases h) (fun _ => ?_)
          refine x_iconst (pc' := 94) rfl rfl ?_
          refine x_reti rfl rfl ?_
          exact k5 q4 q22 (of_decide_eq_false q26) (of_decide_eq_true q31)
    · refine x_iload_n (pc' := 28) rfl rfl rfl ?_
      refine x_iload (pc' := 30) rfl rfl rfl ?_
      refine x_cs (ls0 := [_, _]) (rest := []) rfl rfl rfl rfl ?_
      refine r150_g hb ?_
      refine sK_i (pc' := 33) rfl ?_
      refine x_ifeq_z (a' := 40) (pc' := 36) (z := (prB b h)) rfl rfl rfl (fun q40 => ?_) (fun q40 => ?_)
      · refine x_iconst (pc' := 41) rfl rfl ?_
        refine x_istore (pc' := 43) (ls' := [_, _, _, _, _, _, _, _, _, _]) rfl rfl rfl rfl ?_
        refine x_iload_n (pc' := 44) rfl rfl rfl ?_
        refine x_cs (ls0 := [_]) (rest := []) rfl rfl rfl rfl ?_
        refine x_iload_n (pc' := 1) rfl rfl rfl ?_
        refine x_iconst (pc' := 2) rfl rfl ?_
        refine x_iconst (pc' := 3) rfl rfl ?_
        refine x_cs (ls0 := [_, _, _]) (rest := []) rfl rfl rfl rfl ?_
        refine x_iload_n (pc' := 1) rfl rfl rfl ?_
        refine x_iload_n (pc' := 2) rfl rfl rfl ?_
        refine x_icmp (a' := 14) (pc' := 5) (z := decide (b < 0)) rfl rfl rfl (ic_lt (p := b) (q := 0) (gb31 hb) (by decide)) (fun h => absurd (of_decide_eq_true h) (by first | decide | omega | simp)) (fun _ => ?_)
        refine x_iload_n (pc' := 6) rfl rfl rfl ?_
        refine x_iload_n (pc' := 7) rfl rfl rfl ?_
        refine x_icmp (a' := 14) (pc' := 10) (z := decide (4 < b)) rfl rfl rfl (ic_gt (p := b) (q := 4) (gb31 hb) (by decide)) (fun h => absurd (of_decide_eq_true h) (show ¬ 4 < b by omega)) (fun _ => ?_)
        refine x_iconst (pc' := 11) rfl rfl ?_
        refine x_goto (pc' := 15) rfl rfl ?_
        refine x_retz (z := true) rfl rfl ?_
        refine sK_i (pc' := 6) rfl ?_
        refine x_retz (z := true) rfl rfl ?_
        refine sK_i (pc' := 47) rfl ?_
        refine x_if (a' := 73) (pc' := 50) (z := false) rfl rfl rfl (by decide) (fun h => by cases h) (fun _ => ?_)
        refine x_aload_n (pc' := 51) rfl rfl rfl rfl rfl ?_
        refine x_gR (pc' := 54) (r := (some 0)) rfl rfl rfl (kR_769_0 hc) ?_
        refine x_iload_n (pc' := 55) rfl rfl rfl ?_
        refine x_iald (pc' := 56) (N := 5) (x := (mA M 0 b)) rfl rfl rfl (kN_21_0 hc) (io_in (p := b) (N := 5) hb (by decide)) (Eq.trans (congrArg (sA t 21 0) (nn_io (p := b) (Nat.lt_trans hb (by decide)))) (gA hM rfl)) ?_
        refine x_if (a' := 73) (pc' := 59) (z := decide ((mA M 0 b) = 0)) rfl rfl rfl rfl (fun q44 => ?_) (fun q44 => ?_)
        · refine x_iconst (pc' := 74) rfl rfl ?_
          refine x_istore (pc' := 76) (ls' := [_, _, _, _, _, _, _, _, _, _]) rfl rfl rfl rfl ?_
          refine x_aload_n (pc' := 77) rfl rfl rfl rfl rfl ?_
          refine x_aload_n (pc' := 78) rfl rfl rfl rfl rfl ?_
          refine x_iload_n (pc' := 79) rfl rfl rfl ?_
          refine x_iload_n (pc' := 80) rfl rfl rfl ?_
          refine x_iload (pc' := 82) rfl rfl rfl ?_
          refine x_iload (pc' := 84) rfl rfl rfl ?_
          refine x_cv (ls0 := [_, _, _, _, _, sJk]) (rest := [_]) rfl rfl rfl rfl rfl ?_
          refine x_iload_n (pc' := 1) rfl rfl rfl ?_
          refine x_cs (ls0 := [_]) (rest := []) rfl rfl rfl rfl ?_
          refine x_iload_n (pc' := 1) rfl rfl rfl ?_
          refine x_iconst (pc' := 2) rfl rfl ?_
          refine x_iconst (pc' := 3) rfl rfl ?_
          refine x_cs (ls0 := [_, _, _]) (rest := []) rfl rfl rfl rfl ?_
          refine r145_xg (ixo_c6 hp) ?_
          refine sK_i (pc' := 6) rfl ?_
          refine x_retz (z := false) rfl rfl ?_
          refine sK_i (pc' := 4) rfl ?_
          refine x_if (a' := 18) (pc' := 7) (z := true) rfl rfl rfl (by decide) (fun _ => ?_) (fun h => by cases h)
          refine x_iconst (pc' := 19) rfl rfl ?_
          refine x_istore (pc' := 21) (ls' := [_, _, _, _, _, _]) rfl rfl rfl rfl ?_
          refine x_iload (pc' := 23) rfl rfl rfl ?_
          refine x_if (a' := 30) (pc' := 26) (z := false) rfl rfl rfl (by decide) (fun h => by cases h) (fun _ => ?_)
          refine x_iconst (pc' := 27) rfl rfl ?_
          refine x_goto (pc' := 57) rfl rfl ?_
          refine x_reti rfl rfl ?_
          refine sK_i (pc' := 87) rfl ?_
          refine x_cv (ls0 := [_, _]) (rest := []) rfl rfl rfl rfl rfl ?_
          refine x_aload_n (pc' := 1) rfl rfl rfl rfl rfl ?_
          refine x_iload_n (pc' := 2) rfl rfl rfl ?_
          refine x_pI (pc' := 5) rfl rfl rfl ?_
          refine x_iload_n (pc' := 6) rfl rfl rfl ?_
          refine x_if (a' := 13) (pc' := 9) (z := true) rfl rfl rfl (by decide) (fun _ => ?_) (fun h => by cases h)
          refine x_iconst (pc' := 14) rfl rfl ?_
          refine x_retz (z := false) rfl rfl ?_
          refine sK_i (pc' := 90) rfl ?_
          refine x_if (a' := 95) (pc' := 93) (z := false) rfl rfl rfl (by decide) (fun h => by cases h) (fun _ => ?_)
          refine x_iconst (pc' := 94) rfl rfl ?_
          refine x_reti rfl rfl ?_
          exact k6 q4 q22 q40 (of_decide_eq_true q44)
        · refine x_aload_n (pc' := 60) rfl rfl rfl rfl rfl ?_
          refine x_gI (pc' := 63) (x := (io n)) rfl rfl rfl (gFn hM (Fr.refl _) hR) ?_
          refine x_sipush (pc' := 66) rfl rfl ?_
          refine x_icmp_n (a' := 73) (pc' := 69) (z := decide (n < 200)) rfl rfl rfl (ic_gen (p := n) (q := 200) (gn31 hR) (by decide)) (fun q49 => ?_) (fun q49 => ?_)
          · refine x_iconst (pc' := 74) rfl rfl ?_
            refine x_istore (pc' := 76) (ls' := [_, _, _, _, _, _, _, _, _, _]) rfl rfl rfl rfl ?_
            refine x_aload_n (pc' := 77) rfl rfl rfl rfl rfl ?_
            refine x_aload_n (pc' := 78) rfl rfl rfl rfl rfl ?_
            refine x_iload_n (pc' := 79) rfl rfl rfl ?_
            refine x_iload_n (pc' := 80) rfl rfl rfl ?_
            refine x_iload (pc' := 82) rfl rfl rfl ?_
            refine x_iload (pc' := 84) rfl rfl rfl ?_
            refine x_cv (ls0 := [_, _, _, _, _, sJk]) (rest := [_]) rfl rfl rfl rfl rfl ?_
            refine x_iload_n (pc' := 1) rfl rfl rfl ?_
            refine x_cs (ls0 := [_]) (rest := []) rfl rfl rfl rfl ?_
            refine x_iload_n (pc' := 1) rfl rfl rfl ?_
            refine x_iconst (pc' := 2) rfl rfl ?_
            refine x_iconst (pc' := 3) rfl rfl ?_
            refine x_cs (ls0 := [_, _, _]) (rest := []) rfl rfl rfl rfl ?_
            refine r145_xg (ixo_c6 hp) ?_
            refine sK_i (pc' := 6) rfl ?_
            refine x_retz (z := false) rfl rfl ?_
            refine sK_i (pc' := 4) rfl ?_
            refine x_if (a' := 18) (pc' := 7) (z := true) rfl rfl rfl (by decide) (fun _ => ?_) (fun h => by cases h)
            refine x_iconst (pc' := 19) rfl rfl ?_
            refine x_istore (pc' := 21) (ls' := [_, _, _, _, _, _]) rfl rfl rfl rfl ?_
            refine x_iload (pc' := 23) rfl rfl rfl ?_
            refine x_if (a' := 30) (pc' := 26) (z := false) rfl rfl rfl (by decide) (fun h => by cases h) (fun _ => ?_)
            refine x_iconst (pc' := 27) rfl rfl ?_
            refine x_goto (pc' := 57) rfl rfl ?_
            refine x_reti rfl rfl ?_
            refine sK_i (pc' := 87) rfl ?_
            refine x_cv (ls0 := [_, _]) (rest := []) rfl rfl rfl rfl rfl ?_
            refine x_aload_n (pc' := 1) rfl rfl rfl rfl rfl ?_
            refine x_iload_n (pc' := 2) rfl rfl rfl ?_
            refine x_pI (pc' := 5) rfl rfl rfl ?_
            refine x_iload_n (pc' := 6) rfl rfl rfl ?_
            refine x_if (a' := 13) (pc' := 9) (z := true) rfl rfl rfl (by decide) (fun _ => ?_) (fun h => by cases h)
            refine x_iconst (pc' := 14) rfl rfl ?_
            refine x_retz (z := false) rfl rfl ?_
            refine sK_i (pc' := 90) rfl ?_
            refine x_if (a' := 95) (pc' := 93) (z := false) rfl rfl rfl (by decide) (fun h => by cases h) (fun _ => ?_)
            refine x_iconst (pc' := 94) rfl rfl ?_
            refine x_reti rfl rfl ?_
            exact k7 q4 q22 q40 (of_decide_eq_false q44) (of_decide_eq_false q49)
          · refine x_iconst (pc' := 70) rfl rfl ?_
            refine x_goto (pc' := 74) rfl rfl ?_
            refine x_istore (pc' := 76) (ls' := [_, _, _, _, _, _, _, _, _, _]) rfl rfl rfl rfl ?_
            refine x_aload_n (pc' := 77) rfl rfl rfl rfl rfl ?_
            refine x_aload_n (pc' := 78) rfl rfl rfl rfl rfl ?_
            refine x_iload_n (pc' := 79) rfl rfl rfl ?_
            refine x_iload_n (pc' := 80) rfl rfl rfl ?_
            refine x_iload (pc' := 82) rfl rfl rfl ?_
            refine x_iload (pc' := 84) rfl rfl rfl ?_
            refine x_cv (ls0 := [_, _, _, _, _, sJk]) (rest := [_]) rfl rfl rfl rfl rfl ?_
            refine x_iload_n (pc' := 1) rfl rfl rfl ?_
            refine x_cs (ls0 := [_]) (rest := []) rfl rfl rfl rfl ?_
            refine x_iload_n (pc' := 1) rfl rfl rfl ?_
            refine x_iconst (pc' := 2) rfl rfl ?_
            refine x_iconst (pc' := 3) rfl rfl ?_
            refine x_cs (ls0 := [_, _, _]) (rest := []) rfl rfl rfl rfl ?_
            refine r145_xg (ixo_c6 hp) ?_
            refine sK_i (pc' := 6) rfl ?_
            refine x_retz (z := false) rfl rfl ?_
            refine sK_i (pc' := 4) rfl ?_
            refine x_if (a' := 18) (pc' := 7) (z := true) rfl rfl rfl (by decide) (fun _ => ?_) (fun h => by cases h)
            refine x_iconst (pc' := 19) rfl rfl ?_
            refine x_istore (pc' := 21) (ls' := [_, _, _, _, _, _]) rfl rfl rfl rfl ?_
            refine x_iload (pc' := 23) rfl rfl rfl ?_
            refine x_if (a' := 30) (pc' := 26) (z := false) rfl rfl rfl (by decide) (fun h => by cases h) (fun _ => ?_)
            refine x_iconst (pc' := 27) rfl rfl ?_
            refine x_goto (pc' := 57) rfl rfl ?_
            refine x_reti rfl rfl ?_
            refine sK_i (pc' := 87) rfl ?_
            refine x_cv (ls0 := [_, _]) (rest := []) rfl rfl rfl rfl rfl ?_
            refine x_aload_n (pc' := 1) rfl rfl rfl rfl rfl ?_
            refine x_iload_n (pc' := 2) rfl rfl rfl ?_
            refine x_pI (pc' := 5) rfl rfl rfl ?_
            refine x_iload_n (pc' := 6) rfl rfl rfl ?_
            refine x_if (a' := 13) (pc' := 9) (z := true) rfl rfl rfl (by decide) (fun _ => ?_) (fun h => by cases h)
            refine x_iconst (pc' := 14) rfl rfl ?_
            refine x_retz (z := false) rfl rfl ?_
            refine sK_i (pc' := 90) rfl ?_
            refine x_if (a' := 95) (pc' := 93) (z := false) rfl rfl rfl (by decide) (fun h => by cases h) (fun _ => ?_)
            refine x_iconst (pc' := 94) rfl rfl ?_
            refine x_reti rfl rfl ?_
            exact k8 q4 q22 q40 (of_decide_eq_false q44) (of_decide_eq_true q49)
      · refine x_iconst (pc' := 37) rfl rfl ?_
        refine x_goto (pc' := 41) rfl rfl ?_
        refine x_istore (pc' := 43) (ls' := [_, _, _, _, _, _, _, _, _, _]) rfl rfl rfl rfl ?_
        refine x_iload_n (pc' := 44) rfl rfl rfl ?_
        refine x_cs (ls0 := [_]) (rest := []) rfl rfl rfl rfl ?_
        refine x_iload_n (pc' := 1) rfl rfl rfl ?_
        refine x_iconst (pc' := 2) rfl rfl ?_
        refine x_iconst (pc' := 3) rfl rfl ?_
        refine x_cs (ls0 := [_, _, _]) (rest := []) rfl rfl rfl rfl ?_
        refine x_iload_n (pc' := 1) rfl rfl rfl ?_
        refine x_iload_n (pc' := 2) rfl rfl rfl ?_
        refine x_icmp (a' := 14) (pc' := 5) (z := decide (b < 0)) rfl rfl rfl (ic_lt (p := b) (q := 0) (gb31 hb) (by decide)) (fun h => absurd (of_decide_eq_true h) (by first | decide | omega | simp)) (fun _ => ?_)
        refine x_iload_n (pc' := 6) rfl rfl rfl ?_
        refine x_iload_n (pc' := 7) rfl rfl rfl ?_
        refine x_icmp (a' := 14) (pc' := 10) (z := decide (4 < b)) rfl rfl rfl (ic_gt (p := b) (q := 4) (gb31 hb) (by decide)) (fun h => absurd (of_decide_eq_true h) (show ¬ 4 < b by omega)) (fun _ => ?_)
        refine x_iconst (pc' := 11) rfl rfl ?_
        refine x_goto (pc' := 15) rfl rfl ?_
        refine x_retz (z := true) rfl rfl ?_
        refine sK_i (pc' := 6) rfl ?_
        refine x_retz (z := true) rfl rfl ?_
        refine sK_i (pc' := 47) rfl ?_
        refine x_if (a' := 73) (pc' := 50) (z := false) rfl rfl rfl (by decide) (fun h => by cases h) (fun _ => ?_)
        refine x_aload_n (pc' := 51) rfl rfl rfl rfl rfl ?_
        refine x_gR (pc' := 54) (r := (some 0)) rfl rfl rfl (kR_769_0 hc) ?_
        refine x_iload_n (pc' := 55) rfl rfl rfl ?_
        refine x_iald (pc' := 56) (N := 5) (x := (mA M 0 b)) rfl rfl rfl (kN_21_0 hc) (io_in (p := b) (N := 5) hb (by decide)) (Eq.trans (congrArg (sA t 21 0) (nn_io (p := b) (Nat.lt_trans hb (by decide)))) (gA hM rfl)) ?_
        refine x_if (a' := 73) (pc' := 59) (z := decide ((mA M 0 b) = 0)) rfl rfl rfl rfl (fun q61 => ?_) (fun q61 => ?_)
        · refine x_iconst (pc' := 74) rfl rfl ?_
          refine x_istore (pc' := 76) (ls' := [_, _, _, _, _, _, _, _, _, _]) rfl rfl rfl rfl ?_
          refine x_aload_n (pc' := 77) rfl rfl rfl rfl rfl ?_
          refine x_aload_n (pc' := 78) rfl rfl rfl rfl rfl ?_
          refine x_iload_n (pc' := 79) rfl rfl rfl ?_
          refine x_iload_n (pc' := 80) rfl rfl rfl ?_
          refine x_iload (pc' := 82) rfl rfl rfl ?_
          refine x_iload (pc' := 84) rfl rfl rfl ?_
          refine x_cv (ls0 := [_, _, _, _, _, sJk]) (rest := [_]) rfl rfl rfl rfl rfl ?_
          refine x_iload_n (pc' := 1) rfl rfl rfl ?_
          refine x_cs (ls0 := [_]) (rest := []) rfl rfl rfl rfl ?_
          refine x_iload_n (pc' := 1) rfl rfl rfl ?_
          refine x_iconst (pc' := 2) rfl rfl ?_
          refine x_iconst (pc' := 3) rfl rfl ?_
          refine x_cs (ls0 := [_, _, _]) (rest := []) rfl rfl rfl rfl ?_
          refine r145_xg (ixo_c6 hp) ?_
          refine sK_i (pc' := 6) rfl ?_
          refine x_retz (z := false) rfl rfl ?_
          refine sK_i (pc' := 4) rfl ?_
          refine x_if (a' := 18) (pc' := 7) (z := true) rfl rfl rfl (by decide) (fun _ => ?_) (fun h => by cases h)
          refine x_iconst (pc' := 19) rfl rfl ?_
          refine x_istore (pc' := 21) (ls' := [_, _, _, _, _, _]) rfl rfl rfl rfl ?_
          refine x_iload (pc' := 23) rfl rfl rfl ?_
          refine x_if (a' := 30) (pc' := 26) (z := false) rfl rfl rfl (by decide) (fun h => by cases h) (fun _ => ?_)
          refine x_iconst (pc' := 27) rfl rfl ?_
          refine x_goto (pc' := 57) rfl rfl ?_
          refine x_reti rfl rfl ?_
          refine sK_i (pc' := 87) rfl ?_
          refine x_cv (ls0 := [_, _]) (rest := []) rfl rfl rfl rfl rfl ?_
          refine x_aload_n (pc' := 1) rfl rfl rfl rfl rfl ?_
          refine x_iload_n (pc' := 2) rfl rfl rfl ?_
          refine x_pI (pc' := 5) rfl rfl rfl ?_
          refine x_iload_n (pc' := 6) rfl rfl rfl ?_
          refine x_if (a' := 13) (pc' := 9) (z := true) rfl rfl rfl (by decide) (fun _ => ?_) (fun h => by cases h)
          refine x_iconst (pc' := 14) rfl rfl ?_
          refine x_retz (z := false) rfl rfl ?_
          refine sK_i (pc' := 90) rfl ?_
          refine x_if (a' := 95) (pc' := 93) (z := false) rfl rfl rfl (by decide) (fun h => by cases h) (fun _ => ?_)
          refine x_iconst (pc' := 94) rfl rfl ?_
          refine x_reti rfl rfl ?_
          exact k9 q4 q22 q40 (of_decide_eq_true q61)
        · refine x_aload_n (pc' := 60) rfl rfl rfl rfl rfl ?_
          refine x_gI (pc' := 63) (x := (io n)) rfl rfl rfl (gFn hM (Fr.refl _) hR) ?_
          refine x_sipush (pc' := 66) rfl rfl ?_
          refine x_icmp_n (a' := 73) (pc' := 69) (z := decide (n < 200)) rfl rfl rfl (ic_gen (p := n) (q := 200) (gn31 hR) (by decide)) (fun q66 => ?_) (fun q66 => ?_)
          · refine x_iconst (pc' := 74) rfl rfl ?_
            refine x_istore (pc' := 76) (ls' := [_, _, _, _, _, _, _, _, _, _]) rfl rfl rfl rfl ?_
            refine x_aload_n (pc' := 77) rfl rfl rfl rfl rfl ?_
            refine x_aload_n (pc' := 78) rfl rfl rfl rfl rfl ?_
            refine x_iload_n (pc' := 79) rfl rfl rfl ?_
            refine x_iload_n (pc' := 80) rfl rfl rfl ?_
            refine x_iload (pc' := 82) rfl rfl rfl ?_
            refine x_iload (pc' := 84) rfl rfl rfl ?_
            refine x_cv (ls0 := [_, _, _, _, _, sJk]) (rest := [_]) rfl rfl rfl rfl rfl ?_
            refine x_iload_n (pc' := 1) rfl rfl rfl ?_
            refine x_cs (ls0 := [_]) (rest := []) rfl rfl rfl rfl ?_
            refine x_iload_n (pc' := 1) rfl rfl rfl ?_
            refine x_iconst (pc' := 2) rfl rfl ?_
            refine x_iconst (pc' := 3) rfl rfl ?_
            refine x_cs (ls0 := [_, _, _]) (rest := []) rfl rfl rfl rfl ?_
            refine r145_xg (ixo_c6 hp) ?_
            refine sK_i (pc' := 6) rfl ?_
            refine x_retz (z := false) rfl rfl ?_
            refine sK_i (pc' := 4) rfl ?_
            refine x_if (a' := 18) (pc' := 7) (z := true) rfl rfl rfl (by decide) (fun _ => ?_) (fun h => by cases h)
            refine x_iconst (pc' := 19) rfl rfl ?_
            refine x_istore (pc' := 21) (ls' := [_, _, _, _, _, _]) rfl rfl rfl rfl ?_
            refine x_iload (pc' := 23) rfl rfl rfl ?_
            refine x_if (a' := 30) (pc' := 26) (z := false) rfl rfl rfl (by decide) (fun h => by cases h) (fun _ => ?_)
            refine x_iconst (pc' := 27) rfl rfl ?_
            refine x_goto (pc' := 57) rfl rfl ?_
            refine x_reti rfl rfl ?_
            refine sK_i (pc' := 87) rfl ?_
            refine x_cv (ls0 := [_, _]) (rest := []) rfl rfl rfl rfl rfl ?_
            refine x_aload_n (pc' := 1) rfl rfl rfl rfl rfl ?_
            refine x_iload_n (pc' := 2) rfl rfl rfl ?_
            refine x_pI (pc' := 5) rfl rfl rfl ?_
            refine x_iload_n (pc' := 6) rfl rfl rfl ?_
            refine x_if (a' := 13) (pc' := 9) (z := true) rfl rfl rfl (by decide) (fun _ => ?_) (fun h => by cases h)
            refine x_iconst (pc' := 14) rfl rfl ?_
            refine x_retz (z := false) rfl rfl ?_
            refine sK_i (pc' := 90) rfl ?_
            refine x_if (a' := 95) (pc' := 93) (z := false) rfl rfl rfl (by decide) (fun h => by cases h) (fun _ => ?_)
            refine x_iconst (pc' := 94) rfl rfl ?_
            refine x_reti rfl rfl ?_
            exact k10 q4 q22 q40 (of_decide_eq_false q61) (of_decide_eq_false q66)
          · refine x_iconst (pc' := 70) rfl rfl ?_
            refine x_goto (pc' := 74) rfl rfl ?_
            refine x_istore (pc' := 76) (ls' := [_, _, _, _, _, _, _, _, _, _]) rfl rfl rfl rfl ?_
            refine x_aload_n (pc' := 77) rfl rfl rfl rfl rfl ?_
            refine x_aload_n (pc' := 78) rfl rfl rfl rfl rfl ?_
            refine x_iload_n (pc' := 79) rfl rfl rfl ?_
            refine x_iload_n (pc' := 80) rfl rfl rfl ?_
            refine x_iload (pc' := 82) rfl rfl rfl ?_
            refine x_iload (pc' := 84) rfl rfl rfl ?_
            refine x_cv (ls0 := [_, _, _, _, _, sJk]) (rest := [_]) rfl rfl rfl rfl rfl ?_
            refine x_iload_n (pc' := 1) rfl rfl rfl ?_
            refine x_cs (ls0 := [_]) (rest := []) rfl rfl rfl rfl ?_
            refine x_iload_n (pc' := 1) rfl rfl rfl ?_
            refine x_iconst (pc' := 2) rfl rfl ?_
            refine x_iconst (pc' := 3) rfl rfl ?_
            refine x_cs (ls0 := [_, _, _]) (rest := []) rfl rfl rfl rfl ?_
            refine r145_xg (ixo_c6 hp) ?_
            refine sK_i (pc' := 6) rfl ?_
            refine x_retz (z := false) rfl rfl ?_
            refine sK_i (pc' := 4) rfl ?_
            refine x_if (a' := 18) (pc' := 7) (z := true) rfl rfl rfl (by decide) (fun _ => ?_) (fun h => by cases h)
            refine x_iconst (pc' := 19) rfl rfl ?_
            refine x_istore (pc' := 21) (ls' := [_, _, _, _, _, _]) rfl rfl rfl rfl ?_
            refine x_iload (pc' := 23) rfl rfl rfl ?_
            refine x_if (a' := 30) (pc' := 26) (z := false) rfl rfl rfl (by decide) (fun h => by cases h) (fun _ => ?_)
            refine x_iconst (pc' := 27) rfl rfl ?_
            refine x_goto (pc' := 57) rfl rfl ?_
            refine x_reti rfl rfl ?_
            refine sK_i (pc' := 87) rfl ?_
            refine x_cv (ls0 := [_, _]) (rest := []) rfl rfl rfl rfl rfl ?_
            refine x_aload_n (pc' := 1) rfl rfl rfl rfl rfl ?_
            refine x_iload_n (pc' := 2) rfl rfl rfl ?_
            refine x_pI (pc' := 5) rfl rfl rfl ?_
            refine x_iload_n (pc' := 6) rfl rfl rfl ?_
            refine x_if (a' := 13) (pc' := 9) (z := true) rfl rfl rfl (by decide) (fun _ => ?_) (fun h => by cases h)
            refine x_iconst (pc' := 14) rfl rfl ?_
            refine x_retz (z := false) rfl rfl ?_
            refine sK_i (pc' := 90) rfl ?_
            refine x_if (a' := 95) (pc' := 93) (z := false) rfl rfl rfl (by decide) (fun h => by cases h) (fun _ => ?_)
            refine x_iconst (pc' := 94) rfl rfl ?_
            refine x_reti rfl rfl ?_
            exact k11 q4 q22 q40 (of_decide_eq_false q61) (of_decide_eq_true q66)
set_option maxHeartbeats 4000000 in
set_option maxRecDepth 10000 in
theorem r206_x01 {t : sT} {Q : sRs → sT → Prop} {M : sM} {n : Nat} {x : Int32} {x1 : Int32} {s : Bool} {p : Int32} {a : Int32} {h : Int32}
    (hV : Vr t M n)
    (hp : ixo x 6 = none)
    (hp1 : ixo x1 5 = none)
    (k0 : Q (.inl (some (.inl 0))) (sIw t 768 0 1)) :
    X 206 0 [.inr (.inr (12, (some 0))), .inl x, .inl x1, .inl (bz s), .inl p, .inl a, .inl h, sJk, sJk, sJk] [] t Q := by
  obtain ⟨hM, hc, hR⟩ := hV
  refine x_iload_n (pc' := 1) rfl rfl rfl ?_
  refine x_cs (ls0 := [_]) (rest := []) rfl rfl rfl rfl ?_
  refine x_iload_n (pc' := 1) rfl rfl rfl ?_
  refine x_iconst (pc' := 2) rfl rfl ?_
  refine x_iconst (pc' := 3) rfl rfl ?_
  refine x_cs (ls0 := [_, _, _]) (rest := []) rfl rfl rfl rfl ?_
  refine r145_xg (ixo_c5 hp1) ?_
  refine sK_i (pc' := 6) rfl ?_
  refine x_retz (z := false) rfl rfl ?_
  refine sK_i (pc' := 4) rfl ?_
  refine x_if (a' := 40) (pc' := 7) (z := true) rfl rfl rfl (by decide) (fun _ => ?_) (fun h => by cases h)
  refine x_iconst (pc' := 41) rfl rfl ?_
  refine x_istore (pc' := 43) (ls' := [_, _, _, _, _, _, _, _, _, _]) rfl rfl rfl rfl ?_
  refine x_iload_n (pc' := 44) rfl rfl rfl ?_
  refine x_cs (ls0 := [_]) (rest := []) rfl rfl rfl rfl ?_
  refine x_iload_n (pc' := 1) rfl rfl rfl ?_
  refine x_iconst (pc' := 2) rfl rfl ?_
  refine x_iconst (pc' := 3) rfl rfl ?_
  refine x_cs (ls0 := [_, _, _]) (rest := []) rfl rfl rfl rfl ?_
  refine r145_xg (ixo_c5 hp1) ?_
  refine sK_i (pc' := 6) rfl ?_
  refine x_retz (z := false) rfl rfl ?_
  refine sK_i (pc' := 47) rfl ?_
  refine x_if (a' := 73) (pc' := 50) (z := true) rfl rfl rfl (by decide) (fun _ => ?_) (fun h => by cases h)
  refine x_iconst (pc' := 74) rfl rfl ?_
  refine x_istore (pc' := 76) (ls' := [_, _, _, _, _, _, _, _, _, _]) rfl rfl rfl rfl ?_
  refine x_aload_n (pc' := 77) rfl rfl rfl rfl rfl ?_
  refine x_aload_n (pc' := 78) rfl rfl rfl rfl rfl ?_
  refine x_iload_n (pc' := 79) rfl rfl rfl ?_
  refine x_iload_n (pc' := 80) rfl rfl rfl ?_
  refine x_iload (pc' := 82) rfl rfl rfl ?_
  refine x_iload (pc' := 84) rfl rfl rfl ?_
  refine x_cv (ls0 := [_, _, _, _, _, sJk]) (rest := [_]) rfl rfl rfl rfl rfl ?_
  refine x_iload_n (pc' := 1) rfl rfl rfl ?_
  refine x_cs (ls0 := [_]) (rest := []) rfl rfl rfl rfl ?_
  refine x_iload_n (pc' := 1) rfl rfl rfl ?_
  refine x_iconst (pc' := 2) rfl rfl ?_
  refine x_iconst (pc' := 3) rfl rfl ?_
  refine x_cs (ls0 := [_, _, _]) (rest := []) rfl rfl rfl rfl ?_
  refine r145_xg (ixo_c6 hp) ?_
  refine sK_i (pc' := 6) rfl ?_
  refine x_retz (z := false) rfl rfl ?_
  refine sK_i (pc' := 4) rfl ?_
  refine x_if (a' := 18) (pc' := 7) (z := true) rfl rfl rfl (by decide) (fun _ => ?_) (fun h => by cases h)
  refine x_iconst (pc' := 19) rfl rfl ?_
  refine x_istore (pc' := 21) (ls' := [_, _, _, _, _, _]) rfl rfl rfl rfl ?_
  refine x_iload (pc' := 23) rfl rfl rfl ?_
  refine x_if (a' := 30) (pc' := 26) (z := false) rfl rfl rfl (by decide) (fun h => by cases h) (fun _ => ?_)
  refine x_iconst (pc' := 27) rfl rfl ?_
  refine x_goto (pc' := 57) rfl rfl ?_
  refine x_reti rfl rfl ?_
  refine sK_i (pc' := 87) rfl ?_
  refine x_cv (ls0 := [_, _]) (rest := []) rfl rfl rfl rfl rfl ?_
  refine x_aload_n (pc' := 1) rfl rfl rfl rfl rfl ?_
  refine x_iload_n (pc' := 2) rfl rfl rfl ?_
  refine x_pI (pc' := 5) rfl rfl rfl ?_
  refine x_iload_n (pc' := 6) rfl rfl rfl ?_
  refine x_if (a' := 13) (pc' := 9) (z := true) rfl rfl rfl (by decide) (fun _ => ?_) (fun h => by cases h)
  refine x_iconst (pc' := 14) rfl rfl ?_
  refine x_retz (z := false) rfl rfl ?_
  refine sK_i (pc' := 90) rfl ?_
  refine x_if (a' := 95) (pc' := 93) (z := false) rfl rfl rfl (by decide) (fun h => by cases h) (fun _ => ?_)
  refine x_iconst (pc' := 94) rfl rfl ?_
  refine x_reti rfl rfl ?_
  exact k0
set_option maxHeartbeats 4000000 in
set_option maxRecDepth 10000 in
theorem r208 {t : sT} {Q : sRs → sT → Prop} {M : sM} {n : Nat} {m : Nat} {b : Nat} {p : Int32} {u : Int32} {a : Int32}
    (hV : Vr t M n)
    (hm : m < 6)
    (hb : b < 5)
    (g0 : ((5 * m) + b) < 30)
    (hi0 : sIn (mA M 10 ((5 * m) + b)) 200 = true)
    (hi1 : sIn ((mA M 10 ((5 * m) + b)) + 1) 200 = true)
    (k0 : (prB b p) = false → (mA M 0 b) = 0 → Q (.inl (some (.inl 0))) (sIw t 768 0 2))
    (k1 : (prB b p) = false → ¬ ((mA M 0 b) = 0) → 198 < n → Q (.inl (some (.inl 0))) (sIw t 768 0 2))
    (k2 : (prB b p) = false → ¬ ((mA M 0 b) = 0) → ¬ (198 < n) → Q (.inl (some (.inl 0))) (sIw t 768 0 2))
    (k3 : (prB b p) = true → (prB b u) = false → (mA M 0 b) = 0 → Q (.inl (some (.inl 0))) (sIw t 768 0 2))
    (k4 : (prB b p) = true → (prB b u) = false → ¬ ((mA M 0 b) = 0) → 198 < n → Q (.inl (some (.inl 0))) (sIw t 768 0 2))
    (k5 : (prB b p) = true → (prB b u) = false → ¬ ((mA M 0 b) = 0) → ¬ (198 < n) → Q (.inl (some (.inl 0))) (sIw t 768 0 2))
    (k6 : (prB b p) = true → (prB b u) = true → ¬ (p < u) → (mA M 0 b) = 0 → Q (.inl (some (.inl 0))) (sIw t 768 0 2))
    (k7 : (prB b p) = true → (prB b u) = true → ¬ (p < u) → ¬ ((mA M 0 b) = 0) → 198 < n → Q (.inl (some (.inl 0))) (sIw t 768 0 2))
    (k8 : (prB b p) = true → (prB b u) = true → ¬ (p < u) → ¬ ((mA M 0 b) = 0) → ¬ (198 < n) → Q (.inl (some (.inl 0))) (sIw t 768 0 2))
    (k9 : (prB b p) = true → (prB b u) = true → p < u → (inB a 1 100) = false → (mA M 0 b) = 0 → Q (.inl (some (.inl 0))) (sIw t 768 0 2))
    (k10 : (prB b p) = true → (prB b u) = true → p < u → (inB a 1 100) = false → ¬ ((mA M 0 b) = 0) → 198 < n → Q (.inl (some (.inl 0))) (sIw t 768 0 2))
    (k11 : (prB b p) = true → (prB b u) = true → p < u → (inB a 1 100) = false → ¬ ((mA M 0 b) = 0) → ¬ (198 < n) → Q (.inl (some (.inl 0))) (sIw t 768 0 2))
    (k12 : (prB b p) = true → (prB b u) = true → p < u → (inB a 1 100) = true → (mA M 0 b) = 0 → (mB M 2 m) = true → Q (.inl (some (.inl 0))) (sIw t 768 0 3))
    (k13 : (prB b p) = true → (prB b u) = true → p < u → (inB a 1 100) = true → (mA M 0 b) = 0 → (mB M 2 m) = false → Q (.inl (some (.inl 0))) (sIw t 768 0 3))
    (k14 : (prB b p) = true → (prB b u) = true → p < u → (inB a 1 100) = true → ¬ ((mA M 0 b) = 0) → 198 < n → (mB M 2 m) = true → Q (.inl (some (.inl 0))) (sIw t 768 0 3))
    (k15 : (prB b p) = true → (prB b u) = true → p < u → (inB a 1 100) = true → ¬ ((mA M 0 b) = 0) → 198 < n → (mB M 2 m) = false → Q (.inl (some (.inl 0))) (sIw t 768 0 3))
    (k16 : (prB b p) = true → (prB b u) = true → p < u → (inB a 1 100) = true → ¬ ((mA M 0 b) = 0) → ¬ (198 < n) → (mB M 2 m) = true → Q (.inl (some (.inl 0))) (sIw t 768 0 3))
    (k17 : (prB b p) = true → (prB b u) = true → p < u → (inB a 1 100) = true → ¬ ((mA M 0 b) = 0) → ¬ (198 < n) → (mB M 2 m) = false → ¬ ((mA M 10 ((5 * m) + b)) = (-1)) → X 200 0 [.inr (.inr (12, (some 0))), .inl (io m), .inl (io b), .inl 1, .inl p, .inl a, .inl a] [] (sAw (sAw (sIw t 768 0 0) 21 19 ((mA M 10 ((5 * m) + b)).toNatClampNeg) 3) 21 19 (((mA M 10 ((5 * m) + b)) + 1).toNatClampNeg) 3) (sK 200 208 185 [.inr (.inr (12, (some 0))), .inl (io m), .inl (io b), .inl p, .inl u, .inl a, .inl 1, .inl 1, .inl (mA M 10 ((5 * m) + b)), .inl (mA M 19 ((mA M 10 ((5 * m) + b)).toNatClampNeg)), .inl (mA M 19 (((mA M 10 ((5 * m) + b)) + 1).toNatClampNeg)), sJk, sJk, sJk, sJk] [] Q))
    (k18 : (prB b p) = true → (prB b u) = true → p < u → (inB a 1 100) = true → ¬ ((mA M 0 b) = 0) → ¬ (198 < n) → (mB M 2 m) = false → (mA M 10 ((5 * m) + b)) = (-1) → X 200 0 [.inr (.inr (12, (some 0))), .inl (io m), .inl (io b), .inl 1, .inl p, .inl a, .inl a] [] (sIw t 768 0 0) (sK 200 208 185 [.inr (.inr (12, (some 0))), .inl (io m), .inl (io b), .inl p, .inl u, .inl a, .inl 1, .inl 1, .inl (mA M 10 ((5 * m) + b)), .inl 3, .inl 3, sJk, sJk, sJk, sJk] [] Q)) :
    X 208 0 [.inr (.inr (12, (some 0))), .inl (io m), .inl (io b), .inl p, .inl u, .inl a, sJk, sJk, sJk, sJk, sJk, sJk, sJk, sJk, sJk] [] t Q := by
  obtain ⟨hM, hc, hR⟩ := hV
  refine x_iload_n (pc' := 1) rfl rfl rfl ?_
  refine x_cs (ls0 := [_]) (rest := []) rfl rfl rfl rfl ?_
  refine x_iload_n (pc' := 1) rfl rfl rfl ?_
  refine x_iconst (pc' := 2) rfl rfl ?_
  refine x_iconst (pc' := 3) rfl rfl ?_
  refine x_cs (ls0 := [_, _, _]) (rest := []) rfl rfl rfl rfl ?_
  refine x_iload_n (pc' := 1) rfl rfl rfl ?_
  refine x_iload_n (pc' := 2) rfl rfl rfl ?_
  refine x_icmp (a' := 14) (pc' := 5) (z := decide (b < 0)) rfl rfl rfl (ic_lt (p := b) (q := 0) (gb31 hb) (by decide)) (fun h => absurd (of_decide_eq_true h) (by first | decide | omega | simp)) (fun _ => ?_)
  refine x_iload_n (pc' := 6) rfl rfl rfl ?_
  refine x_iload_n (pc' := 7) rfl rfl rfl ?_
  refine x_icmp (a' := 14) (pc' := 10) (z := decide (4 < b)) rfl rfl rfl (ic_gt (p := b) (q := 4) (gb31 hb) (by decide)) (fun h => absurd (of_decide_eq_true h) (show ¬ 4 < b by omega)) (fun _ => ?_)
  refine x_iconst (pc' := 11) rfl rfl ?_
  refine x_goto (pc' := 15) rfl rfl ?_
  refine x_retz (z := true) rfl rfl ?_
  refine sK_i (pc' := 6) rfl ?_
  refine x_retz (z := true) rfl rfl ?_
  refine sK_i (pc' := 4) rfl ?_
  refine x_if (a' := 45) (pc' := 7) (z := false) rfl rfl rfl (by decide) (fun h => by cases h) (fun _ => ?_)
  refine x_iload_n (pc' := 8) rfl rfl rfl ?_
  refine x_iload_n (pc' := 9) rfl rfl rfl ?_
  refine x_cs (ls0 := [_, _]) (rest := []) rfl rfl rfl rfl ?_
  refine r150_g hb ?_
  refine sK_i (pc' := 12) rfl ?_
  refine x_ifeq_z (a' := 45) (pc' := 15) (z := (prB b p)) rfl rfl rfl (fun q4 => ?_) (fun q4 => ?_)
  · refine x_iconst (pc' := 46) rfl rfl ?_
    refine x_istore (pc' := 48) (ls' := [_, _, _, _, _, _, _, _, _, _, _, _, _, _, _]) rfl rfl rfl rfl ?_
    refine x_iload_n (pc' := 49) rfl rfl rfl ?_
    refine x_cs (ls0 := [_]) (rest := []) rfl rfl rfl rfl ?_
    refine x_iload_n (pc' := 1) rfl rfl rfl ?_
    refine x_iconst (pc' := 2) rfl rfl ?_
    refine x_iconst (pc' := 3) rfl rfl ?_
    refine x_cs (ls0 := [_, _, _]) (rest := []) rfl rfl rfl rfl ?_
    refine x_iload_n (pc' := 1) rfl rfl rfl ?_
    refine x_iload_n (pc' := 2) rfl rfl rfl ?_
    refine x_icmp (a' := 14) (pc' := 5) (z := decide (b < 0)) rfl rfl rfl (ic_lt (p := b) (q := 0) (gb31 hb) (by decide)) (fun h => absurd (of_decide_eq_true h) (by first | decide | omega | simp)) (fun _ => ?_)
    refine x_iload_n (pc' := 6) rfl rfl rfl ?_
    refine x_iload_n (pc' := 7) rfl rfl rfl ?_
    refine x_icmp (a' := 14) (pc' := 10) (z := decide (4 < b)) rfl rfl rfl (ic_gt (p := b) (q := 4) (gb31 hb) (by decide)) (fun h => absurd (of_decide_eq_true h) (show ¬ 4 < b by omega)) (fun _ => ?_)
    refine x_iconst (pc' := 11) rfl rfl ?_
    refine x_goto (pc' := 15) rfl rfl ?_
    refine x_retz (z := true) rfl rfl ?_
    refine sK_i (pc' := 6) rfl ?_
    refine x_retz (z := true) rfl rfl ?_
    refine sK_i (pc' := 52) rfl ?_
    refine x_if (a' := 78) (pc' := 55) (z := false) rfl rfl rfl (by decide) (fun h => by cases h) (fun _ => ?_)
    refine x_aload_n (pc' := 56) rfl rfl rfl rfl rfl ?_
    refine x_gR (pc' := 59) (r := (some 0)) rfl rfl rfl (kR_769_0 hc) ?_
    refine x_iload_n (pc' := 60) rfl rfl rfl ?_
    refine x_iald (pc' := 61) (N := 5) (x := (mA M 0 b)) rfl rfl rfl (kN_21_0 hc) (io_in (p := b) (N := 5) hb (by decide)) (Eq.trans (congrArg (sA t 21 0) (nn_io (p := b) (Nat.lt_trans hb (by decide)))) (gA hM rfl)) ?_
    refine x_if (a' := 78) (pc' := 64) (z := decide ((mA M 0 b) = 0)) rfl rfl rfl rfl (fun q8 => ?_) (fun q8 => ?_)
    · refine x_iconst (pc' := 79) rfl rfl ?_
      refine x_istore (pc' := 81) (ls' := [_, _, _, _, _, _, _, _, _, _, _, _, _, _, _]) rfl rfl rfl rfl ?_
      refine x_aload_n (pc' := 82) rfl rfl rfl rfl rfl ?_
      refine x_aload_n (pc' := 83) rfl rfl rfl rfl rfl ?_
      refine x_iload_n (pc' := 84) rfl rfl rfl ?_
      refine x_iload_n (pc' := 85) rfl rfl rfl ?_
      refine x_iload (pc' := 87) rfl rfl rfl ?_
      refine x_iload (pc' := 89) rfl rfl rfl ?_
      refine x_cv (ls0 := [_, _, _, _, _, sJk]) (rest := [_]) rfl rfl rfl rfl rfl ?_
      refine x_iload_n (pc' := 1) rfl rfl rfl ?_
      refine x_cs (ls0 := [_]) (rest := []) rfl rfl rfl rfl ?_
      refine x_iload_n (pc' := 1) rfl rfl rfl ?_
      refine x_iconst (pc' := 2) rfl rfl ?_
      refine x_iconst (pc' := 3) rfl rfl ?_
      refine x_cs (ls0 := [_, _, _]) (rest := []) rfl rfl rfl rfl ?_
      refine x_iload_n (pc' := 1) rfl rfl rfl ?_
      refine x_iload_n (pc' := 2) rfl rfl rfl ?_
      refine x_icmp (a' := 14) (pc' := 5) (z := decide (m < 0)) rfl rfl rfl (ic_lt (p := m) (q := 0) (gm31 hm) (by decide)) (fun h => absurd (of_decide_eq_true h) (by first | decide | omega | simp)) (fun _ => ?_)
      refine x_iload_n (pc' := 6) rfl rfl rfl ?_
      refine x_iload_n (pc' := 7) rfl rfl rfl ?_
      refine x_icmp (a' := 14) (pc' := 10) (z := decide (5 < m)) rfl rfl rfl (ic_gt (p := m) (q := 5) (gm31 hm) (by decide)) (fun h => absurd (of_decide_eq_true h) (show ¬ 5 < m by omega)) (fun _ => ?_)
      refine x_iconst (pc' := 11) rfl rfl ?_
      refine x_goto (pc' := 15) rfl rfl ?_
      refine x_retz (z := true) rfl rfl ?_
      refine sK_i (pc' := 6) rfl ?_
      refine x_retz (z := true) rfl rfl ?_
      refine sK_i (pc' := 4) rfl ?_
      refine x_if (a' := 18) (pc' := 7) (z := false) rfl rfl rfl (by decide) (fun h => by cases h) (fun _ => ?_)
      refine x_iload_n (pc' := 8) rfl rfl rfl ?_
      refine x_cs (ls0 := [_]) (rest := []) rfl rfl rfl rfl ?_
      refine x_iload_n (pc' := 1) rfl rfl rfl ?_
      refine x_iconst (pc' := 2) rfl rfl ?_
      refine x_iconst (pc' := 3) rfl rfl ?_
      refine x_cs (ls0 := [_, _, _]) (rest := []) rfl rfl rfl rfl ?_
      refine x_iload_n (pc' := 1) rfl rfl rfl ?_
      refine x_iload_n (pc' := 2) rfl rfl rfl ?_
      refine x_icmp (a' := 14) (pc' := 5) (z := decide (b < 0)) rfl rfl rfl (ic_lt (p := b) (q := 0) (gb31 hb) (by decide)) (fun h => absurd (of_decide_eq_true h) (by first | decide | omega | simp)) (fun _ => ?_)
      refine x_iload_n (pc' := 6) rfl rfl rfl ?_
      refine x_iload_n (pc' := 7) rfl rfl rfl ?_
      refine x_icmp (a' := 14) (pc' := 10) (z := decide (4 < b)) rfl rfl rfl (ic_gt (p := b) (q := 4) (gb31 hb) (by decide)) (fun h => absurd (of_decide_eq_true h) (show ¬ 4 < b by omega)) (fun _ => ?_)
      refine x_iconst (pc' := 11) rfl rfl ?_
      refine x_goto (pc' := 15) rfl rfl ?_
      refine x_retz (z := true) rfl rfl ?_
      refine sK_i (pc' := 6) rfl ?_
      refine x_retz (z := true) rfl rfl ?_
      refine sK_i (pc' := 11) rfl ?_
      refine x_if (a' := 18) (pc' := 14) (z := false) rfl rfl rfl (by decide) (fun h => by cases h) (fun _ => ?_)
      refine x_iconst (pc' := 15) rfl rfl ?_
      refine x_goto (pc' := 19) rfl rfl ?_
      refine x_istore (pc' := 21) (ls' := [_, _, _, _, _, _]) rfl rfl rfl rfl ?_
      refine x_iload (pc' := 23) rfl rfl rfl ?_
      refine x_if (a' := 30) (pc' := 26) (z := true) rfl rfl rfl (by decide) (fun _ => ?_) (fun h => by cases h)
      refine x_iload_n (pc' := 31) rfl rfl rfl ?_
      refine x_if (a' := 38) (pc' := 34) (z := false) rfl rfl rfl (by decide) (fun h => by cases h) (fun _ => ?_)
      refine x_iconst (pc' := 35) rfl rfl ?_
      refine x_goto (pc' := 57) rfl rfl ?_
      refine x_reti rfl rfl ?_
      refine sK_i (pc' := 92) rfl ?_
      refine x_cv (ls0 := [_, _]) (rest := []) rfl rfl rfl rfl rfl ?_
      refine x_aload_n (pc' := 1) rfl rfl rfl rfl rfl ?_
      refine x_iload_n (pc' := 2) rfl rfl rfl ?_
      refine x_pI (pc' := 5) rfl rfl rfl ?_
      refine x_iload_n (pc' := 6) rfl rfl rfl ?_
      refine x_if (a' := 13) (pc' := 9) (z := true) rfl rfl rfl (by decide) (fun _ => ?_) (fun h => by cases h)
      refine x_iconst (pc' := 14) rfl rfl ?_
      refine x_retz (z := false) rfl rfl ?_
      refine sK_i (pc' := 95) rfl ?_
      refine x_if (a' := 100) (pc' := 98) (z := false) rfl rfl rfl (by decide) (fun h => by cases h) (fun _ => ?_)
      refine x_iconst (pc' := 99) rfl rfl ?_
      refine x_reti rfl rfl ?_
      exact k0 q4 (of_decide_eq_true q8)
    · refine x_aload_n (pc' := 65) rfl rfl rfl rfl rfl ?_
      refine x_gI (pc' := 68) (x := (io n)) rfl rfl rfl (gFn hM (Fr.refl _) hR) ?_
      refine x_sipush (pc' := 71) rfl rfl ?_
      refine x_icmp (a' := 78) (pc' := 74) (z := decide (198 < n)) rfl rfl rfl (ic_gt (p := n) (q := 198) (gn31 hR) (by decide)) (fun q19 => ?_) (fun q19 => ?_)
      · refine x_iconst (pc' := 79) rfl rfl ?_
        refine x_istore (pc' := 81) (ls' := [_, _, _, _, _, _, _, _, _, _, _, _, _, _, _]) rfl rfl rfl rfl ?_
        refine x_aload_n (pc' := 82) rfl rfl rfl rfl rfl ?_
        refine x_aload_n (pc' := 83) rfl rfl rfl rfl rfl ?_
        refine x_iload_n (pc' := 84) rfl rfl rfl ?_
        refine x_iload_n (pc' := 85) rfl rfl rfl ?_
        refine x_iload (pc' := 87) rfl rfl rfl ?_
        refine x_iload (pc' := 89) rfl rfl rfl ?_
        refine x_cv (ls0 := [_, _, _, _, _, sJk]) (rest := [_]) rfl rfl rfl rfl rfl ?_
        refine x_iload_n (pc' := 1) rfl rfl rfl ?_
        refine x_cs (ls0 := [_]) (rest := []) rfl rfl rfl rfl ?_
        refine x_iload_n (pc' := 1) rfl rfl rfl ?_
        refine x_iconst (pc' := 2) rfl rfl ?_
        refine x_iconst (pc' := 3) rfl rfl ?_
        refine x_cs (ls0 := [_, _, _]) (rest := []) rfl rfl rfl rfl ?_
        refine x_iload_n (pc' := 1) rfl rfl rfl ?_
        refine x_iload_n (pc' := 2) rfl rfl rfl ?_
        refine x_icmp (a' := 14) (pc' := 5) (z := decide (m < 0)) rfl rfl rfl (ic_lt (p := m) (q := 0) (gm31 hm) (by decide)) (fun h => absurd (of_decide_eq_true h) (by first | decide | omega | simp)) (fun _ => ?_)
        refine x_iload_n (pc' := 6) rfl rfl rfl ?_
        refine x_iload_n (pc' := 7) rfl rfl rfl ?_
        refine x_icmp (a' := 14) (pc' := 10) (z := decide (5 < m)) rfl rfl rfl (ic_gt (p := m) (q := 5) (gm31 hm) (by decide)) (fun h => absurd (of_decide_eq_true h) (show ¬ 5 < m by omega)) (fun _ => ?_)
        refine x_iconst (pc' := 11) rfl rfl ?_
        refine x_goto (pc' := 15) rfl rfl ?_
        refine x_retz (z := true) rfl rfl ?_
        refine sK_i (pc' := 6) rfl ?_
        refine x_retz (z := true) rfl rfl ?_
        refine sK_i (pc' := 4) rfl ?_
        refine x_if (a' := 18) (pc' := 7) (z := false) rfl rfl rfl (by decide) (fun h => by cases h) (fun _ => ?_)
        refine x_iload_n (pc' := 8) rfl rfl rfl ?_
        refine x_cs (ls0 := [_]) (rest := []) rfl rfl rfl rfl ?_
        refine x_iload_n (pc' := 1) rfl rfl rfl ?_
        refine x_iconst (pc' := 2) rfl rfl ?_
        refine x_iconst (pc' := 3) rfl rfl ?_
        refine x_cs (ls0 := [_, _, _]) (rest := []) rfl rfl rfl rfl ?_
        refine x_iload_n (pc' := 1) rfl rfl rfl ?_
        refine x_iload_n (pc' := 2) rfl rfl rfl ?_
        refine x_icmp (a' := 14) (pc' := 5) (z := decide (b < 0)) rfl rfl rfl (ic_lt (p := b) (q := 0) (gb31 hb) (by decide)) (fun h => absurd (of_decide_eq_true h) (by first | decide | omega | simp)) (fun _ => ?_)
        refine x_iload_n (pc' := 6) rfl rfl rfl ?_
        refine x_iload_n (pc' := 7) rfl rfl rfl ?_
        refine x_icmp (a' := 14) (pc' := 10) (z := decide (4 < b)) rfl rfl rfl (ic_gt (p := b) (q := 4) (gb31 hb) (by decide)) (fun h => absurd (of_decide_eq_true h) (show ¬ 4 < b by omega)) (fun _ => ?_)
        refine x_iconst (pc' := 11) rfl rfl ?_
        refine x_goto (pc' := 15) rfl rfl ?_
        refine x_retz (z := true) rfl rfl ?_
        refine sK_i (pc' := 6) rfl ?_
        refine x_retz (z := true) rfl rfl ?_
        refine sK_i (pc' := 11) rfl ?_
        refine x_if (a' := 18) (pc' := 14) (z := false) rfl rfl rfl (by decide) (fun h => by cases h) (fun _ => ?_)
        refine x_iconst (pc' := 15) rfl rfl ?_
        refine x_goto (pc' := 19) rfl rfl ?_
        refine x_istore (pc' := 21) (ls' := [_, _, _, _, _, _]) rfl rfl rfl rfl ?_
        refine x_iload (pc' := 23) rfl rfl rfl ?_
        refine x_if (a' := 30) (pc' := 26) (z := true) rfl rfl rfl (by decide) (fun _ => ?_) (fun h => by cases h)
        refine x_iload_n (pc' := 31) rfl rfl rfl ?_
        refine x_if (a' := 38) (pc' := 34) (z := false) rfl rfl rfl (by decide) (fun h => by cases h) (fun _ => ?_)
        refine x_iconst (pc' := 35) rfl rfl ?_
        refine x_goto (pc' := 57) rfl rfl ?_
        refine x_reti rfl rfl ?_
        refine sK_i (pc' := 92) rfl ?_
        refine x_cv (ls0 := [_, _]) (rest := []) rfl rfl rfl rfl rfl ?_
        refine x_aload_n (pc' := 1) rfl rfl rfl rfl rfl ?_
        refine x_iload_n (pc' := 2) rfl rfl rfl ?_
        refine x_pI (pc' := 5) rfl rfl rfl ?_
        refine x_iload_n (pc' := 6) rfl rfl rfl ?_
        refine x_if (a' := 13) (pc' := 9) (z := true) rfl rfl rfl (by decide) (fun _ => ?_) (fun h => by cases h)
        refine x_iconst (pc' := 14) rfl rfl ?_
        refine x_retz (z := false) rfl rfl ?_
        refine sK_i (pc' := 95) rfl ?_
        refine x_if (a' := 100) (pc' := 98) (z := false) rfl rfl rfl (by decide) (fun h => by cases h) (fun _ => ?_)
        refine x_iconst (pc' := 99) rfl rfl ?_
        refine x_reti rfl rfl ?_
        exact k1 q4 (of_decide_eq_false q8) (of_decide_eq_true q19)
      · refine x_iconst (pc' := 75) rfl rfl ?_
        refine x_goto (pc' := 79) rfl rfl ?_
        refine x_istore (pc' := 81) (ls' := [_, _, _, _, _, _, _, _, _, _, _, _, _, _, _]) rfl rfl rfl rfl ?_
        refine x_aload_n (pc' := 82) rfl rfl rfl rfl rfl ?_
        refine x_aload_n (pc' := 83) rfl rfl rfl rfl rfl ?_
        refine x_iload_n (pc' := 84) rfl rfl rfl ?_
        refine x_iload_n (pc' := 85) rfl rfl rfl ?_
        refine x_iload (pc' := 87) rfl rfl rfl ?_
        refine x_iload (pc' := 89) rfl rfl rfl ?_
        refine x_cv (ls0 := [_, _, _, _, _, sJk]) (rest := [_]) rfl rfl rfl rfl rfl ?_
        refine x_iload_n (pc' := 1) rfl rfl rfl ?_
        refine x_cs (ls0 := [_]) (rest := []) rfl rfl rfl rfl ?_
        refine x_iload_n (pc' := 1) rfl rfl rfl ?_
        refine x_iconst (pc' := 2) rfl rfl ?_
        refine x_iconst (pc' := 3) rfl rfl ?_
        refine x_cs (ls0 := [_, _, _]) (rest := []) rfl rfl rfl rfl ?_
        refine x_iload_n (pc' := 1) rfl rfl rfl ?_
        refine x_iload_n (pc' := 2) rfl rfl rfl ?_
        refine x_icmp (a' := 14) (pc' := 5) (z := decide (m < 0)) rfl rfl rfl (ic_lt (p := m) (q := 0) (gm31 hm) (by decide)) (fun h => absurd (of_decide_eq_true h) (by first | decide | omega | simp)) (fun _ => ?_)
        refine x_iload_n (pc' := 6) rfl rfl rfl ?_
        refine x_iload_n (pc' := 7) rfl rfl rfl ?_
        refine x_icmp (a' := 14) (pc' := 10) (z := decide (5 < m)) rfl rfl rfl (ic_gt (p := m) (q := 5) (gm31 hm) (by decide)) (fun h => absurd (of_decide_eq_true h) (show ¬ 5 < m by omega)) (fun _ => ?_)
        refine x_iconst (pc' := 11) rfl rfl ?_
        refine x_goto (pc' := 15) rfl rfl ?_
        refine x_retz (z := true) rfl rfl ?_
        refine sK_i (pc' := 6) rfl ?_
        refine x_retz (z := true) rfl rfl ?_
        refine sK_i (pc' := 4) rfl ?_
        refine x_if (a' := 18) (pc' := 7) (z := false) rfl rfl rfl (by decide) (fun h => by cases h) (fun _ => ?_)
        refine x_iload_n (pc' := 8) rfl rfl rfl ?_
        refine x_cs (ls0 := [_]) (rest := []) rfl rfl rfl rfl ?_
        refine x_iload_n (pc' := 1) rfl rfl rfl ?_
        refine x_iconst (pc' := 2) rfl rfl ?_
        refine x_iconst (pc' := 3) rfl rfl ?_
        refine x_cs (ls0 := [_, _, _]) (rest := []) rfl rfl rfl rfl ?_
        refine x_iload_n (pc' := 1) rfl rfl rfl ?_
        refine x_iload_n (pc' := 2) rfl rfl rfl ?_
        refine x_icmp (a' := 14) (pc' := 5) (z := decide (b < 0)) rfl rfl rfl (ic_lt (p := b) (q := 0) (gb31 hb) (by decide)) (fun h => absurd (of_decide_eq_true h) (by first | decide | omega | simp)) (fun _ => ?_)
        refine x_iload_n (pc' := 6) rfl rfl rfl ?_
        refine x_iload_n (pc' := 7) rfl rfl rfl ?_
        refine x_icmp (a' := 14) (pc' := 10) (z := decide (4 < b)) rfl rfl rfl (ic_gt (p := b) (q := 4) (gb31 hb) (by decide)) (fun h => absurd (of_decide_eq_true h) (show ¬ 4 < b by omega)) (fun _ => ?_)
        refine x_iconst (pc' := 11) rfl rfl ?_
        refine x_goto (pc' := 15) rfl rfl ?_
        refine x_retz (z := true) rfl rfl ?_
        refine sK_i (pc' := 6) rfl ?_
        refine x_retz (z := true) rfl rfl ?_
        refine sK_i (pc' := 11) rfl ?_
        refine x_if (a' := 18) (pc' := 14) (z := false) rfl rfl rfl (by decide) (fun h => by cases h) (fun _ => ?_)
        refine x_iconst (pc' := 15) rfl rfl ?_
        refine x_goto (pc' := 19) rfl rfl ?_
        refine x_istore (pc' := 21) (ls' := [_, _, _, _, _, _]) rfl rfl rfl rfl ?_
        refine x_iload (pc' := 23) rfl rfl rfl ?_
        refine x_if (a' := 30) (pc' := 26) (z := true) rfl rfl rfl (by decide) (fun _ => ?_) (fun h => by cases h)
        refine x_iload_n (pc' := 31) rfl rfl rfl ?_
        refine x_if (a' := 38) (pc' := 34) (z := false) rfl rfl rfl (by decide) (fun h => by cases h) (fun _ => ?_)
        refine x_iconst (pc' := 35) rfl rfl ?_
        refine x_goto (pc' := 57) rfl rfl ?_
        refine x_reti rfl rfl ?_
        refine sK_i (pc' := 92) rfl ?_
        refine x_cv (ls0 := [_, _]) (rest := []) rfl rfl rfl rfl rfl ?_
        refine x_aload_n (pc' := 1) rfl rfl rfl rfl rfl ?_
        refine x_iload_n (pc' := 2) rfl rfl rfl ?_
        refine x_pI (pc' := 5) rfl rfl rfl ?_
        refine x_iload_n (pc' := 6) rfl rfl rfl ?_
        refine x_if (a' := 13) (pc' := 9) (z := true) rfl rfl rfl (by decide) (fun _ => ?_) (fun h => by cases h)
        refine x_iconst (pc' := 14) rfl rfl ?_
        refine x_retz (z := false) rfl rfl ?_
        refine sK_i (pc' := 95) rfl ?_
        refine x_if (a' := 100) (pc' := 98) (z := false) rfl rfl rfl (by decide) (fun h => by cases h) (fun _ => ?_)
        refine x_iconst (pc' := 99) rfl rfl ?_
        refine x_reti rfl rfl ?_
        exact k2 q4 (of_decide_eq_false q8) (of_decide_eq_false q19)
  · refine x_iload_n (pc' := 16) rfl rfl rfl ?_
    refine x_iload (pc' := 18) rfl rfl rfl ?_
    refine x_cs (ls0 := [_, _]) (rest := []) rfl rfl rfl rfl ?_
    refine r150_g hb ?_
    refine sK_i (pc' := 21) rfl ?_
    refine x_ifeq_z (a' := 45) (pc' := 24) (z := (prB b u)) rfl rfl rfl (fun q40 => ?_) (fun q40 => ?_)
    · refine x_iconst (pc' := 46) rfl rfl ?_
      refine x_istore (pc' := 48) (ls' := [_, _, _, _, _, _, _, _, _, _, _, _, _, _, _]) rfl rfl rfl rfl ?_
      refine x_iload_n (pc' := 49) rfl rfl rfl ?_
      refine x_cs (ls0 := [_]) (rest := []) rfl rfl rfl rfl ?_
      refine x_iload_n (pc' := 1) rfl rfl rfl ?_
      refine x_iconst (pc' := 2) rfl rfl ?_
      refine x_iconst (pc' := 3) rfl rfl ?_
      refine x_cs (ls0 := [_, _, _]) (rest := []) rfl rfl rfl rfl ?_
      refine x_iload_n (pc' := 1) rfl rfl rfl ?_
      refine x_iload_n (pc' := 2) rfl rfl rfl ?_
      refine x_icmp (a' := 14) (pc' := 5) (z := decide (b < 0)) rfl rfl rfl (ic_lt (p := b) (q := 0) (gb31 hb) (by decide)) (fun h => absurd (of_decide_eq_true h) (by first | decide | omega | simp)) (fun _ => ?_)
      refine x_iload_n (pc' := 6) rfl rfl rfl ?_
      refine x_iload_n (pc' := 7) rfl rfl rfl ?_
      refine x_icmp (a' := 14) (pc' := 10) (z := decide (4 < b)) rfl rfl rfl (ic_gt (p := b) (q := 4) (gb31 hb) (by decide)) (fun h => absurd (of_decide_eq_true h) (show ¬ 4 < b by omega)) (fun _ => ?_)
      refine x_iconst (pc' := 11) rfl rfl ?_
      refine x_goto (pc' := 15) rfl rfl ?_
      refine x_retz (z := true) rfl rfl ?_
      refine sK_i (pc' := 6) rfl ?_
      refine x_retz (z := true) rfl rfl ?_
      refine sK_i (pc' := 52) rfl ?_
      refine x_if (a' := 78) (pc' := 55) (z := false) rfl rfl rfl (by decide) (fun h => by cases h) (fun _ => ?_)
      refine x_aload_n (pc' := 56) rfl rfl rfl rfl rfl ?_
      refine x_gR (pc' := 59) (r := (some 0)) rfl rfl rfl (kR_769_0 hc) ?_
      refine x_iload_n (pc' := 60) rfl rfl rfl ?_
      refine x_iald (pc' := 61) (N := 5) (x := (mA M 0 b)) rfl rfl rfl (kN_21_0 hc) (io_in (p := b) (N := 5) hb (by decide)) (Eq.trans (congrArg (sA t 21 0) (nn_io (p := b) (Nat.lt_trans hb (by decide)))) (gA hM rfl)) ?_
      refine x_if (a' := 78) (pc' := 64) (z := decide ((mA M 0 b) = 0)) rfl rfl rfl rfl (fun q44 => ?_) (fun q44 => ?_)
      · refine x_iconst (pc' := 79) rfl rfl ?_
        refine x_istore (pc' := 81) (ls' := [_, _, _, _, _, _, _, _, _, _, _, _, _, _, _]) rfl rfl rfl rfl ?_
        refine x_aload_n (pc' := 82) rfl rfl rfl rfl rfl ?_
        refine x_aload_n (pc' := 83) rfl rfl rfl rfl rfl ?_
        refine x_iload_n (pc' := 84) rfl rfl rfl ?_
        refine x_iload_n (pc' := 85) rfl rfl rfl ?_
        refine x_iload (pc' := 87) rfl rfl rfl ?_
        refine x_iload (pc' := 89) rfl rfl rfl ?_
        refine x_cv (ls0 := [_, _, _, _, _, sJk]) (rest := [_]) rfl rfl rfl rfl rfl ?_
        refine x_iload_n (pc' := 1) rfl rfl rfl ?_
        refine x_cs (ls0 := [_]) (rest := []) rfl rfl rfl rfl ?_
        refine x_iload_n (pc' := 1) rfl rfl rfl ?_
        refine x_iconst (pc' := 2) rfl rfl ?_
        refine x_iconst (pc' := 3) rfl rfl ?_
        refine x_cs (ls0 := [_, _, _]) (rest := []) rfl rfl rfl rfl ?_
        refine x_iload_n (pc' := 1) rfl rfl rfl ?_
        refine x_iload_n (pc' := 2) rfl rfl rfl ?_
        refine x_icmp (a' := 14) (pc' := 5) (z := decide (m < 0)) rfl rfl rfl (ic_lt (p := m) (q := 0) (gm31 hm) (by decide)) (fun h => absurd (of_decide_eq_true h) (by first | decide | omega | simp)) (fun _ => ?_)
        refine x_iload_n (pc' := 6) rfl rfl rfl ?_
        refine x_iload_n (pc' := 7) rfl rfl rfl ?_
        refine x_icmp (a' := 14) (pc' := 10) (z := decide (5 < m)) rfl rfl rfl (ic_gt (p := m) (q := 5) (gm31 hm) (by decide)) (fun h => absurd (of_decide_eq_true h) (show ¬ 5 < m by omega)) (fun _ => ?_)
        refine x_iconst (pc' := 11) rfl rfl ?_
        refine x_goto (pc' := 15) rfl rfl ?_
        refine x_retz (z := true) rfl rfl ?_
        refine sK_i (pc' := 6) rfl ?_
        refine x_retz (z := true) rfl rfl ?_
        refine sK_i (pc' := 4) rfl ?_
        refine x_if (a' := 18) (pc' := 7) (z := false) rfl rfl rfl (by decide) (fun h => by cases h) (fun _ => ?_)
        refine x_iload_n (pc' := 8) rfl rfl rfl ?_
        refine x_cs (ls0 := [_]) (rest := []) rfl rfl rfl rfl ?_
        refine x_iload_n (pc' := 1) rfl rfl rfl ?_
        refine x_iconst (pc' := 2) rfl rfl ?_
        refine x_iconst (pc' := 3) rfl rfl ?_
        refine x_cs (ls0 := [_, _, _]) (rest := []) rfl rfl rfl rfl ?_
        refine x_iload_n (pc' := 1) rfl rfl rfl ?_
        refine x_iload_n (pc' := 2) rfl rfl rfl ?_
        refine x_icmp (a' := 14) (pc' := 5) (z := decide (b < 0)) rfl rfl rfl (ic_lt (p := b) (q := 0) (gb31 hb) (by decide)) (fun h => absurd (of_decide_eq_true h) (by first | decide | omega | simp)) (fun _ => ?_)
        refine x_iload_n (pc' := 6) rfl rfl rfl ?_
        refine x_iload_n (pc' := 7) rfl rfl rfl ?_
        refine x_icmp (a' := 14) (pc' := 10) (z := decide (4 < b)) rfl rfl rfl (ic_gt (p := b) (q := 4) (gb31 hb) (by decide)) (fun h => absurd (of_decide_eq_true h) (show ¬ 4 < b by omega)) (fun _ => ?_)
        refine x_iconst (pc' := 11) rfl rfl ?_
        refine x_goto (pc' := 15) rfl rfl ?_
        refine x_retz (z := true) rfl rfl ?_
        refine sK_i (pc' := 6) rfl ?_
        refine x_retz (z := true) rfl rfl ?_
        refine sK_i (pc' := 11) rfl ?_
        refine x_if (a' := 18) (pc' := 14) (z := false) rfl rfl rfl (by decide) (fun h => by cases h) (fun _ => ?_)
        refine x_iconst (pc' := 15) rfl rfl ?_
        refine x_goto (pc' := 19) rfl rfl ?_
        refine x_istore (pc' := 21) (ls' := [_, _, _, _, _, _]) rfl rfl rfl rfl ?_
        refine x_iload (pc' := 23) rfl rfl rfl ?_
        refine x_if (a' := 30) (pc' := 26) (z := true) rfl rfl rfl (by decide) (fun _ => ?_) (fun h => by cases h)
        refine x_iload_n (pc' := 31) rfl rfl rfl ?_
        refine x_if (a' := 38) (pc' := 34) (z := false) rfl rfl rfl (by decide) (fun h => by cases h) (fun _ => ?_)
        refine x_iconst (pc' := 35) rfl rfl ?_
        refine x_goto (pc' := 57) rfl rfl ?_
        refine x_reti rfl rfl ?_
        refine sK_i (pc' := 92) rfl ?_
        refine x_cv (ls0 := [_, _]) (rest := []) rfl rfl rfl rfl rfl ?_
        refine x_aload_n (pc' := 1) rfl rfl rfl rfl rfl ?_
        refine x_iload_n (pc' := 2) rfl rfl rfl ?_
        refine x_pI (pc' := 5) rfl rfl rfl ?_
        refine x_iload_n (pc' := 6) rfl rfl rfl ?_
        refine x_if (a' := 13) (pc' := 9) (z := true) rfl rfl rfl (by decide) (fun _ => ?_) (fun h => by cases h)
        refine x_iconst (pc' := 14) rfl rfl ?_
        refine x_retz (z := false) rfl rfl ?_
        refine sK_i (pc' := 95) rfl ?_
        refine x_if (a' := 100) (pc' := 98) (z := false) rfl rfl rfl (by decide) (fun h => by cases h) (fun _ => ?_)
        refine x_iconst (pc' := 99) rfl rfl ?_
        refine x_reti rfl rfl ?_
        exact k3 q4 q40 (of_decide_eq_true q44)
      · refine x_aload_n (pc' := 65) rfl rfl rfl rfl rfl ?_
        refine x_gI (pc' := 68) (x := (io n)) rfl rfl rfl (gFn hM (Fr.refl _) hR) ?_
        refine x_sipush (pc' := 71) rfl rfl ?_
        refine x_icmp (a' := 78) (pc' := 74) (z := decide (198 < n)) rfl rfl rfl (ic_gt (p := n) (q := 198) (gn31 hR) (by decide)) (fun q55 => ?_) (fun q55 => ?_)
        · refine x_iconst (pc' := 79) rfl rfl ?_
          refine x_istore (pc' := 81) (ls' := [_, _, _, _, _, _, _, _, _, _, _, _, _, _, _]) rfl rfl rfl rfl ?_
          refine x_aload_n (pc' := 82) rfl rfl rfl rfl rfl ?_
          refine x_aload_n (pc' := 83) rfl rfl rfl rfl rfl ?_
          refine x_iload_n (pc' := 84) rfl rfl rfl ?_
          refine x_iload_n (pc' := 85) rfl rfl rfl ?_
          refine x_iload (pc' := 87) rfl rfl rfl ?_
          refine x_iload (pc' := 89) rfl rfl rfl ?_
          refine x_cv (ls0 := [_, _, _, _, _, sJk]) (rest := [_]) rfl rfl rfl rfl rfl ?_
          refine x_iload_n (pc' := 1) rfl rfl rfl ?_
          refine x_cs (ls0 := [_]) (rest := []) rfl rfl rfl rfl ?_
          refine x_iload_n (pc' := 1) rfl rfl rfl ?_
          refine x_iconst (pc' := 2) rfl rfl ?_
          refine x_iconst (pc' := 3) rfl rfl ?_
          refine x_cs (ls0 := [_, _, _]) (rest := []) rfl rfl rfl rfl ?_
          refine x_iload_n (pc' := 1) rfl rfl rfl ?_
          refine x_iload_n (pc' := 2) rfl rfl rfl ?_
          refine x_icmp (a' := 14) (pc' := 5) (z := decide (m < 0)) rfl rfl rfl (ic_lt (p := m) (q := 0) (gm31 hm) (by decide)) (fun h => absurd (of_decide_eq_true h) (by first | decide | omega | simp)) (fun _ => ?_)
          refine x_iload_n (pc' := 6) rfl rfl rfl ?_
          refine x_iload_n (pc' := 7) rfl rfl rfl ?_
          refine x_icmp (a' := 14) (pc' := 10) (z := decide (5 < m)) rfl rfl rfl (ic_gt (p := m) (q := 5) (gm31 hm) (by decide)) (fun h => absurd (of_decide_eq_true h) (show ¬ 5 < m by omega)) (fun _ => ?_)
          refine x_iconst (pc' := 11) rfl rfl ?_
          refine x_goto (pc' := 15) rfl rfl ?_
          refine x_retz (z := true) rfl rfl ?_
          refine sK_i (pc' := 6) rfl ?_
          refine x_retz (z := true) rfl rfl ?_
          refine sK_i (pc' := 4) rfl ?_
          refine x_if (a' := 18) (pc' := 7) (z := false) rfl rfl rfl (by decide) (fun h => by cases h) (fun _ => ?_)
          refine x_iload_n (pc' := 8) rfl rfl rfl ?_
          refine x_cs (ls0 := [_]) (rest := []) rfl rfl rfl rfl ?_
          refine x_iload_n (pc' := 1) rfl rfl rfl ?_
          refine x_iconst (pc' := 2) rfl rfl ?_
          refine x_iconst (pc' := 3) rfl rfl ?_
          refine x_cs (ls0 := [_, _, _]) (rest := []) rfl rfl rfl rfl ?_
          refine x_iload_n (pc' := 1) rfl rfl rfl ?_
          refine x_iload_n (pc' := 2) rfl rfl rfl ?_
          refine x_icmp (a' := 14) (pc' := 5) (z := decide (b < 0)) rfl rfl rfl (ic_lt (p := b) (q := 0) (gb31 hb) (by decide)) (fun h => absurd (of_decide_eq_true h) (by first | decide | omega | simp)) (fun _ => ?_)
          refine x_iload_n (pc' := 6) rfl rfl rfl ?_
          refine x_iload_n (pc' := 7) rfl rfl rfl ?_
          refine x_icmp (a' := 14) (pc' := 10) (z := decide (4 < b)) rfl rfl rfl (ic_gt (p := b) (q := 4) (gb31 hb) (by decide)) (fun h => absurd (of_decide_eq_true h) (show ¬ 4 < b by omega)) (fun _ => ?_)
          refine x_iconst (pc' := 11) rfl rfl ?_
          refine x_goto (pc' := 15) rfl rfl ?_
          refine x_retz (z := true) rfl rfl ?_
          refine sK_i (pc' := 6) rfl ?_
          refine x_retz (z := true) rfl rfl ?_
          refine sK_i (pc' := 11) rfl ?_
          refine x_if (a' := 18) (pc' := 14) (z := false) rfl rfl rfl (by decide) (fun h => by cases h) (fun _ => ?_)
          refine x_iconst (pc' := 15) rfl rfl ?_
          refine x_goto (pc' := 19) rfl rfl ?_
          refine x_istore (pc' := 21) (ls' := [_, _, _, _, _, _]) rfl rfl rfl rfl ?_
          refine x_iload (pc' := 23) rfl rfl rfl ?_
          refine x_if (a' := 30) (pc' := 26) (z := true) rfl rfl rfl (by decide) (fun _ => ?_) (fun h => by cases h)
          refine x_iload_n (pc' := 31) rfl rfl rfl ?_
          refine x_if (a' := 38) (pc' := 34) (z := false) rfl rfl rfl (by decide) (fun h => by cases h) (fun _ => ?_)
          refine x_iconst (pc' := 35) rfl rfl ?_
          refine x_goto (pc' := 57) rfl rfl ?_
          refine x_reti rfl rfl ?_
          refine sK_i (pc' := 92) rfl ?_
          refine x_cv (ls0 := [_, _]) (rest := []) rfl rfl rfl rfl rfl ?_
          refine x_aload_n (pc' := 1) rfl rfl rfl rfl rfl ?_
          refine x_iload_n (pc' := 2) rfl rfl rfl ?_
          refine x_pI (pc' := 5) rfl rfl rfl ?_
          refine x_iload_n (pc' := 6) rfl rfl rfl ?_
          refine x_if (a' := 13) (pc' := 9) (z := true) rfl rfl rfl (by decide) (fun _ => ?_) (fun h => by cases h)
          refine x_iconst (pc' := 14) rfl rfl ?_
          refine x_retz (z := false) rfl rfl ?_
          refine sK_i (pc' := 95) rfl ?_
          refine x_if (a' := 100) (pc' := 98) (z := false) rfl rfl rfl (by decide) (fun h => by cases h) (fun _ => ?_)
          refine x_iconst (pc' := 99) rfl rfl ?_
          refine x_reti rfl rfl ?_
          exact k4 q4 q40 (of_decide_eq_false q44) (of_decide_eq_true q55)
        · refine x_iconst (pc' := 75) rfl rfl ?_
          refine x_goto (pc' := 79) rfl rfl ?_
          refine x_istore (pc' := 81) (ls' := [_, _, _, _, _, _, _, _, _, _, _, _, _, _, _]) rfl rfl rfl rfl ?_
          refine x_aload_n (pc' := 82) rfl rfl rfl rfl rfl ?_
          refine x_aload_n (pc' := 83) rfl rfl rfl rfl rfl ?_
          refine x_iload_n (pc' := 84) rfl rfl rfl ?_
          refine x_iload_n (pc' := 85) rfl rfl rfl ?_
          refine x_iload (pc' := 87) rfl rfl rfl ?_
          refine x_iload (pc' := 89) rfl rfl rfl ?_
          refine x_cv (ls0 := [_, _, _, _, _, sJk]) (rest := [_]) rfl rfl rfl rfl rfl ?_
          refine x_iload_n (pc' := 1) rfl rfl rfl ?_
          refine x_cs (ls0 := [_]) (rest := []) rfl rfl rfl rfl ?_
          refine x_iload_n (pc' := 1) rfl rfl rfl ?_
          refine x_iconst (pc' := 2) rfl rfl ?_
          refine x_iconst (pc' := 3) rfl rfl ?_
          refine x_cs (ls0 := [_, _, _]) (rest := []) rfl rfl rfl rfl ?_
          refine x_iload_n (pc' := 1) rfl rfl rfl ?_
          refine x_iload_n (pc' := 2) rfl rfl rfl ?_
          refine x_icmp (a' := 14) (pc' := 5) (z := decide (m < 0)) rfl rfl rfl (ic_lt (p := m) (q := 0) (gm31 hm) (by decide)) (fun h => absurd (of_decide_eq_true h) (by first | decide | omega | simp)) (fun _ => ?_)
          refine x_iload_n (pc' := 6) rfl rfl rfl ?_
          refine x_iload_n (pc' := 7) rfl rfl rfl ?_
          refine x_icmp (a' := 14) (pc' := 10) (z := decide (5 < m)) rfl rfl rfl (ic_gt (p := m) (q := 5) (gm31 hm) (by decide)) (fun h => absurd (of_decide_eq_true h) (show ¬ 5 < m by omega)) (fun _ => ?_)
          refine x_iconst (pc' := 11) rfl rfl ?_
          refine x_goto (pc' := 15) rfl rfl ?_
          refine x_retz (z := true) rfl rfl ?_
          refine sK_i (pc' := 6) rfl ?_
          refine x_retz (z := true) rfl rfl ?_
          refine sK_i (pc' := 4) rfl ?_
          refine x_if (a' := 18) (pc' := 7) (z := false) rfl rfl rfl (by decide) (fun h => by cases h) (fun _ => ?_)
          refine x_iload_n (pc' := 8) rfl rfl rfl ?_
          refine x_cs (ls0 := [_]) (rest := []) rfl rfl rfl rfl ?_
          refine x_iload_n (pc' := 1) rfl rfl rfl ?_
          refine x_iconst (pc' := 2) rfl rfl ?_
          refine x_iconst (pc' := 3) rfl rfl ?_
          refine x_cs (ls0 := [_, _, _]) (rest := []) rfl rfl rfl rfl ?_
          refine x_iload_n (pc' := 1) rfl rfl rfl ?_
          refine x_iload_n (pc' := 2) rfl rfl rfl ?_
          refine x_icmp (a' := 14) (pc' := 5) (z := decide (b < 0)) rfl rfl rfl (ic_lt (p := b) (q := 0) (gb31 hb) (by decide)) (fun h => absurd (of_decide_eq_true h) (by first | decide | omega | simp)) (fun _ => ?_)
          refine x_iload_n (pc' := 6) rfl rfl rfl ?_
          refine x_iload_n (pc' := 7) rfl rfl rfl ?_
          refine x_icmp (a' := 14) (pc' := 10) (z := decide (4 < b)) rfl rfl rfl (ic_gt (p := b) (q := 4) (gb31 hb) (by decide)) (fun h => absurd (of_decide_eq_true h) (show ¬ 4 < b by omega)) (fun _ => ?_)
          refine x_iconst (pc' := 11) rfl rfl ?_
          refine x_goto (pc' := 15) rfl rfl ?_
          refine x_retz (z := true) rfl rfl ?_
          refine sK_i (pc' := 6) rfl ?_
          refine x_retz (z := true) rfl rfl ?_
          refine sK_i (pc' := 11) rfl ?_
          refine x_if (a' := 18) (pc' := 14) (z := false) rfl rfl rfl (by decide) (fun h => by cases h) (fun _ => ?_)
          refine x_iconst (pc' := 15) rfl rfl ?_
          refine x_goto (pc' := 19) rfl rfl ?_
          refine x_istore (pc' := 21) (ls' := [_, _, _, _, _, _]) rfl rfl rfl rfl ?_
          refine x_iload (pc' := 23) rfl rfl rfl ?_
          refine x_if (a' := 30) (pc' := 26) (z := true) rfl rfl rfl (by decide) (fun _ => ?_) (fun h => by cases h)
          refine x_iload_n (pc' := 31) rfl rfl rfl ?_
          refine x_if (a' := 38) (pc' := 34) (z := false) rfl rfl rfl (by decide) (fun h => by cases h) (fun _ => ?_)
          refine x_iconst (pc' := 35) rfl rfl ?_
          refine x_goto (pc' := 57) rfl rfl ?_
          refine x_reti rfl rfl ?_
          refine sK_i (pc' := 92) rfl ?_
          refine x_cv (ls0 := [_, _]) (rest := []) rfl rfl rfl rfl rfl ?_
          refine x_aload_n (pc' := 1) rfl rfl rfl rfl rfl ?_
          refine x_iload_n (pc' := 2) rfl rfl rfl ?_
          refine x_pI (pc' := 5) rfl rfl rfl ?_
          refine x_iload_n (pc' := 6) rfl rfl rfl ?_
          refine x_if (a' := 13) (pc' := 9) (z := true) rfl rfl rfl (by decide) (fun _ => ?_) (fun h => by cases h)
          refine x_iconst (pc' := 14) rfl rfl ?_
          refine x_retz (z := false) rfl rfl ?_
          refine sK_i (pc' := 95) rfl ?_
          refine x_if (a' := 100) (pc' := 98) (z := false) rfl rfl rfl (by decide) (fun h => by cases h) (fun _ => ?_)
          refine x_iconst (pc' := 99) rfl rfl ?_
          refine x_reti rfl rfl ?_
          exact k5 q4 q40 (of_decide_eq_false q44) (of_decide_eq_false q55)
    · refine x_iload (pc' := 26) rfl rfl rfl ?_
      refine x_iload_n (pc' := 27) rfl rfl rfl ?_
      refine x_icmp_n (a' := 45) (pc' := 30) (z := decide (p < u)) rfl rfl rfl (ik_le _ _) (fun q76 => ?_) (fun q76 => ?_)
      · refine x_iconst (pc' := 46) rfl rfl ?_
        refine x_istore (pc' := 48) (ls' := [_, _, _, _, _, _, _, _, _, _, _, _, _, _, _]) rfl rfl rfl rfl ?_
        refine x_iload_n (pc' := 49) rfl rfl rfl ?_
        refine x_cs (ls0 := [_]) (rest := []) rfl rfl rfl rfl ?_
        refine x_iload_n (pc' := 1) rfl rfl rfl ?_
        refine x_iconst (pc' := 2) rfl rfl ?_
        refine x_iconst (pc' := 3) rfl rfl ?_
        refine x_cs (ls0 := [_, _, _]) (rest := []) rfl rfl rfl rfl ?_
        refine x_iload_n (pc' := 1) rfl rfl rfl ?_
        refine x_iload_n (pc' := 2) rfl rfl rfl ?_
        refine x_icmp (a' := 14) (pc' := 5) (z := decide (b < 0)) rfl rfl rfl (ic_lt (p := b) (q := 0) (gb31 hb) (by decide)) (fun h => absurd (of_decide_eq_true h) (by first | decide | omega | simp)) (fun _ => ?_)
        refine x_iload_n (pc' := 6) rfl rfl rfl ?_
        refine x_iload_n (pc' := 7) rfl rfl rfl ?_
        refine x_icmp (a' := 14) (pc' := 10) (z := decide (4 < b)) rfl rfl rfl (ic_gt (p := b) (q := 4) (gb31 hb) (by decide)) (fun h => absurd (of_decide_eq_true h) (show ¬ 4 < b by omega)) (fun _ => ?_)
        refine x_iconst (pc' := 11) rfl rfl ?_
        refine x_goto (pc' := 15) rfl rfl ?_
        refine x_retz (z := true) rfl rfl ?_
        refine sK_i (pc' := 6) rfl ?_
        refine x_retz (z := true) rfl rfl ?_
        refine sK_i (pc' := 52) rfl ?_
        refine x_if (a' := 78) (pc' := 55) (z := false) rfl rfl rfl (by decide) (fun h => by cases h) (fun _ => ?_)
        refine x_aload_n (pc' := 56) rfl rfl rfl rfl rfl ?_
        refine x_gR (pc' := 59) (r := (some 0)) rfl rfl rfl (kR_769_0 hc) ?_
        refine x_iload_n (pc' := 60) rfl rfl rfl ?_
        refine x_iald (pc' := 61) (N := 5) (x := (mA M 0 b)) rfl rfl rfl (kN_21_0 hc) (io_in (p := b) (N := 5) hb (by decide)) (Eq.trans (congrArg (sA t 21 0) (nn_io (p := b) (Nat.lt_trans hb (by decide)))) (gA hM rfl)) ?_
        refine x_if (a' := 78) (pc' := 64) (z := decide ((mA M 0 b) = 0)) rfl rfl rfl rfl (fun q80 => ?_) (fun q80 => ?_)
        · refine x_iconst (pc' := 79) rfl rfl ?_
          refine x_istore (pc' := 81) (ls' := [_, _, _, _, _, _, _, _, _, _, _, _, _, _, _]) rfl rfl rfl rfl ?_
          refine x_aload_n (pc' := 82) rfl rfl rfl rfl rfl ?_
          refine x_aload_n (pc' := 83) rfl rfl rfl rfl rfl ?_
          refine x_iload_n (pc' := 84) rfl rfl rfl ?_
          refine x_iload_n (pc' := 85) rfl rfl rfl ?_
          refine x_iload (pc' := 87) rfl rfl rfl ?_
          refine x_iload (pc' := 89) rfl rfl rfl ?_
          refine x_cv (ls0 := [_, _, _, _, _, sJk]) (rest := [_]) rfl rfl rfl rfl rfl ?_
          refine x_iload_n (pc' := 1) rfl rfl rfl ?_
          refine x_cs (ls0 := [_]) (rest := []) rfl rfl rfl rfl ?_
          refine x_iload_n (pc' := 1) rfl rfl rfl ?_
          refine x_iconst (pc' := 2) rfl rfl ?_
          refine x_iconst (pc' := 3) rfl rfl ?_
          refine x_cs (ls0 := [_, _, _]) (rest := []) rfl rfl rfl rfl ?_
          refine x_iload_n (pc' := 1) rfl rfl rfl ?_
          refine x_iload_n (pc' := 2) rfl rfl rfl ?_
          refine x_icmp (a' := 14) (pc' := 5) (z := decide (m < 0)) rfl rfl rfl (ic_lt (p := m) (q := 0) (gm31 hm) (by decide)) (fun h => absurd (of_decide_eq_true h) (by first | decide | omega | simp)) (fun _ => ?_)
          refine x_iload_n (pc' := 6) rfl rfl rfl ?_
          refine x_iload_n (pc' := 7) rfl rfl rfl ?_
          refine x_icmp (a' := 14) (pc' := 10) (z := decide (5 < m)) rfl rfl rfl (ic_gt (p := m) (q := 5) (gm31 hm) (by decide)) (fun h => absurd (of_decide_eq_true h) (show ¬ 5 < m by omega)) (fun _ => ?_)
          refine x_iconst (pc' := 11) rfl rfl ?_
          refine x_goto (pc' := 15) rfl rfl ?_
          refine x_retz (z := true) rfl rfl ?_
          refine sK_i (pc' := 6) rfl ?_
          refine x_retz (z := true) rfl rfl ?_
          refine sK_i (pc' := 4) rfl ?_
          refine x_if (a' := 18) (pc' := 7) (z := false) rfl rfl rfl (by decide) (fun h => by cases h) (fun _ => ?_)
          refine x_iload_n (pc' := 8) rfl rfl rfl ?_
          refine x_cs (ls0 := [_]) (rest := []) rfl rfl rfl rfl ?_
          refine x_iload_n (pc' := 1) rfl rfl rfl ?_
          refine x_iconst (pc' := 2) rfl rfl ?_
          refine x_iconst (pc' := 3) rfl rfl ?_
          refine x_cs (ls0 := [_, _, _]) (rest := []) rfl rfl rfl rfl ?_
          refine x_iload_n (pc' := 1) rfl rfl rfl ?_
          refine x_iload_n (pc' := 2) rfl rfl rfl ?_
          refine x_icmp (a' := 14) (pc' := 5) (z := decide (b < 0)) rfl rfl rfl (ic_lt (p := b) (q := 0) (gb31 hb) (by decide)) (fun h => absurd (of_decide_eq_true h) (by first | decide | omega | simp)) (fun _ => ?_)
          refine x_iload_n (pc' := 6) rfl rfl rfl ?_
          refine x_iload_n (pc' := 7) rfl rfl rfl ?_
          refine x_icmp (a' := 14) (pc' := 10) (z := decide (4 < b)) rfl rfl rfl (ic_gt (p := b) (q := 4) (gb31 hb) (by decide)) (fun h => absurd (of_decide_eq_true h) (show ¬ 4 < b by omega)) (fun _ => ?_)
          refine x_iconst (pc' := 11) rfl rfl ?_
          refine x_goto (pc' := 15) rfl rfl ?_
          refine x_retz (z := true) rfl rfl ?_
          refine sK_i (pc' := 6) rfl ?_
          refine x_retz (z := true) rfl rfl ?_
          refine sK_i (pc' := 11) rfl ?_
          refine x_if (a' := 18) (pc' := 14) (z := false) rfl rfl rfl (by decide) (fun h => by cases h) (fun _ => ?_)
          refine x_iconst (pc' := 15) rfl rfl ?_
          refine x_goto (pc' := 19) rfl rfl ?_
          refine x_istore (pc' := 21) (ls' := [_, _, _, _, _, _]) rfl rfl rfl rfl ?_
          refine x_iload (pc' := 23) rfl rfl rfl ?_
          refine x_if (a' := 30) (pc' := 26) (z := true) rfl rfl rfl (by decide) (fun _ => ?_) (fun h => by cases h)
          refine x_iload_n (pc' := 31) rfl rfl rfl ?_
          refine x_if (a' := 38) (pc' := 34) (z := false) rfl rfl rfl (by decide) (fun h => by cases h) (fun _ => ?_)
          refine x_iconst (pc' := 35) rfl rfl ?_
          refine x_goto (pc' := 57) rfl rfl ?_
          refine x_reti rfl rfl ?_
          refine sK_i (pc' := 92) rfl ?_
          refine x_cv (ls0 := [_, _]) (rest := []) rfl rfl rfl rfl rfl ?_
          refine x_aload_n (pc' := 1) rfl rfl rfl rfl rfl ?_
          refine x_iload_n (pc' := 2) rfl rfl rfl ?_
          refine x_pI (pc' := 5) rfl rfl rfl ?_
          refine x_iload_n (pc' := 6) rfl rfl rfl ?_
          refine x_if (a' := 13) (pc' := 9) (z := true) rfl rfl rfl (by decide) (fun _ => ?_) (fun h => by cases h)
          refine x_iconst (pc' := 14) rfl rfl ?_
          refine x_retz (z := false) rfl rfl ?_
          refine sK_i (pc' := 95) rfl ?_
          refine x_if (a' := 100) (pc' := 98) (z := false) rfl rfl rfl (by decide) (fun h => by cases h) (fun _ => ?_)
          refine x_iconst (pc' := 99) rfl rfl ?_
          refine x_reti rfl rfl ?_
          exact k6 q4 q40 (of_decide_eq_false q76) (of_decide_eq_true q80)
        · refine x_aload_n (pc' := 65) rfl rfl rfl rfl rfl ?_
          refine x_gI (pc' := 68) (x := (io n)) rfl rfl rfl (gFn hM (Fr.refl _) hR) ?_
          refine x_sipush (pc' := 71) rfl rfl ?_
          refine x_icmp (a' := 78) (pc' := 74) (z := decide (198 < n)) rfl rfl rfl (ic_gt (p := n) (q := 198) (gn31 hR) (by decide)) (fun q91 => ?_) (fun q91 => ?_)
          · refine x_iconst (pc' := 79) rfl rfl ?_
            refine x_istore (pc' := 81) (ls' := [_, _, _, _, _, _, _, _, _, _, _, _, _, _, _]) rfl rfl rfl rfl ?_
            refine x_aload_n (pc' := 82) rfl rfl rfl rfl rfl ?_
            refine x_aload_n (pc' := 83) rfl rfl rfl rfl rfl ?_
            refine x_iload_n (pc' := 84) rfl rfl rfl ?_
            refine x_iload_n (pc' := 85) rfl rfl rfl ?_
            refine x_iload (pc' := 87) rfl rfl rfl ?_
            refine x_iload (pc' := 89) rfl rfl rfl ?_
            refine x_cv (ls0 := [_, _, _, _, _, sJk]) (rest := [_]) rfl rfl rfl rfl rfl ?_
            refine x_iload_n (pc' := 1) rfl rfl rfl ?_
            refine x_cs (ls0 := [_]) (rest := []) rfl rfl rfl rfl ?_
            refine x_iload_n (pc' := 1) rfl rfl rfl ?_
            refine x_iconst (pc' := 2) rfl rfl ?_
            refine x_iconst (pc' := 3) rfl rfl ?_
            refine x_cs (ls0 := [_, _, _]) (rest := []) rfl rfl rfl rfl ?_
            refine x_iload_n (pc' := 1) rfl rfl rfl ?_
            refine x_iload_n (pc' := 2) rfl rfl rfl ?_
            refine x_icmp (a' := 14) (pc' := 5) (z := decide (m < 0)) rfl rfl rfl (ic_lt (p := m) (q := 0) (gm31 hm) (by decide)) (fun h => absurd (of_decide_eq_true h) (by first | decide | omega | simp)) (fun _ => ?_)
            refine x_iload_n (pc' := 6) rfl rfl rfl ?_
            refine x_iload_n (pc' := 7) rfl rfl rfl ?_
            refine x_icmp (a' := 14) (pc' := 10) (z := decide (5 < m)) rfl rfl rfl (ic_gt (p := m) (q := 5) (gm31 hm) (by decide)) (fun h => absurd (of_decide_eq_true h) (show ¬ 5 < m by omega)) (fun _ => ?_)
            refine x_iconst (pc' := 11) rfl rfl ?_
            refine x_goto (pc' := 15) rfl rfl ?_
            refine x_retz (z := true) rfl rfl ?_
            refine sK_i (pc' := 6) rfl ?_
            refine x_retz (z := true) rfl rfl ?_
            refine sK_i (pc' := 4) rfl ?_
            refine x_if (a' := 18) (pc' := 7) (z := false) rfl rfl rfl (by decide) (fun h => by cases h) (fun _ => ?_)
            refine x_iload_n (pc' := 8) rfl rfl rfl ?_
            refine x_cs (ls0 := [_]) (rest := []) rfl rfl rfl rfl ?_
            refine x_iload_n (pc' := 1) rfl rfl rfl ?_
            refine x_iconst (pc' := 2) rfl rfl ?_
            refine x_iconst (pc' := 3) rfl rfl ?_
            refine x_cs (ls0 := [_, _, _]) (rest := []) rfl rfl rfl rfl ?_
            refine x_iload_n (pc' := 1) rfl rfl rfl ?_
            refine x_iload_n (pc' := 2) rfl rfl rfl ?_
            refine x_icmp (a' := 14) (pc' := 5) (z := decide (b < 0)) rfl rfl rfl (ic_lt (p := b) (q := 0) (gb31 hb) (by decide)) (fun h => absurd (of_decide_eq_true h) (by first | decide | omega | simp)) (fun _ => ?_)
            refine x_iload_n (pc' := 6) rfl rfl rfl ?_
            refine x_iload_n (pc' := 7) rfl rfl rfl ?_
            refine x_icmp (a' := 14) (pc' := 10) (z := decide (4 < b)) rfl rfl rfl (ic_gt (p := b) (q := 4) (gb31 hb) (by decide)) (fun h => absurd (of_decide_eq_true h) (show ¬ 4 < b by omega)) (fun _ => ?_)
            refine x_iconst (pc' := 11) rfl rfl ?_
            refine x_goto (pc' := 15) rfl rfl ?_
            refine x_retz (z := true) rfl rfl ?_
            refine sK_i (pc' := 6) rfl ?_
            refine x_retz (z := true) rfl rfl ?_
            refine sK_i (pc' := 11) rfl ?_
            refine x_if (a' := 18) (pc' := 14) (z := false) rfl rfl rfl (by decide) (fun h => by cases h) (fun _ => ?_)
            refine x_iconst (pc' := 15) rfl rfl ?_
            refine x_goto (pc' := 19) rfl rfl ?_
            refine x_istore (pc' := 21) (ls' := [_, _, _, _, _, _]) rfl rfl rfl rfl ?_
            refine x_iload (pc' := 23) rfl rfl rfl ?_
            refine x_if (a' := 30) (pc' := 26) (z := true) rfl rfl rfl (by decide) (fun _ => ?_) (fun h => by cases h)
            refine x_iload_n (pc' := 31) rfl rfl rfl ?_
            refine x_if (a' := 38) (pc' := 34) (z := false) rfl rfl rfl (by decide) (fun h => by cases h) (fun _ => ?_)
            refine x_iconst (pc' := 35) rfl rfl ?_
            refine x_goto (pc' := 57) rfl rfl ?_
            refine x_reti rfl rfl ?_
            refine sK_i (pc' := 92) rfl ?_
            refine x_cv (ls0 := [_, _]) (rest := []) rfl rfl rfl rfl rfl ?_
            refine x_aload_n (pc' := 1) rfl rfl rfl rfl rfl ?_
            refine x_iload_n (pc' := 2) rfl rfl rfl ?_
            refine x_pI (pc' := 5) rfl rfl rfl ?_
            refine x_iload_n (pc' := 6) rfl rfl rfl ?_
            refine x_if (a' := 13) (pc' := 9) (z := true) rfl rfl rfl (by decide) (fun _ => ?_) (fun h => by cases h)
            refine x_iconst (pc' := 14) rfl rfl ?_
            refine x_retz (z := false) rfl rfl ?_
            refine sK_i (pc' := 95) rfl ?_
            refine x_if (a' := 100) (pc' := 98) (z := false) rfl rfl rfl (by decide) (fun h => by cases h) (fun _ => ?_)
            refine x_iconst (pc' := 99) rfl rfl ?_
            refine x_reti rfl rfl ?_
            exact k7 q4 q40 (of_decide_eq_false q76) (of_decide_eq_false q80) (of_decide_eq_true q91)
          · refine x_iconst (pc' := 75) rfl rfl ?_
            refine x_goto (pc' := 79) rfl rfl ?_
            refine x_istore (pc' := 81) (ls' := [_, _, _, _, _, _, _, _, _, _, _, _, _, _, _]) rfl rfl rfl rfl ?_
            refine x_aload_n (pc' := 82) rfl rfl rfl rfl rfl ?_
            refine x_aload_n (pc' := 83) rfl rfl rfl rfl rfl ?_
            refine x_iload_n (pc' := 84) rfl rfl rfl ?_
            refine x_iload_n (pc' := 85) rfl rfl rfl ?_
            refine x_iload (pc' := 87) rfl rfl rfl ?_
            refine x_iload (pc' := 89) rfl rfl rfl ?_
            refine x_cv (ls0 := [_, _, _, _, _, sJk]) (rest := [_]) rfl rfl rfl rfl rfl ?_
            refine x_iload_n (pc' := 1) rfl rfl rfl ?_
            refine x_cs (ls0 := [_]) (rest := []) rfl rfl rfl rfl ?_
            refine x_iload_n (pc' := 1) rfl rfl rfl ?_
            refine x_iconst (pc' := 2) rfl rfl ?_
            refine x_iconst (pc' := 3) rfl rfl ?_
            refine x_cs (ls0 := [_, _, _]) (rest := []) rfl rfl rfl rfl ?_
            refine x_iload_n (pc' := 1) rfl rfl rfl ?_
            refine x_iload_n (pc' := 2) rfl rfl rfl ?_
            refine x_icmp (a' := 14) (pc' := 5) (z := decide (m < 0)) rfl rfl rfl (ic_lt (p := m) (q := 0) (gm31 hm) (by decide)) (fun h => absurd (of_decide_eq_true h) (by first | decide | omega | simp)) (fun _ => ?_)
            refine x_iload_n (pc' := 6) rfl rfl rfl ?_
            refine x_iload_n (pc' := 7) rfl rfl rfl ?_
            refine x_icmp (a' := 14) (pc' := 10) (z := decide (5 < m)) rfl rfl rfl (ic_gt (p := m) (q := 5) (gm31 hm) (by decide)) (fun h => absurd (of_decide_eq_true h) (show ¬ 5 < m by omega)) (fun _ => ?_)
            refine x_iconst (pc' := 11) rfl rfl ?_
            refine x_goto (pc' := 15) rfl rfl ?_
            refine x_retz (z := true) rfl rfl ?_
            refine sK_i (pc' := 6) rfl ?_
            refine x_retz (z := true) rfl rfl ?_
            refine sK_i (pc' := 4) rfl ?_
            refine x_if (a' := 18) (pc' := 7) (z := false) rfl rfl rfl (by decide) (fun h => by cases h) (fun _ => ?_)
            refine x_iload_n (pc' := 8) rfl rfl rfl ?_
            refine x_cs (ls0 := [_]) (rest := []) rfl rfl rfl rfl ?_
            refine x_iload_n (pc' := 1) rfl rfl rfl ?_
            refine x_iconst (pc' := 2) rfl rfl ?_
            refine x_iconst (pc' := 3) rfl rfl ?_
            refine x_cs (ls0 := [_, _, _]) (rest := []) rfl rfl rfl rfl ?_
            refine x_iload_n (pc' := 1) rfl rfl rfl ?_
            refine x_iload_n (pc' := 2) rfl rfl rfl ?_
            refine x_icmp (a' := 14) (pc' := 5) (z := decide (b < 0)) rfl rfl rfl (ic_lt (p := b) (q := 0) (gb31 hb) (by decide)) (fun h => absurd (of_decide_eq_true h) (by first | decide | omega | simp)) (fun _ => ?_)
            refine x_iload_n (pc' := 6) rfl rfl rfl ?_
            refine x_iload_n (pc' := 7) rfl rfl rfl ?_
            refine x_icmp (a' := 14) (pc' := 10) (z := decide (4 < b)) rfl rfl rfl (ic_gt (p := b) (q := 4) (gb31 hb) (by decide)) (fun h => absurd (of_decide_eq_true h) (show ¬ 4 < b by omega)) (fun _ => ?_)
            refine x_iconst (pc' := 11) rfl rfl ?_
            refine x_goto (pc' := 15) rfl rfl ?_
            refine x_retz (z := true) rfl rfl ?_
            refine sK_i (pc' := 6) rfl ?_
            refine x_retz (z := true) rfl rfl ?_
            refine sK_i (pc' := 11) rfl ?_
            refine x_if (a' := 18) (pc' := 14) (z := false) rfl rfl rfl (by decide) (fun h => by cases h) (fun _ => ?_)
            refine x_iconst (pc' := 15) rfl rfl ?_
            refine x_goto (pc' := 19) rfl rfl ?_
            refine x_istore (pc' := 21) (ls' := [_, _, _, _, _, _]) rfl rfl rfl rfl ?_
            refine x_iload (pc' := 23) rfl rfl rfl ?_
            refine x_if (a' := 30) (pc' := 26) (z := true) rfl rfl rfl (by decide) (fun _ => ?_) (fun h => by cases h)
            refine x_iload_n (pc' := 31) rfl rfl rfl ?_
            refine x_if (a' := 38) (pc' := 34) (z := false) rfl rfl rfl (by decide) (fun h => by cases h) (fun _ => ?_)
            refine x_iconst (pc' := 35) rfl rfl ?_
            refine x_goto (pc' := 57) rfl rfl ?_
            refine x_reti rfl rfl ?_
            refine sK_i (pc' := 92) rfl ?_
            refine x_cv (ls0 := [_, _]) (rest := []) rfl rfl rfl rfl rfl ?_
            refine x_aload_n (pc' := 1) rfl rfl rfl rfl rfl ?_
            refine x_iload_n (pc' := 2) rfl rfl rfl ?_
            refine x_pI (pc' := 5) rfl rfl rfl ?_
            refine x_iload_n (pc' := 6) rfl rfl rfl ?_
            refine x_if (a' := 13) (pc' := 9) (z := true) rfl rfl rfl (by decide) (fun _ => ?_) (fun h => by cases h)
            refine x_iconst (pc' := 14) rfl rfl ?_
            refine x_retz (z := false) rfl rfl ?_
            refine sK_i (pc' := 95) rfl ?_
            refine x_if (a' := 100) (pc' := 98) (z := false) rfl rfl rfl (by decide) (fun h => by cases h) (fun _ => ?_)
            refine x_iconst (pc' := 99) rfl rfl ?_
            refine x_reti rfl rfl ?_
            exact k8 q4 q40 (of_decide_eq_false q76) (of_decide_eq_false q80) (of_decide_eq_false q91)
      · refine x_iload (pc' := 32) rfl rfl rfl ?_
        refine x_iconst (pc' := 33) rfl rfl ?_
        refine x_bipush (pc' := 35) rfl rfl ?_
        refine x_cs (ls0 := [_, _, _]) (rest := []) rfl rfl rfl rfl ?_
        refine r145_g ?_
        refine sK_i (pc' := 38) rfl ?_
        refine x_ifeq_z (a' := 45) (pc' := 41) (z := (inB a 1 100)) rfl rfl rfl (fun q112 => ?_) (fun q112 => ?_)
        · refine x_iconst (pc' := 46) rfl rfl ?_
          refine x_istore (pc' := 48) (ls' := [_, _, _, _, _, _, _, _, _, _, _, _, _, _, _]) rfl rfl rfl rfl ?_
          refine x_iload_n (pc' := 49) rfl rfl rfl ?_
          refine x_cs (ls0 := [_]) (rest := []) rfl rfl rfl rfl ?_
          refine x_iload_n (pc' := 1) rfl rfl rfl ?_
          refine x_iconst (pc' := 2) rfl rfl ?_
          refine x_iconst (pc' := 3) rfl rfl ?_
          refine x_cs (ls0 := [_, _, _]) (rest := []) rfl rfl rfl rfl ?_
          refine x_iload_n (pc' := 1) rfl rfl rfl ?_
          refine x_iload_n (pc' := 2) rfl rfl rfl ?_
          refine x_icmp (a' := 14) (pc' := 5) (z := decide (b < 0)) rfl rfl rfl (ic_lt (p := b) (q := 0) (gb31 hb) (by decide)) (fun h => absurd (of_decide_eq_true h) (by first | decide | omega | simp)) (fun _ => ?_)
          refine x_iload_n (pc' := 6) rfl rfl rfl ?_
          refine x_iload_n (pc' := 7) rfl rfl rfl ?_
          refine x_icmp (a' := 14) (pc' := 10) (z := decide (4 < b)) rfl rfl rfl (ic_gt (p := b) (q := 4) (gb31 hb) (by decide)) (fun h => absurd (of_decide_eq_true h) (show ¬ 4 < b by omega)) (fun _ => ?_)
          refine x_iconst (pc' := 11) rfl rfl ?_
          refine x_goto (pc' := 15) rfl rfl ?_
          refine x_retz (z := true) rfl rfl ?_
          refine sK_i (pc' := 6) rfl ?_
          refine x_retz (z := true) rfl rfl ?_
          refine sK_i (pc' := 52) rfl ?_
          refine x_if (a' := 78) (pc' := 55) (z := false) rfl rfl rfl (by decide) (fun h => by cases h) (fun _ => ?_)
          refine x_aload_n (pc' := 56) rfl rfl rfl rfl rfl ?_
          refine x_gR (pc' := 59) (r := (some 0)) rfl rfl rfl (kR_769_0 hc) ?_
          refine x_iload_n (pc' := 60) rfl rfl rfl ?_
          refine x_iald (pc' := 61) (N := 5) (x := (mA M 0 b)) rfl rfl rfl (kN_21_0 hc) (io_in (p := b) (N := 5) hb (by decide)) (Eq.trans (congrArg (sA t 21 0) (nn_io (p := b) (Nat.lt_trans hb (by decide)))) (gA hM rfl)) ?_
          refine x_if (a' := 78) (pc' := 64) (z := decide ((mA M 0 b) = 0)) rfl rfl rfl rfl (fun q116 => ?_) (fun q116 => ?_)
          · refine x_iconst (pc' := 79) rfl rfl ?_
            refine x_istore (pc' := 81) (ls' := [_, _, _, _, _, _, _, _, _, _, _, _, _, _, _]) rfl rfl rfl rfl ?_
            refine x_aload_n (pc' := 82) rfl rfl rfl rfl rfl ?_
            refine x_aload_n (pc' := 83) rfl rfl rfl rfl rfl ?_
            refine x_iload_n (pc' := 84) rfl rfl rfl ?_
            refine x_iload_n (pc' := 85) rfl rfl rfl ?_
            refine x_iload (pc' := 87) rfl rfl rfl ?_
            refine x_iload (pc' := 89) rfl rfl rfl ?_
            refine x_cv (ls0 := [_, _, _, _, _, sJk]) (rest := [_]) rfl rfl rfl rfl rfl ?_
            refine x_iload_n (pc' := 1) rfl rfl rfl ?_
            refine x_cs (ls0 := [_]) (rest := []) rfl rfl rfl rfl ?_
            refine x_iload_n (pc' := 1) rfl rfl rfl ?_
            refine x_iconst (pc' := 2) rfl rfl ?_
            refine x_iconst (pc' := 3) rfl rfl ?_
            refine x_cs (ls0 := [_, _, _]) (rest := []) rfl rfl rfl rfl ?_
            refine x_iload_n (pc' := 1) rfl rfl rfl ?_
            refine x_iload_n (pc' := 2) rfl rfl rfl ?_
            refine x_icmp (a' := 14) (pc' := 5) (z := decide (m < 0)) rfl rfl rfl (ic_lt (p := m) (q := 0) (gm31 hm) (by decide)) (fun h => absurd (of_decide_eq_true h) (by first | decide | omega | simp)) (fun _ => ?_)
            refine x_iload_n (pc' := 6) rfl rfl rfl ?_
            refine x_iload_n (pc' := 7) rfl rfl rfl ?_
            refine x_icmp (a' := 14) (pc' := 10) (z := decide (5 < m)) rfl rfl rfl (ic_gt (p := m) (q := 5) (gm31 hm) (by decide)) (fun h => absurd (of_decide_eq_true h) (show ¬ 5 < m by omega)) (fun _ => ?_)
            refine x_iconst (pc' := 11) rfl rfl ?_
            refine x_goto (pc' := 15) rfl rfl ?_
            refine x_retz (z := true) rfl rfl ?_
            refine sK_i (pc' := 6) rfl ?_
            refine x_retz (z := true) rfl rfl ?_
            refine sK_i (pc' := 4) rfl ?_
            refine x_if (a' := 18) (pc' := 7) (z := false) rfl rfl rfl (by decide) (fun h => by cases h) (fun _ => ?_)
            refine x_iload_n (pc' := 8) rfl rfl rfl ?_
            refine x_cs (ls0 := [_]) (rest := []) rfl rfl rfl rfl ?_
            refine x_iload_n (pc' := 1) rfl rfl rfl ?_
            refine x_iconst (pc' := 2) rfl rfl ?_
            refine x_iconst (pc' := 3) rfl rfl ?_
            refine x_cs (ls0 := [_, _, _]) (rest := []) rfl rfl rfl rfl ?_
            refine x_iload_n (pc' := 1) rfl rfl rfl ?_
            refine x_iload_n (pc' := 2) rfl rfl rfl ?_
            refine x_icmp (a' := 14) (pc' := 5) (z := decide (b < 0)) rfl rfl rfl (ic_lt (p := b) (q := 0) (gb31 hb) (by decide)) (fun h => absurd (of_decide_eq_true h) (by first | decide | omega | simp)) (fun _ => ?_)
            refine x_iload_n (pc' := 6) rfl rfl rfl ?_
            refine x_iload_n (pc' := 7) rfl rfl rfl ?_
            refine x_icmp (a' := 14) (pc' := 10) (z := decide (4 < b)) rfl rfl rfl (ic_gt (p := b) (q := 4) (gb31 hb) (by decide)) (fun h => absurd (of_decide_eq_true h) (show ¬ 4 < b by omega)) (fun _ => ?_)
            refine x_iconst (pc' := 11) rfl rfl ?_
            refine x_goto (pc' := 15) rfl rfl ?_
            refine x_retz (z := true) rfl rfl ?_
            refine sK_i (pc' := 6) rfl ?_
            refine x_retz (z := true) rfl rfl ?_
            refine sK_i (pc' := 11) rfl ?_
            refine x_if (a' := 18) (pc' := 14) (z := false) rfl rfl rfl (by decide) (fun h => by cases h) (fun _ => ?_)
            refine x_iconst (pc' := 15) rfl rfl ?_
            refine x_goto (pc' := 19) rfl rfl ?_
            refine x_istore (pc' := 21) (ls' := [_, _, _, _, _, _]) rfl rfl rfl rfl ?_
            refine x_iload (pc' := 23) rfl rfl rfl ?_
            refine x_if (a' := 30) (pc' := 26) (z := true) rfl rfl rfl (by decide) (fun _ => ?_) (fun h => by cases h)
            refine x_iload_n (pc' := 31) rfl rfl rfl ?_
            refine x_if (a' := 38) (pc' := 34) (z := false) rfl rfl rfl (by decide) (fun h => by cases h) (fun _ => ?_)
            refine x_iconst (pc' := 35) rfl rfl ?_
            refine x_goto (pc' := 57) rfl rfl ?_
            refine x_reti rfl rfl ?_
            refine sK_i (pc' := 92) rfl ?_
            refine x_cv (ls0 := [_, _]) (rest := []) rfl rfl rfl rfl rfl ?_
            refine x_aload_n (pc' := 1) rfl rfl rfl rfl rfl ?_
            refine x_iload_n (pc' := 2) rfl rfl rfl ?_
            refine x_pI (pc' := 5) rfl rfl rfl ?_
            refine x_iload_n (pc' := 6) rfl rfl rfl ?_
            refine x_if (a' := 13) (pc' := 9) (z := true) rfl rfl rfl (by decide) (fun _ => ?_) (fun h => by cases h)
            refine x_iconst (pc' := 14) rfl rfl ?_
            refine x_retz (z := false) rfl rfl ?_
            refine sK_i (pc' := 95) rfl ?_
            refine x_if (a' := 100) (pc' := 98) (z := false) rfl rfl rfl (by decide) (fun h => by cases h) (fun _ => ?_)
            refine x_iconst (pc' := 99) rfl rfl ?_
            refine x_reti rfl rfl ?_
            exact k9 q4 q40 (of_decide_eq_true q76) q112 (of_decide_eq_true q116)
          · refine x_aload_n (pc' := 65) rfl rfl rfl rfl rfl ?_
            refine x_gI (pc' := 68) (x := (io n)) rfl rfl rfl (gFn hM (Fr.refl _) hR) ?_
            refine x_sipush (pc' := 71) rfl rfl ?_
            refine x_icmp (a' := 78) (pc' := 74) (z := decide (198 < n)) rfl rfl rfl (ic_gt (p := n) (q := 198) (gn31 hR) (by decide)) (fun q127 => ?_) (fun q127 => ?_)
            · refine x_iconst (pc' := 79) rfl rfl ?_
              refine x_istore (pc' := 81) (ls' := [_, _, _, _, _, _, _, _, _, _, _, _, _, _, _]) rfl rfl rfl rfl ?_
              refine x_aload_n (pc' := 82) rfl rfl rfl rfl rfl ?_
              refine x_aload_n (pc' := 83) rfl rfl rfl rfl rfl ?_
              refine x_iload_n (pc' := 84) rfl rfl rfl ?_
              refine x_iload_n (pc' := 85) rfl rfl rfl ?_
              refine x_iload (pc' := 87) rfl rfl rfl ?_
              refine x_iload (pc' := 89) rfl rfl rfl ?_
              refine x_cv (ls0 := [_, _, _, _, _, sJk]) (rest := [_]) rfl rfl rfl rfl rfl ?_
              refine x_iload_n (pc' := 1) rfl rfl rfl ?_
              refine x_cs (ls0 := [_]) (rest := []) rfl rfl rfl rfl ?_
              refine x_iload_n (pc' := 1) rfl rfl rfl ?_
              refine x_iconst (pc' := 2) rfl rfl ?_
              refine x_iconst (pc' := 3) rfl rfl ?_
              refine x_cs (ls0 := [_, _, _]) (rest := []) rfl rfl rfl rfl ?_
              refine x_iload_n (pc' := 1) rfl rfl rfl ?_
              refine x_iload_n (pc' := 2) rfl rfl rfl ?_
              refine x_icmp (a' := 14) (pc' := 5) (z := decide (m < 0)) rfl rfl rfl (ic_lt (p := m) (q := 0) (gm31 hm) (by decide)) (fun h => absurd (of_decide_eq_true h) (by first | decide | omega | simp)) (fun _ => ?_)
              refine x_iload_n (pc' := 6) rfl rfl rfl ?_
              refine x_iload_n (pc' := 7) rfl rfl rfl ?_
              refine x_icmp (a' := 14) (pc' := 10) (z := decide (5 < m)) rfl rfl rfl (ic_gt (p := m) (q := 5) (gm31 hm) (by decide)) (fun h => absurd (of_decide_eq_true h) (show ¬ 5 < m by omega)) (fun _ => ?_)
              refine x_iconst (pc' := 11) rfl rfl ?_
              refine x_goto (pc' := 15) rfl rfl ?_
              refine x_retz (z := true) rfl rfl ?_
              refine sK_i (pc' := 6) rfl ?_
              refine x_retz (z := true) rfl rfl ?_
              refine sK_i (pc' := 4) rfl ?_
              refine x_if (a' := 18) (pc' := 7) (z := false) rfl rfl rfl (by decide) (fun h => by cases h) (fun _ => ?_)
              refine x_iload_n (pc' := 8) rfl rfl rfl ?_
              refine x_cs (ls0 := [_]) (rest := []) rfl rfl rfl rfl ?_
              refine x_iload_n (pc' := 1) rfl rfl rfl ?_
              refine x_iconst (pc' := 2) rfl rfl ?_
              refine x_iconst (pc' := 3) rfl rfl ?_
              refine x_cs (ls0 := [_, _, _]) (rest := []) rfl rfl rfl rfl ?_
              refine x_iload_n (pc' := 1) rfl rfl rfl ?_
              refine x_iload_n (pc' := 2) rfl rfl rfl ?_
              refine x_icmp (a' := 14) (pc' := 5) (z := decide (b < 0)) rfl rfl rfl (ic_lt (p := b) (q := 0) (gb31 hb) (by decide)) (fun h => absurd (of_decide_eq_true h) (by first | decide | omega | simp)) (fun _ => ?_)
              refine x_iload_n (pc' := 6) rfl rfl rfl ?_
              refine x_iload_n (pc' := 7) rfl rfl rfl ?_
              refine x_icmp (a' := 14) (pc' := 10) (z := decide (4 < b)) rfl rfl rfl (ic_gt (p := b) (q := 4) (gb31 hb) (by decide)) (fun h => absurd (of_decide_eq_true h) (show ¬ 4 < b by omega)) (fun _ => ?_)
              refine x_iconst (pc' := 11) rfl rfl ?_
              refine x_goto (pc' := 15) rfl rfl ?_
              refine x_retz (z := true) rfl rfl ?_
              refine sK_i (pc' := 6) rfl ?_
              refine x_retz (z := true) rfl rfl ?_
              refine sK_i (pc' := 11) rfl ?_
              refine x_if (a' := 18) (pc' := 14) (z := false) rfl rfl rfl (by decide) (fun h => by cases h) (fun _ => ?_)
              refine x_iconst (pc' := 15) rfl rfl ?_
              refine x_goto (pc' := 19) rfl rfl ?_
              refine x_istore (pc' := 21) (ls' := [_, _, _, _, _, _]) rfl rfl rfl rfl ?_
              refine x_iload (pc' := 23) rfl rfl rfl ?_
              refine x_if (a' := 30) (pc' := 26) (z := true) rfl rfl rfl (by decide) (fun _ => ?_) (fun h => by cases h)
              refine x_iload_n (pc' := 31) rfl rfl rfl ?_
              refine x_if (a' := 38) (pc' := 34) (z := false) rfl rfl rfl (by decide) (fun h => by cases h) (fun _ => ?_)
              refine x_iconst (pc' := 35) rfl rfl ?_
              refine x_goto (pc' := 57) rfl rfl ?_
              refine x_reti rfl rfl ?_
              refine sK_i (pc' := 92) rfl ?_
              refine x_cv (ls0 := [_, _]) (rest := []) rfl rfl rfl rfl rfl ?_
              refine x_aload_n (pc' := 1) rfl rfl rfl rfl rfl ?_
              refine x_iload_n (pc' := 2) rfl rfl rfl ?_
              refine x_pI (pc' := 5) rfl rfl rfl ?_
              refine x_iload_n (pc' := 6) rfl rfl rfl ?_
              refine x_if (a' := 13) (pc' := 9) (z := true) rfl rfl rfl (by decide) (fun _ => ?_) (fun h => by cases h)
              refine x_iconst (pc' := 14) rfl rfl ?_
              refine x_retz (z := false) rfl rfl ?_
              refine sK_i (pc' := 95) rfl ?_
              refine x_if (a' := 100) (pc' := 98) (z := false) rfl rfl rfl (by decide) (fun h => by cases h) (fun _ => ?_)
              refine x_iconst (pc' := 99) rfl rfl ?_
              refine x_reti rfl rfl ?_
              exact k10 q4 q40 (of_decide_eq_true q76) q112 (of_decide_eq_false q116) (of_decide_eq_true q127)
            · refine x_iconst (pc' := 75) rfl rfl ?_
              refine x_goto (pc' := 79) rfl rfl ?_
              refine x_istore (pc' := 81) (ls' := [_, _, _, _, _, _, _, _, _, _, _, _, _, _, _]) rfl rfl rfl rfl ?_
              refine x_aload_n (pc' := 82) rfl rfl rfl rfl rfl ?_
              refine x_aload_n (pc' := 83) rfl rfl rfl rfl rfl ?_
              refine x_iload_n (pc' := 84) rfl rfl rfl ?_
              refine x_iload_n (pc' := 85) rfl rfl rfl ?_
              refine x_iload (pc' := 87) rfl rfl rfl ?_
              refine x_iload (pc' := 89) rfl rfl rfl ?_
              refine x_cv (ls0 := [_, _, _, _, _, sJk]) (rest := [_]) rfl rfl rfl rfl rfl ?_
              refine x_iload_n (pc' := 1) rfl rfl rfl ?_
              refine x_cs (ls0 := [_]) (rest := []) rfl rfl rfl rfl ?_
              refine x_iload_n (pc' := 1) rfl rfl rfl ?_
              refine x_iconst (pc' := 2) rfl rfl ?_
              refine x_iconst (pc' := 3) rfl rfl ?_
              refine x_cs (ls0 := [_, _, _]) (rest := []) rfl rfl rfl rfl ?_
              refine x_iload_n (pc' := 1) rfl rfl rfl ?_
              refine x_iload_n (pc' := 2) rfl rfl rfl ?_
              refine x_icmp (a' := 14) (pc' := 5) (z := decide (m < 0)) rfl rfl rfl (ic_lt (p := m) (q := 0) (gm31 hm) (by decide)) (fun h => absurd (of_decide_eq_true h) (by first | decide | omega | simp)) (fun _ => ?_)
              refine x_iload_n (pc' := 6) rfl rfl rfl ?_
              refine x_iload_n (pc' := 7) rfl rfl rfl ?_
              refine x_icmp (a' := 14) (pc' := 10) (z := decide (5 < m)) rfl rfl rfl (ic_gt (p := m) (q := 5) (gm31 hm) (by decide)) (fun h => absurd (of_decide_eq_true h) (show ¬ 5 < m by omega)) (fun _ => ?_)
              refine x_iconst (pc' := 11) rfl rfl ?_
              refine x_goto (pc' := 15) rfl rfl ?_
              refine x_retz (z := true) rfl rfl ?_
              refine sK_i (pc' := 6) rfl ?_
              refine x_retz (z := true) rfl rfl ?_
              refine sK_i (pc' := 4) rfl ?_
              refine x_if (a' := 18) (pc' := 7) (z := false) rfl rfl rfl (by decide) (fun h => by cases h) (fun _ => ?_)
              refine x_iload_n (pc' := 8) rfl rfl rfl ?_
              refine x_cs (ls0 := [_]) (rest := []) rfl rfl rfl rfl ?_
              refine x_iload_n (pc' := 1) rfl rfl rfl ?_
              refine x_iconst (pc' := 2) rfl rfl ?_
              refine x_iconst (pc' := 3) rfl rfl ?_
              refine x_cs (ls0 := [_, _, _]) (rest := []) rfl rfl rfl rfl ?_
              refine x_iload_n (pc' := 1) rfl rfl rfl ?_
              refine x_iload_n (pc' := 2) rfl rfl rfl ?_
              refine x_icmp (a' := 14) (pc' := 5) (z := decide (b < 0)) rfl rfl rfl (ic_lt (p := b) (q := 0) (gb31 hb) (by decide)) (fun h => absurd (of_decide_eq_true h) (by first | decide | omega | simp)) (fun _ => ?_)
              refine x_iload_n (pc' := 6) rfl rfl rfl ?_
              refine x_iload_n (pc' := 7) rfl rfl rfl ?_
              refine x_icmp (a' := 14) (pc' := 10) (z := decide (4 < b)) rfl rfl rfl (ic_gt (p := b) (q := 4) (gb31 hb) (by decide)) (fun h => absurd (of_decide_eq_true h) (show ¬ 4 < b by omega)) (fun _ => ?_)
              refine x_iconst (pc' := 11) rfl rfl ?_
              refine x_goto (pc' := 15) rfl rfl ?_
              refine x_retz (z := true) rfl rfl ?_
              refine sK_i (pc' := 6) rfl ?_
              refine x_retz (z := true) rfl rfl ?_
              refine sK_i (pc' := 11) rfl ?_
              refine x_if (a' := 18) (pc' := 14) (z := false) rfl rfl rfl (by decide) (fun h => by cases h) (fun _ => ?_)
              refine x_iconst (pc' := 15) rfl rfl ?_
              refine x_goto (pc' := 19) rfl rfl ?_
              refine x_istore (pc' := 21) (ls' := [_, _, _, _, _, _]) rfl rfl rfl rfl ?_
              refine x_iload (pc' := 23) rfl rfl rfl ?_
              refine x_if (a' := 30) (pc' := 26) (z := true) rfl rfl rfl (by decide) (fun _ => ?_) (fun h => by cases h)
              refine x_iload_n (pc' := 31) rfl rfl rfl ?_
              refine x_if (a' := 38) (pc' := 34) (z := false) rfl rfl rfl (by decide) (fun h => by cases h) (fun _ => ?_)
              refine x_iconst (pc' := 35) rfl rfl ?_
              refine x_goto (pc' := 57) rfl rfl ?_
              refine x_reti rfl rfl ?_
              refine sK_i (pc' := 92) rfl ?_
              refine x_cv (ls0 := [_, _]) (rest := []) rfl rfl rfl rfl rfl ?_
              refine x_aload_n (pc' := 1) rfl rfl rfl rfl rfl ?_
              refine x_iload_n (pc' := 2) rfl rfl rfl ?_
              refine x_pI (pc' := 5) rfl rfl rfl ?_
              refine x_iload_n (pc' := 6) rfl rfl rfl ?_
              refine x_if (a' := 13) (pc' := 9) (z := true) rfl rfl rfl (by decide) (fun _ => ?_) (fun h => by cases h)
              refine x_iconst (pc' := 14) rfl rfl ?_
              refine x_retz (z := false) rfl rfl ?_
              refine sK_i (pc' := 95) rfl ?_
              refine x_if (a' := 100) (pc' := 98) (z := false) rfl rfl rfl (by decide) (fun h => by cases h) (fun _ => ?_)
              refine x_iconst (pc' := 99) rfl rfl ?_
              refine x_reti rfl rfl ?_
              exact k11 q4 q40 (of_decide_eq_true q76) q112 (of_decide_eq_false q116) (of_decide_eq_false q127)
        · refine x_iconst (pc' := 42) rfl rfl ?_
          refine x_goto (pc' := 46) rfl rfl ?_
          refine x_istore (pc' := 48) (ls' := [_, _, _, _, _, _, _, _, _, _, _, _, _, _, _]) rfl rfl rfl rfl ?_
          refine x_iload_n (pc' := 49) rfl rfl rfl ?_
          refine x_cs (ls0 := [_]) (rest := []) rfl rfl rfl rfl ?_
          refine x_iload_n (pc' := 1) rfl rfl rfl ?_
          refine x_iconst (pc' := 2) rfl rfl ?_
          refine x_iconst (pc' := 3) rfl rfl ?_
          refine x_cs (ls0 := [_, _, _]) (rest := []) rfl rfl rfl rfl ?_
          refine x_iload_n (pc' := 1) rfl rfl rfl ?_
          refine x_iload_n (pc' := 2) rfl rfl rfl ?_
          refine x_icmp (a' := 14) (pc' := 5) (z := decide (b < 0)) rfl rfl rfl (ic_lt (p := b) (q := 0) (gb31 hb) (by decide)) (fun h => absurd (of_decide_eq_true h) (by first | decide | omega | simp)) (fun _ => ?_)
          refine x_iload_n (pc' := 6) rfl rfl rfl ?_
          refine x_iload_n (pc' := 7) rfl rfl rfl ?_
          refine x_icmp (a' := 14) (pc' := 10) (z := decide (4 < b)) rfl rfl rfl (ic_gt (p := b) (q := 4) (gb31 hb) (by decide)) (fun h => absurd (of_decide_eq_true h) (show ¬ 4 < b by omega)) (fun _ => ?_)
          refine x_iconst (pc' := 11) rfl rfl ?_
          refine x_goto (pc' := 15) rfl rfl ?_
          refine x_retz (z := true) rfl rfl ?_
          refine sK_i (pc' := 6) rfl ?_
          refine x_retz (z := true) rfl rfl ?_
          refine sK_i (pc' := 52) rfl ?_
          refine x_if (a' := 78) (pc' := 55) (z := false) rfl rfl rfl (by decide) (fun h => by cases h) (fun _ => ?_)
          refine x_aload_n (pc' := 56) rfl rfl rfl rfl rfl ?_
          refine x_gR (pc' := 59) (r := (some 0)) rfl rfl rfl (kR_769_0 hc) ?_
          refine x_iload_n (pc' := 60) rfl rfl rfl ?_
          refine x_iald (pc' := 61) (N := 5) (x := (mA M 0 b)) rfl rfl rfl (kN_21_0 hc) (io_in (p := b) (N := 5) hb (by decide)) (Eq.trans (congrArg (sA t 21 0) (nn_io (p := b) (Nat.lt_trans hb (by decide)))) (gA hM rfl)) ?_
          refine x_if (a' := 78) (pc' := 64) (z := decide ((mA M 0 b) = 0)) rfl rfl rfl rfl (fun q151 => ?_) (fun q151 => ?_)
          · refine x_iconst (pc' := 79) rfl rfl ?_
            refine x_istore (pc' := 81) (ls' := [_, _, _, _, _, _, _, _, _, _, _, _, _, _, _]) rfl rfl rfl rfl ?_
            refine x_aload_n (pc' := 82) rfl rfl rfl rfl rfl ?_
            refine x_aload_n (pc' := 83) rfl rfl rfl rfl rfl ?_
            refine x_iload_n (pc' := 84) rfl rfl rfl ?_
            refine x_iload_n (pc' := 85) rfl rfl rfl ?_
            refine x_iload (pc' := 87) rfl rfl rfl ?_
            refine x_iload (pc' := 89) rfl rfl rfl ?_
            refine x_cv (ls0 := [_, _, _, _, _, sJk]) (rest := [_]) rfl rfl rfl rfl rfl ?_
            refine x_iload_n (pc' := 1) rfl rfl rfl ?_
            refine x_cs (ls0 := [_]) (rest := []) rfl rfl rfl rfl ?_
            refine x_iload_n (pc' := 1) rfl rfl rfl ?_
            refine x_iconst (pc' := 2) rfl rfl ?_
            refine x_iconst (pc' := 3) rfl rfl ?_
            refine x_cs (ls0 := [_, _, _]) (rest := []) rfl rfl rfl rfl ?_
            refine x_iload_n (pc' := 1) rfl rfl rfl ?_
            refine x_iload_n (pc' := 2) rfl rfl rfl ?_
            refine x_icmp (a' := 14) (pc' := 5) (z := decide (m < 0)) rfl rfl rfl (ic_lt (p := m) (q := 0) (gm31 hm) (by decide)) (fun h => absurd (of_decide_eq_true h) (by first | decide | omega | simp)) (fun _ => ?_)
            refine x_iload_n (pc' := 6) rfl rfl rfl ?_
            refine x_iload_n (pc' := 7) rfl rfl rfl ?_
            refine x_icmp (a' := 14) (pc' := 10) (z := decide (5 < m)) rfl rfl rfl (ic_gt (p := m) (q := 5) (gm31 hm) (by decide)) (fun h => absurd (of_decide_eq_true h) (show ¬ 5 < m by omega)) (fun _ => ?_)
            refine x_iconst (pc' := 11) rfl rfl ?_
            refine x_goto (pc' := 15) rfl rfl ?_
            refine x_retz (z := true) rfl rfl ?_
            refine sK_i (pc' := 6) rfl ?_
            refine x_retz (z := true) rfl rfl ?_
            refine sK_i (pc' := 4) rfl ?_
            refine x_if (a' := 18) (pc' := 7) (z := false) rfl rfl rfl (by decide) (fun h => by cases h) (fun _ => ?_)
            refine x_iload_n (pc' := 8) rfl rfl rfl ?_
            refine x_cs (ls0 := [_]) (rest := []) rfl rfl rfl rfl ?_
            refine x_iload_n (pc' := 1) rfl rfl rfl ?_
            refine x_iconst (pc' := 2) rfl rfl ?_
            refine x_iconst (pc' := 3) rfl rfl ?_
            refine x_cs (ls0 := [_, _, _]) (rest := []) rfl rfl rfl rfl ?_
            refine x_iload_n (pc' := 1) rfl rfl rfl ?_
            refine x_iload_n (pc' := 2) rfl rfl rfl ?_
            refine x_icmp (a' := 14) (pc' := 5) (z := decide (b < 0)) rfl rfl rfl (ic_lt (p := b) (q := 0) (gb31 hb) (by decide)) (fun h => absurd (of_decide_eq_true h) (by first | decide | omega | simp)) (fun _ => ?_)
            refine x_iload_n (pc' := 6) rfl rfl rfl ?_
            refine x_iload_n (pc' := 7) rfl rfl rfl ?_
            refine x_icmp (a' := 14) (pc' := 10) (z := decide (4 < b)) rfl rfl rfl (ic_gt (p := b) (q := 4) (gb31 hb) (by decide)) (fun h => absurd (of_decide_eq_true h) (show ¬ 4 < b by omega)) (fun _ => ?_)
            refine x_iconst (pc' := 11) rfl rfl ?_
            refine x_goto (pc' := 15) rfl rfl ?_
            refine x_retz (z := true) rfl rfl ?_
            refine sK_i (pc' := 6) rfl ?_
            refine x_retz (z := true) rfl rfl ?_
            refine sK_i (pc' := 11) rfl ?_
            refine x_if (a' := 18) (pc' := 14) (z := false) rfl rfl rfl (by decide) (fun h => by cases h) (fun _ => ?_)
            refine x_iconst (pc' := 15) rfl rfl ?_
            refine x_goto (pc' := 19) rfl rfl ?_
            refine x_istore (pc' := 21) (ls' := [_, _, _, _, _, _]) rfl rfl rfl rfl ?_
            refine x_iload (pc' := 23) rfl rfl rfl ?_
            refine x_if (a' := 30) (pc' := 26) (z := true) rfl rfl rfl (by decide) (fun _ => ?_) (fun h => by cases h)
            refine x_iload_n (pc' := 31) rfl rfl rfl ?_
            refine x_if (a' := 38) (pc' := 34) (z := true) rfl rfl rfl (by decide) (fun _ => ?_) (fun h => by cases h)
            refine x_aload_n (pc' := 39) rfl rfl rfl rfl rfl ?_
            refine x_gR (pc' := 42) (r := (some 2)) rfl rfl rfl (kR_781_0 hc) ?_
            refine x_iload_n (pc' := 43) rfl rfl rfl ?_
            refine x_bald (pc' := 44) (N := 6) (z := (mB M 2 m)) rfl rfl (kN_22_2 hc) (io_in (p := m) (N := 6) hm (by decide)) (Eq.trans (congrArg (sB t 22 2) (nn_io (p := m) (Nat.lt_trans hm (by decide)))) (gB hM)) ?_
            refine x_ifne_z (a' := 52) (pc' := 47) (z := (mB M 2 m)) rfl rfl rfl (fun q160 => ?_) (fun q160 => ?_)
            · refine x_iconst (pc' := 53) rfl rfl ?_
              refine x_goto (pc' := 57) rfl rfl ?_
              refine x_reti rfl rfl ?_
              refine sK_i (pc' := 92) rfl ?_
              refine x_cv (ls0 := [_, _]) (rest := []) rfl rfl rfl rfl rfl ?_
              refine x_aload_n (pc' := 1) rfl rfl rfl rfl rfl ?_
              refine x_iload_n (pc' := 2) rfl rfl rfl ?_
              refine x_pI (pc' := 5) rfl rfl rfl ?_
              refine x_iload_n (pc' := 6) rfl rfl rfl ?_
              refine x_if (a' := 13) (pc' := 9) (z := true) rfl rfl rfl (by decide) (fun _ => ?_) (fun h => by cases h)
              refine x_iconst (pc' := 14) rfl rfl ?_
              refine x_retz (z := false) rfl rfl ?_
              refine sK_i (pc' := 95) rfl ?_
              refine x_if (a' := 100) (pc' := 98) (z := false) rfl rfl rfl (by decide) (fun h => by cases h) (fun _ => ?_)
              refine x_iconst (pc' := 99) rfl rfl ?_
              refine x_reti rfl rfl ?_
              exact k12 q4 q40 (of_decide_eq_true q76) q112 (of_decide_eq_true q151) q160
            · refine x_iload (pc' := 49) rfl rfl rfl ?_
              refine x_if (a' := 56) (pc' := 52) (z := false) rfl rfl rfl (by decide) (fun h => by cases h) (fun _ => ?_)
              refine x_iconst (pc' := 53) rfl rfl ?_
              refine x_goto (pc' := 57) rfl rfl ?_
              refine x_reti rfl rfl ?_
              refine sK_i (pc' := 92) rfl ?_
              refine x_cv (ls0 := [_, _]) (rest := []) rfl rfl rfl rfl rfl ?_
              refine x_aload_n (pc' := 1) rfl rfl rfl rfl rfl ?_
              refine x_iload_n (pc' := 2) rfl rfl rfl ?_
              refine x_pI (pc' := 5) rfl rfl rfl ?_
              refine x_iload_n (pc' := 6) rfl rfl rfl ?_
              refine x_if (a' := 13) (pc' := 9) (z := true) rfl rfl rfl (by decide) (fun _ => ?_) (fun h => by cases h)
              refine x_iconst (pc' := 14) rfl rfl ?_
              refine x_retz (z := false) rfl rfl ?_
              refine sK_i (pc' := 95) rfl ?_
              refine x_if (a' := 100) (pc' := 98) (z := false) rfl rfl rfl (by decide) (fun h => by cases h) (fun _ => ?_)
              refine x_iconst (pc' := 99) rfl rfl ?_
              refine x_reti rfl rfl ?_
              exact k13 q4 q40 (of_decide_eq_true q76) q112 (of_decide_eq_true q151) q160
          · refine x_aload_n (pc' := 65) rfl rfl rfl rfl rfl ?_
            refine x_gI (pc' := 68) (x := (io n)) rfl rfl rfl (gFn hM (Fr.refl _) hR) ?_
            refine x_sipush (pc' := 71) rfl rfl ?_
            refine x_icmp (a' := 78) (pc' := 74) (z := decide (198 < n)) rfl rfl rfl (ic_gt (p := n) (q := 198) (gn31 hR) (by decide)) (fun q166 => ?_) (fun q166 => ?_)
            · refine x_iconst (pc' := 79) rfl rfl ?_
              refine x_istore (pc' := 81) (ls' := [_, _, _, _, _, _, _, _, _, _, _, _, _, _, _]) rfl rfl rfl rfl ?_
              refine x_aload_n (pc' := 82) rfl rfl rfl rfl rfl ?_
              refine x_aload_n (pc' := 83) rfl rfl rfl rfl rfl ?_
              refine x_iload_n (pc' := 84) rfl rfl rfl ?_
              refine x_iload_n (pc' := 85) rfl rfl rfl ?_
              refine x_iload (pc' := 87) rfl rfl rfl ?_
              refine x_iload (pc' := 89) rfl rfl rfl ?_
              refine x_cv (ls0 := [_, _, _, _, _, sJk]) (rest := [_]) rfl rfl rfl rfl rfl ?_
              refine x_iload_n (pc' := 1) rfl rfl rfl ?_
              refine x_cs (ls0 := [_]) (rest := []) rfl rfl rfl rfl ?_
              refine x_iload_n (pc' := 1) rfl rfl rfl ?_
              refine x_iconst (pc' := 2) rfl rfl ?_
              refine x_iconst (pc' := 3) rfl rfl ?_
              refine x_cs (ls0 := [_, _, _]) (rest := []) rfl rfl rfl rfl ?_
              refine x_iload_n (pc' := 1) rfl rfl rfl ?_
              refine x_iload_n (pc' := 2) rfl rfl rfl ?_
              refine x_icmp (a' := 14) (pc' := 5) (z := decide (m < 0)) rfl rfl rfl (ic_lt (p := m) (q := 0) (gm31 hm) (by decide)) (fun h => absurd (of_decide_eq_true h) (by first | decide | omega | simp)) (fun _ => ?_)
              refine x_iload_n (pc' := 6) rfl rfl rfl ?_
              refine x_iload_n (pc' := 7) rfl rfl rfl ?_
              refine x_icmp (a' := 14) (pc' := 10) (z := decide (5 < m)) rfl rfl rfl (ic_gt (p := m) (q := 5) (gm31 hm) (by decide)) (fun h => absurd (of_decide_eq_true h) (show ¬ 5 < m by omega)) (fun _ => ?_)
              refine x_iconst (pc' := 11) rfl rfl ?_
              refine x_goto (pc' := 15) rfl rfl ?_
              refine x_retz (z := true) rfl rfl ?_
              refine sK_i (pc' := 6) rfl ?_
              refine x_retz (z := true) rfl rfl ?_
              refine sK_i (pc' := 4) rfl ?_
              refine x_if (a' := 18) (pc' := 7) (z := false) rfl rfl rfl (by decide) (fun h => by cases h) (fun _ => ?_)
              refine x_iload_n (pc' := 8) rfl rfl rfl ?_
              refine x_cs (ls0 := [_]) (rest := []) rfl rfl rfl rfl ?_
              refine x_iload_n (pc' := 1) rfl rfl rfl ?_
              refine x_iconst (pc' := 2) rfl rfl ?_
              refine x_iconst (pc' := 3) rfl rfl ?_
              refine x_cs (ls0 := [_, _, _]) (rest := []) rfl rfl rfl rfl ?_
              refine x_iload_n (pc' := 1) rfl rfl rfl ?_
              refine x_iload_n (pc' := 2) rfl rfl rfl ?_
              refine x_icmp (a' := 14) (pc' := 5) (z := decide (b < 0)) rfl rfl rfl (ic_lt (p := b) (q := 0) (gb31 hb) (by decide)) (fun h => absurd (of_decide_eq_true h) (by first | decide | omega | simp)) (fun _ => ?_)
              refine x_iload_n (pc' := 6) rfl rfl rfl ?_
              refine x_iload_n (pc' := 7) rfl rfl rfl ?_
              refine x_icmp (a' := 14) (pc' := 10) (z := decide (4 < b)) rfl rfl rfl (ic_gt (p := b) (q := 4) (gb31 hb) (by decide)) (fun h => absurd (of_decide_eq_true h) (show ¬ 4 < b by omega)) (fun _ => ?_)
              refine x_iconst (pc' := 11) rfl rfl ?_
              refine x_goto (pc' := 15) rfl rfl ?_
              refine x_retz (z := true) rfl rfl ?_
              refine sK_i (pc' := 6) rfl ?_
              refine x_retz (z := true) rfl rfl ?_
              refine sK_i (pc' := 11) rfl ?_
              refine x_if (a' := 18) (pc' := 14) (z := false) rfl rfl rfl (by decide) (fun h => by cases h) (fun _ => ?_)
              refine x_iconst (pc' := 15) rfl rfl ?_
              refine x_goto (pc' := 19) rfl rfl ?_
              refine x_istore (pc' := 21) (ls' := [_, _, _, _, _, _]) rfl rfl rfl rfl ?_
              refine x_iload (pc' := 23) rfl rfl rfl ?_
              refine x_if (a' := 30) (pc' := 26) (z := true) rfl rfl rfl (by decide) (fun _ => ?_) (fun h => by cases h)
              refine x_iload_n (pc' := 31) rfl rfl rfl ?_
              refine x_if (a' := 38) (pc' := 34) (z := true) rfl rfl rfl (by decide) (fun _ => ?_) (fun h => by cases h)
              refine x_aload_n (pc' := 39) rfl rfl rfl rfl rfl ?_
              refine x_gR (pc' := 42) (r := (some 2)) rfl rfl rfl (kR_781_0 hc) ?_
              refine x_iload_n (pc' := 43) rfl rfl rfl ?_
              refine x_bald (pc' := 44) (N := 6) (z := (mB M 2 m)) rfl rfl (kN_22_2 hc) (io_in (p := m) (N := 6) hm (by decide)) (Eq.trans (congrArg (sB t 22 2) (nn_io (p := m) (Nat.lt_trans hm (by decide)))) (gB hM)) ?_
              refine x_ifne_z (a' := 52) (pc' := 47) (z := (mB M 2 m)) rfl rfl rfl (fun q175 => ?_) (fun q175 => ?_)
              · refine x_iconst (pc' := 53) rfl rfl ?_
                refine x_goto (pc' := 57) rfl rfl ?_
                refine x_reti rfl rfl ?_
                refine sK_i (pc' := 92) rfl ?_
                refine x_cv (ls0 := [_, _]) (rest := []) rfl rfl rfl rfl rfl ?_
                refine x_aload_n (pc' := 1) rfl rfl rfl rfl rfl ?_
                refine x_iload_n (pc' := 2) rfl rfl rfl ?_
                refine x_pI (pc' := 5) rfl rfl rfl ?_
                refine x_iload_n (pc' := 6) rfl rfl rfl ?_
                refine x_if (a' := 13) (pc' := 9) (z := true) rfl rfl rfl (by decide) (fun _ => ?_) (fun h => by cases h)
                refine x_iconst (pc' := 14) rfl rfl ?_
                refine x_retz (z := false) rfl rfl ?_
                refine sK_i (pc' := 95) rfl ?_
                refine x_if (a' := 100) (pc' := 98) (z := false) rfl rfl rfl (by decide) (fun h => by cases h) (fun _ => ?_)
                refine x_iconst (pc' := 99) rfl rfl ?_
                refine x_reti rfl rfl ?_
                exact k14 q4 q40 (of_decide_eq_true q76) q112 (of_decide_eq_false q151) (of_decide_eq_true q166) q175
              · refine x_iload (pc' := 49) rfl rfl rfl ?_
                refine x_if (a' := 56) (pc' := 52) (z := false) rfl rfl rfl (by decide) (fun h => by cases h) (fun _ => ?_)
                refine x_iconst (pc' := 53) rfl rfl ?_
                refine x_goto (pc' := 57) rfl rfl ?_
                refine x_reti rfl rfl ?_
                refine sK_i (pc' := 92) rfl ?_
                refine x_cv (ls0 := [_, _]) (rest := []) rfl rfl rfl rfl rfl ?_
                refine x_aload_n (pc' := 1) rfl rfl rfl rfl rfl ?_
                refine x_iload_n (pc' := 2) rfl rfl rfl ?_
                refine x_pI (pc' := 5) rfl rfl rfl ?_
                refine x_iload_n (pc' := 6) rfl rfl rfl ?_
                refine x_if (a' := 13) (pc' := 9) (z := true) rfl rfl rfl (by decide) (fun _ => ?_) (fun h => by cases h)
                refine x_iconst (pc' := 14) rfl rfl ?_
                refine x_retz (z := false) rfl rfl ?_
                refine sK_i (pc' := 95) rfl ?_
                refine x_if (a' := 100) (pc' := 98) (z := false) rfl rfl rfl (by decide) (fun h => by cases h) (fun _ => ?_)
                refine x_iconst (pc' := 99) rfl rfl ?_
                refine x_reti rfl rfl ?_
                exact k15 q4 q40 (of_decide_eq_true q76) q112 (of_decide_eq_false q151) (of_decide_eq_true q166) q175
            · refine x_iconst (pc' := 75) rfl rfl ?_
              refine x_goto (pc' := 79) rfl rfl ?_
              refine x_istore (pc' := 81) (ls' := [_, _, _, _, _, _, _, _, _, _, _, _, _, _, _]) rfl rfl rfl rfl ?_
              refine x_aload_n (pc' := 82) rfl rfl rfl rfl rfl ?_
              refine x_aload_n (pc' := 83) rfl rfl rfl rfl rfl ?_
              refine x_iload_n (pc' := 84) rfl rfl rfl ?_
              refine x_iload_n (pc' := 85) rfl rfl rfl ?_
              refine x_iload (pc' := 87) rfl rfl rfl ?_
              refine x_iload (pc' := 89) rfl rfl rfl ?_
              refine x_cv (ls0 := [_, _, _, _, _, sJk]) (rest := [_]) rfl rfl rfl rfl rfl ?_
              refine x_iload_n (pc' := 1) rfl rfl rfl ?_
              refine x_cs (ls0 := [_]) (rest := []) rfl rfl rfl rfl ?_
              refine x_iload_n (pc' := 1) rfl rfl rfl ?_
              refine x_iconst (pc' := 2) rfl rfl ?_
              refine x_iconst (pc' := 3) rfl rfl ?_
              refine x_cs (ls0 := [_, _, _]) (rest := []) rfl rfl rfl rfl ?_
              refine x_iload_n (pc' := 1) rfl rfl rfl ?_
              refine x_iload_n (pc' := 2) rfl rfl rfl ?_
              refine x_icmp (a' := 14) (pc' := 5) (z := decide (m < 0)) rfl rfl rfl (ic_lt (p := m) (q := 0) (gm31 hm) (by decide)) (fun h => absurd (of_decide_eq_true h) (by first | decide | omega | simp)) (fun _ => ?_)
              refine x_iload_n (pc' := 6) rfl rfl rfl ?_
              refine x_iload_n (pc' := 7) rfl rfl rfl ?_
              refine x_icmp (a' := 14) (pc' := 10) (z := decide (5 < m)) rfl rfl rfl (ic_gt (p := m) (q := 5) (gm31 hm) (by decide)) (fun h => absurd (of_decide_eq_true h) (show ¬ 5 < m by omega)) (fun _ => ?_)
              refine x_iconst (pc' := 11) rfl rfl ?_
              refine x_goto (pc' := 15) rfl rfl ?_
              refine x_retz (z := true) rfl rfl ?_
              refine sK_i (pc' := 6) rfl ?_
              refine x_retz (z := true) rfl rfl ?_
              refine sK_i (pc' := 4) rfl ?_
              refine x_if (a' := 18) (pc' := 7) (z := false) rfl rfl rfl (by decide) (fun h => by cases h) (fun _ => ?_)
              refine x_iload_n (pc' := 8) rfl rfl rfl ?_
              refine x_cs (ls0 := [_]) (rest := []) rfl rfl rfl rfl ?_
              refine x_iload_n (pc' := 1) rfl rfl rfl ?_
              refine x_iconst (pc' := 2) rfl rfl ?_
              refine x_iconst (pc' := 3) rfl rfl ?_
              refine x_cs (ls0 := [_, _, _]) (rest := []) rfl rfl rfl rfl ?_
              refine x_iload_n (pc' := 1) rfl rfl rfl ?_
              refine x_iload_n (pc' := 2) rfl rfl rfl ?_
              refine x_icmp (a' := 14) (pc' := 5) (z := decide (b < 0)) rfl rfl rfl (ic_lt (p := b) (q := 0) (gb31 hb) (by decide)) (fun h => absurd (of_decide_eq_true h) (by first | decide | omega | simp)) (fun _ => ?_)
              refine x_iload_n (pc' := 6) rfl rfl rfl ?_
              refine x_iload_n (pc' := 7) rfl rfl rfl ?_
              refine x_icmp (a' := 14) (pc' := 10) (z := decide (4 < b)) rfl rfl rfl (ic_gt (p := b) (q := 4) (gb31 hb) (by decide)) (fun h => absurd (of_decide_eq_true h) (show ¬ 4 < b by omega)) (fun _ => ?_)
              refine x_iconst (pc' := 11) rfl rfl ?_
              refine x_goto (pc' := 15) rfl rfl ?_
              refine x_retz (z := true) rfl rfl ?_
              refine sK_i (pc' := 6) rfl ?_
              refine x_retz (z := true) rfl rfl ?_
              refine sK_i (pc' := 11) rfl ?_
              refine x_if (a' := 18) (pc' := 14) (z := false) rfl rfl rfl (by decide) (fun h => by cases h) (fun _ => ?_)
              refine x_iconst (pc' := 15) rfl rfl ?_
              refine x_goto (pc' := 19) rfl rfl ?_
              refine x_istore (pc' := 21) (ls' := [_, _, _, _, _, _]) rfl rfl rfl rfl ?_
              refine x_iload (pc' := 23) rfl rfl rfl ?_
              refine x_if (a' := 30) (pc' := 26) (z := true) rfl rfl rfl (by decide) (fun _ => ?_) (fun h => by cases h)
              refine x_iload_n (pc' := 31) rfl rfl rfl ?_
              refine x_if (a' := 38) (pc' := 34) (z := true) rfl rfl rfl (by decide) (fun _ => ?_) (fun h => by cases h)
              refine x_aload_n (pc' := 39) rfl rfl rfl rfl rfl ?_
              refine x_gR (pc' := 42) (r := (some 2)) rfl rfl rfl (kR_781_0 hc) ?_
              refine x_iload_n (pc' := 43) rfl rfl rfl ?_
              refine x_bald (pc' := 44) (N := 6) (z := (mB M 2 m)) rfl rfl (kN_22_2 hc) (io_in (p := m) (N := 6) hm (by decide)) (Eq.trans (congrArg (sB t 22 2) (nn_io (p := m) (Nat.lt_trans hm (by decide)))) (gB hM)) ?_
              refine x_ifne_z (a' := 52) (pc' := 47) (z := (mB M 2 m)) rfl rfl rfl (fun q189 => ?_) (fun q189 => ?_)
              · refine x_iconst (pc' := 53) rfl rfl ?_
                refine x_goto (pc' := 57) rfl rfl ?_
                refine x_reti rfl rfl ?_
                refine sK_i (pc' := 92) rfl ?_
                refine x_cv (ls0 := [_, _]) (rest := []) rfl rfl rfl rfl rfl ?_
                refine x_aload_n (pc' := 1) rfl rfl rfl rfl rfl ?_
                refine x_iload_n (pc' := 2) rfl rfl rfl ?_
                refine x_pI (pc' := 5) rfl rfl rfl ?_
                refine x_iload_n (pc' := 6) rfl rfl rfl ?_
                refine x_if (a' := 13) (pc' := 9) (z := true) rfl rfl rfl (by decide) (fun _ => ?_) (fun h => by cases h)
                refine x_iconst (pc' := 14) rfl rfl ?_
                refine x_retz (z := false) rfl rfl ?_
                refine sK_i (pc' := 95) rfl ?_
                refine x_if (a' := 100) (pc' := 98) (z := false) rfl rfl rfl (by decide) (fun h => by cases h) (fun _ => ?_)
                refine x_iconst (pc' := 99) rfl rfl ?_
                refine x_reti rfl rfl ?_
                exact k16 q4 q40 (of_decide_eq_true q76) q112 (of_decide_eq_false q151) (of_decide_eq_false q166) q189
              · refine x_iload (pc' := 49) rfl rfl rfl ?_
                refine x_if (a' := 56) (pc' := 52) (z := true) rfl rfl rfl (by decide) (fun _ => ?_) (fun h => by cases h)
                refine x_iconst (pc' := 57) rfl rfl ?_
                refine x_reti rfl rfl ?_
                refine sK_i (pc' := 92) rfl ?_
                refine x_cv (ls0 := [_, _]) (rest := []) rfl rfl rfl rfl rfl ?_
                refine x_aload_n (pc' := 1) rfl rfl rfl rfl rfl ?_
                refine x_iload_n (pc' := 2) rfl rfl rfl ?_
                refine x_pI (pc' := 5) rfl rfl rfl ?_
                refine x_iload_n (pc' := 6) rfl rfl rfl ?_
                refine x_if (a' := 13) (pc' := 9) (z := false) rfl rfl rfl (by decide) (fun h => by cases h) (fun _ => ?_)
                refine x_iconst (pc' := 10) rfl rfl ?_
                refine x_goto (pc' := 14) rfl rfl ?_
                refine x_retz (z := true) rfl rfl ?_
                refine sK_i (pc' := 95) rfl ?_
                refine x_if (a' := 100) (pc' := 98) (z := true) rfl rfl rfl (by decide) (fun _ => ?_) (fun h => by cases h)
                refine x_aload_n (pc' := 101) rfl rfl rfl rfl rfl ?_
                refine x_gR (pc' := 104) (r := (some 10)) rfl rfl rfl (Eq.trans (b := sR t 782 0) rfl (kR_782_0 hc)) ?_
                refine x_iconst (pc' := 105) rfl rfl ?_
                refine x_iload_n (pc' := 106) rfl rfl rfl ?_
                refine x_imul (pc' := 107) (z := (io (5 * m))) rfl rfl (io_mul 5 m) ?_
                refine x_iload_n (pc' := 108) rfl rfl rfl ?_
                refine x_iadd (pc' := 109) (z := (io ((5 * m) + b))) rfl rfl (io_add (5 * m) b) ?_
                refine x_iald (pc' := 110) (N := 30) (x := (mA M 10 ((5 * m) + b))) rfl rfl rfl (Eq.trans rdNI (kN_21_10 hc)) (io_in (p := ((5 * m) + b)) (N := 30) g0 (by decide)) (Eq.trans (congrArg (sA (sIw t 768 0 0) 21 10) (nn_io (p := ((5 * m) + b)) (Nat.lt_trans g0 (by decide)))) (Eq.trans (b := sA t 21 10 ((5 * m) + b)) rfl (gA hM rfl))) ?_
                refine x_istore (pc' := 112) (ls' := [_, _, _, _, _, _, _, _, _, _, _, _, _, _, _]) rfl rfl rfl rfl ?_
                refine x_iload (pc' := 114) rfl rfl rfl ?_
                refine x_iconst (pc' := 115) rfl rfl ?_
                refine x_icmp_n (a' := 122) (pc' := 118) (z := decide ((mA M 10 ((5 * m) + b)) = (-1))) rfl rfl rfl (ik_ne _ _) (fun q195 => ?_) (fun q195 => ?_)
                · refine x_aload_n (pc' := 123) rfl rfl rfl rfl rfl ?_
                  refine x_gR (pc' := 126) (r := (some 19)) rfl rfl rfl (Eq.trans (b := sR t 795 0) rfl (kR_795_0 hc)) ?_
                  refine x_iload (pc' := 128) rfl rfl rfl ?_
                  refine x_iald (pc' := 129) (N := 200) (x := (mA M 19 ((mA M 10 ((5 * m) + b)).toNatClampNeg))) rfl rfl rfl (Eq.trans rdNI (kN_21_19 hc)) hi0 (Eq.trans (b := sA t 21 19 ((mA M 10 ((5 * m) + b)).toNatClampNeg)) rfl (gA hM rfl)) ?_
                  refine x_istore (pc' := 131) (ls' := [_, _, _, _, _, _, _, _, _, _, _, _, _, _, _]) rfl rfl rfl rfl ?_
                  refine x_iload (pc' := 133) rfl rfl rfl ?_
                  refine x_iconst (pc' := 134) rfl rfl ?_
                  refine x_icmp_n (a' := 141) (pc' := 137) (z := decide ((mA M 10 ((5 * m) + b)) = (-1))) rfl rfl rfl (ik_ne _ _) (fun _ => ?_) (fun h => absurd (of_decide_eq_true h) (of_decide_eq_false q195))
                  refine x_aload_n (pc' := 142) rfl rfl rfl rfl rfl ?_
                  refine x_gR (pc' := 145) (r := (some 19)) rfl rfl rfl (Eq.trans (b := sR t 795 0) rfl (kR_795_0 hc)) ?_
                  refine x_iload (pc' := 147) rfl rfl rfl ?_
                  refine x_iconst (pc' := 148) rfl rfl ?_
                  refine x_iadd (pc' := 149) (z := ((mA M 10 ((5 * m) + b)) + 1)) rfl rfl rfl ?_
                  refine x_iald (pc' := 150) (N := 200) (x := (mA M 19 (((mA M 10 ((5 * m) + b)) + 1).toNatClampNeg))) rfl rfl rfl (Eq.trans rdNI (kN_21_19 hc)) hi1 (Eq.trans (b := sA t 21 19 (((mA M 10 ((5 * m) + b)) + 1).toNatClampNeg)) rfl (gA hM rfl)) ?_
                  refine x_istore (pc' := 152) (ls' := [_, _, _, _, _, _, _, _, _, _, _, _, _, _, _]) rfl rfl rfl rfl ?_
                  refine x_iload (pc' := 154) rfl rfl rfl ?_
                  refine x_iconst (pc' := 155) rfl rfl ?_
                  refine x_icmp (a' := 176) (pc' := 158) (z := decide ((mA M 10 ((5 * m) + b)) = (-1))) rfl rfl rfl rfl (fun h => absurd (of_decide_eq_true h) (of_decide_eq_false q195)) (fun _ => ?_)
                  refine x_aload_n (pc' := 159) rfl rfl rfl rfl rfl ?_
                  refine x_gR (pc' := 162) (r := (some 19)) rfl rfl rfl (Eq.trans (b := sR t 795 0) rfl (kR_795_0 hc)) ?_
                  refine x_iload (pc' := 164) rfl rfl rfl ?_
                  refine x_iconst (pc' := 165) rfl rfl ?_
                  refine x_iast (pc' := 166) (N := 200) (p := (mA M 10 ((5 * m) + b)).toNatClampNeg) rfl rfl rfl (Eq.trans rdNI (kN_21_19 hc)) hi0 rfl ?_
                  refine x_aload_n (pc' := 167) rfl rfl rfl rfl rfl ?_
                  refine x_gR (pc' := 170) (r := (some 19)) rfl rfl rfl (Eq.trans (b := sR t 795 0) rfl (kR_795_0 hc)) ?_
                  refine x_iload (pc' := 172) rfl rfl rfl ?_
                  refine x_iconst (pc' := 173) rfl rfl ?_
                  refine x_iadd (pc' := 174) (z := ((mA M 10 ((5 * m) + b)) + 1)) rfl rfl rfl ?_
                  refine x_iconst (pc' := 175) rfl rfl ?_
                  refine x_iast (pc' := 176) (N := 200) (p := ((mA M 10 ((5 * m) + b)) + 1).toNatClampNeg) rfl rfl rfl (Eq.trans rdNA (Eq.trans rdNI (kN_21_19 hc))) hi1 rfl ?_
                  refine x_aload_n (pc' := 177) rfl rfl rfl rfl rfl ?_
                  refine x_iload_n (pc' := 178) rfl rfl rfl ?_
                  refine x_iload_n (pc' := 179) rfl rfl rfl ?_
                  refine x_iconst (pc' := 180) rfl rfl ?_
                  refine x_iload_n (pc' := 181) rfl rfl rfl ?_
                  refine x_iload (pc' := 183) rfl rfl rfl ?_
                  refine x_iload (pc' := 185) rfl rfl rfl ?_
                  refine x_cv (ls0 := [_, _, _, _, _, _, _]) (rest := []) rfl rfl rfl rfl rfl ?_
                  exact k17 q4 q40 (of_decide_eq_true q76) q112 (of_decide_eq_false q151) (of_decide_eq_false q166) q189 (of_decide_eq_false q195)
                · refine x_iconst (pc' := 119) rfl rfl ?_
                  refine x_goto (pc' := 129) rfl rfl ?_
                  refine x_istore (pc' := 131) (ls' := [_, _, _, _, _, _, _, _, _, _, _, _, _, _, _]) rfl rfl rfl rfl ?_
                  refine x_iload (pc' := 133) rfl rfl rfl ?_
                  refine x_iconst (pc' := 134) rfl rfl ?_
                  refine x_icmp_n (a' := 141) (pc' := 137) (z := decide ((mA M 10 ((5 * m) + b)) = (-1))) rfl rfl rfl (ik_ne _ _) (fun h => absurd (of_decide_eq_true q195) (of_decide_eq_false h)) (fun _ => ?_)
                  refine x_iconst (pc' := 138) rfl rfl ?_
                  refine x_goto (pc' := 150) rfl rfl ?_
                  refine x_istore (pc' := 152) (ls' := [_, _, _, _, _, _, _, _, _, _, _, _, _, _, _]) rfl rfl rfl rfl ?_
                  refine x_iload (pc' := 154) rfl rfl rfl ?_
                  refine x_iconst (pc' := 155) rfl rfl ?_
                  refine x_icmp (a' := 176) (pc' := 158) (z := decide ((mA M 10 ((5 * m) + b)) = (-1))) rfl rfl rfl rfl (fun _ => ?_) (fun h => absurd (of_decide_eq_true q195) (of_decide_eq_false h))
                  refine x_aload_n (pc' := 177) rfl rfl rfl rfl rfl ?_
                  refine x_iload_n (pc' := 178) rfl rfl rfl ?_
                  refine x_iload_n (pc' := 179) rfl rfl rfl ?_
                  refine x_iconst (pc' := 180) rfl rfl ?_
                  refine x_iload_n (pc' := 181) rfl rfl rfl ?_
                  refine x_iload (pc' := 183) rfl rfl rfl ?_
                  refine x_iload (pc' := 185) rfl rfl rfl ?_
                  refine x_cv (ls0 := [_, _, _, _, _, _, _]) (rest := []) rfl rfl rfl rfl rfl ?_
                  exact k18 q4 q40 (of_decide_eq_true q76) q112 (of_decide_eq_false q151) (of_decide_eq_false q166) q189 (of_decide_eq_true q195)
set_option maxHeartbeats 4000000 in
set_option maxRecDepth 10000 in
theorem r208_x1 {t : sT} {Q : sRs → sT → Prop} {M : sM} {n : Nat} {m : Nat} {x : Int32} {p : Int32} {u : Int32} {a : Int32}
    (hV : Vr t M n)
    (hm : m < 6)
    (hp : ixo x 5 = none)
    (k0 : Q (.inl (some (.inl 0))) (sIw t 768 0 1)) :
    X 208 0 [.inr (.inr (12, (some 0))), .inl (io m), .inl x, .inl p, .inl u, .inl a, sJk, sJk, sJk, sJk, sJk, sJk, sJk, sJk, sJk] [] t Q := by
  obtain ⟨hM, hc, hR⟩ := hV
  refine x_iload_n (pc' := 1) rfl rfl rfl ?_
  refine x_cs (ls0 := [_]) (rest := []) rfl rfl rfl rfl ?_
  refine x_iload_n (pc' := 1) rfl rfl rfl ?_
  refine x_iconst (pc' := 2) rfl rfl ?_
  refine x_iconst (pc' := 3) rfl rfl ?_
  refine x_cs (ls0 := [_, _, _]) (rest := []) rfl rfl rfl rfl ?_
  refine r145_xg (ixo_c5 hp) ?_
  refine sK_i (pc' := 6) rfl ?_
  refine x_retz (z := false) rfl rfl ?_
  refine sK_i (pc' := 4) rfl ?_
  refine x_if (a' := 45) (pc' := 7) (z := true) rfl rfl rfl (by decide) (fun _ => ?_) (fun h => by cases h)
  refine x_iconst (pc' := 46) rfl rfl ?_
  refine x_istore (pc' := 48) (ls' := [_, _, _, _, _, _, _, _, _, _, _, _, _, _, _]) rfl rfl rfl rfl ?_
  refine x_iload_n (pc' := 49) rfl rfl rfl ?_
  refine x_cs (ls0 := [_]) (rest := []) rfl rfl rfl rfl ?_
  refine x_iload_n (pc' := 1) rfl rfl rfl ?_
  refine x_iconst (pc' := 2) rfl rfl ?_
  refine x_iconst (pc' := 3) rfl rfl ?_
  refine x_cs (ls0 := [_, _, _]) (rest := []) rfl rfl rfl rfl ?_
  refine r145_xg (ixo_c5 hp) ?_
  refine sK_i (pc' := 6) rfl ?_
  refine x_retz (z := false) rfl rfl ?_
  refine sK_i (pc' := 52) rfl ?_
  refine x_if (a' := 78) (pc' := 55) (z := true) rfl rfl rfl (by decide) (fun _ => ?_) (fun h => by cases h)
  refine x_iconst (pc' := 79) rfl rfl ?_
  refine x_istore (pc' := 81) (ls' := [_, _, _, _, _, _, _, _, _, _, _, _, _, _, _]) rfl rfl rfl rfl ?_
  refine x_aload_n (pc' := 82) rfl rfl rfl rfl rfl ?_
  refine x_aload_n (pc' := 83) rfl rfl rfl rfl rfl ?_
  refine x_iload_n (pc' := 84) rfl rfl rfl ?_
  refine x_iload_n (pc' := 85) rfl rfl rfl ?_
  refine x_iload (pc' := 87) rfl rfl rfl ?_
  refine x_iload (pc' := 89) rfl rfl rfl ?_
  refine x_cv (ls0 := [_, _, _, _, _, sJk]) (rest := [_]) rfl rfl rfl rfl rfl ?_
  refine x_iload_n (pc' := 1) rfl rfl rfl ?_
  refine x_cs (ls0 := [_]) (rest := []) rfl rfl rfl rfl ?_
  refine x_iload_n (pc' := 1) rfl rfl rfl ?_
  refine x_iconst (pc' := 2) rfl rfl ?_
  refine x_iconst (pc' := 3) rfl rfl ?_
  refine x_cs (ls0 := [_, _, _]) (rest := []) rfl rfl rfl rfl ?_
  refine x_iload_n (pc' := 1) rfl rfl rfl ?_
  refine x_iload_n (pc' := 2) rfl rfl rfl ?_
  refine x_icmp (a' := 14) (pc' := 5) (z := decide (m < 0)) rfl rfl rfl (ic_lt (p := m) (q := 0) (gm31 hm) (by decide)) (fun h => absurd (of_decide_eq_true h) (by first | decide | omega | simp)) (fun _ => ?_)
  refine x_iload_n (pc' := 6) rfl rfl rfl ?_
  refine x_iload_n (pc' := 7) rfl rfl rfl ?_
  refine x_icmp (a' := 14) (pc' := 10) (z := decide (5 < m)) rfl rfl rfl (ic_gt (p := m) (q := 5) (gm31 hm) (by decide)) (fun h => absurd (of_decide_eq_true h) (show ¬ 5 < m by omega)) (fun _ => ?_)
  refine x_iconst (pc' := 11) rfl rfl ?_
  refine x_goto (pc' := 15) rfl rfl ?_
  refine x_retz (z := true) rfl rfl ?_
  refine sK_i (pc' := 6) rfl ?_
  refine x_retz (z := true) rfl rfl ?_
  refine sK_i (pc' := 4) rfl ?_
  refine x_if (a' := 18) (pc' := 7) (z := false) rfl rfl rfl (by decide) (fun h => by cases h) (fun _ => ?_)
  refine x_iload_n (pc' := 8) rfl rfl rfl ?_
  refine x_cs (ls0 := [_]) (rest := []) rfl rfl rfl rfl ?_
  refine x_iload_n (pc' := 1) rfl rfl rfl ?_
  refine x_iconst (pc' := 2) rfl rfl ?_
  refine x_iconst (pc' := 3) rfl rfl ?_
  refine x_cs (ls0 := [_, _, _]) (rest := []) rfl rfl rfl rfl ?_
  refine r145_xg (ixo_c5 hp) ?_
  refine sK_i (pc' := 6) rfl ?_
  refine x_retz (z := false) rfl rfl ?_
  refine sK_i (pc' := 11) rfl ?_
  refine x_if (a' := 18) (pc' := 14) (z := true) rfl rfl rfl (by decide) (fun _ => ?_) (fun h => by cases h)
  refine x_iconst (pc' := 19) rfl rfl ?_
  refine x_istore (pc' := 21) (ls' := [_, _, _, _, _, _]) rfl rfl rfl rfl ?_
  refine x_iload (pc' := 23) rfl rfl rfl ?_
  refine x_if (a' := 30) (pc' := 26) (z := false) rfl rfl rfl (by decide) (fun h => by cases h) (fun _ => ?_)
  refine x_iconst (pc' := 27) rfl rfl ?_
  refine x_goto (pc' := 57) rfl rfl ?_
  refine x_reti rfl rfl ?_
  refine sK_i (pc' := 92) rfl ?_
  refine x_cv (ls0 := [_, _]) (rest := []) rfl rfl rfl rfl rfl ?_
  refine x_aload_n (pc' := 1) rfl rfl rfl rfl rfl ?_
  refine x_iload_n (pc' := 2) rfl rfl rfl ?_
  refine x_pI (pc' := 5) rfl rfl rfl ?_
  refine x_iload_n (pc' := 6) rfl rfl rfl ?_
  refine x_if (a' := 13) (pc' := 9) (z := true) rfl rfl rfl (by decide) (fun _ => ?_) (fun h => by cases h)
  refine x_iconst (pc' := 14) rfl rfl ?_
  refine x_retz (z := false) rfl rfl ?_
  refine sK_i (pc' := 95) rfl ?_
  refine x_if (a' := 100) (pc' := 98) (z := false) rfl rfl rfl (by decide) (fun h => by cases h) (fun _ => ?_)
  refine x_iconst (pc' := 99) rfl rfl ?_
  refine x_reti rfl rfl ?_
  exact k0
set_option maxHeartbeats 4000000 in
set_option maxRecDepth 10000 in
theorem r208_x0 {t : sT} {Q : sRs → sT → Prop} {M : sM} {n : Nat} {x : Int32} {b : Nat} {p : Int32} {u : Int32} {a : Int32}
    (hV : Vr t M n)
    (hp : ixo x 6 = none)
    (hb : b < 5)
    (k0 : (prB b p) = false → (mA M 0 b) = 0 → Q (.inl (some (.inl 0))) (sIw t 768 0 1))
    (k1 : (prB b p) = false → ¬ ((mA M 0 b) = 0) → 198 < n → Q (.inl (some (.inl 0))) (sIw t 768 0 1))
    (k2 : (prB b p) = false → ¬ ((mA M 0 b) = 0) → ¬ (198 < n) → Q (.inl (some (.inl 0))) (sIw t 768 0 1))
    (k3 : (prB b p) = true → (prB b u) = false → (mA M 0 b) = 0 → Q (.inl (some (.inl 0))) (sIw t 768 0 1))
    (k4 : (prB b p) = true → (prB b u) = false → ¬ ((mA M 0 b) = 0) → 198 < n → Q (.inl (some (.inl 0))) (sIw t 768 0 1))
    (k5 : (prB b p) = true → (prB b u) = false → ¬ ((mA M 0 b) = 0) → ¬ (198 < n) → Q (.inl (some (.inl 0))) (sIw t 768 0 1))
    (k6 : (prB b p) = true → (prB b u) = true → ¬ (p < u) → (mA M 0 b) = 0 → Q (.inl (some (.inl 0))) (sIw t 768 0 1))
    (k7 : (prB b p) = true → (prB b u) = true → ¬ (p < u) → ¬ ((mA M 0 b) = 0) → 198 < n → Q (.inl (some (.inl 0))) (sIw t 768 0 1))
    (k8 : (prB b p) = true → (prB b u) = true → ¬ (p < u) → ¬ ((mA M 0 b) = 0) → ¬ (198 < n) → Q (.inl (some (.inl 0))) (sIw t 768 0 1))
    (k9 : (prB b p) = true → (prB b u) = true → p < u → (inB a 1 100) = false → (mA M 0 b) = 0 → Q (.inl (some (.inl 0))) (sIw t 768 0 1))
    (k10 : (prB b p) = true → (prB b u) = true → p < u → (inB a 1 100) = false → ¬ ((mA M 0 b) = 0) → 198 < n → Q (.inl (some (.inl 0))) (sIw t 768 0 1))
    (k11 : (prB b p) = true → (prB b u) = true → p < u → (inB a 1 100) = false → ¬ ((mA M 0 b) = 0) → ¬ (198 < n) → Q (.inl (some (.inl 0))) (sIw t 768 0 1))
    (k12 : (prB b p) = true → (prB b u) = true → p < u → (inB a 1 100) = true → (mA M 0 b) = 0 → Q (.inl (some (.inl 0))) (sIw t 768 0 1))
    (k13 : (prB b p) = true → (prB b u) = true → p < u → (inB a 1 100) = true → ¬ ((mA M 0 b) = 0) → 198 < n → Q (.inl (some (.inl 0))) (sIw t 768 0 1))
    (k14 : (prB b p) = true → (prB b u) = true → p < u → (inB a 1 100) = true → ¬ ((mA M 0 b) = 0) → ¬ (198 < n) → Q (.inl (some (.inl 0))) (sIw t 768 0 1)) :
    X 208 0 [.inr (.inr (12, (some 0))), .inl x, .inl (io b), .inl p, .inl u, .inl a, sJk, sJk, sJk, sJk, sJk, sJk, sJk, sJk, sJk] [] t Q := by
  obtain ⟨hM, hc, hR⟩ := hV
  refine x_iload_n (pc' := 1) rfl rfl rfl ?_
  refine x_cs (ls0 := [_]) (rest := []) rfl rfl rfl rfl ?_
  refine x_iload_n (pc' := 1) rfl rfl rfl ?_
  refine x_iconst (pc' := 2) rfl rfl ?_
  refine x_iconst (pc' := 3) rfl rfl ?_
  refine x_cs (ls0 := [_, _, _]) (rest := []) rfl rfl rfl rfl ?_
  refine x_iload_n (pc' := 1) rfl rfl rfl ?_
  refine x_iload_n (pc' := 2) rfl rfl rfl ?_
  refine x_icmp (a' := 14) (pc' := 5) (z := decide (b < 0)) rfl rfl rfl (ic_lt (p := b) (q := 0) (gb31 hb) (by decide)) (fun h => absurd (of_decide_eq_true h) (by first | decide | omega | simp)) (fun _ => ?_)
  refine x_iload_n (pc' := 6) rfl rfl rfl ?_
  refine x_iload_n (pc' := 7) rfl rfl rfl ?_
  refine x_icmp (a' := 14) (pc' := 10) (z := decide (4 < b)) rfl rfl rfl (ic_gt (p := b) (q := 4) (gb31 hb) (by decide)) (fun h => absurd (of_decide_eq_true h) (show ¬ 4 < b by omega)) (fun _ => ?_)
  refine x_iconst (pc' := 11) rfl rfl ?_
  refine x_goto (pc' := 15) rfl rfl ?_
  refine x_retz (z := true) rfl rfl ?_
  refine sK_i (pc' := 6) rfl ?_
  refine x_retz (z := true) rfl rfl ?_
  refine sK_i (pc' := 4) rfl ?_
  refine x_if (a' := 45) (pc' := 7) (z := false) rfl rfl rfl (by decide) (fun h => by cases h) (fun _ => ?_)
  refine x_iload_n (pc' := 8) rfl rfl rfl ?_
  refine x_iload_n (pc' := 9) rfl rfl rfl ?_
  refine x_cs (ls0 := [_, _]) (rest := []) rfl rfl rfl rfl ?_
  refine r150_g hb ?_
  refine sK_i (pc' := 12) rfl ?_
  refine x_ifeq_z (a' := 45) (pc' := 15) (z := (prB b p)) rfl rfl rfl (fun q4 => ?_) (fun q4 => ?_)
  · refine x_iconst (pc' := 46) rfl rfl ?_
    refine x_istore (pc' := 48) (ls' := [_, _, _, _, _, _, _, _, _, _, _, _, _, _, _]) rfl rfl rfl rfl ?_
    refine x_iload_n (pc' := 49) rfl rfl rfl ?_
    refine x_cs (ls0 := [_]) (rest := []) rfl rfl rfl rfl ?_
    refine x_iload_n (pc' := 1) rfl rfl rfl ?_
    refine x_iconst (pc' := 2) rfl rfl ?_
    refine x_iconst (pc' := 3) rfl rfl ?_
    refine x_cs (ls0 := [_, _, _]) (rest := []) rfl rfl rfl rfl ?_
    refine x_iload_n (pc' := 1) rfl rfl rfl ?_
    refine x_iload_n (pc' := 2) rfl rfl rfl ?_
    refine x_icmp (a' := 14) (pc' := 5) (z := decide (b < 0)) rfl rfl rfl (ic_lt (p := b) (q := 0) (gb31 hb) (by decide)) (fun h => absurd (of_decide_eq_true h) (by first | decide | omega | simp)) (fun _ => ?_)
    refine x_iload_n (pc' := 6) rfl rfl rfl ?_
    refine x_iload_n (pc' := 7) rfl rfl rfl ?_
    refine x_icmp (a' := 14) (pc' := 10) (z := decide (4 < b)) rfl rfl rfl (ic_gt (p := b) (q := 4) (gb31 hb) (by decide)) (fun h => absurd (of_decide_eq_true h) (show ¬ 4 < b by omega)) (fun _ => ?_)
    refine x_iconst (pc' := 11) rfl rfl ?_
    refine x_goto (pc' := 15) rfl rfl ?_
    refine x_retz (z := true) rfl rfl ?_
    refine sK_i (pc' := 6) rfl ?_
    refine x_retz (z := true) rfl rfl ?_
    refine sK_i (pc' := 52) rfl ?_
    refine x_if (a' := 78) (pc' := 55) (z := false) rfl rfl rfl (by decide) (fun h => by cases h) (fun _ => ?_)
    refine x_aload_n (pc' := 56) rfl rfl rfl rfl rfl ?_
    refine x_gR (pc' := 59) (r := (some 0)) rfl rfl rfl (kR_769_0 hc) ?_
    refine x_iload_n (pc' := 60) rfl rfl rfl ?_
    refine x_iald (pc' := 61) (N := 5) (x := (mA M 0 b)) rfl rfl rfl (kN_21_0 hc) (io_in (p := b) (N := 5) hb (by decide)) (Eq.trans (congrArg (sA t 21 0) (nn_io (p := b) (Nat.lt_trans hb (by decide)))) (gA hM rfl)) ?_
    refine x_if (a' := 78) (pc' := 64) (z := decide ((mA M 0 b) = 0)) rfl rfl rfl rfl (fun q8 => ?_) (fun q8 => ?_)
    · refine x_iconst (pc' := 79) rfl rfl ?_
      refine x_istore (pc' := 81) (ls' := [_, _, _, _, _, _, _, _, _, _, _, _, _, _, _]) rfl rfl rfl rfl ?_
      refine x_aload_n (pc' := 82) rfl rfl rfl rfl rfl ?_
      refine x_aload_n (pc' := 83) rfl rfl rfl rfl rfl ?_
      refine x_iload_n (pc' := 84) rfl rfl rfl ?_
      refine x_iload_n (pc' := 85) rfl rfl rfl ?_
      refine x_iload (pc' := 87) rfl rfl rfl ?_
      refine x_iload (pc' := 89) rfl rfl rfl ?_
      refine x_cv (ls0 := [_, _, _, _, _, sJk]) (rest := [_]) rfl rfl rfl rfl rfl ?_
      refine x_iload_n (pc' := 1) rfl rfl rfl ?_
      refine x_cs (ls0 := [_]) (rest := []) rfl rfl rfl rfl ?_
      refine x_iload_n (pc' := 1) rfl rfl rfl ?_
      refine x_iconst (pc' := 2) rfl rfl ?_
      refine x_iconst (pc' := 3) rfl rfl ?_
      refine x_cs (ls0 := [_, _, _]) (rest := []) rfl rfl rfl rfl ?_
      refine r145_xg (ixo_c6 hp) ?_
      refine sK_i (pc' := 6) rfl ?_
      refine x_retz (z := false) rfl rfl ?_
      refine sK_i (pc' := 4) rfl ?_
      refine x_if (a' := 18) (pc' := 7) (z := true) rfl rfl rfl (by decide) (fun _ => ?_) (fun h => by cases h)
      refine x_iconst (pc' := 19) rfl rfl ?_
      refine x_istore (pc' := 21) (ls' := [_, _, _, _, _, _]) rfl rfl rfl rfl ?_
      refine x_iload (pc' := 23) rfl rfl rfl ?_
      refine x_if (a' := 30) (pc' := 26) (z := false) rfl rfl rfl (by decide) (fun h => by cases h) (fun _ => ?_)
      refine x_iconst (pc' := 27) rfl rfl ?_
      refine x_goto (pc' := 57) rfl rfl ?_
      refine x_reti rfl rfl ?_
      refine sK_i (pc' := 92) rfl ?_
      refine x_cv (ls0 := [_, _]) (rest := []) rfl rfl rfl rfl rfl ?_
      refine x_aload_n (pc' := 1) rfl rfl rfl rfl rfl ?_
      refine x_iload_n (pc' := 2) rfl rfl rfl ?_
      refine x_pI (pc' := 5) rfl rfl rfl ?_
      refine x_iload_n (pc' := 6) rfl rfl rfl ?_
      refine x_if (a' := 13) (pc' := 9) (z := true) rfl rfl rfl (by decide) (fun _ => ?_) (fun h => by cases h)
      refine x_iconst (pc' := 14) rfl rfl ?_
      refine x_retz (z := false) rfl rfl ?_
      refine sK_i (pc' := 95) rfl ?_
      refine x_if (a' := 100) (pc' := 98) (z := false) rfl rfl rfl (by decide) (fun h => by cases h) (fun _ => ?_)
      refine x_iconst (pc' := 99) rfl rfl ?_
      refine x_reti rfl rfl ?_
      exact k0 q4 (of_decide_eq_true q8)
    · refine x_aload_n (pc' := 65) rfl rfl rfl rfl rfl ?_
      refine x_gI (pc' := 68) (x := (io n)) rfl rfl rfl (gFn hM (Fr.refl _) hR) ?_
      refine x_sipush (pc' := 71) rfl rfl ?_
      refine x_icmp (a' := 78) (pc' := 74) (z := decide (198 < n)) rfl rfl rfl (ic_gt (p := n) (q := 198) (gn31 hR) (by decide)) (fun q13 => ?_) (fun q13 => ?_)
      · refine x_iconst (pc' := 79) rfl rfl ?_
        refine x_istore (pc' := 81) (ls' := [_, _, _, _, _, _, _, _, _, _, _, _, _, _, _]) rfl rfl rfl rfl ?_
        refine x_aload_n (pc' := 82) rfl rfl rfl rfl rfl ?_
        refine x_aload_n (pc' := 83) rfl rfl rfl rfl rfl ?_
        refine x_iload_n (pc' := 84) rfl rfl rfl ?_
        refine x_iload_n (pc' := 85) rfl rfl rfl ?_
        refine x_iload (pc' := 87) rfl rfl rfl ?_
        refine x_iload (pc' := 89) rfl rfl rfl ?_
        refine x_cv (ls0 := [_, _, _, _, _, sJk]) (rest := [_]) rfl rfl rfl rfl rfl ?_
        refine x_iload_n (pc' := 1) rfl rfl rfl ?_
        refine x_cs (ls0 := [_]) (rest := []) rfl rfl rfl rfl ?_
        refine x_iload_n (pc' := 1) rfl rfl rfl ?_
        refine x_iconst (pc' := 2) rfl rfl ?_
        refine x_iconst (pc' := 3) rfl rfl ?_
        refine x_cs (ls0 := [_, _, _]) (rest := []) rfl rfl rfl rfl ?_
        refine r145_xg (ixo_c6 hp) ?_
        refine sK_i (pc' := 6) rfl ?_
        refine x_retz (z := false) rfl rfl ?_
        refine sK_i (pc' := 4) rfl ?_
        refine x_if (a' := 18) (pc' := 7) (z := true) rfl rfl rfl (by decide) (fun _ => ?_) (fun h => by cases h)
        refine x_iconst (pc' := 19) rfl rfl ?_
        refine x_istore (pc' := 21) (ls' := [_, _, _, _, _, _]) rfl rfl rfl rfl ?_
        refine x_iload (pc' := 23) rfl rfl rfl ?_
        refine x_if (a' := 30) (pc' := 26) (z := false) rfl rfl rfl (by decide) (fun h => by cases h) (fun _ => ?_)
        refine x_iconst (pc' := 27) rfl rfl ?_
        refine x_goto (pc' := 57) rfl rfl ?_
        refine x_reti rfl rfl ?_
        refine sK_i (pc' := 92) rfl ?_
        refine x_cv (ls0 := [_, _]) (rest := []) rfl rfl rfl rfl rfl ?_
        refine x_aload_n (pc' := 1) rfl rfl rfl rfl rfl ?_
        refine x_iload_n (pc' := 2) rfl rfl rfl ?_
        refine x_pI (pc' := 5) rfl rfl rfl ?_
        refine x_iload_n (pc' := 6) rfl rfl rfl ?_
        refine x_if (a' := 13) (pc' := 9) (z := true) rfl rfl rfl (by decide) (fun _ => ?_) (fun h => by cases h)
        refine x_iconst (pc' := 14) rfl rfl ?_
        refine x_retz (z := false) rfl rfl ?_
        refine sK_i (pc' := 95) rfl ?_
        refine x_if (a' := 100) (pc' := 98) (z := false) rfl rfl rfl (by decide) (fun h => by cases h) (fun _ => ?_)
        refine x_iconst (pc' := 99) rfl rfl ?_
        refine x_reti rfl rfl ?_
        exact k1 q4 (of_decide_eq_false q8) (of_decide_eq_true q13)
      · refine x_iconst (pc' := 75) rfl rfl ?_
        refine x_goto (pc' := 79) rfl rfl ?_
        refine x_istore (pc' := 81) (ls' := [_, _, _, _, _, _, _, _, _, _, _, _, _, _, _]) rfl rfl rfl rfl ?_
        refine x_aload_n (pc' := 82) rfl rfl rfl rfl rfl ?_
        refine x_aload_n (pc' := 83) rfl rfl rfl rfl rfl ?_
        refine x_iload_n (pc' := 84) rfl rfl rfl ?_
        refine x_iload_n (pc' := 85) rfl rfl rfl ?_
        refine x_iload (pc' := 87) rfl rfl rfl ?_
        refine x_iload (pc' := 89) rfl rfl rfl ?_
        refine x_cv (ls0 := [_, _, _, _, _, sJk]) (rest := [_]) rfl rfl rfl rfl rfl ?_
        refine x_iload_n (pc' := 1) rfl rfl rfl ?_
        refine x_cs (ls0 := [_]) (rest := []) rfl rfl rfl rfl ?_
        refine x_iload_n (pc' := 1) rfl rfl rfl ?_
        refine x_iconst (pc' := 2) rfl rfl ?_
        refine x_iconst (pc' := 3) rfl rfl ?_
        refine x_cs (ls0 := [_, _, _]) (rest := []) rfl rfl rfl rfl ?_
        refine r145_xg (ixo_c6 hp) ?_
        refine sK_i (pc' := 6) rfl ?_
        refine x_retz (z := false) rfl rfl ?_
        refine sK_i (pc' := 4) rfl ?_
        refine x_if (a' := 18) (pc' := 7) (z := true) rfl rfl rfl (by decide) (fun _ => ?_) (fun h => by cases h)
        refine x_iconst (pc' := 19) rfl rfl ?_
        refine x_istore (pc' := 21) (ls' := [_, _, _, _, _, _]) rfl rfl rfl rfl ?_
        refine x_iload (pc' := 23) rfl rfl rfl ?_
        refine x_if (a' := 30) (pc' := 26) (z := false) rfl rfl rfl (by decide) (fun h => by cases h) (fun _ => ?_)
        refine x_iconst (pc' := 27) rfl rfl ?_
        refine x_goto (pc' := 57) rfl rfl ?_
        refine x_reti rfl rfl ?_
        refine sK_i (pc' := 92) rfl ?_
        refine x_cv (ls0 := [_, _]) (rest := []) rfl rfl rfl rfl rfl ?_
        refine x_aload_n (pc' := 1) rfl rfl rfl rfl rfl ?_
        refine x_iload_n (pc' := 2) rfl rfl rfl ?_
        refine x_pI (pc' := 5) rfl rfl rfl ?_
        refine x_iload_n (pc' := 6) rfl rfl rfl ?_
        refine x_if (a' := 13) (pc' := 9) (z := true) rfl rfl rfl (by decide) (fun _ => ?_) (fun h => by cases h)
        refine x_iconst (pc' := 14) rfl rfl ?_
        refine x_retz (z := false) rfl rfl ?_
        refine sK_i (pc' := 95) rfl ?_
        refine x_if (a' := 100) (pc' := 98) (z := false) rfl rfl rfl (by decide) (fun h => by cases h) (fun _ => ?_)
        refine x_iconst (pc' := 99) rfl rfl ?_
        refine x_reti rfl rfl ?_
        exact k2 q4 (of_decide_eq_false q8) (of_decide_eq_false q13)
  · refine x_iload_n (pc' := 16) rfl rfl rfl ?_
    refine x_iload (pc' := 18) rfl rfl rfl ?_
    refine x_cs (ls0 := [_, _]) (rest := []) rfl rfl rfl rfl ?_
    refine r150_g hb ?_
    refine sK_i (pc' := 21) rfl ?_
    refine x_ifeq_z (a' := 45) (pc' := 24) (z := (prB b u)) rfl rfl rfl (fun q22 => ?_) (fun q22 => ?_)
    · refine x_iconst (pc' := 46) rfl rfl ?_
      refine x_istore (pc' := 48) (ls' := [_, _, _, _, _, _, _, _, _, _, _, _, _, _, _]) rfl rfl rfl rfl ?_
      refine x_iload_n (pc' := 49) rfl rfl rfl ?_
      refine x_cs (ls0 := [_]) (rest := []) rfl rfl rfl rfl ?_
      refine x_iload_n (pc' := 1) rfl rfl rfl ?_
      refine x_iconst (pc' := 2) rfl rfl ?_
      refine x_iconst (pc' := 3) rfl rfl ?_
      refine x_cs (ls0 := [_, _, _]) (rest := []) rfl rfl rfl rfl ?_
      refine x_iload_n (pc' := 1) rfl rfl rfl ?_
      refine x_iload_n (pc' := 2) rfl rfl rfl ?_
      refine x_icmp (a' := 14) (pc' := 5) (z := decide (b < 0)) rfl rfl rfl (ic_lt (p := b) (q := 0) (gb31 hb) (by decide)) (fun h => absurd (of_decide_eq_true h) (by first | decide | omega | simp)) (fun _ => ?_)
      refine x_iload_n (pc' := 6) rfl rfl rfl ?_
      refine x_iload_n (pc' := 7) rfl rfl rfl ?_
      refine x_icmp (a' := 14) (pc' := 10) (z := decide (4 < b)) rfl rfl rfl (ic_gt (p := b) (q := 4) (gb31 hb) (by decide)) (fun h => absurd (of_decide_eq_true h) (show ¬ 4 < b by omega)) (fun _ => ?_)
      refine x_iconst (pc' := 11) rfl rfl ?_
      refine x_goto (pc' := 15) rfl rfl ?_
      refine x_retz (z := true) rfl rfl ?_
      refine sK_i (pc' := 6) rfl ?_
      refine x_retz (z := true) rfl rfl ?_
      refine sK_i (pc' := 52) rfl ?_
      refine x_if (a' := 78) (pc' := 55) (z := false) rfl rfl rfl (by decide) (fun h => by cases h) (fun _ => ?_)
      refine x_aload_n (pc' := 56) rfl rfl rfl rfl rfl ?_
      refine x_gR (pc' := 59) (r := (some 0)) rfl rfl rfl (kR_769_0 hc) ?_
      refine x_iload_n (pc' := 60) rfl rfl rfl ?_
      refine x_iald (pc' := 61) (N := 5) (x := (mA M 0 b)) rfl rfl rfl (kN_21_0 hc) (io_in (p := b) (N := 5) hb (by decide)) (Eq.trans (congrArg (sA t 21 0) (nn_io (p := b) (Nat.lt_trans hb (by decide)))) (gA hM rfl)) ?_
      refine x_if (a' := 78) (pc' := 64) (z := decide ((mA M 0 b) = 0)) rfl rfl rfl rfl (fun q26 => ?_) (fun q26 => ?_)
      · refine x_iconst (pc' := 79) rfl rfl ?_
        refine x_istore (pc' := 81) (ls' := [_, _, _, _, _, _, _, _, _, _, _, _, _, _, _]) rfl rfl rfl rfl ?_
        refine x_aload_n (pc' := 82) rfl rfl rfl rfl rfl ?_
        refine x_aload_n (pc' := 83) rfl rfl rfl rfl rfl ?_
        refine x_iload_n (pc' := 84) rfl rfl rfl ?_
        refine x_iload_n (pc' := 85) rfl rfl rfl ?_
        refine x_iload (pc' := 87) rfl rfl rfl ?_
        refine x_iload (pc' := 89) rfl rfl rfl ?_
        refine x_cv (ls0 := [_, _, _, _, _, sJk]) (rest := [_]) rfl rfl rfl rfl rfl ?_
        refine x_iload_n (pc' := 1) rfl rfl rfl ?_
        refine x_cs (ls0 := [_]) (rest := []) rfl rfl rfl rfl ?_
        refine x_iload_n (pc' := 1) rfl rfl rfl ?_
        refine x_iconst (pc' := 2) rfl rfl ?_
        refine x_iconst (pc' := 3) rfl rfl ?_
        refine x_cs (ls0 := [_, _, _]) (rest := []) rfl rfl rfl rfl ?_
        refine r145_xg (ixo_c6 hp) ?_
        refine sK_i (pc' := 6) rfl ?_
        refine x_retz (z := false) rfl rfl ?_
        refine sK_i (pc' := 4) rfl ?_
        refine x_if (a' := 18) (pc' := 7) (z := true) rfl rfl rfl (by decide) (fun _ => ?_) (fun h => by cases h)
        refine x_iconst (pc' := 19) rfl rfl ?_
        refine x_istore (pc' := 21) (ls' := [_, _, _, _, _, _]) rfl rfl rfl rfl ?_
        refine x_iload (pc' := 23) rfl rfl rfl ?_
        refine x_if (a' := 30) (pc' := 26) (z := false) rfl rfl rfl (by decide) (fun h => by cases h) (fun _ => ?_)
        refine x_iconst (pc' := 27) rfl rfl ?_
        refine x_goto (pc' := 57) rfl rfl ?_
        refine x_reti rfl rfl ?_
        refine sK_i (pc' := 92) rfl ?_
        refine x_cv (ls0 := [_, _]) (rest := []) rfl rfl rfl rfl rfl ?_
        refine x_aload_n (pc' := 1) rfl rfl rfl rfl rfl ?_
        refine x_iload_n (pc' := 2) rfl rfl rfl ?_
        refine x_pI (pc' := 5) rfl rfl rfl ?_
        refine x_iload_n (pc' := 6) rfl rfl rfl ?_
        refine x_if (a' := 13) (pc' := 9) (z := true) rfl rfl rfl (by decide) (fun _ => ?_) (fun h => by cases h)
        refine x_iconst (pc' := 14) rfl rfl ?_
        refine x_retz (z := false) rfl rfl ?_
        refine sK_i (pc' := 95) rfl ?_
        refine x_if (a' := 100) (pc' := 98) (z := false) rfl rfl rfl (by decide) (fun h => by cases h) (fun _ => ?_)
        refine x_iconst (pc' := 99) rfl rfl ?_
        refine x_reti rfl rfl ?_
        exact k3 q4 q22 (of_decide_eq_true q26)
      · refine x_aload_n (pc' := 65) rfl rfl rfl rfl rfl ?_
        refine x_gI (pc' := 68) (x := (io n)) rfl rfl rfl (gFn hM (Fr.refl _) hR) ?_
        refine x_sipush (pc' := 71) rfl rfl ?_
        refine x_icmp (a' := 78) (pc' := 74) (z := decide (198 < n)) rfl rfl rfl (ic_gt (p := n) (q := 198) (gn31 hR) (by decide)) (fun q31 => ?_) (fun q31 => ?_)
        · refine x_iconst (pc' := 79) rfl rfl ?_
          refine x_istore (pc' := 81) (ls' := [_, _, _, _, _, _, _, _, _, _, _, _, _, _, _]) rfl rfl rfl rfl ?_
          refine x_aload_n (pc' := 82) rfl rfl rfl rfl rfl ?_
          refine x_aload_n (pc' := 83) rfl rfl rfl rfl rfl ?_
          refine x_iload_n (pc' := 84) rfl rfl rfl ?_
          refine x_iload_n (pc' := 85) rfl rfl rfl ?_
          refine x_iload (pc' := 87) rfl rfl rfl ?_
          refine x_iload (pc' := 89) rfl rfl rfl ?_
          refine x_cv (ls0 := [_, _, _, _, _, sJk]) (rest := [_]) rfl rfl rfl rfl rfl ?_
          refine x_iload_n (pc' := 1) rfl rfl rfl ?_
          refine x_cs (ls0 := [_]) (rest := []) rfl rfl rfl rfl ?_
          refine x_iload_n (pc' := 1) rfl rfl rfl ?_
          refine x_iconst (pc' := 2) rfl rfl ?_
          refine x_iconst (pc' := 3) rfl rfl ?_
          refine x_cs (ls0 := [_, _, _]) (rest := []) rfl rfl rfl rfl ?_
          refine r145_xg (ixo_c6 hp) ?_
          refine sK_i (pc' := 6) rfl ?_
          refine x_retz (z := false) rfl rfl ?_
          refine sK_i (pc' := 4) rfl ?_
          refine x_if (a' := 18) (pc' := 7) (z := true) rfl rfl rfl (by decide) (fun _ => ?_) (fun h => by cases h)
          refine x_iconst (pc' := 19) rfl rfl ?_
          refine x_istore (pc' := 21) (ls' := [_, _, _, _, _, _]) rfl rfl rfl rfl ?_
          refine x_iload (pc' := 23) rfl rfl rfl ?_
          refine x_if (a' := 30) (pc' := 26) (z := false) rfl rfl rfl (by decide) (fun h => by cases h) (fun _ => ?_)
          refine x_iconst (pc' := 27) rfl rfl ?_
          refine x_goto (pc' := 57) rfl rfl ?_
          refine x_reti rfl rfl ?_
          refine sK_i (pc' := 92) rfl ?_
          refine x_cv (ls0 := [_, _]) (rest := []) rfl rfl rfl rfl rfl ?_
          refine x_aload_n (pc' := 1) rfl rfl rfl rfl rfl ?_
          refine x_iload_n (pc' := 2) rfl rfl rfl ?_
          refine x_pI (pc' := 5) rfl rfl rfl ?_
          refine x_iload_n (pc' := 6) rfl rfl rfl ?_
          refine x_if (a' := 13) (pc' := 9) (z := true) rfl rfl rfl (by decide) (fun _ => ?_) (fun h => by cases h)
          refine x_iconst (pc' := 14) rfl rfl ?_
          refine x_retz (z := false) rfl rfl ?_
          refine sK_i (pc' := 95) rfl ?_
          refine x_if (a' := 100) (pc' := 98) (z := false) rfl rfl rfl (by decide) (fun h => by cases h) (fun _ => ?_)
          refine x_iconst (pc' := 99) rfl rfl ?_
          refine x_reti rfl rfl ?_
          exact k4 q4 q22 (of_decide_eq_false q26) (of_decide_eq_true q31)
        · refine x_iconst (pc' := 75) rfl rfl ?_
          refine x_goto (pc' := 79) rfl rfl ?_
          refine x_istore (pc' := 81) (ls' := [_, _, _, _, _, _, _, _, _, _, _, _, _, _, _]) rfl rfl rfl rfl ?_
          refine x_aload_n (pc' := 82) rfl rfl rfl rfl rfl ?_
          refine x_aload_n (pc' := 83) rfl rfl rfl rfl rfl ?_
          refine x_iload_n (pc' := 84) rfl rfl rfl ?_
          refine x_iload_n (pc' := 85) rfl rfl rfl ?_
          refine x_iload (pc' := 87) rfl rfl rfl ?_
          refine x_iload (pc' := 89) rfl rfl rfl ?_
          refine x_cv (ls0 := [_, _, _, _, _, sJk]) (rest := [_]) rfl rfl rfl rfl rfl ?_
          refine x_iload_n (pc' := 1) rfl rfl rfl ?_
          refine x_cs (ls0 := [_]) (rest := []) rfl rfl rfl rfl ?_
          refine x_iload_n (pc' := 1) rfl rfl rfl ?_
          refine x_iconst (pc' := 2) rfl rfl ?_
          refine x_iconst (pc' := 3) rfl rfl ?_
          refine x_cs (ls0 := [_, _, _]) (rest := []) rfl rfl rfl rfl ?_
          refine r145_xg (ixo_c6 hp) ?_
          refine sK_i (pc' := 6) rfl ?_
          refine x_retz (z := false) rfl rfl ?_
          refine sK_i (pc' := 4) rfl ?_
          refine x_if (a' := 18) (pc' := 7) (z := true) rfl rfl rfl (by decide) (fun _ => ?_) (fun h => by cases h)
          refine x_iconst (pc' := 19) rfl rfl ?_
          refine x_istore (pc' := 21) (ls' := [_, _, _, _, _, _]) rfl rfl rfl rfl ?_
          refine x_iload (pc' := 23) rfl rfl rfl ?_
          refine x_if (a' := 30) (pc' := 26) (z := false) rfl rfl rfl (by decide) (fun h => by cases h) (fun _ => ?_)
          refine x_iconst (pc' := 27) rfl rfl ?_
          refine x_goto (pc' := 57) rfl rfl ?_
          refine x_reti rfl rfl ?_
          refine sK_i (pc' := 92) rfl ?_
          refine x_cv (ls0 := [_, _]) (rest := []) rfl rfl rfl rfl rfl ?_
          refine x_aload_n (pc' := 1) rfl rfl rfl rfl rfl ?_
          refine x_iload_n (pc' := 2) rfl rfl rfl ?_
          refine x_pI (pc' := 5) rfl rfl rfl ?_
          refine x_iload_n (pc' := 6) rfl rfl rfl ?_
          refine x_if (a' := 13) (pc' := 9) (z := true) rfl rfl rfl (by decide) (fun _ => ?_) (fun h => by cases h)
          refine x_iconst (pc' := 14) rfl rfl ?_
          refine x_retz (z := false) rfl rfl ?_
          refine sK_i (pc' := 95) rfl ?_
          refine x_if (a' := 100) (pc' := 98) (z := false) rfl rfl rfl (by decide) (fun h => by cases h) (fun _ => ?_)
          refine x_iconst (pc' := 99) rfl rfl ?_
          refine x_reti rfl rfl ?_
          exact k5 q4 q22 (of_decide_eq_false q26) (of_decide_eq_false q31)
    · refine x_iload (pc' := 26) rfl rfl rfl ?_
      refine x_iload_n (pc' := 27) rfl rfl rfl ?_
      refine x_icmp_n (a' := 45) (pc' := 30) (z := decide (p < u)) rfl rfl rfl (ik_le _ _) (fun q40 => ?_) (fun q40 => ?_)
      · refine x_iconst (pc' := 46) rfl rfl ?_
        refine x_istore (pc' := 48) (ls' := [_, _, _, _, _, _, _, _, _, _, _, _, _, _, _]) rfl rfl rfl rfl ?_
        refine x_iload_n (pc' := 49) rfl rfl rfl ?_
        refine x_cs (ls0 := [_]) (rest := []) rfl rfl rfl rfl ?_
        refine x_iload_n (pc' := 1) rfl rfl rfl ?_
        refine x_iconst (pc' := 2) rfl rfl ?_
        refine x_iconst (pc' := 3) rfl rfl ?_
        refine x_cs (ls0 := [_, _, _]) (rest := []) rfl rfl rfl rfl ?_
        refine x_iload_n (pc' := 1) rfl rfl rfl ?_
        refine x_iload_n (pc' := 2) rfl rfl rfl ?_
        refine x_icmp (a' := 14) (pc' := 5) (z := decide (b < 0)) rfl rfl rfl (ic_lt (p := b) (q := 0) (gb31 hb) (by decide)) (fun h => absurd (of_decide_eq_true h) (by first | decide | omega | simp)) (fun _ => ?_)
        refine x_iload_n (pc' := 6) rfl rfl rfl ?_
        refine x_iload_n (pc' := 7) rfl rfl rfl ?_
        refine x_icmp (a' := 14) (pc' := 10) (z := decide (4 < b)) rfl rfl rfl (ic_gt (p := b) (q := 4) (gb31 hb) (by decide)) (fun h => absurd (of_decide_eq_true h) (show ¬ 4 < b by omega)) (fun _ => ?_)
        refine x_iconst (pc' := 11) rfl rfl ?_
        refine x_goto (pc' := 15) rfl rfl ?_
        refine x_retz (z := true) rfl rfl ?_
        refine sK_i (pc' := 6) rfl ?_
        refine x_retz (z := true) rfl rfl ?_
        refine sK_i (pc' := 52) rfl ?_
        refine x_if (a' := 78) (pc' := 55) (z := false) rfl rfl rfl (by decide) (fun h => by cases h) (fun _ => ?_)
        refine x_aload_n (pc' := 56) rfl rfl rfl rfl rfl ?_
        refine x_gR (pc' := 59) (r := (some 0)) rfl rfl rfl (kR_769_0 hc) ?_
        refine x_iload_n (pc' := 60) rfl rfl rfl ?_
        refine x_iald (pc' := 61) (N := 5) (x := (mA M 0 b)) rfl rfl rfl (kN_21_0 hc) (io_in (p := b) (N := 5) hb (by decide)) (Eq.trans (congrArg (sA t 21 0) (nn_io (p := b) (Nat.lt_trans hb (by decide)))) (gA hM rfl)) ?_
        refine x_if (a' := 78) (pc' := 64) (z := decide ((mA M 0 b) = 0)) rfl rfl rfl rfl (fun q44 => ?_) (fun q44 => ?_)
        · refine x_iconst (pc' := 79) rfl rfl ?_
          refine x_istore (pc' := 81) (ls' := [_, _, _, _, _, _, _, _, _, _, _, _, _, _, _]) rfl rfl rfl rfl ?_
          refine x_aload_n (pc' := 82) rfl rfl rfl rfl rfl ?_
          refine x_aload_n (pc' := 83) rfl rfl rfl rfl rfl ?_
          refine x_iload_n (pc' := 84) rfl rfl rfl ?_
          refine x_iload_n (pc' := 85) rfl rfl rfl ?_
          refine x_iload (pc' := 87) rfl rfl rfl ?_
          refine x_iload (pc' := 89) rfl rfl rfl ?_
          refine x_cv (ls0 := [_, _, _, _, _, sJk]) (rest := [_]) rfl rfl rfl rfl rfl ?_
          refine x_iload_n (pc' := 1) rfl rfl rfl ?_
          refine x_cs (ls0 := [_]) (rest := []) rfl rfl rfl rfl ?_
          refine x_iload_n (pc' := 1) rfl rfl rfl ?_
          refine x_iconst (pc' := 2) rfl rfl ?_
          refine x_iconst (pc' := 3) rfl rfl ?_
          refine x_cs (ls0 := [_, _, _]) (rest := []) rfl rfl rfl rfl ?_
          refine r145_xg (ixo_c6 hp) ?_
          refine sK_i (pc' := 6) rfl ?_
          refine x_retz (z := false) rfl rfl ?_
          refine sK_i (pc' := 4) rfl ?_
          refine x_if (a' := 18) (pc' := 7) (z := true) rfl rfl rfl (by decide) (fun _ => ?_) (fun h => by cases h)
          refine x_iconst (pc' := 19) rfl rfl ?_
          refine x_istore (pc' := 21) (ls' := [_, _, _, _, _, _]) rfl rfl rfl rfl ?_
          refine x_iload (pc' := 23) rfl rfl rfl ?_
          refine x_if (a' := 30) (pc' := 26) (z := false) rfl rfl rfl (by decide) (fun h => by cases h) (fun _ => ?_)
          refine x_iconst (pc' := 27) rfl rfl ?_
          refine x_goto (pc' := 57) rfl rfl ?_
          refine x_reti rfl rfl ?_
          refine sK_i (pc' := 92) rfl ?_
          refine x_cv (ls0 := [_, _]) (rest := []) rfl rfl rfl rfl rfl ?_
          refine x_aload_n (pc' := 1) rfl rfl rfl rfl rfl ?_
          refine x_iload_n (pc' := 2) rfl rfl rfl ?_
          refine x_pI (pc' := 5) rfl rfl rfl ?_
          refine x_iload_n (pc' := 6) rfl rfl rfl ?_
          refine x_if (a' := 13) (pc' := 9) (z := true) rfl rfl rfl (by decide) (fun _ => ?_) (fun h => by cases h)
          refine x_iconst (pc' := 14) rfl rfl ?_
          refine x_retz (z := false) rfl rfl ?_
          refine sK_i (pc' := 95) rfl ?_
          refine x_if (a' := 100) (pc' := 98) (z := false) rfl rfl rfl (by decide) (fun h => by cases h) (fun _ => ?_)
          refine x_iconst (pc' := 99) rfl rfl ?_
          refine x_reti rfl rfl ?_
          exact k6 q4 q22 (of_decide_eq_false q40) (of_decide_eq_true q44)
        · refine x_aload_n (pc' := 65) rfl rfl rfl rfl rfl ?_
          refine x_gI (pc' := 68) (x := (io n)) rfl rfl rfl (gFn hM (Fr.refl _) hR) ?_
          refine x_sipush (pc' := 71) rfl rfl ?_
          refine x_icmp (a' := 78) (pc' := 74) (z := decide (198 < n)) rfl rfl rfl (ic_gt (p := n) (q := 198) (gn31 hR) (by decide)) (fun q49 => ?_) (fun q49 => ?_)
          · refine x_iconst (pc' := 79) rfl rfl ?_
            refine x_istore (pc' := 81) (ls' := [_, _, _, _, _, _, _, _, _, _, _, _, _, _, _]) rfl rfl rfl rfl ?_
            refine x_aload_n (pc' := 82) rfl rfl rfl rfl rfl ?_
            refine x_aload_n (pc' := 83) rfl rfl rfl rfl rfl ?_
            refine x_iload_n (pc' := 84) rfl rfl rfl ?_
            refine x_iload_n (pc' := 85) rfl rfl rfl ?_
            refine x_iload (pc' := 87) rfl rfl rfl ?_
            refine x_iload (pc' := 89) rfl rfl rfl ?_
            refine x_cv (ls0 := [_, _, _, _, _, sJk]) (rest := [_]) rfl rfl rfl rfl rfl ?_
            refine x_iload_n (pc' := 1) rfl rfl rfl ?_
            refine x_cs (ls0 := [_]) (rest := []) rfl rfl rfl rfl ?_
            refine x_iload_n (pc' := 1) rfl rfl rfl ?_
            refine x_iconst (pc' := 2) rfl rfl ?_
            refine x_iconst (pc' := 3) rfl rfl ?_
            refine x_cs (ls0 := [_, _, _]) (rest := []) rfl rfl rfl rfl ?_
            refine r145_xg (ixo_c6 hp) ?_
            refine sK_i (pc' := 6) rfl ?_
            refine x_retz (z := false) rfl rfl ?_
            refine sK_i (pc' := 4) rfl ?_
            refine x_if (a' := 18) (pc' := 7) (z := true) rfl rfl rfl (by decide) (fun _ => ?_) (fun h => by cases h)
            refine x_iconst (pc' := 19) rfl rfl ?_
            refine x_istore (pc' := 21) (ls' := [_, _, _, _, _, _]) rfl rfl rfl rfl ?_
            refine x_iload (pc' := 23) rfl rfl rfl ?_
            refine x_if (a' := 30) (pc' := 26) (z := false) rfl rfl rfl (by decide) (fun h => by cases h) (fun _ => ?_)
            refine x_iconst (pc' := 27) rfl rfl ?_
            refine x_goto (pc' := 57) rfl rfl ?_
            refine x_reti rfl rfl ?_
            refine sK_i (pc' := 92) rfl ?_
            refine x_cv (ls0 := [_, _]) (rest := []) rfl rfl rfl rfl rfl ?_
            refine x_aload_n (pc' := 1) rfl rfl rfl rfl rfl ?_
            refine x_iload_n (pc' := 2) rfl rfl rfl ?_
            refine x_pI (pc' := 5) rfl rfl rfl ?_
            refine x_iload_n (pc' := 6) rfl rfl rfl ?_
            refine x_if (a' := 13) (pc' := 9) (z := true) rfl rfl rfl (by decide) (fun _ => ?_) (fun h => by cases h)
            refine x_iconst (pc' := 14) rfl rfl ?_
            refine x_retz (z := false) rfl rfl ?_
            refine sK_i (pc' := 95) rfl ?_
            refine x_if (a' := 100) (pc' := 98) (z := false) rfl rfl rfl (by decide) (fun h => by cases h) (fun _ => ?_)
            refine x_iconst (pc' := 99) rfl rfl ?_
            refine x_reti rfl rfl ?_
            exact k7 q4 q22 (of_decide_eq_false q40) (of_decide_eq_false q44) (of_decide_eq_true q49)
          · refine x_iconst (pc' := 75) rfl rfl ?_
            refine x_goto (pc' := 79) rfl rfl ?_
            refine x_istore (pc' := 81) (ls' := [_, _, _, _, _, _, _, _, _, _, _, _, _, _, _]) rfl rfl rfl rfl ?_
            refine x_aload_n (pc' := 82) rfl rfl rfl rfl rfl ?_
            refine x_aload_n (pc' := 83) rfl rfl rfl rfl rfl ?_
            refine x_iload_n (pc' := 84) rfl rfl rfl ?_
            refine x_iload_n (pc' := 85) rfl rfl rfl ?_
            refine x_iload (pc' := 87) rfl rfl rfl ?_
            refine x_iload (pc' := 89) rfl rfl rfl ?_
            refine x_cv (ls0 := [_, _, _, _, _, sJk]) (rest := [_]) rfl rfl rfl rfl rfl ?_
            refine x_iload_n (pc' := 1) rfl rfl rfl ?_
            refine x_cs (ls0 := [_]) (rest := []) rfl rfl rfl rfl ?_
            refine x_iload_n (pc' := 1) rfl rfl rfl ?_
            refine x_iconst (pc' := 2) rfl rfl ?_
            refine x_iconst (pc' := 3) rfl rfl ?_
            refine x_cs (ls0 := [_, _, _]) (rest := []) rfl rfl rfl rfl ?_
            refine r145_xg (ixo_c6 hp) ?_
            refine sK_i (pc' := 6) rfl ?_
            refine x_retz (z := false) rfl rfl ?_
            refine sK_i (pc' := 4) rfl ?_
            refine x_if (a' := 18) (pc' := 7) (z := true) rfl rfl rfl (by decide) (fun _ => ?_) (fun h => by cases h)
            refine x_iconst (pc' := 19) rfl rfl ?_
            refine x_istore (pc' := 21) (ls' := [_, _, _, _, _, _]) rfl rfl rfl rfl ?_
            refine x_iload (pc' := 23) rfl rfl rfl ?_
            refine x_if (a' := 30) (pc' := 26) (z := false) rfl rfl rfl (by decide) (fun h => by cases h) (fun _ => ?_)
            refine x_iconst (pc' := 27) rfl rfl ?_
            refine x_goto (pc' := 57) rfl rfl ?_
            refine x_reti rfl rfl ?_
            refine sK_i (pc' := 92) rfl ?_
            refine x_cv (ls0 := [_, _]) (rest := []) rfl rfl rfl rfl rfl ?_
            refine x_aload_n (pc' := 1) rfl rfl rfl rfl rfl ?_
            refine x_iload_n (pc' := 2) rfl rfl rfl ?_
            refine x_pI (pc' := 5) rfl rfl rfl ?_
            refine x_iload_n (pc' := 6) rfl rfl rfl ?_
            refine x_if (a' := 13) (pc' := 9) (z := true) rfl rfl rfl (by decide) (fun _ => ?_) (fun h => by cases h)
            refine x_iconst (pc' := 14) rfl rfl ?_
            refine x_retz (z := false) rfl rfl ?_
            refine sK_i (pc' := 95) rfl ?_
            refine x_if (a' := 100) (pc' := 98) (z := false) rfl rfl rfl (by decide) (fun h => by cases h) (fun _ => ?_)
            refine x_iconst (pc' := 99) rfl rfl ?_
            refine x_reti rfl rfl ?_
            exact k8 q4 q22 (of_decide_eq_false q40) (of_decide_eq_false q44) (of_decide_eq_false q49)
      · refine x_iload (pc' := 32) rfl rfl rfl ?_
        refine x_iconst (pc' := 33) rfl rfl ?_
        refine x_bipush (pc' := 35) rfl rfl ?_
        refine x_cs (ls0 := [_, _, _]) (rest := []) rfl rfl rfl rfl ?_
        refine r145_g ?_
        refine sK_i (pc' := 38) rfl ?_
        refine x_ifeq_z (a' := 45) (pc' := 41) (z := (inB a 1 100)) rfl rfl rfl (fun q58 => ?_) (fun q58 => ?_)
        · refine x_iconst (pc' := 46) rfl rfl ?_
          refine x_istore (pc' := 48) (ls' := [_, _, _, _, _, _, _, _, _, _, _, _, _, _, _]) rfl rfl rfl rfl ?_
          refine x_iload_n (pc' := 49) rfl rfl rfl ?_
          refine x_cs (ls0 := [_]) (rest := []) rfl rfl rfl rfl ?_
          refine x_iload_n (pc' := 1) rfl rfl rfl ?_
          refine x_iconst (pc' := 2) rfl rfl ?_
          refine x_iconst (pc' := 3) rfl rfl ?_
          refine x_cs (ls0 := [_, _, _]) (rest := []) rfl rfl rfl rfl ?_
          refine x_iload_n (pc' := 1) rfl rfl rfl ?_
          refine x_iload_n (pc' := 2) rfl rfl rfl ?_
          refine x_icmp (a' := 14) (pc' := 5) (z := decide (b < 0)) rfl rfl rfl (ic_lt (p := b) (q := 0) (gb31 hb) (by decide)) (fun h => absurd (of_decide_eq_true h) (by first | decide | omega | simp)) (fun _ => ?_)
          refine x_iload_n (pc' := 6) rfl rfl rfl ?_
          refine x_iload_n (pc' := 7) rfl rfl rfl ?_
          refine x_icmp (a' := 14) (pc' := 10) (z := decide (4 < b)) rfl rfl rfl (ic_gt (p := b) (q := 4) (gb31 hb) (by decide)) (fun h => absurd (of_decide_eq_true h) (show ¬ 4 < b by omega)) (fun _ => ?_)
          refine x_iconst (pc' := 11) rfl rfl ?_
          refine x_goto (pc' := 15) rfl rfl ?_
          refine x_retz (z := true) rfl rfl ?_
          refine sK_i (pc' := 6) rfl ?_
          refine x_retz (z := true) rfl rfl ?_
          refine sK_i (pc' := 52) rfl ?_
          refine x_if (a' := 78) (pc' := 55) (z := false) rfl rfl rfl (by decide) (fun h => by cases h) (fun _ => ?_)
          refine x_aload_n (pc' := 56) rfl rfl rfl rfl rfl ?_
          refine x_gR (pc' := 59) (r := (some 0)) rfl rfl rfl (kR_769_0 hc) ?_
          refine x_iload_n (pc' := 60) rfl rfl rfl ?_
          refine x_iald (pc' := 61) (N := 5) (x := (mA M 0 b)) rfl rfl rfl (kN_21_0 hc) (io_in (p := b) (N := 5) hb (by decide)) (Eq.trans (congrArg (sA t 21 0) (nn_io (p := b) (Nat.lt_trans hb (by decide)))) (gA hM rfl)) ?_
          refine x_if (a' := 78) (pc' := 64) (z := decide ((mA M 0 b) = 0)) rfl rfl rfl rfl (fun q62 => ?_) (fun q62 => ?_)
          · refine x_iconst (pc' := 79) rfl rfl ?_
            refine x_istore (pc' := 81) (ls' := [_, _, _, _, _, _, _, _, _, _, _, _, _, _, _]) rfl rfl rfl rfl ?_
            refine x_aload_n (pc' := 82) rfl rfl rfl rfl rfl ?_
            refine x_aload_n (pc' := 83) rfl rfl rfl rfl rfl ?_
            refine x_iload_n (pc' := 84) rfl rfl rfl ?_
            refine x_iload_n (pc' := 85) rfl rfl rfl ?_
            refine x_iload (pc' := 87) rfl rfl rfl ?_
            refine x_iload (pc' := 89) rfl rfl rfl ?_
            refine x_cv (ls0 := [_, _, _, _, _, sJk]) (rest := [_]) rfl rfl rfl rfl rfl ?_
            refine x_iload_n (pc' := 1) rfl rfl rfl ?_
            refine x_cs (ls0 := [_]) (rest := []) rfl rfl rfl rfl ?_
            refine x_iload_n (pc' := 1) rfl rfl rfl ?_
            refine x_iconst (pc' := 2) rfl rfl ?_
            refine x_iconst (pc' := 3) rfl rfl ?_
            refine x_cs (ls0 := [_, _, _]) (rest := []) rfl rfl rfl rfl ?_
            refine r145_xg (ixo_c6 hp) ?_
            refine sK_i (pc' := 6) rfl ?_
            refine x_retz (z := false) rfl rfl ?_
            refine sK_i (pc' := 4) rfl ?_
            refine x_if (a' := 18) (pc' := 7) (z := true) rfl rfl rfl (by decide) (fun _ => ?_) (fun h => by cases h)
            refine x_iconst (pc' := 19) rfl rfl ?_
            refine x_istore (pc' := 21) (ls' := [_, _, _, _, _, _]) rfl rfl rfl rfl ?_
            refine x_iload (pc' := 23) rfl rfl rfl ?_
            refine x_if (a' := 30) (pc' := 26) (z := false) rfl rfl rfl (by decide) (fun h => by cases h) (fun _ => ?_)
            refine x_iconst (pc' := 27) rfl rfl ?_
            refine x_goto (pc' := 57) rfl rfl ?_
            refine x_reti rfl rfl ?_
            refine sK_i (pc' := 92) rfl ?_
            refine x_cv (ls0 := [_, _]) (rest := []) rfl rfl rfl rfl rfl ?_
            refine x_aload_n (pc' := 1) rfl rfl rfl rfl rfl ?_
            refine x_iload_n (pc' := 2) rfl rfl rfl ?_
            refine x_pI (pc' := 5) rfl rfl rfl ?_
            refine x_iload_n (pc' := 6) rfl rfl rfl ?_
            refine x_if (a' := 13) (pc' := 9) (z := true) rfl rfl rfl (by decide) (fun _ => ?_) (fun h => by cases h)
            refine x_iconst (pc' := 14) rfl rfl ?_
            refine x_retz (z := false) rfl rfl ?_
            refine sK_i (pc' := 95) rfl ?_
            refine x_if (a' := 100) (pc' := 98) (z := false) rfl rfl rfl (by decide) (fun h => by cases h) (fun _ => ?_)
            refine x_iconst (pc' := 99) rfl rfl ?_
            refine x_reti rfl rfl ?_
            exact k9 q4 q22 (of_decide_eq_true q40) q58 (of_decide_eq_true q62)
          · refine x_aload_n (pc' := 65) rfl rfl rfl rfl rfl ?_
            refine x_gI (pc' := 68) (x := (io n)) rfl rfl rfl (gFn hM (Fr.refl _) hR) ?_
            refine x_sipush (pc' := 71) rfl rfl ?_
            refine x_icmp (a' := 78) (pc' := 74) (z := decide (198 < n)) rfl rfl rfl (ic_gt (p := n) (q := 198) (gn31 hR) (by decide)) (fun q67 => ?_) (fun q67 => ?_)
            · refine x_iconst (pc' := 79) rfl rfl ?_
              refine x_istore (pc' := 81) (ls' := [_, _, _, _, _, _, _, _, _, _, _, _, _, _, _]) rfl rfl rfl rfl ?_
              refine x_aload_n (pc' := 82) rfl rfl rfl rfl rfl ?_
              refine x_aload_n (pc' := 83) rfl rfl rfl rfl rfl ?_
              refine x_iload_n (pc' := 84) rfl rfl rfl ?_
              refine x_iload_n (pc' := 85) rfl rfl rfl ?_
              refine x_iload (pc' := 87) rfl rfl rfl ?_
              refine x_iload (pc' := 89) rfl rfl rfl ?_
              refine x_cv (ls0 := [_, _, _, _, _, sJk]) (rest := [_]) rfl rfl rfl rfl rfl ?_
              refine x_iload_n (pc' := 1) rfl rfl rfl ?_
              refine x_cs (ls0 := [_]) (rest := []) rfl rfl rfl rfl ?_
              refine x_iload_n (pc' := 1) rfl rfl rfl ?_
              refine x_iconst (pc' := 2) rfl rfl ?_
              refine x_iconst (pc' := 3) rfl rfl ?_
              refine x_cs (ls0 := [_, _, _]) (rest := []) rfl rfl rfl rfl ?_
              refine r145_xg (ixo_c6 hp) ?_
              refine sK_i (pc' := 6) rfl ?_
              refine x_retz (z := false) rfl rfl ?_
              refine sK_i (pc' := 4) rfl ?_
              refine x_if (a' := 18) (pc' := 7) (z := true) rfl rfl rfl (by decide) (fun _ => ?_) (fun h => by cases h)
              refine x_iconst (pc' := 19) rfl rfl ?_
              refine x_istore (pc' := 21) (ls' := [_, _, _, _, _, _]) rfl rfl rfl rfl ?_
              refine x_iload (pc' := 23) rfl rfl rfl ?_
              refine x_if (a' := 30) (pc' := 26) (z := false) rfl rfl rfl (by decide) (fun h => by cases h) (fun _ => ?_)
              refine x_iconst (pc' := 27) rfl rfl ?_
              refine x_goto (pc' := 57) rfl rfl ?_
              refine x_reti rfl rfl ?_
              refine sK_i (pc' := 92) rfl ?_
              refine x_cv (ls0 := [_, _]) (rest := []) rfl rfl rfl rfl rfl ?_
              refine x_aload_n (pc' := 1) rfl rfl rfl rfl rfl ?_
              refine x_iload_n (pc' := 2) rfl rfl rfl ?_
              refine x_pI (pc' := 5) rfl rfl rfl ?_
              refine x_iload_n (pc' := 6) rfl rfl rfl ?_
              refine x_if (a' := 13) (pc' := 9) (z := true) rfl rfl rfl (by decide) (fun _ => ?_) (fun h => by cases h)
              refine x_iconst (pc' := 14) rfl rfl ?_
              refine x_retz (z := false) rfl rfl ?_
              refine sK_i (pc' := 95) rfl ?_
              refine x_if (a' := 100) (pc' := 98) (z := false) rfl rfl rfl (by decide) (fun h => by cases h) (fun _ => ?_)
              refine x_iconst (pc' := 99) rfl rfl ?_
              refine x_reti rfl rfl ?_
              exact k10 q4 q22 (of_decide_eq_true q40) q58 (of_decide_eq_false q62) (of_decide_eq_true q67)
            · refine x_iconst (pc' := 75) rfl rfl ?_
              refine x_goto (pc' := 79) rfl rfl ?_
              refine x_istore (pc' := 81) (ls' := [_, _, _, _, _, _, _, _, _, _, _, _, _, _, _]) rfl rfl rfl rfl ?_
              refine x_aload_n (pc' := 82) rfl rfl rfl rfl rfl ?_
              refine x_aload_n (pc' := 83) rfl rfl rfl rfl rfl ?_
              refine x_iload_n (pc' := 84) rfl rfl rfl ?_
              refine x_iload_n (pc' := 85) rfl rfl rfl ?_
              refine x_iload (pc' := 87) rfl rfl rfl ?_
              refine x_iload (pc' := 89) rfl rfl rfl ?_
              refine x_cv (ls0 := [_, _, _, _, _, sJk]) (rest := [_]) rfl rfl rfl rfl rfl ?_
              refine x_iload_n (pc' := 1) rfl rfl rfl ?_
              refine x_cs (ls0 := [_]) (rest := []) rfl rfl rfl rfl ?_
              refine x_iload_n (pc' := 1) rfl rfl rfl ?_
              refine x_iconst (pc' := 2) rfl rfl ?_
              refine x_iconst (pc' := 3) rfl rfl ?_
              refine x_cs (ls0 := [_, _, _]) (rest := []) rfl rfl rfl rfl ?_
              refine r145_xg (ixo_c6 hp) ?_
              refine sK_i (pc' := 6) rfl ?_
              refine x_retz (z := false) rfl rfl ?_
              refine sK_i (pc' := 4) rfl ?_
              refine x_if (a' := 18) (pc' := 7) (z := true) rfl rfl rfl (by decide) (fun _ => ?_) (fun h => by cases h)
              refine x_iconst (pc' := 19) rfl rfl ?_
              refine x_istore (pc' := 21) (ls' := [_, _, _, _, _, _]) rfl rfl rfl rfl ?_
              refine x_iload (pc' := 23) rfl rfl rfl ?_
              refine x_if (a' := 30) (pc' := 26) (z := false) rfl rfl rfl (by decide) (fun h => by cases h) (fun _ => ?_)
              refine x_iconst (pc' := 27) rfl rfl ?_
              refine x_goto (pc' := 57) rfl rfl ?_
              refine x_reti rfl rfl ?_
              refine sK_i (pc' := 92) rfl ?_
              refine x_cv (ls0 := [_, _]) (rest := []) rfl rfl rfl rfl rfl ?_
              refine x_aload_n (pc' := 1) rfl rfl rfl rfl rfl ?_
              refine x_iload_n (pc' := 2) rfl rfl rfl ?_
              refine x_pI (pc' := 5) rfl rfl rfl ?_
              refine x_iload_n (pc' := 6) rfl rfl rfl ?_
              refine x_if (a' := 13) (pc' := 9) (z := true) rfl rfl rfl (by decide) (fun _ => ?_) (fun h => by cases h)
              refine x_iconst (pc' := 14) rfl rfl ?_
              refine x_retz (z := false) rfl rfl ?_
              refine sK_i (pc' := 95) rfl ?_
              refine x_if (a' := 100) (pc' := 98) (z := false) rfl rfl rfl (by decide) (fun h => by cases h) (fun _ => ?_)
              refine x_iconst (pc' := 99) rfl rfl ?_
              refine x_reti rfl rfl ?_
              exact k11 q4 q22 (of_decide_eq_true q40) q58 (of_decide_eq_false q62) (of_decide_eq_false q67)
        · refine x_iconst (pc' := 42) rfl rfl ?_
          refine x_goto (pc' := 46) rfl rfl ?_
          refine x_istore (pc' := 48) (ls' := [_, _, _, _, _, _, _, _, _, _, _, _, _, _, _]) rfl rfl rfl rfl ?_
          refine x_iload_n (pc' := 49) rfl rfl rfl ?_
          refine x_cs (ls0 := [_]) (rest := []) rfl rfl rfl rfl ?_
          refine x_iload_n (pc' := 1) rfl rfl rfl ?_
          refine x_iconst (pc' := 2) rfl rfl ?_
          refine x_iconst (pc' := 3) rfl rfl ?_
          refine x_cs (ls0 := [_, _, _]) (rest := []) rfl rfl rfl rfl ?_
          refine x_iload_n (pc' := 1) rfl rfl rfl ?_
          refine x_iload_n (pc' := 2) rfl rfl rfl ?_
          refine x_icmp (a' := 14) (pc' := 5) (z := decide (b < 0)) rfl rfl rfl (ic_lt (p := b) (q := 0) (gb31 hb) (by decide)) (fun h => absurd (of_decide_eq_true h) (by first | decide | omega | simp)) (fun _ => ?_)
          refine x_iload_n (pc' := 6) rfl rfl rfl ?_
          refine x_iload_n (pc' := 7) rfl rfl rfl ?_
          refine x_icmp (a' := 14) (pc' := 10) (z := decide (4 < b)) rfl rfl rfl (ic_gt (p := b) (q := 4) (gb31 hb) (by decide)) (fun h => absurd (of_decide_eq_true h) (show ¬ 4 < b by omega)) (fun _ => ?_)
          refine x_iconst (pc' := 11) rfl rfl ?_
          refine x_goto (pc' := 15) rfl rfl ?_
          refine x_retz (z := true) rfl rfl ?_
          refine sK_i (pc' := 6) rfl ?_
          refine x_retz (z := true) rfl rfl ?_
          refine sK_i (pc' := 52) rfl ?_
          refine x_if (a' := 78) (pc' := 55) (z := false) rfl rfl rfl (by decide) (fun h => by cases h) (fun _ => ?_)
          refine x_aload_n (pc' := 56) rfl rfl rfl rfl rfl ?_
          refine x_gR (pc' := 59) (r := (some 0)) rfl rfl rfl (kR_769_0 hc) ?_
          refine x_iload_n (pc' := 60) rfl rfl rfl ?_
          refine x_iald (pc' := 61) (N := 5) (x := (mA M 0 b)) rfl rfl rfl (kN_21_0 hc) (io_in (p := b) (N := 5) hb (by decide)) (Eq.trans (congrArg (sA t 21 0) (nn_io (p := b) (Nat.lt_trans hb (by decide)))) (gA hM rfl)) ?_
          refine x_if (a' := 78) (pc' := 64) (z := decide ((mA M 0 b) = 0)) rfl rfl rfl rfl (fun q79 => ?_) (fun q79 => ?_)
          · refine x_iconst (pc' := 79) rfl rfl ?_
            refine x_istore (pc' := 81) (ls' := [_, _, _, _, _, _, _, _, _, _, _, _, _, _, _]) rfl rfl rfl rfl ?_
            refine x_aload_n (pc' := 82) rfl rfl rfl rfl rfl ?_
            refine x_aload_n (pc' := 83) rfl rfl rfl rfl rfl ?_
            refine x_iload_n (pc' := 84) rfl rfl rfl ?_
            refine x_iload_n (pc' := 85) rfl rfl rfl ?_
            refine x_iload (pc' := 87) rfl rfl rfl ?_
            refine x_iload (pc' := 89) rfl rfl rfl ?_
            refine x_cv (ls0 := [_, _, _, _, _, sJk]) (rest := [_]) rfl rfl rfl rfl rfl ?_
            refine x_iload_n (pc' := 1) rfl rfl rfl ?_
            refine x_cs (ls0 := [_]) (rest := []) rfl rfl rfl rfl ?_
            refine x_iload_n (pc' := 1) rfl rfl rfl ?_
            refine x_iconst (pc' := 2) rfl rfl ?_
            refine x_iconst (pc' := 3) rfl rfl ?_
            refine x_cs (ls0 := [_, _, _]) (rest := []) rfl rfl rfl rfl ?_
            refine r145_xg (ixo_c6 hp) ?_
            refine sK_i (pc' := 6) rfl ?_
            refine x_retz (z := false) rfl rfl ?_
            refine sK_i (pc' := 4) rfl ?_
            refine x_if (a' := 18) (pc' := 7) (z := true) rfl rfl rfl (by decide) (fun _ => ?_) (fun h => by cases h)
            refine x_iconst (pc' := 19) rfl rfl ?_
            refine x_istore (pc' := 21) (ls' := [_, _, _, _, _, _]) rfl rfl rfl rfl ?_
            refine x_iload (pc' := 23) rfl rfl rfl ?_
            refine x_if (a' := 30) (pc' := 26) (z := false) rfl rfl rfl (by decide) (fun h => by cases h) (fun _ => ?_)
            refine x_iconst (pc' := 27) rfl rfl ?_
            refine x_goto (pc' := 57) rfl rfl ?_
            refine x_reti rfl rfl ?_
            refine sK_i (pc' := 92) rfl ?_
            refine x_cv (ls0 := [_, _]) (rest := []) rfl rfl rfl rfl rfl ?_
            refine x_aload_n (pc' := 1) rfl rfl rfl rfl rfl ?_
            refine x_iload_n (pc' := 2) rfl rfl rfl ?_
            refine x_pI (pc' := 5) rfl rfl rfl ?_
            refine x_iload_n (pc' := 6) rfl rfl rfl ?_
            refine x_if (a' := 13) (pc' := 9) (z := true) rfl rfl rfl (by decide) (fun _ => ?_) (fun h => by cases h)
            refine x_iconst (pc' := 14) rfl rfl ?_
            refine x_retz (z := false) rfl rfl ?_
            refine sK_i (pc' := 95) rfl ?_
            refine x_if (a' := 100) (pc' := 98) (z := false) rfl rfl rfl (by decide) (fun h => by cases h) (fun _ => ?_)
            refine x_iconst (pc' := 99) rfl rfl ?_
            refine x_reti rfl rfl ?_
            exact k12 q4 q22 (of_decide_eq_true q40) q58 (of_decide_eq_true q79)
          · refine x_aload_n (pc' := 65) rfl rfl rfl rfl rfl ?_
            refine x_gI (pc' := 68) (x := (io n)) rfl rfl rfl (gFn hM (Fr.refl _) hR) ?_
            refine x_sipush (pc' := 71) rfl rfl ?_
            refine x_icmp (a' := 78) (pc' := 74) (z := decide (198 < n)) rfl rfl rfl (ic_gt (p := n) (q := 198) (gn31 hR) (by decide)) (fun q84 => ?_) (fun q84 => ?_)
            · refine x_iconst (pc' := 79) rfl rfl ?_
              refine x_istore (pc' := 81) (ls' := [_, _, _, _, _, _, _, _, _, _, _, _, _, _, _]) rfl rfl rfl rfl ?_
              refine x_aload_n (pc' := 82) rfl rfl rfl rfl rfl ?_
              refine x_aload_n (pc' := 83) rfl rfl rfl rfl rfl ?_
              refine x_iload_n (pc' := 84) rfl rfl rfl ?_
              refine x_iload_n (pc' := 85) rfl rfl rfl ?_
              refine x_iload (pc' := 87) rfl rfl rfl ?_
              refine x_iload (pc' := 89) rfl rfl rfl ?_
              refine x_cv (ls0 := [_, _, _, _, _, sJk]) (rest := [_]) rfl rfl rfl rfl rfl ?_
              refine x_iload_n (pc' := 1) rfl rfl rfl ?_
              refine x_cs (ls0 := [_]) (rest := []) rfl rfl rfl rfl ?_
              refine x_iload_n (pc' := 1) rfl rfl rfl ?_
              refine x_iconst (pc' := 2) rfl rfl ?_
              refine x_iconst (pc' := 3) rfl rfl ?_
              refine x_cs (ls0 := [_, _, _]) (rest := []) rfl rfl rfl rfl ?_
              refine r145_xg (ixo_c6 hp) ?_
              refine sK_i (pc' := 6) rfl ?_
              refine x_retz (z := false) rfl rfl ?_
              refine sK_i (pc' := 4) rfl ?_
              refine x_if (a' := 18) (pc' := 7) (z := true) rfl rfl rfl (by decide) (fun _ => ?_) (fun h => by cases h)
              refine x_iconst (pc' := 19) rfl rfl ?_
              refine x_istore (pc' := 21) (ls' := [_, _, _, _, _, _]) rfl rfl rfl rfl ?_
              refine x_iload (pc' := 23) rfl rfl rfl ?_
              refine x_if (a' := 30) (pc' := 26) (z := false) rfl rfl rfl (by decide) (fun h => by cases h) (fun _ => ?_)
              refine x_iconst (pc' := 27) rfl rfl ?_
              refine x_goto (pc' := 57) rfl rfl ?_
              refine x_reti rfl rfl ?_
              refine sK_i (pc' := 92) rfl ?_
              refine x_cv (ls0 := [_, _]) (rest := []) rfl rfl rfl rfl rfl ?_
              refine x_aload_n (pc' := 1) rfl rfl rfl rfl rfl ?_
              refine x_iload_n (pc' := 2) rfl rfl rfl ?_
              refine x_pI (pc' := 5) rfl rfl rfl ?_
              refine x_iload_n (pc' := 6) rfl rfl rfl ?_
              refine x_if (a' := 13) (pc' := 9) (z := true) rfl rfl rfl (by decide) (fun _ => ?_) (fun h => by cases h)
              refine x_iconst (pc' := 14) rfl rfl ?_
              refine x_retz (z := false) rfl rfl ?_
              refine sK_i (pc' := 95) rfl ?_
              refine x_if (a' := 100) (pc' := 98) (z := false) rfl rfl rfl (by decide) (fun h => by cases h) (fun _ => ?_)
              refine x_iconst (pc' := 99) rfl rfl ?_
              refine x_reti rfl rfl ?_
              exact k13 q4 q22 (of_decide_eq_true q40) q58 (of_decide_eq_false q79) (of_decide_eq_true q84)
            · refine x_iconst (pc' := 75) rfl rfl ?_
              refine x_goto (pc' := 79) rfl rfl ?_
              refine x_istore (pc' := 81) (ls' := [_, _, _, _, _, _, _, _, _, _, _, _, _, _, _]) rfl rfl rfl rfl ?_
              refine x_aload_n (pc' := 82) rfl rfl rfl rfl rfl ?_
              refine x_aload_n (pc' := 83) rfl rfl rfl rfl rfl ?_
              refine x_iload_n (pc' := 84) rfl rfl rfl ?_
              refine x_iload_n (pc' := 85) rfl rfl rfl ?_
              refine x_iload (pc' := 87) rfl rfl rfl ?_
              refine x_iload (pc' := 89) rfl rfl rfl ?_
              refine x_cv (ls0 := [_, _, _, _, _, sJk]) (rest := [_]) rfl rfl rfl rfl rfl ?_
              refine x_iload_n (pc' := 1) rfl rfl rfl ?_
              refine x_cs (ls0 := [_]) (rest := []) rfl rfl rfl rfl ?_
              refine x_iload_n (pc' := 1) rfl rfl rfl ?_
              refine x_iconst (pc' := 2) rfl rfl ?_
              refine x_iconst (pc' := 3) rfl rfl ?_
              refine x_cs (ls0 := [_, _, _]) (rest := []) rfl rfl rfl rfl ?_
              refine r145_xg (ixo_c6 hp) ?_
              refine sK_i (pc' := 6) rfl ?_
              refine x_retz (z := false) rfl rfl ?_
              refine sK_i (pc' := 4) rfl ?_
              refine x_if (a' := 18) (pc' := 7) (z := true) rfl rfl rfl (by decide) (fun _ => ?_) (fun h => by cases h)
              refine x_iconst (pc' := 19) rfl rfl ?_
              refine x_istore (pc' := 21) (ls' := [_, _, _, _, _, _]) rfl rfl rfl rfl ?_
              refine x_iload (pc' := 23) rfl rfl rfl ?_
              refine x_if (a' := 30) (pc' := 26) (z := false) rfl rfl rfl (by decide) (fun h => by cases h) (fun _ => ?_)
              refine x_iconst (pc' := 27) rfl rfl ?_
              refine x_goto (pc' := 57) rfl rfl ?_
              refine x_reti rfl rfl ?_
              refine sK_i (pc' := 92) rfl ?_
              refine x_cv (ls0 := [_, _]) (rest := []) rfl rfl rfl rfl rfl ?_
              refine x_aload_n (pc' := 1) rfl rfl rfl rfl rfl ?_
              refine x_iload_n (pc' := 2) rfl rfl rfl ?_
              refine x_pI (pc' := 5) rfl rfl rfl ?_
              refine x_iload_n (pc' := 6) rfl rfl rfl ?_
              refine x_if (a' := 13) (pc' := 9) (z := true) rfl rfl rfl (by decide) (fun _ => ?_) (fun h => by cases h)
              refine x_iconst (pc' := 14) rfl rfl ?_
              refine x_retz (z := false) rfl rfl ?_
              refine sK_i (pc' := 95) rfl ?_
              refine x_if (a' := 100) (pc' := 98) (z := false) rfl rfl rfl (by decide) (fun h => by cases h) (fun _ => ?_)
              refine x_iconst (pc' := 99) rfl rfl ?_
              refine x_reti rfl rfl ?_
              exact k14 q4 q22 (of_decide_eq_true q40) q58 (of_decide_eq_false q79) (of_decide_eq_false q84)
set_option maxHeartbeats 4000000 in
set_option maxRecDepth 10000 in
theorem r208_x01 {t : sT} {Q : sRs → sT → Prop} {M : sM} {n : Nat} {x : Int32} {x1 : Int32} {p : Int32} {u : Int32} {a : Int32}
    (hV : Vr t M n)
    (hp : ixo x 6 = none)
    (hp1 : ixo x1 5 = none)
    (k0 : Q (.inl (some (.inl 0))) (sIw t 768 0 1)) :
    X 208 0 [.inr (.inr (12, (some 0))), .inl x, .inl x1, .inl p, .inl u, .inl a, sJk, sJk, sJk, sJk, sJk, sJk, sJk, sJk, sJk] [] t Q := by
  obtain ⟨hM, hc, hR⟩ := hV
  refine x_iload_n (pc' := 1) rfl rfl rfl ?_
  refine x_cs (ls0 := [_]) (rest := []) rfl rfl rfl rfl ?_
  refine x_iload_n (pc' := 1) rfl rfl rfl ?_
  refine x_iconst (pc' := 2) rfl rfl ?_
  refine x_iconst (pc' := 3) rfl rfl ?_
  refine x_cs (ls0 := [_, _, _]) (rest := []) rfl rfl rfl rfl ?_
  refine r145_xg (ixo_c5 hp1) ?_
  refine sK_i (pc' := 6) rfl ?_
  refine x_retz (z := false) rfl rfl ?_
  refine sK_i (pc' := 4) rfl ?_
  refine x_if (a' := 45) (pc' := 7) (z := true) rfl rfl rfl (by decide) (fun _ => ?_) (fun h => by cases h)
  refine x_iconst (pc' := 46) rfl rfl ?_
  refine x_istore (pc' := 48) (ls' := [_, _, _, _, _, _, _, _, _, _, _, _, _, _, _]) rfl rfl rfl rfl ?_
  refine x_iload_n (pc' := 49) rfl rfl rfl ?_
  refine x_cs (ls0 := [_]) (rest := []) rfl rfl rfl rfl ?_
  refine x_iload_n (pc' := 1) rfl rfl rfl ?_
  refine x_iconst (pc' := 2) rfl rfl ?_
  refine x_iconst (pc' := 3) rfl rfl ?_
  refine x_cs (ls0 := [_, _, _]) (rest := []) rfl rfl rfl rfl ?_
  refine r145_xg (ixo_c5 hp1) ?_
  refine sK_i (pc' := 6) rfl ?_
  refine x_retz (z := false) rfl rfl ?_
  refine sK_i (pc' := 52) rfl ?_
  refine x_if (a' := 78) (pc' := 55) (z := true) rfl rfl rfl (by decide) (fun _ => ?_) (fun h => by cases h)
  refine x_iconst (pc' := 79) rfl rfl ?_
  refine x_istore (pc' := 81) (ls' := [_, _, _, _, _, _, _, _, _, _, _, _, _, _, _]) rfl rfl rfl rfl ?_
  refine x_aload_n (pc' := 82) rfl rfl rfl rfl rfl ?_
  refine x_aload_n (pc' := 83) rfl rfl rfl rfl rfl ?_
  refine x_iload_n (pc' := 84) rfl rfl rfl ?_
  refine x_iload_n (pc' := 85) rfl rfl rfl ?_
  refine x_iload (pc' := 87) rfl rfl rfl ?_
  refine x_iload (pc' := 89) rfl rfl rfl ?_
  refine x_cv (ls0 := [_, _, _, _, _, sJk]) (rest := [_]) rfl rfl rfl rfl rfl ?_
  refine x_iload_n (pc' := 1) rfl rfl rfl ?_
  refine x_cs (ls0 := [_]) (rest := []) rfl rfl rfl rfl ?_
  refine x_iload_n (pc' := 1) rfl rfl rfl ?_
  refine x_iconst (pc' := 2) rfl rfl ?_
  refine x_iconst (pc' := 3) rfl rfl ?_
  refine x_cs (ls0 := [_, _, _]) (rest := []) rfl rfl rfl rfl ?_
  refine r145_xg (ixo_c6 hp) ?_
  refine sK_i (pc' := 6) rfl ?_
  refine x_retz (z := false) rfl rfl ?_
  refine sK_i (pc' := 4) rfl ?_
  refine x_if (a' := 18) (pc' := 7) (z := true) rfl rfl rfl (by decide) (fun _ => ?_) (fun h => by cases h)
  refine x_iconst (pc' := 19) rfl rfl ?_
  refine x_istore (pc' := 21) (ls' := [_, _, _, _, _, _]) rfl rfl rfl rfl ?_
  refine x_iload (pc' := 23) rfl rfl rfl ?_
  refine x_if (a' := 30) (pc' := 26) (z := false) rfl rfl rfl (by decide) (fun h => by cases h) (fun _ => ?_)
  refine x_iconst (pc' := 27) rfl rfl ?_
  refine x_goto (pc' := 57) rfl rfl ?_
  refine x_reti rfl rfl ?_
  refine sK_i (pc' := 92) rfl ?_
  refine x_cv (ls0 := [_, _]) (rest := []) rfl rfl rfl rfl rfl ?_
  refine x_aload_n (pc' := 1) rfl rfl rfl rfl rfl ?_
  refine x_iload_n (pc' := 2) rfl rfl rfl ?_
  refine x_pI (pc' := 5) rfl rfl rfl ?_
  refine x_iload_n (pc' := 6) rfl rfl rfl ?_
  refine x_if (a' := 13) (pc' := 9) (z := true) rfl rfl rfl (by decide) (fun _ => ?_) (fun h => by cases h)
  refine x_iconst (pc' := 14) rfl rfl ?_
  refine x_retz (z := false) rfl rfl ?_
  refine sK_i (pc' := 95) rfl ?_
  refine x_if (a' := 100) (pc' := 98) (z := false) rfl rfl rfl (by decide) (fun h => by cases h) (fun _ => ?_)
  refine x_iconst (pc' := 99) rfl rfl ?_
  refine x_reti rfl rfl ?_
  exact k0
set_option maxHeartbeats 4000000 in
set_option maxRecDepth 10000 in
theorem r203_0 {t : sT} {Q : sRs → sT → Prop} {M : sM} {n : Nat} {b : Nat} {m : Nat} {s : Bool} {p : Int32} {a : Int32} {h : Int32} {z : Bool}
    (hV : Vr t M n)
    (hb : b < 5)
    (hm : m < 6)
    (k0 : X 200 0 [.inr (.inr (12, (some 0))), .inl (io m), .inl (io b), .inl (bz s), .inl p, .inl a, .inl h] [] t (sK 200 203 10 [.inr (.inr (12, (some 0))), .inl (io m), .inl (io b), .inl (bz s), .inl p, .inl a, .inl h, .inl (bz z), sJk] [] Q)) :
    X 203 0 [.inr (.inr (12, (some 0))), .inl (io m), .inl (io b), .inl (bz s), .inl p, .inl a, .inl h, .inl (bz z), sJk] [] t Q := by
  obtain ⟨hM, hc, hR⟩ := hV
  refine x_aload_n (pc' := 1) rfl rfl rfl rfl rfl ?_
  refine x_iload_n (pc' := 2) rfl rfl rfl ?_
  refine x_iload_n (pc' := 3) rfl rfl rfl ?_
  refine x_iload_n (pc' := 4) rfl rfl rfl ?_
  refine x_iload (pc' := 6) rfl rfl rfl ?_
  refine x_iload (pc' := 8) rfl rfl rfl ?_
  refine x_iload (pc' := 10) rfl rfl rfl ?_
  refine x_cv (ls0 := [_, _, _, _, _, _, _]) (rest := []) rfl rfl rfl rfl rfl ?_
  exact k0
set_option maxHeartbeats 4000000 in
set_option maxRecDepth 10000 in
theorem r203_a {t : sT} {Q : sRs → sT → Prop} {M : sM} {n : Nat} {b : Nat} {m : Nat} {s : Bool} {p : Int32} {a : Int32} {h : Int32} {z : Bool} {o : Nat}
    (hV : Vr t M n)
    (hb : b < 5)
    (hm : m < 6)
    (ho : o < n)
    (k0 : (nmF M n m) = false → X 179 0 [.inr (.inr (12, (some 0))), sJk] [] t (sK 179 203 36 [.inr (.inr (12, (some 0))), .inl (io m), .inl (io b), .inl (bz s), .inl p, .inl a, .inl h, .inl (bz z), .inl (io o)] [] Q))
    (k1 : (nmF M n m) = true → Q (.inl (some (.inl (-1)))) (sIw t 786 0 ((io n) - 1))) :
    X 203 13 [.inr (.inr (12, (some 0))), .inl (io m), .inl (io b), .inl (bz s), .inl p, .inl a, .inl h, .inl (bz z), sJk] [.inl (io o)] t Q := by
  obtain ⟨hM, hc, hR⟩ := hV
  refine x_istore (pc' := 15) (ls' := [_, _, _, _, _, _, _, _, _]) rfl rfl rfl rfl ?_
  refine x_aload_n (pc' := 16) rfl rfl rfl rfl rfl ?_
  refine x_iload_n (pc' := 17) rfl rfl rfl ?_
  refine x_cv (ls0 := [_, _]) (rest := []) rfl rfl rfl rfl rfl ?_
  refine r202 hM hc (Fr.ri (Fr.refl _) hR) hm ?_
  refine sK_i (pc' := 20) rfl ?_
  refine x_ifeq_z (a' := 35) (pc' := 23) (z := (nmF M n m)) rfl rfl rfl (fun q1 => ?_) (fun q1 => ?_)
  · refine x_aload_n (pc' := 36) rfl rfl rfl rfl rfl ?_
    refine x_cv (ls0 := [_, sJk]) (rest := []) rfl rfl rfl rfl rfl ?_
    exact k0 q1
  · refine x_aload_n (pc' := 24) rfl rfl rfl rfl rfl ?_
    refine x_dup (pc' := 25) rfl rfl rfl ?_
    refine x_gI (pc' := 28) (x := (io n)) rfl rfl rfl (gFn hM (Fr.refl _) hR) ?_
    refine x_iconst (pc' := 29) rfl rfl ?_
    refine x_isub (pc' := 30) (z := ((io n) - 1)) rfl rfl rfl ?_
    refine x_pI (pc' := 33) rfl rfl rfl ?_
    refine x_iconst (pc' := 34) rfl rfl ?_
    refine x_reti rfl rfl ?_
    exact k1 q1
set_option maxHeartbeats 4000000 in
set_option maxRecDepth 10000 in
theorem r203_b {t : sT} {Q : sRs → sT → Prop} {M : sM} {n : Nat} {b : Nat} {m : Nat} {s : Bool} {p : Int32} {a : Int32} {h : Int32} {z : Bool} {o : Nat} {w : Bool}
    (hV : Vr t M n)
    (hb : b < 5)
    (hm : m < 6)
    (ho : o < n)
    (k0 : w = false → X 179 0 [.inr (.inr (12, (some 0))), sJk] [] t (sK 179 203 36 [.inr (.inr (12, (some 0))), .inl (io m), .inl (io b), .inl (bz s), .inl p, .inl a, .inl h, .inl (bz z), .inl (io o)] [] Q))
    (k1 : w = true → Q (.inl (some (.inl (-1)))) (sIw t 786 0 ((io n) - 1))) :
    X 203 20 [.inr (.inr (12, (some 0))), .inl (io m), .inl (io b), .inl (bz s), .inl p, .inl a, .inl h, .inl (bz z), .inl (io o)] [.inl (bz w)] t Q := by
  obtain ⟨hM, hc, hR⟩ := hV
  refine x_ifeq_z (a' := 35) (pc' := 23) (z := w) rfl rfl rfl (fun q1 => ?_) (fun q1 => ?_)
  · refine x_aload_n (pc' := 36) rfl rfl rfl rfl rfl ?_
    refine x_cv (ls0 := [_, sJk]) (rest := []) rfl rfl rfl rfl rfl ?_
    exact k0 q1
  · refine x_aload_n (pc' := 24) rfl rfl rfl rfl rfl ?_
    refine x_dup (pc' := 25) rfl rfl rfl ?_
    refine x_gI (pc' := 28) (x := (io n)) rfl rfl rfl (gFn hM (Fr.refl _) hR) ?_
    refine x_iconst (pc' := 29) rfl rfl ?_
    refine x_isub (pc' := 30) (z := ((io n) - 1)) rfl rfl rfl ?_
    refine x_pI (pc' := 33) rfl rfl rfl ?_
    refine x_iconst (pc' := 34) rfl rfl ?_
    refine x_reti rfl rfl ?_
    exact k1 q1
set_option maxHeartbeats 4000000 in
set_option maxRecDepth 10000 in
theorem r203_c {t : sT} {Q : sRs → sT → Prop} {M : sM} {n : Nat} {b : Nat} {m : Nat} {s : Bool} {p : Int32} {a : Int32} {h : Int32} {z : Bool} {o : Nat}
    (hV : Vr t M n)
    (hb : b < 5)
    (hm : m < 6)
    (ho : o < n)
    (k0 : X 176 0 [.inr (.inr (12, (some 0))), .inl (io o), sJk] [] (sBw t 22 5 o z) (sK 176 203 51 [.inr (.inr (12, (some 0))), .inl (io m), .inl (io b), .inl (bz s), .inl p, .inl a, .inl h, .inl (bz z), .inl (io o)] [] Q)) :
    X 203 39 [.inr (.inr (12, (some 0))), .inl (io m), .inl (io b), .inl (bz s), .inl p, .inl a, .inl h, .inl (bz z), .inl (io o)] [] t Q := by
  obtain ⟨hM, hc, hR⟩ := hV
  refine x_aload_n (pc' := 40) rfl rfl rfl rfl rfl ?_
  refine x_gR (pc' := 43) (r := (some 5)) rfl rfl rfl (kR_797_0 hc) ?_
  refine x_iload (pc' := 45) rfl rfl rfl ?_
  refine x_iload (pc' := 47) rfl rfl rfl ?_
  refine x_bast (pc' := 48) (N := 200) (p := o) (z := z) rfl rfl (kN_22_5 hc) (io_in (p := o) (N := 200) (Nat.lt_of_lt_of_le ho (gn200 hR)) (by decide)) (nn_io (p := o) (Nat.lt_trans (Nat.lt_of_lt_of_le ho (gn200 hR)) (by decide))) rfl ?_
  refine x_aload_n (pc' := 49) rfl rfl rfl rfl rfl ?_
  refine x_iload (pc' := 51) rfl rfl rfl ?_
  refine x_cv (ls0 := [_, _, sJk]) (rest := []) rfl rfl rfl rfl rfl ?_
  exact k0
set_option maxHeartbeats 4000000 in
set_option maxRecDepth 10000 in
theorem r203_d {t : sT} {Q : sRs → sT → Prop} {M : sM} {n : Nat} {b : Nat} {m : Nat} {s : Bool} {p : Int32} {a : Int32} {h : Int32} {z : Bool} {o : Nat}
    (hV : Vr t M n)
    (hb : b < 5)
    (hm : m < 6)
    (ho : o < n)
    (k0 : X 178 0 [.inr (.inr (12, (some 0))), sJk, sJk, sJk] [] t (sK 178 203 55 [.inr (.inr (12, (some 0))), .inl (io m), .inl (io b), .inl (bz s), .inl p, .inl a, .inl h, .inl (bz z), .inl (io o)] [] Q)) :
    X 203 54 [.inr (.inr (12, (some 0))), .inl (io m), .inl (io b), .inl (bz s), .inl p, .inl a, .inl h, .inl (bz z), .inl (io o)] [] t Q := by
  obtain ⟨hM, hc, hR⟩ := hV
  refine x_aload_n (pc' := 55) rfl rfl rfl rfl rfl ?_
  refine x_cv (ls0 := [_, sJk, sJk, sJk]) (rest := []) rfl rfl rfl rfl rfl ?_
  exact k0
set_option maxHeartbeats 4000000 in
set_option maxRecDepth 10000 in
theorem r203_e {t : sT} {Q : sRs → sT → Prop} {M : sM} {n : Nat} {b : Nat} {m : Nat} {s : Bool} {p : Int32} {a : Int32} {h : Int32} {z : Bool} {o : Nat}
    (hV : Vr t M n)
    (hb : b < 5)
    (hm : m < 6)
    (ho : o < n)
    (k0 : Q (.inl (some (.inl (io o)))) t) :
    X 203 58 [.inr (.inr (12, (some 0))), .inl (io m), .inl (io b), .inl (bz s), .inl p, .inl a, .inl h, .inl (bz z), .inl (io o)] [] t Q := by
  obtain ⟨hM, hc, hR⟩ := hV
  refine x_iload (pc' := 60) rfl rfl rfl ?_
  refine x_reti rfl rfl ?_
  exact k0
set_option maxHeartbeats 4000000 in
set_option maxRecDepth 10000 in
theorem r204_e {t : sT} {Q : sRs → sT → Prop} {b : Nat} {m : Nat} {s : Bool} {p : Int32} {a : Int32} {h : Int32} {r : Int32} {y0 : sV} {y1 : sV}
    (hb : b < 5)
    (hm : m < 6)
    (k0 : Q (.inl (some (.inl r))) t) :
    X 204 109 [.inr (.inr (12, (some 0))), .inl (io m), .inl (io b), .inl (bz s), .inl p, .inl a, .inl h, y0, y1] [.inl r] t Q := by
  refine x_goto (pc' := 113) rfl rfl ?_
  refine x_reti rfl rfl ?_
  exact k0
set_option maxHeartbeats 4000000 in
set_option maxRecDepth 10000 in
theorem r205_e {t : sT} {Q : sRs → sT → Prop} {b : Nat} {m : Nat} {s : Bool} {p : Int32} {a : Int32} {r : Int32} {y0 : sV} {y1 : sV}
    (hb : b < 5)
    (hm : m < 6)
    (k0 : Q (.inl (some (.inl r))) t) :
    X 205 99 [.inr (.inr (12, (some 0))), .inl (io m), .inl (io b), .inl (bz s), .inl p, .inl a, y0, y1] [.inl r] t Q := by
  refine x_goto (pc' := 103) rfl rfl ?_
  refine x_reti rfl rfl ?_
  exact k0
set_option maxHeartbeats 4000000 in
set_option maxRecDepth 10000 in
theorem r206_a {t : sT} {Q : sRs → sT → Prop} {M : sM} {n : Nat} {b : Nat} {m : Nat} {s : Bool} {p : Int32} {a : Int32} {h : Int32} {o : Nat} {y0 : Int32} {y1 : Int32} {y2 : sV}
    (hV : Vr t M n)
    (hb : b < 5)
    (hm : m < 6)
    (ho : o < n)
    (k0 : (nmF (mAw M 20 o h) n m) = false → Q (.inl (some (.inl (io o)))) (sAw t 21 20 o h))
    (k1 : (nmF (mAw M 20 o h) n m) = true → Q (.inl (some (.inl (-1)))) (sIw (sAw t 21 20 o h) 786 0 ((io n) - 1))) :
    X 206 108 [.inr (.inr (12, (some 0))), .inl (io m), .inl (io b), .inl (bz s), .inl p, .inl a, .inl h, .inl y0, .inl y1, y2] [.inl (io o)] t Q := by
  obtain ⟨hM, hc, hR⟩ := hV
  refine x_istore (pc' := 110) (ls' := [_, _, _, _, _, _, _, _, _, _]) rfl rfl rfl rfl ?_
  refine x_aload_n (pc' := 111) rfl rfl rfl rfl rfl ?_
  refine x_gR (pc' := 114) (r := (some 20)) rfl rfl rfl (kR_798_0 hc) ?_
  refine x_iload (pc' := 116) rfl rfl rfl ?_
  refine x_iload (pc' := 118) rfl rfl rfl ?_
  refine x_iast (pc' := 119) (N := 200) (p := o) rfl rfl rfl (kN_21_20 hc) (io_in (p := o) (N := 200) (Nat.lt_of_lt_of_le ho (gn200 hR)) (by decide)) (nn_io (p := o) (Nat.lt_trans (Nat.lt_of_lt_of_le ho (gn200 hR)) (by decide))) ?_
  refine x_aload_n (pc' := 120) rfl rfl rfl rfl rfl ?_
  refine x_iload_n (pc' := 121) rfl rfl rfl ?_
  refine x_cv (ls0 := [_, _]) (rest := []) rfl rfl rfl rfl rfl ?_
  refine r202 ((rp_A rfl).trans (congrArg (fun z => mAw z 20 o h) hM)) (Cn_cp cp_A hc) (Fr.ri (Fr_A rfl (Fr.refl _)) hR) hm ?_
  refine sK_i (pc' := 124) rfl ?_
  refine x_ifeq_z (a' := 139) (pc' := 127) (z := (nmF (mAw M 20 o h) n m)) rfl rfl rfl (fun q1 => ?_) (fun q1 => ?_)
  · refine x_iload (pc' := 141) rfl rfl rfl ?_
    refine x_reti rfl rfl ?_
    exact k0 q1
  · refine x_aload_n (pc' := 128) rfl rfl rfl rfl rfl ?_
    refine x_dup (pc' := 129) rfl rfl rfl ?_
    refine x_gI (pc' := 132) (x := (io n)) rfl rfl rfl (Eq.trans (b := sI t 786 0) rfl (gFn hM (Fr.refl _) hR)) ?_
    refine x_iconst (pc' := 133) rfl rfl ?_
    refine x_isub (pc' := 134) (z := ((io n) - 1)) rfl rfl rfl ?_
    refine x_pI (pc' := 137) rfl rfl rfl ?_
    refine x_iconst (pc' := 138) rfl rfl ?_
    refine x_reti rfl rfl ?_
    exact k1 q1
