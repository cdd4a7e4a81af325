/-! indices that are none (printed by tops.py) -/
set_option maxHeartbeats 4000000 in
set_option maxRecDepth 10000 in
theorem n131 {t : sT} {Q : sRs → sT → Prop} {M : sM} {n : Nat} {T : Nat} {L0 : List Nat} {A : Nat} {B : Nat} {p : Int32}
    (hW : Wc t M n T L0 A B)
    (k0 : p < 0 → Q (.inr 0) (sThr t))
    (k1 : ¬ (p < 0) → p < 6 → X 131 27 [.inr (.inr (11, (some 0))), .inl p] [] t Q)
    (k2 : ¬ (p < 0) → ¬ (p < 6) → Q (.inr 0) (sThr t)) :
    X 131 0 [.inr (.inr (11, (some 0))), .inl p] [] t Q := by
  obtain ⟨hM, hc, hR, hC, hL, hL9⟩ := hW
  refine x_iload_n (pc' := 1) rfl rfl rfl ?_
  refine x_if (a' := 16) (pc' := 4) (z := decide (p < 0)) rfl rfl rfl rfl (fun q1 => ?_) (fun q1 => ?_)
  · refine x_throw rfl rfl ?_
    exact k0 (of_decide_eq_true q1)
  · refine x_iload_n (pc' := 5) rfl rfl rfl ?_
    refine x_aload_n (pc' := 6) rfl rfl rfl rfl rfl ?_
    refine x_gR (pc' := 9) (r := (some 0)) rfl rfl rfl (kR_704_0 hc.1) ?_
    refine x_gR (pc' := 12) (r := (some 0)) rfl rfl rfl (kR_321_0 hc.1) ?_
    refine x_alen (pc' := 13) (N := 6) rfl rfl rfl (kN_26_0 hc.1) (?_ : X _ _ _ (.inl 6 :: _) _ _)
    refine x_icmp (a' := 27) (pc' := 16) (z := decide (p < 6)) rfl rfl rfl rfl (fun q2 => ?_) (fun q2 => ?_)
    · exact k1 (of_decide_eq_false q1) (of_decide_eq_true q2)
    · refine x_throw rfl rfl ?_
      exact k2 (of_decide_eq_false q1) (of_decide_eq_false q2)
set_option maxHeartbeats 4000000 in
set_option maxRecDepth 10000 in
theorem n132 {t : sT} {Q : sRs → sT → Prop} {M : sM} {n : Nat} {T : Nat} {L0 : List Nat} {A : Nat} {B : Nat} {p : Int32}
    (hW : Wc t M n T L0 A B)
    (k0 : p < 0 → Q (.inr 0) (sThr t))
    (k1 : ¬ (p < 0) → p < 3 → X 132 27 [.inr (.inr (11, (some 0))), .inl p] [] t Q)
    (k2 : ¬ (p < 0) → ¬ (p < 3) → Q (.inr 0) (sThr t)) :
    X 132 0 [.inr (.inr (11, (some 0))), .inl p] [] t Q := by
  obtain ⟨hM, hc, hR, hC, hL, hL9⟩ := hW
  refine x_iload_n (pc' := 1) rfl rfl rfl ?_
  refine x_if (a' := 16) (pc' := 4) (z := decide (p < 0)) rfl rfl rfl rfl (fun q1 => ?_) (fun q1 => ?_)
  · refine x_throw rfl rfl ?_
    exact k0 (of_decide_eq_true q1)
  · refine x_iload_n (pc' := 5) rfl rfl rfl ?_
    refine x_aload_n (pc' := 6) rfl rfl rfl rfl rfl ?_
    refine x_gR (pc' := 9) (r := (some 0)) rfl rfl rfl (kR_704_0 hc.1) ?_
    refine x_gR (pc' := 12) (r := (some 0)) rfl rfl rfl (kR_320_0 hc.1) ?_
    refine x_alen (pc' := 13) (N := 3) rfl rfl rfl (kN_25_0 hc.1) (?_ : X _ _ _ (.inl 3 :: _) _ _)
    refine x_icmp (a' := 27) (pc' := 16) (z := decide (p < 3)) rfl rfl rfl rfl (fun q2 => ?_) (fun q2 => ?_)
    · exact k1 (of_decide_eq_false q1) (of_decide_eq_true q2)
    · refine x_throw rfl rfl ?_
      exact k2 (of_decide_eq_false q1) (of_decide_eq_false q2)
set_option maxHeartbeats 4000000 in
set_option maxRecDepth 10000 in
theorem n133 {t : sT} {Q : sRs → sT → Prop} {M : sM} {n : Nat} {T : Nat} {L0 : List Nat} {A : Nat} {B : Nat} {p : Int32}
    (hW : Wc t M n T L0 A B)
    (k0 : p < 0 → Q (.inr 0) (sThr t))
    (k1 : ¬ (p < 0) → p < 5 → X 133 27 [.inr (.inr (11, (some 0))), .inl p] [] t Q)
    (k2 : ¬ (p < 0) → ¬ (p < 5) → Q (.inr 0) (sThr t)) :
    X 133 0 [.inr (.inr (11, (some 0))), .inl p] [] t Q := by
  obtain ⟨hM, hc, hR, hC, hL, hL9⟩ := hW
  refine x_iload_n (pc' := 1) rfl rfl rfl ?_
  refine x_if (a' := 16) (pc' := 4) (z := decide (p < 0)) rfl rfl rfl rfl (fun q1 => ?_) (fun q1 => ?_)
  · refine x_throw rfl rfl ?_
    exact k0 (of_decide_eq_true q1)
  · refine x_iload_n (pc' := 5) rfl rfl rfl ?_
    refine x_aload_n (pc' := 6) rfl rfl rfl rfl rfl ?_
    refine x_gR (pc' := 9) (r := (some 0)) rfl rfl rfl (kR_705_0 hc.1) ?_
    refine x_gR (pc' := 12) (r := (some 0)) rfl rfl rfl (kR_256_0 hc.1) ?_
    refine x_alen (pc' := 13) (N := 5) rfl rfl rfl (kN_24_0 hc.1) (?_ : X _ _ _ (.inl 5 :: _) _ _)
    refine x_icmp (a' := 27) (pc' := 16) (z := decide (p < 5)) rfl rfl rfl rfl (fun q2 => ?_) (fun q2 => ?_)
    · exact k1 (of_decide_eq_false q1) (of_decide_eq_true q2)
    · refine x_throw rfl rfl ?_
      exact k2 (of_decide_eq_false q1) (of_decide_eq_false q2)
set_option maxHeartbeats 4000000 in
set_option maxRecDepth 10000 in
theorem n134 {t : sT} {Q : sRs → sT → Prop} {M : sM} {n : Nat} {T : Nat} {L0 : List Nat} {A : Nat} {B : Nat} {p : Int32}
    (hW : Wc t M n T L0 A B)
    (k0 : p < 0 → Q (.inr 0) (sThr t))
    (k1 : ¬ (p < 0) → p < (io n) → X 134 29 [.inr (.inr (11, (some 0))), .inl p] [] t Q)
    (k2 : ¬ (p < 0) → ¬ (p < (io n)) → Q (.inr 0) (sThr t)) :
    X 134 0 [.inr (.inr (11, (some 0))), .inl p] [] t Q := by
  obtain ⟨hM, hc, hR, hC, hL, hL9⟩ := hW
  refine x_iload_n (pc' := 1) rfl rfl rfl ?_
  refine x_if (a' := 18) (pc' := 4) (z := decide (p < 0)) rfl rfl rfl rfl (fun q1 => ?_) (fun q1 => ?_)
  · refine x_throw rfl rfl ?_
    exact k0 (of_decide_eq_true q1)
  · refine x_iload_n (pc' := 5) rfl rfl rfl ?_
    refine x_aload_n (pc' := 6) rfl rfl rfl rfl rfl ?_
    refine x_gR (pc' := 9) (r := (some 0)) rfl rfl rfl (kR_705_0 hc.1) ?_
    refine x_gR (pc' := 12) (r := (some 1)) rfl rfl rfl (kR_257_0 hc.1) ?_
    refine x_cv (ls0 := [_]) (rest := [_]) rfl rfl rfl rfl rfl ?_
    refine x_aload_n (pc' := 1) rfl rfl rfl rfl rfl ?_
    refine x_gI (pc' := 4) (x := (io n)) rfl rfl rfl (Sf_n hc) ?_
    refine x_reti rfl rfl ?_
    refine sK_i (pc' := 15) rfl ?_
    refine x_icmp (a' := 29) (pc' := 18) (z := decide (p < (io n))) rfl rfl rfl rfl (fun q2 => ?_) (fun q2 => ?_)
    · exact k1 (of_decide_eq_false q1) (of_decide_eq_true q2)
    · refine x_throw rfl rfl ?_
      exact k2 (of_decide_eq_false q1) (of_decide_eq_false q2)
set_option maxHeartbeats 4000000 in
set_option maxRecDepth 10000 in
theorem n135 {t : sT} {Q : sRs → sT → Prop} {M : sM} {n : Nat} {T : Nat} {L0 : List Nat} {A : Nat} {B : Nat} {p : Int32}
    (hW : Wc t M n T L0 A B)
    (k0 : p < 0 → Q (.inr 0) (sThr t))
    (k1 : ¬ (p < 0) → p < (io T) → X 135 29 [.inr (.inr (11, (some 0))), .inl p] [] t Q)
    (k2 : ¬ (p < 0) → ¬ (p < (io T)) → Q (.inr 0) (sThr t)) :
    X 135 0 [.inr (.inr (11, (some 0))), .inl p] [] t Q := by
  obtain ⟨hM, hc, hR, hC, hL, hL9⟩ := hW
  refine x_iload_n (pc' := 1) rfl rfl rfl ?_
  refine x_if (a' := 18) (pc' := 4) (z := decide (p < 0)) rfl rfl rfl rfl (fun q1 => ?_) (fun q1 => ?_)
  · refine x_throw rfl rfl ?_
    exact k0 (of_decide_eq_true q1)
  · refine x_iload_n (pc' := 5) rfl rfl rfl ?_
    refine x_aload_n (pc' := 6) rfl rfl rfl rfl rfl ?_
    refine x_gR (pc' := 9) (r := (some 0)) rfl rfl rfl (kR_704_0 hc.1) ?_
    refine x_gR (pc' := 12) (r := (some 0)) rfl rfl rfl (kR_322_0 hc.1) ?_
    refine x_cv (ls0 := [_]) (rest := [_]) rfl rfl rfl rfl rfl ?_
    refine x_aload_n (pc' := 1) rfl rfl rfl rfl rfl ?_
    refine x_gI (pc' := 4) (x := (io T)) rfl rfl rfl (Sf_T hc) ?_
    refine x_reti rfl rfl ?_
    refine sK_i (pc' := 15) rfl ?_
    refine x_icmp (a' := 29) (pc' := 18) (z := decide (p < (io T))) rfl rfl rfl rfl (fun q2 => ?_) (fun q2 => ?_)
    · exact k1 (of_decide_eq_false q1) (of_decide_eq_true q2)
    · refine x_throw rfl rfl ?_
      exact k2 (of_decide_eq_false q1) (of_decide_eq_false q2)
set_option maxHeartbeats 4000000 in
set_option maxRecDepth 10000 in
theorem n126 {t : sT} {Q : sRs → sT → Prop} {M : sM} {n : Nat} {T : Nat} {L0 : List Nat} {A : Nat} {B : Nat} {p : Int32} {N : Nat}
    (hW : Wc t M n T L0 A B)
    (k0 : p < 0 → Q (.inr 0) (sThr t))
    (k1 : ¬ (p < 0) → p < (io N) → X 126 20 [.inl p, .inl (io N)] [] t Q)
    (k2 : ¬ (p < 0) → ¬ (p < (io N)) → Q (.inr 0) (sThr t)) :
    X 126 0 [.inl p, .inl (io N)] [] t Q := by
  obtain ⟨hM, hc, hR, hC, hL, hL9⟩ := hW
  refine x_iload_n (pc' := 1) rfl rfl rfl ?_
  refine x_if (a' := 9) (pc' := 4) (z := decide (p < 0)) rfl rfl rfl rfl (fun q1 => ?_) (fun q1 => ?_)
  · refine x_throw rfl rfl ?_
    exact k0 (of_decide_eq_true q1)
  · refine x_iload_n (pc' := 5) rfl rfl rfl ?_
    refine x_iload_n (pc' := 6) rfl rfl rfl ?_
    refine x_icmp (a' := 20) (pc' := 9) (z := decide (p < (io N))) rfl rfl rfl rfl (fun q2 => ?_) (fun q2 => ?_)
    · exact k1 (of_decide_eq_false q1) (of_decide_eq_true q2)
    · refine x_throw rfl rfl ?_
      exact k2 (of_decide_eq_false q1) (of_decide_eq_false q2)
section S89
variable {t t' t0 : sT} {M M' M0 N : sM} {n T A B b c m o k x y K w f v j F : Nat} {p a h d sz : Int32} {s z : Bool} {L L' l : List Nat} {r r0 : Option Nat} {y0 y1 y2 : sV} {Q : sRs → sT → Prop}
theorem b131_x (hW : Wc t M n T L A B) (hp : ixo p 6 = none) (q : Q (.inr 0) (sThr t)) : X 131 0 [.inr (.inr (11, (some 0))), .inl p] [] t Q :=
  n131 hW (fun _ => q) (fun h1 h2 => absurd h2 ((ixo_n (N := 6) (by decide) hp).resolve_left h1)) (fun _ _ => q)
theorem b132_x (hW : Wc t M n T L A B) (hp : ixo p 3 = none) (q : Q (.inr 0) (sThr t)) : X 132 0 [.inr (.inr (11, (some 0))), .inl p] [] t Q :=
  n132 hW (fun _ => q) (fun h1 h2 => absurd h2 ((ixo_n (N := 3) (by decide) hp).resolve_left h1)) (fun _ _ => q)
theorem b133_x (hW : Wc t M n T L A B) (hp : ixo p 5 = none) (q : Q (.inr 0) (sThr t)) : X 133 0 [.inr (.inr (11, (some 0))), .inl p] [] t Q :=
  n133 hW (fun _ => q) (fun h1 h2 => absurd h2 ((ixo_n (N := 5) (by decide) hp).resolve_left h1)) (fun _ _ => q)
theorem b134_x (hW : Wc t M n T L A B) (hp : ixo p n = none) (q : Q (.inr 0) (sThr t)) : X 134 0 [.inr (.inr (11, (some 0))), .inl p] [] t Q :=
  n134 hW (fun _ => q) (fun h1 h2 => absurd h2 ((ixo_n (N := n) (gn31 hW.2.2.1) hp).resolve_left h1)) (fun _ _ => q)
theorem b135_x (hW : Wc t M n T L A B) (hp : ixo p T = none) (q : Q (.inr 0) (sThr t)) : X 135 0 [.inr (.inr (11, (some 0))), .inl p] [] t Q :=
  n135 hW (fun _ => q) (fun h1 h2 => absurd h2 ((ixo_n (N := T) (gT31 hW.2.1) hp).resolve_left h1)) (fun _ _ => q)
theorem b126_x {N : Nat} (hW : Wc t M n T L A B) (hN : N < 2 ^ 31) (hp : ixo p N = none) (q : Q (.inr 0) (sThr t)) : X 126 0 [.inl p, .inl (io N)] [] t Q :=
  n126 hW (fun _ => q) (fun h1 h2 => absurd h2 ((ixo_n hN hp).resolve_left h1)) (fun _ _ => q)
theorem io_pre (ho : o < n) (hn : n < 2 ^ 31) : ¬ (io n - 1 : Int32) < io o := fun h => by
  rw [show (io n - 1 : Int32) = io (n - 1) from io_sub (p := n) (q := 1) (by omega)] at h
  have := (io_lt (by omega) (by omega)).mp h
  omega
theorem ixo_x1 {N : Nat} (hN : N < 2 ^ 31) (h : ixo p N = none) (h0 : ¬ p < 0) : io N - 1 < p := by
  have g := (ixo_n hN h).resolve_left h0
  rw [Int32.lt_iff_toInt_lt, io_int hN] at g
  rw [Int32.lt_iff_toInt_lt, Int32.toInt_sub, io_int hN]
  have e1 : (1 : Int32).toInt = 1 := rfl
  have h1 : ((N : Int) - 1).bmod (2 ^ 32) = (N : Int) - 1 := Int.bmod_eq_of_le (by omega) (by omega)
  rw [e1, h1]; omega
theorem ixo_c5 (h : ixo p 5 = none) (h0 : ¬ p < 0) : 4 < p := by
  have := ixo_x1 (N := 5) (by decide) h h0
  rw [show (io 5 - 1 : Int32) = 4 by decide] at this; exact this
theorem ixo_c6 (h : ixo p 6 = none) (h0 : ¬ p < 0) : 5 < p := by
  have := ixo_x1 (N := 6) (by decide) h h0
  rw [show (io 6 - 1 : Int32) = 5 by decide] at this; exact this
theorem ixo_c3 (h : ixo p 3 = none) (h0 : ¬ p < 0) : 2 < p := by
  have := ixo_x1 (N := 3) (by decide) h h0
  rw [show (io 3 - 1 : Int32) = 2 by decide] at this; exact this
end S89
section S89b
variable {t t' t0 : sT} {M M' M0 N : sM} {n T A B b c m o k x y K w f v j F : Nat} {p a h d sz : Int32} {s z : Bool} {L L' l : List Nat} {r r0 : Option Nat} {y0 y1 y2 : sV} {Q : sRs → sT → Prop}
end S89b
