/-! the class's order, now, stop, quote, in pieces (printed by ord96.py) -/
set_option maxHeartbeats 4000000 in
set_option maxRecDepth 10000 in
theorem n94 {t : sT} {Q : sRs → sT → Prop} {M : sM} {n : Nat} {T : Nat} {L0 : List Nat} {A : Nat} {B : Nat} {m : Nat} {b : Nat} {s : Bool} {p : Int32} {a : Int32} {h : Int32}
    (hW : Wc t M n T L0 A B)
    (hm : m < 6)
    (hb : b < 5)
    (hb0 : (n + 1) < 2 ^ 31)
    (k0 : (snd b) = none → p < 1 → Q (.inr 1) (sThr t))
    (k1 : (snd b) = none → ¬ (p < 1) → ¬ (999 < p) → a < 1 → Q (.inr 1) (sThr t))
    (k2 : (snd b) = none → ¬ (p < 1) → ¬ (999 < p) → ¬ (a < 1) → ¬ (100 < a) → h < 1 → Q (.inr 1) (sThr t))
    (k3 : (snd b) = none → ¬ (p < 1) → ¬ (999 < p) → ¬ (a < 1) → ¬ (100 < a) → ¬ (h < 1) → ¬ (a < h) → (mA M 0 b) = 0 → Q (.inr 2) (sThr t))
    (k4 : (snd b) = none → ¬ (p < 1) → ¬ (999 < p) → ¬ (a < 1) → ¬ (100 < a) → ¬ (h < 1) → ¬ (a < h) → ¬ ((mA M 0 b) = 0) → (mB M 2 m) = true → Q (.inr 2) (sThr t))
    (k5 : (snd b) = none → ¬ (p < 1) → ¬ (999 < p) → ¬ (a < 1) → ¬ (100 < a) → ¬ (h < 1) → ¬ (a < h) → ¬ ((mA M 0 b) = 0) → (mB M 2 m) = false → 200 < (n + 1) → Q (.inr 2) (sThr t))
    (k6 : (snd b) = none → ¬ (p < 1) → ¬ (999 < p) → ¬ (a < 1) → ¬ (100 < a) → ¬ (h < 1) → ¬ (a < h) → ¬ ((mA M 0 b) = 0) → (mB M 2 m) = false → ¬ (200 < (n + 1)) → X 138 0 [.inr (.inr (11, (some 0))), .inr (.inr (7, (some m))), .inr (.inr (1, (some b))), .inl (bz s), .inl a, sJk] [] t (sK 138 94 68 [.inr (.inr (11, (some 0))), .inl (io m), .inl (io b), .inl (bz s), .inl p, .inl a, .inl h, .inr (.inr (7, (some m))), .inr (.inr (1, (some b))), sJk] [] Q))
    (k7 : (snd b) = none → ¬ (p < 1) → ¬ (999 < p) → ¬ (a < 1) → ¬ (100 < a) → ¬ (h < 1) → a < h → Q (.inr 1) (sThr t))
    (k8 : (snd b) = none → ¬ (p < 1) → ¬ (999 < p) → ¬ (a < 1) → 100 < a → Q (.inr 1) (sThr t))
    (k9 : (snd b) = none → ¬ (p < 1) → 999 < p → Q (.inr 1) (sThr t))
    (k10 : ∀ j0, (snd b) = some j0 → p < (-500) → Q (.inr 1) (sThr t))
    (k11 : ∀ j0, (snd b) = some j0 → ¬ (p < (-500)) → ¬ (500 < p) → a < 1 → Q (.inr 1) (sThr t))
    (k12 : ∀ j0, (snd b) = some j0 → ¬ (p < (-500)) → ¬ (500 < p) → ¬ (a < 1) → ¬ (100 < a) → h < 1 → Q (.inr 1) (sThr t))
    (k13 : ∀ j0, (snd b) = some j0 → ¬ (p < (-500)) → ¬ (500 < p) → ¬ (a < 1) → ¬ (100 < a) → ¬ (h < 1) → ¬ (a < h) → (mA M 0 b) = 0 → Q (.inr 2) (sThr t))
    (k14 : ∀ j0, (snd b) = some j0 → ¬ (p < (-500)) → ¬ (500 < p) → ¬ (a < 1) → ¬ (100 < a) → ¬ (h < 1) → ¬ (a < h) → ¬ ((mA M 0 b) = 0) → (mB M 2 m) = true → Q (.inr 2) (sThr t))
    (k15 : ∀ j0, (snd b) = some j0 → ¬ (p < (-500)) → ¬ (500 < p) → ¬ (a < 1) → ¬ (100 < a) → ¬ (h < 1) → ¬ (a < h) → ¬ ((mA M 0 b) = 0) → (mB M 2 m) = false → 200 < (n + 1) → Q (.inr 2) (sThr t))
    (k16 : ∀ j0, (snd b) = some j0 → ¬ (p < (-500)) → ¬ (500 < p) → ¬ (a < 1) → ¬ (100 < a) → ¬ (h < 1) → ¬ (a < h) → ¬ ((mA M 0 b) = 0) → (mB M 2 m) = false → ¬ (200 < (n + 1)) → X 138 0 [.inr (.inr (11, (some 0))), .inr (.inr (7, (some m))), .inr (.inr (1, (some b))), .inl (bz s), .inl a, sJk] [] t (sK 138 94 68 [.inr (.inr (11, (some 0))), .inl (io m), .inl (io b), .inl (bz s), .inl p, .inl a, .inl h, .inr (.inr (7, (some m))), .inr (.inr (1, (some b))), sJk] [] Q))
    (k17 : ∀ j0, (snd b) = some j0 → ¬ (p < (-500)) → ¬ (500 < p) → ¬ (a < 1) → ¬ (100 < a) → ¬ (h < 1) → a < h → Q (.inr 1) (sThr t))
    (k18 : ∀ j0, (snd b) = some j0 → ¬ (p < (-500)) → ¬ (500 < p) → ¬ (a < 1) → 100 < a → Q (.inr 1) (sThr t))
    (k19 : ∀ j0, (snd b) = some j0 → ¬ (p < (-500)) → 500 < p → Q (.inr 1) (sThr t)) :
    X 94 0 [.inr (.inr (11, (some 0))), .inl (io m), .inl (io b), .inl (bz s), .inl p, .inl a, .inl h, sJk, sJk, sJk] [] t Q := by
  obtain ⟨hM, hc, hR, hC, hL, hL9⟩ := hW
  refine x_aload_n (pc' := 1) rfl rfl rfl rfl rfl ?_
  refine x_iload_n (pc' := 2) rfl rfl rfl ?_
  refine x_cv (ls0 := [_, _]) (rest := []) rfl rfl rfl rfl rfl ?_
  refine x_iload_n (pc' := 1) rfl rfl rfl ?_
  refine x_if (a' := 16) (pc' := 4) (z := decide (m < 0)) rfl rfl rfl (ic_lt (p := m) (q := 0) (gm31 hm) (by decide)) (fun h => absurd (of_decide_eq_true h) (by first | decide | omega | simp)) (fun _ => ?_)
  refine x_iload_n (pc' := 5) rfl rfl rfl ?_
  refine x_aload_n (pc' := 6) rfl rfl rfl rfl rfl ?_
  refine x_gR (pc' := 9) (r := (some 0)) rfl rfl rfl (kR_704_0 hc.1) ?_
  refine x_gR (pc' := 12) (r := (some 0)) rfl rfl rfl (kR_321_0 hc.1) ?_
  refine x_alen (pc' := 13) (N := 6) rfl rfl rfl (kN_26_0 hc.1) (?_ : X _ _ _ (.inl 6 :: _) _ _)
  refine x_icmp (a' := 27) (pc' := 16) (z := decide (m < 6)) rfl rfl rfl (ic_lt (p := m) (q := 6) (gm31 hm) (by decide)) (fun _ => ?_) (fun h => absurd hm (of_decide_eq_false h))
  refine x_aload_n (pc' := 28) rfl rfl rfl rfl rfl ?_
  refine x_gR (pc' := 31) (r := (some 0)) rfl rfl rfl (kR_704_0 hc.1) ?_
  refine x_gR (pc' := 34) (r := (some 0)) rfl rfl rfl (kR_321_0 hc.1) ?_
  refine x_iload_n (pc' := 35) rfl rfl rfl ?_
  refine x_aald (pc' := 36) (N := 6) (k' := 7) (r := (some m)) rfl rfl rfl (kN_26_0 hc.1) (io_in (p := m) (N := 6) hm (by decide)) (Eq.trans (congrArg (sE t 26 0) (nn_io (p := m) (Nat.lt_trans hm (by decide)))) (kM hc.1 hm)) ?_
  refine x_reta rfl rfl ?_
  refine sK_i (pc' := 5) rfl ?_
  refine x_astore (pc' := 7) (ls' := [_, _, _, _, _, _, _, _, _, _]) rfl rfl rfl rfl rfl ?_
  refine x_aload_n (pc' := 8) rfl rfl rfl rfl rfl ?_
  refine x_iload_n (pc' := 9) rfl rfl rfl ?_
  refine x_cv (ls0 := [_, _]) (rest := []) rfl rfl rfl rfl rfl ?_
  refine x_iload_n (pc' := 1) rfl rfl rfl ?_
  refine x_if (a' := 16) (pc' := 4) (z := decide (b < 0)) rfl rfl rfl (ic_lt (p := b) (q := 0) (gb31 hb) (by decide)) (fun h => absurd (of_decide_eq_true h) (by first | decide | omega | simp)) (fun _ => ?_)
  refine x_iload_n (pc' := 5) rfl rfl rfl ?_
  refine x_aload_n (pc' := 6) rfl rfl rfl rfl rfl ?_
  refine x_gR (pc' := 9) (r := (some 0)) rfl rfl rfl (kR_705_0 hc.1) ?_
  refine x_gR (pc' := 12) (r := (some 0)) rfl rfl rfl (kR_256_0 hc.1) ?_
  refine x_alen (pc' := 13) (N := 5) rfl rfl rfl (kN_24_0 hc.1) (?_ : X _ _ _ (.inl 5 :: _) _ _)
  refine x_icmp (a' := 27) (pc' := 16) (z := decide (b < 5)) rfl rfl rfl (ic_lt (p := b) (q := 5) (gb31 hb) (by decide)) (fun _ => ?_) (fun h => absurd hb (of_decide_eq_false h))
  refine x_aload_n (pc' := 28) rfl rfl rfl rfl rfl ?_
  refine x_gR (pc' := 31) (r := (some 0)) rfl rfl rfl (kR_705_0 hc.1) ?_
  refine x_gR (pc' := 34) (r := (some 0)) rfl rfl rfl (kR_256_0 hc.1) ?_
  refine x_iload_n (pc' := 35) rfl rfl rfl ?_
  refine x_aald (pc' := 36) (N := 5) (k' := 1) (r := (some b)) rfl rfl rfl (kN_24_0 hc.1) (io_in (p := b) (N := 5) hb (by decide)) (Eq.trans (congrArg (sE t 24 0) (nn_io (p := b) (Nat.lt_trans hb (by decide)))) (kB hc.1 hb)) ?_
  refine x_reta rfl rfl ?_
  refine sK_i (pc' := 12) rfl ?_
  refine x_astore (pc' := 14) (ls' := [_, _, _, _, _, _, _, _, _, _]) rfl rfl rfl rfl rfl ?_
  refine x_aload (pc' := 16) rfl rfl rfl rfl rfl ?_
  refine x_iload (pc' := 18) rfl rfl rfl ?_
  refine x_cs (ls0 := [_, _]) (rest := []) rfl rfl rfl rfl ?_
  refine x_aload_n (pc' := 1) rfl rfl rfl rfl rfl ?_
  refine x_cv (ls0 := [_]) (rest := []) rfl rfl rfl rfl rfl ?_
  refine x_aload_n (pc' := 1) rfl rfl rfl rfl rfl ?_
  refine x_gR (pc' := 4) (r := (snd b)) rfl rfl rfl (kBk hc.1 hb).2.1 ?_
  refine x_ifnull (a' := 11) (pc' := 7) rfl rfl rfl rfl (fun q5 => ?_) (fun j0 q5 => ?_)
  · refine x_iconst (pc' := 12) rfl rfl ?_
    refine x_retz (z := false) rfl rfl ?_
    refine sK_i (pc' := 4) rfl ?_
    refine x_if (a' := 20) (pc' := 7) (z := true) rfl rfl rfl (by decide) (fun _ => ?_) (fun h => by cases h)
    refine x_iload_n (pc' := 21) rfl rfl rfl ?_
    refine x_iconst (pc' := 22) rfl rfl ?_
    refine x_sipush (pc' := 25) rfl rfl ?_
    refine x_cs (ls0 := [_, _, _]) (rest := []) rfl rfl rfl rfl ?_
    refine x_iload_n (pc' := 1) rfl rfl rfl ?_
    refine x_iload_n (pc' := 2) rfl rfl rfl ?_
    refine x_icmp (a' := 10) (pc' := 5) (z := decide (p < 1)) rfl rfl rfl rfl (fun q7 => ?_) (fun q7 => ?_)
    · refine x_throw rfl rfl ?_
      refine sK_n (by decide +kernel) rfl ?_
      refine sK_n (by decide +kernel) rfl ?_
      exact k0 q5 (of_decide_eq_true q7)
    · refine x_iload_n (pc' := 6) rfl rfl rfl ?_
      refine x_iload_n (pc' := 7) rfl rfl rfl ?_
      refine x_icmp_n (a' := 21) (pc' := 10) (z := decide (999 < p)) rfl rfl rfl (ik_le _ _) (fun q8 => ?_) (fun q8 => ?_)
      · refine x_ret rfl ?_
        refine sK_v (pc' := 28) rfl ?_
        refine x_ret rfl ?_
        refine sK_v (pc' := 21) rfl ?_
        refine x_iload (pc' := 23) rfl rfl rfl ?_
        refine x_iconst (pc' := 24) rfl rfl ?_
        refine x_bipush (pc' := 26) rfl rfl ?_
        refine x_cs (ls0 := [_, _, _]) (rest := []) rfl rfl rfl rfl ?_
        refine x_iload_n (pc' := 1) rfl rfl rfl ?_
        refine x_iload_n (pc' := 2) rfl rfl rfl ?_
        refine x_icmp (a' := 10) (pc' := 5) (z := decide (a < 1)) rfl rfl rfl rfl (fun q9 => ?_) (fun q9 => ?_)
        · refine x_throw rfl rfl ?_
          refine sK_n (by decide +kernel) rfl ?_
          exact k1 q5 (of_decide_eq_false q7) (of_decide_eq_false q8) (of_decide_eq_true q9)
        · refine x_iload_n (pc' := 6) rfl rfl rfl ?_
          refine x_iload_n (pc' := 7) rfl rfl rfl ?_
          refine x_icmp_n (a' := 21) (pc' := 10) (z := decide (100 < a)) rfl rfl rfl (ik_le _ _) (fun q10 => ?_) (fun q10 => ?_)
          · refine x_ret rfl ?_
            refine sK_v (pc' := 29) rfl ?_
            refine x_iload (pc' := 31) rfl rfl rfl ?_
            refine x_iconst (pc' := 32) rfl rfl ?_
            refine x_iload (pc' := 34) rfl rfl rfl ?_
            refine x_cs (ls0 := [_, _, _]) (rest := []) rfl rfl rfl rfl ?_
            refine x_iload_n (pc' := 1) rfl rfl rfl ?_
            refine x_iload_n (pc' := 2) rfl rfl rfl ?_
            refine x_icmp (a' := 10) (pc' := 5) (z := decide (h < 1)) rfl rfl rfl rfl (fun q11 => ?_) (fun q11 => ?_)
            · refine x_throw rfl rfl ?_
              refine sK_n (by decide +kernel) rfl ?_
              exact k2 q5 (of_decide_eq_false q7) (of_decide_eq_false q8) (of_decide_eq_false q9) (of_decide_eq_false q10) (of_decide_eq_true q11)
            · refine x_iload_n (pc' := 6) rfl rfl rfl ?_
              refine x_iload_n (pc' := 7) rfl rfl rfl ?_
              refine x_icmp_n (a' := 21) (pc' := 10) (z := decide (a < h)) rfl rfl rfl (ik_le _ _) (fun q12 => ?_) (fun q12 => ?_)
              · refine x_ret rfl ?_
                refine sK_v (pc' := 37) rfl ?_
                refine x_aload (pc' := 39) rfl rfl rfl rfl rfl ?_
                refine x_gI (pc' := 42) (x := (mA M 0 b)) rfl rfl rfl (kA hM rfl hb) ?_
                refine x_if (a' := 49) (pc' := 45) (z := decide ((mA M 0 b) = 0)) rfl rfl rfl rfl (fun q13 => ?_) (fun q13 => ?_)
                · refine x_iconst (pc' := 50) rfl rfl ?_
                  refine x_cs (ls0 := [_]) (rest := []) rfl rfl rfl rfl ?_
                  refine x_iload_n (pc' := 1) rfl rfl rfl ?_
                  refine x_if (a' := 15) (pc' := 4) (z := false) rfl rfl rfl (by decide) (fun h => by cases h) (fun _ => ?_)
                  refine x_throw rfl rfl ?_
                  refine sK_n (by decide +kernel) rfl ?_
                  exact k3 q5 (of_decide_eq_false q7) (of_decide_eq_false q8) (of_decide_eq_false q9) (of_decide_eq_false q10) (of_decide_eq_false q11) (of_decide_eq_false q12) (of_decide_eq_true q13)
                · refine x_iconst (pc' := 46) rfl rfl ?_
                  refine x_goto (pc' := 50) rfl rfl ?_
                  refine x_cs (ls0 := [_]) (rest := []) rfl rfl rfl rfl ?_
                  refine x_iload_n (pc' := 1) rfl rfl rfl ?_
                  refine x_if (a' := 15) (pc' := 4) (z := true) rfl rfl rfl (by decide) (fun _ => ?_) (fun h => by cases h)
                  refine x_ret rfl ?_
                  refine sK_v (pc' := 53) rfl ?_
                  refine x_aload_n (pc' := 54) rfl rfl rfl rfl rfl ?_
                  refine x_aload (pc' := 56) rfl rfl rfl rfl rfl ?_
                  refine x_iconst (pc' := 57) rfl rfl ?_
                  refine x_cv (ls0 := [_, _, _]) (rest := []) rfl rfl rfl rfl rfl ?_
                  refine x_aload_n (pc' := 1) rfl rfl rfl rfl rfl ?_
                  refine x_gZ (pc' := 4) (z := (mB M 2 m)) rfl rfl rfl (kZ hM rfl hm) ?_
                  refine x_ifne_z (a' := 29) (pc' := 7) (z := (mB M 2 m)) rfl rfl rfl (fun q16 => ?_) (fun q16 => ?_)
                  · refine x_iconst (pc' := 30) rfl rfl ?_
                    refine x_cs (ls0 := [_]) (rest := []) rfl rfl rfl rfl ?_
                    refine x_iload_n (pc' := 1) rfl rfl rfl ?_
                    refine x_if (a' := 15) (pc' := 4) (z := false) rfl rfl rfl (by decide) (fun h => by cases h) (fun _ => ?_)
                    refine x_throw rfl rfl ?_
                    refine sK_n (by decide +kernel) rfl ?_
                    refine sK_n (by decide +kernel) rfl ?_
                    exact k4 q5 (of_decide_eq_false q7) (of_decide_eq_false q8) (of_decide_eq_false q9) (of_decide_eq_false q10) (of_decide_eq_false q11) (of_decide_eq_false q12) (of_decide_eq_false q13) q16
                  · refine x_aload_n (pc' := 8) rfl rfl rfl rfl rfl ?_
                    refine x_gR (pc' := 11) (r := (some 0)) rfl rfl rfl (kR_705_0 hc.1) ?_
                    refine x_gR (pc' := 14) (r := (some 1)) rfl rfl rfl (kR_257_0 hc.1) ?_
                    refine x_cv (ls0 := [_]) (rest := []) rfl rfl rfl rfl rfl ?_
                    refine x_aload_n (pc' := 1) rfl rfl rfl rfl rfl ?_
                    refine x_gI (pc' := 4) (x := (io n)) rfl rfl rfl (Sf_n hc) ?_
                    refine x_reti rfl rfl ?_
                    refine sK_i (pc' := 17) rfl ?_
                    refine x_iload_n (pc' := 18) rfl rfl rfl ?_
                    refine x_iadd (pc' := 19) (z := (io (n + 1))) rfl rfl (io_add n 1) ?_
                    refine x_sipush (pc' := 22) rfl rfl ?_
                    refine x_icmp (a' := 29) (pc' := 25) (z := decide (200 < (n + 1))) rfl rfl rfl (ic_gt (p := (n + 1)) (q := 200) hb0 (by decide)) (fun q18 => ?_) (fun q18 => ?_)
                    · refine x_iconst (pc' := 30) rfl rfl ?_
                      refine x_cs (ls0 := [_]) (rest := []) rfl rfl rfl rfl ?_
                      refine x_iload_n (pc' := 1) rfl rfl rfl ?_
                      refine x_if (a' := 15) (pc' := 4) (z := false) rfl rfl rfl (by decide) (fun h => by cases h) (fun _ => ?_)
                      refine x_throw rfl rfl ?_
                      refine sK_n (by decide +kernel) rfl ?_
                      refine sK_n (by decide +kernel) rfl ?_
                      exact k5 q5 (of_decide_eq_false q7) (of_decide_eq_false q8) (of_decide_eq_false q9) (of_decide_eq_false q10) (of_decide_eq_false q11) (of_decide_eq_false q12) (of_decide_eq_false q13) q16 (of_decide_eq_true q18)
                    · refine x_iconst (pc' := 26) rfl rfl ?_
                      refine x_goto (pc' := 30) rfl rfl ?_
                      refine x_cs (ls0 := [_]) (rest := []) rfl rfl rfl rfl ?_
                      refine x_iload_n (pc' := 1) rfl rfl rfl ?_
                      refine x_if (a' := 15) (pc' := 4) (z := true) rfl rfl rfl (by decide) (fun _ => ?_) (fun h => by cases h)
                      refine x_ret rfl ?_
                      refine sK_v (pc' := 33) rfl ?_
                      refine x_ret rfl ?_
                      refine sK_v (pc' := 60) rfl ?_
                      refine x_aload_n (pc' := 61) rfl rfl rfl rfl rfl ?_
                      refine x_aload (pc' := 63) rfl rfl rfl rfl rfl ?_
                      refine x_aload (pc' := 65) rfl rfl rfl rfl rfl ?_
                      refine x_iload_n (pc' := 66) rfl rfl rfl ?_
                      refine x_iload (pc' := 68) rfl rfl rfl ?_
                      refine x_cv (ls0 := [_, _, _, _, _, sJk]) (rest := []) rfl rfl rfl rfl rfl ?_
                      exact k6 q5 (of_decide_eq_false q7) (of_decide_eq_false q8) (of_decide_eq_false q9) (of_decide_eq_false q10) (of_decide_eq_false q11) (of_decide_eq_false q12) (of_decide_eq_false q13) q16 (of_decide_eq_false q18)
              · refine x_throw rfl rfl ?_
                refine sK_n (by decide +kernel) rfl ?_
                exact k7 q5 (of_decide_eq_false q7) (of_decide_eq_false q8) (of_decide_eq_false q9) (of_decide_eq_false q10) (of_decide_eq_false q11) (of_decide_eq_true q12)
          · refine x_throw rfl rfl ?_
            refine sK_n (by decide +kernel) rfl ?_
            exact k8 q5 (of_decide_eq_false q7) (of_decide_eq_false q8) (of_decide_eq_false q9) (of_decide_eq_true q10)
      · refine x_throw rfl rfl ?_
        refine sK_n (by decide +kernel) rfl ?_
        refine sK_n (by decide +kernel) rfl ?_
        exact k9 q5 (of_decide_eq_false q7) (of_decide_eq_true q8)
  · refine x_iconst (pc' := 8) rfl rfl ?_
    refine x_goto (pc' := 12) rfl rfl ?_
    refine x_retz (z := true) rfl rfl ?_
    refine sK_i (pc' := 4) rfl ?_
    refine x_if (a' := 20) (pc' := 7) (z := false) rfl rfl rfl (by decide) (fun h => by cases h) (fun _ => ?_)
    refine x_iload_n (pc' := 8) rfl rfl rfl ?_
    refine x_sipush (pc' := 11) rfl rfl ?_
    refine x_sipush (pc' := 14) rfl rfl ?_
    refine x_cs (ls0 := [_, _, _]) (rest := []) rfl rfl rfl rfl ?_
    refine x_iload_n (pc' := 1) rfl rfl rfl ?_
    refine x_iload_n (pc' := 2) rfl rfl rfl ?_
    refine x_icmp (a' := 10) (pc' := 5) (z := decide (p < (-500))) rfl rfl rfl rfl (fun q22 => ?_) (fun q22 => ?_)
    · refine x_throw rfl rfl ?_
      refine sK_n (by decide +kernel) rfl ?_
      refine sK_n (by decide +kernel) rfl ?_
      exact k10 j0 q5 (of_decide_eq_true q22)
    · refine x_iload_n (pc' := 6) rfl rfl rfl ?_
      refine x_iload_n (pc' := 7) rfl rfl rfl ?_
      refine x_icmp_n (a' := 21) (pc' := 10) (z := decide (500 < p)) rfl rfl rfl (ik_le _ _) (fun q23 => ?_) (fun q23 => ?_)
      · refine x_ret rfl ?_
        refine sK_v (pc' := 17) rfl ?_
        refine x_goto (pc' := 28) rfl rfl ?_
        refine x_ret rfl ?_
        refine sK_v (pc' := 21) rfl ?_
        refine x_iload (pc' := 23) rfl rfl rfl ?_
        refine x_iconst (pc' := 24) rfl rfl ?_
        refine x_bipush (pc' := 26) rfl rfl ?_
        refine x_cs (ls0 := [_, _, _]) (rest := []) rfl rfl rfl rfl ?_
        refine x_iload_n (pc' := 1) rfl rfl rfl ?_
        refine x_iload_n (pc' := 2) rfl rfl rfl ?_
        refine x_icmp (a' := 10) (pc' := 5) (z := decide (a < 1)) rfl rfl rfl rfl (fun q24 => ?_) (fun q24 => ?_)
        · refine x_throw rfl rfl ?_
          refine sK_n (by decide +kernel) rfl ?_
          exact k11 j0 q5 (of_decide_eq_false q22) (of_decide_eq_false q23) (of_decide_eq_true q24)
        · refine x_iload_n (pc' := 6) rfl rfl rfl ?_
          refine x_iload_n (pc' := 7) rfl rfl rfl ?_
          refine x_icmp_n (a' := 21) (pc' := 10) (z := decide (100 < a)) rfl rfl rfl (ik_le _ _) (fun q25 => ?_) (fun q25 => ?_)
          · refine x_ret rfl ?_
            refine sK_v (pc' := 29) rfl ?_
            refine x_iload (pc' := 31) rfl rfl rfl ?_
            refine x_iconst (pc' := 32) rfl rfl ?_
            refine x_iload (pc' := 34) rfl rfl rfl ?_
            refine x_cs (ls0 := [_, _, _]) (rest := []) rfl rfl rfl rfl ?_
            refine x_iload_n (pc' := 1) rfl rfl rfl ?_
            refine x_iload_n (pc' := 2) rfl rfl rfl ?_
            refine x_icmp (a' := 10) (pc' := 5) (z := decide (h < 1)) rfl rfl rfl rfl (fun q26 => ?_) (fun q26 => ?_)
            · refine x_throw rfl rfl ?_
              refine sK_n (by decide +kernel) rfl ?_
              exact k12 j0 q5 (of_decide_eq_false q22) (of_decide_eq_false q23) (of_decide_eq_false q24) (of_decide_eq_false q25) (of_decide_eq_true q26)
            · refine x_iload_n (pc' := 6) rfl rfl rfl ?_
              refine x_iload_n (pc' := 7) rfl rfl rfl ?_
              refine x_icmp_n (a' := 21) (pc' := 10) (z := decide (a < h)) rfl rfl rfl (ik_le _ _) (fun q27 => ?_) (fun q27 => ?_)
              · refine x_ret rfl ?_
                refine sK_v (pc' := 37) rfl ?_
                refine x_aload (pc' := 39) rfl rfl rfl rfl rfl ?_
                refine x_gI (pc' := 42) (x := (mA M 0 b)) rfl rfl rfl (kA hM rfl hb) ?_
                refine x_if (a' := 49) (pc' := 45) (z := decide ((mA M 0 b) = 0)) rfl rfl rfl rfl (fun q28 => ?_) (fun q28 => ?_)
                · refine x_iconst (pc' := 50) rfl rfl ?_
                  refine x_cs (ls0 := [_]) (rest := []) rfl rfl rfl rfl ?_
                  refine x_iload_n (pc' := 1) rfl rfl rfl ?_
                  refine x_if (a' := 15) (pc' := 4) (z := false) rfl rfl rfl (by decide) (fun h => by cases h) (fun _ => ?_)
                  refine x_throw rfl rfl ?_
                  refine sK_n (by decide +kernel) rfl ?_
                  exact k13 j0 q5 (of_decide_eq_false q22) (of_decide_eq_false q23) (of_decide_eq_false q24) (of_decide_eq_false q25) (of_decide_eq_false q26) (of_decide_eq_false q27) (of_decide_eq_true q28)
                · refine x_iconst (pc' := 46) rfl rfl ?_
                  refine x_goto (pc' := 50) rfl rfl ?_
                  refine x_cs (ls0 := [_]) (rest := []) rfl rfl rfl rfl ?_
                  refine x_iload_n (pc' := 1) rfl rfl rfl ?_
                  refine x_if (a' := 15) (pc' := 4) (z := true) rfl rfl rfl (by decide) (fun _ => ?_) (fun h => by cases h)
                  refine x_ret rfl ?_
                  refine sK_v (pc' := 53) rfl ?_
                  refine x_aload_n (pc' := 54) rfl rfl rfl rfl rfl ?_
                  refine x_aload (pc' := 56) rfl rfl rfl rfl rfl ?_
                  refine x_iconst (pc' := 57) rfl rfl ?_
                  refine x_cv (ls0 := [_, _, _]) (rest := []) rfl rfl rfl rfl rfl ?_
                  refine x_aload_n (pc' := 1) rfl rfl rfl rfl rfl ?_
                  refine x_gZ (pc' := 4) (z := (mB M 2 m)) rfl rfl rfl (kZ hM rfl hm) ?_
                  refine x_ifne_z (a' := 29) (pc' := 7) (z := (mB M 2 m)) rfl rfl rfl (fun q31 => ?_) (fun q31 => ?_)
                  · refine x_iconst (pc' := 30) rfl rfl ?_
                    refine x_cs (ls0 := [_]) (rest := []) rfl rfl rfl rfl ?_
                    refine x_iload_n (pc' := 1) rfl rfl rfl ?_
                    refine x_if (a' := 15) (pc' := 4) (z := false) rfl rfl rfl (by decide) (fun h => by cases h) (fun _ => ?_)
                    refine x_throw rfl rfl ?_
                    refine sK_n (by decide +kernel) rfl ?_
                    refine sK_n (by decide +kernel) rfl ?_
                    exact k14 j0 q5 (of_decide_eq_false q22) (of_decide_eq_false q23) (of_decide_eq_false q24) (of_decide_eq_false q25) (of_decide_eq_false q26) (of_decide_eq_false q27) (of_decide_eq_false q28) q31
                  · refine x_aload_n (pc' := 8) rfl rfl rfl rfl rfl ?_
                    refine x_gR (pc' := 11) (r := (some 0)) rfl rfl rfl (kR_705_0 hc.1) ?_
                    refine x_gR (pc' := 14) (r := (some 1)) rfl rfl rfl (kR_257_0 hc.1) ?_
                    refine x_cv (ls0 := [_]) (rest := []) rfl rfl rfl rfl rfl ?_
                    refine x_aload_n (pc' := 1) rfl rfl rfl rfl rfl ?_
                    refine x_gI (pc' := 4) (x := (io n)) rfl rfl rfl (Sf_n hc) ?_
                    refine x_reti rfl rfl ?_
                    refine sK_i (pc' := 17) rfl ?_
                    refine x_iload_n (pc' := 18) rfl rfl rfl ?_
                    refine x_iadd (pc' := 19) (z := (io (n + 1))) rfl rfl (io_add n 1) ?_
                    refine x_sipush (pc' := 22) rfl rfl ?_
                    refine x_icmp (a' := 29) (pc' := 25) (z := decide (200 < (n + 1))) rfl rfl rfl (ic_gt (p := (n + 1)) (q := 200) hb0 (by decide)) (fun q33 => ?_) (fun q33 => ?_)
                    · refine x_iconst (pc' := 30) rfl rfl ?_
                      refine x_cs (ls0 := [_]) (rest := []) rfl rfl rfl rfl ?_
                      refine x_iload_n (pc' := 1) rfl rfl rfl ?_
                      refine x_if (a' := 15) (pc' := 4) (z := false) rfl rfl rfl (by decide) (fun h => by cases h) (fun _ => ?_)
                      refine x_throw rfl rfl ?_
                      refine sK_n (by decide +kernel) rfl ?_
                      refine sK_n (by decide +kernel) rfl ?_
                      exact k15 j0 q5 (of_decide_eq_false q22) (of_decide_eq_false q23) (of_decide_eq_false q24) (of_decide_eq_false q25) (of_decide_eq_false q26) (of_decide_eq_false q27) (of_decide_eq_false q28) q31 (of_decide_eq_true q33)
                    · refine x_iconst (pc' := 26) rfl rfl ?_
                      refine x_goto (pc' := 30) rfl rfl ?_
                      refine x_cs (ls0 := [_]) (rest := []) rfl rfl rfl rfl ?_
                      refine x_iload_n (pc' := 1) rfl rfl rfl ?_
                      refine x_if (a' := 15) (pc' := 4) (z := true) rfl rfl rfl (by decide) (fun _ => ?_) (fun h => by cases h)
                      refine x_ret rfl ?_
                      refine sK_v (pc' := 33) rfl ?_
                      refine x_ret rfl ?_
                      refine sK_v (pc' := 60) rfl ?_
                      refine x_aload_n (pc' := 61) rfl rfl rfl rfl rfl ?_
                      refine x_aload (pc' := 63) rfl rfl rfl rfl rfl ?_
                      refine x_aload (pc' := 65) rfl rfl rfl rfl rfl ?_
                      refine x_iload_n (pc' := 66) rfl rfl rfl ?_
                      refine x_iload (pc' := 68) rfl rfl rfl ?_
                      refine x_cv (ls0 := [_, _, _, _, _, sJk]) (rest := []) rfl rfl rfl rfl rfl ?_
                      exact k16 j0 q5 (of_decide_eq_false q22) (of_decide_eq_false q23) (of_decide_eq_false q24) (of_decide_eq_false q25) (of_decide_eq_false q26) (of_decide_eq_false q27) (of_decide_eq_false q28) q31 (of_decide_eq_false q33)
              · refine x_throw rfl rfl ?_
                refine sK_n (by decide +kernel) rfl ?_
                exact k17 j0 q5 (of_decide_eq_false q22) (of_decide_eq_false q23) (of_decide_eq_false q24) (of_decide_eq_false q25) (of_decide_eq_false q26) (of_decide_eq_true q27)
          · refine x_throw rfl rfl ?_
            refine sK_n (by decide +kernel) rfl ?_
            exact k18 j0 q5 (of_decide_eq_false q22) (of_decide_eq_false q23) (of_decide_eq_false q24) (of_decide_eq_true q25)
      · refine x_throw rfl rfl ?_
        refine sK_n (by decide +kernel) rfl ?_
        refine sK_n (by decide +kernel) rfl ?_
        exact k19 j0 q5 (of_decide_eq_false q22) (of_decide_eq_true q23)
set_option maxHeartbeats 4000000 in
set_option maxRecDepth 10000 in
theorem n94_x0 {t : sT} {Q : sRs → sT → Prop} {M : sM} {n : Nat} {T : Nat} {L0 : List Nat} {A : Nat} {B : Nat} {x : Int32} {x1 : Int32} {s : Bool} {p : Int32} {a : Int32} {h : Int32}
    (hW : Wc t M n T L0 A B)
    (hp : ixo x 6 = none)
    (k0 : Q (.inr 0) (sThr t)) :
    X 94 0 [.inr (.inr (11, (some 0))), .inl x, .inl x1, .inl (bz s), .inl p, .inl a, .inl h, sJk, sJk, sJk] [] t Q := by
  obtain ⟨hM, hc, hR, hC, hL, hL9⟩ := hW
  refine x_aload_n (pc' := 1) rfl rfl rfl rfl rfl ?_
  refine x_iload_n (pc' := 2) rfl rfl rfl ?_
  refine x_cv (ls0 := [_, _]) (rest := []) rfl rfl rfl rfl rfl ?_
  refine b131_x ⟨hM, hc, hR, hC, hL, hL9⟩ hp ?_
  refine sK_n (by decide +kernel) rfl ?_
  exact k0
set_option maxHeartbeats 4000000 in
set_option maxRecDepth 10000 in
theorem n94_x1 {t : sT} {Q : sRs → sT → Prop} {M : sM} {n : Nat} {T : Nat} {L0 : List Nat} {A : Nat} {B : Nat} {m : Nat} {x : Int32} {s : Bool} {p : Int32} {a : Int32} {h : Int32}
    (hW : Wc t M n T L0 A B)
    (hm : m < 6)
    (hp : ixo x 5 = none)
    (k0 : Q (.inr 0) (sThr t)) :
    X 94 0 [.inr (.inr (11, (some 0))), .inl (io m), .inl x, .inl (bz s), .inl p, .inl a, .inl h, sJk, sJk, sJk] [] t Q := by
  obtain ⟨hM, hc, hR, hC, hL, hL9⟩ := hW
  refine x_aload_n (pc' := 1) rfl rfl rfl rfl rfl ?_
  refine x_iload_n (pc' := 2) rfl rfl rfl ?_
  refine x_cv (ls0 := [_, _]) (rest := []) rfl rfl rfl rfl rfl ?_
  refine x_iload_n (pc' := 1) rfl rfl rfl ?_
  refine x_if (a' := 16) (pc' := 4) (z := decide (m < 0)) rfl rfl rfl (ic_lt (p := m) (q := 0) (gm31 hm) (by decide)) (fun h => absurd (of_decide_eq_true h) (by first | decide | omega | simp)) (fun _ => ?_)
  refine x_iload_n (pc' := 5) rfl rfl rfl ?_
  refine x_aload_n (pc' := 6) rfl rfl rfl rfl rfl ?_
  refine x_gR (pc' := 9) (r := (some 0)) rfl rfl rfl (kR_704_0 hc.1) ?_
  refine x_gR (pc' := 12) (r := (some 0)) rfl rfl rfl (kR_321_0 hc.1) ?_
  refine x_alen (pc' := 13) (N := 6) rfl rfl rfl (kN_26_0 hc.1) (?_ : X _ _ _ (.inl 6 :: _) _ _)
  refine x_icmp (a' := 27) (pc' := 16) (z := decide (m < 6)) rfl rfl rfl (ic_lt (p := m) (q := 6) (gm31 hm) (by decide)) (fun _ => ?_) (fun h => absurd hm (of_decide_eq_false h))
  refine x_aload_n (pc' := 28) rfl rfl rfl rfl rfl ?_
  refine x_gR (pc' := 31) (r := (some 0)) rfl rfl rfl (kR_704_0 hc.1) ?_
  refine x_gR (pc' := 34) (r := (some 0)) rfl rfl rfl (kR_321_0 hc.1) ?_
  refine x_iload_n (pc' := 35) rfl rfl rfl ?_
  refine x_aald (pc' := 36) (N := 6) (k' := 7) (r := (some m)) rfl rfl rfl (kN_26_0 hc.1) (io_in (p := m) (N := 6) hm (by decide)) (Eq.trans (congrArg (sE t 26 0) (nn_io (p := m) (Nat.lt_trans hm (by decide)))) (kM hc.1 hm)) ?_
  refine x_reta rfl rfl ?_
  refine sK_i (pc' := 5) rfl ?_
  refine x_astore (pc' := 7) (ls' := [_, _, _, _, _, _, _, _, _, _]) rfl rfl rfl rfl rfl ?_
  refine x_aload_n (pc' := 8) rfl rfl rfl rfl rfl ?_
  refine x_iload_n (pc' := 9) rfl rfl rfl ?_
  refine x_cv (ls0 := [_, _]) (rest := []) rfl rfl rfl rfl rfl ?_
  refine b133_x ⟨hM, hc, hR, hC, hL, hL9⟩ hp ?_
  refine sK_n (by decide +kernel) rfl ?_
  exact k0
set_option maxHeartbeats 4000000 in
set_option maxRecDepth 10000 in
theorem n95 {t : sT} {Q : sRs → sT → Prop} {M : sM} {n : Nat} {T : Nat} {L0 : List Nat} {A : Nat} {B : Nat} {m : Nat} {b : Nat} {s : Bool} {p : Int32} {a : Int32}
    (hW : Wc t M n T L0 A B)
    (hm : m < 6)
    (hb : b < 5)
    (hb0 : (n + 1) < 2 ^ 31)
    (k0 : (snd b) = none → p < 1 → Q (.inr 1) (sThr t))
    (k1 : (snd b) = none → ¬ (p < 1) → ¬ (999 < p) → a < 1 → Q (.inr 1) (sThr t))
    (k2 : (snd b) = none → ¬ (p < 1) → ¬ (999 < p) → ¬ (a < 1) → ¬ (100 < a) → ¬ ((mA M 0 b) = 2) → Q (.inr 2) (sThr t))
    (k3 : (snd b) = none → ¬ (p < 1) → ¬ (999 < p) → ¬ (a < 1) → ¬ (100 < a) → (mA M 0 b) = 2 → (mB M 2 m) = true → Q (.inr 2) (sThr t))
    (k4 : (snd b) = none → ¬ (p < 1) → ¬ (999 < p) → ¬ (a < 1) → ¬ (100 < a) → (mA M 0 b) = 2 → (mB M 2 m) = false → 200 < (n + 1) → Q (.inr 2) (sThr t))
    (k5 : (snd b) = none → ¬ (p < 1) → ¬ (999 < p) → ¬ (a < 1) → ¬ (100 < a) → (mA M 0 b) = 2 → (mB M 2 m) = false → ¬ (200 < (n + 1)) → X 138 0 [.inr (.inr (11, (some 0))), .inr (.inr (7, (some m))), .inr (.inr (1, (some b))), .inl (bz s), .inl a, sJk] [] t (sK 138 95 61 [.inr (.inr (11, (some 0))), .inl (io m), .inl (io b), .inl (bz s), .inl p, .inl a, .inr (.inr (7, (some m))), .inr (.inr (1, (some b))), sJk] [] Q))
    (k6 : (snd b) = none → ¬ (p < 1) → ¬ (999 < p) → ¬ (a < 1) → 100 < a → Q (.inr 1) (sThr t))
    (k7 : (snd b) = none → ¬ (p < 1) → 999 < p → Q (.inr 1) (sThr t))
    (k8 : ∀ j0, (snd b) = some j0 → p < (-500) → Q (.inr 1) (sThr t))
    (k9 : ∀ j0, (snd b) = some j0 → ¬ (p < (-500)) → ¬ (500 < p) → a < 1 → Q (.inr 1) (sThr t))
    (k10 : ∀ j0, (snd b) = some j0 → ¬ (p < (-500)) → ¬ (500 < p) → ¬ (a < 1) → ¬ (100 < a) → ¬ ((mA M 0 b) = 2) → Q (.inr 2) (sThr t))
    (k11 : ∀ j0, (snd b) = some j0 → ¬ (p < (-500)) → ¬ (500 < p) → ¬ (a < 1) → ¬ (100 < a) → (mA M 0 b) = 2 → (mB M 2 m) = true → Q (.inr 2) (sThr t))
    (k12 : ∀ j0, (snd b) = some j0 → ¬ (p < (-500)) → ¬ (500 < p) → ¬ (a < 1) → ¬ (100 < a) → (mA M 0 b) = 2 → (mB M 2 m) = false → 200 < (n + 1) → Q (.inr 2) (sThr t))
    (k13 : ∀ j0, (snd b) = some j0 → ¬ (p < (-500)) → ¬ (500 < p) → ¬ (a < 1) → ¬ (100 < a) → (mA M 0 b) = 2 → (mB M 2 m) = false → ¬ (200 < (n + 1)) → X 138 0 [.inr (.inr (11, (some 0))), .inr (.inr (7, (some m))), .inr (.inr (1, (some b))), .inl (bz s), .inl a, sJk] [] t (sK 138 95 61 [.inr (.inr (11, (some 0))), .inl (io m), .inl (io b), .inl (bz s), .inl p, .inl a, .inr (.inr (7, (some m))), .inr (.inr (1, (some b))), sJk] [] Q))
    (k14 : ∀ j0, (snd b) = some j0 → ¬ (p < (-500)) → ¬ (500 < p) → ¬ (a < 1) → 100 < a → Q (.inr 1) (sThr t))
    (k15 : ∀ j0, (snd b) = some j0 → ¬ (p < (-500)) → 500 < p → Q (.inr 1) (sThr t)) :
    X 95 0 [.inr (.inr (11, (some 0))), .inl (io m), .inl (io b), .inl (bz s), .inl p, .inl a, sJk, sJk, sJk] [] t Q := by
  obtain ⟨hM, hc, hR, hC, hL, hL9⟩ := hW
  refine x_aload_n (pc' := 1) rfl rfl rfl rfl rfl ?_
  refine x_iload_n (pc' := 2) rfl rfl rfl ?_
  refine x_cv (ls0 := [_, _]) (rest := []) rfl rfl rfl rfl rfl ?_
  refine x_iload_n (pc' := 1) rfl rfl rfl ?_
  refine x_if (a' := 16) (pc' := 4) (z := decide (m < 0)) rfl rfl rfl (ic_lt (p := m) (q := 0) (gm31 hm) (by decide)) (fun h => absurd (of_decide_eq_true h) (by first | decide | omega | simp)) (fun _ => ?_)
  refine x_iload_n (pc' := 5) rfl rfl rfl ?_
  refine x_aload_n (pc' := 6) rfl rfl rfl rfl rfl ?_
  refine x_gR (pc' := 9) (r := (some 0)) rfl rfl rfl (kR_704_0 hc.1) ?_
  refine x_gR (pc' := 12) (r := (some 0)) rfl rfl rfl (kR_321_0 hc.1) ?_
  refine x_alen (pc' := 13) (N := 6) rfl rfl rfl (kN_26_0 hc.1) (?_ : X _ _ _ (.inl 6 :: _) _ _)
  refine x_icmp (a' := 27) (pc' := 16) (z := decide (m < 6)) rfl rfl rfl (ic_lt (p := m) (q := 6) (gm31 hm) (by decide)) (fun _ => ?_) (fun h => absurd hm (of_decide_eq_false h))
  refine x_aload_n (pc' := 28) rfl rfl rfl rfl rfl ?_
  refine x_gR (pc' := 31) (r := (some 0)) rfl rfl rfl (kR_704_0 hc.1) ?_
  refine x_gR (pc' := 34) (r := (some 0)) rfl rfl rfl (kR_321_0 hc.1) ?_
  refine x_iload_n (pc' := 35) rfl rfl rfl ?_
  refine x_aald (pc' := 36) (N := 6) (k' := 7) (r := (some m)) rfl rfl rfl (kN_26_0 hc.1) (io_in (p := m) (N := 6) hm (by decide)) (Eq.trans (congrArg (sE t 26 0) (nn_io (p := m) (Nat.lt_trans hm (by decide)))) (kM hc.1 hm)) ?_
  refine x_reta rfl rfl ?_
  refine sK_i (pc' := 5) rfl ?_
  refine x_astore (pc' := 7) (ls' := [_, _, _, _, _, _, _, _, _]) rfl rfl rfl rfl rfl ?_
  refine x_aload_n (pc' := 8) rfl rfl rfl rfl rfl ?_
  refine x_iload_n (pc' := 9) rfl rfl rfl ?_
  refine x_cv (ls0 := [_, _]) (rest := []) rfl rfl rfl rfl rfl ?_
  refine x_iload_n (pc' := 1) rfl rfl rfl ?_
  refine x_if (a' := 16) (pc' := 4) (z := decide (b < 0)) rfl rfl rfl (ic_lt (p := b) (q := 0) (gb31 hb) (by decide)) (fun h => absurd (of_decide_eq_true h) (by first | decide | omega | simp)) (fun _ => ?_)
  refine x_iload_n (pc' := 5) rfl rfl rfl ?_
  refine x_aload_n (pc' := 6) rfl rfl rfl rfl rfl ?_
  refine x_gR (pc' := 9) (r := (some 0)) rfl rfl rfl (kR_705_0 hc.1) ?_
  refine x_gR (pc' := 12) (r := (some 0)) rfl rfl rfl (kR_256_0 hc.1) ?_
  refine x_alen (pc' := 13) (N := 5) rfl rfl rfl (kN_24_0 hc.1) (?_ : X _ _ _ (.inl 5 :: _) _ _)
  refine x_icmp (a' := 27) (pc' := 16) (z := decide (b < 5)) rfl rfl rfl (ic_lt (p := b) (q := 5) (gb31 hb) (by decide)) (fun _ => ?_) (fun h => absurd hb (of_decide_eq_false h))
  refine x_aload_n (pc' := 28) rfl rfl rfl rfl rfl ?_
  refine x_gR (pc' := 31) (r := (some 0)) rfl rfl rfl (kR_705_0 hc.1) ?_
  refine x_gR (pc' := 34) (r := (some 0)) rfl rfl rfl (kR_256_0 hc.1) ?_
  refine x_iload_n (pc' := 35) rfl rfl rfl ?_
  refine x_aald (pc' := 36) (N := 5) (k' := 1) (r := (some b)) rfl rfl rfl (kN_24_0 hc.1) (io_in (p := b) (N := 5) hb (by decide)) (Eq.trans (congrArg (sE t 24 0) (nn_io (p := b) (Nat.lt_trans hb (by decide)))) (kB hc.1 hb)) ?_
  refine x_reta rfl rfl ?_
  refine sK_i (pc' := 12) rfl ?_
  refine x_astore (pc' := 14) (ls' := [_, _, _, _, _, _, _, _, _]) rfl rfl rfl rfl rfl ?_
  refine x_aload (pc' := 16) rfl rfl rfl rfl rfl ?_
  refine x_iload (pc' := 18) rfl rfl rfl ?_
  refine x_cs (ls0 := [_, _]) (rest := []) rfl rfl rfl rfl ?_
  refine x_aload_n (pc' := 1) rfl rfl rfl rfl rfl ?_
  refine x_cv (ls0 := [_]) (rest := []) rfl rfl rfl rfl rfl ?_
  refine x_aload_n (pc' := 1) rfl rfl rfl rfl rfl ?_
  refine x_gR (pc' := 4) (r := (snd b)) rfl rfl rfl (kBk hc.1 hb).2.1 ?_
  refine x_ifnull (a' := 11) (pc' := 7) rfl rfl rfl rfl (fun q5 => ?_) (fun j0 q5 => ?_)
  · refine x_iconst (pc' := 12) rfl rfl ?_
    refine x_retz (z := false) rfl rfl ?_
    refine sK_i (pc' := 4) rfl ?_
    refine x_if (a' := 20) (pc' := 7) (z := true) rfl rfl rfl (by decide) (fun _ => ?_) (fun h => by cases h)
    refine x_iload_n (pc' := 21) rfl rfl rfl ?_
    refine x_iconst (pc' := 22) rfl rfl ?_
    refine x_sipush (pc' := 25) rfl rfl ?_
    refine x_cs (ls0 := [_, _, _]) (rest := []) rfl rfl rfl rfl ?_
    refine x_iload_n (pc' := 1) rfl rfl rfl ?_
    refine x_iload_n (pc' := 2) rfl rfl rfl ?_
    refine x_icmp (a' := 10) (pc' := 5) (z := decide (p < 1)) rfl rfl rfl rfl (fun q7 => ?_) (fun q7 => ?_)
    · refine x_throw rfl rfl ?_
      refine sK_n (by decide +kernel) rfl ?_
      refine sK_n (by decide +kernel) rfl ?_
      exact k0 q5 (of_decide_eq_true q7)
    · refine x_iload_n (pc' := 6) rfl rfl rfl ?_
      refine x_iload_n (pc' := 7) rfl rfl rfl ?_
      refine x_icmp_n (a' := 21) (pc' := 10) (z := decide (999 < p)) rfl rfl rfl (ik_le _ _) (fun q8 => ?_) (fun q8 => ?_)
      · refine x_ret rfl ?_
        refine sK_v (pc' := 28) rfl ?_
        refine x_ret rfl ?_
        refine sK_v (pc' := 21) rfl ?_
        refine x_iload (pc' := 23) rfl rfl rfl ?_
        refine x_iconst (pc' := 24) rfl rfl ?_
        refine x_bipush (pc' := 26) rfl rfl ?_
        refine x_cs (ls0 := [_, _, _]) (rest := []) rfl rfl rfl rfl ?_
        refine x_iload_n (pc' := 1) rfl rfl rfl ?_
        refine x_iload_n (pc' := 2) rfl rfl rfl ?_
        refine x_icmp (a' := 10) (pc' := 5) (z := decide (a < 1)) rfl rfl rfl rfl (fun q9 => ?_) (fun q9 => ?_)
        · refine x_throw rfl rfl ?_
          refine sK_n (by decide +kernel) rfl ?_
          exact k1 q5 (of_decide_eq_false q7) (of_decide_eq_false q8) (of_decide_eq_true q9)
        · refine x_iload_n (pc' := 6) rfl rfl rfl ?_
          refine x_iload_n (pc' := 7) rfl rfl rfl ?_
          refine x_icmp_n (a' := 21) (pc' := 10) (z := decide (100 < a)) rfl rfl rfl (ik_le _ _) (fun q10 => ?_) (fun q10 => ?_)
          · refine x_ret rfl ?_
            refine sK_v (pc' := 29) rfl ?_
            refine x_aload (pc' := 31) rfl rfl rfl rfl rfl ?_
            refine x_gI (pc' := 34) (x := (mA M 0 b)) rfl rfl rfl (kA hM rfl hb) ?_
            refine x_iconst (pc' := 35) rfl rfl ?_
            refine x_icmp_n (a' := 42) (pc' := 38) (z := decide ((mA M 0 b) = 2)) rfl rfl rfl (ik_ne _ _) (fun q11 => ?_) (fun q11 => ?_)
            · refine x_iconst (pc' := 43) rfl rfl ?_
              refine x_cs (ls0 := [_]) (rest := []) rfl rfl rfl rfl ?_
              refine x_iload_n (pc' := 1) rfl rfl rfl ?_
              refine x_if (a' := 15) (pc' := 4) (z := false) rfl rfl rfl (by decide) (fun h => by cases h) (fun _ => ?_)
              refine x_throw rfl rfl ?_
              refine sK_n (by decide +kernel) rfl ?_
              exact k2 q5 (of_decide_eq_false q7) (of_decide_eq_false q8) (of_decide_eq_false q9) (of_decide_eq_false q10) (of_decide_eq_false q11)
            · refine x_iconst (pc' := 39) rfl rfl ?_
              refine x_goto (pc' := 43) rfl rfl ?_
              refine x_cs (ls0 := [_]) (rest := []) rfl rfl rfl rfl ?_
              refine x_iload_n (pc' := 1) rfl rfl rfl ?_
              refine x_if (a' := 15) (pc' := 4) (z := true) rfl rfl rfl (by decide) (fun _ => ?_) (fun h => by cases h)
              refine x_ret rfl ?_
              refine sK_v (pc' := 46) rfl ?_
              refine x_aload_n (pc' := 47) rfl rfl rfl rfl rfl ?_
              refine x_aload (pc' := 49) rfl rfl rfl rfl rfl ?_
              refine x_iconst (pc' := 50) rfl rfl ?_
              refine x_cv (ls0 := [_, _, _]) (rest := []) rfl rfl rfl rfl rfl ?_
              refine x_aload_n (pc' := 1) rfl rfl rfl rfl rfl ?_
              refine x_gZ (pc' := 4) (z := (mB M 2 m)) rfl rfl rfl (kZ hM rfl hm) ?_
              refine x_ifne_z (a' := 29) (pc' := 7) (z := (mB M 2 m)) rfl rfl rfl (fun q14 => ?_) (fun q14 => ?_)
              · refine x_iconst (pc' := 30) rfl rfl ?_
                refine x_cs (ls0 := [_]) (rest := []) rfl rfl rfl rfl ?_
                refine x_iload_n (pc' := 1) rfl rfl rfl ?_
                refine x_if (a' := 15) (pc' := 4) (z := false) rfl rfl rfl (by decide) (fun h => by cases h) (fun _ => ?_)
                refine x_throw rfl rfl ?_
                refine sK_n (by decide +kernel) rfl ?_
                refine sK_n (by decide +kernel) rfl ?_
                exact k3 q5 (of_decide_eq_false q7) (of_decide_eq_false q8) (of_decide_eq_false q9) (of_decide_eq_false q10) (of_decide_eq_true q11) q14
              · refine x_aload_n (pc' := 8) rfl rfl rfl rfl rfl ?_
                refine x_gR (pc' := 11) (r := (some 0)) rfl rfl rfl (kR_705_0 hc.1) ?_
                refine x_gR (pc' := 14) (r := (some 1)) rfl rfl rfl (kR_257_0 hc.1) ?_
                refine x_cv (ls0 := [_]) (rest := []) rfl rfl rfl rfl rfl ?_
                refine x_aload_n (pc' := 1) rfl rfl rfl rfl rfl ?_
                refine x_gI (pc' := 4) (x := (io n)) rfl rfl rfl (Sf_n hc) ?_
                refine x_reti rfl rfl ?_
                refine sK_i (pc' := 17) rfl ?_
                refine x_iload_n (pc' := 18) rfl rfl rfl ?_
                refine x_iadd (pc' := 19) (z := (io (n + 1))) rfl rfl (io_add n 1) ?_
                refine x_sipush (pc' := 22) rfl rfl ?_
                refine x_icmp (a' := 29) (pc' := 25) (z := decide (200 < (n + 1))) rfl rfl rfl (ic_gt (p := (n + 1)) (q := 200) hb0 (by decide)) (fun q16 => ?_) (fun q16 => ?_)
                · refine x_iconst (pc' := 30) rfl rfl ?_
                  refine x_cs (ls0 := [_]) (rest := []) rfl rfl rfl rfl ?_
                  refine x_iload_n (pc' := 1) rfl rfl rfl ?_
                  refine x_if (a' := 15) (pc' := 4) (z := false) rfl rfl rfl (by decide) (fun h => by cases h) (fun _ => ?_)
                  refine x_throw rfl rfl ?_
                  refine sK_n (by decide +kernel) rfl ?_
                  refine sK_n (by decide +kernel) rfl ?_
                  exact k4 q5 (of_decide_eq_false q7) (of_decide_eq_false q8) (of_decide_eq_false q9) (of_decide_eq_false q10) (of_decide_eq_true q11) q14 (of_decide_eq_true q16)
                · refine x_iconst (pc' := 26) rfl rfl ?_
                  refine x_goto (pc' := 30) rfl rfl ?_
                  refine x_cs (ls0 := [_]) (rest := []) rfl rfl rfl rfl ?_
                  refine x_iload_n (pc' := 1) rfl rfl rfl ?_
                  refine x_if (a' := 15) (pc' := 4) (z := true) rfl rfl rfl (by decide) (fun _ => ?_) (fun h => by cases h)
                  refine x_ret rfl ?_
                  refine sK_v (pc' := 33) rfl ?_
                  refine x_ret rfl ?_
                  refine sK_v (pc' := 53) rfl ?_
                  refine x_aload_n (pc' := 54) rfl rfl rfl rfl rfl ?_
                  refine x_aload (pc' := 56) rfl rfl rfl rfl rfl ?_
                  refine x_aload (pc' := 58) rfl rfl rfl rfl rfl ?_
                  refine x_iload_n (pc' := 59) rfl rfl rfl ?_
                  refine x_iload (pc' := 61) rfl rfl rfl ?_
                  refine x_cv (ls0 := [_, _, _, _, _, sJk]) (rest := []) rfl rfl rfl rfl rfl ?_
                  exact k5 q5 (of_decide_eq_false q7) (of_decide_eq_false q8) (of_decide_eq_false q9) (of_decide_eq_false q10) (of_decide_eq_true q11) q14 (of_decide_eq_false q16)
          · refine x_throw rfl rfl ?_
            refine sK_n (by decide +kernel) rfl ?_
            exact k6 q5 (of_decide_eq_false q7) (of_decide_eq_false q8) (of_decide_eq_false q9) (of_decide_eq_true q10)
      · refine x_throw rfl rfl ?_
        refine sK_n (by decide +kernel) rfl ?_
        refine sK_n (by decide +kernel) rfl ?_
        exact k7 q5 (of_decide_eq_false q7) (of_decide_eq_true q8)
  · refine x_iconst (pc' := 8) rfl rfl ?_
    refine x_goto (pc' := 12) rfl rfl ?_
    refine x_retz (z := true) rfl rfl ?_
    refine sK_i (pc' := 4) rfl ?_
    refine x_if (a' := 20) (pc' := 7) (z := false) rfl rfl rfl (by decide) (fun h => by cases h) (fun _ => ?_)
    refine x_iload_n (pc' := 8) rfl rfl rfl ?_
    refine x_sipush (pc' := 11) rfl rfl ?_
    refine x_sipush (pc' := 14) rfl rfl ?_
    refine x_cs (ls0 := [_, _, _]) (rest := []) rfl rfl rfl rfl ?_
    refine x_iload_n (pc' := 1) rfl rfl rfl ?_
    refine x_iload_n (pc' := 2) rfl rfl rfl ?_
    refine x_icmp (a' := 10) (pc' := 5) (z := decide (p < (-500))) rfl rfl rfl rfl (fun q20 => ?_) (fun q20 => ?_)
    · refine x_throw rfl rfl ?_
      refine sK_n (by decide +kernel) rfl ?_
      refine sK_n (by decide +kernel) rfl ?_
      exact k8 j0 q5 (of_decide_eq_true q20)
    · refine x_iload_n (pc' := 6) rfl rfl rfl ?_
      refine x_iload_n (pc' := 7) rfl rfl rfl ?_
      refine x_icmp_n (a' := 21) (pc' := 10) (z := decide (500 < p)) rfl rfl rfl (ik_le _ _) (fun q21 => ?_) (fun q21 => ?_)
      · refine x_ret rfl ?_
        refine sK_v (pc' := 17) rfl ?_
        refine x_goto (pc' := 28) rfl rfl ?_
        refine x_ret rfl ?_
        refine sK_v (pc' := 21) rfl ?_
        refine x_iload (pc' := 23) rfl rfl rfl ?_
        refine x_iconst (pc' := 24) rfl rfl ?_
        refine x_bipush (pc' := 26) rfl rfl ?_
        refine x_cs (ls0 := [_, _, _]) (rest := []) rfl rfl rfl rfl ?_
        refine x_iload_n (pc' := 1) rfl rfl rfl ?_
        refine x_iload_n (pc' := 2) rfl rfl rfl ?_
        refine x_icmp (a' := 10) (pc' := 5) (z := decide (a < 1)) rfl rfl rfl rfl (fun q22 => ?_) (fun q22 => ?_)
        · refine x_throw rfl rfl ?_
          refine sK_n (by decide +kernel) rfl ?_
          exact k9 j0 q5 (of_decide_eq_false q20) (of_decide_eq_false q21) (of_decide_eq_true q22)
        · refine x_iload_n (pc' := 6) rfl rfl rfl ?_
          refine x_iload_n (pc' := 7) rfl rfl rfl ?_
          refine x_icmp_n (a' := 21) (pc' := 10) (z := decide (100 < a)) rfl rfl rfl (ik_le _ _) (fun q23 => ?_) (fun q23 => ?_)
          · refine x_ret rfl ?_
            refine sK_v (pc' := 29) rfl ?_
            refine x_aload (pc' := 31) rfl rfl rfl rfl rfl ?_
            refine x_gI (pc' := 34) (x := (mA M 0 b)) rfl rfl rfl (kA hM rfl hb) ?_
            refine x_iconst (pc' := 35) rfl rfl ?_
            refine x_icmp_n (a' := 42) (pc' := 38) (z := decide ((mA M 0 b) = 2)) rfl rfl rfl (ik_ne _ _) (fun q24 => ?_) (fun q24 => ?_)
            · refine x_iconst (pc' := 43) rfl rfl ?_
              refine x_cs (ls0 := [_]) (rest := []) rfl rfl rfl rfl ?_
              refine x_iload_n (pc' := 1) rfl rfl rfl ?_
              refine x_if (a' := 15) (pc' := 4) (z := false) rfl rfl rfl (by decide) (fun h => by cases h) (fun _ => ?_)
              refine x_throw rfl rfl ?_
              refine sK_n (by decide +kernel) rfl ?_
              exact k10 j0 q5 (of_decide_eq_false q20) (of_decide_eq_false q21) (of_decide_eq_false q22) (of_decide_eq_false q23) (of_decide_eq_false q24)
            · refine x_iconst (pc' := 39) rfl rfl ?_
              refine x_goto (pc' := 43) rfl rfl ?_
              refine x_cs (ls0 := [_]) (rest := []) rfl rfl rfl rfl ?_
              refine x_iload_n (pc' := 1) rfl rfl rfl ?_
              refine x_if (a' := 15) (pc' := 4) (z := true) rfl rfl rfl (by decide) (fun _ => ?_) (fun h => by cases h)
              refine x_ret rfl ?_
              refine sK_v (pc' := 46) rfl ?_
              refine x_aload_n (pc' := 47) rfl rfl rfl rfl rfl ?_
              refine x_aload (pc' := 49) rfl rfl rfl rfl rfl ?_
              refine x_iconst (pc' := 50) rfl rfl ?_
              refine x_cv (ls0 := [_, _, _]) (rest := []) rfl rfl rfl rfl rfl ?_
              refine x_aload_n (pc' := 1) rfl rfl rfl rfl rfl ?_
              refine x_gZ (pc' := 4) (z := (mB M 2 m)) rfl rfl rfl (kZ hM rfl hm) ?_
              refine x_ifne_z (a' := 29) (pc' := 7) (z := (mB M 2 m)) rfl rfl rfl (fun q27 => ?_) (fun q27 => ?_)
              · refine x_iconst (pc' := 30) rfl rfl ?_
                refine x_cs (ls0 := [_]) (rest := []) rfl rfl rfl rfl ?_
                refine x_iload_n (pc' := 1) rfl rfl rfl ?_
                refine x_if (a' := 15) (pc' := 4) (z := false) rfl rfl rfl (by decide) (fun h => by cases h) (fun _ => ?_)
                refine x_throw rfl rfl ?_
                refine sK_n (by decide +kernel) rfl ?_
                refine sK_n (by decide +kernel) rfl ?_
                exact k11 j0 q5 (of_decide_eq_false q20) (of_decide_eq_false q21) (of_decide_eq_false q22) (of_decide_eq_false q23) (of_decide_eq_true q24) q27
              · refine x_aload_n (pc' := 8) rfl rfl rfl rfl rfl ?_
                refine x_gR (pc' := 11) (r := (some 0)) rfl rfl rfl (kR_705_0 hc.1) ?_
                refine x_gR (pc' := 14) (r := (some 1)) rfl rfl rfl (kR_257_0 hc.1) ?_
                refine x_cv (ls0 := [_]) (rest := []) rfl rfl rfl rfl rfl ?_
                refine x_aload_n (pc' := 1) rfl rfl rfl rfl rfl ?_
                refine x_gI (pc' := 4) (x := (io n)) rfl rfl rfl (Sf_n hc) ?_
                refine x_reti rfl rfl ?_
                refine sK_i (pc' := 17) rfl ?_
                refine x_iload_n (pc' := 18) rfl rfl rfl ?_
                refine x_iadd (pc' := 19) (z := (io (n + 1))) rfl rfl (io_add n 1) ?_
                refine x_sipush (pc' := 22) rfl rfl ?_
                refine x_icmp (a' := 29) (pc' := 25) (z := decide (200 < (n + 1))) rfl rfl rfl (ic_gt (p := (n + 1)) (q := 200) hb0 (by decide)) (fun q29 => ?_) (fun q29 => ?_)
                · refine x_iconst (pc' := 30) rfl rfl ?_
                  refine x_cs (ls0 := [_]) (rest := []) rfl rfl rfl rfl ?_
                  refine x_iload_n (pc' := 1) rfl rfl rfl ?_
                  refine x_if (a' := 15) (pc' := 4) (z := false) rfl rfl rfl (by decide) (fun h => by cases h) (fun _ => ?_)
                  refine x_throw rfl rfl ?_
                  refine sK_n (by decide +kernel) rfl ?_
                  refine sK_n (by decide +kernel) rfl ?_
                  exact k12 j0 q5 (of_decide_eq_false q20) (of_decide_eq_false q21) (of_decide_eq_false q22) (of_decide_eq_false q23) (of_decide_eq_true q24) q27 (of_decide_eq_true q29)
                · refine x_iconst (pc' := 26) rfl rfl ?_
                  refine x_goto (pc' := 30) rfl rfl ?_
                  refine x_cs (ls0 := [_]) (rest := []) rfl rfl rfl rfl ?_
                  refine x_iload_n (pc' := 1) rfl rfl rfl ?_
                  refine x_if (a' := 15) (pc' := 4) (z := true) rfl rfl rfl (by decide) (fun _ => ?_) (fun h => by cases h)
                  refine x_ret rfl ?_
                  refine sK_v (pc' := 33) rfl ?_
                  refine x_ret rfl ?_
                  refine sK_v (pc' := 53) rfl ?_
                  refine x_aload_n (pc' := 54) rfl rfl rfl rfl rfl ?_
                  refine x_aload (pc' := 56) rfl rfl rfl rfl rfl ?_
                  refine x_aload (pc' := 58) rfl rfl rfl rfl rfl ?_
                  refine x_iload_n (pc' := 59) rfl rfl rfl ?_
                  refine x_iload (pc' := 61) rfl rfl rfl ?_
                  refine x_cv (ls0 := [_, _, _, _, _, sJk]) (rest := []) rfl rfl rfl rfl rfl ?_
                  exact k13 j0 q5 (of_decide_eq_false q20) (of_decide_eq_false q21) (of_decide_eq_false q22) (of_decide_eq_false q23) (of_decide_eq_true q24) q27 (of_decide_eq_false q29)
          · refine x_throw rfl rfl ?_
            refine sK_n (by decide +kernel) rfl ?_
            exact k14 j0 q5 (of_decide_eq_false q20) (of_decide_eq_false q21) (of_decide_eq_false q22) (of_decide_eq_true q23)
      · refine x_throw rfl rfl ?_
        refine sK_n (by decide +kernel) rfl ?_
        refine sK_n (by decide +kernel) rfl ?_
        exact k15 j0 q5 (of_decide_eq_false q20) (of_decide_eq_true q21)
set_option maxHeartbeats 4000000 in
set_option maxRecDepth 10000 in
theorem n95_x0 {t : sT} {Q : sRs → sT → Prop} {M : sM} {n : Nat} {T : Nat} {L0 : List Nat} {A : Nat} {B : Nat} {x : Int32} {x1 : Int32} {s : Bool} {p : Int32} {a : Int32}
    (hW : Wc t M n T L0 A B)
    (hp : ixo x 6 = none)
    (k0 : Q (.inr 0) (sThr t)) :
    X 95 0 [.inr (.inr (11, (some 0))), .inl x, .inl x1, .inl (bz s), .inl p, .inl a, sJk, sJk, sJk] [] t Q := by
  obtain ⟨hM, hc, hR, hC, hL, hL9⟩ := hW
  refine x_aload_n (pc' := 1) rfl rfl rfl rfl rfl ?_
  refine x_iload_n (pc' := 2) rfl rfl rfl ?_
  refine x_cv (ls0 := [_, _]) (rest := []) rfl rfl rfl rfl rfl ?_
  refine b131_x ⟨hM, hc, hR, hC, hL, hL9⟩ hp ?_
  refine sK_n (by decide +kernel) rfl ?_
  exact k0
set_option maxHeartbeats 4000000 in
set_option maxRecDepth 10000 in
theorem n95_x1 {t : sT} {Q : sRs → sT → Prop} {M : sM} {n : Nat} {T : Nat} {L0 : List Nat} {A : Nat} {B : Nat} {m : Nat} {x : Int32} {s : Bool} {p : Int32} {a : Int32}
    (hW : Wc t M n T L0 A B)
    (hm : m < 6)
    (hp : ixo x 5 = none)
    (k0 : Q (.inr 0) (sThr t)) :
    X 95 0 [.inr (.inr (11, (some 0))), .inl (io m), .inl x, .inl (bz s), .inl p, .inl a, sJk, sJk, sJk] [] t Q := by
  obtain ⟨hM, hc, hR, hC, hL, hL9⟩ := hW
  refine x_aload_n (pc' := 1) rfl rfl rfl rfl rfl ?_
  refine x_iload_n (pc' := 2) rfl rfl rfl ?_
  refine x_cv (ls0 := [_, _]) (rest := []) rfl rfl rfl rfl rfl ?_
  refine x_iload_n (pc' := 1) rfl rfl rfl ?_
  refine x_if (a' := 16) (pc' := 4) (z := decide (m < 0)) rfl rfl rfl (ic_lt (p := m) (q := 0) (gm31 hm) (by decide)) (fun h => absurd (of_decide_eq_true h) (by first | decide | omega | simp)) (fun _ => ?_)
  refine x_iload_n (pc' := 5) rfl rfl rfl ?_
  refine x_aload_n (pc' := 6) rfl rfl rfl rfl rfl ?_
  refine x_gR (pc' := 9) (r := (some 0)) rfl rfl rfl (kR_704_0 hc.1) ?_
  refine x_gR (pc' := 12) (r := (some 0)) rfl rfl rfl (kR_321_0 hc.1) ?_
  refine x_alen (pc' := 13) (N := 6) rfl rfl rfl (kN_26_0 hc.1) (?_ : X _ _ _ (.inl 6 :: _) _ _)
  refine x_icmp (a' := 27) (pc' := 16) (z := decide (m < 6)) rfl rfl rfl (ic_lt (p := m) (q := 6) (gm31 hm) (by decide)) (fun _ => ?_) (fun h => absurd hm (of_decide_eq_false h))
  refine x_aload_n (pc' := 28) rfl rfl rfl rfl rfl ?_
  refine x_gR (pc' := 31) (r := (some 0)) rfl rfl rfl (kR_704_0 hc.1) ?_
  refine x_gR (pc' := 34) (r := (some 0)) rfl rfl rfl (kR_321_0 hc.1) ?_
  refine x_iload_n (pc' := 35) rfl rfl rfl ?_
  refine x_aald (pc' := 36) (N := 6) (k' := 7) (r := (some m)) rfl rfl rfl (kN_26_0 hc.1) (io_in (p := m) (N := 6) hm (by decide)) (Eq.trans (congrArg (sE t 26 0) (nn_io (p := m) (Nat.lt_trans hm (by decide)))) (kM hc.1 hm)) ?_
  refine x_reta rfl rfl ?_
  refine sK_i (pc' := 5) rfl ?_
  refine x_astore (pc' := 7) (ls' := [_, _, _, _, _, _, _, _, _]) rfl rfl rfl rfl rfl ?_
  refine x_aload_n (pc' := 8) rfl rfl rfl rfl rfl ?_
  refine x_iload_n (pc' := 9) rfl rfl rfl ?_
  refine x_cv (ls0 := [_, _]) (rest := []) rfl rfl rfl rfl rfl ?_
  refine b133_x ⟨hM, hc, hR, hC, hL, hL9⟩ hp ?_
  refine sK_n (by decide +kernel) rfl ?_
  exact k0
set_option maxHeartbeats 4000000 in
set_option maxRecDepth 10000 in
theorem n96 {t : sT} {Q : sRs → sT → Prop} {M : sM} {n : Nat} {T : Nat} {L0 : List Nat} {A : Nat} {B : Nat} {m : Nat} {b : Nat} {s : Bool} {p : Int32} {a : Int32} {h : Int32}
    (hW : Wc t M n T L0 A B)
    (hm : m < 6)
    (hb : b < 5)
    (hb0 : (n + 1) < 2 ^ 31)
    (k0 : (snd b) = none → p < 1 → Q (.inr 1) (sThr t))
    (k1 : (snd b) = none → ¬ (p < 1) → ¬ (999 < p) → a < 1 → Q (.inr 1) (sThr t))
    (k2 : (snd b) = none → ¬ (p < 1) → ¬ (999 < p) → ¬ (a < 1) → ¬ (100 < a) → (snd b) = none → h < 1 → Q (.inr 1) (sThr t))
    (k3 : (snd b) = none → ¬ (p < 1) → ¬ (999 < p) → ¬ (a < 1) → ¬ (100 < a) → (snd b) = none → ¬ (h < 1) → ¬ (999 < h) → (mA M 0 b) = 0 → Q (.inr 2) (sThr t))
    (k4 : (snd b) = none → ¬ (p < 1) → ¬ (999 < p) → ¬ (a < 1) → ¬ (100 < a) → (snd b) = none → ¬ (h < 1) → ¬ (999 < h) → ¬ ((mA M 0 b) = 0) → (mB M 2 m) = true → Q (.inr 2) (sThr t))
    (k5 : (snd b) = none → ¬ (p < 1) → ¬ (999 < p) → ¬ (a < 1) → ¬ (100 < a) → (snd b) = none → ¬ (h < 1) → ¬ (999 < h) → ¬ ((mA M 0 b) = 0) → (mB M 2 m) = false → 200 < (n + 1) → Q (.inr 2) (sThr t))
    (k6 : (snd b) = none → ¬ (p < 1) → ¬ (999 < p) → ¬ (a < 1) → ¬ (100 < a) → (snd b) = none → ¬ (h < 1) → ¬ (999 < h) → ¬ ((mA M 0 b) = 0) → (mB M 2 m) = false → ¬ (200 < (n + 1)) → X 138 0 [.inr (.inr (11, (some 0))), .inr (.inr (7, (some m))), .inr (.inr (1, (some b))), .inl (bz s), .inl a, sJk] [] t (sK 138 96 67 [.inr (.inr (11, (some 0))), .inl (io m), .inl (io b), .inl (bz s), .inl p, .inl a, .inl h, .inr (.inr (7, (some m))), .inr (.inr (1, (some b))), sJk] [] Q))
    (k7 : (snd b) = none → ¬ (p < 1) → ¬ (999 < p) → ¬ (a < 1) → ¬ (100 < a) → (snd b) = none → ¬ (h < 1) → 999 < h → Q (.inr 1) (sThr t))
    (k8 : (snd b) = none → ¬ (p < 1) → ¬ (999 < p) → ¬ (a < 1) → ¬ (100 < a) → ∀ j1, (snd b) = some j1 → h < (-500) → Q (.inr 1) (sThr t))
    (k9 : (snd b) = none → ¬ (p < 1) → ¬ (999 < p) → ¬ (a < 1) → ¬ (100 < a) → ∀ j1, (snd b) = some j1 → ¬ (h < (-500)) → ¬ (500 < h) → (mA M 0 b) = 0 → Q (.inr 2) (sThr t))
    (k10 : (snd b) = none → ¬ (p < 1) → ¬ (999 < p) → ¬ (a < 1) → ¬ (100 < a) → ∀ j1, (snd b) = some j1 → ¬ (h < (-500)) → ¬ (500 < h) → ¬ ((mA M 0 b) = 0) → (mB M 2 m) = true → Q (.inr 2) (sThr t))
    (k11 : (snd b) = none → ¬ (p < 1) → ¬ (999 < p) → ¬ (a < 1) → ¬ (100 < a) → ∀ j1, (snd b) = some j1 → ¬ (h < (-500)) → ¬ (500 < h) → ¬ ((mA M 0 b) = 0) → (mB M 2 m) = false → 200 < (n + 1) → Q (.inr 2) (sThr t))
    (k12 : (snd b) = none → ¬ (p < 1) → ¬ (999 < p) → ¬ (a < 1) → ¬ (100 < a) → ∀ j1, (snd b) = some j1 → ¬ (h < (-500)) → ¬ (500 < h) → ¬ ((mA M 0 b) = 0) → (mB M 2 m) = false → ¬ (200 < (n + 1)) → X 138 0 [.inr (.inr (11, (some 0))), .inr (.inr (7, (some m))), .inr (.inr (1, (some b))), .inl (bz s), .inl a, sJk] [] t (sK 138 96 67 [.inr (.inr (11, (some 0))), .inl (io m), .inl (io b), .inl (bz s), .inl p, .inl a, .inl h, .inr (.inr (7, (some m))), .inr (.inr (1, (some b))), sJk] [] Q))
    (k13 : (snd b) = none → ¬ (p < 1) → ¬ (999 < p) → ¬ (a < 1) → ¬ (100 < a) → ∀ j1, (snd b) = some j1 → ¬ (h < (-500)) → 500 < h → Q (.inr 1) (sThr t))
    (k14 : (snd b) = none → ¬ (p < 1) → ¬ (999 < p) → ¬ (a < 1) → 100 < a → Q (.inr 1) (sThr t))
    (k15 : (snd b) = none → ¬ (p < 1) → 999 < p → Q (.inr 1) (sThr t))
    (k16 : ∀ j0, (snd b) = some j0 → p < (-500) → Q (.inr 1) (sThr t))
    (k17 : ∀ j0, (snd b) = some j0 → ¬ (p < (-500)) → ¬ (500 < p) → a < 1 → Q (.inr 1) (sThr t))
    (k18 : ∀ j0, (snd b) = some j0 → ¬ (p < (-500)) → ¬ (500 < p) → ¬ (a < 1) → ¬ (100 < a) → h < (-500) → Q (.inr 1) (sThr t))
    (k19 : ∀ j0, (snd b) = some j0 → ¬ (p < (-500)) → ¬ (500 < p) → ¬ (a < 1) → ¬ (100 < a) → ¬ (h < (-500)) → ¬ (500 < h) → (mA M 0 b) = 0 → Q (.inr 2) (sThr t))
    (k20 : ∀ j0, (snd b) = some j0 → ¬ (p < (-500)) → ¬ (500 < p) → ¬ (a < 1) → ¬ (100 < a) → ¬ (h < (-500)) → ¬ (500 < h) → ¬ ((mA M 0 b) = 0) → (mB M 2 m) = true → Q (.inr 2) (sThr t))
    (k21 : ∀ j0, (snd b) = some j0 → ¬ (p < (-500)) → ¬ (500 < p) → ¬ (a < 1) → ¬ (100 < a) → ¬ (h < (-500)) → ¬ (500 < h) → ¬ ((mA M 0 b) = 0) → (mB M 2 m) = false → 200 < (n + 1) → Q (.inr 2) (sThr t))
    (k22 : ∀ j0, (snd b) = some j0 → ¬ (p < (-500)) → ¬ (500 < p) → ¬ (a < 1) → ¬ (100 < a) → ¬ (h < (-500)) → ¬ (500 < h) → ¬ ((mA M 0 b) = 0) → (mB M 2 m) = false → ¬ (200 < (n + 1)) → X 138 0 [.inr (.inr (11, (some 0))), .inr (.inr (7, (some m))), .inr (.inr (1, (some b))), .inl (bz s), .inl a, sJk] [] t (sK 138 96 67 [.inr (.inr (11, (some 0))), .inl (io m), .inl (io b), .inl (bz s), .inl p, .inl a, .inl h, .inr (.inr (7, (some m))), .inr (.inr (1, (some b))), sJk] [] Q))
    (k23 : ∀ j0, (snd b) = some j0 → ¬ (p < (-500)) → ¬ (500 < p) → ¬ (a < 1) → ¬ (100 < a) → ¬ (h < (-500)) → 500 < h → Q (.inr 1) (sThr t))
    (k24 : ∀ j0, (snd b) = some j0 → ¬ (p < (-500)) → ¬ (500 < p) → ¬ (a < 1) → 100 < a → Q (.inr 1) (sThr t))
    (k25 : ∀ j0, (snd b) = some j0 → ¬ (p < (-500)) → 500 < p → Q (.inr 1) (sThr t)) :
    X 96 0 [.inr (.inr (11, (some 0))), .inl (io m), .inl (io b), .inl (bz s), .inl p, .inl a, .inl h, sJk, sJk, sJk] [] t Q := by
  obtain ⟨hM, hc, hR, hC, hL, hL9⟩ := hW
  refine x_aload_n (pc' := 1) rfl rfl rfl rfl rfl ?_
  refine x_iload_n (pc' := 2) rfl rfl rfl ?_
  refine x_cv (ls0 := [_, _]) (rest := []) rfl rfl rfl rfl rfl ?_
  refine x_iload_n (pc' := 1) rfl rfl rfl ?_
  refine x_if (a' := 16) (pc' := 4) (z := decide (m < 0)) rfl rfl rfl (ic_lt (p := m) (q := 0) (gm31 hm) (by decide)) (fun h => absurd (of_decide_eq_true h) (by first | decide | omega | simp)) (fun _ => ?_)
  refine x_iload_n (pc' := 5) rfl rfl rfl ?_
  refine x_aload_n (pc' := 6) rfl rfl rfl rfl rfl ?_
  refine x_gR (pc' := 9) (r := (some 0)) rfl rfl rfl (kR_704_0 hc.1) ?_
  refine x_gR (pc' := 12) (r := (some 0)) rfl rfl rfl (kR_321_0 hc.1) ?_
  refine x_alen (pc' := 13) (N := 6) rfl rfl rfl (kN_26_0 hc.1) (?_ : X _ _ _ (.inl 6 :: _) _ _)
  refine x_icmp (a' := 27) (pc' := 16) (z := decide (m < 6)) rfl rfl rfl (ic_lt (p := m) (q := 6) (gm31 hm) (by decide)) (fun _ => ?_) (fun h => absurd hm (of_decide_eq_false h))
  refine x_aload_n (pc' := 28) rfl rfl rfl rfl rfl ?_
  refine x_gR (pc' := 31) (r := (some 0)) rfl rfl rfl (kR_704_0 hc.1) ?_
  refine x_gR (pc' := 34) (r := (some 0)) rfl rfl rfl (kR_321_0 hc.1) ?_
  refine x_iload_n (pc' := 35) rfl rfl rfl ?_
  refine x_aald (pc' := 36) (N := 6) (k' := 7) (r := (some m)) rfl rfl rfl (kN_26_0 hc.1) (io_in (p := m) (N := 6) hm (by decide)) (Eq.trans (congrArg (sE t 26 0) (nn_io (p := m) (Nat.lt_trans hm (by decide)))) (kM hc.1 hm)) ?_
  refine x_reta rfl rfl ?_
  refine sK_i (pc' := 5) rfl ?_
  refine x_astore (pc' := 7) (ls' := [_, _, _, _, _, _, _, _, _, _]) rfl rfl rfl rfl rfl ?_
  refine x_aload_n (pc' := 8) rfl rfl rfl rfl rfl ?_
  refine x_iload_n (pc' := 9) rfl rfl rfl ?_
  refine x_cv (ls0 := [_, _]) (rest := []) rfl rfl rfl rfl rfl ?_
  refine x_iload_n (pc' := 1) rfl rfl rfl ?_
  refine x_if (a' := 16) (pc' := 4) (z := decide (b < 0)) rfl rfl rfl (ic_lt (p := b) (q := 0) (gb31 hb) (by decide)) (fun h => absurd (of_decide_eq_true h) (by first | decide | omega | simp)) (fun _ => ?_)
  refine x_iload_n (pc' := 5) rfl rfl rfl ?_
  refine x_aload_n (pc' := 6) rfl rfl rfl rfl rfl ?_
  refine x_gR (pc' := 9) (r := (some 0)) rfl rfl rfl (kR_705_0 hc.1) ?_
  refine x_gR (pc' := 12) (r := (some 0)) rfl rfl rfl (kR_256_0 hc.1) ?_
  refine x_alen (pc' := 13) (N := 5) rfl rfl rfl (kN_24_0 hc.1) (?_ : X _ _ _ (.inl 5 :: _) _ _)
  refine x_icmp (a' := 27) (pc' := 16) (z := decide (b < 5)) rfl rfl rfl (ic_lt (p := b) (q := 5) (gb31 hb) (by decide)) (fun _ => ?_) (fun h => absurd hb (of_decide_eq_false h))
  refine x_aload_n (pc' := 28) rfl rfl rfl rfl rfl ?_
  refine x_gR (pc' := 31) (r := (some 0)) rfl rfl rfl (kR_705_0 hc.1) ?_
  refine x_gR (pc' := 34) (r := (some 0)) rfl rfl rfl (kR_256_0 hc.1) ?_
  refine x_iload_n (pc' := 35) rfl rfl rfl ?_
  refine x_aald (pc' := 36) (N := 5) (k' := 1) (r := (some b)) rfl rfl rfl (kN_24_0 hc.1) (io_in (p := b) (N := 5) hb (by decide)) (Eq.trans (congrArg (sE t 24 0) (nn_io (p := b) (Nat.lt_trans hb (by decide)))) (kB hc.1 hb)) ?_
  refine x_reta rfl rfl ?_
  refine sK_i (pc' := 12) rfl ?_
  refine x_astore (pc' := 14) (ls' := [_, _, _, _, _, _, _, _, _, _]) rfl rfl rfl rfl rfl ?_
  refine x_aload (pc' := 16) rfl rfl rfl rfl rfl ?_
  refine x_iload (pc' := 18) rfl rfl rfl ?_
  refine x_cs (ls0 := [_, _]) (rest := []) rfl rfl rfl rfl ?_
  refine x_aload_n (pc' := 1) rfl rfl rfl rfl rfl ?_
  refine x_cv (ls0 := [_]) (rest := []) rfl rfl rfl rfl rfl ?_
  refine x_aload_n (pc' := 1) rfl rfl rfl rfl rfl ?_
  refine x_gR (pc' := 4) (r := (snd b)) rfl rfl rfl (kBk hc.1 hb).2.1 ?_
  refine x_ifnull (a' := 11) (pc' := 7) rfl rfl rfl rfl (fun q5 => ?_) (fun j0 q5 => ?_)
  · refine x_iconst (pc' := 12) rfl rfl ?_
    refine x_retz (z := false) rfl rfl ?_
    refine sK_i (pc' := 4) rfl ?_
    refine x_if (a' := 20) (pc' := 7) (z := true) rfl rfl rfl (by decide) (fun _ => ?_) (fun h => by cases h)
    refine x_iload_n (pc' := 21) rfl rfl rfl ?_
    refine x_iconst (pc' := 22) rfl rfl ?_
    refine x_sipush (pc' := 25) rfl rfl ?_
    refine x_cs (ls0 := [_, _, _]) (rest := []) rfl rfl rfl rfl ?_
    refine x_iload_n (pc' := 1) rfl rfl rfl ?_
    refine x_iload_n (pc' := 2) rfl rfl rfl ?_
    refine x_icmp (a' := 10) (pc' := 5) (z := decide (p < 1)) rfl rfl rfl rfl (fun q7 => ?_) (fun q7 => ?_)
    · refine x_throw rfl rfl ?_
      refine sK_n (by decide +kernel) rfl ?_
      refine sK_n (by decide +kernel) rfl ?_
      exact k0 q5 (of_decide_eq_true q7)
    · refine x_iload_n (pc' := 6) rfl rfl rfl ?_
      refine x_iload_n (pc' := 7) rfl rfl rfl ?_
      refine x_icmp_n (a' := 21) (pc' := 10) (z := decide (999 < p)) rfl rfl rfl (ik_le _ _) (fun q8 => ?_) (fun q8 => ?_)
      · refine x_ret rfl ?_
        refine sK_v (pc' := 28) rfl ?_
        refine x_ret rfl ?_
        refine sK_v (pc' := 21) rfl ?_
        refine x_iload (pc' := 23) rfl rfl rfl ?_
        refine x_iconst (pc' := 24) rfl rfl ?_
        refine x_bipush (pc' := 26) rfl rfl ?_
        refine x_cs (ls0 := [_, _, _]) (rest := []) rfl rfl rfl rfl ?_
        refine x_iload_n (pc' := 1) rfl rfl rfl ?_
        refine x_iload_n (pc' := 2) rfl rfl rfl ?_
        refine x_icmp (a' := 10) (pc' := 5) (z := decide (a < 1)) rfl rfl rfl rfl (fun q9 => ?_) (fun q9 => ?_)
        · refine x_throw rfl rfl ?_
          refine sK_n (by decide +kernel) rfl ?_
          exact k1 q5 (of_decide_eq_false q7) (of_decide_eq_false q8) (of_decide_eq_true q9)
        · refine x_iload_n (pc' := 6) rfl rfl rfl ?_
          refine x_iload_n (pc' := 7) rfl rfl rfl ?_
          refine x_icmp_n (a' := 21) (pc' := 10) (z := decide (100 < a)) rfl rfl rfl (ik_le _ _) (fun q10 => ?_) (fun q10 => ?_)
          · refine x_ret rfl ?_
            refine sK_v (pc' := 29) rfl ?_
            refine x_aload (pc' := 31) rfl rfl rfl rfl rfl ?_
            refine x_iload (pc' := 33) rfl rfl rfl ?_
            refine x_cs (ls0 := [_, _]) (rest := []) rfl rfl rfl rfl ?_
            refine x_aload_n (pc' := 1) rfl rfl rfl rfl rfl ?_
            refine x_cv (ls0 := [_]) (rest := []) rfl rfl rfl rfl rfl ?_
            refine x_aload_n (pc' := 1) rfl rfl rfl rfl rfl ?_
            refine x_gR (pc' := 4) (r := (snd b)) rfl rfl rfl (kBk hc.1 hb).2.1 ?_
            refine x_ifnull (a' := 11) (pc' := 7) rfl rfl rfl rfl (fun q11 => ?_) (fun j1 q11 => ?_)
            · refine x_iconst (pc' := 12) rfl rfl ?_
              refine x_retz (z := false) rfl rfl ?_
              refine sK_i (pc' := 4) rfl ?_
              refine x_if (a' := 20) (pc' := 7) (z := true) rfl rfl rfl (by decide) (fun _ => ?_) (fun h => by cases h)
              refine x_iload_n (pc' := 21) rfl rfl rfl ?_
              refine x_iconst (pc' := 22) rfl rfl ?_
              refine x_sipush (pc' := 25) rfl rfl ?_
              refine x_cs (ls0 := [_, _, _]) (rest := []) rfl rfl rfl rfl ?_
              refine x_iload_n (pc' := 1) rfl rfl rfl ?_
              refine x_iload_n (pc' := 2) rfl rfl rfl ?_
              refine x_icmp (a' := 10) (pc' := 5) (z := decide (h < 1)) rfl rfl rfl rfl (fun q13 => ?_) (fun q13 => ?_)
              · refine x_throw rfl rfl ?_
                refine sK_n (by decide +kernel) rfl ?_
                refine sK_n (by decide +kernel) rfl ?_
                exact k2 q5 (of_decide_eq_false q7) (of_decide_eq_false q8) (of_decide_eq_false q9) (of_decide_eq_false q10) q11 (of_decide_eq_true q13)
              · refine x_iload_n (pc' := 6) rfl rfl rfl ?_
                refine x_iload_n (pc' := 7) rfl rfl rfl ?_
                refine x_icmp_n (a' := 21) (pc' := 10) (z := decide (999 < h)) rfl rfl rfl (ik_le _ _) (fun q14 => ?_) (fun q14 => ?_)
                · refine x_ret rfl ?_
                  refine sK_v (pc' := 28) rfl ?_
                  refine x_ret rfl ?_
                  refine sK_v (pc' := 36) rfl ?_
                  refine x_aload (pc' := 38) rfl rfl rfl rfl rfl ?_
                  refine x_gI (pc' := 41) (x := (mA M 0 b)) rfl rfl rfl (kA hM rfl hb) ?_
                  refine x_if (a' := 48) (pc' := 44) (z := decide ((mA M 0 b) = 0)) rfl rfl rfl rfl (fun q15 => ?_) (fun q15 => ?_)
                  · refine x_iconst (pc' := 49) rfl rfl ?_
                    refine x_cs (ls0 := [_]) (rest := []) rfl rfl rfl rfl ?_
                    refine x_iload_n (pc' := 1) rfl rfl rfl ?_
                    refine x_if (a' := 15) (pc' := 4) (z := false) rfl rfl rfl (by decide) (fun h => by cases h) (fun _ => ?_)
                    refine x_throw rfl rfl ?_
                    refine sK_n (by decide +kernel) rfl ?_
                    exact k3 q5 (of_decide_eq_false q7) (of_decide_eq_false q8) (of_decide_eq_false q9) (of_decide_eq_false q10) q11 (of_decide_eq_false q13) (of_decide_eq_false q14) (of_decide_eq_true q15)
                  · refine x_iconst (pc' := 45) rfl rfl ?_
                    refine x_goto (pc' := 49) rfl rfl ?_
                    refine x_cs (ls0 := [_]) (rest := []) rfl rfl rfl rfl ?_
                    refine x_iload_n (pc' := 1) rfl rfl rfl ?_
                    refine x_if (a' := 15) (pc' := 4) (z := true) rfl rfl rfl (by decide) (fun _ => ?_) (fun h => by cases h)
                    refine x_ret rfl ?_
                    refine sK_v (pc' := 52) rfl ?_
                    refine x_aload_n (pc' := 53) rfl rfl rfl rfl rfl ?_
                    refine x_aload (pc' := 55) rfl rfl rfl rfl rfl ?_
                    refine x_iconst (pc' := 56) rfl rfl ?_
                    refine x_cv (ls0 := [_, _, _]) (rest := []) rfl rfl rfl rfl rfl ?_
                    refine x_aload_n (pc' := 1) rfl rfl rfl rfl rfl ?_
                    refine x_gZ (pc' := 4) (z := (mB M 2 m)) rfl rfl rfl (kZ hM rfl hm) ?_
                    refine x_ifne_z (a' := 29) (pc' := 7) (z := (mB M 2 m)) rfl rfl rfl (fun q18 => ?_) (fun q18 => ?_)
                    · refine x_iconst (pc' := 30) rfl rfl ?_
                      refine x_cs (ls0 := [_]) (rest := []) rfl rfl rfl rfl ?_
                      refine x_iload_n (pc' := 1) rfl rfl rfl ?_
                      refine x_if (a' := 15) (pc' := 4) (z := false) rfl rfl rfl (by decide) (fun h => by cases h) (fun _ => ?_)
                      refine x_throw rfl rfl ?_
                      refine sK_n (by decide +kernel) rfl ?_
                      refine sK_n (by decide +kernel) rfl ?_
                      exact k4 q5 (of_decide_eq_false q7) (of_decide_eq_false q8) (of_decide_eq_false q9) (of_decide_eq_false q10) q11 (of_decide_eq_false q13) (of_decide_eq_false q14) (of_decide_eq_false q15) q18
                    · refine x_aload_n (pc' := 8) rfl rfl rfl rfl rfl ?_
                      refine x_gR (pc' := 11) (r := (some 0)) rfl rfl rfl (kR_705_0 hc.1) ?_
                      refine x_gR (pc' := 14) (r := (some 1)) rfl rfl rfl (kR_257_0 hc.1) ?_
                      refine x_cv (ls0 := [_]) (rest := []) rfl rfl rfl rfl rfl ?_
                      refine x_aload_n (pc' := 1) rfl rfl rfl rfl rfl ?_
                      refine x_gI (pc' := 4) (x := (io n)) rfl rfl rfl (Sf_n hc) ?_
                      refine x_reti rfl rfl ?_
                      refine sK_i (pc' := 17) rfl ?_
                      refine x_iload_n (pc' := 18) rfl rfl rfl ?_
                      refine x_iadd (pc' := 19) (z := (io (n + 1))) rfl rfl (io_add n 1) ?_
                      refine x_sipush (pc' := 22) rfl rfl ?_
                      refine x_icmp (a' := 29) (pc' := 25) (z := decide (200 < (n + 1))) rfl rfl rfl (ic_gt (p := (n + 1)) (q := 200) hb0 (by decide)) (fun q20 => ?_) (fun q20 => ?_)
                      · refine x_iconst (pc' := 30) rfl rfl ?_
                        refine x_cs (ls0 := [_]) (rest := []) rfl rfl rfl rfl ?_
                        refine x_iload_n (pc' := 1) rfl rfl rfl ?_
                        refine x_if (a' := 15) (pc' := 4) (z := false) rfl rfl rfl (by decide) (fun h => by cases h) (fun _ => ?_)
                        refine x_throw rfl rfl ?_
                        refine sK_n (by decide +kernel) rfl ?_
                        refine sK_n (by decide +kernel) rfl ?_
                        exact k5 q5 (of_decide_eq_false q7) (of_decide_eq_false q8) (of_decide_eq_false q9) (of_decide_eq_false q10) q11 (of_decide_eq_false q13) (of_decide_eq_false q14) (of_decide_eq_false q15) q18 (of_decide_eq_true q20)
                      · refine x_iconst (pc' := 26) rfl rfl ?_
                        refine x_goto (pc' := 30) rfl rfl ?_
                        refine x_cs (ls0 := [_]) (rest := []) rfl rfl rfl rfl ?_
                        refine x_iload_n (pc' := 1) rfl rfl rfl ?_
                        refine x_if (a' := 15) (pc' := 4) (z := true) rfl rfl rfl (by decide) (fun _ => ?_) (fun h => by cases h)
                        refine x_ret rfl ?_
                        refine sK_v (pc' := 33) rfl ?_
                        refine x_ret rfl ?_
                        refine sK_v (pc' := 59) rfl ?_
                        refine x_aload_n (pc' := 60) rfl rfl rfl rfl rfl ?_
                        refine x_aload (pc' := 62) rfl rfl rfl rfl rfl ?_
                        refine x_aload (pc' := 64) rfl rfl rfl rfl rfl ?_
                        refine x_iload_n (pc' := 65) rfl rfl rfl ?_
                        refine x_iload (pc' := 67) rfl rfl rfl ?_
                        refine x_cv (ls0 := [_, _, _, _, _, sJk]) (rest := []) rfl rfl rfl rfl rfl ?_
                        exact k6 q5 (of_decide_eq_false q7) (of_decide_eq_false q8) (of_decide_eq_false q9) (of_decide_eq_false q10) q11 (of_decide_eq_false q13) (of_decide_eq_false q14) (of_decide_eq_false q15) q18 (of_decide_eq_false q20)
                · refine x_throw rfl rfl ?_
                  refine sK_n (by decide +kernel) rfl ?_
                  refine sK_n (by decide +kernel) rfl ?_
                  exact k7 q5 (of_decide_eq_false q7) (of_decide_eq_false q8) (of_decide_eq_false q9) (of_decide_eq_false q10) q11 (of_decide_eq_false q13) (of_decide_eq_true q14)
            · refine x_iconst (pc' := 8) rfl rfl ?_
              refine x_goto (pc' := 12) rfl rfl ?_
              refine x_retz (z := true) rfl rfl ?_
              refine sK_i (pc' := 4) rfl ?_
              refine x_if (a' := 20) (pc' := 7) (z := false) rfl rfl rfl (by decide) (fun h => by cases h) (fun _ => ?_)
              refine x_iload_n (pc' := 8) rfl rfl rfl ?_
              refine x_sipush (pc' := 11) rfl rfl ?_
              refine x_sipush (pc' := 14) rfl rfl ?_
              refine x_cs (ls0 := [_, _, _]) (rest := []) rfl rfl rfl rfl ?_
              refine x_iload_n (pc' := 1) rfl rfl rfl ?_
              refine x_iload_n (pc' := 2) rfl rfl rfl ?_
              refine x_icmp (a' := 10) (pc' := 5) (z := decide (h < (-500))) rfl rfl rfl rfl (fun q24 => ?_) (fun q24 => ?_)
              · refine x_throw rfl rfl ?_
                refine sK_n (by decide +kernel) rfl ?_
                refine sK_n (by decide +kernel) rfl ?_
                exact k8 q5 (of_decide_eq_false q7) (of_decide_eq_false q8) (of_decide_eq_false q9) (of_decide_eq_false q10) j1 q11 (of_decide_eq_true q24)
              · refine x_iload_n (pc' := 6) rfl rfl rfl ?_
                refine x_iload_n (pc' := 7) rfl rfl rfl ?_
                refine x_icmp_n (a' := 21) (pc' := 10) (z := decide (500 < h)) rfl rfl rfl (ik_le _ _) (fun q25 => ?_) (fun q25 => ?_)
                · refine x_ret rfl ?_
                  refine sK_v (pc' := 17) rfl ?_
                  refine x_goto (pc' := 28) rfl rfl ?_
                  refine x_ret rfl ?_
                  refine sK_v (pc' := 36) rfl ?_
                  refine x_aload (pc' := 38) rfl rfl rfl rfl rfl ?_
                  refine x_gI (pc' := 41) (x := (mA M 0 b)) rfl rfl rfl (kA hM rfl hb) ?_
                  refine x_if (a' := 48) (pc' := 44) (z := decide ((mA M 0 b) = 0)) rfl rfl rfl rfl (fun q26 => ?_) (fun q26 => ?_)
                  · refine x_iconst (pc' := 49) rfl rfl ?_
                    refine x_cs (ls0 := [_]) (rest := []) rfl rfl rfl rfl ?_
                    refine x_iload_n (pc' := 1) rfl rfl rfl ?_
                    refine x_if (a' := 15) (pc' := 4) (z := false) rfl rfl rfl (by decide) (fun h => by cases h) (fun _ => ?_)
                    refine x_throw rfl rfl ?_
                    refine sK_n (by decide +kernel) rfl ?_
                    exact k9 q5 (of_decide_eq_false q7) (of_decide_eq_false q8) (of_decide_eq_false q9) (of_decide_eq_false q10) j1 q11 (of_decide_eq_false q24) (of_decide_eq_false q25) (of_decide_eq_true q26)
                  · refine x_iconst (pc' := 45) rfl rfl ?_
                    refine x_goto (pc' := 49) rfl rfl ?_
                    refine x_cs (ls0 := [_]) (rest := []) rfl rfl rfl rfl ?_
                    refine x_iload_n (pc' := 1) rfl rfl rfl ?_
                    refine x_if (a' := 15) (pc' := 4) (z := true) rfl rfl rfl (by decide) (fun _ => ?_) (fun h => by cases h)
                    refine x_ret rfl ?_
                    refine sK_v (pc' := 52) rfl ?_
                    refine x_aload_n (pc' := 53) rfl rfl rfl rfl rfl ?_
                    refine x_aload (pc' := 55) rfl rfl rfl rfl rfl ?_
                    refine x_iconst (pc' := 56) rfl rfl ?_
                    refine x_cv (ls0 := [_, _, _]) (rest := []) rfl rfl rfl rfl rfl ?_
                    refine x_aload_n (pc' := 1) rfl rfl rfl rfl rfl ?_
                    refine x_gZ (pc' := 4) (z := (mB M 2 m)) rfl rfl rfl (kZ hM rfl hm) ?_
                    refine x_ifne_z (a' := 29) (pc' := 7) (z := (mB M 2 m)) rfl rfl rfl (fun q29 => ?_) (fun q29 => ?_)
                    · refine x_iconst (pc' := 30) rfl rfl ?_
                      refine x_cs (ls0 := [_]) (rest := []) rfl rfl rfl rfl ?_
                      refine x_iload_n (pc' := 1) rfl rfl rfl ?_
                      refine x_if (a' := 15) (pc' := 4) (z := false) rfl rfl rfl (by decide) (fun h => by cases h) (fun _ => ?_)
                      refine x_throw rfl rfl ?_
                      refine sK_n (by decide +kernel) rfl ?_
                      refine sK_n (by decide +kernel) rfl ?_
                      exact k10 q5 (of_decide_eq_false q7) (of_decide_eq_false q8) (of_decide_eq_false q9) (of_decide_eq_false q10) j1 q11 (of_decide_eq_false q24) (of_decide_eq_false q25) (of_decide_eq_false q26) q29
                    · refine x_aload_n (pc' := 8) rfl rfl rfl rfl rfl ?_
                      refine x_gR (pc' := 11) (r := (some 0)) rfl rfl rfl (kR_705_0 hc.1) ?_
                      refine x_gR (pc' := 14) (r := (some 1)) rfl rfl rfl (kR_257_0 hc.1) ?_
                      refine x_cv (ls0 := [_]) (rest := []) rfl rfl rfl rfl rfl ?_
                      refine x_aload_n (pc' := 1) rfl rfl rfl rfl rfl ?_
                      refine x_gI (pc' := 4) (x := (io n)) rfl rfl rfl (Sf_n hc) ?_
                      refine x_reti rfl rfl ?_
                      refine sK_i (pc' := 17) rfl ?_
                      refine x_iload_n (pc' := 18) rfl rfl rfl ?_
                      refine x_iadd (pc' := 19) (z := (io (n + 1))) rfl rfl (io_add n 1) ?_
                      refine x_sipush (pc' := 22) rfl rfl ?_
                      refine x_icmp (a' := 29) (pc' := 25) (z := decide (200 < (n + 1))) rfl rfl rfl (ic_gt (p := (n + 1)) (q := 200) hb0 (by decide)) (fun q31 => ?_) (fun q31 => ?_)
                      · refine x_iconst (pc' := 30) rfl rfl ?_
                        refine x_cs (ls0 := [_]) (rest := []) rfl rfl rfl rfl ?_
                        refine x_iload_n (pc' := 1) rfl rfl rfl ?_
                        refine x_if (a' := 15) (pc' := 4) (z := false) rfl rfl rfl (by decide) (fun h => by cases h) (fun _ => ?_)
                        refine x_throw rfl rfl ?_
                        refine sK_n (by decide +kernel) rfl ?_
                        refine sK_n (by decide +kernel) rfl ?_
                        exact k11 q5 (of_decide_eq_false q7) (of_decide_eq_false q8) (of_decide_eq_false q9) (of_decide_eq_false q10) j1 q11 (of_decide_eq_false q24) (of_decide_eq_false q25) (of_decide_eq_false q26) q29 (of_decide_eq_true q31)
                      · refine x_iconst (pc' := 26) rfl rfl ?_
                        refine x_goto (pc' := 30) rfl rfl ?_
                        refine x_cs (ls0 := [_]) (rest := []) rfl rfl rfl rfl ?_
                        refine x_iload_n (pc' := 1) rfl rfl rfl ?_
                        refine x_if (a' := 15) (pc' := 4) (z := true) rfl rfl rfl (by decide) (fun _ => ?_) (fun h => by cases h)
                        refine x_ret rfl ?_
                        refine sK_v (pc' := 33) rfl ?_
                        refine x_ret rfl ?_
                        refine sK_v (pc' := 59) rfl ?_
                        refine x_aload_n (pc' := 60) rfl rfl rfl rfl rfl ?_
                        refine x_aload (pc' := 62) rfl rfl rfl rfl rfl ?_
                        refine x_aload (pc' := 64) rfl rfl rfl rfl rfl ?_
                        refine x_iload_n (pc' := 65) rfl rfl rfl ?_
                        refine x_iload (pc' := 67) rfl rfl rfl ?_
                        refine x_cv (ls0 := [_, _, _, _, _, sJk]) (rest := []) rfl rfl rfl rfl rfl ?_
                        exact k12 q5 (of_decide_eq_false q7) (of_decide_eq_false q8) (of_decide_eq_false q9) (of_decide_eq_false q10) j1 q11 (of_decide_eq_false q24) (of_decide_eq_false q25) (of_decide_eq_false q26) q29 (of_decide_eq_false q31)
                · refine x_throw rfl rfl ?_
                  refine sK_n (by decide +kernel) rfl ?_
                  refine sK_n (by decide +kernel) rfl ?_
                  exact k13 q5 (of_decide_eq_false q7) (of_decide_eq_false q8) (of_decide_eq_false q9) (of_decide_eq_false q10) j1 q11 (of_decide_eq_false q24) (of_decide_eq_true q25)
          · refine x_throw rfl rfl ?_
            refine sK_n (by decide +kernel) rfl ?_
            exact k14 q5 (of_decide_eq_false q7) (of_decide_eq_false q8) (of_decide_eq_false q9) (of_decide_eq_true q10)
      · refine x_throw rfl rfl ?_
        refine sK_n (by decide +kernel) rfl ?_
        refine sK_n (by decide +kernel) rfl ?_
        exact k15 q5 (of_decide_eq_false q7) (of_decide_eq_true q8)
  · refine x_iconst (pc' := 8) rfl rfl ?_
    refine x_goto (pc' := 12) rfl rfl ?_
    refine x_retz (z := true) rfl rfl ?_
    refine sK_i (pc' := 4) rfl ?_
    refine x_if (a' := 20) (pc' := 7) (z := false) rfl rfl rfl (by decide) (fun h => by cases h) (fun _ => ?_)
    refine x_iload_n (pc' := 8) rfl rfl rfl ?_
    refine x_sipush (pc' := 11) rfl rfl ?_
    refine x_sipush (pc' := 14) rfl rfl ?_
    refine x_cs (ls0 := [_, _, _]) (rest := []) rfl rfl rfl rfl ?_
    refine x_iload_n (pc' := 1) rfl rfl rfl ?_
    refine x_iload_n (pc' := 2) rfl rfl rfl ?_
    refine x_icmp (a' := 10) (pc' := 5) (z := decide (p < (-500))) rfl rfl rfl rfl (fun q35 => ?_) (fun q35 => ?_)
    · refine x_throw rfl rfl ?_
      refine sK_n (by decide +kernel) rfl ?_
      refine sK_n (by decide +kernel) rfl ?_
      exact k16 j0 q5 (of_decide_eq_true q35)
    · refine x_iload_n (pc' := 6) rfl rfl rfl ?_
      refine x_iload_n (pc' := 7) rfl rfl rfl ?_
      refine x_icmp_n (a' := 21) (pc' := 10) (z := decide (500 < p)) rfl rfl rfl (ik_le _ _) (fun q36 => ?_) (fun q36 => ?_)
      · refine x_ret rfl ?_
        refine sK_v (pc' := 17) rfl ?_
        refine x_goto (pc' := 28) rfl rfl ?_
        refine x_ret rfl ?_
        refine sK_v (pc' := 21) rfl ?_
        refine x_iload (pc' := 23) rfl rfl rfl ?_
        refine x_iconst (pc' := 24) rfl rfl ?_
        refine x_bipush (pc' := 26) rfl rfl ?_
        refine x_cs (ls0 := [_, _, _]) (rest := []) rfl rfl rfl rfl ?_
        refine x_iload_n (pc' := 1) rfl rfl rfl ?_
        refine x_iload_n (pc' := 2) rfl rfl rfl ?_
        refine x_icmp (a' := 10) (pc' := 5) (z := decide (a < 1)) rfl rfl rfl rfl (fun q37 => ?_) (fun q37 => ?_)
        · refine x_throw rfl rfl ?_
          refine sK_n (by decide +kernel) rfl ?_
          exact k17 j0 q5 (of_decide_eq_false q35) (of_decide_eq_false q36) (of_decide_eq_true q37)
        · refine x_iload_n (pc' := 6) rfl rfl rfl ?_
          refine x_iload_n (pc' := 7) rfl rfl rfl ?_
          refine x_icmp_n (a' := 21) (pc' := 10) (z := decide (100 < a)) rfl rfl rfl (ik_le _ _) (fun q38 => ?_) (fun q38 => ?_)
          · refine x_ret rfl ?_
            refine sK_v (pc' := 29) rfl ?_
            refine x_aload (pc' := 31) rfl rfl rfl rfl rfl ?_
            refine x_iload (pc' := 33) rfl rfl rfl ?_
            refine x_cs (ls0 := [_, _]) (rest := []) rfl rfl rfl rfl ?_
            refine x_aload_n (pc' := 1) rfl rfl rfl rfl rfl ?_
            refine x_cv (ls0 := [_]) (rest := []) rfl rfl rfl rfl rfl ?_
            refine x_aload_n (pc' := 1) rfl rfl rfl rfl rfl ?_
            refine x_gR (pc' := 4) (r := (some j0)) rfl rfl rfl (Eq.trans (kBk hc.1 hb).2.1 q5) ?_
            refine x_ifnull (a' := 11) (pc' := 7) rfl rfl rfl rfl (fun h => by cases h) (fun _ _ => ?_)
            refine x_iconst (pc' := 8) rfl rfl ?_
            refine x_goto (pc' := 12) rfl rfl ?_
            refine x_retz (z := true) rfl rfl ?_
            refine sK_i (pc' := 4) rfl ?_
            refine x_if (a' := 20) (pc' := 7) (z := false) rfl rfl rfl (by decide) (fun h => by cases h) (fun _ => ?_)
            refine x_iload_n (pc' := 8) rfl rfl rfl ?_
            refine x_sipush (pc' := 11) rfl rfl ?_
            refine x_sipush (pc' := 14) rfl rfl ?_
            refine x_cs (ls0 := [_, _, _]) (rest := []) rfl rfl rfl rfl ?_
            refine x_iload_n (pc' := 1) rfl rfl rfl ?_
            refine x_iload_n (pc' := 2) rfl rfl rfl ?_
            refine x_icmp (a' := 10) (pc' := 5) (z := decide (h < (-500))) rfl rfl rfl rfl (fun q41 => ?_) (fun q41 => ?_)
            · refine x_throw rfl rfl ?_
              refine sK_n (by decide +kernel) rfl ?_
              refine sK_n (by decide +kernel) rfl ?_
              exact k18 j0 q5 (of_decide_eq_false q35) (of_decide_eq_false q36) (of_decide_eq_false q37) (of_decide_eq_false q38) (of_decide_eq_true q41)
            · refine x_iload_n (pc' := 6) rfl rfl rfl ?_
              refine x_iload_n (pc' := 7) rfl rfl rfl ?_
              refine x_icmp_n (a' := 21) (pc' := 10) (z := decide (500 < h)) rfl rfl rfl (ik_le _ _) (fun q42 => ?_) (fun q42 => ?_)
              · refine x_ret rfl ?_
                refine sK_v (pc' := 17) rfl ?_
                refine x_goto (pc' := 28) rfl rfl ?_
                refine x_ret rfl ?_
                refine sK_v (pc' := 36) rfl ?_
                refine x_aload (pc' := 38) rfl rfl rfl rfl rfl ?_
                refine x_gI (pc' := 41) (x := (mA M 0 b)) rfl rfl rfl (kA hM rfl hb) ?_
                refine x_if (a' := 48) (pc' := 44) (z := decide ((mA M 0 b) = 0)) rfl rfl rfl rfl (fun q43 => ?_) (fun q43 => ?_)
                · refine x_iconst (pc' := 49) rfl rfl ?_
                  refine x_cs (ls0 := [_]) (rest := []) rfl rfl rfl rfl ?_
                  refine x_iload_n (pc' := 1) rfl rfl rfl ?_
                  refine x_if (a' := 15) (pc' := 4) (z := false) rfl rfl rfl (by decide) (fun h => by cases h) (fun _ => ?_)
                  refine x_throw rfl rfl ?_
                  refine sK_n (by decide +kernel) rfl ?_
                  exact k19 j0 q5 (of_decide_eq_false q35) (of_decide_eq_false q36) (of_decide_eq_false q37) (of_decide_eq_false q38) (of_decide_eq_false q41) (of_decide_eq_false q42) (of_decide_eq_true q43)
                · refine x_iconst (pc' := 45) rfl rfl ?_
                  refine x_goto (pc' := 49) rfl rfl ?_
                  refine x_cs (ls0 := [_]) (rest := []) rfl rfl rfl rfl ?_
                  refine x_iload_n (pc' := 1) rfl rfl rfl ?_
                  refine x_if (a' := 15) (pc' := 4) (z := true) rfl rfl rfl (by decide) (fun _ => ?_) (fun h => by cases h)
                  refine x_ret rfl ?_
                  refine sK_v (pc' := 52) rfl ?_
                  refine x_aload_n (pc' := 53) rfl rfl rfl rfl rfl ?_
                  refine x_aload (pc' := 55) rfl rfl rfl rfl rfl ?_
                  refine x_iconst (pc' := 56) rfl rfl ?_
                  refine x_cv (ls0 := [_, _, _]) (rest := []) rfl rfl rfl rfl rfl ?_
                  refine x_aload_n (pc' := 1) rfl rfl rfl rfl rfl ?_
                  refine x_gZ (pc' := 4) (z := (mB M 2 m)) rfl rfl rfl (kZ hM rfl hm) ?_
                  refine x_ifne_z (a' := 29) (pc' := 7) (z := (mB M 2 m)) rfl rfl rfl (fun q46 => ?_) (fun q46 => ?_)
                  · refine x_iconst (pc' := 30) rfl rfl ?_
                    refine x_cs (ls0 := [_]) (rest := []) rfl rfl rfl rfl ?_
                    refine x_iload_n (pc' := 1) rfl rfl rfl ?_
                    refine x_if (a' := 15) (pc' := 4) (z := false) rfl rfl rfl (by decide) (fun h => by cases h) (fun _ => ?_)
                    refine x_throw rfl rfl ?_
                    refine sK_n (by decide +kernel) rfl ?_
                    refine sK_n (by decide +kernel) rfl ?_
                    exact k20 j0 q5 (of_decide_eq_false q35) (of_decide_eq_false q36) (of_decide_eq_false q37) (of_decide_eq_false q38) (of_decide_eq_false q41) (of_decide_eq_false q42) (of_decide_eq_false q43) q46
                  · refine x_aload_n (pc' := 8) rfl rfl rfl rfl rfl ?_
                    refine x_gR (pc' := 11) (r := (some 0)) rfl rfl rfl (kR_705_0 hc.1) ?_
                    refine x_gR (pc' := 14) (r := (some 1)) rfl rfl rfl (kR_257_0 hc.1) ?_
                    refine x_cv (ls0 := [_]) (rest := []) rfl rfl rfl rfl rfl ?_
                    refine x_aload_n (pc' := 1) rfl rfl rfl rfl rfl ?_
                    refine x_gI (pc' := 4) (x := (io n)) rfl rfl rfl (Sf_n hc) ?_
                    refine x_reti rfl rfl ?_
                    refine sK_i (pc' := 17) rfl ?_
                    refine x_iload_n (pc' := 18) rfl rfl rfl ?_
                    refine x_iadd (pc' := 19) (z := (io (n + 1))) rfl rfl (io_add n 1) ?_
                    refine x_sipush (pc' := 22) rfl rfl ?_
                    refine x_icmp (a' := 29) (pc' := 25) (z := decide (200 < (n + 1))) rfl rfl rfl (ic_gt (p := (n + 1)) (q := 200) hb0 (by decide)) (fun q48 => ?_) (fun q48 => ?_)
                    · refine x_iconst (pc' := 30) rfl rfl ?_
                      refine x_cs (ls0 := [_]) (rest := []) rfl rfl rfl rfl ?_
                      refine x_iload_n (pc' := 1) rfl rfl rfl ?_
                      refine x_if (a' := 15) (pc' := 4) (z := false) rfl rfl rfl (by decide) (fun h => by cases h) (fun _ => ?_)
                      refine x_throw rfl rfl ?_
                      refine sK_n (by decide +kernel) rfl ?_
                      refine sK_n (by decide +kernel) rfl ?_
                      exact k21 j0 q5 (of_decide_eq_false q35) (of_decide_eq_false q36) (of_decide_eq_false q37) (of_decide_eq_false q38) (of_decide_eq_false q41) (of_decide_eq_false q42) (of_decide_eq_false q43) q46 (of_decide_eq_true q48)
                    · refine x_iconst (pc' := 26) rfl rfl ?_
                      refine x_goto (pc' := 30) rfl rfl ?_
                      refine x_cs (ls0 := [_]) (rest := []) rfl rfl rfl rfl ?_
                      refine x_iload_n (pc' := 1) rfl rfl rfl ?_
                      refine x_if (a' := 15) (pc' := 4) (z := true) rfl rfl rfl (by decide) (fun _ => ?_) (fun h => by cases h)
                      refine x_ret rfl ?_
                      refine sK_v (pc' := 33) rfl ?_
                      refine x_ret rfl ?_
                      refine sK_v (pc' := 59) rfl ?_
                      refine x_aload_n (pc' := 60) rfl rfl rfl rfl rfl ?_
                      refine x_aload (pc' := 62) rfl rfl rfl rfl rfl ?_
                      refine x_aload (pc' := 64) rfl rfl rfl rfl rfl ?_
                      refine x_iload_n (pc' := 65) rfl rfl rfl ?_
                      refine x_iload (pc' := 67) rfl rfl rfl ?_
                      refine x_cv (ls0 := [_, _, _, _, _, sJk]) (rest := []) rfl rfl rfl rfl rfl ?_
                      exact k22 j0 q5 (of_decide_eq_false q35) (of_decide_eq_false q36) (of_decide_eq_false q37) (of_decide_eq_false q38) (of_decide_eq_false q41) (of_decide_eq_false q42) (of_decide_eq_false q43) q46 (of_decide_eq_false q48)
              · refine x_throw rfl rfl ?_
                refine sK_n (by decide +kernel) rfl ?_
                refine sK_n (by decide +kernel) rfl ?_
                exact k23 j0 q5 (of_decide_eq_false q35) (of_decide_eq_false q36) (of_decide_eq_false q37) (of_decide_eq_false q38) (of_decide_eq_false q41) (of_decide_eq_true q42)
          · refine x_throw rfl rfl ?_
            refine sK_n (by decide +kernel) rfl ?_
            exact k24 j0 q5 (of_decide_eq_false q35) (of_decide_eq_false q36) (of_decide_eq_false q37) (of_decide_eq_true q38)
      · refine x_throw rfl rfl ?_
        refine sK_n (by decide +kernel) rfl ?_
        refine sK_n (by decide +kernel) rfl ?_
        exact k25 j0 q5 (of_decide_eq_false q35) (of_decide_eq_true q36)
set_option maxHeartbeats 4000000 in
set_option maxRecDepth 10000 in
theorem n96_x0 {t : sT} {Q : sRs → sT → Prop} {M : sM} {n : Nat} {T : Nat} {L0 : List Nat} {A : Nat} {B : Nat} {x : Int32} {x1 : Int32} {s : Bool} {p : Int32} {a : Int32} {h : Int32}
    (hW : Wc t M n T L0 A B)
    (hp : ixo x 6 = none)
    (k0 : Q (.inr 0) (sThr t)) :
    X 96 0 [.inr (.inr (11, (some 0))), .inl x, .inl x1, .inl (bz s), .inl p, .inl a, .inl h, sJk, sJk, sJk] [] t Q := by
  obtain ⟨hM, hc, hR, hC, hL, hL9⟩ := hW
  refine x_aload_n (pc' := 1) rfl rfl rfl rfl rfl ?_
  refine x_iload_n (pc' := 2) rfl rfl rfl ?_
  refine x_cv (ls0 := [_, _]) (rest := []) rfl rfl rfl rfl rfl ?_
  refine b131_x ⟨hM, hc, hR, hC, hL, hL9⟩ hp ?_
  refine sK_n (by decide +kernel) rfl ?_
  exact k0
set_option maxHeartbeats 4000000 in
set_option maxRecDepth 10000 in
theorem n96_x1 {t : sT} {Q : sRs → sT → Prop} {M : sM} {n : Nat} {T : Nat} {L0 : List Nat} {A : Nat} {B : Nat} {m : Nat} {x : Int32} {s : Bool} {p : Int32} {a : Int32} {h : Int32}
    (hW : Wc t M n T L0 A B)
    (hm : m < 6)
    (hp : ixo x 5 = none)
    (k0 : Q (.inr 0) (sThr t)) :
    X 96 0 [.inr (.inr (11, (some 0))), .inl (io m), .inl x, .inl (bz s), .inl p, .inl a, .inl h, sJk, sJk, sJk] [] t Q := by
  obtain ⟨hM, hc, hR, hC, hL, hL9⟩ := hW
  refine x_aload_n (pc' := 1) rfl rfl rfl rfl rfl ?_
  refine x_iload_n (pc' := 2) rfl rfl rfl ?_
  refine x_cv (ls0 := [_, _]) (rest := []) rfl rfl rfl rfl rfl ?_
  refine x_iload_n (pc' := 1) rfl rfl rfl ?_
  refine x_if (a' := 16) (pc' := 4) (z := decide (m < 0)) rfl rfl rfl (ic_lt (p := m) (q := 0) (gm31 hm) (by decide)) (fun h => absurd (of_decide_eq_true h) (by first | decide | omega | simp)) (fun _ => ?_)
  refine x_iload_n (pc' := 5) rfl rfl rfl ?_
  refine x_aload_n (pc' := 6) rfl rfl rfl rfl rfl ?_
  refine x_gR (pc' := 9) (r := (some 0)) rfl rfl rfl (kR_704_0 hc.1) ?_
  refine x_gR (pc' := 12) (r := (some 0)) rfl rfl rfl (kR_321_0 hc.1) ?_
  refine x_alen (pc' := 13) (N := 6) rfl rfl rfl (kN_26_0 hc.1) (?_ : X _ _ _ (.inl 6 :: _) _ _)
  refine x_icmp (a' := 27) (pc' := 16) (z := decide (m < 6)) rfl rfl rfl (ic_lt (p := m) (q := 6) (gm31 hm) (by decide)) (fun _ => ?_) (fun h => absurd hm (of_decide_eq_false h))
  refine x_aload_n (pc' := 28) rfl rfl rfl rfl rfl ?_
  refine x_gR (pc' := 31) (r := (some 0)) rfl rfl rfl (kR_704_0 hc.1) ?_
  refine x_gR (pc' := 34) (r := (some 0)) rfl rfl rfl (kR_321_0 hc.1) ?_
  refine x_iload_n (pc' := 35) rfl rfl rfl ?_
  refine x_aald (pc' := 36) (N := 6) (k' := 7) (r := (some m)) rfl rfl rfl (kN_26_0 hc.1) (io_in (p := m) (N := 6) hm (by decide)) (Eq.trans (congrArg (sE t 26 0) (nn_io (p := m) (Nat.lt_trans hm (by decide)))) (kM hc.1 hm)) ?_
  refine x_reta rfl rfl ?_
  refine sK_i (pc' := 5) rfl ?_
  refine x_astore (pc' := 7) (ls' := [_, _, _, _, _, _, _, _, _, _]) rfl rfl rfl rfl rfl ?_
  refine x_aload_n (pc' := 8) rfl rfl rfl rfl rfl ?_
  refine x_iload_n (pc' := 9) rfl rfl rfl ?_
  refine x_cv (ls0 := [_, _]) (rest := []) rfl rfl rfl rfl rfl ?_
  refine b133_x ⟨hM, hc, hR, hC, hL, hL9⟩ hp ?_
  refine sK_n (by decide +kernel) rfl ?_
  exact k0
set_option maxHeartbeats 4000000 in
set_option maxRecDepth 10000 in
theorem n97 {t : sT} {Q : sRs → sT → Prop} {M : sM} {n : Nat} {T : Nat} {L0 : List Nat} {A : Nat} {B : Nat} {m : Nat} {b : Nat} {p : Int32} {u : Int32} {a : Int32}
    (hW : Wc t M n T L0 A B)
    (hm : m < 6)
    (hb : b < 5)
    (hb0 : (n + 2) < 2 ^ 31)
    (k0 : (snd b) = none → p < 1 → Q (.inr 1) (sThr t))
    (k1 : (snd b) = none → ¬ (p < 1) → ¬ (999 < p) → (snd b) = none → u < 1 → Q (.inr 1) (sThr t))
    (k2 : (snd b) = none → ¬ (p < 1) → ¬ (999 < p) → (snd b) = none → ¬ (u < 1) → ¬ (999 < u) → u < (p + 1) → Q (.inr 1) (sThr t))
    (k3 : (snd b) = none → ¬ (p < 1) → ¬ (999 < p) → (snd b) = none → ¬ (u < 1) → ¬ (999 < u) → ¬ (u < (p + 1)) → a < 1 → Q (.inr 1) (sThr t))
    (k4 : (snd b) = none → ¬ (p < 1) → ¬ (999 < p) → (snd b) = none → ¬ (u < 1) → ¬ (999 < u) → ¬ (u < (p + 1)) → ¬ (a < 1) → ¬ (100 < a) → (mA M 0 b) = 0 → Q (.inr 2) (sThr t))
    (k5 : (snd b) = none → ¬ (p < 1) → ¬ (999 < p) → (snd b) = none → ¬ (u < 1) → ¬ (999 < u) → ¬ (u < (p + 1)) → ¬ (a < 1) → ¬ (100 < a) → ¬ ((mA M 0 b) = 0) → (mB M 2 m) = true → Q (.inr 2) (sThr t))
    (k6 : (snd b) = none → ¬ (p < 1) → ¬ (999 < p) → (snd b) = none → ¬ (u < 1) → ¬ (999 < u) → ¬ (u < (p + 1)) → ¬ (a < 1) → ¬ (100 < a) → ¬ ((mA M 0 b) = 0) → (mB M 2 m) = false → 200 < (n + 2) → Q (.inr 2) (sThr t))
    (k7 : (snd b) = none → ¬ (p < 1) → ¬ (999 < p) → (snd b) = none → ¬ (u < 1) → ¬ (999 < u) → ¬ (u < (p + 1)) → ¬ (a < 1) → ¬ (100 < a) → ¬ ((mA M 0 b) = 0) → (mB M 2 m) = false → ¬ (200 < (n + 2)) → X 139 0 [.inr (.inr (11, (some 0))), .inr (.inr (7, (some m))), .inr (.inr (1, (some b))), .inl a, sJk] [] t (sK 139 97 76 [.inr (.inr (11, (some 0))), .inl (io m), .inl (io b), .inl p, .inl u, .inl a, .inr (.inr (7, (some m))), .inr (.inr (1, (some b))), sJk, sJk] [] Q))
    (k8 : (snd b) = none → ¬ (p < 1) → ¬ (999 < p) → (snd b) = none → ¬ (u < 1) → ¬ (999 < u) → ¬ (u < (p + 1)) → ¬ (a < 1) → 100 < a → Q (.inr 1) (sThr t))
    (k9 : (snd b) = none → ¬ (p < 1) → ¬ (999 < p) → (snd b) = none → ¬ (u < 1) → 999 < u → Q (.inr 1) (sThr t))
    (k10 : (snd b) = none → ¬ (p < 1) → ¬ (999 < p) → ∀ j1, (snd b) = some j1 → u < (-500) → Q (.inr 1) (sThr t))
    (k11 : (snd b) = none → ¬ (p < 1) → ¬ (999 < p) → ∀ j1, (snd b) = some j1 → ¬ (u < (-500)) → ¬ (500 < u) → u < (p + 1) → Q (.inr 1) (sThr t))
    (k12 : (snd b) = none → ¬ (p < 1) → ¬ (999 < p) → ∀ j1, (snd b) = some j1 → ¬ (u < (-500)) → ¬ (500 < u) → ¬ (u < (p + 1)) → ¬ (999 < u) → a < 1 → Q (.inr 1) (sThr t))
    (k13 : (snd b) = none → ¬ (p < 1) → ¬ (999 < p) → ∀ j1, (snd b) = some j1 → ¬ (u < (-500)) → ¬ (500 < u) → ¬ (u < (p + 1)) → ¬ (999 < u) → ¬ (a < 1) → ¬ (100 < a) → (mA M 0 b) = 0 → Q (.inr 2) (sThr t))
    (k14 : (snd b) = none → ¬ (p < 1) → ¬ (999 < p) → ∀ j1, (snd b) = some j1 → ¬ (u < (-500)) → ¬ (500 < u) → ¬ (u < (p + 1)) → ¬ (999 < u) → ¬ (a < 1) → ¬ (100 < a) → ¬ ((mA M 0 b) = 0) → (mB M 2 m) = true → Q (.inr 2) (sThr t))
    (k15 : (snd b) = none → ¬ (p < 1) → ¬ (999 < p) → ∀ j1, (snd b) = some j1 → ¬ (u < (-500)) → ¬ (500 < u) → ¬ (u < (p + 1)) → ¬ (999 < u) → ¬ (a < 1) → ¬ (100 < a) → ¬ ((mA M 0 b) = 0) → (mB M 2 m) = false → 200 < (n + 2) → Q (.inr 2) (sThr t))
    (k16 : (snd b) = none → ¬ (p < 1) → ¬ (999 < p) → ∀ j1, (snd b) = some j1 → ¬ (u < (-500)) → ¬ (500 < u) → ¬ (u < (p + 1)) → ¬ (999 < u) → ¬ (a < 1) → ¬ (100 < a) → ¬ ((mA M 0 b) = 0) → (mB M 2 m) = false → ¬ (200 < (n + 2)) → X 139 0 [.inr (.inr (11, (some 0))), .inr (.inr (7, (some m))), .inr (.inr (1, (some b))), .inl a, sJk] [] t (sK 139 97 76 [.inr (.inr (11, (some 0))), .inl (io m), .inl (io b), .inl p, .inl u, .inl a, .inr (.inr (7, (some m))), .inr (.inr (1, (some b))), sJk, sJk] [] Q))
    (k17 : (snd b) = none → ¬ (p < 1) → ¬ (999 < p) → ∀ j1, (snd b) = some j1 → ¬ (u < (-500)) → ¬ (500 < u) → ¬ (u < (p + 1)) → ¬ (999 < u) → ¬ (a < 1) → 100 < a → Q (.inr 1) (sThr t))
    (k18 : (snd b) = none → ¬ (p < 1) → ¬ (999 < p) → ∀ j1, (snd b) = some j1 → ¬ (u < (-500)) → ¬ (500 < u) → ¬ (u < (p + 1)) → 999 < u → Q (.inr 1) (sThr t))
    (k19 : (snd b) = none → ¬ (p < 1) → ¬ (999 < p) → ∀ j1, (snd b) = some j1 → ¬ (u < (-500)) → 500 < u → Q (.inr 1) (sThr t))
    (k20 : (snd b) = none → ¬ (p < 1) → 999 < p → Q (.inr 1) (sThr t))
    (k21 : ∀ j0, (snd b) = some j0 → p < (-500) → Q (.inr 1) (sThr t))
    (k22 : ∀ j0, (snd b) = some j0 → ¬ (p < (-500)) → ¬ (500 < p) → u < (-500) → Q (.inr 1) (sThr t))
    (k23 : ∀ j0, (snd b) = some j0 → ¬ (p < (-500)) → ¬ (500 < p) → ¬ (u < (-500)) → ¬ (500 < u) → u < (p + 1) → Q (.inr 1) (sThr t))
    (k24 : ∀ j0, (snd b) = some j0 → ¬ (p < (-500)) → ¬ (500 < p) → ¬ (u < (-500)) → ¬ (500 < u) → ¬ (u < (p + 1)) → ¬ (999 < u) → a < 1 → Q (.inr 1) (sThr t))
    (k25 : ∀ j0, (snd b) = some j0 → ¬ (p < (-500)) → ¬ (500 < p) → ¬ (u < (-500)) → ¬ (500 < u) → ¬ (u < (p + 1)) → ¬ (999 < u) → ¬ (a < 1) → ¬ (100 < a) → (mA M 0 b) = 0 → Q (.inr 2) (sThr t))
    (k26 : ∀ j0, (snd b) = some j0 → ¬ (p < (-500)) → ¬ (500 < p) → ¬ (u < (-500)) → ¬ (500 < u) → ¬ (u < (p + 1)) → ¬ (999 < u) → ¬ (a < 1) → ¬ (100 < a) → ¬ ((mA M 0 b) = 0) → (mB M 2 m) = true → Q (.inr 2) (sThr t))
    (k27 : ∀ j0, (snd b) = some j0 → ¬ (p < (-500)) → ¬ (500 < p) → ¬ (u < (-500)) → ¬ (500 < u) → ¬ (u < (p + 1)) → ¬ (999 < u) → ¬ (a < 1) → ¬ (100 < a) → ¬ ((mA M 0 b) = 0) → (mB M 2 m) = false → 200 < (n + 2) → Q (.inr 2) (sThr t))
    (k28 : ∀ j0, (snd b) = some j0 → ¬ (p < (-500)) → ¬ (500 < p) → ¬ (u < (-500)) → ¬ (500 < u) → ¬ (u < (p + 1)) → ¬ (999 < u) → ¬ (a < 1) → ¬ (100 < a) → ¬ ((mA M 0 b) = 0) → (mB M 2 m) = false → ¬ (200 < (n + 2)) → X 139 0 [.inr (.inr (11, (some 0))), .inr (.inr (7, (some m))), .inr (.inr (1, (some b))), .inl a, sJk] [] t (sK 139 97 76 [.inr (.inr (11, (some 0))), .inl (io m), .inl (io b), .inl p, .inl u, .inl a, .inr (.inr (7, (some m))), .inr (.inr (1, (some b))), sJk, sJk] [] Q))
    (k29 : ∀ j0, (snd b) = some j0 → ¬ (p < (-500)) → ¬ (500 < p) → ¬ (u < (-500)) → ¬ (500 < u) → ¬ (u < (p + 1)) → ¬ (999 < u) → ¬ (a < 1) → 100 < a → Q (.inr 1) (sThr t))
    (k30 : ∀ j0, (snd b) = some j0 → ¬ (p < (-500)) → ¬ (500 < p) → ¬ (u < (-500)) → ¬ (500 < u) → ¬ (u < (p + 1)) → 999 < u → Q (.inr 1) (sThr t))
    (k31 : ∀ j0, (snd b) = some j0 → ¬ (p < (-500)) → ¬ (500 < p) → ¬ (u < (-500)) → 500 < u → Q (.inr 1) (sThr t))
    (k32 : ∀ j0, (snd b) = some j0 → ¬ (p < (-500)) → 500 < p → Q (.inr 1) (sThr t)) :
    X 97 0 [.inr (.inr (11, (some 0))), .inl (io m), .inl (io b), .inl p, .inl u, .inl a, sJk, sJk, sJk, sJk] [] t Q := by
  obtain ⟨hM, hc, hR, hC, hL, hL9⟩ := hW
  refine x_aload_n (pc' := 1) rfl rfl rfl rfl rfl ?_
  refine x_iload_n (pc' := 2) rfl rfl rfl ?_
  refine x_cv (ls0 := [_, _]) (rest := []) rfl rfl rfl rfl rfl ?_
  refine x_iload_n (pc' := 1) rfl rfl rfl ?_
  refine x_if (a' := 16) (pc' := 4) (z := decide (m < 0)) rfl rfl rfl (ic_lt (p := m) (q := 0) (gm31 hm) (by decide)) (fun h => absurd (of_decide_eq_true h) (by first | decide | omega | simp)) (fun _ => ?_)
  refine x_iload_n (pc' := 5) rfl rfl rfl ?_
  refine x_aload_n (pc' := 6) rfl rfl rfl rfl rfl ?_
  refine x_gR (pc' := 9) (r := (some 0)) rfl rfl rfl (kR_704_0 hc.1) ?_
  refine x_gR (pc' := 12) (r := (some 0)) rfl rfl rfl (kR_321_0 hc.1) ?_
  refine x_alen (pc' := 13) (N := 6) rfl rfl rfl (kN_26_0 hc.1) (?_ : X _ _ _ (.inl 6 :: _) _ _)
  refine x_icmp (a' := 27) (pc' := 16) (z := decide (m < 6)) rfl rfl rfl (ic_lt (p := m) (q := 6) (gm31 hm) (by decide)) (fun _ => ?_) (fun h => absurd hm (of_decide_eq_false h))
  refine x_aload_n (pc' := 28) rfl rfl rfl rfl rfl ?_
  refine x_gR (pc' := 31) (r := (some 0)) rfl rfl rfl (kR_704_0 hc.1) ?_
  refine x_gR (pc' := 34) (r := (some 0)) rfl rfl rfl (kR_321_0 hc.1) ?_
  refine x_iload_n (pc' := 35) rfl rfl rfl ?_
  refine x_aald (pc' := 36) (N := 6) (k' := 7) (r := (some m)) rfl rfl rfl (kN_26_0 hc.1) (io_in (p := m) (N := 6) hm (by decide)) (Eq.trans (congrArg (sE t 26 0) (nn_io (p := m) (Nat.lt_trans hm (by decide)))) (kM hc.1 hm)) ?_
  refine x_reta rfl rfl ?_
  refine sK_i (pc' := 5) rfl ?_
  refine x_astore (pc' := 7) (ls' := [_, _, _, _, _, _, _, _, _, _]) rfl rfl rfl rfl rfl ?_
  refine x_aload_n (pc' := 8) rfl rfl rfl rfl rfl ?_
  refine x_iload_n (pc' := 9) rfl rfl rfl ?_
  refine x_cv (ls0 := [_, _]) (rest := []) rfl rfl rfl rfl rfl ?_
  refine x_iload_n (pc' := 1) rfl rfl rfl ?_
  refine x_if (a' := 16) (pc' := 4) (z := decide (b < 0)) rfl rfl rfl (ic_lt (p := b) (q := 0) (gb31 hb) (by decide)) (fun h => absurd (of_decide_eq_true h) (by first | decide | omega | simp)) (fun _ => ?_)
  refine x_iload_n (pc' := 5) rfl rfl rfl ?_
  refine x_aload_n (pc' := 6) rfl rfl rfl rfl rfl ?_
  refine x_gR (pc' := 9) (r := (some 0)) rfl rfl rfl (kR_705_0 hc.1) ?_
  refine x_gR (pc' := 12) (r := (some 0)) rfl rfl rfl (kR_256_0 hc.1) ?_
  refine x_alen (pc' := 13) (N := 5) rfl rfl rfl (kN_24_0 hc.1) (?_ : X _ _ _ (.inl 5 :: _) _ _)
  refine x_icmp (a' := 27) (pc' := 16) (z := decide (b < 5)) rfl rfl rfl (ic_lt (p := b) (q := 5) (gb31 hb) (by decide)) (fun _ => ?_) (fun h => absurd hb (of_decide_eq_false h))
  refine x_aload_n (pc' := 28) rfl rfl rfl rfl rfl ?_
  refine x_gR (pc' := 31) (r := (some 0)) rfl rfl rfl (kR_705_0 hc.1) ?_
  refine x_gR (pc' := 34) (r := (some 0)) rfl rfl rfl (kR_256_0 hc.1) ?_
  refine x_iload_n (pc' := 35) rfl rfl rfl ?_
  refine x_aald (pc' := 36) (N := 5) (k' := 1) (r := (some b)) rfl rfl rfl (kN_24_0 hc.1) (io_in (p := b) (N := 5) hb (by decide)) (Eq.trans (congrArg (sE t 24 0) (nn_io (p := b) (Nat.lt_trans hb (by decide)))) (kB hc.1 hb)) ?_
  refine x_reta rfl rfl ?_
  refine sK_i (pc' := 12) rfl ?_
  refine x_astore (pc' := 14) (ls' := [_, _, _, _, _, _, _, _, _, _]) rfl rfl rfl rfl rfl ?_
  refine x_aload (pc' := 16) rfl rfl rfl rfl rfl ?_
  refine x_iload_n (pc' := 17) rfl rfl rfl ?_
  refine x_cs (ls0 := [_, _]) (rest := []) rfl rfl rfl rfl ?_
  refine x_aload_n (pc' := 1) rfl rfl rfl rfl rfl ?_
  refine x_cv (ls0 := [_]) (rest := []) rfl rfl rfl rfl rfl ?_
  refine x_aload_n (pc' := 1) rfl rfl rfl rfl rfl ?_
  refine x_gR (pc' := 4) (r := (snd b)) rfl rfl rfl (kBk hc.1 hb).2.1 ?_
  refine x_ifnull (a' := 11) (pc' := 7) rfl rfl rfl rfl (fun q5 => ?_) (fun j0 q5 => ?_)
  · refine x_iconst (pc' := 12) rfl rfl ?_
    refine x_retz (z := false) rfl rfl ?_
    refine sK_i (pc' := 4) rfl ?_
    refine x_if (a' := 20) (pc' := 7) (z := true) rfl rfl rfl (by decide) (fun _ => ?_) (fun h => by cases h)
    refine x_iload_n (pc' := 21) rfl rfl rfl ?_
    refine x_iconst (pc' := 22) rfl rfl ?_
    refine x_sipush (pc' := 25) rfl rfl ?_
    refine x_cs (ls0 := [_, _, _]) (rest := []) rfl rfl rfl rfl ?_
    refine x_iload_n (pc' := 1) rfl rfl rfl ?_
    refine x_iload_n (pc' := 2) rfl rfl rfl ?_
    refine x_icmp (a' := 10) (pc' := 5) (z := decide (p < 1)) rfl rfl rfl rfl (fun q7 => ?_) (fun q7 => ?_)
    · refine x_throw rfl rfl ?_
      refine sK_n (by decide +kernel) rfl ?_
      refine sK_n (by decide +kernel) rfl ?_
      exact k0 q5 (of_decide_eq_true q7)
    · refine x_iload_n (pc' := 6) rfl rfl rfl ?_
      refine x_iload_n (pc' := 7) rfl rfl rfl ?_
      refine x_icmp_n (a' := 21) (pc' := 10) (z := decide (999 < p)) rfl rfl rfl (ik_le _ _) (fun q8 => ?_) (fun q8 => ?_)
      · refine x_ret rfl ?_
        refine sK_v (pc' := 28) rfl ?_
        refine x_ret rfl ?_
        refine sK_v (pc' := 20) rfl ?_
        refine x_aload (pc' := 22) rfl rfl rfl rfl rfl ?_
        refine x_iload (pc' := 24) rfl rfl rfl ?_
        refine x_cs (ls0 := [_, _]) (rest := []) rfl rfl rfl rfl ?_
        refine x_aload_n (pc' := 1) rfl rfl rfl rfl rfl ?_
        refine x_cv (ls0 := [_]) (rest := []) rfl rfl rfl rfl rfl ?_
        refine x_aload_n (pc' := 1) rfl rfl rfl rfl rfl ?_
        refine x_gR (pc' := 4) (r := (snd b)) rfl rfl rfl (kBk hc.1 hb).2.1 ?_
        refine x_ifnull (a' := 11) (pc' := 7) rfl rfl rfl rfl (fun q9 => ?_) (fun j1 q9 => ?_)
        · refine x_iconst (pc' := 12) rfl rfl ?_
          refine x_retz (z := false) rfl rfl ?_
          refine sK_i (pc' := 4) rfl ?_
          refine x_if (a' := 20) (pc' := 7) (z := true) rfl rfl rfl (by decide) (fun _ => ?_) (fun h => by cases h)
          refine x_iload_n (pc' := 21) rfl rfl rfl ?_
          refine x_iconst (pc' := 22) rfl rfl ?_
          refine x_sipush (pc' := 25) rfl rfl ?_
          refine x_cs (ls0 := [_, _, _]) (rest := []) rfl rfl rfl rfl ?_
          refine x_iload_n (pc' := 1) rfl rfl rfl ?_
          refine x_iload_n (pc' := 2) rfl rfl rfl ?_
          refine x_icmp (a' := 10) (pc' := 5) (z := decide (u < 1)) rfl rfl rfl rfl (fun q11 => ?_) (fun q11 => ?_)
          · refine x_throw rfl rfl ?_
            refine sK_n (by decide +kernel) rfl ?_
            refine sK_n (by decide +kernel) rfl ?_
            exact k1 q5 (of_decide_eq_false q7) (of_decide_eq_false q8) q9 (of_decide_eq_true q11)
          · refine x_iload_n (pc' := 6) rfl rfl rfl ?_
            refine x_iload_n (pc' := 7) rfl rfl rfl ?_
            refine x_icmp_n (a' := 21) (pc' := 10) (z := decide (999 < u)) rfl rfl rfl (ik_le _ _) (fun q12 => ?_) (fun q12 => ?_)
            · refine x_ret rfl ?_
              refine sK_v (pc' := 28) rfl ?_
              refine x_ret rfl ?_
              refine sK_v (pc' := 27) rfl ?_
              refine x_iload (pc' := 29) rfl rfl rfl ?_
              refine x_iload_n (pc' := 30) rfl rfl rfl ?_
              refine x_iconst (pc' := 31) rfl rfl ?_
              refine x_iadd (pc' := 32) (z := (p + 1)) rfl rfl rfl ?_
              refine x_sipush (pc' := 35) rfl rfl ?_
              refine x_cs (ls0 := [_, _, _]) (rest := []) rfl rfl rfl rfl ?_
              refine x_iload_n (pc' := 1) rfl rfl rfl ?_
              refine x_iload_n (pc' := 2) rfl rfl rfl ?_
              refine x_icmp (a' := 10) (pc' := 5) (z := decide (u < (p + 1))) rfl rfl rfl rfl (fun q13 => ?_) (fun q13 => ?_)
              · refine x_throw rfl rfl ?_
                refine sK_n (by decide +kernel) rfl ?_
                exact k2 q5 (of_decide_eq_false q7) (of_decide_eq_false q8) q9 (of_decide_eq_false q11) (of_decide_eq_false q12) (of_decide_eq_true q13)
              · refine x_iload_n (pc' := 6) rfl rfl rfl ?_
                refine x_iload_n (pc' := 7) rfl rfl rfl ?_
                refine x_icmp_n (a' := 21) (pc' := 10) (z := decide (999 < u)) rfl rfl rfl (ik_le _ _) (fun _ => ?_) (fun h => absurd (of_decide_eq_true h) (of_decide_eq_false q12))
                refine x_ret rfl ?_
                refine sK_v (pc' := 38) rfl ?_
                refine x_iload (pc' := 40) rfl rfl rfl ?_
                refine x_iconst (pc' := 41) rfl rfl ?_
                refine x_bipush (pc' := 43) rfl rfl ?_
                refine x_cs (ls0 := [_, _, _]) (rest := []) rfl rfl rfl rfl ?_
                refine x_iload_n (pc' := 1) rfl rfl rfl ?_
                refine x_iload_n (pc' := 2) rfl rfl rfl ?_
                refine x_icmp (a' := 10) (pc' := 5) (z := decide (a < 1)) rfl rfl rfl rfl (fun q15 => ?_) (fun q15 => ?_)
                · refine x_throw rfl rfl ?_
                  refine sK_n (by decide +kernel) rfl ?_
                  exact k3 q5 (of_decide_eq_false q7) (of_decide_eq_false q8) q9 (of_decide_eq_false q11) (of_decide_eq_false q12) (of_decide_eq_false q13) (of_decide_eq_true q15)
                · refine x_iload_n (pc' := 6) rfl rfl rfl ?_
                  refine x_iload_n (pc' := 7) rfl rfl rfl ?_
                  refine x_icmp_n (a' := 21) (pc' := 10) (z := decide (100 < a)) rfl rfl rfl (ik_le _ _) (fun q16 => ?_) (fun q16 => ?_)
                  · refine x_ret rfl ?_
                    refine sK_v (pc' := 46) rfl ?_
                    refine x_aload (pc' := 48) rfl rfl rfl rfl rfl ?_
                    refine x_gI (pc' := 51) (x := (mA M 0 b)) rfl rfl rfl (kA hM rfl hb) ?_
                    refine x_if (a' := 58) (pc' := 54) (z := decide ((mA M 0 b) = 0)) rfl rfl rfl rfl (fun q17 => ?_) (fun q17 => ?_)
                    · refine x_iconst (pc' := 59) rfl rfl ?_
                      refine x_cs (ls0 := [_]) (rest := []) rfl rfl rfl rfl ?_
                      refine x_iload_n (pc' := 1) rfl rfl rfl ?_
                      refine x_if (a' := 15) (pc' := 4) (z := false) rfl rfl rfl (by decide) (fun h => by cases h) (fun _ => ?_)
                      refine x_throw rfl rfl ?_
                      refine sK_n (by decide +kernel) rfl ?_
                      exact k4 q5 (of_decide_eq_false q7) (of_decide_eq_false q8) q9 (of_decide_eq_false q11) (of_decide_eq_false q12) (of_decide_eq_false q13) (of_decide_eq_false q15) (of_decide_eq_false q16) (of_decide_eq_true q17)
                    · refine x_iconst (pc' := 55) rfl rfl ?_
                      refine x_goto (pc' := 59) rfl rfl ?_
                      refine x_cs (ls0 := [_]) (rest := []) rfl rfl rfl rfl ?_
                      refine x_iload_n (pc' := 1) rfl rfl rfl ?_
                      refine x_if (a' := 15) (pc' := 4) (z := true) rfl rfl rfl (by decide) (fun _ => ?_) (fun h => by cases h)
                      refine x_ret rfl ?_
                      refine sK_v (pc' := 62) rfl ?_
                      refine x_aload_n (pc' := 63) rfl rfl rfl rfl rfl ?_
                      refine x_aload (pc' := 65) rfl rfl rfl rfl rfl ?_
                      refine x_iconst (pc' := 66) rfl rfl ?_
                      refine x_cv (ls0 := [_, _, _]) (rest := []) rfl rfl rfl rfl rfl ?_
                      refine x_aload_n (pc' := 1) rfl rfl rfl rfl rfl ?_
                      refine x_gZ (pc' := 4) (z := (mB M 2 m)) rfl rfl rfl (kZ hM rfl hm) ?_
                      refine x_ifne_z (a' := 29) (pc' := 7) (z := (mB M 2 m)) rfl rfl rfl (fun q20 => ?_) (fun q20 => ?_)
                      · refine x_iconst (pc' := 30) rfl rfl ?_
                        refine x_cs (ls0 := [_]) (rest := []) rfl rfl rfl rfl ?_
                        refine x_iload_n (pc' := 1) rfl rfl rfl ?_
                        refine x_if (a' := 15) (pc' := 4) (z := false) rfl rfl rfl (by decide) (fun h => by cases h) (fun _ => ?_)
                        refine x_throw rfl rfl ?_
                        refine sK_n (by decide +kernel) rfl ?_
                        refine sK_n (by decide +kernel) rfl ?_
                        exact k5 q5 (of_decide_eq_false q7) (of_decide_eq_false q8) q9 (of_decide_eq_false q11) (of_decide_eq_false q12) (of_decide_eq_false q13) (of_decide_eq_false q15) (of_decide_eq_false q16) (of_decide_eq_false q17) q20
                      · refine x_aload_n (pc' := 8) rfl rfl rfl rfl rfl ?_
                        refine x_gR (pc' := 11) (r := (some 0)) rfl rfl rfl (kR_705_0 hc.1) ?_
                        refine x_gR (pc' := 14) (r := (some 1)) rfl rfl rfl (kR_257_0 hc.1) ?_
                        refine x_cv (ls0 := [_]) (rest := []) rfl rfl rfl rfl rfl ?_
                        refine x_aload_n (pc' := 1) rfl rfl rfl rfl rfl ?_
                        refine x_gI (pc' := 4) (x := (io n)) rfl rfl rfl (Sf_n hc) ?_
                        refine x_reti rfl rfl ?_
                        refine sK_i (pc' := 17) rfl ?_
                        refine x_iload_n (pc' := 18) rfl rfl rfl ?_
                        refine x_iadd (pc' := 19) (z := (io (n + 2))) rfl rfl (io_add n 2) ?_
                        refine x_sipush (pc' := 22) rfl rfl ?_
                        refine x_icmp (a' := 29) (pc' := 25) (z := decide (200 < (n + 2))) rfl rfl rfl (ic_gt (p := (n + 2)) (q := 200) hb0 (by decide)) (fun q22 => ?_) (fun q22 => ?_)
                        · refine x_iconst (pc' := 30) rfl rfl ?_
                          refine x_cs (ls0 := [_]) (rest := []) rfl rfl rfl rfl ?_
                          refine x_iload_n (pc' := 1) rfl rfl rfl ?_
                          refine x_if (a' := 15) (pc' := 4) (z := false) rfl rfl rfl (by decide) (fun h => by cases h) (fun _ => ?_)
                          refine x_throw rfl rfl ?_
                          refine sK_n (by decide +kernel) rfl ?_
                          refine sK_n (by decide +kernel) rfl ?_
                          exact k6 q5 (of_decide_eq_false q7) (of_decide_eq_false q8) q9 (of_decide_eq_false q11) (of_decide_eq_false q12) (of_decide_eq_false q13) (of_decide_eq_false q15) (of_decide_eq_false q16) (of_decide_eq_false q17) q20 (of_decide_eq_true q22)
                        · refine x_iconst (pc' := 26) rfl rfl ?_
                          refine x_goto (pc' := 30) rfl rfl ?_
                          refine x_cs (ls0 := [_]) (rest := []) rfl rfl rfl rfl ?_
                          refine x_iload_n (pc' := 1) rfl rfl rfl ?_
                          refine x_if (a' := 15) (pc' := 4) (z := true) rfl rfl rfl (by decide) (fun _ => ?_) (fun h => by cases h)
                          refine x_ret rfl ?_
                          refine sK_v (pc' := 33) rfl ?_
                          refine x_ret rfl ?_
                          refine sK_v (pc' := 69) rfl ?_
                          refine x_aload_n (pc' := 70) rfl rfl rfl rfl rfl ?_
                          refine x_aload (pc' := 72) rfl rfl rfl rfl rfl ?_
                          refine x_aload (pc' := 74) rfl rfl rfl rfl rfl ?_
                          refine x_iload (pc' := 76) rfl rfl rfl ?_
                          refine x_cv (ls0 := [_, _, _, _, sJk]) (rest := []) rfl rfl rfl rfl rfl ?_
                          exact k7 q5 (of_decide_eq_false q7) (of_decide_eq_false q8) q9 (of_decide_eq_false q11) (of_decide_eq_false q12) (of_decide_eq_false q13) (of_decide_eq_false q15) (of_decide_eq_false q16) (of_decide_eq_false q17) q20 (of_decide_eq_false q22)
                  · refine x_throw rfl rfl ?_
                    refine sK_n (by decide +kernel) rfl ?_
                    exact k8 q5 (of_decide_eq_false q7) (of_decide_eq_false q8) q9 (of_decide_eq_false q11) (of_decide_eq_false q12) (of_decide_eq_false q13) (of_decide_eq_false q15) (of_decide_eq_true q16)
            · refine x_throw rfl rfl ?_
              refine sK_n (by decide +kernel) rfl ?_
              refine sK_n (by decide +kernel) rfl ?_
              exact k9 q5 (of_decide_eq_false q7) (of_decide_eq_false q8) q9 (of_decide_eq_false q11) (of_decide_eq_true q12)
        · refine x_iconst (pc' := 8) rfl rfl ?_
          refine x_goto (pc' := 12) rfl rfl ?_
          refine x_retz (z := true) rfl rfl ?_
          refine sK_i (pc' := 4) rfl ?_
          refine x_if (a' := 20) (pc' := 7) (z := false) rfl rfl rfl (by decide) (fun h => by cases h) (fun _ => ?_)
          refine x_iload_n (pc' := 8) rfl rfl rfl ?_
          refine x_sipush (pc' := 11) rfl rfl ?_
          refine x_sipush (pc' := 14) rfl rfl ?_
          refine x_cs (ls0 := [_, _, _]) (rest := []) rfl rfl rfl rfl ?_
          refine x_iload_n (pc' := 1) rfl rfl rfl ?_
          refine x_iload_n (pc' := 2) rfl rfl rfl ?_
          refine x_icmp (a' := 10) (pc' := 5) (z := decide (u < (-500))) rfl rfl rfl rfl (fun q26 => ?_) (fun q26 => ?_)
          · refine x_throw rfl rfl ?_
            refine sK_n (by decide +kernel) rfl ?_
            refine sK_n (by decide +kernel) rfl ?_
            exact k10 q5 (of_decide_eq_false q7) (of_decide_eq_false q8) j1 q9 (of_decide_eq_true q26)
          · refine x_iload_n (pc' := 6) rfl rfl rfl ?_
            refine x_iload_n (pc' := 7) rfl rfl rfl ?_
            refine x_icmp_n (a' := 21) (pc' := 10) (z := decide (500 < u)) rfl rfl rfl (ik_le _ _) (fun q27 => ?_) (fun q27 => ?_)
            · refine x_ret rfl ?_
              refine sK_v (pc' := 17) rfl ?_
              refine x_goto (pc' := 28) rfl rfl ?_
              refine x_ret rfl ?_
              refine sK_v (pc' := 27) rfl ?_
              refine x_iload (pc' := 29) rfl rfl rfl ?_
              refine x_iload_n (pc' := 30) rfl rfl rfl ?_
              refine x_iconst (pc' := 31) rfl rfl ?_
              refine x_iadd (pc' := 32) (z := (p + 1)) rfl rfl rfl ?_
              refine x_sipush (pc' := 35) rfl rfl ?_
              refine x_cs (ls0 := [_, _, _]) (rest := []) rfl rfl rfl rfl ?_
              refine x_iload_n (pc' := 1) rfl rfl rfl ?_
              refine x_iload_n (pc' := 2) rfl rfl rfl ?_
              refine x_icmp (a' := 10) (pc' := 5) (z := decide (u < (p + 1))) rfl rfl rfl rfl (fun q28 => ?_) (fun q28 => ?_)
              · refine x_throw rfl rfl ?_
                refine sK_n (by decide +kernel) rfl ?_
                exact k11 q5 (of_decide_eq_false q7) (of_decide_eq_false q8) j1 q9 (of_decide_eq_false q26) (of_decide_eq_false q27) (of_decide_eq_true q28)
              · refine x_iload_n (pc' := 6) rfl rfl rfl ?_
                refine x_iload_n (pc' := 7) rfl rfl rfl ?_
                refine x_icmp_n (a' := 21) (pc' := 10) (z := decide (999 < u)) rfl rfl rfl (ik_le _ _) (fun q29 => ?_) (fun q29 => ?_)
                · refine x_ret rfl ?_
                  refine sK_v (pc' := 38) rfl ?_
                  refine x_iload (pc' := 40) rfl rfl rfl ?_
                  refine x_iconst (pc' := 41) rfl rfl ?_
                  refine x_bipush (pc' := 43) rfl rfl ?_
                  refine x_cs (ls0 := [_, _, _]) (rest := []) rfl rfl rfl rfl ?_
                  refine x_iload_n (pc' := 1) rfl rfl rfl ?_
                  refine x_iload_n (pc' := 2) rfl rfl rfl ?_
                  refine x_icmp (a' := 10) (pc' := 5) (z := decide (a < 1)) rfl rfl rfl rfl (fun q30 => ?_) (fun q30 => ?_)
                  · refine x_throw rfl rfl ?_
                    refine sK_n (by decide +kernel) rfl ?_
                    exact k12 q5 (of_decide_eq_false q7) (of_decide_eq_false q8) j1 q9 (of_decide_eq_false q26) (of_decide_eq_false q27) (of_decide_eq_false q28) (of_decide_eq_false q29) (of_decide_eq_true q30)
                  · refine x_iload_n (pc' := 6) rfl rfl rfl ?_
                    refine x_iload_n (pc' := 7) rfl rfl rfl ?_
                    refine x_icmp_n (a' := 21) (pc' := 10) (z := decide (100 < a)) rfl rfl rfl (ik_le _ _) (fun q31 => ?_) (fun q31 => ?_)
                    · refine x_ret rfl ?_
                      refine sK_v (pc' := 46) rfl ?_
                      refine x_aload (pc' := 48) rfl rfl rfl rfl rfl ?_
                      refine x_gI (pc' := 51) (x := (mA M 0 b)) rfl rfl rfl (kA hM rfl hb) ?_
                      refine x_if (a' := 58) (pc' := 54) (z := decide ((mA M 0 b) = 0)) rfl rfl rfl rfl (fun q32 => ?_) (fun q32 => ?_)
                      · refine x_iconst (pc' := 59) rfl rfl ?_
                        refine x_cs (ls0 := [_]) (rest := []) rfl rfl rfl rfl ?_
                        refine x_iload_n (pc' := 1) rfl rfl rfl ?_
                        refine x_if (a' := 15) (pc' := 4) (z := false) rfl rfl rfl (by decide) (fun h => by cases h) (fun _ => ?_)
                        refine x_throw rfl rfl ?_
                        refine sK_n (by decide +kernel) rfl ?_
                        exact k13 q5 (of_decide_eq_false q7) (of_decide_eq_false q8) j1 q9 (of_decide_eq_false q26) (of_decide_eq_false q27) (of_decide_eq_false q28) (of_decide_eq_false q29) (of_decide_eq_false q30) (of_decide_eq_false q31) (of_decide_eq_true q32)
                      · refine x_iconst (pc' := 55) rfl rfl ?_
                        refine x_goto (pc' := 59) rfl rfl ?_
                        refine x_cs (ls0 := [_]) (rest := []) rfl rfl rfl rfl ?_
                        refine x_iload_n (pc' := 1) rfl rfl rfl ?_
                        refine x_if (a' := 15) (pc' := 4) (z := true) rfl rfl rfl (by decide) (fun _ => ?_) (fun h => by cases h)
                        refine x_ret rfl ?_
                        refine sK_v (pc' := 62) rfl ?_
                        refine x_aload_n (pc' := 63) rfl rfl rfl rfl rfl ?_
                        refine x_aload (pc' := 65) rfl rfl rfl rfl rfl ?_
                        refine x_iconst (pc' := 66) rfl rfl ?_
                        refine x_cv (ls0 := [_, _, _]) (rest := []) rfl rfl rfl rfl rfl ?_
                        refine x_aload_n (pc' := 1) rfl rfl rfl rfl rfl ?_
                        refine x_gZ (pc' := 4) (z := (mB M 2 m)) rfl rfl rfl (kZ hM rfl hm) ?_
                        refine x_ifne_z (a' := 29) (pc' := 7) (z := (mB M 2 m)) rfl rfl rfl (fun q35 => ?_) (fun q35 => ?_)
                        · refine x_iconst (pc' := 30) rfl rfl ?_
                          refine x_cs (ls0 := [_]) (rest := []) rfl rfl rfl rfl ?_
                          refine x_iload_n (pc' := 1) rfl rfl rfl ?_
                          refine x_if (a' := 15) (pc' := 4) (z := false) rfl rfl rfl (by decide) (fun h => by cases h) (fun _ => ?_)
                          refine x_throw rfl rfl ?_
                          refine sK_n (by decide +kernel) rfl ?_
                          refine sK_n (by decide +kernel) rfl ?_
                          exact k14 q5 (of_decide_eq_false q7) (of_decide_eq_false q8) j1 q9 (of_decide_eq_false q26) (of_decide_eq_false q27) (of_decide_eq_false q28) (of_decide_eq_false q29) (of_decide_eq_false q30) (of_decide_eq_false q31) (of_decide_eq_false q32) q35
                        · refine x_aload_n (pc' := 8) rfl rfl rfl rfl rfl ?_
                          refine x_gR (pc' := 11) (r := (some 0)) rfl rfl rfl (kR_705_0 hc.1) ?_
                          refine x_gR (pc' := 14) (r := (some 1)) rfl rfl rfl (kR_257_0 hc.1) ?_
                          refine x_cv (ls0 := [_]) (rest := []) rfl rfl rfl rfl rfl ?_
                          refine x_aload_n (pc' := 1) rfl rfl rfl rfl rfl ?_
                          refine x_gI (pc' := 4) (x := (io n)) rfl rfl rfl (Sf_n hc) ?_
                          refine x_reti rfl rfl ?_
                          refine sK_i (pc' := 17) rfl ?_
                          refine x_iload_n (pc' := 18) rfl rfl rfl ?_
                          refine x_iadd (pc' := 19) (z := (io (n + 2))) rfl rfl (io_add n 2) ?_
                          refine x_sipush (pc' := 22) rfl rfl ?_
                          refine x_icmp (a' := 29) (pc' := 25) (z := decide (200 < (n + 2))) rfl rfl rfl (ic_gt (p := (n + 2)) (q := 200) hb0 (by decide)) (fun q37 => ?_) (fun q37 => ?_)
                          · refine x_iconst (pc' := 30) rfl rfl ?_
                            refine x_cs (ls0 := [_]) (rest := []) rfl rfl rfl rfl ?_
                            refine x_iload_n (pc' := 1) rfl rfl rfl ?_
                            refine x_if (a' := 15) (pc' := 4) (z := false) rfl rfl rfl (by decide) (fun h => by cases h) (fun _ => ?_)
                            refine x_throw rfl rfl ?_
                            refine sK_n (by decide +kernel) rfl ?_
                            refine sK_n (by decide +kernel) rfl ?_
                            exact k15 q5 (of_decide_eq_false q7) (of_decide_eq_false q8) j1 q9 (of_decide_eq_false q26) (of_decide_eq_false q27) (of_decide_eq_false q28) (of_decide_eq_false q29) (of_decide_eq_false q30) (of_decide_eq_false q31) (of_decide_eq_false q32) q35 (of_decide_eq_true q37)
                          · refine x_iconst (pc' := 26) rfl rfl ?_
                            refine x_goto (pc' := 30) rfl rfl ?_
                            refine x_cs (ls0 := [_]) (rest := []) rfl rfl rfl rfl ?_
                            refine x_iload_n (pc' := 1) rfl rfl rfl ?_
                            refine x_if (a' := 15) (pc' := 4) (z := true) rfl rfl rfl (by decide) (fun _ => ?_) (fun h => by cases h)
                            refine x_ret rfl ?_
                            refine sK_v (pc' := 33) rfl ?_
                            refine x_ret rfl ?_
                            refine sK_v (pc' := 69) rfl ?_
                            refine x_aload_n (pc' := 70) rfl rfl rfl rfl rfl ?_
                            refine x_aload (pc' := 72) rfl rfl rfl rfl rfl ?_
                            refine x_aload (pc' := 74) rfl rfl rfl rfl rfl ?_
                            refine x_iload (pc' := 76) rfl rfl rfl ?_
                            refine x_cv (ls0 := [_, _, _, _, sJk]) (rest := []) rfl rfl rfl rfl rfl ?_
                            exact k16 q5 (of_decide_eq_false q7) (of_decide_eq_false q8) j1 q9 (of_decide_eq_false q26) (of_decide_eq_false q27) (of_decide_eq_false q28) (of_decide_eq_false q29) (of_decide_eq_false q30) (of_decide_eq_false q31) (of_decide_eq_false q32) q35 (of_decide_eq_false q37)
                    · refine x_throw rfl rfl ?_
                      refine sK_n (by decide +kernel) rfl ?_
                      exact k17 q5 (of_decide_eq_false q7) (of_decide_eq_false q8) j1 q9 (of_decide_eq_false q26) (of_decide_eq_false q27) (of_decide_eq_false q28) (of_decide_eq_false q29) (of_decide_eq_false q30) (of_decide_eq_true q31)
                · refine x_throw rfl rfl ?_
                  refine sK_n (by decide +kernel) rfl ?_
                  exact k18 q5 (of_decide_eq_false q7) (of_decide_eq_false q8) j1 q9 (of_decide_eq_false q26) (of_decide_eq_false q27) (of_decide_eq_false q28) (of_decide_eq_true q29)
            · refine x_throw rfl rfl ?_
              refine sK_n (by decide +kernel) rfl ?_
              refine sK_n (by decide +kernel) rfl ?_
              exact k19 q5 (of_decide_eq_false q7) (of_decide_eq_false q8) j1 q9 (of_decide_eq_false q26) (of_decide_eq_true q27)
      · refine x_throw rfl rfl ?_
        refine sK_n (by decide +kernel) rfl ?_
        refine sK_n (by decide +kernel) rfl ?_
        exact k20 q5 (of_decide_eq_false q7) (of_decide_eq_true q8)
  · refine x_iconst (pc' := 8) rfl rfl ?_
    refine x_goto (pc' := 12) rfl rfl ?_
    refine x_retz (z := true) rfl rfl ?_
    refine sK_i (pc' := 4) rfl ?_
    refine x_if (a' := 20) (pc' := 7) (z := false) rfl rfl rfl (by decide) (fun h => by cases h) (fun _ => ?_)
    refine x_iload_n (pc' := 8) rfl rfl rfl ?_
    refine x_sipush (pc' := 11) rfl rfl ?_
    refine x_sipush (pc' := 14) rfl rfl ?_
    refine x_cs (ls0 := [_, _, _]) (rest := []) rfl rfl rfl rfl ?_
    refine x_iload_n (pc' := 1) rfl rfl rfl ?_
    refine x_iload_n (pc' := 2) rfl rfl rfl ?_
    refine x_icmp (a' := 10) (pc' := 5) (z := decide (p < (-500))) rfl rfl rfl rfl (fun q41 => ?_) (fun q41 => ?_)
    · refine x_throw rfl rfl ?_
      refine sK_n (by decide +kernel) rfl ?_
      refine sK_n (by decide +kernel) rfl ?_
      exact k21 j0 q5 (of_decide_eq_true q41)
    · refine x_iload_n (pc' := 6) rfl rfl rfl ?_
      refine x_iload_n (pc' := 7) rfl rfl rfl ?_
      refine x_icmp_n (a' := 21) (pc' := 10) (z := decide (500 < p)) rfl rfl rfl (ik_le _ _) (fun q42 => ?_) (fun q42 => ?_)
      · refine x_ret rfl ?_
        refine sK_v (pc' := 17) rfl ?_
        refine x_goto (pc' := 28) rfl rfl ?_
        refine x_ret rfl ?_
        refine sK_v (pc' := 20) rfl ?_
        refine x_aload (pc' := 22) rfl rfl rfl rfl rfl ?_
        refine x_iload (pc' := 24) rfl rfl rfl ?_
        refine x_cs (ls0 := [_, _]) (rest := []) rfl rfl rfl rfl ?_
        refine x_aload_n (pc' := 1) rfl rfl rfl rfl rfl ?_
        refine x_cv (ls0 := [_]) (rest := []) rfl rfl rfl rfl rfl ?_
        refine x_aload_n (pc' := 1) rfl rfl rfl rfl rfl ?_
        refine x_gR (pc' := 4) (r := (some j0)) rfl rfl rfl (Eq.trans (kBk hc.1 hb).2.1 q5) ?_
        refine x_ifnull (a' := 11) (pc' := 7) rfl rfl rfl rfl (fun h => by cases h) (fun _ _ => ?_)
        refine x_iconst (pc' := 8) rfl rfl ?_
        refine x_goto (pc' := 12) rfl rfl ?_
        refine x_retz (z := true) rfl rfl ?_
        refine sK_i (pc' := 4) rfl ?_
        refine x_if (a' := 20) (pc' := 7) (z := false) rfl rfl rfl (by decide) (fun h => by cases h) (fun _ => ?_)
        refine x_iload_n (pc' := 8) rfl rfl rfl ?_
        refine x_sipush (pc' := 11) rfl rfl ?_
        refine x_sipush (pc' := 14) rfl rfl ?_
        refine x_cs (ls0 := [_, _, _]) (rest := []) rfl rfl rfl rfl ?_
        refine x_iload_n (pc' := 1) rfl rfl rfl ?_
        refine x_iload_n (pc' := 2) rfl rfl rfl ?_
        refine x_icmp (a' := 10) (pc' := 5) (z := decide (u < (-500))) rfl rfl rfl rfl (fun q45 => ?_) (fun q45 => ?_)
        · refine x_throw rfl rfl ?_
          refine sK_n (by decide +kernel) rfl ?_
          refine sK_n (by decide +kernel) rfl ?_
          exact k22 j0 q5 (of_decide_eq_false q41) (of_decide_eq_false q42) (of_decide_eq_true q45)
        · refine x_iload_n (pc' := 6) rfl rfl rfl ?_
          refine x_iload_n (pc' := 7) rfl rfl rfl ?_
          refine x_icmp_n (a' := 21) (pc' := 10) (z := decide (500 < u)) rfl rfl rfl (ik_le _ _) (fun q46 => ?_) (fun q46 => ?_)
          · refine x_ret rfl ?_
            refine sK_v (pc' := 17) rfl ?_
            refine x_goto (pc' := 28) rfl rfl ?_
            refine x_ret rfl ?_
            refine sK_v (pc' := 27) rfl ?_
            refine x_iload (pc' := 29) rfl rfl rfl ?_
            refine x_iload_n (pc' := 30) rfl rfl rfl ?_
            refine x_iconst (pc' := 31) rfl rfl ?_
            refine x_iadd (pc' := 32) (z := (p + 1)) rfl rfl rfl ?_
            refine x_sipush (pc' := 35) rfl rfl ?_
            refine x_cs (ls0 := [_, _, _]) (rest := []) rfl rfl rfl rfl ?_
            refine x_iload_n (pc' := 1) rfl rfl rfl ?_
            refine x_iload_n (pc' := 2) rfl rfl rfl ?_
            refine x_icmp (a' := 10) (pc' := 5) (z := decide (u < (p + 1))) rfl rfl rfl rfl (fun q47 => ?_) (fun q47 => ?_)
            · refine x_throw rfl rfl ?_
              refine sK_n (by decide +kernel) rfl ?_
              exact k23 j0 q5 (of_decide_eq_false q41) (of_decide_eq_false q42) (of_decide_eq_false q45) (of_decide_eq_false q46) (of_decide_eq_true q47)
            · refine x_iload_n (pc' := 6) rfl rfl rfl ?_
              refine x_iload_n (pc' := 7) rfl rfl rfl ?_
              refine x_icmp_n (a' := 21) (pc' := 10) (z := decide (999 < u)) rfl rfl rfl (ik_le _ _) (fun q48 => ?_) (fun q48 => ?_)
              · refine x_ret rfl ?_
                refine sK_v (pc' := 38) rfl ?_
                refine x_iload (pc' := 40) rfl rfl rfl ?_
                refine x_iconst (pc' := 41) rfl rfl ?_
                refine x_bipush (pc' := 43) rfl rfl ?_
                refine x_cs (ls0 := [_, _, _]) (rest := []) rfl rfl rfl rfl ?_
                refine x_iload_n (pc' := 1) rfl rfl rfl ?_
                refine x_iload_n (pc' := 2) rfl rfl rfl ?_
                refine x_icmp (a' := 10) (pc' := 5) (z := decide (a < 1)) rfl rfl rfl rfl (fun q49 => ?_) (fun q49 => ?_)
                · refine x_throw rfl rfl ?_
                  refine sK_n (by decide +kernel) rfl ?_
                  exact k24 j0 q5 (of_decide_eq_false q41) (of_decide_eq_false q42) (of_decide_eq_false q45) (of_decide_eq_false q46) (of_decide_eq_false q47) (of_decide_eq_false q48) (of_decide_eq_true q49)
                · refine x_iload_n (pc' := 6) rfl rfl rfl ?_
                  refine x_iload_n (pc' := 7) rfl rfl rfl ?_
                  refine x_icmp_n (a' := 21) (pc' := 10) (z := decide (100 < a)) rfl rfl rfl (ik_le _ _) (fun q50 => ?_) (fun q50 => ?_)
                  · refine x_ret rfl ?_
                    refine sK_v (pc' := 46) rfl ?_
                    refine x_aload (pc' := 48) rfl rfl rfl rfl rfl ?_
                    refine x_gI (pc' := 51) (x := (mA M 0 b)) rfl rfl rfl (kA hM rfl hb) ?_
                    refine x_if (a' := 58) (pc' := 54) (z := decide ((mA M 0 b) = 0)) rfl rfl rfl rfl (fun q51 => ?_) (fun q51 => ?_)
                    · refine x_iconst (pc' := 59) rfl rfl ?_
                      refine x_cs (ls0 := [_]) (rest := []) rfl rfl rfl rfl ?_
                      refine x_iload_n (pc' := 1) rfl rfl rfl ?_
                      refine x_if (a' := 15) (pc' := 4) (z := false) rfl rfl rfl (by decide) (fun h => by cases h) (fun _ => ?_)
                      refine x_throw rfl rfl ?_
                      refine sK_n (by decide +kernel) rfl ?_
                      exact k25 j0 q5 (of_decide_eq_false q41) (of_decide_eq_false q42) (of_decide_eq_false q45) (of_decide_eq_false q46) (of_decide_eq_false q47) (of_decide_eq_false q48) (of_decide_eq_false q49) (of_decide_eq_false q50) (of_decide_eq_true q51)
                    · refine x_iconst (pc' := 55) rfl rfl ?_
                      refine x_goto (pc' := 59) rfl rfl ?_
                      refine x_cs (ls0 := [_]) (rest := []) rfl rfl rfl rfl ?_
                      refine x_iload_n (pc' := 1) rfl rfl rfl ?_
                      refine x_if (a' := 15) (pc' := 4) (z := true) rfl rfl rfl (by decide) (fun _ => ?_) (fun h => by cases h)
                      refine x_ret rfl ?_
                      refine sK_v (pc' := 62) rfl ?_
                      refine x_aload_n (pc' := 63) rfl rfl rfl rfl rfl ?_
                      refine x_aload (pc' := 65) rfl rfl rfl rfl rfl ?_
                      refine x_iconst (pc' := 66) rfl rfl ?_
                      refine x_cv (ls0 := [_, _, _]) (rest := []) rfl rfl rfl rfl rfl ?_
                      refine x_aload_n (pc' := 1) rfl rfl rfl rfl rfl ?_
                      refine x_gZ (pc' := 4) (z := (mB M 2 m)) rfl rfl rfl (kZ hM rfl hm) ?_
                      refine x_ifne_z (a' := 29) (pc' := 7) (z := (mB M 2 m)) rfl rfl rfl (fun q54 => ?_) (fun q54 => ?_)
                      · refine x_iconst (pc' := 30) rfl rfl ?_
                        refine x_cs (ls0 := [_]) (rest := []) rfl rfl rfl rfl ?_
                        refine x_iload_n (pc' := 1) rfl rfl rfl ?_
                        refine x_if (a' := 15) (pc' := 4) (z := false) rfl rfl rfl (by decide) (fun h => by cases h) (fun _ => ?_)
                        refine x_throw rfl rfl ?_
                        refine sK_n (by decide +kernel) rfl ?_
                        refine sK_n (by decide +kernel) rfl ?_
                        exact k26 j0 q5 (of_decide_eq_false q41) (of_decide_eq_false q42) (of_decide_eq_false q45) (of_decide_eq_false q46) (of_decide_eq_false q47) (of_decide_eq_false q48) (of_decide_eq_false q49) (of_decide_eq_false q50) (of_decide_eq_false q51) q54
                      · refine x_aload_n (pc' := 8) rfl rfl rfl rfl rfl ?_
                        refine x_gR (pc' := 11) (r := (some 0)) rfl rfl rfl (kR_705_0 hc.1) ?_
                        refine x_gR (pc' := 14) (r := (some 1)) rfl rfl rfl (kR_257_0 hc.1) ?_
                        refine x_cv (ls0 := [_]) (rest := []) rfl rfl rfl rfl rfl ?_
                        refine x_aload_n (pc' := 1) rfl rfl rfl rfl rfl ?_
                        refine x_gI (pc' := 4) (x := (io n)) rfl rfl rfl (Sf_n hc) ?_
                        refine x_reti rfl rfl ?_
                        refine sK_i (pc' := 17) rfl ?_
                        refine x_iload_n (pc' := 18) rfl rfl rfl ?_
                        refine x_iadd (pc' := 19) (z := (io (n + 2))) rfl rfl (io_add n 2) ?_
                        refine x_sipush (pc' := 22) rfl rfl ?_
                        refine x_icmp (a' := 29) (pc' := 25) (z := decide (200 < (n + 2))) rfl rfl rfl (ic_gt (p := (n + 2)) (q := 200) hb0 (by decide)) (fun q56 => ?_) (fun q56 => ?_)
                        · refine x_iconst (pc' := 30) rfl rfl ?_
                          refine x_cs (ls0 := [_]) (rest := []) rfl rfl rfl rfl ?_
                          refine x_iload_n (pc' := 1) rfl rfl rfl ?_
                          refine x_if (a' := 15) (pc' := 4) (z := false) rfl rfl rfl (by decide) (fun h => by cases h) (fun _ => ?_)
                          refine x_throw rfl rfl ?_
                          refine sK_n (by decide +kernel) rfl ?_
                          refine sK_n (by decide +kernel) rfl ?_
                          exact k27 j0 q5 (of_decide_eq_false q41) (of_decide_eq_false q42) (of_decide_eq_false q45) (of_decide_eq_false q46) (of_decide_eq_false q47) (of_decide_eq_false q48) (of_decide_eq_false q49) (of_decide_eq_false q50) (of_decide_eq_false q51) q54 (of_decide_eq_true q56)
                        · refine x_iconst (pc' := 26) rfl rfl ?_
                          refine x_goto (pc' := 30) rfl rfl ?_
                          refine x_cs (ls0 := [_]) (rest := []) rfl rfl rfl rfl ?_
                          refine x_iload_n (pc' := 1) rfl rfl rfl ?_
                          refine x_if (a' := 15) (pc' := 4) (z := true) rfl rfl rfl (by decide) (fun _ => ?_) (fun h => by cases h)
                          refine x_ret rfl ?_
                          refine sK_v (pc' := 33) rfl ?_
                          refine x_ret rfl ?_
                          refine sK_v (pc' := 69) rfl ?_
                          refine x_aload_n (pc' := 70) rfl rfl rfl rfl rfl ?_
                          refine x_aload (pc' := 72) rfl rfl rfl rfl rfl ?_
                          refine x_aload (pc' := 74) rfl rfl rfl rfl rfl ?_
                          refine x_iload (pc' := 76) rfl rfl rfl ?_
                          refine x_cv (ls0 := [_, _, _, _, sJk]) (rest := []) rfl rfl rfl rfl rfl ?_
                          exact k28 j0 q5 (of_decide_eq_false q41) (of_decide_eq_false q42) (of_decide_eq_false q45) (of_decide_eq_false q46) (of_decide_eq_false q47) (of_decide_eq_false q48) (of_decide_eq_false q49) (of_decide_eq_false q50) (of_decide_eq_false q51) q54 (of_decide_eq_false q56)
                  · refine x_throw rfl rfl ?_
                    refine sK_n (by decide +kernel) rfl ?_
                    exact k29 j0 q5 (of_decide_eq_false q41) (of_decide_eq_false q42) (of_decide_eq_false q45) (of_decide_eq_false q46) (of_decide_eq_false q47) (of_decide_eq_false q48) (of_decide_eq_false q49) (of_decide_eq_true q50)
              · refine x_throw rfl rfl ?_
                refine sK_n (by decide +kernel) rfl ?_
                exact k30 j0 q5 (of_decide_eq_false q41) (of_decide_eq_false q42) (of_decide_eq_false q45) (of_decide_eq_false q46) (of_decide_eq_false q47) (of_decide_eq_true q48)
          · refine x_throw rfl rfl ?_
            refine sK_n (by decide +kernel) rfl ?_
            refine sK_n (by decide +kernel) rfl ?_
            exact k31 j0 q5 (of_decide_eq_false q41) (of_decide_eq_false q42) (of_decide_eq_false q45) (of_decide_eq_true q46)
      · refine x_throw rfl rfl ?_
        refine sK_n (by decide +kernel) rfl ?_
        refine sK_n (by decide +kernel) rfl ?_
        exact k32 j0 q5 (of_decide_eq_false q41) (of_decide_eq_true q42)
set_option maxHeartbeats 4000000 in
set_option maxRecDepth 10000 in
theorem n97_x0 {t : sT} {Q : sRs → sT → Prop} {M : sM} {n : Nat} {T : Nat} {L0 : List Nat} {A : Nat} {B : Nat} {x : Int32} {x1 : Int32} {p : Int32} {u : Int32} {a : Int32}
    (hW : Wc t M n T L0 A B)
    (hp : ixo x 6 = none)
    (k0 : Q (.inr 0) (sThr t)) :
    X 97 0 [.inr (.inr (11, (some 0))), .inl x, .inl x1, .inl p, .inl u, .inl a, sJk, sJk, sJk, sJk] [] t Q := by
  obtain ⟨hM, hc, hR, hC, hL, hL9⟩ := hW
  refine x_aload_n (pc' := 1) rfl rfl rfl rfl rfl ?_
  refine x_iload_n (pc' := 2) rfl rfl rfl ?_
  refine x_cv (ls0 := [_, _]) (rest := []) rfl rfl rfl rfl rfl ?_
  refine b131_x ⟨hM, hc, hR, hC, hL, hL9⟩ hp ?_
  refine sK_n (by decide +kernel) rfl ?_
  exact k0
set_option maxHeartbeats 4000000 in
set_option maxRecDepth 10000 in
theorem n97_x1 {t : sT} {Q : sRs → sT → Prop} {M : sM} {n : Nat} {T : Nat} {L0 : List Nat} {A : Nat} {B : Nat} {m : Nat} {x : Int32} {p : Int32} {u : Int32} {a : Int32}
    (hW : Wc t M n T L0 A B)
    (hm : m < 6)
    (hp : ixo x 5 = none)
    (k0 : Q (.inr 0) (sThr t)) :
    X 97 0 [.inr (.inr (11, (some 0))), .inl (io m), .inl x, .inl p, .inl u, .inl a, sJk, sJk, sJk, sJk] [] t Q := by
  obtain ⟨hM, hc, hR, hC, hL, hL9⟩ := hW
  refine x_aload_n (pc' := 1) rfl rfl rfl rfl rfl ?_
  refine x_iload_n (pc' := 2) rfl rfl rfl ?_
  refine x_cv (ls0 := [_, _]) (rest := []) rfl rfl rfl rfl rfl ?_
  refine x_iload_n (pc' := 1) rfl rfl rfl ?_
  refine x_if (a' := 16) (pc' := 4) (z := decide (m < 0)) rfl rfl rfl (ic_lt (p := m) (q := 0) (gm31 hm) (by decide)) (fun h => absurd (of_decide_eq_true h) (by first | decide | omega | simp)) (fun _ => ?_)
  refine x_iload_n (pc' := 5) rfl rfl rfl ?_
  refine x_aload_n (pc' := 6) rfl rfl rfl rfl rfl ?_
  refine x_gR (pc' := 9) (r := (some 0)) rfl rfl rfl (kR_704_0 hc.1) ?_
  refine x_gR (pc' := 12) (r := (some 0)) rfl rfl rfl (kR_321_0 hc.1) ?_
  refine x_alen (pc' := 13) (N := 6) rfl rfl rfl (kN_26_0 hc.1) (?_ : X _ _ _ (.inl 6 :: _) _ _)
  refine x_icmp (a' := 27) (pc' := 16) (z := decide (m < 6)) rfl rfl rfl (ic_lt (p := m) (q := 6) (gm31 hm) (by decide)) (fun _ => ?_) (fun h => absurd hm (of_decide_eq_false h))
  refine x_aload_n (pc' := 28) rfl rfl rfl rfl rfl ?_
  refine x_gR (pc' := 31) (r := (some 0)) rfl rfl rfl (kR_704_0 hc.1) ?_
  refine x_gR (pc' := 34) (r := (some 0)) rfl rfl rfl (kR_321_0 hc.1) ?_
  refine x_iload_n (pc' := 35) rfl rfl rfl ?_
  refine x_aald (pc' := 36) (N := 6) (k' := 7) (r := (some m)) rfl rfl rfl (kN_26_0 hc.1) (io_in (p := m) (N := 6) hm (by decide)) (Eq.trans (congrArg (sE t 26 0) (nn_io (p := m) (Nat.lt_trans hm (by decide)))) (kM hc.1 hm)) ?_
  refine x_reta rfl rfl ?_
  refine sK_i (pc' := 5) rfl ?_
  refine x_astore (pc' := 7) (ls' := [_, _, _, _, _, _, _, _, _, _]) rfl rfl rfl rfl rfl ?_
  refine x_aload_n (pc' := 8) rfl rfl rfl rfl rfl ?_
  refine x_iload_n (pc' := 9) rfl rfl rfl ?_
  refine x_cv (ls0 := [_, _]) (rest := []) rfl rfl rfl rfl rfl ?_
  refine b133_x ⟨hM, hc, hR, hC, hL, hL9⟩ hp ?_
  refine sK_n (by decide +kernel) rfl ?_
  exact k0
set_option maxHeartbeats 4000000 in
set_option maxRecDepth 10000 in
theorem n94_138 {t : sT} {Q : sRs → sT → Prop} {M : sM} {n : Nat} {T : Nat} {L0 : List Nat} {A : Nat} {B : Nat} {m : Nat} {b : Nat} {s : Bool} {p : Int32} {a : Int32} {h : Int32} {z : Bool}
    (hW : Wc t M n T L0 A B)
    (hm : m < 6)
    (hb : b < 5)
    (k0 : z = false → X 27 0 [.inr (.inr (4, (some 0))), .inr (.inr (7, (some m))), .inr (.inr (1, (some b))), .inl (bz s), .inl p, .inl a, sJk] [] t (sK 27 94 89 [.inr (.inr (11, (some 0))), .inl (io m), .inl (io b), .inl (bz s), .inl p, .inl a, .inl h, .inr (.inr (7, (some m))), .inr (.inr (1, (some b))), sJk] [] Q))
    (k1 : z = true → Q (.inl (some (.inl (-1)))) t) :
    X 94 71 [.inr (.inr (11, (some 0))), .inl (io m), .inl (io b), .inl (bz s), .inl p, .inl a, .inl h, .inr (.inr (7, (some m))), .inr (.inr (1, (some b))), sJk] [.inl (bz z)] t Q := by
  obtain ⟨hM, hc, hR, hC, hL, hL9⟩ := hW
  refine x_ifeq_z (a' := 76) (pc' := 74) (z := z) rfl rfl rfl (fun q1 => ?_) (fun q1 => ?_)
  · refine x_aload_n (pc' := 77) rfl rfl rfl rfl rfl ?_
    refine x_gR (pc' := 80) (r := (some 0)) rfl rfl rfl (kR_705_0 hc.1) ?_
    refine x_aload (pc' := 82) rfl rfl rfl rfl rfl ?_
    refine x_aload (pc' := 84) rfl rfl rfl rfl rfl ?_
    refine x_iload_n (pc' := 85) rfl rfl rfl ?_
    refine x_iload (pc' := 87) rfl rfl rfl ?_
    refine x_iload (pc' := 89) rfl rfl rfl ?_
    refine x_cv (ls0 := [_, _, _, _, _, _, sJk]) (rest := []) rfl rfl rfl rfl rfl ?_
    exact k0 q1
  · refine x_iconst (pc' := 75) rfl rfl ?_
    refine x_reti rfl rfl ?_
    exact k1 q1
set_option maxHeartbeats 4000000 in
set_option maxRecDepth 10000 in
theorem n94_27 {t : sT} {Q : sRs → sT → Prop} {M : sM} {n : Nat} {T : Nat} {L0 : List Nat} {A : Nat} {B : Nat} {m : Nat} {b : Nat} {s : Bool} {p : Int32} {a : Int32} {h : Int32} {o : Nat}
    (hW : Wc t M n T L0 A B)
    (hm : m < 6)
    (hb : b < 5)
    (ho : o < n)
    (k0 : X 52 0 [.inr (.inr (5, (some 0))), sJk, sJk, sJk, sJk] [] (sIw t 517 o h) (sK 52 94 105 [.inr (.inr (11, (some 0))), .inl (io m), .inl (io b), .inl (bz s), .inl p, .inl a, .inl h, .inr (.inr (7, (some m))), .inr (.inr (1, (some b))), .inr (.inr (8, (some o)))] [] Q)) :
    X 94 92 [.inr (.inr (11, (some 0))), .inl (io m), .inl (io b), .inl (bz s), .inl p, .inl a, .inl h, .inr (.inr (7, (some m))), .inr (.inr (1, (some b))), sJk] [.inr (.inr (8, (some o)))] t Q := by
  obtain ⟨hM, hc, hR, hC, hL, hL9⟩ := hW
  refine x_astore (pc' := 94) (ls' := [_, _, _, _, _, _, _, _, _, _]) rfl rfl rfl rfl rfl ?_
  refine x_aload (pc' := 96) rfl rfl rfl rfl rfl ?_
  refine x_iload (pc' := 98) rfl rfl rfl ?_
  refine x_pI (pc' := 101) rfl rfl rfl ?_
  refine x_aload_n (pc' := 102) rfl rfl rfl rfl rfl ?_
  refine x_gR (pc' := 105) (r := (some 0)) rfl rfl rfl (Eq.trans (b := sR t 704 0) rfl (kR_704_0 hc.1)) ?_
  refine x_cv (ls0 := [_, sJk, sJk, sJk, sJk]) (rest := []) rfl rfl rfl rfl rfl ?_
  exact k0
set_option maxHeartbeats 4000000 in
set_option maxRecDepth 10000 in
theorem n94_52 {t : sT} {Q : sRs → sT → Prop} {M : sM} {n : Nat} {T : Nat} {L0 : List Nat} {A : Nat} {B : Nat} {m : Nat} {b : Nat} {s : Bool} {p : Int32} {a : Int32} {h : Int32} {o : Nat}
    (hW : Wc t M n T L0 A B)
    (hm : m < 6)
    (hb : b < 5)
    (ho : o < n)
    (k0 : X 140 0 [.inr (.inr (11, (some 0))), .inr (.inr (8, (some o))), sJk, sJk] [] t (sK 140 94 111 [.inr (.inr (11, (some 0))), .inl (io m), .inl (io b), .inl (bz s), .inl p, .inl a, .inl h, .inr (.inr (7, (some m))), .inr (.inr (1, (some b))), .inr (.inr (8, (some o)))] [] Q)) :
    X 94 108 [.inr (.inr (11, (some 0))), .inl (io m), .inl (io b), .inl (bz s), .inl p, .inl a, .inl h, .inr (.inr (7, (some m))), .inr (.inr (1, (some b))), .inr (.inr (8, (some o)))] [] t Q := by
  obtain ⟨hM, hc, hR, hC, hL, hL9⟩ := hW
  refine x_aload_n (pc' := 109) rfl rfl rfl rfl rfl ?_
  refine x_aload (pc' := 111) rfl rfl rfl rfl rfl ?_
  refine x_cv (ls0 := [_, _, sJk, sJk]) (rest := []) rfl rfl rfl rfl rfl ?_
  exact k0
set_option maxHeartbeats 4000000 in
set_option maxRecDepth 10000 in
theorem n94_140 {t : sT} {Q : sRs → sT → Prop} {M : sM} {n : Nat} {T : Nat} {L0 : List Nat} {A : Nat} {B : Nat} {m : Nat} {b : Nat} {s : Bool} {p : Int32} {a : Int32} {h : Int32} {o : Nat}
    (hW : Wc t M n T L0 A B)
    (hm : m < 6)
    (hb : b < 5)
    (ho : o < n)
    (k0 : Q (.inl (some (.inl (io o)))) t) :
    X 94 114 [.inr (.inr (11, (some 0))), .inl (io m), .inl (io b), .inl (bz s), .inl p, .inl a, .inl h, .inr (.inr (7, (some m))), .inr (.inr (1, (some b))), .inr (.inr (8, (some o)))] [] t Q := by
  obtain ⟨hM, hc, hR, hC, hL, hL9⟩ := hW
  refine x_aload (pc' := 116) rfl rfl rfl rfl rfl ?_
  refine x_gI (pc' := 119) (x := (io o)) rfl rfl rfl (Sf_512 hc ho) ?_
  refine x_reti rfl rfl ?_
  exact k0
set_option maxHeartbeats 4000000 in
set_option maxRecDepth 10000 in
theorem n95_138 {t : sT} {Q : sRs → sT → Prop} {M : sM} {n : Nat} {T : Nat} {L0 : List Nat} {A : Nat} {B : Nat} {m : Nat} {b : Nat} {s : Bool} {p : Int32} {a : Int32} {z : Bool}
    (hW : Wc t M n T L0 A B)
    (hm : m < 6)
    (hb : b < 5)
    (k0 : z = false → X 27 0 [.inr (.inr (4, (some 0))), .inr (.inr (7, (some m))), .inr (.inr (1, (some b))), .inl (bz s), .inl p, .inl a, sJk] [] t (sK 27 95 82 [.inr (.inr (11, (some 0))), .inl (io m), .inl (io b), .inl (bz s), .inl p, .inl a, .inr (.inr (7, (some m))), .inr (.inr (1, (some b))), sJk] [] Q))
    (k1 : z = true → Q (.inl (some (.inl (-1)))) t) :
    X 95 64 [.inr (.inr (11, (some 0))), .inl (io m), .inl (io b), .inl (bz s), .inl p, .inl a, .inr (.inr (7, (some m))), .inr (.inr (1, (some b))), sJk] [.inl (bz z)] t Q := by
  obtain ⟨hM, hc, hR, hC, hL, hL9⟩ := hW
  refine x_ifeq_z (a' := 69) (pc' := 67) (z := z) rfl rfl rfl (fun q1 => ?_) (fun q1 => ?_)
  · refine x_aload_n (pc' := 70) rfl rfl rfl rfl rfl ?_
    refine x_gR (pc' := 73) (r := (some 0)) rfl rfl rfl (kR_705_0 hc.1) ?_
    refine x_aload (pc' := 75) rfl rfl rfl rfl rfl ?_
    refine x_aload (pc' := 77) rfl rfl rfl rfl rfl ?_
    refine x_iload_n (pc' := 78) rfl rfl rfl ?_
    refine x_iload (pc' := 80) rfl rfl rfl ?_
    refine x_iload (pc' := 82) rfl rfl rfl ?_
    refine x_cv (ls0 := [_, _, _, _, _, _, sJk]) (rest := []) rfl rfl rfl rfl rfl ?_
    exact k0 q1
  · refine x_iconst (pc' := 68) rfl rfl ?_
    refine x_reti rfl rfl ?_
    exact k1 q1
set_option maxHeartbeats 4000000 in
set_option maxRecDepth 10000 in
theorem n95_27 {t : sT} {Q : sRs → sT → Prop} {M : sM} {n : Nat} {T : Nat} {L0 : List Nat} {A : Nat} {B : Nat} {m : Nat} {b : Nat} {s : Bool} {p : Int32} {a : Int32} {o : Nat}
    (hW : Wc t M n T L0 A B)
    (hm : m < 6)
    (hb : b < 5)
    (ho : o < n)
    (k0 : X 52 0 [.inr (.inr (5, (some 0))), sJk, sJk, sJk, sJk] [] (sZw t 519 o true) (sK 52 95 97 [.inr (.inr (11, (some 0))), .inl (io m), .inl (io b), .inl (bz s), .inl p, .inl a, .inr (.inr (7, (some m))), .inr (.inr (1, (some b))), .inr (.inr (8, (some o)))] [] Q)) :
    X 95 85 [.inr (.inr (11, (some 0))), .inl (io m), .inl (io b), .inl (bz s), .inl p, .inl a, .inr (.inr (7, (some m))), .inr (.inr (1, (some b))), sJk] [.inr (.inr (8, (some o)))] t Q := by
  obtain ⟨hM, hc, hR, hC, hL, hL9⟩ := hW
  refine x_astore (pc' := 87) (ls' := [_, _, _, _, _, _, _, _, _]) rfl rfl rfl rfl rfl ?_
  refine x_aload (pc' := 89) rfl rfl rfl rfl rfl ?_
  refine x_iconst (pc' := 90) rfl rfl ?_
  refine x_pZ (pc' := 93) (z := true) rfl rfl rfl rfl ?_
  refine x_aload_n (pc' := 94) rfl rfl rfl rfl rfl ?_
  refine x_gR (pc' := 97) (r := (some 0)) rfl rfl rfl (Eq.trans (b := sR t 704 0) rfl (kR_704_0 hc.1)) ?_
  refine x_cv (ls0 := [_, sJk, sJk, sJk, sJk]) (rest := []) rfl rfl rfl rfl rfl ?_
  exact k0
set_option maxHeartbeats 4000000 in
set_option maxRecDepth 10000 in
theorem n95_52 {t : sT} {Q : sRs → sT → Prop} {M : sM} {n : Nat} {T : Nat} {L0 : List Nat} {A : Nat} {B : Nat} {m : Nat} {b : Nat} {s : Bool} {p : Int32} {a : Int32} {o : Nat}
    (hW : Wc t M n T L0 A B)
    (hm : m < 6)
    (hb : b < 5)
    (ho : o < n)
    (k0 : X 140 0 [.inr (.inr (11, (some 0))), .inr (.inr (8, (some o))), sJk, sJk] [] t (sK 140 95 103 [.inr (.inr (11, (some 0))), .inl (io m), .inl (io b), .inl (bz s), .inl p, .inl a, .inr (.inr (7, (some m))), .inr (.inr (1, (some b))), .inr (.inr (8, (some o)))] [] Q)) :
    X 95 100 [.inr (.inr (11, (some 0))), .inl (io m), .inl (io b), .inl (bz s), .inl p, .inl a, .inr (.inr (7, (some m))), .inr (.inr (1, (some b))), .inr (.inr (8, (some o)))] [] t Q := by
  obtain ⟨hM, hc, hR, hC, hL, hL9⟩ := hW
  refine x_aload_n (pc' := 101) rfl rfl rfl rfl rfl ?_
  refine x_aload (pc' := 103) rfl rfl rfl rfl rfl ?_
  refine x_cv (ls0 := [_, _, sJk, sJk]) (rest := []) rfl rfl rfl rfl rfl ?_
  exact k0
set_option maxHeartbeats 4000000 in
set_option maxRecDepth 10000 in
theorem n95_140 {t : sT} {Q : sRs → sT → Prop} {M : sM} {n : Nat} {T : Nat} {L0 : List Nat} {A : Nat} {B : Nat} {m : Nat} {b : Nat} {s : Bool} {p : Int32} {a : Int32} {o : Nat}
    (hW : Wc t M n T L0 A B)
    (hm : m < 6)
    (hb : b < 5)
    (ho : o < n)
    (k0 : Q (.inl (some (.inl (io o)))) t) :
    X 95 106 [.inr (.inr (11, (some 0))), .inl (io m), .inl (io b), .inl (bz s), .inl p, .inl a, .inr (.inr (7, (some m))), .inr (.inr (1, (some b))), .inr (.inr (8, (some o)))] [] t Q := by
  obtain ⟨hM, hc, hR, hC, hL, hL9⟩ := hW
  refine x_aload (pc' := 108) rfl rfl rfl rfl rfl ?_
  refine x_gI (pc' := 111) (x := (io o)) rfl rfl rfl (Sf_512 hc ho) ?_
  refine x_reti rfl rfl ?_
  exact k0
set_option maxHeartbeats 4000000 in
set_option maxRecDepth 10000 in
theorem n96_138 {t : sT} {Q : sRs → sT → Prop} {M : sM} {n : Nat} {T : Nat} {L0 : List Nat} {A : Nat} {B : Nat} {m : Nat} {b : Nat} {s : Bool} {p : Int32} {a : Int32} {h : Int32} {z : Bool}
    (hW : Wc t M n T L0 A B)
    (hm : m < 6)
    (hb : b < 5)
    (k0 : z = false → X 27 0 [.inr (.inr (4, (some 0))), .inr (.inr (7, (some m))), .inr (.inr (1, (some b))), .inl (bz s), .inl p, .inl a, sJk] [] t (sK 27 96 88 [.inr (.inr (11, (some 0))), .inl (io m), .inl (io b), .inl (bz s), .inl p, .inl a, .inl h, .inr (.inr (7, (some m))), .inr (.inr (1, (some b))), sJk] [] Q))
    (k1 : z = true → Q (.inl (some (.inl (-1)))) t) :
    X 96 70 [.inr (.inr (11, (some 0))), .inl (io m), .inl (io b), .inl (bz s), .inl p, .inl a, .inl h, .inr (.inr (7, (some m))), .inr (.inr (1, (some b))), sJk] [.inl (bz z)] t Q := by
  obtain ⟨hM, hc, hR, hC, hL, hL9⟩ := hW
  refine x_ifeq_z (a' := 75) (pc' := 73) (z := z) rfl rfl rfl (fun q1 => ?_) (fun q1 => ?_)
  · refine x_aload_n (pc' := 76) rfl rfl rfl rfl rfl ?_
    refine x_gR (pc' := 79) (r := (some 0)) rfl rfl rfl (kR_705_0 hc.1) ?_
    refine x_aload (pc' := 81) rfl rfl rfl rfl rfl ?_
    refine x_aload (pc' := 83) rfl rfl rfl rfl rfl ?_
    refine x_iload_n (pc' := 84) rfl rfl rfl ?_
    refine x_iload (pc' := 86) rfl rfl rfl ?_
    refine x_iload (pc' := 88) rfl rfl rfl ?_
    refine x_cv (ls0 := [_, _, _, _, _, _, sJk]) (rest := []) rfl rfl rfl rfl rfl ?_
    exact k0 q1
  · refine x_iconst (pc' := 74) rfl rfl ?_
    refine x_reti rfl rfl ?_
    exact k1 q1
set_option maxHeartbeats 4000000 in
set_option maxRecDepth 10000 in
theorem n96_27 {t : sT} {Q : sRs → sT → Prop} {M : sM} {n : Nat} {T : Nat} {L0 : List Nat} {A : Nat} {B : Nat} {m : Nat} {b : Nat} {s : Bool} {p : Int32} {a : Int32} {h : Int32} {o : Nat}
    (hW : Wc t M n T L0 A B)
    (hm : m < 6)
    (hb : b < 5)
    (ho : o < n)
    (k0 : Q (.inl (some (.inl (io o)))) (sIw (sIw t 518 o h) 522 o 0)) :
    X 96 91 [.inr (.inr (11, (some 0))), .inl (io m), .inl (io b), .inl (bz s), .inl p, .inl a, .inl h, .inr (.inr (7, (some m))), .inr (.inr (1, (some b))), sJk] [.inr (.inr (8, (some o)))] t Q := by
  obtain ⟨hM, hc, hR, hC, hL, hL9⟩ := hW
  refine x_astore (pc' := 93) (ls' := [_, _, _, _, _, _, _, _, _, _]) rfl rfl rfl rfl rfl ?_
  refine x_aload (pc' := 95) rfl rfl rfl rfl rfl ?_
  refine x_iload (pc' := 97) rfl rfl rfl ?_
  refine x_pI (pc' := 100) rfl rfl rfl ?_
  refine x_aload (pc' := 102) rfl rfl rfl rfl rfl ?_
  refine x_iconst (pc' := 103) rfl rfl ?_
  refine x_pI (pc' := 106) rfl rfl rfl ?_
  refine x_aload (pc' := 108) rfl rfl rfl rfl rfl ?_
  refine x_gI (pc' := 111) (x := (io o)) rfl rfl rfl (Eq.trans (b := sI t 512 o) rfl (Sf_512 hc ho)) ?_
  refine x_reti rfl rfl ?_
  exact k0
set_option maxHeartbeats 4000000 in
set_option maxRecDepth 10000 in
theorem n97_139 {t : sT} {Q : sRs → sT → Prop} {M : sM} {n : Nat} {T : Nat} {L0 : List Nat} {A : Nat} {B : Nat} {m : Nat} {b : Nat} {p : Int32} {u : Int32} {a : Int32} {z : Bool}
    (hW : Wc t M n T L0 A B)
    (hm : m < 6)
    (hb : b < 5)
    (k0 : z = false → X 32 0 [.inr (.inr (4, (some 0))), .inr (.inr (7, (some m))), .inr (.inr (1, (some b))), sJk, sJk, sJk] [] t (sK 32 97 92 [.inr (.inr (11, (some 0))), .inl (io m), .inl (io b), .inl p, .inl u, .inl a, .inr (.inr (7, (some m))), .inr (.inr (1, (some b))), sJk, sJk] [] Q))
    (k1 : z = true → Q (.inl (some (.inl (-1)))) t) :
    X 97 79 [.inr (.inr (11, (some 0))), .inl (io m), .inl (io b), .inl p, .inl u, .inl a, .inr (.inr (7, (some m))), .inr (.inr (1, (some b))), sJk, sJk] [.inl (bz z)] t Q := by
  obtain ⟨hM, hc, hR, hC, hL, hL9⟩ := hW
  refine x_ifeq_z (a' := 84) (pc' := 82) (z := z) rfl rfl rfl (fun q1 => ?_) (fun q1 => ?_)
  · refine x_aload_n (pc' := 85) rfl rfl rfl rfl rfl ?_
    refine x_gR (pc' := 88) (r := (some 0)) rfl rfl rfl (kR_705_0 hc.1) ?_
    refine x_aload (pc' := 90) rfl rfl rfl rfl rfl ?_
    refine x_aload (pc' := 92) rfl rfl rfl rfl rfl ?_
    refine x_cv (ls0 := [_, _, _, sJk, sJk, sJk]) (rest := []) rfl rfl rfl rfl rfl ?_
    exact k0 q1
  · refine x_iconst (pc' := 83) rfl rfl ?_
    refine x_reti rfl rfl ?_
    exact k1 q1
set_option maxHeartbeats 4000000 in
set_option maxRecDepth 10000 in
theorem n97_32 {t : sT} {Q : sRs → sT → Prop} {M : sM} {n : Nat} {T : Nat} {L0 : List Nat} {A : Nat} {B : Nat} {m : Nat} {b : Nat} {p : Int32} {u : Int32} {a : Int32}
    (hW : Wc t M n T L0 A B)
    (hm : m < 6)
    (hb : b < 5)
    (k0 : X 52 0 [.inr (.inr (5, (some 0))), sJk, sJk, sJk, sJk] [] t (sK 52 97 99 [.inr (.inr (11, (some 0))), .inl (io m), .inl (io b), .inl p, .inl u, .inl a, .inr (.inr (7, (some m))), .inr (.inr (1, (some b))), sJk, sJk] [] Q)) :
    X 97 95 [.inr (.inr (11, (some 0))), .inl (io m), .inl (io b), .inl p, .inl u, .inl a, .inr (.inr (7, (some m))), .inr (.inr (1, (some b))), sJk, sJk] [] t Q := by
  obtain ⟨hM, hc, hR, hC, hL, hL9⟩ := hW
  refine x_aload_n (pc' := 96) rfl rfl rfl rfl rfl ?_
  refine x_gR (pc' := 99) (r := (some 0)) rfl rfl rfl (kR_704_0 hc.1) ?_
  refine x_cv (ls0 := [_, sJk, sJk, sJk, sJk]) (rest := []) rfl rfl rfl rfl rfl ?_
  exact k0
set_option maxHeartbeats 4000000 in
set_option maxRecDepth 10000 in
theorem n97_52 {t : sT} {Q : sRs → sT → Prop} {M : sM} {n : Nat} {T : Nat} {L0 : List Nat} {A : Nat} {B : Nat} {m : Nat} {b : Nat} {p : Int32} {u : Int32} {a : Int32}
    (hW : Wc t M n T L0 A B)
    (hm : m < 6)
    (hb : b < 5)
    (k0 : X 27 0 [.inr (.inr (4, (some 0))), .inr (.inr (7, (some m))), .inr (.inr (1, (some b))), .inl 1, .inl p, .inl a, sJk] [] t (sK 27 97 114 [.inr (.inr (11, (some 0))), .inl (io m), .inl (io b), .inl p, .inl u, .inl a, .inr (.inr (7, (some m))), .inr (.inr (1, (some b))), sJk, sJk] [] Q)) :
    X 97 102 [.inr (.inr (11, (some 0))), .inl (io m), .inl (io b), .inl p, .inl u, .inl a, .inr (.inr (7, (some m))), .inr (.inr (1, (some b))), sJk, sJk] [] t Q := by
  obtain ⟨hM, hc, hR, hC, hL, hL9⟩ := hW
  refine x_aload_n (pc' := 103) rfl rfl rfl rfl rfl ?_
  refine x_gR (pc' := 106) (r := (some 0)) rfl rfl rfl (kR_705_0 hc.1) ?_
  refine x_aload (pc' := 108) rfl rfl rfl rfl rfl ?_
  refine x_aload (pc' := 110) rfl rfl rfl rfl rfl ?_
  refine x_iconst (pc' := 111) rfl rfl ?_
  refine x_iload_n (pc' := 112) rfl rfl rfl ?_
  refine x_iload (pc' := 114) rfl rfl rfl ?_
  refine x_cv (ls0 := [_, _, _, _, _, _, sJk]) (rest := []) rfl rfl rfl rfl rfl ?_
  exact k0
set_option maxHeartbeats 4000000 in
set_option maxRecDepth 10000 in
theorem n97_27 {t : sT} {Q : sRs → sT → Prop} {M : sM} {n : Nat} {T : Nat} {L0 : List Nat} {A : Nat} {B : Nat} {m : Nat} {b : Nat} {p : Int32} {u : Int32} {a : Int32} {o : Nat}
    (hW : Wc t M n T L0 A B)
    (hm : m < 6)
    (hb : b < 5)
    (ho : o < n)
    (k0 : X 140 0 [.inr (.inr (11, (some 0))), .inr (.inr (8, (some o))), sJk, sJk] [] (sZw t 520 o true) (sK 140 97 128 [.inr (.inr (11, (some 0))), .inl (io m), .inl (io b), .inl p, .inl u, .inl a, .inr (.inr (7, (some m))), .inr (.inr (1, (some b))), .inr (.inr (8, (some o))), sJk] [] Q)) :
    X 97 117 [.inr (.inr (11, (some 0))), .inl (io m), .inl (io b), .inl p, .inl u, .inl a, .inr (.inr (7, (some m))), .inr (.inr (1, (some b))), sJk, sJk] [.inr (.inr (8, (some o)))] t Q := by
  obtain ⟨hM, hc, hR, hC, hL, hL9⟩ := hW
  refine x_astore (pc' := 119) (ls' := [_, _, _, _, _, _, _, _, _, _]) rfl rfl rfl rfl rfl ?_
  refine x_aload (pc' := 121) rfl rfl rfl rfl rfl ?_
  refine x_iconst (pc' := 122) rfl rfl ?_
  refine x_pZ (pc' := 125) (z := true) rfl rfl rfl rfl ?_
  refine x_aload_n (pc' := 126) rfl rfl rfl rfl rfl ?_
  refine x_aload (pc' := 128) rfl rfl rfl rfl rfl ?_
  refine x_cv (ls0 := [_, _, sJk, sJk]) (rest := []) rfl rfl rfl rfl rfl ?_
  exact k0
set_option maxHeartbeats 4000000 in
set_option maxRecDepth 10000 in
theorem n97_140 {t : sT} {Q : sRs → sT → Prop} {M : sM} {n : Nat} {T : Nat} {L0 : List Nat} {A : Nat} {B : Nat} {m : Nat} {b : Nat} {p : Int32} {u : Int32} {a : Int32} {o : Nat}
    (hW : Wc t M n T L0 A B)
    (hm : m < 6)
    (hb : b < 5)
    (ho : o < n)
    (k0 : X 27 0 [.inr (.inr (4, (some 0))), .inr (.inr (7, (some m))), .inr (.inr (1, (some b))), .inl 0, .inl u, .inl a, sJk] [] t (sK 27 97 144 [.inr (.inr (11, (some 0))), .inl (io m), .inl (io b), .inl p, .inl u, .inl a, .inr (.inr (7, (some m))), .inr (.inr (1, (some b))), .inr (.inr (8, (some o))), sJk] [] Q)) :
    X 97 131 [.inr (.inr (11, (some 0))), .inl (io m), .inl (io b), .inl p, .inl u, .inl a, .inr (.inr (7, (some m))), .inr (.inr (1, (some b))), .inr (.inr (8, (some o))), sJk] [] t Q := by
  obtain ⟨hM, hc, hR, hC, hL, hL9⟩ := hW
  refine x_aload_n (pc' := 132) rfl rfl rfl rfl rfl ?_
  refine x_gR (pc' := 135) (r := (some 0)) rfl rfl rfl (kR_705_0 hc.1) ?_
  refine x_aload (pc' := 137) rfl rfl rfl rfl rfl ?_
  refine x_aload (pc' := 139) rfl rfl rfl rfl rfl ?_
  refine x_iconst (pc' := 140) rfl rfl ?_
  refine x_iload (pc' := 142) rfl rfl rfl ?_
  refine x_iload (pc' := 144) rfl rfl rfl ?_
  refine x_cv (ls0 := [_, _, _, _, _, _, sJk]) (rest := []) rfl rfl rfl rfl rfl ?_
  exact k0
set_option maxHeartbeats 4000000 in
set_option maxRecDepth 10000 in
theorem n97_27b {t : sT} {Q : sRs → sT → Prop} {M : sM} {n : Nat} {T : Nat} {L0 : List Nat} {A : Nat} {B : Nat} {m : Nat} {b : Nat} {p : Int32} {u : Int32} {a : Int32} {o : Nat} {x : Nat}
    (hW : Wc t M n T L0 A B)
    (hm : m < 6)
    (hb : b < 5)
    (ho : o < n)
    (hx : x < n)
    (k0 : X 140 0 [.inr (.inr (11, (some 0))), .inr (.inr (8, (some x))), sJk, sJk] [] (sZw t 520 x true) (sK 140 97 158 [.inr (.inr (11, (some 0))), .inl (io m), .inl (io b), .inl p, .inl u, .inl a, .inr (.inr (7, (some m))), .inr (.inr (1, (some b))), .inr (.inr (8, (some o))), .inr (.inr (8, (some x)))] [] Q)) :
    X 97 147 [.inr (.inr (11, (some 0))), .inl (io m), .inl (io b), .inl p, .inl u, .inl a, .inr (.inr (7, (some m))), .inr (.inr (1, (some b))), .inr (.inr (8, (some o))), sJk] [.inr (.inr (8, (some x)))] t Q := by
  obtain ⟨hM, hc, hR, hC, hL, hL9⟩ := hW
  refine x_astore (pc' := 149) (ls' := [_, _, _, _, _, _, _, _, _, _]) rfl rfl rfl rfl rfl ?_
  refine x_aload (pc' := 151) rfl rfl rfl rfl rfl ?_
  refine x_iconst (pc' := 152) rfl rfl ?_
  refine x_pZ (pc' := 155) (z := true) rfl rfl rfl rfl ?_
  refine x_aload_n (pc' := 156) rfl rfl rfl rfl rfl ?_
  refine x_aload (pc' := 158) rfl rfl rfl rfl rfl ?_
  refine x_cv (ls0 := [_, _, sJk, sJk]) (rest := []) rfl rfl rfl rfl rfl ?_
  exact k0
set_option maxHeartbeats 4000000 in
set_option maxRecDepth 10000 in
theorem n97_140b {t : sT} {Q : sRs → sT → Prop} {M : sM} {n : Nat} {T : Nat} {L0 : List Nat} {A : Nat} {B : Nat} {m : Nat} {b : Nat} {p : Int32} {u : Int32} {a : Int32} {o : Nat} {x : Nat}
    (hW : Wc t M n T L0 A B)
    (hm : m < 6)
    (hb : b < 5)
    (ho : o < n)
    (hx : x < n)
    (k0 : Q (.inl (some (.inl (io o)))) t) :
    X 97 161 [.inr (.inr (11, (some 0))), .inl (io m), .inl (io b), .inl p, .inl u, .inl a, .inr (.inr (7, (some m))), .inr (.inr (1, (some b))), .inr (.inr (8, (some o))), .inr (.inr (8, (some x)))] [] t Q := by
  obtain ⟨hM, hc, hR, hC, hL, hL9⟩ := hW
  refine x_aload (pc' := 163) rfl rfl rfl rfl rfl ?_
  refine x_gI (pc' := 166) (x := (io o)) rfl rfl rfl (Sf_512 hc ho) ?_
  refine x_reti rfl rfl ?_
  exact k0
set_option maxHeartbeats 4000000 in
set_option maxRecDepth 10000 in
theorem n138 {t : sT} {Q : sRs → sT → Prop} {M : sM} {n : Nat} {T : Nat} {L0 : List Nat} {A : Nat} {B : Nat} {m : Nat} {b : Nat} {s : Bool} {a : Int32}
    (hW : Wc t M n T L0 A B)
    (hm : m < 6)
    (hb : b < 5)
    (k0 : X 39 0 [.inr (.inr (4, (some 0))), .inr (.inr (7, (some m))), .inr (.inr (1, none)), sJk, sJk, sJk, sJk] [] t (sK 39 138 6 [.inr (.inr (11, (some 0))), .inr (.inr (7, (some m))), .inr (.inr (1, (some b))), .inl (bz s), .inl a, sJk] [] Q)) :
    X 138 0 [.inr (.inr (11, (some 0))), .inr (.inr (7, (some m))), .inr (.inr (1, (some b))), .inl (bz s), .inl a, sJk] [] t Q := by
  obtain ⟨hM, hc, hR, hC, hL, hL9⟩ := hW
  refine x_aload_n (pc' := 1) rfl rfl rfl rfl rfl ?_
  refine x_gR (pc' := 4) (r := (some 0)) rfl rfl rfl (kR_705_0 hc.1) ?_
  refine x_aload_n (pc' := 5) rfl rfl rfl rfl rfl ?_
  refine x_null (pc' := 6) rfl rfl rfl ?_
  refine x_cv (ls0 := [_, _, _, sJk, sJk, sJk, sJk]) (rest := []) rfl rfl rfl rfl rfl ?_
  exact k0
set_option maxHeartbeats 4000000 in
set_option maxRecDepth 10000 in
theorem n138_39 {t : sT} {Q : sRs → sT → Prop} {M : sM} {n : Nat} {T : Nat} {L0 : List Nat} {A : Nat} {B : Nat} {m : Nat} {b : Nat} {s : Bool} {a : Int32} {c : Nat}
    (hW : Wc t M n T L0 A B)
    (hm : m < 6)
    (hb : b < 5)
    (k0 : X 40 0 [.inr (.inr (20, (some c))), .inr (.inr (1, (some b))), .inl (bz s), .inl a] [] t (sK 40 138 17 [.inr (.inr (11, (some 0))), .inr (.inr (7, (some m))), .inr (.inr (1, (some b))), .inl (bz s), .inl a, .inr (.inr (20, (some c)))] [] Q)) :
    X 138 9 [.inr (.inr (11, (some 0))), .inr (.inr (7, (some m))), .inr (.inr (1, (some b))), .inl (bz s), .inl a, sJk] [.inr (.inr (20, (some c)))] t Q := by
  obtain ⟨hM, hc, hR, hC, hL, hL9⟩ := hW
  refine x_astore (pc' := 11) (ls' := [_, _, _, _, _, _]) rfl rfl rfl rfl rfl ?_
  refine x_aload (pc' := 13) rfl rfl rfl rfl rfl ?_
  refine x_aload_n (pc' := 14) rfl rfl rfl rfl rfl ?_
  refine x_iload_n (pc' := 15) rfl rfl rfl ?_
  refine x_iload (pc' := 17) rfl rfl rfl ?_
  refine x_cs (ls0 := [_, _, _, _]) (rest := []) rfl rfl rfl rfl ?_
  exact k0
set_option maxHeartbeats 4000000 in
set_option maxRecDepth 10000 in
theorem n138_40 {t : sT} {Q : sRs → sT → Prop} {M : sM} {n : Nat} {T : Nat} {L0 : List Nat} {A : Nat} {B : Nat} {m : Nat} {b : Nat} {s : Bool} {a : Int32} {c : Nat}
    (hW : Wc t M n T L0 A B)
    (hm : m < 6)
    (hb : b < 5)
    (k0 : X 51 0 [.inr (.inr (5, (some 0))), .inr (.inr (7, (some m))), .inr (.inr (20, (some c))), sJk, sJk, sJk, sJk, sJk, sJk] [] t (sK 51 138 27 [.inr (.inr (11, (some 0))), .inr (.inr (7, (some m))), .inr (.inr (1, (some b))), .inl (bz s), .inl a, .inr (.inr (20, (some c)))] [] Q)) :
    X 138 20 [.inr (.inr (11, (some 0))), .inr (.inr (7, (some m))), .inr (.inr (1, (some b))), .inl (bz s), .inl a, .inr (.inr (20, (some c)))] [] t Q := by
  obtain ⟨hM, hc, hR, hC, hL, hL9⟩ := hW
  refine x_aload_n (pc' := 21) rfl rfl rfl rfl rfl ?_
  refine x_gR (pc' := 24) (r := (some 0)) rfl rfl rfl (kR_704_0 hc.1) ?_
  refine x_aload_n (pc' := 25) rfl rfl rfl rfl rfl ?_
  refine x_aload (pc' := 27) rfl rfl rfl rfl rfl ?_
  refine x_cv (ls0 := [_, _, _, sJk, sJk, sJk, sJk, sJk, sJk]) (rest := []) rfl rfl rfl rfl rfl ?_
  exact k0
set_option maxHeartbeats 4000000 in
set_option maxRecDepth 10000 in
theorem n138_51 {t : sT} {Q : sRs → sT → Prop} {M : sM} {n : Nat} {T : Nat} {L0 : List Nat} {A : Nat} {B : Nat} {m : Nat} {b : Nat} {s : Bool} {a : Int32} {c : Nat} {h : Int32}
    (hW : Wc t M n T L0 A B)
    (hm : m < 6)
    (hb : b < 5)
    (k0 : ¬ ((cfdF M n m) < h) → Q (.inl (some (.inl (bz false)))) t)
    (k1 : (cfdF M n m) < h → Q (.inl (some (.inl (bz true)))) t) :
    X 138 30 [.inr (.inr (11, (some 0))), .inr (.inr (7, (some m))), .inr (.inr (1, (some b))), .inl (bz s), .inl a, .inr (.inr (20, (some c)))] [.inl h] t Q := by
  obtain ⟨hM, hc, hR, hC, hL, hL9⟩ := hW
  refine x_aload_n (pc' := 31) rfl rfl rfl rfl rfl ?_
  refine x_gR (pc' := 34) (r := (some 0)) rfl rfl rfl (kR_704_0 hc.1) ?_
  refine x_aload_n (pc' := 35) rfl rfl rfl rfl rfl ?_
  refine x_cv (ls0 := [_, _, sJk, sJk, sJk, sJk, sJk]) (rest := [_]) rfl rfl rfl rfl rfl ?_
  refine c49 hM hc (Fr.ri (Fr.refl _) hR) hm ?_
  refine sK_i (pc' := 38) rfl ?_
  refine x_icmp_n (a' := 45) (pc' := 41) (z := decide ((cfdF M n m) < h)) rfl rfl rfl (ik_le _ _) (fun q1 => ?_) (fun q1 => ?_)
  · refine x_iconst (pc' := 46) rfl rfl ?_
    refine x_retz (z := false) rfl rfl ?_
    exact k0 (of_decide_eq_false q1)
  · refine x_iconst (pc' := 42) rfl rfl ?_
    refine x_goto (pc' := 46) rfl rfl ?_
    refine x_retz (z := true) rfl rfl ?_
    exact k1 (of_decide_eq_true q1)
set_option maxHeartbeats 4000000 in
set_option maxRecDepth 10000 in
theorem n139 {t : sT} {Q : sRs → sT → Prop} {M : sM} {n : Nat} {T : Nat} {L0 : List Nat} {A : Nat} {B : Nat} {m : Nat} {b : Nat} {a : Int32}
    (hW : Wc t M n T L0 A B)
    (hm : m < 6)
    (hb : b < 5)
    (k0 : X 39 0 [.inr (.inr (4, (some 0))), .inr (.inr (7, (some m))), .inr (.inr (1, (some b))), sJk, sJk, sJk, sJk] [] t (sK 39 139 6 [.inr (.inr (11, (some 0))), .inr (.inr (7, (some m))), .inr (.inr (1, (some b))), .inl a, sJk] [] Q)) :
    X 139 0 [.inr (.inr (11, (some 0))), .inr (.inr (7, (some m))), .inr (.inr (1, (some b))), .inl a, sJk] [] t Q := by
  obtain ⟨hM, hc, hR, hC, hL, hL9⟩ := hW
  refine x_aload_n (pc' := 1) rfl rfl rfl rfl rfl ?_
  refine x_gR (pc' := 4) (r := (some 0)) rfl rfl rfl (kR_705_0 hc.1) ?_
  refine x_aload_n (pc' := 5) rfl rfl rfl rfl rfl ?_
  refine x_aload_n (pc' := 6) rfl rfl rfl rfl rfl ?_
  refine x_cv (ls0 := [_, _, _, sJk, sJk, sJk, sJk]) (rest := []) rfl rfl rfl rfl rfl ?_
  exact k0
set_option maxHeartbeats 4000000 in
set_option maxRecDepth 10000 in
theorem n139_39 {t : sT} {Q : sRs → sT → Prop} {M : sM} {n : Nat} {T : Nat} {L0 : List Nat} {A : Nat} {B : Nat} {m : Nat} {b : Nat} {a : Int32} {c : Nat}
    (hW : Wc t M n T L0 A B)
    (hm : m < 6)
    (hb : b < 5)
    (k0 : X 40 0 [.inr (.inr (20, (some c))), .inr (.inr (1, (some b))), .inl 1, .inl a] [] t (sK 40 139 16 [.inr (.inr (11, (some 0))), .inr (.inr (7, (some m))), .inr (.inr (1, (some b))), .inl a, .inr (.inr (20, (some c)))] [] Q)) :
    X 139 9 [.inr (.inr (11, (some 0))), .inr (.inr (7, (some m))), .inr (.inr (1, (some b))), .inl a, sJk] [.inr (.inr (20, (some c)))] t Q := by
  obtain ⟨hM, hc, hR, hC, hL, hL9⟩ := hW
  refine x_astore (pc' := 11) (ls' := [_, _, _, _, _]) rfl rfl rfl rfl rfl ?_
  refine x_aload (pc' := 13) rfl rfl rfl rfl rfl ?_
  refine x_aload_n (pc' := 14) rfl rfl rfl rfl rfl ?_
  refine x_iconst (pc' := 15) rfl rfl ?_
  refine x_iload_n (pc' := 16) rfl rfl rfl ?_
  refine x_cs (ls0 := [_, _, _, _]) (rest := []) rfl rfl rfl rfl ?_
  exact k0
set_option maxHeartbeats 4000000 in
set_option maxRecDepth 10000 in
theorem n139_40 {t : sT} {Q : sRs → sT → Prop} {M : sM} {n : Nat} {T : Nat} {L0 : List Nat} {A : Nat} {B : Nat} {m : Nat} {b : Nat} {a : Int32} {c : Nat}
    (hW : Wc t M n T L0 A B)
    (hm : m < 6)
    (hb : b < 5)
    (k0 : X 40 0 [.inr (.inr (20, (some c))), .inr (.inr (1, (some b))), .inl 0, .inl a] [] t (sK 40 139 24 [.inr (.inr (11, (some 0))), .inr (.inr (7, (some m))), .inr (.inr (1, (some b))), .inl a, .inr (.inr (20, (some c)))] [] Q)) :
    X 139 19 [.inr (.inr (11, (some 0))), .inr (.inr (7, (some m))), .inr (.inr (1, (some b))), .inl a, .inr (.inr (20, (some c)))] [] t Q := by
  obtain ⟨hM, hc, hR, hC, hL, hL9⟩ := hW
  refine x_aload (pc' := 21) rfl rfl rfl rfl rfl ?_
  refine x_aload_n (pc' := 22) rfl rfl rfl rfl rfl ?_
  refine x_iconst (pc' := 23) rfl rfl ?_
  refine x_iload_n (pc' := 24) rfl rfl rfl ?_
  refine x_cs (ls0 := [_, _, _, _]) (rest := []) rfl rfl rfl rfl ?_
  exact k0
set_option maxHeartbeats 4000000 in
set_option maxRecDepth 10000 in
theorem n139_40b {t : sT} {Q : sRs → sT → Prop} {M : sM} {n : Nat} {T : Nat} {L0 : List Nat} {A : Nat} {B : Nat} {m : Nat} {b : Nat} {a : Int32} {c : Nat}
    (hW : Wc t M n T L0 A B)
    (hm : m < 6)
    (hb : b < 5)
    (k0 : X 51 0 [.inr (.inr (5, (some 0))), .inr (.inr (7, (some m))), .inr (.inr (20, (some c))), sJk, sJk, sJk, sJk, sJk, sJk] [] t (sK 51 139 34 [.inr (.inr (11, (some 0))), .inr (.inr (7, (some m))), .inr (.inr (1, (some b))), .inl a, .inr (.inr (20, (some c)))] [] Q)) :
    X 139 27 [.inr (.inr (11, (some 0))), .inr (.inr (7, (some m))), .inr (.inr (1, (some b))), .inl a, .inr (.inr (20, (some c)))] [] t Q := by
  obtain ⟨hM, hc, hR, hC, hL, hL9⟩ := hW
  refine x_aload_n (pc' := 28) rfl rfl rfl rfl rfl ?_
  refine x_gR (pc' := 31) (r := (some 0)) rfl rfl rfl (kR_704_0 hc.1) ?_
  refine x_aload_n (pc' := 32) rfl rfl rfl rfl rfl ?_
  refine x_aload (pc' := 34) rfl rfl rfl rfl rfl ?_
  refine x_cv (ls0 := [_, _, _, sJk, sJk, sJk, sJk, sJk, sJk]) (rest := []) rfl rfl rfl rfl rfl ?_
  exact k0
set_option maxHeartbeats 4000000 in
set_option maxRecDepth 10000 in
theorem n139_51 {t : sT} {Q : sRs → sT → Prop} {M : sM} {n : Nat} {T : Nat} {L0 : List Nat} {A : Nat} {B : Nat} {m : Nat} {b : Nat} {a : Int32} {c : Nat} {h : Int32}
    (hW : Wc t M n T L0 A B)
    (hm : m < 6)
    (hb : b < 5)
    (k0 : ¬ ((cfdF M n m) < h) → Q (.inl (some (.inl (bz false)))) t)
    (k1 : (cfdF M n m) < h → Q (.inl (some (.inl (bz true)))) t) :
    X 139 37 [.inr (.inr (11, (some 0))), .inr (.inr (7, (some m))), .inr (.inr (1, (some b))), .inl a, .inr (.inr (20, (some c)))] [.inl h] t Q := by
  obtain ⟨hM, hc, hR, hC, hL, hL9⟩ := hW
  refine x_aload_n (pc' := 38) rfl rfl rfl rfl rfl ?_
  refine x_gR (pc' := 41) (r := (some 0)) rfl rfl rfl (kR_704_0 hc.1) ?_
  refine x_aload_n (pc' := 42) rfl rfl rfl rfl rfl ?_
  refine x_cv (ls0 := [_, _, sJk, sJk, sJk, sJk, sJk]) (rest := [_]) rfl rfl rfl rfl rfl ?_
  refine c49 hM hc (Fr.ri (Fr.refl _) hR) hm ?_
  refine sK_i (pc' := 45) rfl ?_
  refine x_icmp_n (a' := 52) (pc' := 48) (z := decide ((cfdF M n m) < h)) rfl rfl rfl (ik_le _ _) (fun q1 => ?_) (fun q1 => ?_)
  · refine x_iconst (pc' := 53) rfl rfl ?_
    refine x_retz (z := false) rfl rfl ?_
    exact k0 (of_decide_eq_false q1)
  · refine x_iconst (pc' := 49) rfl rfl ?_
    refine x_goto (pc' := 53) rfl rfl ?_
    refine x_retz (z := true) rfl rfl ?_
    exact k1 (of_decide_eq_true q1)
