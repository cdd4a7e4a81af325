/-! the class's methods (printed by clsgen.py) -/
set_option maxHeartbeats 4000000 in
set_option maxRecDepth 10000 in
theorem n11_21 {t : sT} {Q : sRs → sT → Prop} {M : sM} {n : Nat} {T : Nat} {b : Nat} {o : Nat} {p : Option Nat} {a : Option Nat}
    (hM : Rl t M n T)
    (hc : Sf t M n T)
    (hR : Ri M n)
    (ho : o < n)
    (hb : b < 5)
    (k0 : a = none → ∀ j1, a = some j1 → p = none → (mB M 3 o) = false → Q (.inl none) (sRw (sRw t 70 b (sR t 529 j1)) 529 j1 none))
    (k1 : a = none → ∀ j1, a = some j1 → p = none → (mB M 3 o) = true → Q (.inl none) (sRw (sRw t 69 b (sR t 529 j1)) 529 j1 none))
    (k2 : a = none → ∀ j1, a = some j1 → ∀ j2, p = some j2 → Q (.inl none) (sRw (sRw t 529 j2 (sR t 529 j1)) 529 j1 none))
    (k3 : a = none → a = none → Q (.inl none) t)
    (k4 : ∀ j0, a = some j0 → j0 = o → p = none → (mB M 3 o) = false → Q (.inl none) (sRw (sRw t 70 b (sR t 529 j0)) 529 j0 none))
    (k5 : ∀ j0, a = some j0 → j0 = o → p = none → (mB M 3 o) = true → Q (.inl none) (sRw (sRw t 69 b (sR t 529 j0)) 529 j0 none))
    (k6 : ∀ j0, a = some j0 → j0 = o → ∀ j3, p = some j3 → Q (.inl none) (sRw (sRw t 529 j3 (sR t 529 j0)) 529 j0 none))
    (k7 : ∀ j0, a = some j0 → ¬ (j0 = o) → X 11 21 [.inr (.inr (1, (some b))), .inr (.inr (8, (some o))), .inr (.inr (8, (some j0))), .inr (.inr (8, (sR t 529 j0)))] [] t Q) :
    X 11 21 [.inr (.inr (1, (some b))), .inr (.inr (8, (some o))), .inr (.inr (8, p)), .inr (.inr (8, a))] [] t Q := by
  refine x_aload_n (pc' := 22) rfl rfl rfl rfl rfl ?_
  refine x_ifnull (a' := 40) (pc' := 25) rfl rfl rfl rfl (fun q1 => ?_) (fun j0 q1 => ?_)
  · refine x_aload_n (pc' := 41) rfl rfl rfl rfl rfl ?_
    refine x_ifnonnull (a' := 45) (pc' := 44) rfl rfl rfl rfl (fun j1 q2 => ?_) (fun q2 => ?_)
    · refine x_aload_n (pc' := 46) rfl rfl rfl rfl rfl ?_
      refine x_ifnull (a' := 60) (pc' := 49) rfl rfl rfl rfl (fun q3 => ?_) (fun j2 q3 => ?_)
      · refine x_aload_n (pc' := 61) rfl rfl rfl rfl rfl ?_
        refine x_gZ (pc' := 64) (z := (mB M 3 o)) rfl rfl rfl ((kZ hM rfl ho).trans (congrFun (Fc.f3 (Fc.refl _)) _)) ?_
        refine x_ifeq_z (a' := 78) (pc' := 67) (z := (mB M 3 o)) rfl rfl rfl (fun q4 => ?_) (fun q4 => ?_)
        · refine x_aload_n (pc' := 79) rfl rfl rfl rfl rfl ?_
          refine x_aload_n (pc' := 80) rfl rfl rfl rfl q2 ?_
          refine x_gR (pc' := 83) (r := (sR t 529 j1)) rfl rfl rfl rfl ?_
          refine x_pR (pc' := 86) rfl rfl rfl ?_
          refine x_aload_n (pc' := 87) rfl rfl rfl rfl q2 ?_
          refine x_null (pc' := 88) rfl rfl rfl ?_
          refine x_pR (pc' := 91) rfl rfl rfl ?_
          refine x_ret rfl ?_
          exact k0 q1 j1 q2 q3 q4
        · refine x_aload_n (pc' := 68) rfl rfl rfl rfl rfl ?_
          refine x_aload_n (pc' := 69) rfl rfl rfl rfl q2 ?_
          refine x_gR (pc' := 72) (r := (sR t 529 j1)) rfl rfl rfl rfl ?_
          refine x_pR (pc' := 75) rfl rfl rfl ?_
          refine x_goto (pc' := 86) rfl rfl ?_
          refine x_aload_n (pc' := 87) rfl rfl rfl rfl q2 ?_
          refine x_null (pc' := 88) rfl rfl rfl ?_
          refine x_pR (pc' := 91) rfl rfl rfl ?_
          refine x_ret rfl ?_
          exact k1 q1 j1 q2 q3 q4
      · refine x_aload_n (pc' := 50) rfl rfl rfl rfl q3 ?_
        refine x_aload_n (pc' := 51) rfl rfl rfl rfl q2 ?_
        refine x_gR (pc' := 54) (r := (sR t 529 j1)) rfl rfl rfl rfl ?_
        refine x_pR (pc' := 57) rfl rfl rfl ?_
        refine x_goto (pc' := 86) rfl rfl ?_
        refine x_aload_n (pc' := 87) rfl rfl rfl rfl q2 ?_
        refine x_null (pc' := 88) rfl rfl rfl ?_
        refine x_pR (pc' := 91) rfl rfl rfl ?_
        refine x_ret rfl ?_
        exact k2 q1 j1 q2 j2 q3
    · refine x_ret rfl ?_
      exact k3 q1 q2
  · refine x_aload_n (pc' := 26) rfl rfl rfl rfl q1 ?_
    refine x_aload_n (pc' := 27) rfl rfl rfl rfl rfl ?_
    refine x_acmp_eq (a' := 40) (pc' := 30) (z := decide (j0 = o)) rfl rfl rfl rfl dec_some (fun q5 => ?_) (fun q5 => ?_)
    · refine x_aload_n (pc' := 41) rfl rfl rfl rfl q1 ?_
      refine x_ifnonnull (a' := 45) (pc' := 44) rfl rfl rfl rfl (fun _ _ => ?_) (fun h => by cases h)
      refine x_aload_n (pc' := 46) rfl rfl rfl rfl rfl ?_
      refine x_ifnull (a' := 60) (pc' := 49) rfl rfl rfl rfl (fun q7 => ?_) (fun j3 q7 => ?_)
      · refine x_aload_n (pc' := 61) rfl rfl rfl rfl rfl ?_
        refine x_gZ (pc' := 64) (z := (mB M 3 o)) rfl rfl rfl ((kZ hM rfl ho).trans (congrFun (Fc.f3 (Fc.refl _)) _)) ?_
        refine x_ifeq_z (a' := 78) (pc' := 67) (z := (mB M 3 o)) rfl rfl rfl (fun q8 => ?_) (fun q8 => ?_)
        · refine x_aload_n (pc' := 79) rfl rfl rfl rfl rfl ?_
          refine x_aload_n (pc' := 80) rfl rfl rfl rfl q1 ?_
          refine x_gR (pc' := 83) (r := (sR t 529 j0)) rfl rfl rfl rfl ?_
          refine x_pR (pc' := 86) rfl rfl rfl ?_
          refine x_aload_n (pc' := 87) rfl rfl rfl rfl q1 ?_
          refine x_null (pc' := 88) rfl rfl rfl ?_
          refine x_pR (pc' := 91) rfl rfl rfl ?_
          refine x_ret rfl ?_
          exact k4 j0 q1 (of_decide_eq_true q5) q7 q8
        · refine x_aload_n (pc' := 68) rfl rfl rfl rfl rfl ?_
          refine x_aload_n (pc' := 69) rfl rfl rfl rfl q1 ?_
          refine x_gR (pc' := 72) (r := (sR t 529 j0)) rfl rfl rfl rfl ?_
          refine x_pR (pc' := 75) rfl rfl rfl ?_
          refine x_goto (pc' := 86) rfl rfl ?_
          refine x_aload_n (pc' := 87) rfl rfl rfl rfl q1 ?_
          refine x_null (pc' := 88) rfl rfl rfl ?_
          refine x_pR (pc' := 91) rfl rfl rfl ?_
          refine x_ret rfl ?_
          exact k5 j0 q1 (of_decide_eq_true q5) q7 q8
      · refine x_aload_n (pc' := 50) rfl rfl rfl rfl q7 ?_
        refine x_aload_n (pc' := 51) rfl rfl rfl rfl q1 ?_
        refine x_gR (pc' := 54) (r := (sR t 529 j0)) rfl rfl rfl rfl ?_
        refine x_pR (pc' := 57) rfl rfl rfl ?_
        refine x_goto (pc' := 86) rfl rfl ?_
        refine x_aload_n (pc' := 87) rfl rfl rfl rfl q1 ?_
        refine x_null (pc' := 88) rfl rfl rfl ?_
        refine x_pR (pc' := 91) rfl rfl rfl ?_
        refine x_ret rfl ?_
        exact k6 j0 q1 (of_decide_eq_true q5) j3 q7
    · refine x_aload_n (pc' := 31) rfl rfl rfl rfl q1 ?_
      refine x_astore_n (pc' := 32) (ls' := [_, _, _, _]) rfl rfl rfl rfl rfl ?_
      refine x_aload_n (pc' := 33) rfl rfl rfl rfl q1 ?_
      refine x_gR (pc' := 36) (r := (sR t 529 j0)) rfl rfl rfl rfl ?_
      refine x_astore_n (pc' := 37) (ls' := [_, _, _, _]) rfl rfl rfl rfl rfl ?_
      refine x_goto (pc' := 21) rfl rfl ?_
      exact k7 j0 q1 (of_decide_eq_false q5)
set_option maxHeartbeats 4000000 in
set_option maxRecDepth 10000 in
theorem n11_0 {t : sT} {Q : sRs → sT → Prop} {M : sM} {n : Nat} {T : Nat} {b : Nat} {o : Nat}
    (hM : Rl t M n T)
    (hc : Sf t M n T)
    (hR : Ri M n)
    (ho : o < n)
    (hb : b < 5)
    (k0 : X 11 21 [.inr (.inr (1, (some b))), .inr (.inr (8, (some o))), .inr (.inr (8, none)), .inr (.inr (8, (bif (mB M 3 o) then (sR t 69 b) else (sR t 70 b))))] [] t Q) :
    X 11 0 [.inr (.inr (1, (some b))), .inr (.inr (8, (some o))), sJk, sJk] [] t Q := by
  refine x_null (pc' := 1) rfl rfl rfl ?_
  refine x_astore_n (pc' := 2) (ls' := [_, _, _, _]) rfl rfl rfl rfl rfl ?_
  refine x_aload_n (pc' := 3) rfl rfl rfl rfl rfl ?_
  refine x_gZ (pc' := 6) (z := (mB M 3 o)) rfl rfl rfl ((kZ hM rfl ho).trans (congrFun (Fc.f3 (Fc.refl _)) _)) ?_
  have J1 : X 11 20 [.inr (.inr (1, (some b))), .inr (.inr (8, (some o))), .inr (.inr (8, none)), sJk] [.inr (.inr (8, (bif (mB M 3 o) then (sR t 69 b) else (sR t 70 b))))] t Q := by
    refine x_astore_n (pc' := 21) (ls' := [_, _, _, _]) rfl rfl rfl rfl rfl ?_
    exact k0
  refine x_ifeq_z (a' := 16) (pc' := 9) (z := (mB M 3 o)) rfl rfl rfl (fun q1 => ?_) (fun q1 => ?_)
  · refine x_aload_n (pc' := 17) rfl rfl rfl rfl rfl ?_
    refine x_gR (pc' := 20) (r := (sR t 70 b)) rfl rfl rfl rfl ?_
    ((try rw [q1] at J1); (try rw [q1]); (try simp only [cd_t, cd_f, nt_t, nt_f, an_t, an_f, or_t, or_f] at J1); (try simp only [cd_t, cd_f, nt_t, nt_f, an_t, an_f, or_t, or_f]); exact J1)
  · refine x_aload_n (pc' := 10) rfl rfl rfl rfl rfl ?_
    refine x_gR (pc' := 13) (r := (sR t 69 b)) rfl rfl rfl rfl ?_
    refine x_goto (pc' := 20) rfl rfl ?_
    ((try rw [q1] at J1); (try rw [q1]); (try simp only [cd_t, cd_f, nt_t, nt_f, an_t, an_f, or_t, or_f] at J1); (try simp only [cd_t, cd_f, nt_t, nt_f, an_t, an_f, or_t, or_f]); exact J1)
set_option maxHeartbeats 4000000 in
set_option maxRecDepth 10000 in
theorem n10_35 {t : sT} {Q : sRs → sT → Prop} {M : sM} {n : Nat} {T : Nat} {b : Nat} {o : Nat} {p : Option Nat} {a : Option Nat} {g : Int32}
    (hM : Rl t M n T)
    (hc : Sf t M n T)
    (hR : Ri M n)
    (ho : o < n)
    (hb : b < 5)
    (hba : ∀ j, a = some j → j < n)
    (k0 : a = none → p = none → (mB M 3 o) = false → Q (.inl none) (sRw (sRw t 529 o a) 70 b (some o)))
    (k1 : a = none → p = none → (mB M 3 o) = true → Q (.inl none) (sRw (sRw t 529 o a) 69 b (some o)))
    (k2 : a = none → ∀ j1, p = some j1 → Q (.inl none) (sRw (sRw t 529 o a) 529 j1 (some o)))
    (k3 : ∀ j0, a = some j0 → (g * (mA M 14 j0)) < (g * (mA M 14 o)) → p = none → (mB M 3 o) = false → Q (.inl none) (sRw (sRw t 529 o (some j0)) 70 b (some o)))
    (k4 : ∀ j0, a = some j0 → (g * (mA M 14 j0)) < (g * (mA M 14 o)) → p = none → (mB M 3 o) = true → Q (.inl none) (sRw (sRw t 529 o (some j0)) 69 b (some o)))
    (k5 : ∀ j0, a = some j0 → (g * (mA M 14 j0)) < (g * (mA M 14 o)) → ∀ j2, p = some j2 → Q (.inl none) (sRw (sRw t 529 o (some j0)) 529 j2 (some o)))
    (k6 : ∀ j0, a = some j0 → ¬ ((g * (mA M 14 j0)) < (g * (mA M 14 o))) → X 10 35 [.inr (.inr (1, (some b))), .inr (.inr (8, (some o))), .inr (.inr (8, (some j0))), .inr (.inr (8, (sR t 529 j0))), .inl g] [] t Q) :
    X 10 35 [.inr (.inr (1, (some b))), .inr (.inr (8, (some o))), .inr (.inr (8, p)), .inr (.inr (8, a)), .inl g] [] t Q := by
  refine x_aload_n (pc' := 36) rfl rfl rfl rfl rfl ?_
  refine x_ifnull (a' := 66) (pc' := 39) rfl rfl rfl rfl (fun q1 => ?_) (fun j0 q1 => ?_)
  · refine x_aload_n (pc' := 67) rfl rfl rfl rfl rfl ?_
    refine x_aload_n (pc' := 68) rfl rfl rfl rfl rfl ?_
    refine x_pR (pc' := 71) rfl rfl rfl ?_
    refine x_aload_n (pc' := 72) rfl rfl rfl rfl rfl ?_
    refine x_ifnull (a' := 83) (pc' := 75) rfl rfl rfl rfl (fun q2 => ?_) (fun j1 q2 => ?_)
    · refine x_aload_n (pc' := 84) rfl rfl rfl rfl rfl ?_
      refine x_gZ (pc' := 87) (z := (mB M 3 o)) rfl rfl rfl (Eq.trans (b := sZ t 515 o) rfl ((kZ hM rfl ho).trans (congrFun (Fc.f3 (Fc.refl _)) _))) ?_
      refine x_ifeq_z (a' := 98) (pc' := 90) (z := (mB M 3 o)) rfl rfl rfl (fun q3 => ?_) (fun q3 => ?_)
      · refine x_aload_n (pc' := 99) rfl rfl rfl rfl rfl ?_
        refine x_aload_n (pc' := 100) rfl rfl rfl rfl rfl ?_
        refine x_pR (pc' := 103) rfl rfl rfl ?_
        refine x_ret rfl ?_
        exact k0 q1 q2 q3
      · refine x_aload_n (pc' := 91) rfl rfl rfl rfl rfl ?_
        refine x_aload_n (pc' := 92) rfl rfl rfl rfl rfl ?_
        refine x_pR (pc' := 95) rfl rfl rfl ?_
        refine x_goto (pc' := 103) rfl rfl ?_
        refine x_ret rfl ?_
        exact k1 q1 q2 q3
    · refine x_aload_n (pc' := 76) rfl rfl rfl rfl q2 ?_
      refine x_aload_n (pc' := 77) rfl rfl rfl rfl rfl ?_
      refine x_pR (pc' := 80) rfl rfl rfl ?_
      refine x_goto (pc' := 103) rfl rfl ?_
      refine x_ret rfl ?_
      exact k2 q1 j1 q2
  · refine x_iload (pc' := 41) rfl rfl rfl ?_
    refine x_aload_n (pc' := 42) rfl rfl rfl rfl q1 ?_
    refine x_gI (pc' := 45) (x := (mA M 14 j0)) rfl rfl rfl ((kA hM rfl (hba _ q1)).trans (congrFun (Fc.f14 (Fc.refl _)) _)) ?_
    refine x_imul (pc' := 46) (z := (g * (mA M 14 j0))) rfl rfl rfl ?_
    refine x_iload (pc' := 48) rfl rfl rfl ?_
    refine x_aload_n (pc' := 49) rfl rfl rfl rfl rfl ?_
    refine x_gI (pc' := 52) (x := (mA M 14 o)) rfl rfl rfl ((kA hM rfl ho).trans (congrFun (Fc.f14 (Fc.refl _)) _)) ?_
    refine x_imul (pc' := 53) (z := (g * (mA M 14 o))) rfl rfl rfl ?_
    refine x_icmp (a' := 66) (pc' := 56) (z := decide ((g * (mA M 14 j0)) < (g * (mA M 14 o)))) rfl rfl rfl rfl (fun q4 => ?_) (fun q4 => ?_)
    · refine x_aload_n (pc' := 67) rfl rfl rfl rfl rfl ?_
      refine x_aload_n (pc' := 68) rfl rfl rfl rfl q1 ?_
      refine x_pR (pc' := 71) rfl rfl rfl ?_
      refine x_aload_n (pc' := 72) rfl rfl rfl rfl rfl ?_
      refine x_ifnull (a' := 83) (pc' := 75) rfl rfl rfl rfl (fun q5 => ?_) (fun j2 q5 => ?_)
      · refine x_aload_n (pc' := 84) rfl rfl rfl rfl rfl ?_
        refine x_gZ (pc' := 87) (z := (mB M 3 o)) rfl rfl rfl (Eq.trans (b := sZ t 515 o) rfl ((kZ hM rfl ho).trans (congrFun (Fc.f3 (Fc.refl _)) _))) ?_
        refine x_ifeq_z (a' := 98) (pc' := 90) (z := (mB M 3 o)) rfl rfl rfl (fun q6 => ?_) (fun q6 => ?_)
        · refine x_aload_n (pc' := 99) rfl rfl rfl rfl rfl ?_
          refine x_aload_n (pc' := 100) rfl rfl rfl rfl rfl ?_
          refine x_pR (pc' := 103) rfl rfl rfl ?_
          refine x_ret rfl ?_
          exact k3 j0 q1 (of_decide_eq_true q4) q5 q6
        · refine x_aload_n (pc' := 91) rfl rfl rfl rfl rfl ?_
          refine x_aload_n (pc' := 92) rfl rfl rfl rfl rfl ?_
          refine x_pR (pc' := 95) rfl rfl rfl ?_
          refine x_goto (pc' := 103) rfl rfl ?_
          refine x_ret rfl ?_
          exact k4 j0 q1 (of_decide_eq_true q4) q5 q6
      · refine x_aload_n (pc' := 76) rfl rfl rfl rfl q5 ?_
        refine x_aload_n (pc' := 77) rfl rfl rfl rfl rfl ?_
        refine x_pR (pc' := 80) rfl rfl rfl ?_
        refine x_goto (pc' := 103) rfl rfl ?_
        refine x_ret rfl ?_
        exact k5 j0 q1 (of_decide_eq_true q4) j2 q5
    · refine x_aload_n (pc' := 57) rfl rfl rfl rfl q1 ?_
      refine x_astore_n (pc' := 58) (ls' := [_, _, _, _, _]) rfl rfl rfl rfl rfl ?_
      refine x_aload_n (pc' := 59) rfl rfl rfl rfl q1 ?_
      refine x_gR (pc' := 62) (r := (sR t 529 j0)) rfl rfl rfl rfl ?_
      refine x_astore_n (pc' := 63) (ls' := [_, _, _, _, _]) rfl rfl rfl rfl rfl ?_
      refine x_goto (pc' := 35) rfl rfl ?_
      exact k6 j0 q1 (of_decide_eq_false q4)
set_option maxHeartbeats 4000000 in
set_option maxRecDepth 10000 in
theorem n10_0 {t : sT} {Q : sRs → sT → Prop} {M : sM} {n : Nat} {T : Nat} {b : Nat} {o : Nat}
    (hM : Rl t M n T)
    (hc : Sf t M n T)
    (hR : Ri M n)
    (ho : o < n)
    (hb : b < 5)
    (k0 : X 10 35 [.inr (.inr (1, (some b))), .inr (.inr (8, (some o))), .inr (.inr (8, none)), .inr (.inr (8, (bif (mB M 3 o) then (sR t 69 b) else (sR t 70 b)))), .inl (bif (mB M 3 o) then 1 else (-1))] [] t Q) :
    X 10 0 [.inr (.inr (1, (some b))), .inr (.inr (8, (some o))), sJk, sJk, sJk] [] t Q := by
  refine x_null (pc' := 1) rfl rfl rfl ?_
  refine x_astore_n (pc' := 2) (ls' := [_, _, _, _, _]) rfl rfl rfl rfl rfl ?_
  refine x_aload_n (pc' := 3) rfl rfl rfl rfl rfl ?_
  refine x_gZ (pc' := 6) (z := (mB M 3 o)) rfl rfl rfl ((kZ hM rfl ho).trans (congrFun (Fc.f3 (Fc.refl _)) _)) ?_
  have J1 : X 10 20 [.inr (.inr (1, (some b))), .inr (.inr (8, (some o))), .inr (.inr (8, none)), sJk, sJk] [.inr (.inr (8, (bif (mB M 3 o) then (sR t 69 b) else (sR t 70 b))))] t Q := by
    refine x_astore_n (pc' := 21) (ls' := [_, _, _, _, _]) rfl rfl rfl rfl rfl ?_
    refine x_aload_n (pc' := 22) rfl rfl rfl rfl rfl ?_
    refine x_gZ (pc' := 25) (z := (mB M 3 o)) rfl rfl rfl ((kZ hM rfl ho).trans (congrFun (Fc.f3 (Fc.refl _)) _)) ?_
    have J3 : X 10 33 [.inr (.inr (1, (some b))), .inr (.inr (8, (some o))), .inr (.inr (8, none)), .inr (.inr (8, (bif (mB M 3 o) then (sR t 69 b) else (sR t 70 b)))), sJk] [.inl (bif (mB M 3 o) then 1 else (-1))] t Q := by
      refine x_istore (pc' := 35) (ls' := [_, _, _, _, _]) rfl rfl rfl rfl ?_
      exact k0
    refine x_ifeq_z (a' := 32) (pc' := 28) (z := (mB M 3 o)) rfl rfl rfl (fun q3 => ?_) (fun q3 => ?_)
    · refine x_iconst (pc' := 33) rfl rfl ?_
      ((try rw [q3] at J3); (try rw [q3]); (try simp only [cd_t, cd_f, nt_t, nt_f, an_t, an_f, or_t, or_f] at J3); (try simp only [cd_t, cd_f, nt_t, nt_f, an_t, an_f, or_t, or_f]); exact J3)
    · refine x_iconst (pc' := 29) rfl rfl ?_
      refine x_goto (pc' := 33) rfl rfl ?_
      ((try rw [q3] at J3); (try rw [q3]); (try simp only [cd_t, cd_f, nt_t, nt_f, an_t, an_f, or_t, or_f] at J3); (try simp only [cd_t, cd_f, nt_t, nt_f, an_t, an_f, or_t, or_f]); exact J3)
  refine x_ifeq_z (a' := 16) (pc' := 9) (z := (mB M 3 o)) rfl rfl rfl (fun q1 => ?_) (fun q1 => ?_)
  · refine x_aload_n (pc' := 17) rfl rfl rfl rfl rfl ?_
    refine x_gR (pc' := 20) (r := (sR t 70 b)) rfl rfl rfl rfl ?_
    ((try rw [q1] at J1); (try rw [q1]); (try simp only [cd_t, cd_f, nt_t, nt_f, an_t, an_f, or_t, or_f] at J1); (try simp only [cd_t, cd_f, nt_t, nt_f, an_t, an_f, or_t, or_f]); exact J1)
  · refine x_aload_n (pc' := 10) rfl rfl rfl rfl rfl ?_
    refine x_gR (pc' := 13) (r := (sR t 69 b)) rfl rfl rfl rfl ?_
    refine x_goto (pc' := 20) rfl rfl ?_
    ((try rw [q1] at J1); (try rw [q1]); (try simp only [cd_t, cd_f, nt_t, nt_f, an_t, an_f, or_t, or_f] at J1); (try simp only [cd_t, cd_f, nt_t, nt_f, an_t, an_f, or_t, or_f]); exact J1)
/-! the chains of resting orders -/
def remS (t : sT) (s : Bool) (b o : Nat) (p : Option Nat) : sT := match p with
  | none => sRw (sRw t (bif s then 69 else 70) b (sR t 529 o)) 529 o none
  | some q => sRw (sRw t 529 q (sR t 529 o)) 529 o none
def lsO : Option Nat → List Nat → Option Nat
  | p, [] => p
  | _, x :: l => lsO (some x) l
/-- chains of what R says -/
def Cq (t : sT) (M : sM) (R : Nat → Bool → Nat → Prop) : Prop := ∀ b s, b < 5 → ∃ l, Lk t (hd t b s) l ∧ l.Pairwise (btr M s) ∧ ∀ o, o ∈ l ↔ R b s o
section S45
variable {t t' : sT} {M : sM} {n T b o : Nat} {s : Bool} {Q : sRs → sT → Prop}
theorem Lk_fr : ∀ {l : List Nat} {r : Option Nat}, (∀ o, o ∈ l → sR t' 529 o = sR t 529 o) → Lk t r l → Lk t' r l
  | [], _, _, h => h
  | o :: l, _, f, h => ⟨h.1, by rw [f o List.mem_cons_self]; exact Lk_fr (fun x hx => f x (List.mem_cons_of_mem _ hx)) h.2⟩
theorem btr_irr (x : Nat) : ¬ btr M s x x := by
  unfold btr
  rw [if_pos rfl, Int32.lt_iff_toInt_lt]
  omega
theorem pw_nd {l : List Nat} (h : l.Pairwise (btr M s)) : l.Nodup := h.imp (fun {a c} hab e => by subst e; exact btr_irr _ hab)
theorem Lk_cut {q : Nat} {l4 : List Nat} (hq : sR t' 529 q = sR t 529 o) (f : ∀ x, ¬ x = q → ¬ x = o → sR t' 529 x = sR t 529 x) : ∀ (l0 : List Nat) (r : Option Nat), Lk t r (l0 ++ q :: o :: l4) → (l0 ++ q :: o :: l4).Nodup → Lk t' r (l0 ++ q :: l4)
  | [], r, h, hn => by
    refine ⟨h.1, ?_⟩
    rw [hq]
    have h2 : (q :: o :: l4).Nodup := hn
    simp only [List.nodup_cons, List.mem_cons, not_or] at h2
    exact Lk_fr (fun x hx => f x (fun e => h2.1.2 (e ▸ hx)) (fun e => h2.2.1 (e ▸ hx))) h.2.2
  | x :: l0, r, h, hn => by
    have h2 : (x :: (l0 ++ q :: o :: l4)).Nodup := hn
    rw [List.nodup_cons] at h2
    refine ⟨h.1, ?_⟩
    have e1 : ¬ x = q := fun e => h2.1 (by rw [e]; exact List.mem_append_right _ List.mem_cons_self)
    have e2 : ¬ x = o := fun e => h2.1 (by rw [e]; exact List.mem_append_right _ (List.mem_cons_of_mem _ List.mem_cons_self))
    rw [f x e1 e2]
    exact Lk_cut hq f l0 _ h.2 h2.2
theorem lsO_some : ∀ (l : List Nat) (p q : Nat), lsO (some p) l = some q → ∃ l0, p :: l = l0 ++ [q]
  | [], p, q, h => ⟨[], by rw [Option.some.inj h]; rfl⟩
  | x :: l, p, q, h => by
    obtain ⟨l0, e⟩ := lsO_some l x q h
    exact ⟨p :: l0, by rw [e]; rfl⟩
theorem lsO_none : ∀ (l : List Nat) (p : Nat), ¬ lsO (some p) l = none
  | [], _, h => by cases h
  | _ :: l, _, h => lsO_none l _ h
theorem rem_run (hM : Rl t M n T) (hc : Sf t M n T) (hR : Ri M n) (ho : o < n) (hb : b < 5) : ∀ (l2 : List Nat) (p a : Option Nat), Lk t a l2 → (¬ o ∈ l2 → Q (.inl none) t) → (∀ l3 l4, l2 = l3 ++ o :: l4 → ¬ o ∈ l3 → Q (.inl none) (remS t (mB M 3 o) b o (lsO p l3))) →
    X 11 21 [.inr (.inr (1, (some b))), .inr (.inr (8, (some o))), .inr (.inr (8, p)), .inr (.inr (8, a))] [] t Q
  | [], p, a, hl, k0, _ => by
    have ha : a = none := hl
    refine n11_21 hM hc hR ho hb ?_ ?_ ?_ ?_ ?_ ?_ ?_ ?_
    · intro _ j h; rw [ha] at h; cases h
    · intro _ j h; rw [ha] at h; cases h
    · intro _ j h; rw [ha] at h; cases h
    · intro _ _; exact k0 (fun h => by cases h)
    · intro j h; rw [ha] at h; cases h
    · intro j h; rw [ha] at h; cases h
    · intro j h; rw [ha] at h; cases h
    · intro j h; rw [ha] at h; cases h
  | x :: l, p, a, hl, k0, k1 => by
    have ha : a = some x := hl.1
    refine n11_21 hM hc hR ho hb ?_ ?_ ?_ ?_ ?_ ?_ ?_ ?_
    · intro h; rw [ha] at h; cases h
    · intro h; rw [ha] at h; cases h
    · intro h; rw [ha] at h; cases h
    · intro h; rw [ha] at h; cases h
    · intro j h e hp hs
      rw [ha] at h; cases h; subst e
      have := k1 [] l rfl (fun h => by cases h)
      rw [hs, hp] at this; exact this
    · intro j h e hp hs
      rw [ha] at h; cases h; subst e
      have := k1 [] l rfl (fun h => by cases h)
      rw [hs, hp] at this; exact this
    · intro j h e j3 hp
      rw [ha] at h; cases h; subst e
      have := k1 [] l rfl (fun h => by cases h)
      rw [hp] at this; exact this
    · intro j h e
      rw [ha] at h; cases h
      refine rem_run hM hc hR ho hb l (some x) _ hl.2 (fun h => k0 (fun h2 => ?_)) (fun l3 l4 e1 e2 => ?_)
      · rcases List.mem_cons.mp h2 with h3 | h3
        · exact e h3.symm
        · exact h h3
      · have := k1 (x :: l3) l4 (by rw [e1]; rfl) (fun h2 => by
          rcases List.mem_cons.mp h2 with h3 | h3
          · exact e h3.symm
          · exact e2 h3)
        exact this
theorem hd_69 {F : Nat} {v : Option Nat} (h : (Nat.beq F 69 || Nat.beq F 70) = false) (b : Nat) (s : Bool) : hd (sRw t F o v) b s = hd t b s := by
  simp only [Bool.or_eq_false_iff] at h
  have h1 := Nat.ne_of_beq_eq_false h.1
  have h2 := Nat.ne_of_beq_eq_false h.2
  cases s
  · exact if_neg (fun z => h2 z.1.symm)
  · exact if_neg (fun z => h1 z.1.symm)
theorem rdR_hd {v : Option Nat} {x : Nat} : sR (sRw t (bif s then 69 else 70) b v) 529 x = sR t 529 x := by
  cases s
  · show sR (sRw t 70 b v) 529 x = sR t 529 x
    exact rdR_F rfl
  · show sR (sRw t 69 b v) 529 x = sR t 529 x
    exact rdR_F rfl
theorem hd_s {v : Option Nat} : hd (sRw t (bif s then 69 else 70) b v) b s = v := by
  cases s
  · exact if_pos ⟨rfl, rfl⟩
  · exact if_pos ⟨rfl, rfl⟩
theorem hd_o {v : Option Nat} {b' : Nat} {s' : Bool} (h : ¬ (b' = b ∧ s' = s)) : hd (sRw t (bif s then 69 else 70) b v) b' s' = hd t b' s' := by
  cases s <;> cases s'
  · exact if_neg (fun z => h ⟨z.2, rfl⟩)
  · show sR (sRw t 70 b v) 69 b' = sR t 69 b'
    exact rdR_F rfl
  · show sR (sRw t 69 b v) 70 b' = sR t 70 b'
    exact rdR_F rfl
  · exact if_neg (fun z => h ⟨z.2, rfl⟩)
set_option maxHeartbeats 4000000 in
set_option maxRecDepth 10000 in
theorem c11 {R : Nat → Bool → Nat → Prop} (hM : Rl t M n T) (hc : Sf t M n T) (hR : Ri M n) (ho : o < n) (hC : Cq t M R) (hD : ∀ b s b' s' x, R b s x → R b' s' x → b = b' ∧ s = s') (hin : R (oB M o) (mB M 3 o) o)
    (q : ∀ t', Rl t' M n T → np t' = np t → Cq t' M (fun b s x => R b s x ∧ ¬ x = o) → Q (.inl none) t') :
    X 11 0 [.inr (.inr (1, (some (oB M o)))), .inr (.inr (8, (some o))), sJk, sJk] [] t Q := by
  have hb := gb5 hR ho
  obtain ⟨l, hl, hp, hm⟩ := hC (oB M o) (mB M 3 o) hb
  refine n11_0 hM hc hR ho hb ?_
  refine rem_run hM hc hR ho hb l none _ hl (fun h => absurd ((hm o).mpr hin) h) (fun l3 l4 e e3 => ?_)
  have hnd := pw_nd hp
  rw [e] at hl hp hnd
  have hmem : ∀ x, x ∈ l3 ++ l4 ↔ R (oB M o) (mB M 3 o) x ∧ ¬ x = o := by
    intro x
    rw [← hm x, e]
    simp only [List.mem_append, List.mem_cons]
    constructor
    · intro h
      refine ⟨h.elim Or.inl (fun z => Or.inr (Or.inr z)), fun ex => ?_⟩
      rw [ex] at h
      rcases h with h | h
      · exact e3 h
      · have h2 := (List.nodup_append.mp hnd).2.1
        exact (List.nodup_cons.mp h2).1 h
    · rintro ⟨h | h | h, h2⟩
      · exact Or.inl h
      · exact absurd h h2
      · exact Or.inr h
  have hpw : (l3 ++ l4).Pairwise (btr M (mB M 3 o)) := hp.sublist (List.Sublist.append (List.Sublist.refl _) (List.sublist_cons_self o l4))
  cases hq : lsO none l3 with
  | none =>
    have h3 : l3 = [] := by
      cases l3 with
      | nil => rfl
      | cons x l => exact absurd hq (lsO_none l x)
    subst h3
    refine q _ (Rl_R (Rl_R hM)) ((np_Rw rfl).trans (np_Rw (by cases mB M 3 o <;> rfl))) (fun b' s' hb' => ?_)
    by_cases hbs : b' = oB M o ∧ s' = mB M 3 o
    · obtain ⟨rfl, rfl⟩ := hbs
      refine ⟨l4, ?_, hpw, hmem⟩
      show Lk (sRw (sRw t (bif mB M 3 o then 69 else 70) (oB M o) (sR t 529 o)) 529 o none) (hd (sRw (sRw t (bif mB M 3 o then 69 else 70) (oB M o) (sR t 529 o)) 529 o none) (oB M o) (mB M 3 o)) l4
      rw [hd_69 rfl, hd_s]
      have h2 : (o :: l4).Nodup := hnd
      rw [List.nodup_cons] at h2
      refine Lk_fr (fun x hx => ?_) (show Lk t (sR t 529 o) l4 from hl.2)
      have hxo : ¬ x = o := fun ex => h2.1 (ex ▸ hx)
      rw [rdR_d hxo]
      exact rdR_hd
    · obtain ⟨l', h1, h2, h3⟩ := hC b' s' hb'
      refine ⟨l', ?_, h2, fun x => ⟨fun hx => ⟨(h3 x).mp hx, fun ex => ?_⟩, fun hx => (h3 x).mpr hx.1⟩⟩
      · show Lk (sRw (sRw t (bif mB M 3 o then 69 else 70) (oB M o) (sR t 529 o)) 529 o none) (hd (sRw (sRw t (bif mB M 3 o then 69 else 70) (oB M o) (sR t 529 o)) 529 o none) b' s') l'
        rw [hd_69 rfl, hd_o hbs]
        refine Lk_fr (fun x hx => ?_) h1
        have hxo : ¬ x = o := fun ex => hbs (hD _ _ _ _ _ ((h3 x).mp hx) (ex ▸ hin))
        rw [rdR_d hxo]
        exact rdR_hd
      · rw [ex] at hx
        exact hbs (hD _ _ _ _ _ ((h3 o).mp hx) hin)
  | some p =>
    obtain ⟨x0, l0, e0⟩ : ∃ x0 l0, l3 = x0 :: l0 := by
      cases l3 with
      | nil => cases hq
      | cons x l => exact ⟨x, l, rfl⟩
    obtain ⟨lp, ep⟩ := lsO_some l0 x0 p (by rw [e0] at hq; exact hq)
    have e3' : l3 = lp ++ [p] := by rw [e0, ep]
    have hpo : ¬ p = o := fun ex => e3 (by rw [e3', ex]; exact List.mem_append_right _ List.mem_cons_self)
    have hpin : R (oB M o) (mB M 3 o) p := (hm p).mp (by rw [e, e3']; simp)
    refine q _ (Rl_R (Rl_R hM)) ((np_Rw rfl).trans (np_Rw rfl)) (fun b' s' hb' => ?_)
    by_cases hbs : b' = oB M o ∧ s' = mB M 3 o
    · obtain ⟨rfl, rfl⟩ := hbs
      refine ⟨l3 ++ l4, ?_, hpw, hmem⟩
      show Lk (sRw (sRw t 529 p (sR t 529 o)) 529 o none) (hd (sRw (sRw t 529 p (sR t 529 o)) 529 o none) (oB M o) (mB M 3 o)) (l3 ++ l4)
      rw [hd_69 rfl, hd_69 rfl, e3', List.append_assoc]
      rw [e3', List.append_assoc] at hl hnd
      refine Lk_cut (o := o) ?_ (fun x h1 h2 => ?_) lp _ hl hnd
      · rw [rdR_d hpo]; exact if_pos ⟨rfl, rfl⟩
      · rw [rdR_d h2, rdR_d h1]
    · obtain ⟨l', h1, h2, h3⟩ := hC b' s' hb'
      refine ⟨l', ?_, h2, fun x => ⟨fun hx => ⟨(h3 x).mp hx, fun ex => ?_⟩, fun hx => (h3 x).mpr hx.1⟩⟩
      · show Lk (sRw (sRw t 529 p (sR t 529 o)) 529 o none) (hd (sRw (sRw t 529 p (sR t 529 o)) 529 o none) b' s') l'
        rw [hd_69 rfl, hd_69 rfl]
        refine Lk_fr (fun x hx => ?_) h1
        have hxo : ¬ x = o := fun ex => hbs (hD _ _ _ _ _ ((h3 x).mp hx) (ex ▸ hin))
        have hxp : ¬ x = p := fun ex => hbs (hD _ _ _ _ _ ((h3 x).mp hx) (ex ▸ hpin))
        rw [rdR_d hxo, rdR_d hxp]
      · rw [ex] at hx
        exact hbs (hD _ _ _ _ _ ((h3 o).mp hx) hin)
end S45
def insS (t : sT) (s : Bool) (b o : Nat) (a p : Option Nat) : sT := match p with
  | none => sRw (sRw t 529 o a) (bif s then 69 else 70) b (some o)
  | some q => sRw (sRw t 529 o a) 529 q (some o)
def sgn (s : Bool) : Int32 := bif s then 1 else (-1)
section S45b
variable {t t' : sT} {M : sM} {n T b o : Nat} {s : Bool} {Q : sRs → sT → Prop}
theorem ins_run (hM : Rl t M n T) (hc : Sf t M n T) (hR : Ri M n) (ho : o < n) (hb : b < 5) {g : Int32} : ∀ (l2 : List Nat) (p a : Option Nat), Lk t a l2 → (∀ x, x ∈ l2 → x < n) →
    (∀ l3 l4, l2 = l3 ++ l4 → (∀ x, x ∈ l3 → ¬ g * mA M 14 x < g * mA M 14 o) → (∀ x, l4.head? = some x → g * mA M 14 x < g * mA M 14 o) → Q (.inl none) (insS t (mB M 3 o) b o l4.head? (lsO p l3))) →
    X 10 35 [.inr (.inr (1, (some b))), .inr (.inr (8, (some o))), .inr (.inr (8, p)), .inr (.inr (8, a)), .inl g] [] t Q
  | [], p, a, hl, hn, k1 => by
    have ha : a = none := hl
    have k := k1 [] [] rfl (fun x h => by cases h) (fun x h => by cases h)
    have hba : ∀ j, a = some j → j < n := fun j h => by rw [ha] at h; cases h
    refine n10_35 hM hc hR ho hb hba ?_ ?_ ?_ ?_ ?_ ?_ ?_
    · intro _ hp hs; rw [hs, hp] at k; rw [ha]; exact k
    · intro _ hp hs; rw [hs, hp] at k; rw [ha]; exact k
    · intro _ j hp; rw [hp] at k; rw [ha]; exact k
    · intro j h; rw [ha] at h; cases h
    · intro j h; rw [ha] at h; cases h
    · intro j h; rw [ha] at h; cases h
    · intro j h; rw [ha] at h; cases h
  | x :: l, p, a, hl, hn, k1 => by
    have ha : a = some x := hl.1
    have hba : ∀ j, a = some j → j < n := fun j h => by rw [ha] at h; cases h; exact hn x List.mem_cons_self
    refine n10_35 hM hc hR ho hb hba ?_ ?_ ?_ ?_ ?_ ?_ ?_
    · intro h; rw [ha] at h; cases h
    · intro h; rw [ha] at h; cases h
    · intro h; rw [ha] at h; cases h
    · intro j h e hp hs
      rw [ha] at h; cases h
      have k := k1 [] (x :: l) rfl (fun x h => by cases h) (fun y hy => by cases hy; exact e)
      rw [hs, hp] at k; exact k
    · intro j h e hp hs
      rw [ha] at h; cases h
      have k := k1 [] (x :: l) rfl (fun x h => by cases h) (fun y hy => by cases hy; exact e)
      rw [hs, hp] at k; exact k
    · intro j h e j2 hp
      rw [ha] at h; cases h
      have k := k1 [] (x :: l) rfl (fun x h => by cases h) (fun y hy => by cases hy; exact e)
      rw [hp] at k; exact k
    · intro j h e
      rw [ha] at h; cases h
      refine ins_run hM hc hR ho hb l (some x) _ hl.2 (fun y hy => hn y (List.mem_cons_of_mem _ hy)) (fun l3 l4 e1 e2 e3 => ?_)
      exact k1 (x :: l3) l4 (by rw [e1]; rfl) (fun y hy => by
        rcases List.mem_cons.mp hy with h3 | h3
        · rw [h3]; exact e
        · exact e2 y h3) e3
theorem Lk_app : ∀ (l1 : List Nat) (r : Option Nat) {l2 : List Nat}, Lk t r (l1 ++ l2) → l2.head? = (match l2 with | [] => none | x :: _ => some x)
  | _, _, [], _ => rfl
  | _, _, _ :: _, _ => rfl
theorem Lk_hd {l : List Nat} {r : Option Nat} (h : Lk t r l) : r = l.head? := by
  cases l with
  | nil => exact h
  | cons x l => exact h.1
theorem Lk_put {q : Nat} {l4 : List Nat} (hq : sR t' 529 q = some o) (hoo : sR t' 529 o = l4.head?) (f : ∀ x, ¬ x = q → ¬ x = o → sR t' 529 x = sR t 529 x) : ∀ (l0 : List Nat) (r : Option Nat), Lk t r (l0 ++ q :: l4) → (l0 ++ q :: l4).Nodup → ¬ o ∈ l0 ++ q :: l4 → Lk t' r (l0 ++ q :: o :: l4)
  | [], r, h, hn, ho => by
    have h2 : (q :: l4).Nodup := hn
    rw [List.nodup_cons] at h2
    have ho2 : ¬ o ∈ q :: l4 := ho
    simp only [List.mem_cons, not_or] at ho2
    refine ⟨h.1, hq, ?_⟩
    have h3 : Lk t (sR t 529 q) l4 := h.2
    rw [hoo, ← Lk_hd h3]
    exact Lk_fr (fun x hx => f x (fun e => h2.1 (e ▸ hx)) (fun e => ho2.2 (e ▸ hx))) h3
  | x :: l0, r, h, hn, ho => by
    have h2 : (x :: (l0 ++ q :: l4)).Nodup := hn
    rw [List.nodup_cons] at h2
    have ho2 : ¬ o ∈ x :: (l0 ++ q :: l4) := ho
    rw [List.mem_cons, not_or] at ho2
    have e1 : ¬ x = q := fun e => h2.1 (by rw [e]; exact List.mem_append_right _ List.mem_cons_self)
    refine ⟨h.1, ?_⟩
    rw [f x e1 (fun e => ho2.1 e.symm)]
    exact Lk_put hq hoo f l0 _ h.2 h2.2 ho2.2
end S45b
def Pb (M : sM) (n : Nat) : Prop := ∀ k, k < n → -1000 ≤ (mA M 14 k).toInt ∧ (mA M 14 k).toInt ≤ 1000
section S45c
variable {t t' : sT} {M : sM} {n T b o : Nat} {s : Bool} {Q : sRs → sT → Prop}
theorem ng1 {p : Int32} (h : -1000 ≤ p.toInt ∧ p.toInt ≤ 1000) : (-1 * p).toInt = -p.toInt := by
  rw [Int32.toInt_mul, show (-1 : Int32).toInt = -1 from rfl]
  rw [show (-1 : Int) * p.toInt = -p.toInt by omega]
  exact Int.bmod_eq_of_le (by omega) (by omega)
theorem sg_lt {p q : Int32} (hp : -1000 ≤ p.toInt ∧ p.toInt ≤ 1000) (hq : -1000 ≤ q.toInt ∧ q.toInt ≤ 1000) : (bif s then (1 : Int32) else (-1)) * p < (bif s then (1 : Int32) else (-1)) * q ↔ (if s = true then p.toInt < q.toInt else q.toInt < p.toInt) := by
  cases s
  · show -1 * p < -1 * q ↔ _
    rw [Int32.lt_iff_toInt_lt, ng1 hp, ng1 hq, if_neg (by decide)]
    omega
  · show 1 * p < 1 * q ↔ _
    rw [Int32.one_mul, Int32.one_mul, Int32.lt_iff_toInt_lt, if_pos rfl]
theorem btr_iff {x y : Nat} : btr M s x y ↔ (if (mA M 14 x).toInt = (mA M 14 y).toInt then (mA M 18 x).toInt < (mA M 18 y).toInt else if s = true then (mA M 14 y).toInt < (mA M 14 x).toInt else (mA M 14 x).toInt < (mA M 14 y).toInt) := by
  unfold btr
  by_cases e : mA M 14 x = mA M 14 y
  · rw [if_pos e, if_pos (congrArg Int32.toInt e), Int32.lt_iff_toInt_lt]
  · rw [if_neg e, if_neg (fun z => e (Int32.toInt_inj.mp z))]
    cases s
    · rw [if_neg (by decide), if_neg (by decide), Int32.lt_iff_toInt_lt]
    · rw [if_pos rfl, if_pos rfl, Int32.lt_iff_toInt_lt]
set_option maxHeartbeats 4000000 in
set_option maxRecDepth 10000 in
theorem c10 {R : Nat → Bool → Nat → Prop} (hM : Rl t M n T) (hc : Sf t M n T) (hR : Ri M n) (hP : Pb M n) (ho : o < n) (hC : Cq t M R) (hRn : ∀ b s x, R b s x → x < n) (hD : ∀ b s b' s' x, R b s x → R b' s' x → b = b' ∧ s = s') (hout : ∀ b s, ¬ R b s o) (hst : ∀ b s x, R b s x → mA M 18 x < mA M 18 o)
    (q : ∀ t', Rl t' M n T → np t' = np t → Cq t' M (fun b s x => R b s x ∨ x = o ∧ b = oB M o ∧ s = mB M 3 o) → Q (.inl none) t') :
    X 10 0 [.inr (.inr (1, (some (oB M o)))), .inr (.inr (8, (some o))), sJk, sJk, sJk] [] t Q := by
  have hb := gb5 hR ho
  obtain ⟨l, hl, hp, hm⟩ := hC (oB M o) (mB M 3 o) hb
  refine n10_0 hM hc hR ho hb ?_
  refine ins_run hM hc hR ho hb l none _ hl (fun x hx => hRn _ _ _ ((hm x).mp hx)) (fun l3 l4 e e3 e4 => ?_)
  have hnd := pw_nd hp
  have hol : ¬ o ∈ l := fun h => hout _ _ ((hm o).mp h)
  rw [e] at hl hp hnd hol
  have hbd : ∀ x, x ∈ l3 ++ l4 → x < n := fun x hx => hRn _ _ _ ((hm x).mp (by rw [e]; exact hx))
  have hmem : ∀ x, x ∈ l3 ++ o :: l4 ↔ (R (oB M o) (mB M 3 o) x ∨ x = o ∧ oB M o = oB M o ∧ mB M 3 o = mB M 3 o) := by
    intro x
    rw [← hm x, e]
    simp only [List.mem_append, List.mem_cons]
    constructor
    · rintro (h | h | h)
      · exact Or.inl (Or.inl h)
      · exact Or.inr ⟨h, trivial, trivial⟩
      · exact Or.inl (Or.inr h)
    · rintro ((h | h) | ⟨h, -⟩)
      · exact Or.inl h
      · exact Or.inr (Or.inr h)
      · exact Or.inr (Or.inl h)
  have hpw : (l3 ++ o :: l4).Pairwise (btr M (mB M 3 o)) := by
    rw [List.pairwise_append] at hp ⊢
    have a3 : ∀ x, x ∈ l3 → btr M (mB M 3 o) x o := by
      intro x hx
      have hxn := hbd x (List.mem_append_left _ hx)
      have h1 := e3 x hx
      rw [sg_lt (hP x hxn) (hP o ho)] at h1
      have h2 := Int32.lt_iff_toInt_lt.mp (hst _ _ x ((hm x).mp (by rw [e]; exact List.mem_append_left _ hx)))
      rw [btr_iff]
      cases hs : mB M 3 o <;> rw [hs] at h1 <;> simp only [if_true, if_false, Bool.false_eq_true] at h1 ⊢ <;> split <;> omega
    have a4 : ∀ y, y ∈ l4 → btr M (mB M 3 o) o y := by
      intro y hy
      have hyn := hbd y (List.mem_append_right _ hy)
      cases l4 with
      | nil => cases hy
      | cons z l5 =>
        have hzn := hbd z (List.mem_append_right _ List.mem_cons_self)
        have h1 := e4 z rfl
        rw [sg_lt (hP z hzn) (hP o ho)] at h1
        have h5 : z = y ∨ btr M (mB M 3 o) z y := by
          rcases List.mem_cons.mp hy with h | h
          · exact Or.inl h.symm
          · exact Or.inr ((List.pairwise_cons.mp hp.2.1).1 y h)
        rw [btr_iff]
        rcases h5 with h5 | h5
        · rw [← h5]
          cases hs : mB M 3 o <;> rw [hs] at h1 <;> simp only [if_true, if_false, Bool.false_eq_true] at h1 ⊢ <;> split <;> omega
        · rw [btr_iff] at h5
          cases hs : mB M 3 o <;> rw [hs] at h1 h5 <;> simp only [if_true, if_false, Bool.false_eq_true] at h1 h5 ⊢ <;> split at h5 <;> split <;> omega
    exact ⟨hp.1, List.pairwise_cons.mpr ⟨a4, hp.2.1⟩, fun x hx y hy => by
      rcases List.mem_cons.mp hy with h | h
      · rw [h]; exact a3 x hx
      · exact hp.2.2 x hx y h⟩
  have hfr : ∀ (b' : Nat) (s' : Bool) (l' : List Nat), ¬ (b' = oB M o ∧ s' = mB M 3 o) → (∀ x, x ∈ l' ↔ R b' s' x) → ∀ x, x ∈ l' ↔ (R b' s' x ∨ x = o ∧ b' = oB M o ∧ s' = mB M 3 o) := by
    intro b' s' l' hbs h3 x
    rw [h3 x]
    exact ⟨Or.inl, fun h => h.elim id (fun h => absurd h.2 hbs)⟩
  cases hq : lsO none l3 with
  | none =>
    have h3 : l3 = [] := by
      cases l3 with
      | nil => rfl
      | cons x l => exact absurd hq (lsO_none l x)
    subst h3
    refine q _ (Rl_R (Rl_R hM)) ((np_Rw (by cases mB M 3 o <;> rfl)).trans (np_Rw rfl)) (fun b' s' hb' => ?_)
    by_cases hbs : b' = oB M o ∧ s' = mB M 3 o
    · obtain ⟨rfl, rfl⟩ := hbs
      refine ⟨o :: l4, ?_, hpw, hmem⟩
      show Lk (sRw (sRw t 529 o l4.head?) (bif mB M 3 o then 69 else 70) (oB M o) (some o)) (hd (sRw (sRw t 529 o l4.head?) (bif mB M 3 o then 69 else 70) (oB M o) (some o)) (oB M o) (mB M 3 o)) (o :: l4)
      rw [hd_s]
      refine ⟨rfl, ?_⟩
      have e1 : sR (sRw (sRw t 529 o l4.head?) (bif mB M 3 o then 69 else 70) (oB M o) (some o)) 529 o = l4.head? := by
        refine Eq.trans (b := sR (sRw t 529 o l4.head?) 529 o) ?_ (if_pos ⟨rfl, rfl⟩)
        exact rdR_hd
      rw [e1]
      have h4 : Lk t (hd t (oB M o) (mB M 3 o)) l4 := hl
      have h5 : Lk t l4.head? l4 := by rw [← Lk_hd h4]; exact h4
      refine Lk_fr (fun x hx => ?_) h5
      refine Eq.trans (b := sR (sRw t 529 o l4.head?) 529 x) ?_ (rdR_d (fun ex => hol (by rw [← ex]; exact hx)))
      exact rdR_hd
    · obtain ⟨l', h1, h2, h3⟩ := hC b' s' hb'
      refine ⟨l', ?_, h2, hfr b' s' l' hbs h3⟩
      show Lk (sRw (sRw t 529 o l4.head?) (bif mB M 3 o then 69 else 70) (oB M o) (some o)) (hd (sRw (sRw t 529 o l4.head?) (bif mB M 3 o then 69 else 70) (oB M o) (some o)) b' s') l'
      rw [hd_o hbs, hd_69 rfl]
      refine Lk_fr (fun x hx => ?_) h1
      have hxo : ¬ x = o := fun ex => hout _ _ (ex ▸ (h3 x).mp hx)
      refine Eq.trans (b := sR (sRw t 529 o l4.head?) 529 x) ?_ (rdR_d hxo)
      exact rdR_hd
  | some p =>
    obtain ⟨x0, l0, e0⟩ : ∃ x0 l0, l3 = x0 :: l0 := by
      cases l3 with
      | nil => cases hq
      | cons x l => exact ⟨x, l, rfl⟩
    obtain ⟨lp, ep⟩ := lsO_some l0 x0 p (by rw [e0] at hq; exact hq)
    have e3' : l3 = lp ++ [p] := by rw [e0, ep]
    have hpl : p ∈ l3 ++ l4 := by rw [e3']; simp
    have hpo : ¬ p = o := fun ex => hol (ex ▸ hpl)
    have hpin : R (oB M o) (mB M 3 o) p := (hm p).mp (by rw [e]; exact hpl)
    refine q _ (Rl_R (Rl_R hM)) ((np_Rw rfl).trans (np_Rw rfl)) (fun b' s' hb' => ?_)
    by_cases hbs : b' = oB M o ∧ s' = mB M 3 o
    · obtain ⟨rfl, rfl⟩ := hbs
      refine ⟨l3 ++ o :: l4, ?_, hpw, hmem⟩
      show Lk (sRw (sRw t 529 o l4.head?) 529 p (some o)) (hd (sRw (sRw t 529 o l4.head?) 529 p (some o)) (oB M o) (mB M 3 o)) (l3 ++ o :: l4)
      rw [hd_69 rfl, hd_69 rfl, e3', List.append_assoc]
      rw [e3', List.append_assoc] at hl hnd hol
      refine Lk_put (o := o) (show sR (sRw (sRw t 529 o l4.head?) 529 p (some o)) 529 p = some o from if_pos ⟨rfl, rfl⟩) ?_ (fun x h1 h2 => ?_) lp _ hl hnd hol
      · rw [rdR_d (fun ex => hpo ex.symm)]; exact if_pos ⟨rfl, rfl⟩
      · rw [rdR_d h1, rdR_d h2]
    · obtain ⟨l', h1, h2, h3⟩ := hC b' s' hb'
      refine ⟨l', ?_, h2, hfr b' s' l' hbs h3⟩
      show Lk (sRw (sRw t 529 o l4.head?) 529 p (some o)) (hd (sRw (sRw t 529 o l4.head?) 529 p (some o)) b' s') l'
      rw [hd_69 rfl, hd_69 rfl]
      refine Lk_fr (fun x hx => ?_) h1
      have hxo : ¬ x = o := fun ex => hout _ _ (ex ▸ (h3 x).mp hx)
      have hxp : ¬ x = p := fun ex => hbs (hD _ _ _ _ _ ((h3 x).mp hx) (ex ▸ hpin))
      rw [rdR_d hxp, rdR_d hxo]
end S45c
