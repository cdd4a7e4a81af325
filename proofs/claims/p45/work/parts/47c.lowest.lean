/-! the class's methods (printed by clsgen.py) -/
set_option maxHeartbeats 4000000 in
set_option maxRecDepth 10000 in
theorem n37_2 {t : sT} {Q : sRs → sT → Prop} {M : sM} {n : Nat} {T : Nat} {k : Nat} {x : sV}
    (hM : Rl t M n T)
    (hc : Sf t M n T)
    (hR : Ri M n)
    (hk : k < n)
    (k0 : ¬ ((mA M 19 k) = 0) → X 37 2 [.inr (.inr (4, (some 0))), .inl (io (k + 1)), .inr (.inr (8, (some k)))] [] t Q)
    (k1 : (mA M 19 k) = 0 → (mB M 6 k) = false → X 37 2 [.inr (.inr (4, (some 0))), .inl (io (k + 1)), .inr (.inr (8, (some k)))] [] t Q)
    (k2 : (mA M 19 k) = 0 → (mB M 6 k) = true → Q (.inl (some (.inr (.inr (8, (some k)))))) t) :
    X 37 2 [.inr (.inr (4, (some 0))), .inl (io k), x] [] t Q := by
  refine x_iload_n (pc' := 3) rfl rfl rfl ?_
  refine x_aload_n (pc' := 4) rfl rfl rfl rfl rfl ?_
  refine x_gR (pc' := 7) (r := (some 1)) rfl rfl rfl (kR_257_0 hc.1) ?_
  refine x_cv (ls0 := [_]) (rest := [_]) rfl rfl rfl rfl rfl ?_
  refine x_aload_n (pc' := 1) rfl rfl rfl rfl rfl ?_
  refine x_gI (pc' := 4) (x := (io n)) rfl rfl rfl (Sf_n hc) ?_
  refine x_reti rfl rfl ?_
  refine sK_i (pc' := 10) rfl ?_
  refine x_icmp_n (a' := 47) (pc' := 13) (z := decide (k < n)) rfl rfl rfl (ic_gen (p := k) (q := n) (Nat.lt_trans hk (gn31 hR)) (gn31 hR)) (fun h => absurd hk (of_decide_eq_false h)) (fun _ => ?_)
  refine x_aload_n (pc' := 14) rfl rfl rfl rfl rfl ?_
  refine x_gR (pc' := 17) (r := (some 1)) rfl rfl rfl (kR_257_0 hc.1) ?_
  refine x_iload_n (pc' := 18) rfl rfl rfl ?_
  refine x_cv (ls0 := [_, _]) (rest := []) rfl rfl rfl rfl rfl ?_
  refine Sf_gO hc hR hk ?_
  refine sK_i (pc' := 21) rfl ?_
  refine x_cast (pc' := 24) rfl rfl rfl ?_
  refine x_astore_n (pc' := 25) (ls' := [_, _, _]) rfl rfl rfl rfl rfl ?_
  refine x_aload_n (pc' := 26) rfl rfl rfl rfl rfl ?_
  refine x_gI (pc' := 29) (x := (mA M 19 k)) rfl rfl rfl (kA hM rfl hk) ?_
  refine x_if_n (a' := 41) (pc' := 32) (z := decide ((mA M 19 k) = 0)) rfl rfl rfl (ik_ne _ _) (fun q2 => ?_) (fun q2 => ?_)
  · refine x_iinc (pc' := 44) (y := (io (k + 1))) (ls' := [_, _, _]) rfl rfl rfl (io_add k 1) rfl ?_
    refine x_goto (pc' := 2) rfl rfl ?_
    exact k0 (of_decide_eq_false q2)
  · refine x_aload_n (pc' := 33) rfl rfl rfl rfl rfl ?_
    refine x_gZ (pc' := 36) (z := (mB M 6 k)) rfl rfl rfl (kZ hM rfl hk) ?_
    refine x_ifeq_z (a' := 41) (pc' := 39) (z := (mB M 6 k)) rfl rfl rfl (fun q3 => ?_) (fun q3 => ?_)
    · refine x_iinc (pc' := 44) (y := (io (k + 1))) (ls' := [_, _, _]) rfl rfl rfl (io_add k 1) rfl ?_
      refine x_goto (pc' := 2) rfl rfl ?_
      exact k1 (of_decide_eq_true q2) q3
    · refine x_aload_n (pc' := 40) rfl rfl rfl rfl rfl ?_
      refine x_reta rfl rfl ?_
      exact k2 (of_decide_eq_true q2) q3
set_option maxHeartbeats 4000000 in
set_option maxRecDepth 10000 in
theorem n37_2e {t : sT} {Q : sRs → sT → Prop} {M : sM} {n : Nat} {T : Nat} {x : sV}
    (hM : Rl t M n T)
    (hc : Sf t M n T)
    (hR : Ri M n)
    (k0 : Q (.inl (some (.inr (.inr (8, none))))) t) :
    X 37 2 [.inr (.inr (4, (some 0))), .inl (io n), x] [] t Q := by
  refine x_iload_n (pc' := 3) rfl rfl rfl ?_
  refine x_aload_n (pc' := 4) rfl rfl rfl rfl rfl ?_
  refine x_gR (pc' := 7) (r := (some 1)) rfl rfl rfl (kR_257_0 hc.1) ?_
  refine x_cv (ls0 := [_]) (rest := [_]) rfl rfl rfl rfl rfl ?_
  refine x_aload_n (pc' := 1) rfl rfl rfl rfl rfl ?_
  refine x_gI (pc' := 4) (x := (io n)) rfl rfl rfl (Sf_n hc) ?_
  refine x_reti rfl rfl ?_
  refine sK_i (pc' := 10) rfl ?_
  refine x_icmp_n (a' := 47) (pc' := 13) (z := decide (n < n)) rfl rfl rfl (ic_gen (p := n) (q := n) (gn31 hR) (gn31 hR)) (fun _ => ?_) (fun h => absurd (of_decide_eq_true h) (by first | decide | omega | simp))
  refine x_null (pc' := 48) rfl rfl rfl ?_
  refine x_reta rfl rfl ?_
  exact k0
set_option maxHeartbeats 4000000 in
set_option maxRecDepth 10000 in
theorem n37 {t : sT} {Q : sRs → sT → Prop} {M : sM} {n : Nat} {T : Nat}
    (hM : Rl t M n T)
    (hc : Sf t M n T)
    (hR : Ri M n)
    (k0 : X 37 2 [.inr (.inr (4, (some 0))), .inl 0, sJk] [] t Q) :
    X 37 0 [.inr (.inr (4, (some 0))), sJk, sJk] [] t Q := by
  refine x_iconst (pc' := 1) rfl rfl ?_
  refine x_istore_n (pc' := 2) (ls' := [_, _, _]) rfl rfl rfl rfl ?_
  exact k0
def lrG (M : sM) : Nat → Nat → Option Nat
  | 0, _ => none
  | d + 1, k => bif (decide (mA M 19 k = 0) && mB M 6 k) then some k else lrG M d (k + 1)
def lrF (M : sM) (n : Nat) : Option Nat := lrG M n 0
set_option maxHeartbeats 4000000 in
set_option maxRecDepth 10000 in
theorem c37_run {t : sT} {Q : sRs → sT → Prop} {M : sM} {n T : Nat} (hM : Rl t M n T) (hc : Sf t M n T) (hR : Ri M n) : ∀ (d k : Nat) (x : sV), k + d = n → Q (.inl (some (.inr (.inr (8, lrG M d k))))) t → X 37 2 [.inr (.inr (4, (some 0))), .inl (io k), x] [] t Q
  | 0, k, x, e, q => by
    have e : k = n := by omega
    subst e
    exact n37_2e hM hc hR q
  | d + 1, k, x, e, q => by
    have hk : k < n := by omega
    have e0 : lrG M (d + 1) k = bif (decide (mA M 19 k = 0) && mB M 6 k) then some k else lrG M d (k + 1) := rfl
    rw [e0] at q
    refine n37_2 hM hc hR hk (fun h => ?_) (fun h h2 => ?_) (fun h h2 => ?_)
    · rw [decide_eq_false h] at q
      exact c37_run hM hc hR d (k + 1) _ (by omega) q
    · rw [decide_eq_true h, h2] at q
      exact c37_run hM hc hR d (k + 1) _ (by omega) q
    · rw [decide_eq_true h, h2] at q
      exact q
theorem lrG_lt {M : sM} : ∀ (d k j : Nat), lrG M d k = some j → k ≤ j ∧ j < k + d ∧ mA M 19 j = 0 ∧ mB M 6 j = true
  | 0, _, _, h => by cases h
  | d + 1, k, j, h => by
    have e0 : lrG M (d + 1) k = bif (decide (mA M 19 k = 0) && mB M 6 k) then some k else lrG M d (k + 1) := rfl
    rw [e0] at h
    cases hz : (decide (mA M 19 k = 0) && mB M 6 k) with
    | true =>
      rw [hz] at h
      have e1 : k = j := Option.some.inj h
      rw [Bool.and_eq_true] at hz
      subst e1
      exact ⟨Nat.le_refl _, by omega, of_decide_eq_true hz.1, hz.2⟩
    | false =>
      rw [hz] at h
      obtain ⟨h1, h2, h3⟩ := lrG_lt d (k + 1) j h
      exact ⟨by omega, by omega, h3⟩
set_option maxHeartbeats 4000000 in
set_option maxRecDepth 10000 in
theorem c37 {t : sT} {Q : sRs → sT → Prop} {M : sM} {n T : Nat} (hM : Rl t M n T) (hc : Sf t M n T) (hR : Ri M n) (q : Q (.inl (some (.inr (.inr (8, lrF M n))))) t) : X 37 0 [.inr (.inr (4, (some 0))), sJk, sJk] [] t Q :=
  n37 hM hc hR (c37_run hM hc hR n 0 _ (by omega) q)
