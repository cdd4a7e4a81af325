/-! orders that follow: the reference and the class -/
section S83
variable {t t' t0 : sT} {M M' M0 N : sM} {n T A B b c m o k x y K w f v j : Nat} {p a d sz : Int32} {s z : Bool} {L L' l : List Nat} {r r0 : Option Nat} {y0 y1 y2 : sV} {Q : sRs → sT → Prop}
/-- all that follows, one order after another -/
noncomputable def folF (n : Nat) : Nat → sM → sM
  | 0, M => M
  | f + 1, M => match lrF M n with
    | none => M
    | some o => folF n f (comF M n o)
theorem fol_n (h : lrF M n = none) : ∀ f, folF n f M = M
  | 0 => rfl
  | f + 1 => by
    show (match lrF M n with | none => M | some o => folF n f (comF M n o)) = M
    rw [h]
theorem fol_s (h : lrF M n = some o) : folF n (f + 1) M = folF n f (comF M n o) := by
  show (match lrF M n with | none => M | some o => folF n f (comF M n o)) = _
  rw [h]
theorem lrG_s : ∀ (d k : Nat), lrG M d k = some o → k ≤ o ∧ o < k + d ∧ mA M 19 o = 0
  | 0, k, h => by cases h
  | d + 1, k, h => by
    have e : lrG M (d + 1) k = bif (decide (mA M 19 k = 0) && mB M 6 k) then some k else lrG M d (k + 1) := rfl
    rw [e] at h
    cases hc : (decide (mA M 19 k = 0) && mB M 6 k) with
    | true =>
      rw [hc] at h
      cases h
      rw [Bool.and_eq_true] at hc
      exact ⟨Nat.le_refl _, by omega, of_decide_eq_true hc.1⟩
    | false =>
      rw [hc] at h
      obtain ⟨i1, i2, i3⟩ := lrG_s d (k + 1) h
      exact ⟨by omega, by omega, i3⟩
theorem lrF_s (h : lrF M n = some o) : o < n ∧ mA M 19 o = 0 := by
  obtain ⟨_, h2, h3⟩ := lrG_s n 0 h
  exact ⟨by omega, h3⟩
theorem io_m1 (h : o < 2 ^ 31) : ¬ io o = -1 := fun e => by
  have h2 := congrArg Int32.toInt e
  rw [io_int h, show (-1 : Int32).toInt = -1 from rfl] at h2
  omega
end S83
