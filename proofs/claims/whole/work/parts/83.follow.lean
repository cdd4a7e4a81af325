/-! orders that follow: the reference and the class -/
section S83
variable {t t' t0 : sT} {M M' M0 N : sM} {n T A B b c m o k x y K w f v j : Nat} {p a d sz : Int32} {s z : Bool} {L L' l : List Nat} {r r0 : Option Nat} {y0 y1 y2 : sV} {Q : sRs → sT → Prop}
/-- all that follows, one order after another -/
noncomputable def folF (n : Nat) : Nat → sM → sM
  | 0, M => M
  | f + 1, M => match lrF M n with
    | none => M
    | some o => folF n f (comF M n o)
theorem fol_n (h : lrF M n = none) : ∀ f, folF n f M = M
  | 0 => rfl
  | f + 1 => by
    show (match lrF M n with | none => M | some o => folF n f (comF M n o)) = M
    rw [h]
theorem fol_s (h : lrF M n = some o) : folF n (f + 1) M = folF n f (comF M n o) := by
  show (match lrF M n with | none => M | some o => folF n f (comF M n o)) = _
  rw [h]
theorem lrG_s : ∀ (d k : Nat), lrG M d k = some o → k ≤ o ∧ o < k + d ∧ mA M 19 o = 0
  | 0, k, h => by cases h
  | d + 1, k, h => by
    have e : lrG M (d + 1) k = bif (decide (mA M 19 k = 0) && mB M 6 k) then some k else lrG M d (k + 1) := rfl
    rw [e] at h
    cases hc : (decide (mA M 19 k = 0) && mB M 6 k) with
    | true =>
      rw [hc] at h
      cases h
      rw [Bool.and_eq_true] at hc
      exact ⟨Nat.le_refl _, by omega, of_decide_eq_true hc.1⟩
    | false =>
      rw [hc] at h
      obtain ⟨i1, i2, i3⟩ := lrG_s d (k + 1) h
      exact ⟨by omega, by omega, i3⟩
theorem lrF_s (h : lrF M n = some o) : o < n ∧ mA M 19 o = 0 := by
  obtain ⟨_, h2, h3⟩ := lrG_s n 0 h
  exact ⟨by omega, h3⟩
theorem io_m1 (h : o < 2 ^ 31) : ¬ io o = -1 := fun e => by
  have h2 := congrArg Int32.toInt e
  rw [io_int h, show (-1 : Int32).toInt = -1 from rfl] at h2
  omega
theorem v178_15 (hV : Vr t M n) (q : X 178 49 [.inr (.inr (12, (some 0))), .inl (bz true), .inl (ov (lrF M n)), .inl (-1)] [] t Q) :
    ∀ (k d : Nat), k + 1 + d = n → X 178 15 [.inr (.inr (12, (some 0))), .inl (bz true), .inl (ov (lrG M d (k + 1))), .inl (io k)] [] t Q
  | k, d, e => by
    have hn := hV.2.2.2.1
    have hb : ∀ (d k : Nat), k + d ≤ n → ∀ j, lrG M d k = some j → j < n := fun d k h j hj => by
      have := lrG_s d k hj
      omega
    have e2 : (bif (decide ((mA M 19 k) = 0)) then (bif (mB M 6 k) then (some k) else (lrG M d (k + 1))) else (lrG M d (k + 1))) = lrG M (d + 1) k := by
      show _ = bif (decide (mA M 19 k = 0) && mB M 6 k) then some k else lrG M d (k + 1)
      cases decide (mA M 19 k = 0) <;> cases mB M 6 k <;> rfl
    refine r178_15k hV.1 hV.2.1 hV.2.2 (by omega) (hb d (k + 1) (by omega)) ?_
    rw [e2]
    match k with
    | 0 =>
      have e3 : io 0 + (-1) = (-1 : Int32) := by decide
      have e4 : lrG M (d + 1) 0 = lrF M n := by unfold lrF; rw [show n = d + 1 by omega]
      rw [e3, e4]
      exact r178_15e hV.1 hV.2.1 hV.2.2 (fun j hj => (lrF_s hj).1) q
    | k + 1 =>
      rw [io_pred (Nat.succ_pos k)]
      exact v178_15 hV q k (d + 1) (by omega)
theorem v178_2 : ∀ (f : Nat) (M : sM) (t : sT) (y0 y1 : sV), Vr t M n → Kv M n → wt0 M n ≤ f →
    (∀ t', Vr t' (folF n f M) n → cp t' = cp t → Q (.inl none) t') →
    X 178 2 [.inr (.inr (12, (some 0))), .inl (bz true), y0, y1] [] t Q := by
  intro f
  induction f with
  | zero =>
    intro M t y0 y1 hV hK hw q
    have hnone : lrF M n = none := by
      cases h : lrF M n with
      | none => rfl
      | some o =>
        obtain ⟨ho, h0⟩ := lrF_s h
        obtain ⟨k1, k2, k3, _⟩ := com_all hK ho (Or.inl h0)
        have := wt0_com k2 ho h0 k3
        omega
    refine r178_2t hV.1 hV.2.1 hV.2.2 ?_
    have fin : X 178 49 [.inr (.inr (12, (some 0))), .inl (bz true), .inl (ov (lrF M n)), .inl (-1)] [] t Q := by
      rw [hnone]
      refine r178_49n hV.1 hV.2.1 hV.2.2 ?_
      exact r178_2f hV.1 hV.2.1 hV.2.2 (q t hV rfl)
    cases n with
    | zero => exact r178_15e (f := lrF M 0) hV.1 hV.2.1 hV.2.2 (fun j hj => (lrF_s hj).1) fin
    | succ n =>
      rw [show (io (n + 1) - 1 : Int32) = io n from io_sub (p := n + 1) (q := 1) (by omega)]
      exact v178_15 hV fin n 0 rfl
  | succ f ih =>
    intro M t y0 y1 hV hK hw q
    refine r178_2t hV.1 hV.2.1 hV.2.2 ?_
    have fin : X 178 49 [.inr (.inr (12, (some 0))), .inl (bz true), .inl (ov (lrF M n)), .inl (-1)] [] t Q := by
      cases h : lrF M n with
      | none =>
        rw [fol_n h] at q
        refine r178_49n hV.1 hV.2.1 hV.2.2 ?_
        exact r178_2f hV.1 hV.2.1 hV.2.2 (q t hV rfl)
      | some o =>
        rw [fol_s h] at q
        obtain ⟨ho, h0⟩ := lrF_s h
        have hn := hV.2.2.2.1
        obtain ⟨k1, k2, k3, _⟩ := com_all hK ho (Or.inl h0)
        have hlt := wt0_com k2 ho h0 k3
        obtain ⟨hJ, _, _, hWl, T, hT, hT4⟩ := hK
        have hne : (!(decide ((io o) = (-1)))) = true := by rw [decide_eq_false (io_m1 (by omega))]; rfl
        refine r178_49s hV.1 hV.2.1 hV.2.2 ho (fun hf => by rw [hne] at hf; cases hf) (fun _ => ?_)
        rw [hne]
        refine v176 hV hJ ho (Or.inl h0) (hWl o ho h0) hT hT4 (fun t1 g1 c1 => ?_)
        refine sK_v (pc' := 69) rfl ?_
        refine r178_69 g1.1 g1.2.1 g1.2.2 ho ?_
        exact ih (comF M n o) t1 _ _ g1 k1 (by omega) (fun t2 g2 c2 => q t2 g2 (c2.trans c1))
    cases n with
    | zero => exact r178_15e (f := lrF M 0) hV.1 hV.2.1 hV.2.2 (fun j hj => (lrF_s hj).1) fin
    | succ n =>
      rw [show (io (n + 1) - 1 : Int32) = io n from io_sub (p := n + 1) (q := 1) (by omega)]
      exact v178_15 hV fin n 0 rfl
theorem v178 (hV : Vr t M n) (hK : Kv M n) (hf : wt0 M n ≤ f) (q : ∀ t', Vr t' (folF n f M) n → cp t' = cp t → Q (.inl none) t') :
    X 178 0 [.inr (.inr (12, (some 0))), sJk, sJk, sJk] [] t Q :=
  r178_0 hV.1 hV.2.1 hV.2.2 (v178_2 f M t _ _ hV hK hf q)
end S83
