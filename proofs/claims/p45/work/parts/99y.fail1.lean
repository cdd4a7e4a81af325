/-! fail: who takes over; the orders withdrawn; both sides -/
section S99y
variable {t t' t0 : sT} {M M' M0 N Y Z R : sM} {n T A B b c m o k K w v e q j i d : Nat} {p a h u g p0 p1 : Int32} {s z : Bool} {L L' l : List Nat} {r r0 : Option Nat} {y0 y1 : sV} {Q : sRs → sT → Prop}
theorem mg3g {x1 x2 x3 a1 a2 a3 : Int32} : ((0 - (x1 * a1)) - (x2 * a2)) - (x3 * a3) = -(((x1 * a1) + (x2 * a2)) + (x3 * a3)) := by
  rw [neg3, Int32.sub_eq_add_neg, Int32.sub_eq_add_neg, Int32.sub_eq_add_neg, Int32.zero_add]
theorem cm2_mg : cm2F M n k m = mgF M n ((mA M 6 (3 * k)) + (mA M 6 (3 * m))) ((mA M 6 ((3 * k) + 1)) + (mA M 6 ((3 * m) + 1))) ((mA M 6 ((3 * k) + 2)) + (mA M 6 ((3 * m) + 2))) := by
  unfold cm2F mgF
  simp only [mx_mxc, mg3g]
  rfl
/-- who may take over -/
def tbC (M : sM) (n m k : Nat) : Bool := mB M 1 k && (!(decide (k = m)) && (!(mB M 2 k) && !(decide (fdF M n k + mA M 9 k < cm2F M n k m))))
def tbS (M : sM) (n m k : Nat) (r : Option Nat) : Option Nat := bif tbC M n m k && (match r with | none => true | some j => decide (mA M 9 k < mA M 9 j)) then some k else r
def tkrL (M : sM) (n m : Nat) : Nat → Option Nat
  | 0 => none
  | k + 1 => tbS M n m k (tkrL M n m k)
theorem tkrL_lt : ∀ k j, tkrL M n m k = some j → j < k
  | 0, j, h => by cases h
  | k + 1, j, h => by
    have e : tkrL M n m (k + 1) = (bif tbC M n m k && (match tkrL M n m k with | none => true | some j => decide (mA M 9 k < mA M 9 j)) then some k else tkrL M n m k) := rfl
    rw [e] at h
    cases hz : (tbC M n m k && (match tkrL M n m k with | none => true | some j => decide (mA M 9 k < mA M 9 j))) with
    | true =>
      rw [hz] at h
      have e1 : k = j := Option.some.inj h
      omega
    | false =>
      rw [hz] at h
      have := tkrL_lt k j h
      omega
theorem tb_no (h : tbC M n m k = false) : tbS M n m k r = r := by unfold tbS; rw [h]; rfl
theorem tb_n (h : tbC M n m k = true) : tbS M n m k none = some k := by unfold tbS; rw [h]; rfl
theorem tb_s (h : tbC M n m k = true) (h2 : mA M 9 k < mA M 9 j) : tbS M n m k (some j) = some k := by
  show (bif tbC M n m k && decide (mA M 9 k < mA M 9 j) then some k else some j) = some k
  rw [h, decide_eq_true h2]; rfl
theorem tb_k (h2 : ¬ mA M 9 k < mA M 9 j) : tbS M n m k (some j) = some j := by
  show (bif tbC M n m k && decide (mA M 9 k < mA M 9 j) then some k else some j) = some j
  rw [decide_eq_false h2, Bool.and_false]; rfl
theorem tc_1 (h : mB M 1 k = false) : tbC M n m k = false := by unfold tbC; rw [h]; rfl
theorem tc_2 (h : k = m) : tbC M n m k = false := by unfold tbC; rw [decide_eq_true h]; simp
theorem tc_3 (h : mB M 2 k = true) : tbC M n m k = false := by unfold tbC; rw [h]; simp
theorem tc_4 (h : fdF M n k + mA M 9 k < cm2F M n k m) : tbC M n m k = false := by unfold tbC; rw [decide_eq_true h]; simp
theorem tc_5 (h1 : mB M 1 k = true) (h2 : ¬ k = m) (h3 : mB M 2 k = false) (h4 : ¬ fdF M n k + mA M 9 k < cm2F M n k m) : tbC M n m k = true := by unfold tbC; rw [h1, decide_eq_false h2, h3, decide_eq_false h4]; rfl
/-- the class -/
theorem w15_run (hW : Wc t M n T L A B) (hm : m < 6) (q : Q (.inl (some (.inr (.inr (7, tkrL M n m 6))))) t) : ∀ (d k : Nat) (y0 y1 : sV), k + d = 6 →
    X 15 17 [.inr (.inr (3, (some 0))), .inr (.inr (7, (some m))), .inr (.inr (7, tkrL M n m k)), .inr (.inr (26, (some 0))), .inl 6, .inl (io k), y0, y1] [] t Q
  | 0, k, y0, y1, hk => by
    have e : k = 6 := by omega
    subst e
    exact n15_e hW hm q
  | d + 1, k, y0, y1, hk => by
    have hk6 : k < 6 := by omega
    have go : ∀ (r : Option Nat) (x0 x1 : sV), tbS M n m k (tkrL M n m k) = r → X 15 17 [.inr (.inr (3, (some 0))), .inr (.inr (7, (some m))), .inr (.inr (7, r)), .inr (.inr (26, (some 0))), .inl 6, .inl (io (k + 1)), x0, x1] [] t Q := fun r x0 x1 e => by
      have e2 : tkrL M n m (k + 1) = r := e
      rw [← e2]
      exact w15_run hW hm q d (k + 1) x0 x1 (by omega)
    cases hr : tkrL M n m k with
    | none =>
      rw [hr] at go
      refine n15_kn hW hm hk6 (fun h => ?_) (fun _ h => ?_) (fun _ _ h => ?_) (fun _ _ _ h => ?_) (fun h1 h2 h3 h4 => ?_)
      · exact go _ _ _ (tb_no (tc_1 h))
      · exact go _ _ _ (tb_no (tc_2 h))
      · exact go _ _ _ (tb_no (tc_3 h))
      · exact go _ _ _ (tb_no (tc_4 h))
      · exact go _ _ _ (tb_n (tc_5 h1 h2 h3 h4))
    | some j =>
      have hj : j < 6 := by have := tkrL_lt k j hr; omega
      rw [hr] at go
      refine n15_ks hW hm hk6 hj (fun h _ => ?_) (fun h _ => ?_) (fun _ h => ?_) (fun _ _ h => ?_) (fun _ _ _ h => ?_) (fun _ _ _ _ h => ?_) (fun h0 h1 h2 h3 h4 => ?_)
      · exact go _ _ _ (tb_k h)
      · exact go _ _ _ (tb_k h)
      · exact go _ _ _ (tb_no (tc_1 h))
      · exact go _ _ _ (tb_no (tc_2 h))
      · exact go _ _ _ (tb_no (tc_3 h))
      · exact go _ _ _ (tb_no (tc_4 h))
      · exact go _ _ _ (tb_s (tc_5 h1 h2 h3 h4) h0)
theorem w15 (hW : Wc t M n T L A B) (hm : m < 6) (q : Q (.inl (some (.inr (.inr (7, tkrL M n m 6))))) t) :
    X 15 0 [.inr (.inr (3, (some 0))), .inr (.inr (7, (some m))), sJk, sJk, sJk, sJk, sJk, sJk] [] t Q :=
  n15_0 hW hm (w15_run hW hm q 6 0 _ _ rfl)
/-- the orders of the one in default are withdrawn -/
theorem w31 (hW : Wc t M n T L A B) (hm : m < 6) (q : ∀ t', Wc t' (waF_ M n m) n T L A B → ep t' = ep t → Q (.inl none) t') :
    X 31 0 [.inr (.inr (4, (some 0))), .inr (.inr (7, (some m))), sJk, sJk] [] t Q :=
  c31 hW.1 hW.2.1 hW.2.2.1 hW.2.2.2.1 hm (fun t' h1 h2 h3 => q t' (W_np hW h1 h2 h3 (Fc_waF_ (Fc.refl M))) (ep_np h2))
theorem wa_Fr : ∀ k, Fr (wa_L M n m k) M := fun k => (Fc_wa_L (Fc.refl M) k).fr
end S99y
