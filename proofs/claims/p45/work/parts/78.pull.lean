/-! quotes pulled: the class by members, the reference by orders -/
section S78
variable {t t' t0 : sT} {M M' M0 N : sM} {n T A B b c m o k x y K w f v j : Nat} {p a d sz : Int32} {s z : Bool} {L L' l : List Nat} {P P' : Nat → Bool} {y0 y1 y2 : sV} {Q : sRs → sT → Prop}
/-- some orders withdrawn at once -/
def wdF (M : sM) (P : Nat → Bool) : sM := (fun q k => if q = 17 ∧ P k = true then 0 else if q = 19 ∧ P k = true then 3 else mA M q k, mB M, mI M)
theorem wd_19 : mA (wdF M P) 19 k = if P k = true then 3 else mA M 19 k := by
  show (if 19 = 17 ∧ P k = true then (0 : Int32) else if 19 = 19 ∧ P k = true then 3 else mA M 19 k) = _
  rw [if_neg (c := 19 = 17 ∧ P k = true) (fun z => by cases z.1)]
  by_cases e : P k = true
  · rw [if_pos ⟨rfl, e⟩, if_pos e]
  · rw [if_neg (c := 19 = 19 ∧ P k = true) (fun z => e z.2), if_neg e]
theorem wd_o {q : Nat} (h1 : ¬ q = 17) (h2 : ¬ q = 19) : mA (wdF M P) q = mA M q := funext fun r => by
  show (if q = 17 ∧ P r = true then (0 : Int32) else if q = 19 ∧ P r = true then 3 else mA M q r) = _
  rw [if_neg (fun z => h1 z.1), if_neg (fun z => h2 z.1)]
theorem wd_B : mB (wdF M P) = mB M := rfl
theorem wd_oM : oM (wdF M P) = oM M := by unfold oM; rw [wd_o (by decide) (by decide)]
theorem wd_no (h : ∀ k, P k = false) : wdF M P = M := by
  refine Prod.ext (funext fun q => funext fun r => ?_) rfl
  show (if q = 17 ∧ P r = true then (0 : Int32) else if q = 19 ∧ P r = true then 3 else mA M q r) = mA M q r
  rw [if_neg (fun z => by rw [h r] at z; cases z.2), if_neg (fun z => by rw [h r] at z; cases z.2)]
theorem wd_wd : wdF (wdF M P) P' = wdF M (fun k => P k || P' k) := by
  refine Prod.ext (funext fun q => funext fun r => ?_) rfl
  show (if q = 17 ∧ P' r = true then (0 : Int32) else if q = 19 ∧ P' r = true then 3 else if q = 17 ∧ P r = true then (0 : Int32) else if q = 19 ∧ P r = true then 3 else mA M q r) = if q = 17 ∧ (P r || P' r) = true then (0 : Int32) else if q = 19 ∧ (P r || P' r) = true then 3 else mA M q r
  cases h1 : P r <;> cases h2 : P' r <;> by_cases e1 : q = 17 <;> by_cases e2 : q = 19 <;> simp [e1, e2]
theorem wd_cn : cnF M x = wdF M (fun k => decide (k = x)) := by
  refine Prod.ext (funext fun q => funext fun r => ?_) rfl
  show (if q = 17 ∧ r = x then (0 : Int32) else if q = 19 ∧ r = x then 3 else mA M q r) = if q = 17 ∧ decide (r = x) = true then (0 : Int32) else if q = 19 ∧ decide (r = x) = true then 3 else mA M q r
  by_cases e : r = x
  · rw [decide_eq_true e]; simp [e]
  · rw [decide_eq_false e]; simp [e]
def pq (M : sM) (k : Nat) : Bool := (decide (0 < mA M 8 (oM M k)) && decide (mA M 8 (oM M k) < mA M 26 (oM M k))) && (mB M 4 k && decide (mA M 19 k = 1))
theorem wd_19n (h : P K = false) : mA (wdF M P) 19 K = mA M 19 K := by rw [wd_19, h]; exact if_neg Bool.false_ne_true
theorem pq_wd (h : P K = false) : pq (wdF M P) K = pq M K := by
  unfold pq
  rw [wd_19n h, wd_oM, wd_o (q := 8) (by decide) (by decide), wd_o (q := 26) (by decide) (by decide), wd_B]
theorem poS_e : poS N n K = bif pq N K then cnF N K else N := by
  unfold poS pq
  cases decide (0 < mA N 8 (oM N K)) <;> cases decide (mA N 8 (oM N K) < mA N 26 (oM N K)) <;> cases mB N 4 K <;> cases decide (mA N 19 K = 1) <;> rfl
theorem po_wd : ∀ K, poL M n K = wdF M (fun k => decide (k < K) && pq M k)
  | 0 => (wd_no (fun k => by rw [decide_eq_false (Nat.not_lt_zero k)]; rfl)).symm
  | K + 1 => by
    have e : poL M n (K + 1) = poS (poL M n K) n K := rfl
    rw [e, po_wd K]
    have h9 : (fun k => decide (k < K) && pq M k) K = false := by show (decide (K < K) && pq M K) = false; rw [decide_eq_false (Nat.lt_irrefl K)]; rfl
    rw [poS_e, pq_wd h9, wd_cn, wd_wd]
    cases hp : pq M K with
    | true =>
      show wdF M (fun k => (decide (k < K) && pq M k) || decide (k = K)) = _
      refine congrArg (wdF M) (funext fun k => ?_)
      by_cases e3 : k = K
      · rw [e3, hp]; simp
      · rw [decide_eq_false e3, show decide (k < K + 1) = decide (k < K) from decide_eq_decide.mpr (by omega)]; simp
    | false =>
      show wdF M (fun k => decide (k < K) && pq M k) = _
      refine congrArg (wdF M) (funext fun k => ?_)
      by_cases e3 : k = K
      · rw [e3, hp]; simp
      · rw [show decide (k < K + 1) = decide (k < K) from decide_eq_decide.mpr (by omega)]
def qq (M : sM) (m k : Nat) : Bool := mB M 4 k && (decide (oM M k = m) && (decide (mA M 19 k = 0) || decide (mA M 19 k = 1)))
theorem qq_wd (h : P K = false) : qq (wdF M P) m K = qq M m K := by
  unfold qq
  rw [wd_19n h, wd_oM, wd_B]
theorem wqS_e : wqn_S N n m K = bif qq N m K then cnF N K else N := by
  unfold wqn_S qq
  cases mB N 4 K <;> cases decide (oM N K = m) <;> cases decide (mA N 19 K = 0) <;> cases decide (mA N 19 K = 1) <;> rfl
theorem wq_wd : ∀ K, wqn_L M n m K = wdF M (fun k => decide (k < K) && qq M m k)
  | 0 => (wd_no (fun k => by rw [decide_eq_false (Nat.not_lt_zero k)]; rfl)).symm
  | K + 1 => by
    have e : wqn_L M n m (K + 1) = wqn_S (wqn_L M n m K) n m K := rfl
    rw [e, wq_wd K]
    have h9 : (fun k => decide (k < K) && qq M m k) K = false := by show (decide (K < K) && qq M m K) = false; rw [decide_eq_false (Nat.lt_irrefl K)]; rfl
    rw [wqS_e, qq_wd h9, wd_cn, wd_wd]
    cases hp : qq M m K with
    | true =>
      show wdF M (fun k => (decide (k < K) && qq M m k) || decide (k = K)) = _
      refine congrArg (wdF M) (funext fun k => ?_)
      by_cases e3 : k = K
      · rw [e3, hp]; simp
      · rw [decide_eq_false e3, show decide (k < K + 1) = decide (k < K) from decide_eq_decide.mpr (by omega)]; simp
    | false =>
      show wdF M (fun k => decide (k < K) && qq M m k) = _
      refine congrArg (wdF M) (funext fun k => ?_)
      by_cases e3 : k = K
      · rw [e3, hp]; simp
      · rw [show decide (k < K + 1) = decide (k < K) from decide_eq_decide.mpr (by omega)]
/-- quotes never wait -/
def Qn (M : sM) (n : Nat) : Prop := ∀ k, k < n → mB M 4 k = true → ¬ mA M 19 k = 0
/-- the quotes of members below j pulled -/
def Pj (M : sM) (n j : Nat) : Nat → Bool := fun k => decide (oM M k < j) && (decide (k < n) && pq M k)
theorem Pj_0 : wdF M (Pj M n 0) = M := wd_no (fun k => by unfold Pj; rw [decide_eq_false (Nat.not_lt_zero _)]; rfl)
theorem Pj_6 (hR : Ri M n) : wdF M (Pj M n 6) = poF M n := by
  have e : poF M n = poL M n n := rfl
  rw [e, po_wd]
  refine congrArg (wdF M) (funext fun k => ?_)
  unfold Pj
  by_cases h : k < n
  · rw [decide_eq_true (gm6 hR h)]; rfl
  · rw [decide_eq_false h]; simp
theorem Pj_no (h : ¬ (0 < mA M 8 j ∧ mA M 8 j < mA M 26 j)) : wdF M (Pj M n (j + 1)) = wdF M (Pj M n j) := by
  refine congrArg (wdF M) (funext fun k => ?_)
  unfold Pj
  by_cases e : oM M k = j
  · have e2 : pq M k = false := by
      unfold pq
      rw [e]
      by_cases h1 : 0 < mA M 8 j
      · rw [decide_eq_false (fun h2 => h ⟨h1, h2⟩)]; simp
      · rw [decide_eq_false h1]; simp
    rw [e2]; simp
  · rw [show decide (oM M k < j + 1) = decide (oM M k < j) from decide_eq_decide.mpr (by omega)]
theorem Pj_yes (hQ : Qn M n) (h1 : 0 < mA M 8 j) (h2 : mA M 8 j < mA M 26 j) : wdF M (Pj M n (j + 1)) = wqnF (wdF M (Pj M n j)) n j := by
  have e : wqnF (wdF M (Pj M n j)) n j = wqn_L (wdF M (Pj M n j)) n j n := rfl
  rw [e, wq_wd, wd_wd]
  refine congrArg (wdF M) (funext fun k => ?_)
  unfold Pj qq
  rw [wd_19, wd_oM, wd_B]
  by_cases hk : k < n
  · by_cases ej : oM M k = j
    · rw [decide_eq_true hk, decide_eq_true ej, show decide (oM M k < j + 1) = true from decide_eq_true (by omega), show decide (oM M k < j) = false from decide_eq_false (by omega)]
      unfold pq
      rw [ej, decide_eq_true h1, decide_eq_true h2]
      cases hb : mB M 4 k with
      | false => rfl
      | true =>
        rw [if_neg (by rw [Bool.false_and]; exact Bool.false_ne_true), decide_eq_false (hQ k hk hb)]
        rfl
    · rw [decide_eq_false ej, show decide (oM M k < j + 1) = decide (oM M k < j) from decide_eq_decide.mpr (by omega)]
      simp
  · rw [decide_eq_false hk]; simp
theorem w141_run (hM : Wc t M n T L A B) (hQ : Qn M n) : ∀ (d j : Nat) (y0 : sV) (t1 : sT), j + d = 6 → Wc t1 (wdF M (Pj M n j)) n T L A B → ep t1 = ep t →
    (∀ t', Wc t' (poF M n) n T L A B → ep t' = ep t → Q (.inl none) t') →
    X 141 13 [.inr (.inr (11, (some 0))), .inr (.inr (26, (some 0))), .inl 6, .inl (io j), y0] [] t1 Q
  | 0, j, y0, t1, e, hW, he, q => by
    have e : j = 6 := by omega
    subst e
    rw [Pj_6 (W_R hM)] at hW
    exact n141_e hW (q t1 hW he)
  | d + 1, j, y0, t1, e, hW, he, q => by
    have hj : j < 6 := by omega
    have e8 : mA (wdF M (Pj M n j)) 8 j = mA M 8 j := by rw [wd_o (by decide) (by decide)]
    have e26 : mA (wdF M (Pj M n j)) 26 j = mA M 26 j := by rw [wd_o (by decide) (by decide)]
    refine n141_k hW hj (fun h => ?_) (fun h1 h2 => ?_) (fun h1 h2 => ?_)
    · rw [e8] at h
      exact w141_run hM hQ d (j + 1) _ t1 (by omega) (by rw [Pj_no (fun z => h z.1)]; exact hW) he q
    · rw [e8, e26] at h2
      exact w141_run hM hQ d (j + 1) _ t1 (by omega) (by rw [Pj_no (fun z => h2 z.2)]; exact hW) he q
    · rw [e8] at h1
      rw [e8, e26] at h2
      refine c32n hW.1 hW.2.1 hW.2.2.1 hW.2.2.2.1 hj (fun t2 g1 g2 g3 => ?_)
      refine sK_v (pc' := 54) rfl ?_
      have hW2 : Wc t2 (wqnF (wdF M (Pj M n j)) n j) n T L A B := W_np hW g1 g2 g3 (Fc_wqnF (Fc.refl _))
      refine n141_54 hW2 hj ?_
      exact w141_run hM hQ d (j + 1) _ t2 (by omega) (by rw [Pj_yes hQ h1 h2]; exact hW2) ((ep_np g2).trans he) q
theorem w141 (hW : Wc t M n T L A B) (hQ : Qn M n) (q : ∀ t', Wc t' (poF M n) n T L A B → ep t' = ep t → Q (.inl none) t') :
    X 141 0 [.inr (.inr (11, (some 0))), sJk, sJk, sJk, sJk] [] t Q :=
  n141_0 hW (w141_run hW hQ 6 0 _ t rfl (by rw [Pj_0]; exact hW) rfl q)
end S78
