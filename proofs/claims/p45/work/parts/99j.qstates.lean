/-! quotes: the states between -/
section S99j
variable {t t' t0 : sT} {M M' M0 N Y Z R F1 : sM} {n T A B b c m o k x y K w v j F e f q g : Nat} {p a h d sz u p0 p1 : Int32} {s z : Bool} {L L' l : List Nat} {r r0 : Option Nat} {y0 y1 y2 : sV} {P : Nat → Bool} {Q : sRs → sT → Prop}
theorem fol_K : ∀ (f : Nat) (M : sM), Kv M n → Kv (folF n f M) n
  | 0, _, h => h
  | f + 1, M, h => by
    cases e : lrF M n with
    | none => rw [fol_n e]; exact h
    | some o =>
      obtain ⟨ho, h0⟩ := lrF_s e
      rw [fol_s e]; exact fol_K f _ (com_all h ho (Or.inl h0)).1
theorem lay_eA {q k : Nat} (hq : q < 12 ∨ 20 < q ∨ ¬ k = n) : mA (layM M n m b s p a h) q k = mA M q k := by
  by_cases e : k = n
  · exact lay_q (by omega)
  · exact lay_o e
theorem lay_eB {q k : Nat} (hq : q < 3 ∨ 6 < q ∨ ¬ k = n) : mB (layM M n m b s p a h) q k = mB M q k := by
  by_cases e : k = n
  · exact lay_Bq (by omega)
  · exact lay_Bo e
theorem lay_is (hA : ∀ q k, (q < 12 ∨ 20 < q ∨ ¬ k = n) → mA Z q k = mA M q k) (hB : ∀ q k, (q < 3 ∨ 6 < q ∨ ¬ k = n) → mB Z q k = mB M q k) (hI : ∀ F, ¬ F = 786 → mI Z F = mI M F) (h786 : mI Z 786 = io (n + 1))
    (h12 : mA Z 12 n = io m) (h13 : mA Z 13 n = io b) (h14 : mA Z 14 n = p) (h15 : mA Z 15 n = a) (h16 : mA Z 16 n = h) (h17 : mA Z 17 n = 0) (h18 : mA Z 18 n = 0) (h19 : mA Z 19 n = 0) (h20 : mA Z 20 n = 0) (b3 : mB Z 3 n = s) (b4 : mB Z 4 n = false) (b5 : mB Z 5 n = false) (b6 : mB Z 6 n = false) : Z = layM M n m b s p a h := by
  refine sM_ext (fun q k => ?_) (fun q k => ?_) (fun F => ?_)
  · by_cases e : q < 12 ∨ 20 < q ∨ ¬ k = n
    · rw [hA q k e]; exact (lay_eA e).symm
    · have e1 : k = n := by omega
      have e2 : q = 12 ∨ q = 13 ∨ q = 14 ∨ q = 15 ∨ q = 16 ∨ q = 17 ∨ q = 18 ∨ q = 19 ∨ q = 20 := by omega
      rw [e1]
      rcases e2 with e | e | e | e | e | e | e | e | e <;> rw [e]
      · rw [h12, lay_12]
      · rw [h13, lay_13]
      · rw [h14, lay_14]
      · rw [h15, lay_15]
      · rw [h16, lay_16]
      · rw [h17, lay_17]
      · rw [h18, lay_18]
      · rw [h19, lay_19]
      · rw [h20, lay_20]
  · by_cases e : q < 3 ∨ 6 < q ∨ ¬ k = n
    · rw [hB q k e]; exact (lay_eB e).symm
    · have e1 : k = n := by omega
      have e2 : q = 3 ∨ q = 4 ∨ q = 5 ∨ q = 6 := by omega
      rw [e1]
      rcases e2 with e | e | e | e <;> rw [e]
      · rw [b3, lay_B3]
      · rw [b4, lay_B4]
      · rw [b5, lay_B5]
      · rw [b6, lay_B6]
  · by_cases e : F = 786
    · rw [e, h786, lay_786]
    · rw [hI F e, lay_I e]
theorem wd_cell : mA (wdF M P) q k = if q = 17 ∧ P k = true then 0 else if q = 19 ∧ P k = true then 3 else mA M q k := rfl
theorem wd_f (h : P k = false) : mA (wdF M P) q k = mA M q k := by
  rw [wd_cell, if_neg (fun g => by rw [h] at g; cases g.2), if_neg (fun g => by rw [h] at g; cases g.2)]
theorem wd_I : mI (wdF M P) = mI M := rfl
theorem lay_wd (hP : P n = false) : wdF (layM M n m b s p a h) P = layM (wdF M P) n m b s p a h :=
  lay_is (fun q k e => by rw [wd_cell, wd_cell, lay_eA e]) (fun q k e => by rw [wd_B, wd_B]; exact lay_eB e) (fun F e => by rw [wd_I, wd_I]; exact lay_I e) (by rw [wd_I]; exact lay_786)
    ((wd_f hP).trans lay_12) ((wd_f hP).trans lay_13) ((wd_f hP).trans lay_14) ((wd_f hP).trans lay_15) ((wd_f hP).trans lay_16) ((wd_f hP).trans lay_17) ((wd_f hP).trans lay_18) ((wd_f hP).trans lay_19) ((wd_f hP).trans lay_20)
    (by rw [wd_B]; exact lay_B3) (by rw [wd_B]; exact lay_B4) (by rw [wd_B]; exact lay_B5) (by rw [wd_B]; exact lay_B6)
theorem aw_cell {q' : Nat} {v : Int32} : mA (mAw M q x v) q' k = if q' = q ∧ k = x then v else mA M q' k := rfl
theorem aw_ne {q' : Nat} {v : Int32} (h : ¬ (q' = q ∧ k = x)) : mA (mAw M q x v) q' k = mA M q' k := if_neg h
theorem lay_aw {v : Int32} (hq : q < 12 ∨ 20 < q ∨ ¬ x = n) : mAw (layM M n m b s p a h) q x v = layM (mAw M q x v) n m b s p a h :=
  lay_is (fun q' k e => by rw [aw_cell, aw_cell, lay_eA e]) (fun q' k e => by rw [mB_aw, mB_aw]; exact lay_eB e) (fun F e => by rw [mI_aw, mI_aw]; exact lay_I e) (by rw [mI_aw]; exact lay_786)
    ((aw_ne (by omega)).trans lay_12) ((aw_ne (by omega)).trans lay_13) ((aw_ne (by omega)).trans lay_14) ((aw_ne (by omega)).trans lay_15) ((aw_ne (by omega)).trans lay_16) ((aw_ne (by omega)).trans lay_17) ((aw_ne (by omega)).trans lay_18) ((aw_ne (by omega)).trans lay_19) ((aw_ne (by omega)).trans lay_20)
    (by rw [mB_aw]; exact lay_B3) (by rw [mB_aw]; exact lay_B4) (by rw [mB_aw]; exact lay_B5) (by rw [mB_aw]; exact lay_B6)
theorem lay_nq : nqF (layM M n m b s p a h) = layM (nqF M) n m b s p a h := by
  unfold nqF
  rw [lay_aw (Or.inr (Or.inl (by decide))), lay_aw (Or.inr (Or.inl (by decide))), lay_aw (Or.inr (Or.inl (by decide))), lay_aw (Or.inr (Or.inl (by decide))), lay_aw (Or.inr (Or.inl (by decide))), lay_aw (Or.inr (Or.inl (by decide)))]
/-- withdrawn -/
theorem Kv_cn (hK : Kv M n) (hx : x < n) : Kv (cnF M x) n := by
  obtain ⟨hJ, hR, hQ, hl, hT⟩ := hK
  refine ⟨Jv_cn hJ hx, (Fr_cnF (Fr.refl M)).ri hR, fun k hk h4 h0 => ?_, fun k hk h0 => ?_, hT⟩
  · rw [cn_19] at h0
    by_cases e : k = x
    · rw [if_pos e] at h0; exact absurd h0 (by decide)
    · rw [if_neg e] at h0; exact hQ k hk h4 h0
  · rw [cn_19] at h0
    by_cases e : k = x
    · rw [if_pos e] at h0; exact absurd h0 (by decide)
    · rw [if_neg e] at h0; exact hl k hk h0
theorem Kv_c {z : Bool} (h1 : Kv M n) (h2 : Kv N n) : Kv (bif z then M else N) n := by cases z; exact h2; exact h1
theorem Kv_wqs (hK : Kv M n) : ∀ k, k ≤ n → Kv (wqs_L M n m b k) n
  | 0, _ => hK
  | k + 1, hk => by
    have h := Kv_wqs hK k (by omega)
    show Kv (wqs_S (wqs_L M n m b k) n m b k) n
    generalize wqs_L M n m b k = Y at h
    exact Kv_c (Kv_c (Kv_c (Kv_c (Kv_cn h (by omega)) h) h) h) h
theorem Kv_B4 (hK : Kv M n) (h : ¬ mA M 19 x = 0) : Kv (mBw M 4 x true) n := by
  obtain ⟨hJ, hR, hQ, hl, hT⟩ := hK
  refine ⟨hJ, (Fr_B rfl (Fr.refl M)).ri hR, fun k hk h4 => ?_, hl, hT⟩
  by_cases e : k = x
  · rw [e]; exact h
  · rw [bw_o e] at h4; exact hQ k hk h4
theorem Kv_10 {v : Int32} (hK : Kv M n) : Kv (mAw M 10 x v) n := Kv_cg (fun q k hq => aw_q (by omega)) (fun _ _ => rfl) rfl rfl rfl hK
/-- what the class withdraws, at once -/
def qs (M : sM) (m b k : Nat) : Bool := decide (oB M k = b) && qq M m k
theorem qs_wd (h : P K = false) : qs (wdF M P) m b K = qs M m b K := by
  unfold qs
  rw [qq_wd h]
  unfold oB
  rw [wd_o (by decide) (by decide)]
theorem wqs_e : wqs_S N n m b K = bif qs N m b K then cnF N K else N := by
  unfold wqs_S qs qq
  cases decide (oB N K = b) <;> cases mB N 4 K <;> cases decide (oM N K = m) <;> cases decide (mA N 19 K = 0) <;> cases decide (mA N 19 K = 1) <;> rfl
theorem wqs_wd : ∀ K, wqs_L M n m b K = wdF M (fun k => decide (k < K) && qs M m b k)
  | 0 => (wd_no (fun k => by rw [decide_eq_false (Nat.not_lt_zero k)]; rfl)).symm
  | K + 1 => by
    have e : wqs_L M n m b (K + 1) = wqs_S (wqs_L M n m b K) n m b K := rfl
    rw [e, wqs_wd K]
    have h9 : (fun k => decide (k < K) && qs M m b k) K = false := by show (decide (K < K) && qs M m b K) = false; rw [decide_eq_false (Nat.lt_irrefl K)]; rfl
    rw [wqs_e, qs_wd h9, wd_cn, wd_wd]
    cases hp : qs M m b K with
    | true =>
      show wdF M (fun k => (decide (k < K) && qs M m b k) || decide (k = K)) = _
      refine congrArg (wdF M) (funext fun k => ?_)
      by_cases e3 : k = K
      · rw [e3, hp]; simp
      · rw [decide_eq_false e3, show decide (k < K + 1) = decide (k < K) from decide_eq_decide.mpr (by omega)]; simp
    | false =>
      show wdF M (fun k => decide (k < K) && qs M m b k) = _
      refine congrArg (wdF M) (funext fun k => ?_)
      by_cases e3 : k = K
      · rw [e3, hp]; simp
      · rw [show decide (k < K + 1) = decide (k < K) from decide_eq_decide.mpr (by omega)]
/-- the reference's note of quotes -/
def Qt (M : sM) (n m b : Nat) (r : Option Nat) : Prop := mA M 10 ((5 * m) + b) = ov r ∧ (∀ q, r = some q → q + 1 < n ∧ ∀ k, k = q ∨ k = q + 1 → mB M 4 k = true ∧ oM M k = m ∧ oB M k = b) ∧ ∀ k, k < n → mB M 4 k = true → oM M k = m → oB M k = b → (mA M 19 k = 0 ∨ mA M 19 k = 1) → ∃ q, r = some q ∧ (k = q ∨ k = q + 1)
def qlv (M : sM) (k : Nat) : Bool := decide (mA M 19 k = 0) || decide (mA M 19 k = 1)
def qP (M : sM) (r : Option Nat) (k : Nat) : Bool := match r with
  | none => false
  | some q => (decide (k = q) || decide (k = q + 1)) && qlv M k
theorem wqs_qP (h : Qt M n m b r) : wqsF M n m b = wdF M (qP M r) := by
  have e : wqsF M n m b = wqs_L M n m b n := rfl
  rw [e, wqs_wd]
  refine congrArg (wdF M) (funext fun k => ?_)
  obtain ⟨-, h2, h3⟩ := h
  apply Bool.eq_iff_iff.mpr
  constructor
  · intro g
    unfold qs qq at g
    simp only [Bool.and_eq_true, Bool.or_eq_true, decide_eq_true_eq] at g
    obtain ⟨g1, g2, g3, g4, g5⟩ := g
    obtain ⟨q, rfl, g6⟩ := h3 k g1 g3 g4 g2 g5
    unfold qP qlv
    simp only [Bool.and_eq_true, Bool.or_eq_true, decide_eq_true_eq]
    exact ⟨g6, g5⟩
  · intro g
    cases r with
    | none => cases g
    | some q =>
      unfold qP qlv at g
      simp only [Bool.and_eq_true, Bool.or_eq_true, decide_eq_true_eq] at g
      obtain ⟨hq, h4⟩ := h2 q rfl
      obtain ⟨a1, a2, a3⟩ := h4 k g.1
      unfold qs qq
      simp only [Bool.and_eq_true, Bool.or_eq_true, decide_eq_true_eq]
      exact ⟨by omega, a3, a1, a2, g.2⟩
/-- the reference's states with a quote put aside -/
def qC (M : sM) (r : Option Nat) : sM := match r with
  | none => M
  | some q => mAw (mAw M 19 q 3) 19 (q + 1) 3
theorem qC_19 : mA (qC M (some q)) 19 k = if k = q ∨ k = q + 1 then 3 else mA M 19 k := by
  show mA (mAw (mAw M 19 q 3) 19 (q + 1) 3) 19 k = _
  rw [aw_cell, aw_cell]
  by_cases e1 : k = q + 1
  · rw [if_pos ⟨rfl, e1⟩, if_pos (Or.inr e1)]
  · rw [if_neg (fun g => e1 g.2)]
    by_cases e2 : k = q
    · rw [if_pos ⟨rfl, e2⟩, if_pos (Or.inl e2)]
    · rw [if_neg (fun g => e2 g.2), if_neg (by omega)]
theorem qC_o {q' : Nat} (h : ¬ q' = 19) : mA (qC M r) q' = mA M q' := by
  cases r with
  | none => rfl
  | some q => exact (aw_f h).trans (aw_f h)
theorem qC_B : mB (qC M r) = mB M := by cases r <;> rfl
theorem qC_opn (h : Qt M n m b r) (hk : k < n) : opn (qC M r) m none k = opn M m (some b) k := by
  have e1 : oM (qC M r) k = oM M k := by unfold oM; rw [qC_o (by decide)]
  have e2 : oB (qC M r) k = oB M k := by unfold oB; rw [qC_o (by decide)]
  have e3 : opn (qC M r) m none k = (decide (oM M k = m) && (decide (mA (qC M r) 19 k = 0) || decide (mA (qC M r) 19 k = 1))) := by
    unfold opn
    rw [e1]
    simp
  rw [e3]
  obtain ⟨-, h2, h3⟩ := h
  unfold opn
  cases r with
  | none =>
    have e4 : mA (qC M none) 19 k = mA M 19 k := rfl
    rw [e4]
    apply Bool.eq_iff_iff.mpr
    simp only [Bool.and_eq_true, Bool.or_eq_true, decide_eq_true_eq, Bool.not_eq_true', Bool.and_eq_false_iff, decide_eq_false_iff_not]
    constructor
    · rintro ⟨g1, g2⟩
      refine ⟨g1, g2, ?_⟩
      by_cases g3 : mB M 4 k = true
      · refine Or.inr (fun g4 => ?_)
        obtain ⟨q, g5, -⟩ := h3 k hk g3 g1 (Option.some.inj g4) g2
        cases g5
      · exact Or.inl (by simpa using g3)
    · rintro ⟨g1, g2, g3⟩
      exact ⟨g1, g2⟩
  | some q =>
    obtain ⟨hq, h4⟩ := h2 q rfl
    rw [qC_19]
    by_cases e : k = q ∨ k = q + 1
    · obtain ⟨a1, a2, a3⟩ := h4 k e
      rw [if_pos e, a1, a3]
      simp
    · rw [if_neg e]
      apply Bool.eq_iff_iff.mpr
      simp only [Bool.and_eq_true, Bool.or_eq_true, decide_eq_true_eq, Bool.not_eq_true', Bool.and_eq_false_iff, decide_eq_false_iff_not]
      constructor
      · rintro ⟨g1, g2⟩
        refine ⟨g1, g2, ?_⟩
        by_cases g3 : mB M 4 k = true
        · refine Or.inr (fun g4 => ?_)
          obtain ⟨q', g5, g6⟩ := h3 k hk g3 g1 (Option.some.inj g4) g2
          cases g5
          exact e g6
        · exact Or.inl (by simpa using g3)
      · rintro ⟨g1, g2, g3⟩
        exact ⟨g1, g2⟩
theorem qC_op (h : Qt M n m b r) : ∀ k, k ≤ n → opL (qC M r) m none k = opL M m (some b) k
  | 0, _ => rfl
  | k + 1, hk => by
    have ih := qC_op h k (by omega)
    have e2 : oB (qC M r) k = oB M k := by unfold oB; rw [qC_o (by decide)]
    show (bif opn (qC M r) m none k then oaF (opL (qC M r) m none k) (oB (qC M r) k) (mB (qC M r) 3 k) (mA (qC M r) 15 k) else opL (qC M r) m none k) = (bif opn M m (some b) k then oaF (opL M m (some b) k) (oB M k) (mB M 3 k) (mA M 15 k) else opL M m (some b) k)
    rw [ih, e2, qC_opn h (by omega), qC_B, qC_o (by decide)]
/-- two orders laid -/
def qL (Y : sM) (n m b : Nat) (p u a : Int32) : sM := layM (layM Y n m b true p a a) (n + 1) m b false u a a
theorem qL_A {q k : Nat} (hq : q < 12 ∨ 20 < q ∨ k < n) : mA (qL Y n m b p u a) q k = mA Y q k := by
  unfold qL
  rw [lay_eA (by omega), lay_eA (by omega)]
theorem qL_B {q k : Nat} (hq : q < 3 ∨ 6 < q ∨ k < n) : mB (qL Y n m b p u a) q k = mB Y q k := by
  unfold qL
  rw [lay_eB (by omega), lay_eB (by omega)]
theorem qL_I (h : ¬ F = 786) : mI (qL Y n m b p u a) F = mI Y F := by
  unfold qL
  rw [lay_I h, lay_I h]
theorem qL_ag (hR : Ri M n) : Ag M (mIw (qL M n m b p u a) 786 (io n)) n := Ag_of (fun q k e => qL_A e) (fun q k e => qL_B e) (fun F e => qL_I e) hR
theorem qL_wd (h1 : P n = false) (h2 : P (n + 1) = false) : wdF (qL Y n m b p u a) P = qL (wdF Y P) n m b p u a := by
  unfold qL
  rw [lay_wd h2, lay_wd h1]
theorem qL_aw {v : Int32} (hq : q < 12 ∨ 20 < q ∨ x < n) : mAw (qL Y n m b p u a) q x v = qL (mAw Y q x v) n m b p u a := by
  unfold qL
  rw [lay_aw (by omega), lay_aw (by omega)]
theorem qL_nq : nqF (qL Y n m b p u a) = qL (nqF Y) n m b p u a := by
  unfold qL
  rw [lay_nq, lay_nq]
/-- put back -/
theorem aw_back {v w : Int32} (h1 : mA M 19 q = v) (h2 : mA M 19 (q + 1) = w) : mAw (mAw (qC M (some q)) 19 q v) 19 (q + 1) w = M := by
  refine sM_ext (fun q' k => ?_) (fun _ _ => by rw [mB_aw, mB_aw, qC_B]) (fun _ => rfl)
  rw [aw_cell, aw_cell]
  by_cases e1 : q' = 19 ∧ k = q + 1
  · rw [if_pos e1, e1.1, e1.2, h2]
  · rw [if_neg e1]
    by_cases e2 : q' = 19 ∧ k = q
    · rw [if_pos e2, e2.1, e2.2, h1]
    · rw [if_neg e2]
      by_cases e3 : q' = 19
      · rw [e3, qC_19, if_neg (by omega)]
      · rw [qC_o e3]
theorem qL_back {v w : Int32} (hq : q + 1 < n) (h1 : mA M 19 q = v) (h2 : mA M 19 (q + 1) = w) : mAw (mAw (qL (qC M (some q)) n m b p u a) 19 q v) 19 (q + 1) w = qL M n m b p u a := by
  rw [qL_aw (by omega), qL_aw (by omega), aw_back h1 h2]
/-- the two come -/
def qR (Z : sM) (n : Nat) : sM := mBw (mBw (mAw (mAw Z 19 n 4) 19 (n + 1) 4) 4 n true) 4 (n + 1) true
theorem qL_facts (hK : Kv Y n) (hn : n ≤ 198) (hm : m < 6) (hb : b < 5) (ha : inB a 1 100 = true) (hp : prB b p = true) (hu : prB b u = true) :
    Kv (qL Y n m b p u a) (n + 2) ∧ mA (qL Y n m b p u a) 19 n = 0 ∧ mA (qL Y n m b p u a) 19 (n + 1) = 0 ∧ 1 ≤ lfN (qL Y n m b p u a) n ∧ 1 ≤ lfN (qL Y n m b p u a) (n + 1) := by
  obtain ⟨e, rfl, he1, he⟩ := inB_100 ha
  have h1 : Kv (layM Y n m b true p (io e) (io e)) (n + 1) := lay_K hK (by omega) hm hb rfl he1 he rfl he1 he (prB_1000 hp)
  unfold qL lfN
  refine ⟨lay_K h1 (by omega) hm hb rfl he1 he rfl he1 he (prB_1000 hu), (lay_eA (by omega)).trans lay_19, lay_19, ?_, ?_⟩
  · rw [lay_eA (by omega), lay_15, nn_io (by omega)]; exact he1
  · rw [lay_15, nn_io (by omega)]; exact he1
theorem qR_facts (hK : Kv Z (n + 2)) (h1 : mA Z 19 n = 0) (h2 : mA Z 19 (n + 1) = 0) : Kv (qR Z n) (n + 2) ∧ mA (qR Z n) 19 n = 4 ∧ mA (qR Z n) 19 (n + 1) = 4 ∧ ∀ k, lfN (qR Z n) k = lfN Z k := by
  have g1 : mA (mAw (mAw Z 19 n 4) 19 (n + 1) 4) 19 n = 4 := (aw_o (by omega)).trans w4_19
  have g2 : mA (mAw (mAw Z 19 n 4) 19 (n + 1) 4) 19 (n + 1) = 4 := w4_19
  have k1 := Kv_4 hK (Nat.lt_succ_of_lt (Nat.lt_succ_self n)) (Or.inl h1)
  have k2 := Kv_4 k1 (Nat.lt_succ_self (n + 1)) (Or.inl ((aw_o (by omega)).trans h2))
  refine ⟨Kv_B4 (Kv_B4 k2 (by rw [g1]; decide)) (by rw [mA_B, g2]; decide), g1, g2, fun k => rfl⟩
/-- the first comes: with the second there or not -/
theorem q_half {f : Nat} (hK2 : Kv R (n + 2)) (hK1 : Kv (mIw R 786 (io (n + 1))) (n + 1)) (h4 : mA R 19 n = 4) (h5 : mA R 19 (n + 1) = 4) :
    folF (n + 1) f (comF (mIw R 786 (io (n + 1))) (n + 1) n) = mIw (folF (n + 2) f (comF R (n + 2) n)) 786 (io (n + 1)) ∧ Ux R (folF (n + 2) f (comF R (n + 2) n)) (n + 1) ∧ Kv (folF (n + 2) f (comF R (n + 2) n)) (n + 2) ∧ mI (folF (n + 2) f (comF R (n + 2) n)) 786 = mI R 786 := by
  have e1 : comF (mIw R 786 (io (n + 1))) (n + 2) n = comF (mIw R 786 (io (n + 1))) (n + 1) n := b_com hK1 (Nat.lt_succ_self n) (Or.inr h4) h5
  have u1 : Ux (mIw R 786 (io (n + 1))) (comF (mIw R 786 (io (n + 1))) (n + 1) n) (n + 1) := Ux_com hK1 (Nat.lt_succ_self n) (Or.inr h4) (Nat.le_refl _)
  have k1 := (com_all hK1 (Nat.lt_succ_self n) (Or.inr h4)).1
  have e2 : folF (n + 2) f (comF (mIw R 786 (io (n + 1))) (n + 1) n) = folF (n + 1) f (comF (mIw R 786 (io (n + 1))) (n + 1) n) := b_fol f _ k1 (u4 u1 h5)
  have u2 : Ux (mIw R 786 (io (n + 1))) (folF (n + 1) f (comF (mIw R 786 (io (n + 1))) (n + 1) n)) (n + 1) := u1.trans (Ux_fol (Nat.le_refl _) f _ k1)
  have e3 : comF (mIw R 786 (io (n + 1))) (n + 2) n = mIw (comF R (n + 2) n) 786 (io (n + 1)) := j_com (by decide) (by decide)
  have e4 : folF (n + 2) f (mIw (comF R (n + 2) n) 786 (io (n + 1))) = mIw (folF (n + 2) f (comF R (n + 2) n)) 786 (io (n + 1)) := j_fol (by decide) (by decide) f _
  have e5 : folF (n + 1) f (comF (mIw R 786 (io (n + 1))) (n + 1) n) = mIw (folF (n + 2) f (comF R (n + 2) n)) 786 (io (n + 1)) := by
    rw [← e4, ← e3, e1, e2]
  have k2 := (com_all hK2 (o := n) (by omega) (Or.inr h4)).1
  refine ⟨e5, ?_, fol_K f _ k2, ?_⟩
  · rw [e5] at u2
    exact ⟨u2.1, u2.2⟩
  · rw [fol_I (by decide) (by decide), com_I (by decide) (by decide)]
/-- the second: as it was laid before -/
theorem q_sell (h12 : mA F1 12 x = io m) (h13 : mA F1 13 x = io b) (h14 : mA F1 14 x = u) (h15 : mA F1 15 x = a) (h16 : mA F1 16 x = a) (h17 : mA F1 17 x = 0) (h18 : mA F1 18 x = 0) (h19 : mA F1 19 x = 4) (h20 : mA F1 20 x = 0) (b3 : mB F1 3 x = false) (b4 : mB F1 4 x = true) (b5 : mB F1 5 x = false) (b6 : mB F1 6 x = false) (hI : mI F1 786 = io (x + 1)) :
    mBw (la4 (mIw F1 786 (io x)) x m b false u a) 4 x true = F1 := by
  have e : mAw (mBw F1 4 x false) 19 x 0 = layM (mIw F1 786 (io x)) x m b false u a a := by
    refine lay_is (fun q k e => ?_) (fun q k e => ?_) (fun F e => ?_) hI h12 h13 h14 h15 h16 h17 h18 aw_s h20 b3 ?_ b5 b6
    · rw [aw_ne (by omega), mA_B, A_In]
    · rw [mB_aw, mB_iw]
      show (if q = 4 ∧ k = x then false else mB F1 q k) = mB F1 q k
      rw [if_neg (by omega)]
    · rw [mI_aw, mI_B, mI_o86 e]
    · rw [mB_aw]; exact bw_s
  unfold la4
  rw [← e, mAw_over]
  refine sM_ext (fun q k => ?_) (fun q k => ?_) (fun F => rfl)
  · rw [mA_B, aw_cell, mA_B]
    by_cases e1 : q = 19 ∧ k = x
    · rw [if_pos e1, e1.1, e1.2, h19]
    · rw [if_neg e1]
  · show (if q = 4 ∧ k = x then true else if q = 4 ∧ k = x then false else mB F1 q k) = mB F1 q k
    by_cases e1 : q = 4 ∧ k = x
    · rw [if_pos e1, e1.1, e1.2, b4]
    · rw [if_neg e1, if_neg e1]
theorem q_ag (hA : ∀ q k, (q < 12 ∨ 20 < q ∨ ¬ k = n + 1) → mA M q k = mA Z q k) (hB : ∀ q k, (q < 3 ∨ 6 < q ∨ ¬ k = n + 1) → mB M q k = mB Z q k) (hI : ∀ F, ¬ F = 786 → mI M F = mI Z F) (hZ : mI Z 786 = io (n + 1)) :
    Ag (mBw (mAw Z 19 n 4) 4 n true) (mIw (qR M n) 786 (io (n + 1))) (n + 1) := by
  refine ⟨fun q k e => ?_, fun q k e => ?_, fun F => ?_⟩
  · show (if q = 19 ∧ k = n + 1 then (4 : Int32) else if q = 19 ∧ k = n then 4 else mA M q k) = if q = 19 ∧ k = n then 4 else mA Z q k
    rw [if_neg (by omega), hA q k (by omega)]
  · show (if q = 4 ∧ k = n + 1 then true else if q = 4 ∧ k = n then true else mB M q k) = if q = 4 ∧ k = n then true else mB Z q k
    rw [if_neg (by omega), hB q k (by omega)]
  · show (if F = 786 then io (n + 1) else mI M F) = mI Z F
    by_cases e : F = 786
    · rw [if_pos e, e, hZ]
    · rw [if_neg e, hI F e]
end S99j
