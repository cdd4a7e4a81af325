/-! the class's need is the reference's -/
def Bd (x : Int32) : Prop := -700000000 ≤ x.toInt ∧ x.toInt ≤ 700000000
section S95
variable {t t' : sT} {M M' N : sM} {n T A B b c m o k : Nat} {p a z x v x0 x1 x2 y0 y1 y2 : Int32} {s : Bool}
theorem mx_le : mx x v ≤ z ↔ x ≤ z ∧ v ≤ z := by
  unfold mx
  rw [Int32.le_iff_toInt_le, Int32.le_iff_toInt_le, Int32.le_iff_toInt_le]
  split
  · rename_i h; rw [Int32.lt_iff_toInt_lt] at h; omega
  · rename_i h; rw [Int32.lt_iff_toInt_lt] at h; omega
theorem mxc_le : mxc x v ≤ z ↔ x ≤ z ∧ v ≤ z := by
  unfold mxc
  by_cases h : x < v
  · rw [decide_eq_true h, cond_true]
    rw [Int32.lt_iff_toInt_lt] at h
    rw [Int32.le_iff_toInt_le, Int32.le_iff_toInt_le]; omega
  · rw [decide_eq_false h, cond_false]
    rw [Int32.lt_iff_toInt_lt] at h
    rw [Int32.le_iff_toInt_le, Int32.le_iff_toInt_le]; omega
theorem add_b {X Y : Int} (hx : x.toInt = X) (hv : v.toInt = Y) (h1 : -2147483648 ≤ X + Y) (h2 : X + Y < 2147483648) : (x + v).toInt = X + Y := by
  rw [Int32.toInt_add, hx, hv]
  exact Int.bmod_eq_of_le (by omega) (by omega)
theorem neg_b {X : Int} (hx : x.toInt = X) (h1 : -2147483648 < X) : (-x).toInt = -X := by
  rw [Int32.toInt_neg, hx]
  have := x.toInt_lt
  exact Int.bmod_eq_of_le (by omega) (by omega)
theorem Bd_neg (h : Bd x) : Bd (-x) := by
  unfold Bd at h ⊢
  rw [neg_b rfl (by omega)]; omega
theorem Bd_mul (hx : -1400000 ≤ x.toInt ∧ x.toInt ≤ 1400000) (hv : -500 ≤ v.toInt ∧ v.toInt ≤ 500) : Bd (x * v) := by
  have h1 : (x.toInt * v.toInt).natAbs ≤ 1400000 * 500 := by
    rw [Int.natAbs_mul]
    exact Nat.mul_le_mul (by omega) (by omega)
  unfold Bd
  rw [Int32.toInt_mul, Int.bmod_eq_of_le (by omega) (by omega)]
  omega
theorem mx_or : mx x v = x ∨ mx x v = v := by
  unfold mx
  split
  · exact Or.inr rfl
  · exact Or.inl rfl
theorem neg3 : -((x + v) + z) = (-x + -v) + -z := by
  rw [Int32.neg_add, Int32.neg_add, Int32.sub_eq_add_neg, Int32.sub_eq_add_neg]
theorem sum3 (h0 : Bd x0) (g0 : Bd y0) (h1 : Bd x1) (g1 : Bd y1) (h2 : Bd x2) (g2 : Bd y2) :
    (mx (-x0) (-y0) + mx (-x1) (-y1)) + mx (-x2) (-y2) ≤ z ↔ -((y0 + y1) + y2) ≤ z ∧ -((x0 + y1) + y2) ≤ z ∧ -((y0 + x1) + y2) ≤ z ∧ -((x0 + x1) + y2) ≤ z ∧ -((y0 + y1) + x2) ≤ z ∧ -((x0 + y1) + x2) ≤ z ∧ -((y0 + x1) + x2) ≤ z ∧ -((x0 + x1) + x2) ≤ z := by
  simp only [neg3]
  have a0 := Bd_neg h0
  have a1 := Bd_neg h1
  have a2 := Bd_neg h2
  have e0 := Bd_neg g0
  have e1 := Bd_neg g1
  have e2 := Bd_neg g2
  generalize -x0 = u0 at *
  generalize -x1 = u1 at *
  generalize -x2 = u2 at *
  generalize -y0 = w0 at *
  generalize -y1 = w1 at *
  generalize -y2 = w2 at *
  unfold Bd at *
  have st : ∀ p0 p1 p2 : Int32, (-700000000 ≤ p0.toInt ∧ p0.toInt ≤ 700000000) → (-700000000 ≤ p1.toInt ∧ p1.toInt ≤ 700000000) → (-700000000 ≤ p2.toInt ∧ p2.toInt ≤ 700000000) → ((p0 + p1) + p2).toInt = p0.toInt + p1.toInt + p2.toInt := fun p0 p1 p2 i0 i1 i2 => add_b (add_b rfl rfl (by omega) (by omega)) rfl (by omega) (by omega)
  have ml : ∀ p q : Int32, (-700000000 ≤ p.toInt ∧ p.toInt ≤ 700000000) → (-700000000 ≤ q.toInt ∧ q.toInt ≤ 700000000) → (-700000000 ≤ (mx p q).toInt ∧ (mx p q).toInt ≤ 700000000) ∧ p.toInt ≤ (mx p q).toInt ∧ q.toInt ≤ (mx p q).toInt := fun p q i0 i1 => by
    have i2 : mx p q ≤ mx p q := by rw [Int32.le_iff_toInt_le]; exact Int.le_refl _
    have i3 := mx_le.mp i2
    rw [Int32.le_iff_toInt_le, Int32.le_iff_toInt_le] at i3
    rcases mx_or (x := p) (v := q) with e | e <;> rw [e] at i3 ⊢ <;> omega
  obtain ⟨m0, l0, r0⟩ := ml u0 w0 a0 e0
  obtain ⟨m1, l1, r1⟩ := ml u1 w1 a1 e1
  obtain ⟨m2, l2, r2⟩ := ml u2 w2 a2 e2
  simp only [Int32.le_iff_toInt_le]
  rw [st _ _ _ m0 m1 m2, st _ _ _ e0 e1 e2, st _ _ _ a0 e1 e2, st _ _ _ e0 a1 e2, st _ _ _ a0 a1 e2, st _ _ _ e0 e1 a2, st _ _ _ a0 e1 a2, st _ _ _ e0 a1 a2, st _ _ _ a0 a1 a2]
  constructor
  · intro h
    refine ⟨?_, ?_, ?_, ?_, ?_, ?_, ?_, ?_⟩ <;> omega
  · rintro ⟨z0, z1, z2, z3, z4, z5, z6, z7⟩
    rcases mx_or (x := u0) (v := w0) with q0 | q0 <;> rcases mx_or (x := u1) (v := w1) with q1 | q1 <;> rcases mx_or (x := u2) (v := w2) with q2 | q2 <;> rw [q0, q1, q2] <;> omega
theorem isS_e : ∀ b, b < 5 → ∀ c, c < 3 → (decide (b = c) || (!(decide (b < 3)) && decide (((io b) - 3) = (io c)))) = decide (fst b = c) := by decide +kernel
theorem isO_e : ∀ b, b < 5 → ∀ c, c < 3 → (!(decide (b < 3)) && decide ((((io b) - 3) + 1) = (io c))) = decide (snd b = some c) := by decide +kernel
theorem fs_ne : ∀ b, b < 5 → ∀ c, c < 3 → fst b = c → ¬ snd b = some c := by decide +kernel
def slt (c : Nat) (s : Bool) : Nat := bif s then c else c + 3
theorem osF_e {f : Nat → Int32} {d : Nat} {s' : Bool} (hc : c < 3) (hd : d < 3) : osF f d s' a (slt c s) = if d = c ∧ s' = s then f (slt c s) + a else f (slt c s) := by
  unfold osF
  have e : (slt c s = bif s' then d else d + 3) ↔ (d = c ∧ s' = s) := by
    unfold slt
    cases s <;> cases s' <;> simp <;> omega
  by_cases h : d = c ∧ s' = s
  · rw [if_pos (e.mpr h), if_pos h]
  · rw [if_neg (fun g => h (e.mp g)), if_neg h]
theorem oaF_e {f : Nat → Int32} {s' : Bool} (hb : b < 5) (hc : c < 3) : oaF f b s' a (slt c s) = f (slt c s) + (bif decide (fst b = c) then (bif s' == s then a else (bif decide (snd b = some c) then a else 0)) else (bif decide (snd b = some c) then (bif s' == s then 0 else a) else 0)) := by
  unfold oaF
  have h1 := fst3 hb
  cases h : snd b with
  | none =>
    show osF f (fst b) s' a (slt c s) = _
    rw [osF_e hc h1]
    by_cases e : fst b = c <;> cases s <;> cases s' <;> simp [e]
  | some d =>
    have h3 : d < 3 := snd3 hb h
    have h4 := fs_ne b hb c hc
    show osF (osF f (fst b) s' a) d (!s') a (slt c s) = _
    rw [osF_e hc h3, osF_e hc h1]
    rw [h] at h4
    by_cases e : fst b = c
    · have e2 : ¬ d = c := fun g => h4 e (congrArg some g)
      cases s <;> cases s' <;> simp [e, e2]
    · by_cases e2 : d = c <;> cases s <;> cases s' <;> simp [e, e2]
theorem cd_op (hR : Ri M n) (hc : c < 3) : ∀ k, k ≤ n → cdL M n m c s 0 k = opL M m none k (slt c s)
  | 0, _ => rfl
  | k + 1, hk => by
    have ih : cdL M n m c s 0 k = opL M m none k (slt c s) := cd_op hR hc k (by omega)
    have hb := gb5 hR (show k < n by omega)
    show cdS M n m c s k (cdL M n m c s 0 k) = (bif opn M m none k then oaF (opL M m none k) (oB M k) (mB M 3 k) (mA M 15 k) else opL M m none k) (slt c s)
    rw [ih]
    unfold cdS
    rw [isS_e _ hb c hc, isO_e _ hb c hc]
    unfold opn
    have e0 : (mB M 4 k && decide (some (oB M k) = none)) = false := by simp
    rw [e0]
    cases hl : (decide (oM M k = m) && (decide (mA M 19 k = 0) || decide (mA M 19 k = 1))) with
    | false =>
      rw [show (decide (oM M k = m) && ((decide (mA M 19 k = 0) || decide (mA M 19 k = 1)) && !false)) = false by rw [Bool.not_false, Bool.and_true]; exact hl]
      exact Int32.add_zero _
    | true =>
      rw [show (decide (oM M k = m) && ((decide (mA M 19 k = 0) || decide (mA M 19 k = 1)) && !false)) = true by rw [Bool.not_false, Bool.and_true]; exact hl]
      exact (oaF_e hb hc).symm
theorem cdF_op (hR : Ri M n) (hc : c < 3) : cdF M n m c s = opL M m none n (slt c s) := cd_op hR hc n (Nat.le_refl n)
/-- sizes that are open are small -/
def Ob (f : Nat → Int32) (K : Nat) : Prop := ∀ p, 0 ≤ (f p).toInt ∧ (f p).toInt ≤ K
theorem osF_b {f : Nat → Int32} {d K e : Nat} (h : Ob f K) (ha : a = io e) (he : e ≤ 100) (hK : K ≤ 100000) : Ob (osF f d s a) (K + 100) := fun p => by
  have h1 := h p
  unfold osF
  split
  · rw [ha, add_b (v := io e) (Y := (e : Int)) rfl (io_int (by omega)) (by omega) (by omega)]; omega
  · omega
theorem oaF_b {f : Nat → Int32} {K e : Nat} (h : Ob f K) (ha : a = io e) (he : e ≤ 100) (hK : K ≤ 90000) : Ob (oaF f b s a) (K + 200) := by
  unfold oaF
  cases snd b with
  | none =>
    intro p
    have := osF_b (d := fst b) (s := s) h ha he (by omega) p
    show 0 ≤ (osF f (fst b) s a p).toInt ∧ (osF f (fst b) s a p).toInt ≤ _
    omega
  | some d => exact osF_b (osF_b h ha he (by omega)) ha he (by omega)
theorem opL_b {r : Option Nat} (hI : Iv M n) : ∀ k, k ≤ n → Ob (opL M m r k) (200 * k)
  | 0, _ => fun p => ⟨Int.le_refl 0, Int.le_refl 0⟩
  | k + 1, hk => by
    have ih : Ob (opL M m r k) (200 * k) := opL_b hI k (by omega)
    have hn : n ≤ 200 := hI.2.2.2.2.2
    obtain ⟨e, f, h1, h2, -⟩ := hI.1 k (by omega)
    show Ob (bif opn M m r k then oaF (opL M m r k) (oB M k) (mB M 3 k) (mA M 15 k) else opL M m r k) (200 * (k + 1))
    cases opn M m r k with
    | false =>
      intro p
      have := ih p
      show 0 ≤ (opL M m r k p).toInt ∧ (opL M m r k p).toInt ≤ _
      omega
    | true =>
      have h9 := oaF_b (b := oB M k) (s := mB M 3 k) (K := 200 * k) ih h1 h2 (by omega)
      rw [show 200 * (k + 1) = 200 * k + 200 by omega]
      exact h9
/-- positions and moves are small -/
def Pv (M : sM) : Prop := (∀ q, q < 18 → -1000000 ≤ (mA M 6 q).toInt ∧ (mA M 6 q).toInt ≤ 1000000) ∧ ∀ q, q < 18 → -500 ≤ (mA M 11 q).toInt ∧ (mA M 11 q).toInt ≤ 500
theorem nmul : (-x) * v = -(x * v) := Int32.neg_mul x v
theorem cnd_nd {f : Nat → Int32} {K : Nat} (hm : m < 6) (hP : Pv M) (hf : Ob f K) (hK : K ≤ 100000)
    (e0 : cdF M n m 0 true = f 0) (e1 : cdF M n m 1 true = f 1) (e2 : cdF M n m 2 true = f 2) (e3 : cdF M n m 0 false = f 3) (e4 : cdF M n m 1 false = f 4) (e5 : cdF M n m 2 false = f 5) :
    cndG M m f = ndF M n m := by
  have key : ∀ z, cndG M m f ≤ z ↔ ndF M n m ≤ z := fun z => by
    unfold cndG ndF mgF
    rw [e0, e1, e2, e3, e4, e5]
    simp only [mx_le, mxc_le, nmul, Int32.sub_eq_add_neg]
    have bx : ∀ i j q, i < 3 → j < 6 → q < 18 → Bd ((mA M 6 (3 * m + i) + f j) * mA M 11 q) := fun i j q hi hj hq => by
      have h1 := hP.1 (3 * m + i) (by omega)
      have h2 := hf j
      refine Bd_mul ?_ (hP.2 q hq)
      rw [add_b rfl rfl (by omega) (by omega)]; omega
    have by' : ∀ i j q, i < 3 → j < 6 → q < 18 → Bd ((mA M 6 (3 * m + i) + -(f j)) * mA M 11 q) := fun i j q hi hj hq => by
      have h1 := hP.1 (3 * m + i) (by omega)
      have h2 := hf j
      refine Bd_mul ?_ (hP.2 q hq)
      rw [add_b rfl (neg_b rfl (by omega)) (by omega) (by omega)]; omega
    rw [sum3 (x0 := (mA M 6 (3 * m + 0) + f 0) * mA M 11 0) (y0 := (mA M 6 (3 * m + 0) + -(f 3)) * mA M 11 0) (x1 := (mA M 6 (3 * m + 1) + f 1) * mA M 11 1) (y1 := (mA M 6 (3 * m + 1) + -(f 4)) * mA M 11 1) (x2 := (mA M 6 (3 * m + 2) + f 2) * mA M 11 2) (y2 := (mA M 6 (3 * m + 2) + -(f 5)) * mA M 11 2) (bx 0 0 0 (by decide) (by decide) (by decide)) (by' 0 3 0 (by decide) (by decide) (by decide)) (bx 1 1 1 (by decide) (by decide) (by decide)) (by' 1 4 1 (by decide) (by decide) (by decide)) (bx 2 2 2 (by decide) (by decide) (by decide)) (by' 2 5 2 (by decide) (by decide) (by decide))]
    rw [sum3 (x0 := (mA M 6 (3 * m + 0) + f 0) * mA M 11 3) (y0 := (mA M 6 (3 * m + 0) + -(f 3)) * mA M 11 3) (x1 := (mA M 6 (3 * m + 1) + f 1) * mA M 11 4) (y1 := (mA M 6 (3 * m + 1) + -(f 4)) * mA M 11 4) (x2 := (mA M 6 (3 * m + 2) + f 2) * mA M 11 5) (y2 := (mA M 6 (3 * m + 2) + -(f 5)) * mA M 11 5) (bx 0 0 3 (by decide) (by decide) (by decide)) (by' 0 3 3 (by decide) (by decide) (by decide)) (bx 1 1 4 (by decide) (by decide) (by decide)) (by' 1 4 4 (by decide) (by decide) (by decide)) (bx 2 2 5 (by decide) (by decide) (by decide)) (by' 2 5 5 (by decide) (by decide) (by decide))]
    rw [sum3 (x0 := (mA M 6 (3 * m + 0) + f 0) * mA M 11 6) (y0 := (mA M 6 (3 * m + 0) + -(f 3)) * mA M 11 6) (x1 := (mA M 6 (3 * m + 1) + f 1) * mA M 11 7) (y1 := (mA M 6 (3 * m + 1) + -(f 4)) * mA M 11 7) (x2 := (mA M 6 (3 * m + 2) + f 2) * mA M 11 8) (y2 := (mA M 6 (3 * m + 2) + -(f 5)) * mA M 11 8) (bx 0 0 6 (by decide) (by decide) (by decide)) (by' 0 3 6 (by decide) (by decide) (by decide)) (bx 1 1 7 (by decide) (by decide) (by decide)) (by' 1 4 7 (by decide) (by decide) (by decide)) (bx 2 2 8 (by decide) (by decide) (by decide)) (by' 2 5 8 (by decide) (by decide) (by decide))]
    rw [sum3 (x0 := (mA M 6 (3 * m + 0) + f 0) * mA M 11 9) (y0 := (mA M 6 (3 * m + 0) + -(f 3)) * mA M 11 9) (x1 := (mA M 6 (3 * m + 1) + f 1) * mA M 11 10) (y1 := (mA M 6 (3 * m + 1) + -(f 4)) * mA M 11 10) (x2 := (mA M 6 (3 * m + 2) + f 2) * mA M 11 11) (y2 := (mA M 6 (3 * m + 2) + -(f 5)) * mA M 11 11) (bx 0 0 9 (by decide) (by decide) (by decide)) (by' 0 3 9 (by decide) (by decide) (by decide)) (bx 1 1 10 (by decide) (by decide) (by decide)) (by' 1 4 10 (by decide) (by decide) (by decide)) (bx 2 2 11 (by decide) (by decide) (by decide)) (by' 2 5 11 (by decide) (by decide) (by decide))]
    rw [sum3 (x0 := (mA M 6 (3 * m + 0) + f 0) * mA M 11 12) (y0 := (mA M 6 (3 * m + 0) + -(f 3)) * mA M 11 12) (x1 := (mA M 6 (3 * m + 1) + f 1) * mA M 11 13) (y1 := (mA M 6 (3 * m + 1) + -(f 4)) * mA M 11 13) (x2 := (mA M 6 (3 * m + 2) + f 2) * mA M 11 14) (y2 := (mA M 6 (3 * m + 2) + -(f 5)) * mA M 11 14) (bx 0 0 12 (by decide) (by decide) (by decide)) (by' 0 3 12 (by decide) (by decide) (by decide)) (bx 1 1 13 (by decide) (by decide) (by decide)) (by' 1 4 13 (by decide) (by decide) (by decide)) (bx 2 2 14 (by decide) (by decide) (by decide)) (by' 2 5 14 (by decide) (by decide) (by decide))]
    rw [sum3 (x0 := (mA M 6 (3 * m + 0) + f 0) * mA M 11 15) (y0 := (mA M 6 (3 * m + 0) + -(f 3)) * mA M 11 15) (x1 := (mA M 6 (3 * m + 1) + f 1) * mA M 11 16) (y1 := (mA M 6 (3 * m + 1) + -(f 4)) * mA M 11 16) (x2 := (mA M 6 (3 * m + 2) + f 2) * mA M 11 17) (y2 := (mA M 6 (3 * m + 2) + -(f 5)) * mA M 11 17) (bx 0 0 15 (by decide) (by decide) (by decide)) (by' 0 3 15 (by decide) (by decide) (by decide)) (bx 1 1 16 (by decide) (by decide) (by decide)) (by' 1 4 16 (by decide) (by decide) (by decide)) (bx 2 2 17 (by decide) (by decide) (by decide)) (by' 2 5 17 (by decide) (by decide) (by decide))]
    exact ⟨fun ⟨⟨⟨⟨⟨⟨g, a00, a01, a02, a03, a04, a05, a06, a07⟩, a10, a11, a12, a13, a14, a15, a16, a17⟩, a20, a21, a22, a23, a24, a25, a26, a27⟩, a30, a31, a32, a33, a34, a35, a36, a37⟩, a40, a41, a42, a43, a44, a45, a46, a47⟩, a50, a51, a52, a53, a54, a55, a56, a57⟩ => ⟨⟨⟨⟨⟨⟨⟨⟨g, ⟨⟨⟨⟨⟨⟨g, a00⟩, a10⟩, a20⟩, a30⟩, a40⟩, a50⟩⟩, ⟨⟨⟨⟨⟨⟨g, a01⟩, a11⟩, a21⟩, a31⟩, a41⟩, a51⟩⟩, ⟨⟨⟨⟨⟨⟨g, a02⟩, a12⟩, a22⟩, a32⟩, a42⟩, a52⟩⟩, ⟨⟨⟨⟨⟨⟨g, a03⟩, a13⟩, a23⟩, a33⟩, a43⟩, a53⟩⟩, ⟨⟨⟨⟨⟨⟨g, a04⟩, a14⟩, a24⟩, a34⟩, a44⟩, a54⟩⟩, ⟨⟨⟨⟨⟨⟨g, a05⟩, a15⟩, a25⟩, a35⟩, a45⟩, a55⟩⟩, ⟨⟨⟨⟨⟨⟨g, a06⟩, a16⟩, a26⟩, a36⟩, a46⟩, a56⟩⟩, ⟨⟨⟨⟨⟨⟨g, a07⟩, a17⟩, a27⟩, a37⟩, a47⟩, a57⟩⟩, fun ⟨⟨⟨⟨⟨⟨⟨⟨g, ⟨⟨⟨⟨⟨⟨g0, a00⟩, a10⟩, a20⟩, a30⟩, a40⟩, a50⟩⟩, ⟨⟨⟨⟨⟨⟨g1, a01⟩, a11⟩, a21⟩, a31⟩, a41⟩, a51⟩⟩, ⟨⟨⟨⟨⟨⟨g2, a02⟩, a12⟩, a22⟩, a32⟩, a42⟩, a52⟩⟩, ⟨⟨⟨⟨⟨⟨g3, a03⟩, a13⟩, a23⟩, a33⟩, a43⟩, a53⟩⟩, ⟨⟨⟨⟨⟨⟨g4, a04⟩, a14⟩, a24⟩, a34⟩, a44⟩, a54⟩⟩, ⟨⟨⟨⟨⟨⟨g5, a05⟩, a15⟩, a25⟩, a35⟩, a45⟩, a55⟩⟩, ⟨⟨⟨⟨⟨⟨g6, a06⟩, a16⟩, a26⟩, a36⟩, a46⟩, a56⟩⟩, ⟨⟨⟨⟨⟨⟨g7, a07⟩, a17⟩, a27⟩, a37⟩, a47⟩, a57⟩⟩ => ⟨⟨⟨⟨⟨⟨g, a00, a01, a02, a03, a04, a05, a06, a07⟩, a10, a11, a12, a13, a14, a15, a16, a17⟩, a20, a21, a22, a23, a24, a25, a26, a27⟩, a30, a31, a32, a33, a34, a35, a36, a37⟩, a40, a41, a42, a43, a44, a45, a46, a47⟩, a50, a51, a52, a53, a54, a55, a56, a57⟩⟩
  have h1 := (key (ndF M n m)).mpr (by rw [Int32.le_iff_toInt_le]; exact Int.le_refl _)
  have h2 := (key (cndG M m f)).mp (by rw [Int32.le_iff_toInt_le]; exact Int.le_refl _)
  rw [Int32.le_iff_toInt_le] at h1 h2
  exact Int32.toInt_inj.mp (by omega)
/-- the class's need, told by the reference -/
theorem need_e (hm : m < 6) (hP : Pv M) (hI : Iv M n) (hR : Ri M n) : cndG M m (opL M m none n) = ndF M n m := by
  have hn : n ≤ 200 := hI.2.2.2.2.2
  exact cnd_nd hm hP (opL_b hI n (Nat.le_refl n)) (by omega) (cdF_op (s := true) hR (by decide)) (cdF_op (s := true) hR (by decide)) (cdF_op (s := true) hR (by decide)) (cdF_op (s := false) hR (by decide)) (cdF_op (s := false) hR (by decide)) (cdF_op (s := false) hR (by decide))
end S95
