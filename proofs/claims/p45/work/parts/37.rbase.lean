/-! the reference's part of a store, told by a state M -/
theorem bq_cc {q : ClassFile.Cond} {z : Bool} {x y w : Int32} {r : Bool} (h1 : sCond q x w = r) (h2 : sCond q y w = r) : sCond q (bif z then x else y) w = r := by cases z; exact h2; exact h1
theorem bq_tf {q : ClassFile.Cond} {z : Bool} {x y w : Int32} (h1 : sCond q x w = true) (h2 : sCond q y w = false) : sCond q (bif z then x else y) w = z := by cases z; exact h2; exact h1
theorem bq_ft {q : ClassFile.Cond} {z : Bool} {x y w : Int32} (h1 : sCond q x w = false) (h2 : sCond q y w = true) : sCond q (bif z then x else y) w = !z := by cases z; exact h2; exact h1
theorem bq_xf {q : ClassFile.Cond} {z r : Bool} {x y w : Int32} (h1 : sCond q x w = r) (h2 : sCond q y w = false) : sCond q (bif z then x else y) w = (z && r) := by cases z; exact h2; exact h1
theorem bq_tx {q : ClassFile.Cond} {z r : Bool} {x y w : Int32} (h1 : sCond q x w = true) (h2 : sCond q y w = r) : sCond q (bif z then x else y) w = (z || r) := by cases z; exact h2; exact h1
theorem bq_fx {q : ClassFile.Cond} {z r : Bool} {x y w : Int32} (h1 : sCond q x w = false) (h2 : sCond q y w = r) : sCond q (bif z then x else y) w = (!z && r) := by cases z; exact h2; exact h1
theorem bq_xt {q : ClassFile.Cond} {z r : Bool} {x y w : Int32} (h1 : sCond q x w = r) (h2 : sCond q y w = true) : sCond q (bif z then x else y) w = (!z || r) := by cases z; exact h2; exact h1
theorem bq_xx {q : ClassFile.Cond} {z r r' : Bool} {x y w : Int32} (h1 : sCond q x w = r) (h2 : sCond q y w = r') : sCond q (bif z then x else y) w = (bif z then r else r') := by cases z; exact h2; exact h1
theorem nt_of {z r : Bool} (h : z = r) : (!z) = !r := congrArg not h
theorem zz_no {z : Bool} {P : Prop} (h1 : z = true) (h2 : z = false) : P := absurd (h1.symm.trans h2) (by decide)
/-- a loop that counts -/
theorem lpX {m pc n : Nat} {Q : sRs → sT → Prop} (P : Nat → List sV → sT → Prop)
    (st : ∀ k ls t, k < n → P k ls t → (∀ ls' t', P (k + 1) ls' t' → X m pc ls' [] t' Q) → X m pc ls [] t Q)
    (en : ∀ ls t, P n ls t → X m pc ls [] t Q) : ∀ d k ls t, k + d = n → P k ls t → X m pc ls [] t Q := by
  intro d
  induction d with
  | zero => intro k ls t h p; rw [Nat.add_zero] at h; subst h; exact en ls t p
  | succ d ih => intro k ls t h p; exact st k ls t (by omega) p (fun ls' t' p' => ih (k + 1) ls' t' (by omega) p')
theorem lp0 {m pc n : Nat} {Q : sRs → sT → Prop} (P : Nat → List sV → sT → Prop) {ls : List sV} {t : sT} (h0 : P 0 ls t)
    (st : ∀ k ls t, k < n → P k ls t → (∀ ls' t', P (k + 1) ls' t' → X m pc ls' [] t' Q) → X m pc ls [] t Q)
    (en : ∀ ls t, P n ls t → X m pc ls [] t Q) : X m pc ls [] t Q := lpX P st en n 0 ls t (Nat.zero_add n) h0
/-- n orders, all of a member and a book that there are -/
def Ri (M : sM) (n : Nat) : Prop := mI M 786 = io n ∧ n ≤ 200 ∧ (∀ k, k < n → mA M 12 k = io (oM M k) ∧ oM M k < 6) ∧ ∀ k, k < n → mA M 13 k = io (oB M k) ∧ oB M k < 5
section S37
variable {t : sT} {M : sM} {n k a p F : Nat}
theorem gA (h : rp t = M) (ha : sSc a = false) : sA t 21 a p = mA M a p := by
  subst h
  show _ = bif sSc a then 0 else sA t 21 a p
  rw [ha]; rfl
theorem gB (h : rp t = M) : sB t 22 a p = mB M a p := by subst h; rfl
theorem gI (h : rp t = M) (hF : sMq F = true) : sI t F 0 = mI M F := by
  subst h
  show _ = bif sMq F then sI t F 0 else 0
  rw [hF]; rfl
theorem gn (h : rp t = M) (hR : Ri M n) : sI t 786 0 = io n := (gI h rfl).trans hR.1
theorem gA12 (h : rp t = M) (hR : Ri M n) (hk : k < n) : sA t 21 12 k = io (oM M k) := (gA h rfl).trans (hR.2.2.1 k hk).1
theorem gA13 (h : rp t = M) (hR : Ri M n) (hk : k < n) : sA t 21 13 k = io (oB M k) := (gA h rfl).trans (hR.2.2.2 k hk).1
theorem gst0 (h : Cn t) : 0 < sC t 28 := Nat.lt_of_lt_of_le (by decide) (kC_28 h)
theorem gst1 (h : Cn t) : 1 < sC t 28 := Nat.lt_of_lt_of_le (by decide) (kC_28 h)
theorem gn200 (h : Ri M n) : n ≤ 200 := h.2.1
theorem gn31 (h : Ri M n) : n < 2 ^ 31 := Nat.lt_of_le_of_lt h.2.1 (by decide)
theorem gm6 (h : Ri M n) (hk : k < n) : oM M k < 6 := (h.2.2.1 k hk).2
theorem gb5 (h : Ri M n) (hk : k < n) : oB M k < 5 := (h.2.2.2 k hk).2
theorem gm31 (h : k < 6) : k < 2 ^ 31 := Nat.lt_trans h (by decide)
theorem gb31 (h : k < 5) : k < 2 ^ 31 := Nat.lt_trans h (by decide)
theorem gc31 (h : k < 3) : k < 2 ^ 31 := Nat.lt_trans h (by decide)
end S37
theorem io_ne1 {f : Nat} (h : f < 2 ^ 31) : ¬ io f = -1 := fun z => by
  have h1 := congrArg Int32.toInt z
  rw [io_int h] at h1
  have : (-1 : Int32).toInt = -1 := rfl
  omega
def Fr (M M0 : sM) : Prop := mA M 12 = mA M0 12 ∧ mA M 13 = mA M0 13 ∧ mI M 786 = mI M0 786 ∧ mA M 14 = mA M0 14 ∧ mB M 3 = mB M0 3
def mxc (a b : Int32) : Int32 := bif (decide (a < b)) then b else a
def mnc (a b : Int32) : Int32 := bif (decide (a < b)) then a else b
def abc (a : Int32) : Int32 := bif (decide (a < 0)) then (-a) else a
def ov : Option Nat → Int32
  | none => -1
  | some k => io k
def ovD (r : Option Nat) : Nat := r.getD 0
section S37b
variable {t : sT} {M M0 : sM} {n k a p F : Nat}
theorem Fr.refl (M : sM) : Fr M M := ⟨rfl, rfl, rfl, rfl, rfl⟩
theorem Fr.ri (h : Fr M M0) (hR : Ri M0 n) : Ri M n := by
  have h1 : ∀ k, mA M 12 k = mA M0 12 k := fun k => congrFun h.1 k
  have h2 : ∀ k, mA M 13 k = mA M0 13 k := fun k => congrFun h.2.1 k
  have h3 : ∀ k, oM M k = oM M0 k := fun k => congrArg Int32.toNatClampNeg (h1 k)
  have h4 : ∀ k, oB M k = oB M0 k := fun k => congrArg Int32.toNatClampNeg (h2 k)
  refine ⟨h.2.2.1.trans hR.1, hR.2.1, fun k hk => ?_, fun k hk => ?_⟩
  · rw [h1, h3]; exact hR.2.2.1 k hk
  · rw [h2, h4]; exact hR.2.2.2 k hk
theorem Fr_A {v : Int32} (h : (Nat.beq a 12 || Nat.beq a 13 || Nat.beq a 14) = false) (fr : Fr M M0) : Fr (mAw M a p v) M0 := by
  simp only [Bool.or_eq_false_iff] at h
  have h1 := Nat.ne_of_beq_eq_false h.1.1
  have h2 := Nat.ne_of_beq_eq_false h.1.2
  have h3 := Nat.ne_of_beq_eq_false h.2
  exact ⟨(funext fun q => if_neg (fun z => h1 z.1.symm)).trans fr.1, (funext fun q => if_neg (fun z => h2 z.1.symm)).trans fr.2.1, fr.2.2.1, (funext fun q => if_neg (fun z => h3 z.1.symm)).trans fr.2.2.2.1, fr.2.2.2.2⟩
theorem Fr_B {v : Bool} (h : Nat.beq a 3 = false) (fr : Fr M M0) : Fr (mBw M a p v) M0 := by
  have h1 := Nat.ne_of_beq_eq_false h
  exact ⟨fr.1, fr.2.1, fr.2.2.1, fr.2.2.2.1, (funext fun q => if_neg (fun z => h1 z.1.symm)).trans fr.2.2.2.2⟩
theorem Fr_I {v : Int32} (h : Nat.beq F 786 = false) (fr : Fr M M0) : Fr (mIw M F v) M0 := ⟨fr.1, fr.2.1, (if_neg (fun z => Nat.ne_of_beq_eq_false h z.symm)).trans fr.2.2.1, fr.2.2.2⟩
theorem Fr_cond {z : Bool} {A B : sM} (h1 : Fr A M0) (h2 : Fr B M0) : Fr (bif z then A else B) M0 := by cases z; exact h2; exact h1
theorem gF12 {M0 : sM} (h : rp t = M) (fr : Fr M M0) (hR : Ri M0 n) (hk : k < n) : sA t 21 12 k = io (oM M0 k) := (gA h rfl).trans ((congrFun fr.1 k).trans (hR.2.2.1 k hk).1)
theorem gF13 {M0 : sM} (h : rp t = M) (fr : Fr M M0) (hR : Ri M0 n) (hk : k < n) : sA t 21 13 k = io (oB M0 k) := (gA h rfl).trans ((congrFun fr.2.1 k).trans (hR.2.2.2 k hk).1)
theorem gFn {M0 : sM} (h : rp t = M) (fr : Fr M M0) (hR : Ri M0 n) : sI t 786 0 = io n := (gI h rfl).trans (fr.2.2.1.trans hR.1)
theorem gF14 {M0 : sM} (h : rp t = M) (fr : Fr M M0) : sA t 21 14 p = mA M0 14 p := (gA h rfl).trans (congrFun fr.2.2.2.1 p)
theorem gF3 {M0 : sM} (h : rp t = M) (fr : Fr M M0) : sB t 22 3 p = mB M0 3 p := (gB h).trans (congrFun fr.2.2.2.2 p)
end S37b
theorem mxc_t {a b : Int32} (h : decide (a < b) = true) : mxc a b = b := by unfold mxc; rw [h]; rfl
theorem mxc_f {a b : Int32} (h : decide (a < b) = false) : mxc a b = a := by unfold mxc; rw [h]; rfl
theorem mnc_t {a b : Int32} (h : decide (a < b) = true) : mnc a b = a := by unfold mnc; rw [h]; rfl
theorem mnc_f {a b : Int32} (h : decide (a < b) = false) : mnc a b = b := by unfold mnc; rw [h]; rfl
theorem abc_t {a : Int32} (h : decide (a < 0) = true) : abc a = -a := by unfold abc; rw [h]; rfl
theorem abc_f {a : Int32} (h : decide (a < 0) = false) : abc a = a := by unfold abc; rw [h]; rfl
theorem ov_31 {r : Option Nat} {N : Nat} (h : ∀ j, r = some j → j < N) (hN : N ≤ 2 ^ 31) : ∀ j, r = some j → j < 2 ^ 31 := fun j e => Nat.lt_of_lt_of_le (h j e) hN
theorem ov_eq {r : Option Nat} (h : ∀ j, r = some j → j < 2 ^ 31) : sCond .eq (ov r) (-1) = r.isNone := by
  cases r with
  | none => decide
  | some j => exact decide_eq_false (io_ne1 (h j rfl))
theorem ov_nen {r : Option Nat} (h : ∀ j, r = some j → j < 2 ^ 31) : sCond .ne (ov r) (-1) = !r.isNone := by
  cases r with
  | none => decide
  | some j => exact decide_eq_true (io_ne1 (h j rfl))
theorem ov_lt {r : Option Nat} {N : Nat} (h : r.isNone = false) (hb : ∀ j, r = some j → j < N) : ovD r < N := by
  cases r with
  | none => cases h
  | some j => exact hb j rfl
theorem ov_io {r : Option Nat} (h : r.isNone = false) : ov r = io (ovD r) := by
  cases r with
  | none => cases h
  | some j => rfl
theorem ov_in {r : Option Nat} {N : Nat} (h : r.isNone = false) (hp : ovD r < N) (hN : N < 2 ^ 31) : sIn (ov r) N = true := by rw [ov_io h]; exact io_in hp hN
theorem ov_nn {r : Option Nat} (h : r.isNone = false) (hp : ovD r < 2 ^ 31) : (ov r).toNatClampNeg = ovD r := by rw [ov_io h]; exact nn_io hp
theorem obd_n {N : Nat} : ∀ j, (none : Option Nat) = some j → j < N := fun _ e => by cases e
theorem obd_s {k N : Nat} (h : k < N) : ∀ j, some k = some j → j < N := fun _ e => by cases e; exact h
theorem obd_c {z : Bool} {a b : Option Nat} {N : Nat} (h1 : ∀ j, a = some j → j < N) (h2 : ∀ j, b = some j → j < N) : ∀ j, (bif z then a else b) = some j → j < N := by cases z; exact h2; exact h1
theorem qv {Q : sRs → sT → Prop} {r r' : sRs} {t : sT} (e : r' = r) (h : Q r t) : Q r' t := e ▸ h
