/-! longs that are natural numbers; portions of all members -/
section S99zc
variable {t t' t0 : sT} {M M' M0 N Y Z : sM} {n T A B b c m o k x K w v e i d R H : Nat} {p a h u g p0 p1 : Int32} {s z : Bool} {L L' l V : List Nat} {f f2 : Nat → Nat} {y0 y1 : sV} {Q : sRs → sT → Prop}
def jo (q : Nat) : Int64 := Int64.ofNat q
theorem jo_int {q : Nat} (hq : q < 2 ^ 63) : (jo q).toInt = (q : Int) := Int64.toInt_ofNat_of_lt hq
theorem io_jo {q : Nat} (hq : q < 2 ^ 31) : (io q).toInt64 = jo q := by
  apply Int64.toInt_inj.mp
  rw [Int32.toInt_toInt64, io_int hq, jo_int (by omega)]
theorem jo_io (q : Nat) : (jo q).toInt32 = io q := Int64.toInt32_ofNat'
theorem jo_add (q r : Nat) : jo q + jo r = jo (q + r) := (Int64.ofNat_add q r).symm
theorem jo_mul (q r : Nat) : jo q * jo r = jo (q * r) := (Int64.ofNat_mul q r).symm
theorem jo_sub {q r : Nat} (hq : r ≤ q) : jo q - jo r = jo (q - r) := by
  have e1 : jo q = jo (q - r) + jo r := by rw [jo_add]; congr 1; omega
  rw [e1, Int64.add_sub_cancel]
theorem jo_div {q r : Nat} (hq : q < 2 ^ 63) (hr : r < 2 ^ 63) : jo q / jo r = jo (q / r) := by
  have hdl : (q / r) < 2 ^ 63 := Nat.lt_of_le_of_lt (Nat.div_le_self q r) hq
  apply Int64.toInt_inj.mp
  rw [Int64.toInt_div, jo_int hq, jo_int hr, jo_int hdl]
  have e1 : ((q : Int).tdiv (r : Int)) = ((q / r : Nat) : Int) := by
    rw [Int.tdiv_eq_ediv_of_nonneg (Int.natCast_nonneg q)]; rfl
  rw [e1]
  clear e1
  generalize q / r = d at hdl ⊢
  exact Int.bmod_eq_of_le (by omega) (by omega)
theorem jo_lt {q r : Nat} (hq : q < 2 ^ 63) (hr : r < 2 ^ 63) : jo q < jo r ↔ q < r := by
  rw [Int64.lt_iff_toInt_lt, jo_int hq, jo_int hr]; omega
theorem jo_ne0 {q : Nat} (hq : q < 2 ^ 63) (h0 : 0 < q) : ¬ jo q = 0 := fun e1 => by
  have e2 := congrArg Int64.toInt e1
  rw [jo_int hq] at e2
  have e3 : (0 : Int64).toInt = 0 := rfl
  omega
theorem lc_pos {q : Nat} (hq : q < 2 ^ 63) : 0 < sLcmp (jo q) (0 : Int64) ↔ 0 < q := by
  unfold sLcmp
  have e1 : ((0 : Int64) < jo q) ↔ 0 < q := jo_lt (q := 0) (by decide) hq
  by_cases h0 : 0 < q
  · rw [if_pos (e1.mpr h0)]; exact ⟨fun _ => h0, fun _ => by decide⟩
  · have h1 : q = 0 := by omega
    rw [if_neg (fun z => h0 (e1.mp z)), if_pos (show jo q = (0 : Int64) by rw [h1]; rfl)]
    exact ⟨fun z => absurd z (by decide), fun z => absurd z h0⟩
theorem j_quo {q r w : Nat} (hq : q < 2 ^ 31) (hr : r < 2 ^ 31) (hw : w < 2 ^ 31) : (((io q).toInt64 * (io r).toInt64) / jo w).toInt32 = io (r * q / w) := by
  have h1 : q * r < 2 ^ 31 * 2 ^ 31 := Nat.mul_lt_mul'' hq hr
  rw [io_jo hq, io_jo hr, jo_mul, jo_div (by omega) (by omega), jo_io, Nat.mul_comm]
/-- a list of a function's values -/
def fl (f : Nat → Nat) : Nat → Nat → List Nat
  | _, 0 => []
  | k, d + 1 => f k :: fl f (k + 1) d
theorem fl_len : ∀ (d k : Nat), (fl f k d).length = d
  | 0, _ => rfl
  | d + 1, k => congrArg (· + 1) (fl_len d (k + 1))
theorem fl_map {g : Nat → Nat} : ∀ (d k : Nat), (fl f k d).map g = fl (fun x => g (f x)) k d
  | 0, _ => rfl
  | d + 1, k => congrArg (List.cons (g (f k))) (fl_map d (k + 1))
theorem fl_get : ∀ (d k i : Nat), i < d → (fl f k d).getD i 0 = f (k + i)
  | 0, _, i, h => absurd h (Nat.not_lt_zero i)
  | d + 1, k, 0, _ => rfl
  | d + 1, k, i + 1, h => by
    have e1 : (fl f k (d + 1)).getD (i + 1) 0 = (fl f (k + 1) d).getD i 0 := rfl
    rw [e1, fl_get d (k + 1) i (by omega)]
    congr 1
    omega
theorem fl_le {g : Nat → Nat} : ∀ (d k : Nat), (∀ x, k ≤ x → x < k + d → f x ≤ g x) → (fl f k d).sum ≤ (fl g k d).sum
  | 0, _, _ => Nat.le_refl _
  | d + 1, k, h => by
    have i1 := fl_le d (k + 1) (fun x h1 h2 => h x (by omega) (by omega))
    have i2 := h k (Nat.le_refl _) (by omega)
    show (f k :: fl f (k + 1) d).sum ≤ (g k :: fl g (k + 1) d).sum
    rw [List.sum_cons, List.sum_cons]
    omega
theorem fl_bd {K : Nat} : ∀ (d k : Nat), (∀ x, k ≤ x → x < k + d → f x ≤ K) → (fl f k d).sum ≤ d * K
  | 0, _, _ => Nat.zero_le _
  | d + 1, k, h => by
    have i1 := fl_bd d (k + 1) (fun x h1 h2 => h x (by omega) (by omega))
    have i2 := h k (Nat.le_refl _) (by omega)
    show (f k :: fl f (k + 1) d).sum ≤ (d + 1) * K
    rw [List.sum_cons, Nat.succ_mul]
    omega
theorem fl_eq {g : Nat → Nat} : ∀ (d k : Nat), (∀ x, k ≤ x → x < k + d → f x = g x) → fl f k d = fl g k d
  | 0, _, _ => rfl
  | d + 1, k, h => by
    have i1 := fl_eq d (k + 1) (fun x h1 h2 => h x (by omega) (by omega))
    have i2 := h k (Nat.le_refl _) (by omega)
    show f k :: fl f (k + 1) d = g k :: fl g (k + 1) d
    rw [i1, i2]
theorem leL_sum : ∀ {A B : List Nat}, leL A B → A.sum ≤ B.sum
  | [], [], _ => Nat.le_refl _
  | x :: A, y :: B, h => by
    have h1 : x ≤ y := h.1
    have h2 := leL_sum (A := A) (B := B) h.2
    rw [List.sum_cons, List.sum_cons]
    omega
  | [], _ :: _, h => by cases h
  | _ :: _, [], h => by cases h
theorem leL_get : ∀ {A B : List Nat}, leL A B → ∀ i, A.getD i 0 ≤ B.getD i 0
  | [], [], _, i => Nat.le_refl _
  | x :: A, y :: B, h, 0 => h.1
  | x :: A, y :: B, h, i + 1 => leL_get (A := A) (B := B) h.2 i
  | [], _ :: _, h, _ => by cases h
  | _ :: _, [], h, _ => by cases h
/-- first portions: R of what f has, rounded down -/
def p0N (f : Nat → Nat) (R : Nat) (x : Nat) : Nat := R * f x / (fl f 0 6).sum
/-- portions: the rest one by one -/
def ptN (f : Nat → Nat) (R : Nat) : List Nat := dN (fl f 0 6) (R - (fl (p0N f R) 0 6).sum) (fl (p0N f R) 0 6)
theorem pt_ok (hR : R ≤ (fl f 0 6).sum) : (fl (p0N f R) 0 6).sum ≤ R ∧ R ≤ (fl (p0N f R) 0 6).sum + cntN (fl f 0 6) (fl (p0N f R) 0 6) ∧ leL (fl (p0N f R) 0 6) (fl f 0 6) := by
  have e1 : fl (p0N f R) 0 6 = (fl f 0 6).map (fun s => R * s / (fl f 0 6).sum) := (fl_map 6 0).symm
  have h3 : leL (fl (p0N f R) 0 6) (fl f 0 6) := by rw [e1]; exact share_le hR (fl f 0 6)
  rcases Nat.eq_zero_or_pos (fl f 0 6).sum with h0 | h0
  · have := leL_sum h3
    exact ⟨by omega, by omega, h3⟩
  · have h1 := share_dn (R := R) (H := (fl f 0 6).sum) (fl f 0 6)
    rw [← e1, Nat.mul_comm] at h1
    have h2 := Nat.le_of_mul_le_mul_right h1 h0
    have h4 := share_up hR h0 (fl f 0 6)
    rw [← e1, Nat.mul_comm] at h4
    exact ⟨h2, Nat.le_of_mul_le_mul_left h4 h0, h3⟩
theorem pt_len : (ptN f R).length = 6 := by
  unfold ptN
  rw [dN_len, fl_len]
theorem pt_le (hR : R ≤ (fl f 0 6).sum) : leL (ptN f R) (fl f 0 6) := dN_le (pt_ok hR).2.2
theorem pt_get (hR : R ≤ (fl f 0 6).sum) (hx : x < 6) : (ptN f R).getD x 0 ≤ f x := by
  have h1 := leL_get (pt_le hR) x
  rw [fl_get 6 0 x hx, Nat.zero_add] at h1
  exact h1
theorem pt_sum (hR : R ≤ (fl f 0 6).sum) : (ptN f R).sum = R := by
  obtain ⟨h1, h2, h3⟩ := pt_ok hR
  unfold ptN
  rw [dN_sum]
  omega
theorem p0_le (hR : R ≤ (fl f 0 6).sum) (hx : x < 6) : p0N f R x ≤ f x := by
  have h1 := leL_get (pt_ok hR).2.2 x
  rw [fl_get 6 0 x hx, fl_get 6 0 x hx, Nat.zero_add] at h1
  exact h1
/-- numbers without their sign -/
theorem ab_io (h1 : -1000000 ≤ p.toInt) (h2 : p.toInt ≤ 1000000) : ab p = io p.toInt.natAbs := by
  apply Int32.toInt_inj.mp
  rw [io_int (by omega)]
  unfold ab
  have e0 : (0 : Int32).toInt = 0 := rfl
  split
  · rename_i h3
    rw [Int32.le_iff_toInt_le] at h3
    omega
  · rename_i h3
    rw [Int32.le_iff_toInt_le] at h3
    rw [Int32.toInt_sub, e0, Int.bmod_eq_of_le (by omega) (by omega)]
    omega
theorem io_abs (h1 : -1000000 ≤ p.toInt) (h2 : p.toInt ≤ 1000000) : (¬ p < 0 → p = io p.toInt.natAbs) ∧ (p < 0 → -p = io p.toInt.natAbs) := by
  have h3 := ab_io h1 h2
  exact ⟨fun g => by rw [← h3, ab_n g], fun g => by rw [← h3, ab_m g]⟩
/-- what one gives against another: its position without sign, if it has the other sign -/
def gN (p a : Int32) : Nat := if (0 < p ∧ a < 0) ∨ (p < 0 ∧ 0 < a) then p.toInt.natAbs else 0
theorem gN_le (h1 : -1000000 ≤ p.toInt) (h2 : p.toInt ≤ 1000000) : gN p a ≤ 1000000 := by
  unfold gN
  split <;> omega
theorem gN_0 (h : ¬ ((0 < p ∧ a < 0) ∨ (p < 0 ∧ 0 < a))) : gN p a = 0 := if_neg h
theorem gN_1 (h : (0 < p ∧ a < 0) ∨ (p < 0 ∧ 0 < a)) : gN p a = p.toInt.natAbs := if_pos h
theorem nlt_p {p : Int32} (h : 0 < p) : ¬ p < 0 := nlt_of h
/-- the positions of a contract: their sum is 0 -/
def Zs (M : sM) : Prop := ∀ c, c < 3 → ((((((mA M 6 (3 * 0 + c)).toInt + (mA M 6 (3 * 1 + c)).toInt) + (mA M 6 (3 * 2 + c)).toInt) + (mA M 6 (3 * 3 + c)).toInt) + (mA M 6 (3 * 4 + c)).toInt) + (mA M 6 (3 * 5 + c)).toInt) = 0
def gF (M : sM) (c m : Nat) (x : Nat) : Nat := gN (mA M 6 ((3 * x) + c)) (mA M 6 ((3 * m) + c))
def gR (M : sM) (c m : Nat) : Nat := (mA M 6 ((3 * m) + c)).toInt.natAbs
theorem gF_le (hP : Pv M) (hc : c < 3) (hx : x < 6) : gF M c m x ≤ 1000000 := gN_le (hP.1 _ (by omega)).1 (hP.1 _ (by omega)).2
theorem gN_int {p a : Int32} : (gN p a : Int) = if (0 < p.toInt ∧ a.toInt < 0) ∨ (p.toInt < 0 ∧ 0 < a.toInt) then (p.toInt.natAbs : Int) else 0 := by
  have e0 : (0 : Int32).toInt = 0 := rfl
  unfold gN
  by_cases h : (0 < p ∧ a < 0) ∨ (p < 0 ∧ 0 < a)
  · rw [if_pos h]
    rw [Int32.lt_iff_toInt_lt, Int32.lt_iff_toInt_lt, Int32.lt_iff_toInt_lt, Int32.lt_iff_toInt_lt, e0] at h
    rw [if_pos h]
  · rw [if_neg h]
    rw [Int32.lt_iff_toInt_lt, Int32.lt_iff_toInt_lt, Int32.lt_iff_toInt_lt, Int32.lt_iff_toInt_lt, e0] at h
    rw [if_neg h]; rfl
/-- the others can give all of a position -/
theorem g_all (hZ : Zs M) (hc : c < 3) (hm : m < 6) : gR M c m ≤ (fl (gF M c m) 0 6).sum := by
  have h := hZ c hc
  have e1 : (fl (gF M c m) 0 6).sum = gF M c m 0 + (gF M c m 1 + (gF M c m 2 + (gF M c m 3 + (gF M c m 4 + (gF M c m 5 + 0))))) := rfl
  rw [e1]
  unfold gF gR
  have g0 := gN_int (p := mA M 6 (3 * 0 + c)) (a := mA M 6 ((3 * m) + c))
  have g1 := gN_int (p := mA M 6 (3 * 1 + c)) (a := mA M 6 ((3 * m) + c))
  have g2 := gN_int (p := mA M 6 (3 * 2 + c)) (a := mA M 6 ((3 * m) + c))
  have g3 := gN_int (p := mA M 6 (3 * 3 + c)) (a := mA M 6 ((3 * m) + c))
  have g4 := gN_int (p := mA M 6 (3 * 4 + c)) (a := mA M 6 ((3 * m) + c))
  have g5 := gN_int (p := mA M 6 (3 * 5 + c)) (a := mA M 6 ((3 * m) + c))
  have hx : (mA M 6 ((3 * m) + c)).toInt = (mA M 6 (3 * 0 + c)).toInt ∨ (mA M 6 ((3 * m) + c)).toInt = (mA M 6 (3 * 1 + c)).toInt ∨ (mA M 6 ((3 * m) + c)).toInt = (mA M 6 (3 * 2 + c)).toInt ∨ (mA M 6 ((3 * m) + c)).toInt = (mA M 6 (3 * 3 + c)).toInt ∨ (mA M 6 ((3 * m) + c)).toInt = (mA M 6 (3 * 4 + c)).toInt ∨ (mA M 6 ((3 * m) + c)).toInt = (mA M 6 (3 * 5 + c)).toInt := by
    match m, hm with
    | 0, _ => exact Or.inl rfl
    | 1, _ => exact Or.inr (Or.inl rfl)
    | 2, _ => exact Or.inr (Or.inr (Or.inl rfl))
    | 3, _ => exact Or.inr (Or.inr (Or.inr (Or.inl rfl)))
    | 4, _ => exact Or.inr (Or.inr (Or.inr (Or.inr (Or.inl rfl))))
    | 5, _ => exact Or.inr (Or.inr (Or.inr (Or.inr (Or.inr rfl))))
  generalize gN (mA M 6 (3 * 0 + c)) (mA M 6 ((3 * m) + c)) = G0 at *
  generalize gN (mA M 6 (3 * 1 + c)) (mA M 6 ((3 * m) + c)) = G1 at *
  generalize gN (mA M 6 (3 * 2 + c)) (mA M 6 ((3 * m) + c)) = G2 at *
  generalize gN (mA M 6 (3 * 3 + c)) (mA M 6 ((3 * m) + c)) = G3 at *
  generalize gN (mA M 6 (3 * 4 + c)) (mA M 6 ((3 * m) + c)) = G4 at *
  generalize gN (mA M 6 (3 * 5 + c)) (mA M 6 ((3 * m) + c)) = G5 at *
  generalize (mA M 6 ((3 * m) + c)).toInt = X at *
  generalize (mA M 6 (3 * 0 + c)).toInt = P0 at *
  generalize (mA M 6 (3 * 1 + c)).toInt = P1 at *
  generalize (mA M 6 (3 * 2 + c)).toInt = P2 at *
  generalize (mA M 6 (3 * 3 + c)).toInt = P3 at *
  generalize (mA M 6 (3 * 4 + c)).toInt = P4 at *
  generalize (mA M 6 (3 * 5 + c)).toInt = P5 at *
  have key : ∀ (P : Int) (G : Nat), (G : Int) = (if (0 < P ∧ X < 0) ∨ (P < 0 ∧ 0 < X) then (P.natAbs : Int) else 0) → (0 < X → -P ≤ G) ∧ (X < 0 → P ≤ G) ∧ (0 ≤ (G : Int)) := fun P G e => by
    split at e <;> omega
  have k0 := key P0 G0 g0
  have k1 := key P1 G1 g1
  have k2 := key P2 G2 g2
  have k3 := key P3 G3 g3
  have k4 := key P4 G4 g4
  have k5 := key P5 G5 g5
  clear g0 g1 g2 g3 g4 g5 key
  rcases Int.lt_trichotomy X 0 with hX | hX | hX
  · have j0 := k0.2.1 hX
    have j1 := k1.2.1 hX
    have j2 := k2.2.1 hX
    have j3 := k3.2.1 hX
    have j4 := k4.2.1 hX
    have j5 := k5.2.1 hX
    rcases hx with e | e | e | e | e | e <;> omega
  · omega
  · have j0 := k0.1 hX
    have j1 := k1.1 hX
    have j2 := k2.1 hX
    have j3 := k3.1 hX
    have j4 := k4.1 hX
    have j5 := k5.1 hX
    rcases hx with e | e | e | e | e | e <;> omega
end S99zc
