/-! one call on a fresh object: what the cases share -/
theorem bq_cc {q : ClassFile.Cond} {z : Bool} {x y w : Int32} {r : Bool} (h1 : sCond q x w = r) (h2 : sCond q y w = r) : sCond q (bif z then x else y) w = r := by cases z; exact h2; exact h1
theorem bq_tf {q : ClassFile.Cond} {z : Bool} {x y w : Int32} (h1 : sCond q x w = true) (h2 : sCond q y w = false) : sCond q (bif z then x else y) w = z := by cases z; exact h2; exact h1
theorem bq_ft {q : ClassFile.Cond} {z : Bool} {x y w : Int32} (h1 : sCond q x w = false) (h2 : sCond q y w = true) : sCond q (bif z then x else y) w = !z := by cases z; exact h2; exact h1
theorem bq_xf {q : ClassFile.Cond} {z r : Bool} {x y w : Int32} (h1 : sCond q x w = r) (h2 : sCond q y w = false) : sCond q (bif z then x else y) w = (z && r) := by cases z; exact h2; exact h1
theorem bq_tx {q : ClassFile.Cond} {z r : Bool} {x y w : Int32} (h1 : sCond q x w = true) (h2 : sCond q y w = r) : sCond q (bif z then x else y) w = (z || r) := by cases z; exact h2; exact h1
theorem bq_fx {q : ClassFile.Cond} {z r : Bool} {x y w : Int32} (h1 : sCond q x w = false) (h2 : sCond q y w = r) : sCond q (bif z then x else y) w = (!z && r) := by cases z; exact h2; exact h1
theorem bq_xt {q : ClassFile.Cond} {z r : Bool} {x y w : Int32} (h1 : sCond q x w = r) (h2 : sCond q y w = true) : sCond q (bif z then x else y) w = (!z || r) := by cases z; exact h2; exact h1
theorem bq_xx {q : ClassFile.Cond} {z r r' : Bool} {x y w : Int32} (h1 : sCond q x w = r) (h2 : sCond q y w = r') : sCond q (bif z then x else y) w = (bif z then r else r') := by cases z; exact h2; exact h1
theorem nt_of {z r : Bool} (h : z = r) : (!z) = !r := congrArg not h
theorem zz_no {z : Bool} {P : Prop} (h1 : z = true) (h2 : z = false) : P := absurd (h1.symm.trans h2) (by decide)
def Qp : sRs → sT → Prop := fun r t => r = .inl (some (.inl 1)) ∧ sn t ≤ 600002 ∧ sw t ≤ 7302232
theorem n_I {t : sT} {f o : Nat} {v : Int32} : sn (sIw t f o v) = sn t := rfl
theorem n_Z {t : sT} {f o : Nat} {v : Bool} : sn (sZw t f o v) = sn t := rfl
theorem n_R {t : sT} {f o : Nat} {v : Option Nat} : sn (sRw t f o v) = sn t := rfl
theorem n_A {t : sT} {k o p : Nat} {v : Int32} : sn (sAw t k o p v) = sn t := rfl
theorem n_B {t : sT} {k o p : Nat} {v : Bool} : sn (sBw t k o p v) = sn t := rfl
theorem n_E {t : sT} {k o p : Nat} {v : Nat × Option Nat} : sn (sEw t k o p v) = sn t := rfl
theorem n_L {t : sT} {k o p : Nat} {v : Int64} : sn (sLw t k o p v) = sn t := rfl
theorem n_new {t : sT} {k w : Nat} : sn (sNew t k w) = sn t + 1 := rfl
theorem n_nwa {t : sT} {k n : Nat} : sn (sNwA t k n) = sn t + 1 := rfl
theorem n_thr {t : sT} : sn (sThr t) = sn t + 1 := rfl
theorem n_T0 {L : Nat} {xs : Nat → Int32} : sn (sT0 L xs) = 0 := rfl
theorem w_I {t : sT} {f o : Nat} {v : Int32} : sw (sIw t f o v) = sw t := rfl
theorem w_Z {t : sT} {f o : Nat} {v : Bool} : sw (sZw t f o v) = sw t := rfl
theorem w_R {t : sT} {f o : Nat} {v : Option Nat} : sw (sRw t f o v) = sw t := rfl
theorem w_A {t : sT} {k o p : Nat} {v : Int32} : sw (sAw t k o p v) = sw t := rfl
theorem w_B {t : sT} {k o p : Nat} {v : Bool} : sw (sBw t k o p v) = sw t := rfl
theorem w_E {t : sT} {k o p : Nat} {v : Nat × Option Nat} : sw (sEw t k o p v) = sw t := rfl
theorem w_L {t : sT} {k o p : Nat} {v : Int64} : sw (sLw t k o p v) = sw t := rfl
theorem w_new {t : sT} {k w : Nat} : sw (sNew t k w) = sw t + w := rfl
theorem w_nwa {t : sT} {k n : Nat} : sw (sNwA t k n) = sw t + n := rfl
theorem w_thr {t : sT} : sw (sThr t) = sw t + 6 := rfl
theorem w_T0 {L : Nat} {xs : Nat → Int32} : sw (sT0 L xs) = 0 := rfl
set_option maxHeartbeats 4000000 in
set_option maxRecDepth 100000 in
theorem n_T16 {L : Nat} {xs : Nat → Int32} : sn (T16 L xs) ≤ 1000 := by
  simp only [T16, T15, T13, T12, T11, T9, T8, T6, T5, T3, T1, n_I, n_Z, n_R, n_A, n_B, n_E, n_L, n_new, n_nwa, n_T0, Nat.reduceAdd, Nat.zero_add]
  decide
set_option maxHeartbeats 4000000 in
set_option maxRecDepth 100000 in
theorem w_T16 {L : Nat} {xs : Nat → Int32} : sw (T16 L xs) ≤ 100000 := by
  simp only [T16, T15, T13, T12, T11, T9, T8, T6, T5, T3, T1, w_I, w_Z, w_R, w_A, w_B, w_E, w_L, w_new, w_nwa, w_T0, Nat.reduceAdd, Nat.zero_add]
  decide
theorem Qp_ok {L : Nat} {xs : Nat → Int32} {t0 t : sT} {p q : Nat} (e : t0 = T16 L xs) (h1 : sn t = sn t0 + p) (h2 : sw t = sw t0 + q) (h3 : Nat.ble p 1000 = true) (h4 : Nat.ble q 100000 = true) : Qp (.inl (some (.inl (bz true)))) t := by
  subst e
  have a := n_T16 (L := L) (xs := xs)
  have b := w_T16 (L := L) (xs := xs)
  have c := Nat.le_of_ble_eq_true h3
  have d := Nat.le_of_ble_eq_true h4
  exact ⟨rfl, by omega, by omega⟩
theorem lt_of6 {x : Int32} (h : ¬ x < 6) : 5 < x := by
  rw [Int32.lt_iff_toInt_lt, show (6 : Int32).toInt = 6 from rfl] at h
  rw [Int32.lt_iff_toInt_lt, show (5 : Int32).toInt = 5 from rfl]
  omega
theorem lt_of5 {x : Int32} (h : ¬ x < 5) : 4 < x := by
  rw [Int32.lt_iff_toInt_lt, show (5 : Int32).toInt = 5 from rfl] at h
  rw [Int32.lt_iff_toInt_lt, show (4 : Int32).toInt = 4 from rfl]
  omega
theorem lt_of3 {x : Int32} (h : ¬ x < 3) : 2 < x := by
  rw [Int32.lt_iff_toInt_lt, show (3 : Int32).toInt = 3 from rfl] at h
  rw [Int32.lt_iff_toInt_lt, show (2 : Int32).toInt = 2 from rfl]
  omega
theorem m1_lt {x : Int32} (h : ¬ x < 0) : (-1) < x := by
  rw [Int32.lt_iff_toInt_lt, show (0 : Int32).toInt = 0 from rfl] at h
  rw [Int32.lt_iff_toInt_lt, show (-1 : Int32).toInt = -1 from rfl]
  omega
theorem lt_99 {x : Int32} (h : ¬ 500 < x) : ¬ 999 < x := by
  rw [Int32.lt_iff_toInt_lt, show (500 : Int32).toInt = 500 from rfl] at h
  rw [Int32.lt_iff_toInt_lt, show (999 : Int32).toInt = 999 from rfl]
  omega
theorem ad1 {x : Int32} (h : x.toInt ≤ 999) : (x + 1).toInt = x.toInt + 1 := by
  rw [Int32.toInt_add, show (1 : Int32).toInt = 1 from rfl]
  have := Int32.le_toInt x
  exact Int.bmod_eq_of_le (by omega) (by omega)
theorem ltq9 {x y : Int32} (h : x.toInt ≤ 999) : x < y ↔ ¬ y < x + 1 := by
  rw [Int32.lt_iff_toInt_lt, Int32.lt_iff_toInt_lt, ad1 h]
  omega
theorem ltq_9 {x : Int32} (h : ¬ 999 < x) : x.toInt ≤ 999 := by
  rw [Int32.lt_iff_toInt_lt, show (999 : Int32).toInt = 999 from rfl] at h
  omega
theorem ltq_5 {x : Int32} (h : ¬ 500 < x) : x.toInt ≤ 999 := by
  rw [Int32.lt_iff_toInt_lt, show (500 : Int32).toInt = 500 from rfl] at h
  omega
theorem ltq_f9 {x y : Int32} (h : ¬ 999 < x) (k : y < x + 1) : ¬ x < y := fun z => (ltq9 (ltq_9 h)).mp z k
theorem ltq_f5 {x y : Int32} (h : ¬ 500 < x) (k : y < x + 1) : ¬ x < y := fun z => (ltq9 (ltq_5 h)).mp z k
theorem ltq_t9 {x y : Int32} (h : ¬ 999 < x) (k : ¬ y < x + 1) : x < y := (ltq9 (ltq_9 h)).mpr k
theorem ltq_t5 {x y : Int32} (h : ¬ 500 < x) (k : ¬ y < x + 1) : x < y := (ltq9 (ltq_5 h)).mpr k
theorem cls {n : Nat} (hn : n < 2 ^ 31) (x : Int32) : x < 0 ∨ (¬ x < 0 ∧ ¬ x < io n) ∨ ∃ m, m < n ∧ x = io m := by
  by_cases h0 : x < 0
  · exact .inl h0
  · by_cases h1 : x < io n
    · refine .inr (.inr ⟨x.toInt.toNat, ?_, ?_⟩)
      · rw [Int32.lt_iff_toInt_lt, io_int hn] at h1
        rw [Int32.lt_iff_toInt_lt, show (0 : Int32).toInt = 0 from rfl] at h0
        omega
      · rw [Int32.lt_iff_toInt_lt, io_int hn] at h1
        rw [Int32.lt_iff_toInt_lt, show (0 : Int32).toInt = 0 from rfl] at h0
        exact Int32.toInt_inj.mp (by rw [io_int (by omega)]; omega)
    · exact .inr (.inl ⟨h0, h1⟩)
theorem cls_6 (x : Int32) : x < 0 ∨ (¬ x < 0 ∧ ¬ x < 6) ∨ ∃ m, m < 6 ∧ x = io m := cls (n := 6) (by decide) x
theorem clc_3 (x : Int32) : x < 0 ∨ (¬ x < 0 ∧ ¬ x < 3) ∨ x = 0 ∨ x = 1 ∨ x = 2 := by
  rcases cls (n := 3) (by decide) x with h | h | ⟨m, hm, e⟩
  · exact .inl h
  · exact .inr (.inl h)
  · refine .inr (.inr ?_)
    subst e
    match m, hm with
    | 0, _ => exact .inl rfl
    | 1, _ => exact .inr (.inl rfl)
    | 2, _ => exact .inr (.inr rfl)
theorem clc_5 (x : Int32) : x < 0 ∨ (¬ x < 0 ∧ ¬ x < 5) ∨ x = 0 ∨ x = 1 ∨ x = 2 ∨ x = 3 ∨ x = 4 := by
  rcases cls (n := 5) (by decide) x with h | h | ⟨m, hm, e⟩
  · exact .inl h
  · exact .inr (.inl h)
  · refine .inr (.inr ?_)
    subst e
    match m, hm with
    | 0, _ => exact .inl rfl
    | 1, _ => exact .inr (.inl rfl)
    | 2, _ => exact .inr (.inr (.inl rfl))
    | 3, _ => exact .inr (.inr (.inr (.inl rfl)))
    | 4, _ => exact .inr (.inr (.inr (.inr rfl)))
theorem clc_6 (x : Int32) : x < 0 ∨ (¬ x < 0 ∧ ¬ x < 6) ∨ x = 0 ∨ x = 1 ∨ x = 2 ∨ x = 3 ∨ x = 4 ∨ x = 5 := by
  rcases cls (n := 6) (by decide) x with h | h | ⟨m, hm, e⟩
  · exact .inl h
  · exact .inr (.inl h)
  · refine .inr (.inr ?_)
    subst e
    match m, hm with
    | 0, _ => exact .inl rfl
    | 1, _ => exact .inr (.inl rfl)
    | 2, _ => exact .inr (.inr (.inl rfl))
    | 3, _ => exact .inr (.inr (.inr (.inl rfl)))
    | 4, _ => exact .inr (.inr (.inr (.inr (.inl rfl))))
    | 5, _ => exact .inr (.inr (.inr (.inr (.inr rfl))))
theorem and63 (x : Int32) : ∃ k, k < 64 ∧ x &&& 63 = io k := by
  refine ⟨x.toBitVec.toNat % 64, Nat.mod_lt _ (by decide), ?_⟩
  apply Int32.toBitVec_inj.mp
  apply BitVec.eq_of_toNat_eq
  have h : (x &&& 63).toBitVec = x.toBitVec &&& 63#32 := rfl
  rw [h, BitVec.toNat_and]
  have h2 : (63#32).toNat = 2 ^ 6 - 1 := rfl
  rw [h2, Nat.and_two_pow_sub_one_eq_mod]
  have h3 : (io (x.toBitVec.toNat % 64)).toBitVec.toNat = (x.toBitVec.toNat % 64) % 2 ^ 32 := rfl
  rw [h3]
  exact (Nat.mod_eq_of_lt (Nat.lt_of_lt_of_le (Nat.mod_lt _ (by decide)) (by decide))).symm
set_option maxRecDepth 100000 in
theorem z_A_20_0_0 {t : sT} {xs : Nat → Int32} (e : t = T16 7 xs) : sA t 20 0 0 = 0 := by subst e; exact rfl
set_option maxRecDepth 100000 in
theorem z_A_20_0_1 {t : sT} {xs : Nat → Int32} (e : t = T16 7 xs) : sA t 20 0 1 = 0 := by subst e; exact rfl
set_option maxRecDepth 100000 in
theorem z_A_20_0_10 {t : sT} {xs : Nat → Int32} (e : t = T16 7 xs) : sA t 20 0 10 = 0 := by subst e; exact rfl
set_option maxRecDepth 100000 in
theorem z_A_20_0_11 {t : sT} {xs : Nat → Int32} (e : t = T16 7 xs) : sA t 20 0 11 = 0 := by subst e; exact rfl
set_option maxRecDepth 100000 in
theorem z_A_20_0_12 {t : sT} {xs : Nat → Int32} (e : t = T16 7 xs) : sA t 20 0 12 = 0 := by subst e; exact rfl
set_option maxRecDepth 100000 in
theorem z_A_20_0_13 {t : sT} {xs : Nat → Int32} (e : t = T16 7 xs) : sA t 20 0 13 = 0 := by subst e; exact rfl
set_option maxRecDepth 100000 in
theorem z_A_20_0_14 {t : sT} {xs : Nat → Int32} (e : t = T16 7 xs) : sA t 20 0 14 = 0 := by subst e; exact rfl
set_option maxRecDepth 100000 in
theorem z_A_20_0_15 {t : sT} {xs : Nat → Int32} (e : t = T16 7 xs) : sA t 20 0 15 = 0 := by subst e; exact rfl
set_option maxRecDepth 100000 in
theorem z_A_20_0_16 {t : sT} {xs : Nat → Int32} (e : t = T16 7 xs) : sA t 20 0 16 = 0 := by subst e; exact rfl
set_option maxRecDepth 100000 in
theorem z_A_20_0_17 {t : sT} {xs : Nat → Int32} (e : t = T16 7 xs) : sA t 20 0 17 = 0 := by subst e; exact rfl
set_option maxRecDepth 100000 in
theorem z_A_20_0_2 {t : sT} {xs : Nat → Int32} (e : t = T16 7 xs) : sA t 20 0 2 = 0 := by subst e; exact rfl
set_option maxRecDepth 100000 in
theorem z_A_20_0_3 {t : sT} {xs : Nat → Int32} (e : t = T16 7 xs) : sA t 20 0 3 = 0 := by subst e; exact rfl
set_option maxRecDepth 100000 in
theorem z_A_20_0_4 {t : sT} {xs : Nat → Int32} (e : t = T16 7 xs) : sA t 20 0 4 = 0 := by subst e; exact rfl
set_option maxRecDepth 100000 in
theorem z_A_20_0_5 {t : sT} {xs : Nat → Int32} (e : t = T16 7 xs) : sA t 20 0 5 = 0 := by subst e; exact rfl
set_option maxRecDepth 100000 in
theorem z_A_20_0_6 {t : sT} {xs : Nat → Int32} (e : t = T16 7 xs) : sA t 20 0 6 = 0 := by subst e; exact rfl
set_option maxRecDepth 100000 in
theorem z_A_20_0_7 {t : sT} {xs : Nat → Int32} (e : t = T16 7 xs) : sA t 20 0 7 = 0 := by subst e; exact rfl
set_option maxRecDepth 100000 in
theorem z_A_20_0_8 {t : sT} {xs : Nat → Int32} (e : t = T16 7 xs) : sA t 20 0 8 = 0 := by subst e; exact rfl
set_option maxRecDepth 100000 in
theorem z_A_20_0_9 {t : sT} {xs : Nat → Int32} (e : t = T16 7 xs) : sA t 20 0 9 = 0 := by subst e; exact rfl
set_option maxRecDepth 100000 in
theorem z_A_20_0_y {t : sT} {xs : Nat → Int32} (e : t = T16 7 xs) : ∀ p, sA t 20 0 p = 0 := by subst e; exact fun _ => rfl
set_option maxRecDepth 100000 in
theorem z_A_20_7_0 {t : sT} {xs : Nat → Int32} (e : t = T16 7 xs) : sA t 20 7 0 = 0 := by subst e; exact rfl
set_option maxRecDepth 100000 in
theorem z_A_20_7_1 {t : sT} {xs : Nat → Int32} (e : t = T16 7 xs) : sA t 20 7 1 = 0 := by subst e; exact rfl
set_option maxRecDepth 100000 in
theorem z_A_20_7_2 {t : sT} {xs : Nat → Int32} (e : t = T16 7 xs) : sA t 20 7 2 = 0 := by subst e; exact rfl
set_option maxRecDepth 100000 in
theorem z_A_20_7_3 {t : sT} {xs : Nat → Int32} (e : t = T16 7 xs) : sA t 20 7 3 = 0 := by subst e; exact rfl
set_option maxRecDepth 100000 in
theorem z_A_20_7_4 {t : sT} {xs : Nat → Int32} (e : t = T16 7 xs) : sA t 20 7 4 = 0 := by subst e; exact rfl
set_option maxRecDepth 100000 in
theorem z_A_20_7_5 {t : sT} {xs : Nat → Int32} (e : t = T16 7 xs) : sA t 20 7 5 = 0 := by subst e; exact rfl
set_option maxRecDepth 100000 in
theorem z_A_20_yy {t : sT} {xs : Nat → Int32} (e : t = T16 7 xs) : ∀ o p, sA t 20 o p = 0 := by subst e; exact fun _ _ => rfl
set_option maxRecDepth 100000 in
theorem z_A_21_0_0 {t : sT} {xs : Nat → Int32} (e : t = T16 7 xs) : sA t 21 0 0 = 0 := by subst e; exact rfl
set_option maxRecDepth 100000 in
theorem z_A_21_0_1 {t : sT} {xs : Nat → Int32} (e : t = T16 7 xs) : sA t 21 0 1 = 0 := by subst e; exact rfl
set_option maxRecDepth 100000 in
theorem z_A_21_0_2 {t : sT} {xs : Nat → Int32} (e : t = T16 7 xs) : sA t 21 0 2 = 0 := by subst e; exact rfl
set_option maxRecDepth 100000 in
theorem z_A_21_0_3 {t : sT} {xs : Nat → Int32} (e : t = T16 7 xs) : sA t 21 0 3 = 0 := by subst e; exact rfl
set_option maxRecDepth 100000 in
theorem z_A_21_0_4 {t : sT} {xs : Nat → Int32} (e : t = T16 7 xs) : sA t 21 0 4 = 0 := by subst e; exact rfl
set_option maxRecDepth 100000 in
theorem z_A_21_11_0 {t : sT} {xs : Nat → Int32} (e : t = T16 7 xs) : sA t 21 11 0 = 0 := by subst e; exact rfl
set_option maxRecDepth 100000 in
theorem z_A_21_11_1 {t : sT} {xs : Nat → Int32} (e : t = T16 7 xs) : sA t 21 11 1 = 0 := by subst e; exact rfl
set_option maxRecDepth 100000 in
theorem z_A_21_11_10 {t : sT} {xs : Nat → Int32} (e : t = T16 7 xs) : sA t 21 11 10 = 0 := by subst e; exact rfl
set_option maxRecDepth 100000 in
theorem z_A_21_11_11 {t : sT} {xs : Nat → Int32} (e : t = T16 7 xs) : sA t 21 11 11 = 0 := by subst e; exact rfl
set_option maxRecDepth 100000 in
theorem z_A_21_11_12 {t : sT} {xs : Nat → Int32} (e : t = T16 7 xs) : sA t 21 11 12 = 0 := by subst e; exact rfl
set_option maxRecDepth 100000 in
theorem z_A_21_11_13 {t : sT} {xs : Nat → Int32} (e : t = T16 7 xs) : sA t 21 11 13 = 0 := by subst e; exact rfl
set_option maxRecDepth 100000 in
theorem z_A_21_11_14 {t : sT} {xs : Nat → Int32} (e : t = T16 7 xs) : sA t 21 11 14 = 0 := by subst e; exact rfl
set_option maxRecDepth 100000 in
theorem z_A_21_11_15 {t : sT} {xs : Nat → Int32} (e : t = T16 7 xs) : sA t 21 11 15 = 0 := by subst e; exact rfl
set_option maxRecDepth 100000 in
theorem z_A_21_11_16 {t : sT} {xs : Nat → Int32} (e : t = T16 7 xs) : sA t 21 11 16 = 0 := by subst e; exact rfl
set_option maxRecDepth 100000 in
theorem z_A_21_11_17 {t : sT} {xs : Nat → Int32} (e : t = T16 7 xs) : sA t 21 11 17 = 0 := by subst e; exact rfl
set_option maxRecDepth 100000 in
theorem z_A_21_11_2 {t : sT} {xs : Nat → Int32} (e : t = T16 7 xs) : sA t 21 11 2 = 0 := by subst e; exact rfl
set_option maxRecDepth 100000 in
theorem z_A_21_11_3 {t : sT} {xs : Nat → Int32} (e : t = T16 7 xs) : sA t 21 11 3 = 0 := by subst e; exact rfl
set_option maxRecDepth 100000 in
theorem z_A_21_11_4 {t : sT} {xs : Nat → Int32} (e : t = T16 7 xs) : sA t 21 11 4 = 0 := by subst e; exact rfl
set_option maxRecDepth 100000 in
theorem z_A_21_11_5 {t : sT} {xs : Nat → Int32} (e : t = T16 7 xs) : sA t 21 11 5 = 0 := by subst e; exact rfl
set_option maxRecDepth 100000 in
theorem z_A_21_11_6 {t : sT} {xs : Nat → Int32} (e : t = T16 7 xs) : sA t 21 11 6 = 0 := by subst e; exact rfl
set_option maxRecDepth 100000 in
theorem z_A_21_11_7 {t : sT} {xs : Nat → Int32} (e : t = T16 7 xs) : sA t 21 11 7 = 0 := by subst e; exact rfl
set_option maxRecDepth 100000 in
theorem z_A_21_11_8 {t : sT} {xs : Nat → Int32} (e : t = T16 7 xs) : sA t 21 11 8 = 0 := by subst e; exact rfl
set_option maxRecDepth 100000 in
theorem z_A_21_11_9 {t : sT} {xs : Nat → Int32} (e : t = T16 7 xs) : sA t 21 11 9 = 0 := by subst e; exact rfl
set_option maxRecDepth 100000 in
theorem z_A_21_11_y {t : sT} {xs : Nat → Int32} (e : t = T16 7 xs) : ∀ p, sA t 21 11 p = 0 := by subst e; exact fun _ => rfl
set_option maxRecDepth 100000 in
theorem z_A_21_1_0 {t : sT} {xs : Nat → Int32} (e : t = T16 7 xs) : sA t 21 1 0 = 100 := by subst e; exact rfl
set_option maxRecDepth 100000 in
theorem z_A_21_1_1 {t : sT} {xs : Nat → Int32} (e : t = T16 7 xs) : sA t 21 1 1 = 100 := by subst e; exact rfl
set_option maxRecDepth 100000 in
theorem z_A_21_1_2 {t : sT} {xs : Nat → Int32} (e : t = T16 7 xs) : sA t 21 1 2 = 100 := by subst e; exact rfl
set_option maxRecDepth 100000 in
theorem z_A_21_2_0 {t : sT} {xs : Nat → Int32} (e : t = T16 7 xs) : sA t 21 2 0 = 100 := by subst e; exact rfl
set_option maxRecDepth 100000 in
theorem z_A_21_2_1 {t : sT} {xs : Nat → Int32} (e : t = T16 7 xs) : sA t 21 2 1 = 100 := by subst e; exact rfl
set_option maxRecDepth 100000 in
theorem z_A_21_2_2 {t : sT} {xs : Nat → Int32} (e : t = T16 7 xs) : sA t 21 2 2 = 100 := by subst e; exact rfl
set_option maxRecDepth 100000 in
theorem z_A_21_4_y {t : sT} {xs : Nat → Int32} (e : t = T16 7 xs) : ∀ p, sA t 21 4 p = 0 := by subst e; exact fun _ => rfl
set_option maxRecDepth 100000 in
theorem z_A_21_5_y {t : sT} {xs : Nat → Int32} (e : t = T16 7 xs) : ∀ p, sA t 21 5 p = 0 := by subst e; exact fun _ => rfl
set_option maxRecDepth 100000 in
theorem z_A_21_6_y {t : sT} {xs : Nat → Int32} (e : t = T16 7 xs) : ∀ p, sA t 21 6 p = 0 := by subst e; exact fun _ => rfl
set_option maxRecDepth 100000 in
theorem z_A_21_7_y {t : sT} {xs : Nat → Int32} (e : t = T16 7 xs) : ∀ p, sA t 21 7 p = 0 := by subst e; exact fun _ => rfl
set_option maxRecDepth 100000 in
theorem z_A_21_8_y {t : sT} {xs : Nat → Int32} (e : t = T16 7 xs) : ∀ p, sA t 21 8 p = 0 := by subst e; exact fun _ => rfl
set_option maxRecDepth 100000 in
theorem z_A_28_0_0 {t : sT} {xs : Nat → Int32} (e : t = T16 7 xs) : sA t 28 0 0 = 1 := by subst e; exact rfl
set_option maxRecDepth 100000 in
theorem z_A_28_0_12 {t : sT} {xs : Nat → Int32} (e : t = T16 7 xs) : sA t 28 0 12 = 5 := by subst e; exact rfl
set_option maxRecDepth 100000 in
theorem z_A_28_0_15 {t : sT} {xs : Nat → Int32} (e : t = T16 7 xs) : sA t 28 0 15 = (-4) := by subst e; exact rfl
set_option maxRecDepth 100000 in
theorem z_A_28_0_18 {t : sT} {xs : Nat → Int32} (e : t = T16 7 xs) : sA t 28 0 18 = 3 := by subst e; exact rfl
set_option maxRecDepth 100000 in
theorem z_A_28_0_21 {t : sT} {xs : Nat → Int32} (e : t = T16 7 xs) : sA t 28 0 21 = (-5) := by subst e; exact rfl
set_option maxRecDepth 100000 in
theorem z_A_28_0_24 {t : sT} {xs : Nat → Int32} (e : t = T16 7 xs) : sA t 28 0 24 = (-5) := by subst e; exact rfl
set_option maxRecDepth 100000 in
theorem z_A_28_0_27 {t : sT} {xs : Nat → Int32} (e : t = T16 7 xs) : sA t 28 0 27 = 4 := by subst e; exact rfl
set_option maxRecDepth 100000 in
theorem z_A_28_0_3 {t : sT} {xs : Nat → Int32} (e : t = T16 7 xs) : sA t 28 0 3 = 4 := by subst e; exact rfl
set_option maxRecDepth 100000 in
theorem z_A_28_0_30 {t : sT} {xs : Nat → Int32} (e : t = T16 7 xs) : sA t 28 0 30 = 1 := by subst e; exact rfl
set_option maxRecDepth 100000 in
theorem z_A_28_0_33 {t : sT} {xs : Nat → Int32} (e : t = T16 7 xs) : sA t 28 0 33 = 0 := by subst e; exact rfl
set_option maxRecDepth 100000 in
theorem z_A_28_0_36 {t : sT} {xs : Nat → Int32} (e : t = T16 7 xs) : sA t 28 0 36 = 5 := by subst e; exact rfl
set_option maxRecDepth 100000 in
theorem z_A_28_0_39 {t : sT} {xs : Nat → Int32} (e : t = T16 7 xs) : sA t 28 0 39 = 2 := by subst e; exact rfl
set_option maxRecDepth 100000 in
theorem z_A_28_0_42 {t : sT} {xs : Nat → Int32} (e : t = T16 7 xs) : sA t 28 0 42 = 0 := by subst e; exact rfl
set_option maxRecDepth 100000 in
theorem z_A_28_0_6 {t : sT} {xs : Nat → Int32} (e : t = T16 7 xs) : sA t 28 0 6 = 4 := by subst e; exact rfl
set_option maxRecDepth 100000 in
theorem z_A_28_0_9 {t : sT} {xs : Nat → Int32} (e : t = T16 7 xs) : sA t 28 0 9 = 2 := by subst e; exact rfl
set_option maxRecDepth 100000 in
theorem z_A_28_1_0 {t : sT} {xs : Nat → Int32} (e : t = T16 7 xs) : sA t 28 1 0 = 1 := by subst e; exact rfl
set_option maxRecDepth 100000 in
theorem z_A_28_1_1 {t : sT} {xs : Nat → Int32} (e : t = T16 7 xs) : sA t 28 1 1 = 42 := by subst e; exact rfl
set_option maxRecDepth 100000 in
theorem z_A_28_1_10 {t : sT} {xs : Nat → Int32} (e : t = T16 7 xs) : sA t 28 1 10 = 12 := by subst e; exact rfl
set_option maxRecDepth 100000 in
theorem z_A_28_1_11 {t : sT} {xs : Nat → Int32} (e : t = T16 7 xs) : sA t 28 1 11 = 0 := by subst e; exact rfl
set_option maxRecDepth 100000 in
theorem z_A_28_1_12 {t : sT} {xs : Nat → Int32} (e : t = T16 7 xs) : sA t 28 1 12 = 5 := by subst e; exact rfl
set_option maxRecDepth 100000 in
theorem z_A_28_1_13 {t : sT} {xs : Nat → Int32} (e : t = T16 7 xs) : sA t 28 1 13 = 23 := by subst e; exact rfl
set_option maxRecDepth 100000 in
theorem z_A_28_1_14 {t : sT} {xs : Nat → Int32} (e : t = T16 7 xs) : sA t 28 1 14 = 0 := by subst e; exact rfl
set_option maxRecDepth 100000 in
theorem z_A_28_1_2 {t : sT} {xs : Nat → Int32} (e : t = T16 7 xs) : sA t 28 1 2 = 453 := by subst e; exact rfl
set_option maxRecDepth 100000 in
theorem z_A_28_1_3 {t : sT} {xs : Nat → Int32} (e : t = T16 7 xs) : sA t 28 1 3 = 2 := by subst e; exact rfl
set_option maxRecDepth 100000 in
theorem z_A_28_1_4 {t : sT} {xs : Nat → Int32} (e : t = T16 7 xs) : sA t 28 1 4 = 53 := by subst e; exact rfl
set_option maxRecDepth 100000 in
theorem z_A_28_1_5 {t : sT} {xs : Nat → Int32} (e : t = T16 7 xs) : sA t 28 1 5 = 41 := by subst e; exact rfl
set_option maxRecDepth 100000 in
theorem z_A_28_1_6 {t : sT} {xs : Nat → Int32} (e : t = T16 7 xs) : sA t 28 1 6 = 3 := by subst e; exact rfl
set_option maxRecDepth 100000 in
theorem z_A_28_1_7 {t : sT} {xs : Nat → Int32} (e : t = T16 7 xs) : sA t 28 1 7 = 52 := by subst e; exact rfl
set_option maxRecDepth 100000 in
theorem z_A_28_1_8 {t : sT} {xs : Nat → Int32} (e : t = T16 7 xs) : sA t 28 1 8 = 541 := by subst e; exact rfl
set_option maxRecDepth 100000 in
theorem z_A_28_1_9 {t : sT} {xs : Nat → Int32} (e : t = T16 7 xs) : sA t 28 1 9 = 4 := by subst e; exact rfl
set_option maxRecDepth 100000 in
theorem z_A_29_0_0 {t : sT} {xs : Nat → Int32} (e : t = T16 7 xs) : sA t 29 0 0 = xs 0 := by subst e; exact rfl
set_option maxRecDepth 100000 in
theorem z_A_29_0_1 {t : sT} {xs : Nat → Int32} (e : t = T16 7 xs) : sA t 29 0 1 = xs 1 := by subst e; exact rfl
set_option maxRecDepth 100000 in
theorem z_A_29_0_2 {t : sT} {xs : Nat → Int32} (e : t = T16 7 xs) : sA t 29 0 2 = xs 2 := by subst e; exact rfl
set_option maxRecDepth 100000 in
theorem z_A_29_0_3 {t : sT} {xs : Nat → Int32} (e : t = T16 7 xs) : sA t 29 0 3 = xs 3 := by subst e; exact rfl
set_option maxRecDepth 100000 in
theorem z_A_29_0_4 {t : sT} {xs : Nat → Int32} (e : t = T16 7 xs) : sA t 29 0 4 = xs 4 := by subst e; exact rfl
set_option maxRecDepth 100000 in
theorem z_A_29_0_5 {t : sT} {xs : Nat → Int32} (e : t = T16 7 xs) : sA t 29 0 5 = xs 5 := by subst e; exact rfl
set_option maxRecDepth 100000 in
theorem z_A_29_0_6 {t : sT} {xs : Nat → Int32} (e : t = T16 7 xs) : sA t 29 0 6 = xs 6 := by subst e; exact rfl
set_option maxRecDepth 100000 in
theorem z_B_22_0_0 {t : sT} {xs : Nat → Int32} (e : t = T16 7 xs) : sB t 22 0 0 = false := by subst e; exact rfl
set_option maxRecDepth 100000 in
theorem z_B_22_0_1 {t : sT} {xs : Nat → Int32} (e : t = T16 7 xs) : sB t 22 0 1 = false := by subst e; exact rfl
set_option maxRecDepth 100000 in
theorem z_B_22_0_2 {t : sT} {xs : Nat → Int32} (e : t = T16 7 xs) : sB t 22 0 2 = false := by subst e; exact rfl
set_option maxRecDepth 100000 in
theorem z_B_22_0_3 {t : sT} {xs : Nat → Int32} (e : t = T16 7 xs) : sB t 22 0 3 = false := by subst e; exact rfl
set_option maxRecDepth 100000 in
theorem z_B_22_0_4 {t : sT} {xs : Nat → Int32} (e : t = T16 7 xs) : sB t 22 0 4 = false := by subst e; exact rfl
set_option maxRecDepth 100000 in
theorem z_B_22_1_0 {t : sT} {xs : Nat → Int32} (e : t = T16 7 xs) : sB t 22 1 0 = false := by subst e; exact rfl
set_option maxRecDepth 100000 in
theorem z_B_22_1_1 {t : sT} {xs : Nat → Int32} (e : t = T16 7 xs) : sB t 22 1 1 = false := by subst e; exact rfl
set_option maxRecDepth 100000 in
theorem z_B_22_1_2 {t : sT} {xs : Nat → Int32} (e : t = T16 7 xs) : sB t 22 1 2 = false := by subst e; exact rfl
set_option maxRecDepth 100000 in
theorem z_B_22_1_3 {t : sT} {xs : Nat → Int32} (e : t = T16 7 xs) : sB t 22 1 3 = false := by subst e; exact rfl
set_option maxRecDepth 100000 in
theorem z_B_22_1_4 {t : sT} {xs : Nat → Int32} (e : t = T16 7 xs) : sB t 22 1 4 = false := by subst e; exact rfl
set_option maxRecDepth 100000 in
theorem z_B_22_1_5 {t : sT} {xs : Nat → Int32} (e : t = T16 7 xs) : sB t 22 1 5 = false := by subst e; exact rfl
set_option maxRecDepth 100000 in
theorem z_B_22_2_0 {t : sT} {xs : Nat → Int32} (e : t = T16 7 xs) : sB t 22 2 0 = false := by subst e; exact rfl
set_option maxRecDepth 100000 in
theorem z_B_22_2_1 {t : sT} {xs : Nat → Int32} (e : t = T16 7 xs) : sB t 22 2 1 = false := by subst e; exact rfl
set_option maxRecDepth 100000 in
theorem z_B_22_2_2 {t : sT} {xs : Nat → Int32} (e : t = T16 7 xs) : sB t 22 2 2 = false := by subst e; exact rfl
set_option maxRecDepth 100000 in
theorem z_B_22_2_3 {t : sT} {xs : Nat → Int32} (e : t = T16 7 xs) : sB t 22 2 3 = false := by subst e; exact rfl
set_option maxRecDepth 100000 in
theorem z_B_22_2_4 {t : sT} {xs : Nat → Int32} (e : t = T16 7 xs) : sB t 22 2 4 = false := by subst e; exact rfl
set_option maxRecDepth 100000 in
theorem z_B_22_2_5 {t : sT} {xs : Nat → Int32} (e : t = T16 7 xs) : sB t 22 2 5 = false := by subst e; exact rfl
set_option maxRecDepth 100000 in
theorem z_B_22_2_y {t : sT} {xs : Nat → Int32} (e : t = T16 7 xs) : ∀ p, sB t 22 2 p = false := by subst e; exact fun _ => rfl
set_option maxRecDepth 100000 in
theorem z_C_20 {t : sT} {xs : Nat → Int32} (e : t = T16 7 xs) : sC t 20 = 7 := by subst e; exact rfl
set_option maxRecDepth 100000 in
theorem z_C_28 {t : sT} {xs : Nat → Int32} (e : t = T16 7 xs) : sC t 28 = 2 := by subst e; exact rfl
set_option maxRecDepth 100000 in
theorem z_E_24_0_0 {t : sT} {xs : Nat → Int32} (e : t = T16 7 xs) : sE t 24 0 0 = (1, (some 0)) := by subst e; exact rfl
set_option maxRecDepth 100000 in
theorem z_E_24_0_1 {t : sT} {xs : Nat → Int32} (e : t = T16 7 xs) : sE t 24 0 1 = (1, (some 1)) := by subst e; exact rfl
set_option maxRecDepth 100000 in
theorem z_E_24_0_2 {t : sT} {xs : Nat → Int32} (e : t = T16 7 xs) : sE t 24 0 2 = (1, (some 2)) := by subst e; exact rfl
set_option maxRecDepth 100000 in
theorem z_E_24_0_3 {t : sT} {xs : Nat → Int32} (e : t = T16 7 xs) : sE t 24 0 3 = (1, (some 3)) := by subst e; exact rfl
set_option maxRecDepth 100000 in
theorem z_E_24_0_4 {t : sT} {xs : Nat → Int32} (e : t = T16 7 xs) : sE t 24 0 4 = (1, (some 4)) := by subst e; exact rfl
set_option maxRecDepth 100000 in
theorem z_E_25_0_0 {t : sT} {xs : Nat → Int32} (e : t = T16 7 xs) : sE t 25 0 0 = (2, (some 0)) := by subst e; exact rfl
set_option maxRecDepth 100000 in
theorem z_E_25_0_1 {t : sT} {xs : Nat → Int32} (e : t = T16 7 xs) : sE t 25 0 1 = (2, (some 1)) := by subst e; exact rfl
set_option maxRecDepth 100000 in
theorem z_E_25_0_2 {t : sT} {xs : Nat → Int32} (e : t = T16 7 xs) : sE t 25 0 2 = (2, (some 2)) := by subst e; exact rfl
set_option maxRecDepth 100000 in
theorem z_E_26_0_0 {t : sT} {xs : Nat → Int32} (e : t = T16 7 xs) : sE t 26 0 0 = (7, (some 0)) := by subst e; exact rfl
set_option maxRecDepth 100000 in
theorem z_E_26_0_1 {t : sT} {xs : Nat → Int32} (e : t = T16 7 xs) : sE t 26 0 1 = (7, (some 1)) := by subst e; exact rfl
set_option maxRecDepth 100000 in
theorem z_E_26_0_2 {t : sT} {xs : Nat → Int32} (e : t = T16 7 xs) : sE t 26 0 2 = (7, (some 2)) := by subst e; exact rfl
set_option maxRecDepth 100000 in
theorem z_E_26_0_3 {t : sT} {xs : Nat → Int32} (e : t = T16 7 xs) : sE t 26 0 3 = (7, (some 3)) := by subst e; exact rfl
set_option maxRecDepth 100000 in
theorem z_E_26_0_4 {t : sT} {xs : Nat → Int32} (e : t = T16 7 xs) : sE t 26 0 4 = (7, (some 4)) := by subst e; exact rfl
set_option maxRecDepth 100000 in
theorem z_E_26_0_5 {t : sT} {xs : Nat → Int32} (e : t = T16 7 xs) : sE t 26 0 5 = (7, (some 5)) := by subst e; exact rfl
set_option maxRecDepth 100000 in
theorem z_I_128_0 {t : sT} {xs : Nat → Int32} (e : t = T16 7 xs) : sI t 128 0 = 0 := by subst e; exact rfl
set_option maxRecDepth 100000 in
theorem z_I_128_1 {t : sT} {xs : Nat → Int32} (e : t = T16 7 xs) : sI t 128 1 = 1 := by subst e; exact rfl
set_option maxRecDepth 100000 in
theorem z_I_128_2 {t : sT} {xs : Nat → Int32} (e : t = T16 7 xs) : sI t 128 2 = 2 := by subst e; exact rfl
set_option maxRecDepth 100000 in
theorem z_I_129_0 {t : sT} {xs : Nat → Int32} (e : t = T16 7 xs) : sI t 129 0 = 100 := by subst e; exact rfl
set_option maxRecDepth 100000 in
theorem z_I_129_1 {t : sT} {xs : Nat → Int32} (e : t = T16 7 xs) : sI t 129 1 = 100 := by subst e; exact rfl
set_option maxRecDepth 100000 in
theorem z_I_129_2 {t : sT} {xs : Nat → Int32} (e : t = T16 7 xs) : sI t 129 2 = 100 := by subst e; exact rfl
set_option maxRecDepth 100000 in
theorem z_I_130_0 {t : sT} {xs : Nat → Int32} (e : t = T16 7 xs) : sI t 130 0 = 100 := by subst e; exact rfl
set_option maxRecDepth 100000 in
theorem z_I_130_1 {t : sT} {xs : Nat → Int32} (e : t = T16 7 xs) : sI t 130 1 = 100 := by subst e; exact rfl
set_option maxRecDepth 100000 in
theorem z_I_130_2 {t : sT} {xs : Nat → Int32} (e : t = T16 7 xs) : sI t 130 2 = 100 := by subst e; exact rfl
set_option maxRecDepth 100000 in
theorem z_I_324_0 {t : sT} {xs : Nat → Int32} (e : t = T16 7 xs) : sI t 324 0 = 0 := by subst e; exact rfl
set_option maxRecDepth 100000 in
theorem z_I_325_0 {t : sT} {xs : Nat → Int32} (e : t = T16 7 xs) : sI t 325 0 = 0 := by subst e; exact rfl
set_option maxRecDepth 100000 in
theorem z_I_450_y {t : sT} {xs : Nat → Int32} (e : t = T16 7 xs) : ∀ o, sI t 450 o = 0 := by subst e; exact fun _ => rfl
set_option maxRecDepth 100000 in
theorem z_I_451_y {t : sT} {xs : Nat → Int32} (e : t = T16 7 xs) : ∀ o, sI t 451 o = 0 := by subst e; exact fun _ => rfl
set_option maxRecDepth 100000 in
theorem z_I_452_y {t : sT} {xs : Nat → Int32} (e : t = T16 7 xs) : ∀ o, sI t 452 o = 0 := by subst e; exact fun _ => rfl
set_option maxRecDepth 100000 in
theorem z_I_453_y {t : sT} {xs : Nat → Int32} (e : t = T16 7 xs) : ∀ o, sI t 453 o = 0 := by subst e; exact fun _ => rfl
set_option maxRecDepth 100000 in
theorem z_I_64_0 {t : sT} {xs : Nat → Int32} (e : t = T16 7 xs) : sI t 64 0 = 0 := by subst e; exact rfl
set_option maxRecDepth 100000 in
theorem z_I_64_1 {t : sT} {xs : Nat → Int32} (e : t = T16 7 xs) : sI t 64 1 = 1 := by subst e; exact rfl
set_option maxRecDepth 100000 in
theorem z_I_64_2 {t : sT} {xs : Nat → Int32} (e : t = T16 7 xs) : sI t 64 2 = 2 := by subst e; exact rfl
set_option maxRecDepth 100000 in
theorem z_I_64_3 {t : sT} {xs : Nat → Int32} (e : t = T16 7 xs) : sI t 64 3 = 3 := by subst e; exact rfl
set_option maxRecDepth 100000 in
theorem z_I_64_4 {t : sT} {xs : Nat → Int32} (e : t = T16 7 xs) : sI t 64 4 = 4 := by subst e; exact rfl
set_option maxRecDepth 100000 in
theorem z_I_67_0 {t : sT} {xs : Nat → Int32} (e : t = T16 7 xs) : sI t 67 0 = 0 := by subst e; exact rfl
set_option maxRecDepth 100000 in
theorem z_I_67_1 {t : sT} {xs : Nat → Int32} (e : t = T16 7 xs) : sI t 67 1 = 0 := by subst e; exact rfl
set_option maxRecDepth 100000 in
theorem z_I_67_2 {t : sT} {xs : Nat → Int32} (e : t = T16 7 xs) : sI t 67 2 = 0 := by subst e; exact rfl
set_option maxRecDepth 100000 in
theorem z_I_67_3 {t : sT} {xs : Nat → Int32} (e : t = T16 7 xs) : sI t 67 3 = 0 := by subst e; exact rfl
set_option maxRecDepth 100000 in
theorem z_I_67_4 {t : sT} {xs : Nat → Int32} (e : t = T16 7 xs) : sI t 67 4 = 0 := by subst e; exact rfl
set_option maxRecDepth 100000 in
theorem z_I_784_0 {t : sT} {xs : Nat → Int32} (e : t = T16 7 xs) : sI t 784 0 = 0 := by subst e; exact rfl
set_option maxRecDepth 100000 in
theorem z_I_785_0 {t : sT} {xs : Nat → Int32} (e : t = T16 7 xs) : sI t 785 0 = 0 := by subst e; exact rfl
set_option maxRecDepth 100000 in
theorem z_I_786_0 {t : sT} {xs : Nat → Int32} (e : t = T16 7 xs) : sI t 786 0 = 0 := by subst e; exact rfl
set_option maxRecDepth 100000 in
theorem z_I_801_0 {t : sT} {xs : Nat → Int32} (e : t = T16 7 xs) : sI t 801 0 = 0 := by subst e; exact rfl
set_option maxRecDepth 100000 in
theorem z_I_834_0 {t : sT} {xs : Nat → Int32} (e : t = T16 7 xs) : sI t 834 0 = 0 := by subst e; exact rfl
set_option maxRecDepth 100000 in
theorem z_I_834_1 {t : sT} {xs : Nat → Int32} (e : t = T16 7 xs) : sI t 834 1 = 0 := by subst e; exact rfl
set_option maxRecDepth 100000 in
theorem z_N_20_0 {t : sT} {xs : Nat → Int32} (e : t = T16 7 xs) : sN t 20 0 = 18 := by subst e; exact rfl
set_option maxRecDepth 100000 in
theorem z_N_21_0 {t : sT} {xs : Nat → Int32} (e : t = T16 7 xs) : sN t 21 0 = 5 := by subst e; exact rfl
set_option maxRecDepth 100000 in
theorem z_N_21_1 {t : sT} {xs : Nat → Int32} (e : t = T16 7 xs) : sN t 21 1 = 3 := by subst e; exact rfl
set_option maxRecDepth 100000 in
theorem z_N_21_11 {t : sT} {xs : Nat → Int32} (e : t = T16 7 xs) : sN t 21 11 = 18 := by subst e; exact rfl
set_option maxRecDepth 100000 in
theorem z_N_21_2 {t : sT} {xs : Nat → Int32} (e : t = T16 7 xs) : sN t 21 2 = 3 := by subst e; exact rfl
set_option maxRecDepth 100000 in
theorem z_N_21_27 {t : sT} {xs : Nat → Int32} (e : t = T16 7 xs) : sN t 21 27 = 200 := by subst e; exact rfl
set_option maxRecDepth 100000 in
theorem z_N_21_3 {t : sT} {xs : Nat → Int32} (e : t = T16 7 xs) : sN t 21 3 = 3 := by subst e; exact rfl
set_option maxRecDepth 100000 in
theorem z_N_21_4 {t : sT} {xs : Nat → Int32} (e : t = T16 7 xs) : sN t 21 4 = 6 := by subst e; exact rfl
set_option maxRecDepth 100000 in
theorem z_N_21_5 {t : sT} {xs : Nat → Int32} (e : t = T16 7 xs) : sN t 21 5 = 6 := by subst e; exact rfl
set_option maxRecDepth 100000 in
theorem z_N_21_6 {t : sT} {xs : Nat → Int32} (e : t = T16 7 xs) : sN t 21 6 = 18 := by subst e; exact rfl
set_option maxRecDepth 100000 in
theorem z_N_21_7 {t : sT} {xs : Nat → Int32} (e : t = T16 7 xs) : sN t 21 7 = 6 := by subst e; exact rfl
set_option maxRecDepth 100000 in
theorem z_N_21_8 {t : sT} {xs : Nat → Int32} (e : t = T16 7 xs) : sN t 21 8 = 6 := by subst e; exact rfl
set_option maxRecDepth 100000 in
theorem z_N_21_9 {t : sT} {xs : Nat → Int32} (e : t = T16 7 xs) : sN t 21 9 = 6 := by subst e; exact rfl
set_option maxRecDepth 100000 in
theorem z_N_22_0 {t : sT} {xs : Nat → Int32} (e : t = T16 7 xs) : sN t 22 0 = 5 := by subst e; exact rfl
set_option maxRecDepth 100000 in
theorem z_N_22_1 {t : sT} {xs : Nat → Int32} (e : t = T16 7 xs) : sN t 22 1 = 6 := by subst e; exact rfl
set_option maxRecDepth 100000 in
theorem z_N_22_2 {t : sT} {xs : Nat → Int32} (e : t = T16 7 xs) : sN t 22 2 = 6 := by subst e; exact rfl
set_option maxRecDepth 100000 in
theorem z_N_23_0 {t : sT} {xs : Nat → Int32} (e : t = T16 7 xs) : sN t 23 0 = 1 := by subst e; exact rfl
set_option maxRecDepth 100000 in
theorem z_N_24_0 {t : sT} {xs : Nat → Int32} (e : t = T16 7 xs) : sN t 24 0 = 5 := by subst e; exact rfl
set_option maxRecDepth 100000 in
theorem z_N_25_0 {t : sT} {xs : Nat → Int32} (e : t = T16 7 xs) : sN t 25 0 = 3 := by subst e; exact rfl
set_option maxRecDepth 100000 in
theorem z_N_26_0 {t : sT} {xs : Nat → Int32} (e : t = T16 7 xs) : sN t 26 0 = 6 := by subst e; exact rfl
set_option maxRecDepth 100000 in
theorem z_N_28_0 {t : sT} {xs : Nat → Int32} (e : t = T16 7 xs) : sN t 28 0 = 45 := by subst e; exact rfl
set_option maxRecDepth 100000 in
theorem z_N_28_1 {t : sT} {xs : Nat → Int32} (e : t = T16 7 xs) : sN t 28 1 = 15 := by subst e; exact rfl
set_option maxRecDepth 100000 in
theorem z_N_29_0 {t : sT} {xs : Nat → Int32} (e : t = T16 7 xs) : sN t 29 0 = 7 := by subst e; exact rfl
set_option maxRecDepth 100000 in
theorem z_R_256_0 {t : sT} {xs : Nat → Int32} (e : t = T16 7 xs) : sR t 256 0 = (some 0) := by subst e; exact rfl
set_option maxRecDepth 100000 in
theorem z_R_257_0 {t : sT} {xs : Nat → Int32} (e : t = T16 7 xs) : sR t 257 0 = (some 1) := by subst e; exact rfl
set_option maxRecDepth 100000 in
theorem z_R_320_0 {t : sT} {xs : Nat → Int32} (e : t = T16 7 xs) : sR t 320 0 = (some 0) := by subst e; exact rfl
set_option maxRecDepth 100000 in
theorem z_R_321_0 {t : sT} {xs : Nat → Int32} (e : t = T16 7 xs) : sR t 321 0 = (some 0) := by subst e; exact rfl
set_option maxRecDepth 100000 in
theorem z_R_322_0 {t : sT} {xs : Nat → Int32} (e : t = T16 7 xs) : sR t 322 0 = (some 0) := by subst e; exact rfl
set_option maxRecDepth 100000 in
theorem z_R_323_0 {t : sT} {xs : Nat → Int32} (e : t = T16 7 xs) : sR t 323 0 = (some 0) := by subst e; exact rfl
set_option maxRecDepth 100000 in
theorem z_R_640_0 {t : sT} {xs : Nat → Int32} (e : t = T16 7 xs) : sR t 640 0 = (some 0) := by subst e; exact rfl
set_option maxRecDepth 100000 in
theorem z_R_65_0 {t : sT} {xs : Nat → Int32} (e : t = T16 7 xs) : sR t 65 0 = (some 0) := by subst e; exact rfl
set_option maxRecDepth 100000 in
theorem z_R_65_1 {t : sT} {xs : Nat → Int32} (e : t = T16 7 xs) : sR t 65 1 = (some 1) := by subst e; exact rfl
set_option maxRecDepth 100000 in
theorem z_R_65_2 {t : sT} {xs : Nat → Int32} (e : t = T16 7 xs) : sR t 65 2 = (some 2) := by subst e; exact rfl
set_option maxRecDepth 100000 in
theorem z_R_66_0 {t : sT} {xs : Nat → Int32} (e : t = T16 7 xs) : sR t 66 0 = none := by subst e; exact rfl
set_option maxRecDepth 100000 in
theorem z_R_66_1 {t : sT} {xs : Nat → Int32} (e : t = T16 7 xs) : sR t 66 1 = none := by subst e; exact rfl
set_option maxRecDepth 100000 in
theorem z_R_66_2 {t : sT} {xs : Nat → Int32} (e : t = T16 7 xs) : sR t 66 2 = none := by subst e; exact rfl
set_option maxRecDepth 100000 in
theorem z_R_66_3 {t : sT} {xs : Nat → Int32} (e : t = T16 7 xs) : sR t 66 3 = (some 1) := by subst e; exact rfl
set_option maxRecDepth 100000 in
theorem z_R_66_4 {t : sT} {xs : Nat → Int32} (e : t = T16 7 xs) : sR t 66 4 = (some 2) := by subst e; exact rfl
set_option maxRecDepth 100000 in
theorem z_R_69_0 {t : sT} {xs : Nat → Int32} (e : t = T16 7 xs) : sR t 69 0 = none := by subst e; exact rfl
set_option maxRecDepth 100000 in
theorem z_R_69_1 {t : sT} {xs : Nat → Int32} (e : t = T16 7 xs) : sR t 69 1 = none := by subst e; exact rfl
set_option maxRecDepth 100000 in
theorem z_R_69_2 {t : sT} {xs : Nat → Int32} (e : t = T16 7 xs) : sR t 69 2 = none := by subst e; exact rfl
set_option maxRecDepth 100000 in
theorem z_R_69_3 {t : sT} {xs : Nat → Int32} (e : t = T16 7 xs) : sR t 69 3 = none := by subst e; exact rfl
set_option maxRecDepth 100000 in
theorem z_R_69_4 {t : sT} {xs : Nat → Int32} (e : t = T16 7 xs) : sR t 69 4 = none := by subst e; exact rfl
set_option maxRecDepth 100000 in
theorem z_R_704_0 {t : sT} {xs : Nat → Int32} (e : t = T16 7 xs) : sR t 704 0 = (some 0) := by subst e; exact rfl
set_option maxRecDepth 100000 in
theorem z_R_705_0 {t : sT} {xs : Nat → Int32} (e : t = T16 7 xs) : sR t 705 0 = (some 0) := by subst e; exact rfl
set_option maxRecDepth 100000 in
theorem z_R_706_0 {t : sT} {xs : Nat → Int32} (e : t = T16 7 xs) : sR t 706 0 = (some 0) := by subst e; exact rfl
set_option maxRecDepth 100000 in
theorem z_R_708_0 {t : sT} {xs : Nat → Int32} (e : t = T16 7 xs) : sR t 708 0 = (some 0) := by subst e; exact rfl
set_option maxRecDepth 100000 in
theorem z_R_70_0 {t : sT} {xs : Nat → Int32} (e : t = T16 7 xs) : sR t 70 0 = none := by subst e; exact rfl
set_option maxRecDepth 100000 in
theorem z_R_70_1 {t : sT} {xs : Nat → Int32} (e : t = T16 7 xs) : sR t 70 1 = none := by subst e; exact rfl
set_option maxRecDepth 100000 in
theorem z_R_70_2 {t : sT} {xs : Nat → Int32} (e : t = T16 7 xs) : sR t 70 2 = none := by subst e; exact rfl
set_option maxRecDepth 100000 in
theorem z_R_70_3 {t : sT} {xs : Nat → Int32} (e : t = T16 7 xs) : sR t 70 3 = none := by subst e; exact rfl
set_option maxRecDepth 100000 in
theorem z_R_70_4 {t : sT} {xs : Nat → Int32} (e : t = T16 7 xs) : sR t 70 4 = none := by subst e; exact rfl
set_option maxRecDepth 100000 in
theorem z_R_769_0 {t : sT} {xs : Nat → Int32} (e : t = T16 7 xs) : sR t 769 0 = (some 0) := by subst e; exact rfl
set_option maxRecDepth 100000 in
theorem z_R_770_0 {t : sT} {xs : Nat → Int32} (e : t = T16 7 xs) : sR t 770 0 = (some 0) := by subst e; exact rfl
set_option maxRecDepth 100000 in
theorem z_R_771_0 {t : sT} {xs : Nat → Int32} (e : t = T16 7 xs) : sR t 771 0 = (some 1) := by subst e; exact rfl
set_option maxRecDepth 100000 in
theorem z_R_772_0 {t : sT} {xs : Nat → Int32} (e : t = T16 7 xs) : sR t 772 0 = (some 2) := by subst e; exact rfl
set_option maxRecDepth 100000 in
theorem z_R_773_0 {t : sT} {xs : Nat → Int32} (e : t = T16 7 xs) : sR t 773 0 = (some 3) := by subst e; exact rfl
set_option maxRecDepth 100000 in
theorem z_R_774_0 {t : sT} {xs : Nat → Int32} (e : t = T16 7 xs) : sR t 774 0 = (some 4) := by subst e; exact rfl
set_option maxRecDepth 100000 in
theorem z_R_775_0 {t : sT} {xs : Nat → Int32} (e : t = T16 7 xs) : sR t 775 0 = (some 5) := by subst e; exact rfl
set_option maxRecDepth 100000 in
theorem z_R_776_0 {t : sT} {xs : Nat → Int32} (e : t = T16 7 xs) : sR t 776 0 = (some 6) := by subst e; exact rfl
set_option maxRecDepth 100000 in
theorem z_R_777_0 {t : sT} {xs : Nat → Int32} (e : t = T16 7 xs) : sR t 777 0 = (some 7) := by subst e; exact rfl
set_option maxRecDepth 100000 in
theorem z_R_778_0 {t : sT} {xs : Nat → Int32} (e : t = T16 7 xs) : sR t 778 0 = (some 8) := by subst e; exact rfl
set_option maxRecDepth 100000 in
theorem z_R_779_0 {t : sT} {xs : Nat → Int32} (e : t = T16 7 xs) : sR t 779 0 = (some 9) := by subst e; exact rfl
set_option maxRecDepth 100000 in
theorem z_R_780_0 {t : sT} {xs : Nat → Int32} (e : t = T16 7 xs) : sR t 780 0 = (some 1) := by subst e; exact rfl
set_option maxRecDepth 100000 in
theorem z_R_781_0 {t : sT} {xs : Nat → Int32} (e : t = T16 7 xs) : sR t 781 0 = (some 2) := by subst e; exact rfl
set_option maxRecDepth 100000 in
theorem z_R_783_0 {t : sT} {xs : Nat → Int32} (e : t = T16 7 xs) : sR t 783 0 = (some 11) := by subst e; exact rfl
set_option maxRecDepth 100000 in
theorem z_R_809_0 {t : sT} {xs : Nat → Int32} (e : t = T16 7 xs) : sR t 809 0 = (some 27) := by subst e; exact rfl
set_option maxRecDepth 100000 in
theorem z_Z_457_0 {t : sT} {xs : Nat → Int32} (e : t = T16 7 xs) : sZ t 457 0 = false := by subst e; exact rfl
set_option maxRecDepth 100000 in
theorem z_Z_457_1 {t : sT} {xs : Nat → Int32} (e : t = T16 7 xs) : sZ t 457 1 = false := by subst e; exact rfl
set_option maxRecDepth 100000 in
theorem z_Z_457_2 {t : sT} {xs : Nat → Int32} (e : t = T16 7 xs) : sZ t 457 2 = false := by subst e; exact rfl
set_option maxRecDepth 100000 in
theorem z_Z_457_3 {t : sT} {xs : Nat → Int32} (e : t = T16 7 xs) : sZ t 457 3 = false := by subst e; exact rfl
set_option maxRecDepth 100000 in
theorem z_Z_457_4 {t : sT} {xs : Nat → Int32} (e : t = T16 7 xs) : sZ t 457 4 = false := by subst e; exact rfl
set_option maxRecDepth 100000 in
theorem z_Z_457_5 {t : sT} {xs : Nat → Int32} (e : t = T16 7 xs) : sZ t 457 5 = false := by subst e; exact rfl
set_option maxRecDepth 100000 in
theorem z_Z_458_0 {t : sT} {xs : Nat → Int32} (e : t = T16 7 xs) : sZ t 458 0 = false := by subst e; exact rfl
set_option maxRecDepth 100000 in
theorem z_Z_458_1 {t : sT} {xs : Nat → Int32} (e : t = T16 7 xs) : sZ t 458 1 = false := by subst e; exact rfl
set_option maxRecDepth 100000 in
theorem z_Z_458_2 {t : sT} {xs : Nat → Int32} (e : t = T16 7 xs) : sZ t 458 2 = false := by subst e; exact rfl
set_option maxRecDepth 100000 in
theorem z_Z_458_3 {t : sT} {xs : Nat → Int32} (e : t = T16 7 xs) : sZ t 458 3 = false := by subst e; exact rfl
set_option maxRecDepth 100000 in
theorem z_Z_458_4 {t : sT} {xs : Nat → Int32} (e : t = T16 7 xs) : sZ t 458 4 = false := by subst e; exact rfl
set_option maxRecDepth 100000 in
theorem z_Z_458_5 {t : sT} {xs : Nat → Int32} (e : t = T16 7 xs) : sZ t 458 5 = false := by subst e; exact rfl
set_option maxRecDepth 100000 in
theorem z_Z_458_y {t : sT} {xs : Nat → Int32} (e : t = T16 7 xs) : ∀ o, sZ t 458 o = false := by subst e; exact fun _ => rfl
set_option maxRecDepth 100000 in
theorem z_Z_68_0 {t : sT} {xs : Nat → Int32} (e : t = T16 7 xs) : sZ t 68 0 = false := by subst e; exact rfl
set_option maxRecDepth 100000 in
theorem z_Z_68_1 {t : sT} {xs : Nat → Int32} (e : t = T16 7 xs) : sZ t 68 1 = false := by subst e; exact rfl
set_option maxRecDepth 100000 in
theorem z_Z_68_2 {t : sT} {xs : Nat → Int32} (e : t = T16 7 xs) : sZ t 68 2 = false := by subst e; exact rfl
set_option maxRecDepth 100000 in
theorem z_Z_68_3 {t : sT} {xs : Nat → Int32} (e : t = T16 7 xs) : sZ t 68 3 = false := by subst e; exact rfl
set_option maxRecDepth 100000 in
theorem z_Z_68_4 {t : sT} {xs : Nat → Int32} (e : t = T16 7 xs) : sZ t 68 4 = false := by subst e; exact rfl
theorem Cn_e {L : Nat} {t : sT} {xs : Nat → Int32} (e : t = T16 L xs) : Cn t := e ▸ Cn_T16
theorem z_st0 {t : sT} {xs : Nat → Int32} (e : t = T16 7 xs) : 0 < sC t 28 := Nat.lt_of_lt_of_eq (by decide) (z_C_28 e).symm
theorem z_st1 {t : sT} {xs : Nat → Int32} (e : t = T16 7 xs) : 1 < sC t 28 := Nat.lt_of_lt_of_eq (by decide) (z_C_28 e).symm
set_option maxRecDepth 100000 in
theorem z_L {L : Nat} {t : sT} {xs : Nat → Int32} (e : t = T16 L xs) : sN t 29 0 = L := by subst e; exact rfl
set_option maxHeartbeats 4000000 in
set_option maxRecDepth 10000 in
theorem w_0 {t : sT} {xs : Nat → Int32}
    (e : t = T16 0 xs) :
    X 297 23 [.inr (.inr (29, (some 0))), .inr (.inr (11, (some 0))), .inr (.inr (12, (some 0))), .inr (.inr (23, (some 0))), .inl 0, sJk, sJk] [] t Qp := by
  refine x_iload (pc' := 25) rfl rfl rfl ?_
  refine x_aload_n (pc' := 26) rfl rfl rfl rfl rfl ?_
  refine x_alen (pc' := 27) (N := 0) rfl rfl rfl (z_L e) (?_ : X _ _ _ (.inl 0 :: _) _ _)
  refine x_bipush (pc' := 29) rfl rfl ?_
  refine x_isub (pc' := 30) (z := (-7)) rfl rfl (by decide) ?_
  refine x_icmp (a' := 2944) (pc' := 33) (z := true) rfl rfl rfl (by decide) (fun _ => ?_) (fun h => by cases h)
  refine x_iconst (pc' := 2945) rfl rfl ?_
  refine x_retz (z := true) rfl rfl ?_
  exact Qp_ok e (p := 0) (q := 0) rfl rfl rfl rfl
set_option maxHeartbeats 4000000 in
set_option maxRecDepth 10000 in
theorem w_1 {t : sT} {xs : Nat → Int32}
    (e : t = T16 1 xs) :
    X 297 23 [.inr (.inr (29, (some 0))), .inr (.inr (11, (some 0))), .inr (.inr (12, (some 0))), .inr (.inr (23, (some 0))), .inl 0, sJk, sJk] [] t Qp := by
  refine x_iload (pc' := 25) rfl rfl rfl ?_
  refine x_aload_n (pc' := 26) rfl rfl rfl rfl rfl ?_
  refine x_alen (pc' := 27) (N := 1) rfl rfl rfl (z_L e) (?_ : X _ _ _ (.inl 1 :: _) _ _)
  refine x_bipush (pc' := 29) rfl rfl ?_
  refine x_isub (pc' := 30) (z := (-6)) rfl rfl (by decide) ?_
  refine x_icmp (a' := 2944) (pc' := 33) (z := true) rfl rfl rfl (by decide) (fun _ => ?_) (fun h => by cases h)
  refine x_iconst (pc' := 2945) rfl rfl ?_
  refine x_retz (z := true) rfl rfl ?_
  exact Qp_ok e (p := 0) (q := 0) rfl rfl rfl rfl
set_option maxHeartbeats 4000000 in
set_option maxRecDepth 10000 in
theorem w_2 {t : sT} {xs : Nat → Int32}
    (e : t = T16 2 xs) :
    X 297 23 [.inr (.inr (29, (some 0))), .inr (.inr (11, (some 0))), .inr (.inr (12, (some 0))), .inr (.inr (23, (some 0))), .inl 0, sJk, sJk] [] t Qp := by
  refine x_iload (pc' := 25) rfl rfl rfl ?_
  refine x_aload_n (pc' := 26) rfl rfl rfl rfl rfl ?_
  refine x_alen (pc' := 27) (N := 2) rfl rfl rfl (z_L e) (?_ : X _ _ _ (.inl 2 :: _) _ _)
  refine x_bipush (pc' := 29) rfl rfl ?_
  refine x_isub (pc' := 30) (z := (-5)) rfl rfl (by decide) ?_
  refine x_icmp (a' := 2944) (pc' := 33) (z := true) rfl rfl rfl (by decide) (fun _ => ?_) (fun h => by cases h)
  refine x_iconst (pc' := 2945) rfl rfl ?_
  refine x_retz (z := true) rfl rfl ?_
  exact Qp_ok e (p := 0) (q := 0) rfl rfl rfl rfl
set_option maxHeartbeats 4000000 in
set_option maxRecDepth 10000 in
theorem w_3 {t : sT} {xs : Nat → Int32}
    (e : t = T16 3 xs) :
    X 297 23 [.inr (.inr (29, (some 0))), .inr (.inr (11, (some 0))), .inr (.inr (12, (some 0))), .inr (.inr (23, (some 0))), .inl 0, sJk, sJk] [] t Qp := by
  refine x_iload (pc' := 25) rfl rfl rfl ?_
  refine x_aload_n (pc' := 26) rfl rfl rfl rfl rfl ?_
  refine x_alen (pc' := 27) (N := 3) rfl rfl rfl (z_L e) (?_ : X _ _ _ (.inl 3 :: _) _ _)
  refine x_bipush (pc' := 29) rfl rfl ?_
  refine x_isub (pc' := 30) (z := (-4)) rfl rfl (by decide) ?_
  refine x_icmp (a' := 2944) (pc' := 33) (z := true) rfl rfl rfl (by decide) (fun _ => ?_) (fun h => by cases h)
  refine x_iconst (pc' := 2945) rfl rfl ?_
  refine x_retz (z := true) rfl rfl ?_
  exact Qp_ok e (p := 0) (q := 0) rfl rfl rfl rfl
set_option maxHeartbeats 4000000 in
set_option maxRecDepth 10000 in
theorem w_4 {t : sT} {xs : Nat → Int32}
    (e : t = T16 4 xs) :
    X 297 23 [.inr (.inr (29, (some 0))), .inr (.inr (11, (some 0))), .inr (.inr (12, (some 0))), .inr (.inr (23, (some 0))), .inl 0, sJk, sJk] [] t Qp := by
  refine x_iload (pc' := 25) rfl rfl rfl ?_
  refine x_aload_n (pc' := 26) rfl rfl rfl rfl rfl ?_
  refine x_alen (pc' := 27) (N := 4) rfl rfl rfl (z_L e) (?_ : X _ _ _ (.inl 4 :: _) _ _)
  refine x_bipush (pc' := 29) rfl rfl ?_
  refine x_isub (pc' := 30) (z := (-3)) rfl rfl (by decide) ?_
  refine x_icmp (a' := 2944) (pc' := 33) (z := true) rfl rfl rfl (by decide) (fun _ => ?_) (fun h => by cases h)
  refine x_iconst (pc' := 2945) rfl rfl ?_
  refine x_retz (z := true) rfl rfl ?_
  exact Qp_ok e (p := 0) (q := 0) rfl rfl rfl rfl
set_option maxHeartbeats 4000000 in
set_option maxRecDepth 10000 in
theorem w_5 {t : sT} {xs : Nat → Int32}
    (e : t = T16 5 xs) :
    X 297 23 [.inr (.inr (29, (some 0))), .inr (.inr (11, (some 0))), .inr (.inr (12, (some 0))), .inr (.inr (23, (some 0))), .inl 0, sJk, sJk] [] t Qp := by
  refine x_iload (pc' := 25) rfl rfl rfl ?_
  refine x_aload_n (pc' := 26) rfl rfl rfl rfl rfl ?_
  refine x_alen (pc' := 27) (N := 5) rfl rfl rfl (z_L e) (?_ : X _ _ _ (.inl 5 :: _) _ _)
  refine x_bipush (pc' := 29) rfl rfl ?_
  refine x_isub (pc' := 30) (z := (-2)) rfl rfl (by decide) ?_
  refine x_icmp (a' := 2944) (pc' := 33) (z := true) rfl rfl rfl (by decide) (fun _ => ?_) (fun h => by cases h)
  refine x_iconst (pc' := 2945) rfl rfl ?_
  refine x_retz (z := true) rfl rfl ?_
  exact Qp_ok e (p := 0) (q := 0) rfl rfl rfl rfl
set_option maxHeartbeats 4000000 in
set_option maxRecDepth 10000 in
theorem w_6 {t : sT} {xs : Nat → Int32}
    (e : t = T16 6 xs) :
    X 297 23 [.inr (.inr (29, (some 0))), .inr (.inr (11, (some 0))), .inr (.inr (12, (some 0))), .inr (.inr (23, (some 0))), .inl 0, sJk, sJk] [] t Qp := by
  refine x_iload (pc' := 25) rfl rfl rfl ?_
  refine x_aload_n (pc' := 26) rfl rfl rfl rfl rfl ?_
  refine x_alen (pc' := 27) (N := 6) rfl rfl rfl (z_L e) (?_ : X _ _ _ (.inl 6 :: _) _ _)
  refine x_bipush (pc' := 29) rfl rfl ?_
  refine x_isub (pc' := 30) (z := (-1)) rfl rfl (by decide) ?_
  refine x_icmp (a' := 2944) (pc' := 33) (z := true) rfl rfl rfl (by decide) (fun _ => ?_) (fun h => by cases h)
  refine x_iconst (pc' := 2945) rfl rfl ?_
  refine x_retz (z := true) rfl rfl ?_
  exact Qp_ok e (p := 0) (q := 0) rfl rfl rfl rfl
set_option maxHeartbeats 4000000 in
set_option maxRecDepth 10000 in
theorem u_42 {t : sT} {xs : Nat → Int32}
    (e : t = T16 7 xs)
    (hk : ((xs 0) &&& 63) = 42) :
    X 297 23 [.inr (.inr (29, (some 0))), .inr (.inr (11, (some 0))), .inr (.inr (12, (some 0))), .inr (.inr (23, (some 0))), .inl 0, sJk, sJk] [] t Qp := by
  refine x_iload (pc' := 25) rfl rfl rfl ?_
  refine x_aload_n (pc' := 26) rfl rfl rfl rfl rfl ?_
  refine x_alen (pc' := 27) (N := 7) rfl rfl rfl (z_L e) (?_ : X _ _ _ (.inl 7 :: _) _ _)
  refine x_bipush (pc' := 29) rfl rfl ?_
  refine x_isub (pc' := 30) (z := 0) rfl rfl (by decide) ?_
  refine x_icmp (a' := 2944) (pc' := 33) (z := false) rfl rfl rfl (by decide) (fun h => by cases h) (fun _ => ?_)
  refine x_aload_n (pc' := 34) rfl rfl rfl rfl rfl ?_
  refine x_iload (pc' := 36) rfl rfl rfl ?_
  refine x_iald (pc' := 37) (N := 7) (x := (xs 0)) rfl rfl rfl (z_L e) (io_in (p := 0) (N := 7) (by decide) (by decide)) (Eq.trans (congrArg (sA t 29 0) (nn_io (p := 0) (by decide))) (z_A_29_0_0 e)) ?_
  refine x_bipush (pc' := 39) rfl rfl ?_
  refine x_iand (pc' := 40) (z := ((xs 0) &&& 63)) rfl rfl rfl ?_
  refine x_switch (pc' := 2938) rfl (by rw [hk]; decide) ?_
  refine x_iinc (pc' := 2941) (y := 7) (ls' := [_, _, _, _, _, _, _]) rfl rfl rfl rfl rfl ?_
  refine x_goto (pc' := 23) rfl rfl ?_
  refine x_iload (pc' := 25) rfl rfl rfl ?_
  refine x_aload_n (pc' := 26) rfl rfl rfl rfl rfl ?_
  refine x_alen (pc' := 27) (N := 7) rfl rfl rfl (z_L e) (?_ : X _ _ _ (.inl 7 :: _) _ _)
  refine x_bipush (pc' := 29) rfl rfl ?_
  refine x_isub (pc' := 30) (z := 0) rfl rfl (by decide) ?_
  refine x_icmp (a' := 2944) (pc' := 33) (z := true) rfl rfl rfl (by decide) (fun _ => ?_) (fun h => by cases h)
  refine x_iconst (pc' := 2945) rfl rfl ?_
  refine x_retz (z := true) rfl rfl ?_
  exact Qp_ok e (p := 0) (q := 0) rfl rfl rfl rfl
set_option maxHeartbeats 4000000 in
set_option maxRecDepth 10000 in
theorem u_43 {t : sT} {xs : Nat → Int32}
    (e : t = T16 7 xs)
    (hk : ((xs 0) &&& 63) = 43) :
    X 297 23 [.inr (.inr (29, (some 0))), .inr (.inr (11, (some 0))), .inr (.inr (12, (some 0))), .inr (.inr (23, (some 0))), .inl 0, sJk, sJk] [] t Qp := by
  refine x_iload (pc' := 25) rfl rfl rfl ?_
  refine x_aload_n (pc' := 26) rfl rfl rfl rfl rfl ?_
  refine x_alen (pc' := 27) (N := 7) rfl rfl rfl (z_L e) (?_ : X _ _ _ (.inl 7 :: _) _ _)
  refine x_bipush (pc' := 29) rfl rfl ?_
  refine x_isub (pc' := 30) (z := 0) rfl rfl (by decide) ?_
  refine x_icmp (a' := 2944) (pc' := 33) (z := false) rfl rfl rfl (by decide) (fun h => by cases h) (fun _ => ?_)
  refine x_aload_n (pc' := 34) rfl rfl rfl rfl rfl ?_
  refine x_iload (pc' := 36) rfl rfl rfl ?_
  refine x_iald (pc' := 37) (N := 7) (x := (xs 0)) rfl rfl rfl (z_L e) (io_in (p := 0) (N := 7) (by decide) (by decide)) (Eq.trans (congrArg (sA t 29 0) (nn_io (p := 0) (by decide))) (z_A_29_0_0 e)) ?_
  refine x_bipush (pc' := 39) rfl rfl ?_
  refine x_iand (pc' := 40) (z := ((xs 0) &&& 63)) rfl rfl rfl ?_
  refine x_switch (pc' := 2938) rfl (by rw [hk]; decide) ?_
  refine x_iinc (pc' := 2941) (y := 7) (ls' := [_, _, _, _, _, _, _]) rfl rfl rfl rfl rfl ?_
  refine x_goto (pc' := 23) rfl rfl ?_
  refine x_iload (pc' := 25) rfl rfl rfl ?_
  refine x_aload_n (pc' := 26) rfl rfl rfl rfl rfl ?_
  refine x_alen (pc' := 27) (N := 7) rfl rfl rfl (z_L e) (?_ : X _ _ _ (.inl 7 :: _) _ _)
  refine x_bipush (pc' := 29) rfl rfl ?_
  refine x_isub (pc' := 30) (z := 0) rfl rfl (by decide) ?_
  refine x_icmp (a' := 2944) (pc' := 33) (z := true) rfl rfl rfl (by decide) (fun _ => ?_) (fun h => by cases h)
  refine x_iconst (pc' := 2945) rfl rfl ?_
  refine x_retz (z := true) rfl rfl ?_
  exact Qp_ok e (p := 0) (q := 0) rfl rfl rfl rfl
set_option maxHeartbeats 4000000 in
set_option maxRecDepth 10000 in
theorem u_44 {t : sT} {xs : Nat → Int32}
    (e : t = T16 7 xs)
    (hk : ((xs 0) &&& 63) = 44) :
    X 297 23 [.inr (.inr (29, (some 0))), .inr (.inr (11, (some 0))), .inr (.inr (12, (some 0))), .inr (.inr (23, (some 0))), .inl 0, sJk, sJk] [] t Qp := by
  refine x_iload (pc' := 25) rfl rfl rfl ?_
  refine x_aload_n (pc' := 26) rfl rfl rfl rfl rfl ?_
  refine x_alen (pc' := 27) (N := 7) rfl rfl rfl (z_L e) (?_ : X _ _ _ (.inl 7 :: _) _ _)
  refine x_bipush (pc' := 29) rfl rfl ?_
  refine x_isub (pc' := 30) (z := 0) rfl rfl (by decide) ?_
  refine x_icmp (a' := 2944) (pc' := 33) (z := false) rfl rfl rfl (by decide) (fun h => by cases h) (fun _ => ?_)
  refine x_aload_n (pc' := 34) rfl rfl rfl rfl rfl ?_
  refine x_iload (pc' := 36) rfl rfl rfl ?_
  refine x_iald (pc' := 37) (N := 7) (x := (xs 0)) rfl rfl rfl (z_L e) (io_in (p := 0) (N := 7) (by decide) (by decide)) (Eq.trans (congrArg (sA t 29 0) (nn_io (p := 0) (by decide))) (z_A_29_0_0 e)) ?_
  refine x_bipush (pc' := 39) rfl rfl ?_
  refine x_iand (pc' := 40) (z := ((xs 0) &&& 63)) rfl rfl rfl ?_
  refine x_switch (pc' := 2938) rfl (by rw [hk]; decide) ?_
  refine x_iinc (pc' := 2941) (y := 7) (ls' := [_, _, _, _, _, _, _]) rfl rfl rfl rfl rfl ?_
  refine x_goto (pc' := 23) rfl rfl ?_
  refine x_iload (pc' := 25) rfl rfl rfl ?_
  refine x_aload_n (pc' := 26) rfl rfl rfl rfl rfl ?_
  refine x_alen (pc' := 27) (N := 7) rfl rfl rfl (z_L e) (?_ : X _ _ _ (.inl 7 :: _) _ _)
  refine x_bipush (pc' := 29) rfl rfl ?_
  refine x_isub (pc' := 30) (z := 0) rfl rfl (by decide) ?_
  refine x_icmp (a' := 2944) (pc' := 33) (z := true) rfl rfl rfl (by decide) (fun _ => ?_) (fun h => by cases h)
  refine x_iconst (pc' := 2945) rfl rfl ?_
  refine x_retz (z := true) rfl rfl ?_
  exact Qp_ok e (p := 0) (q := 0) rfl rfl rfl rfl
set_option maxHeartbeats 4000000 in
set_option maxRecDepth 10000 in
theorem u_45 {t : sT} {xs : Nat → Int32}
    (e : t = T16 7 xs)
    (hk : ((xs 0) &&& 63) = 45) :
    X 297 23 [.inr (.inr (29, (some 0))), .inr (.inr (11, (some 0))), .inr (.inr (12, (some 0))), .inr (.inr (23, (some 0))), .inl 0, sJk, sJk] [] t Qp := by
  refine x_iload (pc' := 25) rfl rfl rfl ?_
  refine x_aload_n (pc' := 26) rfl rfl rfl rfl rfl ?_
  refine x_alen (pc' := 27) (N := 7) rfl rfl rfl (z_L e) (?_ : X _ _ _ (.inl 7 :: _) _ _)
  refine x_bipush (pc' := 29) rfl rfl ?_
  refine x_isub (pc' := 30) (z := 0) rfl rfl (by decide) ?_
  refine x_icmp (a' := 2944) (pc' := 33) (z := false) rfl rfl rfl (by decide) (fun h => by cases h) (fun _ => ?_)
  refine x_aload_n (pc' := 34) rfl rfl rfl rfl rfl ?_
  refine x_iload (pc' := 36) rfl rfl rfl ?_
  refine x_iald (pc' := 37) (N := 7) (x := (xs 0)) rfl rfl rfl (z_L e) (io_in (p := 0) (N := 7) (by decide) (by decide)) (Eq.trans (congrArg (sA t 29 0) (nn_io (p := 0) (by decide))) (z_A_29_0_0 e)) ?_
  refine x_bipush (pc' := 39) rfl rfl ?_
  refine x_iand (pc' := 40) (z := ((xs 0) &&& 63)) rfl rfl rfl ?_
  refine x_switch (pc' := 2938) rfl (by rw [hk]; decide) ?_
  refine x_iinc (pc' := 2941) (y := 7) (ls' := [_, _, _, _, _, _, _]) rfl rfl rfl rfl rfl ?_
  refine x_goto (pc' := 23) rfl rfl ?_
  refine x_iload (pc' := 25) rfl rfl rfl ?_
  refine x_aload_n (pc' := 26) rfl rfl rfl rfl rfl ?_
  refine x_alen (pc' := 27) (N := 7) rfl rfl rfl (z_L e) (?_ : X _ _ _ (.inl 7 :: _) _ _)
  refine x_bipush (pc' := 29) rfl rfl ?_
  refine x_isub (pc' := 30) (z := 0) rfl rfl (by decide) ?_
  refine x_icmp (a' := 2944) (pc' := 33) (z := true) rfl rfl rfl (by decide) (fun _ => ?_) (fun h => by cases h)
  refine x_iconst (pc' := 2945) rfl rfl ?_
  refine x_retz (z := true) rfl rfl ?_
  exact Qp_ok e (p := 0) (q := 0) rfl rfl rfl rfl
set_option maxHeartbeats 4000000 in
set_option maxRecDepth 10000 in
theorem u_46 {t : sT} {xs : Nat → Int32}
    (e : t = T16 7 xs)
    (hk : ((xs 0) &&& 63) = 46) :
    X 297 23 [.inr (.inr (29, (some 0))), .inr (.inr (11, (some 0))), .inr (.inr (12, (some 0))), .inr (.inr (23, (some 0))), .inl 0, sJk, sJk] [] t Qp := by
  refine x_iload (pc' := 25) rfl rfl rfl ?_
  refine x_aload_n (pc' := 26) rfl rfl rfl rfl rfl ?_
  refine x_alen (pc' := 27) (N := 7) rfl rfl rfl (z_L e) (?_ : X _ _ _ (.inl 7 :: _) _ _)
  refine x_bipush (pc' := 29) rfl rfl ?_
  refine x_isub (pc' := 30) (z := 0) rfl rfl (by decide) ?_
  refine x_icmp (a' := 2944) (pc' := 33) (z := false) rfl rfl rfl (by decide) (fun h => by cases h) (fun _ => ?_)
  refine x_aload_n (pc' := 34) rfl rfl rfl rfl rfl ?_
  refine x_iload (pc' := 36) rfl rfl rfl ?_
  refine x_iald (pc' := 37) (N := 7) (x := (xs 0)) rfl rfl rfl (z_L e) (io_in (p := 0) (N := 7) (by decide) (by decide)) (Eq.trans (congrArg (sA t 29 0) (nn_io (p := 0) (by decide))) (z_A_29_0_0 e)) ?_
  refine x_bipush (pc' := 39) rfl rfl ?_
  refine x_iand (pc' := 40) (z := ((xs 0) &&& 63)) rfl rfl rfl ?_
  refine x_switch (pc' := 2938) rfl (by rw [hk]; decide) ?_
  refine x_iinc (pc' := 2941) (y := 7) (ls' := [_, _, _, _, _, _, _]) rfl rfl rfl rfl rfl ?_
  refine x_goto (pc' := 23) rfl rfl ?_
  refine x_iload (pc' := 25) rfl rfl rfl ?_
  refine x_aload_n (pc' := 26) rfl rfl rfl rfl rfl ?_
  refine x_alen (pc' := 27) (N := 7) rfl rfl rfl (z_L e) (?_ : X _ _ _ (.inl 7 :: _) _ _)
  refine x_bipush (pc' := 29) rfl rfl ?_
  refine x_isub (pc' := 30) (z := 0) rfl rfl (by decide) ?_
  refine x_icmp (a' := 2944) (pc' := 33) (z := true) rfl rfl rfl (by decide) (fun _ => ?_) (fun h => by cases h)
  refine x_iconst (pc' := 2945) rfl rfl ?_
  refine x_retz (z := true) rfl rfl ?_
  exact Qp_ok e (p := 0) (q := 0) rfl rfl rfl rfl
set_option maxHeartbeats 4000000 in
set_option maxRecDepth 10000 in
theorem u_47 {t : sT} {xs : Nat → Int32}
    (e : t = T16 7 xs)
    (hk : ((xs 0) &&& 63) = 47) :
    X 297 23 [.inr (.inr (29, (some 0))), .inr (.inr (11, (some 0))), .inr (.inr (12, (some 0))), .inr (.inr (23, (some 0))), .inl 0, sJk, sJk] [] t Qp := by
  refine x_iload (pc' := 25) rfl rfl rfl ?_
  refine x_aload_n (pc' := 26) rfl rfl rfl rfl rfl ?_
  refine x_alen (pc' := 27) (N := 7) rfl rfl rfl (z_L e) (?_ : X _ _ _ (.inl 7 :: _) _ _)
  refine x_bipush (pc' := 29) rfl rfl ?_
  refine x_isub (pc' := 30) (z := 0) rfl rfl (by decide) ?_
  refine x_icmp (a' := 2944) (pc' := 33) (z := false) rfl rfl rfl (by decide) (fun h => by cases h) (fun _ => ?_)
  refine x_aload_n (pc' := 34) rfl rfl rfl rfl rfl ?_
  refine x_iload (pc' := 36) rfl rfl rfl ?_
  refine x_iald (pc' := 37) (N := 7) (x := (xs 0)) rfl rfl rfl (z_L e) (io_in (p := 0) (N := 7) (by decide) (by decide)) (Eq.trans (congrArg (sA t 29 0) (nn_io (p := 0) (by decide))) (z_A_29_0_0 e)) ?_
  refine x_bipush (pc' := 39) rfl rfl ?_
  refine x_iand (pc' := 40) (z := ((xs 0) &&& 63)) rfl rfl rfl ?_
  refine x_switch (pc' := 2938) rfl (by rw [hk]; decide) ?_
  refine x_iinc (pc' := 2941) (y := 7) (ls' := [_, _, _, _, _, _, _]) rfl rfl rfl rfl rfl ?_
  refine x_goto (pc' := 23) rfl rfl ?_
  refine x_iload (pc' := 25) rfl rfl rfl ?_
  refine x_aload_n (pc' := 26) rfl rfl rfl rfl rfl ?_
  refine x_alen (pc' := 27) (N := 7) rfl rfl rfl (z_L e) (?_ : X _ _ _ (.inl 7 :: _) _ _)
  refine x_bipush (pc' := 29) rfl rfl ?_
  refine x_isub (pc' := 30) (z := 0) rfl rfl (by decide) ?_
  refine x_icmp (a' := 2944) (pc' := 33) (z := true) rfl rfl rfl (by decide) (fun _ => ?_) (fun h => by cases h)
  refine x_iconst (pc' := 2945) rfl rfl ?_
  refine x_retz (z := true) rfl rfl ?_
  exact Qp_ok e (p := 0) (q := 0) rfl rfl rfl rfl
set_option maxHeartbeats 4000000 in
set_option maxRecDepth 10000 in
theorem u_48 {t : sT} {xs : Nat → Int32}
    (e : t = T16 7 xs)
    (hk : ((xs 0) &&& 63) = 48) :
    X 297 23 [.inr (.inr (29, (some 0))), .inr (.inr (11, (some 0))), .inr (.inr (12, (some 0))), .inr (.inr (23, (some 0))), .inl 0, sJk, sJk] [] t Qp := by
  refine x_iload (pc' := 25) rfl rfl rfl ?_
  refine x_aload_n (pc' := 26) rfl rfl rfl rfl rfl ?_
  refine x_alen (pc' := 27) (N := 7) rfl rfl rfl (z_L e) (?_ : X _ _ _ (.inl 7 :: _) _ _)
  refine x_bipush (pc' := 29) rfl rfl ?_
  refine x_isub (pc' := 30) (z := 0) rfl rfl (by decide) ?_
  refine x_icmp (a' := 2944) (pc' := 33) (z := false) rfl rfl rfl (by decide) (fun h => by cases h) (fun _ => ?_)
  refine x_aload_n (pc' := 34) rfl rfl rfl rfl rfl ?_
  refine x_iload (pc' := 36) rfl rfl rfl ?_
  refine x_iald (pc' := 37) (N := 7) (x := (xs 0)) rfl rfl rfl (z_L e) (io_in (p := 0) (N := 7) (by decide) (by decide)) (Eq.trans (congrArg (sA t 29 0) (nn_io (p := 0) (by decide))) (z_A_29_0_0 e)) ?_
  refine x_bipush (pc' := 39) rfl rfl ?_
  refine x_iand (pc' := 40) (z := ((xs 0) &&& 63)) rfl rfl rfl ?_
  refine x_switch (pc' := 2938) rfl (by rw [hk]; decide) ?_
  refine x_iinc (pc' := 2941) (y := 7) (ls' := [_, _, _, _, _, _, _]) rfl rfl rfl rfl rfl ?_
  refine x_goto (pc' := 23) rfl rfl ?_
  refine x_iload (pc' := 25) rfl rfl rfl ?_
  refine x_aload_n (pc' := 26) rfl rfl rfl rfl rfl ?_
  refine x_alen (pc' := 27) (N := 7) rfl rfl rfl (z_L e) (?_ : X _ _ _ (.inl 7 :: _) _ _)
  refine x_bipush (pc' := 29) rfl rfl ?_
  refine x_isub (pc' := 30) (z := 0) rfl rfl (by decide) ?_
  refine x_icmp (a' := 2944) (pc' := 33) (z := true) rfl rfl rfl (by decide) (fun _ => ?_) (fun h => by cases h)
  refine x_iconst (pc' := 2945) rfl rfl ?_
  refine x_retz (z := true) rfl rfl ?_
  exact Qp_ok e (p := 0) (q := 0) rfl rfl rfl rfl
set_option maxHeartbeats 4000000 in
set_option maxRecDepth 10000 in
theorem u_49 {t : sT} {xs : Nat → Int32}
    (e : t = T16 7 xs)
    (hk : ((xs 0) &&& 63) = 49) :
    X 297 23 [.inr (.inr (29, (some 0))), .inr (.inr (11, (some 0))), .inr (.inr (12, (some 0))), .inr (.inr (23, (some 0))), .inl 0, sJk, sJk] [] t Qp := by
  refine x_iload (pc' := 25) rfl rfl rfl ?_
  refine x_aload_n (pc' := 26) rfl rfl rfl rfl rfl ?_
  refine x_alen (pc' := 27) (N := 7) rfl rfl rfl (z_L e) (?_ : X _ _ _ (.inl 7 :: _) _ _)
  refine x_bipush (pc' := 29) rfl rfl ?_
  refine x_isub (pc' := 30) (z := 0) rfl rfl (by decide) ?_
  refine x_icmp (a' := 2944) (pc' := 33) (z := false) rfl rfl rfl (by decide) (fun h => by cases h) (fun _ => ?_)
  refine x_aload_n (pc' := 34) rfl rfl rfl rfl rfl ?_
  refine x_iload (pc' := 36) rfl rfl rfl ?_
  refine x_iald (pc' := 37) (N := 7) (x := (xs 0)) rfl rfl rfl (z_L e) (io_in (p := 0) (N := 7) (by decide) (by decide)) (Eq.trans (congrArg (sA t 29 0) (nn_io (p := 0) (by decide))) (z_A_29_0_0 e)) ?_
  refine x_bipush (pc' := 39) rfl rfl ?_
  refine x_iand (pc' := 40) (z := ((xs 0) &&& 63)) rfl rfl rfl ?_
  refine x_switch (pc' := 2938) rfl (by rw [hk]; decide) ?_
  refine x_iinc (pc' := 2941) (y := 7) (ls' := [_, _, _, _, _, _, _]) rfl rfl rfl rfl rfl ?_
  refine x_goto (pc' := 23) rfl rfl ?_
  refine x_iload (pc' := 25) rfl rfl rfl ?_
  refine x_aload_n (pc' := 26) rfl rfl rfl rfl rfl ?_
  refine x_alen (pc' := 27) (N := 7) rfl rfl rfl (z_L e) (?_ : X _ _ _ (.inl 7 :: _) _ _)
  refine x_bipush (pc' := 29) rfl rfl ?_
  refine x_isub (pc' := 30) (z := 0) rfl rfl (by decide) ?_
  refine x_icmp (a' := 2944) (pc' := 33) (z := true) rfl rfl rfl (by decide) (fun _ => ?_) (fun h => by cases h)
  refine x_iconst (pc' := 2945) rfl rfl ?_
  refine x_retz (z := true) rfl rfl ?_
  exact Qp_ok e (p := 0) (q := 0) rfl rfl rfl rfl
set_option maxHeartbeats 4000000 in
set_option maxRecDepth 10000 in
theorem u_50 {t : sT} {xs : Nat → Int32}
    (e : t = T16 7 xs)
    (hk : ((xs 0) &&& 63) = 50) :
    X 297 23 [.inr (.inr (29, (some 0))), .inr (.inr (11, (some 0))), .inr (.inr (12, (some 0))), .inr (.inr (23, (some 0))), .inl 0, sJk, sJk] [] t Qp := by
  refine x_iload (pc' := 25) rfl rfl rfl ?_
  refine x_aload_n (pc' := 26) rfl rfl rfl rfl rfl ?_
  refine x_alen (pc' := 27) (N := 7) rfl rfl rfl (z_L e) (?_ : X _ _ _ (.inl 7 :: _) _ _)
  refine x_bipush (pc' := 29) rfl rfl ?_
  refine x_isub (pc' := 30) (z := 0) rfl rfl (by decide) ?_
  refine x_icmp (a' := 2944) (pc' := 33) (z := false) rfl rfl rfl (by decide) (fun h => by cases h) (fun _ => ?_)
  refine x_aload_n (pc' := 34) rfl rfl rfl rfl rfl ?_
  refine x_iload (pc' := 36) rfl rfl rfl ?_
  refine x_iald (pc' := 37) (N := 7) (x := (xs 0)) rfl rfl rfl (z_L e) (io_in (p := 0) (N := 7) (by decide) (by decide)) (Eq.trans (congrArg (sA t 29 0) (nn_io (p := 0) (by decide))) (z_A_29_0_0 e)) ?_
  refine x_bipush (pc' := 39) rfl rfl ?_
  refine x_iand (pc' := 40) (z := ((xs 0) &&& 63)) rfl rfl rfl ?_
  refine x_switch (pc' := 2938) rfl (by rw [hk]; decide) ?_
  refine x_iinc (pc' := 2941) (y := 7) (ls' := [_, _, _, _, _, _, _]) rfl rfl rfl rfl rfl ?_
  refine x_goto (pc' := 23) rfl rfl ?_
  refine x_iload (pc' := 25) rfl rfl rfl ?_
  refine x_aload_n (pc' := 26) rfl rfl rfl rfl rfl ?_
  refine x_alen (pc' := 27) (N := 7) rfl rfl rfl (z_L e) (?_ : X _ _ _ (.inl 7 :: _) _ _)
  refine x_bipush (pc' := 29) rfl rfl ?_
  refine x_isub (pc' := 30) (z := 0) rfl rfl (by decide) ?_
  refine x_icmp (a' := 2944) (pc' := 33) (z := true) rfl rfl rfl (by decide) (fun _ => ?_) (fun h => by cases h)
  refine x_iconst (pc' := 2945) rfl rfl ?_
  refine x_retz (z := true) rfl rfl ?_
  exact Qp_ok e (p := 0) (q := 0) rfl rfl rfl rfl
set_option maxHeartbeats 4000000 in
set_option maxRecDepth 10000 in
theorem u_51 {t : sT} {xs : Nat → Int32}
    (e : t = T16 7 xs)
    (hk : ((xs 0) &&& 63) = 51) :
    X 297 23 [.inr (.inr (29, (some 0))), .inr (.inr (11, (some 0))), .inr (.inr (12, (some 0))), .inr (.inr (23, (some 0))), .inl 0, sJk, sJk] [] t Qp := by
  refine x_iload (pc' := 25) rfl rfl rfl ?_
  refine x_aload_n (pc' := 26) rfl rfl rfl rfl rfl ?_
  refine x_alen (pc' := 27) (N := 7) rfl rfl rfl (z_L e) (?_ : X _ _ _ (.inl 7 :: _) _ _)
  refine x_bipush (pc' := 29) rfl rfl ?_
  refine x_isub (pc' := 30) (z := 0) rfl rfl (by decide) ?_
  refine x_icmp (a' := 2944) (pc' := 33) (z := false) rfl rfl rfl (by decide) (fun h => by cases h) (fun _ => ?_)
  refine x_aload_n (pc' := 34) rfl rfl rfl rfl rfl ?_
  refine x_iload (pc' := 36) rfl rfl rfl ?_
  refine x_iald (pc' := 37) (N := 7) (x := (xs 0)) rfl rfl rfl (z_L e) (io_in (p := 0) (N := 7) (by decide) (by decide)) (Eq.trans (congrArg (sA t 29 0) (nn_io (p := 0) (by decide))) (z_A_29_0_0 e)) ?_
  refine x_bipush (pc' := 39) rfl rfl ?_
  refine x_iand (pc' := 40) (z := ((xs 0) &&& 63)) rfl rfl rfl ?_
  refine x_switch (pc' := 2938) rfl (by rw [hk]; decide) ?_
  refine x_iinc (pc' := 2941) (y := 7) (ls' := [_, _, _, _, _, _, _]) rfl rfl rfl rfl rfl ?_
  refine x_goto (pc' := 23) rfl rfl ?_
  refine x_iload (pc' := 25) rfl rfl rfl ?_
  refine x_aload_n (pc' := 26) rfl rfl rfl rfl rfl ?_
  refine x_alen (pc' := 27) (N := 7) rfl rfl rfl (z_L e) (?_ : X _ _ _ (.inl 7 :: _) _ _)
  refine x_bipush (pc' := 29) rfl rfl ?_
  refine x_isub (pc' := 30) (z := 0) rfl rfl (by decide) ?_
  refine x_icmp (a' := 2944) (pc' := 33) (z := true) rfl rfl rfl (by decide) (fun _ => ?_) (fun h => by cases h)
  refine x_iconst (pc' := 2945) rfl rfl ?_
  refine x_retz (z := true) rfl rfl ?_
  exact Qp_ok e (p := 0) (q := 0) rfl rfl rfl rfl
set_option maxHeartbeats 4000000 in
set_option maxRecDepth 10000 in
theorem u_52 {t : sT} {xs : Nat → Int32}
    (e : t = T16 7 xs)
    (hk : ((xs 0) &&& 63) = 52) :
    X 297 23 [.inr (.inr (29, (some 0))), .inr (.inr (11, (some 0))), .inr (.inr (12, (some 0))), .inr (.inr (23, (some 0))), .inl 0, sJk, sJk] [] t Qp := by
  refine x_iload (pc' := 25) rfl rfl rfl ?_
  refine x_aload_n (pc' := 26) rfl rfl rfl rfl rfl ?_
  refine x_alen (pc' := 27) (N := 7) rfl rfl rfl (z_L e) (?_ : X _ _ _ (.inl 7 :: _) _ _)
  refine x_bipush (pc' := 29) rfl rfl ?_
  refine x_isub (pc' := 30) (z := 0) rfl rfl (by decide) ?_
  refine x_icmp (a' := 2944) (pc' := 33) (z := false) rfl rfl rfl (by decide) (fun h => by cases h) (fun _ => ?_)
  refine x_aload_n (pc' := 34) rfl rfl rfl rfl rfl ?_
  refine x_iload (pc' := 36) rfl rfl rfl ?_
  refine x_iald (pc' := 37) (N := 7) (x := (xs 0)) rfl rfl rfl (z_L e) (io_in (p := 0) (N := 7) (by decide) (by decide)) (Eq.trans (congrArg (sA t 29 0) (nn_io (p := 0) (by decide))) (z_A_29_0_0 e)) ?_
  refine x_bipush (pc' := 39) rfl rfl ?_
  refine x_iand (pc' := 40) (z := ((xs 0) &&& 63)) rfl rfl rfl ?_
  refine x_switch (pc' := 2938) rfl (by rw [hk]; decide) ?_
  refine x_iinc (pc' := 2941) (y := 7) (ls' := [_, _, _, _, _, _, _]) rfl rfl rfl rfl rfl ?_
  refine x_goto (pc' := 23) rfl rfl ?_
  refine x_iload (pc' := 25) rfl rfl rfl ?_
  refine x_aload_n (pc' := 26) rfl rfl rfl rfl rfl ?_
  refine x_alen (pc' := 27) (N := 7) rfl rfl rfl (z_L e) (?_ : X _ _ _ (.inl 7 :: _) _ _)
  refine x_bipush (pc' := 29) rfl rfl ?_
  refine x_isub (pc' := 30) (z := 0) rfl rfl (by decide) ?_
  refine x_icmp (a' := 2944) (pc' := 33) (z := true) rfl rfl rfl (by decide) (fun _ => ?_) (fun h => by cases h)
  refine x_iconst (pc' := 2945) rfl rfl ?_
  refine x_retz (z := true) rfl rfl ?_
  exact Qp_ok e (p := 0) (q := 0) rfl rfl rfl rfl
set_option maxHeartbeats 4000000 in
set_option maxRecDepth 10000 in
theorem u_53 {t : sT} {xs : Nat → Int32}
    (e : t = T16 7 xs)
    (hk : ((xs 0) &&& 63) = 53) :
    X 297 23 [.inr (.inr (29, (some 0))), .inr (.inr (11, (some 0))), .inr (.inr (12, (some 0))), .inr (.inr (23, (some 0))), .inl 0, sJk, sJk] [] t Qp := by
  refine x_iload (pc' := 25) rfl rfl rfl ?_
  refine x_aload_n (pc' := 26) rfl rfl rfl rfl rfl ?_
  refine x_alen (pc' := 27) (N := 7) rfl rfl rfl (z_L e) (?_ : X _ _ _ (.inl 7 :: _) _ _)
  refine x_bipush (pc' := 29) rfl rfl ?_
  refine x_isub (pc' := 30) (z := 0) rfl rfl (by decide) ?_
  refine x_icmp (a' := 2944) (pc' := 33) (z := false) rfl rfl rfl (by decide) (fun h => by cases h) (fun _ => ?_)
  refine x_aload_n (pc' := 34) rfl rfl rfl rfl rfl ?_
  refine x_iload (pc' := 36) rfl rfl rfl ?_
  refine x_iald (pc' := 37) (N := 7) (x := (xs 0)) rfl rfl rfl (z_L e) (io_in (p := 0) (N := 7) (by decide) (by decide)) (Eq.trans (congrArg (sA t 29 0) (nn_io (p := 0) (by decide))) (z_A_29_0_0 e)) ?_
  refine x_bipush (pc' := 39) rfl rfl ?_
  refine x_iand (pc' := 40) (z := ((xs 0) &&& 63)) rfl rfl rfl ?_
  refine x_switch (pc' := 2938) rfl (by rw [hk]; decide) ?_
  refine x_iinc (pc' := 2941) (y := 7) (ls' := [_, _, _, _, _, _, _]) rfl rfl rfl rfl rfl ?_
  refine x_goto (pc' := 23) rfl rfl ?_
  refine x_iload (pc' := 25) rfl rfl rfl ?_
  refine x_aload_n (pc' := 26) rfl rfl rfl rfl rfl ?_
  refine x_alen (pc' := 27) (N := 7) rfl rfl rfl (z_L e) (?_ : X _ _ _ (.inl 7 :: _) _ _)
  refine x_bipush (pc' := 29) rfl rfl ?_
  refine x_isub (pc' := 30) (z := 0) rfl rfl (by decide) ?_
  refine x_icmp (a' := 2944) (pc' := 33) (z := true) rfl rfl rfl (by decide) (fun _ => ?_) (fun h => by cases h)
  refine x_iconst (pc' := 2945) rfl rfl ?_
  refine x_retz (z := true) rfl rfl ?_
  exact Qp_ok e (p := 0) (q := 0) rfl rfl rfl rfl
set_option maxHeartbeats 4000000 in
set_option maxRecDepth 10000 in
theorem u_54 {t : sT} {xs : Nat → Int32}
    (e : t = T16 7 xs)
    (hk : ((xs 0) &&& 63) = 54) :
    X 297 23 [.inr (.inr (29, (some 0))), .inr (.inr (11, (some 0))), .inr (.inr (12, (some 0))), .inr (.inr (23, (some 0))), .inl 0, sJk, sJk] [] t Qp := by
  refine x_iload (pc' := 25) rfl rfl rfl ?_
  refine x_aload_n (pc' := 26) rfl rfl rfl rfl rfl ?_
  refine x_alen (pc' := 27) (N := 7) rfl rfl rfl (z_L e) (?_ : X _ _ _ (.inl 7 :: _) _ _)
  refine x_bipush (pc' := 29) rfl rfl ?_
  refine x_isub (pc' := 30) (z := 0) rfl rfl (by decide) ?_
  refine x_icmp (a' := 2944) (pc' := 33) (z := false) rfl rfl rfl (by decide) (fun h => by cases h) (fun _ => ?_)
  refine x_aload_n (pc' := 34) rfl rfl rfl rfl rfl ?_
  refine x_iload (pc' := 36) rfl rfl rfl ?_
  refine x_iald (pc' := 37) (N := 7) (x := (xs 0)) rfl rfl rfl (z_L e) (io_in (p := 0) (N := 7) (by decide) (by decide)) (Eq.trans (congrArg (sA t 29 0) (nn_io (p := 0) (by decide))) (z_A_29_0_0 e)) ?_
  refine x_bipush (pc' := 39) rfl rfl ?_
  refine x_iand (pc' := 40) (z := ((xs 0) &&& 63)) rfl rfl rfl ?_
  refine x_switch (pc' := 2938) rfl (by rw [hk]; decide) ?_
  refine x_iinc (pc' := 2941) (y := 7) (ls' := [_, _, _, _, _, _, _]) rfl rfl rfl rfl rfl ?_
  refine x_goto (pc' := 23) rfl rfl ?_
  refine x_iload (pc' := 25) rfl rfl rfl ?_
  refine x_aload_n (pc' := 26) rfl rfl rfl rfl rfl ?_
  refine x_alen (pc' := 27) (N := 7) rfl rfl rfl (z_L e) (?_ : X _ _ _ (.inl 7 :: _) _ _)
  refine x_bipush (pc' := 29) rfl rfl ?_
  refine x_isub (pc' := 30) (z := 0) rfl rfl (by decide) ?_
  refine x_icmp (a' := 2944) (pc' := 33) (z := true) rfl rfl rfl (by decide) (fun _ => ?_) (fun h => by cases h)
  refine x_iconst (pc' := 2945) rfl rfl ?_
  refine x_retz (z := true) rfl rfl ?_
  exact Qp_ok e (p := 0) (q := 0) rfl rfl rfl rfl
set_option maxHeartbeats 4000000 in
set_option maxRecDepth 10000 in
theorem u_55 {t : sT} {xs : Nat → Int32}
    (e : t = T16 7 xs)
    (hk : ((xs 0) &&& 63) = 55) :
    X 297 23 [.inr (.inr (29, (some 0))), .inr (.inr (11, (some 0))), .inr (.inr (12, (some 0))), .inr (.inr (23, (some 0))), .inl 0, sJk, sJk] [] t Qp := by
  refine x_iload (pc' := 25) rfl rfl rfl ?_
  refine x_aload_n (pc' := 26) rfl rfl rfl rfl rfl ?_
  refine x_alen (pc' := 27) (N := 7) rfl rfl rfl (z_L e) (?_ : X _ _ _ (.inl 7 :: _) _ _)
  refine x_bipush (pc' := 29) rfl rfl ?_
  refine x_isub (pc' := 30) (z := 0) rfl rfl (by decide) ?_
  refine x_icmp (a' := 2944) (pc' := 33) (z := false) rfl rfl rfl (by decide) (fun h => by cases h) (fun _ => ?_)
  refine x_aload_n (pc' := 34) rfl rfl rfl rfl rfl ?_
  refine x_iload (pc' := 36) rfl rfl rfl ?_
  refine x_iald (pc' := 37) (N := 7) (x := (xs 0)) rfl rfl rfl (z_L e) (io_in (p := 0) (N := 7) (by decide) (by decide)) (Eq.trans (congrArg (sA t 29 0) (nn_io (p := 0) (by decide))) (z_A_29_0_0 e)) ?_
  refine x_bipush (pc' := 39) rfl rfl ?_
  refine x_iand (pc' := 40) (z := ((xs 0) &&& 63)) rfl rfl rfl ?_
  refine x_switch (pc' := 2938) rfl (by rw [hk]; decide) ?_
  refine x_iinc (pc' := 2941) (y := 7) (ls' := [_, _, _, _, _, _, _]) rfl rfl rfl rfl rfl ?_
  refine x_goto (pc' := 23) rfl rfl ?_
  refine x_iload (pc' := 25) rfl rfl rfl ?_
  refine x_aload_n (pc' := 26) rfl rfl rfl rfl rfl ?_
  refine x_alen (pc' := 27) (N := 7) rfl rfl rfl (z_L e) (?_ : X _ _ _ (.inl 7 :: _) _ _)
  refine x_bipush (pc' := 29) rfl rfl ?_
  refine x_isub (pc' := 30) (z := 0) rfl rfl (by decide) ?_
  refine x_icmp (a' := 2944) (pc' := 33) (z := true) rfl rfl rfl (by decide) (fun _ => ?_) (fun h => by cases h)
  refine x_iconst (pc' := 2945) rfl rfl ?_
  refine x_retz (z := true) rfl rfl ?_
  exact Qp_ok e (p := 0) (q := 0) rfl rfl rfl rfl
set_option maxHeartbeats 4000000 in
set_option maxRecDepth 10000 in
theorem u_56 {t : sT} {xs : Nat → Int32}
    (e : t = T16 7 xs)
    (hk : ((xs 0) &&& 63) = 56) :
    X 297 23 [.inr (.inr (29, (some 0))), .inr (.inr (11, (some 0))), .inr (.inr (12, (some 0))), .inr (.inr (23, (some 0))), .inl 0, sJk, sJk] [] t Qp := by
  refine x_iload (pc' := 25) rfl rfl rfl ?_
  refine x_aload_n (pc' := 26) rfl rfl rfl rfl rfl ?_
  refine x_alen (pc' := 27) (N := 7) rfl rfl rfl (z_L e) (?_ : X _ _ _ (.inl 7 :: _) _ _)
  refine x_bipush (pc' := 29) rfl rfl ?_
  refine x_isub (pc' := 30) (z := 0) rfl rfl (by decide) ?_
  refine x_icmp (a' := 2944) (pc' := 33) (z := false) rfl rfl rfl (by decide) (fun h => by cases h) (fun _ => ?_)
  refine x_aload_n (pc' := 34) rfl rfl rfl rfl rfl ?_
  refine x_iload (pc' := 36) rfl rfl rfl ?_
  refine x_iald (pc' := 37) (N := 7) (x := (xs 0)) rfl rfl rfl (z_L e) (io_in (p := 0) (N := 7) (by decide) (by decide)) (Eq.trans (congrArg (sA t 29 0) (nn_io (p := 0) (by decide))) (z_A_29_0_0 e)) ?_
  refine x_bipush (pc' := 39) rfl rfl ?_
  refine x_iand (pc' := 40) (z := ((xs 0) &&& 63)) rfl rfl rfl ?_
  refine x_switch (pc' := 2938) rfl (by rw [hk]; decide) ?_
  refine x_iinc (pc' := 2941) (y := 7) (ls' := [_, _, _, _, _, _, _]) rfl rfl rfl rfl rfl ?_
  refine x_goto (pc' := 23) rfl rfl ?_
  refine x_iload (pc' := 25) rfl rfl rfl ?_
  refine x_aload_n (pc' := 26) rfl rfl rfl rfl rfl ?_
  refine x_alen (pc' := 27) (N := 7) rfl rfl rfl (z_L e) (?_ : X _ _ _ (.inl 7 :: _) _ _)
  refine x_bipush (pc' := 29) rfl rfl ?_
  refine x_isub (pc' := 30) (z := 0) rfl rfl (by decide) ?_
  refine x_icmp (a' := 2944) (pc' := 33) (z := true) rfl rfl rfl (by decide) (fun _ => ?_) (fun h => by cases h)
  refine x_iconst (pc' := 2945) rfl rfl ?_
  refine x_retz (z := true) rfl rfl ?_
  exact Qp_ok e (p := 0) (q := 0) rfl rfl rfl rfl
set_option maxHeartbeats 4000000 in
set_option maxRecDepth 10000 in
theorem u_57 {t : sT} {xs : Nat → Int32}
    (e : t = T16 7 xs)
    (hk : ((xs 0) &&& 63) = 57) :
    X 297 23 [.inr (.inr (29, (some 0))), .inr (.inr (11, (some 0))), .inr (.inr (12, (some 0))), .inr (.inr (23, (some 0))), .inl 0, sJk, sJk] [] t Qp := by
  refine x_iload (pc' := 25) rfl rfl rfl ?_
  refine x_aload_n (pc' := 26) rfl rfl rfl rfl rfl ?_
  refine x_alen (pc' := 27) (N := 7) rfl rfl rfl (z_L e) (?_ : X _ _ _ (.inl 7 :: _) _ _)
  refine x_bipush (pc' := 29) rfl rfl ?_
  refine x_isub (pc' := 30) (z := 0) rfl rfl (by decide) ?_
  refine x_icmp (a' := 2944) (pc' := 33) (z := false) rfl rfl rfl (by decide) (fun h => by cases h) (fun _ => ?_)
  refine x_aload_n (pc' := 34) rfl rfl rfl rfl rfl ?_
  refine x_iload (pc' := 36) rfl rfl rfl ?_
  refine x_iald (pc' := 37) (N := 7) (x := (xs 0)) rfl rfl rfl (z_L e) (io_in (p := 0) (N := 7) (by decide) (by decide)) (Eq.trans (congrArg (sA t 29 0) (nn_io (p := 0) (by decide))) (z_A_29_0_0 e)) ?_
  refine x_bipush (pc' := 39) rfl rfl ?_
  refine x_iand (pc' := 40) (z := ((xs 0) &&& 63)) rfl rfl rfl ?_
  refine x_switch (pc' := 2938) rfl (by rw [hk]; decide) ?_
  refine x_iinc (pc' := 2941) (y := 7) (ls' := [_, _, _, _, _, _, _]) rfl rfl rfl rfl rfl ?_
  refine x_goto (pc' := 23) rfl rfl ?_
  refine x_iload (pc' := 25) rfl rfl rfl ?_
  refine x_aload_n (pc' := 26) rfl rfl rfl rfl rfl ?_
  refine x_alen (pc' := 27) (N := 7) rfl rfl rfl (z_L e) (?_ : X _ _ _ (.inl 7 :: _) _ _)
  refine x_bipush (pc' := 29) rfl rfl ?_
  refine x_isub (pc' := 30) (z := 0) rfl rfl (by decide) ?_
  refine x_icmp (a' := 2944) (pc' := 33) (z := true) rfl rfl rfl (by decide) (fun _ => ?_) (fun h => by cases h)
  refine x_iconst (pc' := 2945) rfl rfl ?_
  refine x_retz (z := true) rfl rfl ?_
  exact Qp_ok e (p := 0) (q := 0) rfl rfl rfl rfl
set_option maxHeartbeats 4000000 in
set_option maxRecDepth 10000 in
theorem u_58 {t : sT} {xs : Nat → Int32}
    (e : t = T16 7 xs)
    (hk : ((xs 0) &&& 63) = 58) :
    X 297 23 [.inr (.inr (29, (some 0))), .inr (.inr (11, (some 0))), .inr (.inr (12, (some 0))), .inr (.inr (23, (some 0))), .inl 0, sJk, sJk] [] t Qp := by
  refine x_iload (pc' := 25) rfl rfl rfl ?_
  refine x_aload_n (pc' := 26) rfl rfl rfl rfl rfl ?_
  refine x_alen (pc' := 27) (N := 7) rfl rfl rfl (z_L e) (?_ : X _ _ _ (.inl 7 :: _) _ _)
  refine x_bipush (pc' := 29) rfl rfl ?_
  refine x_isub (pc' := 30) (z := 0) rfl rfl (by decide) ?_
  refine x_icmp (a' := 2944) (pc' := 33) (z := false) rfl rfl rfl (by decide) (fun h => by cases h) (fun _ => ?_)
  refine x_aload_n (pc' := 34) rfl rfl rfl rfl rfl ?_
  refine x_iload (pc' := 36) rfl rfl rfl ?_
  refine x_iald (pc' := 37) (N := 7) (x := (xs 0)) rfl rfl rfl (z_L e) (io_in (p := 0) (N := 7) (by decide) (by decide)) (Eq.trans (congrArg (sA t 29 0) (nn_io (p := 0) (by decide))) (z_A_29_0_0 e)) ?_
  refine x_bipush (pc' := 39) rfl rfl ?_
  refine x_iand (pc' := 40) (z := ((xs 0) &&& 63)) rfl rfl rfl ?_
  refine x_switch (pc' := 2938) rfl (by rw [hk]; decide) ?_
  refine x_iinc (pc' := 2941) (y := 7) (ls' := [_, _, _, _, _, _, _]) rfl rfl rfl rfl rfl ?_
  refine x_goto (pc' := 23) rfl rfl ?_
  refine x_iload (pc' := 25) rfl rfl rfl ?_
  refine x_aload_n (pc' := 26) rfl rfl rfl rfl rfl ?_
  refine x_alen (pc' := 27) (N := 7) rfl rfl rfl (z_L e) (?_ : X _ _ _ (.inl 7 :: _) _ _)
  refine x_bipush (pc' := 29) rfl rfl ?_
  refine x_isub (pc' := 30) (z := 0) rfl rfl (by decide) ?_
  refine x_icmp (a' := 2944) (pc' := 33) (z := true) rfl rfl rfl (by decide) (fun _ => ?_) (fun h => by cases h)
  refine x_iconst (pc' := 2945) rfl rfl ?_
  refine x_retz (z := true) rfl rfl ?_
  exact Qp_ok e (p := 0) (q := 0) rfl rfl rfl rfl
set_option maxHeartbeats 4000000 in
set_option maxRecDepth 10000 in
theorem u_59 {t : sT} {xs : Nat → Int32}
    (e : t = T16 7 xs)
    (hk : ((xs 0) &&& 63) = 59) :
    X 297 23 [.inr (.inr (29, (some 0))), .inr (.inr (11, (some 0))), .inr (.inr (12, (some 0))), .inr (.inr (23, (some 0))), .inl 0, sJk, sJk] [] t Qp := by
  refine x_iload (pc' := 25) rfl rfl rfl ?_
  refine x_aload_n (pc' := 26) rfl rfl rfl rfl rfl ?_
  refine x_alen (pc' := 27) (N := 7) rfl rfl rfl (z_L e) (?_ : X _ _ _ (.inl 7 :: _) _ _)
  refine x_bipush (pc' := 29) rfl rfl ?_
  refine x_isub (pc' := 30) (z := 0) rfl rfl (by decide) ?_
  refine x_icmp (a' := 2944) (pc' := 33) (z := false) rfl rfl rfl (by decide) (fun h => by cases h) (fun _ => ?_)
  refine x_aload_n (pc' := 34) rfl rfl rfl rfl rfl ?_
  refine x_iload (pc' := 36) rfl rfl rfl ?_
  refine x_iald (pc' := 37) (N := 7) (x := (xs 0)) rfl rfl rfl (z_L e) (io_in (p := 0) (N := 7) (by decide) (by decide)) (Eq.trans (congrArg (sA t 29 0) (nn_io (p := 0) (by decide))) (z_A_29_0_0 e)) ?_
  refine x_bipush (pc' := 39) rfl rfl ?_
  refine x_iand (pc' := 40) (z := ((xs 0) &&& 63)) rfl rfl rfl ?_
  refine x_switch (pc' := 2938) rfl (by rw [hk]; decide) ?_
  refine x_iinc (pc' := 2941) (y := 7) (ls' := [_, _, _, _, _, _, _]) rfl rfl rfl rfl rfl ?_
  refine x_goto (pc' := 23) rfl rfl ?_
  refine x_iload (pc' := 25) rfl rfl rfl ?_
  refine x_aload_n (pc' := 26) rfl rfl rfl rfl rfl ?_
  refine x_alen (pc' := 27) (N := 7) rfl rfl rfl (z_L e) (?_ : X _ _ _ (.inl 7 :: _) _ _)
  refine x_bipush (pc' := 29) rfl rfl ?_
  refine x_isub (pc' := 30) (z := 0) rfl rfl (by decide) ?_
  refine x_icmp (a' := 2944) (pc' := 33) (z := true) rfl rfl rfl (by decide) (fun _ => ?_) (fun h => by cases h)
  refine x_iconst (pc' := 2945) rfl rfl ?_
  refine x_retz (z := true) rfl rfl ?_
  exact Qp_ok e (p := 0) (q := 0) rfl rfl rfl rfl
set_option maxHeartbeats 4000000 in
set_option maxRecDepth 10000 in
theorem u_60 {t : sT} {xs : Nat → Int32}
    (e : t = T16 7 xs)
    (hk : ((xs 0) &&& 63) = 60) :
    X 297 23 [.inr (.inr (29, (some 0))), .inr (.inr (11, (some 0))), .inr (.inr (12, (some 0))), .inr (.inr (23, (some 0))), .inl 0, sJk, sJk] [] t Qp := by
  refine x_iload (pc' := 25) rfl rfl rfl ?_
  refine x_aload_n (pc' := 26) rfl rfl rfl rfl rfl ?_
  refine x_alen (pc' := 27) (N := 7) rfl rfl rfl (z_L e) (?_ : X _ _ _ (.inl 7 :: _) _ _)
  refine x_bipush (pc' := 29) rfl rfl ?_
  refine x_isub (pc' := 30) (z := 0) rfl rfl (by decide) ?_
  refine x_icmp (a' := 2944) (pc' := 33) (z := false) rfl rfl rfl (by decide) (fun h => by cases h) (fun _ => ?_)
  refine x_aload_n (pc' := 34) rfl rfl rfl rfl rfl ?_
  refine x_iload (pc' := 36) rfl rfl rfl ?_
  refine x_iald (pc' := 37) (N := 7) (x := (xs 0)) rfl rfl rfl (z_L e) (io_in (p := 0) (N := 7) (by decide) (by decide)) (Eq.trans (congrArg (sA t 29 0) (nn_io (p := 0) (by decide))) (z_A_29_0_0 e)) ?_
  refine x_bipush (pc' := 39) rfl rfl ?_
  refine x_iand (pc' := 40) (z := ((xs 0) &&& 63)) rfl rfl rfl ?_
  refine x_switch (pc' := 2938) rfl (by rw [hk]; decide) ?_
  refine x_iinc (pc' := 2941) (y := 7) (ls' := [_, _, _, _, _, _, _]) rfl rfl rfl rfl rfl ?_
  refine x_goto (pc' := 23) rfl rfl ?_
  refine x_iload (pc' := 25) rfl rfl rfl ?_
  refine x_aload_n (pc' := 26) rfl rfl rfl rfl rfl ?_
  refine x_alen (pc' := 27) (N := 7) rfl rfl rfl (z_L e) (?_ : X _ _ _ (.inl 7 :: _) _ _)
  refine x_bipush (pc' := 29) rfl rfl ?_
  refine x_isub (pc' := 30) (z := 0) rfl rfl (by decide) ?_
  refine x_icmp (a' := 2944) (pc' := 33) (z := true) rfl rfl rfl (by decide) (fun _ => ?_) (fun h => by cases h)
  refine x_iconst (pc' := 2945) rfl rfl ?_
  refine x_retz (z := true) rfl rfl ?_
  exact Qp_ok e (p := 0) (q := 0) rfl rfl rfl rfl
set_option maxHeartbeats 4000000 in
set_option maxRecDepth 10000 in
theorem u_61 {t : sT} {xs : Nat → Int32}
    (e : t = T16 7 xs)
    (hk : ((xs 0) &&& 63) = 61) :
    X 297 23 [.inr (.inr (29, (some 0))), .inr (.inr (11, (some 0))), .inr (.inr (12, (some 0))), .inr (.inr (23, (some 0))), .inl 0, sJk, sJk] [] t Qp := by
  refine x_iload (pc' := 25) rfl rfl rfl ?_
  refine x_aload_n (pc' := 26) rfl rfl rfl rfl rfl ?_
  refine x_alen (pc' := 27) (N := 7) rfl rfl rfl (z_L e) (?_ : X _ _ _ (.inl 7 :: _) _ _)
  refine x_bipush (pc' := 29) rfl rfl ?_
  refine x_isub (pc' := 30) (z := 0) rfl rfl (by decide) ?_
  refine x_icmp (a' := 2944) (pc' := 33) (z := false) rfl rfl rfl (by decide) (fun h => by cases h) (fun _ => ?_)
  refine x_aload_n (pc' := 34) rfl rfl rfl rfl rfl ?_
  refine x_iload (pc' := 36) rfl rfl rfl ?_
  refine x_iald (pc' := 37) (N := 7) (x := (xs 0)) rfl rfl rfl (z_L e) (io_in (p := 0) (N := 7) (by decide) (by decide)) (Eq.trans (congrArg (sA t 29 0) (nn_io (p := 0) (by decide))) (z_A_29_0_0 e)) ?_
  refine x_bipush (pc' := 39) rfl rfl ?_
  refine x_iand (pc' := 40) (z := ((xs 0) &&& 63)) rfl rfl rfl ?_
  refine x_switch (pc' := 2938) rfl (by rw [hk]; decide) ?_
  refine x_iinc (pc' := 2941) (y := 7) (ls' := [_, _, _, _, _, _, _]) rfl rfl rfl rfl rfl ?_
  refine x_goto (pc' := 23) rfl rfl ?_
  refine x_iload (pc' := 25) rfl rfl rfl ?_
  refine x_aload_n (pc' := 26) rfl rfl rfl rfl rfl ?_
  refine x_alen (pc' := 27) (N := 7) rfl rfl rfl (z_L e) (?_ : X _ _ _ (.inl 7 :: _) _ _)
  refine x_bipush (pc' := 29) rfl rfl ?_
  refine x_isub (pc' := 30) (z := 0) rfl rfl (by decide) ?_
  refine x_icmp (a' := 2944) (pc' := 33) (z := true) rfl rfl rfl (by decide) (fun _ => ?_) (fun h => by cases h)
  refine x_iconst (pc' := 2945) rfl rfl ?_
  refine x_retz (z := true) rfl rfl ?_
  exact Qp_ok e (p := 0) (q := 0) rfl rfl rfl rfl
set_option maxHeartbeats 4000000 in
set_option maxRecDepth 10000 in
theorem u_62 {t : sT} {xs : Nat → Int32}
    (e : t = T16 7 xs)
    (hk : ((xs 0) &&& 63) = 62) :
    X 297 23 [.inr (.inr (29, (some 0))), .inr (.inr (11, (some 0))), .inr (.inr (12, (some 0))), .inr (.inr (23, (some 0))), .inl 0, sJk, sJk] [] t Qp := by
  refine x_iload (pc' := 25) rfl rfl rfl ?_
  refine x_aload_n (pc' := 26) rfl rfl rfl rfl rfl ?_
  refine x_alen (pc' := 27) (N := 7) rfl rfl rfl (z_L e) (?_ : X _ _ _ (.inl 7 :: _) _ _)
  refine x_bipush (pc' := 29) rfl rfl ?_
  refine x_isub (pc' := 30) (z := 0) rfl rfl (by decide) ?_
  refine x_icmp (a' := 2944) (pc' := 33) (z := false) rfl rfl rfl (by decide) (fun h => by cases h) (fun _ => ?_)
  refine x_aload_n (pc' := 34) rfl rfl rfl rfl rfl ?_
  refine x_iload (pc' := 36) rfl rfl rfl ?_
  refine x_iald (pc' := 37) (N := 7) (x := (xs 0)) rfl rfl rfl (z_L e) (io_in (p := 0) (N := 7) (by decide) (by decide)) (Eq.trans (congrArg (sA t 29 0) (nn_io (p := 0) (by decide))) (z_A_29_0_0 e)) ?_
  refine x_bipush (pc' := 39) rfl rfl ?_
  refine x_iand (pc' := 40) (z := ((xs 0) &&& 63)) rfl rfl rfl ?_
  refine x_switch (pc' := 2938) rfl (by rw [hk]; decide) ?_
  refine x_iinc (pc' := 2941) (y := 7) (ls' := [_, _, _, _, _, _, _]) rfl rfl rfl rfl rfl ?_
  refine x_goto (pc' := 23) rfl rfl ?_
  refine x_iload (pc' := 25) rfl rfl rfl ?_
  refine x_aload_n (pc' := 26) rfl rfl rfl rfl rfl ?_
  refine x_alen (pc' := 27) (N := 7) rfl rfl rfl (z_L e) (?_ : X _ _ _ (.inl 7 :: _) _ _)
  refine x_bipush (pc' := 29) rfl rfl ?_
  refine x_isub (pc' := 30) (z := 0) rfl rfl (by decide) ?_
  refine x_icmp (a' := 2944) (pc' := 33) (z := true) rfl rfl rfl (by decide) (fun _ => ?_) (fun h => by cases h)
  refine x_iconst (pc' := 2945) rfl rfl ?_
  refine x_retz (z := true) rfl rfl ?_
  exact Qp_ok e (p := 0) (q := 0) rfl rfl rfl rfl
set_option maxHeartbeats 4000000 in
set_option maxRecDepth 10000 in
theorem u_63 {t : sT} {xs : Nat → Int32}
    (e : t = T16 7 xs)
    (hk : ((xs 0) &&& 63) = 63) :
    X 297 23 [.inr (.inr (29, (some 0))), .inr (.inr (11, (some 0))), .inr (.inr (12, (some 0))), .inr (.inr (23, (some 0))), .inl 0, sJk, sJk] [] t Qp := by
  refine x_iload (pc' := 25) rfl rfl rfl ?_
  refine x_aload_n (pc' := 26) rfl rfl rfl rfl rfl ?_
  refine x_alen (pc' := 27) (N := 7) rfl rfl rfl (z_L e) (?_ : X _ _ _ (.inl 7 :: _) _ _)
  refine x_bipush (pc' := 29) rfl rfl ?_
  refine x_isub (pc' := 30) (z := 0) rfl rfl (by decide) ?_
  refine x_icmp (a' := 2944) (pc' := 33) (z := false) rfl rfl rfl (by decide) (fun h => by cases h) (fun _ => ?_)
  refine x_aload_n (pc' := 34) rfl rfl rfl rfl rfl ?_
  refine x_iload (pc' := 36) rfl rfl rfl ?_
  refine x_iald (pc' := 37) (N := 7) (x := (xs 0)) rfl rfl rfl (z_L e) (io_in (p := 0) (N := 7) (by decide) (by decide)) (Eq.trans (congrArg (sA t 29 0) (nn_io (p := 0) (by decide))) (z_A_29_0_0 e)) ?_
  refine x_bipush (pc' := 39) rfl rfl ?_
  refine x_iand (pc' := 40) (z := ((xs 0) &&& 63)) rfl rfl rfl ?_
  refine x_switch (pc' := 2938) rfl (by rw [hk]; decide) ?_
  refine x_iinc (pc' := 2941) (y := 7) (ls' := [_, _, _, _, _, _, _]) rfl rfl rfl rfl rfl ?_
  refine x_goto (pc' := 23) rfl rfl ?_
  refine x_iload (pc' := 25) rfl rfl rfl ?_
  refine x_aload_n (pc' := 26) rfl rfl rfl rfl rfl ?_
  refine x_alen (pc' := 27) (N := 7) rfl rfl rfl (z_L e) (?_ : X _ _ _ (.inl 7 :: _) _ _)
  refine x_bipush (pc' := 29) rfl rfl ?_
  refine x_isub (pc' := 30) (z := 0) rfl rfl (by decide) ?_
  refine x_icmp (a' := 2944) (pc' := 33) (z := true) rfl rfl rfl (by decide) (fun _ => ?_) (fun h => by cases h)
  refine x_iconst (pc' := 2945) rfl rfl ?_
  refine x_retz (z := true) rfl rfl ?_
  exact Qp_ok e (p := 0) (q := 0) rfl rfl rfl rfl
