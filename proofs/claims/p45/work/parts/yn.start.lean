/-! the start: what the constructors leave (from genyn.py) -/
def M00 : sM := (fun q k => if q = 1 then (if k < 3 then 100 else 0) else if q = 2 then (if k < 3 then 100 else 0) else if q = 3 then (if k < 3 then 999 else 0) else if q = 10 then -1 else 0, fun _ _ => false, fun _ => 0)
theorem zn_I {t : sT} {f o : Nat} {v : Int32} : sn (sIw t f o v) = sn t := rfl
theorem zn_R {t : sT} {f o : Nat} {v : Option Nat} : sn (sRw t f o v) = sn t := rfl
theorem zn_A {t : sT} {k o p : Nat} {v : Int32} : sn (sAw t k o p v) = sn t := rfl
theorem zn_E {t : sT} {k o p : Nat} {v : Nat × Option Nat} : sn (sEw t k o p v) = sn t := rfl
theorem zn_new {t : sT} {k w : Nat} : sn (sNew t k w) = sn t + 1 := rfl
theorem zn_nwa {t : sT} {k n : Nat} : sn (sNwA t k n) = sn t + 1 := rfl
theorem zn_T0 {L : Nat} {xs : Nat → Int32} : sn (sT0 L xs) = 0 := rfl
theorem zw_I {t : sT} {f o : Nat} {v : Int32} : sw (sIw t f o v) = sw t := rfl
theorem zw_R {t : sT} {f o : Nat} {v : Option Nat} : sw (sRw t f o v) = sw t := rfl
theorem zw_A {t : sT} {k o p : Nat} {v : Int32} : sw (sAw t k o p v) = sw t := rfl
theorem zw_E {t : sT} {k o p : Nat} {v : Nat × Option Nat} : sw (sEw t k o p v) = sw t := rfl
theorem zw_new {t : sT} {k w : Nat} : sw (sNew t k w) = sw t + w := rfl
theorem zw_nwa {t : sT} {k n : Nat} : sw (sNwA t k n) = sw t + n := rfl
theorem zw_T0 {L : Nat} {xs : Nat → Int32} : sw (sT0 L xs) = 0 := rfl
set_option maxHeartbeats 4000000 in
set_option maxRecDepth 100000 in
theorem zn_T16 {L : Nat} {xs : Nat → Int32} : sn (T16 L xs) ≤ 1000 := by
  simp only [T16, T12, T11, T9, T8, T6, T5, T3, T1, zn_I, zn_R, zn_A, zn_E, zn_new, zn_nwa, zn_T0, Nat.reduceAdd, Nat.zero_add]
  decide
set_option maxHeartbeats 4000000 in
set_option maxRecDepth 100000 in
theorem zw_T16 {L : Nat} {xs : Nat → Int32} : sw (T16 L xs) ≤ 100000 := by
  simp only [T16, T12, T11, T9, T8, T6, T5, T3, T1, zw_I, zw_R, zw_A, zw_E, zw_new, zw_nwa, zw_T0, Nat.reduceAdd, Nat.zero_add]
  decide
section Syn
variable {t : sT} {L o p : Nat} {xs : Nat → Int32}
set_option maxRecDepth 100000 in
theorem st_I450 (e : t = T16 L xs) : sI t 450 o = 0 := by subst e; exact rfl
set_option maxRecDepth 100000 in
theorem st_I451 (e : t = T16 L xs) : sI t 451 o = 0 := by subst e; exact rfl
set_option maxRecDepth 100000 in
theorem st_I452 (e : t = T16 L xs) : sI t 452 o = 0 := by subst e; exact rfl
set_option maxRecDepth 100000 in
theorem st_I453 (e : t = T16 L xs) : sI t 453 o = 0 := by subst e; exact rfl
set_option maxRecDepth 100000 in
theorem st_I454 (e : t = T16 L xs) : sI t 454 o = 0 := by subst e; exact rfl
set_option maxRecDepth 100000 in
theorem st_I456 (e : t = T16 L xs) : sI t 456 o = 0 := by subst e; exact rfl
set_option maxRecDepth 100000 in
theorem st_I518 (e : t = T16 L xs) : sI t 518 o = 0 := by subst e; exact rfl
set_option maxRecDepth 100000 in
theorem st_I525 (e : t = T16 L xs) : sI t 525 o = 0 := by subst e; exact rfl
set_option maxRecDepth 100000 in
theorem st_I324 (e : t = T16 L xs) : sI t 324 o = 0 := by subst e; exact rfl
set_option maxRecDepth 100000 in
theorem st_I325 (e : t = T16 L xs) : sI t 325 o = 0 := by subst e; exact rfl
set_option maxRecDepth 100000 in
theorem st_I258 (e : t = T16 L xs) : sI t 258 o = 0 := by subst e; exact rfl
set_option maxRecDepth 100000 in
theorem st_I67_0 (e : t = T16 L xs) : sI t 67 0 = 0 := by subst e; exact rfl
set_option maxRecDepth 100000 in
theorem st_I67_1 (e : t = T16 L xs) : sI t 67 1 = 0 := by subst e; exact rfl
set_option maxRecDepth 100000 in
theorem st_I67_2 (e : t = T16 L xs) : sI t 67 2 = 0 := by subst e; exact rfl
set_option maxRecDepth 100000 in
theorem st_I67_3 (e : t = T16 L xs) : sI t 67 3 = 0 := by subst e; exact rfl
set_option maxRecDepth 100000 in
theorem st_I67_4 (e : t = T16 L xs) : sI t 67 4 = 0 := by subst e; exact rfl
set_option maxRecDepth 100000 in
theorem st_Z68 (e : t = T16 L xs) : sZ t 68 o = false := by subst e; exact rfl
set_option maxRecDepth 100000 in
theorem st_Z457 (e : t = T16 L xs) : sZ t 457 o = false := by subst e; exact rfl
set_option maxRecDepth 100000 in
theorem st_Z458 (e : t = T16 L xs) : sZ t 458 o = false := by subst e; exact rfl
set_option maxRecDepth 100000 in
theorem st_Z519 (e : t = T16 L xs) : sZ t 519 o = false := by subst e; exact rfl
set_option maxRecDepth 100000 in
theorem st_Z520 (e : t = T16 L xs) : sZ t 520 o = false := by subst e; exact rfl
set_option maxRecDepth 100000 in
theorem st_Z521 (e : t = T16 L xs) : sZ t 521 o = false := by subst e; exact rfl
set_option maxRecDepth 100000 in
theorem st_Z581 (e : t = T16 L xs) : sZ t 581 o = false := by subst e; exact rfl
set_option maxRecDepth 100000 in
theorem st_I129_0 (e : t = T16 L xs) : sI t 129 0 = 100 := by subst e; exact rfl
set_option maxRecDepth 100000 in
theorem st_I130_0 (e : t = T16 L xs) : sI t 130 0 = 100 := by subst e; exact rfl
set_option maxRecDepth 100000 in
theorem st_I131_0 (e : t = T16 L xs) : sI t 131 0 = 999 := by subst e; exact rfl
set_option maxRecDepth 100000 in
theorem st_I129_1 (e : t = T16 L xs) : sI t 129 1 = 100 := by subst e; exact rfl
set_option maxRecDepth 100000 in
theorem st_I130_1 (e : t = T16 L xs) : sI t 130 1 = 100 := by subst e; exact rfl
set_option maxRecDepth 100000 in
theorem st_I131_1 (e : t = T16 L xs) : sI t 131 1 = 999 := by subst e; exact rfl
set_option maxRecDepth 100000 in
theorem st_I129_2 (e : t = T16 L xs) : sI t 129 2 = 100 := by subst e; exact rfl
set_option maxRecDepth 100000 in
theorem st_I130_2 (e : t = T16 L xs) : sI t 130 2 = 100 := by subst e; exact rfl
set_option maxRecDepth 100000 in
theorem st_I131_2 (e : t = T16 L xs) : sI t 131 2 = 999 := by subst e; exact rfl
set_option maxRecDepth 100000 in
theorem st_P (e : t = T16 L xs) : sA t 20 o p = 0 := by subst e; exact rfl
set_option maxRecDepth 100000 in
theorem st_R833_0 (e : t = T16 L xs) : sR t 833 0 = some 0 := by subst e; exact rfl
set_option maxRecDepth 100000 in
theorem st_I834_0 (e : t = T16 L xs) : sI t 834 0 = 0 := by subst e; exact rfl
set_option maxRecDepth 100000 in
theorem st_R833_1 (e : t = T16 L xs) : sR t 833 1 = some 0 := by subst e; exact rfl
set_option maxRecDepth 100000 in
theorem st_I834_1 (e : t = T16 L xs) : sI t 834 1 = 0 := by subst e; exact rfl
set_option maxRecDepth 100000 in
theorem st_R833_2 (e : t = T16 L xs) : sR t 833 2 = some 0 := by subst e; exact rfl
set_option maxRecDepth 100000 in
theorem st_I834_2 (e : t = T16 L xs) : sI t 834 2 = 0 := by subst e; exact rfl
set_option maxRecDepth 100000 in
theorem st_N27 (e : t = T16 L xs) : sN t 27 0 = 0 := by subst e; exact rfl
set_option maxRecDepth 100000 in
theorem st_C8 (e : t = T16 L xs) : sC t 8 = 0 := by subst e; exact rfl
set_option maxRecDepth 100000 in
theorem st_C9 (e : t = T16 L xs) : sC t 9 = 0 := by subst e; exact rfl
set_option maxRecDepth 100000 in
theorem st_C27 (e : t = T16 L xs) : 0 < sC t 27 := by subst e; exact Nat.le_of_ble_eq_true rfl
set_option maxRecDepth 100000 in
theorem st_R69 (e : t = T16 L xs) : sR t 69 o = none := by subst e; exact rfl
set_option maxRecDepth 100000 in
theorem st_R70 (e : t = T16 L xs) : sR t 70 o = none := by subst e; exact rfl
set_option maxRecDepth 100000 in
theorem st_29 (e : t = T16 L xs) : sA t 29 0 p = xs p := by subst e; exact rfl
set_option maxRecDepth 100000 in
theorem st_N29 (e : t = T16 L xs) : sN t 29 0 = L := by subst e; exact rfl
theorem sm_z {q p : Nat} (h : ¬ q = 1 ∧ ¬ q = 2 ∧ ¬ q = 3 ∧ ¬ q = 10) : mA M00 q p = 0 := by
  show (if q = 1 then _ else if q = 2 then _ else if q = 3 then _ else if q = 10 then _ else 0) = 0
  rw [if_neg h.1, if_neg h.2.1, if_neg h.2.2.1, if_neg h.2.2.2]
theorem sm_A0 (_ : t = T16 L xs) : mA M00 0 p = 0 := sm_z (by decide)
theorem sm_A4 (_ : t = T16 L xs) : mA M00 4 p = 0 := sm_z (by decide)
theorem sm_A5 (_ : t = T16 L xs) : mA M00 5 p = 0 := sm_z (by decide)
theorem sm_A6 (_ : t = T16 L xs) : mA M00 6 p = 0 := sm_z (by decide)
theorem sm_A7 (_ : t = T16 L xs) : mA M00 7 p = 0 := sm_z (by decide)
theorem sm_A8 (_ : t = T16 L xs) : mA M00 8 p = 0 := sm_z (by decide)
theorem sm_A9 (_ : t = T16 L xs) : mA M00 9 p = 0 := sm_z (by decide)
theorem sm_A11 (_ : t = T16 L xs) : mA M00 11 p = 0 := sm_z (by decide)
theorem sm_A26 (_ : t = T16 L xs) : mA M00 26 p = 0 := sm_z (by decide)
theorem sm_B0 (_ : t = T16 L xs) : mB M00 0 p = false := rfl
theorem sm_B1 (_ : t = T16 L xs) : mB M00 1 p = false := rfl
theorem sm_B2 (_ : t = T16 L xs) : mB M00 2 p = false := rfl
theorem sm_A1_0 (_ : t = T16 L xs) : mA M00 1 0 = 100 := rfl
theorem sm_A2_0 (_ : t = T16 L xs) : mA M00 2 0 = 100 := rfl
theorem sm_A3_0 (_ : t = T16 L xs) : mA M00 3 0 = 999 := rfl
theorem sm_A1_1 (_ : t = T16 L xs) : mA M00 1 1 = 100 := rfl
theorem sm_A2_1 (_ : t = T16 L xs) : mA M00 2 1 = 100 := rfl
theorem sm_A3_1 (_ : t = T16 L xs) : mA M00 3 1 = 999 := rfl
theorem sm_A1_2 (_ : t = T16 L xs) : mA M00 1 2 = 100 := rfl
theorem sm_A2_2 (_ : t = T16 L xs) : mA M00 2 2 = 100 := rfl
theorem sm_A3_2 (_ : t = T16 L xs) : mA M00 3 2 = 999 := rfl
theorem sm_10 (_ : t = T16 L xs) : ∀ k, k < 30 → mA M00 10 k = -1 := fun k _ => rfl
theorem sm_I800 (_ : t = T16 L xs) : mI M00 800 = 0 := rfl
theorem sm_I801 (_ : t = T16 L xs) : mI M00 801 = 0 := rfl
theorem sm_I784 (_ : t = T16 L xs) : mI M00 784 = 0 := rfl
theorem sm_I785 (_ : t = T16 L xs) : mI M00 785 = 0 := rfl
theorem sm_I786 (_ : t = T16 L xs) : mI M00 786 = 0 := rfl
theorem st_Zr (e : t = T16 L xs) : Zr t := by
  have z0 : Zr (sT0 L xs) := fun o _ => ⟨rfl, fun _ => rfl⟩
  obtain ⟨f, r, t', h, h1⟩ := sub2_83 (L := L) (xs := xs) (Q := fun _ t' => t' = T12 L xs) rfl
  have z1 : Zr t' := Zr_run _ _ _ _ _ _ _ _ h (Zr_new z0)
  have e1 : t' = T12 L xs := h1
  have z2 : Zr (T12 L xs) := by rw [← e1]; exact z1
  subst e
  exact Zr_nwa (Zr_nwa z2)
set_option maxRecDepth 100000 in
theorem st_P0 (e : t = T16 L xs) : sA t 21 0 p = 0 := by subst e; exact rfl
set_option maxRecDepth 100000 in
theorem st_P1 (e : t = T16 L xs) : sA t 21 1 p = 0 := by subst e; exact rfl
theorem st_sn (e : t = T16 L xs) : sn t ≤ 1000 := by subst e; exact zn_T16
theorem st_sw (e : t = T16 L xs) : sw t ≤ 100000 := by subst e; exact zw_T16
theorem st_Cn (e : t = T16 L xs) : Cn t := by subst e; exact Cn_T16
theorem n_lt0 {P : Nat → Prop} : ∀ o, o < 0 → P o := fun o h => absurd h (Nat.not_lt_zero o)
theorem n_3 {P : Nat → Prop} (h0 : P 0) (h1 : P 1) (h2 : P 2) : ∀ o, o < 3 → P o
  | 0, _ => h0
  | 1, _ => h1
  | 2, _ => h2
  | k + 3, h => absurd h (by omega)
theorem n_5 {P : Nat → Prop} (h0 : P 0) (h1 : P 1) (h2 : P 2) (h3 : P 3) (h4 : P 4) : ∀ o, o < 5 → P o
  | 0, _ => h0
  | 1, _ => h1
  | 2, _ => h2
  | 3, _ => h3
  | 4, _ => h4
  | k + 5, h => absurd h (by omega)
theorem si_516 (e : t = T16 L xs) : ∀ o, o < 0 → sI t 516 o = mA M00 14 o := fun o h => absurd h (Nat.not_lt_zero o)
theorem si_523 (e : t = T16 L xs) : ∀ o, o < 0 → sI t 523 o = mA M00 15 o := fun o h => absurd h (Nat.not_lt_zero o)
theorem si_517 (e : t = T16 L xs) : ∀ o, o < 0 → sI t 517 o = mA M00 16 o := fun o h => absurd h (Nat.not_lt_zero o)
theorem si_525 (e : t = T16 L xs) : ∀ o, o < 0 → sI t 525 o = mA M00 18 o := fun o h => absurd h (Nat.not_lt_zero o)
theorem si_522 (e : t = T16 L xs) : ∀ o, o < 0 → sI t 522 o = mA M00 19 o := fun o h => absurd h (Nat.not_lt_zero o)
theorem si_518 (e : t = T16 L xs) : ∀ o, o < 0 → sI t 518 o = mA M00 20 o := fun o h => absurd h (Nat.not_lt_zero o)
theorem si_450 (e : t = T16 L xs) : ∀ o, o < 6 → sI t 450 o = mA M00 4 o := fun o _ => (st_I450 (o := o) e).trans (sm_A4 (p := o) e).symm
theorem si_451 (e : t = T16 L xs) : ∀ o, o < 6 → sI t 451 o = mA M00 5 o := fun o _ => (st_I451 (o := o) e).trans (sm_A5 (p := o) e).symm
theorem si_452 (e : t = T16 L xs) : ∀ o, o < 6 → sI t 452 o = mA M00 7 o := fun o _ => (st_I452 (o := o) e).trans (sm_A7 (p := o) e).symm
theorem si_453 (e : t = T16 L xs) : ∀ o, o < 6 → sI t 453 o = mA M00 8 o := fun o _ => (st_I453 (o := o) e).trans (sm_A8 (p := o) e).symm
theorem si_454 (e : t = T16 L xs) : ∀ o, o < 6 → sI t 454 o = mA M00 26 o := fun o _ => (st_I454 (o := o) e).trans (sm_A26 (p := o) e).symm
theorem si_456 (e : t = T16 L xs) : ∀ o, o < 6 → sI t 456 o = mA M00 9 o := fun o _ => (st_I456 (o := o) e).trans (sm_A9 (p := o) e).symm
theorem si_129 (e : t = T16 L xs) : ∀ o, o < 3 → sI t 129 o = mA M00 1 o := n_3 ((st_I129_0 e).trans (sm_A1_0 e).symm) ((st_I129_1 e).trans (sm_A1_1 e).symm) ((st_I129_2 e).trans (sm_A1_2 e).symm)
theorem si_130 (e : t = T16 L xs) : ∀ o, o < 3 → sI t 130 o = mA M00 2 o := n_3 ((st_I130_0 e).trans (sm_A2_0 e).symm) ((st_I130_1 e).trans (sm_A2_1 e).symm) ((st_I130_2 e).trans (sm_A2_2 e).symm)
theorem si_131 (e : t = T16 L xs) : ∀ o, o < 3 → sI t 131 o = mA M00 3 o := n_3 ((st_I131_0 e).trans (sm_A3_0 e).symm) ((st_I131_1 e).trans (sm_A3_1 e).symm) ((st_I131_2 e).trans (sm_A3_2 e).symm)
theorem si_67 (e : t = T16 L xs) : ∀ o, o < 5 → sI t 67 o = mA M00 0 o := n_5 ((st_I67_0 e).trans (sm_A0 (p := 0) e).symm) ((st_I67_1 e).trans (sm_A0 (p := 1) e).symm) ((st_I67_2 e).trans (sm_A0 (p := 2) e).symm) ((st_I67_3 e).trans (sm_A0 (p := 3) e).symm) ((st_I67_4 e).trans (sm_A0 (p := 4) e).symm)
theorem si_579 (e : t = T16 L xs) : ∀ o, o < 0 → sI t 579 o = mA M00 24 o := fun o h => absurd h (Nat.not_lt_zero o)
theorem si_580 (e : t = T16 L xs) : ∀ o, o < 0 → sI t 580 o = mA M00 25 o := fun o h => absurd h (Nat.not_lt_zero o)
theorem sz_515 (e : t = T16 L xs) : ∀ o, o < 0 → sZ t 515 o = mB M00 3 o := fun o h => absurd h (Nat.not_lt_zero o)
theorem sz_520 (e : t = T16 L xs) : ∀ o, o < 0 → sZ t 520 o = mB M00 4 o := fun o h => absurd h (Nat.not_lt_zero o)
theorem sz_519 (e : t = T16 L xs) : ∀ o, o < 0 → sZ t 519 o = mB M00 5 o := fun o h => absurd h (Nat.not_lt_zero o)
theorem sz_521 (e : t = T16 L xs) : ∀ o, o < 0 → sZ t 521 o = mB M00 6 o := fun o h => absurd h (Nat.not_lt_zero o)
theorem sz_457 (e : t = T16 L xs) : ∀ o, o < 6 → sZ t 457 o = mB M00 1 o := fun o _ => (st_Z457 (o := o) e).trans (sm_B1 (p := o) e).symm
theorem sz_458 (e : t = T16 L xs) : ∀ o, o < 6 → sZ t 458 o = mB M00 2 o := fun o _ => (st_Z458 (o := o) e).trans (sm_B2 (p := o) e).symm
theorem sz_68 (e : t = T16 L xs) : ∀ o, o < 5 → sZ t 68 o = mB M00 0 o := fun o _ => (st_Z68 (o := o) e).trans (sm_B0 (p := o) e).symm
theorem sz_581 (e : t = T16 L xs) : ∀ o, o < 0 → sZ t 581 o = mB M00 7 o := fun o h => absurd h (Nat.not_lt_zero o)
theorem st_rlI (e : t = T16 L xs) : rlI t M00 0 0 := List.forall_mem_cons.mpr ⟨si_516 e, List.forall_mem_cons.mpr ⟨si_523 e, List.forall_mem_cons.mpr ⟨si_517 e, List.forall_mem_cons.mpr ⟨si_525 e, List.forall_mem_cons.mpr ⟨si_522 e, List.forall_mem_cons.mpr ⟨si_518 e, List.forall_mem_cons.mpr ⟨si_450 e, List.forall_mem_cons.mpr ⟨si_451 e, List.forall_mem_cons.mpr ⟨si_452 e, List.forall_mem_cons.mpr ⟨si_453 e, List.forall_mem_cons.mpr ⟨si_454 e, List.forall_mem_cons.mpr ⟨si_456 e, List.forall_mem_cons.mpr ⟨si_129 e, List.forall_mem_cons.mpr ⟨si_130 e, List.forall_mem_cons.mpr ⟨si_131 e, List.forall_mem_cons.mpr ⟨si_67 e, List.forall_mem_cons.mpr ⟨si_579 e, List.forall_mem_cons.mpr ⟨si_580 e, fun _ h => absurd h List.not_mem_nil⟩⟩⟩⟩⟩⟩⟩⟩⟩⟩⟩⟩⟩⟩⟩⟩⟩⟩
theorem st_rlZ (e : t = T16 L xs) : rlZ t M00 0 0 := List.forall_mem_cons.mpr ⟨sz_515 e, List.forall_mem_cons.mpr ⟨sz_520 e, List.forall_mem_cons.mpr ⟨sz_519 e, List.forall_mem_cons.mpr ⟨sz_521 e, List.forall_mem_cons.mpr ⟨sz_457 e, List.forall_mem_cons.mpr ⟨sz_458 e, List.forall_mem_cons.mpr ⟨sz_68 e, List.forall_mem_cons.mpr ⟨sz_581 e, fun _ h => absurd h List.not_mem_nil⟩⟩⟩⟩⟩⟩⟩⟩
theorem st_rlS (e : t = T16 L xs) : rlS t M00 := List.forall_mem_cons.mpr ⟨(st_I324 (o := 0) e).trans (sm_I784 e).symm, List.forall_mem_cons.mpr ⟨(st_I325 (o := 0) e).trans (sm_I785 e).symm, List.forall_mem_cons.mpr ⟨(st_I258 (o := 0) e).trans (sm_I800 e).symm, fun _ h => absurd h List.not_mem_nil⟩⟩⟩
theorem st_rlP (e : t = T16 L xs) : rlP t M00 := ⟨fun m c _ _ => (st_P (o := m + 1) (p := c) e).trans (sm_A6 (p := 3 * m + c) e).symm, fun k _ => (st_P (o := 0) (p := k) e).trans (sm_A11 (p := k) e).symm⟩
theorem st_rlW : rlW t M00 0 := fun o h => absurd h (Nat.not_lt_zero o)
theorem st_Rl (e : t = T16 L xs) : Rl t M00 0 0 := ⟨st_rlI e, st_rlZ e, st_rlS e, st_rlP e, st_rlW⟩
theorem st_Ls0 {f : Nat → Nat} (e : t = T16 L xs) : Ls t 0 9 f 0 0 0 := ⟨st_R833_0 e, st_I834_0 e, st_N27 e, Nat.le_refl 0, st_C27 e, Iff.rfl, fun i h => absurd h (Nat.not_lt_zero i)⟩
theorem st_Ls1 {f : Nat → Nat} (e : t = T16 L xs) : Ls t 1 8 f 0 0 0 := ⟨st_R833_1 e, st_I834_1 e, st_N27 e, Nat.le_refl 0, st_C27 e, Iff.rfl, fun i h => absurd h (Nat.not_lt_zero i)⟩
theorem st_Ls2 {f : Nat → Nat} (e : t = T16 L xs) : Ls t 2 8 f 0 0 0 := ⟨st_R833_2 e, st_I834_2 e, st_N27 e, Nat.le_refl 0, st_C27 e, Iff.rfl, fun i h => absurd h (Nat.not_lt_zero i)⟩
theorem st_Ri (e : t = T16 L xs) : Ri M00 0 := ⟨sm_I786 e, Nat.zero_le _, fun k h => absurd h (Nat.not_lt_zero k), fun k h => absurd h (Nat.not_lt_zero k)⟩
theorem st_Ti (e : t = T16 L xs) : Ti M00 0 := ⟨sm_I801 e, (show 0 < 4096 by decide), fun k h => absurd h (Nat.not_lt_zero k)⟩
theorem st_Sf (e : t = T16 L xs) : Sf t M00 0 0 := ⟨st_Cn e, fun k h => absurd h (Nat.not_lt_zero k), fun k h => absurd h (Nat.not_lt_zero k), ⟨0, 0, st_Ls0 e, Nat.zero_le _⟩, ⟨0, 0, st_Ls1 e, Nat.zero_le _⟩, st_Ti e, st_C8 e, st_C9 e⟩
theorem st_rlC (e : t = T16 L xs) : rlC t M00 0 := fun b s _ => ⟨[], by
    cases s
    · exact st_R70 e
    · exact st_R69 e, List.Pairwise.nil, fun o => ⟨fun h => absurd h List.not_mem_nil, fun h => absurd h.1 (Nat.not_lt_zero o)⟩⟩
theorem st_LLd (e : t = T16 L xs) : LLd t (l3 0 0 0) (l3 0 0 200) (e3 []) 1000 100000 (fun _ => 0) (fun _ => 0) := by
  refine ⟨fun l hl => ?_, fun _ _ _ _ _ _ => rfl, Nat.le_trans (st_sn e) (Nat.le_add_right _ _), Nat.le_trans (st_sw e) (Nat.le_add_right _ _)⟩
  match l, hl with
  | 0, _ => exact ⟨st_Ls0 e, Nat.zero_le _, Nat.zero_le _⟩
  | 1, _ => exact ⟨st_Ls1 e, Nat.zero_le _, Nat.zero_le _⟩
  | 2, _ => exact ⟨st_Ls2 e, Nat.zero_le _, Nat.zero_le _⟩
theorem st_Fz (e : t = T16 L xs) : Fz t 0 0 := ⟨fun o _ => ⟨st_I518 e, st_I525 e, st_Z519 e, st_Z520 e, st_Z521 e⟩, fun k _ => st_Z581 e⟩
theorem st_LL (e : t = T16 L xs) : LL t 0 0 [] 1000 100000 := ⟨⟨fun _ => 0, fun _ => 0, st_LLd e⟩, st_Fz e⟩
theorem st_Wc (e : t = T16 L xs) : Wc t M00 0 0 [] 1000 100000 := ⟨st_Rl e, st_Sf e, st_Ri e, st_rlC e, st_LL e, Nat.zero_le _⟩
/-! what the head of the loop keeps, at the start -/
theorem st_tN (e : t = T16 L xs) : tN M00 = 0 := by unfold tN; rw [sm_I801 e]; rfl
theorem st_stN (e : t = T16 L xs) : stN M00 = 0 := by unfold stN; rw [sm_I800 e]; rfl
theorem st_Iv (e : t = T16 L xs) : Iv M00 0 := by
  refine ⟨fun k h => absurd h (Nat.not_lt_zero k), ?_, ?_, ?_, fun k h => absurd h (Nat.not_lt_zero k), Nat.zero_le _⟩
  · rw [st_stN e]; exact sm_I800 e
  · rw [st_stN e]; exact Nat.le_refl 0
  · have h : (0 : Int32) ≤ 999 := by decide
    exact n_3 (by rw [sm_A3_0 e]; exact h) (by rw [sm_A3_1 e]; exact h) (by rw [sm_A3_2 e]; exact h)
theorem st_Sd : Sd M00 0 := fun x _ hx => absurd hx (Nat.not_lt_zero x)
theorem st_Qn : Qn M00 0 := fun k h => absurd h (Nat.not_lt_zero k)
theorem st_Kv (e : t = T16 L xs) : Kv M00 0 := ⟨⟨st_Iv e, st_Sd⟩, st_Ri e, st_Qn, fun k h => absurd h (Nat.not_lt_zero k), 0, sm_I801 e, (show 0 < 4096 by decide)⟩
theorem st_z {x : Int32} (h : x = 0) {a b : Int} (ha : a ≤ 0) (hb : 0 ≤ b) : a ≤ x.toInt ∧ x.toInt ≤ b := by
  have e0 : (0 : Int32).toInt = 0 := rfl
  rw [h, e0]; exact ⟨ha, hb⟩
theorem st_Po {K : Nat} (e : t = T16 L xs) : Po M00 K := fun c hc => by
  have h1 : ∀ k, k < 6 → px M00 c k = (fun _ => (0 : Int)) k := fun k _ => by
    have h2 := sm_A6 (p := (3 * k) + c) e
    have h3 : (0 : Int32).toInt = 0 := rfl
    show (mA M00 6 ((3 * k) + c)).toInt = 0
    rw [h2, h3]
  rw [s6_cg h1, n6_cg h1]
  exact ⟨rfl, Nat.zero_le _⟩
theorem st_Tq (e : t = T16 L xs) : Tq M00 none := fun x hx => by
  rw [st_tN e] at hx
  exact absurd hx (Nat.not_lt_zero x)
theorem st_Qa (e : t = T16 L xs) : Qa M00 0 := fun m b hm hb => ⟨none, sm_10 e _ (by omega), fun q h => (by cases h), fun k hk => absurd hk (Nat.not_lt_zero k)⟩
theorem st_Hs (e : t = T16 L xs) : Hs M00 := fun k _ => st_z (sm_A7 e) (by decide) (by decide)
theorem st_M11 (e : t = T16 L xs) : M11 M00 := fun q _ => st_z (sm_A11 e) (by decide) (by decide)
theorem st_Ha (e : t = T16 L xs) : Ha M00 0 0 := ⟨st_Qa e, st_Hs e, (st_z (sm_I784 e) (Int.le_refl 0) (Int.le_refl 0)).1, st_M11 e, st_Po e, st_Tq e⟩
theorem st_Hv (e : t = T16 L xs) : Hv M00 0 0 := ⟨st_Kv e, st_Ha e, fun k h => absurd h (Nat.not_lt_zero k), by rw [st_tN e]; exact Nat.zero_le _⟩
/-- the law's start -/
theorem st_La (e : t = T16 L xs) : La t M00 0 0 1000 100000 xs L (fun _ => 0) 0 0 0 :=
  ⟨⟨[], st_Wc e⟩, st_Zr e, m0_of rfl, fun p => st_29 (p := p) e, st_N29 e, fun k _ => st_P0 (p := k) e, st_P1 (p := 0) e, st_P1 (p := 1) e, st_P1 (p := 2) e⟩
theorem st_ou : ouN M00 = 0 := rfl
theorem st_Vw (e : t = T16 L xs) : Vw M00 0 0 (fun _ => 0) := by
  have e0 : (0 : Int32).toInt = 0 := rfl
  have hz : ∀ q p, (¬ q = 1 ∧ ¬ q = 2 ∧ ¬ q = 3 ∧ ¬ q = 10) → (mA M00 q p).toInt = 0 := fun q p h => by rw [sm_z h, e0]
  have ec : ∀ k, k < 6 → cx M00 k = (fun _ => (0 : Int)) k := fun k _ => hz 5 k (by decide)
  refine ⟨st_Hv e, ⟨fun c hc => ?_, fun m c hm hc => ?_, st_Po e, fun _ => ?_, ?_, fun m hm h => (by cases h), fun x hx => ?_, fun m hm => ?_⟩, fun k h => absurd h (Nat.not_lt_zero k), fun k h => absurd h (Nat.not_lt_zero k), fun k h => absurd h (Nat.not_lt_zero k), ⟨fun q _ => ?_, fun m _ => ?_, fun m _ => ?_⟩, ?_⟩
  · have h1 : mA M00 1 c = 100 := by
      show (if c < 3 then (100 : Int32) else 0) = 100
      exact if_pos hc
    have h2 : (100 : Int32).toInt = 100 := rfl
    rw [h1, h2]; exact ⟨by decide, by decide⟩
  · rw [st_tN e, sm_A6 e]; rfl
  · rw [s6_cg ec]; rfl
  · rw [n6_cg ec]; exact Nat.zero_le _
  · rw [st_tN e] at hx; exact absurd hx (Nat.not_lt_zero x)
  · rw [hz 4 m (by decide)]; exact ⟨by decide, by decide⟩
  · rw [hz 11 q (by decide)]; exact ⟨by decide, by decide⟩
  · rw [hz 8 m (by decide)]; exact Int.le_refl _
  · rw [hz 9 m (by decide)]; exact ⟨by decide, by decide⟩
  · unfold vU
    rw [sm_I785 e, e0, st_ou]; exact ⟨by decide, by decide⟩
end Syn

