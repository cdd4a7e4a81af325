/-! the start: what the constructors leave (printed by gen99zs.py) -/
theorem zn_I {t : sT} {f o : Nat} {v : Int32} : sn (sIw t f o v) = sn t := rfl
theorem zn_R {t : sT} {f o : Nat} {v : Option Nat} : sn (sRw t f o v) = sn t := rfl
theorem zn_A {t : sT} {k o p : Nat} {v : Int32} : sn (sAw t k o p v) = sn t := rfl
theorem zn_E {t : sT} {k o p : Nat} {v : Nat × Option Nat} : sn (sEw t k o p v) = sn t := rfl
theorem zn_new {t : sT} {k w : Nat} : sn (sNew t k w) = sn t + 1 := rfl
theorem zn_nwa {t : sT} {k n : Nat} : sn (sNwA t k n) = sn t + 1 := rfl
theorem zn_T0 {L : Nat} {xs : Nat → Int32} : sn (sT0 L xs) = 0 := rfl
theorem zw_I {t : sT} {f o : Nat} {v : Int32} : sw (sIw t f o v) = sw t := rfl
theorem zw_R {t : sT} {f o : Nat} {v : Option Nat} : sw (sRw t f o v) = sw t := rfl
theorem zw_A {t : sT} {k o p : Nat} {v : Int32} : sw (sAw t k o p v) = sw t := rfl
theorem zw_E {t : sT} {k o p : Nat} {v : Nat × Option Nat} : sw (sEw t k o p v) = sw t := rfl
theorem zw_new {t : sT} {k w : Nat} : sw (sNew t k w) = sw t + w := rfl
theorem zw_nwa {t : sT} {k n : Nat} : sw (sNwA t k n) = sw t + n := rfl
theorem zw_T0 {L : Nat} {xs : Nat → Int32} : sw (sT0 L xs) = 0 := rfl
set_option maxHeartbeats 4000000 in
set_option maxRecDepth 100000 in
theorem zn_T16 {L : Nat} {xs : Nat → Int32} : sn (T16 L xs) ≤ 1000 := by
  simp only [T16, T15, T13, T12, T11, T9, T8, T6, T5, T3, T1, zn_I, zn_R, zn_A, zn_E, zn_new, zn_nwa, zn_T0, Nat.reduceAdd, Nat.zero_add]
  decide
set_option maxHeartbeats 4000000 in
set_option maxRecDepth 100000 in
theorem zw_T16 {L : Nat} {xs : Nat → Int32} : sw (T16 L xs) ≤ 100000 := by
  simp only [T16, T15, T13, T12, T11, T9, T8, T6, T5, T3, T1, zw_I, zw_R, zw_A, zw_E, zw_new, zw_nwa, zw_T0, Nat.reduceAdd, Nat.zero_add]
  decide
section S99zs
variable {L o p : Nat} {xs : Nat → Int32}
set_option maxRecDepth 100000 in
theorem st_I67 : sI (T16 L xs) 67 o = 0 := rfl
set_option maxRecDepth 100000 in
theorem st_I450 : sI (T16 L xs) 450 o = 0 := rfl
set_option maxRecDepth 100000 in
theorem st_I451 : sI (T16 L xs) 451 o = 0 := rfl
set_option maxRecDepth 100000 in
theorem st_I452 : sI (T16 L xs) 452 o = 0 := rfl
set_option maxRecDepth 100000 in
theorem st_I453 : sI (T16 L xs) 453 o = 0 := rfl
set_option maxRecDepth 100000 in
theorem st_I454 : sI (T16 L xs) 454 o = 0 := rfl
set_option maxRecDepth 100000 in
theorem st_I456 : sI (T16 L xs) 456 o = 0 := rfl
set_option maxRecDepth 100000 in
theorem st_I518 : sI (T16 L xs) 518 o = 0 := rfl
set_option maxRecDepth 100000 in
theorem st_I525 : sI (T16 L xs) 525 o = 0 := rfl
set_option maxRecDepth 100000 in
theorem st_I324 : sI (T16 L xs) 324 o = 0 := rfl
set_option maxRecDepth 100000 in
theorem st_I325 : sI (T16 L xs) 325 o = 0 := rfl
set_option maxRecDepth 100000 in
theorem st_I258 : sI (T16 L xs) 258 o = 0 := rfl
set_option maxRecDepth 100000 in
theorem st_I800 : sI (T16 L xs) 800 0 = 0 := rfl
set_option maxRecDepth 100000 in
theorem st_I801 : sI (T16 L xs) 801 0 = 0 := rfl
set_option maxRecDepth 100000 in
theorem st_I784 : sI (T16 L xs) 784 0 = 0 := rfl
set_option maxRecDepth 100000 in
theorem st_I785 : sI (T16 L xs) 785 0 = 0 := rfl
set_option maxRecDepth 100000 in
theorem st_I786 : sI (T16 L xs) 786 0 = 0 := rfl
set_option maxRecDepth 100000 in
theorem st_Z68 : sZ (T16 L xs) 68 o = false := rfl
set_option maxRecDepth 100000 in
theorem st_Z457 : sZ (T16 L xs) 457 o = false := rfl
set_option maxRecDepth 100000 in
theorem st_Z458 : sZ (T16 L xs) 458 o = false := rfl
set_option maxRecDepth 100000 in
theorem st_Z519 : sZ (T16 L xs) 519 o = false := rfl
set_option maxRecDepth 100000 in
theorem st_Z520 : sZ (T16 L xs) 520 o = false := rfl
set_option maxRecDepth 100000 in
theorem st_Z521 : sZ (T16 L xs) 521 o = false := rfl
set_option maxRecDepth 100000 in
theorem st_Z581 : sZ (T16 L xs) 581 o = false := rfl
set_option maxRecDepth 100000 in
theorem st_A0 : sA (T16 L xs) 21 0 p = 0 := rfl
set_option maxRecDepth 100000 in
theorem st_A4 : sA (T16 L xs) 21 4 p = 0 := rfl
set_option maxRecDepth 100000 in
theorem st_A5 : sA (T16 L xs) 21 5 p = 0 := rfl
set_option maxRecDepth 100000 in
theorem st_A6 : sA (T16 L xs) 21 6 p = 0 := rfl
set_option maxRecDepth 100000 in
theorem st_A7 : sA (T16 L xs) 21 7 p = 0 := rfl
set_option maxRecDepth 100000 in
theorem st_A8 : sA (T16 L xs) 21 8 p = 0 := rfl
set_option maxRecDepth 100000 in
theorem st_A9 : sA (T16 L xs) 21 9 p = 0 := rfl
set_option maxRecDepth 100000 in
theorem st_A11 : sA (T16 L xs) 21 11 p = 0 := rfl
set_option maxRecDepth 100000 in
theorem st_A26 : sA (T16 L xs) 21 26 p = 0 := rfl
set_option maxRecDepth 100000 in
theorem st_B0 : sB (T16 L xs) 22 0 p = false := rfl
set_option maxRecDepth 100000 in
theorem st_B1 : sB (T16 L xs) 22 1 p = false := rfl
set_option maxRecDepth 100000 in
theorem st_B2 : sB (T16 L xs) 22 2 p = false := rfl
set_option maxRecDepth 100000 in
theorem st_I129_0 : sI (T16 L xs) 129 0 = 100 := rfl
set_option maxRecDepth 100000 in
theorem st_A1_0 : sA (T16 L xs) 21 1 0 = 100 := rfl
set_option maxRecDepth 100000 in
theorem st_I130_0 : sI (T16 L xs) 130 0 = 100 := rfl
set_option maxRecDepth 100000 in
theorem st_A2_0 : sA (T16 L xs) 21 2 0 = 100 := rfl
set_option maxRecDepth 100000 in
theorem st_I131_0 : sI (T16 L xs) 131 0 = 999 := rfl
set_option maxRecDepth 100000 in
theorem st_A3_0 : sA (T16 L xs) 21 3 0 = 999 := rfl
set_option maxRecDepth 100000 in
theorem st_I129_1 : sI (T16 L xs) 129 1 = 100 := rfl
set_option maxRecDepth 100000 in
theorem st_A1_1 : sA (T16 L xs) 21 1 1 = 100 := rfl
set_option maxRecDepth 100000 in
theorem st_I130_1 : sI (T16 L xs) 130 1 = 100 := rfl
set_option maxRecDepth 100000 in
theorem st_A2_1 : sA (T16 L xs) 21 2 1 = 100 := rfl
set_option maxRecDepth 100000 in
theorem st_I131_1 : sI (T16 L xs) 131 1 = 999 := rfl
set_option maxRecDepth 100000 in
theorem st_A3_1 : sA (T16 L xs) 21 3 1 = 999 := rfl
set_option maxRecDepth 100000 in
theorem st_I129_2 : sI (T16 L xs) 129 2 = 100 := rfl
set_option maxRecDepth 100000 in
theorem st_A1_2 : sA (T16 L xs) 21 1 2 = 100 := rfl
set_option maxRecDepth 100000 in
theorem st_I130_2 : sI (T16 L xs) 130 2 = 100 := rfl
set_option maxRecDepth 100000 in
theorem st_A2_2 : sA (T16 L xs) 21 2 2 = 100 := rfl
set_option maxRecDepth 100000 in
theorem st_I131_2 : sI (T16 L xs) 131 2 = 999 := rfl
set_option maxRecDepth 100000 in
theorem st_A3_2 : sA (T16 L xs) 21 3 2 = 999 := rfl
set_option maxRecDepth 100000 in
theorem st_A10_0 : sA (T16 L xs) 21 10 0 = -1 := rfl
set_option maxRecDepth 100000 in
theorem st_A10_1 : sA (T16 L xs) 21 10 1 = -1 := rfl
set_option maxRecDepth 100000 in
theorem st_A10_2 : sA (T16 L xs) 21 10 2 = -1 := rfl
set_option maxRecDepth 100000 in
theorem st_A10_3 : sA (T16 L xs) 21 10 3 = -1 := rfl
set_option maxRecDepth 100000 in
theorem st_A10_4 : sA (T16 L xs) 21 10 4 = -1 := rfl
set_option maxRecDepth 100000 in
theorem st_A10_5 : sA (T16 L xs) 21 10 5 = -1 := rfl
set_option maxRecDepth 100000 in
theorem st_A10_6 : sA (T16 L xs) 21 10 6 = -1 := rfl
set_option maxRecDepth 100000 in
theorem st_A10_7 : sA (T16 L xs) 21 10 7 = -1 := rfl
set_option maxRecDepth 100000 in
theorem st_A10_8 : sA (T16 L xs) 21 10 8 = -1 := rfl
set_option maxRecDepth 100000 in
theorem st_A10_9 : sA (T16 L xs) 21 10 9 = -1 := rfl
set_option maxRecDepth 100000 in
theorem st_A10_10 : sA (T16 L xs) 21 10 10 = -1 := rfl
set_option maxRecDepth 100000 in
theorem st_A10_11 : sA (T16 L xs) 21 10 11 = -1 := rfl
set_option maxRecDepth 100000 in
theorem st_A10_12 : sA (T16 L xs) 21 10 12 = -1 := rfl
set_option maxRecDepth 100000 in
theorem st_A10_13 : sA (T16 L xs) 21 10 13 = -1 := rfl
set_option maxRecDepth 100000 in
theorem st_A10_14 : sA (T16 L xs) 21 10 14 = -1 := rfl
set_option maxRecDepth 100000 in
theorem st_A10_15 : sA (T16 L xs) 21 10 15 = -1 := rfl
set_option maxRecDepth 100000 in
theorem st_A10_16 : sA (T16 L xs) 21 10 16 = -1 := rfl
set_option maxRecDepth 100000 in
theorem st_A10_17 : sA (T16 L xs) 21 10 17 = -1 := rfl
set_option maxRecDepth 100000 in
theorem st_A10_18 : sA (T16 L xs) 21 10 18 = -1 := rfl
set_option maxRecDepth 100000 in
theorem st_A10_19 : sA (T16 L xs) 21 10 19 = -1 := rfl
set_option maxRecDepth 100000 in
theorem st_A10_20 : sA (T16 L xs) 21 10 20 = -1 := rfl
set_option maxRecDepth 100000 in
theorem st_A10_21 : sA (T16 L xs) 21 10 21 = -1 := rfl
set_option maxRecDepth 100000 in
theorem st_A10_22 : sA (T16 L xs) 21 10 22 = -1 := rfl
set_option maxRecDepth 100000 in
theorem st_A10_23 : sA (T16 L xs) 21 10 23 = -1 := rfl
set_option maxRecDepth 100000 in
theorem st_A10_24 : sA (T16 L xs) 21 10 24 = -1 := rfl
set_option maxRecDepth 100000 in
theorem st_A10_25 : sA (T16 L xs) 21 10 25 = -1 := rfl
set_option maxRecDepth 100000 in
theorem st_A10_26 : sA (T16 L xs) 21 10 26 = -1 := rfl
set_option maxRecDepth 100000 in
theorem st_A10_27 : sA (T16 L xs) 21 10 27 = -1 := rfl
set_option maxRecDepth 100000 in
theorem st_A10_28 : sA (T16 L xs) 21 10 28 = -1 := rfl
set_option maxRecDepth 100000 in
theorem st_A10_29 : sA (T16 L xs) 21 10 29 = -1 := rfl
set_option maxRecDepth 100000 in
theorem st_P : sA (T16 L xs) 20 o p = 0 := rfl
set_option maxRecDepth 100000 in
theorem st_R833_0 : sR (T16 L xs) 833 0 = some 0 := rfl
set_option maxRecDepth 100000 in
theorem st_I834_0 : sI (T16 L xs) 834 0 = 0 := rfl
set_option maxRecDepth 100000 in
theorem st_R833_1 : sR (T16 L xs) 833 1 = some 0 := rfl
set_option maxRecDepth 100000 in
theorem st_I834_1 : sI (T16 L xs) 834 1 = 0 := rfl
set_option maxRecDepth 100000 in
theorem st_R833_2 : sR (T16 L xs) 833 2 = some 0 := rfl
set_option maxRecDepth 100000 in
theorem st_I834_2 : sI (T16 L xs) 834 2 = 0 := rfl
set_option maxRecDepth 100000 in
theorem st_N27 : sN (T16 L xs) 27 0 = 0 := rfl
set_option maxRecDepth 100000 in
theorem st_C8 : sC (T16 L xs) 8 = 0 := rfl
set_option maxRecDepth 100000 in
theorem st_C9 : sC (T16 L xs) 9 = 0 := rfl
set_option maxRecDepth 100000 in
theorem st_C27 : 0 < sC (T16 L xs) 27 := Nat.le_of_ble_eq_true rfl
set_option maxRecDepth 100000 in
theorem st_R69 : sR (T16 L xs) 69 o = none := rfl
set_option maxRecDepth 100000 in
theorem st_R70 : sR (T16 L xs) 70 o = none := rfl
set_option maxRecDepth 100000 in
theorem st_29 : sA (T16 L xs) 29 0 p = xs p := rfl
set_option maxRecDepth 100000 in
theorem st_N29 : sN (T16 L xs) 29 0 = L := rfl
theorem sm_A0 : mA (rp (T16 L xs)) 0 p = 0 := st_A0
theorem sm_A4 : mA (rp (T16 L xs)) 4 p = 0 := st_A4
theorem sm_A5 : mA (rp (T16 L xs)) 5 p = 0 := st_A5
theorem sm_A6 : mA (rp (T16 L xs)) 6 p = 0 := st_A6
theorem sm_A7 : mA (rp (T16 L xs)) 7 p = 0 := st_A7
theorem sm_A8 : mA (rp (T16 L xs)) 8 p = 0 := st_A8
theorem sm_A9 : mA (rp (T16 L xs)) 9 p = 0 := st_A9
theorem sm_A11 : mA (rp (T16 L xs)) 11 p = 0 := st_A11
theorem sm_A26 : mA (rp (T16 L xs)) 26 p = 0 := st_A26
theorem sm_B0 : mB (rp (T16 L xs)) 0 p = false := st_B0
theorem sm_B1 : mB (rp (T16 L xs)) 1 p = false := st_B1
theorem sm_B2 : mB (rp (T16 L xs)) 2 p = false := st_B2
theorem sm_A1_0 : mA (rp (T16 L xs)) 1 0 = 100 := st_A1_0
theorem sm_A2_0 : mA (rp (T16 L xs)) 2 0 = 100 := st_A2_0
theorem sm_A3_0 : mA (rp (T16 L xs)) 3 0 = 999 := st_A3_0
theorem sm_A1_1 : mA (rp (T16 L xs)) 1 1 = 100 := st_A1_1
theorem sm_A2_1 : mA (rp (T16 L xs)) 2 1 = 100 := st_A2_1
theorem sm_A3_1 : mA (rp (T16 L xs)) 3 1 = 999 := st_A3_1
theorem sm_A1_2 : mA (rp (T16 L xs)) 1 2 = 100 := st_A1_2
theorem sm_A2_2 : mA (rp (T16 L xs)) 2 2 = 100 := st_A2_2
theorem sm_A3_2 : mA (rp (T16 L xs)) 3 2 = 999 := st_A3_2
theorem sm_10 : ∀ k, k < 30 → mA (rp (T16 L xs)) 10 k = -1
  | 0, _ => st_A10_0
  | 1, _ => st_A10_1
  | 2, _ => st_A10_2
  | 3, _ => st_A10_3
  | 4, _ => st_A10_4
  | 5, _ => st_A10_5
  | 6, _ => st_A10_6
  | 7, _ => st_A10_7
  | 8, _ => st_A10_8
  | 9, _ => st_A10_9
  | 10, _ => st_A10_10
  | 11, _ => st_A10_11
  | 12, _ => st_A10_12
  | 13, _ => st_A10_13
  | 14, _ => st_A10_14
  | 15, _ => st_A10_15
  | 16, _ => st_A10_16
  | 17, _ => st_A10_17
  | 18, _ => st_A10_18
  | 19, _ => st_A10_19
  | 20, _ => st_A10_20
  | 21, _ => st_A10_21
  | 22, _ => st_A10_22
  | 23, _ => st_A10_23
  | 24, _ => st_A10_24
  | 25, _ => st_A10_25
  | 26, _ => st_A10_26
  | 27, _ => st_A10_27
  | 28, _ => st_A10_28
  | 29, _ => st_A10_29
  | k + 30, h => absurd h (by omega)
theorem sm_I800 : mI (rp (T16 L xs)) 800 = 0 := st_I800
theorem sm_I801 : mI (rp (T16 L xs)) 801 = 0 := st_I801
theorem sm_I784 : mI (rp (T16 L xs)) 784 = 0 := st_I784
theorem sm_I785 : mI (rp (T16 L xs)) 785 = 0 := st_I785
theorem sm_I786 : mI (rp (T16 L xs)) 786 = 0 := st_I786
theorem st_Zr : Zr (T16 L xs) := by
  have z0 : Zr (sT0 L xs) := fun o _ => ⟨rfl, fun _ => rfl⟩
  obtain ⟨f, r, t', h, e⟩ := sub2_83 (L := L) (xs := xs) (Q := fun _ t' => t' = T12 L xs) rfl
  have z1 := Zr_run _ _ _ _ _ _ _ _ h (Zr_new z0)
  rw [e] at z1
  obtain ⟨f, r, t', h, e⟩ := sub14_142 (L := L) (xs := xs) (Q := fun _ t' => t' = T15 L xs) rfl
  have z2 := Zr_run _ _ _ _ _ _ _ _ h (Zr_new z1)
  rw [e] at z2
  exact Zr_nwa z2
theorem n_lt0 {P : Nat → Prop} : ∀ o, o < 0 → P o := fun o h => absurd h (Nat.not_lt_zero o)
theorem n_3 {P : Nat → Prop} (h0 : P 0) (h1 : P 1) (h2 : P 2) : ∀ o, o < 3 → P o
  | 0, _ => h0
  | 1, _ => h1
  | 2, _ => h2
  | k + 3, h => absurd h (by omega)
theorem st_I (hF : ∀ o, sI (T16 L xs) p o = 0) {q c : Nat} (hq : ∀ o, mA (rp (T16 L xs)) q o = 0) : ∀ o, o < c → sI (T16 L xs) p o = mA (rp (T16 L xs)) q o := fun o _ => (hF o).trans (hq o).symm
theorem st_Z (hF : ∀ o, sZ (T16 L xs) p o = false) {q c : Nat} (hq : ∀ o, mB (rp (T16 L xs)) q o = false) : ∀ o, o < c → sZ (T16 L xs) p o = mB (rp (T16 L xs)) q o := fun o _ => (hF o).trans (hq o).symm
theorem st_rlI : rlI (T16 L xs) (rp (T16 L xs)) 0 0 := List.forall_mem_cons.mpr ⟨n_lt0, List.forall_mem_cons.mpr ⟨n_lt0, List.forall_mem_cons.mpr ⟨n_lt0, List.forall_mem_cons.mpr ⟨n_lt0, List.forall_mem_cons.mpr ⟨n_lt0, List.forall_mem_cons.mpr ⟨n_lt0, List.forall_mem_cons.mpr ⟨st_I (fun _ => st_I450) (fun _ => sm_A4), List.forall_mem_cons.mpr ⟨st_I (fun _ => st_I451) (fun _ => sm_A5), List.forall_mem_cons.mpr ⟨st_I (fun _ => st_I452) (fun _ => sm_A7), List.forall_mem_cons.mpr ⟨st_I (fun _ => st_I453) (fun _ => sm_A8), List.forall_mem_cons.mpr ⟨st_I (fun _ => st_I454) (fun _ => sm_A26), List.forall_mem_cons.mpr ⟨st_I (fun _ => st_I456) (fun _ => sm_A9), List.forall_mem_cons.mpr ⟨n_3 (st_I129_0.trans sm_A1_0.symm) (st_I129_1.trans sm_A1_1.symm) (st_I129_2.trans sm_A1_2.symm), List.forall_mem_cons.mpr ⟨n_3 (st_I130_0.trans sm_A2_0.symm) (st_I130_1.trans sm_A2_1.symm) (st_I130_2.trans sm_A2_2.symm), List.forall_mem_cons.mpr ⟨n_3 (st_I131_0.trans sm_A3_0.symm) (st_I131_1.trans sm_A3_1.symm) (st_I131_2.trans sm_A3_2.symm), List.forall_mem_cons.mpr ⟨st_I (fun _ => st_I67) (fun _ => sm_A0), List.forall_mem_cons.mpr ⟨n_lt0, List.forall_mem_cons.mpr ⟨n_lt0, fun _ h => absurd h List.not_mem_nil⟩⟩⟩⟩⟩⟩⟩⟩⟩⟩⟩⟩⟩⟩⟩⟩⟩⟩
theorem st_rlZ : rlZ (T16 L xs) (rp (T16 L xs)) 0 0 := List.forall_mem_cons.mpr ⟨n_lt0, List.forall_mem_cons.mpr ⟨n_lt0, List.forall_mem_cons.mpr ⟨n_lt0, List.forall_mem_cons.mpr ⟨n_lt0, List.forall_mem_cons.mpr ⟨st_Z (fun _ => st_Z457) (fun _ => sm_B1), List.forall_mem_cons.mpr ⟨st_Z (fun _ => st_Z458) (fun _ => sm_B2), List.forall_mem_cons.mpr ⟨fun _ _ => st_Z68.trans sm_B0.symm, List.forall_mem_cons.mpr ⟨n_lt0, fun _ h => absurd h List.not_mem_nil⟩⟩⟩⟩⟩⟩⟩⟩
theorem st_rlS : rlS (T16 L xs) (rp (T16 L xs)) := List.forall_mem_cons.mpr ⟨(st_I324 (o := 0)).trans sm_I784.symm, List.forall_mem_cons.mpr ⟨(st_I325 (o := 0)).trans sm_I785.symm, List.forall_mem_cons.mpr ⟨(st_I258 (o := 0)).trans sm_I800.symm, fun _ h => absurd h List.not_mem_nil⟩⟩⟩
theorem st_Rl : Rl (T16 L xs) (rp (T16 L xs)) 0 0 := ⟨st_rlI, st_rlZ, st_rlS, ⟨fun m c _ _ => st_P.trans sm_A6.symm, fun k _ => st_P.trans sm_A11.symm⟩, n_lt0⟩
theorem st_Ls0 : Ls (T16 L xs) 0 9 (fun i => i) 0 0 0 := ⟨st_R833_0, st_I834_0, st_N27, Nat.le_refl 0, st_C27, Iff.rfl, n_lt0⟩
theorem st_Ls1 : Ls (T16 L xs) 1 8 (fun i => i) 0 0 0 := ⟨st_R833_1, st_I834_1, st_N27, Nat.le_refl 0, st_C27, Iff.rfl, n_lt0⟩
theorem st_Ls2 : Ls (T16 L xs) 2 8 (fun i => ([] : List Nat).getD i 0) 0 0 0 := ⟨st_R833_2, st_I834_2, st_N27, Nat.le_refl 0, st_C27, Iff.rfl, n_lt0⟩
theorem st_Ri : Ri (rp (T16 L xs)) 0 := ⟨sm_I786, Nat.zero_le _, n_lt0, n_lt0⟩
theorem st_Ti : Ti (rp (T16 L xs)) 0 := ⟨sm_I801, by decide, n_lt0⟩
theorem st_Sf : Sf (T16 L xs) (rp (T16 L xs)) 0 0 := ⟨Cn_T16, n_lt0, n_lt0, ⟨0, 0, st_Ls0, Nat.zero_le _⟩, ⟨0, 0, st_Ls1, Nat.zero_le _⟩, st_Ti, st_C8, st_C9⟩
theorem st_rlC : rlC (T16 L xs) (rp (T16 L xs)) 0 := fun b s _ => ⟨[], by cases s; exact st_R70; exact st_R69, List.Pairwise.nil, fun o => ⟨fun h => absurd h List.not_mem_nil, fun h => absurd h.1 (Nat.not_lt_zero o)⟩⟩
theorem st_LL : LL (T16 L xs) 0 0 [] 1000 100000 := by
  refine ⟨⟨fun _ => 0, fun _ => 0, ?_, fun _ _ _ _ _ _ => rfl, zn_T16, zw_T16⟩, fun o _ => ⟨st_I518, st_I525, st_Z519, st_Z520, st_Z521⟩, fun k _ => st_Z581⟩
  intro l hl
  match l, hl with
  | 0, _ => exact ⟨st_Ls0, Nat.zero_le _, Nat.zero_le _⟩
  | 1, _ => exact ⟨st_Ls1, Nat.zero_le _, Nat.zero_le _⟩
  | 2, _ => exact ⟨st_Ls2, Nat.zero_le _, Nat.zero_le _⟩
theorem st_Wc : Wc (T16 L xs) (rp (T16 L xs)) 0 0 [] 1000 100000 := ⟨st_Rl, st_Sf, st_Ri, st_rlC, st_LL, Nat.zero_le _⟩
theorem st_Hd : Hd (T16 L xs) (rp (T16 L xs)) 0 0 [] 1000 100000 xs L := ⟨st_Wc, rfl, st_Zr, fun _ => st_29, st_N29⟩
/-! what the head of the loop keeps, at the start -/
theorem st_tN : tN (rp (T16 L xs)) = 0 := by unfold tN; rw [sm_I801]; rfl
theorem st_stN : stN (rp (T16 L xs)) = 0 := by unfold stN; rw [sm_I800]; rfl
theorem st_Iv : Iv (rp (T16 L xs)) 0 := by
  refine ⟨n_lt0, ?_, ?_, ?_, n_lt0, Nat.zero_le _⟩
  · rw [st_stN]; exact sm_I800
  · rw [st_stN]; exact Nat.le_refl 0
  · exact n_3 (sm_A3_0 ▸ (by decide)) (sm_A3_1 ▸ (by decide)) (sm_A3_2 ▸ (by decide))
theorem st_Kv : Kv (rp (T16 L xs)) 0 := ⟨⟨st_Iv, n_lt0⟩, st_Ri, n_lt0, n_lt0, 0, sm_I801, by decide⟩
theorem st_z {x : Int32} (h : x = 0) {a b : Int} (ha : a ≤ 0) (hb : 0 ≤ b) : a ≤ x.toInt ∧ x.toInt ≤ b := by
  rw [h]; exact ⟨ha, hb⟩
theorem st_Po {K : Nat} : Po (rp (T16 L xs)) K := fun c hc => by
  have e : ∀ k, k < 6 → px (rp (T16 L xs)) c k = (fun _ => (0 : Int)) k := fun k _ => by
    unfold px
    rw [sm_A6]
    rfl
  rw [s6_cg e, n6_cg e]
  exact ⟨rfl, Nat.zero_le _⟩
theorem st_Tq : Tq (rp (T16 L xs)) none := fun x hx => by
  rw [st_tN] at hx
  exact absurd hx (Nat.not_lt_zero x)
theorem st_Qa : Qa (rp (T16 L xs)) 0 := fun m b hm hb => ⟨none, sm_10 _ (by omega), fun q h => (by cases h), fun k hk => absurd hk (Nat.not_lt_zero k)⟩
theorem st_Ha : Ha (rp (T16 L xs)) 0 0 := ⟨st_Qa, fun k _ => st_z sm_A7 (by decide) (by decide), (st_z sm_I784 (Int.le_refl 0) (Int.le_refl 0)).1, fun q _ => st_z sm_A11 (by decide) (by decide), st_Po, st_Tq⟩
theorem st_Hv : Hv (rp (T16 L xs)) 0 0 := ⟨st_Kv, st_Ha, n_lt0, by rw [st_tN]; exact Nat.zero_le _⟩
end S99zs
