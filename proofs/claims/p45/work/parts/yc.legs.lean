/-! prices of the legs of a way, near where the law's orders are (printed by genyc.py) -/
section Syc
variable {M M' M0 N Y Z R : sM} {n T b c m o k x w e : Nat} {p a v sz : Int32} {s z : Bool} {L l : List Nat} {V0 : TV}
theorem i_neg {x : Int32} (h : -2147483648 < x.toInt) : (-x).toInt = -x.toInt := by
  have := x.toInt_lt
  rw [Int32.toInt_neg]
  exact Int.bmod_eq_of_le (by omega) (by omega)
/-- orders as the law makes them: prices near, sizes small, none of a member that is out -/
def vLm (M : sM) (n : Nat) : Prop := ∀ k, k < n → vPb (oB M k) (mA M 14 k) ∧ lfN M k ≤ 12 ∧ (mA M 19 k = 0 ∨ mA M 19 k = 1 ∨ mA M 19 k = 4 → mB M 2 (oM M k) = false)
set_option maxHeartbeats 2000000 in
theorem lp_01 {o0 o1 : Nat} (hob : oB M o = 0) (hb0 : oB M o0 = 3) (hb1 : oB M o1 = 1) (h01 : ¬ o0 = o1) (q0 : vPb (oB M o0) (mA M 14 o0)) (q1 : vPb (oB M o1) (mA M 14 o1)) :
    ∀ y, y ∈ [o0, o1] → 80 ≤ ((plV M (oB M o) false (prF M 0 1 [o0, o1]) [o0, o1] V0).2.1 y).toInt ∧ ((plV M (oB M o) false (prF M 0 1 [o0, o1]) [o0, o1] V0).2.1 y).toInt ≤ 124 := by
  have eV : (plV M (oB M o) false (prF M 0 1 [o0, o1]) [o0, o1] V0) = (V0.1, sU1 (sU1 V0.2.1 o0 (prF M 0 1 [o0, o1])) o1 ((prF M 0 1 [o0, o1]) + (-(mA M 14 o0))), sU1 (sU1 V0.2.2.1 o0 (some 0)) o1 (some 1), V0.2.2.2) := by
    unfold plV pcV pcV pcV
    rw [hob, hb0, hb1]
    rfl
  rw [eV]
  rw [hb0] at q0
  have r0 := q0.2 (by decide)
  rw [hb1] at q1
  have r1 := q1.1 (by decide)
  have n0 : (-(mA M 14 o0)).toInt = -(mA M 14 o0).toInt := i_neg (by omega)
  have n1 : (-(mA M 14 o1)).toInt = -(mA M 14 o1).toInt := i_neg (by omega)
  have eP : (prF M 0 1 [o0, o1]).toInt = ((mA M 14 o0).toInt) + ((mA M 14 o1).toInt) := by
    have e : prF M 0 1 [o0, o1] = ((0 + (mA M 14 o0)) + (mA M 14 o1)) := rfl
    rw [e, Int32.zero_add]
    rw [i_add (by omega) (by omega)]
  have e1 : ((prF M 0 1 [o0, o1]) + (-(mA M 14 o0))).toInt = (((mA M 14 o0).toInt) + ((mA M 14 o1).toInt)) + (-(mA M 14 o0).toInt) := by
    rw [i_add (by rw [eP, n0]; omega) (by rw [eP, n0]; omega), eP, n0]
  intro y hy
  simp only [List.mem_cons, List.not_mem_nil, or_false] at hy
  rcases hy with e9 | e9
  · have c9 : (sU1 (sU1 V0.2.1 o0 (prF M 0 1 [o0, o1])) o1 ((prF M 0 1 [o0, o1]) + (-(mA M 14 o0)))) o0 = prF M 0 1 [o0, o1] := sU1_s2 h01
    rw [e9]
    show 80 ≤ ((sU1 (sU1 V0.2.1 o0 (prF M 0 1 [o0, o1])) o1 ((prF M 0 1 [o0, o1]) + (-(mA M 14 o0)))) o0).toInt ∧ ((sU1 (sU1 V0.2.1 o0 (prF M 0 1 [o0, o1])) o1 ((prF M 0 1 [o0, o1]) + (-(mA M 14 o0)))) o0).toInt ≤ 124
    rw [c9, eP]
    omega
  · have c9 : (sU1 (sU1 V0.2.1 o0 (prF M 0 1 [o0, o1])) o1 ((prF M 0 1 [o0, o1]) + (-(mA M 14 o0)))) o1 = ((prF M 0 1 [o0, o1]) + (-(mA M 14 o0))) := sU1_e1
    rw [e9]
    show 80 ≤ ((sU1 (sU1 V0.2.1 o0 (prF M 0 1 [o0, o1])) o1 ((prF M 0 1 [o0, o1]) + (-(mA M 14 o0)))) o1).toInt ∧ ((sU1 (sU1 V0.2.1 o0 (prF M 0 1 [o0, o1])) o1 ((prF M 0 1 [o0, o1]) + (-(mA M 14 o0)))) o1).toInt ≤ 124
    rw [c9, e1]
    omega
set_option maxHeartbeats 2000000 in
theorem lp_02 {o0 o1 o2 : Nat} (hob : oB M o = 0) (hb0 : oB M o0 = 3) (hb1 : oB M o1 = 4) (hb2 : oB M o2 = 2) (h01 : ¬ o0 = o1) (h02 : ¬ o0 = o2) (h12 : ¬ o1 = o2) (q0 : vPb (oB M o0) (mA M 14 o0)) (q1 : vPb (oB M o1) (mA M 14 o1)) (q2 : vPb (oB M o2) (mA M 14 o2)) :
    ∀ y, y ∈ [o0, o1, o2] → 80 ≤ ((plV M (oB M o) false (prF M 0 2 [o0, o1, o2]) [o0, o1, o2] V0).2.1 y).toInt ∧ ((plV M (oB M o) false (prF M 0 2 [o0, o1, o2]) [o0, o1, o2] V0).2.1 y).toInt ≤ 124 := by
  have eV : (plV M (oB M o) false (prF M 0 2 [o0, o1, o2]) [o0, o1, o2] V0) = (V0.1, sU1 (sU1 (sU1 V0.2.1 o0 (prF M 0 2 [o0, o1, o2])) o1 ((prF M 0 2 [o0, o1, o2]) + (-(mA M 14 o0)))) o2 (((prF M 0 2 [o0, o1, o2]) + (-(mA M 14 o0))) + (-(mA M 14 o1))), sU1 (sU1 (sU1 V0.2.2.1 o0 (some 0)) o1 (some 1)) o2 (some 2), V0.2.2.2) := by
    unfold plV pcV pcV pcV pcV
    rw [hob, hb0, hb1, hb2]
    rfl
  rw [eV]
  rw [hb0] at q0
  have r0 := q0.2 (by decide)
  rw [hb1] at q1
  have r1 := q1.2 (by decide)
  rw [hb2] at q2
  have r2 := q2.1 (by decide)
  have n0 : (-(mA M 14 o0)).toInt = -(mA M 14 o0).toInt := i_neg (by omega)
  have n1 : (-(mA M 14 o1)).toInt = -(mA M 14 o1).toInt := i_neg (by omega)
  have n2 : (-(mA M 14 o2)).toInt = -(mA M 14 o2).toInt := i_neg (by omega)
  have eP : (prF M 0 2 [o0, o1, o2]).toInt = ((mA M 14 o0).toInt) + ((mA M 14 o1).toInt) + ((mA M 14 o2).toInt) := by
    have e : prF M 0 2 [o0, o1, o2] = (((0 + (mA M 14 o0)) + (mA M 14 o1)) + (mA M 14 o2)) := rfl
    rw [e, Int32.zero_add]
    have f1 : ((mA M 14 o0) + (mA M 14 o1)).toInt = (mA M 14 o0).toInt + (mA M 14 o1).toInt := i_add (by omega) (by omega)
    rw [i_add (by rw [f1]; omega) (by rw [f1]; omega), f1]
  have e1 : ((prF M 0 2 [o0, o1, o2]) + (-(mA M 14 o0))).toInt = (((mA M 14 o0).toInt) + ((mA M 14 o1).toInt) + ((mA M 14 o2).toInt)) + (-(mA M 14 o0).toInt) := by
    rw [i_add (by rw [eP, n0]; omega) (by rw [eP, n0]; omega), eP, n0]
  have e2 : (((prF M 0 2 [o0, o1, o2]) + (-(mA M 14 o0))) + (-(mA M 14 o1))).toInt = ((((mA M 14 o0).toInt) + ((mA M 14 o1).toInt) + ((mA M 14 o2).toInt)) + (-(mA M 14 o0).toInt)) + (-(mA M 14 o1).toInt) := by
    rw [i_add (by rw [e1, n1]; omega) (by rw [e1, n1]; omega), e1, n1]
  intro y hy
  simp only [List.mem_cons, List.not_mem_nil, or_false] at hy
  rcases hy with e9 | e9 | e9
  · have c9 : (sU1 (sU1 (sU1 V0.2.1 o0 (prF M 0 2 [o0, o1, o2])) o1 ((prF M 0 2 [o0, o1, o2]) + (-(mA M 14 o0)))) o2 (((prF M 0 2 [o0, o1, o2]) + (-(mA M 14 o0))) + (-(mA M 14 o1)))) o0 = prF M 0 2 [o0, o1, o2] := sU1_s3 h01 h02
    rw [e9]
    show 80 ≤ ((sU1 (sU1 (sU1 V0.2.1 o0 (prF M 0 2 [o0, o1, o2])) o1 ((prF M 0 2 [o0, o1, o2]) + (-(mA M 14 o0)))) o2 (((prF M 0 2 [o0, o1, o2]) + (-(mA M 14 o0))) + (-(mA M 14 o1)))) o0).toInt ∧ ((sU1 (sU1 (sU1 V0.2.1 o0 (prF M 0 2 [o0, o1, o2])) o1 ((prF M 0 2 [o0, o1, o2]) + (-(mA M 14 o0)))) o2 (((prF M 0 2 [o0, o1, o2]) + (-(mA M 14 o0))) + (-(mA M 14 o1)))) o0).toInt ≤ 124
    rw [c9, eP]
    omega
  · have c9 : (sU1 (sU1 (sU1 V0.2.1 o0 (prF M 0 2 [o0, o1, o2])) o1 ((prF M 0 2 [o0, o1, o2]) + (-(mA M 14 o0)))) o2 (((prF M 0 2 [o0, o1, o2]) + (-(mA M 14 o0))) + (-(mA M 14 o1)))) o1 = ((prF M 0 2 [o0, o1, o2]) + (-(mA M 14 o0))) := sU1_s2 h12
    rw [e9]
    show 80 ≤ ((sU1 (sU1 (sU1 V0.2.1 o0 (prF M 0 2 [o0, o1, o2])) o1 ((prF M 0 2 [o0, o1, o2]) + (-(mA M 14 o0)))) o2 (((prF M 0 2 [o0, o1, o2]) + (-(mA M 14 o0))) + (-(mA M 14 o1)))) o1).toInt ∧ ((sU1 (sU1 (sU1 V0.2.1 o0 (prF M 0 2 [o0, o1, o2])) o1 ((prF M 0 2 [o0, o1, o2]) + (-(mA M 14 o0)))) o2 (((prF M 0 2 [o0, o1, o2]) + (-(mA M 14 o0))) + (-(mA M 14 o1)))) o1).toInt ≤ 124
    rw [c9, e1]
    omega
  · have c9 : (sU1 (sU1 (sU1 V0.2.1 o0 (prF M 0 2 [o0, o1, o2])) o1 ((prF M 0 2 [o0, o1, o2]) + (-(mA M 14 o0)))) o2 (((prF M 0 2 [o0, o1, o2]) + (-(mA M 14 o0))) + (-(mA M 14 o1)))) o2 = (((prF M 0 2 [o0, o1, o2]) + (-(mA M 14 o0))) + (-(mA M 14 o1))) := sU1_e1
    rw [e9]
    show 80 ≤ ((sU1 (sU1 (sU1 V0.2.1 o0 (prF M 0 2 [o0, o1, o2])) o1 ((prF M 0 2 [o0, o1, o2]) + (-(mA M 14 o0)))) o2 (((prF M 0 2 [o0, o1, o2]) + (-(mA M 14 o0))) + (-(mA M 14 o1)))) o2).toInt ∧ ((sU1 (sU1 (sU1 V0.2.1 o0 (prF M 0 2 [o0, o1, o2])) o1 ((prF M 0 2 [o0, o1, o2]) + (-(mA M 14 o0)))) o2 (((prF M 0 2 [o0, o1, o2]) + (-(mA M 14 o0))) + (-(mA M 14 o1)))) o2).toInt ≤ 124
    rw [c9, e2]
    omega
set_option maxHeartbeats 2000000 in
theorem lp_11 {o0 o1 : Nat} (hob : oB M o = 1) (hb0 : oB M o0 = 4) (hb1 : oB M o1 = 2) (h01 : ¬ o0 = o1) (q0 : vPb (oB M o0) (mA M 14 o0)) (q1 : vPb (oB M o1) (mA M 14 o1)) :
    ∀ y, y ∈ [o0, o1] → 80 ≤ ((plV M (oB M o) false (prF M 1 1 [o0, o1]) [o0, o1] V0).2.1 y).toInt ∧ ((plV M (oB M o) false (prF M 1 1 [o0, o1]) [o0, o1] V0).2.1 y).toInt ≤ 124 := by
  have eV : (plV M (oB M o) false (prF M 1 1 [o0, o1]) [o0, o1] V0) = (V0.1, sU1 (sU1 V0.2.1 o0 (prF M 1 1 [o0, o1])) o1 ((prF M 1 1 [o0, o1]) + (-(mA M 14 o0))), sU1 (sU1 V0.2.2.1 o0 (some 1)) o1 (some 2), V0.2.2.2) := by
    unfold plV pcV pcV pcV
    rw [hob, hb0, hb1]
    rfl
  rw [eV]
  rw [hb0] at q0
  have r0 := q0.2 (by decide)
  rw [hb1] at q1
  have r1 := q1.1 (by decide)
  have n0 : (-(mA M 14 o0)).toInt = -(mA M 14 o0).toInt := i_neg (by omega)
  have n1 : (-(mA M 14 o1)).toInt = -(mA M 14 o1).toInt := i_neg (by omega)
  have eP : (prF M 1 1 [o0, o1]).toInt = ((mA M 14 o0).toInt) + ((mA M 14 o1).toInt) := by
    have e : prF M 1 1 [o0, o1] = ((0 + (mA M 14 o0)) + (mA M 14 o1)) := rfl
    rw [e, Int32.zero_add]
    rw [i_add (by omega) (by omega)]
  have e1 : ((prF M 1 1 [o0, o1]) + (-(mA M 14 o0))).toInt = (((mA M 14 o0).toInt) + ((mA M 14 o1).toInt)) + (-(mA M 14 o0).toInt) := by
    rw [i_add (by rw [eP, n0]; omega) (by rw [eP, n0]; omega), eP, n0]
  intro y hy
  simp only [List.mem_cons, List.not_mem_nil, or_false] at hy
  rcases hy with e9 | e9
  · have c9 : (sU1 (sU1 V0.2.1 o0 (prF M 1 1 [o0, o1])) o1 ((prF M 1 1 [o0, o1]) + (-(mA M 14 o0)))) o0 = prF M 1 1 [o0, o1] := sU1_s2 h01
    rw [e9]
    show 80 ≤ ((sU1 (sU1 V0.2.1 o0 (prF M 1 1 [o0, o1])) o1 ((prF M 1 1 [o0, o1]) + (-(mA M 14 o0)))) o0).toInt ∧ ((sU1 (sU1 V0.2.1 o0 (prF M 1 1 [o0, o1])) o1 ((prF M 1 1 [o0, o1]) + (-(mA M 14 o0)))) o0).toInt ≤ 124
    rw [c9, eP]
    omega
  · have c9 : (sU1 (sU1 V0.2.1 o0 (prF M 1 1 [o0, o1])) o1 ((prF M 1 1 [o0, o1]) + (-(mA M 14 o0)))) o1 = ((prF M 1 1 [o0, o1]) + (-(mA M 14 o0))) := sU1_e1
    rw [e9]
    show 80 ≤ ((sU1 (sU1 V0.2.1 o0 (prF M 1 1 [o0, o1])) o1 ((prF M 1 1 [o0, o1]) + (-(mA M 14 o0)))) o1).toInt ∧ ((sU1 (sU1 V0.2.1 o0 (prF M 1 1 [o0, o1])) o1 ((prF M 1 1 [o0, o1]) + (-(mA M 14 o0)))) o1).toInt ≤ 124
    rw [c9, e1]
    omega
set_option maxHeartbeats 2000000 in
theorem lp_12 {o0 o1 : Nat} (hob : oB M o = 1) (hb0 : oB M o0 = 3) (hb1 : oB M o1 = 0) (h01 : ¬ o0 = o1) (q0 : vPb (oB M o0) (mA M 14 o0)) (q1 : vPb (oB M o1) (mA M 14 o1)) :
    ∀ y, y ∈ [o0, o1] → 80 ≤ ((plV M (oB M o) false (prF M 1 2 [o0, o1]) [o0, o1] V0).2.1 y).toInt ∧ ((plV M (oB M o) false (prF M 1 2 [o0, o1]) [o0, o1] V0).2.1 y).toInt ≤ 124 := by
  have eV : (plV M (oB M o) false (prF M 1 2 [o0, o1]) [o0, o1] V0) = (V0.1, sU1 (sU1 V0.2.1 o0 (prF M 1 2 [o0, o1])) o1 ((prF M 1 2 [o0, o1]) + (mA M 14 o0)), sU1 (sU1 V0.2.2.1 o0 (some 1)) o1 (some 0), V0.2.2.2) := by
    unfold plV pcV pcV pcV
    rw [hob, hb0, hb1]
    rfl
  rw [eV]
  rw [hb0] at q0
  have r0 := q0.2 (by decide)
  rw [hb1] at q1
  have r1 := q1.1 (by decide)
  have n0 : (-(mA M 14 o0)).toInt = -(mA M 14 o0).toInt := i_neg (by omega)
  have n1 : (-(mA M 14 o1)).toInt = -(mA M 14 o1).toInt := i_neg (by omega)
  have eP : (prF M 1 2 [o0, o1]).toInt = (-(mA M 14 o0).toInt) + ((mA M 14 o1).toInt) := by
    have e : prF M 1 2 [o0, o1] = ((0 + (-(mA M 14 o0))) + (mA M 14 o1)) := rfl
    rw [e, Int32.zero_add]
    rw [i_add (by rw [n0]; omega) (by rw [n0]; omega), n0]
  have e1 : ((prF M 1 2 [o0, o1]) + (mA M 14 o0)).toInt = ((-(mA M 14 o0).toInt) + ((mA M 14 o1).toInt)) + ((mA M 14 o0).toInt) := by
    rw [i_add (by rw [eP]; omega) (by rw [eP]; omega), eP]
  intro y hy
  simp only [List.mem_cons, List.not_mem_nil, or_false] at hy
  rcases hy with e9 | e9
  · have c9 : (sU1 (sU1 V0.2.1 o0 (prF M 1 2 [o0, o1])) o1 ((prF M 1 2 [o0, o1]) + (mA M 14 o0))) o0 = prF M 1 2 [o0, o1] := sU1_s2 h01
    rw [e9]
    show 80 ≤ ((sU1 (sU1 V0.2.1 o0 (prF M 1 2 [o0, o1])) o1 ((prF M 1 2 [o0, o1]) + (mA M 14 o0))) o0).toInt ∧ ((sU1 (sU1 V0.2.1 o0 (prF M 1 2 [o0, o1])) o1 ((prF M 1 2 [o0, o1]) + (mA M 14 o0))) o0).toInt ≤ 124
    rw [c9, eP]
    omega
  · have c9 : (sU1 (sU1 V0.2.1 o0 (prF M 1 2 [o0, o1])) o1 ((prF M 1 2 [o0, o1]) + (mA M 14 o0))) o1 = ((prF M 1 2 [o0, o1]) + (mA M 14 o0)) := sU1_e1
    rw [e9]
    show 80 ≤ ((sU1 (sU1 V0.2.1 o0 (prF M 1 2 [o0, o1])) o1 ((prF M 1 2 [o0, o1]) + (mA M 14 o0))) o1).toInt ∧ ((sU1 (sU1 V0.2.1 o0 (prF M 1 2 [o0, o1])) o1 ((prF M 1 2 [o0, o1]) + (mA M 14 o0))) o1).toInt ≤ 124
    rw [c9, e1]
    omega
set_option maxHeartbeats 2000000 in
theorem lp_21 {o0 o1 : Nat} (hob : oB M o = 2) (hb0 : oB M o0 = 4) (hb1 : oB M o1 = 1) (h01 : ¬ o0 = o1) (q0 : vPb (oB M o0) (mA M 14 o0)) (q1 : vPb (oB M o1) (mA M 14 o1)) :
    ∀ y, y ∈ [o0, o1] → 80 ≤ ((plV M (oB M o) false (prF M 2 1 [o0, o1]) [o0, o1] V0).2.1 y).toInt ∧ ((plV M (oB M o) false (prF M 2 1 [o0, o1]) [o0, o1] V0).2.1 y).toInt ≤ 124 := by
  have eV : (plV M (oB M o) false (prF M 2 1 [o0, o1]) [o0, o1] V0) = (V0.1, sU1 (sU1 V0.2.1 o0 (prF M 2 1 [o0, o1])) o1 ((prF M 2 1 [o0, o1]) + (mA M 14 o0)), sU1 (sU1 V0.2.2.1 o0 (some 2)) o1 (some 1), V0.2.2.2) := by
    unfold plV pcV pcV pcV
    rw [hob, hb0, hb1]
    rfl
  rw [eV]
  rw [hb0] at q0
  have r0 := q0.2 (by decide)
  rw [hb1] at q1
  have r1 := q1.1 (by decide)
  have n0 : (-(mA M 14 o0)).toInt = -(mA M 14 o0).toInt := i_neg (by omega)
  have n1 : (-(mA M 14 o1)).toInt = -(mA M 14 o1).toInt := i_neg (by omega)
  have eP : (prF M 2 1 [o0, o1]).toInt = (-(mA M 14 o0).toInt) + ((mA M 14 o1).toInt) := by
    have e : prF M 2 1 [o0, o1] = ((0 + (-(mA M 14 o0))) + (mA M 14 o1)) := rfl
    rw [e, Int32.zero_add]
    rw [i_add (by rw [n0]; omega) (by rw [n0]; omega), n0]
  have e1 : ((prF M 2 1 [o0, o1]) + (mA M 14 o0)).toInt = ((-(mA M 14 o0).toInt) + ((mA M 14 o1).toInt)) + ((mA M 14 o0).toInt) := by
    rw [i_add (by rw [eP]; omega) (by rw [eP]; omega), eP]
  intro y hy
  simp only [List.mem_cons, List.not_mem_nil, or_false] at hy
  rcases hy with e9 | e9
  · have c9 : (sU1 (sU1 V0.2.1 o0 (prF M 2 1 [o0, o1])) o1 ((prF M 2 1 [o0, o1]) + (mA M 14 o0))) o0 = prF M 2 1 [o0, o1] := sU1_s2 h01
    rw [e9]
    show 80 ≤ ((sU1 (sU1 V0.2.1 o0 (prF M 2 1 [o0, o1])) o1 ((prF M 2 1 [o0, o1]) + (mA M 14 o0))) o0).toInt ∧ ((sU1 (sU1 V0.2.1 o0 (prF M 2 1 [o0, o1])) o1 ((prF M 2 1 [o0, o1]) + (mA M 14 o0))) o0).toInt ≤ 124
    rw [c9, eP]
    omega
  · have c9 : (sU1 (sU1 V0.2.1 o0 (prF M 2 1 [o0, o1])) o1 ((prF M 2 1 [o0, o1]) + (mA M 14 o0))) o1 = ((prF M 2 1 [o0, o1]) + (mA M 14 o0)) := sU1_e1
    rw [e9]
    show 80 ≤ ((sU1 (sU1 V0.2.1 o0 (prF M 2 1 [o0, o1])) o1 ((prF M 2 1 [o0, o1]) + (mA M 14 o0))) o1).toInt ∧ ((sU1 (sU1 V0.2.1 o0 (prF M 2 1 [o0, o1])) o1 ((prF M 2 1 [o0, o1]) + (mA M 14 o0))) o1).toInt ≤ 124
    rw [c9, e1]
    omega
set_option maxHeartbeats 2000000 in
theorem lp_22 {o0 o1 o2 : Nat} (hob : oB M o = 2) (hb0 : oB M o0 = 4) (hb1 : oB M o1 = 3) (hb2 : oB M o2 = 0) (h01 : ¬ o0 = o1) (h02 : ¬ o0 = o2) (h12 : ¬ o1 = o2) (q0 : vPb (oB M o0) (mA M 14 o0)) (q1 : vPb (oB M o1) (mA M 14 o1)) (q2 : vPb (oB M o2) (mA M 14 o2)) :
    ∀ y, y ∈ [o0, o1, o2] → 80 ≤ ((plV M (oB M o) false (prF M 2 2 [o0, o1, o2]) [o0, o1, o2] V0).2.1 y).toInt ∧ ((plV M (oB M o) false (prF M 2 2 [o0, o1, o2]) [o0, o1, o2] V0).2.1 y).toInt ≤ 124 := by
  have eV : (plV M (oB M o) false (prF M 2 2 [o0, o1, o2]) [o0, o1, o2] V0) = (V0.1, sU1 (sU1 (sU1 V0.2.1 o0 (prF M 2 2 [o0, o1, o2])) o1 ((prF M 2 2 [o0, o1, o2]) + (mA M 14 o0))) o2 (((prF M 2 2 [o0, o1, o2]) + (mA M 14 o0)) + (mA M 14 o1)), sU1 (sU1 (sU1 V0.2.2.1 o0 (some 2)) o1 (some 1)) o2 (some 0), V0.2.2.2) := by
    unfold plV pcV pcV pcV pcV
    rw [hob, hb0, hb1, hb2]
    rfl
  rw [eV]
  rw [hb0] at q0
  have r0 := q0.2 (by decide)
  rw [hb1] at q1
  have r1 := q1.2 (by decide)
  rw [hb2] at q2
  have r2 := q2.1 (by decide)
  have n0 : (-(mA M 14 o0)).toInt = -(mA M 14 o0).toInt := i_neg (by omega)
  have n1 : (-(mA M 14 o1)).toInt = -(mA M 14 o1).toInt := i_neg (by omega)
  have n2 : (-(mA M 14 o2)).toInt = -(mA M 14 o2).toInt := i_neg (by omega)
  have eP : (prF M 2 2 [o0, o1, o2]).toInt = (-(mA M 14 o0).toInt) + (-(mA M 14 o1).toInt) + ((mA M 14 o2).toInt) := by
    have e : prF M 2 2 [o0, o1, o2] = (((0 + (-(mA M 14 o0))) + (-(mA M 14 o1))) + (mA M 14 o2)) := rfl
    rw [e, Int32.zero_add]
    have f1 : ((-(mA M 14 o0)) + (-(mA M 14 o1))).toInt = (-(mA M 14 o0)).toInt + (-(mA M 14 o1)).toInt := i_add (by rw [n0, n1]; omega) (by rw [n0, n1]; omega)
    rw [i_add (by rw [f1, n0, n1]; omega) (by rw [f1, n0, n1]; omega), f1, n0, n1]
  have e1 : ((prF M 2 2 [o0, o1, o2]) + (mA M 14 o0)).toInt = ((-(mA M 14 o0).toInt) + (-(mA M 14 o1).toInt) + ((mA M 14 o2).toInt)) + ((mA M 14 o0).toInt) := by
    rw [i_add (by rw [eP]; omega) (by rw [eP]; omega), eP]
  have e2 : (((prF M 2 2 [o0, o1, o2]) + (mA M 14 o0)) + (mA M 14 o1)).toInt = (((-(mA M 14 o0).toInt) + (-(mA M 14 o1).toInt) + ((mA M 14 o2).toInt)) + ((mA M 14 o0).toInt)) + ((mA M 14 o1).toInt) := by
    rw [i_add (by rw [e1]; omega) (by rw [e1]; omega), e1]
  intro y hy
  simp only [List.mem_cons, List.not_mem_nil, or_false] at hy
  rcases hy with e9 | e9 | e9
  · have c9 : (sU1 (sU1 (sU1 V0.2.1 o0 (prF M 2 2 [o0, o1, o2])) o1 ((prF M 2 2 [o0, o1, o2]) + (mA M 14 o0))) o2 (((prF M 2 2 [o0, o1, o2]) + (mA M 14 o0)) + (mA M 14 o1))) o0 = prF M 2 2 [o0, o1, o2] := sU1_s3 h01 h02
    rw [e9]
    show 80 ≤ ((sU1 (sU1 (sU1 V0.2.1 o0 (prF M 2 2 [o0, o1, o2])) o1 ((prF M 2 2 [o0, o1, o2]) + (mA M 14 o0))) o2 (((prF M 2 2 [o0, o1, o2]) + (mA M 14 o0)) + (mA M 14 o1))) o0).toInt ∧ ((sU1 (sU1 (sU1 V0.2.1 o0 (prF M 2 2 [o0, o1, o2])) o1 ((prF M 2 2 [o0, o1, o2]) + (mA M 14 o0))) o2 (((prF M 2 2 [o0, o1, o2]) + (mA M 14 o0)) + (mA M 14 o1))) o0).toInt ≤ 124
    rw [c9, eP]
    omega
  · have c9 : (sU1 (sU1 (sU1 V0.2.1 o0 (prF M 2 2 [o0, o1, o2])) o1 ((prF M 2 2 [o0, o1, o2]) + (mA M 14 o0))) o2 (((prF M 2 2 [o0, o1, o2]) + (mA M 14 o0)) + (mA M 14 o1))) o1 = ((prF M 2 2 [o0, o1, o2]) + (mA M 14 o0)) := sU1_s2 h12
    rw [e9]
    show 80 ≤ ((sU1 (sU1 (sU1 V0.2.1 o0 (prF M 2 2 [o0, o1, o2])) o1 ((prF M 2 2 [o0, o1, o2]) + (mA M 14 o0))) o2 (((prF M 2 2 [o0, o1, o2]) + (mA M 14 o0)) + (mA M 14 o1))) o1).toInt ∧ ((sU1 (sU1 (sU1 V0.2.1 o0 (prF M 2 2 [o0, o1, o2])) o1 ((prF M 2 2 [o0, o1, o2]) + (mA M 14 o0))) o2 (((prF M 2 2 [o0, o1, o2]) + (mA M 14 o0)) + (mA M 14 o1))) o1).toInt ≤ 124
    rw [c9, e1]
    omega
  · have c9 : (sU1 (sU1 (sU1 V0.2.1 o0 (prF M 2 2 [o0, o1, o2])) o1 ((prF M 2 2 [o0, o1, o2]) + (mA M 14 o0))) o2 (((prF M 2 2 [o0, o1, o2]) + (mA M 14 o0)) + (mA M 14 o1))) o2 = (((prF M 2 2 [o0, o1, o2]) + (mA M 14 o0)) + (mA M 14 o1)) := sU1_e1
    rw [e9]
    show 80 ≤ ((sU1 (sU1 (sU1 V0.2.1 o0 (prF M 2 2 [o0, o1, o2])) o1 ((prF M 2 2 [o0, o1, o2]) + (mA M 14 o0))) o2 (((prF M 2 2 [o0, o1, o2]) + (mA M 14 o0)) + (mA M 14 o1))) o2).toInt ∧ ((sU1 (sU1 (sU1 V0.2.1 o0 (prF M 2 2 [o0, o1, o2])) o1 ((prF M 2 2 [o0, o1, o2]) + (mA M 14 o0))) o2 (((prF M 2 2 [o0, o1, o2]) + (mA M 14 o0)) + (mA M 14 o1))) o2).toInt ≤ 124
    rw [c9, e2]
    omega
set_option maxHeartbeats 2000000 in
theorem lp_31 {o0 o1 : Nat} (hob : oB M o = 3) (hb0 : oB M o0 = 0) (hb1 : oB M o1 = 1) (h01 : ¬ o0 = o1) (q0 : vPb (oB M o0) (mA M 14 o0)) (q1 : vPb (oB M o1) (mA M 14 o1)) :
    ∀ y, y ∈ [o0, o1] → 80 ≤ ((plV M (oB M o) false (prF M 3 1 [o0, o1]) [o0, o1] V0).2.1 y).toInt ∧ ((plV M (oB M o) false (prF M 3 1 [o0, o1]) [o0, o1] V0).2.1 y).toInt ≤ 124 := by
  have eV : (plV M (oB M o) false (prF M 3 1 [o0, o1]) [o0, o1] V0) = (V0.1, sU1 (sU1 V0.2.1 o0 (mA M 14 o0)) o1 (mA M 14 o1), sU1 (sU1 V0.2.2.1 o0 (some 0)) o1 (some 1), V0.2.2.2) := by
    unfold plV psV psV psV
    rw [hob]
    rfl
  rw [eV]
  rw [hb0] at q0
  have r0 := q0.1 (by decide)
  rw [hb1] at q1
  have r1 := q1.1 (by decide)
  intro y hy
  simp only [List.mem_cons, List.not_mem_nil, or_false] at hy
  rcases hy with e9 | e9
  · have c9 : (sU1 (sU1 V0.2.1 o0 (mA M 14 o0)) o1 (mA M 14 o1)) o0 = (mA M 14 o0) := sU1_s2 h01
    rw [e9]
    show 80 ≤ ((sU1 (sU1 V0.2.1 o0 (mA M 14 o0)) o1 (mA M 14 o1)) o0).toInt ∧ ((sU1 (sU1 V0.2.1 o0 (mA M 14 o0)) o1 (mA M 14 o1)) o0).toInt ≤ 124
    rw [c9]
    omega
  · have c9 : (sU1 (sU1 V0.2.1 o0 (mA M 14 o0)) o1 (mA M 14 o1)) o1 = (mA M 14 o1) := sU1_e1
    rw [e9]
    show 80 ≤ ((sU1 (sU1 V0.2.1 o0 (mA M 14 o0)) o1 (mA M 14 o1)) o1).toInt ∧ ((sU1 (sU1 V0.2.1 o0 (mA M 14 o0)) o1 (mA M 14 o1)) o1).toInt ≤ 124
    rw [c9]
    omega
set_option maxHeartbeats 2000000 in
theorem lp_41 {o0 o1 : Nat} (hob : oB M o = 4) (hb0 : oB M o0 = 1) (hb1 : oB M o1 = 2) (h01 : ¬ o0 = o1) (q0 : vPb (oB M o0) (mA M 14 o0)) (q1 : vPb (oB M o1) (mA M 14 o1)) :
    ∀ y, y ∈ [o0, o1] → 80 ≤ ((plV M (oB M o) false (prF M 4 1 [o0, o1]) [o0, o1] V0).2.1 y).toInt ∧ ((plV M (oB M o) false (prF M 4 1 [o0, o1]) [o0, o1] V0).2.1 y).toInt ≤ 124 := by
  have eV : (plV M (oB M o) false (prF M 4 1 [o0, o1]) [o0, o1] V0) = (V0.1, sU1 (sU1 V0.2.1 o0 (mA M 14 o0)) o1 (mA M 14 o1), sU1 (sU1 V0.2.2.1 o0 (some 1)) o1 (some 2), V0.2.2.2) := by
    unfold plV psV psV psV
    rw [hob]
    rfl
  rw [eV]
  rw [hb0] at q0
  have r0 := q0.1 (by decide)
  rw [hb1] at q1
  have r1 := q1.1 (by decide)
  intro y hy
  simp only [List.mem_cons, List.not_mem_nil, or_false] at hy
  rcases hy with e9 | e9
  · have c9 : (sU1 (sU1 V0.2.1 o0 (mA M 14 o0)) o1 (mA M 14 o1)) o0 = (mA M 14 o0) := sU1_s2 h01
    rw [e9]
    show 80 ≤ ((sU1 (sU1 V0.2.1 o0 (mA M 14 o0)) o1 (mA M 14 o1)) o0).toInt ∧ ((sU1 (sU1 V0.2.1 o0 (mA M 14 o0)) o1 (mA M 14 o1)) o0).toInt ≤ 124
    rw [c9]
    omega
  · have c9 : (sU1 (sU1 V0.2.1 o0 (mA M 14 o0)) o1 (mA M 14 o1)) o1 = (mA M 14 o1) := sU1_e1
    rw [e9]
    show 80 ≤ ((sU1 (sU1 V0.2.1 o0 (mA M 14 o0)) o1 (mA M 14 o1)) o1).toInt ∧ ((sU1 (sU1 V0.2.1 o0 (mA M 14 o0)) o1 (mA M 14 o1)) o1).toInt ≤ 124
    rw [c9]
    omega
theorem lp_L (hL : vLm M n) (hbq : oB M o = b) (hb : b < 5) (hw : w < 3) (hw1 : 1 ≤ w) (h : lgO M n b s w = some L) : ∀ y, y ∈ L → 80 ≤ ((plV M (oB M o) false (prF M b w L) L V0).2.1 y).toInt ∧ ((plV M (oB M o) false (prF M b w L) L V0).2.1 y).toInt ≤ 124 := by
  match b, hb, w, hw, hw1 with
  | _, _, 0, _, hw1 => exact absurd hw1 (by decide)
  | 0, _, 1, _, _ =>
    obtain ⟨g1, g2⟩ := lgF_all (Q9 := [(3, false), (1, false)]) h
    have hLw := Lw_of (Q9 := [(3, false), (1, false)]) h
    obtain ⟨o0, ho0⟩ : ∃ u, u = ovD (bsF M n 3 (!(xor false s))) := ⟨_, rfl⟩
    obtain ⟨o1, ho1⟩ : ∃ u, u = ovD (bsF M n 1 (!(xor false s))) := ⟨_, rfl⟩
    have eL : L = [o0, o1] := by rw [g1, ho0, ho1]; rfl
    clear g1 g2 ho0 ho1
    subst eL
    have b0 : oB M o0 = 3 := (List.cons.inj hLw.2).1
    have b1 : oB M o1 = 1 := (List.cons.inj (List.cons.inj hLw.2).2).1
    have h01 : ¬ o0 = o1 := fun e => by rw [e, b1] at b0; cases b0
    exact lp_01 hbq b0 b1 h01 (hL o0 (hLw.1 o0 List.mem_cons_self).1).1 (hL o1 (hLw.1 o1 (List.mem_cons_of_mem _ List.mem_cons_self)).1).1
  | 0, _, 2, _, _ =>
    obtain ⟨g1, g2⟩ := lgF_all (Q9 := [(3, false), (4, false), (2, false)]) h
    have hLw := Lw_of (Q9 := [(3, false), (4, false), (2, false)]) h
    obtain ⟨o0, ho0⟩ : ∃ u, u = ovD (bsF M n 3 (!(xor false s))) := ⟨_, rfl⟩
    obtain ⟨o1, ho1⟩ : ∃ u, u = ovD (bsF M n 4 (!(xor false s))) := ⟨_, rfl⟩
    obtain ⟨o2, ho2⟩ : ∃ u, u = ovD (bsF M n 2 (!(xor false s))) := ⟨_, rfl⟩
    have eL : L = [o0, o1, o2] := by rw [g1, ho0, ho1, ho2]; rfl
    clear g1 g2 ho0 ho1 ho2
    subst eL
    have b0 : oB M o0 = 3 := (List.cons.inj hLw.2).1
    have b1 : oB M o1 = 4 := (List.cons.inj (List.cons.inj hLw.2).2).1
    have b2 : oB M o2 = 2 := (List.cons.inj (List.cons.inj (List.cons.inj hLw.2).2).2).1
    have h01 : ¬ o0 = o1 := fun e => by rw [e, b1] at b0; cases b0
    have h02 : ¬ o0 = o2 := fun e => by rw [e, b2] at b0; cases b0
    have h12 : ¬ o1 = o2 := fun e => by rw [e, b2] at b1; cases b1
    exact lp_02 hbq b0 b1 b2 h01 h02 h12 (hL o0 (hLw.1 o0 List.mem_cons_self).1).1 (hL o1 (hLw.1 o1 (List.mem_cons_of_mem _ List.mem_cons_self)).1).1 (hL o2 (hLw.1 o2 (List.mem_cons_of_mem _ (List.mem_cons_of_mem _ List.mem_cons_self))).1).1
  | 1, _, 1, _, _ =>
    obtain ⟨g1, g2⟩ := lgF_all (Q9 := [(4, false), (2, false)]) h
    have hLw := Lw_of (Q9 := [(4, false), (2, false)]) h
    obtain ⟨o0, ho0⟩ : ∃ u, u = ovD (bsF M n 4 (!(xor false s))) := ⟨_, rfl⟩
    obtain ⟨o1, ho1⟩ : ∃ u, u = ovD (bsF M n 2 (!(xor false s))) := ⟨_, rfl⟩
    have eL : L = [o0, o1] := by rw [g1, ho0, ho1]; rfl
    clear g1 g2 ho0 ho1
    subst eL
    have b0 : oB M o0 = 4 := (List.cons.inj hLw.2).1
    have b1 : oB M o1 = 2 := (List.cons.inj (List.cons.inj hLw.2).2).1
    have h01 : ¬ o0 = o1 := fun e => by rw [e, b1] at b0; cases b0
    exact lp_11 hbq b0 b1 h01 (hL o0 (hLw.1 o0 List.mem_cons_self).1).1 (hL o1 (hLw.1 o1 (List.mem_cons_of_mem _ List.mem_cons_self)).1).1
  | 1, _, 2, _, _ =>
    obtain ⟨g1, g2⟩ := lgF_all (Q9 := [(3, true), (0, false)]) h
    have hLw := Lw_of (Q9 := [(3, true), (0, false)]) h
    obtain ⟨o0, ho0⟩ : ∃ u, u = ovD (bsF M n 3 (!(xor true s))) := ⟨_, rfl⟩
    obtain ⟨o1, ho1⟩ : ∃ u, u = ovD (bsF M n 0 (!(xor false s))) := ⟨_, rfl⟩
    have eL : L = [o0, o1] := by rw [g1, ho0, ho1]; rfl
    clear g1 g2 ho0 ho1
    subst eL
    have b0 : oB M o0 = 3 := (List.cons.inj hLw.2).1
    have b1 : oB M o1 = 0 := (List.cons.inj (List.cons.inj hLw.2).2).1
    have h01 : ¬ o0 = o1 := fun e => by rw [e, b1] at b0; cases b0
    exact lp_12 hbq b0 b1 h01 (hL o0 (hLw.1 o0 List.mem_cons_self).1).1 (hL o1 (hLw.1 o1 (List.mem_cons_of_mem _ List.mem_cons_self)).1).1
  | 2, _, 1, _, _ =>
    obtain ⟨g1, g2⟩ := lgF_all (Q9 := [(4, true), (1, false)]) h
    have hLw := Lw_of (Q9 := [(4, true), (1, false)]) h
    obtain ⟨o0, ho0⟩ : ∃ u, u = ovD (bsF M n 4 (!(xor true s))) := ⟨_, rfl⟩
    obtain ⟨o1, ho1⟩ : ∃ u, u = ovD (bsF M n 1 (!(xor false s))) := ⟨_, rfl⟩
    have eL : L = [o0, o1] := by rw [g1, ho0, ho1]; rfl
    clear g1 g2 ho0 ho1
    subst eL
    have b0 : oB M o0 = 4 := (List.cons.inj hLw.2).1
    have b1 : oB M o1 = 1 := (List.cons.inj (List.cons.inj hLw.2).2).1
    have h01 : ¬ o0 = o1 := fun e => by rw [e, b1] at b0; cases b0
    exact lp_21 hbq b0 b1 h01 (hL o0 (hLw.1 o0 List.mem_cons_self).1).1 (hL o1 (hLw.1 o1 (List.mem_cons_of_mem _ List.mem_cons_self)).1).1
  | 2, _, 2, _, _ =>
    obtain ⟨g1, g2⟩ := lgF_all (Q9 := [(4, true), (3, true), (0, false)]) h
    have hLw := Lw_of (Q9 := [(4, true), (3, true), (0, false)]) h
    obtain ⟨o0, ho0⟩ : ∃ u, u = ovD (bsF M n 4 (!(xor true s))) := ⟨_, rfl⟩
    obtain ⟨o1, ho1⟩ : ∃ u, u = ovD (bsF M n 3 (!(xor true s))) := ⟨_, rfl⟩
    obtain ⟨o2, ho2⟩ : ∃ u, u = ovD (bsF M n 0 (!(xor false s))) := ⟨_, rfl⟩
    have eL : L = [o0, o1, o2] := by rw [g1, ho0, ho1, ho2]; rfl
    clear g1 g2 ho0 ho1 ho2
    subst eL
    have b0 : oB M o0 = 4 := (List.cons.inj hLw.2).1
    have b1 : oB M o1 = 3 := (List.cons.inj (List.cons.inj hLw.2).2).1
    have b2 : oB M o2 = 0 := (List.cons.inj (List.cons.inj (List.cons.inj hLw.2).2).2).1
    have h01 : ¬ o0 = o1 := fun e => by rw [e, b1] at b0; cases b0
    have h02 : ¬ o0 = o2 := fun e => by rw [e, b2] at b0; cases b0
    have h12 : ¬ o1 = o2 := fun e => by rw [e, b2] at b1; cases b1
    exact lp_22 hbq b0 b1 b2 h01 h02 h12 (hL o0 (hLw.1 o0 List.mem_cons_self).1).1 (hL o1 (hLw.1 o1 (List.mem_cons_of_mem _ List.mem_cons_self)).1).1 (hL o2 (hLw.1 o2 (List.mem_cons_of_mem _ (List.mem_cons_of_mem _ List.mem_cons_self))).1).1
  | 3, _, 1, _, _ =>
    obtain ⟨g1, g2⟩ := lgF_all (Q9 := [(0, false), (1, true)]) h
    have hLw := Lw_of (Q9 := [(0, false), (1, true)]) h
    obtain ⟨o0, ho0⟩ : ∃ u, u = ovD (bsF M n 0 (!(xor false s))) := ⟨_, rfl⟩
    obtain ⟨o1, ho1⟩ : ∃ u, u = ovD (bsF M n 1 (!(xor true s))) := ⟨_, rfl⟩
    have eL : L = [o0, o1] := by rw [g1, ho0, ho1]; rfl
    clear g1 g2 ho0 ho1
    subst eL
    have b0 : oB M o0 = 0 := (List.cons.inj hLw.2).1
    have b1 : oB M o1 = 1 := (List.cons.inj (List.cons.inj hLw.2).2).1
    have h01 : ¬ o0 = o1 := fun e => by rw [e, b1] at b0; cases b0
    exact lp_31 hbq b0 b1 h01 (hL o0 (hLw.1 o0 List.mem_cons_self).1).1 (hL o1 (hLw.1 o1 (List.mem_cons_of_mem _ List.mem_cons_self)).1).1
  | 4, _, 1, _, _ =>
    obtain ⟨g1, g2⟩ := lgF_all (Q9 := [(1, false), (2, true)]) h
    have hLw := Lw_of (Q9 := [(1, false), (2, true)]) h
    obtain ⟨o0, ho0⟩ : ∃ u, u = ovD (bsF M n 1 (!(xor false s))) := ⟨_, rfl⟩
    obtain ⟨o1, ho1⟩ : ∃ u, u = ovD (bsF M n 2 (!(xor true s))) := ⟨_, rfl⟩
    have eL : L = [o0, o1] := by rw [g1, ho0, ho1]; rfl
    clear g1 g2 ho0 ho1
    subst eL
    have b0 : oB M o0 = 1 := (List.cons.inj hLw.2).1
    have b1 : oB M o1 = 2 := (List.cons.inj (List.cons.inj hLw.2).2).1
    have h01 : ¬ o0 = o1 := fun e => by rw [e, b1] at b0; cases b0
    exact lp_41 hbq b0 b1 h01 (hL o0 (hLw.1 o0 List.mem_cons_self).1).1 (hL o1 (hLw.1 o1 (List.mem_cons_of_mem _ List.mem_cons_self)).1).1
  | 3, _, 2, _, _ => exact absurd h (fun h => by cases h)
  | 4, _, 2, _, _ => exact absurd h (fun h => by cases h)
end Syc
