/-! too far, way by way (printed by way64.py) -/
set_option maxHeartbeats 2000000 in
theorem far_01 {M : sM} {n o o0 o1 : Nat} {V0 : TV} (hob : oB M o = 0) (hb0 : oB M o0 = 3) (hb1 : oB M o1 = 1) (h01 : ¬ o0 = o1) (hbd : ∀ c, c < 3 → 0 ≤ mA M 3 c) :
    ltF M (plV M (oB M o) false (prF M 0 1 [o0, o1]) [o0, o1] V0) none [o0, o1] = obF M n [(0, (prF M 0 1 [o0, o1])), (1, ((prF M 0 1 [o0, o1]) + (-(mA M 14 o0))))] [(0, (prF M 0 1 [o0, o1])), (1, ((prF M 0 1 [o0, o1]) + (-(mA M 14 o0))))].length ∧ (∀ y d, (plV M (oB M o) false (prF M 0 1 [o0, o1]) [o0, o1] V0).2.2.1 y = some d → y ∈ [o0, o1] → d < 3) ∧ ∀ T, tlU (plV M (oB M o) false (prF M 0 1 [o0, o1]) [o0, o1] V0) [o0, o1] T = T + 2 := by
  have eV : (plV M (oB M o) false (prF M 0 1 [o0, o1]) [o0, o1] V0) = (V0.1, sU1 (sU1 V0.2.1 o0 (prF M 0 1 [o0, o1])) o1 ((prF M 0 1 [o0, o1]) + (-(mA M 14 o0))), sU1 (sU1 V0.2.2.1 o0 (some 0)) o1 (some 1), V0.2.2.2) := by
    unfold plV pcV pcV pcV
    rw [hob, hb0, hb1]
    rfl
  rw [eV]
  have c0 : ((V0.1, sU1 (sU1 V0.2.1 o0 (prF M 0 1 [o0, o1])) o1 ((prF M 0 1 [o0, o1]) + (-(mA M 14 o0))), sU1 (sU1 V0.2.2.1 o0 (some 0)) o1 (some 1), V0.2.2.2) : TV).2.2.1 o0 = some 0 := sU1_s2 h01
  have e0 : ((V0.1, sU1 (sU1 V0.2.1 o0 (prF M 0 1 [o0, o1])) o1 ((prF M 0 1 [o0, o1]) + (-(mA M 14 o0))), sU1 (sU1 V0.2.2.1 o0 (some 0)) o1 (some 1), V0.2.2.2) : TV).2.1 o0 = (prF M 0 1 [o0, o1]) := sU1_s2 h01
  have c1 : ((V0.1, sU1 (sU1 V0.2.1 o0 (prF M 0 1 [o0, o1])) o1 ((prF M 0 1 [o0, o1]) + (-(mA M 14 o0))), sU1 (sU1 V0.2.2.1 o0 (some 0)) o1 (some 1), V0.2.2.2) : TV).2.2.1 o1 = some 1 := sU1_e1
  have e1 : ((V0.1, sU1 (sU1 V0.2.1 o0 (prF M 0 1 [o0, o1])) o1 ((prF M 0 1 [o0, o1]) + (-(mA M 14 o0))), sU1 (sU1 V0.2.2.1 o0 (some 0)) o1 (some 1), V0.2.2.2) : TV).2.1 o1 = ((prF M 0 1 [o0, o1]) + (-(mA M 14 o0))) := sU1_e1
  generalize ((V0.1, sU1 (sU1 V0.2.1 o0 (prF M 0 1 [o0, o1])) o1 ((prF M 0 1 [o0, o1]) + (-(mA M 14 o0))), sU1 (sU1 V0.2.2.1 o0 (some 0)) o1 (some 1), V0.2.2.2) : TV) = W0 at *
  refine ⟨?_, fun y d hd hy => ?_, fun T => ?_⟩
  · show ltS M W0 (ltS M W0 none o0) o1 = obS M n [(0, (prF M 0 1 [o0, o1])), (1, ((prF M 0 1 [o0, o1]) + (-(mA M 14 o0))))] 1 (obS M n [(0, (prF M 0 1 [o0, o1])), (1, ((prF M 0 1 [o0, o1]) + (-(mA M 14 o0))))] 0 none)
    rw [ltS_ob (n := n) (k := 0) (Lg := [(0, (prF M 0 1 [o0, o1])), (1, ((prF M 0 1 [o0, o1]) + (-(mA M 14 o0))))]) (hbd 0 (by decide)) c0 e0 rfl rfl, ltS_ob (n := n) (k := 1) (Lg := [(0, (prF M 0 1 [o0, o1])), (1, ((prF M 0 1 [o0, o1]) + (-(mA M 14 o0))))]) (hbd 1 (by decide)) c1 e1 rfl rfl]
  · simp only [List.mem_cons, List.not_mem_nil, or_false] at hy
    rcases hy with e | e
    · rw [e, c0] at hd; cases hd; decide
    · rw [e, c1] at hd; cases hd; decide
  · show tlT W0 o1 (tlT W0 o0 T) = T + 2
    rw [tlT_s c0, tlT_s c1]
set_option maxHeartbeats 2000000 in
theorem far_02 {M : sM} {n o o0 o1 o2 : Nat} {V0 : TV} (hob : oB M o = 0) (hb0 : oB M o0 = 3) (hb1 : oB M o1 = 4) (hb2 : oB M o2 = 2) (h01 : ¬ o0 = o1) (h02 : ¬ o0 = o2) (h12 : ¬ o1 = o2) (hbd : ∀ c, c < 3 → 0 ≤ mA M 3 c) :
    ltF M (plV M (oB M o) false (prF M 0 2 [o0, o1, o2]) [o0, o1, o2] V0) none [o0, o1, o2] = obF M n [(0, (prF M 0 2 [o0, o1, o2])), (1, ((prF M 0 2 [o0, o1, o2]) + (-(mA M 14 o0)))), (2, (((prF M 0 2 [o0, o1, o2]) + (-(mA M 14 o0))) + (-(mA M 14 o1))))] [(0, (prF M 0 2 [o0, o1, o2])), (1, ((prF M 0 2 [o0, o1, o2]) + (-(mA M 14 o0)))), (2, (((prF M 0 2 [o0, o1, o2]) + (-(mA M 14 o0))) + (-(mA M 14 o1))))].length ∧ (∀ y d, (plV M (oB M o) false (prF M 0 2 [o0, o1, o2]) [o0, o1, o2] V0).2.2.1 y = some d → y ∈ [o0, o1, o2] → d < 3) ∧ ∀ T, tlU (plV M (oB M o) false (prF M 0 2 [o0, o1, o2]) [o0, o1, o2] V0) [o0, o1, o2] T = T + 3 := by
  have eV : (plV M (oB M o) false (prF M 0 2 [o0, o1, o2]) [o0, o1, o2] V0) = (V0.1, sU1 (sU1 (sU1 V0.2.1 o0 (prF M 0 2 [o0, o1, o2])) o1 ((prF M 0 2 [o0, o1, o2]) + (-(mA M 14 o0)))) o2 (((prF M 0 2 [o0, o1, o2]) + (-(mA M 14 o0))) + (-(mA M 14 o1))), sU1 (sU1 (sU1 V0.2.2.1 o0 (some 0)) o1 (some 1)) o2 (some 2), V0.2.2.2) := by
    unfold plV pcV pcV pcV pcV
    rw [hob, hb0, hb1, hb2]
    rfl
  rw [eV]
  have c0 : ((V0.1, sU1 (sU1 (sU1 V0.2.1 o0 (prF M 0 2 [o0, o1, o2])) o1 ((prF M 0 2 [o0, o1, o2]) + (-(mA M 14 o0)))) o2 (((prF M 0 2 [o0, o1, o2]) + (-(mA M 14 o0))) + (-(mA M 14 o1))), sU1 (sU1 (sU1 V0.2.2.1 o0 (some 0)) o1 (some 1)) o2 (some 2), V0.2.2.2) : TV).2.2.1 o0 = some 0 := sU1_s3 h01 h02
  have e0 : ((V0.1, sU1 (sU1 (sU1 V0.2.1 o0 (prF M 0 2 [o0, o1, o2])) o1 ((prF M 0 2 [o0, o1, o2]) + (-(mA M 14 o0)))) o2 (((prF M 0 2 [o0, o1, o2]) + (-(mA M 14 o0))) + (-(mA M 14 o1))), sU1 (sU1 (sU1 V0.2.2.1 o0 (some 0)) o1 (some 1)) o2 (some 2), V0.2.2.2) : TV).2.1 o0 = (prF M 0 2 [o0, o1, o2]) := sU1_s3 h01 h02
  have c1 : ((V0.1, sU1 (sU1 (sU1 V0.2.1 o0 (prF M 0 2 [o0, o1, o2])) o1 ((prF M 0 2 [o0, o1, o2]) + (-(mA M 14 o0)))) o2 (((prF M 0 2 [o0, o1, o2]) + (-(mA M 14 o0))) + (-(mA M 14 o1))), sU1 (sU1 (sU1 V0.2.2.1 o0 (some 0)) o1 (some 1)) o2 (some 2), V0.2.2.2) : TV).2.2.1 o1 = some 1 := sU1_s2 h12
  have e1 : ((V0.1, sU1 (sU1 (sU1 V0.2.1 o0 (prF M 0 2 [o0, o1, o2])) o1 ((prF M 0 2 [o0, o1, o2]) + (-(mA M 14 o0)))) o2 (((prF M 0 2 [o0, o1, o2]) + (-(mA M 14 o0))) + (-(mA M 14 o1))), sU1 (sU1 (sU1 V0.2.2.1 o0 (some 0)) o1 (some 1)) o2 (some 2), V0.2.2.2) : TV).2.1 o1 = ((prF M 0 2 [o0, o1, o2]) + (-(mA M 14 o0))) := sU1_s2 h12
  have c2 : ((V0.1, sU1 (sU1 (sU1 V0.2.1 o0 (prF M 0 2 [o0, o1, o2])) o1 ((prF M 0 2 [o0, o1, o2]) + (-(mA M 14 o0)))) o2 (((prF M 0 2 [o0, o1, o2]) + (-(mA M 14 o0))) + (-(mA M 14 o1))), sU1 (sU1 (sU1 V0.2.2.1 o0 (some 0)) o1 (some 1)) o2 (some 2), V0.2.2.2) : TV).2.2.1 o2 = some 2 := sU1_e1
  have e2 : ((V0.1, sU1 (sU1 (sU1 V0.2.1 o0 (prF M 0 2 [o0, o1, o2])) o1 ((prF M 0 2 [o0, o1, o2]) + (-(mA M 14 o0)))) o2 (((prF M 0 2 [o0, o1, o2]) + (-(mA M 14 o0))) + (-(mA M 14 o1))), sU1 (sU1 (sU1 V0.2.2.1 o0 (some 0)) o1 (some 1)) o2 (some 2), V0.2.2.2) : TV).2.1 o2 = (((prF M 0 2 [o0, o1, o2]) + (-(mA M 14 o0))) + (-(mA M 14 o1))) := sU1_e1
  generalize ((V0.1, sU1 (sU1 (sU1 V0.2.1 o0 (prF M 0 2 [o0, o1, o2])) o1 ((prF M 0 2 [o0, o1, o2]) + (-(mA M 14 o0)))) o2 (((prF M 0 2 [o0, o1, o2]) + (-(mA M 14 o0))) + (-(mA M 14 o1))), sU1 (sU1 (sU1 V0.2.2.1 o0 (some 0)) o1 (some 1)) o2 (some 2), V0.2.2.2) : TV) = W0 at *
  refine ⟨?_, fun y d hd hy => ?_, fun T => ?_⟩
  · show ltS M W0 (ltS M W0 (ltS M W0 none o0) o1) o2 = obS M n [(0, (prF M 0 2 [o0, o1, o2])), (1, ((prF M 0 2 [o0, o1, o2]) + (-(mA M 14 o0)))), (2, (((prF M 0 2 [o0, o1, o2]) + (-(mA M 14 o0))) + (-(mA M 14 o1))))] 2 (obS M n [(0, (prF M 0 2 [o0, o1, o2])), (1, ((prF M 0 2 [o0, o1, o2]) + (-(mA M 14 o0)))), (2, (((prF M 0 2 [o0, o1, o2]) + (-(mA M 14 o0))) + (-(mA M 14 o1))))] 1 (obS M n [(0, (prF M 0 2 [o0, o1, o2])), (1, ((prF M 0 2 [o0, o1, o2]) + (-(mA M 14 o0)))), (2, (((prF M 0 2 [o0, o1, o2]) + (-(mA M 14 o0))) + (-(mA M 14 o1))))] 0 none))
    rw [ltS_ob (n := n) (k := 0) (Lg := [(0, (prF M 0 2 [o0, o1, o2])), (1, ((prF M 0 2 [o0, o1, o2]) + (-(mA M 14 o0)))), (2, (((prF M 0 2 [o0, o1, o2]) + (-(mA M 14 o0))) + (-(mA M 14 o1))))]) (hbd 0 (by decide)) c0 e0 rfl rfl, ltS_ob (n := n) (k := 1) (Lg := [(0, (prF M 0 2 [o0, o1, o2])), (1, ((prF M 0 2 [o0, o1, o2]) + (-(mA M 14 o0)))), (2, (((prF M 0 2 [o0, o1, o2]) + (-(mA M 14 o0))) + (-(mA M 14 o1))))]) (hbd 1 (by decide)) c1 e1 rfl rfl, ltS_ob (n := n) (k := 2) (Lg := [(0, (prF M 0 2 [o0, o1, o2])), (1, ((prF M 0 2 [o0, o1, o2]) + (-(mA M 14 o0)))), (2, (((prF M 0 2 [o0, o1, o2]) + (-(mA M 14 o0))) + (-(mA M 14 o1))))]) (hbd 2 (by decide)) c2 e2 rfl rfl]
  · simp only [List.mem_cons, List.not_mem_nil, or_false] at hy
    rcases hy with e | e | e
    · rw [e, c0] at hd; cases hd; decide
    · rw [e, c1] at hd; cases hd; decide
    · rw [e, c2] at hd; cases hd; decide
  · show tlT W0 o2 (tlT W0 o1 (tlT W0 o0 T)) = T + 3
    rw [tlT_s c0, tlT_s c1, tlT_s c2]
set_option maxHeartbeats 2000000 in
theorem far_11 {M : sM} {n o o0 o1 : Nat} {V0 : TV} (hob : oB M o = 1) (hb0 : oB M o0 = 4) (hb1 : oB M o1 = 2) (h01 : ¬ o0 = o1) (hbd : ∀ c, c < 3 → 0 ≤ mA M 3 c) :
    ltF M (plV M (oB M o) false (prF M 1 1 [o0, o1]) [o0, o1] V0) none [o0, o1] = obF M n [(1, (prF M 1 1 [o0, o1])), (2, ((prF M 1 1 [o0, o1]) + (-(mA M 14 o0))))] [(1, (prF M 1 1 [o0, o1])), (2, ((prF M 1 1 [o0, o1]) + (-(mA M 14 o0))))].length ∧ (∀ y d, (plV M (oB M o) false (prF M 1 1 [o0, o1]) [o0, o1] V0).2.2.1 y = some d → y ∈ [o0, o1] → d < 3) ∧ ∀ T, tlU (plV M (oB M o) false (prF M 1 1 [o0, o1]) [o0, o1] V0) [o0, o1] T = T + 2 := by
  have eV : (plV M (oB M o) false (prF M 1 1 [o0, o1]) [o0, o1] V0) = (V0.1, sU1 (sU1 V0.2.1 o0 (prF M 1 1 [o0, o1])) o1 ((prF M 1 1 [o0, o1]) + (-(mA M 14 o0))), sU1 (sU1 V0.2.2.1 o0 (some 1)) o1 (some 2), V0.2.2.2) := by
    unfold plV pcV pcV pcV
    rw [hob, hb0, hb1]
    rfl
  rw [eV]
  have c0 : ((V0.1, sU1 (sU1 V0.2.1 o0 (prF M 1 1 [o0, o1])) o1 ((prF M 1 1 [o0, o1]) + (-(mA M 14 o0))), sU1 (sU1 V0.2.2.1 o0 (some 1)) o1 (some 2), V0.2.2.2) : TV).2.2.1 o0 = some 1 := sU1_s2 h01
  have e0 : ((V0.1, sU1 (sU1 V0.2.1 o0 (prF M 1 1 [o0, o1])) o1 ((prF M 1 1 [o0, o1]) + (-(mA M 14 o0))), sU1 (sU1 V0.2.2.1 o0 (some 1)) o1 (some 2), V0.2.2.2) : TV).2.1 o0 = (prF M 1 1 [o0, o1]) := sU1_s2 h01
  have c1 : ((V0.1, sU1 (sU1 V0.2.1 o0 (prF M 1 1 [o0, o1])) o1 ((prF M 1 1 [o0, o1]) + (-(mA M 14 o0))), sU1 (sU1 V0.2.2.1 o0 (some 1)) o1 (some 2), V0.2.2.2) : TV).2.2.1 o1 = some 2 := sU1_e1
  have e1 : ((V0.1, sU1 (sU1 V0.2.1 o0 (prF M 1 1 [o0, o1])) o1 ((prF M 1 1 [o0, o1]) + (-(mA M 14 o0))), sU1 (sU1 V0.2.2.1 o0 (some 1)) o1 (some 2), V0.2.2.2) : TV).2.1 o1 = ((prF M 1 1 [o0, o1]) + (-(mA M 14 o0))) := sU1_e1
  generalize ((V0.1, sU1 (sU1 V0.2.1 o0 (prF M 1 1 [o0, o1])) o1 ((prF M 1 1 [o0, o1]) + (-(mA M 14 o0))), sU1 (sU1 V0.2.2.1 o0 (some 1)) o1 (some 2), V0.2.2.2) : TV) = W0 at *
  refine ⟨?_, fun y d hd hy => ?_, fun T => ?_⟩
  · show ltS M W0 (ltS M W0 none o0) o1 = obS M n [(1, (prF M 1 1 [o0, o1])), (2, ((prF M 1 1 [o0, o1]) + (-(mA M 14 o0))))] 1 (obS M n [(1, (prF M 1 1 [o0, o1])), (2, ((prF M 1 1 [o0, o1]) + (-(mA M 14 o0))))] 0 none)
    rw [ltS_ob (n := n) (k := 0) (Lg := [(1, (prF M 1 1 [o0, o1])), (2, ((prF M 1 1 [o0, o1]) + (-(mA M 14 o0))))]) (hbd 1 (by decide)) c0 e0 rfl rfl, ltS_ob (n := n) (k := 1) (Lg := [(1, (prF M 1 1 [o0, o1])), (2, ((prF M 1 1 [o0, o1]) + (-(mA M 14 o0))))]) (hbd 2 (by decide)) c1 e1 rfl rfl]
  · simp only [List.mem_cons, List.not_mem_nil, or_false] at hy
    rcases hy with e | e
    · rw [e, c0] at hd; cases hd; decide
    · rw [e, c1] at hd; cases hd; decide
  · show tlT W0 o1 (tlT W0 o0 T) = T + 2
    rw [tlT_s c0, tlT_s c1]
set_option maxHeartbeats 2000000 in
theorem far_12 {M : sM} {n o o0 o1 : Nat} {V0 : TV} (hob : oB M o = 1) (hb0 : oB M o0 = 3) (hb1 : oB M o1 = 0) (h01 : ¬ o0 = o1) (hbd : ∀ c, c < 3 → 0 ≤ mA M 3 c) :
    ltF M (plV M (oB M o) false (prF M 1 2 [o0, o1]) [o0, o1] V0) none [o0, o1] = obF M n [(1, (prF M 1 2 [o0, o1])), (0, ((prF M 1 2 [o0, o1]) + (mA M 14 o0)))] [(1, (prF M 1 2 [o0, o1])), (0, ((prF M 1 2 [o0, o1]) + (mA M 14 o0)))].length ∧ (∀ y d, (plV M (oB M o) false (prF M 1 2 [o0, o1]) [o0, o1] V0).2.2.1 y = some d → y ∈ [o0, o1] → d < 3) ∧ ∀ T, tlU (plV M (oB M o) false (prF M 1 2 [o0, o1]) [o0, o1] V0) [o0, o1] T = T + 2 := by
  have eV : (plV M (oB M o) false (prF M 1 2 [o0, o1]) [o0, o1] V0) = (V0.1, sU1 (sU1 V0.2.1 o0 (prF M 1 2 [o0, o1])) o1 ((prF M 1 2 [o0, o1]) + (mA M 14 o0)), sU1 (sU1 V0.2.2.1 o0 (some 1)) o1 (some 0), V0.2.2.2) := by
    unfold plV pcV pcV pcV
    rw [hob, hb0, hb1]
    rfl
  rw [eV]
  have c0 : ((V0.1, sU1 (sU1 V0.2.1 o0 (prF M 1 2 [o0, o1])) o1 ((prF M 1 2 [o0, o1]) + (mA M 14 o0)), sU1 (sU1 V0.2.2.1 o0 (some 1)) o1 (some 0), V0.2.2.2) : TV).2.2.1 o0 = some 1 := sU1_s2 h01
  have e0 : ((V0.1, sU1 (sU1 V0.2.1 o0 (prF M 1 2 [o0, o1])) o1 ((prF M 1 2 [o0, o1]) + (mA M 14 o0)), sU1 (sU1 V0.2.2.1 o0 (some 1)) o1 (some 0), V0.2.2.2) : TV).2.1 o0 = (prF M 1 2 [o0, o1]) := sU1_s2 h01
  have c1 : ((V0.1, sU1 (sU1 V0.2.1 o0 (prF M 1 2 [o0, o1])) o1 ((prF M 1 2 [o0, o1]) + (mA M 14 o0)), sU1 (sU1 V0.2.2.1 o0 (some 1)) o1 (some 0), V0.2.2.2) : TV).2.2.1 o1 = some 0 := sU1_e1
  have e1 : ((V0.1, sU1 (sU1 V0.2.1 o0 (prF M 1 2 [o0, o1])) o1 ((prF M 1 2 [o0, o1]) + (mA M 14 o0)), sU1 (sU1 V0.2.2.1 o0 (some 1)) o1 (some 0), V0.2.2.2) : TV).2.1 o1 = ((prF M 1 2 [o0, o1]) + (mA M 14 o0)) := sU1_e1
  generalize ((V0.1, sU1 (sU1 V0.2.1 o0 (prF M 1 2 [o0, o1])) o1 ((prF M 1 2 [o0, o1]) + (mA M 14 o0)), sU1 (sU1 V0.2.2.1 o0 (some 1)) o1 (some 0), V0.2.2.2) : TV) = W0 at *
  refine ⟨?_, fun y d hd hy => ?_, fun T => ?_⟩
  · show ltS M W0 (ltS M W0 none o0) o1 = obS M n [(1, (prF M 1 2 [o0, o1])), (0, ((prF M 1 2 [o0, o1]) + (mA M 14 o0)))] 1 (obS M n [(1, (prF M 1 2 [o0, o1])), (0, ((prF M 1 2 [o0, o1]) + (mA M 14 o0)))] 0 none)
    rw [ltS_ob (n := n) (k := 0) (Lg := [(1, (prF M 1 2 [o0, o1])), (0, ((prF M 1 2 [o0, o1]) + (mA M 14 o0)))]) (hbd 1 (by decide)) c0 e0 rfl rfl, ltS_ob (n := n) (k := 1) (Lg := [(1, (prF M 1 2 [o0, o1])), (0, ((prF M 1 2 [o0, o1]) + (mA M 14 o0)))]) (hbd 0 (by decide)) c1 e1 rfl rfl]
  · simp only [List.mem_cons, List.not_mem_nil, or_false] at hy
    rcases hy with e | e
    · rw [e, c0] at hd; cases hd; decide
    · rw [e, c1] at hd; cases hd; decide
  · show tlT W0 o1 (tlT W0 o0 T) = T + 2
    rw [tlT_s c0, tlT_s c1]
set_option maxHeartbeats 2000000 in
theorem far_21 {M : sM} {n o o0 o1 : Nat} {V0 : TV} (hob : oB M o = 2) (hb0 : oB M o0 = 4) (hb1 : oB M o1 = 1) (h01 : ¬ o0 = o1) (hbd : ∀ c, c < 3 → 0 ≤ mA M 3 c) :
    ltF M (plV M (oB M o) false (prF M 2 1 [o0, o1]) [o0, o1] V0) none [o0, o1] = obF M n [(2, (prF M 2 1 [o0, o1])), (1, ((prF M 2 1 [o0, o1]) + (mA M 14 o0)))] [(2, (prF M 2 1 [o0, o1])), (1, ((prF M 2 1 [o0, o1]) + (mA M 14 o0)))].length ∧ (∀ y d, (plV M (oB M o) false (prF M 2 1 [o0, o1]) [o0, o1] V0).2.2.1 y = some d → y ∈ [o0, o1] → d < 3) ∧ ∀ T, tlU (plV M (oB M o) false (prF M 2 1 [o0, o1]) [o0, o1] V0) [o0, o1] T = T + 2 := by
  have eV : (plV M (oB M o) false (prF M 2 1 [o0, o1]) [o0, o1] V0) = (V0.1, sU1 (sU1 V0.2.1 o0 (prF M 2 1 [o0, o1])) o1 ((prF M 2 1 [o0, o1]) + (mA M 14 o0)), sU1 (sU1 V0.2.2.1 o0 (some 2)) o1 (some 1), V0.2.2.2) := by
    unfold plV pcV pcV pcV
    rw [hob, hb0, hb1]
    rfl
  rw [eV]
  have c0 : ((V0.1, sU1 (sU1 V0.2.1 o0 (prF M 2 1 [o0, o1])) o1 ((prF M 2 1 [o0, o1]) + (mA M 14 o0)), sU1 (sU1 V0.2.2.1 o0 (some 2)) o1 (some 1), V0.2.2.2) : TV).2.2.1 o0 = some 2 := sU1_s2 h01
  have e0 : ((V0.1, sU1 (sU1 V0.2.1 o0 (prF M 2 1 [o0, o1])) o1 ((prF M 2 1 [o0, o1]) + (mA M 14 o0)), sU1 (sU1 V0.2.2.1 o0 (some 2)) o1 (some 1), V0.2.2.2) : TV).2.1 o0 = (prF M 2 1 [o0, o1]) := sU1_s2 h01
  have c1 : ((V0.1, sU1 (sU1 V0.2.1 o0 (prF M 2 1 [o0, o1])) o1 ((prF M 2 1 [o0, o1]) + (mA M 14 o0)), sU1 (sU1 V0.2.2.1 o0 (some 2)) o1 (some 1), V0.2.2.2) : TV).2.2.1 o1 = some 1 := sU1_e1
  have e1 : ((V0.1, sU1 (sU1 V0.2.1 o0 (prF M 2 1 [o0, o1])) o1 ((prF M 2 1 [o0, o1]) + (mA M 14 o0)), sU1 (sU1 V0.2.2.1 o0 (some 2)) o1 (some 1), V0.2.2.2) : TV).2.1 o1 = ((prF M 2 1 [o0, o1]) + (mA M 14 o0)) := sU1_e1
  generalize ((V0.1, sU1 (sU1 V0.2.1 o0 (prF M 2 1 [o0, o1])) o1 ((prF M 2 1 [o0, o1]) + (mA M 14 o0)), sU1 (sU1 V0.2.2.1 o0 (some 2)) o1 (some 1), V0.2.2.2) : TV) = W0 at *
  refine ⟨?_, fun y d hd hy => ?_, fun T => ?_⟩
  · show ltS M W0 (ltS M W0 none o0) o1 = obS M n [(2, (prF M 2 1 [o0, o1])), (1, ((prF M 2 1 [o0, o1]) + (mA M 14 o0)))] 1 (obS M n [(2, (prF M 2 1 [o0, o1])), (1, ((prF M 2 1 [o0, o1]) + (mA M 14 o0)))] 0 none)
    rw [ltS_ob (n := n) (k := 0) (Lg := [(2, (prF M 2 1 [o0, o1])), (1, ((prF M 2 1 [o0, o1]) + (mA M 14 o0)))]) (hbd 2 (by decide)) c0 e0 rfl rfl, ltS_ob (n := n) (k := 1) (Lg := [(2, (prF M 2 1 [o0, o1])), (1, ((prF M 2 1 [o0, o1]) + (mA M 14 o0)))]) (hbd 1 (by decide)) c1 e1 rfl rfl]
  · simp only [List.mem_cons, List.not_mem_nil, or_false] at hy
    rcases hy with e | e
    · rw [e, c0] at hd; cases hd; decide
    · rw [e, c1] at hd; cases hd; decide
  · show tlT W0 o1 (tlT W0 o0 T) = T + 2
    rw [tlT_s c0, tlT_s c1]
set_option maxHeartbeats 2000000 in
theorem far_22 {M : sM} {n o o0 o1 o2 : Nat} {V0 : TV} (hob : oB M o = 2) (hb0 : oB M o0 = 4) (hb1 : oB M o1 = 3) (hb2 : oB M o2 = 0) (h01 : ¬ o0 = o1) (h02 : ¬ o0 = o2) (h12 : ¬ o1 = o2) (hbd : ∀ c, c < 3 → 0 ≤ mA M 3 c) :
    ltF M (plV M (oB M o) false (prF M 2 2 [o0, o1, o2]) [o0, o1, o2] V0) none [o0, o1, o2] = obF M n [(2, (prF M 2 2 [o0, o1, o2])), (1, ((prF M 2 2 [o0, o1, o2]) + (mA M 14 o0))), (0, (((prF M 2 2 [o0, o1, o2]) + (mA M 14 o0)) + (mA M 14 o1)))] [(2, (prF M 2 2 [o0, o1, o2])), (1, ((prF M 2 2 [o0, o1, o2]) + (mA M 14 o0))), (0, (((prF M 2 2 [o0, o1, o2]) + (mA M 14 o0)) + (mA M 14 o1)))].length ∧ (∀ y d, (plV M (oB M o) false (prF M 2 2 [o0, o1, o2]) [o0, o1, o2] V0).2.2.1 y = some d → y ∈ [o0, o1, o2] → d < 3) ∧ ∀ T, tlU (plV M (oB M o) false (prF M 2 2 [o0, o1, o2]) [o0, o1, o2] V0) [o0, o1, o2] T = T + 3 := by
  have eV : (plV M (oB M o) false (prF M 2 2 [o0, o1, o2]) [o0, o1, o2] V0) = (V0.1, sU1 (sU1 (sU1 V0.2.1 o0 (prF M 2 2 [o0, o1, o2])) o1 ((prF M 2 2 [o0, o1, o2]) + (mA M 14 o0))) o2 (((prF M 2 2 [o0, o1, o2]) + (mA M 14 o0)) + (mA M 14 o1)), sU1 (sU1 (sU1 V0.2.2.1 o0 (some 2)) o1 (some 1)) o2 (some 0), V0.2.2.2) := by
    unfold plV pcV pcV pcV pcV
    rw [hob, hb0, hb1, hb2]
    rfl
  rw [eV]
  have c0 : ((V0.1, sU1 (sU1 (sU1 V0.2.1 o0 (prF M 2 2 [o0, o1, o2])) o1 ((prF M 2 2 [o0, o1, o2]) + (mA M 14 o0))) o2 (((prF M 2 2 [o0, o1, o2]) + (mA M 14 o0)) + (mA M 14 o1)), sU1 (sU1 (sU1 V0.2.2.1 o0 (some 2)) o1 (some 1)) o2 (some 0), V0.2.2.2) : TV).2.2.1 o0 = some 2 := sU1_s3 h01 h02
  have e0 : ((V0.1, sU1 (sU1 (sU1 V0.2.1 o0 (prF M 2 2 [o0, o1, o2])) o1 ((prF M 2 2 [o0, o1, o2]) + (mA M 14 o0))) o2 (((prF M 2 2 [o0, o1, o2]) + (mA M 14 o0)) + (mA M 14 o1)), sU1 (sU1 (sU1 V0.2.2.1 o0 (some 2)) o1 (some 1)) o2 (some 0), V0.2.2.2) : TV).2.1 o0 = (prF M 2 2 [o0, o1, o2]) := sU1_s3 h01 h02
  have c1 : ((V0.1, sU1 (sU1 (sU1 V0.2.1 o0 (prF M 2 2 [o0, o1, o2])) o1 ((prF M 2 2 [o0, o1, o2]) + (mA M 14 o0))) o2 (((prF M 2 2 [o0, o1, o2]) + (mA M 14 o0)) + (mA M 14 o1)), sU1 (sU1 (sU1 V0.2.2.1 o0 (some 2)) o1 (some 1)) o2 (some 0), V0.2.2.2) : TV).2.2.1 o1 = some 1 := sU1_s2 h12
  have e1 : ((V0.1, sU1 (sU1 (sU1 V0.2.1 o0 (prF M 2 2 [o0, o1, o2])) o1 ((prF M 2 2 [o0, o1, o2]) + (mA M 14 o0))) o2 (((prF M 2 2 [o0, o1, o2]) + (mA M 14 o0)) + (mA M 14 o1)), sU1 (sU1 (sU1 V0.2.2.1 o0 (some 2)) o1 (some 1)) o2 (some 0), V0.2.2.2) : TV).2.1 o1 = ((prF M 2 2 [o0, o1, o2]) + (mA M 14 o0)) := sU1_s2 h12
  have c2 : ((V0.1, sU1 (sU1 (sU1 V0.2.1 o0 (prF M 2 2 [o0, o1, o2])) o1 ((prF M 2 2 [o0, o1, o2]) + (mA M 14 o0))) o2 (((prF M 2 2 [o0, o1, o2]) + (mA M 14 o0)) + (mA M 14 o1)), sU1 (sU1 (sU1 V0.2.2.1 o0 (some 2)) o1 (some 1)) o2 (some 0), V0.2.2.2) : TV).2.2.1 o2 = some 0 := sU1_e1
  have e2 : ((V0.1, sU1 (sU1 (sU1 V0.2.1 o0 (prF M 2 2 [o0, o1, o2])) o1 ((prF M 2 2 [o0, o1, o2]) + (mA M 14 o0))) o2 (((prF M 2 2 [o0, o1, o2]) + (mA M 14 o0)) + (mA M 14 o1)), sU1 (sU1 (sU1 V0.2.2.1 o0 (some 2)) o1 (some 1)) o2 (some 0), V0.2.2.2) : TV).2.1 o2 = (((prF M 2 2 [o0, o1, o2]) + (mA M 14 o0)) + (mA M 14 o1)) := sU1_e1
  generalize ((V0.1, sU1 (sU1 (sU1 V0.2.1 o0 (prF M 2 2 [o0, o1, o2])) o1 ((prF M 2 2 [o0, o1, o2]) + (mA M 14 o0))) o2 (((prF M 2 2 [o0, o1, o2]) + (mA M 14 o0)) + (mA M 14 o1)), sU1 (sU1 (sU1 V0.2.2.1 o0 (some 2)) o1 (some 1)) o2 (some 0), V0.2.2.2) : TV) = W0 at *
  refine ⟨?_, fun y d hd hy => ?_, fun T => ?_⟩
  · show ltS M W0 (ltS M W0 (ltS M W0 none o0) o1) o2 = obS M n [(2, (prF M 2 2 [o0, o1, o2])), (1, ((prF M 2 2 [o0, o1, o2]) + (mA M 14 o0))), (0, (((prF M 2 2 [o0, o1, o2]) + (mA M 14 o0)) + (mA M 14 o1)))] 2 (obS M n [(2, (prF M 2 2 [o0, o1, o2])), (1, ((prF M 2 2 [o0, o1, o2]) + (mA M 14 o0))), (0, (((prF M 2 2 [o0, o1, o2]) + (mA M 14 o0)) + (mA M 14 o1)))] 1 (obS M n [(2, (prF M 2 2 [o0, o1, o2])), (1, ((prF M 2 2 [o0, o1, o2]) + (mA M 14 o0))), (0, (((prF M 2 2 [o0, o1, o2]) + (mA M 14 o0)) + (mA M 14 o1)))] 0 none))
    rw [ltS_ob (n := n) (k := 0) (Lg := [(2, (prF M 2 2 [o0, o1, o2])), (1, ((prF M 2 2 [o0, o1, o2]) + (mA M 14 o0))), (0, (((prF M 2 2 [o0, o1, o2]) + (mA M 14 o0)) + (mA M 14 o1)))]) (hbd 2 (by decide)) c0 e0 rfl rfl, ltS_ob (n := n) (k := 1) (Lg := [(2, (prF M 2 2 [o0, o1, o2])), (1, ((prF M 2 2 [o0, o1, o2]) + (mA M 14 o0))), (0, (((prF M 2 2 [o0, o1, o2]) + (mA M 14 o0)) + (mA M 14 o1)))]) (hbd 1 (by decide)) c1 e1 rfl rfl, ltS_ob (n := n) (k := 2) (Lg := [(2, (prF M 2 2 [o0, o1, o2])), (1, ((prF M 2 2 [o0, o1, o2]) + (mA M 14 o0))), (0, (((prF M 2 2 [o0, o1, o2]) + (mA M 14 o0)) + (mA M 14 o1)))]) (hbd 0 (by decide)) c2 e2 rfl rfl]
  · simp only [List.mem_cons, List.not_mem_nil, or_false] at hy
    rcases hy with e | e | e
    · rw [e, c0] at hd; cases hd; decide
    · rw [e, c1] at hd; cases hd; decide
    · rw [e, c2] at hd; cases hd; decide
  · show tlT W0 o2 (tlT W0 o1 (tlT W0 o0 T)) = T + 3
    rw [tlT_s c0, tlT_s c1, tlT_s c2]
set_option maxHeartbeats 2000000 in
theorem far_31 {M : sM} {n o o0 o1 : Nat} {V0 : TV} (hob : oB M o = 3) (hb0 : oB M o0 = 0) (hb1 : oB M o1 = 1) (h01 : ¬ o0 = o1) (hbd : ∀ c, c < 3 → 0 ≤ mA M 3 c) :
    ltF M (plV M (oB M o) false (prF M 3 1 [o0, o1]) [o0, o1] V0) none [o0, o1] = obF M n [(0, (mA M 14 o0)), (1, (mA M 14 o1))] [(0, (mA M 14 o0)), (1, (mA M 14 o1))].length ∧ (∀ y d, (plV M (oB M o) false (prF M 3 1 [o0, o1]) [o0, o1] V0).2.2.1 y = some d → y ∈ [o0, o1] → d < 3) ∧ ∀ T, tlU (plV M (oB M o) false (prF M 3 1 [o0, o1]) [o0, o1] V0) [o0, o1] T = T + 2 := by
  have eV : (plV M (oB M o) false (prF M 3 1 [o0, o1]) [o0, o1] V0) = (V0.1, sU1 (sU1 V0.2.1 o0 (mA M 14 o0)) o1 (mA M 14 o1), sU1 (sU1 V0.2.2.1 o0 (some 0)) o1 (some 1), V0.2.2.2) := by
    unfold plV psV psV psV
    rw [hob]
    rfl
  rw [eV]
  have c0 : ((V0.1, sU1 (sU1 V0.2.1 o0 (mA M 14 o0)) o1 (mA M 14 o1), sU1 (sU1 V0.2.2.1 o0 (some 0)) o1 (some 1), V0.2.2.2) : TV).2.2.1 o0 = some 0 := sU1_s2 h01
  have e0 : ((V0.1, sU1 (sU1 V0.2.1 o0 (mA M 14 o0)) o1 (mA M 14 o1), sU1 (sU1 V0.2.2.1 o0 (some 0)) o1 (some 1), V0.2.2.2) : TV).2.1 o0 = (mA M 14 o0) := sU1_s2 h01
  have c1 : ((V0.1, sU1 (sU1 V0.2.1 o0 (mA M 14 o0)) o1 (mA M 14 o1), sU1 (sU1 V0.2.2.1 o0 (some 0)) o1 (some 1), V0.2.2.2) : TV).2.2.1 o1 = some 1 := sU1_e1
  have e1 : ((V0.1, sU1 (sU1 V0.2.1 o0 (mA M 14 o0)) o1 (mA M 14 o1), sU1 (sU1 V0.2.2.1 o0 (some 0)) o1 (some 1), V0.2.2.2) : TV).2.1 o1 = (mA M 14 o1) := sU1_e1
  generalize ((V0.1, sU1 (sU1 V0.2.1 o0 (mA M 14 o0)) o1 (mA M 14 o1), sU1 (sU1 V0.2.2.1 o0 (some 0)) o1 (some 1), V0.2.2.2) : TV) = W0 at *
  refine ⟨?_, fun y d hd hy => ?_, fun T => ?_⟩
  · show ltS M W0 (ltS M W0 none o0) o1 = obS M n [(0, (mA M 14 o0)), (1, (mA M 14 o1))] 1 (obS M n [(0, (mA M 14 o0)), (1, (mA M 14 o1))] 0 none)
    rw [ltS_ob (n := n) (k := 0) (Lg := [(0, (mA M 14 o0)), (1, (mA M 14 o1))]) (hbd 0 (by decide)) c0 e0 rfl rfl, ltS_ob (n := n) (k := 1) (Lg := [(0, (mA M 14 o0)), (1, (mA M 14 o1))]) (hbd 1 (by decide)) c1 e1 rfl rfl]
  · simp only [List.mem_cons, List.not_mem_nil, or_false] at hy
    rcases hy with e | e
    · rw [e, c0] at hd; cases hd; decide
    · rw [e, c1] at hd; cases hd; decide
  · show tlT W0 o1 (tlT W0 o0 T) = T + 2
    rw [tlT_s c0, tlT_s c1]
set_option maxHeartbeats 2000000 in
theorem far_41 {M : sM} {n o o0 o1 : Nat} {V0 : TV} (hob : oB M o = 4) (hb0 : oB M o0 = 1) (hb1 : oB M o1 = 2) (h01 : ¬ o0 = o1) (hbd : ∀ c, c < 3 → 0 ≤ mA M 3 c) :
    ltF M (plV M (oB M o) false (prF M 4 1 [o0, o1]) [o0, o1] V0) none [o0, o1] = obF M n [(1, (mA M 14 o0)), (2, (mA M 14 o1))] [(1, (mA M 14 o0)), (2, (mA M 14 o1))].length ∧ (∀ y d, (plV M (oB M o) false (prF M 4 1 [o0, o1]) [o0, o1] V0).2.2.1 y = some d → y ∈ [o0, o1] → d < 3) ∧ ∀ T, tlU (plV M (oB M o) false (prF M 4 1 [o0, o1]) [o0, o1] V0) [o0, o1] T = T + 2 := by
  have eV : (plV M (oB M o) false (prF M 4 1 [o0, o1]) [o0, o1] V0) = (V0.1, sU1 (sU1 V0.2.1 o0 (mA M 14 o0)) o1 (mA M 14 o1), sU1 (sU1 V0.2.2.1 o0 (some 1)) o1 (some 2), V0.2.2.2) := by
    unfold plV psV psV psV
    rw [hob]
    rfl
  rw [eV]
  have c0 : ((V0.1, sU1 (sU1 V0.2.1 o0 (mA M 14 o0)) o1 (mA M 14 o1), sU1 (sU1 V0.2.2.1 o0 (some 1)) o1 (some 2), V0.2.2.2) : TV).2.2.1 o0 = some 1 := sU1_s2 h01
  have e0 : ((V0.1, sU1 (sU1 V0.2.1 o0 (mA M 14 o0)) o1 (mA M 14 o1), sU1 (sU1 V0.2.2.1 o0 (some 1)) o1 (some 2), V0.2.2.2) : TV).2.1 o0 = (mA M 14 o0) := sU1_s2 h01
  have c1 : ((V0.1, sU1 (sU1 V0.2.1 o0 (mA M 14 o0)) o1 (mA M 14 o1), sU1 (sU1 V0.2.2.1 o0 (some 1)) o1 (some 2), V0.2.2.2) : TV).2.2.1 o1 = some 2 := sU1_e1
  have e1 : ((V0.1, sU1 (sU1 V0.2.1 o0 (mA M 14 o0)) o1 (mA M 14 o1), sU1 (sU1 V0.2.2.1 o0 (some 1)) o1 (some 2), V0.2.2.2) : TV).2.1 o1 = (mA M 14 o1) := sU1_e1
  generalize ((V0.1, sU1 (sU1 V0.2.1 o0 (mA M 14 o0)) o1 (mA M 14 o1), sU1 (sU1 V0.2.2.1 o0 (some 1)) o1 (some 2), V0.2.2.2) : TV) = W0 at *
  refine ⟨?_, fun y d hd hy => ?_, fun T => ?_⟩
  · show ltS M W0 (ltS M W0 none o0) o1 = obS M n [(1, (mA M 14 o0)), (2, (mA M 14 o1))] 1 (obS M n [(1, (mA M 14 o0)), (2, (mA M 14 o1))] 0 none)
    rw [ltS_ob (n := n) (k := 0) (Lg := [(1, (mA M 14 o0)), (2, (mA M 14 o1))]) (hbd 1 (by decide)) c0 e0 rfl rfl, ltS_ob (n := n) (k := 1) (Lg := [(1, (mA M 14 o0)), (2, (mA M 14 o1))]) (hbd 2 (by decide)) c1 e1 rfl rfl]
  · simp only [List.mem_cons, List.not_mem_nil, or_false] at hy
    rcases hy with e | e
    · rw [e, c0] at hd; cases hd; decide
    · rw [e, c1] at hd; cases hd; decide
  · show tlT W0 o1 (tlT W0 o0 T) = T + 2
    rw [tlT_s c0, tlT_s c1]
