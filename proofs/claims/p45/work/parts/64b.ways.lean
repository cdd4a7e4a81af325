/-! printed by way64.py -/
set_option maxHeartbeats 2000000 in
theorem way_01 {M : sM} {n T o o0 o1 : Nat} {V0 : TV} (hob : oB M o = 0) (hb0 : oB M o0 = 3) (hb1 : oB M o1 = 1) (h01 : ¬ o0 = o1) (h19 : mA M 19 o = 4) (ho : ¬ o ∈ [o0, o1]) :
    finF (wayF M n T o (prF M 0 1 [o0, o1]) [o0, o1] (plV M (oB M o) false (prF M 0 1 [o0, o1]) [o0, o1] V0)) o = (bif mB M 3 o then (reF (reF (reF (ofF (flF (flF (mbF (mbF M T 0 (mB M 3 o) (oM M o) (oM M o0) (prF M 0 1 [o0, o1]) (mnc (mA M 17 o1) (mnc (mA M 17 o0) (mA M 15 o))) true) (T + 1) 1 (mB M 3 o) (oM M o0) (oM M o1) ((prF M 0 1 [o0, o1]) + (-(mA M 14 o0))) (mnc (mA M 17 o1) (mnc (mA M 17 o0) (mA M 15 o))) true) o0 (mnc (mA M 17 o1) (mnc (mA M 17 o0) (mA M 15 o)))) o1 (mnc (mA M 17 o1) (mnc (mA M 17 o0) (mA M 15 o)))) o (mnc (mA M 17 o1) (mnc (mA M 17 o0) (mA M 15 o)))) n 0 (prF M 0 1 [o0, o1])) n 3 (mA M 14 o0)) n 1 (mA M 14 o1)) else (reF (reF (reF (ofF (flF (flF (mbF (mbF M T 0 (mB M 3 o) (oM M o) (oM M o0) (prF M 0 1 [o0, o1]) (mnc (mA M 17 o1) (mnc (mA M 17 o0) (mA M 15 o))) true) (T + 1) 1 (mB M 3 o) (oM M o0) (oM M o1) ((prF M 0 1 [o0, o1]) + (-(mA M 14 o0))) (mnc (mA M 17 o1) (mnc (mA M 17 o0) (mA M 15 o))) true) o0 (mnc (mA M 17 o1) (mnc (mA M 17 o0) (mA M 15 o)))) o1 (mnc (mA M 17 o1) (mnc (mA M 17 o0) (mA M 15 o)))) o (mnc (mA M 17 o1) (mnc (mA M 17 o0) (mA M 15 o)))) n 0 (prF M 0 1 [o0, o1])) n 3 (mA M 14 o0)) n 1 (mA M 14 o1))) := by
  rw [way_fin h19 ho]
  have eV : (plV M (oB M o) false (prF M 0 1 [o0, o1]) [o0, o1] V0) = (V0.1, sU1 (sU1 V0.2.1 o0 (prF M 0 1 [o0, o1])) o1 ((prF M 0 1 [o0, o1]) + (-(mA M 14 o0))), sU1 (sU1 V0.2.2.1 o0 (some 0)) o1 (some 1), V0.2.2.2) := by
    unfold plV pcV pcV pcV
    rw [hob, hb0, hb1]
    rfl
  rw [eV]
  have c0 : ((V0.1, sU1 (sU1 V0.2.1 o0 (prF M 0 1 [o0, o1])) o1 ((prF M 0 1 [o0, o1]) + (-(mA M 14 o0))), sU1 (sU1 V0.2.2.1 o0 (some 0)) o1 (some 1), V0.2.2.2) : TV).2.2.1 o0 = some 0 := sU1_s2 h01
  have e0 : ((V0.1, sU1 (sU1 V0.2.1 o0 (prF M 0 1 [o0, o1])) o1 ((prF M 0 1 [o0, o1]) + (-(mA M 14 o0))), sU1 (sU1 V0.2.2.1 o0 (some 0)) o1 (some 1), V0.2.2.2) : TV).2.1 o0 = (prF M 0 1 [o0, o1]) := sU1_s2 h01
  have c1 : ((V0.1, sU1 (sU1 V0.2.1 o0 (prF M 0 1 [o0, o1])) o1 ((prF M 0 1 [o0, o1]) + (-(mA M 14 o0))), sU1 (sU1 V0.2.2.1 o0 (some 0)) o1 (some 1), V0.2.2.2) : TV).2.2.1 o1 = some 1 := sU1_e1
  have e1 : ((V0.1, sU1 (sU1 V0.2.1 o0 (prF M 0 1 [o0, o1])) o1 ((prF M 0 1 [o0, o1]) + (-(mA M 14 o0))), sU1 (sU1 V0.2.2.1 o0 (some 0)) o1 (some 1), V0.2.2.2) : TV).2.1 o1 = ((prF M 0 1 [o0, o1]) + (-(mA M 14 o0))) := sU1_e1
  generalize ((V0.1, sU1 (sU1 V0.2.1 o0 (prF M 0 1 [o0, o1])) o1 ((prF M 0 1 [o0, o1]) + (-(mA M 14 o0))), sU1 (sU1 V0.2.2.1 o0 (some 0)) o1 (some 1), V0.2.2.2) : TV) = W0 at *
  rw [hob]
  show rfL M n [o0, o1] (reF (ofF (flS (szF M [o0, o1] (mA M 15 o)) [o0, o1] (mlG M o (szF M [o0, o1] (mA M 15 o)) false W0 0 (oM M o) [o0, o1] M T)) o (szF M [o0, o1] (mA M 15 o))) n 0 (prF M 0 1 [o0, o1])) = _
  have em : mlG M o (szF M [o0, o1] (mA M 15 o)) false W0 0 (oM M o) [o0, o1] M T = (mbF (mbF M T 0 (mB M 3 o) (oM M o) (oM M o0) (prF M 0 1 [o0, o1]) (szF M [o0, o1] (mA M 15 o)) true) (T + 1) 1 (mB M 3 o) (oM M o0) (oM M o1) ((prF M 0 1 [o0, o1]) + (-(mA M 14 o0))) (szF M [o0, o1] (mA M 15 o)) true) := by
    show tlM M o (szF M [o0, o1] (mA M 15 o)) false W0 1 (bif false then (oM M o) else oM M o0) o1 (tlM M o (szF M [o0, o1] (mA M 15 o)) false W0 0 (oM M o) o0 M T) (tlT W0 o0 T) = _
    rw [tlT_s c0, mb_tl (s := (mB M 3 o)) c0 e0 rfl, mb_tl (s := (mB M 3 o)) c1 e1 rfl]
    rfl
  rw [em]
  simp only [szF, flS, rfL, hb0, hb1, bif_same]
set_option maxHeartbeats 2000000 in
theorem way_02 {M : sM} {n T o o0 o1 o2 : Nat} {V0 : TV} (hob : oB M o = 0) (hb0 : oB M o0 = 3) (hb1 : oB M o1 = 4) (hb2 : oB M o2 = 2) (h01 : ¬ o0 = o1) (h02 : ¬ o0 = o2) (h12 : ¬ o1 = o2) (h19 : mA M 19 o = 4) (ho : ¬ o ∈ [o0, o1, o2]) :
    finF (wayF M n T o (prF M 0 2 [o0, o1, o2]) [o0, o1, o2] (plV M (oB M o) false (prF M 0 2 [o0, o1, o2]) [o0, o1, o2] V0)) o = (bif mB M 3 o then (reF (reF (reF (reF (ofF (flF (flF (flF (mbF (mbF (mbF M T 0 (mB M 3 o) (oM M o) (oM M o0) (prF M 0 2 [o0, o1, o2]) (mnc (mA M 17 o2) (mnc (mA M 17 o1) (mnc (mA M 17 o0) (mA M 15 o)))) true) (T + 1) 1 (mB M 3 o) (oM M o0) (oM M o1) ((prF M 0 2 [o0, o1, o2]) + (-(mA M 14 o0))) (mnc (mA M 17 o2) (mnc (mA M 17 o1) (mnc (mA M 17 o0) (mA M 15 o)))) true) ((T + 1) + 1) 2 (mB M 3 o) (oM M o1) (oM M o2) (((prF M 0 2 [o0, o1, o2]) + (-(mA M 14 o0))) + (-(mA M 14 o1))) (mnc (mA M 17 o2) (mnc (mA M 17 o1) (mnc (mA M 17 o0) (mA M 15 o)))) true) o0 (mnc (mA M 17 o2) (mnc (mA M 17 o1) (mnc (mA M 17 o0) (mA M 15 o))))) o1 (mnc (mA M 17 o2) (mnc (mA M 17 o1) (mnc (mA M 17 o0) (mA M 15 o))))) o2 (mnc (mA M 17 o2) (mnc (mA M 17 o1) (mnc (mA M 17 o0) (mA M 15 o))))) o (mnc (mA M 17 o2) (mnc (mA M 17 o1) (mnc (mA M 17 o0) (mA M 15 o))))) n 0 (prF M 0 2 [o0, o1, o2])) n 3 (mA M 14 o0)) n 4 (mA M 14 o1)) n 2 (mA M 14 o2)) else (reF (reF (reF (reF (ofF (flF (flF (flF (mbF (mbF (mbF M T 0 (mB M 3 o) (oM M o) (oM M o0) (prF M 0 2 [o0, o1, o2]) (mnc (mA M 17 o2) (mnc (mA M 17 o1) (mnc (mA M 17 o0) (mA M 15 o)))) true) (T + 1) 1 (mB M 3 o) (oM M o0) (oM M o1) ((prF M 0 2 [o0, o1, o2]) + (-(mA M 14 o0))) (mnc (mA M 17 o2) (mnc (mA M 17 o1) (mnc (mA M 17 o0) (mA M 15 o)))) true) ((T + 1) + 1) 2 (mB M 3 o) (oM M o1) (oM M o2) (((prF M 0 2 [o0, o1, o2]) + (-(mA M 14 o0))) + (-(mA M 14 o1))) (mnc (mA M 17 o2) (mnc (mA M 17 o1) (mnc (mA M 17 o0) (mA M 15 o)))) true) o0 (mnc (mA M 17 o2) (mnc (mA M 17 o1) (mnc (mA M 17 o0) (mA M 15 o))))) o1 (mnc (mA M 17 o2) (mnc (mA M 17 o1) (mnc (mA M 17 o0) (mA M 15 o))))) o2 (mnc (mA M 17 o2) (mnc (mA M 17 o1) (mnc (mA M 17 o0) (mA M 15 o))))) o (mnc (mA M 17 o2) (mnc (mA M 17 o1) (mnc (mA M 17 o0) (mA M 15 o))))) n 0 (prF M 0 2 [o0, o1, o2])) n 3 (mA M 14 o0)) n 4 (mA M 14 o1)) n 2 (mA M 14 o2))) := by
  rw [way_fin h19 ho]
  have eV : (plV M (oB M o) false (prF M 0 2 [o0, o1, o2]) [o0, o1, o2] V0) = (V0.1, sU1 (sU1 (sU1 V0.2.1 o0 (prF M 0 2 [o0, o1, o2])) o1 ((prF M 0 2 [o0, o1, o2]) + (-(mA M 14 o0)))) o2 (((prF M 0 2 [o0, o1, o2]) + (-(mA M 14 o0))) + (-(mA M 14 o1))), sU1 (sU1 (sU1 V0.2.2.1 o0 (some 0)) o1 (some 1)) o2 (some 2), V0.2.2.2) := by
    unfold plV pcV pcV pcV pcV
    rw [hob, hb0, hb1, hb2]
    rfl
  rw [eV]
  have c0 : ((V0.1, sU1 (sU1 (sU1 V0.2.1 o0 (prF M 0 2 [o0, o1, o2])) o1 ((prF M 0 2 [o0, o1, o2]) + (-(mA M 14 o0)))) o2 (((prF M 0 2 [o0, o1, o2]) + (-(mA M 14 o0))) + (-(mA M 14 o1))), sU1 (sU1 (sU1 V0.2.2.1 o0 (some 0)) o1 (some 1)) o2 (some 2), V0.2.2.2) : TV).2.2.1 o0 = some 0 := sU1_s3 h01 h02
  have e0 : ((V0.1, sU1 (sU1 (sU1 V0.2.1 o0 (prF M 0 2 [o0, o1, o2])) o1 ((prF M 0 2 [o0, o1, o2]) + (-(mA M 14 o0)))) o2 (((prF M 0 2 [o0, o1, o2]) + (-(mA M 14 o0))) + (-(mA M 14 o1))), sU1 (sU1 (sU1 V0.2.2.1 o0 (some 0)) o1 (some 1)) o2 (some 2), V0.2.2.2) : TV).2.1 o0 = (prF M 0 2 [o0, o1, o2]) := sU1_s3 h01 h02
  have c1 : ((V0.1, sU1 (sU1 (sU1 V0.2.1 o0 (prF M 0 2 [o0, o1, o2])) o1 ((prF M 0 2 [o0, o1, o2]) + (-(mA M 14 o0)))) o2 (((prF M 0 2 [o0, o1, o2]) + (-(mA M 14 o0))) + (-(mA M 14 o1))), sU1 (sU1 (sU1 V0.2.2.1 o0 (some 0)) o1 (some 1)) o2 (some 2), V0.2.2.2) : TV).2.2.1 o1 = some 1 := sU1_s2 h12
  have e1 : ((V0.1, sU1 (sU1 (sU1 V0.2.1 o0 (prF M 0 2 [o0, o1, o2])) o1 ((prF M 0 2 [o0, o1, o2]) + (-(mA M 14 o0)))) o2 (((prF M 0 2 [o0, o1, o2]) + (-(mA M 14 o0))) + (-(mA M 14 o1))), sU1 (sU1 (sU1 V0.2.2.1 o0 (some 0)) o1 (some 1)) o2 (some 2), V0.2.2.2) : TV).2.1 o1 = ((prF M 0 2 [o0, o1, o2]) + (-(mA M 14 o0))) := sU1_s2 h12
  have c2 : ((V0.1, sU1 (sU1 (sU1 V0.2.1 o0 (prF M 0 2 [o0, o1, o2])) o1 ((prF M 0 2 [o0, o1, o2]) + (-(mA M 14 o0)))) o2 (((prF M 0 2 [o0, o1, o2]) + (-(mA M 14 o0))) + (-(mA M 14 o1))), sU1 (sU1 (sU1 V0.2.2.1 o0 (some 0)) o1 (some 1)) o2 (some 2), V0.2.2.2) : TV).2.2.1 o2 = some 2 := sU1_e1
  have e2 : ((V0.1, sU1 (sU1 (sU1 V0.2.1 o0 (prF M 0 2 [o0, o1, o2])) o1 ((prF M 0 2 [o0, o1, o2]) + (-(mA M 14 o0)))) o2 (((prF M 0 2 [o0, o1, o2]) + (-(mA M 14 o0))) + (-(mA M 14 o1))), sU1 (sU1 (sU1 V0.2.2.1 o0 (some 0)) o1 (some 1)) o2 (some 2), V0.2.2.2) : TV).2.1 o2 = (((prF M 0 2 [o0, o1, o2]) + (-(mA M 14 o0))) + (-(mA M 14 o1))) := sU1_e1
  generalize ((V0.1, sU1 (sU1 (sU1 V0.2.1 o0 (prF M 0 2 [o0, o1, o2])) o1 ((prF M 0 2 [o0, o1, o2]) + (-(mA M 14 o0)))) o2 (((prF M 0 2 [o0, o1, o2]) + (-(mA M 14 o0))) + (-(mA M 14 o1))), sU1 (sU1 (sU1 V0.2.2.1 o0 (some 0)) o1 (some 1)) o2 (some 2), V0.2.2.2) : TV) = W0 at *
  rw [hob]
  show rfL M n [o0, o1, o2] (reF (ofF (flS (szF M [o0, o1, o2] (mA M 15 o)) [o0, o1, o2] (mlG M o (szF M [o0, o1, o2] (mA M 15 o)) false W0 0 (oM M o) [o0, o1, o2] M T)) o (szF M [o0, o1, o2] (mA M 15 o))) n 0 (prF M 0 2 [o0, o1, o2])) = _
  have em : mlG M o (szF M [o0, o1, o2] (mA M 15 o)) false W0 0 (oM M o) [o0, o1, o2] M T = (mbF (mbF (mbF M T 0 (mB M 3 o) (oM M o) (oM M o0) (prF M 0 2 [o0, o1, o2]) (szF M [o0, o1, o2] (mA M 15 o)) true) (T + 1) 1 (mB M 3 o) (oM M o0) (oM M o1) ((prF M 0 2 [o0, o1, o2]) + (-(mA M 14 o0))) (szF M [o0, o1, o2] (mA M 15 o)) true) (T + 2) 2 (mB M 3 o) (oM M o1) (oM M o2) (((prF M 0 2 [o0, o1, o2]) + (-(mA M 14 o0))) + (-(mA M 14 o1))) (szF M [o0, o1, o2] (mA M 15 o)) true) := by
    show tlM M o (szF M [o0, o1, o2] (mA M 15 o)) false W0 2 (bif false then (bif false then (oM M o) else oM M o0) else oM M o1) o2 (tlM M o (szF M [o0, o1, o2] (mA M 15 o)) false W0 1 (bif false then (oM M o) else oM M o0) o1 (tlM M o (szF M [o0, o1, o2] (mA M 15 o)) false W0 0 (oM M o) o0 M T) (tlT W0 o0 T)) (tlT W0 o1 (tlT W0 o0 T)) = _
    rw [tlT_s c0, tlT_s c1, mb_tl (s := (mB M 3 o)) c0 e0 rfl, mb_tl (s := (mB M 3 o)) c1 e1 rfl, mb_tl (s := (mB M 3 o)) c2 e2 rfl]
    rfl
  rw [em]
  simp only [szF, flS, rfL, hb0, hb1, hb2, bif_same]
set_option maxHeartbeats 2000000 in
theorem way_11 {M : sM} {n T o o0 o1 : Nat} {V0 : TV} (hob : oB M o = 1) (hb0 : oB M o0 = 4) (hb1 : oB M o1 = 2) (h01 : ¬ o0 = o1) (h19 : mA M 19 o = 4) (ho : ¬ o ∈ [o0, o1]) :
    finF (wayF M n T o (prF M 1 1 [o0, o1]) [o0, o1] (plV M (oB M o) false (prF M 1 1 [o0, o1]) [o0, o1] V0)) o = (bif mB M 3 o then (reF (reF (reF (ofF (flF (flF (mbF (mbF M T 1 (mB M 3 o) (oM M o) (oM M o0) (prF M 1 1 [o0, o1]) (mnc (mA M 17 o1) (mnc (mA M 17 o0) (mA M 15 o))) true) (T + 1) 2 (mB M 3 o) (oM M o0) (oM M o1) ((prF M 1 1 [o0, o1]) + (-(mA M 14 o0))) (mnc (mA M 17 o1) (mnc (mA M 17 o0) (mA M 15 o))) true) o0 (mnc (mA M 17 o1) (mnc (mA M 17 o0) (mA M 15 o)))) o1 (mnc (mA M 17 o1) (mnc (mA M 17 o0) (mA M 15 o)))) o (mnc (mA M 17 o1) (mnc (mA M 17 o0) (mA M 15 o)))) n 1 (prF M 1 1 [o0, o1])) n 4 (mA M 14 o0)) n 2 (mA M 14 o1)) else (reF (reF (reF (ofF (flF (flF (mbF (mbF M T 1 (mB M 3 o) (oM M o) (oM M o0) (prF M 1 1 [o0, o1]) (mnc (mA M 17 o1) (mnc (mA M 17 o0) (mA M 15 o))) true) (T + 1) 2 (mB M 3 o) (oM M o0) (oM M o1) ((prF M 1 1 [o0, o1]) + (-(mA M 14 o0))) (mnc (mA M 17 o1) (mnc (mA M 17 o0) (mA M 15 o))) true) o0 (mnc (mA M 17 o1) (mnc (mA M 17 o0) (mA M 15 o)))) o1 (mnc (mA M 17 o1) (mnc (mA M 17 o0) (mA M 15 o)))) o (mnc (mA M 17 o1) (mnc (mA M 17 o0) (mA M 15 o)))) n 1 (prF M 1 1 [o0, o1])) n 4 (mA M 14 o0)) n 2 (mA M 14 o1))) := by
  rw [way_fin h19 ho]
  have eV : (plV M (oB M o) false (prF M 1 1 [o0, o1]) [o0, o1] V0) = (V0.1, sU1 (sU1 V0.2.1 o0 (prF M 1 1 [o0, o1])) o1 ((prF M 1 1 [o0, o1]) + (-(mA M 14 o0))), sU1 (sU1 V0.2.2.1 o0 (some 1)) o1 (some 2), V0.2.2.2) := by
    unfold plV pcV pcV pcV
    rw [hob, hb0, hb1]
    rfl
  rw [eV]
  have c0 : ((V0.1, sU1 (sU1 V0.2.1 o0 (prF M 1 1 [o0, o1])) o1 ((prF M 1 1 [o0, o1]) + (-(mA M 14 o0))), sU1 (sU1 V0.2.2.1 o0 (some 1)) o1 (some 2), V0.2.2.2) : TV).2.2.1 o0 = some 1 := sU1_s2 h01
  have e0 : ((V0.1, sU1 (sU1 V0.2.1 o0 (prF M 1 1 [o0, o1])) o1 ((prF M 1 1 [o0, o1]) + (-(mA M 14 o0))), sU1 (sU1 V0.2.2.1 o0 (some 1)) o1 (some 2), V0.2.2.2) : TV).2.1 o0 = (prF M 1 1 [o0, o1]) := sU1_s2 h01
  have c1 : ((V0.1, sU1 (sU1 V0.2.1 o0 (prF M 1 1 [o0, o1])) o1 ((prF M 1 1 [o0, o1]) + (-(mA M 14 o0))), sU1 (sU1 V0.2.2.1 o0 (some 1)) o1 (some 2), V0.2.2.2) : TV).2.2.1 o1 = some 2 := sU1_e1
  have e1 : ((V0.1, sU1 (sU1 V0.2.1 o0 (prF M 1 1 [o0, o1])) o1 ((prF M 1 1 [o0, o1]) + (-(mA M 14 o0))), sU1 (sU1 V0.2.2.1 o0 (some 1)) o1 (some 2), V0.2.2.2) : TV).2.1 o1 = ((prF M 1 1 [o0, o1]) + (-(mA M 14 o0))) := sU1_e1
  generalize ((V0.1, sU1 (sU1 V0.2.1 o0 (prF M 1 1 [o0, o1])) o1 ((prF M 1 1 [o0, o1]) + (-(mA M 14 o0))), sU1 (sU1 V0.2.2.1 o0 (some 1)) o1 (some 2), V0.2.2.2) : TV) = W0 at *
  rw [hob]
  show rfL M n [o0, o1] (reF (ofF (flS (szF M [o0, o1] (mA M 15 o)) [o0, o1] (mlG M o (szF M [o0, o1] (mA M 15 o)) false W0 0 (oM M o) [o0, o1] M T)) o (szF M [o0, o1] (mA M 15 o))) n 1 (prF M 1 1 [o0, o1])) = _
  have em : mlG M o (szF M [o0, o1] (mA M 15 o)) false W0 0 (oM M o) [o0, o1] M T = (mbF (mbF M T 1 (mB M 3 o) (oM M o) (oM M o0) (prF M 1 1 [o0, o1]) (szF M [o0, o1] (mA M 15 o)) true) (T + 1) 2 (mB M 3 o) (oM M o0) (oM M o1) ((prF M 1 1 [o0, o1]) + (-(mA M 14 o0))) (szF M [o0, o1] (mA M 15 o)) true) := by
    show tlM M o (szF M [o0, o1] (mA M 15 o)) false W0 1 (bif false then (oM M o) else oM M o0) o1 (tlM M o (szF M [o0, o1] (mA M 15 o)) false W0 0 (oM M o) o0 M T) (tlT W0 o0 T) = _
    rw [tlT_s c0, mb_tl (s := (mB M 3 o)) c0 e0 rfl, mb_tl (s := (mB M 3 o)) c1 e1 rfl]
    rfl
  rw [em]
  simp only [szF, flS, rfL, hb0, hb1, bif_same]
set_option maxHeartbeats 2000000 in
theorem way_12 {M : sM} {n T o o0 o1 : Nat} {V0 : TV} (hob : oB M o = 1) (hb0 : oB M o0 = 3) (hb1 : oB M o1 = 0) (h01 : ¬ o0 = o1) (h19 : mA M 19 o = 4) (ho : ¬ o ∈ [o0, o1]) :
    finF (wayF M n T o (prF M 1 2 [o0, o1]) [o0, o1] (plV M (oB M o) false (prF M 1 2 [o0, o1]) [o0, o1] V0)) o = (bif mB M 3 o then (reF (reF (reF (ofF (flF (flF (mbF (mbF M T 1 (mB M 3 o) (oM M o) (oM M o0) (prF M 1 2 [o0, o1]) (mnc (mA M 17 o1) (mnc (mA M 17 o0) (mA M 15 o))) true) (T + 1) 0 (mB M 3 o) (oM M o0) (oM M o1) ((prF M 1 2 [o0, o1]) + (mA M 14 o0)) (mnc (mA M 17 o1) (mnc (mA M 17 o0) (mA M 15 o))) true) o0 (mnc (mA M 17 o1) (mnc (mA M 17 o0) (mA M 15 o)))) o1 (mnc (mA M 17 o1) (mnc (mA M 17 o0) (mA M 15 o)))) o (mnc (mA M 17 o1) (mnc (mA M 17 o0) (mA M 15 o)))) n 1 (prF M 1 2 [o0, o1])) n 3 (mA M 14 o0)) n 0 (mA M 14 o1)) else (reF (reF (reF (ofF (flF (flF (mbF (mbF M T 1 (mB M 3 o) (oM M o) (oM M o0) (prF M 1 2 [o0, o1]) (mnc (mA M 17 o1) (mnc (mA M 17 o0) (mA M 15 o))) true) (T + 1) 0 (mB M 3 o) (oM M o0) (oM M o1) ((prF M 1 2 [o0, o1]) + (mA M 14 o0)) (mnc (mA M 17 o1) (mnc (mA M 17 o0) (mA M 15 o))) true) o0 (mnc (mA M 17 o1) (mnc (mA M 17 o0) (mA M 15 o)))) o1 (mnc (mA M 17 o1) (mnc (mA M 17 o0) (mA M 15 o)))) o (mnc (mA M 17 o1) (mnc (mA M 17 o0) (mA M 15 o)))) n 1 (prF M 1 2 [o0, o1])) n 3 (mA M 14 o0)) n 0 (mA M 14 o1))) := by
  rw [way_fin h19 ho]
  have eV : (plV M (oB M o) false (prF M 1 2 [o0, o1]) [o0, o1] V0) = (V0.1, sU1 (sU1 V0.2.1 o0 (prF M 1 2 [o0, o1])) o1 ((prF M 1 2 [o0, o1]) + (mA M 14 o0)), sU1 (sU1 V0.2.2.1 o0 (some 1)) o1 (some 0), V0.2.2.2) := by
    unfold plV pcV pcV pcV
    rw [hob, hb0, hb1]
    rfl
  rw [eV]
  have c0 : ((V0.1, sU1 (sU1 V0.2.1 o0 (prF M 1 2 [o0, o1])) o1 ((prF M 1 2 [o0, o1]) + (mA M 14 o0)), sU1 (sU1 V0.2.2.1 o0 (some 1)) o1 (some 0), V0.2.2.2) : TV).2.2.1 o0 = some 1 := sU1_s2 h01
  have e0 : ((V0.1, sU1 (sU1 V0.2.1 o0 (prF M 1 2 [o0, o1])) o1 ((prF M 1 2 [o0, o1]) + (mA M 14 o0)), sU1 (sU1 V0.2.2.1 o0 (some 1)) o1 (some 0), V0.2.2.2) : TV).2.1 o0 = (prF M 1 2 [o0, o1]) := sU1_s2 h01
  have c1 : ((V0.1, sU1 (sU1 V0.2.1 o0 (prF M 1 2 [o0, o1])) o1 ((prF M 1 2 [o0, o1]) + (mA M 14 o0)), sU1 (sU1 V0.2.2.1 o0 (some 1)) o1 (some 0), V0.2.2.2) : TV).2.2.1 o1 = some 0 := sU1_e1
  have e1 : ((V0.1, sU1 (sU1 V0.2.1 o0 (prF M 1 2 [o0, o1])) o1 ((prF M 1 2 [o0, o1]) + (mA M 14 o0)), sU1 (sU1 V0.2.2.1 o0 (some 1)) o1 (some 0), V0.2.2.2) : TV).2.1 o1 = ((prF M 1 2 [o0, o1]) + (mA M 14 o0)) := sU1_e1
  generalize ((V0.1, sU1 (sU1 V0.2.1 o0 (prF M 1 2 [o0, o1])) o1 ((prF M 1 2 [o0, o1]) + (mA M 14 o0)), sU1 (sU1 V0.2.2.1 o0 (some 1)) o1 (some 0), V0.2.2.2) : TV) = W0 at *
  rw [hob]
  show rfL M n [o0, o1] (reF (ofF (flS (szF M [o0, o1] (mA M 15 o)) [o0, o1] (mlG M o (szF M [o0, o1] (mA M 15 o)) false W0 0 (oM M o) [o0, o1] M T)) o (szF M [o0, o1] (mA M 15 o))) n 1 (prF M 1 2 [o0, o1])) = _
  have em : mlG M o (szF M [o0, o1] (mA M 15 o)) false W0 0 (oM M o) [o0, o1] M T = (mbF (mbF M T 1 (mB M 3 o) (oM M o) (oM M o0) (prF M 1 2 [o0, o1]) (szF M [o0, o1] (mA M 15 o)) true) (T + 1) 0 (mB M 3 o) (oM M o0) (oM M o1) ((prF M 1 2 [o0, o1]) + (mA M 14 o0)) (szF M [o0, o1] (mA M 15 o)) true) := by
    show tlM M o (szF M [o0, o1] (mA M 15 o)) false W0 1 (bif false then (oM M o) else oM M o0) o1 (tlM M o (szF M [o0, o1] (mA M 15 o)) false W0 0 (oM M o) o0 M T) (tlT W0 o0 T) = _
    rw [tlT_s c0, mb_tl (s := (mB M 3 o)) c0 e0 rfl, mb_tl (s := (mB M 3 o)) c1 e1 rfl]
    rfl
  rw [em]
  simp only [szF, flS, rfL, hb0, hb1, bif_same]
set_option maxHeartbeats 2000000 in
theorem way_21 {M : sM} {n T o o0 o1 : Nat} {V0 : TV} (hob : oB M o = 2) (hb0 : oB M o0 = 4) (hb1 : oB M o1 = 1) (h01 : ¬ o0 = o1) (h19 : mA M 19 o = 4) (ho : ¬ o ∈ [o0, o1]) :
    finF (wayF M n T o (prF M 2 1 [o0, o1]) [o0, o1] (plV M (oB M o) false (prF M 2 1 [o0, o1]) [o0, o1] V0)) o = (bif mB M 3 o then (reF (reF (reF (ofF (flF (flF (mbF (mbF M T 2 (mB M 3 o) (oM M o) (oM M o0) (prF M 2 1 [o0, o1]) (mnc (mA M 17 o1) (mnc (mA M 17 o0) (mA M 15 o))) true) (T + 1) 1 (mB M 3 o) (oM M o0) (oM M o1) ((prF M 2 1 [o0, o1]) + (mA M 14 o0)) (mnc (mA M 17 o1) (mnc (mA M 17 o0) (mA M 15 o))) true) o0 (mnc (mA M 17 o1) (mnc (mA M 17 o0) (mA M 15 o)))) o1 (mnc (mA M 17 o1) (mnc (mA M 17 o0) (mA M 15 o)))) o (mnc (mA M 17 o1) (mnc (mA M 17 o0) (mA M 15 o)))) n 2 (prF M 2 1 [o0, o1])) n 4 (mA M 14 o0)) n 1 (mA M 14 o1)) else (reF (reF (reF (ofF (flF (flF (mbF (mbF M T 2 (mB M 3 o) (oM M o) (oM M o0) (prF M 2 1 [o0, o1]) (mnc (mA M 17 o1) (mnc (mA M 17 o0) (mA M 15 o))) true) (T + 1) 1 (mB M 3 o) (oM M o0) (oM M o1) ((prF M 2 1 [o0, o1]) + (mA M 14 o0)) (mnc (mA M 17 o1) (mnc (mA M 17 o0) (mA M 15 o))) true) o0 (mnc (mA M 17 o1) (mnc (mA M 17 o0) (mA M 15 o)))) o1 (mnc (mA M 17 o1) (mnc (mA M 17 o0) (mA M 15 o)))) o (mnc (mA M 17 o1) (mnc (mA M 17 o0) (mA M 15 o)))) n 2 (prF M 2 1 [o0, o1])) n 4 (mA M 14 o0)) n 1 (mA M 14 o1))) := by
  rw [way_fin h19 ho]
  have eV : (plV M (oB M o) false (prF M 2 1 [o0, o1]) [o0, o1] V0) = (V0.1, sU1 (sU1 V0.2.1 o0 (prF M 2 1 [o0, o1])) o1 ((prF M 2 1 [o0, o1]) + (mA M 14 o0)), sU1 (sU1 V0.2.2.1 o0 (some 2)) o1 (some 1), V0.2.2.2) := by
    unfold plV pcV pcV pcV
    rw [hob, hb0, hb1]
    rfl
  rw [eV]
  have c0 : ((V0.1, sU1 (sU1 V0.2.1 o0 (prF M 2 1 [o0, o1])) o1 ((prF M 2 1 [o0, o1]) + (mA M 14 o0)), sU1 (sU1 V0.2.2.1 o0 (some 2)) o1 (some 1), V0.2.2.2) : TV).2.2.1 o0 = some 2 := sU1_s2 h01
  have e0 : ((V0.1, sU1 (sU1 V0.2.1 o0 (prF M 2 1 [o0, o1])) o1 ((prF M 2 1 [o0, o1]) + (mA M 14 o0)), sU1 (sU1 V0.2.2.1 o0 (some 2)) o1 (some 1), V0.2.2.2) : TV).2.1 o0 = (prF M 2 1 [o0, o1]) := sU1_s2 h01
  have c1 : ((V0.1, sU1 (sU1 V0.2.1 o0 (prF M 2 1 [o0, o1])) o1 ((prF M 2 1 [o0, o1]) + (mA M 14 o0)), sU1 (sU1 V0.2.2.1 o0 (some 2)) o1 (some 1), V0.2.2.2) : TV).2.2.1 o1 = some 1 := sU1_e1
  have e1 : ((V0.1, sU1 (sU1 V0.2.1 o0 (prF M 2 1 [o0, o1])) o1 ((prF M 2 1 [o0, o1]) + (mA M 14 o0)), sU1 (sU1 V0.2.2.1 o0 (some 2)) o1 (some 1), V0.2.2.2) : TV).2.1 o1 = ((prF M 2 1 [o0, o1]) + (mA M 14 o0)) := sU1_e1
  generalize ((V0.1, sU1 (sU1 V0.2.1 o0 (prF M 2 1 [o0, o1])) o1 ((prF M 2 1 [o0, o1]) + (mA M 14 o0)), sU1 (sU1 V0.2.2.1 o0 (some 2)) o1 (some 1), V0.2.2.2) : TV) = W0 at *
  rw [hob]
  show rfL M n [o0, o1] (reF (ofF (flS (szF M [o0, o1] (mA M 15 o)) [o0, o1] (mlG M o (szF M [o0, o1] (mA M 15 o)) false W0 0 (oM M o) [o0, o1] M T)) o (szF M [o0, o1] (mA M 15 o))) n 2 (prF M 2 1 [o0, o1])) = _
  have em : mlG M o (szF M [o0, o1] (mA M 15 o)) false W0 0 (oM M o) [o0, o1] M T = (mbF (mbF M T 2 (mB M 3 o) (oM M o) (oM M o0) (prF M 2 1 [o0, o1]) (szF M [o0, o1] (mA M 15 o)) true) (T + 1) 1 (mB M 3 o) (oM M o0) (oM M o1) ((prF M 2 1 [o0, o1]) + (mA M 14 o0)) (szF M [o0, o1] (mA M 15 o)) true) := by
    show tlM M o (szF M [o0, o1] (mA M 15 o)) false W0 1 (bif false then (oM M o) else oM M o0) o1 (tlM M o (szF M [o0, o1] (mA M 15 o)) false W0 0 (oM M o) o0 M T) (tlT W0 o0 T) = _
    rw [tlT_s c0, mb_tl (s := (mB M 3 o)) c0 e0 rfl, mb_tl (s := (mB M 3 o)) c1 e1 rfl]
    rfl
  rw [em]
  simp only [szF, flS, rfL, hb0, hb1, bif_same]
set_option maxHeartbeats 2000000 in
theorem way_22 {M : sM} {n T o o0 o1 o2 : Nat} {V0 : TV} (hob : oB M o = 2) (hb0 : oB M o0 = 4) (hb1 : oB M o1 = 3) (hb2 : oB M o2 = 0) (h01 : ¬ o0 = o1) (h02 : ¬ o0 = o2) (h12 : ¬ o1 = o2) (h19 : mA M 19 o = 4) (ho : ¬ o ∈ [o0, o1, o2]) :
    finF (wayF M n T o (prF M 2 2 [o0, o1, o2]) [o0, o1, o2] (plV M (oB M o) false (prF M 2 2 [o0, o1, o2]) [o0, o1, o2] V0)) o = (bif mB M 3 o then (reF (reF (reF (reF (ofF (flF (flF (flF (mbF (mbF (mbF M T 2 (mB M 3 o) (oM M o) (oM M o0) (prF M 2 2 [o0, o1, o2]) (mnc (mA M 17 o2) (mnc (mA M 17 o1) (mnc (mA M 17 o0) (mA M 15 o)))) true) (T + 1) 1 (mB M 3 o) (oM M o0) (oM M o1) ((prF M 2 2 [o0, o1, o2]) + (mA M 14 o0)) (mnc (mA M 17 o2) (mnc (mA M 17 o1) (mnc (mA M 17 o0) (mA M 15 o)))) true) ((T + 1) + 1) 0 (mB M 3 o) (oM M o1) (oM M o2) (((prF M 2 2 [o0, o1, o2]) + (mA M 14 o0)) + (mA M 14 o1)) (mnc (mA M 17 o2) (mnc (mA M 17 o1) (mnc (mA M 17 o0) (mA M 15 o)))) true) o0 (mnc (mA M 17 o2) (mnc (mA M 17 o1) (mnc (mA M 17 o0) (mA M 15 o))))) o1 (mnc (mA M 17 o2) (mnc (mA M 17 o1) (mnc (mA M 17 o0) (mA M 15 o))))) o2 (mnc (mA M 17 o2) (mnc (mA M 17 o1) (mnc (mA M 17 o0) (mA M 15 o))))) o (mnc (mA M 17 o2) (mnc (mA M 17 o1) (mnc (mA M 17 o0) (mA M 15 o))))) n 2 (prF M 2 2 [o0, o1, o2])) n 4 (mA M 14 o0)) n 3 (mA M 14 o1)) n 0 (mA M 14 o2)) else (reF (reF (reF (reF (ofF (flF (flF (flF (mbF (mbF (mbF M T 2 (mB M 3 o) (oM M o) (oM M o0) (prF M 2 2 [o0, o1, o2]) (mnc (mA M 17 o2) (mnc (mA M 17 o1) (mnc (mA M 17 o0) (mA M 15 o)))) true) (T + 1) 1 (mB M 3 o) (oM M o0) (oM M o1) ((prF M 2 2 [o0, o1, o2]) + (mA M 14 o0)) (mnc (mA M 17 o2) (mnc (mA M 17 o1) (mnc (mA M 17 o0) (mA M 15 o)))) true) ((T + 1) + 1) 0 (mB M 3 o) (oM M o1) (oM M o2) (((prF M 2 2 [o0, o1, o2]) + (mA M 14 o0)) + (mA M 14 o1)) (mnc (mA M 17 o2) (mnc (mA M 17 o1) (mnc (mA M 17 o0) (mA M 15 o)))) true) o0 (mnc (mA M 17 o2) (mnc (mA M 17 o1) (mnc (mA M 17 o0) (mA M 15 o))))) o1 (mnc (mA M 17 o2) (mnc (mA M 17 o1) (mnc (mA M 17 o0) (mA M 15 o))))) o2 (mnc (mA M 17 o2) (mnc (mA M 17 o1) (mnc (mA M 17 o0) (mA M 15 o))))) o (mnc (mA M 17 o2) (mnc (mA M 17 o1) (mnc (mA M 17 o0) (mA M 15 o))))) n 2 (prF M 2 2 [o0, o1, o2])) n 4 (mA M 14 o0)) n 3 (mA M 14 o1)) n 0 (mA M 14 o2))) := by
  rw [way_fin h19 ho]
  have eV : (plV M (oB M o) false (prF M 2 2 [o0, o1, o2]) [o0, o1, o2] V0) = (V0.1, sU1 (sU1 (sU1 V0.2.1 o0 (prF M 2 2 [o0, o1, o2])) o1 ((prF M 2 2 [o0, o1, o2]) + (mA M 14 o0))) o2 (((prF M 2 2 [o0, o1, o2]) + (mA M 14 o0)) + (mA M 14 o1)), sU1 (sU1 (sU1 V0.2.2.1 o0 (some 2)) o1 (some 1)) o2 (some 0), V0.2.2.2) := by
    unfold plV pcV pcV pcV pcV
    rw [hob, hb0, hb1, hb2]
    rfl
  rw [eV]
  have c0 : ((V0.1, sU1 (sU1 (sU1 V0.2.1 o0 (prF M 2 2 [o0, o1, o2])) o1 ((prF M 2 2 [o0, o1, o2]) + (mA M 14 o0))) o2 (((prF M 2 2 [o0, o1, o2]) + (mA M 14 o0)) + (mA M 14 o1)), sU1 (sU1 (sU1 V0.2.2.1 o0 (some 2)) o1 (some 1)) o2 (some 0), V0.2.2.2) : TV).2.2.1 o0 = some 2 := sU1_s3 h01 h02
  have e0 : ((V0.1, sU1 (sU1 (sU1 V0.2.1 o0 (prF M 2 2 [o0, o1, o2])) o1 ((prF M 2 2 [o0, o1, o2]) + (mA M 14 o0))) o2 (((prF M 2 2 [o0, o1, o2]) + (mA M 14 o0)) + (mA M 14 o1)), sU1 (sU1 (sU1 V0.2.2.1 o0 (some 2)) o1 (some 1)) o2 (some 0), V0.2.2.2) : TV).2.1 o0 = (prF M 2 2 [o0, o1, o2]) := sU1_s3 h01 h02
  have c1 : ((V0.1, sU1 (sU1 (sU1 V0.2.1 o0 (prF M 2 2 [o0, o1, o2])) o1 ((prF M 2 2 [o0, o1, o2]) + (mA M 14 o0))) o2 (((prF M 2 2 [o0, o1, o2]) + (mA M 14 o0)) + (mA M 14 o1)), sU1 (sU1 (sU1 V0.2.2.1 o0 (some 2)) o1 (some 1)) o2 (some 0), V0.2.2.2) : TV).2.2.1 o1 = some 1 := sU1_s2 h12
  have e1 : ((V0.1, sU1 (sU1 (sU1 V0.2.1 o0 (prF M 2 2 [o0, o1, o2])) o1 ((prF M 2 2 [o0, o1, o2]) + (mA M 14 o0))) o2 (((prF M 2 2 [o0, o1, o2]) + (mA M 14 o0)) + (mA M 14 o1)), sU1 (sU1 (sU1 V0.2.2.1 o0 (some 2)) o1 (some 1)) o2 (some 0), V0.2.2.2) : TV).2.1 o1 = ((prF M 2 2 [o0, o1, o2]) + (mA M 14 o0)) := sU1_s2 h12
  have c2 : ((V0.1, sU1 (sU1 (sU1 V0.2.1 o0 (prF M 2 2 [o0, o1, o2])) o1 ((prF M 2 2 [o0, o1, o2]) + (mA M 14 o0))) o2 (((prF M 2 2 [o0, o1, o2]) + (mA M 14 o0)) + (mA M 14 o1)), sU1 (sU1 (sU1 V0.2.2.1 o0 (some 2)) o1 (some 1)) o2 (some 0), V0.2.2.2) : TV).2.2.1 o2 = some 0 := sU1_e1
  have e2 : ((V0.1, sU1 (sU1 (sU1 V0.2.1 o0 (prF M 2 2 [o0, o1, o2])) o1 ((prF M 2 2 [o0, o1, o2]) + (mA M 14 o0))) o2 (((prF M 2 2 [o0, o1, o2]) + (mA M 14 o0)) + (mA M 14 o1)), sU1 (sU1 (sU1 V0.2.2.1 o0 (some 2)) o1 (some 1)) o2 (some 0), V0.2.2.2) : TV).2.1 o2 = (((prF M 2 2 [o0, o1, o2]) + (mA M 14 o0)) + (mA M 14 o1)) := sU1_e1
  generalize ((V0.1, sU1 (sU1 (sU1 V0.2.1 o0 (prF M 2 2 [o0, o1, o2])) o1 ((prF M 2 2 [o0, o1, o2]) + (mA M 14 o0))) o2 (((prF M 2 2 [o0, o1, o2]) + (mA M 14 o0)) + (mA M 14 o1)), sU1 (sU1 (sU1 V0.2.2.1 o0 (some 2)) o1 (some 1)) o2 (some 0), V0.2.2.2) : TV) = W0 at *
  rw [hob]
  show rfL M n [o0, o1, o2] (reF (ofF (flS (szF M [o0, o1, o2] (mA M 15 o)) [o0, o1, o2] (mlG M o (szF M [o0, o1, o2] (mA M 15 o)) false W0 0 (oM M o) [o0, o1, o2] M T)) o (szF M [o0, o1, o2] (mA M 15 o))) n 2 (prF M 2 2 [o0, o1, o2])) = _
  have em : mlG M o (szF M [o0, o1, o2] (mA M 15 o)) false W0 0 (oM M o) [o0, o1, o2] M T = (mbF (mbF (mbF M T 2 (mB M 3 o) (oM M o) (oM M o0) (prF M 2 2 [o0, o1, o2]) (szF M [o0, o1, o2] (mA M 15 o)) true) (T + 1) 1 (mB M 3 o) (oM M o0) (oM M o1) ((prF M 2 2 [o0, o1, o2]) + (mA M 14 o0)) (szF M [o0, o1, o2] (mA M 15 o)) true) (T + 2) 0 (mB M 3 o) (oM M o1) (oM M o2) (((prF M 2 2 [o0, o1, o2]) + (mA M 14 o0)) + (mA M 14 o1)) (szF M [o0, o1, o2] (mA M 15 o)) true) := by
    show tlM M o (szF M [o0, o1, o2] (mA M 15 o)) false W0 2 (bif false then (bif false then (oM M o) else oM M o0) else oM M o1) o2 (tlM M o (szF M [o0, o1, o2] (mA M 15 o)) false W0 1 (bif false then (oM M o) else oM M o0) o1 (tlM M o (szF M [o0, o1, o2] (mA M 15 o)) false W0 0 (oM M o) o0 M T) (tlT W0 o0 T)) (tlT W0 o1 (tlT W0 o0 T)) = _
    rw [tlT_s c0, tlT_s c1, mb_tl (s := (mB M 3 o)) c0 e0 rfl, mb_tl (s := (mB M 3 o)) c1 e1 rfl, mb_tl (s := (mB M 3 o)) c2 e2 rfl]
    rfl
  rw [em]
  simp only [szF, flS, rfL, hb0, hb1, hb2, bif_same]
set_option maxHeartbeats 2000000 in
theorem way_31 {M : sM} {n T o o0 o1 : Nat} {V0 : TV} (hob : oB M o = 3) (hb0 : oB M o0 = 0) (hb1 : oB M o1 = 1) (h01 : ¬ o0 = o1) (h19 : mA M 19 o = 4) (ho : ¬ o ∈ [o0, o1]) :
    finF (wayF M n T o (prF M 3 1 [o0, o1]) [o0, o1] (plV M (oB M o) false (prF M 3 1 [o0, o1]) [o0, o1] V0)) o = (bif mB M 3 o then (reF (reF (reF (ofF (flF (flF (mbF (mbF M T 0 (mB M 3 o) (oM M o) (oM M o0) (mA M 14 o0) (mnc (mA M 17 o1) (mnc (mA M 17 o0) (mA M 15 o))) true) (T + 1) 1 false (oM M o) (oM M o1) (mA M 14 o1) (mnc (mA M 17 o1) (mnc (mA M 17 o0) (mA M 15 o))) true) o0 (mnc (mA M 17 o1) (mnc (mA M 17 o0) (mA M 15 o)))) o1 (mnc (mA M 17 o1) (mnc (mA M 17 o0) (mA M 15 o)))) o (mnc (mA M 17 o1) (mnc (mA M 17 o0) (mA M 15 o)))) n 3 (prF M 3 1 [o0, o1])) n 0 (mA M 14 o0)) n 1 (mA M 14 o1)) else (reF (reF (reF (ofF (flF (flF (mbF (mbF M T 0 (mB M 3 o) (oM M o) (oM M o0) (mA M 14 o0) (mnc (mA M 17 o1) (mnc (mA M 17 o0) (mA M 15 o))) true) (T + 1) 1 true (oM M o) (oM M o1) (mA M 14 o1) (mnc (mA M 17 o1) (mnc (mA M 17 o0) (mA M 15 o))) true) o0 (mnc (mA M 17 o1) (mnc (mA M 17 o0) (mA M 15 o)))) o1 (mnc (mA M 17 o1) (mnc (mA M 17 o0) (mA M 15 o)))) o (mnc (mA M 17 o1) (mnc (mA M 17 o0) (mA M 15 o)))) n 3 (prF M 3 1 [o0, o1])) n 0 (mA M 14 o0)) n 1 (mA M 14 o1))) := by
  rw [way_fin h19 ho]
  have eV : (plV M (oB M o) false (prF M 3 1 [o0, o1]) [o0, o1] V0) = (V0.1, sU1 (sU1 V0.2.1 o0 (mA M 14 o0)) o1 (mA M 14 o1), sU1 (sU1 V0.2.2.1 o0 (some 0)) o1 (some 1), V0.2.2.2) := by
    unfold plV psV psV psV
    rw [hob]
    rfl
  rw [eV]
  have c0 : ((V0.1, sU1 (sU1 V0.2.1 o0 (mA M 14 o0)) o1 (mA M 14 o1), sU1 (sU1 V0.2.2.1 o0 (some 0)) o1 (some 1), V0.2.2.2) : TV).2.2.1 o0 = some 0 := sU1_s2 h01
  have e0 : ((V0.1, sU1 (sU1 V0.2.1 o0 (mA M 14 o0)) o1 (mA M 14 o1), sU1 (sU1 V0.2.2.1 o0 (some 0)) o1 (some 1), V0.2.2.2) : TV).2.1 o0 = (mA M 14 o0) := sU1_s2 h01
  have c1 : ((V0.1, sU1 (sU1 V0.2.1 o0 (mA M 14 o0)) o1 (mA M 14 o1), sU1 (sU1 V0.2.2.1 o0 (some 0)) o1 (some 1), V0.2.2.2) : TV).2.2.1 o1 = some 1 := sU1_e1
  have e1 : ((V0.1, sU1 (sU1 V0.2.1 o0 (mA M 14 o0)) o1 (mA M 14 o1), sU1 (sU1 V0.2.2.1 o0 (some 0)) o1 (some 1), V0.2.2.2) : TV).2.1 o1 = (mA M 14 o1) := sU1_e1
  generalize ((V0.1, sU1 (sU1 V0.2.1 o0 (mA M 14 o0)) o1 (mA M 14 o1), sU1 (sU1 V0.2.2.1 o0 (some 0)) o1 (some 1), V0.2.2.2) : TV) = W0 at *
  rw [hob]
  show rfL M n [o0, o1] (reF (ofF (flS (szF M [o0, o1] (mA M 15 o)) [o0, o1] (mlG M o (szF M [o0, o1] (mA M 15 o)) true W0 0 (oM M o) [o0, o1] M T)) o (szF M [o0, o1] (mA M 15 o))) n 3 (prF M 3 1 [o0, o1])) = _
  have em : mlG M o (szF M [o0, o1] (mA M 15 o)) true W0 0 (oM M o) [o0, o1] M T = (mbF (mbF M T 0 (mB M 3 o) (oM M o) (oM M o0) (mA M 14 o0) (szF M [o0, o1] (mA M 15 o)) true) (T + 1) 1 (!(mB M 3 o)) (oM M o) (oM M o1) (mA M 14 o1) (szF M [o0, o1] (mA M 15 o)) true) := by
    show tlM M o (szF M [o0, o1] (mA M 15 o)) true W0 1 (bif true then (oM M o) else oM M o0) o1 (tlM M o (szF M [o0, o1] (mA M 15 o)) true W0 0 (oM M o) o0 M T) (tlT W0 o0 T) = _
    rw [tlT_s c0, mb_tl (s := (mB M 3 o)) c0 e0 rfl, mb_tl (s := (!(mB M 3 o))) c1 e1 rfl]
    rfl
  rw [em]
  simp only [szF, flS, rfL, hb0, hb1]
  cases mB M 3 o
  · simp only [cond_false, Bool.not_false]
  · simp only [cond_true, Bool.not_true]
set_option maxHeartbeats 2000000 in
theorem way_41 {M : sM} {n T o o0 o1 : Nat} {V0 : TV} (hob : oB M o = 4) (hb0 : oB M o0 = 1) (hb1 : oB M o1 = 2) (h01 : ¬ o0 = o1) (h19 : mA M 19 o = 4) (ho : ¬ o ∈ [o0, o1]) :
    finF (wayF M n T o (prF M 4 1 [o0, o1]) [o0, o1] (plV M (oB M o) false (prF M 4 1 [o0, o1]) [o0, o1] V0)) o = (bif mB M 3 o then (reF (reF (reF (ofF (flF (flF (mbF (mbF M T 1 (mB M 3 o) (oM M o) (oM M o0) (mA M 14 o0) (mnc (mA M 17 o1) (mnc (mA M 17 o0) (mA M 15 o))) true) (T + 1) 2 false (oM M o) (oM M o1) (mA M 14 o1) (mnc (mA M 17 o1) (mnc (mA M 17 o0) (mA M 15 o))) true) o0 (mnc (mA M 17 o1) (mnc (mA M 17 o0) (mA M 15 o)))) o1 (mnc (mA M 17 o1) (mnc (mA M 17 o0) (mA M 15 o)))) o (mnc (mA M 17 o1) (mnc (mA M 17 o0) (mA M 15 o)))) n 4 (prF M 4 1 [o0, o1])) n 1 (mA M 14 o0)) n 2 (mA M 14 o1)) else (reF (reF (reF (ofF (flF (flF (mbF (mbF M T 1 (mB M 3 o) (oM M o) (oM M o0) (mA M 14 o0) (mnc (mA M 17 o1) (mnc (mA M 17 o0) (mA M 15 o))) true) (T + 1) 2 true (oM M o) (oM M o1) (mA M 14 o1) (mnc (mA M 17 o1) (mnc (mA M 17 o0) (mA M 15 o))) true) o0 (mnc (mA M 17 o1) (mnc (mA M 17 o0) (mA M 15 o)))) o1 (mnc (mA M 17 o1) (mnc (mA M 17 o0) (mA M 15 o)))) o (mnc (mA M 17 o1) (mnc (mA M 17 o0) (mA M 15 o)))) n 4 (prF M 4 1 [o0, o1])) n 1 (mA M 14 o0)) n 2 (mA M 14 o1))) := by
  rw [way_fin h19 ho]
  have eV : (plV M (oB M o) false (prF M 4 1 [o0, o1]) [o0, o1] V0) = (V0.1, sU1 (sU1 V0.2.1 o0 (mA M 14 o0)) o1 (mA M 14 o1), sU1 (sU1 V0.2.2.1 o0 (some 1)) o1 (some 2), V0.2.2.2) := by
    unfold plV psV psV psV
    rw [hob]
    rfl
  rw [eV]
  have c0 : ((V0.1, sU1 (sU1 V0.2.1 o0 (mA M 14 o0)) o1 (mA M 14 o1), sU1 (sU1 V0.2.2.1 o0 (some 1)) o1 (some 2), V0.2.2.2) : TV).2.2.1 o0 = some 1 := sU1_s2 h01
  have e0 : ((V0.1, sU1 (sU1 V0.2.1 o0 (mA M 14 o0)) o1 (mA M 14 o1), sU1 (sU1 V0.2.2.1 o0 (some 1)) o1 (some 2), V0.2.2.2) : TV).2.1 o0 = (mA M 14 o0) := sU1_s2 h01
  have c1 : ((V0.1, sU1 (sU1 V0.2.1 o0 (mA M 14 o0)) o1 (mA M 14 o1), sU1 (sU1 V0.2.2.1 o0 (some 1)) o1 (some 2), V0.2.2.2) : TV).2.2.1 o1 = some 2 := sU1_e1
  have e1 : ((V0.1, sU1 (sU1 V0.2.1 o0 (mA M 14 o0)) o1 (mA M 14 o1), sU1 (sU1 V0.2.2.1 o0 (some 1)) o1 (some 2), V0.2.2.2) : TV).2.1 o1 = (mA M 14 o1) := sU1_e1
  generalize ((V0.1, sU1 (sU1 V0.2.1 o0 (mA M 14 o0)) o1 (mA M 14 o1), sU1 (sU1 V0.2.2.1 o0 (some 1)) o1 (some 2), V0.2.2.2) : TV) = W0 at *
  rw [hob]
  show rfL M n [o0, o1] (reF (ofF (flS (szF M [o0, o1] (mA M 15 o)) [o0, o1] (mlG M o (szF M [o0, o1] (mA M 15 o)) true W0 0 (oM M o) [o0, o1] M T)) o (szF M [o0, o1] (mA M 15 o))) n 4 (prF M 4 1 [o0, o1])) = _
  have em : mlG M o (szF M [o0, o1] (mA M 15 o)) true W0 0 (oM M o) [o0, o1] M T = (mbF (mbF M T 1 (mB M 3 o) (oM M o) (oM M o0) (mA M 14 o0) (szF M [o0, o1] (mA M 15 o)) true) (T + 1) 2 (!(mB M 3 o)) (oM M o) (oM M o1) (mA M 14 o1) (szF M [o0, o1] (mA M 15 o)) true) := by
    show tlM M o (szF M [o0, o1] (mA M 15 o)) true W0 1 (bif true then (oM M o) else oM M o0) o1 (tlM M o (szF M [o0, o1] (mA M 15 o)) true W0 0 (oM M o) o0 M T) (tlT W0 o0 T) = _
    rw [tlT_s c0, mb_tl (s := (mB M 3 o)) c0 e0 rfl, mb_tl (s := (!(mB M 3 o))) c1 e1 rfl]
    rfl
  rw [em]
  simp only [szF, flS, rfL, hb0, hb1]
  cases mB M 3 o
  · simp only [cond_false, Bool.not_false]
  · simp only [cond_true, Bool.not_true]
