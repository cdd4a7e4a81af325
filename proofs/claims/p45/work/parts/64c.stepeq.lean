/-! the reference's steps, in the class's words (printed by way64c.py) -/
theorem port1 {s a : Nat} : portN [s] a = [min s a] := by
  have e : ini s [] a = [min s (min (s + 0) a)] := rfl
  show dN [s] (min (s + 0) a - (ini s [] a).sum) (ini s [] a) = _
  rw [e]
  have e2 : min s (min (s + 0) a) = min s a := by omega
  rw [e2, show min (s + 0) a - [min s a].sum = 0 by simp, dN_0]
theorem re_idem {M : sM} {n b : Nat} {p : Int32} : reF (reF M n b p) n b p = reF M n b p := by
  have h : rbt (reF M n b p) n b p = rbt M n b p := by
    funext j
    have e6 : mB (reF M n b p) 6 j = rbt M n b p j := by rw [reF_eq]; rfl
    have eh : hit (reF M n b p) b p j = hit M b p j := by rw [reF_eq]; rfl
    unfold rbt at e6 ⊢
    rw [e6, eh]
    cases mB M 6 j <;> cases decide (j < n) <;> cases hit M b p j <;> rfl
  have e1 : reF (reF M n b p) n b p = mBf (reF M n b p) 6 (rbt M n b p) := by rw [reF_eq (M := reF M n b p), h]
  rw [e1, reF_eq]
  refine Prod.ext rfl (Prod.ext (funext fun a => funext fun q => ?_) rfl)
  show (if a = 6 then rbt M n b p q else if a = 6 then rbt M n b p q else mB M a q) = if a = 6 then rbt M n b p q else mB M a q
  by_cases e : a = 6
  · rw [if_pos e, if_pos e]
  · simp only [if_neg e]
theorem stp_fin {M : sM} {n o : Nat} {p : Int32} {L : List Nat} {Lg : List (Nat × Int32)} {tr : sM} (h15 : ¬ mA M 15 o = 0) : finF (stpM M n o p L Lg tr) o = bif badP M o p then M else bif ownB M (oM M o) L then ownF (oM M o) L M else (bif (obF M n Lg Lg.length).isNone then finF tr o else mAw M 0 (ovD (obF M n Lg Lg.length)) 3) := by
  unfold stpM
  cases badP M o p
  · cases ownB M (oM M o) L
    · cases obF M n Lg Lg.length with
      | none => rfl
      | some c => exact fin_no (M := mAw M 0 c 3) h15
    · exact fin_no (M := ownF (oM M o) L M) (by rw [ownF_15]; exact h15)
  · exact fin_no h15
theorem stp_Z {M : sM} {n o : Nat} {p : Int32} {L : List Nat} {Lg : List (Nat × Int32)} : stpZ M n o p L Lg = bif badP M o p then false else bif ownB M (oM M o) L then true else (bif (obF M n Lg Lg.length).isNone then true else (!(decide (ovD (obF M n Lg Lg.length) = oB M o)) && L.any (fun x => decide (oB M x = ovD (obF M n Lg Lg.length))))) := by
  unfold stpZ
  cases obF M n Lg Lg.length <;> rfl
theorem way_00 {M : sM} {n T o o0 A : Nat} (hob : oB M o = 0) (h19 : mA M 19 o = 4) (ho : ¬ o ∈ [o0]) (hS : Sh M [o0]) (h15 : mA M 15 o = io A) (hA1 : 1 ≤ A) (hA : A ≤ 100) :
    finF (cshF M n T o (prF M 0 0 [o0]) [o0] (portN ([o0].map (shN M)) A)) o = (bif mB M 3 o then (reF (reF (ofF (flF (mbF M T 0 (mB M 3 o) (oM M o) (oM M o0) (prF M 0 0 [o0]) (mnc (mA M 17 o0) (mA M 15 o)) true) o0 (mnc (mA M 17 o0) (mA M 15 o))) o (mnc (mA M 17 o0) (mA M 15 o))) n 0 (prF M 0 0 [o0])) n 0 (mA M 14 o0)) else (reF (reF (ofF (flF (mbF M T 0 (mB M 3 o) (oM M o) (oM M o0) (prF M 0 0 [o0]) (mnc (mA M 17 o0) (mA M 15 o)) true) o0 (mnc (mA M 17 o0) (mA M 15 o))) o (mnc (mA M 17 o0) (mA M 15 o))) n 0 (prF M 0 0 [o0])) n 0 (mA M 14 o0))) := by
  rw [csh_fin hS ho h19]
  have hs0 := hS o0 List.mem_cons_self
  have ep : portN ([o0].map (shN M)) A = [min (shN M o0) A] := port1
  have es : ([o0].map (shN M)).sum = shN M o0 := by simp
  have ez : mnc (mA M 17 o0) (mA M 15 o) = io (min (shN M o0) A) := by rw [hs0.1, h15, mnc_io (by omega) (by omega)]
  have hv : 0 < min (shN M o0) A := by omega
  have ep2 : mA M 14 o0 = (prF M 0 0 [o0]) := (prF_0 (show 0 < 5 by decide)).symm
  unfold shrF
  rw [ep, es, hob]
  have e1 : flL [o0] [min (shN M o0) A] (mkL M o (prF M 0 0 [o0]) [o0] [min (shN M o0) A] M T) = flF (dbF M T 0 (bif mB M 3 o then oM M o else oM M o0) (bif mB M 3 o then oM M o0 else oM M o) (prF M 0 0 [o0]) (io (min (shN M o0) A))) o0 (io (min (shN M o0) A)) := by
    show (if 0 < min (shN M o0) A then flF (if 0 < min (shN M o0) A then dbF M T (oB M o) (dbM M o o0) (dbS M o o0) (prF M 0 0 [o0]) (io (min (shN M o0) A)) else M) o0 (io (min (shN M o0) A)) else _) = _
    rw [if_pos hv, if_pos hv, hob]; rfl
  rw [e1, ez, ep2, bif_same, re_idem, mb_db (show 0 < 3 by decide)]
theorem st_00_e {M : sM} {n T o o0 A : Nat} (hob : oB M o = 0) (hb0 : oB M o0 = 0) (h19 : mA M 19 o = 4) (ho : ¬ o ∈ [o0]) (hS : Sh M [o0]) (h15 : mA M 15 o = io A) (hA1 : 1 ≤ A) (hA : A ≤ 100) :
    st00F M n T o o0 = finF (stpM M n o (prF M 0 0 [o0]) [o0] [(0, (prF M 0 0 [o0]))] (cshF M n T o (prF M 0 0 [o0]) [o0] (portN ([o0].map (shN M)) A))) o ∧ st00R M n T o o0 = stpZ M n o (prF M 0 0 [o0]) [o0] [(0, (prF M 0 0 [o0]))] := by
  have hw := way_00 (n := n) (T := T) hob h19 ho hS h15 hA1 hA
  rw [stp_fin (by rw [h15]; exact pos_ne0 ((io_pos (by omega)).mpr hA1)), stp_Z, hw]
  unfold st00F st00R badP
  have eo : ownB M (oM M o) [o0] = (decide (oM M o0 = oM M o)) := by simp only [ownB, List.any_cons, List.any_nil, Bool.or_false]
  have ef : ownF (oM M o) [o0] M = (bif decide (oM M o0 = oM M o) then cnF M o0 else M) := by
    rfl
  have ea : ∀ c, [o0].any (fun x => decide (oB M x = c)) = (decide (0 = c)) := fun c => by simp only [List.any_cons, List.any_nil, Bool.or_false, hb0]
  rw [eo, ef, ea, hob]
  show _ = (bif (bif mB M 3 o then decide (mA M 14 o < (prF M 0 0 [o0])) else decide ((prF M 0 0 [o0]) < mA M 14 o)) then M else _) ∧ _
  rw [show [(0, (prF M 0 0 [o0]))].length = 1 from rfl]
  generalize obF M n [(0, (prF M 0 0 [o0]))] 1 = f
  generalize (reF (reF (ofF (flF (mbF M T 0 (mB M 3 o) (oM M o) (oM M o0) (prF M 0 0 [o0]) (mnc (mA M 17 o0) (mA M 15 o)) true) o0 (mnc (mA M 17 o0) (mA M 15 o))) o (mnc (mA M 17 o0) (mA M 15 o))) n 0 (prF M 0 0 [o0])) n 0 (mA M 14 o0)) = tr0
  cases mB M 3 o
  · cases decide ((prF M 0 0 [o0]) < mA M 14 o)
    · cases decide (oM M o0 = oM M o) <;> cases f <;> exact ⟨rfl, rfl⟩
    · exact ⟨rfl, rfl⟩
  · cases decide (mA M 14 o < (prF M 0 0 [o0]))
    · cases decide (oM M o0 = oM M o) <;> cases f <;> exact ⟨rfl, rfl⟩
    · exact ⟨rfl, rfl⟩
theorem st_01_e {M : sM} {n T o o0 o1 : Nat} {V0 : TV} (hob : oB M o = 0) (hb0 : oB M o0 = 3) (hb1 : oB M o1 = 1) (h01 : ¬ o0 = o1) (h19 : mA M 19 o = 4) (ho : ¬ o ∈ [o0, o1]) (h15 : ¬ mA M 15 o = 0) :
    st01F M n T o o0 o1 = finF (stpM M n o (prF M 0 1 [o0, o1]) [o0, o1] [(0, (prF M 0 1 [o0, o1])), (1, ((prF M 0 1 [o0, o1]) + (-(mA M 14 o0))))] (wayF M n T o (prF M 0 1 [o0, o1]) [o0, o1] (plV M (oB M o) false (prF M 0 1 [o0, o1]) [o0, o1] V0))) o ∧ st01R M n T o o0 o1 = stpZ M n o (prF M 0 1 [o0, o1]) [o0, o1] [(0, (prF M 0 1 [o0, o1])), (1, ((prF M 0 1 [o0, o1]) + (-(mA M 14 o0))))] := by
  have hw := way_01 (n := n) (T := T) (V0 := V0) hob hb0 hb1 h01 h19 ho
  rw [stp_fin h15, stp_Z, hw]
  unfold st01F st01R badP
  have eo : ownB M (oM M o) [o0, o1] = (decide (oM M o0 = oM M o) || decide (oM M o1 = oM M o)) := by simp only [ownB, List.any_cons, List.any_nil, Bool.or_false]
  have ef : ownF (oM M o) [o0, o1] M = (bif decide (oM M o0 = oM M o) then (bif decide (oM M o1 = oM M o) then cnF (cnF M o0) o1 else cnF M o0) else (bif decide (oM M o1 = oM M o) then cnF M o1 else M)) := by
    simp only [ownF]
    cases decide (oM M o0 = oM M o) <;> rfl
  have ea : ∀ c, [o0, o1].any (fun x => decide (oB M x = c)) = (decide (3 = c) || decide (1 = c)) := fun c => by simp only [List.any_cons, List.any_nil, Bool.or_false, hb0, hb1]
  rw [eo, ef, ea, hob]
  show _ = (bif (bif mB M 3 o then decide (mA M 14 o < (prF M 0 1 [o0, o1])) else decide ((prF M 0 1 [o0, o1]) < mA M 14 o)) then M else _) ∧ _
  rw [show [(0, (prF M 0 1 [o0, o1])), (1, ((prF M 0 1 [o0, o1]) + (-(mA M 14 o0))))].length = 2 from rfl]
  generalize obF M n [(0, (prF M 0 1 [o0, o1])), (1, ((prF M 0 1 [o0, o1]) + (-(mA M 14 o0))))] 2 = f
  generalize (reF (reF (reF (ofF (flF (flF (mbF (mbF M T 0 (mB M 3 o) (oM M o) (oM M o0) (prF M 0 1 [o0, o1]) (mnc (mA M 17 o1) (mnc (mA M 17 o0) (mA M 15 o))) true) (T + 1) 1 (mB M 3 o) (oM M o0) (oM M o1) ((prF M 0 1 [o0, o1]) + (-(mA M 14 o0))) (mnc (mA M 17 o1) (mnc (mA M 17 o0) (mA M 15 o))) true) o0 (mnc (mA M 17 o1) (mnc (mA M 17 o0) (mA M 15 o)))) o1 (mnc (mA M 17 o1) (mnc (mA M 17 o0) (mA M 15 o)))) o (mnc (mA M 17 o1) (mnc (mA M 17 o0) (mA M 15 o)))) n 0 (prF M 0 1 [o0, o1])) n 3 (mA M 14 o0)) n 1 (mA M 14 o1)) = tr0
  cases mB M 3 o
  · cases decide ((prF M 0 1 [o0, o1]) < mA M 14 o)
    · cases decide (oM M o0 = oM M o) <;> cases decide (oM M o1 = oM M o) <;> cases f <;> exact ⟨rfl, rfl⟩
    · exact ⟨rfl, rfl⟩
  · cases decide (mA M 14 o < (prF M 0 1 [o0, o1]))
    · cases decide (oM M o0 = oM M o) <;> cases decide (oM M o1 = oM M o) <;> cases f <;> exact ⟨rfl, rfl⟩
    · exact ⟨rfl, rfl⟩
theorem st_02_e {M : sM} {n T o o0 o1 o2 : Nat} {V0 : TV} (hob : oB M o = 0) (hb0 : oB M o0 = 3) (hb1 : oB M o1 = 4) (hb2 : oB M o2 = 2) (h01 : ¬ o0 = o1) (h02 : ¬ o0 = o2) (h12 : ¬ o1 = o2) (h19 : mA M 19 o = 4) (ho : ¬ o ∈ [o0, o1, o2]) (h15 : ¬ mA M 15 o = 0) :
    st02F M n T o o0 o1 o2 = finF (stpM M n o (prF M 0 2 [o0, o1, o2]) [o0, o1, o2] [(0, (prF M 0 2 [o0, o1, o2])), (1, ((prF M 0 2 [o0, o1, o2]) + (-(mA M 14 o0)))), (2, (((prF M 0 2 [o0, o1, o2]) + (-(mA M 14 o0))) + (-(mA M 14 o1))))] (wayF M n T o (prF M 0 2 [o0, o1, o2]) [o0, o1, o2] (plV M (oB M o) false (prF M 0 2 [o0, o1, o2]) [o0, o1, o2] V0))) o ∧ st02R M n T o o0 o1 o2 = stpZ M n o (prF M 0 2 [o0, o1, o2]) [o0, o1, o2] [(0, (prF M 0 2 [o0, o1, o2])), (1, ((prF M 0 2 [o0, o1, o2]) + (-(mA M 14 o0)))), (2, (((prF M 0 2 [o0, o1, o2]) + (-(mA M 14 o0))) + (-(mA M 14 o1))))] := by
  have hw := way_02 (n := n) (T := T) (V0 := V0) hob hb0 hb1 hb2 h01 h02 h12 h19 ho
  rw [stp_fin h15, stp_Z, hw]
  unfold st02F st02R badP
  have eo : ownB M (oM M o) [o0, o1, o2] = ((decide (oM M o0 = oM M o) || (decide (oM M o1 = oM M o) || decide (oM M o2 = oM M o)))) := by simp only [ownB, List.any_cons, List.any_nil, Bool.or_false]
  have ef : ownF (oM M o) [o0, o1, o2] M = (bif decide (oM M o0 = oM M o) then (bif decide (oM M o1 = oM M o) then (bif decide (oM M o2 = oM M o) then cnF (cnF (cnF M o0) o1) o2 else cnF (cnF M o0) o1) else (bif decide (oM M o2 = oM M o) then cnF (cnF M o0) o2 else cnF M o0)) else (bif decide (oM M o1 = oM M o) then (bif decide (oM M o2 = oM M o) then cnF (cnF M o1) o2 else cnF M o1) else (bif decide (oM M o2 = oM M o) then cnF M o2 else M))) := by
    have step : ∀ X : sM, oM X = oM M → ownF (oM M o) [o1, o2] X = (bif decide (oM M o1 = oM M o) then (bif decide (oM M o2 = oM M o) then cnF (cnF X o1) o2 else cnF X o1) else (bif decide (oM M o2 = oM M o) then cnF X o2 else X)) := by
      intro X hX
      show ownF (oM M o) [o2] (bif decide (oM X o1 = oM M o) then cnF X o1 else X) = _
      rw [hX]
      cases decide (oM M o1 = oM M o)
      · show (bif decide (oM X o2 = oM M o) then cnF X o2 else X) = _
        rw [hX]; rfl
      · show (bif decide (oM X o2 = oM M o) then cnF (cnF X o1) o2 else cnF X o1) = _
        rw [hX]; rfl
    show ownF (oM M o) [o1, o2] (bif decide (oM M o0 = oM M o) then cnF M o0 else M) = _
    cases decide (oM M o0 = oM M o)
    · exact step M rfl
    · exact step (cnF M o0) rfl
  have ea : ∀ c, [o0, o1, o2].any (fun x => decide (oB M x = c)) = (((decide (3 = c) || decide (4 = c)) || decide (2 = c))) := fun c => by simp only [List.any_cons, List.any_nil, Bool.or_false, hb0, hb1, hb2]; exact (Bool.or_assoc _ _ _).symm --]
  rw [eo, ef, ea, hob]
  show _ = (bif (bif mB M 3 o then decide (mA M 14 o < (prF M 0 2 [o0, o1, o2])) else decide ((prF M 0 2 [o0, o1, o2]) < mA M 14 o)) then M else _) ∧ _
  rw [show [(0, (prF M 0 2 [o0, o1, o2])), (1, ((prF M 0 2 [o0, o1, o2]) + (-(mA M 14 o0)))), (2, (((prF M 0 2 [o0, o1, o2]) + (-(mA M 14 o0))) + (-(mA M 14 o1))))].length = 3 from rfl]
  generalize obF M n [(0, (prF M 0 2 [o0, o1, o2])), (1, ((prF M 0 2 [o0, o1, o2]) + (-(mA M 14 o0)))), (2, (((prF M 0 2 [o0, o1, o2]) + (-(mA M 14 o0))) + (-(mA M 14 o1))))] 3 = f
  generalize (reF (reF (reF (reF (ofF (flF (flF (flF (mbF (mbF (mbF M T 0 (mB M 3 o) (oM M o) (oM M o0) (prF M 0 2 [o0, o1, o2]) (mnc (mA M 17 o2) (mnc (mA M 17 o1) (mnc (mA M 17 o0) (mA M 15 o)))) true) (T + 1) 1 (mB M 3 o) (oM M o0) (oM M o1) ((prF M 0 2 [o0, o1, o2]) + (-(mA M 14 o0))) (mnc (mA M 17 o2) (mnc (mA M 17 o1) (mnc (mA M 17 o0) (mA M 15 o)))) true) ((T + 1) + 1) 2 (mB M 3 o) (oM M o1) (oM M o2) (((prF M 0 2 [o0, o1, o2]) + (-(mA M 14 o0))) + (-(mA M 14 o1))) (mnc (mA M 17 o2) (mnc (mA M 17 o1) (mnc (mA M 17 o0) (mA M 15 o)))) true) o0 (mnc (mA M 17 o2) (mnc (mA M 17 o1) (mnc (mA M 17 o0) (mA M 15 o))))) o1 (mnc (mA M 17 o2) (mnc (mA M 17 o1) (mnc (mA M 17 o0) (mA M 15 o))))) o2 (mnc (mA M 17 o2) (mnc (mA M 17 o1) (mnc (mA M 17 o0) (mA M 15 o))))) o (mnc (mA M 17 o2) (mnc (mA M 17 o1) (mnc (mA M 17 o0) (mA M 15 o))))) n 0 (prF M 0 2 [o0, o1, o2])) n 3 (mA M 14 o0)) n 4 (mA M 14 o1)) n 2 (mA M 14 o2)) = tr0
  cases mB M 3 o
  · cases decide ((prF M 0 2 [o0, o1, o2]) < mA M 14 o)
    · cases decide (oM M o0 = oM M o) <;> cases decide (oM M o1 = oM M o) <;> cases decide (oM M o2 = oM M o) <;> cases f <;> exact ⟨rfl, rfl⟩
    · exact ⟨rfl, rfl⟩
  · cases decide (mA M 14 o < (prF M 0 2 [o0, o1, o2]))
    · cases decide (oM M o0 = oM M o) <;> cases decide (oM M o1 = oM M o) <;> cases decide (oM M o2 = oM M o) <;> cases f <;> exact ⟨rfl, rfl⟩
    · exact ⟨rfl, rfl⟩
theorem way_10 {M : sM} {n T o o0 A : Nat} (hob : oB M o = 1) (h19 : mA M 19 o = 4) (ho : ¬ o ∈ [o0]) (hS : Sh M [o0]) (h15 : mA M 15 o = io A) (hA1 : 1 ≤ A) (hA : A ≤ 100) :
    finF (cshF M n T o (prF M 1 0 [o0]) [o0] (portN ([o0].map (shN M)) A)) o = (bif mB M 3 o then (reF (reF (ofF (flF (mbF M T 1 (mB M 3 o) (oM M o) (oM M o0) (prF M 1 0 [o0]) (mnc (mA M 17 o0) (mA M 15 o)) true) o0 (mnc (mA M 17 o0) (mA M 15 o))) o (mnc (mA M 17 o0) (mA M 15 o))) n 1 (prF M 1 0 [o0])) n 1 (mA M 14 o0)) else (reF (reF (ofF (flF (mbF M T 1 (mB M 3 o) (oM M o) (oM M o0) (prF M 1 0 [o0]) (mnc (mA M 17 o0) (mA M 15 o)) true) o0 (mnc (mA M 17 o0) (mA M 15 o))) o (mnc (mA M 17 o0) (mA M 15 o))) n 1 (prF M 1 0 [o0])) n 1 (mA M 14 o0))) := by
  rw [csh_fin hS ho h19]
  have hs0 := hS o0 List.mem_cons_self
  have ep : portN ([o0].map (shN M)) A = [min (shN M o0) A] := port1
  have es : ([o0].map (shN M)).sum = shN M o0 := by simp
  have ez : mnc (mA M 17 o0) (mA M 15 o) = io (min (shN M o0) A) := by rw [hs0.1, h15, mnc_io (by omega) (by omega)]
  have hv : 0 < min (shN M o0) A := by omega
  have ep2 : mA M 14 o0 = (prF M 1 0 [o0]) := (prF_0 (show 1 < 5 by decide)).symm
  unfold shrF
  rw [ep, es, hob]
  have e1 : flL [o0] [min (shN M o0) A] (mkL M o (prF M 1 0 [o0]) [o0] [min (shN M o0) A] M T) = flF (dbF M T 1 (bif mB M 3 o then oM M o else oM M o0) (bif mB M 3 o then oM M o0 else oM M o) (prF M 1 0 [o0]) (io (min (shN M o0) A))) o0 (io (min (shN M o0) A)) := by
    show (if 0 < min (shN M o0) A then flF (if 0 < min (shN M o0) A then dbF M T (oB M o) (dbM M o o0) (dbS M o o0) (prF M 1 0 [o0]) (io (min (shN M o0) A)) else M) o0 (io (min (shN M o0) A)) else _) = _
    rw [if_pos hv, if_pos hv, hob]; rfl
  rw [e1, ez, ep2, bif_same, re_idem, mb_db (show 1 < 3 by decide)]
theorem st_10_e {M : sM} {n T o o0 A : Nat} (hob : oB M o = 1) (hb0 : oB M o0 = 1) (h19 : mA M 19 o = 4) (ho : ¬ o ∈ [o0]) (hS : Sh M [o0]) (h15 : mA M 15 o = io A) (hA1 : 1 ≤ A) (hA : A ≤ 100) :
    st10F M n T o o0 = finF (stpM M n o (prF M 1 0 [o0]) [o0] [(1, (prF M 1 0 [o0]))] (cshF M n T o (prF M 1 0 [o0]) [o0] (portN ([o0].map (shN M)) A))) o ∧ st10R M n T o o0 = stpZ M n o (prF M 1 0 [o0]) [o0] [(1, (prF M 1 0 [o0]))] := by
  have hw := way_10 (n := n) (T := T) hob h19 ho hS h15 hA1 hA
  rw [stp_fin (by rw [h15]; exact pos_ne0 ((io_pos (by omega)).mpr hA1)), stp_Z, hw]
  unfold st10F st10R badP
  have eo : ownB M (oM M o) [o0] = (decide (oM M o0 = oM M o)) := by simp only [ownB, List.any_cons, List.any_nil, Bool.or_false]
  have ef : ownF (oM M o) [o0] M = (bif decide (oM M o0 = oM M o) then cnF M o0 else M) := by
    rfl
  have ea : ∀ c, [o0].any (fun x => decide (oB M x = c)) = (decide (1 = c)) := fun c => by simp only [List.any_cons, List.any_nil, Bool.or_false, hb0]
  rw [eo, ef, ea, hob]
  show _ = (bif (bif mB M 3 o then decide (mA M 14 o < (prF M 1 0 [o0])) else decide ((prF M 1 0 [o0]) < mA M 14 o)) then M else _) ∧ _
  rw [show [(1, (prF M 1 0 [o0]))].length = 1 from rfl]
  generalize obF M n [(1, (prF M 1 0 [o0]))] 1 = f
  generalize (reF (reF (ofF (flF (mbF M T 1 (mB M 3 o) (oM M o) (oM M o0) (prF M 1 0 [o0]) (mnc (mA M 17 o0) (mA M 15 o)) true) o0 (mnc (mA M 17 o0) (mA M 15 o))) o (mnc (mA M 17 o0) (mA M 15 o))) n 1 (prF M 1 0 [o0])) n 1 (mA M 14 o0)) = tr0
  cases mB M 3 o
  · cases decide ((prF M 1 0 [o0]) < mA M 14 o)
    · cases decide (oM M o0 = oM M o) <;> cases f <;> exact ⟨rfl, rfl⟩
    · exact ⟨rfl, rfl⟩
  · cases decide (mA M 14 o < (prF M 1 0 [o0]))
    · cases decide (oM M o0 = oM M o) <;> cases f <;> exact ⟨rfl, rfl⟩
    · exact ⟨rfl, rfl⟩
theorem st_11_e {M : sM} {n T o o0 o1 : Nat} {V0 : TV} (hob : oB M o = 1) (hb0 : oB M o0 = 4) (hb1 : oB M o1 = 2) (h01 : ¬ o0 = o1) (h19 : mA M 19 o = 4) (ho : ¬ o ∈ [o0, o1]) (h15 : ¬ mA M 15 o = 0) :
    st11F M n T o o0 o1 = finF (stpM M n o (prF M 1 1 [o0, o1]) [o0, o1] [(1, (prF M 1 1 [o0, o1])), (2, ((prF M 1 1 [o0, o1]) + (-(mA M 14 o0))))] (wayF M n T o (prF M 1 1 [o0, o1]) [o0, o1] (plV M (oB M o) false (prF M 1 1 [o0, o1]) [o0, o1] V0))) o ∧ st11R M n T o o0 o1 = stpZ M n o (prF M 1 1 [o0, o1]) [o0, o1] [(1, (prF M 1 1 [o0, o1])), (2, ((prF M 1 1 [o0, o1]) + (-(mA M 14 o0))))] := by
  have hw := way_11 (n := n) (T := T) (V0 := V0) hob hb0 hb1 h01 h19 ho
  rw [stp_fin h15, stp_Z, hw]
  unfold st11F st11R badP
  have eo : ownB M (oM M o) [o0, o1] = (decide (oM M o0 = oM M o) || decide (oM M o1 = oM M o)) := by simp only [ownB, List.any_cons, List.any_nil, Bool.or_false]
  have ef : ownF (oM M o) [o0, o1] M = (bif decide (oM M o0 = oM M o) then (bif decide (oM M o1 = oM M o) then cnF (cnF M o0) o1 else cnF M o0) else (bif decide (oM M o1 = oM M o) then cnF M o1 else M)) := by
    simp only [ownF]
    cases decide (oM M o0 = oM M o) <;> rfl
  have ea : ∀ c, [o0, o1].any (fun x => decide (oB M x = c)) = (decide (4 = c) || decide (2 = c)) := fun c => by simp only [List.any_cons, List.any_nil, Bool.or_false, hb0, hb1]
  rw [eo, ef, ea, hob]
  show _ = (bif (bif mB M 3 o then decide (mA M 14 o < (prF M 1 1 [o0, o1])) else decide ((prF M 1 1 [o0, o1]) < mA M 14 o)) then M else _) ∧ _
  rw [show [(1, (prF M 1 1 [o0, o1])), (2, ((prF M 1 1 [o0, o1]) + (-(mA M 14 o0))))].length = 2 from rfl]
  generalize obF M n [(1, (prF M 1 1 [o0, o1])), (2, ((prF M 1 1 [o0, o1]) + (-(mA M 14 o0))))] 2 = f
  generalize (reF (reF (reF (ofF (flF (flF (mbF (mbF M T 1 (mB M 3 o) (oM M o) (oM M o0) (prF M 1 1 [o0, o1]) (mnc (mA M 17 o1) (mnc (mA M 17 o0) (mA M 15 o))) true) (T + 1) 2 (mB M 3 o) (oM M o0) (oM M o1) ((prF M 1 1 [o0, o1]) + (-(mA M 14 o0))) (mnc (mA M 17 o1) (mnc (mA M 17 o0) (mA M 15 o))) true) o0 (mnc (mA M 17 o1) (mnc (mA M 17 o0) (mA M 15 o)))) o1 (mnc (mA M 17 o1) (mnc (mA M 17 o0) (mA M 15 o)))) o (mnc (mA M 17 o1) (mnc (mA M 17 o0) (mA M 15 o)))) n 1 (prF M 1 1 [o0, o1])) n 4 (mA M 14 o0)) n 2 (mA M 14 o1)) = tr0
  cases mB M 3 o
  · cases decide ((prF M 1 1 [o0, o1]) < mA M 14 o)
    · cases decide (oM M o0 = oM M o) <;> cases decide (oM M o1 = oM M o) <;> cases f <;> exact ⟨rfl, rfl⟩
    · exact ⟨rfl, rfl⟩
  · cases decide (mA M 14 o < (prF M 1 1 [o0, o1]))
    · cases decide (oM M o0 = oM M o) <;> cases decide (oM M o1 = oM M o) <;> cases f <;> exact ⟨rfl, rfl⟩
    · exact ⟨rfl, rfl⟩
theorem st_12_e {M : sM} {n T o o0 o1 : Nat} {V0 : TV} (hob : oB M o = 1) (hb0 : oB M o0 = 3) (hb1 : oB M o1 = 0) (h01 : ¬ o0 = o1) (h19 : mA M 19 o = 4) (ho : ¬ o ∈ [o0, o1]) (h15 : ¬ mA M 15 o = 0) :
    st12F M n T o o0 o1 = finF (stpM M n o (prF M 1 2 [o0, o1]) [o0, o1] [(1, (prF M 1 2 [o0, o1])), (0, ((prF M 1 2 [o0, o1]) + (mA M 14 o0)))] (wayF M n T o (prF M 1 2 [o0, o1]) [o0, o1] (plV M (oB M o) false (prF M 1 2 [o0, o1]) [o0, o1] V0))) o ∧ st12R M n T o o0 o1 = stpZ M n o (prF M 1 2 [o0, o1]) [o0, o1] [(1, (prF M 1 2 [o0, o1])), (0, ((prF M 1 2 [o0, o1]) + (mA M 14 o0)))] := by
  have hw := way_12 (n := n) (T := T) (V0 := V0) hob hb0 hb1 h01 h19 ho
  rw [stp_fin h15, stp_Z, hw]
  unfold st12F st12R badP
  have eo : ownB M (oM M o) [o0, o1] = (decide (oM M o0 = oM M o) || decide (oM M o1 = oM M o)) := by simp only [ownB, List.any_cons, List.any_nil, Bool.or_false]
  have ef : ownF (oM M o) [o0, o1] M = (bif decide (oM M o0 = oM M o) then (bif decide (oM M o1 = oM M o) then cnF (cnF M o0) o1 else cnF M o0) else (bif decide (oM M o1 = oM M o) then cnF M o1 else M)) := by
    simp only [ownF]
    cases decide (oM M o0 = oM M o) <;> rfl
  have ea : ∀ c, [o0, o1].any (fun x => decide (oB M x = c)) = (decide (3 = c) || decide (0 = c)) := fun c => by simp only [List.any_cons, List.any_nil, Bool.or_false, hb0, hb1]
  rw [eo, ef, ea, hob]
  show _ = (bif (bif mB M 3 o then decide (mA M 14 o < (prF M 1 2 [o0, o1])) else decide ((prF M 1 2 [o0, o1]) < mA M 14 o)) then M else _) ∧ _
  rw [show [(1, (prF M 1 2 [o0, o1])), (0, ((prF M 1 2 [o0, o1]) + (mA M 14 o0)))].length = 2 from rfl]
  generalize obF M n [(1, (prF M 1 2 [o0, o1])), (0, ((prF M 1 2 [o0, o1]) + (mA M 14 o0)))] 2 = f
  generalize (reF (reF (reF (ofF (flF (flF (mbF (mbF M T 1 (mB M 3 o) (oM M o) (oM M o0) (prF M 1 2 [o0, o1]) (mnc (mA M 17 o1) (mnc (mA M 17 o0) (mA M 15 o))) true) (T + 1) 0 (mB M 3 o) (oM M o0) (oM M o1) ((prF M 1 2 [o0, o1]) + (mA M 14 o0)) (mnc (mA M 17 o1) (mnc (mA M 17 o0) (mA M 15 o))) true) o0 (mnc (mA M 17 o1) (mnc (mA M 17 o0) (mA M 15 o)))) o1 (mnc (mA M 17 o1) (mnc (mA M 17 o0) (mA M 15 o)))) o (mnc (mA M 17 o1) (mnc (mA M 17 o0) (mA M 15 o)))) n 1 (prF M 1 2 [o0, o1])) n 3 (mA M 14 o0)) n 0 (mA M 14 o1)) = tr0
  cases mB M 3 o
  · cases decide ((prF M 1 2 [o0, o1]) < mA M 14 o)
    · cases decide (oM M o0 = oM M o) <;> cases decide (oM M o1 = oM M o) <;> cases f <;> exact ⟨rfl, rfl⟩
    · exact ⟨rfl, rfl⟩
  · cases decide (mA M 14 o < (prF M 1 2 [o0, o1]))
    · cases decide (oM M o0 = oM M o) <;> cases decide (oM M o1 = oM M o) <;> cases f <;> exact ⟨rfl, rfl⟩
    · exact ⟨rfl, rfl⟩
theorem way_20 {M : sM} {n T o o0 A : Nat} (hob : oB M o = 2) (h19 : mA M 19 o = 4) (ho : ¬ o ∈ [o0]) (hS : Sh M [o0]) (h15 : mA M 15 o = io A) (hA1 : 1 ≤ A) (hA : A ≤ 100) :
    finF (cshF M n T o (prF M 2 0 [o0]) [o0] (portN ([o0].map (shN M)) A)) o = (bif mB M 3 o then (reF (reF (ofF (flF (mbF M T 2 (mB M 3 o) (oM M o) (oM M o0) (prF M 2 0 [o0]) (mnc (mA M 17 o0) (mA M 15 o)) true) o0 (mnc (mA M 17 o0) (mA M 15 o))) o (mnc (mA M 17 o0) (mA M 15 o))) n 2 (prF M 2 0 [o0])) n 2 (mA M 14 o0)) else (reF (reF (ofF (flF (mbF M T 2 (mB M 3 o) (oM M o) (oM M o0) (prF M 2 0 [o0]) (mnc (mA M 17 o0) (mA M 15 o)) true) o0 (mnc (mA M 17 o0) (mA M 15 o))) o (mnc (mA M 17 o0) (mA M 15 o))) n 2 (prF M 2 0 [o0])) n 2 (mA M 14 o0))) := by
  rw [csh_fin hS ho h19]
  have hs0 := hS o0 List.mem_cons_self
  have ep : portN ([o0].map (shN M)) A = [min (shN M o0) A] := port1
  have es : ([o0].map (shN M)).sum = shN M o0 := by simp
  have ez : mnc (mA M 17 o0) (mA M 15 o) = io (min (shN M o0) A) := by rw [hs0.1, h15, mnc_io (by omega) (by omega)]
  have hv : 0 < min (shN M o0) A := by omega
  have ep2 : mA M 14 o0 = (prF M 2 0 [o0]) := (prF_0 (show 2 < 5 by decide)).symm
  unfold shrF
  rw [ep, es, hob]
  have e1 : flL [o0] [min (shN M o0) A] (mkL M o (prF M 2 0 [o0]) [o0] [min (shN M o0) A] M T) = flF (dbF M T 2 (bif mB M 3 o then oM M o else oM M o0) (bif mB M 3 o then oM M o0 else oM M o) (prF M 2 0 [o0]) (io (min (shN M o0) A))) o0 (io (min (shN M o0) A)) := by
    show (if 0 < min (shN M o0) A then flF (if 0 < min (shN M o0) A then dbF M T (oB M o) (dbM M o o0) (dbS M o o0) (prF M 2 0 [o0]) (io (min (shN M o0) A)) else M) o0 (io (min (shN M o0) A)) else _) = _
    rw [if_pos hv, if_pos hv, hob]; rfl
  rw [e1, ez, ep2, bif_same, re_idem, mb_db (show 2 < 3 by decide)]
theorem st_20_e {M : sM} {n T o o0 A : Nat} (hob : oB M o = 2) (hb0 : oB M o0 = 2) (h19 : mA M 19 o = 4) (ho : ¬ o ∈ [o0]) (hS : Sh M [o0]) (h15 : mA M 15 o = io A) (hA1 : 1 ≤ A) (hA : A ≤ 100) :
    st20F M n T o o0 = finF (stpM M n o (prF M 2 0 [o0]) [o0] [(2, (prF M 2 0 [o0]))] (cshF M n T o (prF M 2 0 [o0]) [o0] (portN ([o0].map (shN M)) A))) o ∧ st20R M n T o o0 = stpZ M n o (prF M 2 0 [o0]) [o0] [(2, (prF M 2 0 [o0]))] := by
  have hw := way_20 (n := n) (T := T) hob h19 ho hS h15 hA1 hA
  rw [stp_fin (by rw [h15]; exact pos_ne0 ((io_pos (by omega)).mpr hA1)), stp_Z, hw]
  unfold st20F st20R badP
  have eo : ownB M (oM M o) [o0] = (decide (oM M o0 = oM M o)) := by simp only [ownB, List.any_cons, List.any_nil, Bool.or_false]
  have ef : ownF (oM M o) [o0] M = (bif decide (oM M o0 = oM M o) then cnF M o0 else M) := by
    rfl
  have ea : ∀ c, [o0].any (fun x => decide (oB M x = c)) = (decide (2 = c)) := fun c => by simp only [List.any_cons, List.any_nil, Bool.or_false, hb0]
  rw [eo, ef, ea, hob]
  show _ = (bif (bif mB M 3 o then decide (mA M 14 o < (prF M 2 0 [o0])) else decide ((prF M 2 0 [o0]) < mA M 14 o)) then M else _) ∧ _
  rw [show [(2, (prF M 2 0 [o0]))].length = 1 from rfl]
  generalize obF M n [(2, (prF M 2 0 [o0]))] 1 = f
  generalize (reF (reF (ofF (flF (mbF M T 2 (mB M 3 o) (oM M o) (oM M o0) (prF M 2 0 [o0]) (mnc (mA M 17 o0) (mA M 15 o)) true) o0 (mnc (mA M 17 o0) (mA M 15 o))) o (mnc (mA M 17 o0) (mA M 15 o))) n 2 (prF M 2 0 [o0])) n 2 (mA M 14 o0)) = tr0
  cases mB M 3 o
  · cases decide ((prF M 2 0 [o0]) < mA M 14 o)
    · cases decide (oM M o0 = oM M o) <;> cases f <;> exact ⟨rfl, rfl⟩
    · exact ⟨rfl, rfl⟩
  · cases decide (mA M 14 o < (prF M 2 0 [o0]))
    · cases decide (oM M o0 = oM M o) <;> cases f <;> exact ⟨rfl, rfl⟩
    · exact ⟨rfl, rfl⟩
theorem st_21_e {M : sM} {n T o o0 o1 : Nat} {V0 : TV} (hob : oB M o = 2) (hb0 : oB M o0 = 4) (hb1 : oB M o1 = 1) (h01 : ¬ o0 = o1) (h19 : mA M 19 o = 4) (ho : ¬ o ∈ [o0, o1]) (h15 : ¬ mA M 15 o = 0) :
    st21F M n T o o0 o1 = finF (stpM M n o (prF M 2 1 [o0, o1]) [o0, o1] [(2, (prF M 2 1 [o0, o1])), (1, ((prF M 2 1 [o0, o1]) + (mA M 14 o0)))] (wayF M n T o (prF M 2 1 [o0, o1]) [o0, o1] (plV M (oB M o) false (prF M 2 1 [o0, o1]) [o0, o1] V0))) o ∧ st21R M n T o o0 o1 = stpZ M n o (prF M 2 1 [o0, o1]) [o0, o1] [(2, (prF M 2 1 [o0, o1])), (1, ((prF M 2 1 [o0, o1]) + (mA M 14 o0)))] := by
  have hw := way_21 (n := n) (T := T) (V0 := V0) hob hb0 hb1 h01 h19 ho
  rw [stp_fin h15, stp_Z, hw]
  unfold st21F st21R badP
  have eo : ownB M (oM M o) [o0, o1] = (decide (oM M o0 = oM M o) || decide (oM M o1 = oM M o)) := by simp only [ownB, List.any_cons, List.any_nil, Bool.or_false]
  have ef : ownF (oM M o) [o0, o1] M = (bif decide (oM M o0 = oM M o) then (bif decide (oM M o1 = oM M o) then cnF (cnF M o0) o1 else cnF M o0) else (bif decide (oM M o1 = oM M o) then cnF M o1 else M)) := by
    simp only [ownF]
    cases decide (oM M o0 = oM M o) <;> rfl
  have ea : ∀ c, [o0, o1].any (fun x => decide (oB M x = c)) = (decide (4 = c) || decide (1 = c)) := fun c => by simp only [List.any_cons, List.any_nil, Bool.or_false, hb0, hb1]
  rw [eo, ef, ea, hob]
  show _ = (bif (bif mB M 3 o then decide (mA M 14 o < (prF M 2 1 [o0, o1])) else decide ((prF M 2 1 [o0, o1]) < mA M 14 o)) then M else _) ∧ _
  rw [show [(2, (prF M 2 1 [o0, o1])), (1, ((prF M 2 1 [o0, o1]) + (mA M 14 o0)))].length = 2 from rfl]
  generalize obF M n [(2, (prF M 2 1 [o0, o1])), (1, ((prF M 2 1 [o0, o1]) + (mA M 14 o0)))] 2 = f
  generalize (reF (reF (reF (ofF (flF (flF (mbF (mbF M T 2 (mB M 3 o) (oM M o) (oM M o0) (prF M 2 1 [o0, o1]) (mnc (mA M 17 o1) (mnc (mA M 17 o0) (mA M 15 o))) true) (T + 1) 1 (mB M 3 o) (oM M o0) (oM M o1) ((prF M 2 1 [o0, o1]) + (mA M 14 o0)) (mnc (mA M 17 o1) (mnc (mA M 17 o0) (mA M 15 o))) true) o0 (mnc (mA M 17 o1) (mnc (mA M 17 o0) (mA M 15 o)))) o1 (mnc (mA M 17 o1) (mnc (mA M 17 o0) (mA M 15 o)))) o (mnc (mA M 17 o1) (mnc (mA M 17 o0) (mA M 15 o)))) n 2 (prF M 2 1 [o0, o1])) n 4 (mA M 14 o0)) n 1 (mA M 14 o1)) = tr0
  cases mB M 3 o
  · cases decide ((prF M 2 1 [o0, o1]) < mA M 14 o)
    · cases decide (oM M o0 = oM M o) <;> cases decide (oM M o1 = oM M o) <;> cases f <;> exact ⟨rfl, rfl⟩
    · exact ⟨rfl, rfl⟩
  · cases decide (mA M 14 o < (prF M 2 1 [o0, o1]))
    · cases decide (oM M o0 = oM M o) <;> cases decide (oM M o1 = oM M o) <;> cases f <;> exact ⟨rfl, rfl⟩
    · exact ⟨rfl, rfl⟩
theorem st_22_e {M : sM} {n T o o0 o1 o2 : Nat} {V0 : TV} (hob : oB M o = 2) (hb0 : oB M o0 = 4) (hb1 : oB M o1 = 3) (hb2 : oB M o2 = 0) (h01 : ¬ o0 = o1) (h02 : ¬ o0 = o2) (h12 : ¬ o1 = o2) (h19 : mA M 19 o = 4) (ho : ¬ o ∈ [o0, o1, o2]) (h15 : ¬ mA M 15 o = 0) :
    st22F M n T o o0 o1 o2 = finF (stpM M n o (prF M 2 2 [o0, o1, o2]) [o0, o1, o2] [(2, (prF M 2 2 [o0, o1, o2])), (1, ((prF M 2 2 [o0, o1, o2]) + (mA M 14 o0))), (0, (((prF M 2 2 [o0, o1, o2]) + (mA M 14 o0)) + (mA M 14 o1)))] (wayF M n T o (prF M 2 2 [o0, o1, o2]) [o0, o1, o2] (plV M (oB M o) false (prF M 2 2 [o0, o1, o2]) [o0, o1, o2] V0))) o ∧ st22R M n T o o0 o1 o2 = stpZ M n o (prF M 2 2 [o0, o1, o2]) [o0, o1, o2] [(2, (prF M 2 2 [o0, o1, o2])), (1, ((prF M 2 2 [o0, o1, o2]) + (mA M 14 o0))), (0, (((prF M 2 2 [o0, o1, o2]) + (mA M 14 o0)) + (mA M 14 o1)))] := by
  have hw := way_22 (n := n) (T := T) (V0 := V0) hob hb0 hb1 hb2 h01 h02 h12 h19 ho
  rw [stp_fin h15, stp_Z, hw]
  unfold st22F st22R badP
  have eo : ownB M (oM M o) [o0, o1, o2] = ((decide (oM M o0 = oM M o) || (decide (oM M o1 = oM M o) || decide (oM M o2 = oM M o)))) := by simp only [ownB, List.any_cons, List.any_nil, Bool.or_false]
  have ef : ownF (oM M o) [o0, o1, o2] M = (bif decide (oM M o0 = oM M o) then (bif decide (oM M o1 = oM M o) then (bif decide (oM M o2 = oM M o) then cnF (cnF (cnF M o0) o1) o2 else cnF (cnF M o0) o1) else (bif decide (oM M o2 = oM M o) then cnF (cnF M o0) o2 else cnF M o0)) else (bif decide (oM M o1 = oM M o) then (bif decide (oM M o2 = oM M o) then cnF (cnF M o1) o2 else cnF M o1) else (bif decide (oM M o2 = oM M o) then cnF M o2 else M))) := by
    have step : ∀ X : sM, oM X = oM M → ownF (oM M o) [o1, o2] X = (bif decide (oM M o1 = oM M o) then (bif decide (oM M o2 = oM M o) then cnF (cnF X o1) o2 else cnF X o1) else (bif decide (oM M o2 = oM M o) then cnF X o2 else X)) := by
      intro X hX
      show ownF (oM M o) [o2] (bif decide (oM X o1 = oM M o) then cnF X o1 else X) = _
      rw [hX]
      cases decide (oM M o1 = oM M o)
      · show (bif decide (oM X o2 = oM M o) then cnF X o2 else X) = _
        rw [hX]; rfl
      · show (bif decide (oM X o2 = oM M o) then cnF (cnF X o1) o2 else cnF X o1) = _
        rw [hX]; rfl
    show ownF (oM M o) [o1, o2] (bif decide (oM M o0 = oM M o) then cnF M o0 else M) = _
    cases decide (oM M o0 = oM M o)
    · exact step M rfl
    · exact step (cnF M o0) rfl
  have ea : ∀ c, [o0, o1, o2].any (fun x => decide (oB M x = c)) = (((decide (4 = c) || decide (3 = c)) || decide (0 = c))) := fun c => by simp only [List.any_cons, List.any_nil, Bool.or_false, hb0, hb1, hb2]; exact (Bool.or_assoc _ _ _).symm --]
  rw [eo, ef, ea, hob]
  show _ = (bif (bif mB M 3 o then decide (mA M 14 o < (prF M 2 2 [o0, o1, o2])) else decide ((prF M 2 2 [o0, o1, o2]) < mA M 14 o)) then M else _) ∧ _
  rw [show [(2, (prF M 2 2 [o0, o1, o2])), (1, ((prF M 2 2 [o0, o1, o2]) + (mA M 14 o0))), (0, (((prF M 2 2 [o0, o1, o2]) + (mA M 14 o0)) + (mA M 14 o1)))].length = 3 from rfl]
  generalize obF M n [(2, (prF M 2 2 [o0, o1, o2])), (1, ((prF M 2 2 [o0, o1, o2]) + (mA M 14 o0))), (0, (((prF M 2 2 [o0, o1, o2]) + (mA M 14 o0)) + (mA M 14 o1)))] 3 = f
  generalize (reF (reF (reF (reF (ofF (flF (flF (flF (mbF (mbF (mbF M T 2 (mB M 3 o) (oM M o) (oM M o0) (prF M 2 2 [o0, o1, o2]) (mnc (mA M 17 o2) (mnc (mA M 17 o1) (mnc (mA M 17 o0) (mA M 15 o)))) true) (T + 1) 1 (mB M 3 o) (oM M o0) (oM M o1) ((prF M 2 2 [o0, o1, o2]) + (mA M 14 o0)) (mnc (mA M 17 o2) (mnc (mA M 17 o1) (mnc (mA M 17 o0) (mA M 15 o)))) true) ((T + 1) + 1) 0 (mB M 3 o) (oM M o1) (oM M o2) (((prF M 2 2 [o0, o1, o2]) + (mA M 14 o0)) + (mA M 14 o1)) (mnc (mA M 17 o2) (mnc (mA M 17 o1) (mnc (mA M 17 o0) (mA M 15 o)))) true) o0 (mnc (mA M 17 o2) (mnc (mA M 17 o1) (mnc (mA M 17 o0) (mA M 15 o))))) o1 (mnc (mA M 17 o2) (mnc (mA M 17 o1) (mnc (mA M 17 o0) (mA M 15 o))))) o2 (mnc (mA M 17 o2) (mnc (mA M 17 o1) (mnc (mA M 17 o0) (mA M 15 o))))) o (mnc (mA M 17 o2) (mnc (mA M 17 o1) (mnc (mA M 17 o0) (mA M 15 o))))) n 2 (prF M 2 2 [o0, o1, o2])) n 4 (mA M 14 o0)) n 3 (mA M 14 o1)) n 0 (mA M 14 o2)) = tr0
  cases mB M 3 o
  · cases decide ((prF M 2 2 [o0, o1, o2]) < mA M 14 o)
    · cases decide (oM M o0 = oM M o) <;> cases decide (oM M o1 = oM M o) <;> cases decide (oM M o2 = oM M o) <;> cases f <;> exact ⟨rfl, rfl⟩
    · exact ⟨rfl, rfl⟩
  · cases decide (mA M 14 o < (prF M 2 2 [o0, o1, o2]))
    · cases decide (oM M o0 = oM M o) <;> cases decide (oM M o1 = oM M o) <;> cases decide (oM M o2 = oM M o) <;> cases f <;> exact ⟨rfl, rfl⟩
    · exact ⟨rfl, rfl⟩
theorem way_30 {M : sM} {n T o o0 A : Nat} (hob : oB M o = 3) (h19 : mA M 19 o = 4) (ho : ¬ o ∈ [o0]) (hS : Sh M [o0]) (h15 : mA M 15 o = io A) (hA1 : 1 ≤ A) (hA : A ≤ 100) :
    finF (cshF M n T o (prF M 3 0 [o0]) [o0] (portN ([o0].map (shN M)) A)) o = (bif mB M 3 o then (reF (reF (ofF (flF (ms3F M T (mB M 3 o) (oM M o) (oM M o0) (prF M 3 0 [o0]) (mnc (mA M 17 o0) (mA M 15 o))) o0 (mnc (mA M 17 o0) (mA M 15 o))) o (mnc (mA M 17 o0) (mA M 15 o))) n 3 (prF M 3 0 [o0])) n 3 (mA M 14 o0)) else (reF (reF (ofF (flF (ms3F M T (mB M 3 o) (oM M o) (oM M o0) (prF M 3 0 [o0]) (mnc (mA M 17 o0) (mA M 15 o))) o0 (mnc (mA M 17 o0) (mA M 15 o))) o (mnc (mA M 17 o0) (mA M 15 o))) n 3 (prF M 3 0 [o0])) n 3 (mA M 14 o0))) := by
  rw [csh_fin hS ho h19]
  have hs0 := hS o0 List.mem_cons_self
  have ep : portN ([o0].map (shN M)) A = [min (shN M o0) A] := port1
  have es : ([o0].map (shN M)).sum = shN M o0 := by simp
  have ez : mnc (mA M 17 o0) (mA M 15 o) = io (min (shN M o0) A) := by rw [hs0.1, h15, mnc_io (by omega) (by omega)]
  have hv : 0 < min (shN M o0) A := by omega
  have ep2 : mA M 14 o0 = (prF M 3 0 [o0]) := (prF_0 (show 3 < 5 by decide)).symm
  unfold shrF
  rw [ep, es, hob]
  have e1 : flL [o0] [min (shN M o0) A] (mkL M o (prF M 3 0 [o0]) [o0] [min (shN M o0) A] M T) = flF (dbF M T 3 (bif mB M 3 o then oM M o else oM M o0) (bif mB M 3 o then oM M o0 else oM M o) (prF M 3 0 [o0]) (io (min (shN M o0) A))) o0 (io (min (shN M o0) A)) := by
    show (if 0 < min (shN M o0) A then flF (if 0 < min (shN M o0) A then dbF M T (oB M o) (dbM M o o0) (dbS M o o0) (prF M 3 0 [o0]) (io (min (shN M o0) A)) else M) o0 (io (min (shN M o0) A)) else _) = _
    rw [if_pos hv, if_pos hv, hob]; rfl
  rw [e1, ez, ep2, bif_same, re_idem, ms3_db]
theorem st_30_e {M : sM} {n T o o0 A : Nat} (hob : oB M o = 3) (hb0 : oB M o0 = 3) (h19 : mA M 19 o = 4) (ho : ¬ o ∈ [o0]) (hS : Sh M [o0]) (h15 : mA M 15 o = io A) (hA1 : 1 ≤ A) (hA : A ≤ 100) :
    st30F M n T o o0 = finF (stpM M n o (prF M 3 0 [o0]) [o0] [] (cshF M n T o (prF M 3 0 [o0]) [o0] (portN ([o0].map (shN M)) A))) o ∧ st30R M n T o o0 = stpZ M n o (prF M 3 0 [o0]) [o0] [] := by
  have hw := way_30 (n := n) (T := T) hob h19 ho hS h15 hA1 hA
  rw [stp_fin (by rw [h15]; exact pos_ne0 ((io_pos (by omega)).mpr hA1)), stp_Z, hw]
  unfold st30F st30R badP
  have eo : ownB M (oM M o) [o0] = (decide (oM M o0 = oM M o)) := by simp only [ownB, List.any_cons, List.any_nil, Bool.or_false]
  have ef : ownF (oM M o) [o0] M = (bif decide (oM M o0 = oM M o) then cnF M o0 else M) := by
    rfl
  have ea : ∀ c, [o0].any (fun x => decide (oB M x = c)) = (decide (3 = c)) := fun c => by simp only [List.any_cons, List.any_nil, Bool.or_false, hb0]
  rw [eo, ef, ea, hob]
  show _ = (bif (bif mB M 3 o then decide (mA M 14 o < (prF M 3 0 [o0])) else decide ((prF M 3 0 [o0]) < mA M 14 o)) then M else _) ∧ _
  rw [show [].length = 0 from rfl]
  generalize obF M n [] 0 = f
  generalize (reF (reF (ofF (flF (ms3F M T (mB M 3 o) (oM M o) (oM M o0) (prF M 3 0 [o0]) (mnc (mA M 17 o0) (mA M 15 o))) o0 (mnc (mA M 17 o0) (mA M 15 o))) o (mnc (mA M 17 o0) (mA M 15 o))) n 3 (prF M 3 0 [o0])) n 3 (mA M 14 o0)) = tr0
  cases mB M 3 o
  · cases decide ((prF M 3 0 [o0]) < mA M 14 o)
    · cases decide (oM M o0 = oM M o) <;> cases f <;> exact ⟨rfl, rfl⟩
    · exact ⟨rfl, rfl⟩
  · cases decide (mA M 14 o < (prF M 3 0 [o0]))
    · cases decide (oM M o0 = oM M o) <;> cases f <;> exact ⟨rfl, rfl⟩
    · exact ⟨rfl, rfl⟩
theorem st_31_e {M : sM} {n T o o0 o1 : Nat} {V0 : TV} (hob : oB M o = 3) (hb0 : oB M o0 = 0) (hb1 : oB M o1 = 1) (h01 : ¬ o0 = o1) (h19 : mA M 19 o = 4) (ho : ¬ o ∈ [o0, o1]) (h15 : ¬ mA M 15 o = 0) :
    st31F M n T o o0 o1 = finF (stpM M n o (prF M 3 1 [o0, o1]) [o0, o1] [(0, (mA M 14 o0)), (1, (mA M 14 o1))] (wayF M n T o (prF M 3 1 [o0, o1]) [o0, o1] (plV M (oB M o) false (prF M 3 1 [o0, o1]) [o0, o1] V0))) o ∧ st31R M n T o o0 o1 = stpZ M n o (prF M 3 1 [o0, o1]) [o0, o1] [(0, (mA M 14 o0)), (1, (mA M 14 o1))] := by
  have hw := way_31 (n := n) (T := T) (V0 := V0) hob hb0 hb1 h01 h19 ho
  rw [stp_fin h15, stp_Z, hw]
  unfold st31F st31R badP
  have eo : ownB M (oM M o) [o0, o1] = (decide (oM M o0 = oM M o) || decide (oM M o1 = oM M o)) := by simp only [ownB, List.any_cons, List.any_nil, Bool.or_false]
  have ef : ownF (oM M o) [o0, o1] M = (bif decide (oM M o0 = oM M o) then (bif decide (oM M o1 = oM M o) then cnF (cnF M o0) o1 else cnF M o0) else (bif decide (oM M o1 = oM M o) then cnF M o1 else M)) := by
    simp only [ownF]
    cases decide (oM M o0 = oM M o) <;> rfl
  have ea : ∀ c, [o0, o1].any (fun x => decide (oB M x = c)) = (decide (0 = c) || decide (1 = c)) := fun c => by simp only [List.any_cons, List.any_nil, Bool.or_false, hb0, hb1]
  rw [eo, ef, ea, hob]
  show _ = (bif (bif mB M 3 o then decide (mA M 14 o < (prF M 3 1 [o0, o1])) else decide ((prF M 3 1 [o0, o1]) < mA M 14 o)) then M else _) ∧ _
  rw [show [(0, (mA M 14 o0)), (1, (mA M 14 o1))].length = 2 from rfl]
  generalize obF M n [(0, (mA M 14 o0)), (1, (mA M 14 o1))] 2 = f
  generalize (reF (reF (reF (ofF (flF (flF (mbF (mbF M T 0 (mB M 3 o) (oM M o) (oM M o0) (mA M 14 o0) (mnc (mA M 17 o1) (mnc (mA M 17 o0) (mA M 15 o))) true) (T + 1) 1 false (oM M o) (oM M o1) (mA M 14 o1) (mnc (mA M 17 o1) (mnc (mA M 17 o0) (mA M 15 o))) true) o0 (mnc (mA M 17 o1) (mnc (mA M 17 o0) (mA M 15 o)))) o1 (mnc (mA M 17 o1) (mnc (mA M 17 o0) (mA M 15 o)))) o (mnc (mA M 17 o1) (mnc (mA M 17 o0) (mA M 15 o)))) n 3 (prF M 3 1 [o0, o1])) n 0 (mA M 14 o0)) n 1 (mA M 14 o1)) = tr0
  generalize (reF (reF (reF (ofF (flF (flF (mbF (mbF M T 0 (mB M 3 o) (oM M o) (oM M o0) (mA M 14 o0) (mnc (mA M 17 o1) (mnc (mA M 17 o0) (mA M 15 o))) true) (T + 1) 1 true (oM M o) (oM M o1) (mA M 14 o1) (mnc (mA M 17 o1) (mnc (mA M 17 o0) (mA M 15 o))) true) o0 (mnc (mA M 17 o1) (mnc (mA M 17 o0) (mA M 15 o)))) o1 (mnc (mA M 17 o1) (mnc (mA M 17 o0) (mA M 15 o)))) o (mnc (mA M 17 o1) (mnc (mA M 17 o0) (mA M 15 o)))) n 3 (prF M 3 1 [o0, o1])) n 0 (mA M 14 o0)) n 1 (mA M 14 o1)) = tr1
  cases mB M 3 o
  · cases decide ((prF M 3 1 [o0, o1]) < mA M 14 o)
    · cases decide (oM M o0 = oM M o) <;> cases decide (oM M o1 = oM M o) <;> cases f <;> simp only [cond_true, cond_false, Bool.or_true, Bool.or_false, Bool.true_or, Bool.false_or, Option.isNone_none, Option.isNone_some, and_self]
    · simp only [cond_true, cond_false, Bool.or_true, Bool.or_false, Bool.true_or, Bool.false_or, Option.isNone_none, Option.isNone_some, and_self]
  · cases decide (mA M 14 o < (prF M 3 1 [o0, o1]))
    · cases decide (oM M o0 = oM M o) <;> cases decide (oM M o1 = oM M o) <;> cases f <;> simp only [cond_true, cond_false, Bool.or_true, Bool.or_false, Bool.true_or, Bool.false_or, Option.isNone_none, Option.isNone_some, and_self]
    · simp only [cond_true, cond_false, Bool.or_true, Bool.or_false, Bool.true_or, Bool.false_or, Option.isNone_none, Option.isNone_some, and_self]
theorem way_40 {M : sM} {n T o o0 A : Nat} (hob : oB M o = 4) (h19 : mA M 19 o = 4) (ho : ¬ o ∈ [o0]) (hS : Sh M [o0]) (h15 : mA M 15 o = io A) (hA1 : 1 ≤ A) (hA : A ≤ 100) :
    finF (cshF M n T o (prF M 4 0 [o0]) [o0] (portN ([o0].map (shN M)) A)) o = (bif mB M 3 o then (reF (reF (ofF (flF (ms4F M T (mB M 3 o) (oM M o) (oM M o0) (prF M 4 0 [o0]) (mnc (mA M 17 o0) (mA M 15 o))) o0 (mnc (mA M 17 o0) (mA M 15 o))) o (mnc (mA M 17 o0) (mA M 15 o))) n 4 (prF M 4 0 [o0])) n 4 (mA M 14 o0)) else (reF (reF (ofF (flF (ms4F M T (mB M 3 o) (oM M o) (oM M o0) (prF M 4 0 [o0]) (mnc (mA M 17 o0) (mA M 15 o))) o0 (mnc (mA M 17 o0) (mA M 15 o))) o (mnc (mA M 17 o0) (mA M 15 o))) n 4 (prF M 4 0 [o0])) n 4 (mA M 14 o0))) := by
  rw [csh_fin hS ho h19]
  have hs0 := hS o0 List.mem_cons_self
  have ep : portN ([o0].map (shN M)) A = [min (shN M o0) A] := port1
  have es : ([o0].map (shN M)).sum = shN M o0 := by simp
  have ez : mnc (mA M 17 o0) (mA M 15 o) = io (min (shN M o0) A) := by rw [hs0.1, h15, mnc_io (by omega) (by omega)]
  have hv : 0 < min (shN M o0) A := by omega
  have ep2 : mA M 14 o0 = (prF M 4 0 [o0]) := (prF_0 (show 4 < 5 by decide)).symm
  unfold shrF
  rw [ep, es, hob]
  have e1 : flL [o0] [min (shN M o0) A] (mkL M o (prF M 4 0 [o0]) [o0] [min (shN M o0) A] M T) = flF (dbF M T 4 (bif mB M 3 o then oM M o else oM M o0) (bif mB M 3 o then oM M o0 else oM M o) (prF M 4 0 [o0]) (io (min (shN M o0) A))) o0 (io (min (shN M o0) A)) := by
    show (if 0 < min (shN M o0) A then flF (if 0 < min (shN M o0) A then dbF M T (oB M o) (dbM M o o0) (dbS M o o0) (prF M 4 0 [o0]) (io (min (shN M o0) A)) else M) o0 (io (min (shN M o0) A)) else _) = _
    rw [if_pos hv, if_pos hv, hob]; rfl
  rw [e1, ez, ep2, bif_same, re_idem, ms4_db]
theorem st_40_e {M : sM} {n T o o0 A : Nat} (hob : oB M o = 4) (hb0 : oB M o0 = 4) (h19 : mA M 19 o = 4) (ho : ¬ o ∈ [o0]) (hS : Sh M [o0]) (h15 : mA M 15 o = io A) (hA1 : 1 ≤ A) (hA : A ≤ 100) :
    st40F M n T o o0 = finF (stpM M n o (prF M 4 0 [o0]) [o0] [] (cshF M n T o (prF M 4 0 [o0]) [o0] (portN ([o0].map (shN M)) A))) o ∧ st40R M n T o o0 = stpZ M n o (prF M 4 0 [o0]) [o0] [] := by
  have hw := way_40 (n := n) (T := T) hob h19 ho hS h15 hA1 hA
  rw [stp_fin (by rw [h15]; exact pos_ne0 ((io_pos (by omega)).mpr hA1)), stp_Z, hw]
  unfold st40F st40R badP
  have eo : ownB M (oM M o) [o0] = (decide (oM M o0 = oM M o)) := by simp only [ownB, List.any_cons, List.any_nil, Bool.or_false]
  have ef : ownF (oM M o) [o0] M = (bif decide (oM M o0 = oM M o) then cnF M o0 else M) := by
    rfl
  have ea : ∀ c, [o0].any (fun x => decide (oB M x = c)) = (decide (4 = c)) := fun c => by simp only [List.any_cons, List.any_nil, Bool.or_false, hb0]
  rw [eo, ef, ea, hob]
  show _ = (bif (bif mB M 3 o then decide (mA M 14 o < (prF M 4 0 [o0])) else decide ((prF M 4 0 [o0]) < mA M 14 o)) then M else _) ∧ _
  rw [show [].length = 0 from rfl]
  generalize obF M n [] 0 = f
  generalize (reF (reF (ofF (flF (ms4F M T (mB M 3 o) (oM M o) (oM M o0) (prF M 4 0 [o0]) (mnc (mA M 17 o0) (mA M 15 o))) o0 (mnc (mA M 17 o0) (mA M 15 o))) o (mnc (mA M 17 o0) (mA M 15 o))) n 4 (prF M 4 0 [o0])) n 4 (mA M 14 o0)) = tr0
  cases mB M 3 o
  · cases decide ((prF M 4 0 [o0]) < mA M 14 o)
    · cases decide (oM M o0 = oM M o) <;> cases f <;> exact ⟨rfl, rfl⟩
    · exact ⟨rfl, rfl⟩
  · cases decide (mA M 14 o < (prF M 4 0 [o0]))
    · cases decide (oM M o0 = oM M o) <;> cases f <;> exact ⟨rfl, rfl⟩
    · exact ⟨rfl, rfl⟩
theorem st_41_e {M : sM} {n T o o0 o1 : Nat} {V0 : TV} (hob : oB M o = 4) (hb0 : oB M o0 = 1) (hb1 : oB M o1 = 2) (h01 : ¬ o0 = o1) (h19 : mA M 19 o = 4) (ho : ¬ o ∈ [o0, o1]) (h15 : ¬ mA M 15 o = 0) :
    st41F M n T o o0 o1 = finF (stpM M n o (prF M 4 1 [o0, o1]) [o0, o1] [(1, (mA M 14 o0)), (2, (mA M 14 o1))] (wayF M n T o (prF M 4 1 [o0, o1]) [o0, o1] (plV M (oB M o) false (prF M 4 1 [o0, o1]) [o0, o1] V0))) o ∧ st41R M n T o o0 o1 = stpZ M n o (prF M 4 1 [o0, o1]) [o0, o1] [(1, (mA M 14 o0)), (2, (mA M 14 o1))] := by
  have hw := way_41 (n := n) (T := T) (V0 := V0) hob hb0 hb1 h01 h19 ho
  rw [stp_fin h15, stp_Z, hw]
  unfold st41F st41R badP
  have eo : ownB M (oM M o) [o0, o1] = (decide (oM M o0 = oM M o) || decide (oM M o1 = oM M o)) := by simp only [ownB, List.any_cons, List.any_nil, Bool.or_false]
  have ef : ownF (oM M o) [o0, o1] M = (bif decide (oM M o0 = oM M o) then (bif decide (oM M o1 = oM M o) then cnF (cnF M o0) o1 else cnF M o0) else (bif decide (oM M o1 = oM M o) then cnF M o1 else M)) := by
    simp only [ownF]
    cases decide (oM M o0 = oM M o) <;> rfl
  have ea : ∀ c, [o0, o1].any (fun x => decide (oB M x = c)) = (decide (1 = c) || decide (2 = c)) := fun c => by simp only [List.any_cons, List.any_nil, Bool.or_false, hb0, hb1]
  rw [eo, ef, ea, hob]
  show _ = (bif (bif mB M 3 o then decide (mA M 14 o < (prF M 4 1 [o0, o1])) else decide ((prF M 4 1 [o0, o1]) < mA M 14 o)) then M else _) ∧ _
  rw [show [(1, (mA M 14 o0)), (2, (mA M 14 o1))].length = 2 from rfl]
  generalize obF M n [(1, (mA M 14 o0)), (2, (mA M 14 o1))] 2 = f
  generalize (reF (reF (reF (ofF (flF (flF (mbF (mbF M T 1 (mB M 3 o) (oM M o) (oM M o0) (mA M 14 o0) (mnc (mA M 17 o1) (mnc (mA M 17 o0) (mA M 15 o))) true) (T + 1) 2 false (oM M o) (oM M o1) (mA M 14 o1) (mnc (mA M 17 o1) (mnc (mA M 17 o0) (mA M 15 o))) true) o0 (mnc (mA M 17 o1) (mnc (mA M 17 o0) (mA M 15 o)))) o1 (mnc (mA M 17 o1) (mnc (mA M 17 o0) (mA M 15 o)))) o (mnc (mA M 17 o1) (mnc (mA M 17 o0) (mA M 15 o)))) n 4 (prF M 4 1 [o0, o1])) n 1 (mA M 14 o0)) n 2 (mA M 14 o1)) = tr0
  generalize (reF (reF (reF (ofF (flF (flF (mbF (mbF M T 1 (mB M 3 o) (oM M o) (oM M o0) (mA M 14 o0) (mnc (mA M 17 o1) (mnc (mA M 17 o0) (mA M 15 o))) true) (T + 1) 2 true (oM M o) (oM M o1) (mA M 14 o1) (mnc (mA M 17 o1) (mnc (mA M 17 o0) (mA M 15 o))) true) o0 (mnc (mA M 17 o1) (mnc (mA M 17 o0) (mA M 15 o)))) o1 (mnc (mA M 17 o1) (mnc (mA M 17 o0) (mA M 15 o)))) o (mnc (mA M 17 o1) (mnc (mA M 17 o0) (mA M 15 o)))) n 4 (prF M 4 1 [o0, o1])) n 1 (mA M 14 o0)) n 2 (mA M 14 o1)) = tr1
  cases mB M 3 o
  · cases decide ((prF M 4 1 [o0, o1]) < mA M 14 o)
    · cases decide (oM M o0 = oM M o) <;> cases decide (oM M o1 = oM M o) <;> cases f <;> simp only [cond_true, cond_false, Bool.or_true, Bool.or_false, Bool.true_or, Bool.false_or, Option.isNone_none, Option.isNone_some, and_self]
    · simp only [cond_true, cond_false, Bool.or_true, Bool.or_false, Bool.true_or, Bool.false_or, Option.isNone_none, Option.isNone_some, and_self]
  · cases decide (mA M 14 o < (prF M 4 1 [o0, o1]))
    · cases decide (oM M o0 = oM M o) <;> cases decide (oM M o1 = oM M o) <;> cases f <;> simp only [cond_true, cond_false, Bool.or_true, Bool.or_false, Bool.true_or, Bool.false_or, Option.isNone_none, Option.isNone_some, and_self]
    · simp only [cond_true, cond_false, Bool.or_true, Bool.or_false, Bool.true_or, Bool.false_or, Option.isNone_none, Option.isNone_some, and_self]
