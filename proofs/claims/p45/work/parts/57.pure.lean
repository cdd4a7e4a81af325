/-! effects on the state alone: what commutes -/
section S57
variable {M M' M0 N : sM} {n T b c m o k x y K : Nat} {p a d v : Int32} {s z : Bool} {L l : List Nat}
/-! trades write arrays of their own -/
def g1A (a : Nat) : Bool := Nat.beq a 1 || Nat.beq a 5 || Nat.beq a 6 || (Nat.ble 21 a && Nat.ble a 25)
def pt1 (M N : sM) : sM := (fun a p => bif g1A a then mA N a p else mA M a p, fun a p => bif Nat.beq a 7 then mB N a p else mB M a p, fun F => bif Nat.beq F 801 then mI N F else mI M F)
theorem pt1_self : pt1 M M = M := by
  refine Prod.ext (funext fun a => funext fun p => ?_) (Prod.ext (funext fun a => funext fun p => ?_) (funext fun F => ?_))
  · show (bif g1A a then mA M a p else mA M a p) = mA M a p
    cases g1A a <;> rfl
  · show (bif Nat.beq a 7 then mB M a p else mB M a p) = mB M a p
    cases Nat.beq a 7 <;> rfl
  · show (bif Nat.beq F 801 then mI M F else mI M F) = mI M F
    cases Nat.beq F 801 <;> rfl
theorem pt1_A {A q : Nat} (h : g1A A = false) : mAw (pt1 M N) A q v = pt1 (mAw M A q v) N := by
  refine Prod.ext (funext fun a => funext fun p => ?_) rfl
  show (if a = A ∧ p = q then v else bif g1A a then mA N a p else mA M a p) = bif g1A a then mA N a p else (if a = A ∧ p = q then v else mA M a p)
  by_cases e : a = A
  · subst e; rw [h]; rfl
  · rw [if_neg (fun z => e z.1), if_neg (fun z => e z.1)]
theorem pt1_A1 {A q : Nat} (h : g1A A = true) : mAw (pt1 M N) A q v = pt1 M (mAw N A q v) := by
  refine Prod.ext (funext fun a => funext fun p => ?_) rfl
  show (if a = A ∧ p = q then v else bif g1A a then mA N a p else mA M a p) = bif g1A a then (if a = A ∧ p = q then v else mA N a p) else mA M a p
  by_cases e : a = A
  · subst e; rw [h]; rfl
  · rw [if_neg (fun z => e z.1), if_neg (fun z => e z.1)]
theorem pt1_B {A q : Nat} {v : Bool} (h : Nat.beq A 7 = false) : mBw (pt1 M N) A q v = pt1 (mBw M A q v) N := by
  refine Prod.ext rfl (Prod.ext (funext fun a => funext fun p => ?_) rfl)
  show (if a = A ∧ p = q then v else bif Nat.beq a 7 then mB N a p else mB M a p) = bif Nat.beq a 7 then mB N a p else (if a = A ∧ p = q then v else mB M a p)
  by_cases e : a = A
  · subst e; rw [h]; rfl
  · rw [if_neg (fun z => e z.1), if_neg (fun z => e z.1)]
theorem pt1_B1 {q : Nat} {v : Bool} : mBw (pt1 M N) 7 q v = pt1 M (mBw N 7 q v) := by
  refine Prod.ext rfl (Prod.ext (funext fun a => funext fun p => ?_) rfl)
  show (if a = 7 ∧ p = q then v else bif Nat.beq a 7 then mB N a p else mB M a p) = bif Nat.beq a 7 then (if a = 7 ∧ p = q then v else mB N a p) else mB M a p
  by_cases e : a = 7
  · subst e; rfl
  · rw [if_neg (fun z => e z.1), if_neg (fun z => e z.1)]
theorem pt1_I {F : Nat} (h : Nat.beq F 801 = false) : mIw (pt1 M N) F v = pt1 (mIw M F v) N := by
  refine Prod.ext rfl (Prod.ext rfl (funext fun a => ?_))
  show (if a = F then v else bif Nat.beq a 801 then mI N a else mI M a) = bif Nat.beq a 801 then mI N a else (if a = F then v else mI M a)
  by_cases e : a = F
  · subst e; rw [h]; rfl
  · rw [if_neg e, if_neg e]
theorem pt1_I1 : mIw (pt1 M N) 801 v = pt1 M (mIw N 801 v) := by
  refine Prod.ext rfl (Prod.ext rfl (funext fun a => ?_))
  show (if a = 801 then v else bif Nat.beq a 801 then mI N a else mI M a) = bif Nat.beq a 801 then (if a = 801 then v else mI N a) else mI M a
  by_cases e : a = 801
  · subst e; rfl
  · rw [if_neg e, if_neg e]
theorem pt1_bif : (bif z then pt1 M N else pt1 M' N) = pt1 (bif z then M else M') N := by cases z <;> rfl
theorem pt1_rA {A q : Nat} (h : g1A A = false) : mA (pt1 M N) A q = mA M A q := by
  show (bif g1A A then mA N A q else mA M A q) = mA M A q
  rw [h]; rfl
theorem pt1_rA1 {A q : Nat} (h : g1A A = true) : mA (pt1 M N) A q = mA N A q := by
  show (bif g1A A then mA N A q else mA M A q) = mA N A q
  rw [h]; rfl
theorem pt1_rB {A q : Nat} (h : Nat.beq A 7 = false) : mB (pt1 M N) A q = mB M A q := by
  show (bif Nat.beq A 7 then mB N A q else mB M A q) = mB M A q
  rw [h]; rfl
theorem pt1_rI {F : Nat} (h : Nat.beq F 801 = false) : mI (pt1 M N) F = mI M F := by
  show (bif Nat.beq F 801 then mI N F else mI M F) = mI M F
  rw [h]; rfl
theorem pt1_oM : oM (pt1 M N) = oM M := rfl
theorem pt1_oB : oB (pt1 M N) = oB M := rfl
theorem pt1_mk {s : Bool} : mkF (pt1 M N) T c m o p a s = pt1 M (mkF N T c m o p a s) := by
  unfold mkF
  simp only [pt1_A1 (A := 21) rfl, pt1_A1 (A := 22) rfl, pt1_A1 (A := 23) rfl, pt1_A1 (A := 24) rfl, pt1_A1 (A := 25) rfl, pt1_B1, pt1_I1, pt1_rA1 (A := 6) rfl, pt1_A1 (A := 6) rfl, pt1_rA1 (A := 5) rfl, pt1_A1 (A := 5) rfl, pt1_rA1 (A := 1) rfl, pt1_A1 (A := 1) rfl]
theorem pt1_db : dbF (pt1 M N) T b m o p a = pt1 M (dbF N T b m o p a) := by
  unfold dbF
  cases snd b with
  | none => exact pt1_mk
  | some e =>
    show mkF (mkF (pt1 M N) T e o m (mA (pt1 M N) 1 e) a false) (T + 1) (fst b) m o (mA (pt1 M N) 1 e + p) a false = _
    rw [pt1_rA1 (A := 1) rfl, pt1_mk, pt1_mk]
theorem pt1_tk : tkF (pt1 M N) o a = pt1 (tkF M o a) N := by
  unfold tkF
  simp only [pt1_A (A := 15) rfl, pt1_A (A := 26) rfl, pt1_rA (A := 15) rfl, pt1_rA (A := 26) rfl, pt1_rB (A := 4) rfl, pt1_oM]
theorem pt1_of : ofF (pt1 M N) o a = pt1 (ofF M o a) N := by
  rw [ofF_eq, ofF_eq, pt1_tk, pt1_rA (A := 15) rfl, pt1_A (A := 19) rfl, pt1_A (A := 17) rfl, pt1_bif]
theorem pt1_sh : shF (pt1 M N) o s = pt1 (shF M o s) N := by
  unfold shF
  simp only [pt1_A (A := 17) rfl, pt1_A (A := 18) rfl, pt1_I (F := 800) rfl, pt1_rA (A := 16) rfl, pt1_rA (A := 15) rfl, pt1_rI (F := 800) rfl, pt1_bif]
theorem pt1_fl : flF (pt1 M N) o a = pt1 (flF M o a) N := by
  unfold flF
  rw [pt1_rA (A := 17) rfl, pt1_A (A := 17) rfl, pt1_of, pt1_sh, pt1_rA (A := 15) rfl, pt1_rA (A := 17) rfl, pt1_bif, pt1_bif]
theorem pt1_reS : reS (pt1 M N) n b p k = pt1 (reS M n b p k) N := by
  unfold reS
  rw [pt1_rB (A := 6) rfl, pt1_rB (A := 3) rfl, pt1_rA (A := 19) rfl, pt1_rA (A := 20) rfl, pt1_oB, pt1_B (A := 6) rfl]
theorem pt1_reL : ∀ k, reL (pt1 M N) n b p k = pt1 (reL M n b p k) N
  | 0 => rfl
  | k + 1 => by
    show reS (reL (pt1 M N) n b p k) n b p k = pt1 (reS (reL M n b p k) n b p k) N
    rw [pt1_reL k, pt1_reS]
theorem pt1_re : reF (pt1 M N) n b p = pt1 (reF M n b p) N := pt1_reL n
/-! noting trades: flags alone -/
theorem mBf_id {A : Nat} : mBf M A (mB M A) = M := by
  refine Prod.ext rfl (Prod.ext (funext fun a => funext fun p => ?_) rfl)
  show (if a = A then mB M A p else mB M a p) = mB M a p
  by_cases e : a = A
  · rw [if_pos e, e]
  · rw [if_neg e]
def hit (M : sM) (b : Nat) (p : Int32) (k : Nat) : Bool := ((decide ((mA M 19 k) = 0)) && ((decide ((oB M k) = b)) && (bif (mB M 3 k) then (!(decide (p < (mA M 20 k)))) else (!(decide ((mA M 20 k) < p))))))
theorem reL_eq : ∀ k, reL M n b p k = mBf M 6 (fun j => mB M 6 j || (decide (j < k) && hit M b p j))
  | 0 => by
    have e : (fun j => mB M 6 j || (decide (j < 0) && hit M b p j)) = mB M 6 := funext fun j => by
      rw [decide_eq_false (Nat.not_lt_zero j), Bool.false_and, Bool.or_false]
    rw [e, mBf_id]; rfl
  | k + 1 => by
    show reS (reL M n b p k) n b p k = _
    rw [reL_eq k]
    show mBw (mBf M 6 (fun j => mB M 6 j || (decide (j < k) && hit M b p j))) 6 k ((mB M 6 k || (decide (k < k) && hit M b p k)) || hit M b p k) = _
    refine Prod.ext rfl (Prod.ext (funext fun A => funext fun j => ?_) rfl)
    show (if A = 6 ∧ j = k then ((mB M 6 k || (decide (k < k) && hit M b p k)) || hit M b p k) else if A = 6 then (mB M 6 j || (decide (j < k) && hit M b p j)) else mB M A j) = if A = 6 then (mB M 6 j || (decide (j < k + 1) && hit M b p j)) else mB M A j
    by_cases eA : A = 6
    · by_cases ej : j = k
      · rw [if_pos ⟨eA, ej⟩, if_pos eA, ej, decide_eq_false (Nat.lt_irrefl k), decide_eq_true (Nat.lt_succ_self k), Bool.false_and, Bool.true_and, Bool.or_false]
      · rw [if_neg (fun z => ej z.2), if_pos eA, if_pos eA]
        have : decide (j < k) = decide (j < k + 1) := decide_eq_decide.mpr ⟨fun h => by omega, fun h => by omega⟩
        rw [this]
    · rw [if_neg (fun z => eA z.1), if_neg eA, if_neg eA]
def rbt (M : sM) (n b : Nat) (p : Int32) (j : Nat) : Bool := mB M 6 j || (decide (j < n) && hit M b p j)
theorem reF_eq : reF M n b p = mBf M 6 (rbt M n b p) := reL_eq n
theorem cr_re : crF M n b p = reF M n b p := by
  have hS : ∀ (M : sM) k, crS M n b p k = reS M n b p k := fun M k => by
    have id6 : mBw M 6 k (mB M 6 k) = M := by
      refine Prod.ext rfl (Prod.ext (funext fun A => funext fun j => ?_) rfl)
      show (if A = 6 ∧ j = k then mB M 6 k else mB M A j) = mB M A j
      by_cases e : A = 6 ∧ j = k
      · rw [if_pos e, e.1, e.2]
      · rw [if_neg e]
    unfold crS reS
    cases decide (mA M 19 k = 0)
    · show M = mBw M 6 k (mB M 6 k || (false && _))
      rw [Bool.false_and, Bool.or_false, id6]
    · cases decide (oB M k = b)
      · show M = mBw M 6 k (mB M 6 k || (true && (false && _)))
        rw [Bool.false_and, Bool.and_false, Bool.or_false, id6]
      · cases (bif (mB M 3 k) then (!(decide (p < (mA M 20 k)))) else (!(decide ((mA M 20 k) < p))))
        · show M = mBw M 6 k (mB M 6 k || (true && (true && false)))
          rw [Bool.and_false, Bool.and_false, Bool.or_false, id6]
        · show mBw M 6 k true = mBw M 6 k (mB M 6 k || (true && (true && true)))
          rw [Bool.and_true, Bool.and_true, Bool.or_true]
  have hL : ∀ k, crL M n b p k = reL M n b p k := fun k => by
    induction k with
    | zero => rfl
    | succ k ih =>
      show crS (crL M n b p k) n b p k = reS (reL M n b p k) n b p k
      rw [ih, hS]
  exact hL n
theorem re_cong (h19 : ∀ k, k < n → decide (mA M' 19 k = 0) = decide (mA M 19 k = 0)) (h13 : mA M' 13 = mA M 13) (h20 : mA M' 20 = mA M 20) (h3 : mB M' 3 = mB M 3) (h6 : mB M' 6 = mB M 6) : rbt M' n b p = rbt M n b p := by
  funext j
  unfold rbt hit oB
  rw [h6, h13, h20, h3]
  by_cases hj : j < n
  · rw [h19 j hj]
  · rw [decide_eq_false hj, Bool.false_and, Bool.false_and]
theorem re_comm {f : sM → sM} (hf : ∀ h, f (mBf M 6 h) = mBf (f M) 6 h) (h19 : ∀ k, k < n → decide (mA (f M) 19 k = 0) = decide (mA M 19 k = 0)) (h13 : mA (f M) 13 = mA M 13) (h20 : mA (f M) 20 = mA M 20) (h3 : mB (f M) 3 = mB M 3) (h6 : mB (f M) 6 = mB M 6) : f (reF M n b p) = reF (f M) n b p := by
  rw [reF_eq, reF_eq, hf, re_cong h19 h13 h20 h3 h6]
theorem mBf_tk {h : Nat → Bool} : tkF (mBf M 6 h) o a = mBf (tkF M o a) 6 h := rfl
theorem mBf_bif {h : Nat → Bool} : (bif z then mBf M 6 h else mBf M' 6 h) = mBf (bif z then M else M') 6 h := by cases z <;> rfl
theorem mBf_of {h : Nat → Bool} : ofF (mBf M 6 h) o a = mBf (ofF M o a) 6 h := by
  rw [ofF_eq, ofF_eq]
  exact mBf_bif (M := mAw (mAw (tkF M o a) 19 o 2) 17 o 0) (M' := tkF M o a) (h := h) (z := decide (mA M 15 o - a = 0))
theorem mBf_sh {h : Nat → Bool} : shF (mBf M 6 h) o s = mBf (shF M o s) 6 h := by
  unfold shF
  cases s <;> rfl
theorem mBf_fl {h : Nat → Bool} : flF (mBf M 6 h) o a = mBf (flF M o a) 6 h := by
  have e1 : ofF (mAw (mBf M 6 h) 17 o (mA (mBf M 6 h) 17 o - a)) o a = mBf (ofF (mAw M 17 o (mA M 17 o - a)) o a) 6 h := mBf_of (M := mAw M 17 o (mA M 17 o - a))
  unfold flF
  rw [e1, mBf_sh]
  exact (congrArg (fun X => bif (decide (0 < (mA (ofF (mAw M 17 o ((mA M 17 o) - a)) o a) 15 o))) then X else mBf (ofF (mAw M 17 o (mA M 17 o - a)) o a) 6 h) mBf_bif).trans mBf_bif
/-! arrays that the effects leave as they are -/
def g2A (a : Nat) : Bool := Nat.beq a 15 || Nat.beq a 17 || Nat.beq a 18 || Nat.beq a 19 || Nat.beq a 26
theorem tk_A {A : Nat} (h : g2A A = false) : mA (tkF M o a) A = mA M A := by
  unfold g2A at h
  simp only [Bool.or_eq_false_iff] at h
  refine funext fun q => ?_
  show (if A = 26 ∧ q = oM M o then ((mA M 26 (oM M o)) + (bif (mB M 4 o) then a else 0)) else if A = 15 ∧ q = o then mA M 15 o - a else mA M A q) = mA M A q
  rw [if_neg (fun z => Nat.ne_of_beq_eq_false h.2 z.1), if_neg (fun z => Nat.ne_of_beq_eq_false h.1.1.1.1 z.1)]
theorem bif_A {A : Nat} (h1 : mA M A = mA N A) (h2 : mA M' A = mA N A) : mA (bif z then M else M') A = mA N A := by cases z; exact h2; exact h1
theorem aw_A {A B q : Nat} (h : Nat.beq A B = false) (h1 : mA M A = mA N A) : mA (mAw M B q v) A = mA N A := by
  rw [← h1]
  exact funext fun r => if_neg (fun z => Nat.ne_of_beq_eq_false h z.1)
theorem of_A {A : Nat} (h : g2A A = false) : mA (ofF M o a) A = mA M A := by
  have h2 := h
  unfold g2A at h2
  simp only [Bool.or_eq_false_iff] at h2
  rw [ofF_eq]
  exact bif_A (aw_A h2.1.1.1.2 (aw_A h2.1.2 (tk_A h))) (tk_A h)
theorem sh_A {A : Nat} (h : g2A A = false) : mA (shF M o s) A = mA M A := by
  unfold g2A at h
  simp only [Bool.or_eq_false_iff] at h
  unfold shF
  exact bif_A (aw_A h.1.1.2 (aw_A (M := M) (N := M) h.1.1.1.2 rfl)) (aw_A h.1.1.1.2 rfl)
theorem fl_A {A : Nat} (h : g2A A = false) : mA (flF M o a) A = mA M A := by
  have h2 := h
  unfold g2A at h2
  simp only [Bool.or_eq_false_iff] at h2
  have e1 : mA (ofF (mAw M 17 o (mA M 17 o - a)) o a) A = mA M A := (of_A h).trans (aw_A h2.1.1.1.2 rfl)
  unfold flF
  exact bif_A (bif_A ((sh_A h).trans e1) e1) e1
theorem of_B : mB (ofF M o a) = mB M := by
  rw [ofF_eq]
  cases decide (mA M 15 o - a = 0) <;> rfl
theorem sh_B : mB (shF M o s) = mB M := by unfold shF; cases s <;> rfl
theorem bif_B (h1 : mB M = mB N) (h2 : mB M' = mB N) : mB (bif z then M else M') = mB N := by cases z; exact h2; exact h1
theorem fl_B : mB (flF M o a) = mB M := by
  have e1 : mB (ofF (mAw M 17 o (mA M 17 o - a)) o a) = mB M := of_B
  unfold flF
  exact bif_B (bif_B (sh_B.trans e1) e1) e1
theorem st_flx (h : mA M 19 x = 1) : mA (flF M x a) 19 x = bif decide (mA M 15 x - a = 0) then 2 else 1 := by
  by_cases e : mA M 15 x - a = 0
  · rw [fl_z e, ofF_eq, decide_eq_true e]
    show mA (mAw (mAw (tkF M x a) 19 x 2) 17 x 0) 19 x = 2
    exact if_pos ⟨rfl, rfl⟩
  · rw [fl_n e h, decide_eq_false e]
    show _ = 1
    have h2 : mA (mAw (tkF M x a) 17 x (mA M 17 x - a)) 19 x = 1 := h
    have h3 : mA (rsF (mAw (tkF M x a) 17 x (mA M 17 x - a)) x) 19 x = 1 := if_pos ⟨rfl, rfl⟩
    cases decide (0 < mA M 15 x - a)
    · exact h2
    · cases decide (mA M 17 x - a = 0)
      · exact h2
      · exact h3
theorem re_fl (h : mA M 19 x = 1) : flF (reF M n b p) x a = reF (flF M x a) n b p :=
  re_comm (f := fun M => flF M x a) (fun _ => mBf_fl) (fun k _ => by
    by_cases e : k = x
    · rw [e, st_flx h, h]
      cases decide (mA M 15 x - a = 0) <;> rfl
    · rw [st_flF e]) (fl_A rfl) (fl_A rfl) (by rw [fl_B]) (by rw [fl_B])
theorem re_tk : tkF (reF M n b p) o a = reF (tkF M o a) n b p :=
  re_comm (f := fun M => tkF M o a) (fun _ => mBf_tk) (fun k _ => rfl) (tk_A rfl) (tk_A rfl) rfl rfl
/-! takes -/
def adF (A q : Nat) (v : Int32) (M : sM) : sM := mAw M A q (mA M A q + v)
theorem ad_comm {A q B r : Nat} {v w : Int32} : adF A q v (adF B r w M) = adF B r w (adF A q v M) := by
  refine Prod.ext (funext fun a => funext fun p => ?_) rfl
  show (if a = A ∧ p = q then (if A = B ∧ q = r then mA M B r + w else mA M A q) + v else if a = B ∧ p = r then mA M B r + w else mA M a p) = (if a = B ∧ p = r then (if B = A ∧ r = q then mA M A q + v else mA M B r) + w else if a = A ∧ p = q then mA M A q + v else mA M a p)
  by_cases h1 : a = A ∧ p = q
  · by_cases h2 : a = B ∧ p = r
    · rw [if_pos h1, if_pos h2, if_pos ⟨h1.1.symm.trans h2.1, h1.2.symm.trans h2.2⟩, if_pos ⟨h2.1.symm.trans h1.1, h2.2.symm.trans h1.2⟩, ← h1.1, ← h1.2, ← h2.1, ← h2.2, Int32.add_assoc, Int32.add_assoc, Int32.add_comm w v]
    · rw [if_pos h1, if_neg h2, if_pos h1, if_neg (fun z => h2 ⟨h1.1.trans z.1, h1.2.trans z.2⟩)]
  · by_cases h2 : a = B ∧ p = r
    · rw [if_neg h1, if_pos h2, if_pos h2, if_neg (fun z => h1 ⟨h2.1.trans z.1, h2.2.trans z.2⟩)]
    · rw [if_neg h1, if_neg h2, if_neg h2, if_neg h1]
theorem tk_ad : tkF M o a = adF 26 (oM M o) (bif (mB M 4 o) then a else 0) (adF 15 o (-a) M) := by
  unfold tkF adF
  rw [Int32.sub_eq_add_neg]
  rfl
theorem tk_comm : tkF (tkF M o a) x d = tkF (tkF M x d) o a := by
  have e1 : tkF (tkF M o a) x d = adF 26 (oM M x) (bif (mB M 4 x) then d else 0) (adF 15 x (-d) (adF 26 (oM M o) (bif (mB M 4 o) then a else 0) (adF 15 o (-a) M))) := by
    rw [tk_ad (M := tkF M o a), tk_ad (M := M)]; rfl
  have e2 : tkF (tkF M x d) o a = adF 26 (oM M o) (bif (mB M 4 o) then a else 0) (adF 15 o (-a) (adF 26 (oM M x) (bif (mB M 4 x) then d else 0) (adF 15 x (-d) M))) := by
    rw [tk_ad (M := tkF M x d), tk_ad (M := M)]; rfl
  rw [e1, e2, ad_comm (A := 15) (B := 26), ad_comm (A := 26) (B := 26), ad_comm (A := 15) (B := 15), ad_comm (A := 26) (B := 15)]
theorem tk_add : tkF (tkF M o a) o d = tkF M o (a + d) := by
  have e26 : (mA M 26 (oM M o) + (bif mB M 4 o then a else 0)) + (bif mB M 4 o then d else 0) = mA M 26 (oM M o) + (bif mB M 4 o then (a + d) else 0) := by
    cases mB M 4 o
    · show mA M 26 (oM M o) + 0 + 0 = mA M 26 (oM M o) + 0
      rw [Int32.add_zero, Int32.add_zero]
    · exact Int32.add_assoc _ _ _
  have e15 : mA M 15 o - a - d = mA M 15 o - (a + d) := by
    rw [Int32.sub_eq_add_neg, Int32.sub_eq_add_neg, Int32.sub_eq_add_neg, Int32.neg_add, Int32.sub_eq_add_neg, Int32.add_assoc]
  have r15 : mA (tkF M o a) 15 o = mA M 15 o - a := tk15
  have r26 : mA (tkF M o a) 26 (oM M o) = mA M 26 (oM M o) + (bif mB M 4 o then a else 0) := if_pos ⟨rfl, rfl⟩
  have e1 : tkF (tkF M o a) o d = mAw (mAw (tkF M o a) 15 o (mA (tkF M o a) 15 o - d)) 26 (oM M o) (mA (tkF M o a) 26 (oM M o) + (bif mB M 4 o then d else 0)) := rfl
  rw [e1, r15, r26, e26, e15]
  unfold tkF
  rw [mAw_comm (A := 26) (B := 15) rfl, mAw_over, mAw_over]
theorem tk_aw {A q : Nat} (h : (g2A A || Nat.beq A 12) = false ∨ A = 17 ∨ A = 18 ∨ A = 19) : tkF (mAw M A q v) o a = mAw (tkF M o a) A q v := by
  have hA : Nat.beq A 15 = false ∧ Nat.beq A 26 = false ∧ Nat.beq A 12 = false := by
    rcases h with h | h | h | h
    · unfold g2A at h
      simp only [Bool.or_eq_false_iff] at h
      exact ⟨h.1.1.1.1.1, h.1.2, h.2⟩
    · subst h; exact ⟨rfl, rfl, rfl⟩
    · subst h; exact ⟨rfl, rfl, rfl⟩
    · subst h; exact ⟨rfl, rfl, rfl⟩
  obtain ⟨h15, h26, h12⟩ := hA
  have i15 : ∀ r, mA (mAw M A q v) 15 r = mA M 15 r := fun r => if_neg (fun z => Nat.ne_of_beq_eq_false h15 z.1.symm)
  have i26 : ∀ r, mA (mAw M A q v) 26 r = mA M 26 r := fun r => if_neg (fun z => Nat.ne_of_beq_eq_false h26 z.1.symm)
  have i12 : oM (mAw M A q v) = oM M := funext fun r => congrArg Int32.toNatClampNeg (show mA (mAw M A q v) 12 r = mA M 12 r from if_neg (fun z => Nat.ne_of_beq_eq_false h12 z.1.symm))
  unfold tkF
  rw [i15, i26, i12, mAw_comm (A := A) (B := 15) h15, mAw_comm (A := A) (B := 26) h26]
  rfl
theorem tk_n15 (h : ¬ x = o) : mA (tkF M o a) 15 x = mA M 15 x := if_neg (fun z => h z.2)
theorem tk_17 : mA (tkF M o a) 17 = mA M 17 := rfl
theorem tk_rs (h : ¬ x = o) : tkF (rsF M x) o a = rsF (tkF M o a) x := by
  have e1 : rsF M x = mAw (mIw (mAw (mAw M 19 x 1) 17 x (mnc (mA M 16 x) (mA M 15 x))) 800 ((mI M 800) + 1)) 18 x ((mI M 800) + 1) := rfl
  have e2 : rsF (tkF M o a) x = mAw (mIw (mAw (mAw (tkF M o a) 19 x 1) 17 x (mnc (mA M 16 x) (mA (tkF M o a) 15 x))) 800 ((mI M 800) + 1)) 18 x ((mI M 800) + 1) := rfl
  rw [e1, e2, tk_n15 h, tk_aw (Or.inr (Or.inr (Or.inl rfl)))]
  have e3 : ∀ M2 : sM, tkF (mIw M2 800 ((mI M 800) + 1)) o a = mIw (tkF M2 o a) 800 ((mI M 800) + 1) := fun M2 => rfl
  rw [e3, tk_aw (Or.inr (Or.inl rfl)), tk_aw (Or.inr (Or.inr (Or.inr rfl)))]
theorem tk_fl (h : ¬ x = o) (hs : mA M 19 x = 1) : flF (tkF M o d) x a = tkF (flF M x a) o d := by
  have e15 : mA (tkF M o d) 15 x = mA M 15 x := tk_n15 h
  by_cases e : mA M 15 x - a = 0
  · rw [fl_z e, fl_z (by rw [e15]; exact e), ofF_eq, ofF_eq, e15, decide_eq_true e]
    show mAw (mAw (tkF (tkF M o d) x a) 19 x 2) 17 x 0 = tkF (mAw (mAw (tkF M x a) 19 x 2) 17 x 0) o d
    rw [tk_aw (Or.inr (Or.inl rfl)), tk_aw (Or.inr (Or.inr (Or.inr rfl))), tk_comm]
  · rw [fl_n e hs, fl_n (M := tkF M o d) (by rw [e15]; exact e) hs, e15]
    have e17 : mA (tkF M o d) 17 x = mA M 17 x := rfl
    rw [e17]
    have f1 : mAw (tkF (tkF M o d) x a) 17 x (mA M 17 x - a) = tkF (mAw (tkF M x a) 17 x (mA M 17 x - a)) o d := by
      rw [tk_aw (Or.inr (Or.inl rfl)), tk_comm]
    rw [f1]
    cases decide (0 < mA M 15 x - a)
    · rfl
    · cases decide (mA M 17 x - a = 0)
      · rfl
      · exact (tk_rs h).symm
end S57
