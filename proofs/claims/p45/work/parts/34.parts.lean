/-! the store's two parts: the reference's arrays and numbers (rp), and all else (cp) -/
abbrev sM : Type := (Nat → Nat → Int32) × (Nat → Nat → Bool) × (Nat → Int32)
def mA (M : sM) : Nat → Nat → Int32 := M.1
def mB (M : sM) : Nat → Nat → Bool := M.2.1
def mI (M : sM) : Nat → Int32 := M.2.2
def mAw (M : sM) (a p : Nat) (v : Int32) : sM := (sU2 (mA M) a p v, mB M, mI M)
def mBw (M : sM) (a p : Nat) (v : Bool) : sM := (mA M, sU2 (mB M) a p v, mI M)
def mIw (M : sM) (F : Nat) (v : Int32) : sM := (mA M, mB M, sU1 (mI M) F v)
/-- a whole array, a whole column -/
def mAf (M : sM) (a : Nat) (f : Nat → Int32) : sM := (fun a' p => if a' = a then f p else mA M a' p, mB M, mI M)
def mBf (M : sM) (a : Nat) (f : Nat → Bool) : sM := (mA M, fun a' p => if a' = a then f p else mB M a' p, mI M)
def sMr (F : Nat) : Bool := Nat.ble 768 F && Nat.blt F 832
abbrev sCp : Type := (Nat → Nat → Int32) × (Nat → Nat → Bool) × (Nat → Nat → Option Nat) × (Nat → Nat → Nat → Int32) × (Nat → Nat → Nat → Nat × Option Nat) × (Nat → Nat → Nat → Int64) × (Nat → Nat → Nat) × (Nat → Nat) × (Nat → Nat → Nat) × Nat × Nat
/-- what the reference notes down for a moment: its arrays 27 to 30, its number 811 -/
def sSc (a : Nat) : Bool := Nat.ble 27 a && Nat.ble a 30
def sMq (F : Nat) : Bool := sMr F && !(Nat.beq F 811)
def rp (t : sT) : sM := (fun a p => bif sSc a then 0 else sA t 21 a p, sB t 22, fun F => bif sMq F then sI t F 0 else 0)
def cp (t : sT) : sCp := (fun F o => bif sMr F then 0 else sI t F o, sZ t, sR t, fun k o p => bif Nat.beq k 21 then 0 else sA t k o p, sE t, sL t, sN t, sC t, sG t, sn t, sw t)
/-- what a call of the reference leaves -/
def rq (t : sT) (M' : sM) (Q : sRs → sT → Prop) (r : sRs) : Prop := ∀ t', rp t' = M' → cp t' = cp t → Q r t'
section S34
variable {t t' : sT} {M : sM}
theorem mA_A {a p a' p' : Nat} {v : Int32} : mA (mAw M a p v) a' p' = if a' = a ∧ p' = p then v else mA M a' p' := rfl
theorem mA_s {a p : Nat} {v : Int32} : mA (mAw M a p v) a p = v := if_pos ⟨rfl, rfl⟩
theorem mB_s {a p : Nat} {v : Bool} : mB (mBw M a p v) a p = v := if_pos ⟨rfl, rfl⟩
theorem mI_s {F : Nat} {v : Int32} : mI (mIw M F v) F = v := if_pos rfl
theorem mA_n {a p a' p' : Nat} {v : Int32} (h : Nat.beq a' a = false) : mA (mAw M a p v) a' p' = mA M a' p' := if_neg (fun z => Nat.ne_of_beq_eq_false h z.1)
theorem mB_n {a p a' p' : Nat} {v : Bool} (h : Nat.beq a' a = false) : mB (mBw M a p v) a' p' = mB M a' p' := if_neg (fun z => Nat.ne_of_beq_eq_false h z.1)
theorem mI_n {F F' : Nat} {v : Int32} (h : Nat.beq F' F = false) : mI (mIw M F v) F' = mI M F' := if_neg (fun z => Nat.ne_of_beq_eq_false h z)
theorem rp_A {a p : Nat} {v : Int32} (h : sSc a = false) : rp (sAw t 21 a p v) = mAw (rp t) a p v := by
  refine Prod.ext (funext fun a' => funext fun p' => ?_) rfl
  show (bif sSc a' then 0 else (if 21 = 21 ∧ a' = a ∧ p' = p then v else sA t 21 a' p')) = if a' = a ∧ p' = p then v else (bif sSc a' then 0 else sA t 21 a' p')
  by_cases h2 : a' = a ∧ p' = p
  · rw [if_pos ⟨rfl, h2⟩, if_pos h2, h2.1, h]; rfl
  · rw [if_neg (fun z => h2 z.2), if_neg h2]
theorem rp_As {a p : Nat} {v : Int32} (h : sSc a = true) : rp (sAw t 21 a p v) = rp t := by
  refine Prod.ext (funext fun a' => funext fun p' => ?_) rfl
  show (bif sSc a' then 0 else (if 21 = 21 ∧ a' = a ∧ p' = p then v else sA t 21 a' p')) = (bif sSc a' then 0 else sA t 21 a' p')
  by_cases h2 : a' = a
  · rw [h2, h]; rfl
  · rw [if_neg (fun z => h2 z.2.1)]
theorem rp_B {a p : Nat} {v : Bool} : rp (sBw t 22 a p v) = mBw (rp t) a p v := by
  refine Prod.ext rfl (Prod.ext (funext fun a' => funext fun p' => ?_) rfl)
  show (if 22 = 22 ∧ a' = a ∧ p' = p then v else sB t 22 a' p') = if a' = a ∧ p' = p then v else sB t 22 a' p'
  by_cases h : a' = a ∧ p' = p
  · rw [if_pos ⟨rfl, h⟩, if_pos h]
  · rw [if_neg (fun z => h z.2), if_neg h]
theorem rp_I {F : Nat} {v : Int32} (h : sMq F = true) : rp (sIw t F 0 v) = mIw (rp t) F v := by
  refine Prod.ext rfl (Prod.ext rfl (funext fun F' => ?_))
  show (bif sMq F' then (if F' = F ∧ 0 = 0 then v else sI t F' 0) else 0) = if F' = F then v else (bif sMq F' then sI t F' 0 else 0)
  by_cases h2 : F' = F
  · subst h2; rw [h, if_pos rfl, if_pos ⟨rfl, rfl⟩]; rfl
  · rw [if_neg h2, if_neg (fun z => h2 z.1)]
theorem rp_Ic {F o : Nat} {v : Int32} (h : sMq F = false) : rp (sIw t F o v) = rp t := by
  refine Prod.ext rfl (Prod.ext rfl (funext fun F' => ?_))
  show (bif sMq F' then (if F' = F ∧ 0 = o then v else sI t F' 0) else 0) = bif sMq F' then sI t F' 0 else 0
  by_cases h2 : F' = F
  · subst h2; rw [h]; rfl
  · rw [if_neg (fun z => h2 z.1)]
theorem rp_Ac {k a p : Nat} {v : Int32} (h : Nat.beq k 21 = false) : rp (sAw t k a p v) = rp t := by
  refine Prod.ext (funext fun a' => funext fun p' => ?_) rfl
  show (bif sSc a' then 0 else (if 21 = k ∧ a' = a ∧ p' = p then v else sA t 21 a' p')) = _
  rw [if_neg (fun z => Nat.ne_of_beq_eq_false h z.1.symm)]; rfl
theorem rp_Z {F o : Nat} {v : Bool} : rp (sZw t F o v) = rp t := rfl
theorem rp_R {F o : Nat} {v : Option Nat} : rp (sRw t F o v) = rp t := rfl
theorem rp_E {k o p : Nat} {v : Nat × Option Nat} : rp (sEw t k o p v) = rp t := rfl
theorem rp_L {k o p : Nat} {v : Int64} : rp (sLw t k o p v) = rp t := rfl
theorem rp_new {k w : Nat} : rp (sNew t k w) = rp t := rfl
theorem rp_nwa {k w : Nat} : rp (sNwA t k w) = rp t := rfl
theorem rp_cpy {i n : Nat} : rp (sCpy t i n) = rp t := rfl
theorem rp_thr : rp (sThr t) = rp t := rfl
theorem cp_A {a p : Nat} {v : Int32} : cp (sAw t 21 a p v) = cp t := by
  refine Prod.ext rfl (Prod.ext rfl (Prod.ext rfl (Prod.ext (funext fun k => funext fun o => funext fun q => ?_) rfl)))
  show (bif Nat.beq k 21 then 0 else (if k = 21 ∧ o = a ∧ q = p then v else sA t k o q)) = bif Nat.beq k 21 then 0 else sA t k o q
  by_cases h : k = 21
  · subst h; rfl
  · rw [if_neg (fun z => h z.1)]
theorem cp_B {k a p : Nat} {v : Bool} : cp (sBw t k a p v) = cp t := rfl
theorem cp_I {F o : Nat} {v : Int32} (h : sMr F = true) : cp (sIw t F o v) = cp t := by
  refine Prod.ext (funext fun F' => funext fun o' => ?_) rfl
  show (bif sMr F' then 0 else (if F' = F ∧ o' = o then v else sI t F' o')) = bif sMr F' then 0 else sI t F' o'
  by_cases h2 : F' = F
  · subst h2; rw [h]; rfl
  · rw [if_neg (fun z => h2 z.1)]
def sp (t : sT) : (Nat → Nat → Int32) × Int32 := (fun a p => bif sSc a then sA t 21 a p else 0, sI t 811 0)
theorem sp_A {a p : Nat} {v : Int32} (h : sSc a = false) : sp (sAw t 21 a p v) = sp t := by
  refine Prod.ext (funext fun a' => funext fun p' => ?_) rfl
  show (bif sSc a' then (if 21 = 21 ∧ a' = a ∧ p' = p then v else sA t 21 a' p') else 0) = (bif sSc a' then sA t 21 a' p' else 0)
  by_cases h2 : a' = a
  · rw [h2, h]; rfl
  · rw [if_neg (fun z => h2 z.2.1)]
theorem sp_B {k a p : Nat} {v : Bool} : sp (sBw t k a p v) = sp t := rfl
theorem sp_I {F o : Nat} {v : Int32} (h : Nat.beq F 811 = false) : sp (sIw t F o v) = sp t := by
  refine Prod.ext rfl ?_
  exact if_neg (fun z => Nat.ne_of_beq_eq_false h z.1.symm)
theorem sA_sp {a p : Nat} (h : sp t' = sp t) (ha : sSc a = true) : sA t' 21 a p = sA t 21 a p := by
  have h1 : (bif sSc a then sA t' 21 a p else 0) = (bif sSc a then sA t 21 a p else 0) := congrFun (congrFun (congrArg Prod.fst h) a) p
  rw [ha] at h1; exact h1
theorem sI_sp (h : sp t' = sp t) : sI t' 811 0 = sI t 811 0 := congrArg Prod.snd h
theorem Cn_cp (h : cp t' = cp t) (hc : Cn t) : Cn t' := by
  have hR : sR t' = sR t := congrArg (fun z : sCp => z.2.2.1) h
  have hN : sN t' = sN t := congrArg (fun z : sCp => z.2.2.2.2.2.2.1) h
  have hE : sE t' = sE t := congrArg (fun z : sCp => z.2.2.2.2.1) h
  have hC : sC t' = sC t := congrArg (fun z : sCp => z.2.2.2.2.2.2.2.1) h
  have hI : ∀ F o, sMr F = false → sI t' F o = sI t F o := fun F o hF => by
    have := congrFun (congrFun (congrArg (fun z : sCp => z.1) h) F) o
    have this : (bif sMr F then 0 else sI t' F o) = bif sMr F then 0 else sI t F o := this
    rw [hF] at this; exact this
  have hA : ∀ k o p, Nat.beq k 21 = false → sA t' k o p = sA t k o p := fun k o p hk => by
    have := congrFun (congrFun (congrFun (congrArg (fun z : sCp => z.2.2.2.1) h) k) o) p
    have this : (bif Nat.beq k 21 then 0 else sA t' k o p) = bif Nat.beq k 21 then 0 else sA t k o p := this
    rw [hk] at this; exact this
  unfold Cn
  rw [hR, hN, hE, hC]
  refine ⟨hc.1, hc.2.1, fun q hq => ?_, hc.2.2.2.1, hc.2.2.2.2.1, fun p => ?_⟩
  · rw [hI _ _ ((by decide : ∀ q ∈ sKI, sMr q.1 = false) q hq)]; exact hc.2.2.1 q hq
  · rw [hA 28 0 p rfl, hA 28 1 p rfl]; exact hc.2.2.2.2.2 p
end S34
