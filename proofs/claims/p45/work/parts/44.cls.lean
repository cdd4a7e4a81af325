/-! the class's part of a store goes together with a state M of the reference -/
def kL : List (Nat × Nat) := [(516, 14), (523, 15), (517, 16), (525, 18), (518, 20), (450, 4), (451, 5), (452, 7), (453, 8), (454, 26), (456, 9), (129, 1), (130, 2), (131, 3), (67, 0), (579, 24), (580, 25)]
def kf (l : List (Nat × Nat)) (F : Nat) : Option Nat := (l.find? (fun q => Nat.beq q.1 F)).map (·.2)
def kg (l : List (Nat × Nat)) (a : Nat) : Option Nat := (l.find? (fun q => Nat.beq q.2 a)).map (·.1)
theorem kf_mem {l : List (Nat × Nat)} {a F : Nat} (h : kf l F = some a) : (F, a) ∈ l := by
  unfold kf at h
  cases hq : l.find? (fun q => Nat.beq q.1 F) with
  | none => rw [hq] at h; cases h
  | some q =>
    rw [hq] at h
    have h1 : q.2 = a := Option.some.inj h
    have h2 : q.1 = F := Nat.eq_of_beq_eq_true (List.find?_some (p := fun q : Nat × Nat => Nat.beq q.1 F) hq)
    have h3 := List.mem_of_find?_eq_some hq
    rw [← h1, ← h2]; exact h3
def Rl (t : sT) (M : sM) (n T : Nat) : Prop := rlI t M n T ∧ rlZ t M n T ∧ rlS t M ∧ rlP t M ∧ rlW t M n
def kc (F : Nat) : Bool := (Nat.beq F 69 || Nat.beq F 70 || Nat.beq F 529)
def kwL : List Nat := [523, 525, 522, 524, 450, 451, 452, 453, 454, 456, 129, 130, 131, 67, 324, 325, 258]
def kw (F : Nat) : Bool := kwL.any (fun x => Nat.beq F x)
def kz (F : Nat) : Bool := (Nat.beq F 521 || Nat.beq F 457 || Nat.beq F 458 || Nat.beq F 68)
theorem kw_mem {F : Nat} (h : kw F = true) : F ∈ kwL := by
  unfold kw at h
  obtain ⟨x, hx, e⟩ := List.any_eq_true.mp h
  have := Nat.eq_of_beq_eq_true e
  subst this; exact hx
/-- the chains -/
def qp (t : sT) : Nat → Nat → Option Nat := fun F o => bif kc F then sR t F o else none
abbrev sNp : Type := (Nat → Nat → Int32) × (Nat → Nat → Bool) × (Nat → Nat → Option Nat) × (Nat → Nat → Nat → Int32) × (Nat → Nat → Nat → Bool) × (Nat → Nat → Nat → Nat × Option Nat) × (Nat → Nat → Nat → Int64) × (Nat → Nat → Nat) × (Nat → Nat) × (Nat → Nat → Nat) × Nat × Nat
/-- all that a call of the class leaves as it is; a stamp and a reached trigger of no order stay as they are -/
def np (t : sT) : sNp := (fun F o => bif kw F && (!(Nat.beq F 525) || Nat.blt o (sC t 8)) then 0 else sI t F o, fun F o => bif kz F && (!(Nat.beq F 521) || Nat.blt o (sC t 8)) then false else sZ t F o, fun F o => bif kc F then none else sR t F o, fun k o p => bif Nat.beq k 20 then 0 else sA t k o p, sB t, sE t, sL t, sN t, sC t, sG t, sn t, sw t)
section S44
variable {t t' : sT} {M M0 : sM} {a p F o k n T : Nat}
theorem Rl_eq {M' : sM} (e : M = M') (h : Rl t M n T) : Rl t M' n T := e ▸ h
theorem kA (h : Rl t M n T) (hf : kf sPI F = some a) (ho : o < bd n T F) : sI t F o = mA M a o := h.1 _ (kf_mem hf) o ho
theorem kZ (h : Rl t M n T) (hf : kf sPZ F = some a) (ho : o < bd n T F) : sZ t F o = mB M a o := h.2.1 _ (kf_mem hf) o ho
theorem kS (h : Rl t M n T) (hf : kf sPS F = some a) : sI t F 0 = mI M a := h.2.2.1 _ (kf_mem hf)
theorem kP (h : Rl t M n T) {m c : Nat} (hm : m < 6) (hc : c < 3) : sA t 20 (m + 1) c = mA M 6 (3 * m + c) := h.2.2.2.1.1 m c hm hc
theorem kV (h : Rl t M n T) (hp : p < 18) : sA t 20 0 p = mA M 11 p := h.2.2.2.1.2 p hp
theorem kW (h : Rl t M n T) (ho : o < n) (hs : mA M 19 o = 1) : sI t 524 o = mA M 17 o := by rw [h.2.2.2.2 o ho, if_pos hs]
theorem kW0 (h : Rl t M n T) (ho : o < n) (hs : ¬ mA M 19 o = 1) : mA M 17 o = 0 := by rw [h.2.2.2.2 o ho, if_neg hs]
theorem Rl_I {v : Int32} (hf : kf kL F = some a) (h : Rl t M n T) : Rl (sIw t F o v) (mAw M a o v) n T := by
  have hm := kf_mem hf
  have c1 := (by decide : ∀ q ∈ kL, ∀ r ∈ sPI, r.1 = q.1 ∨ r.2 = q.2 → r = q) _ hm
  have c2 := (by decide : ∀ q ∈ kL, ∀ r ∈ sPS, ¬ r.1 = q.1) _ hm
  have c3 := (by decide : ∀ q ∈ kL, ¬ q.2 = 6 ∧ ¬ q.2 = 11 ∧ ¬ q.2 = 17 ∧ ¬ q.2 = 19 ∧ ¬ q.1 = 524) _ hm
  refine ⟨fun q hq o' ho => ?_, h.2.1, fun q hq => ?_, ⟨fun m c h1 h2 => ?_, fun k hk => ?_⟩, fun o' ho => ?_⟩
  · show (if q.1 = F ∧ o' = o then v else sI t q.1 o') = if q.2 = a ∧ o' = o then v else mA M q.2 o'
    by_cases e : q.1 = F ∧ o' = o
    · rw [if_pos e, if_pos ⟨congrArg Prod.snd (c1 q hq (Or.inl e.1)), e.2⟩]
    · rw [if_neg e, if_neg (fun z => e ⟨congrArg Prod.fst (c1 q hq (Or.inr z.1)), z.2⟩)]
      exact h.1 q hq o' ho
  · exact (if_neg (fun z => c2 q hq z.1)).trans (h.2.2.1 q hq)
  · exact (h.2.2.2.1.1 m c h1 h2).trans (if_neg (fun z => c3.1 z.1.symm)).symm
  · exact (h.2.2.2.1.2 k hk).trans (if_neg (fun z => c3.2.1 z.1.symm)).symm
  · show (if 17 = a ∧ o' = o then v else mA M 17 o') = if (if 19 = a ∧ o' = o then v else mA M 19 o') = 1 then (if 524 = F ∧ o' = o then v else sI t 524 o') else 0
    rw [if_neg (fun z => c3.2.2.1 z.1.symm), if_neg (c := 19 = a ∧ o' = o) (fun z => c3.2.2.2.1 z.1.symm), if_neg (c := 524 = F ∧ o' = o) (fun z => c3.2.2.2.2 z.1.symm)]
    exact h.2.2.2.2 o' ho
theorem Rl_st {v : Int32} (hv : ¬ v = 1) (h : Rl t M n T) : Rl (sIw t 522 o v) (mAw (mAw M 19 o v) 17 o 0) n T := by
  refine ⟨fun q hq o' ho => ?_, h.2.1, fun q hq => ?_, ⟨fun m c h1 h2 => h.2.2.2.1.1 m c h1 h2, fun k hk => h.2.2.2.1.2 k hk⟩, fun o' ho => ?_⟩
  · have c1 := (by decide : ∀ r ∈ sPI, r.1 = 522 ↔ r.2 = 19) q hq
    have c2 := (by decide : ∀ r ∈ sPI, ¬ r.2 = 17) q hq
    show (if q.1 = 522 ∧ o' = o then v else sI t q.1 o') = if q.2 = 17 ∧ o' = o then 0 else if q.2 = 19 ∧ o' = o then v else mA M q.2 o'
    rw [if_neg (c := q.2 = 17 ∧ o' = o) (fun z => c2 z.1)]
    by_cases e : q.1 = 522 ∧ o' = o
    · rw [if_pos e, if_pos ⟨c1.mp e.1, e.2⟩]
    · rw [if_neg e, if_neg (fun z => e ⟨c1.mpr z.1, z.2⟩)]
      exact h.1 q hq o' ho
  · exact (if_neg (fun z => (by decide : ∀ r ∈ sPS, ¬ r.1 = 522) q hq z.1)).trans (h.2.2.1 q hq)
  · show (if 17 = 17 ∧ o' = o then 0 else if 17 = 19 ∧ o' = o then v else mA M 17 o') = if (if 19 = 17 ∧ o' = o then 0 else if 19 = 19 ∧ o' = o then v else mA M 19 o') = 1 then (if 524 = 522 ∧ o' = o then v else sI t 524 o') else 0
    rw [if_neg (c := 19 = 17 ∧ o' = o) (fun z => by cases z.1), if_neg (c := 17 = 19 ∧ o' = o) (fun z => by cases z.1), if_neg (c := 524 = 522 ∧ o' = o) (fun z => by cases z.1)]
    by_cases e : o' = o
    · rw [if_pos ⟨rfl, e⟩, if_pos (c := 19 = 19 ∧ o' = o) ⟨rfl, e⟩, if_neg hv]
    · rw [if_neg (fun z => e z.2), if_neg (c := 19 = 19 ∧ o' = o) (fun z => e z.2)]
      exact h.2.2.2.2 o' ho
theorem Rl_sh {v : Int32} (hs : mA M 19 o = 1) (h : Rl t M n T) : Rl (sIw t 524 o v) (mAw M 17 o v) n T := by
  refine ⟨fun q hq o' ho => ?_, h.2.1, fun q hq => ?_, ⟨fun m c h1 h2 => h.2.2.2.1.1 m c h1 h2, fun k hk => h.2.2.2.1.2 k hk⟩, fun o' ho => ?_⟩
  · have c1 := (by decide : ∀ r ∈ sPI, ¬ r.1 = 524 ∧ ¬ r.2 = 17) q hq
    show (if q.1 = 524 ∧ o' = o then v else sI t q.1 o') = if q.2 = 17 ∧ o' = o then v else mA M q.2 o'
    rw [if_neg (fun z => c1.1 z.1), if_neg (fun z => c1.2 z.1)]
    exact h.1 q hq o' ho
  · exact (if_neg (fun z => (by decide : ∀ r ∈ sPS, ¬ r.1 = 524) q hq z.1)).trans (h.2.2.1 q hq)
  · show (if 17 = 17 ∧ o' = o then v else mA M 17 o') = if (if 19 = 17 ∧ o' = o then v else mA M 19 o') = 1 then (if 524 = 524 ∧ o' = o then v else sI t 524 o') else 0
    rw [if_neg (c := 19 = 17 ∧ o' = o) (fun z => by cases z.1)]
    by_cases e : o' = o
    · rw [if_pos ⟨rfl, e⟩, if_pos (c := 524 = 524 ∧ o' = o) ⟨rfl, e⟩, e, if_pos hs]
    · rw [if_neg (fun z => e z.2), if_neg (c := 524 = 524 ∧ o' = o) (fun z => e z.2)]
      exact h.2.2.2.2 o' ho
theorem Rl_Z {v : Bool} (hf : kf sPZ F = some a) (h : Rl t M n T) : Rl (sZw t F o v) (mBw M a o v) n T := by
  have hm := kf_mem hf
  have c1 := (by decide : ∀ q ∈ sPZ, ∀ r ∈ sPZ, r.1 = q.1 ∨ r.2 = q.2 → r = q) _ hm
  refine ⟨h.1, fun q hq o' ho => ?_, h.2.2⟩
  show (if q.1 = F ∧ o' = o then v else sZ t q.1 o') = if q.2 = a ∧ o' = o then v else mB M q.2 o'
  by_cases e : q.1 = F ∧ o' = o
  · rw [if_pos e, if_pos ⟨congrArg Prod.snd (c1 q hq (Or.inl e.1)), e.2⟩]
  · rw [if_neg e, if_neg (fun z => e ⟨congrArg Prod.fst (c1 q hq (Or.inr z.1)), z.2⟩)]
    exact h.2.1 q hq o' ho
theorem Rl_S {v : Int32} (hf : kf sPS F = some a) (h : Rl t M n T) : Rl (sIw t F 0 v) (mIw M a v) n T := by
  have hm := kf_mem hf
  have c1 := (by decide : ∀ q ∈ sPS, ∀ r ∈ sPS, r.1 = q.1 ∨ r.2 = q.2 → r = q) _ hm
  have c2 := (by decide : ∀ q ∈ sPS, (∀ r ∈ sPI, ¬ r.1 = q.1) ∧ ¬ 524 = q.1) _ hm
  refine ⟨fun q hq o' ho => ?_, h.2.1, fun q hq => ?_, ⟨fun m c h1 h2 => h.2.2.2.1.1 m c h1 h2, fun k hk => h.2.2.2.1.2 k hk⟩, fun o' ho => ?_⟩
  · exact (if_neg (fun z => c2.1 q hq z.1)).trans (h.1 q hq o' ho)
  · show (if q.1 = F ∧ 0 = 0 then v else sI t q.1 0) = if q.2 = a then v else mI M q.2
    by_cases e : q.1 = F
    · rw [if_pos ⟨e, rfl⟩, if_pos (congrArg Prod.snd (c1 q hq (Or.inl e)))]
    · rw [if_neg (fun z => e z.1), if_neg (fun z => e (congrArg Prod.fst (c1 q hq (Or.inr z))))]
      exact h.2.2.1 q hq
  · show mA M 17 o' = if mA M 19 o' = 1 then (if 524 = F ∧ o' = 0 then v else sI t 524 o') else 0
    rw [if_neg (c := 524 = F ∧ o' = 0) (fun z => c2.2 z.1)]
    exact h.2.2.2.2 o' ho
theorem Rl_P {m c : Nat} {v : Int32} (hm : m < 6) (hc : c < 3) (h : Rl t M n T) : Rl (sAw t 20 (m + 1) c v) (mAw M 6 (3 * m + c) v) n T := by
  refine ⟨fun q hq o' ho => ?_, h.2.1, h.2.2.1, ⟨fun m' c' h1 h2 => ?_, fun k hk => ?_⟩, fun o' ho => ?_⟩
  · exact (h.1 q hq o' ho).trans (if_neg (fun z => (by decide : ∀ r ∈ sPI, ¬ r.2 = 6) q hq z.1)).symm
  · show (if 20 = 20 ∧ m' + 1 = m + 1 ∧ c' = c then v else sA t 20 (m' + 1) c') = if 6 = 6 ∧ 3 * m' + c' = 3 * m + c then v else mA M 6 (3 * m' + c')
    by_cases e : m' = m ∧ c' = c
    · rw [if_pos ⟨rfl, by omega, e.2⟩, if_pos ⟨rfl, by omega⟩]
    · rw [if_neg (fun z => e ⟨by omega, z.2.2⟩), if_neg (fun z => e (by omega))]
      exact h.2.2.2.1.1 m' c' h1 h2
  · show (if 20 = 20 ∧ 0 = m + 1 ∧ k = c then v else sA t 20 0 k) = if 11 = 6 ∧ k = 3 * m + c then v else mA M 11 k
    rw [if_neg (fun z => by omega), if_neg (fun z => by cases z.1)]
    exact h.2.2.2.1.2 k hk
  · exact h.2.2.2.2 o' ho
theorem Rl_V {v : Int32} (h : Rl t M n T) : Rl (sAw t 20 0 p v) (mAw M 11 p v) n T := by
  refine ⟨fun q hq o' ho => ?_, h.2.1, h.2.2.1, ⟨fun m' c' h1 h2 => ?_, fun k hk => ?_⟩, fun o' ho => ?_⟩
  · exact (h.1 q hq o' ho).trans (if_neg (fun z => (by decide : ∀ r ∈ sPI, ¬ r.2 = 11) q hq z.1)).symm
  · show (if 20 = 20 ∧ m' + 1 = 0 ∧ c' = p then v else sA t 20 (m' + 1) c') = if 6 = 11 ∧ 3 * m' + c' = p then v else mA M 6 (3 * m' + c')
    rw [if_neg (fun z => by omega), if_neg (fun z => by cases z.1)]
    exact h.2.2.2.1.1 m' c' h1 h2
  · show (if 20 = 20 ∧ 0 = 0 ∧ k = p then v else sA t 20 0 k) = if 11 = 11 ∧ k = p then v else mA M 11 k
    by_cases e : k = p
    · rw [if_pos ⟨rfl, rfl, e⟩, if_pos ⟨rfl, e⟩]
    · rw [if_neg (fun z => e z.2.2), if_neg (fun z => e z.2)]
      exact h.2.2.2.1.2 k hk
  · exact h.2.2.2.2 o' ho
theorem Rl_R {v : Option Nat} (h : Rl t M n T) : Rl (sRw t F o v) M n T := h
/-- what a step plans: portion, price, given -/
theorem Rl_t {v : Int32} (hf : (Nat.beq F 526 || Nat.beq F 528 || Nat.beq F 455) = true) (h : Rl t M n T) : Rl (sIw t F o v) M n T := by
  have h3 : F = 526 ∨ F = 528 ∨ F = 455 := by
    simp only [Bool.or_eq_true] at hf
    rcases hf with (hf | hf) | hf
    · exact Or.inl (Nat.eq_of_beq_eq_true hf)
    · exact Or.inr (Or.inl (Nat.eq_of_beq_eq_true hf))
    · exact Or.inr (Or.inr (Nat.eq_of_beq_eq_true hf))
  refine ⟨fun q hq o' ho => ?_, h.2.1, fun q hq => ?_, ⟨fun m c h1 h2 => h.2.2.2.1.1 m c h1 h2, fun k hk => h.2.2.2.1.2 k hk⟩, fun o' ho => ?_⟩
  · have c2 := (by decide : ∀ r ∈ sPI, ¬ r.1 = 526 ∧ ¬ r.1 = 528 ∧ ¬ r.1 = 455) q hq
    refine (if_neg (fun z => ?_)).trans (h.1 q hq o' ho)
    rcases h3 with e | e | e <;> rw [e] at z <;> first | exact c2.1 z.1 | exact c2.2.1 z.1 | exact c2.2.2 z.1
  · have c2 := (by decide : ∀ r ∈ sPS, ¬ r.1 = 526 ∧ ¬ r.1 = 528 ∧ ¬ r.1 = 455) q hq
    refine (if_neg (fun z => ?_)).trans (h.2.2.1 q hq)
    rcases h3 with e | e | e <;> rw [e] at z <;> first | exact c2.1 z.1 | exact c2.2.1 z.1 | exact c2.2.2 z.1
  · show mA M 17 o' = if mA M 19 o' = 1 then (if 524 = F ∧ o' = o then v else sI t 524 o') else 0
    rw [if_neg (c := 524 = F ∧ o' = o) (fun z => by rcases h3 with e | e | e <;> rw [e] at z <;> cases z.1)]
    exact h.2.2.2.2 o' ho
theorem np_Iq {v : Int32} {C : Nat} (h : (kw F && (!(Nat.beq F 525) || Nat.blt o (sC t 8))) = true) : np (sIw t F o v) = np t := by
  refine Prod.ext (funext fun F' => funext fun o' => ?_) rfl
  show (bif kw F' && (!(Nat.beq F' 525) || Nat.blt o' (sC t 8)) then 0 else (if F' = F ∧ o' = o then v else sI t F' o')) = bif kw F' && (!(Nat.beq F' 525) || Nat.blt o' (sC t 8)) then 0 else sI t F' o'
  by_cases h2 : F' = F ∧ o' = o
  · rw [h2.1, h2.2, h]; rfl
  · rw [if_neg h2]
theorem np_I {v : Int32} (h : (kw F && !(Nat.beq F 525)) = true) : np (sIw t F o v) = np t := by
  refine np_Iq (C := 0) ?_
  rw [Bool.and_eq_true] at h
  rw [h.1, h.2]; rfl
theorem np_I5 {v : Int32} (h : o < sC t 8) : np (sIw t 525 o v) = np t := np_Iq (C := 0) (by
  rw [show Nat.blt o (sC t 8) = true from Nat.ble_eq_true_of_le h]; rfl)
theorem np_Zq {v : Bool} {C : Nat} (h : (kz F && (!(Nat.beq F 521) || Nat.blt o (sC t 8))) = true) : np (sZw t F o v) = np t := by
  refine Prod.ext rfl (Prod.ext (funext fun F' => funext fun o' => ?_) rfl)
  show (bif kz F' && (!(Nat.beq F' 521) || Nat.blt o' (sC t 8)) then false else (if F' = F ∧ o' = o then v else sZ t F' o')) = bif kz F' && (!(Nat.beq F' 521) || Nat.blt o' (sC t 8)) then false else sZ t F' o'
  by_cases h2 : F' = F ∧ o' = o
  · rw [h2.1, h2.2, h]; rfl
  · rw [if_neg h2]
theorem np_Z {v : Bool} (h : (kz F && !(Nat.beq F 521)) = true) : np (sZw t F o v) = np t := by
  refine np_Zq (C := 0) ?_
  rw [Bool.and_eq_true] at h
  rw [h.1, h.2]; rfl
theorem np_Z1 {v : Bool} (h : o < sC t 8) : np (sZw t 521 o v) = np t := np_Zq (C := 0) (by
  rw [show Nat.blt o (sC t 8) = true from Nat.ble_eq_true_of_le h]; rfl)
theorem np_A {v : Int32} : np (sAw t 20 o p v) = np t := by
  refine Prod.ext rfl (Prod.ext rfl (Prod.ext rfl (Prod.ext (funext fun k' => funext fun o' => funext fun p' => ?_) rfl)))
  show (bif Nat.beq k' 20 then 0 else (if k' = 20 ∧ o' = o ∧ p' = p then v else sA t k' o' p')) = bif Nat.beq k' 20 then 0 else sA t k' o' p'
  by_cases h2 : k' = 20
  · subst h2; rfl
  · rw [if_neg (fun z => h2 z.1)]
theorem np_Rw {v : Option Nat} (h : kc F = true) : np (sRw t F o v) = np t := by
  refine Prod.ext rfl (Prod.ext rfl (Prod.ext (funext fun F' => funext fun o' => ?_) rfl))
  show (bif kc F' then none else (if F' = F ∧ o' = o then v else sR t F' o')) = bif kc F' then none else sR t F' o'
  by_cases h2 : F' = F
  · subst h2; rw [h]; rfl
  · rw [if_neg (fun z => h2 z.1)]
theorem eC_np (h : np t' = np t) : sC t' = sC t := by
  have h1 := congrArg (fun z : sNp => z.2.2.2.2.2.2.2.2.1) h
  exact h1
theorem eI_npq (h : np t' = np t) (hF : (kw F && (!(Nat.beq F 525) || Nat.blt o (sC t 8))) = false) : sI t' F o = sI t F o := by
  have h1 : (bif kw F && (!(Nat.beq F 525) || Nat.blt o (sC t' 8)) then 0 else sI t' F o) = (bif kw F && (!(Nat.beq F 525) || Nat.blt o (sC t 8)) then 0 else sI t F o) := congrFun (congrFun (congrArg (fun z : sNp => z.1) h) F) o
  rw [eC_np h, hF] at h1; exact h1
theorem eI_np (h : np t' = np t) (hF : kw F = false) : sI t' F o = sI t F o := eI_npq h (by rw [hF]; rfl)
theorem eI5_np (h : np t' = np t) (ho : sC t 8 ≤ o) : sI t' 525 o = sI t 525 o := eI_npq h (by
  rw [show Nat.blt o (sC t 8) = false from by cases hb : Nat.blt o (sC t 8) with
    | false => rfl
    | true => exact absurd (Nat.le_of_ble_eq_true hb) (by omega)]; rfl)
theorem eZ_npq (h : np t' = np t) (hF : (kz F && (!(Nat.beq F 521) || Nat.blt o (sC t 8))) = false) : sZ t' F o = sZ t F o := by
  have h1 : (bif kz F && (!(Nat.beq F 521) || Nat.blt o (sC t' 8)) then false else sZ t' F o) = (bif kz F && (!(Nat.beq F 521) || Nat.blt o (sC t 8)) then false else sZ t F o) := congrFun (congrFun (congrArg (fun z : sNp => z.2.1) h) F) o
  rw [eC_np h, hF] at h1; exact h1
theorem eZ_np (h : np t' = np t) (hF : kz F = false) : sZ t' F o = sZ t F o := eZ_npq h (by rw [hF]; rfl)
theorem eZ1_np (h : np t' = np t) (ho : sC t 8 ≤ o) : sZ t' 521 o = sZ t 521 o := eZ_npq h (by
  rw [show Nat.blt o (sC t 8) = false from by cases hb : Nat.blt o (sC t 8) with
    | false => rfl
    | true => exact absurd (Nat.le_of_ble_eq_true hb) (by omega)]; rfl)
theorem eR_np (h : np t' = np t) (hF : kc F = false) : sR t' F o = sR t F o := by
  have h1 : (bif kc F then none else sR t' F o) = (bif kc F then none else sR t F o) := congrFun (congrFun (congrArg (fun z : sNp => z.2.2.1) h) F) o
  rw [hF] at h1; exact h1
theorem eA_np (h : np t' = np t) (hk : Nat.beq k 20 = false) : sA t' k o p = sA t k o p := by
  have h1 : (bif Nat.beq k 20 then 0 else sA t' k o p) = (bif Nat.beq k 20 then 0 else sA t k o p) := congrFun (congrFun (congrFun (congrArg (fun z : sNp => z.2.2.2.1) h) k) o) p
  rw [hk] at h1; exact h1
theorem eE_np (h : np t' = np t) : sE t' = sE t := by
  have h1 := congrArg (fun z : sNp => z.2.2.2.2.2.1) h
  exact h1
theorem eN_np (h : np t' = np t) : sN t' = sN t := by
  have h1 := congrArg (fun z : sNp => z.2.2.2.2.2.2.2.1) h
  exact h1
theorem rp_np (h : np t' = np t) : rp t' = rp t := by
  have hB : sB t' 22 = sB t 22 := by
    have h1 := congrArg (fun z : sNp => z.2.2.2.2.1 22) h
    exact h1
  refine Prod.ext (funext fun a => funext fun p => ?_) (Prod.ext hB (funext fun F => ?_))
  · show (bif sSc a then 0 else sA t' 21 a p) = bif sSc a then 0 else sA t 21 a p
    rw [eA_np h rfl]
  · show (bif sMq F then sI t' F 0 else 0) = bif sMq F then sI t F 0 else 0
    cases hF : sMq F with
    | false => rfl
    | true =>
      show sI t' F 0 = sI t F 0
      refine eI_np h ?_
      have h1 : 768 ≤ F := by
        unfold sMq sMr at hF
        simp only [Bool.and_eq_true] at hF
        exact Nat.le_of_ble_eq_true hF.1.1
      cases hz : kw F with
      | false => rfl
      | true =>
        have := (by decide : ∀ x ∈ kwL, x < 768) _ (kw_mem hz)
        omega
theorem Cn_np (h : np t' = np t) (hc : Cn t) : Cn t' := by
  refine ⟨fun q hq => ?_, fun q hq => ?_, fun q hq => ?_, fun q hq => ?_, fun q hq => ?_, fun p => ?_⟩
  · rw [eR_np h ((by decide : ∀ q ∈ sKR, kc q.1 = false) q hq)]; exact hc.1 q hq
  · rw [eN_np h]; exact hc.2.1 q hq
  · rw [eI_np h ((by decide : ∀ q ∈ sKI, kw q.1 = false) q hq)]; exact hc.2.2.1 q hq
  · rw [eE_np h]; exact hc.2.2.2.1 q hq
  · rw [eC_np h]; exact hc.2.2.2.2.1 q hq
  · rw [eA_np h rfl, eA_np h rfl]; exact hc.2.2.2.2.2 p
/-- the structure: n orders, T trades, their references as M has them, the lists -/
def Ls1 (t : sT) (l k n : Nat) : Prop := ∃ d w, Ls t l k (fun i => i) n d w ∧ w ≤ 2 * n + 10
def So (t : sT) (n : Nat) (om ob : Nat → Nat) : Prop := ∀ k, k < n → sI t 512 k = io k ∧ sR t 513 k = some (om k) ∧ sR t 514 k = some (ob k)
def Tr (t : sT) (T : Nat) (tk tb ts : Nat → Nat) : Prop := ∀ k, k < T → sR t 576 k = some (tk k) ∧ sR t 577 k = some (tb k) ∧ sR t 578 k = some (ts k)
def Ti (M : sM) (T : Nat) : Prop := mI M 801 = io T ∧ T < 4096 ∧ ∀ k, k < T → (mA M 21 k = io (tK M k) ∧ tK M k < 3) ∧ (mA M 22 k = io (tB M k) ∧ tB M k < 6) ∧ mA M 23 k = io (tS M k) ∧ tS M k < 6
def Sf (t : sT) (M : sM) (n T : Nat) : Prop := Cn t ∧ So t n (oM M) (oB M) ∧ Tr t T (tK M) (tB M) (tS M) ∧ Ls1 t 0 9 T ∧ Ls1 t 1 8 n ∧ Ti M T ∧ sC t 8 = n ∧ sC t 9 = T
theorem Ls1_np {l : Nat} (h : np t' = np t) (hl : Ls1 t l k n) : Ls1 t' l k n := by
  obtain ⟨d, w, ⟨h1, h2, h3, h4, h5, h6, h7⟩, h8⟩ := hl
  refine ⟨d, w, ⟨(eR_np h rfl).trans h1, (eI_np h rfl).trans h2, ?_, h4, ?_, h6, fun i hi => ?_⟩, h8⟩
  · rw [eN_np h]; exact h3
  · rw [eC_np h]; exact h5
  · rw [eE_np h]; exact h7 i hi
end S44
def Fc (M M0 : sM) : Prop := mA M 12 = mA M0 12 ∧ mA M 13 = mA M0 13 ∧ mI M 786 = mI M0 786 ∧ mA M 14 = mA M0 14 ∧ mB M 3 = mB M0 3 ∧ mA M 21 = mA M0 21 ∧ mA M 22 = mA M0 22 ∧ mA M 23 = mA M0 23 ∧ mI M 801 = mI M0 801
section S44b
variable {t t' : sT} {M M0 : sM} {a p F o k n T : Nat}
theorem Fc.refl (M : sM) : Fc M M := ⟨rfl, rfl, rfl, rfl, rfl, rfl, rfl, rfl, rfl⟩
theorem Fc.fr (h : Fc M M0) : Fr M M0 := ⟨h.1, h.2.1, h.2.2.1, h.2.2.2.1, h.2.2.2.2.1⟩
theorem Fc.ri (h : Fc M M0) (hR : Ri M0 n) : Ri M n := h.fr.ri hR
theorem Fc.f14 (h : Fc M M0) : mA M 14 = mA M0 14 := h.2.2.2.1
theorem Fc.f3 (h : Fc M M0) : mB M 3 = mB M0 3 := h.2.2.2.2.1
theorem Fc_A {v : Int32} (h : (Nat.beq a 12 || Nat.beq a 13 || Nat.beq a 14 || Nat.beq a 21 || Nat.beq a 22 || Nat.beq a 23) = false) (fr : Fc M M0) : Fc (mAw M a p v) M0 := by
  simp only [Bool.or_eq_false_iff] at h
  have g : ∀ c, Nat.beq a c = false → mA (mAw M a p v) c = mA M c := fun c hc => funext fun q => if_neg (fun z => Nat.ne_of_beq_eq_false hc z.1.symm)
  obtain ⟨⟨⟨⟨⟨h1, h2⟩, h3⟩, h4⟩, h5⟩, h6⟩ := h
  exact ⟨(g 12 h1).trans fr.1, (g 13 h2).trans fr.2.1, fr.2.2.1, (g 14 h3).trans fr.2.2.2.1, fr.2.2.2.2.1, (g 21 h4).trans fr.2.2.2.2.2.1, (g 22 h5).trans fr.2.2.2.2.2.2.1, (g 23 h6).trans fr.2.2.2.2.2.2.2.1, fr.2.2.2.2.2.2.2.2⟩
theorem Fc_B {v : Bool} (h : Nat.beq a 3 = false) (fr : Fc M M0) : Fc (mBw M a p v) M0 :=
  ⟨fr.1, fr.2.1, fr.2.2.1, fr.2.2.2.1, (funext fun q => if_neg (fun z => Nat.ne_of_beq_eq_false h z.1.symm)).trans fr.2.2.2.2.1, fr.2.2.2.2.2⟩
theorem Fc_I {v : Int32} (h : (Nat.beq F 786 || Nat.beq F 801) = false) (fr : Fc M M0) : Fc (mIw M F v) M0 := by
  simp only [Bool.or_eq_false_iff] at h
  exact ⟨fr.1, fr.2.1, (if_neg (fun z => Nat.ne_of_beq_eq_false h.1 z.symm)).trans fr.2.2.1, fr.2.2.2.1, fr.2.2.2.2.1, fr.2.2.2.2.2.1, fr.2.2.2.2.2.2.1, fr.2.2.2.2.2.2.2.1, (if_neg (fun z => Nat.ne_of_beq_eq_false h.2 z.symm)).trans fr.2.2.2.2.2.2.2.2⟩
theorem Fc_cond {z : Bool} {A B : sM} (h1 : Fc A M0) (h2 : Fc B M0) : Fc (bif z then A else B) M0 := by cases z; exact h2; exact h1
theorem oM_fc (h : Fc M M0) : oM M = oM M0 := funext fun k => congrArg Int32.toNatClampNeg (congrFun h.1 k)
theorem oB_fc (h : Fc M M0) : oB M = oB M0 := funext fun k => congrArg Int32.toNatClampNeg (congrFun h.2.1 k)
theorem tK_fc (h : Fc M M0) : tK M = tK M0 := funext fun k => congrArg Int32.toNatClampNeg (congrFun h.2.2.2.2.2.1 k)
theorem tB_fc (h : Fc M M0) : tB M = tB M0 := funext fun k => congrArg Int32.toNatClampNeg (congrFun h.2.2.2.2.2.2.1 k)
theorem tS_fc (h : Fc M M0) : tS M = tS M0 := funext fun k => congrArg Int32.toNatClampNeg (congrFun h.2.2.2.2.2.2.2.1 k)
theorem Sf_np (h : np t' = np t) (hS : Sf t M n T) : Sf t' M n T := by
  obtain ⟨h1, h2, h3, h4, h5, h6, h7, h8⟩ := hS
  refine ⟨Cn_np h h1, fun k hk => ?_, fun k hk => ?_, Ls1_np h h4, Ls1_np h h5, h6, (congrFun (eC_np h) 8).trans h7, (congrFun (eC_np h) 9).trans h8⟩
  · rw [eI_np h rfl, eR_np h rfl, eR_np h rfl]; exact h2 k hk
  · rw [eR_np h rfl, eR_np h rfl, eR_np h rfl]; exact h3 k hk
theorem Sf_fc (h : Fc M M0) (hS : Sf t M0 n T) : Sf t M n T := by
  obtain ⟨h1, h2, h3, h4, h5, ⟨h6, h7, h8⟩, h9⟩ := hS
  refine ⟨h1, ?_, ?_, h4, h5, ⟨h.2.2.2.2.2.2.2.2.trans h6, h7, ?_⟩, h9⟩
  · rw [oM_fc h, oB_fc h]; exact h2
  · rw [tK_fc h, tB_fc h, tS_fc h]; exact h3
  · rw [tK_fc h, tB_fc h, tS_fc h, h.2.2.2.2.2.1, h.2.2.2.2.2.2.1, h.2.2.2.2.2.2.2.1]; exact h8
theorem Sf_512 (hS : Sf t M n T) (hk : k < n) : sI t 512 k = io k := (hS.2.1 k hk).1
theorem Sf_513 (hS : Sf t M n T) (hk : k < n) : sR t 513 k = some (oM M k) := (hS.2.1 k hk).2.1
theorem Sf_514 (hS : Sf t M n T) (hk : k < n) : sR t 514 k = some (oB M k) := (hS.2.1 k hk).2.2
theorem Sf_576 (hS : Sf t M n T) (hk : k < T) : sR t 576 k = some (tK M k) := (hS.2.2.1 k hk).1
theorem Sf_577 (hS : Sf t M n T) (hk : k < T) : sR t 577 k = some (tB M k) := (hS.2.2.1 k hk).2.1
theorem Sf_578 (hS : Sf t M n T) (hk : k < T) : sR t 578 k = some (tS M k) := (hS.2.2.1 k hk).2.2
theorem tKl (hS : Sf t M n T) (hk : k < T) : tK M k < 3 := (hS.2.2.2.2.2.1.2.2 k hk).1.2
theorem tBl (hS : Sf t M n T) (hk : k < T) : tB M k < 6 := (hS.2.2.2.2.2.1.2.2 k hk).2.1.2
theorem tSl (hS : Sf t M n T) (hk : k < T) : tS M k < 6 := (hS.2.2.2.2.2.1.2.2 k hk).2.2.2
theorem Sf_T4 (hS : Sf t M n T) : T < 4096 := hS.2.2.2.2.2.1.2.1
theorem gT31 (hS : Sf t M n T) : T < 2 ^ 31 := Nat.lt_trans (Sf_T4 hS) (by decide)
theorem Sf_n (hS : Sf t M n T) : sI t 834 1 = io n := by obtain ⟨d, w, ⟨-, h2, -⟩, -⟩ := hS.2.2.2.2.1; exact h2
theorem Sf_T (hS : Sf t M n T) : sI t 834 0 = io T := by obtain ⟨d, w, ⟨-, h2, -⟩, -⟩ := hS.2.2.2.1; exact h2
theorem y_g8 {Q : sRs → sT → Prop} {l : Nat} (hl : Ls1 t l 8 n) (hk : k < n) (hn : n < 20000) (q : Q (.inl (some (.inr (.inr (8, some k))))) t) : X 252 0 [.inr (.inr (13, some l)), .inl (io k)] [] t Q := by
  obtain ⟨d, w, ⟨h1, h2, h3, h4, h5, h6, h7⟩, h8⟩ := hl
  exact y_get8 (by omega) hk h2 h1 h3 (by omega) (by omega) (h7 k hk) q
theorem y_g9 {Q : sRs → sT → Prop} {l : Nat} (hl : Ls1 t l 9 n) (hk : k < n) (hn : n < 20000) (q : Q (.inl (some (.inr (.inr (9, some k))))) t) : X 252 0 [.inr (.inr (13, some l)), .inl (io k)] [] t Q := by
  obtain ⟨d, w, ⟨h1, h2, h3, h4, h5, h6, h7⟩, h8⟩ := hl
  exact y_get9 (by omega) hk h2 h1 h3 (by omega) (by omega) (h7 k hk) q
theorem Sf_gO {Q : sRs → sT → Prop} (hS : Sf t M n T) (hR : Ri M n) (hk : k < n) (q : Q (.inl (some (.inr (.inr (8, some k))))) t) : X 252 0 [.inr (.inr (13, some 1)), .inl (io k)] [] t Q := y_g8 hS.2.2.2.2.1 hk (Nat.lt_of_le_of_lt hR.2.1 (by decide)) q
theorem Sf_gT {Q : sRs → sT → Prop} (hS : Sf t M n T) (hk : k < T) (q : Q (.inl (some (.inr (.inr (9, some k))))) t) : X 252 0 [.inr (.inr (13, some 0)), .inl (io k)] [] t Q := y_g9 hS.2.2.2.1 hk (Nat.lt_trans (Sf_T4 hS) (by decide)) q
theorem Sf_C8 (hS : Sf t M n T) : sC t 8 = n := hS.2.2.2.2.2.2.1
theorem Sf_C9 (hS : Sf t M n T) : sC t 9 = T := hS.2.2.2.2.2.2.2
theorem Sf_lt (hS : Sf t M n T) (hk : k < n) : k < sC t 8 := by rw [Sf_C8 hS]; exact hk
theorem fst3 {b : Nat} (h : b < 5) : fst b < 3 := by unfold fst; split <;> omega
end S44b
