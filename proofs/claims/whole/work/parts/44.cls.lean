/-! the class's part of a store, told by a state M in the reference's words -/
def sKL : List (Nat × Nat) := [(14, 516), (15, 523), (16, 517), (17, 524), (18, 525), (19, 522), (20, 518), (4, 450), (5, 451), (7, 452), (8, 453), (26, 454), (9, 456), (1, 129), (2, 130), (3, 131), (0, 67), (24, 579), (25, 580), (40, 526), (41, 528), (42, 455)]
def sKZ : List (Nat × Nat) := [(3, 515), (4, 520), (5, 519), (6, 521), (1, 457), (2, 458), (0, 68), (7, 581)]
def sKQ : List (Nat × Nat) := [(12, 513), (13, 514), (21, 576), (22, 577), (23, 578)]
def sKS : List (Nat × Nat × Nat) := [(784, 324, 0), (785, 325, 0), (800, 258, 0), (786, 834, 1), (801, 834, 0)]
def kf (l : List (Nat × Nat)) (a : Nat) : Option Nat := (l.find? (fun q => Nat.beq q.1 a)).map (·.2)
def kg (l : List (Nat × Nat)) (F : Nat) : Option Nat := (l.find? (fun q => Nat.beq q.2 F)).map (·.1)
def ks (F : Nat) : Option (Nat × Nat) := (sKS.find? (fun q => Nat.beq q.1 F)).map (·.2)
theorem kf_mem {l : List (Nat × Nat)} {a F : Nat} (h : kf l a = some F) : (a, F) ∈ l := by
  unfold kf at h
  cases hq : l.find? (fun q => Nat.beq q.1 a) with
  | none => rw [hq] at h; cases h
  | some q =>
    rw [hq] at h
    have h1 : q.2 = F := Option.some.inj h
    have h2 : q.1 = a := Nat.eq_of_beq_eq_true (List.find?_some hq)
    have h3 := List.mem_of_find?_eq_some hq
    rw [← h1, ← h2]; exact h3
theorem kf_L {a F : Nat} (h : kf sKL a = some F) : kg sKL F = some a := (by decide : ∀ q ∈ sKL, kg sKL q.2 = some q.1) _ (kf_mem h)
theorem kf_Z {a F : Nat} (h : kf sKZ a = some F) : kg sKZ F = some a := (by decide : ∀ q ∈ sKZ, kg sKZ q.2 = some q.1) _ (kf_mem h)
def ppos (t : sT) (a p : Nat) : Int32 := bif Nat.beq a 6 then (bif Nat.blt p 18 then sA t 20 (p / 3 + 1) (p % 3) else 0) else bif Nat.beq a 11 then sA t 20 0 p else 0
def kp (t : sT) : sM := (fun a p => match kf sKL a with
    | some F => sI t F p
    | none => match kf sKQ a with
      | some F => ov (sR t F p)
      | none => ppos t a p,
  fun a p => match kf sKZ a with
    | some F => sZ t F p
    | none => false,
  fun F => match ks F with
    | some q => sI t q.1 q.2
    | none => 0)
/-- the chains and what a step plans -/
def qp (t : sT) : Nat → Nat → Option Nat := fun F o => bif (Nat.beq F 69 || Nat.beq F 70 || Nat.beq F 529 || Nat.beq F 527) then sR t F o else none
def kw (F : Nat) : Bool := (kg sKL F).isSome || Nat.beq F 324 || Nat.beq F 325 || Nat.beq F 258
abbrev sNp : Type := (Nat → Nat → Int32) × (Nat → Nat → Bool) × (Nat → Nat → Option Nat) × (Nat → Nat → Nat → Int32) × (Nat → Nat → Nat → Bool) × (Nat → Nat → Nat → Nat × Option Nat) × (Nat → Nat → Nat → Int64) × (Nat → Nat → Nat) × (Nat → Nat) × (Nat → Nat → Nat) × Nat × Nat
def np (t : sT) : sNp := (fun F o => bif kw F then 0 else sI t F o, fun F o => bif (kg sKZ F).isSome then false else sZ t F o, fun F o => bif (Nat.beq F 69 || Nat.beq F 70 || Nat.beq F 529 || Nat.beq F 527) then none else sR t F o, fun k o p => bif Nat.beq k 20 then 0 else sA t k o p, sB t, sE t, sL t, sN t, sC t, sG t, sn t, sw t)
section S44
variable {t t' : sT} {M : sM} {a p F o k n T : Nat}
theorem kA (h : kp t = M) (hf : kf sKL a = some F) : sI t F p = mA M a p := by
  subst h
  show _ = match kf sKL a with
    | some F => sI t F p
    | none => _
  rw [hf]
theorem kB' (h : kp t = M) (hf : kf sKZ a = some F) : sZ t F p = mB M a p := by
  subst h
  show _ = match kf sKZ a with
    | some F => sZ t F p
    | none => _
  rw [hf]
theorem kS (h : kp t = M) {q : Nat × Nat} (hf : ks F = some q) : sI t q.1 q.2 = mI M F := by
  subst h
  show _ = match ks F with
    | some q => sI t q.1 q.2
    | none => _
  rw [hf]
theorem kP (h : kp t = M) {m c : Nat} (hm : m < 6) (hc : c < 3) : sA t 20 (m + 1) c = mA M 6 (3 * m + c) := by
  subst h
  show _ = bif Nat.blt (3 * m + c) 18 then sA t 20 ((3 * m + c) / 3 + 1) ((3 * m + c) % 3) else 0
  have h1 : Nat.blt (3 * m + c) 18 = true := Nat.le_of_lt_succ (by omega) |> fun z => Nat.ble_eq.mpr (by omega)
  have h2 : (3 * m + c) / 3 = m := by omega
  have h3 : (3 * m + c) % 3 = c := by omega
  rw [h1, h2, h3]; rfl
theorem kV (h : kp t = M) : sA t 20 0 p = mA M 11 p := by subst h; rfl
theorem kp_I {v : Int32} (h : kf sKL a = some F) : kp (sIw t F o v) = mAw (kp t) a o v := by
  refine Prod.ext (funext fun a' => funext fun p' => ?_) (Prod.ext rfl (funext fun F' => ?_))
  · show (match kf sKL a' with
      | some F' => (if F' = F ∧ p' = o then v else sI t F' p')
      | none => _) = if a' = a ∧ p' = o then v else (match kf sKL a' with
      | some F' => sI t F' p'
      | none => _)
    cases h1 : kf sKL a' with
    | none =>
      rw [if_neg (fun z => by rw [z.1, h] at h1; cases h1)]
    | some F' =>
      by_cases h2 : a' = a ∧ p' = o
      · rw [h2.1, h] at h1; cases h1
        rw [if_pos h2, if_pos ⟨rfl, h2.2⟩]
      · rw [if_neg h2]
        refine if_neg (fun z => h2 ⟨?_, z.2⟩)
        have e1 := kf_L h1
        rw [z.1, kf_L h] at e1
        exact (Option.some.inj e1).symm
  · show (match ks F' with
      | some q => (if q.1 = F ∧ q.2 = o then v else sI t q.1 q.2)
      | none => 0) = (match ks F' with
      | some q => sI t q.1 q.2
      | none => 0)
    cases h1 : ks F' with
    | none => rfl
    | some q =>
      refine if_neg (fun z => ?_)
      have h2 : (F', q) ∈ sKS := by
        unfold ks at h1
        cases hq : sKS.find? (fun q => Nat.beq q.1 F') with
        | none => rw [hq] at h1; cases h1
        | some r =>
          rw [hq] at h1
          have e1 : r.2 = q := Option.some.inj h1
          have e2 : r.1 = F' := Nat.eq_of_beq_eq_true (List.find?_some hq)
          have e3 := List.mem_of_find?_eq_some hq
          rw [← e1, ← e2]; exact e3
      have h3 := (by decide : ∀ q ∈ sKS, kg sKL q.2.1 = none) _ h2
      rw [z.1, kf_L h] at h3; cases h3
theorem kp_Z {v : Bool} (h : kf sKZ a = some F) : kp (sZw t F o v) = mBw (kp t) a o v := by
  refine Prod.ext rfl (Prod.ext (funext fun a' => funext fun p' => ?_) rfl)
  show (match kf sKZ a' with
    | some F' => (if F' = F ∧ p' = o then v else sZ t F' p')
    | none => false) = if a' = a ∧ p' = o then v else (match kf sKZ a' with
    | some F' => sZ t F' p'
    | none => false)
  cases h1 : kf sKZ a' with
  | none => rw [if_neg (fun z => by rw [z.1, h] at h1; cases h1)]
  | some F' =>
    by_cases h2 : a' = a ∧ p' = o
    · rw [h2.1, h] at h1; cases h1
      rw [if_pos h2, if_pos ⟨rfl, h2.2⟩]
    · rw [if_neg h2]
      refine if_neg (fun z => h2 ⟨?_, z.2⟩)
      have e1 := kf_Z h1
      rw [z.1, kf_Z h] at e1
      exact (Option.some.inj e1).symm
theorem kp_P {m c : Nat} {v : Int32} (hm : m < 6) (hc : c < 3) : kp (sAw t 20 (m + 1) c v) = mAw (kp t) 6 (3 * m + c) v := by
  refine Prod.ext (funext fun a' => funext fun p' => ?_) rfl
  show (match kf sKL a' with
    | some F' => sI t F' p'
    | none => match kf sKQ a' with
      | some F' => ov (sR t F' p')
      | none => bif Nat.beq a' 6 then (bif Nat.blt p' 18 then (if 20 = 20 ∧ p' / 3 + 1 = m + 1 ∧ p' % 3 = c then v else sA t 20 (p' / 3 + 1) (p' % 3)) else 0) else bif Nat.beq a' 11 then (if 20 = 20 ∧ 0 = m + 1 ∧ p' = c then v else sA t 20 0 p') else 0) = if a' = 6 ∧ p' = 3 * m + c then v else (match kf sKL a' with
    | some F' => sI t F' p'
    | none => match kf sKQ a' with
      | some F' => ov (sR t F' p')
      | none => bif Nat.beq a' 6 then (bif Nat.blt p' 18 then sA t 20 (p' / 3 + 1) (p' % 3) else 0) else bif Nat.beq a' 11 then sA t 20 0 p' else 0)
  by_cases h6 : a' = 6
  · subst h6
    show (bif Nat.blt p' 18 then (if 20 = 20 ∧ p' / 3 + 1 = m + 1 ∧ p' % 3 = c then v else sA t 20 (p' / 3 + 1) (p' % 3)) else 0) = if 6 = 6 ∧ p' = 3 * m + c then v else (bif Nat.blt p' 18 then sA t 20 (p' / 3 + 1) (p' % 3) else 0)
    by_cases hp : p' = 3 * m + c
    · have h1 : Nat.blt p' 18 = true := Nat.ble_eq.mpr (by omega)
      rw [h1, if_pos ⟨rfl, hp⟩]
      exact if_pos ⟨rfl, by omega, by omega⟩
    · rw [if_neg (fun z => hp z.2), if_neg (fun z => hp (by omega))]
  · rw [if_neg (fun z => h6 z.1), if_neg (c := 20 = 20 ∧ 0 = m + 1 ∧ p' = c) (fun z => by omega)]
    have h7 : Nat.beq a' 6 = false := Nat.beq_eq_false_iff_ne.mpr h6
    rw [h7]; rfl
theorem kp_V {v : Int32} : kp (sAw t 20 0 p v) = mAw (kp t) 11 p v := by
  refine Prod.ext (funext fun a' => funext fun p' => ?_) rfl
  show (match kf sKL a' with
    | some F' => sI t F' p'
    | none => match kf sKQ a' with
      | some F' => ov (sR t F' p')
      | none => bif Nat.beq a' 6 then (bif Nat.blt p' 18 then (if 20 = 20 ∧ p' / 3 + 1 = 0 ∧ p' % 3 = p then v else sA t 20 (p' / 3 + 1) (p' % 3)) else 0) else bif Nat.beq a' 11 then (if 20 = 20 ∧ 0 = 0 ∧ p' = p then v else sA t 20 0 p') else 0) = if a' = 11 ∧ p' = p then v else (match kf sKL a' with
    | some F' => sI t F' p'
    | none => match kf sKQ a' with
      | some F' => ov (sR t F' p')
      | none => bif Nat.beq a' 6 then (bif Nat.blt p' 18 then sA t 20 (p' / 3 + 1) (p' % 3) else 0) else bif Nat.beq a' 11 then sA t 20 0 p' else 0)
  by_cases h6 : a' = 11
  · subst h6
    show (if 20 = 20 ∧ 0 = 0 ∧ p' = p then v else sA t 20 0 p') = if 11 = 11 ∧ p' = p then v else sA t 20 0 p'
    by_cases hp : p' = p
    · rw [if_pos ⟨rfl, rfl, hp⟩, if_pos ⟨rfl, hp⟩]
    · rw [if_neg (fun z => hp z.2.2), if_neg (fun z => hp z.2)]
  · have h7 : Nat.beq a' 11 = false := Nat.beq_eq_false_iff_ne.mpr h6
    rw [if_neg (fun z => h6 z.1), h7]
    cases kf sKL a' with
    | some F' => rfl
    | none =>
      cases kf sKQ a' with
      | some F' => rfl
      | none =>
        cases Nat.beq a' 6 with
        | false => rfl
        | true =>
          show (bif Nat.blt p' 18 then (if 20 = 20 ∧ p' / 3 + 1 = 0 ∧ p' % 3 = p then v else sA t 20 (p' / 3 + 1) (p' % 3)) else 0) = (bif Nat.blt p' 18 then sA t 20 (p' / 3 + 1) (p' % 3) else 0)
          rw [if_neg (fun z => by omega)]
end S44
section S44b
variable {t t' : sT} {M M0 : sM} {a p F o k n T : Nat}
def kc (F : Nat) : Bool := (Nat.beq F 69 || Nat.beq F 70 || Nat.beq F 529 || Nat.beq F 527)
theorem np_I {v : Int32} (h : kw F = true) : np (sIw t F o v) = np t := by
  refine Prod.ext (funext fun F' => funext fun o' => ?_) rfl
  show (bif kw F' then 0 else (if F' = F ∧ o' = o then v else sI t F' o')) = bif kw F' then 0 else sI t F' o'
  by_cases h2 : F' = F
  · subst h2; rw [h]; rfl
  · rw [if_neg (fun z => h2 z.1)]
theorem np_Z {v : Bool} (h : (kg sKZ F).isSome = true) : np (sZw t F o v) = np t := by
  refine Prod.ext rfl (Prod.ext (funext fun F' => funext fun o' => ?_) rfl)
  show (bif (kg sKZ F').isSome then false else (if F' = F ∧ o' = o then v else sZ t F' o')) = bif (kg sKZ F').isSome then false else sZ t F' o'
  by_cases h2 : F' = F
  · subst h2; rw [h]; rfl
  · rw [if_neg (fun z => h2 z.1)]
theorem np_A {v : Int32} : np (sAw t 20 o p v) = np t := by
  refine Prod.ext rfl (Prod.ext rfl (Prod.ext rfl (Prod.ext (funext fun k' => funext fun o' => funext fun p' => ?_) rfl)))
  show (bif Nat.beq k' 20 then 0 else (if k' = 20 ∧ o' = o ∧ p' = p then v else sA t k' o' p')) = bif Nat.beq k' 20 then 0 else sA t k' o' p'
  by_cases h2 : k' = 20
  · subst h2; rfl
  · rw [if_neg (fun z => h2 z.1)]
theorem np_Rw {v : Option Nat} (h : kc F = true) : np (sRw t F o v) = np t := by
  refine Prod.ext rfl (Prod.ext rfl (Prod.ext (funext fun F' => funext fun o' => ?_) rfl))
  show (bif kc F' then none else (if F' = F ∧ o' = o then v else sR t F' o')) = bif kc F' then none else sR t F' o'
  by_cases h2 : F' = F
  · subst h2; rw [h]; rfl
  · rw [if_neg (fun z => h2 z.1)]
theorem kp_R {v : Option Nat} (h : kc F = true) : kp (sRw t F o v) = kp t := by
  refine Prod.ext (funext fun a' => funext fun p' => ?_) rfl
  show (match kf sKL a' with
    | some F' => sI t F' p'
    | none => match kf sKQ a' with
      | some F' => ov (if F' = F ∧ p' = o then v else sR t F' p')
      | none => ppos t a' p') = (match kf sKL a' with
    | some F' => sI t F' p'
    | none => match kf sKQ a' with
      | some F' => ov (sR t F' p')
      | none => ppos t a' p')
  cases kf sKL a' with
  | some F' => rfl
  | none =>
    cases h1 : kf sKQ a' with
    | none => rfl
    | some F' =>
      refine congrArg ov (if_neg (fun z => ?_))
      have h2 := (by decide : ∀ q ∈ sKQ, kc q.2 = false) _ (kf_mem h1)
      rw [z.1, h] at h2; cases h2
theorem eI_np (h : np t' = np t) (hF : kw F = false) : sI t' F o = sI t F o := by
  have h1 : (bif kw F then 0 else sI t' F o) = (bif kw F then 0 else sI t F o) := congrFun (congrFun (congrArg (fun z : sNp => z.1) h) F) o
  rw [hF] at h1; exact h1
theorem eR_np (h : np t' = np t) (hF : kc F = false) : sR t' F o = sR t F o := by
  have h1 : (bif kc F then none else sR t' F o) = (bif kc F then none else sR t F o) := congrFun (congrFun (congrArg (fun z : sNp => z.2.2.1) h) F) o
  rw [hF] at h1; exact h1
theorem eA_np (h : np t' = np t) (hk : Nat.beq k 20 = false) : sA t' k o p = sA t k o p := by
  have h1 : (bif Nat.beq k 20 then 0 else sA t' k o p) = (bif Nat.beq k 20 then 0 else sA t k o p) := congrFun (congrFun (congrFun (congrArg (fun z : sNp => z.2.2.2.1) h) k) o) p
  rw [hk] at h1; exact h1
theorem eE_np (h : np t' = np t) : sE t' = sE t := congrArg (fun z : sNp => z.2.2.2.2.2.1) h
theorem eN_np (h : np t' = np t) : sN t' = sN t := congrArg (fun z : sNp => z.2.2.2.2.2.2.2.1) h
theorem eC_np (h : np t' = np t) : sC t' = sC t := congrArg (fun z : sNp => z.2.2.2.2.2.2.2.2.1) h
theorem Cn_np (h : np t' = np t) (hc : Cn t) : Cn t' := by
  refine ⟨fun q hq => ?_, fun q hq => ?_, fun q hq => ?_, fun q hq => ?_, fun q hq => ?_, fun p => ?_⟩
  · rw [eR_np h ((by decide : ∀ q ∈ sKR, kc q.1 = false) q hq)]; exact hc.1 q hq
  · rw [eN_np h]; exact hc.2.1 q hq
  · rw [eI_np h ((by decide : ∀ q ∈ sKI, kw q.1 = false) q hq)]; exact hc.2.2.1 q hq
  · rw [eE_np h]; exact hc.2.2.2.1 q hq
  · rw [eC_np h]; exact hc.2.2.2.2.1 q hq
  · rw [eA_np h rfl, eA_np h rfl]; exact hc.2.2.2.2.2 p
/-- the structure: n orders, T trades, their references, the lists -/
def Ls1 (t : sT) (l k n : Nat) : Prop := ∃ d w, Ls t l k (fun i => i) n d w ∧ w ≤ 2 * n + 10
def Sf (t : sT) (n T : Nat) : Prop := Cn t ∧ (∀ k, k < n → sI t 512 k = io k ∧ (∃ m, m < 6 ∧ sR t 513 k = some m) ∧ ∃ b, b < 5 ∧ sR t 514 k = some b)
  ∧ (∀ k, k < T → (∃ c, c < 3 ∧ sR t 576 k = some c) ∧ (∃ m, m < 6 ∧ sR t 577 k = some m) ∧ ∃ m, m < 6 ∧ sR t 578 k = some m)
  ∧ Ls1 t 0 9 T ∧ Ls1 t 1 8 n ∧ n ≤ 200 ∧ T < 4096
theorem Ls1_np {l : Nat} (h : np t' = np t) (hl : Ls1 t l k n) : Ls1 t' l k n := by
  obtain ⟨d, w, ⟨h1, h2, h3, h4, h5, h6, h7⟩, h8⟩ := hl
  refine ⟨d, w, ⟨(eR_np h rfl).trans h1, (eI_np h rfl).trans h2, ?_, h4, ?_, h6, fun i hi => ?_⟩, h8⟩
  · rw [eN_np h]; exact h3
  · rw [eC_np h]; exact h5
  · rw [eE_np h]; exact h7 i hi
theorem Sf_np (h : np t' = np t) (hS : Sf t n T) : Sf t' n T := by
  obtain ⟨h1, h2, h3, h4, h5, h6, h7⟩ := hS
  refine ⟨Cn_np h h1, fun k hk => ?_, fun k hk => ?_, Ls1_np h h4, Ls1_np h h5, h6, h7⟩
  · rw [eI_np h rfl, eR_np h rfl, eR_np h rfl]; exact h2 k hk
  · rw [eR_np h rfl, eR_np h rfl, eR_np h rfl]; exact h3 k hk
theorem Sf_12 (h : kp t = M) (hS : Sf t n T) (hk : k < n) : sR t 513 k = some (oM M k) ∧ oM M k < 6 ∧ mA M 12 k = io (oM M k) := by
  obtain ⟨m, hm, e⟩ := (hS.2.1 k hk).2.1
  have h1 : mA M 12 k = io m := by subst h; show ov (sR t 513 k) = _; rw [e]; rfl
  have h2 : oM M k = m := by unfold oM; rw [h1]; exact nn_io (by omega)
  rw [h2]; exact ⟨e, hm, h1⟩
theorem Sf_13 (h : kp t = M) (hS : Sf t n T) (hk : k < n) : sR t 514 k = some (oB M k) ∧ oB M k < 5 ∧ mA M 13 k = io (oB M k) := by
  obtain ⟨m, hm, e⟩ := (hS.2.1 k hk).2.2
  have h1 : mA M 13 k = io m := by subst h; show ov (sR t 514 k) = _; rw [e]; rfl
  have h2 : oB M k = m := by unfold oB; rw [h1]; exact nn_io (by omega)
  rw [h2]; exact ⟨e, hm, h1⟩
theorem Sf_ri (h : kp t = M) (hS : Sf t n T) : Ri M n := by
  refine ⟨?_, hS.2.2.2.2.2.1, fun k hk => ⟨(Sf_12 h hS hk).2.2, (Sf_12 h hS hk).2.1⟩, fun k hk => ⟨(Sf_13 h hS hk).2.2, (Sf_13 h hS hk).2.1⟩⟩
  obtain ⟨d, w, ⟨-, h2, -⟩, -⟩ := hS.2.2.2.2.1
  exact (kS h (F := 786) (q := (834, 1)) rfl).symm.trans h2
theorem Sf_n (hS : Sf t n T) : sI t 834 1 = io n := by obtain ⟨d, w, ⟨-, h2, -⟩, -⟩ := hS.2.2.2.2.1; exact h2
theorem Sf_T (hS : Sf t n T) : sI t 834 0 = io T := by obtain ⟨d, w, ⟨-, h2, -⟩, -⟩ := hS.2.2.2.1; exact h2
theorem Sf_512 (hS : Sf t n T) (hk : k < n) : sI t 512 k = io k := (hS.2.1 k hk).1
/-- get of a list -/
theorem y_g8 {Q : sRs → sT → Prop} {l : Nat} (hl : Ls1 t l 8 n) (hk : k < n) (hn : n < 20000) (q : Q (.inl (some (.inr (.inr (8, some k))))) t) : X 252 0 [.inr (.inr (13, some l)), .inl (io k)] [] t Q := by
  obtain ⟨d, w, ⟨h1, h2, h3, h4, h5, h6, h7⟩, h8⟩ := hl
  exact y_get8 (by omega) hk h2 h1 h3 (by omega) (by omega) (h7 k hk) q
theorem y_g9 {Q : sRs → sT → Prop} {l : Nat} (hl : Ls1 t l 9 n) (hk : k < n) (hn : n < 20000) (q : Q (.inl (some (.inr (.inr (9, some k))))) t) : X 252 0 [.inr (.inr (13, some l)), .inl (io k)] [] t Q := by
  obtain ⟨d, w, ⟨h1, h2, h3, h4, h5, h6, h7⟩, h8⟩ := hl
  exact y_get9 (by omega) hk h2 h1 h3 (by omega) (by omega) (h7 k hk) q
theorem Sf_gO {Q : sRs → sT → Prop} (hS : Sf t n T) (hk : k < n) (q : Q (.inl (some (.inr (.inr (8, some k))))) t) : X 252 0 [.inr (.inr (13, some 1)), .inl (io k)] [] t Q := y_g8 hS.2.2.2.2.1 hk (Nat.lt_of_le_of_lt hS.2.2.2.2.2.1 (by decide)) q
theorem Sf_gT {Q : sRs → sT → Prop} (hS : Sf t n T) (hk : k < T) (q : Q (.inl (some (.inr (.inr (9, some k))))) t) : X 252 0 [.inr (.inr (13, some 0)), .inl (io k)] [] t Q := y_g9 hS.2.2.2.1 hk (Nat.lt_trans hS.2.2.2.2.2.2 (by decide)) q
end S44b
