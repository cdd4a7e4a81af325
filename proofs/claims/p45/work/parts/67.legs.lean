/-! the orders that a way takes -/
section S67
variable {M M' M0 N : sM} {n T b c m o k x y K w f : Nat} {p a d sz : Int32} {s z : Bool} {L L' l : List Nat}
theorem bsL_isr : ∀ k, bsL M n b s none k = some f → f < k ∧ isr M b s f = true
  | 0, h => by cases h
  | k + 1, h => by
    have e : bsL M n b s none (k + 1) = (bif isr M b s k then (bif (bsL M n b s none k).isNone then (some k) else (bif btB M k (ovD (bsL M n b s none k)) then (some k) else (bsL M n b s none k))) else (bsL M n b s none k)) := rfl
    rw [e] at h
    have prev : bsL M n b s none k = some f → f < k + 1 ∧ isr M b s f = true := fun h2 => by
      have := bsL_isr k h2
      exact ⟨by omega, this.2⟩
    cases hi : isr M b s k with
    | false => rw [hi] at h; exact prev h
    | true =>
      rw [hi] at h
      have here : some k = some f → f < k + 1 ∧ isr M b s f = true := fun e => by
        cases e; exact ⟨Nat.lt_succ_self _, hi⟩
      cases h1 : (bsL M n b s none k).isNone with
      | true => rw [h1] at h; exact here h
      | false =>
        rw [h1] at h
        cases h2 : btB M k (ovD (bsL M n b s none k)) with
        | true => rw [h2] at h; exact here h
        | false => rw [h2] at h; exact prev h
theorem bsF_rst (h : bsF M n b s = some f) : rst M n b s f := by
  obtain ⟨h1, h2⟩ := bsL_isr n h
  exact (isr_iff h1).mp h2
theorem lgF_all : ∀ {Q9 : List (Nat × Bool)} {L : List Nat}, lgF M n s Q9 = some L → L = Q9.map (fun q => ovD (bsF M n q.1 (!(xor q.2 s)))) ∧ ∀ q, q ∈ Q9 → mA M 0 q.1 = 2 ∧ bsF M n q.1 (!(xor q.2 s)) = some (ovD (bsF M n q.1 (!(xor q.2 s))))
  | [], L, h => by
    cases h
    exact ⟨rfl, fun q hq => by cases hq⟩
  | q :: r, L, h => by
    have e : lgF M n s (q :: r) = bif zok M n q.1 (!(xor q.2 s)) then (lgF M n s r).map (fun l => ovD (bsF M n q.1 (!(xor q.2 s))) :: l) else none := rfl
    rw [e] at h
    cases hz : zok M n q.1 (!(xor q.2 s)) with
    | false => rw [hz] at h; cases h
    | true =>
      rw [hz] at h
      cases hr : lgF M n s r with
      | none => rw [hr] at h; cases h
      | some l =>
        rw [hr] at h
        cases h
        obtain ⟨i1, i2⟩ := lgF_all hr
        unfold zok at hz
        rw [Bool.and_eq_true] at hz
        have hb : bsF M n q.1 (!(xor q.2 s)) = some (ovD (bsF M n q.1 (!(xor q.2 s)))) := by
          cases hc : bsF M n q.1 (!(xor q.2 s)) with
          | none => rw [hc] at hz; cases hz.2
          | some g => rfl
        refine ⟨by rw [i1]; rfl, fun q2 hq => ?_⟩
        rcases List.mem_cons.mp hq with e2 | e2
        · rw [e2]; exact ⟨of_decide_eq_true hz.1, hb⟩
        · exact i2 q2 e2
theorem ol_ok {i : Nat} (h1 : mA M 0 i = 2) (h2 : bsF M n i s = some f) : olG M n i s = some f := by
  unfold olG
  rw [decide_eq_true h1, h2]; rfl
/-- of a way's orders -/
def Lw (M : sM) (n : Nat) (L Bs : List Nat) : Prop := (∀ x, x ∈ L → x < n ∧ mA M 19 x = 1 ∧ mA M 0 (oB M x) = 2) ∧ L.map (oB M) = Bs
theorem nd_map {f : Nat → Nat} : ∀ {L : List Nat}, (L.map f).Nodup → L.Nodup
  | [], _ => List.nodup_nil
  | x :: l, h => by
    rw [List.map_cons, List.nodup_cons] at h
    rw [List.nodup_cons]
    exact ⟨fun e => h.1 (List.mem_map_of_mem e), nd_map h.2⟩
theorem Lw_of {Q9 : List (Nat × Bool)} (h : lgF M n s Q9 = some L) : Lw M n L (Q9.map (·.1)) := by
  obtain ⟨h1, h2⟩ := lgF_all h
  subst h1
  refine ⟨fun x hx => ?_, ?_⟩
  · obtain ⟨q, hq, e⟩ := List.mem_map.mp hx
    obtain ⟨g1, g2⟩ := h2 q hq
    obtain ⟨r1, r2, r3, r4⟩ := bsF_rst g2
    rw [← e]
    exact ⟨r1, r2, by rw [r3]; exact g1⟩
  · rw [List.map_map]
    exact List.map_congr_left (fun q hq => (bsF_rst (h2 q hq).2).2.2.1)
/-! prices of ways -/
theorem prS_b (hP : Pb M n) : ∀ (Q9 : List (Nat × Bool)) (L : List Nat) (a : Int32) (B : Nat), (∀ x, x ∈ L → x < n) → -(B : Int) ≤ a.toInt → a.toInt ≤ B → B + 1000 * L.length ≤ 100000 → -((B + 1000 * L.length : Nat) : Int) ≤ (prS M a Q9 L).toInt ∧ (prS M a Q9 L).toInt ≤ ((B + 1000 * L.length : Nat) : Int)
  | [], L, a, B, _, h1, h2, h3 => by
    have e : prS M a [] L = a := by cases L <;> rfl
    rw [e]
    constructor <;> omega
  | q :: r, [], a, B, _, h1, h2, h3 => by
    show -((B + 1000 * 0 : Nat) : Int) ≤ a.toInt ∧ a.toInt ≤ ((B + 1000 * 0 : Nat) : Int)
    constructor <;> omega
  | q :: r, x :: l, a, B, hx, h1, h2, h3 => by
    have hp := hP x (hx x List.mem_cons_self)
    have h3' : B + 1000 * (l.length + 1) ≤ 100000 := h3
    have hneg : (-(mA M 14 x)).toInt = -(mA M 14 x).toInt := by
      rw [Int32.toInt_neg]
      exact Int.bmod_eq_of_le (by omega) (by omega)
    have e1 : (bif q.2 then (-(mA M 14 x)) else (mA M 14 x)).toInt = (mA M 14 x).toInt ∨ (bif q.2 then (-(mA M 14 x)) else (mA M 14 x)).toInt = -(mA M 14 x).toInt := by
      cases q.2
      · exact Or.inl rfl
      · exact Or.inr hneg
    have e2 : (a + (bif q.2 then (-(mA M 14 x)) else (mA M 14 x))).toInt = a.toInt + (bif q.2 then (-(mA M 14 x)) else (mA M 14 x)).toInt := by
      rw [Int32.toInt_add]
      exact Int.bmod_eq_of_le (by omega) (by omega)
    have ih := prS_b hP r l (a + (bif q.2 then (-(mA M 14 x)) else (mA M 14 x))) (B + 1000) (fun y hy => hx y (List.mem_cons_of_mem x hy)) (by rw [e2]; omega) (by rw [e2]; omega) (by omega)
    have e3 : (x :: l).length = l.length + 1 := rfl
    rw [e3]
    show -((B + 1000 * (l.length + 1) : Nat) : Int) ≤ (prS M (a + (bif q.2 then (-(mA M 14 x)) else (mA M 14 x))) r l).toInt ∧ _
    have e4 : B + 1000 * (l.length + 1) = B + 1000 + 1000 * l.length := by omega
    rw [e4]
    exact ih
theorem prF_ne (hP : Pb M n) (hL : ∀ x, x ∈ L → x < n) (hlen : L.length ≤ 3) (hl2 : b < 3 ∨ ¬ w = 1 ∨ ∃ o0 o1, L = [o0, o1]) : ¬ prF M b w L = -10000 := by
  unfold prF
  cases hz : (Nat.ble 3 b && Nat.beq w 1) with
  | true =>
    rw [Bool.and_eq_true] at hz
    have h3 : 3 ≤ b := Nat.le_of_ble_eq_true hz.1
    have h1 : w = 1 := Nat.eq_of_beq_eq_true hz.2
    rcases hl2 with e | e | ⟨o0, o1, e⟩
    · omega
    · exact absurd h1 e
    · subst e
      show ¬ (mA M 14 o0 - mA M 14 o1 = -10000)
      intro e
      have hp0 := hP o0 (hL o0 List.mem_cons_self)
      have hp1 := hP o1 (hL o1 (List.mem_cons_of_mem o0 List.mem_cons_self))
      have e5 := congrArg Int32.toInt e
      rw [Int32.toInt_sub, Int.bmod_eq_of_le (by omega) (by omega)] at e5
      have : (-10000 : Int32).toInt = -10000 := rfl
      omega
  | false =>
    show ¬ (prS M 0 ((lgs b w).getD []) L = -10000)
    intro e
    have h := prS_b hP ((lgs b w).getD []) L 0 0 hL (by decide) (by decide) (by omega)
    rw [e] at h
    have : (-10000 : Int32).toInt = -10000 := rfl
    omega
end S67
