/-! too far: the class's test and the reference's; plans do not depend on what was planned before -/
section S65
variable {t t' : sT} {M M' M0 N : sM} {n T b c m o k x y K w : Nat} {p a d sz : Int32} {s z wz : Bool} {L L' l : List Nat} {V V' V0 : TV} {Q : sRs → sT → Prop}
theorem ab_or {u v : Int32} (h : 0 ≤ u) : decide (u < ab v) = (decide (u < v) || decide (u < -v)) := by
  unfold ab
  have h0 : (0 : Int32).toInt = 0 := rfl
  by_cases hv : 0 ≤ v
  · rw [if_pos hv]
    have e : decide (u < -v) = false := by
      refine decide_eq_false (fun q => ?_)
      rw [Int32.le_iff_toInt_le] at h hv
      rw [Int32.lt_iff_toInt_lt] at q
      have hb1 := Int32.toInt_lt v
      have hn : (-v).toInt = -v.toInt := by
        rw [Int32.toInt_neg]
        exact Int.bmod_eq_of_le (by omega) (by omega)
      omega
    rw [e, Bool.or_false]
  · rw [if_neg hv, Int32.zero_sub]
    have e : decide (u < v) = false := by
      refine decide_eq_false (fun q => hv ?_)
      rw [Int32.le_iff_toInt_le] at h ⊢
      rw [Int32.lt_iff_toInt_lt] at q
      omega
    rw [e, Bool.false_or]
theorem ltS_ob {e : Nat} {q : Int32} {f : Option Nat} {Lg : List (Nat × Int32)} (hb : 0 ≤ mA M 3 e) (h1 : V.2.2.1 x = some e) (h2 : V.2.1 x = q) (h3 : lgc Lg k = e) (h4 : lgp Lg k = q) : ltS M V f x = obS M n Lg k f := by
  unfold ltS obS tfB
  rw [h1, h3, h4]
  show (bif decide (mA M 3 e < ab (V.2.1 x - mA M 2 e)) then _ else f) = _
  rw [h2, ab_or hb]
  cases (decide (mA M 3 e < q - mA M 2 e) || decide (mA M 3 e < -(q - mA M 2 e)))
  · rfl
  · cases f with
    | none => rfl
    | some g =>
      show (bif decide (e < g) then some e else some g) = (bif false then some e else bif decide (e < g) then some e else some g)
      rfl
theorem ltF_lv {q : Int32} (hb : 0 ≤ mA M 3 b) : ∀ (l : List Nat) (f : Option Nat), (∀ x, x ∈ l → V.2.2.1 x = some b ∧ V.2.1 x = q) → (f = obF M n [(b, q)] 1) → ltF M V f l = obF M n [(b, q)] 1
  | [], f, _, hf => hf
  | x :: l, f, h, hf => by
    have hx := h x List.mem_cons_self
    show ltF M V (ltS M V f x) l = _
    refine ltF_lv hb l _ (fun y hy => h y (List.mem_cons_of_mem x hy)) ?_
    rw [ltS_ob (n := n) (k := 0) (Lg := [(b, q)]) hb hx.1 hx.2 rfl rfl, hf]
    show obS M n [(b, q)] 0 (obS M n [(b, q)] 0 none) = obS M n [(b, q)] 0 none
    have e : ∀ f, obS M n [(b, q)] 0 f = bif (decide (mA M 3 b < q - mA M 2 b) || decide (mA M 3 b < -(q - mA M 2 b))) then (bif f.isNone then some b else (bif decide (b < ovD f) then some b else f)) else f := fun f => rfl
    rw [e, e]
    cases (decide (mA M 3 b < q - mA M 2 b) || decide (mA M 3 b < -(q - mA M 2 b)))
    · rfl
    · show (bif decide (b < b) then some b else some b) = some b
      exact bif_same
theorem far_lv {q : Int32} (hb : 0 ≤ mA M 3 b) (h : ∀ y, y ∈ x :: l → V.2.2.1 y = some b ∧ V.2.1 y = q) : ltF M V none (x :: l) = obF M n [(b, q)] 1 := by
  have hx := h x List.mem_cons_self
  show ltF M V (ltS M V none x) l = _
  refine ltF_lv hb l _ (fun y hy => h y (List.mem_cons_of_mem x hy)) ?_
  exact ltS_ob (n := n) (k := 0) (Lg := [(b, q)]) hb hx.1 hx.2 rfl rfl
theorem far_none : ∀ (l : List Nat) (f : Option Nat), (∀ x, x ∈ l → V.2.2.1 x = none) → ltF M V f l = f
  | [], _, _ => rfl
  | x :: l, f, h => by
    show ltF M V (ltS M V f x) l = f
    rw [show ltS M V f x = f by unfold ltS; rw [h x List.mem_cons_self]]
    exact far_none l f (fun y hy => h y (List.mem_cons_of_mem x hy))
/-! plans within one book -/
theorem pcV_same (hb3 : b < 3) : ∀ (l : List Nat) (V : TV), (∀ x, x ∈ l → oB M x = b) → ∀ y, (y ∈ l ∨ (V.2.2.1 y = some b ∧ V.2.1 y = p)) → (pcV M b p l V).2.2.1 y = some b ∧ (pcV M b p l V).2.1 y = p
  | [], V, _, y, h => by
    rcases h with h | h
    · cases h
    · exact h
  | x :: l, V, hx, y, h => by
    have e : pcV M b p (x :: l) V = pcV M b p l (V.1, sU1 V.2.1 x p, sU1 V.2.2.1 x (some b), V.2.2.2) := by
      show (match snd (oB M x) with
        | none => _
        | some j => _) = _
      rw [hx x List.mem_cons_self, (snd_lt hb3).1]
    rw [e]
    refine pcV_same hb3 l _ (fun y hy => hx y (List.mem_cons_of_mem x hy)) y ?_
    by_cases ey : y = x
    · right
      rw [ey]
      exact ⟨sU1_e1, sU1_e1⟩
    · rcases h with h | h
      · rcases List.mem_cons.mp h with h1 | h1
        · exact absurd h1 ey
        · exact Or.inl h1
      · right
        exact ⟨(sU1_n ey).trans h.1, (sU1_n ey).trans h.2⟩
theorem psV_none : ∀ (l : List Nat) (k : Nat) (V : TV) (y : Nat), (y ∈ l ∨ V.2.2.1 y = none) → (psV M b true k l V).2.2.1 y = none
  | [], k, V, y, h => by
    rcases h with h | h
    · cases h
    · exact h
  | x :: l, k, V, y, h => by
    show (psV M b true (k + 1) l (V.1, sU1 V.2.1 x (mA M 14 x), sU1 V.2.2.1 x none, V.2.2.2)).2.2.1 y = none
    refine psV_none l (k + 1) _ y ?_
    by_cases ey : y = x
    · right
      rw [ey]
      exact sU1_e1
    · rcases h with h | h
      · rcases List.mem_cons.mp h with h1 | h1
        · exact absurd h1 ey
        · exact Or.inl h1
      · right
        exact (sU1_n ey).trans h
/-- a level's plan -/
theorem far_pl (hbd : ∀ c, c < 3 → 0 ≤ mA M 3 c) (hb : b < 5) (hx : ∀ y, y ∈ x :: l → oB M y = b) : ltF M (plV M b true p (x :: l) V) none (x :: l) = obF M n (lg0 b p) (lg0 b p).length ∧ ∀ y d, (plV M b true p (x :: l) V).2.2.1 y = some d → y ∈ x :: l → d < 3 := by
  unfold plV lg0
  by_cases hb3 : b < 3
  · rw [(snd_lt hb3).1, if_pos hb3]
    have h := pcV_same (M := M) (p := p) hb3 (x :: l) V hx
    rw [(snd_lt hb3).2]
    exact ⟨far_lv (hbd b hb3) (fun y hy => h y (Or.inl hy)), fun y d hd hy => by rw [(h y (Or.inl hy)).1] at hd; cases hd; exact hb3⟩
  · rw [if_neg hb3]
    have e : snd b = some (b - 2) := if_neg hb3
    rw [e]
    have h := psV_none (M := M) (b := b) (x :: l) 0 V
    exact ⟨far_none _ _ (fun y hy => h y (Or.inl hy)), fun y d hd hy => by rw [h y (Or.inl hy)] at hd; cases hd⟩
/-! plans do not depend on what was planned before -/
def eqV (V V' : TV) (y : Nat) : Prop := V.2.2.1 y = V'.2.2.1 y ∧ V.2.1 y = V'.2.1 y
theorem eqV_up {u : Int32} {v : Option Nat} (h : y = x ∨ eqV V V' y) : eqV (V.1, sU1 V.2.1 x u, sU1 V.2.2.1 x v, V.2.2.2) (V'.1, sU1 V'.2.1 x u, sU1 V'.2.2.1 x v, V'.2.2.2) y := by
  by_cases ey : y = x
  · rw [ey]
    exact ⟨sU1_e1.trans sU1_e1.symm, sU1_e1.trans sU1_e1.symm⟩
  · rcases h with h | h
    · exact absurd h ey
    · exact ⟨(sU1_n ey).trans (h.1.trans (sU1_n ey).symm), (sU1_n ey).trans (h.2.trans (sU1_n ey).symm)⟩
theorem mem_or {P : Prop} (h : y ∈ x :: l ∨ P) : y ∈ l ∨ (y = x ∨ P) := by
  rcases h with h | h
  · rcases List.mem_cons.mp h with h1 | h1
    · exact Or.inr (Or.inl h1)
    · exact Or.inl h1
  · exact Or.inr (Or.inr h)
theorem pcV_ind : ∀ (l : List Nat) (c : Nat) (p : Int32) (V V' : TV) (y : Nat), (y ∈ l ∨ eqV V V' y) → eqV (pcV M c p l V) (pcV M c p l V') y
  | [], c, p, V, V', y, h => by
    rcases h with h | h
    · cases h
    · exact h
  | x :: l, c, p, V, V', y, h => by
    have h2 : y ∈ l ∨ eqV (V.1, sU1 V.2.1 x p, sU1 V.2.2.1 x (some c), V.2.2.2) (V'.1, sU1 V'.2.1 x p, sU1 V'.2.2.1 x (some c), V'.2.2.2) y := by
      rcases mem_or h with h1 | h1
      · exact Or.inl h1
      · exact Or.inr (eqV_up h1)
    show eqV (match snd (oB M x) with
      | none => _
      | some j => _) (match snd (oB M x) with
      | none => _
      | some j => _) y
    cases snd (oB M x) with
    | none => exact pcV_ind l c p _ _ y h2
    | some j => exact pcV_ind l _ _ _ _ y h2
theorem psV_ind : ∀ (l : List Nat) (k : Nat) (V V' : TV) (y : Nat), (y ∈ l ∨ eqV V V' y) → eqV (psV M b wz k l V) (psV M b wz k l V') y
  | [], k, V, V', y, h => by
    rcases h with h | h
    · cases h
    · exact h
  | x :: l, k, V, V', y, h => by
    refine psV_ind l (k + 1) _ _ y ?_
    rcases mem_or h with h1 | h1
    · exact Or.inl h1
    · exact Or.inr (eqV_up h1)
theorem plV_ind (h : y ∈ L) : eqV (plV M b wz p L V) (plV M b wz p L V') y := by
  unfold plV
  cases snd b with
  | none => exact pcV_ind L _ _ _ _ y (Or.inl h)
  | some j => exact psV_ind L _ _ _ y (Or.inl h)
theorem mlG_ind : ∀ (l : List Nat) (k m : Nat) (M : sM) (T : Nat), (∀ y, y ∈ l → eqV V V' y) → mlG M0 o sz z V k m l M T = mlG M0 o sz z V' k m l M T ∧ tlU V l T = tlU V' l T
  | [], _, _, _, _, _ => ⟨rfl, rfl⟩
  | x :: l, k, m, M, T, h => by
    have hx := h x List.mem_cons_self
    have e1 : tlM M0 o sz z V k m x M T = tlM M0 o sz z V' k m x M T := by unfold tlM; rw [hx.1, hx.2]
    have e2 : tlT V x T = tlT V' x T := by unfold tlT; rw [hx.1]
    show mlG M0 o sz z V (k + 1) (bif z then m else oM M0 x) l (tlM M0 o sz z V k m x M T) (tlT V x T) = mlG M0 o sz z V' (k + 1) (bif z then m else oM M0 x) l (tlM M0 o sz z V' k m x M T) (tlT V' x T) ∧ tlU V l (tlT V x T) = tlU V' l (tlT V' x T)
    rw [e1, e2]
    exact mlG_ind l _ _ _ _ (fun y hy => h y (List.mem_cons_of_mem x hy))
theorem wayF_ind (h : ∀ y, y ∈ L → eqV V V' y) : wayF M n T o p L V = wayF M n T o p L V' := by
  unfold wayF
  rw [(mlG_ind L 0 (oM M o) M T h).1]
end S65
