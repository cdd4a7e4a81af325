/-! a step as a function of the state (printed by step68.py) -/
section S68
variable {t t' : sT} {M M' M0 N : sM} {n T b c m o k x y K w f : Nat} {p a d sz : Int32} {s z : Bool} {L L' l : List Nat} {Q : sRs → sT → Prop}
theorem bif_e {c : Bool} {x y : Option Nat} (h : (bif c then x else y) = some w) : x = some w ∨ y = some w := by
  cases c
  · exact Or.inr h
  · exact Or.inl h
set_option maxHeartbeats 4000000 in
theorem bwF_ok (h : bwF M n b s = some w) : w < 3 ∧ wokF M n b s w = true := by
  unfold bwF at h
  cases h0 : wokF M n b s 0 <;> cases h1 : wokF M n b s 1 <;> cases h2 : wokF M n b s 2 <;> simp only [h0, h1, h2, cond_true, cond_false, Option.isNone_none, Option.isNone_some, Bool.true_or, Bool.false_or] at h
  all_goals first
    | (cases h; done)
    | (cases h; exact ⟨by decide, by assumption⟩)
    | (rcases bif_e h with h | h <;> first
        | (cases h; exact ⟨by decide, by assumption⟩)
        | (rcases bif_e h with h | h <;> (cases h; exact ⟨by decide, by assumption⟩)))
def LgF (M : sM) (b w : Nat) (p : Int32) (L : List Nat) : List (Nat × Int32) := match b, w, L with
  | 0, 1, [o0, o1] => [(0, p), (1, (p + (-(mA M 14 o0))))]
  | 0, 2, [o0, o1, o2] => [(0, p), (1, (p + (-(mA M 14 o0)))), (2, ((p + (-(mA M 14 o0))) + (-(mA M 14 o1))))]
  | 1, 1, [o0, o1] => [(1, p), (2, (p + (-(mA M 14 o0))))]
  | 1, 2, [o0, o1] => [(1, p), (0, (p + (mA M 14 o0)))]
  | 2, 1, [o0, o1] => [(2, p), (1, (p + (mA M 14 o0)))]
  | 2, 2, [o0, o1, o2] => [(2, p), (1, (p + (mA M 14 o0))), (0, ((p + (mA M 14 o0)) + (mA M 14 o1)))]
  | 3, 1, [o0, o1] => [(0, (mA M 14 o0)), (1, (mA M 14 o1))]
  | 4, 1, [o0, o1] => [(1, (mA M 14 o0)), (2, (mA M 14 o1))]
  | b, 0, _ => lg0 b p
  | _, _, _ => []
/-- how many trades there are -/
def tN (M : sM) : Nat := (mI M 801).toNatClampNeg
def dV : TV := (fun _ => 0, fun _ => 0, fun _ => none, fun _ => 0)
noncomputable def legL (M : sM) (n o w : Nat) : List Nat := bif (Nat.beq w 0 && mB M 0 (oB M o)) then Classical.epsilon (Lv M n (oB M o) (!(mB M 3 o)) (mA M 14 (ovD (bsF M n (oB M o) (!(mB M 3 o)))))) else (lgO M n (oB M o) (mB M 3 o) w).getD []
def trF (M : sM) (n o w : Nat) (p : Int32) (L : List Nat) : sM := if w = 0 then cshF M n (tN M) o p L (portN (L.map (shN M)) (lfN M o)) else wayF M n (tN M) o p L (plV M (oB M o) false p L dV)
noncomputable def csM (M : sM) (n o : Nat) : sM := match bwF M n (oB M o) (mB M 3 o) with
  | none => M
  | some w => stpM M n o (wprF M n (oB M o) (mB M 3 o) w) (legL M n o w) (LgF M (oB M o) w (wprF M n (oB M o) (mB M 3 o) w) (legL M n o w)) (trF M n o w (wprF M n (oB M o) (mB M 3 o) w) (legL M n o w))
noncomputable def csZ (M : sM) (n o : Nat) : Bool := match bwF M n (oB M o) (mB M 3 o) with
  | none => false
  | some w => stpZ M n o (wprF M n (oB M o) (mB M 3 o) w) (legL M n o w) (LgF M (oB M o) w (wprF M n (oB M o) (mB M 3 o) w) (legL M n o w))
/-- lists with the same members, by the same strict order, are the same -/
theorem pw_uniq {R : Nat → Nat → Prop} (irr : ∀ x, ¬ R x x) (asy : ∀ x y, R x y → ¬ R y x) : ∀ {l l' : List Nat}, l.Pairwise R → l'.Pairwise R → (∀ x, x ∈ l ↔ x ∈ l') → l = l'
  | [], [], _, _, _ => rfl
  | [], y :: l', _, _, h => by have := (h y).mpr List.mem_cons_self; cases this
  | x :: l, [], _, _, h => by have := (h x).mp List.mem_cons_self; cases this
  | x :: l, y :: l', h1, h2, h => by
    rw [List.pairwise_cons] at h1 h2
    have e : x = y := by
      rcases List.mem_cons.mp ((h x).mp List.mem_cons_self) with e | e
      · exact e
      · rcases List.mem_cons.mp ((h y).mpr List.mem_cons_self) with e2 | e2
        · exact e2.symm
        · exact absurd (h2.1 x e) (asy _ _ (h1.1 y e2))
    subst e
    refine congrArg (List.cons x) (pw_uniq irr asy h1.2 h2.2 (fun z => Iff.intro ?_ ?_))
    · intro hz
      rcases List.mem_cons.mp ((h z).mp (List.mem_cons_of_mem x hz)) with e | e
      · rw [e] at hz; exact absurd (h1.1 x hz) (irr x)
      · exact e
    · intro hz
      rcases List.mem_cons.mp ((h z).mpr (List.mem_cons_of_mem x hz)) with e | e
      · rw [e] at hz; exact absurd (h2.1 x hz) (irr x)
      · exact e
theorem i32_as {u v : Int32} (h : u < v) : ¬ v < u := fun h2 => by
  rw [Int32.lt_iff_toInt_lt] at h h2
  omega
theorem Lv_uniq (h1 : Lv M n b s p L) (h2 : Lv M n b s p L') : L = L' :=
  pw_uniq (fun _ h => absurd h Int32.lt_irrefl) (fun _ _ h => i32_as h) h1.2 h2.2 (fun x => (h1.1 x).trans (h2.1 x).symm)
theorem Lv_eps (h : Lv M n b s p L) : Classical.epsilon (Lv M n b s p) = L := Lv_uniq (Classical.epsilon_spec (p := Lv M n b s p) ⟨L, h⟩) h
/-- the level of the best resting order -/
theorem Lv_of (hp : (x :: l).Pairwise (btr M s)) (hm : ∀ o, o ∈ x :: l ↔ rst M n b s o) : Lv M n b s (mA M 14 x) (lvF M (x :: l)) := by
  have key : ∀ (l2 : List Nat), l2.Pairwise (btr M s) → (∀ y, y ∈ l2 → mA M 14 y = mA M 14 x ∨ btr M s x y) → (∀ y, y ∈ l2.takeWhile (fun y => decide (mA M 14 y = mA M 14 x)) ↔ y ∈ l2 ∧ mA M 14 y = mA M 14 x) ∧ (l2.takeWhile (fun y => decide (mA M 14 y = mA M 14 x))).Pairwise (fun u v => mA M 18 u < mA M 18 v) := by
    intro l2
    induction l2 with
    | nil => intro _ _; exact ⟨fun y => Iff.intro (fun h => absurd h (List.not_mem_nil)) (fun h => absurd h.1 (List.not_mem_nil)), List.Pairwise.nil⟩
    | cons a r ih =>
      intro h1 h2
      rw [List.pairwise_cons] at h1
      obtain ⟨i1, i2⟩ := ih h1.2 (fun y hy => h2 y (List.mem_cons_of_mem a hy))
      by_cases e : mA M 14 a = mA M 14 x
      · rw [List.takeWhile_cons, decide_eq_true e]
        refine ⟨fun y => ?_, ?_⟩
        · show y ∈ a :: r.takeWhile _ ↔ _
          rw [List.mem_cons, List.mem_cons, i1]
          constructor
          · rintro (h | ⟨h, h'⟩)
            · exact ⟨Or.inl h, by rw [h]; exact e⟩
            · exact ⟨Or.inr h, h'⟩
          · rintro ⟨h | h, h'⟩
            · exact Or.inl h
            · exact Or.inr ⟨h, h'⟩
        · show (a :: r.takeWhile _).Pairwise _
          rw [List.pairwise_cons]
          refine ⟨fun y hy => ?_, i2⟩
          have hy2 := (i1 y).mp hy
          have hb := h1.1 y hy2.1
          unfold btr at hb
          rw [if_pos (e.trans hy2.2.symm)] at hb
          exact hb
      · rw [List.takeWhile_cons, decide_eq_false e]
        refine ⟨fun y => Iff.intro (fun h => absurd h (List.not_mem_nil)) (fun h => ?_), List.Pairwise.nil⟩
        exfalso
        have hxa : btr M s x a := by
          rcases h2 a List.mem_cons_self with h3 | h3
          · exact absurd h3 e
          · exact h3
        rcases List.mem_cons.mp h.1 with h3 | h3
        · exact e (by rw [← h3]; exact h.2)
        · have hay := h1.1 y h3
          unfold btr at hxa hay
          rw [if_neg (fun q => e q.symm)] at hxa
          rw [if_neg (fun q => e (q.trans h.2)), h.2] at hay
          cases s
          · rw [if_neg (by decide)] at hxa hay
            exact i32_as hxa hay
          · rw [if_pos rfl] at hxa hay
            exact i32_as hxa hay
  rw [List.pairwise_cons] at hp
  obtain ⟨k1, k2⟩ := key (x :: l) (List.pairwise_cons.mpr hp) (fun y hy => by
    rcases List.mem_cons.mp hy with e | e
    · exact Or.inl (by rw [e])
    · exact Or.inr (hp.1 y e))
  refine ⟨fun y => ?_, k2⟩
  rw [← hm y]
  exact k1 y
theorem wpr_L (h : lgO M n b s w = some L) : wprF M n b s w = prF M b w L := by
  unfold wprF; rw [h]; rfl
theorem wok_L (h : wokF M n b s w = true) : lgO M n b s w = some ((lgO M n b s w).getD []) := gsome h

end S68
