/-! what is not made yet is 0: kept by every run -/
def Zr (t : sT) : Prop := ∀ o, sC t 20 ≤ o → sN t 20 o = 0 ∧ ∀ p, sA t 20 o p = 0
section S93a
variable {t t' : sT} {m pc n a b c : Nat} {v : Int32} {ls st : List sV} {Q : sRs → sT → Prop}
theorem Zr_e (h1 : sC t' 20 = sC t 20) (h2 : sN t' 20 = sN t 20) (h3 : sA t' 20 = sA t 20) (h : Zr t) : Zr t' := by
  intro o ho
  rw [h2, h3]
  exact h o (by rw [← h1]; exact ho)
theorem Zr_new {k w : Nat} (h : Zr t) : Zr (sNew t k w) := by
  intro o ho
  have h1 : sC t 20 ≤ sC (sNew t k w) 20 := sU1_le 20
  exact h o (by omega)
theorem Zr_nwa {k w : Nat} (h : Zr t) : Zr (sNwA t k w) := by
  intro o ho
  have h1 : sC t 20 ≤ sC (sNwA t k w) 20 := sU1_le 20
  refine ⟨?_, (h o (by omega)).2⟩
  by_cases e : k = 20
  · subst e
    have h2 : sC (sNwA t 20 w) 20 = sC t 20 + 1 := sU1_e (sC t) 20 (sC t 20 + 1)
    exact (if_neg (fun z => by have h3 : o = sC t 20 := z.2; omega)).trans (h o (by omega)).1
  · exact (if_neg (fun z => e z.1.symm)).trans (h o (by omega)).1
theorem Zr_cpy {i w : Nat} (h : Zr t) : Zr (sCpy t i w) := by
  refine Zr_e ?_ ?_ rfl h
  · show (if (20 : Nat) = 27 then sC t 27 + 1 else sC t 20) = sC t 20
    exact if_neg (by decide)
  · funext o
    show (if (20 : Nat) = 27 ∧ o = sC t 27 then w else sN t 20 o) = sN t 20 o
    exact if_neg (fun z => by cases z.1)
theorem Zr_A {k o p : Nat} {x : Int32} (h0 : 0 < sN t k o) (h : Zr t) : Zr (sAw t k o p x) := by
  intro o' ho
  refine ⟨(h o' ho).1, fun p' => ?_⟩
  refine (if_neg (fun z => ?_)).trans ((h o' ho).2 p')
  have e1 : (20 : Nat) = k := z.1
  have e2 : o' = o := z.2.1
  rw [← e1, ← e2, (h o' ho).1] at h0
  exact absurd h0 (Nat.lt_irrefl 0)
theorem sIn_pos {x : Int32} {N : Nat} (h : sIn x N = true) : 0 < N := by
  unfold sIn at h
  simp only [Bool.and_eq_true, Nat.blt_eq] at h
  omega
theorem Zr_thr (h : Zr t) : Zr (sThr t) := h
theorem Zr_put {w : sV} {o : Nat} (h : sPut t a b c o w = some t') (hz : Zr t) : Zr t' := by
  unfold sPut at h
  split at h
  · cases h; exact hz
  · split at h
    · cases h; exact hz
    · cases h
  · split at h
    · cases h; exact hz
    · cases h
  · cases h
set_option maxHeartbeats 4000000 in
theorem Zr_stp {x : Instr} {r : Nat × List sV × List sV × sT} (h : sStp x n a b c v pc ls st t = some r) (hz : Zr t) : Zr r.2.2.2 := by
  unfold sStp at h
  split at h
  all_goals first
    | (cases h <;> exact hz)
    | (split at h <;> first
        | (cases h; exact hz)
        | (cases h; done)
        | (split at h <;> first | (cases h; exact hz) | (cases h; done))
        | (cases h; exact Zr_new hz)
        | (cases h; exact Zr_nwa hz)
        | (rename_i g; cases h; exact Zr_A (sIn_pos g.2) hz)
        | (rename_i g; cases h; exact Zr_e rfl rfl rfl hz)
        | (obtain ⟨u, h1, h2⟩ := Option.map_eq_some_iff.mp h; cases h2; exact Zr_put h1 hz))
    | (obtain ⟨u, h1, h2⟩ := Option.map_eq_some_iff.mp h; cases h2; exact Zr_put h1 hz)
theorem Zr_call {r : (Nat × List sV × List sV × sT) ⊕ ((Nat × List sV × List sV) ⊕ (sRs × sT))} (h : sCall a b c pc n ls st t = some r) (hz : Zr t) : (∀ q, r = .inl q → Zr q.2.2.2) ∧ ∀ q, r = .inr (.inr q) → Zr q.2 := by
  unfold sCall at h
  split at h
  · split at h
    all_goals first
      | (split at h <;> first
          | (cases h; exact ⟨fun q e => (by cases e <;> first | exact hz | exact Zr_cpy hz), fun q e => (by cases e)⟩)
          | (cases h; done)
          | (split at h <;> first
              | (cases h; exact ⟨fun q e => (by cases e <;> first | exact hz | exact Zr_cpy hz), fun q e => (by cases e)⟩)
              | (cases h; done)))
      | (cases h; done)
  · cases h
theorem Zr_act {x : Instr} {rb : Bool} {r : (Nat × List sV × List sV × sT) ⊕ ((Nat × List sV × List sV) ⊕ (sRs × sT))} (h : sAct x n a b c v pc rb ls st t = some r) (hz : Zr t) : (∀ q, r = .inl q → Zr q.2.2.2) ∧ ∀ q, r = .inr (.inr q) → Zr q.2 := by
  have key : ∀ y : Instr, (sStp y n a b c v pc ls st t).map Sum.inl = some r → (∀ q, r = .inl q → Zr q.2.2.2) ∧ ∀ q, r = .inr (.inr q) → Zr q.2 := fun y g => by
    obtain ⟨u, h1, h2⟩ := Option.map_eq_some_iff.mp g
    cases h2
    exact ⟨fun q e => (by cases e; exact Zr_stp h1 hz), fun q e => (by cases e)⟩
  unfold sAct at h
  split at h
  · exact Zr_call h hz
  · exact Zr_call h hz
  · exact Zr_call h hz
  · split at h
    · split at h
      · cases h; exact ⟨fun q e => (by cases e), fun q e => (by cases e; exact hz)⟩
      · cases h
    · cases h
  · split at h
    · cases h; exact ⟨fun q e => (by cases e), fun q e => (by cases e; exact hz)⟩
    · cases h
  · split at h
    · split at h
      · cases h
      · cases h; exact ⟨fun q e => (by cases e), fun q e => (by cases e; exact hz)⟩
    · cases h
  · split at h
    · cases h; exact ⟨fun q e => (by cases e), fun q e => (by cases e; exact hz)⟩
    · cases h
  · split at h
    · split at h
      · cases h; exact ⟨fun q e => (by cases e), fun q e => (by cases e; exact Zr_thr hz)⟩
      · cases h
    · exact key _ h
  · exact key _ h
theorem Zr_run : ∀ (f m pc : Nat) (ls st : List sV) (t : sT) (r : sRs) (t' : sT), sRun f m pc ls st t = some (r, t') → Zr t → Zr t' := by
  intro f
  induction f with
  | zero => intro m pc ls st t r t' h _; cases h
  | succ f ih =>
    intro m pc ls st t r t' h hz
    unfold sRun at h
    cases hb : (sCode m pc).bind (fun i => sAct i.1 i.2.1 i.2.2.1 i.2.2.2.1 i.2.2.2.2.1 i.2.2.2.2.2 pc (sRb m) ls st t) with
    | none => rw [hb] at h; cases h
    | some u =>
      rw [hb] at h
      obtain ⟨i, -, hi⟩ := Option.bind_eq_some_iff.mp hb
      obtain ⟨z1, z2⟩ := Zr_act hi hz
      cases u with
      | inl q =>
        obtain ⟨pc', ls', st', t1⟩ := q
        exact ih _ _ _ _ _ _ _ h (z1 _ rfl)
      | inr u =>
        cases u with
        | inr q => cases h; exact z2 _ rfl
        | inl q =>
          obtain ⟨g, args, rest⟩ := q
          have h : (match sRun f g 0 (sEn args (sML g)) [] t with
            | none => none
            | some (.inl r, t') => sRun f m (pc + 3) ls (r.toList ++ rest) t'
            | some (.inr E, t') => if (sIni g || Nat.beq m 297) = true then none else match sHnd m pc E with
              | some h => sRun f m h ls [.inr (.inr (31, some 0))] t'
              | none => some (.inr E, t')) = some (r, t') := h
          cases hc : sRun f g 0 (sEn args (sML g)) [] t with
          | none => rw [hc] at h; cases h
          | some w =>
            rw [hc] at h
            obtain ⟨r1, t1⟩ := w
            have hz1 := ih _ _ _ _ _ _ _ hc hz
            cases r1 with
            | inl v => exact ih _ _ _ _ _ _ _ h hz1
            | inr E =>
              have h : (if (sIni g || Nat.beq m 297) = true then none else match sHnd m pc E with
                | some h => sRun f m h ls [.inr (.inr (31, some 0))] t1
                | none => some (.inr E, t1)) = some (r, t') := h
              split at h
              · cases h
              · split at h
                · exact ih _ _ _ _ _ _ _ h hz1
                · cases h; exact hz1
/-- a run's end has it for nothing -/
theorem X_zr (hz : Zr t) (h : X m pc ls st t (fun r t' => Zr t' → Q r t')) : X m pc ls st t Q := by
  obtain ⟨f, r, t', h1, h2⟩ := h
  exact ⟨f, r, t', h1, h2 (Zr_run f _ _ _ _ _ _ _ h1 hz)⟩
theorem Zr_cp (h : cp t' = cp t) (hz : Zr t) : Zr t' := Zr_e (by rw [cpC h]) (by rw [cpN h]) (funext fun o => funext fun p => cpA h rfl) hz
end S93a
