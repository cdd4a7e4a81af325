/-! runs of the small machine: they only add; more fuel changes nothing; a method's first locals -/
theorem sExt.same {t t' : sT} (h1 : sC t' = sC t) (h2 : sG t' = sG t) (h3 : sn t' = sn t) (h4 : sw t' = sw t) : sExt t t' :=
  ⟨fun k => by rw [h1]; exact Nat.le_refl _, fun k i _ => by rw [h2], by rw [h3]; exact Nat.le_refl _, by rw [h4]; exact Nat.le_refl _⟩
theorem sPut_ext {t t' : sT} {a b c o : Nat} {w : sV} (h : sPut t a b c o w = some t') : sExt t t' := by
  unfold sPut at h
  split at h
  · cases h; exact .same rfl rfl rfl rfl
  · split at h
    · cases h; exact .same rfl rfl rfl rfl
    · cases h
  · split at h
    · cases h; exact .same rfl rfl rfl rfl
    · cases h
  · cases h
theorem sCpy_ext {t : sT} {i n : Nat} : sExt t (sCpy t i n) := ⟨fun k => sU1_le k, fun k j hj => by
  show sU2 (sG t) 27 (sC t 27) (sn t) k j = sG t k j
  rw [sU2_n]
  rintro ⟨rfl, rfl⟩; omega, Nat.le_succ _, Nat.le_add_right _ _⟩
set_option maxHeartbeats 4000000 in
theorem sStp_ext {x : Instr} {n a b c : Nat} {v : Int32} {pc pc' : Nat} {ls st ls' st' : List sV} {t t' : sT} (h : sStp x n a b c v pc ls st t = some (pc', ls', st', t')) : sExt t t' := by
  unfold sStp at h
  split at h
  all_goals first
    | (cases h; exact .rfl)
    | (cases h; done)
    | (split at h <;> first
        | (cases h; exact .rfl)
        | (cases h; exact .same rfl rfl rfl rfl)
        | (cases h; exact sNew_ext)
        | (cases h; exact sNwA_ext)
        | (cases h; done)
        | (obtain ⟨t1, e1, e2⟩ := Option.map_eq_some_iff.mp h; cases e2; exact sPut_ext e1)
        | (split at h <;> first | (cases h; exact .rfl) | (cases h; done)))
theorem sThr_ext {t : sT} : sExt t (sThr t) := ⟨fun _ => Nat.le_refl _, fun _ _ _ => rfl, Nat.le_succ _, Nat.le_add_right _ _⟩
theorem sCall_ext {a b c pc n : Nat} {ls st : List sV} {t : sT} {pc' : Nat} {ls' st' : List sV} {t' : sT} (h : sCall a b c pc n ls st t = some (.inl (pc', ls', st', t'))) : sExt t t' := by
  unfold sCall at h
  split at h
  · split at h
    · split at h <;> cases h
    · split at h
      · split at h <;> cases h
      · cases h
    · split at h
      · split at h
        · cases h; exact .rfl
        · cases h
      · cases h
    · split at h
      · split at h
        · cases h; exact sCpy_ext
        · cases h
      · cases h
    · split at h
      · cases h; exact .rfl
      · cases h
    · split at h
      · cases h; exact .rfl
      · cases h
    · split at h
      · cases h; exact .rfl
      · cases h
    · split at h
      · cases h; exact .rfl
      · cases h
    · cases h
  · cases h
theorem sAct_ext {x : Instr} {n a b c : Nat} {v : Int32} {pc : Nat} {rb : Bool} {ls st : List sV} {t : sT} {pc' : Nat} {ls' st' : List sV} {t' : sT} (h : sAct x n a b c v pc rb ls st t = some (.inl (pc', ls', st', t'))) : sExt t t' := by
  unfold sAct at h
  split at h
  · exact sCall_ext h
  · exact sCall_ext h
  · exact sCall_ext h
  · split at h
    · split at h <;> cases h
    · cases h
  · split at h <;> cases h
  · split at h
    · split at h <;> cases h
    · cases h
  · split at h <;> cases h
  · split at h
    · split at h <;> cases h
    · obtain ⟨t1, e1, e2⟩ := Option.map_eq_some_iff.mp h
      cases e2
      exact sStp_ext e1
  · obtain ⟨t1, e1, e2⟩ := Option.map_eq_some_iff.mp h
    cases e2
    exact sStp_ext e1
theorem sAct_extE {x : Instr} {n a b c : Nat} {v : Int32} {pc : Nat} {rb : Bool} {ls st : List sV} {t : sT} {rt : sRs × sT} (h : sAct x n a b c v pc rb ls st t = some (.inr (.inr rt))) : sExt t rt.2 := by
  unfold sAct at h
  have hc : ∀ {a b c pc n : Nat} {ls st : List sV}, ¬ sCall a b c pc n ls st t = some (.inr (.inr rt)) := by
    intro a b c pc n ls st h
    unfold sCall at h
    split at h
    · split at h
      · split at h <;> cases h
      · split at h
        · split at h <;> cases h
        · cases h
      · split at h
        · split at h <;> cases h
        · cases h
      · split at h
        · split at h <;> cases h
        · cases h
      · split at h <;> cases h
      · split at h <;> cases h
      · split at h <;> cases h
      · split at h <;> cases h
      · cases h
    · cases h
  split at h
  · exact (hc h).elim
  · exact (hc h).elim
  · exact (hc h).elim
  · split at h
    · split at h
      · cases h; exact .rfl
      · cases h
    · cases h
  · split at h
    · cases h; exact .rfl
    · cases h
  · split at h
    · split at h
      · cases h
      · cases h; exact .rfl
    · cases h
  · split at h
    · cases h; exact .rfl
    · cases h
  · split at h
    · split at h
      · cases h; exact sThr_ext
      · cases h
    · obtain ⟨t1, e1, e2⟩ := Option.map_eq_some_iff.mp h
      cases e2
  · obtain ⟨t1, e1, e2⟩ := Option.map_eq_some_iff.mp h
    cases e2
theorem sRun_ext : ∀ (f m pc : Nat) (ls st : List sV) (t : sT) (r : sRs) (t' : sT), sRun f m pc ls st t = some (r, t') → sExt t t' := by
  intro f
  induction f with
  | zero => intro m pc ls st t r t' h; cases h
  | succ f ih =>
    intro m pc ls st t r t' h
    unfold sRun at h
    split at h
    · cases h
    · next pc1 ls1 st1 t1 h1 =>
      obtain ⟨i, -, h2⟩ := Option.bind_eq_some_iff.mp h1
      exact (sAct_ext h2).trans (ih _ _ _ _ _ _ _ h)
    · next g as rest h1 =>
      split at h
      · cases h
      · next r1 t1 h2 => exact (ih _ _ _ _ _ _ _ h2).trans (ih _ _ _ _ _ _ _ h)
      · next E t1 h2 =>
        split at h
        · cases h
        · split at h
          · exact (ih _ _ _ _ _ _ _ h2).trans (ih _ _ _ _ _ _ _ h)
          · cases h; exact ih _ _ _ _ _ _ _ h2
    · next rt h1 =>
      obtain ⟨i, -, h2⟩ := Option.bind_eq_some_iff.mp h1
      cases h
      exact sAct_extE h2
theorem sRun_mono : ∀ (f m pc : Nat) (ls st : List sV) (t : sT) (r : sRs × sT), sRun f m pc ls st t = some r → sRun (f + 1) m pc ls st t = some r := by
  intro f
  induction f with
  | zero => intro m pc ls st t r h; cases h
  | succ f ih =>
    intro m pc ls st t r h
    unfold sRun at h ⊢
    split at h
    · cases h
    · next pc1 ls1 st1 t1 h1 => exact ih _ _ _ _ _ _ h
    · next g as rest h1 =>
      split at h
      · cases h
      · next r1 t1 h2 =>
        rw [ih _ _ _ _ _ _ h2]
        exact ih _ _ _ _ _ _ h
      · next E t1 h2 =>
        rw [ih _ _ _ _ _ _ h2]
        split at h
        · cases h
        · next hi =>
          dsimp only
          rw [if_neg hi]
          split at h
          · next h' e => exact ih _ _ _ _ _ _ h
          · next e => exact h
    · next rt h1 => exact h
theorem sRun_le {f g m pc : Nat} {ls st : List sV} {t : sT} {r : sRs × sT} (h : sRun f m pc ls st t = some r) (hfg : f ≤ g) : sRun g m pc ls st t = some r := by
  induction hfg with
  | refl => exact h
  | step _ ih => exact sRun_mono _ _ _ _ _ _ _ ih
theorem sArgs_in {γ : Nat → Nat → Nat} : ∀ (as : List sV) (k i : Nat) (x : sV), (∀ y ∈ as, ¬ sJ y) → (sEx as)[i]? = some x → ¬ sJ x → (k + i, sTr γ x) ∈ lv_args k (as.map (sTr γ)) ∧ x ∈ as := by
  intro as
  induction as with
  | nil => intro k i x _ h _; cases h
  | cons y as ih =>
    intro k i x hj h hx
    have hj' : ∀ z ∈ as, ¬ sJ z := fun z hz => hj z (List.mem_cons_of_mem _ hz)
    match y, hj, h with
    | .inr (.inl q), hj, h =>
      show _ ∈ (k, Value.long q) :: lv_args (k + 2) (as.map (sTr γ)) ∧ _
      match i, h with
      | 0, h => cases h; exact ⟨List.mem_cons_self, List.mem_cons_self⟩
      | 1, h => cases h; exact (hx rfl).elim
      | i + 2, h =>
        have := ih (k + 2) i x hj' h hx
        rw [show k + (i + 2) = k + 2 + i by omega]
        exact ⟨List.mem_cons_of_mem _ this.1, List.mem_cons_of_mem _ this.2⟩
    | .inl q, hj, h =>
      show _ ∈ (k, Value.int q) :: lv_args (k + 1) (as.map (sTr γ)) ∧ _
      match i, h with
      | 0, h => cases h; exact ⟨List.mem_cons_self, List.mem_cons_self⟩
      | i + 1, h =>
        have := ih (k + 1) i x hj' h hx
        rw [show k + (i + 1) = k + 1 + i by omega]
        exact ⟨List.mem_cons_of_mem _ this.1, List.mem_cons_of_mem _ this.2⟩
    | .inr (.inr (q, r)), hj, h =>
      have e : lv_args k ((Sum.inr (Sum.inr (q, r)) :: as : List sV).map (sTr γ)) = (k, va_rf (r.map (γ q))) :: lv_args (k + 1) (as.map (sTr γ)) := by
        cases r <;> rfl
      rw [e]
      match i, h with
      | 0, h => cases h; exact ⟨List.mem_cons_self, List.mem_cons_self⟩
      | i + 1, h =>
        have := ih (k + 1) i x hj' h hx
        rw [show k + (i + 1) = k + 1 + i by omega]
        exact ⟨List.mem_cons_of_mem _ this.1, List.mem_cons_of_mem _ this.2⟩
theorem sEn_lr {γ : Nat → Nat → Nat} {t : sT} {as : List sV} {n : Nat} {arr : Array Slot} (hj : ∀ y ∈ as, ¬ sJ y ∧ sOkV t y) (hn : (sEx as).length ≤ n) (h : lv_has arr n (lv_args 0 (as.map (sTr γ)))) : sLr γ t (sEn as n) arr := by
  refine ⟨by unfold sEn; rw [List.length_append, List.length_replicate, h.1]; omega, h.2.1, fun i x hi hx => ?_⟩
  unfold sEn at hi
  rw [List.getElem?_append] at hi
  split at hi
  · obtain ⟨h1, h2⟩ := sArgs_in (γ := γ) as 0 i x (fun y hy => (hj y hy).1) hi hx
    rw [Nat.zero_add] at h1
    exact ⟨_, h.2.2 _ h1, .mkT (hj x h2).2⟩
  · rw [List.getElem?_replicate] at hi
    split at hi
    · cases hi; exact (hx rfl).elim
    · cases hi
