/-! the class's methods (printed by clsgen.py) -/
section S48b
variable {t : sT} {M : sM} {n T b : Nat} {s : Bool}
theorem btr_tr {x y z : Nat} (h1 : btr M s x y) (h2 : btr M s y z) : btr M s x z := by
  rw [btr_iff] at h1 h2 ⊢
  cases s <;> simp only [if_true, if_false, Bool.false_eq_true] at h1 h2 ⊢ <;> split at h1 <;> split at h2 <;> split <;> omega
theorem btr_as {x y : Nat} (h1 : btr M s x y) (h2 : btr M s y x) : False := btr_irr x (btr_tr h1 h2)
theorem pw_tot {l : List Nat} (h : l.Pairwise (btr M s)) : ∀ x y, x ∈ l → y ∈ l → x = y ∨ btr M s x y ∨ btr M s y x := by
  induction l with
  | nil => intro x y hx; cases hx
  | cons a l ih =>
    rw [List.pairwise_cons] at h
    intro x y hx hy
    rcases List.mem_cons.mp hx with ex | hx2
    · rcases List.mem_cons.mp hy with ey | hy2
      · exact Or.inl (ex.trans ey.symm)
      · rw [ex]; exact Or.inr (Or.inl (h.1 y hy2))
    · rcases List.mem_cons.mp hy with ey | hy2
      · rw [ey]; exact Or.inr (Or.inr (h.1 x hx2))
      · exact ih h.2 x y hx2 hy2
def isr (M : sM) (b : Nat) (s : Bool) (k : Nat) : Bool := ((decide ((mA M 19 k) = 1)) && ((decide ((oB M k) = b)) && (!(xor (mB M 3 k) s))))
def btB (M : sM) (k f : Nat) : Bool := (bif (decide ((mA M 14 k) = (mA M 14 f))) then (decide ((mA M 18 k) < (mA M 18 f))) else (bif (mB M 3 k) then (decide ((mA M 14 f) < (mA M 14 k))) else (decide ((mA M 14 k) < (mA M 14 f)))))
theorem isr_iff {k : Nat} (hk : k < n) : isr M b s k = true ↔ rst M n b s k := by
  unfold isr rst
  simp only [Bool.and_eq_true, decide_eq_true_eq, Bool.not_eq_true', bne_eq_false_iff_eq]
  constructor
  · rintro ⟨h1, h2, h3⟩
    exact ⟨hk, h1, h2, h3⟩
  · rintro ⟨-, h1, h2, h3⟩
    exact ⟨h1, h2, h3⟩
theorem btB_iff {k f : Nat} (hs : mB M 3 k = s) : btB M k f = true ↔ btr M s k f := by
  unfold btB btr
  rw [hs]
  by_cases h : mA M 14 k = mA M 14 f
  · rw [decide_eq_true h, if_pos h]
    exact decide_eq_true_iff
  · rw [decide_eq_false h, if_neg h]
    cases s
    · rw [if_neg (by decide)]; exact decide_eq_true_iff
    · rw [if_pos rfl]; exact decide_eq_true_iff
theorem bsL_spec {l : List Nat} (hp : l.Pairwise (btr M s)) (hm : ∀ o, o ∈ l ↔ rst M n b s o) : ∀ k, k ≤ n → (bsL M n b s none k = none → ∀ j, j < k → ¬ rst M n b s j) ∧ ∀ f, bsL M n b s none k = some f → f < k ∧ rst M n b s f ∧ ∀ j, j < k → rst M n b s j → j = f ∨ btr M s f j
  | 0, _ => ⟨fun _ j hj => absurd hj (Nat.not_lt_zero j), fun f h => by cases h⟩
  | k + 1, hk => by
    have ih := bsL_spec hp hm k (by omega)
    have hkn : k < n := by omega
    have e : bsL M n b s none (k + 1) = (bif isr M b s k then (bif (bsL M n b s none k).isNone then (some k) else (bif btB M k (ovD (bsL M n b s none k)) then (some k) else (bsL M n b s none k))) else (bsL M n b s none k)) := rfl
    cases hi : isr M b s k with
    | false =>
      rw [show bsL M n b s none (k + 1) = bsL M n b s none k by rw [e, hi]; rfl]
      have hnr : ¬ rst M n b s k := fun h => by rw [(isr_iff hkn).mpr h] at hi; cases hi
      refine ⟨fun h j hj => ?_, fun f h => ?_⟩
      · by_cases e1 : j = k
        · rw [e1]; exact hnr
        · exact ih.1 h j (by omega)
      · obtain ⟨h1, h2, h3⟩ := ih.2 f h
        refine ⟨by omega, h2, fun j hj hr => ?_⟩
        by_cases e1 : j = k
        · rw [e1] at hr; exact absurd hr hnr
        · exact h3 j (by omega) hr
    | true =>
      have hr := (isr_iff hkn).mp hi
      cases hb : bsL M n b s none k with
      | none =>
        rw [show bsL M n b s none (k + 1) = some k by rw [e, hi, hb]; rfl]
        refine ⟨fun h => (by cases h), fun f h => ?_⟩
        cases h
        refine ⟨by omega, hr, fun j hj hj2 => ?_⟩
        by_cases e1 : j = k
        · exact Or.inl e1
        · exact absurd hj2 (ih.1 hb j (by omega))
      | some g =>
        obtain ⟨g1, g2, g3⟩ := ih.2 g hb
        rw [show bsL M n b s none (k + 1) = (bif btB M k g then some k else some g) by rw [e, hi, hb]; rfl]
        cases hB : btB M k g with
        | true =>
          have hbt := (btB_iff hr.2.2.2).mp hB
          refine ⟨fun h => (by cases h), fun f h => ?_⟩
          cases h
          refine ⟨by omega, hr, fun j hj hj2 => ?_⟩
          by_cases e1 : j = k
          · exact Or.inl e1
          · rcases g3 j (by omega) hj2 with h4 | h4
            · rw [h4]; exact Or.inr hbt
            · exact Or.inr (btr_tr hbt h4)
        | false =>
          have hbt : ¬ btr M s k g := fun h => by rw [(btB_iff hr.2.2.2).mpr h] at hB; cases hB
          refine ⟨fun h => (by cases h), fun f h => ?_⟩
          cases h
          refine ⟨by omega, g2, fun j hj hj2 => ?_⟩
          by_cases e1 : j = k
          · rw [e1]
            rcases pw_tot hp k g ((hm k).mpr hr) ((hm g).mpr g2) with h4 | h4 | h4
            · exact Or.inl h4
            · exact absurd h4 hbt
            · exact Or.inr h4
          · exact g3 j (by omega) hj2
theorem bsF_hd {l : List Nat} (hp : l.Pairwise (btr M s)) (hm : ∀ o, o ∈ l ↔ rst M n b s o) : bsF M n b s = l.head? := by
  have h := bsL_spec hp hm n (Nat.le_refl n)
  show bsL M n b s none n = _
  cases hb : bsL M n b s none n with
  | none =>
    cases l with
    | nil => rfl
    | cons x l =>
      have h1 := (hm x).mp List.mem_cons_self
      exact absurd h1 (h.1 hb x h1.1)
  | some f =>
    obtain ⟨h1, h2, h3⟩ := h.2 f hb
    cases l with
    | nil => exact absurd ((hm f).mpr h2) (by intro h; cases h)
    | cons x l =>
      have hx := (hm x).mp List.mem_cons_self
      show some f = some x
      rcases h3 x hx.1 hx with h4 | h4
      · rw [h4]
      · rcases List.mem_cons.mp ((hm f).mpr h2) with h5 | h5
        · rw [h5]
        · exact absurd ((List.pairwise_cons.mp hp).1 f h5) (fun h6 => btr_as h4 h6)
theorem bs_hd (hC : rlC t M n) (hb : b < 5) : hd t b s = bsF M n b s := by
  obtain ⟨l, h1, h2, h3⟩ := hC b s hb
  rw [bsF_hd h2 h3]
  exact Lk_hd h1
theorem bs_69 (hC : rlC t M n) (hR : Ri M n) (hM : Rl t M n T) (hb : b < 5) : sR t 69 b = bsF M n b true := bs_hd (s := true) hC hb
theorem bs_70 (hC : rlC t M n) (hR : Ri M n) (hM : Rl t M n T) (hb : b < 5) : sR t 70 b = bsF M n b false := bs_hd (s := false) hC hb
theorem ovD_s {r : Option Nat} {j : Nat} (h : r = some j) : r = some (ovD r) := by rw [h]; rfl
theorem ovD_lt {r : Option Nat} {j N : Nat} (hb : ∀ j, r = some j → j < N) (h : r = some j) : ovD r < N := by
  have := hb j h
  rw [h]; exact this
end S48b
