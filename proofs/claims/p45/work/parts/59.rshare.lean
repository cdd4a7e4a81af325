/-! the reference matches by shares -/
section S59
variable {t t' : sT} {M M' M0 : sM} {n T b c m o k x y K w : Nat} {p a d h : Int32} {s z : Bool} {L L' l : List Nat} {Q : sRs → sT → Prop}
/-- the reference's part of a store -/
def Vr (t : sT) (M : sM) (n : Nat) : Prop := rp t = M ∧ Cn t ∧ Ri M n
theorem Vr_mk (hV : Vr t M n) (h1 : rp t' = M') (h2 : cp t' = cp t) (f : Fr M' M) : Vr t' M' n := ⟨h1, Cn_cp h2 hV.2.1, f.ri hV.2.2⟩
theorem TkL_sp (h : sp t' = sp t) (hk : TkL t L) : TkL t' L := ⟨(sI_sp h).trans hk.1, fun i hi => (sA_sp h rfl).trans (hk.2 i hi)⟩
theorem am_sp (h : sp t' = sp t) : sA t' 21 28 k = sA t 21 28 k := sA_sp h rfl
/-! the level: all resting orders of a price, by stamps -/
def Lv (M : sM) (n b : Nat) (s : Bool) (p : Int32) (L : List Nat) : Prop := (∀ x, x ∈ L ↔ rst M n b s x ∧ mA M 14 x = p) ∧ L.Pairwise (fun x y => mA M 18 x < mA M 18 y)
def isl (M : sM) (b : Nat) (s : Bool) (p l : Int32) (k : Nat) : Bool := ((decide ((mA M 19 k) = 1)) && ((decide ((oB M k) = b)) && (!(xor (mB M 3 k) s) && ((decide ((mA M 14 k) = p)) && (decide (l < (mA M 18 k)))))))
theorem isl_iff {l : Int32} (hk : k < n) : isl M b s p l k = true ↔ (rst M n b s k ∧ mA M 14 k = p) ∧ l < mA M 18 k := by
  unfold isl rst
  simp only [Bool.and_eq_true, decide_eq_true_eq, Bool.not_eq_true', bne_eq_false_iff_eq]
  constructor
  · rintro ⟨h1, h2, h3, h4, h5⟩
    exact ⟨⟨⟨hk, h1, h2, h3⟩, h4⟩, h5⟩
  · rintro ⟨⟨⟨-, h1, h2, h3⟩, h4⟩, h5⟩
    exact ⟨h1, h2, h3, h4, h5⟩
theorem la_spec {l : Int32} {rest : List Nat} (hm : ∀ k, k < n → (isl M b s p l k = true ↔ k ∈ rest)) (hp : rest.Pairwise (fun x y => mA M 18 x < mA M 18 y)) : ∀ k, k ≤ n → (laL M n b s p l none k = none → ∀ j, j < k → ¬ j ∈ rest) ∧ ∀ f, laL M n b s p l none k = some f → f ∈ rest ∧ ∀ j, j < k → j ∈ rest → j = f ∨ mA M 18 f < mA M 18 j
  | 0, _ => ⟨fun _ j hj => absurd hj (Nat.not_lt_zero j), fun f h => by cases h⟩
  | k + 1, hk => by
    have ih := la_spec hm hp k (by omega)
    have hkn : k < n := by omega
    have e : laL M n b s p l none (k + 1) = (bif isl M b s p l k then (bif (laL M n b s p l none k).isNone then (some k) else (bif (decide ((mA M 18 k) < (mA M 18 (ovD (laL M n b s p l none k))))) then (some k) else (laL M n b s p l none k))) else (laL M n b s p l none k)) := rfl
    have tot : ∀ x y, x ∈ rest → y ∈ rest → x = y ∨ mA M 18 x < mA M 18 y ∨ mA M 18 y < mA M 18 x := by
      clear ih e
      intro x y hx hy
      clear hm
      induction rest with
      | nil => cases hx
      | cons a r ih =>
        rw [List.pairwise_cons] at hp
        rcases List.mem_cons.mp hx with e1 | h1
        · rcases List.mem_cons.mp hy with e2 | h2
          · exact Or.inl (e1.trans e2.symm)
          · rw [e1]; exact Or.inr (Or.inl (hp.1 y h2))
        · rcases List.mem_cons.mp hy with e2 | h2
          · rw [e2]; exact Or.inr (Or.inr (hp.1 x h1))
          · exact ih hp.2 h1 h2
    cases hi : isl M b s p l k with
    | false =>
      rw [show laL M n b s p l none (k + 1) = laL M n b s p l none k by rw [e, hi]; rfl]
      have hnr : ¬ k ∈ rest := fun h => by rw [(hm k hkn).mpr h] at hi; cases hi
      refine ⟨fun h j hj => ?_, fun f h => ?_⟩
      · by_cases e1 : j = k
        · rw [e1]; exact hnr
        · exact ih.1 h j (by omega)
      · obtain ⟨h2, h3⟩ := ih.2 f h
        refine ⟨h2, fun j hj hr => ?_⟩
        by_cases e1 : j = k
        · rw [e1] at hr; exact absurd hr hnr
        · exact h3 j (by omega) hr
    | true =>
      have hr := (hm k hkn).mp hi
      cases hb : laL M n b s p l none k with
      | none =>
        rw [show laL M n b s p l none (k + 1) = some k by rw [e, hi, hb]; rfl]
        refine ⟨fun h => (by cases h), fun f h => ?_⟩
        cases h
        refine ⟨hr, fun j hj hj2 => ?_⟩
        by_cases e1 : j = k
        · exact Or.inl e1
        · exact absurd hj2 (ih.1 hb j (by omega))
      | some g =>
        obtain ⟨g2, g3⟩ := ih.2 g hb
        rw [show laL M n b s p l none (k + 1) = (bif decide (mA M 18 k < mA M 18 g) then some k else some g) by rw [e, hi, hb]; rfl]
        by_cases hB : mA M 18 k < mA M 18 g
        · rw [decide_eq_true hB]
          refine ⟨fun h => (by cases h), fun f h => ?_⟩
          cases h
          refine ⟨hr, fun j hj hj2 => ?_⟩
          by_cases e1 : j = k
          · exact Or.inl e1
          · rcases g3 j (by omega) hj2 with h4 | h4
            · rw [h4]; exact Or.inr hB
            · exact Or.inr (Int32.lt_trans hB h4)
        · rw [decide_eq_false hB]
          refine ⟨fun h => (by cases h), fun f h => ?_⟩
          cases h
          refine ⟨g2, fun j hj hj2 => ?_⟩
          by_cases e1 : j = k
          · rw [e1]
            rcases tot k g hr g2 with h4 | h4 | h4
            · exact Or.inl h4
            · exact absurd h4 hB
            · exact Or.inr h4
          · exact g3 j (by omega) hj2
theorem la_hd {l : Int32} {rest : List Nat} (hm : ∀ k, k < n → (isl M b s p l k = true ↔ k ∈ rest)) (hn : ∀ x, x ∈ rest → x < n) (hp : rest.Pairwise (fun x y => mA M 18 x < mA M 18 y)) : laL M n b s p l none n = rest.head? := by
  have h := la_spec hm hp n (Nat.le_refl n)
  cases hb : laL M n b s p l none n with
  | none =>
    cases rest with
    | nil => rfl
    | cons x r => exact absurd List.mem_cons_self (h.1 hb x (hn x List.mem_cons_self))
  | some f =>
    obtain ⟨h2, h3⟩ := h.2 f hb
    cases rest with
    | nil => cases h2
    | cons x r =>
      show some f = some x
      rcases h3 x (hn x List.mem_cons_self) List.mem_cons_self with h4 | h4
      · rw [h4]
      · rcases List.mem_cons.mp h2 with h5 | h5
        · rw [h5]
        · have h6 := (List.pairwise_cons.mp hp).1 f h5
          rw [Int32.lt_iff_toInt_lt] at h4 h6
          omega
end S59
