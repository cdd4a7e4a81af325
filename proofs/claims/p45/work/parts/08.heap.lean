/-! the heap's rows: what a store, a new object, a new array do to the relation -/
theorem sU2_s {α : Type} (m : Nat → Nat → α) (f o : Nat) (v : α) : sU2 m f o v f o = v := by simp [sU2]
theorem sU2_n {α : Type} (m : Nat → Nat → α) (f o f' o' : Nat) (v : α) (h : ¬ (f' = f ∧ o' = o)) : sU2 m f o v f' o' = m f' o' := by simp [sU2, h]
theorem sU3_n {α : Type} (m : Nat → Nat → Nat → α) (f o q f' o' q' : Nat) (v : α) (h : ¬ (f' = f ∧ o' = o ∧ q' = q)) : sU3 m f o q v f' o' q' = m f' o' q' := by simp [sU3, h]
section S8
variable {D : va_G} {s0 : State} {γ : Nat → Nat → Nat} {t t' : sT} {H H' : Heap}
theorem sRep.lt (h : sRep D s0 γ t H) {k i : Nat} (hv : sVd t k i) : γ k i < H.size := by
  rcases hv.1 with hk | ⟨h1, h2⟩
  · obtain ⟨cell, q, -⟩ := h.2.2.1 k i hk hv.2
    exact (Array.getElem?_eq_some_iff.mp q).1
  · obtain ⟨cell, q, -⟩ := h.2.2.2.1 k i h1 h2 hv.2
    exact (Array.getElem?_eq_some_iff.mp q).1
/-- one cell has changed, an object's -/
theorem sRep.putO (h : sRep D s0 γ t H) {k o : Nat} (hk : k < 14) (ho : o < sC t k) (hc : sC t' = sC t) (hn : sn t' = sn t) (hN : sN t' = sN t) (hE : ∀ a b c, sEl t' a b c = sEl t a b c)
    (hz : H'.size = H.size) (hq : ∀ q, q ≠ γ k o → H'[q]? = H[q]?) (hob : t_OB (γ k o) (D.1 k) (sNf k) (D.2 k) H' (fun j => sFv γ t' (64 * k + j) o))
    (hF : ∀ a b, ¬ (a / 64 = k ∧ b = o) → sFv γ t' a b = sFv γ t a b) (hw : sWf t') (hf : ∀ a, a < 14 → sNf a ≤ 64) : sRep D s0 γ t' H' := by
  have hvo : sVd t k o := ⟨Or.inl hk, ho⟩
  have hon : sOwn k o := ⟨by omega, fun q => by omega⟩
  have hown : s0.heap.size ≤ γ k o := h.2.2.2.2.2.1 k o hvo hon
  refine ⟨by rw [hz, hn]; exact h.1, fun q hlt => by rw [hq q (by omega)]; exact h.2.1 q hlt, fun k1 i1 hk1 hi1 => ?_, fun k1 i1 h20 h30 hi1 => ?_, fun k1 i1 k2 i2 h1 h2 h12 => ?_, fun k1 i1 h1 h2 => ?_, hw⟩
  · rw [hc] at hi1
    by_cases e : k1 = k ∧ i1 = o
    · obtain ⟨rfl, rfl⟩ := e; exact hob
    · have hne : γ k1 i1 ≠ γ k o := fun q => e (by have := h.2.2.2.2.1 k o k1 i1 hvo ⟨Or.inl hk1, hi1⟩ hon q.symm; exact ⟨this.1.symm, this.2.symm⟩)
      refine ((h.2.2.1 k1 i1 hk1 hi1).kept (hq _ hne)).to fun j hj => (hF _ _ fun q => e ⟨?_, q.2⟩).symm
      have := hf k1 hk1
      omega
  · rw [hc] at hi1
    have hne : γ k1 i1 ≠ γ k o := fun q => by
      have := (h.2.2.2.2.1 k o k1 i1 hvo ⟨Or.inr ⟨h20, h30⟩, hi1⟩ hon q.symm).1
      omega
    obtain ⟨cell, c1, c2, c3, c4, c5, c6⟩ := h.2.2.2.1 k1 i1 h20 h30 hi1
    refine ⟨cell, by rw [hq _ hne]; exact c1, c2, c3, by rw [hN]; exact c4, fun p hp => ?_, fun a b d => c6 a b (by rw [hN] at d; exact d)⟩
    rw [hN] at hp
    rw [c5 p hp]
    unfold sEv
    rw [hE]
  · have h1' : sVd t k1 i1 := ⟨h1.1, by rw [← hc]; exact h1.2⟩
    have h2' : sVd t k2 i2 := ⟨h2.1, by rw [← hc]; exact h2.2⟩
    exact h.2.2.2.2.1 k1 i1 k2 i2 h1' h2' h12
  · exact h.2.2.2.2.2.1 k1 i1 ⟨h1.1, by rw [← hc]; exact h1.2⟩ h2
/-- one cell has changed, an array's -/
theorem sRep.putA (h : sRep D s0 γ t H) {k o : Nat} (hk : 20 ≤ k ∧ k < 28) (ho : o < sC t k) (hk27 : k = 27 → 1 ≤ o) (hc : sC t' = sC t) (hn : sn t' = sn t) (hN : sN t' = sN t) (hF : ∀ a b, sFv γ t' a b = sFv γ t a b)
    (hz : H'.size = H.size) (hq : ∀ q, q ≠ γ k o → H'[q]? = H[q]?) (hob : sArr s0 γ t' H' k o)
    (hE : ∀ a b c, ¬ (a = k ∧ b = o) → sEl t' a b c = sEl t a b c) (hw : sWf t') : sRep D s0 γ t' H' := by
  have hvo : sVd t k o := ⟨Or.inr ⟨hk.1, by omega⟩, ho⟩
  have hon : sOwn k o := ⟨by omega, hk27⟩
  have hown : s0.heap.size ≤ γ k o := h.2.2.2.2.2.1 k o hvo hon
  refine ⟨by rw [hz, hn]; exact h.1, fun q hlt => by rw [hq q (by omega)]; exact h.2.1 q hlt, fun k1 i1 hk1 hi1 => ?_, fun k1 i1 h20 h30 hi1 => ?_, fun k1 i1 k2 i2 h1 h2 h12 => ?_, fun k1 i1 h1 h2 => ?_, hw⟩
  · rw [hc] at hi1
    have hne : γ k1 i1 ≠ γ k o := fun q => by
      have := (h.2.2.2.2.1 k o k1 i1 hvo ⟨Or.inl hk1, hi1⟩ hon q.symm).1
      omega
    exact ((h.2.2.1 k1 i1 hk1 hi1).kept (hq _ hne)).to fun j hj => (hF _ _).symm
  · rw [hc] at hi1
    by_cases e : k1 = k ∧ i1 = o
    · obtain ⟨rfl, rfl⟩ := e; exact hob
    · have hne : γ k1 i1 ≠ γ k o := fun q => e (by have := h.2.2.2.2.1 k o k1 i1 hvo ⟨Or.inr ⟨h20, h30⟩, hi1⟩ hon q.symm; exact ⟨this.1.symm, this.2.symm⟩)
      obtain ⟨cell, c1, c2, c3, c4, c5, c6⟩ := h.2.2.2.1 k1 i1 h20 h30 hi1
      refine ⟨cell, by rw [hq _ hne]; exact c1, c2, c3, by rw [hN]; exact c4, fun p hp => ?_, fun a b d => c6 a b (by rw [hN] at d; exact d)⟩
      rw [hN] at hp
      rw [c5 p hp]
      unfold sEv
      rw [hE _ _ _ e]
  · have h1' : sVd t k1 i1 := ⟨h1.1, by rw [← hc]; exact h1.2⟩
    have h2' : sVd t k2 i2 := ⟨h2.1, by rw [← hc]; exact h2.2⟩
    exact h.2.2.2.2.1 k1 i1 k2 i2 h1' h2' h12
  · exact h.2.2.2.2.2.1 k1 i1 ⟨h1.1, by rw [← hc]; exact h1.2⟩ h2
/-- one cell more, of the kind k (or of none: k = 31) -/
theorem sRep.push (h : sRep D s0 γ t H) {k : Nat} (hk : k < 14 ∨ (20 ≤ k ∧ k < 28) ∨ (k = 31 ∧ sC t' = sC t)) (hc : ∀ k1, sC t' k1 = if k1 = k ∧ ¬ k = 31 then sC t k + 1 else sC t k1) (hn : sn t' = sn t + 1)
    (hN : ∀ k1 i, ¬ (k1 = k ∧ i = sC t k) → sN t' k1 i = sN t k1 i) (hF : ∀ a b, b < sC t (a / 64) → sFv γ t' a b = sFv γ t a b) (hE : ∀ a b c, ¬ (a = k ∧ b = sC t k) → sEl t' a b c = sEl t a b c)
    (hz : H'.size = H.size + 1) (hq : ∀ q, q < H.size → H'[q]? = H[q]?) (hg : ¬ k = 31 → γ k (sC t k) = H.size) 
    (hO : k < 14 → t_OB H.size (D.1 k) (sNf k) (D.2 k) H' (fun j => sFv γ t' (64 * k + j) (sC t k))) (hA : 20 ≤ k → k < 28 → sArr s0 γ t' H' k (sC t k)) (hf : ∀ a, a < 14 → sNf a ≤ 64)
    (hw : sWf t') : sRep D s0 γ t' H' := by
  have hold : ∀ {k1 i1}, sVd t' k1 i1 → ¬ (k1 = k ∧ i1 = sC t k ∧ ¬ k = 31) → sVd t k1 i1 := by
    intro k1 i1 hv hne
    refine ⟨hv.1, ?_⟩
    have h2 := hv.2
    rw [hc] at h2
    split at h2
    · next e => rcases e with ⟨rfl, e2⟩; have : ¬ i1 = sC t k1 := fun q => hne ⟨rfl, q, e2⟩; omega
    · exact h2
  refine ⟨by rw [hz, hn, h.1]; omega, fun q hlt => by rw [hq q (by rw [h.1]; omega)]; exact h.2.1 q hlt, fun k1 i1 hk1 hi1 => ?_, fun k1 i1 h20 h30 hi1 => ?_, fun k1 i1 k2 i2 h1 h2 h12 => ?_, fun k1 i1 h1 h2 => ?_, hw⟩
  · by_cases e : k1 = k ∧ i1 = sC t k ∧ ¬ k = 31
    · obtain ⟨rfl, rfl, e3⟩ := e; rw [hg e3]; exact hO hk1
    · have hv := hold (k1 := k1) (i1 := i1) ⟨Or.inl hk1, hi1⟩ e
      refine ((h.2.2.1 k1 i1 hk1 hv.2).kept (hq _ (h.lt hv))).to fun j hj => (hF _ _ ?_).symm
      have := hf k1 hk1
      rw [show (64 * k1 + j) / 64 = k1 by omega]
      exact hv.2
  · by_cases e : k1 = k ∧ i1 = sC t k ∧ ¬ k = 31
    · obtain ⟨rfl, rfl, e3⟩ := e
      exact hA h20 (by omega)
    · have hv := hold (k1 := k1) (i1 := i1) ⟨Or.inr ⟨h20, h30⟩, hi1⟩ e
      have e' : ¬ (k1 = k ∧ i1 = sC t k) := fun q => e ⟨q.1, q.2, by omega⟩
      obtain ⟨cell, c1, c2, c3, c4, c5, c6⟩ := h.2.2.2.1 k1 i1 h20 h30 hv.2
      refine ⟨cell, by rw [hq _ (h.lt hv)]; exact c1, c2, c3, by rw [hN _ _ e']; exact c4, fun p hp => ?_, fun a b d => c6 a b (by rw [hN _ _ e'] at d; exact d)⟩
      rw [hN _ _ e'] at hp
      rw [c5 p hp]
      unfold sEv
      rw [hE _ _ _ e']
  · intro he
    by_cases e1 : k1 = k ∧ i1 = sC t k ∧ ¬ k = 31
    · by_cases e2 : k2 = k ∧ i2 = sC t k ∧ ¬ k = 31
      · exact ⟨e1.1.trans e2.1.symm, e1.2.1.trans e2.2.1.symm⟩
      · have hl := h.lt (hold h2 e2)
        rw [← he, e1.1, e1.2.1, hg e1.2.2] at hl
        omega
    · by_cases e2 : k2 = k ∧ i2 = sC t k ∧ ¬ k = 31
      · have hl := h.lt (hold h1 e1)
        rw [he, e2.1, e2.2.1, hg e2.2.2] at hl
        omega
      · exact h.2.2.2.2.1 k1 i1 k2 i2 (hold h1 e1) (hold h2 e2) h12 he
  · by_cases e1 : k1 = k ∧ i1 = sC t k ∧ ¬ k = 31
    · rw [e1.1, e1.2.1, hg e1.2.2, h.1]; omega
    · exact h.2.2.2.2.2.1 k1 i1 (hold h1 e1) h2
end S8
