/-! stores of references in arrays; statics; returns -/
section S12
variable {p : Program} {l : Launch} {e : Env} {R : Room} {s : State} {m : MethodId} {args : Array Value} {below : List Frame} {meth : Method} {c : Code} {Q : State → Prop} {D : va_G} {s0 : State} {γ : Nat → Nat → Nat} {n0 w0 : Nat}
variable {cc : ByteArray} {pc : Nat} {ls st : List sV} {t : sT}
theorem sElk_at {k : Nat} (h : 24 ≤ k ∧ k < 27) : ∃ q : vw_C, sCl[sElk k]? = some q ∧ sAt k = .object q.1 ∧ sElk k < 14 := by
  have h3 : k = 24 ∨ k = 25 ∨ k = 26 := by omega
  rcases h3 with h | h | h <;> subst h
  · exact ⟨_, rfl, rfl, by decide⟩
  · exact ⟨_, rfl, rfl, by decide⟩
  · exact ⟨_, rfl, rfl, by decide⟩
theorem s_aast {k o k' : Nat} {r : Option Nat} {j : Int32} (hx : p.tables.exec = Jvm.exec) (hb : c.code = cc) (hal : s0.vm.Alike s.vm) (hK : va_K D sCl [] s) (hk : (24 ≤ k ∧ k < 27 ∧ k' = sElk k) ∨ (k = 27 ∧ k' < 14)) (hin : sIn j (sN t k o) = true)
    (hcast : ∀ q : vw_C, sCl[k']? = some q → (Cond.castable q.1 "java/lang/Object").before args s = true) (hd : decode cc pc = .ok (.aastore, 1))
    (kk : sOk p l e R s m args below meth c Q D s0 γ n0 w0 (sEw t k o j.toNatClampNeg (k', r)) (pc + 1) ls st) : sOk p l e R s m args below meth c Q D s0 γ n0 w0 t pc ls (.inr (.inr (k', r)) :: .inl j :: .inr (.inr (k, some o)) :: st) := by
  intro H locs arr mst hR hL hl hs hz
  obtain ⟨v0, vs9, rfl, q8, q7⟩ := hs.cons
  obtain ⟨v, vs0, rfl, q0, q9⟩ := q7.cons
  obtain ⟨v2, vs, rfl, q1, q2⟩ := q9.cons
  have hk14 : k' < 14 := by
    rcases hk with ⟨h1, h2, h3⟩ | h
    · rw [h3]; exact (sElk_at ⟨h1, h2⟩).choose_spec.2.2
    · exact h.2
  have hk2 : 24 ≤ k ∧ k < 28 := by omega
  obtain ⟨e1, v1⟩ := q1.r (by omega)
  obtain ⟨e3, v3⟩ := q8.r (by omega)
  subst e1 e3
  rw [q0.i]
  have ho := v1 o rfl
  obtain ⟨cell, c1, c2, c3, c4, c5, c6⟩ := hR.2.2.2.1 k o (by omega) (by omega) ho
  obtain ⟨h1, h2⟩ := sIn_in hin
  obtain ⟨d1, kA, comp, C, d2, d3, d4, d5, -⟩ := c6 hk2.1 hk2.2 (by omega)
  have hw := hR.2.2.2.2.2.2
  obtain ⟨kS, hkS, he⟩ := hal.2.2 _ _ d3
  have d4' : kS.kind = .array comp (.object C) := by rw [he]; exact d4
  have d5' : s.vm.findClass C = some comp := by rw [hal.findClass]; exact d5
  have hwf : sWf (sEw t k o j.toNatClampNeg (k', r)) := by
    refine ⟨hw.1, fun a b q i hi => ?_, hw.2.2.1, fun a b hlt q => ⟨(hw.2.2.2.1 a b hlt q).1, (hw.2.2.2.1 a b hlt q).2.1, ?_, (hw.2.2.2.1 a b hlt q).2.2.2⟩, hw.2.2.2.2⟩
    · by_cases z : a = k ∧ b = o ∧ q = j.toNatClampNeg
      · have e : sE (sEw t k o j.toNatClampNeg (k', r)) a b q = (k', r) := by
          show sU3 (sE t) k o j.toNatClampNeg (k', r) a b q = _
          unfold sU3; rw [if_pos z]
        rw [e] at hi ⊢
        exact ⟨v3 i hi, hk14⟩
      · have e : sE (sEw t k o j.toNatClampNeg (k', r)) a b q = sE t a b q := by
          show sU3 (sE t) k o j.toNatClampNeg (k', r) a b q = _
          rw [sU3_n _ _ _ _ _ _ _ _ z]
        rw [e] at hi ⊢
        exact hw.2.1 a b q i hi
    · show (sU3 (sE t) k o j.toNatClampNeg (k', r) a b q).2 = none
      rw [sU3_n]
      · exact (hw.2.2.2.1 a b hlt q).2.2.1
      · rintro ⟨rfl, rfl, -⟩; exact absurd ho (Nat.not_lt.mpr hlt)
  have hEs : ∀ a b q, ¬ (a = k ∧ b = o ∧ q = j.toNatClampNeg) → sEl (sEw t k o j.toNatClampNeg (k', r)) a b q = sEl t a b q := fun a b q hne => by rw [sEl_E hk2, if_neg hne]
  have hEv : sEv γ (sEw t k o j.toNatClampNeg (k', r)) k o j.toNatClampNeg = va_rf (r.map (γ k')) := by unfold sEv; rw [sEl_E hk2, if_pos ⟨rfl, rfl, rfl⟩]; rfl
  cases r with
  | none =>
    refine va_WaastN (C := C) hx hb c1 (by rw [← d2]; exact State.isArrayOf_alike hal c2) c3 (sSz h1 c4) rfl rfl hd fun H' g1 g2 g3 => ?_
    exact s_ast hR hL hl q2 hz (t' := sEw t k o j.toNatClampNeg (k', none)) (by omega) ho h2 rfl rfl rfl rfl rfl (fun _ _ => rfl) hEs hEv hwf c1 c2 c3 c4 c5 c6 kk g1 g2 g3
  | some i =>
    obtain ⟨cv, g1, g2, g3, -⟩ := hR.2.2.1 k' i hk14 (v3 i rfl)
    obtain ⟨qc, hqc⟩ : ∃ qc, sCl[k']? = some qc := ⟨sCl[k']'(by exact hk14), List.getElem?_eq_getElem (by exact hk14)⟩
    have hcl := (hK.1 k' qc hqc).2
    obtain ⟨kC, hkC, -⟩ := hcl.2
    obtain ⟨kcomp, hkcomp, -⟩ := Vm.findClass_spec d5'
    have hinst : s.vm.assignable cv.cls comp = true := by
      rw [g2]
      rcases hk with ⟨z1, z2, z3⟩ | ⟨z1, -⟩
      · obtain ⟨qq, y1, y2, -⟩ := sElk_at ⟨z1, z2⟩
        rw [← z3, hqc] at y1
        cases y1
        rw [y2] at d2
        have : comp = D.1 k' := Option.some.inj (d5'.symm.trans (by rw [← FieldType.object.inj d2]; exact hcl.1))
        rw [this]
        exact va_assign hcl
      · obtain ⟨x1, x2, y1, y2, y3⟩ := Cond.castable_spec (hcast qc hqc)
        have e1 : x1 = D.1 k' := Option.some.inj (y1.symm.trans hcl.1)
        subst z1
        have e0 : C = "java/lang/Object" := (FieldType.object.inj d2).symm
        have e2 : x2 = comp := Option.some.inj (y2.symm.trans (by rw [← e0]; exact d5'))
        rw [e1, e2] at y3
        exact y3
    refine W.aast hx hb c1 d1 c3 hkS d4' rfl hkcomp ⟨fun z => h1 (Or.inl z), Nat.lt_of_lt_of_le h2 c4.1⟩ g1 (fun q h => by rw [g3] at h; cases h) (by rw [g2]; exact hkC) hinst rfl rfl hd fun H' g1 g2 g3 => ?_
    exact s_ast hR hL hl q2 hz (t' := sEw t k o j.toNatClampNeg (k', some i)) (by omega) ho h2 rfl rfl rfl rfl rfl (fun _ _ => rfl) hEs hEv hwf c1 c2 c3 c4 c5 c6 kk g1 g2 g3
theorem s_gets {own C n d : String} {j a b : Nat} (hx : p.tables.exec = Jvm.exec) (hb : c.code = cc) (hown : s.vm.findClass own = some m.cls) (hZ : va_Z C n d (.ref (γ a b)) (fun q => s0.heap.size ≤ q) s s.heap) (hsz : s.heap.size = s0.heap.size + n0) (hol : ∀ q : Nat, q < s0.heap.size → s.heap[q]? = s0.heap[q]?)
    (hn : n0 ≤ sn t) (hv : b < sC t a) (hlink : (∃ host, (Cond.fieldLinkNest own j C n d host).before args s = true) ∨ (Cond.fieldLink own j C n d).before args s = true) (hd : decode cc pc = .ok (.getstatic j, 3))
    (kk : sOk p l e R s m args below meth c Q D s0 γ n0 w0 t (pc + 3) ls (.inr (.inr (a, some b)) :: st)) : sOk p l e R s m args below meth c Q D s0 γ n0 w0 t pc ls st := by
  intro H locs arr mst hR hL hl hs hz
  have hS : va_S (fun q => s0.heap.size ≤ q) s.heap H locs := ⟨by rw [hsz, hR.1]; omega, fun q h1 h2 => by rw [hR.2.1 q (by omega), hol q (by omega)], hL⟩
  have k1 := kk H locs arr (.ref (γ a b) :: mst) hR hL hl ⟨.mkR (r := some b) (fun i q => by cases q; exact hv), hs⟩ hz
  rcases hlink with ⟨host, h⟩ | h
  · exact va_getsN hx hb hZ hS hown h (fun x hx2 => hx2) hd k1
  · exact va_gets hx hb hZ hS hown h (fun x hx2 => hx2) hd k1
end S12
