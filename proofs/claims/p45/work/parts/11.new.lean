/-! stores of references, new things, casts, statics: rows of the small machine -/
section S11
variable {p : Program} {l : Launch} {e : Env} {R : Room} {s : State} {m : MethodId} {args : Array Value} {below : List Frame} {meth : Method} {c : Code} {Q : State → Prop} {D : va_G} {s0 : State} {γ : Nat → Nat → Nat} {n0 w0 : Nat}
variable {cc : ByteArray} {pc : Nat} {ls st : List sV} {t : sT}
theorem sC_up {a : Nat} (k : Nat) : sU1 (sC t) a (sC t a + 1) k = if k = a then sC t a + 1 else sC t k := rfl
theorem sU1_le {a : Nat} (k : Nat) : sC t k ≤ sU1 (sC t) a (sC t a + 1) k := by
  rw [sC_up]
  split
  · next h => subst h; omega
  · omega
theorem sNew_ext {a w : Nat} : sExt t (sNew t a w) := ⟨fun k => by show sC t k ≤ sU1 (sC t) a (sC t a + 1) k; exact sU1_le k, fun k i hi => by
  show sU2 (sG t) a (sC t a) (sn t) k i = sG t k i
  rw [sU2_n]
  rintro ⟨rfl, rfl⟩; omega, Nat.le_succ _, Nat.le_add_right _ _⟩
theorem sNwA_ext {a w : Nat} : sExt t (sNwA t a w) := ⟨fun k => by show sC t k ≤ sU1 (sC t) a (sC t a + 1) k; exact sU1_le k, fun k i hi => by
  show sU2 (sG t) a (sC t a) (sn t) k i = sG t k i
  rw [sU2_n]
  rintro ⟨rfl, rfl⟩; omega, Nat.le_succ _, Nat.le_add_right _ _⟩
theorem sWf_up {t' : sT} {a : Nat} (hw : sWf t) (h1 : sI t' = sI t) (h2 : sZ t' = sZ t) (h3 : sR t' = sR t) (h4 : sA t' = sA t) (h5 : sB t' = sB t) (h6 : sE t' = sE t) (h7 : sL t' = sL t) (hc : sC t' = sU1 (sC t) a (sC t a + 1)) (hN : sN t' 27 0 = 0) : sWf t' := by
  have hle : ∀ k, sC t k ≤ sC t' k := fun k => by
    rw [hc]; exact sU1_le k
  refine ⟨fun b o i hi => ?_, fun k o q i hi => ?_, fun b o hlt => ?_, fun k o hlt q => ?_, hN, Nat.le_trans hw.2.2.2.2.2 (hle 27)⟩
  · rw [h3] at hi; exact Nat.lt_of_lt_of_le (hw.1 b o i hi) (hle _)
  · rw [h6] at hi ⊢; exact ⟨Nat.lt_of_lt_of_le (hw.2.1 k o q i hi).1 (hle _), (hw.2.1 k o q i hi).2⟩
  · rw [h1, h2, h3]; exact hw.2.2.1 b o (Nat.le_trans (hle _) hlt)
  · rw [h4, h5, h6, h7]; exact hw.2.2.2.1 k o (Nat.le_trans (hle _) hlt) q
theorem s_new {own C : String} {T : u_T} {N a j : Nat} (hx : p.tables.exec = Jvm.exec) (hb : c.code = cc) (hts : ∀ w ∈ sGW, w.before args s = true) (hown : s.vm.findClass own = some m.cls) (hK : va_K D sCl [] s) (hc : sCl[a]? = some (C, T, N)) (hin : ∀ w ∈ u_ws C T N, w ∈ sGW)
    (ty0 : Nat → FieldType) (hty : ∀ k, k < N → parseFieldDescriptor (T k).2.2.1 = some (ty0 k)) (htg : ∀ k, k < N → sTg0 (sTb (64 * a + k)) (ty0 k)) (ha : a < 14) (hN : sNf a = N)
    (h1 : (Cond.classLink own j C).before args s = true) (h2 : (Cond.instantiable C N).before args s = true) (h3 : (Cond.initialized C).before args s = true)
    (hd : decode cc pc = .ok (.new j, 3)) (hn : n0 ≤ sn t) (hw0 : w0 ≤ sw t) (hrc : sn (sNew t a N) - n0 ≤ R.cells) (hrs : sw (sNew t a N) - w0 ≤ R.slots) (hpr : sPr s0 γ (sNew t a N))
    (kk : sOk p l e R s m args below meth c Q D s0 γ n0 w0 (sNew t a N) (pc + 3) ls (.inr (.inr (a, some (sC t a))) :: st)) : sOk p l e R s m args below meth c Q D s0 γ n0 w0 t pc ls st := by
  intro H locs arr mst hR hL hl hs hz
  have hKn := hK.1 a _ hc
  have hrc' : sn t + 1 - n0 ≤ R.cells := hrc
  have hrs' : sw t + N - w0 ≤ R.slots := hrs
  have hg : γ a (sC t a) = H.size := by
    rw [hpr a (sC t a) (by show sC t a < sU1 (sC t) a (sC t a + 1) a; simp [sU1]) ⟨by omega, fun q => by omega⟩, hR.1]
    show _ + sU2 (sG t) a (sC t a) (sn t) a (sC t a) = _
    rw [sU2_s]
  have hw := hR.2.2.2.2.2.2
  refine W.newcK hx hb hown h1 h2 h3 rfl hd (by omega) (by omega) hKn.2.1 rfl fun H1 kC hkC e1 z1 o1 => ?_
  have hob := u_born ty0 hts hin hKn hkC e1 hty
  have hR' : sRep D s0 γ (sNew t a N) H1 := by
    refine hR.push (k := a) (Or.inl ha) (fun k1 => ?_) rfl (fun _ _ _ => rfl) (fun _ _ _ => rfl) (fun _ _ _ _ => rfl) z1 o1 (fun _ => hg) (fun _ => ?_) (fun q => by omega) sNf_le (sWf_up hw rfl rfl rfl rfl rfl rfl rfl rfl hw.2.2.2.2.1)
    · show sU1 (sC t) a (sC t a + 1) k1 = _
      rw [sC_up]
      have : ¬ a = 31 := by omega
      simp [this]
    · rw [hN]
      refine hob.to fun k hk => ?_
      have hcl := hw.2.2.1 (64 * a + k) (sC t a) (by have := sNf_le a ha; rw [show (64 * a + k) / 64 = a by omega]; exact Nat.le_refl _)
      have hg0 := htg k hk
      show _ = sFv γ t (64 * a + k) (sC t a)
      unfold sFv sFld
      unfold sTg0 at hg0
      split at hg0
      · next q => rw [q, hg0, hcl.1]; rfl
      · next q => rw [q, hg0, hcl.2.1]; rfl
      · next q1 q2 =>
        split
        · next q => exact absurd q q1
        · next q => exact absurd q q2
        · rw [hcl.2.2]
          rcases hg0 with ⟨n, h⟩ | ⟨n, h⟩ <;> rw [h] <;> rfl
  have k1 := kk H1 locs arr (.ref H.size :: mst) hR' hL (hl.ext sNew_ext) ⟨by rw [← hg]; exact .mkR (r := some (sC t a)) (fun i q => by cases q; show sC t a < sU1 (sC t) a (sC t a + 1) a; simp [sU1]), hs.ext sNew_ext⟩ hz
  exact W.cs (by show _ = sn t + 1 - n0; omega) (by show _ = sw t + N - w0; omega) k1
theorem sIcl {x : Int32} (h : 0 ≤ x ∧ x ≤ 100000) : ¬ x < 0 ∧ x.toNatClampNeg ≤ 100000 := by
  have a1 := Int32.le_iff_toInt_le.mp h.1
  have a2 := Int32.le_iff_toInt_le.mp h.2
  have e0 : (0 : Int32).toInt = 0 := by decide
  have e1 : (100000 : Int32).toInt = 100000 := by decide
  rw [e0] at a1
  rw [e1] at a2
  refine ⟨fun q => ?_, ?_⟩
  · have a3 := Int32.lt_iff_toInt_lt.mp q
    rw [e0] at a3
    omega
  · show x.toInt.toNat ≤ 100000
    omega
theorem sNewA_rep {H H1 : Heap} {a n : Nat} {v0 : Value} {cA : ClassId} (hR : sRep D s0 γ t H) (ha : 20 ≤ a ∧ a < 28) (hg : γ a (sC t a) = H.size) (h1 : H1[H.size]? = some (arrV cA n (fun _ => v0))) (z1 : H1.size = H.size + 1) (o1 : ∀ q, q < H.size → H1[q]? = H[q]?)
    (har : s0.isArrayOf (arrV cA n (fun _ => v0)) (sAt a)) (hv : ∀ p, sEv γ t a (sC t a) p = v0) (hcl : 24 ≤ a → ∃ (kA : Class) (comp : ClassId) (C : String), sAt a = .object C ∧ s0.vm.classes[cA]? = some kA ∧ kA.kind = .array comp (.object C) ∧ s0.vm.findClass C = some comp ∧ s0.vm.findClass ("[" ++ (FieldType.object C).toString) = some cA) : sRep D s0 γ (sNwA t a n) H1 := by
  have hw := hR.2.2.2.2.2.2
  have h270 : ¬ (27 = a ∧ 0 = sC t a) := fun q => by
    have := hw.2.2.2.2.2
    rw [← q.1] at q
    omega
  refine hR.push (k := a) (Or.inr (Or.inl ha)) (fun k1 => ?_) rfl (fun k1 i hne => ?_) (fun _ _ _ => rfl) (fun _ _ _ _ => rfl) z1 o1 (fun _ => hg) (fun q => by omega) (fun _ _ => ?_) sNf_le (sWf_up hw rfl rfl rfl rfl rfl rfl rfl rfl ?_)
  · show sU1 (sC t) a (sC t a + 1) k1 = _
    rw [sC_up]
    have : ¬ a = 31 := by omega
    simp [this]
  · show sU2 (sN t) a (sC t a) n k1 i = _
    rw [sU2_n _ _ _ _ _ _ hne]
  · have hN : sN (sNwA t a n) a (sC t a) = n := sU2_s _ _ _ _
    refine ⟨_, by rw [hg]; exact h1, har, (fun q => by cases q), ?_, fun p hp => ?_, fun h24 h28 _ => ⟨fun q h => (by cases h), hcl h24⟩⟩
    · rw [hN, arrV_size]; exact ⟨Nat.le_refl _, rfl⟩
    · rw [hN] at hp
      rw [arrV_read _ _ hp]
      exact congrArg some (hv p).symm
  · show sU2 (sN t) a (sC t a) n 27 0 = 0
    rw [sU2_n _ _ _ _ _ _ h270]
    exact hw.2.2.2.2.1
theorem s_newa {a : Nat} {at9 : ArrayType} {x : Int32} (hx : p.tables.exec = Jvm.exec) (hb : c.code = cc) (hal : s0.vm.Alike s.vm) (ha : a = 20 ∨ a = 21 ∨ a = 22 ∨ a = 23) (hty : newarray.typeOf at9 = sAt a) (hw1 : (Cond.arrayClass (newarray.typeOf at9)).before args s = true) (h01 : 0 ≤ x ∧ x ≤ 100000)
    (hd : decode cc pc = .ok (.newarray at9, 2)) (hn : n0 ≤ sn t) (hw0 : w0 ≤ sw t) (hrc : sn (sNwA t a x.toNatClampNeg) - n0 ≤ R.cells) (hrs : sw (sNwA t a x.toNatClampNeg) - w0 ≤ R.slots) (hpr : sPr s0 γ (sNwA t a x.toNatClampNeg))
    (kk : sOk p l e R s m args below meth c Q D s0 γ n0 w0 (sNwA t a x.toNatClampNeg) (pc + 2) ls (.inr (.inr (a, some (sC t a))) :: st)) : sOk p l e R s m args below meth c Q D s0 γ n0 w0 t pc ls (.inl x :: st) := by
  intro H locs arr mst hR hL hl hs hz
  obtain ⟨v, vs, rfl, q0, q2⟩ := hs.cons
  rw [q0.i]
  have hrc' : sn t + 1 - n0 ≤ R.cells := hrc
  have hrs' : sw t + x.toNatClampNeg - w0 ≤ R.slots := hrs
  obtain ⟨b1, b2⟩ := sIcl h01
  have hg : γ a (sC t a) = H.size := by
    rw [hpr a (sC t a) (by show sC t a < sU1 (sC t) a (sC t a + 1) a; simp [sU1]) ⟨by omega, fun q => by omega⟩, hR.1]
    show _ + sU2 (sG t) a (sC t a) (sn t) a (sC t a) = _
    rw [sU2_s]
  have hw := hR.2.2.2.2.2.2
  refine va_newaK hx hb hw1 rfl hd rfl b1 rfl ?_ (by omega) (by omega) rfl fun H1 cA e1 z1 o1 hAr hNm => ?_
  · have : componentBytes (newarray.typeOf at9) ≤ 8 := by rw [hty]; rcases ha with h | h | h | h <;> subst h <;> decide
    calc x.toNatClampNeg * componentBytes (newarray.typeOf at9) ≤ 100000 * 8 := Nat.mul_le_mul b2 this
      _ ≤ 536870912 := Nat.le_of_ble_eq_true rfl
  have hcl := hw.2.2.2.1 a (sC t a) (Nat.le_refl _)
  have hR' : sRep D s0 γ (sNwA t a x.toNatClampNeg) H1 := by
    refine sNewA_rep hR (by omega) hg e1 z1 o1 ?_ (fun p => ?_) (fun q => by omega)
    · rw [← hty]
      exact State.isArrayOf_alike hal.symm (hAr _ _)
    · rw [hty]
      unfold sEv sEl
      rcases ha with h | h | h | h <;> subst h
      · rw [if_neg (by omega), if_neg (by omega), if_neg (by omega), (hcl p).1]; rfl
      · rw [if_neg (by omega), if_neg (by omega), if_neg (by omega), (hcl p).1]; rfl
      · rw [if_pos rfl, (hcl p).2.1]; rfl
      · rw [if_neg (by omega), if_pos rfl, (hcl p).2.2.2]; rfl
  have k1 := kk H1 locs arr (.ref H.size :: vs) hR' hL (hl.ext sNwA_ext) ⟨by rw [← hg]; exact .mkR (r := some (sC t a)) (fun i q => by cases q; show sC t a < sU1 (sC t) a (sC t a + 1) a; simp [sU1]), q2.ext sNwA_ext⟩ hz
  exact W.cs (by show _ = sn t + 1 - n0; omega) (by show _ = sw t + x.toNatClampNeg - w0; omega) k1
theorem s_anew {own C : String} {a j : Nat} {x : Int32} (hx : p.tables.exec = Jvm.exec) (hb : c.code = cc) (hal : s0.vm.Alike s.vm) (hown : s.vm.findClass own = some m.cls) (ha : 24 ≤ a ∧ a < 28) (hty : sAt a = .object C) (hw1 : (Cond.arrayOver (.object C)).before args s = true) (hw2 : (Cond.classLink own j C).before args s = true) (h01 : 0 ≤ x ∧ x ≤ 100000)
    (hd : decode cc pc = .ok (.anewarray j, 3)) (hn : n0 ≤ sn t) (hw0 : w0 ≤ sw t) (hrc : sn (sNwA t a x.toNatClampNeg) - n0 ≤ R.cells) (hrs : sw (sNwA t a x.toNatClampNeg) - w0 ≤ R.slots) (hpr : sPr s0 γ (sNwA t a x.toNatClampNeg))
    (kk : sOk p l e R s m args below meth c Q D s0 γ n0 w0 (sNwA t a x.toNatClampNeg) (pc + 3) ls (.inr (.inr (a, some (sC t a))) :: st)) : sOk p l e R s m args below meth c Q D s0 γ n0 w0 t pc ls (.inl x :: st) := by
  intro H locs arr mst hR hL hl hs hz
  obtain ⟨v, vs, rfl, q0, q2⟩ := hs.cons
  rw [q0.i]
  have hrc' : sn t + 1 - n0 ≤ R.cells := hrc
  have hrs' : sw t + x.toNatClampNeg - w0 ≤ R.slots := hrs
  obtain ⟨b1, b2⟩ := sIcl h01
  have hw := hR.2.2.2.2.2.2
  have hg : γ a (sC t a) = H.size := by
    rw [hpr a (sC t a) (by show sC t a < sU1 (sC t) a (sC t a + 1) a; simp [sU1]) ⟨by omega, fun q => by subst q; exact hw.2.2.2.2.2⟩, hR.1]
    show _ + sU2 (sG t) a (sC t a) (sn t) a (sC t a) = _
    rw [sU2_s]
  refine W.anew hx hb hown hw2 hw1 rfl hd rfl b1 (by omega) (by omega) (by omega) fun cA kA comp f1 f2 f3 f4 => ?_
  generalize hH1 : H.push ({ cls := cA, slots := Array.replicate x.toNatClampNeg .null, vm := .none } : Cell) = H1
  have z1 : H1.size = H.size + 1 := by rw [← hH1, Array.size_push]
  have e1 : H1[H.size]? = some (arrV cA x.toNatClampNeg (fun _ => .null)) := by rw [← hH1, Array.getElem?_push_size, ← arrV_new]
  have o1 : ∀ q : Nat, q < H.size → H1[q]? = H[q]? := fun q hq => by rw [← hH1, Array.getElem?_push, if_neg (Nat.ne_of_lt hq)]
  have hcl := hw.2.2.2.1 a (sC t a) (Nat.le_refl _)
  obtain ⟨k', hk', he⟩ := hal.symm.2.2 _ _ f2
  have f3' : k'.kind = .array comp (.object C) := by rw [he]; exact f3
  have f4' : s0.vm.findClass C = some comp := by rw [hal.symm.findClass]; exact f4
  have hR' : sRep D s0 γ (sNwA t a x.toNatClampNeg) H1 := by
    refine sNewA_rep hR ⟨by omega, ha.2⟩ hg e1 z1 o1 ?_ (fun p => ?_) (fun _ => ⟨k', comp, C, hty, hk', f3', f4', by rw [hal.symm.findClass]; exact f1⟩)
    · rw [hty]
      exact ⟨fun k h => (by cases h), k', hk', comp, f3'⟩
    · unfold sEv sEl
      rw [if_neg (by omega), if_neg (by omega), if_pos ha]
      show va_rf ((sE t a (sC t a) p).2.map _) = _
      rw [(hcl p).2.2.1]
      rfl
  have k1 := kk H1 locs arr (.ref H.size :: vs) hR' hL (hl.ext sNwA_ext) ⟨by rw [← hg]; exact .mkR (r := some (sC t a)) (fun i q => by cases q; show sC t a < sU1 (sC t) a (sC t a + 1) a; simp [sU1]), q2.ext sNwA_ext⟩ hz
  exact W.cs (by show _ = sn t + 1 - n0; omega) (by show _ = sw t + x.toNatClampNeg - w0; omega) k1
theorem s_cast {own C : String} {T : u_T} {N a j : Nat} {k : Nat} {r : Option Nat} (hx : p.tables.exec = Jvm.exec) (hb : c.code = cc) (hown : s.vm.findClass own = some m.cls) (hK : va_K D sCl [] s) (hc : sCl[a]? = some (C, T, N)) (ha : a < 14) (hk : k = a ∨ (r = none ∧ ¬ k = 31)) (hw1 : (Cond.classLink own j C).before args s = true)
    (hd : decode cc pc = .ok (.checkcast j, 3)) (kk : sOk p l e R s m args below meth c Q D s0 γ n0 w0 t (pc + 3) ls (.inr (.inr (a, r)) :: st)) : sOk p l e R s m args below meth c Q D s0 γ n0 w0 t pc ls (.inr (.inr (k, r)) :: st) := by
  intro H locs arr mst hR hL hl hs hz
  obtain ⟨v, vs, rfl, q0, q2⟩ := hs.cons
  obtain ⟨e1, v1⟩ := q0.r (by rcases hk with h | h <;> omega)
  subst e1
  cases r with
  | none => exact lv_castN hx hb hd (kk H locs arr _ hR hL hl ⟨.mkR (fun i q => by cases q), q2⟩ hz)
  | some i =>
    have e : k = a := by rcases hk with h | h
                         · exact h
                         · cases h.1
    subst e
    obtain ⟨cell, g1, g2, g3, -⟩ := hR.2.2.1 k i ha (v1 i rfl)
    have hcl := (hK.1 k _ hc).2
    exact va_castS hx hb hown hw1 hcl ⟨cell, g1, by rw [g3]; rfl, by rw [g2]; exact hcl.1⟩ hd (kk H locs arr _ hR hL hl ⟨.mkR v1, q2⟩ hz)
theorem s_oinit {own : String} {j k o : Nat} (hx : p.tables.exec = Jvm.exec) (hb : c.code = cc) (hown : s.vm.findClass own = some m.cls) (hk : ¬ k = 31) (hw1 : (Cond.methodLink own j Lib.objectInit).before args s = true) (hw2 : (Cond.instanceMethod Lib.objectInit).before args s = true) (hw3 : (Cond.code Lib.objectInit ⟨#[0xb1]⟩ 1 none).before args s = true)
    (hd : decode cc pc = .ok (.invokespecial j, 3)) (hf : 1 ≤ R.frames) (hlo : 20 ≤ R.locals) (h8 : (st.map sCat).sum ≤ 8) (kk : sOk p l e R s m args below meth c Q D s0 γ n0 w0 t (pc + 3) ls st) : sOk p l e R s m args below meth c Q D s0 γ n0 w0 t pc ls (.inr (.inr (k, some o)) :: st) := by
  intro H locs arr mst hR hL hl hs hz
  obtain ⟨v, vs, rfl, q0, q2⟩ := hs.cons
  obtain ⟨e1, v1⟩ := q0.r hk
  subst e1
  have h9 := q2.cats
  refine W.objInit hx hb hown hw1 hw2 hw3 rfl hz rfl hd hf ?_ (kk H locs arr _ hR hL hl q2 hz)
  show 2 * 0 + (vs.map fun v => v.category).sum + 12 ≤ R.locals
  omega
end S11
