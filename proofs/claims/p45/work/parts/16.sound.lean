/-! what a run of the small machine says of the machine: every run, by its fuel -/
/-- the copying of an array, as ArrayList asks for it -/
def sCpOk (l : Launch) (D : va_G) (s0 : State) (γ : Nat → Nat → Nat) : Prop := ∀ {p : Program} {e : Env} {R : Room} {s : State} {m : MethodId} {args : Array Value} {below : List Frame} {meth : Method} {c : Code} {Q : State → Prop} {n0 w0 : Nat} {y : MethodName} {cc : ByteArray} {pc : Nat} {ls st : List sV} {t : sT} {x : Int32} {i : Nat},
  sCx D s0 γ n0 y cc p s m args meth c → s0.WarmedH s.vm → y.cls = "java/util/ArrayList" → c.maxLocals = c.maxLocals → decode cc pc = .ok (.invokestatic 66, 3) → 5 ≤ R.frames → 220 ≤ R.locals → (st.map sCat).sum ≤ 8 → sN t 27 i ≤ x.toNatClampNeg → 0 < sN t 27 i → 0 ≤ x ∧ x ≤ 100000 → n0 ≤ sn t → w0 ≤ sw t →
  sn (sCpy t i x.toNatClampNeg) - n0 ≤ R.cells → sw (sCpy t i x.toNatClampNeg) - w0 ≤ R.slots → sPr s0 γ (sCpy t i x.toNatClampNeg) → sOk p l e R s m args below meth c Q D s0 γ n0 w0 (sCpy t i x.toNatClampNeg) (pc + 3) ls (.inr (.inr (27, some (sC t 27))) :: st) →
  sOk p l e R s m args below meth c Q D s0 γ n0 w0 t pc ls (.inl x :: .inr (.inr (27, some i)) :: st)
/-- tables of handlers: each row's class is one of the three -/
def sHtOk : Prop := ∀ i, i < sNm → ∀ r ∈ sHh i, ¬ r.2.2.2 = 0 ∧ (sCt r.2.2.2 < 3 ∧ ¬ sCt r.2.2.2 = 1) ∧ Cond.classLink (sY i).cls r.2.2.2 (sEc (sCt r.2.2.2)) ∈ sGW
def sExOk (s0 : State) : Prop := (∀ a b, a < 3 → (b < 3 ∧ ¬ b = 1) → a ≠ b → va_Nc (sEc a) (sEc b) s0) ∧ ∀ a, a < 3 → Cond.castable (sEc a) (sEc a) ∈ sGW
theorem sLgsl {γ : Nat → Nat → Nat} : ∀ as : List sV, (lg_sl (as.map (sTr γ))).length = (sEx as).length
  | [] => rfl
  | .inl _ :: as => by
    show ([Slot.val _] ++ lg_sl (as.map (sTr γ))).length = (sEx as).length + 1
    rw [List.length_append, sLgsl as]; rw [Nat.add_comm]; rfl
  | .inr (.inl _) :: as => by
    show ([Slot.val _, Slot.second] ++ lg_sl (as.map (sTr γ))).length = (sEx as).length + 1 + 1
    rw [List.length_append, sLgsl as]; rw [Nat.add_comm]; rfl
  | .inr (.inr (_, none)) :: as => by
    show ([Slot.val _] ++ lg_sl (as.map (sTr γ))).length = (sEx as).length + 1
    rw [List.length_append, sLgsl as]; rw [Nat.add_comm]; rfl
  | .inr (.inr (_, some _)) :: as => by
    show ([Slot.val _] ++ lg_sl (as.map (sTr γ))).length = (sEx as).length + 1
    rw [List.length_append, sLgsl as]; rw [Nat.add_comm]; rfl
theorem sNj_ok {x : sV} (h : sNj x = true) : ¬ sJ x := by
  match x, h with
  | .inl _, _ => exact fun q => q
  | .inr (.inl _), _ => exact fun q => q
  | .inr (.inr (k, r)), h =>
    intro q
    have q : k = 31 := q
    subst q
    cases h
theorem sSr_len {γ : Nat → Nat → Nat} {t : sT} : ∀ {xs : List sV} {vs : List Value}, sSr γ t xs vs → vs.length = xs.length
  | [], [], _ => rfl
  | x :: xs, v :: vs, h => by rw [List.length_cons, List.length_cons, sSr_len h.2]
  | [], _ :: _, h => h.elim
  | _ :: _, [], h => h.elim
/-- the arguments, off the stack -/
theorem sSr_take {γ : Nat → Nat → Nat} {t : sT} : ∀ (b : Nat) {xs : List sV} {vs : List Value}, sSr γ t xs vs → (xs.take b).all sNj = true → (∀ y ∈ xs.take b, ¬ sJ y ∧ sOkV t y) ∧ vs.take b = (xs.take b).map (sTr γ) ∧ sSr γ t (xs.drop b) (vs.drop b)
  | 0, xs, vs, h, _ => ⟨fun y hy => by simp at hy, by simp, by simpa using h⟩
  | b + 1, [], [], _, _ => ⟨fun y hy => by simp at hy, by simp, by simp [sSr]⟩
  | b + 1, x :: xs, v :: vs, h, ha => by
    rw [List.take_succ_cons, List.all_cons, Bool.and_eq_true] at ha
    obtain ⟨h1, h2, h3⟩ := sSr_take b h.2 ha.2
    have hj := sNj_ok ha.1
    obtain ⟨e1, e2⟩ := h.1.2 hj
    refine ⟨fun y hy => ?_, ?_, h3⟩
    · rw [List.take_succ_cons] at hy
      rcases List.mem_cons.mp hy with q | q
      · rw [q]; exact ⟨hj, e2⟩
      · exact h1 y q
    · rw [List.take_succ_cons, List.take_succ_cons, List.map_cons, h2, e1]
  | _ + 1, [], _ :: _, h, _ => h.elim
  | _ + 1, _ :: _, [], h, _ => h.elim
section S16
variable {D : va_G} {s0 : State} {γ : Nat → Nat → Nat} {l : Launch}
/-- what the induction gives of all runs of f steps -/
def sSnd (D : va_G) (s0 : State) (γ : Nat → Nat → Nat) (l : Launch) (f : Nat) : Prop :=
  ∀ (i pc : Nat) (ls st : List sV) (t : sT) (r : sRs) (t' : sT), sRun f i pc ls st t = some (r, t') → sPr s0 γ t' →
  ∀ {p : Program} {e : Env} {R : Room} {s : State} {m : MethodId} {args : Array Value} {below : List Frame} {meth : Method} {c : Code} {n0 w0 : Nat}, sCx D s0 γ n0 (sY i) (sBy i) p s m args meth c → s0.WarmedH s.vm → c.maxLocals = sML i → meth.sig.returnType = sRt i → meth.locks = false →
  (¬ i = 297 → c.exceptionTable.toList = tableOf (sHh i)) → sFr i ≤ R.frames → sLo i ≤ R.locals → n0 ≤ sn t → w0 ≤ sw t → sn t' - n0 ≤ R.cells → sw t' - w0 ≤ R.slots →
  sOk p l e R s m args below meth c (vx_MQ below (sQc D s0 γ r t') (sXc D s0 γ r t') args s (sn t' - n0) (sw t' - w0) (fun q => s0.heap.size ≤ q)) D s0 γ n0 w0 t pc ls st
theorem sMetOk (hG : sGl D s0 γ l) {f g : Nat} (ih : sSnd D s0 γ l f) {as : List sV} {t t' : sT} {r : sRs} (hr : sRun f g 0 (sEn as (sML g)) [] t = some (r, t')) (hv : ∀ y ∈ as, ¬ sJ y ∧ sOkV t y) (hlen : (sEx as).length ≤ sML g) (hpr : sPr s0 γ t') (hpl : plainName (sY g).cls = true) :
    vx_Met l (sY g) [sCw g] { frames := sFr g, cells := sn t' - sn t, slots := sw t' - sw t, locals := sLo g } (sPc D s0 γ as t) (sQc D s0 γ r t') (sXc D s0 γ r t') (sn t' - sn t) (sw t' - sw t) (fun q => s0.heap.size ≤ q) := by
  have body : ∀ (p : Program) (e : Env) (s : State) (m : MethodId) (args : Array Value) (below : List Frame) (meth : Method) (c : Code), p.tables.exec = Jvm.exec → c.code = sBy g → meth.sig.returnType = sRt g → meth.locks = false → s.vm.findClass (sY g).cls = some m.cls → meth.name = (sY g).name → c.exceptionTable.toList = tableOf (sHh g) → c.maxLocals = sML g → sPc D s0 γ as t args s →
      W p l e { frames := sFr g, cells := sn t' - sn t, slots := sw t' - sw t, locals := sLo g } s m args below meth c s.heap [] 0 0 (vx_MQ below (sQc D s0 γ r t') (sXc D s0 γ r t') args s (sn t' - sn t) (sw t' - sw t) (fun q => s0.heap.size ≤ q)) (entryFrame m args (sML g)) := by
    intro p e s m args below meth c hx hb hret hlk hown hnm htab hml hP
    obtain ⟨rfl, hrep, hW⟩ := hP
    have hal := hW.alike
    have X : sCx D s0 γ (sn t) (sY g) (sBy g) p s m ((as.map (sTr γ)).toArray) meth c := ⟨hx, hb, hown, sGW_at hW hG.1, hal, va_K.moved hal hG.2.1, fun q => hnm.trans q, hrep.1, hrep.2.1, sStc_at hG.2.2.1 hal hrep.2.1⟩
    have hl := lv_entry (as.map (sTr γ)) (n := sML g) (by rw [sLgsl]; exact hlen)
    have k := ih g 0 (sEn as (sML g)) [] t r t' hr hpr X hW hml hret hlk (fun _ => htab) (R := { frames := sFr g, cells := sn t' - sn t, slots := sw t' - sw t, locals := sLo g }) (Nat.le_refl _) (Nat.le_refl _) (Nat.le_refl _) (Nat.le_refl _) (Nat.le_refl _) (Nat.le_refl _) (e := e) (below := below)
    have k1 := k s.heap [] _ [] hrep (fun q h => by cases h) (sEn_lr hv hlen hl) trivial (by rw [hl.1, hml])
    rw [lg_entry_eq]
    exact W.cs (Nat.sub_self _).symm (Nat.sub_self _).symm k1
  by_cases hh : sHh g = []
  · have hcw : sCw g = Cond.code (sY g) (sBy g) (sML g) (sRt g) := by unfold sCw; rw [if_pos hh]
    rw [hcw]
    refine vx_ofW (cc := sBy g) (maxL := sML g) (ret := sRt g) (ws' := []) hpl rfl ?_
    intro p e s m args below meth c s₁ B hml htab hP
    refine body p e s m args below meth c B.exec B.bytes B.returns B.notSynchronized (findClass_of_methodNamed B.named) (name_of_methodNamed B.named B.method).1 ?_ hml hP
    rw [hh]
    cases hz : c.exceptionTable.toList with
    | nil => rfl
    | cons z zs => exact (htab z (by rw [hz]; exact List.mem_cons_self)).elim
  · have hcw : sCw g = Cond.codeWith (sY g) (sBy g) (sML g) (sRt g) (sHh g) := by unfold sCw; rw [if_neg hh]
    rw [hcw]
    refine vx_ofWH (cc := sBy g) (maxL := sML g) (ret := sRt g) (hh := sHh g) (ws' := []) hpl rfl ?_
    intro p e s m args below meth c s₁ B hml hP
    refine body p e s m args below meth c B.exec B.bytes B.returns B.notSynchronized (findClass_of_methodNamed B.named) (name_of_methodNamed B.named B.method).1 ?_ hml hP
    exact vx_table (x := sY g) B (atoms_spec (ws := [Cond.codeWith (sY g) (sBy g) (sML g) (sRt g) (sHh g)]) B.pre _ List.mem_cons_self)
end S16
