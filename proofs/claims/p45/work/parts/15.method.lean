/-! throws, calls, whole methods: rows of the small machine. (sThrowS follows kit/laws/EXCEPTIONS.to-paste's vx_throwSW, with the heap's size told exactly.) -/
section S15a
variable {p : Program} {l : Launch} {e : Env} {R : Room} {s : State} {m : MethodId} {args : Array Value} {below : List Frame} {meth : Method} {c : Code} {H : Heap} {locs : List Loc} {cells slots : Nat} {Q : State → Prop}
variable {mc ms : Nat} {free : Addr → Prop} {A0 A1 : Nat → Prop} {H0 : Heap} {a : Array Value} {ls : Array Slot} {st0 rest : List Value}
variable {Qc : Array Value → State → Outcome → State → Prop} {XC : String → State → State → Prop}
theorem sThrowS {cc : ByteArray} {pc : Nat} (hexec : p.tables.exec = Jvm.exec) (hb : c.code = cc) (hl : l.stackTraces = false) {own cls text : String} {names : List String} {ik is ic mc ms sa : Nat} {A : Nat → Prop}
    (hown : s.vm.findClass own = some m.cls) (hcls : Bundle.fit cls = true) (hnames : ∀ n ∈ names, Bundle.fit n = true)
    (hk : (Cond.classLink own ik cls).before args s = true) (hini : (Cond.initialized cls).before args s = true) (hstr : vk_R own is text sa s) (hat : ∀ w ∈ vx_atS own ic cls names, w.before args s = true)
    (hgood : ∀ w ∈ Cond.classLink own ik cls :: Cond.initialized cls :: vx_atS own ic cls names, vx_ot w = true)
    (hU : vx_Zq Bundle.tN "UNASSIGNED_STACK" Bundle.steD A s s.heap) (hN : vx_Zq Bundle.tN "SUPPRESSED_SENTINEL" Bundle.listD A s s.heap) (hS : va_S A s.heap H locs) (hsize : ls.size = c.maxLocals)
    (d0 : decode cc pc = .ok (.new ik, 3)) (d3 : decode cc (pc + 3) = .ok (.dup, 1)) (d4 : decode cc (pc + 4) = .ok (.ldc_w is, 3)) (d7 : decode cc (pc + 7) = .ok (.invokespecial ic, 3)) (d10 : decode cc (pc + 10) = .ok (.athrow, 1))
    (hout : ∀ x ∈ c.exceptionTable.toList, covers x (pc + 10) = false)
    (hRframes : names.length + 3 < R.frames) (hRlocals : (rest.map fun v => v.category).sum + (13 * (names.length + 1) + 43) ≤ R.locals) (hRcells : cells + 1 ≤ R.cells) (hRslots : slots + 6 ≤ R.slots) (hlocks : meth.locks = false)
    (hx : ∀ t : State, s.vm.Alike t.vm → t.heap.size = H.size + 1 → (∀ q : Nat, q < H.size → t.heap[q]? = H[q]?) → XC cls s t)
    (hf : ∀ z ∈ locs, free z.base) (hc : cells + 1 ≤ mc) (hs : slots + 6 ≤ ms) :
    W p l e R s m args below meth c H locs cells slots (vx_MQ below Qc XC args s mc ms free) (F0 m pc ls rest) := by
  intro T hT X
  have htr : e.platform.stackTraces = false := (show e.platform.stackTraces = l.stackTraces by rw [X.admits.platform]).trans hl
  have Y := vx_rebase X (R' := { frames := R.frames, locals := R.locals, cells := 1, slots := 6 }) (Nat.le_refl _) (Nat.le_refl _) hRcells hRslots
  obtain ⟨s', hA⟩ : ∃ z, z = (T.setVm s.vm).setFrames (.invoking m args :: below) := ⟨_, rfl⟩
  rw [← hA] at Y
  have hvm : s'.vm = s.vm := by rw [hA]; rfl
  have hhp : s'.heap = H := by rw [hA]; exact hT
  have hW0 : s.WarmedH s'.vm := by rw [hvm]; exact State.WarmedH.refl s
  have hat' : ∀ w ∈ vx_atS own ic cls names, w.before args s' = true := fun w hw => vx_ot_at hW0 hvm.symm (hgood w (List.mem_cons_of_mem _ (List.mem_cons_of_mem _ hw))) (hat w hw)
  have hk' : (Cond.classLink own ik cls).before args s' = true := vx_ot_at hW0 hvm.symm (hgood _ List.mem_cons_self) hk
  have hini' : (Cond.initialized cls).before args s' = true := vx_ot_at hW0 hvm.symm (hgood _ (List.mem_cons_of_mem _ List.mem_cons_self)) hini
  have hU' : vx_Zq Bundle.tN "UNASSIGNED_STACK" Bundle.steD A s' s'.heap := by rw [hhp]; exact vx_Zq.moved hW0.alike (hU.kept hS.2.1)
  have hN' : vx_Zq Bundle.tN "SUPPRESSED_SENTINEL" Bundle.listD A s' s'.heap := by rw [hhp]; exact vx_Zq.moved hW0.alike (hN.kept hS.2.1)
  have h : ∀ w ∈ Bundle.ownAtoms own ic cls names, w.before args s' = true := vx_own hat' (vx_isRefq hU'.1) (vx_isRefq hN'.1) hU'.2.word hN'.2.word
  have hown' : s'.vm.findClass own = some m.cls := by rw [hvm]; exact hown
  have hins : (Cond.instantiable cls 6).before args s' = true := h _ (by simp [Bundle.ownAtoms])
  obtain ⟨vm₁, cX, kX, hfX, hkX, -, -, X₁, st1⟩ := Y.newCold hexec (own := own) (C := cls) (index := ik) (n := 6) hown' hk' hins hini'
    (g := F0 m pc ls rest) rfl (by rw [hb]; exact d0) (Nat.le_refl _) (Nat.le_refl _)
  generalize hT1 : (T.setVm vm₁).pushCell { cls := cX, slots := kX.instanceTypes.map defaultValue, vm := .none } = T1 at X₁ st1
  have hcat : (Value.ref T.heap.size).category = 1 := rfl
  have hcellA : T1.heap[T.heap.size]? = some (freshCell cX kX) := by rw [← hT1]; exact State.heap_pushCell_size _ _
  have d3' : decode c.code (pc + 3) = .ok (.dup, 1) := by rw [hb]; exact d3
  have d4' : decode c.code (pc + 4) = .ok (.ldc_w is, 3) := by rw [hb]; exact d4
  have hstr' : vk_R own is text sa s' := vk_R.warm hW0 hstr
  obtain ⟨U, hsteps, hrun, hend, hW, hsame, ce, hce, hO⟩ := X₁.ctorThrowS hexec htr (own := own) (cls := cls) (names := names) (ic := ic) hown' hcls hnames h (fun x hx => nomatch hx) hfX hkX hcellA (by rw [hhp, hT]; exact Nat.le_refl _) (msg := .ref sa) rfl
    (g := { method := m, pc := pc + 7, locals := ls, stack := .ref sa :: .ref T.heap.size :: .ref T.heap.size :: rest, locked := none }) rfl hsize rfl rfl (rest := rest) rfl
    (by rw [hb]; exact d7) (by rw [hb]; exact d10) hout hRframes (by simp only [List.map_cons, List.sum_cons, hcat]; omega) hlocks
  obtain ⟨f1, f2⟩ := vx_frame hsame
  rw [hhp] at f1 f2
  have f9 : U.heap.size = H.size + 1 := by
    have a1 : U.heap.size ≤ s'.heap.size + 1 := hsame.2.2.1
    have a2 := (Array.getElem?_eq_some_iff.mp hce).1
    rw [hhp] at a1
    rw [hT] at a2
    omega
  have hWs : s.WarmedH U.vm := State.WarmedH.trans hW0 hW
  have hcl : s.vm.findClass cls = some ce.cls := by
    have h9 := hO.cls
    rw [hvm] at h9
    exact h9
  have hall : s.sameButNew ({ U with vm := s.vm } : State) locs mc ms := by
    subst hA
    obtain ⟨e1, e2⟩ := hsame
    rw [State.setFrames_setFrames] at e1
    have h2 : (T.setVm s.vm).sameButNew ({ U with vm := s.vm } : State) [] (0 + 1) (0 + 6) := ⟨e1, e2⟩
    have h3 := X.same.trans h2
    rw [List.append_nil] at h3
    exact h3.mono hc hs
  refine ⟨U, ?_, .threw T.heap.size, hrun, hend, Or.inr ⟨T.heap.size, rfl, cls, ce, locs, hx U hWs.alike f9 (fun q hq => f2 q hq (fun z hz => nomatch hz)), hce, hO.vm, hcl, hWs, hall, hf⟩⟩
  refine st1 _ ?_
  show Steps p.tables e below (T1.setTop { method := m, pc := pc + 3, locals := ls, stack := .ref T.heap.size :: rest, locked := none }) _
  jvm_step X₁.here [X₁.here.top, hexec, d3', Value.category]
  exact X₁.ldcStringW hexec (own := own) (text := text) (index := is) (a := sa) hown' hstr'.1 hstr'.2
    (g := { method := m, pc := pc + 4, locals := ls, stack := .ref T.heap.size :: .ref T.heap.size :: rest, locked := none }) rfl d4' _ hsteps
end S15a
def sEc (k : Nat) : String := match k with
  | 0 => "java/lang/IndexOutOfBoundsException"
  | 1 => "java/lang/IllegalArgumentException"
  | _ => "java/lang/IllegalStateException"
def sSup : List String := ["java/lang/RuntimeException", "java/lang/Exception"]
/-- the texts of the throws -/
def sStr : List (String × Nat × String) := [("BookExchange", 343, "there is no such one"), ("BookExchange", 350, "out of range"), ("BookExchange", 358, "not as things are"), ("BookExchange", 365, "there is no such member"), ("BookExchange", 367, "there is no such contract"), ("BookExchange", 369, "there is no such book"), ("BookExchange", 371, "there is no such order"), ("BookExchange", 377, "there is no such trade")]
/-- the word of a method's code -/
noncomputable def sCw (i : Nat) : Cond := if sHh i = [] then Cond.code (sY i) (sBy i) (sML i) (sRt i) else Cond.codeWith (sY i) (sBy i) (sML i) (sRt i) (sHh i)
/-- a call of g from i, by the entry j -/
def sKa (i j g nn : Nat) : Prop := Cond.methodLink (sY i).cls j (sY g) ∈ sGG ∧ Cond.initialized (sY g).cls ∈ sGG ∧ sCw g ∈ sGG ∧ (parseMethodDescriptor (sY g).desc).map (fun d => d.parameters.length) = some nn ∧
  ((sY g).cls ≠ "java/lang/invoke/MethodHandle" ∧ (sY g).cls ≠ "java/lang/invoke/VarHandle") ∧ plainName (sY g).cls = true ∧ sFr g + 1 ≤ sFr i ∧ 9 + (sML g + 11) + sLo g ≤ sLo i
def sKo (j : Nat) (y : MethodName) : Prop := Cond.methodLink y.cls j Lib.objectInit ∈ sGW ∧ Cond.instanceMethod Lib.objectInit ∈ sGW ∧ Cond.code Lib.objectInit ⟨#[0xb1]⟩ 1 none ∈ sGW
/-- a throw at pc -/
def sKt (i pc j a : Nat) : Prop := ¬ i = 297 ∧ a < 3 ∧ sHh i = [] ∧ 6 ≤ sFr i ∧ 90 ≤ sLo i ∧ ∃ (is ic : Nat) (text : String), decode (sBy i) (pc + 3) = .ok (.dup, 1) ∧ decode (sBy i) (pc + 4) = .ok (.ldc_w is, 3) ∧ decode (sBy i) (pc + 7) = .ok (.invokespecial ic, 3) ∧ decode (sBy i) (pc + 10) = .ok (.athrow, 1) ∧
  ((sY i).cls, is, text) ∈ sStr ∧ (∀ w ∈ Cond.classLink (sY i).cls j (sEc a) :: Cond.initialized (sEc a) :: vx_atS (sY i).cls ic (sEc a) sSup, w ∈ sGW ∧ vx_ot w = true) ∧ Bundle.fit (sEc a) = true
/-- Math's members -/
def sKm (i j c : Nat) : Prop := 1 ≤ sFr i ∧ 23 ≤ sLo i ∧ Cond.initialized "java/lang/Math" ∈ sGW ∧
  ((c = 5 ∧ Cond.methodLink (sY i).cls j Lib.Math.abs.name ∈ sGW ∧ Cond.static Lib.Math.abs.name ∈ sGW ∧ Cond.code Lib.Math.abs.name Lib.Math.abs.code 1 (some .int) ∈ sGW) ∨
   (c = 6 ∧ Cond.methodLink (sY i).cls j Lib.Math.max.name ∈ sGW ∧ Cond.static Lib.Math.max.name ∈ sGW ∧ Cond.code Lib.Math.max.name Lib.Math.max.code 2 (some .int) ∈ sGW) ∨
   (c = 7 ∧ Cond.methodLink (sY i).cls j Lib.Math.min.name ∈ sGW ∧ Cond.static Lib.Math.min.name ∈ sGW ∧ Cond.code Lib.Math.min.name Lib.Math.min.code 2 (some .int) ∈ sGW) ∨
   (c = 8 ∧ Cond.methodLink (sY i).cls j Lib.MathLoose.min_long.x ∈ sGW ∧ Cond.static Lib.MathLoose.min_long.x ∈ sGW ∧ Cond.code Lib.MathLoose.min_long.x Lib.MathLoose.min_long.code 4 (some .long) ∈ sGW))
def sLq (i pc : Nat) (x : Instr) (a b c : Nat) : Prop := match x with
  | .ireturn => sRt i = some .int ∨ sRt i = some .boolean
  | .lreturn => sRt i = some .long
  | .areturn => ∃ rt, sRt i = some rt ∧ ((∃ n, rt = .object n) ∨ ∃ u, rt = .array u)
  | .return_ => sRt i = none
  | .new j => c = 1 → sKt i pc j a
  | .invokevirtual j => c = 9 ∨ (c = 4 ∧ 0 < b ∧ sKa i j a (b - 1) ∧ sHh a = [] ∧ Cond.instanceMethod (sY a) ∈ sGG ∧ Cond.selects (sY a).cls (sY a) (sY a) ∈ sGG ∧ sRk a < 14 ∧ ∃ q : vw_C, sCl[sRk a]? = some q ∧ q.1 = (sY a).cls)
  | .invokestatic j => c = 9 ∨ (c = 0 ∧ sKa i j a b ∧ Cond.static (sY a) ∈ sGG) ∨ (c = 2 ∧ b = 2 ∧ (sY i).cls = "java/util/ArrayList" ∧ j = 66 ∧ 5 ≤ sFr i ∧ 220 ≤ sLo i) ∨ (sKm i j c ∧ b = (if c = 5 then 1 else 2))
  | .invokespecial j => c = 9 ∨ (c = 1 ∧ b = 1 ∧ sKo j (sY i) ∧ 1 ≤ sFr i ∧ 20 ≤ sLo i) ∨ (c = 4 ∧ 0 < b ∧ sKa i j a (b - 1) ∧ sHh a = [] ∧ Cond.instanceMethod (sY a) ∈ sGG ∧ (sY a).name = "<init>" ∧ sRt a = none)
  | _ => True
/-- the table says the program -/
def sTabOk : Prop := ∀ (i pc : Nat) (q : sIns), sCode i pc = some q → decode (sBy i) pc = .ok (q.1, q.2.1) ∧ sLk (sY i) pc q.1 q.2.1 q.2.2.1 q.2.2.2.1 q.2.2.2.2.1 q.2.2.2.2.2 ∧ sLq i pc q.1 q.2.2.1 q.2.2.2.1 q.2.2.2.2.1
/-- what holds from the law's start on -/
def sGl (D : va_G) (s0 : State) (γ : Nat → Nat → Nat) (l : Launch) : Prop :=
  (∀ w ∈ sGW, w.before #[] s0 = true) ∧ va_K D sCl [] s0 ∧ sStc s0 γ s0 ∧ l.stackTraces = false ∧
  vx_Zq Bundle.tN "UNASSIGNED_STACK" Bundle.steD (fun q => s0.heap.size ≤ q) s0 s0.heap ∧ vx_Zq Bundle.tN "SUPPRESSED_SENTINEL" Bundle.listD (fun q => s0.heap.size ≤ q) s0 s0.heap ∧ ∀ q ∈ sStr, ∃ sa, vk_R q.1 q.2.1 q.2.2 sa s0
def sPc (D : va_G) (s0 : State) (γ : Nat → Nat → Nat) (as : List sV) (t : sT) : Array Value → State → Prop := fun a U => a = (as.map (sTr γ)).toArray ∧ sRep D s0 γ t U.heap ∧ s0.WarmedH U.vm
def sQc (D : va_G) (s0 : State) (γ : Nat → Nat → Nat) (r : sRs) (t' : sT) : Array Value → State → Outcome → State → Prop := fun _ _ o t => (∃ v, r = .inl v ∧ o = .returned (v.map (sTr γ)) ∧ ∀ x, v = some x → ¬ sJ x ∧ sOkV t' x) ∧ sRep D s0 γ t' t.heap
def sXc (D : va_G) (s0 : State) (γ : Nat → Nat → Nat) (r : sRs) (t' : sT) : String → State → State → Prop := fun E _ t => ∃ k, r = .inr k ∧ k < 3 ∧ E = sEc k ∧ sRep D s0 γ t' t.heap
theorem sPc_blind {D : va_G} {s0 : State} {γ : Nat → Nat → Nat} {as : List sV} {t : sT} : FrameBlind (sPc D s0 γ as t) := fun _ _ _ _ h => h
theorem sStc_at {s0 s : State} {γ : Nat → Nat → Nat} (h : sStc s0 γ s0) (hal : s0.vm.Alike s.vm) (hol : ∀ q : Nat, q < s0.heap.size → s.heap[q]? = s0.heap[q]?) : sStc s0 γ s := fun a b hab =>
  va_Z.moved hal ((h a b hab).kept fun q h1 h2 => hol q h1)
