/-! calls; and every run -/
section S18
variable {p : Program} {l : Launch} {e : Env} {R : Room} {s : State} {m : MethodId} {args : Array Value} {below : List Frame} {meth : Method} {c : Code} {D : va_G} {s0 : State} {γ : Nat → Nat → Nat} {n0 w0 : Nat}
/-! static calls with nine words below them -/
theorem vx_runS9 {H : Heap} {locs : List Loc} {cells slots : Nat} {y : MethodName} {bytes cc : ByteArray} {maxL nL mc ms n index : Nat} {ret : Option FieldType} {ws : List Cond} {rm : Room} {Pc : Array Value → State → Prop} {Qc : Array Value → State → Outcome → State → Prop} {XC : String → State → State → Prop} {free : Addr → Prop} {Ts : List Cond} {own : String} {As rest : List Value} {g : JFrame} (S : CallFix p m c cc nL s args Ts own) (hM : vx_Met l y ws rm Pc Qc XC mc ms free) (hrc : rm.cells = mc) (hrs : rm.slots = ms) (hfr : rm.frames + 1 ≤ R.frames) (hlo : 9 + (maxL + 11) + rm.locals ≤ R.locals)
    (hws : ∀ w ∈ ws, ∀ (a' : Array Value) (U : State), s.WarmedH U.vm → w.before a' U = true) (hcw : Cond.code y bytes maxL ret ∈ ws) (hcode : (Cond.code y bytes maxL ret).before args s = true) (hini : (Cond.initialized y.cls).before args s = true) (hy : y.cls ≠ "java/lang/invoke/MethodHandle" ∧ y.cls ≠ "java/lang/invoke/VarHandle")
    (hlen : ∀ sig, parseMethodDescriptor y.desc = some sig → n = sig.parameters.length) (hl : (Cond.methodLink own index y).before args s = true) (hstt : (Cond.static y).before args s = true) (hp : PreS s H Pc As)
    (hg : g.method = m) (hn : As.length = n) (hsize : g.locals.size = nL) (hstack : g.stack = As.reverse ++ rest) (hW : 2 * g.monitorRoom + (rest.map fun v => v.category).sum ≤ 9) (hdg : decode cc g.pc = .ok (.invokestatic index, 3)) (hf : cells + mc ≤ R.cells ∧ slots + ms ≤ R.slots) :
    vx_Run p l e R s m args below meth c H locs cells slots mc ms g rest (Qc As.toArray) XC free := by
  have hK : vx_Back l R p e below s args y 3 9 (PreOf R mc ms Pc) (PostOf Qc mc ms free) (vx_Post XC mc ms free) := vx_back (bytes := bytes) (maxL := maxL) (ret := ret) hM hp.1 hrc hrs hfr hlo hws hcw (fun a' U hW => word_at hW (Or.inl (by first | rfl | simp [Cond.onTables, Cond.keeps, Cond.steady])) hini)
  obtain ⟨hx, hb, hml, ho, -⟩ := S
  intro T hT X
  rcases vx_callS X hx (bytes := bytes) (maxL := maxL) (ret := ret) ho hl hstt hini hcode hy hK hg (hsize.trans hml.symm) (argsL := As) (rest := rest) (fun sig h => hn.trans (hlen sig h)) hstack hW (by rw [hb]; exact hdg)
    (fun vm₁ hW₁ => ⟨hf.1, hf.2, hp.2 (T.setVm vm₁) hT hW₁⟩) with ⟨v, vm₁, ⟨U', l2, c2, s2⟩, hW₁, X', ⟨g', mk, t, L, e1, e2, hq, h1, hL, h2, h3⟩, st⟩ | ⟨q, vm₁, ⟨U', l2, c2, s2⟩, hW₁, X', ⟨g', mk, t, L, E, ce, e1, e2, hq, hce, hcv, hcl, h1, hL, h2, h3⟩, st⟩
  · dsimp only [Pt.U, Pt.locs, Pt.cells, Pt.slots] at X' e1 e2 h1 h2 h3 st
    subst h1; subst h2; subst h3
    exact Or.inl ⟨v, (T.setVm vm₁).calling g' mk As.toArray, t, U', L, hT, X', hL, e1, e2, hq, st⟩
  · dsimp only [Pt.U, Pt.locs, Pt.cells, Pt.slots] at X' e1 e2 h1 h2 h3 st hcl
    subst h1; subst h2; subst h3
    exact Or.inr ⟨q, (T.setVm vm₁).calling g' mk As.toArray, t, U', L, E, ce, hT, X', hL, e1, e2, hq, hce, hcv, vx_cls hW₁ hcl, st⟩
theorem vx_runSX9 {H : Heap} {locs : List Loc} {cells slots : Nat} {y : MethodName} {bytes cc : ByteArray} {maxL nL mc ms n index : Nat} {ret : Option FieldType} {ws : List Cond} {rm : Room} {Pc : Array Value → State → Prop} {Qc : Array Value → State → Outcome → State → Prop} {XC : String → State → State → Prop} {free : Addr → Prop} {Ts : List Cond} {own : String} {As rest : List Value} {g : JFrame} {hh : List (Nat × Nat × Nat × Nat)} (S : CallFix p m c cc nL s args Ts own) (hM : vx_Met l y ws rm Pc Qc XC mc ms free) (hrc : rm.cells = mc) (hrs : rm.slots = ms) (hfr : rm.frames + 1 ≤ R.frames) (hlo : 9 + (maxL + 11) + rm.locals ≤ R.locals)
    (hws : ∀ w ∈ ws, ∀ (a' : Array Value) (U : State), s.WarmedH U.vm → w.before a' U = true) (hcw : Cond.codeWith y bytes maxL ret hh ∈ ws) (hcode : (Cond.codeWith y bytes maxL ret hh).before args s = true) (hini : (Cond.initialized y.cls).before args s = true) (hy : y.cls ≠ "java/lang/invoke/MethodHandle" ∧ y.cls ≠ "java/lang/invoke/VarHandle")
    (hlen : ∀ sig, parseMethodDescriptor y.desc = some sig → n = sig.parameters.length) (hl : (Cond.methodLink own index y).before args s = true) (hstt : (Cond.static y).before args s = true) (hp : PreS s H Pc As)
    (hg : g.method = m) (hn : As.length = n) (hsize : g.locals.size = nL) (hstack : g.stack = As.reverse ++ rest) (hW : 2 * g.monitorRoom + (rest.map fun v => v.category).sum ≤ 9) (hdg : decode cc g.pc = .ok (.invokestatic index, 3)) (hf : cells + mc ≤ R.cells ∧ slots + ms ≤ R.slots) :
    vx_Run p l e R s m args below meth c H locs cells slots mc ms g rest (Qc As.toArray) XC free := by
  have hK : vx_Back l R p e below s args y 3 9 (PreOf R mc ms Pc) (PostOf Qc mc ms free) (vx_Post XC mc ms free) := vx_backW (hh := hh) (bytes := bytes) (maxL := maxL) (ret := ret) hM hp.1 hrc hrs hfr hlo hws hcw (fun a' U hW => word_at hW (Or.inl (by first | rfl | simp [Cond.onTables, Cond.keeps, Cond.steady])) hini)
  obtain ⟨hx, hb, hml, ho, -⟩ := S
  intro T hT X
  rcases vx_callSX X hx (hh := hh) (bytes := bytes) (maxL := maxL) (ret := ret) ho hl hstt hini hcode hy hK hg (hsize.trans hml.symm) (argsL := As) (rest := rest) (fun sig h => hn.trans (hlen sig h)) hstack hW (by rw [hb]; exact hdg)
    (fun vm₁ hW₁ => ⟨hf.1, hf.2, hp.2 (T.setVm vm₁) hT hW₁⟩) with ⟨v, vm₁, ⟨U', l2, c2, s2⟩, hW₁, X', ⟨g', mk, t, L, e1, e2, hq, h1, hL, h2, h3⟩, st⟩ | ⟨q, vm₁, ⟨U', l2, c2, s2⟩, hW₁, X', ⟨g', mk, t, L, E, ce, e1, e2, hq, hce, hcv, hcl, h1, hL, h2, h3⟩, st⟩
  · dsimp only [Pt.U, Pt.locs, Pt.cells, Pt.slots] at X' e1 e2 h1 h2 h3 st
    subst h1; subst h2; subst h3
    exact Or.inl ⟨v, (T.setVm vm₁).calling g' mk As.toArray, t, U', L, hT, X', hL, e1, e2, hq, st⟩
  · dsimp only [Pt.U, Pt.locs, Pt.cells, Pt.slots] at X' e1 e2 h1 h2 h3 st hcl
    subst h1; subst h2; subst h3
    exact Or.inr ⟨q, (T.setVm vm₁).calling g' mk As.toArray, t, U', L, E, ce, hT, X', hL, e1, e2, hq, hce, hcv, vx_cls hW₁ hcl, st⟩
/-- what a call asks of the machine: whatever the way it is called -/
theorem s_run (hG : sGl D s0 γ l) {f i g j b : Nat} {x : Instr} {pc : Nat} {st : List sV} {t t1 : sT} {r1 : sRs} (ih : sSnd D s0 γ l f) (X : sCx D s0 γ n0 (sY i) (sBy i) p s m args meth c) (hW0 : s0.WarmedH s.vm) (hml : c.maxLocals = sML i) (hF : sFr i ≤ R.frames) (hLo : sLo i ≤ R.locals)
    (hr : sRun f g 0 (sEn (st.take b).reverse (sML g)) [] t = some (r1, t1)) (hpr : sPr s0 γ t1) (hlen : (sEx (st.take b).reverse).length ≤ sML g) (hall : (st.take b).all sNj = true) (hb : b ≤ st.length) (h9 : ((st.drop b).map sCat).sum ≤ 9) (h8 : (¬ ∃ j9, x = .invokestatic j9) → ((st.drop b).map sCat).sum ≤ 8)
    (hn : n0 ≤ sn t) (hw0 : w0 ≤ sw t) (hrc : sn t1 - n0 ≤ R.cells) (hrs : sw t1 - w0 ≤ R.slots)
    (hk : (x = .invokestatic j ∧ sKa i j g b ∧ Cond.static (sY g) ∈ sGG) ∨
      (x = .invokevirtual j ∧ 0 < b ∧ sKa i j g (b - 1) ∧ sHh g = [] ∧ Cond.instanceMethod (sY g) ∈ sGG ∧ Cond.selects (sY g).cls (sY g) (sY g) ∈ sGG ∧ sRk g < 14 ∧ (∃ q : vw_C, sCl[sRk g]? = some q ∧ q.1 = (sY g).cls) ∧ ∃ o tl, (st.take b).reverse = .inr (.inr (sRk g, some o)) :: tl) ∨
      (x = .invokespecial j ∧ 0 < b ∧ sKa i j g (b - 1) ∧ sHh g = [] ∧ Cond.instanceMethod (sY g) ∈ sGG ∧ (sY g).name = "<init>" ∧ sRt g = none ∧ ∃ k o tl, (st.take b).reverse = .inr (.inr (k, some o)) :: tl))
    (hret : x = .invokespecial j → ∃ v, r1 = .inl v) (hd : decode (sBy i) pc = .ok (x, 3)) {H : Heap} {locs : List Loc} {arr : Array Slot} {mst : List Value} (hR : sRep D s0 γ t H) (hL : ∀ q ∈ locs, s0.heap.size ≤ q.base) (hs : sSr γ t st mst) (hz : arr.size = c.maxLocals) :
    vx_Run p l e R s m args below meth c H locs (sn t - n0) (sw t - w0) (sn t1 - sn t) (sw t1 - sw t) (F0 m pc arr mst) (mst.drop b) (sQc D s0 γ r1 t1 (((st.take b).reverse.map (sTr γ)).toArray)) (sXc D s0 γ r1 t1) (fun q => s0.heap.size ≤ q) := by
  obtain ⟨hx, hbc, hown, hts, hal, hK, hini, hsz, hol, hst⟩ := X
  have hext := sRun_ext _ _ _ _ _ _ _ _ hr
  obtain ⟨hv, hmap, hrest⟩ := sSr_take b hs hall
  have hv' : ∀ y ∈ (st.take b).reverse, ¬ sJ y ∧ sOkV t y := fun y hy => hv y (List.mem_reverse.mp hy)
  have hmst : mst = ((st.take b).reverse.map (sTr γ)).reverse ++ mst.drop b := by
    rw [List.map_reverse, List.reverse_reverse, ← hmap, List.take_append_drop]
  have hlenb : ((st.take b).reverse.map (sTr γ)).length = b := by rw [List.length_map, List.length_reverse, List.length_take]; omega
  have hcat9 : 2 * (F0 m pc arr mst).monitorRoom + ((mst.drop b).map fun v => v.category).sum ≤ 9 := by
    have := hrest.cats
    show 2 * 0 + _ ≤ 9
    omega
  have hcats : (¬ ∃ j9, x = .invokestatic j9) → 2 * (F0 m pc arr mst).monitorRoom + ((mst.drop b).map fun v => v.category).sum ≤ 8 := fun hx9 => by
    have := hrest.cats
    have h8' := h8 hx9
    show 2 * 0 + _ ≤ 8
    omega
  have k88 : ∀ {y9 z9 w9 : Nat}, 9 + y9 + z9 ≤ w9 → 8 + y9 + z9 ≤ w9 := fun h => by omega
  have hkg : ∃ nn, sKa i j g nn := by
    rcases hk with h | h | h
    · exact ⟨_, h.2.1⟩
    · exact ⟨_, h.2.2.1⟩
    · exact ⟨_, h.2.2.1⟩
  obtain ⟨nn0, k1, k2, k3, -, k5, k6, k7, k8⟩ := hkg
  have hM := sMetOk hG ih hr hv' hlen hpr k6
  have hws : ∀ w ∈ [sCw g], ∀ (a' : Array Value) (U : State), s.WarmedH U.vm → w.before a' U = true := fun w hw a' U hWU => by
    rw [List.mem_singleton.mp hw]
    exact word_at hWU (good_of_word (List.mem_filter.mp k3).2) (hts _ (sGG_GW k3))
  have hS : CallFix p m c (sBy i) (sML i) s args sGW (sY i).cls := ⟨hx, hbc, hml, hown, hts⟩
  have hPc : ∀ U : State, U.heap = H → s.WarmedH U.vm → sPc D s0 γ (st.take b).reverse t (((st.take b).reverse.map (sTr γ)).toArray) U := fun U hU hWU => ⟨rfl, by rw [hU]; exact hR, hW0.trans hWU⟩
  have hfit : sn t - n0 + (sn t1 - sn t) ≤ R.cells ∧ sw t - w0 + (sw t1 - sw t) ≤ R.slots := by
    have := hext.2.2
    omega
  have hsigq : ∀ {nn}, (parseMethodDescriptor (sY g).desc).map (fun d => d.parameters.length) = some nn → ∀ sig, parseMethodDescriptor (sY g).desc = some sig → nn = sig.parameters.length := fun h sig q => by
    rw [q] at h
    exact (Option.some.inj h).symm
  rcases hk with ⟨rfl, h1, h2⟩ | ⟨rfl, hb0, h1, hh, h2, h3, h4, ⟨q, hq1, hq2⟩, o, tl, ho⟩ | ⟨rfl, hb0, h1, hh, h2, h3, h4, k, o, tl, ho⟩
  · obtain ⟨-, -, -, z4, -⟩ := h1
    by_cases hh : sHh g = []
    · have hcw : sCw g = Cond.code (sY g) (sBy g) (sML g) (sRt g) := by unfold sCw; rw [if_pos hh]
      rw [hcw] at hM hws k3
      exact vx_runS9 hS hM rfl rfl (Nat.le_trans k7 hF) (Nat.le_trans k8 hLo) hws List.mem_cons_self (hts _ (sGG_GW k3)) (hts _ (sGG_GW k2)) k5 (hsigq z4) (hts _ (sGG_GW k1)) (hts _ (sGG_GW h2)) ⟨sPc_blind, hPc⟩ rfl hlenb (hz.trans hml) hmst hcat9 hd hfit
    · have hcw : sCw g = Cond.codeWith (sY g) (sBy g) (sML g) (sRt g) (sHh g) := by unfold sCw; rw [if_neg hh]
      rw [hcw] at hM hws k3
      exact vx_runSX9 hS hM rfl rfl (Nat.le_trans k7 hF) (Nat.le_trans k8 hLo) hws List.mem_cons_self (hts _ (sGG_GW k3)) (hts _ (sGG_GW k2)) k5 (hsigq z4) (hts _ (sGG_GW k1)) (hts _ (sGG_GW h2)) ⟨sPc_blind, hPc⟩ rfl hlenb (hz.trans hml) hmst hcat9 hd hfit
  · obtain ⟨-, -, -, z4, -⟩ := h1
    have hcw : sCw g = Cond.code (sY g) (sBy g) (sML g) (sRt g) := by unfold sCw; rw [if_pos hh]
    rw [hcw] at hM hws k3
    rw [ho] at hPc hmst hlenb hv' hM ⊢
    have ho1 : o < sC t (sRk g) := (hv' _ List.mem_cons_self).2
    obtain ⟨cell, g1, g2, g3, -⟩ := hR.2.2.1 (sRk g) o h4 ho1
    have hcl := (hK.1 _ _ hq1).2
    have hlen2 : (tl.map (sTr γ)).length = b - 1 := by
      rw [List.map_cons, List.length_cons] at hlenb; omega
    exact vx_runV hS hM (As := tl.map (sTr γ)) (b := γ (sRk g) o) (C := (sY g).cls) ⟨⟨rfl, rfl, Nat.le_trans k7 hF, Nat.le_trans (k88 k8) hLo, hws, List.mem_cons_self, hts _ (sGG_GW k3), hts _ (sGG_GW k2), k5, hsigq z4, hts _ (sGG_GW k1)⟩, hts _ (sGG_GW h2), hts _ (sGG_GW h3)⟩
      ⟨sPc_blind, ⟨cell, g1, by rw [g3]; rfl, by rw [g2, ← hq2]; exact hcl.1⟩, hPc⟩ rfl hlen2 (hz.trans hml) (hmst.trans (by rw [List.map_cons, List.reverse_cons, List.append_assoc]; rfl)) (hcats (fun z => by obtain ⟨j9, z⟩ := z; cases z)) hd hfit
  · obtain ⟨-, -, -, z4, -⟩ := h1
    have hcw : sCw g = Cond.code (sY g) (sBy g) (sML g) (sRt g) := by unfold sCw; rw [if_pos hh]
    rw [hcw, h4] at hM hws k3
    rw [ho] at hPc hmst hlenb hv' ⊢
    obtain ⟨v0, hv0⟩ := hret rfl
    have hM2 : Met l (sY g) [Cond.code (sY g) (sBy g) (sML g) none] { frames := sFr g, cells := sn t1 - sn t, slots := sw t1 - sw t, locals := sLo g } (sPc D s0 γ (st.take b).reverse t) (sQc D s0 γ r1 t1) (sn t1 - sn t) (sw t1 - sw t) (fun q => s0.heap.size ≤ q) := by
      intro p e ha hc hk s m args below hf happ hP hK
      obtain ⟨n, o, h1, h2, h3, h4⟩ := hM p e ha hc hk s m args below hf happ hP hK
      refine ⟨n, o, h1, h2, h3, ?_⟩
      rcases h4 with h | ⟨q, -, E, ce, L, ⟨k, hk, -⟩, -⟩
      · exact h
      · rw [hv0] at hk; cases hk
    have hlen2 : (tl.map (sTr γ)).length = b - 1 := by
      rw [List.map_cons, List.length_cons] at hlenb; omega
    rw [ho] at hM2
    intro T hT XT
    obtain ⟨v, st₀, u, T', L, q1, q2, q3, q4, q5, q6, q7⟩ := va_runI hS hM2 (As := tl.map (sTr γ)) (b := γ k o) (rest := mst.drop b) (H := H) (locs := locs) (cells := sn t - n0) (slots := sw t - w0) (below := below) (meth := meth) (e := e) (R := R) (g := F0 m pc arr mst) (index := j)
      ⟨⟨rfl, rfl, Nat.le_trans k7 hF, Nat.le_trans (k88 k8) hLo, hws, List.mem_cons_self, hts _ (sGG_GW k3), hts _ (sGG_GW k2), k5, hsigq z4, hts _ (sGG_GW k1)⟩, h3, hts _ (sGG_GW h2)⟩ ⟨sPc_blind, hPc⟩ rfl hlen2 (hz.trans hml) (hmst.trans (by rw [List.map_cons, List.reverse_cons, List.append_assoc]; rfl)) (hcats (fun z => by obtain ⟨j9, z⟩ := z; cases z)) hd hfit T hT XT
    exact Or.inl ⟨v, st₀, u, T', L, q1, q2, q3, q4, q5, q6, q7⟩
end S18
