/-! what the table's numbers must say; and every step of the small machine is one of the machine's -/
def sFk (own : String) (j a : Nat) : Prop := a / 64 < 14 ∧ ∃ (q : vw_C) (ref : String), sCl[a / 64]? = some q ∧ a % 64 < q.2.2 ∧ Cond.fieldLink own j ref (q.2.1 (a % 64)).2.1 (q.2.1 (a % 64)).2.2.1 ∈ sGW ∧
  (ref = (q.2.1 (a % 64)).1 ∨ Cond.sameField ref (q.2.1 (a % 64)).1 (q.2.1 (a % 64)).2.1 (q.2.1 (a % 64)).2.2.1 ∈ sGW)
def sFn (y : MethodName) (a : Nat) : Prop := ∃ q : vw_C, sCl[a / 64]? = some q ∧ ((q.2.1 (a % 64)).2.2.2 = false ∨ (y.name = "<init>" ∧ (q.2.1 (a % 64)).1 = y.cls))
/-- the statics that are read: their class, name, type -/
def sS3 (a b : Nat) : String × String × String := if a = 27 then ("java/util/ArrayList", "DEFAULTCAPACITY_EMPTY_ELEMENTDATA", "[Ljava/lang/Object;") else if b = 0 then ("BookExchange", "LEG_TABLE", "[I") else ("BookExchange", "LEG_TABLE", "[I")
def sSk (own : String) (j a b : Nat) : Prop := ((a = 27 ∧ b = 0) ∨ (a = 28 ∧ b < 2)) ∧ ((∃ host, Cond.fieldLinkNest own j (sS3 a b).1 (sS3 a b).2.1 (sS3 a b).2.2 host ∈ sGW) ∨ Cond.fieldLink own j (sS3 a b).1 (sS3 a b).2.1 (sS3 a b).2.2 ∈ sGW)
def sNk (own : String) (j a b : Nat) : Prop := a < 14 ∧ ∃ q : vw_C, sCl[a]? = some q ∧ b = q.2.2 ∧ Cond.classLink own j q.1 ∈ sGW ∧ Cond.instantiable q.1 q.2.2 ∈ sGW ∧ Cond.initialized q.1 ∈ sGW
def sLk (y : MethodName) (pc : Nat) (x : Instr) (n a b c : Nat) (v : Int32) : Prop := match x with
  | .iconst k => n = 1 ∧ Int32.ofInt k = v
  | .bipush k => n = 2 ∧ (Int8.ofInt k).toInt32 = v
  | .sipush k => n = 3 ∧ (Int16.ofInt k).toInt32 = v
  | .ldc j => n = 2 ∧ Cond.constant y.cls j v ∈ sGW
  | .ldc_w j => n = 3 ∧ Cond.constant y.cls j v ∈ sGW
  | .lconst k => n = 1 ∧ (k : Nat) = a
  | .iload j => n = 2 ∧ j = a
  | .lload j => n = 2 ∧ j = a
  | .aload j => n = 2 ∧ j = a
  | .istore j => n = 2 ∧ j = a
  | .lstore j => n = 2 ∧ j = a
  | .astore j => n = 2 ∧ j = a
  | .iload_n j => n = 1 ∧ (j : Nat) = a
  | .lload_n j => n = 1 ∧ (j : Nat) = a
  | .aload_n j => n = 1 ∧ (j : Nat) = a
  | .istore_n j => n = 1 ∧ (j : Nat) = a
  | .lstore_n j => n = 1 ∧ (j : Nat) = a
  | .astore_n j => n = 1 ∧ (j : Nat) = a
  | .iinc j k => n = 3 ∧ j = a ∧ Int32.ofInt k = v
  | .ifCond _ off => n = 3 ∧ (pc : Int) + off = (a : Int)
  | .if_icmp _ off => n = 3 ∧ (pc : Int) + off = (a : Int)
  | .if_acmp _ off => n = 3 ∧ (pc : Int) + off = (a : Int)
  | .ifnull off => n = 3 ∧ (pc : Int) + off = (a : Int)
  | .ifnonnull off => n = 3 ∧ (pc : Int) + off = (a : Int)
  | .goto off => n = 3 ∧ (pc : Int) + off = (a : Int)
  | .tableswitch d lo hi offs => 0 ≤ (pc : Int) + d ∧ (∀ o ∈ offs.toList, 0 ≤ (pc : Int) + o) ∧ (hi - lo + 1).toNat = offs.size ∧ 0 ≤ hi - lo + 1
  | .getfield j => n = 3 ∧ b = sTb a ∧ c = sTc a ∧ sFk y.cls j a
  | .putfield j => n = 3 ∧ b = sTb a ∧ c = sTc a ∧ ¬ sTc a = 31 ∧ sFk y.cls j a ∧ sFn y a
  | .getstatic j => n = 3 ∧ sSk y.cls j a b
  | .new j => n = 3 ∧ (c = 0 → sNk y.cls j a b)
  | .newarray ty => n = 2 ∧ newarray.typeOf ty = sAt a ∧ (a = 20 ∨ a = 21 ∨ a = 22 ∨ a = 23) ∧ Cond.arrayClass (newarray.typeOf ty) ∈ sGW
  | .anewarray j => n = 3 ∧ (24 ≤ a ∧ a < 28) ∧ ∃ C, sAt a = .object C ∧ Cond.arrayOver (.object C) ∈ sGW ∧ Cond.classLink y.cls j C ∈ sGW
  | .checkcast j => n = 3 ∧ a < 14 ∧ ∃ q : vw_C, sCl[a]? = some q ∧ Cond.classLink y.cls j q.1 ∈ sGW
  | .invokevirtual _ => n = 3
  | .invokespecial _ => n = 3
  | .invokestatic _ => n = 3
  | _ => n = 1
/-- what is known of the classes -/
def sClOk : Prop := ∀ (k : Nat) (q : vw_C), sCl[k]? = some q → (∀ w ∈ u_ws q.1 q.2.1 q.2.2, w ∈ sGW) ∧ sNf k = q.2.2 ∧ Cond.castable q.1 "java/lang/Object" ∈ sGW ∧
  (∀ a, a < q.2.2 → ∀ b, b < q.2.2 → a ≠ b → (q.2.1 a).2.1 ≠ (q.2.1 b).2.1) ∧ ∃ ty0 : Nat → FieldType, (∀ j, j < q.2.2 → parseFieldDescriptor (q.2.1 j).2.2.1 = some (ty0 j)) ∧ ∀ j, j < q.2.2 → sTg0 (sTb (64 * k + j)) (ty0 j)
/-- the statics, as a state has them -/
def sStc (s0 : State) (γ : Nat → Nat → Nat) (s : State) : Prop := ∀ a b, ((a = 27 ∧ b = 0) ∨ (a = 28 ∧ b < 2)) → va_Z (sS3 a b).1 (sS3 a b).2.1 (sS3 a b).2.2 (.ref (γ a b)) (fun q => s0.heap.size ≤ q) s s.heap
/-- a method that stands: its program, what its state has -/
def sCx (D : va_G) (s0 : State) (γ : Nat → Nat → Nat) (n0 : Nat) (y : MethodName) (by9 : ByteArray) (p : Program) (s : State) (m : MethodId) (args : Array Value) (meth : Method) (c : Code) : Prop :=
  p.tables.exec = Jvm.exec ∧ c.code = by9 ∧ s.vm.findClass y.cls = some m.cls ∧ (∀ w ∈ sGW, w.before args s = true) ∧ s0.vm.Alike s.vm ∧ va_K D sCl [] s ∧ (y.name = "<init>" → meth.name = "<init>") ∧
  s.heap.size = s0.heap.size + n0 ∧ (∀ q : Nat, q < s0.heap.size → s.heap[q]? = s0.heap[q]?) ∧ sStc s0 γ s
section S13
variable {p : Program} {l : Launch} {e : Env} {R : Room} {s : State} {m : MethodId} {args : Array Value} {below : List Frame} {meth : Method} {c : Code} {Q : State → Prop} {D : va_G} {s0 : State} {γ : Nat → Nat → Nat} {n0 w0 : Nat}
theorem sCl_get {k : Nat} (h : k < 14) : ∃ q : vw_C, sCl[k]? = some q := ⟨sCl[k]'(by exact h), List.getElem?_eq_getElem (by exact h)⟩
set_option maxHeartbeats 4000000 in
theorem sStepOk (hC : sClOk) {y : MethodName} {cc : ByteArray} {x : Instr} {n a b c9 : Nat} {v : Int32} {pc pc' : Nat} {ls st ls' st' : List sV} {t t' : sT} (X : sCx D s0 γ n0 y cc p s m args meth c) (hd : decode cc pc = .ok (x, n)) (hk : sLk y pc x n a b c9 v)
    (hs : sStp x n a b c9 v pc ls st t = some (pc', ls', st', t')) (hn : n0 ≤ sn t) (hw0 : w0 ≤ sw t) (hrc : sn t' - n0 ≤ R.cells) (hrs : sw t' - w0 ≤ R.slots) (hpr : sPr s0 γ t')
    (kk : sOk p l e R s m args below meth c Q D s0 γ n0 w0 t' pc' ls' st') : sOk p l e R s m args below meth c Q D s0 γ n0 w0 t pc ls st := by
  obtain ⟨hx, hb, hown, hts, hal, hK, hini, hsz, hol, hst⟩ := X
  unfold sStp at hs
  split at hs
  · next k =>
    cases hs
    obtain ⟨rfl, h1⟩ := hk
    exact s_iconst hx hb hd h1 kk
  · next k =>
    cases hs
    obtain ⟨rfl, h1⟩ := hk
    exact s_bipush hx hb hd h1 kk
  · next k =>
    cases hs
    obtain ⟨rfl, h1⟩ := hk
    exact s_sipush hx hb hd h1 kk
  · next k =>
    cases hs
    obtain ⟨rfl, h1⟩ := hk
    exact s_ldc hx hb hown (hts _ h1) hd kk
  · next k =>
    cases hs
    obtain ⟨rfl, h1⟩ := hk
    exact s_ldc_w hx hb hown (hts _ h1) hd kk
  · next k =>
    cases hs
    obtain ⟨rfl, rfl⟩ := hk
    exact s_lconst hx hb hd kk
  · split at hs
    · cases hs
    · cases hs
      have hk : n = 1 := hk
      subst hk
      exact s_null hx hb hd kk
  · next k =>
    split at hs
    · next i hg =>
      cases hs
      obtain ⟨rfl, rfl⟩ := hk
      exact s_iload hx hb hd hg kk
    · cases hs
  · next k =>
    split at hs
    · next i hg =>
      cases hs
      obtain ⟨rfl, rfl⟩ := hk
      exact s_iload_n hx hb hd hg kk
    · cases hs
  · next k =>
    split at hs
    · next i hg =>
      cases hs
      obtain ⟨rfl, rfl⟩ := hk
      exact s_lload hx hb hd hg kk
    · cases hs
  · next k =>
    split at hs
    · next i hg =>
      cases hs
      obtain ⟨rfl, rfl⟩ := hk
      exact s_lload_n hx hb hd hg kk
    · cases hs
  · next k =>
    split at hs
    · next k1 r hg =>
      split at hs
      · cases hs
      · next h31 =>
        cases hs
        obtain ⟨rfl, rfl⟩ := hk
        exact s_aload hx hb hd hg h31 kk
    · cases hs
  · next k =>
    split at hs
    · next k1 r hg =>
      split at hs
      · cases hs
      · next h31 =>
        cases hs
        obtain ⟨rfl, rfl⟩ := hk
        exact s_aload_n hx hb hd hg h31 kk
    · cases hs
  · skip
    split at hs
    · next hg =>
      cases hs
      obtain ⟨rfl, rfl⟩ := hk
      exact s_istore hx hb hd hg kk
    · cases hs
  · skip
    split at hs
    · next hg =>
      cases hs
      obtain ⟨rfl, rfl⟩ := hk
      exact s_istore_n hx hb hd hg kk
    · cases hs
  · skip
    split at hs
    · next hg =>
      cases hs
      obtain ⟨rfl, rfl⟩ := hk
      exact s_lstore hx hb hd hg kk
    · cases hs
  · skip
    split at hs
    · next hg =>
      cases hs
      obtain ⟨rfl, rfl⟩ := hk
      exact s_lstore_n hx hb hd hg kk
    · cases hs
  · skip
    split at hs
    · next hg =>
      cases hs
      obtain ⟨rfl, rfl⟩ := hk
      exact s_astore hx hb hd hg.1 hg.2 kk
    · cases hs
  · skip
    split at hs
    · next hg =>
      cases hs
      obtain ⟨rfl, rfl⟩ := hk
      exact s_astore_n hx hb hd hg.1 hg.2 kk
    · cases hs
  · skip
    split at hs
    · next i hg =>
      cases hs
      obtain ⟨rfl, rfl, h1⟩ := hk
      exact s_iinc hx hb hd hg h1 kk
    · cases hs
  · skip
    split at hs
    · next hg =>
      cases hs
      have hk : n = 1 := hk
      subst hk
      exact s_dup hx hb hd hg kk
    · cases hs
  · skip
    split at hs
    · next hg =>
      cases hs
      have hk : n = 1 := hk
      subst hk
      exact s_dup2 hx hb hd hg.1 hg.2 kk
    · cases hs
  · skip
    split at hs
    · next hg =>
      cases hs
      have hk : n = 1 := hk
      subst hk
      exact s_dup_x1 hx hb hd hg.1 hg.2 kk
    · cases hs
  · skip
    split at hs
    · next hg =>
      cases hs
      have hk : n = 1 := hk
      subst hk
      exact s_pop hx hb hd hg kk
    · cases hs
  · skip
    cases hs
    have hk : n = 1 := hk
    subst hk
    exact s_iadd hx hb hd kk
  · skip
    cases hs
    have hk : n = 1 := hk
    subst hk
    exact s_isub hx hb hd kk
  · skip
    cases hs
    have hk : n = 1 := hk
    subst hk
    exact s_imul hx hb hd kk
  · skip
    split at hs
    · cases hs
    · next hg =>
      cases hs
      have hk : n = 1 := hk
      subst hk
      exact s_idiv hx hb hd hg kk
  · skip
    split at hs
    · cases hs
    · next hg =>
      cases hs
      have hk : n = 1 := hk
      subst hk
      exact s_irem hx hb hd hg kk
  · skip
    cases hs
    have hk : n = 1 := hk
    subst hk
    exact s_iand hx hb hd kk
  · skip
    cases hs
    have hk : n = 1 := hk
    subst hk
    exact s_ishr hx hb hd kk
  · skip
    cases hs
    have hk : n = 1 := hk
    subst hk
    exact s_ineg hx hb hd kk
  · skip
    cases hs
    have hk : n = 1 := hk
    subst hk
    exact s_i2l hx hb hd kk
  · skip
    cases hs
    have hk : n = 1 := hk
    subst hk
    exact s_l2i hx hb hd kk
  · skip
    cases hs
    have hk : n = 1 := hk
    subst hk
    exact s_ladd hx hb hd kk
  · skip
    cases hs
    have hk : n = 1 := hk
    subst hk
    exact s_lsub hx hb hd kk
  · skip
    cases hs
    have hk : n = 1 := hk
    subst hk
    exact s_lmul hx hb hd kk
  · skip
    split at hs
    · cases hs
    · next hg =>
      cases hs
      have hk : n = 1 := hk
      subst hk
      exact s_ldiv hx hb hd hg kk
  · skip
    cases hs
    have hk : n = 1 := hk
    subst hk
    exact s_lcmp hx hb hd kk
  · next q off i st1 =>
    cases hs
    obtain ⟨rfl, h1⟩ := hk
    cases q
    · exact s_if_eq hx hb hd h1 kk
    · exact s_if_ne hx hb hd h1 kk
    · exact s_if_lt hx hb hd h1 kk
    · exact s_if_ge hx hb hd h1 kk
    · exact s_if_gt hx hb hd h1 kk
    · exact s_if_le hx hb hd h1 kk
  · next q off i1 i2 st1 =>
    cases hs
    obtain ⟨rfl, h1⟩ := hk
    cases q
    · exact s_icmp_eq hx hb hd h1 kk
    · exact s_icmp_ne hx hb hd h1 kk
    · exact s_icmp_lt hx hb hd h1 kk
    · exact s_icmp_ge hx hb hd h1 kk
    · exact s_icmp_gt hx hb hd h1 kk
    · exact s_icmp_le hx hb hd h1 kk
  · skip
    split at hs
    · next hg =>
      obtain ⟨rfl, hg⟩ := hg
      obtain ⟨rfl, h1⟩ := hk
      split at hs
      · cases hs
        exact s_acmp_eq hx hb hd h1 (by omega) (hg.elim Or.inl (fun q => Or.inr (Or.inl q))) kk
      · cases hs
        exact s_acmp_ne hx hb hd h1 (by omega) (hg.elim Or.inl (fun q => Or.inr (Or.inl q))) kk
    · cases hs
  · skip
    split at hs
    · cases hs
    · next hg =>
      cases hs
      obtain ⟨rfl, h1⟩ := hk
      exact s_ifnull hx hb hd h1 hg kk
  · skip
    split at hs
    · cases hs
    · next hg =>
      cases hs
      obtain ⟨rfl, h1⟩ := hk
      exact s_ifnonnull hx hb hd h1 hg kk
  · skip
    cases hs
    obtain ⟨rfl, h1⟩ := hk
    exact s_goto hx hb hd h1 kk
  · skip
    cases hs
    obtain ⟨h1, h2, h3⟩ := hk
    exact s_switch hx hb hd h1 h2 h3 kk
  · skip
    split at hs
    · next hg =>
      cases hs
      subst hg
      obtain ⟨rfl, rfl, rfl, h14, q, ref, h1, h2, h3, h4⟩ := hk
      obtain ⟨g1, g2, -⟩ := hC _ _ h1
      exact s_getf hx hb hts hown hK h1 g1 h2 h14 g2 (hts _ h3) (h4.imp id (hts _)) hd kk
    · cases hs
  · skip
    split at hs
    · next hg =>
      subst hg
      obtain ⟨rfl, rfl, rfl, h31, ⟨h14, q, ref, h1, h2, h3, h4⟩, q', f1, f2⟩ := hk
      obtain ⟨g1, g2, -, g3, ty0, g4, g5⟩ := hC _ _ h1
      rw [h1] at f1
      cases f1
      have g6 := g5 _ h2
      rw [show 64 * (a / 64) + a % 64 = a by omega] at g6
      obtain ⟨t1, e1, e2⟩ := Option.map_eq_some_iff.mp hs
      cases e2
      exact s_putf hx hb hts hown hK h1 g1 ty0 g4 g3 g6 h2 h14 g2 (hts _ h3) (h4.imp id (hts _)) (f2.imp id (fun z => ⟨hini z.1, z.2⟩)) hd e1 h31 kk
    · cases hs
  · skip
    split at hs
    · next hg =>
      cases hs
      obtain ⟨rfl, h1, h2⟩ := hk
      exact s_gets hx hb hown (hst _ _ h1) hsz hol hn hg (h2.imp (fun ⟨host, z⟩ => ⟨host, hts _ z⟩) (hts _)) hd kk
    · cases hs
  · skip
    split at hs
    · next hg =>
      cases hs
      obtain ⟨rfl, hk⟩ := hk
      obtain ⟨h14, q, h1, rfl, h2, h3, h4⟩ := hk hg
      obtain ⟨g1, g2, -, g3, ty0, g4, g5⟩ := hC _ _ h1
      exact s_new hx hb hts hown hK h1 g1 ty0 g4 g5 h14 g2 (hts _ h2) (hts _ h3) (hts _ h4) hd hn hw0 hrc hrs hpr kk
    · cases hs
  · skip
    split at hs
    · next hg =>
      cases hs
      obtain ⟨rfl, h1, h2, h3⟩ := hk
      exact s_newa hx hb hal h2 h1 (hts _ h3) hg hd hn hw0 hrc hrs hpr kk
    · cases hs
  · skip
    split at hs
    · next hg =>
      cases hs
      obtain ⟨rfl, h1, C, h2, h3, h4⟩ := hk
      exact s_anew hx hb hal hown h1 h2 (hts _ h3) (hts _ h4) hg hd hn hw0 hrc hrs hpr kk
    · cases hs
  · skip
    split at hs
    · next hg =>
      cases hs
      have hk : n = 1 := hk
      subst hk
      exact s_alen hx hb hal hg hd kk
    · cases hs
  · skip
    split at hs
    · next hg =>
      cases hs
      have hk : n = 1 := hk
      subst hk
      exact s_iald hx hb hal hg.1 hg.2 hd kk
    · cases hs
  · skip
    split at hs
    · next hg =>
      cases hs
      have hk : n = 1 := hk
      subst hk
      obtain ⟨rfl, hg⟩ := hg
      exact s_bald hx hb hal hg hd kk
    · cases hs
  · skip
    split at hs
    · next hg =>
      cases hs
      have hk : n = 1 := hk
      subst hk
      obtain ⟨rfl, hg⟩ := hg
      exact s_lald hx hb hal hg hd kk
    · cases hs
  · skip
    split at hs
    · next hg =>
      cases hs
      have hk : n = 1 := hk
      subst hk
      exact s_aald hx hb hal hg.1 hg.2 hd kk
    · cases hs
  · skip
    split at hs
    · next hg =>
      cases hs
      have hk : n = 1 := hk
      subst hk
      exact s_iast hx hb hal hg.1 hg.2 hd kk
    · cases hs
  · skip
    split at hs
    · next hg =>
      cases hs
      have hk : n = 1 := hk
      subst hk
      obtain ⟨rfl, hg⟩ := hg
      exact s_bast hx hb hal hg.1 hg.2 hd kk
    · cases hs
  · skip
    split at hs
    · next hg =>
      cases hs
      have hk : n = 1 := hk
      subst hk
      obtain ⟨rfl, hg⟩ := hg
      exact s_last hx hb hal hg hd kk
    · cases hs
  · skip
    split at hs
    · next hg =>
      cases hs
      have hk : n = 1 := hk
      subst hk
      exact s_aast hx hb hal hK hg.1 hg.2 (fun q hq => hts _ (hC _ _ hq).2.2.1) hd kk
    · cases hs
  · skip
    split at hs
    · next hg =>
      cases hs
      obtain ⟨rfl, h14, q, h1, h2⟩ := hk
      exact s_cast hx hb hown hK h1 h14 hg (hts _ h2) hd kk
    · cases hs
  · cases hs
end S13
