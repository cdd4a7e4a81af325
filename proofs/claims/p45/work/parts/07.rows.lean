theorem sLcmp_lg (x y : Int64) : lg_cmp x y = sLcmp x y := by
  unfold lg_cmp sLcmp
  rfl
theorem sInj {D : va_G} {s0 : State} {γ : Nat → Nat → Nat} {t : sT} {H : Heap} (hR : sRep D s0 γ t H) {k : Nat} {r r' : Option Nat} (hk : k < 14 ∨ (20 ≤ k ∧ k < 28)) (h1 : ∀ i, r = some i → i < sC t k) (h2 : ∀ i, r' = some i → i < sC t k) (h : r.map (γ k) = r'.map (γ k)) : r = r' := by
  cases r with
  | none => cases r' with
    | none => rfl
    | some j => cases h
  | some i => cases r' with
    | none => cases h
    | some j =>
      have e : γ k i = γ k j := Option.some.inj h
      have hv : k < 14 ∨ (20 ≤ k ∧ k < 30) := by omega
      by_cases o1 : sOwn k i
      · rw [(hR.2.2.2.2.1 k i k j ⟨hv, h1 i rfl⟩ ⟨hv, h2 j rfl⟩ o1 e).2]
      · by_cases o2 : sOwn k j
        · rw [(hR.2.2.2.2.1 k j k i ⟨hv, h2 j rfl⟩ ⟨hv, h1 i rfl⟩ o2 e.symm).2]
        · unfold sOwn at o1 o2
          have : i = j := by omega
          rw [this]
section S7
variable {p : Program} {l : Launch} {e : Env} {R : Room} {s : State} {m : MethodId} {args : Array Value} {below : List Frame} {meth : Method} {c : Code} {Q : State → Prop} {D : va_G} {s0 : State} {γ : Nat → Nat → Nat} {n0 w0 : Nat}
variable {cc : ByteArray} {pc : Nat} {ls st : List sV} {t : sT}
/-- from every heap that holds the store, with such locals and such a stack -/
def sOk (p : Program) (l : Launch) (e : Env) (R : Room) (s : State) (m : MethodId) (args : Array Value) (below : List Frame) (meth : Method) (c : Code) (Q : State → Prop) (D : va_G) (s0 : State) (γ : Nat → Nat → Nat) (n0 w0 : Nat) (t : sT) (pc : Nat) (ls st : List sV) : Prop :=
  ∀ (H : Heap) (locs : List Loc) (arr : Array Slot) (mst : List Value), sRep D s0 γ t H → (∀ q ∈ locs, s0.heap.size ≤ q.base) → sLr γ t ls arr → sSr γ t st mst →
    arr.size = c.maxLocals → W p l e R s m args below meth c H locs (sn t - n0) (sw t - w0) Q (F0 m pc arr mst)
theorem s_iconst (hx : p.tables.exec = Jvm.exec) (hb : c.code = cc) {k : Int} {v : Int32} (hd : decode cc pc = .ok (.iconst k, 1)) (hv : Int32.ofInt k = v) (kk : sOk p l e R s m args below meth c Q D s0 γ n0 w0 t (pc + 1) (ls) (.inl v :: st)) : sOk p l e R s m args below meth c Q D s0 γ n0 w0 t (pc) (ls) (st) := by
  intro H locs arr mst hR hL hl hs hz
  exact lv_iconst hx hb hd hv (kk H locs arr _ hR hL hl ⟨.mkI _, hs⟩ hz)
theorem s_bipush (hx : p.tables.exec = Jvm.exec) (hb : c.code = cc) {k : Int} {v : Int32} (hd : decode cc pc = .ok (.bipush k, 2)) (hv : (Int8.ofInt k).toInt32 = v) (kk : sOk p l e R s m args below meth c Q D s0 γ n0 w0 t (pc + 2) (ls) (.inl v :: st)) : sOk p l e R s m args below meth c Q D s0 γ n0 w0 t (pc) (ls) (st) := by
  intro H locs arr mst hR hL hl hs hz
  exact lv_bipush hx hb hd hv (kk H locs arr _ hR hL hl ⟨.mkI _, hs⟩ hz)
theorem s_sipush (hx : p.tables.exec = Jvm.exec) (hb : c.code = cc) {k : Int} {v : Int32} (hd : decode cc pc = .ok (.sipush k, 3)) (hv : (Int16.ofInt k).toInt32 = v) (kk : sOk p l e R s m args below meth c Q D s0 γ n0 w0 t (pc + 3) (ls) (.inl v :: st)) : sOk p l e R s m args below meth c Q D s0 γ n0 w0 t (pc) (ls) (st) := by
  intro H locs arr mst hR hL hl hs hz
  exact lv_sipush hx hb hd hv (kk H locs arr _ hR hL hl ⟨.mkI _, hs⟩ hz)
theorem s_ldc (hx : p.tables.exec = Jvm.exec) (hb : c.code = cc) {own : String} {j : Nat} {v : Int32} (ho : s.vm.findClass own = some m.cls) (hw : (Jvm.Cond.constant own j v).before args s = true) (hd : decode cc pc = .ok (.ldc j, 2)) (kk : sOk p l e R s m args below meth c Q D s0 γ n0 w0 t (pc + 2) (ls) (.inl v :: st)) : sOk p l e R s m args below meth c Q D s0 γ n0 w0 t (pc) (ls) (st) := by
  intro H locs arr mst hR hL hl hs hz
  exact lv_ldc hx hb ho hw hd (kk H locs arr _ hR hL hl ⟨.mkI _, hs⟩ hz)
theorem s_ldc_w (hx : p.tables.exec = Jvm.exec) (hb : c.code = cc) {own : String} {j : Nat} {v : Int32} (ho : s.vm.findClass own = some m.cls) (hw : (Jvm.Cond.constant own j v).before args s = true) (hd : decode cc pc = .ok (.ldc_w j, 3)) (kk : sOk p l e R s m args below meth c Q D s0 γ n0 w0 t (pc + 3) (ls) (.inl v :: st)) : sOk p l e R s m args below meth c Q D s0 γ n0 w0 t (pc) (ls) (st) := by
  intro H locs arr mst hR hL hl hs hz
  exact lv_ldcw hx hb ho hw hd (kk H locs arr _ hR hL hl ⟨.mkI _, hs⟩ hz)
theorem s_lconst (hx : p.tables.exec = Jvm.exec) (hb : c.code = cc) {k : Fin 2} (hd : decode cc pc = .ok (.lconst k, 1)) (kk : sOk p l e R s m args below meth c Q D s0 γ n0 w0 t (pc + 1) (ls) (.inr (.inl (Int64.ofNat k)) :: st)) : sOk p l e R s m args below meth c Q D s0 γ n0 w0 t (pc) (ls) (st) := by
  intro H locs arr mst hR hL hl hs hz
  exact lv_lconst hx hb hd rfl (kk H locs arr _ hR hL hl ⟨.mkL _, hs⟩ hz)
theorem s_null (hx : p.tables.exec = Jvm.exec) (hb : c.code = cc) {k : Nat} (hd : decode cc pc = .ok (.aconst_null, 1)) (kk : sOk p l e R s m args below meth c Q D s0 γ n0 w0 t (pc + 1) (ls) (.inr (.inr (k, none)) :: st)) : sOk p l e R s m args below meth c Q D s0 γ n0 w0 t (pc) (ls) (st) := by
  intro H locs arr mst hR hL hl hs hz
  exact lv_null hx hb hd (kk H locs arr _ hR hL hl ⟨.mkR (fun i q => by cases q), hs⟩ hz)
theorem s_iload (hx : p.tables.exec = Jvm.exec) (hb : c.code = cc) {j : Nat} {x : Int32} (hd : decode cc pc = .ok (.iload j, 2)) (hg : ls[j]? = some (.inl x)) (kk : sOk p l e R s m args below meth c Q D s0 γ n0 w0 t (pc + 2) (ls) (.inl x :: st)) : sOk p l e R s m args below meth c Q D s0 γ n0 w0 t (pc) (ls) (st) := by
  intro H locs arr mst hR hL hl hs hz
  obtain ⟨v, h1, h2⟩ := hl.2.2 _ _ hg (fun q => q)
  rw [h2.i] at h1
  exact lv_iload hx hb hd h1 (kk H locs arr _ hR hL hl ⟨.mkI _, hs⟩ hz)
theorem s_iload_n (hx : p.tables.exec = Jvm.exec) (hb : c.code = cc) {j : Fin 4} {x : Int32} (hd : decode cc pc = .ok (.iload_n j, 1)) (hg : ls[(j : Nat)]? = some (.inl x)) (kk : sOk p l e R s m args below meth c Q D s0 γ n0 w0 t (pc + 1) (ls) (.inl x :: st)) : sOk p l e R s m args below meth c Q D s0 γ n0 w0 t (pc) (ls) (st) := by
  intro H locs arr mst hR hL hl hs hz
  obtain ⟨v, h1, h2⟩ := hl.2.2 _ _ hg (fun q => q)
  rw [h2.i] at h1
  exact lv_iload_n hx hb hd rfl h1 (kk H locs arr _ hR hL hl ⟨.mkI _, hs⟩ hz)
theorem s_lload (hx : p.tables.exec = Jvm.exec) (hb : c.code = cc) {j : Nat} {x : Int64} (hd : decode cc pc = .ok (.lload j, 2)) (hg : ls[j]? = some (.inr (.inl x))) (kk : sOk p l e R s m args below meth c Q D s0 γ n0 w0 t (pc + 2) (ls) (.inr (.inl x) :: st)) : sOk p l e R s m args below meth c Q D s0 γ n0 w0 t (pc) (ls) (st) := by
  intro H locs arr mst hR hL hl hs hz
  obtain ⟨v, h1, h2⟩ := hl.2.2 _ _ hg (fun q => q)
  rw [h2.l] at h1
  exact lv_lload hx hb hd h1 (kk H locs arr _ hR hL hl ⟨.mkL _, hs⟩ hz)
theorem s_lload_n (hx : p.tables.exec = Jvm.exec) (hb : c.code = cc) {j : Fin 4} {x : Int64} (hd : decode cc pc = .ok (.lload_n j, 1)) (hg : ls[(j : Nat)]? = some (.inr (.inl x))) (kk : sOk p l e R s m args below meth c Q D s0 γ n0 w0 t (pc + 1) (ls) (.inr (.inl x) :: st)) : sOk p l e R s m args below meth c Q D s0 γ n0 w0 t (pc) (ls) (st) := by
  intro H locs arr mst hR hL hl hs hz
  obtain ⟨v, h1, h2⟩ := hl.2.2 _ _ hg (fun q => q)
  rw [h2.l] at h1
  exact lv_lload_n hx hb hd rfl h1 (kk H locs arr _ hR hL hl ⟨.mkL _, hs⟩ hz)
theorem s_aload (hx : p.tables.exec = Jvm.exec) (hb : c.code = cc) {j : Nat} {k : Nat} {r : Option Nat} (hd : decode cc pc = .ok (.aload j, 2)) (hg : ls[j]? = some (.inr (.inr (k, r)))) (hk : ¬ k = 31) (kk : sOk p l e R s m args below meth c Q D s0 γ n0 w0 t (pc + 2) (ls) (.inr (.inr (k, r)) :: st)) : sOk p l e R s m args below meth c Q D s0 γ n0 w0 t (pc) (ls) (st) := by
  intro H locs arr mst hR hL hl hs hz
  obtain ⟨v, h1, h2⟩ := hl.2.2 _ _ hg hk
  obtain ⟨h3, h4⟩ := h2.r hk
  subst h3
  cases r with
  | none => exact lv_aloadN hx hb hd h1 (kk H locs arr _ hR hL hl ⟨h2, hs⟩ hz)
  | some i => exact lv_aload hx hb hd h1 (kk H locs arr _ hR hL hl ⟨h2, hs⟩ hz)
theorem s_aload_n (hx : p.tables.exec = Jvm.exec) (hb : c.code = cc) {j : Fin 4} {k : Nat} {r : Option Nat} (hd : decode cc pc = .ok (.aload_n j, 1)) (hg : ls[(j : Nat)]? = some (.inr (.inr (k, r)))) (hk : ¬ k = 31) (kk : sOk p l e R s m args below meth c Q D s0 γ n0 w0 t (pc + 1) (ls) (.inr (.inr (k, r)) :: st)) : sOk p l e R s m args below meth c Q D s0 γ n0 w0 t (pc) (ls) (st) := by
  intro H locs arr mst hR hL hl hs hz
  obtain ⟨v, h1, h2⟩ := hl.2.2 _ _ hg hk
  obtain ⟨h3, h4⟩ := h2.r hk
  subst h3
  cases r with
  | none => exact lv_aload_nN hx hb hd rfl h1 (kk H locs arr _ hR hL hl ⟨h2, hs⟩ hz)
  | some i => exact lv_aload_n hx hb hd rfl h1 (kk H locs arr _ hR hL hl ⟨h2, hs⟩ hz)
theorem s_istore (hx : p.tables.exec = Jvm.exec) (hb : c.code = cc) {j : Nat} {x : Int32} (hd : decode cc pc = .ok (.istore j, 2)) (hg : j < ls.length) (kk : sOk p l e R s m args below meth c Q D s0 γ n0 w0 t (pc + 2) (sSt ls j (.inl x)) (st)) : sOk p l e R s m args below meth c Q D s0 γ n0 w0 t (pc) (ls) (.inl x :: st) := by
  intro H locs arr mst hR hL hl hs hz
  obtain ⟨v, vs, rfl, h1, h2⟩ := hs.cons
  have h3 := h1.i
  subst h3
  exact lv_istore hx hb hd (sLv_has hl.2.1) (by rw [← hl.1]; exact hg) rfl fun arr' h' => kk H locs arr' _ hR hL (hl.st h1 h') h2 (h'.1.trans hz)
theorem s_istore_n (hx : p.tables.exec = Jvm.exec) (hb : c.code = cc) {j : Fin 4} {x : Int32} (hd : decode cc pc = .ok (.istore_n j, 1)) (hg : (j : Nat) < ls.length) (kk : sOk p l e R s m args below meth c Q D s0 γ n0 w0 t (pc + 1) (sSt ls (j : Nat) (.inl x)) (st)) : sOk p l e R s m args below meth c Q D s0 γ n0 w0 t (pc) (ls) (.inl x :: st) := by
  intro H locs arr mst hR hL hl hs hz
  obtain ⟨v, vs, rfl, h1, h2⟩ := hs.cons
  have h3 := h1.i
  subst h3
  exact lv_istore_n hx hb hd rfl (sLv_has hl.2.1) (by rw [← hl.1]; exact hg) rfl fun arr' h' => kk H locs arr' _ hR hL (hl.st h1 h') h2 (h'.1.trans hz)
theorem s_lstore (hx : p.tables.exec = Jvm.exec) (hb : c.code = cc) {j : Nat} {x : Int64} (hd : decode cc pc = .ok (.lstore j, 2)) (hg : j + 1 < ls.length) (kk : sOk p l e R s m args below meth c Q D s0 γ n0 w0 t (pc + 2) (sSt2 ls j (.inr (.inl x))) (st)) : sOk p l e R s m args below meth c Q D s0 γ n0 w0 t (pc) (ls) (.inr (.inl x) :: st) := by
  intro H locs arr mst hR hL hl hs hz
  obtain ⟨v, vs, rfl, h1, h2⟩ := hs.cons
  have h3 := h1.l
  subst h3
  exact lv_lstore hx hb hd (sLv_has hl.2.1) (by rw [← hl.1]; exact hg) rfl fun arr' h' => kk H locs arr' _ hR hL (hl.st2 h1 h') h2 (h'.1.trans hz)
theorem s_lstore_n (hx : p.tables.exec = Jvm.exec) (hb : c.code = cc) {j : Fin 4} {x : Int64} (hd : decode cc pc = .ok (.lstore_n j, 1)) (hg : (j : Nat) + 1 < ls.length) (kk : sOk p l e R s m args below meth c Q D s0 γ n0 w0 t (pc + 1) (sSt2 ls (j : Nat) (.inr (.inl x))) (st)) : sOk p l e R s m args below meth c Q D s0 γ n0 w0 t (pc) (ls) (.inr (.inl x) :: st) := by
  intro H locs arr mst hR hL hl hs hz
  obtain ⟨v, vs, rfl, h1, h2⟩ := hs.cons
  have h3 := h1.l
  subst h3
  exact lv_lstore_n hx hb hd rfl (sLv_has hl.2.1) (by rw [← hl.1]; exact hg) rfl fun arr' h' => kk H locs arr' _ hR hL (hl.st2 h1 h') h2 (h'.1.trans hz)
theorem s_astore (hx : p.tables.exec = Jvm.exec) (hb : c.code = cc) {j : Nat} {k : Nat} {r : Option Nat} (hd : decode cc pc = .ok (.astore j, 2)) (hg : j < ls.length) (hk : k = 31 → ¬ r = none) (kk : sOk p l e R s m args below meth c Q D s0 γ n0 w0 t (pc + 2) (sSt ls j (.inr (.inr (k, r)))) (st)) : sOk p l e R s m args below meth c Q D s0 γ n0 w0 t (pc) (ls) (.inr (.inr (k, r)) :: st) := by
  intro H locs arr mst hR hL hl hs hz
  obtain ⟨v, vs, rfl, h1, h2⟩ := hs.cons
  by_cases hk31 : k = 31
  · subst hk31
    cases r with
    | none => exact absurd rfl (hk rfl)
    | some i =>
      obtain ⟨w, hw⟩ := (h1.1 rfl).2 i rfl
      subst hw
      exact lv_astore hx hb hd (sLv_has hl.2.1) (by rw [← hl.1]; exact hg) rfl fun arr' h' => kk H locs arr' _ hR hL (hl.st h1 h') h2 (h'.1.trans hz)
  · obtain ⟨h3, h4⟩ := h1.r hk31
    subst h3
    cases r with
    | none => exact lv_astoreN hx hb hd (sLv_has hl.2.1) (by rw [← hl.1]; exact hg) rfl fun arr' h' => kk H locs arr' _ hR hL (hl.st h1 h') h2 (h'.1.trans hz)
    | some i => exact lv_astore hx hb hd (sLv_has hl.2.1) (by rw [← hl.1]; exact hg) rfl fun arr' h' => kk H locs arr' _ hR hL (hl.st h1 h') h2 (h'.1.trans hz)
theorem s_astore_n (hx : p.tables.exec = Jvm.exec) (hb : c.code = cc) {j : Fin 4} {k : Nat} {r : Option Nat} (hd : decode cc pc = .ok (.astore_n j, 1)) (hg : (j : Nat) < ls.length) (hk : k = 31 → ¬ r = none) (kk : sOk p l e R s m args below meth c Q D s0 γ n0 w0 t (pc + 1) (sSt ls (j : Nat) (.inr (.inr (k, r)))) (st)) : sOk p l e R s m args below meth c Q D s0 γ n0 w0 t (pc) (ls) (.inr (.inr (k, r)) :: st) := by
  intro H locs arr mst hR hL hl hs hz
  obtain ⟨v, vs, rfl, h1, h2⟩ := hs.cons
  by_cases hk31 : k = 31
  · subst hk31
    cases r with
    | none => exact absurd rfl (hk rfl)
    | some i =>
      obtain ⟨w, hw⟩ := (h1.1 rfl).2 i rfl
      subst hw
      exact lv_astore_n hx hb hd rfl (sLv_has hl.2.1) (by rw [← hl.1]; exact hg) rfl fun arr' h' => kk H locs arr' _ hR hL (hl.st h1 h') h2 (h'.1.trans hz)
  · obtain ⟨h3, h4⟩ := h1.r hk31
    subst h3
    cases r with
    | none => exact lv_astore_nN hx hb hd rfl (sLv_has hl.2.1) (by rw [← hl.1]; exact hg) rfl fun arr' h' => kk H locs arr' _ hR hL (hl.st h1 h') h2 (h'.1.trans hz)
    | some i => exact lv_astore_n hx hb hd rfl (sLv_has hl.2.1) (by rw [← hl.1]; exact hg) rfl fun arr' h' => kk H locs arr' _ hR hL (hl.st h1 h') h2 (h'.1.trans hz)
theorem s_iinc (hx : p.tables.exec = Jvm.exec) (hb : c.code = cc) {j : Nat} {k : Int} {x v : Int32} (hd : decode cc pc = .ok (.iinc j k, 3)) (hg : ls[j]? = some (.inl x)) (hv : Int32.ofInt k = v) (kk : sOk p l e R s m args below meth c Q D s0 γ n0 w0 t (pc + 3) (sSt ls j (.inl (x + v))) (st)) : sOk p l e R s m args below meth c Q D s0 γ n0 w0 t (pc) (ls) (st) := by
  intro H locs arr mst hR hL hl hs hz
  obtain ⟨w, h1, h2⟩ := hl.2.2 _ _ hg (fun q => q)
  rw [h2.i] at h1
  subst hv
  obtain ⟨k0, hk0⟩ := List.getElem?_of_mem (sLv_in h1)
  exact lv_iinc hx hb hd (sLv_has hl.2.1) hk0 rfl (by rw [← hl.1]; exact (List.getElem?_eq_some_iff.mp hg).1) rfl fun arr' h' => kk H locs arr' _ hR hL (hl.st (.mkI _) h') hs (h'.1.trans hz)
theorem s_dup (hx : p.tables.exec = Jvm.exec) (hb : c.code = cc) {x : sV} (hd : decode cc pc = .ok (.dup, 1)) (h1 : sCat x = 1) (kk : sOk p l e R s m args below meth c Q D s0 γ n0 w0 t (pc + 1) (ls) (x :: x :: st)) : sOk p l e R s m args below meth c Q D s0 γ n0 w0 t (pc) (ls) (x :: st) := by
  intro H locs arr mst hR hL hl hs hz
  obtain ⟨v, vs, rfl, q1, q2⟩ := hs.cons
  exact lv_dup hx hb hd (q1.cat.trans h1) (kk H locs arr _ hR hL hl ⟨q1, q1, q2⟩ hz)
theorem s_pop (hx : p.tables.exec = Jvm.exec) (hb : c.code = cc) {x : sV} (hd : decode cc pc = .ok (.pop, 1)) (h1 : sCat x = 1) (kk : sOk p l e R s m args below meth c Q D s0 γ n0 w0 t (pc + 1) (ls) (st)) : sOk p l e R s m args below meth c Q D s0 γ n0 w0 t (pc) (ls) (x :: st) := by
  intro H locs arr mst hR hL hl hs hz
  obtain ⟨v, vs, rfl, q1, q2⟩ := hs.cons
  exact lv_pop hx hb hd (q1.cat.trans h1) (kk H locs arr _ hR hL hl q2 hz)
theorem s_dup2 (hx : p.tables.exec = Jvm.exec) (hb : c.code = cc) {x y : sV} (hd : decode cc pc = .ok (.dup2, 1)) (h1 : sCat x = 1) (h2 : sCat y = 1) (kk : sOk p l e R s m args below meth c Q D s0 γ n0 w0 t (pc + 1) (ls) (x :: y :: x :: y :: st)) : sOk p l e R s m args below meth c Q D s0 γ n0 w0 t (pc) (ls) (x :: y :: st) := by
  intro H locs arr mst hR hL hl hs hz
  obtain ⟨v, vs, rfl, q1, q2⟩ := hs.cons
  obtain ⟨w, ws, rfl, q3, q4⟩ := q2.cons
  exact lv_dup2_11 hx hb hd (q1.cat.trans h1) (q3.cat.trans h2) (kk H locs arr _ hR hL hl ⟨q1, q3, q1, q3, q4⟩ hz)
theorem s_dup_x1 (hx : p.tables.exec = Jvm.exec) (hb : c.code = cc) {x y : sV} (hd : decode cc pc = .ok (.dup_x1, 1)) (h1 : sCat x = 1) (h2 : sCat y = 1) (kk : sOk p l e R s m args below meth c Q D s0 γ n0 w0 t (pc + 1) (ls) (x :: y :: x :: st)) : sOk p l e R s m args below meth c Q D s0 γ n0 w0 t (pc) (ls) (x :: y :: st) := by
  intro H locs arr mst hR hL hl hs hz
  obtain ⟨v, vs, rfl, q1, q2⟩ := hs.cons
  obtain ⟨w, ws, rfl, q3, q4⟩ := q2.cons
  exact lv_dup_x1 hx hb hd (q1.cat.trans h1) (q3.cat.trans h2) (kk H locs arr _ hR hL hl ⟨q1, q3, q1, q4⟩ hz)
theorem s_iadd (hx : p.tables.exec = Jvm.exec) (hb : c.code = cc) {x y : Int32} (hd : decode cc pc = .ok (.iadd, 1)) (kk : sOk p l e R s m args below meth c Q D s0 γ n0 w0 t (pc + 1) (ls) (.inl (x + y) :: st)) : sOk p l e R s m args below meth c Q D s0 γ n0 w0 t (pc) (ls) (.inl y :: .inl x :: st) := by
  intro H locs arr mst hR hL hl hs hz
  obtain ⟨v, vs, rfl, q1, q2⟩ := hs.cons
  obtain ⟨w, ws, rfl, q3, q4⟩ := q2.cons
  have e1 := q1.i
  have e2 := q3.i
  subst e1 e2
  exact lv_iadd hx hb hd (kk H locs arr _ hR hL hl ⟨.mkI _, q4⟩ hz)
theorem s_isub (hx : p.tables.exec = Jvm.exec) (hb : c.code = cc) {x y : Int32} (hd : decode cc pc = .ok (.isub, 1)) (kk : sOk p l e R s m args below meth c Q D s0 γ n0 w0 t (pc + 1) (ls) (.inl (x - y) :: st)) : sOk p l e R s m args below meth c Q D s0 γ n0 w0 t (pc) (ls) (.inl y :: .inl x :: st) := by
  intro H locs arr mst hR hL hl hs hz
  obtain ⟨v, vs, rfl, q1, q2⟩ := hs.cons
  obtain ⟨w, ws, rfl, q3, q4⟩ := q2.cons
  have e1 := q1.i
  have e2 := q3.i
  subst e1 e2
  exact lv_isub hx hb hd (kk H locs arr _ hR hL hl ⟨.mkI _, q4⟩ hz)
theorem s_imul (hx : p.tables.exec = Jvm.exec) (hb : c.code = cc) {x y : Int32} (hd : decode cc pc = .ok (.imul, 1)) (kk : sOk p l e R s m args below meth c Q D s0 γ n0 w0 t (pc + 1) (ls) (.inl (x * y) :: st)) : sOk p l e R s m args below meth c Q D s0 γ n0 w0 t (pc) (ls) (.inl y :: .inl x :: st) := by
  intro H locs arr mst hR hL hl hs hz
  obtain ⟨v, vs, rfl, q1, q2⟩ := hs.cons
  obtain ⟨w, ws, rfl, q3, q4⟩ := q2.cons
  have e1 := q1.i
  have e2 := q3.i
  subst e1 e2
  exact lv_imul hx hb hd (kk H locs arr _ hR hL hl ⟨.mkI _, q4⟩ hz)
theorem s_iand (hx : p.tables.exec = Jvm.exec) (hb : c.code = cc) {x y : Int32} (hd : decode cc pc = .ok (.iand, 1)) (kk : sOk p l e R s m args below meth c Q D s0 γ n0 w0 t (pc + 1) (ls) (.inl (x &&& y) :: st)) : sOk p l e R s m args below meth c Q D s0 γ n0 w0 t (pc) (ls) (.inl y :: .inl x :: st) := by
  intro H locs arr mst hR hL hl hs hz
  obtain ⟨v, vs, rfl, q1, q2⟩ := hs.cons
  obtain ⟨w, ws, rfl, q3, q4⟩ := q2.cons
  have e1 := q1.i
  have e2 := q3.i
  subst e1 e2
  exact lv_iand hx hb hd (kk H locs arr _ hR hL hl ⟨.mkI _, q4⟩ hz)
theorem s_ishr (hx : p.tables.exec = Jvm.exec) (hb : c.code = cc) {x y : Int32} (hd : decode cc pc = .ok (.ishr, 1)) (kk : sOk p l e R s m args below meth c Q D s0 γ n0 w0 t (pc + 1) (ls) (.inl (x >>> (y &&& 31)) :: st)) : sOk p l e R s m args below meth c Q D s0 γ n0 w0 t (pc) (ls) (.inl y :: .inl x :: st) := by
  intro H locs arr mst hR hL hl hs hz
  obtain ⟨v, vs, rfl, q1, q2⟩ := hs.cons
  obtain ⟨w, ws, rfl, q3, q4⟩ := q2.cons
  have e1 := q1.i
  have e2 := q3.i
  subst e1 e2
  exact lv_ishr hx hb hd (kk H locs arr _ hR hL hl ⟨.mkI _, q4⟩ hz)
theorem s_idiv (hx : p.tables.exec = Jvm.exec) (hb : c.code = cc) {x y : Int32} (hd : decode cc pc = .ok (.idiv, 1)) (hne : ¬ y = 0) (kk : sOk p l e R s m args below meth c Q D s0 γ n0 w0 t (pc + 1) (ls) (.inl (x / y) :: st)) : sOk p l e R s m args below meth c Q D s0 γ n0 w0 t (pc) (ls) (.inl y :: .inl x :: st) := by
  intro H locs arr mst hR hL hl hs hz
  obtain ⟨v, vs, rfl, q1, q2⟩ := hs.cons
  obtain ⟨w, ws, rfl, q3, q4⟩ := q2.cons
  have e1 := q1.i
  have e2 := q3.i
  subst e1 e2
  exact lv_idiv hx hb hd hne (kk H locs arr _ hR hL hl ⟨.mkI _, q4⟩ hz)
theorem s_irem (hx : p.tables.exec = Jvm.exec) (hb : c.code = cc) {x y : Int32} (hd : decode cc pc = .ok (.irem, 1)) (hne : ¬ y = 0) (kk : sOk p l e R s m args below meth c Q D s0 γ n0 w0 t (pc + 1) (ls) (.inl (x - x / y * y) :: st)) : sOk p l e R s m args below meth c Q D s0 γ n0 w0 t (pc) (ls) (.inl y :: .inl x :: st) := by
  intro H locs arr mst hR hL hl hs hz
  obtain ⟨v, vs, rfl, q1, q2⟩ := hs.cons
  obtain ⟨w, ws, rfl, q3, q4⟩ := q2.cons
  have e1 := q1.i
  have e2 := q3.i
  subst e1 e2
  exact lv_irem hx hb hd hne (kk H locs arr _ hR hL hl ⟨.mkI _, q4⟩ hz)
theorem s_ladd (hx : p.tables.exec = Jvm.exec) (hb : c.code = cc) {x y : Int64} (hd : decode cc pc = .ok (.ladd, 1)) (kk : sOk p l e R s m args below meth c Q D s0 γ n0 w0 t (pc + 1) (ls) (.inr (.inl (x + y)) :: st)) : sOk p l e R s m args below meth c Q D s0 γ n0 w0 t (pc) (ls) (.inr (.inl y) :: .inr (.inl x) :: st) := by
  intro H locs arr mst hR hL hl hs hz
  obtain ⟨v, vs, rfl, q1, q2⟩ := hs.cons
  obtain ⟨w, ws, rfl, q3, q4⟩ := q2.cons
  have e1 := q1.l
  have e2 := q3.l
  subst e1 e2
  exact lv_ladd hx hb hd (kk H locs arr _ hR hL hl ⟨.mkL _, q4⟩ hz)
theorem s_lsub (hx : p.tables.exec = Jvm.exec) (hb : c.code = cc) {x y : Int64} (hd : decode cc pc = .ok (.lsub, 1)) (kk : sOk p l e R s m args below meth c Q D s0 γ n0 w0 t (pc + 1) (ls) (.inr (.inl (x - y)) :: st)) : sOk p l e R s m args below meth c Q D s0 γ n0 w0 t (pc) (ls) (.inr (.inl y) :: .inr (.inl x) :: st) := by
  intro H locs arr mst hR hL hl hs hz
  obtain ⟨v, vs, rfl, q1, q2⟩ := hs.cons
  obtain ⟨w, ws, rfl, q3, q4⟩ := q2.cons
  have e1 := q1.l
  have e2 := q3.l
  subst e1 e2
  exact lv_lsub hx hb hd (kk H locs arr _ hR hL hl ⟨.mkL _, q4⟩ hz)
theorem s_lmul (hx : p.tables.exec = Jvm.exec) (hb : c.code = cc) {x y : Int64} (hd : decode cc pc = .ok (.lmul, 1)) (kk : sOk p l e R s m args below meth c Q D s0 γ n0 w0 t (pc + 1) (ls) (.inr (.inl (x * y)) :: st)) : sOk p l e R s m args below meth c Q D s0 γ n0 w0 t (pc) (ls) (.inr (.inl y) :: .inr (.inl x) :: st) := by
  intro H locs arr mst hR hL hl hs hz
  obtain ⟨v, vs, rfl, q1, q2⟩ := hs.cons
  obtain ⟨w, ws, rfl, q3, q4⟩ := q2.cons
  have e1 := q1.l
  have e2 := q3.l
  subst e1 e2
  exact lv_lmul hx hb hd (kk H locs arr _ hR hL hl ⟨.mkL _, q4⟩ hz)
theorem s_ldiv (hx : p.tables.exec = Jvm.exec) (hb : c.code = cc) {x y : Int64} (hd : decode cc pc = .ok (.ldiv, 1)) (hne : ¬ y = 0) (kk : sOk p l e R s m args below meth c Q D s0 γ n0 w0 t (pc + 1) (ls) (.inr (.inl (x / y)) :: st)) : sOk p l e R s m args below meth c Q D s0 γ n0 w0 t (pc) (ls) (.inr (.inl y) :: .inr (.inl x) :: st) := by
  intro H locs arr mst hR hL hl hs hz
  obtain ⟨v, vs, rfl, q1, q2⟩ := hs.cons
  obtain ⟨w, ws, rfl, q3, q4⟩ := q2.cons
  have e1 := q1.l
  have e2 := q3.l
  subst e1 e2
  exact lv_ldiv hx hb hd hne (kk H locs arr _ hR hL hl ⟨.mkL _, q4⟩ hz)
theorem s_lcmp (hx : p.tables.exec = Jvm.exec) (hb : c.code = cc) {x y : Int64} (hd : decode cc pc = .ok (.lcmp, 1)) (kk : sOk p l e R s m args below meth c Q D s0 γ n0 w0 t (pc + 1) (ls) (.inl (sLcmp x y) :: st)) : sOk p l e R s m args below meth c Q D s0 γ n0 w0 t (pc) (ls) (.inr (.inl y) :: .inr (.inl x) :: st) := by
  intro H locs arr mst hR hL hl hs hz
  obtain ⟨v, vs, rfl, q1, q2⟩ := hs.cons
  obtain ⟨w, ws, rfl, q3, q4⟩ := q2.cons
  have e1 := q1.l
  have e2 := q3.l
  subst e1 e2
  refine W.lcmp hx hb hd ?_
  rw [sLcmp_lg]
  exact kk H locs arr _ hR hL hl ⟨.mkI _, q4⟩ hz
theorem s_ineg (hx : p.tables.exec = Jvm.exec) (hb : c.code = cc) {x : Int32} (hd : decode cc pc = .ok (.ineg, 1)) (kk : sOk p l e R s m args below meth c Q D s0 γ n0 w0 t (pc + 1) (ls) (.inl (-x) :: st)) : sOk p l e R s m args below meth c Q D s0 γ n0 w0 t (pc) (ls) (.inl x :: st) := by
  intro H locs arr mst hR hL hl hs hz
  obtain ⟨v, vs, rfl, q1, q2⟩ := hs.cons
  have e1 := q1.i
  subst e1
  exact lv_ineg hx hb hd (kk H locs arr _ hR hL hl ⟨.mkI _, q2⟩ hz)
theorem s_i2l (hx : p.tables.exec = Jvm.exec) (hb : c.code = cc) {x : Int32} (hd : decode cc pc = .ok (.i2l, 1)) (kk : sOk p l e R s m args below meth c Q D s0 γ n0 w0 t (pc + 1) (ls) (.inr (.inl x.toInt64) :: st)) : sOk p l e R s m args below meth c Q D s0 γ n0 w0 t (pc) (ls) (.inl x :: st) := by
  intro H locs arr mst hR hL hl hs hz
  obtain ⟨v, vs, rfl, q1, q2⟩ := hs.cons
  have e1 := q1.i
  subst e1
  exact lv_i2l hx hb hd rfl (kk H locs arr _ hR hL hl ⟨.mkL _, q2⟩ hz)
theorem s_l2i (hx : p.tables.exec = Jvm.exec) (hb : c.code = cc) {x : Int64} (hd : decode cc pc = .ok (.l2i, 1)) (kk : sOk p l e R s m args below meth c Q D s0 γ n0 w0 t (pc + 1) (ls) (.inl x.toInt32 :: st)) : sOk p l e R s m args below meth c Q D s0 γ n0 w0 t (pc) (ls) (.inr (.inl x) :: st) := by
  intro H locs arr mst hR hL hl hs hz
  obtain ⟨v, vs, rfl, q1, q2⟩ := hs.cons
  have e1 := q1.l
  subst e1
  exact lv_l2i hx hb hd rfl (kk H locs arr _ hR hL hl ⟨.mkI _, q2⟩ hz)
theorem s_if_eq (hx : p.tables.exec = Jvm.exec) (hb : c.code = cc) {x : Int32} {off : Int} {a : Nat} (hd : decode cc pc = .ok (.ifCond .eq off, 3)) (ht : (pc : Int) + off = (a : Int)) (kk : sOk p l e R s m args below meth c Q D s0 γ n0 w0 t (sJmp (sCond .eq x 0) a pc 3) (ls) (st)) : sOk p l e R s m args below meth c Q D s0 γ n0 w0 t (pc) (ls) (.inl x :: st) := by
  intro H locs arr mst hR hL hl hs hz
  obtain ⟨v, vs, rfl, q1, q2⟩ := hs.cons
  have e1 := q1.i
  subst e1
  have k := kk H locs arr _ hR hL hl q2 hz
  refine lv_if_eq hx hb hd ht (fun h => ?_) (fun h => ?_)
  · simpa [sJmp, sCond, h] using k
  · simpa [sJmp, sCond, h] using k
theorem s_icmp_eq (hx : p.tables.exec = Jvm.exec) (hb : c.code = cc) {x y : Int32} {off : Int} {a : Nat} (hd : decode cc pc = .ok (.if_icmp .eq off, 3)) (ht : (pc : Int) + off = (a : Int)) (kk : sOk p l e R s m args below meth c Q D s0 γ n0 w0 t (sJmp (sCond .eq x y) a pc 3) (ls) (st)) : sOk p l e R s m args below meth c Q D s0 γ n0 w0 t (pc) (ls) (.inl y :: .inl x :: st) := by
  intro H locs arr mst hR hL hl hs hz
  obtain ⟨v, vs, rfl, q1, q2⟩ := hs.cons
  obtain ⟨w, ws, rfl, q3, q4⟩ := q2.cons
  have e1 := q1.i
  have e2 := q3.i
  subst e1 e2
  have k := kk H locs arr _ hR hL hl q4 hz
  refine lv_icmp_eq hx hb hd ht (fun h => ?_) (fun h => ?_)
  · simpa [sJmp, sCond, h] using k
  · simpa [sJmp, sCond, h] using k
theorem s_if_ne (hx : p.tables.exec = Jvm.exec) (hb : c.code = cc) {x : Int32} {off : Int} {a : Nat} (hd : decode cc pc = .ok (.ifCond .ne off, 3)) (ht : (pc : Int) + off = (a : Int)) (kk : sOk p l e R s m args below meth c Q D s0 γ n0 w0 t (sJmp (sCond .ne x 0) a pc 3) (ls) (st)) : sOk p l e R s m args below meth c Q D s0 γ n0 w0 t (pc) (ls) (.inl x :: st) := by
  intro H locs arr mst hR hL hl hs hz
  obtain ⟨v, vs, rfl, q1, q2⟩ := hs.cons
  have e1 := q1.i
  subst e1
  have k := kk H locs arr _ hR hL hl q2 hz
  refine lv_if_ne hx hb hd ht (fun h => ?_) (fun h => ?_)
  · simpa [sJmp, sCond, h] using k
  · simpa [sJmp, sCond, h] using k
theorem s_icmp_ne (hx : p.tables.exec = Jvm.exec) (hb : c.code = cc) {x y : Int32} {off : Int} {a : Nat} (hd : decode cc pc = .ok (.if_icmp .ne off, 3)) (ht : (pc : Int) + off = (a : Int)) (kk : sOk p l e R s m args below meth c Q D s0 γ n0 w0 t (sJmp (sCond .ne x y) a pc 3) (ls) (st)) : sOk p l e R s m args below meth c Q D s0 γ n0 w0 t (pc) (ls) (.inl y :: .inl x :: st) := by
  intro H locs arr mst hR hL hl hs hz
  obtain ⟨v, vs, rfl, q1, q2⟩ := hs.cons
  obtain ⟨w, ws, rfl, q3, q4⟩ := q2.cons
  have e1 := q1.i
  have e2 := q3.i
  subst e1 e2
  have k := kk H locs arr _ hR hL hl q4 hz
  refine lv_icmp_ne hx hb hd ht (fun h => ?_) (fun h => ?_)
  · simpa [sJmp, sCond, h] using k
  · simpa [sJmp, sCond, h] using k
theorem s_if_lt (hx : p.tables.exec = Jvm.exec) (hb : c.code = cc) {x : Int32} {off : Int} {a : Nat} (hd : decode cc pc = .ok (.ifCond .lt off, 3)) (ht : (pc : Int) + off = (a : Int)) (kk : sOk p l e R s m args below meth c Q D s0 γ n0 w0 t (sJmp (sCond .lt x 0) a pc 3) (ls) (st)) : sOk p l e R s m args below meth c Q D s0 γ n0 w0 t (pc) (ls) (.inl x :: st) := by
  intro H locs arr mst hR hL hl hs hz
  obtain ⟨v, vs, rfl, q1, q2⟩ := hs.cons
  have e1 := q1.i
  subst e1
  have k := kk H locs arr _ hR hL hl q2 hz
  refine lv_if_lt hx hb hd ht (fun h => ?_) (fun h => ?_)
  · simpa [sJmp, sCond, h] using k
  · simpa [sJmp, sCond, h] using k
theorem s_icmp_lt (hx : p.tables.exec = Jvm.exec) (hb : c.code = cc) {x y : Int32} {off : Int} {a : Nat} (hd : decode cc pc = .ok (.if_icmp .lt off, 3)) (ht : (pc : Int) + off = (a : Int)) (kk : sOk p l e R s m args below meth c Q D s0 γ n0 w0 t (sJmp (sCond .lt x y) a pc 3) (ls) (st)) : sOk p l e R s m args below meth c Q D s0 γ n0 w0 t (pc) (ls) (.inl y :: .inl x :: st) := by
  intro H locs arr mst hR hL hl hs hz
  obtain ⟨v, vs, rfl, q1, q2⟩ := hs.cons
  obtain ⟨w, ws, rfl, q3, q4⟩ := q2.cons
  have e1 := q1.i
  have e2 := q3.i
  subst e1 e2
  have k := kk H locs arr _ hR hL hl q4 hz
  refine lv_icmp_lt hx hb hd ht (fun h => ?_) (fun h => ?_)
  · simpa [sJmp, sCond, h] using k
  · simpa [sJmp, sCond, h] using k
theorem s_if_ge (hx : p.tables.exec = Jvm.exec) (hb : c.code = cc) {x : Int32} {off : Int} {a : Nat} (hd : decode cc pc = .ok (.ifCond .ge off, 3)) (ht : (pc : Int) + off = (a : Int)) (kk : sOk p l e R s m args below meth c Q D s0 γ n0 w0 t (sJmp (sCond .ge x 0) a pc 3) (ls) (st)) : sOk p l e R s m args below meth c Q D s0 γ n0 w0 t (pc) (ls) (.inl x :: st) := by
  intro H locs arr mst hR hL hl hs hz
  obtain ⟨v, vs, rfl, q1, q2⟩ := hs.cons
  have e1 := q1.i
  subst e1
  have k := kk H locs arr _ hR hL hl q2 hz
  refine lv_if_ge hx hb hd ht (fun h => ?_) (fun h => ?_)
  · simpa [sJmp, sCond, h] using k
  · simpa [sJmp, sCond, h] using k
theorem s_icmp_ge (hx : p.tables.exec = Jvm.exec) (hb : c.code = cc) {x y : Int32} {off : Int} {a : Nat} (hd : decode cc pc = .ok (.if_icmp .ge off, 3)) (ht : (pc : Int) + off = (a : Int)) (kk : sOk p l e R s m args below meth c Q D s0 γ n0 w0 t (sJmp (sCond .ge x y) a pc 3) (ls) (st)) : sOk p l e R s m args below meth c Q D s0 γ n0 w0 t (pc) (ls) (.inl y :: .inl x :: st) := by
  intro H locs arr mst hR hL hl hs hz
  obtain ⟨v, vs, rfl, q1, q2⟩ := hs.cons
  obtain ⟨w, ws, rfl, q3, q4⟩ := q2.cons
  have e1 := q1.i
  have e2 := q3.i
  subst e1 e2
  have k := kk H locs arr _ hR hL hl q4 hz
  refine lv_icmp_ge hx hb hd ht (fun h => ?_) (fun h => ?_)
  · simpa [sJmp, sCond, h] using k
  · simpa [sJmp, sCond, h] using k
theorem s_if_gt (hx : p.tables.exec = Jvm.exec) (hb : c.code = cc) {x : Int32} {off : Int} {a : Nat} (hd : decode cc pc = .ok (.ifCond .gt off, 3)) (ht : (pc : Int) + off = (a : Int)) (kk : sOk p l e R s m args below meth c Q D s0 γ n0 w0 t (sJmp (sCond .gt x 0) a pc 3) (ls) (st)) : sOk p l e R s m args below meth c Q D s0 γ n0 w0 t (pc) (ls) (.inl x :: st) := by
  intro H locs arr mst hR hL hl hs hz
  obtain ⟨v, vs, rfl, q1, q2⟩ := hs.cons
  have e1 := q1.i
  subst e1
  have k := kk H locs arr _ hR hL hl q2 hz
  refine lv_if_gt hx hb hd ht (fun h => ?_) (fun h => ?_)
  · simpa [sJmp, sCond, h] using k
  · simpa [sJmp, sCond, h] using k
theorem s_icmp_gt (hx : p.tables.exec = Jvm.exec) (hb : c.code = cc) {x y : Int32} {off : Int} {a : Nat} (hd : decode cc pc = .ok (.if_icmp .gt off, 3)) (ht : (pc : Int) + off = (a : Int)) (kk : sOk p l e R s m args below meth c Q D s0 γ n0 w0 t (sJmp (sCond .gt x y) a pc 3) (ls) (st)) : sOk p l e R s m args below meth c Q D s0 γ n0 w0 t (pc) (ls) (.inl y :: .inl x :: st) := by
  intro H locs arr mst hR hL hl hs hz
  obtain ⟨v, vs, rfl, q1, q2⟩ := hs.cons
  obtain ⟨w, ws, rfl, q3, q4⟩ := q2.cons
  have e1 := q1.i
  have e2 := q3.i
  subst e1 e2
  have k := kk H locs arr _ hR hL hl q4 hz
  refine lv_icmp_gt hx hb hd ht (fun h => ?_) (fun h => ?_)
  · simpa [sJmp, sCond, h] using k
  · simpa [sJmp, sCond, h] using k
theorem s_if_le (hx : p.tables.exec = Jvm.exec) (hb : c.code = cc) {x : Int32} {off : Int} {a : Nat} (hd : decode cc pc = .ok (.ifCond .le off, 3)) (ht : (pc : Int) + off = (a : Int)) (kk : sOk p l e R s m args below meth c Q D s0 γ n0 w0 t (sJmp (sCond .le x 0) a pc 3) (ls) (st)) : sOk p l e R s m args below meth c Q D s0 γ n0 w0 t (pc) (ls) (.inl x :: st) := by
  intro H locs arr mst hR hL hl hs hz
  obtain ⟨v, vs, rfl, q1, q2⟩ := hs.cons
  have e1 := q1.i
  subst e1
  have k := kk H locs arr _ hR hL hl q2 hz
  refine lv_if_le hx hb hd ht (fun h => ?_) (fun h => ?_)
  · simpa [sJmp, sCond, h] using k
  · simpa [sJmp, sCond, h] using k
theorem s_icmp_le (hx : p.tables.exec = Jvm.exec) (hb : c.code = cc) {x y : Int32} {off : Int} {a : Nat} (hd : decode cc pc = .ok (.if_icmp .le off, 3)) (ht : (pc : Int) + off = (a : Int)) (kk : sOk p l e R s m args below meth c Q D s0 γ n0 w0 t (sJmp (sCond .le x y) a pc 3) (ls) (st)) : sOk p l e R s m args below meth c Q D s0 γ n0 w0 t (pc) (ls) (.inl y :: .inl x :: st) := by
  intro H locs arr mst hR hL hl hs hz
  obtain ⟨v, vs, rfl, q1, q2⟩ := hs.cons
  obtain ⟨w, ws, rfl, q3, q4⟩ := q2.cons
  have e1 := q1.i
  have e2 := q3.i
  subst e1 e2
  have k := kk H locs arr _ hR hL hl q4 hz
  refine lv_icmp_le hx hb hd ht (fun h => ?_) (fun h => ?_)
  · simpa [sJmp, sCond, h] using k
  · simpa [sJmp, sCond, h] using k
theorem s_acmp_eq (hx : p.tables.exec = Jvm.exec) (hb : c.code = cc) {k : Nat} {r r' : Option Nat} {off : Int} {a : Nat} (hd : decode cc pc = .ok (.if_acmp .eq off, 3)) (ht : (pc : Int) + off = (a : Int)) (hk : ¬ k = 31) (hk2 : k < 14 ∨ (20 ≤ k ∧ k < 28) ∨ (r = none ∧ r' = none)) (kk : sOk p l e R s m args below meth c Q D s0 γ n0 w0 t (sJmp (decide (r' = r)) a pc 3) (ls) (st)) : sOk p l e R s m args below meth c Q D s0 γ n0 w0 t (pc) (ls) (.inr (.inr (k, r)) :: .inr (.inr (k, r')) :: st) := by
  intro H locs arr mst hR hL hl hs hz
  obtain ⟨v, vs, rfl, q1, q2⟩ := hs.cons
  obtain ⟨w, ws, rfl, q3, q4⟩ := q2.cons
  obtain ⟨e1, v1⟩ := q1.r hk
  obtain ⟨e2, v2⟩ := q3.r hk
  subst e1 e2
  have kz := kk H locs arr _ hR hL hl q4 hz
  have hin : (r'.map (γ k) = r.map (γ k)) ↔ r' = r := by
    constructor
    · intro h
      rcases hk2 with hk2 | hk2 | ⟨z1, z2⟩
      · exact sInj hR (Or.inl hk2) v2 v1 h
      · exact sInj hR (Or.inr hk2) v2 v1 h
      · rw [z1, z2]
    · intro h; rw [h]
  refine lv_acmp_eq hx hb hd ht (fun h => ?_) (fun h => ?_)
  · rw [hin] at h; simpa [sJmp, h] using kz
  · rw [hin] at h; simpa [sJmp, h] using kz
theorem s_acmp_ne (hx : p.tables.exec = Jvm.exec) (hb : c.code = cc) {k : Nat} {r r' : Option Nat} {off : Int} {a : Nat} (hd : decode cc pc = .ok (.if_acmp .ne off, 3)) (ht : (pc : Int) + off = (a : Int)) (hk : ¬ k = 31) (hk2 : k < 14 ∨ (20 ≤ k ∧ k < 28) ∨ (r = none ∧ r' = none)) (kk : sOk p l e R s m args below meth c Q D s0 γ n0 w0 t (sJmp (decide (¬ r' = r)) a pc 3) (ls) (st)) : sOk p l e R s m args below meth c Q D s0 γ n0 w0 t (pc) (ls) (.inr (.inr (k, r)) :: .inr (.inr (k, r')) :: st) := by
  intro H locs arr mst hR hL hl hs hz
  obtain ⟨v, vs, rfl, q1, q2⟩ := hs.cons
  obtain ⟨w, ws, rfl, q3, q4⟩ := q2.cons
  obtain ⟨e1, v1⟩ := q1.r hk
  obtain ⟨e2, v2⟩ := q3.r hk
  subst e1 e2
  have kz := kk H locs arr _ hR hL hl q4 hz
  have hin : (r'.map (γ k) = r.map (γ k)) ↔ r' = r := by
    constructor
    · intro h
      rcases hk2 with hk2 | hk2 | ⟨z1, z2⟩
      · exact sInj hR (Or.inl hk2) v2 v1 h
      · exact sInj hR (Or.inr hk2) v2 v1 h
      · rw [z1, z2]
    · intro h; rw [h]
  refine lv_acmp_ne hx hb hd ht (fun h => ?_) (fun h => ?_)
  · rw [hin] at h; simpa [sJmp, h] using kz
  · rw [hin] at h; simpa [sJmp, h] using kz
theorem s_ifnull (hx : p.tables.exec = Jvm.exec) (hb : c.code = cc) {k : Nat} {r : Option Nat} {off : Int} {a : Nat} (hd : decode cc pc = .ok (.ifnull off, 3)) (ht : (pc : Int) + off = (a : Int)) (hk : ¬ k = 31) (kk : sOk p l e R s m args below meth c Q D s0 γ n0 w0 t (sJmp (decide (r = none)) a pc 3) (ls) (st)) : sOk p l e R s m args below meth c Q D s0 γ n0 w0 t (pc) (ls) (.inr (.inr (k, r)) :: st) := by
  intro H locs arr mst hR hL hl hs hz
  obtain ⟨v, vs, rfl, q1, q2⟩ := hs.cons
  obtain ⟨e1, v1⟩ := q1.r hk
  subst e1
  have kz := kk H locs arr _ hR hL hl q2 hz
  cases r with
  | none => exact lv_ifnullN hx hb hd ht (by simpa [sJmp] using kz)
  | some i => exact lv_ifnull hx hb hd (by simpa [sJmp] using kz)
theorem s_ifnonnull (hx : p.tables.exec = Jvm.exec) (hb : c.code = cc) {k : Nat} {r : Option Nat} {off : Int} {a : Nat} (hd : decode cc pc = .ok (.ifnonnull off, 3)) (ht : (pc : Int) + off = (a : Int)) (hk : ¬ k = 31) (kk : sOk p l e R s m args below meth c Q D s0 γ n0 w0 t (sJmp (decide (¬ r = none)) a pc 3) (ls) (st)) : sOk p l e R s m args below meth c Q D s0 γ n0 w0 t (pc) (ls) (.inr (.inr (k, r)) :: st) := by
  intro H locs arr mst hR hL hl hs hz
  obtain ⟨v, vs, rfl, q1, q2⟩ := hs.cons
  obtain ⟨e1, v1⟩ := q1.r hk
  subst e1
  have kz := kk H locs arr _ hR hL hl q2 hz
  cases r with
  | none => exact lv_ifnonnullN hx hb hd (by simpa [sJmp] using kz)
  | some i => exact lv_ifnonnull hx hb hd ht (by simpa [sJmp] using kz)
theorem s_goto (hx : p.tables.exec = Jvm.exec) (hb : c.code = cc) {off : Int} {a : Nat} (hd : decode cc pc = .ok (.goto off, 3)) (ht : (pc : Int) + off = (a : Int)) (kk : sOk p l e R s m args below meth c Q D s0 γ n0 w0 t (a) (ls) (st)) : sOk p l e R s m args below meth c Q D s0 γ n0 w0 t (pc) (ls) (st) := by
  intro H locs arr mst hR hL hl hs hz
  exact lv_goto hx hb hd ht (kk H locs arr _ hR hL hl hs hz)
theorem s_switch (hx : p.tables.exec = Jvm.exec) (hb : c.code = cc) {d lo hi : Int} {offs : Array Int} {n : Nat} {x : Int32} (hd : decode cc pc = .ok (.tableswitch d lo hi offs, n)) (h1 : 0 ≤ (pc : Int) + d) (h2 : ∀ o ∈ offs.toList, 0 ≤ (pc : Int) + o) (h3 : ((hi - lo + 1).toNat = offs.size ∧ 0 ≤ hi - lo + 1)) (kk : sOk p l e R s m args below meth c Q D s0 γ n0 w0 t (sSw pc d lo hi offs x) (ls) (st)) : sOk p l e R s m args below meth c Q D s0 γ n0 w0 t (pc) (ls) (.inl x :: st) := by
  intro H locs arr mst hR hL hl hs hz
  obtain ⟨v, vs, rfl, q1, q2⟩ := hs.cons
  have e1 := q1.i
  subst e1
  have kz := kk H locs arr _ hR hL hl q2 hz
  by_cases h : x.toInt < lo ∨ hi < x.toInt
  · refine lv_tableOut hx hb hd h (tgt := sTg pc d) (by unfold sTg; rw [Int.toNat_of_nonneg h1]) ?_
    simpa [sSw, h] using kz
  · have hlt : (x.toInt - lo).toNat < offs.size := by omega
    have ho : offs[(x.toInt - lo).toNat]? = some offs[(x.toInt - lo).toNat] := Array.getElem?_eq_getElem hlt
    refine lv_tableIn hx hb hd (fun q => h (Or.inl q)) (fun q => h (Or.inr q)) ho (tgt := sTg pc offs[(x.toInt - lo).toNat]) (by unfold sTg; rw [Int.toNat_of_nonneg (h2 _ (Array.getElem_mem_toList hlt))]) ?_
    simpa [sSw, h, ho] using kz
end S7
