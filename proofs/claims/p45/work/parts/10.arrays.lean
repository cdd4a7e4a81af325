/-! arrays, new things, casts: rows of the small machine -/
section S10
variable {p : Program} {l : Launch} {e : Env} {R : Room} {s : State} {m : MethodId} {args : Array Value} {below : List Frame} {meth : Method} {c : Code} {Q : State → Prop} {D : va_G} {s0 : State} {γ : Nat → Nat → Nat} {n0 w0 : Nat}
variable {cc : ByteArray} {pc : Nat} {ls st : List sV} {t : sT}
theorem s_alen {k o : Nat} (hx : p.tables.exec = Jvm.exec) (hb : c.code = cc) (hal : s0.vm.Alike s.vm) (hk : 20 ≤ k ∧ k < 30) (hd : decode cc pc = .ok (.arraylength, 1))
    (kk : sOk p l e R s m args below meth c Q D s0 γ n0 w0 t (pc + 1) ls (.inl (Int32.ofNat (sN t k o)) :: st)) : sOk p l e R s m args below meth c Q D s0 γ n0 w0 t pc ls (.inr (.inr (k, some o)) :: st) := by
  intro H locs arr mst hR hL hl hs hz
  obtain ⟨v, vs, rfl, q1, q2⟩ := hs.cons
  obtain ⟨e1, v1⟩ := q1.r (by omega)
  subst e1
  obtain ⟨cell, c1, c2, c3, c4, c5, c6⟩ := hR.2.2.2.1 k o hk.1 hk.2 (v1 o rfl)
  exact W.alen hx hb c1 (State.isArrayOf_alike hal c2) (n := Int32.ofNat (sN t k o)) c4.2 rfl rfl hd (kk H locs arr _ hR hL hl ⟨.mkI _, q2⟩ hz)
theorem s_iald {k o : Nat} {j : Int32} (hx : p.tables.exec = Jvm.exec) (hb : c.code = cc) (hal : s0.vm.Alike s.vm) (hk : k = 20 ∨ k = 21 ∨ k = 28 ∨ k = 29) (hin : sIn j (sN t k o) = true) (hd : decode cc pc = .ok (.iaload, 1))
    (kk : sOk p l e R s m args below meth c Q D s0 γ n0 w0 t (pc + 1) ls (.inl (sA t k o j.toNatClampNeg) :: st)) : sOk p l e R s m args below meth c Q D s0 γ n0 w0 t pc ls (.inl j :: .inr (.inr (k, some o)) :: st) := by
  intro H locs arr mst hR hL hl hs hz
  obtain ⟨v, vs0, rfl, q0, q9⟩ := hs.cons
  obtain ⟨v2, vs, rfl, q1, q2⟩ := q9.cons
  obtain ⟨e1, v1⟩ := q1.r (by omega)
  subst e1
  rw [q0.i]
  obtain ⟨cell, c1, c2, c3, c4, c5, c6⟩ := hR.2.2.2.1 k o (by omega) (by omega) (v1 o rfl)
  obtain ⟨h1, h2⟩ := sIn_in hin
  have hty : sAt k = .int := by rcases hk with h | h | h | h <;> subst h <;> rfl
  rw [hty] at c2
  have hv := c5 _ h2
  rw [show sEv γ t k o j.toNatClampNeg = .int (sA t k o j.toNatClampNeg) by unfold sEv sEl; rw [if_neg (by omega), if_neg (by omega), if_neg (by omega)]; rfl] at hv
  exact W.iald hx hb c1 (State.isArrayOf_alike hal c2) c3 (sSz h1 c4) hv rfl rfl hd (kk H locs arr _ hR hL hl ⟨.mkI _, q2⟩ hz)
theorem s_bald {o : Nat} {j : Int32} (hx : p.tables.exec = Jvm.exec) (hb : c.code = cc) (hal : s0.vm.Alike s.vm) (hin : sIn j (sN t 22 o) = true) (hd : decode cc pc = .ok (.baload, 1))
    (kk : sOk p l e R s m args below meth c Q D s0 γ n0 w0 t (pc + 1) ls (.inl (if sB t 22 o j.toNatClampNeg = true then 1 else 0) :: st)) : sOk p l e R s m args below meth c Q D s0 γ n0 w0 t pc ls (.inl j :: .inr (.inr (22, some o)) :: st) := by
  intro H locs arr mst hR hL hl hs hz
  obtain ⟨v, vs0, rfl, q0, q9⟩ := hs.cons
  obtain ⟨v2, vs, rfl, q1, q2⟩ := q9.cons
  obtain ⟨e1, v1⟩ := q1.r (by omega)
  subst e1
  rw [q0.i]
  obtain ⟨cell, c1, c2, c3, c4, c5, c6⟩ := hR.2.2.2.1 22 o (by omega) (by omega) (v1 o rfl)
  obtain ⟨h1, h2⟩ := sIn_in hin
  exact W.zald hx hb c1 (State.isArrayOf_alike hal c2) c3 (sSz h1 c4) (c5 _ h2) rfl rfl hd (kk H locs arr _ hR hL hl ⟨.mkI _, q2⟩ hz)
theorem s_lald {o : Nat} {j : Int32} (hx : p.tables.exec = Jvm.exec) (hb : c.code = cc) (hal : s0.vm.Alike s.vm) (hin : sIn j (sN t 23 o) = true) (hd : decode cc pc = .ok (.laload, 1))
    (kk : sOk p l e R s m args below meth c Q D s0 γ n0 w0 t (pc + 1) ls (.inr (.inl (sL t 23 o j.toNatClampNeg)) :: st)) : sOk p l e R s m args below meth c Q D s0 γ n0 w0 t pc ls (.inl j :: .inr (.inr (23, some o)) :: st) := by
  intro H locs arr mst hR hL hl hs hz
  obtain ⟨v, vs0, rfl, q0, q9⟩ := hs.cons
  obtain ⟨v2, vs, rfl, q1, q2⟩ := q9.cons
  obtain ⟨e1, v1⟩ := q1.r (by omega)
  subst e1
  rw [q0.i]
  obtain ⟨cell, c1, c2, c3, c4, c5, c6⟩ := hR.2.2.2.1 23 o (by omega) (by omega) (v1 o rfl)
  obtain ⟨h1, h2⟩ := sIn_in hin
  exact W.lald hx hb c1 (State.isArrayOf_alike hal c2) c3 (sSz h1 c4) (c5 _ h2) rfl rfl hd (kk H locs arr _ hR hL hl ⟨.mkL _, q2⟩ hz)
theorem s_aald {k o : Nat} {j : Int32} (hx : p.tables.exec = Jvm.exec) (hb : c.code = cc) (hal : s0.vm.Alike s.vm) (hk : 24 ≤ k ∧ k < 28) (hin : sIn j (sN t k o) = true) (hd : decode cc pc = .ok (.aaload, 1))
    (kk : sOk p l e R s m args below meth c Q D s0 γ n0 w0 t (pc + 1) ls (.inr (.inr (sE t k o j.toNatClampNeg)) :: st)) : sOk p l e R s m args below meth c Q D s0 γ n0 w0 t pc ls (.inl j :: .inr (.inr (k, some o)) :: st) := by
  intro H locs arr mst hR hL hl hs hz
  obtain ⟨v, vs0, rfl, q0, q9⟩ := hs.cons
  obtain ⟨v2, vs, rfl, q1, q2⟩ := q9.cons
  obtain ⟨e1, v1⟩ := q1.r (by omega)
  subst e1
  rw [q0.i]
  obtain ⟨cell, c1, c2, c3, c4, c5, c6⟩ := hR.2.2.2.1 k o (by omega) (by omega) (v1 o rfl)
  obtain ⟨h1, h2⟩ := sIn_in hin
  have hty : (sAt k).isReference = true := by
    have h3 : k = 24 ∨ k = 25 ∨ k = 26 ∨ k = 27 := by omega
    rcases h3 with h | h | h | h <;> subst h <;> rfl
  have hel : sEl t k o j.toNatClampNeg = .inr (.inr (sE t k o j.toNatClampNeg)) := by unfold sEl; rw [if_neg (by omega), if_neg (by omega), if_pos hk]
  have hok := sEl_ok hR.2.2.2.2.2.2 k o j.toNatClampNeg
  have hv := c5 _ h2
  unfold sEv at hv
  rw [hel] at hv hok
  exact W.aald hx hb c1 (State.isArrayOf_alike hal c2) hty c3 (sSz h1 c4) hv rfl rfl hd (kk H locs arr _ hR hL hl ⟨.mkT hok, q2⟩ hz)
/-- what a store to an array leaves -/
theorem sArr_set {t' : sT} {H' : Heap} {k o jn : Nat} {cell : Cell} {v : Value} (c2 : s0.isArrayOf cell (sAt k)) (c3 : cell.vm ≠ .unknown) (c4 : sN t k o ≤ cell.slots.size ∧ cell.slots.size.toInt32 = Int32.ofNat (sN t k o)) (c5 : ∀ p, p < sN t k o → cell.slots[p]? = some (sEv γ t k o p))
    (c6 : 24 ≤ k → k < 28 → 0 < sN t k o → (∀ q, cell.vm ≠ .statics q) ∧ ∃ (kA : Class) (comp : ClassId) (C : String), sAt k = .object C ∧ s0.vm.classes[cell.cls]? = some kA ∧ kA.kind = .array comp (.object C) ∧ s0.vm.findClass C = some comp ∧ s0.vm.findClass ("[" ++ (FieldType.object C).toString) = some cell.cls)
    (hj : jn < sN t k o) (hN : sN t' k o = sN t k o) (he : ∀ p, p < sN t k o → sEv γ t' k o p = if p = jn then v else sEv γ t k o p) (h1 : H'[γ k o]? = some (cell.setSlot jn v)) : sArr s0 γ t' H' k o := by
  refine ⟨cell.setSlot jn v, h1, c2, c3, ?_, fun p hp => ?_, fun a b d => c6 a b (by rw [← hN]; exact d)⟩
  · have e : (cell.setSlot jn v).slots.size = cell.slots.size := by simp [Cell.setSlot]
    rw [hN, e]; exact c4
  · rw [hN] at hp
    rw [he p hp]
    by_cases q : p = jn
    · subst q
      rw [if_pos rfl]
      exact Cell.slots_setSlot_self _ (k2_hasslot (c5 p hp))
    · rw [if_neg q, slot_ne _ _ (fun z => q z.symm)]
      exact c5 p hp
theorem s_ast {k o : Nat} {j : Int32} {t' : sT} {H : Heap} {locs : List Loc} {arr : Array Slot} {v : Value} {vs : List Value} (hR : sRep D s0 γ t H) (hL : ∀ q ∈ locs, s0.heap.size ≤ q.base) (hl : sLr γ t ls arr) (q2 : sSr γ t st vs) (hz : arr.size = c.maxLocals)
    (hk : 20 ≤ k ∧ k < 28) (ho : o < sC t k) (hin : j.toNatClampNeg < sN t k o) (h1 : sC t' = sC t) (h2 : sn t' = sn t) (h2' : sw t' = sw t) (h2g : sG t' = sG t) (h3 : sN t' = sN t) (hF : ∀ a b, sFv γ t' a b = sFv γ t a b)
    (hE : ∀ a b q, ¬ (a = k ∧ b = o ∧ q = j.toNatClampNeg) → sEl t' a b q = sEl t a b q) (hv : sEv γ t' k o j.toNatClampNeg = v) (h6 : sWf t')
    {cell : Cell} (c1 : H[γ k o]? = some cell) (c2 : s0.isArrayOf cell (sAt k)) (c3 : cell.vm ≠ .unknown) (c4 : sN t k o ≤ cell.slots.size ∧ cell.slots.size.toInt32 = Int32.ofNat (sN t k o)) (c5 : ∀ p, p < sN t k o → cell.slots[p]? = some (sEv γ t k o p))
    (c6 : 24 ≤ k → k < 28 → 0 < sN t k o → (∀ q, cell.vm ≠ .statics q) ∧ ∃ (kA : Class) (comp : ClassId) (C : String), sAt k = .object C ∧ s0.vm.classes[cell.cls]? = some kA ∧ kA.kind = .array comp (.object C) ∧ s0.vm.findClass C = some comp ∧ s0.vm.findClass ("[" ++ (FieldType.object C).toString) = some cell.cls)
    (kk : sOk p l e R s m args below meth c Q D s0 γ n0 w0 t' (pc + 1) ls st) {H' : Heap} (g1 : H'[γ k o]? = some (cell.setSlot j.toNatClampNeg v)) (g2 : H'.size = H.size) (g3 : ∀ q, q ≠ γ k o → H'[q]? = H[q]?) :
    W p l e R s m args below meth c H' (locs ++ [⟨γ k o, j.toNatClampNeg⟩]) (sn t - n0) (sw t - w0) Q (F0 m (pc + 1) arr vs) := by
  have h27 : k = 27 → 1 ≤ o := fun q => by
    subst q
    have := hR.2.2.2.2.2.2.2.2.2.2.1
    rcases Nat.eq_zero_or_pos o with h | h
    · subst h; omega
    · exact h
  have hown : s0.heap.size ≤ γ k o := hR.2.2.2.2.2.1 k o ⟨Or.inr ⟨hk.1, by omega⟩, ho⟩ ⟨by omega, h27⟩
  have hext : sExt t t' := ⟨fun k => by rw [h1]; exact Nat.le_refl _, fun k i _ => by rw [h2g], by rw [h2]; exact Nat.le_refl _, by rw [h2']; exact Nat.le_refl _⟩
  have hob : sArr s0 γ t' H' k o := by
    refine sArr_set c2 c3 c4 c5 c6 hin (by rw [h3]) (fun p hp => ?_) g1
    by_cases q : p = j.toNatClampNeg
    · rw [if_pos q, q, hv]
    · rw [if_neg q]
      unfold sEv
      rw [hE _ _ _ (fun z => q z.2.2)]
  have hR' : sRep D s0 γ t' H' := hR.putA hk ho h27 h1 h2 h3 hF g2 g3 hob (fun a b q hne => hE a b q (fun z => hne ⟨z.1, z.2.1⟩)) h6
  have k1 := kk H' (locs ++ [⟨γ k o, j.toNatClampNeg⟩]) arr vs hR' (fun q hq => by
    rcases List.mem_append.mp hq with h | h
    · exact hL q h
    · rw [List.mem_singleton.mp h]; exact hown) (hl.ext hext) (q2.ext hext) hz
  rw [h2, h2'] at k1
  exact k1
theorem sEl_A {k o j : Nat} (hk : k = 20 ∨ k = 21) (x : Int32) (a b q : Nat) : sEl (sAw t k o j x) a b q = if a = k ∧ b = o ∧ q = j then .inl x else sEl t a b q := by
  unfold sEl
  by_cases h : a = k ∧ b = o ∧ q = j
  · obtain ⟨rfl, rfl, rfl⟩ := h
    rw [if_pos (⟨rfl, rfl, rfl⟩ : a = a ∧ b = b ∧ q = q), if_neg (by omega), if_neg (by omega), if_neg (by omega)]
    show Sum.inl (sU3 (sA t) a b q x a b q) = _
    simp [sU3]
  · rw [if_neg h]
    show (if a = 22 then _ else if a = 23 then _ else if 24 ≤ a ∧ a < 28 then _ else Sum.inl (sU3 (sA t) k o j x a b q)) = _
    rw [sU3_n _ _ _ _ _ _ _ _ h]
    rfl
theorem sEl_B {o j : Nat} (x : Bool) (a b q : Nat) : sEl (sBw t 22 o j x) a b q = if a = 22 ∧ b = o ∧ q = j then .inl (if x = true then 1 else 0) else sEl t a b q := by
  unfold sEl
  by_cases h : a = 22 ∧ b = o ∧ q = j
  · obtain ⟨rfl, rfl, rfl⟩ := h
    rw [if_pos (⟨rfl, rfl, rfl⟩ : 22 = 22 ∧ b = b ∧ q = q), if_pos rfl]
    show Sum.inl (if sU3 (sB t) 22 b q x 22 b q = true then 1 else 0) = _
    simp [sU3]
  · rw [if_neg h]
    show (if a = 22 then Sum.inl (if sU3 (sB t) 22 o j x a b q = true then 1 else 0) else if a = 23 then _ else if 24 ≤ a ∧ a < 28 then _ else _) = _
    rw [sU3_n _ _ _ _ _ _ _ _ h]
    rfl
theorem sEl_L {o j : Nat} (x : Int64) (a b q : Nat) : sEl (sLw t 23 o j x) a b q = if a = 23 ∧ b = o ∧ q = j then .inr (.inl x) else sEl t a b q := by
  unfold sEl
  by_cases h : a = 23 ∧ b = o ∧ q = j
  · obtain ⟨rfl, rfl, rfl⟩ := h
    rw [if_pos (⟨rfl, rfl, rfl⟩ : 23 = 23 ∧ b = b ∧ q = q), if_neg (by omega), if_pos rfl]
    show Sum.inr (Sum.inl (sU3 (sL t) 23 b q x 23 b q)) = _
    simp [sU3]
  · rw [if_neg h]
    show (if a = 22 then _ else if a = 23 then Sum.inr (Sum.inl (sU3 (sL t) 23 o j x a b q)) else if 24 ≤ a ∧ a < 28 then _ else _) = _
    rw [sU3_n _ _ _ _ _ _ _ _ h]
    rfl
theorem sEl_E {k o j : Nat} (hk : 24 ≤ k ∧ k < 28) (x : Nat × Option Nat) (a b q : Nat) : sEl (sEw t k o j x) a b q = if a = k ∧ b = o ∧ q = j then .inr (.inr x) else sEl t a b q := by
  unfold sEl
  by_cases h : a = k ∧ b = o ∧ q = j
  · obtain ⟨rfl, rfl, rfl⟩ := h
    rw [if_pos (⟨rfl, rfl, rfl⟩ : a = a ∧ b = b ∧ q = q), if_neg (by omega), if_neg (by omega), if_pos hk]
    show Sum.inr (Sum.inr (sU3 (sE t) a b q x a b q)) = _
    simp [sU3]
  · rw [if_neg h]
    show (if a = 22 then _ else if a = 23 then _ else if 24 ≤ a ∧ a < 28 then Sum.inr (Sum.inr (sU3 (sE t) k o j x a b q)) else _) = _
    rw [sU3_n _ _ _ _ _ _ _ _ h]
    rfl
theorem s_iast {k o : Nat} {j x : Int32} (hx : p.tables.exec = Jvm.exec) (hb : c.code = cc) (hal : s0.vm.Alike s.vm) (hk : k = 20 ∨ k = 21) (hin : sIn j (sN t k o) = true) (hd : decode cc pc = .ok (.iastore, 1))
    (kk : sOk p l e R s m args below meth c Q D s0 γ n0 w0 (sAw t k o j.toNatClampNeg x) (pc + 1) ls st) : sOk p l e R s m args below meth c Q D s0 γ n0 w0 t pc ls (.inl x :: .inl j :: .inr (.inr (k, some o)) :: st) := by
  intro H locs arr mst hR hL hl hs hz
  obtain ⟨v0, vs9, rfl, q8, q7⟩ := hs.cons
  obtain ⟨v, vs0, rfl, q0, q9⟩ := q7.cons
  obtain ⟨v2, vs, rfl, q1, q2⟩ := q9.cons
  obtain ⟨e1, v1⟩ := q1.r (by omega)
  subst e1
  rw [q0.i, q8.i]
  have ho := v1 o rfl
  obtain ⟨cell, c1, c2, c3, c4, c5, c6⟩ := hR.2.2.2.1 k o (by omega) (by omega) ho
  obtain ⟨h1, h2⟩ := sIn_in hin
  have hty : sAt k = .int := by rcases hk with h | h <;> subst h <;> rfl
  have hw := hR.2.2.2.2.2.2
  refine W.iast hx hb c1 (by rw [← hty]; exact State.isArrayOf_alike hal c2) c3 (sSz h1 c4) rfl rfl hd fun H' g1 g2 g3 => ?_
  refine s_ast hR hL hl q2 hz (t' := sAw t k o j.toNatClampNeg x) (by omega) ho h2 rfl rfl rfl rfl rfl (fun _ _ => rfl) (fun a b q hne => by rw [sEl_A hk, if_neg hne]) (by unfold sEv; rw [sEl_A hk, if_pos ⟨rfl, rfl, rfl⟩]; rfl) ⟨hw.1, hw.2.1, hw.2.2.1, fun a b hlt q => ⟨?_, (hw.2.2.2.1 a b hlt q).2⟩, hw.2.2.2.2⟩ c1 c2 c3 c4 c5 c6 kk g1 g2 g3
  show sU3 (sA t) k o _ x a b q = 0
  rw [sU3_n]
  · exact (hw.2.2.2.1 a b hlt q).1
  · rintro ⟨rfl, rfl, -⟩; exact absurd ho (Nat.not_lt.mpr hlt)
theorem s_bast {o : Nat} {j x : Int32} (hx : p.tables.exec = Jvm.exec) (hb : c.code = cc) (hal : s0.vm.Alike s.vm) (hin : sIn j (sN t 22 o) = true) (hx01 : x = 0 ∨ x = 1) (hd : decode cc pc = .ok (.bastore, 1))
    (kk : sOk p l e R s m args below meth c Q D s0 γ n0 w0 (sBw t 22 o j.toNatClampNeg (decide (x = 1))) (pc + 1) ls st) : sOk p l e R s m args below meth c Q D s0 γ n0 w0 t pc ls (.inl x :: .inl j :: .inr (.inr (22, some o)) :: st) := by
  intro H locs arr mst hR hL hl hs hz
  obtain ⟨v0, vs9, rfl, q8, q7⟩ := hs.cons
  obtain ⟨v, vs0, rfl, q0, q9⟩ := q7.cons
  obtain ⟨v2, vs, rfl, q1, q2⟩ := q9.cons
  obtain ⟨e1, v1⟩ := q1.r (by omega)
  subst e1
  rw [q0.i, q8.i]
  have ho := v1 o rfl
  obtain ⟨cell, c1, c2, c3, c4, c5, c6⟩ := hR.2.2.2.1 22 o (by omega) (by omega) ho
  obtain ⟨h1, h2⟩ := sIn_in hin
  have hw := hR.2.2.2.2.2.2
  have ex : narrow .boolean (.int x) = .int (if decide (x = 1) = true then 1 else 0) := by
    rcases hx01 with h | h <;> subst h <;> rfl
  refine W.zast hx hb c1 (State.isArrayOf_alike hal c2) c3 (sSz h1 c4) rfl rfl hd fun H' g1 g2 g3 => ?_
  rw [ex] at g1
  refine s_ast hR hL hl q2 hz (t' := sBw t 22 o j.toNatClampNeg (decide (x = 1))) (by omega) ho h2 rfl rfl rfl rfl rfl (fun _ _ => rfl) (fun a b q hne => by rw [sEl_B, if_neg hne]) (by unfold sEv; rw [sEl_B, if_pos ⟨rfl, rfl, rfl⟩]; rfl) ⟨hw.1, hw.2.1, hw.2.2.1, fun a b hlt q => ⟨(hw.2.2.2.1 a b hlt q).1, ?_, (hw.2.2.2.1 a b hlt q).2.2⟩, hw.2.2.2.2⟩ c1 c2 c3 c4 c5 c6 kk g1 g2 g3
  show sU3 (sB t) 22 o _ _ a b q = false
  rw [sU3_n]
  · exact (hw.2.2.2.1 a b hlt q).2.1
  · rintro ⟨rfl, rfl, -⟩; exact absurd ho (Nat.not_lt.mpr hlt)
theorem s_last {o : Nat} {j : Int32} {x : Int64} (hx : p.tables.exec = Jvm.exec) (hb : c.code = cc) (hal : s0.vm.Alike s.vm) (hin : sIn j (sN t 23 o) = true) (hd : decode cc pc = .ok (.lastore, 1))
    (kk : sOk p l e R s m args below meth c Q D s0 γ n0 w0 (sLw t 23 o j.toNatClampNeg x) (pc + 1) ls st) : sOk p l e R s m args below meth c Q D s0 γ n0 w0 t pc ls (.inr (.inl x) :: .inl j :: .inr (.inr (23, some o)) :: st) := by
  intro H locs arr mst hR hL hl hs hz
  obtain ⟨v0, vs9, rfl, q8, q7⟩ := hs.cons
  obtain ⟨v, vs0, rfl, q0, q9⟩ := q7.cons
  obtain ⟨v2, vs, rfl, q1, q2⟩ := q9.cons
  obtain ⟨e1, v1⟩ := q1.r (by omega)
  subst e1
  rw [q0.i, q8.l]
  have ho := v1 o rfl
  obtain ⟨cell, c1, c2, c3, c4, c5, c6⟩ := hR.2.2.2.1 23 o (by omega) (by omega) ho
  obtain ⟨h1, h2⟩ := sIn_in hin
  have hw := hR.2.2.2.2.2.2
  refine W.last hx hb c1 (State.isArrayOf_alike hal c2) c3 (sSz h1 c4) rfl rfl hd fun H' g1 g2 g3 => ?_
  refine s_ast hR hL hl q2 hz (t' := sLw t 23 o j.toNatClampNeg x) (by omega) ho h2 rfl rfl rfl rfl rfl (fun _ _ => rfl) (fun a b q hne => by rw [sEl_L, if_neg hne]) (by unfold sEv; rw [sEl_L, if_pos ⟨rfl, rfl, rfl⟩]; rfl) ⟨hw.1, hw.2.1, hw.2.2.1, fun a b hlt q => ⟨(hw.2.2.2.1 a b hlt q).1, (hw.2.2.2.1 a b hlt q).2.1, (hw.2.2.2.1 a b hlt q).2.2.1, ?_⟩, hw.2.2.2.2⟩ c1 c2 c3 c4 c5 c6 kk g1 g2 g3
  show sU3 (sL t) 23 o _ x a b q = 0
  rw [sU3_n]
  · exact (hw.2.2.2.1 a b hlt q).2.2.2
  · rintro ⟨rfl, rfl, -⟩; exact absurd ho (Nat.not_lt.mpr hlt)
end S10
