/-! fields, arrays, new things: rows of the small machine -/
theorem sFld_ok {t : sT} (hw : sWf t) (a o : Nat) : sOkV t (sFld t a (sTb a) (sTc a) o) := by
  unfold sFld
  split
  · trivial
  · trivial
  · cases h : sR t a o with
    | none => trivial
    | some i => exact hw.1 a o i h
theorem sEl_ok {t : sT} (hw : sWf t) (k o p : Nat) : sOkV t (sEl t k o p) := by
  unfold sEl
  split
  · trivial
  · split
    · trivial
    · split
      · cases h : (sE t k o p).2 with
        | none =>
          have e : sE t k o p = ((sE t k o p).1, none) := by rw [← h]
          rw [e]; trivial
        | some i =>
          have e : sE t k o p = ((sE t k o p).1, some i) := by rw [← h]
          have := (hw.2.1 k o p i h).1
          rw [e]; exact this
      · trivial
theorem sIn_in {x : Int32} {n : Nat} (h : sIn x n = true) : ¬ (x < 0 ∨ n ≤ x.toNatClampNeg) ∧ x.toNatClampNeg < n := by
  unfold sIn at h
  simp only [Bool.and_eq_true, decide_eq_true_eq] at h
  have h2 : x.toNatClampNeg < n := by simpa using h.2
  refine ⟨fun q => ?_, h2⟩
  rcases q with q | q
  · have a1 := Int32.lt_iff_toInt_lt.mp q
    have a2 := Int32.le_iff_toInt_le.mp h.1
    omega
  · omega
theorem sSz {j : Int32} {n sz : Nat} {q : Prop} (h : ¬ (j < 0 ∨ n ≤ j.toNatClampNeg)) (c4 : n ≤ sz ∧ q) : ¬ (j < 0 ∨ sz ≤ j.toNatClampNeg) := fun z => h (z.imp id (fun y => Nat.le_trans c4.1 y))
section S9
variable {p : Program} {l : Launch} {e : Env} {R : Room} {s : State} {m : MethodId} {args : Array Value} {below : List Frame} {meth : Method} {c : Code} {Q : State → Prop} {D : va_G} {s0 : State} {γ : Nat → Nat → Nat} {n0 w0 : Nat}
variable {cc : ByteArray} {pc : Nat} {ls st : List sV} {t : sT}
theorem s_getf {own ref C : String} {T : u_T} {N j a o : Nat} (hx : p.tables.exec = Jvm.exec) (hb : c.code = cc) (hts : ∀ w ∈ sGW, w.before args s = true) (hown : s.vm.findClass own = some m.cls) (hK : va_K D sCl [] s) (hc : sCl[a / 64]? = some (C, T, N)) (hin : ∀ w ∈ u_ws C T N, w ∈ sGW)
    (hk : a % 64 < N) (hk14 : a / 64 < 14) (hN : sNf (a / 64) = N) (hlink : (Cond.fieldLink own j ref (T (a % 64)).2.1 (T (a % 64)).2.2.1).before args s = true) (hsame : ref = (T (a % 64)).1 ∨ (Cond.sameField ref (T (a % 64)).1 (T (a % 64)).2.1 (T (a % 64)).2.2.1).before args s = true)
    (hd : decode cc pc = .ok (.getfield j, 3)) (kk : sOk p l e R s m args below meth c Q D s0 γ n0 w0 t (pc + 3) ls (sFld t a (sTb a) (sTc a) o :: st)) : sOk p l e R s m args below meth c Q D s0 γ n0 w0 t pc ls (.inr (.inr (a / 64, some o)) :: st) := by
  intro H locs arr mst hR hL hl hs hz
  obtain ⟨v, vs, rfl, q1, q2⟩ := hs.cons
  obtain ⟨e1, v1⟩ := q1.r (by omega)
  subst e1
  have hob := hR.2.2.1 (a / 64) o hk14 (v1 o rfl)
  rw [hN] at hob
  have hP : va_P D sCl [(γ (a / 64) o, .inr (a / 64, (List.range N).map (fun j => sFv γ t (64 * (a / 64) + j) o)))] H := by
    intro k q hq
    have hz0 : k < 1 := (List.getElem?_eq_some_iff.mp hq).1
    rw [show k = 0 by omega] at hq
    cases hq
    refine ⟨_, hc, hob.to fun j hj => ?_⟩
    unfold vp_V
    rw [List.getD_eq_getElem?_getD, List.getElem?_map, List.getElem?_range hj]
    rfl
  refine va_get hx hb hts hin hown hK hP 0 rfl hc (a % 64) hk hlink (fun x hx2 => ?_) (v := sFv γ t a o) ?_ hd (kk H locs arr _ hR hL hl ⟨.mkT (sFld_ok hR.2.2.2.2.2.2 a o), q2⟩ hz)
  · rcases hsame with h | h
    · rw [h]; exact hx2
    · exact u_same h x hx2
  · rw [List.getElem?_map, List.getElem?_range hk, Option.map_some, show 64 * (a / 64) + a % 64 = a by omega]
/-- one field of one object: what the heap is behind it -/
theorem s_put0 {own ref C : String} {T : u_T} {N j a o : Nat} {H : Heap} {locs : List Loc} {arr : Array Slot} {v : Value} {vs : List Value} {cells slots : Nat} (hx : p.tables.exec = Jvm.exec) (hb : c.code = cc) (hts : ∀ w ∈ sGW, w.before args s = true) (hown : s.vm.findClass own = some m.cls) (hK : va_K D sCl [] s) (hc : sCl[a / 64]? = some (C, T, N)) (hin : ∀ w ∈ u_ws C T N, w ∈ sGW)
    (ty0 : Nat → FieldType) (hty : ∀ k, k < N → parseFieldDescriptor (T k).2.2.1 = some (ty0 k)) (hnm : ∀ a, a < N → ∀ b, b < N → a ≠ b → (T a).2.1 ≠ (T b).2.1)
    (hk : a % 64 < N) (hlink : (Cond.fieldLink own j ref (T (a % 64)).2.1 (T (a % 64)).2.2.1).before args s = true) (hsame : ref = (T (a % 64)).1 ∨ (Cond.sameField ref (T (a % 64)).1 (T (a % 64)).2.1 (T (a % 64)).2.2.1).before args s = true)
    (hfin : (T (a % 64)).2.2.2 = false ∨ (meth.name = "<init>" ∧ (T (a % 64)).1 = own)) (hn : narrow (ty0 (a % 64)) v = v) (hfit : fits (ty0 (a % 64)) v = true)
    (hd : decode cc pc = .ok (.putfield j, 3)) {V : Nat → Value} (hob : t_OB (γ (a / 64) o) (D.1 (a / 64)) N (D.2 (a / 64)) H V)
    (kk : ∀ (H' : Heap) (i : Nat), t_OB (γ (a / 64) o) (D.1 (a / 64)) N (D.2 (a / 64)) H' (updV V (a % 64) v) → H'.size = H.size → (∀ q, q ≠ γ (a / 64) o → H'[q]? = H[q]?) → W p l e R s m args below meth c H' (locs ++ [⟨γ (a / 64) o, i⟩]) cells slots Q (F0 m (pc + 3) arr vs)) :
    W p l e R s m args below meth c H locs cells slots Q (F0 m pc arr (v :: .ref (γ (a / 64) o) :: vs)) := by
  have hap := va_apart (own := own) hts hin ty0 hty hnm hK hc
  obtain ⟨cell, q1, q2, q3, q4⟩ := hob
  obtain ⟨hS, hfc, kC, hkC, hkind⟩ := hK.1 (a / 64) _ hc
  obtain ⟨cf, kf, fi, f, hi, hsl⟩ := hS (a % 64) hk
  have hsm : ∀ x, s.fieldFound? (T (a % 64)).1 (T (a % 64)).2.1 (T (a % 64)).2.2.1 = some x → s.fieldFound? ref (T (a % 64)).2.1 (T (a % 64)).2.2.1 = some x := fun x hx2 => by
    rcases hsame with h | h
    · rw [h]; exact hx2
    · exact u_same h x hx2
  have hst := (u_facts hfc hkC (u_lays hts hin hk) hi).1
  have hlay := hts _ (hin _ (u_in_lay hk))
  unfold u_lay at hlay
  by_cases hf : (T (a % 64)).2.2.2 = true
  · rw [if_pos hf] at hlay
    rcases hfin with h | ⟨h1, h2⟩
    · rw [hf] at h; cases h
    · have hcf : m.cls = cf := by
        obtain ⟨_, _, c', _, _, _, -, -, hf', -, -, -, hown2, -⟩ := Cond.laysFinal_spec hlay
        have e1 : c' = cf := by have := hi.symm.trans hf'; simp at this; exact this.1.symm
        rw [h2] at hown2
        rw [← e1]; exact Option.some.inj (hown.symm.trans hown2)
      have h6 := u_fits hfc hkC hkind (Or.inr hlay) hi (hty _ hk) hn hfit
      refine W.putFinK hx hb hown hlink (hsm _ hi) hst hcf h1 (by rw [q2]; exact h6) q1 q3 (by rw [hsl]; exact k2_hasslot (q4 _ hk)) rfl rfl hd fun H' e1 e2 e3 => ?_
      rw [hsl] at e1
      exact kk H' _ ⟨_, e1, q2, q3, t_set q4 hap hk v⟩ e2 e3
  · rw [if_neg hf] at hlay
    have h6 := u_store hfc hkC hkind hlay hi (hty _ hk) hn hfit
    refine W.putK hx hb (f := f) ⟨hown, hlink, ⟨_, _, _, hsm _ hi⟩, hst⟩ (by rw [q2]; exact h6) q1 q3 (by rw [hsl]; exact k2_hasslot (q4 _ hk)) rfl rfl hd fun H' e1 e2 e3 => ?_
    rw [hsl] at e1
    exact kk H' _ ⟨_, e1, q2, q3, t_set q4 hap hk v⟩ e2 e3
theorem sFv_I {t : sT} {a o : Nat} (h : sTb a = 0) (x : Int32) (a' o' : Nat) : sFv γ (sIw t a o x) a' o' = if a' = a ∧ o' = o then .int x else sFv γ t a' o' := by
  unfold sFv sFld
  by_cases q : a' = a ∧ o' = o
  · obtain ⟨rfl, rfl⟩ := q
    rw [if_pos (⟨rfl, rfl⟩ : a' = a' ∧ o' = o'), h]
    show Value.int (sU2 (sI t) a' o' x a' o') = _
    rw [sU2_s]
  · rw [if_neg q]
    show sTr γ (match sTb a' with | 0 => .inl (sU2 (sI t) a o x a' o') | 1 => _ | _ => _) = _
    rw [sU2_n _ _ _ _ _ _ q]
    rfl
theorem sFv_Z {t : sT} {a o : Nat} (h : sTb a = 1) (x : Bool) (a' o' : Nat) : sFv γ (sZw t a o x) a' o' = if a' = a ∧ o' = o then .int (if x = true then 1 else 0) else sFv γ t a' o' := by
  unfold sFv sFld
  by_cases q : a' = a ∧ o' = o
  · obtain ⟨rfl, rfl⟩ := q
    rw [if_pos (⟨rfl, rfl⟩ : a' = a' ∧ o' = o'), h]
    show Value.int (if sU2 (sZ t) a' o' x a' o' = true then 1 else 0) = _
    rw [sU2_s]
  · rw [if_neg q]
    show sTr γ (match sTb a' with | 0 => _ | 1 => .inl (if sU2 (sZ t) a o x a' o' = true then 1 else 0) | _ => _) = _
    rw [sU2_n _ _ _ _ _ _ q]
    rfl
theorem sFv_R {t : sT} {a o : Nat} (h : sTb a = 2) (x : Option Nat) (a' o' : Nat) : sFv γ (sRw t a o x) a' o' = if a' = a ∧ o' = o then va_rf (x.map (γ (sTc a))) else sFv γ t a' o' := by
  unfold sFv sFld
  by_cases q : a' = a ∧ o' = o
  · obtain ⟨rfl, rfl⟩ := q
    rw [if_pos (⟨rfl, rfl⟩ : a' = a' ∧ o' = o'), h]
    show va_rf ((sU2 (sR t) a' o' x a' o').map _) = _
    rw [sU2_s]
  · rw [if_neg q]
    show sTr γ (match sTb a' with | 0 => _ | 1 => _ | _ => .inr (.inr (sTc a', sU2 (sR t) a o x a' o'))) = _
    rw [sU2_n _ _ _ _ _ _ q]
    rfl
theorem sNf_le : ∀ a, a < 14 → sNf a ≤ 64 := by decide +kernel
/-- the type of a field is that of its tag -/
def sTg0 (b : Nat) (ty : FieldType) : Prop := match b with
  | 0 => ty = .int
  | 1 => ty = .boolean
  | _ => (∃ n, ty = .object n) ∨ ∃ u, ty = .array u
theorem s_putf {own ref C : String} {T : u_T} {N j a o : Nat} {w : sV} {t' : sT} (hx : p.tables.exec = Jvm.exec) (hb : c.code = cc) (hts : ∀ w ∈ sGW, w.before args s = true) (hown : s.vm.findClass own = some m.cls) (hK : va_K D sCl [] s) (hc : sCl[a / 64]? = some (C, T, N)) (hin : ∀ w ∈ u_ws C T N, w ∈ sGW)
    (ty0 : Nat → FieldType) (hty : ∀ k, k < N → parseFieldDescriptor (T k).2.2.1 = some (ty0 k)) (hnm : ∀ a, a < N → ∀ b, b < N → a ≠ b → (T a).2.1 ≠ (T b).2.1) (htg : sTg0 (sTb a) (ty0 (a % 64)))
    (hk : a % 64 < N) (hk14 : a / 64 < 14) (hN : sNf (a / 64) = N) (hlink : (Cond.fieldLink own j ref (T (a % 64)).2.1 (T (a % 64)).2.2.1).before args s = true) (hsame : ref = (T (a % 64)).1 ∨ (Cond.sameField ref (T (a % 64)).1 (T (a % 64)).2.1 (T (a % 64)).2.2.1).before args s = true)
    (hfin : (T (a % 64)).2.2.2 = false ∨ (meth.name = "<init>" ∧ (T (a % 64)).1 = own))
    (hd : decode cc pc = .ok (.putfield j, 3)) (hp : sPut t a (sTb a) (sTc a) o w = some t') (h31 : ¬ sTc a = 31) (kk : sOk p l e R s m args below meth c Q D s0 γ n0 w0 t' (pc + 3) ls st) : sOk p l e R s m args below meth c Q D s0 γ n0 w0 t pc ls (w :: .inr (.inr (a / 64, some o)) :: st) := by
  intro H locs arr mst hR hL hl hs hz
  obtain ⟨v, vs0, rfl, q0, q9⟩ := hs.cons
  obtain ⟨v2, vs, rfl, q1, q2⟩ := q9.cons
  obtain ⟨e1, v1⟩ := q1.r (by omega)
  subst e1
  have ho := v1 o rfl
  have hob := hR.2.2.1 (a / 64) o hk14 ho
  rw [hN] at hob
  have hown2 : s0.heap.size ≤ γ (a / 64) o := hR.2.2.2.2.2.1 _ _ ⟨Or.inl hk14, ho⟩ ⟨by omega, fun q => by omega⟩
  have hw := hR.2.2.2.2.2.2
  have haj : ∀ j, j < N → ((64 * (a / 64) + j = a) ↔ j = a % 64) := fun j hj => by
    have := sNf_le (a / 64) hk14
    omega
  have fin : ∀ (t' : sT) (v : Value), sC t' = sC t → sn t' = sn t → sw t' = sw t → sG t' = sG t → sN t' = sN t → (∀ a b c, sEl t' a b c = sEl t a b c) → (∀ a' o', sFv γ t' a' o' = if a' = a ∧ o' = o then v else sFv γ t a' o') → sWf t' → narrow (ty0 (a % 64)) v = v → fits (ty0 (a % 64)) v = true → sOk p l e R s m args below meth c Q D s0 γ n0 w0 t' (pc + 3) ls st → W p l e R s m args below meth c H locs (sn t - n0) (sw t - w0) Q (F0 m pc arr (v :: .ref (γ (a / 64) o) :: vs)) := by
    intro t' v h1 h2 h2' h2g h3 h4 h5 h6 h7 h8 kk
    refine s_put0 hx hb hts hown hK hc hin ty0 hty hnm hk hlink hsame hfin h7 h8 hd hob fun H' i g1 g2 g3 => ?_
    have hext : sExt t t' := ⟨fun k => by rw [h1]; exact Nat.le_refl _, fun k i _ => by rw [h2g], by rw [h2]; exact Nat.le_refl _, by rw [h2']; exact Nat.le_refl _⟩
    have hR' : sRep D s0 γ t' H' := by
      have hob2 : t_OB (γ (a / 64) o) (D.1 (a / 64)) (sNf (a / 64)) (D.2 (a / 64)) H' (fun j => sFv γ t' (64 * (a / 64) + j) o) := by
        rw [hN]
        refine g1.to fun j hj => ?_
        rw [h5]
        unfold updV
        by_cases e : j = a % 64
        · rw [if_pos e, if_pos ⟨(haj j hj).mpr e, rfl⟩]
        · rw [if_neg e, if_neg (fun q => e ((haj j hj).mp q.1))]
      refine hR.putO hk14 ho h1 h2 h3 h4 g2 g3 hob2 (fun a' b' hne => ?_) h6 sNf_le
      rw [h5, if_neg]
      rintro ⟨rfl, rfl⟩
      exact hne ⟨rfl, rfl⟩
    have k1 := kk H' (locs ++ [⟨γ (a / 64) o, i⟩]) arr vs hR' (fun q hq => by
      rcases List.mem_append.mp hq with h | h
      · exact hL q h
      · rw [List.mem_singleton.mp h]; exact hown2) (hl.ext hext) (q2.ext hext) hz
    rw [h2, h2'] at k1
    exact k1
  unfold sPut at hp
  split at hp
  · next x hb0 =>
    cases hp
    rw [hb0] at htg
    rw [q0.i]
    refine fin (sIw t a o x) (.int x) rfl rfl rfl rfl rfl (fun _ _ _ => rfl) (fun a' o' => sFv_I hb0 x a' o') ⟨hw.1, hw.2.1, fun a' o' hlt => ⟨?_, (hw.2.2.1 a' o' hlt).2⟩, hw.2.2.2⟩ (by rw [show ty0 (a % 64) = .int from htg]; rfl) (by rw [show ty0 (a % 64) = .int from htg]; rfl) kk
    show sU2 (sI t) a o x a' o' = 0
    rw [sU2_n]
    · exact (hw.2.2.1 a' o' hlt).1
    · rintro ⟨rfl, rfl⟩; exact absurd ho (Nat.not_lt.mpr hlt)
  · next x hb0 =>
    split at hp
    · next hx01 =>
      cases hp
      rw [hb0] at htg
      rw [q0.i]
      have ex : x = if decide (x = 1) = true then 1 else 0 := by
        rcases hx01 with h | h <;> subst h <;> decide
      refine fin (sZw t a o (decide (x = 1))) (.int x) rfl rfl rfl rfl rfl (fun _ _ _ => rfl) (fun a' o' => by rw [sFv_Z hb0, ← ex]) ⟨hw.1, hw.2.1, fun a' o' hlt => ⟨(hw.2.2.1 a' o' hlt).1, ?_, (hw.2.2.1 a' o' hlt).2.2⟩, hw.2.2.2⟩ (by rw [show ty0 (a % 64) = .boolean from htg]; rcases hx01 with h | h <;> subst h <;> rfl) (by rw [show ty0 (a % 64) = .boolean from htg]; rcases hx01 with h | h <;> subst h <;> rfl) kk
      show sU2 (sZ t) a o _ a' o' = false
      rw [sU2_n]
      · exact (hw.2.2.1 a' o' hlt).2.1
      · rintro ⟨rfl, rfl⟩; exact absurd ho (Nat.not_lt.mpr hlt)
    · cases hp
  · next k r hb0 =>
    split at hp
    · next hkc =>
      cases hp
      subst hkc
      rw [hb0] at htg
      obtain ⟨e3, v3⟩ := q0.r h31
      rw [e3]
      have htg' : (∃ n, ty0 (a % 64) = .object n) ∨ ∃ u, ty0 (a % 64) = .array u := htg
      refine fin (sRw t a o r) (va_rf (r.map (γ (sTc a)))) rfl rfl rfl rfl rfl (fun _ _ _ => rfl) (fun a' o' => sFv_R hb0 r a' o') ⟨fun a' o' i hi => ?_, hw.2.1, fun a' o' hlt => ⟨(hw.2.2.1 a' o' hlt).1, (hw.2.2.1 a' o' hlt).2.1, ?_⟩, hw.2.2.2⟩ (by rcases htg' with ⟨n, h⟩ | ⟨n, h⟩ <;> rw [h] <;> cases r <;> rfl) (by rcases htg' with ⟨n, h⟩ | ⟨n, h⟩ <;> rw [h] <;> cases r <;> rfl) kk
      · have hi' : sU2 (sR t) a o r a' o' = some i := hi
        by_cases q : a' = a ∧ o' = o
        · obtain ⟨rfl, rfl⟩ := q
          rw [sU2_s] at hi'
          exact v3 i hi'
        · rw [sU2_n _ _ _ _ _ _ q] at hi'
          exact hw.1 a' o' i hi'
      · show sU2 (sR t) a o r a' o' = none
        rw [sU2_n]
        · exact (hw.2.2.1 a' o' hlt).2.2
        · rintro ⟨rfl, rfl⟩; exact absurd ho (Nat.not_lt.mpr hlt)
    · cases hp
  · cases hp
end S9
