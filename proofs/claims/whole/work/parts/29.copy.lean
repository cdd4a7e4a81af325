/-! Arrays.copyOf, as ArrayList.grow calls it -/
def sNmG : MethodName := ⟨"java/lang/Object", "getClass", "()Ljava/lang/Class;"⟩
theorem sCpW : (sWg 3086 (Cond.static yJ7_copyOf_1904c) && sWg 3085 (Cond.methodLink "java/util/ArrayList" 66 yJ7_copyOf_1904c) && sWg 1023 (Cond.initialized "java/util/Arrays") && sWg 3087 (Cond.code yJ7_copyOf_1904c cJ7_copyOf_1904c 2 (some (.array (.object "java/lang/Object")))) &&
  sWx 3088 (Cond.methodLink "java/util/Arrays" 86 sNmG) && sWx 3089 (Cond.instanceMethod sNmG) && sWx 8216 (Cond.selects "[Ljava/lang/Object;" sNmG sNmG) && sWx 3108 (Cond.native sNmG) && sWx 8217 (Cond.declares sNmG)) = true := by decide +kernel
theorem sCpW2 : (sWg 3109 (Cond.methodLink "java/util/Arrays" 300 yJ7_copyOf_6403c) && sWg 3110 (Cond.static yJ7_copyOf_6403c) && sWg 3111 (Cond.code yJ7_copyOf_6403c cJ7_copyOf_6403c 4 (some (.array (.object "java/lang/Object")))) && sWx 3112 (Cond.classLink "java/util/Arrays" 110 "[Ljava/lang/Object;") && sWx 3114 (Cond.classLink "java/util/Arrays" 2 "java/lang/Object") && sWx 3113 (Cond.arrayOver (.object "java/lang/Object")) &&
  sWx 3115 (Cond.methodLink "java/util/Arrays" 304 Lib.Math.min.name) && sWx 3004 (Cond.static Lib.Math.min.name) && sWx 3005 (Cond.code Lib.Math.min.name Lib.Math.min.code 2 (some .int)) && sWx 3116 (Cond.methodLink "java/util/Arrays" 150 arraycopyName) && sWx 3117 (Cond.static arraycopyName) && sWx 3118 (Cond.native arraycopyName) && sWx 1024 (Cond.initialized "java/lang/System")) = true := by decide +kernel
section S29
variable {p : Program} {l : Launch} {e : Env} {R : Room} {s : State} {m : MethodId} {args : Array Value} {below : List Frame} {meth : Method} {c : Code} {H : Heap} {locs : List Loc} {cells slots : Nat} {Q : State → Prop} {D : va_G} {s0 : State} {γ : Nat → Nat → Nat}
theorem sEv27 {t : sT} (o p : Nat) : sEv γ t 27 o p = va_rf ((sE t 27 o p).2.map (γ (sE t 27 o p).1)) := rfl
theorem sCpy_wf {t : sT} {i n : Nat} (hw : sWf t) (hi : i < sC t 27) : sWf (sCpy t i n) := by
  have hle : ∀ k, sC t k ≤ sC (sCpy t i n) k := fun k => sU1_le k
  have hE : ∀ k o q, sE (sCpy t i n) k o q = if k = 27 ∧ o = sC t 27 ∧ q < sN t 27 i then sE t 27 i q else sE t k o q := fun _ _ _ => rfl
  refine ⟨fun a o j hj => Nat.lt_of_lt_of_le (hw.1 a o j hj) (hle _), fun k o q j hj => ?_, fun a o hlt => hw.2.2.1 a o (Nat.le_trans (hle _) hlt), fun k o hlt q => ?_, ?_, Nat.le_trans hw.2.2.2.2.2 (hle 27)⟩
  · rw [hE] at hj ⊢
    split at hj
    · next hc => rw [if_pos hc]; exact ⟨Nat.lt_of_lt_of_le (hw.2.1 27 i q j hj).1 (hle _), (hw.2.1 27 i q j hj).2⟩
    · next hc => rw [if_neg hc]; exact ⟨Nat.lt_of_lt_of_le (hw.2.1 k o q j hj).1 (hle _), (hw.2.1 k o q j hj).2⟩
  · have h9 := hw.2.2.2.1 k o (Nat.le_trans (hle _) hlt) q
    refine ⟨h9.1, h9.2.1, ?_, h9.2.2.2⟩
    rw [hE, if_neg]
    · exact h9.2.2.1
    · rintro ⟨rfl, rfl, -⟩
      have : sC (sCpy t i n) 27 = sC t 27 + 1 := by show sU1 (sC t) 27 (sC t 27 + 1) 27 = _; simp [sU1]
      omega
  · show sU2 (sN t) 27 (sC t 27) n 27 0 = 0
    rw [sU2_n]
    · exact hw.2.2.2.2.1
    · rintro ⟨-, h⟩
      have := hw.2.2.2.2.2
      omega
theorem sCpy_rep {t : sT} {i n : Nat} {H2 : Heap} {cA : ClassId} (hR : sRep D s0 γ t H) (hi : i < sC t 27) (hn : sN t 27 i ≤ n) (hpr : sPr s0 γ (sCpy t i n)) (z : H2.size = H.size + 1) (o1 : ∀ q, q < H.size → H2[q]? = H[q]?)
    (e1 : H2[H.size]? = some (arrV cA n (fun j => va_cpy (fun p => sEv γ t 27 i p) (fun _ => Value.null) 0 0 (sN t 27 i) j)))
    (hcl : ∃ (kA : Class) (comp : ClassId), s0.vm.classes[cA]? = some kA ∧ kA.kind = .array comp (.object "java/lang/Object") ∧ s0.vm.findClass "java/lang/Object" = some comp ∧ s0.vm.findClass ("[" ++ (FieldType.object "java/lang/Object").toString) = some cA) :
    γ 27 (sC t 27) = H.size ∧ sRep D s0 γ (sCpy t i n) H2 := by
  have hw := hR.2.2.2.2.2.2
  have hg : γ 27 (sC t 27) = H.size := by
    rw [hpr 27 (sC t 27) (by show sC t 27 < sU1 (sC t) 27 (sC t 27 + 1) 27; simp [sU1]) ⟨by omega, fun _ => hw.2.2.2.2.2⟩, hR.1]
    show _ + sU2 (sG t) 27 (sC t 27) (sn t) 27 (sC t 27) = _
    rw [sU2_s]
  obtain ⟨kA, comp, f2, f3, f4, f1⟩ := hcl
  refine ⟨hg, hR.push (k := 27) (Or.inr (Or.inl ⟨by omega, by omega⟩)) (fun k1 => ?_) rfl (fun k1 j hne => ?_) (fun _ _ _ => rfl) (fun a b q hne => ?_) z o1 (fun _ => hg) (fun q => by omega) (fun _ _ => ?_) sNf_le (sCpy_wf hw hi)⟩
  · show sU1 (sC t) 27 (sC t 27 + 1) k1 = _
    rw [sC_up]
    simp
  · show sU2 (sN t) 27 (sC t 27) n k1 j = _
    rw [sU2_n _ _ _ _ _ _ hne]
  · have hE : sE (sCpy t i n) a b q = sE t a b q := by
      show (if a = 27 ∧ b = sC t 27 ∧ q < sN t 27 i then sE t 27 i q else sE t a b q) = _
      rw [if_neg (fun z => hne ⟨z.1, z.2.1⟩)]
    unfold sEl
    rw [hE]
    rfl
  · have hN : sN (sCpy t i n) 27 (sC t 27) = n := sU2_s _ _ _ _
    refine ⟨_, by rw [hg]; exact e1, ⟨fun k h => (by cases h), kA, f2, comp, f3⟩, (fun q => by cases q), ?_, fun p hp => ?_, fun _ _ _ => ⟨fun q h => (by cases h), kA, comp, _, rfl, f2, f3, f4, f1⟩⟩
    · rw [hN, arrV_size]; exact ⟨Nat.le_refl _, rfl⟩
    · rw [hN] at hp
      rw [arrV_read _ _ hp]
      congr 1
      rw [sEv27]
      show va_cpy _ _ 0 0 (sN t 27 i) p = va_rf ((if 27 = 27 ∧ sC t 27 = sC t 27 ∧ p < sN t 27 i then sE t 27 i p else sE t 27 (sC t 27) p).2.map (γ (if 27 = 27 ∧ sC t 27 = sC t 27 ∧ p < sN t 27 i then sE t 27 i p else sE t 27 (sC t 27) p).1))
      unfold va_cpy
      by_cases hpn : p < sN t 27 i
      · rw [if_pos ⟨Nat.zero_le p, by omega⟩, if_pos ⟨rfl, rfl, hpn⟩, sEv27]
        simp
      · rw [if_neg (fun z => hpn (by omega)), if_neg (fun z => hpn z.2.2), (hw.2.2.2.1 27 (sC t 27) (Nat.le_refl _) p).2.2.1]
        rfl
/-- the copying itself -/
theorem s_acopy {cc : ByteArray} {pc : Nat} {ls : Array Slot} {rest : List Value} {t : sT} {i : Nat} {a : Addr} {cA : ClassId} {n9 : Nat} {n : Int32} (hexec : p.tables.exec = Jvm.exec) (hb : c.code = cc) (hml : c.maxLocals = ls.size) (hown : s.vm.findClass "java/util/Arrays" = some m.cls) (hts : ∀ w ∈ sGW, w.before args s = true) (hal : s0.vm.Alike s.vm) (hK : va_K D sCl [] s) (hC : sClOk)
    (hR : sArr s0 γ t H 27 i) (hO : ∀ k j, k < 14 → j < sC t k → ∃ cellV : Cell, H[γ k j]? = some cellV ∧ cellV.vm.isStatics = false ∧ ∃ q : vw_C, sCl[k]? = some q ∧ s.vm.findClass q.1 = some cellV.cls) (hw : sWf t) (hc1 : H[a]? = some (arrV cA n9 (fun _ => Value.null))) 
    (hcl : ∃ (kA : Class) (comp : ClassId), s.vm.classes[cA]? = some kA ∧ kA.kind = .array comp (.object "java/lang/Object") ∧ s.vm.findClass "java/lang/Object" = some comp) (hn0 : 0 < sN t 27 i) (hn9 : sN t 27 i ≤ n9) (h3 : ¬ n < 0) (hnn : n.toNatClampNeg = sN t 27 i)
    (hframes : 1 ≤ R.frames) (hlocals : (rest.map fun v => v.category).sum + 40 ≤ R.locals) (hdg : decode cc pc = .ok (.invokestatic 150, 3))
    (kk : ∀ (H1 : Heap) (L : List Loc), H1[a]? = some (arrV cA n9 (fun j => va_cpy (fun p => sEv γ t 27 i p) (fun _ => Value.null) 0 0 (sN t 27 i) j)) → H1.size = H.size → (∀ q, q ≠ a → H1[q]? = H[q]?) → (∀ z ∈ L, z.base = a) → W p l e R s m args below meth c H1 (locs ++ L) cells slots Q (F0 m (pc + 3) ls rest)) :
    W p l e R s m args below meth c H locs cells slots Q (F0 m pc ls (.int n :: .int 0 :: .ref a :: .int 0 :: .ref (γ 27 i) :: rest)) := by
  have hwd := sCpW2
  simp only [Bool.and_eq_true] at hwd
  obtain ⟨⟨⟨⟨-, w10⟩, w11⟩, w12⟩, w13⟩ := hwd
  obtain ⟨cs, c1, c2, c3, c4, c5, c6⟩ := hR
  obtain ⟨d1, kA0, comp0, C0, d2, d3, d4, d5, -⟩ := c6 (by omega) (by omega) hn0
  obtain ⟨ks, hks, hes⟩ := hal.2.2 _ _ d3
  obtain ⟨kd, compd, f1, f2, f3⟩ := hcl
  have e0 : C0 = "java/lang/Object" := (FieldType.object.inj d2).symm
  subst e0
  have hn31 : n.toInt = (n.toNatClampNeg : Int) := by
    have hz0 : (0 : Int) ≤ n.toInt := by
      have := Int32.not_lt.mp h3
      simpa using Int32.le_iff_toInt_le.mp this
    show n.toInt = ((n.toInt.toNat : Nat) : Int)
    omega
  have hz0 : (0 : Int32).toNatClampNeg = 0 := by decide
  have hz1 : (0 : Int32).toInt = 0 := by decide
  intro T hT X
  obtain ⟨vm', X', step⟩ := X.arraycopy hexec hown (hts _ (sWx_in w10)) (hts _ (sWx_in w12)) (hts _ (sWx_in w11)) (hts _ (sWx_in w13)) (src := γ 27 i) (dst := a) (cs := cs) (cd := arrV cA n9 (fun _ => Value.null)) (srcPos := 0) (destPos := 0) (n := n) (by rw [hT]; exact c1) (by rw [hT]; exact hc1)
    d1 (fun _ h => by cases h) c3 (fun h => by cases h) hks f1 (by rw [hes]; exact d4) f2 rfl (by decide) (by decide) h3
    (by rw [hz1, hn31, hnn]; have := c4.1; omega)
    (by rw [hz1, hn31, hnn]; show ¬ _ > ((arrV cA n9 (fun _ => Value.null)).slots.size : Int); rw [arrV_size]; omega)
    (fun vm₁ hal1 j hj => by
      rw [hz0, Nat.zero_add]
      have e : cs.slots.getD j .null = sEv γ t 27 i j := by
        rw [Array.getD_eq_getD_getElem?, c5 j (by omega)]
        rfl
      rw [e, sEv27]
      cases hy : (sE t 27 i j).2 with
      | none => exact ⟨rfl, trivial⟩
      | some y =>
        obtain ⟨y1, y2⟩ := hw.2.1 27 i j y hy
        obtain ⟨cellV, g1, g2, q, g3, g4⟩ := hO _ _ y2 y1
        obtain ⟨-, -, g5, -⟩ := hC _ _ g3
        obtain ⟨x1, x2, x3, x4, x5⟩ := Cond.castable_spec (hts _ g5)
        obtain ⟨kC, hkC, -⟩ := Vm.findClass_spec g4
        obtain ⟨kE, hkE, -⟩ := Vm.findClass_spec f3
        obtain ⟨kC', hkC', -⟩ := hal1.2.2 _ _ hkC
        obtain ⟨kE', hkE', -⟩ := hal1.2.2 _ _ hkE
        refine ⟨rfl, cellV, (show T.heap[_]? = some cellV by rw [hT]; exact g1), (fun q h => by rw [h] at g2; cases g2), ⟨kC', hkC'⟩, ?_, ?_⟩
        · exact ⟨kE', hkE'⟩
        · show vm₁.assignable _ _ = true
          rw [hal1.assignable]
          have z1 : x1 = cellV.cls := Option.some.inj (x3.symm.trans g4)
          have z2 : x2 = compd := Option.some.inj (x4.symm.trans f3)
          rw [← z1, ← z2]
          exact x5)
    (g := F0 m pc ls (.int n :: .int 0 :: .ref a :: .int 0 :: .ref (γ 27 i) :: rest)) rfl (by rw [hml]) (rest := rest) rfl (by rw [hb]; exact hdg) hframes (by show 2 * 0 + _ + _ ≤ _; have hw9 : nativeFrameWords "java/lang/System" "arraycopy" 5 + 11 ≤ 40 := (by decide); omega)
  have e1 : copied cs (arrV cA n9 (fun _ => Value.null)) 0 0 n = arrV cA n9 (fun j => va_cpy (fun p => sEv γ t 27 i p) (fun _ => Value.null) 0 0 (sN t 27 i) j) := by
    rw [← hnn]
    exact va_copiedX (fun z => z) cs cA (fun p => sEv γ t 27 i p) (fun _ => Value.null) (n0 := sN t 27 i) (fun j hj => c5 j hj) (by rw [hz0]; omega)
  rw [e1] at X' step
  have hl : a < H.size := (Array.getElem?_eq_some_iff.mp hc1).1
  have hheap : ((T.setVm vm').setCell a (arrV cA n9 (fun j => va_cpy (fun p => sEv γ t 27 i p) (fun _ => Value.null) 0 0 (sN t 27 i) j))).heap = H.setIfInBounds a (arrV cA n9 (fun j => va_cpy (fun p => sEv γ t 27 i p) (fun _ => Value.null) 0 0 (sN t 27 i) j)) := by rw [← hT]; rfl
  obtain ⟨t9, a1, b1⟩ := kk _ _ (by simp [Array.getElem?_setIfInBounds, hl]) (by simp) (fun q hq => by simp [Array.getElem?_setIfInBounds, Ne.symm hq]) (fun z hz => by
    obtain ⟨y, -, hy⟩ := List.mem_map.mp hz
    rw [← hy]) _ hheap X'
  exact ⟨t9, step t9 a1, b1⟩
end S29
