/-! Arrays.copyOf, as ArrayList.grow calls it -/
def sNmG : MethodName := ⟨"java/lang/Object", "getClass", "()Ljava/lang/Class;"⟩
theorem sCpW : (sWg 3049 (Cond.static yJ7_copyOf_1904c) && sWg 3048 (Cond.methodLink "java/util/ArrayList" 66 yJ7_copyOf_1904c) && sWg 1025 (Cond.initialized "java/util/Arrays") && sWg 3050 (Cond.code yJ7_copyOf_1904c cJ7_copyOf_1904c 2 (some (.array (.object "java/lang/Object")))) &&
  sWx 3051 (Cond.methodLink "java/util/Arrays" 86 sNmG) && sWx 3052 (Cond.instanceMethod sNmG) && sWx 6081 (Cond.selects "[Ljava/lang/Object;" sNmG sNmG) && sWx 3070 (Cond.native sNmG) && sWx 6082 (Cond.declares sNmG)) = true := by decide +kernel
theorem sCpW2 : (sWg 3071 (Cond.methodLink "java/util/Arrays" 300 yJ7_copyOf_6403c) && sWg 3072 (Cond.static yJ7_copyOf_6403c) && sWg 3073 (Cond.code yJ7_copyOf_6403c cJ7_copyOf_6403c 4 (some (.array (.object "java/lang/Object")))) && sWx 3074 (Cond.classLink "java/util/Arrays" 110 "[Ljava/lang/Object;") && sWx 3076 (Cond.classLink "java/util/Arrays" 2 "java/lang/Object") && sWx 3075 (Cond.arrayOver (.object "java/lang/Object")) &&
  sWx 3077 (Cond.methodLink "java/util/Arrays" 304 Lib.Math.min.name) && sWx 2207 (Cond.static Lib.Math.min.name) && sWx 2208 (Cond.code Lib.Math.min.name Lib.Math.min.code 2 (some .int)) && sWx 3078 (Cond.methodLink "java/util/Arrays" 150 arraycopyName) && sWx 3079 (Cond.static arraycopyName) && sWx 3080 (Cond.native arraycopyName) && sWx 1026 (Cond.initialized "java/lang/System")) = true := by decide +kernel
section S29
variable {p : Program} {l : Launch} {e : Env} {R : Room} {s : State} {m : MethodId} {args : Array Value} {below : List Frame} {meth : Method} {c : Code} {H : Heap} {locs : List Loc} {cells slots : Nat} {Q : State → Prop} {D : va_G} {s0 : State} {γ : Nat → Nat → Nat}
theorem sEv27 {t : sT} (o p : Nat) : sEv γ t 27 o p = va_rf ((sE t 27 o p).2.map (γ (sE t 27 o p).1)) := rfl
theorem sCpy_wf {t : sT} {i n : Nat} (hw : sWf t) (hi : i < sC t 27) : sWf (sCpy t i n) := by
  have hle : ∀ k, sC t k ≤ sC (sCpy t i n) k := fun k => sU1_le k
  have hE : ∀ k o q, sE (sCpy t i n) k o q = if k = 27 ∧ o = sC t 27 ∧ q < sN t 27 i then sE t 27 i q else sE t k o q := fun _ _ _ => rfl
  refine ⟨fun a o j hj => Nat.lt_of_lt_of_le (hw.1 a o j hj) (hle _), fun k o q j hj => ?_, fun a o hlt => hw.2.2.1 a o (Nat.le_trans (hle _) hlt), fun k o hlt q => ?_, ?_, Nat.le_trans hw.2.2.2.2.2 (hle 27)⟩
  · rw [hE] at hj ⊢
    split at hj
    · next hc => rw [if_pos hc]; exact ⟨Nat.lt_of_lt_of_le (hw.2.1 27 i q j hj).1 (hle _), (hw.2.1 27 i q j hj).2⟩
    · next hc => rw [if_neg hc]; exact ⟨Nat.lt_of_lt_of_le (hw.2.1 k o q j hj).1 (hle _), (hw.2.1 k o q j hj).2⟩
  · have h9 := hw.2.2.2.1 k o (Nat.le_trans (hle _) hlt) q
    refine ⟨h9.1, h9.2.1, ?_, h9.2.2.2⟩
    rw [hE, if_neg]
    · exact h9.2.2.1
    · rintro ⟨rfl, rfl, -⟩
      have : sC (sCpy t i n) 27 = sC t 27 + 1 := by show sU1 (sC t) 27 (sC t 27 + 1) 27 = _; simp [sU1]
      omega
  · show sU2 (sN t) 27 (sC t 27) n 27 0 = 0
    rw [sU2_n]
    · exact hw.2.2.2.2.1
    · rintro ⟨-, h⟩
      have := hw.2.2.2.2.2
      omega
theorem sCpy_rep {t : sT} {i n : Nat} {H2 : Heap} {cA : ClassId} (hR : sRep D s0 γ t H) (hi : i < sC t 27) (hn : sN t 27 i ≤ n) (hpr : sPr s0 γ (sCpy t i n)) (z : H2.size = H.size + 1) (o1 : ∀ q, q < H.size → H2[q]? = H[q]?)
    (e1 : H2[H.size]? = some (arrV cA n (fun j => va_cpy (fun p => sEv γ t 27 i p) (fun _ => Value.null) 0 0 (sN t 27 i) j)))
    (hcl : ∃ (kA : Class) (comp : ClassId), s0.vm.classes[cA]? = some kA ∧ kA.kind = .array comp (.object "java/lang/Object") ∧ s0.vm.findClass "java/lang/Object" = some comp ∧ s0.vm.findClass ("[" ++ (FieldType.object "java/lang/Object").toString) = some cA) :
    γ 27 (sC t 27) = H.size ∧ sRep D s0 γ (sCpy t i n) H2 := by
  have hw := hR.2.2.2.2.2.2
  have hg : γ 27 (sC t 27) = H.size := by
    rw [hpr 27 (sC t 27) (by show sC t 27 < sU1 (sC t) 27 (sC t 27 + 1) 27; simp [sU1]) ⟨by omega, fun _ => hw.2.2.2.2.2⟩, hR.1]
    show _ + sU2 (sG t) 27 (sC t 27) (sn t) 27 (sC t 27) = _
    rw [sU2_s]
  obtain ⟨kA, comp, f2, f3, f4, f1⟩ := hcl
  refine ⟨hg, hR.push (k := 27) (Or.inr (Or.inl ⟨by omega, by omega⟩)) (fun k1 => ?_) rfl (fun k1 j hne => ?_) (fun _ _ _ => rfl) (fun a b q hne => ?_) z o1 (fun _ => hg) (fun q => by omega) (fun _ _ => ?_) sNf_le (sCpy_wf hw hi)⟩
  · show sU1 (sC t) 27 (sC t 27 + 1) k1 = _
    rw [sC_up]
    simp
  · show sU2 (sN t) 27 (sC t 27) n k1 j = _
    rw [sU2_n _ _ _ _ _ _ hne]
  · have hE : sE (sCpy t i n) a b q = sE t a b q := by
      show (if a = 27 ∧ b = sC t 27 ∧ q < sN t 27 i then sE t 27 i q else sE t a b q) = _
      rw [if_neg (fun z => hne ⟨z.1, z.2.1⟩)]
    unfold sEl
    rw [hE]
    rfl
  · have hN : sN (sCpy t i n) 27 (sC t 27) = n := sU2_s _ _ _ _
    refine ⟨_, by rw [hg]; exact e1, ⟨fun k h => (by cases h), kA, f2, comp, f3⟩, (fun q => by cases q), ?_, fun p hp => ?_, fun _ _ _ => ⟨fun q h => (by cases h), kA, comp, _, rfl, f2, f3, f4, f1⟩⟩
    · rw [hN, arrV_size]; exact ⟨Nat.le_refl _, rfl⟩
    · rw [hN] at hp
      rw [arrV_read _ _ hp]
      congr 1
      rw [sEv27]
      show va_cpy _ _ 0 0 (sN t 27 i) p = va_rf ((if 27 = 27 ∧ sC t 27 = sC t 27 ∧ p < sN t 27 i then sE t 27 i p else sE t 27 (sC t 27) p).2.map (γ (if 27 = 27 ∧ sC t 27 = sC t 27 ∧ p < sN t 27 i then sE t 27 i p else sE t 27 (sC t 27) p).1))
      unfold va_cpy
      by_cases hpn : p < sN t 27 i
      · rw [if_pos ⟨Nat.zero_le p, by omega⟩, if_pos ⟨rfl, rfl, hpn⟩]
        show sEv γ t 27 i (0 + (p - 0)) = _
        rw [Nat.sub_zero, Nat.zero_add, sEv27]
      · rw [if_neg (fun z => hpn (by omega)), if_neg (fun z => hpn z.2.2), (hw.2.2.2.1 27 (sC t 27) (Nat.le_refl _) p).2.2.1]
        rfl
/-- the copying itself -/
theorem s_acopy {cc : ByteArray} {pc : Nat} {ls : Array Slot} {rest : List Value} {t : sT} {i : Nat} {a : Addr} {cA : ClassId} {n9 : Nat} {n : Int32} (hexec : p.tables.exec = Jvm.exec) (hb : c.code = cc) (hml : c.maxLocals = ls.size) (hown : s.vm.findClass "java/util/Arrays" = some m.cls) (hts : ∀ w ∈ sGW, w.before args s = true) (hal : s0.vm.Alike s.vm) (hK : va_K D sCl [] s) (hC : sClOk)
    (hR : sArr s0 γ t H 27 i) (hO : ∀ k j, k < 14 → j < sC t k → ∃ cellV : Cell, H[γ k j]? = some cellV ∧ cellV.vm.isStatics = false ∧ ∃ q : vw_C, sCl[k]? = some q ∧ s.vm.findClass q.1 = some cellV.cls) (hw : sWf t) (hc1 : H[a]? = some (arrV cA n9 (fun _ => Value.null))) 
    (hcl : ∃ (kA : Class) (comp : ClassId), s.vm.classes[cA]? = some kA ∧ kA.kind = .array comp (.object "java/lang/Object") ∧ s.vm.findClass "java/lang/Object" = some comp) (hn0 : 0 < sN t 27 i) (hn9 : sN t 27 i ≤ n9) (h3 : ¬ n < 0) (hnn : n.toNatClampNeg = sN t 27 i)
    (hframes : 1 ≤ R.frames) (hlocals : (rest.map fun v => v.category).sum + 40 ≤ R.locals) (hdg : decode cc pc = .ok (.invokestatic 150, 3))
    (kk : ∀ (H1 : Heap) (L : List Loc), H1[a]? = some (arrV cA n9 (fun j => va_cpy (fun p => sEv γ t 27 i p) (fun _ => Value.null) 0 0 (sN t 27 i) j)) → H1.size = H.size → (∀ q, q ≠ a → H1[q]? = H[q]?) → (∀ z ∈ L, z.base = a) → W p l e R s m args below meth c H1 (locs ++ L) cells slots Q (F0 m (pc + 3) ls rest)) :
    W p l e R s m args below meth c H locs cells slots Q (F0 m pc ls (.int n :: .int 0 :: .ref a :: .int 0 :: .ref (γ 27 i) :: rest)) := by
  have hwd := sCpW2
  simp only [Bool.and_eq_true] at hwd
  obtain ⟨⟨⟨⟨-, w10⟩, w11⟩, w12⟩, w13⟩ := hwd
  obtain ⟨cs, c1, c2, c3, c4, c5, c6⟩ := hR
  obtain ⟨d1, kA0, comp0, C0, d2, d3, d4, d5, -⟩ := c6 (by omega) (by omega) hn0
  obtain ⟨ks, hks, hes⟩ := hal.2.2 _ _ d3
  obtain ⟨kd, compd, f1, f2, f3⟩ := hcl
  have e0 : C0 = "java/lang/Object" := (FieldType.object.inj d2).symm
  subst e0
  have hn31 : n.toInt = (n.toNatClampNeg : Int) := by
    have hz0 : (0 : Int) ≤ n.toInt := by
      have := Int32.not_lt.mp h3
      simpa using Int32.le_iff_toInt_le.mp this
    show n.toInt = ((n.toInt.toNat : Nat) : Int)
    omega
  have hz0 : (0 : Int32).toNatClampNeg = 0 := by decide
  have hz1 : (0 : Int32).toInt = 0 := by decide
  intro T hT X
  obtain ⟨vm', X', step⟩ := X.arraycopy hexec hown (hts _ (sWx_in w10)) (hts _ (sWx_in w12)) (hts _ (sWx_in w11)) (hts _ (sWx_in w13)) (src := γ 27 i) (dst := a) (cs := cs) (cd := arrV cA n9 (fun _ => Value.null)) (srcPos := 0) (destPos := 0) (n := n) (by rw [hT]; exact c1) (by rw [hT]; exact hc1)
    d1 (fun _ h => by cases h) c3 (fun h => by cases h) hks f1 (by rw [hes]; exact d4) f2 rfl (by decide) (by decide) h3
    (by rw [hz1, hn31, hnn]; have := c4.1; omega)
    (by rw [hz1, hn31, hnn]; show ¬ _ > ((arrV cA n9 (fun _ => Value.null)).slots.size : Int); rw [arrV_size]; omega)
    (fun vm₁ hal1 j hj => by
      rw [hz0, Nat.zero_add]
      have e : cs.slots.getD j .null = sEv γ t 27 i j := by
        rw [Array.getD_eq_getD_getElem?, c5 j (by omega)]
        rfl
      rw [e, sEv27]
      cases hy : (sE t 27 i j).2 with
      | none => exact ⟨rfl, trivial⟩
      | some y =>
        obtain ⟨y1, y2⟩ := hw.2.1 27 i j y hy
        obtain ⟨cellV, g1, g2, q, g3, g4⟩ := hO _ _ y2 y1
        obtain ⟨-, -, g5, -⟩ := hC _ _ g3
        obtain ⟨x1, x2, x3, x4, x5⟩ := Cond.castable_spec (hts _ g5)
        obtain ⟨kC, hkC, -⟩ := Vm.findClass_spec g4
        obtain ⟨kE, hkE, -⟩ := Vm.findClass_spec f3
        obtain ⟨kC', hkC', -⟩ := hal1.2.2 _ _ hkC
        obtain ⟨kE', hkE', -⟩ := hal1.2.2 _ _ hkE
        refine ⟨rfl, cellV, (show T.heap[_]? = some cellV by rw [hT]; exact g1), (fun q h => by rw [h] at g2; cases g2), ⟨kC', hkC'⟩, ?_, ?_⟩
        · exact ⟨kE', hkE'⟩
        · show vm₁.assignable _ _ = true
          rw [hal1.assignable]
          have z1 : x1 = cellV.cls := Option.some.inj (x3.symm.trans g4)
          have z2 : x2 = compd := Option.some.inj (x4.symm.trans f3)
          rw [← z1, ← z2]
          exact x5)
    (g := F0 m pc ls (.int n :: .int 0 :: .ref a :: .int 0 :: .ref (γ 27 i) :: rest)) rfl (by rw [hml]) (rest := rest) rfl (by rw [hb]; exact hdg) hframes (by show 2 * 0 + _ + _ ≤ _; have hw9 : nativeFrameWords "java/lang/System" "arraycopy" 5 + 11 ≤ 40 := (by decide); omega)
  have e1 : copied cs (arrV cA n9 (fun _ => Value.null)) 0 0 n = arrV cA n9 (fun j => va_cpy (fun p => sEv γ t 27 i p) (fun _ => Value.null) 0 0 (sN t 27 i) j) := by
    rw [← hnn]
    exact va_copiedX (fun z => z) cs cA (fun p => sEv γ t 27 i p) (fun _ => Value.null) (n0 := sN t 27 i) (fun j hj => c5 j hj) (by rw [hz0]; omega)
  rw [e1] at X' step
  have hl : a < H.size := (Array.getElem?_eq_some_iff.mp hc1).1
  have hheap : ((T.setVm vm').setCell a (arrV cA n9 (fun j => va_cpy (fun p => sEv γ t 27 i p) (fun _ => Value.null) 0 0 (sN t 27 i) j))).heap = H.setIfInBounds a (arrV cA n9 (fun j => va_cpy (fun p => sEv γ t 27 i p) (fun _ => Value.null) 0 0 (sN t 27 i) j)) := by rw [← hT]; rfl
  obtain ⟨t9, a1, b1⟩ := kk _ _ (by simp [Array.getElem?_setIfInBounds, hl]) (by simp) (fun q hq => by simp [Array.getElem?_setIfInBounds, Ne.symm hq]) (fun z hz => by
    obtain ⟨y, -, hy⟩ := List.mem_map.mp hz
    rw [← hy]) _ hheap X'
  exact ⟨t9, step t9 a1, b1⟩
end S29
section S29b
variable {D : va_G} {s0 : State} {γ : Nat → Nat → Nat} {l : Launch}
def sCpP (D : va_G) (s0 : State) (γ : Nat → Nat → Nat) (t : sT) (as : List Value) : Array Value → State → Prop := fun a U => a = as.toArray ∧ sRep D s0 γ t U.heap ∧ s0.WarmedH U.vm
def sCpQ (D : va_G) (s0 : State) (γ : Nat → Nat → Nat) (t : sT) (i n : Nat) : Array Value → State → Outcome → State → Prop := fun _ _ o t' => o = .returned (some (.ref (γ 27 (sC t 27)))) ∧ sRep D s0 γ (sCpy t i n) t'.heap
def sCpX : String → State → State → Prop := fun _ _ _ => False
theorem sIn_nn {x : Int32} (h : 0 ≤ x) : x.toInt = (x.toNatClampNeg : Int) := by
  have : (0 : Int) ≤ x.toInt := by simpa using Int32.le_iff_toInt_le.mp h
  show x.toInt = ((x.toInt.toNat : Nat) : Int)
  omega
theorem sOfN_int {n : Nat} (h : n < 2 ^ 31) : (Int32.ofNat n).toInt = (n : Int) := by
  rw [Int32.toInt_ofNat']
  have hs : Int32.size = 4294967296 := rfl
  rw [Int.bmod_eq_of_le (by omega) (by omega)]
theorem sCp2 (hG : sGl D s0 γ l) (hC : sClOk) {mi : Nat} (hM : va_Mi "[Ljava/lang/Object;" mi s0) {t : sT} {i : Nat} {x : Int32} (hi : i < sC t 27) (h1 : sN t 27 i ≤ x.toNatClampNeg) (h2 : 0 < sN t 27 i) (h3 : 0 ≤ x ∧ x ≤ 100000) (hpr : sPr s0 γ (sCpy t i x.toNatClampNeg)) :
    vx_Met l yJ7_copyOf_6403c [Cond.code yJ7_copyOf_6403c cJ7_copyOf_6403c 4 (some (.array (.object "java/lang/Object")))] { frames := 1, cells := 1, slots := x.toNatClampNeg, locals := 70 }
      (sCpP D s0 γ t [.ref (γ 27 i), .int x, .ref mi]) (sCpQ D s0 γ t i x.toNatClampNeg) sCpX 1 x.toNatClampNeg (fun q => s0.heap.size ≤ q) := by
  refine vx_ofW (cc := cJ7_copyOf_6403c) (maxL := 4) (ret := some (.array (.object "java/lang/Object"))) (ws' := []) rfl rfl ?_
  intro p e s m args below meth c s₁ B hml htab hP
  obtain ⟨rfl, hR, hW⟩ := hP
  have hal := hW.alike
  have hx := B.exec
  have hb := B.bytes
  have hown : s.vm.findClass "java/util/Arrays" = some m.cls := findClass_of_methodNamed B.named
  have hts := sGW_at (args := ([.ref (γ 27 i), .int x, .ref mi] : List Value).toArray) hW hG.1
  have hK := va_K.moved hal hG.2.1
  have hwd := sCpW2
  simp only [Bool.and_eq_true] at hwd
  obtain ⟨⟨⟨⟨⟨⟨⟨⟨⟨⟨⟨⟨w1, w2⟩, w3⟩, w4⟩, w5⟩, w6⟩, w7⟩, w8⟩, w9⟩, w10⟩, w11⟩, w12⟩, w13⟩ := hwd
  have hl := lv_entry ([.ref (γ 27 i), .int x, .ref mi] : List Value) (n := 4) (Nat.le_of_ble_eq_true rfl)
  rw [lg_entry_eq]
  show W p l e ({ frames := 1, cells := 1, slots := x.toNatClampNeg, locals := 70 } : Room) s m _ below meth c s.heap [] 0 0 _ _
  have d7 : decode cJ7_copyOf_6403c 7 = .ok (.anewarray 2, 3) := by decide +kernel
  have d10 : decode cJ7_copyOf_6403c 10 = .ok (.goto 14, 3) := by decide +kernel
  have d30 : decode cJ7_copyOf_6403c 30 = .ok (.arraylength, 1) := by decide +kernel
  have d32 : decode cJ7_copyOf_6403c 32 = .ok (.invokestatic 304, 3) := by decide +kernel
  have d35 : decode cJ7_copyOf_6403c 35 = .ok (.invokestatic 150, 3) := by decide +kernel
  have d39 : decode cJ7_copyOf_6403c 39 = .ok (.areturn, 1) := by decide +kernel
  have hn31 := sIn_nn h3.1
  have hx5 : x.toNatClampNeg ≤ 100000 := by
    have : x.toInt ≤ 100000 := by simpa using Int32.le_iff_toInt_le.mp h3.2
    omega
  have hlN : (Int32.ofNat (sN t 27 i)).toInt = (sN t 27 i : Int) := sOfN_int (by omega)
  obtain ⟨cs, c1, c2, c3, c4, c5, c6⟩ := hR.2.2.2.1 27 i (by omega) (by omega) hi
  refine lv_aload_n hx hb (show decode cJ7_copyOf_6403c 0 = .ok (.aload_n 2, 1) by decide +kernel) (i := 2) rfl (lv_at hl 2 rfl) ?_
  refine va_ldcM hx hb (own := "java/util/Arrays") (C := "[Ljava/lang/Object;") (index := 110) (mi := mi) hown (hts _ (sWx_in w4)) (hM.moved hal) (by decide +kernel) ?_
  refine lv_acmp_ne hx hb (rx := some mi) (ry := some mi) (off := 10) (tgt := 13) (by decide +kernel) (by decide) (fun h => absurd rfl h) (fun _ => ?_)
  refine lv_iload_n hx hb (show decode cJ7_copyOf_6403c 6 = .ok (.iload_n 1, 1) by decide +kernel) (i := 1) rfl (lv_at hl 1 rfl) ?_
  obtain ⟨b1, b2⟩ := sIcl h3
  refine W.anew hx hb hown (hts _ (sWx_in w5)) (hts _ (sWx_in w6)) rfl d7 rfl b1 (by omega) (by show 0 + 1 ≤ 1; omega) (by show 0 + x.toNatClampNeg ≤ x.toNatClampNeg; omega) fun cA kA comp f1 f2 f3 f4 => ?_
  generalize hH1 : s.heap.push ({ cls := cA, slots := Array.replicate x.toNatClampNeg .null, vm := .none } : Cell) = H1
  have z1 : H1.size = s.heap.size + 1 := by rw [← hH1, Array.size_push]
  have e1 : H1[s.heap.size]? = some (arrV cA x.toNatClampNeg (fun _ => .null)) := by rw [← hH1, Array.getElem?_push_size, ← arrV_new]
  have o1 : ∀ q : Nat, q < s.heap.size → H1[q]? = s.heap[q]? := fun q hq => by rw [← hH1, Array.getElem?_push, if_neg (Nat.ne_of_lt hq)]
  refine lv_goto hx hb (off := 14) (tgt := 24) d10 (by show ((10 : Nat) : Int) + 14 = ((24 : Nat) : Int); decide) ?_
  refine lv_astore_n hx hb (i := 3) (show decode cJ7_copyOf_6403c 24 = .ok (.astore_n 3, 1) by decide +kernel) rfl hl (by decide) rfl fun ls' hl' => ?_
  refine lv_aload_n hx hb (show decode cJ7_copyOf_6403c 25 = .ok (.aload_n 0, 1) by decide +kernel) (i := 0) rfl (lv_at hl' 1 rfl) ?_
  refine lv_iconst hx hb (n := 0) (v := 0) (by decide +kernel) rfl ?_
  refine lv_aload_n hx hb (show decode cJ7_copyOf_6403c 27 = .ok (.aload_n 3, 1) by decide +kernel) (i := 3) rfl (lv_at hl' 0 rfl) ?_
  refine lv_iconst hx hb (n := 0) (v := 0) (by decide +kernel) rfl ?_
  refine lv_aload_n hx hb (show decode cJ7_copyOf_6403c 29 = .ok (.aload_n 0, 1) by decide +kernel) (i := 0) rfl (lv_at hl' 1 rfl) ?_
  have hlt : γ 27 i < s.heap.size := (Array.getElem?_eq_some_iff.mp c1).1
  refine W.alen hx hb (by rw [o1 _ hlt]; exact c1) (State.isArrayOf_alike hal c2) (n := Int32.ofNat (sN t 27 i)) c4.2 rfl rfl d30 ?_
  refine lv_iload_n hx hb (show decode cJ7_copyOf_6403c 31 = .ok (.iload_n 1, 1) by decide +kernel) (i := 1) rfl (lv_at hl' 2 rfl) ?_
  refine va_mmin hx hb (by rw [hml, hl'.1]) (own := "java/util/Arrays") (index := 304) hown (hts _ (sWx_in w7)) (hts _ (sWx_in w8)) (hts _ (sWx_in sMi0_ok)) (hts _ (sWx_in w9)) (by show 1 ≤ 1; omega) (by show 1 + (1 + (1 + (1 + 0))) + 13 ≤ 70; decide) (by show 0 + 1 ≤ 1; omega) (by show 0 + x.toNatClampNeg ≤ x.toNatClampNeg; omega) d32 ?_
  have hmin : (if x < Int32.ofNat (sN t 27 i) then x else Int32.ofNat (sN t 27 i)) = Int32.ofNat (sN t 27 i) := by
    rw [if_neg]
    intro h
    have := Int32.lt_iff_toInt_lt.mp h
    omega
  rw [hmin]
  have hcl0 : ∃ (kA : Class) (comp : ClassId), s0.vm.classes[cA]? = some kA ∧ kA.kind = .array comp (.object "java/lang/Object") ∧ s0.vm.findClass "java/lang/Object" = some comp ∧ s0.vm.findClass ("[" ++ (FieldType.object "java/lang/Object").toString) = some cA := by
    obtain ⟨k', hk', he⟩ := hal.symm.2.2 _ _ f2
    exact ⟨k', comp, hk', by rw [he]; exact f3, by rw [hal.symm.findClass]; exact f4, by rw [hal.symm.findClass]; exact f1⟩
  have hsz : s0.heap.size ≤ s.heap.size := by rw [hR.1]; omega
  have hO : ∀ k j, k < 14 → j < sC t k → ∃ cellV : Cell, H1[γ k j]? = some cellV ∧ cellV.vm.isStatics = false ∧ ∃ q : vw_C, sCl[k]? = some q ∧ s.vm.findClass q.1 = some cellV.cls := by
    intro k j hk hj
    obtain ⟨cell, g1, g2, g3, -⟩ := hR.2.2.1 k j hk hj
    obtain ⟨q, hq⟩ := sCl_get hk
    refine ⟨cell, by rw [o1 _ (Array.getElem?_eq_some_iff.mp g1).1]; exact g1, by rw [g3]; rfl, q, hq, by rw [g2]; exact (hK.1 _ _ hq).2.1⟩
  have harr : sArr s0 γ t H1 27 i := ⟨cs, by rw [o1 _ hlt]; exact c1, c2, c3, c4, c5, c6⟩
  refine s_acopy hx hb (by rw [hml, hl'.1]) hown hts hal hK hC harr hO hR.2.2.2.2.2.2 e1 ⟨kA, comp, f2, f3, f4⟩ h2 h1 (by rw [Int32.not_lt]; exact Int32.le_iff_toInt_le.mpr (by rw [hlN]; simp)) (by rw [show (Int32.ofNat (sN t 27 i)).toNatClampNeg = (Int32.ofNat (sN t 27 i)).toInt.toNat from rfl, hlN]; simp) (by show 1 ≤ 1; omega) (by show 0 + 40 ≤ 70; decide) d35 fun H2 L y1 y2 y3 y4 => ?_
  refine lv_aload_n hx hb (show decode cJ7_copyOf_6403c 38 = .ok (.aload_n 3, 1) by decide +kernel) (i := 3) rfl (lv_at hl' 0 rfl) ?_
  obtain ⟨hg, hR2⟩ := sCpy_rep hR hi h1 hpr (by rw [y2, z1]) (fun q hq => by rw [y3 q (Nat.ne_of_lt hq)]; exact o1 q hq) y1 hcl0
  refine W.cs (show 0 + 1 = 1 from rfl) (Nat.zero_add x.toNatClampNeg) ?_
  refine vx_ret (W.aret (v := .ref s.heap.size) hx hb B.returns (Or.inr ⟨_, rfl⟩) (Or.inr ⟨_, rfl⟩) (fun u hu hW9 => ?_) (fun z hz => ?_) d39 B.notSynchronized)
  · exact ⟨by rw [hg], by rw [hu]; exact hR2⟩
  · rcases List.mem_append.mp hz with h | h
    · cases h
    · rw [y4 z h]; exact hsz
theorem sCp1 (hG : sGl D s0 γ l) (hC : sClOk) {mi : Nat} (hM : va_Mi "[Ljava/lang/Object;" mi s0) {t : sT} {i : Nat} {x : Int32} (hi : i < sC t 27) (h1 : sN t 27 i ≤ x.toNatClampNeg) (h2 : 0 < sN t 27 i) (h3 : 0 ≤ x ∧ x ≤ 100000) (hpr : sPr s0 γ (sCpy t i x.toNatClampNeg)) :
    vx_Met l yJ7_copyOf_1904c [Cond.code yJ7_copyOf_1904c cJ7_copyOf_1904c 2 (some (.array (.object "java/lang/Object")))] { frames := 2, cells := 1, slots := x.toNatClampNeg, locals := 100 }
      (sCpP D s0 γ t [.ref (γ 27 i), .int x]) (sCpQ D s0 γ t i x.toNatClampNeg) sCpX 1 x.toNatClampNeg (fun q => s0.heap.size ≤ q) := by
  refine vx_ofW (cc := cJ7_copyOf_1904c) (maxL := 2) (ret := some (.array (.object "java/lang/Object"))) (ws' := []) rfl rfl ?_
  intro p e s m args below meth c s₁ B hml htab hP
  obtain ⟨rfl, hR, hW⟩ := hP
  have hal := hW.alike
  have hx := B.exec
  have hb := B.bytes
  have hown : s.vm.findClass "java/util/Arrays" = some m.cls := findClass_of_methodNamed B.named
  have hts := sGW_at (args := ([.ref (γ 27 i), .int x] : List Value).toArray) hW hG.1
  have hwd := sCpW
  simp only [Bool.and_eq_true] at hwd
  obtain ⟨⟨⟨⟨⟨⟨⟨⟨a1, a2⟩, a3⟩, a4⟩, a5⟩, a6⟩, a7⟩, a8⟩, a9⟩ := hwd
  have hwd := sCpW2
  simp only [Bool.and_eq_true] at hwd
  obtain ⟨⟨⟨⟨⟨⟨⟨⟨⟨⟨⟨⟨w1, w2⟩, w3⟩, w4⟩, w5⟩, w6⟩, w7⟩, w8⟩, w9⟩, w10⟩, w11⟩, w12⟩, w13⟩ := hwd
  have hl := lv_entry ([.ref (γ 27 i), .int x] : List Value) (n := 2) (Nat.le_of_ble_eq_true rfl)
  rw [lg_entry_eq]
  show W p l e ({ frames := 2, cells := 1, slots := x.toNatClampNeg, locals := 100 } : Room) s m _ below meth c s.heap [] 0 0 _ _
  have d3 : decode cJ7_copyOf_1904c 3 = .ok (.invokevirtual 86, 3) := by decide +kernel
  have d6 : decode cJ7_copyOf_1904c 6 = .ok (.invokestatic 300, 3) := by decide +kernel
  have d9 : decode cJ7_copyOf_1904c 9 = .ok (.areturn, 1) := by decide +kernel
  refine lv_aload_n hx hb (show decode cJ7_copyOf_1904c 0 = .ok (.aload_n 0, 1) by decide +kernel) (i := 0) rfl (lv_at hl 0 rfl) ?_
  refine lv_iload_n hx hb (show decode cJ7_copyOf_1904c 1 = .ok (.iload_n 1, 1) by decide +kernel) (i := 1) rfl (lv_at hl 1 rfl) ?_
  refine lv_aload_n hx hb (show decode cJ7_copyOf_1904c 2 = .ok (.aload_n 0, 1) by decide +kernel) (i := 0) rfl (lv_at hl 0 rfl) ?_
  obtain ⟨cs, c1, c2, c3, c4, c5, c6⟩ := hR.2.2.2.1 27 i (by omega) (by omega) hi
  obtain ⟨e1, kA, comp, C, e2, e3, e4, e5, e6⟩ := c6 (by omega) (by omega) h2
  have e0 : C = "java/lang/Object" := (FieldType.object.inj e2).symm
  subst e0
  have hst : cs.vm.isStatics = false := by
    cases hv : cs.vm with
    | statics q => exact (e1 q hv).elim
    | _ => rfl
  refine va_getC hx hb (by rw [hml, hl.1]) (own := "java/util/Arrays") (C := "[Ljava/lang/Object;") (index := 86) (mi := mi) hown (hts _ (sWx_in a5)) (hts _ (sWx_in a9)) (hts _ (sWx_in a7)) (hts _ (sWx_in a6)) (hts _ (sWx_in a8)) (hM.moved hal)
    ⟨cs, c1, hst, by rw [hal.findClass]; exact e6⟩ (by show 1 ≤ 2; omega) (by show 1 + (1 + 0) + 14 ≤ 100; decide) d3 ?_
  have hmet := sCp2 hG hC hM hi h1 h2 h3 hpr
  have hrun := vx_runS (p := p) (e := e) (R := ({ frames := 2, cells := 1, slots := x.toNatClampNeg, locals := 100 } : Room)) (s := s) (m := m) (below := below) (meth := meth) (H := s.heap) (locs := []) (cells := 0) (slots := 0) (cc := cJ7_copyOf_1904c) (nL := 2) (Ts := sGW) (own := "java/util/Arrays") (index := 300) (n := 3) (As := [.ref (γ 27 i), .int x, .ref mi]) (rest := []) (g := F0 m 6 _ [.ref mi, .int x, .ref (γ 27 i)]) ⟨hx, hb, hml, hown, hts⟩ hmet
    ⟨⟨rfl, rfl, (by decide : 1 + 1 ≤ 2), (by decide : 8 + (4 + 11) + 70 ≤ 100), fun w hw a' U hWU => by
        rw [List.mem_singleton.mp hw]
        exact word_at hWU (good_of_word (List.mem_filter.mp (sWg_in w3)).2) (hts _ (sGG_GW (sWg_in w3))), List.mem_cons_self, hts _ (sGG_GW (sWg_in w3)), ?_, by decide, fun sig h => ?_, hts _ (sGG_GW (sWg_in w1))⟩, hts _ (sGG_GW (sWg_in w2))⟩
    ⟨fun _ _ _ _ h => h, fun U hU hWU => ⟨rfl, by rw [hU]; exact hR, hW.trans hWU⟩⟩ rfl rfl hl.1 rfl (by show 2 * 0 + 0 ≤ 8; decide) d6 ⟨by show 0 + 1 ≤ 1; omega, by show 0 + x.toNatClampNeg ≤ x.toNatClampNeg; omega⟩
  · intro T hT XT
    rcases hrun T hT XT with ⟨v1, st₀, u, T', L, q1, q2, q3, q4, q5, ⟨y1, hR1⟩, q7⟩ | ⟨q, st₀, u, T', L, E, ce, q1, q2, q3, q4, q5, y1, -⟩
    · cases y1
      have k1 : W p l e ({ frames := 2, cells := 1, slots := x.toNatClampNeg, locals := 100 } : Room) s m ([.ref (γ 27 i), .int x] : List Value).toArray below meth c T'.heap ([] ++ L) 1 x.toNatClampNeg (vx_MQ below (sCpQ D s0 γ t i x.toNatClampNeg) sCpX ([.ref (γ 27 i), .int x] : List Value).toArray s 1 x.toNatClampNeg (fun q => s0.heap.size ≤ q)) (F0 m 9 (lg_sl [Value.ref (γ 27 i), Value.int x] ++ List.replicate (2 - (lg_sl [Value.ref (γ 27 i), Value.int x]).length) Slot.unset).toArray [.ref (γ 27 (sC t 27))]) :=
        vx_ret (W.aret hx hb B.returns (Or.inr ⟨_, rfl⟩) (Or.inr ⟨_, rfl⟩) (fun u9 hu hW9 => ⟨rfl, by rw [hu, q4]; exact hR1⟩) (fun z hz => q3 z (by simpa using hz)) d9 B.notSynchronized)
      obtain ⟨t2, a1, b1⟩ := (W.cs (by omega) (by omega) k1) T' rfl q2
      exact ⟨t2, q7 t2 a1, b1⟩
    · exact y1.elim
  · exact hts _ (sGG_GW (sWg_in a3))
  · have hq : (parseMethodDescriptor yJ7_copyOf_6403c.desc).map (fun d => d.parameters.length) = some 3 := by decide +kernel
    rw [h] at hq
    exact (Option.some.inj hq).symm
theorem sCp_ok (hG : sGl D s0 γ l) (hC : sClOk) {mi : Nat} (hM : va_Mi "[Ljava/lang/Object;" mi s0) : sCpOk l D s0 γ := by
  intro p e R s m args below meth c Q n0 w0 y cc pc ls st t x i X hW hy _ hd hF hLo h8 h1 h2 h3 hn hw0 hrc hrs hpr kk
  obtain ⟨hx, hb, hown, hts, hal, hK, hini, hsz, hol, hst⟩ := X
  rw [hy] at hown
  intro H locs arr mst hR hL hls hs hz
  obtain ⟨v, vs0, rfl, q0, q9⟩ := hs.cons
  obtain ⟨v2, vs, rfl, q1, q2⟩ := q9.cons
  have e0 := q0.i
  obtain ⟨e1, v1⟩ := q1.r (by omega)
  subst e0 e1
  have hi : i < sC t 27 := v1 i rfl
  have hwd := sCpW
  simp only [Bool.and_eq_true] at hwd
  obtain ⟨⟨⟨⟨⟨⟨⟨⟨a1, a2⟩, a3⟩, a4⟩, a5⟩, a6⟩, a7⟩, a8⟩, a9⟩ := hwd
  have hmet := sCp1 hG hC hM hi h1 h2 h3 hpr
  have hcats := q2.cats
  have hn1 : sn (sCpy t i x.toNatClampNeg) = sn t + 1 := rfl
  have hw1 : sw (sCpy t i x.toNatClampNeg) = sw t + x.toNatClampNeg := rfl
  rw [hn1] at hrc
  rw [hw1] at hrs
  have hext : sExt t (sCpy t i x.toNatClampNeg) := sCpy_ext
  have hrun := vx_runS (p := p) (e := e) (R := R) (s := s) (m := m) (below := below) (meth := meth) (H := H) (locs := locs) (cells := sn t - n0) (slots := sw t - w0) (cc := cc) (nL := c.maxLocals) (Ts := sGW) (own := "java/util/ArrayList") (index := 66) (n := 2) (As := [.ref (γ 27 i), .int x]) (rest := vs) (g := F0 m pc arr (.int x :: .ref (γ 27 i) :: vs)) ⟨hx, hb, rfl, hown, hts⟩ hmet
    ⟨⟨rfl, rfl, (by show 2 + 1 ≤ R.frames; omega), (by show 8 + (2 + 11) + 100 ≤ R.locals; omega), fun w hw a' U hWU => by
        rw [List.mem_singleton.mp hw]
        exact word_at hWU (good_of_word (List.mem_filter.mp (sWg_in a4)).2) (hts _ (sGG_GW (sWg_in a4))), List.mem_cons_self, hts _ (sGG_GW (sWg_in a4)), hts _ (sGG_GW (sWg_in a3)), by decide, fun sig h => by
        have hq : (parseMethodDescriptor yJ7_copyOf_1904c.desc).map (fun d => d.parameters.length) = some 2 := by decide +kernel
        rw [h] at hq
        exact (Option.some.inj hq).symm, hts _ (sGG_GW (sWg_in a2))⟩, hts _ (sGG_GW (sWg_in a1))⟩
    ⟨fun _ _ _ _ h => h, fun U hU hWU => ⟨rfl, by rw [hU]; exact hR, hW.trans hWU⟩⟩ rfl rfl hz rfl (by show 2 * 0 + _ ≤ 8; omega) hd ⟨by omega, by omega⟩
  intro T hT XT
  rcases hrun T hT XT with ⟨v1, st₀, u, T', L, q1, q2', q3, q4, q5, ⟨y1, hR1⟩, q7⟩ | ⟨q, st₀, u, T', L, E, ce, q1, q2', q3, q4, q5, y1, -⟩
  · cases y1
    have k1 := kk T'.heap (locs ++ L) arr (.ref (γ 27 (sC t 27)) :: vs) (by rw [q4]; exact hR1) (fun z hz => by
      rcases List.mem_append.mp hz with h | h
      · exact hL z h
      · exact q3 z h) (hls.ext hext) ⟨.mkR (r := some (sC t 27)) (fun i q => by cases q; show sC t 27 < sU1 (sC t) 27 (sC t 27 + 1) 27; simp [sU1]), q2.ext hext⟩ hz
    rw [hn1, hw1] at k1
    obtain ⟨t2, a1, b1⟩ := (W.cs (by omega) (by omega) k1) T' rfl q2'
    exact ⟨t2, q7 t2 a1, b1⟩
  · exact y1.elim
end S29b
