/-! from the law's entry: a run of the small machine that answers 1 is the claim's -/
def sLeg : List Int32 := [1, 0, 0, 4, 2, 0, 4, 5, 3, 2, 0, 0, 5, 3, 0, -4, 1, 0, 3, 0, 0, -5, 2, 0, -5, -4, 1, 4, 0, 0, 1, -2, 0, 0, 0, 0, 5, 0, 0, 2, -3, 0, 0, 0, 0]
def sTak : List Int32 := [1, 42, 453, 2, 53, 41, 3, 52, 541, 4, 12, 0, 5, 23, 0]
/-- the store at the law's entry: two tables, the empty array of lists, the script -/
def sT0 (L : Nat) (xs : Nat → Int32) : sT := sMk (fun _ _ => 0) (fun _ _ => false) (fun _ _ => none)
  (fun k o p => if k = 28 ∧ o = 0 then sLeg.getD p 0 else if k = 28 ∧ o = 1 then sTak.getD p 0 else if k = 29 ∧ o = 0 then xs p else 0)
  (fun _ _ _ => false) (fun _ _ _ => (0, none)) (fun _ _ _ => 0)
  (fun k o => if k = 28 ∧ o = 0 then 45 else if k = 28 ∧ o = 1 then 15 else if k = 29 ∧ o = 0 then L else 0)
  (fun k => if k = 27 then 1 else if k = 28 then 2 else if k = 29 then 1 else 0) (fun _ _ => 0) 0 0
theorem sT0_wf (L : Nat) (xs : Nat → Int32) : sWf (sT0 L xs) := by
  refine ⟨fun _ _ _ h => (by cases h), fun _ _ _ _ h => (by cases h), fun _ _ _ => ⟨rfl, rfl, rfl⟩, fun k o hlt p => ⟨?_, rfl, rfl, rfl⟩, rfl, Nat.le_refl _⟩
  have hlt : (if k = 27 then 1 else if k = 28 then 2 else if k = 29 then 1 else 0) ≤ o := hlt
  show (if k = 28 ∧ o = 0 then sLeg.getD p 0 else if k = 28 ∧ o = 1 then sTak.getD p 0 else if k = 29 ∧ o = 0 then xs p else 0) = 0
  have h1 : ¬ (k = 28 ∧ o = 0) := by rintro ⟨rfl, rfl⟩; revert hlt; decide
  have h2 : ¬ (k = 28 ∧ o = 1) := by rintro ⟨rfl, rfl⟩; revert hlt; decide
  have h3 : ¬ (k = 29 ∧ o = 0) := by rintro ⟨rfl, rfl⟩; revert hlt; decide
  rw [if_neg h1, if_neg h2, if_neg h3]
/-- all that the words give of the classes -/
theorem sKn_at {s : State} {args : Array Value} (hts : ∀ w ∈ sGW, w.before args s = true) : ∃ D : va_G, va_K D sCl [] s := by
  have h : ∀ k : Nat, ∃ q : ClassId × (Nat → Nat), ∀ r : vw_C, sCl[k]? = some r → u_Kn s r.1 r.2.1 r.2.2 q.1 q.2 := by
    intro k
    cases hr : sCl[k]? with
    | none => exact ⟨(0, fun _ => 0), fun r h => by cases h⟩
    | some r =>
      have hk : k < 14 := (List.getElem?_eq_some_iff.mp hr).1
      obtain ⟨g1, -⟩ := sIP_get hk hr
      obtain ⟨g2, -⟩ := sCl_ok k r hr
      obtain ⟨cC, iS, hkn⟩ := u_known (n := r.2.2) hts g2 (hts _ g1)
      exact ⟨(cC, iS), fun r' h' => by cases h'; exact hkn⟩
  refine ⟨(fun k => (h k).choose.1, fun k => (h k).choose.2), fun k r hr => (h k).choose_spec r hr, fun k q hq => ?_⟩
  cases hq
theorem sFlags (l : Launch) (h : l.flags = flags0) : l.stackTraces = false := by
  unfold Launch.stackTraces
  rw [h]
  decide +kernel
set_option maxHeartbeats 4000000 in
/-- what the Statement gives of the start -/
theorem sStart {l : Launch} (hflags : l.flags = flags0) {p : Program} {s : State} {m : MethodId} {meth : Method} {c : Code} {b L : Nat} {xs : Nat → Int32} (C0 : lw_At p s m meth c b L xs) :
    ∃ (D : va_G) (lg tk de : Nat), va_K D sCl [] s ∧
      va_Z "BookExchange" "LEG_TABLE" "[I" (.ref lg) (fun q => s.heap.size ≤ q) s s.heap ∧ va_T .int lg 45 (fun j => .int (sLeg.getD j 0)) (fun q => s.heap.size ≤ q) s s.heap ∧
      va_Z "BookExchangeModel" "TAKEN" "[I" (.ref tk) (fun q => s.heap.size ≤ q) s s.heap ∧ va_T .int tk 15 (fun j => .int (sTak.getD j 0)) (fun q => s.heap.size ≤ q) s s.heap ∧
      va_Z "java/util/ArrayList" "DEFAULTCAPACITY_EMPTY_ELEMENTDATA" "[Ljava/lang/Object;" (.ref de) (fun q => s.heap.size ≤ q) s s.heap ∧ va_T (.object "java/lang/Object") de 0 (fun _ => .null) (fun q => s.heap.size ≤ q) s s.heap ∧
      vx_Zq Bundle.tN "UNASSIGNED_STACK" Bundle.steD (fun q => s.heap.size ≤ q) s s.heap ∧ vx_Zq Bundle.tN "SUPPRESSED_SENTINEL" Bundle.listD (fun q => s.heap.size ≤ q) s s.heap ∧
      (∀ q ∈ sStr, ∃ sa, vk_R q.1 q.2.1 q.2.2 sa s) ∧ sExOk s ∧ (∀ w ∈ sGW, w.before #[] s = true) := by
  obtain ⟨-, -, -, -, -, hts, -, -, -, hgv⟩ := C0
  have hs := flat_of_before _ hgv
  have hG : ∀ w ∈ sGW, w.before #[Value.ref b] s = true := fun w hw => hts w (List.mem_filter.mp hw).1
  obtain ⟨D, hD⟩ := sKn_at hG
  have hA : ∀ a : Nat, a < s.heap.size → ¬ (fun q => s.heap.size ≤ q) a := fun a h q => absurd h (Nat.not_lt.mpr q)
  sorry
