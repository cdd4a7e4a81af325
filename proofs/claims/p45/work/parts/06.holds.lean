def sCl : List vw_C := [(RX0, TX0, 2), (RX1, TX1, 7), (RX2, TX2, 4), (RX3, TX3, 1), (RX4, TX4, 3), (RX5, TX5, 6), (RX6, TX6, 4), (RX7, TX7, 11), (RX8, TX8, 18), (RX9, TX9, 6), (RX10, TX10, 1), (RX11, TX11, 6), (RX10, TX10, 1), (RJx4a65c, TJx4a65c, 3)]
def sTb (a : Nat) : Nat := bif Nat.ble 457 a then (bif Nat.ble 528 a then (bif Nat.ble 704 a then (bif Nat.ble 709 a then (bif Nat.ble 832 a then (bif Nat.ble 833 a then (bif Nat.ble 834 a then (bif Nat.beq a 834 then 0 else 9) else (bif Nat.beq a 833 then 2 else 9)) else (bif Nat.beq a 832 then 0 else 9)) else (bif Nat.ble 768 a then (bif Nat.beq a 768 then 2 else 9) else (bif Nat.beq a 709 then 2 else 9))) else (bif Nat.ble 706 a then (bif Nat.ble 707 a then (bif Nat.ble 708 a then (bif Nat.beq a 708 then 2 else 9) else (bif Nat.beq a 707 then 2 else 9)) else (bif Nat.beq a 706 then 2 else 9)) else (bif Nat.ble 705 a then (bif Nat.beq a 705 then 2 else 9) else (bif Nat.beq a 704 then 2 else 9)))) else (bif Nat.ble 578 a then (bif Nat.ble 580 a then (bif Nat.ble 581 a then (bif Nat.ble 640 a then (bif Nat.beq a 640 then 2 else 9) else (bif Nat.beq a 581 then 1 else 9)) else (bif Nat.beq a 580 then 0 else 9)) else (bif Nat.ble 579 a then (bif Nat.beq a 579 then 0 else 9) else (bif Nat.beq a 578 then 2 else 9))) else (bif Nat.ble 576 a then (bif Nat.ble 577 a then (bif Nat.beq a 577 then 2 else 9) else (bif Nat.beq a 576 then 2 else 9)) else (bif Nat.ble 529 a then (bif Nat.beq a 529 then 2 else 9) else (bif Nat.beq a 528 then 0 else 9))))) else (bif Nat.ble 519 a then (bif Nat.ble 523 a then (bif Nat.ble 525 a then (bif Nat.ble 526 a then (bif Nat.ble 527 a then (bif Nat.beq a 527 then 2 else 9) else (bif Nat.beq a 526 then 0 else 9)) else (bif Nat.beq a 525 then 0 else 9)) else (bif Nat.ble 524 a then (bif Nat.beq a 524 then 0 else 9) else (bif Nat.beq a 523 then 0 else 9))) else (bif Nat.ble 521 a then (bif Nat.ble 522 a then (bif Nat.beq a 522 then 0 else 9) else (bif Nat.beq a 521 then 1 else 9)) else (bif Nat.ble 520 a then (bif Nat.beq a 520 then 1 else 9) else (bif Nat.beq a 519 then 1 else 9)))) else (bif Nat.ble 514 a then (bif Nat.ble 516 a then (bif Nat.ble 517 a then (bif Nat.ble 518 a then (bif Nat.beq a 518 then 0 else 9) else (bif Nat.beq a 517 then 0 else 9)) else (bif Nat.beq a 516 then 0 else 9)) else (bif Nat.ble 515 a then (bif Nat.beq a 515 then 1 else 9) else (bif Nat.beq a 514 then 2 else 9))) else (bif Nat.ble 512 a then (bif Nat.ble 513 a then (bif Nat.beq a 513 then 2 else 9) else (bif Nat.beq a 512 then 0 else 9)) else (bif Nat.ble 458 a then (bif Nat.beq a 458 then 1 else 9) else (bif Nat.beq a 457 then 1 else 9)))))) else (bif Nat.ble 321 a then (bif Nat.ble 448 a then (bif Nat.ble 452 a then (bif Nat.ble 454 a then (bif Nat.ble 455 a then (bif Nat.ble 456 a then (bif Nat.beq a 456 then 0 else 9) else (bif Nat.beq a 455 then 0 else 9)) else (bif Nat.beq a 454 then 0 else 9)) else (bif Nat.ble 453 a then (bif Nat.beq a 453 then 0 else 9) else (bif Nat.beq a 452 then 0 else 9))) else (bif Nat.ble 450 a then (bif Nat.ble 451 a then (bif Nat.beq a 451 then 0 else 9) else (bif Nat.beq a 450 then 0 else 9)) else (bif Nat.ble 449 a then (bif Nat.beq a 449 then 2 else 9) else (bif Nat.beq a 448 then 0 else 9)))) else (bif Nat.ble 325 a then (bif Nat.ble 385 a then (bif Nat.ble 386 a then (bif Nat.ble 387 a then (bif Nat.beq a 387 then 2 else 9) else (bif Nat.beq a 386 then 2 else 9)) else (bif Nat.beq a 385 then 2 else 9)) else (bif Nat.ble 384 a then (bif Nat.beq a 384 then 2 else 9) else (bif Nat.beq a 325 then 0 else 9))) else (bif Nat.ble 323 a then (bif Nat.ble 324 a then (bif Nat.beq a 324 then 0 else 9) else (bif Nat.beq a 323 then 2 else 9)) else (bif Nat.ble 322 a then (bif Nat.beq a 322 then 2 else 9) else (bif Nat.beq a 321 then 2 else 9))))) else (bif Nat.ble 128 a then (bif Nat.ble 192 a then (bif Nat.ble 257 a then (bif Nat.ble 258 a then (bif Nat.ble 320 a then (bif Nat.beq a 320 then 2 else 9) else (bif Nat.beq a 258 then 0 else 9)) else (bif Nat.beq a 257 then 2 else 9)) else (bif Nat.ble 256 a then (bif Nat.beq a 256 then 2 else 9) else (bif Nat.beq a 192 then 2 else 9))) else (bif Nat.ble 130 a then (bif Nat.ble 131 a then (bif Nat.beq a 131 then 0 else 9) else (bif Nat.beq a 130 then 0 else 9)) else (bif Nat.ble 129 a then (bif Nat.beq a 129 then 0 else 9) else (bif Nat.beq a 128 then 0 else 9)))) else (bif Nat.ble 66 a then (bif Nat.ble 68 a then (bif Nat.ble 69 a then (bif Nat.ble 70 a then (bif Nat.beq a 70 then 2 else 9) else (bif Nat.beq a 69 then 2 else 9)) else (bif Nat.beq a 68 then 1 else 9)) else (bif Nat.ble 67 a then (bif Nat.beq a 67 then 0 else 9) else (bif Nat.beq a 66 then 2 else 9))) else (bif Nat.ble 64 a then (bif Nat.ble 65 a then (bif Nat.beq a 65 then 2 else 9) else (bif Nat.beq a 64 then 0 else 9)) else (bif Nat.ble 1 a then (bif Nat.beq a 1 then 2 else 9) else (bif Nat.beq a 0 then 2 else 9))))))
def sTc (a : Nat) : Nat := bif Nat.ble 457 a then (bif Nat.ble 528 a then (bif Nat.ble 704 a then (bif Nat.ble 709 a then (bif Nat.ble 832 a then (bif Nat.ble 833 a then (bif Nat.ble 834 a then (bif Nat.beq a 834 then 0 else 31) else (bif Nat.beq a 833 then 27 else 31)) else (bif Nat.beq a 832 then 0 else 31)) else (bif Nat.ble 768 a then (bif Nat.beq a 768 then 24 else 31) else (bif Nat.beq a 709 then 3 else 31))) else (bif Nat.ble 706 a then (bif Nat.ble 707 a then (bif Nat.ble 708 a then (bif Nat.beq a 708 then 0 else 31) else (bif Nat.beq a 707 then 6 else 31)) else (bif Nat.beq a 706 then 10 else 31)) else (bif Nat.ble 705 a then (bif Nat.beq a 705 then 4 else 31) else (bif Nat.beq a 704 then 5 else 31)))) else (bif Nat.ble 578 a then (bif Nat.ble 580 a then (bif Nat.ble 581 a then (bif Nat.ble 640 a then (bif Nat.beq a 640 then 24 else 31) else (bif Nat.beq a 581 then 0 else 31)) else (bif Nat.beq a 580 then 0 else 31)) else (bif Nat.ble 579 a then (bif Nat.beq a 579 then 0 else 31) else (bif Nat.beq a 578 then 7 else 31))) else (bif Nat.ble 576 a then (bif Nat.ble 577 a then (bif Nat.beq a 577 then 7 else 31) else (bif Nat.beq a 576 then 2 else 31)) else (bif Nat.ble 529 a then (bif Nat.beq a 529 then 8 else 31) else (bif Nat.beq a 528 then 0 else 31))))) else (bif Nat.ble 519 a then (bif Nat.ble 523 a then (bif Nat.ble 525 a then (bif Nat.ble 526 a then (bif Nat.ble 527 a then (bif Nat.beq a 527 then 2 else 31) else (bif Nat.beq a 526 then 0 else 31)) else (bif Nat.beq a 525 then 0 else 31)) else (bif Nat.ble 524 a then (bif Nat.beq a 524 then 0 else 31) else (bif Nat.beq a 523 then 0 else 31))) else (bif Nat.ble 521 a then (bif Nat.ble 522 a then (bif Nat.beq a 522 then 0 else 31) else (bif Nat.beq a 521 then 0 else 31)) else (bif Nat.ble 520 a then (bif Nat.beq a 520 then 0 else 31) else (bif Nat.beq a 519 then 0 else 31)))) else (bif Nat.ble 514 a then (bif Nat.ble 516 a then (bif Nat.ble 517 a then (bif Nat.ble 518 a then (bif Nat.beq a 518 then 0 else 31) else (bif Nat.beq a 517 then 0 else 31)) else (bif Nat.beq a 516 then 0 else 31)) else (bif Nat.ble 515 a then (bif Nat.beq a 515 then 0 else 31) else (bif Nat.beq a 514 then 1 else 31))) else (bif Nat.ble 512 a then (bif Nat.ble 513 a then (bif Nat.beq a 513 then 7 else 31) else (bif Nat.beq a 512 then 0 else 31)) else (bif Nat.ble 458 a then (bif Nat.beq a 458 then 0 else 31) else (bif Nat.beq a 457 then 0 else 31)))))) else (bif Nat.ble 321 a then (bif Nat.ble 448 a then (bif Nat.ble 452 a then (bif Nat.ble 454 a then (bif Nat.ble 455 a then (bif Nat.ble 456 a then (bif Nat.beq a 456 then 0 else 31) else (bif Nat.beq a 455 then 0 else 31)) else (bif Nat.beq a 454 then 0 else 31)) else (bif Nat.ble 453 a then (bif Nat.beq a 453 then 0 else 31) else (bif Nat.beq a 452 then 0 else 31))) else (bif Nat.ble 450 a then (bif Nat.ble 451 a then (bif Nat.beq a 451 then 0 else 31) else (bif Nat.beq a 450 then 0 else 31)) else (bif Nat.ble 449 a then (bif Nat.beq a 449 then 20 else 31) else (bif Nat.beq a 448 then 0 else 31)))) else (bif Nat.ble 325 a then (bif Nat.ble 385 a then (bif Nat.ble 386 a then (bif Nat.ble 387 a then (bif Nat.beq a 387 then 13 else 31) else (bif Nat.beq a 386 then 10 else 31)) else (bif Nat.beq a 385 then 4 else 31)) else (bif Nat.ble 384 a then (bif Nat.beq a 384 then 5 else 31) else (bif Nat.beq a 325 then 0 else 31))) else (bif Nat.ble 323 a then (bif Nat.ble 324 a then (bif Nat.beq a 324 then 0 else 31) else (bif Nat.beq a 323 then 20 else 31)) else (bif Nat.ble 322 a then (bif Nat.beq a 322 then 13 else 31) else (bif Nat.beq a 321 then 26 else 31))))) else (bif Nat.ble 128 a then (bif Nat.ble 192 a then (bif Nat.ble 257 a then (bif Nat.ble 258 a then (bif Nat.ble 320 a then (bif Nat.beq a 320 then 25 else 31) else (bif Nat.beq a 258 then 0 else 31)) else (bif Nat.beq a 257 then 13 else 31)) else (bif Nat.ble 256 a then (bif Nat.beq a 256 then 24 else 31) else (bif Nat.beq a 192 then 5 else 31))) else (bif Nat.ble 130 a then (bif Nat.ble 131 a then (bif Nat.beq a 131 then 0 else 31) else (bif Nat.beq a 130 then 0 else 31)) else (bif Nat.ble 129 a then (bif Nat.beq a 129 then 0 else 31) else (bif Nat.beq a 128 then 0 else 31)))) else (bif Nat.ble 66 a then (bif Nat.ble 68 a then (bif Nat.ble 69 a then (bif Nat.ble 70 a then (bif Nat.beq a 70 then 8 else 31) else (bif Nat.beq a 69 then 8 else 31)) else (bif Nat.beq a 68 then 0 else 31)) else (bif Nat.ble 67 a then (bif Nat.beq a 67 then 0 else 31) else (bif Nat.beq a 66 then 2 else 31))) else (bif Nat.ble 64 a then (bif Nat.ble 65 a then (bif Nat.beq a 65 then 2 else 31) else (bif Nat.beq a 64 then 0 else 31)) else (bif Nat.ble 1 a then (bif Nat.beq a 1 then 4 else 31) else (bif Nat.beq a 0 then 5 else 31))))))
def sNf (k : Nat) : Nat := bif Nat.ble 7 k then (bif Nat.ble 10 k then (bif Nat.ble 12 k then (bif Nat.ble 13 k then (bif Nat.beq k 13 then 3 else 0) else (bif Nat.beq k 12 then 1 else 0)) else (bif Nat.ble 11 k then (bif Nat.beq k 11 then 6 else 0) else (bif Nat.beq k 10 then 1 else 0))) else (bif Nat.ble 8 k then (bif Nat.ble 9 k then (bif Nat.beq k 9 then 6 else 0) else (bif Nat.beq k 8 then 18 else 0)) else (bif Nat.beq k 7 then 11 else 0))) else (bif Nat.ble 3 k then (bif Nat.ble 5 k then (bif Nat.ble 6 k then (bif Nat.beq k 6 then 4 else 0) else (bif Nat.beq k 5 then 6 else 0)) else (bif Nat.ble 4 k then (bif Nat.beq k 4 then 3 else 0) else (bif Nat.beq k 3 then 1 else 0))) else (bif Nat.ble 1 k then (bif Nat.ble 2 k then (bif Nat.beq k 2 then 4 else 0) else (bif Nat.beq k 1 then 7 else 0)) else (bif Nat.beq k 0 then 2 else 0)))
def sAt (k : Nat) : FieldType := match k with
  | 22 => .boolean
  | 23 => .long
  | 24 => .object "BookExchange$Book"
  | 25 => .object "BookExchange$Contract"
  | 26 => .object "BookExchange$Member"
  | 27 => .object "java/lang/Object"
  | _ => .int
/-- words that stay, however warm the tables grow -/
def sWm (w : Cond) : Bool := goodWord w || (match w with
  | .castable _ _ => true
  | .declares _ => true
  | .fieldLinkNest _ _ _ _ _ _ => true
  | .arrayOver (.object _) => true
  | _ => false)
def sGG : List Cond := lw_tbl.filter goodWord
def sGW : List Cond := lw_tbl.filter sWm
theorem sGG_GW {w : Cond} (h : w ∈ sGG) : w ∈ sGW := List.mem_filter.mpr ⟨(List.mem_filter.mp h).1, by unfold sWm; rw [(List.mem_filter.mp h).2]; rfl⟩
theorem sGW_at {args a0 : Array Value} {s0 s : State} (hW : s0.WarmedH s.vm) (h0 : ∀ w ∈ sGW, w.before a0 s0 = true) : ∀ w ∈ sGW, w.before args s = true := by
  intro w hw
  have h1 := h0 w hw
  obtain ⟨h2, h3⟩ := List.mem_filter.mp hw
  unfold sWm at h3
  by_cases g : goodWord w = true
  · exact word_at hW (good_of_word g) h1
  · rw [Bool.or_eq_true] at h3
    rcases h3 with h3 | h3
    · exact absurd h3 g
    · split at h3
      · exact va_Nw.use rfl (va_Nw.warmC hW (va_Nw.of rfl h1))
      · exact va_Nw.use rfl (va_Nw.warmD hW (va_Nw.of rfl h1))
      · exact va_Nw.use rfl (va_Nw.warmF hW (va_Nw.of rfl h1))
      · exact va_AO.use (va_AO.moved hW.alike (va_AO.of h1))
      · cases h3
/-- the machine's value of one of ours -/
def sTr (γ : Nat → Nat → Nat) (x : sV) : Value := match x with
  | .inl i => .int i
  | .inr (.inl j) => .long j
  | .inr (.inr (k, r)) => va_rf (r.map (γ k))
def sOkV (t : sT) (x : sV) : Prop := match x with
  | .inr (.inr (k, some i)) => i < sC t k
  | _ => True
def sJ (x : sV) : Prop := match x with
  | .inr (.inr (k, _)) => k = 31
  | _ => False
def sVr (γ : Nat → Nat → Nat) (t : sT) (x : sV) (v : Value) : Prop := (sJ x → v.category = 1 ∧ ∀ r, x = .inr (.inr (31, some r)) → ∃ a, v = .ref a) ∧ (¬ sJ x → v = sTr γ x ∧ sOkV t x)
def sFv (γ : Nat → Nat → Nat) (t : sT) (a o : Nat) : Value := sTr γ (sFld t a (sTb a) (sTc a) o)
def sEl (t : sT) (k o p : Nat) : sV := if k = 22 then .inl (if sB t k o p = true then 1 else 0) else if k = 23 then .inr (.inl (sL t k o p)) else if 24 ≤ k ∧ k < 28 then .inr (.inr (sE t k o p)) else .inl (sA t k o p)
def sEv (γ : Nat → Nat → Nat) (t : sT) (k o p : Nat) : Value := sTr γ (sEl t k o p)
def sArr (s0 : State) (γ : Nat → Nat → Nat) (t : sT) (H : Heap) (k i : Nat) : Prop :=
  ∃ cell : Cell, H[γ k i]? = some cell ∧ s0.isArrayOf cell (sAt k) ∧ cell.vm ≠ .unknown ∧ (sN t k i ≤ cell.slots.size ∧ cell.slots.size.toInt32 = Int32.ofNat (sN t k i)) ∧ (∀ p, p < sN t k i → cell.slots[p]? = some (sEv γ t k i p)) ∧
    (24 ≤ k → k < 28 → 0 < sN t k i → (∀ q, cell.vm ≠ .statics q) ∧ ∃ (kA : Class) (comp : ClassId) (C : String), sAt k = .object C ∧ s0.vm.classes[cell.cls]? = some kA ∧ kA.kind = .array comp (.object C) ∧ s0.vm.findClass C = some comp ∧ s0.vm.findClass ("[" ++ (FieldType.object C).toString) = some cell.cls)
def sVd (t : sT) (k i : Nat) : Prop := (k < 14 ∨ (20 ≤ k ∧ k < 30)) ∧ i < sC t k
def sOwn (k i : Nat) : Prop := k < 28 ∧ (k = 27 → 1 ≤ i)
def sWf (t : sT) : Prop :=
  (∀ a o i, sR t a o = some i → i < sC t (sTc a)) ∧ (∀ k o p i, (sE t k o p).2 = some i → i < sC t (sE t k o p).1 ∧ (sE t k o p).1 < 14) ∧
  (∀ a o, sC t (a / 64) ≤ o → sI t a o = 0 ∧ sZ t a o = false ∧ sR t a o = none) ∧
  (∀ k o, sC t k ≤ o → ∀ p, sA t k o p = 0 ∧ sB t k o p = false ∧ (sE t k o p).2 = none ∧ sL t k o p = 0) ∧ sN t 27 0 = 0 ∧ 1 ≤ sC t 27
/-- the heap holds the store -/
def sRep (D : va_G) (s0 : State) (γ : Nat → Nat → Nat) (t : sT) (H : Heap) : Prop :=
  H.size = s0.heap.size + sn t ∧ (∀ q : Nat, q < s0.heap.size → H[q]? = s0.heap[q]?) ∧
  (∀ k i, k < 14 → i < sC t k → t_OB (γ k i) (D.1 k) (sNf k) (D.2 k) H (fun j => sFv γ t (64 * k + j) i)) ∧
  (∀ k i, 20 ≤ k → k < 30 → i < sC t k → sArr s0 γ t H k i) ∧
  (∀ k i k' i', sVd t k i → sVd t k' i' → sOwn k i → γ k i = γ k' i' → k = k' ∧ i = i') ∧
  (∀ k i, sVd t k i → sOwn k i → s0.heap.size ≤ γ k i) ∧ sWf t
/-- places known ahead: of all that a run makes up to t -/
def sPr (s0 : State) (γ : Nat → Nat → Nat) (t : sT) : Prop := ∀ k i, i < sC t k → sOwn k i → γ k i = s0.heap.size + sG t k i
def sExt (t t' : sT) : Prop := (∀ k, sC t k ≤ sC t' k) ∧ (∀ k i, i < sC t k → sG t' k i = sG t k i) ∧ sn t ≤ sn t' ∧ sw t ≤ sw t'
theorem sExt.rfl {t : sT} : sExt t t := ⟨fun _ => Nat.le_refl _, fun _ _ _ => Eq.refl _, Nat.le_refl _, Nat.le_refl _⟩
theorem sExt.trans {a b c : sT} (h1 : sExt a b) (h2 : sExt b c) : sExt a c :=
  ⟨fun k => Nat.le_trans (h1.1 k) (h2.1 k), fun k i hi => (h2.2.1 k i (Nat.lt_of_lt_of_le hi (h1.1 k))).trans (h1.2.1 k i hi), Nat.le_trans h1.2.2.1 h2.2.2.1, Nat.le_trans h1.2.2.2 h2.2.2.2⟩
theorem sPr.back {s0 : State} {γ : Nat → Nat → Nat} {t t' : sT} (h : sPr s0 γ t') (e : sExt t t') : sPr s0 γ t := fun k i hi ho => by
  rw [h k i (Nat.lt_of_lt_of_le hi (e.1 k)) ho, e.2.1 k i hi]
theorem sVr.ext {γ : Nat → Nat → Nat} {t t' : sT} {x : sV} {v : Value} (h : sVr γ t x v) (e : sExt t t') : sVr γ t' x v := by
  refine ⟨h.1, fun hj => ⟨(h.2 hj).1, ?_⟩⟩
  have h2 := (h.2 hj).2
  match x with
  | .inl _ => trivial
  | .inr (.inl _) => trivial
  | .inr (.inr (_, none)) => trivial
  | .inr (.inr (k, some i)) => exact Nat.lt_of_lt_of_le h2 (e.1 k)
/-- an operand stack -/
def sSr (γ : Nat → Nat → Nat) (t : sT) : List sV → List Value → Prop
  | [], [] => True
  | x :: xs, v :: vs => sVr γ t x v ∧ sSr γ t xs vs
  | _, _ => False
theorem sSr.ext {γ : Nat → Nat → Nat} {t t' : sT} : ∀ {xs : List sV} {vs : List Value}, sSr γ t xs vs → sExt t t' → sSr γ t' xs vs
  | [], [], _, _ => trivial
  | x :: xs, v :: vs, h, e => ⟨h.1.ext e, h.2.ext e⟩
  | [], _ :: _, h, _ => h.elim
  | _ :: _, [], h, _ => h.elim
theorem sSr.cons {γ : Nat → Nat → Nat} {t : sT} {x : sV} {xs : List sV} {ms : List Value} (h : sSr γ t (x :: xs) ms) : ∃ v vs, ms = v :: vs ∧ sVr γ t x v ∧ sSr γ t xs vs := by
  match ms with
  | [] => exact h.elim
  | v :: vs => exact ⟨v, vs, rfl, h.1, h.2⟩
theorem sSr.nil {γ : Nat → Nat → Nat} {t : sT} {ms : List Value} (h : sSr γ t [] ms) : ms = [] := by
  match ms with
  | [] => rfl
  | v :: vs => exact h.elim
theorem sVr.i {γ : Nat → Nat → Nat} {t : sT} {i : Int32} {v : Value} (h : sVr γ t (.inl i) v) : v = .int i := (h.2 (fun q => q)).1
theorem sVr.l {γ : Nat → Nat → Nat} {t : sT} {i : Int64} {v : Value} (h : sVr γ t (.inr (.inl i)) v) : v = .long i := (h.2 (fun q => q)).1
theorem sVr.r {γ : Nat → Nat → Nat} {t : sT} {k : Nat} {r : Option Nat} {v : Value} (h : sVr γ t (.inr (.inr (k, r))) v) (hk : ¬ k = 31) : v = va_rf (r.map (γ k)) ∧ ∀ i, r = some i → i < sC t k :=
  ⟨(h.2 hk).1, fun i hi => by subst hi; exact (h.2 hk).2⟩
theorem sVr.mkI {γ : Nat → Nat → Nat} {t : sT} (i : Int32) : sVr γ t (.inl i) (.int i) := ⟨fun q => q.elim, fun _ => ⟨rfl, trivial⟩⟩
theorem sVr.mkL {γ : Nat → Nat → Nat} {t : sT} (i : Int64) : sVr γ t (.inr (.inl i)) (.long i) := ⟨fun q => q.elim, fun _ => ⟨rfl, trivial⟩⟩
theorem sVr.mkR {γ : Nat → Nat → Nat} {t : sT} {k : Nat} {r : Option Nat} (h : ∀ i, r = some i → i < sC t k) : sVr γ t (.inr (.inr (k, r))) (va_rf (r.map (γ k))) := by
  refine ⟨fun _ => ⟨by cases r <;> rfl, fun i q => by cases q; exact ⟨_, rfl⟩⟩, fun _ => ⟨rfl, ?_⟩⟩
  cases r with
  | none => trivial
  | some i => exact h i rfl
theorem sVr.mkT {γ : Nat → Nat → Nat} {t : sT} {x : sV} (h : sOkV t x) : sVr γ t x (sTr γ x) := by
  match x with
  | .inl _ => exact .mkI _
  | .inr (.inl _) => exact .mkL _
  | .inr (.inr (_, none)) => exact .mkR (fun i q => by cases q)
  | .inr (.inr (k, some i)) => exact .mkR (fun j q => by cases q; exact h)
theorem sVr.cat {γ : Nat → Nat → Nat} {t : sT} {x : sV} {v : Value} (h : sVr γ t x v) : v.category = sCat x := by
  match x with
  | .inl _ => rw [h.i]; rfl
  | .inr (.inl _) => rw [h.l]; rfl
  | .inr (.inr (k, r)) =>
    by_cases hk : k = 31
    · exact (h.1 hk).1
    · rw [(h.r hk).1]; cases r <;> rfl
theorem sSr.cats {γ : Nat → Nat → Nat} {t : sT} : ∀ {xs : List sV} {vs : List Value}, sSr γ t xs vs → (vs.map fun v => v.category).sum = (xs.map sCat).sum
  | [], [], _ => rfl
  | x :: xs, v :: vs, h => by
    rw [List.map_cons, List.sum_cons, List.map_cons, List.sum_cons, h.1.cat, sSr.cats h.2]
  | [], _ :: _, h => h.elim
  | _ :: _, [], h => h.elim
/-- the locals -/
def sLr (γ : Nat → Nat → Nat) (t : sT) (ls : List sV) (arr : Array Slot) : Prop :=
  ls.length = arr.size ∧ lv_wf arr ∧ ∀ (i : Nat) (x : sV), ls[i]? = some x → ¬ sJ x → ∃ v : Value, arr[i]? = some (Slot.val v) ∧ sVr γ t x v
theorem sLr.ext {γ : Nat → Nat → Nat} {t t' : sT} {ls : List sV} {arr : Array Slot} (h : sLr γ t ls arr) (e : sExt t t') : sLr γ t' ls arr :=
  ⟨h.1, h.2.1, fun i x hx hj => by obtain ⟨v, h1, h2⟩ := h.2.2 i x hx hj; exact ⟨v, h1, h2.ext e⟩⟩
/-- all that the machine's locals hold -/
def sLv (arr : Array Slot) : List (Nat × Value) := (List.range arr.size).filterMap fun i => match arr[i]? with
  | some (Slot.val v) => some (i, v)
  | _ => none
theorem sLv_has {arr : Array Slot} (h : lv_wf arr) : lv_has arr arr.size (sLv arr) := by
  refine ⟨rfl, h, fun q hq => ?_⟩
  obtain ⟨i, -, hi⟩ := List.mem_filterMap.mp hq
  split at hi
  · next v hv => cases hi; exact hv
  · cases hi
theorem sLv_in {arr : Array Slot} {i : Nat} {v : Value} (h : arr[i]? = some (Slot.val v)) : (i, v) ∈ sLv arr := by
  have hlt : i < arr.size := (Array.getElem?_eq_some_iff.mp h).1
  exact List.mem_filterMap.mpr ⟨i, List.mem_range.mpr hlt, by rw [h]⟩
theorem sKl_get {ls : List sV} {a j : Nat} {x : sV} (h : (sKl ls a)[j]? = some x) (hj : ¬ sJ x) : ls[j]? = some x ∧ (j + 1 = a → sCat x = 1) := by
  unfold sKl at h
  split at h
  · exact ⟨h, fun q => by omega⟩
  · next a' =>
    split at h
    · next y hy =>
      rw [List.getElem?_set] at h
      split at h
      · next e =>
        split at h
        · cases h; exact (hj rfl).elim
        · cases h
      · next e => exact ⟨h, fun q => by omega⟩
    · next hy =>
      refine ⟨h, fun q => ?_⟩
      have e : j = a' := by omega
      subst e
      match x with
      | .inl _ => rfl
      | .inr (.inl z) => exact absurd h (fun q => hy z q)
      | .inr (.inr _) => rfl
theorem sKl_len {ls : List sV} {a : Nat} : (sKl ls a).length = ls.length := by
  unfold sKl
  split
  · rfl
  · split
    · rw [List.length_set]
    · rfl
theorem sLr.st {γ : Nat → Nat → Nat} {t : sT} {ls : List sV} {arr arr' : Array Slot} {a : Nat} {x : sV} {v : Value} (h : sLr γ t ls arr) (hx : sVr γ t x v) 
    (h' : lv_has arr' arr.size ((a, v) :: (sLv arr).filter (fun q => !(q.1 == a) && !(q.1 + 1 == a && q.2.category == 2)))) : sLr γ t (sSt ls a x) arr' := by
  refine ⟨by unfold sSt; rw [List.length_set, sKl_len, h.1, h'.1], h'.2.1, fun i y hy hj => ?_⟩
  unfold sSt at hy
  rw [List.getElem?_set] at hy
  split at hy
  · next e =>
    subst e
    split at hy
    · cases hy; exact ⟨v, h'.2.2 _ List.mem_cons_self, hx⟩
    · cases hy
  · next e =>
    obtain ⟨h1, h2⟩ := sKl_get hy hj
    obtain ⟨w, h3, h4⟩ := h.2.2 i y h1 hj
    refine ⟨w, h'.2.2 (i, w) (List.mem_cons_of_mem _ (List.mem_filter.mpr ⟨sLv_in h3, ?_⟩)), h4⟩
    have e1 : ¬ i = a := fun q => e q.symm
    by_cases q : i + 1 = a
    · have := h2 q
      rw [← h4.cat] at this
      simp [e1, this]
    · simp [e1, q]
theorem sLr.st2 {γ : Nat → Nat → Nat} {t : sT} {ls : List sV} {arr arr' : Array Slot} {a : Nat} {x : sV} {v : Value} (h : sLr γ t ls arr) (hx : sVr γ t x v)
    (h' : lv_has arr' arr.size ((a, v) :: (sLv arr).filter (fun q => !(q.1 == a) && (!(q.1 == a + 1) && !(q.1 + 1 == a && q.2.category == 2))))) : sLr γ t (sSt2 ls a x) arr' := by
  refine ⟨by unfold sSt2; rw [List.length_set, List.length_set, sKl_len, h.1, h'.1], h'.2.1, fun i y hy hj => ?_⟩
  unfold sSt2 at hy
  rw [List.getElem?_set] at hy
  split at hy
  · next e =>
    split at hy
    · cases hy; exact (hj rfl).elim
    · cases hy
  · next e =>
    rw [List.getElem?_set] at hy
    split at hy
    · next e2 =>
      subst e2
      split at hy
      · cases hy; exact ⟨v, h'.2.2 _ List.mem_cons_self, hx⟩
      · cases hy
    · next e2 =>
      obtain ⟨h1, h2⟩ := sKl_get hy hj
      obtain ⟨w, h3, h4⟩ := h.2.2 i y h1 hj
      refine ⟨w, h'.2.2 (i, w) (List.mem_cons_of_mem _ (List.mem_filter.mpr ⟨sLv_in h3, ?_⟩)), h4⟩
      have e1 : ¬ i = a := fun q => e2 q.symm
      have e3 : ¬ i = a + 1 := fun q => e q.symm
      by_cases q : i + 1 = a
      · have := h2 q
        rw [← h4.cat] at this
        simp [e1, e3, this]
      · simp [e1, e3, q]
