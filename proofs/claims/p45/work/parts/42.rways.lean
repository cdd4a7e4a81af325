/-! the reference's ways (printed by refgen.py) -/
/-- the legs of a way of a book: their books, and whether the side is that of the order that comes -/
def lgs (b w : Nat) : Option (List (Nat × Bool)) :=
  match b, w with
  | 0, 0 => some [(0, false)]
  | 0, 1 => some [(3, false), (1, false)]
  | 0, 2 => some [(3, false), (4, false), (2, false)]
  | 1, 0 => some [(1, false)]
  | 1, 1 => some [(4, false), (2, false)]
  | 1, 2 => some [(3, true), (0, false)]
  | 2, 0 => some [(2, false)]
  | 2, 1 => some [(4, true), (1, false)]
  | 2, 2 => some [(4, true), (3, true), (0, false)]
  | 3, 0 => some [(3, false)]
  | 3, 1 => some [(0, false), (1, true)]
  | 4, 0 => some [(4, false)]
  | 4, 1 => some [(1, false), (2, true)]
  | _, _ => none
def zok (M : sM) (n b : Nat) (x : Bool) : Bool := ((decide ((mA M 0 b) = 2)) && (!((bsF M n b x).isNone)))
def lgF (M : sM) (n : Nat) (s : Bool) : List (Nat × Bool) → Option (List Nat)
  | [] => some []
  | q :: r => bif zok M n q.1 (!(xor q.2 s)) then (lgF M n s r).map (fun l => ovD (bsF M n q.1 (!(xor q.2 s))) :: l) else none
def lgO (M : sM) (n b : Nat) (s : Bool) (w : Nat) : Option (List Nat) := match lgs b w with
  | none => none
  | some l => lgF M n s l
def prS (M : sM) : Int32 → List (Nat × Bool) → List Nat → Int32
  | a, q :: r, o :: l => prS M (a + (bif q.2 then (-(mA M 14 o)) else (mA M 14 o))) r l
  | a, _, _ => a
def prF (M : sM) (b w : Nat) (L : List Nat) : Int32 := bif (Nat.ble 3 b && Nat.beq w 1) then (mA M 14 (L.getD 0 0)) - (mA M 14 (L.getD 1 0)) else prS M 0 ((lgs b w).getD []) L
def wokF (M : sM) (n b : Nat) (s : Bool) (w : Nat) : Bool := (lgO M n b s w).isSome
def wprF (M : sM) (n b : Nat) (s : Bool) (w : Nat) : Int32 := prF M b w ((lgO M n b s w).getD [])
/-- the orders that are noted down as taken -/
def Tka (t : sT) : Nat → List Nat → Prop
  | _, [] => True
  | i, o :: l => sA t 21 27 i = io o ∧ Tka t (i + 1) l
def Tk (t : sT) (L : List Nat) : Prop := sI t 811 0 = io L.length ∧ Tka t 0 L
section S42
variable {t t' : sT} {M : sM} {n b : Nat} {s tb : Bool} {r : List (Nat × Bool)} {L : List Nat}
theorem bsS_lt {k : Nat} {f : Option Nat} (hk : k < n) (hf : ∀ j, f = some j → j < n) : ∀ j, bsS M n b s k f = some j → j < n := obd_c (obd_c (obd_s hk) (obd_c (obd_s hk) hf)) hf
theorem bsL_lt {f : Option Nat} (hf : ∀ j, f = some j → j < n) : ∀ k, k ≤ n → ∀ j, bsL M n b s f k = some j → j < n
  | 0, _ => hf
  | k + 1, h => bsS_lt (by omega) (bsL_lt hf k (by omega))
theorem bsF_lt : ∀ j, bsF M n b s = some j → j < n := bsL_lt obd_n n (Nat.le_refl n)
theorem an_n {z : Bool} {r : Option Nat} (h : (z && (!r.isNone)) = true) : r.isNone = false := by
  cases z <;> cases hr : r.isNone <;> rw [hr] at h <;> first | rfl | cases h
theorem lgF_s (h : zok M n b (!(xor tb s)) = true) : (lgF M n s ((b, tb) :: r)).isSome = (lgF M n s r).isSome := by
  show (bif zok M n b (!(xor tb s)) then _ else none : Option (List Nat)).isSome = _
  rw [h]
  show ((lgF M n s r).map _).isSome = _
  cases lgF M n s r <;> rfl
theorem lgF_n (h : zok M n b (!(xor tb s)) = false) : (lgF M n s ((b, tb) :: r)).isSome = false := by
  show (bif zok M n b (!(xor tb s)) then _ else none : Option (List Nat)).isSome = _
  rw [h]; rfl
theorem lgF_1 : (lgF M n s [(b, tb)]).isSome = zok M n b (!(xor tb s)) := by
  cases h : zok M n b (!(xor tb s)) with
  | false => exact lgF_n h
  | true => exact lgF_s h
theorem lgF_i (h : lgF M n s ((b, tb) :: r) = some L) : ∃ l, zok M n b (!(xor tb s)) = true ∧ lgF M n s r = some l ∧ ovD (bsF M n b (!(xor tb s))) < n ∧ L = ovD (bsF M n b (!(xor tb s))) :: l := by
  cases hz : zok M n b (!(xor tb s)) with
  | false =>
    have h1 := lgF_n (r := r) hz
    rw [h] at h1; cases h1
  | true =>
    have h : (bif zok M n b (!(xor tb s)) then (lgF M n s r).map (fun l => ovD (bsF M n b (!(xor tb s))) :: l) else none) = some L := h
    rw [hz] at h
    have h : (lgF M n s r).map (fun l => ovD (bsF M n b (!(xor tb s))) :: l) = some L := h
    cases hr : lgF M n s r with
    | none => rw [hr] at h; cases h
    | some l =>
      rw [hr] at h
      exact ⟨l, rfl, rfl, ov_lt (an_n hz) bsF_lt, (Option.some.inj h).symm⟩
theorem lgF_nil (h : lgF M n s [] = some L) : L = [] := (Option.some.inj h).symm
theorem gsome {α : Type} {r : Option α} {d : α} (h : r.isSome = true) : r = some (r.getD d) := by
  cases r with
  | none => cases h
  | some x => rfl
theorem Tka_sp (h : sp t' = sp t) : ∀ (l : List Nat) (i : Nat), Tka t i l → Tka t' i l
  | [], _, _ => trivial
  | _ :: l, i, k => ⟨(sA_sp h rfl).trans k.1, Tka_sp h l (i + 1) k.2⟩
theorem Tk_sp (h : sp t' = sp t) (k : Tk t L) : Tk t' L := ⟨(sI_sp h).trans k.1, Tka_sp h L 0 k.2⟩
end S42
def bwF (M : sM) (n : Nat) (b : Nat) (s : Bool) : Option Nat := (bif (wokF M n b s 1) then (bif (wokF M n b s 2) then (bif (((bif (((bif (wokF M n b s 0) then (some 0) else none).isNone) || (bif s then (decide ((wprF M n b s 1) < (bif (wokF M n b s 0) then (wprF M n b s 0) else 0))) else (decide ((bif (wokF M n b s 0) then (wprF M n b s 0) else 0) < (wprF M n b s 1))))) then (some 1) else (bif (wokF M n b s 0) then (some 0) else none)).isNone) || (bif s then (decide ((wprF M n b s 2) < (bif (((bif (wokF M n b s 0) then (some 0) else none).isNone) || (bif s then (decide ((wprF M n b s 1) < (bif (wokF M n b s 0) then (wprF M n b s 0) else 0))) else (decide ((bif (wokF M n b s 0) then (wprF M n b s 0) else 0) < (wprF M n b s 1))))) then (wprF M n b s 1) else (bif (wokF M n b s 0) then (wprF M n b s 0) else 0)))) else (decide ((bif (((bif (wokF M n b s 0) then (some 0) else none).isNone) || (bif s then (decide ((wprF M n b s 1) < (bif (wokF M n b s 0) then (wprF M n b s 0) else 0))) else (decide ((bif (wokF M n b s 0) then (wprF M n b s 0) else 0) < (wprF M n b s 1))))) then (wprF M n b s 1) else (bif (wokF M n b s 0) then (wprF M n b s 0) else 0)) < (wprF M n b s 2))))) then (some 2) else (bif (((bif (wokF M n b s 0) then (some 0) else none).isNone) || (bif s then (decide ((wprF M n b s 1) < (bif (wokF M n b s 0) then (wprF M n b s 0) else 0))) else (decide ((bif (wokF M n b s 0) then (wprF M n b s 0) else 0) < (wprF M n b s 1))))) then (some 1) else (bif (wokF M n b s 0) then (some 0) else none))) else (bif (((bif (wokF M n b s 0) then (some 0) else none).isNone) || (bif s then (decide ((wprF M n b s 1) < (bif (wokF M n b s 0) then (wprF M n b s 0) else 0))) else (decide ((bif (wokF M n b s 0) then (wprF M n b s 0) else 0) < (wprF M n b s 1))))) then (some 1) else (bif (wokF M n b s 0) then (some 0) else none))) else (bif (wokF M n b s 2) then (bif (((bif (wokF M n b s 0) then (some 0) else none).isNone) || (bif s then (decide ((wprF M n b s 2) < (bif (wokF M n b s 0) then (wprF M n b s 0) else 0))) else (decide ((bif (wokF M n b s 0) then (wprF M n b s 0) else 0) < (wprF M n b s 2))))) then (some 2) else (bif (wokF M n b s 0) then (some 0) else none)) else (bif (wokF M n b s 0) then (some 0) else none)))
