/-! how the class's part of a store t and a state M of the reference go together; n orders, T trades -/
def sPI : List (Nat × Nat) := [(516, 14), (523, 15), (517, 16), (525, 18), (522, 19), (518, 20), (450, 4), (451, 5), (452, 7), (453, 8), (454, 26), (456, 9), (129, 1), (130, 2), (131, 3), (67, 0), (579, 24), (580, 25)]
def sPZ : List (Nat × Nat) := [(515, 3), (520, 4), (519, 5), (521, 6), (457, 1), (458, 2), (68, 0), (581, 7)]
def sPS : List (Nat × Nat) := [(324, 784), (325, 785), (258, 800)]
def bd (n T F : Nat) : Nat := match F / 64 with
  | 1 => 5
  | 2 => 3
  | 7 => 6
  | 8 => n
  | 9 => T
  | _ => 0
def rlI (t : sT) (M : sM) (n T : Nat) : Prop := ∀ q ∈ sPI, ∀ o, o < bd n T q.1 → sI t q.1 o = mA M q.2 o
def rlZ (t : sT) (M : sM) (n T : Nat) : Prop := ∀ q ∈ sPZ, ∀ o, o < bd n T q.1 → sZ t q.1 o = mB M q.2 o
def rlS (t : sT) (M : sM) : Prop := ∀ q ∈ sPS, sI t q.1 0 = mI M q.2
/-- positions, moves -/
def rlP (t : sT) (M : sM) : Prop := (∀ m c, m < 6 → c < 3 → sA t 20 (m + 1) c = mA M 6 (3 * m + c)) ∧ ∀ k, k < 18 → sA t 20 0 k = mA M 11 k
/-- an order's member and book, a trade's contract, buyer and seller, as numbers -/
def oM (M : sM) (o : Nat) : Nat := (mA M 12 o).toNatClampNeg
def oB (M : sM) (o : Nat) : Nat := (mA M 13 o).toNatClampNeg
def tK (M : sM) (k : Nat) : Nat := (mA M 21 k).toNatClampNeg
def tB (M : sM) (k : Nat) : Nat := (mA M 22 k).toNatClampNeg
def tS (M : sM) (k : Nat) : Nat := (mA M 23 k).toNatClampNeg
def rlO (t : sT) (M : sM) (n : Nat) : Prop := ∀ o, o < n → (sR t 513 o = some (oM M o) ∧ oM M o < 6 ∧ mA M 12 o = io (oM M o)) ∧ (sR t 514 o = some (oB M o) ∧ oB M o < 5 ∧ mA M 13 o = io (oB M o)) ∧ sI t 512 o = io o
def rlT (t : sT) (M : sM) (T : Nat) : Prop := ∀ k, k < T → (sR t 576 k = some (tK M k) ∧ tK M k < 3 ∧ mA M 21 k = io (tK M k)) ∧ (sR t 577 k = some (tB M k) ∧ tB M k < 6 ∧ mA M 22 k = io (tB M k)) ∧ (sR t 578 k = some (tS M k) ∧ tS M k < 6 ∧ mA M 23 k = io (tS M k))
/-- what an order shows: told by the reference only while it rests -/
def rlW (t : sT) (M : sM) (n : Nat) : Prop := ∀ o, o < n → mA M 17 o = if mA M 19 o = 1 then sI t 524 o else 0
/-- a list: its elements are f 0, f 1 .. of a kind; d its array, of room w -/
def Ls (t : sT) (l k : Nat) (f : Nat → Nat) (n d w : Nat) : Prop := sR t 833 l = some d ∧ sI t 834 l = io n ∧ sN t 27 d = w ∧ n ≤ w ∧ d < sC t 27 ∧ (d = 0 ↔ w = 0) ∧ ∀ i, i < n → sE t 27 d i = (k, some (f i))
def rlL (t : sT) (n T : Nat) (f : Nat → Nat) (nk : Nat) (d w : Nat → Nat) : Prop := Ls t 0 9 (fun i => i) T (d 0) (w 0) ∧ Ls t 1 8 (fun i => i) n (d 1) (w 1) ∧ Ls t 2 8 f nk (d 2) (w 2) ∧ (∀ a b, a < 3 → b < 3 → ¬ a = b → d a = d b → d a = 0) ∧ sC t 8 = n ∧ sC t 9 = T ∧ w 0 ≤ 2 * T + 10 ∧ w 1 ≤ 2 * n + 10 ∧ w 2 ≤ 410
/-- the chain of a side of a book -/
def hd (t : sT) (b : Nat) (s : Bool) : Option Nat := bif s then sR t 69 b else sR t 70 b
def Lk (t : sT) : Option Nat → List Nat → Prop
  | r, [] => r = none
  | r, o :: l => r = some o ∧ Lk t (sR t 529 o) l
/-- o is better than p: both of one book and side -/
def btr (M : sM) (s : Bool) (o p : Nat) : Prop := if mA M 14 o = mA M 14 p then mA M 18 o < mA M 18 p else if s = true then mA M 14 p < mA M 14 o else mA M 14 o < mA M 14 p
def rst (M : sM) (n b : Nat) (s : Bool) (o : Nat) : Prop := o < n ∧ mA M 19 o = 1 ∧ oB M o = b ∧ mB M 3 o = s
def Ch (t : sT) (M : sM) (n b : Nat) (s : Bool) (l : List Nat) : Prop := Lk t (hd t b s) l ∧ l.Pairwise (btr M s) ∧ ∀ o, o ∈ l ↔ rst M n b s o
def rlC (t : sT) (M : sM) (n : Nat) : Prop := ∀ b s, b < 5 → ∃ l, Ch t M n b s l
/-- the room used -/
def rlM (t : sT) (k n T : Nat) (w : Nat → Nat) : Prop := sn t ≤ 300 + 8 * k + n + T + (w 0 + w 1 + w 2) ∧ sw t ≤ 40000 + 60 * k + 18 * n + 6 * T + 4 * (w 0 + w 1 + w 2)
