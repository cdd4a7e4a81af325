/-! a small machine: values are ints, longs, references (a kind, and a number within it); a store has a map a field -/
abbrev sV : Type := Int32 ⊕ (Int64 ⊕ (Nat × Option Nat))
abbrev sT : Type := (Nat → Nat → Int32) × (Nat → Nat → Bool) × (Nat → Nat → Option Nat) × (Nat → Nat → Nat → Int32) × (Nat → Nat → Nat → Bool) × (Nat → Nat → Nat → Nat × Option Nat) × (Nat → Nat → Nat → Int64) × (Nat → Nat → Nat) × (Nat → Nat) × (Nat → Nat → Nat) × Nat × Nat
abbrev sJk : sV := .inr (.inr (31, none))
/-- ints of fields, truths of fields, references of fields; ints, truths, references, longs of arrays; lengths; how many of a kind; their places; cells, slots -/
def sI (t : sT) : Nat → Nat → Int32 := t.1
def sZ (t : sT) : Nat → Nat → Bool := t.2.1
def sR (t : sT) : Nat → Nat → Option Nat := t.2.2.1
def sA (t : sT) : Nat → Nat → Nat → Int32 := t.2.2.2.1
def sB (t : sT) : Nat → Nat → Nat → Bool := t.2.2.2.2.1
def sE (t : sT) : Nat → Nat → Nat → Nat × Option Nat := t.2.2.2.2.2.1
def sL (t : sT) : Nat → Nat → Nat → Int64 := t.2.2.2.2.2.2.1
def sN (t : sT) : Nat → Nat → Nat := t.2.2.2.2.2.2.2.1
def sC (t : sT) : Nat → Nat := t.2.2.2.2.2.2.2.2.1
def sG (t : sT) : Nat → Nat → Nat := t.2.2.2.2.2.2.2.2.2.1
def sn (t : sT) : Nat := t.2.2.2.2.2.2.2.2.2.2.1
def sw (t : sT) : Nat := t.2.2.2.2.2.2.2.2.2.2.2
def sMk (i : Nat → Nat → Int32) (z : Nat → Nat → Bool) (r : Nat → Nat → Option Nat) (a : Nat → Nat → Nat → Int32) (b : Nat → Nat → Nat → Bool) (e : Nat → Nat → Nat → Nat × Option Nat) (l : Nat → Nat → Nat → Int64) (n : Nat → Nat → Nat) (c : Nat → Nat) (g : Nat → Nat → Nat) (cn cw : Nat) : sT := (i, z, r, a, b, e, l, n, c, g, cn, cw)
def sU2 {α : Type} (m : Nat → Nat → α) (f o : Nat) (v : α) : Nat → Nat → α := fun f' o' => if f' = f ∧ o' = o then v else m f' o'
def sU3 {α : Type} (m : Nat → Nat → Nat → α) (k o p : Nat) (v : α) : Nat → Nat → Nat → α := fun k' o' p' => if k' = k ∧ o' = o ∧ p' = p then v else m k' o' p'
def sU1 {α : Type} (m : Nat → α) (k : Nat) (v : α) : Nat → α := fun k' => if k' = k then v else m k'
def sIw (t : sT) (f o : Nat) (v : Int32) : sT := sMk (sU2 (sI t) f o v) (sZ t) (sR t) (sA t) (sB t) (sE t) (sL t) (sN t) (sC t) (sG t) (sn t) (sw t)
def sZw (t : sT) (f o : Nat) (v : Bool) : sT := sMk (sI t) (sU2 (sZ t) f o v) (sR t) (sA t) (sB t) (sE t) (sL t) (sN t) (sC t) (sG t) (sn t) (sw t)
def sRw (t : sT) (f o : Nat) (v : Option Nat) : sT := sMk (sI t) (sZ t) (sU2 (sR t) f o v) (sA t) (sB t) (sE t) (sL t) (sN t) (sC t) (sG t) (sn t) (sw t)
def sAw (t : sT) (k o p : Nat) (v : Int32) : sT := sMk (sI t) (sZ t) (sR t) (sU3 (sA t) k o p v) (sB t) (sE t) (sL t) (sN t) (sC t) (sG t) (sn t) (sw t)
def sBw (t : sT) (k o p : Nat) (v : Bool) : sT := sMk (sI t) (sZ t) (sR t) (sA t) (sU3 (sB t) k o p v) (sE t) (sL t) (sN t) (sC t) (sG t) (sn t) (sw t)
def sEw (t : sT) (k o p : Nat) (v : Nat × Option Nat) : sT := sMk (sI t) (sZ t) (sR t) (sA t) (sB t) (sU3 (sE t) k o p v) (sL t) (sN t) (sC t) (sG t) (sn t) (sw t)
def sLw (t : sT) (k o p : Nat) (v : Int64) : sT := sMk (sI t) (sZ t) (sR t) (sA t) (sB t) (sE t) (sU3 (sL t) k o p v) (sN t) (sC t) (sG t) (sn t) (sw t)
/-- a new object of a kind, of w slots: fields past the last one are 0, false, null -/
def sNew (t : sT) (k w : Nat) : sT := sMk (sI t) (sZ t) (sR t) (sA t) (sB t) (sE t) (sL t) (sN t) (sU1 (sC t) k (sC t k + 1)) (sU2 (sG t) k (sC t k) (sn t)) (sn t + 1) (sw t + w)
def sNwA (t : sT) (k n : Nat) : sT := sMk (sI t) (sZ t) (sR t) (sA t) (sB t) (sE t) (sL t) (sU2 (sN t) k (sC t k) n) (sU1 (sC t) k (sC t k + 1)) (sU2 (sG t) k (sC t k) (sn t)) (sn t + 1) (sw t + n)
/-- a longer copy of an array of references -/
def sCpy (t : sT) (i n : Nat) : sT := sMk (sI t) (sZ t) (sR t) (sA t) (sB t) (fun k o p => if k = 27 ∧ o = sC t 27 ∧ p < sN t 27 i then sE t 27 i p else sE t k o p) (sL t) (sU2 (sN t) 27 (sC t 27) n) (sU1 (sC t) 27 (sC t 27 + 1)) (sU2 (sG t) 27 (sC t 27) (sn t)) (sn t + 1) (sw t + n)
/-- a throw: an object of which nothing is known -/
def sThr (t : sT) : sT := sMk (sI t) (sZ t) (sR t) (sA t) (sB t) (sE t) (sL t) (sN t) (sC t) (sG t) (sn t + 1) (sw t + 6)
def sCat : sV → Nat
  | .inr (.inl _) => 2
  | _ => 1
/-- what a store to a local does to a long just ahead of it -/
def sKl (ls : List sV) (a : Nat) : List sV := match a with
  | 0 => ls
  | a + 1 => match ls[a]? with
    | some (.inr (.inl _)) => ls.set a sJk
    | _ => ls
def sSt (ls : List sV) (a : Nat) (v : sV) : List sV := (sKl ls a).set a v
def sSt2 (ls : List sV) (a : Nat) (v : sV) : List sV := ((sKl ls a).set a v).set (a + 1) sJk
def sTg (pc : Nat) (off : Int) : Nat := ((pc : Int) + off).toNat
def sSw (pc : Nat) (d lo hi : Int) (offs : Array Int) (x : Int32) : Nat := if x.toInt < lo ∨ hi < x.toInt then sTg pc d else match offs[(x.toInt - lo).toNat]? with
  | some o => sTg pc o
  | none => 0
abbrev sNx : Type := Option (Nat × List sV × List sV × sT)
def sFld (t : sT) (a b c o : Nat) : sV := match b with
  | 0 => .inl (sI t a o)
  | 1 => .inl (if sZ t a o = true then 1 else 0)
  | _ => .inr (.inr (c, sR t a o))
def sPut (t : sT) (a b c o : Nat) (w : sV) : Option sT := match b, w with
  | 0, .inl x => some (sIw t a o x)
  | 1, .inl x => if x = 0 ∨ x = 1 then some (sZw t a o (decide (x = 1))) else none
  | 2, .inr (.inr (k, r)) => if k = c then some (sRw t a o r) else none
  | _, _ => none
def sCond (q : ClassFile.Cond) (x : Int32) (y : Int32) : Bool := match q with
  | .eq => decide (x = y)
  | .ne => decide (¬ x = y)
  | .lt => decide (x < y)
  | .ge => decide (y ≤ x)
  | .gt => decide (y < x)
  | .le => decide (x ≤ y)
/-- the place of an index -/
def sIn (x : Int32) (n : Nat) : Bool := decide (0 ≤ x) && Nat.blt x.toNatClampNeg n
def sElk (k : Nat) : Nat := match k with
  | 24 => 1
  | 25 => 2
  | 26 => 7
  | _ => 31
def sJmp (q : Bool) (a pc n : Nat) : Nat := if q = true then a else pc + n
def sLcmp (x y : Int64) : Int32 := if y < x then 1 else if x = y then 0 else -1
def sStp (x : Instr) (n a b c : Nat) (v : Int32) (pc : Nat) (ls st : List sV) (t : sT) : sNx := match x, st with
  | .iconst _, st => some (pc + n, ls, .inl v :: st, t)
  | .bipush _, st => some (pc + n, ls, .inl v :: st, t)
  | .sipush _, st => some (pc + n, ls, .inl v :: st, t)
  | .ldc _, st => some (pc + n, ls, .inl v :: st, t)
  | .ldc_w _, st => some (pc + n, ls, .inl v :: st, t)
  | .lconst _, st => some (pc + n, ls, .inr (.inl (Int64.ofNat a)) :: st, t)
  | .aconst_null, st => if a = 31 then none else some (pc + n, ls, .inr (.inr (a, none)) :: st, t)
  | .iload _, st => match ls[a]? with
    | some (.inl i) => some (pc + n, ls, .inl i :: st, t)
    | _ => none
  | .iload_n _, st => match ls[a]? with
    | some (.inl i) => some (pc + n, ls, .inl i :: st, t)
    | _ => none
  | .lload _, st => match ls[a]? with
    | some (.inr (.inl i)) => some (pc + n, ls, .inr (.inl i) :: st, t)
    | _ => none
  | .lload_n _, st => match ls[a]? with
    | some (.inr (.inl i)) => some (pc + n, ls, .inr (.inl i) :: st, t)
    | _ => none
  | .aload _, st => match ls[a]? with
    | some (.inr (.inr (k, r))) => if k = 31 then none else some (pc + n, ls, .inr (.inr (k, r)) :: st, t)
    | _ => none
  | .aload_n _, st => match ls[a]? with
    | some (.inr (.inr (k, r))) => if k = 31 then none else some (pc + n, ls, .inr (.inr (k, r)) :: st, t)
    | _ => none
  | .istore _, .inl i :: st => if a < ls.length then some (pc + n, sSt ls a (.inl i), st, t) else none
  | .istore_n _, .inl i :: st => if a < ls.length then some (pc + n, sSt ls a (.inl i), st, t) else none
  | .lstore _, .inr (.inl i) :: st => if a + 1 < ls.length then some (pc + n, sSt2 ls a (.inr (.inl i)), st, t) else none
  | .lstore_n _, .inr (.inl i) :: st => if a + 1 < ls.length then some (pc + n, sSt2 ls a (.inr (.inl i)), st, t) else none
  | .astore _, .inr (.inr (k, r)) :: st => if a < ls.length ∧ (k = 31 → ¬ r = none) then some (pc + n, sSt ls a (.inr (.inr (k, r))), st, t) else none
  | .astore_n _, .inr (.inr (k, r)) :: st => if a < ls.length ∧ (k = 31 → ¬ r = none) then some (pc + n, sSt ls a (.inr (.inr (k, r))), st, t) else none
  | .iinc _ _, st => match ls[a]? with
    | some (.inl i) => some (pc + n, sSt ls a (.inl (i + v)), st, t)
    | _ => none
  | .dup, x :: st => if sCat x = 1 then some (pc + n, ls, x :: x :: st, t) else none
  | .dup2, x :: y :: st => if sCat x = 1 ∧ sCat y = 1 then some (pc + n, ls, x :: y :: x :: y :: st, t) else none
  | .dup_x1, x :: y :: st => if sCat x = 1 ∧ sCat y = 1 then some (pc + n, ls, x :: y :: x :: st, t) else none
  | .pop, x :: st => if sCat x = 1 then some (pc + n, ls, st, t) else none
  | .iadd, .inl y :: .inl x :: st => some (pc + n, ls, .inl (x + y) :: st, t)
  | .isub, .inl y :: .inl x :: st => some (pc + n, ls, .inl (x - y) :: st, t)
  | .imul, .inl y :: .inl x :: st => some (pc + n, ls, .inl (x * y) :: st, t)
  | .idiv, .inl y :: .inl x :: st => if y = 0 then none else some (pc + n, ls, .inl (x / y) :: st, t)
  | .irem, .inl y :: .inl x :: st => if y = 0 then none else some (pc + n, ls, .inl (x - x / y * y) :: st, t)
  | .iand, .inl y :: .inl x :: st => some (pc + n, ls, .inl (x &&& y) :: st, t)
  | .ishr, .inl y :: .inl x :: st => some (pc + n, ls, .inl (x >>> (y &&& 31)) :: st, t)
  | .ineg, .inl x :: st => some (pc + n, ls, .inl (-x) :: st, t)
  | .i2l, .inl x :: st => some (pc + n, ls, .inr (.inl x.toInt64) :: st, t)
  | .l2i, .inr (.inl x) :: st => some (pc + n, ls, .inl x.toInt32 :: st, t)
  | .ladd, .inr (.inl y) :: .inr (.inl x) :: st => some (pc + n, ls, .inr (.inl (x + y)) :: st, t)
  | .lsub, .inr (.inl y) :: .inr (.inl x) :: st => some (pc + n, ls, .inr (.inl (x - y)) :: st, t)
  | .lmul, .inr (.inl y) :: .inr (.inl x) :: st => some (pc + n, ls, .inr (.inl (x * y)) :: st, t)
  | .ldiv, .inr (.inl y) :: .inr (.inl x) :: st => if y = 0 then none else some (pc + n, ls, .inr (.inl (x / y)) :: st, t)
  | .lcmp, .inr (.inl y) :: .inr (.inl x) :: st => some (pc + n, ls, .inl (sLcmp x y) :: st, t)
  | .ifCond q _, .inl x :: st => some (sJmp (sCond q x 0) a pc n, ls, st, t)
  | .if_icmp q _, .inl y :: .inl x :: st => some (sJmp (sCond q x y) a pc n, ls, st, t)
  | .if_acmp q _, .inr (.inr (k, r)) :: .inr (.inr (k', r')) :: st => if k = k' ∧ (k < 14 ∨ (20 ≤ k ∧ k < 28)) then (match q with
    | .eq => some (sJmp (decide (r' = r)) a pc n, ls, st, t)
    | .ne => some (sJmp (decide (¬ r' = r)) a pc n, ls, st, t)) else none
  | .ifnull _, .inr (.inr (k, r)) :: st => if k = 31 then none else some (sJmp (decide (r = none)) a pc n, ls, st, t)
  | .ifnonnull _, .inr (.inr (k, r)) :: st => if k = 31 then none else some (sJmp (decide (¬ r = none)) a pc n, ls, st, t)
  | .goto _, st => some (a, ls, st, t)
  | .tableswitch d lo hi offs, .inl x :: st => some (sSw pc d lo hi offs x, ls, st, t)
  | .getfield _, .inr (.inr (k, some o)) :: st => if k = a / 64 then some (pc + n, ls, sFld t a b c o :: st, t) else none
  | .putfield _, w :: .inr (.inr (k, some o)) :: st => if k = a / 64 then (sPut t a b c o w).map (fun t' => (pc + n, ls, st, t')) else none
  | .getstatic _, st => if b < sC t a then some (pc + n, ls, .inr (.inr (a, some b)) :: st, t) else none
  | .new _, st => if c = 0 then some (pc + n, ls, .inr (.inr (a, some (sC t a))) :: st, sNew t a b) else none
  | .newarray _, .inl x :: st => if 0 ≤ x ∧ x ≤ 100000 then some (pc + n, ls, .inr (.inr (a, some (sC t a))) :: st, sNwA t a x.toNatClampNeg) else none
  | .anewarray _, .inl x :: st => if 0 ≤ x ∧ x ≤ 100000 then some (pc + n, ls, .inr (.inr (a, some (sC t a))) :: st, sNwA t a x.toNatClampNeg) else none
  | .arraylength, .inr (.inr (k, some o)) :: st => if 20 ≤ k ∧ k < 30 then some (pc + n, ls, .inl (Int32.ofNat (sN t k o)) :: st, t) else none
  | .iaload, .inl j :: .inr (.inr (k, some o)) :: st => if (k = 20 ∨ k = 21 ∨ k = 28 ∨ k = 29) ∧ sIn j (sN t k o) = true then some (pc + n, ls, .inl (sA t k o j.toNatClampNeg) :: st, t) else none
  | .baload, .inl j :: .inr (.inr (k, some o)) :: st => if k = 22 ∧ sIn j (sN t k o) = true then some (pc + n, ls, .inl (if sB t k o j.toNatClampNeg = true then 1 else 0) :: st, t) else none
  | .laload, .inl j :: .inr (.inr (k, some o)) :: st => if k = 23 ∧ sIn j (sN t k o) = true then some (pc + n, ls, .inr (.inl (sL t k o j.toNatClampNeg)) :: st, t) else none
  | .aaload, .inl j :: .inr (.inr (k, some o)) :: st => if (24 ≤ k ∧ k < 28) ∧ sIn j (sN t k o) = true then some (pc + n, ls, .inr (.inr (sE t k o j.toNatClampNeg)) :: st, t) else none
  | .iastore, .inl x :: .inl j :: .inr (.inr (k, some o)) :: st => if (k = 20 ∨ k = 21) ∧ sIn j (sN t k o) = true then some (pc + n, ls, st, sAw t k o j.toNatClampNeg x) else none
  | .bastore, .inl x :: .inl j :: .inr (.inr (k, some o)) :: st => if k = 22 ∧ sIn j (sN t k o) = true ∧ (x = 0 ∨ x = 1) then some (pc + n, ls, st, sBw t k o j.toNatClampNeg (decide (x = 1))) else none
  | .lastore, .inr (.inl x) :: .inl j :: .inr (.inr (k, some o)) :: st => if k = 23 ∧ sIn j (sN t k o) = true then some (pc + n, ls, st, sLw t k o j.toNatClampNeg x) else none
  | .aastore, .inr (.inr (k', r)) :: .inl j :: .inr (.inr (k, some o)) :: st => if ((24 ≤ k ∧ k < 27 ∧ k' = sElk k) ∨ (k = 27 ∧ k' < 14)) ∧ sIn j (sN t k o) = true then some (pc + n, ls, st, sEw t k o j.toNatClampNeg (k', r)) else none
  | .checkcast _, .inr (.inr (k, r)) :: st => if k = a ∨ (r = none ∧ ¬ k = 31) then some (pc + n, ls, .inr (.inr (a, r)) :: st, t) else none
  | _, _ => none
/-- the locals of a call -/
def sEx : List sV → List sV
  | [] => []
  | .inr (.inl x) :: l => .inr (.inl x) :: sJk :: sEx l
  | x :: l => x :: sEx l
abbrev sRs : Type := Option sV ⊕ Nat
/-- a step, a call (whom, with what, what stays), or an end -/
abbrev sAc : Type := Option ((Nat × List sV × List sV × sT) ⊕ ((Nat × List sV × List sV) ⊕ (sRs × sT)))
def sNj (x : sV) : Bool := match x with
  | .inr (.inr (k, _)) => !(Nat.beq k 31)
  | _ => true
/-- the arguments of a call: none of them unknown, room for them -/
noncomputable def sAk (a b : Nat) (st : List sV) : Bool := (st.take b).all sNj && Nat.ble (sEx (st.take b).reverse).length (sML a)
noncomputable def sCall (a b c pc n : Nat) (ls st : List sV) (t : sT) : sAc :=
  if b ≤ st.length ∧ ((st.drop b).map sCat).sum ≤ (bif Nat.beq c 0 then 9 else 8) then
    match c with
    | 0 => if sAk a b st = true then some (.inr (.inl (a, (st.take b).reverse, st.drop b))) else none
    | 4 => match (st.take b).reverse with
      | .inr (.inr (k, some _)) :: _ => if k = sRk a ∧ sAk a b st = true then some (.inr (.inl (a, (st.take b).reverse, st.drop b))) else none
      | _ => none
    | 1 => match st with
      | .inr (.inr (k, some _)) :: r => if k < 14 then some (.inl (pc + n, ls, r, t)) else none
      | _ => none
    | 2 => match st with
      | .inl x :: .inr (.inr (27, some i)) :: r => if (sN t 27 i ≤ x.toNatClampNeg ∧ 0 < sN t 27 i) ∧ (0 ≤ x ∧ x ≤ 100000) then some (.inl (pc + n, ls, .inr (.inr (27, some (sC t 27))) :: r, sCpy t i x.toNatClampNeg)) else none
      | _ => none
    | 5 => match st with
      | .inl x :: r => some (.inl (pc + n, ls, .inl (if 0 ≤ x then x else 0 - x) :: r, t))
      | _ => none
    | 6 => match st with
      | .inl y :: .inl x :: r => some (.inl (pc + n, ls, .inl (if x < y then y else x) :: r, t))
      | _ => none
    | 7 => match st with
      | .inl y :: .inl x :: r => some (.inl (pc + n, ls, .inl (if y < x then y else x) :: r, t))
      | _ => none
    | 8 => match st with
      | .inr (.inl y) :: .inr (.inl x) :: r => some (.inl (pc + n, ls, .inr (.inl (if y < x then y else x)) :: r, t))
      | _ => none
    | _ => none
  else none
noncomputable def sAct (x : Instr) (n a b c : Nat) (v : Int32) (pc : Nat) (rb : Bool) (ls st : List sV) (t : sT) : sAc := match x with
  | .invokevirtual _ => sCall a b c pc n ls st t
  | .invokespecial _ => sCall a b c pc n ls st t
  | .invokestatic _ => sCall a b c pc n ls st t
  | .ireturn => match st with
    | [.inl i] => if rb = false ∨ i = 0 ∨ i = 1 then some (.inr (.inr (.inl (some (.inl i)), t))) else none
    | _ => none
  | .lreturn => match st with
    | [.inr (.inl i)] => some (.inr (.inr (.inl (some (.inr (.inl i))), t)))
    | _ => none
  | .areturn => match st with
    | [.inr (.inr (k, r))] => if k = 31 then none else some (.inr (.inr (.inl (some (.inr (.inr (k, r)))), t)))
    | _ => none
  | .return_ => match st with
    | [] => some (.inr (.inr (.inl none, t)))
    | _ => none
  | .new j => if c = 1 then (if (st.map sCat).sum ≤ 8 then some (.inr (.inr (.inr a, sThr t))) else none) else (sStp (.new j) n a b c v pc ls st t).map .inl
  | x => (sStp x n a b c v pc ls st t).map .inl
def sEn (args : List sV) (n : Nat) : List sV := sEx args ++ List.replicate (n - (sEx args).length) sJk
noncomputable def sRb (i : Nat) : Bool := decide (sRt i = some .boolean)
noncomputable def sIni (g : Nat) : Bool := decide ((sY g).name = "<init>")
noncomputable def sRun : Nat → Nat → Nat → List sV → List sV → sT → Option (sRs × sT)
  | 0, _, _, _, _, _ => none
  | f + 1, m, pc, ls, st, t => match (sCode m pc).bind (fun i => sAct i.1 i.2.1 i.2.2.1 i.2.2.2.1 i.2.2.2.2.1 i.2.2.2.2.2 pc (sRb m) ls st t) with
    | none => none
    | some (.inl (pc', ls', st', t')) => sRun f m pc' ls' st' t'
    | some (.inr (.inl (g, args, rest))) => match sRun f g 0 (sEn args (sML g)) [] t with
      | none => none
      | some (.inl r, t') => sRun f m (pc + 3) ls (r.toList ++ rest) t'
      | some (.inr E, t') => if (sIni g || Nat.beq m 297) = true then none else match sHnd m pc E with
        | some h => sRun f m h ls [.inr (.inr (31, some 0))] t'
        | none => some (.inr E, t')
    | some (.inr (.inr rt)) => some rt
theorem sCode_lt {i pc : Nat} {q : sIns} (h : sCode i pc = some q) : i < sNm := by
  unfold sCode at h
  cases hg : (Nat.blt i sNm && Nat.blt pc (sLen i)) with
  | false => rw [hg] at h; cases h
  | true =>
    simp only [Bool.and_eq_true, Nat.blt_eq] at hg
    exact hg.1
